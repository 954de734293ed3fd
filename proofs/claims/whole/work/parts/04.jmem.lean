set_option maxRecDepth 100000 in
theorem ingX0 : ∀ w ∈ u_ws RX0 TX0 3, w ∈ gtbl := by decide +kernel
set_option maxRecDepth 100000 in
theorem ingX1 : ∀ w ∈ u_ws RX1 TX1 5, w ∈ gtbl := by decide +kernel
set_option maxRecDepth 100000 in
theorem ingX2 : ∀ w ∈ u_ws RX2 TX2 5, w ∈ gtbl := by decide +kernel
set_option maxRecDepth 100000 in
theorem ingX3 : ∀ w ∈ u_ws RX3 TX3 6, w ∈ gtbl := by decide +kernel
set_option maxRecDepth 100000 in
theorem ingX4 : ∀ w ∈ u_ws RX4 TX4 10, w ∈ gtbl := by decide +kernel
set_option maxRecDepth 100000 in
theorem ingX5 : ∀ w ∈ u_ws RX5 TX5 5, w ∈ gtbl := by decide +kernel
set_option maxRecDepth 100000 in
theorem ingX6 : ∀ w ∈ u_ws RX6 TX6 3, w ∈ gtbl := by decide +kernel
set_option maxRecDepth 100000 in
theorem ingX7 : ∀ w ∈ u_ws RX7 TX7 2, w ∈ gtbl := by decide +kernel
set_option maxRecDepth 100000 in
theorem ingX8 : ∀ w ∈ u_ws RX8 TX8 10, w ∈ gtbl := by decide +kernel
set_option maxRecDepth 100000 in
theorem ingX9 : ∀ w ∈ u_ws RX9 TX9 4, w ∈ gtbl := by decide +kernel
set_option maxRecDepth 100000 in
theorem ingX10 : ∀ w ∈ u_ws RX10 TX10 9, w ∈ gtbl := by decide +kernel
set_option maxRecDepth 100000 in
theorem ingX11 : ∀ w ∈ u_ws RX11 TX11 38, w ∈ gtbl := by decide +kernel
section JM
variable {X : JX} {l : Launch} {G : GG} {cc : ByteArray} {nL : Nat} {own : String} {rt : Option FieldType} {d mc ms : Nat} {post : Option Value → va_W → Prop} {k n pc : Nat} {ws : va_W} {lv : List (Nat × Value)} {st : List Value}
theorem j_get (q : Nat) {idx ci a : Nat} {Cn : String} {T : u_T} {N : Nat} {fs : List Value} {v : Value} (C : Cx X l G cc nL own rt d mc ms post) (hd : decode cc pc = .ok (.getfield idx, 3)) (hq : pc + 3 = q) (q0 : Nat) (he : ws[q0]? = some (a, .inr (ci, fs))) (hc : classes[ci]? = some (Cn, T, N)) (hin : ∀ w ∈ u_ws Cn T N, w ∈ gtbl) (f : Nat) (hf : f < N) (hlf : Cond.fieldLink own idx (T f).1 (T f).2.1 (T f).2.2.1 ∈ gtbl) (hv : fs[f]? = some v) (kk : J X nL k n ws q lv (v :: st)) : J X nL k n ws pc lv (.ref a :: st) := by
  subst hq
  obtain ⟨p, l, e, R, s, m, args, below, meth, c, A, G, Q⟩ := X
  obtain ⟨hx, hb, hml, hown, hts, hK, hA, hlk, hrt, hR, hQ, hl0, hG, hEV⟩ := C
  subst hG
  intro H locs ls hP hD hS hl
  exact va_get hx hb hts hin hown hK hP q0 he hc f hf (hts _ hlf) (fun _ h => h) hv hd (kk H locs ls hP hD hS hl)
theorem j_put (q : Nat) {idx ci a : Nat} {Cn : String} {T : u_T} {N : Nat} {fs : List Value} {v : Value} {ws' : va_W} (ty0 : Nat → FieldType) (C : Cx X l G cc nL own rt d mc ms post) (hd : decode cc pc = .ok (.putfield idx, 3)) (hq : pc + 3 = q) (q0 : Nat) (he : ws[q0]? = some (a, .inr (ci, fs))) (hc : classes[ci]? = some (Cn, T, N)) (hin : ∀ w ∈ u_ws Cn T N, w ∈ gtbl) (hty : ∀ k, k < N → parseFieldDescriptor (T k).2.2.1 = some (ty0 k)) (hnm : ∀ a, a < N → ∀ b, b < N → a ≠ b → (T a).2.1 ≠ (T b).2.1) (f : Nat) (hf : f < N) (hlf : Cond.fieldLink own idx (T f).1 (T f).2.1 (T f).2.2.1 ∈ gtbl) (hfin : (T f).2.2.2 = false) (hn : narrow (ty0 f) v = v) (hfit : fits (ty0 f) v = true) (hl9 : f < fs.length) (hws : ws.set q0 (a, .inr (ci, fs.set f v)) = ws') (kk : J X nL k n ws' q lv st) : J X nL k n ws pc lv (v :: .ref a :: st) := by
  subst hq
  subst hws
  obtain ⟨p, l, e, R, s, m, args, below, meth, c, A, G, Q⟩ := X
  obtain ⟨hx, hb, hml, hown, hts, hK, hA, hlk, hrt, hR, hQ, hl0, hG, hEV⟩ := C
  subst hG
  intro H locs ls hP hD hS hl
  exact va_put hx hb hts hin ty0 hty hnm hown hK hP hD hS q0 he hc f hf (hts _ hlf) (fun _ h => h) hfin (hty f hf) hn hfit hl9 hd (fun H1 locs1 hP1 hD1 hS1 => kk H1 locs1 ls hP1 hD1 hS1 hl)
theorem j_iald (q : Nat) {a z : Nat} {f : Nat → Int32} {y : Int32} (C : Cx X l G cc nL own rt d mc ms post) (hd : decode cc pc = .ok (.iaload, 1)) (hq : pc + 1 = q) (q0 : Nat) (ha : ws[q0]? = some (a, .inl (G.2.1 0, z, (.inl f)))) (i : Nat) (hi : i < z) (hz : z < 2 ^ 31) (hy : y = nI i) (kk : J X nL k n ws q lv (.int (f i) :: st)) : J X nL k n ws pc lv (.int y :: .ref a :: st) := by
  subst hq
  subst hy
  obtain ⟨p, l, e, R, s, m, args, below, meth, c, A, G, Q⟩ := X
  obtain ⟨hx, hb, hml, hown, hts, hK, hA, hlk, hrt, hR, hQ, hl0, hG, hEV⟩ := C
  subst hG
  intro H locs ls hP hD hS hl
  refine va_iald hx hb hK hP q0 0 ha rfl (vp_in_nI hi hz) hd ?_
  rw [nI_clamp (Nat.lt_trans hi hz)]
  exact kk H locs ls hP hD hS hl
theorem j_iast (q : Nat) {a z : Nat} {f : Nat → Int32} {y : Int32} {x : Int32} {ws' : va_W} (C : Cx X l G cc nL own rt d mc ms post) (hd : decode cc pc = .ok (.iastore, 1)) (hq : pc + 1 = q) (q0 : Nat) (ha : ws[q0]? = some (a, .inl (G.2.1 0, z, (.inl f)))) (i : Nat) (hi : i < z) (hz : z < 2 ^ 31) (hy : y = nI i) (hws : ws.set q0 (a, .inl (G.2.1 0, z, (.inl (upd f i x)))) = ws') (kk : J X nL k n ws' q lv st) : J X nL k n ws pc lv (.int x :: .int y :: .ref a :: st) := by
  subst hq
  subst hy
  subst hws
  obtain ⟨p, l, e, R, s, m, args, below, meth, c, A, G, Q⟩ := X
  obtain ⟨hx, hb, hml, hown, hts, hK, hA, hlk, hrt, hR, hQ, hl0, hG, hEV⟩ := C
  subst hG
  intro H locs ls hP hD hS hl
  refine va_iast hx hb hK hP hD hS q0 0 ha rfl (vp_in_nI hi hz) hd ?_
  rw [nI_clamp (Nat.lt_trans hi hz)]
  exact fun H1 locs1 hP1 hD1 hS1 => kk H1 locs1 ls hP1 hD1 hS1 hl
theorem j_bald (q : Nat) {a z : Nat} {f : Nat → Int32} {y : Int32} (C : Cx X l G cc nL own rt d mc ms post) (hd : decode cc pc = .ok (.baload, 1)) (hq : pc + 1 = q) (q0 : Nat) (ha : ws[q0]? = some (a, .inl (G.2.1 1, z, (.inl f)))) (i : Nat) (hi : i < z) (hz : z < 2 ^ 31) (hy : y = nI i) (kk : J X nL k n ws q lv (.int (f i) :: st)) : J X nL k n ws pc lv (.int y :: .ref a :: st) := by
  subst hq
  subst hy
  obtain ⟨p, l, e, R, s, m, args, below, meth, c, A, G, Q⟩ := X
  obtain ⟨hx, hb, hml, hown, hts, hK, hA, hlk, hrt, hR, hQ, hl0, hG, hEV⟩ := C
  subst hG
  intro H locs ls hP hD hS hl
  refine va_bald hx hb hK hP q0 1 ha rfl (vp_in_nI hi hz) hd ?_
  rw [nI_clamp (Nat.lt_trans hi hz)]
  exact kk H locs ls hP hD hS hl
theorem j_bast (q : Nat) {a z : Nat} {f : Nat → Int32} {y : Int32} {x : Int32} {ws' : va_W} (C : Cx X l G cc nL own rt d mc ms post) (hd : decode cc pc = .ok (.bastore, 1)) (hq : pc + 1 = q) (q0 : Nat) (ha : ws[q0]? = some (a, .inl (G.2.1 1, z, (.inl f)))) (i : Nat) (hi : i < z) (hz : z < 2 ^ 31) (hy : y = nI i) (hws : ws.set q0 (a, .inl (G.2.1 1, z, (.inl (upd f i (vp_nar .byte x))))) = ws') (kk : J X nL k n ws' q lv st) : J X nL k n ws pc lv (.int x :: .int y :: .ref a :: st) := by
  subst hq
  subst hy
  subst hws
  obtain ⟨p, l, e, R, s, m, args, below, meth, c, A, G, Q⟩ := X
  obtain ⟨hx, hb, hml, hown, hts, hK, hA, hlk, hrt, hR, hQ, hl0, hG, hEV⟩ := C
  subst hG
  intro H locs ls hP hD hS hl
  refine va_bast hx hb hK hP hD hS q0 1 ha rfl (vp_in_nI hi hz) hd ?_
  rw [nI_clamp (Nat.lt_trans hi hz)]
  exact fun H1 locs1 hP1 hD1 hS1 => kk H1 locs1 ls hP1 hD1 hS1 hl
theorem j_zald (q : Nat) {a z : Nat} {f : Nat → Int32} {y : Int32} (C : Cx X l G cc nL own rt d mc ms post) (hd : decode cc pc = .ok (.baload, 1)) (hq : pc + 1 = q) (q0 : Nat) (ha : ws[q0]? = some (a, .inl (G.2.1 2, z, (.inl f)))) (i : Nat) (hi : i < z) (hz : z < 2 ^ 31) (hy : y = nI i) (kk : J X nL k n ws q lv (.int (f i) :: st)) : J X nL k n ws pc lv (.int y :: .ref a :: st) := by
  subst hq
  subst hy
  obtain ⟨p, l, e, R, s, m, args, below, meth, c, A, G, Q⟩ := X
  obtain ⟨hx, hb, hml, hown, hts, hK, hA, hlk, hrt, hR, hQ, hl0, hG, hEV⟩ := C
  subst hG
  intro H locs ls hP hD hS hl
  refine va_zald hx hb hK hP q0 2 ha rfl (vp_in_nI hi hz) hd ?_
  rw [nI_clamp (Nat.lt_trans hi hz)]
  exact kk H locs ls hP hD hS hl
theorem j_zast (q : Nat) {a z : Nat} {f : Nat → Int32} {y : Int32} {x : Int32} {ws' : va_W} (C : Cx X l G cc nL own rt d mc ms post) (hd : decode cc pc = .ok (.bastore, 1)) (hq : pc + 1 = q) (q0 : Nat) (ha : ws[q0]? = some (a, .inl (G.2.1 2, z, (.inl f)))) (i : Nat) (hi : i < z) (hz : z < 2 ^ 31) (hy : y = nI i) (hws : ws.set q0 (a, .inl (G.2.1 2, z, (.inl (upd f i (vp_nar .boolean x))))) = ws') (kk : J X nL k n ws' q lv st) : J X nL k n ws pc lv (.int x :: .int y :: .ref a :: st) := by
  subst hq
  subst hy
  subst hws
  obtain ⟨p, l, e, R, s, m, args, below, meth, c, A, G, Q⟩ := X
  obtain ⟨hx, hb, hml, hown, hts, hK, hA, hlk, hrt, hR, hQ, hl0, hG, hEV⟩ := C
  subst hG
  intro H locs ls hP hD hS hl
  refine va_zast hx hb hK hP hD hS q0 2 ha rfl (vp_in_nI hi hz) hd ?_
  rw [nI_clamp (Nat.lt_trans hi hz)]
  exact fun H1 locs1 hP1 hD1 hS1 => kk H1 locs1 ls hP1 hD1 hS1 hl
theorem j_lald (q : Nat) {a z : Nat} {f : Nat → Int64} {y : Int32} (C : Cx X l G cc nL own rt d mc ms post) (hd : decode cc pc = .ok (.laload, 1)) (hq : pc + 1 = q) (q0 : Nat) (ha : ws[q0]? = some (a, .inl (G.2.1 3, z, (.inr (.inl f))))) (i : Nat) (hi : i < z) (hz : z < 2 ^ 31) (hy : y = nI i) (kk : J X nL k n ws q lv (.long (f i) :: st)) : J X nL k n ws pc lv (.int y :: .ref a :: st) := by
  subst hq
  subst hy
  obtain ⟨p, l, e, R, s, m, args, below, meth, c, A, G, Q⟩ := X
  obtain ⟨hx, hb, hml, hown, hts, hK, hA, hlk, hrt, hR, hQ, hl0, hG, hEV⟩ := C
  subst hG
  intro H locs ls hP hD hS hl
  refine va_lald hx hb hK hP q0 3 ha rfl (vp_in_nI hi hz) hd ?_
  rw [nI_clamp (Nat.lt_trans hi hz)]
  exact kk H locs ls hP hD hS hl
theorem j_last (q : Nat) {a z : Nat} {f : Nat → Int64} {y : Int32} {x : Int64} {ws' : va_W} (C : Cx X l G cc nL own rt d mc ms post) (hd : decode cc pc = .ok (.lastore, 1)) (hq : pc + 1 = q) (q0 : Nat) (ha : ws[q0]? = some (a, .inl (G.2.1 3, z, (.inr (.inl f))))) (i : Nat) (hi : i < z) (hz : z < 2 ^ 31) (hy : y = nI i) (hws : ws.set q0 (a, .inl (G.2.1 3, z, (.inr (.inl (vp_updL f i x))))) = ws') (kk : J X nL k n ws' q lv st) : J X nL k n ws pc lv (.long x :: .int y :: .ref a :: st) := by
  subst hq
  subst hy
  subst hws
  obtain ⟨p, l, e, R, s, m, args, below, meth, c, A, G, Q⟩ := X
  obtain ⟨hx, hb, hml, hown, hts, hK, hA, hlk, hrt, hR, hQ, hl0, hG, hEV⟩ := C
  subst hG
  intro H locs ls hP hD hS hl
  refine va_last hx hb hK hP hD hS q0 3 ha rfl (vp_in_nI hi hz) hd ?_
  rw [nI_clamp (Nat.lt_trans hi hz)]
  exact fun H1 locs1 hP1 hD1 hS1 => kk H1 locs1 ls hP1 hD1 hS1 hl
end JM
