theorem vP_iff {D : va_G} {cl : List vw_C} {ws : va_W} {H : Heap} : va_P D cl ws H ↔ ∀ q ∈ ws, va_at D cl q H := by
  constructor
  · intro h q hq
    obtain ⟨k, hk⟩ := List.mem_iff_getElem?.mp hq
    exact h k q hk
  · intro h k q hk
    exact h q (List.mem_iff_getElem?.mpr ⟨k, hk⟩)
theorem vD_iff {A : Nat → Prop} {ws : va_W} : va_D A ws ↔ (ws.map Prod.fst).Nodup ∧ ∀ q ∈ ws, A q.1 := by
  unfold va_D
  refine and_congr ?_ ?_
  · unfold List.Nodup
    rw [List.pairwise_map, List.pairwise_iff_getElem]
    constructor
    · intro h i j hi hj hij e
      have := h i j _ _ (List.getElem?_eq_getElem hi) (List.getElem?_eq_getElem hj) e
      omega
    · intro h i j p q hi hj e
      obtain ⟨hi', rfl⟩ := List.getElem?_eq_some_iff.mp hi
      obtain ⟨hj', rfl⟩ := List.getElem?_eq_some_iff.mp hj
      rcases Nat.lt_trichotomy i j with z | z | z
      · exact absurd e (h i j hi' hj' z)
      · exact z
      · exact absurd e.symm (h j i hj' hi' z)
  · constructor
    · intro h q hq
      obtain ⟨k, hk⟩ := List.mem_iff_getElem?.mp hq
      exact h k q hk
    · intro h k q hk
      exact h q (List.mem_iff_getElem?.mpr ⟨k, hk⟩)
theorem vA_iff {ws : va_W} {sz q : Nat} : va_A ws sz q ↔ q ∈ ws.map Prod.fst ∨ sz ≤ q := by
  unfold va_A
  refine or_congr ?_ Iff.rfl
  rw [List.mem_map]
  constructor
  · rintro ⟨k, e, h⟩
    exact ⟨(q, e), List.mem_iff_getElem?.mpr ⟨k, h⟩, rfl⟩
  · rintro ⟨⟨a, e⟩, h, rfl⟩
    obtain ⟨k, hk⟩ := List.mem_iff_getElem?.mp h
    exact ⟨k, e, hk⟩
/-- what a call over a block leaves of the cells -/
theorem v_join {A0 : Nat → Prop} {D : va_G} {cl : List vw_C} {w1 wc w2 w : va_W} {H H1 : Heap} (hP : va_P D cl (w1 ++ (wc ++ w2)) H) (hD : va_D A0 (w1 ++ (wc ++ w2))) (hk : ∀ q : Nat, q < H.size → ¬ va_A wc H.size q → H1[q]? = H[q]?) (hF : ∀ q, va_A wc H.size q → A0 q) (hP1 : va_P D cl w H1) (hD1 : va_D (va_A wc H.size) w) : va_P D cl (w1 ++ (w ++ w2)) H1 ∧ va_D A0 (w1 ++ (w ++ w2)) := by
  have hD' := vD_iff.mp hD
  have hP' := vP_iff.mp hP
  have hD1' := vD_iff.mp hD1
  have hP1' := vP_iff.mp hP1
  obtain ⟨hN, hA⟩ := hD'
  rw [List.map_append, List.map_append, List.nodup_append, List.nodup_append] at hN
  obtain ⟨n1, ⟨nc, n2, nc2⟩, n1x⟩ := hN
  have hlt : ∀ q ∈ w1 ++ (wc ++ w2), q.1 < H.size := fun q hq => (hP' q hq).lt
  have o1 : ∀ q ∈ w1, ¬ va_A wc H.size q.1 := by
    intro q hq z
    rcases vA_iff.mp z with z | z
    · exact n1x q.1 (List.mem_map_of_mem hq) q.1 (List.mem_append.mpr (Or.inl z)) rfl
    · have := hlt q (List.mem_append.mpr (Or.inl hq)); omega
  have o2 : ∀ q ∈ w2, ¬ va_A wc H.size q.1 := by
    intro q hq z
    rcases vA_iff.mp z with z | z
    · exact nc2 q.1 z q.1 (List.mem_map_of_mem hq) rfl
    · have := hlt q (List.mem_append.mpr (Or.inr (List.mem_append.mpr (Or.inr hq)))); omega
  constructor
  · refine vP_iff.mpr fun q hq => ?_
    rcases List.mem_append.mp hq with h | h
    · exact (hP' q (List.mem_append.mpr (Or.inl h))).kept (hk q.1 (hlt q (List.mem_append.mpr (Or.inl h))) (o1 q h))
    · rcases List.mem_append.mp h with h | h
      · exact hP1' q h
      · have hm : q ∈ w1 ++ (wc ++ w2) := List.mem_append.mpr (Or.inr (List.mem_append.mpr (Or.inr h)))
        exact (hP' q hm).kept (hk q.1 (hlt q hm) (o2 q h))
  · refine vD_iff.mpr ⟨?_, fun q hq => ?_⟩
    · rw [List.map_append, List.map_append, List.nodup_append, List.nodup_append]
      refine ⟨n1, ⟨hD1'.1, n2, ?_⟩, ?_⟩
      · intro a ha b hb e
        obtain ⟨qa, hqa, rfl⟩ := List.mem_map.mp ha
        obtain ⟨qb, hqb, rfl⟩ := List.mem_map.mp hb
        exact o2 qb hqb (e ▸ hD1'.2 qa hqa)
      · intro a ha b hb e
        obtain ⟨qa, hqa, rfl⟩ := List.mem_map.mp ha
        rcases List.mem_append.mp hb with hb | hb
        · obtain ⟨qb, hqb, rfl⟩ := List.mem_map.mp hb
          exact o1 qa hqa (e ▸ hD1'.2 qb hqb)
        · exact n1x qa.1 ha b (List.mem_append.mpr (Or.inr hb)) e
    · rcases List.mem_append.mp hq with h | h
      · exact hA q (List.mem_append.mpr (Or.inl h))
      · rcases List.mem_append.mp h with h | h
        · exact hF q.1 (hD1'.2 q h)
        · exact hA q (List.mem_append.mpr (Or.inr (List.mem_append.mpr (Or.inr h))))
theorem v_mid {A0 : Nat → Prop} {D : va_G} {cl : List vw_C} {w1 wc w2 : va_W} {H0 H : Heap} {locs : List Loc} (hP : va_P D cl (w1 ++ (wc ++ w2)) H) (hD : va_D A0 (w1 ++ (wc ++ w2))) (hS : va_S A0 H0 H locs) (hA : ∀ q, H0.size ≤ q → A0 q) : va_P D cl wc H ∧ va_D A0 wc ∧ ∀ q, va_A wc H.size q → A0 q := by
  have hD' := vD_iff.mp hD
  have hP' := vP_iff.mp hP
  obtain ⟨hN, hA'⟩ := hD'
  rw [List.map_append, List.map_append, List.nodup_append, List.nodup_append] at hN
  obtain ⟨n1, ⟨nc, n2, nc2⟩, n1x⟩ := hN
  have hm : ∀ q ∈ wc, q ∈ w1 ++ (wc ++ w2) := fun q h => List.mem_append.mpr (Or.inr (List.mem_append.mpr (Or.inl h)))
  refine ⟨vP_iff.mpr fun q h => hP' q (hm q h), vD_iff.mpr ⟨nc, fun q h => hA' q (hm q h)⟩, fun q h => ?_⟩
  rcases vA_iff.mp h with z | z
  · obtain ⟨e, he, rfl⟩ := List.mem_map.mp z
    exact hA' e (hm e he)
  · exact hA q (Nat.le_trans hS.1 z)
section JN
variable {X : JX} {l : Launch} {G : GG} {cc : ByteArray} {nL : Nat} {own : String} {rt : Option FieldType} {d mc ms : Nat} {post : Option Value → va_W → Prop} {k n pc : Nat} {ws : va_W} {lv : List (Nat × Value)} {st : List Value}
theorem j_perm (ws' : va_W) (h : ws.Perm ws') (kk : J X nL k n ws' pc lv st) : J X nL k n ws pc lv st := by
  obtain ⟨p, l, e, R, s, m, args, below, meth, c, A, G, Q⟩ := X
  intro H locs ls hP hD hS hl
  refine kk H locs ls (vP_iff.mpr fun q hq => vP_iff.mp hP q (h.mem_iff.mpr hq)) (vD_iff.mpr ⟨?_, fun q hq => (vD_iff.mp hD).2 q (h.mem_iff.mpr hq)⟩) hS hl
  exact (h.map Prod.fst).nodup_iff.mp (vD_iff.mp hD).1
/-- cells that are asked no more -/
theorem j_drop (w1 w2 : va_W) (h : ws = w1 ++ w2) (kk : J X nL k n w1 pc lv st) : J X nL k n ws pc lv st := by
  subst h
  obtain ⟨p, l, e, R, s, m, args, below, meth, c, A, G, Q⟩ := X
  intro H locs ls hP hD hS hl
  have hD' := vD_iff.mp hD
  rw [List.map_append, List.nodup_append] at hD'
  exact kk H locs ls (vP_iff.mpr fun q hq => vP_iff.mp hP q (List.mem_append.mpr (Or.inl hq))) (vD_iff.mpr ⟨hD'.1.1, fun q hq => hD'.2 q (List.mem_append.mpr (Or.inl hq))⟩) hS hl
theorem j_newaI (q : Nat) {N : Nat} {y : Int32} (C : Cx X l G cc nL own rt d mc ms post) (hd : decode cc pc = .ok (.newarray .int, 2)) (hq : pc + 2 = q) (hy : y = nI N) (hN : N ≤ 65535) (harr : Cond.arrayClass .int ∈ gtbl) (hr : k + 1 ≤ mc ∧ n + N ≤ ms) (kk : ∀ a : Nat, J X nL (k + 1) (n + N) (ws ++ [(a, .inl (G.2.1 0, N, .inl (fun _ => 0)))]) q lv (.ref a :: st)) : J X nL k n ws pc lv (.int y :: st) := by
  subst hq
  subst hy
  obtain ⟨p, l, e, R, s, m, args, below, meth, c, A, G, Q⟩ := X
  obtain ⟨hx, hb, hml, hown, hts, hK, hA, hlk, hrt, hR, hQ, hl0, hG, hEV⟩ := C
  subst hG
  subst hR
  intro H locs ls hP hD hS hl
  refine va_newa (atype := .int) (ty := .int) (N' := N) (a0 := (N, .inl (fun _ => 0))) hx hb (hts _ harr) rfl hK hP hD hS hA (fun _ => rfl) (nI_pos (by omega)) (nI_clamp (by omega)) (by show N * 4 ≤ _; omega) hr.1 hr.2 hd ?_
  intro q cA H1 hK1 hP1 hD1 hS1
  have e1 := (hK1.2 ((tysOf G.2.1).length) (cA, .int) (by rw [List.getElem?_append_right (Nat.le_refl _)]; simp)).2
  have e0 := (hK.2 0 (G.2.1 0, .int) rfl).2
  have e : cA = G.2.1 0 := Option.some.inj (e1.symm.trans e0)
  subst e
  exact kk q H1 locs ls hP1 hD1 hS1 hl
theorem j_newaB (q : Nat) {N : Nat} {y : Int32} (C : Cx X l G cc nL own rt d mc ms post) (hd : decode cc pc = .ok (.newarray .byte, 2)) (hq : pc + 2 = q) (hy : y = nI N) (hN : N ≤ 65535) (harr : Cond.arrayClass .byte ∈ gtbl) (hr : k + 1 ≤ mc ∧ n + N ≤ ms) (kk : ∀ a : Nat, J X nL (k + 1) (n + N) (ws ++ [(a, .inl (G.2.1 1, N, .inl (fun _ => 0)))]) q lv (.ref a :: st)) : J X nL k n ws pc lv (.int y :: st) := by
  subst hq
  subst hy
  obtain ⟨p, l, e, R, s, m, args, below, meth, c, A, G, Q⟩ := X
  obtain ⟨hx, hb, hml, hown, hts, hK, hA, hlk, hrt, hR, hQ, hl0, hG, hEV⟩ := C
  subst hG
  subst hR
  intro H locs ls hP hD hS hl
  refine va_newa (atype := .byte) (ty := .byte) (N' := N) (a0 := (N, .inl (fun _ => 0))) hx hb (hts _ harr) rfl hK hP hD hS hA (fun _ => rfl) (nI_pos (by omega)) (nI_clamp (by omega)) (by show N * 1 ≤ _; omega) hr.1 hr.2 hd ?_
  intro q cA H1 hK1 hP1 hD1 hS1
  have e1 := (hK1.2 ((tysOf G.2.1).length) (cA, .byte) (by rw [List.getElem?_append_right (Nat.le_refl _)]; simp)).2
  have e0 := (hK.2 1 (G.2.1 1, .byte) rfl).2
  have e : cA = G.2.1 1 := Option.some.inj (e1.symm.trans e0)
  subst e
  exact kk q H1 locs ls hP1 hD1 hS1 hl
theorem j_newaZ (q : Nat) {N : Nat} {y : Int32} (C : Cx X l G cc nL own rt d mc ms post) (hd : decode cc pc = .ok (.newarray .boolean, 2)) (hq : pc + 2 = q) (hy : y = nI N) (hN : N ≤ 65535) (harr : Cond.arrayClass .boolean ∈ gtbl) (hr : k + 1 ≤ mc ∧ n + N ≤ ms) (kk : ∀ a : Nat, J X nL (k + 1) (n + N) (ws ++ [(a, .inl (G.2.1 2, N, .inl (fun _ => 0)))]) q lv (.ref a :: st)) : J X nL k n ws pc lv (.int y :: st) := by
  subst hq
  subst hy
  obtain ⟨p, l, e, R, s, m, args, below, meth, c, A, G, Q⟩ := X
  obtain ⟨hx, hb, hml, hown, hts, hK, hA, hlk, hrt, hR, hQ, hl0, hG, hEV⟩ := C
  subst hG
  subst hR
  intro H locs ls hP hD hS hl
  refine va_newa (atype := .boolean) (ty := .boolean) (N' := N) (a0 := (N, .inl (fun _ => 0))) hx hb (hts _ harr) rfl hK hP hD hS hA (fun _ => rfl) (nI_pos (by omega)) (nI_clamp (by omega)) (by show N * 1 ≤ _; omega) hr.1 hr.2 hd ?_
  intro q cA H1 hK1 hP1 hD1 hS1
  have e1 := (hK1.2 ((tysOf G.2.1).length) (cA, .boolean) (by rw [List.getElem?_append_right (Nat.le_refl _)]; simp)).2
  have e0 := (hK.2 2 (G.2.1 2, .boolean) rfl).2
  have e : cA = G.2.1 2 := Option.some.inj (e1.symm.trans e0)
  subst e
  exact kk q H1 locs ls hP1 hD1 hS1 hl
theorem j_newaL (q : Nat) {N : Nat} {y : Int32} (C : Cx X l G cc nL own rt d mc ms post) (hd : decode cc pc = .ok (.newarray .long, 2)) (hq : pc + 2 = q) (hy : y = nI N) (hN : N ≤ 65535) (harr : Cond.arrayClass .long ∈ gtbl) (hr : k + 1 ≤ mc ∧ n + N ≤ ms) (kk : ∀ a : Nat, J X nL (k + 1) (n + N) (ws ++ [(a, .inl (G.2.1 3, N, .inr (.inl (fun _ => 0))))]) q lv (.ref a :: st)) : J X nL k n ws pc lv (.int y :: st) := by
  subst hq
  subst hy
  obtain ⟨p, l, e, R, s, m, args, below, meth, c, A, G, Q⟩ := X
  obtain ⟨hx, hb, hml, hown, hts, hK, hA, hlk, hrt, hR, hQ, hl0, hG, hEV⟩ := C
  subst hG
  subst hR
  intro H locs ls hP hD hS hl
  refine va_newa (atype := .long) (ty := .long) (N' := N) (a0 := (N, .inr (.inl (fun _ => 0)))) hx hb (hts _ harr) rfl hK hP hD hS hA (fun _ => rfl) (nI_pos (by omega)) (nI_clamp (by omega)) (by show N * 8 ≤ _; omega) hr.1 hr.2 hd ?_
  intro q cA H1 hK1 hP1 hD1 hS1
  have e1 := (hK1.2 ((tysOf G.2.1).length) (cA, .long) (by rw [List.getElem?_append_right (Nat.le_refl _)]; simp)).2
  have e0 := (hK.2 3 (G.2.1 3, .long) rfl).2
  have e : cA = G.2.1 3 := Option.some.inj (e1.symm.trans e0)
  subst e
  exact kk q H1 locs ls hP1 hD1 hS1 hl
theorem j_newc (q : Nat) {idx ci : Nat} {Cn : String} {T : u_T} {N : Nat} (ty0 : Nat → FieldType) (fs : List Value) (C : Cx X l G cc nL own rt d mc ms post) (hd : decode cc pc = .ok (.new idx, 3)) (hq : pc + 3 = q) (hc : classes[ci]? = some (Cn, T, N)) (hin : ∀ w ∈ u_ws Cn T N, w ∈ gtbl) (hty : ∀ k, k < N → parseFieldDescriptor (T k).2.2.1 = some (ty0 k)) (hcl : Cond.classLink own idx Cn ∈ gtbl) (hinst : Cond.instantiable Cn N ∈ gtbl) (hini : Cond.initialized Cn ∈ gtbl) (hfs : ∀ j, j < N → defaultValue (ty0 j) = vp_V fs j) (hr : k + 1 ≤ mc ∧ n + N ≤ ms) (kk : ∀ a : Nat, J X nL (k + 1) (n + N) (ws ++ [(a, .inr (ci, fs))]) q lv (.ref a :: st)) : J X nL k n ws pc lv st := by
  subst hq
  obtain ⟨p, l, e, R, s, m, args, below, meth, c, A, G, Q⟩ := X
  obtain ⟨hx, hb, hml, hown, hts, hK, hA, hlk, hrt, hR, hQ, hl0, hG, hEV⟩ := C
  subst hG
  subst hR
  intro H locs ls hP hD hS hl
  exact va_new hx hb hts hin ty0 hty hown (hts _ hcl) (hts _ hinst) (hts _ hini) hK hP hD hS hA hc hfs hr.1 hr.2 hd (fun q H1 hP1 hD1 hS1 => kk q H1 locs ls hP1 hD1 hS1 hl)
theorem j_newqMind (q : Nat) {idx N : Nat} {y : Int32} (C : Cx X l G cc nL own rt d mc ms post) (hd : decode cc pc = .ok (.anewarray idx, 3)) (hq : pc + 3 = q) (hy : y = nI N) (hN : N ≤ 65535) (hcl : Cond.classLink own idx "NonsenseRows$Mind" ∈ gtbl) (hr : k + 1 ≤ mc ∧ n + N ≤ ms) (kk : ∀ a : Nat, J X nL (k + 1) (n + N) (ws ++ [(a, .inl (G.2.1 4, N, .inr (.inr (.inr (.inr (fun _ => none))))))]) q lv (.ref a :: st)) : J X nL k n ws pc lv (.int y :: st) := by
  subst hq
  subst hy
  obtain ⟨p, l, e, R, s, m, args, below, meth, c, A, G, Q⟩ := X
  obtain ⟨hx, hb, hml, hown, hts, hK, hA, hlk, hrt, hR, hQ, hl0, hG, hEV⟩ := C
  subst hG
  subst hR
  intro H locs ls hP hD hS hl
  refine va_newq (N' := N) (C := "NonsenseRows$Mind") hx hb hown (hts _ hcl) hEV.2.1.2.2 hK hP hD hS hA (nI_pos (by omega)) (nI_clamp (by omega)) (by omega) hr.1 hr.2 hd ?_
  intro q cA H1 hK1 hP1 hD1 hS1
  have e1 := (hK1.2 ((tysOf G.2.1).length) (cA, .object "NonsenseRows$Mind") (by rw [List.getElem?_append_right (Nat.le_refl _)]; simp)).2
  have e0 := (hK.2 4 (G.2.1 4, .object "NonsenseRows$Mind") rfl).2
  obtain ⟨_, _, _, _, _, e1⟩ := e1
  obtain ⟨_, _, _, _, _, e0⟩ := e0
  have e : cA = G.2.1 4 := Option.some.inj (e1.symm.trans e0)
  subst e
  exact kk q H1 locs ls hP1 hD1 hS1 hl
theorem j_aaldMind (q : Nat) {a z : Nat} {f : Nat → Option Nat} {y : Int32} (C : Cx X l G cc nL own rt d mc ms post) (hd : decode cc pc = .ok (.aaload, 1)) (hq : pc + 1 = q) (q0 : Nat) (ha : ws[q0]? = some (a, .inl (G.2.1 4, z, .inr (.inr (.inr (.inr f)))))) (i : Nat) (hi : i < z) (hz : z < 2 ^ 31) (hy : y = nI i) (kk : J X nL k n ws q lv (va_rf (f i) :: st)) : J X nL k n ws pc lv (.int y :: .ref a :: st) := by
  subst hq
  subst hy
  obtain ⟨p, l, e, R, s, m, args, below, meth, c, A, G, Q⟩ := X
  obtain ⟨hx, hb, hml, hown, hts, hK, hA, hlk, hrt, hR, hQ, hl0, hG, hEV⟩ := C
  subst hG
  subst hR
  intro H locs ls hP hD hS hl
  refine va_aldq (C := "NonsenseRows$Mind") hx hb hK hP q0 4 ha rfl (vp_in_nI hi hz) hd ?_
  rw [nI_clamp (Nat.lt_trans hi hz)]
  exact kk H locs ls hP hD hS hl
theorem j_aastMind (q : Nat) {a z v ci : Nat} {vs : List Value} {T : u_T} {N : Nat} {f : Nat → Option Nat} {y : Int32} {ws' : va_W} (C : Cx X l G cc nL own rt d mc ms post) (hd : decode cc pc = .ok (.aastore, 1)) (hq : pc + 1 = q) (q0 qk : Nat) (ha : ws[q0]? = some (a, .inl (G.2.1 4, z, .inr (.inr (.inr (.inr f)))))) (hv : ws[qk]? = some (v, .inr (ci, vs))) (hc : classes[ci]? = some ("NonsenseRows$Mind", T, N)) (i : Nat) (hi : i < z) (hz : z < 2 ^ 31) (hy : y = nI i) (hws : ws.set q0 (a, .inl (G.2.1 4, z, .inr (.inr (.inr (.inr (va_up f i (some v))))))) = ws') (kk : J X nL k n ws' q lv st) : J X nL k n ws pc lv (.ref v :: .int y :: .ref a :: st) := by
  subst hq
  subst hy
  subst hws
  obtain ⟨p, l, e, R, s, m, args, below, meth, c, A, G, Q⟩ := X
  obtain ⟨hx, hb, hml, hown, hts, hK, hA, hlk, hrt, hR, hQ, hl0, hG, hEV⟩ := C
  subst hG
  subst hR
  intro H locs ls hP hD hS hl
  refine va_astq hx hb hK hP hD hS q0 4 qk ci ha rfl hv hc (vp_in_nI hi hz) hd ?_
  rw [nI_clamp (Nat.lt_trans hi hz)]
  exact fun H1 locs1 hP1 hD1 hS1 => kk H1 locs1 ls hP1 hD1 hS1 hl
theorem j_newqSlot (q : Nat) {idx N : Nat} {y : Int32} (C : Cx X l G cc nL own rt d mc ms post) (hd : decode cc pc = .ok (.anewarray idx, 3)) (hq : pc + 3 = q) (hy : y = nI N) (hN : N ≤ 65535) (hcl : Cond.classLink own idx "NonsenseRows$Slot" ∈ gtbl) (hr : k + 1 ≤ mc ∧ n + N ≤ ms) (kk : ∀ a : Nat, J X nL (k + 1) (n + N) (ws ++ [(a, .inl (G.2.1 5, N, .inr (.inr (.inr (.inr (fun _ => none))))))]) q lv (.ref a :: st)) : J X nL k n ws pc lv (.int y :: st) := by
  subst hq
  subst hy
  obtain ⟨p, l, e, R, s, m, args, below, meth, c, A, G, Q⟩ := X
  obtain ⟨hx, hb, hml, hown, hts, hK, hA, hlk, hrt, hR, hQ, hl0, hG, hEV⟩ := C
  subst hG
  subst hR
  intro H locs ls hP hD hS hl
  refine va_newq (N' := N) (C := "NonsenseRows$Slot") hx hb hown (hts _ hcl) hEV.2.1.2.1 hK hP hD hS hA (nI_pos (by omega)) (nI_clamp (by omega)) (by omega) hr.1 hr.2 hd ?_
  intro q cA H1 hK1 hP1 hD1 hS1
  have e1 := (hK1.2 ((tysOf G.2.1).length) (cA, .object "NonsenseRows$Slot") (by rw [List.getElem?_append_right (Nat.le_refl _)]; simp)).2
  have e0 := (hK.2 5 (G.2.1 5, .object "NonsenseRows$Slot") rfl).2
  obtain ⟨_, _, _, _, _, e1⟩ := e1
  obtain ⟨_, _, _, _, _, e0⟩ := e0
  have e : cA = G.2.1 5 := Option.some.inj (e1.symm.trans e0)
  subst e
  exact kk q H1 locs ls hP1 hD1 hS1 hl
theorem j_aaldSlot (q : Nat) {a z : Nat} {f : Nat → Option Nat} {y : Int32} (C : Cx X l G cc nL own rt d mc ms post) (hd : decode cc pc = .ok (.aaload, 1)) (hq : pc + 1 = q) (q0 : Nat) (ha : ws[q0]? = some (a, .inl (G.2.1 5, z, .inr (.inr (.inr (.inr f)))))) (i : Nat) (hi : i < z) (hz : z < 2 ^ 31) (hy : y = nI i) (kk : J X nL k n ws q lv (va_rf (f i) :: st)) : J X nL k n ws pc lv (.int y :: .ref a :: st) := by
  subst hq
  subst hy
  obtain ⟨p, l, e, R, s, m, args, below, meth, c, A, G, Q⟩ := X
  obtain ⟨hx, hb, hml, hown, hts, hK, hA, hlk, hrt, hR, hQ, hl0, hG, hEV⟩ := C
  subst hG
  subst hR
  intro H locs ls hP hD hS hl
  refine va_aldq (C := "NonsenseRows$Slot") hx hb hK hP q0 5 ha rfl (vp_in_nI hi hz) hd ?_
  rw [nI_clamp (Nat.lt_trans hi hz)]
  exact kk H locs ls hP hD hS hl
theorem j_aastSlot (q : Nat) {a z v ci : Nat} {vs : List Value} {T : u_T} {N : Nat} {f : Nat → Option Nat} {y : Int32} {ws' : va_W} (C : Cx X l G cc nL own rt d mc ms post) (hd : decode cc pc = .ok (.aastore, 1)) (hq : pc + 1 = q) (q0 qk : Nat) (ha : ws[q0]? = some (a, .inl (G.2.1 5, z, .inr (.inr (.inr (.inr f)))))) (hv : ws[qk]? = some (v, .inr (ci, vs))) (hc : classes[ci]? = some ("NonsenseRows$Slot", T, N)) (i : Nat) (hi : i < z) (hz : z < 2 ^ 31) (hy : y = nI i) (hws : ws.set q0 (a, .inl (G.2.1 5, z, .inr (.inr (.inr (.inr (va_up f i (some v))))))) = ws') (kk : J X nL k n ws' q lv st) : J X nL k n ws pc lv (.ref v :: .int y :: .ref a :: st) := by
  subst hq
  subst hy
  subst hws
  obtain ⟨p, l, e, R, s, m, args, below, meth, c, A, G, Q⟩ := X
  obtain ⟨hx, hb, hml, hown, hts, hK, hA, hlk, hrt, hR, hQ, hl0, hG, hEV⟩ := C
  subst hG
  subst hR
  intro H locs ls hP hD hS hl
  refine va_astq hx hb hK hP hD hS q0 5 qk ci ha rfl hv hc (vp_in_nI hi hz) hd ?_
  rw [nI_clamp (Nat.lt_trans hi hz)]
  exact fun H1 locs1 hP1 hD1 hS1 => kk H1 locs1 ls hP1 hD1 hS1 hl
theorem j_newqState (q : Nat) {idx N : Nat} {y : Int32} (C : Cx X l G cc nL own rt d mc ms post) (hd : decode cc pc = .ok (.anewarray idx, 3)) (hq : pc + 3 = q) (hy : y = nI N) (hN : N ≤ 65535) (hcl : Cond.classLink own idx "NonsenseRows$State" ∈ gtbl) (hr : k + 1 ≤ mc ∧ n + N ≤ ms) (kk : ∀ a : Nat, J X nL (k + 1) (n + N) (ws ++ [(a, .inl (G.2.1 6, N, .inr (.inr (.inr (.inr (fun _ => none))))))]) q lv (.ref a :: st)) : J X nL k n ws pc lv (.int y :: st) := by
  subst hq
  subst hy
  obtain ⟨p, l, e, R, s, m, args, below, meth, c, A, G, Q⟩ := X
  obtain ⟨hx, hb, hml, hown, hts, hK, hA, hlk, hrt, hR, hQ, hl0, hG, hEV⟩ := C
  subst hG
  subst hR
  intro H locs ls hP hD hS hl
  refine va_newq (N' := N) (C := "NonsenseRows$State") hx hb hown (hts _ hcl) hEV.2.1.1 hK hP hD hS hA (nI_pos (by omega)) (nI_clamp (by omega)) (by omega) hr.1 hr.2 hd ?_
  intro q cA H1 hK1 hP1 hD1 hS1
  have e1 := (hK1.2 ((tysOf G.2.1).length) (cA, .object "NonsenseRows$State") (by rw [List.getElem?_append_right (Nat.le_refl _)]; simp)).2
  have e0 := (hK.2 6 (G.2.1 6, .object "NonsenseRows$State") rfl).2
  obtain ⟨_, _, _, _, _, e1⟩ := e1
  obtain ⟨_, _, _, _, _, e0⟩ := e0
  have e : cA = G.2.1 6 := Option.some.inj (e1.symm.trans e0)
  subst e
  exact kk q H1 locs ls hP1 hD1 hS1 hl
theorem j_aaldState (q : Nat) {a z : Nat} {f : Nat → Option Nat} {y : Int32} (C : Cx X l G cc nL own rt d mc ms post) (hd : decode cc pc = .ok (.aaload, 1)) (hq : pc + 1 = q) (q0 : Nat) (ha : ws[q0]? = some (a, .inl (G.2.1 6, z, .inr (.inr (.inr (.inr f)))))) (i : Nat) (hi : i < z) (hz : z < 2 ^ 31) (hy : y = nI i) (kk : J X nL k n ws q lv (va_rf (f i) :: st)) : J X nL k n ws pc lv (.int y :: .ref a :: st) := by
  subst hq
  subst hy
  obtain ⟨p, l, e, R, s, m, args, below, meth, c, A, G, Q⟩ := X
  obtain ⟨hx, hb, hml, hown, hts, hK, hA, hlk, hrt, hR, hQ, hl0, hG, hEV⟩ := C
  subst hG
  subst hR
  intro H locs ls hP hD hS hl
  refine va_aldq (C := "NonsenseRows$State") hx hb hK hP q0 6 ha rfl (vp_in_nI hi hz) hd ?_
  rw [nI_clamp (Nat.lt_trans hi hz)]
  exact kk H locs ls hP hD hS hl
theorem j_aastState (q : Nat) {a z v ci : Nat} {vs : List Value} {T : u_T} {N : Nat} {f : Nat → Option Nat} {y : Int32} {ws' : va_W} (C : Cx X l G cc nL own rt d mc ms post) (hd : decode cc pc = .ok (.aastore, 1)) (hq : pc + 1 = q) (q0 qk : Nat) (ha : ws[q0]? = some (a, .inl (G.2.1 6, z, .inr (.inr (.inr (.inr f)))))) (hv : ws[qk]? = some (v, .inr (ci, vs))) (hc : classes[ci]? = some ("NonsenseRows$State", T, N)) (i : Nat) (hi : i < z) (hz : z < 2 ^ 31) (hy : y = nI i) (hws : ws.set q0 (a, .inl (G.2.1 6, z, .inr (.inr (.inr (.inr (va_up f i (some v))))))) = ws') (kk : J X nL k n ws' q lv st) : J X nL k n ws pc lv (.ref v :: .int y :: .ref a :: st) := by
  subst hq
  subst hy
  subst hws
  obtain ⟨p, l, e, R, s, m, args, below, meth, c, A, G, Q⟩ := X
  obtain ⟨hx, hb, hml, hown, hts, hK, hA, hlk, hrt, hR, hQ, hl0, hG, hEV⟩ := C
  subst hG
  subst hR
  intro H locs ls hP hD hS hl
  refine va_astq hx hb hK hP hD hS q0 6 qk ci ha rfl hv hc (vp_in_nI hi hz) hd ?_
  rw [nI_clamp (Nat.lt_trans hi hz)]
  exact fun H1 locs1 hP1 hD1 hS1 => kk H1 locs1 ls hP1 hD1 hS1 hl
theorem j_ifnonnullR (tgt : Nat) {x : Nat} {off : Int} (C : Cx X l G cc nL own rt d mc ms post) (hd : decode cc pc = .ok (.ifnonnull off, 3)) (ht : (pc : Int) + off = (tgt : Int)) (kk : J X nL k n ws tgt lv st) : J X nL k n ws pc lv (.ref x :: st) := by
  obtain ⟨p, l, e, R, s, m, args, below, meth, c, A, G, Q⟩ := X
  obtain ⟨hx, hb, hml, hown, hts, hK, hA, hlk, hrt, hR, hQ, hl0, hG, hEV⟩ := C
  subst hG
  subst hR
  intro H locs ls hP hD hS hl
  exact lv_ifnonnull hx hb hd ht (kk H locs ls hP hD hS hl)
theorem j_ifnonnullN (q : Nat) {off : Int} (C : Cx X l G cc nL own rt d mc ms post) (hd : decode cc pc = .ok (.ifnonnull off, 3)) (hq : pc + 3 = q) (kk : J X nL k n ws q lv st) : J X nL k n ws pc lv (.null :: st) := by
  subst hq
  obtain ⟨p, l, e, R, s, m, args, below, meth, c, A, G, Q⟩ := X
  obtain ⟨hx, hb, hml, hown, hts, hK, hA, hlk, hrt, hR, hQ, hl0, hG, hEV⟩ := C
  subst hG
  subst hR
  intro H locs ls hP hD hS hl
  exact lv_ifnonnullN hx hb hd (kk H locs ls hP hD hS hl)
theorem j_ifnullR (q : Nat) {x : Nat} {off : Int} (C : Cx X l G cc nL own rt d mc ms post) (hd : decode cc pc = .ok (.ifnull off, 3)) (hq : pc + 3 = q) (kk : J X nL k n ws q lv st) : J X nL k n ws pc lv (.ref x :: st) := by
  subst hq
  obtain ⟨p, l, e, R, s, m, args, below, meth, c, A, G, Q⟩ := X
  obtain ⟨hx, hb, hml, hown, hts, hK, hA, hlk, hrt, hR, hQ, hl0, hG, hEV⟩ := C
  subst hG
  subst hR
  intro H locs ls hP hD hS hl
  exact lv_ifnull hx hb hd (kk H locs ls hP hD hS hl)
theorem j_ifnullN (tgt : Nat) {off : Int} (C : Cx X l G cc nL own rt d mc ms post) (hd : decode cc pc = .ok (.ifnull off, 3)) (ht : (pc : Int) + off = (tgt : Int)) (kk : J X nL k n ws tgt lv st) : J X nL k n ws pc lv (.null :: st) := by
  obtain ⟨p, l, e, R, s, m, args, below, meth, c, A, G, Q⟩ := X
  obtain ⟨hx, hb, hml, hown, hts, hK, hA, hlk, hrt, hR, hQ, hl0, hG, hEV⟩ := C
  subst hG
  subst hR
  intro H locs ls hP hD hS hl
  exact lv_ifnullN hx hb hd ht (kk H locs ls hP hD hS hl)
theorem j_alenB (q : Nat) {a z : Nat} {f : Nat → Int32} (C : Cx X l G cc nL own rt d mc ms post) (hd : decode cc pc = .ok (.arraylength, 1)) (hq : pc + 1 = q) (q0 : Nat) (ha : ws[q0]? = some (a, .inl (G.2.1 1, z, .inl f))) (kk : J X nL k n ws q lv (.int (nI z) :: st)) : J X nL k n ws pc lv (.ref a :: st) := by
  subst hq
  obtain ⟨p, l, e, R, s, m, args, below, meth, c, A, G, Q⟩ := X
  obtain ⟨hx, hb, hml, hown, hts, hK, hA, hlk, hrt, hR, hQ, hl0, hG, hEV⟩ := C
  subst hG
  subst hR
  intro H locs ls hP hD hS hl
  exact va_alen hx hb hK hP q0 1 ha rfl rfl hd (kk H locs ls hP hD hS hl)
theorem j_aret {x : Nat} {nm : String} (C : Cx X l G cc nL own (some (.object nm)) d mc ms post) (hd : decode cc pc = .ok (.areturn, 1)) (h : post (some (.ref x)) ws) : J X nL mc ms ws pc lv [.ref x] := by
  obtain ⟨p, l, e, R, s, m, args, below, meth, c, A, G, Q⟩ := X
  obtain ⟨hx, hb, hml, hown, hts, hK, hA, hlk, hrt, hR, hQ, hl0, hG, hEV⟩ := C
  intro H locs ls hP hD hS hl
  subst hQ
  exact W.aret hx hb hrt (Or.inl ⟨_, rfl⟩) (Or.inr ⟨_, rfl⟩) (fun t ht hW => ⟨⟨_, ws, rfl, h, by rw [ht]; exact hP, hD⟩, hS.F ht⟩) hS.2.2 hd hlk
/-- this method is a constructor -/
def JI (X : JX) : Prop := match X with
  | (_, _, _, _, _, _, _, _, meth, _, _, _, _) => meth.name = "<init>"
theorem j_putF (q : Nat) {idx ci a : Nat} {Cn : String} {T : u_T} {N : Nat} {fs : List Value} {v : Value} {ws' : va_W} (ty0 : Nat → FieldType) (I : JI X) (C : Cx X l G cc nL own rt d mc ms post) (hd : decode cc pc = .ok (.putfield idx, 3)) (hq : pc + 3 = q) (q0 : Nat) (he : ws[q0]? = some (a, .inr (ci, fs))) (hc : classes[ci]? = some (Cn, T, N)) (hin : ∀ w ∈ u_ws Cn T N, w ∈ gtbl) (hty : ∀ k, k < N → parseFieldDescriptor (T k).2.2.1 = some (ty0 k)) (hnm : ∀ a, a < N → ∀ b, b < N → a ≠ b → (T a).2.1 ≠ (T b).2.1) (f : Nat) (hf : f < N) (hlf : Cond.fieldLink own idx (T f).1 (T f).2.1 (T f).2.2.1 ∈ gtbl) (hfin : (T f).2.2.2 = true) (hdecl : (T f).1 = own) (hn : narrow (ty0 f) v = v) (hfit : fits (ty0 f) v = true) (hl9 : f < fs.length) (hws : ws.set q0 (a, .inr (ci, fs.set f v)) = ws') (kk : J X nL k n ws' q lv st) : J X nL k n ws pc lv (v :: .ref a :: st) := by
  subst hq
  subst hws
  obtain ⟨p, l, e, R, s, m, args, below, meth, c, A, G, Q⟩ := X
  obtain ⟨hx, hb, hml, hown, hts, hK, hA, hlk, hrt, hR, hQ, hl0, hG, hEV⟩ := C
  subst hG
  subst hR
  intro H locs ls hP hD hS hl
  exact va_putF hx hb hts hin ty0 hty hnm hown hK hP hD hS q0 he hc f hf (hts _ hlf) (fun _ h => h) hfin I hdecl (hty f hf) hn hfit hl9 hd (fun H1 locs1 hP1 hD1 hS1 => kk H1 locs1 ls hP1 hD1 hS1 hl)
theorem Con.mkI {y : MethodName} {own : String} {mL : Nat} {As : List Value} (hy : plainName y.cls = true) (ho : y.cls = own) (hi : y.name = "<init>") (hlen : (lg_sl As).length ≤ mL)
    (h : ∀ X : JX, Cx X l G cc mL own rt d mc ms post → JI X → J X mL 0 0 ws 0 (lv_args 0 As) []) : Con l G y cc mL rt d mc ms As ws post := by
  subst ho
  intro sz
  refine Met.ofW (cc := cc) (maxL := mL) (ret := rt) hy rfl ?_
  intro p e s m args below meth c s₁ B hml hv
  obtain ⟨rfl, hsz, hP, hK, hD0, hE⟩ := hv
  subst hsz
  have hts := atoms_spec (ws := WW y cc mL rt) B.pre
  have hown : s.vm.findClass y.cls = some m.cls := findClass_of_methodNamed B.named
  have hin : meth.name = "<init>" := (name_of_methodNamed B.named B.method).1.trans hi
  have hD := hD0.self (sz := s.heap.size)
  have hl := lv_entry As (n := mL) hlen
  rw [lg_entry_eq]
  exact h (p, l, e, rmD d mc ms, s, m, As.toArray, below, meth, c, va_A ws s.heap.size, G, _)
    ⟨B.exec, B.bytes, hml, hown, fun w hw => hts w (List.mem_cons_of_mem _ hw), hK, fun q hq => Or.inr hq, B.notSynchronized, B.returns, rfl, rfl, rfl, rfl, hE⟩
    hin s.heap [] _ hP hD va_S.rf (jl_of hl)
theorem j_objInit (q : Nat) {idx a : Nat} (C : Cx X l G cc nL own rt d mc ms post) (hd : decode cc pc = .ok (.invokespecial idx, 3)) (hq : pc + 3 = q) (hl1 : Cond.methodLink own idx Lib.objectInit ∈ gtbl) (hl2 : Cond.instanceMethod Lib.objectInit ∈ gtbl) (hl3 : Cond.code Lib.objectInit ⟨#[0xb1]⟩ 1 none ∈ gtbl) (hdd : 1 ≤ d) (hrm : (st.map fun v => v.category).sum ≤ 8) (kk : J X nL k n ws q lv st) : J X nL k n ws pc lv (.ref a :: st) := by
  subst hq
  obtain ⟨p, l, e, R, s, m, args, below, meth, c, A, G, Q⟩ := X
  obtain ⟨hx, hb, hml, hown, hts, hK, hA, hlk, hrt, hR, hQ, hl0, hG, hEV⟩ := C
  subst hG
  subst hR
  intro H locs ls hP hD hS hl
  exact W.objInit hx hb hown (hts _ hl1) (hts _ hl2) (hts _ hl3) rfl (hl.1.trans hml.symm) rfl hd hdd (by have := lv_room (m := m) (pc := pc) (ls := ls) (rest := .ref a :: st) hrm; show 2 * (F0 m pc ls (.ref a :: st)).monitorRoom + (st.map fun v => v.category).sum + 12 ≤ 60 * d; omega) (kk H locs ls hP hD hS hl)
section Call
variable {y : MethodName} {cy : ByteArray} {mL idx np d' mc' ms' : Nat} {rt' : Option FieldType} {As st0 : List Value} {b : Nat} {post' : Option Value → va_W → Prop} {wc w1 w2 : va_W} {fs : List Value} {ci : Nat} {T : u_T} {N : Nat}
/-- a call of a method of an object over a block of the cells -/
theorem j_callM (q : Nat) (C : Cx X l G cc nL own rt d mc ms post) (hd : decode cc pc = .ok (.invokevirtual idx, 3)) (hq : pc + 3 = q)
    (hw : CW own idx y cy mL rt' np) (hC : Con l G y cy mL rt' d' mc' ms' (.ref b :: As) wc post')
    (hnp : As.length = np) (hdd : d' + 1 ≤ d ∧ k + mc' ≤ mc ∧ n + ms' ≤ ms) (hst : st0 = As.reverse ++ .ref b :: st) (hrm : (st.map fun v => v.category).sum ≤ 8)
    (w1 w2 : va_W) (hws : ws = w1 ++ (wc ++ w2)) (q0 : Nat) (hrc : wc[q0]? = some (b, .inr (ci, fs))) (hcl : classes[ci]? = some (y.cls, T, N))
    (kk : ∀ (v : Option Value) (w : va_W), post' v w → J X nL (k + mc') (n + ms') (w1 ++ (w ++ w2)) q lv (v.toList ++ st)) : J X nL k n ws pc lv st0 := by
  subst hq
  subst hnp
  subst hws
  obtain ⟨p, l, e, R, s, m, args, below, meth, c, A, G, Q⟩ := X
  obtain ⟨hx, hb, hml, hown, hts, hK, hA, hlk, hrt, hR', hQ, hl0, hG, hEV⟩ := C
  subst hl0; subst hG; subst hR'
  obtain ⟨w1', w2', w3, w4, w5, w6, w7⟩ := hw
  intro H locs ls hP hD hS hl
  obtain ⟨hPc, hDc, hFc⟩ := v_mid hP hD hS hA
  have hgood : GoodIn gtbl (WW y cy mL rt') := ww_good (fun _ h => h) w5
  refine qq_call (va_runV (C := y.cls) (As := As) (b := b) (rest := st) (n := As.length) ⟨hx, hb, hml, hown, hts⟩ (hC H.size)
    ⟨callB_of As.length hts hgood rfl rfl rfl (hts _ w4) (hts _ w1') w6 ⟨hdd.1, by show 8 + (mL + 11) + 60 * d' ≤ 60 * d; omega⟩, hts _ w2', hts _ w3⟩
    ⟨pp_blind, va_recv hK hPc hcl hrc, fun U hU hW => ⟨rfl, by rw [hU], by rw [hU]; exact hPc, va_K.moved hW.alike hK, hDc.weaken (fun _ _ _ _ => trivial), hEV.call hW hU hS hFc⟩⟩ rfl rfl hl.1 hst (lv_room hrm) hd hdd.2) hS (fun q _ h => hFc q h) hFc (fun v w H1 locs1 hp hP1 hD1 hz hk hS1 => ?_)
  obtain ⟨hP2, hD2⟩ := v_join hP hD hk hFc hP1 hD1
  exact kk v w hp H1 locs1 ls hP2 hD2 hS1 hl
/-- a call of a static method over a block of the cells -/
theorem j_callMS (q : Nat) (C : Cx X l G cc nL own rt d mc ms post) (hd : decode cc pc = .ok (.invokestatic idx, 3)) (hq : pc + 3 = q)
    (hw : CS own idx y cy mL rt' np) (hC : Con l G y cy mL rt' d' mc' ms' As wc post')
    (hnp : As.length = np) (hdd : d' + 1 ≤ d ∧ k + mc' ≤ mc ∧ n + ms' ≤ ms) (hst : st0 = As.reverse ++ st) (hrm : (st.map fun v => v.category).sum ≤ 8)
    (w1 w2 : va_W) (hws : ws = w1 ++ (wc ++ w2))
    (kk : ∀ (v : Option Value) (w : va_W), post' v w → J X nL (k + mc') (n + ms') (w1 ++ (w ++ w2)) q lv (v.toList ++ st)) : J X nL k n ws pc lv st0 := by
  subst hq
  subst hnp
  subst hws
  obtain ⟨p, l, e, R, s, m, args, below, meth, c, A, G, Q⟩ := X
  obtain ⟨hx, hb, hml, hown, hts, hK, hA, hlk, hrt, hR', hQ, hl0, hG, hEV⟩ := C
  subst hl0; subst hG; subst hR'
  obtain ⟨w1', w2', w4, w5, w6, w7⟩ := hw
  intro H locs ls hP hD hS hl
  obtain ⟨hPc, hDc, hFc⟩ := v_mid hP hD hS hA
  have hgood : GoodIn gtbl (WW y cy mL rt') := ww_good (fun _ h => h) w5
  refine qq_call (va_runS (As := As) (rest := st) (n := As.length) ⟨hx, hb, hml, hown, hts⟩ (hC H.size)
    ⟨callB_of As.length hts hgood rfl rfl rfl (hts _ w4) (hts _ w1') w6 ⟨hdd.1, by show 8 + (mL + 11) + 60 * d' ≤ 60 * d; omega⟩, hts _ w2'⟩
    ⟨pp_blind, fun U hU hW => ⟨rfl, by rw [hU], by rw [hU]; exact hPc, va_K.moved hW.alike hK, hDc.weaken (fun _ _ _ _ => trivial), hEV.call hW hU hS hFc⟩⟩ rfl rfl hl.1 hst (lv_room hrm) hd hdd.2) hS (fun q _ h => hFc q h) hFc (fun v w H1 locs1 hp hP1 hD1 hz hk hS1 => ?_)
  obtain ⟨hP2, hD2⟩ := v_join hP hD hk hFc hP1 hD1
  exact kk v w hp H1 locs1 ls hP2 hD2 hS1 hl
/-- the words of a call of a constructor -/
def CI (own : String) (idx : Nat) (y : MethodName) (cy : ByteArray) (mL : Nat) (np : Nat) : Prop :=
  Cond.methodLink own idx y ∈ gtbl ∧ Cond.instanceMethod y ∈ gtbl ∧ Cond.initialized y.cls ∈ gtbl ∧ Cond.code y cy mL none ∈ gtbl ∧ (y.cls ≠ "java/lang/invoke/MethodHandle" ∧ y.cls ≠ "java/lang/invoke/VarHandle" ∧ (parseMethodDescriptor y.desc).map (fun d => d.parameters.length) = some np) ∧ mL ≤ 41
theorem j_callMI (q : Nat) (C : Cx X l G cc nL own rt d mc ms post) (hd : decode cc pc = .ok (.invokespecial idx, 3)) (hq : pc + 3 = q)
    (hw : CI own idx y cy mL np) (hi : y.name = "<init>") (hC : Con l G y cy mL none d' mc' ms' (.ref b :: As) wc post')
    (hnp : As.length = np) (hdd : d' + 1 ≤ d ∧ k + mc' ≤ mc ∧ n + ms' ≤ ms) (hst : st0 = As.reverse ++ .ref b :: st) (hrm : (st.map fun v => v.category).sum ≤ 8)
    (w1 w2 : va_W) (hws : ws = w1 ++ (wc ++ w2)) (q0 : Nat) (hrc : wc[q0]? = some (b, .inr (ci, fs))) (hcl : classes[ci]? = some (y.cls, T, N))
    (kk : ∀ (v : Option Value) (w : va_W), post' v w → J X nL (k + mc') (n + ms') (w1 ++ (w ++ w2)) q lv (v.toList ++ st)) : J X nL k n ws pc lv st0 := by
  subst hq
  subst hnp
  subst hws
  obtain ⟨p, l, e, R, s, m, args, below, meth, c, A, G, Q⟩ := X
  obtain ⟨hx, hb, hml, hown, hts, hK, hA, hlk, hrt, hR', hQ, hl0, hG, hEV⟩ := C
  subst hl0; subst hG; subst hR'
  obtain ⟨w1', w2', w4, w5, w6, w7⟩ := hw
  intro H locs ls hP hD hS hl
  obtain ⟨hPc, hDc, hFc⟩ := v_mid hP hD hS hA
  have hgood : GoodIn gtbl (WW y cy mL none) := ww_good (fun _ h => h) w5
  refine qq_call (va_runI (As := As) (b := b) (rest := st) (n := As.length) ⟨hx, hb, hml, hown, hts⟩ (hC H.size)
    ⟨callB_of As.length hts hgood rfl rfl rfl (hts _ w4) (hts _ w1') w6 ⟨hdd.1, by show 8 + (mL + 11) + 60 * d' ≤ 60 * d; omega⟩, hi, hts _ w2'⟩
    ⟨pp_blind, fun U hU hW => ⟨rfl, by rw [hU], by rw [hU]; exact hPc, va_K.moved hW.alike hK, hDc.weaken (fun _ _ _ _ => trivial), hEV.call hW hU hS hFc⟩⟩ rfl rfl hl.1 hst (lv_room hrm) hd hdd.2) hS (fun q _ h => hFc q h) hFc (fun v w H1 locs1 hp hP1 hD1 hz hk hS1 => ?_)
  obtain ⟨hP2, hD2⟩ := v_join hP hD hk hFc hP1 hD1
  exact kk v w hp H1 locs1 ls hP2 hD2 hS1 hl
/-- the words of a call of a constructor of the same nest -/
def CN (own : String) (idx : Nat) (y : MethodName) (host : String) (cy : ByteArray) (mL : Nat) (rt : Option FieldType) (np : Nat) : Prop :=
  (own, idx, y, host) ∈ nests ∧ Cond.initialized y.cls ∈ gtbl ∧ Cond.code y cy mL rt ∈ gtbl ∧ (y.cls ≠ "java/lang/invoke/MethodHandle" ∧ y.cls ≠ "java/lang/invoke/VarHandle" ∧ (parseMethodDescriptor y.desc).map (fun d => d.parameters.length) = some np) ∧ mL ≤ 41
theorem j_callMIN (q : Nat) {host : String} (C : Cx X l G cc nL own rt d mc ms post) (hd : decode cc pc = .ok (.invokespecial idx, 3)) (hq : pc + 3 = q)
    (hw : CN own idx y host cy mL none np) (hi : y.name = "<init>") (hins : Cond.instanceMethod y ∈ gtbl) (hC : Con l G y cy mL none d' mc' ms' (.ref b :: As) wc post')
    (hnp : As.length = np) (hdd : d' + 1 ≤ d ∧ k + mc' ≤ mc ∧ n + ms' ≤ ms) (hst : st0 = As.reverse ++ .ref b :: st) (hrm : (st.map fun v => v.category).sum ≤ 8)
    (w1 w2 : va_W) (hws : ws = w1 ++ (wc ++ w2)) (q0 : Nat) (hrc : wc[q0]? = some (b, .inr (ci, fs))) (hcl : classes[ci]? = some (y.cls, T, N))
    (kk : ∀ (v : Option Value) (w : va_W), post' v w → J X nL (k + mc') (n + ms') (w1 ++ (w ++ w2)) q lv (v.toList ++ st)) : J X nL k n ws pc lv st0 := by
  subst hq
  subst hnp
  subst hws
  obtain ⟨p, l, e, R, s, m, args, below, meth, c, A, G, Q⟩ := X
  obtain ⟨hx, hb, hml, hown, hts, hK, hA, hlk, hrt, hR', hQ, hl0, hG, hEV⟩ := C
  subst hl0; subst hG; subst hR'
  obtain ⟨w1', w4, w5, w6, w7⟩ := hw
  intro H locs ls hP hD hS hl
  obtain ⟨hPc, hDc, hFc⟩ := v_mid hP hD hS hA
  have hgood : GoodIn gtbl (WW y cy mL none) := ww_good (fun _ h => h) w5
  refine qq_call (va_runIN (As := As) (b := b) (rest := st) (n := As.length) ⟨hx, hb, hml, hown, hts⟩ (hC H.size)
    ⟨va_cnB As.length hts hgood rfl rfl rfl (hEV.1 _ w1') (hts _ w4) w6 ⟨hdd.1, by show 8 + (mL + 11) + 60 * d' ≤ 60 * d; omega⟩, hi, hts _ hins⟩
    ⟨pp_blind, fun U hU hW => ⟨rfl, by rw [hU], by rw [hU]; exact hPc, va_K.moved hW.alike hK, hDc.weaken (fun _ _ _ _ => trivial), hEV.call hW hU hS hFc⟩⟩ rfl rfl hl.1 hst (lv_room hrm) hd hdd.2) hS (fun q _ h => hFc q h) hFc (fun v w H1 locs1 hp hP1 hD1 hz hk hS1 => ?_)
  obtain ⟨hP2, hD2⟩ := v_join hP hD hk hFc hP1 hD1
  exact kk v w hp H1 locs1 ls hP2 hD2 hS1 hl
theorem j_callMSN (q : Nat) {host : String} (C : Cx X l G cc nL own rt d mc ms post) (hd : decode cc pc = .ok (.invokestatic idx, 3)) (hq : pc + 3 = q)
    (hw : CN own idx y host cy mL rt' np) (hins : Cond.static y ∈ gtbl) (hC : Con l G y cy mL rt' d' mc' ms' As wc post')
    (hnp : As.length = np) (hdd : d' + 1 ≤ d ∧ k + mc' ≤ mc ∧ n + ms' ≤ ms) (hst : st0 = As.reverse ++ st) (hrm : (st.map fun v => v.category).sum ≤ 8)
    (w1 w2 : va_W) (hws : ws = w1 ++ (wc ++ w2))
    (kk : ∀ (v : Option Value) (w : va_W), post' v w → J X nL (k + mc') (n + ms') (w1 ++ (w ++ w2)) q lv (v.toList ++ st)) : J X nL k n ws pc lv st0 := by
  subst hq
  subst hnp
  subst hws
  obtain ⟨p, l, e, R, s, m, args, below, meth, c, A, G, Q⟩ := X
  obtain ⟨hx, hb, hml, hown, hts, hK, hA, hlk, hrt, hR', hQ, hl0, hG, hEV⟩ := C
  subst hl0; subst hG; subst hR'
  obtain ⟨w1', w4, w5, w6, w7⟩ := hw
  intro H locs ls hP hD hS hl
  obtain ⟨hPc, hDc, hFc⟩ := v_mid hP hD hS hA
  have hgood : GoodIn gtbl (WW y cy mL rt') := ww_good (fun _ h => h) w5
  refine qq_call (va_runSN (As := As) (rest := st) (n := As.length) ⟨hx, hb, hml, hown, hts⟩ (hC H.size)
    ⟨va_cnB As.length hts hgood rfl rfl rfl (hEV.1 _ w1') (hts _ w4) w6 ⟨hdd.1, by show 8 + (mL + 11) + 60 * d' ≤ 60 * d; omega⟩, hts _ hins, trivial⟩
    ⟨pp_blind, fun U hU hW => ⟨rfl, by rw [hU], by rw [hU]; exact hPc, va_K.moved hW.alike hK, hDc.weaken (fun _ _ _ _ => trivial), hEV.call hW hU hS hFc⟩⟩ rfl rfl hl.1 hst (lv_room hrm) hd hdd.2) hS (fun q _ h => hFc q h) hFc (fun v w H1 locs1 hp hP1 hD1 hz hk hS1 => ?_)
  obtain ⟨hP2, hD2⟩ := v_join hP hD hk hFc hP1 hD1
  exact kk v w hp H1 locs1 ls hP2 hD2 hS1 hl
end Call
theorem j_copyI (q : Nat) {idx a0 a n0 n1 : Nat} {f g : Nat → Int32} {ws' : va_W} (C : Cx X l G cc nL own rt d mc ms post) (hd : decode cc pc = .ok (.invokestatic idx, 3)) (hq : pc + 3 = q) (hl1 : Cond.methodLink own idx arraycopyName ∈ gtbl) (hl2 : Cond.native arraycopyName ∈ gtbl) (hl3 : Cond.static arraycopyName ∈ gtbl) (hl4 : Cond.initialized "java/lang/System" ∈ gtbl) (q0 q1 : Nat) (ha0 : ws[q0]? = some (a0, .inl (G.2.1 0, n0, .inl f))) (ha1 : ws[q1]? = some (a, .inl (G.2.1 0, n1, .inl g))) (sp dp cn : Nat) {ys yd yn : Int32} (hs : ys = nI sp) (hdp : yd = nI dp) (hn : yn = nI cn) (hb1 : sp + cn ≤ n0) (hb2 : dp + cn ≤ n1) (hz : n0 < 2 ^ 31) (hz1 : n1 < 2 ^ 31) (hdd : 2 ≤ d) (hrm : (st.map fun v => v.category).sum ≤ 8) (hws : ws.set q1 (a, .inl (G.2.1 0, n1, .inl (va_cpy f g sp dp cn))) = ws') (kk : J X nL k n ws' q lv st) : J X nL k n ws pc lv (.int yn :: .int yd :: .ref a :: .int ys :: .ref a0 :: st) := by
  subst hq
  subst hs
  subst hdp
  subst hn
  subst hws
  obtain ⟨p, l, e, R, s, m, args, below, meth, c, A, G, Q⟩ := X
  obtain ⟨hx, hb, hml, hown, hts, hK, hA, hlk, hrt, hR, hQ, hl0, hG, hEV⟩ := C
  subst hG
  subst hR
  intro H locs ls hP hD hS hl
  have e1 : (nI sp).toNatClampNeg = sp := nI_clamp (by omega)
  have e2 : (nI dp).toNatClampNeg = dp := nI_clamp (by omega)
  have e3 : (nI cn).toNatClampNeg = cn := nI_clamp (by omega)
  have hnw : nativeFrameWords "java/lang/System" "arraycopy" 5 ≤ 60 := by decide +kernel
  have hfr : 1 ≤ (rmD d mc ms).frames := by show 1 ≤ d; omega
  have hlo : (st.map fun v => v.category).sum + (nativeFrameWords "java/lang/System" "arraycopy" 5 + 11) ≤ (rmD d mc ms).locals := by show _ ≤ 60 * d; omega
  refine va_copyi (ty := .int) (sp := nI sp) (dp := nI dp) (n := nI cn) hx hb (by rw [hml]; exact hl.1.symm) hown (hts _ hl1) (hts _ hl2) (hts _ hl3) (hts _ hl4) hK hP hD hS q0 q1 0 0 ha0 ha1 rfl rfl rfl (nI_pos (by omega)) (nI_pos (by omega)) (nI_pos (by omega)) (by rw [e1, e3]; exact hb1) (by rw [e2, e3]; exact hb2) (fun _ _ => rfl) hfr hlo hd ?_
  rw [e1, e2, e3]
  exact fun H1 locs1 hP1 hD1 hS1 => kk H1 locs1 ls hP1 hD1 hS1 hl
theorem j_copyL (q : Nat) {idx a0 a n0 n1 : Nat} {f g : Nat → Int64} {ws' : va_W} (C : Cx X l G cc nL own rt d mc ms post) (hd : decode cc pc = .ok (.invokestatic idx, 3)) (hq : pc + 3 = q) (hl1 : Cond.methodLink own idx arraycopyName ∈ gtbl) (hl2 : Cond.native arraycopyName ∈ gtbl) (hl3 : Cond.static arraycopyName ∈ gtbl) (hl4 : Cond.initialized "java/lang/System" ∈ gtbl) (q0 q1 : Nat) (ha0 : ws[q0]? = some (a0, .inl (G.2.1 3, n0, .inr (.inl f)))) (ha1 : ws[q1]? = some (a, .inl (G.2.1 3, n1, .inr (.inl g)))) (sp dp cn : Nat) {ys yd yn : Int32} (hs : ys = nI sp) (hdp : yd = nI dp) (hn : yn = nI cn) (hb1 : sp + cn ≤ n0) (hb2 : dp + cn ≤ n1) (hz : n0 < 2 ^ 31) (hz1 : n1 < 2 ^ 31) (hdd : 2 ≤ d) (hrm : (st.map fun v => v.category).sum ≤ 8) (hws : ws.set q1 (a, .inl (G.2.1 3, n1, .inr (.inl (va_cpy f g sp dp cn)))) = ws') (kk : J X nL k n ws' q lv st) : J X nL k n ws pc lv (.int yn :: .int yd :: .ref a :: .int ys :: .ref a0 :: st) := by
  subst hq
  subst hs
  subst hdp
  subst hn
  subst hws
  obtain ⟨p, l, e, R, s, m, args, below, meth, c, A, G, Q⟩ := X
  obtain ⟨hx, hb, hml, hown, hts, hK, hA, hlk, hrt, hR, hQ, hl0, hG, hEV⟩ := C
  subst hG
  subst hR
  intro H locs ls hP hD hS hl
  have e1 : (nI sp).toNatClampNeg = sp := nI_clamp (by omega)
  have e2 : (nI dp).toNatClampNeg = dp := nI_clamp (by omega)
  have e3 : (nI cn).toNatClampNeg = cn := nI_clamp (by omega)
  have hnw : nativeFrameWords "java/lang/System" "arraycopy" 5 ≤ 60 := by decide +kernel
  have hfr : 1 ≤ (rmD d mc ms).frames := by show 1 ≤ d; omega
  have hlo : (st.map fun v => v.category).sum + (nativeFrameWords "java/lang/System" "arraycopy" 5 + 11) ≤ (rmD d mc ms).locals := by show _ ≤ 60 * d; omega
  refine va_copyl (ty := .long) (sp := nI sp) (dp := nI dp) (n := nI cn) hx hb (by rw [hml]; exact hl.1.symm) hown (hts _ hl1) (hts _ hl2) (hts _ hl3) (hts _ hl4) hK hP hD hS q0 q1 3 3 ha0 ha1 rfl rfl rfl (nI_pos (by omega)) (nI_pos (by omega)) (nI_pos (by omega)) (by rw [e1, e3]; exact hb1) (by rw [e2, e3]; exact hb2) (fun _ _ => rfl) hfr hlo hd ?_
  rw [e1, e2, e3]
  exact fun H1 locs1 hP1 hD1 hS1 => kk H1 locs1 ls hP1 hD1 hS1 hl
end JN
