section JC
variable {X : JX} {l : Launch} {G : GG} {cc : ByteArray} {nL : Nat} {own : String} {rt : Option FieldType} {d mc ms : Nat} {post : Option Value → va_W → Prop} {k n pc : Nat} {ws : va_W} {lv : List (Nat × Value)} {st : List Value}
theorem pp_blind {As : List Value} {sz : Nat} : FrameBlind (PP G As ws sz) := by
  intro a U g mk h
  obtain ⟨q0, q1, qP, qK, qD, qE⟩ := h
  exact ⟨q0, q1, qP, va_K.moved (u := U) (U := U.calling g mk a) (Vm.Alike.refl U.vm) qK, qD, qE.blind rfl rfl (Vm.Alike.refl U.vm)⟩
/-- a contract out of a walk -/
theorem Con.mk {y : MethodName} {own : String} {mL : Nat} {As : List Value} (hy : plainName y.cls = true) (ho : y.cls = own) (hlen : (lg_sl As).length ≤ mL)
    (h : ∀ X : JX, Cx X l G cc mL own rt d mc ms post → J X mL 0 0 ws 0 (lv_args 0 As) []) : Con l G y cc mL rt d mc ms As ws post := by
  subst ho
  intro sz
  refine Met.ofW (cc := cc) (maxL := mL) (ret := rt) hy rfl ?_
  intro p e s m args below meth c s₁ B hml hv
  obtain ⟨rfl, hsz, hP, hK, hD0, hE⟩ := hv
  subst hsz
  have hts := atoms_spec (ws := WW y cc mL rt) B.pre
  have hown : s.vm.findClass y.cls = some m.cls := findClass_of_methodNamed B.named
  have hD := hD0.self (sz := s.heap.size)
  have hl := lv_entry As (n := mL) hlen
  rw [lg_entry_eq]
  exact h (p, l, e, rmD d mc ms, s, m, As.toArray, below, meth, c, va_A ws s.heap.size, G, _)
    ⟨B.exec, B.bytes, hml, hown, fun w hw => hts w (List.mem_cons_of_mem _ hw), hK, fun q hq => Or.inr hq, B.notSynchronized, B.returns, rfl, rfl, rfl, rfl, hE⟩
    s.heap [] _ hP hD va_S.rf (jl_of hl)
theorem qq_call {p : Program} {l : Launch} {e : Env} {R : Room} {s : State} {m : MethodId} {args : Array Value} {below : List Frame} {meth : Method} {c : Code} {H : Heap} {locs : List Loc} {cells slots : Nat} {Q : State → Prop} {pc : Nat} {ls : Array Slot} {rest st0 : List Value} {a : Array Value} {A0 A1 : Nat → Prop} {H0 : Heap} {mc ms : Nat} {free : Addr → Prop}
    (hr : va_Run p l e R s m args below meth c H locs cells slots mc ms (F0 m pc ls st0) rest (QQ G post A1 a) free) (hS : va_S A0 H0 H locs) (hA : ∀ q, q < H.size → A1 q → A0 q) (hf : ∀ q, free q → A0 q)
    (kk : ∀ (v : Option Value) (w : va_W) (H1 : Heap) (locs1 : List Loc), post v w → va_P G.1 classes w H1 → va_D A1 w → H.size ≤ H1.size → (∀ q : Nat, q < H.size → ¬ A1 q → H1[q]? = H[q]?) → va_S A0 H0 H1 locs1 → W p l e R s m args below meth c H1 locs1 (cells + mc) (slots + ms) Q (F0 m (pc + 3) ls (v.toList ++ rest))) : W p l e R s m args below meth c H locs cells slots Q (F0 m pc ls st0) := by
  intro T hT X
  obtain ⟨v, st₀, t, T', L, h0, X', hL, e1, e2, ⟨⟨r, u, hv, hp, hb, hd⟩, hz, hk⟩, st⟩ := hr T hT X
  cases hv
  rw [h0] at hz hk
  obtain ⟨t2, a1, b1⟩ := kk v u T'.heap (locs ++ L) hp (by rw [e1]; exact hb) hd (by rw [e1]; exact hz) (fun q h1 h2 => by rw [e1]; exact hk q h1 h2)
    ⟨Nat.le_trans hS.1 (by rw [e1]; exact hz), fun q h1 h2 => by rw [e1, hk q (Nat.lt_of_lt_of_le h1 hS.1) (fun z => h2 (hA q (Nat.lt_of_lt_of_le h1 hS.1) z))]; exact hS.2.1 q h1 h2, fun q hq => by
      rcases List.mem_append.mp hq with h | h
      · exact hS.2.2 q h
      · exact hf _ (hL q h)⟩ T' rfl X'
  exact ⟨t2, st t2 a1, b1⟩
section Call
variable {y : MethodName} {cy : ByteArray} {mL idx np d' mc' ms' : Nat} {rt' : Option FieldType} {As st0 : List Value} {b : Nat} {post' : Option Value → va_W → Prop} {wc wr : va_W} {fs : List Value} {ci : Nat} {T : u_T} {N : Nat}
/-- a call of an instance method; the callee's cells by their places, then the rest's -/
theorem j_callV (q : Nat) (isC isR : List Nat) (C : Cx X l G cc nL own rt d mc ms post) (hd : decode cc pc = .ok (.invokevirtual idx, 3)) (hq : pc + 3 = q)
    (hw : CW own idx y cy mL rt' np) (hC : Con l G y cy mL rt' d' mc' ms' (.ref b :: As) wc post')
    (hnp : As.length = np) (hdd : d' + 1 ≤ d ∧ k + mc' ≤ mc ∧ n + ms' ≤ ms) (hst : st0 = As.reverse ++ .ref b :: st) (hrm : (st.map fun v => v.category).sum ≤ 8)
    (q0 : Nat) (hrc : wc[q0]? = some (b, .inr (ci, fs))) (hcl : classes[ci]? = some (y.cls, T, N))
    (hnc : va_nd isC = true) (hCs : isC.map (fun i => ws[i]?) = wc.map some) (hR : isR.map (fun i => ws[i]?) = wr.map some) (hn : va_nd isR = true) (hdis : ∀ i ∈ isR, i ∉ isC)
    (kk : ∀ (v : Option Value) (w : va_W), post' v w → J X nL (k + mc') (n + ms') (wr ++ w) q lv (v.toList ++ st)) : J X nL k n ws pc lv st0 := by
  subst hq
  subst hnp
  obtain ⟨p, l, e, R, s, m, args, below, meth, c, A, G, Q⟩ := X
  obtain ⟨hx, hb, hml, hown, hts, hK, hA, hlk, hrt, hR', hQ, hl0, hG, hEV⟩ := C
  subst hl0; subst hG; subst hR'
  obtain ⟨w1, w2, w3, w4, w5, w6, w7⟩ := hw
  intro H locs ls hP hD hS hl
  have hPc := hP.sub (ws' := wc) isC (map_fm hCs)
  have hDc := hD.sub (ws' := wc) isC hnc hCs
  have hFc := va_free (wc := wc) hD hS hA isC hCs
  have hgood : GoodIn gtbl (WW y cy mL rt') := ww_good (fun _ h => h) w5
  refine qq_call (va_runV (C := y.cls) (As := As) (b := b) (rest := st) (n := As.length) ⟨hx, hb, hml, hown, hts⟩ (hC H.size)
    ⟨callB_of As.length hts hgood rfl rfl rfl (hts _ w4) (hts _ w1) w6 ⟨hdd.1, by show 8 + (mL + 11) + 60 * d' ≤ 60 * d; omega⟩, hts _ w2, hts _ w3⟩
    ⟨pp_blind, va_recv hK hPc hcl hrc, fun U hU hW => ⟨rfl, by rw [hU], by rw [hU]; exact hPc, va_K.moved hW.alike hK, hDc.weaken (fun _ _ _ _ => trivial), hEV.call hW hU hS hFc⟩⟩ rfl rfl hl.1 hst (lv_room hrm) hd hdd.2) hS (fun q _ h => hFc q h) hFc (fun v w H1 locs1 hp hP1 hD1 hz hk hS1 => ?_)
  obtain ⟨hP2, hD2⟩ := va_join (wr := wr) (w1 := w) hP hD isC isR hCs hR hn hdis hk hFc hP1 hD1
  exact kk v w hp H1 locs1 ls hP2 hD2 hS1 hl
/-- a call over the same cells -/
theorem j_callVs (q : Nat) (C : Cx X l G cc nL own rt d mc ms post) (hd : decode cc pc = .ok (.invokevirtual idx, 3)) (hq : pc + 3 = q)
    (hw : CW own idx y cy mL rt' np) (hC : Con l G y cy mL rt' d' mc' ms' (.ref b :: As) ws post')
    (hnp : As.length = np) (hdd : d' + 1 ≤ d ∧ k + mc' ≤ mc ∧ n + ms' ≤ ms) (hst : st0 = As.reverse ++ .ref b :: st) (hrm : (st.map fun v => v.category).sum ≤ 8)
    (q0 : Nat) (hrc : ws[q0]? = some (b, .inr (ci, fs))) (hcl : classes[ci]? = some (y.cls, T, N))
    (kk : ∀ (v : Option Value) (w : va_W), post' v w → J X nL (k + mc') (n + ms') w q lv (v.toList ++ st)) : J X nL k n ws pc lv st0 := by
  subst hq
  subst hnp
  obtain ⟨p, l, e, R, s, m, args, below, meth, c, A, G, Q⟩ := X
  obtain ⟨hx, hb, hml, hown, hts, hK, hA, hlk, hrt, hR', hQ, hl0, hG, hEV⟩ := C
  subst hl0; subst hG; subst hR'
  obtain ⟨w1, w2, w3, w4, w5, w6, w7⟩ := hw
  intro H locs ls hP hD hS hl
  have hFc : ∀ q, va_A ws H.size q → A q := by
    intro q h
    rcases h with ⟨k, e, h⟩ | h
    · exact hD.2 k (q, e) h
    · exact hA q (Nat.le_trans hS.1 h)
  have hgood : GoodIn gtbl (WW y cy mL rt') := ww_good (fun _ h => h) w5
  refine qq_call (va_runV (C := y.cls) (As := As) (b := b) (rest := st) (n := As.length) ⟨hx, hb, hml, hown, hts⟩ (hC H.size)
    ⟨callB_of As.length hts hgood rfl rfl rfl (hts _ w4) (hts _ w1) w6 ⟨hdd.1, by show 8 + (mL + 11) + 60 * d' ≤ 60 * d; omega⟩, hts _ w2, hts _ w3⟩
    ⟨pp_blind, va_recv hK hP hcl hrc, fun U hU hW => ⟨rfl, by rw [hU], by rw [hU]; exact hP, va_K.moved hW.alike hK, hD.weaken (fun _ _ _ _ => trivial), hEV.call hW hU hS hFc⟩⟩ rfl rfl hl.1 hst (lv_room hrm) hd hdd.2) hS (fun q _ h => hFc q h) hFc (fun v w H1 locs1 hp hP1 hD1 hz hk hS1 => ?_)
  exact kk v w hp H1 locs1 ls hP1 (hD1.weaken (fun _ q _ h => hFc q.1 h)) hS1 hl
/-- a call of a static method that needs no cells -/
theorem j_callS0 (q : Nat) (C : Cx X l G cc nL own rt d mc ms post) (hd : decode cc pc = .ok (.invokestatic idx, 3)) (hq : pc + 3 = q)
    (hw : CS own idx y cy mL rt' np) (hC : Con l G y cy mL rt' d' mc' ms' As [] post')
    (hnp : As.length = np) (hdd : d' + 1 ≤ d ∧ k + mc' ≤ mc ∧ n + ms' ≤ ms) (hst : st0 = As.reverse ++ st) (hrm : (st.map fun v => v.category).sum ≤ 8)
    (kk : ∀ (v : Option Value) (w : va_W), post' v w → J X nL (k + mc') (n + ms') (ws ++ w) q lv (v.toList ++ st)) : J X nL k n ws pc lv st0 := by
  subst hq
  subst hnp
  obtain ⟨p, l, e, R, s, m, args, below, meth, c, A, G, Q⟩ := X
  obtain ⟨hx, hb, hml, hown, hts, hK, hA, hlk, hrt, hR', hQ, hl0, hG, hEV⟩ := C
  subst hl0; subst hG; subst hR'
  obtain ⟨w1, w2, w4, w5, w6, w7⟩ := hw
  intro H locs ls hP hD hS hl
  have hFc := va_free (wc := []) hD hS hA [] rfl
  have hgood : GoodIn gtbl (WW y cy mL rt') := ww_good (fun _ h => h) w5
  refine qq_call (va_runS (As := As) (rest := st) (n := As.length) ⟨hx, hb, hml, hown, hts⟩ (hC H.size)
    ⟨callB_of As.length hts hgood rfl rfl rfl (hts _ w4) (hts _ w1) w6 ⟨hdd.1, by show 8 + (mL + 11) + 60 * d' ≤ 60 * d; omega⟩, hts _ w2⟩
    ⟨pp_blind, fun U hU hW => ⟨rfl, by rw [hU], fun k q h => by simp at h, va_K.moved hW.alike hK, ⟨fun i j p q h => by simp at h, fun k q h => by simp at h⟩, hEV.call hW hU hS hFc⟩⟩ rfl rfl hl.1 hst (lv_room hrm) hd hdd.2) hS (fun q _ h => hFc q h) hFc (fun v w H1 locs1 hp hP1 hD1 hz hk hS1 => ?_)
  have hmap : (List.range ws.length).map (fun i => ws[i]?) = ws.map some := by
    apply List.ext_getElem?
    intro i
    rw [List.getElem?_map, List.getElem?_map]
    by_cases hi : i < ws.length
    · rw [List.getElem?_range hi, List.getElem?_eq_getElem hi]; simp [hi]
    · have : ws[i]? = none := List.getElem?_eq_none (by omega)
      have h2 : (List.range ws.length)[i]? = none := List.getElem?_eq_none (by simp; omega)
      rw [this, h2]; rfl
  obtain ⟨hP2, hD2⟩ : va_P G.1 classes (ws ++ w) H1 ∧ va_D A (ws ++ w) := by
    refine ⟨va_P.app (fun k q hq => (hP k q hq).kept (hk q.1 (hP k q hq).lt (fun h => ?_))) hP1, va_D.app hD (hD1.weaken (fun _ q _ h => hFc q.1 h)) (fun i j x y hx hy hxy => ?_)⟩
    · rcases h with ⟨k, e, h⟩ | h
      · simp at h
      · have := (hP k q hq).lt; omega
    · have h1 := (hP i x hx).lt
      rcases hD1.2 j y hy with ⟨k, e, h⟩ | h
      · simp at h
      · omega
  exact kk v w hp H1 locs1 ls hP2 hD2 hS1 hl
end Call
end JC
def bI (p : Prop) [Decidable p] : Int32 := if p then 1 else 0
theorem bI_t {p : Prop} [Decidable p] (h : p) : bI p = 1 := if_pos h
theorem bI_f {p : Prop} [Decidable p] (h : ¬ p) : bI p = 0 := if_neg h
theorem bI_nar (p : Prop) [Decidable p] : narrow .boolean (.int (bI p)) = .int (bI p) := by
  unfold bI
  by_cases h : p
  · rw [if_pos h]; rfl
  · rw [if_neg h]; rfl
def pI (r : Int32) (w' : va_W) : Option Value → va_W → Prop := fun v w => v = some (.int r) ∧ w = w'
def pL (r : Int64) (w' : va_W) : Option Value → va_W → Prop := fun v w => v = some (.long r) ∧ w = w'
def pV (w' : va_W) : Option Value → va_W → Prop := fun v w => v = none ∧ w = w'
section JN
variable {X : JX} {l : Launch} {G : GG} {cc : ByteArray} {nL : Nat} {own : String} {rt : Option FieldType} {d mc ms : Nat} {post : Option Value → va_W → Prop} {k n pc : Nat} {ws : va_W} {lv : List (Nat × Value)} {st : List Value} {a b : Nat}
theorem j_iaddN (q : Nat) (C : Cx X l G cc nL own rt d mc ms post) (hd : decode cc pc = .ok (.iadd, 1)) (hq : pc + 1 = q)  (kk : J X nL k n ws q lv (.int (nI (a + b)) :: st)) : J X nL k n ws pc lv (.int (nI b) :: .int (nI a) :: st) := by
  refine j_iadd q C hd hq ?_
  rw [nI_add]; exact kk
theorem j_imulN (q : Nat) (C : Cx X l G cc nL own rt d mc ms post) (hd : decode cc pc = .ok (.imul, 1)) (hq : pc + 1 = q)  (kk : J X nL k n ws q lv (.int (nI (a * b)) :: st)) : J X nL k n ws pc lv (.int (nI b) :: .int (nI a) :: st) := by
  refine j_imul q C hd hq ?_
  rw [pk_mul]; exact kk
theorem j_isubN (q : Nat) (C : Cx X l G cc nL own rt d mc ms post) (hd : decode cc pc = .ok (.isub, 1)) (hq : pc + 1 = q) (h : b ≤ a) (kk : J X nL k n ws q lv (.int (nI (a - b)) :: st)) : J X nL k n ws pc lv (.int (nI b) :: .int (nI a) :: st) := by
  refine j_isub q C hd hq ?_
  rw [pk_sub h]; exact kk
theorem j_idivN (q : Nat) (C : Cx X l G cc nL own rt d mc ms post) (hd : decode cc pc = .ok (.idiv, 1)) (hq : pc + 1 = q) (ha : a < 2 ^ 31) (h0 : 0 < b) (hb : b < 2 ^ 31) (kk : J X nL k n ws q lv (.int (nI (a / b)) :: st)) : J X nL k n ws pc lv (.int (nI b) :: .int (nI a) :: st) := by
  refine j_idiv q C hd hq (nI_ne0 h0 hb) ?_
  rw [pk_div ha h0 hb]; exact kk
theorem j_i2lN (q : Nat) (C : Cx X l G cc nL own rt d mc ms post) (hd : decode cc pc = .ok (.i2l, 1)) (hq : pc + 1 = q) (ha : a < 2 ^ 31) (kk : J X nL k n ws q lv (.long (lN a) :: st)) : J X nL k n ws pc lv (.int (nI a) :: st) := by
  refine j_i2l q C hd hq ?_
  rw [nI_l ha]; exact kk
theorem j_iincN (q : Nat) {i : Nat} {z : Nat} (C : Cx X l G cc nL own rt d mc ms post) (hd : decode cc pc = .ok (.iinc i (z : Int), 3)) (hq : pc + 3 = q) (hg : jget lv i = some (.int (nI a))) (hc : jcat lv i = true) (hi : i < nL) (kk : J X nL k n ws q ((i, .int (nI (a + z))) :: lv) st) : J X nL k n ws pc lv st := by
  refine j_iinc q C hd hq hg (v := nI (a + z)) ?_ hc hi kk
  rw [← nI_add]; rfl
theorem j_icmp_eqN (tgt q : Nat) {off : Int} (C : Cx X l G cc nL own rt d mc ms post) (hd : decode cc pc = .ok (.if_icmp .eq off, 3)) (ht : (pc : Int) + off = (tgt : Int)) (hq : pc + 3 = q) (ha : a < 2 ^ 31) (hb : b < 2 ^ 31) (kt : a = b → J X nL k n ws tgt lv st) (kf : ¬ a = b → J X nL k n ws q lv st) : J X nL k n ws pc lv (.int (nI b) :: .int (nI a) :: st) :=
  j_icmp_eq tgt q C hd ht hq (fun h => kt ((nI_eq ha hb).mp h)) (fun h => kf (fun e => h ((nI_eq ha hb).mpr e)))
theorem j_icmp_neN (tgt q : Nat) {off : Int} (C : Cx X l G cc nL own rt d mc ms post) (hd : decode cc pc = .ok (.if_icmp .ne off, 3)) (ht : (pc : Int) + off = (tgt : Int)) (hq : pc + 3 = q) (ha : a < 2 ^ 31) (hb : b < 2 ^ 31) (kt : ¬ a = b → J X nL k n ws tgt lv st) (kf : a = b → J X nL k n ws q lv st) : J X nL k n ws pc lv (.int (nI b) :: .int (nI a) :: st) :=
  j_icmp_ne tgt q C hd ht hq (fun h => kt (fun e => h ((nI_eq ha hb).mpr e))) (fun h => kf ((nI_eq ha hb).mp h))
theorem j_icmp_ltN (tgt q : Nat) {off : Int} (C : Cx X l G cc nL own rt d mc ms post) (hd : decode cc pc = .ok (.if_icmp .lt off, 3)) (ht : (pc : Int) + off = (tgt : Int)) (hq : pc + 3 = q) (ha : a < 2 ^ 31) (hb : b < 2 ^ 31) (kt : a < b → J X nL k n ws tgt lv st) (kf : b ≤ a → J X nL k n ws q lv st) : J X nL k n ws pc lv (.int (nI b) :: .int (nI a) :: st) :=
  j_icmp_lt tgt q C hd ht hq (fun h => kt ((nI_ltI ha hb).mp h)) (fun h => kf (Nat.le_of_not_lt fun e => h ((nI_ltI ha hb).mpr e)))
theorem j_icmp_geN (tgt q : Nat) {off : Int} (C : Cx X l G cc nL own rt d mc ms post) (hd : decode cc pc = .ok (.if_icmp .ge off, 3)) (ht : (pc : Int) + off = (tgt : Int)) (hq : pc + 3 = q) (ha : a < 2 ^ 31) (hb : b < 2 ^ 31) (kt : b ≤ a → J X nL k n ws tgt lv st) (kf : a < b → J X nL k n ws q lv st) : J X nL k n ws pc lv (.int (nI b) :: .int (nI a) :: st) :=
  j_icmp_ge tgt q C hd ht hq (fun h => kt ((nI_leI hb ha).mp h)) (fun h => kf (Nat.lt_of_not_le fun e => h ((nI_leI hb ha).mpr e)))
theorem j_icmp_gtN (tgt q : Nat) {off : Int} (C : Cx X l G cc nL own rt d mc ms post) (hd : decode cc pc = .ok (.if_icmp .gt off, 3)) (ht : (pc : Int) + off = (tgt : Int)) (hq : pc + 3 = q) (ha : a < 2 ^ 31) (hb : b < 2 ^ 31) (kt : b < a → J X nL k n ws tgt lv st) (kf : a ≤ b → J X nL k n ws q lv st) : J X nL k n ws pc lv (.int (nI b) :: .int (nI a) :: st) :=
  j_icmp_gt tgt q C hd ht hq (fun h => kt ((nI_ltI hb ha).mp h)) (fun h => kf (Nat.le_of_not_lt fun e => h ((nI_ltI hb ha).mpr e)))
theorem j_icmp_leN (tgt q : Nat) {off : Int} (C : Cx X l G cc nL own rt d mc ms post) (hd : decode cc pc = .ok (.if_icmp .le off, 3)) (ht : (pc : Int) + off = (tgt : Int)) (hq : pc + 3 = q) (ha : a < 2 ^ 31) (hb : b < 2 ^ 31) (kt : a ≤ b → J X nL k n ws tgt lv st) (kf : b < a → J X nL k n ws q lv st) : J X nL k n ws pc lv (.int (nI b) :: .int (nI a) :: st) :=
  j_icmp_le tgt q C hd ht hq (fun h => kt ((nI_leI ha hb).mp h)) (fun h => kf (Nat.lt_of_not_le fun e => h ((nI_leI ha hb).mpr e)))
theorem j_if_eqN (tgt q : Nat) {off : Int} (C : Cx X l G cc nL own rt d mc ms post) (hd : decode cc pc = .ok (.ifCond .eq off, 3)) (ht : (pc : Int) + off = (tgt : Int)) (hq : pc + 3 = q) (ha : a < 2 ^ 31) (kt : a = 0 → J X nL k n ws tgt lv st) (kf : 0 < a → J X nL k n ws q lv st) : J X nL k n ws pc lv (.int (nI a) :: st) :=
  j_if_eq tgt q C hd ht hq (fun h => kt (Decidable.byContradiction fun e => nI_ne0 (Nat.pos_of_ne_zero e) ha h)) (fun h => kf (Nat.pos_of_ne_zero fun e => h (by rw [e]; rfl)))
theorem j_if_neN (tgt q : Nat) {off : Int} (C : Cx X l G cc nL own rt d mc ms post) (hd : decode cc pc = .ok (.ifCond .ne off, 3)) (ht : (pc : Int) + off = (tgt : Int)) (hq : pc + 3 = q) (ha : a < 2 ^ 31) (kt : 0 < a → J X nL k n ws tgt lv st) (kf : a = 0 → J X nL k n ws q lv st) : J X nL k n ws pc lv (.int (nI a) :: st) :=
  j_if_ne tgt q C hd ht hq (fun h => kt (Nat.pos_of_ne_zero fun e => h (by rw [e]; rfl))) (fun h => kf (Decidable.byContradiction fun e => nI_ne0 (Nat.pos_of_ne_zero e) ha h))
theorem j_if_gtN (tgt q : Nat) {off : Int} (C : Cx X l G cc nL own rt d mc ms post) (hd : decode cc pc = .ok (.ifCond .gt off, 3)) (ht : (pc : Int) + off = (tgt : Int)) (hq : pc + 3 = q) (ha : a < 2 ^ 31) (kt : 0 < a → J X nL k n ws tgt lv st) (kf : a = 0 → J X nL k n ws q lv st) : J X nL k n ws pc lv (.int (nI a) :: st) :=
  j_if_gt tgt q C hd ht hq (fun h => kt (Nat.pos_of_ne_zero fun e => by rw [e] at h; exact absurd h (by decide))) (fun h => kf (Decidable.byContradiction fun e => h (by rw [← nI_0]; exact nI_lt (Nat.pos_of_ne_zero e) ha)))
theorem j_if_leN (tgt q : Nat) {off : Int} (C : Cx X l G cc nL own rt d mc ms post) (hd : decode cc pc = .ok (.ifCond .le off, 3)) (ht : (pc : Int) + off = (tgt : Int)) (hq : pc + 3 = q) (ha : a < 2 ^ 31) (kt : a = 0 → J X nL k n ws tgt lv st) (kf : 0 < a → J X nL k n ws q lv st) : J X nL k n ws pc lv (.int (nI a) :: st) :=
  j_if_le tgt q C hd ht hq (fun h => kt (Decidable.byContradiction fun e => nI_nle (Nat.pos_of_ne_zero e) ha h)) (fun h => kf (Nat.pos_of_ne_zero fun e => h (by rw [e]; decide)))
theorem j_if_ltN (tgt q : Nat) {off : Int} (C : Cx X l G cc nL own rt d mc ms post) (hd : decode cc pc = .ok (.ifCond .lt off, 3)) (ht : (pc : Int) + off = (tgt : Int)) (hq : pc + 3 = q) (ha : a < 2 ^ 31) (kf : J X nL k n ws q lv st) : J X nL k n ws pc lv (.int (nI a) :: st) :=
  j_if_lt tgt q C hd ht hq (fun h => absurd h (nI_pos ha)) (fun _ => kf)
theorem j_if_geN (tgt q : Nat) {off : Int} (C : Cx X l G cc nL own rt d mc ms post) (hd : decode cc pc = .ok (.ifCond .ge off, 3)) (ht : (pc : Int) + off = (tgt : Int)) (hq : pc + 3 = q) (ha : a < 2 ^ 31) (kt : J X nL k n ws tgt lv st) : J X nL k n ws pc lv (.int (nI a) :: st) :=
  j_if_ge tgt q C hd ht hq (fun _ => kt) (fun h => absurd (nI_pos' ha) h)
theorem j_if_eqB (tgt q : Nat) {off : Int} {p : Prop} [Decidable p] (C : Cx X l G cc nL own rt d mc ms post) (hd : decode cc pc = .ok (.ifCond .eq off, 3)) (ht : (pc : Int) + off = (tgt : Int)) (hq : pc + 3 = q) (kt : ¬ p → J X nL k n ws tgt lv st) (kf : p → J X nL k n ws q lv st) : J X nL k n ws pc lv (.int (bI p) :: st) :=
  j_if_eq tgt q C hd ht hq (fun h => kt (fun hp => by rw [bI_t hp] at h; exact absurd h (by decide))) (fun h => kf (Decidable.byContradiction fun hp => h (bI_f hp)))
theorem j_if_neB (tgt q : Nat) {off : Int} {p : Prop} [Decidable p] (C : Cx X l G cc nL own rt d mc ms post) (hd : decode cc pc = .ok (.ifCond .ne off, 3)) (ht : (pc : Int) + off = (tgt : Int)) (hq : pc + 3 = q) (kt : p → J X nL k n ws tgt lv st) (kf : ¬ p → J X nL k n ws q lv st) : J X nL k n ws pc lv (.int (bI p) :: st) :=
  j_if_ne tgt q C hd ht hq (fun h => kt (Decidable.byContradiction fun hp => h (bI_f hp))) (fun h => kf (fun hp => by rw [bI_t hp] at h; exact absurd h (by decide)))
theorem j_if_ltL (tgt q : Nat) {off : Int} {x y : Int64} (C : Cx X l G cc nL own rt d mc ms post) (hd : decode cc pc = .ok (.ifCond .lt off, 3)) (ht : (pc : Int) + off = (tgt : Int)) (hq : pc + 3 = q) (kt : x < y → J X nL k n ws tgt lv st) (kf : ¬ x < y → J X nL k n ws q lv st) : J X nL k n ws pc lv (.int (lg_cmp x y) :: st) :=
  j_if_lt tgt q C hd ht hq (fun h => kt ((lg_cmp_lt x y).mp h)) (fun h => kf (fun e => h ((lg_cmp_lt x y).mpr e)))
theorem j_if_gtL (tgt q : Nat) {off : Int} {x y : Int64} (C : Cx X l G cc nL own rt d mc ms post) (hd : decode cc pc = .ok (.ifCond .gt off, 3)) (ht : (pc : Int) + off = (tgt : Int)) (hq : pc + 3 = q) (kt : y < x → J X nL k n ws tgt lv st) (kf : ¬ y < x → J X nL k n ws q lv st) : J X nL k n ws pc lv (.int (lg_cmp x y) :: st) :=
  j_if_gt tgt q C hd ht hq (fun h => kt ((lg_cmp_gt x y).mp h)) (fun h => kf (fun e => h ((lg_cmp_gt x y).mpr e)))
theorem j_if_leL (tgt q : Nat) {off : Int} {x y : Int64} (C : Cx X l G cc nL own rt d mc ms post) (hd : decode cc pc = .ok (.ifCond .le off, 3)) (ht : (pc : Int) + off = (tgt : Int)) (hq : pc + 3 = q) (kt : x ≤ y → J X nL k n ws tgt lv st) (kf : ¬ x ≤ y → J X nL k n ws q lv st) : J X nL k n ws pc lv (.int (lg_cmp x y) :: st) :=
  j_if_le tgt q C hd ht hq (fun h => kt ((lg_cmp_le x y).mp h)) (fun h => kf (fun e => h ((lg_cmp_le x y).mpr e)))
theorem j_if_geL (tgt q : Nat) {off : Int} {x y : Int64} (C : Cx X l G cc nL own rt d mc ms post) (hd : decode cc pc = .ok (.ifCond .ge off, 3)) (ht : (pc : Int) + off = (tgt : Int)) (hq : pc + 3 = q) (kt : y ≤ x → J X nL k n ws tgt lv st) (kf : ¬ y ≤ x → J X nL k n ws q lv st) : J X nL k n ws pc lv (.int (lg_cmp x y) :: st) :=
  j_if_ge tgt q C hd ht hq (fun h => kt ((lg_cmp_ge x y).mp h)) (fun h => kf (fun e => h ((lg_cmp_ge x y).mpr e)))
theorem j_if_eqL (tgt q : Nat) {off : Int} {x y : Int64} (C : Cx X l G cc nL own rt d mc ms post) (hd : decode cc pc = .ok (.ifCond .eq off, 3)) (ht : (pc : Int) + off = (tgt : Int)) (hq : pc + 3 = q) (kt : x = y → J X nL k n ws tgt lv st) (kf : ¬ x = y → J X nL k n ws q lv st) : J X nL k n ws pc lv (.int (lg_cmp x y) :: st) :=
  j_if_eq tgt q C hd ht hq (fun h => kt ((lg_cmp_eq x y).mp h)) (fun h => kf (fun e => h ((lg_cmp_eq x y).mpr e)))
theorem j_if_neL (tgt q : Nat) {off : Int} {x y : Int64} (C : Cx X l G cc nL own rt d mc ms post) (hd : decode cc pc = .ok (.ifCond .ne off, 3)) (ht : (pc : Int) + off = (tgt : Int)) (hq : pc + 3 = q) (kt : ¬ x = y → J X nL k n ws tgt lv st) (kf : x = y → J X nL k n ws q lv st) : J X nL k n ws pc lv (.int (lg_cmp x y) :: st) :=
  j_if_ne tgt q C hd ht hq (fun h => kt (fun e => h ((lg_cmp_eq x y).mpr e))) (fun h => kf ((lg_cmp_eq x y).mp h))
section Call2
variable {y : MethodName} {cy : ByteArray} {mL idx np d' mc' ms' : Nat} {rt' : Option FieldType} {As st0 : List Value} {o : Nat} {ad : Nat → Nat} {M : MS} {w' : va_W} {x : Int32} {z : Int64}
/-- a call of the reference's own method, over its own cells -/
theorem j_mI (q : Nat) (C : Cx X l G cc nL RX11 rt d 0 0 post) (hd : decode cc pc = .ok (.invokevirtual idx, 3)) (hq : pc + 3 = q)
    (hw : CW RX11 idx y cy mL rt' np) (hy : y.cls = RX11) (hC : Con l G y cy mL rt' d' 0 0 (.ref o :: As) (mw o ad G.2.1 M) (pI x w'))
    (hnp : As.length = np) (hdd : d' + 1 ≤ d) (hst : st0 = As.reverse ++ .ref o :: st) (hrm : (st.map fun v => v.category).sum ≤ 8)
    (kk : J X nL 0 0 w' q lv (.int x :: st)) : J X nL 0 0 (mw o ad G.2.1 M) pc lv st0 := by
  refine j_callVs q C hd hq hw hC hnp ⟨hdd, Nat.le_refl _, Nat.le_refl _⟩ hst hrm 0 rfl (ci := 11) (T := TX11) (N := 38) (by rw [hy]; rfl) (fun v w hp => ?_)
  obtain ⟨rfl, rfl⟩ := hp
  exact kk
theorem j_sI (q : Nat) (C : Cx X l G cc nL own rt d mc ms post) (hd : decode cc pc = .ok (.invokestatic idx, 3)) (hq : pc + 3 = q)
    (hw : CS own idx y cy mL rt' np) (hC : Con l G y cy mL rt' d' 0 0 As [] (pI x []))
    (hnp : As.length = np) (hdd : d' + 1 ≤ d) (hk : k ≤ mc ∧ n ≤ ms) (hst : st0 = As.reverse ++ st) (hrm : (st.map fun v => v.category).sum ≤ 8)
    (kk : J X nL k n ws q lv (.int x :: st)) : J X nL k n ws pc lv st0 := by
  refine j_callS0 q C hd hq hw hC hnp ⟨hdd, hk.1, hk.2⟩ hst hrm (fun v w hp => ?_)
  obtain ⟨rfl, rfl⟩ := hp
  rw [List.append_nil]
  exact kk
/-- a call of the reference's own method, over its own cells -/
theorem j_mL (q : Nat) (C : Cx X l G cc nL RX11 rt d 0 0 post) (hd : decode cc pc = .ok (.invokevirtual idx, 3)) (hq : pc + 3 = q)
    (hw : CW RX11 idx y cy mL rt' np) (hy : y.cls = RX11) (hC : Con l G y cy mL rt' d' 0 0 (.ref o :: As) (mw o ad G.2.1 M) (pL z w'))
    (hnp : As.length = np) (hdd : d' + 1 ≤ d) (hst : st0 = As.reverse ++ .ref o :: st) (hrm : (st.map fun v => v.category).sum ≤ 8)
    (kk : J X nL 0 0 w' q lv (.long z :: st)) : J X nL 0 0 (mw o ad G.2.1 M) pc lv st0 := by
  refine j_callVs q C hd hq hw hC hnp ⟨hdd, Nat.le_refl _, Nat.le_refl _⟩ hst hrm 0 rfl (ci := 11) (T := TX11) (N := 38) (by rw [hy]; rfl) (fun v w hp => ?_)
  obtain ⟨rfl, rfl⟩ := hp
  exact kk
theorem j_sL (q : Nat) (C : Cx X l G cc nL own rt d mc ms post) (hd : decode cc pc = .ok (.invokestatic idx, 3)) (hq : pc + 3 = q)
    (hw : CS own idx y cy mL rt' np) (hC : Con l G y cy mL rt' d' 0 0 As [] (pL z []))
    (hnp : As.length = np) (hdd : d' + 1 ≤ d) (hk : k ≤ mc ∧ n ≤ ms) (hst : st0 = As.reverse ++ st) (hrm : (st.map fun v => v.category).sum ≤ 8)
    (kk : J X nL k n ws q lv (.long z :: st)) : J X nL k n ws pc lv st0 := by
  refine j_callS0 q C hd hq hw hC hnp ⟨hdd, hk.1, hk.2⟩ hst hrm (fun v w hp => ?_)
  obtain ⟨rfl, rfl⟩ := hp
  rw [List.append_nil]
  exact kk
/-- a call of the reference's own method, over its own cells -/
theorem j_mV (q : Nat) (C : Cx X l G cc nL RX11 rt d 0 0 post) (hd : decode cc pc = .ok (.invokevirtual idx, 3)) (hq : pc + 3 = q)
    (hw : CW RX11 idx y cy mL rt' np) (hy : y.cls = RX11) (hC : Con l G y cy mL rt' d' 0 0 (.ref o :: As) (mw o ad G.2.1 M) (pV w'))
    (hnp : As.length = np) (hdd : d' + 1 ≤ d) (hst : st0 = As.reverse ++ .ref o :: st) (hrm : (st.map fun v => v.category).sum ≤ 8)
    (kk : J X nL 0 0 w' q lv (st)) : J X nL 0 0 (mw o ad G.2.1 M) pc lv st0 := by
  refine j_callVs q C hd hq hw hC hnp ⟨hdd, Nat.le_refl _, Nat.le_refl _⟩ hst hrm 0 rfl (ci := 11) (T := TX11) (N := 38) (by rw [hy]; rfl) (fun v w hp => ?_)
  obtain ⟨rfl, rfl⟩ := hp
  exact kk
theorem j_sV (q : Nat) (C : Cx X l G cc nL own rt d mc ms post) (hd : decode cc pc = .ok (.invokestatic idx, 3)) (hq : pc + 3 = q)
    (hw : CS own idx y cy mL rt' np) (hC : Con l G y cy mL rt' d' 0 0 As [] (pV []))
    (hnp : As.length = np) (hdd : d' + 1 ≤ d) (hk : k ≤ mc ∧ n ≤ ms) (hst : st0 = As.reverse ++ st) (hrm : (st.map fun v => v.category).sum ≤ 8)
    (kk : J X nL k n ws q lv (st)) : J X nL k n ws pc lv st0 := by
  refine j_callS0 q C hd hq hw hC hnp ⟨hdd, hk.1, hk.2⟩ hst hrm (fun v w hp => ?_)
  obtain ⟨rfl, rfl⟩ := hp
  rw [List.append_nil]
  exact kk
end Call2
end JN
