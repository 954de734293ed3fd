theorem tk_s (L : List Nat) (i : Nat) (h : i < L.length) : L.take (i + 1) = L.take i ++ [L.getD i 0] := by
  rw [List.take_succ_eq_append_getElem h, List.getD_eq_getElem?_getD, List.getElem?_eq_getElem h]
  rfl
theorem gD_mem (L : List Nat) (i : Nat) (h : i < L.length) : L.getD i 0 ∈ L := by
  rw [List.getD_eq_getElem?_getD, List.getElem?_eq_getElem h]
  exact List.getElem_mem h
theorem gD_app (L M : List Nat) (i : Nat) (h : i < L.length) : (L ++ M).getD i 0 = L.getD i 0 := by
  rw [List.getD_eq_getElem?_getD, List.getD_eq_getElem?_getD, List.getElem?_append_left h]
theorem gD_end (L : List Nat) (c : Nat) : (L ++ [c]).getD L.length 0 = c := by
  rw [List.getD_eq_getElem?_getD, List.getElem?_append_right (Nat.le_refl _)]; simp
theorem nI_rem {a b : Nat} (ha : a < 2 ^ 31) (h0 : 0 < b) (hb : b < 2 ^ 31) : nI a - nI a / nI b * nI b = nI (a % b) := by
  rw [pk_div ha h0 hb, pk_mul, pk_sub (Nat.div_mul_le_self a b)]
  congr 1
  have := Nat.div_add_mod a b
  rw [Nat.mul_comm] at this
  omega
section JT
variable {X : JX} {l : Launch} {G : GG} {cc : ByteArray} {nL : Nat} {own : String} {rt : Option FieldType} {d mc ms : Nat} {post : Option Value → va_W → Prop} {k n pc : Nat} {ws : va_W} {lv : List (Nat × Value)} {st : List Value}
theorem j_top {x x' : Int32} (h : x = x') (kk : J X nL k n ws pc lv (.int x' :: st)) : J X nL k n ws pc lv (.int x :: st) := h ▸ kk
theorem j_topL {x x' : Int64} (h : x = x') (kk : J X nL k n ws pc lv (.long x' :: st)) : J X nL k n ws pc lv (.long x :: st) := h ▸ kk
theorem j_iremN (q : Nat) {a b : Nat} (C : Cx X l G cc nL own rt d mc ms post) (hd : decode cc pc = .ok (.irem, 1)) (hq : pc + 1 = q) (ha : a < 2 ^ 31) (h0 : 0 < b) (hb : b < 2 ^ 31) (kk : J X nL k n ws q lv (.int (nI (a % b)) :: st)) : J X nL k n ws pc lv (.int (nI b) :: .int (nI a) :: st) := by
  refine j_irem q C hd hq (nI_ne0 h0 hb) ?_
  rw [nI_rem ha h0 hb]; exact kk
theorem j_sIN (q : Nat) {y : MethodName} {cy : ByteArray} {mL idx np d' : Nat} {rt' : Option FieldType} {As st0 : List Value} {x : Int32} {host : String} (C : Cx X l G cc nL own rt d mc ms post) (hd : decode cc pc = .ok (.invokestatic idx, 3)) (hq : pc + 3 = q)
    (hw : CN own idx y host cy mL rt' np) (hs : Cond.static y ∈ gtbl) (hC : Con l G y cy mL rt' d' 0 0 As [] (pI x []))
    (hnp : As.length = np) (hdd : d' + 1 ≤ d) (hk : k ≤ mc ∧ n ≤ ms) (hst : st0 = As.reverse ++ st) (hrm : (st.map fun v => v.category).sum ≤ 8)
    (kk : J X nL k n ws q lv (.int x :: st)) : J X nL k n ws pc lv st0 := by
  refine j_callMSN q C hd hq hw hs hC hnp ⟨hdd, hk.1, hk.2⟩ hst hrm [] ws rfl (fun v w hp => ?_)
  obtain ⟨rfl, rfl⟩ := hp
  exact kk
end JT
def updN (g : Nat → Nat) (c y : Nat) : Nat → Nat := fun j => if j = c then y else g j
/-- a Head's cells: L are listed, of the strengths g -/
def HH (S : MS) (L : List Nat) (g : Nat → Nat) : Prop := S.1 4 = nI L.length ∧ L.length ≤ 528 ∧ (∀ i, i < L.length → S.2.1 3 i = nI (L.getD i 0)) ∧ L.Nodup ∧ (∀ c ∈ L, c < 2016) ∧ (∀ c, c < 2016 → S.2.1 2 c = if c ∈ L then nI (g c + 1) else nI 0) ∧ (∀ c, g c ≤ 1000) ∧ ∀ c, c ∉ L → g c = 0
theorem HH_str0 {S : MS} {L : List Nat} {g : Nat → Nat} (h : HH S L g) {c : Nat} (hc : c < 2016) (z : S.2.1 2 c ≤ 0) : nI 0 = nI (g c) := by
  have hg := h.2.2.2.2.2.2.1 c
  by_cases e : c ∈ L
  · rw [h.2.2.2.2.2.1 c hc, if_pos e] at z
    exact absurd z (nI_nle (by omega) (by omega))
  · rw [h.2.2.2.2.2.2.2 c e]
theorem HH_str1 {S : MS} {L : List Nat} {g : Nat → Nat} (h : HH S L g) {c : Nat} (hc : c < 2016) (z : ¬ S.2.1 2 c ≤ 0) : S.2.1 2 c - nI 1 = nI (g c) := by
  have hg := h.2.2.2.2.2.2.1 c
  by_cases e : c ∈ L
  · rw [h.2.2.2.2.2.1 c hc, if_pos e, pk_sub (by omega), Nat.add_sub_cancel]
  · rw [h.2.2.2.2.2.1 c hc, if_neg e] at z
    exact absurd (by decide) z
theorem HH_in {S : MS} {L : List Nat} {g : Nat → Nat} (h : HH S L g) {c : Nat} (hc : c < 2016) : ¬ S.2.1 2 c = 0 ↔ c ∈ L := by
  have hg := h.2.2.2.2.2.2.1 c
  rw [h.2.2.2.2.2.1 c hc]
  by_cases e : c ∈ L
  · rw [if_pos e]; exact ⟨fun _ => e, fun _ => nI_ne0 (by omega) (by omega)⟩
  · rw [if_neg e]; exact ⟨fun z => absurd rfl z, fun z => absurd z e⟩
theorem va_up_us {α : Type} (f : Nat → α) (k : Nat) (v : α) : va_up f k v k = v := by unfold va_up; rw [if_pos rfl]
theorem HH_put {S : MS} {L : List Nat} {g : Nat → Nat} (h : HH S L g) {c y : Nat} (hc : c < 2016) (hy : y ≤ 1000) (hin : c ∈ L) : HH (aS S 2 c (nI (y + 1))) L (updN g c y) := by
  obtain ⟨h1, h2, h3, h4, h5, h6, h7, h8⟩ := h
  refine ⟨h1, h2, h3, h4, h5, fun j hj => ?_, fun j => ?_, fun j hj => ?_⟩
  · rw [aS_at]
    unfold updN
    by_cases e : j = c
    · subst e; rw [pk_us, if_pos hin, if_pos rfl]
    · rw [pk_un e, if_neg e]; exact h6 j hj
  · unfold updN; split; exact hy; exact h7 j
  · unfold updN; rw [if_neg (fun e : j = c => hj (e ▸ hin))]; exact h8 j hj
theorem HH_new {S : MS} {L : List Nat} {g : Nat → Nat} (h : HH S L g) {c y : Nat} (hc : c < 2016) (hy : y ≤ 1000) (hin : c ∉ L) (hr : L.length < 528) : HH (aS (sS (aS S 3 L.length (nI c)) 4 (nI (L.length + 1))) 2 c (nI (y + 1))) (L ++ [c]) (updN g c y) := by
  obtain ⟨h1, h2, h3, h4, h5, h6, h7, h8⟩ := h
  refine ⟨by rw [List.length_append]; rfl, by rw [List.length_append]; exact hr, fun i hi => ?_, ?_, ?_, fun j hj => ?_, fun j => ?_, fun j hj => ?_⟩
  · rw [List.length_append] at hi
    have hi : i < L.length + 1 := hi
    show (aS S 3 L.length (nI c)).2.1 3 i = _
    rw [aS_at]
    by_cases e : i = L.length
    · subst e; rw [pk_us, gD_end]
    · rw [pk_un e, gD_app _ _ _ (by omega)]; exact h3 i (by omega)
  · rw [List.nodup_append]
    exact ⟨h4, by simp, fun a ha b hb => by rw [List.mem_singleton.mp hb]; exact fun e => hin (e ▸ ha)⟩
  · intro a ha
    rcases List.mem_append.mp ha with z | z
    · exact h5 a z
    · rw [List.mem_singleton.mp z]; exact hc
  · rw [aS_at]
    show upd (S.2.1 2) c _ j = _
    unfold updN
    by_cases e : j = c
    · subst e; rw [pk_us, if_pos (List.mem_append.mpr (Or.inr List.mem_cons_self)), if_pos rfl]
    · rw [pk_un e, if_neg e, h6 j hj]
      by_cases z : j ∈ L
      · rw [if_pos z, if_pos (List.mem_append.mpr (Or.inl z))]
      · rw [if_neg z, if_neg (fun q => (List.mem_append.mp q).elim z (fun q => e (List.mem_singleton.mp q)))]
  · unfold updN; split; exact hy; exact h7 j
  · unfold updN
    rw [if_neg (fun e : j = c => hj (List.mem_append.mpr (Or.inr (e ▸ List.mem_cons_self))))]
    exact h8 j (fun z => hj (List.mem_append.mpr (Or.inl z)))
theorem updN_0 {g : Nat → Nat} {c : Nat} (h : g c = 0) : updN g c 0 = g := by
  funext j; unfold updN; split
  · rename_i e; rw [e, h]
  · rfl
def putL (L : List Nat) (c y : Nat) : List Nat := if c ∈ L ∨ y = 0 then L else L ++ [c]
section SH1
variable {l : Launch} {G : GG} {zh : Nat → Nat} {Sh : MS} {L : List Nat} {g : Nat → Nat} {c : Nat}
theorem K2_cellOf {s a b : Nat} (hs : s < 4) : Con l G yX2_cellOf cX2_cellOf 3 (some .int) 1 0 0 [.int (nI s), .int (nI a), .int (nI b)] [] (pI (nI (f_link s a b)) []) := by
  refine Con.mk (own := RX2) (by decide) rfl (Nat.le_of_ble_eq_true rfl) (fun X C => ?_)
  refine j_iload_n 1 C dX2_cellOf_0 rfl rfl ?_
  refine j_iconst 2 C dX2_cellOf_1 rfl (v := nI 3) (by decide) ?_
  refine j_icmp_neN 18 5 C dX2_cellOf_2 (by decide) rfl (by omega) (by omega) (fun c2 => ?_) (fun c2 => ?_)
  · refine j_iload_n 19 C dX2_cellOf_18 rfl rfl ?_
    refine j_sipush 22 C dX2_cellOf_19 rfl (v := nI 576) (by decide) ?_
    refine j_imulN 23 C dX2_cellOf_22 rfl ?_
    refine j_iload_n 24 C dX2_cellOf_23 rfl rfl ?_
    refine j_bipush 26 C dX2_cellOf_24 rfl (v := nI 24) (by decide) ?_
    refine j_imulN 27 C dX2_cellOf_26 rfl ?_
    refine j_iaddN 28 C dX2_cellOf_27 rfl ?_
    refine j_iload_n 29 C dX2_cellOf_28 rfl rfl ?_
    refine j_iaddN 30 C dX2_cellOf_29 rfl ?_
    exact j_iret C dX2_cellOf_30 ⟨by rw [f_link, if_neg c2, Nat.mul_comm 576, Nat.mul_comm 24], rfl⟩
  · refine j_sipush 8 C dX2_cellOf_5 rfl (v := nI 1728) (by decide) ?_
    refine j_iload_n 9 C dX2_cellOf_8 rfl rfl ?_
    refine j_bipush 11 C dX2_cellOf_9 rfl (v := nI 12) (by decide) ?_
    refine j_imulN 12 C dX2_cellOf_11 rfl ?_
    refine j_iaddN 13 C dX2_cellOf_12 rfl ?_
    refine j_iload_n 14 C dX2_cellOf_13 rfl rfl ?_
    refine j_iaddN 15 C dX2_cellOf_14 rfl ?_
    refine j_goto 30 C dX2_cellOf_15 (by decide) ?_
    exact j_iret C dX2_cellOf_30 ⟨by rw [f_link, if_pos c2, Nat.mul_comm 12], rfl⟩
theorem K2_sortOf (hc : c < 2016) : Con l G yX2_sortOf cX2_sortOf 1 (some .int) 1 0 0 [.int (nI c)] [] (pI (nI (c / 576)) []) := by
  refine Con.mk (own := RX2) (by decide) rfl (Nat.le_of_ble_eq_true rfl) (fun X C => ?_)
  refine j_iload_n 1 C dX2_sortOf_0 rfl rfl ?_
  refine j_sipush 4 C dX2_sortOf_1 rfl (v := nI 576) (by decide) ?_
  refine j_idivN 5 C dX2_sortOf_4 rfl (by omega) (by omega) (by omega) ?_
  exact j_iret C dX2_sortOf_5 ⟨rfl, rfl⟩
theorem K2_thingOf (hc : c < 2016) : Con l G yX2_thingOf cX2_thingOf 1 (some .int) 1 0 0 [.int (nI c)] [] (pI (nI (if 1728 ≤ c then (c - 1728) / 12 else c % 24)) []) := by
  refine Con.mk (own := RX2) (by decide) rfl (Nat.le_of_ble_eq_true rfl) (fun X C => ?_)
  refine j_iload_n 1 C dX2_thingOf_0 rfl rfl ?_
  refine j_sipush 4 C dX2_thingOf_1 rfl (v := nI 1728) (by decide) ?_
  refine j_icmp_ltN 18 7 C dX2_thingOf_4 (by decide) rfl (by omega) (by omega) (fun c4 => ?_) (fun c4 => ?_)
  · refine j_iload_n 19 C dX2_thingOf_18 rfl rfl ?_
    refine j_bipush 21 C dX2_thingOf_19 rfl (v := nI 24) (by decide) ?_
    refine j_iremN 22 C dX2_thingOf_21 rfl (by omega) (by omega) (by omega) ?_
    exact j_iret C dX2_thingOf_22 ⟨by rw [if_neg (by omega)], rfl⟩
  · refine j_iload_n 8 C dX2_thingOf_7 rfl rfl ?_
    refine j_sipush 11 C dX2_thingOf_8 rfl (v := nI 1728) (by decide) ?_
    refine j_isubN 12 C dX2_thingOf_11 rfl (by omega) ?_
    refine j_bipush 14 C dX2_thingOf_12 rfl (v := nI 12) (by decide) ?_
    refine j_idivN 15 C dX2_thingOf_14 rfl (by omega) (by omega) (by omega) ?_
    refine j_goto 22 C dX2_thingOf_15 (by decide) ?_
    exact j_iret C dX2_thingOf_22 ⟨by rw [if_pos (by omega)], rfl⟩
theorem K2_strengthAt (hH : HH Sh L g) (hc : c < 2016) : Con l G yX2_strengthAt cX2_strengthAt 2 (some .int) 2 0 0 [.ref (zh 50), .int (nI c)] (hBk zh G.2.1 Sh) (pI (nI (g c)) (hBk zh G.2.1 Sh)) := by
  refine Con.mk (own := RX2) (by decide) rfl (Nat.le_of_ble_eq_true rfl) (fun X C => ?_)
  refine j_aload_n 1 C dX2_strengthAt_0 rfl rfl ?_
  refine Lhg_h2 4 C dX2_strengthAt_1 rfl fl2_11 ?_
  refine j_iload_n 5 C dX2_strengthAt_4 rfl rfl ?_
  refine Lha_h2 6 C dX2_strengthAt_5 rfl _ (by omega) rfl ?_
  refine j_if_le 20 9 C dX2_strengthAt_6 (by decide) rfl (fun c6 => ?_) (fun c6 => ?_)
  · refine j_iconst 21 C dX2_strengthAt_20 rfl (v := nI 0) (by decide) ?_
    exact j_iret C dX2_strengthAt_21 ⟨by first | rw [HH_str0 hH hc c6] | rw [HH_str1 hH hc c6], rfl⟩
  · refine j_aload_n 10 C dX2_strengthAt_9 rfl rfl ?_
    refine Lhg_h2 13 C dX2_strengthAt_10 rfl fl2_11 ?_
    refine j_iload_n 14 C dX2_strengthAt_13 rfl rfl ?_
    refine Lha_h2 15 C dX2_strengthAt_14 rfl _ (by omega) rfl ?_
    refine j_iconst 16 C dX2_strengthAt_15 rfl (v := nI 1) (by decide) ?_
    refine j_isub 17 C dX2_strengthAt_16 rfl ?_
    refine j_goto 21 C dX2_strengthAt_17 (by decide) ?_
    exact j_iret C dX2_strengthAt_21 ⟨by first | rw [HH_str0 hH hc c6] | rw [HH_str1 hH hc c6], rfl⟩
theorem K2_put {y : Nat} (hH : HH Sh L g) (hc : c < 2016) (hy : y ≤ 1000) (hroom : c ∈ L ∨ L.length < 528) : Con l G yX2_put cX2_put 3 none 1 0 0 [.ref (zh 50), .int (nI c), .int (nI y)] (hBk zh G.2.1 Sh) (qV (fun s : MS => (hBk zh G.2.1 s)) (fun S' => HH S' (putL L c y) (updN g c y) ∧ S'.1 0 = Sh.1 0 ∧ S'.1 1 = Sh.1 1)) := by
  refine Con.mk (own := RX2) (by decide) rfl (Nat.le_of_ble_eq_true rfl) (fun X C => ?_)
  have hL5 := hH.2.1
  refine j_aload_n 1 C dX2_put_0 rfl rfl ?_
  refine Lhg_h2 4 C dX2_put_1 rfl fl2_11 ?_
  refine j_iload_n 5 C dX2_put_4 rfl rfl ?_
  refine Lha_h2 6 C dX2_put_5 rfl _ (by omega) rfl ?_
  refine j_if_ne 44 9 C dX2_put_6 (by decide) rfl (fun c6 => ?_) (fun c6 => ?_)
  · have hin : c ∈ L := (HH_in hH hc).mp c6
    refine j_aload_n 45 C dX2_put_44 rfl rfl ?_
    refine Lhg_h2 48 C dX2_put_45 rfl fl2_11 ?_
    refine j_iload_n 49 C dX2_put_48 rfl rfl ?_
    refine j_iload_n 50 C dX2_put_49 rfl rfl ?_
    refine j_iconst 51 C dX2_put_50 rfl (v := nI 1) (by decide) ?_
    refine j_iaddN 52 C dX2_put_51 rfl ?_
    refine Lhs_h2 53 C dX2_put_52 rfl _ (by omega) rfl ?_
    exact j_vret C dX2_put_53 (by refine ⟨_, ?_, rfl, rfl⟩; exact ⟨by rw [putL, if_pos (Or.inl hin)]; exact HH_put hH hc hy hin, rfl, rfl⟩)
  · have hin : c ∉ L := fun z => (HH_in hH hc).mpr z c6
    refine j_iload_n 10 C dX2_put_9 rfl rfl ?_
    refine j_if_eqN 23 13 C dX2_put_10 (by decide) rfl (by omega) (fun c10 => ?_) (fun c10 => ?_)
    · exact j_vret C dX2_put_23 (by refine ⟨_, ?_, rfl, rfl⟩; exact ⟨by subst c10; rw [putL, if_pos (Or.inr rfl), updN_0 (hH.2.2.2.2.2.2.2 c hin)]; exact hH, rfl, rfl⟩)
    · refine j_aload_n 14 C dX2_put_13 rfl rfl ?_
      refine Lhg_h4 17 C dX2_put_14 rfl fl2_18 ?_
      refine j_top hH.1 ?_
      refine j_sipush 20 C dX2_put_17 rfl (v := nI 528) (by decide) ?_
      refine j_icmp_ltN 24 23 C dX2_put_20 (by decide) rfl (by omega) (by omega) (fun c20 => ?_) (fun c20 => absurd c20 (by have := hroom.resolve_left hin; omega))
      refine j_aload_n 25 C dX2_put_24 rfl rfl ?_
      refine Lhg_h3 28 C dX2_put_25 rfl fl2_15 ?_
      refine j_aload_n 29 C dX2_put_28 rfl rfl ?_
      refine Lhg_h4 32 C dX2_put_29 rfl fl2_18 ?_
      refine j_top hH.1 ?_
      refine j_iload_n 33 C dX2_put_32 rfl rfl ?_
      refine Lhs_h3 34 C dX2_put_33 rfl _ (by omega) rfl ?_
      refine j_aload_n 35 C dX2_put_34 rfl rfl ?_
      refine j_dup 36 C dX2_put_35 rfl rfl ?_
      refine Lhg_h4 39 C dX2_put_36 rfl fl2_18 ?_
      refine j_top hH.1 ?_
      refine j_iconst 40 C dX2_put_39 rfl (v := nI 1) (by decide) ?_
      refine j_iaddN 41 C dX2_put_40 rfl ?_
      refine Lhp_h4 44 C dX2_put_41 rfl fl2_18 ?_
      refine j_aload_n 45 C dX2_put_44 rfl rfl ?_
      refine Lhg_h2 48 C dX2_put_45 rfl fl2_11 ?_
      refine j_iload_n 49 C dX2_put_48 rfl rfl ?_
      refine j_iload_n 50 C dX2_put_49 rfl rfl ?_
      refine j_iconst 51 C dX2_put_50 rfl (v := nI 1) (by decide) ?_
      refine j_iaddN 52 C dX2_put_51 rfl ?_
      refine Lhs_h2 53 C dX2_put_52 rfl _ (by omega) rfl ?_
      exact j_vret C dX2_put_53 (by refine ⟨_, ?_, rfl, rfl⟩; exact ⟨by rw [putL, if_neg (fun z => z.elim hin (fun z => by omega))]; exact HH_new hH hc hy hin (by omega), rfl, rfl⟩)
theorem K2_listedCount (hH : HH Sh L g) : Con l G yX2_listedCount cX2_listedCount 1 (some .int) 1 0 0 [.ref (zh 50)] (hBk zh G.2.1 Sh) (pI (nI L.length) (hBk zh G.2.1 Sh)) := by
  refine Con.mk (own := RX2) (by decide) rfl (Nat.le_of_ble_eq_true rfl) (fun X C => ?_)
  refine j_aload_n 1 C dX2_listedCount_0 rfl rfl ?_
  refine Lhg_h4 4 C dX2_listedCount_1 rfl fl2_18 ?_
  refine j_top hH.1 ?_
  exact j_iret C dX2_listedCount_4 ⟨rfl, rfl⟩
theorem K2_listedCell {i : Nat} (hH : HH Sh L g) (hi : i < L.length) : Con l G yX2_listedCell cX2_listedCell 2 (some .int) 1 0 0 [.ref (zh 50), .int (nI i)] (hBk zh G.2.1 Sh) (pI (nI (L.getD i 0)) (hBk zh G.2.1 Sh)) := by
  refine Con.mk (own := RX2) (by decide) rfl (Nat.le_of_ble_eq_true rfl) (fun X C => ?_)
  refine j_aload_n 1 C dX2_listedCell_0 rfl rfl ?_
  refine Lhg_h3 4 C dX2_listedCell_1 rfl fl2_15 ?_
  refine j_iload_n 5 C dX2_listedCell_4 rfl rfl ?_
  refine Lha_h3 6 C dX2_listedCell_5 rfl _ (by have := hH.2.1; omega) rfl ?_
  refine j_top (hH.2.2.1 i hi) ?_
  exact j_iret C dX2_listedCell_6 ⟨rfl, rfl⟩
end SH1
