/-- readLine() up to its sign's end -/
noncomputable def lineN (M : MS) (n : Nat) : MS := if (lnX M).1 19 = 0 then lnT2 (lnY (lnX M) n) else lnX M
theorem line_N (M : MS) (n : Nat) : lineM M n = if (lnX M).1 19 = 0 then aS (lineN M n) 21 0 ((lineN M n).2.1 21 0 + nI 1) else lineN M n := by
  unfold lineM lineN lnT
  by_cases e : (lnX M).1 19 = 0
  · rw [if_pos e, if_pos e, if_pos e]
  · rw [if_neg e, if_neg e, if_neg e]
section SQ2
variable {tp : Nat → Int32} {n c j k : Nat} {Sk M Sp : MS}
theorem lnX_of (h : PV M Sp k) (hk : k = 16 ∨ k = 17 ∨ k = 18 ∨ k = 19 ∨ (4 ≤ k ∧ k < 7)) (h6 : ¬ (k = 18 ∧ ¬ M.1 22 = 0)) (h1 : ¬ (k = 16 ∧ M.2.1 21 1 = nI 24)) (h2 : ¬ (k = 17 ∧ M.2.1 21 2 = nI 12)) : lnX M = M := by
  have a1 : isW M 1 ↔ 16 = k := h.2.1 16 (by omega)
  have a2 : isW M 2 ↔ 17 = k := h.2.1 17 (by omega)
  have a3 : isW M 3 ↔ 4 = k := h.2.1 4 (by omega)
  have a4 : isW M 4 ↔ 5 = k := h.2.1 5 (by omega)
  have a5 : isW M 5 ↔ 6 = k := h.2.1 6 (by omega)
  have a6 : isW M 6 ↔ 18 = k := h.2.1 18 (by omega)
  have a7 : isW M 7 ↔ 19 = k := h.2.1 19 (by omega)
  have eA : lnA M = M := by
    unfold lnA
    rw [if_pos]
    unfold lnK
    rw [a1, a2, a3, a4, a5, a6, a7]; omega
  have eB : lnB M = M := by
    unfold lnB
    rw [if_neg (fun z => h6 ⟨(a6.mp z.1).symm, z.2⟩)]
  have eC : lnC M = M := by
    unfold lnC
    rw [if_neg (fun z => z.elim (fun z => h1 ⟨(a1.mp z.1).symm, z.2⟩) (fun z => h2 ⟨(a2.mp z.1).symm, z.2⟩))]
  unfold lnX
  rw [eA, eB, eC]
theorem line_ok (h19 : M.1 19 = 0) (h : lnX M = M) : lineN M n = lnT2 (lnY M n) := by
  unfold lineN; rw [h, if_pos h19]
theorem lnC_3 (h19 : M.1 19 = 0) (h : PV M Sp k) (hk : (k = 16 ∧ M.2.1 21 1 = nI 24) ∨ (k = 17 ∧ M.2.1 21 2 = nI 12)) : lineN M n = erM M (nI 3) := by
  have a1 : isW M 1 ↔ 16 = k := h.2.1 16 (by omega)
  have a2 : isW M 2 ↔ 17 = k := h.2.1 17 (by omega)
  have a6 : isW M 6 ↔ 18 = k := h.2.1 18 (by omega)
  have eA : lnA M = M := by
    unfold lnA
    rw [if_pos]
    unfold lnK
    rcases hk with z | z
    · exact Or.inl (a1.mpr z.1.symm)
    · exact Or.inr (Or.inl (a2.mpr z.1.symm))
  have eB : lnB M = M := by
    unfold lnB
    rw [if_neg (fun z => by have := a6.mp z.1; omega)]
  have eC : lnX M = erM M (nI 3) := by
    unfold lnX
    rw [eA, eB]
    unfold lnC
    rw [if_pos]
    rcases hk with z | z
    · exact Or.inl ⟨a1.mpr z.1.symm, z.2⟩
    · exact Or.inr ⟨a2.mpr z.1.symm, z.2⟩
  unfold lineN
  rw [eC, if_neg (er_19 (by decide))]
theorem lnB_2 (h : PV M Sp 18) (h22 : ¬ M.1 22 = 0) : lineN M n = erM M (nI 2) := by
  have a6 : isW M 6 := (h.2.1 18 (by omega)).mpr rfl
  have eA : lnA M = M := by
    unfold lnA
    rw [if_pos]
    exact Or.inr (Or.inr (Or.inr (Or.inr (Or.inr (Or.inl a6)))))
  have eB : lnB M = erM M (nI 2) := by
    unfold lnB
    rw [if_pos ⟨a6, h22⟩]
  have eb : ¬ (erM M (nI 2)).1 19 = 0 := er_19 (by decide)
  have eC : lnX M = erM M (nI 2) := by
    unfold lnX
    rw [eA, eB]
    unfold lnC
    rw [if_neg (fun z => z.elim (fun z => isW_bad eb _ z.1) (fun z => isW_bad eb _ z.1))]
  unfold lineN
  rw [eC, if_neg eb]
theorem lnA_1 (h : PV M Sp k) (hk : ¬ (k = 16 ∨ k = 17 ∨ k = 18 ∨ k = 19 ∨ (4 ≤ k ∧ k < 7))) : lineN M n = erM M (nI 1) := by
  have a1 : isW M 1 ↔ 16 = k := h.2.1 16 (by omega)
  have a2 : isW M 2 ↔ 17 = k := h.2.1 17 (by omega)
  have a3 : isW M 3 ↔ 4 = k := h.2.1 4 (by omega)
  have a4 : isW M 4 ↔ 5 = k := h.2.1 5 (by omega)
  have a5 : isW M 5 ↔ 6 = k := h.2.1 6 (by omega)
  have a6 : isW M 6 ↔ 18 = k := h.2.1 18 (by omega)
  have a7 : isW M 7 ↔ 19 = k := h.2.1 19 (by omega)
  have eb : ¬ (erM M (nI 1)).1 19 = 0 := er_19 (by decide)
  have eA : lnA M = erM M (nI 1) := by
    unfold lnA
    rw [if_neg]
    unfold lnK
    rw [a1, a2, a3, a4, a5, a6, a7]; omega
  have eX : lnX M = erM M (nI 1) := by
    unfold lnX
    rw [eA]
    unfold lnB
    rw [if_neg (fun z => isW_bad eb _ z.1)]
    unfold lnC
    rw [if_neg (fun z => z.elim (fun z => isW_bad eb _ z.1) (fun z => isW_bad eb _ z.1))]
  unfold lineN
  rw [eX, if_neg eb]
theorem lnY_1 (h : PV M Sp 16) : lnY M n = ln1 M (tn (M.2.1 21 1)) := @if_pos _ (isWD M 1) ((h.2.1 16 (by omega)).mpr rfl) _ _ _
theorem lnY_2 (h : PV M Sp 17) : lnY M n = rrF (tn (M.2.1 21 2)) 13 0 (adM M) := (@if_neg _ (isWD M 1) (fun z => absurd ((h.2.1 16 (by omega)).mp z) (by decide)) _ _ _).trans (@if_pos _ (isWD M 2) ((h.2.1 17 (by omega)).mpr rfl) _ _ _)
theorem lnY_6 (h : PV M Sp 18) : lnY M n = ln3 M := (@if_neg _ (isWD M 1) (fun z => absurd ((h.2.1 16 (by omega)).mp z) (by decide)) _ _ _).trans ((@if_neg _ (isWD M 2) (fun z => absurd ((h.2.1 17 (by omega)).mp z) (by decide)) _ _ _).trans (@if_pos _ (isWD M 6) ((h.2.1 18 (by omega)).mpr rfl) _ _ _))
theorem lnY_7 (h : PV M Sp 19) : lnY M n = ln4 (adM M) := (@if_neg _ (isWD M 1) (fun z => absurd ((h.2.1 16 (by omega)).mp z) (by decide)) _ _ _).trans ((@if_neg _ (isWD M 2) (fun z => absurd ((h.2.1 17 (by omega)).mp z) (by decide)) _ _ _).trans ((@if_neg _ (isWD M 6) (fun z => absurd ((h.2.1 18 (by omega)).mp z) (by decide)) _ _ _).trans (@if_pos _ (isWD M 7) ((h.2.1 19 (by omega)).mpr rfl) _ _ _)))
theorem lnY_3 (h : PV M Sp k) (h1 : 4 ≤ k) (h2 : k < 7) : lnY M n = rlM (adM M) (k - 4) (tn (M.2.1 21 3)) n := (@if_neg _ (isWD M 1) (fun z => absurd ((h.2.1 16 (by omega)).mp z) (by omega)) _ _ _).trans ((@if_neg _ (isWD M 2) (fun z => absurd ((h.2.1 17 (by omega)).mp z) (by omega)) _ _ _).trans ((@if_neg _ (isWD M 6) (fun z => absurd ((h.2.1 18 (by omega)).mp z) (by omega)) _ _ _).trans ((@if_neg _ (isWD M 7) (fun z => absurd ((h.2.1 19 (by omega)).mp z) (by omega)) _ _ _).trans (by rw [lnW_v h h1 h2]))))
end SQ2
theorem RR_ext {Sr : MS} {wd wd' : Nat → Int32} (hW : WF wd) (h2 : wd' 2 = wd 2) (h : ∀ i, 34 ≤ i → i < 202 → wd' i = wd i) (hR : RR Sr wd) : RR Sr wd' := by
  have e1 : nrw wd' = nrw wd := by unfold nrw; rw [h2]
  have h12 := hW.2.2.1.2
  refine ⟨by rw [h2]; exact hR.1, fun r hr => ?_⟩
  rw [e1] at hr
  have e2 : len wd' r = len wd r := by unfold len; rw [h _ (by omega) (by omega)]
  have hl := (WF_len hW hr).2.1
  refine ⟨by rw [h _ (by omega) (by omega)]; exact (hR.2 r hr).1, fun i hi => ?_⟩
  rw [e2] at hi
  rw [h _ (by omega) (by omega)]; exact (hR.2 r hr).2 i hi
theorem RU_ext {Sr : MS} {wd wd' : Nat → Int32} (hW : WF wd) (h2 : wd' 2 = wd 2) (h9 : wd' 9 = wd 9) (h : ∀ i, 34 ≤ i → i < 202 → wd' i = wd i) (hR : RU Sr wd) : RU Sr wd' := by
  have e1 : nrw wd' = nrw wd := by unfold nrw; rw [h2]
  have h12 := hW.2.2.1.2
  refine ⟨by rw [h9]; exact hR.1, fun r hr => ?_⟩
  rw [e1] at hr
  rw [h _ (by omega) (by omega)]; exact hR.2 r hr
theorem WF_ext {wd wd' : Nat → Int32} (hW : WF wd) (h2 : wd' 2 = wd 2) (h : ∀ i, 34 ≤ i → i < 202 → wd' i = wd i) (h1 : wd' 1 = nI (nth wd')) (hn : nth wd ≤ nth wd') (hn24 : nth wd' ≤ 24) (hL : WL wd') : WF wd' := by
  have e1 : nrw wd' = nrw wd := by unfold nrw; rw [h2]
  have h12 := hW.2.2.1.2
  refine ⟨hL, ⟨h1, hn24⟩, by rw [h2, e1]; exact hW.2.2.1, fun r hr => ?_⟩
  rw [e1] at hr
  have e2 : len wd' r = len wd r := by unfold len; rw [h _ (by omega) (by omega)]
  have hl := (WF_len hW hr).2.1
  refine ⟨by rw [e2, h _ (by omega) (by omega)]; exact (hW.2.2.2 r hr).1, fun i hi => ?_⟩
  rw [e2] at hi
  have e3 : th wd' r i = th wd r i := by unfold th; rw [h _ (by omega) (by omega)]
  rw [e3, h _ (by omega) (by omega)]
  have := (hW.2.2.2 r hr).2 i hi
  exact ⟨this.1, by omega⟩
theorem PC_ext {S S' : MS} {wd wd' : Nat → Int32} {k : Nat} (h : ∀ i, i < 3 → wd' (220 + 3 * k + i) = wd (220 + 3 * k + i)) (h7 : S'.2.1 7 k = S.2.1 7 k) (h8 : S'.2.1 8 k = S.2.1 8 k) (hP : PC S wd k) : PC S' wd' k := by
  have e0 : wd' (220 + 3 * k) = wd (220 + 3 * k) := h 0 (by omega)
  unfold PC at hP ⊢
  rw [e0, h 1 (by omega), h 2 (by omega), h7, h8]; exact hP
theorem WL_ext {wd wd' : Nat → Int32} (h : ∀ i, 202 ≤ i → i < 220 → wd' i = wd i) (hL : WL wd) : WL wd' := fun lw hl => by
  rw [h _ (by omega) (by omega), h _ (by omega) (by omega)]; exact hL lw hl
/-- the laws of a TEXT and its PARTS -/
def TL (S : MS) (wd : Nat → Int32) : Prop := (∃ np, S.1 9 = nI np ∧ np ≤ 180 ∧ (∀ k, k < np → PC S wd k) ∧ ∀ lw, lw < 9 → ∃ b n, wd (202 + 2 * lw) = nI b ∧ wd (202 + 2 * lw + 1) = nI n ∧ b + n ≤ np ∧ S.2.1 5 lw = nI b ∧ S.2.1 6 lw = nI (b + n) ∧ (0 < n → JN (wd (220 + 3 * b)) 0)) ∧ (∀ lw, 9 ≤ lw → lw < 12 → S.2.1 5 lw = nI 0 ∧ S.2.1 6 lw = nI 0)
theorem TL_ext {S S' : MS} {wd wd' : Nat → Int32} (h : ∀ i, 202 ≤ i → wd' i = wd i) (h9 : S'.1 9 = S.1 9) (h5 : S'.2.1 5 = S.2.1 5) (h6 : S'.2.1 6 = S.2.1 6) (h7 : S'.2.1 7 = S.2.1 7) (h8 : S'.2.1 8 = S.2.1 8) (hL : TL S wd) : TL S' wd' := by
  obtain ⟨⟨np, a1, a2, a3, a4⟩, a5⟩ := hL
  refine ⟨⟨np, h9.trans a1, a2, fun k hk => PC_ext (fun i hi => h _ (by omega)) (by rw [h7]) (by rw [h8]) (a3 k hk), fun lw hl => ?_⟩, fun lw h1 h2 => by rw [h5, h6]; exact a5 lw h1 h2⟩
  obtain ⟨b, m, b1, b2, b3, b4, b5, b6⟩ := a4 lw hl
  exact ⟨b, m, by rw [h _ (by omega)]; exact b1, by rw [h _ (by omega)]; exact b2, b3, by rw [h5]; exact b4, by rw [h6]; exact b5, fun z => by rw [h _ (by omega)]; exact b6 z⟩
theorem TT_L {mu : Int32} {S : MS} {wd : Nat → Int32} (h : TT mu S wd) : TL S wd := ⟨h.2.2.2.1, h.2.2.2.2.1⟩
/-- the fields of the Parser that a TOKEN leaves alone -/
def SE (S S' : MS) : Prop := S'.1 8 = S.1 8 ∧ S'.1 2 = S.1 2 ∧ S'.1 3 = S.1 3
theorem SE_r (S : MS) : SE S S := ⟨rfl, rfl, rfl⟩
theorem SE_t {S S' S2 : MS} (h : SE S S') (h2 : SE S' S2) : SE S S2 := ⟨h2.1.trans h.1, h2.2.1.trans h.2.1, h2.2.2.trans h.2.2⟩
/-- a TEXT in the making, between its LINES -/
def LR (M St Sr Sp : MS) (p : Nat) : Prop := (TT (-1) St (M.2.1 21) ∧ RR Sr (M.2.1 21) ∧ RU Sr (M.2.1 21) ∧ WF (M.2.1 21)) ∧ (St.1 9 = nI p ∧ M.2.1 21 3 = nI p) ∧ ((Sp.1 8 = M.1 22 ∧ Sp.1 2 = nI 0 ∧ Sp.1 3 = -1) ∧ ∀ s, s < 4 → Sp.2.1 9 s = M.2.1 23 s) ∧ M.2.1 21 9 = nI 0 ∧ ∀ r, r < 12 → M.2.1 21 (34 + 14 * r + 1 + 12) = nI 0
theorem LR_m {M M' St Sr Sp Sp' : MS} {p : Nat} (h : LR M St Sr Sp p) (hf : FT M M') (h8 : SE Sp Sp') (h9 : Sp'.2 = Sp.2) : LR M' St Sr Sp' p := by
  unfold LR
  rw [hf.2, hf.1 22 (by omega), h8.1, h8.2.1, h8.2.2, h9]; exact h
theorem LR_g {M M' St Sr Sp Sp' : MS} {p : Nat} (h : LR M St Sr Sp p) (h21 : M'.2.1 21 = M.2.1 21) (h22 : M'.1 22 = M.1 22) (h23 : M'.2.1 23 = M.2.1 23) (h8 : SE Sp Sp') (h9 : Sp'.2.1 9 = Sp.2.1 9) : LR M' St Sr Sp' p := by
  unfold LR
  rw [h21, h22, h23, h8.1, h8.2.1, h8.2.2, h9]; exact h
theorem lk_8 {Sp Sk : MS} {j c : Nat} : SE Sp (avS Sp Sk j c) ∧ (avS Sp Sk j c).2 = Sp.2 := by
  unfold avS; split <;> exact ⟨⟨rfl, rfl, rfl⟩, rfl⟩
theorem LR_ad {M St Sr Sp Sk : MS} {p j c : Nat} (h : LR M St Sr Sp p) : LR (adM M) St Sr (avS Sp Sk j c) p := LR_m h (FT_ad M) lk_8.1 lk_8.2
/-- what a LINE leaves: the next TOKEN, or a fault -/
def PQ (tp : Nat → Int32) (n : Nat) (Sk : MS) (c f0 : Nat) (N : MS) (x : Int32) (St Sr Sp : MS) : Prop := (x = nI 1 ∧ ∃ j p, PT tp n Sk c N j Sp ∧ LR N St Sr Sp p ∧ 5 * p ≤ lxF tp n (pz tp n j) ∧ f0 < lxF tp n (pz tp n j)) ∨ (x = nI 0 ∧ BD N Sp)
theorem PQ_semi {tp : Nat → Int32} {n c j p f0 : Nat} {Sk N Sp St Sr : MS} (h : PT tp n Sk c N j Sp) (hL : LR N St Sr Sp p) (h5 : 5 * p ≤ lxF tp n (pz tp n j)) (hf : f0 < lxF tp n (pz tp n j)) : PQ tp n Sk c f0 (lnT2 N) (bI (Sp.1 6 = nI 22)) St Sr (if Sp.1 6 = nI 22 then avS Sp Sk j (c + 1) else rfS Sp Sk (nI 1) j) := by
  obtain ⟨k, hv, he, -⟩ := PT_v h
  by_cases e : Sp.1 6 = nI 22
  · have ek := (PV_eq hv (by omega)).mp e
    have hj : ¬ j = c := fun z => by have := he.mpr z; omega
    rw [bI_t e, if_pos e, T2_ok h.2.2.1 hv ek]
    have := pz_next h hj
    exact Or.inl ⟨rfl, j + 1, p, PT_ad h hj, LR_ad hL, by omega, by omega⟩
  · have ek : ¬ k = 22 := fun z => e ((PV_eq hv (by omega)).mpr z)
    rw [bI_f e, if_neg e, T2_no h.2.2.1 hv ek]
    exact Or.inr ⟨rfl, BD_er h (by decide)⟩
theorem num_bd {tp : Nat → Int32} {n c j hi : Nat} {Sk M Sp : MS} (h : PT tp n Sk c M j Sp) (hh : hi ≤ 5000) (hn : ¬ (Sp.1 6 = nI 21 ∧ Sp.1 7 ≤ nI hi)) : BD (nmM M 0 hi) (if Sp.1 6 = nI 21 then (if Sp.1 7 ≤ nI hi then Sp else rfS Sp Sk (nI 2) j) else rfS Sp Sk (nI 1) j) := by
  obtain ⟨k, hv, he, -⟩ := PT_v h
  by_cases e : Sp.1 6 = nI 21
  · have e2 : ¬ Sp.1 7 ≤ nI hi := fun z => hn ⟨e, z⟩
    rw [if_pos e, if_neg e2, nm_no2 h.2.2.1 hv ((PV_eq hv (by omega)).mp e) hh e2]
    exact BD_er h (by decide)
  · rw [if_neg e, nm_no1 h.2.2.1 hv (fun z => e ((PV_eq hv (by omega)).mpr z))]
    exact BD_er h (by decide)
theorem num_go {tp : Nat → Int32} {n c j hi : Nat} {Sk M Sp : MS} (h : PT tp n Sk c M j Sp) (hh : hi ≤ 5000) (hn : Sp.1 6 = nI 21 ∧ Sp.1 7 ≤ nI hi) : ¬ j = c ∧ nmM M 0 hi = adM M ∧ nmV M 0 hi = Sp.1 7 ∧ ∃ u, u ≤ hi ∧ Sp.1 7 = nI u := by
  obtain ⟨k, hv, he, -⟩ := PT_v h
  have ek := (PV_eq hv (by omega)).mp hn.1
  exact ⟨fun z => by have := he.mpr z; omega, nm_ok h.2.2.1 hv ek hh hn.2⟩
theorem BD_19 {N Sp : MS} (h : BD N Sp) : ¬ N.1 19 = 0 := h.1
theorem LR_np {M St Sr Sp : MS} {p : Nat} (h : LR M St Sr Sp p) : p ≤ 180 ∧ ((∀ k, k < p → PC St (M.2.1 21) k) ∧ ∀ lw, lw < 9 → ∃ b n, M.2.1 21 (202 + 2 * lw) = nI b ∧ M.2.1 21 (202 + 2 * lw + 1) = nI n ∧ b + n ≤ p ∧ St.2.1 5 lw = nI b ∧ St.2.1 6 lw = nI (b + n) ∧ (0 < n → JN (M.2.1 21 (220 + 3 * b)) 0)) ∨ 2 ^ 31 ≤ p := by
  obtain ⟨⟨⟨-, -, -, ⟨np, a1, a2, a3, a4⟩, -⟩, -⟩, ⟨b1, -⟩, -⟩ := h
  by_cases e : p < 2 ^ 31
  · have : np = p := (nI_eq (by omega) e).mp (a1.symm.trans b1)
    subst this
    exact Or.inl ⟨a2, a3, a4⟩
  · exact Or.inr (by omega)
theorem LR_thing {M St Sr Sp : MS} {p nt e : Nat} {x : Int32} (h : LR M St Sr Sp p) (hnt : nth (M.2.1 21) = nt) (h24 : nt < 24) (he : e ≤ 9) (hx : x = nI e) : LR (aS (aS M 21 (10 + nt) x) 21 1 (nI (nt + 1))) (sS (aS St 3 nt x) 0 (nI (nt + 1))) Sr Sp p := by
  obtain ⟨⟨hT, hR, hU, hW⟩, ⟨p1, p2⟩, hp, h9⟩ := h
  have hu : ∀ i, ¬ i = 1 → ¬ i = 10 + nt → (aS (aS M 21 (10 + nt) x) 21 1 (nI (nt + 1))).2.1 21 i = M.2.1 21 i := fun i h1 h2 => by rw [aS_at, pk_un h1, aS_at, pk_un h2]
  have hu1 : (aS (aS M 21 (10 + nt) x) 21 1 (nI (nt + 1))).2.1 21 1 = nI (nt + 1) := by rw [aS_at, pk_us]
  have hux : (aS (aS M 21 (10 + nt) x) 21 1 (nI (nt + 1))).2.1 21 (10 + nt) = x := by rw [aS_at, pk_un (by omega), aS_at, pk_us]
  have hL := TT_L hT
  obtain ⟨⟨t1, t2, t3⟩, t4, t5, -, -, t6⟩ := hT
  unfold LR
  generalize hf : (aS (aS M 21 (10 + nt) x) 21 1 (nI (nt + 1))).2.1 21 = f at hu hu1 hux ⊢
  have hn1 : nth f = nt + 1 := by unfold nth; rw [hu1, tn_nI (by omega)]
  have hL2 : TL (sS (aS St 3 nt x) 0 (nI (nt + 1))) f := TL_ext (fun i hi => hu i (by omega) (by omega)) rfl rfl rfl rfl rfl hL
  refine ⟨⟨⟨⟨hu1.symm, by rw [hu 0 (by omega) (by omega)]; exact t2, by rw [hu 4 (by omega) (by omega)]; exact t3⟩, fun i hi => ?_, fun s hs => by rw [hu _ (by omega) (by omega)]; exact t5 s hs, hL2.1, hL2.2, by rw [hu 4 (by omega) (by omega)]; exact t6⟩, RR_ext hW (hu 2 (by omega) (by omega)) (fun i h1 h2 => hu i (by omega) (by omega)) hR, RU_ext hW (hu 2 (by omega) (by omega)) (hu 9 (by omega) (by omega)) (fun i h1 h2 => hu i (by omega) (by omega)) hU, WF_ext hW (hu 2 (by omega) (by omega)) (fun i h1 h2 => hu i (by omega) (by omega)) (by rw [hn1]; exact hu1) (by omega) (by omega) (WL_ext (fun i h1 h2 => hu i (by omega) (by omega)) hW.1)⟩, ⟨p1, by rw [hu 3 (by omega) (by omega)]; exact p2⟩, hp, by rw [hu 9 (by omega) (by omega)]; exact h9.1, fun r hr => by rw [hu _ (by omega) (by omega)]; exact h9.2 r hr⟩
  rw [hn1] at hi
  by_cases z : i = nt
  · subst z
    exact ⟨e, he, hux.trans hx, by show (aS St 3 i x).2.1 3 i = _; rw [aS_at, pk_us, hx]⟩
  · rw [hu _ (by omega) (by omega)]
    obtain ⟨e', b1, b2, b3⟩ := t4 i (by omega)
    exact ⟨e', b1, b2, by show (aS St 3 nt x).2.1 3 i = _; rw [aS_at, pk_un z]; exact b3⟩
theorem LR_hold {M St Sr Sp : MS} {p e : Nat} {x : Int32} (h : LR M St Sr Sp p) (he : e ≤ 5000) (hx : x = nI e) : LR (aS (sS M 22 (nI 1)) 21 4 x) (sS St 2 x) Sr (sS Sp 8 (nI 1)) p := by
  obtain ⟨⟨hT, hR, hU, hW⟩, ⟨p1, p2⟩, hp, h9⟩ := h
  have hu : ∀ i, ¬ i = 4 → (aS (sS M 22 (nI 1)) 21 4 x).2.1 21 i = M.2.1 21 i := fun i h1 => by rw [aS_at, pk_un h1]; rfl
  have hu1 : (aS (sS M 22 (nI 1)) 21 4 x).2.1 21 4 = x := by rw [aS_at, pk_us]
  have hL := TT_L hT
  obtain ⟨⟨t1, t2, t3⟩, t4, t5, -, -, t6⟩ := hT
  unfold LR
  generalize hf : (aS (sS M 22 (nI 1)) 21 4 x).2.1 21 = f at hu hu1 ⊢
  have hn1 : nth f = nth (M.2.1 21) := by unfold nth; rw [hu 1 (by omega)]
  have hL2 : TL (sS St 2 x) f := TL_ext (fun i hi => hu i (by omega)) rfl rfl rfl rfl rfl hL
  refine ⟨⟨⟨⟨by rw [hu 1 (by omega)]; exact t1, by rw [hu 0 (by omega)]; exact t2, hu1.symm⟩, fun i hi => ?_, fun s hs => by rw [hu _ (by omega)]; exact t5 s hs, hL2.1, hL2.2, ⟨e, he, hu1.trans hx⟩⟩, RR_ext hW (hu 2 (by omega)) (fun i h1 h2 => hu i (by omega)) hR, RU_ext hW (hu 2 (by omega)) (hu 9 (by omega)) (fun i h1 h2 => hu i (by omega)) hU, WF_ext hW (hu 2 (by omega)) (fun i h1 h2 => hu i (by omega)) (by rw [hn1, hu 1 (by omega)]; exact hW.2.1.1) (by omega) (by have := hW.2.1.2; omega) (WL_ext (fun i h1 h2 => hu i (by omega)) hW.1)⟩, ⟨p1, by rw [hu 3 (by omega)]; exact p2⟩, ⟨⟨rfl, hp.1.2⟩, hp.2⟩, by rw [hu 9 (by omega)]; exact h9.1, fun r hr => by rw [hu _ (by omega)]; exact h9.2 r hr⟩
  rw [hn1] at hi
  rw [hu _ (by omega)]
  exact t4 i hi
theorem LR_lean {M St Sr Sp : MS} {p e s : Nat} {x y : Int32} (h : LR M St Sr Sp p) (hs : s < 4) (he : e ≤ 100) (hx : x = nI e) : LR (aS (aS M 23 s y) 21 (5 + s) x) (aS St 4 s x) Sr (aS Sp 9 s y) p := by
  obtain ⟨⟨hT, hR, hU, hW⟩, ⟨p1, p2⟩, hp, h9⟩ := h
  have hu : ∀ i, ¬ i = 5 + s → (aS (aS M 23 s y) 21 (5 + s) x).2.1 21 i = M.2.1 21 i := fun i h1 => by rw [aS_at, pk_un h1]; rfl
  have hu1 : (aS (aS M 23 s y) 21 (5 + s) x).2.1 21 (5 + s) = x := by rw [aS_at, pk_us]
  have hL := TT_L hT
  obtain ⟨⟨t1, t2, t3⟩, t4, t5, -, -, t6⟩ := hT
  unfold LR
  have h23 : (aS (aS M 23 s y) 21 (5 + s) x).2.1 23 = upd (M.2.1 23) s y := aS_at M 23 s y
  rw [h23]
  generalize hf : (aS (aS M 23 s y) 21 (5 + s) x).2.1 21 = f at hu hu1 ⊢
  have hn1 : nth f = nth (M.2.1 21) := by unfold nth; rw [hu 1 (by omega)]
  have hL2 : TL (aS St 4 s x) f := TL_ext (fun i hi => hu i (by omega)) rfl rfl rfl rfl rfl hL
  refine ⟨⟨⟨⟨by rw [hu 1 (by omega)]; exact t1, by rw [hu 0 (by omega)]; exact t2, by rw [hu 4 (by omega)]; exact t3⟩, fun i hi => ?_, fun q hq => ?_, hL2.1, hL2.2, by rw [hu 4 (by omega)]; exact t6⟩, RR_ext hW (hu 2 (by omega)) (fun i h1 h2 => hu i (by omega)) hR, RU_ext hW (hu 2 (by omega)) (hu 9 (by omega)) (fun i h1 h2 => hu i (by omega)) hU, WF_ext hW (hu 2 (by omega)) (fun i h1 h2 => hu i (by omega)) (by rw [hn1, hu 1 (by omega)]; exact hW.2.1.1) (by omega) (by have := hW.2.1.2; omega) (WL_ext (fun i h1 h2 => hu i (by omega)) hW.1)⟩, ⟨p1, by rw [hu 3 (by omega)]; exact p2⟩, ⟨hp.1, fun q hq => ?_⟩, by rw [hu 9 (by omega)]; exact h9.1, fun r hr => by rw [hu _ (by omega)]; exact h9.2 r hr⟩
  · rw [hn1] at hi
    have := hW.2.1.2
    rw [hu _ (by omega)]
    exact t4 i hi
  · rw [aS_at]
    by_cases z : q = s
    · subst z
      rw [pk_us, hu1, if_neg (nI_m1 q hq)]
      exact ⟨rfl, e, he, hx⟩
    · rw [pk_un z, hu _ (by omega)]; exact t5 q hq
  · rw [aS_at]
    by_cases z : q = s
    · subst z; rw [pk_us, pk_us]
    · rw [pk_un z, pk_un z]; exact hp.2 q hq
theorem nI_nmO {q : Nat} (h : q < 2 ^ 31) : ¬ nI q = -1 := fun z => by
  have := congrArg Int32.toInt z
  rw [nI_toInt h] at this
  have e : (-1 : Int32).toInt = -1 := by decide
  omega
theorem aS_1 {M : MS} {f i : Nat} {v : Int32} : (aS M f i v).1 = M.1 := rfl
theorem sS_2 {M : MS} {f : Nat} {v : Int32} : (sS M f v).2 = M.2 := rfl
theorem aS_n {M : MS} {f g i : Nat} {v : Int32} (h : ¬ g = f) : (aS M f i v).2.1 g = M.2.1 g := by
  show va_up M.2.1 f _ g = _
  unfold va_up
  rw [if_neg h]
theorem PT_aS {tp : Nat → Int32} {n c j f i : Nat} {v : Int32} {Sk M Sp : MS} (h : PT tp n Sk c M j Sp) (hf : ¬ 11 = f) : PT tp n Sk c (aS M f i v) j Sp := PT_fr h (fun _ _ _ => rfl) (aS_n hf)
theorem PT_s22 {tp : Nat → Int32} {n c j : Nat} {v : Int32} {Sk M Sp : MS} (h : PT tp n Sk c M j Sp) : PT tp n Sk c (sS M 22 v) j Sp := PT_fr h (fun g h1 h2 => by show va_up M.1 22 _ g = _; unfold va_up; rw [if_neg (by omega)]) rfl
theorem PT_p8 {tp : Nat → Int32} {n c j : Nat} {v : Int32} {Sk M Sp : MS} (h : PT tp n Sk c M j Sp) : PT tp n Sk c M j (sS Sp 8 v) := PT_fp h rfl rfl rfl
theorem PT_p9 {tp : Nat → Int32} {n c j i : Nat} {v : Int32} {Sk M Sp : MS} (h : PT tp n Sk c M j Sp) : PT tp n Sk c M j (aS Sp 9 i v) := PT_fp h rfl rfl rfl
theorem fin_thing {tp : Nat → Int32} {n c j p f0 nt e : Nat} {x : Int32} {Sk N Sp St Sr : MS} (h : PT tp n Sk c N j Sp) (hL : LR N St Sr Sp p) (hnt : nth (N.2.1 21) = nt) (h24 : nt < 24) (he : e ≤ 9) (hx : x = nI e) (h5 : 5 * p ≤ lxF tp n (pz tp n j)) (hf : f0 < lxF tp n (pz tp n j)) : PQ tp n Sk c f0 (lnT2 (aS (aS N 21 (10 + nt) x) 21 1 (nI (nt + 1)))) (bI (Sp.1 6 = nI 22)) (sS (aS St 3 nt x) 0 (nI (nt + 1))) Sr (if Sp.1 6 = nI 22 then avS Sp Sk j (c + 1) else rfS Sp Sk (nI 1) j) := PQ_semi (PT_aS (PT_aS h (by decide)) (by decide)) (LR_thing hL hnt h24 he hx) h5 hf
theorem fin_hold {tp : Nat → Int32} {n c j j0 p f0 e : Nat} {x : Int32} {Sk N Sp St Sr : MS} (h : PT tp n Sk c (adM (sS N 22 (nI 1))) j (avS (sS Sp 8 (nI 1)) Sk j0 (c + 1))) (hL : LR N St Sr Sp p) (he : e ≤ 5000) (hx : x = nI e) (h5 : 5 * p ≤ lxF tp n (pz tp n j)) (hf : f0 < lxF tp n (pz tp n j)) : PQ tp n Sk c f0 (lnT2 (aS (adM (sS N 22 (nI 1))) 21 4 x)) (bI ((avS (sS Sp 8 (nI 1)) Sk j0 (c + 1)).1 6 = nI 22)) (sS St 2 x) Sr (if (avS (sS Sp 8 (nI 1)) Sk j0 (c + 1)).1 6 = nI 22 then avS (avS (sS Sp 8 (nI 1)) Sk j0 (c + 1)) Sk j (c + 1) else rfS (avS (sS Sp 8 (nI 1)) Sk j0 (c + 1)) Sk (nI 1) j) :=
  PQ_semi (PT_aS h (by decide)) (LR_g (LR_hold hL he hx) (by rw [aS_at, aS_at, adM_2]) (by rw [aS_1, aS_1]; exact adM_1 (by omega)) (by rw [aS_n (by decide), aS_n (by decide), adM_2]) lk_8.1 (by rw [lk_8.2])) h5 hf
theorem fin_lean {tp : Nat → Int32} {n c j j0 j1 p f0 e s : Nat} {x y : Int32} {Sk N Sp St Sr : MS} (h : PT tp n Sk c (adM (adM (aS N 23 s y))) j (avS (aS (avS Sp Sk j0 (c + 1)) 9 s y) Sk j1 (c + 1))) (hL : LR N St Sr Sp p) (hs : s < 4) (he : e ≤ 100) (hx : x = nI e) (h5 : 5 * p ≤ lxF tp n (pz tp n j)) (hf : f0 < lxF tp n (pz tp n j)) : PQ tp n Sk c f0 (lnT2 (aS (adM (adM (aS N 23 s y))) 21 (5 + s) x)) (bI ((avS (aS (avS Sp Sk j0 (c + 1)) 9 s y) Sk j1 (c + 1)).1 6 = nI 22)) (aS St 4 s x) Sr (if (avS (aS (avS Sp Sk j0 (c + 1)) 9 s y) Sk j1 (c + 1)).1 6 = nI 22 then avS (avS (aS (avS Sp Sk j0 (c + 1)) 9 s y) Sk j1 (c + 1)) Sk j (c + 1) else rfS (avS (aS (avS Sp Sk j0 (c + 1)) 9 s y) Sk j1 (c + 1)) Sk (nI 1) j) := by
  have h1 := LR_lean (y := y) (LR_m (M' := N) (Sp' := avS Sp Sk j0 (c + 1)) hL (FT_r N) lk_8.1 lk_8.2) hs he hx
  exact PQ_semi (PT_aS h (by decide)) (LR_g h1 (by rw [aS_at, aS_at, adM_2, adM_2]) (by rw [aS_1, aS_1]; exact (adM_1 (by omega)).trans (adM_1 (by omega))) (by rw [aS_n (by decide), aS_n (by decide), adM_2, adM_2]) lk_8.1 (by rw [lk_8.2])) h5 hf
theorem aS_bd {M Sp : MS} {f i : Nat} {v : Int32} (h : BD M Sp) : BD (aS M f i v) Sp := h
