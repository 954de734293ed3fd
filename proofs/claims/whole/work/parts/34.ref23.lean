def lnK (M : MS) : Prop := isW M 1 ∨ isW M 2 ∨ isW M 3 ∨ isW M 4 ∨ isW M 5 ∨ isW M 6 ∨ isW M 7
noncomputable def lnA (M : MS) : MS := (@ite MS (lnK M) (Classical.propDecidable _) M (erM M (nI 1)))
noncomputable def lnB (M : MS) : MS := (@ite MS (isW M 6 ∧ ¬ M.1 22 = 0) (Classical.propDecidable _) (erM M (nI 2)) M)
noncomputable def lnC (M : MS) : MS := (@ite MS ((isW M 1 ∧ M.2.1 21 1 = nI 24) ∨ (isW M 2 ∧ M.2.1 21 2 = nI 12)) (Classical.propDecidable _) (erM M (nI 3)) M)
noncomputable def lnX (M : MS) : MS := lnC (lnB (lnA M))
noncomputable def ln1 (M : MS) (nt : Nat) : MS := if (nmM (nwM (adM M) 8) 0 9).1 19 = 0 then aS (aS (nmM (nwM (adM M) 8) 0 9) 21 (10 + nt) (nmV (nwM (adM M) 8) 0 9)) 21 1 (nI (nt + 1)) else nmM (nwM (adM M) 8) 0 9
noncomputable def ln3 (M : MS) : MS := aS (nmM (sS (adM M) 22 (nI 1)) 0 5000) 21 4 (nmV (sS (adM M) 22 (nI 1)) 0 5000)
noncomputable def ln4e (M : MS) : MS := if srt M = -1 then erM M (nI 1) else if M.2.1 23 (tn (srt M)) = 0 then M else erM M (nI 2)
noncomputable def ln4a (M : MS) : MS := adM (aS (ln4e M) 23 (tn (srt M)) (vp_nar .boolean (nI 1)))
noncomputable def ln4 (M : MS) : MS := if (ln4e M).1 19 = 0 then aS (nmM (ln4a M) 0 100) 21 (5 + tn (srt M)) (nmV (ln4a M) 0 100) else ln4e M
noncomputable def lnW (M : MS) : Nat := @ite _ (isW M 3) (isWD M 3) 0 (@ite _ (isW M 4) (isWD M 4) 1 2)
noncomputable def lnY (M : MS) (n : Nat) : MS := @ite _ (isW M 1) (isWD M 1) (ln1 M (tn (M.2.1 21 1))) (@ite _ (isW M 2) (isWD M 2) (rrF (tn (M.2.1 21 2)) 13 0 (adM M)) (@ite _ (isW M 6) (isWD M 6) (ln3 M) (@ite _ (isW M 7) (isWD M 7) (ln4 (adM M)) (rlM (adM M) (lnW M) (tn (M.2.1 21 3)) n))))
def lnT1 (M : MS) : MS := if M.1 17 = nI 3 then M else erM M (nI 1)
def lnT2 (M : MS) : MS := if (lnT1 M).1 19 = 0 then adM (lnT1 M) else lnT1 M
def lnT (M : MS) : MS := aS (lnT2 M) 21 0 ((lnT2 M).2.1 21 0 + nI 1)
/-- readLine() -/
noncomputable def lineM (M : MS) (n : Nat) : MS := if (lnX M).1 19 = 0 then lnT (lnY (lnX M) n) else lnX M
theorem TK_lnX {M : MS} {n a f : Nat} (h : TK M n a f) : TK (lnX M) n a f ∧ (lnX M).2 = M.2 ∧ (lnX M).1 22 = M.1 22 := by
  have e : ∀ (N : MS) (k : Int32), TK N n a f → TK (erM N k) n a f ∧ (erM N k).2 = N.2 ∧ (erM N k).1 22 = N.1 22 := fun N k hN => ⟨TK_er hN, erM_2 N k, by unfold erM; split <;> rfl⟩
  have hA : TK (lnA M) n a f ∧ (lnA M).2 = M.2 ∧ (lnA M).1 22 = M.1 22 := by
    unfold lnA; split
    · exact ⟨h, rfl, rfl⟩
    · exact e M _ h
  have hB : TK (lnB (lnA M)) n a f ∧ (lnB (lnA M)).2 = M.2 ∧ (lnB (lnA M)).1 22 = M.1 22 := by
    unfold lnB; split
    · obtain ⟨x, y, z⟩ := e (lnA M) (nI 2) hA.1
      exact ⟨x, y.trans hA.2.1, z.trans hA.2.2⟩
    · exact hA
  unfold lnX lnC; split
  · obtain ⟨x, y, z⟩ := e (lnB (lnA M)) (nI 3) hB.1
    exact ⟨x, y.trans hB.2.1, z.trans hB.2.2⟩
  · exact hB
theorem lnX_ok {M : MS} (h : (lnX M).1 19 = 0) : lnX M = M ∧ lnK M ∧ ¬ ((isW M 1 ∧ M.2.1 21 1 = nI 24) ∨ (isW M 2 ∧ M.2.1 21 2 = nI 12)) := by
  have h0 := h
  unfold lnX at h0
  have hC : ¬ ((isW (lnB (lnA M)) 1 ∧ (lnB (lnA M)).2.1 21 1 = nI 24) ∨ (isW (lnB (lnA M)) 2 ∧ (lnB (lnA M)).2.1 21 2 = nI 12)) := by
    intro z
    unfold lnC at h0
    rw [if_pos z] at h0
    exact absurd h0 (er_19 (by decide))
  have eC : lnX M = lnB (lnA M) := by unfold lnX lnC; rw [if_neg hC]
  rw [eC] at h
  have h1 := h
  have hB : ¬ (isW (lnA M) 6 ∧ ¬ (lnA M).1 22 = 0) := by
    intro z
    unfold lnB at h1
    rw [if_pos z] at h1
    exact absurd h1 (er_19 (by decide))
  have eB : lnB (lnA M) = lnA M := by unfold lnB; rw [if_neg hB]
  rw [eB] at h hC
  have hA : lnK M := by
    refine Classical.byContradiction fun z => ?_
    unfold lnA at h
    rw [if_neg z] at h
    exact absurd h (er_19 (by decide))
  have eA : lnA M = M := by unfold lnA; rw [if_pos hA]
  rw [eA] at hC
  exact ⟨by rw [eC, eB, eA], hA, hC⟩
theorem sL_3 : 3 ≤ sL 3 ∧ 3 ≤ sL 4 ∧ 3 ≤ sL 5 := by decide +kernel
theorem TK_rr2 {M : MS} {n a f : Nat} (h : TK M n a f) : TK (rr2 M) n a f := by unfold rr2; split; exact TK_er h; exact h
theorem TK_rrL {M : MS} {n a f q : Nat} (h : TK M n a f) : ∀ i, TK (rrL M q i) n a f
  | 0 => h
  | i + 1 => by unfold rrL; split; exact TK_er (TK_rrL h i); exact TK_rrL h i
theorem TK_rr4 {M : MS} {n a f c : Nat} (h : TK M n a f) : TK (rr4 M c) n a f := by unfold rr4; split; exact TK_er h; exact h
theorem TK_aS {M : MS} {n a f j i : Nat} {v : Int32} (h : TK M n a f) : TK (aS M j i v) n a f := h
theorem TK_rrF {q n : Nat} (hq : q < 12) : ∀ (m c a f : Nat) (M : MS), TK M n a f → ∃ a2 f2, TK (rrF q m c M) n a2 f2 ∧ f ≤ f2 ∧ (rrF q m c M).2.1 21 1 = M.2.1 21 1 ∧ (rrF q m c M).2.1 21 3 = M.2.1 21 3 ∧ ((rrF q m c M).2.1 21 2 = M.2.1 21 2 ∨ (rrF q m c M).2.1 21 2 = nI (q + 1))
  | 0, c, a, f, M, h => ⟨a, f, h, Nat.le_refl _, rfl, rfl, Or.inl rfl⟩
  | m + 1, c, a, f, M, h => by
    have hx : TK (rrX M q c) n a f := TK_rr4 (TK_rrL (TK_rr2 (TK_nm1 h)) c)
    have hx2 := rrX_2 M q c
    unfold rrF
    by_cases e : (rrX M q c).1 19 = 0
    · rw [if_pos e]
      obtain ⟨a2, h1, h2⟩ := TK_ad (TK_aS (j := 21) (i := 34 + 14 * q + 1 + c) (v := (rrX M q c).1 18) hx)
      have hfa := hx.1.2.2.2.1
      have hy : TK (rrY M q c) n a2 _ := h1
      have hyu : ∀ j, j < 34 → (rrY M q c).2.1 21 j = M.2.1 21 j := by
        intro j hj
        unfold rrY
        rw [adM_2, aS_at, pk_un (by omega), hx2]
      by_cases e2 : c + 1 < 2 ∨ (rrY M q c).1 17 = nI 2
      · rw [if_pos e2]
        obtain ⟨a3, f3, g1, g2, g3, g4, g5⟩ := TK_rrF hq m (c + 1) _ _ _ hy
        exact ⟨a3, f3, g1, by omega, g3.trans (hyu 1 (by omega)), g4.trans (hyu 3 (by omega)), g5.imp (fun z => z.trans (hyu 2 (by omega))) id⟩
      · rw [if_neg e2]
        refine ⟨a2, _, hy, by omega, ?_, ?_, Or.inr ?_⟩
        · rw [rrZ, aS_at, pk_un (by omega), aS_at, pk_un (by omega)]; exact hyu 1 (by omega)
        · rw [rrZ, aS_at, pk_un (by omega), aS_at, pk_un (by omega)]; exact hyu 3 (by omega)
        · rw [rrZ, aS_at, pk_us]
    · rw [if_neg e]
      exact ⟨a, f, hx, Nat.le_refl _, by rw [hx2], by rw [hx2], Or.inl (by rw [hx2])⟩
theorem TK_rlF {n : Nat} : ∀ (F : Nat) (M : MS) (a f p : Nat), TK M n a f → M.2.1 21 3 = nI p → 3 * p ≤ f + 2 → ∃ a2 f2 p2, TK (rlF F M) n a2 f2 ∧ f ≤ f2 ∧ (rlF F M).2.1 21 3 = nI p2 ∧ 3 * p2 ≤ f2 + 2 ∧ ∀ j, ¬ j = 3 → j < 220 → (rlF F M).2.1 21 j = M.2.1 21 j
  | 0, M, a, f, p, h, hp, h3 => ⟨a, f, p, h, Nat.le_refl _, hp, h3, fun _ _ _ => rfl⟩
  | F + 1, M, a, f, p, h, hp, h3 => by
    unfold rlF
    by_cases e : jn M = 0
    · rw [if_pos e]; exact ⟨a, f, p, h, Nat.le_refl _, hp, h3, fun _ _ _ => rfl⟩
    · rw [if_neg e]
      obtain ⟨iw, hiw, hiw4⟩ := jn_w e
      have hfa := isW_fa h.1 hiw
      have hn9 := h.1.2.2.2.2.2
      have hna := h.1.2.2.2.2.1
      obtain ⟨a7, hT7, hle7⟩ := TK_ad h
      have hpn7 : (adM M).2.1 21 3 = nI p := by rw [adM_2]; exact hp
      obtain ⟨a8, f8, p8, hT8, hf8, hpn8, hp8, hu⟩ := TK_pr (join := nI (jn M)) hT7 hpn7
      rw [hp, tn_nI (by omega)]
      obtain ⟨a9, f9, p9, g1, g2, g3, g4, g5⟩ := TK_rlF F _ a8 f8 p8 hT8 hpn8 (by omega)
      exact ⟨a9, f9, p9, g1, by omega, g3, g4, fun j h1 h2 => (g5 j h1 h2).trans ((hu j h1 h2).trans (by rw [adM_2]))⟩
theorem TK_rlM {M : MS} {n a f w p : Nat} (h : TK M n a f) (hw : w < 3) (hp : M.2.1 21 3 = nI p) (h3 : 3 * p ≤ f) : ∃ a2 f2 p2, TK (rlM M w p n) n a2 f2 ∧ f ≤ f2 ∧ (rlM M w p n).2.1 21 3 = nI p2 ∧ 3 * p2 ≤ f2 + 2 ∧ ∀ j, j = 1 ∨ j = 2 → (rlM M w p n).2.1 21 j = M.2.1 21 j := by
  have h2 := TK_rl2 (w := w) h
  unfold rlM
  by_cases e : (rl2 M w).1 19 = 0
  · rw [if_pos e]
    obtain ⟨a3, hT3, hle3⟩ := TK_ad h2
    obtain ⟨a4, f4, hT4, hf4, he4⟩ := TK_nw (i := 13) hT3
    have hpn4 : (nwM (adM (rl2 M w)) 13).2.1 21 3 = nI p := by rw [he4, adM_2, rl2_2]; exact hp
    obtain ⟨a5, f5, p5, hT5, hf5, hpn5, hp5, hu5⟩ := TK_pr (join := nI 0) hT4 hpn4
    have hfa2 := h2.1.2.2.2.1
    obtain ⟨a6, f6, p6, hT6, hf6, hpn6, hp6, hu6⟩ := TK_rlF n _ a5 f5 p5 hT5 hpn5 (by omega)
    have hu : ∀ j, j = 1 ∨ j = 2 → (rlF n (rl5 (rl2 M w) p)).2.1 21 j = M.2.1 21 j := fun j hj => (hu6 j (by omega) (by omega)).trans ((hu5 j (by omega) (by omega)).trans (by rw [he4, adM_2, rl2_2]))
    by_cases e2 : (rlF n (rl5 (rl2 M w) p)).1 19 = 0
    · rw [if_pos e2]
      refine ⟨a6, f6, p6, hT6, by omega, ?_, hp6, fun j hj => ?_⟩
      · rw [rlZ, aS_at, pk_un (by omega), aS_at, pk_un (by omega)]; exact hpn6
      · rw [rlZ, aS_at, pk_un (by omega), aS_at, pk_un (by omega)]; exact hu j hj
    · rw [if_neg e2]
      exact ⟨a6, f6, p6, hT6, by omega, hpn6, hp6, hu⟩
  · rw [if_neg e]
    exact ⟨a, f, p, h2, Nat.le_refl _, by rw [rl2_2]; exact hp, by omega, fun j hj => by rw [rl2_2]⟩
theorem TK_lnA {M : MS} {n a f : Nat} (h : TK M n a f) : TK (lnA M) n a f := by unfold lnA; split; exact h; exact TK_er h
theorem TK_lnB {M : MS} {n a f : Nat} (h : TK M n a f) : TK (lnB M) n a f := by unfold lnB; split; exact TK_er h; exact h
theorem ln4e_2 (M : MS) : (ln4e M).2 = M.2 := by
  unfold ln4e; split
  · exact erM_2 _ _
  · split; rfl; exact erM_2 _ _
theorem TK_ln4e {M : MS} {n a f : Nat} (h : TK M n a f) : TK (ln4e M) n a f := by
  unfold ln4e; split
  · exact TK_er h
  · split; exact h; exact TK_er h
theorem ln4e_ok {M : MS} (h : (ln4e M).1 19 = 0) : ∃ s, s < 4 ∧ srt M = nI s := by
  obtain e | e := srt_in M
  · unfold ln4e at h; rw [if_pos e] at h; exact absurd h (er_19 (by decide))
  · exact e
theorem lnW_lt (M : MS) : lnW M < 3 := by
  unfold lnW
  by_cases c3 : isW M 3
  · rw [@if_pos _ (isWD M 3) c3]; omega
  · rw [@if_neg _ (isWD M 3) c3]
    by_cases c4 : isW M 4
    · rw [@if_pos _ (isWD M 4) c4]; omega
    · rw [@if_neg _ (isWD M 4) c4]; omega
theorem lnK_law {M : MS} (h : lnK M) (h1 : ¬ isW M 1) (h2 : ¬ isW M 2) (h6 : ¬ isW M 6) (h7 : ¬ isW M 7) : ∃ i, isW M i ∧ 3 ≤ sL i := by
  obtain ⟨s3, s4, s5⟩ := sL_3
  obtain z | z | z | z | z | z | z := h
  · exact absurd z h1
  · exact absurd z h2
  · exact ⟨3, z, s3⟩
  · exact ⟨4, z, s4⟩
  · exact ⟨5, z, s5⟩
  · exact absurd z h6
  · exact absurd z h7
