theorem TOK_ad0 {M : MS} {n a : Nat} (h1 : M.1 14 = nI n) (h2 : M.1 15 = nI a) (h5 : a ≤ n) (h6 : n ≤ 900) : ∃ a2, TOK (adM M) n a2 (nxF M) ∧ a ≤ nxF M ∧ ((adM M).1 17 = nI 0 ∧ a2 = nxF M ∨ nxF M < a2) := by
  have e1 : tn (M.1 14) = n := by rw [h1, tn_nI (by omega)]
  have e2 : tn (M.1 15) = a := by rw [h2, tn_nI (by omega)]
  have hle := lx_ws_le (M.2.1 11) n (n - a) a
  have hn := lx_ws_n (M.2.1 11) n (n - a) a h5
  unfold nxF adM
  rw [e1, e2]
  unfold lxM
  dsimp only
  generalize hf : lx_ws (M.2.1 11) n (n - a) a = a0 at hle hn ⊢
  by_cases c1 : sv (M.2.1 11) n a0 = -1
  · rw [if_pos c1]
    exact ⟨a0, ⟨h1, rfl, rfl, Nat.le_refl _, hn, h6⟩, hle, Or.inl ⟨rfl, rfl⟩⟩
  · have hin := sv_in c1
    rw [if_neg c1]
    by_cases c2 : isLet (sv (M.2.1 11) n a0)
    · rw [if_pos c2]
      have z := lx_let_le (M.2.1 11) n (n - a0) a0
      have z2 := lx_let_le (M.2.1 11) n (n - (a0 + 1)) (a0 + 1)
      rw [lx_let_eq c2] at z ⊢
      exact ⟨_, ⟨h1, rfl, rfl, z.1, z.2 hn, h6⟩, hle, Or.inr (by omega)⟩
    · rw [if_neg c2]
      by_cases c3 : isDig (sv (M.2.1 11) n a0)
      · rw [if_pos c3]
        have z := lx_dig_le (M.2.1 11) n (n - a0) a0 (nI 0)
        have z2 := lx_dig_le (M.2.1 11) n (n - (a0 + 1)) (a0 + 1) (lx_dv (nI 0) (sv (M.2.1 11) n a0))
        rw [lx_dig_eq c3] at z ⊢
        exact ⟨_, ⟨h1, rfl, rfl, z.1, z.2 hn, h6⟩, hle, Or.inr (by omega)⟩
      · rw [if_neg c3]
        exact ⟨a0 + 1, ⟨h1, rfl, rfl, by omega, by omega, h6⟩, hle, Or.inr (by omega)⟩
/-- what stays between the LINES of a TEXT in the making -/
def LI (M : MS) (n f : Nat) : Prop := ∃ a nt q p, TK M n a f ∧ M.2.1 21 1 = nI nt ∧ nt ≤ 24 ∧ M.2.1 21 2 = nI q ∧ q ≤ 12 ∧ M.2.1 21 3 = nI p ∧ 3 * p ≤ f + 2
theorem LI_er {M : MS} {n f : Nat} {k : Int32} (h : LI M n f) : LI (erM M k) n f := by
  obtain ⟨a, nt, q, p, hT, h1, h2, h3, h4, h5, h6⟩ := h
  refine ⟨a, nt, q, p, TK_er hT, ?_, h2, ?_, h4, ?_, h6⟩ <;> rw [erM_2] <;> assumption
theorem LI_ad {M : MS} {n f : Nat} (h : LI M n f) : ∃ f2, LI (adM M) n f2 ∧ f ≤ f2 := by
  obtain ⟨a, nt, q, p, hT, h1, h2, h3, h4, h5, h6⟩ := h
  obtain ⟨a1, hT1, hle⟩ := TK_ad hT
  have hfa := hT.1.2.2.2.1
  refine ⟨_, ⟨a1, nt, q, p, hT1, ?_, h2, ?_, h4, ?_, by omega⟩, by omega⟩ <;> rw [adM_2] <;> assumption
theorem LI_T {M : MS} {n f : Nat} (h : LI M n f) : ∃ f2, LI (lnT M) n f2 ∧ f ≤ f2 := by
  have h1 : LI (lnT1 M) n f := by unfold lnT1; split; exact h; exact LI_er h
  have h2 : ∃ f2, LI (lnT2 M) n f2 ∧ f ≤ f2 := by
    unfold lnT2; split
    · exact LI_ad h1
    · exact ⟨f, h1, Nat.le_refl _⟩
  obtain ⟨f2, ⟨a, nt, q, p, hT, g1, g2, g3, g4, g5, g6⟩, hf⟩ := h2
  refine ⟨f2, ⟨a, nt, q, p, TK_aS hT, ?_, g2, ?_, g4, ?_, g6⟩, hf⟩ <;> rw [lnT, aS_at, pk_un (by omega)] <;> assumption
theorem sL_2 : 3 ≤ sL 1 ∧ 3 ≤ sL 2 ∧ 3 ≤ sL 3 ∧ 3 ≤ sL 4 ∧ 3 ≤ sL 5 ∧ 3 ≤ sL 6 ∧ 3 ≤ sL 7 := by decide +kernel
theorem lnK_w {M : MS} (h : lnK M) : ∃ i, isW M i ∧ 3 ≤ sL i := by
  obtain ⟨s1, s2, s3, s4, s5, s6, s7⟩ := sL_2
  obtain z | z | z | z | z | z | z := h
  · exact ⟨1, z, s1⟩
  · exact ⟨2, z, s2⟩
  · exact ⟨3, z, s3⟩
  · exact ⟨4, z, s4⟩
  · exact ⟨5, z, s5⟩
  · exact ⟨6, z, s6⟩
  · exact ⟨7, z, s7⟩
theorem LI_Y {M : MS} {n f : Nat} (h : LI M n f) (hK : lnK M) (hX : ¬ ((isW M 1 ∧ M.2.1 21 1 = nI 24) ∨ (isW M 2 ∧ M.2.1 21 2 = nI 12))) : ∃ f2, LI (lnY M n) n f2 ∧ f < f2 := by
  obtain ⟨a, nt, q, p, hT, h1, h2, h3, h4, h5, h6⟩ := h
  obtain ⟨iw, hiw, hiw3⟩ := lnK_w hK
  have hfa := isW_fa hT.1 hiw
  have hfa0 := hT.1.2.2.2.1
  have hna := hT.1.2.2.2.2.1
  have hn9 := hT.1.2.2.2.2.2
  obtain ⟨a1, hT1, hle⟩ := TK_ad hT
  generalize hf1 : nxF M = f1 at hT1 hle
  have e1 : (adM M).2.1 21 1 = nI nt := by rw [adM_2]; exact h1
  have e2 : (adM M).2.1 21 2 = nI q := by rw [adM_2]; exact h3
  have e3 : (adM M).2.1 21 3 = nI p := by rw [adM_2]; exact h5
  unfold lnY
  by_cases c1 : isW M 1
  · rw [@if_pos _ (isWD M 1) c1, h1, tn_nI (by omega)]
    have hnt : nt < 24 := by
      by_cases z : nt = 24
      · exact absurd (Or.inl ⟨c1, by rw [← z]; exact h1⟩) hX
      · omega
    obtain ⟨a2, f2, hT2, hf2, he2⟩ := TK_nw (i := 8) hT1
    obtain ⟨a3, f3, hT3, hf3, he3, -⟩ := TK_num (lo := 0) (hi := 9) hT2
    have he : (nmM (nwM (adM M) 8) 0 9).2 = (adM M).2 := he3.trans he2
    unfold ln1
    split
    · refine ⟨f3, ⟨a3, nt + 1, q, p, TK_aS (TK_aS hT3), ?_, by omega, ?_, h4, ?_, by omega⟩, by omega⟩
      · rw [aS_at, pk_us]
      · rw [aS_at, pk_un (by omega), aS_at, pk_un (by omega), he]; exact e2
      · rw [aS_at, pk_un (by omega), aS_at, pk_un (by omega), he]; exact e3
    · exact ⟨f3, ⟨a3, nt, q, p, hT3, by rw [he]; exact e1, h2, by rw [he]; exact e2, h4, by rw [he]; exact e3, by omega⟩, by omega⟩
  rw [@if_neg _ (isWD M 1) c1]
  by_cases c2 : isW M 2
  · rw [@if_pos _ (isWD M 2) c2, h3, tn_nI (by omega)]
    have hq : q < 12 := by
      by_cases z : q = 12
      · exact absurd (Or.inr ⟨c2, by rw [← z]; exact h3⟩) hX
      · omega
    obtain ⟨a2, f2, g1, g2, g3, g4, g5⟩ := TK_rrF hq 13 0 _ _ _ hT1
    obtain z | z := g5
    · exact ⟨f2, ⟨a2, nt, q, p, g1, g3.trans e1, h2, z.trans e2, h4, g4.trans e3, by omega⟩, by omega⟩
    · exact ⟨f2, ⟨a2, nt, q + 1, p, g1, g3.trans e1, h2, z, by omega, g4.trans e3, by omega⟩, by omega⟩
  rw [@if_neg _ (isWD M 2) c2]
  by_cases c6 : isW M 6
  · rw [@if_pos _ (isWD M 6) c6]
    have hT1s : TK (sS (adM M) 22 (nI 1)) n a1 f1 := hT1
    obtain ⟨a3, f3, hT3, hf3, he3, -⟩ := TK_num (lo := 0) (hi := 5000) hT1s
    have he : (nmM (sS (adM M) 22 (nI 1)) 0 5000).2 = (adM M).2 := he3
    refine ⟨f3, ⟨a3, nt, q, p, TK_aS hT3, ?_, h2, ?_, h4, ?_, by omega⟩, by omega⟩
    · rw [ln3, aS_at, pk_un (by omega), he]; exact e1
    · rw [ln3, aS_at, pk_un (by omega), he]; exact e2
    · rw [ln3, aS_at, pk_un (by omega), he]; exact e3
  rw [@if_neg _ (isWD M 6) c6]
  by_cases c7 : isW M 7
  · rw [@if_pos _ (isWD M 7) c7]
    have hT4 := TK_ln4e hT1
    have h42 := ln4e_2 (adM M)
    unfold ln4
    split
    · obtain ⟨a5, hT5, hle5⟩ := TK_ad (TK_aS (j := 23) (i := tn (srt (adM M))) (v := vp_nar .boolean (nI 1)) hT4)
      obtain ⟨a6, f6, hT6, hf6, he6, -⟩ := TK_num (lo := 0) (hi := 100) hT5
      have hfa1 := hT4.1.2.2.2.1
      have he : ∀ j, (nmM (ln4a (adM M)) 0 100).2.1 21 j = (adM M).2.1 21 j := by
        intro j
        unfold ln4a
        rw [he6, adM_2]
        show (ln4e (adM M)).2.1 21 j = _
        rw [h42]
      refine ⟨f6, ⟨a6, nt, q, p, TK_aS hT6, ?_, h2, ?_, h4, ?_, by omega⟩, by omega⟩
      · rw [aS_at, pk_un (by omega), he]; exact e1
      · rw [aS_at, pk_un (by omega), he]; exact e2
      · rw [aS_at, pk_un (by omega), he]; exact e3
    · exact ⟨f1, ⟨a1, nt, q, p, hT4, by rw [h42]; exact e1, h2, by rw [h42]; exact e2, h4, by rw [h42]; exact e3, by omega⟩, by omega⟩
  rw [@if_neg _ (isWD M 7) c7, h5, tn_nI (by omega)]
  obtain ⟨a2, f2, p2, g1, g2, g3, g4, g5⟩ := TK_rlM hT1 (lnW_lt M) e3 (by omega)
  exact ⟨f2, ⟨a2, nt, q, p2, g1, (g5 1 (Or.inl rfl)).trans e1, h2, (g5 2 (Or.inr rfl)).trans e2, h4, g3, g4⟩, by omega⟩
theorem LI_line {M : MS} {n f : Nat} (h : LI M n f) : ∃ f2, LI (lineM M n) n f2 ∧ ((lineM M n).1 19 = 0 → f < f2) := by
  unfold lineM
  by_cases hok : (lnX M).1 19 = 0
  · rw [if_pos hok]
    obtain ⟨hXe, hK, hX3⟩ := lnX_ok hok
    rw [hXe]
    obtain ⟨f1, g1, g2⟩ := LI_Y h hK hX3
    obtain ⟨f2, g3, g4⟩ := LI_T g1
    exact ⟨f2, g3, fun _ => by omega⟩
  · rw [if_neg hok]
    obtain ⟨a, nt, q, p, hT, h1, h2, h3, h4, h5, h6⟩ := h
    obtain ⟨hX, hX2, -⟩ := TK_lnX hT
    exact ⟨f, ⟨a, nt, q, p, hX, by rw [hX2]; exact h1, h2, by rw [hX2]; exact h3, h4, by rw [hX2]; exact h5, h6⟩, fun z => absurd z hok⟩
/-- the LINES, one after another -/
noncomputable def txL (n : Nat) : Nat → MS → MS
  | 0, M => M
  | F + 1, M => if M.1 19 = 0 ∧ ¬ M.1 17 = 0 then txL n F (lineM M n) else M
def txS (M : MS) : MS := sS (sS (sS (sS (sS M 14 (M.1 12)) 12 (nI 0)) 15 (nI 0)) 19 (nI 0)) 20 (-1)
def txI (M : MS) : MS := aR (sS (aR (txS M) 21 h00) 22 (nI 0)) 23 h00
noncomputable def txF (M : MS) (n : Nat) : MS := txL n 901 (adM (txI M))
def txR (M : MS) : MS := sS (sS (setHd (aS (aR M 1 (M.2.1 21)) 1 9 (M.2.1 21 2)) h00) 3 (nI 0)) 4 (nI 0)
noncomputable def txM (M : MS) (n : Nat) : MS := if (txF M n).1 19 = 0 then txR (txF M n) else txF M n
noncomputable def txV (M : MS) (n : Nat) : Int32 := if (txF M n).1 19 = 0 then (txF M n).2.1 21 2 else (-4)
theorem LI_start {M : MS} {n : Nat} (h : M.1 12 = nI n) (hn : n ≤ 900) : ∃ f, LI (adM (txI M)) n f := by
  obtain ⟨a2, h1, -, h3⟩ := TOK_ad0 (M := txI M) (n := n) (a := 0) h rfl (Nat.zero_le _) hn
  exact ⟨_, a2, 0, 0, 0, ⟨h1, h3.elim (fun z => Or.inl z.1) Or.inr⟩, by rw [adM_2]; rfl, by omega, by rw [adM_2]; rfl, by omega, by rw [adM_2]; rfl, by omega⟩
