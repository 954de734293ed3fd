theorem erM_2 (M : MS) (k : Int32) : (erM M k).2 = M.2 := by unfold erM; split <;> rfl
theorem erM_18 (M : MS) (k : Int32) : (erM M k).1 18 = M.1 18 := by unfold erM; split <;> rfl
theorem lxM_2 (M : MS) (n a : Nat) : (lxM M n a).2 = M.2 := by
  unfold lxM
  dsimp only
  split
  · rfl
  · split
    · rfl
    · split <;> rfl
theorem adM_2 (M : MS) : (adM M).2 = M.2 := lxM_2 M _ _
theorem erM_bad {M : MS} {k : Int32} (h : ¬ M.1 19 = 0) : erM M k = M := if_neg h
theorem nm1_2 (M : MS) : (nm1 M).2 = M.2 := by unfold nm1; split; exact erM_2 _ _; rfl
def rr2 (M : MS) : MS := if M.1 19 = 0 ∧ ¬ M.1 18 < M.2.1 21 1 then erM M (nI 2) else M
theorem rr2_2 (M : MS) : (rr2 M).2 = M.2 := by unfold rr2; split; exact erM_2 _ _; rfl
def rrL (M : MS) (q : Nat) : Nat → MS
  | 0 => M
  | i + 1 => if (rrL M q i).1 19 = 0 ∧ (rrL M q i).2.1 21 (34 + 14 * q + 1 + i) = (rrL M q i).1 18 then erM (rrL M q i) (nI 2) else rrL M q i
theorem rrL_2 (M : MS) (q : Nat) : ∀ i, (rrL M q i).2 = M.2
  | 0 => rfl
  | i + 1 => by
    unfold rrL; split
    · rw [erM_2]; exact rrL_2 M q i
    · exact rrL_2 M q i
theorem rrL_bad {M : MS} {q i : Nat} (h : ¬ (rrL M q i).1 19 = 0) : ∀ c, i ≤ c → rrL M q c = rrL M q i
  | 0, hc => by rw [show i = 0 by omega]
  | c + 1, hc => by
    by_cases e : i = c + 1
    · rw [e]
    · have ih := rrL_bad h c (by omega)
      rw [rrL, ih, if_neg (fun z => h z.1)]
def rr4 (M : MS) (c : Nat) : MS := if c = 12 then erM M (nI 3) else M
theorem rr4_2 (M : MS) (c : Nat) : (rr4 M c).2 = M.2 := by unfold rr4; split; exact erM_2 _ _; rfl
/-- what stands behind the checks of a ROW's THING number c -/
def rrX (M : MS) (q c : Nat) : MS := rr4 (rrL (rr2 (nm1 M)) q c) c
theorem rrX_2 (M : MS) (q c : Nat) : (rrX M q c).2 = M.2 := by unfold rrX; rw [rr4_2, rrL_2, rr2_2, nm1_2]
def rrY (M : MS) (q c : Nat) : MS := adM (aS (rrX M q c) 21 (34 + 14 * q + 1 + c) ((rrX M q c).1 18))
def rrZ (M : MS) (q c : Nat) : MS := aS (aS M 21 (34 + 14 * q) (nI c)) 21 2 (nI (q + 1))
def rrF (q : Nat) : Nat → Nat → MS → MS
  | 0, _, M => M
  | m + 1, c, M => if (rrX M q c).1 19 = 0 then (if c + 1 < 2 ∨ (rrY M q c).1 17 = nI 2 then rrF q m (c + 1) (rrY M q c) else rrZ (rrY M q c) q (c + 1)) else rrX M q c
theorem TOK_rr2 {M : MS} {n a f : Nat} (h : TOK M n a f) : TOK (rr2 M) n a f := by unfold rr2; split; exact TOK_er h; exact h
theorem TOK_rrL {M : MS} {n a f q : Nat} (h : TOK M n a f) : ∀ i, TOK (rrL M q i) n a f
  | 0 => h
  | i + 1 => by unfold rrL; split; exact TOK_er (TOK_rrL h i); exact TOK_rrL h i
theorem TOK_rr4 {M : MS} {n a f c : Nat} (h : TOK M n a f) : TOK (rr4 M c) n a f := by unfold rr4; split; exact TOK_er h; exact h
theorem TOK_aS {M : MS} {n a f j i : Nat} {v : Int32} (h : TOK M n a f) : TOK (aS M j i v) n a f := h
section S23
variable {l : Launch} {G : GG} {o : Nat} {ad : Nat → Nat} {M : MS} {n : Nat}
theorem er_ne {M M4 : MS} {k : Int32} (hk : ¬ k = 0) (e : M4 = erM M k) (h : M4.1 19 = 0) : False := by
  rw [e] at h
  unfold erM at h
  by_cases z : M.1 19 = 0
  · rw [if_pos z] at h; exact hk h
  · rw [if_neg z] at h; exact z h
set_option maxHeartbeats 4000000 in
theorem c_readRow {a f0 q : Nat} (hT : TOK M n a f0) (hq : q < 12) (hf : M.2.1 21 2 = nI q) : Con l G yX11_readRow cX11_readRow 4 none 4 0 0 [.ref o] (mw o ad G.2.1 M) (pV (mw o ad G.2.1 (rrF q 13 0 M))) := by
  refine Con.mk (own := RX11) (by decide) rfl (Nat.le_of_ble_eq_true rfl) (fun X C => ?_)
  obtain ⟨R, hR0⟩ : ∃ R, rrF q 13 0 M = R := ⟨_, rfl⟩
  have lp : ∀ (m c : Nat) (M2 : MS) (a f : Nat), 13 - c = m → c ≤ 12 → TOK M2 n a f → M2.2.1 21 2 = nI q → rrF q m c M2 = R → J X 4 0 0 (mw o ad G.2.1 M2) 15 [(0, .ref o), (1, .int (nI (34 + 14 * q))), (2, .int (nI c))] [] := by
    intro m
    induction m using Nat.strongRecOn with
    | ind m ilp =>
    intro c M2 a f hm hc hT2 hf2 hR
    obtain ⟨z, rfl⟩ : ∃ z, m = z + 1 := ⟨m - 1, by omega⟩
    have g113 : ∀ (M4 : MS), M4 = rrX M2 q c → TOK M4 n a f → J X 4 0 0 (mw o ad G.2.1 M4) 113 [(0, .ref o), (1, .int (nI (34 + 14 * q))), (2, .int (nI c))] [] := by
      intro M4 e4 hT4
      refine j_aload_n 114 C dX11_readRow_113 rfl rfl ?_
      refine j_mI 117 C dX11_readRow_114 rfl cw11_142 rfl c_good rfl (by decide) rfl (Nat.le_of_ble_eq_true rfl) ?_
      refine j_if_neB 121 120 C dX11_readRow_117 (by decide) rfl (fun c117 => ?_) (fun c117 => ?_)
      · have hlt : c < 12 := Decidable.byContradiction fun z => by have e := e4; unfold rrX at e; rw [rr4, if_pos (show c = 12 by omega)] at e; exact er_ne (by decide) e c117
        refine j_aload_n 122 C dX11_readRow_121 rfl rfl ?_
        refine rg_fresh 125 C dX11_readRow_122 rfl ?_
        refine j_iload_n 126 C dX11_readRow_125 rfl rfl ?_
        refine j_iconst 127 C dX11_readRow_126 rfl (v := nI 1) (by decide) ?_
        refine j_iaddN 128 C dX11_readRow_127 rfl ?_
        refine j_iload_n 129 C dX11_readRow_128 rfl rfl ?_
        refine j_iaddN 130 C dX11_readRow_129 rfl ?_
        refine j_aload_n 131 C dX11_readRow_130 rfl rfl ?_
        refine rg_value 134 C dX11_readRow_131 rfl ?_
        refine rs_fresh 135 C dX11_readRow_134 rfl _ (by omega) rfl ?_
        rw [e4]
        refine j_iincN 138 (z := 1) C dX11_readRow_135 rfl rfl rfl (by decide) ?_
        refine j_aload_n 139 C dX11_readRow_138 rfl rfl ?_
        refine j_mV 142 C dX11_readRow_139 rfl cw11_160 rfl (c_adv (TOK_aS (e4 ▸ hT4))) rfl (by decide) rfl (Nat.le_of_ble_eq_true rfl) ?_
        refine j_ws (mw o ad G.2.1 (rrY M2 q c)) rfl ?_
        obtain ⟨a2, hT5, -, -⟩ := TOK_ad (TOK_aS (j := 21) (i := 34 + 14 * q + 1 + c) (v := (rrX M2 q c).1 18) (e4 ▸ hT4))
        have hf5 : (rrY M2 q c).2.1 21 2 = nI q := by unfold rrY; rw [adM_2]; show upd ((rrX M2 q c).2.1 21) _ _ 2 = _; rw [pk_un (by omega), rrX_2]; exact hf2
        refine j_iload_n 143 C dX11_readRow_142 rfl rfl ?_
        refine j_iconst 144 C dX11_readRow_143 rfl (v := nI 2) (by decide) ?_
        refine j_icmp_ltN 15 147 C dX11_readRow_144 (by decide) rfl (by omega) (by omega) (fun c144 => ?_) (fun c144 => ?_)
        · rw [rrF, if_pos (by rw [← e4]; exact c117), if_pos (Or.inl c144)] at hR
          exact j_weak _ (by exact ⟨rfl, rfl, rfl, trivial⟩) (ilp z (by omega) (c + 1) (rrY M2 q c) _ _ (by omega) (by omega) hT5 hf5 hR)
        · refine j_aload_n 148 C dX11_readRow_147 rfl rfl ?_
          refine rg_token 151 C dX11_readRow_148 rfl ?_
          refine j_iconst 152 C dX11_readRow_151 rfl (v := nI 2) (by decide) ?_
          refine j_icmp_eq 15 155 C dX11_readRow_152 (by decide) rfl (fun c152 => ?_) (fun c152 => ?_)
          · rw [rrF, if_pos (by rw [← e4]; exact c117), if_pos (Or.inr c152)] at hR
            exact j_weak _ (by exact ⟨rfl, rfl, rfl, trivial⟩) (ilp z (by omega) (c + 1) (rrY M2 q c) _ _ (by omega) (by omega) hT5 hf5 hR)
          · rw [rrF, if_pos (by rw [← e4]; exact c117), if_neg (fun z => z.elim (by omega) c152)] at hR
            refine j_aload_n 156 C dX11_readRow_155 rfl rfl ?_
            refine rg_fresh 159 C dX11_readRow_156 rfl ?_
            refine j_iload_n 160 C dX11_readRow_159 rfl rfl ?_
            refine j_iload_n 161 C dX11_readRow_160 rfl rfl ?_
            refine rs_fresh 162 C dX11_readRow_161 rfl _ (by omega) rfl ?_
            refine j_aload_n 163 C dX11_readRow_162 rfl rfl ?_
            refine rg_fresh 166 C dX11_readRow_163 rfl ?_
            refine j_iconst 167 C dX11_readRow_166 rfl (v := nI 2) (by decide) ?_
            refine j_dup2 168 C dX11_readRow_167 rfl rfl rfl ?_
            refine ra_fresh 169 C dX11_readRow_168 rfl _ (by omega) rfl ?_
            rw [show (aS (rrY M2 q c) 21 (34 + 14 * q) (nI (c + 1))).2.1 21 2 = nI q from by show upd ((rrY M2 q c).2.1 21) _ _ 2 = _; rw [pk_un (by omega)]; exact hf5]
            refine j_iconst 170 C dX11_readRow_169 rfl (v := nI 1) (by decide) ?_
            refine j_iaddN 171 C dX11_readRow_170 rfl ?_
            refine rs_fresh 172 C dX11_readRow_171 rfl _ (by omega) rfl ?_
            exact j_vret C dX11_readRow_172 ⟨rfl, by rw [hR0, ← hR]; rfl⟩
      · exact j_vret C dX11_readRow_120 ⟨rfl, by rw [hR0, ← hR, rrF, if_neg (by rw [← e4]; exact c117), e4]⟩
    have g102 : ∀ (M3 : MS), M3 = rrL (rr2 (nm1 M2)) q c → TOK M3 n a f → J X 4 0 0 (mw o ad G.2.1 M3) 102 [(0, .ref o), (1, .int (nI (34 + 14 * q))), (2, .int (nI c))] [] := by
      intro M3 e3 hT3
      refine j_iload_n 103 C dX11_readRow_102 rfl rfl ?_
      refine j_bipush 105 C dX11_readRow_103 rfl (v := nI 12) (by decide) ?_
      refine j_icmp_neN 113 108 C dX11_readRow_105 (by decide) rfl (by omega) (by omega) (fun c105 => ?_) (fun c105 => ?_)
      · exact j_weak _ (by exact ⟨rfl, rfl, rfl, trivial⟩) (g113 _ (by rw [rrX, ← e3, rr4, if_neg c105]) hT3)
      · refine j_aload_n 109 C dX11_readRow_108 rfl rfl ?_
        refine j_iconst 110 C dX11_readRow_109 rfl (v := nI 3) (by decide) ?_
        refine j_mV 113 C dX11_readRow_110 rfl cw11_166 rfl (c_errs _) rfl (by decide) rfl (Nat.le_of_ble_eq_true rfl) ?_
        exact j_weak _ (by exact ⟨rfl, rfl, rfl, trivial⟩) (g113 _ (by rw [rrX, ← e3, rr4, if_pos c105]) (TOK_er hT3))
    have lp62 : ∀ (m : Nat) (i : Nat), c - i = m → i ≤ c → J X 4 0 0 (mw o ad G.2.1 (rrL (rr2 (nm1 M2)) q i)) 62 [(0, .ref o), (1, .int (nI (34 + 14 * q))), (2, .int (nI c)), (3, .int (nI i))] [] := by
      intro m
      induction m using Nat.strongRecOn with
      | ind m ilp62 =>
      intro i hm hi
      refine j_iload_n 63 C dX11_readRow_62 rfl rfl ?_
      refine j_iload_n 64 C dX11_readRow_63 rfl rfl ?_
      refine j_icmp_geN 102 67 C dX11_readRow_64 (by decide) rfl (by omega) (by omega) (fun c64 => ?_) (fun c64 => ?_)
      · exact j_weak _ (by exact ⟨rfl, rfl, rfl, trivial⟩) (g102 _ (by rw [show c = i by omega]) (TOK_rrL (TOK_rr2 (TOK_nm1 hT2)) i))
      · refine j_aload_n 68 C dX11_readRow_67 rfl rfl ?_
        refine j_mI 71 C dX11_readRow_68 rfl cw11_142 rfl c_good rfl (by decide) rfl (Nat.le_of_ble_eq_true rfl) ?_
        refine j_if_eqB 102 74 C dX11_readRow_71 (by decide) rfl (fun c71 => ?_) (fun c71 => ?_)
        · exact j_weak _ (by exact ⟨rfl, rfl, rfl, trivial⟩) (g102 _ (rrL_bad c71 c (by omega)).symm (TOK_rrL (TOK_rr2 (TOK_nm1 hT2)) i))
        · refine j_aload_n 75 C dX11_readRow_74 rfl rfl ?_
          refine rg_fresh 78 C dX11_readRow_75 rfl ?_
          refine j_iload_n 79 C dX11_readRow_78 rfl rfl ?_
          refine j_iconst 80 C dX11_readRow_79 rfl (v := nI 1) (by decide) ?_
          refine j_iaddN 81 C dX11_readRow_80 rfl ?_
          refine j_iload_n 82 C dX11_readRow_81 rfl rfl ?_
          refine j_iaddN 83 C dX11_readRow_82 rfl ?_
          refine ra_fresh 84 C dX11_readRow_83 rfl _ (by omega) rfl ?_
          refine j_aload_n 85 C dX11_readRow_84 rfl rfl ?_
          refine rg_value 88 C dX11_readRow_85 rfl ?_
          refine j_icmp_ne 96 91 C dX11_readRow_88 (by decide) rfl (fun c88 => ?_) (fun c88 => ?_)
          · have hs : rrL (rr2 (nm1 M2)) q (i + 1) = (rrL (rr2 (nm1 M2)) q i) := if_neg (fun z => c88 z.2)
            refine j_iincN 99 (z := 1) C dX11_readRow_96 rfl rfl rfl (by decide) ?_
            refine j_goto 62 C dX11_readRow_99 (by decide) ?_
            rw [← hs]
            exact j_weak _ (by exact ⟨rfl, rfl, rfl, rfl, trivial⟩) (ilp62 _ (by omega) (i + 1) rfl (by omega))
          · have hs : rrL (rr2 (nm1 M2)) q (i + 1) = erM (rrL (rr2 (nm1 M2)) q i) (nI 2) := if_pos ⟨c71, c88⟩
            refine j_aload_n 92 C dX11_readRow_91 rfl rfl ?_
            refine j_iconst 93 C dX11_readRow_92 rfl (v := nI 2) (by decide) ?_
            refine j_mV 96 C dX11_readRow_93 rfl cw11_166 rfl (c_errs _) rfl (by decide) rfl (Nat.le_of_ble_eq_true rfl) ?_
            refine j_iincN 99 (z := 1) C dX11_readRow_96 rfl rfl rfl (by decide) ?_
            refine j_goto 62 C dX11_readRow_99 (by decide) ?_
            rw [← hs]
            exact j_weak _ (by exact ⟨rfl, rfl, rfl, rfl, trivial⟩) (ilp62 _ (by omega) (i + 1) rfl (by omega))
    have g35 : ∀ (M1 : MS), M1 = nm1 M2 → J X 4 0 0 (mw o ad G.2.1 M1) 35 [(0, .ref o), (1, .int (nI (34 + 14 * q))), (2, .int (nI c))] [] := by
      intro M1 e1
      refine j_aload_n 36 C dX11_readRow_35 rfl rfl ?_
      refine j_mI 39 C dX11_readRow_36 rfl cw11_142 rfl c_good rfl (by decide) rfl (Nat.le_of_ble_eq_true rfl) ?_
      refine j_if_eqB 60 42 C dX11_readRow_39 (by decide) rfl (fun c39 => ?_) (fun c39 => ?_)
      · refine j_iconst 61 C dX11_readRow_60 rfl (v := nI 0) (by decide) ?_
        refine j_istore_n 62 C dX11_readRow_61 rfl rfl (by decide) ?_
        rw [show M1 = rr2 (nm1 M2) from by rw [← e1, rr2, if_neg (fun z => c39 z.1)]]
        exact j_weak _ (by exact ⟨rfl, rfl, rfl, rfl, trivial⟩) (lp62 _ 0 rfl (Nat.zero_le _))
      · refine j_aload_n 43 C dX11_readRow_42 rfl rfl ?_
        refine rg_value 46 C dX11_readRow_43 rfl ?_
        refine j_aload_n 47 C dX11_readRow_46 rfl rfl ?_
        refine rg_fresh 50 C dX11_readRow_47 rfl ?_
        refine j_iconst 51 C dX11_readRow_50 rfl (v := nI 1) (by decide) ?_
        refine ra_fresh 52 C dX11_readRow_51 rfl _ (by omega) rfl ?_
        refine j_icmp_lt 60 55 C dX11_readRow_52 (by decide) rfl (fun c52 => ?_) (fun c52 => ?_)
        · refine j_iconst 61 C dX11_readRow_60 rfl (v := nI 0) (by decide) ?_
          refine j_istore_n 62 C dX11_readRow_61 rfl rfl (by decide) ?_
          rw [show M1 = rr2 (nm1 M2) from by rw [← e1, rr2, if_neg (fun z => z.2 c52)]]
          exact j_weak _ (by exact ⟨rfl, rfl, rfl, rfl, trivial⟩) (lp62 _ 0 rfl (Nat.zero_le _))
        · refine j_aload_n 56 C dX11_readRow_55 rfl rfl ?_
          refine j_iconst 57 C dX11_readRow_56 rfl (v := nI 2) (by decide) ?_
          refine j_mV 60 C dX11_readRow_57 rfl cw11_166 rfl (c_errs _) rfl (by decide) rfl (Nat.le_of_ble_eq_true rfl) ?_
          refine j_iconst 61 C dX11_readRow_60 rfl (v := nI 0) (by decide) ?_
          refine j_istore_n 62 C dX11_readRow_61 rfl rfl (by decide) ?_
          rw [show erM M1 (nI 2) = rr2 (nm1 M2) from by rw [← e1, rr2, if_pos ⟨c39, c52⟩]]
          exact j_weak _ (by exact ⟨rfl, rfl, rfl, rfl, trivial⟩) (lp62 _ 0 rfl (Nat.zero_le _))
    refine j_aload_n 16 C dX11_readRow_15 rfl rfl ?_
    refine j_mI 19 C dX11_readRow_16 rfl cw11_142 rfl c_good rfl (by decide) rfl (Nat.le_of_ble_eq_true rfl) ?_
    refine j_if_eqB 35 22 C dX11_readRow_19 (by decide) rfl (fun c19 => ?_) (fun c19 => ?_)
    · exact j_weak _ (by exact ⟨rfl, rfl, rfl, trivial⟩) (g35 _ (by rw [nm1, if_neg (fun z => c19 z.1)]))
    · refine j_aload_n 23 C dX11_readRow_22 rfl rfl ?_
      refine rg_token 26 C dX11_readRow_23 rfl ?_
      refine j_iconst 27 C dX11_readRow_26 rfl (v := nI 2) (by decide) ?_
      refine j_icmp_eq 35 30 C dX11_readRow_27 (by decide) rfl (fun c27 => ?_) (fun c27 => ?_)
      · exact j_weak _ (by exact ⟨rfl, rfl, rfl, trivial⟩) (g35 _ (by rw [nm1, if_neg (fun z => z.2 c27)]))
      · refine j_aload_n 31 C dX11_readRow_30 rfl rfl ?_
        refine j_iconst 32 C dX11_readRow_31 rfl (v := nI 1) (by decide) ?_
        refine j_mV 35 C dX11_readRow_32 rfl cw11_166 rfl (c_errs _) rfl (by decide) rfl (Nat.le_of_ble_eq_true rfl) ?_
        exact j_weak _ (by exact ⟨rfl, rfl, rfl, trivial⟩) (g35 _ (by rw [nm1, if_pos ⟨c19, c27⟩]))
  refine j_bipush 2 C dX11_readRow_0 rfl (v := nI 34) (by decide) ?_
  refine j_bipush 4 C dX11_readRow_2 rfl (v := nI 14) (by decide) ?_
  refine j_aload_n 5 C dX11_readRow_4 rfl rfl ?_
  refine rg_fresh 8 C dX11_readRow_5 rfl ?_
  refine j_iconst 9 C dX11_readRow_8 rfl (v := nI 2) (by decide) ?_
  refine ra_fresh 10 C dX11_readRow_9 rfl _ (by omega) rfl ?_
  rw [hf]
  refine j_imulN 11 C dX11_readRow_10 rfl ?_
  refine j_iaddN 12 C dX11_readRow_11 rfl ?_
  refine j_istore_n 13 C dX11_readRow_12 rfl rfl (by decide) ?_
  refine j_iconst 14 C dX11_readRow_13 rfl (v := nI 0) (by decide) ?_
  refine j_istore_n 15 C dX11_readRow_14 rfl rfl (by decide) ?_
  exact j_weak _ (by exact ⟨rfl, rfl, rfl, trivial⟩) (lp 13 0 M a f0 rfl (by omega) hT hf hR0)
end S23
