section S27
variable {l : Launch} {G : GG} {o : Nat} {ad : Nat → Nat} {M : MS} {n : Nat}
theorem fz_0 (h : Nat → Int32) : fz h 0 = h := by funext j; exact if_neg (by omega)
set_option maxHeartbeats 4000000 in
theorem c_text (hM : M.1 12 = nI n) (hn9 : n ≤ 900) : Con l G yX11_text cX11_text 2 (some .int) 10 0 0 [.ref o] (mw o ad G.2.1 M) (pI (txV M n) (mw o ad G.2.1 (txM M n))) := by
  refine Con.mk (own := RX11) (by decide) rfl (Nat.le_of_ble_eq_true rfl) (fun X C => ?_)
  have g137 : ∀ (u : Unit), (txF M n).1 19 = 0 → J X 2 0 0 (mw o ad G.2.1 (aR (txF M n) 1 ((txF M n).2.1 21))) 137 [(0, .ref o)] [] := by
    intro u hg
    refine j_aload_n 138 C dX11_text_137 rfl rfl ?_
    refine rg_world 141 C dX11_text_138 rfl ?_
    refine j_bipush 143 C dX11_text_141 rfl (v := nI 9) (by decide) ?_
    refine j_aload_n 144 C dX11_text_143 rfl rfl ?_
    refine rg_world 147 C dX11_text_144 rfl ?_
    refine j_iconst 148 C dX11_text_147 rfl (v := nI 2) (by decide) ?_
    refine ra_world 149 C dX11_text_148 rfl _ (by omega) rfl ?_
    refine rs_world 150 C dX11_text_149 rfl _ (by omega) rfl ?_
    refine j_ws (mw o ad G.2.1 (setHd (aS (aR (txF M n) 1 ((txF M n).2.1 21)) 1 9 ((txF M n).2.1 21 2)) ((aS (aR (txF M n) 1 ((txF M n).2.1 21)) 1 9 ((txF M n).2.1 21 2)).2.1 2))) (by rw [setHd_self]; rfl) ?_
    refine j_aload_n 151 C dX11_text_150 rfl rfl ?_
    refine j_mV 154 C dX11_text_151 rfl cw11_237 rfl c_clearHead rfl (by decide) rfl (Nat.le_of_ble_eq_true rfl) ?_
    refine j_aload_n 155 C dX11_text_154 rfl rfl ?_
    refine j_iconst 156 C dX11_text_155 rfl (v := nI 0) (by decide) ?_
    refine rp_sittings 159 C dX11_text_156 rfl ?_
    refine j_aload_n 160 C dX11_text_159 rfl rfl ?_
    refine j_iconst 161 C dX11_text_160 rfl (v := nI 0) (by decide) ?_
    refine rp_lost 164 C dX11_text_161 rfl ?_
    refine j_aload_n 165 C dX11_text_164 rfl rfl ?_
    refine rg_world 168 C dX11_text_165 rfl ?_
    refine j_iconst 169 C dX11_text_168 rfl (v := nI 2) (by decide) ?_
    refine ra_world 170 C dX11_text_169 rfl _ (by omega) rfl ?_
    exact j_iret C dX11_text_170 ⟨by rw [txV, if_pos hg]; rfl, by rw [txM, if_pos hg]; rfl⟩
  have lp112 : ∀ (m : Nat) (k : Nat), 1120 - k = m → k ≤ 1120 → (txF M n).1 19 = 0 → J X 2 0 0 (mw o ad G.2.1 (aR (txF M n) 1 (va_cpy ((txF M n).2.1 21) ((txF M n).2.1 1) 0 0 k))) 112 [(0, .ref o), (1, .int (nI k))] [] := by
    intro m
    induction m using Nat.strongRecOn with
    | ind m ilp112 =>
    intro k hm hk hg
    refine j_iload_n 113 C dX11_text_112 rfl rfl ?_
    refine j_sipush 116 C dX11_text_113 rfl (v := nI 1120) (by decide) ?_
    refine j_icmp_geN 137 119 C dX11_text_116 (by decide) rfl (by omega) (by omega) (fun c116 => ?_) (fun c116 => ?_)
    · rw [show k = 1120 by omega]
      refine j_ext1 (f' := (txF M n).2.1 21) (fun j hj => by rw [cpy_img _ _ _ _ hj, Nat.zero_add]) ?_
      exact j_weak _ (by exact ⟨rfl, trivial⟩) (g137 () hg)
    · refine j_aload_n 120 C dX11_text_119 rfl rfl ?_
      refine rg_world 123 C dX11_text_120 rfl ?_
      refine j_iload_n 124 C dX11_text_123 rfl rfl ?_
      refine j_aload_n 125 C dX11_text_124 rfl rfl ?_
      refine rg_fresh 128 C dX11_text_125 rfl ?_
      refine j_iload_n 129 C dX11_text_128 rfl rfl ?_
      refine ra_fresh 130 C dX11_text_129 rfl _ (by omega) rfl ?_
      refine rs_world 131 C dX11_text_130 rfl _ (by omega) rfl ?_
      rw [aS_aR]
      rw [show upd (va_cpy ((txF M n).2.1 21) ((txF M n).2.1 1) 0 0 k) k _ = (va_cpy ((txF M n).2.1 21) ((txF M n).2.1 1) 0 0 (k + 1)) from by have z := cpy_step ((txF M n).2.1 21) ((txF M n).2.1 1) 0 0 k; rw [Nat.zero_add] at z; exact z]
      refine j_iincN 134 (z := 1) C dX11_text_131 rfl rfl rfl (by decide) ?_
      refine j_goto 112 C dX11_text_134 (by decide) ?_
      exact j_weak _ (by exact ⟨rfl, rfl, trivial⟩) (ilp112 _ (by omega) (k + 1) rfl (by omega) hg)
  have g100 : ∀ (u : Unit), J X 2 0 0 (mw o ad G.2.1 (txF M n)) 100 [(0, .ref o)] [] := by
    intro u 
    refine j_aload_n 101 C dX11_text_100 rfl rfl ?_
    refine j_mI 104 C dX11_text_101 rfl cw11_142 rfl c_good rfl (by decide) rfl (Nat.le_of_ble_eq_true rfl) ?_
    refine j_if_neB 110 107 C dX11_text_104 (by decide) rfl (fun c104 => ?_) (fun c104 => ?_)
    · refine j_iconst 111 C dX11_text_110 rfl (v := nI 0) (by decide) ?_
      refine j_istore_n 112 C dX11_text_111 rfl rfl (by decide) ?_
      refine j_ws (mw o ad G.2.1 (aR (txF M n) 1 (va_cpy ((txF M n).2.1 21) ((txF M n).2.1 1) 0 0 0))) (by rw [cpy_0, aR_self]) ?_
      exact j_weak _ (by exact ⟨rfl, rfl, trivial⟩) (lp112 _ 0 rfl (Nat.zero_le _) c104)
    · refine j_bipush 109 C dX11_text_107 rfl (v := (-4)) (by decide) ?_
      exact j_iret C dX11_text_109 ⟨by rw [txV, if_neg c104], by rw [txM, if_neg c104]⟩
  have lp79 : ∀ (m : Nat) (F : Nat) (N : MS) (f : Nat), F = m → LI N n f → (N.1 19 = 0 → n - f < F) → txL n F N = txF M n → J X 2 0 0 (mw o ad G.2.1 N) 79 [(0, .ref o)] [] := by
    intro m
    induction m using Nat.strongRecOn with
    | ind m ilp79 =>
    intro F N f hm hL hF hE
    refine j_aload_n 80 C dX11_text_79 rfl rfl ?_
    refine j_mI 83 C dX11_text_80 rfl cw11_142 rfl c_good rfl (by decide) rfl (Nat.le_of_ble_eq_true rfl) ?_
    refine j_if_eqB 100 86 C dX11_text_83 (by decide) rfl (fun c83 => ?_) (fun c83 => ?_)
    · have e : N = txF M n := by rw [← hE]; cases F with
        | zero => rfl
        | succ F => rw [txL, if_neg (fun z => c83 z.1)]
      rw [e]
      exact j_weak _ (by exact ⟨rfl, trivial⟩) (g100 ())
    · refine j_aload_n 87 C dX11_text_86 rfl rfl ?_
      refine rg_token 90 C dX11_text_87 rfl ?_
      refine j_if_eq 100 93 C dX11_text_90 (by decide) rfl (fun c90 => ?_) (fun c90 => ?_)
      · have e : N = txF M n := by rw [← hE]; cases F with
          | zero => rfl
          | succ F => rw [txL, if_neg (fun z => z.2 c90)]
        rw [e]
        exact j_weak _ (by exact ⟨rfl, trivial⟩) (g100 ())
      · refine j_aload_n 94 C dX11_text_93 rfl rfl ?_
        obtain ⟨a, nt, q, p, hT, h1, h2, h3, h4, h5, h6⟩ := hL
        obtain ⟨F1, rfl⟩ : ∃ F1, F = F1 + 1 := ⟨F - 1, by have := hT.1.2.2.2.1; have := hT.1.2.2.2.2.1; have := hF c83; omega⟩
        obtain ⟨f2, hL2, hf2⟩ := LI_line (n := n) (f := f) ⟨a, nt, q, p, hT, h1, h2, h3, h4, h5, h6⟩
        have hfa : f < n := by have := hT.1.2.2.2.2.1; have := hT.2.resolve_left c90; omega
        have hFe := hF c83
        refine j_mV 97 C dX11_text_94 rfl cw11_234 rfl (c_readLine hT h1 h2 h3 h4 h5 h6) rfl (by decide) rfl (Nat.le_of_ble_eq_true rfl) ?_
        refine j_goto 79 C dX11_text_97 (by decide) ?_
        exact j_weak _ (by exact ⟨rfl, trivial⟩) (ilp79 F1 (by omega) F1 _ f2 rfl hL2 (fun z => by have := hf2 z; omega) (by rw [← hE, txL, if_pos ⟨c83, c90⟩]))
  have g75 : ∀ (u : Unit), J X 2 0 0 (mw o ad G.2.1 (txI M)) 75 [(0, .ref o)] [] := by
    intro u 
    refine j_aload_n 76 C dX11_text_75 rfl rfl ?_
    refine j_mV 79 C dX11_text_76 rfl cw11_160 rfl (c_advance (a := 0) rfl (by omega) (show (txI M).1 14 = nI n from hM) hn9) rfl (by decide) rfl (Nat.le_of_ble_eq_true rfl) ?_
    refine j_ws (mw o ad G.2.1 (adM (txI M))) (by rw [adM, show (txI M).1 14 = nI n from hM, tn_nI (by omega), show (txI M).1 15 = nI 0 from rfl, tn_nI (by omega)]) ?_
    obtain ⟨f, hL⟩ := LI_start hM hn9
    exact j_weak _ (by exact ⟨rfl, trivial⟩) (lp79 _ 901 _ f rfl hL (fun _ => by omega) rfl)
  have lp57 : ∀ (m : Nat) (k : Nat), 4 - k = m → k ≤ 4 → J X 2 0 0 (mw o ad G.2.1 (aR (sS (aR (txS M) 21 h00) 22 (nI 0)) 23 (fz ((sS (aR (txS M) 21 h00) 22 (nI 0)).2.1 23) k))) 57 [(0, .ref o), (1, .int (nI k))] [] := by
    intro m
    induction m using Nat.strongRecOn with
    | ind m ilp57 =>
    intro k hm hk
    refine j_iload_n 58 C dX11_text_57 rfl rfl ?_
    refine j_iconst 59 C dX11_text_58 rfl (v := nI 4) (by decide) ?_
    refine j_icmp_geN 75 62 C dX11_text_59 (by decide) rfl (by omega) (by omega) (fun c59 => ?_) (fun c59 => ?_)
    · rw [show k = 4 by omega]
      refine j_exti 12 rfl (f' := h00) (fun j hj => if_pos (by omega)) rfl ?_
      refine j_ws (mw o ad G.2.1 (txI M)) rfl ?_
      exact j_weak _ (by exact ⟨rfl, trivial⟩) (g75 ())
    · refine j_aload_n 63 C dX11_text_62 rfl rfl ?_
      refine rg_leanTold 66 C dX11_text_63 rfl ?_
      refine j_iload_n 67 C dX11_text_66 rfl rfl ?_
      refine j_iconst 68 C dX11_text_67 rfl (v := nI 0) (by decide) ?_
      refine rs_leanTold 69 C dX11_text_68 rfl _ (by omega) rfl ?_
      rw [show vp_nar .boolean (nI 0) = nI 0 from rfl, aS_aR, fz_step]
      refine j_iincN 72 (z := 1) C dX11_text_69 rfl rfl rfl (by decide) ?_
      refine j_goto 57 C dX11_text_72 (by decide) ?_
      exact j_weak _ (by exact ⟨rfl, rfl, trivial⟩) (ilp57 _ (by omega) (k + 1) rfl (by omega))
  have g50 : ∀ (u : Unit), J X 2 0 0 (mw o ad G.2.1 (aR (txS M) 21 h00)) 50 [(0, .ref o)] [] := by
    intro u 
    refine j_aload_n 51 C dX11_text_50 rfl rfl ?_
    refine j_iconst 52 C dX11_text_51 rfl (v := nI 0) (by decide) ?_
    refine rp_holdTold 55 C dX11_text_52 rfl rfl rfl ?_
    refine j_iconst 56 C dX11_text_55 rfl (v := nI 0) (by decide) ?_
    refine j_istore_n 57 C dX11_text_56 rfl rfl (by decide) ?_
    refine j_ws (mw o ad G.2.1 (aR (sS (aR (txS M) 21 h00) 22 (nI 0)) 23 (fz ((sS (aR (txS M) 21 h00) 22 (nI 0)).2.1 23) 0))) (by rw [fz_0, aR_self]) ?_
    exact j_weak _ (by exact ⟨rfl, rfl, trivial⟩) (lp57 _ 0 rfl (Nat.zero_le _))
  have lp30 : ∀ (m : Nat) (k : Nat), 1120 - k = m → k ≤ 1120 → J X 2 0 0 (mw o ad G.2.1 (aR (txS M) 21 (fz ((txS M).2.1 21) k))) 30 [(0, .ref o), (1, .int (nI k))] [] := by
    intro m
    induction m using Nat.strongRecOn with
    | ind m ilp30 =>
    intro k hm hk
    refine j_iload_n 31 C dX11_text_30 rfl rfl ?_
    refine j_sipush 34 C dX11_text_31 rfl (v := nI 1120) (by decide) ?_
    refine j_icmp_geN 50 37 C dX11_text_34 (by decide) rfl (by omega) (by omega) (fun c34 => ?_) (fun c34 => ?_)
    · rw [show k = 1120 by omega]
      refine j_exti 11 rfl (f' := h00) (fun j hj => if_pos (by omega)) rfl ?_
      refine j_ws (mw o ad G.2.1 (aR (txS M) 21 h00)) rfl ?_
      exact j_weak _ (by exact ⟨rfl, trivial⟩) (g50 ())
    · refine j_aload_n 38 C dX11_text_37 rfl rfl ?_
      refine rg_fresh 41 C dX11_text_38 rfl ?_
      refine j_iload_n 42 C dX11_text_41 rfl rfl ?_
      refine j_iconst 43 C dX11_text_42 rfl (v := nI 0) (by decide) ?_
      refine rs_fresh 44 C dX11_text_43 rfl _ (by omega) rfl ?_
      rw [aS_aR, fz_step]
      refine j_iincN 47 (z := 1) C dX11_text_44 rfl rfl rfl (by decide) ?_
      refine j_goto 30 C dX11_text_47 (by decide) ?_
      exact j_weak _ (by exact ⟨rfl, rfl, trivial⟩) (ilp30 _ (by omega) (k + 1) rfl (by omega))
  refine j_aload_n 1 C dX11_text_0 rfl rfl ?_
  refine j_aload_n 2 C dX11_text_1 rfl rfl ?_
  refine rg_taped 5 C dX11_text_2 rfl ?_
  refine rp_size 8 C dX11_text_5 rfl ?_
  refine j_aload_n 9 C dX11_text_8 rfl rfl ?_
  refine j_iconst 10 C dX11_text_9 rfl (v := nI 0) (by decide) ?_
  refine rp_taped 13 C dX11_text_10 rfl ?_
  refine j_aload_n 14 C dX11_text_13 rfl rfl ?_
  refine j_iconst 15 C dX11_text_14 rfl (v := nI 0) (by decide) ?_
  refine rp_at 18 C dX11_text_15 rfl ?_
  refine j_aload_n 19 C dX11_text_18 rfl rfl ?_
  refine j_iconst 20 C dX11_text_19 rfl (v := nI 0) (by decide) ?_
  refine rp_faultKind 23 C dX11_text_20 rfl ?_
  refine j_aload_n 24 C dX11_text_23 rfl rfl ?_
  refine j_iconst 25 C dX11_text_24 rfl (v := (-1)) (by decide) ?_
  refine rp_faultPlace 28 C dX11_text_25 rfl ?_
  refine j_iconst 29 C dX11_text_28 rfl (v := nI 0) (by decide) ?_
  refine j_istore_n 30 C dX11_text_29 rfl rfl (by decide) ?_
  refine j_ws (mw o ad G.2.1 (aR (txS M) 21 (fz ((txS M).2.1 21) 0))) (by rw [fz_0, aR_self]; rfl) ?_
  exact j_weak _ (by exact ⟨rfl, rfl, trivial⟩) (lp30 _ 0 rfl (Nat.zero_le _))
end S27
