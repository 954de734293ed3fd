theorem rl_no1 {M : MS} {w p n : Nat} (h : srt M = -1 ∨ (w = 2 ∧ ¬ srt M = 0)) : rlM M w p n = erM M (nI 1) := by
  have e1 : rl1 M w = erM M (nI 1) := if_pos h
  have e2 : rl2 M w = erM M (nI 1) := by unfold rl2; rw [e1, if_neg (fun z => er_19 (by decide) z.1)]
  unfold rlM; rw [e2, if_neg (er_19 (by decide))]
theorem rl_no2 {M : MS} {w p n : Nat} (h : ¬ (srt M = -1 ∨ (w = 2 ∧ ¬ srt M = 0))) (h19 : M.1 19 = 0) (h2 : ¬ M.2.1 21 (202 + 2 * tn (rlI M w) + 1) ≤ 0) : rlM M w p n = erM M (nI 2) := by
  have e1 : rl1 M w = M := if_neg h
  have e2 : rl2 M w = erM M (nI 2) := by unfold rl2; rw [e1, if_pos ⟨h19, h2⟩]
  unfold rlM; rw [e2, if_neg (er_19 (by decide))]
theorem rl_eq {M : MS} {w p n : Nat} (h : ¬ (srt M = -1 ∨ (w = 2 ∧ ¬ srt M = 0))) (h19 : M.1 19 = 0) (h2 : M.2.1 21 (202 + 2 * tn (rlI M w) + 1) ≤ 0) : rlM M w p n = if (rlF n (rl5 M p)).1 19 = 0 then rlZ (rlF n (rl5 M p)) (tn (rlI M w)) p else rlF n (rl5 M p) := by
  have e1 : rl1 M w = M := if_neg h
  have e2 : rl2 M w = M := by unfold rl2; rw [e1, if_neg (fun z => z.2 h2)]
  unfold rlM; rw [e2, if_pos h19]
theorem sL_l : ∀ w, w < 7 → 3 ≤ sL (wI w) := by decide +kernel
section SQ5
variable {l : Launch} {G : GG} {tp : Nat → Int32} {n c j p w : Nat} {M : MS} {zp zt zr zk : Nat → Nat} {Sp St Sr Sk : MS}
set_option maxHeartbeats 1000000 in
theorem K4_takesLaw (hP : PT tp n Sk c M j Sp) (hL : LR M St Sr Sp p) (h5 : 5 * p ≤ lxF tp n (pz tp n j)) (hw : w < 3) (hk : Sp.1 6 = nI (4 + w)) : Con l G yX4_takesLaw cX4_takesLaw 4 (some .boolean) 5 0 0 [.ref (zp 50), .int (nI w)] (pBk zp (zt 50) (zr 50) (zk 50) G.2.1 Sp ++ (tBk zt G.2.1 St ++ (rBk zr G.2.1 Sr ++ (kBk zk G.2.1 Sk)))) (qI (fun s : MS × MS × MS => (pBk zp (zt 50) (zr 50) (zk 50) G.2.1 s.1 ++ (tBk zt G.2.1 s.2.1 ++ (rBk zr G.2.1 s.2.2 ++ (kBk zk G.2.1 Sk))))) (fun x s => PQ tp n Sk c (lxF tp n (pz tp n j)) (lineN M n) x s.2.1 s.2.2 s.1)) := by
  refine Con.mk (own := RX4) (by decide) rfl (Nat.le_of_ble_eq_true rfl) (fun X C => ?_)
  have h19 := hP.2.2.1
  obtain ⟨hv, hj0, hl0⟩ := PT_w hP hk (by omega)
  have hfl := (lxE_le (tp := tp) (pz_le tp n j)); have hn9 := hP.1.2.2.1
  have hl0 := hl0 (by omega); have hl0s := sL_l (4 + w) (by omega)
  obtain ⟨-, -, n2⟩ : p ≤ 180 ∧ _ := (LR_np hL).resolve_right (by omega)
  have eN : lineN M n = lnT2 (rlM (adM M) w p n) := by
    rw [line_ok h19 (lnX_of hv (by omega) (fun z => by omega) (fun z => by omega) (fun z => by omega)), lnY_3 hv (by omega) (by omega), hL.2.1.2, tn_nI (by omega), show 4 + w - 4 = w by omega]
  refine j_aload_n 1 C dX4_takesLaw_0 rfl rfl ?_
  refine Lzx_AV 4 C dX4_takesLaw_1 rfl cw4_97 rfl (K4_adP hP) rfl (by decide) ⟨Nat.le_refl _, Nat.le_refl _⟩ rfl (Nat.le_of_ble_eq_true rfl) ?_
  have hP1 := PT_ad hP hj0
  have hn1 := pz_next hP hj0
  obtain ⟨k1, hv1, he1, hl1⟩ := PT_v hP1
  have hsr := srt_v hv1
  refine j_aload_n 5 C dX4_takesLaw_4 rfl rfl ?_
  refine j_iconst 6 C dX4_takesLaw_5 rfl (v := nI 0) (by decide) ?_
  refine j_iconst 7 C dX4_takesLaw_6 rfl (v := nI 4) (by decide) ?_
  refine Lzx_AI 10 C dX4_takesLaw_7 rfl cw4_112 rfl (K4_amP hv1 (by omega)) rfl (by decide) ⟨Nat.le_refl _, Nat.le_refl _⟩ rfl (Nat.le_of_ble_eq_true rfl) ?_
  refine j_istore_n 11 C dX4_takesLaw_10 rfl rfl (by decide) ?_
  refine j_iload_n 12 C dX4_takesLaw_11 rfl rfl ?_
  refine j_iconst 13 C dX4_takesLaw_12 rfl (v := (-1)) (by decide) ?_
  refine j_icmp_eq 25 16 C dX4_takesLaw_13 (by decide) rfl (fun c13 => ?_) (fun c13 => ?_)
  · refine j_aload_n 26 C dX4_takesLaw_25 rfl rfl ?_
    refine j_iconst 27 C dX4_takesLaw_26 rfl (v := nI 1) (by decide) ?_
    refine Lzx_AI 30 C dX4_takesLaw_27 rfl cw4_93 rfl (K4_rfP hP1) rfl (by decide) ⟨Nat.le_refl _, Nat.le_refl _⟩ rfl (Nat.le_of_ble_eq_true rfl) ?_
    have hb : BD (lineN M n) (rfS (avS Sp Sk (j) (c + 1)) Sk (nI 1) (j + 1)) := by
      have hk4 : ¬ k1 < 4 := fun z => nI_nmO (q := k1 - 0) (by omega) ((if_pos (show 0 ≤ k1 ∧ k1 < 0 + 4 by omega)).symm.trans c13)
      rw [if_neg hk4] at hsr
      rw [eN, rl_no1 (Or.inl hsr), T2_bad (er_19 (by decide))]; exact BD_er hP1 (by decide)
    exact j_zret C dX4_takesLaw_30 rfl ⟨_, ((rfS (avS Sp Sk (j) (c + 1)) Sk (nI 1) (j + 1)), St, Sr), Or.inr ⟨rfl, hb⟩, rfl, rfl⟩
  · have hk4 : k1 < 4 := Decidable.byContradiction fun z => c13 (if_neg (by omega))
    rw [if_pos (show 0 ≤ k1 ∧ k1 < 0 + 4 by omega), Nat.sub_zero]
    rw [if_pos hk4] at hsr
    have hj1 : ¬ j + 1 = c := fun z => by have := he1.mpr z; omega
    have hl1 := hl1 k1 (by omega) rfl
    have hl1s := sL_l k1 (by omega)
    refine j_iload_n 17 C dX4_takesLaw_16 rfl rfl ?_
    refine j_iconst 18 C dX4_takesLaw_17 rfl (v := nI 2) (by decide) ?_
    refine j_icmp_neN 31 21 C dX4_takesLaw_18 (by decide) rfl (by omega) (by omega) (fun c18 => ?_) (fun c18 => ?_)
    · have hmx : ¬ (w = 2 ∧ ¬ k1 = 0) := fun z => c18 z.1
      have hL9 : (w * 4 + k1) < 9 := by omega
      have hI : tn (rlI (adM M) w) = (w * 4 + k1) := by
        unfold rlI
        by_cases z : w = 2
        · rw [if_pos z, tn_nI (by omega)]; omega
        · rw [if_neg z, hsr, nI_pl, tn_nI (by omega)]; omega
      have hgo : ¬ (srt (adM M) = -1 ∨ (w = 2 ∧ ¬ srt (adM M) = 0)) := fun z => z.elim (fun z => nI_nmO (q := k1) (by omega) (hsr.symm.trans z)) (fun z => hmx ⟨z.1, fun q => z.2 (by rw [hsr, q]; rfl)⟩)
      obtain ⟨b, m, g1, g2, g3, g4, g5, g6⟩ := n2 (w * 4 + k1) hL9
      have g2' : (adM M).2.1 21 (202 + 2 * tn (rlI (adM M) w) + 1) = nI m := by rw [hI, adM_2]; exact g2
      refine j_iload_n 32 C dX4_takesLaw_31 rfl rfl ?_
      refine j_iload_n 33 C dX4_takesLaw_32 rfl rfl ?_
      refine j_sIN 36 C dX4_takesLaw_33 rfl cw4_162 cs4_162 K10_lawOf rfl (by decide) ⟨Nat.le_refl _, Nat.le_refl _⟩ rfl (Nat.le_of_ble_eq_true rfl) ?_
      refine j_istore_n 37 C dX4_takesLaw_36 rfl rfl (by decide) ?_
      refine j_aload_n 38 C dX4_takesLaw_37 rfl rfl ?_
      refine Lzg_p0 41 C dX4_takesLaw_38 rfl fl4_12 ?_
      refine j_iload_n 42 C dX4_takesLaw_41 rfl rfl ?_
      refine Lzx_tI 45 C dX4_takesLaw_42 rfl cw4_165 rfl (K8_hasLaw (by omega) g4 g5 (by omega) (by omega)) rfl (by decide) ⟨Nat.le_refl _, Nat.le_refl _⟩ rfl (Nat.le_of_ble_eq_true rfl) ?_
      refine j_if_eqB 54 48 C dX4_takesLaw_45 (by decide) rfl (fun c45 => ?_) (fun c45 => ?_)
      · have hm0 : m = 0 := by omega
        have eL : rlM (adM M) w p n = if (rlF n (rl5 (adM M) p)).1 19 = 0 then rlZ (rlF n (rl5 (adM M) p)) (w * 4 + k1) p else rlF n (rl5 (adM M) p) := by
          rw [rl_eq hgo hP1.2.2.1 (by rw [g2', hm0]; decide), hI]
        have hP2 := PT_ad hP1 hj1
        have hn2 := pz_next hP1 hj1
        refine j_aload_n 55 C dX4_takesLaw_54 rfl rfl ?_
        refine Lzx_AV 58 C dX4_takesLaw_55 rfl cw4_97 rfl (K4_adP hP1) rfl (by decide) ⟨Nat.le_refl _, Nat.le_refl _⟩ rfl (Nat.le_of_ble_eq_true rfl) ?_
        refine j_aload_n 59 C dX4_takesLaw_58 rfl rfl ?_
        refine j_bipush 61 C dX4_takesLaw_59 rfl (v := nI 20) (by decide) ?_
        refine Lzx_AI 64 C dX4_takesLaw_61 rfl cw4_122 rfl (K4_tkP hP2) rfl (by decide) ⟨Nat.le_refl _, Nat.le_refl _⟩ rfl (Nat.le_of_ble_eq_true rfl) ?_
        refine j_if_eqB 88 67 C dX4_takesLaw_64 (by decide) rfl (fun c64 => ?_) (fun c64 => ?_)
        · rw [if_neg c64]
          refine j_iconst 89 C dX4_takesLaw_88 rfl (v := nI 0) (by decide) ?_
          have hb : BD (lineN M n) (rfS (avS (avS Sp Sk (j) (c + 1)) Sk (j + 1) (c + 1)) Sk (nI 1) (j + 1 + 1)) := by
            obtain ⟨k2, hv2, -⟩ := PT_v hP2
            have e13 : nwM (adM (adM M)) 13 = erM (adM (adM M)) (nI 1) := nwM_no (w := 20) hv2 (by omega) (fun z => c64 ((PV_eq hv2 (by omega)).mpr z))
            have e5 : rl5 (adM M) p = erM (adM (adM M)) (nI 1) := by unfold rl5; rw [e13, pr_bad (er_19 (by decide))]
            rw [e5, rlF_bad (er_19 (by decide)), if_neg (er_19 (by decide))] at eL
            rw [eN, eL, T2_bad (er_19 (by decide))]; exact BD_er hP2 (by decide)
          exact j_zret C dX4_takesLaw_89 rfl ⟨_, ((rfS (avS (avS Sp Sk (j) (c + 1)) Sk (j + 1) (c + 1)) Sk (nI 1) (j + 1 + 1)), St, Sr), Or.inr ⟨rfl, hb⟩, rfl, rfl⟩
        · rw [if_pos c64]
          obtain ⟨hv2, hj2, -⟩ := PT_w hP2 c64 (by omega)
          have hP3 := PT_ad hP2 hj2
          have hn3 := pz_next hP2 hj2
          have e5 : rl5 (adM M) p = prM (adM (adM (adM M))) (nI 0) p := by unfold rl5; rw [show nwM (adM (adM M)) 13 = adM (adM (adM M)) from nwM_ok (w := 20) hv2 (by omega) rfl]
          rw [e5] at eL
          refine j_aload_n 68 C dX4_takesLaw_67 rfl rfl ?_
          refine j_iload_n 69 C dX4_takesLaw_68 rfl rfl ?_
          refine Lzr_YI 72 C dX4_takesLaw_69 rfl cw4_168 rfl (K4_takesSum (p := p) hP3 hL.2.1.1 (by rw [adM_2, adM_2, adM_2]; exact hL.2.1.2) (by omega) (by omega)) rfl (by decide) ⟨Nat.le_refl _, Nat.le_refl _⟩ rfl (Nat.le_of_ble_eq_true rfl) (fun x69 s69 h69 => ?_)
          refine j_if_eq 88 75 C dX4_takesLaw_72 (by decide) rfl (fun c72 => ?_) (fun c72 => ?_)
          · refine j_iconst 89 C dX4_takesLaw_88 rfl (v := nI 0) (by decide) ?_
            have hb : BD (lineN M n) s69.1 := by
              have hb := (h69.resolve_left (fun z => absurd (z.1.symm.trans c72) (by decide))).2
              rw [if_neg hb.1] at eL
              rw [eN, eL, T2_bad hb.1]; exact hb
            exact j_zret C dX4_takesLaw_89 rfl ⟨_, (s69.1, s69.2, Sr), Or.inr ⟨rfl, hb⟩, rfl, rfl⟩
          · obtain ⟨j3, p3, q1, q2, q3, q4, q5, q6, q7⟩ := (h69.resolve_right (fun z => c72 z.1)).2
            have hfl3 := (lxE_le (tp := tp) (pz_le tp n j3))
            rw [if_pos q1.2.2.1] at eL
            have hQ : PT tp n Sk c (rlZ (rlF n (prM (adM (adM (adM M))) (nI 0) p)) (w * 4 + k1) p) j3 s69.1 := PT_aS (PT_aS q1 (by decide)) (by decide)
            have hZ : LR (rlZ (rlF n (prM (adM (adM (adM M))) (nI 0) p)) (w * 4 + k1) p) s69.2 Sr s69.1 p3 := LM_z (LR_ad (Sk := Sk) (j := j + 1 + 1) (c := c + 1) (LR_ad (Sk := Sk) (j := j + 1) (c := c + 1) (LR_ad (Sk := Sk) (j := j) (c := c + 1) hL))) q2 q3 (by omega) hL9 q6 (by rw [q7])
            have hS := PQ_semi (f0 := lxF tp n (pz tp n j)) hQ hZ q4 (by omega)
            refine j_aload_n 76 C dX4_takesLaw_75 rfl rfl ?_
            refine j_bipush 78 C dX4_takesLaw_76 rfl (v := nI 22) (by decide) ?_
            refine Lzx_AI 81 C dX4_takesLaw_78 rfl cw4_122 rfl (K4_tkP hQ) rfl (by decide) ⟨Nat.le_refl _, Nat.le_refl _⟩ rfl (Nat.le_of_ble_eq_true rfl) ?_
            refine j_bool_if_eqB 89 C dX4_takesLaw_81 rfl dX4_takesLaw_84 dX4_takesLaw_85 dX4_takesLaw_88 rfl ?_
            have hq : PQ tp n Sk c (lxF tp n (pz tp n j)) (lineN M n) (bI (s69.1.1 6 = nI 22)) s69.2 Sr (if s69.1.1 6 = nI 22 then (avS s69.1 Sk (j3) (c + 1)) else (rfS s69.1 Sk (nI 1) (j3))) := by
              rw [eN, eL]; exact hS
            exact j_zret C dX4_takesLaw_89 (bI_nar _) ⟨_, ((if s69.1.1 6 = nI 22 then (avS s69.1 Sk (j3) (c + 1)) else (rfS s69.1 Sk (nI 1) (j3))), s69.2, Sr), hq, rfl, rfl⟩
      · refine j_aload_n 49 C dX4_takesLaw_48 rfl rfl ?_
        refine j_iconst 50 C dX4_takesLaw_49 rfl (v := nI 2) (by decide) ?_
        refine Lzx_AI 53 C dX4_takesLaw_50 rfl cw4_93 rfl (K4_rfP hP1) rfl (by decide) ⟨Nat.le_refl _, Nat.le_refl _⟩ rfl (Nat.le_of_ble_eq_true rfl) ?_
        have hb : BD (lineN M n) (rfS (avS Sp Sk (j) (c + 1)) Sk (nI 2) (j + 1)) := by
          rw [eN, rl_no2 hgo hP1.2.2.1 (by rw [g2']; exact Int32.not_le.mpr (nI_lt (a := 0) (by omega) (by omega))), T2_bad (er_19 (by decide))]; exact BD_er hP1 (by decide)
        exact j_zret C dX4_takesLaw_53 rfl ⟨_, ((rfS (avS Sp Sk (j) (c + 1)) Sk (nI 2) (j + 1)), St, Sr), Or.inr ⟨rfl, hb⟩, rfl, rfl⟩
    · refine j_iload_n 22 C dX4_takesLaw_21 rfl rfl ?_
      refine j_if_eqN 31 25 C dX4_takesLaw_22 (by decide) rfl (by omega) (fun c22 => ?_) (fun c22 => ?_)
      · have hmx : ¬ (w = 2 ∧ ¬ k1 = 0) := fun z => z.2 c22
        have hL9 : (w * 4 + k1) < 9 := by omega
        have hI : tn (rlI (adM M) w) = (w * 4 + k1) := by
          unfold rlI
          by_cases z : w = 2
          · rw [if_pos z, tn_nI (by omega)]; omega
          · rw [if_neg z, hsr, nI_pl, tn_nI (by omega)]; omega
        have hgo : ¬ (srt (adM M) = -1 ∨ (w = 2 ∧ ¬ srt (adM M) = 0)) := fun z => z.elim (fun z => nI_nmO (q := k1) (by omega) (hsr.symm.trans z)) (fun z => hmx ⟨z.1, fun q => z.2 (by rw [hsr, q]; rfl)⟩)
        obtain ⟨b, m, g1, g2, g3, g4, g5, g6⟩ := n2 (w * 4 + k1) hL9
        have g2' : (adM M).2.1 21 (202 + 2 * tn (rlI (adM M) w) + 1) = nI m := by rw [hI, adM_2]; exact g2
        refine j_iload_n 32 C dX4_takesLaw_31 rfl rfl ?_
        refine j_iload_n 33 C dX4_takesLaw_32 rfl rfl ?_
        refine j_sIN 36 C dX4_takesLaw_33 rfl cw4_162 cs4_162 K10_lawOf rfl (by decide) ⟨Nat.le_refl _, Nat.le_refl _⟩ rfl (Nat.le_of_ble_eq_true rfl) ?_
        refine j_istore_n 37 C dX4_takesLaw_36 rfl rfl (by decide) ?_
        refine j_aload_n 38 C dX4_takesLaw_37 rfl rfl ?_
        refine Lzg_p0 41 C dX4_takesLaw_38 rfl fl4_12 ?_
        refine j_iload_n 42 C dX4_takesLaw_41 rfl rfl ?_
        refine Lzx_tI 45 C dX4_takesLaw_42 rfl cw4_165 rfl (K8_hasLaw (by omega) g4 g5 (by omega) (by omega)) rfl (by decide) ⟨Nat.le_refl _, Nat.le_refl _⟩ rfl (Nat.le_of_ble_eq_true rfl) ?_
        refine j_if_eqB 54 48 C dX4_takesLaw_45 (by decide) rfl (fun c45 => ?_) (fun c45 => ?_)
        · have hm0 : m = 0 := by omega
          have eL : rlM (adM M) w p n = if (rlF n (rl5 (adM M) p)).1 19 = 0 then rlZ (rlF n (rl5 (adM M) p)) (w * 4 + k1) p else rlF n (rl5 (adM M) p) := by
            rw [rl_eq hgo hP1.2.2.1 (by rw [g2', hm0]; decide), hI]
          have hP2 := PT_ad hP1 hj1
          have hn2 := pz_next hP1 hj1
          refine j_aload_n 55 C dX4_takesLaw_54 rfl rfl ?_
          refine Lzx_AV 58 C dX4_takesLaw_55 rfl cw4_97 rfl (K4_adP hP1) rfl (by decide) ⟨Nat.le_refl _, Nat.le_refl _⟩ rfl (Nat.le_of_ble_eq_true rfl) ?_
          refine j_aload_n 59 C dX4_takesLaw_58 rfl rfl ?_
          refine j_bipush 61 C dX4_takesLaw_59 rfl (v := nI 20) (by decide) ?_
          refine Lzx_AI 64 C dX4_takesLaw_61 rfl cw4_122 rfl (K4_tkP hP2) rfl (by decide) ⟨Nat.le_refl _, Nat.le_refl _⟩ rfl (Nat.le_of_ble_eq_true rfl) ?_
          refine j_if_eqB 88 67 C dX4_takesLaw_64 (by decide) rfl (fun c64 => ?_) (fun c64 => ?_)
          · rw [if_neg c64]
            refine j_iconst 89 C dX4_takesLaw_88 rfl (v := nI 0) (by decide) ?_
            have hb : BD (lineN M n) (rfS (avS (avS Sp Sk (j) (c + 1)) Sk (j + 1) (c + 1)) Sk (nI 1) (j + 1 + 1)) := by
              obtain ⟨k2, hv2, -⟩ := PT_v hP2
              have e13 : nwM (adM (adM M)) 13 = erM (adM (adM M)) (nI 1) := nwM_no (w := 20) hv2 (by omega) (fun z => c64 ((PV_eq hv2 (by omega)).mpr z))
              have e5 : rl5 (adM M) p = erM (adM (adM M)) (nI 1) := by unfold rl5; rw [e13, pr_bad (er_19 (by decide))]
              rw [e5, rlF_bad (er_19 (by decide)), if_neg (er_19 (by decide))] at eL
              rw [eN, eL, T2_bad (er_19 (by decide))]; exact BD_er hP2 (by decide)
            exact j_zret C dX4_takesLaw_89 rfl ⟨_, ((rfS (avS (avS Sp Sk (j) (c + 1)) Sk (j + 1) (c + 1)) Sk (nI 1) (j + 1 + 1)), St, Sr), Or.inr ⟨rfl, hb⟩, rfl, rfl⟩
          · rw [if_pos c64]
            obtain ⟨hv2, hj2, -⟩ := PT_w hP2 c64 (by omega)
            have hP3 := PT_ad hP2 hj2
            have hn3 := pz_next hP2 hj2
            have e5 : rl5 (adM M) p = prM (adM (adM (adM M))) (nI 0) p := by unfold rl5; rw [show nwM (adM (adM M)) 13 = adM (adM (adM M)) from nwM_ok (w := 20) hv2 (by omega) rfl]
            rw [e5] at eL
            refine j_aload_n 68 C dX4_takesLaw_67 rfl rfl ?_
            refine j_iload_n 69 C dX4_takesLaw_68 rfl rfl ?_
            refine Lzr_YI 72 C dX4_takesLaw_69 rfl cw4_168 rfl (K4_takesSum (p := p) hP3 hL.2.1.1 (by rw [adM_2, adM_2, adM_2]; exact hL.2.1.2) (by omega) (by omega)) rfl (by decide) ⟨Nat.le_refl _, Nat.le_refl _⟩ rfl (Nat.le_of_ble_eq_true rfl) (fun x69 s69 h69 => ?_)
            refine j_if_eq 88 75 C dX4_takesLaw_72 (by decide) rfl (fun c72 => ?_) (fun c72 => ?_)
            · refine j_iconst 89 C dX4_takesLaw_88 rfl (v := nI 0) (by decide) ?_
              have hb : BD (lineN M n) s69.1 := by
                have hb := (h69.resolve_left (fun z => absurd (z.1.symm.trans c72) (by decide))).2
                rw [if_neg hb.1] at eL
                rw [eN, eL, T2_bad hb.1]; exact hb
              exact j_zret C dX4_takesLaw_89 rfl ⟨_, (s69.1, s69.2, Sr), Or.inr ⟨rfl, hb⟩, rfl, rfl⟩
            · obtain ⟨j3, p3, q1, q2, q3, q4, q5, q6, q7⟩ := (h69.resolve_right (fun z => c72 z.1)).2
              have hfl3 := (lxE_le (tp := tp) (pz_le tp n j3))
              rw [if_pos q1.2.2.1] at eL
              have hQ : PT tp n Sk c (rlZ (rlF n (prM (adM (adM (adM M))) (nI 0) p)) (w * 4 + k1) p) j3 s69.1 := PT_aS (PT_aS q1 (by decide)) (by decide)
              have hZ : LR (rlZ (rlF n (prM (adM (adM (adM M))) (nI 0) p)) (w * 4 + k1) p) s69.2 Sr s69.1 p3 := LM_z (LR_ad (Sk := Sk) (j := j + 1 + 1) (c := c + 1) (LR_ad (Sk := Sk) (j := j + 1) (c := c + 1) (LR_ad (Sk := Sk) (j := j) (c := c + 1) hL))) q2 q3 (by omega) hL9 q6 (by rw [q7])
              have hS := PQ_semi (f0 := lxF tp n (pz tp n j)) hQ hZ q4 (by omega)
              refine j_aload_n 76 C dX4_takesLaw_75 rfl rfl ?_
              refine j_bipush 78 C dX4_takesLaw_76 rfl (v := nI 22) (by decide) ?_
              refine Lzx_AI 81 C dX4_takesLaw_78 rfl cw4_122 rfl (K4_tkP hQ) rfl (by decide) ⟨Nat.le_refl _, Nat.le_refl _⟩ rfl (Nat.le_of_ble_eq_true rfl) ?_
              refine j_bool_if_eqB 89 C dX4_takesLaw_81 rfl dX4_takesLaw_84 dX4_takesLaw_85 dX4_takesLaw_88 rfl ?_
              have hq : PQ tp n Sk c (lxF tp n (pz tp n j)) (lineN M n) (bI (s69.1.1 6 = nI 22)) s69.2 Sr (if s69.1.1 6 = nI 22 then (avS s69.1 Sk (j3) (c + 1)) else (rfS s69.1 Sk (nI 1) (j3))) := by
                rw [eN, eL]; exact hS
              exact j_zret C dX4_takesLaw_89 (bI_nar _) ⟨_, ((if s69.1.1 6 = nI 22 then (avS s69.1 Sk (j3) (c + 1)) else (rfS s69.1 Sk (nI 1) (j3))), s69.2, Sr), hq, rfl, rfl⟩
        · refine j_aload_n 49 C dX4_takesLaw_48 rfl rfl ?_
          refine j_iconst 50 C dX4_takesLaw_49 rfl (v := nI 2) (by decide) ?_
          refine Lzx_AI 53 C dX4_takesLaw_50 rfl cw4_93 rfl (K4_rfP hP1) rfl (by decide) ⟨Nat.le_refl _, Nat.le_refl _⟩ rfl (Nat.le_of_ble_eq_true rfl) ?_
          have hb : BD (lineN M n) (rfS (avS Sp Sk (j) (c + 1)) Sk (nI 2) (j + 1)) := by
            rw [eN, rl_no2 hgo hP1.2.2.1 (by rw [g2']; exact Int32.not_le.mpr (nI_lt (a := 0) (by omega) (by omega))), T2_bad (er_19 (by decide))]; exact BD_er hP1 (by decide)
          exact j_zret C dX4_takesLaw_53 rfl ⟨_, ((rfS (avS Sp Sk (j) (c + 1)) Sk (nI 2) (j + 1)), St, Sr), Or.inr ⟨rfl, hb⟩, rfl, rfl⟩
      · refine j_aload_n 26 C dX4_takesLaw_25 rfl rfl ?_
        refine j_iconst 27 C dX4_takesLaw_26 rfl (v := nI 1) (by decide) ?_
        refine Lzx_AI 30 C dX4_takesLaw_27 rfl cw4_93 rfl (K4_rfP hP1) rfl (by decide) ⟨Nat.le_refl _, Nat.le_refl _⟩ rfl (Nat.le_of_ble_eq_true rfl) ?_
        have hb : BD (lineN M n) (rfS (avS Sp Sk (j) (c + 1)) Sk (nI 1) (j + 1)) := by
          rw [eN, rl_no1 (Or.inr ⟨c18, fun z => absurd ((nI_eq (b := 0) (by omega) (by omega)).mp (hsr.symm.trans z)) (by omega)⟩), T2_bad (er_19 (by decide))]; exact BD_er hP1 (by decide)
        exact j_zret C dX4_takesLaw_30 rfl ⟨_, ((rfS (avS Sp Sk (j) (c + 1)) Sk (nI 1) (j + 1)), St, Sr), Or.inr ⟨rfl, hb⟩, rfl, rfl⟩
end SQ5
