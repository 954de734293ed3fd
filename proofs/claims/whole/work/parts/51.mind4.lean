section SM5
variable {l : Launch} {G : GG} {zm zh zt zr : Nat → Nat} {Sm Sh St Sr : MS} {wd hd : Nat → Int32} {hr td r i : Nat} {mu cl cv : Int32}
theorem K3_leaning {s a b : Nat} (hT : TT mu St wd) (hW : WF wd) (hH0 : HR wd Sh hd hr td) (h3 : Sm.1 3 = mu) (hs4 : s < 4) (ha : a < 24) (hb : b < if s = 3 then 12 else 24) : Con l G yX3_leaning cX3_leaning 4 (some .int) 3 0 0 [.ref (zm 50), .int (nI s), .int (nI a), .int (nI b)] (mBk zm (zt 50) (zr 50) (zh 50) G.2.1 Sm ++ (hBk zh G.2.1 Sh ++ (tBk zt G.2.1 St ++ (rBk zr G.2.1 Sr)))) (pI (wd (5 + s) * hd (f_link s a b)) (mBk zm (zt 50) (zr 50) (zh 50) G.2.1 Sm ++ (hBk zh G.2.1 Sh ++ (tBk zt G.2.1 St ++ (rBk zr G.2.1 Sr))))) := by
  refine Con.mk (own := RX3) (by decide) rfl (Nat.le_of_ble_eq_true rfl) (fun X C => ?_)
  obtain ⟨L, g, hH⟩ := hH0
  have hc := lk_lt hs4 ha hb
  have hl := hT.2.2.1 s hs4
  refine j_iload_n 1 C dX3_leaning_0 rfl rfl ?_
  refine j_aload_n 2 C dX3_leaning_1 rfl rfl ?_
  refine Lmg_m3 5 C dX3_leaning_2 rfl fl3_18 ?_
  refine j_icmp_ne 12 8 C dX3_leaning_5 (by decide) rfl (fun c5 => ?_) (fun c5 => ?_)
  · refine j_aload_n 13 C dX3_leaning_12 rfl rfl ?_
    refine Lmg_m0 16 C dX3_leaning_13 rfl fl3_25 ?_
    refine Lmg_t4 19 C dX3_leaning_16 rfl fl3_138 ?_
    refine j_iload_n 20 C dX3_leaning_19 rfl rfl ?_
    refine Lma_t4 21 C dX3_leaning_20 rfl _ (by omega) rfl ?_
    refine j_aload_n 22 C dX3_leaning_21 rfl rfl ?_
    refine Lmg_m2 25 C dX3_leaning_22 rfl fl3_12 ?_
    refine j_iload_n 26 C dX3_leaning_25 rfl rfl ?_
    refine j_iload_n 27 C dX3_leaning_26 rfl rfl ?_
    refine j_iload_n 28 C dX3_leaning_27 rfl rfl ?_
    refine j_sI 31 C dX3_leaning_28 rfl cw3_41 (K2_cellOf hs4) rfl (by decide) ⟨Nat.le_refl _, Nat.le_refl _⟩ rfl (Nat.le_of_ble_eq_true rfl) ?_
    refine Lmx_hI 34 C dX3_leaning_31 rfl cw3_53 rfl (K2_strengthAt hH.1 hc) rfl (by decide) ⟨Nat.le_refl _, Nat.le_refl _⟩ rfl (Nat.le_of_ble_eq_true rfl) ?_
    refine j_imul 35 C dX3_leaning_34 rfl ?_
    exact j_iret C dX3_leaning_35 ⟨by rw [hl.1, if_neg (fun z => c5 (z.symm.trans h3.symm)), hH.2.1 _ hc], rfl⟩
  · refine j_iconst 9 C dX3_leaning_8 rfl (v := nI 0) (by decide) ?_
    refine j_goto 35 C dX3_leaning_9 (by decide) ?_
    exact j_iret C dX3_leaning_35 ⟨by rw [hl.1, if_pos ((c5.trans h3).symm), show nI 0 = 0 from rfl, Int32.zero_mul], rfl⟩
theorem K3_supportOf (hT : TT mu St wd) (hR : RR Sr wd) (hW : WF wd) (hH0 : HR wd Sh hd hr td) (h3 : Sm.1 3 = mu) (hrw : r < nrw wd) (hi : i < len wd r) : Con l G yX3_supportOf cX3_supportOf 6 (some .int) 4 0 0 [.ref (zm 50), .int (nI r), .int (nI i)] (mBk zm (zt 50) (zr 50) (zh 50) G.2.1 Sm ++ (hBk zh G.2.1 Sh ++ (tBk zt G.2.1 St ++ (rBk zr G.2.1 Sr)))) (pI (f_sup wd hd r i) (mBk zm (zt 50) (zr 50) (zh 50) G.2.1 Sm ++ (hBk zh G.2.1 Sh ++ (tBk zt G.2.1 St ++ (rBk zr G.2.1 Sr))))) := by
  refine Con.mk (own := RX3) (by decide) rfl (Nat.le_of_ble_eq_true rfl) (fun X C => ?_)
  obtain ⟨hl2, hl12, hr12, hn24⟩ := WF_len hW hrw
  have ht0 := WF_th hW hrw hi
  refine j_aload_n 1 C dX3_supportOf_0 rfl rfl ?_
  refine Lmg_m1 4 C dX3_supportOf_1 rfl fl3_29 ?_
  refine j_iload_n 5 C dX3_supportOf_4 rfl rfl ?_
  refine j_iload_n 6 C dX3_supportOf_5 rfl rfl ?_
  refine Lmx_rI 9 C dX3_supportOf_6 rfl cw3_96 rfl (K5_thingAt (by omega)) rfl (by decide) ⟨Nat.le_refl _, Nat.le_refl _⟩ rfl (Nat.le_of_ble_eq_true rfl) ?_
  refine j_top (RR_th hR hW hrw (i := i) (by omega)) ?_
  refine j_istore_n 10 C dX3_supportOf_9 rfl rfl (by decide) ?_
  refine j_aload_n 11 C dX3_supportOf_10 rfl rfl ?_
  refine j_iconst 12 C dX3_supportOf_11 rfl (v := nI 3) (by decide) ?_
  refine j_iload_n 13 C dX3_supportOf_12 rfl rfl ?_
  refine j_iload_n 14 C dX3_supportOf_13 rfl rfl ?_
  refine Lmx_AI 17 C dX3_supportOf_14 rfl cw3_135 rfl (K3_leaning hT hW hH0 h3 (by omega) (by omega) (by rw [if_pos rfl]; omega)) rfl (by decide) ⟨Nat.le_refl _, Nat.le_refl _⟩ rfl (Nat.le_of_ble_eq_true rfl) ?_
  refine j_istore 19 C dX3_supportOf_17 rfl rfl (by decide) ?_
  refine j_iload_n 20 C dX3_supportOf_19 rfl rfl ?_
  refine j_iconst 21 C dX3_supportOf_20 rfl (v := nI 1) (by decide) ?_
  refine j_icmp_ltN 68 24 C dX3_supportOf_21 (by decide) rfl (by omega) (by omega) (fun c21 => ?_) (fun c21 => ?_)
  · refine j_iload 70 C dX3_supportOf_68 rfl rfl ?_
    refine j_bipush 72 C dX3_supportOf_70 rfl (v := nI 100) (by decide) ?_
    refine j_idiv 73 C dX3_supportOf_72 rfl (by decide) ?_
    exact j_iret C dX3_supportOf_73 ⟨by rw [f_sup, if_pos (by omega), f_supl], rfl⟩
  · have ht1 := WF_th hW hrw (i := i - 1) (by omega)
    refine j_aload_n 25 C dX3_supportOf_24 rfl rfl ?_
    refine Lmg_m1 28 C dX3_supportOf_25 rfl fl3_29 ?_
    refine j_iload_n 29 C dX3_supportOf_28 rfl rfl ?_
    refine j_iload_n 30 C dX3_supportOf_29 rfl rfl ?_
    refine j_iconst 31 C dX3_supportOf_30 rfl (v := nI 1) (by decide) ?_
    refine j_isubN 32 C dX3_supportOf_31 rfl (by omega) ?_
    refine Lmx_rI 35 C dX3_supportOf_32 rfl cw3_96 rfl (K5_thingAt (by omega)) rfl (by decide) ⟨Nat.le_refl _, Nat.le_refl _⟩ rfl (Nat.le_of_ble_eq_true rfl) ?_
    refine j_top (RR_th hR hW hrw (i := (i - 1)) (by omega)) ?_
    refine j_istore 37 C dX3_supportOf_35 rfl rfl (by decide) ?_
    refine j_iload 39 C dX3_supportOf_37 rfl rfl ?_
    refine j_aload_n 40 C dX3_supportOf_39 rfl rfl ?_
    refine j_iconst 41 C dX3_supportOf_40 rfl (v := nI 0) (by decide) ?_
    refine j_iload 43 C dX3_supportOf_41 rfl rfl ?_
    refine j_iload_n 44 C dX3_supportOf_43 rfl rfl ?_
    refine Lmx_AI 47 C dX3_supportOf_44 rfl cw3_135 rfl (K3_leaning hT hW hH0 h3 (by omega) (by omega) (by rw [if_neg (by omega)]; omega)) rfl (by decide) ⟨Nat.le_refl _, Nat.le_refl _⟩ rfl (Nat.le_of_ble_eq_true rfl) ?_
    refine j_aload_n 48 C dX3_supportOf_47 rfl rfl ?_
    refine j_iconst 49 C dX3_supportOf_48 rfl (v := nI 1) (by decide) ?_
    refine j_iload 51 C dX3_supportOf_49 rfl rfl ?_
    refine j_iload_n 52 C dX3_supportOf_51 rfl rfl ?_
    refine Lmx_AI 55 C dX3_supportOf_52 rfl cw3_135 rfl (K3_leaning hT hW hH0 h3 (by omega) (by omega) (by rw [if_neg (by omega)]; omega)) rfl (by decide) ⟨Nat.le_refl _, Nat.le_refl _⟩ rfl (Nat.le_of_ble_eq_true rfl) ?_
    refine j_iadd 56 C dX3_supportOf_55 rfl ?_
    refine j_aload_n 57 C dX3_supportOf_56 rfl rfl ?_
    refine j_iconst 58 C dX3_supportOf_57 rfl (v := nI 2) (by decide) ?_
    refine j_iload 60 C dX3_supportOf_58 rfl rfl ?_
    refine j_iload_n 61 C dX3_supportOf_60 rfl rfl ?_
    refine Lmx_AI 64 C dX3_supportOf_61 rfl cw3_135 rfl (K3_leaning hT hW hH0 h3 (by omega) (by omega) (by rw [if_neg (by omega)]; omega)) rfl (by decide) ⟨Nat.le_refl _, Nat.le_refl _⟩ rfl (Nat.le_of_ble_eq_true rfl) ?_
    refine j_iadd 65 C dX3_supportOf_64 rfl ?_
    refine j_iadd 66 C dX3_supportOf_65 rfl ?_
    refine j_istore 68 C dX3_supportOf_66 rfl rfl (by decide) ?_
    refine j_iload 70 C dX3_supportOf_68 rfl rfl ?_
    refine j_bipush 72 C dX3_supportOf_70 rfl (v := nI 100) (by decide) ?_
    refine j_idiv 73 C dX3_supportOf_72 rfl (by decide) ?_
    exact j_iret C dX3_supportOf_73 ⟨by rw [f_sup, if_neg (by omega), f_supl, f_supl, f_supl, f_supl, ← Int32.add_assoc, ← Int32.add_assoc], rfl⟩
theorem K3_supportOfAll (hT : TT mu St wd) (hR : RR Sr wd) (hW : WF wd) (hH0 : HR wd Sh hd hr td) (h3 : Sm.1 3 = mu) (hrw : r < nrw wd) : Con l G yX3_supportOfAll cX3_supportOfAll 4 (some .int) 5 0 0 [.ref (zm 50), .int (nI r)] (mBk zm (zt 50) (zr 50) (zh 50) G.2.1 Sm ++ (hBk zh G.2.1 Sh ++ (tBk zt G.2.1 St ++ (rBk zr G.2.1 Sr)))) (pI (f_left wd hd r (len wd r)) (mBk zm (zt 50) (zr 50) (zh 50) G.2.1 Sm ++ (hBk zh G.2.1 Sh ++ (tBk zt G.2.1 St ++ (rBk zr G.2.1 Sr))))) := by
  refine Con.mk (own := RX3) (by decide) rfl (Nat.le_of_ble_eq_true rfl) (fun X C => ?_)
  obtain ⟨hl2, hl12, hr12, hn24⟩ := WF_len hW hrw
  have lp4 : ∀ (m : Nat) (i : Nat) (x : Int32), len wd r - i = m → i ≤ len wd r → x = f_left wd hd r i → J X 4 0 0 (mBk zm (zt 50) (zr 50) (zh 50) G.2.1 Sm ++ (hBk zh G.2.1 Sh ++ (tBk zt G.2.1 St ++ (rBk zr G.2.1 Sr)))) 4 [(0, .ref (zm 50)), (1, .int (nI r)), (2, .int x), (3, .int (nI i))] [] := by
    intro m
    induction m using Nat.strongRecOn with
    | ind m ilp4 =>
    intro i x hm hi hx
    refine j_iload_n 5 C dX3_supportOfAll_4 rfl rfl ?_
    refine j_aload_n 6 C dX3_supportOfAll_5 rfl rfl ?_
    refine Lmg_m1 9 C dX3_supportOfAll_6 rfl fl3_29 ?_
    refine Lmg_r2 12 C dX3_supportOfAll_9 rfl fl3_90 ?_
    refine j_iload_n 13 C dX3_supportOfAll_12 rfl rfl ?_
    refine Lma_r2 14 C dX3_supportOfAll_13 rfl _ (by omega) rfl ?_
    refine j_top (RR_len hR hW hrw) ?_
    refine j_icmp_geN 32 17 C dX3_supportOfAll_14 (by decide) rfl (by omega) (by omega) (fun c14 => ?_) (fun c14 => ?_)
    · refine j_iload_n 33 C dX3_supportOfAll_32 rfl rfl ?_
      exact j_iret C dX3_supportOfAll_33 ⟨by rw [hx, show i = len wd r by omega], rfl⟩
    · refine j_iload_n 18 C dX3_supportOfAll_17 rfl rfl ?_
      refine j_aload_n 19 C dX3_supportOfAll_18 rfl rfl ?_
      refine j_iload_n 20 C dX3_supportOfAll_19 rfl rfl ?_
      refine j_iload_n 21 C dX3_supportOfAll_20 rfl rfl ?_
      refine Lmx_AI 24 C dX3_supportOfAll_21 rfl cw3_141 rfl (K3_supportOf hT hR hW hH0 h3 hrw (by omega)) rfl (by decide) ⟨Nat.le_refl _, Nat.le_refl _⟩ rfl (Nat.le_of_ble_eq_true rfl) ?_
      refine j_iadd 25 C dX3_supportOfAll_24 rfl ?_
      refine j_istore_n 26 C dX3_supportOfAll_25 rfl rfl (by decide) ?_
      refine j_iincN 29 (z := 1) C dX3_supportOfAll_26 rfl rfl rfl (by decide) ?_
      refine j_goto 4 C dX3_supportOfAll_29 (by decide) ?_
      exact j_weak _ (by exact ⟨rfl, rfl, rfl, rfl, trivial⟩) (ilp4 _ (by omega) (i + 1) _ rfl (by omega) (by rw [f_left, hx]))
  refine j_iconst 1 C dX3_supportOfAll_0 rfl (v := nI 0) (by decide) ?_
  refine j_istore_n 2 C dX3_supportOfAll_1 rfl rfl (by decide) ?_
  refine j_iconst 3 C dX3_supportOfAll_2 rfl (v := nI 0) (by decide) ?_
  refine j_istore_n 4 C dX3_supportOfAll_3 rfl rfl (by decide) ?_
  exact j_weak _ (by exact ⟨rfl, rfl, rfl, rfl, trivial⟩) (lp4 _ 0 _ rfl (Nat.zero_le _) rfl)
theorem K3_slipBits (hT : TT mu St wd) (hR : RR Sr wd) (hW : WF wd) (hH0 : HR wd Sh hd hr td) (h3 : Sm.1 3 = mu) (hrw : r < nrw wd) : Con l G yX3_slipBits cX3_slipBits 4 (some .int) 5 0 0 [.ref (zm 50), .int (nI r)] (mBk zm (zt 50) (zr 50) (zh 50) G.2.1 Sm ++ (hBk zh G.2.1 Sh ++ (tBk zt G.2.1 St ++ (rBk zr G.2.1 Sr)))) (pI (f_slips wd hd r) (mBk zm (zt 50) (zr 50) (zh 50) G.2.1 Sm ++ (hBk zh G.2.1 Sh ++ (tBk zt G.2.1 St ++ (rBk zr G.2.1 Sr))))) := by
  refine Con.mk (own := RX3) (by decide) rfl (Nat.le_of_ble_eq_true rfl) (fun X C => ?_)
  obtain ⟨hl2, hl12, hr12, hn24⟩ := WF_len hW hrw
  have lp4 : ∀ (m : Nat) (i : Nat) (x : Int32), len wd r - i = m → i ≤ len wd r → x = f_slip wd hd r i → J X 4 0 0 (mBk zm (zt 50) (zr 50) (zh 50) G.2.1 Sm ++ (hBk zh G.2.1 Sh ++ (tBk zt G.2.1 St ++ (rBk zr G.2.1 Sr)))) 4 [(0, .ref (zm 50)), (1, .int (nI r)), (2, .int x), (3, .int (nI i))] [] := by
    intro m
    induction m using Nat.strongRecOn with
    | ind m ilp4 =>
    intro i x hm hi hx
    refine j_iload_n 5 C dX3_slipBits_4 rfl rfl ?_
    refine j_aload_n 6 C dX3_slipBits_5 rfl rfl ?_
    refine Lmg_m1 9 C dX3_slipBits_6 rfl fl3_29 ?_
    refine Lmg_r2 12 C dX3_slipBits_9 rfl fl3_90 ?_
    refine j_iload_n 13 C dX3_slipBits_12 rfl rfl ?_
    refine Lma_r2 14 C dX3_slipBits_13 rfl _ (by omega) rfl ?_
    refine j_top (RR_len hR hW hrw) ?_
    refine j_icmp_geN 45 17 C dX3_slipBits_14 (by decide) rfl (by omega) (by omega) (fun c14 => ?_) (fun c14 => ?_)
    · refine j_iload_n 46 C dX3_slipBits_45 rfl rfl ?_
      exact j_iret C dX3_slipBits_46 ⟨by rw [hx, show i = len wd r by omega, f_slips], rfl⟩
    · refine j_aload_n 18 C dX3_slipBits_17 rfl rfl ?_
      refine j_iload_n 19 C dX3_slipBits_18 rfl rfl ?_
      refine j_iload_n 20 C dX3_slipBits_19 rfl rfl ?_
      refine Lmx_AI 23 C dX3_slipBits_20 rfl cw3_141 rfl (K3_supportOf hT hR hW hH0 h3 hrw (by omega)) rfl (by decide) ⟨Nat.le_refl _, Nat.le_refl _⟩ rfl (Nat.le_of_ble_eq_true rfl) ?_
      refine j_aload_n 24 C dX3_slipBits_23 rfl rfl ?_
      refine Lmg_m0 27 C dX3_slipBits_24 rfl fl3_25 ?_
      refine Lmg_t2 30 C dX3_slipBits_27 rfl fl3_144 ?_
      refine j_top hT.1.2.2 ?_
      refine j_icmp_ge 39 33 C dX3_slipBits_30 (by decide) rfl (fun c30 => ?_) (fun c30 => ?_)
      · refine j_iincN 42 (z := 1) C dX3_slipBits_39 rfl rfl rfl (by decide) ?_
        refine j_goto 4 C dX3_slipBits_42 (by decide) ?_
        exact j_weak _ (by exact ⟨rfl, rfl, rfl, rfl, trivial⟩) (ilp4 _ (by omega) (i + 1) _ rfl (by omega) (by rw [f_slip, if_pos c30, show nI 0 = 0 from rfl, Int32.or_zero]; exact hx))
      · refine j_iload_n 34 C dX3_slipBits_33 rfl rfl ?_
        refine j_iconst 35 C dX3_slipBits_34 rfl (v := nI 1) (by decide) ?_
        refine j_iload_n 36 C dX3_slipBits_35 rfl rfl ?_
        refine j_ishl 37 C dX3_slipBits_36 rfl ?_
        refine j_ior 38 C dX3_slipBits_37 rfl ?_
        refine j_istore_n 39 C dX3_slipBits_38 rfl rfl (by decide) ?_
        refine j_iincN 42 (z := 1) C dX3_slipBits_39 rfl rfl rfl (by decide) ?_
        refine j_goto 4 C dX3_slipBits_42 (by decide) ?_
        exact j_weak _ (by exact ⟨rfl, rfl, rfl, rfl, trivial⟩) (ilp4 _ (by omega) (i + 1) _ rfl (by omega) (by rw [f_slip, if_neg c30, hx]))
  refine j_iconst 1 C dX3_slipBits_0 rfl (v := nI 0) (by decide) ?_
  refine j_istore_n 2 C dX3_slipBits_1 rfl rfl (by decide) ?_
  refine j_iconst 3 C dX3_slipBits_2 rfl (v := nI 0) (by decide) ?_
  refine j_istore_n 4 C dX3_slipBits_3 rfl rfl (by decide) ?_
  exact j_weak _ (by exact ⟨rfl, rfl, rfl, rfl, trivial⟩) (lp4 _ 0 _ rfl (Nat.zero_le _) rfl)
theorem K3_learnRow (hT : TT mu St wd) (hR : RR Sr wd) (hW : WF wd) (hH0 : HR wd Sh hd hr td) (h3 : Sm.1 3 = mu) (h4 : Sm.1 4 = cl) (h5 : Sm.1 5 = cv) (h8 : ¬ nI 8 = cl) (hhr : hr ≤ 1000000000) (htd : td + 40 ≤ 1000000000) (hrw : r < nrw wd) : Con l G yX3_learnRow cX3_learnRow 4 (some .int) 7 0 0 [.ref (zm 50), .int (nI r)] (mBk zm (zt 50) (zr 50) (zh 50) G.2.1 Sm ++ (hBk zh G.2.1 Sh ++ (tBk zt G.2.1 St ++ (rBk zr G.2.1 Sr)))) (qI (fun s : MS => (mBk zm (zt 50) (zr 50) (zh 50) G.2.1 Sm ++ (hBk zh G.2.1 s ++ (tBk zt G.2.1 St ++ (rBk zr G.2.1 Sr))))) (fun x S' => x = (f_lrn wd cl cv r 40 1 0 hd).1 ∧ ∃ t1, t1 ≤ td + 40 ∧ HR wd S' (f_lrn wd cl cv r 40 1 0 hd).2 hr t1)) := by
  refine Con.mk (own := RX3) (by decide) rfl (Nat.le_of_ble_eq_true rfl) (fun X C => ?_)
  have lp4 : ∀ (m : Nat) (n w0 : Nat) (s1 : MS) (h : Nat → Int32) (t1 : Nat), 41 - n = m → 1 ≤ n → n ≤ 41 → t1 + 1 ≤ td + n → w0 < 2 → f_lrn wd cl cv r m n w0 h = (f_lrn wd cl cv r 40 1 0 hd) → HR wd s1 h hr t1 → J X 4 0 0 (mBk zm (zt 50) (zr 50) (zh 50) G.2.1 Sm ++ (hBk zh G.2.1 s1 ++ (tBk zt G.2.1 St ++ (rBk zr G.2.1 Sr)))) 4 [(0, .ref (zm 50)), (1, .int (nI r)), (2, .int (nI w0)), (3, .int (nI n))] [] := by
    intro m
    induction m using Nat.strongRecOn with
    | ind m ilp4 =>
    intro n w0 s1 h t1 hm hn1 hn ht1 hw0 hE hS
    refine j_iload_n 5 C dX3_learnRow_4 rfl rfl ?_
    refine j_bipush 7 C dX3_learnRow_5 rfl (v := nI 40) (by decide) ?_
    refine j_icmp_gtN 44 10 C dX3_learnRow_7 (by decide) rfl (by omega) (by omega) (fun c7 => ?_) (fun c7 => ?_)
    · refine j_iconst 45 C dX3_learnRow_44 rfl (v := (-1)) (by decide) ?_
      exact j_iret C dX3_learnRow_45 (by refine ⟨_, _, ?_, rfl, rfl⟩; rw [show m = 0 by omega, f_lrn] at hE; rw [← hE]; exact ⟨rfl, t1, by omega, hS⟩)
    · obtain ⟨m5, rfl⟩ : ∃ m5, m = m5 + 1 := ⟨m - 1, by omega⟩
      rw [f_lrn] at hE
      refine j_aload_n 11 C dX3_learnRow_10 rfl rfl ?_
      refine j_iload_n 12 C dX3_learnRow_11 rfl rfl ?_
      refine Lmr_AV 15 C dX3_learnRow_12 rfl cw3_112 rfl (K3_readOnce hT hR hW hS h4 h5 h8 hhr (by omega) hrw) rfl (by decide) ⟨Nat.le_refl _, Nat.le_refl _⟩ rfl (Nat.le_of_ble_eq_true rfl) (fun s2 hs2 => ?_)
      refine j_aload_n 16 C dX3_learnRow_15 rfl rfl ?_
      refine j_iload_n 17 C dX3_learnRow_16 rfl rfl ?_
      refine Lmx_AI 20 C dX3_learnRow_17 rfl cw3_116 rfl (K3_slipBits hT hR hW hs2 h3 hrw) rfl (by decide) ⟨Nat.le_refl _, Nat.le_refl _⟩ rfl (Nat.le_of_ble_eq_true rfl) ?_
      refine j_if_ne 29 23 C dX3_learnRow_20 (by decide) rfl (fun c20 => ?_) (fun c20 => ?_)
      · refine j_iconst 30 C dX3_learnRow_29 rfl (v := nI 0) (by decide) ?_
        refine j_istore_n 31 C dX3_learnRow_30 rfl rfl (by decide) ?_
        refine j_iload_n 32 C dX3_learnRow_31 rfl rfl ?_
        refine j_iconst 33 C dX3_learnRow_32 rfl (v := nI 2) (by decide) ?_
        refine j_icmp_neN 38 36 C dX3_learnRow_33 (by decide) rfl (by omega) (by omega) (fun c33 => ?_) (fun c33 => ?_)
        · refine j_iincN 41 (z := 1) C dX3_learnRow_38 rfl rfl rfl (by decide) ?_
          refine j_goto 4 C dX3_learnRow_41 (by decide) ?_
          exact j_weak _ (by exact ⟨rfl, rfl, rfl, rfl, trivial⟩) (ilp4 m5 (by omega) (n + 1) _ s2 _ (t1 + 1) (show 41 - (n + 1) = m5 by omega) (by omega) (by omega) (by omega) (by omega) (by simp only [if_neg c20] at hE; rw [if_neg (by omega)] at hE; exact hE) hs2)
        · refine j_iload_n 37 C dX3_learnRow_36 rfl rfl ?_
          exact j_iret C dX3_learnRow_37 (by refine ⟨_, _, ?_, rfl, rfl⟩; simp only [if_neg c20] at hE; rw [if_pos (by omega)] at hE; rw [← hE]; exact ⟨rfl, t1 + 1, by omega, hs2⟩)
      · refine j_iload_n 24 C dX3_learnRow_23 rfl rfl ?_
        refine j_iconst 25 C dX3_learnRow_24 rfl (v := nI 1) (by decide) ?_
        refine j_iaddN 26 C dX3_learnRow_25 rfl ?_
        refine j_goto 30 C dX3_learnRow_26 (by decide) ?_
        refine j_istore_n 31 C dX3_learnRow_30 rfl rfl (by decide) ?_
        refine j_iload_n 32 C dX3_learnRow_31 rfl rfl ?_
        refine j_iconst 33 C dX3_learnRow_32 rfl (v := nI 2) (by decide) ?_
        refine j_icmp_neN 38 36 C dX3_learnRow_33 (by decide) rfl (by omega) (by omega) (fun c33 => ?_) (fun c33 => ?_)
        · refine j_iincN 41 (z := 1) C dX3_learnRow_38 rfl rfl rfl (by decide) ?_
          refine j_goto 4 C dX3_learnRow_41 (by decide) ?_
          exact j_weak _ (by exact ⟨rfl, rfl, rfl, rfl, trivial⟩) (ilp4 m5 (by omega) (n + 1) _ s2 _ (t1 + 1) (show 41 - (n + 1) = m5 by omega) (by omega) (by omega) (by omega) (by omega) (by simp only [if_pos c20] at hE; rw [if_neg (by omega)] at hE; exact hE) hs2)
        · refine j_iload_n 37 C dX3_learnRow_36 rfl rfl ?_
          exact j_iret C dX3_learnRow_37 (by refine ⟨_, _, ?_, rfl, rfl⟩; simp only [if_pos c20] at hE; rw [if_pos (by omega)] at hE; rw [← hE]; exact ⟨rfl, t1 + 1, by omega, hs2⟩)
  refine j_iconst 1 C dX3_learnRow_0 rfl (v := nI 0) (by decide) ?_
  refine j_istore_n 2 C dX3_learnRow_1 rfl rfl (by decide) ?_
  refine j_iconst 3 C dX3_learnRow_2 rfl (v := nI 1) (by decide) ?_
  refine j_istore_n 4 C dX3_learnRow_3 rfl rfl (by decide) ?_
  exact j_weak _ (by exact ⟨rfl, rfl, rfl, rfl, trivial⟩) (lp4 _ 1 0 _ hd td rfl (by omega) (by omega) (by omega) (by omega) rfl hH0)
end SM5
