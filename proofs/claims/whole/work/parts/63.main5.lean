section SN5
variable {l : Launch} {G : GG} {wd hd : Nat → Int32} {hr td : Nat} {x y z : Int32} {zn zs zm zh zt zr zb zd zx zy zw zv : Nat → Nat} {Sn Ss Sm Sh St Sr Sb Sd Sx Sy Sw Sv : MS} {r0 r1 t0 t1 : Nat} {fi fs : Nat → Option Nat} {pa : Option Nat} {qd : Nat → Option Nat} {R : va_W}
theorem K10_goneA (hT : TT (-1) St wd) (hR : RR Sr wd) (hW : WF wd) (hH0 : HR wd Sh hd hr td) (h3 : Sm.1 3 = -1) (h4 : Sm.1 4 = -1) (hhr : hr + 300 ≤ 1000000000) (htd : td + 100 ≤ 1000000000) (hy : HX Sy) (hv : HX Sv)  : Con l G yX10_gone cX10_gone 5 (some .int) 9 0 0 [.ref (zn 50), .int x] (nBk zn (zs 50) G.2.1 Sn fi fs pa (some (zd 50)) ++ (sBk zs (zm 50) (zb 50) G.2.1 Ss ++ (mBk zm (zt 50) (zr 50) (zh 50) G.2.1 Sm ++ (hBk zh G.2.1 Sh ++ (tBk zt G.2.1 St ++ (rBk zr G.2.1 Sr ++ (bBk zb G.2.1 Sb ++ (dBk zd (zx 50) (zw 50) G.2.1 Sd qd ++ (mBk zx t0 r0 (zy 50) G.2.1 Sx ++ (hBk zy G.2.1 Sy ++ (mBk zw t1 r1 (zv 50) G.2.1 Sw ++ (hBk zv G.2.1 Sv ++ (R))))))))))))) (fun v w => v = some (.int (if isI x (nrw wd) then f_gon wd (-1) (nI 0) (tn x) 61 0 hd else -2)) ∧ ∃ (t0 r0 t1 r1 : Nat) (Sx Sy Sw Sv : MS), HX Sy ∧ HX Sv ∧ w = (nBk zn (zs 50) G.2.1 Sn fi fs pa (some (zd 50)) ++ (sBk zs (zm 50) (zb 50) G.2.1 Ss ++ (mBk zm (zt 50) (zr 50) (zh 50) G.2.1 Sm ++ (hBk zh G.2.1 Sh ++ (tBk zt G.2.1 St ++ (rBk zr G.2.1 Sr ++ (bBk zb G.2.1 Sb ++ (dBk zd (zx 50) (zw 50) G.2.1 Sd qd ++ (mBk zx t0 r0 (zy 50) G.2.1 Sx ++ (hBk zy G.2.1 Sy ++ (mBk zw t1 r1 (zv 50) G.2.1 Sw ++ (hBk zv G.2.1 Sv ++ (R)))))))))))))) := by
  refine Con.mk (own := RX10) (by decide) rfl (Nat.le_of_ble_eq_true rfl) (fun X C => ?_)
  refine j_aload_n 1 C dX10_gone_0 rfl rfl ?_
  refine Pg_n4 4 C dX10_gone_1 rfl fl10_20 ?_
  refine Pg_s0 7 C dX10_gone_4 rfl fl10_61 ?_
  refine Pg_m1 10 C dX10_gone_7 rfl fl10_78 ?_
  refine j_iload_n 11 C dX10_gone_10 rfl rfl ?_
  refine Px_rI 14 C dX10_gone_11 rfl cw10_107 rfl (K5_has (hR.1.trans hW.2.2.1.1) hW.2.2.1.2) rfl (by decide) ⟨Nat.le_refl _, Nat.le_refl _⟩ rfl (Nat.le_of_ble_eq_true rfl) ?_
  refine j_if_neB 20 17 C dX10_gone_14 (by decide) rfl (fun c14 => ?_) (fun c14 => ?_)
  · obtain ⟨r, hrw, rfl⟩ := isI_of c14
    have hr12 := (WF_len hW hrw).2.2.1
    refine j_aload_n 21 C dX10_gone_20 rfl rfl ?_
    refine Pdesk 24 C dX10_gone_21 rfl (by decide) ⟨Nat.le_refl _, Nat.le_refl _⟩ (Nat.le_of_ble_eq_true rfl) ?_
    have lp37 : ∀ (m : Nat) (i : Nat) (t0 r0 : Nat) (Sx Sy : MS) (Sv : MS) (h : Nat → Int32) (hr1 td1 : Nat), 61 - i = m → i ≤ 61 → hr1 ≤ hr + i → td1 ≤ td → HX Sy → HR wd Sv h hr1 td1 → f_gon wd (-1) (nI 0) r m i h = (if isI (nI r) (nrw wd) then f_gon wd (-1) (nI 0) (tn (nI r)) 61 0 hd else -2) → J X 5 0 0 (nBk zn (zs 50) G.2.1 Sn fi fs pa (some (zd 50)) ++ (sBk zs (zm 50) (zb 50) G.2.1 Ss ++ (mBk zm (zt 50) (zr 50) (zh 50) G.2.1 Sm ++ (hBk zh G.2.1 Sh ++ (tBk zt G.2.1 St ++ (rBk zr G.2.1 Sr ++ (bBk zb G.2.1 Sb ++ (dBk zd (zx 50) (zw 50) G.2.1 Sd qd ++ (mBk zx t0 r0 (zy 50) G.2.1 Sx ++ (hBk zy G.2.1 Sy ++ (mBk zw (zt 50) (zr 50) (zv 50) G.2.1 (sS (sS Sw 3 (-1)) 4 (-1)) ++ (hBk zv G.2.1 Sv ++ (R))))))))))))) 37 [(0, .ref (zn 50)), (1, .int (nI r)), (2, .ref (zw 50)), (3, .int (nI i))] [] := by
      intro m
      induction m using Nat.strongRecOn with
      | ind m ilp37 =>
      intro i t0 r0 Sx Sy Sv h hr1 td1 hm hi hr1b htd1 hy1 hS hE
      refine j_iload_n 38 C dX10_gone_37 rfl rfl ?_
      refine j_bipush 40 C dX10_gone_38 rfl (v := nI 60) (by decide) ?_
      refine j_icmp_gtN 87 43 C dX10_gone_40 (by decide) rfl (by omega) (by omega) (fun c40 => ?_) (fun c40 => ?_)
      · refine j_iconst 88 C dX10_gone_87 rfl (v := (-1)) (by decide) ?_
        exact j_iret C dX10_gone_88 ⟨by rw [← hE, show m = 0 by omega]; rfl, _, _, _, _, _, _, _, _, hy1, (HR_X hS), rfl⟩
      · obtain ⟨m5, rfl⟩ : ∃ m5, m = m5 + 1 := ⟨m - 1, by omega⟩
        rw [f_gon] at hE
        refine j_aload_n 44 C dX10_gone_43 rfl rfl ?_
        refine Pdesk 47 C dX10_gone_44 rfl (by decide) ⟨Nat.le_refl _, Nat.le_refl _⟩ (Nat.le_of_ble_eq_true rfl) ?_
        refine j_aload_n 48 C dX10_gone_47 rfl rfl ?_
        refine j_iload_n 49 C dX10_gone_48 rfl rfl ?_
        refine PWr_DI 52 C dX10_gone_49 rfl cw10_166 rfl (K1_needsOf hT hR hW hS hy1 (by omega) (by omega) hrw) rfl (by decide) ⟨Nat.le_refl _, Nat.le_refl _⟩ rfl (Nat.le_of_ble_eq_true rfl) (fun x49 s49 hs49 => ?_)
        obtain ⟨e49, hy49⟩ := hs49
        rw [need_cv _ (nI 0)] at e49
        subst e49
        refine j_sI 55 C dX10_gone_52 rfl cw10_186 K10_counted rfl (by decide) ⟨Nat.le_refl _, Nat.le_refl _⟩ rfl (Nat.le_of_ble_eq_true rfl) ?_
        refine j_istore 57 C dX10_gone_55 rfl rfl (by decide) ?_
        refine j_iload 59 C dX10_gone_57 rfl rfl ?_
        refine j_aload_n 60 C dX10_gone_59 rfl rfl ?_
        refine Pdesk 63 C dX10_gone_60 rfl (by decide) ⟨Nat.le_refl _, Nat.le_refl _⟩ (Nat.le_of_ble_eq_true rfl) ?_
        refine j_aload_n 64 C dX10_gone_63 rfl rfl ?_
        refine j_iload_n 65 C dX10_gone_64 rfl rfl ?_
        refine PWr_DI 68 C dX10_gone_65 rfl cw10_178 rfl (K1_freshOf hT hR hW hS hy49 (by omega) hrw) rfl (by decide) ⟨Nat.le_refl _, Nat.le_refl _⟩ rfl (Nat.le_of_ble_eq_true rfl) (fun x65 s65 hs65 => ?_)
        obtain ⟨e65, hy65⟩ := hs65
        rw [need_cv _ (nI 0)] at e65
        subst e65
        refine j_sI 71 C dX10_gone_68 rfl cw10_186 K10_counted rfl (by decide) ⟨Nat.le_refl _, Nat.le_refl _⟩ rfl (Nat.le_of_ble_eq_true rfl) ?_
        refine j_icmp_lt 76 74 C dX10_gone_71 (by decide) rfl (fun c71 => ?_) (fun c71 => ?_)
        · refine j_aload_n 77 C dX10_gone_76 rfl rfl ?_
          refine j_iconst 78 C dX10_gone_77 rfl (v := nI 1) (by decide) ?_
          refine PWr_VV 81 C dX10_gone_78 rfl cw10_124 rfl (K3_passHours (cl := -1) hT hW hS rfl rfl (by omega) (by omega)) rfl (by decide) ⟨Nat.le_refl _, Nat.le_refl _⟩ rfl (Nat.le_of_ble_eq_true rfl) (fun s78 hs78 => ?_)
          obtain ⟨t78, ht78, -, hw78⟩ := hs78
          rw [hours_cv _ (nI 0)] at hw78
          refine j_iincN 84 (z := 1) C dX10_gone_81 rfl rfl rfl (by decide) ?_
          refine j_goto 37 C dX10_gone_84 (by decide) ?_
          exact j_weak _ (by exact ⟨rfl, rfl, rfl, rfl, trivial⟩) (ilp37 m5 (by omega) (i + 1) _ _ _ _ s78 _ _ _ (show 61 - (i + 1) = m5 by omega) (by omega) (by omega) (by omega) hy65 hw78 (by rw [if_pos c71] at hE; exact hE))
        · refine j_iload_n 75 C dX10_gone_74 rfl rfl ?_
          exact j_iret C dX10_gone_75 ⟨by rw [← hE, if_neg c71], _, _, _, _, _, _, _, _, hy65, (HR_X hS), rfl⟩
    refine j_aload_n 25 C dX10_gone_24 rfl rfl ?_
    refine Pg_n4 28 C dX10_gone_25 rfl fl10_20 ?_
    refine Pg_s0 31 C dX10_gone_28 rfl fl10_61 ?_
    refine Pr_WR 34 C dX10_gone_31 rfl cw10_182 rfl (K1_walkerFrom hH0 hv) rfl (by decide) ⟨Nat.le_refl _, Nat.le_refl _⟩ rfl (Nat.le_of_ble_eq_true rfl) (fun s31 hs31 => ?_)
    refine j_astore_n 35 C dX10_gone_34 rfl rfl (by decide) ?_
    refine j_iconst 36 C dX10_gone_35 rfl (v := nI 0) (by decide) ?_
    refine j_istore_n 37 C dX10_gone_36 rfl rfl (by decide) ?_
    exact j_weak _ (by exact ⟨rfl, rfl, rfl, rfl, trivial⟩) (lp37 _ 0 _ _ _ _ _ hd hr td rfl (by omega) (by omega) (by omega) hy hs31 (by rw [if_pos c14, tn_nI (by omega)]))
  · refine j_bipush 19 C dX10_gone_17 rfl (v := (-2)) (by decide) ?_
    exact j_iret C dX10_gone_19 ⟨by rw [if_neg c14], _, _, _, _, _, _, _, _, hy, hv, rfl⟩
theorem K10_goneB (hT : TT (-1) St wd) (hR : RR Sr wd) (hW : WF wd) (hH0 : HR wd Sh hd hr td) (h3 : Sm.1 3 = -1) (h4 : Sm.1 4 = -1) (hhr : hr + 300 ≤ 1000000000) (htd : td + 100 ≤ 1000000000)  : Con l G yX10_gone cX10_gone 5 (some .int) 9 10 5119 [.ref (zn 50), .int x] (nBk zn (zs 50) G.2.1 Sn fi fs pa none ++ (sBk zs (zm 50) (zb 50) G.2.1 Ss ++ (mBk zm (zt 50) (zr 50) (zh 50) G.2.1 Sm ++ (hBk zh G.2.1 Sh ++ (tBk zt G.2.1 St ++ (rBk zr G.2.1 Sr ++ (bBk zb G.2.1 Sb ++ (R)))))))) (fun v w => v = some (.int (if isI x (nrw wd) then f_gon wd (-1) (nI 0) (tn x) 61 0 hd else -2)) ∧ (w = (nBk zn (zs 50) G.2.1 Sn fi fs pa none ++ (sBk zs (zm 50) (zb 50) G.2.1 Ss ++ (mBk zm (zt 50) (zr 50) (zh 50) G.2.1 Sm ++ (hBk zh G.2.1 Sh ++ (tBk zt G.2.1 St ++ (rBk zr G.2.1 Sr ++ (bBk zb G.2.1 Sb ++ (R)))))))) ∨ ∃ (zd zx zy zw zv : Nat → Nat) (t0 r0 t1 r1 : Nat) (Sx Sy Sw Sv : MS), HX Sy ∧ HX Sv ∧ w = (nBk zn (zs 50) G.2.1 Sn fi fs pa (some (zd 50)) ++ (sBk zs (zm 50) (zb 50) G.2.1 Ss ++ (mBk zm (zt 50) (zr 50) (zh 50) G.2.1 Sm ++ (hBk zh G.2.1 Sh ++ (tBk zt G.2.1 St ++ (rBk zr G.2.1 Sr ++ (bBk zb G.2.1 Sb ++ (dBk zd (zx 50) (zw 50) G.2.1 MS0 (fun _ => none) ++ (mBk zx t0 r0 (zy 50) G.2.1 Sx ++ (hBk zy G.2.1 Sy ++ (mBk zw t1 r1 (zv 50) G.2.1 Sw ++ (hBk zv G.2.1 Sv ++ (R))))))))))))))) := by
  refine Con.mk (own := RX10) (by decide) rfl (Nat.le_of_ble_eq_true rfl) (fun X C => ?_)
  refine j_aload_n 1 C dX10_gone_0 rfl rfl ?_
  refine Lng_n4 4 C dX10_gone_1 rfl fl10_20 ?_
  refine Lng_s0 7 C dX10_gone_4 rfl fl10_61 ?_
  refine Lng_m1 10 C dX10_gone_7 rfl fl10_78 ?_
  refine j_iload_n 11 C dX10_gone_10 rfl rfl ?_
  refine Lnx_rI 14 C dX10_gone_11 rfl cw10_107 rfl (K5_has (hR.1.trans hW.2.2.1.1) hW.2.2.1.2) rfl (by decide) ⟨Nat.zero_le _, Nat.zero_le _⟩ rfl (Nat.le_of_ble_eq_true rfl) ?_
  refine j_if_neB 20 17 C dX10_gone_14 (by decide) rfl (fun c14 => ?_) (fun c14 => ?_)
  · obtain ⟨r, hrw, rfl⟩ := isI_of c14
    have hr12 := (WF_len hW hrw).2.2.1
    refine j_aload_n 21 C dX10_gone_20 rfl rfl ?_
    refine Ldesk0 24 C dX10_gone_21 rfl (by decide) (Nat.le_of_ble_eq_true rfl) (fun zd zx zy zw zv => ?_)
    have hy := HX0
    have hv := HX0
    have lp37 : ∀ (m : Nat) (i : Nat) (t0 r0 : Nat) (Sx Sy : MS) (Sv : MS) (h : Nat → Int32) (hr1 td1 : Nat), 61 - i = m → i ≤ 61 → hr1 ≤ hr + i → td1 ≤ td → HX Sy → HR wd Sv h hr1 td1 → f_gon wd (-1) (nI 0) r m i h = (if isI (nI r) (nrw wd) then f_gon wd (-1) (nI 0) (tn (nI r)) 61 0 hd else -2) → J X 5 10 5119 (nBk zn (zs 50) G.2.1 Sn fi fs pa (some (zd 50)) ++ (sBk zs (zm 50) (zb 50) G.2.1 Ss ++ (mBk zm (zt 50) (zr 50) (zh 50) G.2.1 Sm ++ (hBk zh G.2.1 Sh ++ (tBk zt G.2.1 St ++ (rBk zr G.2.1 Sr ++ (bBk zb G.2.1 Sb ++ (dBk zd (zx 50) (zw 50) G.2.1 MS0 (fun _ => none) ++ (mBk zx t0 r0 (zy 50) G.2.1 Sx ++ (hBk zy G.2.1 Sy ++ (mBk zw (zt 50) (zr 50) (zv 50) G.2.1 (sS (sS SM0 3 (-1)) 4 (-1)) ++ (hBk zv G.2.1 Sv ++ (R))))))))))))) 37 [(0, .ref (zn 50)), (1, .int (nI r)), (2, .ref (zw 50)), (3, .int (nI i))] [] := by
      intro m
      induction m using Nat.strongRecOn with
      | ind m ilp37 =>
      intro i t0 r0 Sx Sy Sv h hr1 td1 hm hi hr1b htd1 hy1 hS hE
      refine j_iload_n 38 C dX10_gone_37 rfl rfl ?_
      refine j_bipush 40 C dX10_gone_38 rfl (v := nI 60) (by decide) ?_
      refine j_icmp_gtN 87 43 C dX10_gone_40 (by decide) rfl (by omega) (by omega) (fun c40 => ?_) (fun c40 => ?_)
      · refine j_iconst 88 C dX10_gone_87 rfl (v := (-1)) (by decide) ?_
        exact j_iret C dX10_gone_88 ⟨by rw [← hE, show m = 0 by omega]; rfl, Or.inr ⟨zd, zx, zy, zw, zv, _, _, _, _, _, _, _, _, hy1, (HR_X hS), rfl⟩⟩
      · obtain ⟨m5, rfl⟩ : ∃ m5, m = m5 + 1 := ⟨m - 1, by omega⟩
        rw [f_gon] at hE
        refine j_aload_n 44 C dX10_gone_43 rfl rfl ?_
        refine Pdesk 47 C dX10_gone_44 rfl (by decide) ⟨Nat.le_refl _, Nat.le_refl _⟩ (Nat.le_of_ble_eq_true rfl) ?_
        refine j_aload_n 48 C dX10_gone_47 rfl rfl ?_
        refine j_iload_n 49 C dX10_gone_48 rfl rfl ?_
        refine PWr_DI 52 C dX10_gone_49 rfl cw10_166 rfl (K1_needsOf hT hR hW hS hy1 (by omega) (by omega) hrw) rfl (by decide) ⟨Nat.le_refl _, Nat.le_refl _⟩ rfl (Nat.le_of_ble_eq_true rfl) (fun x49 s49 hs49 => ?_)
        obtain ⟨e49, hy49⟩ := hs49
        rw [need_cv _ (nI 0)] at e49
        subst e49
        refine j_sI 55 C dX10_gone_52 rfl cw10_186 K10_counted rfl (by decide) ⟨Nat.le_refl _, Nat.le_refl _⟩ rfl (Nat.le_of_ble_eq_true rfl) ?_
        refine j_istore 57 C dX10_gone_55 rfl rfl (by decide) ?_
        refine j_iload 59 C dX10_gone_57 rfl rfl ?_
        refine j_aload_n 60 C dX10_gone_59 rfl rfl ?_
        refine Pdesk 63 C dX10_gone_60 rfl (by decide) ⟨Nat.le_refl _, Nat.le_refl _⟩ (Nat.le_of_ble_eq_true rfl) ?_
        refine j_aload_n 64 C dX10_gone_63 rfl rfl ?_
        refine j_iload_n 65 C dX10_gone_64 rfl rfl ?_
        refine PWr_DI 68 C dX10_gone_65 rfl cw10_178 rfl (K1_freshOf hT hR hW hS hy49 (by omega) hrw) rfl (by decide) ⟨Nat.le_refl _, Nat.le_refl _⟩ rfl (Nat.le_of_ble_eq_true rfl) (fun x65 s65 hs65 => ?_)
        obtain ⟨e65, hy65⟩ := hs65
        rw [need_cv _ (nI 0)] at e65
        subst e65
        refine j_sI 71 C dX10_gone_68 rfl cw10_186 K10_counted rfl (by decide) ⟨Nat.le_refl _, Nat.le_refl _⟩ rfl (Nat.le_of_ble_eq_true rfl) ?_
        refine j_icmp_lt 76 74 C dX10_gone_71 (by decide) rfl (fun c71 => ?_) (fun c71 => ?_)
        · refine j_aload_n 77 C dX10_gone_76 rfl rfl ?_
          refine j_iconst 78 C dX10_gone_77 rfl (v := nI 1) (by decide) ?_
          refine PWr_VV 81 C dX10_gone_78 rfl cw10_124 rfl (K3_passHours (cl := -1) hT hW hS rfl rfl (by omega) (by omega)) rfl (by decide) ⟨Nat.le_refl _, Nat.le_refl _⟩ rfl (Nat.le_of_ble_eq_true rfl) (fun s78 hs78 => ?_)
          obtain ⟨t78, ht78, -, hw78⟩ := hs78
          rw [hours_cv _ (nI 0)] at hw78
          refine j_iincN 84 (z := 1) C dX10_gone_81 rfl rfl rfl (by decide) ?_
          refine j_goto 37 C dX10_gone_84 (by decide) ?_
          exact j_weak _ (by exact ⟨rfl, rfl, rfl, rfl, trivial⟩) (ilp37 m5 (by omega) (i + 1) _ _ _ _ s78 _ _ _ (show 61 - (i + 1) = m5 by omega) (by omega) (by omega) (by omega) hy65 hw78 (by rw [if_pos c71] at hE; exact hE))
        · refine j_iload_n 75 C dX10_gone_74 rfl rfl ?_
          exact j_iret C dX10_gone_75 ⟨by rw [← hE, if_neg c71], Or.inr ⟨zd, zx, zy, zw, zv, _, _, _, _, _, _, _, _, hy65, (HR_X hS), rfl⟩⟩
    refine j_aload_n 25 C dX10_gone_24 rfl rfl ?_
    refine Pg_n4 28 C dX10_gone_25 rfl fl10_20 ?_
    refine Pg_s0 31 C dX10_gone_28 rfl fl10_61 ?_
    refine Pr_WR 34 C dX10_gone_31 rfl cw10_182 rfl (K1_walkerFrom hH0 hv) rfl (by decide) ⟨Nat.le_refl _, Nat.le_refl _⟩ rfl (Nat.le_of_ble_eq_true rfl) (fun s31 hs31 => ?_)
    refine j_astore_n 35 C dX10_gone_34 rfl rfl (by decide) ?_
    refine j_iconst 36 C dX10_gone_35 rfl (v := nI 0) (by decide) ?_
    refine j_istore_n 37 C dX10_gone_36 rfl rfl (by decide) ?_
    exact j_weak _ (by exact ⟨rfl, rfl, rfl, rfl, trivial⟩) (lp37 _ 0 _ _ _ _ _ hd hr td rfl (by omega) (by omega) (by omega) hy hs31 (by rw [if_pos c14, tn_nI (by omega)]))
  · refine j_bipush 19 C dX10_gone_17 rfl (v := (-2)) (by decide) ?_
    refine j_widen 10 5119 (by decide) (by decide) ?_
    exact j_iret C dX10_gone_19 ⟨by rw [if_neg c14], Or.inl rfl⟩
theorem K10_whenA (hT : TT (-1) St wd) (hR : RR Sr wd) (hW : WF wd) (hH0 : HR wd Sh hd hr td) (h3 : Sm.1 3 = -1) (h4 : Sm.1 4 = -1) (hhr : hr + 300 ≤ 1000000000) (htd : td + 100 ≤ 1000000000) (hy : HX Sy) (hv : HX Sv)  : Con l G yX10_when cX10_when 7 (some .int) 9 0 0 [.ref (zn 50), .int x] (nBk zn (zs 50) G.2.1 Sn fi fs pa (some (zd 50)) ++ (sBk zs (zm 50) (zb 50) G.2.1 Ss ++ (mBk zm (zt 50) (zr 50) (zh 50) G.2.1 Sm ++ (hBk zh G.2.1 Sh ++ (tBk zt G.2.1 St ++ (rBk zr G.2.1 Sr ++ (bBk zb G.2.1 Sb ++ (dBk zd (zx 50) (zw 50) G.2.1 Sd qd ++ (mBk zx t0 r0 (zy 50) G.2.1 Sx ++ (hBk zy G.2.1 Sy ++ (mBk zw t1 r1 (zv 50) G.2.1 Sw ++ (hBk zv G.2.1 Sv ++ (R))))))))))))) (fun v w => v = some (.int (if isI x (nrw wd) then (f_wb wd (-1) (nI 0) (tn x) hd 24).1 else -2)) ∧ ∃ (t0 r0 t1 r1 : Nat) (Sx Sy Sw Sv : MS), HX Sy ∧ HX Sv ∧ w = (nBk zn (zs 50) G.2.1 Sn fi fs pa (some (zd 50)) ++ (sBk zs (zm 50) (zb 50) G.2.1 Ss ++ (mBk zm (zt 50) (zr 50) (zh 50) G.2.1 Sm ++ (hBk zh G.2.1 Sh ++ (tBk zt G.2.1 St ++ (rBk zr G.2.1 Sr ++ (bBk zb G.2.1 Sb ++ (dBk zd (zx 50) (zw 50) G.2.1 Sd qd ++ (mBk zx t0 r0 (zy 50) G.2.1 Sx ++ (hBk zy G.2.1 Sy ++ (mBk zw t1 r1 (zv 50) G.2.1 Sw ++ (hBk zv G.2.1 Sv ++ (R)))))))))))))) := by
  refine Con.mk (own := RX10) (by decide) rfl (Nat.le_of_ble_eq_true rfl) (fun X C => ?_)
  refine j_aload_n 1 C dX10_when_0 rfl rfl ?_
  refine Pg_n4 4 C dX10_when_1 rfl fl10_20 ?_
  refine Pg_s0 7 C dX10_when_4 rfl fl10_61 ?_
  refine Pg_m1 10 C dX10_when_7 rfl fl10_78 ?_
  refine j_iload_n 11 C dX10_when_10 rfl rfl ?_
  refine Px_rI 14 C dX10_when_11 rfl cw10_107 rfl (K5_has (hR.1.trans hW.2.2.1.1) hW.2.2.1.2) rfl (by decide) ⟨Nat.le_refl _, Nat.le_refl _⟩ rfl (Nat.le_of_ble_eq_true rfl) ?_
  refine j_if_neB 20 17 C dX10_when_14 (by decide) rfl (fun c14 => ?_) (fun c14 => ?_)
  · obtain ⟨r, hrw, rfl⟩ := isI_of c14
    have hr12 := (WF_len hW hrw).2.2.1
    refine j_aload_n 21 C dX10_when_20 rfl rfl ?_
    refine Pdesk 24 C dX10_when_21 rfl (by decide) ⟨Nat.le_refl _, Nat.le_refl _⟩ (Nat.le_of_ble_eq_true rfl) ?_
    have lp44 : ∀ (m : Nat) (i : Nat) (t0 r0 : Nat) (Sx Sy : MS) (Sv : MS) (hr1 td1 : Nat) (b3 b4 : Int32), 24 - i = m → i ≤ 24 → hr1 ≤ hr + i → td1 ≤ td → HX Sy → HR wd Sv (f_hours wd (-1) (nI 0) i hd) hr1 td1 → (b3, b4) = (f_wb wd (-1) (nI 0) r hd i) → J X 7 0 0 (nBk zn (zs 50) G.2.1 Sn fi fs pa (some (zd 50)) ++ (sBk zs (zm 50) (zb 50) G.2.1 Ss ++ (mBk zm (zt 50) (zr 50) (zh 50) G.2.1 Sm ++ (hBk zh G.2.1 Sh ++ (tBk zt G.2.1 St ++ (rBk zr G.2.1 Sr ++ (bBk zb G.2.1 Sb ++ (dBk zd (zx 50) (zw 50) G.2.1 Sd qd ++ (mBk zx t0 r0 (zy 50) G.2.1 Sx ++ (hBk zy G.2.1 Sy ++ (mBk zw (zt 50) (zr 50) (zv 50) G.2.1 (sS (sS Sw 3 (-1)) 4 (-1)) ++ (hBk zv G.2.1 Sv ++ (R))))))))))))) 44 [(0, .ref (zn 50)), (1, .int (nI r)), (2, .ref (zw 50)), (3, .int b3), (4, .int b4), (5, .int (nI i))] [] := by
      intro m
      induction m using Nat.strongRecOn with
      | ind m ilp44 =>
      intro i t0 r0 Sx Sy Sv hr1 td1 b3 b4 hm hi hr1b htd1 hy1 hS hE
      refine j_iload 46 C dX10_when_44 rfl rfl ?_
      refine j_bipush 48 C dX10_when_46 rfl (v := nI 24) (by decide) ?_
      refine j_icmp_geN 90 51 C dX10_when_48 (by decide) rfl (by omega) (by omega) (fun c48 => ?_) (fun c48 => ?_)
      · refine j_iload_n 91 C dX10_when_90 rfl rfl ?_
        exact j_iret C dX10_when_91 ⟨by rw [if_pos c14, tn_nI (by omega), ← show i = 24 by omega, ← hE], _, _, _, _, _, _, _, _, hy1, (HR_X hS), rfl⟩
      · refine j_aload_n 52 C dX10_when_51 rfl rfl ?_
        refine Pdesk 55 C dX10_when_52 rfl (by decide) ⟨Nat.le_refl _, Nat.le_refl _⟩ (Nat.le_of_ble_eq_true rfl) ?_
        refine j_aload_n 56 C dX10_when_55 rfl rfl ?_
        refine j_iload_n 57 C dX10_when_56 rfl rfl ?_
        refine PWr_DI 60 C dX10_when_57 rfl cw10_166 rfl (K1_needsOf hT hR hW hS hy1 (by omega) (by omega) hrw) rfl (by decide) ⟨Nat.le_refl _, Nat.le_refl _⟩ rfl (Nat.le_of_ble_eq_true rfl) (fun x57 s57 hs57 => ?_)
        obtain ⟨e57, hy57⟩ := hs57
        rw [need_cv _ (nI 0)] at e57
        subst e57
        refine j_sI 63 C dX10_when_60 rfl cw10_186 K10_counted rfl (by decide) ⟨Nat.le_refl _, Nat.le_refl _⟩ rfl (Nat.le_of_ble_eq_true rfl) ?_
        refine j_istore 65 C dX10_when_63 rfl rfl (by decide) ?_
        refine j_iload 67 C dX10_when_65 rfl rfl ?_
        refine j_iload 69 C dX10_when_67 rfl rfl ?_
        refine j_icmp_ge 79 72 C dX10_when_69 (by decide) rfl (fun c69 => ?_) (fun c69 => ?_)
        · refine j_aload_n 80 C dX10_when_79 rfl rfl ?_
          refine j_iconst 81 C dX10_when_80 rfl (v := nI 1) (by decide) ?_
          refine PWr_VV 84 C dX10_when_81 rfl cw10_124 rfl (K3_passHours (cl := -1) hT hW hS rfl rfl (by omega) (by omega)) rfl (by decide) ⟨Nat.le_refl _, Nat.le_refl _⟩ rfl (Nat.le_of_ble_eq_true rfl) (fun s81 hs81 => ?_)
          obtain ⟨t81, ht81, -, hw81⟩ := hs81
          rw [hours_cv _ (nI 0)] at hw81
          refine j_iincN 87 (z := 1) C dX10_when_84 rfl rfl rfl (by decide) ?_
          refine j_goto 44 C dX10_when_87 (by decide) ?_
          exact j_weak _ (by exact ⟨rfl, rfl, rfl, rfl, rfl, rfl, trivial⟩) (ilp44 _ (by omega) (i + 1) _ _ _ _ s81 _ _ b3 b4 rfl (by omega) (by omega) (by omega) hy57 hw81 (by rw [f_wb, ← hE, if_pos c69]))
        · refine j_iload 74 C dX10_when_72 rfl rfl ?_
          refine j_istore 76 C dX10_when_74 rfl rfl (by decide) ?_
          refine j_iload 78 C dX10_when_76 rfl rfl ?_
          refine j_istore_n 79 C dX10_when_78 rfl rfl (by decide) ?_
          refine j_aload_n 80 C dX10_when_79 rfl rfl ?_
          refine j_iconst 81 C dX10_when_80 rfl (v := nI 1) (by decide) ?_
          refine PWr_VV 84 C dX10_when_81 rfl cw10_124 rfl (K3_passHours (cl := -1) hT hW hS rfl rfl (by omega) (by omega)) rfl (by decide) ⟨Nat.le_refl _, Nat.le_refl _⟩ rfl (Nat.le_of_ble_eq_true rfl) (fun s81 hs81 => ?_)
          obtain ⟨t81, ht81, -, hw81⟩ := hs81
          rw [hours_cv _ (nI 0)] at hw81
          refine j_iincN 87 (z := 1) C dX10_when_84 rfl rfl rfl (by decide) ?_
          refine j_goto 44 C dX10_when_87 (by decide) ?_
          exact j_weak _ (by exact ⟨rfl, rfl, rfl, rfl, rfl, rfl, trivial⟩) (ilp44 _ (by omega) (i + 1) _ _ _ _ s81 _ _ _ _ rfl (by omega) (by omega) (by omega) hy57 hw81 (by rw [f_wb, ← hE, if_neg c69]))
    refine j_aload_n 25 C dX10_when_24 rfl rfl ?_
    refine Pg_n4 28 C dX10_when_25 rfl fl10_20 ?_
    refine Pg_s0 31 C dX10_when_28 rfl fl10_61 ?_
    refine Pr_WR 34 C dX10_when_31 rfl cw10_182 rfl (K1_walkerFrom hH0 hv) rfl (by decide) ⟨Nat.le_refl _, Nat.le_refl _⟩ rfl (Nat.le_of_ble_eq_true rfl) (fun s31 hs31 => ?_)
    refine j_astore_n 35 C dX10_when_34 rfl rfl (by decide) ?_
    refine j_iconst 36 C dX10_when_35 rfl (v := (-1)) (by decide) ?_
    refine j_istore_n 37 C dX10_when_36 rfl rfl (by decide) ?_
    refine j_bipush 39 C dX10_when_37 rfl (v := nI 41) (by decide) ?_
    refine j_istore 41 C dX10_when_39 rfl rfl (by decide) ?_
    refine j_iconst 42 C dX10_when_41 rfl (v := nI 0) (by decide) ?_
    refine j_istore 44 C dX10_when_42 rfl rfl (by decide) ?_
    exact j_weak _ (by exact ⟨rfl, rfl, rfl, rfl, rfl, rfl, trivial⟩) (lp44 _ 0 _ _ _ _ _ hr td _ _ rfl (by omega) (by omega) (by omega) hy hs31 rfl)
  · refine j_bipush 19 C dX10_when_17 rfl (v := (-2)) (by decide) ?_
    exact j_iret C dX10_when_19 ⟨by rw [if_neg c14], _, _, _, _, _, _, _, _, hy, hv, rfl⟩
theorem K10_whenB (hT : TT (-1) St wd) (hR : RR Sr wd) (hW : WF wd) (hH0 : HR wd Sh hd hr td) (h3 : Sm.1 3 = -1) (h4 : Sm.1 4 = -1) (hhr : hr + 300 ≤ 1000000000) (htd : td + 100 ≤ 1000000000)  : Con l G yX10_when cX10_when 7 (some .int) 9 10 5119 [.ref (zn 50), .int x] (nBk zn (zs 50) G.2.1 Sn fi fs pa none ++ (sBk zs (zm 50) (zb 50) G.2.1 Ss ++ (mBk zm (zt 50) (zr 50) (zh 50) G.2.1 Sm ++ (hBk zh G.2.1 Sh ++ (tBk zt G.2.1 St ++ (rBk zr G.2.1 Sr ++ (bBk zb G.2.1 Sb ++ (R)))))))) (fun v w => v = some (.int (if isI x (nrw wd) then (f_wb wd (-1) (nI 0) (tn x) hd 24).1 else -2)) ∧ (w = (nBk zn (zs 50) G.2.1 Sn fi fs pa none ++ (sBk zs (zm 50) (zb 50) G.2.1 Ss ++ (mBk zm (zt 50) (zr 50) (zh 50) G.2.1 Sm ++ (hBk zh G.2.1 Sh ++ (tBk zt G.2.1 St ++ (rBk zr G.2.1 Sr ++ (bBk zb G.2.1 Sb ++ (R)))))))) ∨ ∃ (zd zx zy zw zv : Nat → Nat) (t0 r0 t1 r1 : Nat) (Sx Sy Sw Sv : MS), HX Sy ∧ HX Sv ∧ w = (nBk zn (zs 50) G.2.1 Sn fi fs pa (some (zd 50)) ++ (sBk zs (zm 50) (zb 50) G.2.1 Ss ++ (mBk zm (zt 50) (zr 50) (zh 50) G.2.1 Sm ++ (hBk zh G.2.1 Sh ++ (tBk zt G.2.1 St ++ (rBk zr G.2.1 Sr ++ (bBk zb G.2.1 Sb ++ (dBk zd (zx 50) (zw 50) G.2.1 MS0 (fun _ => none) ++ (mBk zx t0 r0 (zy 50) G.2.1 Sx ++ (hBk zy G.2.1 Sy ++ (mBk zw t1 r1 (zv 50) G.2.1 Sw ++ (hBk zv G.2.1 Sv ++ (R))))))))))))))) := by
  refine Con.mk (own := RX10) (by decide) rfl (Nat.le_of_ble_eq_true rfl) (fun X C => ?_)
  refine j_aload_n 1 C dX10_when_0 rfl rfl ?_
  refine Lng_n4 4 C dX10_when_1 rfl fl10_20 ?_
  refine Lng_s0 7 C dX10_when_4 rfl fl10_61 ?_
  refine Lng_m1 10 C dX10_when_7 rfl fl10_78 ?_
  refine j_iload_n 11 C dX10_when_10 rfl rfl ?_
  refine Lnx_rI 14 C dX10_when_11 rfl cw10_107 rfl (K5_has (hR.1.trans hW.2.2.1.1) hW.2.2.1.2) rfl (by decide) ⟨Nat.zero_le _, Nat.zero_le _⟩ rfl (Nat.le_of_ble_eq_true rfl) ?_
  refine j_if_neB 20 17 C dX10_when_14 (by decide) rfl (fun c14 => ?_) (fun c14 => ?_)
  · obtain ⟨r, hrw, rfl⟩ := isI_of c14
    have hr12 := (WF_len hW hrw).2.2.1
    refine j_aload_n 21 C dX10_when_20 rfl rfl ?_
    refine Ldesk0 24 C dX10_when_21 rfl (by decide) (Nat.le_of_ble_eq_true rfl) (fun zd zx zy zw zv => ?_)
    have hy := HX0
    have hv := HX0
    have lp44 : ∀ (m : Nat) (i : Nat) (t0 r0 : Nat) (Sx Sy : MS) (Sv : MS) (hr1 td1 : Nat) (b3 b4 : Int32), 24 - i = m → i ≤ 24 → hr1 ≤ hr + i → td1 ≤ td → HX Sy → HR wd Sv (f_hours wd (-1) (nI 0) i hd) hr1 td1 → (b3, b4) = (f_wb wd (-1) (nI 0) r hd i) → J X 7 10 5119 (nBk zn (zs 50) G.2.1 Sn fi fs pa (some (zd 50)) ++ (sBk zs (zm 50) (zb 50) G.2.1 Ss ++ (mBk zm (zt 50) (zr 50) (zh 50) G.2.1 Sm ++ (hBk zh G.2.1 Sh ++ (tBk zt G.2.1 St ++ (rBk zr G.2.1 Sr ++ (bBk zb G.2.1 Sb ++ (dBk zd (zx 50) (zw 50) G.2.1 MS0 (fun _ => none) ++ (mBk zx t0 r0 (zy 50) G.2.1 Sx ++ (hBk zy G.2.1 Sy ++ (mBk zw (zt 50) (zr 50) (zv 50) G.2.1 (sS (sS SM0 3 (-1)) 4 (-1)) ++ (hBk zv G.2.1 Sv ++ (R))))))))))))) 44 [(0, .ref (zn 50)), (1, .int (nI r)), (2, .ref (zw 50)), (3, .int b3), (4, .int b4), (5, .int (nI i))] [] := by
      intro m
      induction m using Nat.strongRecOn with
      | ind m ilp44 =>
      intro i t0 r0 Sx Sy Sv hr1 td1 b3 b4 hm hi hr1b htd1 hy1 hS hE
      refine j_iload 46 C dX10_when_44 rfl rfl ?_
      refine j_bipush 48 C dX10_when_46 rfl (v := nI 24) (by decide) ?_
      refine j_icmp_geN 90 51 C dX10_when_48 (by decide) rfl (by omega) (by omega) (fun c48 => ?_) (fun c48 => ?_)
      · refine j_iload_n 91 C dX10_when_90 rfl rfl ?_
        exact j_iret C dX10_when_91 ⟨by rw [if_pos c14, tn_nI (by omega), ← show i = 24 by omega, ← hE], Or.inr ⟨zd, zx, zy, zw, zv, _, _, _, _, _, _, _, _, hy1, (HR_X hS), rfl⟩⟩
      · refine j_aload_n 52 C dX10_when_51 rfl rfl ?_
        refine Pdesk 55 C dX10_when_52 rfl (by decide) ⟨Nat.le_refl _, Nat.le_refl _⟩ (Nat.le_of_ble_eq_true rfl) ?_
        refine j_aload_n 56 C dX10_when_55 rfl rfl ?_
        refine j_iload_n 57 C dX10_when_56 rfl rfl ?_
        refine PWr_DI 60 C dX10_when_57 rfl cw10_166 rfl (K1_needsOf hT hR hW hS hy1 (by omega) (by omega) hrw) rfl (by decide) ⟨Nat.le_refl _, Nat.le_refl _⟩ rfl (Nat.le_of_ble_eq_true rfl) (fun x57 s57 hs57 => ?_)
        obtain ⟨e57, hy57⟩ := hs57
        rw [need_cv _ (nI 0)] at e57
        subst e57
        refine j_sI 63 C dX10_when_60 rfl cw10_186 K10_counted rfl (by decide) ⟨Nat.le_refl _, Nat.le_refl _⟩ rfl (Nat.le_of_ble_eq_true rfl) ?_
        refine j_istore 65 C dX10_when_63 rfl rfl (by decide) ?_
        refine j_iload 67 C dX10_when_65 rfl rfl ?_
        refine j_iload 69 C dX10_when_67 rfl rfl ?_
        refine j_icmp_ge 79 72 C dX10_when_69 (by decide) rfl (fun c69 => ?_) (fun c69 => ?_)
        · refine j_aload_n 80 C dX10_when_79 rfl rfl ?_
          refine j_iconst 81 C dX10_when_80 rfl (v := nI 1) (by decide) ?_
          refine PWr_VV 84 C dX10_when_81 rfl cw10_124 rfl (K3_passHours (cl := -1) hT hW hS rfl rfl (by omega) (by omega)) rfl (by decide) ⟨Nat.le_refl _, Nat.le_refl _⟩ rfl (Nat.le_of_ble_eq_true rfl) (fun s81 hs81 => ?_)
          obtain ⟨t81, ht81, -, hw81⟩ := hs81
          rw [hours_cv _ (nI 0)] at hw81
          refine j_iincN 87 (z := 1) C dX10_when_84 rfl rfl rfl (by decide) ?_
          refine j_goto 44 C dX10_when_87 (by decide) ?_
          exact j_weak _ (by exact ⟨rfl, rfl, rfl, rfl, rfl, rfl, trivial⟩) (ilp44 _ (by omega) (i + 1) _ _ _ _ s81 _ _ b3 b4 rfl (by omega) (by omega) (by omega) hy57 hw81 (by rw [f_wb, ← hE, if_pos c69]))
        · refine j_iload 74 C dX10_when_72 rfl rfl ?_
          refine j_istore 76 C dX10_when_74 rfl rfl (by decide) ?_
          refine j_iload 78 C dX10_when_76 rfl rfl ?_
          refine j_istore_n 79 C dX10_when_78 rfl rfl (by decide) ?_
          refine j_aload_n 80 C dX10_when_79 rfl rfl ?_
          refine j_iconst 81 C dX10_when_80 rfl (v := nI 1) (by decide) ?_
          refine PWr_VV 84 C dX10_when_81 rfl cw10_124 rfl (K3_passHours (cl := -1) hT hW hS rfl rfl (by omega) (by omega)) rfl (by decide) ⟨Nat.le_refl _, Nat.le_refl _⟩ rfl (Nat.le_of_ble_eq_true rfl) (fun s81 hs81 => ?_)
          obtain ⟨t81, ht81, -, hw81⟩ := hs81
          rw [hours_cv _ (nI 0)] at hw81
          refine j_iincN 87 (z := 1) C dX10_when_84 rfl rfl rfl (by decide) ?_
          refine j_goto 44 C dX10_when_87 (by decide) ?_
          exact j_weak _ (by exact ⟨rfl, rfl, rfl, rfl, rfl, rfl, trivial⟩) (ilp44 _ (by omega) (i + 1) _ _ _ _ s81 _ _ _ _ rfl (by omega) (by omega) (by omega) hy57 hw81 (by rw [f_wb, ← hE, if_neg c69]))
    refine j_aload_n 25 C dX10_when_24 rfl rfl ?_
    refine Pg_n4 28 C dX10_when_25 rfl fl10_20 ?_
    refine Pg_s0 31 C dX10_when_28 rfl fl10_61 ?_
    refine Pr_WR 34 C dX10_when_31 rfl cw10_182 rfl (K1_walkerFrom hH0 hv) rfl (by decide) ⟨Nat.le_refl _, Nat.le_refl _⟩ rfl (Nat.le_of_ble_eq_true rfl) (fun s31 hs31 => ?_)
    refine j_astore_n 35 C dX10_when_34 rfl rfl (by decide) ?_
    refine j_iconst 36 C dX10_when_35 rfl (v := (-1)) (by decide) ?_
    refine j_istore_n 37 C dX10_when_36 rfl rfl (by decide) ?_
    refine j_bipush 39 C dX10_when_37 rfl (v := nI 41) (by decide) ?_
    refine j_istore 41 C dX10_when_39 rfl rfl (by decide) ?_
    refine j_iconst 42 C dX10_when_41 rfl (v := nI 0) (by decide) ?_
    refine j_istore 44 C dX10_when_42 rfl rfl (by decide) ?_
    exact j_weak _ (by exact ⟨rfl, rfl, rfl, rfl, rfl, rfl, trivial⟩) (lp44 _ 0 _ _ _ _ _ hr td _ _ rfl (by omega) (by omega) (by omega) hy hs31 rfl)
  · refine j_bipush 19 C dX10_when_17 rfl (v := (-2)) (by decide) ?_
    refine j_widen 10 5119 (by decide) (by decide) ?_
    exact j_iret C dX10_when_19 ⟨by rw [if_neg c14], Or.inl rfl⟩
theorem must_n {r i b2 : Nat} {b3 : Int32} (h : b2 = (f_mst wd (-1) (nI 0) r hd (i - 1)) ∧ b3 = (f_om (f_wo wd (-1) (nI 0) r b2 hd))) (hi : 1 ≤ i) (c : (f_om (f_wo wd (-1) (nI 0) r i hd)) ≤ b3) : b2 = (f_mst wd (-1) (nI 0) r hd (i + 1 - 1)) ∧ b3 = (f_om (f_wo wd (-1) (nI 0) r b2 hd)) := by
  refine ⟨?_, h.2⟩
  obtain ⟨j, rfl⟩ : ∃ j, i = j + 1 := ⟨i - 1, by omega⟩
  have h1 : b2 = (f_mst wd (-1) (nI 0) r hd j) := h.1
  show b2 = (f_mst wd (-1) (nI 0) r hd (j + 1))
  rw [f_mst, ← h1, ← h.2, if_pos c]
theorem must_y {r i b2 : Nat} {b3 : Int32} (h0 : 1 ≤ i → b2 = (f_mst wd (-1) (nI 0) r hd (i - 1)) ∧ b3 = (f_om (f_wo wd (-1) (nI 0) r b2 hd))) (c : ¬ (f_om (f_wo wd (-1) (nI 0) r i hd)) ≤ b3) : i = (f_mst wd (-1) (nI 0) r hd (i + 1 - 1)) ∧ (f_om (f_wo wd (-1) (nI 0) r i hd)) = (f_om (f_wo wd (-1) (nI 0) r i hd)) := by
  refine ⟨?_, rfl⟩
  cases i with
  | zero => rfl
  | succ j =>
    have h := h0 (by omega)
    have h1 : b2 = (f_mst wd (-1) (nI 0) r hd j) := h.1
    show j + 1 = (f_mst wd (-1) (nI 0) r hd (j + 1))
    rw [f_mst, ← h1, ← h.2, if_neg c]
theorem K10_mustA (hT : TT (-1) St wd) (hR : RR Sr wd) (hW : WF wd) (hH0 : HR wd Sh hd hr td) (h3 : Sm.1 3 = -1) (h4 : Sm.1 4 = -1) (hhr : hr + 300 ≤ 1000000000) (htd : td + 100 ≤ 1000000000) (hy : HX Sy) (hv : HX Sv)  : Con l G yX10_must cX10_must 6 (some .int) 9 0 0 [.ref (zn 50), .int x] (nBk zn (zs 50) G.2.1 Sn fi fs pa (some (zd 50)) ++ (sBk zs (zm 50) (zb 50) G.2.1 Ss ++ (mBk zm (zt 50) (zr 50) (zh 50) G.2.1 Sm ++ (hBk zh G.2.1 Sh ++ (tBk zt G.2.1 St ++ (rBk zr G.2.1 Sr ++ (bBk zb G.2.1 Sb ++ (dBk zd (zx 50) (zw 50) G.2.1 Sd qd ++ (mBk zx t0 r0 (zy 50) G.2.1 Sx ++ (hBk zy G.2.1 Sy ++ (mBk zw t1 r1 (zv 50) G.2.1 Sw ++ (hBk zv G.2.1 Sv ++ (R))))))))))))) (fun v w => v = some (.int (if isI x (nrw wd) then nI (f_mst wd (-1) (nI 0) (tn x) hd 3) else -2)) ∧ ∃ (t0 r0 t1 r1 : Nat) (Sx Sy Sw Sv : MS), HX Sy ∧ HX Sv ∧ w = (nBk zn (zs 50) G.2.1 Sn fi fs pa (some (zd 50)) ++ (sBk zs (zm 50) (zb 50) G.2.1 Ss ++ (mBk zm (zt 50) (zr 50) (zh 50) G.2.1 Sm ++ (hBk zh G.2.1 Sh ++ (tBk zt G.2.1 St ++ (rBk zr G.2.1 Sr ++ (bBk zb G.2.1 Sb ++ (dBk zd (zx 50) (zw 50) G.2.1 Sd qd ++ (mBk zx t0 r0 (zy 50) G.2.1 Sx ++ (hBk zy G.2.1 Sy ++ (mBk zw t1 r1 (zv 50) G.2.1 Sw ++ (hBk zv G.2.1 Sv ++ (R)))))))))))))) := by
  refine Con.mk (own := RX10) (by decide) rfl (Nat.le_of_ble_eq_true rfl) (fun X C => ?_)
  refine j_aload_n 1 C dX10_must_0 rfl rfl ?_
  refine Pg_n4 4 C dX10_must_1 rfl fl10_20 ?_
  refine Pg_s0 7 C dX10_must_4 rfl fl10_61 ?_
  refine Pg_m1 10 C dX10_must_7 rfl fl10_78 ?_
  refine j_iload_n 11 C dX10_must_10 rfl rfl ?_
  refine Px_rI 14 C dX10_must_11 rfl cw10_107 rfl (K5_has (hR.1.trans hW.2.2.1.1) hW.2.2.1.2) rfl (by decide) ⟨Nat.le_refl _, Nat.le_refl _⟩ rfl (Nat.le_of_ble_eq_true rfl) ?_
  refine j_if_neB 20 17 C dX10_must_14 (by decide) rfl (fun c14 => ?_) (fun c14 => ?_)
  · obtain ⟨r, hrw, rfl⟩ := isI_of c14
    have hr12 := (WF_len hW hrw).2.2.1
    refine j_iconst 21 C dX10_must_20 rfl (v := nI 0) (by decide) ?_
    refine j_istore_n 22 C dX10_must_21 rfl rfl (by decide) ?_
    refine j_iconst 23 C dX10_must_22 rfl (v := nI 0) (by decide) ?_
    refine j_istore_n 24 C dX10_must_23 rfl rfl (by decide) ?_
    refine j_iconst 25 C dX10_must_24 rfl (v := nI 0) (by decide) ?_
    refine j_istore 27 C dX10_must_25 rfl rfl (by decide) ?_
    refine j_iload 29 C dX10_must_27 rfl rfl ?_
    refine j_iconst 30 C dX10_must_29 rfl (v := nI 4) (by decide) ?_
    refine j_icmp_geN 73 33 C dX10_must_30 (by decide) rfl (by omega) (by omega) (fun c30 => absurd c30 (by omega)) (fun c30 => ?_)
    refine j_aload_n 34 C dX10_must_33 rfl rfl ?_
    refine Pdesk 37 C dX10_must_34 rfl (by decide) ⟨Nat.le_refl _, Nat.le_refl _⟩ (Nat.le_of_ble_eq_true rfl) ?_
    have lp27 : ∀ (m : Nat) (i b2 : Nat) (b3 : Int32) (t0 r0 t1 r1 : Nat) (Sx Sy Sw Sv : MS), 4 - i = m → 1 ≤ i → i ≤ 4 → HX Sy → HX Sv → (1 ≤ i → b2 = (f_mst wd (-1) (nI 0) r hd (i - 1)) ∧ b3 = (f_om (f_wo wd (-1) (nI 0) r b2 hd))) → J X 6 0 0 (nBk zn (zs 50) G.2.1 Sn fi fs pa (some (zd 50)) ++ (sBk zs (zm 50) (zb 50) G.2.1 Ss ++ (mBk zm (zt 50) (zr 50) (zh 50) G.2.1 Sm ++ (hBk zh G.2.1 Sh ++ (tBk zt G.2.1 St ++ (rBk zr G.2.1 Sr ++ (bBk zb G.2.1 Sb ++ (dBk zd (zx 50) (zw 50) G.2.1 Sd qd ++ (mBk zx t0 r0 (zy 50) G.2.1 Sx ++ (hBk zy G.2.1 Sy ++ (mBk zw t1 r1 (zv 50) G.2.1 Sw ++ (hBk zv G.2.1 Sv ++ (R))))))))))))) 27 [(0, .ref (zn 50)), (1, .int (nI r)), (2, .int (nI b2)), (3, .int b3), (4, .int (nI i))] [] := by
      intro m
      induction m using Nat.strongRecOn with
      | ind m ilp27 =>
      intro i b2 b3 t0 r0 t1 r1 Sx Sy Sw Sv hm hi1 hi hy1 hv1 hE
      refine j_iload 29 C dX10_must_27 rfl rfl ?_
      refine j_iconst 30 C dX10_must_29 rfl (v := nI 4) (by decide) ?_
      refine j_icmp_geN 73 33 C dX10_must_30 (by decide) rfl (by omega) (by omega) (fun c30 => ?_) (fun c30 => ?_)
      · refine j_iload_n 74 C dX10_must_73 rfl rfl ?_
        exact j_iret C dX10_must_74 ⟨by rw [if_pos c14, tn_nI (by omega), (hE (by omega)).1, show i - 1 = 3 by omega], _, _, _, _, _, _, _, _, hy1, hv1, rfl⟩
      · have hi4 : i < 4 := by omega
        refine j_aload_n 34 C dX10_must_33 rfl rfl ?_
        refine Pdesk 37 C dX10_must_34 rfl (by decide) ⟨Nat.le_refl _, Nat.le_refl _⟩ (Nat.le_of_ble_eq_true rfl) ?_
        refine j_aload_n 38 C dX10_must_37 rfl rfl ?_
        refine Pg_n4 41 C dX10_must_38 rfl fl10_20 ?_
        refine Pg_s0 44 C dX10_must_41 rfl fl10_61 ?_
        refine j_iload_n 45 C dX10_must_44 rfl rfl ?_
        refine j_iload 47 C dX10_must_45 rfl rfl ?_
        refine Pr_DI 50 C dX10_must_47 rfl cw10_189 rfl (K1_needsWithout hT hR hW hH0 hy1 (by omega) (by omega) hrw hi4) rfl (by decide) ⟨Nat.le_refl _, Nat.le_refl _⟩ rfl (Nat.le_of_ble_eq_true rfl) (fun x47 s47 hs47 => ?_)
        obtain ⟨e47, hy47⟩ := hs47
        rw [need_cv _ (nI 0)] at e47
        subst e47
        refine j_sI 53 C dX10_must_50 rfl cw10_186 K10_counted rfl (by decide) ⟨Nat.le_refl _, Nat.le_refl _⟩ rfl (Nat.le_of_ble_eq_true rfl) ?_
        refine j_istore 55 C dX10_must_53 rfl rfl (by decide) ?_
        refine j_iload 57 C dX10_must_55 rfl rfl ?_
        refine j_iload_n 58 C dX10_must_57 rfl rfl ?_
        refine j_icmp_le 67 61 C dX10_must_58 (by decide) rfl (fun c58 => ?_) (fun c58 => ?_)
        · refine j_iincN 70 (z := 1) C dX10_must_67 rfl rfl rfl (by decide) ?_
          refine j_goto 27 C dX10_must_70 (by decide) ?_
          exact j_weak _ (by exact ⟨rfl, rfl, rfl, rfl, rfl, trivial⟩) (ilp27 _ (by omega) (i + 1) _ _ _ _ _ _ _ _ _ _ rfl (by omega) (by omega) hy47 hv1 (fun _ => must_n (hE (by omega)) (by omega) c58))
        · refine j_iload 63 C dX10_must_61 rfl rfl ?_
          refine j_istore_n 64 C dX10_must_63 rfl rfl (by decide) ?_
          refine j_iload 66 C dX10_must_64 rfl rfl ?_
          refine j_istore_n 67 C dX10_must_66 rfl rfl (by decide) ?_
          refine j_iincN 70 (z := 1) C dX10_must_67 rfl rfl rfl (by decide) ?_
          refine j_goto 27 C dX10_must_70 (by decide) ?_
          exact j_weak _ (by exact ⟨rfl, rfl, rfl, rfl, rfl, trivial⟩) (ilp27 _ (by omega) (i + 1) _ _ _ _ _ _ _ _ _ _ rfl (by omega) (by omega) hy47 hv1 (fun _ => must_y hE c58))
    refine j_aload_n 38 C dX10_must_37 rfl rfl ?_
    refine Pg_n4 41 C dX10_must_38 rfl fl10_20 ?_
    refine Pg_s0 44 C dX10_must_41 rfl fl10_61 ?_
    refine j_iload_n 45 C dX10_must_44 rfl rfl ?_
    refine j_iload 47 C dX10_must_45 rfl rfl ?_
    refine Pr_DI 50 C dX10_must_47 rfl cw10_189 rfl (K1_needsWithout hT hR hW hH0 hy (by omega) (by omega) hrw (s0 := 0) (by omega)) rfl (by decide) ⟨Nat.le_refl _, Nat.le_refl _⟩ rfl (Nat.le_of_ble_eq_true rfl) (fun x47 s47 hs47 => ?_)
    obtain ⟨e47, hy47⟩ := hs47
    rw [need_cv _ (nI 0)] at e47
    subst e47
    refine j_sI 53 C dX10_must_50 rfl cw10_186 K10_counted rfl (by decide) ⟨Nat.le_refl _, Nat.le_refl _⟩ rfl (Nat.le_of_ble_eq_true rfl) ?_
    refine j_istore 55 C dX10_must_53 rfl rfl (by decide) ?_
    refine j_iload 57 C dX10_must_55 rfl rfl ?_
    refine j_iload_n 58 C dX10_must_57 rfl rfl ?_
    refine j_icmp_le 67 61 C dX10_must_58 (by decide) rfl (fun c58 => absurd c58 om_pos) (fun c58 => ?_)
    refine j_iload 63 C dX10_must_61 rfl rfl ?_
    refine j_istore_n 64 C dX10_must_63 rfl rfl (by decide) ?_
    refine j_iload 66 C dX10_must_64 rfl rfl ?_
    refine j_istore_n 67 C dX10_must_66 rfl rfl (by decide) ?_
    refine j_iincN 70 (z := 1) C dX10_must_67 rfl rfl rfl (by decide) ?_
    refine j_goto 27 C dX10_must_70 (by decide) ?_
    exact j_weak _ (by exact ⟨rfl, rfl, rfl, rfl, rfl, trivial⟩) (lp27 _ 1 0 _ _ _ _ _ _ _ _ _ rfl (by omega) (by omega) hy47 hv (fun _ => ⟨rfl, rfl⟩))
  · refine j_bipush 19 C dX10_must_17 rfl (v := (-2)) (by decide) ?_
    exact j_iret C dX10_must_19 ⟨by rw [if_neg c14], _, _, _, _, _, _, _, _, hy, hv, rfl⟩
theorem K10_mustB (hT : TT (-1) St wd) (hR : RR Sr wd) (hW : WF wd) (hH0 : HR wd Sh hd hr td) (h3 : Sm.1 3 = -1) (h4 : Sm.1 4 = -1) (hhr : hr + 300 ≤ 1000000000) (htd : td + 100 ≤ 1000000000)  : Con l G yX10_must cX10_must 6 (some .int) 9 10 5119 [.ref (zn 50), .int x] (nBk zn (zs 50) G.2.1 Sn fi fs pa none ++ (sBk zs (zm 50) (zb 50) G.2.1 Ss ++ (mBk zm (zt 50) (zr 50) (zh 50) G.2.1 Sm ++ (hBk zh G.2.1 Sh ++ (tBk zt G.2.1 St ++ (rBk zr G.2.1 Sr ++ (bBk zb G.2.1 Sb ++ (R)))))))) (fun v w => v = some (.int (if isI x (nrw wd) then nI (f_mst wd (-1) (nI 0) (tn x) hd 3) else -2)) ∧ (w = (nBk zn (zs 50) G.2.1 Sn fi fs pa none ++ (sBk zs (zm 50) (zb 50) G.2.1 Ss ++ (mBk zm (zt 50) (zr 50) (zh 50) G.2.1 Sm ++ (hBk zh G.2.1 Sh ++ (tBk zt G.2.1 St ++ (rBk zr G.2.1 Sr ++ (bBk zb G.2.1 Sb ++ (R)))))))) ∨ ∃ (zd zx zy zw zv : Nat → Nat) (t0 r0 t1 r1 : Nat) (Sx Sy Sw Sv : MS), HX Sy ∧ HX Sv ∧ w = (nBk zn (zs 50) G.2.1 Sn fi fs pa (some (zd 50)) ++ (sBk zs (zm 50) (zb 50) G.2.1 Ss ++ (mBk zm (zt 50) (zr 50) (zh 50) G.2.1 Sm ++ (hBk zh G.2.1 Sh ++ (tBk zt G.2.1 St ++ (rBk zr G.2.1 Sr ++ (bBk zb G.2.1 Sb ++ (dBk zd (zx 50) (zw 50) G.2.1 MS0 (fun _ => none) ++ (mBk zx t0 r0 (zy 50) G.2.1 Sx ++ (hBk zy G.2.1 Sy ++ (mBk zw t1 r1 (zv 50) G.2.1 Sw ++ (hBk zv G.2.1 Sv ++ (R))))))))))))))) := by
  refine Con.mk (own := RX10) (by decide) rfl (Nat.le_of_ble_eq_true rfl) (fun X C => ?_)
  refine j_aload_n 1 C dX10_must_0 rfl rfl ?_
  refine Lng_n4 4 C dX10_must_1 rfl fl10_20 ?_
  refine Lng_s0 7 C dX10_must_4 rfl fl10_61 ?_
  refine Lng_m1 10 C dX10_must_7 rfl fl10_78 ?_
  refine j_iload_n 11 C dX10_must_10 rfl rfl ?_
  refine Lnx_rI 14 C dX10_must_11 rfl cw10_107 rfl (K5_has (hR.1.trans hW.2.2.1.1) hW.2.2.1.2) rfl (by decide) ⟨Nat.zero_le _, Nat.zero_le _⟩ rfl (Nat.le_of_ble_eq_true rfl) ?_
  refine j_if_neB 20 17 C dX10_must_14 (by decide) rfl (fun c14 => ?_) (fun c14 => ?_)
  · obtain ⟨r, hrw, rfl⟩ := isI_of c14
    have hr12 := (WF_len hW hrw).2.2.1
    refine j_iconst 21 C dX10_must_20 rfl (v := nI 0) (by decide) ?_
    refine j_istore_n 22 C dX10_must_21 rfl rfl (by decide) ?_
    refine j_iconst 23 C dX10_must_22 rfl (v := nI 0) (by decide) ?_
    refine j_istore_n 24 C dX10_must_23 rfl rfl (by decide) ?_
    refine j_iconst 25 C dX10_must_24 rfl (v := nI 0) (by decide) ?_
    refine j_istore 27 C dX10_must_25 rfl rfl (by decide) ?_
    refine j_iload 29 C dX10_must_27 rfl rfl ?_
    refine j_iconst 30 C dX10_must_29 rfl (v := nI 4) (by decide) ?_
    refine j_icmp_geN 73 33 C dX10_must_30 (by decide) rfl (by omega) (by omega) (fun c30 => absurd c30 (by omega)) (fun c30 => ?_)
    refine j_aload_n 34 C dX10_must_33 rfl rfl ?_
    refine Ldesk0 37 C dX10_must_34 rfl (by decide) (Nat.le_of_ble_eq_true rfl) (fun zd zx zy zw zv => ?_)
    have hy := HX0
    have hv := HX0
    have lp27 : ∀ (m : Nat) (i b2 : Nat) (b3 : Int32) (t0 r0 t1 r1 : Nat) (Sx Sy Sw Sv : MS), 4 - i = m → 1 ≤ i → i ≤ 4 → HX Sy → HX Sv → (1 ≤ i → b2 = (f_mst wd (-1) (nI 0) r hd (i - 1)) ∧ b3 = (f_om (f_wo wd (-1) (nI 0) r b2 hd))) → J X 6 10 5119 (nBk zn (zs 50) G.2.1 Sn fi fs pa (some (zd 50)) ++ (sBk zs (zm 50) (zb 50) G.2.1 Ss ++ (mBk zm (zt 50) (zr 50) (zh 50) G.2.1 Sm ++ (hBk zh G.2.1 Sh ++ (tBk zt G.2.1 St ++ (rBk zr G.2.1 Sr ++ (bBk zb G.2.1 Sb ++ (dBk zd (zx 50) (zw 50) G.2.1 MS0 (fun _ => none) ++ (mBk zx t0 r0 (zy 50) G.2.1 Sx ++ (hBk zy G.2.1 Sy ++ (mBk zw t1 r1 (zv 50) G.2.1 Sw ++ (hBk zv G.2.1 Sv ++ (R))))))))))))) 27 [(0, .ref (zn 50)), (1, .int (nI r)), (2, .int (nI b2)), (3, .int b3), (4, .int (nI i))] [] := by
      intro m
      induction m using Nat.strongRecOn with
      | ind m ilp27 =>
      intro i b2 b3 t0 r0 t1 r1 Sx Sy Sw Sv hm hi1 hi hy1 hv1 hE
      refine j_iload 29 C dX10_must_27 rfl rfl ?_
      refine j_iconst 30 C dX10_must_29 rfl (v := nI 4) (by decide) ?_
      refine j_icmp_geN 73 33 C dX10_must_30 (by decide) rfl (by omega) (by omega) (fun c30 => ?_) (fun c30 => ?_)
      · refine j_iload_n 74 C dX10_must_73 rfl rfl ?_
        exact j_iret C dX10_must_74 ⟨by rw [if_pos c14, tn_nI (by omega), (hE (by omega)).1, show i - 1 = 3 by omega], Or.inr ⟨zd, zx, zy, zw, zv, _, _, _, _, _, _, _, _, hy1, hv1, rfl⟩⟩
      · have hi4 : i < 4 := by omega
        refine j_aload_n 34 C dX10_must_33 rfl rfl ?_
        refine Pdesk 37 C dX10_must_34 rfl (by decide) ⟨Nat.le_refl _, Nat.le_refl _⟩ (Nat.le_of_ble_eq_true rfl) ?_
        refine j_aload_n 38 C dX10_must_37 rfl rfl ?_
        refine Pg_n4 41 C dX10_must_38 rfl fl10_20 ?_
        refine Pg_s0 44 C dX10_must_41 rfl fl10_61 ?_
        refine j_iload_n 45 C dX10_must_44 rfl rfl ?_
        refine j_iload 47 C dX10_must_45 rfl rfl ?_
        refine Pr_DI 50 C dX10_must_47 rfl cw10_189 rfl (K1_needsWithout hT hR hW hH0 hy1 (by omega) (by omega) hrw hi4) rfl (by decide) ⟨Nat.le_refl _, Nat.le_refl _⟩ rfl (Nat.le_of_ble_eq_true rfl) (fun x47 s47 hs47 => ?_)
        obtain ⟨e47, hy47⟩ := hs47
        rw [need_cv _ (nI 0)] at e47
        subst e47
        refine j_sI 53 C dX10_must_50 rfl cw10_186 K10_counted rfl (by decide) ⟨Nat.le_refl _, Nat.le_refl _⟩ rfl (Nat.le_of_ble_eq_true rfl) ?_
        refine j_istore 55 C dX10_must_53 rfl rfl (by decide) ?_
        refine j_iload 57 C dX10_must_55 rfl rfl ?_
        refine j_iload_n 58 C dX10_must_57 rfl rfl ?_
        refine j_icmp_le 67 61 C dX10_must_58 (by decide) rfl (fun c58 => ?_) (fun c58 => ?_)
        · refine j_iincN 70 (z := 1) C dX10_must_67 rfl rfl rfl (by decide) ?_
          refine j_goto 27 C dX10_must_70 (by decide) ?_
          exact j_weak _ (by exact ⟨rfl, rfl, rfl, rfl, rfl, trivial⟩) (ilp27 _ (by omega) (i + 1) _ _ _ _ _ _ _ _ _ _ rfl (by omega) (by omega) hy47 hv1 (fun _ => must_n (hE (by omega)) (by omega) c58))
        · refine j_iload 63 C dX10_must_61 rfl rfl ?_
          refine j_istore_n 64 C dX10_must_63 rfl rfl (by decide) ?_
          refine j_iload 66 C dX10_must_64 rfl rfl ?_
          refine j_istore_n 67 C dX10_must_66 rfl rfl (by decide) ?_
          refine j_iincN 70 (z := 1) C dX10_must_67 rfl rfl rfl (by decide) ?_
          refine j_goto 27 C dX10_must_70 (by decide) ?_
          exact j_weak _ (by exact ⟨rfl, rfl, rfl, rfl, rfl, trivial⟩) (ilp27 _ (by omega) (i + 1) _ _ _ _ _ _ _ _ _ _ rfl (by omega) (by omega) hy47 hv1 (fun _ => must_y hE c58))
    refine j_aload_n 38 C dX10_must_37 rfl rfl ?_
    refine Pg_n4 41 C dX10_must_38 rfl fl10_20 ?_
    refine Pg_s0 44 C dX10_must_41 rfl fl10_61 ?_
    refine j_iload_n 45 C dX10_must_44 rfl rfl ?_
    refine j_iload 47 C dX10_must_45 rfl rfl ?_
    refine Pr_DI 50 C dX10_must_47 rfl cw10_189 rfl (K1_needsWithout hT hR hW hH0 hy (by omega) (by omega) hrw (s0 := 0) (by omega)) rfl (by decide) ⟨Nat.le_refl _, Nat.le_refl _⟩ rfl (Nat.le_of_ble_eq_true rfl) (fun x47 s47 hs47 => ?_)
    obtain ⟨e47, hy47⟩ := hs47
    rw [need_cv _ (nI 0)] at e47
    subst e47
    refine j_sI 53 C dX10_must_50 rfl cw10_186 K10_counted rfl (by decide) ⟨Nat.le_refl _, Nat.le_refl _⟩ rfl (Nat.le_of_ble_eq_true rfl) ?_
    refine j_istore 55 C dX10_must_53 rfl rfl (by decide) ?_
    refine j_iload 57 C dX10_must_55 rfl rfl ?_
    refine j_iload_n 58 C dX10_must_57 rfl rfl ?_
    refine j_icmp_le 67 61 C dX10_must_58 (by decide) rfl (fun c58 => absurd c58 om_pos) (fun c58 => ?_)
    refine j_iload 63 C dX10_must_61 rfl rfl ?_
    refine j_istore_n 64 C dX10_must_63 rfl rfl (by decide) ?_
    refine j_iload 66 C dX10_must_64 rfl rfl ?_
    refine j_istore_n 67 C dX10_must_66 rfl rfl (by decide) ?_
    refine j_iincN 70 (z := 1) C dX10_must_67 rfl rfl rfl (by decide) ?_
    refine j_goto 27 C dX10_must_70 (by decide) ?_
    exact j_weak _ (by exact ⟨rfl, rfl, rfl, rfl, rfl, trivial⟩) (lp27 _ 1 0 _ _ _ _ _ _ _ _ _ rfl (by omega) (by omega) hy47 hv (fun _ => ⟨rfl, rfl⟩))
  · refine j_bipush 19 C dX10_must_17 rfl (v := (-2)) (by decide) ?_
    refine j_widen 10 5119 (by decide) (by decide) ?_
    exact j_iret C dX10_must_19 ⟨by rw [if_neg c14], Or.inl rfl⟩
end SN5
