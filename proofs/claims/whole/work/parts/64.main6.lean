section SN6
variable {l : Launch} {G : GG} {wd hd : Nat → Int32} {hr td : Nat} {x y z : Int32} {zn zs zm zh zt zr zb zd zx zy zw zv : Nat → Nat} {Sn Ss Sm Sh St Sr Sb Sd Sx Sy Sw Sv : MS} {r0 r1 t0 t1 : Nat} {fi fs : Nat → Option Nat} {pa : Option Nat} {qd : Nat → Option Nat} {R : va_W}
theorem K10_lessened  : Con l G yX10_lessened cX10_lessened 2 (some .int) 1 0 0 [.int x, .int y] [] (pI (if x = -1 ∨ y = -1 then -2000000000 else x - y) []) := by
  refine Con.mk (own := RX10) (by decide) rfl (Nat.le_of_ble_eq_true rfl) (fun X C => ?_)
  refine j_iload_n 1 C dX10_lessened_0 rfl rfl ?_
  refine j_iconst 2 C dX10_lessened_1 rfl (v := (-1)) (by decide) ?_
  refine j_icmp_eq 10 5 C dX10_lessened_2 (by decide) rfl (fun c2 => ?_) (fun c2 => ?_)
  · refine j_ldc 12 C dX10_lessened_10 rfl (v := (-2000000000)) kc10_181 ?_
    refine j_goto 18 C dX10_lessened_12 (by decide) ?_
    exact j_iret C dX10_lessened_18 ⟨by rw [if_pos (Or.inl c2)], rfl⟩
  · refine j_iload_n 6 C dX10_lessened_5 rfl rfl ?_
    refine j_iconst 7 C dX10_lessened_6 rfl (v := (-1)) (by decide) ?_
    refine j_icmp_ne 15 10 C dX10_lessened_7 (by decide) rfl (fun c7 => ?_) (fun c7 => ?_)
    · refine j_iload_n 16 C dX10_lessened_15 rfl rfl ?_
      refine j_iload_n 17 C dX10_lessened_16 rfl rfl ?_
      refine j_isub 18 C dX10_lessened_17 rfl ?_
      exact j_iret C dX10_lessened_18 ⟨by rw [if_neg (fun q => q.elim c2 c7)], rfl⟩
    · refine j_ldc 12 C dX10_lessened_10 rfl (v := (-2000000000)) kc10_181 ?_
      refine j_goto 18 C dX10_lessened_12 (by decide) ?_
      exact j_iret C dX10_lessened_18 ⟨by rw [if_pos (Or.inr c7)], rfl⟩
theorem pos1 {x : Int32} (h : ¬ x < nI 1) : 1 ≤ x.toInt := by
  rw [Int32.lt_iff_toInt_lt, show (nI 1).toInt = 1 by decide] at h; omega
theorem bet_if {a b c v w : Int32} (h : ¬ a = v) : (if b = v ∨ c = v then w else b - c) = (if a = v ∨ c = v ∨ b = v then w else b - c) := by
  by_cases e : b = v ∨ c = v
  · rw [if_pos e, if_pos (Or.inr e.symm)]
  · rw [if_neg e, if_neg (fun z => z.elim h (fun q => e q.symm))]
theorem eve_if {a a2 b c v w : Int32} (h : ¬ a = v) (h2 : ¬ a2 = v) : (if b = v ∨ c = v then w else b - c) = (if a = v ∨ a2 = v ∨ b = v ∨ c = v then w else b - c) := by
  by_cases e : b = v ∨ c = v
  · rw [if_pos e, if_pos (Or.inr (Or.inr e))]
  · rw [if_neg e, if_neg (fun z => z.elim h (fun q => q.elim h2 e))]
theorem K10_betweenA (hT : TT (-1) St wd) (hR : RR Sr wd) (hW : WF wd) (hH0 : HR wd Sh hd hr td) (h3 : Sm.1 3 = -1) (h4 : Sm.1 4 = -1) (hhr : hr + 300 ≤ 1000000000) (htd : td + 100 ≤ 1000000000) (hy : HX Sy) (hv : HX Sv)  : Con l G yX10_between cX10_between 7 (some .int) 9 0 0 [.ref (zn 50), .int x, .int y, .int z] (nBk zn (zs 50) G.2.1 Sn fi fs pa (some (zd 50)) ++ (sBk zs (zm 50) (zb 50) G.2.1 Ss ++ (mBk zm (zt 50) (zr 50) (zh 50) G.2.1 Sm ++ (hBk zh G.2.1 Sh ++ (tBk zt G.2.1 St ++ (rBk zr G.2.1 Sr ++ (bBk zb G.2.1 Sb ++ (dBk zd (zx 50) (zw 50) G.2.1 Sd qd ++ (mBk zx t0 r0 (zy 50) G.2.1 Sx ++ (hBk zy G.2.1 Sy ++ (mBk zw t1 r1 (zv 50) G.2.1 Sw ++ (hBk zv G.2.1 Sv ++ (R))))))))))))) (fun v w => v = some (.int (if isI x (nrw wd) ∧ isI y (nrw wd) ∧ ¬ x = y ∧ isP z 201 then f_bet wd (-1) (nI 0) (tn x) (tn y) (tn z) hd else -2000000000)) ∧ ∃ (t0 r0 t1 r1 : Nat) (Sx Sy Sw Sv : MS), HX Sy ∧ HX Sv ∧ w = (nBk zn (zs 50) G.2.1 Sn fi fs pa (some (zd 50)) ++ (sBk zs (zm 50) (zb 50) G.2.1 Ss ++ (mBk zm (zt 50) (zr 50) (zh 50) G.2.1 Sm ++ (hBk zh G.2.1 Sh ++ (tBk zt G.2.1 St ++ (rBk zr G.2.1 Sr ++ (bBk zb G.2.1 Sb ++ (dBk zd (zx 50) (zw 50) G.2.1 Sd qd ++ (mBk zx t0 r0 (zy 50) G.2.1 Sx ++ (hBk zy G.2.1 Sy ++ (mBk zw t1 r1 (zv 50) G.2.1 Sw ++ (hBk zv G.2.1 Sv ++ (R)))))))))))))) := by
  refine Con.mk (own := RX10) (by decide) rfl (Nat.le_of_ble_eq_true rfl) (fun X C => ?_)
  refine j_aload_n 1 C dX10_between_0 rfl rfl ?_
  refine Pg_n4 4 C dX10_between_1 rfl fl10_20 ?_
  refine Pg_s0 7 C dX10_between_4 rfl fl10_61 ?_
  refine Pg_m1 10 C dX10_between_7 rfl fl10_78 ?_
  refine j_astore 12 C dX10_between_10 rfl rfl (by decide) ?_
  refine j_aload 14 C dX10_between_12 rfl rfl ?_
  refine j_iload_n 15 C dX10_between_14 rfl rfl ?_
  refine Px_rI 18 C dX10_between_15 rfl cw10_107 rfl (K5_has (hR.1.trans hW.2.2.1.1) hW.2.2.1.2) rfl (by decide) ⟨Nat.le_refl _, Nat.le_refl _⟩ rfl (Nat.le_of_ble_eq_true rfl) ?_
  refine j_if_eqB 48 21 C dX10_between_18 (by decide) rfl (fun c18 => ?_) (fun c18 => ?_)
  · refine j_ldc 50 C dX10_between_48 rfl (v := (-2000000000)) kc10_181 ?_
    exact j_iret C dX10_between_50 ⟨by rw [if_neg (fun z => c18 z.1)], _, _, _, _, _, _, _, _, hy, hv, rfl⟩
  · obtain ⟨r, hrw, rfl⟩ := isI_of c18
    have hr12 := (WF_len hW hrw).2.2.1
    refine j_aload 23 C dX10_between_21 rfl rfl ?_
    refine j_iload_n 24 C dX10_between_23 rfl rfl ?_
    refine Px_rI 27 C dX10_between_24 rfl cw10_107 rfl (K5_has (hR.1.trans hW.2.2.1.1) hW.2.2.1.2) rfl (by decide) ⟨Nat.le_refl _, Nat.le_refl _⟩ rfl (Nat.le_of_ble_eq_true rfl) ?_
    refine j_if_eqB 48 30 C dX10_between_27 (by decide) rfl (fun c27 => ?_) (fun c27 => ?_)
    · refine j_ldc 50 C dX10_between_48 rfl (v := (-2000000000)) kc10_181 ?_
      exact j_iret C dX10_between_50 ⟨by rw [if_neg (fun z => c27 z.2.1)], _, _, _, _, _, _, _, _, hy, hv, rfl⟩
    · obtain ⟨q, hqw, rfl⟩ := isI_of c27
      have hq12 := (WF_len hW hqw).2.2.1
      refine j_iload_n 31 C dX10_between_30 rfl rfl ?_
      refine j_iload_n 32 C dX10_between_31 rfl rfl ?_
      refine j_icmp_eqN 48 35 C dX10_between_32 (by decide) rfl (by omega) (by omega) (fun c32 => ?_) (fun c32 => ?_)
      · refine j_ldc 50 C dX10_between_48 rfl (v := (-2000000000)) kc10_181 ?_
        exact j_iret C dX10_between_50 ⟨by rw [if_neg (fun z => z.2.2.1 (by rw [c32]))], _, _, _, _, _, _, _, _, hy, hv, rfl⟩
      · refine j_iload_n 36 C dX10_between_35 rfl rfl ?_
        refine j_iconst 37 C dX10_between_36 rfl (v := nI 1) (by decide) ?_
        refine j_icmp_lt 48 40 C dX10_between_37 (by decide) rfl (fun c37 => ?_) (fun c37 => ?_)
        · refine j_ldc 50 C dX10_between_48 rfl (v := (-2000000000)) kc10_181 ?_
          exact j_iret C dX10_between_50 ⟨by rw [if_neg (fun z => ((isP_iff (n := 200) (by omega)).mp z.2.2.2).1 c37)], _, _, _, _, _, _, _, _, hy, hv, rfl⟩
        · refine j_iload_n 41 C dX10_between_40 rfl rfl ?_
          refine j_i2l 42 C dX10_between_41 rfl ?_
          refine j_sI 45 C dX10_between_42 rfl cw10_120 K10_isWait rfl (by decide) ⟨Nat.le_refl _, Nat.le_refl _⟩ rfl (Nat.le_of_ble_eq_true rfl) ?_
          refine j_if_neB 51 48 C dX10_between_45 (by decide) rfl (fun c45 => ?_) (fun c45 => ?_)
          · have hP : isP z 201 := ⟨pos1 c37, c45.2⟩
            obtain ⟨n, hn, rfl⟩ := isI_of c45
            refine j_aload_n 52 C dX10_between_51 rfl rfl ?_
            refine Pdesk 55 C dX10_between_52 rfl (by decide) ⟨Nat.le_refl _, Nat.le_refl _⟩ (Nat.le_of_ble_eq_true rfl) ?_
            refine j_aload_n 56 C dX10_between_55 rfl rfl ?_
            refine Pg_n4 59 C dX10_between_56 rfl fl10_20 ?_
            refine Pg_s0 62 C dX10_between_59 rfl fl10_61 ?_
            refine Pr_WR 65 C dX10_between_62 rfl cw10_182 rfl (K1_walkerFrom hH0 hv) rfl (by decide) ⟨Nat.le_refl _, Nat.le_refl _⟩ rfl (Nat.le_of_ble_eq_true rfl) (fun s62 hs62 => ?_)
            refine j_astore 67 C dX10_between_65 rfl rfl (by decide) ?_
            refine j_aload 69 C dX10_between_67 rfl rfl ?_
            refine j_iload_n 70 C dX10_between_69 rfl rfl ?_
            refine PWr_VI 73 C dX10_between_70 rfl cw10_193 rfl (K3_learnRow (cl := -1) hT hR hW hs62 rfl rfl rfl (by decide) (by omega) (by omega) hqw) rfl (by decide) ⟨Nat.le_refl _, Nat.le_refl _⟩ rfl (Nat.le_of_ble_eq_true rfl) (fun x70 s70 hs70 => ?_)
            obtain ⟨e70, t70, ht70, hw70⟩ := hs70
            rw [lrn_cv _ (nI 0)] at e70 hw70
            refine j_iconst 74 C dX10_between_73 rfl (v := (-1)) (by decide) ?_
            refine j_icmp_ne 80 77 C dX10_between_74 (by decide) rfl (fun c74 => ?_) (fun c74 => ?_)
            · refine j_aload 82 C dX10_between_80 rfl rfl ?_
              refine j_iload_n 83 C dX10_between_82 rfl rfl ?_
              refine PWr_VV 86 C dX10_between_83 rfl cw10_124 rfl (K3_passHours (cl := -1) hT hW hw70 rfl rfl (by omega) (by omega)) rfl (by decide) ⟨Nat.le_refl _, Nat.le_refl _⟩ rfl (Nat.le_of_ble_eq_true rfl) (fun s83 hs83 => ?_)
              obtain ⟨t83, ht83, -, hw83⟩ := hs83
              rw [hours_cv _ (nI 0)] at hw83
              refine j_aload_n 87 C dX10_between_86 rfl rfl ?_
              refine Pdesk 90 C dX10_between_87 rfl (by decide) ⟨Nat.le_refl _, Nat.le_refl _⟩ (Nat.le_of_ble_eq_true rfl) ?_
              refine j_aload 92 C dX10_between_90 rfl rfl ?_
              refine j_iload_n 93 C dX10_between_92 rfl rfl ?_
              refine PWr_DI 96 C dX10_between_93 rfl cw10_166 rfl (K1_needsOf hT hR hW hw83 hy (by omega) (by omega) hrw) rfl (by decide) ⟨Nat.le_refl _, Nat.le_refl _⟩ rfl (Nat.le_of_ble_eq_true rfl) (fun x93 s93 hs93 => ?_)
              obtain ⟨e93, hy93⟩ := hs93
              rw [need_cv _ (nI 0)] at e93
              subst e93
              refine j_istore 98 C dX10_between_96 rfl rfl (by decide) ?_
              refine j_aload_n 99 C dX10_between_98 rfl rfl ?_
              refine Pdesk 102 C dX10_between_99 rfl (by decide) ⟨Nat.le_refl _, Nat.le_refl _⟩ (Nat.le_of_ble_eq_true rfl) ?_
              refine j_aload_n 103 C dX10_between_102 rfl rfl ?_
              refine Pg_n4 106 C dX10_between_103 rfl fl10_20 ?_
              refine Pg_s0 109 C dX10_between_106 rfl fl10_61 ?_
              refine Pr_WR 112 C dX10_between_109 rfl cw10_182 rfl (K1_walkerFrom hH0 (HR_X hw83)) rfl (by decide) ⟨Nat.le_refl _, Nat.le_refl _⟩ rfl (Nat.le_of_ble_eq_true rfl) (fun s109 hs109 => ?_)
              refine j_astore 114 C dX10_between_112 rfl rfl (by decide) ?_
              refine j_aload 116 C dX10_between_114 rfl rfl ?_
              refine j_iload_n 117 C dX10_between_116 rfl rfl ?_
              refine PWr_VV 120 C dX10_between_117 rfl cw10_124 rfl (K3_passHours (cl := -1) hT hW hs109 rfl rfl (by omega) (by omega)) rfl (by decide) ⟨Nat.le_refl _, Nat.le_refl _⟩ rfl (Nat.le_of_ble_eq_true rfl) (fun s117 hs117 => ?_)
              obtain ⟨t117, ht117, -, hw117⟩ := hs117
              rw [hours_cv _ (nI 0)] at hw117
              refine j_iload 122 C dX10_between_120 rfl rfl ?_
              refine j_aload_n 123 C dX10_between_122 rfl rfl ?_
              refine Pdesk 126 C dX10_between_123 rfl (by decide) ⟨Nat.le_refl _, Nat.le_refl _⟩ (Nat.le_of_ble_eq_true rfl) ?_
              refine j_aload 128 C dX10_between_126 rfl rfl ?_
              refine j_iload_n 129 C dX10_between_128 rfl rfl ?_
              refine PWr_DI 132 C dX10_between_129 rfl cw10_166 rfl (K1_needsOf hT hR hW hw117 hy93 (by omega) (by omega) hrw) rfl (by decide) ⟨Nat.le_refl _, Nat.le_refl _⟩ rfl (Nat.le_of_ble_eq_true rfl) (fun x129 s129 hs129 => ?_)
              obtain ⟨e129, hy129⟩ := hs129
              rw [need_cv _ (nI 0)] at e129
              subst e129
              refine j_sI 135 C dX10_between_132 rfl cw10_196 K10_lessened rfl (by decide) ⟨Nat.le_refl _, Nat.le_refl _⟩ rfl (Nat.le_of_ble_eq_true rfl) ?_
              exact j_iret C dX10_between_135 ⟨by refine Eq.trans ?_ (congrArg (fun q => some (Value.int q)) (if_pos ⟨c18, c27, (fun z => c32 ((nI_eq (by omega) (by omega)).mp z)), hP⟩).symm); rw [tn_nI (by omega), tn_nI (by omega), tn_nI (by omega), f_bet]; exact congrArg (fun q => some (Value.int q)) (bet_if (show ¬ f_need wd (-1) (nI 0) q hd = -1 from fun q2 => c74 (e70.trans q2))), _, _, _, _, _, _, _, _, hy129, (HR_X hw117), rfl⟩
            · refine j_ldc 79 C dX10_between_77 rfl (v := (-2000000000)) kc10_181 ?_
              exact j_iret C dX10_between_79 ⟨by rw [if_pos ⟨c18, c27, (fun z => c32 ((nI_eq (by omega) (by omega)).mp z)), hP⟩, tn_nI (by omega), tn_nI (by omega), tn_nI (by omega), f_bet, if_pos (Or.inl (show f_need wd (-1) (nI 0) q hd = -1 from e70.symm.trans c74))], _, _, _, _, _, _, _, _, hy, (HR_X hw70), rfl⟩
          · refine j_ldc 50 C dX10_between_48 rfl (v := (-2000000000)) kc10_181 ?_
            exact j_iret C dX10_between_50 ⟨by rw [if_neg (fun z => c45 (by obtain ⟨j, hj1, hj2, rfl⟩ := isP_of z.2.2.2 (by omega); exact isI_nI hj2 (by omega)))], _, _, _, _, _, _, _, _, hy, hv, rfl⟩
theorem K10_betweenB (hT : TT (-1) St wd) (hR : RR Sr wd) (hW : WF wd) (hH0 : HR wd Sh hd hr td) (h3 : Sm.1 3 = -1) (h4 : Sm.1 4 = -1) (hhr : hr + 300 ≤ 1000000000) (htd : td + 100 ≤ 1000000000)  : Con l G yX10_between cX10_between 7 (some .int) 9 10 5119 [.ref (zn 50), .int x, .int y, .int z] (nBk zn (zs 50) G.2.1 Sn fi fs pa none ++ (sBk zs (zm 50) (zb 50) G.2.1 Ss ++ (mBk zm (zt 50) (zr 50) (zh 50) G.2.1 Sm ++ (hBk zh G.2.1 Sh ++ (tBk zt G.2.1 St ++ (rBk zr G.2.1 Sr ++ (bBk zb G.2.1 Sb ++ (R)))))))) (fun v w => v = some (.int (if isI x (nrw wd) ∧ isI y (nrw wd) ∧ ¬ x = y ∧ isP z 201 then f_bet wd (-1) (nI 0) (tn x) (tn y) (tn z) hd else -2000000000)) ∧ (w = (nBk zn (zs 50) G.2.1 Sn fi fs pa none ++ (sBk zs (zm 50) (zb 50) G.2.1 Ss ++ (mBk zm (zt 50) (zr 50) (zh 50) G.2.1 Sm ++ (hBk zh G.2.1 Sh ++ (tBk zt G.2.1 St ++ (rBk zr G.2.1 Sr ++ (bBk zb G.2.1 Sb ++ (R)))))))) ∨ ∃ (zd zx zy zw zv : Nat → Nat) (t0 r0 t1 r1 : Nat) (Sx Sy Sw Sv : MS), HX Sy ∧ HX Sv ∧ w = (nBk zn (zs 50) G.2.1 Sn fi fs pa (some (zd 50)) ++ (sBk zs (zm 50) (zb 50) G.2.1 Ss ++ (mBk zm (zt 50) (zr 50) (zh 50) G.2.1 Sm ++ (hBk zh G.2.1 Sh ++ (tBk zt G.2.1 St ++ (rBk zr G.2.1 Sr ++ (bBk zb G.2.1 Sb ++ (dBk zd (zx 50) (zw 50) G.2.1 MS0 (fun _ => none) ++ (mBk zx t0 r0 (zy 50) G.2.1 Sx ++ (hBk zy G.2.1 Sy ++ (mBk zw t1 r1 (zv 50) G.2.1 Sw ++ (hBk zv G.2.1 Sv ++ (R))))))))))))))) := by
  refine Con.mk (own := RX10) (by decide) rfl (Nat.le_of_ble_eq_true rfl) (fun X C => ?_)
  refine j_aload_n 1 C dX10_between_0 rfl rfl ?_
  refine Lng_n4 4 C dX10_between_1 rfl fl10_20 ?_
  refine Lng_s0 7 C dX10_between_4 rfl fl10_61 ?_
  refine Lng_m1 10 C dX10_between_7 rfl fl10_78 ?_
  refine j_astore 12 C dX10_between_10 rfl rfl (by decide) ?_
  refine j_aload 14 C dX10_between_12 rfl rfl ?_
  refine j_iload_n 15 C dX10_between_14 rfl rfl ?_
  refine Lnx_rI 18 C dX10_between_15 rfl cw10_107 rfl (K5_has (hR.1.trans hW.2.2.1.1) hW.2.2.1.2) rfl (by decide) ⟨Nat.zero_le _, Nat.zero_le _⟩ rfl (Nat.le_of_ble_eq_true rfl) ?_
  refine j_if_eqB 48 21 C dX10_between_18 (by decide) rfl (fun c18 => ?_) (fun c18 => ?_)
  · refine j_ldc 50 C dX10_between_48 rfl (v := (-2000000000)) kc10_181 ?_
    refine j_widen 10 5119 (by decide) (by decide) ?_
    exact j_iret C dX10_between_50 ⟨by rw [if_neg (fun z => c18 z.1)], Or.inl rfl⟩
  · obtain ⟨r, hrw, rfl⟩ := isI_of c18
    have hr12 := (WF_len hW hrw).2.2.1
    refine j_aload 23 C dX10_between_21 rfl rfl ?_
    refine j_iload_n 24 C dX10_between_23 rfl rfl ?_
    refine Lnx_rI 27 C dX10_between_24 rfl cw10_107 rfl (K5_has (hR.1.trans hW.2.2.1.1) hW.2.2.1.2) rfl (by decide) ⟨Nat.zero_le _, Nat.zero_le _⟩ rfl (Nat.le_of_ble_eq_true rfl) ?_
    refine j_if_eqB 48 30 C dX10_between_27 (by decide) rfl (fun c27 => ?_) (fun c27 => ?_)
    · refine j_ldc 50 C dX10_between_48 rfl (v := (-2000000000)) kc10_181 ?_
      refine j_widen 10 5119 (by decide) (by decide) ?_
      exact j_iret C dX10_between_50 ⟨by rw [if_neg (fun z => c27 z.2.1)], Or.inl rfl⟩
    · obtain ⟨q, hqw, rfl⟩ := isI_of c27
      have hq12 := (WF_len hW hqw).2.2.1
      refine j_iload_n 31 C dX10_between_30 rfl rfl ?_
      refine j_iload_n 32 C dX10_between_31 rfl rfl ?_
      refine j_icmp_eqN 48 35 C dX10_between_32 (by decide) rfl (by omega) (by omega) (fun c32 => ?_) (fun c32 => ?_)
      · refine j_ldc 50 C dX10_between_48 rfl (v := (-2000000000)) kc10_181 ?_
        refine j_widen 10 5119 (by decide) (by decide) ?_
        exact j_iret C dX10_between_50 ⟨by rw [if_neg (fun z => z.2.2.1 (by rw [c32]))], Or.inl rfl⟩
      · refine j_iload_n 36 C dX10_between_35 rfl rfl ?_
        refine j_iconst 37 C dX10_between_36 rfl (v := nI 1) (by decide) ?_
        refine j_icmp_lt 48 40 C dX10_between_37 (by decide) rfl (fun c37 => ?_) (fun c37 => ?_)
        · refine j_ldc 50 C dX10_between_48 rfl (v := (-2000000000)) kc10_181 ?_
          refine j_widen 10 5119 (by decide) (by decide) ?_
          exact j_iret C dX10_between_50 ⟨by rw [if_neg (fun z => ((isP_iff (n := 200) (by omega)).mp z.2.2.2).1 c37)], Or.inl rfl⟩
        · refine j_iload_n 41 C dX10_between_40 rfl rfl ?_
          refine j_i2l 42 C dX10_between_41 rfl ?_
          refine j_sI 45 C dX10_between_42 rfl cw10_120 K10_isWait rfl (by decide) ⟨Nat.zero_le _, Nat.zero_le _⟩ rfl (Nat.le_of_ble_eq_true rfl) ?_
          refine j_if_neB 51 48 C dX10_between_45 (by decide) rfl (fun c45 => ?_) (fun c45 => ?_)
          · have hP : isP z 201 := ⟨pos1 c37, c45.2⟩
            obtain ⟨n, hn, rfl⟩ := isI_of c45
            refine j_aload_n 52 C dX10_between_51 rfl rfl ?_
            refine Ldesk0 55 C dX10_between_52 rfl (by decide) (Nat.le_of_ble_eq_true rfl) (fun zd zx zy zw zv => ?_)
            have hy := HX0
            have hv := HX0
            refine j_aload_n 56 C dX10_between_55 rfl rfl ?_
            refine Pg_n4 59 C dX10_between_56 rfl fl10_20 ?_
            refine Pg_s0 62 C dX10_between_59 rfl fl10_61 ?_
            refine Pr_WR 65 C dX10_between_62 rfl cw10_182 rfl (K1_walkerFrom hH0 hv) rfl (by decide) ⟨Nat.le_refl _, Nat.le_refl _⟩ rfl (Nat.le_of_ble_eq_true rfl) (fun s62 hs62 => ?_)
            refine j_astore 67 C dX10_between_65 rfl rfl (by decide) ?_
            refine j_aload 69 C dX10_between_67 rfl rfl ?_
            refine j_iload_n 70 C dX10_between_69 rfl rfl ?_
            refine PWr_VI 73 C dX10_between_70 rfl cw10_193 rfl (K3_learnRow (cl := -1) hT hR hW hs62 rfl rfl rfl (by decide) (by omega) (by omega) hqw) rfl (by decide) ⟨Nat.le_refl _, Nat.le_refl _⟩ rfl (Nat.le_of_ble_eq_true rfl) (fun x70 s70 hs70 => ?_)
            obtain ⟨e70, t70, ht70, hw70⟩ := hs70
            rw [lrn_cv _ (nI 0)] at e70 hw70
            refine j_iconst 74 C dX10_between_73 rfl (v := (-1)) (by decide) ?_
            refine j_icmp_ne 80 77 C dX10_between_74 (by decide) rfl (fun c74 => ?_) (fun c74 => ?_)
            · refine j_aload 82 C dX10_between_80 rfl rfl ?_
              refine j_iload_n 83 C dX10_between_82 rfl rfl ?_
              refine PWr_VV 86 C dX10_between_83 rfl cw10_124 rfl (K3_passHours (cl := -1) hT hW hw70 rfl rfl (by omega) (by omega)) rfl (by decide) ⟨Nat.le_refl _, Nat.le_refl _⟩ rfl (Nat.le_of_ble_eq_true rfl) (fun s83 hs83 => ?_)
              obtain ⟨t83, ht83, -, hw83⟩ := hs83
              rw [hours_cv _ (nI 0)] at hw83
              refine j_aload_n 87 C dX10_between_86 rfl rfl ?_
              refine Pdesk 90 C dX10_between_87 rfl (by decide) ⟨Nat.le_refl _, Nat.le_refl _⟩ (Nat.le_of_ble_eq_true rfl) ?_
              refine j_aload 92 C dX10_between_90 rfl rfl ?_
              refine j_iload_n 93 C dX10_between_92 rfl rfl ?_
              refine PWr_DI 96 C dX10_between_93 rfl cw10_166 rfl (K1_needsOf hT hR hW hw83 hy (by omega) (by omega) hrw) rfl (by decide) ⟨Nat.le_refl _, Nat.le_refl _⟩ rfl (Nat.le_of_ble_eq_true rfl) (fun x93 s93 hs93 => ?_)
              obtain ⟨e93, hy93⟩ := hs93
              rw [need_cv _ (nI 0)] at e93
              subst e93
              refine j_istore 98 C dX10_between_96 rfl rfl (by decide) ?_
              refine j_aload_n 99 C dX10_between_98 rfl rfl ?_
              refine Pdesk 102 C dX10_between_99 rfl (by decide) ⟨Nat.le_refl _, Nat.le_refl _⟩ (Nat.le_of_ble_eq_true rfl) ?_
              refine j_aload_n 103 C dX10_between_102 rfl rfl ?_
              refine Pg_n4 106 C dX10_between_103 rfl fl10_20 ?_
              refine Pg_s0 109 C dX10_between_106 rfl fl10_61 ?_
              refine Pr_WR 112 C dX10_between_109 rfl cw10_182 rfl (K1_walkerFrom hH0 (HR_X hw83)) rfl (by decide) ⟨Nat.le_refl _, Nat.le_refl _⟩ rfl (Nat.le_of_ble_eq_true rfl) (fun s109 hs109 => ?_)
              refine j_astore 114 C dX10_between_112 rfl rfl (by decide) ?_
              refine j_aload 116 C dX10_between_114 rfl rfl ?_
              refine j_iload_n 117 C dX10_between_116 rfl rfl ?_
              refine PWr_VV 120 C dX10_between_117 rfl cw10_124 rfl (K3_passHours (cl := -1) hT hW hs109 rfl rfl (by omega) (by omega)) rfl (by decide) ⟨Nat.le_refl _, Nat.le_refl _⟩ rfl (Nat.le_of_ble_eq_true rfl) (fun s117 hs117 => ?_)
              obtain ⟨t117, ht117, -, hw117⟩ := hs117
              rw [hours_cv _ (nI 0)] at hw117
              refine j_iload 122 C dX10_between_120 rfl rfl ?_
              refine j_aload_n 123 C dX10_between_122 rfl rfl ?_
              refine Pdesk 126 C dX10_between_123 rfl (by decide) ⟨Nat.le_refl _, Nat.le_refl _⟩ (Nat.le_of_ble_eq_true rfl) ?_
              refine j_aload 128 C dX10_between_126 rfl rfl ?_
              refine j_iload_n 129 C dX10_between_128 rfl rfl ?_
              refine PWr_DI 132 C dX10_between_129 rfl cw10_166 rfl (K1_needsOf hT hR hW hw117 hy93 (by omega) (by omega) hrw) rfl (by decide) ⟨Nat.le_refl _, Nat.le_refl _⟩ rfl (Nat.le_of_ble_eq_true rfl) (fun x129 s129 hs129 => ?_)
              obtain ⟨e129, hy129⟩ := hs129
              rw [need_cv _ (nI 0)] at e129
              subst e129
              refine j_sI 135 C dX10_between_132 rfl cw10_196 K10_lessened rfl (by decide) ⟨Nat.le_refl _, Nat.le_refl _⟩ rfl (Nat.le_of_ble_eq_true rfl) ?_
              exact j_iret C dX10_between_135 ⟨by refine Eq.trans ?_ (congrArg (fun q => some (Value.int q)) (if_pos ⟨c18, c27, (fun z => c32 ((nI_eq (by omega) (by omega)).mp z)), hP⟩).symm); rw [tn_nI (by omega), tn_nI (by omega), tn_nI (by omega), f_bet]; exact congrArg (fun q => some (Value.int q)) (bet_if (show ¬ f_need wd (-1) (nI 0) q hd = -1 from fun q2 => c74 (e70.trans q2))), Or.inr ⟨zd, zx, zy, zw, zv, _, _, _, _, _, _, _, _, hy129, (HR_X hw117), rfl⟩⟩
            · refine j_ldc 79 C dX10_between_77 rfl (v := (-2000000000)) kc10_181 ?_
              exact j_iret C dX10_between_79 ⟨by rw [if_pos ⟨c18, c27, (fun z => c32 ((nI_eq (by omega) (by omega)).mp z)), hP⟩, tn_nI (by omega), tn_nI (by omega), tn_nI (by omega), f_bet, if_pos (Or.inl (show f_need wd (-1) (nI 0) q hd = -1 from e70.symm.trans c74))], Or.inr ⟨zd, zx, zy, zw, zv, _, _, _, _, _, _, _, _, hy, (HR_X hw70), rfl⟩⟩
          · refine j_ldc 50 C dX10_between_48 rfl (v := (-2000000000)) kc10_181 ?_
            refine j_widen 10 5119 (by decide) (by decide) ?_
            exact j_iret C dX10_between_50 ⟨by rw [if_neg (fun z => c45 (by obtain ⟨j, hj1, hj2, rfl⟩ := isP_of z.2.2.2 (by omega); exact isI_nI hj2 (by omega)))], Or.inl rfl⟩
theorem K10_eveningA (hT : TT (-1) St wd) (hR : RR Sr wd) (hW : WF wd) (hH0 : HR wd Sh hd hr td) (h3 : Sm.1 3 = -1) (h4 : Sm.1 4 = -1) (hhr : hr + 300 ≤ 1000000000) (htd : td + 100 ≤ 1000000000) (hy : HX Sy) (hv : HX Sv)  : Con l G yX10_evening cX10_evening 6 (some .int) 9 0 0 [.ref (zn 50), .int x, .int y, .int z] (nBk zn (zs 50) G.2.1 Sn fi fs pa (some (zd 50)) ++ (sBk zs (zm 50) (zb 50) G.2.1 Ss ++ (mBk zm (zt 50) (zr 50) (zh 50) G.2.1 Sm ++ (hBk zh G.2.1 Sh ++ (tBk zt G.2.1 St ++ (rBk zr G.2.1 Sr ++ (bBk zb G.2.1 Sb ++ (dBk zd (zx 50) (zw 50) G.2.1 Sd qd ++ (mBk zx t0 r0 (zy 50) G.2.1 Sx ++ (hBk zy G.2.1 Sy ++ (mBk zw t1 r1 (zv 50) G.2.1 Sw ++ (hBk zv G.2.1 Sv ++ (R))))))))))))) (fun v w => v = some (.int (if isI x (nrw wd) ∧ isI y 24 ∧ isI z 201 then f_eve wd (-1) (nI 0) (tn x) (tn y) (tn z) hd else -2000000000)) ∧ ∃ (t0 r0 t1 r1 : Nat) (Sx Sy Sw Sv : MS), HX Sy ∧ HX Sv ∧ w = (nBk zn (zs 50) G.2.1 Sn fi fs pa (some (zd 50)) ++ (sBk zs (zm 50) (zb 50) G.2.1 Ss ++ (mBk zm (zt 50) (zr 50) (zh 50) G.2.1 Sm ++ (hBk zh G.2.1 Sh ++ (tBk zt G.2.1 St ++ (rBk zr G.2.1 Sr ++ (bBk zb G.2.1 Sb ++ (dBk zd (zx 50) (zw 50) G.2.1 Sd qd ++ (mBk zx t0 r0 (zy 50) G.2.1 Sx ++ (hBk zy G.2.1 Sy ++ (mBk zw t1 r1 (zv 50) G.2.1 Sw ++ (hBk zv G.2.1 Sv ++ (R)))))))))))))) := by
  refine Con.mk (own := RX10) (by decide) rfl (Nat.le_of_ble_eq_true rfl) (fun X C => ?_)
  refine j_aload_n 1 C dX10_evening_0 rfl rfl ?_
  refine Pg_n4 4 C dX10_evening_1 rfl fl10_20 ?_
  refine Pg_s0 7 C dX10_evening_4 rfl fl10_61 ?_
  refine Pg_m1 10 C dX10_evening_7 rfl fl10_78 ?_
  refine j_iload_n 11 C dX10_evening_10 rfl rfl ?_
  refine Px_rI 14 C dX10_evening_11 rfl cw10_107 rfl (K5_has (hR.1.trans hW.2.2.1.1) hW.2.2.1.2) rfl (by decide) ⟨Nat.le_refl _, Nat.le_refl _⟩ rfl (Nat.le_of_ble_eq_true rfl) ?_
  refine j_if_eqB 35 17 C dX10_evening_14 (by decide) rfl (fun c14 => ?_) (fun c14 => ?_)
  · refine j_ldc 37 C dX10_evening_35 rfl (v := (-2000000000)) kc10_181 ?_
    exact j_iret C dX10_evening_37 ⟨by rw [if_neg (fun z => c14 z.1)], _, _, _, _, _, _, _, _, hy, hv, rfl⟩
  · obtain ⟨r, hrw, rfl⟩ := isI_of c14
    have hr12 := (WF_len hW hrw).2.2.1
    refine j_iload_n 18 C dX10_evening_17 rfl rfl ?_
    refine j_if_lt 35 21 C dX10_evening_18 (by decide) rfl (fun c18 => ?_) (fun c18 => ?_)
    · refine j_ldc 37 C dX10_evening_35 rfl (v := (-2000000000)) kc10_181 ?_
      exact j_iret C dX10_evening_37 ⟨by rw [if_neg (fun z => ((isI_iff (by omega)).mp z.2.1).1 c18)], _, _, _, _, _, _, _, _, hy, hv, rfl⟩
    · refine j_iload_n 22 C dX10_evening_21 rfl rfl ?_
      refine j_bipush 24 C dX10_evening_22 rfl (v := nI 24) (by decide) ?_
      refine j_icmp_ge 35 27 C dX10_evening_24 (by decide) rfl (fun c24 => ?_) (fun c24 => ?_)
      · refine j_ldc 37 C dX10_evening_35 rfl (v := (-2000000000)) kc10_181 ?_
        exact j_iret C dX10_evening_37 ⟨by rw [if_neg (fun z => ((isI_iff (by omega)).mp z.2.1).2 c24)], _, _, _, _, _, _, _, _, hy, hv, rfl⟩
      · have hL : isI y 24 := (isI_iff (by omega)).mpr ⟨c18, c24⟩
        obtain ⟨a, ha, rfl⟩ := isI_of hL
        refine j_iload_n 28 C dX10_evening_27 rfl rfl ?_
        refine j_i2l 29 C dX10_evening_28 rfl ?_
        refine j_sI 32 C dX10_evening_29 rfl cw10_120 K10_isWait rfl (by decide) ⟨Nat.le_refl _, Nat.le_refl _⟩ rfl (Nat.le_of_ble_eq_true rfl) ?_
        refine j_if_neB 38 35 C dX10_evening_32 (by decide) rfl (fun c32 => ?_) (fun c32 => ?_)
        · obtain ⟨n, hn, rfl⟩ := isI_of c32
          refine j_aload_n 39 C dX10_evening_38 rfl rfl ?_
          refine Pdesk 42 C dX10_evening_39 rfl (by decide) ⟨Nat.le_refl _, Nat.le_refl _⟩ (Nat.le_of_ble_eq_true rfl) ?_
          refine j_aload_n 43 C dX10_evening_42 rfl rfl ?_
          refine Pg_n4 46 C dX10_evening_43 rfl fl10_20 ?_
          refine Pg_s0 49 C dX10_evening_46 rfl fl10_61 ?_
          refine Pr_WR 52 C dX10_evening_49 rfl cw10_182 rfl (K1_walkerFrom hH0 hv) rfl (by decide) ⟨Nat.le_refl _, Nat.le_refl _⟩ rfl (Nat.le_of_ble_eq_true rfl) (fun s49 hs49 => ?_)
          refine j_astore 54 C dX10_evening_52 rfl rfl (by decide) ?_
          refine j_aload 56 C dX10_evening_54 rfl rfl ?_
          refine j_iload_n 57 C dX10_evening_56 rfl rfl ?_
          refine PWr_VI 60 C dX10_evening_57 rfl cw10_193 rfl (K3_learnRow (cl := -1) hT hR hW hs49 rfl rfl rfl (by decide) (by omega) (by omega) hrw) rfl (by decide) ⟨Nat.le_refl _, Nat.le_refl _⟩ rfl (Nat.le_of_ble_eq_true rfl) (fun x57 s57 hs57 => ?_)
          obtain ⟨e57, t57, ht57, hw57⟩ := hs57
          rw [lrn_cv _ (nI 0)] at e57 hw57
          refine j_iconst 61 C dX10_evening_60 rfl (v := (-1)) (by decide) ?_
          refine j_icmp_ne 67 64 C dX10_evening_61 (by decide) rfl (fun c61 => ?_) (fun c61 => ?_)
          · refine j_aload 69 C dX10_evening_67 rfl rfl ?_
            refine j_iload_n 70 C dX10_evening_69 rfl rfl ?_
            refine j_iload_n 71 C dX10_evening_70 rfl rfl ?_
            refine j_iaddN 72 C dX10_evening_71 rfl ?_
            refine PWr_VV 75 C dX10_evening_72 rfl cw10_124 rfl (K3_passHours (cl := -1) hT hW hw57 rfl rfl (by omega) (by omega)) rfl (by decide) ⟨Nat.le_refl _, Nat.le_refl _⟩ rfl (Nat.le_of_ble_eq_true rfl) (fun s72 hs72 => ?_)
            obtain ⟨t72, ht72, -, hw72⟩ := hs72
            rw [hours_cv _ (nI 0)] at hw72
            refine j_aload_n 76 C dX10_evening_75 rfl rfl ?_
            refine Pdesk 79 C dX10_evening_76 rfl (by decide) ⟨Nat.le_refl _, Nat.le_refl _⟩ (Nat.le_of_ble_eq_true rfl) ?_
            refine j_aload 81 C dX10_evening_79 rfl rfl ?_
            refine j_iload_n 82 C dX10_evening_81 rfl rfl ?_
            refine PWr_DI 85 C dX10_evening_82 rfl cw10_166 rfl (K1_needsOf hT hR hW hw72 hy (by omega) (by omega) hrw) rfl (by decide) ⟨Nat.le_refl _, Nat.le_refl _⟩ rfl (Nat.le_of_ble_eq_true rfl) (fun x82 s82 hs82 => ?_)
            obtain ⟨e82, hy82⟩ := hs82
            rw [need_cv _ (nI 0)] at e82
            subst e82
            refine j_istore 87 C dX10_evening_85 rfl rfl (by decide) ?_
            refine j_aload_n 88 C dX10_evening_87 rfl rfl ?_
            refine Pdesk 91 C dX10_evening_88 rfl (by decide) ⟨Nat.le_refl _, Nat.le_refl _⟩ (Nat.le_of_ble_eq_true rfl) ?_
            refine j_aload_n 92 C dX10_evening_91 rfl rfl ?_
            refine Pg_n4 95 C dX10_evening_92 rfl fl10_20 ?_
            refine Pg_s0 98 C dX10_evening_95 rfl fl10_61 ?_
            refine Pr_WR 101 C dX10_evening_98 rfl cw10_182 rfl (K1_walkerFrom hH0 (HR_X hw72)) rfl (by decide) ⟨Nat.le_refl _, Nat.le_refl _⟩ rfl (Nat.le_of_ble_eq_true rfl) (fun s98 hs98 => ?_)
            refine j_astore 103 C dX10_evening_101 rfl rfl (by decide) ?_
            refine j_aload 105 C dX10_evening_103 rfl rfl ?_
            refine j_iload_n 106 C dX10_evening_105 rfl rfl ?_
            refine PWr_VV 109 C dX10_evening_106 rfl cw10_124 rfl (K3_passHours (cl := -1) hT hW hs98 rfl rfl (by omega) (by omega)) rfl (by decide) ⟨Nat.le_refl _, Nat.le_refl _⟩ rfl (Nat.le_of_ble_eq_true rfl) (fun s106 hs106 => ?_)
            obtain ⟨t106, ht106, -, hw106⟩ := hs106
            rw [hours_cv _ (nI 0)] at hw106
            refine j_aload 111 C dX10_evening_109 rfl rfl ?_
            refine j_iload_n 112 C dX10_evening_111 rfl rfl ?_
            refine PWr_VI 115 C dX10_evening_112 rfl cw10_193 rfl (K3_learnRow (cl := -1) hT hR hW hw106 rfl rfl rfl (by decide) (by omega) (by omega) hrw) rfl (by decide) ⟨Nat.le_refl _, Nat.le_refl _⟩ rfl (Nat.le_of_ble_eq_true rfl) (fun x112 s112 hs112 => ?_)
            obtain ⟨e112, t112, ht112, hw112⟩ := hs112
            rw [lrn_cv _ (nI 0)] at e112 hw112
            refine j_iconst 116 C dX10_evening_115 rfl (v := (-1)) (by decide) ?_
            refine j_icmp_ne 122 119 C dX10_evening_116 (by decide) rfl (fun c116 => ?_) (fun c116 => ?_)
            · refine j_aload 124 C dX10_evening_122 rfl rfl ?_
              refine j_iload_n 125 C dX10_evening_124 rfl rfl ?_
              refine PWr_VV 128 C dX10_evening_125 rfl cw10_124 rfl (K3_passHours (cl := -1) hT hW hw112 rfl rfl (by omega) (by omega)) rfl (by decide) ⟨Nat.le_refl _, Nat.le_refl _⟩ rfl (Nat.le_of_ble_eq_true rfl) (fun s125 hs125 => ?_)
              obtain ⟨t125, ht125, -, hw125⟩ := hs125
              rw [hours_cv _ (nI 0)] at hw125
              refine j_iload 130 C dX10_evening_128 rfl rfl ?_
              refine j_aload_n 131 C dX10_evening_130 rfl rfl ?_
              refine Pdesk 134 C dX10_evening_131 rfl (by decide) ⟨Nat.le_refl _, Nat.le_refl _⟩ (Nat.le_of_ble_eq_true rfl) ?_
              refine j_aload 136 C dX10_evening_134 rfl rfl ?_
              refine j_iload_n 137 C dX10_evening_136 rfl rfl ?_
              refine PWr_DI 140 C dX10_evening_137 rfl cw10_166 rfl (K1_needsOf hT hR hW hw125 hy82 (by omega) (by omega) hrw) rfl (by decide) ⟨Nat.le_refl _, Nat.le_refl _⟩ rfl (Nat.le_of_ble_eq_true rfl) (fun x137 s137 hs137 => ?_)
              obtain ⟨e137, hy137⟩ := hs137
              rw [need_cv _ (nI 0)] at e137
              subst e137
              refine j_sI 143 C dX10_evening_140 rfl cw10_196 K10_lessened rfl (by decide) ⟨Nat.le_refl _, Nat.le_refl _⟩ rfl (Nat.le_of_ble_eq_true rfl) ?_
              exact j_iret C dX10_evening_143 ⟨by refine Eq.trans ?_ (congrArg (fun q => some (Value.int q)) (if_pos ⟨c14, hL, c32⟩).symm); rw [tn_nI (by omega), tn_nI (by omega), tn_nI (by omega), f_eve]; exact congrArg (fun q => some (Value.int q)) (eve_if (show ¬ f_need wd (-1) (nI 0) r hd = -1 from fun q2 => c61 (e57.trans q2)) (show ¬ f_need wd (-1) (nI 0) r (f_hours wd (-1) (nI 0) a hd) = -1 from fun q2 => c116 (e112.trans q2))), _, _, _, _, _, _, _, _, hy137, (HR_X hw125), rfl⟩
            · refine j_ldc 121 C dX10_evening_119 rfl (v := (-2000000000)) kc10_181 ?_
              exact j_iret C dX10_evening_121 ⟨by rw [if_pos ⟨c14, hL, c32⟩, tn_nI (by omega), tn_nI (by omega), tn_nI (by omega), f_eve, if_pos (Or.inr (Or.inl (show f_need wd (-1) (nI 0) r (f_hours wd (-1) (nI 0) a hd) = -1 from e112.symm.trans c116)))], _, _, _, _, _, _, _, _, hy82, (HR_X hw112), rfl⟩
          · refine j_ldc 66 C dX10_evening_64 rfl (v := (-2000000000)) kc10_181 ?_
            exact j_iret C dX10_evening_66 ⟨by rw [if_pos ⟨c14, hL, c32⟩, tn_nI (by omega), tn_nI (by omega), tn_nI (by omega), f_eve, if_pos (Or.inl (show f_need wd (-1) (nI 0) r hd = -1 from e57.symm.trans c61))], _, _, _, _, _, _, _, _, hy, (HR_X hw57), rfl⟩
        · refine j_ldc 37 C dX10_evening_35 rfl (v := (-2000000000)) kc10_181 ?_
          exact j_iret C dX10_evening_37 ⟨by rw [if_neg (fun z => c32 z.2.2)], _, _, _, _, _, _, _, _, hy, hv, rfl⟩
theorem K10_eveningB (hT : TT (-1) St wd) (hR : RR Sr wd) (hW : WF wd) (hH0 : HR wd Sh hd hr td) (h3 : Sm.1 3 = -1) (h4 : Sm.1 4 = -1) (hhr : hr + 300 ≤ 1000000000) (htd : td + 100 ≤ 1000000000)  : Con l G yX10_evening cX10_evening 6 (some .int) 9 10 5119 [.ref (zn 50), .int x, .int y, .int z] (nBk zn (zs 50) G.2.1 Sn fi fs pa none ++ (sBk zs (zm 50) (zb 50) G.2.1 Ss ++ (mBk zm (zt 50) (zr 50) (zh 50) G.2.1 Sm ++ (hBk zh G.2.1 Sh ++ (tBk zt G.2.1 St ++ (rBk zr G.2.1 Sr ++ (bBk zb G.2.1 Sb ++ (R)))))))) (fun v w => v = some (.int (if isI x (nrw wd) ∧ isI y 24 ∧ isI z 201 then f_eve wd (-1) (nI 0) (tn x) (tn y) (tn z) hd else -2000000000)) ∧ (w = (nBk zn (zs 50) G.2.1 Sn fi fs pa none ++ (sBk zs (zm 50) (zb 50) G.2.1 Ss ++ (mBk zm (zt 50) (zr 50) (zh 50) G.2.1 Sm ++ (hBk zh G.2.1 Sh ++ (tBk zt G.2.1 St ++ (rBk zr G.2.1 Sr ++ (bBk zb G.2.1 Sb ++ (R)))))))) ∨ ∃ (zd zx zy zw zv : Nat → Nat) (t0 r0 t1 r1 : Nat) (Sx Sy Sw Sv : MS), HX Sy ∧ HX Sv ∧ w = (nBk zn (zs 50) G.2.1 Sn fi fs pa (some (zd 50)) ++ (sBk zs (zm 50) (zb 50) G.2.1 Ss ++ (mBk zm (zt 50) (zr 50) (zh 50) G.2.1 Sm ++ (hBk zh G.2.1 Sh ++ (tBk zt G.2.1 St ++ (rBk zr G.2.1 Sr ++ (bBk zb G.2.1 Sb ++ (dBk zd (zx 50) (zw 50) G.2.1 MS0 (fun _ => none) ++ (mBk zx t0 r0 (zy 50) G.2.1 Sx ++ (hBk zy G.2.1 Sy ++ (mBk zw t1 r1 (zv 50) G.2.1 Sw ++ (hBk zv G.2.1 Sv ++ (R))))))))))))))) := by
  refine Con.mk (own := RX10) (by decide) rfl (Nat.le_of_ble_eq_true rfl) (fun X C => ?_)
  refine j_aload_n 1 C dX10_evening_0 rfl rfl ?_
  refine Lng_n4 4 C dX10_evening_1 rfl fl10_20 ?_
  refine Lng_s0 7 C dX10_evening_4 rfl fl10_61 ?_
  refine Lng_m1 10 C dX10_evening_7 rfl fl10_78 ?_
  refine j_iload_n 11 C dX10_evening_10 rfl rfl ?_
  refine Lnx_rI 14 C dX10_evening_11 rfl cw10_107 rfl (K5_has (hR.1.trans hW.2.2.1.1) hW.2.2.1.2) rfl (by decide) ⟨Nat.zero_le _, Nat.zero_le _⟩ rfl (Nat.le_of_ble_eq_true rfl) ?_
  refine j_if_eqB 35 17 C dX10_evening_14 (by decide) rfl (fun c14 => ?_) (fun c14 => ?_)
  · refine j_ldc 37 C dX10_evening_35 rfl (v := (-2000000000)) kc10_181 ?_
    refine j_widen 10 5119 (by decide) (by decide) ?_
    exact j_iret C dX10_evening_37 ⟨by rw [if_neg (fun z => c14 z.1)], Or.inl rfl⟩
  · obtain ⟨r, hrw, rfl⟩ := isI_of c14
    have hr12 := (WF_len hW hrw).2.2.1
    refine j_iload_n 18 C dX10_evening_17 rfl rfl ?_
    refine j_if_lt 35 21 C dX10_evening_18 (by decide) rfl (fun c18 => ?_) (fun c18 => ?_)
    · refine j_ldc 37 C dX10_evening_35 rfl (v := (-2000000000)) kc10_181 ?_
      refine j_widen 10 5119 (by decide) (by decide) ?_
      exact j_iret C dX10_evening_37 ⟨by rw [if_neg (fun z => ((isI_iff (by omega)).mp z.2.1).1 c18)], Or.inl rfl⟩
    · refine j_iload_n 22 C dX10_evening_21 rfl rfl ?_
      refine j_bipush 24 C dX10_evening_22 rfl (v := nI 24) (by decide) ?_
      refine j_icmp_ge 35 27 C dX10_evening_24 (by decide) rfl (fun c24 => ?_) (fun c24 => ?_)
      · refine j_ldc 37 C dX10_evening_35 rfl (v := (-2000000000)) kc10_181 ?_
        refine j_widen 10 5119 (by decide) (by decide) ?_
        exact j_iret C dX10_evening_37 ⟨by rw [if_neg (fun z => ((isI_iff (by omega)).mp z.2.1).2 c24)], Or.inl rfl⟩
      · have hL : isI y 24 := (isI_iff (by omega)).mpr ⟨c18, c24⟩
        obtain ⟨a, ha, rfl⟩ := isI_of hL
        refine j_iload_n 28 C dX10_evening_27 rfl rfl ?_
        refine j_i2l 29 C dX10_evening_28 rfl ?_
        refine j_sI 32 C dX10_evening_29 rfl cw10_120 K10_isWait rfl (by decide) ⟨Nat.zero_le _, Nat.zero_le _⟩ rfl (Nat.le_of_ble_eq_true rfl) ?_
        refine j_if_neB 38 35 C dX10_evening_32 (by decide) rfl (fun c32 => ?_) (fun c32 => ?_)
        · obtain ⟨n, hn, rfl⟩ := isI_of c32
          refine j_aload_n 39 C dX10_evening_38 rfl rfl ?_
          refine Ldesk0 42 C dX10_evening_39 rfl (by decide) (Nat.le_of_ble_eq_true rfl) (fun zd zx zy zw zv => ?_)
          have hy := HX0
          have hv := HX0
          refine j_aload_n 43 C dX10_evening_42 rfl rfl ?_
          refine Pg_n4 46 C dX10_evening_43 rfl fl10_20 ?_
          refine Pg_s0 49 C dX10_evening_46 rfl fl10_61 ?_
          refine Pr_WR 52 C dX10_evening_49 rfl cw10_182 rfl (K1_walkerFrom hH0 hv) rfl (by decide) ⟨Nat.le_refl _, Nat.le_refl _⟩ rfl (Nat.le_of_ble_eq_true rfl) (fun s49 hs49 => ?_)
          refine j_astore 54 C dX10_evening_52 rfl rfl (by decide) ?_
          refine j_aload 56 C dX10_evening_54 rfl rfl ?_
          refine j_iload_n 57 C dX10_evening_56 rfl rfl ?_
          refine PWr_VI 60 C dX10_evening_57 rfl cw10_193 rfl (K3_learnRow (cl := -1) hT hR hW hs49 rfl rfl rfl (by decide) (by omega) (by omega) hrw) rfl (by decide) ⟨Nat.le_refl _, Nat.le_refl _⟩ rfl (Nat.le_of_ble_eq_true rfl) (fun x57 s57 hs57 => ?_)
          obtain ⟨e57, t57, ht57, hw57⟩ := hs57
          rw [lrn_cv _ (nI 0)] at e57 hw57
          refine j_iconst 61 C dX10_evening_60 rfl (v := (-1)) (by decide) ?_
          refine j_icmp_ne 67 64 C dX10_evening_61 (by decide) rfl (fun c61 => ?_) (fun c61 => ?_)
          · refine j_aload 69 C dX10_evening_67 rfl rfl ?_
            refine j_iload_n 70 C dX10_evening_69 rfl rfl ?_
            refine j_iload_n 71 C dX10_evening_70 rfl rfl ?_
            refine j_iaddN 72 C dX10_evening_71 rfl ?_
            refine PWr_VV 75 C dX10_evening_72 rfl cw10_124 rfl (K3_passHours (cl := -1) hT hW hw57 rfl rfl (by omega) (by omega)) rfl (by decide) ⟨Nat.le_refl _, Nat.le_refl _⟩ rfl (Nat.le_of_ble_eq_true rfl) (fun s72 hs72 => ?_)
            obtain ⟨t72, ht72, -, hw72⟩ := hs72
            rw [hours_cv _ (nI 0)] at hw72
            refine j_aload_n 76 C dX10_evening_75 rfl rfl ?_
            refine Pdesk 79 C dX10_evening_76 rfl (by decide) ⟨Nat.le_refl _, Nat.le_refl _⟩ (Nat.le_of_ble_eq_true rfl) ?_
            refine j_aload 81 C dX10_evening_79 rfl rfl ?_
            refine j_iload_n 82 C dX10_evening_81 rfl rfl ?_
            refine PWr_DI 85 C dX10_evening_82 rfl cw10_166 rfl (K1_needsOf hT hR hW hw72 hy (by omega) (by omega) hrw) rfl (by decide) ⟨Nat.le_refl _, Nat.le_refl _⟩ rfl (Nat.le_of_ble_eq_true rfl) (fun x82 s82 hs82 => ?_)
            obtain ⟨e82, hy82⟩ := hs82
            rw [need_cv _ (nI 0)] at e82
            subst e82
            refine j_istore 87 C dX10_evening_85 rfl rfl (by decide) ?_
            refine j_aload_n 88 C dX10_evening_87 rfl rfl ?_
            refine Pdesk 91 C dX10_evening_88 rfl (by decide) ⟨Nat.le_refl _, Nat.le_refl _⟩ (Nat.le_of_ble_eq_true rfl) ?_
            refine j_aload_n 92 C dX10_evening_91 rfl rfl ?_
            refine Pg_n4 95 C dX10_evening_92 rfl fl10_20 ?_
            refine Pg_s0 98 C dX10_evening_95 rfl fl10_61 ?_
            refine Pr_WR 101 C dX10_evening_98 rfl cw10_182 rfl (K1_walkerFrom hH0 (HR_X hw72)) rfl (by decide) ⟨Nat.le_refl _, Nat.le_refl _⟩ rfl (Nat.le_of_ble_eq_true rfl) (fun s98 hs98 => ?_)
            refine j_astore 103 C dX10_evening_101 rfl rfl (by decide) ?_
            refine j_aload 105 C dX10_evening_103 rfl rfl ?_
            refine j_iload_n 106 C dX10_evening_105 rfl rfl ?_
            refine PWr_VV 109 C dX10_evening_106 rfl cw10_124 rfl (K3_passHours (cl := -1) hT hW hs98 rfl rfl (by omega) (by omega)) rfl (by decide) ⟨Nat.le_refl _, Nat.le_refl _⟩ rfl (Nat.le_of_ble_eq_true rfl) (fun s106 hs106 => ?_)
            obtain ⟨t106, ht106, -, hw106⟩ := hs106
            rw [hours_cv _ (nI 0)] at hw106
            refine j_aload 111 C dX10_evening_109 rfl rfl ?_
            refine j_iload_n 112 C dX10_evening_111 rfl rfl ?_
            refine PWr_VI 115 C dX10_evening_112 rfl cw10_193 rfl (K3_learnRow (cl := -1) hT hR hW hw106 rfl rfl rfl (by decide) (by omega) (by omega) hrw) rfl (by decide) ⟨Nat.le_refl _, Nat.le_refl _⟩ rfl (Nat.le_of_ble_eq_true rfl) (fun x112 s112 hs112 => ?_)
            obtain ⟨e112, t112, ht112, hw112⟩ := hs112
            rw [lrn_cv _ (nI 0)] at e112 hw112
            refine j_iconst 116 C dX10_evening_115 rfl (v := (-1)) (by decide) ?_
            refine j_icmp_ne 122 119 C dX10_evening_116 (by decide) rfl (fun c116 => ?_) (fun c116 => ?_)
            · refine j_aload 124 C dX10_evening_122 rfl rfl ?_
              refine j_iload_n 125 C dX10_evening_124 rfl rfl ?_
              refine PWr_VV 128 C dX10_evening_125 rfl cw10_124 rfl (K3_passHours (cl := -1) hT hW hw112 rfl rfl (by omega) (by omega)) rfl (by decide) ⟨Nat.le_refl _, Nat.le_refl _⟩ rfl (Nat.le_of_ble_eq_true rfl) (fun s125 hs125 => ?_)
              obtain ⟨t125, ht125, -, hw125⟩ := hs125
              rw [hours_cv _ (nI 0)] at hw125
              refine j_iload 130 C dX10_evening_128 rfl rfl ?_
              refine j_aload_n 131 C dX10_evening_130 rfl rfl ?_
              refine Pdesk 134 C dX10_evening_131 rfl (by decide) ⟨Nat.le_refl _, Nat.le_refl _⟩ (Nat.le_of_ble_eq_true rfl) ?_
              refine j_aload 136 C dX10_evening_134 rfl rfl ?_
              refine j_iload_n 137 C dX10_evening_136 rfl rfl ?_
              refine PWr_DI 140 C dX10_evening_137 rfl cw10_166 rfl (K1_needsOf hT hR hW hw125 hy82 (by omega) (by omega) hrw) rfl (by decide) ⟨Nat.le_refl _, Nat.le_refl _⟩ rfl (Nat.le_of_ble_eq_true rfl) (fun x137 s137 hs137 => ?_)
              obtain ⟨e137, hy137⟩ := hs137
              rw [need_cv _ (nI 0)] at e137
              subst e137
              refine j_sI 143 C dX10_evening_140 rfl cw10_196 K10_lessened rfl (by decide) ⟨Nat.le_refl _, Nat.le_refl _⟩ rfl (Nat.le_of_ble_eq_true rfl) ?_
              exact j_iret C dX10_evening_143 ⟨by refine Eq.trans ?_ (congrArg (fun q => some (Value.int q)) (if_pos ⟨c14, hL, c32⟩).symm); rw [tn_nI (by omega), tn_nI (by omega), tn_nI (by omega), f_eve]; exact congrArg (fun q => some (Value.int q)) (eve_if (show ¬ f_need wd (-1) (nI 0) r hd = -1 from fun q2 => c61 (e57.trans q2)) (show ¬ f_need wd (-1) (nI 0) r (f_hours wd (-1) (nI 0) a hd) = -1 from fun q2 => c116 (e112.trans q2))), Or.inr ⟨zd, zx, zy, zw, zv, _, _, _, _, _, _, _, _, hy137, (HR_X hw125), rfl⟩⟩
            · refine j_ldc 121 C dX10_evening_119 rfl (v := (-2000000000)) kc10_181 ?_
              exact j_iret C dX10_evening_121 ⟨by rw [if_pos ⟨c14, hL, c32⟩, tn_nI (by omega), tn_nI (by omega), tn_nI (by omega), f_eve, if_pos (Or.inr (Or.inl (show f_need wd (-1) (nI 0) r (f_hours wd (-1) (nI 0) a hd) = -1 from e112.symm.trans c116)))], Or.inr ⟨zd, zx, zy, zw, zv, _, _, _, _, _, _, _, _, hy82, (HR_X hw112), rfl⟩⟩
          · refine j_ldc 66 C dX10_evening_64 rfl (v := (-2000000000)) kc10_181 ?_
            exact j_iret C dX10_evening_66 ⟨by rw [if_pos ⟨c14, hL, c32⟩, tn_nI (by omega), tn_nI (by omega), tn_nI (by omega), f_eve, if_pos (Or.inl (show f_need wd (-1) (nI 0) r hd = -1 from e57.symm.trans c61))], Or.inr ⟨zd, zx, zy, zw, zv, _, _, _, _, _, _, _, _, hy, (HR_X hw57), rfl⟩⟩
        · refine j_ldc 37 C dX10_evening_35 rfl (v := (-2000000000)) kc10_181 ?_
          refine j_widen 10 5119 (by decide) (by decide) ?_
          exact j_iret C dX10_evening_37 ⟨by rw [if_neg (fun z => c32 z.2.2)], Or.inl rfl⟩
end SN6
