theorem lrn_val {wd : Nat → Int32} {cl cv : Int32} {r : Nat} : ∀ (m n w : Nat) (h : Nat → Int32), (f_lrn wd cl cv r m n w h).1 = -1 ∨ ∃ k, n ≤ k ∧ k < n + m ∧ (f_lrn wd cl cv r m n w h).1 = nI k
  | 0, n, w, h => Or.inl rfl
  | m + 1, n, w, h => by
    rw [f_lrn]
    generalize (if f_slips wd (f_reads wd cl cv r h) r = 0 then w + 1 else 0) = w2
    by_cases z : w2 = 2
    · rw [if_pos z]; exact Or.inr ⟨n, Nat.le_refl _, by omega, rfl⟩
    · rw [if_neg z]
      rcases lrn_val m (n + 1) w2 (f_reads wd cl cv r h) with z | ⟨k, h1, h2, e⟩
      · exact Or.inl z
      · exact Or.inr ⟨k, by omega, by omega, e⟩
theorem need_val {wd : Nat → Int32} {cl cv : Int32} {r : Nat} {h : Nat → Int32} : f_need wd cl cv r h = -1 ∨ ∃ k, 1 ≤ k ∧ k ≤ 40 ∧ f_need wd cl cv r h = nI k := by
  rcases lrn_val (wd := wd) (cl := cl) (cv := cv) (r := r) 40 1 0 h with z | ⟨k, h1, h2, e⟩
  · exact Or.inl z
  · exact Or.inr ⟨k, h1, by omega, e⟩
theorem need_lt {wd : Nat → Int32} {cl cv : Int32} {r : Nat} {h : Nat → Int32} : f_need wd cl cv r h < nI 1 ↔ f_need wd cl cv r h = -1 := by
  rcases need_val (wd := wd) (cl := cl) (cv := cv) (r := r) (h := h) with z | ⟨k, h1, h2, e⟩
  · rw [z]; decide
  · rw [e]
    have : ¬ nI k < nI 1 := nI_nlt h1 (by omega)
    have h3 : ∀ k, 1 ≤ k → k ≤ 40 → ¬ nI k = (-1 : Int32) := by
      intro k a b
      have : ∀ k, k < 41 → ¬ nI k = (-1 : Int32) := by decide
      exact this k (by omega)
    exact ⟨fun z => absurd z this, fun z => absurd z (h3 k h1 h2)⟩
theorem need_0 {wd : Nat → Int32} {cl cv : Int32} {r : Nat} {h : Nat → Int32} : ¬ f_need wd cl cv r h = 0 := by
  rcases need_val (wd := wd) (cl := cl) (cv := cv) (r := r) (h := h) with z | ⟨k, h1, h2, e⟩
  · rw [z]; decide
  · rw [e]; exact nI_ne0 (by omega) (by omega)
theorem om_pos {wd : Nat → Int32} {cl cv : Int32} {r : Nat} {h : Nat → Int32} : ¬ f_om (f_need wd cl cv r h) ≤ nI 0 := by
  unfold f_om
  rcases need_val (wd := wd) (cl := cl) (cv := cv) (r := r) (h := h) with z | ⟨k, h1, h2, e⟩
  · rw [z, if_pos rfl]; decide
  · rw [e]
    have : ∀ k, k < 41 → 1 ≤ k → ¬ (if nI k = -1 then nI 41 else nI k) ≤ nI 0 := by decide
    exact this k (by omega) h1
section SN4
variable {l : Launch} {G : GG} {wd hd : Nat → Int32} {hr td : Nat} {x y z : Int32} {zn zs zm zh zt zr zb zd zx zy zw zv : Nat → Nat} {Sn Ss Sm Sh St Sr Sb Sd Sx Sy Sw Sv : MS} {r0 r1 t0 t1 : Nat} {fi fs : Nat → Option Nat} {pa : Option Nat} {qd : Nat → Option Nat} {R : va_W}
theorem K10_counted  : Con l G yX10_counted cX10_counted 1 (some .int) 1 0 0 [.int x] [] (pI (f_om x) []) := by
  refine Con.mk (own := RX10) (by decide) rfl (Nat.le_of_ble_eq_true rfl) (fun X C => ?_)
  refine j_iload_n 1 C dX10_counted_0 rfl rfl ?_
  refine j_iconst 2 C dX10_counted_1 rfl (v := (-1)) (by decide) ?_
  refine j_icmp_ne 10 5 C dX10_counted_2 (by decide) rfl (fun c2 => ?_) (fun c2 => ?_)
  · refine j_iload_n 11 C dX10_counted_10 rfl rfl ?_
    exact j_iret C dX10_counted_11 ⟨by rw [f_om, if_neg c2], rfl⟩
  · refine j_bipush 7 C dX10_counted_5 rfl (v := nI 41) (by decide) ?_
    refine j_goto 11 C dX10_counted_7 (by decide) ?_
    exact j_iret C dX10_counted_11 ⟨by rw [f_om, if_pos c2], rfl⟩
theorem K10_savingA (hT : TT (-1) St wd) (hR : RR Sr wd) (hW : WF wd) (hH0 : HR wd Sh hd hr td) (h3 : Sm.1 3 = -1) (h4 : Sm.1 4 = -1) (hhr : hr + 300 ≤ 1000000000) (htd : td + 100 ≤ 1000000000) (hy : HX Sy) (hv : HX Sv)  : Con l G yX10_saving cX10_saving 4 (some .int) 9 0 0 [.ref (zn 50), .int x] (nBk zn (zs 50) G.2.1 Sn fi fs pa (some (zd 50)) ++ (sBk zs (zm 50) (zb 50) G.2.1 Ss ++ (mBk zm (zt 50) (zr 50) (zh 50) G.2.1 Sm ++ (hBk zh G.2.1 Sh ++ (tBk zt G.2.1 St ++ (rBk zr G.2.1 Sr ++ (bBk zb G.2.1 Sb ++ (dBk zd (zx 50) (zw 50) G.2.1 Sd qd ++ (mBk zx t0 r0 (zy 50) G.2.1 Sx ++ (hBk zy G.2.1 Sy ++ (mBk zw t1 r1 (zv 50) G.2.1 Sw ++ (hBk zv G.2.1 Sv ++ (R))))))))))))) (fun v w => v = some (.int (if isI x (nrw wd) then (if (f_need wd (-1) (nI 0) (tn x) (f_fr hd)) < nI 1 ∨ (f_need wd (-1) (nI 0) (tn x) hd) = -1 then -2000000000 else nI 1000 * ((f_need wd (-1) (nI 0) (tn x) (f_fr hd)) - (f_need wd (-1) (nI 0) (tn x) hd)) / (f_need wd (-1) (nI 0) (tn x) (f_fr hd))) else -2000000000)) ∧ ∃ (t0 r0 t1 r1 : Nat) (Sx Sy Sw Sv : MS), HX Sy ∧ HX Sv ∧ w = (nBk zn (zs 50) G.2.1 Sn fi fs pa (some (zd 50)) ++ (sBk zs (zm 50) (zb 50) G.2.1 Ss ++ (mBk zm (zt 50) (zr 50) (zh 50) G.2.1 Sm ++ (hBk zh G.2.1 Sh ++ (tBk zt G.2.1 St ++ (rBk zr G.2.1 Sr ++ (bBk zb G.2.1 Sb ++ (dBk zd (zx 50) (zw 50) G.2.1 Sd qd ++ (mBk zx t0 r0 (zy 50) G.2.1 Sx ++ (hBk zy G.2.1 Sy ++ (mBk zw t1 r1 (zv 50) G.2.1 Sw ++ (hBk zv G.2.1 Sv ++ (R)))))))))))))) := by
  refine Con.mk (own := RX10) (by decide) rfl (Nat.le_of_ble_eq_true rfl) (fun X C => ?_)
  refine j_aload_n 1 C dX10_saving_0 rfl rfl ?_
  refine Pg_n4 4 C dX10_saving_1 rfl fl10_20 ?_
  refine Pg_s0 7 C dX10_saving_4 rfl fl10_61 ?_
  refine Pg_m1 10 C dX10_saving_7 rfl fl10_78 ?_
  refine j_iload_n 11 C dX10_saving_10 rfl rfl ?_
  refine Px_rI 14 C dX10_saving_11 rfl cw10_107 rfl (K5_has (hR.1.trans hW.2.2.1.1) hW.2.2.1.2) rfl (by decide) ⟨Nat.le_refl _, Nat.le_refl _⟩ rfl (Nat.le_of_ble_eq_true rfl) ?_
  refine j_if_neB 20 17 C dX10_saving_14 (by decide) rfl (fun c14 => ?_) (fun c14 => ?_)
  · obtain ⟨r, hrw, rfl⟩ := isI_of c14
    have hr12 := (WF_len hW hrw).2.2.1
    refine j_aload_n 21 C dX10_saving_20 rfl rfl ?_
    refine Pdesk 24 C dX10_saving_21 rfl (by decide) ⟨Nat.le_refl _, Nat.le_refl _⟩ (Nat.le_of_ble_eq_true rfl) ?_
    refine j_aload_n 25 C dX10_saving_24 rfl rfl ?_
    refine Pg_n4 28 C dX10_saving_25 rfl fl10_20 ?_
    refine Pg_s0 31 C dX10_saving_28 rfl fl10_61 ?_
    refine j_iload_n 32 C dX10_saving_31 rfl rfl ?_
    refine Pr_DI 35 C dX10_saving_32 rfl cw10_166 rfl (K1_needsOf hT hR hW hH0 hy (by omega) (by omega) hrw) rfl (by decide) ⟨Nat.le_refl _, Nat.le_refl _⟩ rfl (Nat.le_of_ble_eq_true rfl) (fun x32 s32 hs32 => ?_)
    obtain ⟨e32, hy32⟩ := hs32
    refine j_istore_n 36 C dX10_saving_35 rfl rfl (by decide) ?_
    refine j_aload_n 37 C dX10_saving_36 rfl rfl ?_
    refine Pdesk 40 C dX10_saving_37 rfl (by decide) ⟨Nat.le_refl _, Nat.le_refl _⟩ (Nat.le_of_ble_eq_true rfl) ?_
    refine j_aload_n 41 C dX10_saving_40 rfl rfl ?_
    refine Pg_n4 44 C dX10_saving_41 rfl fl10_20 ?_
    refine Pg_s0 47 C dX10_saving_44 rfl fl10_61 ?_
    refine j_iload_n 48 C dX10_saving_47 rfl rfl ?_
    refine Pr_DI 51 C dX10_saving_48 rfl cw10_178 rfl (K1_freshOf hT hR hW hH0 hy32 (by omega) hrw) rfl (by decide) ⟨Nat.le_refl _, Nat.le_refl _⟩ rfl (Nat.le_of_ble_eq_true rfl) (fun x48 s48 hs48 => ?_)
    obtain ⟨e48, hy48⟩ := hs48
    refine j_istore_n 52 C dX10_saving_51 rfl rfl (by decide) ?_
    rw [need_cv _ (nI 0)] at e32 e48
    subst e32
    subst e48
    refine j_iload_n 53 C dX10_saving_52 rfl rfl ?_
    refine j_iconst 54 C dX10_saving_53 rfl (v := (-1)) (by decide) ?_
    refine j_icmp_eq 66 57 C dX10_saving_54 (by decide) rfl (fun c54 => ?_) (fun c54 => ?_)
    · refine j_ldc 68 C dX10_saving_66 rfl (v := (-2000000000)) kc10_181 ?_
      exact j_iret C dX10_saving_68 ⟨by rw [if_pos c14, tn_nI (by omega), if_pos (Or.inr c54)], _, _, _, _, _, _, _, _, hy48, hv, rfl⟩
    · refine j_iload_n 58 C dX10_saving_57 rfl rfl ?_
      refine j_iconst 59 C dX10_saving_58 rfl (v := (-1)) (by decide) ?_
      refine j_icmp_eq 66 62 C dX10_saving_59 (by decide) rfl (fun c59 => ?_) (fun c59 => ?_)
      · refine j_ldc 68 C dX10_saving_66 rfl (v := (-2000000000)) kc10_181 ?_
        exact j_iret C dX10_saving_68 ⟨by rw [if_pos c14, tn_nI (by omega), if_pos (Or.inl (need_lt.mpr c59))], _, _, _, _, _, _, _, _, hy48, hv, rfl⟩
      · refine j_iload_n 63 C dX10_saving_62 rfl rfl ?_
        refine j_if_ne 69 66 C dX10_saving_63 (by decide) rfl (fun c63 => ?_) (fun c63 => ?_)
        · refine j_iload_n 70 C dX10_saving_69 rfl rfl ?_
          refine j_iload_n 71 C dX10_saving_70 rfl rfl ?_
          refine j_isub 72 C dX10_saving_71 rfl ?_
          refine j_sipush 75 C dX10_saving_72 rfl (v := nI 1000) (by decide) ?_
          refine j_imul 76 C dX10_saving_75 rfl ?_
          refine j_iload_n 77 C dX10_saving_76 rfl rfl ?_
          refine j_idiv 78 C dX10_saving_77 rfl (need_0) ?_
          exact j_iret C dX10_saving_78 ⟨by rw [if_pos c14, tn_nI (by omega), if_neg (fun z => z.elim (fun q => c59 (need_lt.mp q)) c54), Int32.mul_comm (nI 1000)], _, _, _, _, _, _, _, _, hy48, hv, rfl⟩
        · refine j_ldc 68 C dX10_saving_66 rfl (v := (-2000000000)) kc10_181 ?_
          exact j_iret C dX10_saving_68 ⟨by rw [if_pos c14, tn_nI (by omega), if_pos (absurd c63 need_0)], _, _, _, _, _, _, _, _, hy48, hv, rfl⟩
  · refine j_ldc 19 C dX10_saving_17 rfl (v := (-2000000000)) kc10_181 ?_
    exact j_iret C dX10_saving_19 ⟨by rw [if_neg c14], _, _, _, _, _, _, _, _, hy, hv, rfl⟩
theorem K10_savingB (hT : TT (-1) St wd) (hR : RR Sr wd) (hW : WF wd) (hH0 : HR wd Sh hd hr td) (h3 : Sm.1 3 = -1) (h4 : Sm.1 4 = -1) (hhr : hr + 300 ≤ 1000000000) (htd : td + 100 ≤ 1000000000)  : Con l G yX10_saving cX10_saving 4 (some .int) 9 10 5119 [.ref (zn 50), .int x] (nBk zn (zs 50) G.2.1 Sn fi fs pa none ++ (sBk zs (zm 50) (zb 50) G.2.1 Ss ++ (mBk zm (zt 50) (zr 50) (zh 50) G.2.1 Sm ++ (hBk zh G.2.1 Sh ++ (tBk zt G.2.1 St ++ (rBk zr G.2.1 Sr ++ (bBk zb G.2.1 Sb ++ (R)))))))) (fun v w => v = some (.int (if isI x (nrw wd) then (if (f_need wd (-1) (nI 0) (tn x) (f_fr hd)) < nI 1 ∨ (f_need wd (-1) (nI 0) (tn x) hd) = -1 then -2000000000 else nI 1000 * ((f_need wd (-1) (nI 0) (tn x) (f_fr hd)) - (f_need wd (-1) (nI 0) (tn x) hd)) / (f_need wd (-1) (nI 0) (tn x) (f_fr hd))) else -2000000000)) ∧ (w = (nBk zn (zs 50) G.2.1 Sn fi fs pa none ++ (sBk zs (zm 50) (zb 50) G.2.1 Ss ++ (mBk zm (zt 50) (zr 50) (zh 50) G.2.1 Sm ++ (hBk zh G.2.1 Sh ++ (tBk zt G.2.1 St ++ (rBk zr G.2.1 Sr ++ (bBk zb G.2.1 Sb ++ (R)))))))) ∨ ∃ (zd zx zy zw zv : Nat → Nat) (t0 r0 t1 r1 : Nat) (Sx Sy Sw Sv : MS), HX Sy ∧ HX Sv ∧ w = (nBk zn (zs 50) G.2.1 Sn fi fs pa (some (zd 50)) ++ (sBk zs (zm 50) (zb 50) G.2.1 Ss ++ (mBk zm (zt 50) (zr 50) (zh 50) G.2.1 Sm ++ (hBk zh G.2.1 Sh ++ (tBk zt G.2.1 St ++ (rBk zr G.2.1 Sr ++ (bBk zb G.2.1 Sb ++ (dBk zd (zx 50) (zw 50) G.2.1 MS0 (fun _ => none) ++ (mBk zx t0 r0 (zy 50) G.2.1 Sx ++ (hBk zy G.2.1 Sy ++ (mBk zw t1 r1 (zv 50) G.2.1 Sw ++ (hBk zv G.2.1 Sv ++ (R))))))))))))))) := by
  refine Con.mk (own := RX10) (by decide) rfl (Nat.le_of_ble_eq_true rfl) (fun X C => ?_)
  refine j_aload_n 1 C dX10_saving_0 rfl rfl ?_
  refine Lng_n4 4 C dX10_saving_1 rfl fl10_20 ?_
  refine Lng_s0 7 C dX10_saving_4 rfl fl10_61 ?_
  refine Lng_m1 10 C dX10_saving_7 rfl fl10_78 ?_
  refine j_iload_n 11 C dX10_saving_10 rfl rfl ?_
  refine Lnx_rI 14 C dX10_saving_11 rfl cw10_107 rfl (K5_has (hR.1.trans hW.2.2.1.1) hW.2.2.1.2) rfl (by decide) ⟨Nat.zero_le _, Nat.zero_le _⟩ rfl (Nat.le_of_ble_eq_true rfl) ?_
  refine j_if_neB 20 17 C dX10_saving_14 (by decide) rfl (fun c14 => ?_) (fun c14 => ?_)
  · obtain ⟨r, hrw, rfl⟩ := isI_of c14
    have hr12 := (WF_len hW hrw).2.2.1
    refine j_aload_n 21 C dX10_saving_20 rfl rfl ?_
    refine Ldesk0 24 C dX10_saving_21 rfl (by decide) (Nat.le_of_ble_eq_true rfl) (fun zd zx zy zw zv => ?_)
    have hy := HX0
    have hv := HX0
    refine j_aload_n 25 C dX10_saving_24 rfl rfl ?_
    refine Pg_n4 28 C dX10_saving_25 rfl fl10_20 ?_
    refine Pg_s0 31 C dX10_saving_28 rfl fl10_61 ?_
    refine j_iload_n 32 C dX10_saving_31 rfl rfl ?_
    refine Pr_DI 35 C dX10_saving_32 rfl cw10_166 rfl (K1_needsOf hT hR hW hH0 hy (by omega) (by omega) hrw) rfl (by decide) ⟨Nat.le_refl _, Nat.le_refl _⟩ rfl (Nat.le_of_ble_eq_true rfl) (fun x32 s32 hs32 => ?_)
    obtain ⟨e32, hy32⟩ := hs32
    refine j_istore_n 36 C dX10_saving_35 rfl rfl (by decide) ?_
    refine j_aload_n 37 C dX10_saving_36 rfl rfl ?_
    refine Pdesk 40 C dX10_saving_37 rfl (by decide) ⟨Nat.le_refl _, Nat.le_refl _⟩ (Nat.le_of_ble_eq_true rfl) ?_
    refine j_aload_n 41 C dX10_saving_40 rfl rfl ?_
    refine Pg_n4 44 C dX10_saving_41 rfl fl10_20 ?_
    refine Pg_s0 47 C dX10_saving_44 rfl fl10_61 ?_
    refine j_iload_n 48 C dX10_saving_47 rfl rfl ?_
    refine Pr_DI 51 C dX10_saving_48 rfl cw10_178 rfl (K1_freshOf hT hR hW hH0 hy32 (by omega) hrw) rfl (by decide) ⟨Nat.le_refl _, Nat.le_refl _⟩ rfl (Nat.le_of_ble_eq_true rfl) (fun x48 s48 hs48 => ?_)
    obtain ⟨e48, hy48⟩ := hs48
    refine j_istore_n 52 C dX10_saving_51 rfl rfl (by decide) ?_
    rw [need_cv _ (nI 0)] at e32 e48
    subst e32
    subst e48
    refine j_iload_n 53 C dX10_saving_52 rfl rfl ?_
    refine j_iconst 54 C dX10_saving_53 rfl (v := (-1)) (by decide) ?_
    refine j_icmp_eq 66 57 C dX10_saving_54 (by decide) rfl (fun c54 => ?_) (fun c54 => ?_)
    · refine j_ldc 68 C dX10_saving_66 rfl (v := (-2000000000)) kc10_181 ?_
      exact j_iret C dX10_saving_68 ⟨by rw [if_pos c14, tn_nI (by omega), if_pos (Or.inr c54)], Or.inr ⟨zd, zx, zy, zw, zv, _, _, _, _, _, _, _, _, hy48, hv, rfl⟩⟩
    · refine j_iload_n 58 C dX10_saving_57 rfl rfl ?_
      refine j_iconst 59 C dX10_saving_58 rfl (v := (-1)) (by decide) ?_
      refine j_icmp_eq 66 62 C dX10_saving_59 (by decide) rfl (fun c59 => ?_) (fun c59 => ?_)
      · refine j_ldc 68 C dX10_saving_66 rfl (v := (-2000000000)) kc10_181 ?_
        exact j_iret C dX10_saving_68 ⟨by rw [if_pos c14, tn_nI (by omega), if_pos (Or.inl (need_lt.mpr c59))], Or.inr ⟨zd, zx, zy, zw, zv, _, _, _, _, _, _, _, _, hy48, hv, rfl⟩⟩
      · refine j_iload_n 63 C dX10_saving_62 rfl rfl ?_
        refine j_if_ne 69 66 C dX10_saving_63 (by decide) rfl (fun c63 => ?_) (fun c63 => ?_)
        · refine j_iload_n 70 C dX10_saving_69 rfl rfl ?_
          refine j_iload_n 71 C dX10_saving_70 rfl rfl ?_
          refine j_isub 72 C dX10_saving_71 rfl ?_
          refine j_sipush 75 C dX10_saving_72 rfl (v := nI 1000) (by decide) ?_
          refine j_imul 76 C dX10_saving_75 rfl ?_
          refine j_iload_n 77 C dX10_saving_76 rfl rfl ?_
          refine j_idiv 78 C dX10_saving_77 rfl (need_0) ?_
          exact j_iret C dX10_saving_78 ⟨by rw [if_pos c14, tn_nI (by omega), if_neg (fun z => z.elim (fun q => c59 (need_lt.mp q)) c54), Int32.mul_comm (nI 1000)], Or.inr ⟨zd, zx, zy, zw, zv, _, _, _, _, _, _, _, _, hy48, hv, rfl⟩⟩
        · refine j_ldc 68 C dX10_saving_66 rfl (v := (-2000000000)) kc10_181 ?_
          exact j_iret C dX10_saving_68 ⟨by rw [if_pos c14, tn_nI (by omega), if_pos (absurd c63 need_0)], Or.inr ⟨zd, zx, zy, zw, zv, _, _, _, _, _, _, _, _, hy48, hv, rfl⟩⟩
  · refine j_ldc 19 C dX10_saving_17 rfl (v := (-2000000000)) kc10_181 ?_
    refine j_widen 10 5119 (by decide) (by decide) ?_
    exact j_iret C dX10_saving_19 ⟨by rw [if_neg c14], Or.inl rfl⟩
theorem K10_verseA (hT : TT (-1) St wd) (hR : RR Sr wd) (hW : WF wd) (hH0 : HR wd Sh hd hr td) (h3 : Sm.1 3 = -1) (h4 : Sm.1 4 = -1) (hhr : hr + 300 ≤ 1000000000) (htd : td + 100 ≤ 1000000000) (hy : HX Sy) (hv : HX Sv)  : Con l G yX10_verse cX10_verse 5 (some .int) 9 0 0 [.ref (zn 50), .int x, .int y] (nBk zn (zs 50) G.2.1 Sn fi fs pa (some (zd 50)) ++ (sBk zs (zm 50) (zb 50) G.2.1 Ss ++ (mBk zm (zt 50) (zr 50) (zh 50) G.2.1 Sm ++ (hBk zh G.2.1 Sh ++ (tBk zt G.2.1 St ++ (rBk zr G.2.1 Sr ++ (bBk zb G.2.1 Sb ++ (dBk zd (zx 50) (zw 50) G.2.1 Sd qd ++ (mBk zx t0 r0 (zy 50) G.2.1 Sx ++ (hBk zy G.2.1 Sy ++ (mBk zw t1 r1 (zv 50) G.2.1 Sw ++ (hBk zv G.2.1 Sv ++ (R))))))))))))) (fun v w => v = some (.int (if isI x (nrw wd) ∧ isI y (nrw wd) then (if (f_need wd (-1) (nI 0) (tn x) (f_fr hd)) = -1 ∨ (f_need wd (-1) (nI 0) (tn y) (f_fr hd)) = -1 then -2000000000 else nI 1000 * (f_need wd (-1) (nI 0) (tn x) (f_fr hd)) / (f_need wd (-1) (nI 0) (tn y) (f_fr hd))) else -2000000000)) ∧ ∃ (t0 r0 t1 r1 : Nat) (Sx Sy Sw Sv : MS), HX Sy ∧ HX Sv ∧ w = (nBk zn (zs 50) G.2.1 Sn fi fs pa (some (zd 50)) ++ (sBk zs (zm 50) (zb 50) G.2.1 Ss ++ (mBk zm (zt 50) (zr 50) (zh 50) G.2.1 Sm ++ (hBk zh G.2.1 Sh ++ (tBk zt G.2.1 St ++ (rBk zr G.2.1 Sr ++ (bBk zb G.2.1 Sb ++ (dBk zd (zx 50) (zw 50) G.2.1 Sd qd ++ (mBk zx t0 r0 (zy 50) G.2.1 Sx ++ (hBk zy G.2.1 Sy ++ (mBk zw t1 r1 (zv 50) G.2.1 Sw ++ (hBk zv G.2.1 Sv ++ (R)))))))))))))) := by
  refine Con.mk (own := RX10) (by decide) rfl (Nat.le_of_ble_eq_true rfl) (fun X C => ?_)
  refine j_aload_n 1 C dX10_verse_0 rfl rfl ?_
  refine Pg_n4 4 C dX10_verse_1 rfl fl10_20 ?_
  refine Pg_s0 7 C dX10_verse_4 rfl fl10_61 ?_
  refine Pg_m1 10 C dX10_verse_7 rfl fl10_78 ?_
  refine j_iload_n 11 C dX10_verse_10 rfl rfl ?_
  refine Px_rI 14 C dX10_verse_11 rfl cw10_107 rfl (K5_has (hR.1.trans hW.2.2.1.1) hW.2.2.1.2) rfl (by decide) ⟨Nat.le_refl _, Nat.le_refl _⟩ rfl (Nat.le_of_ble_eq_true rfl) ?_
  refine j_if_eqB 34 17 C dX10_verse_14 (by decide) rfl (fun c14 => ?_) (fun c14 => ?_)
  · refine j_ldc 36 C dX10_verse_34 rfl (v := (-2000000000)) kc10_181 ?_
    exact j_iret C dX10_verse_36 ⟨by rw [if_neg (fun z => c14 z.1)], _, _, _, _, _, _, _, _, hy, hv, rfl⟩
  · obtain ⟨r, hrw, rfl⟩ := isI_of c14
    have hr12 := (WF_len hW hrw).2.2.1
    refine j_aload_n 18 C dX10_verse_17 rfl rfl ?_
    refine Pg_n4 21 C dX10_verse_18 rfl fl10_20 ?_
    refine Pg_s0 24 C dX10_verse_21 rfl fl10_61 ?_
    refine Pg_m1 27 C dX10_verse_24 rfl fl10_78 ?_
    refine j_iload_n 28 C dX10_verse_27 rfl rfl ?_
    refine Px_rI 31 C dX10_verse_28 rfl cw10_107 rfl (K5_has (hR.1.trans hW.2.2.1.1) hW.2.2.1.2) rfl (by decide) ⟨Nat.le_refl _, Nat.le_refl _⟩ rfl (Nat.le_of_ble_eq_true rfl) ?_
    refine j_if_neB 37 34 C dX10_verse_31 (by decide) rfl (fun c31 => ?_) (fun c31 => ?_)
    · obtain ⟨q, hqw, rfl⟩ := isI_of c31
      have hq12 := (WF_len hW hqw).2.2.1
      refine j_aload_n 38 C dX10_verse_37 rfl rfl ?_
      refine Pdesk 41 C dX10_verse_38 rfl (by decide) ⟨Nat.le_refl _, Nat.le_refl _⟩ (Nat.le_of_ble_eq_true rfl) ?_
      refine j_aload_n 42 C dX10_verse_41 rfl rfl ?_
      refine Pg_n4 45 C dX10_verse_42 rfl fl10_20 ?_
      refine Pg_s0 48 C dX10_verse_45 rfl fl10_61 ?_
      refine j_iload_n 49 C dX10_verse_48 rfl rfl ?_
      refine Pr_DI 52 C dX10_verse_49 rfl cw10_178 rfl (K1_freshOf hT hR hW hH0 hy (by omega) hrw) rfl (by decide) ⟨Nat.le_refl _, Nat.le_refl _⟩ rfl (Nat.le_of_ble_eq_true rfl) (fun x49 s49 hs49 => ?_)
      obtain ⟨e49, hy49⟩ := hs49
      refine j_istore_n 53 C dX10_verse_52 rfl rfl (by decide) ?_
      refine j_aload_n 54 C dX10_verse_53 rfl rfl ?_
      refine Pdesk 57 C dX10_verse_54 rfl (by decide) ⟨Nat.le_refl _, Nat.le_refl _⟩ (Nat.le_of_ble_eq_true rfl) ?_
      refine j_aload_n 58 C dX10_verse_57 rfl rfl ?_
      refine Pg_n4 61 C dX10_verse_58 rfl fl10_20 ?_
      refine Pg_s0 64 C dX10_verse_61 rfl fl10_61 ?_
      refine j_iload_n 65 C dX10_verse_64 rfl rfl ?_
      refine Pr_DI 68 C dX10_verse_65 rfl cw10_178 rfl (K1_freshOf hT hR hW hH0 hy49 (by omega) hqw) rfl (by decide) ⟨Nat.le_refl _, Nat.le_refl _⟩ rfl (Nat.le_of_ble_eq_true rfl) (fun x65 s65 hs65 => ?_)
      obtain ⟨e65, hy65⟩ := hs65
      refine j_istore 70 C dX10_verse_68 rfl rfl (by decide) ?_
      rw [need_cv _ (nI 0)] at e49 e65
      subst e49
      subst e65
      refine j_iload_n 71 C dX10_verse_70 rfl rfl ?_
      refine j_iconst 72 C dX10_verse_71 rfl (v := (-1)) (by decide) ?_
      refine j_icmp_eq 86 75 C dX10_verse_72 (by decide) rfl (fun c72 => ?_) (fun c72 => ?_)
      · refine j_ldc 88 C dX10_verse_86 rfl (v := (-2000000000)) kc10_181 ?_
        exact j_iret C dX10_verse_88 ⟨by rw [if_pos ⟨c14, c31⟩, tn_nI (by omega), tn_nI (by omega), if_pos (Or.inl c72)], _, _, _, _, _, _, _, _, hy65, hv, rfl⟩
      · refine j_iload 77 C dX10_verse_75 rfl rfl ?_
        refine j_iconst 78 C dX10_verse_77 rfl (v := (-1)) (by decide) ?_
        refine j_icmp_eq 86 81 C dX10_verse_78 (by decide) rfl (fun c78 => ?_) (fun c78 => ?_)
        · refine j_ldc 88 C dX10_verse_86 rfl (v := (-2000000000)) kc10_181 ?_
          exact j_iret C dX10_verse_88 ⟨by rw [if_pos ⟨c14, c31⟩, tn_nI (by omega), tn_nI (by omega), if_pos (Or.inr c78)], _, _, _, _, _, _, _, _, hy65, hv, rfl⟩
        · refine j_iload 83 C dX10_verse_81 rfl rfl ?_
          refine j_if_ne 89 86 C dX10_verse_83 (by decide) rfl (fun c83 => ?_) (fun c83 => ?_)
          · refine j_iload_n 90 C dX10_verse_89 rfl rfl ?_
            refine j_sipush 93 C dX10_verse_90 rfl (v := nI 1000) (by decide) ?_
            refine j_imul 94 C dX10_verse_93 rfl ?_
            refine j_iload 96 C dX10_verse_94 rfl rfl ?_
            refine j_idiv 97 C dX10_verse_96 rfl (need_0) ?_
            exact j_iret C dX10_verse_97 ⟨by rw [if_pos ⟨c14, c31⟩, tn_nI (by omega), tn_nI (by omega), if_neg (fun z => z.elim c72 c78), Int32.mul_comm (nI 1000)], _, _, _, _, _, _, _, _, hy65, hv, rfl⟩
          · refine j_ldc 88 C dX10_verse_86 rfl (v := (-2000000000)) kc10_181 ?_
            exact j_iret C dX10_verse_88 ⟨by rw [if_pos ⟨c14, c31⟩, tn_nI (by omega), tn_nI (by omega), if_pos (absurd c83 need_0)], _, _, _, _, _, _, _, _, hy65, hv, rfl⟩
    · refine j_ldc 36 C dX10_verse_34 rfl (v := (-2000000000)) kc10_181 ?_
      exact j_iret C dX10_verse_36 ⟨by rw [if_neg (fun z => c31 z.2)], _, _, _, _, _, _, _, _, hy, hv, rfl⟩
theorem K10_verseB (hT : TT (-1) St wd) (hR : RR Sr wd) (hW : WF wd) (hH0 : HR wd Sh hd hr td) (h3 : Sm.1 3 = -1) (h4 : Sm.1 4 = -1) (hhr : hr + 300 ≤ 1000000000) (htd : td + 100 ≤ 1000000000)  : Con l G yX10_verse cX10_verse 5 (some .int) 9 10 5119 [.ref (zn 50), .int x, .int y] (nBk zn (zs 50) G.2.1 Sn fi fs pa none ++ (sBk zs (zm 50) (zb 50) G.2.1 Ss ++ (mBk zm (zt 50) (zr 50) (zh 50) G.2.1 Sm ++ (hBk zh G.2.1 Sh ++ (tBk zt G.2.1 St ++ (rBk zr G.2.1 Sr ++ (bBk zb G.2.1 Sb ++ (R)))))))) (fun v w => v = some (.int (if isI x (nrw wd) ∧ isI y (nrw wd) then (if (f_need wd (-1) (nI 0) (tn x) (f_fr hd)) = -1 ∨ (f_need wd (-1) (nI 0) (tn y) (f_fr hd)) = -1 then -2000000000 else nI 1000 * (f_need wd (-1) (nI 0) (tn x) (f_fr hd)) / (f_need wd (-1) (nI 0) (tn y) (f_fr hd))) else -2000000000)) ∧ (w = (nBk zn (zs 50) G.2.1 Sn fi fs pa none ++ (sBk zs (zm 50) (zb 50) G.2.1 Ss ++ (mBk zm (zt 50) (zr 50) (zh 50) G.2.1 Sm ++ (hBk zh G.2.1 Sh ++ (tBk zt G.2.1 St ++ (rBk zr G.2.1 Sr ++ (bBk zb G.2.1 Sb ++ (R)))))))) ∨ ∃ (zd zx zy zw zv : Nat → Nat) (t0 r0 t1 r1 : Nat) (Sx Sy Sw Sv : MS), HX Sy ∧ HX Sv ∧ w = (nBk zn (zs 50) G.2.1 Sn fi fs pa (some (zd 50)) ++ (sBk zs (zm 50) (zb 50) G.2.1 Ss ++ (mBk zm (zt 50) (zr 50) (zh 50) G.2.1 Sm ++ (hBk zh G.2.1 Sh ++ (tBk zt G.2.1 St ++ (rBk zr G.2.1 Sr ++ (bBk zb G.2.1 Sb ++ (dBk zd (zx 50) (zw 50) G.2.1 MS0 (fun _ => none) ++ (mBk zx t0 r0 (zy 50) G.2.1 Sx ++ (hBk zy G.2.1 Sy ++ (mBk zw t1 r1 (zv 50) G.2.1 Sw ++ (hBk zv G.2.1 Sv ++ (R))))))))))))))) := by
  refine Con.mk (own := RX10) (by decide) rfl (Nat.le_of_ble_eq_true rfl) (fun X C => ?_)
  refine j_aload_n 1 C dX10_verse_0 rfl rfl ?_
  refine Lng_n4 4 C dX10_verse_1 rfl fl10_20 ?_
  refine Lng_s0 7 C dX10_verse_4 rfl fl10_61 ?_
  refine Lng_m1 10 C dX10_verse_7 rfl fl10_78 ?_
  refine j_iload_n 11 C dX10_verse_10 rfl rfl ?_
  refine Lnx_rI 14 C dX10_verse_11 rfl cw10_107 rfl (K5_has (hR.1.trans hW.2.2.1.1) hW.2.2.1.2) rfl (by decide) ⟨Nat.zero_le _, Nat.zero_le _⟩ rfl (Nat.le_of_ble_eq_true rfl) ?_
  refine j_if_eqB 34 17 C dX10_verse_14 (by decide) rfl (fun c14 => ?_) (fun c14 => ?_)
  · refine j_ldc 36 C dX10_verse_34 rfl (v := (-2000000000)) kc10_181 ?_
    refine j_widen 10 5119 (by decide) (by decide) ?_
    exact j_iret C dX10_verse_36 ⟨by rw [if_neg (fun z => c14 z.1)], Or.inl rfl⟩
  · obtain ⟨r, hrw, rfl⟩ := isI_of c14
    have hr12 := (WF_len hW hrw).2.2.1
    refine j_aload_n 18 C dX10_verse_17 rfl rfl ?_
    refine Lng_n4 21 C dX10_verse_18 rfl fl10_20 ?_
    refine Lng_s0 24 C dX10_verse_21 rfl fl10_61 ?_
    refine Lng_m1 27 C dX10_verse_24 rfl fl10_78 ?_
    refine j_iload_n 28 C dX10_verse_27 rfl rfl ?_
    refine Lnx_rI 31 C dX10_verse_28 rfl cw10_107 rfl (K5_has (hR.1.trans hW.2.2.1.1) hW.2.2.1.2) rfl (by decide) ⟨Nat.zero_le _, Nat.zero_le _⟩ rfl (Nat.le_of_ble_eq_true rfl) ?_
    refine j_if_neB 37 34 C dX10_verse_31 (by decide) rfl (fun c31 => ?_) (fun c31 => ?_)
    · obtain ⟨q, hqw, rfl⟩ := isI_of c31
      have hq12 := (WF_len hW hqw).2.2.1
      refine j_aload_n 38 C dX10_verse_37 rfl rfl ?_
      refine Ldesk0 41 C dX10_verse_38 rfl (by decide) (Nat.le_of_ble_eq_true rfl) (fun zd zx zy zw zv => ?_)
      have hy := HX0
      have hv := HX0
      refine j_aload_n 42 C dX10_verse_41 rfl rfl ?_
      refine Pg_n4 45 C dX10_verse_42 rfl fl10_20 ?_
      refine Pg_s0 48 C dX10_verse_45 rfl fl10_61 ?_
      refine j_iload_n 49 C dX10_verse_48 rfl rfl ?_
      refine Pr_DI 52 C dX10_verse_49 rfl cw10_178 rfl (K1_freshOf hT hR hW hH0 hy (by omega) hrw) rfl (by decide) ⟨Nat.le_refl _, Nat.le_refl _⟩ rfl (Nat.le_of_ble_eq_true rfl) (fun x49 s49 hs49 => ?_)
      obtain ⟨e49, hy49⟩ := hs49
      refine j_istore_n 53 C dX10_verse_52 rfl rfl (by decide) ?_
      refine j_aload_n 54 C dX10_verse_53 rfl rfl ?_
      refine Pdesk 57 C dX10_verse_54 rfl (by decide) ⟨Nat.le_refl _, Nat.le_refl _⟩ (Nat.le_of_ble_eq_true rfl) ?_
      refine j_aload_n 58 C dX10_verse_57 rfl rfl ?_
      refine Pg_n4 61 C dX10_verse_58 rfl fl10_20 ?_
      refine Pg_s0 64 C dX10_verse_61 rfl fl10_61 ?_
      refine j_iload_n 65 C dX10_verse_64 rfl rfl ?_
      refine Pr_DI 68 C dX10_verse_65 rfl cw10_178 rfl (K1_freshOf hT hR hW hH0 hy49 (by omega) hqw) rfl (by decide) ⟨Nat.le_refl _, Nat.le_refl _⟩ rfl (Nat.le_of_ble_eq_true rfl) (fun x65 s65 hs65 => ?_)
      obtain ⟨e65, hy65⟩ := hs65
      refine j_istore 70 C dX10_verse_68 rfl rfl (by decide) ?_
      rw [need_cv _ (nI 0)] at e49 e65
      subst e49
      subst e65
      refine j_iload_n 71 C dX10_verse_70 rfl rfl ?_
      refine j_iconst 72 C dX10_verse_71 rfl (v := (-1)) (by decide) ?_
      refine j_icmp_eq 86 75 C dX10_verse_72 (by decide) rfl (fun c72 => ?_) (fun c72 => ?_)
      · refine j_ldc 88 C dX10_verse_86 rfl (v := (-2000000000)) kc10_181 ?_
        exact j_iret C dX10_verse_88 ⟨by rw [if_pos ⟨c14, c31⟩, tn_nI (by omega), tn_nI (by omega), if_pos (Or.inl c72)], Or.inr ⟨zd, zx, zy, zw, zv, _, _, _, _, _, _, _, _, hy65, hv, rfl⟩⟩
      · refine j_iload 77 C dX10_verse_75 rfl rfl ?_
        refine j_iconst 78 C dX10_verse_77 rfl (v := (-1)) (by decide) ?_
        refine j_icmp_eq 86 81 C dX10_verse_78 (by decide) rfl (fun c78 => ?_) (fun c78 => ?_)
        · refine j_ldc 88 C dX10_verse_86 rfl (v := (-2000000000)) kc10_181 ?_
          exact j_iret C dX10_verse_88 ⟨by rw [if_pos ⟨c14, c31⟩, tn_nI (by omega), tn_nI (by omega), if_pos (Or.inr c78)], Or.inr ⟨zd, zx, zy, zw, zv, _, _, _, _, _, _, _, _, hy65, hv, rfl⟩⟩
        · refine j_iload 83 C dX10_verse_81 rfl rfl ?_
          refine j_if_ne 89 86 C dX10_verse_83 (by decide) rfl (fun c83 => ?_) (fun c83 => ?_)
          · refine j_iload_n 90 C dX10_verse_89 rfl rfl ?_
            refine j_sipush 93 C dX10_verse_90 rfl (v := nI 1000) (by decide) ?_
            refine j_imul 94 C dX10_verse_93 rfl ?_
            refine j_iload 96 C dX10_verse_94 rfl rfl ?_
            refine j_idiv 97 C dX10_verse_96 rfl (need_0) ?_
            exact j_iret C dX10_verse_97 ⟨by rw [if_pos ⟨c14, c31⟩, tn_nI (by omega), tn_nI (by omega), if_neg (fun z => z.elim c72 c78), Int32.mul_comm (nI 1000)], Or.inr ⟨zd, zx, zy, zw, zv, _, _, _, _, _, _, _, _, hy65, hv, rfl⟩⟩
          · refine j_ldc 88 C dX10_verse_86 rfl (v := (-2000000000)) kc10_181 ?_
            exact j_iret C dX10_verse_88 ⟨by rw [if_pos ⟨c14, c31⟩, tn_nI (by omega), tn_nI (by omega), if_pos (absurd c83 need_0)], Or.inr ⟨zd, zx, zy, zw, zv, _, _, _, _, _, _, _, _, hy65, hv, rfl⟩⟩
    · refine j_ldc 36 C dX10_verse_34 rfl (v := (-2000000000)) kc10_181 ?_
      refine j_widen 10 5119 (by decide) (by decide) ?_
      exact j_iret C dX10_verse_36 ⟨by rw [if_neg (fun z => c31 z.2)], Or.inl rfl⟩
theorem K10_lastsA (hT : TT (-1) St wd) (hR : RR Sr wd) (hW : WF wd) (hH0 : HR wd Sh hd hr td) (h3 : Sm.1 3 = -1) (h4 : Sm.1 4 = -1) (hhr : hr + 300 ≤ 1000000000) (htd : td + 100 ≤ 1000000000) (hy : HX Sy) (hv : HX Sv)  : Con l G yX10_lasts cX10_lasts 4 (some .int) 9 0 0 [.ref (zn 50), .int x] (nBk zn (zs 50) G.2.1 Sn fi fs pa (some (zd 50)) ++ (sBk zs (zm 50) (zb 50) G.2.1 Ss ++ (mBk zm (zt 50) (zr 50) (zh 50) G.2.1 Sm ++ (hBk zh G.2.1 Sh ++ (tBk zt G.2.1 St ++ (rBk zr G.2.1 Sr ++ (bBk zb G.2.1 Sb ++ (dBk zd (zx 50) (zw 50) G.2.1 Sd qd ++ (mBk zx t0 r0 (zy 50) G.2.1 Sx ++ (hBk zy G.2.1 Sy ++ (mBk zw t1 r1 (zv 50) G.2.1 Sw ++ (hBk zv G.2.1 Sv ++ (R))))))))))))) (fun v w => v = some (.int (if isI x (nrw wd) then f_las wd (-1) (nI 0) (tn x) 201 0 hd else -2)) ∧ ∃ (t0 r0 t1 r1 : Nat) (Sx Sy Sw Sv : MS), HX Sy ∧ HX Sv ∧ w = (nBk zn (zs 50) G.2.1 Sn fi fs pa (some (zd 50)) ++ (sBk zs (zm 50) (zb 50) G.2.1 Ss ++ (mBk zm (zt 50) (zr 50) (zh 50) G.2.1 Sm ++ (hBk zh G.2.1 Sh ++ (tBk zt G.2.1 St ++ (rBk zr G.2.1 Sr ++ (bBk zb G.2.1 Sb ++ (dBk zd (zx 50) (zw 50) G.2.1 Sd qd ++ (mBk zx t0 r0 (zy 50) G.2.1 Sx ++ (hBk zy G.2.1 Sy ++ (mBk zw t1 r1 (zv 50) G.2.1 Sw ++ (hBk zv G.2.1 Sv ++ (R)))))))))))))) := by
  refine Con.mk (own := RX10) (by decide) rfl (Nat.le_of_ble_eq_true rfl) (fun X C => ?_)
  refine j_aload_n 1 C dX10_lasts_0 rfl rfl ?_
  refine Pg_n4 4 C dX10_lasts_1 rfl fl10_20 ?_
  refine Pg_s0 7 C dX10_lasts_4 rfl fl10_61 ?_
  refine Pg_m1 10 C dX10_lasts_7 rfl fl10_78 ?_
  refine j_iload_n 11 C dX10_lasts_10 rfl rfl ?_
  refine Px_rI 14 C dX10_lasts_11 rfl cw10_107 rfl (K5_has (hR.1.trans hW.2.2.1.1) hW.2.2.1.2) rfl (by decide) ⟨Nat.le_refl _, Nat.le_refl _⟩ rfl (Nat.le_of_ble_eq_true rfl) ?_
  refine j_if_neB 20 17 C dX10_lasts_14 (by decide) rfl (fun c14 => ?_) (fun c14 => ?_)
  · obtain ⟨r, hrw, rfl⟩ := isI_of c14
    have hr12 := (WF_len hW hrw).2.2.1
    refine j_aload_n 21 C dX10_lasts_20 rfl rfl ?_
    refine Pdesk 24 C dX10_lasts_21 rfl (by decide) ⟨Nat.le_refl _, Nat.le_refl _⟩ (Nat.le_of_ble_eq_true rfl) ?_
    have lp37 : ∀ (m : Nat) (i : Nat) (t0 r0 : Nat) (Sx Sy : MS) (Sv : MS) (h : Nat → Int32) (hr1 td1 : Nat), 201 - i = m → i ≤ 201 → hr1 ≤ hr + i → td1 ≤ td → HX Sy → HR wd Sv h hr1 td1 → f_las wd (-1) (nI 0) r m i h = (if isI (nI r) (nrw wd) then f_las wd (-1) (nI 0) (tn (nI r)) 201 0 hd else -2) → J X 4 0 0 (nBk zn (zs 50) G.2.1 Sn fi fs pa (some (zd 50)) ++ (sBk zs (zm 50) (zb 50) G.2.1 Ss ++ (mBk zm (zt 50) (zr 50) (zh 50) G.2.1 Sm ++ (hBk zh G.2.1 Sh ++ (tBk zt G.2.1 St ++ (rBk zr G.2.1 Sr ++ (bBk zb G.2.1 Sb ++ (dBk zd (zx 50) (zw 50) G.2.1 Sd qd ++ (mBk zx t0 r0 (zy 50) G.2.1 Sx ++ (hBk zy G.2.1 Sy ++ (mBk zw (zt 50) (zr 50) (zv 50) G.2.1 (sS (sS Sw 3 (-1)) 4 (-1)) ++ (hBk zv G.2.1 Sv ++ (R))))))))))))) 37 [(0, .ref (zn 50)), (1, .int (nI r)), (2, .ref (zw 50)), (3, .int (nI i))] [] := by
      intro m
      induction m using Nat.strongRecOn with
      | ind m ilp37 =>
      intro i t0 r0 Sx Sy Sv h hr1 td1 hm hi hr1b htd1 hy1 hS hE
      refine j_iload_n 38 C dX10_lasts_37 rfl rfl ?_
      refine j_sipush 41 C dX10_lasts_38 rfl (v := nI 200) (by decide) ?_
      refine j_icmp_gtN 65 44 C dX10_lasts_41 (by decide) rfl (by omega) (by omega) (fun c41 => ?_) (fun c41 => ?_)
      · refine j_iconst 66 C dX10_lasts_65 rfl (v := (-1)) (by decide) ?_
        exact j_iret C dX10_lasts_66 ⟨by rw [← hE, show m = 0 by omega]; rfl, _, _, _, _, _, _, _, _, hy1, (HR_X hS), rfl⟩
      · obtain ⟨m5, rfl⟩ : ∃ m5, m = m5 + 1 := ⟨m - 1, by omega⟩
        rw [f_las] at hE
        refine j_aload_n 45 C dX10_lasts_44 rfl rfl ?_
        refine j_iload_n 46 C dX10_lasts_45 rfl rfl ?_
        refine PWx_VI 49 C dX10_lasts_46 rfl cw10_159 rfl (K3_slipBits hT hR hW hS rfl hrw) rfl (by decide) ⟨Nat.le_refl _, Nat.le_refl _⟩ rfl (Nat.le_of_ble_eq_true rfl) ?_
        refine j_if_eq 54 52 C dX10_lasts_49 (by decide) rfl (fun c49 => ?_) (fun c49 => ?_)
        · refine j_aload_n 55 C dX10_lasts_54 rfl rfl ?_
          refine j_iconst 56 C dX10_lasts_55 rfl (v := nI 1) (by decide) ?_
          refine PWr_VV 59 C dX10_lasts_56 rfl cw10_124 rfl (K3_passHours (cl := -1) hT hW hS rfl rfl (by omega) (by omega)) rfl (by decide) ⟨Nat.le_refl _, Nat.le_refl _⟩ rfl (Nat.le_of_ble_eq_true rfl) (fun s56 hs56 => ?_)
          obtain ⟨t56, ht56, -, hw56⟩ := hs56
          rw [hours_cv _ (nI 0)] at hw56
          refine j_iincN 62 (z := 1) C dX10_lasts_59 rfl rfl rfl (by decide) ?_
          refine j_goto 37 C dX10_lasts_62 (by decide) ?_
          exact j_weak _ (by exact ⟨rfl, rfl, rfl, rfl, trivial⟩) (ilp37 m5 (by omega) (i + 1) t0 r0 Sx Sy s56 _ _ _ (show 201 - (i + 1) = m5 by omega) (by omega) (by omega) (by omega) hy1 hw56 (by rw [if_pos c49] at hE; exact hE))
        · refine j_iload_n 53 C dX10_lasts_52 rfl rfl ?_
          exact j_iret C dX10_lasts_53 ⟨by rw [← hE, if_neg c49], _, _, _, _, _, _, _, _, hy1, (HR_X hS), rfl⟩
    refine j_aload_n 25 C dX10_lasts_24 rfl rfl ?_
    refine Pg_n4 28 C dX10_lasts_25 rfl fl10_20 ?_
    refine Pg_s0 31 C dX10_lasts_28 rfl fl10_61 ?_
    refine Pr_WR 34 C dX10_lasts_31 rfl cw10_182 rfl (K1_walkerFrom hH0 hv) rfl (by decide) ⟨Nat.le_refl _, Nat.le_refl _⟩ rfl (Nat.le_of_ble_eq_true rfl) (fun s31 hs31 => ?_)
    refine j_astore_n 35 C dX10_lasts_34 rfl rfl (by decide) ?_
    refine j_iconst 36 C dX10_lasts_35 rfl (v := nI 0) (by decide) ?_
    refine j_istore_n 37 C dX10_lasts_36 rfl rfl (by decide) ?_
    exact j_weak _ (by exact ⟨rfl, rfl, rfl, rfl, trivial⟩) (lp37 _ 0 _ _ _ _ _ hd hr td rfl (by omega) (by omega) (by omega) hy hs31 (by rw [if_pos c14, tn_nI (by omega)]))
  · refine j_bipush 19 C dX10_lasts_17 rfl (v := (-2)) (by decide) ?_
    exact j_iret C dX10_lasts_19 ⟨by rw [if_neg c14], _, _, _, _, _, _, _, _, hy, hv, rfl⟩
theorem K10_lastsB (hT : TT (-1) St wd) (hR : RR Sr wd) (hW : WF wd) (hH0 : HR wd Sh hd hr td) (h3 : Sm.1 3 = -1) (h4 : Sm.1 4 = -1) (hhr : hr + 300 ≤ 1000000000) (htd : td + 100 ≤ 1000000000)  : Con l G yX10_lasts cX10_lasts 4 (some .int) 9 10 5119 [.ref (zn 50), .int x] (nBk zn (zs 50) G.2.1 Sn fi fs pa none ++ (sBk zs (zm 50) (zb 50) G.2.1 Ss ++ (mBk zm (zt 50) (zr 50) (zh 50) G.2.1 Sm ++ (hBk zh G.2.1 Sh ++ (tBk zt G.2.1 St ++ (rBk zr G.2.1 Sr ++ (bBk zb G.2.1 Sb ++ (R)))))))) (fun v w => v = some (.int (if isI x (nrw wd) then f_las wd (-1) (nI 0) (tn x) 201 0 hd else -2)) ∧ (w = (nBk zn (zs 50) G.2.1 Sn fi fs pa none ++ (sBk zs (zm 50) (zb 50) G.2.1 Ss ++ (mBk zm (zt 50) (zr 50) (zh 50) G.2.1 Sm ++ (hBk zh G.2.1 Sh ++ (tBk zt G.2.1 St ++ (rBk zr G.2.1 Sr ++ (bBk zb G.2.1 Sb ++ (R)))))))) ∨ ∃ (zd zx zy zw zv : Nat → Nat) (t0 r0 t1 r1 : Nat) (Sx Sy Sw Sv : MS), HX Sy ∧ HX Sv ∧ w = (nBk zn (zs 50) G.2.1 Sn fi fs pa (some (zd 50)) ++ (sBk zs (zm 50) (zb 50) G.2.1 Ss ++ (mBk zm (zt 50) (zr 50) (zh 50) G.2.1 Sm ++ (hBk zh G.2.1 Sh ++ (tBk zt G.2.1 St ++ (rBk zr G.2.1 Sr ++ (bBk zb G.2.1 Sb ++ (dBk zd (zx 50) (zw 50) G.2.1 MS0 (fun _ => none) ++ (mBk zx t0 r0 (zy 50) G.2.1 Sx ++ (hBk zy G.2.1 Sy ++ (mBk zw t1 r1 (zv 50) G.2.1 Sw ++ (hBk zv G.2.1 Sv ++ (R))))))))))))))) := by
  refine Con.mk (own := RX10) (by decide) rfl (Nat.le_of_ble_eq_true rfl) (fun X C => ?_)
  refine j_aload_n 1 C dX10_lasts_0 rfl rfl ?_
  refine Lng_n4 4 C dX10_lasts_1 rfl fl10_20 ?_
  refine Lng_s0 7 C dX10_lasts_4 rfl fl10_61 ?_
  refine Lng_m1 10 C dX10_lasts_7 rfl fl10_78 ?_
  refine j_iload_n 11 C dX10_lasts_10 rfl rfl ?_
  refine Lnx_rI 14 C dX10_lasts_11 rfl cw10_107 rfl (K5_has (hR.1.trans hW.2.2.1.1) hW.2.2.1.2) rfl (by decide) ⟨Nat.zero_le _, Nat.zero_le _⟩ rfl (Nat.le_of_ble_eq_true rfl) ?_
  refine j_if_neB 20 17 C dX10_lasts_14 (by decide) rfl (fun c14 => ?_) (fun c14 => ?_)
  · obtain ⟨r, hrw, rfl⟩ := isI_of c14
    have hr12 := (WF_len hW hrw).2.2.1
    refine j_aload_n 21 C dX10_lasts_20 rfl rfl ?_
    refine Ldesk0 24 C dX10_lasts_21 rfl (by decide) (Nat.le_of_ble_eq_true rfl) (fun zd zx zy zw zv => ?_)
    have hy := HX0
    have hv := HX0
    have lp37 : ∀ (m : Nat) (i : Nat) (t0 r0 : Nat) (Sx Sy : MS) (Sv : MS) (h : Nat → Int32) (hr1 td1 : Nat), 201 - i = m → i ≤ 201 → hr1 ≤ hr + i → td1 ≤ td → HX Sy → HR wd Sv h hr1 td1 → f_las wd (-1) (nI 0) r m i h = (if isI (nI r) (nrw wd) then f_las wd (-1) (nI 0) (tn (nI r)) 201 0 hd else -2) → J X 4 10 5119 (nBk zn (zs 50) G.2.1 Sn fi fs pa (some (zd 50)) ++ (sBk zs (zm 50) (zb 50) G.2.1 Ss ++ (mBk zm (zt 50) (zr 50) (zh 50) G.2.1 Sm ++ (hBk zh G.2.1 Sh ++ (tBk zt G.2.1 St ++ (rBk zr G.2.1 Sr ++ (bBk zb G.2.1 Sb ++ (dBk zd (zx 50) (zw 50) G.2.1 MS0 (fun _ => none) ++ (mBk zx t0 r0 (zy 50) G.2.1 Sx ++ (hBk zy G.2.1 Sy ++ (mBk zw (zt 50) (zr 50) (zv 50) G.2.1 (sS (sS SM0 3 (-1)) 4 (-1)) ++ (hBk zv G.2.1 Sv ++ (R))))))))))))) 37 [(0, .ref (zn 50)), (1, .int (nI r)), (2, .ref (zw 50)), (3, .int (nI i))] [] := by
      intro m
      induction m using Nat.strongRecOn with
      | ind m ilp37 =>
      intro i t0 r0 Sx Sy Sv h hr1 td1 hm hi hr1b htd1 hy1 hS hE
      refine j_iload_n 38 C dX10_lasts_37 rfl rfl ?_
      refine j_sipush 41 C dX10_lasts_38 rfl (v := nI 200) (by decide) ?_
      refine j_icmp_gtN 65 44 C dX10_lasts_41 (by decide) rfl (by omega) (by omega) (fun c41 => ?_) (fun c41 => ?_)
      · refine j_iconst 66 C dX10_lasts_65 rfl (v := (-1)) (by decide) ?_
        exact j_iret C dX10_lasts_66 ⟨by rw [← hE, show m = 0 by omega]; rfl, Or.inr ⟨zd, zx, zy, zw, zv, _, _, _, _, _, _, _, _, hy1, (HR_X hS), rfl⟩⟩
      · obtain ⟨m5, rfl⟩ : ∃ m5, m = m5 + 1 := ⟨m - 1, by omega⟩
        rw [f_las] at hE
        refine j_aload_n 45 C dX10_lasts_44 rfl rfl ?_
        refine j_iload_n 46 C dX10_lasts_45 rfl rfl ?_
        refine PWx_VI 49 C dX10_lasts_46 rfl cw10_159 rfl (K3_slipBits hT hR hW hS rfl hrw) rfl (by decide) ⟨Nat.le_refl _, Nat.le_refl _⟩ rfl (Nat.le_of_ble_eq_true rfl) ?_
        refine j_if_eq 54 52 C dX10_lasts_49 (by decide) rfl (fun c49 => ?_) (fun c49 => ?_)
        · refine j_aload_n 55 C dX10_lasts_54 rfl rfl ?_
          refine j_iconst 56 C dX10_lasts_55 rfl (v := nI 1) (by decide) ?_
          refine PWr_VV 59 C dX10_lasts_56 rfl cw10_124 rfl (K3_passHours (cl := -1) hT hW hS rfl rfl (by omega) (by omega)) rfl (by decide) ⟨Nat.le_refl _, Nat.le_refl _⟩ rfl (Nat.le_of_ble_eq_true rfl) (fun s56 hs56 => ?_)
          obtain ⟨t56, ht56, -, hw56⟩ := hs56
          rw [hours_cv _ (nI 0)] at hw56
          refine j_iincN 62 (z := 1) C dX10_lasts_59 rfl rfl rfl (by decide) ?_
          refine j_goto 37 C dX10_lasts_62 (by decide) ?_
          exact j_weak _ (by exact ⟨rfl, rfl, rfl, rfl, trivial⟩) (ilp37 m5 (by omega) (i + 1) t0 r0 Sx Sy s56 _ _ _ (show 201 - (i + 1) = m5 by omega) (by omega) (by omega) (by omega) hy1 hw56 (by rw [if_pos c49] at hE; exact hE))
        · refine j_iload_n 53 C dX10_lasts_52 rfl rfl ?_
          exact j_iret C dX10_lasts_53 ⟨by rw [← hE, if_neg c49], Or.inr ⟨zd, zx, zy, zw, zv, _, _, _, _, _, _, _, _, hy1, (HR_X hS), rfl⟩⟩
    refine j_aload_n 25 C dX10_lasts_24 rfl rfl ?_
    refine Pg_n4 28 C dX10_lasts_25 rfl fl10_20 ?_
    refine Pg_s0 31 C dX10_lasts_28 rfl fl10_61 ?_
    refine Pr_WR 34 C dX10_lasts_31 rfl cw10_182 rfl (K1_walkerFrom hH0 hv) rfl (by decide) ⟨Nat.le_refl _, Nat.le_refl _⟩ rfl (Nat.le_of_ble_eq_true rfl) (fun s31 hs31 => ?_)
    refine j_astore_n 35 C dX10_lasts_34 rfl rfl (by decide) ?_
    refine j_iconst 36 C dX10_lasts_35 rfl (v := nI 0) (by decide) ?_
    refine j_istore_n 37 C dX10_lasts_36 rfl rfl (by decide) ?_
    exact j_weak _ (by exact ⟨rfl, rfl, rfl, rfl, trivial⟩) (lp37 _ 0 _ _ _ _ _ hd hr td rfl (by omega) (by omega) (by omega) hy hs31 (by rw [if_pos c14, tn_nI (by omega)]))
  · refine j_bipush 19 C dX10_lasts_17 rfl (v := (-2)) (by decide) ?_
    refine j_widen 10 5119 (by decide) (by decide) ?_
    exact j_iret C dX10_lasts_19 ⟨by rw [if_neg c14], Or.inl rfl⟩
end SN4
