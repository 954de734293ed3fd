theorem rch {x y : Int32} {len : Nat} (hl : len ≤ 60) (h : ¬ x < 0 ∧ ¬ y < 0 ∧ x.toInt64 + y.toInt64 ≤ (nI len).toInt64) : ∃ i m, i + m ≤ len ∧ x = nI i ∧ y = nI m := by
  obtain ⟨i, hi, rfl⟩ := nI_of h.1
  obtain ⟨m, hm, rfl⟩ := nI_of h.2.1
  refine ⟨i, m, ?_, rfl, rfl⟩
  have h3 := h.2.2
  rw [Int64.le_iff_toInt_le, Int64.toInt_add, t64, t64, t64, nI_toInt hi, nI_toInt hm, nI_toInt (by omega), Int.bmod_eq_of_le (by omega) (by omega)] at h3
  omega
section SN13
variable {l : Launch} {G : GG} {wd : Nat → Int32} {x y z u w0 : Int32} {v : Int64} {len q lk : Nat} {zn zs zm zh zt zr zb zl zk : Nat → Nat} {Sn Ss Sm Sh St Sr Sb Sl Sk : MS} {fi fs : Nat → Option Nat} {pa dk : Option Nat} {R : va_W}
theorem K10_pasteD (hx : isI x 4) (hz : isI z 4) (hf1 : fs (tn x) = some (zl 50)) (hf2 : fs (tn z) = some (zk 50)) (hl : Sl.1 1 = nI len) (hl6 : len ≤ 60) (hk : Sk.1 1 = nI lk) (hk6 : lk ≤ 60) : Con l G yX10_paste cX10_paste 8 (some .int) 2 0 0 [.ref (zn 50), .int x, .int y, .int z, .int u, .int w0] (nBk zn (zs 50) G.2.1 Sn fi fs pa dk ++ (sBk zs (zm 50) (zb 50) G.2.1 Ss ++ (mBk zm (zt 50) (zr 50) (zh 50) G.2.1 Sm ++ (hBk zh G.2.1 Sh ++ (tBk zt G.2.1 St ++ (rBk zr G.2.1 Sr ++ (bBk zb G.2.1 Sb ++ (lBk zl G.2.1 Sl ++ (lBk zk G.2.1 Sk ++ (R)))))))))) (pI (if Sl.1 0 = Sk.1 0 then (if (¬ y < 0 ∧ ¬ w0 < 0 ∧ y.toInt64 + w0.toInt64 ≤ (Sl.1 1).toInt64) ∧ (¬ u < 0 ∧ ¬ w0 < 0 ∧ u.toInt64 + w0.toInt64 ≤ (Sk.1 1).toInt64) then nI 0 else -7) else -8) (nBk zn (zs 50) G.2.1 Sn fi fs pa dk ++ (sBk zs (zm 50) (zb 50) G.2.1 Ss ++ (mBk zm (zt 50) (zr 50) (zh 50) G.2.1 Sm ++ (hBk zh G.2.1 Sh ++ (tBk zt G.2.1 St ++ (rBk zr G.2.1 Sr ++ (bBk zb G.2.1 Sb ++ (lBk zl G.2.1 Sl ++ (lBk zk G.2.1 (if Sl.1 0 = Sk.1 0 ∧ ((¬ y < 0 ∧ ¬ w0 < 0 ∧ y.toInt64 + w0.toInt64 ≤ (Sl.1 1).toInt64) ∧ (¬ u < 0 ∧ ¬ w0 < 0 ∧ u.toInt64 + w0.toInt64 ≤ (Sk.1 1).toInt64)) then lR Sk 2 (va_cpy (Sl.2.2 2) (Sk.2.2 2) (tn y) (tn u) (tn w0)) else Sk) ++ (R))))))))))) := by
  refine Con.mk (own := RX10) (by decide) rfl (Nat.le_of_ble_eq_true rfl) (fun X C => ?_)
  refine j_iload_n 1 C dX10_paste_0 rfl rfl ?_
  refine j_sI 4 C dX10_paste_1 rfl cw10_224 K10_isSlot rfl (by decide) ⟨Nat.le_refl _, Nat.le_refl _⟩ rfl (Nat.le_of_ble_eq_true rfl) ?_
  refine j_if_eqB 14 7 C dX10_paste_4 (by decide) rfl (fun c4 => ?_) (fun c4 => ?_)
  · refine j_bipush 16 C dX10_paste_14 rfl (v := (-2)) (by decide) ?_
    exact j_iret C dX10_paste_16 (absurd hx c4)
  · obtain ⟨s, hs, rfl⟩ := isI_of c4
    rw [tn_nI (by omega)] at hf1
    refine j_iload_n 8 C dX10_paste_7 rfl rfl ?_
    refine j_sI 11 C dX10_paste_8 rfl cw10_224 K10_isSlot rfl (by decide) ⟨Nat.le_refl _, Nat.le_refl _⟩ rfl (Nat.le_of_ble_eq_true rfl) ?_
    refine j_if_neB 17 14 C dX10_paste_11 (by decide) rfl (fun c11 => ?_) (fun c11 => ?_)
    · obtain ⟨s2, hs2, rfl⟩ := isI_of c11
      rw [tn_nI (by omega)] at hf2
      refine j_aload_n 18 C dX10_paste_17 rfl rfl ?_
      refine Vg_n6 21 C dX10_paste_18 rfl fl10_30 ?_
      refine j_iload_n 22 C dX10_paste_21 rfl rfl ?_
      refine Va_n6 23 C dX10_paste_22 rfl _ (by omega) rfl ?_
      refine j_topV (v' := .ref (zl 50)) (by rw [hf1]; rfl) ?_
      refine j_astore 25 C dX10_paste_23 rfl rfl (by decide) ?_
      refine j_aload_n 26 C dX10_paste_25 rfl rfl ?_
      refine Vg_n6 29 C dX10_paste_26 rfl fl10_30 ?_
      refine j_iload_n 30 C dX10_paste_29 rfl rfl ?_
      refine Va_n6 31 C dX10_paste_30 rfl _ (by omega) rfl ?_
      refine j_topV (v' := .ref (zk 50)) (by rw [hf2]; rfl) ?_
      refine j_astore 33 C dX10_paste_31 rfl rfl (by decide) ?_
      refine j_aload 35 C dX10_paste_33 rfl rfl ?_
      refine j_ifnullR 38 C dX10_paste_35 rfl ?_
      refine j_aload 40 C dX10_paste_38 rfl rfl ?_
      refine j_ifnonnullR 46 C dX10_paste_40 (by decide) ?_
      refine j_aload 48 C dX10_paste_46 rfl rfl ?_
      refine Vg_l0 51 C dX10_paste_48 rfl fl10_329 ?_
      refine j_aload 53 C dX10_paste_51 rfl rfl ?_
      refine Vg_k0 56 C dX10_paste_53 rfl fl10_329 ?_
      refine j_icmp_eq 62 59 C dX10_paste_56 (by decide) rfl (fun c56 => ?_) (fun c56 => ?_)
      · refine j_aload 64 C dX10_paste_62 rfl rfl ?_
        refine j_iload_n 65 C dX10_paste_64 rfl rfl ?_
        refine j_iload 67 C dX10_paste_65 rfl rfl ?_
        refine Vx_lI 70 C dX10_paste_67 rfl cw10_332 rfl K6_reaches rfl (by decide) ⟨Nat.le_refl _, Nat.le_refl _⟩ rfl (Nat.le_of_ble_eq_true rfl) ?_
        refine j_if_eqB 85 73 C dX10_paste_70 (by decide) rfl (fun c70 => ?_) (fun c70 => ?_)
        · refine j_bipush 87 C dX10_paste_85 rfl (v := (-7)) (by decide) ?_
          exact j_iret C dX10_paste_87 ⟨by rw [if_pos c56, if_neg (fun e => c70 e.1)], by rw [if_neg (fun e => c70 e.2.1)]⟩
        · refine j_aload 75 C dX10_paste_73 rfl rfl ?_
          refine j_iload 77 C dX10_paste_75 rfl rfl ?_
          refine j_iload 79 C dX10_paste_77 rfl rfl ?_
          refine Vx_kI 82 C dX10_paste_79 rfl cw10_332 rfl K6_reaches rfl (by decide) ⟨Nat.le_refl _, Nat.le_refl _⟩ rfl (Nat.le_of_ble_eq_true rfl) ?_
          refine j_if_neB 88 85 C dX10_paste_82 (by decide) rfl (fun c82 => ?_) (fun c82 => ?_)
          · have hok := (⟨c70, c82⟩ : _ ∧ _)
            have c70b := c70
            have c82b := c82
            rw [hl] at c70b
            rw [hk] at c82b
            obtain ⟨i, m, him, rfl, rfl⟩ := rch hl6 c70b
            obtain ⟨i2, m2, him2, rfl, e2⟩ := rch hk6 c82b
            have em : m = m2 := (nI_eq (by omega) (by omega)).mp e2
            subst em
            refine j_aload 90 C dX10_paste_88 rfl rfl ?_
            refine Vg_l2 93 C dX10_paste_90 rfl fl10_230 ?_
            refine j_iload_n 94 C dX10_paste_93 rfl rfl ?_
            refine j_aload 96 C dX10_paste_94 rfl rfl ?_
            refine Vg_k2 99 C dX10_paste_96 rfl fl10_230 ?_
            refine j_iload 101 C dX10_paste_99 rfl rfl ?_
            refine j_iload 103 C dX10_paste_101 rfl rfl ?_
            refine Vy_l2_k2 106 C dX10_paste_103 rfl ac10_335 i i2 m rfl rfl rfl (by omega) (by omega) (by decide) (Nat.le_of_ble_eq_true rfl) ?_
            refine j_iconst 107 C dX10_paste_106 rfl (v := nI 0) (by decide) ?_
            exact j_iret C dX10_paste_107 ⟨by rw [if_pos c56, if_pos hok], by rw [if_pos ⟨c56, hok⟩, tn_nI (by omega), tn_nI (by omega), tn_nI (by omega)]⟩
          · refine j_bipush 87 C dX10_paste_85 rfl (v := (-7)) (by decide) ?_
            exact j_iret C dX10_paste_87 ⟨by rw [if_pos c56, if_neg (fun e => c82 e.2)], by rw [if_neg (fun e => c82 e.2.2)]⟩
      · refine j_bipush 61 C dX10_paste_59 rfl (v := (-8)) (by decide) ?_
        exact j_iret C dX10_paste_61 ⟨by rw [if_neg c56], by rw [if_neg (fun e => c56 e.1)]⟩
    · refine j_bipush 16 C dX10_paste_14 rfl (v := (-2)) (by decide) ?_
      exact j_iret C dX10_paste_16 (absurd hz c11)
theorem K10_pasteS (hx : isI x 4) (hz : isI z 4) (hf1 : fs (tn x) = some (zl 50)) (hf2 : fs (tn z) = some (zl 50)) (hl : Sl.1 1 = nI len) (hl6 : len ≤ 60) (hk : Sl.1 1 = nI lk) (hk6 : lk ≤ 60) : Con l G yX10_paste cX10_paste 8 (some .int) 2 0 0 [.ref (zn 50), .int x, .int y, .int z, .int u, .int w0] (nBk zn (zs 50) G.2.1 Sn fi fs pa dk ++ (sBk zs (zm 50) (zb 50) G.2.1 Ss ++ (mBk zm (zt 50) (zr 50) (zh 50) G.2.1 Sm ++ (hBk zh G.2.1 Sh ++ (tBk zt G.2.1 St ++ (rBk zr G.2.1 Sr ++ (bBk zb G.2.1 Sb ++ (lBk zl G.2.1 Sl ++ (R))))))))) (pI (if Sl.1 0 = Sl.1 0 then (if (¬ y < 0 ∧ ¬ w0 < 0 ∧ y.toInt64 + w0.toInt64 ≤ (Sl.1 1).toInt64) ∧ (¬ u < 0 ∧ ¬ w0 < 0 ∧ u.toInt64 + w0.toInt64 ≤ (Sl.1 1).toInt64) then nI 0 else -7) else -8) (nBk zn (zs 50) G.2.1 Sn fi fs pa dk ++ (sBk zs (zm 50) (zb 50) G.2.1 Ss ++ (mBk zm (zt 50) (zr 50) (zh 50) G.2.1 Sm ++ (hBk zh G.2.1 Sh ++ (tBk zt G.2.1 St ++ (rBk zr G.2.1 Sr ++ (bBk zb G.2.1 Sb ++ (lBk zl G.2.1 (if Sl.1 0 = Sl.1 0 ∧ ((¬ y < 0 ∧ ¬ w0 < 0 ∧ y.toInt64 + w0.toInt64 ≤ (Sl.1 1).toInt64) ∧ (¬ u < 0 ∧ ¬ w0 < 0 ∧ u.toInt64 + w0.toInt64 ≤ (Sl.1 1).toInt64)) then lR Sl 2 (va_cpy (Sl.2.2 2) (Sl.2.2 2) (tn y) (tn u) (tn w0)) else Sl) ++ (R)))))))))) := by
  refine Con.mk (own := RX10) (by decide) rfl (Nat.le_of_ble_eq_true rfl) (fun X C => ?_)
  refine j_iload_n 1 C dX10_paste_0 rfl rfl ?_
  refine j_sI 4 C dX10_paste_1 rfl cw10_224 K10_isSlot rfl (by decide) ⟨Nat.le_refl _, Nat.le_refl _⟩ rfl (Nat.le_of_ble_eq_true rfl) ?_
  refine j_if_eqB 14 7 C dX10_paste_4 (by decide) rfl (fun c4 => ?_) (fun c4 => ?_)
  · refine j_bipush 16 C dX10_paste_14 rfl (v := (-2)) (by decide) ?_
    exact j_iret C dX10_paste_16 (absurd hx c4)
  · obtain ⟨s, hs, rfl⟩ := isI_of c4
    rw [tn_nI (by omega)] at hf1
    refine j_iload_n 8 C dX10_paste_7 rfl rfl ?_
    refine j_sI 11 C dX10_paste_8 rfl cw10_224 K10_isSlot rfl (by decide) ⟨Nat.le_refl _, Nat.le_refl _⟩ rfl (Nat.le_of_ble_eq_true rfl) ?_
    refine j_if_neB 17 14 C dX10_paste_11 (by decide) rfl (fun c11 => ?_) (fun c11 => ?_)
    · obtain ⟨s2, hs2, rfl⟩ := isI_of c11
      rw [tn_nI (by omega)] at hf2
      refine j_aload_n 18 C dX10_paste_17 rfl rfl ?_
      refine Ug_n6 21 C dX10_paste_18 rfl fl10_30 ?_
      refine j_iload_n 22 C dX10_paste_21 rfl rfl ?_
      refine Ua_n6 23 C dX10_paste_22 rfl _ (by omega) rfl ?_
      refine j_topV (v' := .ref (zl 50)) (by rw [hf1]; rfl) ?_
      refine j_astore 25 C dX10_paste_23 rfl rfl (by decide) ?_
      refine j_aload_n 26 C dX10_paste_25 rfl rfl ?_
      refine Ug_n6 29 C dX10_paste_26 rfl fl10_30 ?_
      refine j_iload_n 30 C dX10_paste_29 rfl rfl ?_
      refine Ua_n6 31 C dX10_paste_30 rfl _ (by omega) rfl ?_
      refine j_topV (v' := .ref (zl 50)) (by rw [hf2]; rfl) ?_
      refine j_astore 33 C dX10_paste_31 rfl rfl (by decide) ?_
      refine j_aload 35 C dX10_paste_33 rfl rfl ?_
      refine j_ifnullR 38 C dX10_paste_35 rfl ?_
      refine j_aload 40 C dX10_paste_38 rfl rfl ?_
      refine j_ifnonnullR 46 C dX10_paste_40 (by decide) ?_
      refine j_aload 48 C dX10_paste_46 rfl rfl ?_
      refine Ug_l0 51 C dX10_paste_48 rfl fl10_329 ?_
      refine j_aload 53 C dX10_paste_51 rfl rfl ?_
      refine Ug_l0 56 C dX10_paste_53 rfl fl10_329 ?_
      refine j_icmp_eq 62 59 C dX10_paste_56 (by decide) rfl (fun c56 => ?_) (fun c56 => ?_)
      · refine j_aload 64 C dX10_paste_62 rfl rfl ?_
        refine j_iload_n 65 C dX10_paste_64 rfl rfl ?_
        refine j_iload 67 C dX10_paste_65 rfl rfl ?_
        refine Ux_lI 70 C dX10_paste_67 rfl cw10_332 rfl K6_reaches rfl (by decide) ⟨Nat.le_refl _, Nat.le_refl _⟩ rfl (Nat.le_of_ble_eq_true rfl) ?_
        refine j_if_eqB 85 73 C dX10_paste_70 (by decide) rfl (fun c70 => ?_) (fun c70 => ?_)
        · refine j_bipush 87 C dX10_paste_85 rfl (v := (-7)) (by decide) ?_
          exact j_iret C dX10_paste_87 ⟨by rw [if_pos c56, if_neg (fun e => c70 e.1)], by rw [if_neg (fun e => c70 e.2.1)]⟩
        · refine j_aload 75 C dX10_paste_73 rfl rfl ?_
          refine j_iload 77 C dX10_paste_75 rfl rfl ?_
          refine j_iload 79 C dX10_paste_77 rfl rfl ?_
          refine Ux_lI 82 C dX10_paste_79 rfl cw10_332 rfl K6_reaches rfl (by decide) ⟨Nat.le_refl _, Nat.le_refl _⟩ rfl (Nat.le_of_ble_eq_true rfl) ?_
          refine j_if_neB 88 85 C dX10_paste_82 (by decide) rfl (fun c82 => ?_) (fun c82 => ?_)
          · have hok := (⟨c70, c82⟩ : _ ∧ _)
            have c70b := c70
            have c82b := c82
            rw [hl] at c70b
            rw [hk] at c82b
            obtain ⟨i, m, him, rfl, rfl⟩ := rch hl6 c70b
            obtain ⟨i2, m2, him2, rfl, e2⟩ := rch hk6 c82b
            have em : m = m2 := (nI_eq (by omega) (by omega)).mp e2
            subst em
            refine j_aload 90 C dX10_paste_88 rfl rfl ?_
            refine Ug_l2 93 C dX10_paste_90 rfl fl10_230 ?_
            refine j_iload_n 94 C dX10_paste_93 rfl rfl ?_
            refine j_aload 96 C dX10_paste_94 rfl rfl ?_
            refine Ug_l2 99 C dX10_paste_96 rfl fl10_230 ?_
            refine j_iload 101 C dX10_paste_99 rfl rfl ?_
            refine j_iload 103 C dX10_paste_101 rfl rfl ?_
            refine Uy_l2_l2 106 C dX10_paste_103 rfl ac10_335 i i2 m rfl rfl rfl (by omega) (by omega) (by decide) (Nat.le_of_ble_eq_true rfl) ?_
            refine j_iconst 107 C dX10_paste_106 rfl (v := nI 0) (by decide) ?_
            exact j_iret C dX10_paste_107 ⟨by rw [if_pos c56, if_pos hok], by rw [if_pos ⟨c56, hok⟩, tn_nI (by omega), tn_nI (by omega), tn_nI (by omega)]⟩
          · refine j_bipush 87 C dX10_paste_85 rfl (v := (-7)) (by decide) ?_
            exact j_iret C dX10_paste_87 ⟨by rw [if_pos c56, if_neg (fun e => c82 e.2)], by rw [if_neg (fun e => c82 e.2.2)]⟩
      · refine j_bipush 61 C dX10_paste_59 rfl (v := (-8)) (by decide) ?_
        exact j_iret C dX10_paste_61 ⟨by rw [if_neg c56], by rw [if_neg (fun e => c56 e.1)]⟩
    · refine j_bipush 16 C dX10_paste_14 rfl (v := (-2)) (by decide) ?_
      exact j_iret C dX10_paste_16 (absurd hz c11)
theorem K10_pasteN (hn : isI x 4 ∧ isI z 4 → fs (tn x) = none ∨ fs (tn z) = none) : Con l G yX10_paste cX10_paste 8 (some .int) 2 0 0 [.ref (zn 50), .int x, .int y, .int z, .int u, .int w0] (nBk zn (zs 50) G.2.1 Sn fi fs pa dk ++ (sBk zs (zm 50) (zb 50) G.2.1 Ss ++ (mBk zm (zt 50) (zr 50) (zh 50) G.2.1 Sm ++ (hBk zh G.2.1 Sh ++ (tBk zt G.2.1 St ++ (rBk zr G.2.1 Sr ++ (bBk zb G.2.1 Sb ++ (R)))))))) (pI (if isI x 4 ∧ isI z 4 then -6 else -2) (nBk zn (zs 50) G.2.1 Sn fi fs pa dk ++ (sBk zs (zm 50) (zb 50) G.2.1 Ss ++ (mBk zm (zt 50) (zr 50) (zh 50) G.2.1 Sm ++ (hBk zh G.2.1 Sh ++ (tBk zt G.2.1 St ++ (rBk zr G.2.1 Sr ++ (bBk zb G.2.1 Sb ++ (R))))))))) := by
  refine Con.mk (own := RX10) (by decide) rfl (Nat.le_of_ble_eq_true rfl) (fun X C => ?_)
  by_cases hok : isI x 4 ∧ isI z 4
  · obtain ⟨h4x, h4z⟩ := hok
    obtain ⟨s, hs, rfl⟩ := isI_of h4x
    obtain ⟨s2, hs2, rfl⟩ := isI_of h4z
    rw [tn_nI (by omega), tn_nI (by omega)] at hn
    rcases hn ⟨h4x, h4z⟩ with hf1 | hf2
    · cases hf2 : fs s2 with
      | none =>
        refine j_iload_n 1 C dX10_paste_0 rfl rfl ?_
        refine j_sI 4 C dX10_paste_1 rfl cw10_224 K10_isSlot rfl (by decide) ⟨Nat.le_refl _, Nat.le_refl _⟩ rfl (Nat.le_of_ble_eq_true rfl) ?_
        refine j_if_eqB 14 7 C dX10_paste_4 (by decide) rfl (fun c4 => absurd h4x c4) (fun c4 => ?_)
        refine j_iload_n 8 C dX10_paste_7 rfl rfl ?_
        refine j_sI 11 C dX10_paste_8 rfl cw10_224 K10_isSlot rfl (by decide) ⟨Nat.le_refl _, Nat.le_refl _⟩ rfl (Nat.le_of_ble_eq_true rfl) ?_
        refine j_if_neB 17 14 C dX10_paste_11 (by decide) rfl (fun c11 => ?_) (fun c11 => absurd h4z c11)
        refine j_aload_n 18 C dX10_paste_17 rfl rfl ?_
        refine Lng_n6 21 C dX10_paste_18 rfl fl10_30 ?_
        refine j_iload_n 22 C dX10_paste_21 rfl rfl ?_
        refine Lna_n6 23 C dX10_paste_22 rfl _ (by omega) rfl ?_
        refine j_topV (v' := .null) (by rw [hf1]; rfl) ?_
        refine j_astoreN 25 C dX10_paste_23 rfl rfl (by decide) ?_
        refine j_aload_n 26 C dX10_paste_25 rfl rfl ?_
        refine Lng_n6 29 C dX10_paste_26 rfl fl10_30 ?_
        refine j_iload_n 30 C dX10_paste_29 rfl rfl ?_
        refine Lna_n6 31 C dX10_paste_30 rfl _ (by omega) rfl ?_
        refine j_topV (v' := .null) (by rw [hf2]; rfl) ?_
        refine j_astoreN 33 C dX10_paste_31 rfl rfl (by decide) ?_
        refine j_aloadN 35 C dX10_paste_33 rfl rfl ?_
        refine j_ifnullN 43 C dX10_paste_35 (by decide) ?_
        refine j_bipush 45 C dX10_paste_43 rfl (v := (-6)) (by decide) ?_
        exact j_iret C dX10_paste_45 ⟨by rw [if_pos ⟨h4x, h4z⟩], rfl⟩
      | some a2 =>
        refine j_iload_n 1 C dX10_paste_0 rfl rfl ?_
        refine j_sI 4 C dX10_paste_1 rfl cw10_224 K10_isSlot rfl (by decide) ⟨Nat.le_refl _, Nat.le_refl _⟩ rfl (Nat.le_of_ble_eq_true rfl) ?_
        refine j_if_eqB 14 7 C dX10_paste_4 (by decide) rfl (fun c4 => absurd h4x c4) (fun c4 => ?_)
        refine j_iload_n 8 C dX10_paste_7 rfl rfl ?_
        refine j_sI 11 C dX10_paste_8 rfl cw10_224 K10_isSlot rfl (by decide) ⟨Nat.le_refl _, Nat.le_refl _⟩ rfl (Nat.le_of_ble_eq_true rfl) ?_
        refine j_if_neB 17 14 C dX10_paste_11 (by decide) rfl (fun c11 => ?_) (fun c11 => absurd h4z c11)
        refine j_aload_n 18 C dX10_paste_17 rfl rfl ?_
        refine Lng_n6 21 C dX10_paste_18 rfl fl10_30 ?_
        refine j_iload_n 22 C dX10_paste_21 rfl rfl ?_
        refine Lna_n6 23 C dX10_paste_22 rfl _ (by omega) rfl ?_
        refine j_topV (v' := .null) (by rw [hf1]; rfl) ?_
        refine j_astoreN 25 C dX10_paste_23 rfl rfl (by decide) ?_
        refine j_aload_n 26 C dX10_paste_25 rfl rfl ?_
        refine Lng_n6 29 C dX10_paste_26 rfl fl10_30 ?_
        refine j_iload_n 30 C dX10_paste_29 rfl rfl ?_
        refine Lna_n6 31 C dX10_paste_30 rfl _ (by omega) rfl ?_
        refine j_topV (v' := .ref a2) (by rw [hf2]; rfl) ?_
        refine j_astore 33 C dX10_paste_31 rfl rfl (by decide) ?_
        refine j_aloadN 35 C dX10_paste_33 rfl rfl ?_
        refine j_ifnullN 43 C dX10_paste_35 (by decide) ?_
        refine j_bipush 45 C dX10_paste_43 rfl (v := (-6)) (by decide) ?_
        exact j_iret C dX10_paste_45 ⟨by rw [if_pos ⟨h4x, h4z⟩], rfl⟩
    · cases hf1 : fs s with
      | none =>
        refine j_iload_n 1 C dX10_paste_0 rfl rfl ?_
        refine j_sI 4 C dX10_paste_1 rfl cw10_224 K10_isSlot rfl (by decide) ⟨Nat.le_refl _, Nat.le_refl _⟩ rfl (Nat.le_of_ble_eq_true rfl) ?_
        refine j_if_eqB 14 7 C dX10_paste_4 (by decide) rfl (fun c4 => absurd h4x c4) (fun c4 => ?_)
        refine j_iload_n 8 C dX10_paste_7 rfl rfl ?_
        refine j_sI 11 C dX10_paste_8 rfl cw10_224 K10_isSlot rfl (by decide) ⟨Nat.le_refl _, Nat.le_refl _⟩ rfl (Nat.le_of_ble_eq_true rfl) ?_
        refine j_if_neB 17 14 C dX10_paste_11 (by decide) rfl (fun c11 => ?_) (fun c11 => absurd h4z c11)
        refine j_aload_n 18 C dX10_paste_17 rfl rfl ?_
        refine Lng_n6 21 C dX10_paste_18 rfl fl10_30 ?_
        refine j_iload_n 22 C dX10_paste_21 rfl rfl ?_
        refine Lna_n6 23 C dX10_paste_22 rfl _ (by omega) rfl ?_
        refine j_topV (v' := .null) (by rw [hf1]; rfl) ?_
        refine j_astoreN 25 C dX10_paste_23 rfl rfl (by decide) ?_
        refine j_aload_n 26 C dX10_paste_25 rfl rfl ?_
        refine Lng_n6 29 C dX10_paste_26 rfl fl10_30 ?_
        refine j_iload_n 30 C dX10_paste_29 rfl rfl ?_
        refine Lna_n6 31 C dX10_paste_30 rfl _ (by omega) rfl ?_
        refine j_topV (v' := .null) (by rw [hf2]; rfl) ?_
        refine j_astoreN 33 C dX10_paste_31 rfl rfl (by decide) ?_
        refine j_aloadN 35 C dX10_paste_33 rfl rfl ?_
        refine j_ifnullN 43 C dX10_paste_35 (by decide) ?_
        refine j_bipush 45 C dX10_paste_43 rfl (v := (-6)) (by decide) ?_
        exact j_iret C dX10_paste_45 ⟨by rw [if_pos ⟨h4x, h4z⟩], rfl⟩
      | some a1 =>
        refine j_iload_n 1 C dX10_paste_0 rfl rfl ?_
        refine j_sI 4 C dX10_paste_1 rfl cw10_224 K10_isSlot rfl (by decide) ⟨Nat.le_refl _, Nat.le_refl _⟩ rfl (Nat.le_of_ble_eq_true rfl) ?_
        refine j_if_eqB 14 7 C dX10_paste_4 (by decide) rfl (fun c4 => absurd h4x c4) (fun c4 => ?_)
        refine j_iload_n 8 C dX10_paste_7 rfl rfl ?_
        refine j_sI 11 C dX10_paste_8 rfl cw10_224 K10_isSlot rfl (by decide) ⟨Nat.le_refl _, Nat.le_refl _⟩ rfl (Nat.le_of_ble_eq_true rfl) ?_
        refine j_if_neB 17 14 C dX10_paste_11 (by decide) rfl (fun c11 => ?_) (fun c11 => absurd h4z c11)
        refine j_aload_n 18 C dX10_paste_17 rfl rfl ?_
        refine Lng_n6 21 C dX10_paste_18 rfl fl10_30 ?_
        refine j_iload_n 22 C dX10_paste_21 rfl rfl ?_
        refine Lna_n6 23 C dX10_paste_22 rfl _ (by omega) rfl ?_
        refine j_topV (v' := .ref a1) (by rw [hf1]; rfl) ?_
        refine j_astore 25 C dX10_paste_23 rfl rfl (by decide) ?_
        refine j_aload_n 26 C dX10_paste_25 rfl rfl ?_
        refine Lng_n6 29 C dX10_paste_26 rfl fl10_30 ?_
        refine j_iload_n 30 C dX10_paste_29 rfl rfl ?_
        refine Lna_n6 31 C dX10_paste_30 rfl _ (by omega) rfl ?_
        refine j_topV (v' := .null) (by rw [hf2]; rfl) ?_
        refine j_astoreN 33 C dX10_paste_31 rfl rfl (by decide) ?_
        refine j_aload 35 C dX10_paste_33 rfl rfl ?_
        refine j_ifnullR 38 C dX10_paste_35 rfl ?_
        refine j_aloadN 40 C dX10_paste_38 rfl rfl ?_
        refine j_ifnonnullN 43 C dX10_paste_40 rfl ?_
        refine j_bipush 45 C dX10_paste_43 rfl (v := (-6)) (by decide) ?_
        exact j_iret C dX10_paste_45 ⟨by rw [if_pos ⟨h4x, h4z⟩], rfl⟩
  · skip
    refine j_iload_n 1 C dX10_paste_0 rfl rfl ?_
    refine j_sI 4 C dX10_paste_1 rfl cw10_224 K10_isSlot rfl (by decide) ⟨Nat.le_refl _, Nat.le_refl _⟩ rfl (Nat.le_of_ble_eq_true rfl) ?_
    refine j_if_eqB 14 7 C dX10_paste_4 (by decide) rfl (fun c4 => ?_) (fun c4 => ?_)
    · refine j_bipush 16 C dX10_paste_14 rfl (v := (-2)) (by decide) ?_
      exact j_iret C dX10_paste_16 ⟨by rw [if_neg hok], rfl⟩
    · refine j_iload_n 8 C dX10_paste_7 rfl rfl ?_
      refine j_sI 11 C dX10_paste_8 rfl cw10_224 K10_isSlot rfl (by decide) ⟨Nat.le_refl _, Nat.le_refl _⟩ rfl (Nat.le_of_ble_eq_true rfl) ?_
      refine j_if_neB 17 14 C dX10_paste_11 (by decide) rfl (fun c11 => ?_) (fun c11 => ?_)
      · exact absurd ⟨c4, c11⟩ hok
      · refine j_bipush 16 C dX10_paste_14 rfl (v := (-2)) (by decide) ?_
        exact j_iret C dX10_paste_16 ⟨by rw [if_neg hok], rfl⟩
end SN13
