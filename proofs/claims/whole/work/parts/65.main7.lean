section SN7
variable {l : Launch} {G : GG} {wd hd bk : Nat → Int32} {hr td nb n : Nat} {x y z u : Int32} {zn zs zm zh zt zr zb : Nat → Nat} {Sn Ss Sm Sh St Sr Sb : MS} {fi fs : Nat → Option Nat} {pa dk : Option Nat} {R : va_W}
/-- the PARTS of a LAW, also of those that are never told -/
theorem law_rng {q s : Nat} {has easy : Int32} (hT : TT (-1) St wd) (hq : q < 3) (hs : s < 4) : ∃ b n, St.2.1 5 (q * 4 + s) = nI b ∧ St.2.1 6 (q * 4 + s) = nI (b + n) ∧ b + n ≤ 180 ∧ (∀ k, b ≤ k → k < b + n → PC St wd k) ∧ (0 < n → JN (wd (220 + 3 * b)) 0) ∧ f_sum wd hd has easy (b + n) n b (lN 0) = (if q = 2 ∧ 0 < s then lN 0 else f_comes wd hd (-1) (nI 0) (if q = 2 then 8 else 4 * q + s) has easy) := by
  by_cases e : q = 2 ∧ 0 < s
  · obtain ⟨h1, h2⟩ := hT.2.2.2.2.1 (q * 4 + s) (by omega) (by omega)
    exact ⟨0, 0, h1, h2, by omega, fun k _ hk => absurd hk (Nat.not_lt_zero _), fun h => absurd h (Nat.lt_irrefl _), by rw [if_pos e, f_sum_0]⟩
  · have hl : q * 4 + s < 9 := by omega
    obtain ⟨b, n, h1, h2, h3, h4, h5, h6, h7⟩ := TT_law hT hl
    refine ⟨b, n, h1, h2, h3, h4, h5, ?_⟩
    have e2 : (if q = 2 then 8 else 4 * q + s) = q * 4 + s := by split <;> omega
    rw [if_neg e, e2, f_comes, if_neg (nI_9 _ hl), h6, h7]
theorem K10_law (hT : TT (-1) St wd) (hR : RR Sr wd) (hW : WF wd) (hH0 : HR wd Sh hd hr td) (hhr : hr ≤ 1000000000) (htd : td ≤ 1000000000) : Con l G yX10_law cX10_law 6 (some .long) 4 0 0 [.ref (zn 50), .int x, .int y, .int z, .int u] (nBk zn (zs 50) G.2.1 Sn fi fs pa dk ++ (sBk zs (zm 50) (zb 50) G.2.1 Ss ++ (mBk zm (zt 50) (zr 50) (zh 50) G.2.1 Sm ++ (hBk zh G.2.1 Sh ++ (tBk zt G.2.1 St ++ (rBk zr G.2.1 Sr ++ (bBk zb G.2.1 Sb ++ (R)))))))) (pL (f_law wd hd (-1) (nI 0) x y z u) (nBk zn (zs 50) G.2.1 Sn fi fs pa dk ++ (sBk zs (zm 50) (zb 50) G.2.1 Ss ++ (mBk zm (zt 50) (zr 50) (zh 50) G.2.1 Sm ++ (hBk zh G.2.1 Sh ++ (tBk zt G.2.1 St ++ (rBk zr G.2.1 Sr ++ (bBk zb G.2.1 Sb ++ (R))))))))) := by
  refine Con.mk (own := RX10) (by decide) rfl (Nat.le_of_ble_eq_true rfl) (fun X C => ?_)
  have hn24 := hW.2.1.2
  obtain ⟨L, g, hH⟩ := hH0
  have g61 : (isI x 3 ∧ isI y 4 ∧ isI u (nth wd)) → isI z 1001 → J X 6 0 0 (nBk zn (zs 50) G.2.1 Sn fi fs pa dk ++ (sBk zs (zm 50) (zb 50) G.2.1 Ss ++ (mBk zm (zt 50) (zr 50) (zh 50) G.2.1 Sm ++ (hBk zh G.2.1 Sh ++ (tBk zt G.2.1 St ++ (rBk zr G.2.1 Sr ++ (bBk zb G.2.1 Sb ++ (R)))))))) 61 [(0, .ref (zn 50)), (1, .int x), (2, .int y), (3, .int z), (4, .int u)] [] := by
    intro ho hz
    have hn24 := hW.2.1.2
    obtain ⟨q, hq, rfl⟩ := isI_of ho.1
    obtain ⟨s, hs4, rfl⟩ := isI_of ho.2.1
    obtain ⟨b, hb, rfl⟩ := isI_of ho.2.2
    obtain ⟨v, hv, rfl⟩ := isI_of hz
    obtain ⟨es, e1, e2, e3⟩ := hT.2.1 b hb
    obtain ⟨b0, n0, q1, q2, q3, q4, q5, q6⟩ := law_rng (hd := hd) (has := nI v) (easy := nI es) hT hq hs4
    refine j_aload_n 62 C dX10_law_61 rfl rfl ?_
    refine Lng_n4 65 C dX10_law_62 rfl fl10_20 ?_
    refine Lng_s0 68 C dX10_law_65 rfl fl10_61 ?_
    refine Lng_m0 71 C dX10_law_68 rfl fl10_65 ?_
    refine j_iload_n 72 C dX10_law_71 rfl rfl ?_
    refine j_iload_n 73 C dX10_law_72 rfl rfl ?_
    refine j_sI 76 C dX10_law_73 rfl cw10_217 K10_lawOf rfl (by decide) ⟨Nat.le_refl _, Nat.le_refl _⟩ rfl (Nat.le_of_ble_eq_true rfl) ?_
    refine j_iload_n 77 C dX10_law_76 rfl rfl ?_
    refine j_iload 79 C dX10_law_77 rfl rfl ?_
    refine j_aload_n 80 C dX10_law_79 rfl rfl ?_
    refine Lng_n4 83 C dX10_law_80 rfl fl10_20 ?_
    refine Lng_s0 86 C dX10_law_83 rfl fl10_61 ?_
    refine Lng_m2 89 C dX10_law_86 rfl fl10_88 ?_
    refine Lng_h1 92 C dX10_law_89 rfl fl10_300 ?_
    refine j_top hH.2.2.2.1.2 ?_
    refine j_aload_n 93 C dX10_law_92 rfl rfl ?_
    refine Lng_n4 96 C dX10_law_93 rfl fl10_20 ?_
    refine Lng_s0 99 C dX10_law_96 rfl fl10_61 ?_
    refine Lng_m2 102 C dX10_law_99 rfl fl10_88 ?_
    refine Lng_h0 105 C dX10_law_102 rfl fl10_127 ?_
    refine j_top hH.2.2.1.2 ?_
    refine Lnx_tL 108 C dX10_law_105 rfl cw10_303 rfl (K8_sumOf (hd := hd) (wd := wd) (by omega) q1 q2 q3 q4 q5 (show b < 24 by omega) e3 (by omega) e1 htd hhr hH.2.2.2.1.1 hH.2.2.1.1) rfl (by decide) ⟨Nat.le_refl _, Nat.le_refl _⟩ rfl (Nat.le_of_ble_eq_true rfl) ?_
    exact j_lret C dX10_law_108 ⟨by refine congrArg (fun q => some (Value.long q)) (q6.trans ?_); unfold f_law; refine Eq.trans ?_ (if_pos ⟨ho.1, ho.2.1, hz, ho.2.2⟩).symm; rw [tn_nI (by omega), tn_nI (by omega), tn_nI (by omega), e2], rfl⟩
  have g46 : ∀ (u0 : Unit), (isI x 3 ∧ isI y 4 ∧ isI u (nth wd)) → J X 6 0 0 (nBk zn (zs 50) G.2.1 Sn fi fs pa dk ++ (sBk zs (zm 50) (zb 50) G.2.1 Ss ++ (mBk zm (zt 50) (zr 50) (zh 50) G.2.1 Sm ++ (hBk zh G.2.1 Sh ++ (tBk zt G.2.1 St ++ (rBk zr G.2.1 Sr ++ (bBk zb G.2.1 Sb ++ (R)))))))) 46 [(0, .ref (zn 50)), (1, .int x), (2, .int y), (3, .int z), (4, .int u)] [] := by
    intro u0 ho
    refine j_iload_n 47 C dX10_law_46 rfl rfl ?_
    refine j_if_lt 57 50 C dX10_law_47 (by decide) rfl (fun c47 => ?_) (fun c47 => ?_)
    · refine j_ldc2 60 C dX10_law_57 rfl (v := (-2000000000)) kc10_298 ?_
      exact j_lret C dX10_law_60 ⟨by rw [f_law, if_neg (fun q => ((isI_iff (by omega)).mp q.2.2.1).1 c47)], rfl⟩
    · refine j_iload_n 51 C dX10_law_50 rfl rfl ?_
      refine j_sipush 54 C dX10_law_51 rfl (v := nI 1000) (by decide) ?_
      refine j_icmp_le 61 57 C dX10_law_54 (by decide) rfl (fun c54 => ?_) (fun c54 => ?_)
      · exact j_weak _ (by exact ⟨rfl, rfl, rfl, rfl, rfl, trivial⟩) (g61 ho ((isI_iff (by omega)).mpr ⟨c47, fun q => by rw [Int32.le_iff_toInt_le] at c54 q; exact absurd (Int.le_trans q c54) (by decide)⟩))
      · refine j_ldc2 60 C dX10_law_57 rfl (v := (-2000000000)) kc10_298 ?_
        exact j_lret C dX10_law_60 ⟨by rw [f_law, if_neg (fun q => c54 (by obtain ⟨j, hj, rfl⟩ := isI_of q.2.2.1; exact nI_le (by omega) (by omega)))], rfl⟩
  refine j_iload_n 1 C dX10_law_0 rfl rfl ?_
  refine j_if_lt 38 4 C dX10_law_1 (by decide) rfl (fun c1 => ?_) (fun c1 => ?_)
  · refine j_iconst 39 C dX10_law_38 rfl (v := nI 0) (by decide) ?_
    refine j_istore 41 C dX10_law_39 rfl rfl (by decide) ?_
    refine j_iload 43 C dX10_law_41 rfl rfl ?_
    refine j_if_eqN 57 46 C dX10_law_43 (by decide) rfl (by omega) (fun c43 => ?_) (fun c43 => absurd c43 (by omega))
    refine j_ldc2 60 C dX10_law_57 rfl (v := (-2000000000)) kc10_298 ?_
    exact j_lret C dX10_law_60 ⟨by rw [f_law, if_neg (fun q => (fun q => ((isI_iff (by omega)).mp q.1).1 c1) (⟨q.1, q.2.1, q.2.2.2⟩ : isI x 3 ∧ isI y 4 ∧ isI u (nth wd)))], rfl⟩
  · refine j_iload_n 5 C dX10_law_4 rfl rfl ?_
    refine j_iconst 6 C dX10_law_5 rfl (v := nI 3) (by decide) ?_
    refine j_icmp_ge 38 9 C dX10_law_6 (by decide) rfl (fun c6 => ?_) (fun c6 => ?_)
    · refine j_iconst 39 C dX10_law_38 rfl (v := nI 0) (by decide) ?_
      refine j_istore 41 C dX10_law_39 rfl rfl (by decide) ?_
      refine j_iload 43 C dX10_law_41 rfl rfl ?_
      refine j_if_eqN 57 46 C dX10_law_43 (by decide) rfl (by omega) (fun c43 => ?_) (fun c43 => absurd c43 (by omega))
      refine j_ldc2 60 C dX10_law_57 rfl (v := (-2000000000)) kc10_298 ?_
      exact j_lret C dX10_law_60 ⟨by rw [f_law, if_neg (fun q => (fun q => ((isI_iff (by omega)).mp q.1).2 c6) (⟨q.1, q.2.1, q.2.2.2⟩ : isI x 3 ∧ isI y 4 ∧ isI u (nth wd)))], rfl⟩
    · refine j_iload_n 10 C dX10_law_9 rfl rfl ?_
      refine j_sI 13 C dX10_law_10 rfl cw10_135 K10_isSort rfl (by decide) ⟨Nat.le_refl _, Nat.le_refl _⟩ rfl (Nat.le_of_ble_eq_true rfl) ?_
      refine j_if_eqB 38 16 C dX10_law_13 (by decide) rfl (fun c13 => ?_) (fun c13 => ?_)
      · refine j_iconst 39 C dX10_law_38 rfl (v := nI 0) (by decide) ?_
        refine j_istore 41 C dX10_law_39 rfl rfl (by decide) ?_
        refine j_iload 43 C dX10_law_41 rfl rfl ?_
        refine j_if_eqN 57 46 C dX10_law_43 (by decide) rfl (by omega) (fun c43 => ?_) (fun c43 => absurd c43 (by omega))
        refine j_ldc2 60 C dX10_law_57 rfl (v := (-2000000000)) kc10_298 ?_
        exact j_lret C dX10_law_60 ⟨by rw [f_law, if_neg (fun q => (fun q => c13 q.2.1) (⟨q.1, q.2.1, q.2.2.2⟩ : isI x 3 ∧ isI y 4 ∧ isI u (nth wd)))], rfl⟩
      · refine j_aload_n 17 C dX10_law_16 rfl rfl ?_
        refine Lng_n4 20 C dX10_law_17 rfl fl10_20 ?_
        refine Lng_s0 23 C dX10_law_20 rfl fl10_61 ?_
        refine Lng_m0 26 C dX10_law_23 rfl fl10_65 ?_
        refine j_iload 28 C dX10_law_26 rfl rfl ?_
        refine Lnx_tI 31 C dX10_law_28 rfl cw10_138 rfl (K8_hasThing (hT.1.1.trans hW.2.1.1) hW.2.1.2) rfl (by decide) ⟨Nat.le_refl _, Nat.le_refl _⟩ rfl (Nat.le_of_ble_eq_true rfl) ?_
        refine j_if_eqB 38 34 C dX10_law_31 (by decide) rfl (fun c31 => ?_) (fun c31 => ?_)
        · refine j_iconst 39 C dX10_law_38 rfl (v := nI 0) (by decide) ?_
          refine j_istore 41 C dX10_law_39 rfl rfl (by decide) ?_
          refine j_iload 43 C dX10_law_41 rfl rfl ?_
          refine j_if_eqN 57 46 C dX10_law_43 (by decide) rfl (by omega) (fun c43 => ?_) (fun c43 => absurd c43 (by omega))
          refine j_ldc2 60 C dX10_law_57 rfl (v := (-2000000000)) kc10_298 ?_
          exact j_lret C dX10_law_60 ⟨by rw [f_law, if_neg (fun q => (fun q => c31 q.2.2) (⟨q.1, q.2.1, q.2.2.2⟩ : isI x 3 ∧ isI y 4 ∧ isI u (nth wd)))], rfl⟩
        · refine j_iconst 35 C dX10_law_34 rfl (v := nI 1) (by decide) ?_
          refine j_goto 39 C dX10_law_35 (by decide) ?_
          refine j_istore 41 C dX10_law_39 rfl rfl (by decide) ?_
          refine j_iload 43 C dX10_law_41 rfl rfl ?_
          refine j_if_eqN 57 46 C dX10_law_43 (by decide) rfl (by omega) (fun c43 => absurd c43 (by omega)) (fun c43 => ?_)
          exact j_weak _ (by exact ⟨rfl, rfl, rfl, rfl, rfl, trivial⟩) (g46 () ⟨(isI_iff (by omega)).mpr ⟨c1, c6⟩, c13, c31⟩)
end SN7
