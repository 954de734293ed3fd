theorem nI_and (a b : Nat) : nI a &&& nI b = nI (a &&& b) := by
  refine Int32.toBitVec_inj.mp ?_
  show BitVec.ofNat 32 a &&& BitVec.ofNat 32 b = BitVec.ofNat 32 (a &&& b)
  exact BitVec.ofNat_and.symm
theorem sh_pow : ∀ t, t < 24 → nI 1 <<< (nI t &&& 31) = nI (2 ^ t) := by decide +kernel
theorem lN_i2 {t : Nat} (h : t < 2 ^ 31) : (lN t).toInt32 = nI t := by
  refine Int32.toInt_inj.mp ?_
  rw [Int64.toInt_toInt32, lN_toInt h, nI_toInt h, Int.bmod_eq_of_le (by omega) (by omega)]
theorem lN_of {v : Int64} {n : Nat} (hn : n < 2 ^ 31) (h0 : ¬ v < lN 0) (h1 : v < lN n) : ∃ t, t < n ∧ v = lN t := by
  rw [Int64.lt_iff_toInt_lt, show (lN 0).toInt = 0 by decide] at h0
  rw [Int64.lt_iff_toInt_lt, lN_toInt hn] at h1
  refine ⟨v.toInt.toNat, by omega, Int64.toInt_inj.mp ?_⟩
  rw [lN_toInt (by omega)]; omega
theorem and2 (s t : Nat) : s &&& 2 ^ t = if s.testBit t = true then 2 ^ t else 0 := by
  apply Nat.eq_of_testBit_eq
  intro i
  rw [Nat.testBit_and, Nat.testBit_two_pow]
  by_cases e : t = i
  · subst e
    cases h : s.testBit t with
    | true => rw [if_pos rfl, Nat.testBit_two_pow]; simp
    | false => rw [if_neg (by simp)]; simp
  · by_cases h : s.testBit t = true
    · rw [if_pos h, Nat.testBit_two_pow]; simp [e]
    · rw [if_neg h]; simp [e]
theorem and_pow (s t : Nat) (hs : s < 2 ^ 24) (ht : t < 24) : nI s &&& nI (2 ^ t) = 0 ↔ s.testBit t = false := by
  rw [nI_and, and2]
  have hp : 2 ^ t < 2 ^ 24 := Nat.pow_lt_pow_right (by omega) ht
  cases h : s.testBit t with
  | false => rw [if_neg (by simp)]; exact ⟨fun _ => rfl, fun _ => rfl⟩
  | true =>
    rw [if_pos rfl]
    have := Nat.two_pow_pos t
    exact ⟨fun z => absurd z (nI_ne0 (by omega) (by omega)), fun z => by cases z⟩
/-- the numbers may be a ROW of things, each at most once -/
abbrev okS (f : Nat → Int64) (nt m : Nat) : Prop := ∀ i, i < m → (¬ f i < lN 0 ∧ f i < lN nt) ∧ ∀ j, j < i → ¬ f j = f i
section SN18
variable {l : Launch} {G : GG} {wd : Nat → Int32} {x y z : Int32} {len : Nat} {zn zs zm zh zt zr zb zl : Nat → Nat} {Sn Ss Sm Sh St Sr Sb Sl : MS} {fi fs : Nat → Option Nat} {pa dk : Option Nat} {R : va_W}
theorem okS_s {f : Nat → Int64} {nt i : Nat} (h : okS f nt i) (h1 : ¬ f i < lN 0 ∧ f i < lN nt) (h2 : ∀ j, j < i → ¬ f j = f i) : okS f nt (i + 1) := by
  intro k hk
  by_cases e : k = i
  · subst e; exact ⟨h1, h2⟩
  · exact h k (by omega)
theorem or_bits {f : Nat → Int64} {S i t0 : Nat} (h : ∀ t, t < 24 → (S.testBit t = true ↔ ∃ j, j < i ∧ f j = lN t)) (hv : f i = lN t0) (ht : t0 < 24) : ∀ t, t < 24 → ((S ||| 2 ^ t0).testBit t = true ↔ ∃ j, j < i + 1 ∧ f j = lN t) := by
  intro t ht2
  rw [Nat.testBit_or, Bool.or_eq_true, h t ht2, Nat.testBit_two_pow]
  constructor
  · rintro (⟨j, hj, e⟩ | e)
    · exact ⟨j, by omega, e⟩
    · have e : t0 = t := by simpa using e
      exact ⟨i, by omega, e ▸ hv⟩
  · rintro ⟨j, hj, e⟩
    by_cases q : j = i
    · subst q
      right
      have e2 : lN t0 = lN t := hv.symm.trans e
      have := congrArg Int64.toInt e2
      rw [lN_toInt (by omega), lN_toInt (by omega)] at this
      simp; omega
    · exact Or.inl ⟨j, by omega, e⟩
theorem K10_canBeRow (hT : TT (-1) St wd) (hW : WF wd) (hlen : Sl.1 1 = nI len) (hl6 : len ≤ 60) : Con l G yX10_canBeRow cX10_canBeRow 7 (some .boolean) 1 0 0 [.ref (zn 50), .ref (zl 50)] (nBk zn (zs 50) G.2.1 Sn fi fs pa dk ++ (sBk zs (zm 50) (zb 50) G.2.1 Ss ++ (mBk zm (zt 50) (zr 50) (zh 50) G.2.1 Sm ++ (hBk zh G.2.1 Sh ++ (tBk zt G.2.1 St ++ (rBk zr G.2.1 Sr ++ (bBk zb G.2.1 Sb ++ (lBk zl G.2.1 Sl ++ (R))))))))) (pI (bI (2 ≤ len ∧ len ≤ 12 ∧ okS (Sl.2.2 2) (nth wd) len)) (nBk zn (zs 50) G.2.1 Sn fi fs pa dk ++ (sBk zs (zm 50) (zb 50) G.2.1 Ss ++ (mBk zm (zt 50) (zr 50) (zh 50) G.2.1 Sm ++ (hBk zh G.2.1 Sh ++ (tBk zt G.2.1 St ++ (rBk zr G.2.1 Sr ++ (bBk zb G.2.1 Sb ++ (lBk zl G.2.1 Sl ++ (R)))))))))) := by
  refine Con.mk (own := RX10) (by decide) rfl (Nat.le_of_ble_eq_true rfl) (fun X C => ?_)
  have hn24 := hW.2.1.2
  refine j_aload_n 1 C dX10_canBeRow_0 rfl rfl ?_
  refine Ug_l1 4 C dX10_canBeRow_1 rfl fl10_227 ?_
  refine j_top hlen ?_
  refine j_iconst 5 C dX10_canBeRow_4 rfl (v := nI 2) (by decide) ?_
  refine j_icmp_ltN 17 8 C dX10_canBeRow_5 (by decide) rfl (by omega) (by omega) (fun c5 => ?_) (fun c5 => ?_)
  · refine j_iconst 18 C dX10_canBeRow_17 rfl (v := nI 0) (by decide) ?_
    exact j_zret C dX10_canBeRow_18 rfl ⟨by rw [bI_f (fun q => by omega)]; rfl, rfl⟩
  · refine j_aload_n 9 C dX10_canBeRow_8 rfl rfl ?_
    refine Ug_l1 12 C dX10_canBeRow_9 rfl fl10_227 ?_
    refine j_top hlen ?_
    refine j_bipush 14 C dX10_canBeRow_12 rfl (v := nI 12) (by decide) ?_
    refine j_icmp_leN 19 17 C dX10_canBeRow_14 (by decide) rfl (by omega) (by omega) (fun c14 => ?_) (fun c14 => ?_)
    · have h2 : 2 ≤ len := by omega
      have h12 : len ≤ 12 := by omega
      have lp23 : ∀ (m : Nat) (i S : Nat), len - i = m → i ≤ len → S < 2 ^ 24 → (∀ t, t < 24 → (S.testBit t = true ↔ ∃ j, j < i ∧ (Sl.2.2 2) j = lN t)) → okS (Sl.2.2 2) (nth wd) i → J X 7 0 0 (nBk zn (zs 50) G.2.1 Sn fi fs pa dk ++ (sBk zs (zm 50) (zb 50) G.2.1 Ss ++ (mBk zm (zt 50) (zr 50) (zh 50) G.2.1 Sm ++ (hBk zh G.2.1 Sh ++ (tBk zt G.2.1 St ++ (rBk zr G.2.1 Sr ++ (bBk zb G.2.1 Sb ++ (lBk zl G.2.1 Sl ++ (R))))))))) 23 [(0, .ref (zn 50)), (1, .ref (zl 50)), (2, .int (nI S)), (3, .int (nI i))] [] := by
        intro m
        induction m using Nat.strongRecOn with
        | ind m ilp23 =>
        intro i S hm hi hS hT1 hok
        refine j_iload_n 24 C dX10_canBeRow_23 rfl rfl ?_
        refine j_aload_n 25 C dX10_canBeRow_24 rfl rfl ?_
        refine Ug_l1 28 C dX10_canBeRow_25 rfl fl10_227 ?_
        refine j_top hlen ?_
        refine j_icmp_geN 95 31 C dX10_canBeRow_28 (by decide) rfl (by omega) (by omega) (fun c28 => ?_) (fun c28 => ?_)
        · refine j_iconst 96 C dX10_canBeRow_95 rfl (v := nI 1) (by decide) ?_
          exact j_zret C dX10_canBeRow_96 rfl ⟨by rw [bI_t ⟨h2, h12, by rw [← show i = len by omega]; exact hok⟩]; rfl, rfl⟩
        · refine j_aload_n 32 C dX10_canBeRow_31 rfl rfl ?_
          refine Ug_l2 35 C dX10_canBeRow_32 rfl fl10_230 ?_
          refine j_iload_n 36 C dX10_canBeRow_35 rfl rfl ?_
          refine Ua_l2 37 C dX10_canBeRow_36 rfl _ (by omega) rfl ?_
          refine j_lstore 39 C dX10_canBeRow_37 rfl rfl rfl (by decide) ?_
          refine j_lload 41 C dX10_canBeRow_39 rfl rfl ?_
          refine j_lconst 42 C dX10_canBeRow_41 rfl (v := lN 0) (by decide) ?_
          refine j_lcmp 43 C dX10_canBeRow_42 rfl ?_
          refine j_if_ltL 66 46 C dX10_canBeRow_43 (by decide) rfl (fun c43 => ?_) (fun c43 => ?_)
          · refine j_iconst 67 C dX10_canBeRow_66 rfl (v := nI 0) (by decide) ?_
            exact j_zret C dX10_canBeRow_67 rfl ⟨by rw [bI_f (fun q => (q.2.2 i (by omega)).1.1 c43)]; rfl, rfl⟩
          · refine j_lload 48 C dX10_canBeRow_46 rfl rfl ?_
            refine j_aload_n 49 C dX10_canBeRow_48 rfl rfl ?_
            refine Ug_n4 52 C dX10_canBeRow_49 rfl fl10_20 ?_
            refine Ug_s0 55 C dX10_canBeRow_52 rfl fl10_61 ?_
            refine Ug_m0 58 C dX10_canBeRow_55 rfl fl10_65 ?_
            refine Ug_t0 61 C dX10_canBeRow_58 rfl fl10_132 ?_
            refine j_top (hT.1.1.trans hW.2.1.1) ?_
            refine j_i2lN 62 C dX10_canBeRow_61 rfl (by omega) ?_
            refine j_lcmp 63 C dX10_canBeRow_62 rfl ?_
            refine j_if_ltL 68 66 C dX10_canBeRow_63 (by decide) rfl (fun c63 => ?_) (fun c63 => ?_)
            · obtain ⟨t, ht, hv⟩ := lN_of (by omega) c43 c63
              refine j_iconst 69 C dX10_canBeRow_68 rfl (v := nI 1) (by decide) ?_
              refine j_lload 71 C dX10_canBeRow_69 rfl rfl ?_
              refine j_l2i 72 C dX10_canBeRow_71 rfl ?_
              rw [hv, lN_i2 (by omega)]
              refine j_ishl 73 C dX10_canBeRow_72 rfl ?_
              rw [sh_pow t (by omega)]
              refine j_istore 75 C dX10_canBeRow_73 rfl rfl (by decide) ?_
              refine j_iload_n 76 C dX10_canBeRow_75 rfl rfl ?_
              refine j_iload 78 C dX10_canBeRow_76 rfl rfl ?_
              refine j_iand 79 C dX10_canBeRow_78 rfl ?_
              refine j_if_eq 84 82 C dX10_canBeRow_79 (by decide) rfl (fun c79 => ?_) (fun c79 => ?_)
              · have hb := (and_pow S t hS (by omega)).mp c79
                refine j_iload_n 85 C dX10_canBeRow_84 rfl rfl ?_
                refine j_iload 87 C dX10_canBeRow_85 rfl rfl ?_
                refine j_ior 88 C dX10_canBeRow_87 rfl ?_
                rw [nI_or]
                refine j_istore_n 89 C dX10_canBeRow_88 rfl rfl (by decide) ?_
                refine j_iincN 92 (z := 1) C dX10_canBeRow_89 rfl rfl rfl (by decide) ?_
                refine j_goto 23 C dX10_canBeRow_92 (by decide) ?_
                exact j_weak _ (by exact ⟨rfl, rfl, rfl, rfl, trivial⟩) (ilp23 _ (by omega) (i + 1) (S ||| 2 ^ t) rfl (by omega) (Nat.or_lt_two_pow hS (Nat.pow_lt_pow_right (by omega) (by omega))) (or_bits hT1 hv (show t < 24 by omega)) (okS_s hok ⟨c43, c63⟩ (fun j hj e => by have := (hT1 t (by omega)).mpr ⟨j, hj, e.trans hv⟩; rw [hb] at this; cases this)))
              · have hb : S.testBit t = true := by cases h : S.testBit t with | true => rfl | false => exact absurd ((and_pow S t hS (by omega)).mpr h) c79
                obtain ⟨j, hj, hje⟩ := (hT1 t (by omega)).mp hb
                refine j_iconst 83 C dX10_canBeRow_82 rfl (v := nI 0) (by decide) ?_
                exact j_zret C dX10_canBeRow_83 rfl ⟨by rw [bI_f (fun q => (q.2.2 i (by omega)).2 j hj (hje.trans hv.symm))]; rfl, rfl⟩
            · refine j_iconst 67 C dX10_canBeRow_66 rfl (v := nI 0) (by decide) ?_
              exact j_zret C dX10_canBeRow_67 rfl ⟨by rw [bI_f (fun q => c63 (q.2.2 i (by omega)).1.2)]; rfl, rfl⟩
      refine j_iconst 20 C dX10_canBeRow_19 rfl (v := nI 0) (by decide) ?_
      refine j_istore_n 21 C dX10_canBeRow_20 rfl rfl (by decide) ?_
      refine j_iconst 22 C dX10_canBeRow_21 rfl (v := nI 0) (by decide) ?_
      refine j_istore_n 23 C dX10_canBeRow_22 rfl rfl (by decide) ?_
      exact j_weak _ (by exact ⟨rfl, rfl, rfl, rfl, trivial⟩) (lp23 _ 0 0 rfl (Nat.zero_le _) (by decide) (fun t _ => ⟨fun h => (by rw [Nat.zero_testBit] at h; cases h), fun ⟨j, hj, _⟩ => absurd hj (Nat.not_lt_zero _)⟩) (fun i hi => absurd hi (Nat.not_lt_zero _)))
    · refine j_iconst 18 C dX10_canBeRow_17 rfl (v := nI 0) (by decide) ?_
      exact j_zret C dX10_canBeRow_18 rfl ⟨by rw [bI_f (fun q => by omega)]; rfl, rfl⟩
theorem K10_rowOfN (hf : isI x 4 → fs (tn x) = none) : Con l G yX10_rowOf cX10_rowOf 5 (some .int) 2 0 0 [.ref (zn 50), .int x] (nBk zn (zs 50) G.2.1 Sn fi fs pa dk ++ (sBk zs (zm 50) (zb 50) G.2.1 Ss ++ (mBk zm (zt 50) (zr 50) (zh 50) G.2.1 Sm ++ (hBk zh G.2.1 Sh ++ (tBk zt G.2.1 St ++ (rBk zr G.2.1 Sr ++ (bBk zb G.2.1 Sb ++ (R)))))))) (pI (if isI x 4 then -6 else -2) (nBk zn (zs 50) G.2.1 Sn fi fs pa dk ++ (sBk zs (zm 50) (zb 50) G.2.1 Ss ++ (mBk zm (zt 50) (zr 50) (zh 50) G.2.1 Sm ++ (hBk zh G.2.1 Sh ++ (tBk zt G.2.1 St ++ (rBk zr G.2.1 Sr ++ (bBk zb G.2.1 Sb ++ (R))))))))) := by
  refine Con.mk (own := RX10) (by decide) rfl (Nat.le_of_ble_eq_true rfl) (fun X C => ?_)
  refine j_iload_n 1 C dX10_rowOf_0 rfl rfl ?_
  refine j_sI 4 C dX10_rowOf_1 rfl cw10_224 K10_isSlot rfl (by decide) ⟨Nat.le_refl _, Nat.le_refl _⟩ rfl (Nat.le_of_ble_eq_true rfl) ?_
  refine j_if_neB 10 7 C dX10_rowOf_4 (by decide) rfl (fun c4 => ?_) (fun c4 => ?_)
  · have hfs := hf c4
    obtain ⟨s, hs, rfl⟩ := isI_of c4
    rw [tn_nI (by omega)] at hfs
    refine j_aload_n 11 C dX10_rowOf_10 rfl rfl ?_
    refine Lng_n6 14 C dX10_rowOf_11 rfl fl10_30 ?_
    refine j_iload_n 15 C dX10_rowOf_14 rfl rfl ?_
    refine Lna_n6 16 C dX10_rowOf_15 rfl _ (by omega) rfl ?_
    refine j_topV (v' := .null) (by rw [hfs]; rfl) ?_
    refine j_astore_nN 17 C dX10_rowOf_16 rfl rfl (by decide) ?_
    refine j_aload_nN 18 C dX10_rowOf_17 rfl rfl ?_
    refine j_ifnonnullN 21 C dX10_rowOf_18 rfl ?_
    refine j_bipush 23 C dX10_rowOf_21 rfl (v := (-6)) (by decide) ?_
    exact j_iret C dX10_rowOf_23 ⟨by rw [if_pos c4], rfl⟩
  · refine j_bipush 9 C dX10_rowOf_7 rfl (v := (-2)) (by decide) ?_
    exact j_iret C dX10_rowOf_9 ⟨by rw [if_neg c4], rfl⟩
theorem K10_rowOfS (hT : TT (-1) St wd) (hR : RR Sr wd) (hW : WF wd) (hx : isI x 4) (hf1 : fs (tn x) = some (zl 50)) (hlen : Sl.1 1 = nI len) (hl6 : len ≤ 60) : Con l G yX10_rowOf cX10_rowOf 5 (some .int) 3 0 0 [.ref (zn 50), .int x] (nBk zn (zs 50) G.2.1 Sn fi fs pa dk ++ (sBk zs (zm 50) (zb 50) G.2.1 Ss ++ (mBk zm (zt 50) (zr 50) (zh 50) G.2.1 Sm ++ (hBk zh G.2.1 Sh ++ (tBk zt G.2.1 St ++ (rBk zr G.2.1 Sr ++ (bBk zb G.2.1 Sb ++ (lBk zl G.2.1 Sl ++ (R))))))))) (qI (fun s : MS => (nBk zn (zs 50) G.2.1 Sn fi fs pa dk ++ (sBk zs (zm 50) (zb 50) G.2.1 Ss ++ (mBk zm (zt 50) (zr 50) (zh 50) G.2.1 Sm ++ (hBk zh G.2.1 Sh ++ (tBk zt G.2.1 St ++ (rBk zr G.2.1 s ++ (bBk zb G.2.1 Sb ++ (lBk zl G.2.1 Sl ++ (R)))))))))) (fun v s => ((2 ≤ len ∧ len ≤ 12 ∧ okS (Sl.2.2 2) (nth wd) len) → ¬ nrw wd = 12 → v = nI (nrw wd) ∧ RN Sr s (nrw wd) len (fun i => ((Sl.2.2 2) i).toInt32)) ∧ ((2 ≤ len ∧ len ≤ 12 ∧ okS (Sl.2.2 2) (nth wd) len) → nrw wd = 12 → v = -3 ∧ s = Sr) ∧ (¬ (2 ≤ len ∧ len ≤ 12 ∧ okS (Sl.2.2 2) (nth wd) len) → v = -2 ∧ s = Sr))) := by
  refine Con.mk (own := RX10) (by decide) rfl (Nat.le_of_ble_eq_true rfl) (fun X C => ?_)
  refine j_iload_n 1 C dX10_rowOf_0 rfl rfl ?_
  refine j_sI 4 C dX10_rowOf_1 rfl cw10_224 K10_isSlot rfl (by decide) ⟨Nat.le_refl _, Nat.le_refl _⟩ rfl (Nat.le_of_ble_eq_true rfl) ?_
  refine j_if_neB 10 7 C dX10_rowOf_4 (by decide) rfl (fun c4 => ?_) (fun c4 => absurd hx c4)
  obtain ⟨q, hq, rfl⟩ := isI_of hx
  rw [tn_nI (by omega)] at hf1
  refine j_aload_n 11 C dX10_rowOf_10 rfl rfl ?_
  refine Ug_n6 14 C dX10_rowOf_11 rfl fl10_30 ?_
  refine j_iload_n 15 C dX10_rowOf_14 rfl rfl ?_
  refine Ua_n6 16 C dX10_rowOf_15 rfl _ (by omega) rfl ?_
  refine j_topV (v' := .ref (zl 50)) (by rw [hf1]; rfl) ?_
  refine j_astore_n 17 C dX10_rowOf_16 rfl rfl (by decide) ?_
  refine j_aload_n 18 C dX10_rowOf_17 rfl rfl ?_
  refine j_ifnonnullR 24 C dX10_rowOf_18 (by decide) ?_
  refine j_aload_n 25 C dX10_rowOf_24 rfl rfl ?_
  refine j_aload_n 26 C dX10_rowOf_25 rfl rfl ?_
  refine j_callVs 29 C dX10_rowOf_26 rfl cw10_277 (K10_canBeRow hT hW hlen hl6) (As := [.ref (zl 50)]) rfl ⟨by decide, Nat.le_refl _, Nat.le_refl _⟩ rfl (Nat.le_of_ble_eq_true rfl) 0 rfl (ci := 10) (T := TX10) (N := 9) rfl (fun v w hp => ?_)
  obtain ⟨rfl, rfl⟩ := hp
  refine j_if_neB 35 32 C dX10_rowOf_29 (by decide) rfl (fun c29 => ?_) (fun c29 => ?_)
  · have hok := c29
    have hn12 := hW.2.2.1.2
    refine j_aload_n 36 C dX10_rowOf_35 rfl rfl ?_
    refine Ug_n4 39 C dX10_rowOf_36 rfl fl10_20 ?_
    refine Ug_s0 42 C dX10_rowOf_39 rfl fl10_61 ?_
    refine Ug_m1 45 C dX10_rowOf_42 rfl fl10_78 ?_
    refine j_astore_n 46 C dX10_rowOf_45 rfl rfl (by decide) ?_
    refine j_aload_n 47 C dX10_rowOf_46 rfl rfl ?_
    refine Ux_rI 50 C dX10_rowOf_47 rfl cw10_264 rfl (K5_isFull (hR.1.trans hW.2.2.1.1) hW.2.2.1.2) rfl (by decide) ⟨Nat.le_refl _, Nat.le_refl _⟩ rfl (Nat.le_of_ble_eq_true rfl) ?_
    refine j_if_eqB 56 53 C dX10_rowOf_50 (by decide) rfl (fun c50 => ?_) (fun c50 => ?_)
    · have hnf : ¬ nrw wd = 12 := by omega
      have lp63 : ∀ (m : Nat) (j : Nat) (s : MS), len - j = m → j ≤ len → RB Sr s (nrw wd) j (fun i => ((Sl.2.2 2) i).toInt32) → J X 5 0 0 (nBk zn (zs 50) G.2.1 Sn fi fs pa dk ++ (sBk zs (zm 50) (zb 50) G.2.1 Ss ++ (mBk zm (zt 50) (zr 50) (zh 50) G.2.1 Sm ++ (hBk zh G.2.1 Sh ++ (tBk zt G.2.1 St ++ (rBk zr G.2.1 s ++ (bBk zb G.2.1 Sb ++ (lBk zl G.2.1 Sl ++ (R))))))))) 63 [(0, .ref (zn 50)), (2, .ref (zl 50)), (3, .ref (zr 50)), (4, .int (nI j))] [] := by
        intro m
        induction m using Nat.strongRecOn with
        | ind m ilp63 =>
        intro j s hm hj hS
        refine j_iload 65 C dX10_rowOf_63 rfl rfl ?_
        refine j_aload_n 66 C dX10_rowOf_65 rfl rfl ?_
        refine Ug_l1 69 C dX10_rowOf_66 rfl fl10_227 ?_
        refine j_top hlen ?_
        refine j_icmp_geN 91 72 C dX10_rowOf_69 (by decide) rfl (by omega) (by omega) (fun c69 => ?_) (fun c69 => ?_)
        · refine j_aload_n 92 C dX10_rowOf_91 rfl rfl ?_
          refine Ux_rI 95 C dX10_rowOf_92 rfl cw10_273 rfl (K5_close hS.1.1 (by omega)) rfl (by decide) ⟨Nat.le_refl _, Nat.le_refl _⟩ rfl (Nat.le_of_ble_eq_true rfl) ?_
          exact j_iret C dX10_rowOf_95 (by refine ⟨_, _, ?_, rfl, rfl⟩; refine ⟨fun _ _ => ⟨rfl, by rw [show j = len by omega] at hS; exact RB_close hS⟩, fun _ q => absurd q hnf, fun q => absurd hok q⟩)
        · refine j_aload_n 73 C dX10_rowOf_72 rfl rfl ?_
          refine j_aload_n 74 C dX10_rowOf_73 rfl rfl ?_
          refine Ug_l2 77 C dX10_rowOf_74 rfl fl10_230 ?_
          refine j_iload 79 C dX10_rowOf_77 rfl rfl ?_
          refine Ua_l2 80 C dX10_rowOf_79 rfl _ (by omega) rfl ?_
          refine j_l2i 81 C dX10_rowOf_80 rfl ?_
          refine Ux_rI 84 C dX10_rowOf_81 rfl cw10_270 rfl (K5_add hS.1.1 (by omega) hS.2.2.2.1 (by omega)) rfl (by decide) ⟨Nat.le_refl _, Nat.le_refl _⟩ rfl (Nat.le_of_ble_eq_true rfl) ?_
          refine j_pop 85 C dX10_rowOf_84 rfl rfl ?_
          refine j_iincN 88 (z := 1) C dX10_rowOf_85 rfl rfl rfl (by decide) ?_
          refine j_goto 63 C dX10_rowOf_88 (by decide) ?_
          exact j_weak _ (by exact ⟨rfl, rfl, rfl, rfl, trivial⟩) (ilp63 _ (by omega) (j + 1) _ rfl (by omega) (RB_add hS (by omega) rfl))
      refine j_aload_n 57 C dX10_rowOf_56 rfl rfl ?_
      refine Ux_rV 60 C dX10_rowOf_57 rfl cw10_267 rfl (K5_begin (hR.1.trans hW.2.2.1.1) (by omega)) rfl (by decide) ⟨Nat.le_refl _, Nat.le_refl _⟩ rfl (Nat.le_of_ble_eq_true rfl) ?_
      refine j_iconst 61 C dX10_rowOf_60 rfl (v := nI 0) (by decide) ?_
      refine j_istore 63 C dX10_rowOf_61 rfl rfl (by decide) ?_
      exact j_weak _ (by exact ⟨rfl, rfl, rfl, rfl, trivial⟩) (lp63 _ 0 _ rfl (Nat.zero_le _) (RB_0 (hR.1.trans hW.2.2.1.1) _))
    · refine j_bipush 55 C dX10_rowOf_53 rfl (v := (-3)) (by decide) ?_
      exact j_iret C dX10_rowOf_55 (by refine ⟨_, Sr, ?_, rfl, rfl⟩; exact ⟨fun _ q => absurd (by omega) q, fun _ _ => ⟨rfl, rfl⟩, fun q => absurd hok q⟩)
  · refine j_bipush 34 C dX10_rowOf_32 rfl (v := (-2)) (by decide) ?_
    exact j_iret C dX10_rowOf_34 (by refine ⟨_, Sr, ?_, rfl, rfl⟩; exact ⟨fun q => absurd q c29, fun q => absurd q c29, fun _ => ⟨rfl, rfl⟩⟩)
end SN18
