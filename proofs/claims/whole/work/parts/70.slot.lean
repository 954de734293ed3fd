theorem cut_0 (v : Int64) : v <<< (56 : Int64) >>> (56 : Int64) = v.toInt32.toInt8.toInt32.toInt64 := by
  refine Int64.toBitVec_inj.mp ?_
  have e : (v <<< (56 : Int64) >>> (56 : Int64)).toBitVec = (v.toBitVec <<< 56).sshiftRight 56 := rfl
  rw [e]
  have e2 : (v.toInt32.toInt8.toInt32.toInt64).toBitVec = ((((v.toBitVec).signExtend 32).signExtend 8).signExtend 32).signExtend 64 := rfl
  rw [e2]
  apply BitVec.eq_of_getLsbD_eq
  intro i hi
  simp only [BitVec.getLsbD_sshiftRight, BitVec.getLsbD_shiftLeft, BitVec.getLsbD_signExtend, BitVec.msb_eq_getLsbD_last]
  by_cases h : i < 8
  · simp [h, hi, show ¬ 64 ≤ i by omega, show 56 + i < 64 by omega, show ¬ 56 + i < 56 by omega, show i < 32 by omega]
  · by_cases h2 : i < 32
    · simp [h, hi, h2, show ¬ 64 ≤ i by omega, show ¬ 56 + i < 64 by omega]
    · simp [h, hi, h2, show ¬ 64 ≤ i by omega, show ¬ 56 + i < 64 by omega]
theorem cut_1 (v : Int64) : v <<< (48 : Int64) >>> (48 : Int64) = v.toInt32.toInt16.toInt32.toInt64 := by
  refine Int64.toBitVec_inj.mp ?_
  have e : (v <<< (48 : Int64) >>> (48 : Int64)).toBitVec = (v.toBitVec <<< 48).sshiftRight 48 := rfl
  rw [e]
  have e2 : (v.toInt32.toInt16.toInt32.toInt64).toBitVec = ((((v.toBitVec).signExtend 32).signExtend 16).signExtend 32).signExtend 64 := rfl
  rw [e2]
  apply BitVec.eq_of_getLsbD_eq
  intro i hi
  simp only [BitVec.getLsbD_sshiftRight, BitVec.getLsbD_shiftLeft, BitVec.getLsbD_signExtend, BitVec.msb_eq_getLsbD_last]
  by_cases h : i < 16
  · simp [h, hi, show ¬ 64 ≤ i by omega, show 48 + i < 64 by omega, show ¬ 48 + i < 48 by omega, show i < 32 by omega]
  · by_cases h2 : i < 32
    · simp [h, hi, h2, show ¬ 64 ≤ i by omega, show ¬ 48 + i < 64 by omega]
    · simp [h, hi, h2, show ¬ 64 ≤ i by omega, show ¬ 48 + i < 64 by omega]
theorem cut_2 (v : Int64) : v <<< (32 : Int64) >>> (32 : Int64) = v.toInt32.toInt64 := by
  refine Int64.toBitVec_inj.mp ?_
  have e : (v <<< (32 : Int64) >>> (32 : Int64)).toBitVec = (v.toBitVec <<< 32).sshiftRight 32 := rfl
  rw [e]
  have e2 : (v.toInt32.toInt64).toBitVec = ((v.toBitVec).signExtend 32).signExtend 64 := rfl
  rw [e2]
  apply BitVec.eq_of_getLsbD_eq
  intro i hi
  simp only [BitVec.getLsbD_sshiftRight, BitVec.getLsbD_shiftLeft, BitVec.getLsbD_signExtend, BitVec.msb_eq_getLsbD_last]
  by_cases h : i < 32
  · simp [h, hi, show ¬ 64 ≤ i by omega, show 32 + i < 64 by omega, show ¬ 32 + i < 32 by omega, show i < 32 by omega]
  · by_cases h2 : i < 32
    · simp [h, hi, h2, show ¬ 64 ≤ i by omega, show ¬ 32 + i < 64 by omega]
    · simp [h, hi, h2, show ¬ 64 ≤ i by omega, show ¬ 32 + i < 64 by omega]
theorem fcut_sh {v : Int64} {w : Int32} {k : Int64} (h : (nI 64 - nI 8 <<< (w &&& 31)).toInt64 &&& 63 = k) : f_cut v w = v <<< k >>> k := by unfold f_cut; rw [h]
theorem sh_0 (v : Int64) : v <<< (0 : Int64) >>> (0 : Int64) = v := by
  refine Int64.toBitVec_inj.mp ?_
  show (v.toBitVec <<< 0).sshiftRight 0 = v.toBitVec
  simp
section SSl
variable {l : Launch} {G : GG} {zl : Nat → Nat} {Sl : MS} {x y : Int32} {v : Int64} {n : Nat}
theorem uzL {f : Nat → Int64} {i : Nat} (h : ∀ j, j < i → f j = lN 0) : ∀ j, j < i + 1 → vp_updL f i (lN 0) j = lN 0 := by
  intro j hj
  unfold vp_updL
  by_cases e : j = i
  · rw [if_pos e]
  · rw [if_neg e]; exact h j (by omega)
theorem lS_at (M : MS) (f i : Nat) (v : Int64) : (lS M f i v).2.2 f = vp_updL (M.2.2 f) i v := by show va_up M.2.2 f _ f = _; unfold va_up; rw [if_pos rfl]
theorem K6_begin (hn : n ≤ 60) : Con l G yX6_begin cX6_begin 4 none 1 0 0 [.ref (zl 50), .int x, .int (nI n)] (lBk zl G.2.1 Sl) (qV (fun s : MS => (lBk zl G.2.1 s)) (fun S' => S'.1 0 = x ∧ S'.1 1 = nI n ∧ ∀ j, j < n → S'.2.2 2 j = lN 0)) := by
  refine Con.mk (own := RX6) (by decide) rfl (Nat.le_of_ble_eq_true rfl) (fun X C => ?_)
  have lp12 : ∀ (m : Nat) (i : Nat) (s : MS), n - i = m → i ≤ n → s.1 0 = x → s.1 1 = nI n → (∀ j, j < i → s.2.2 2 j = lN 0) → J X 4 0 0 (lBk zl G.2.1 s) 12 [(0, .ref (zl 50)), (2, .int (nI n)), (3, .int (nI i))] [] := by
    intro m
    induction m using Nat.strongRecOn with
    | ind m ilp12 =>
    intro i s hm hi h0 h1 h2
    refine j_iload_n 13 C dX6_begin_12 rfl rfl ?_
    refine j_iload_n 14 C dX6_begin_13 rfl rfl ?_
    refine j_icmp_geN 30 17 C dX6_begin_14 (by decide) rfl (by omega) (by omega) (fun c14 => ?_) (fun c14 => ?_)
    · exact j_vret C dX6_begin_30 (by refine ⟨_, ?_, rfl, rfl⟩; exact ⟨h0, h1, fun j hj => h2 j (by omega)⟩)
    · refine j_aload_n 18 C dX6_begin_17 rfl rfl ?_
      refine Llg_l2 21 C dX6_begin_18 rfl fl6_9 ?_
      refine j_iload_n 22 C dX6_begin_21 rfl rfl ?_
      refine j_lconst 23 C dX6_begin_22 rfl (v := lN 0) (by decide) ?_
      refine Lls_l2 24 C dX6_begin_23 rfl _ (by omega) rfl ?_
      refine j_iincN 27 (z := 1) C dX6_begin_24 rfl rfl rfl (by decide) ?_
      refine j_goto 12 C dX6_begin_27 (by decide) ?_
      exact j_weak _ (by exact ⟨rfl, rfl, rfl, trivial⟩) (ilp12 _ (by omega) (i + 1) _ rfl (by omega) h0 h1 (by rw [lS_at]; exact uzL h2))
  refine j_aload_n 1 C dX6_begin_0 rfl rfl ?_
  refine j_iload_n 2 C dX6_begin_1 rfl rfl ?_
  refine Llp_l0 5 C dX6_begin_2 rfl fl6_15 ?_
  refine j_aload_n 6 C dX6_begin_5 rfl rfl ?_
  refine j_iload_n 7 C dX6_begin_6 rfl rfl ?_
  refine Llp_l1 10 C dX6_begin_7 rfl fl6_19 ?_
  refine j_iconst 11 C dX6_begin_10 rfl (v := nI 0) (by decide) ?_
  refine j_istore_n 12 C dX6_begin_11 rfl rfl (by decide) ?_
  exact j_weak _ (by exact ⟨rfl, rfl, rfl, trivial⟩) (lp12 _ 0 _ rfl (Nat.zero_le _) rfl rfl (fun j hj => absurd hj (Nat.not_lt_zero _)))
theorem K6_reaches  : Con l G yX6_reaches cX6_reaches 3 (some .boolean) 1 0 0 [.ref (zl 50), .int x, .int y] (lBk zl G.2.1 Sl) (pI (bI (¬ x < 0 ∧ ¬ y < 0 ∧ x.toInt64 + y.toInt64 ≤ (Sl.1 1).toInt64)) (lBk zl G.2.1 Sl)) := by
  refine Con.mk (own := RX6) (by decide) rfl (Nat.le_of_ble_eq_true rfl) (fun X C => ?_)
  refine j_iload_n 1 C dX6_reaches_0 rfl rfl ?_
  refine j_if_lt 26 4 C dX6_reaches_1 (by decide) rfl (fun c1 => ?_) (fun c1 => ?_)
  · refine j_iconst 27 C dX6_reaches_26 rfl (v := nI 0) (by decide) ?_
    exact j_zret C dX6_reaches_27 rfl ⟨by rw [bI_f (fun z => z.1 c1)]; rfl, rfl⟩
  · refine j_iload_n 5 C dX6_reaches_4 rfl rfl ?_
    refine j_if_lt 26 8 C dX6_reaches_5 (by decide) rfl (fun c5 => ?_) (fun c5 => ?_)
    · refine j_iconst 27 C dX6_reaches_26 rfl (v := nI 0) (by decide) ?_
      exact j_zret C dX6_reaches_27 rfl ⟨by rw [bI_f (fun z => z.2.1 c5)]; rfl, rfl⟩
    · refine j_iload_n 9 C dX6_reaches_8 rfl rfl ?_
      refine j_i2l 10 C dX6_reaches_9 rfl ?_
      refine j_iload_n 11 C dX6_reaches_10 rfl rfl ?_
      refine j_i2l 12 C dX6_reaches_11 rfl ?_
      refine j_ladd 13 C dX6_reaches_12 rfl ?_
      refine j_aload_n 14 C dX6_reaches_13 rfl rfl ?_
      refine Llg_l1 17 C dX6_reaches_14 rfl fl6_19 ?_
      refine j_i2l 18 C dX6_reaches_17 rfl ?_
      refine j_lcmp 19 C dX6_reaches_18 rfl ?_
      refine j_if_gtL 26 22 C dX6_reaches_19 (by decide) rfl (fun c19 => ?_) (fun c19 => ?_)
      · refine j_iconst 27 C dX6_reaches_26 rfl (v := nI 0) (by decide) ?_
        exact j_zret C dX6_reaches_27 rfl ⟨by rw [bI_f (fun z => absurd c19 (Int64.not_lt.mpr z.2.2))]; rfl, rfl⟩
      · refine j_iconst 23 C dX6_reaches_22 rfl (v := nI 1) (by decide) ?_
        refine j_goto 27 C dX6_reaches_23 (by decide) ?_
        exact j_zret C dX6_reaches_27 rfl ⟨by rw [bI_t ⟨c1, c5, Int64.not_lt.mp c19⟩]; rfl, rfl⟩
theorem K6_cut {q : Nat} (hw : Sl.1 0 = nI q) (hq : q < 4) : Con l G yX6_cut cX6_cut 3 (some .long) 1 0 0 [.ref (zl 50), .long v] (lBk zl G.2.1 Sl) (pL (f_cut v (nI q)) (lBk zl G.2.1 Sl)) := by
  refine Con.mk (own := RX6) (by decide) rfl (Nat.le_of_ble_eq_true rfl) (fun X C => ?_)
  refine j_aload_n 1 C dX6_cut_0 rfl rfl ?_
  refine Llg_l0 4 C dX6_cut_1 rfl fl6_15 ?_
  refine j_top hw ?_
  obtain rfl | rfl | rfl | rfl : q = 0 ∨ q = 1 ∨ q = 2 ∨ q = 3 := by omega
  · refine j_tabIn 32 C dX6_cut_4 (by decide) (by decide) rfl (by decide) ?_
    refine j_lload_n 33 C dX6_cut_32 rfl rfl ?_
    refine j_l2i 34 C dX6_cut_33 rfl ?_
    refine j_i2b 35 C dX6_cut_34 rfl ?_
    refine j_i2l 36 C dX6_cut_35 rfl ?_
    exact j_lret C dX6_cut_36 ⟨by rw [fcut_sh (k := 56) (by decide), cut_0], rfl⟩
  · refine j_tabIn 37 C dX6_cut_4 (by decide) (by decide) rfl (by decide) ?_
    refine j_lload_n 38 C dX6_cut_37 rfl rfl ?_
    refine j_l2i 39 C dX6_cut_38 rfl ?_
    refine j_i2s 40 C dX6_cut_39 rfl ?_
    refine j_i2l 41 C dX6_cut_40 rfl ?_
    exact j_lret C dX6_cut_41 ⟨by rw [fcut_sh (k := 48) (by decide), cut_1], rfl⟩
  · refine j_tabIn 42 C dX6_cut_4 (by decide) (by decide) rfl (by decide) ?_
    refine j_lload_n 43 C dX6_cut_42 rfl rfl ?_
    refine j_l2i 44 C dX6_cut_43 rfl ?_
    refine j_i2l 45 C dX6_cut_44 rfl ?_
    exact j_lret C dX6_cut_45 ⟨by rw [fcut_sh (k := 32) (by decide), cut_2], rfl⟩
  · refine j_tabOut 46 C dX6_cut_4 (Or.inr (by decide)) (by decide) ?_
    refine j_lload_n 47 C dX6_cut_46 rfl rfl ?_
    exact j_lret C dX6_cut_47 ⟨by rw [fcut_sh (k := 0) (by decide), sh_0], rfl⟩
end SSl
