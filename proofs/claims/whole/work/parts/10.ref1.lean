theorem bI_iff {p q : Prop} [Decidable p] [Decidable q] (h : p ↔ q) : bI p = bI q := by
  by_cases hp : p
  · rw [bI_t hp, bI_t (h.mp hp)]
  · rw [bI_f hp, bI_f (fun hq => hp (h.mpr hq))]
theorem t64 (x : Int32) : x.toInt64.toInt = x.toInt := Int32.toInt_toInt64 x
theorem le64 (x y : Int64) : x ≤ y ↔ x.toInt ≤ y.toInt := Int64.le_iff_toInt_le
/-- x is one of 0 .. n-1 -/
abbrev isI (x : Int32) (n : Nat) : Prop := 0 ≤ x.toInt ∧ x.toInt < (n : Int)
theorem isI_of {x : Int32} {n : Nat} (h : isI x n) : ∃ j, j < n ∧ x = nI j := by
  refine ⟨x.toNatClampNeg, ?_, ?_⟩
  · have h1 : (x.toNatClampNeg : Int) = x.toInt := by
      have := h.1
      rw [Int32.toNatClampNeg]; omega
    have := h.2; omega
  · apply Int32.toInt_inj.mp
    have h1 : (x.toNatClampNeg : Int) = x.toInt := by
      have := h.1
      rw [Int32.toNatClampNeg]; omega
    have h2 : x.toInt < 2 ^ 31 := Int32.toInt_lt x
    rw [nI_toInt (by omega), h1]
theorem isI_nI {j n : Nat} (h : j < n) (hn : n < 2 ^ 31) : isI (nI j) n := by
  rw [isI, nI_toInt (by omega)]; omega
section S1
variable {l : Launch} {G : GG} {o : Nat} {ad : Nat → Nat} {M : MS}
theorem c_in (v a b : Int64) : Con l G yX11_in cX11_in 6 (some .boolean) 1 0 0 [.long v, .long a, .long b] [] (pI (bI (a ≤ v ∧ v ≤ b)) []) := by
  refine Con.mk (own := RX11) (by decide) rfl (Nat.le_of_ble_eq_true rfl) (fun X C => ?_)
  refine j_lload_n 1 C dX11_in_0 rfl rfl ?_
  refine j_lload_n 2 C dX11_in_1 rfl rfl ?_
  refine j_lcmp 3 C dX11_in_2 rfl ?_
  refine j_if_ltL 17 6 C dX11_in_3 (by decide) rfl (fun c3 => ?_) (fun c3 => ?_)
  · have hh : bI (a ≤ v ∧ v ≤ b) = 0 := bI_f (fun h => absurd h.1 (Int64.not_le.mpr c3))
    refine j_iconst 18 C dX11_in_17 rfl (v := nI 0) (by decide) ?_
    exact j_zret C dX11_in_18 rfl ⟨by rw [hh]; rfl, rfl⟩
  · refine j_lload_n 7 C dX11_in_6 rfl rfl ?_
    refine j_lload 9 C dX11_in_7 rfl rfl ?_
    refine j_lcmp 10 C dX11_in_9 rfl ?_
    refine j_if_gtL 17 13 C dX11_in_10 (by decide) rfl (fun c10 => ?_) (fun c10 => ?_)
    · have hh : bI (a ≤ v ∧ v ≤ b) = 0 := bI_f (fun h => absurd h.2 (Int64.not_le.mpr c10))
      refine j_iconst 18 C dX11_in_17 rfl (v := nI 0) (by decide) ?_
      exact j_zret C dX11_in_18 rfl ⟨by rw [hh]; rfl, rfl⟩
    · have hh : bI (a ≤ v ∧ v ≤ b) = 1 := bI_t ⟨Int64.not_lt.mp c3, Int64.not_lt.mp c10⟩
      refine j_iconst 14 C dX11_in_13 rfl (v := nI 1) (by decide) ?_
      refine j_goto 18 C dX11_in_14 (by decide) ?_
      exact j_zret C dX11_in_18 rfl ⟨by rw [hh]; rfl, rfl⟩
theorem pk_sub_toInt' {m : Nat} (hm : m < 2 ^ 31) : (nI m - nI 1).toInt = (m : Int) - 1 := by
  cases m with
  | zero => decide
  | succ j => rw [pk_sub (by omega), nI_toInt (by omega)]; omega
theorem in_less {x : Int32} {m : Nat} (hm : m < 2 ^ 31) : (lN 0 ≤ x.toInt64 ∧ x.toInt64 ≤ (nI m - nI 1).toInt64) ↔ isI x m := by
  rw [le64, le64, t64, t64, pk_sub_toInt' hm]
  show (0 : Int) ≤ x.toInt ∧ x.toInt ≤ (m : Int) - 1 ↔ 0 ≤ x.toInt ∧ x.toInt < (m : Int)
  omega
theorem c_isRow (r : Int32) {nr : Nat} (hw : M.2.1 1 2 = nI nr) (hr : nr < 2 ^ 31) : Con l G yX11_isRow cX11_isRow 2 (some .boolean) 2 0 0 [.ref o, .int r] (mw o ad G.2.1 M) (pI (bI (isI r nr)) (mw o ad G.2.1 M)) := by
  refine Con.mk (own := RX11) (by decide) rfl (Nat.le_of_ble_eq_true rfl) (fun X C => ?_)
  refine j_iload_n 1 C dX11_isRow_0 rfl rfl ?_
  refine j_i2l 2 C dX11_isRow_1 rfl ?_
  refine j_lconst 3 C dX11_isRow_2 rfl (v := lN 0) (by decide) ?_
  refine j_aload_n 4 C dX11_isRow_3 rfl rfl ?_
  refine rg_world 7 C dX11_isRow_4 rfl ?_
  refine j_iconst 8 C dX11_isRow_7 rfl (v := nI 2) (by decide) ?_
  refine ra_world 9 C dX11_isRow_8 rfl _ (by omega) rfl ?_
  rw [hw]
  refine j_iconst 10 C dX11_isRow_9 rfl (v := nI 1) (by decide) ?_
  refine j_isub 11 C dX11_isRow_10 rfl ?_
  refine j_i2l 12 C dX11_isRow_11 rfl ?_
  refine j_sI 15 C dX11_isRow_12 rfl cw11_88 (c_in _ _ _) rfl (by decide) ⟨Nat.le_refl _, Nat.le_refl _⟩ rfl (Nat.le_of_ble_eq_true rfl) ?_
  exact j_zret C dX11_isRow_15 (bI_nar _) ⟨congrArg (fun z => some (Value.int z)) (bI_iff (in_less hr)), rfl⟩
theorem c_isThing (r : Int32) {nt : Nat} (hw : M.2.1 1 1 = nI nt) (hr : nt < 2 ^ 31) : Con l G yX11_isThing cX11_isThing 2 (some .boolean) 2 0 0 [.ref o, .int r] (mw o ad G.2.1 M) (pI (bI (isI r nt)) (mw o ad G.2.1 M)) := by
  refine Con.mk (own := RX11) (by decide) rfl (Nat.le_of_ble_eq_true rfl) (fun X C => ?_)
  refine j_iload_n 1 C dX11_isThing_0 rfl rfl ?_
  refine j_i2l 2 C dX11_isThing_1 rfl ?_
  refine j_lconst 3 C dX11_isThing_2 rfl (v := lN 0) (by decide) ?_
  refine j_aload_n 4 C dX11_isThing_3 rfl rfl ?_
  refine rg_world 7 C dX11_isThing_4 rfl ?_
  refine j_iconst 8 C dX11_isThing_7 rfl (v := nI 1) (by decide) ?_
  refine ra_world 9 C dX11_isThing_8 rfl _ (by omega) rfl ?_
  rw [hw]
  refine j_iconst 10 C dX11_isThing_9 rfl (v := nI 1) (by decide) ?_
  refine j_isub 11 C dX11_isThing_10 rfl ?_
  refine j_i2l 12 C dX11_isThing_11 rfl ?_
  refine j_sI 15 C dX11_isThing_12 rfl cw11_88 (c_in _ _ _) rfl (by decide) ⟨Nat.le_refl _, Nat.le_refl _⟩ rfl (Nat.le_of_ble_eq_true rfl) ?_
  exact j_zret C dX11_isThing_15 (bI_nar _) ⟨congrArg (fun z => some (Value.int z)) (bI_iff (in_less hr)), rfl⟩
theorem c_manyOf (r : Nat) (hr : r < 12) : Con l G yX11_manyOf cX11_manyOf 2 (some .int) 1 0 0 [.ref o, .int (nI r)] (mw o ad G.2.1 M) (pI (M.2.1 1 (34 + 14 * r)) (mw o ad G.2.1 M)) := by
  refine Con.mk (own := RX11) (by decide) rfl (Nat.le_of_ble_eq_true rfl) (fun X C => ?_)
  refine j_aload_n 1 C dX11_manyOf_0 rfl rfl ?_
  refine rg_world 4 C dX11_manyOf_1 rfl ?_
  refine j_bipush 6 C dX11_manyOf_4 rfl (v := nI 34) (by decide) ?_
  refine j_bipush 8 C dX11_manyOf_6 rfl (v := nI 14) (by decide) ?_
  refine j_iload_n 9 C dX11_manyOf_8 rfl rfl ?_
  refine j_imulN 10 C dX11_manyOf_9 rfl ?_
  refine j_iaddN 11 C dX11_manyOf_10 rfl ?_
  refine ra_world 12 C dX11_manyOf_11 rfl _ (by omega) rfl ?_
  exact j_iret C dX11_manyOf_12 ⟨rfl, rfl⟩
theorem c_thingOf (r i : Nat) (hr : r < 12) (hi : i < 12) : Con l G yX11_thingOf cX11_thingOf 3 (some .int) 1 0 0 [.ref o, .int (nI r), .int (nI i)] (mw o ad G.2.1 M) (pI (M.2.1 1 (34 + 14 * r + 1 + i)) (mw o ad G.2.1 M)) := by
  refine Con.mk (own := RX11) (by decide) rfl (Nat.le_of_ble_eq_true rfl) (fun X C => ?_)
  refine j_aload_n 1 C dX11_thingOf_0 rfl rfl ?_
  refine rg_world 4 C dX11_thingOf_1 rfl ?_
  refine j_bipush 6 C dX11_thingOf_4 rfl (v := nI 34) (by decide) ?_
  refine j_bipush 8 C dX11_thingOf_6 rfl (v := nI 14) (by decide) ?_
  refine j_iload_n 9 C dX11_thingOf_8 rfl rfl ?_
  refine j_imulN 10 C dX11_thingOf_9 rfl ?_
  refine j_iaddN 11 C dX11_thingOf_10 rfl ?_
  refine j_iconst 12 C dX11_thingOf_11 rfl (v := nI 1) (by decide) ?_
  refine j_iaddN 13 C dX11_thingOf_12 rfl ?_
  refine j_iload_n 14 C dX11_thingOf_13 rfl rfl ?_
  refine j_iaddN 15 C dX11_thingOf_14 rfl ?_
  refine ra_world 16 C dX11_thingOf_15 rfl _ (by omega) rfl ?_
  exact j_iret C dX11_thingOf_16 ⟨rfl, rfl⟩
end S1
