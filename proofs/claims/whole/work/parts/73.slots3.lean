section SN14
variable {l : Launch} {G : GG} {wd : Nat → Int32} {x y z : Int32} {zn zs zm zh zt zr zb zl : Nat → Nat} {Sn Ss Sm Sh St Sr Sb Sl : MS} {fi fs : Nat → Option Nat} {pa dk : Option Nat} {R : va_W}
theorem gt3 {y : Int32} (h : nI 3 < y) : nI 4 ≤ y := by
  rw [Int32.lt_iff_toInt_lt] at h; rw [Int32.le_iff_toInt_le]
  have h3 : (nI 3).toInt = 3 := by decide
  have h4 : (nI 4).toInt = 4 := by decide
  omega
theorem le60 {z : Int32} (h0 : 0 ≤ z) (h : z ≤ nI 60) : ∃ m, m ≤ 60 ∧ z = nI m := by
  obtain ⟨m, hm, rfl⟩ := nI_of (x := z) (fun q => by rw [Int32.le_iff_toInt_le] at h0; rw [Int32.lt_iff_toInt_lt] at q; omega)
  exact ⟨m, (nI_leI hm (by omega)).mp h, rfl⟩
theorem lt4 {y : Int32} (q : nI 4 ≤ y) : nI 3 < y := by
  rw [Int32.le_iff_toInt_le] at q; rw [Int32.lt_iff_toInt_lt]
  have h3 : (nI 3).toInt = 3 := by decide
  have h4 : (nI 4).toInt = 4 := by decide
  omega
theorem K10_rowS (hf1 : fs (tn x) = some (zl 50)) : Con l G yX10_row cX10_row 4 (some .int) 2 0 0 [.ref (zn 50), .int x, .int y, .int z] (nBk zn (zs 50) G.2.1 Sn fi fs pa dk ++ (sBk zs (zm 50) (zb 50) G.2.1 Ss ++ (mBk zm (zt 50) (zr 50) (zh 50) G.2.1 Sm ++ (hBk zh G.2.1 Sh ++ (tBk zt G.2.1 St ++ (rBk zr G.2.1 Sr ++ (bBk zb G.2.1 Sb ++ (lBk zl G.2.1 Sl ++ (R))))))))) (qI (fun s : MS => (nBk zn (zs 50) G.2.1 Sn fi fs pa dk ++ (sBk zs (zm 50) (zb 50) G.2.1 Ss ++ (mBk zm (zt 50) (zr 50) (zh 50) G.2.1 Sm ++ (hBk zh G.2.1 Sh ++ (tBk zt G.2.1 St ++ (rBk zr G.2.1 Sr ++ (bBk zb G.2.1 Sb ++ (lBk zl G.2.1 s ++ (R)))))))))) (fun v s => ((isI x 4 ∧ isI y 4 ∧ z ≤ nI 60) → 0 ≤ z → v = nI 0 ∧ s.1 0 = y ∧ s.1 1 = z ∧ ∀ j, j < tn z → s.2.2 2 j = lN 0) ∧ ((isI x 4 ∧ isI y 4 ∧ z ≤ nI 60) → ¬ 0 ≤ z → v = -3 ∧ s = Sl) ∧ (¬ (isI x 4 ∧ isI y 4 ∧ z ≤ nI 60) → v = -2 ∧ s = Sl))) := by
  refine Con.mk (own := RX10) (by decide) rfl (Nat.le_of_ble_eq_true rfl) (fun X C => ?_)
  refine j_iload_n 1 C dX10_row_0 rfl rfl ?_
  refine j_sI 4 C dX10_row_1 rfl cw10_224 K10_isSlot rfl (by decide) ⟨Nat.le_refl _, Nat.le_refl _⟩ rfl (Nat.le_of_ble_eq_true rfl) ?_
  refine j_if_eqB 22 7 C dX10_row_4 (by decide) rfl (fun c4 => ?_) (fun c4 => ?_)
  · refine j_bipush 24 C dX10_row_22 rfl (v := (-2)) (by decide) ?_
    exact j_iret C dX10_row_24 (by refine ⟨_, Sl, ?_, rfl, rfl⟩; exact ⟨fun q => absurd q (fun q => c4 q.1), fun q => absurd q (fun q => c4 q.1), fun _ => ⟨rfl, rfl⟩⟩)
  · obtain ⟨s, hs, rfl⟩ := isI_of c4
    rw [tn_nI (by omega)] at hf1
    refine j_iload_n 8 C dX10_row_7 rfl rfl ?_
    refine j_if_lt 22 11 C dX10_row_8 (by decide) rfl (fun c8 => ?_) (fun c8 => ?_)
    · refine j_bipush 24 C dX10_row_22 rfl (v := (-2)) (by decide) ?_
      exact j_iret C dX10_row_24 (by refine ⟨_, Sl, ?_, rfl, rfl⟩; exact ⟨fun q => absurd q (fun q => ((isI_iff (by omega)).mp q.2.1).1 c8), fun q => absurd q (fun q => ((isI_iff (by omega)).mp q.2.1).1 c8), fun _ => ⟨rfl, rfl⟩⟩)
    · refine j_iload_n 12 C dX10_row_11 rfl rfl ?_
      refine j_iconst 13 C dX10_row_12 rfl (v := nI 3) (by decide) ?_
      refine j_icmp_gt 22 16 C dX10_row_13 (by decide) rfl (fun c13 => ?_) (fun c13 => ?_)
      · refine j_bipush 24 C dX10_row_22 rfl (v := (-2)) (by decide) ?_
        exact j_iret C dX10_row_24 (by refine ⟨_, Sl, ?_, rfl, rfl⟩; exact ⟨fun q => absurd q (fun q => ((isI_iff (n := 4) (by omega)).mp q.2.1).2 (gt3 c13)), fun q => absurd q (fun q => ((isI_iff (n := 4) (by omega)).mp q.2.1).2 (gt3 c13)), fun _ => ⟨rfl, rfl⟩⟩)
      · refine j_iload_n 17 C dX10_row_16 rfl rfl ?_
        refine j_bipush 19 C dX10_row_17 rfl (v := nI 60) (by decide) ?_
        refine j_icmp_le 25 22 C dX10_row_19 (by decide) rfl (fun c19 => ?_) (fun c19 => ?_)
        · have hok : (isI (nI s) 4 ∧ isI y 4 ∧ z ≤ nI 60) := ⟨c4, (isI_iff (by omega)).mpr ⟨c8, fun q => c13 (lt4 q)⟩, c19⟩
          refine j_iload_n 26 C dX10_row_25 rfl rfl ?_
          refine j_if_ge 32 29 C dX10_row_26 (by decide) rfl (fun c26 => ?_) (fun c26 => ?_)
          · obtain ⟨m, hm, rfl⟩ := le60 c26 c19
            refine j_aload_n 33 C dX10_row_32 rfl rfl ?_
            refine Ug_n6 36 C dX10_row_33 rfl fl10_30 ?_
            refine j_iload_n 37 C dX10_row_36 rfl rfl ?_
            refine Ua_n6 38 C dX10_row_37 rfl _ (by omega) rfl ?_
            refine j_topV (v' := .ref (zl 50)) (by rw [hf1]; rfl) ?_
            refine j_ifnonnullR 54 C dX10_row_38 (by decide) ?_
            refine j_aload_n 55 C dX10_row_54 rfl rfl ?_
            refine Ug_n6 58 C dX10_row_55 rfl fl10_30 ?_
            refine j_iload_n 59 C dX10_row_58 rfl rfl ?_
            refine Ua_n6 60 C dX10_row_59 rfl _ (by omega) rfl ?_
            refine j_topV (v' := .ref (zl 50)) (by rw [hf1]; rfl) ?_
            refine j_iload_n 61 C dX10_row_60 rfl rfl ?_
            refine j_iload_n 62 C dX10_row_61 rfl rfl ?_
            refine Ur_lV 65 C dX10_row_62 rfl cw10_323 rfl (K6_begin hm) rfl (by decide) ⟨Nat.le_refl _, Nat.le_refl _⟩ rfl (Nat.le_of_ble_eq_true rfl) (fun s2 hs2 => ?_)
            refine j_iconst 66 C dX10_row_65 rfl (v := nI 0) (by decide) ?_
            exact j_iret C dX10_row_66 (by refine ⟨_, s2, ?_, rfl, rfl⟩; exact ⟨fun _ _ => ⟨rfl, hs2.1, hs2.2.1, by rw [tn_nI (by omega)]; exact hs2.2.2⟩, fun _ q => absurd c26 q, fun q => absurd hok q⟩)
          · refine j_bipush 31 C dX10_row_29 rfl (v := (-3)) (by decide) ?_
            exact j_iret C dX10_row_31 (by refine ⟨_, Sl, ?_, rfl, rfl⟩; exact ⟨fun _ q => absurd q c26, fun _ _ => ⟨rfl, rfl⟩, fun q => absurd hok q⟩)
        · refine j_bipush 24 C dX10_row_22 rfl (v := (-2)) (by decide) ?_
          exact j_iret C dX10_row_24 (by refine ⟨_, Sl, ?_, rfl, rfl⟩; exact ⟨fun q => absurd q (fun q => c19 q.2.2), fun q => absurd q (fun q => c19 q.2.2), fun _ => ⟨rfl, rfl⟩⟩)
/-- how many of the slots are filled -/
def fsN (fs : Nat → Option Nat) : Nat → Nat
  | 0 => 0
  | k + 1 => fsN fs k + (if (fs k).isSome then 1 else 0)
theorem fsN_le (fs : Nat → Option Nat) : ∀ k, fsN fs k ≤ k
  | 0 => Nat.le_refl _
  | k + 1 => by have := fsN_le fs k; rw [fsN]; split <;> omega
theorem K10_filledSlots  : Con l G yX10_filledSlots cX10_filledSlots 3 (some .int) 1 0 0 [.ref (zn 50)] (nBk zn (zs 50) G.2.1 Sn fi fs pa dk ++ (sBk zs (zm 50) (zb 50) G.2.1 Ss ++ (mBk zm (zt 50) (zr 50) (zh 50) G.2.1 Sm ++ (hBk zh G.2.1 Sh ++ (tBk zt G.2.1 St ++ (rBk zr G.2.1 Sr ++ (bBk zb G.2.1 Sb ++ (R)))))))) (pI (nI (fsN fs 4)) (nBk zn (zs 50) G.2.1 Sn fi fs pa dk ++ (sBk zs (zm 50) (zb 50) G.2.1 Ss ++ (mBk zm (zt 50) (zr 50) (zh 50) G.2.1 Sm ++ (hBk zh G.2.1 Sh ++ (tBk zt G.2.1 St ++ (rBk zr G.2.1 Sr ++ (bBk zb G.2.1 Sb ++ (R))))))))) := by
  refine Con.mk (own := RX10) (by decide) rfl (Nat.le_of_ble_eq_true rfl) (fun X C => ?_)
  have lp4 : ∀ (m : Nat) (i m2 : Nat), 4 - i = m → i ≤ 4 → m2 = fsN fs i → J X 3 0 0 (nBk zn (zs 50) G.2.1 Sn fi fs pa dk ++ (sBk zs (zm 50) (zb 50) G.2.1 Ss ++ (mBk zm (zt 50) (zr 50) (zh 50) G.2.1 Sm ++ (hBk zh G.2.1 Sh ++ (tBk zt G.2.1 St ++ (rBk zr G.2.1 Sr ++ (bBk zb G.2.1 Sb ++ (R)))))))) 4 [(0, .ref (zn 50)), (1, .int (nI m2)), (2, .int (nI i))] [] := by
    intro m
    induction m using Nat.strongRecOn with
    | ind m ilp4 =>
    intro i m2 hm hi hm2
    refine j_iload_n 5 C dX10_filledSlots_4 rfl rfl ?_
    refine j_iconst 6 C dX10_filledSlots_5 rfl (v := nI 4) (by decide) ?_
    refine j_icmp_geN 27 9 C dX10_filledSlots_6 (by decide) rfl (by omega) (by omega) (fun c6 => ?_) (fun c6 => ?_)
    · refine j_iload_n 28 C dX10_filledSlots_27 rfl rfl ?_
      exact j_iret C dX10_filledSlots_28 ⟨by rw [hm2, show i = 4 by omega], rfl⟩
    · refine j_aload_n 10 C dX10_filledSlots_9 rfl rfl ?_
      refine Lng_n6 13 C dX10_filledSlots_10 rfl fl10_30 ?_
      refine j_iload_n 14 C dX10_filledSlots_13 rfl rfl ?_
      cases hfi : fs i with
      | none =>
        refine Lna_n6 15 C dX10_filledSlots_14 rfl _ (by omega) rfl ?_
        refine j_topV (v' := .null) (by rw [hfi]; rfl) ?_
        refine j_ifnullN 21 C dX10_filledSlots_15 (by decide) ?_
        refine j_iincN 24 (z := 1) C dX10_filledSlots_21 rfl rfl rfl (by decide) ?_
        refine j_goto 4 C dX10_filledSlots_24 (by decide) ?_
        exact j_weak _ (by exact ⟨rfl, rfl, rfl, trivial⟩) (ilp4 (4 - (i + 1)) (by omega) (i + 1) m2 rfl (by omega) (by rw [fsN, hfi, hm2]; rfl))
      | some a =>
        refine Lna_n6 15 C dX10_filledSlots_14 rfl _ (by omega) rfl ?_
        refine j_topV (v' := .ref a) (by rw [hfi]; rfl) ?_
        refine j_ifnullR 18 C dX10_filledSlots_15 rfl ?_
        refine j_iincN 21 (z := 1) C dX10_filledSlots_18 rfl rfl rfl (by decide) ?_
        refine j_iincN 24 (z := 1) C dX10_filledSlots_21 rfl rfl rfl (by decide) ?_
        refine j_goto 4 C dX10_filledSlots_24 (by decide) ?_
        exact j_weak _ (by exact ⟨rfl, rfl, rfl, trivial⟩) (ilp4 (4 - (i + 1)) (by omega) (i + 1) (m2 + 1) rfl (by omega) (by rw [fsN, hfi, hm2]; rfl))
  refine j_iconst 1 C dX10_filledSlots_0 rfl (v := nI 0) (by decide) ?_
  refine j_istore_n 2 C dX10_filledSlots_1 rfl rfl (by decide) ?_
  refine j_iconst 3 C dX10_filledSlots_2 rfl (v := nI 0) (by decide) ?_
  refine j_istore_n 4 C dX10_filledSlots_3 rfl rfl (by decide) ?_
  exact j_weak _ (by exact ⟨rfl, rfl, rfl, trivial⟩) (lp4 _ 0 0 rfl (Nat.zero_le _) rfl)
end SN14
