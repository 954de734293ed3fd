def f_one (wd : Nat → Int32) (cl cv : Int32) (r n w dd : Nat) (h : Nat → Int32) : Nat → (Nat → Int32)
  | 0 => h
  | d + 1 => f_hours wd cl cv 24 (if (w = 1 ∧ d = 0) ∨ (¬ w = 1 ∧ d = dd - 1) then f_readsN wd cl cv r n (f_one wd cl cv r n w dd h d) else f_one wd cl cv r n w dd h d)
def zf (wd : Nat → Int32) (k j : Nat) : Nat → Int32 := fun x => if k ≤ x ∧ x < k + j then nI 0 else wd x
theorem zf_0 (wd : Nat → Int32) (k : Nat) : zf wd k 0 = wd := by funext x; unfold zf; rw [if_neg (by omega)]
theorem zf_step (wd : Nat → Int32) (k j : Nat) : upd (zf wd k j) (k + j) (nI 0) = zf wd k (j + 1) := by
  funext x
  unfold upd zf
  by_cases e : x = k + j
  · rw [if_pos e, if_pos (by omega)]
  · rw [if_neg e]
    by_cases e2 : k ≤ x ∧ x < k + j
    · rw [if_pos e2, if_pos (by omega)]
    · rw [if_neg e2, if_neg (by omega)]
/-- a new ROW of the first n of md -/
def f_mk (wd md : Nat → Int32) (n : Nat) : Nat → Int32 := upd (va_cpy md (upd (zf wd (34 + 14 * nrw wd) 14) (34 + 14 * nrw wd) (nI n)) 0 (34 + 14 * nrw wd + 1) n) 2 (nI (nrw wd + 1))
def f_bw (wd md : Nat → Int32) (r : Nat) : Nat → (Nat → Int32)
  | 0 => md
  | i + 1 => upd (f_bw wd md r i) i (wd (34 + 14 * r + 1 + (len wd r - 1 - i)))
def shC (m k f : Nat) : Nat := (m - f + k) / (k + 1)
def shN (m k : Nat) : Nat → Nat
  | 0 => 0
  | f + 1 => shN m k f + shC m k f
def f_sI (wd : Nat → Int32) (r k f : Nat) (md : Nat → Int32) : Nat → (Nat → Int32)
  | 0 => md
  | t + 1 => upd (f_sI wd r k f md t) (shN (len wd r) k f + t) (wd (34 + 14 * r + 1 + (f + t * (k + 1))))
def f_sO (wd : Nat → Int32) (r k : Nat) (md : Nat → Int32) : Nat → (Nat → Int32)
  | 0 => md
  | f + 1 => f_sI wd r k f (f_sO wd r k md f) (shC (len wd r) k f)
theorem sh_dec : (List.range 13).all (fun m => (List.range 4).all (fun k => (List.range 4).all (fun f => (List.range 13).all (fun t => (!(decide (f ≤ k ∧ f + t * (k + 1) < m)) || decide (shN m k f + t < m ∧ t < shC m k f)) && (!(decide (f ≤ k ∧ m ≤ f + t * (k + 1) ∧ t ≤ shC m k f)) || decide (t = shC m k f)))))) = true := by decide +kernel
theorem sh_end : (List.range 13).all (fun m => (List.range 4).all (fun k => decide (shN m k (k + 1) = m) || decide (k = 0))) = true := by decide +kernel
theorem sh_in {m k f t : Nat} (hm : m < 13) (hk : k < 4) (hf : f ≤ k) (ht : f + t * (k + 1) < m) : shN m k f + t < m ∧ t < shC m k f := by
  have h0 : t < 13 := by
    have : t ≤ t * (k + 1) := Nat.le_mul_of_pos_right t (by omega)
    omega
  have h := sh_dec
  have h1 := List.all_eq_true.mp h m (List.mem_range.mpr hm)
  have h2 := List.all_eq_true.mp h1 k (List.mem_range.mpr hk)
  have h3 := List.all_eq_true.mp h2 f (List.mem_range.mpr (by omega))
  have h4 := List.all_eq_true.mp h3 t (List.mem_range.mpr h0)
  simp only [Bool.and_eq_true, Bool.or_eq_true, Bool.not_eq_true', decide_eq_false_iff_not, decide_eq_true_eq] at h4
  rcases h4.1 with h5 | h5
  · exact absurd ⟨hf, ht⟩ h5
  · exact h5
theorem sh_out {m k f t : Nat} (hm : m < 13) (hk : k < 4) (hf : f ≤ k) (ht : m ≤ f + t * (k + 1)) (htc : t ≤ shC m k f) (h0 : t < 13) : t = shC m k f := by
  have h := sh_dec
  have h1 := List.all_eq_true.mp h m (List.mem_range.mpr hm)
  have h2 := List.all_eq_true.mp h1 k (List.mem_range.mpr hk)
  have h3 := List.all_eq_true.mp h2 f (List.mem_range.mpr (by omega))
  have h4 := List.all_eq_true.mp h3 t (List.mem_range.mpr h0)
  simp only [Bool.and_eq_true, Bool.or_eq_true, Bool.not_eq_true', decide_eq_false_iff_not, decide_eq_true_eq] at h4
  rcases h4.2 with h5 | h5
  · exact absurd ⟨hf, ht, htc⟩ h5
  · exact h5
theorem sh_tot {m k : Nat} (hm : m < 13) (hk : k < 4) (h1 : 1 ≤ k) : shN m k (k + 1) = m := by
  have h2 := List.all_eq_true.mp sh_end m (List.mem_range.mpr hm)
  have h3 := List.all_eq_true.mp h2 k (List.mem_range.mpr hk)
  simp only [Bool.or_eq_true, decide_eq_true_eq] at h3
  omega
/-- the place of a THING in a ROW -/
def f_pin (wd : Nat → Int32) (r : Nat) (t : Int32) : Nat → Nat → Int32
  | 0, _ => -1
  | m + 1, i => if wd (34 + 14 * r + 1 + i) = t then nI i else f_pin wd r t m (i + 1)
def f_pl0 (wd : Nat → Int32) (r : Nat) (t : Int32) : Int32 := f_pin wd r t (len wd r) 0
def f_nr (wd : Nat → Int32) (r r2 : Nat) (off t : Int32) : Nat → Int32
  | 0 => nI 0
  | i + 1 => f_nr wd r r2 off t i + bI (¬ f_pl0 wd r2 (wd (34 + 14 * r + 1 + i)) = -1 ∧ ¬ f_pl0 wd r2 (wd (34 + 14 * r + 1 + (i + 1))) = -1 ∧ (if t = 0 then f_pl0 wd r2 (wd (34 + 14 * r + 1 + (i + 1))) - f_pl0 wd r2 (wd (34 + 14 * r + 1 + i)) else f_pl0 wd r2 (wd (34 + 14 * r + 1 + i)) - f_pl0 wd r2 (wd (34 + 14 * r + 1 + (i + 1)))) = off)
section S11
variable {l : Launch} {G : GG} {o : Nat} {ad : Nat → Nat} {M : MS} {h g : Nat → Int32} {c : Nat}
theorem c_isSlot (s : Int32) : Con l G yX11_isSlot cX11_isSlot 1 (some .boolean) 2 0 0 [.int s] [] (pI (bI (isI s 4)) []) := by
  refine Con.mk (own := RX11) (by decide) rfl (Nat.le_of_ble_eq_true rfl) (fun X C => ?_)
  refine j_iload_n 1 C dX11_isSlot_0 rfl rfl ?_
  refine j_i2l 2 C dX11_isSlot_1 rfl ?_
  refine j_lconst 3 C dX11_isSlot_2 rfl (v := lN 0) (by decide) ?_
  refine j_ldc2 6 C dX11_isSlot_3 rfl (v := (3)) kc11_251 ?_
  refine j_sI 9 C dX11_isSlot_6 rfl cw11_88 (c_in _ _ _) rfl (by decide) ⟨Nat.le_refl _, Nat.le_refl _⟩ rfl (Nat.le_of_ble_eq_true rfl) ?_
  rw [bI_iff (in_c (n := 4) (by decide))]
  exact j_zret C dX11_isSlot_9 (bI_nar _) ⟨rfl, rfl⟩
theorem c_thing (row i : Int32) (hWF : WF (M.2.1 1)) : Con l G yX11_thing cX11_thing 3 (some .int) 3 0 0 [.ref o, .int row, .int i] (mw o ad G.2.1 M) (pI (if isI row (nrw (M.2.1 1)) then (if isI i (len (M.2.1 1) (tn row)) then (M.2.1 1) (34 + 14 * tn row + 1 + tn i) else -1) else -2) (mw o ad G.2.1 M)) := by
  refine Con.mk (own := RX11) (by decide) rfl (Nat.le_of_ble_eq_true rfl) (fun X C => ?_)
  refine j_aload_n 1 C dX11_thing_0 rfl rfl ?_
  refine j_iload_n 2 C dX11_thing_1 rfl rfl ?_
  refine j_mI 5 C dX11_thing_2 rfl cw11_315 rfl (c_isRow _ hWF.2.2.1.1 (Nat.lt_of_le_of_lt hWF.2.2.1.2 (by decide))) rfl (by decide) rfl (Nat.le_of_ble_eq_true rfl) ?_
  refine j_if_neB 11 8 C dX11_thing_5 (by decide) rfl (fun c5 => ?_) (fun c5 => ?_)
  · obtain ⟨r, hr, rfl⟩ := isI_of c5
    have hr12 : r < 12 := Nat.lt_of_lt_of_le hr hWF.2.2.1.2
    obtain ⟨⟨hlen, hl2, hl12⟩, hth⟩ := hWF.2.2.2 r hr
    have hnr12 := hWF.2.2.1.2
    refine j_iload_n 12 C dX11_thing_11 rfl rfl ?_
    refine j_i2l 13 C dX11_thing_12 rfl ?_
    refine j_lconst 14 C dX11_thing_13 rfl (v := lN 0) (by decide) ?_
    refine j_aload_n 15 C dX11_thing_14 rfl rfl ?_
    refine j_iload_n 16 C dX11_thing_15 rfl rfl ?_
    refine j_mI 19 C dX11_thing_16 rfl cw11_278 rfl (c_manyOf r hr12) rfl (by decide) rfl (Nat.le_of_ble_eq_true rfl) ?_
    rw [hlen]
    refine j_iconst 20 C dX11_thing_19 rfl (v := nI 1) (by decide) ?_
    refine j_isub 21 C dX11_thing_20 rfl ?_
    refine j_i2l 22 C dX11_thing_21 rfl ?_
    refine j_sI 25 C dX11_thing_22 rfl cw11_88 (c_in _ _ _) rfl (by decide) ⟨Nat.le_refl _, Nat.le_refl _⟩ rfl (Nat.le_of_ble_eq_true rfl) ?_
    rw [bI_iff (in_less (by omega))]
    refine j_if_eqB 37 28 C dX11_thing_25 (by decide) rfl (fun c25 => ?_) (fun c25 => ?_)
    · refine j_iconst 38 C dX11_thing_37 rfl (v := (-1)) (by decide) ?_
      exact j_iret C dX11_thing_38 ⟨by rw [if_pos c5, tn_nI (by omega), if_neg c25], rfl⟩
    · obtain ⟨i, hi, rfl⟩ := isI_of c25
      refine j_aload_n 29 C dX11_thing_28 rfl rfl ?_
      refine j_iload_n 30 C dX11_thing_29 rfl rfl ?_
      refine j_iload_n 31 C dX11_thing_30 rfl rfl ?_
      refine j_mI 34 C dX11_thing_31 rfl cw11_281 rfl (c_thingOf r i hr12 (by omega)) rfl (by decide) rfl (Nat.le_of_ble_eq_true rfl) ?_
      refine j_goto 38 C dX11_thing_34 (by decide) ?_
      exact j_iret C dX11_thing_38 ⟨by rw [if_pos c5, tn_nI (by omega), if_pos c25, tn_nI (by omega)], rfl⟩
  · refine j_bipush 10 C dX11_thing_8 rfl (v := (-2)) (by decide) ?_
    exact j_iret C dX11_thing_10 ⟨by rw [if_neg c5], rfl⟩
theorem c_used (row : Int32) (hWF : WF (M.2.1 1)) : Con l G yX11_used cX11_used 2 (some .int) 3 0 0 [.ref o, .int row] (mw o ad G.2.1 M) (pI (if isI row (nrw (M.2.1 1)) then (M.2.1 1) (34 + 14 * tn row + 1 + 12) else -2) (mw o ad G.2.1 M)) := by
  refine Con.mk (own := RX11) (by decide) rfl (Nat.le_of_ble_eq_true rfl) (fun X C => ?_)
  refine j_aload_n 1 C dX11_used_0 rfl rfl ?_
  refine j_iload_n 2 C dX11_used_1 rfl rfl ?_
  refine j_mI 5 C dX11_used_2 rfl cw11_315 rfl (c_isRow _ hWF.2.2.1.1 (Nat.lt_of_le_of_lt hWF.2.2.1.2 (by decide))) rfl (by decide) rfl (Nat.le_of_ble_eq_true rfl) ?_
  refine j_if_eqB 28 8 C dX11_used_5 (by decide) rfl (fun c5 => ?_) (fun c5 => ?_)
  · refine j_bipush 30 C dX11_used_28 rfl (v := (-2)) (by decide) ?_
    exact j_iret C dX11_used_30 ⟨by rw [if_neg c5], rfl⟩
  · obtain ⟨r, hr, rfl⟩ := isI_of c5
    have hr12 : r < 12 := Nat.lt_of_lt_of_le hr hWF.2.2.1.2
    obtain ⟨⟨hlen, hl2, hl12⟩, hth⟩ := hWF.2.2.2 r hr
    have hnr12 := hWF.2.2.1.2
    refine j_aload_n 9 C dX11_used_8 rfl rfl ?_
    refine rg_world 12 C dX11_used_9 rfl ?_
    refine j_bipush 14 C dX11_used_12 rfl (v := nI 34) (by decide) ?_
    refine j_bipush 16 C dX11_used_14 rfl (v := nI 14) (by decide) ?_
    refine j_iload_n 17 C dX11_used_16 rfl rfl ?_
    refine j_imulN 18 C dX11_used_17 rfl ?_
    refine j_iaddN 19 C dX11_used_18 rfl ?_
    refine j_iconst 20 C dX11_used_19 rfl (v := nI 1) (by decide) ?_
    refine j_iaddN 21 C dX11_used_20 rfl ?_
    refine j_bipush 23 C dX11_used_21 rfl (v := nI 12) (by decide) ?_
    refine j_iaddN 24 C dX11_used_23 rfl ?_
    refine ra_world 25 C dX11_used_24 rfl _ (by omega) rfl ?_
    refine j_goto 30 C dX11_used_25 (by decide) ?_
    exact j_iret C dX11_used_30 ⟨by rw [if_pos c5, tn_nI (by omega)], rfl⟩
theorem c_sitting (i what : Int32) {n : Nat} (hn : M.1 3 = nI n) (hn60 : n ≤ 60) : Con l G yX11_sitting cX11_sitting 3 (some .int) 2 0 0 [.ref o, .int i, .int what] (mw o ad G.2.1 M) (pI (if isI i n ∧ isI what 5 then M.2.1 5 (6 * tn i + tn what) else -1) (mw o ad G.2.1 M)) := by
  refine Con.mk (own := RX11) (by decide) rfl (Nat.le_of_ble_eq_true rfl) (fun X C => ?_)
  refine j_iload_n 1 C dX11_sitting_0 rfl rfl ?_
  refine j_i2l 2 C dX11_sitting_1 rfl ?_
  refine j_lconst 3 C dX11_sitting_2 rfl (v := lN 0) (by decide) ?_
  refine j_aload_n 4 C dX11_sitting_3 rfl rfl ?_
  refine rg_sittings 7 C dX11_sitting_4 rfl ?_
  rw [hn]
  refine j_iconst 8 C dX11_sitting_7 rfl (v := nI 1) (by decide) ?_
  refine j_isub 9 C dX11_sitting_8 rfl ?_
  refine j_i2l 10 C dX11_sitting_9 rfl ?_
  refine j_sI 13 C dX11_sitting_10 rfl cw11_88 (c_in _ _ _) rfl (by decide) ⟨Nat.le_refl _, Nat.le_refl _⟩ rfl (Nat.le_of_ble_eq_true rfl) ?_
  rw [bI_iff (in_less (by omega))]
  refine j_if_eqB 42 16 C dX11_sitting_13 (by decide) rfl (fun c13 => ?_) (fun c13 => ?_)
  · refine j_iconst 43 C dX11_sitting_42 rfl (v := (-1)) (by decide) ?_
    exact j_iret C dX11_sitting_43 ⟨by rw [if_neg (fun z => c13 z.1)], rfl⟩
  · obtain ⟨j, hj, rfl⟩ := isI_of c13
    refine j_iload_n 17 C dX11_sitting_16 rfl rfl ?_
    refine j_i2l 18 C dX11_sitting_17 rfl ?_
    refine j_lconst 19 C dX11_sitting_18 rfl (v := lN 0) (by decide) ?_
    refine j_ldc2 22 C dX11_sitting_19 rfl (v := (4)) kc11_359 ?_
    refine j_sI 25 C dX11_sitting_22 rfl cw11_88 (c_in _ _ _) rfl (by decide) ⟨Nat.le_refl _, Nat.le_refl _⟩ rfl (Nat.le_of_ble_eq_true rfl) ?_
    rw [bI_iff (in_c (n := 5) (by decide))]
    refine j_if_eqB 42 28 C dX11_sitting_25 (by decide) rfl (fun c25 => ?_) (fun c25 => ?_)
    · refine j_iconst 43 C dX11_sitting_42 rfl (v := (-1)) (by decide) ?_
      exact j_iret C dX11_sitting_43 ⟨by rw [if_neg (fun z => c25 z.2)], rfl⟩
    · obtain ⟨q, hq, rfl⟩ := isI_of c25
      refine j_aload_n 29 C dX11_sitting_28 rfl rfl ?_
      refine rg_book 32 C dX11_sitting_29 rfl ?_
      refine j_bipush 34 C dX11_sitting_32 rfl (v := nI 6) (by decide) ?_
      refine j_iload_n 35 C dX11_sitting_34 rfl rfl ?_
      refine j_imulN 36 C dX11_sitting_35 rfl ?_
      refine j_iload_n 37 C dX11_sitting_36 rfl rfl ?_
      refine j_iaddN 38 C dX11_sitting_37 rfl ?_
      refine ra_book 39 C dX11_sitting_38 rfl _ (by omega) rfl ?_
      refine j_goto 43 C dX11_sitting_39 (by decide) ?_
      exact j_iret C dX11_sitting_43 ⟨by rw [if_pos ⟨c13, c25⟩, tn_nI (by omega), tn_nI (by omega)], rfl⟩
set_option maxHeartbeats 2000000 in
theorem c_makes (n : Nat) (hn : n ≤ 12) (hr : nrw (M.2.1 1) < 12) (hWF : WF (M.2.1 1)) : Con l G yX11_makes cX11_makes 5 (some .int) 1 0 0 [.ref o, .int (nI n)] (mw o ad G.2.1 M) (pI (nI (nrw (M.2.1 1))) (mw o ad G.2.1 (aR M 1 (f_mk (M.2.1 1) (M.2.1 30) n)))) := by
  refine Con.mk (own := RX11) (by decide) rfl (Nat.le_of_ble_eq_true rfl) (fun X C => ?_)
  have lp18 : ∀ (m : Nat) (j : Nat), 14 - j = m → j ≤ 14 → J X 5 0 0 (mw o ad G.2.1 (aR M 1 (zf (M.2.1 1) (34 + 14 * nrw (M.2.1 1)) j))) 18 [(0, .ref o), (1, .int (nI n)), (2, .int (nI (nrw (M.2.1 1)))), (3, .int (nI (34 + 14 * nrw (M.2.1 1)))), (4, .int (nI j))] [] := by
    intro m
    induction m using Nat.strongRecOn with
    | ind m ilp18 =>
    intro j hm hj
    refine j_iload 20 C dX11_makes_18 rfl rfl ?_
    refine j_bipush 22 C dX11_makes_20 rfl (v := nI 14) (by decide) ?_
    refine j_icmp_geN 41 25 C dX11_makes_22 (by decide) rfl (by omega) (by omega) (fun c22 => ?_) (fun c22 => ?_)
    · refine j_aload_n 42 C dX11_makes_41 rfl rfl ?_
      refine rg_world 45 C dX11_makes_42 rfl ?_
      refine j_iload_n 46 C dX11_makes_45 rfl rfl ?_
      refine j_iload_n 47 C dX11_makes_46 rfl rfl ?_
      refine rs_world 48 C dX11_makes_47 rfl _ (by omega) rfl ?_
      rw [aS_aR, show j = 14 by omega]
      refine j_iconst 49 C dX11_makes_48 rfl (v := nI 0) (by decide) ?_
      refine j_istore 51 C dX11_makes_49 rfl rfl (by decide) ?_
      have lp51 : ∀ (m : Nat) (i : Nat), n - i = m → i ≤ n → J X 5 0 0 (mw o ad G.2.1 (aR M 1 (va_cpy (M.2.1 30) (upd (zf (M.2.1 1) (34 + 14 * nrw (M.2.1 1)) 14) (34 + 14 * nrw (M.2.1 1)) (nI n)) 0 ((34 + 14 * nrw (M.2.1 1)) + 1) i))) 51 [(0, .ref o), (1, .int (nI n)), (2, .int (nI (nrw (M.2.1 1)))), (3, .int (nI (34 + 14 * nrw (M.2.1 1)))), (4, .int (nI i))] [] := by
        intro m
        induction m using Nat.strongRecOn with
        | ind m ilp51 =>
        intro i hm hi
        refine j_iload 53 C dX11_makes_51 rfl rfl ?_
        refine j_iload_n 54 C dX11_makes_53 rfl rfl ?_
        refine j_icmp_geN 81 57 C dX11_makes_54 (by decide) rfl (by omega) (by omega) (fun c54 => ?_) (fun c54 => ?_)
        · refine j_aload_n 82 C dX11_makes_81 rfl rfl ?_
          refine rg_world 85 C dX11_makes_82 rfl ?_
          refine j_iconst 86 C dX11_makes_85 rfl (v := nI 2) (by decide) ?_
          refine j_dup2 87 C dX11_makes_86 rfl rfl rfl ?_
          refine ra_world 88 C dX11_makes_87 rfl _ (by omega) rfl ?_
          rw [show (aR M 1 (va_cpy (M.2.1 30) (upd (zf (M.2.1 1) (34 + 14 * nrw (M.2.1 1)) 14) (34 + 14 * nrw (M.2.1 1)) (nI n)) 0 ((34 + 14 * nrw (M.2.1 1)) + 1) i)).2.1 1 2 = nI (nrw (M.2.1 1)) from by show (va_cpy (M.2.1 30) (upd (zf (M.2.1 1) (34 + 14 * nrw (M.2.1 1)) 14) (34 + 14 * nrw (M.2.1 1)) (nI n)) 0 ((34 + 14 * nrw (M.2.1 1)) + 1) i) 2 = _; rw [pk_cpy_out (by omega), pk_un (by omega)]; unfold zf; rw [if_neg (by omega)]; exact hWF.2.2.1.1]
          refine j_iconst 89 C dX11_makes_88 rfl (v := nI 1) (by decide) ?_
          refine j_iaddN 90 C dX11_makes_89 rfl ?_
          refine rs_world 91 C dX11_makes_90 rfl _ (by omega) rfl ?_
          rw [aS_aR]
          refine j_iload_n 92 C dX11_makes_91 rfl rfl ?_
          exact j_iret C dX11_makes_92 ⟨rfl, by rw [show i = n by omega]; rfl⟩
        · refine j_aload_n 58 C dX11_makes_57 rfl rfl ?_
          refine rg_world 61 C dX11_makes_58 rfl ?_
          refine j_iload_n 62 C dX11_makes_61 rfl rfl ?_
          refine j_iconst 63 C dX11_makes_62 rfl (v := nI 1) (by decide) ?_
          refine j_iaddN 64 C dX11_makes_63 rfl ?_
          refine j_iload 66 C dX11_makes_64 rfl rfl ?_
          refine j_iaddN 67 C dX11_makes_66 rfl ?_
          refine j_aload_n 68 C dX11_makes_67 rfl rfl ?_
          refine rg_made 71 C dX11_makes_68 rfl ?_
          refine j_iload 73 C dX11_makes_71 rfl rfl ?_
          refine ra_made 74 C dX11_makes_73 rfl _ (by omega) rfl ?_
          rw [show (aR M 1 (va_cpy (M.2.1 30) (upd (zf (M.2.1 1) (34 + 14 * nrw (M.2.1 1)) 14) (34 + 14 * nrw (M.2.1 1)) (nI n)) 0 ((34 + 14 * nrw (M.2.1 1)) + 1) i)).2.1 30 i = M.2.1 30 i from rfl]
          refine rs_world 75 C dX11_makes_74 rfl _ (by omega) rfl ?_
          rw [aS_aR]
          rw [show upd (va_cpy (M.2.1 30) (upd (zf (M.2.1 1) (34 + 14 * nrw (M.2.1 1)) 14) (34 + 14 * nrw (M.2.1 1)) (nI n)) 0 ((34 + 14 * nrw (M.2.1 1)) + 1) i) ((34 + 14 * nrw (M.2.1 1)) + 1 + i) (M.2.1 30 i) = (va_cpy (M.2.1 30) (upd (zf (M.2.1 1) (34 + 14 * nrw (M.2.1 1)) 14) (34 + 14 * nrw (M.2.1 1)) (nI n)) 0 ((34 + 14 * nrw (M.2.1 1)) + 1) (i + 1)) from by rw [show M.2.1 30 i = M.2.1 30 (0 + i) from by rw [Nat.zero_add]]; exact cpy_step _ _ 0 ((34 + 14 * nrw (M.2.1 1)) + 1) i]
          refine j_iincN 78 (z := 1) C dX11_makes_75 rfl rfl rfl (by decide) ?_
          refine j_goto 51 C dX11_makes_78 (by decide) ?_
          exact j_weak _ (by exact ⟨rfl, rfl, rfl, rfl, rfl, trivial⟩) (ilp51 _ (by omega) (i + 1) rfl (by omega))
      rw [show (upd (zf (M.2.1 1) (34 + 14 * nrw (M.2.1 1)) 14) (34 + 14 * nrw (M.2.1 1)) (nI n)) = (va_cpy (M.2.1 30) (upd (zf (M.2.1 1) (34 + 14 * nrw (M.2.1 1)) 14) (34 + 14 * nrw (M.2.1 1)) (nI n)) 0 ((34 + 14 * nrw (M.2.1 1)) + 1) 0) from (cpy_0 _ _ _ _).symm]
      exact j_weak _ (by exact ⟨rfl, rfl, rfl, rfl, rfl, trivial⟩) (lp51 _ 0 rfl (Nat.zero_le _))
    · refine j_aload_n 26 C dX11_makes_25 rfl rfl ?_
      refine rg_world 29 C dX11_makes_26 rfl ?_
      refine j_iload_n 30 C dX11_makes_29 rfl rfl ?_
      refine j_iload 32 C dX11_makes_30 rfl rfl ?_
      refine j_iaddN 33 C dX11_makes_32 rfl ?_
      refine j_iconst 34 C dX11_makes_33 rfl (v := nI 0) (by decide) ?_
      refine rs_world 35 C dX11_makes_34 rfl _ (by omega) rfl ?_
      rw [aS_aR, zf_step]
      refine j_iincN 38 (z := 1) C dX11_makes_35 rfl rfl rfl (by decide) ?_
      refine j_goto 18 C dX11_makes_38 (by decide) ?_
      exact j_weak _ (by exact ⟨rfl, rfl, rfl, rfl, rfl, trivial⟩) (ilp18 _ (by omega) (j + 1) rfl (by omega))
  refine j_aload_n 1 C dX11_makes_0 rfl rfl ?_
  refine rg_world 4 C dX11_makes_1 rfl ?_
  refine j_iconst 5 C dX11_makes_4 rfl (v := nI 2) (by decide) ?_
  refine ra_world 6 C dX11_makes_5 rfl _ (by omega) rfl ?_
  rw [hWF.2.2.1.1]
  refine j_istore_n 7 C dX11_makes_6 rfl rfl (by decide) ?_
  refine j_bipush 9 C dX11_makes_7 rfl (v := nI 34) (by decide) ?_
  refine j_bipush 11 C dX11_makes_9 rfl (v := nI 14) (by decide) ?_
  refine j_iload_n 12 C dX11_makes_11 rfl rfl ?_
  refine j_imulN 13 C dX11_makes_12 rfl ?_
  refine j_iaddN 14 C dX11_makes_13 rfl ?_
  refine j_istore_n 15 C dX11_makes_14 rfl rfl (by decide) ?_
  refine j_iconst 16 C dX11_makes_15 rfl (v := nI 0) (by decide) ?_
  refine j_istore 18 C dX11_makes_16 rfl rfl (by decide) ?_
  rw [show mw o ad G.2.1 M = mw o ad G.2.1 (aR M 1 (zf (M.2.1 1) (34 + 14 * nrw (M.2.1 1)) 0)) from by rw [zf_0, aR_self]]
  exact j_weak _ (by exact ⟨rfl, rfl, rfl, rfl, rfl, trivial⟩) (lp18 _ 0 rfl (Nat.zero_le _))
set_option maxHeartbeats 2000000 in
theorem c_backward (row : Int32) (hWF : WF (M.2.1 1)) : Con l G yX11_backward cX11_backward 4 (some .int) 3 0 0 [.ref o, .int row] (mw o ad G.2.1 M) (pI (if isI row (nrw (M.2.1 1)) then (if nrw (M.2.1 1) = 12 then -3 else nI (nrw (M.2.1 1))) else -2) (mw o ad G.2.1 (aR (aR M 30 (if isI row (nrw (M.2.1 1)) then (if nrw (M.2.1 1) = 12 then M.2.1 30 else (f_bw (M.2.1 1) (M.2.1 30) (tn row) (len (M.2.1 1) (tn row)))) else M.2.1 30)) 1 (if isI row (nrw (M.2.1 1)) then (if nrw (M.2.1 1) = 12 then (M.2.1 1) else f_mk (M.2.1 1) (f_bw (M.2.1 1) (M.2.1 30) (tn row) (len (M.2.1 1) (tn row))) (len (M.2.1 1) (tn row))) else (M.2.1 1))))) := by
  refine Con.mk (own := RX11) (by decide) rfl (Nat.le_of_ble_eq_true rfl) (fun X C => ?_)
  refine j_aload_n 1 C dX11_backward_0 rfl rfl ?_
  refine j_iload_n 2 C dX11_backward_1 rfl rfl ?_
  refine j_mI 5 C dX11_backward_2 rfl cw11_315 rfl (c_isRow _ hWF.2.2.1.1 (Nat.lt_of_le_of_lt hWF.2.2.1.2 (by decide))) rfl (by decide) rfl (Nat.le_of_ble_eq_true rfl) ?_
  refine j_if_neB 11 8 C dX11_backward_5 (by decide) rfl (fun c5 => ?_) (fun c5 => ?_)
  · obtain ⟨r, hr, rfl⟩ := isI_of c5
    have hr12 : r < 12 := Nat.lt_of_lt_of_le hr hWF.2.2.1.2
    obtain ⟨⟨hlen, hl2, hl12⟩, hth⟩ := hWF.2.2.2 r hr
    have hnr12 := hWF.2.2.1.2
    refine j_aload_n 12 C dX11_backward_11 rfl rfl ?_
    refine rg_world 15 C dX11_backward_12 rfl ?_
    refine j_iconst 16 C dX11_backward_15 rfl (v := nI 2) (by decide) ?_
    refine ra_world 17 C dX11_backward_16 rfl _ (by omega) rfl ?_
    rw [hWF.2.2.1.1]
    refine j_bipush 19 C dX11_backward_17 rfl (v := nI 12) (by decide) ?_
    refine j_icmp_neN 25 22 C dX11_backward_19 (by decide) rfl (by omega) (by omega) (fun c19 => ?_) (fun c19 => ?_)
    · have hfull : nrw (M.2.1 1) < 12 := by have := hWF.2.2.1.2; omega
      refine j_aload_n 26 C dX11_backward_25 rfl rfl ?_
      refine j_iload_n 27 C dX11_backward_26 rfl rfl ?_
      refine j_mI 30 C dX11_backward_27 rfl cw11_278 rfl (c_manyOf r hr12) rfl (by decide) rfl (Nat.le_of_ble_eq_true rfl) ?_
      rw [hlen]
      refine j_istore_n 31 C dX11_backward_30 rfl rfl (by decide) ?_
      refine j_iconst 32 C dX11_backward_31 rfl (v := nI 0) (by decide) ?_
      refine j_istore_n 33 C dX11_backward_32 rfl rfl (by decide) ?_
      have lp33 : ∀ (m : Nat) (i : Nat), len (M.2.1 1) r - i = m → i ≤ len (M.2.1 1) r → J X 4 0 0 (mw o ad G.2.1 (aR M 30 (f_bw (M.2.1 1) (M.2.1 30) r i))) 33 [(0, .ref o), (1, .int (nI r)), (2, .int (nI (len (M.2.1 1) r))), (3, .int (nI i))] [] := by
        intro m
        induction m using Nat.strongRecOn with
        | ind m ilp33 =>
        intro i hm hi
        refine j_iload_n 34 C dX11_backward_33 rfl rfl ?_
        refine j_iload_n 35 C dX11_backward_34 rfl rfl ?_
        refine j_icmp_geN 60 38 C dX11_backward_35 (by decide) rfl (by omega) (by omega) (fun c35 => ?_) (fun c35 => ?_)
        · refine j_aload_n 61 C dX11_backward_60 rfl rfl ?_
          refine j_iload_n 62 C dX11_backward_61 rfl rfl ?_
          refine j_mI 65 C dX11_backward_62 rfl cw11_365 rfl (c_makes (M := aR M 30 (f_bw (M.2.1 1) (M.2.1 30) r i)) (len (M.2.1 1) r) (by omega) hfull hWF) rfl (by decide) rfl (Nat.le_of_ble_eq_true rfl) ?_
          exact j_iret C dX11_backward_65 ⟨by rw [if_pos c5, if_neg c19]; rfl, by rw [show i = len (M.2.1 1) r by omega, if_pos c5, if_neg c19, if_pos c5, if_neg c19, tn_nI (by omega)]; rfl⟩
        · refine j_aload_n 39 C dX11_backward_38 rfl rfl ?_
          refine rg_made 42 C dX11_backward_39 rfl ?_
          refine j_iload_n 43 C dX11_backward_42 rfl rfl ?_
          refine j_aload_n 44 C dX11_backward_43 rfl rfl ?_
          refine j_iload_n 45 C dX11_backward_44 rfl rfl ?_
          refine j_iload_n 46 C dX11_backward_45 rfl rfl ?_
          refine j_iconst 47 C dX11_backward_46 rfl (v := nI 1) (by decide) ?_
          refine j_isubN 48 C dX11_backward_47 rfl (by omega) ?_
          refine j_iload_n 49 C dX11_backward_48 rfl rfl ?_
          refine j_isubN 50 C dX11_backward_49 rfl (by omega) ?_
          refine j_mI 53 C dX11_backward_50 rfl cw11_281 rfl (c_thingOf (M := aR M 30 (f_bw (M.2.1 1) (M.2.1 30) r i)) r _ hr12 (by omega)) rfl (by decide) rfl (Nat.le_of_ble_eq_true rfl) ?_
          refine rs_made 54 C dX11_backward_53 rfl _ (by omega) rfl ?_
          rw [aS_aR]
          refine j_iincN 57 (z := 1) C dX11_backward_54 rfl rfl rfl (by decide) ?_
          refine j_goto 33 C dX11_backward_57 (by decide) ?_
          exact j_weak _ (by exact ⟨rfl, rfl, rfl, rfl, trivial⟩) (ilp33 _ (by omega) (i + 1) rfl (by omega))
      rw [show mw o ad G.2.1 M = mw o ad G.2.1 (aR M 30 (f_bw (M.2.1 1) (M.2.1 30) r 0)) from by rw [show (f_bw (M.2.1 1) (M.2.1 30) r 0) = M.2.1 30 from rfl, aR_self]]
      exact j_weak _ (by exact ⟨rfl, rfl, rfl, rfl, trivial⟩) (lp33 _ 0 rfl (Nat.zero_le _))
    · refine j_bipush 24 C dX11_backward_22 rfl (v := (-3)) (by decide) ?_
      exact j_iret C dX11_backward_24 ⟨by rw [if_pos c5, if_pos c19], by rw [if_pos c5, if_pos c19, if_pos c5, if_pos c19, aR_self, aR_self]⟩
  · refine j_bipush 10 C dX11_backward_8 rfl (v := (-2)) (by decide) ?_
    exact j_iret C dX11_backward_10 ⟨by rw [if_neg c5], by rw [if_neg c5, if_neg c5, aR_self, aR_self]⟩
theorem c_placeIn (r : Nat) (t : Int32) (hr : r < nrw (M.2.1 1)) (hWF : WF (M.2.1 1)) : Con l G yX11_placeIn cX11_placeIn 4 (some .int) 2 0 0 [.ref o, .int (nI r), .int t] (mw o ad G.2.1 M) (pI (f_pl0 (M.2.1 1) r t) (mw o ad G.2.1 M)) := by
  refine Con.mk (own := RX11) (by decide) rfl (Nat.le_of_ble_eq_true rfl) (fun X C => ?_)
  have hr12 : r < 12 := Nat.lt_of_lt_of_le hr hWF.2.2.1.2
  obtain ⟨⟨hlen, hl2, hl12⟩, hth⟩ := hWF.2.2.2 r hr
  obtain ⟨R, hR0⟩ : ∃ R, f_pl0 (M.2.1 1) r t = R := ⟨_, rfl⟩
  have lp2 : ∀ (m : Nat) (i : Nat), len (M.2.1 1) r - i = m → i ≤ len (M.2.1 1) r → f_pin (M.2.1 1) r t m i = R → J X 4 0 0 (mw o ad G.2.1 M) 2 [(0, .ref o), (1, .int (nI r)), (2, .int t), (3, .int (nI i))] [] := by
    intro m
    induction m using Nat.strongRecOn with
    | ind m ilp2 =>
    intro i hm hi hR
    refine j_iload_n 3 C dX11_placeIn_2 rfl rfl ?_
    refine j_aload_n 4 C dX11_placeIn_3 rfl rfl ?_
    refine j_iload_n 5 C dX11_placeIn_4 rfl rfl ?_
    refine j_mI 8 C dX11_placeIn_5 rfl cw11_278 rfl (c_manyOf r hr12) rfl (by decide) rfl (Nat.le_of_ble_eq_true rfl) ?_
    rw [hlen]
    refine j_icmp_geN 29 11 C dX11_placeIn_8 (by decide) rfl (by omega) (by omega) (fun c8 => ?_) (fun c8 => ?_)
    · rw [show m = 0 by omega] at hR
      refine j_iconst 30 C dX11_placeIn_29 rfl (v := (-1)) (by decide) ?_
      exact j_iret C dX11_placeIn_30 ⟨by rw [hR0, ← hR]; rfl, rfl⟩
    · obtain ⟨z, hz⟩ : ∃ z, m = z + 1 := ⟨m - 1, by omega⟩
      subst hz
      rw [f_pin] at hR
      refine j_aload_n 12 C dX11_placeIn_11 rfl rfl ?_
      refine j_iload_n 13 C dX11_placeIn_12 rfl rfl ?_
      refine j_iload_n 14 C dX11_placeIn_13 rfl rfl ?_
      refine j_mI 17 C dX11_placeIn_14 rfl cw11_281 rfl (c_thingOf r i hr12 (by omega)) rfl (by decide) rfl (Nat.le_of_ble_eq_true rfl) ?_
      refine j_iload_n 18 C dX11_placeIn_17 rfl rfl ?_
      refine j_icmp_ne 23 21 C dX11_placeIn_18 (by decide) rfl (fun c18 => ?_) (fun c18 => ?_)
      · rw [if_neg c18] at hR
        refine j_iincN 26 (z := 1) C dX11_placeIn_23 rfl rfl rfl (by decide) ?_
        refine j_goto 2 C dX11_placeIn_26 (by decide) ?_
        exact j_weak _ (by exact ⟨rfl, rfl, rfl, rfl, trivial⟩) (ilp2 z (by omega) (i + 1) (by omega) (by omega) hR)
      · rw [if_pos c18] at hR
        refine j_iload_n 22 C dX11_placeIn_21 rfl rfl ?_
        exact j_iret C dX11_placeIn_22 ⟨by rw [hR0, ← hR], rfl⟩
  refine j_iconst 1 C dX11_placeIn_0 rfl (v := nI 0) (by decide) ?_
  refine j_istore_n 2 C dX11_placeIn_1 rfl rfl (by decide) ?_
  exact j_weak _ (by exact ⟨rfl, rfl, rfl, rfl, trivial⟩) (lp2 _ 0 rfl (Nat.zero_le _) hR0)
set_option maxHeartbeats 4000000 in
theorem c_shuffled (row k0 : Int32) (hWF : WF (M.2.1 1)) : Con l G yX11_shuffled cX11_shuffled 6 (some .int) 3 0 0 [.ref o, .int row, .int k0] (mw o ad G.2.1 M) (pI (if isI row (nrw (M.2.1 1)) ∧ isP k0 4 then (if nrw (M.2.1 1) = 12 then -3 else nI (nrw (M.2.1 1))) else -2) (mw o ad G.2.1 (aR (aR M 30 (if isI row (nrw (M.2.1 1)) ∧ isP k0 4 then (if nrw (M.2.1 1) = 12 then M.2.1 30 else (f_sO (M.2.1 1) (tn row) (tn k0) (M.2.1 30) (tn k0 + 1))) else M.2.1 30)) 1 (if isI row (nrw (M.2.1 1)) ∧ isP k0 4 then (if nrw (M.2.1 1) = 12 then (M.2.1 1) else f_mk (M.2.1 1) (f_sO (M.2.1 1) (tn row) (tn k0) (M.2.1 30) (tn k0 + 1)) (len (M.2.1 1) (tn row))) else (M.2.1 1))))) := by
  refine Con.mk (own := RX11) (by decide) rfl (Nat.le_of_ble_eq_true rfl) (fun X C => ?_)
  refine j_aload_n 1 C dX11_shuffled_0 rfl rfl ?_
  refine j_iload_n 2 C dX11_shuffled_1 rfl rfl ?_
  refine j_mI 5 C dX11_shuffled_2 rfl cw11_315 rfl (c_isRow _ hWF.2.2.1.1 (Nat.lt_of_le_of_lt hWF.2.2.1.2 (by decide))) rfl (by decide) rfl (Nat.le_of_ble_eq_true rfl) ?_
  refine j_if_eqB 20 8 C dX11_shuffled_5 (by decide) rfl (fun c5 => ?_) (fun c5 => ?_)
  · refine j_bipush 22 C dX11_shuffled_20 rfl (v := (-2)) (by decide) ?_
    exact j_iret C dX11_shuffled_22 ⟨by rw [if_neg (fun z => c5 z.1)], by rw [if_neg (fun z => c5 z.1), if_neg (fun z => c5 z.1), aR_self, aR_self]⟩
  · obtain ⟨r, hr, rfl⟩ := isI_of c5
    have hr12 : r < 12 := Nat.lt_of_lt_of_le hr hWF.2.2.1.2
    obtain ⟨⟨hlen, hl2, hl12⟩, hth⟩ := hWF.2.2.2 r hr
    have hnr12 := hWF.2.2.1.2
    refine j_iload_n 9 C dX11_shuffled_8 rfl rfl ?_
    refine j_i2l 10 C dX11_shuffled_9 rfl ?_
    refine j_lconst 11 C dX11_shuffled_10 rfl (v := lN 1) (by decide) ?_
    refine j_ldc2 14 C dX11_shuffled_11 rfl (v := (3)) kc11_251 ?_
    refine j_sI 17 C dX11_shuffled_14 rfl cw11_88 (c_in _ _ _) rfl (by decide) ⟨Nat.le_refl _, Nat.le_refl _⟩ rfl (Nat.le_of_ble_eq_true rfl) ?_
    rw [bI_iff (in_p (n := 4) (by decide))]
    refine j_if_neB 23 20 C dX11_shuffled_17 (by decide) rfl (fun c17 => ?_) (fun c17 => ?_)
    · obtain ⟨k, hk1, hk, rfl⟩ := isP_of c17 (by decide)
      refine j_aload_n 24 C dX11_shuffled_23 rfl rfl ?_
      refine rg_world 27 C dX11_shuffled_24 rfl ?_
      refine j_iconst 28 C dX11_shuffled_27 rfl (v := nI 2) (by decide) ?_
      refine ra_world 29 C dX11_shuffled_28 rfl _ (by omega) rfl ?_
      rw [hWF.2.2.1.1]
      refine j_bipush 31 C dX11_shuffled_29 rfl (v := nI 12) (by decide) ?_
      refine j_icmp_neN 37 34 C dX11_shuffled_31 (by decide) rfl (by omega) (by omega) (fun c31 => ?_) (fun c31 => ?_)
      · have hfull : nrw (M.2.1 1) < 12 := by omega
        refine j_iconst 38 C dX11_shuffled_37 rfl (v := nI 0) (by decide) ?_
        refine j_istore_n 39 C dX11_shuffled_38 rfl rfl (by decide) ?_
        refine j_iconst 40 C dX11_shuffled_39 rfl (v := nI 0) (by decide) ?_
        refine j_istore 42 C dX11_shuffled_40 rfl rfl (by decide) ?_
        have lp42 : ∀ (m : Nat) (f : Nat), k + 1 - f = m → f ≤ k + 1 → J X 6 0 0 (mw o ad G.2.1 (aR M 30 (f_sO (M.2.1 1) r k (M.2.1 30) f))) 42 [(0, .ref o), (1, .int (nI r)), (2, .int (nI k)), (3, .int (nI (shN (len (M.2.1 1) r) k f))), (4, .int (nI f))] [] := by
          intro m
          induction m using Nat.strongRecOn with
          | ind m ilp42 =>
          intro f hm hf
          refine j_iload 44 C dX11_shuffled_42 rfl rfl ?_
          refine j_iload_n 45 C dX11_shuffled_44 rfl rfl ?_
          refine j_icmp_gtN 95 48 C dX11_shuffled_45 (by decide) rfl (by omega) (by omega) (fun c45 => ?_) (fun c45 => ?_)
          · have hf2 : f = k + 1 := by omega
            subst hf2
            refine j_aload_n 96 C dX11_shuffled_95 rfl rfl ?_
            refine j_iload_n 97 C dX11_shuffled_96 rfl rfl ?_
            rw [sh_tot (m := len (M.2.1 1) r) (k := k) (by omega) (by omega) (by omega)]
            refine j_mI 100 C dX11_shuffled_97 rfl cw11_365 rfl (c_makes (M := aR M 30 (f_sO (M.2.1 1) r k (M.2.1 30) (k + 1))) (len (M.2.1 1) r) (by omega) hfull hWF) rfl (by decide) rfl (Nat.le_of_ble_eq_true rfl) ?_
            exact j_iret C dX11_shuffled_100 ⟨by rw [if_pos ⟨c5, c17⟩, if_neg c31]; rfl, by rw [if_pos ⟨c5, c17⟩, if_neg c31, if_pos ⟨c5, c17⟩, if_neg c31, tn_nI (by omega), tn_nI (by omega)]; rfl⟩
          · refine j_iload 50 C dX11_shuffled_48 rfl rfl ?_
            refine j_istore 52 C dX11_shuffled_50 rfl rfl (by decide) ?_
            have lp52 : ∀ (m : Nat) (t : Nat), 13 - t = m → t ≤ shC (len (M.2.1 1) r) k f → t < 13 → J X 6 0 0 (mw o ad G.2.1 (aR M 30 (f_sI (M.2.1 1) r k f (f_sO (M.2.1 1) r k (M.2.1 30) f) t))) 52 [(0, .ref o), (1, .int (nI r)), (2, .int (nI k)), (3, .int (nI (shN (len (M.2.1 1) r) k f + t))), (4, .int (nI f)), (5, .int (nI (f + t * (k + 1))))] [] := by
              intro m
              induction m using Nat.strongRecOn with
              | ind m ilp52 =>
              intro t hm ht ht13; have hbt : t * (k + 1) ≤ 12 * 4 := Nat.mul_le_mul (by omega) (by omega)
              refine j_iload 54 C dX11_shuffled_52 rfl rfl ?_
              refine j_aload_n 55 C dX11_shuffled_54 rfl rfl ?_
              refine j_iload_n 56 C dX11_shuffled_55 rfl rfl ?_
              refine j_mI 59 C dX11_shuffled_56 rfl cw11_278 rfl (c_manyOf (M := aR M 30 (f_sI (M.2.1 1) r k f (f_sO (M.2.1 1) r k (M.2.1 30) f) t)) r hr12) rfl (by decide) rfl (Nat.le_of_ble_eq_true rfl) ?_
              rw [show (aR M 30 (f_sI (M.2.1 1) r k f (f_sO (M.2.1 1) r k (M.2.1 30) f) t)).2.1 1 (34 + 14 * r) = nI (len (M.2.1 1) r) from hlen]
              refine j_icmp_geN 89 62 C dX11_shuffled_59 (by decide) rfl (by omega) (by omega) (fun c59 => ?_) (fun c59 => ?_)
              · have htc : t = shC (len (M.2.1 1) r) k f := sh_out (by omega) (by omega) (by omega) c59 ht (by omega)
                refine j_iincN 92 (z := 1) C dX11_shuffled_89 rfl rfl rfl (by decide) ?_
                refine j_goto 42 C dX11_shuffled_92 (by decide) ?_
                rw [show (f_sI (M.2.1 1) r k f (f_sO (M.2.1 1) r k (M.2.1 30) f) t) = (f_sO (M.2.1 1) r k (M.2.1 30) (f + 1)) from by rw [htc]; rfl]
                exact j_weak _ (by rw [show shN (len (M.2.1 1) r) k f + t = shN (len (M.2.1 1) r) k (f + 1) from by rw [htc]; rfl]; exact ⟨rfl, rfl, rfl, rfl, rfl, trivial⟩) (ilp42 _ (by omega) (f + 1) rfl (by omega))
              · obtain ⟨hs1, hs2⟩ := sh_in (m := len (M.2.1 1) r) (k := k) (f := f) (t := t) (by omega) (by omega) (by omega) c59
                refine j_aload_n 63 C dX11_shuffled_62 rfl rfl ?_
                refine rg_made 66 C dX11_shuffled_63 rfl ?_
                refine j_iload_n 67 C dX11_shuffled_66 rfl rfl ?_
                refine j_aload_n 68 C dX11_shuffled_67 rfl rfl ?_
                refine j_iload_n 69 C dX11_shuffled_68 rfl rfl ?_
                refine j_iload 71 C dX11_shuffled_69 rfl rfl ?_
                refine j_mI 74 C dX11_shuffled_71 rfl cw11_281 rfl (c_thingOf (M := aR M 30 (f_sI (M.2.1 1) r k f (f_sO (M.2.1 1) r k (M.2.1 30) f) t)) r _ hr12 (by omega)) rfl (by decide) rfl (Nat.le_of_ble_eq_true rfl) ?_
                refine rs_made 75 C dX11_shuffled_74 rfl _ (by omega) rfl ?_
                rw [aS_aR]
                refine j_iincN 78 (z := 1) C dX11_shuffled_75 rfl rfl rfl (by decide) ?_
                refine j_iload 80 C dX11_shuffled_78 rfl rfl ?_
                refine j_iload_n 81 C dX11_shuffled_80 rfl rfl ?_
                refine j_iconst 82 C dX11_shuffled_81 rfl (v := nI 1) (by decide) ?_
                refine j_iaddN 83 C dX11_shuffled_82 rfl ?_
                refine j_iaddN 84 C dX11_shuffled_83 rfl ?_
                refine j_istore 86 C dX11_shuffled_84 rfl rfl (by decide) ?_
                refine j_goto 52 C dX11_shuffled_86 (by decide) ?_
                rw [show f + t * (k + 1) + (k + 1) = f + (t + 1) * (k + 1) from by rw [Nat.add_mul]; omega]
                exact j_weak _ (by exact ⟨rfl, rfl, rfl, rfl, rfl, rfl, trivial⟩) (ilp52 _ (by omega) (t + 1) rfl (by omega) (by have : t ≤ t * (k + 1) := Nat.le_mul_of_pos_right t (by omega); omega))
            rw [show (f_sO (M.2.1 1) r k (M.2.1 30) f) = (f_sI (M.2.1 1) r k f (f_sO (M.2.1 1) r k (M.2.1 30) f) 0) from rfl]
            exact j_weak _ (by rw [Nat.add_zero, Nat.zero_mul, Nat.add_zero]; exact ⟨rfl, rfl, rfl, rfl, rfl, rfl, trivial⟩) (lp52 _ 0 rfl (Nat.zero_le _) (by decide))
        rw [show mw o ad G.2.1 M = mw o ad G.2.1 (aR M 30 (f_sO (M.2.1 1) r k (M.2.1 30) 0)) from by rw [show (f_sO (M.2.1 1) r k (M.2.1 30) 0) = M.2.1 30 from rfl, aR_self]]
        exact j_weak _ (by exact ⟨rfl, rfl, rfl, rfl, rfl, trivial⟩) (lp42 _ 0 rfl (Nat.zero_le _))
      · refine j_bipush 36 C dX11_shuffled_34 rfl (v := (-3)) (by decide) ?_
        exact j_iret C dX11_shuffled_36 ⟨by rw [if_pos ⟨c5, c17⟩, if_pos c31], by rw [if_pos ⟨c5, c17⟩, if_pos c31, if_pos ⟨c5, c17⟩, if_pos c31, aR_self, aR_self]⟩
    · refine j_bipush 22 C dX11_shuffled_20 rfl (v := (-2)) (by decide) ?_
      exact j_iret C dX11_shuffled_22 ⟨by rw [if_neg (fun z => c17 z.2)], by rw [if_neg (fun z => c17 z.2), if_neg (fun z => c17 z.2), aR_self, aR_self]⟩
end S11
