theorem nI_nm1 {i : Nat} (h : i < 2 ^ 31) : ¬ nI i = -1 := by
  intro e
  have := congrArg Int32.toInt e
  rw [nI_toInt h] at this
  have h2 : (-1 : Int32).toInt = -1 := rfl
  omega
def f_need (wd : Nat → Int32) (cl cv : Int32) (r : Nat) (h : Nat → Int32) : Int32 := (f_lrn wd cl cv r 40 1 0 h).1
def f_om (x : Int32) : Int32 := if x = -1 then nI 41 else x
def f_las (wd : Nat → Int32) (cl cv : Int32) (r : Nat) : Nat → Nat → (Nat → Int32) → Int32
  | 0, _, _ => -1
  | m + 1, i, h => if f_slips wd h r = 0 then f_las wd cl cv r m (i + 1) (f_hour wd cl cv h) else nI i
def f_gon (wd : Nat → Int32) (cl cv : Int32) (r : Nat) : Nat → Nat → (Nat → Int32) → Int32
  | 0, _, _ => -1
  | m + 1, i, h => if f_om (f_need wd cl cv r h) < f_om (f_need wd cl cv r (f_fr h)) then f_gon wd cl cv r m (i + 1) (f_hour wd cl cv h) else nI i
def f_wb (wd : Nat → Int32) (cl cv : Int32) (r : Nat) (h : Nat → Int32) : Nat → Int32 × Int32
  | 0 => (-1, nI 41)
  | i + 1 => if (f_wb wd cl cv r h i).2 ≤ f_om (f_need wd cl cv r (f_hours wd cl cv i h)) then f_wb wd cl cv r h i else (nI i, f_om (f_need wd cl cv r (f_hours wd cl cv i h)))
def f_wo (wd : Nat → Int32) (cl cv : Int32) (r s : Nat) (h : Nat → Int32) : Int32 := f_need (upd wd (5 + s) (nI 0)) cl cv r h
def f_mst (wd : Nat → Int32) (cl cv : Int32) (r : Nat) (h : Nat → Int32) : Nat → Nat
  | 0 => 0
  | k + 1 => if f_om (f_wo wd cl cv r (k + 1) h) ≤ f_om (f_wo wd cl cv r (f_mst wd cl cv r h k) h) then f_mst wd cl cv r h k else k + 1
theorem f_mst_le (wd : Nat → Int32) (cl cv : Int32) (r : Nat) (h : Nat → Int32) : ∀ k, f_mst wd cl cv r h k ≤ k
  | 0 => Nat.le_refl _
  | k + 1 => by
    unfold f_mst
    have := f_mst_le wd cl cv r h k
    split <;> omega
theorem f_lrn_range (wd : Nat → Int32) (cl cv : Int32) (r : Nat) : ∀ (m n w : Nat) (h : Nat → Int32), (f_lrn wd cl cv r m n w h).1 = -1 ∨ ∃ k, n ≤ k ∧ k < n + m ∧ (f_lrn wd cl cv r m n w h).1 = nI k
  | 0, _, _, _ => Or.inl rfl
  | m + 1, n, w, h => by
    unfold f_lrn
    by_cases hc : (if f_slips wd (f_reads wd cl cv r h) r = 0 then w + 1 else 0) = 2
    · rw [if_pos hc]
      exact Or.inr ⟨n, Nat.le_refl _, by omega, rfl⟩
    · rw [if_neg hc]
      rcases f_lrn_range wd cl cv r m (n + 1) (if f_slips wd (f_reads wd cl cv r h) r = 0 then w + 1 else 0) (f_reads wd cl cv r h) with e | ⟨k, h1, h2, e⟩
      · exact Or.inl e
      · exact Or.inr ⟨k, by omega, by omega, e⟩
theorem f_need_nz (wd : Nat → Int32) (cl cv : Int32) (r : Nat) (h : Nat → Int32) : ¬ f_need wd cl cv r h = 0 := by
  intro e
  rcases f_lrn_range wd cl cv r 40 1 0 h with e2 | ⟨k, h1, h2, e2⟩
  · unfold f_need at e; rw [e2] at e; exact absurd e (by decide)
  · unfold f_need at e; rw [e2] at e; exact nI_ne0 h1 (by omega) e
theorem WF_low {wd : Nat → Int32} {i : Nat} {v : Int32} (h3 : 3 ≤ i) (h34 : i < 34) (h : WF wd) : WF (upd wd i v) := by
  have e : ∀ j, (j < 3 ∨ 34 ≤ j) → upd wd i v j = wd j := fun j hj => pk_un (by omega)
  have e1 : nth (upd wd i v) = nth wd := by unfold nth; rw [e 1 (by omega)]
  have e2 : nrw (upd wd i v) = nrw wd := by unfold nrw; rw [e 2 (by omega)]
  have el : ∀ r, len (upd wd i v) r = len wd r := fun r => by unfold len; rw [e _ (by omega)]
  have et : ∀ r k, th (upd wd i v) r k = th wd r k := fun r k => by unfold th; rw [e _ (by omega)]
  obtain ⟨hL, h1, h2, hr⟩ := h
  refine ⟨fun lw hlw => ?_, ?_, ?_, fun r hr' => ?_⟩
  · rw [e _ (by omega), e _ (by omega)]; exact hL lw hlw
  · rw [e 1 (by omega), e1]; exact h1
  · rw [e 2 (by omega), e2]; exact h2
  · rw [e2] at hr'
    rw [e _ (by omega), el, e1]
    refine ⟨(hr r hr').1, fun k hk => ?_⟩
    rw [e _ (by omega), et]
    exact (hr r hr').2 k hk
theorem upd_back (f : Nat → Int32) (k : Nat) (v : Int32) : upd (upd f k v) k (f k) = f := by
  funext j
  unfold upd
  by_cases e : j = k
  · rw [if_pos e, e]
  · rw [if_neg e, if_neg e]
section S8
variable {l : Launch} {G : GG} {o : Nat} {ad : Nat → Nat} {M : MS} {h g : Nat → Int32} {c : Nat}
theorem c_needsOfN (r : Nat) (hc : c < 8) (hr : r < nrw (M.2.1 1)) (hWF : WF (M.2.1 1)) : Con l G yX11_needsOf cX11_needsOf 3 (some .int) 6 0 0 [.ref o, .int (nI r)] (mw o ad G.2.1 (setHd (aR (sS M 27 (nI c)) 26 g) h)) (pE (f_need (M.2.1 1) (M.1 24) (M.1 25) r h) (fun g2 => ∀ i, i < 2018 * c → g2 i = g i) (fun g2 => (mw o ad G.2.1 (setHd (aR (sS M 27 (nI c)) 26 g2) h)))) := c_needsOf r hc hr hWF
theorem c_freshOfN (r : Nat) (hc : c < 8) (hr : r < nrw (M.2.1 1)) (hWF : WF (M.2.1 1)) : Con l G yX11_freshOf cX11_freshOf 3 (some .int) 6 0 0 [.ref o, .int (nI r)] (mw o ad G.2.1 (setHd (aR (sS M 27 (nI c)) 26 g) h)) (pE (f_need (M.2.1 1) (M.1 24) (M.1 25) r (f_fr h)) (fun g2 => ∀ i, i < 2018 * c → g2 i = g i) (fun g2 => (mw o ad G.2.1 (setHd (aR (sS M 27 (nI c)) 26 g2) h)))) := c_freshOf r hc hr hWF
theorem c_orMany (x : Int32) : Con l G yX11_orMany cX11_orMany 1 (some .int) 1 0 0 [.int x] [] (pI (f_om x) []) := by
  refine Con.mk (own := RX11) (by decide) rfl (Nat.le_of_ble_eq_true rfl) (fun X C => ?_)
  refine j_iload_n 1 C dX11_orMany_0 rfl rfl ?_
  refine j_iconst 2 C dX11_orMany_1 rfl (v := (-1)) (by decide) ?_
  refine j_icmp_ne 10 5 C dX11_orMany_2 (by decide) rfl (fun c2 => ?_) (fun c2 => ?_)
  · refine j_iload_n 11 C dX11_orMany_10 rfl rfl ?_
    exact j_iret C dX11_orMany_11 ⟨by first | rw [f_om, if_pos c2] | rw [f_om, if_neg c2], rfl⟩
  · refine j_bipush 7 C dX11_orMany_5 rfl (v := nI 41) (by decide) ?_
    refine j_goto 11 C dX11_orMany_7 (by decide) ?_
    exact j_iret C dX11_orMany_11 ⟨by first | rw [f_om, if_pos c2] | rw [f_om, if_neg c2], rfl⟩
theorem c_needs (row : Int32) (hc : c < 7) (hWF : WF (M.2.1 1)) : Con l G yX11_needs cX11_needs 2 (some .int) 7 0 0 [.ref o, .int row] (mw o ad G.2.1 (setHd (aR (sS M 27 (nI c)) 26 g) h)) (pE (if isI row (nrw (M.2.1 1)) then f_need (M.2.1 1) (M.1 24) (M.1 25) (tn row) h else -2) (fun g2 => ∀ i, i < 2018 * c → g2 i = g i) (fun g2 => (mw o ad G.2.1 (setHd (aR (sS M 27 (nI c)) 26 g2) h)))) := by
  refine Con.mk (own := RX11) (by decide) rfl (Nat.le_of_ble_eq_true rfl) (fun X C => ?_)
  refine j_aload_n 1 C dX11_needs_0 rfl rfl ?_
  refine j_iload_n 2 C dX11_needs_1 rfl rfl ?_
  refine j_mI 5 C dX11_needs_2 rfl cw11_315 rfl (c_isRowK _ hWF) rfl (by decide) rfl (Nat.le_of_ble_eq_true rfl) ?_
  refine j_if_eqB 16 8 C dX11_needs_5 (by decide) rfl (fun c5 => ?_) (fun c5 => ?_)
  · refine j_bipush 18 C dX11_needs_16 rfl (v := (-2)) (by decide) ?_
    exact j_iret C dX11_needs_18 ⟨by rw [ifN c5], g, fun _ _ => rfl, rfl⟩
  · obtain ⟨r, hr, rfl⟩ := isI_of c5
    have hr12 : r < 12 := Nat.lt_of_lt_of_le hr hWF.2.2.1.2
    refine j_aload_n 9 C dX11_needs_8 rfl rfl ?_
    refine j_iload_n 10 C dX11_needs_9 rfl rfl ?_
    refine j_mE 13 C dX11_needs_10 rfl cw11_333 rfl (c_needsOfN r (by omega) hr hWF) rfl (by decide) rfl (Nat.le_of_ble_eq_true rfl) (fun g2 hg2 => ?_)
    refine j_goto 18 C dX11_needs_13 (by decide) ?_
    exact j_iret C dX11_needs_18 ⟨by rw [ifI hr (by have := hWF.2.2.1.2; omega) (fun r => f_need (M.2.1 1) (M.1 24) (M.1 25) r h)], g2, hg2, rfl⟩
theorem c_fresh (row : Int32) (hc : c < 7) (hWF : WF (M.2.1 1)) : Con l G yX11_fresh cX11_fresh 2 (some .int) 7 0 0 [.ref o, .int row] (mw o ad G.2.1 (setHd (aR (sS M 27 (nI c)) 26 g) h)) (pE (if isI row (nrw (M.2.1 1)) then f_need (M.2.1 1) (M.1 24) (M.1 25) (tn row) (f_fr h) else -2) (fun g2 => ∀ i, i < 2018 * c → g2 i = g i) (fun g2 => (mw o ad G.2.1 (setHd (aR (sS M 27 (nI c)) 26 g2) h)))) := by
  refine Con.mk (own := RX11) (by decide) rfl (Nat.le_of_ble_eq_true rfl) (fun X C => ?_)
  refine j_aload_n 1 C dX11_fresh_0 rfl rfl ?_
  refine j_iload_n 2 C dX11_fresh_1 rfl rfl ?_
  refine j_mI 5 C dX11_fresh_2 rfl cw11_315 rfl (c_isRowK _ hWF) rfl (by decide) rfl (Nat.le_of_ble_eq_true rfl) ?_
  refine j_if_eqB 16 8 C dX11_fresh_5 (by decide) rfl (fun c5 => ?_) (fun c5 => ?_)
  · refine j_bipush 18 C dX11_fresh_16 rfl (v := (-2)) (by decide) ?_
    exact j_iret C dX11_fresh_18 ⟨by rw [ifN c5], g, fun _ _ => rfl, rfl⟩
  · obtain ⟨r, hr, rfl⟩ := isI_of c5
    have hr12 : r < 12 := Nat.lt_of_lt_of_le hr hWF.2.2.1.2
    refine j_aload_n 9 C dX11_fresh_8 rfl rfl ?_
    refine j_iload_n 10 C dX11_fresh_9 rfl rfl ?_
    refine j_mE 13 C dX11_fresh_10 rfl cw11_336 rfl (c_freshOfN r (by omega) hr hWF) rfl (by decide) rfl (Nat.le_of_ble_eq_true rfl) (fun g3 hg3 => ?_)
    refine j_goto 18 C dX11_fresh_13 (by decide) ?_
    exact j_iret C dX11_fresh_18 ⟨by rw [ifI hr (by have := hWF.2.2.1.2; omega) (fun r => f_need (M.2.1 1) (M.1 24) (M.1 25) r (f_fr h))], g3, hg3, rfl⟩
set_option maxHeartbeats 1000000 in
theorem c_saving (row : Int32) (hc : c < 7) (hWF : WF (M.2.1 1)) : Con l G yX11_saving cX11_saving 4 (some .int) 7 0 0 [.ref o, .int row] (mw o ad G.2.1 (setHd (aR (sS M 27 (nI c)) 26 g) h)) (pE (if isI row (nrw (M.2.1 1)) then (if (f_need (M.2.1 1) (M.1 24) (M.1 25) (tn row) (f_fr h)) < nI 1 ∨ (f_need (M.2.1 1) (M.1 24) (M.1 25) (tn row) h) = -1 then -2000000000 else nI 1000 * ((f_need (M.2.1 1) (M.1 24) (M.1 25) (tn row) (f_fr h)) - (f_need (M.2.1 1) (M.1 24) (M.1 25) (tn row) h)) / (f_need (M.2.1 1) (M.1 24) (M.1 25) (tn row) (f_fr h))) else -2000000000) (fun g2 => ∀ i, i < 2018 * c → g2 i = g i) (fun g2 => (mw o ad G.2.1 (setHd (aR (sS M 27 (nI c)) 26 g2) h)))) := by
  refine Con.mk (own := RX11) (by decide) rfl (Nat.le_of_ble_eq_true rfl) (fun X C => ?_)
  refine j_aload_n 1 C dX11_saving_0 rfl rfl ?_
  refine j_iload_n 2 C dX11_saving_1 rfl rfl ?_
  refine j_mI 5 C dX11_saving_2 rfl cw11_315 rfl (c_isRowK _ hWF) rfl (by decide) rfl (Nat.le_of_ble_eq_true rfl) ?_
  refine j_if_neB 12 8 C dX11_saving_5 (by decide) rfl (fun c5 => ?_) (fun c5 => ?_)
  · obtain ⟨r, hr, rfl⟩ := isI_of c5
    have hr12 : r < 12 := Nat.lt_of_lt_of_le hr hWF.2.2.1.2
    refine j_aload_n 13 C dX11_saving_12 rfl rfl ?_
    refine j_iload_n 14 C dX11_saving_13 rfl rfl ?_
    refine j_mE 17 C dX11_saving_14 rfl cw11_336 rfl (c_freshOfN r (by omega) hr hWF) rfl (by decide) rfl (Nat.le_of_ble_eq_true rfl) (fun g3 hg3 => ?_)
    refine j_istore_n 18 C dX11_saving_17 rfl rfl (by decide) ?_
    refine j_aload_n 19 C dX11_saving_18 rfl rfl ?_
    refine j_iload_n 20 C dX11_saving_19 rfl rfl ?_
    refine j_mE 23 C dX11_saving_20 rfl cw11_333 rfl (c_needsOfN r (by omega) hr hWF) rfl (by decide) rfl (Nat.le_of_ble_eq_true rfl) (fun g2 hg2 => ?_)
    refine j_istore_n 24 C dX11_saving_23 rfl rfl (by decide) ?_
    refine j_iload_n 25 C dX11_saving_24 rfl rfl ?_
    refine j_iconst 26 C dX11_saving_25 rfl (v := nI 1) (by decide) ?_
    refine j_icmp_lt 34 29 C dX11_saving_26 (by decide) rfl (fun c26 => ?_) (fun c26 => ?_)
    · refine j_ldcw 37 C dX11_saving_34 rfl (v := (-2000000000)) kc11_339 ?_
      refine j_goto 49 C dX11_saving_37 (by decide) ?_
      exact j_iret C dX11_saving_49 ⟨by rw [ifI hr (by have := hWF.2.2.1.2; omega) (fun r => (if (f_need (M.2.1 1) (M.1 24) (M.1 25) r (f_fr h)) < nI 1 ∨ (f_need (M.2.1 1) (M.1 24) (M.1 25) r h) = -1 then -2000000000 else nI 1000 * ((f_need (M.2.1 1) (M.1 24) (M.1 25) r (f_fr h)) - (f_need (M.2.1 1) (M.1 24) (M.1 25) r h)) / (f_need (M.2.1 1) (M.1 24) (M.1 25) r (f_fr h)))), if_pos (Or.inl c26)], g2, fun i hi => (hg2 i hi).trans (hg3 i hi), rfl⟩
    · refine j_iload_n 30 C dX11_saving_29 rfl rfl ?_
      refine j_iconst 31 C dX11_saving_30 rfl (v := (-1)) (by decide) ?_
      refine j_icmp_ne 40 34 C dX11_saving_31 (by decide) rfl (fun c31 => ?_) (fun c31 => ?_)
      · refine j_sipush 43 C dX11_saving_40 rfl (v := nI 1000) (by decide) ?_
        refine j_iload_n 44 C dX11_saving_43 rfl rfl ?_
        refine j_iload_n 45 C dX11_saving_44 rfl rfl ?_
        refine j_isub 46 C dX11_saving_45 rfl ?_
        refine j_imul 47 C dX11_saving_46 rfl ?_
        refine j_iload_n 48 C dX11_saving_47 rfl rfl ?_
        refine j_idiv 49 C dX11_saving_48 rfl (f_need_nz _ _ _ _ _) ?_
        exact j_iret C dX11_saving_49 ⟨by rw [ifI hr (by have := hWF.2.2.1.2; omega) (fun r => (if (f_need (M.2.1 1) (M.1 24) (M.1 25) r (f_fr h)) < nI 1 ∨ (f_need (M.2.1 1) (M.1 24) (M.1 25) r h) = -1 then -2000000000 else nI 1000 * ((f_need (M.2.1 1) (M.1 24) (M.1 25) r (f_fr h)) - (f_need (M.2.1 1) (M.1 24) (M.1 25) r h)) / (f_need (M.2.1 1) (M.1 24) (M.1 25) r (f_fr h)))), if_neg (fun z => z.elim c26 c31)], g2, fun i hi => (hg2 i hi).trans (hg3 i hi), rfl⟩
      · refine j_ldcw 37 C dX11_saving_34 rfl (v := (-2000000000)) kc11_339 ?_
        refine j_goto 49 C dX11_saving_37 (by decide) ?_
        exact j_iret C dX11_saving_49 ⟨by rw [ifI hr (by have := hWF.2.2.1.2; omega) (fun r => (if (f_need (M.2.1 1) (M.1 24) (M.1 25) r (f_fr h)) < nI 1 ∨ (f_need (M.2.1 1) (M.1 24) (M.1 25) r h) = -1 then -2000000000 else nI 1000 * ((f_need (M.2.1 1) (M.1 24) (M.1 25) r (f_fr h)) - (f_need (M.2.1 1) (M.1 24) (M.1 25) r h)) / (f_need (M.2.1 1) (M.1 24) (M.1 25) r (f_fr h)))), if_pos (Or.inr c31)], g2, fun i hi => (hg2 i hi).trans (hg3 i hi), rfl⟩
  · refine j_ldcw 11 C dX11_saving_8 rfl (v := (-2000000000)) kc11_339 ?_
    exact j_iret C dX11_saving_11 ⟨by rw [ifN c5], g, fun _ _ => rfl, rfl⟩
set_option maxHeartbeats 1000000 in
theorem c_after (row hours : Int32) (hc : c < 7) (hWF : WF (M.2.1 1)) : Con l G yX11_after cX11_after 4 (some .int) 7 0 0 [.ref o, .int row, .int hours] (mw o ad G.2.1 (setHd (aR (sS M 27 (nI c)) 26 g) h)) (pE (if isI row (nrw (M.2.1 1)) ∧ isI hours 201 then (f_need (M.2.1 1) (M.1 24) (M.1 25) (tn row) (f_hours (M.2.1 1) (M.1 24) (M.1 25) (tn hours) h)) else -2) (fun g2 => ∀ i, i < 2018 * c → g2 i = g i) (fun g2 => (mw o ad G.2.1 (setHd (aR (sS M 27 (nI c)) 26 g2) h)))) := by
  refine Con.mk (own := RX11) (by decide) rfl (Nat.le_of_ble_eq_true rfl) (fun X C => ?_)
  refine j_aload_n 1 C dX11_after_0 rfl rfl ?_
  refine j_iload_n 2 C dX11_after_1 rfl rfl ?_
  refine j_mI 5 C dX11_after_2 rfl cw11_315 rfl (c_isRowK _ hWF) rfl (by decide) rfl (Nat.le_of_ble_eq_true rfl) ?_
  refine j_if_eqB 20 8 C dX11_after_5 (by decide) rfl (fun c5 => ?_) (fun c5 => ?_)
  · refine j_bipush 22 C dX11_after_20 rfl (v := (-2)) (by decide) ?_
    exact j_iret C dX11_after_22 ⟨by rw [if_neg (fun z => c5 z.1)], g, fun _ _ => rfl, rfl⟩
  · obtain ⟨r, hr, rfl⟩ := isI_of c5
    have hr12 : r < 12 := Nat.lt_of_lt_of_le hr hWF.2.2.1.2
    refine j_iload_n 9 C dX11_after_8 rfl rfl ?_
    refine j_i2l 10 C dX11_after_9 rfl ?_
    refine j_lconst 11 C dX11_after_10 rfl (v := lN 0) (by decide) ?_
    refine j_ldc2 14 C dX11_after_11 rfl (v := (200)) kc11_323 ?_
    refine j_sI 17 C dX11_after_14 rfl cw11_88 (c_in _ _ _) rfl (by decide) ⟨Nat.le_refl _, Nat.le_refl _⟩ rfl (Nat.le_of_ble_eq_true rfl) ?_
    rw [bI_iff (in_c (n := 201) (by decide))]
    refine j_if_neB 23 20 C dX11_after_17 (by decide) rfl (fun c17 => ?_) (fun c17 => ?_)
    · obtain ⟨n, hn, rfl⟩ := isI_of c17
      refine j_aload_n 24 C dX11_after_23 rfl rfl ?_
      refine j_mV 27 C dX11_after_24 rfl cw11_303 rfl (c_copy (by omega)) rfl (by decide) rfl (Nat.le_of_ble_eq_true rfl) ?_
      refine j_aload_n 28 C dX11_after_27 rfl rfl ?_
      refine j_iload_n 29 C dX11_after_28 rfl rfl ?_
      refine j_mV 32 C dX11_after_29 rfl cw11_325 rfl (c_hoursGoK _ (by omega) hWF) rfl (by decide) rfl (Nat.le_of_ble_eq_true rfl) ?_
      refine j_aload_n 33 C dX11_after_32 rfl rfl ?_
      refine j_iload_n 34 C dX11_after_33 rfl rfl ?_
      refine j_mI 37 C dX11_after_34 rfl cw11_306 rfl (c_learnsK r hr hWF) rfl (by decide) rfl (Nat.le_of_ble_eq_true rfl) ?_
      refine j_istore_n 38 C dX11_after_37 rfl rfl (by decide) ?_
      refine j_aload_n 39 C dX11_after_38 rfl rfl ?_
      refine j_mV 42 C dX11_after_39 rfl cw11_309 rfl (c_takeBack (by omega)) rfl (by decide) rfl (Nat.le_of_ble_eq_true rfl) ?_
      refine j_extH h (fun j hj => cpy_back hj) ?_
      refine j_iload_n 43 C dX11_after_42 rfl rfl ?_
      exact j_iret C dX11_after_43 ⟨by rw [if_pos ⟨c5, c17⟩, tn_nI (by omega), tn_nI (by omega)]; rfl, _, fun i hi => cpy_low hi, rfl⟩
    · refine j_bipush 22 C dX11_after_20 rfl (v := (-2)) (by decide) ?_
      exact j_iret C dX11_after_22 ⟨by rw [if_neg (fun z => c17 z.2)], g, fun _ _ => rfl, rfl⟩
set_option maxHeartbeats 1000000 in
theorem c_lasts (row : Int32) (hc : c < 7) (hWF : WF (M.2.1 1)) : Con l G yX11_lasts cX11_lasts 4 (some .int) 7 0 0 [.ref o, .int row] (mw o ad G.2.1 (setHd (aR (sS M 27 (nI c)) 26 g) h)) (pE (if isI row (nrw (M.2.1 1)) then f_las (M.2.1 1) (M.1 24) (M.1 25) (tn row) 201 0 h else -2) (fun g2 => ∀ i, i < 2018 * c → g2 i = g i) (fun g2 => (mw o ad G.2.1 (setHd (aR (sS M 27 (nI c)) 26 g2) h)))) := by
  refine Con.mk (own := RX11) (by decide) rfl (Nat.le_of_ble_eq_true rfl) (fun X C => ?_)
  refine j_aload_n 1 C dX11_lasts_0 rfl rfl ?_
  refine j_iload_n 2 C dX11_lasts_1 rfl rfl ?_
  refine j_mI 5 C dX11_lasts_2 rfl cw11_315 rfl (c_isRowK _ hWF) rfl (by decide) rfl (Nat.le_of_ble_eq_true rfl) ?_
  refine j_if_neB 11 8 C dX11_lasts_5 (by decide) rfl (fun c5 => ?_) (fun c5 => ?_)
  · obtain ⟨r, hr, rfl⟩ := isI_of c5
    have hr12 : r < 12 := Nat.lt_of_lt_of_le hr hWF.2.2.1.2
    refine j_aload_n 12 C dX11_lasts_11 rfl rfl ?_
    refine j_mV 15 C dX11_lasts_12 rfl cw11_303 rfl (c_copy (by omega)) rfl (by decide) rfl (Nat.le_of_ble_eq_true rfl) ?_
    refine j_iconst 16 C dX11_lasts_15 rfl (v := (-1)) (by decide) ?_
    refine j_istore_n 17 C dX11_lasts_16 rfl rfl (by decide) ?_
    refine j_iconst 18 C dX11_lasts_17 rfl (v := nI 0) (by decide) ?_
    refine j_istore_n 19 C dX11_lasts_18 rfl rfl (by decide) ?_
    obtain ⟨R, hR⟩ : ∃ R, f_las (M.2.1 1) (M.1 24) (M.1 25) r 201 0 h = R := ⟨_, rfl⟩
    have hR0 := hR
    have lp19 : ∀ (m : Nat) (i : Nat) (hd : Nat → Int32), 201 - i = m → i ≤ 201 → f_las (M.2.1 1) (M.1 24) (M.1 25) r m i hd = R → J X 4 0 0 (mw o ad G.2.1 (setHd (aR (sS M 27 (nI (c + 1))) 26 (va_cpy h g 0 (2018 * c) 2018)) hd)) 19 [(0, .ref o), (1, .int (nI r)), (2, .int (-1)), (3, .int (nI i))] [] := by
      intro m
      induction m using Nat.strongRecOn with
      | ind m ilp19 =>
      intro i hd hm hi hR
      refine j_iload_n 20 C dX11_lasts_19 rfl rfl ?_
      refine j_sipush 23 C dX11_lasts_20 rfl (v := nI 200) (by decide) ?_
      refine j_icmp_gtN 54 26 C dX11_lasts_23 (by decide) rfl (by omega) (by omega) (fun c23 => ?_) (fun c23 => ?_)
      · rw [show m = 0 by omega] at hR
        refine j_aload_n 55 C dX11_lasts_54 rfl rfl ?_
        refine j_mV 58 C dX11_lasts_55 rfl cw11_309 rfl (c_takeBack (by omega)) rfl (by decide) rfl (Nat.le_of_ble_eq_true rfl) ?_
        refine j_extH h (fun j hj => cpy_back hj) ?_
        refine j_iload_n 59 C dX11_lasts_58 rfl rfl ?_
        exact j_iret C dX11_lasts_59 ⟨by rw [if_pos c5, tn_nI (by omega)]; exact congrArg (fun z => some (Value.int z)) (hR.trans hR0.symm), _, fun i hi => cpy_low hi, rfl⟩
      · refine j_iload_n 27 C dX11_lasts_26 rfl rfl ?_
        refine j_iconst 28 C dX11_lasts_27 rfl (v := (-1)) (by decide) ?_
        refine j_icmp_ne 54 31 C dX11_lasts_28 (by decide) rfl (fun c28 => absurd rfl c28) (fun c28 => ?_)
        refine j_aload_n 32 C dX11_lasts_31 rfl rfl ?_
        refine j_iload_n 33 C dX11_lasts_32 rfl rfl ?_
        obtain ⟨z, hz⟩ : ∃ z, m = z + 1 := ⟨m - 1, by omega⟩
        subst hz
        rw [f_las] at hR
        refine j_mI 36 C dX11_lasts_33 rfl cw11_297 rfl (c_slipsOfK r hr hWF) rfl (by decide) rfl (Nat.le_of_ble_eq_true rfl) ?_
        refine j_if_eq 44 39 C dX11_lasts_36 (by decide) rfl (fun c36 => ?_) (fun c36 => ?_)
        · rw [if_pos c36] at hR
          refine j_aload_n 45 C dX11_lasts_44 rfl rfl ?_
          refine j_mV 48 C dX11_lasts_45 rfl cw11_288 rfl (c_hourGoesK hWF) rfl (by decide) rfl (Nat.le_of_ble_eq_true rfl) ?_
          refine j_iincN 51 (z := 1) C dX11_lasts_48 rfl rfl rfl (by decide) ?_
          refine j_goto 19 C dX11_lasts_51 (by decide) ?_
          exact j_weak _ (by exact ⟨rfl, rfl, rfl, rfl, trivial⟩) (ilp19 z (by omega) (i + 1) (f_hour (M.2.1 1) (M.1 24) (M.1 25) hd) (by omega) (by omega) hR)
        · rw [if_neg c36] at hR
          refine j_iload_n 40 C dX11_lasts_39 rfl rfl ?_
          refine j_istore_n 41 C dX11_lasts_40 rfl rfl (by decide) ?_
          refine j_goto 48 C dX11_lasts_41 (by decide) ?_
          refine j_iincN 51 (z := 1) C dX11_lasts_48 rfl rfl rfl (by decide) ?_
          refine j_goto 19 C dX11_lasts_51 (by decide) ?_
          refine j_iload_n 20 C dX11_lasts_19 rfl rfl ?_
          refine j_sipush 23 C dX11_lasts_20 rfl (v := nI 200) (by decide) ?_
          refine j_icmp_gtN 54 26 C dX11_lasts_23 (by decide) rfl (by omega) (by omega) (fun c23 => ?_) (fun c23 => ?_)
          · refine j_aload_n 55 C dX11_lasts_54 rfl rfl ?_
            refine j_mV 58 C dX11_lasts_55 rfl cw11_309 rfl (c_takeBack (by omega)) rfl (by decide) rfl (Nat.le_of_ble_eq_true rfl) ?_
            refine j_extH h (fun j hj => cpy_back hj) ?_
            refine j_iload_n 59 C dX11_lasts_58 rfl rfl ?_
            exact j_iret C dX11_lasts_59 ⟨by rw [if_pos c5, tn_nI (by omega)]; exact congrArg (fun z => some (Value.int z)) (hR.trans hR0.symm), _, fun i hi => cpy_low hi, rfl⟩
          · refine j_iload_n 27 C dX11_lasts_26 rfl rfl ?_
            refine j_iconst 28 C dX11_lasts_27 rfl (v := (-1)) (by decide) ?_
            refine j_icmp_ne 54 31 C dX11_lasts_28 (by decide) rfl (fun c28 => ?_) (fun c28 => absurd c28 (nI_nm1 (by omega)))
            refine j_aload_n 55 C dX11_lasts_54 rfl rfl ?_
            refine j_mV 58 C dX11_lasts_55 rfl cw11_309 rfl (c_takeBack (by omega)) rfl (by decide) rfl (Nat.le_of_ble_eq_true rfl) ?_
            refine j_extH h (fun j hj => cpy_back hj) ?_
            refine j_iload_n 59 C dX11_lasts_58 rfl rfl ?_
            exact j_iret C dX11_lasts_59 ⟨by rw [if_pos c5, tn_nI (by omega)]; exact congrArg (fun z => some (Value.int z)) (hR.trans hR0.symm), _, fun i hi => cpy_low hi, rfl⟩
    exact j_weak _ (by exact ⟨rfl, rfl, rfl, rfl, trivial⟩) (lp19 201 0 h rfl (by omega) hR)
  · refine j_bipush 10 C dX11_lasts_8 rfl (v := (-2)) (by decide) ?_
    exact j_iret C dX11_lasts_10 ⟨by rw [if_neg c5], g, fun _ _ => rfl, rfl⟩
set_option maxHeartbeats 1000000 in
theorem c_gone (row : Int32) (hc : c < 6) (hWF : WF (M.2.1 1)) : Con l G yX11_gone cX11_gone 4 (some .int) 7 0 0 [.ref o, .int row] (mw o ad G.2.1 (setHd (aR (sS M 27 (nI c)) 26 g) h)) (pE (if isI row (nrw (M.2.1 1)) then f_gon (M.2.1 1) (M.1 24) (M.1 25) (tn row) 61 0 h else -2) (fun g2 => ∀ i, i < 2018 * c → g2 i = g i) (fun g2 => (mw o ad G.2.1 (setHd (aR (sS M 27 (nI c)) 26 g2) h)))) := by
  refine Con.mk (own := RX11) (by decide) rfl (Nat.le_of_ble_eq_true rfl) (fun X C => ?_)
  refine j_aload_n 1 C dX11_gone_0 rfl rfl ?_
  refine j_iload_n 2 C dX11_gone_1 rfl rfl ?_
  refine j_mI 5 C dX11_gone_2 rfl cw11_315 rfl (c_isRowK _ hWF) rfl (by decide) rfl (Nat.le_of_ble_eq_true rfl) ?_
  refine j_if_neB 11 8 C dX11_gone_5 (by decide) rfl (fun c5 => ?_) (fun c5 => ?_)
  · obtain ⟨r, hr, rfl⟩ := isI_of c5
    have hr12 : r < 12 := Nat.lt_of_lt_of_le hr hWF.2.2.1.2
    refine j_aload_n 12 C dX11_gone_11 rfl rfl ?_
    refine j_mV 15 C dX11_gone_12 rfl cw11_303 rfl (c_copy (by omega)) rfl (by decide) rfl (Nat.le_of_ble_eq_true rfl) ?_
    refine j_iconst 16 C dX11_gone_15 rfl (v := (-1)) (by decide) ?_
    refine j_istore_n 17 C dX11_gone_16 rfl rfl (by decide) ?_
    refine j_iconst 18 C dX11_gone_17 rfl (v := nI 0) (by decide) ?_
    refine j_istore_n 19 C dX11_gone_18 rfl rfl (by decide) ?_
    obtain ⟨R, hR⟩ : ∃ R, f_gon (M.2.1 1) (M.1 24) (M.1 25) r 61 0 h = R := ⟨_, rfl⟩
    have hR0 := hR
    have lp19 : ∀ (m : Nat) (i : Nat) (hd gc : Nat → Int32), 61 - i = m → i ≤ 61 → (∀ j, j < 2018 * (c + 1) → gc j = (va_cpy h g 0 (2018 * c) 2018) j) → f_gon (M.2.1 1) (M.1 24) (M.1 25) r m i hd = R → J X 4 0 0 (mw o ad G.2.1 (setHd (aR (sS M 27 (nI (c + 1))) 26 gc) hd)) 19 [(0, .ref o), (1, .int (nI r)), (2, .int (-1)), (3, .int (nI i))] [] := by
      intro m
      induction m using Nat.strongRecOn with
      | ind m ilp19 =>
      intro i hd gc hm hi hgc hR
      refine j_iload_n 20 C dX11_gone_19 rfl rfl ?_
      refine j_bipush 22 C dX11_gone_20 rfl (v := nI 60) (by decide) ?_
      refine j_icmp_gtN 64 25 C dX11_gone_22 (by decide) rfl (by omega) (by omega) (fun c22 => ?_) (fun c22 => ?_)
      · rw [show m = 0 by omega] at hR
        have hGG := hgc
        refine j_aload_n 65 C dX11_gone_64 rfl rfl ?_
        refine j_mV 68 C dX11_gone_65 rfl cw11_309 rfl (c_takeBack (by omega)) rfl (by decide) rfl (Nat.le_of_ble_eq_true rfl) ?_
        refine j_extH h (fun j hj => cpy_back' hj hGG) ?_
        refine j_iload_n 69 C dX11_gone_68 rfl rfl ?_
        exact j_iret C dX11_gone_69 ⟨by rw [if_pos c5, tn_nI (by omega)]; exact congrArg (fun z => some (Value.int z)) (hR.trans hR0.symm), _, fun i hi => (hGG i (by omega)).trans (cpy_low hi), rfl⟩
      · refine j_iload_n 26 C dX11_gone_25 rfl rfl ?_
        refine j_iconst 27 C dX11_gone_26 rfl (v := (-1)) (by decide) ?_
        refine j_icmp_ne 64 30 C dX11_gone_27 (by decide) rfl (fun c27 => absurd rfl c27) (fun c27 => ?_)
        obtain ⟨z, hz⟩ : ∃ z, m = z + 1 := ⟨m - 1, by omega⟩
        subst hz
        rw [f_gon] at hR
        refine j_aload_n 31 C dX11_gone_30 rfl rfl ?_
        refine j_iload_n 32 C dX11_gone_31 rfl rfl ?_
        refine j_mE 35 C dX11_gone_32 rfl cw11_333 rfl (c_needsOfN r (by omega) hr hWF) rfl (by decide) rfl (Nat.le_of_ble_eq_true rfl) (fun g2 hg2 => ?_)
        refine j_sI 38 C dX11_gone_35 rfl cw11_340 (c_orMany _) rfl (by decide) ⟨Nat.le_refl _, Nat.le_refl _⟩ rfl (Nat.le_of_ble_eq_true rfl) ?_
        refine j_aload_n 39 C dX11_gone_38 rfl rfl ?_
        refine j_iload_n 40 C dX11_gone_39 rfl rfl ?_
        refine j_mE 43 C dX11_gone_40 rfl cw11_336 rfl (c_freshOfN r (by omega) hr hWF) rfl (by decide) rfl (Nat.le_of_ble_eq_true rfl) (fun g3 hg3 => ?_)
        refine j_sI 46 C dX11_gone_43 rfl cw11_340 (c_orMany _) rfl (by decide) ⟨Nat.le_refl _, Nat.le_refl _⟩ rfl (Nat.le_of_ble_eq_true rfl) ?_
        refine j_icmp_lt 54 49 C dX11_gone_46 (by decide) rfl (fun c46 => ?_) (fun c46 => ?_)
        · rw [if_pos c46] at hR
          have hGG := fun i hi => (hg3 i hi).trans ((hg2 i hi).trans (hgc i hi))
          refine j_aload_n 55 C dX11_gone_54 rfl rfl ?_
          refine j_mV 58 C dX11_gone_55 rfl cw11_288 rfl (c_hourGoesK hWF) rfl (by decide) rfl (Nat.le_of_ble_eq_true rfl) ?_
          refine j_iincN 61 (z := 1) C dX11_gone_58 rfl rfl rfl (by decide) ?_
          refine j_goto 19 C dX11_gone_61 (by decide) ?_
          exact j_weak _ (by exact ⟨rfl, rfl, rfl, rfl, trivial⟩) (ilp19 z (by omega) (i + 1) (f_hour (M.2.1 1) (M.1 24) (M.1 25) hd) g3 (by omega) (by omega) hGG hR)
        · rw [if_neg c46] at hR
          have hGG := fun i hi => (hg3 i hi).trans ((hg2 i hi).trans (hgc i hi))
          refine j_iload_n 50 C dX11_gone_49 rfl rfl ?_
          refine j_istore_n 51 C dX11_gone_50 rfl rfl (by decide) ?_
          refine j_goto 58 C dX11_gone_51 (by decide) ?_
          refine j_iincN 61 (z := 1) C dX11_gone_58 rfl rfl rfl (by decide) ?_
          refine j_goto 19 C dX11_gone_61 (by decide) ?_
          refine j_iload_n 20 C dX11_gone_19 rfl rfl ?_
          refine j_bipush 22 C dX11_gone_20 rfl (v := nI 60) (by decide) ?_
          refine j_icmp_gtN 64 25 C dX11_gone_22 (by decide) rfl (by omega) (by omega) (fun c22 => ?_) (fun c22 => ?_)
          · refine j_aload_n 65 C dX11_gone_64 rfl rfl ?_
            refine j_mV 68 C dX11_gone_65 rfl cw11_309 rfl (c_takeBack (by omega)) rfl (by decide) rfl (Nat.le_of_ble_eq_true rfl) ?_
            refine j_extH h (fun j hj => cpy_back' hj hGG) ?_
            refine j_iload_n 69 C dX11_gone_68 rfl rfl ?_
            exact j_iret C dX11_gone_69 ⟨by rw [if_pos c5, tn_nI (by omega)]; exact congrArg (fun z => some (Value.int z)) (hR.trans hR0.symm), _, fun i hi => (hGG i (by omega)).trans (cpy_low hi), rfl⟩
          · refine j_iload_n 26 C dX11_gone_25 rfl rfl ?_
            refine j_iconst 27 C dX11_gone_26 rfl (v := (-1)) (by decide) ?_
            refine j_icmp_ne 64 30 C dX11_gone_27 (by decide) rfl (fun c27 => ?_) (fun c27 => absurd c27 (nI_nm1 (by omega)))
            refine j_aload_n 65 C dX11_gone_64 rfl rfl ?_
            refine j_mV 68 C dX11_gone_65 rfl cw11_309 rfl (c_takeBack (by omega)) rfl (by decide) rfl (Nat.le_of_ble_eq_true rfl) ?_
            refine j_extH h (fun j hj => cpy_back' hj hGG) ?_
            refine j_iload_n 69 C dX11_gone_68 rfl rfl ?_
            exact j_iret C dX11_gone_69 ⟨by rw [if_pos c5, tn_nI (by omega)]; exact congrArg (fun z => some (Value.int z)) (hR.trans hR0.symm), _, fun i hi => (hGG i (by omega)).trans (cpy_low hi), rfl⟩
    exact j_weak _ (by exact ⟨rfl, rfl, rfl, rfl, trivial⟩) (lp19 61 0 h _ rfl (by omega) (fun _ _ => rfl) hR)
  · refine j_bipush 10 C dX11_gone_8 rfl (v := (-2)) (by decide) ?_
    exact j_iret C dX11_gone_10 ⟨by rw [if_neg c5], g, fun _ _ => rfl, rfl⟩
set_option maxHeartbeats 1000000 in
theorem c_without (row sort : Int32) (hc : c < 7) (hWF : WF (M.2.1 1)) : Con l G yX11_without cX11_without 5 (some .int) 7 0 0 [.ref o, .int row, .int sort] (mw o ad G.2.1 (setHd (aR (sS M 27 (nI c)) 26 g) h)) (pE (if isI row (nrw (M.2.1 1)) ∧ isI sort 4 then f_wo (M.2.1 1) (M.1 24) (M.1 25) (tn row) (tn sort) h else -2) (fun g2 => ∀ i, i < 2018 * c → g2 i = g i) (fun g2 => (mw o ad G.2.1 (setHd (aR (sS M 27 (nI c)) 26 g2) h)))) := by
  refine Con.mk (own := RX11) (by decide) rfl (Nat.le_of_ble_eq_true rfl) (fun X C => ?_)
  refine j_aload_n 1 C dX11_without_0 rfl rfl ?_
  refine j_iload_n 2 C dX11_without_1 rfl rfl ?_
  refine j_mI 5 C dX11_without_2 rfl cw11_315 rfl (c_isRowK _ hWF) rfl (by decide) rfl (Nat.le_of_ble_eq_true rfl) ?_
  refine j_if_eqB 20 8 C dX11_without_5 (by decide) rfl (fun c5 => ?_) (fun c5 => ?_)
  · refine j_bipush 22 C dX11_without_20 rfl (v := (-2)) (by decide) ?_
    exact j_iret C dX11_without_22 ⟨by rw [if_neg (fun z => c5 z.1)], g, fun _ _ => rfl, rfl⟩
  · obtain ⟨r, hr, rfl⟩ := isI_of c5
    have hr12 : r < 12 := Nat.lt_of_lt_of_le hr hWF.2.2.1.2
    refine j_iload_n 9 C dX11_without_8 rfl rfl ?_
    refine j_i2l 10 C dX11_without_9 rfl ?_
    refine j_lconst 11 C dX11_without_10 rfl (v := lN 0) (by decide) ?_
    refine j_ldc2 14 C dX11_without_11 rfl (v := (3)) kc11_251 ?_
    refine j_sI 17 C dX11_without_14 rfl cw11_88 (c_in _ _ _) rfl (by decide) ⟨Nat.le_refl _, Nat.le_refl _⟩ rfl (Nat.le_of_ble_eq_true rfl) ?_
    rw [bI_iff (in_c (n := 4) (by decide))]
    refine j_if_neB 23 20 C dX11_without_17 (by decide) rfl (fun c17 => ?_) (fun c17 => ?_)
    · obtain ⟨s, hs, rfl⟩ := isI_of c17
      refine j_aload_n 24 C dX11_without_23 rfl rfl ?_
      refine rgH_world 27 C dX11_without_24 rfl ?_
      refine j_iconst 28 C dX11_without_27 rfl (v := nI 5) (by decide) ?_
      refine j_iload_n 29 C dX11_without_28 rfl rfl ?_
      refine j_iaddN 30 C dX11_without_29 rfl ?_
      refine raH_world 31 C dX11_without_30 rfl _ (by omega) rfl ?_
      refine j_istore_n 32 C dX11_without_31 rfl rfl (by decide) ?_
      refine j_aload_n 33 C dX11_without_32 rfl rfl ?_
      refine rgH_world 36 C dX11_without_33 rfl ?_
      refine j_iconst 37 C dX11_without_36 rfl (v := nI 5) (by decide) ?_
      refine j_iload_n 38 C dX11_without_37 rfl rfl ?_
      refine j_iaddN 39 C dX11_without_38 rfl ?_
      refine j_iconst 40 C dX11_without_39 rfl (v := nI 0) (by decide) ?_
      refine rsH_world 41 C dX11_without_40 rfl _ (by omega) rfl ?_
      refine j_ws (mw o ad G.2.1 (setHd (aR (sS (aR M 1 (upd (M.2.1 1) (5 + s) (nI 0))) 27 (nI c)) 26 g) h)) rfl ?_
      refine j_aload_n 42 C dX11_without_41 rfl rfl ?_
      refine j_iload_n 43 C dX11_without_42 rfl rfl ?_
      refine j_mE 46 C dX11_without_43 rfl cw11_333 rfl (c_needsOfN (M := aR M 1 (upd (M.2.1 1) (5 + s) (nI 0))) r (by omega) (by show r < nrw (upd (M.2.1 1) (5 + s) (nI 0)); rw [show nrw (upd (M.2.1 1) (5 + s) (nI 0)) = nrw (M.2.1 1) from by unfold nrw; rw [pk_un (by omega)]]; exact hr) (WF_low (by omega) (by omega) hWF)) rfl (by decide) rfl (Nat.le_of_ble_eq_true rfl) (fun g2 hg2 => ?_)
      refine j_istore 48 C dX11_without_46 rfl rfl (by decide) ?_
      refine j_aload_n 49 C dX11_without_48 rfl rfl ?_
      refine rgH_world 52 C dX11_without_49 rfl ?_
      refine j_iconst 53 C dX11_without_52 rfl (v := nI 5) (by decide) ?_
      refine j_iload_n 54 C dX11_without_53 rfl rfl ?_
      refine j_iaddN 55 C dX11_without_54 rfl ?_
      refine j_iload_n 56 C dX11_without_55 rfl rfl ?_
      refine rsH_world 57 C dX11_without_56 rfl _ (by omega) rfl ?_
      refine j_ws (mw o ad G.2.1 (setHd (aR (sS (aR M 1 (upd (upd (M.2.1 1) (5 + s) (nI 0)) (5 + s) (M.2.1 1 (5 + s)))) 27 (nI c)) 26 g2) h)) rfl ?_
      rw [upd_back, aR_self]
      refine j_iload 59 C dX11_without_57 rfl rfl ?_
      exact j_iret C dX11_without_59 ⟨by rw [if_pos ⟨c5, c17⟩, tn_nI (by omega), tn_nI (by omega)]; rfl, g2, hg2, rfl⟩
    · refine j_bipush 22 C dX11_without_20 rfl (v := (-2)) (by decide) ?_
      exact j_iret C dX11_without_22 ⟨by rw [if_neg (fun z => c17 z.2)], g, fun _ _ => rfl, rfl⟩
theorem c_withoutN (r s : Nat) (hc : c < 7) (hr : r < nrw (M.2.1 1)) (hs : s < 4) (hWF : WF (M.2.1 1)) : Con l G yX11_without cX11_without 5 (some .int) 7 0 0 [.ref o, .int (nI r), .int (nI s)] (mw o ad G.2.1 (setHd (aR (sS M 27 (nI c)) 26 g) h)) (pE (f_wo (M.2.1 1) (M.1 24) (M.1 25) r s h) (fun g2 => ∀ i, i < 2018 * c → g2 i = g i) (fun g2 => (mw o ad G.2.1 (setHd (aR (sS M 27 (nI c)) 26 g2) h)))) := by
  have z := c_without (l := l) (G := G) (o := o) (ad := ad) (M := M) (h := h) (g := g) (c := c) (nI r) (nI s) hc hWF
  rw [if_pos ⟨isI_nI hr (by have := hWF.2.2.1.2; omega), isI_nI hs (by decide)⟩, tn_nI (by have := hWF.2.2.1.2; omega), tn_nI (by omega)] at z
  exact z
set_option maxHeartbeats 1000000 in
theorem c_must (row : Int32) (hc : c < 7) (hWF : WF (M.2.1 1)) : Con l G yX11_must cX11_must 4 (some .int) 8 0 0 [.ref o, .int row] (mw o ad G.2.1 (setHd (aR (sS M 27 (nI c)) 26 g) h)) (pE (if isI row (nrw (M.2.1 1)) then nI (f_mst (M.2.1 1) (M.1 24) (M.1 25) (tn row) h 3) else -2) (fun g2 => ∀ i, i < 2018 * c → g2 i = g i) (fun g2 => (mw o ad G.2.1 (setHd (aR (sS M 27 (nI c)) 26 g2) h)))) := by
  refine Con.mk (own := RX11) (by decide) rfl (Nat.le_of_ble_eq_true rfl) (fun X C => ?_)
  refine j_aload_n 1 C dX11_must_0 rfl rfl ?_
  refine j_iload_n 2 C dX11_must_1 rfl rfl ?_
  refine j_mI 5 C dX11_must_2 rfl cw11_315 rfl (c_isRowK _ hWF) rfl (by decide) rfl (Nat.le_of_ble_eq_true rfl) ?_
  refine j_if_neB 11 8 C dX11_must_5 (by decide) rfl (fun c5 => ?_) (fun c5 => ?_)
  · obtain ⟨r, hr, rfl⟩ := isI_of c5
    have hr12 : r < 12 := Nat.lt_of_lt_of_le hr hWF.2.2.1.2
    have hmst := f_mst_le (M.2.1 1) (M.1 24) (M.1 25) r h
    refine j_iconst 12 C dX11_must_11 rfl (v := nI 0) (by decide) ?_
    refine j_istore_n 13 C dX11_must_12 rfl rfl (by decide) ?_
    refine j_iconst 14 C dX11_must_13 rfl (v := nI 1) (by decide) ?_
    refine j_istore_n 15 C dX11_must_14 rfl rfl (by decide) ?_
    have lp15 : ∀ (m : Nat) (k : Nat) (gc : Nat → Int32), 3 - k = m → k ≤ 3 → (∀ i, i < 2018 * c → gc i = g i) → J X 4 0 0 (mw o ad G.2.1 (setHd (aR (sS M 27 (nI c)) 26 gc) h)) 15 [(0, .ref o), (1, .int (nI r)), (2, .int (nI (f_mst (M.2.1 1) (M.1 24) (M.1 25) r h k))), (3, .int (nI (k + 1)))] [] := by
      intro m
      induction m using Nat.strongRecOn with
      | ind m ilp15 =>
      intro k gc hm hk hgc; have hmk := hmst k
      refine j_iload_n 16 C dX11_must_15 rfl rfl ?_
      refine j_iconst 17 C dX11_must_16 rfl (v := nI 4) (by decide) ?_
      refine j_icmp_geN 49 20 C dX11_must_17 (by decide) rfl (by omega) (by omega) (fun c17 => ?_) (fun c17 => ?_)
      · refine j_iload_n 50 C dX11_must_49 rfl rfl ?_
        exact j_iret C dX11_must_50 ⟨by rw [if_pos c5, tn_nI (by omega), show k = 3 by omega], _, hgc, rfl⟩
      · refine j_aload_n 21 C dX11_must_20 rfl rfl ?_
        refine j_iload_n 22 C dX11_must_21 rfl rfl ?_
        refine j_iload_n 23 C dX11_must_22 rfl rfl ?_
        refine j_mE 26 C dX11_must_23 rfl cw11_373 rfl (c_withoutN r _ (by omega) hr (by omega) hWF) rfl (by decide) rfl (Nat.le_of_ble_eq_true rfl) (fun g2 hg2 => ?_)
        refine j_sI 29 C dX11_must_26 rfl cw11_340 (c_orMany _) rfl (by decide) ⟨Nat.le_refl _, Nat.le_refl _⟩ rfl (Nat.le_of_ble_eq_true rfl) ?_
        refine j_aload_n 30 C dX11_must_29 rfl rfl ?_
        refine j_iload_n 31 C dX11_must_30 rfl rfl ?_
        refine j_iload_n 32 C dX11_must_31 rfl rfl ?_
        refine j_mE 35 C dX11_must_32 rfl cw11_373 rfl (c_withoutN r _ (by omega) hr (by omega) hWF) rfl (by decide) rfl (Nat.le_of_ble_eq_true rfl) (fun g3 hg3 => ?_)
        refine j_sI 38 C dX11_must_35 rfl cw11_340 (c_orMany _) rfl (by decide) ⟨Nat.le_refl _, Nat.le_refl _⟩ rfl (Nat.le_of_ble_eq_true rfl) ?_
        refine j_icmp_le 43 41 C dX11_must_38 (by decide) rfl (fun c38 => ?_) (fun c38 => ?_)
        · have hm1 : f_mst (M.2.1 1) (M.1 24) (M.1 25) r h (k + 1) = f_mst (M.2.1 1) (M.1 24) (M.1 25) r h k := if_pos c38
          refine j_iincN 46 (z := 1) C dX11_must_43 rfl rfl rfl (by decide) ?_
          refine j_goto 15 C dX11_must_46 (by decide) ?_
          exact j_weak _ (by rw [hm1]; exact ⟨rfl, rfl, rfl, rfl, trivial⟩) (ilp15 _ (by omega) (k + 1) g3 rfl (by omega) (fun i hi => (hg3 i hi).trans ((hg2 i hi).trans (hgc i hi))))
        · have hm1 : f_mst (M.2.1 1) (M.1 24) (M.1 25) r h (k + 1) = k + 1 := if_neg c38
          refine j_iload_n 42 C dX11_must_41 rfl rfl ?_
          refine j_istore_n 43 C dX11_must_42 rfl rfl (by decide) ?_
          refine j_iincN 46 (z := 1) C dX11_must_43 rfl rfl rfl (by decide) ?_
          refine j_goto 15 C dX11_must_46 (by decide) ?_
          exact j_weak _ (by rw [hm1]; exact ⟨rfl, rfl, rfl, rfl, trivial⟩) (ilp15 _ (by omega) (k + 1) g3 rfl (by omega) (fun i hi => (hg3 i hi).trans ((hg2 i hi).trans (hgc i hi))))
    exact j_weak _ (by exact ⟨rfl, rfl, rfl, rfl, trivial⟩) (lp15 _ 0 g rfl (by omega) (fun _ _ => rfl))
  · refine j_bipush 10 C dX11_must_8 rfl (v := (-2)) (by decide) ?_
    exact j_iret C dX11_must_10 ⟨by rw [if_neg c5], g, fun _ _ => rfl, rfl⟩
set_option maxHeartbeats 1000000 in
theorem c_when (row : Int32) (hc : c < 6) (hWF : WF (M.2.1 1)) : Con l G yX11_when cX11_when 6 (some .int) 7 0 0 [.ref o, .int row] (mw o ad G.2.1 (setHd (aR (sS M 27 (nI c)) 26 g) h)) (pE (if isI row (nrw (M.2.1 1)) then (f_wb (M.2.1 1) (M.1 24) (M.1 25) (tn row) h 24).1 else -2) (fun g2 => ∀ i, i < 2018 * c → g2 i = g i) (fun g2 => (mw o ad G.2.1 (setHd (aR (sS M 27 (nI c)) 26 g2) h)))) := by
  refine Con.mk (own := RX11) (by decide) rfl (Nat.le_of_ble_eq_true rfl) (fun X C => ?_)
  refine j_aload_n 1 C dX11_when_0 rfl rfl ?_
  refine j_iload_n 2 C dX11_when_1 rfl rfl ?_
  refine j_mI 5 C dX11_when_2 rfl cw11_315 rfl (c_isRowK _ hWF) rfl (by decide) rfl (Nat.le_of_ble_eq_true rfl) ?_
  refine j_if_neB 11 8 C dX11_when_5 (by decide) rfl (fun c5 => ?_) (fun c5 => ?_)
  · obtain ⟨r, hr, rfl⟩ := isI_of c5
    have hr12 : r < 12 := Nat.lt_of_lt_of_le hr hWF.2.2.1.2
    refine j_aload_n 12 C dX11_when_11 rfl rfl ?_
    refine j_mV 15 C dX11_when_12 rfl cw11_303 rfl (c_copy (by omega)) rfl (by decide) rfl (Nat.le_of_ble_eq_true rfl) ?_
    refine j_iconst 16 C dX11_when_15 rfl (v := (-1)) (by decide) ?_
    refine j_istore_n 17 C dX11_when_16 rfl rfl (by decide) ?_
    refine j_bipush 19 C dX11_when_17 rfl (v := nI 41) (by decide) ?_
    refine j_istore_n 20 C dX11_when_19 rfl rfl (by decide) ?_
    refine j_iconst 21 C dX11_when_20 rfl (v := nI 0) (by decide) ?_
    refine j_istore 23 C dX11_when_21 rfl rfl (by decide) ?_
    have lp23 : ∀ (m : Nat) (i : Nat) (gc : Nat → Int32), 24 - i = m → i ≤ 24 → (∀ j, j < 2018 * (c + 1) → gc j = (va_cpy h g 0 (2018 * c) 2018) j) → J X 6 0 0 (mw o ad G.2.1 (setHd (aR (sS M 27 (nI (c + 1))) 26 gc) (f_hours (M.2.1 1) (M.1 24) (M.1 25) i h))) 23 [(0, .ref o), (1, .int (nI r)), (2, .int (f_wb (M.2.1 1) (M.1 24) (M.1 25) r h i).1), (3, .int (f_wb (M.2.1 1) (M.1 24) (M.1 25) r h i).2), (4, .int (nI i))] [] := by
      intro m
      induction m using Nat.strongRecOn with
      | ind m ilp23 =>
      intro i gc hm hi hgc
      refine j_iload 25 C dX11_when_23 rfl rfl ?_
      refine j_bipush 27 C dX11_when_25 rfl (v := nI 24) (by decide) ?_
      refine j_icmp_geN 62 30 C dX11_when_27 (by decide) rfl (by omega) (by omega) (fun c27 => ?_) (fun c27 => ?_)
      · refine j_aload_n 63 C dX11_when_62 rfl rfl ?_
        refine j_mV 66 C dX11_when_63 rfl cw11_309 rfl (c_takeBack (by omega)) rfl (by decide) rfl (Nat.le_of_ble_eq_true rfl) ?_
        refine j_extH h (fun j hj => cpy_back' hj hgc) ?_
        refine j_iload_n 67 C dX11_when_66 rfl rfl ?_
        exact j_iret C dX11_when_67 ⟨by rw [if_pos c5, tn_nI (by omega), show i = 24 by omega], _, fun j hj => (hgc j (by omega)).trans (cpy_low hj), rfl⟩
      · refine j_aload_n 31 C dX11_when_30 rfl rfl ?_
        refine j_iload_n 32 C dX11_when_31 rfl rfl ?_
        refine j_mE 35 C dX11_when_32 rfl cw11_333 rfl (c_needsOfN r (by omega) hr hWF) rfl (by decide) rfl (Nat.le_of_ble_eq_true rfl) (fun g2 hg2 => ?_)
        refine j_sI 38 C dX11_when_35 rfl cw11_340 (c_orMany _) rfl (by decide) ⟨Nat.le_refl _, Nat.le_refl _⟩ rfl (Nat.le_of_ble_eq_true rfl) ?_
        refine j_istore 40 C dX11_when_38 rfl rfl (by decide) ?_
        refine j_iload 42 C dX11_when_40 rfl rfl ?_
        refine j_iload_n 43 C dX11_when_42 rfl rfl ?_
        refine j_icmp_ge 52 46 C dX11_when_43 (by decide) rfl (fun c43 => ?_) (fun c43 => ?_)
        · have hm1 : f_wb (M.2.1 1) (M.1 24) (M.1 25) r h (i + 1) = f_wb (M.2.1 1) (M.1 24) (M.1 25) r h i := if_pos c43
          refine j_aload_n 53 C dX11_when_52 rfl rfl ?_
          refine j_mV 56 C dX11_when_53 rfl cw11_288 rfl (c_hourGoesK hWF) rfl (by decide) rfl (Nat.le_of_ble_eq_true rfl) ?_
          refine j_iincN 59 (z := 1) C dX11_when_56 rfl rfl rfl (by decide) ?_
          refine j_goto 23 C dX11_when_59 (by decide) ?_
          rw [show f_hour (M.2.1 1) (M.1 24) (M.1 25) (f_hours (M.2.1 1) (M.1 24) (M.1 25) i h) = (f_hours (M.2.1 1) (M.1 24) (M.1 25) (i + 1) h) from rfl]
          exact j_weak _ (by rw [hm1]; exact ⟨rfl, rfl, rfl, rfl, rfl, trivial⟩) (ilp23 _ (by omega) (i + 1) g2 rfl (by omega) (fun i hi => (hg2 i hi).trans (hgc i hi)))
        · have hm1 : f_wb (M.2.1 1) (M.1 24) (M.1 25) r h (i + 1) = (nI i, f_om (f_need (M.2.1 1) (M.1 24) (M.1 25) r (f_hours (M.2.1 1) (M.1 24) (M.1 25) i h))) := if_neg c43
          refine j_iload 48 C dX11_when_46 rfl rfl ?_
          refine j_istore_n 49 C dX11_when_48 rfl rfl (by decide) ?_
          refine j_iload 51 C dX11_when_49 rfl rfl ?_
          refine j_istore_n 52 C dX11_when_51 rfl rfl (by decide) ?_
          refine j_aload_n 53 C dX11_when_52 rfl rfl ?_
          refine j_mV 56 C dX11_when_53 rfl cw11_288 rfl (c_hourGoesK hWF) rfl (by decide) rfl (Nat.le_of_ble_eq_true rfl) ?_
          refine j_iincN 59 (z := 1) C dX11_when_56 rfl rfl rfl (by decide) ?_
          refine j_goto 23 C dX11_when_59 (by decide) ?_
          rw [show f_hour (M.2.1 1) (M.1 24) (M.1 25) (f_hours (M.2.1 1) (M.1 24) (M.1 25) i h) = (f_hours (M.2.1 1) (M.1 24) (M.1 25) (i + 1) h) from rfl]
          exact j_weak _ (by rw [hm1]; exact ⟨rfl, rfl, rfl, rfl, rfl, trivial⟩) (ilp23 _ (by omega) (i + 1) g2 rfl (by omega) (fun i hi => (hg2 i hi).trans (hgc i hi)))
    exact j_weak _ (by exact ⟨rfl, rfl, rfl, rfl, rfl, trivial⟩) (lp23 _ 0 _ rfl (by omega) (fun _ _ => rfl))
  · refine j_bipush 10 C dX11_when_8 rfl (v := (-2)) (by decide) ?_
    exact j_iret C dX11_when_10 ⟨by rw [if_neg c5], g, fun _ _ => rfl, rfl⟩
set_option maxHeartbeats 1000000 in
theorem c_verse (row other : Int32) (hc : c < 7) (hWF : WF (M.2.1 1)) : Con l G yX11_verse cX11_verse 5 (some .int) 7 0 0 [.ref o, .int row, .int other] (mw o ad G.2.1 (setHd (aR (sS M 27 (nI c)) 26 g) h)) (pE (if isI row (nrw (M.2.1 1)) ∧ isI other (nrw (M.2.1 1)) then (if (f_need (M.2.1 1) (M.1 24) (M.1 25) (tn row) (f_fr h)) = -1 ∨ (f_need (M.2.1 1) (M.1 24) (M.1 25) (tn other) (f_fr h)) = -1 then -2000000000 else nI 1000 * (f_need (M.2.1 1) (M.1 24) (M.1 25) (tn row) (f_fr h)) / (f_need (M.2.1 1) (M.1 24) (M.1 25) (tn other) (f_fr h))) else -2000000000) (fun g2 => ∀ i, i < 2018 * c → g2 i = g i) (fun g2 => (mw o ad G.2.1 (setHd (aR (sS M 27 (nI c)) 26 g2) h)))) := by
  refine Con.mk (own := RX11) (by decide) rfl (Nat.le_of_ble_eq_true rfl) (fun X C => ?_)
  refine j_aload_n 1 C dX11_verse_0 rfl rfl ?_
  refine j_iload_n 2 C dX11_verse_1 rfl rfl ?_
  refine j_mI 5 C dX11_verse_2 rfl cw11_315 rfl (c_isRowK _ hWF) rfl (by decide) rfl (Nat.le_of_ble_eq_true rfl) ?_
  refine j_if_eqB 16 8 C dX11_verse_5 (by decide) rfl (fun c5 => ?_) (fun c5 => ?_)
  · refine j_ldcw 19 C dX11_verse_16 rfl (v := (-2000000000)) kc11_339 ?_
    exact j_iret C dX11_verse_19 ⟨by rw [if_neg (fun z => c5 z.1)], g, fun _ _ => rfl, rfl⟩
  · obtain ⟨r, hr, rfl⟩ := isI_of c5
    have hr12 : r < 12 := Nat.lt_of_lt_of_le hr hWF.2.2.1.2
    refine j_aload_n 9 C dX11_verse_8 rfl rfl ?_
    refine j_iload_n 10 C dX11_verse_9 rfl rfl ?_
    refine j_mI 13 C dX11_verse_10 rfl cw11_315 rfl (c_isRowK _ hWF) rfl (by decide) rfl (Nat.le_of_ble_eq_true rfl) ?_
    refine j_if_neB 20 16 C dX11_verse_13 (by decide) rfl (fun c13 => ?_) (fun c13 => ?_)
    · obtain ⟨r2, hr2, rfl⟩ := isI_of c13
      refine j_aload_n 21 C dX11_verse_20 rfl rfl ?_
      refine j_iload_n 22 C dX11_verse_21 rfl rfl ?_
      refine j_mE 25 C dX11_verse_22 rfl cw11_336 rfl (c_freshOfN r (by omega) hr hWF) rfl (by decide) rfl (Nat.le_of_ble_eq_true rfl) (fun g2 hg2 => ?_)
      refine j_istore_n 26 C dX11_verse_25 rfl rfl (by decide) ?_
      refine j_aload_n 27 C dX11_verse_26 rfl rfl ?_
      refine j_iload_n 28 C dX11_verse_27 rfl rfl ?_
      refine j_mE 31 C dX11_verse_28 rfl cw11_336 rfl (c_freshOfN r2 (by omega) hr2 hWF) rfl (by decide) rfl (Nat.le_of_ble_eq_true rfl) (fun g3 hg3 => ?_)
      refine j_istore 33 C dX11_verse_31 rfl rfl (by decide) ?_
      refine j_iload_n 34 C dX11_verse_33 rfl rfl ?_
      refine j_iconst 35 C dX11_verse_34 rfl (v := (-1)) (by decide) ?_
      refine j_icmp_eq 44 38 C dX11_verse_35 (by decide) rfl (fun c35 => ?_) (fun c35 => ?_)
      · refine j_ldcw 47 C dX11_verse_44 rfl (v := (-2000000000)) kc11_339 ?_
        refine j_goto 58 C dX11_verse_47 (by decide) ?_
        exact j_iret C dX11_verse_58 ⟨by rw [if_pos ⟨c5, c13⟩, tn_nI (by omega), tn_nI (by have := hWF.2.2.1.2; omega), if_pos (Or.inl c35)], g3, fun i hi => (hg3 i hi).trans (hg2 i hi), rfl⟩
      · refine j_iload 40 C dX11_verse_38 rfl rfl ?_
        refine j_iconst 41 C dX11_verse_40 rfl (v := (-1)) (by decide) ?_
        refine j_icmp_ne 50 44 C dX11_verse_41 (by decide) rfl (fun c41 => ?_) (fun c41 => ?_)
        · refine j_sipush 53 C dX11_verse_50 rfl (v := nI 1000) (by decide) ?_
          refine j_iload_n 54 C dX11_verse_53 rfl rfl ?_
          refine j_imul 55 C dX11_verse_54 rfl ?_
          refine j_iload 57 C dX11_verse_55 rfl rfl ?_
          refine j_idiv 58 C dX11_verse_57 rfl (f_need_nz _ _ _ _ _) ?_
          exact j_iret C dX11_verse_58 ⟨by rw [if_pos ⟨c5, c13⟩, tn_nI (by omega), tn_nI (by have := hWF.2.2.1.2; omega), if_neg (fun z => z.elim c35 c41)], g3, fun i hi => (hg3 i hi).trans (hg2 i hi), rfl⟩
        · refine j_ldcw 47 C dX11_verse_44 rfl (v := (-2000000000)) kc11_339 ?_
          refine j_goto 58 C dX11_verse_47 (by decide) ?_
          exact j_iret C dX11_verse_58 ⟨by rw [if_pos ⟨c5, c13⟩, tn_nI (by omega), tn_nI (by have := hWF.2.2.1.2; omega), if_pos (Or.inr c41)], g3, fun i hi => (hg3 i hi).trans (hg2 i hi), rfl⟩
    · refine j_ldcw 19 C dX11_verse_16 rfl (v := (-2000000000)) kc11_339 ?_
      exact j_iret C dX11_verse_19 ⟨by rw [if_neg (fun z => c13 z.2)], g, fun _ _ => rfl, rfl⟩
end S8
