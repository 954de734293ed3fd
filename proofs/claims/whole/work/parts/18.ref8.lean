def f_lh (wd : Nat → Int32) (cl cv : Int32) (r : Nat) (h : Nat → Int32) : Nat → Int32 := (f_lrn wd cl cv r 40 1 0 h).2
def f_bet (wd : Nat → Int32) (cl cv : Int32) (r r2 n : Nat) (h : Nat → Int32) : Int32 :=
  if f_need wd cl cv r2 h = -1 ∨ f_need wd cl cv r (f_hours wd cl cv n h) = -1 ∨ f_need wd cl cv r (f_hours wd cl cv n (f_lh wd cl cv r2 h)) = -1 then -2000000000 else f_need wd cl cv r (f_hours wd cl cv n (f_lh wd cl cv r2 h)) - f_need wd cl cv r (f_hours wd cl cv n h)
def f_eve (wd : Nat → Int32) (cl cv : Int32) (r a n : Nat) (h : Nat → Int32) : Int32 :=
  if f_need wd cl cv r h = -1 ∨ f_need wd cl cv r (f_hours wd cl cv a h) = -1 ∨ f_need wd cl cv r (f_hours wd cl cv (a + n) (f_lh wd cl cv r h)) = -1 ∨ f_need wd cl cv r (f_hours wd cl cv n (f_lh wd cl cv r (f_hours wd cl cv a h))) = -1 then -2000000000 else f_need wd cl cv r (f_hours wd cl cv (a + n) (f_lh wd cl cv r h)) - f_need wd cl cv r (f_hours wd cl cv n (f_lh wd cl cv r (f_hours wd cl cv a h)))
section S9
variable {l : Launch} {G : GG} {o : Nat} {ad : Nat → Nat} {M : MS} {h g : Nat → Int32} {c : Nat}
theorem c_learnsKN (r : Nat) (hr : r < nrw (M.2.1 1)) (hWF : WF (M.2.1 1)) : Con l G yX11_learns cX11_learns 4 (some .int) 5 0 0 [.ref o, .int (nI r)] (mw o ad G.2.1 (setHd (aR (sS M 27 (nI c)) 26 g) h)) (pI (f_need (M.2.1 1) (M.1 24) (M.1 25) r h) (mw o ad G.2.1 (setHd (aR (sS M 27 (nI c)) 26 g) (f_lh (M.2.1 1) (M.1 24) (M.1 25) r h)))) := c_learnsK r hr hWF
set_option maxHeartbeats 1000000 in
theorem c_between (row other hours : Int32) (hc : c < 7) (hWF : WF (M.2.1 1)) : Con l G yX11_between cX11_between 7 (some .int) 7 0 0 [.ref o, .int row, .int other, .int hours] (mw o ad G.2.1 (setHd (aR (sS M 27 (nI c)) 26 g) h)) (pE (if isI row (nrw (M.2.1 1)) ∧ isI other (nrw (M.2.1 1)) ∧ ¬ row = other ∧ isP hours 201 then f_bet (M.2.1 1) (M.1 24) (M.1 25) (tn row) (tn other) (tn hours) h else -2000000000) (fun g2 => ∀ i, i < 2018 * c → g2 i = g i) (fun g2 => (mw o ad G.2.1 (setHd (aR (sS M 27 (nI c)) 26 g2) h)))) := by
  refine Con.mk (own := RX11) (by decide) rfl (Nat.le_of_ble_eq_true rfl) (fun X C => ?_)
  refine j_aload_n 1 C dX11_between_0 rfl rfl ?_
  refine j_iload_n 2 C dX11_between_1 rfl rfl ?_
  refine j_mI 5 C dX11_between_2 rfl cw11_315 rfl (c_isRowK _ hWF) rfl (by decide) rfl (Nat.le_of_ble_eq_true rfl) ?_
  refine j_if_eqB 33 8 C dX11_between_5 (by decide) rfl (fun c5 => ?_) (fun c5 => ?_)
  · refine j_ldcw 36 C dX11_between_33 rfl (v := (-2000000000)) kc11_339 ?_
    exact j_iret C dX11_between_36 ⟨by rw [if_neg (fun z => c5 z.1)], g, fun _ _ => rfl, rfl⟩
  · obtain ⟨r, hr, rfl⟩ := isI_of c5
    have hr12 : r < 12 := Nat.lt_of_lt_of_le hr hWF.2.2.1.2
    refine j_aload_n 9 C dX11_between_8 rfl rfl ?_
    refine j_iload_n 10 C dX11_between_9 rfl rfl ?_
    refine j_mI 13 C dX11_between_10 rfl cw11_315 rfl (c_isRowK _ hWF) rfl (by decide) rfl (Nat.le_of_ble_eq_true rfl) ?_
    refine j_if_eqB 33 16 C dX11_between_13 (by decide) rfl (fun c13 => ?_) (fun c13 => ?_)
    · refine j_ldcw 36 C dX11_between_33 rfl (v := (-2000000000)) kc11_339 ?_
      exact j_iret C dX11_between_36 ⟨by rw [if_neg (fun z => c13 z.2.1)], g, fun _ _ => rfl, rfl⟩
    · obtain ⟨r2, hr2, rfl⟩ := isI_of c13
      have hr212 : r2 < 12 := Nat.lt_of_lt_of_le hr2 hWF.2.2.1.2
      refine j_iload_n 17 C dX11_between_16 rfl rfl ?_
      refine j_iload_n 18 C dX11_between_17 rfl rfl ?_
      refine j_icmp_eqN 33 21 C dX11_between_18 (by decide) rfl (by omega) (by omega) (fun c18 => ?_) (fun c18 => ?_)
      · refine j_ldcw 36 C dX11_between_33 rfl (v := (-2000000000)) kc11_339 ?_
        exact j_iret C dX11_between_36 ⟨by rw [if_neg (fun z => z.2.2.1 (by rw [c18]))], g, fun _ _ => rfl, rfl⟩
      · refine j_iload_n 22 C dX11_between_21 rfl rfl ?_
        refine j_i2l 23 C dX11_between_22 rfl ?_
        refine j_lconst 24 C dX11_between_23 rfl (v := lN 1) (by decide) ?_
        refine j_ldc2 27 C dX11_between_24 rfl (v := (200)) kc11_323 ?_
        refine j_sI 30 C dX11_between_27 rfl cw11_88 (c_in _ _ _) rfl (by decide) ⟨Nat.le_refl _, Nat.le_refl _⟩ rfl (Nat.le_of_ble_eq_true rfl) ?_
        rw [bI_iff (in_p (n := 201) (by decide))]
        refine j_if_neB 37 33 C dX11_between_30 (by decide) rfl (fun c30 => ?_) (fun c30 => ?_)
        · obtain ⟨n, hn1, hn, rfl⟩ := isP_of c30 (by decide)
          refine j_aload_n 38 C dX11_between_37 rfl rfl ?_
          refine j_mV 41 C dX11_between_38 rfl cw11_303 rfl (c_copy (by omega)) rfl (by decide) rfl (Nat.le_of_ble_eq_true rfl) ?_
          refine j_aload_n 42 C dX11_between_41 rfl rfl ?_
          refine j_iload_n 43 C dX11_between_42 rfl rfl ?_
          refine j_mV 46 C dX11_between_43 rfl cw11_325 rfl (c_hoursGoK _ (by omega) hWF) rfl (by decide) rfl (Nat.le_of_ble_eq_true rfl) ?_
          refine j_aload_n 47 C dX11_between_46 rfl rfl ?_
          refine j_iload_n 48 C dX11_between_47 rfl rfl ?_
          refine j_mI 51 C dX11_between_48 rfl cw11_306 rfl (c_learnsKN r hr hWF) rfl (by decide) rfl (Nat.le_of_ble_eq_true rfl) ?_
          refine j_istore 53 C dX11_between_51 rfl rfl (by decide) ?_
          refine j_aload_n 54 C dX11_between_53 rfl rfl ?_
          refine j_mV 57 C dX11_between_54 rfl cw11_309 rfl (c_takeBack (by omega)) rfl (by decide) rfl (Nat.le_of_ble_eq_true rfl) ?_
          refine j_extH h (fun j hj => cpy_back hj) ?_
          refine j_aload_n 58 C dX11_between_57 rfl rfl ?_
          refine j_mV 61 C dX11_between_58 rfl cw11_303 rfl (c_copy (by omega)) rfl (by decide) rfl (Nat.le_of_ble_eq_true rfl) ?_
          refine j_aload_n 62 C dX11_between_61 rfl rfl ?_
          refine j_iload_n 63 C dX11_between_62 rfl rfl ?_
          refine j_mI 66 C dX11_between_63 rfl cw11_306 rfl (c_learnsKN r2 hr2 hWF) rfl (by decide) rfl (Nat.le_of_ble_eq_true rfl) ?_
          refine j_iconst 67 C dX11_between_66 rfl (v := (-1)) (by decide) ?_
          refine j_bool_icmp_eq 75 C dX11_between_67 rfl dX11_between_70 dX11_between_71 dX11_between_74 rfl ?_
          refine j_istore 77 C dX11_between_75 rfl rfl (by decide) ?_
          refine j_aload_n 78 C dX11_between_77 rfl rfl ?_
          refine j_iload_n 79 C dX11_between_78 rfl rfl ?_
          refine j_mV 82 C dX11_between_79 rfl cw11_325 rfl (c_hoursGoK _ (by omega) hWF) rfl (by decide) rfl (Nat.le_of_ble_eq_true rfl) ?_
          refine j_aload_n 83 C dX11_between_82 rfl rfl ?_
          refine j_iload_n 84 C dX11_between_83 rfl rfl ?_
          refine j_mI 87 C dX11_between_84 rfl cw11_306 rfl (c_learnsKN r hr hWF) rfl (by decide) rfl (Nat.le_of_ble_eq_true rfl) ?_
          refine j_istore 89 C dX11_between_87 rfl rfl (by decide) ?_
          refine j_aload_n 90 C dX11_between_89 rfl rfl ?_
          refine j_mV 93 C dX11_between_90 rfl cw11_309 rfl (c_takeBack (by omega)) rfl (by decide) rfl (Nat.le_of_ble_eq_true rfl) ?_
          refine j_extH h (fun j hj => cpy_back hj) ?_
          refine j_iload 95 C dX11_between_93 rfl rfl ?_
          refine j_if_eqB 110 98 C dX11_between_95 (by decide) rfl (fun c95 => ?_) (fun c95 => ?_)
          · refine j_ldcw 113 C dX11_between_110 rfl (v := (-2000000000)) kc11_339 ?_
            refine j_goto 121 C dX11_between_113 (by decide) ?_
            exact j_iret C dX11_between_121 ⟨by rw [if_pos ⟨c5, c13, (fun e => c18 ((nI_eq (by omega) (by omega)).mp e)), c30⟩, tn_nI (by omega), tn_nI (by omega), tn_nI (by omega), f_bet, if_pos (Or.inl (Decidable.not_not.mp c95))], _, fun i hi => (cpy_low hi).trans (cpy_low hi), rfl⟩
          · refine j_iload 100 C dX11_between_98 rfl rfl ?_
            refine j_iconst 101 C dX11_between_100 rfl (v := (-1)) (by decide) ?_
            refine j_icmp_eq 110 104 C dX11_between_101 (by decide) rfl (fun c101 => ?_) (fun c101 => ?_)
            · refine j_ldcw 113 C dX11_between_110 rfl (v := (-2000000000)) kc11_339 ?_
              refine j_goto 121 C dX11_between_113 (by decide) ?_
              exact j_iret C dX11_between_121 ⟨by rw [if_pos ⟨c5, c13, (fun e => c18 ((nI_eq (by omega) (by omega)).mp e)), c30⟩, tn_nI (by omega), tn_nI (by omega), tn_nI (by omega), f_bet, if_pos (Or.inr (Or.inl c101))], _, fun i hi => (cpy_low hi).trans (cpy_low hi), rfl⟩
            · refine j_iload 106 C dX11_between_104 rfl rfl ?_
              refine j_iconst 107 C dX11_between_106 rfl (v := (-1)) (by decide) ?_
              refine j_icmp_ne 116 110 C dX11_between_107 (by decide) rfl (fun c107 => ?_) (fun c107 => ?_)
              · refine j_iload 118 C dX11_between_116 rfl rfl ?_
                refine j_iload 120 C dX11_between_118 rfl rfl ?_
                refine j_isub 121 C dX11_between_120 rfl ?_
                exact j_iret C dX11_between_121 ⟨by rw [if_pos ⟨c5, c13, (fun e => c18 ((nI_eq (by omega) (by omega)).mp e)), c30⟩, tn_nI (by omega), tn_nI (by omega), tn_nI (by omega), f_bet, if_neg (fun z => z.elim c95 (fun z => z.elim c101 c107))], _, fun i hi => (cpy_low hi).trans (cpy_low hi), rfl⟩
              · refine j_ldcw 113 C dX11_between_110 rfl (v := (-2000000000)) kc11_339 ?_
                refine j_goto 121 C dX11_between_113 (by decide) ?_
                exact j_iret C dX11_between_121 ⟨by rw [if_pos ⟨c5, c13, (fun e => c18 ((nI_eq (by omega) (by omega)).mp e)), c30⟩, tn_nI (by omega), tn_nI (by omega), tn_nI (by omega), f_bet, if_pos (Or.inr (Or.inr c107))], _, fun i hi => (cpy_low hi).trans (cpy_low hi), rfl⟩
        · refine j_ldcw 36 C dX11_between_33 rfl (v := (-2000000000)) kc11_339 ?_
          exact j_iret C dX11_between_36 ⟨by rw [if_neg (fun z => c30 z.2.2.2)], g, fun _ _ => rfl, rfl⟩
set_option maxHeartbeats 1000000 in
theorem c_evening (row later hours : Int32) (hc : c < 7) (hWF : WF (M.2.1 1)) : Con l G yX11_evening cX11_evening 8 (some .int) 7 0 0 [.ref o, .int row, .int later, .int hours] (mw o ad G.2.1 (setHd (aR (sS M 27 (nI c)) 26 g) h)) (pE (if isI row (nrw (M.2.1 1)) ∧ isI later 24 ∧ isI hours 201 then f_eve (M.2.1 1) (M.1 24) (M.1 25) (tn row) (tn later) (tn hours) h else -2000000000) (fun g2 => ∀ i, i < 2018 * c → g2 i = g i) (fun g2 => (mw o ad G.2.1 (setHd (aR (sS M 27 (nI c)) 26 g2) h)))) := by
  refine Con.mk (own := RX11) (by decide) rfl (Nat.le_of_ble_eq_true rfl) (fun X C => ?_)
  refine j_aload_n 1 C dX11_evening_0 rfl rfl ?_
  refine j_iload_n 2 C dX11_evening_1 rfl rfl ?_
  refine j_mI 5 C dX11_evening_2 rfl cw11_315 rfl (c_isRowK _ hWF) rfl (by decide) rfl (Nat.le_of_ble_eq_true rfl) ?_
  refine j_if_eqB 32 8 C dX11_evening_5 (by decide) rfl (fun c5 => ?_) (fun c5 => ?_)
  · refine j_ldcw 35 C dX11_evening_32 rfl (v := (-2000000000)) kc11_339 ?_
    exact j_iret C dX11_evening_35 ⟨by rw [if_neg (fun z => c5 z.1)], g, fun _ _ => rfl, rfl⟩
  · obtain ⟨r, hr, rfl⟩ := isI_of c5
    have hr12 : r < 12 := Nat.lt_of_lt_of_le hr hWF.2.2.1.2
    refine j_iload_n 9 C dX11_evening_8 rfl rfl ?_
    refine j_i2l 10 C dX11_evening_9 rfl ?_
    refine j_lconst 11 C dX11_evening_10 rfl (v := lN 0) (by decide) ?_
    refine j_ldc2 14 C dX11_evening_11 rfl (v := (23)) kc11_343 ?_
    refine j_sI 17 C dX11_evening_14 rfl cw11_88 (c_in _ _ _) rfl (by decide) ⟨Nat.le_refl _, Nat.le_refl _⟩ rfl (Nat.le_of_ble_eq_true rfl) ?_
    rw [bI_iff (in_c (n := 24) (by decide))]
    refine j_if_eqB 32 20 C dX11_evening_17 (by decide) rfl (fun c17 => ?_) (fun c17 => ?_)
    · refine j_ldcw 35 C dX11_evening_32 rfl (v := (-2000000000)) kc11_339 ?_
      exact j_iret C dX11_evening_35 ⟨by rw [if_neg (fun z => c17 z.2.1)], g, fun _ _ => rfl, rfl⟩
    · obtain ⟨a, ha, rfl⟩ := isI_of c17
      refine j_iload_n 21 C dX11_evening_20 rfl rfl ?_
      refine j_i2l 22 C dX11_evening_21 rfl ?_
      refine j_lconst 23 C dX11_evening_22 rfl (v := lN 0) (by decide) ?_
      refine j_ldc2 26 C dX11_evening_23 rfl (v := (200)) kc11_323 ?_
      refine j_sI 29 C dX11_evening_26 rfl cw11_88 (c_in _ _ _) rfl (by decide) ⟨Nat.le_refl _, Nat.le_refl _⟩ rfl (Nat.le_of_ble_eq_true rfl) ?_
      rw [bI_iff (in_c (n := 201) (by decide))]
      refine j_if_neB 36 32 C dX11_evening_29 (by decide) rfl (fun c29 => ?_) (fun c29 => ?_)
      · obtain ⟨n, hn, rfl⟩ := isI_of c29
        refine j_aload_n 37 C dX11_evening_36 rfl rfl ?_
        refine j_mV 40 C dX11_evening_37 rfl cw11_303 rfl (c_copy (by omega)) rfl (by decide) rfl (Nat.le_of_ble_eq_true rfl) ?_
        refine j_aload_n 41 C dX11_evening_40 rfl rfl ?_
        refine j_iload_n 42 C dX11_evening_41 rfl rfl ?_
        refine j_mI 45 C dX11_evening_42 rfl cw11_306 rfl (c_learnsKN r hr hWF) rfl (by decide) rfl (Nat.le_of_ble_eq_true rfl) ?_
        refine j_iconst 46 C dX11_evening_45 rfl (v := (-1)) (by decide) ?_
        refine j_bool_icmp_eq 54 C dX11_evening_46 rfl dX11_evening_49 dX11_evening_50 dX11_evening_53 rfl ?_
        refine j_istore 56 C dX11_evening_54 rfl rfl (by decide) ?_
        refine j_aload_n 57 C dX11_evening_56 rfl rfl ?_
        refine j_iload_n 58 C dX11_evening_57 rfl rfl ?_
        refine j_iload_n 59 C dX11_evening_58 rfl rfl ?_
        refine j_iaddN 60 C dX11_evening_59 rfl ?_
        refine j_mV 63 C dX11_evening_60 rfl cw11_325 rfl (c_hoursGoK _ (by omega) hWF) rfl (by decide) rfl (Nat.le_of_ble_eq_true rfl) ?_
        refine j_aload_n 64 C dX11_evening_63 rfl rfl ?_
        refine j_iload_n 65 C dX11_evening_64 rfl rfl ?_
        refine j_mI 68 C dX11_evening_65 rfl cw11_306 rfl (c_learnsKN r hr hWF) rfl (by decide) rfl (Nat.le_of_ble_eq_true rfl) ?_
        refine j_istore 70 C dX11_evening_68 rfl rfl (by decide) ?_
        refine j_aload_n 71 C dX11_evening_70 rfl rfl ?_
        refine j_mV 74 C dX11_evening_71 rfl cw11_309 rfl (c_takeBack (by omega)) rfl (by decide) rfl (Nat.le_of_ble_eq_true rfl) ?_
        refine j_extH h (fun j hj => cpy_back hj) ?_
        refine j_aload_n 75 C dX11_evening_74 rfl rfl ?_
        refine j_mV 78 C dX11_evening_75 rfl cw11_303 rfl (c_copy (by omega)) rfl (by decide) rfl (Nat.le_of_ble_eq_true rfl) ?_
        refine j_aload_n 79 C dX11_evening_78 rfl rfl ?_
        refine j_iload_n 80 C dX11_evening_79 rfl rfl ?_
        refine j_mV 83 C dX11_evening_80 rfl cw11_325 rfl (c_hoursGoK _ (by omega) hWF) rfl (by decide) rfl (Nat.le_of_ble_eq_true rfl) ?_
        refine j_aload_n 84 C dX11_evening_83 rfl rfl ?_
        refine j_iload_n 85 C dX11_evening_84 rfl rfl ?_
        refine j_mI 88 C dX11_evening_85 rfl cw11_306 rfl (c_learnsKN r hr hWF) rfl (by decide) rfl (Nat.le_of_ble_eq_true rfl) ?_
        refine j_iconst 89 C dX11_evening_88 rfl (v := (-1)) (by decide) ?_
        refine j_bool_icmp_eq 97 C dX11_evening_89 rfl dX11_evening_92 dX11_evening_93 dX11_evening_96 rfl ?_
        refine j_istore 99 C dX11_evening_97 rfl rfl (by decide) ?_
        refine j_aload_n 100 C dX11_evening_99 rfl rfl ?_
        refine j_iload_n 101 C dX11_evening_100 rfl rfl ?_
        refine j_mV 104 C dX11_evening_101 rfl cw11_325 rfl (c_hoursGoK _ (by omega) hWF) rfl (by decide) rfl (Nat.le_of_ble_eq_true rfl) ?_
        refine j_aload_n 105 C dX11_evening_104 rfl rfl ?_
        refine j_iload_n 106 C dX11_evening_105 rfl rfl ?_
        refine j_mI 109 C dX11_evening_106 rfl cw11_306 rfl (c_learnsKN r hr hWF) rfl (by decide) rfl (Nat.le_of_ble_eq_true rfl) ?_
        refine j_istore 111 C dX11_evening_109 rfl rfl (by decide) ?_
        refine j_aload_n 112 C dX11_evening_111 rfl rfl ?_
        refine j_mV 115 C dX11_evening_112 rfl cw11_309 rfl (c_takeBack (by omega)) rfl (by decide) rfl (Nat.le_of_ble_eq_true rfl) ?_
        refine j_extH h (fun j hj => cpy_back hj) ?_
        refine j_iload 117 C dX11_evening_115 rfl rfl ?_
        refine j_if_eqB 137 120 C dX11_evening_117 (by decide) rfl (fun c117 => ?_) (fun c117 => ?_)
        · refine j_ldcw 140 C dX11_evening_137 rfl (v := (-2000000000)) kc11_339 ?_
          refine j_goto 148 C dX11_evening_140 (by decide) ?_
          exact j_iret C dX11_evening_148 ⟨by rw [if_pos ⟨c5, c17, c29⟩, tn_nI (by omega), tn_nI (by omega), tn_nI (by omega), f_eve, if_pos (Or.inl (Decidable.not_not.mp c117))], _, fun i hi => (cpy_low hi).trans (cpy_low hi), rfl⟩
        · refine j_iload 122 C dX11_evening_120 rfl rfl ?_
          refine j_if_eqB 137 125 C dX11_evening_122 (by decide) rfl (fun c122 => ?_) (fun c122 => ?_)
          · refine j_ldcw 140 C dX11_evening_137 rfl (v := (-2000000000)) kc11_339 ?_
            refine j_goto 148 C dX11_evening_140 (by decide) ?_
            exact j_iret C dX11_evening_148 ⟨by rw [if_pos ⟨c5, c17, c29⟩, tn_nI (by omega), tn_nI (by omega), tn_nI (by omega), f_eve, if_pos (Or.inr (Or.inl (Decidable.not_not.mp c122)))], _, fun i hi => (cpy_low hi).trans (cpy_low hi), rfl⟩
          · refine j_iload 127 C dX11_evening_125 rfl rfl ?_
            refine j_iconst 128 C dX11_evening_127 rfl (v := (-1)) (by decide) ?_
            refine j_icmp_eq 137 131 C dX11_evening_128 (by decide) rfl (fun c128 => ?_) (fun c128 => ?_)
            · refine j_ldcw 140 C dX11_evening_137 rfl (v := (-2000000000)) kc11_339 ?_
              refine j_goto 148 C dX11_evening_140 (by decide) ?_
              exact j_iret C dX11_evening_148 ⟨by rw [if_pos ⟨c5, c17, c29⟩, tn_nI (by omega), tn_nI (by omega), tn_nI (by omega), f_eve, if_pos (Or.inr (Or.inr (Or.inl c128)))], _, fun i hi => (cpy_low hi).trans (cpy_low hi), rfl⟩
            · refine j_iload 133 C dX11_evening_131 rfl rfl ?_
              refine j_iconst 134 C dX11_evening_133 rfl (v := (-1)) (by decide) ?_
              refine j_icmp_ne 143 137 C dX11_evening_134 (by decide) rfl (fun c134 => ?_) (fun c134 => ?_)
              · refine j_iload 145 C dX11_evening_143 rfl rfl ?_
                refine j_iload 147 C dX11_evening_145 rfl rfl ?_
                refine j_isub 148 C dX11_evening_147 rfl ?_
                exact j_iret C dX11_evening_148 ⟨by rw [if_pos ⟨c5, c17, c29⟩, tn_nI (by omega), tn_nI (by omega), tn_nI (by omega), f_eve, if_neg (fun z => z.elim c117 (fun z => z.elim c122 (fun z => z.elim c128 c134)))], _, fun i hi => (cpy_low hi).trans (cpy_low hi), rfl⟩
              · refine j_ldcw 140 C dX11_evening_137 rfl (v := (-2000000000)) kc11_339 ?_
                refine j_goto 148 C dX11_evening_140 (by decide) ?_
                exact j_iret C dX11_evening_148 ⟨by rw [if_pos ⟨c5, c17, c29⟩, tn_nI (by omega), tn_nI (by omega), tn_nI (by omega), f_eve, if_pos (Or.inr (Or.inr (Or.inr c134)))], _, fun i hi => (cpy_low hi).trans (cpy_low hi), rfl⟩
      · refine j_ldcw 35 C dX11_evening_32 rfl (v := (-2000000000)) kc11_339 ?_
        exact j_iret C dX11_evening_35 ⟨by rw [if_neg (fun z => c29 z.2.2)], g, fun _ _ => rfl, rfl⟩
theorem c_isPlan (row n days : Int32) (hWF : WF (M.2.1 1)) : Con l G yX11_isPlan cX11_isPlan 4 (some .boolean) 3 0 0 [.ref o, .int row, .int n, .int days] (mw o ad G.2.1 (setHd (aR (sS M 27 (nI c)) 26 g) h)) (pI (bI (isI row (nrw (M.2.1 1)) ∧ isP n 9 ∧ isP days 5)) (mw o ad G.2.1 (setHd (aR (sS M 27 (nI c)) 26 g) h))) := by
  refine Con.mk (own := RX11) (by decide) rfl (Nat.le_of_ble_eq_true rfl) (fun X C => ?_)
  refine j_aload_n 1 C dX11_isPlan_0 rfl rfl ?_
  refine j_iload_n 2 C dX11_isPlan_1 rfl rfl ?_
  refine j_mI 5 C dX11_isPlan_2 rfl cw11_315 rfl (c_isRowK _ hWF) rfl (by decide) rfl (Nat.le_of_ble_eq_true rfl) ?_
  refine j_if_eqB 36 8 C dX11_isPlan_5 (by decide) rfl (fun c5 => ?_) (fun c5 => ?_)
  · refine j_iconst 37 C dX11_isPlan_36 rfl (v := nI 0) (by decide) ?_
    exact j_zret C dX11_isPlan_37 rfl ⟨by rw [bI_f (fun z => c5 z.1)]; rfl, rfl⟩
  · refine j_iload_n 9 C dX11_isPlan_8 rfl rfl ?_
    refine j_i2l 10 C dX11_isPlan_9 rfl ?_
    refine j_lconst 11 C dX11_isPlan_10 rfl (v := lN 1) (by decide) ?_
    refine j_ldc2 14 C dX11_isPlan_11 rfl (v := (8)) kc11_357 ?_
    refine j_sI 17 C dX11_isPlan_14 rfl cw11_88 (c_in _ _ _) rfl (by decide) ⟨Nat.le_refl _, Nat.le_refl _⟩ rfl (Nat.le_of_ble_eq_true rfl) ?_
    rw [bI_iff (in_p (n := 9) (by decide))]
    refine j_if_eqB 36 20 C dX11_isPlan_17 (by decide) rfl (fun c17 => ?_) (fun c17 => ?_)
    · refine j_iconst 37 C dX11_isPlan_36 rfl (v := nI 0) (by decide) ?_
      exact j_zret C dX11_isPlan_37 rfl ⟨by rw [bI_f (fun z => c17 z.2.1)]; rfl, rfl⟩
    · refine j_iload_n 21 C dX11_isPlan_20 rfl rfl ?_
      refine j_i2l 22 C dX11_isPlan_21 rfl ?_
      refine j_lconst 23 C dX11_isPlan_22 rfl (v := lN 1) (by decide) ?_
      refine j_ldc2 26 C dX11_isPlan_23 rfl (v := (4)) kc11_359 ?_
      refine j_sI 29 C dX11_isPlan_26 rfl cw11_88 (c_in _ _ _) rfl (by decide) ⟨Nat.le_refl _, Nat.le_refl _⟩ rfl (Nat.le_of_ble_eq_true rfl) ?_
      rw [bI_iff (in_p (n := 5) (by decide))]
      refine j_if_eqB 36 32 C dX11_isPlan_29 (by decide) rfl (fun c29 => ?_) (fun c29 => ?_)
      · refine j_iconst 37 C dX11_isPlan_36 rfl (v := nI 0) (by decide) ?_
        exact j_zret C dX11_isPlan_37 rfl ⟨by rw [bI_f (fun z => c29 z.2.2)]; rfl, rfl⟩
      · refine j_iconst 33 C dX11_isPlan_32 rfl (v := nI 1) (by decide) ?_
        refine j_goto 37 C dX11_isPlan_33 (by decide) ?_
        exact j_zret C dX11_isPlan_37 rfl ⟨by rw [bI_t ⟨c5, c17, c29⟩]; rfl, rfl⟩
end S9
/-- what is left behind n readings and a day -/
def f_day (wd : Nat → Int32) (cl cv : Int32) (r n : Nat) (h : Nat → Int32) : Nat → Int32 := f_hours wd cl cv 24 (f_readsN wd cl cv r n h)
def f_it {S : Type} (B : Nat → S → S) : Nat → S → S
  | 0, s => s
  | j + 1, s => B j (f_it B j s)
def f_pl1 (wd : Nat → Int32) (cl cv : Int32) (r left dg : Nat) (h : Nat → Int32) (j : Nat) (s : Int32 × Int32) : Int32 × Int32 :=
  if s.1 = -1 ∨ ¬ f_left wd (f_day wd cl cv r (left - j) h) r (len wd r) ≤ s.2 then (nI (10 * dg + (left - j)), f_left wd (f_day wd cl cv r (left - j) h) r (len wd r)) else s
/-- days + 1 days, 'left' readings, digits dg so far -/
def f_pl (wd : Nat → Int32) (cl cv : Int32) (r : Nat) : Nat → Nat → Nat → (Nat → Int32) → Int32 × Int32 → Int32 × Int32
  | 0, left, dg, h, s => f_pl1 wd cl cv r left dg h 0 s
  | d + 1, left, dg, h, s => f_it (fun j s => f_pl wd cl cv r d j (10 * dg + (left - j)) (f_day wd cl cv r (left - j) h) s) (left + 1) s
def f_plj (wd : Nat → Int32) (cl cv : Int32) (r d left dg : Nat) (h : Nat → Int32) (j : Nat) (s : Int32 × Int32) : Int32 × Int32 :=
  if d = 0 then f_pl1 wd cl cv r left dg h j s else f_pl wd cl cv r (d - 1) j (10 * dg + (left - j)) (f_day wd cl cv r (left - j) h) s
theorem f_pl_it (wd : Nat → Int32) (cl cv : Int32) (r d left dg : Nat) (h : Nat → Int32) (s : Int32 × Int32) : f_pl wd cl cv r d left dg h s = f_it (f_plj wd cl cv r d left dg h) (if d = 0 then 1 else left + 1) s := by
  cases d with
  | zero => rfl
  | succ d =>
    rw [if_neg (by omega)]
    show f_it _ _ _ = f_it _ _ _
    congr 1
theorem dec_lt {n : Nat} (h : n < 2 ^ 31) : nI n + (-1) < nI n := by
  cases n with
  | zero => decide
  | succ k => rw [pk_m1]; exact nI_lt (Nat.lt_succ_self k) h
section S10
variable {l : Launch} {G : GG} {o : Nat} {ad : Nat → Nat} {M : MS}
theorem c_readsP {a b : Int32} {h g : Nat → Int32} {c : Nat} (r : Nat) (hr : r < nrw (M.2.1 1)) (hWF : WF (M.2.1 1)) : Con l G yX11_reads cX11_reads 7 none 4 0 0 [.ref o, .int (nI r)] (mw o ad G.2.1 (setHd (aR (sS (sS (sS M 28 a) 29 b) 27 (nI c)) 26 g) h)) (pV (mw o ad G.2.1 (setHd (aR (sS (sS (sS M 28 a) 29 b) 27 (nI c)) 26 g) (f_reads (M.2.1 1) (M.1 24) (M.1 25) r h)))) := c_readsK (M := sS (sS M 28 a) 29 b) r hr hWF
theorem c_leftOfP {a b : Int32} {h g : Nat → Int32} {c : Nat} (r : Nat) (hr : r < nrw (M.2.1 1)) (hWF : WF (M.2.1 1)) : Con l G yX11_leftOf cX11_leftOf 4 (some .int) 3 0 0 [.ref o, .int (nI r)] (mw o ad G.2.1 (setHd (aR (sS (sS (sS M 28 a) 29 b) 27 (nI c)) 26 g) h)) (pI (f_left (M.2.1 1) h r (len (M.2.1 1) r)) (mw o ad G.2.1 (setHd (aR (sS (sS (sS M 28 a) 29 b) 27 (nI c)) 26 g) h))) := c_leftOfK (M := sS (sS M 28 a) 29 b) r hr hWF
theorem c_hoursGoP {a b : Int32} {h g : Nat → Int32} {c : Nat} (n : Nat) (hn : n < 2 ^ 31) (hWF : WF (M.2.1 1)) : Con l G yX11_hoursGo cX11_hoursGo 3 none 5 0 0 [.ref o, .int (nI n)] (mw o ad G.2.1 (setHd (aR (sS (sS (sS M 28 a) 29 b) 27 (nI c)) 26 g) h)) (pV (mw o ad G.2.1 (setHd (aR (sS (sS (sS M 28 a) 29 b) 27 (nI c)) 26 g) (f_hours (M.2.1 1) (M.1 24) (M.1 25) n h)))) := c_hoursGoK (M := sS (sS M 28 a) 29 b) n hn hWF
/-- the digits so far, with d + 1 days to come -/
def dgOk (d dg : Nat) : Prop := (d = 3 → dg = 0) ∧ (d = 2 → dg ≤ 8) ∧ (d = 1 → dg ≤ 88) ∧ (d = 0 → dg ≤ 888)
set_option maxHeartbeats 8000000 in
theorem c_plans (r : Nat) (hr : r < nrw (M.2.1 1)) (hWF : WF (M.2.1 1)) : ∀ (d c left dg : Nat) (a b : Int32) (h g : Nat → Int32), c + d + 1 ≤ 8 → left ≤ 8 → dgOk d dg → d ≤ 3 → Con l G yX11_plans cX11_plans 7 none (7 + d) 0 0 [.ref o, .int (nI r), .int (nI left), .int (nI (d + 1)), .int (nI dg)] (mw o ad G.2.1 (setHd (aR (sS (sS (sS M 28 a) 29 b) 27 (nI c)) 26 g) h)) (pEV (fun g2 => ∀ i, i < 2018 * c → g2 i = g i) (fun g2 => (mw o ad G.2.1 (setHd (aR (sS (sS (sS M 28 (f_pl (M.2.1 1) (M.1 24) (M.1 25) r d left dg h (a, b)).1) 29 (f_pl (M.2.1 1) (M.1 24) (M.1 25) r d left dg h (a, b)).2) 27 (nI c)) 26 g2) h)))) := by
  intro d
  induction d using Nat.strongRecOn with
  | ind d ihd =>
  intro c left dg a b h g hc hleft hdg hd3
  have hr12 : r < 12 := Nat.lt_of_lt_of_le hr hWF.2.2.1.2
  have hdg9 : dg ≤ 888 := by unfold dgOk at hdg; omega
  have hcnt : (if d = 0 then 1 else left + 1) ≤ 9 := by split <;> omega
  refine Con.mk (own := RX11) (by decide) rfl (Nat.le_of_ble_eq_true rfl) (fun X C => ?_)
  refine j_iload_n 1 C dX11_plans_0 rfl rfl ?_
  refine j_istore 3 C dX11_plans_1 rfl rfl (by decide) ?_
  have lp3 : ∀ (m : Nat) (j : Nat) (gc : Nat → Int32), 9 - j = m → j < (if d = 0 then 1 else left + 1) → (∀ i, i < 2018 * c → gc i = g i) → J X 7 0 0 (mw o ad G.2.1 (setHd (aR (sS (sS (sS M 28 (f_it (f_plj (M.2.1 1) (M.1 24) (M.1 25) r d left dg h) j (a, b)).1) 29 (f_it (f_plj (M.2.1 1) (M.1 24) (M.1 25) r d left dg h) j (a, b)).2) 27 (nI c)) 26 gc) h)) 3 [(0, .ref o), (1, .int (nI r)), (2, .int (nI left)), (3, .int (nI (d + 1))), (4, .int (nI dg)), (5, .int (nI (left - j)))] [] := by
    intro m
    induction m using Nat.strongRecOn with
    | ind m ilp3 =>
    intro j gc hm hj hgc
    refine j_iload 5 C dX11_plans_3 rfl rfl ?_
    refine j_iload_n 6 C dX11_plans_5 rfl rfl ?_
    refine j_iconst 7 C dX11_plans_6 rfl (v := nI 1) (by decide) ?_
    refine j_icmp_neN 14 10 C dX11_plans_7 (by decide) rfl (by omega) (by omega) (fun c7 => ?_) (fun c7 => ?_)
    · have hd0 : ¬ d = 0 := by omega
      refine j_iconst 15 C dX11_plans_14 rfl (v := nI 0) (by decide) ?_
      refine j_icmp_ltN 128 18 C dX11_plans_15 (by decide) rfl (by omega) (by omega) (fun c15 => absurd c15 (by omega)) (fun c15 => ?_)
      refine j_aload_n 19 C dX11_plans_18 rfl rfl ?_
      refine j_mV 22 C dX11_plans_19 rfl cw11_303 rfl (c_copy (by omega)) rfl (by omega) rfl (Nat.le_of_ble_eq_true rfl) ?_
      refine j_iconst 23 C dX11_plans_22 rfl (v := nI 0) (by decide) ?_
      refine j_istore 25 C dX11_plans_23 rfl rfl (by decide) ?_
      have lp25 : ∀ (m : Nat) (k : Nat), left - j - k = m → k ≤ left - j → J X 7 0 0 (mw o ad G.2.1 (setHd (aR (sS (sS (sS M 28 (f_it (f_plj (M.2.1 1) (M.1 24) (M.1 25) r d left dg h) j (a, b)).1) 29 (f_it (f_plj (M.2.1 1) (M.1 24) (M.1 25) r d left dg h) j (a, b)).2) 27 (nI (c + 1))) 26 (va_cpy h gc 0 (2018 * c) 2018)) (f_readsN (M.2.1 1) (M.1 24) (M.1 25) r k h))) 25 [(0, .ref o), (1, .int (nI r)), (2, .int (nI left)), (3, .int (nI (d + 1))), (4, .int (nI dg)), (5, .int (nI (left - j))), (6, .int (nI k))] [] := by
        intro m
        induction m using Nat.strongRecOn with
        | ind m ilp25 =>
        intro k hm hk
        refine j_iload 27 C dX11_plans_25 rfl rfl ?_
        refine j_iload 29 C dX11_plans_27 rfl rfl ?_
        refine j_icmp_geN 43 32 C dX11_plans_29 (by decide) rfl (by omega) (by omega) (fun c29 => ?_) (fun c29 => ?_)
        refine j_aload_n 44 C dX11_plans_43 rfl rfl ?_
        refine j_bipush 46 C dX11_plans_44 rfl (v := nI 24) (by decide) ?_
        refine j_mV 49 C dX11_plans_46 rfl cw11_325 rfl (c_hoursGoP _ (by decide) hWF) rfl (by omega) rfl (Nat.le_of_ble_eq_true rfl) ?_
        rw [show k = left - j by omega, show f_hours (M.2.1 1) (M.1 24) (M.1 25) 24 (f_readsN (M.2.1 1) (M.1 24) (M.1 25) r (left - j) h) = (f_day (M.2.1 1) (M.1 24) (M.1 25) r (left - j) h) from rfl]
        refine j_iload_n 50 C dX11_plans_49 rfl rfl ?_
        refine j_iconst 51 C dX11_plans_50 rfl (v := nI 1) (by decide) ?_
        refine j_icmp_leN 77 54 C dX11_plans_51 (by decide) rfl (by omega) (by omega) (fun c51 => absurd c51 (by omega)) (fun c51 => ?_)
        refine j_aload_n 55 C dX11_plans_54 rfl rfl ?_
        refine j_iload_n 56 C dX11_plans_55 rfl rfl ?_
        refine j_iload_n 57 C dX11_plans_56 rfl rfl ?_
        refine j_iload 59 C dX11_plans_57 rfl rfl ?_
        refine j_isubN 60 C dX11_plans_59 rfl (by omega) ?_
        rw [show left - (left - j) = j from by rw [if_neg hd0] at hj; omega]
        refine j_iload_n 61 C dX11_plans_60 rfl rfl ?_
        refine j_iconst 62 C dX11_plans_61 rfl (v := nI 1) (by decide) ?_
        refine j_isubN 63 C dX11_plans_62 rfl (by omega) ?_
        rw [show d + 1 - 1 = (d - 1) + 1 by omega]
        refine j_bipush 65 C dX11_plans_63 rfl (v := nI 10) (by decide) ?_
        refine j_iload 67 C dX11_plans_65 rfl rfl ?_
        refine j_imulN 68 C dX11_plans_67 rfl ?_
        refine j_iload 70 C dX11_plans_68 rfl rfl ?_
        refine j_iaddN 71 C dX11_plans_70 rfl ?_
        refine j_mEV 74 C dX11_plans_71 rfl cw11_345 rfl (ihd (d - 1) (by omega) (c + 1) j (10 * dg + (left - j)) (f_it (f_plj (M.2.1 1) (M.1 24) (M.1 25) r d left dg h) j (a, b)).1 (f_it (f_plj (M.2.1 1) (M.1 24) (M.1 25) r d left dg h) j (a, b)).2 (f_day (M.2.1 1) (M.1 24) (M.1 25) r (left - j) h) (va_cpy h gc 0 (2018 * c) 2018) (by omega) (by rw [if_neg hd0] at hj; omega) (by unfold dgOk at hdg ⊢; omega) (by omega)) rfl (by omega) rfl (Nat.le_of_ble_eq_true rfl) (fun g2 hg2 => ?_)
        have hs : (f_it (f_plj (M.2.1 1) (M.1 24) (M.1 25) r d left dg h) (j + 1) (a, b)) = f_pl (M.2.1 1) (M.1 24) (M.1 25) r (d - 1) j (10 * dg + (left - j)) (f_day (M.2.1 1) (M.1 24) (M.1 25) r (left - j) h) (f_it (f_plj (M.2.1 1) (M.1 24) (M.1 25) r d left dg h) j (a, b)) := by show (f_plj (M.2.1 1) (M.1 24) (M.1 25) r d left dg h) j (f_it (f_plj (M.2.1 1) (M.1 24) (M.1 25) r d left dg h) j (a, b)) = _; rw [f_plj, if_neg hd0]
        refine j_ws (mw o ad G.2.1 (setHd (aR (sS (sS (sS M 28 (f_it (f_plj (M.2.1 1) (M.1 24) (M.1 25) r d left dg h) (j + 1) (a, b)).1) 29 (f_it (f_plj (M.2.1 1) (M.1 24) (M.1 25) r d left dg h) (j + 1) (a, b)).2) 27 (nI (c + 1))) 26 g2) (f_day (M.2.1 1) (M.1 24) (M.1 25) r (left - j) h))) (by rw [hs]) ?_
        refine j_goto 118 C dX11_plans_74 (by decide) ?_
        refine j_aload_n 119 C dX11_plans_118 rfl rfl ?_
        refine j_mV 122 C dX11_plans_119 rfl cw11_309 rfl (c_takeBack (by omega)) rfl (by omega) rfl (Nat.le_of_ble_eq_true rfl) ?_
        refine j_extH h (fun j hj => cpy_back' hj hg2) ?_
        by_cases hj2 : j + 1 < (if d = 0 then 1 else left + 1)
        · refine j_iinc 125 C dX11_plans_122 rfl rfl (v := nI (left - (j + 1))) (by rw [show left - j = (left - (j + 1)) + 1 from by rw [if_neg hd0] at hj2; omega]; exact pk_m1 _) rfl (by decide) ?_
          refine j_goto 3 C dX11_plans_125 (by decide) ?_
          exact j_weak _ (by exact ⟨rfl, rfl, rfl, rfl, rfl, rfl, trivial⟩) (ilp3 _ (by omega) (j + 1) g2 rfl hj2 (fun i hi => (hg2 i (by omega)).trans ((cpy_low hi).trans (hgc i hi))))
        · refine j_iinc 125 C dX11_plans_122 rfl rfl (v := nI (left - j) + (-1)) rfl rfl (by decide) ?_
          refine j_goto 3 C dX11_plans_125 (by decide) ?_
          refine j_iload 5 C dX11_plans_3 rfl rfl ?_
          refine j_iload_n 6 C dX11_plans_5 rfl rfl ?_
          refine j_iconst 7 C dX11_plans_6 rfl (v := nI 1) (by decide) ?_
          refine j_icmp_neN 14 10 C dX11_plans_7 (by decide) rfl (by omega) (by omega) (fun c7 => ?_) (fun c7 => absurd c7 (by omega))
          refine j_iconst 15 C dX11_plans_14 rfl (v := nI 0) (by decide) ?_
          refine j_icmp_lt 128 18 C dX11_plans_15 (by decide) rfl (fun c15 => ?_) (fun c15 => absurd (by rw [show left - j = 0 from by rw [if_neg hd0] at hj hj2; omega]; exact dec_lt (by decide)) c15)
          exact j_vret C dX11_plans_128 ⟨rfl, _, (fun i hi => (hg2 i (by omega)).trans ((cpy_low hi).trans (hgc i hi))), by rw [f_pl_it, show (if d = 0 then 1 else left + 1) = j + 1 by omega]⟩
        · refine j_aload_n 33 C dX11_plans_32 rfl rfl ?_
          refine j_iload_n 34 C dX11_plans_33 rfl rfl ?_
          refine j_mV 37 C dX11_plans_34 rfl cw11_294 rfl (c_readsP r hr hWF) rfl (by omega) rfl (Nat.le_of_ble_eq_true rfl) ?_
          refine j_iincN 40 (z := 1) C dX11_plans_37 rfl rfl rfl (by decide) ?_
          refine j_goto 25 C dX11_plans_40 (by decide) ?_
          rw [show f_reads (M.2.1 1) (M.1 24) (M.1 25) r (f_readsN (M.2.1 1) (M.1 24) (M.1 25) r k h) = (f_readsN (M.2.1 1) (M.1 24) (M.1 25) r (k + 1) h) from rfl]
          exact j_weak _ (by exact ⟨rfl, rfl, rfl, rfl, rfl, rfl, rfl, trivial⟩) (ilp25 _ (by omega) (k + 1) rfl (by omega))
      exact j_weak _ (by exact ⟨rfl, rfl, rfl, rfl, rfl, rfl, rfl, trivial⟩) (lp25 _ 0 rfl (Nat.zero_le _))
    · have hd0 : d = 0 := by omega
      refine j_iload_n 11 C dX11_plans_10 rfl rfl ?_
      refine j_goto 15 C dX11_plans_11 (by decide) ?_
      refine j_icmp_ltN 128 18 C dX11_plans_15 (by decide) rfl (by omega) (by omega) (fun c15 => absurd c15 (by rw [if_pos hd0] at hj; omega)) (fun c15 => ?_)
      refine j_aload_n 19 C dX11_plans_18 rfl rfl ?_
      refine j_mV 22 C dX11_plans_19 rfl cw11_303 rfl (c_copy (by omega)) rfl (by omega) rfl (Nat.le_of_ble_eq_true rfl) ?_
      refine j_iconst 23 C dX11_plans_22 rfl (v := nI 0) (by decide) ?_
      refine j_istore 25 C dX11_plans_23 rfl rfl (by decide) ?_
      have lp25 : ∀ (m : Nat) (k : Nat), left - j - k = m → k ≤ left - j → J X 7 0 0 (mw o ad G.2.1 (setHd (aR (sS (sS (sS M 28 (f_it (f_plj (M.2.1 1) (M.1 24) (M.1 25) r d left dg h) j (a, b)).1) 29 (f_it (f_plj (M.2.1 1) (M.1 24) (M.1 25) r d left dg h) j (a, b)).2) 27 (nI (c + 1))) 26 (va_cpy h gc 0 (2018 * c) 2018)) (f_readsN (M.2.1 1) (M.1 24) (M.1 25) r k h))) 25 [(0, .ref o), (1, .int (nI r)), (2, .int (nI left)), (3, .int (nI (d + 1))), (4, .int (nI dg)), (5, .int (nI (left - j))), (6, .int (nI k))] [] := by
        intro m
        induction m using Nat.strongRecOn with
        | ind m ilp25 =>
        intro k hm hk
        refine j_iload 27 C dX11_plans_25 rfl rfl ?_
        refine j_iload 29 C dX11_plans_27 rfl rfl ?_
        refine j_icmp_geN 43 32 C dX11_plans_29 (by decide) rfl (by omega) (by omega) (fun c29 => ?_) (fun c29 => ?_)
        refine j_aload_n 44 C dX11_plans_43 rfl rfl ?_
        refine j_bipush 46 C dX11_plans_44 rfl (v := nI 24) (by decide) ?_
        refine j_mV 49 C dX11_plans_46 rfl cw11_325 rfl (c_hoursGoP _ (by decide) hWF) rfl (by omega) rfl (Nat.le_of_ble_eq_true rfl) ?_
        rw [show k = left - j by omega, show f_hours (M.2.1 1) (M.1 24) (M.1 25) 24 (f_readsN (M.2.1 1) (M.1 24) (M.1 25) r (left - j) h) = (f_day (M.2.1 1) (M.1 24) (M.1 25) r (left - j) h) from rfl]
        refine j_iload_n 50 C dX11_plans_49 rfl rfl ?_
        refine j_iconst 51 C dX11_plans_50 rfl (v := nI 1) (by decide) ?_
        refine j_icmp_leN 77 54 C dX11_plans_51 (by decide) rfl (by omega) (by omega) (fun c51 => ?_) (fun c51 => absurd c51 (by omega))
        refine j_aload_n 78 C dX11_plans_77 rfl rfl ?_
        refine rgH_bestPlan 81 C dX11_plans_78 rfl ?_
        rw [show (aR (sS (sS (sS M 28 (f_it (f_plj (M.2.1 1) (M.1 24) (M.1 25) r d left dg h) j (a, b)).1) 29 (f_it (f_plj (M.2.1 1) (M.1 24) (M.1 25) r d left dg h) j (a, b)).2) 27 (nI (c + 1))) 26 (va_cpy h gc 0 (2018 * c) 2018)).1 28 = (f_it (f_plj (M.2.1 1) (M.1 24) (M.1 25) r d left dg h) j (a, b)).1 from rfl]
        refine j_iconst 82 C dX11_plans_81 rfl (v := (-1)) (by decide) ?_
        refine j_icmp_eq 97 85 C dX11_plans_82 (by decide) rfl (fun c82 => ?_) (fun c82 => ?_)
        · have hs : (f_it (f_plj (M.2.1 1) (M.1 24) (M.1 25) r d left dg h) (j + 1) (a, b)) = (nI (10 * dg + (left - j)), (f_left (M.2.1 1) (f_day (M.2.1 1) (M.1 24) (M.1 25) r (left - j) h) r (len (M.2.1 1) r))) := by show (f_plj (M.2.1 1) (M.1 24) (M.1 25) r d left dg h) j (f_it (f_plj (M.2.1 1) (M.1 24) (M.1 25) r d left dg h) j (a, b)) = _; rw [f_plj, if_pos hd0, f_pl1, if_pos (Or.inl c82)]
          refine j_aload_n 98 C dX11_plans_97 rfl rfl ?_
          refine j_bipush 100 C dX11_plans_98 rfl (v := nI 10) (by decide) ?_
          refine j_iload 102 C dX11_plans_100 rfl rfl ?_
          refine j_imulN 103 C dX11_plans_102 rfl ?_
          refine j_iload 105 C dX11_plans_103 rfl rfl ?_
          refine j_iaddN 106 C dX11_plans_105 rfl ?_
          refine rpH_bestPlan 109 C dX11_plans_106 rfl ?_
          refine j_ws (mw o ad G.2.1 (setHd (aR (sS (sS (sS M 28 (nI (10 * dg + (left - j)))) 29 (f_it (f_plj (M.2.1 1) (M.1 24) (M.1 25) r d left dg h) j (a, b)).2) 27 (nI (c + 1))) 26 (va_cpy h gc 0 (2018 * c) 2018)) (f_day (M.2.1 1) (M.1 24) (M.1 25) r (left - j) h))) rfl ?_
          refine j_aload_n 110 C dX11_plans_109 rfl rfl ?_
          refine j_aload_n 111 C dX11_plans_110 rfl rfl ?_
          refine j_iload_n 112 C dX11_plans_111 rfl rfl ?_
          refine j_mI 115 C dX11_plans_112 rfl cw11_351 rfl (c_leftOfP r hr hWF) rfl (by omega) rfl (Nat.le_of_ble_eq_true rfl) ?_
          refine rpH_bestLeft 118 C dX11_plans_115 rfl ?_
          refine j_ws (mw o ad G.2.1 (setHd (aR (sS (sS (sS M 28 (nI (10 * dg + (left - j)))) 29 (f_left (M.2.1 1) (f_day (M.2.1 1) (M.1 24) (M.1 25) r (left - j) h) r (len (M.2.1 1) r))) 27 (nI (c + 1))) 26 (va_cpy h gc 0 (2018 * c) 2018)) (f_day (M.2.1 1) (M.1 24) (M.1 25) r (left - j) h))) rfl ?_
          refine j_ws (mw o ad G.2.1 (setHd (aR (sS (sS (sS M 28 (f_it (f_plj (M.2.1 1) (M.1 24) (M.1 25) r d left dg h) (j + 1) (a, b)).1) 29 (f_it (f_plj (M.2.1 1) (M.1 24) (M.1 25) r d left dg h) (j + 1) (a, b)).2) 27 (nI (c + 1))) 26 (va_cpy h gc 0 (2018 * c) 2018)) (f_day (M.2.1 1) (M.1 24) (M.1 25) r (left - j) h))) (by rw [hs]) ?_
          refine j_aload_n 119 C dX11_plans_118 rfl rfl ?_
          refine j_mV 122 C dX11_plans_119 rfl cw11_309 rfl (c_takeBack (by omega)) rfl (by omega) rfl (Nat.le_of_ble_eq_true rfl) ?_
          refine j_extH h (fun j hj => cpy_back hj) ?_
          by_cases hj2 : j + 1 < (if d = 0 then 1 else left + 1)
          · refine j_iinc 125 C dX11_plans_122 rfl rfl (v := nI (left - (j + 1))) (by rw [show left - j = (left - (j + 1)) + 1 from by rw [if_pos hd0] at hj2; omega]; exact pk_m1 _) rfl (by decide) ?_
            refine j_goto 3 C dX11_plans_125 (by decide) ?_
            exact j_weak _ (by exact ⟨rfl, rfl, rfl, rfl, rfl, rfl, trivial⟩) (ilp3 _ (by omega) (j + 1) (va_cpy h gc 0 (2018 * c) 2018) rfl hj2 (fun i hi => (cpy_low hi).trans (hgc i hi)))
          · refine j_iinc 125 C dX11_plans_122 rfl rfl (v := nI (left - j) + (-1)) rfl rfl (by decide) ?_
            refine j_goto 3 C dX11_plans_125 (by decide) ?_
            refine j_iload 5 C dX11_plans_3 rfl rfl ?_
            refine j_iload_n 6 C dX11_plans_5 rfl rfl ?_
            refine j_iconst 7 C dX11_plans_6 rfl (v := nI 1) (by decide) ?_
            refine j_icmp_neN 14 10 C dX11_plans_7 (by decide) rfl (by omega) (by omega) (fun c7 => absurd (by omega) c7) (fun c7 => ?_)
            refine j_iload_n 11 C dX11_plans_10 rfl rfl ?_
            refine j_goto 15 C dX11_plans_11 (by decide) ?_
            refine j_icmp_lt 128 18 C dX11_plans_15 (by decide) rfl (fun c15 => ?_) (fun c15 => absurd (by rw [show left - j = left from by rw [if_pos hd0] at hj; omega]; exact dec_lt (by omega)) c15)
            exact j_vret C dX11_plans_128 ⟨rfl, _, (fun i hi => (cpy_low hi).trans (hgc i hi)), by rw [f_pl_it, show (if d = 0 then 1 else left + 1) = j + 1 by omega]⟩
        · refine j_aload_n 86 C dX11_plans_85 rfl rfl ?_
          refine j_iload_n 87 C dX11_plans_86 rfl rfl ?_
          refine j_mI 90 C dX11_plans_87 rfl cw11_351 rfl (c_leftOfP r hr hWF) rfl (by omega) rfl (Nat.le_of_ble_eq_true rfl) ?_
          refine j_aload_n 91 C dX11_plans_90 rfl rfl ?_
          refine rgH_bestLeft 94 C dX11_plans_91 rfl ?_
          rw [show (aR (sS (sS (sS M 28 (f_it (f_plj (M.2.1 1) (M.1 24) (M.1 25) r d left dg h) j (a, b)).1) 29 (f_it (f_plj (M.2.1 1) (M.1 24) (M.1 25) r d left dg h) j (a, b)).2) 27 (nI (c + 1))) 26 (va_cpy h gc 0 (2018 * c) 2018)).1 29 = (f_it (f_plj (M.2.1 1) (M.1 24) (M.1 25) r d left dg h) j (a, b)).2 from rfl]
          refine j_icmp_le 118 97 C dX11_plans_94 (by decide) rfl (fun c94 => ?_) (fun c94 => ?_)
          · have hs : (f_it (f_plj (M.2.1 1) (M.1 24) (M.1 25) r d left dg h) (j + 1) (a, b)) = (f_it (f_plj (M.2.1 1) (M.1 24) (M.1 25) r d left dg h) j (a, b)) := by show (f_plj (M.2.1 1) (M.1 24) (M.1 25) r d left dg h) j (f_it (f_plj (M.2.1 1) (M.1 24) (M.1 25) r d left dg h) j (a, b)) = _; rw [f_plj, if_pos hd0, f_pl1, if_neg (fun z => z.elim c82 (fun z => z c94))]
            rw [← hs]
            refine j_aload_n 119 C dX11_plans_118 rfl rfl ?_
            refine j_mV 122 C dX11_plans_119 rfl cw11_309 rfl (c_takeBack (by omega)) rfl (by omega) rfl (Nat.le_of_ble_eq_true rfl) ?_
            refine j_extH h (fun j hj => cpy_back hj) ?_
            by_cases hj2 : j + 1 < (if d = 0 then 1 else left + 1)
            · refine j_iinc 125 C dX11_plans_122 rfl rfl (v := nI (left - (j + 1))) (by rw [show left - j = (left - (j + 1)) + 1 from by rw [if_pos hd0] at hj2; omega]; exact pk_m1 _) rfl (by decide) ?_
              refine j_goto 3 C dX11_plans_125 (by decide) ?_
              exact j_weak _ (by exact ⟨rfl, rfl, rfl, rfl, rfl, rfl, trivial⟩) (ilp3 _ (by omega) (j + 1) (va_cpy h gc 0 (2018 * c) 2018) rfl hj2 (fun i hi => (cpy_low hi).trans (hgc i hi)))
            · refine j_iinc 125 C dX11_plans_122 rfl rfl (v := nI (left - j) + (-1)) rfl rfl (by decide) ?_
              refine j_goto 3 C dX11_plans_125 (by decide) ?_
              refine j_iload 5 C dX11_plans_3 rfl rfl ?_
              refine j_iload_n 6 C dX11_plans_5 rfl rfl ?_
              refine j_iconst 7 C dX11_plans_6 rfl (v := nI 1) (by decide) ?_
              refine j_icmp_neN 14 10 C dX11_plans_7 (by decide) rfl (by omega) (by omega) (fun c7 => absurd (by omega) c7) (fun c7 => ?_)
              refine j_iload_n 11 C dX11_plans_10 rfl rfl ?_
              refine j_goto 15 C dX11_plans_11 (by decide) ?_
              refine j_icmp_lt 128 18 C dX11_plans_15 (by decide) rfl (fun c15 => ?_) (fun c15 => absurd (by rw [show left - j = left from by rw [if_pos hd0] at hj; omega]; exact dec_lt (by omega)) c15)
              exact j_vret C dX11_plans_128 ⟨rfl, _, (fun i hi => (cpy_low hi).trans (hgc i hi)), by rw [f_pl_it, show (if d = 0 then 1 else left + 1) = j + 1 by omega]⟩
          · have hs : (f_it (f_plj (M.2.1 1) (M.1 24) (M.1 25) r d left dg h) (j + 1) (a, b)) = (nI (10 * dg + (left - j)), (f_left (M.2.1 1) (f_day (M.2.1 1) (M.1 24) (M.1 25) r (left - j) h) r (len (M.2.1 1) r))) := by show (f_plj (M.2.1 1) (M.1 24) (M.1 25) r d left dg h) j (f_it (f_plj (M.2.1 1) (M.1 24) (M.1 25) r d left dg h) j (a, b)) = _; rw [f_plj, if_pos hd0, f_pl1, if_pos (Or.inr c94)]
            refine j_aload_n 98 C dX11_plans_97 rfl rfl ?_
            refine j_bipush 100 C dX11_plans_98 rfl (v := nI 10) (by decide) ?_
            refine j_iload 102 C dX11_plans_100 rfl rfl ?_
            refine j_imulN 103 C dX11_plans_102 rfl ?_
            refine j_iload 105 C dX11_plans_103 rfl rfl ?_
            refine j_iaddN 106 C dX11_plans_105 rfl ?_
            refine rpH_bestPlan 109 C dX11_plans_106 rfl ?_
            refine j_ws (mw o ad G.2.1 (setHd (aR (sS (sS (sS M 28 (nI (10 * dg + (left - j)))) 29 (f_it (f_plj (M.2.1 1) (M.1 24) (M.1 25) r d left dg h) j (a, b)).2) 27 (nI (c + 1))) 26 (va_cpy h gc 0 (2018 * c) 2018)) (f_day (M.2.1 1) (M.1 24) (M.1 25) r (left - j) h))) rfl ?_
            refine j_aload_n 110 C dX11_plans_109 rfl rfl ?_
            refine j_aload_n 111 C dX11_plans_110 rfl rfl ?_
            refine j_iload_n 112 C dX11_plans_111 rfl rfl ?_
            refine j_mI 115 C dX11_plans_112 rfl cw11_351 rfl (c_leftOfP r hr hWF) rfl (by omega) rfl (Nat.le_of_ble_eq_true rfl) ?_
            refine rpH_bestLeft 118 C dX11_plans_115 rfl ?_
            refine j_ws (mw o ad G.2.1 (setHd (aR (sS (sS (sS M 28 (nI (10 * dg + (left - j)))) 29 (f_left (M.2.1 1) (f_day (M.2.1 1) (M.1 24) (M.1 25) r (left - j) h) r (len (M.2.1 1) r))) 27 (nI (c + 1))) 26 (va_cpy h gc 0 (2018 * c) 2018)) (f_day (M.2.1 1) (M.1 24) (M.1 25) r (left - j) h))) rfl ?_
            refine j_ws (mw o ad G.2.1 (setHd (aR (sS (sS (sS M 28 (f_it (f_plj (M.2.1 1) (M.1 24) (M.1 25) r d left dg h) (j + 1) (a, b)).1) 29 (f_it (f_plj (M.2.1 1) (M.1 24) (M.1 25) r d left dg h) (j + 1) (a, b)).2) 27 (nI (c + 1))) 26 (va_cpy h gc 0 (2018 * c) 2018)) (f_day (M.2.1 1) (M.1 24) (M.1 25) r (left - j) h))) (by rw [hs]) ?_
            refine j_aload_n 119 C dX11_plans_118 rfl rfl ?_
            refine j_mV 122 C dX11_plans_119 rfl cw11_309 rfl (c_takeBack (by omega)) rfl (by omega) rfl (Nat.le_of_ble_eq_true rfl) ?_
            refine j_extH h (fun j hj => cpy_back hj) ?_
            by_cases hj2 : j + 1 < (if d = 0 then 1 else left + 1)
            · refine j_iinc 125 C dX11_plans_122 rfl rfl (v := nI (left - (j + 1))) (by rw [show left - j = (left - (j + 1)) + 1 from by rw [if_pos hd0] at hj2; omega]; exact pk_m1 _) rfl (by decide) ?_
              refine j_goto 3 C dX11_plans_125 (by decide) ?_
              exact j_weak _ (by exact ⟨rfl, rfl, rfl, rfl, rfl, rfl, trivial⟩) (ilp3 _ (by omega) (j + 1) (va_cpy h gc 0 (2018 * c) 2018) rfl hj2 (fun i hi => (cpy_low hi).trans (hgc i hi)))
            · refine j_iinc 125 C dX11_plans_122 rfl rfl (v := nI (left - j) + (-1)) rfl rfl (by decide) ?_
              refine j_goto 3 C dX11_plans_125 (by decide) ?_
              refine j_iload 5 C dX11_plans_3 rfl rfl ?_
              refine j_iload_n 6 C dX11_plans_5 rfl rfl ?_
              refine j_iconst 7 C dX11_plans_6 rfl (v := nI 1) (by decide) ?_
              refine j_icmp_neN 14 10 C dX11_plans_7 (by decide) rfl (by omega) (by omega) (fun c7 => absurd (by omega) c7) (fun c7 => ?_)
              refine j_iload_n 11 C dX11_plans_10 rfl rfl ?_
              refine j_goto 15 C dX11_plans_11 (by decide) ?_
              refine j_icmp_lt 128 18 C dX11_plans_15 (by decide) rfl (fun c15 => ?_) (fun c15 => absurd (by rw [show left - j = left from by rw [if_pos hd0] at hj; omega]; exact dec_lt (by omega)) c15)
              exact j_vret C dX11_plans_128 ⟨rfl, _, (fun i hi => (cpy_low hi).trans (hgc i hi)), by rw [f_pl_it, show (if d = 0 then 1 else left + 1) = j + 1 by omega]⟩
        · refine j_aload_n 33 C dX11_plans_32 rfl rfl ?_
          refine j_iload_n 34 C dX11_plans_33 rfl rfl ?_
          refine j_mV 37 C dX11_plans_34 rfl cw11_294 rfl (c_readsP r hr hWF) rfl (by omega) rfl (Nat.le_of_ble_eq_true rfl) ?_
          refine j_iincN 40 (z := 1) C dX11_plans_37 rfl rfl rfl (by decide) ?_
          refine j_goto 25 C dX11_plans_40 (by decide) ?_
          rw [show f_reads (M.2.1 1) (M.1 24) (M.1 25) r (f_readsN (M.2.1 1) (M.1 24) (M.1 25) r k h) = (f_readsN (M.2.1 1) (M.1 24) (M.1 25) r (k + 1) h) from rfl]
          exact j_weak _ (by exact ⟨rfl, rfl, rfl, rfl, rfl, rfl, rfl, trivial⟩) (ilp25 _ (by omega) (k + 1) rfl (by omega))
      exact j_weak _ (by exact ⟨rfl, rfl, rfl, rfl, rfl, rfl, rfl, trivial⟩) (lp25 _ 0 rfl (Nat.zero_le _))
  exact j_weak _ (by exact ⟨rfl, rfl, rfl, rfl, rfl, rfl, trivial⟩) (lp3 _ 0 g rfl (by split <;> omega) (fun _ _ => rfl))
theorem c_isPlanP {a b : Int32} {h g : Nat → Int32} {c : Nat} (row n days : Int32) (hWF : WF (M.2.1 1)) : Con l G yX11_isPlan cX11_isPlan 4 (some .boolean) 3 0 0 [.ref o, .int row, .int n, .int days] (mw o ad G.2.1 (setHd (aR (sS (sS (sS M 28 a) 29 b) 27 (nI c)) 26 g) h)) (pI (bI (isI row (nrw (M.2.1 1)) ∧ isP n 9 ∧ isP days 5)) (mw o ad G.2.1 (setHd (aR (sS (sS (sS M 28 a) 29 b) 27 (nI c)) 26 g) h))) := c_isPlan (M := sS (sS M 28 a) 29 b) row n days hWF
set_option maxHeartbeats 4000000 in
theorem c_spread {a b : Int32} {h g : Nat → Int32} {c : Nat} (row n0 d0 : Int32) (hc : c < 4) (hWF : WF (M.2.1 1)) : Con l G yX11_spread cX11_spread 4 (some .int) 11 0 0 [.ref o, .int row, .int n0, .int d0] (mw o ad G.2.1 (setHd (aR (sS (sS (sS M 28 a) 29 b) 27 (nI c)) 26 g) h)) (pE (if isI row (nrw (M.2.1 1)) ∧ isP n0 9 ∧ isP d0 5 then (f_pl (M.2.1 1) (M.1 24) (M.1 25) (tn row) (tn d0 - 1) (tn n0) 0 h (-1, b)).1 else -1) (fun g2 => ∀ i, i < 2018 * c → g2 i = g i) (fun g2 => (mw o ad G.2.1 (setHd (aR (sS (sS (sS M 28 (if isI row (nrw (M.2.1 1)) ∧ isP n0 9 ∧ isP d0 5 then (f_pl (M.2.1 1) (M.1 24) (M.1 25) (tn row) (tn d0 - 1) (tn n0) 0 h (-1, b)).1 else a)) 29 (if isI row (nrw (M.2.1 1)) ∧ isP n0 9 ∧ isP d0 5 then (f_pl (M.2.1 1) (M.1 24) (M.1 25) (tn row) (tn d0 - 1) (tn n0) 0 h (-1, b)).2 else b)) 27 (nI c)) 26 g2) h)))) := by
  refine Con.mk (own := RX11) (by decide) rfl (Nat.le_of_ble_eq_true rfl) (fun X C => ?_)
  refine j_aload_n 1 C dX11_spread_0 rfl rfl ?_
  refine j_iload_n 2 C dX11_spread_1 rfl rfl ?_
  refine j_iload_n 3 C dX11_spread_2 rfl rfl ?_
  refine j_iload_n 4 C dX11_spread_3 rfl rfl ?_
  refine j_mI 7 C dX11_spread_4 rfl cw11_361 rfl (c_isPlanP _ _ _ hWF) rfl (by omega) rfl (Nat.le_of_ble_eq_true rfl) ?_
  refine j_if_neB 12 10 C dX11_spread_7 (by decide) rfl (fun c7 => ?_) (fun c7 => ?_)
  · obtain ⟨cr, cn, cd⟩ := (id c7)
    obtain ⟨r, hr, rfl⟩ := isI_of cr
    obtain ⟨n, hn1, hn, rfl⟩ := isP_of cn (by decide)
    obtain ⟨d, hd1, hd, rfl⟩ := isP_of cd (by decide)
    have hr12 : r < 12 := Nat.lt_of_lt_of_le hr hWF.2.2.1.2
    refine j_aload_n 13 C dX11_spread_12 rfl rfl ?_
    refine j_iconst 14 C dX11_spread_13 rfl (v := (-1)) (by decide) ?_
    refine rpH_bestPlan 17 C dX11_spread_14 rfl ?_
    refine j_ws (mw o ad G.2.1 (setHd (aR (sS (sS (sS M 28 (-1)) 29 b) 27 (nI c)) 26 g) h)) rfl ?_
    obtain ⟨d, rfl⟩ : ∃ e, d = e + 1 := ⟨d - 1, by omega⟩
    refine j_aload_n 18 C dX11_spread_17 rfl rfl ?_
    refine j_iload_n 19 C dX11_spread_18 rfl rfl ?_
    refine j_iload_n 20 C dX11_spread_19 rfl rfl ?_
    refine j_iload_n 21 C dX11_spread_20 rfl rfl ?_
    refine j_iconst 22 C dX11_spread_21 rfl (v := nI 0) (by decide) ?_
    refine j_mEV 25 C dX11_spread_22 rfl cw11_345 rfl (c_plans r hr hWF d c n 0 (-1) b h g (by omega) (by omega) (by unfold dgOk; omega) (by omega)) rfl (by omega) rfl (Nat.le_of_ble_eq_true rfl) (fun g2 hg2 => ?_)
    refine j_aload_n 26 C dX11_spread_25 rfl rfl ?_
    refine rgH_bestPlan 29 C dX11_spread_26 rfl ?_
    exact j_iret C dX11_spread_29 ⟨by rw [if_pos c7, tn_nI (by omega), tn_nI (by omega), tn_nI (by omega)]; rfl, g2, hg2, by rw [if_pos c7, if_pos c7, tn_nI (by omega), tn_nI (by omega), tn_nI (by omega)]; rfl⟩
  · refine j_iconst 11 C dX11_spread_10 rfl (v := (-1)) (by decide) ?_
    exact j_iret C dX11_spread_11 ⟨by rw [if_neg c7], g, fun _ _ => rfl, by rw [if_neg c7, if_neg c7]⟩
end S10
