def rdOk (M : MS) (row n0 : Int32) : Prop := isI row (nrw (M.2.1 1)) ∧ isP n0 51
abbrev rdHN (M : MS) (h : Nat → Int32) (row n0 : Int32) : Nat → Int32 := f_readsN (M.2.1 1) (M.1 24) (M.1 25) (tn row) (tn n0) h
def rdM (M : MS) (h : Nat → Int32) (row n0 : Int32) : MS := if isI row (nrw (M.2.1 1)) ∧ isP n0 51 then sitM M (f_readsN (M.2.1 1) (M.1 24) (M.1 25) (tn row) (tn n0) h) (tn row) n0 (nI 0) (f_ones (f_slips (M.2.1 1) h (tn row)) 12) else M
def rdH (M : MS) (h : Nat → Int32) (row n0 : Int32) : Nat → Int32 := if isI row (nrw (M.2.1 1)) ∧ isP n0 51 then f_readsN (M.2.1 1) (M.1 24) (M.1 25) (tn row) (tn n0) h else h
def lnM (M : MS) (h : Nat → Int32) (row : Int32) : MS := if isI row (nrw (M.2.1 1)) then sitM M (f_lrn (M.2.1 1) (M.1 24) (M.1 25) (tn row) 40 1 0 h).2 (tn row) (if (f_lrn (M.2.1 1) (M.1 24) (M.1 25) (tn row) 40 1 0 h).1 = -1 then nI 40 else (f_lrn (M.2.1 1) (M.1 24) (M.1 25) (tn row) 40 1 0 h).1) (if (f_lrn (M.2.1 1) (M.1 24) (M.1 25) (tn row) 40 1 0 h).1 = -1 then nI 2 else nI 1) (f_ones (f_slips (M.2.1 1) h (tn row)) 12) else M
def lnH (M : MS) (h : Nat → Int32) (row : Int32) : Nat → Int32 := if isI row (nrw (M.2.1 1)) then (f_lrn (M.2.1 1) (M.1 24) (M.1 25) (tn row) 40 1 0 h).2 else h
def dOk (M : MS) (hours row rd : Int64) : Prop := (lN 0 ≤ hours ∧ hours ≤ 200) ∧ (lN 0 ≤ row ∧ row ≤ (nI (nrw (M.2.1 1)) - nI 1).toInt64) ∧ (lN 0 ≤ rd ∧ rd ≤ 50)
def f_dH (M : MS) (h : Nat → Int32) (hours : Int64) : Nat → Int32 := f_hours (M.2.1 1) (M.1 24) (M.1 25) (tn hours.toInt32) h
/-- j threes of a SLOT's numbers are done: how many SITTINGS, the state -/
noncomputable def f_dys (nm : Nat → Int64) (b : Nat) (M : MS) (h : Nat → Int32) : Nat → Nat × MS × (Nat → Int32)
  | 0 => (0, M, h)
  | j + 1 => @ite _ (dOk (f_dys nm b M h j).2.1 (nm (b + 3 * j)) (nm (b + 3 * j + 1)) (nm (b + 3 * j + 2))) (Classical.propDecidable _)
      (if nm (b + 3 * j + 2) = lN 0 then ((f_dys nm b M h j).1 + 1, lnM (f_dys nm b M h j).2.1 (f_dH (f_dys nm b M h j).2.1 (f_dys nm b M h j).2.2 (nm (b + 3 * j))) (nm (b + 3 * j + 1)).toInt32, lnH (f_dys nm b M h j).2.1 (f_dH (f_dys nm b M h j).2.1 (f_dys nm b M h j).2.2 (nm (b + 3 * j))) (nm (b + 3 * j + 1)).toInt32)
       else ((f_dys nm b M h j).1 + 1, rdM (f_dys nm b M h j).2.1 (f_dH (f_dys nm b M h j).2.1 (f_dys nm b M h j).2.2 (nm (b + 3 * j))) (nm (b + 3 * j + 1)).toInt32 (nm (b + 3 * j + 2)).toInt32, rdH (f_dys nm b M h j).2.1 (f_dH (f_dys nm b M h j).2.1 (f_dys nm b M h j).2.2 (nm (b + 3 * j))) (nm (b + 3 * j + 1)).toInt32 (nm (b + 3 * j + 2)).toInt32))
      (f_dys nm b M h j)
theorem WF_used {wd : Nat → Int32} {r : Nat} {v : Int32} (hr : r < 12) (h : WF wd) : WF (upd wd (34 + 14 * r + 1 + 12) v) := by
  have e : ∀ j, ¬ j = 34 + 14 * r + 1 + 12 → upd wd (34 + 14 * r + 1 + 12) v j = wd j := fun j hj => pk_un hj
  have e1 : nth (upd wd (34 + 14 * r + 1 + 12) v) = nth wd := by unfold nth; rw [e 1 (by omega)]
  have e2 : nrw (upd wd (34 + 14 * r + 1 + 12) v) = nrw wd := by unfold nrw; rw [e 2 (by omega)]
  have el : ∀ q, len (upd wd (34 + 14 * r + 1 + 12) v) q = len wd q := fun q => by unfold len; rw [e _ (by omega)]
  obtain ⟨hL, h1, h2, hrr⟩ := h
  refine ⟨fun lw hlw => ?_, ?_, ?_, fun q hq => ?_⟩
  · rw [e _ (by omega), e _ (by omega)]; exact hL lw hlw
  · rw [e 1 (by omega), e1]; exact h1
  · rw [e 2 (by omega), e2]; exact h2
  · rw [e2] at hq
    rw [e _ (by omega), el, e1]
    obtain ⟨⟨a1, a2, a3⟩, a4⟩ := hrr q hq
    refine ⟨⟨a1, a2, a3⟩, fun k hk => ?_⟩
    have et : th (upd wd (34 + 14 * r + 1 + 12) v) q k = th wd q k := by unfold th; rw [e _ (by omega)]
    rw [e _ (by omega), et]
    exact a4 k hk
theorem nrw_used {wd : Nat → Int32} {r : Nat} {v : Int32} : nrw (upd wd (34 + 14 * r + 1 + 12) v) = nrw wd := by unfold nrw; rw [pk_un (by omega)]
/-- what days() keeps -/
def DI (M0 M : MS) : Prop := WF (M.2.1 1) ∧ (∃ sn, sn ≤ 60 ∧ M.1 3 = nI sn) ∧ M.2.1 34 = M0.2.1 34 ∧ M.2.2 = M0.2.2 ∧ M.1 24 = M0.1 24 ∧ M.1 25 = M0.1 25
theorem bkN_le {M : MS} {sn : Nat} (h : M.1 3 = nI sn) (h6 : sn ≤ 60) : bkN M + 1 ≤ 60 := by
  unfold bkN
  by_cases e : M.1 3 = nI 60
  · rw [if_pos e]; decide
  · rw [if_neg e, h, tn_nI (by omega)]
    have : ¬ sn = 60 := fun z => e (by rw [h, z])
    omega
theorem DI_sit {M0 M : MS} {h : Nat → Int32} {r : Nat} {rd how ahead : Int32} (hr : r < nrw (M.2.1 1)) (hD : DI M0 M) : DI M0 (sitM M h r rd how ahead) := by
  obtain ⟨h1, ⟨sn, h2, h3⟩, h4⟩ := hD
  refine ⟨?_, ⟨bkN M + 1, bkN_le h3 h2, rfl⟩, h4⟩
  exact WF_used (Nat.lt_of_lt_of_le hr h1.2.2.1.2) h1
theorem DI_rd {M0 M : MS} {h : Nat → Int32} {row n0 : Int32} (hD : DI M0 M) : DI M0 (rdM M h row n0) := by
  unfold rdM
  by_cases e : isI row (nrw (M.2.1 1)) ∧ isP n0 51
  · rw [if_pos e]
    obtain ⟨j, hj, ej⟩ := isI_of e.1
    exact DI_sit (by rw [ej, tn_nI (by have := hD.1.2.2.1.2; omega)]; exact hj) hD
  · rw [if_neg e]; exact hD
theorem DI_ln {M0 M : MS} {h : Nat → Int32} {row : Int32} (hD : DI M0 M) : DI M0 (lnM M h row) := by
  unfold lnM
  by_cases e : isI row (nrw (M.2.1 1))
  · rw [if_pos e]
    obtain ⟨j, hj, ej⟩ := isI_of e
    exact DI_sit (by rw [ej, tn_nI (by have := hD.1.2.2.1.2; omega)]; exact hj) hD
  · rw [if_neg e]; exact hD
theorem f_dys_le (nm : Nat → Int64) (b : Nat) (M : MS) (h : Nat → Int32) : ∀ j, (f_dys nm b M h j).1 ≤ j
  | 0 => Nat.le_refl _
  | j + 1 => by
    have := f_dys_le nm b M h j
    unfold f_dys
    split
    · split
      · show (f_dys nm b M h j).1 + 1 ≤ j + 1; omega
      · show (f_dys nm b M h j).1 + 1 ≤ j + 1; omega
    · omega
section S18
variable {l : Launch} {G : GG} {o : Nat} {ad : Nat → Nat} {M : MS} {h g : Nat → Int32} {c : Nat}
theorem c_readF (row n0 : Int32) {sn : Nat} (hsn : M.1 3 = nI sn) (hsn60 : sn ≤ 60) (hWF : WF (M.2.1 1)) : Con l G yX11_read cX11_read 5 (some .int) 5 0 0 [.ref o, .int row, .int n0] (mw o ad G.2.1 (setHd M h)) (pI (if isI row (nrw (M.2.1 1)) ∧ isP n0 51 then nI (bkN M + 1) else -2) (mw o ad G.2.1 (setHd (rdM M h row n0) (rdH M h row n0)))) := c_read row n0 hsn hsn60 hWF
theorem c_learnF (row : Int32) {sn : Nat} (hsn : M.1 3 = nI sn) (hsn60 : sn ≤ 60) (hWF : WF (M.2.1 1)) : Con l G yX11_learn cX11_learn 4 (some .int) 6 0 0 [.ref o, .int row] (mw o ad G.2.1 (setHd M h)) (pI (if isI row (nrw (M.2.1 1)) then (f_lrn (M.2.1 1) (M.1 24) (M.1 25) (tn row) 40 1 0 h).1 else -2) (mw o ad G.2.1 (setHd (lnM M h row) (lnH M h row)))) := c_learn row hsn hsn60 hWF
set_option maxHeartbeats 4000000 in
theorem c_days (slot : Int32) {sn : Nat} (hsn : M.1 3 = nI sn) (hsn60 : sn ≤ 60) (hS : WS (M.2.1 34) (M.2.1 35)) (hWF : WF (M.2.1 1)) : Con l G yX11_days cX11_days 11 (some .int) 7 0 0 [.ref o, .int slot] (mw o ad G.2.1 (setHd M h)) (pI (if isI slot 4 then (if M.2.1 34 (tn slot) = -1 then -6 else nI (f_dys (M.2.2 36) (60 * tn slot) M h (tn (M.2.1 34 (tn slot)) / 3)).1) else -2) (mw o ad G.2.1 (setHd (if isI slot 4 ∧ ¬ M.2.1 34 (tn slot) = -1 then (f_dys (M.2.2 36) (60 * tn slot) M h (tn (M.2.1 34 (tn slot)) / 3)).2.1 else M) (if isI slot 4 ∧ ¬ M.2.1 34 (tn slot) = -1 then (f_dys (M.2.2 36) (60 * tn slot) M h (tn (M.2.1 34 (tn slot)) / 3)).2.2 else h)))) := by
  refine Con.mk (own := RX11) (by decide) rfl (Nat.le_of_ble_eq_true rfl) (fun X C => ?_)
  refine j_iload_n 1 C dX11_days_0 rfl rfl ?_
  refine j_sI 4 C dX11_days_1 rfl cw11_368 (c_isSlot _) rfl (by decide) ⟨Nat.le_refl _, Nat.le_refl _⟩ rfl (Nat.le_of_ble_eq_true rfl) ?_
  refine j_if_neB 10 7 C dX11_days_4 (by decide) rfl (fun c4 => ?_) (fun c4 => ?_)
  · obtain ⟨s, hs, rfl⟩ := isI_of c4
    obtain ⟨hcm, -⟩ := hS s hs
    refine j_aload_n 11 C dX11_days_10 rfl rfl ?_
    refine rgH_many 14 C dX11_days_11 rfl ?_
    refine j_iload_n 15 C dX11_days_14 rfl rfl ?_
    refine raH_many 16 C dX11_days_15 rfl _ (by omega) rfl ?_
    refine j_iconst 17 C dX11_days_16 rfl (v := (-1)) (by decide) ?_
    refine j_icmp_ne 23 20 C dX11_days_17 (by decide) rfl (fun c17 => ?_) (fun c17 => ?_)
    · obtain ⟨cm, hcm60, hcm⟩ := hcm.resolve_left c17
      refine j_iconst 24 C dX11_days_23 rfl (v := nI 0) (by decide) ?_
      refine j_istore_n 25 C dX11_days_24 rfl rfl (by decide) ?_
      refine j_iconst 26 C dX11_days_25 rfl (v := nI 0) (by decide) ?_
      refine j_istore_n 27 C dX11_days_26 rfl rfl (by decide) ?_
      have lp27 : ∀ (m : Nat) (j cnt : Nat) (M2 : MS) (h2 : Nat → Int32), 60 - j = m → 3 * j ≤ cm → (f_dys (M.2.2 36) (60 * s) M h j) = (cnt, M2, h2) → DI M M2 → cnt ≤ j → J X 11 0 0 (mw o ad G.2.1 (setHd M2 h2)) 27 [(0, .ref o), (1, .int (nI s)), (2, .int (nI cnt)), (3, .int (nI (3 * j)))] [] := by
        intro m
        induction m using Nat.strongRecOn with
        | ind m ilp27 =>
        intro j cnt M2 h2 hm hj hdy hD2 hcj; obtain ⟨sn, hsn60, hsn⟩ := hD2.2.1
        refine j_iload_n 28 C dX11_days_27 rfl rfl ?_
        refine j_iconst 29 C dX11_days_28 rfl (v := nI 2) (by decide) ?_
        refine j_iaddN 30 C dX11_days_29 rfl ?_
        refine j_aload_n 31 C dX11_days_30 rfl rfl ?_
        refine rgH_many 34 C dX11_days_31 rfl ?_
        refine j_iload_n 35 C dX11_days_34 rfl rfl ?_
        refine raH_many 36 C dX11_days_35 rfl _ (by omega) rfl ?_
        rw [show M2.2.1 34 s = nI cm from by rw [hD2.2.2.1]; exact hcm]
        refine j_icmp_geN 172 39 C dX11_days_36 (by decide) rfl (by omega) (by omega) (fun c36 => ?_) (fun c36 => ?_)
        · refine j_iload_n 173 C dX11_days_172 rfl rfl ?_
          exact j_iret C dX11_days_173 ⟨by rw [if_pos c4, tn_nI (by omega), if_neg c17, hcm, tn_nI (by omega), show cm / 3 = j by omega, hdy], by rw [if_pos ⟨c4, by rw [tn_nI (by omega)]; exact c17⟩, if_pos ⟨c4, by rw [tn_nI (by omega)]; exact c17⟩, tn_nI (by omega), hcm, tn_nI (by omega), show cm / 3 = j by omega, hdy]⟩
        · refine j_aload_n 40 C dX11_days_39 rfl rfl ?_
          refine rgH_numbers 43 C dX11_days_40 rfl ?_
          refine j_bipush 45 C dX11_days_43 rfl (v := nI 60) (by decide) ?_
          refine j_iload_n 46 C dX11_days_45 rfl rfl ?_
          refine j_imulN 47 C dX11_days_46 rfl ?_
          refine j_iload_n 48 C dX11_days_47 rfl rfl ?_
          refine j_iaddN 49 C dX11_days_48 rfl ?_
          refine raH_numbers 50 C dX11_days_49 rfl _ (by omega) rfl ?_
          rw [show M2.2.2 36 = (M.2.2 36) from by rw [hD2.2.2.2.1]]
          refine j_lstore 52 C dX11_days_50 rfl rfl rfl (by decide) ?_
          refine j_aload_n 53 C dX11_days_52 rfl rfl ?_
          refine rgH_numbers 56 C dX11_days_53 rfl ?_
          refine j_bipush 58 C dX11_days_56 rfl (v := nI 60) (by decide) ?_
          refine j_iload_n 59 C dX11_days_58 rfl rfl ?_
          refine j_imulN 60 C dX11_days_59 rfl ?_
          refine j_iload_n 61 C dX11_days_60 rfl rfl ?_
          refine j_iaddN 62 C dX11_days_61 rfl ?_
          refine j_iconst 63 C dX11_days_62 rfl (v := nI 1) (by decide) ?_
          refine j_iaddN 64 C dX11_days_63 rfl ?_
          refine raH_numbers 65 C dX11_days_64 rfl _ (by omega) rfl ?_
          rw [show M2.2.2 36 = (M.2.2 36) from by rw [hD2.2.2.2.1]]
          refine j_lstore 67 C dX11_days_65 rfl rfl rfl (by decide) ?_
          refine j_aload_n 68 C dX11_days_67 rfl rfl ?_
          refine rgH_numbers 71 C dX11_days_68 rfl ?_
          refine j_bipush 73 C dX11_days_71 rfl (v := nI 60) (by decide) ?_
          refine j_iload_n 74 C dX11_days_73 rfl rfl ?_
          refine j_imulN 75 C dX11_days_74 rfl ?_
          refine j_iload_n 76 C dX11_days_75 rfl rfl ?_
          refine j_iaddN 77 C dX11_days_76 rfl ?_
          refine j_iconst 78 C dX11_days_77 rfl (v := nI 2) (by decide) ?_
          refine j_iaddN 79 C dX11_days_78 rfl ?_
          refine raH_numbers 80 C dX11_days_79 rfl _ (by omega) rfl ?_
          rw [show M2.2.2 36 = (M.2.2 36) from by rw [hD2.2.2.2.1]]
          refine j_lstore 82 C dX11_days_80 rfl rfl rfl (by decide) ?_
          refine j_lload 84 C dX11_days_82 rfl rfl ?_
          refine j_lconst 85 C dX11_days_84 rfl (v := lN 0) (by decide) ?_
          refine j_ldc2 88 C dX11_days_85 rfl (v := (200)) kc11_323 ?_
          refine j_sI 91 C dX11_days_88 rfl cw11_88 (c_in _ _ _) rfl (by decide) ⟨Nat.le_refl _, Nat.le_refl _⟩ rfl (Nat.le_of_ble_eq_true rfl) ?_
          refine j_if_eqB 166 94 C dX11_days_91 (by decide) rfl (fun c91 => ?_) (fun c91 => ?_)
          · have hst : (f_dys (M.2.2 36) (60 * s) M h (j + 1)) = (cnt, M2, h2) := by unfold f_dys; rw [hdy]; exact if_neg (fun z => c91 z.1)
            refine j_iincN 169 (z := 3) C dX11_days_166 rfl rfl rfl (by decide) ?_
            refine j_goto 27 C dX11_days_169 (by decide) ?_
            rw [show 3 * j + 3 = 3 * (j + 1) by omega]
            exact j_weak _ (by exact ⟨rfl, rfl, rfl, rfl, trivial⟩) (ilp27 _ (by omega) (j + 1) cnt M2 h2 rfl (by omega) hst hD2 (by omega))
          · refine j_lload 96 C dX11_days_94 rfl rfl ?_
            refine j_lconst 97 C dX11_days_96 rfl (v := lN 0) (by decide) ?_
            refine j_aload_n 98 C dX11_days_97 rfl rfl ?_
            refine rgH_world 101 C dX11_days_98 rfl ?_
            refine j_iconst 102 C dX11_days_101 rfl (v := nI 2) (by decide) ?_
            refine raH_world 103 C dX11_days_102 rfl _ (by omega) rfl ?_
            rw [hD2.1.2.2.1.1]
            refine j_iconst 104 C dX11_days_103 rfl (v := nI 1) (by decide) ?_
            refine j_isub 105 C dX11_days_104 rfl ?_
            refine j_i2l 106 C dX11_days_105 rfl ?_
            refine j_sI 109 C dX11_days_106 rfl cw11_88 (c_in _ _ _) rfl (by decide) ⟨Nat.le_refl _, Nat.le_refl _⟩ rfl (Nat.le_of_ble_eq_true rfl) ?_
            refine j_if_eqB 166 112 C dX11_days_109 (by decide) rfl (fun c109 => ?_) (fun c109 => ?_)
            · have hst : (f_dys (M.2.2 36) (60 * s) M h (j + 1)) = (cnt, M2, h2) := by unfold f_dys; rw [hdy]; exact if_neg (fun z => c109 z.2.1)
              refine j_iincN 169 (z := 3) C dX11_days_166 rfl rfl rfl (by decide) ?_
              refine j_goto 27 C dX11_days_169 (by decide) ?_
              rw [show 3 * j + 3 = 3 * (j + 1) by omega]
              exact j_weak _ (by exact ⟨rfl, rfl, rfl, rfl, trivial⟩) (ilp27 _ (by omega) (j + 1) cnt M2 h2 rfl (by omega) hst hD2 (by omega))
            · refine j_lload 114 C dX11_days_112 rfl rfl ?_
              refine j_lconst 115 C dX11_days_114 rfl (v := lN 0) (by decide) ?_
              refine j_ldc2 118 C dX11_days_115 rfl (v := (50)) kc11_318 ?_
              refine j_sI 121 C dX11_days_118 rfl cw11_88 (c_in _ _ _) rfl (by decide) ⟨Nat.le_refl _, Nat.le_refl _⟩ rfl (Nat.le_of_ble_eq_true rfl) ?_
              refine j_if_neB 127 124 C dX11_days_121 (by decide) rfl (fun c121 => ?_) (fun c121 => ?_)
              · have hok : dOk M2 ((M.2.2 36) (60 * s + 3 * j)) ((M.2.2 36) (60 * s + 3 * j + 1)) ((M.2.2 36) (60 * s + 3 * j + 2)) := ⟨c91, c109, c121⟩
                refine j_aload_n 128 C dX11_days_127 rfl rfl ?_
                refine j_lload 130 C dX11_days_128 rfl rfl ?_
                refine j_l2i 131 C dX11_days_130 rfl ?_
                refine j_mV 134 C dX11_days_131 rfl cw11_325 rfl (c_hoursGoR (M := M2) _ hD2.1) rfl (by decide) rfl (Nat.le_of_ble_eq_true rfl) ?_
                refine j_lload 136 C dX11_days_134 rfl rfl ?_
                refine j_lconst 137 C dX11_days_136 rfl (v := lN 0) (by decide) ?_
                refine j_lcmp 138 C dX11_days_137 rfl ?_
                refine j_if_neL 151 141 C dX11_days_138 (by decide) rfl (fun c138 => ?_) (fun c138 => ?_)
                · have hst : (f_dys (M.2.2 36) (60 * s) M h (j + 1)) = (cnt + 1, rdM M2 (f_dH M2 h2 ((M.2.2 36) (60 * s + 3 * j))) ((M.2.2 36) (60 * s + 3 * j + 1)).toInt32 ((M.2.2 36) (60 * s + 3 * j + 2)).toInt32, rdH M2 (f_dH M2 h2 ((M.2.2 36) (60 * s + 3 * j))) ((M.2.2 36) (60 * s + 3 * j + 1)).toInt32 ((M.2.2 36) (60 * s + 3 * j + 2)).toInt32) := by unfold f_dys; rw [hdy]; refine (if_pos hok).trans ?_; rw [if_neg c138]
                  refine j_aload_n 152 C dX11_days_151 rfl rfl ?_
                  refine j_lload 154 C dX11_days_152 rfl rfl ?_
                  refine j_l2i 155 C dX11_days_154 rfl ?_
                  refine j_lload 157 C dX11_days_155 rfl rfl ?_
                  refine j_l2i 158 C dX11_days_157 rfl ?_
                  refine j_mI 161 C dX11_days_158 rfl cw11_385 rfl (c_readF (M := M2) _ _ hsn hsn60 hD2.1) rfl (by decide) rfl (Nat.le_of_ble_eq_true rfl) ?_
                  refine j_istore 163 C dX11_days_161 rfl rfl (by decide) ?_
                  refine j_iincN 166 (z := 1) C dX11_days_163 rfl rfl rfl (by decide) ?_
                  refine j_iincN 169 (z := 3) C dX11_days_166 rfl rfl rfl (by decide) ?_
                  refine j_goto 27 C dX11_days_169 (by decide) ?_
                  rw [show 3 * j + 3 = 3 * (j + 1) by omega]
                  exact j_weak _ (by exact ⟨rfl, rfl, rfl, rfl, trivial⟩) (ilp27 _ (by omega) (j + 1) (cnt + 1) _ _ rfl (by omega) hst (DI_rd hD2) (by omega))
                · have hst : (f_dys (M.2.2 36) (60 * s) M h (j + 1)) = (cnt + 1, lnM M2 (f_dH M2 h2 ((M.2.2 36) (60 * s + 3 * j))) ((M.2.2 36) (60 * s + 3 * j + 1)).toInt32, lnH M2 (f_dH M2 h2 ((M.2.2 36) (60 * s + 3 * j))) ((M.2.2 36) (60 * s + 3 * j + 1)).toInt32) := by unfold f_dys; rw [hdy]; refine (if_pos hok).trans ?_; rw [if_pos c138]
                  refine j_aload_n 142 C dX11_days_141 rfl rfl ?_
                  refine j_lload 144 C dX11_days_142 rfl rfl ?_
                  refine j_l2i 145 C dX11_days_144 rfl ?_
                  refine j_mI 148 C dX11_days_145 rfl cw11_382 rfl (c_learnF (M := M2) _ hsn hsn60 hD2.1) rfl (by decide) rfl (Nat.le_of_ble_eq_true rfl) ?_
                  refine j_goto 161 C dX11_days_148 (by decide) ?_
                  refine j_istore 163 C dX11_days_161 rfl rfl (by decide) ?_
                  refine j_iincN 166 (z := 1) C dX11_days_163 rfl rfl rfl (by decide) ?_
                  refine j_iincN 169 (z := 3) C dX11_days_166 rfl rfl rfl (by decide) ?_
                  refine j_goto 27 C dX11_days_169 (by decide) ?_
                  rw [show 3 * j + 3 = 3 * (j + 1) by omega]
                  exact j_weak _ (by exact ⟨rfl, rfl, rfl, rfl, trivial⟩) (ilp27 _ (by omega) (j + 1) (cnt + 1) _ _ rfl (by omega) hst (DI_ln hD2) (by omega))
              · have hst : (f_dys (M.2.2 36) (60 * s) M h (j + 1)) = (cnt, M2, h2) := by unfold f_dys; rw [hdy]; exact if_neg (fun z => c121 z.2.2)
                refine j_goto 166 C dX11_days_124 (by decide) ?_
                refine j_iincN 169 (z := 3) C dX11_days_166 rfl rfl rfl (by decide) ?_
                refine j_goto 27 C dX11_days_169 (by decide) ?_
                rw [show 3 * j + 3 = 3 * (j + 1) by omega]
                exact j_weak _ (by exact ⟨rfl, rfl, rfl, rfl, trivial⟩) (ilp27 _ (by omega) (j + 1) cnt M2 h2 rfl (by omega) hst hD2 (by omega))
      exact j_weak _ (by exact ⟨rfl, rfl, rfl, rfl, trivial⟩) (lp27 _ 0 0 M h rfl (by omega) rfl ⟨hWF, ⟨sn, hsn60, hsn⟩, rfl, rfl, rfl, rfl⟩ (Nat.le_refl _))
    · refine j_bipush 22 C dX11_days_20 rfl (v := (-6)) (by decide) ?_
      exact j_iret C dX11_days_22 ⟨by rw [if_pos c4, tn_nI (by omega), if_pos c17], by rw [if_neg (fun z => z.2 (by rw [tn_nI (by omega)]; exact c17)), if_neg (fun z => z.2 (by rw [tn_nI (by omega)]; exact c17))]⟩
  · refine j_bipush 9 C dX11_days_7 rfl (v := (-2)) (by decide) ?_
    exact j_iret C dX11_days_9 ⟨by rw [if_neg c4], by rw [if_neg (fun z => c4 z.1), if_neg (fun z => c4 z.1)]⟩
end S18
