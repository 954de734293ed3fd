theorem dy_of {x : Int64} {n : Nat} (hn : n < 2 ^ 31) (h : ¬ x < lN 0 ∧ x < lN n) : ∃ a, a < n ∧ x = lN a := by
  obtain ⟨h1, h2⟩ := h
  rw [Int64.not_lt, Int64.le_iff_toInt_le] at h1
  rw [Int64.lt_iff_toInt_lt, pk_lT (by omega)] at h2
  have e0 : (lN 0).toInt = 0 := rfl
  refine ⟨x.toInt.toNat, by omega, ?_⟩
  apply Int64.toInt_inj.mp
  rw [pk_lT (by omega)]; omega
theorem dy_cond {M : MS} {u v w0 : Int64} (h12 : nrw (M.2.1 1) ≤ 12) : ((¬ u < lN 0 ∧ ¬ 200 < u) ∧ (¬ v < lN 0 ∧ ¬ (lN (nrw (M.2.1 1))) ≤ v) ∧ ¬ w0 < lN 0 ∧ ¬ 50 < w0) ↔ dOk M u v w0 := by
  have e0 : (lN 0).toInt = 0 := rfl
  have e1 : (lN (nrw (M.2.1 1))).toInt = nrw (M.2.1 1) := pk_lT (by omega)
  have e2 : (200 : Int64).toInt = 200 := rfl
  have e3 : (50 : Int64).toInt = 50 := rfl
  unfold dOk
  simp only [Int64.lt_iff_toInt_lt, Int64.le_iff_toInt_le, t64]
  rw [pk_sub_toInt (by omega) (by omega), e0, e1, e2, e3]
  omega
theorem dy_vals {M : MS} {u v w0 : Int64} (h12 : nrw (M.2.1 1) ≤ 12) (h : dOk M u v w0) : ∃ a r k, (a ≤ 200 ∧ u = lN a) ∧ (r < nrw (M.2.1 1) ∧ v = lN r) ∧ k ≤ 50 ∧ w0 = lN k := by
  obtain ⟨h1, h2, h3⟩ := (dy_cond h12).mpr h
  have e2 : (200 : Int64) = lN 200 := rfl
  have e3 : (50 : Int64) = lN 50 := rfl
  obtain ⟨a, ha, ea⟩ := dy_of (x := u) (n := 201) (by omega) ⟨h1.1, by have := h1.2; rw [Int64.not_lt, Int64.le_iff_toInt_le, e2, pk_lT (by omega)] at this; rw [Int64.lt_iff_toInt_lt, pk_lT (by omega)]; omega⟩
  obtain ⟨r, hr, er⟩ := dy_of (x := v) (n := nrw (M.2.1 1)) (by omega) ⟨h2.1, Int64.not_le.mp h2.2⟩
  obtain ⟨k, hk, ek⟩ := dy_of (x := w0) (n := 51) (by omega) ⟨h3.1, by have := h3.2; rw [Int64.not_lt, Int64.le_iff_toInt_le, e3, pk_lT (by omega)] at this; rw [Int64.lt_iff_toInt_lt, pk_lT (by omega)]; omega⟩
  exact ⟨a, r, k, ⟨by omega, ea⟩, ⟨hr, er⟩, by omega, ek⟩
section DY
variable {nm : Nat → Int64} {b : Nat} {M : MS} {h : Nat → Int32} {j a r k : Nat}
theorem dys_no (hn : ¬ dOk (f_dys nm b M h j).2.1 (nm (b + 3 * j)) (nm (b + 3 * j + 1)) (nm (b + 3 * j + 2))) : f_dys nm b M h (j + 1) = f_dys nm b M h j := by
  rw [f_dys]; exact if_neg hn
theorem dys_rd (hn : dOk (f_dys nm b M h j).2.1 (nm (b + 3 * j)) (nm (b + 3 * j + 1)) (nm (b + 3 * j + 2))) (h24 : (f_dys nm b M h j).2.1.1 24 = -1) (h12 : nrw ((f_dys nm b M h j).2.1.2.1 1) ≤ 12) (ea : nm (b + 3 * j) = lN a) (ha : a ≤ 200) (er : nm (b + 3 * j + 1) = lN r) (hr : r < nrw ((f_dys nm b M h j).2.1.2.1 1)) (ek : nm (b + 3 * j + 2) = lN k) (hk : k ≤ 50) (hk1 : 0 < k) (cv : Int32) : f_dys nm b M h (j + 1) = ((f_dys nm b M h j).1 + 1, sitM (f_dys nm b M h j).2.1 (f_readsN ((f_dys nm b M h j).2.1.2.1 1) (-1) cv r k (f_hours ((f_dys nm b M h j).2.1.2.1 1) (-1) cv a (f_dys nm b M h j).2.2)) r (nI k) (nI 0) (f_ones (f_slips ((f_dys nm b M h j).2.1.2.1 1) (f_hours ((f_dys nm b M h j).2.1.2.1 1) (-1) cv a (f_dys nm b M h j).2.2) r) 12), f_readsN ((f_dys nm b M h j).2.1.2.1 1) (-1) cv r k (f_hours ((f_dys nm b M h j).2.1.2.1 1) (-1) cv a (f_dys nm b M h j).2.2)) := by
  have e0 : ¬ nm (b + 3 * j + 2) = lN 0 := by
    rw [ek]; intro z
    have := congrArg Int64.toInt z
    rw [pk_lT (by omega), pk_lT (by omega)] at this
    omega
  rw [f_dys]
  refine (if_pos hn).trans ?_
  rw [if_neg e0]
  unfold rdM rdH f_dH
  rw [ea, er, ek, lN_i, lN_i, lN_i, h24, if_pos ⟨isI_nI hr (by omega), by rw [isP, nI_toInt (by omega)]; omega⟩, if_pos ⟨isI_nI hr (by omega), by rw [isP, nI_toInt (by omega)]; omega⟩, tn_nI (by omega), tn_nI (by omega), tn_nI (by omega), hours_cv _ cv, readsN_cv _ cv]
theorem dys_ln (hn : dOk (f_dys nm b M h j).2.1 (nm (b + 3 * j)) (nm (b + 3 * j + 1)) (nm (b + 3 * j + 2))) (h24 : (f_dys nm b M h j).2.1.1 24 = -1) (h12 : nrw ((f_dys nm b M h j).2.1.2.1 1) ≤ 12) (ea : nm (b + 3 * j) = lN a) (ha : a ≤ 200) (er : nm (b + 3 * j + 1) = lN r) (hr : r < nrw ((f_dys nm b M h j).2.1.2.1 1)) (ek : nm (b + 3 * j + 2) = lN 0) (cv : Int32) : f_dys nm b M h (j + 1) = ((f_dys nm b M h j).1 + 1, sitM (f_dys nm b M h j).2.1 (f_lrn ((f_dys nm b M h j).2.1.2.1 1) (-1) cv r 40 1 0 (f_hours ((f_dys nm b M h j).2.1.2.1 1) (-1) cv a (f_dys nm b M h j).2.2)).2 r (if (f_lrn ((f_dys nm b M h j).2.1.2.1 1) (-1) cv r 40 1 0 (f_hours ((f_dys nm b M h j).2.1.2.1 1) (-1) cv a (f_dys nm b M h j).2.2)).1 = -1 then nI 40 else (f_lrn ((f_dys nm b M h j).2.1.2.1 1) (-1) cv r 40 1 0 (f_hours ((f_dys nm b M h j).2.1.2.1 1) (-1) cv a (f_dys nm b M h j).2.2)).1) (if (f_lrn ((f_dys nm b M h j).2.1.2.1 1) (-1) cv r 40 1 0 (f_hours ((f_dys nm b M h j).2.1.2.1 1) (-1) cv a (f_dys nm b M h j).2.2)).1 = -1 then nI 2 else nI 1) (f_ones (f_slips ((f_dys nm b M h j).2.1.2.1 1) (f_hours ((f_dys nm b M h j).2.1.2.1 1) (-1) cv a (f_dys nm b M h j).2.2) r) 12), (f_lrn ((f_dys nm b M h j).2.1.2.1 1) (-1) cv r 40 1 0 (f_hours ((f_dys nm b M h j).2.1.2.1 1) (-1) cv a (f_dys nm b M h j).2.2)).2) := by
  rw [f_dys]
  refine (if_pos hn).trans ?_
  rw [if_pos ek]
  unfold lnM lnH f_dH
  rw [ea, er, lN_i, lN_i, h24, if_pos (isI_nI hr (by omega)), if_pos (isI_nI hr (by omega)), tn_nI (by omega), tn_nI (by omega), hours_cv _ cv, lrn_cv _ cv]
end DY
/-- what a day leaves alone -/
def DF (M N : MS) : Prop := (N.1 12 = M.1 12 ∧ (N.1 19 = M.1 19 ∧ N.1 20 = M.1 20) ∧ N.1 24 = M.1 24 ∧ N.1 27 = M.1 27) ∧ N.2.1 11 = M.2.1 11 ∧ BEQ M N
theorem DF_sit {M N : MS} {h : Nat → Int32} {r : Nat} {rd how ahead : Int32} (e : DF M N) : DF M (sitM N h r rd how ahead) := e
theorem DF_rd {M N : MS} {h : Nat → Int32} {x y : Int32} (e : DF M N) : DF M (rdM N h x y) := by unfold rdM; split; exact DF_sit e; exact e
theorem DF_ln {M N : MS} {h : Nat → Int32} {x : Int32} (e : DF M N) : DF M (lnM N h x) := by unfold lnM; split; exact DF_sit e; exact e
theorem dys_fr {nm : Nat → Int64} {b : Nat} {M : MS} {h : Nat → Int32} : ∀ j, DF M (f_dys nm b M h j).2.1
  | 0 => ⟨⟨rfl, ⟨rfl, rfl⟩, rfl, rfl⟩, rfl, BEQ_r M⟩
  | j + 1 => by
    have ih := dys_fr (nm := nm) (b := b) (M := M) (h := h) j
    rw [f_dys]
    split
    · split
      · exact DF_ln ih
      · exact DF_rd ih
    · exact ih
theorem dys_le {nm : Nat → Int64} {b : Nat} {M : MS} {h : Nat → Int32} : ∀ j, (f_dys nm b M h j).1 ≤ j
  | 0 => Nat.le_refl _
  | j + 1 => by
    have ih := dys_le (nm := nm) (b := b) (M := M) (h := h) j
    rw [f_dys]
    split
    · split
      · show (f_dys nm b M h j).1 + 1 ≤ _; omega
      · show (f_dys nm b M h j).1 + 1 ≤ _; omega
    · omega
/-- a STATE against the reference's state and a head -/
def STm (M : MS) (hd : Nat → Int32) (Sh St Sr Sb : MS) (bh bt bl : Nat) : Prop := ST (M.2.1 1) hd (M.1 3) (M.1 4) (M.2.1 5) Sh St Sr Sb bh bt bl
section SR13
variable {l : Launch} {G : GG} {x : Int32} {M : MS} {s ml bh bt bl : Nat} {zn zs zm zh zt zr zb zl : Nat → Nat} {Sn Ss Sm Sh St Sr Sb Sl : MS} {fi fs : Nat → Option Nat} {pa dk : Option Nat} {R : va_W}
theorem K10_daysN (hf : isI x 4 → fs (tn x) = none) : Con l G yX10_days cX10_days 11 (some .int) 2 0 0 [.ref (zn 50), .int x] (nBk zn (zs 50) G.2.1 Sn fi fs pa dk ++ (sBk zs (zm 50) (zb 50) G.2.1 Ss ++ (mBk zm (zt 50) (zr 50) (zh 50) G.2.1 Sm ++ (hBk zh G.2.1 Sh ++ (tBk zt G.2.1 St ++ (rBk zr G.2.1 Sr ++ (bBk zb G.2.1 Sb ++ (R)))))))) (pI (if isI x 4 then -6 else -2) (nBk zn (zs 50) G.2.1 Sn fi fs pa dk ++ (sBk zs (zm 50) (zb 50) G.2.1 Ss ++ (mBk zm (zt 50) (zr 50) (zh 50) G.2.1 Sm ++ (hBk zh G.2.1 Sh ++ (tBk zt G.2.1 St ++ (rBk zr G.2.1 Sr ++ (bBk zb G.2.1 Sb ++ (R))))))))) := by
  refine Con.mk (own := RX10) (by decide) rfl (Nat.le_of_ble_eq_true rfl) (fun X C => ?_)
  refine j_iload_n 1 C dX10_days_0 rfl rfl ?_
  refine j_sI 4 C dX10_days_1 rfl cw10_224 K10_isSlot rfl (by decide) ⟨Nat.le_refl _, Nat.le_refl _⟩ rfl (Nat.le_of_ble_eq_true rfl) ?_
  refine j_if_neB 10 7 C dX10_days_4 (by decide) rfl (fun c4 => ?_) (fun c4 => ?_)
  · have hfs := hf c4
    obtain ⟨s, hs, rfl⟩ := isI_of c4
    rw [tn_nI (by omega)] at hfs
    refine j_aload_n 11 C dX10_days_10 rfl rfl ?_
    refine Lng_n6 14 C dX10_days_11 rfl fl10_30 ?_
    refine j_iload_n 15 C dX10_days_14 rfl rfl ?_
    refine Lna_n6 16 C dX10_days_15 rfl _ (by omega) rfl ?_
    refine j_topV (v' := .null) (by rw [hfs]; rfl) ?_
    refine j_astore_nN 17 C dX10_days_16 rfl rfl (by decide) ?_
    refine j_aload_nN 18 C dX10_days_17 rfl rfl ?_
    refine j_ifnonnullN 21 C dX10_days_18 rfl ?_
    refine j_bipush 23 C dX10_days_21 rfl (v := (-6)) (by decide) ?_
    exact j_iret C dX10_days_23 ⟨by rw [if_pos c4], rfl⟩
  · refine j_bipush 9 C dX10_days_7 rfl (v := (-2)) (by decide) ?_
    exact j_iret C dX10_days_9 ⟨by rw [if_neg c4], rfl⟩
theorem lrn_k {LL : Int32 × (Nat → Int32)} (hv : LL.1 = -1 ∨ ∃ k, 1 ≤ k ∧ k < 1 + 40 ∧ LL.1 = nI k) : ∃ k, k ≤ 50 ∧ (if LL.1 = -1 then nI 40 else LL.1) = nI k := by
  rcases hv with z | ⟨n, hn0, hn, z⟩
  · exact ⟨40, by omega, by rw [if_pos z]⟩
  · exact ⟨n, by omega, by rw [z, if_neg (nI_nmO (by omega))]⟩
theorem lrn_o {LL : Int32 × (Nat → Int32)} : ∃ ow, ow ≤ 2 ∧ (if LL.1 = -1 then nI 2 else nI 1) = nI ow := by
  by_cases z : LL.1 = -1
  · exact ⟨2, by omega, by rw [if_pos z]⟩
  · exact ⟨1, by omega, by rw [if_neg z]⟩
set_option maxHeartbeats 2000000 in
theorem K10_daysS (hs : s < 4) (hfs : fs s = some (zl 50)) (hlen : Sl.1 1 = nI ml) (hm6 : ml ≤ 60) (hnum : ∀ j, j < ml → Sl.2.2 2 j = M.2.2 36 (60 * s + j)) (hST : STm M (M.2.1 2) Sh St Sr Sb (bh + 200 * 0) (bt + 50 * 0) (bl + 0)) (h24 : M.1 24 = -1) (h3 : Sm.1 3 = -1) (h4 : Sm.1 4 = -1) (hbh : bh ≤ 100000000) (hbt : bt ≤ 100000000) (hbl : bl ≤ 100000) : Con l G yX10_days cX10_days 11 (some .int) 9 0 0 [.ref (zn 50), .int (nI s)] (nBk zn (zs 50) G.2.1 Sn fi fs pa dk ++ (sBk zs (zm 50) (zb 50) G.2.1 Ss ++ (mBk zm (zt 50) (zr 50) (zh 50) G.2.1 Sm ++ (hBk zh G.2.1 Sh ++ (tBk zt G.2.1 St ++ (rBk zr G.2.1 Sr ++ (bBk zb G.2.1 Sb ++ (lBk zl G.2.1 Sl ++ (R))))))))) (qI (fun q : MS × MS × MS => (nBk zn (zs 50) G.2.1 Sn fi fs pa dk ++ (sBk zs (zm 50) (zb 50) G.2.1 Ss ++ (mBk zm (zt 50) (zr 50) (zh 50) G.2.1 Sm ++ (hBk zh G.2.1 q.1 ++ (tBk zt G.2.1 St ++ (rBk zr G.2.1 q.2.1 ++ (bBk zb G.2.1 q.2.2 ++ (lBk zl G.2.1 Sl ++ (R)))))))))) (fun v q => v = nI (f_dys (M.2.2 36) (60 * s) M (M.2.1 2) (ml / 3)).1 ∧ STm (f_dys (M.2.2 36) (60 * s) M (M.2.1 2) (ml / 3)).2.1 (f_dys (M.2.2 36) (60 * s) M (M.2.1 2) (ml / 3)).2.2 q.1 St q.2.1 q.2.2 (bh + 200 * (ml / 3)) (bt + 50 * (ml / 3)) (bl + ml / 3))) := by
  refine Con.mk (own := RX10) (by decide) rfl (Nat.le_of_ble_eq_true rfl) (fun X C => ?_)
  have lp29 : ∀ (m : Nat) (j : Nat) (Shj Srj Sbj : MS), ml - 3 * j = m → 3 * j ≤ ml → STm (f_dys (M.2.2 36) (60 * s) M (M.2.1 2) j).2.1 (f_dys (M.2.2 36) (60 * s) M (M.2.1 2) j).2.2 Shj St Srj Sbj (bh + 200 * j) (bt + 50 * j) (bl + j) → J X 11 0 0 (nBk zn (zs 50) G.2.1 Sn fi fs pa dk ++ (sBk zs (zm 50) (zb 50) G.2.1 Ss ++ (mBk zm (zt 50) (zr 50) (zh 50) G.2.1 Sm ++ (hBk zh G.2.1 Shj ++ (tBk zt G.2.1 St ++ (rBk zr G.2.1 Srj ++ (bBk zb G.2.1 Sbj ++ (lBk zl G.2.1 Sl ++ (R))))))))) 29 [(0, .ref (zn 50)), (2, .ref (zl 50)), (3, .int (nI (f_dys (M.2.2 36) (60 * s) M (M.2.1 2) j).1)), (4, .int (nI (3 * j)))] [] := by
    intro m
    induction m using Nat.strongRecOn with
    | ind m ilp29 =>
    intro j Shj Srj Sbj hm hj hQ
    obtain ⟨⟨hTj, hRj, hUj, hWj⟩, hr, td, nb, ⟨hHj, hhr, htd⟩, ⟨hb0j, hb3j, hb6j⟩, hbkj, hlsj, hbwj⟩ := id hQ
    have h12 := hWj.2.2.1.2; have hlj := dys_le (nm := M.2.2 36) (b := 60 * s) (M := M) (h := M.2.1 2) j
    have h24j : (f_dys (M.2.2 36) (60 * s) M (M.2.1 2) j).2.1.1 24 = -1 := (dys_fr j).1.2.2.1.trans h24
    refine j_iload 31 C dX10_days_29 rfl rfl ?_
    refine j_iconst 32 C dX10_days_31 rfl (v := nI 2) (by decide) ?_
    refine j_iaddN 33 C dX10_days_32 rfl ?_
    refine j_aload_n 34 C dX10_days_33 rfl rfl ?_
    refine Ug_l1 37 C dX10_days_34 rfl fl10_227 ?_
    refine j_top hlen ?_
    refine j_icmp_geN 140 40 C dX10_days_37 (by decide) rfl (by omega) (by omega) (fun c37 => ?_) (fun c37 => ?_)
    · obtain rfl : j = ml / 3 := by omega
      refine j_iload_n 141 C dX10_days_140 rfl rfl ?_
      exact j_iret C dX10_days_141 ⟨_, (Shj, Srj, Sbj), ⟨rfl, hQ⟩, rfl, rfl⟩
    · refine j_aload_n 41 C dX10_days_40 rfl rfl ?_
      refine Ug_l2 44 C dX10_days_41 rfl fl10_230 ?_
      refine j_iload 46 C dX10_days_44 rfl rfl ?_
      refine Ua_l2 47 C dX10_days_46 rfl (3 * j) (by omega) rfl ?_
      refine j_topL (x' := M.2.2 36 (60 * s + 3 * j)) (hnum (3 * j) (by omega)) ?_
      refine j_lstore 49 C dX10_days_47 rfl rfl rfl (by decide) ?_
      refine j_aload_n 50 C dX10_days_49 rfl rfl ?_
      refine Ug_l2 53 C dX10_days_50 rfl fl10_230 ?_
      refine j_iload 55 C dX10_days_53 rfl rfl ?_
      refine j_iconst 56 C dX10_days_55 rfl (v := nI 1) (by decide) ?_
      refine j_iaddN 57 C dX10_days_56 rfl ?_
      refine Ua_l2 58 C dX10_days_57 rfl (3 * j + 1) (by omega) rfl ?_
      refine j_topL (x' := M.2.2 36 (60 * s + 3 * j + 1)) (hnum (3 * j + 1) (by omega)) ?_
      refine j_lstore 60 C dX10_days_58 rfl rfl rfl (by decide) ?_
      refine j_aload_n 61 C dX10_days_60 rfl rfl ?_
      refine Ug_l2 64 C dX10_days_61 rfl fl10_230 ?_
      refine j_iload 66 C dX10_days_64 rfl rfl ?_
      refine j_iconst 67 C dX10_days_66 rfl (v := nI 2) (by decide) ?_
      refine j_iaddN 68 C dX10_days_67 rfl ?_
      refine Ua_l2 69 C dX10_days_68 rfl (3 * j + 2) (by omega) rfl ?_
      refine j_topL (x' := M.2.2 36 (60 * s + 3 * j + 2)) (hnum (3 * j + 2) (by omega)) ?_
      refine j_lstore 71 C dX10_days_69 rfl rfl rfl (by decide) ?_
      refine j_aload_n 72 C dX10_days_71 rfl rfl ?_
      refine j_lload 74 C dX10_days_72 rfl rfl ?_
      refine j_lload 76 C dX10_days_74 rfl rfl ?_
      refine j_lload 78 C dX10_days_76 rfl rfl ?_
      refine j_callVs 81 C dX10_days_78 rfl cw10_234 (K10_canSit hRj hWj) rfl ⟨by decide, by decide, by decide⟩ rfl (Nat.le_of_ble_eq_true rfl) 0 rfl (ci := 10) (T := TX10) (N := 9) rfl (fun v w hp => ?_)
      obtain ⟨rfl, rfl⟩ := hp
      refine j_if_eqB 134 84 C dX10_days_81 (by decide) rfl (fun c81 => ?_) (fun c81 => ?_)
      · have hno : ¬ dOk (f_dys (M.2.2 36) (60 * s) M (M.2.1 2) j).2.1 (M.2.2 36 (60 * s + 3 * j)) (M.2.2 36 (60 * s + 3 * j + 1)) (M.2.2 36 (60 * s + 3 * j + 2)) := fun q => c81 ((dy_cond h12).mpr q)
        have eF := dys_no hno
        refine j_iincN 137 (z := 3) C dX10_days_134 rfl rfl rfl (by decide) ?_
        refine j_goto 29 C dX10_days_137 (by decide) ?_
        have hQ2 : STm (f_dys (M.2.2 36) (60 * s) M (M.2.1 2) (j + 1)).2.1 (f_dys (M.2.2 36) (60 * s) M (M.2.1 2) (j + 1)).2.2 Shj St Srj Sbj (bh + 200 * (j + 1)) (bt + 50 * (j + 1)) (bl + (j + 1)) := by rw [eF]; exact ST_m hQ (by omega) (by omega) (by omega)
        rw [show 3 * j + 3 = 3 * (j + 1) by omega, ← eF]
        exact j_weak _ (by exact ⟨rfl, rfl, rfl, rfl, trivial⟩) (ilp29 _ (by omega) (j + 1) _ _ _ rfl (by omega) hQ2)
      · have hok : dOk (f_dys (M.2.2 36) (60 * s) M (M.2.1 2) j).2.1 (M.2.2 36 (60 * s + 3 * j)) (M.2.2 36 (60 * s + 3 * j + 1)) (M.2.2 36 (60 * s + 3 * j + 2)) := (dy_cond h12).mp c81
        obtain ⟨a, r, k, ⟨ha, ea⟩, ⟨hrw, er⟩, hk, ek⟩ := dy_vals h12 hok
        refine j_aload_n 85 C dX10_days_84 rfl rfl ?_
        refine Ug_n4 88 C dX10_days_85 rfl fl10_20 ?_
        refine Ug_s0 91 C dX10_days_88 rfl fl10_61 ?_
        refine j_lload 93 C dX10_days_91 rfl rfl ?_
        refine j_l2i 94 C dX10_days_93 rfl ?_
        refine j_top (x' := nI a) (by rw [ea]; exact lN_i a) ?_
        refine Lnr_MV 97 C dX10_days_94 rfl cw10_124 rfl (K3_passHours (cl := -1) (cv := Sm.1 5) hTj hWj hHj h4 rfl (by omega) (by omega)) rfl (by decide) ⟨Nat.le_refl _, Nat.le_refl _⟩ rfl (Nat.le_of_ble_eq_true rfl) (fun s94 hs94 => ?_)
        obtain ⟨t1, ht1, -, hH2⟩ := hs94
        refine j_lload 99 C dX10_days_97 rfl rfl ?_
        refine j_lconst 100 C dX10_days_99 rfl (v := lN 0) (by decide) ?_
        refine j_lcmp 101 C dX10_days_100 rfl ?_
        refine j_if_neL 118 104 C dX10_days_101 (by decide) rfl (fun c101 => ?_) (fun c101 => ?_)
        · refine j_aload_n 119 C dX10_days_118 rfl rfl ?_
          refine Ug_n4 122 C dX10_days_119 rfl fl10_20 ?_
          refine j_lload 124 C dX10_days_122 rfl rfl ?_
          refine j_l2i 125 C dX10_days_124 rfl ?_
          refine j_top (x' := nI r) (by rw [er]; exact lN_i r) ?_
          refine j_lload 127 C dX10_days_125 rfl rfl ?_
          refine j_l2i 128 C dX10_days_127 rfl ?_
          refine j_top (x' := nI k) (by rw [ek]; exact lN_i k) ?_
          refine Lnr_SV 131 C dX10_days_128 rfl cw10_111 rfl (K7_sitToRead (cl := -1) (cv := Sm.1 5) hTj hRj hWj hH2 h3 h4 rfl (by decide) (by omega) (by omega) hrw hb0j hb6j) rfl (by decide) ⟨Nat.le_refl _, Nat.le_refl _⟩ rfl (Nat.le_of_ble_eq_true rfl) (fun s128 hs128 => ?_)
          have hk1 : 0 < k := Nat.pos_of_ne_zero (fun z => c101 (by rw [ek, z]))
          obtain ⟨hH3, hs2, hBA⟩ := hs128
          have eF := dys_rd hok h24j h12 ea ha er hrw ek hk hk1 (Sm.1 5)
          have hq := sit_ST (ow := 0) ⟨hTj, hRj, hUj, hWj⟩ hH3 hb3j hb6j hbkj hlsj (BW_m hbwj (Nat.le_refl _) (by omega) (by omega)) hrw hk rfl (by omega) rfl hBA (bh := bh + 200 * (j + 1)) (bt := bt + 50 * (j + 1)) (by omega) (by omega) (by omega) (by omega)
          rw [← hs2] at hq
          have hQ2 : STm (f_dys (M.2.2 36) (60 * s) M (M.2.1 2) (j + 1)).2.1 (f_dys (M.2.2 36) (60 * s) M (M.2.1 2) (j + 1)).2.2 s128.1 St s128.2.1 s128.2.2 (bh + 200 * (j + 1)) (bt + 50 * (j + 1)) (bl + (j + 1)) := by rw [eF]; exact ST_m hq (Nat.le_refl _) (Nat.le_refl _) (by omega)
          have eC : (f_dys (M.2.2 36) (60 * s) M (M.2.1 2) (j + 1)).1 = (f_dys (M.2.2 36) (60 * s) M (M.2.1 2) j).1 + 1 := by rw [eF]
          refine j_iincN 134 (z := 1) C dX10_days_131 rfl rfl rfl (by decide) ?_
          refine j_iincN 137 (z := 3) C dX10_days_134 rfl rfl rfl (by decide) ?_
          refine j_goto 29 C dX10_days_137 (by decide) ?_
          rw [show 3 * j + 3 = 3 * (j + 1) by omega, ← eC]
          exact j_weak _ (by exact ⟨rfl, rfl, rfl, rfl, trivial⟩) (ilp29 _ (by omega) (j + 1) _ _ _ rfl (by omega) hQ2)
        · refine j_aload_n 105 C dX10_days_104 rfl rfl ?_
          refine Ug_n4 108 C dX10_days_105 rfl fl10_20 ?_
          refine j_lload 110 C dX10_days_108 rfl rfl ?_
          refine j_l2i 111 C dX10_days_110 rfl ?_
          refine j_top (x' := nI r) (by rw [er]; exact lN_i r) ?_
          refine Lnr_SI 114 C dX10_days_111 rfl cw10_116 rfl (K7_sitToLearn (cl := -1) (cv := Sm.1 5) hTj hRj hWj hH2 h3 h4 rfl (by decide) (by omega) (by omega) hrw hb0j hb6j) rfl (by decide) ⟨Nat.le_refl _, Nat.le_refl _⟩ rfl (Nat.le_of_ble_eq_true rfl) (fun x111 s111 hs111 => ?_)
          refine j_pop 115 C dX10_days_114 rfl rfl ?_
          refine j_goto 131 C dX10_days_115 (by decide) ?_
          obtain ⟨-, ⟨t2, ht2, hH3⟩, hs2, hBA⟩ := hs111
          rw [c101] at ek
          have eF := dys_ln hok h24j h12 ea ha er hrw c101 (Sm.1 5)
          have hv := f_lrn_range ((f_dys (M.2.2 36) (60 * s) M (M.2.1 2) j).2.1.2.1 1) (-1) (Sm.1 5) r 40 1 0 (f_hours ((f_dys (M.2.2 36) (60 * s) M (M.2.1 2) j).2.1.2.1 1) (-1) (Sm.1 5) a (f_dys (M.2.2 36) (60 * s) M (M.2.1 2) j).2.2)
          generalize f_lrn ((f_dys (M.2.2 36) (60 * s) M (M.2.1 2) j).2.1.2.1 1) (-1) (Sm.1 5) r 40 1 0 (f_hours ((f_dys (M.2.2 36) (60 * s) M (M.2.1 2) j).2.1.2.1 1) (-1) (Sm.1 5) a (f_dys (M.2.2 36) (60 * s) M (M.2.1 2) j).2.2) = LL at hH3 hs2 hBA eF hv
          obtain ⟨k2, hk2, ek2⟩ := lrn_k hv
          obtain ⟨ow, how2, how⟩ := lrn_o (LL := LL)
          have hq := sit_ST (ow := ow) ⟨hTj, hRj, hUj, hWj⟩ hH3 hb3j hb6j hbkj hlsj (BW_m hbwj (Nat.le_refl _) (by omega) (by omega)) hrw hk2 ek2 how2 how hBA (bh := bh + 200 * (j + 1)) (bt := bt + 50 * (j + 1)) (by omega) (by omega) (by omega) (by omega)
          rw [← hs2] at hq
          have hQ2 : STm (f_dys (M.2.2 36) (60 * s) M (M.2.1 2) (j + 1)).2.1 (f_dys (M.2.2 36) (60 * s) M (M.2.1 2) (j + 1)).2.2 s111.1 St s111.2.1 s111.2.2 (bh + 200 * (j + 1)) (bt + 50 * (j + 1)) (bl + (j + 1)) := by rw [eF]; exact ST_m hq (Nat.le_refl _) (Nat.le_refl _) (by omega)
          have eC : (f_dys (M.2.2 36) (60 * s) M (M.2.1 2) (j + 1)).1 = (f_dys (M.2.2 36) (60 * s) M (M.2.1 2) j).1 + 1 := by rw [eF]
          refine j_iincN 134 (z := 1) C dX10_days_131 rfl rfl rfl (by decide) ?_
          refine j_iincN 137 (z := 3) C dX10_days_134 rfl rfl rfl (by decide) ?_
          refine j_goto 29 C dX10_days_137 (by decide) ?_
          rw [show 3 * j + 3 = 3 * (j + 1) by omega, ← eC]
          exact j_weak _ (by exact ⟨rfl, rfl, rfl, rfl, trivial⟩) (ilp29 _ (by omega) (j + 1) _ _ _ rfl (by omega) hQ2)
  refine j_iload_n 1 C dX10_days_0 rfl rfl ?_
  refine j_sI 4 C dX10_days_1 rfl cw10_224 K10_isSlot rfl (by decide) ⟨Nat.le_refl _, Nat.le_refl _⟩ rfl (Nat.le_of_ble_eq_true rfl) ?_
  refine j_if_neB 10 7 C dX10_days_4 (by decide) rfl (fun c4 => ?_) (fun c4 => absurd (isI_nI hs (by omega)) c4)
  refine j_aload_n 11 C dX10_days_10 rfl rfl ?_
  refine Ug_n6 14 C dX10_days_11 rfl fl10_30 ?_
  refine j_iload_n 15 C dX10_days_14 rfl rfl ?_
  refine Ua_n6 16 C dX10_days_15 rfl _ (by omega) rfl ?_
  refine j_topV (v' := .ref (zl 50)) (by rw [hfs]; rfl) ?_
  refine j_astore_n 17 C dX10_days_16 rfl rfl (by decide) ?_
  refine j_aload_n 18 C dX10_days_17 rfl rfl ?_
  refine j_ifnonnullR 24 C dX10_days_18 (by decide) ?_
  refine j_iconst 25 C dX10_days_24 rfl (v := nI 0) (by decide) ?_
  refine j_istore_n 26 C dX10_days_25 rfl rfl (by decide) ?_
  refine j_iconst 27 C dX10_days_26 rfl (v := nI 0) (by decide) ?_
  refine j_istore 29 C dX10_days_27 rfl rfl (by decide) ?_
  exact j_weak _ (by exact ⟨rfl, rfl, rfl, rfl, trivial⟩) (lp29 _ 0 Sh Sr Sb rfl (by omega) hST)
end SR13
