theorem upd_self (f : Nat → Int32) (k : Nat) : upd f k (f k) = f := by
  funext j; by_cases e : j = k
  · subst e; rw [pk_us]
  · rw [pk_un e]
theorem TT_law {mu : Int32} {S : MS} {wd : Nat → Int32} (h : TT mu S wd) {lw : Nat} (hl : lw < 9) : ∃ b n, S.2.1 5 lw = nI b ∧ S.2.1 6 lw = nI (b + n) ∧ b + n ≤ 180 ∧ (∀ k, b ≤ k → k < b + n → PC S wd k) ∧ (0 < n → JN (wd (220 + 3 * b)) 0) ∧ tn (wd (202 + 2 * lw)) = b ∧ tn (wd (202 + 2 * lw + 1)) = n := by
  obtain ⟨np, h1, h2, h3, h4⟩ := h.2.2.2.1
  obtain ⟨b, n, g1, g2, g3, g4, g5, g6⟩ := h4 lw hl
  exact ⟨b, n, g4, g5, by omega, fun k _ hk => h3 k (by omega), g6, by rw [g1, tn_nI (by omega)], by rw [g2, tn_nI (by omega)]⟩
section SM2
variable {l : Launch} {G : GG} {zm zh zt zr : Nat → Nat} {Sm Sh St Sr : MS} {wd hd : Nat → Int32} {L : List Nat} {g : Nat → Nat} {hr td : Nat} {mu cl cv : Int32}
theorem K10_lawOf {q s : Nat} : Con l G yX10_lawOf cX10_lawOf 2 (some .int) 1 0 0 [.int (nI q), .int (nI s)] [] (pI (nI (q * 4 + s)) []) := by
  refine Con.mk (own := RX10) (by decide) rfl (Nat.le_of_ble_eq_true rfl) (fun X C => ?_)
  refine j_iload_n 1 C dX10_lawOf_0 rfl rfl ?_
  refine j_iconst 2 C dX10_lawOf_1 rfl (v := nI 4) (by decide) ?_
  refine j_imulN 3 C dX10_lawOf_2 rfl ?_
  refine j_iload_n 4 C dX10_lawOf_3 rfl rfl ?_
  refine j_iaddN 5 C dX10_lawOf_4 rfl ?_
  exact j_iret C dX10_lawOf_5 ⟨rfl, rfl⟩
theorem K3_change {c lw : Nat} {sgn : Int32} (hT : TT mu St wd) (hW : WF wd) (hH : HG wd Sh L g hd hr td) (h4 : Sm.1 4 = cl) (h5 : Sm.1 5 = cv) (hhr : hr ≤ 1000000000) (htd : td ≤ 1000000000) (hc : c < 2016) (hth : thOf c < nth wd) (hlw : lw < 9) (hroom : c ∈ L ∨ L.length < 528) : Con l G yX3_change cX3_change 7 none 4 0 0 [.ref (zm 50), .int (nI c), .int (nI lw), .int sgn] (mBk zm (zt 50) (zr 50) (zh 50) G.2.1 Sm ++ (hBk zh G.2.1 Sh ++ (tBk zt G.2.1 St ++ (rBk zr G.2.1 Sr)))) (qV (fun s : MS => (mBk zm (zt 50) (zr 50) (zh 50) G.2.1 Sm ++ (hBk zh G.2.1 s ++ (tBk zt G.2.1 St ++ (rBk zr G.2.1 Sr))))) (fun S' => ∃ y, y ≤ 1000 ∧ clampS ((hd c).toInt64 + sgn.toInt64 * f_comes wd hd cl cv lw (hd c) (wd (10 + thOf c))) = nI y ∧ HH S' (putL L c y) (updN g c y) ∧ S'.1 0 = Sh.1 0 ∧ S'.1 1 = Sh.1 1)) := by
  refine Con.mk (own := RX3) (by decide) rfl (Nat.le_of_ble_eq_true rfl) (fun X C => ?_)
  refine j_aload_n 1 C dX3_change_0 rfl rfl ?_
  refine Lmg_m2 4 C dX3_change_1 rfl fl3_12 ?_
  refine j_iload_n 5 C dX3_change_4 rfl rfl ?_
  refine Lmx_hI 8 C dX3_change_5 rfl cw3_53 rfl (K2_strengthAt hH.1 hc) rfl (by decide) ⟨Nat.le_refl _, Nat.le_refl _⟩ rfl (Nat.le_of_ble_eq_true rfl) ?_
  refine j_istore 10 C dX3_change_8 rfl rfl (by decide) ?_
  refine j_aload_n 11 C dX3_change_10 rfl rfl ?_
  refine Lmg_m5 14 C dX3_change_11 rfl fl3_57 ?_
  refine j_i2l 15 C dX3_change_14 rfl ?_
  refine j_lstore 17 C dX3_change_15 rfl rfl rfl (by decide) ?_
  refine j_iload_n 18 C dX3_change_17 rfl rfl ?_
  refine j_aload_n 19 C dX3_change_18 rfl rfl ?_
  refine Lmg_m4 22 C dX3_change_19 rfl fl3_22 ?_
  refine j_icmp_eq 55 25 C dX3_change_22 (by decide) rfl (fun c22 => ?_) (fun c22 => ?_)
  · refine j_aload_n 56 C dX3_change_55 rfl rfl ?_
    refine Lmg_m2 59 C dX3_change_56 rfl fl3_12 ?_
    refine j_iload_n 60 C dX3_change_59 rfl rfl ?_
    refine j_lconst 61 C dX3_change_60 rfl (v := lN 0) (by decide) ?_
    refine j_iload 63 C dX3_change_61 rfl rfl ?_
    refine j_i2l 64 C dX3_change_63 rfl ?_
    refine j_iload_n 65 C dX3_change_64 rfl rfl ?_
    refine j_i2l 66 C dX3_change_65 rfl ?_
    refine j_lload 68 C dX3_change_66 rfl rfl ?_
    refine j_lmul 69 C dX3_change_68 rfl ?_
    refine j_ladd 70 C dX3_change_69 rfl ?_
    refine j_ldc2 73 C dX3_change_70 rfl (v := (1000)) kc3_75 ?_
    refine j_sL 76 C dX3_change_73 rfl cw3_77 (c_minL _ _) rfl (by decide) ⟨Nat.le_refl _, Nat.le_refl _⟩ rfl (Nat.le_of_ble_eq_true rfl) ?_
    refine j_sL 79 C dX3_change_76 rfl cw3_83 (c_maxL _ _) rfl (by decide) ⟨Nat.le_refl _, Nat.le_refl _⟩ rfl (Nat.le_of_ble_eq_true rfl) ?_
    refine j_l2i 80 C dX3_change_79 rfl ?_
    rw [clampS_java]
    have hcm : f_comes wd hd cl cv lw (hd c) (wd (10 + thOf c)) = (Sm.1 5).toInt64 := by rw [f_comes, if_pos (c22.trans h4), h5]
    rw [← hcm, ← hH.2.1 c hc]
    obtain ⟨y, hy, hye⟩ := clampS_le ((hd c).toInt64 + sgn.toInt64 * f_comes wd hd cl cv lw (hd c) (wd (10 + thOf c)))
    rw [hye]
    refine Lmr_hV 83 C dX3_change_80 rfl cw3_86 rfl (K2_put hH.1 hc hy hroom) rfl (by decide) ⟨Nat.le_refl _, Nat.le_refl _⟩ rfl (Nat.le_of_ble_eq_true rfl) (fun s hs => ?_)
    exact j_vret C dX3_change_83 (by refine ⟨_, ?_, rfl, rfl⟩; exact ⟨y, hy, hye, hs.1, hs.2⟩)
  · obtain ⟨b, n, q1, q2, q3, q4, q5, q6, q7⟩ := TT_law hT hlw
    obtain ⟨es, e1, e2, e3⟩ := hT.2.1 _ hth
    refine j_aload_n 26 C dX3_change_25 rfl rfl ?_
    refine Lmg_m0 29 C dX3_change_26 rfl fl3_25 ?_
    refine j_iload_n 30 C dX3_change_29 rfl rfl ?_
    refine j_iload 32 C dX3_change_30 rfl rfl ?_
    refine j_iload_n 33 C dX3_change_32 rfl rfl ?_
    refine j_sI 36 C dX3_change_33 rfl cw3_60 (K2_thingOf hc) rfl (by decide) ⟨Nat.le_refl _, Nat.le_refl _⟩ rfl (Nat.le_of_ble_eq_true rfl) ?_
    refine j_aload_n 37 C dX3_change_36 rfl rfl ?_
    refine Lmg_m2 40 C dX3_change_37 rfl fl3_12 ?_
    refine Lmg_h1 43 C dX3_change_40 rfl fl3_63 ?_
    refine j_top hH.2.2.2.1.2 ?_
    refine j_aload_n 44 C dX3_change_43 rfl rfl ?_
    refine Lmg_m2 47 C dX3_change_44 rfl fl3_12 ?_
    refine Lmg_h0 50 C dX3_change_47 rfl fl3_66 ?_
    refine j_top hH.2.2.1.2 ?_
    refine Lmx_tL 53 C dX3_change_50 rfl cw3_69 rfl (K8_sumOf (by omega) q1 q2 q3 q4 q5 (show thOf c < 24 by have := hW.2.1.2; omega) e3 (hH.1.2.2.2.2.2.2.1 c) e1 htd hhr hH.2.2.2.1.1 hH.2.2.1.1) rfl (by decide) ⟨Nat.le_refl _, Nat.le_refl _⟩ rfl (Nat.le_of_ble_eq_true rfl) ?_
    refine j_lstore 55 C dX3_change_53 rfl rfl rfl (by decide) ?_
    refine j_aload_n 56 C dX3_change_55 rfl rfl ?_
    refine Lmg_m2 59 C dX3_change_56 rfl fl3_12 ?_
    refine j_iload_n 60 C dX3_change_59 rfl rfl ?_
    refine j_lconst 61 C dX3_change_60 rfl (v := lN 0) (by decide) ?_
    refine j_iload 63 C dX3_change_61 rfl rfl ?_
    refine j_i2l 64 C dX3_change_63 rfl ?_
    refine j_iload_n 65 C dX3_change_64 rfl rfl ?_
    refine j_i2l 66 C dX3_change_65 rfl ?_
    refine j_lload 68 C dX3_change_66 rfl rfl ?_
    refine j_lmul 69 C dX3_change_68 rfl ?_
    refine j_ladd 70 C dX3_change_69 rfl ?_
    refine j_ldc2 73 C dX3_change_70 rfl (v := (1000)) kc3_75 ?_
    refine j_sL 76 C dX3_change_73 rfl cw3_77 (c_minL _ _) rfl (by decide) ⟨Nat.le_refl _, Nat.le_refl _⟩ rfl (Nat.le_of_ble_eq_true rfl) ?_
    refine j_sL 79 C dX3_change_76 rfl cw3_83 (c_maxL _ _) rfl (by decide) ⟨Nat.le_refl _, Nat.le_refl _⟩ rfl (Nat.le_of_ble_eq_true rfl) ?_
    refine j_l2i 80 C dX3_change_79 rfl ?_
    rw [clampS_java]
    have hcm : f_comes wd hd cl cv lw (hd c) (wd (10 + thOf c)) = f_sum wd hd (nI (g c)) (nI es) (b + n) n b (lN 0) := by rw [f_comes, if_neg (fun z => c22 (z.trans h4.symm)), q6, q7, hH.2.1 c hc, e2]
    rw [← hcm, ← hH.2.1 c hc]
    obtain ⟨y, hy, hye⟩ := clampS_le ((hd c).toInt64 + sgn.toInt64 * f_comes wd hd cl cv lw (hd c) (wd (10 + thOf c)))
    rw [hye]
    refine Lmr_hV 83 C dX3_change_80 rfl cw3_86 rfl (K2_put hH.1 hc hy hroom) rfl (by decide) ⟨Nat.le_refl _, Nat.le_refl _⟩ rfl (Nat.le_of_ble_eq_true rfl) (fun s hs => ?_)
    exact j_vret C dX3_change_83 (by refine ⟨_, ?_, rfl, rfl⟩; exact ⟨y, hy, hye, hs.1, hs.2⟩)
/-- change, told of hd -/
theorem chg_HG {c : Nat} {S' : MS} {d e : Int64} (hH : HG wd Sh L g hd hr td) (hc : c < 2016) (hin : c ∈ L ∨ c ∈ rcl wd) (he : e = d) (h : ∃ y, y ≤ 1000 ∧ clampS ((hd c).toInt64 + e) = nI y ∧ HH S' (putL L c y) (updN g c y) ∧ S'.1 0 = Sh.1 0 ∧ S'.1 1 = Sh.1 1) : ∃ y, y ≤ 1000 ∧ HG wd S' (putL L c y) (updN g c y) (f_chg hd c d) hr td := by
  obtain ⟨y, hy, h1, h2, h3, h4⟩ := h
  refine ⟨y, hy, ?_⟩
  unfold f_chg
  rw [← he, h1]
  exact HG_put hH hc hin h2 h3 h4
theorem one64 (x : Int64) : (nI 1).toInt64 * x = x := by
  rw [show (nI 1).toInt64 = 1 by decide, Int64.one_mul]
theorem neg64 (x : Int64) : (-1 : Int32).toInt64 * x = -x := by
  rw [show (-1 : Int32).toInt64 = -1 by decide, Int64.neg_mul, Int64.one_mul]
theorem K3_grow {s a b : Nat} (hT : TT mu St wd) (hW : WF wd) (hH0 : HR wd Sh hd hr td) (h4 : Sm.1 4 = cl) (h5 : Sm.1 5 = cv) (hhr : hr ≤ 1000000000) (htd : td ≤ 1000000000) (hs4 : s < 4) (ha : a < nth wd) (hb0 : b < if s = 3 then 12 else nth wd) (hin : f_link s a b ∈ rcl wd) : Con l G yX3_grow cX3_grow 4 none 5 0 0 [.ref (zm 50), .int (nI s), .int (nI a), .int (nI b)] (mBk zm (zt 50) (zr 50) (zh 50) G.2.1 Sm ++ (hBk zh G.2.1 Sh ++ (tBk zt G.2.1 St ++ (rBk zr G.2.1 Sr)))) (qV (fun s : MS => (mBk zm (zt 50) (zr 50) (zh 50) G.2.1 Sm ++ (hBk zh G.2.1 s ++ (tBk zt G.2.1 St ++ (rBk zr G.2.1 Sr))))) (fun S' => HR wd S' (f_grow wd cl cv hd s a b (if s = 3 then a else b)) hr td)) := by
  refine Con.mk (own := RX3) (by decide) rfl (Nat.le_of_ble_eq_true rfl) (fun X C => ?_)
  obtain ⟨L, g, hH⟩ := hH0
  have hn24 := hW.2.1.2
  have ha : a < 24 := by omega
  have hb : b < if s = 3 then 12 else 24 := by split at hb0 <;> (rename_i e; first | rw [if_pos e]; omega | rw [if_neg e]; omega)
  have hc := lk_lt hs4 ha hb
  have hth : thOf (f_link s a b) < nth wd := by rw [thOf_link hs4 ha hb]; split at hb0 <;> (rename_i e; first | rw [if_pos e]; omega | rw [if_neg e]; omega)
  refine j_aload_n 1 C dX3_grow_0 rfl rfl ?_
  refine j_iload_n 2 C dX3_grow_1 rfl rfl ?_
  refine j_iload_n 3 C dX3_grow_2 rfl rfl ?_
  refine j_iload_n 4 C dX3_grow_3 rfl rfl ?_
  refine j_sI 7 C dX3_grow_4 rfl cw3_41 (K2_cellOf hs4) rfl (by decide) ⟨Nat.le_refl _, Nat.le_refl _⟩ rfl (Nat.le_of_ble_eq_true rfl) ?_
  refine j_iconst 8 C dX3_grow_7 rfl (v := nI 0) (by decide) ?_
  refine j_iload_n 9 C dX3_grow_8 rfl rfl ?_
  refine j_sIN 12 C dX3_grow_9 rfl cw3_45 cs3_45 K10_lawOf rfl (by decide) ⟨Nat.le_refl _, Nat.le_refl _⟩ rfl (Nat.le_of_ble_eq_true rfl) ?_
  refine j_iconst 13 C dX3_grow_12 rfl (v := nI 1) (by decide) ?_
  refine Lmr_AV 16 C dX3_grow_13 rfl cw3_49 rfl (K3_change hT hW hH h4 h5 hhr htd hc hth (by omega) (HG_room hH hW hin)) rfl (by decide) ⟨Nat.le_refl _, Nat.le_refl _⟩ rfl (Nat.le_of_ble_eq_true rfl) (fun s hs => ?_)
  exact j_vret C dX3_grow_16 (by refine ⟨_, ?_, rfl, rfl⟩; obtain ⟨y, -, hy⟩ := chg_HG hH hc (Or.inr hin) (one64 _) hs; rw [Nat.zero_mul, Nat.zero_add, thOf_link hs4 ha hb] at hy; exact ⟨_, _, hy⟩)
end SM2
