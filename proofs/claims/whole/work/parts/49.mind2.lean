theorem rci_p {wd : Nat → Int32} {r i : Nat} : f_link 3 (th wd r i) i ∈ rci wd r i := by
  unfold rci
  by_cases z : i = 0
  · subst z; rw [if_pos rfl]; exact List.mem_cons_self
  · rw [if_neg z]
    by_cases y : i = 1
    · subst y; rw [if_pos rfl]; exact List.mem_cons_self
    · rw [if_neg y]; exact List.mem_cons_self
theorem rci_n {wd : Nat → Int32} {r i : Nat} (h : 1 ≤ i) : f_link 0 (th wd r (i - 1)) (th wd r i) ∈ rci wd r i := by
  unfold rci
  rw [if_neg (by omega)]
  by_cases y : i = 1
  · subst y; rw [if_pos rfl]; exact List.mem_cons_of_mem _ List.mem_cons_self
  · rw [if_neg y]; exact List.mem_cons_of_mem _ List.mem_cons_self
theorem rci_b {wd : Nat → Int32} {r i : Nat} (h : 1 ≤ i) : f_link 1 (th wd r i) (th wd r (i - 1)) ∈ rci wd r i := by
  unfold rci
  rw [if_neg (by omega)]
  by_cases y : i = 1
  · subst y; rw [if_pos rfl]; exact List.mem_cons_of_mem _ (List.mem_cons_of_mem _ List.mem_cons_self)
  · rw [if_neg y]; exact List.mem_cons_of_mem _ (List.mem_cons_of_mem _ List.mem_cons_self)
theorem rci_o {wd : Nat → Int32} {r i : Nat} (h : 2 ≤ i) : f_link 2 (th wd r (i - 2)) (th wd r i) ∈ rci wd r i := by
  unfold rci
  rw [if_neg (by omega), if_neg (by omega)]
  exact List.mem_cons_of_mem _ (List.mem_cons_of_mem _ (List.mem_cons_of_mem _ List.mem_cons_self))
theorem clampS_id {y : Nat} (h : y ≤ 1000) : clampS ((nI y).toInt64 + -(lN 0)) = nI y := by
  rw [show -(lN 0) = 0 by decide, Int64.add_zero]
  have hv : (nI y).toInt64.toInt = y := by rw [t64, nI_toInt (by omega)]
  have hk : (1000 : Int64).toInt = 1000 := by decide
  have hl : (lN 0).toInt = 0 := by decide
  have e3 : (nI y).toInt64.toInt32 = nI y := by
    refine Int32.toInt_inj.mp ?_
    rw [Int64.toInt_toInt32, hv, nI_toInt (by omega), Int.bmod_eq_of_le (by omega) (by omega)]
  unfold clampS
  by_cases a : (nI y).toInt64 < 1000
  · rw [if_pos a]
    by_cases b : lN 0 < (nI y).toInt64
    · rw [if_pos b]; exact e3
    · rw [if_neg b]
      rw [Int64.lt_iff_toInt_lt, hv, hl] at b
      rw [show y = 0 by omega]; decide
  · rw [if_neg a, if_pos (by decide)]
    rw [Int64.lt_iff_toInt_lt, hv, hk] at a
    rw [show y = 1000 by omega]; decide
theorem f_sum_0 {wd hd : Nat → Int32} {has easy : Int32} {e k : Nat} {s : Int64} : f_sum wd hd has easy e 0 k s = s := by rw [f_sum]
theorem HR_le {wd : Nat → Int32} {S : MS} {hd : Nat → Int32} {hr td c : Nat} (h : HR wd S hd hr td) (hc : c < 2016) : ∃ y, y ≤ 1000 ∧ hd c = nI y := by
  obtain ⟨L, g, hH⟩ := h
  exact ⟨g c, hH.1.2.2.2.2.2.2.1 c, hH.2.1 c hc⟩
/-- a LAW of mixing that is not told changes nothing -/
theorem mix_0 {wd hd : Nat → Int32} {S : MS} {hr td a b : Nat} {cl cv : Int32} (hH : HR wd S hd hr td) (h8 : ¬ nI 8 = cl) (hn : tn (wd (202 + 2 * 8 + 1)) = 0) (ha : a < 24) : ∀ n, n ≤ 24 → f_mix wd cl cv a b n hd = hd
  | 0, _ => rfl
  | n + 1, h => by
    rw [f_mix, mix_0 hH h8 hn ha n (by omega)]
    split
    · obtain ⟨y, hy, e⟩ := HR_le hH (lk_lt (s := 0) (a := a) (b := n) (by omega) ha (by rw [if_neg (by omega)]; omega))
      rw [f_comes, if_neg h8, hn, f_sum_0, f_chg, e, clampS_id hy, ← e, upd_self]
    · rfl
section SM3
variable {l : Launch} {G : GG} {zm zh zt zr : Nat → Nat} {Sm Sh St Sr : MS} {wd hd : Nat → Int32} {hr td : Nat} {mu cl cv : Int32}
theorem K3_mixBeside {a b : Nat} (hT : TT mu St wd) (hW : WF wd) (hH0 : HR wd Sh hd hr td) (h4 : Sm.1 4 = cl) (h5 : Sm.1 5 = cv) (h8 : ¬ nI 8 = cl) (hhr : hr ≤ 1000000000) (htd : td ≤ 1000000000) (ha0 : a < nth wd) (hb0 : b < nth wd) : Con l G yX3_mixBeside cX3_mixBeside 6 none 5 0 0 [.ref (zm 50), .int (nI a), .int (nI b)] (mBk zm (zt 50) (zr 50) (zh 50) G.2.1 Sm ++ (hBk zh G.2.1 Sh ++ (tBk zt G.2.1 St ++ (rBk zr G.2.1 Sr)))) (qV (fun s : MS => (mBk zm (zt 50) (zr 50) (zh 50) G.2.1 Sm ++ (hBk zh G.2.1 s ++ (tBk zt G.2.1 St ++ (rBk zr G.2.1 Sr))))) (fun S' => HR wd S' (f_mix wd cl cv a b (nth wd) hd) hr td)) := by
  refine Con.mk (own := RX3) (by decide) rfl (Nat.le_of_ble_eq_true rfl) (fun X C => ?_)
  have hn24 := hW.2.1.2
  have ha : a < 24 := by omega
  obtain ⟨b9, n9, q1, q2, q3, q4, q5, q6, q7⟩ := TT_law hT (lw := 8) (by omega)
  have lp21 : ∀ (m : Nat) (c : Nat) (s1 : MS), nth wd - c = m → c ≤ nth wd → HR wd s1 (f_mix wd cl cv a b c hd) hr td → J X 6 0 0 (mBk zm (zt 50) (zr 50) (zh 50) G.2.1 Sm ++ (hBk zh G.2.1 s1 ++ (tBk zt G.2.1 St ++ (rBk zr G.2.1 Sr)))) 21 [(0, .ref (zm 50)), (1, .int (nI a)), (2, .int (nI b)), (3, .int (nI 8)), (4, .int (nI c))] [] := by
    intro m
    induction m using Nat.strongRecOn with
    | ind m ilp21 =>
    intro c s1 hm hcn hS
    obtain ⟨L, g, hH⟩ := hS
    refine j_iload 23 C dX3_mixBeside_21 rfl rfl ?_
    refine j_aload_n 24 C dX3_mixBeside_23 rfl rfl ?_
    refine Lmg_m0 27 C dX3_mixBeside_24 rfl fl3_25 ?_
    refine Lmg_t0 30 C dX3_mixBeside_27 rfl fl3_109 ?_
    refine j_top (hT.1.1.trans hW.2.1.1) ?_
    refine j_icmp_geN 74 33 C dX3_mixBeside_30 (by decide) rfl (by omega) (by omega) (fun c30 => ?_) (fun c30 => ?_)
    · exact j_vret C dX3_mixBeside_74 (by refine ⟨_, ?_, rfl, rfl⟩; rw [← show c = nth wd by omega]; exact ⟨L, g, hH⟩)
    · have hb4 : c < if 0 = 3 then 12 else 24 := by rw [if_neg (by omega)]; omega
      have hc := lk_lt (s := 0) (by omega) ha hb4
      have hg := hH.1.2.2.2.2.2.2.1 (f_link 0 a c)
      have hth : thOf (f_link 0 a c) < nth wd := by rw [thOf_link (by omega) ha hb4, if_neg (by omega)]; omega
      refine j_iconst 34 C dX3_mixBeside_33 rfl (v := nI 0) (by decide) ?_
      refine j_iload_n 35 C dX3_mixBeside_34 rfl rfl ?_
      refine j_iload 37 C dX3_mixBeside_35 rfl rfl ?_
      refine j_sI 40 C dX3_mixBeside_37 rfl cw3_41 (K2_cellOf (by omega)) rfl (by decide) ⟨Nat.le_refl _, Nat.le_refl _⟩ rfl (Nat.le_of_ble_eq_true rfl) ?_
      refine j_istore 42 C dX3_mixBeside_40 rfl rfl (by decide) ?_
      refine j_iload 44 C dX3_mixBeside_42 rfl rfl ?_
      refine j_iload_n 45 C dX3_mixBeside_44 rfl rfl ?_
      refine j_icmp_eqN 68 48 C dX3_mixBeside_45 (by decide) rfl (by omega) (by omega) (fun c45 => ?_) (fun c45 => ?_)
      · refine j_iincN 71 (z := 1) C dX3_mixBeside_68 rfl rfl rfl (by decide) ?_
        refine j_goto 21 C dX3_mixBeside_71 (by decide) ?_
        exact j_weak _ (by exact ⟨rfl, rfl, rfl, rfl, rfl, trivial⟩) (ilp21 _ (by omega) (c + 1) s1 rfl (by omega) (by rw [f_mix, if_neg (fun z => z.1 c45)]; exact ⟨L, g, hH⟩))
      · refine j_aload_n 49 C dX3_mixBeside_48 rfl rfl ?_
        refine Lmg_m2 52 C dX3_mixBeside_49 rfl fl3_12 ?_
        refine j_iload 54 C dX3_mixBeside_52 rfl rfl ?_
        refine Lmx_hI 57 C dX3_mixBeside_54 rfl cw3_53 rfl (K2_strengthAt hH.1 hc) rfl (by decide) ⟨Nat.le_refl _, Nat.le_refl _⟩ rfl (Nat.le_of_ble_eq_true rfl) ?_
        refine j_if_leN 68 60 C dX3_mixBeside_57 (by decide) rfl (by omega) (fun c57 => ?_) (fun c57 => ?_)
        · refine j_iincN 71 (z := 1) C dX3_mixBeside_68 rfl rfl rfl (by decide) ?_
          refine j_goto 21 C dX3_mixBeside_71 (by decide) ?_
          exact j_weak _ (by exact ⟨rfl, rfl, rfl, rfl, rfl, trivial⟩) (ilp21 _ (by omega) (c + 1) s1 rfl (by omega) (by rw [f_mix, if_neg (fun z => z.2 (by rw [hH.2.1 _ hc, c57]; decide))]; exact ⟨L, g, hH⟩))
        · have hin : f_link 0 a c ∈ L := Decidable.byContradiction fun z => by have := hH.1.2.2.2.2.2.2.2 _ z; omega
          refine j_aload_n 61 C dX3_mixBeside_60 rfl rfl ?_
          refine j_iload 63 C dX3_mixBeside_61 rfl rfl ?_
          refine j_iload_n 64 C dX3_mixBeside_63 rfl rfl ?_
          refine j_iconst 65 C dX3_mixBeside_64 rfl (v := (-1)) (by decide) ?_
          refine Lmr_AV 68 C dX3_mixBeside_65 rfl cw3_49 rfl (K3_change hT hW hH h4 h5 hhr htd hc hth (by omega) (Or.inl hin)) rfl (by decide) ⟨Nat.le_refl _, Nat.le_refl _⟩ rfl (Nat.le_of_ble_eq_true rfl) (fun s2 hs2 => ?_)
          refine j_iincN 71 (z := 1) C dX3_mixBeside_68 rfl rfl rfl (by decide) ?_
          refine j_goto 21 C dX3_mixBeside_71 (by decide) ?_
          exact j_weak _ (by exact ⟨rfl, rfl, rfl, rfl, rfl, trivial⟩) (ilp21 _ (by omega) (c + 1) s2 rfl (by omega) (by rw [f_mix, if_pos ⟨c45, by rw [hH.2.1 _ hc]; exact nI_nle (by omega) (by omega)⟩]; obtain ⟨y, -, hy⟩ := chg_HG hH hc (Or.inl hin) (neg64 _) hs2; rw [thOf_link (by omega) ha hb4, if_neg (by omega)] at hy; exact ⟨_, _, hy⟩))
  refine j_iconst 1 C dX3_mixBeside_0 rfl (v := nI 2) (by decide) ?_
  refine j_iconst 2 C dX3_mixBeside_1 rfl (v := nI 0) (by decide) ?_
  refine j_sIN 5 C dX3_mixBeside_2 rfl cw3_45 cs3_45 K10_lawOf rfl (by decide) ⟨Nat.le_refl _, Nat.le_refl _⟩ rfl (Nat.le_of_ble_eq_true rfl) ?_
  refine j_top (x' := nI 8) rfl ?_
  refine j_istore_n 6 C dX3_mixBeside_5 rfl rfl (by decide) ?_
  refine j_aload_n 7 C dX3_mixBeside_6 rfl rfl ?_
  refine Lmg_m0 10 C dX3_mixBeside_7 rfl fl3_25 ?_
  refine j_iload_n 11 C dX3_mixBeside_10 rfl rfl ?_
  refine Lmx_tI 14 C dX3_mixBeside_11 rfl cw3_105 rfl (K8_hasLaw (by omega) q1 q2 (by omega) (by omega)) rfl (by decide) ⟨Nat.le_refl _, Nat.le_refl _⟩ rfl (Nat.le_of_ble_eq_true rfl) ?_
  refine j_if_neB 18 17 C dX3_mixBeside_14 (by decide) rfl (fun c14 => ?_) (fun c14 => ?_)
  · refine j_iconst 19 C dX3_mixBeside_18 rfl (v := nI 0) (by decide) ?_
    refine j_istore 21 C dX3_mixBeside_19 rfl rfl (by decide) ?_
    exact j_weak _ (by exact ⟨rfl, rfl, rfl, rfl, rfl, trivial⟩) (lp21 _ 0 _ rfl (Nat.zero_le _) hH0)
  · exact j_vret C dX3_mixBeside_17 (by refine ⟨_, ?_, rfl, rfl⟩; rw [mix_0 hH0 h8 (by rw [q7]; omega) ha (nth wd) hn24]; exact hH0)
theorem HR_tick {r : Nat} {S : MS} {L : List Nat} {g : Nat → Nat} (hH : HG wd S L g (f_rd wd cl cv r (len wd r) hd) hr td) : HR wd (sS S 1 (nI (td + 1))) (f_reads wd cl cv r hd) hr (td + 1) := by
  refine ⟨L, g, hH.1, fun c hc => ?_, ⟨?_, hH.2.2.1.2⟩, ⟨?_, rfl⟩, hH.2.2.2.2⟩
  · rw [f_reads, pk_un (by omega)]; exact hH.2.1 c hc
  · rw [f_reads, pk_un (by omega)]; exact hH.2.2.1.1
  · rw [f_reads, pk_us, hH.2.2.2.1.1, nI_add]
set_option maxHeartbeats 2000000 in
theorem K3_readOnce {r : Nat} (hT : TT mu St wd) (hR : RR Sr wd) (hW : WF wd) (hH0 : HR wd Sh hd hr td) (h4 : Sm.1 4 = cl) (h5 : Sm.1 5 = cv) (h8 : ¬ nI 8 = cl) (hhr : hr ≤ 1000000000) (htd : td ≤ 1000000000) (hrw : r < nrw wd) : Con l G yX3_readOnce cX3_readOnce 5 none 6 0 0 [.ref (zm 50), .int (nI r)] (mBk zm (zt 50) (zr 50) (zh 50) G.2.1 Sm ++ (hBk zh G.2.1 Sh ++ (tBk zt G.2.1 St ++ (rBk zr G.2.1 Sr)))) (qV (fun s : MS => (mBk zm (zt 50) (zr 50) (zh 50) G.2.1 Sm ++ (hBk zh G.2.1 s ++ (tBk zt G.2.1 St ++ (rBk zr G.2.1 Sr))))) (fun S' => HR wd S' (f_reads wd cl cv r hd) hr (td + 1))) := by
  refine Con.mk (own := RX3) (by decide) rfl (Nat.le_of_ble_eq_true rfl) (fun X C => ?_)
  obtain ⟨hl2, hl12, hr12, hn24⟩ := WF_len hW hrw
  have lp2 : ∀ (m : Nat) (i : Nat) (s0 : MS), len wd r - i = m → i ≤ len wd r → HR wd s0 (f_rd wd cl cv r i hd) hr td → J X 5 0 0 (mBk zm (zt 50) (zr 50) (zh 50) G.2.1 Sm ++ (hBk zh G.2.1 s0 ++ (tBk zt G.2.1 St ++ (rBk zr G.2.1 Sr)))) 2 [(0, .ref (zm 50)), (1, .int (nI r)), (2, .int (nI i))] [] := by
    intro m
    induction m using Nat.strongRecOn with
    | ind m ilp2 =>
    intro i s0 hm hi hS
    refine j_iload_n 3 C dX3_readOnce_2 rfl rfl ?_
    refine j_aload_n 4 C dX3_readOnce_3 rfl rfl ?_
    refine Lmg_m1 7 C dX3_readOnce_4 rfl fl3_29 ?_
    refine Lmg_r2 10 C dX3_readOnce_7 rfl fl3_90 ?_
    refine j_iload_n 11 C dX3_readOnce_10 rfl rfl ?_
    refine Lma_r2 12 C dX3_readOnce_11 rfl _ (by omega) rfl ?_
    refine j_top (RR_len hR hW hrw) ?_
    refine j_icmp_geN 101 15 C dX3_readOnce_12 (by decide) rfl (by omega) (by omega) (fun c12 => ?_) (fun c12 => ?_)
    · rw [show i = len wd r by omega] at hS
      obtain ⟨L, g, hH⟩ := hS
      refine j_aload_n 102 C dX3_readOnce_101 rfl rfl ?_
      refine Lmg_m2 105 C dX3_readOnce_102 rfl fl3_12 ?_
      refine j_dup 106 C dX3_readOnce_105 rfl rfl ?_
      refine Lmg_h1 109 C dX3_readOnce_106 rfl fl3_63 ?_
      refine j_top hH.2.2.2.1.2 ?_
      refine j_iconst 110 C dX3_readOnce_109 rfl (v := nI 1) (by decide) ?_
      refine j_iaddN 111 C dX3_readOnce_110 rfl ?_
      refine Lmp_h1 114 C dX3_readOnce_111 rfl fl3_63 ?_
      exact j_vret C dX3_readOnce_114 (by refine ⟨_, ?_, rfl, rfl⟩; exact HR_tick hH)
    · have hil : i < len wd r := by omega
      have ht0 := WF_th hW hrw (i := i) hil
      refine j_aload_n 16 C dX3_readOnce_15 rfl rfl ?_
      refine Lmg_m1 19 C dX3_readOnce_16 rfl fl3_29 ?_
      refine j_iload_n 20 C dX3_readOnce_19 rfl rfl ?_
      refine j_iload_n 21 C dX3_readOnce_20 rfl rfl ?_
      refine Lmx_rI 24 C dX3_readOnce_21 rfl cw3_96 rfl (K5_thingAt (by omega)) rfl (by decide) ⟨Nat.le_refl _, Nat.le_refl _⟩ rfl (Nat.le_of_ble_eq_true rfl) ?_
      refine j_top (RR_th hR hW hrw (i := i) (by omega)) ?_
      refine j_istore_n 25 C dX3_readOnce_24 rfl rfl (by decide) ?_
      refine j_aload_n 26 C dX3_readOnce_25 rfl rfl ?_
      refine j_iconst 27 C dX3_readOnce_26 rfl (v := nI 3) (by decide) ?_
      refine j_iload_n 28 C dX3_readOnce_27 rfl rfl ?_
      refine j_iload_n 29 C dX3_readOnce_28 rfl rfl ?_
      refine Lmr_AV 32 C dX3_readOnce_29 rfl cw3_99 rfl (K3_grow hT hW hS h4 h5 hhr htd (by omega) (by omega) (by rw [if_pos rfl]; omega) (rcl_mem hrw hil rci_p)) rfl (by decide) ⟨Nat.le_refl _, Nat.le_refl _⟩ rfl (Nat.le_of_ble_eq_true rfl) (fun s1 hs1 => ?_)
      rw [if_pos rfl] at hs1
      refine j_iload_n 33 C dX3_readOnce_32 rfl rfl ?_
      refine j_iconst 34 C dX3_readOnce_33 rfl (v := nI 1) (by decide) ?_
      refine j_icmp_ltN 95 37 C dX3_readOnce_34 (by decide) rfl (by omega) (by omega) (fun c34 => ?_) (fun c34 => ?_)
      · refine j_iincN 98 (z := 1) C dX3_readOnce_95 rfl rfl rfl (by decide) ?_
        refine j_goto 2 C dX3_readOnce_98 (by decide) ?_
        exact j_weak _ (by exact ⟨rfl, rfl, rfl, trivial⟩) (ilp2 _ (by omega) (i + 1) _ rfl (by omega) (by rw [f_rd, f_rstep, if_pos (by omega)]; exact hs1))
      · have ht1 := WF_th hW hrw (i := i - 1) (by omega)
        refine j_aload_n 38 C dX3_readOnce_37 rfl rfl ?_
        refine Lmg_m1 41 C dX3_readOnce_38 rfl fl3_29 ?_
        refine j_iload_n 42 C dX3_readOnce_41 rfl rfl ?_
        refine j_iload_n 43 C dX3_readOnce_42 rfl rfl ?_
        refine j_iconst 44 C dX3_readOnce_43 rfl (v := nI 1) (by decide) ?_
        refine j_isubN 45 C dX3_readOnce_44 rfl (by omega) ?_
        refine Lmx_rI 48 C dX3_readOnce_45 rfl cw3_96 rfl (K5_thingAt (by omega)) rfl (by decide) ⟨Nat.le_refl _, Nat.le_refl _⟩ rfl (Nat.le_of_ble_eq_true rfl) ?_
        refine j_top (RR_th hR hW hrw (i := (i - 1)) (by omega)) ?_
        refine j_istore 50 C dX3_readOnce_48 rfl rfl (by decide) ?_
        refine j_aload_n 51 C dX3_readOnce_50 rfl rfl ?_
        refine j_iconst 52 C dX3_readOnce_51 rfl (v := nI 0) (by decide) ?_
        refine j_iload 54 C dX3_readOnce_52 rfl rfl ?_
        refine j_iload_n 55 C dX3_readOnce_54 rfl rfl ?_
        refine Lmr_AV 58 C dX3_readOnce_55 rfl cw3_99 rfl (K3_grow hT hW hs1 h4 h5 hhr htd (by omega) (by omega) (by rw [if_neg (by omega)]; omega) (rcl_mem hrw hil (rci_n (by omega)))) rfl (by decide) ⟨Nat.le_refl _, Nat.le_refl _⟩ rfl (Nat.le_of_ble_eq_true rfl) (fun s2 hs2 => ?_)
        rw [if_neg (by omega)] at hs2
        refine j_aload_n 59 C dX3_readOnce_58 rfl rfl ?_
        refine j_iconst 60 C dX3_readOnce_59 rfl (v := nI 1) (by decide) ?_
        refine j_iload_n 61 C dX3_readOnce_60 rfl rfl ?_
        refine j_iload 63 C dX3_readOnce_61 rfl rfl ?_
        refine Lmr_AV 66 C dX3_readOnce_63 rfl cw3_99 rfl (K3_grow hT hW hs2 h4 h5 hhr htd (by omega) (by omega) (by rw [if_neg (by omega)]; omega) (rcl_mem hrw hil (rci_b (by omega)))) rfl (by decide) ⟨Nat.le_refl _, Nat.le_refl _⟩ rfl (Nat.le_of_ble_eq_true rfl) (fun s3 hs3 => ?_)
        rw [if_neg (by omega)] at hs3
        refine j_iload_n 67 C dX3_readOnce_66 rfl rfl ?_
        refine j_iconst 68 C dX3_readOnce_67 rfl (v := nI 2) (by decide) ?_
        refine j_icmp_ltN 88 71 C dX3_readOnce_68 (by decide) rfl (by omega) (by omega) (fun c68 => ?_) (fun c68 => ?_)
        · refine j_aload_n 89 C dX3_readOnce_88 rfl rfl ?_
          refine j_iload 91 C dX3_readOnce_89 rfl rfl ?_
          refine j_iload_n 92 C dX3_readOnce_91 rfl rfl ?_
          refine Lmr_AV 95 C dX3_readOnce_92 rfl cw3_102 rfl (K3_mixBeside hT hW hs3 h4 h5 h8 hhr htd ht1 ht0) rfl (by decide) ⟨Nat.le_refl _, Nat.le_refl _⟩ rfl (Nat.le_of_ble_eq_true rfl) (fun s5 hs5 => ?_)
          refine j_iincN 98 (z := 1) C dX3_readOnce_95 rfl rfl rfl (by decide) ?_
          refine j_goto 2 C dX3_readOnce_98 (by decide) ?_
          exact j_weak _ (by exact ⟨rfl, rfl, rfl, trivial⟩) (ilp2 _ (by omega) (i + 1) _ rfl (by omega) (by rw [f_rd, f_rstep, if_neg (by omega), if_neg (by omega)]; exact hs5))
        · have ht2 := WF_th hW hrw (i := i - 2) (by omega)
          refine j_aload_n 72 C dX3_readOnce_71 rfl rfl ?_
          refine j_iconst 73 C dX3_readOnce_72 rfl (v := nI 2) (by decide) ?_
          refine j_aload_n 74 C dX3_readOnce_73 rfl rfl ?_
          refine Lmg_m1 77 C dX3_readOnce_74 rfl fl3_29 ?_
          refine j_iload_n 78 C dX3_readOnce_77 rfl rfl ?_
          refine j_iload_n 79 C dX3_readOnce_78 rfl rfl ?_
          refine j_iconst 80 C dX3_readOnce_79 rfl (v := nI 2) (by decide) ?_
          refine j_isubN 81 C dX3_readOnce_80 rfl (by omega) ?_
          refine Lmx_rI 84 C dX3_readOnce_81 rfl cw3_96 rfl (K5_thingAt (by omega)) rfl (by decide) ⟨Nat.le_refl _, Nat.le_refl _⟩ rfl (Nat.le_of_ble_eq_true rfl) ?_
          refine j_top (RR_th hR hW hrw (i := (i - 2)) (by omega)) ?_
          refine j_iload_n 85 C dX3_readOnce_84 rfl rfl ?_
          refine Lmr_AV 88 C dX3_readOnce_85 rfl cw3_99 rfl (K3_grow hT hW hs3 h4 h5 hhr htd (by omega) (by omega) (by rw [if_neg (by omega)]; omega) (rcl_mem hrw hil (rci_o (by omega)))) rfl (by decide) ⟨Nat.le_refl _, Nat.le_refl _⟩ rfl (Nat.le_of_ble_eq_true rfl) (fun s4 hs4 => ?_)
          rw [if_neg (by omega)] at hs4
          refine j_aload_n 89 C dX3_readOnce_88 rfl rfl ?_
          refine j_iload 91 C dX3_readOnce_89 rfl rfl ?_
          refine j_iload_n 92 C dX3_readOnce_91 rfl rfl ?_
          refine Lmr_AV 95 C dX3_readOnce_92 rfl cw3_102 rfl (K3_mixBeside hT hW hs4 h4 h5 h8 hhr htd ht1 ht0) rfl (by decide) ⟨Nat.le_refl _, Nat.le_refl _⟩ rfl (Nat.le_of_ble_eq_true rfl) (fun s5 hs5 => ?_)
          refine j_iincN 98 (z := 1) C dX3_readOnce_95 rfl rfl rfl (by decide) ?_
          refine j_goto 2 C dX3_readOnce_98 (by decide) ?_
          exact j_weak _ (by exact ⟨rfl, rfl, rfl, trivial⟩) (ilp2 _ (by omega) (i + 1) _ rfl (by omega) (by rw [f_rd, f_rstep, if_neg (by omega), if_pos (by omega)]; exact hs5))
  refine j_iconst 1 C dX3_readOnce_0 rfl (v := nI 0) (by decide) ?_
  refine j_istore_n 2 C dX3_readOnce_1 rfl rfl (by decide) ?_
  exact j_weak _ (by exact ⟨rfl, rfl, rfl, trivial⟩) (lp2 _ 0 _ rfl (Nat.zero_le _) hH0)
theorem K3_readTimes {r n : Nat} (hT : TT mu St wd) (hR : RR Sr wd) (hW : WF wd) (hH0 : HR wd Sh hd hr td) (h4 : Sm.1 4 = cl) (h5 : Sm.1 5 = cv) (h8 : ¬ nI 8 = cl) (hhr : hr ≤ 1000000000) (htd : td + n ≤ 1000000000) (hrw : r < nrw wd) : Con l G yX3_readTimes cX3_readTimes 4 none 7 0 0 [.ref (zm 50), .int (nI r), .int (nI n)] (mBk zm (zt 50) (zr 50) (zh 50) G.2.1 Sm ++ (hBk zh G.2.1 Sh ++ (tBk zt G.2.1 St ++ (rBk zr G.2.1 Sr)))) (qV (fun s : MS => (mBk zm (zt 50) (zr 50) (zh 50) G.2.1 Sm ++ (hBk zh G.2.1 s ++ (tBk zt G.2.1 St ++ (rBk zr G.2.1 Sr))))) (fun S' => HR wd S' (f_readsN wd cl cv r n hd) hr (td + n))) := by
  refine Con.mk (own := RX3) (by decide) rfl (Nat.le_of_ble_eq_true rfl) (fun X C => ?_)
  have lp2 : ∀ (m : Nat) (i : Nat) (s1 : MS), n - i = m → i ≤ n → HR wd s1 (f_readsN wd cl cv r i hd) hr (td + i) → J X 4 0 0 (mBk zm (zt 50) (zr 50) (zh 50) G.2.1 Sm ++ (hBk zh G.2.1 s1 ++ (tBk zt G.2.1 St ++ (rBk zr G.2.1 Sr)))) 2 [(0, .ref (zm 50)), (1, .int (nI r)), (2, .int (nI n)), (3, .int (nI i))] [] := by
    intro m
    induction m using Nat.strongRecOn with
    | ind m ilp2 =>
    intro i s1 hm hi hS
    refine j_iload_n 3 C dX3_readTimes_2 rfl rfl ?_
    refine j_iload_n 4 C dX3_readTimes_3 rfl rfl ?_
    refine j_icmp_geN 18 7 C dX3_readTimes_4 (by decide) rfl (by omega) (by omega) (fun c4 => ?_) (fun c4 => ?_)
    · exact j_vret C dX3_readTimes_18 (by refine ⟨_, ?_, rfl, rfl⟩; rw [← show i = n by omega]; exact hS)
    · refine j_aload_n 8 C dX3_readTimes_7 rfl rfl ?_
      refine j_iload_n 9 C dX3_readTimes_8 rfl rfl ?_
      refine Lmr_AV 12 C dX3_readTimes_9 rfl cw3_112 rfl (K3_readOnce hT hR hW hS h4 h5 h8 hhr (by omega) hrw) rfl (by decide) ⟨Nat.le_refl _, Nat.le_refl _⟩ rfl (Nat.le_of_ble_eq_true rfl) (fun s2 hs2 => ?_)
      refine j_iincN 15 (z := 1) C dX3_readTimes_12 rfl rfl rfl (by decide) ?_
      refine j_goto 2 C dX3_readTimes_15 (by decide) ?_
      exact j_weak _ (by exact ⟨rfl, rfl, rfl, rfl, trivial⟩) (ilp2 _ (by omega) (i + 1) s2 rfl (by omega) hs2)
  refine j_iconst 1 C dX3_readTimes_0 rfl (v := nI 0) (by decide) ?_
  refine j_istore_n 2 C dX3_readTimes_1 rfl rfl (by decide) ?_
  exact j_weak _ (by exact ⟨rfl, rfl, rfl, rfl, trivial⟩) (lp2 _ 0 _ rfl (Nat.zero_le _) hH0)
end SM3
