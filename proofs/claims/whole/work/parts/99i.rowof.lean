theorem rm_i {nm : Nat → Int64} {b : Nat} {md : Nat → Int32} : ∀ n i, i < n → f_rm nm b md n i = (nm (b + i)).toInt32
  | 0, i, h => absurd h (Nat.not_lt_zero _)
  | n + 1, i, h => by
    rw [f_rm]
    by_cases e : i = n
    · subst e; rw [pk_us]
    · rw [pk_un e]; exact rm_i n i (by omega)
theorem in_T {x : Int64} {nt : Nat} (hn : nt ≤ 24) : (¬ x < lN 0 ∧ x < lN nt) ↔ (lN 0 ≤ x ∧ x ≤ (nI nt - nI 1).toInt64) := by
  have e0 : (lN 0).toInt = 0 := rfl
  have e1 : (lN nt).toInt = nt := pk_lT (by omega)
  rw [Int64.not_lt, Int64.lt_iff_toInt_lt, Int64.le_iff_toInt_le, Int64.le_iff_toInt_le, t64, pk_sub_toInt (by omega) (by omega), e0, e1]
  omega
theorem ok_T {f nm : Nat → Int64} {b nt m : Nat} (hn : nt ≤ 24) (h : ∀ j, j < m → f j = nm (b + j)) : okS f nt m ↔ f_okT nm b nt m := by
  constructor
  · intro z i hi
    obtain ⟨z1, z2⟩ := z i hi
    rw [h i hi] at z1
    exact ⟨(in_T hn).mp z1, fun j hj e => z2 j hj (by rw [h j (by omega), h i hi]; exact e)⟩
  · intro z i hi
    obtain ⟨z1, z2⟩ := z i hi
    refine ⟨by rw [h i hi]; exact (in_T hn).mpr z1, fun j hj e => z2 j hj (by rw [← h j (by omega), ← h i hi]; exact e)⟩
theorem l32_of {x : Int64} {nt : Nat} (hn : nt ≤ 24) (h : ¬ x < lN 0 ∧ x < lN nt) : ∃ u, u < nt ∧ x.toInt32 = nI u := by
  obtain ⟨h1, h2⟩ := h
  rw [Int64.not_lt, Int64.le_iff_toInt_le] at h1
  rw [Int64.lt_iff_toInt_lt, pk_lT (by omega)] at h2
  have e0 : (lN 0).toInt = 0 := rfl
  refine ⟨x.toInt.toNat, by omega, ?_⟩
  have hx : x = lN x.toInt.toNat := by
    apply Int64.toInt_inj.mp
    rw [pk_lT (by omega)]; omega
  generalize x.toInt.toNat = u at hx
  rw [hx]
  exact lN_i u
set_option maxHeartbeats 1000000 in
theorem cs_rowOf {l : Launch} {G : GG} {M : MS} {c o : Nat} {w : va_W} {x : Int32} (hN : NR G M c o w) (hc : c ≤ 1000) : Stc l G yX10_rowOf cX10_rowOf 5 (some .int) 3 [.int x] w o (fun v w' => v = some (.int (f_ro M x)) ∧ NR G (f_roM M x) (c + 1) o w') := by
  obtain ⟨zn, zs, zm, zh, zt, zr, zb, Sn, Ss, Sm, Sh, St, Sr, Sb, fi, fs, pa, dk, ws, ⟨rfl, hp⟩, hS, hB⟩ := hN
  obtain ⟨⟨⟨hT, hR, hU, hW⟩, hr, td, nb, ⟨hH, hhr, htd⟩, ⟨hb0, hb3, hb6⟩, hbk, hls, hbw⟩, ⟨h3, h4⟩, ⟨tn0, htn9, htn, htm, htp, hby⟩, ⟨hf2, hf3⟩, h24, h27⟩ := id hS
  by_cases e : isI x 4
  · obtain ⟨s, hs, rfl⟩ := isI_of e
    obtain ⟨⟨v0, hv0, hv1⟩, hv2⟩ := hB.2.1 s hs
    have ht : tn (nI s) = s := tn_nI (by omega)
    rcases hv2 with ⟨hfs, hwl, hm1⟩ | ⟨zl, Sl, m, q, ⟨hfs, hwl⟩, ⟨hm6, hq4⟩, ⟨hm1, hm2⟩, ⟨hl0, hl1⟩, hnum⟩
    · refine ⟨cW G zn zs zm zh zt zr zb Sn Ss Sm Sh St Sr Sb fi fs pa dk (flat ws 9), 0, 0, _, _, _, hp, rfl, ⟨by decide, by decide, by decide⟩, K10_rowOfN (fun _ => by rw [ht]; exact hfs), fun v w' h => ?_⟩
      obtain ⟨rfl, rfl⟩ := h
      unfold f_ro f_roM
      rw [if_pos e, if_pos e, ht, if_pos hm1, if_neg (fun z => z.2.1 hm1)]
      exact ⟨rfl, NR_nw (NS_m hS (by omega)) hB (BEQ_r M) (by omega)⟩
    · have hp2 := hp.trans (cW_R ((flat_pick (i := 3 + s) (n := 9) (by omega)).trans (by rw [hwl])))
      refine ⟨(nBk zn (zs 50) G.2.1 Sn fi fs pa dk ++ (sBk zs (zm 50) (zb 50) G.2.1 Ss ++ (mBk zm (zt 50) (zr 50) (zh 50) G.2.1 Sm ++ (hBk zh G.2.1 Sh ++ (tBk zt G.2.1 St ++ (rBk zr G.2.1 Sr ++ (bBk zb G.2.1 Sb ++ (lBk zl G.2.1 Sl ++ (flat (updW ws (3 + s) []) 9))))))))), 0, 0, _, _, _, hp2, rfl, ⟨by decide, by decide, by decide⟩, K10_rowOfS hT hR hW e (by rw [ht]; exact hfs) hl1 hm6, fun v w' h => ?_⟩
      obtain ⟨x0, t, ⟨k1, k2, k3⟩, rfl, rfl⟩ := h
      have h24m := h24
      have h24 := hW.2.1.2
      have h12 := hW.2.2.1.2
      have hn1 : ¬ nI m = -1 := nI_nmO (by omega)
      have hok := ok_T (f := Sl.2.2 2) (nm := M.2.2 36) (b := 60 * s) (nt := nth (M.2.1 1)) (m := m) h24 hnum
      have bk : ∀ (N : MS), NS N (c + 1) Sn Sm Sh St t Sb → BEQ M N → NR G N (c + 1) (zn 50) (cW G zn zs zm zh zt zr zb Sn Ss Sm Sh St t Sb fi fs pa dk (lBk zl G.2.1 Sl ++ flat (updW ws (3 + s) []) 9)) := by
        intro N g1 g2
        refine NR_pt (by omega) g1 ?_
        rw [← hwl, updW_id]
        exact BS_e (BS_m hB (by omega)) g2
      unfold f_ro f_roM
      rw [if_pos e, ht, hm1, if_neg hn1, tn_nI (by omega)]
      by_cases hm : 2 ≤ m ∧ m ≤ 12
      · rw [if_pos hm]
        by_cases hk : f_okT (M.2.2 36) (60 * s) (nth (M.2.1 1)) m
        · rw [if_pos hk]
          have hC := hok.mpr hk
          by_cases hn : nrw (M.2.1 1) = 12
          · obtain ⟨rfl, rfl⟩ := k2 ⟨hm.1, hm.2, hC⟩ hn
            rw [if_pos hn, if_neg (fun q => q.2.2.2.2 hn)]
            exact ⟨rfl, bk M (NS_m hS (by omega)) (BEQ_r M)⟩
          · obtain ⟨rfl, hRN⟩ := k1 ⟨hm.1, hm.2, hC⟩ hn
            rw [if_neg hn, if_pos ⟨e, hn1, hm, hk, hn⟩]
            have hG2 : TG (f_mk (M.2.1 1) (f_rm (M.2.2 36) (60 * s) (M.2.1 30) m) m) St t := TG_row ⟨hT, hR, hU, hW⟩ rfl (by omega) hRN hm.1 hm.2 (fun i hi => by show (Sl.2.2 2 i).toInt32 = _; rw [rm_i m i hi, hnum i hi]) (fun i hi => by rw [rm_i m i hi, ← hnum i hi]; exact l32_of h24 (hC i hi).1)
            have hnr : nrw (f_mk (M.2.1 1) (f_rm (M.2.2 36) (60 * s) (M.2.1 30) m) m) = nrw (M.2.1 1) + 1 := by
              have f2 := mk_2 (wd := (M.2.1 1)) (md := (f_rm (M.2.2 36) (60 * s) (M.2.1 30) m)) (n := m) rfl
              unfold nrw at f2 ⊢; rw [f2, tn_nI (by have := hW.2.2.1.2; unfold nrw at this; omega)]
            exact ⟨rfl, bk _ ⟨ST_m (⟨hG2, hr, td, nb, ⟨HR_row hW rfl (by omega) (by omega) hH, Nat.le_refl _, Nat.le_refl _⟩, ⟨hb0, hb3, hb6⟩, hbk, hls, BW_m hbw (by rw [hnr]; omega) (Nat.le_refl _) (by omega)⟩ : ST _ _ _ _ _ _ _ _ _ hr td (20 * c)) (by omega) (by omega) (by omega), ⟨h3, h4⟩, ⟨tn0, htn9, htn, htm, htp, hby⟩, ⟨hf2, hf3⟩, h24m, h27⟩ (BEQ_r M)⟩
        · rw [if_neg hk, if_neg (fun q => hk q.2.2.2.1)]
          obtain ⟨rfl, rfl⟩ := k3 (fun q => hk (hok.mp q.2.2))
          exact ⟨rfl, bk M (NS_m hS (by omega)) (BEQ_r M)⟩
      · rw [if_neg hm, if_neg (fun q => hm q.2.2.1)]
        obtain ⟨rfl, rfl⟩ := k3 (fun q => hm ⟨q.1, q.2.1⟩)
        exact ⟨rfl, bk M (NS_m hS (by omega)) (BEQ_r M)⟩
  · refine ⟨cW G zn zs zm zh zt zr zb Sn Ss Sm Sh St Sr Sb fi fs pa dk (flat ws 9), 0, 0, _, _, _, hp, rfl, ⟨by decide, by decide, by decide⟩, K10_rowOfN (fun z => absurd z e), fun v w' h => ?_⟩
    obtain ⟨rfl, rfl⟩ := h
    unfold f_ro f_roM
    rw [if_neg e, if_neg e, if_neg (fun z => e z.1)]
    exact ⟨rfl, NR_nw (NS_m hS (by omega)) hB (BEQ_r M) (by omega)⟩
theorem five5_e {f g : Nat → Int32} {a b c d e : Int32} {i : Nat} (h : i < 5) : five5 f a b c d e i = five5 g a b c d e i := by
  unfold five5
  obtain rfl | rfl | rfl | rfl | rfl : i = 0 ∨ i = 1 ∨ i = 2 ∨ i = 3 ∨ i = 4 := by omega
  all_goals rfl
theorem fb_e {f g : Nat → Int32} {a b c d e : Int32} {k : Nat} (h : k < 20) : f_fb (five5 f a b c d e) k = f_fb (five5 g a b c d e) k := by
  unfold f_fb; rw [five5_e (g := g) (by omega)]
theorem byt8 (x : Int32) : BYT (vp_nar .byte x.toInt8.toInt32) := by
  show BYT (x.toInt8.toInt32.toInt8.toInt32)
  unfold BYT
  rw [Int8.toInt_toInt32]
  have h1 := Int8.le_toInt x.toInt8.toInt32.toInt8
  have h2 := Int8.toInt_lt x.toInt8.toInt32.toInt8
  omega
theorem fb_byt {five : Nat → Int32} {k : Nat} : BYT (f_fb five k) := by
  unfold f_fb
  generalize (five (k / 4) >>> (nI (24 - 8 * (k % 4)) &&& 31)) = x
  exact byt8 x
theorem tp_i {tape five : Nat → Int32} {t : Nat} : ∀ k j, f_tp tape five t k j = if t ≤ j ∧ j < t + k then f_fb five (j - t) else tape j
  | 0, j => by rw [f_tp, if_neg (by omega)]
  | k + 1, j => by
    rw [f_tp]
    by_cases e : j = t + k
    · subst e; rw [pk_us, if_pos (by omega), show t + k - t = k by omega]
    · rw [pk_un e, tp_i k j]
      by_cases z : t ≤ j ∧ j < t + k
      · rw [if_pos z, if_pos (by omega)]
      · rw [if_neg z, if_neg (by omega)]
set_option maxHeartbeats 1000000 in
theorem cs_feed {l : Launch} {G : GG} {M : MS} {c o : Nat} {w : va_W} {a : Int32} {b : Int32} {c0 : Int32} {d : Int32} {e : Int32} (hN : NR G M c o w) (hc : c ≤ 1000) : Stc l G yX10_feed cX10_feed 6 (some .int) 2 [.int a, .int b, .int c0, .int d, .int e] w o (fun v w' => v = some (.int (if tn (M.1 12) + 20 ≤ 900 then nI (tn (M.1 12) + 20) else -1)) ∧ NR G (if tn (M.1 12) + 20 ≤ 900 then sS (aR (aR M 13 (five5 (M.2.1 13) a b c0 d e)) 11 (f_tp (M.2.1 11) (five5 (M.2.1 13) a b c0 d e) (tn (M.1 12)) 20)) 12 (nI (tn (M.1 12) + 20)) else M) (c + 1) o w') := by
  obtain ⟨zn, zs, zm, zh, zt, zr, zb, Sn, Ss, Sm, Sh, St, Sr, Sb, fi, fs, pa, dk, ws, ⟨rfl, hp⟩, hS, hB⟩ := hN
  obtain ⟨⟨⟨hT, hR, hU, hW⟩, hr, td, nb, ⟨hH, hhr, htd⟩, ⟨hb0, hb3, hb6⟩, hbk, hls, hbw⟩, ⟨h3, h4⟩, ⟨tn0, htn9, htn, htm, htp, hby⟩, ⟨hf2, hf3⟩, h24, h27⟩ := id hS
  refine ⟨cW G zn zs zm zh zt zr zb Sn Ss Sm Sh St Sr Sb fi fs pa dk (flat ws 9), 0, 0, _, _, _, hp, rfl, ⟨by decide, by decide, by decide⟩, K10_feed htn htn9, fun v w' h => ?_⟩
  obtain ⟨x0, s, ⟨h1, h2⟩, rfl, rfl⟩ := h
  rw [htm, tn_nI (by omega)]
  by_cases z : tn0 + 20 ≤ 900
  · rw [if_pos z, if_pos z]
    obtain ⟨rfl, ⟨g1, g2, g3⟩, g4, g5⟩ := h1 z
    have val : ∀ j, j < tn0 + 20 → s.2.1 0 j = f_tp (M.2.1 11) (five5 (M.2.1 13) a b c0 d e) tn0 20 j ∧ BYT (s.2.1 0 j) := by
      intro j hj
      rw [tp_i]
      by_cases q : j < tn0
      · rw [if_neg (by omega), g4 j q]; exact ⟨htp j q, hby j q⟩
      · have hv := g5 (j - tn0) (by omega)
        rw [show tn0 + (j - tn0) = j by omega] at hv
        rw [if_pos (by omega), hv]
        exact ⟨fb_e (by omega), fb_byt⟩
    exact ⟨rfl, NR_nw (M := M) ⟨ST_m hS.1 (by omega) (by omega) (by omega), ⟨h3, h4⟩, ⟨tn0 + 20, z, g1, rfl, fun j hj => (val j hj).1, fun j hj => (val j hj).2⟩, ⟨g2.trans hf2, g3.trans hf3⟩, h24, h27⟩ hB ⟨⟨rfl, rfl, rfl, rfl, rfl⟩, ⟨rfl, rfl⟩, rfl⟩ (by omega)⟩
  · rw [if_neg z, if_neg z]
    obtain ⟨rfl, rfl⟩ := h2 z
    exact ⟨rfl, NR_nw (NS_m hS (by omega)) hB (BEQ_r M) (by omega)⟩
