set_option maxHeartbeats 1000000 in
theorem cs_days {l : Launch} {G : GG} {M : MS} {c o : Nat} {w : va_W} {x : Int32} (hN : NR G M c o w) (hc : c ≤ 1000) : Stc l G yX10_days cX10_days 11 (some .int) 9 [.int x] w o (fun v w' => v = some (.int (if isI x 4 then (if M.2.1 34 (tn x) = -1 then -6 else nI (f_dys (M.2.2 36) (60 * tn x) M (M.2.1 2) (tn (M.2.1 34 (tn x)) / 3)).1) else -2)) ∧ NR G (setHd (if isI x 4 ∧ ¬ M.2.1 34 (tn x) = -1 then (f_dys (M.2.2 36) (60 * tn x) M (M.2.1 2) (tn (M.2.1 34 (tn x)) / 3)).2.1 else M) (if isI x 4 ∧ ¬ M.2.1 34 (tn x) = -1 then (f_dys (M.2.2 36) (60 * tn x) M (M.2.1 2) (tn (M.2.1 34 (tn x)) / 3)).2.2 else (M.2.1 2))) (c + 1) o w') := by
  obtain ⟨zn, zs, zm, zh, zt, zr, zb, Sn, Ss, Sm, Sh, St, Sr, Sb, fi, fs, pa, dk, ws, ⟨rfl, hp⟩, hS, hB⟩ := hN
  obtain ⟨⟨⟨hT, hR, hU, hW⟩, hr, td, nb, ⟨hH, hhr, htd⟩, ⟨hb0, hb3, hb6⟩, hbk, hls, hbw⟩, ⟨h3, h4⟩, ⟨tn0, htn9, htn, htm, htp, hby⟩, ⟨hf2, hf3⟩, h24, h27⟩ := id hS
  by_cases e : isI x 4
  · obtain ⟨s, hs, rfl⟩ := isI_of e
    obtain ⟨⟨v0, hv0, hv1⟩, hv2⟩ := hB.2.1 s hs
    have ht : tn (nI s) = s := tn_nI (by omega)
    rw [ht]
    rcases hv2 with ⟨hfs, hwl, hm1⟩ | ⟨zl, Sl, m, q, ⟨hfs, hwl⟩, ⟨hm6, hq4⟩, ⟨hm1, hm2⟩, ⟨hl0, hl1⟩, hnum⟩
    · refine ⟨cW G zn zs zm zh zt zr zb Sn Ss Sm Sh St Sr Sb fi fs pa dk (flat ws 9), 0, 0, _, _, _, hp, rfl, ⟨by decide, by decide, by decide⟩, K10_daysN (fun _ => by rw [ht]; exact hfs), fun v w' h => ?_⟩
      obtain ⟨rfl, rfl⟩ := h
      rw [if_pos e, if_pos e, if_pos hm1, if_neg (fun q => q.2 hm1), if_neg (fun q => q.2 hm1), hd_slf]
      exact ⟨rfl, NR_nw (NS_m hS (by omega)) hB (BEQ_r M) (by omega)⟩
    · have hp2 := hp.trans (cW_R ((flat_pick (i := 3 + s) (n := 9) (by omega)).trans (by rw [hwl])))
      refine ⟨(nBk zn (zs 50) G.2.1 Sn fi fs pa dk ++ (sBk zs (zm 50) (zb 50) G.2.1 Ss ++ (mBk zm (zt 50) (zr 50) (zh 50) G.2.1 Sm ++ (hBk zh G.2.1 Sh ++ (tBk zt G.2.1 St ++ (rBk zr G.2.1 Sr ++ (bBk zb G.2.1 Sb ++ (lBk zl G.2.1 Sl ++ (flat (updW ws (3 + s) []) 9))))))))), 0, 0, _, _, _, hp2, rfl, ⟨by decide, by decide, by decide⟩, K10_daysS (M := M) (bh := 4000 * c) (bt := 1000 * c) (bl := 20 * c) hs hfs hl1 hm6 hnum hS.1 h24 h3 h4 (by omega) (by omega) (by omega), fun v w' h => ?_⟩
      obtain ⟨x0, ⟨q1, q2, q3⟩, ⟨rfl, hQ⟩, rfl, rfl⟩ := h
      have hn1 : ¬ nI m = -1 := nI_nmO (by omega)
      rw [hm1, if_pos e, if_neg hn1, if_pos ⟨e, hn1⟩, if_pos ⟨e, hn1⟩, tn_nI (by omega)]
      obtain ⟨⟨d1, ⟨d2, d3⟩, d4, d5⟩, d6, d7⟩ := dys_fr (nm := M.2.2 36) (b := 60 * s) (M := M) (h := M.2.1 2) (m / 3)
      have hNS : NS (setHd (f_dys (M.2.2 36) (60 * s) M (M.2.1 2) (m / 3)).2.1 (f_dys (M.2.2 36) (60 * s) M (M.2.1 2) (m / 3)).2.2) (c + 1) Sn Sm q1 St q2 q3 := ⟨ST_m hQ (by omega) (by omega) (by omega), ⟨h3, h4⟩, ⟨tn0, htn9, htn, d1.trans htm, fun j hj => (htp j hj).trans (congrFun d6 j).symm, hby⟩, ⟨hf2.trans d2.symm, hf3.trans d3.symm⟩, d4.trans h24, d5.trans h27⟩
      have hBS : BS G (setHd (f_dys (M.2.2 36) (60 * s) M (M.2.1 2) (m / 3)).2.1 (f_dys (M.2.2 36) (60 * s) M (M.2.1 2) (m / 3)).2.2) (c + 1) fi fs pa dk (updW ws (3 + s) (lBk zl G.2.1 Sl)) := by
        rw [← hwl, updW_id]
        exact BS_e (BS_m hB (by omega)) (BEQ_hd d7)
      have hz : NR G (setHd (f_dys (M.2.2 36) (60 * s) M (M.2.1 2) (m / 3)).2.1 (f_dys (M.2.2 36) (60 * s) M (M.2.1 2) (m / 3)).2.2) (c + 1) (zn 50) (cW G zn zs zm zh zt zr zb Sn Ss Sm q1 St q2 q3 fi fs pa dk (lBk zl G.2.1 Sl ++ flat (updW ws (3 + s) []) 9)) := NR_pt (by omega) hNS hBS
      exact ⟨rfl, hz⟩
  · refine ⟨cW G zn zs zm zh zt zr zb Sn Ss Sm Sh St Sr Sb fi fs pa dk (flat ws 9), 0, 0, _, _, _, hp, rfl, ⟨by decide, by decide, by decide⟩, K10_daysN (fun z => absurd z e), fun v w' h => ?_⟩
    obtain ⟨rfl, rfl⟩ := h
    rw [if_neg e, if_neg e, if_neg (fun q => e q.1), if_neg (fun q => e q.1), hd_slf]
    exact ⟨rfl, NR_nw (NS_m hS (by omega)) hB (BEQ_r M) (by omega)⟩
/-- what the reference's calls ask for -/
def RF (M : MS) : Prop := WF (M.2.1 1) ∧ (∃ n, n ≤ 60 ∧ M.1 3 = nI n ∧ WB (M.2.1 5) n (nrw (M.2.1 1))) ∧ (∃ t, t ≤ 900 ∧ M.1 12 = nI t) ∧ M.1 24 = -1 ∧ M.1 27 = nI 0 ∧ WS (M.2.1 34) (M.2.1 35) ∧ ∀ q, q < 3 → ¬ M.2.1 10 q = -1 → WF (imgW M q)
theorem NR_rf {G : GG} {M : MS} {c o : Nat} {w : va_W} (hN : NR G M c o w) : RF M := by
  obtain ⟨zn, zs, zm, zh, zt, zr, zb, Sn, Ss, Sm, Sh, St, Sr, Sb, fi, fs, pa, dk, ws, -, hS, hB⟩ := hN
  obtain ⟨⟨⟨hT, hR, hU, hW⟩, hr, td, nb, -, ⟨hb0, hb3, hb6⟩, hbk, hls, hbw⟩, -, ⟨tn0, htn9, htn, htm, htp, hby⟩, -, h24, h27⟩ := hS
  refine ⟨hW, ⟨nb, hb6, hb3, fun i hi => ?_⟩, ⟨tn0, htn9, htm⟩, h24, h27, fun s hs => ?_, fun q hq hn => ?_⟩
  · obtain ⟨⟨r, a1, a2⟩, ⟨k, b1, b2⟩, -⟩ := hbw i hi
    have := hW.2.2.1.2
    rw [a2, b2, tn_nI (by omega), tn_nI (by omega)]
    exact ⟨⟨rfl, a1⟩, rfl, b1⟩
  · obtain ⟨hv, hv2⟩ := hB.2.1 s hs
    refine ⟨?_, hv⟩
    rcases hv2 with ⟨-, -, h⟩ | ⟨zl, Sl, m, q, -, ⟨h1, -⟩, ⟨h2, -⟩, -⟩
    · exact Or.inl h
    · exact Or.inr ⟨m, h1, h2⟩
  · rcases hB.1 q hq with ⟨-, -, h⟩ | ⟨ze, zf, zi, zu, zv, zk, Se, Sf, Si, Su, Sv, Sk, wi, hi, bi, -, ⟨hw1, hw2, hw3⟩, hSi, -⟩
    · exact absurd h hn
    · exact (ST_e1 (wd' := imgW M q) (hd' := imgH M q) (bk' := imgB M q) hw1 hw2 hw3 hSi).1.2.2.2
theorem EQ_g {M : MS} (h27 : M.1 27 = nI 0) (g : Nat → Int32) : EQ M (setHd (aR (sS M 27 (nI 0)) 26 g) (M.2.1 2)) := ⟨⟨⟨rfl, rfl⟩, rfl, ⟨rfl, rfl⟩, rfl, h27.symm⟩, ⟨⟨rfl, rfl, rfl⟩, ⟨rfl, rfl, rfl, rfl, rfl⟩, rfl, rfl, rfl⟩, rfl⟩
theorem EQ_g2 {M : MS} (h27 : M.1 27 = nI 0) (g : Nat → Int32) (a b : Int32) : EQ M (setHd (aR (sS (sS (sS M 28 a) 29 b) 27 (nI 0)) 26 g) (M.2.1 2)) := ⟨⟨⟨rfl, rfl⟩, rfl, ⟨rfl, rfl⟩, rfl, h27.symm⟩, ⟨⟨rfl, rfl, rfl⟩, ⟨rfl, rfl, rfl, rfl, rfl⟩, rfl, rfl, rfl⟩, rfl⟩
