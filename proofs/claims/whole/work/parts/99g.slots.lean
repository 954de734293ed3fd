section SR7
variable {l : Launch} {G : GG} {M N : MS} {c c' o s i : Nat} {w wl : va_W} {zn zs zm zh zt zr zb : Nat → Nat} {Sn Ss Sm Sh St Sr Sb : MS} {fi fs fs' : Nat → Option Nat} {pa dk : Option Nat} {ws : Nat → va_W}
/-- a part that lies beside, put back -/
theorem NR_pt (hi : i < 9) (hS : NS N c' Sn Sm Sh St Sr Sb) (hB : BS G N c' fi fs pa dk (updW ws i wl)) : NR G N c' (zn 50) (cW G zn zs zm zh zt zr zb Sn Ss Sm Sh St Sr Sb fi fs pa dk (wl ++ flat (updW ws i []) 9)) := ⟨zn, zs, zm, zh, zt, zr, zb, Sn, Ss, Sm, Sh, St, Sr, Sb, fi, fs, pa, dk, updW ws i wl, ⟨rfl, cW_R (flat_put 9 hi).symm⟩, hS, hB⟩
theorem BS_sl (hB : BS G M c fi fs pa dk ws) (hs : s < 4) (e : (N.2.1 6 = M.2.1 6 ∧ N.2.1 7 = M.2.1 7 ∧ N.2.1 8 = M.2.1 8 ∧ N.2.1 9 = M.2.1 9 ∧ N.2.1 10 = M.2.1 10)) (h4 : ∀ t, t < 4 → ¬ t = s → N.2.1 34 t = M.2.1 34 t ∧ N.2.1 35 t = M.2.1 35 t ∧ fs' t = fs t) (h6 : ∀ t, t < 4 → ¬ t = s → ∀ j, j < 60 → N.2.2 36 (60 * t + j) = M.2.2 36 (60 * t + j)) (hL : LPt G N s (fs' s) wl) : BS G N c fi fs' pa dk (updW ws (3 + s) wl) := by
  obtain ⟨h1, h2, h3, h5⟩ := hB
  obtain ⟨d4, d5, d6, d7, d8⟩ := e
  refine ⟨fun k hk => ?_, fun t ht => ?_, by rw [updW_n (by omega)]; exact h3, by rw [updW_n (by omega)]; exact h5⟩
  · rw [updW_n (by omega)]
    have := h1 k hk
    unfold IP at this ⊢
    rw [d4, d5, d6, d7, d8]; exact this
  · by_cases z : t = s
    · subst z; rw [updW_s]; exact hL
    · rw [updW_n (by omega)]
      obtain ⟨a1, a2, a3⟩ := h4 t ht z
      have := h2 t ht
      unfold LPt at this ⊢
      rw [a1, a2, a3]
      refine ⟨this.1, this.2.imp id ?_⟩
      rintro ⟨zl, Sl, m, q, b1, b2, b3, b4, b5⟩
      exact ⟨zl, Sl, m, q, b1, b2, b3, b4, fun j hj => by rw [h6 t ht z j (by omega)]; exact b5 j hj⟩
theorem NS_e (hS : NS M c Sn Sm Sh St Sr Sb) (e : ((N.1 3 = M.1 3 ∧ N.1 4 = M.1 4) ∧ N.1 12 = M.1 12 ∧ (N.1 19 = M.1 19 ∧ N.1 20 = M.1 20) ∧ N.1 24 = M.1 24 ∧ N.1 27 = M.1 27) ∧ (N.2.1 1 = M.2.1 1 ∧ N.2.1 2 = M.2.1 2 ∧ N.2.1 5 = M.2.1 5) ∧ N.2.1 11 = M.2.1 11) : NS N c Sn Sm Sh St Sr Sb := by
  obtain ⟨⟨⟨e1, e2⟩, e3, ⟨e4, e5⟩, e6, e7⟩, ⟨d1, d2, d3⟩, d9⟩ := e
  unfold NS at hS ⊢
  rw [e1, e2, e3, e4, e5, e6, e7, d1, d2, d3, d9]; exact hS
end SR7
theorem updL_s {f : Nat → Int64} {k : Nat} {x : Int64} : vp_updL f k x k = x := if_pos rfl
theorem updL_n {f : Nat → Int64} {k j : Nat} {x : Int64} (h : ¬ j = k) : vp_updL f k x j = f j := if_neg h
theorem lR_36 {M : MS} {g : Nat → Int64} : (lR M 36 g).2.2 36 = g := by show va_up M.2.2 36 g 36 = g; unfold va_up; rw [if_pos rfl]
theorem lS_2 {S : MS} {i : Nat} {v : Int64} : (lS S 2 i v).2.2 2 = vp_updL (S.2.2 2) i v := by
  show va_up S.2.2 2 (vp_updL (S.2.2 2) i v) 2 = _
  exact va_up_self _ _ _
theorem lR_2 {S : MS} {g : Nat → Int64} : (lR S 2 g).2.2 2 = g := by show va_up S.2.2 2 g 2 = g; unfold va_up; rw [if_pos rfl]
section SR7x
variable {l : Launch} {G : GG} {x y z : Int32} {zn zs zm zh zt zr zb : Nat → Nat} {Sn Ss Sm Sh St Sr Sb : MS} {fi fs : Nat → Option Nat} {pa dk : Option Nat} {R : va_W}
theorem K10_rowX (hx : ¬ isI x 4) : Con l G yX10_row cX10_row 4 (some .int) 2 0 0 [.ref (zn 50), .int x, .int y, .int z] (nBk zn (zs 50) G.2.1 Sn fi fs pa dk ++ (sBk zs (zm 50) (zb 50) G.2.1 Ss ++ (mBk zm (zt 50) (zr 50) (zh 50) G.2.1 Sm ++ (hBk zh G.2.1 Sh ++ (tBk zt G.2.1 St ++ (rBk zr G.2.1 Sr ++ (bBk zb G.2.1 Sb ++ (R)))))))) (pI (-2) (nBk zn (zs 50) G.2.1 Sn fi fs pa dk ++ (sBk zs (zm 50) (zb 50) G.2.1 Ss ++ (mBk zm (zt 50) (zr 50) (zh 50) G.2.1 Sm ++ (hBk zh G.2.1 Sh ++ (tBk zt G.2.1 St ++ (rBk zr G.2.1 Sr ++ (bBk zb G.2.1 Sb ++ (R))))))))) := by
  refine Con.mk (own := RX10) (by decide) rfl (Nat.le_of_ble_eq_true rfl) (fun X C => ?_)
  refine j_iload_n 1 C dX10_row_0 rfl rfl ?_
  refine j_sI 4 C dX10_row_1 rfl cw10_224 K10_isSlot rfl (by decide) ⟨Nat.le_refl _, Nat.le_refl _⟩ rfl (Nat.le_of_ble_eq_true rfl) ?_
  refine j_if_eqB 22 7 C dX10_row_4 (by decide) rfl (fun c4 => ?_) (fun c4 => absurd c4 hx)
  refine j_bipush 24 C dX10_row_22 rfl (v := (-2)) (by decide) ?_
  exact j_iret C dX10_row_24 ⟨rfl, rfl⟩
end SR7x
set_option maxHeartbeats 1000000 in
theorem cs_write {l : Launch} {G : GG} {M : MS} {c o : Nat} {w : va_W} {x : Int32} {y : Int32} {u : Int64} (hN : NR G M c o w) (hc : c ≤ 1000) : Stc l G yX10_write cX10_write 6 (some .int) 2 [.int x, .int y, .long u] w o (fun v w' => v = some (.int (f_wr (M.2.1 34) x y)) ∧ NR G (f_wrM M x y u) (c + 1) o w') := by
  obtain ⟨zn, zs, zm, zh, zt, zr, zb, Sn, Ss, Sm, Sh, St, Sr, Sb, fi, fs, pa, dk, ws, ⟨rfl, hp⟩, hS, hB⟩ := hN
  obtain ⟨⟨⟨hT, hR, hU, hW⟩, hr, td, nb, ⟨hH, hhr, htd⟩, ⟨hb0, hb3, hb6⟩, hbk, hls, hbw⟩, ⟨h3, h4⟩, ⟨tn0, htn9, htn, htm, htp, hby⟩, ⟨hf2, hf3⟩, h24, h27⟩ := id hS
  by_cases e : isI x 4
  · obtain ⟨s, hs, rfl⟩ := isI_of e
    obtain ⟨⟨v0, hv0, hv1⟩, hv2⟩ := hB.2.1 s hs
    have ht : tn (nI s) = s := tn_nI (by omega)
    rcases hv2 with ⟨hfs, hwl, hm1⟩ | ⟨zl, Sl, m, q, ⟨hfs, hwl⟩, ⟨hm6, hq4⟩, ⟨hm1, hm2⟩, ⟨hl0, hl1⟩, hnum⟩
    · refine ⟨cW G zn zs zm zh zt zr zb Sn Ss Sm Sh St Sr Sb fi fs pa dk (flat ws 9), 0, 0, _, _, _, hp, rfl, ⟨by decide, by decide, by decide⟩, K10_writeN (fun _ => by rw [ht]; exact hfs), fun v w' h => ?_⟩
      obtain ⟨rfl, rfl⟩ := h
      unfold f_wr f_wrM
      rw [if_pos e, if_pos e, ht, if_pos hm1, if_neg (fun z => z.2.1 hm1)]
      exact ⟨rfl, NR_nw (NS_m hS (by omega)) hB (BEQ_r M) (by omega)⟩
    · have hp2 := hp.trans (cW_R ((flat_pick (i := 3 + s) (n := 9) (by omega)).trans (by rw [hwl])))
      refine ⟨(nBk zn (zs 50) G.2.1 Sn fi fs pa dk ++ (sBk zs (zm 50) (zb 50) G.2.1 Ss ++ (mBk zm (zt 50) (zr 50) (zh 50) G.2.1 Sm ++ (hBk zh G.2.1 Sh ++ (tBk zt G.2.1 St ++ (rBk zr G.2.1 Sr ++ (bBk zb G.2.1 Sb ++ (lBk zl G.2.1 Sl ++ (flat (updW ws (3 + s) []) 9))))))))), 0, 0, _, _, _, hp2, rfl, ⟨by decide, by decide, by decide⟩, K10_writeS e (by rw [ht]; exact hfs) hl1 hm6 hl0 hq4, fun v w' h => ?_⟩
      obtain ⟨rfl, rfl⟩ := h
      have hn1 : ¬ nI m = -1 := nI_nmO (by omega)
      unfold f_wr f_wrM
      rw [if_pos e, ht, hm1, if_neg hn1, tn_nI (by omega)]
      by_cases ey : isI y m
      · rw [if_pos ey, if_pos ey, if_pos ⟨e, hn1, ey⟩, hm2]
        obtain ⟨j0, hj0, rfl⟩ := isI_of ey
        rw [tn_nI (by omega)]
        refine ⟨rfl, NR_pt (by omega) (NS_e (NS_m hS (by omega)) ⟨⟨⟨rfl, rfl⟩, rfl, ⟨rfl, rfl⟩, rfl, rfl⟩, ⟨rfl, rfl, rfl⟩, rfl⟩) (BS_sl (BS_m hB (by omega)) hs ⟨rfl, rfl, rfl, rfl, rfl⟩ (fun t _ _ => ⟨rfl, rfl, rfl⟩) (fun t ht4 htn j hj => by rw [lR_36, updL_n (by omega)]) ⟨⟨v0, hv0, hv1⟩, Or.inr ⟨zl, _, m, q, ⟨hfs, rfl⟩, ⟨hm6, hq4⟩, ⟨hm1, hm2⟩, ⟨hl0, hl1⟩, fun j hj => ?_⟩⟩)⟩
        rw [lS_2, lR_36]
        by_cases ej : j = j0
        · subst ej; rw [updL_s, updL_s]
        · rw [updL_n ej, updL_n (by omega)]; exact hnum j hj
      · rw [if_neg ey, if_neg ey, if_neg (fun z => ey z.2.2)]
        exact ⟨rfl, NR_pt (by omega) (NS_m hS (by omega)) (BS_sl (BS_m hB (by omega)) hs ⟨rfl, rfl, rfl, rfl, rfl⟩ (fun t _ _ => ⟨rfl, rfl, rfl⟩) (fun t _ _ j hj => rfl) ⟨⟨v0, hv0, hv1⟩, Or.inr ⟨zl, Sl, m, q, ⟨hfs, rfl⟩, ⟨hm6, hq4⟩, ⟨hm1, hm2⟩, ⟨hl0, hl1⟩, hnum⟩⟩)⟩
  · refine ⟨cW G zn zs zm zh zt zr zb Sn Ss Sm Sh St Sr Sb fi fs pa dk (flat ws 9), 0, 0, _, _, _, hp, rfl, ⟨by decide, by decide, by decide⟩, K10_writeN (fun z => absurd z e), fun v w' h => ?_⟩
    obtain ⟨rfl, rfl⟩ := h
    unfold f_wr f_wrM
    rw [if_neg e, if_neg e, if_neg (fun z => e z.1)]
    exact ⟨rfl, NR_nw (NS_m hS (by omega)) hB (BEQ_r M) (by omega)⟩
set_option maxHeartbeats 1000000 in
theorem cs_row {l : Launch} {G : GG} {M : MS} {c o : Nat} {w : va_W} {x : Int32} {y : Int32} {z : Int32} (hN : NR G M c o w) (hc : c ≤ 1000) : Stc l G yX10_row cX10_row 4 (some .int) 3 [.int x, .int y, .int z] w o (fun v w' => v = some (.int (if (isI x 4 ∧ isI y 4 ∧ z ≤ nI 60) then (if ¬ 0 ≤ z then -3 else nI 0) else -2)) ∧ NR G (if (isI x 4 ∧ isI y 4 ∧ z ≤ nI 60) then (if ¬ 0 ≤ z then M else (lR (aR (aR M 34 (upd (M.2.1 34) (tn x) z)) 35 (upd (M.2.1 35) (tn x) y)) 36 (zL (M.2.2 36) (60 * tn x) 60))) else M) (c + 1) o w') := by
  obtain ⟨zn, zs, zm, zh, zt, zr, zb, Sn, Ss, Sm, Sh, St, Sr, Sb, fi, fs, pa, dk, ws, ⟨rfl, hp⟩, hS, hB⟩ := hN
  obtain ⟨⟨⟨hT, hR, hU, hW⟩, hr, td, nb, ⟨hH, hhr, htd⟩, ⟨hb0, hb3, hb6⟩, hbk, hls, hbw⟩, ⟨h3, h4⟩, ⟨tn0, htn9, htn, htm, htp, hby⟩, ⟨hf2, hf3⟩, h24, h27⟩ := id hS
  by_cases ex : isI x 4
  · obtain ⟨s, hs, rfl⟩ := isI_of ex
    obtain ⟨⟨v0, hv0, hv1⟩, hv2⟩ := hB.2.1 s hs
    have ht : tn (nI s) = s := tn_nI (by omega)
    have fin : ∀ (fs' : Nat → Option Nat) (zl : Nat → Nat) (t : MS), (isI (nI s) 4 ∧ isI y 4 ∧ z ≤ nI 60) → 0 ≤ z → fs' s = some (zl 50) → (∀ t, t < 4 → ¬ t = s → fs' t = fs t) → t.1 0 = y → t.1 1 = z → (∀ j, j < tn z → t.2.2 2 j = lN 0) → NR G (lR (aR (aR M 34 (upd (M.2.1 34) s z)) 35 (upd (M.2.1 35) s y)) 36 (zL (M.2.2 36) (60 * s) 60)) (c + 1) (zn 50) (cW G zn zs zm zh zt zr zb Sn Ss Sm Sh St Sr Sb fi fs' pa dk (lBk zl G.2.1 t ++ flat (updW ws (3 + s) []) 9)) := by
      intro fs' zl t he hz h1 h2 h3 h4 h5
      obtain ⟨q, hq, rfl⟩ := isI_of he.2.1
      obtain ⟨m, hm, rfl⟩ := le60 hz he.2.2
      rw [tn_nI (by omega)] at h5
      refine NR_pt (by omega) (NS_e (NS_m hS (by omega)) ⟨⟨⟨rfl, rfl⟩, rfl, ⟨rfl, rfl⟩, rfl, rfl⟩, ⟨rfl, rfl, rfl⟩, rfl⟩) (BS_sl (BS_m hB (by omega)) hs ⟨rfl, rfl, rfl, rfl, rfl⟩ (fun t ht4 htn => ⟨?_, ?_, h2 t ht4 htn⟩) (fun t ht4 htn j hj => ?_) ⟨⟨q, hq, ?_⟩, Or.inr ⟨zl, t, m, q, ⟨h1, rfl⟩, ⟨hm, hq⟩, ⟨?_, ?_⟩, ⟨h3, h4⟩, fun j hj => ?_⟩⟩)
      · show upd (M.2.1 34) s (nI m) t = _; rw [pk_un htn]
      · show upd (M.2.1 35) s (nI q) t = _; rw [pk_un htn]
      · rw [lR_36]; unfold zL; rw [if_neg (by omega)]
      · show upd (M.2.1 35) s (nI q) s = _; rw [pk_us]
      · show upd (M.2.1 34) s (nI m) s = _; rw [pk_us]
      · show upd (M.2.1 35) s (nI q) s = _; rw [pk_us]
      · rw [lR_36]; unfold zL; rw [if_pos (by omega)]; exact h5 j hj
    rcases hv2 with ⟨hfs, hwl, hm1⟩ | ⟨zl, Sl, m, q, ⟨hfs, hwl⟩, ⟨hm6, hq4⟩, ⟨hm1, hm2⟩, ⟨hl0, hl1⟩, hnum⟩
    · have e7 : updW ws (3 + s) [] = ws := by rw [← hwl]; exact updW_id
      refine ⟨cW G zn zs zm zh zt zr zb Sn Ss Sm Sh St Sr Sb fi fs pa dk (flat ws 9), 2, 63, _, _, _, hp, rfl, ⟨by decide, by decide, by decide⟩, K10_rowN (by rw [ht]; exact hfs), fun v w' h => ?_⟩
      rcases h with ⟨he, hz, rfl, zl, t, rfl, h1, h2, h3⟩ | ⟨rfl, h | h⟩
      · rw [if_pos he, if_neg (fun q => q hz), if_pos he, if_neg (fun q => q hz)]
        refine ⟨rfl, ?_⟩
        rw [← e7, ht]
        exact fin _ zl t he hz (va_up_us _ _ _) (fun t _ h => va_up_ne _ _ h) h1 h2 h3
      · rw [if_pos h.1, if_pos h.2.1, if_pos h.1, if_pos h.2.1]
        exact ⟨h.2.2, NR_nw (NS_m hS (by omega)) hB (BEQ_r M) (by omega)⟩
      · rw [if_neg h.1, if_neg h.1]
        exact ⟨h.2, NR_nw (NS_m hS (by omega)) hB (BEQ_r M) (by omega)⟩
    · have hp2 := hp.trans (cW_R ((flat_pick (i := 3 + s) (n := 9) (by omega)).trans (by rw [hwl])))
      refine ⟨(nBk zn (zs 50) G.2.1 Sn fi fs pa dk ++ (sBk zs (zm 50) (zb 50) G.2.1 Ss ++ (mBk zm (zt 50) (zr 50) (zh 50) G.2.1 Sm ++ (hBk zh G.2.1 Sh ++ (tBk zt G.2.1 St ++ (rBk zr G.2.1 Sr ++ (bBk zb G.2.1 Sb ++ (lBk zl G.2.1 Sl ++ (flat (updW ws (3 + s) []) 9))))))))), 0, 0, _, _, _, hp2, rfl, ⟨by decide, by decide, by decide⟩, K10_rowS (by rw [ht]; exact hfs), fun v w' h => ?_⟩
      obtain ⟨x0, t, ⟨h1, h2, h3⟩, rfl, rfl⟩ := h
      have same : NR G M (c + 1) (zn 50) (cW G zn zs zm zh zt zr zb Sn Ss Sm Sh St Sr Sb fi fs pa dk (lBk zl G.2.1 Sl ++ flat (updW ws (3 + s) []) 9)) := NR_pt (by omega) (NS_m hS (by omega)) (BS_sl (BS_m hB (by omega)) hs ⟨rfl, rfl, rfl, rfl, rfl⟩ (fun t _ _ => ⟨rfl, rfl, rfl⟩) (fun t _ _ j hj => rfl) ⟨⟨v0, hv0, hv1⟩, Or.inr ⟨zl, Sl, m, q, ⟨hfs, rfl⟩, ⟨hm6, hq4⟩, ⟨hm1, hm2⟩, ⟨hl0, hl1⟩, hnum⟩⟩)
      by_cases he : (isI (nI s) 4 ∧ isI y 4 ∧ z ≤ nI 60)
      · by_cases hz : 0 ≤ z
        · obtain ⟨rfl, g1, g2, g3⟩ := h1 he hz
          rw [if_pos he, if_neg (fun q => q hz), if_pos he, if_neg (fun q => q hz), ht]
          exact ⟨rfl, fin fs zl t he hz hfs (fun _ _ _ => rfl) g1 g2 g3⟩
        · obtain ⟨rfl, rfl⟩ := h2 he hz
          rw [if_pos he, if_pos hz, if_pos he, if_pos hz]
          exact ⟨rfl, same⟩
      · obtain ⟨rfl, rfl⟩ := h3 he
        rw [if_neg he, if_neg he]
        exact ⟨rfl, same⟩
  · refine ⟨cW G zn zs zm zh zt zr zb Sn Ss Sm Sh St Sr Sb fi fs pa dk (flat ws 9), 0, 0, _, _, _, hp, rfl, ⟨by decide, by decide, by decide⟩, K10_rowX ex, fun v w' h => ?_⟩
    obtain ⟨rfl, rfl⟩ := h
    rw [if_neg (fun q => ex q.1), if_neg (fun q => ex q.1)]
    exact ⟨rfl, NR_nw (NS_m hS (by omega)) hB (BEQ_r M) (by omega)⟩
