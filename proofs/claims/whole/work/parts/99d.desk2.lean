theorem BW_BH {bk bk' : Nat → Int32} {n nr hr : Nat} (h : BW bk n nr hr) (hh : hr ≤ 1000000) (he : ∀ j, j < 6 * n → bk' j = bk j) : BH bk' n nr := by
  intro i hi
  obtain ⟨h1, h2, ⟨x, hx, hx2, hx3⟩, h4⟩ := h i hi
  refine ⟨by rw [he _ (by omega)]; exact h1, by rw [he _ (by omega)]; exact h2, ⟨x, by omega, by rw [he _ (by omega)]; exact hx2, fun j hij hj h2 hh2 e => ?_⟩, by rw [he _ (by omega)]; exact h4⟩
  rw [he _ (by omega)] at e
  obtain ⟨-, -, ⟨y, hy, hy2, -⟩, -⟩ := h j hj
  have : h2 = y := (nI_eq (by omega) (by omega)).mp (e.symm.trans hy2)
  exact hx3 j hij hj h2 (by omega) e
theorem BH_of {wd hd bk bk' : Nat → Int32} {Sh : MS} {n hr td : Nat} (h : BW bk n (nrw wd) hr) (hH : HR wd Sh hd hr td) (hr9 : hr ≤ 1000000000) (he : ∀ j, j < 6 * n → bk' j = bk j) (q : ¬ nI 400 < Sh.1 0) : BH bk' n (nrw wd) := by
  obtain ⟨L, g, hG⟩ := hH
  rw [hG.2.2.1.2] at q
  have h4 : ¬ 400 < hr := fun z => q (nI_lt z (by omega))
  exact BW_BH h (by omega) he
theorem LSt_0 {x y : Int32} {c : Nat} (h : LSt x y c) (hc : c ≤ 100000) : ¬ x = 0 ↔ 0 < y := by
  rcases h with ⟨rfl, rfl⟩ | ⟨rfl, n, h1, h2, rfl⟩
  · exact ⟨fun z => absurd rfl z, fun z => absurd z (by decide)⟩
  · exact ⟨fun _ => nI_lt (a := 0) h1 (by omega), fun _ => by decide⟩
theorem fit_ok {x y z u k5 : Int32} : ((¬ z < 0 ∧ ¬ u < z ∧ ¬ nI 1000 < u ∧ ¬ nI 30 < u - z) ∧ isI x 2 ∧ isI y 4 ∧ isI k5 3) ↔ (isI x 2 ∧ isI y 4 ∧ (lN 0 ≤ z.toInt64 ∧ z.toInt64 ≤ u.toInt64) ∧ isI u 1001 ∧ tn u - tn z ≤ 30 ∧ isI k5 3) := by
  constructor
  · rintro ⟨hn, h1, h2, h3⟩
    obtain ⟨lo, hi, hlh, hhi, hap, rfl, rfl⟩ := num_of hn
    refine ⟨h1, h2, ⟨?_, ?_⟩, isI_nI (by omega) (by omega), by rw [tn_nI (by omega), tn_nI (by omega)]; omega, h3⟩
    · rw [Int64.le_iff_toInt_le, t64, nI_toInt (by omega)]; show (0 : Int) ≤ _; omega
    · rw [Int64.le_iff_toInt_le, t64, t64, nI_toInt (by omega), nI_toInt (by omega)]; omega
  · rintro ⟨h1, h2, ⟨g1, g2⟩, g3, g4, h3⟩
    obtain ⟨hi, hhi, rfl⟩ := isI_of g3
    rw [Int64.le_iff_toInt_le, t64] at g1
    rw [Int64.le_iff_toInt_le, t64, t64, nI_toInt (by omega)] at g2
    have e0 : (lN 0).toInt = 0 := rfl
    rw [e0] at g1
    obtain ⟨lo, hlo, rfl⟩ := nI_of (x := z) (fun q => by rw [Int32.lt_iff_toInt_lt] at q; have : (0 : Int32).toInt = 0 := rfl; omega)
    rw [nI_toInt hlo] at g2
    rw [tn_nI (by omega), tn_nI (by omega)] at g4
    refine ⟨⟨nI_nlt (b := 0) (by omega) (by omega), nI_nlt (by omega) (by omega), nI_nlt (by omega) (by omega), ?_⟩, h1, h2, h3⟩
    rw [pk_sub (by omega)]
    exact nI_nlt (by omega) (by omega)
theorem pl_b {wd : Nat → Int32} {cl cv : Int32} {r : Nat} (b b' : Int32) : ∀ (d left dg : Nat) (h : Nat → Int32), f_pl wd cl cv r d left dg h (-1, b) = f_pl wd cl cv r d left dg h (-1, b')
  | 0, left, dg, h => by rw [f_pl, f_pl]; unfold f_pl1; rw [if_pos (Or.inl rfl), if_pos (Or.inl rfl)]
  | d + 1, left, dg, h => by
    rw [f_pl, f_pl]
    have key : ∀ n, f_it (fun j s => f_pl wd cl cv r d j (10 * dg + (left - j)) (f_day wd cl cv r (left - j) h) s) (n + 1) (-1, b) = f_it (fun j s => f_pl wd cl cv r d j (10 * dg + (left - j)) (f_day wd cl cv r (left - j) h) s) (n + 1) (-1, b') := by
      intro n
      induction n with
      | zero => rw [f_it, f_it, f_it, f_it]; exact pl_b b b' d _ _ _
      | succ n ih => rw [f_it, ih]; rfl
    exact key left
theorem fit_eq {M Sh Sr Sb : MS} {c nb hr td : Nat} {x y z u k5 : Int32} (hc : c ≤ 100000) (hR : RR Sr (M.2.1 1)) (hU : RU Sr (M.2.1 1)) (hH : HR (M.2.1 1) Sh (M.2.1 2) hr td) (hb3 : M.1 3 = nI nb) (hb6 : nb ≤ 60) (hbk : ∀ j, j < 6 * nb → Sb.2.1 2 j = M.2.1 5 j) (hls : LSt (Sb.1 1) (M.1 4) c) : (if ((¬ z < 0 ∧ ¬ u < z ∧ ¬ nI 1000 < u ∧ ¬ nI 30 < u - z) ∧ isI x 2 ∧ isI y 4 ∧ isI k5 3) then (if (nI 400 < Sh.1 0 ∨ ¬ Sb.1 1 = 0 ∨ ¬ Sr.1 0 = Sr.1 1) then -5 else if tn k5 = 0 then nI (f_ftn (M.2.1 1) (Sb.2.1 2) nb (nI (4 * tn x + tn y)) (tn z) (tn u - tn z + 1)).1 else if tn k5 = 1 then (f_ftn (M.2.1 1) (Sb.2.1 2) nb (nI (4 * tn x + tn y)) (tn z) (tn u - tn z + 1)).2.1 else (f_ftn (M.2.1 1) (Sb.2.1 2) nb (nI (4 * tn x + tn y)) (tn z) (tn u - tn z + 1)).2.2) else -2) = (if (isI x 2 ∧ isI y 4 ∧ (lN 0 ≤ z.toInt64 ∧ z.toInt64 ≤ u.toInt64) ∧ isI u 1001 ∧ tn u - tn z ≤ 30 ∧ isI k5 3) then (if (nI 400 < (M.2.1 2) 2016 ∨ 0 < M.1 4 ∨ ¬ (M.2.1 1) 2 = (M.2.1 1) 9) then -5 else if tn k5 = 0 then nI (f_ftn (M.2.1 1) (M.2.1 5) (tn (M.1 3)) (nI (4 * tn x + tn y)) (tn z) (tn u - tn z + 1)).1 else if tn k5 = 1 then (f_ftn (M.2.1 1) (M.2.1 5) (tn (M.1 3)) (nI (4 * tn x + tn y)) (tn z) (tn u - tn z + 1)).2.1 else (f_ftn (M.2.1 1) (M.2.1 5) (tn (M.1 3)) (nI (4 * tn x + tn y)) (tn z) (tn u - tn z + 1)).2.2) else -2) := by
  obtain ⟨L, g, hG⟩ := hH
  have e1 : (nI 400 < Sh.1 0 ∨ ¬ Sb.1 1 = 0 ∨ ¬ Sr.1 0 = Sr.1 1) ↔ (nI 400 < (M.2.1 2) 2016 ∨ 0 < M.1 4 ∨ ¬ (M.2.1 1) 2 = (M.2.1 1) 9) := by
    rw [hG.2.2.1.2, ← hG.2.2.1.1, LSt_0 hls hc, hR.1, hU.1]
  rw [ftn_cg hbk, hb3, tn_nI (by omega)]
  by_cases e2 : ((¬ z < 0 ∧ ¬ u < z ∧ ¬ nI 1000 < u ∧ ¬ nI 30 < u - z) ∧ isI x 2 ∧ isI y 4 ∧ isI k5 3)
  · rw [if_pos e2, if_pos (fit_ok.mp e2)]
    by_cases e3 : (nI 400 < Sh.1 0 ∨ ¬ Sb.1 1 = 0 ∨ ¬ Sr.1 0 = Sr.1 1)
    · rw [if_pos e3, if_pos (e1.mp e3)]
    · rw [if_neg e3, if_neg (fun q => e3 (e1.mpr q))]
  · rw [if_neg e2, if_neg (fun q => e2 (fit_ok.mpr q))]
set_option maxHeartbeats 1000000 in
theorem cs_fit {l : Launch} {G : GG} {M : MS} {c o : Nat} {w : va_W} {x : Int32} {y : Int32} {z : Int32} {u : Int32} {k5 : Int32} (hN : NR G M c o w) (hc : c ≤ 1000) : Stc l G yX10_fit cX10_fit 11 (some .int) 10 [.int x, .int y, .int z, .int u, .int k5] w o (fun v w' => v = some (.int (if (isI x 2 ∧ isI y 4 ∧ (lN 0 ≤ z.toInt64 ∧ z.toInt64 ≤ u.toInt64) ∧ isI u 1001 ∧ tn u - tn z ≤ 30 ∧ isI k5 3) then (if (nI 400 < (M.2.1 2) 2016 ∨ 0 < M.1 4 ∨ ¬ (M.2.1 1) 2 = (M.2.1 1) 9) then -5 else if tn k5 = 0 then nI (f_ftn (M.2.1 1) (M.2.1 5) (tn (M.1 3)) (nI (4 * tn x + tn y)) (tn z) (tn u - tn z + 1)).1 else if tn k5 = 1 then (f_ftn (M.2.1 1) (M.2.1 5) (tn (M.1 3)) (nI (4 * tn x + tn y)) (tn z) (tn u - tn z + 1)).2.1 else (f_ftn (M.2.1 1) (M.2.1 5) (tn (M.1 3)) (nI (4 * tn x + tn y)) (tn z) (tn u - tn z + 1)).2.2) else -2)) ∧ NR G M c o w') := by
  obtain ⟨zn, zs, zm, zh, zt, zr, zb, Sn, Ss, Sm, Sh, St, Sr, Sb, fi, fs, pa, dk, ws, ⟨rfl, hp⟩, hS, hB⟩ := hN
  obtain ⟨⟨⟨hT, hR, hU, hW⟩, hr, td, nb, ⟨hH, hhr, htd⟩, ⟨hb0, hb3, hb6⟩, hbk, hls, hbw⟩, ⟨h3, h4⟩, ⟨tn0, htn9, htn, htm, htp, hby⟩, ⟨hf2, hf3⟩, h24, h27⟩ := id hS
  rcases id hB.2.2.1 with ⟨rfl, hw7⟩ | ⟨zd, zx, zy, zw, zv, t0, r0, t1, r1, Sd, Sx, Sy, Sw, Sv, qd, kk, wq, ⟨rfl, hw7⟩, ⟨hy, hv⟩, hq⟩
  · have e7 : updW ws 7 [] = ws := by rw [← hw7]; exact updW_id
    refine ⟨(nBk zn (zs 50) G.2.1 Sn fi fs pa none ++ (sBk zs (zm 50) (zb 50) G.2.1 Ss ++ (mBk zm (zt 50) (zr 50) (zh 50) G.2.1 Sm ++ (hBk zh G.2.1 Sh ++ (tBk zt G.2.1 St ++ (rBk zr G.2.1 Sr ++ (bBk zb G.2.1 Sb ++ (flat ws 9)))))))), 10, 5119, _, _, _, hp, rfl, ⟨by decide, by decide, by decide⟩, K10_fitB hT hR hW hH h3 h4 (by omega) (by omega) hb0 hb6 (BH_of hbw hH (by omega) hbk), fun v w' h => ⟨h.1.trans (by rw [fit_eq (by omega) hR hU hH hb3 hb6 hbk hls]), ?_⟩⟩
    rcases h.2 with rfl | ⟨zd, zx, zy, zw, zv, t0, r0, t1, r1, Sx, Sy, Sw, Sv, hy, hv, rfl⟩
    · exact ⟨zn, zs, zm, zh, zt, zr, zb, Sn, Ss, Sm, Sh, St, Sr, Sb, fi, fs, pa, none, ws, ⟨rfl, List.Perm.refl _⟩, hS, hB⟩
    · have hz := NR_dk (zn := zn) (zs := zs) (zm := zm) (zh := zh) (zt := zt) (zr := zr) (zb := zb) (Ss := Ss) (zd := zd) (zx := zx) (zy := zy) (zw := zw) (zv := zv) (t0 := t0) (r0 := r0) (t1 := t1) (r1 := r1) (Sd := MS0) (Sx := Sx) (Sw := Sw) hS hB hy hv DQ_0
      rw [e7] at hz; exact hz
  · have hp2 := hp.trans (cW_R ((flat_pick (i := 7) (n := 9) (by omega)).trans (by rw [hw7])))
    refine ⟨(nBk zn (zs 50) G.2.1 Sn fi fs pa (some (zd 50)) ++ (sBk zs (zm 50) (zb 50) G.2.1 Ss ++ (mBk zm (zt 50) (zr 50) (zh 50) G.2.1 Sm ++ (hBk zh G.2.1 Sh ++ (tBk zt G.2.1 St ++ (rBk zr G.2.1 Sr ++ (bBk zb G.2.1 Sb ++ (dBk zd (zx 50) (zw 50) G.2.1 Sd qd ++ (mBk zx t0 r0 (zy 50) G.2.1 Sx ++ (hBk zy G.2.1 Sy ++ (mBk zw t1 r1 (zv 50) G.2.1 Sw ++ (hBk zv G.2.1 Sv ++ (wq ++ flat (updW ws 7 []) 9))))))))))))), 0, 0, _, _, _, hp2, rfl, ⟨by decide, by decide, by decide⟩, K10_fitA hT hR hW hH h3 h4 (by omega) (by omega) hy hv hb0 hb6 (BH_of hbw hH (by omega) hbk), fun v w' h => ⟨h.1.trans (by rw [fit_eq (by omega) hR hU hH hb3 hb6 hbk hls]), ?_⟩⟩
    obtain ⟨t0, r0, t1, r1, Sx, Sy, Sw, Sv, hy, hv, rfl⟩ := h.2
    exact NR_dk hS hB hy hv hq
set_option maxHeartbeats 1000000 in
theorem cs_spread {l : Launch} {G : GG} {M : MS} {c o : Nat} {w : va_W} {x : Int32} {y : Int32} {z : Int32} (hN : NR G M c o w) (hc : c ≤ 1000) : Stc l G yX10_spread cX10_spread 4 (some .int) 13 [.int x, .int y, .int z] w o (fun v w' => v = some (.int (if (isI x (nrw (M.2.1 1)) ∧ isP y 9 ∧ isP z 5) then (f_pl (M.2.1 1) (-1) (nI 0) (tn x) (tn z - 1) (tn y) 0 (M.2.1 2) (-1, -1)).1 else -1)) ∧ NR G M c o w') := by
  obtain ⟨zn, zs, zm, zh, zt, zr, zb, Sn, Ss, Sm, Sh, St, Sr, Sb, fi, fs, pa, dk, ws, ⟨rfl, hp⟩, hS, hB⟩ := hN
  obtain ⟨⟨⟨hT, hR, hU, hW⟩, hr, td, nb, ⟨hH, hhr, htd⟩, ⟨hb0, hb3, hb6⟩, hbk, hls, hbw⟩, ⟨h3, h4⟩, ⟨tn0, htn9, htn, htm, htp, hby⟩, ⟨hf2, hf3⟩, h24, h27⟩ := id hS
  rcases id hB.2.2.1 with ⟨rfl, hw7⟩ | ⟨zd, zx, zy, zw, zv, t0, r0, t1, r1, Sd, Sx, Sy, Sw, Sv, qd, kk, wq, ⟨rfl, hw7⟩, ⟨hy, hv⟩, hq⟩
  · have e7 : updW ws 7 [] = ws := by rw [← hw7]; exact updW_id
    refine ⟨(nBk zn (zs 50) G.2.1 Sn fi fs pa none ++ (sBk zs (zm 50) (zb 50) G.2.1 Ss ++ (mBk zm (zt 50) (zr 50) (zh 50) G.2.1 Sm ++ (hBk zh G.2.1 Sh ++ (tBk zt G.2.1 St ++ (rBk zr G.2.1 Sr ++ (bBk zb G.2.1 Sb ++ (flat ws 9)))))))), 26, 15339, _, _, _, hp, rfl, ⟨by decide, by decide, by decide⟩, K10_spreadB hT hR hW hH h3 h4 (by omega) (by omega), fun v w' h => ⟨h.1, ?_⟩⟩
    rcases h.2 with rfl | ⟨zd, zx, zy, zw, zv, t0, r0, t1, r1, Sx, Sy, Sw, Sv, Sd, qd, kk, wq, hy, hv, hq, rfl⟩
    · exact ⟨zn, zs, zm, zh, zt, zr, zb, Sn, Ss, Sm, Sh, St, Sr, Sb, fi, fs, pa, none, ws, ⟨rfl, List.Perm.refl _⟩, hS, hB⟩
    · have hz := NR_dk (zn := zn) (zs := zs) (zm := zm) (zh := zh) (zt := zt) (zr := zr) (zb := zb) (Ss := Ss) (zd := zd) (zx := zx) (zy := zy) (zw := zw) (zv := zv) (t0 := t0) (r0 := r0) (t1 := t1) (r1 := r1) (Sd := Sd) (Sx := Sx) (Sw := Sw) hS hB hy hv hq
      rw [e7] at hz; exact hz
  · have hp2 := hp.trans (cW_R ((flat_pick (i := 7) (n := 9) (by omega)).trans (by rw [hw7])))
    refine ⟨(nBk zn (zs 50) G.2.1 Sn fi fs pa (some (zd 50)) ++ (sBk zs (zm 50) (zb 50) G.2.1 Ss ++ (mBk zm (zt 50) (zr 50) (zh 50) G.2.1 Sm ++ (hBk zh G.2.1 Sh ++ (tBk zt G.2.1 St ++ (rBk zr G.2.1 Sr ++ (bBk zb G.2.1 Sb ++ (dBk zd (zx 50) (zw 50) G.2.1 Sd qd ++ (mBk zx t0 r0 (zy 50) G.2.1 Sx ++ (hBk zy G.2.1 Sy ++ (mBk zw t1 r1 (zv 50) G.2.1 Sw ++ (hBk zv G.2.1 Sv ++ (wq ++ flat (updW ws 7 []) 9))))))))))))), 16, 10220, _, _, _, hp2, rfl, ⟨by decide, by decide, by decide⟩, K10_spreadA hT hR hW hH h3 h4 (by omega) (by omega) hy hv hq, fun v w' h => ⟨h.1, ?_⟩⟩
    obtain ⟨t0, r0, t1, r1, Sx, Sy, Sw, Sv, Sd, qd, kk, wq, hy, hv, hq, rfl⟩ := h.2
    exact NR_dk hS hB hy hv hq
set_option maxHeartbeats 1000000 in
theorem cs_left {l : Launch} {G : GG} {M : MS} {c o : Nat} {w : va_W} {x : Int32} {y : Int32} {z : Int32} {u : Int32} (hN : NR G M c o w) (hc : c ≤ 1000) : Stc l G yX10_left cX10_left 5 (some .int) 13 [.int x, .int y, .int z, .int u] w o (fun v w' => v = some (.int (if (isI x (nrw (M.2.1 1)) ∧ isP y 9 ∧ isP z 5) ∧ isI u 3 then (if tn u = 0 then (f_pl (M.2.1 1) (-1) (nI 0) (tn x) (tn z - 1) (tn y) 0 (M.2.1 2) (-1, -1)).2 else f_left (M.2.1 1) (f_one (M.2.1 1) (-1) (nI 0) (tn x) (tn y) (tn u) (tn z) (M.2.1 2) (tn z)) (tn x) (len (M.2.1 1) (tn x))) else -1)) ∧ NR G M c o w') := by
  obtain ⟨zn, zs, zm, zh, zt, zr, zb, Sn, Ss, Sm, Sh, St, Sr, Sb, fi, fs, pa, dk, ws, ⟨rfl, hp⟩, hS, hB⟩ := hN
  obtain ⟨⟨⟨hT, hR, hU, hW⟩, hr, td, nb, ⟨hH, hhr, htd⟩, ⟨hb0, hb3, hb6⟩, hbk, hls, hbw⟩, ⟨h3, h4⟩, ⟨tn0, htn9, htn, htm, htp, hby⟩, ⟨hf2, hf3⟩, h24, h27⟩ := id hS
  rcases id hB.2.2.1 with ⟨rfl, hw7⟩ | ⟨zd, zx, zy, zw, zv, t0, r0, t1, r1, Sd, Sx, Sy, Sw, Sv, qd, kk, wq, ⟨rfl, hw7⟩, ⟨hy, hv⟩, hq⟩
  · have e7 : updW ws 7 [] = ws := by rw [← hw7]; exact updW_id
    refine ⟨(nBk zn (zs 50) G.2.1 Sn fi fs pa none ++ (sBk zs (zm 50) (zb 50) G.2.1 Ss ++ (mBk zm (zt 50) (zr 50) (zh 50) G.2.1 Sm ++ (hBk zh G.2.1 Sh ++ (tBk zt G.2.1 St ++ (rBk zr G.2.1 Sr ++ (bBk zb G.2.1 Sb ++ (flat ws 9)))))))), 26, 15339, _, _, _, hp, rfl, ⟨by decide, by decide, by decide⟩, K10_leftB hT hR hW hH h3 h4 (by omega) (by omega), fun v w' h => ⟨h.1, ?_⟩⟩
    rcases h.2 with rfl | ⟨zd, zx, zy, zw, zv, t0, r0, t1, r1, Sx, Sy, Sw, Sv, Sd, qd, kk, wq, hy, hv, hq, rfl⟩
    · exact ⟨zn, zs, zm, zh, zt, zr, zb, Sn, Ss, Sm, Sh, St, Sr, Sb, fi, fs, pa, none, ws, ⟨rfl, List.Perm.refl _⟩, hS, hB⟩
    · have hz := NR_dk (zn := zn) (zs := zs) (zm := zm) (zh := zh) (zt := zt) (zr := zr) (zb := zb) (Ss := Ss) (zd := zd) (zx := zx) (zy := zy) (zw := zw) (zv := zv) (t0 := t0) (r0 := r0) (t1 := t1) (r1 := r1) (Sd := Sd) (Sx := Sx) (Sw := Sw) hS hB hy hv hq
      rw [e7] at hz; exact hz
  · have hp2 := hp.trans (cW_R ((flat_pick (i := 7) (n := 9) (by omega)).trans (by rw [hw7])))
    refine ⟨(nBk zn (zs 50) G.2.1 Sn fi fs pa (some (zd 50)) ++ (sBk zs (zm 50) (zb 50) G.2.1 Ss ++ (mBk zm (zt 50) (zr 50) (zh 50) G.2.1 Sm ++ (hBk zh G.2.1 Sh ++ (tBk zt G.2.1 St ++ (rBk zr G.2.1 Sr ++ (bBk zb G.2.1 Sb ++ (dBk zd (zx 50) (zw 50) G.2.1 Sd qd ++ (mBk zx t0 r0 (zy 50) G.2.1 Sx ++ (hBk zy G.2.1 Sy ++ (mBk zw t1 r1 (zv 50) G.2.1 Sw ++ (hBk zv G.2.1 Sv ++ (wq ++ flat (updW ws 7 []) 9))))))))))))), 16, 10220, _, _, _, hp2, rfl, ⟨by decide, by decide, by decide⟩, K10_leftA hT hR hW hH h3 h4 (by omega) (by omega) hy hv hq, fun v w' h => ⟨h.1, ?_⟩⟩
    obtain ⟨t0, r0, t1, r1, Sx, Sy, Sw, Sv, Sd, qd, kk, wq, hy, hv, hq, rfl⟩ := h.2
    exact NR_dk hS hB hy hv hq
