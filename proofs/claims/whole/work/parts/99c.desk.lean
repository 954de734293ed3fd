section SR3
variable {l : Launch} {G : GG} {M : MS} {c o : Nat} {w : va_W} {zn zs zm zh zt zr zb zd zx zy zw zv : Nat → Nat} {Sn Ss Sm Sh St Sr Sb Sd Sx Sy Sw Sv : MS} {fi fs : Nat → Option Nat} {pa dk : Option Nat} {ws : Nat → va_W} {qd : Nat → Option Nat} {kk t0 r0 t1 r1 : Nat} {wq : va_W}
theorem BS_dk (hB : BS G M c fi fs pa dk ws) (hy : HX Sy) (hv : HX Sv) (hq : DQ G qd kk wq) : BS G M c fi fs pa (some (zd 50)) (updW ws 7 (dC G zd zx zy zw zv t0 r0 t1 r1 Sd Sx Sy Sw Sv qd wq)) := by
  obtain ⟨h1, h2, -, h4⟩ := hB
  refine ⟨fun k hk => by rw [updW_n (by omega)]; exact h1 k hk, fun s hs => by rw [updW_n (by omega)]; exact h2 s hs, ?_, by rw [updW_n (by omega)]; exact h4⟩
  rw [updW_s]
  exact Or.inr ⟨zd, zx, zy, zw, zv, t0, r0, t1, r1, Sd, Sx, Sy, Sw, Sv, qd, kk, wq, ⟨rfl, rfl⟩, ⟨hy, hv⟩, hq⟩
theorem NR_dk (hS : NS M c Sn Sm Sh St Sr Sb) (hB : BS G M c fi fs pa dk ws) (hy : HX Sy) (hv : HX Sv) (hq : DQ G qd kk wq) : NR G M c (zn 50) (cW G zn zs zm zh zt zr zb Sn Ss Sm Sh St Sr Sb fi fs pa (some (zd 50)) (dC G zd zx zy zw zv t0 r0 t1 r1 Sd Sx Sy Sw Sv qd wq ++ flat (updW ws 7 []) 9)) :=
  ⟨zn, zs, zm, zh, zt, zr, zb, Sn, Ss, Sm, Sh, St, Sr, Sb, fi, fs, pa, some (zd 50), updW ws 7 (dC G zd zx zy zw zv t0 r0 t1 r1 Sd Sx Sy Sw Sv qd wq), ⟨rfl, cW_R (flat_put 9 (by omega)).symm⟩, hS, BS_dk hB hy hv hq⟩
theorem DQ_0 : DQ G (fun _ => none) 0 [] := ⟨by omega, rfl, fun _ _ _ => rfl⟩
end SR3
set_option maxHeartbeats 1000000 in
theorem cs_needs {l : Launch} {G : GG} {M : MS} {c o : Nat} {w : va_W} {x : Int32} (hN : NR G M c o w) (hc : c ≤ 1000) : Stc l G yX10_needs cX10_needs 2 (some .int) 9 [.int x] w o (fun v w' => v = some (.int (if isI x (nrw (M.2.1 1)) then (f_need (M.2.1 1) (-1) (nI 0) (tn x) (M.2.1 2)) else -2)) ∧ NR G M c o w') := by
  obtain ⟨zn, zs, zm, zh, zt, zr, zb, Sn, Ss, Sm, Sh, St, Sr, Sb, fi, fs, pa, dk, ws, ⟨rfl, hp⟩, hS, hB⟩ := hN
  obtain ⟨⟨⟨hT, hR, hU, hW⟩, hr, td, nb, ⟨hH, hhr, htd⟩, ⟨hb0, hb3, hb6⟩, hbk, hls, hbw⟩, ⟨h3, h4⟩, ⟨tn0, htn9, htn, htm, htp, hby⟩, ⟨hf2, hf3⟩, h24, h27⟩ := id hS
  rcases id hB.2.2.1 with ⟨rfl, hw7⟩ | ⟨zd, zx, zy, zw, zv, t0, r0, t1, r1, Sd, Sx, Sy, Sw, Sv, qd, kk, wq, ⟨rfl, hw7⟩, ⟨hy, hv⟩, hq⟩
  · have e7 : updW ws 7 [] = ws := by rw [← hw7]; exact updW_id
    refine ⟨(nBk zn (zs 50) G.2.1 Sn fi fs pa none ++ (sBk zs (zm 50) (zb 50) G.2.1 Ss ++ (mBk zm (zt 50) (zr 50) (zh 50) G.2.1 Sm ++ (hBk zh G.2.1 Sh ++ (tBk zt G.2.1 St ++ (rBk zr G.2.1 Sr ++ (bBk zb G.2.1 Sb ++ (flat ws 9)))))))), 10, 5119, _, _, _, hp, rfl, ⟨by decide, by decide, by decide⟩, K10_needsB hT hR hW hH h3 h4 (by omega) (by omega), fun v w' h => ⟨h.1, ?_⟩⟩
    rcases h.2 with rfl | ⟨zd, zx, zy, zw, zv, t0, r0, t1, r1, Sx, Sy, Sw, Sv, hy, hv, rfl⟩
    · exact ⟨zn, zs, zm, zh, zt, zr, zb, Sn, Ss, Sm, Sh, St, Sr, Sb, fi, fs, pa, none, ws, ⟨rfl, List.Perm.refl _⟩, hS, hB⟩
    · have hz := NR_dk (zn := zn) (zs := zs) (zm := zm) (zh := zh) (zt := zt) (zr := zr) (zb := zb) (Ss := Ss) (zd := zd) (zx := zx) (zy := zy) (zw := zw) (zv := zv) (t0 := t0) (r0 := r0) (t1 := t1) (r1 := r1) (Sd := MS0) (Sx := Sx) (Sw := Sw) hS hB hy hv DQ_0
      rw [e7] at hz; exact hz
  · have hp2 := hp.trans (cW_R ((flat_pick (i := 7) (n := 9) (by omega)).trans (by rw [hw7])))
    refine ⟨(nBk zn (zs 50) G.2.1 Sn fi fs pa (some (zd 50)) ++ (sBk zs (zm 50) (zb 50) G.2.1 Ss ++ (mBk zm (zt 50) (zr 50) (zh 50) G.2.1 Sm ++ (hBk zh G.2.1 Sh ++ (tBk zt G.2.1 St ++ (rBk zr G.2.1 Sr ++ (bBk zb G.2.1 Sb ++ (dBk zd (zx 50) (zw 50) G.2.1 Sd qd ++ (mBk zx t0 r0 (zy 50) G.2.1 Sx ++ (hBk zy G.2.1 Sy ++ (mBk zw t1 r1 (zv 50) G.2.1 Sw ++ (hBk zv G.2.1 Sv ++ (wq ++ flat (updW ws 7 []) 9))))))))))))), 0, 0, _, _, _, hp2, rfl, ⟨by decide, by decide, by decide⟩, K10_needsA hT hR hW hH h3 h4 (by omega) (by omega) hy hv, fun v w' h => ⟨h.1, ?_⟩⟩
    obtain ⟨t0, r0, t1, r1, Sx, Sy, Sw, Sv, hy, hv, rfl⟩ := h.2
    exact NR_dk hS hB hy hv hq
set_option maxHeartbeats 1000000 in
theorem cs_fresh {l : Launch} {G : GG} {M : MS} {c o : Nat} {w : va_W} {x : Int32} (hN : NR G M c o w) (hc : c ≤ 1000) : Stc l G yX10_fresh cX10_fresh 2 (some .int) 9 [.int x] w o (fun v w' => v = some (.int (if isI x (nrw (M.2.1 1)) then (f_need (M.2.1 1) (-1) (nI 0) (tn x) (f_fr (M.2.1 2))) else -2)) ∧ NR G M c o w') := by
  obtain ⟨zn, zs, zm, zh, zt, zr, zb, Sn, Ss, Sm, Sh, St, Sr, Sb, fi, fs, pa, dk, ws, ⟨rfl, hp⟩, hS, hB⟩ := hN
  obtain ⟨⟨⟨hT, hR, hU, hW⟩, hr, td, nb, ⟨hH, hhr, htd⟩, ⟨hb0, hb3, hb6⟩, hbk, hls, hbw⟩, ⟨h3, h4⟩, ⟨tn0, htn9, htn, htm, htp, hby⟩, ⟨hf2, hf3⟩, h24, h27⟩ := id hS
  rcases id hB.2.2.1 with ⟨rfl, hw7⟩ | ⟨zd, zx, zy, zw, zv, t0, r0, t1, r1, Sd, Sx, Sy, Sw, Sv, qd, kk, wq, ⟨rfl, hw7⟩, ⟨hy, hv⟩, hq⟩
  · have e7 : updW ws 7 [] = ws := by rw [← hw7]; exact updW_id
    refine ⟨(nBk zn (zs 50) G.2.1 Sn fi fs pa none ++ (sBk zs (zm 50) (zb 50) G.2.1 Ss ++ (mBk zm (zt 50) (zr 50) (zh 50) G.2.1 Sm ++ (hBk zh G.2.1 Sh ++ (tBk zt G.2.1 St ++ (rBk zr G.2.1 Sr ++ (bBk zb G.2.1 Sb ++ (flat ws 9)))))))), 10, 5119, _, _, _, hp, rfl, ⟨by decide, by decide, by decide⟩, K10_freshB hT hR hW hH h3 h4 (by omega) (by omega), fun v w' h => ⟨h.1, ?_⟩⟩
    rcases h.2 with rfl | ⟨zd, zx, zy, zw, zv, t0, r0, t1, r1, Sx, Sy, Sw, Sv, hy, hv, rfl⟩
    · exact ⟨zn, zs, zm, zh, zt, zr, zb, Sn, Ss, Sm, Sh, St, Sr, Sb, fi, fs, pa, none, ws, ⟨rfl, List.Perm.refl _⟩, hS, hB⟩
    · have hz := NR_dk (zn := zn) (zs := zs) (zm := zm) (zh := zh) (zt := zt) (zr := zr) (zb := zb) (Ss := Ss) (zd := zd) (zx := zx) (zy := zy) (zw := zw) (zv := zv) (t0 := t0) (r0 := r0) (t1 := t1) (r1 := r1) (Sd := MS0) (Sx := Sx) (Sw := Sw) hS hB hy hv DQ_0
      rw [e7] at hz; exact hz
  · have hp2 := hp.trans (cW_R ((flat_pick (i := 7) (n := 9) (by omega)).trans (by rw [hw7])))
    refine ⟨(nBk zn (zs 50) G.2.1 Sn fi fs pa (some (zd 50)) ++ (sBk zs (zm 50) (zb 50) G.2.1 Ss ++ (mBk zm (zt 50) (zr 50) (zh 50) G.2.1 Sm ++ (hBk zh G.2.1 Sh ++ (tBk zt G.2.1 St ++ (rBk zr G.2.1 Sr ++ (bBk zb G.2.1 Sb ++ (dBk zd (zx 50) (zw 50) G.2.1 Sd qd ++ (mBk zx t0 r0 (zy 50) G.2.1 Sx ++ (hBk zy G.2.1 Sy ++ (mBk zw t1 r1 (zv 50) G.2.1 Sw ++ (hBk zv G.2.1 Sv ++ (wq ++ flat (updW ws 7 []) 9))))))))))))), 0, 0, _, _, _, hp2, rfl, ⟨by decide, by decide, by decide⟩, K10_freshA hT hR hW hH h3 h4 (by omega) (by omega) hy hv, fun v w' h => ⟨h.1, ?_⟩⟩
    obtain ⟨t0, r0, t1, r1, Sx, Sy, Sw, Sv, hy, hv, rfl⟩ := h.2
    exact NR_dk hS hB hy hv hq
set_option maxHeartbeats 1000000 in
theorem cs_without {l : Launch} {G : GG} {M : MS} {c o : Nat} {w : va_W} {x : Int32} {y : Int32} (hN : NR G M c o w) (hc : c ≤ 1000) : Stc l G yX10_without cX10_without 3 (some .int) 9 [.int x, .int y] w o (fun v w' => v = some (.int (if isI x (nrw (M.2.1 1)) ∧ isI y 4 then f_wo (M.2.1 1) (-1) (nI 0) (tn x) (tn y) (M.2.1 2) else -2)) ∧ NR G M c o w') := by
  obtain ⟨zn, zs, zm, zh, zt, zr, zb, Sn, Ss, Sm, Sh, St, Sr, Sb, fi, fs, pa, dk, ws, ⟨rfl, hp⟩, hS, hB⟩ := hN
  obtain ⟨⟨⟨hT, hR, hU, hW⟩, hr, td, nb, ⟨hH, hhr, htd⟩, ⟨hb0, hb3, hb6⟩, hbk, hls, hbw⟩, ⟨h3, h4⟩, ⟨tn0, htn9, htn, htm, htp, hby⟩, ⟨hf2, hf3⟩, h24, h27⟩ := id hS
  rcases id hB.2.2.1 with ⟨rfl, hw7⟩ | ⟨zd, zx, zy, zw, zv, t0, r0, t1, r1, Sd, Sx, Sy, Sw, Sv, qd, kk, wq, ⟨rfl, hw7⟩, ⟨hy, hv⟩, hq⟩
  · have e7 : updW ws 7 [] = ws := by rw [← hw7]; exact updW_id
    refine ⟨(nBk zn (zs 50) G.2.1 Sn fi fs pa none ++ (sBk zs (zm 50) (zb 50) G.2.1 Ss ++ (mBk zm (zt 50) (zr 50) (zh 50) G.2.1 Sm ++ (hBk zh G.2.1 Sh ++ (tBk zt G.2.1 St ++ (rBk zr G.2.1 Sr ++ (bBk zb G.2.1 Sb ++ (flat ws 9)))))))), 10, 5119, _, _, _, hp, rfl, ⟨by decide, by decide, by decide⟩, K10_withoutB hT hR hW hH h3 h4 (by omega) (by omega), fun v w' h => ⟨h.1, ?_⟩⟩
    rcases h.2 with rfl | ⟨zd, zx, zy, zw, zv, t0, r0, t1, r1, Sx, Sy, Sw, Sv, hy, hv, rfl⟩
    · exact ⟨zn, zs, zm, zh, zt, zr, zb, Sn, Ss, Sm, Sh, St, Sr, Sb, fi, fs, pa, none, ws, ⟨rfl, List.Perm.refl _⟩, hS, hB⟩
    · have hz := NR_dk (zn := zn) (zs := zs) (zm := zm) (zh := zh) (zt := zt) (zr := zr) (zb := zb) (Ss := Ss) (zd := zd) (zx := zx) (zy := zy) (zw := zw) (zv := zv) (t0 := t0) (r0 := r0) (t1 := t1) (r1 := r1) (Sd := MS0) (Sx := Sx) (Sw := Sw) hS hB hy hv DQ_0
      rw [e7] at hz; exact hz
  · have hp2 := hp.trans (cW_R ((flat_pick (i := 7) (n := 9) (by omega)).trans (by rw [hw7])))
    refine ⟨(nBk zn (zs 50) G.2.1 Sn fi fs pa (some (zd 50)) ++ (sBk zs (zm 50) (zb 50) G.2.1 Ss ++ (mBk zm (zt 50) (zr 50) (zh 50) G.2.1 Sm ++ (hBk zh G.2.1 Sh ++ (tBk zt G.2.1 St ++ (rBk zr G.2.1 Sr ++ (bBk zb G.2.1 Sb ++ (dBk zd (zx 50) (zw 50) G.2.1 Sd qd ++ (mBk zx t0 r0 (zy 50) G.2.1 Sx ++ (hBk zy G.2.1 Sy ++ (mBk zw t1 r1 (zv 50) G.2.1 Sw ++ (hBk zv G.2.1 Sv ++ (wq ++ flat (updW ws 7 []) 9))))))))))))), 0, 0, _, _, _, hp2, rfl, ⟨by decide, by decide, by decide⟩, K10_withoutA hT hR hW hH h3 h4 (by omega) (by omega) hy hv, fun v w' h => ⟨h.1, ?_⟩⟩
    obtain ⟨t0, r0, t1, r1, Sx, Sy, Sw, Sv, hy, hv, rfl⟩ := h.2
    exact NR_dk hS hB hy hv hq
set_option maxHeartbeats 1000000 in
theorem cs_after {l : Launch} {G : GG} {M : MS} {c o : Nat} {w : va_W} {x : Int32} {y : Int32} (hN : NR G M c o w) (hc : c ≤ 1000) : Stc l G yX10_after cX10_after 4 (some .int) 9 [.int x, .int y] w o (fun v w' => v = some (.int (if isI x (nrw (M.2.1 1)) ∧ isI y 201 then f_need (M.2.1 1) (-1) (nI 0) (tn x) (f_hours (M.2.1 1) (-1) (nI 0) (tn y) (M.2.1 2)) else -2)) ∧ NR G M c o w') := by
  obtain ⟨zn, zs, zm, zh, zt, zr, zb, Sn, Ss, Sm, Sh, St, Sr, Sb, fi, fs, pa, dk, ws, ⟨rfl, hp⟩, hS, hB⟩ := hN
  obtain ⟨⟨⟨hT, hR, hU, hW⟩, hr, td, nb, ⟨hH, hhr, htd⟩, ⟨hb0, hb3, hb6⟩, hbk, hls, hbw⟩, ⟨h3, h4⟩, ⟨tn0, htn9, htn, htm, htp, hby⟩, ⟨hf2, hf3⟩, h24, h27⟩ := id hS
  rcases id hB.2.2.1 with ⟨rfl, hw7⟩ | ⟨zd, zx, zy, zw, zv, t0, r0, t1, r1, Sd, Sx, Sy, Sw, Sv, qd, kk, wq, ⟨rfl, hw7⟩, ⟨hy, hv⟩, hq⟩
  · have e7 : updW ws 7 [] = ws := by rw [← hw7]; exact updW_id
    refine ⟨(nBk zn (zs 50) G.2.1 Sn fi fs pa none ++ (sBk zs (zm 50) (zb 50) G.2.1 Ss ++ (mBk zm (zt 50) (zr 50) (zh 50) G.2.1 Sm ++ (hBk zh G.2.1 Sh ++ (tBk zt G.2.1 St ++ (rBk zr G.2.1 Sr ++ (bBk zb G.2.1 Sb ++ (flat ws 9)))))))), 10, 5119, _, _, _, hp, rfl, ⟨by decide, by decide, by decide⟩, K10_afterB hT hR hW hH h3 h4 (by omega) (by omega), fun v w' h => ⟨h.1, ?_⟩⟩
    rcases h.2 with rfl | ⟨zd, zx, zy, zw, zv, t0, r0, t1, r1, Sx, Sy, Sw, Sv, hy, hv, rfl⟩
    · exact ⟨zn, zs, zm, zh, zt, zr, zb, Sn, Ss, Sm, Sh, St, Sr, Sb, fi, fs, pa, none, ws, ⟨rfl, List.Perm.refl _⟩, hS, hB⟩
    · have hz := NR_dk (zn := zn) (zs := zs) (zm := zm) (zh := zh) (zt := zt) (zr := zr) (zb := zb) (Ss := Ss) (zd := zd) (zx := zx) (zy := zy) (zw := zw) (zv := zv) (t0 := t0) (r0 := r0) (t1 := t1) (r1 := r1) (Sd := MS0) (Sx := Sx) (Sw := Sw) hS hB hy hv DQ_0
      rw [e7] at hz; exact hz
  · have hp2 := hp.trans (cW_R ((flat_pick (i := 7) (n := 9) (by omega)).trans (by rw [hw7])))
    refine ⟨(nBk zn (zs 50) G.2.1 Sn fi fs pa (some (zd 50)) ++ (sBk zs (zm 50) (zb 50) G.2.1 Ss ++ (mBk zm (zt 50) (zr 50) (zh 50) G.2.1 Sm ++ (hBk zh G.2.1 Sh ++ (tBk zt G.2.1 St ++ (rBk zr G.2.1 Sr ++ (bBk zb G.2.1 Sb ++ (dBk zd (zx 50) (zw 50) G.2.1 Sd qd ++ (mBk zx t0 r0 (zy 50) G.2.1 Sx ++ (hBk zy G.2.1 Sy ++ (mBk zw t1 r1 (zv 50) G.2.1 Sw ++ (hBk zv G.2.1 Sv ++ (wq ++ flat (updW ws 7 []) 9))))))))))))), 0, 0, _, _, _, hp2, rfl, ⟨by decide, by decide, by decide⟩, K10_afterA hT hR hW hH h3 h4 (by omega) (by omega) hy hv, fun v w' h => ⟨h.1, ?_⟩⟩
    obtain ⟨t0, r0, t1, r1, Sx, Sy, Sw, Sv, hy, hv, rfl⟩ := h.2
    exact NR_dk hS hB hy hv hq
set_option maxHeartbeats 1000000 in
theorem cs_saving {l : Launch} {G : GG} {M : MS} {c o : Nat} {w : va_W} {x : Int32} (hN : NR G M c o w) (hc : c ≤ 1000) : Stc l G yX10_saving cX10_saving 4 (some .int) 9 [.int x] w o (fun v w' => v = some (.int (if isI x (nrw (M.2.1 1)) then (if (f_need (M.2.1 1) (-1) (nI 0) (tn x) (f_fr (M.2.1 2))) < nI 1 ∨ (f_need (M.2.1 1) (-1) (nI 0) (tn x) (M.2.1 2)) = -1 then -2000000000 else nI 1000 * ((f_need (M.2.1 1) (-1) (nI 0) (tn x) (f_fr (M.2.1 2))) - (f_need (M.2.1 1) (-1) (nI 0) (tn x) (M.2.1 2))) / (f_need (M.2.1 1) (-1) (nI 0) (tn x) (f_fr (M.2.1 2)))) else -2000000000)) ∧ NR G M c o w') := by
  obtain ⟨zn, zs, zm, zh, zt, zr, zb, Sn, Ss, Sm, Sh, St, Sr, Sb, fi, fs, pa, dk, ws, ⟨rfl, hp⟩, hS, hB⟩ := hN
  obtain ⟨⟨⟨hT, hR, hU, hW⟩, hr, td, nb, ⟨hH, hhr, htd⟩, ⟨hb0, hb3, hb6⟩, hbk, hls, hbw⟩, ⟨h3, h4⟩, ⟨tn0, htn9, htn, htm, htp, hby⟩, ⟨hf2, hf3⟩, h24, h27⟩ := id hS
  rcases id hB.2.2.1 with ⟨rfl, hw7⟩ | ⟨zd, zx, zy, zw, zv, t0, r0, t1, r1, Sd, Sx, Sy, Sw, Sv, qd, kk, wq, ⟨rfl, hw7⟩, ⟨hy, hv⟩, hq⟩
  · have e7 : updW ws 7 [] = ws := by rw [← hw7]; exact updW_id
    refine ⟨(nBk zn (zs 50) G.2.1 Sn fi fs pa none ++ (sBk zs (zm 50) (zb 50) G.2.1 Ss ++ (mBk zm (zt 50) (zr 50) (zh 50) G.2.1 Sm ++ (hBk zh G.2.1 Sh ++ (tBk zt G.2.1 St ++ (rBk zr G.2.1 Sr ++ (bBk zb G.2.1 Sb ++ (flat ws 9)))))))), 10, 5119, _, _, _, hp, rfl, ⟨by decide, by decide, by decide⟩, K10_savingB hT hR hW hH h3 h4 (by omega) (by omega), fun v w' h => ⟨h.1, ?_⟩⟩
    rcases h.2 with rfl | ⟨zd, zx, zy, zw, zv, t0, r0, t1, r1, Sx, Sy, Sw, Sv, hy, hv, rfl⟩
    · exact ⟨zn, zs, zm, zh, zt, zr, zb, Sn, Ss, Sm, Sh, St, Sr, Sb, fi, fs, pa, none, ws, ⟨rfl, List.Perm.refl _⟩, hS, hB⟩
    · have hz := NR_dk (zn := zn) (zs := zs) (zm := zm) (zh := zh) (zt := zt) (zr := zr) (zb := zb) (Ss := Ss) (zd := zd) (zx := zx) (zy := zy) (zw := zw) (zv := zv) (t0 := t0) (r0 := r0) (t1 := t1) (r1 := r1) (Sd := MS0) (Sx := Sx) (Sw := Sw) hS hB hy hv DQ_0
      rw [e7] at hz; exact hz
  · have hp2 := hp.trans (cW_R ((flat_pick (i := 7) (n := 9) (by omega)).trans (by rw [hw7])))
    refine ⟨(nBk zn (zs 50) G.2.1 Sn fi fs pa (some (zd 50)) ++ (sBk zs (zm 50) (zb 50) G.2.1 Ss ++ (mBk zm (zt 50) (zr 50) (zh 50) G.2.1 Sm ++ (hBk zh G.2.1 Sh ++ (tBk zt G.2.1 St ++ (rBk zr G.2.1 Sr ++ (bBk zb G.2.1 Sb ++ (dBk zd (zx 50) (zw 50) G.2.1 Sd qd ++ (mBk zx t0 r0 (zy 50) G.2.1 Sx ++ (hBk zy G.2.1 Sy ++ (mBk zw t1 r1 (zv 50) G.2.1 Sw ++ (hBk zv G.2.1 Sv ++ (wq ++ flat (updW ws 7 []) 9))))))))))))), 0, 0, _, _, _, hp2, rfl, ⟨by decide, by decide, by decide⟩, K10_savingA hT hR hW hH h3 h4 (by omega) (by omega) hy hv, fun v w' h => ⟨h.1, ?_⟩⟩
    obtain ⟨t0, r0, t1, r1, Sx, Sy, Sw, Sv, hy, hv, rfl⟩ := h.2
    exact NR_dk hS hB hy hv hq
set_option maxHeartbeats 1000000 in
theorem cs_verse {l : Launch} {G : GG} {M : MS} {c o : Nat} {w : va_W} {x : Int32} {y : Int32} (hN : NR G M c o w) (hc : c ≤ 1000) : Stc l G yX10_verse cX10_verse 5 (some .int) 9 [.int x, .int y] w o (fun v w' => v = some (.int (if isI x (nrw (M.2.1 1)) ∧ isI y (nrw (M.2.1 1)) then (if (f_need (M.2.1 1) (-1) (nI 0) (tn x) (f_fr (M.2.1 2))) = -1 ∨ (f_need (M.2.1 1) (-1) (nI 0) (tn y) (f_fr (M.2.1 2))) = -1 then -2000000000 else nI 1000 * (f_need (M.2.1 1) (-1) (nI 0) (tn x) (f_fr (M.2.1 2))) / (f_need (M.2.1 1) (-1) (nI 0) (tn y) (f_fr (M.2.1 2)))) else -2000000000)) ∧ NR G M c o w') := by
  obtain ⟨zn, zs, zm, zh, zt, zr, zb, Sn, Ss, Sm, Sh, St, Sr, Sb, fi, fs, pa, dk, ws, ⟨rfl, hp⟩, hS, hB⟩ := hN
  obtain ⟨⟨⟨hT, hR, hU, hW⟩, hr, td, nb, ⟨hH, hhr, htd⟩, ⟨hb0, hb3, hb6⟩, hbk, hls, hbw⟩, ⟨h3, h4⟩, ⟨tn0, htn9, htn, htm, htp, hby⟩, ⟨hf2, hf3⟩, h24, h27⟩ := id hS
  rcases id hB.2.2.1 with ⟨rfl, hw7⟩ | ⟨zd, zx, zy, zw, zv, t0, r0, t1, r1, Sd, Sx, Sy, Sw, Sv, qd, kk, wq, ⟨rfl, hw7⟩, ⟨hy, hv⟩, hq⟩
  · have e7 : updW ws 7 [] = ws := by rw [← hw7]; exact updW_id
    refine ⟨(nBk zn (zs 50) G.2.1 Sn fi fs pa none ++ (sBk zs (zm 50) (zb 50) G.2.1 Ss ++ (mBk zm (zt 50) (zr 50) (zh 50) G.2.1 Sm ++ (hBk zh G.2.1 Sh ++ (tBk zt G.2.1 St ++ (rBk zr G.2.1 Sr ++ (bBk zb G.2.1 Sb ++ (flat ws 9)))))))), 10, 5119, _, _, _, hp, rfl, ⟨by decide, by decide, by decide⟩, K10_verseB hT hR hW hH h3 h4 (by omega) (by omega), fun v w' h => ⟨h.1, ?_⟩⟩
    rcases h.2 with rfl | ⟨zd, zx, zy, zw, zv, t0, r0, t1, r1, Sx, Sy, Sw, Sv, hy, hv, rfl⟩
    · exact ⟨zn, zs, zm, zh, zt, zr, zb, Sn, Ss, Sm, Sh, St, Sr, Sb, fi, fs, pa, none, ws, ⟨rfl, List.Perm.refl _⟩, hS, hB⟩
    · have hz := NR_dk (zn := zn) (zs := zs) (zm := zm) (zh := zh) (zt := zt) (zr := zr) (zb := zb) (Ss := Ss) (zd := zd) (zx := zx) (zy := zy) (zw := zw) (zv := zv) (t0 := t0) (r0 := r0) (t1 := t1) (r1 := r1) (Sd := MS0) (Sx := Sx) (Sw := Sw) hS hB hy hv DQ_0
      rw [e7] at hz; exact hz
  · have hp2 := hp.trans (cW_R ((flat_pick (i := 7) (n := 9) (by omega)).trans (by rw [hw7])))
    refine ⟨(nBk zn (zs 50) G.2.1 Sn fi fs pa (some (zd 50)) ++ (sBk zs (zm 50) (zb 50) G.2.1 Ss ++ (mBk zm (zt 50) (zr 50) (zh 50) G.2.1 Sm ++ (hBk zh G.2.1 Sh ++ (tBk zt G.2.1 St ++ (rBk zr G.2.1 Sr ++ (bBk zb G.2.1 Sb ++ (dBk zd (zx 50) (zw 50) G.2.1 Sd qd ++ (mBk zx t0 r0 (zy 50) G.2.1 Sx ++ (hBk zy G.2.1 Sy ++ (mBk zw t1 r1 (zv 50) G.2.1 Sw ++ (hBk zv G.2.1 Sv ++ (wq ++ flat (updW ws 7 []) 9))))))))))))), 0, 0, _, _, _, hp2, rfl, ⟨by decide, by decide, by decide⟩, K10_verseA hT hR hW hH h3 h4 (by omega) (by omega) hy hv, fun v w' h => ⟨h.1, ?_⟩⟩
    obtain ⟨t0, r0, t1, r1, Sx, Sy, Sw, Sv, hy, hv, rfl⟩ := h.2
    exact NR_dk hS hB hy hv hq
set_option maxHeartbeats 1000000 in
theorem cs_lasts {l : Launch} {G : GG} {M : MS} {c o : Nat} {w : va_W} {x : Int32} (hN : NR G M c o w) (hc : c ≤ 1000) : Stc l G yX10_lasts cX10_lasts 4 (some .int) 9 [.int x] w o (fun v w' => v = some (.int (if isI x (nrw (M.2.1 1)) then f_las (M.2.1 1) (-1) (nI 0) (tn x) 201 0 (M.2.1 2) else -2)) ∧ NR G M c o w') := by
  obtain ⟨zn, zs, zm, zh, zt, zr, zb, Sn, Ss, Sm, Sh, St, Sr, Sb, fi, fs, pa, dk, ws, ⟨rfl, hp⟩, hS, hB⟩ := hN
  obtain ⟨⟨⟨hT, hR, hU, hW⟩, hr, td, nb, ⟨hH, hhr, htd⟩, ⟨hb0, hb3, hb6⟩, hbk, hls, hbw⟩, ⟨h3, h4⟩, ⟨tn0, htn9, htn, htm, htp, hby⟩, ⟨hf2, hf3⟩, h24, h27⟩ := id hS
  rcases id hB.2.2.1 with ⟨rfl, hw7⟩ | ⟨zd, zx, zy, zw, zv, t0, r0, t1, r1, Sd, Sx, Sy, Sw, Sv, qd, kk, wq, ⟨rfl, hw7⟩, ⟨hy, hv⟩, hq⟩
  · have e7 : updW ws 7 [] = ws := by rw [← hw7]; exact updW_id
    refine ⟨(nBk zn (zs 50) G.2.1 Sn fi fs pa none ++ (sBk zs (zm 50) (zb 50) G.2.1 Ss ++ (mBk zm (zt 50) (zr 50) (zh 50) G.2.1 Sm ++ (hBk zh G.2.1 Sh ++ (tBk zt G.2.1 St ++ (rBk zr G.2.1 Sr ++ (bBk zb G.2.1 Sb ++ (flat ws 9)))))))), 10, 5119, _, _, _, hp, rfl, ⟨by decide, by decide, by decide⟩, K10_lastsB hT hR hW hH h3 h4 (by omega) (by omega), fun v w' h => ⟨h.1, ?_⟩⟩
    rcases h.2 with rfl | ⟨zd, zx, zy, zw, zv, t0, r0, t1, r1, Sx, Sy, Sw, Sv, hy, hv, rfl⟩
    · exact ⟨zn, zs, zm, zh, zt, zr, zb, Sn, Ss, Sm, Sh, St, Sr, Sb, fi, fs, pa, none, ws, ⟨rfl, List.Perm.refl _⟩, hS, hB⟩
    · have hz := NR_dk (zn := zn) (zs := zs) (zm := zm) (zh := zh) (zt := zt) (zr := zr) (zb := zb) (Ss := Ss) (zd := zd) (zx := zx) (zy := zy) (zw := zw) (zv := zv) (t0 := t0) (r0 := r0) (t1 := t1) (r1 := r1) (Sd := MS0) (Sx := Sx) (Sw := Sw) hS hB hy hv DQ_0
      rw [e7] at hz; exact hz
  · have hp2 := hp.trans (cW_R ((flat_pick (i := 7) (n := 9) (by omega)).trans (by rw [hw7])))
    refine ⟨(nBk zn (zs 50) G.2.1 Sn fi fs pa (some (zd 50)) ++ (sBk zs (zm 50) (zb 50) G.2.1 Ss ++ (mBk zm (zt 50) (zr 50) (zh 50) G.2.1 Sm ++ (hBk zh G.2.1 Sh ++ (tBk zt G.2.1 St ++ (rBk zr G.2.1 Sr ++ (bBk zb G.2.1 Sb ++ (dBk zd (zx 50) (zw 50) G.2.1 Sd qd ++ (mBk zx t0 r0 (zy 50) G.2.1 Sx ++ (hBk zy G.2.1 Sy ++ (mBk zw t1 r1 (zv 50) G.2.1 Sw ++ (hBk zv G.2.1 Sv ++ (wq ++ flat (updW ws 7 []) 9))))))))))))), 0, 0, _, _, _, hp2, rfl, ⟨by decide, by decide, by decide⟩, K10_lastsA hT hR hW hH h3 h4 (by omega) (by omega) hy hv, fun v w' h => ⟨h.1, ?_⟩⟩
    obtain ⟨t0, r0, t1, r1, Sx, Sy, Sw, Sv, hy, hv, rfl⟩ := h.2
    exact NR_dk hS hB hy hv hq
set_option maxHeartbeats 1000000 in
theorem cs_gone {l : Launch} {G : GG} {M : MS} {c o : Nat} {w : va_W} {x : Int32} (hN : NR G M c o w) (hc : c ≤ 1000) : Stc l G yX10_gone cX10_gone 5 (some .int) 9 [.int x] w o (fun v w' => v = some (.int (if isI x (nrw (M.2.1 1)) then f_gon (M.2.1 1) (-1) (nI 0) (tn x) 61 0 (M.2.1 2) else -2)) ∧ NR G M c o w') := by
  obtain ⟨zn, zs, zm, zh, zt, zr, zb, Sn, Ss, Sm, Sh, St, Sr, Sb, fi, fs, pa, dk, ws, ⟨rfl, hp⟩, hS, hB⟩ := hN
  obtain ⟨⟨⟨hT, hR, hU, hW⟩, hr, td, nb, ⟨hH, hhr, htd⟩, ⟨hb0, hb3, hb6⟩, hbk, hls, hbw⟩, ⟨h3, h4⟩, ⟨tn0, htn9, htn, htm, htp, hby⟩, ⟨hf2, hf3⟩, h24, h27⟩ := id hS
  rcases id hB.2.2.1 with ⟨rfl, hw7⟩ | ⟨zd, zx, zy, zw, zv, t0, r0, t1, r1, Sd, Sx, Sy, Sw, Sv, qd, kk, wq, ⟨rfl, hw7⟩, ⟨hy, hv⟩, hq⟩
  · have e7 : updW ws 7 [] = ws := by rw [← hw7]; exact updW_id
    refine ⟨(nBk zn (zs 50) G.2.1 Sn fi fs pa none ++ (sBk zs (zm 50) (zb 50) G.2.1 Ss ++ (mBk zm (zt 50) (zr 50) (zh 50) G.2.1 Sm ++ (hBk zh G.2.1 Sh ++ (tBk zt G.2.1 St ++ (rBk zr G.2.1 Sr ++ (bBk zb G.2.1 Sb ++ (flat ws 9)))))))), 10, 5119, _, _, _, hp, rfl, ⟨by decide, by decide, by decide⟩, K10_goneB hT hR hW hH h3 h4 (by omega) (by omega), fun v w' h => ⟨h.1, ?_⟩⟩
    rcases h.2 with rfl | ⟨zd, zx, zy, zw, zv, t0, r0, t1, r1, Sx, Sy, Sw, Sv, hy, hv, rfl⟩
    · exact ⟨zn, zs, zm, zh, zt, zr, zb, Sn, Ss, Sm, Sh, St, Sr, Sb, fi, fs, pa, none, ws, ⟨rfl, List.Perm.refl _⟩, hS, hB⟩
    · have hz := NR_dk (zn := zn) (zs := zs) (zm := zm) (zh := zh) (zt := zt) (zr := zr) (zb := zb) (Ss := Ss) (zd := zd) (zx := zx) (zy := zy) (zw := zw) (zv := zv) (t0 := t0) (r0 := r0) (t1 := t1) (r1 := r1) (Sd := MS0) (Sx := Sx) (Sw := Sw) hS hB hy hv DQ_0
      rw [e7] at hz; exact hz
  · have hp2 := hp.trans (cW_R ((flat_pick (i := 7) (n := 9) (by omega)).trans (by rw [hw7])))
    refine ⟨(nBk zn (zs 50) G.2.1 Sn fi fs pa (some (zd 50)) ++ (sBk zs (zm 50) (zb 50) G.2.1 Ss ++ (mBk zm (zt 50) (zr 50) (zh 50) G.2.1 Sm ++ (hBk zh G.2.1 Sh ++ (tBk zt G.2.1 St ++ (rBk zr G.2.1 Sr ++ (bBk zb G.2.1 Sb ++ (dBk zd (zx 50) (zw 50) G.2.1 Sd qd ++ (mBk zx t0 r0 (zy 50) G.2.1 Sx ++ (hBk zy G.2.1 Sy ++ (mBk zw t1 r1 (zv 50) G.2.1 Sw ++ (hBk zv G.2.1 Sv ++ (wq ++ flat (updW ws 7 []) 9))))))))))))), 0, 0, _, _, _, hp2, rfl, ⟨by decide, by decide, by decide⟩, K10_goneA hT hR hW hH h3 h4 (by omega) (by omega) hy hv, fun v w' h => ⟨h.1, ?_⟩⟩
    obtain ⟨t0, r0, t1, r1, Sx, Sy, Sw, Sv, hy, hv, rfl⟩ := h.2
    exact NR_dk hS hB hy hv hq
set_option maxHeartbeats 1000000 in
theorem cs_when {l : Launch} {G : GG} {M : MS} {c o : Nat} {w : va_W} {x : Int32} (hN : NR G M c o w) (hc : c ≤ 1000) : Stc l G yX10_when cX10_when 7 (some .int) 9 [.int x] w o (fun v w' => v = some (.int (if isI x (nrw (M.2.1 1)) then (f_wb (M.2.1 1) (-1) (nI 0) (tn x) (M.2.1 2) 24).1 else -2)) ∧ NR G M c o w') := by
  obtain ⟨zn, zs, zm, zh, zt, zr, zb, Sn, Ss, Sm, Sh, St, Sr, Sb, fi, fs, pa, dk, ws, ⟨rfl, hp⟩, hS, hB⟩ := hN
  obtain ⟨⟨⟨hT, hR, hU, hW⟩, hr, td, nb, ⟨hH, hhr, htd⟩, ⟨hb0, hb3, hb6⟩, hbk, hls, hbw⟩, ⟨h3, h4⟩, ⟨tn0, htn9, htn, htm, htp, hby⟩, ⟨hf2, hf3⟩, h24, h27⟩ := id hS
  rcases id hB.2.2.1 with ⟨rfl, hw7⟩ | ⟨zd, zx, zy, zw, zv, t0, r0, t1, r1, Sd, Sx, Sy, Sw, Sv, qd, kk, wq, ⟨rfl, hw7⟩, ⟨hy, hv⟩, hq⟩
  · have e7 : updW ws 7 [] = ws := by rw [← hw7]; exact updW_id
    refine ⟨(nBk zn (zs 50) G.2.1 Sn fi fs pa none ++ (sBk zs (zm 50) (zb 50) G.2.1 Ss ++ (mBk zm (zt 50) (zr 50) (zh 50) G.2.1 Sm ++ (hBk zh G.2.1 Sh ++ (tBk zt G.2.1 St ++ (rBk zr G.2.1 Sr ++ (bBk zb G.2.1 Sb ++ (flat ws 9)))))))), 10, 5119, _, _, _, hp, rfl, ⟨by decide, by decide, by decide⟩, K10_whenB hT hR hW hH h3 h4 (by omega) (by omega), fun v w' h => ⟨h.1, ?_⟩⟩
    rcases h.2 with rfl | ⟨zd, zx, zy, zw, zv, t0, r0, t1, r1, Sx, Sy, Sw, Sv, hy, hv, rfl⟩
    · exact ⟨zn, zs, zm, zh, zt, zr, zb, Sn, Ss, Sm, Sh, St, Sr, Sb, fi, fs, pa, none, ws, ⟨rfl, List.Perm.refl _⟩, hS, hB⟩
    · have hz := NR_dk (zn := zn) (zs := zs) (zm := zm) (zh := zh) (zt := zt) (zr := zr) (zb := zb) (Ss := Ss) (zd := zd) (zx := zx) (zy := zy) (zw := zw) (zv := zv) (t0 := t0) (r0 := r0) (t1 := t1) (r1 := r1) (Sd := MS0) (Sx := Sx) (Sw := Sw) hS hB hy hv DQ_0
      rw [e7] at hz; exact hz
  · have hp2 := hp.trans (cW_R ((flat_pick (i := 7) (n := 9) (by omega)).trans (by rw [hw7])))
    refine ⟨(nBk zn (zs 50) G.2.1 Sn fi fs pa (some (zd 50)) ++ (sBk zs (zm 50) (zb 50) G.2.1 Ss ++ (mBk zm (zt 50) (zr 50) (zh 50) G.2.1 Sm ++ (hBk zh G.2.1 Sh ++ (tBk zt G.2.1 St ++ (rBk zr G.2.1 Sr ++ (bBk zb G.2.1 Sb ++ (dBk zd (zx 50) (zw 50) G.2.1 Sd qd ++ (mBk zx t0 r0 (zy 50) G.2.1 Sx ++ (hBk zy G.2.1 Sy ++ (mBk zw t1 r1 (zv 50) G.2.1 Sw ++ (hBk zv G.2.1 Sv ++ (wq ++ flat (updW ws 7 []) 9))))))))))))), 0, 0, _, _, _, hp2, rfl, ⟨by decide, by decide, by decide⟩, K10_whenA hT hR hW hH h3 h4 (by omega) (by omega) hy hv, fun v w' h => ⟨h.1, ?_⟩⟩
    obtain ⟨t0, r0, t1, r1, Sx, Sy, Sw, Sv, hy, hv, rfl⟩ := h.2
    exact NR_dk hS hB hy hv hq
set_option maxHeartbeats 1000000 in
theorem cs_must {l : Launch} {G : GG} {M : MS} {c o : Nat} {w : va_W} {x : Int32} (hN : NR G M c o w) (hc : c ≤ 1000) : Stc l G yX10_must cX10_must 6 (some .int) 9 [.int x] w o (fun v w' => v = some (.int (if isI x (nrw (M.2.1 1)) then nI (f_mst (M.2.1 1) (-1) (nI 0) (tn x) (M.2.1 2) 3) else -2)) ∧ NR G M c o w') := by
  obtain ⟨zn, zs, zm, zh, zt, zr, zb, Sn, Ss, Sm, Sh, St, Sr, Sb, fi, fs, pa, dk, ws, ⟨rfl, hp⟩, hS, hB⟩ := hN
  obtain ⟨⟨⟨hT, hR, hU, hW⟩, hr, td, nb, ⟨hH, hhr, htd⟩, ⟨hb0, hb3, hb6⟩, hbk, hls, hbw⟩, ⟨h3, h4⟩, ⟨tn0, htn9, htn, htm, htp, hby⟩, ⟨hf2, hf3⟩, h24, h27⟩ := id hS
  rcases id hB.2.2.1 with ⟨rfl, hw7⟩ | ⟨zd, zx, zy, zw, zv, t0, r0, t1, r1, Sd, Sx, Sy, Sw, Sv, qd, kk, wq, ⟨rfl, hw7⟩, ⟨hy, hv⟩, hq⟩
  · have e7 : updW ws 7 [] = ws := by rw [← hw7]; exact updW_id
    refine ⟨(nBk zn (zs 50) G.2.1 Sn fi fs pa none ++ (sBk zs (zm 50) (zb 50) G.2.1 Ss ++ (mBk zm (zt 50) (zr 50) (zh 50) G.2.1 Sm ++ (hBk zh G.2.1 Sh ++ (tBk zt G.2.1 St ++ (rBk zr G.2.1 Sr ++ (bBk zb G.2.1 Sb ++ (flat ws 9)))))))), 10, 5119, _, _, _, hp, rfl, ⟨by decide, by decide, by decide⟩, K10_mustB hT hR hW hH h3 h4 (by omega) (by omega), fun v w' h => ⟨h.1, ?_⟩⟩
    rcases h.2 with rfl | ⟨zd, zx, zy, zw, zv, t0, r0, t1, r1, Sx, Sy, Sw, Sv, hy, hv, rfl⟩
    · exact ⟨zn, zs, zm, zh, zt, zr, zb, Sn, Ss, Sm, Sh, St, Sr, Sb, fi, fs, pa, none, ws, ⟨rfl, List.Perm.refl _⟩, hS, hB⟩
    · have hz := NR_dk (zn := zn) (zs := zs) (zm := zm) (zh := zh) (zt := zt) (zr := zr) (zb := zb) (Ss := Ss) (zd := zd) (zx := zx) (zy := zy) (zw := zw) (zv := zv) (t0 := t0) (r0 := r0) (t1 := t1) (r1 := r1) (Sd := MS0) (Sx := Sx) (Sw := Sw) hS hB hy hv DQ_0
      rw [e7] at hz; exact hz
  · have hp2 := hp.trans (cW_R ((flat_pick (i := 7) (n := 9) (by omega)).trans (by rw [hw7])))
    refine ⟨(nBk zn (zs 50) G.2.1 Sn fi fs pa (some (zd 50)) ++ (sBk zs (zm 50) (zb 50) G.2.1 Ss ++ (mBk zm (zt 50) (zr 50) (zh 50) G.2.1 Sm ++ (hBk zh G.2.1 Sh ++ (tBk zt G.2.1 St ++ (rBk zr G.2.1 Sr ++ (bBk zb G.2.1 Sb ++ (dBk zd (zx 50) (zw 50) G.2.1 Sd qd ++ (mBk zx t0 r0 (zy 50) G.2.1 Sx ++ (hBk zy G.2.1 Sy ++ (mBk zw t1 r1 (zv 50) G.2.1 Sw ++ (hBk zv G.2.1 Sv ++ (wq ++ flat (updW ws 7 []) 9))))))))))))), 0, 0, _, _, _, hp2, rfl, ⟨by decide, by decide, by decide⟩, K10_mustA hT hR hW hH h3 h4 (by omega) (by omega) hy hv, fun v w' h => ⟨h.1, ?_⟩⟩
    obtain ⟨t0, r0, t1, r1, Sx, Sy, Sw, Sv, hy, hv, rfl⟩ := h.2
    exact NR_dk hS hB hy hv hq
set_option maxHeartbeats 1000000 in
theorem cs_between {l : Launch} {G : GG} {M : MS} {c o : Nat} {w : va_W} {x : Int32} {y : Int32} {z : Int32} (hN : NR G M c o w) (hc : c ≤ 1000) : Stc l G yX10_between cX10_between 7 (some .int) 9 [.int x, .int y, .int z] w o (fun v w' => v = some (.int (if isI x (nrw (M.2.1 1)) ∧ isI y (nrw (M.2.1 1)) ∧ ¬ x = y ∧ isP z 201 then f_bet (M.2.1 1) (-1) (nI 0) (tn x) (tn y) (tn z) (M.2.1 2) else -2000000000)) ∧ NR G M c o w') := by
  obtain ⟨zn, zs, zm, zh, zt, zr, zb, Sn, Ss, Sm, Sh, St, Sr, Sb, fi, fs, pa, dk, ws, ⟨rfl, hp⟩, hS, hB⟩ := hN
  obtain ⟨⟨⟨hT, hR, hU, hW⟩, hr, td, nb, ⟨hH, hhr, htd⟩, ⟨hb0, hb3, hb6⟩, hbk, hls, hbw⟩, ⟨h3, h4⟩, ⟨tn0, htn9, htn, htm, htp, hby⟩, ⟨hf2, hf3⟩, h24, h27⟩ := id hS
  rcases id hB.2.2.1 with ⟨rfl, hw7⟩ | ⟨zd, zx, zy, zw, zv, t0, r0, t1, r1, Sd, Sx, Sy, Sw, Sv, qd, kk, wq, ⟨rfl, hw7⟩, ⟨hy, hv⟩, hq⟩
  · have e7 : updW ws 7 [] = ws := by rw [← hw7]; exact updW_id
    refine ⟨(nBk zn (zs 50) G.2.1 Sn fi fs pa none ++ (sBk zs (zm 50) (zb 50) G.2.1 Ss ++ (mBk zm (zt 50) (zr 50) (zh 50) G.2.1 Sm ++ (hBk zh G.2.1 Sh ++ (tBk zt G.2.1 St ++ (rBk zr G.2.1 Sr ++ (bBk zb G.2.1 Sb ++ (flat ws 9)))))))), 10, 5119, _, _, _, hp, rfl, ⟨by decide, by decide, by decide⟩, K10_betweenB hT hR hW hH h3 h4 (by omega) (by omega), fun v w' h => ⟨h.1, ?_⟩⟩
    rcases h.2 with rfl | ⟨zd, zx, zy, zw, zv, t0, r0, t1, r1, Sx, Sy, Sw, Sv, hy, hv, rfl⟩
    · exact ⟨zn, zs, zm, zh, zt, zr, zb, Sn, Ss, Sm, Sh, St, Sr, Sb, fi, fs, pa, none, ws, ⟨rfl, List.Perm.refl _⟩, hS, hB⟩
    · have hz := NR_dk (zn := zn) (zs := zs) (zm := zm) (zh := zh) (zt := zt) (zr := zr) (zb := zb) (Ss := Ss) (zd := zd) (zx := zx) (zy := zy) (zw := zw) (zv := zv) (t0 := t0) (r0 := r0) (t1 := t1) (r1 := r1) (Sd := MS0) (Sx := Sx) (Sw := Sw) hS hB hy hv DQ_0
      rw [e7] at hz; exact hz
  · have hp2 := hp.trans (cW_R ((flat_pick (i := 7) (n := 9) (by omega)).trans (by rw [hw7])))
    refine ⟨(nBk zn (zs 50) G.2.1 Sn fi fs pa (some (zd 50)) ++ (sBk zs (zm 50) (zb 50) G.2.1 Ss ++ (mBk zm (zt 50) (zr 50) (zh 50) G.2.1 Sm ++ (hBk zh G.2.1 Sh ++ (tBk zt G.2.1 St ++ (rBk zr G.2.1 Sr ++ (bBk zb G.2.1 Sb ++ (dBk zd (zx 50) (zw 50) G.2.1 Sd qd ++ (mBk zx t0 r0 (zy 50) G.2.1 Sx ++ (hBk zy G.2.1 Sy ++ (mBk zw t1 r1 (zv 50) G.2.1 Sw ++ (hBk zv G.2.1 Sv ++ (wq ++ flat (updW ws 7 []) 9))))))))))))), 0, 0, _, _, _, hp2, rfl, ⟨by decide, by decide, by decide⟩, K10_betweenA hT hR hW hH h3 h4 (by omega) (by omega) hy hv, fun v w' h => ⟨h.1, ?_⟩⟩
    obtain ⟨t0, r0, t1, r1, Sx, Sy, Sw, Sv, hy, hv, rfl⟩ := h.2
    exact NR_dk hS hB hy hv hq
set_option maxHeartbeats 1000000 in
theorem cs_evening {l : Launch} {G : GG} {M : MS} {c o : Nat} {w : va_W} {x : Int32} {y : Int32} {z : Int32} (hN : NR G M c o w) (hc : c ≤ 1000) : Stc l G yX10_evening cX10_evening 6 (some .int) 9 [.int x, .int y, .int z] w o (fun v w' => v = some (.int (if isI x (nrw (M.2.1 1)) ∧ isI y 24 ∧ isI z 201 then f_eve (M.2.1 1) (-1) (nI 0) (tn x) (tn y) (tn z) (M.2.1 2) else -2000000000)) ∧ NR G M c o w') := by
  obtain ⟨zn, zs, zm, zh, zt, zr, zb, Sn, Ss, Sm, Sh, St, Sr, Sb, fi, fs, pa, dk, ws, ⟨rfl, hp⟩, hS, hB⟩ := hN
  obtain ⟨⟨⟨hT, hR, hU, hW⟩, hr, td, nb, ⟨hH, hhr, htd⟩, ⟨hb0, hb3, hb6⟩, hbk, hls, hbw⟩, ⟨h3, h4⟩, ⟨tn0, htn9, htn, htm, htp, hby⟩, ⟨hf2, hf3⟩, h24, h27⟩ := id hS
  rcases id hB.2.2.1 with ⟨rfl, hw7⟩ | ⟨zd, zx, zy, zw, zv, t0, r0, t1, r1, Sd, Sx, Sy, Sw, Sv, qd, kk, wq, ⟨rfl, hw7⟩, ⟨hy, hv⟩, hq⟩
  · have e7 : updW ws 7 [] = ws := by rw [← hw7]; exact updW_id
    refine ⟨(nBk zn (zs 50) G.2.1 Sn fi fs pa none ++ (sBk zs (zm 50) (zb 50) G.2.1 Ss ++ (mBk zm (zt 50) (zr 50) (zh 50) G.2.1 Sm ++ (hBk zh G.2.1 Sh ++ (tBk zt G.2.1 St ++ (rBk zr G.2.1 Sr ++ (bBk zb G.2.1 Sb ++ (flat ws 9)))))))), 10, 5119, _, _, _, hp, rfl, ⟨by decide, by decide, by decide⟩, K10_eveningB hT hR hW hH h3 h4 (by omega) (by omega), fun v w' h => ⟨h.1, ?_⟩⟩
    rcases h.2 with rfl | ⟨zd, zx, zy, zw, zv, t0, r0, t1, r1, Sx, Sy, Sw, Sv, hy, hv, rfl⟩
    · exact ⟨zn, zs, zm, zh, zt, zr, zb, Sn, Ss, Sm, Sh, St, Sr, Sb, fi, fs, pa, none, ws, ⟨rfl, List.Perm.refl _⟩, hS, hB⟩
    · have hz := NR_dk (zn := zn) (zs := zs) (zm := zm) (zh := zh) (zt := zt) (zr := zr) (zb := zb) (Ss := Ss) (zd := zd) (zx := zx) (zy := zy) (zw := zw) (zv := zv) (t0 := t0) (r0 := r0) (t1 := t1) (r1 := r1) (Sd := MS0) (Sx := Sx) (Sw := Sw) hS hB hy hv DQ_0
      rw [e7] at hz; exact hz
  · have hp2 := hp.trans (cW_R ((flat_pick (i := 7) (n := 9) (by omega)).trans (by rw [hw7])))
    refine ⟨(nBk zn (zs 50) G.2.1 Sn fi fs pa (some (zd 50)) ++ (sBk zs (zm 50) (zb 50) G.2.1 Ss ++ (mBk zm (zt 50) (zr 50) (zh 50) G.2.1 Sm ++ (hBk zh G.2.1 Sh ++ (tBk zt G.2.1 St ++ (rBk zr G.2.1 Sr ++ (bBk zb G.2.1 Sb ++ (dBk zd (zx 50) (zw 50) G.2.1 Sd qd ++ (mBk zx t0 r0 (zy 50) G.2.1 Sx ++ (hBk zy G.2.1 Sy ++ (mBk zw t1 r1 (zv 50) G.2.1 Sw ++ (hBk zv G.2.1 Sv ++ (wq ++ flat (updW ws 7 []) 9))))))))))))), 0, 0, _, _, _, hp2, rfl, ⟨by decide, by decide, by decide⟩, K10_eveningA hT hR hW hH h3 h4 (by omega) (by omega) hy hv, fun v w' h => ⟨h.1, ?_⟩⟩
    obtain ⟨t0, r0, t1, r1, Sx, Sy, Sw, Sv, hy, hv, rfl⟩ := h.2
    exact NR_dk hS hB hy hv hq
