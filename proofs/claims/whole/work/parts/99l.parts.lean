theorem updW_c {ws : Nat → va_W} {i j : Nat} {x y : va_W} (h : ¬ i = j) : updW (updW ws i x) j y = updW (updW ws j y) i x := funext fun k => by
  by_cases e1 : k = i
  · subst e1; rw [updW_n h, updW_s, updW_s]
  · by_cases e2 : k = j
    · subst e2; rw [updW_s, updW_n e1, updW_s]
    · rw [updW_n e2, updW_n e1, updW_n e1, updW_n e2]
theorem dC_w {G : GG} {zd zx zy zw zv : Nat → Nat} {t0 r0 t1 r1 : Nat} {Sd Sx Sy Sw Sv : MS} {qd : Nat → Option Nat} {wq : va_W} : dC G zd zx zy zw zv t0 r0 t1 r1 Sd Sx Sy Sw Sv qd wq = dC G zd zx zy zw zv t0 r0 t1 r1 Sd Sx Sy Sw Sv qd [] ++ wq := by
  unfold dC; simp only [List.append_assoc, List.append_nil, List.nil_append]
section SR12
variable {l : Launch} {G : GG} {M : MS} {c o k : Nat} {w : va_W} {zn zs zm zh zt zr zb zd zx zy zw zv : Nat → Nat} {Sn Ss Sm Sh St Sr Sb Sd Sx Sy Sw Sv : MS} {fi fs : Nat → Option Nat} {pa dk : Option Nat} {ws : Nat → va_W} {qd : Nat → Option Nat} {kk t0 r0 t1 r1 : Nat} {wq wi : va_W}
/-- the desk and an image beside it, in front of the rest -/
theorem pm_di (hk : k < 3) (hwl : ws k = wi) {D : va_W} : (flat (updW ws 7 (D ++ wq)) 9).Perm (D ++ (wi ++ (wq ++ flat (updW (updW ws 7 []) k []) 9))) := by
  have h := flat_pick2 (ws := ws) (i := k) (j := 7) (n := 9) (x := D ++ wq) (by omega) (by omega) (by omega)
  rw [hwl, updW_c (by omega), List.append_assoc] at h
  refine h.trans ?_
  refine (List.perm_append_comm_assoc wi D _).trans (List.Perm.append_left _ ?_)
  exact List.Perm.refl _
theorem NR_di (hk : k < 3) (hwl : ws k = wi) (hS : NS M c Sn Sm Sh St Sr Sb) (hB : BS G M c fi fs pa dk ws) (hy : HX Sy) (hv : HX Sv) (hq : DQ G qd kk wq) : NR G M c (zn 50) (cW G zn zs zm zh zt zr zb Sn Ss Sm Sh St Sr Sb fi fs pa (some (zd 50)) (dC G zd zx zy zw zv t0 r0 t1 r1 Sd Sx Sy Sw Sv qd [] ++ (wi ++ (wq ++ flat (updW (updW ws 7 []) k []) 9)))) := by
  refine ⟨zn, zs, zm, zh, zt, zr, zb, Sn, Ss, Sm, Sh, St, Sr, Sb, fi, fs, pa, some (zd 50), updW ws 7 (dC G zd zx zy zw zv t0 r0 t1 r1 Sd Sx Sy Sw Sv qd wq), ⟨rfl, cW_R ?_⟩, hS, BS_dk hB hy hv hq⟩
  rw [dC_w]
  exact (pm_di hk hwl).symm
end SR12
set_option maxHeartbeats 1000000 in
theorem cs_parts {l : Launch} {G : GG} {M : MS} {c o : Nat} {w : va_W} {x : Int32} (hN : NR G M c o w) (hc : c ≤ 1000) : Stc l G yX10_parts cX10_parts 9 (some .int) 9 [.int x] w o (fun v w' => v = some (.int (if isI x 3 then (if M.2.1 10 (tn x) = -1 then -6 else (f_pc (M.2.1 1) (imgW M (tn x)) (M.2.1 2) (imgH M (tn x)) (if nrw (M.2.1 1) ≤ nrw (imgW M (tn x)) then nrw (M.2.1 1) else nrw (imgW M (tn x)))).1) else -2)) ∧ NR G M (c + 1) o w') := by
  obtain ⟨zn, zs, zm, zh, zt, zr, zb, Sn, Ss, Sm, Sh, St, Sr, Sb, fi, fs, pa, dk, ws, ⟨rfl, hp⟩, hS, hB⟩ := hN
  obtain ⟨⟨⟨hT, hR, hU, hW⟩, hr, td, nb, ⟨hH, hhr, htd⟩, ⟨hb0, hb3, hb6⟩, hbk, hls, hbw⟩, ⟨h3, h4⟩, ⟨tn0, htn9, htn, htm, htp, hby⟩, ⟨hf2, hf3⟩, h24, h27⟩ := id hS
  by_cases e : isI x 3
  · obtain ⟨k, hk, rfl⟩ := isI_of e
    have ht : tn (nI k) = k := tn_nI (by omega)
    rw [ht]
    have hIP := hB.1 k hk
    rcases hIP with ⟨hfi, hwl, hm1⟩ | ⟨ze, zf, zi, zu, zv, zk, Se, Sf, Si, Su, Sv, Sk, wi, hi, bi, ⟨hfi, hwl, hm1⟩, ⟨hw1, hw2, hw3⟩, hSi, hf3i, hf4i⟩
    · refine ⟨cW G zn zs zm zh zt zr zb Sn Ss Sm Sh St Sr Sb fi fs pa dk (flat ws 9), 0, 0, _, _, _, hp, rfl, ⟨by decide, by decide, by decide⟩, K10_partsN (fun _ => by rw [ht]; exact hfi), fun v w' h => ?_⟩
      obtain ⟨rfl, rfl⟩ := h
      rw [if_pos e, if_pos e, if_pos hm1]
      exact ⟨rfl, NR_nw (NS_m hS (by omega)) hB (BEQ_r M) (by omega)⟩
    · have hSe := ST_e1 (wd' := imgW M k) (hd' := imgH M k) (bk' := imgB M k) hw1 hw2 hw3 hSi
      obtain ⟨⟨hTi, hRi, hUi, hWi⟩, hri, tdi, nbi, ⟨hHi, hhri, htdi⟩, -⟩ := id hSe
      rw [if_pos e, if_neg hm1]
      rcases id hB.2.2.1 with ⟨rfl, hw7⟩ | ⟨zd, zx, zy, zw, zo, t0, r0, t1, r1, Sd, Sx, Sy, Sw, So, qd, kk, wq, ⟨rfl, hw7⟩, ⟨hy, hv⟩, hq⟩
      · have e7 : updW ws 7 [] = ws := by rw [← hw7]; exact updW_id
        have hp2 := hp.trans (cW_R ((flat_pick (i := k) (n := 9) (by omega)).trans (by rw [hwl])))
        refine ⟨(nBk zn (zs 50) G.2.1 Sn fi fs pa none ++ (sBk zs (zm 50) (zb 50) G.2.1 Ss ++ (mBk zm (zt 50) (zr 50) (zh 50) G.2.1 Sm ++ (hBk zh G.2.1 Sh ++ (tBk zt G.2.1 St ++ (rBk zr G.2.1 Sr ++ (bBk zb G.2.1 Sb ++ (sBk ze (zf 50) (zk 50) G.2.1 Se ++ (mBk zf (zu 50) (zv 50) (zi 50) G.2.1 Sf ++ (hBk zi G.2.1 Si ++ (tBk zu G.2.1 Su ++ (rBk zv G.2.1 Sv ++ (bBk zk G.2.1 Sk ++ (flat (updW ws k []) 9)))))))))))))), 10, 5119, _, _, _, hp2, rfl, ⟨by decide, by decide, by decide⟩, K10_partsB hT hR hW hH hTi hRi hWi hHi (by omega) (by omega) (by omega) (by omega) e (by rw [ht]; exact hfi), fun v w' h => ⟨h.1, ?_⟩⟩
        rcases h.2 with rfl | ⟨zd, zx, zy, zw, zo, t0, r0, Sx, Sy, hy, rfl⟩
        · have hz : NR G M (c + 1) (zn 50) (cW G zn zs zm zh zt zr zb Sn Ss Sm Sh St Sr Sb fi fs pa none (iC G ze zf zi zu zv zk Se Sf Si Su Sv Sk ++ flat (updW ws k []) 9)) := NR_pt (by omega) (NS_m hS (by omega)) (by rw [← hwl, updW_id]; exact BS_m hB (by omega))
          exact hz
        · have hz := NR_di (zn := zn) (zs := zs) (zm := zm) (zh := zh) (zt := zt) (zr := zr) (zb := zb) (Ss := Ss) (zd := zd) (zx := zx) (zy := zy) (zw := zw) (zv := zo) (t0 := t0) (r0 := r0) (t1 := zt 50) (r1 := zr 50) (Sd := MS0) (Sx := Sx) (Sw := SM0) hk hwl (NS_m hS (show c ≤ c + 1 by omega)) (BS_m hB (by omega)) hy HX0 DQ_0
          rw [e7] at hz
          exact hz
      · have hfl : (flat ws 9).Perm (dC G zd zx zy zw zo t0 r0 t1 r1 Sd Sx Sy Sw So qd [] ++ (iC G ze zf zi zu zv zk Se Sf Si Su Sv Sk ++ (wq ++ flat (updW (updW ws 7 []) k []) 9))) := by
          have h := pm_di (ws := ws) (wq := wq) (D := dC G zd zx zy zw zo t0 r0 t1 r1 Sd Sx Sy Sw So qd []) hk hwl
          rw [← dC_w, ← hw7, updW_id] at h
          exact h
        have hp2 := hp.trans (cW_R hfl)
        refine ⟨(nBk zn (zs 50) G.2.1 Sn fi fs pa (some (zd 50)) ++ (sBk zs (zm 50) (zb 50) G.2.1 Ss ++ (mBk zm (zt 50) (zr 50) (zh 50) G.2.1 Sm ++ (hBk zh G.2.1 Sh ++ (tBk zt G.2.1 St ++ (rBk zr G.2.1 Sr ++ (bBk zb G.2.1 Sb ++ (dBk zd (zx 50) (zw 50) G.2.1 Sd qd ++ (mBk zx t0 r0 (zy 50) G.2.1 Sx ++ (hBk zy G.2.1 Sy ++ (mBk zw t1 r1 (zo 50) G.2.1 Sw ++ (hBk zo G.2.1 So ++ (sBk ze (zf 50) (zk 50) G.2.1 Se ++ (mBk zf (zu 50) (zv 50) (zi 50) G.2.1 Sf ++ (hBk zi G.2.1 Si ++ (tBk zu G.2.1 Su ++ (rBk zv G.2.1 Sv ++ (bBk zk G.2.1 Sk ++ (wq ++ flat (updW (updW ws 7 []) k []) 9))))))))))))))))))), 0, 0, _, _, _, hp2, rfl, ⟨by decide, by decide, by decide⟩, K10_partsA hT hR hW hH hTi hRi hWi hHi (by omega) (by omega) (by omega) (by omega) e (by rw [ht]; exact hfi) hy, fun v w' h => ⟨h.1, ?_⟩⟩
        obtain ⟨t0, r0, Sx, Sy, hy, rfl⟩ := h.2
        have hz := NR_di (zn := zn) (zs := zs) (zm := zm) (zh := zh) (zt := zt) (zr := zr) (zb := zb) (Ss := Ss) (zd := zd) (zx := zx) (zy := zy) (zw := zw) (zv := zo) (t0 := t0) (r0 := r0) (t1 := t1) (r1 := r1) (Sd := Sd) (Sx := Sx) (Sw := Sw) hk hwl (NS_m hS (show c ≤ c + 1 by omega)) (BS_m hB (by omega)) hy hv hq
        exact hz
  · refine ⟨cW G zn zs zm zh zt zr zb Sn Ss Sm Sh St Sr Sb fi fs pa dk (flat ws 9), 0, 0, _, _, _, hp, rfl, ⟨by decide, by decide, by decide⟩, K10_partsN (fun z => absurd z e), fun v w' h => ?_⟩
    obtain ⟨rfl, rfl⟩ := h
    rw [if_neg e, if_neg e]
    exact ⟨rfl, NR_nw (NS_m hS (by omega)) hB (BEQ_r M) (by omega)⟩
