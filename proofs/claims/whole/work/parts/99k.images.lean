theorem TT_e1 {S : MS} {wd wd' : Nat → Int32} (hW : WF wd) (h : ∀ j, j < 1120 → wd' j = wd j) (hT : TT (-1) S wd) : TT (-1) S wd' := by
  have h24 := hW.2.1.2
  have hn : nth wd' = nth wd := by unfold nth; rw [h 1 (by omega)]
  obtain ⟨⟨t1, t2, t3⟩, t4, t5, ⟨np, a1, a2, a3, a4⟩, t7, t6⟩ := hT
  refine ⟨⟨by rw [h 1 (by omega)]; exact t1, by rw [h 0 (by omega)]; exact t2, by rw [h 4 (by omega)]; exact t3⟩, fun i hi => ?_, fun s hs => by rw [h _ (by omega)]; exact t5 s hs, ⟨np, a1, a2, fun k hk => PC_ext (fun i hi => h _ (by omega)) rfl rfl (a3 k hk), fun lw hl => ?_⟩, t7, by rw [h 4 (by omega)]; exact t6⟩
  · rw [hn] at hi
    rw [h _ (by omega)]; exact t4 i hi
  · obtain ⟨b, m, b1, b2, b3, b4, b5, b6⟩ := a4 lw hl
    exact ⟨b, m, by rw [h _ (by omega)]; exact b1, by rw [h _ (by omega)]; exact b2, b3, b4, b5, fun z => by rw [h _ (by omega)]; exact b6 z⟩
theorem TG_e1 {St Sr : MS} {wd wd' : Nat → Int32} (h : ∀ j, j < 1120 → wd' j = wd j) (hG : TG wd St Sr) : TG wd' St Sr := by
  obtain ⟨hT, hR, hU, hW⟩ := hG
  have hn : nth wd' = nth wd := by unfold nth; rw [h 1 (by omega)]
  have h24 := hW.2.1.2
  exact ⟨TT_e1 hW h hT, RR_ext hW (h 2 (by omega)) (fun i _ h2 => h i (by omega)) hR, RU_ext hW (h 2 (by omega)) (h 9 (by omega)) (fun i _ h2 => h i (by omega)) hU, WF_ext hW (h 2 (by omega)) (fun i _ h2 => h i (by omega)) (by rw [hn, h 1 (by omega)]; exact hW.2.1.1) (by omega) (by omega) (WL_ext (fun i _ h2 => h i (by omega)) hW.1)⟩
theorem HR_e1 {Sh : MS} {wd wd' hd hd' : Nat → Int32} {hr td : Nat} (hW : WF wd) (h : ∀ j, j < 1120 → wd' j = wd j) (h2 : ∀ j, j < 2018 → hd' j = hd j) (hH : HR wd Sh hd hr td) : HR wd' Sh hd' hr td := by
  obtain ⟨L, g, a, b, d, e, f⟩ := hH
  refine ⟨L, g, a, fun c hc => by rw [h2 c (by omega)]; exact b c hc, by rw [h2 2016 (by omega)]; exact d, by rw [h2 2017 (by omega)]; exact e, fun c hc => ?_⟩
  have h12 := hW.2.2.1.2
  have hn : nrw wd' = nrw wd := by unfold nrw; rw [h 2 (by omega)]
  have := f c hc
  unfold rcl at this ⊢
  rw [hn, rca_ext (wd := wd) (nrw wd) (fun r hr => ⟨by unfold len; rw [h _ (by omega)], fun i hi => by have := (WF_len hW hr).2.1; unfold th; rw [h _ (by omega)]⟩)]
  exact this
theorem ST_e1 {wd hd wd' hd' bk bk' : Nat → Int32} {x y : Int32} {Sh St Sr Sb : MS} {bh bt bl : Nat} (h1 : ∀ j, j < 1120 → wd' j = wd j) (h2 : ∀ j, j < 2018 → hd' j = hd j) (h3 : ∀ j, j < 360 → bk' j = bk j) (h : ST wd hd x y bk Sh St Sr Sb bh bt bl) : ST wd' hd' x y bk' Sh St Sr Sb bh bt bl := by
  obtain ⟨g, hr, td, nb, ⟨a1, a2, a3⟩, ⟨b1, b2, b3⟩, d, e, f⟩ := h
  have hn : nrw wd' = nrw wd := by unfold nrw; rw [h1 2 (by omega)]
  refine ⟨TG_e1 h1 g, hr, td, nb, ⟨HR_e1 g.2.2.2 h1 h2 a1, a2, a3⟩, ⟨b1, b2, b3⟩, fun j hj => by rw [h3 j (by omega)]; exact d j hj, e, fun i hi => ?_⟩
  obtain ⟨c1, c2, ⟨x, c3, c4, c5⟩, c6⟩ := f i hi
  rw [hn, h3 _ (by omega), h3 _ (by omega), h3 _ (by omega), h3 _ (by omega)]
  exact ⟨c1, c2, ⟨x, c3, c4, fun j hij hj y hy e => c5 j hij hj y hy (by rw [← h3 _ (by omega)]; exact e)⟩, c6⟩
/-- a copy of a STATE -/
theorem ST_cp {wd hd bk : Nat → Int32} {x y : Int32} {Sh St Sr Sb Sh' St' Sr' Sb' : MS} {bh bt bl np : Nat} {L : List Nat} {g : Nat → Nat} (h : ST wd hd x y bk Sh St Sr Sb bh bt bl) (hH : HH Sh L g) (hL : ∀ c ∈ L, c ∈ rcl wd) (hg : ∀ c, c < 2016 → hd c = nI (g c)) (h9 : St.1 9 = nI np) (hnp : np ≤ 180) (c1 : TCp St' St np) (c2 : RCp Sr' Sr) (c3 : HH Sh' (pos g L) g ∧ Sh'.1 0 = Sh.1 0 ∧ Sh'.1 1 = Sh.1 1) (c4 : BCp Sb' Sb) : ST wd hd x y bk Sh' St' Sr' Sb' bh bt bl := by
  obtain ⟨hG, hr, td, nb, ⟨⟨L0, g0, a0⟩, a2, a3⟩, ⟨b1, b2, b3⟩, d, e, f⟩ := h
  refine ⟨TG_cp hG h9 hnp c1 c2, hr, td, nb, ⟨⟨pos g L, g, c3.1, hg, ⟨a0.2.2.1.1, c3.2.1.trans a0.2.2.1.2⟩, ⟨a0.2.2.2.1.1, c3.2.2.trans a0.2.2.2.1.2⟩, fun c hc => hL c (pos_mem.mp hc).1⟩, a2, a3⟩, ⟨c4.1.1.trans b1, b2, b3⟩, fun j hj => by rw [c4.2 j (by omega)]; exact d j hj, by rw [c4.1.2]; exact e, f⟩
theorem LSt_z {x y : Int32} {c : Nat} (h : LSt x y c) : x = nI 0 ∨ x = nI 1 := h.elim (fun z => Or.inl z.1) (fun z => Or.inr z.1)
section SR11
variable {l : Launch} {G : GG} {M N : MS} {c c' o k : Nat} {w wl : va_W} {fi fs fi' : Nat → Option Nat} {pa dk : Option Nat} {ws : Nat → va_W}
theorem BS_im (hB : BS G M c fi fs pa dk ws) (hk : k < 3) (e : (N.2.1 34 = M.2.1 34 ∧ N.2.1 35 = M.2.1 35) ∧ N.2.2 36 = M.2.2 36) (h1 : ∀ t, t < 3 → ¬ t = k → (∀ j, j < 1120 → N.2.1 6 (1120 * t + j) = M.2.1 6 (1120 * t + j)) ∧ (∀ j, j < 2018 → N.2.1 7 (2018 * t + j) = M.2.1 7 (2018 * t + j)) ∧ (∀ j, j < 360 → N.2.1 8 (360 * t + j) = M.2.1 8 (360 * t + j)) ∧ N.2.1 9 t = M.2.1 9 t ∧ N.2.1 10 t = M.2.1 10 t ∧ fi' t = fi t) (hI : IP G N c k (fi' k) wl) : BS G N c fi' fs pa dk (updW ws k wl) := by
  obtain ⟨g1, g2, g3, g4⟩ := hB
  obtain ⟨⟨d10, d11⟩, e8⟩ := e
  refine ⟨fun t ht => ?_, fun s hs => ?_, by rw [updW_n (by omega)]; exact g3, by rw [updW_n (by omega)]; exact g4⟩
  · by_cases z : t = k
    · subst z; rw [updW_s]; exact hI
    · rw [updW_n z]
      obtain ⟨a1, a2, a3, a4, a5, a6⟩ := h1 t ht z
      have := g1 t ht
      unfold IP at this ⊢
      rw [a4, a5, a6]
      refine this.imp id ?_
      rintro ⟨ze, zf, zi, zu, zv, zk, Se, Sf, Si, Su, Sv, Sk, wi, hi, bi, b1, ⟨b2, b3, b4⟩, b5⟩
      exact ⟨ze, zf, zi, zu, zv, zk, Se, Sf, Si, Su, Sv, Sk, wi, hi, bi, b1, ⟨fun j hj => (a1 j hj).trans (b2 j hj), fun j hj => (a2 j hj).trans (b3 j hj), fun j hj => (a3 j hj).trans (b4 j hj)⟩, b5⟩
  · rw [updW_n (by omega)]
    have := g2 s hs
    unfold LPt at this ⊢
    rw [d10, d11, e8]; exact this
end SR11
/-- keep(), as the reference leaves it -/
theorem kp_f {M : MS} {k : Nat} (hk : k < 3) : ((f_kp M (nI k)).1 = M.1 ∧ (f_kp M (nI k)).2.2 = M.2.2 ∧ (∀ f, ¬ (6 ≤ f ∧ f ≤ 10) → (f_kp M (nI k)).2.1 f = M.2.1 f)) ∧ (f_kp M (nI k)).2.1 6 = va_cpy (M.2.1 1) (M.2.1 6) 0 (1120 * k) 1120 ∧ (f_kp M (nI k)).2.1 7 = va_cpy (M.2.1 2) (M.2.1 7) 0 (2018 * k) 2018 ∧ (f_kp M (nI k)).2.1 8 = va_cpy (M.2.1 5) (M.2.1 8) 0 (360 * k) 360 ∧ (f_kp M (nI k)).2.1 10 = upd (M.2.1 10) k (M.1 3) ∧ (f_kp M (nI k)).2.1 9 = upd (M.2.1 9) k (M.1 4) := by
  have e : isI (nI k) 3 := isI_nI hk (by omega)
  unfold f_kp
  rw [if_pos e, tn_nI (by omega)]
  dsimp only
  refine ⟨⟨rfl, rfl, fun f hf => ?_⟩, rfl, rfl, rfl, rfl, rfl⟩
  show va_up (va_up (va_up (va_up (va_up M.2.1 6 _) 7 _) 8 _) 10 _) 9 _ f = _
  rw [va_up_ne _ _ (by omega), va_up_ne _ _ (by omega), va_up_ne _ _ (by omega), va_up_ne _ _ (by omega), va_up_ne _ _ (by omega)]
theorem cp_in {f g : Nat → Int32} {b n j : Nat} (h : j < n) : va_cpy f g 0 b n (b + j) = f j := by
  unfold va_cpy; rw [if_pos (by omega)]; congr 1; omega
theorem cp_out {f g : Nat → Int32} {b n j : Nat} (h : j < b ∨ b + n ≤ j) : va_cpy f g 0 b n j = g j := by
  unfold va_cpy; rw [if_neg (by omega)]
set_option maxHeartbeats 1000000 in
theorem cs_keep {l : Launch} {G : GG} {M : MS} {c o : Nat} {w : va_W} {x : Int32} (hN : NR G M c o w) (hc : c ≤ 1000) : Stc l G yX10_keep cX10_keep 2 (some .int) 5 [.int x] w o (fun v w' => v = some (.int (if isI x 3 then nI 0 else -2)) ∧ NR G (f_kp M x) (c + 1) o w') := by
  obtain ⟨zn, zs, zm, zh, zt, zr, zb, Sn, Ss, Sm, Sh, St, Sr, Sb, fi, fs, pa, dk, ws, ⟨rfl, hp⟩, hS, hB⟩ := hN
  obtain ⟨⟨⟨hT, hR, hU, hW⟩, hr, td, nb, ⟨hH, hhr, htd⟩, ⟨hb0, hb3, hb6⟩, hbk, hls, hbw⟩, ⟨h3, h4⟩, ⟨tn0, htn9, htn, htm, htp, hby⟩, ⟨hf2, hf3⟩, h24, h27⟩ := id hS
  by_cases e : isI x 3
  · obtain ⟨k, hk, rfl⟩ := isI_of e
    have ht : tn (nI k) = k := tn_nI (by omega)
    rw [if_pos e]
    obtain ⟨⟨q1, q2, q3⟩, q6, q7, q8, q10, q9⟩ := kp_f (M := M) hk
    obtain ⟨L, g, hGG⟩ := id hH
    obtain ⟨np, hnp9, hnp⟩ := TG_np ⟨hT, hR, hU, hW⟩
    have hIP := hB.1 k hk
    have fin : ∀ (fi' : Nat → Option Nat) (ze zf zi zu zv zk : Nat → Nat) (Se Sf : MS) (s : MS × MS × MS × MS), fi' k = some (ze 50) → (∀ t, t < 3 → ¬ t = k → fi' t = fi t) → (Sf.1 3 = -1 ∧ Sf.1 4 = -1) → TCp s.1 St np → RCp s.2.1 Sr → (HH s.2.2.1 (pos g L) g ∧ s.2.2.1.1 0 = Sh.1 0 ∧ s.2.2.1.1 1 = Sh.1 1) → BCp s.2.2.2 Sb → NR G (f_kp M (nI k)) (c + 1) (zn 50) (cW G zn zs zm zh zt zr zb Sn Ss Sm Sh St Sr Sb fi' fs pa dk (iC G ze zf zi zu zv zk Se Sf s.2.2.1 s.1 s.2.1 s.2.2.2 ++ flat (updW ws k []) 9)) := by
      intro fi' ze zf zi zu zv zk Se Sf s g1 g2 g3 g4 g5 g6 g7
      have hcp := ST_cp hS.1 hGG.1 hGG.2.2.2.2 hGG.2.1 hnp9 hnp g4 g5 g6 g7
      refine NR_pt (by omega) (NS_e (NS_m hS (by omega)) ⟨⟨⟨by rw [q1], by rw [q1]⟩, by rw [q1], ⟨by rw [q1], by rw [q1]⟩, by rw [q1], by rw [q1]⟩, ⟨q3 1 (by omega), q3 2 (by omega), q3 5 (by omega)⟩, q3 11 (by omega)⟩) (BS_im (BS_m hB (by omega)) hk ⟨⟨q3 34 (by omega), q3 35 (by omega)⟩, by rw [q2]⟩ (fun t ht htk => ⟨fun j hj => by rw [q6, cp_out (by omega)], fun j hj => by rw [q7, cp_out (by omega)], fun j hj => by rw [q8, cp_out (by omega)], by rw [q9, pk_un htk], by rw [q10, pk_un htk], g2 t ht htk⟩) (Or.inr ⟨ze, zf, zi, zu, zv, zk, Se, Sf, s.2.2.1, s.1, s.2.1, s.2.2.2, M.2.1 1, M.2.1 2, M.2.1 5, ⟨g1, rfl, ?_⟩, ⟨fun j hj => by rw [q6, cp_in hj], fun j hj => by rw [q7, cp_in hj], fun j hj => by rw [q8, cp_in hj]⟩, ?_, g3.1, g3.2⟩))
      · rw [q10, pk_us, hb3]; exact nI_nmO (by omega)
      · rw [q10, q9, pk_us, pk_us]; exact ST_m hcp (by omega) (by omega) (by omega)
    rcases hIP with ⟨hfi, hwl, hm1⟩ | ⟨ze, zf, zi, zu, zv, zk, Se, Sf, Si, Su, Sv, Sk, wi, hi, bi, ⟨hfi, hwl, hm1⟩, ⟨hw1, hw2, hw3⟩, hSi, hf3i, hf4i⟩
    · have e7 : updW ws k [] = ws := by rw [← hwl]; exact updW_id
      refine ⟨cW G zn zs zm zh zt zr zb Sn Ss Sm Sh St Sr Sb fi fs pa dk (flat ws 9), 18, 3515, _, _, _, hp, rfl, ⟨by decide, by decide, by decide⟩, K10_keepN e (by rw [ht]; exact hfi) hnp9 hnp hGG.1 (LSt_z hls), fun v w' h => ?_⟩
      obtain ⟨rfl, ze, zf, zi, zu, zv, zk, s, rfl, g4, g5, g6, g7⟩ := h
      have hz := fin (va_up fi (tn (nI k)) (some (ze 50))) ze zf zi zu zv zk MS0 SM0 s (by rw [ht]; exact va_up_us _ _ _) (fun t _ h => by rw [ht]; exact va_up_ne _ _ h) ⟨rfl, rfl⟩ g4 g5 g6 g7
      rw [e7] at hz
      exact ⟨rfl, hz⟩
    · have hp2 := hp.trans (cW_R ((flat_pick (i := k) (n := 9) (by omega)).trans (by rw [hwl])))
      obtain ⟨-, hri, tdi, nbi, ⟨⟨Li, gi, hGi⟩, -, -⟩, -⟩ := id hSi
      refine ⟨(nBk zn (zs 50) G.2.1 Sn fi fs pa dk ++ (sBk zs (zm 50) (zb 50) G.2.1 Ss ++ (mBk zm (zt 50) (zr 50) (zh 50) G.2.1 Sm ++ (hBk zh G.2.1 Sh ++ (tBk zt G.2.1 St ++ (rBk zr G.2.1 Sr ++ (bBk zb G.2.1 Sb ++ (sBk ze (zf 50) (zk 50) G.2.1 Se ++ (mBk zf (zu 50) (zv 50) (zi 50) G.2.1 Sf ++ (hBk zi G.2.1 Si ++ (tBk zu G.2.1 Su ++ (rBk zv G.2.1 Sv ++ (bBk zk G.2.1 Sk ++ (flat (updW ws k []) 9)))))))))))))), 0, 0, _, _, _, hp2, rfl, ⟨by decide, by decide, by decide⟩, K10_keepS e (by rw [ht]; exact hfi) hnp9 hnp hGi.1 hGG.1 (LSt_z hls), fun v w' h => ?_⟩
      obtain ⟨x0, s, ⟨rfl, g4, g5, g6, g7⟩, rfl, rfl⟩ := h
      exact ⟨rfl, fin fi ze zf zi zu zv zk Se Sf s hfi (fun _ _ _ => rfl) ⟨hf3i, hf4i⟩ g4 g5 g6 g7⟩
  · refine ⟨cW G zn zs zm zh zt zr zb Sn Ss Sm Sh St Sr Sb fi fs pa dk (flat ws 9), 0, 0, _, _, _, hp, rfl, ⟨by decide, by decide, by decide⟩, K10_keepX e, fun v w' h => ?_⟩
    obtain ⟨rfl, rfl⟩ := h
    unfold f_kp
    rw [if_neg e, if_neg e]
    exact ⟨rfl, NR_nw (NS_m hS (by omega)) hB (BEQ_r M) (by omega)⟩
set_option maxHeartbeats 1000000 in
theorem cs_back {l : Launch} {G : GG} {M : MS} {c o : Nat} {w : va_W} {x : Int32} (hN : NR G M c o w) (hc : c ≤ 1000) : Stc l G yX10_back cX10_back 2 (some .int) 5 [.int x] w o (fun v w' => v = some (.int (if isI x 3 then (if M.2.1 10 (tn x) = -1 then -6 else nI 0) else -2)) ∧ NR G (if isI x 3 ∧ ¬ M.2.1 10 (tn x) = -1 then f_bk M (tn x) else M) (c + 1) o w') := by
  obtain ⟨zn, zs, zm, zh, zt, zr, zb, Sn, Ss, Sm, Sh, St, Sr, Sb, fi, fs, pa, dk, ws, ⟨rfl, hp⟩, hS, hB⟩ := hN
  obtain ⟨⟨⟨hT, hR, hU, hW⟩, hr, td, nb, ⟨hH, hhr, htd⟩, ⟨hb0, hb3, hb6⟩, hbk, hls, hbw⟩, ⟨h3, h4⟩, ⟨tn0, htn9, htn, htm, htp, hby⟩, ⟨hf2, hf3⟩, h24, h27⟩ := id hS
  by_cases e : isI x 3
  · obtain ⟨k, hk, rfl⟩ := isI_of e
    have ht : tn (nI k) = k := tn_nI (by omega)
    rw [ht]
    obtain ⟨L, g, hGG⟩ := id hH
    have hIP := hB.1 k hk
    rcases hIP with ⟨hfi, hwl, hm1⟩ | ⟨ze, zf, zi, zu, zv, zk, Se, Sf, Si, Su, Sv, Sk, wi, hi, bi, ⟨hfi, hwl, hm1⟩, ⟨hw1, hw2, hw3⟩, hSi, hf3i, hf4i⟩
    · refine ⟨cW G zn zs zm zh zt zr zb Sn Ss Sm Sh St Sr Sb fi fs pa dk (flat ws 9), 0, 0, _, _, _, hp, rfl, ⟨by decide, by decide, by decide⟩, K10_backN (fun _ => by rw [ht]; exact hfi), fun v w' h => ?_⟩
      obtain ⟨rfl, rfl⟩ := h
      rw [if_pos e, if_pos e, if_pos hm1, if_neg (fun q => q.2 hm1)]
      exact ⟨rfl, NR_nw (NS_m hS (by omega)) hB (BEQ_r M) (by omega)⟩
    · have hp2 := hp.trans (cW_R ((flat_pick (i := k) (n := 9) (by omega)).trans (by rw [hwl])))
      have hSe := ST_e1 (wd' := imgW M k) (hd' := imgH M k) (bk' := imgB M k) hw1 hw2 hw3 hSi
      obtain ⟨hGe, hri, tdi, nbi, ⟨⟨Li, gi, hGi⟩, -, -⟩, -, -, hlsi, -⟩ := id hSe
      obtain ⟨np, hnp9, hnp⟩ := TG_np hGe
      refine ⟨(nBk zn (zs 50) G.2.1 Sn fi fs pa dk ++ (sBk zs (zm 50) (zb 50) G.2.1 Ss ++ (mBk zm (zt 50) (zr 50) (zh 50) G.2.1 Sm ++ (hBk zh G.2.1 Sh ++ (tBk zt G.2.1 St ++ (rBk zr G.2.1 Sr ++ (bBk zb G.2.1 Sb ++ (sBk ze (zf 50) (zk 50) G.2.1 Se ++ (mBk zf (zu 50) (zv 50) (zi 50) G.2.1 Sf ++ (hBk zi G.2.1 Si ++ (tBk zu G.2.1 Su ++ (rBk zv G.2.1 Sv ++ (bBk zk G.2.1 Sk ++ (flat (updW ws k []) 9)))))))))))))), 0, 0, _, _, _, hp2, rfl, ⟨by decide, by decide, by decide⟩, K10_backS e (by rw [ht]; exact hfi) hnp9 hnp hGG.1 hGi.1 (LSt_z hlsi), fun v w' h => ?_⟩
      obtain ⟨x0, s, ⟨rfl, g4, g5, g6, g7⟩, rfl, rfl⟩ := h
      rw [if_pos e, if_neg hm1, if_pos ⟨e, hm1⟩]
      have hcp := ST_cp hSe hGi.1 hGi.2.2.2.2 hGi.2.1 hnp9 hnp g4 g5 g6 g7
      have hNS : NS (f_bk M k) (c + 1) Sn Sm s.2.2.1 s.1 s.2.1 s.2.2.2 := ⟨ST_m hcp (by omega) (by omega) (by omega), ⟨h3, h4⟩, ⟨tn0, htn9, htn, htm, htp, hby⟩, ⟨hf2, hf3⟩, h24, h27⟩
      have hBS : BS G (f_bk M k) (c + 1) fi fs pa dk (updW ws k (iC G ze zf zi zu zv zk Se Sf Si Su Sv Sk)) := by
        rw [← hwl, updW_id]
        exact BS_e (BS_m hB (by omega)) ⟨⟨rfl, rfl, rfl, rfl, rfl⟩, ⟨rfl, rfl⟩, rfl⟩
      have hz : NR G (f_bk M k) (c + 1) (zn 50) (cW G zn zs zm zh zt zr zb Sn Ss Sm s.2.2.1 s.1 s.2.1 s.2.2.2 fi fs pa dk (iC G ze zf zi zu zv zk Se Sf Si Su Sv Sk ++ flat (updW ws k []) 9)) := NR_pt (by omega) hNS hBS
      exact ⟨rfl, hz⟩
  · refine ⟨cW G zn zs zm zh zt zr zb Sn Ss Sm Sh St Sr Sb fi fs pa dk (flat ws 9), 0, 0, _, _, _, hp, rfl, ⟨by decide, by decide, by decide⟩, K10_backN (fun z => absurd z e), fun v w' h => ?_⟩
    obtain ⟨rfl, rfl⟩ := h
    rw [if_neg e, if_neg e, if_neg (fun q => e q.1)]
    exact ⟨rfl, NR_nw (NS_m hS (by omega)) hB (BEQ_r M) (by omega)⟩
