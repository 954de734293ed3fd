theorem BW_m {bk : Nat → Int32} {n nr nr' hr hr' : Nat} (h : BW bk n nr hr) (h1 : nr ≤ nr') (h2 : hr ≤ hr') (h9 : hr' < 2 ^ 31) : BW bk n nr' hr' := by
  intro i hi
  obtain ⟨⟨r, a1, a2⟩, b, ⟨x, hx, hx2, hx3⟩, d⟩ := h i hi
  refine ⟨⟨r, by omega, a2⟩, b, ⟨x, by omega, hx2, fun j hij hj y hy e => ?_⟩, d⟩
  obtain ⟨-, -, ⟨z, hz, hz2, -⟩, -⟩ := h j hj
  have : y = z := (nI_eq (by omega) (by omega)).mp (e.symm.trans hz2)
  exact hx3 j hij hj y (by omega) e
theorem LSt_m {x y : Int32} {c c' : Nat} (h : LSt x y c) (hc : c ≤ c') : LSt x y c' := h.elim Or.inl (fun ⟨e1, n, e2, e3, e4⟩ => Or.inr ⟨e1, n, e2, by omega, e4⟩)
theorem CA_used {wd : Nat → Int32} {r : Nat} {v : Int32} (hr : r < 12) : CA wd (upd wd (34 + 14 * r + 1 + 12) v) := fun j h1 h2 => pk_un (h2 r hr)
theorem TG_used {wd : Nat → Int32} {St Sr : MS} {r : Nat} {v : Int32} (h : TG wd St Sr) (hr : r < nrw wd) : TG (upd wd (34 + 14 * r + 1 + 12) (wd (34 + 14 * r + 1 + 12) + v)) St (aS Sr 3 r (Sr.2.1 3 r + v)) := by
  obtain ⟨hT, hR, hU, hW⟩ := h
  have h12 := hW.2.2.1.2
  have hC := CA_used (wd := wd) (r := r) (v := wd (34 + 14 * r + 1 + 12) + v) (by omega)
  refine ⟨CA_TT hC hW.2.1.2 hT (fun s hs => by rw [pk_un (by omega)]; exact (hT.2.2.1 s hs).1), CA_RR hC hW hR, ⟨?_, fun q hq => ?_⟩, CA_WF hC hW⟩
  · rw [pk_un (by omega)]; exact hU.1
  · rw [CA_nrw hC] at hq
    rw [aS_at]
    by_cases e : q = r
    · subst e; rw [pk_us, pk_us, hU.2 q hq]
    · rw [pk_un e, pk_un (by omega)]; exact hU.2 q hq
theorem bkN_b {M : MS} {nb : Nat} (h : M.1 3 = nI nb) (hb : nb ≤ 60) : bkN M = bN nb := by
  unfold bkN bN
  rw [h]
  by_cases e : nb = 60
  · subst e; rfl
  · rw [if_neg (fun z => e ((nI_eq (by omega) (by omega)).mp z)), if_neg e, tn_nI (by omega)]
/-- one sitting more: the class's and the reference's -/
theorem sit_ST {M Sh' St Sr Sb Sb' : MS} {hd' : Nat → Int32} {r k ow hr td' nb bh bt bl : Nat} {rd how ahead : Int32} (hG : TG (M.2.1 1) St Sr) (hH : HR (M.2.1 1) Sh' hd' hr td') (hb3 : M.1 3 = nI nb) (hb6 : nb ≤ 60) (hbk : ∀ j, j < 6 * nb → Sb.2.1 2 j = M.2.1 5 j) (hls : LSt (Sb.1 1) (M.1 4) bl) (hbw : BW (M.2.1 5) nb (nrw (M.2.1 1)) hr) (hrw : r < nrw (M.2.1 1)) (hk : k ≤ 50) (hrd : rd = nI k) (ho : ow ≤ 2) (hhow : how = nI ow) (hBA : BAd Sb Sb' nb (nI r) rd (nI hr) ahead (f_ones (f_slips (M.2.1 1) hd' r) 12) how) (hh9 : hr ≤ bh) (ht9 : td' ≤ bt) (hb9 : bh ≤ 1000000000) (hl9 : bl ≤ 1000000) : ST ((sitM M hd' r rd how ahead).2.1 1) hd' ((sitM M hd' r rd how ahead).1 3) ((sitM M hd' r rd how ahead).1 4) ((sitM M hd' r rd how ahead).2.1 5) Sh' St (aS Sr 3 r (Sr.2.1 3 r + rd)) Sb' bh bt (bl + 1) := by
  have hN := bkN_b hb3 hb6
  have e1 : (sitM M hd' r rd how ahead).2.1 1 = upd (M.2.1 1) (34 + 14 * r + 1 + 12) (M.2.1 1 (34 + 14 * r + 1 + 12) + rd) := rfl
  have e3 : (sitM M hd' r rd how ahead).1 3 = nI (bN nb + 1) := by show nI (bkN M + 1) = _; rw [hN]
  have e4 : (sitM M hd' r rd how ahead).1 4 = bkL M := rfl
  have e5 : (sitM M hd' r rd how ahead).2.1 5 = upd (upd (upd (upd (upd (upd (bkA M) (6 * bN nb) (nI r)) (6 * bN nb + 1) rd) (6 * bN nb + 2) (hd' 2016)) (6 * bN nb + 3) ahead) (6 * bN nb + 4) (f_ones (f_slips (M.2.1 1) hd' r) 12)) (6 * bN nb + 5) how := by rw [← hN]; rfl
  rw [e1, e3, e4, e5]
  have h12 := hG.2.2.2.2.2.1.2
  have hC := CA_used (wd := M.2.1 1) (r := r) (v := M.2.1 1 (34 + 14 * r + 1 + 12) + rd) (by omega)
  obtain ⟨L, g, hGG⟩ := id hH
  have h16 : hd' 2016 = nI hr := hGG.2.2.1.1
  obtain ⟨a1, a2, a3, a4, a5, a6, a7, a8, a9⟩ := hBA
  have hbN : bN nb ≤ 59 ∧ (nb = 60 → bN nb = 59) ∧ (¬ nb = 60 → bN nb = nb) := by unfold bN; split <;> omega
  have old : ∀ j, j < 6 * bN nb → bkA M j = if nb = 60 then M.2.1 5 (j + 6) else M.2.1 5 j := by
    intro j hj
    unfold bkA
    rw [hb3]
    by_cases e : nb = 60
    · rw [if_pos e, if_pos (by rw [e])]; unfold shB; rw [if_pos (by omega)]
    · rw [if_neg e, if_neg (fun z => e ((nI_eq (by omega) (by omega)).mp z))]
  have nw : ∀ j, j < 6 * bN nb → upd (upd (upd (upd (upd (upd (bkA M) (6 * bN nb) (nI r)) (6 * bN nb + 1) rd) (6 * bN nb + 2) (hd' 2016)) (6 * bN nb + 3) ahead) (6 * bN nb + 4) (f_ones (f_slips (M.2.1 1) hd' r) 12)) (6 * bN nb + 5) how j = if nb = 60 then M.2.1 5 (j + 6) else M.2.1 5 j := by
    intro j hj
    rw [pk_un (by omega), pk_un (by omega), pk_un (by omega), pk_un (by omega), pk_un (by omega), pk_un (by omega)]
    exact old j hj
  have n0 : upd (upd (upd (upd (upd (upd (bkA M) (6 * bN nb) (nI r)) (6 * bN nb + 1) rd) (6 * bN nb + 2) (hd' 2016)) (6 * bN nb + 3) ahead) (6 * bN nb + 4) (f_ones (f_slips (M.2.1 1) hd' r) 12)) (6 * bN nb + 5) how (6 * bN nb) = nI r := by rw [pk_un (by omega), pk_un (by omega), pk_un (by omega), pk_un (by omega), pk_un (by omega), pk_us]
  have n1 : upd (upd (upd (upd (upd (upd (bkA M) (6 * bN nb) (nI r)) (6 * bN nb + 1) rd) (6 * bN nb + 2) (hd' 2016)) (6 * bN nb + 3) ahead) (6 * bN nb + 4) (f_ones (f_slips (M.2.1 1) hd' r) 12)) (6 * bN nb + 5) how (6 * bN nb + 1) = rd := by rw [pk_un (by omega), pk_un (by omega), pk_un (by omega), pk_un (by omega), pk_us]
  have n2 : upd (upd (upd (upd (upd (upd (bkA M) (6 * bN nb) (nI r)) (6 * bN nb + 1) rd) (6 * bN nb + 2) (hd' 2016)) (6 * bN nb + 3) ahead) (6 * bN nb + 4) (f_ones (f_slips (M.2.1 1) hd' r) 12)) (6 * bN nb + 5) how (6 * bN nb + 2) = nI hr := by rw [pk_un (by omega), pk_un (by omega), pk_un (by omega), pk_us, h16]
  have n3 : upd (upd (upd (upd (upd (upd (bkA M) (6 * bN nb) (nI r)) (6 * bN nb + 1) rd) (6 * bN nb + 2) (hd' 2016)) (6 * bN nb + 3) ahead) (6 * bN nb + 4) (f_ones (f_slips (M.2.1 1) hd' r) 12)) (6 * bN nb + 5) how (6 * bN nb + 3) = ahead := by rw [pk_un (by omega), pk_un (by omega), pk_us]
  have n4 : upd (upd (upd (upd (upd (upd (bkA M) (6 * bN nb) (nI r)) (6 * bN nb + 1) rd) (6 * bN nb + 2) (hd' 2016)) (6 * bN nb + 3) ahead) (6 * bN nb + 4) (f_ones (f_slips (M.2.1 1) hd' r) 12)) (6 * bN nb + 5) how (6 * bN nb + 4) = f_ones (f_slips (M.2.1 1) hd' r) 12 := by rw [pk_un (by omega), pk_us]
  have n5 : upd (upd (upd (upd (upd (upd (bkA M) (6 * bN nb) (nI r)) (6 * bN nb + 1) rd) (6 * bN nb + 2) (hd' 2016)) (6 * bN nb + 3) ahead) (6 * bN nb + 4) (f_ones (f_slips (M.2.1 1) hd' r) 12)) (6 * bN nb + 5) how (6 * bN nb + 5) = how := by rw [pk_us]
  generalize upd (upd (upd (upd (upd (upd (bkA M) (6 * bN nb) (nI r)) (6 * bN nb + 1) rd) (6 * bN nb + 2) (hd' 2016)) (6 * bN nb + 3) ahead) (6 * bN nb + 4) (f_ones (f_slips (M.2.1 1) hd' r) 12)) (6 * bN nb + 5) how = bk at nw n0 n1 n2 n3 n4 n5 ⊢
  refine ⟨TG_used hG hrw, hr, td', bN nb + 1, ⟨CA_HR hC hG.2.2.2 hH, hh9, ht9⟩, ⟨a1, rfl, by omega⟩, fun j hj => ?_, ?_, fun i hi => ?_⟩
  · by_cases e : j < 6 * bN nb
    · rw [a3 j e, nw j e]
      by_cases e6 : nb = 60
      · rw [if_pos e6, if_pos e6, hbk _ (by omega)]
      · rw [if_neg e6, if_neg e6, hbk _ (by omega)]
    · obtain rfl | rfl | rfl | rfl | rfl | rfl : j = 6 * bN nb ∨ j = 6 * bN nb + 1 ∨ j = 6 * bN nb + 2 ∨ j = 6 * bN nb + 3 ∨ j = 6 * bN nb + 4 ∨ j = 6 * bN nb + 5 := by omega
      · rw [a4, n0]
      · rw [a5, n1]
      · rw [a6, n2]
      · rw [a7, n3]
      · rw [a8, n4]
      · rw [a9, n5]
  · rw [a2]
    unfold bkL
    rw [hb3]
    by_cases e : nb = 60
    · rw [if_pos e, if_pos (by rw [e])]
      rcases hls with ⟨-, q2⟩ | ⟨-, n, q1, q2, q3⟩
      · rw [q2]; exact Or.inr ⟨rfl, 1, by omega, by omega, rfl⟩
      · rw [q3, nI_pl]; exact Or.inr ⟨rfl, n + 1, by omega, by omega, rfl⟩
    · rw [if_neg e, if_neg (fun z => e ((nI_eq (by omega) (by omega)).mp z))]
      exact LSt_m hls (by omega)
  · rw [CA_nrw hC]
    -- the entry that an old one comes from
    have ent : ∀ i, i < bN nb → ∃ i0, i0 < nb ∧ (∀ q, q < 6 → bk (6 * i + q) = M.2.1 5 (6 * i0 + q)) := by
      intro i hi
      by_cases e : nb = 60
      · exact ⟨i + 1, by omega, fun q hq => by rw [nw _ (by omega), if_pos e, show 6 * i + q + 6 = 6 * (i + 1) + q by omega]⟩
      · exact ⟨i, by omega, fun q hq => by rw [nw _ (by omega), if_neg e]⟩
    by_cases e : i = bN nb
    · subst e
      refine ⟨⟨r, hrw, n0⟩, ⟨k, hk, n1.trans hrd⟩, ⟨hr, Nat.le_refl _, n2, fun j hij hj y hy ey => ?_⟩, ⟨ow, ho, n5.trans hhow⟩⟩
      have : j = bN nb := by omega
      subst this
      have := (nI_eq (by omega) (by omega)).mp (ey.symm.trans n2)
      omega
    · obtain ⟨i0, hi0, he⟩ := ent i (by omega)
      obtain ⟨b1, b2, ⟨x, hx, hx2, hx3⟩, b4⟩ := hbw i0 hi0
      have he0 : bk (6 * i) = M.2.1 5 (6 * i0) := he 0 (by omega)
      refine ⟨by rw [he0]; exact b1, by rw [he 1 (by omega)]; exact b2, ⟨x, hx, by rw [he 2 (by omega)]; exact hx2, fun j hij hj y hy ey => ?_⟩, by rw [he 5 (by omega)]; exact b4⟩
      by_cases ej : j = bN nb
      · subst ej
        have := (nI_eq (by omega) (by omega)).mp (ey.symm.trans n2)
        omega
      · by_cases e6 : nb = 60
        · rw [nw _ (by omega), if_pos e6, show 6 * j + 2 + 6 = 6 * (j + 1) + 2 by omega] at ey
          have hi1 := he 2 (by omega)
          rw [nw _ (by omega), if_pos e6, show 6 * i + 2 + 6 = 6 * (i + 1) + 2 by omega, hx2] at hi1
          obtain ⟨-, -, ⟨x', hx', hx2', hx3'⟩, -⟩ := hbw (i + 1) (by omega)
          have : x = x' := (nI_eq (by omega) (by omega)).mp (hi1.symm.trans hx2')
          rw [this]
          exact hx3' (j + 1) (by omega) (by omega) y hy ey
        · rw [nw _ (by omega), if_neg e6] at ey
          have hi1 := he 2 (by omega)
          rw [nw _ (by omega), if_neg e6, hx2] at hi1
          obtain ⟨-, -, ⟨x', hx', hx2', hx3'⟩, -⟩ := hbw i (by omega)
          have : x = x' := (nI_eq (by omega) (by omega)).mp (hi1.symm.trans hx2')
          rw [this]
          exact hx3' j (by omega) (by omega) y hy ey
/-- what lies beside stays -/
def BEQ (M N : MS) : Prop := (N.2.1 6 = M.2.1 6 ∧ N.2.1 7 = M.2.1 7 ∧ N.2.1 8 = M.2.1 8 ∧ N.2.1 9 = M.2.1 9 ∧ N.2.1 10 = M.2.1 10) ∧ (N.2.1 34 = M.2.1 34 ∧ N.2.1 35 = M.2.1 35) ∧ N.2.2 36 = M.2.2 36
section SR5
variable {l : Launch} {G : GG} {M N : MS} {c c' o : Nat} {w : va_W} {zn zs zm zh zt zr zb : Nat → Nat} {Sn Ss Sm Sh St Sr Sb : MS} {fi fs : Nat → Option Nat} {pa dk : Option Nat} {ws : Nat → va_W}
theorem BS_e (h : BS G M c fi fs pa dk ws) (e : BEQ M N) : BS G N c fi fs pa dk ws := by
  obtain ⟨⟨d4, d5, d6, d7, d8⟩, ⟨d10, d11⟩, e8⟩ := e
  unfold BS IP LPt at h ⊢
  rw [d4, d5, d6, d7, d8, d10, d11, e8]
  exact h
theorem NR_nw (hS : NS N c' Sn Sm Sh St Sr Sb) (hB : BS G M c fi fs pa dk ws) (e : BEQ M N) (hc : c ≤ c') : NR G N c' (zn 50) (cW G zn zs zm zh zt zr zb Sn Ss Sm Sh St Sr Sb fi fs pa dk (flat ws 9)) := ⟨zn, zs, zm, zh, zt, zr, zb, Sn, Ss, Sm, Sh, St, Sr, Sb, fi, fs, pa, dk, ws, ⟨rfl, List.Perm.refl _⟩, hS, BS_m (BS_e hB e) hc⟩
theorem NR_m (h : NR G M c o w) (hc : c ≤ c') : NR G M c' o w := by
  obtain ⟨zn, zs, zm, zh, zt, zr, zb, Sn, Ss, Sm, Sh, St, Sr, Sb, fi, fs, pa, dk, ws, hp, hS, hB⟩ := h
  exact ⟨zn, zs, zm, zh, zt, zr, zb, Sn, Ss, Sm, Sh, St, Sr, Sb, fi, fs, pa, dk, ws, hp, NS_m hS hc, BS_m hB hc⟩
end SR5
theorem BEQ_r (M : MS) : BEQ M M := ⟨⟨rfl, rfl, rfl, rfl, rfl⟩, ⟨rfl, rfl⟩, rfl⟩
theorem BEQ_hd {M N : MS} {h : Nat → Int32} (e : BEQ M N) : BEQ M (setHd N h) := e
theorem BEQ_sit {M : MS} {h : Nat → Int32} {r : Nat} {rd how ahead : Int32} : BEQ M (sitM M h r rd how ahead) := ⟨⟨rfl, rfl, rfl, rfl, rfl⟩, ⟨rfl, rfl⟩, rfl⟩
set_option maxHeartbeats 1000000 in
theorem cs_waits {l : Launch} {G : GG} {M : MS} {c o : Nat} {w : va_W} {x : Int32} (hN : NR G M c o w) (hc : c ≤ 1000) : Stc l G yX10_waits cX10_waits 2 (some .int) 7 [.int x] w o (fun v w' => v = some (.int (if isI x 201 then (f_hours (M.2.1 1) (-1) (nI 0) (tn x) (M.2.1 2)) 2016 else -2)) ∧ NR G (setHd M (if isI x 201 then (f_hours (M.2.1 1) (-1) (nI 0) (tn x) (M.2.1 2)) else (M.2.1 2))) (c + 1) o w') := by
  obtain ⟨zn, zs, zm, zh, zt, zr, zb, Sn, Ss, Sm, Sh, St, Sr, Sb, fi, fs, pa, dk, ws, ⟨rfl, hp⟩, hS, hB⟩ := hN
  obtain ⟨⟨⟨hT, hR, hU, hW⟩, hr, td, nb, ⟨hH, hhr, htd⟩, ⟨hb0, hb3, hb6⟩, hbk, hls, hbw⟩, ⟨h3, h4⟩, ⟨tn0, htn9, htn, htm, htp, hby⟩, ⟨hf2, hf3⟩, h24, h27⟩ := id hS
  refine ⟨cW G zn zs zm zh zt zr zb Sn Ss Sm Sh St Sr Sb fi fs pa dk (flat ws 9), 0, 0, _, _, _, hp, rfl, ⟨by decide, by decide, by decide⟩, K10_waits hT hR hW hH h3 h4 (by omega) (by omega), fun v w' h => ?_⟩
  obtain ⟨x0, s, hq, rfl, rfl⟩ := h
  by_cases e : isI x 201
  · obtain ⟨rfl, t1, ht1, hH1⟩ := hq.1 e
    rw [hours_cv _ (nI 0)] at hH1
    rw [if_pos e, if_pos e, hours_cv _ (nI 0)]
    obtain ⟨a, ha, rfl⟩ := isI_of e
    rw [tn_nI (by omega)] at hH1 ⊢
    exact ⟨rfl, NR_nw ⟨⟨⟨hT, hR, hU, hW⟩, hr + a, t1, nb, ⟨hH1, by omega, by omega⟩, ⟨hb0, hb3, hb6⟩, hbk, LSt_m hls (by omega), BW_m hbw (Nat.le_refl _) (by omega) (by omega)⟩, ⟨h3, h4⟩, ⟨tn0, htn9, htn, htm, htp, hby⟩, ⟨hf2, hf3⟩, h24, h27⟩ hB (BEQ_hd (BEQ_r M)) (by omega)⟩
  · obtain ⟨rfl, rfl⟩ := hq.2 e
    rw [if_neg e, if_neg e, hd_slf]
    exact ⟨rfl, NR_nw (NS_m hS (by omega)) hB (BEQ_r M) (by omega)⟩
set_option maxHeartbeats 1000000 in
theorem cs_read {l : Launch} {G : GG} {M : MS} {c o : Nat} {w : va_W} {x : Int32} {y : Int32} (hN : NR G M c o w) (hc : c ≤ 1000) : Stc l G yX10_read cX10_read 3 (some .int) 9 [.int x, .int y] w o (fun v w' => v = some (.int (if (isI x (nrw (M.2.1 1)) ∧ isP y 51) then nI (bkN M + 1) else -2)) ∧ NR G (setHd (if (isI x (nrw (M.2.1 1)) ∧ isP y 51) then sitM M (f_readsN (M.2.1 1) (-1) (nI 0) (tn x) (tn y) (M.2.1 2)) (tn x) y (nI 0) (f_ones (f_slips (M.2.1 1) (M.2.1 2) (tn x)) 12) else M) (if (isI x (nrw (M.2.1 1)) ∧ isP y 51) then (f_readsN (M.2.1 1) (-1) (nI 0) (tn x) (tn y) (M.2.1 2)) else (M.2.1 2))) (c + 1) o w') := by
  obtain ⟨zn, zs, zm, zh, zt, zr, zb, Sn, Ss, Sm, Sh, St, Sr, Sb, fi, fs, pa, dk, ws, ⟨rfl, hp⟩, hS, hB⟩ := hN
  obtain ⟨⟨⟨hT, hR, hU, hW⟩, hr, td, nb, ⟨hH, hhr, htd⟩, ⟨hb0, hb3, hb6⟩, hbk, hls, hbw⟩, ⟨h3, h4⟩, ⟨tn0, htn9, htn, htm, htp, hby⟩, ⟨hf2, hf3⟩, h24, h27⟩ := id hS
  refine ⟨cW G zn zs zm zh zt zr zb Sn Ss Sm Sh St Sr Sb fi fs pa dk (flat ws 9), 0, 0, _, _, _, hp, rfl, ⟨by decide, by decide, by decide⟩, K10_read hT hR hW hH h3 h4 (by omega) (by omega) hb0 hb6, fun v w' h => ?_⟩
  obtain ⟨x0, s, hq, rfl, rfl⟩ := h
  by_cases e : (isI x (nrw (M.2.1 1)) ∧ isP y 51)
  · obtain ⟨rfl, hH1, hs2, hBA⟩ := hq.1 e
    rw [readsN_cv _ (nI 0)] at hH1 hBA
    rw [if_pos e, if_pos e, if_pos e, bkN_b hb3 hb6]
    obtain ⟨r, hrw, rfl⟩ := isI_of e.1
    obtain ⟨k, hk1, hk2, rfl⟩ := isP_of e.2 (by omega)
    have h12 := hW.2.2.1.2
    rw [tn_nI (by omega), tn_nI (by omega)] at hH1 hBA
    rw [tn_nI (by omega)] at hs2
    rw [tn_nI (by omega), tn_nI (by omega)]
    have hq := sit_ST (ow := 0) ⟨hT, hR, hU, hW⟩ hH1 hb3 hb6 hbk hls hbw hrw (by omega) rfl (by omega) rfl hBA (bh := 4000 * c) (bt := 1000 * c + 50) (by omega) (by omega) (by omega) (by omega)
    rw [← hs2] at hq
    exact ⟨rfl, NR_nw ⟨ST_m hq (by omega) (by omega) (by omega), ⟨h3, h4⟩, ⟨tn0, htn9, htn, htm, htp, hby⟩, ⟨hf2, hf3⟩, h24, h27⟩ hB (BEQ_hd BEQ_sit) (by omega)⟩
  · obtain ⟨rfl, rfl⟩ := hq.2 e
    rw [if_neg e, if_neg e, if_neg e, hd_slf]
    exact ⟨rfl, NR_nw (NS_m hS (by omega)) hB (BEQ_r M) (by omega)⟩
set_option maxHeartbeats 1000000 in
theorem cs_learn {l : Launch} {G : GG} {M : MS} {c o : Nat} {w : va_W} {x : Int32} (hN : NR G M c o w) (hc : c ≤ 1000) : Stc l G yX10_learn cX10_learn 2 (some .int) 9 [.int x] w o (fun v w' => v = some (.int (if isI x (nrw (M.2.1 1)) then (f_lrn (M.2.1 1) (-1) (nI 0) (tn x) 40 1 0 (M.2.1 2)).1 else -2)) ∧ NR G (setHd (if isI x (nrw (M.2.1 1)) then sitM M (f_lrn (M.2.1 1) (-1) (nI 0) (tn x) 40 1 0 (M.2.1 2)).2 (tn x) (if (f_lrn (M.2.1 1) (-1) (nI 0) (tn x) 40 1 0 (M.2.1 2)).1 = -1 then nI 40 else (f_lrn (M.2.1 1) (-1) (nI 0) (tn x) 40 1 0 (M.2.1 2)).1) (if (f_lrn (M.2.1 1) (-1) (nI 0) (tn x) 40 1 0 (M.2.1 2)).1 = -1 then nI 2 else nI 1) (f_ones (f_slips (M.2.1 1) (M.2.1 2) (tn x)) 12) else M) (if isI x (nrw (M.2.1 1)) then (f_lrn (M.2.1 1) (-1) (nI 0) (tn x) 40 1 0 (M.2.1 2)).2 else (M.2.1 2))) (c + 1) o w') := by
  obtain ⟨zn, zs, zm, zh, zt, zr, zb, Sn, Ss, Sm, Sh, St, Sr, Sb, fi, fs, pa, dk, ws, ⟨rfl, hp⟩, hS, hB⟩ := hN
  obtain ⟨⟨⟨hT, hR, hU, hW⟩, hr, td, nb, ⟨hH, hhr, htd⟩, ⟨hb0, hb3, hb6⟩, hbk, hls, hbw⟩, ⟨h3, h4⟩, ⟨tn0, htn9, htn, htm, htp, hby⟩, ⟨hf2, hf3⟩, h24, h27⟩ := id hS
  refine ⟨cW G zn zs zm zh zt zr zb Sn Ss Sm Sh St Sr Sb fi fs pa dk (flat ws 9), 0, 0, _, _, _, hp, rfl, ⟨by decide, by decide, by decide⟩, K10_learn hT hR hW hH h3 h4 (by omega) (by omega) hb0 hb6, fun v w' h => ?_⟩
  obtain ⟨x0, s, hq, rfl, rfl⟩ := h
  by_cases e : isI x (nrw (M.2.1 1))
  · obtain ⟨rfl, ⟨t1, ht1, hH1⟩, hs2, hBA⟩ := hq.1 e
    rw [lrn_cv _ (nI 0)] at hH1 hBA hs2 ⊢
    rw [if_pos e, if_pos e, if_pos e]
    obtain ⟨r, hrw, rfl⟩ := isI_of e
    have h12 := hW.2.2.1.2
    rw [tn_nI (by omega)] at hH1 hBA hs2 ⊢
    have hv := f_lrn_range (M.2.1 1) (-1) (nI 0) r 40 1 0 (M.2.1 2)
    generalize f_lrn (M.2.1 1) (-1) (nI 0) r 40 1 0 (M.2.1 2) = L at hH1 hBA hs2 hv ⊢
    have hk : ∃ k, k ≤ 50 ∧ (if L.1 = -1 then nI 40 else L.1) = nI k := by
      rcases hv with z | ⟨n, hn0, hn, z⟩
      · exact ⟨40, by omega, by rw [if_pos z]⟩
      · exact ⟨n, by omega, by rw [z, if_neg (nI_nmO (by omega))]⟩
    obtain ⟨k, hk5, hk⟩ := hk
    have ho : ∃ ow, ow ≤ 2 ∧ (if L.1 = -1 then nI 2 else nI 1) = nI ow := by
      by_cases z : L.1 = -1
      · exact ⟨2, by omega, by rw [if_pos z]⟩
      · exact ⟨1, by omega, by rw [if_neg z]⟩
    obtain ⟨ow, how2, how⟩ := ho
    have hq := sit_ST (ow := ow) ⟨hT, hR, hU, hW⟩ hH1 hb3 hb6 hbk hls hbw hrw hk5 hk how2 how hBA (bh := 4000 * c) (bt := 1000 * c + 50) (by omega) (by omega) (by omega) (by omega)
    rw [← hs2] at hq
    exact ⟨rfl, NR_nw ⟨ST_m hq (by omega) (by omega) (by omega), ⟨h3, h4⟩, ⟨tn0, htn9, htn, htm, htp, hby⟩, ⟨hf2, hf3⟩, h24, h27⟩ hB (BEQ_hd BEQ_sit) (by omega)⟩
  · obtain ⟨rfl, rfl⟩ := hq.2 e
    rw [if_neg e, if_neg e, if_neg e, hd_slf]
    exact ⟨rfl, NR_nw (NS_m hS (by omega)) hB (BEQ_r M) (by omega)⟩
set_option maxHeartbeats 1000000 in
theorem cs_forget {l : Launch} {G : GG} {M : MS} {c o : Nat} {w : va_W} (hN : NR G M c o w) (hc : c ≤ 1000) : Stc l G yX10_forget cX10_forget 3 (some .int) 4 [] w o (fun v w' => v = some (.int (f_fg (M.2.1 2) 4)) ∧ NR G (setHd (sS (sS M 3 (nI 0)) 4 (nI 0)) h00) (c + 1) o w') := by
  obtain ⟨zn, zs, zm, zh, zt, zr, zb, Sn, Ss, Sm, Sh, St, Sr, Sb, fi, fs, pa, dk, ws, ⟨rfl, hp⟩, hS, hB⟩ := hN
  obtain ⟨⟨⟨hT, hR, hU, hW⟩, hr, td, nb, ⟨hH, hhr, htd⟩, ⟨hb0, hb3, hb6⟩, hbk, hls, hbw⟩, ⟨h3, h4⟩, ⟨tn0, htn9, htn, htm, htp, hby⟩, ⟨hf2, hf3⟩, h24, h27⟩ := id hS
  refine ⟨cW G zn zs zm zh zt zr zb Sn Ss Sm Sh St Sr Sb fi fs pa dk (flat ws 9), 0, 0, _, _, _, hp, rfl, ⟨by decide, by decide, by decide⟩, K10_forget hT hR hW hH h3 h4, fun v w' h => ?_⟩
  obtain ⟨x0, ⟨s1, s2⟩, ⟨rfl, hH1, hs2⟩, rfl, rfl⟩ := h
  have hs2 : s2 = sS (sS Sb 0 (nI 0)) 1 (nI 0) := hs2
  subst hs2
  exact ⟨rfl, NR_nw ⟨⟨⟨hT, hR, hU, hW⟩, 0, 0, 0, ⟨hH1, by omega, by omega⟩, ⟨rfl, rfl, by omega⟩, fun j hj => absurd hj (by omega), Or.inl ⟨rfl, rfl⟩, fun i hi => absurd hi (Nat.not_lt_zero _)⟩, ⟨h3, h4⟩, ⟨tn0, htn9, htn, htm, htp, hby⟩, ⟨hf2, hf3⟩, h24, h27⟩ hB (BEQ_r M) (by omega)⟩
set_option maxHeartbeats 1000000 in
theorem cs_end {l : Launch} {G : GG} {M : MS} {c o : Nat} {w : va_W} {x : Int32} (hN : NR G M c o w) (hc : c ≤ 1000) : Stc l G yX10_end cX10_end 2 (some .int) 1 [.int x] w o (fun v w' => v = some (.int (if isI x (tn (M.1 12) + 1) then x else -1)) ∧ NR G (sS M 12 (if isI x (tn (M.1 12) + 1) then x else M.1 12)) (c + 1) o w') := by
  obtain ⟨zn, zs, zm, zh, zt, zr, zb, Sn, Ss, Sm, Sh, St, Sr, Sb, fi, fs, pa, dk, ws, ⟨rfl, hp⟩, hS, hB⟩ := hN
  obtain ⟨⟨⟨hT, hR, hU, hW⟩, hr, td, nb, ⟨hH, hhr, htd⟩, ⟨hb0, hb3, hb6⟩, hbk, hls, hbw⟩, ⟨h3, h4⟩, ⟨tn0, htn9, htn, htm, htp, hby⟩, ⟨hf2, hf3⟩, h24, h27⟩ := id hS
  refine ⟨cW G zn zs zm zh zt zr zb Sn Ss Sm Sh St Sr Sb fi fs pa dk (flat ws 9), 0, 0, _, _, _, hp, rfl, ⟨by decide, by decide, by decide⟩, K10_end htn htn9, fun v w' h => ?_⟩
  obtain ⟨rfl, rfl⟩ := h
  rw [htm, tn_nI (by omega)]
  refine ⟨rfl, NR_nw (M := M) ⟨ST_m hS.1 (by omega) (by omega) (by omega), ⟨h3, h4⟩, ?_, ⟨hf2, hf3⟩, h24, h27⟩ hB (BEQ_r M) (by omega)⟩
  by_cases e : isI x (tn0 + 1)
  · rw [if_pos e]
    obtain ⟨a, ha, rfl⟩ := isI_of e
    exact ⟨a, by omega, rfl, rfl, fun j hj => htp j (by omega), fun j hj => hby j (by omega)⟩
  · rw [if_neg e]
    exact ⟨tn0, htn9, rfl, rfl, htp, hby⟩
