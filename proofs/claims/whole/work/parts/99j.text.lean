/-- what a TEXT's reading may change -/
def FX (M M' : MS) : Prop := (∀ g, (g < 14 ∨ 20 < g) → ¬ g = 22 → M'.1 g = M.1 g) ∧ (∀ f, ¬ f = 21 → ¬ f = 23 → M'.2.1 f = M.2.1 f) ∧ M'.2.2 = M.2.2
theorem FX_f {M M' : MS} (h : FT M M') : FX M M' := ⟨fun g hg _ => h.1 g hg, fun f _ _ => by rw [h.2], by rw [h.2]⟩
theorem FX_r (M : MS) : FX M M := FX_f (FT_r M)
theorem FX_t {M M' M2 : MS} (h : FX M M') (h2 : FX M' M2) : FX M M2 := ⟨fun g hg hn => (h2.1 g hg hn).trans (h.1 g hg hn), fun f h1 h3 => (h2.2.1 f h1 h3).trans (h.2.1 f h1 h3), h2.2.2.trans h.2.2⟩
theorem FX_21 {M M' : MS} {i : Nat} {v : Int32} (h : FX M M') : FX M (aS M' 21 i v) := FX_t h ⟨fun _ _ _ => rfl, fun f h1 _ => aS_n h1, rfl⟩
theorem FX_23 {M M' : MS} {i : Nat} {v : Int32} (h : FX M M') : FX M (aS M' 23 i v) := FX_t h ⟨fun _ _ _ => rfl, fun f _ h1 => aS_n h1, rfl⟩
theorem FX_22 {M M' : MS} {v : Int32} (h : FX M M') : FX M (sS M' 22 v) := FX_t h ⟨fun g _ hn => by show va_up M'.1 22 _ g = _; exact va_up_ne _ _ hn, fun _ _ _ => rfl, rfl⟩
theorem FX_ad {M M' : MS} (h : FX M M') : FX M (adM M') := FX_t h (FX_f (FT_ad M'))
theorem FX_er {M M' : MS} {k : Int32} (h : FX M M') : FX M (erM M' k) := FX_t h (FX_f (FT_er M' k))
theorem FX_nw {M M' : MS} {i : Nat} (h : FX M M') : FX M (nwM M' i) := by unfold nwM; split; exact FX_ad h; exact FX_er h
theorem FX_nm1 {M M' : MS} (h : FX M M') : FX M (nm1 M') := by unfold nm1; split; exact FX_er h; exact h
theorem FX_nm2 {M M' : MS} {lo hi : Nat} (h : FX M M') : FX M (nm2 M' lo hi) := by unfold nm2; split; exact FX_er h; exact h
theorem FX_nm {M M' : MS} {lo hi : Nat} (h : FX M M') : FX M (nmM M' lo hi) := by unfold nmM; split; exact FX_ad (FX_nm2 (FX_nm1 h)); exact FX_nm2 (FX_nm1 h)
theorem FX_rrL {M M' : MS} {q : Nat} (h : FX M M') : ∀ c, FX M (rrL M' q c)
  | 0 => h
  | c + 1 => by unfold rrL; split; exact FX_er (FX_rrL h c); exact FX_rrL h c
theorem FX_rrX {M M' : MS} {q c : Nat} (h : FX M M') : FX M (rrX M' q c) := by
  have h2 : FX M (rr2 (nm1 M')) := by unfold rr2; split; exact FX_er (FX_nm1 h); exact FX_nm1 h
  unfold rrX rr4
  split
  · exact FX_er (FX_rrL h2 c)
  · exact FX_rrL h2 c
theorem FX_rrF {M : MS} {q : Nat} : ∀ m c (M' : MS), FX M M' → FX M (rrF q m c M')
  | 0, c, M', h => h
  | m + 1, c, M', h => by
    have hy : FX M (rrY M' q c) := FX_ad (FX_21 (FX_rrX h))
    rw [rrF]
    split
    · split
      · exact FX_rrF m (c + 1) _ hy
      · exact FX_21 (FX_21 hy)
    · exact FX_rrX h
theorem FX_pr {M M' : MS} {J : Int32} {p : Nat} (h : FX M M') : FX M (prM M' J p) := by
  have h1 : FX M (pr1 M') := by unfold pr1; split; exact FX_ad h; exact h
  have h2 : FX M (pr2 M') := by unfold pr2; split; exact FX_nm h1; exact h1
  unfold prM; split
  · exact FX_21 (FX_21 (FX_21 (FX_21 h2)))
  · exact h2
theorem FX_rlF {M : MS} : ∀ F (M' : MS), FX M M' → FX M (rlF F M')
  | 0, M', h => h
  | F + 1, M', h => by
    rw [rlF]; split
    · exact h
    · exact FX_rlF F _ (FX_pr (FX_ad h))
theorem FX_rl {M M' : MS} {w p n : Nat} (h : FX M M') : FX M (rlM M' w p n) := by
  have h1 : FX M (rl1 M' w) := by unfold rl1; split; exact FX_er h; exact h
  have h2 : FX M (rl2 M' w) := by unfold rl2; split; exact FX_er h1; exact h1
  have h5 : FX M (rl5 (rl2 M' w) p) := FX_pr (FX_nw (FX_ad h2))
  unfold rlM; split
  · split
    · exact FX_21 (FX_21 (FX_rlF n _ h5))
    · exact FX_rlF n _ h5
  · exact h2
theorem FX_Y {M M' : MS} {n : Nat} (h : FX M M') : FX M (lnY M' n) := by
  unfold lnY; split
  · unfold ln1; split
    · exact FX_21 (FX_21 (FX_nm (FX_nw (FX_ad h))))
    · exact FX_nm (FX_nw (FX_ad h))
  · split
    · exact FX_rrF _ _ _ (FX_ad h)
    · split
      · exact FX_21 (FX_nm (FX_22 (FX_ad h)))
      · split
        · have he : FX M (ln4e (adM M')) := by
            unfold ln4e; split
            · exact FX_er (FX_ad h)
            · split; exact FX_ad h; exact FX_er (FX_ad h)
          unfold ln4; split
          · exact FX_21 (FX_nm (FX_ad (FX_23 he)))
          · exact he
        · exact FX_rl (FX_ad h)
theorem FX_X {M M' : MS} (h : FX M M') : FX M (lnX M') := by
  have hA : FX M (lnA M') := by unfold lnA; split; exact h; exact FX_er h
  have hB : FX M (lnB (lnA M')) := by unfold lnB; split; exact FX_er hA; exact hA
  unfold lnX lnC; split; exact FX_er hB; exact hB
theorem FX_line {M M' : MS} {n : Nat} (h : FX M M') : FX M (lineM M' n) := by
  unfold lineM; split
  · have hY := FX_Y (n := n) (FX_X h)
    have h1 : FX M (lnT1 (lnY (lnX M') n)) := by unfold lnT1; split; exact hY; exact FX_er hY
    have h2 : FX M (lnT2 (lnY (lnX M') n)) := by unfold lnT2; split; exact FX_ad h1; exact h1
    exact FX_21 h2
  · exact FX_X h
theorem FX_txL {M : MS} {n : Nat} : ∀ F (M' : MS), FX M M' → FX M (txL n F M')
  | 0, M', h => h
  | F + 1, M', h => by
    rw [txL]; split
    · exact FX_txL F _ (FX_line h)
    · exact h
theorem FX_tx (M : MS) (n : Nat) : FX (txI M) (txF M n) := FX_txL 901 _ (FX_ad (FX_r _))
theorem tx_fr (M : MS) (n : Nat) : (((txF M n).1 3 = M.1 3 ∧ (txF M n).1 4 = M.1 4) ∧ (txF M n).1 12 = nI 0 ∧ (txF M n).1 24 = M.1 24 ∧ (txF M n).1 27 = M.1 27) ∧ (∀ f, ¬ f = 21 → ¬ f = 23 → (txF M n).2.1 f = M.2.1 f) ∧ (txF M n).2.2 = M.2.2 := by
  obtain ⟨h1, h2, h3⟩ := FX_tx M n
  exact ⟨⟨⟨h1 3 (by omega) (by omega), h1 4 (by omega) (by omega)⟩, h1 12 (by omega) (by omega), h1 24 (by omega) (by omega), h1 27 (by omega) (by omega)⟩, fun f a b => (h2 f a b).trans (by show va_up (va_up M.2.1 21 h00) 23 h00 f = _; rw [va_up_ne _ _ b, va_up_ne _ _ a]), h3⟩
theorem text_NS {M Sn Sm Sh St Sr Sb Sn' Sh' St' Sr' Sb' : MS} {n c : Nat} {v : Option Value} (hS : NS M c Sn Sm Sh St Sr Sb) (hX : TXR (txF M n) v Sn Sh St Sr Sb Sn' Sh' St' Sr' Sb') : v = some (.int (txV M n)) ∧ NS (txM M n) (c + 1) Sn' Sm Sh' St' Sr' Sb' ∧ BEQ M (txM M n) := by
  obtain ⟨⟨⟨f3, f4⟩, f12, f24, f27⟩, ff, f22⟩ := tx_fr M n
  obtain ⟨⟨g1, g2, g3, g4⟩, hX⟩ := hX
  obtain ⟨hST, hm, -, -, h24, h27⟩ := hS
  rcases hX with ⟨q1, q2, q3, q4, q5, q6⟩ | ⟨q1, q2, rfl, rfl, rfl, rfl⟩
  · have eV : txV M n = (txF M n).2.1 21 2 := if_pos q1
    have eM : txM M n = txR (txF M n) := if_pos q1
    rw [eV, eM]
    have e1 : (txR (txF M n)).2.1 1 = upd ((txF M n).2.1 21) 9 ((txF M n).2.1 21 2) := by
      generalize txF M n = R
      show (aS (aR R 1 (R.2.1 21)) 1 9 (R.2.1 21 2)).2.1 1 = _
      rw [aS_at]
      have : (aR R 1 (R.2.1 21)).2.1 1 = R.2.1 21 := by
        show va_up R.2.1 1 (R.2.1 21) 1 = _
        exact va_up_self _ _ _
      rw [this]
    have e2 : (txR (txF M n)).2.1 2 = h00 := by generalize txF M n = R; rfl
    have eo : ∀ f, ¬ f = 1 → ¬ f = 2 → (txR (txF M n)).2.1 f = (txF M n).2.1 f := by
      intro f a b
      generalize txF M n = R
      show va_up (va_up (va_up R.2.1 1 _) 1 _) 2 _ f = _
      rw [va_up_ne _ _ b, va_up_ne _ _ a, va_up_ne _ _ a]
    have e22 : (txR (txF M n)).2.2 = (txF M n).2.2 := by generalize txF M n = R; rfl
    have es : ((txR (txF M n)).1 3 = nI 0 ∧ (txR (txF M n)).1 4 = nI 0) ∧ (txR (txF M n)).1 12 = (txF M n).1 12 ∧ ((txR (txF M n)).1 19 = (txF M n).1 19 ∧ (txR (txF M n)).1 20 = (txF M n).1 20) ∧ (txR (txF M n)).1 24 = (txF M n).1 24 ∧ (txR (txF M n)).1 27 = (txF M n).1 27 := by
      generalize txF M n = R
      exact ⟨⟨rfl, rfl⟩, rfl, ⟨rfl, rfl⟩, rfl, rfl⟩
    obtain ⟨⟨s3, s4⟩, s12, ⟨s19, s20⟩, s24, s27⟩ := es
    refine ⟨q2, ⟨?_, hm, ⟨0, by omega, g1, s12.trans f12, fun j hj => absurd hj (Nat.not_lt_zero _), fun j hj => absurd hj (Nat.not_lt_zero _)⟩, ⟨g2.trans s19.symm, g3.trans s20.symm⟩, s24.trans (f24.trans h24), s27.trans (f27.trans h27)⟩, ⟨⟨?_, ?_, ?_, ?_, ?_⟩, ⟨?_, ?_⟩, ?_⟩⟩
    · rw [e1, e2, s3, s4]
      refine ⟨q3, 0, 0, 0, ⟨⟨[], fun _ => 0, q4.1, fun x hx => rfl, ⟨rfl, q4.2.1⟩, ⟨rfl, q4.2.2⟩, fun x hx => absurd hx List.not_mem_nil⟩, by omega, by omega⟩, ⟨q5, rfl, by omega⟩, fun j hj => absurd hj (by omega), Or.inl ⟨q6, rfl⟩, fun i hi => absurd hi (Nat.not_lt_zero _)⟩
    all_goals first | (rw [eo _ (by decide) (by decide)]; exact ff _ (by decide) (by decide)) | rw [e22, f22]
  · have eV : txV M n = -4 := if_neg q1
    have eM : txM M n = txF M n := if_neg q1
    rw [eV, eM]
    refine ⟨q2, ⟨?_, hm, ⟨0, by omega, g1, f12, fun j hj => absurd hj (Nat.not_lt_zero _), fun j hj => absurd hj (Nat.not_lt_zero _)⟩, ⟨g2, g3⟩, f24.trans h24, f27.trans h27⟩, ⟨⟨ff _ (by decide) (by decide), ff _ (by decide) (by decide), ff _ (by decide) (by decide), ff _ (by decide) (by decide), ff _ (by decide) (by decide)⟩, ⟨ff _ (by decide) (by decide), ff _ (by decide) (by decide)⟩, by rw [f22]⟩⟩
    rw [ff 1 (by decide) (by decide), ff 2 (by decide) (by decide), ff 5 (by decide) (by decide), f3, f4]
    exact ST_m hST (by omega) (by omega) (by omega)
theorem BS_pa {G : GG} {M : MS} {c : Nat} {fi fs : Nat → Option Nat} {pa dk : Option Nat} {ws : Nat → va_W} {zp zu zv zk : Nat → Nat} {Sp Su Sv Sk : MS} (hB : BS G M c fi fs pa dk ws) : BS G M c fi fs (some (zp 50)) dk (updW ws 8 (pC G zp zu zv zk Sp Su Sv Sk)) := by
  obtain ⟨h1, h2, h3, -⟩ := hB
  refine ⟨fun k hk => by rw [updW_n (by omega)]; exact h1 k hk, fun s hs => by rw [updW_n (by omega)]; exact h2 s hs, by rw [updW_n (by omega)]; exact h3, ?_⟩
  rw [updW_s]
  exact Or.inr ⟨zp, zu, zv, zk, Sp, Su, Sv, Sk, rfl, rfl⟩
set_option maxHeartbeats 1000000 in
theorem cs_text {l : Launch} {G : GG} {M : MS} {c o : Nat} {w : va_W} (hN : NR G M c o w) (hc : c ≤ 1000) : Stc l G yX10_text cX10_text 2 (some .int) 9 [] w o (fun v w' => v = some (.int (txV M (tn (M.1 12)))) ∧ NR G (txM M (tn (M.1 12))) (c + 1) o w') := by
  obtain ⟨zn, zs, zm, zh, zt, zr, zb, Sn, Ss, Sm, Sh, St, Sr, Sb, fi, fs, pa, dk, ws, ⟨rfl, hp⟩, hS, hB⟩ := hN
  obtain ⟨⟨⟨hT, hR, hU, hW⟩, hr, td, nb, ⟨hH, hhr, htd⟩, ⟨hb0, hb3, hb6⟩, hbk, hls, hbw⟩, ⟨h3, h4⟩, ⟨tn0, htn9, htn, htm, htp, hby⟩, ⟨hf2, hf3⟩, h24, h27⟩ := id hS
  obtain ⟨L, g, hGG⟩ := id hH
  rw [htm, tn_nI (by omega)]
  have fin : ∀ (zp zu zv zk : Nat → Nat) (s : MS × MS × MS × MS) (q : MS × MS × MS × MS × MS) (v : Option Value), TXR (txF M tn0) v Sn Sh St Sr Sb q.1 q.2.1 q.2.2.1 q.2.2.2.1 q.2.2.2.2 → v = some (.int (txV M tn0)) ∧ NR G (txM M tn0) (c + 1) (zn 50) (cW G zn zs zm zh zt zr zb q.1 Ss Sm q.2.1 q.2.2.1 q.2.2.2.1 q.2.2.2.2 fi fs (some (zp 50)) dk (pC G zp zu zv zk s.1 s.2.1 s.2.2.1 s.2.2.2 ++ flat (updW ws 8 []) 9)) := by
    intro zp zu zv zk s q v hX
    obtain ⟨k1, k2, k3⟩ := text_NS hS hX
    exact ⟨k1, NR_pt (by omega) k2 (BS_pa (BS_m (BS_e hB k3) (by omega)))⟩
  rcases id hB.2.2.2 with ⟨rfl, hw8⟩ | ⟨zp, zu, zv, zk, Sp, Su, Sv, Sk, rfl, hw8⟩
  · have e8 : updW ws 8 [] = ws := by rw [← hw8]; exact updW_id
    refine ⟨(nBk zn (zs 50) G.2.1 Sn fi fs none dk ++ (sBk zs (zm 50) (zb 50) G.2.1 Ss ++ (mBk zm (zt 50) (zr 50) (zh 50) G.2.1 Sm ++ (hBk zh G.2.1 Sh ++ (tBk zt G.2.1 St ++ (rBk zr G.2.1 Sr ++ (bBk zb G.2.1 Sb ++ (flat ws 9)))))))), 17, 3316, _, _, _, hp, rfl, ⟨by decide, by decide, by decide⟩, K10_textB (M := M) htn htn9 hby htp rfl htm hGG.1, fun v w' h => ?_⟩
    obtain ⟨zp, zu, zv, zk, s, q, rfl, hX⟩ := h
    have hz := fin zp zu zv zk s q v hX
    rw [e8] at hz; exact hz
  · have hp2 := hp.trans (cW_R ((flat_pick (i := 8) (n := 9) (by omega)).trans (by rw [hw8])))
    refine ⟨(nBk zn (zs 50) G.2.1 Sn fi fs (some (zp 50)) dk ++ (sBk zs (zm 50) (zb 50) G.2.1 Ss ++ (mBk zm (zt 50) (zr 50) (zh 50) G.2.1 Sm ++ (hBk zh G.2.1 Sh ++ (tBk zt G.2.1 St ++ (rBk zr G.2.1 Sr ++ (bBk zb G.2.1 Sb ++ (pBk zp (zu 50) (zv 50) (zk 50) G.2.1 Sp ++ (tBk zu G.2.1 Su ++ (rBk zv G.2.1 Sv ++ (kBk zk G.2.1 Sk ++ (flat (updW ws 8 []) 9)))))))))))), 0, 0, _, _, _, hp2, rfl, ⟨by decide, by decide, by decide⟩, K10_textA (M := M) htn htn9 hby htp rfl htm hGG.1, fun v w' h => ?_⟩
    obtain ⟨zp, zu, zv, zk, s, q, rfl, hX⟩ := h
    exact fin zp zu zv zk s q v hX
