theorem flat_pick2 {ws : Nat → va_W} {i j n : Nat} {x : va_W} (hi : i < n) (hj : j < n) (hij : ¬ i = j) : (flat (updW ws j x) n).Perm (ws i ++ (x ++ flat (updW (updW ws i []) j []) n)) := by
  have h1 := flat_pick (ws := updW ws j x) (i := i) (n := n) hi
  rw [updW_n hij] at h1
  have e : updW (updW ws j x) i [] = updW (updW ws i []) j x := funext fun k => by
    by_cases e1 : k = i
    · subst e1; rw [updW_s, updW_n hij, updW_s]
    · rw [updW_n e1]
      by_cases e2 : k = j
      · subst e2; rw [updW_s, updW_s]
      · rw [updW_n e2, updW_n e2, updW_n e1]
  rw [e] at h1
  exact h1.trans (List.Perm.append_left _ (flat_put n hj))
theorem i64_of {y w0 : Int32} {m : Nat} (hm : m ≤ 60) (h1 : ¬ y < 0) (h2 : ¬ w0 < 0) (h3 : y.toInt64 + w0.toInt64 ≤ (nI m).toInt64) : ∃ a n, y = nI a ∧ w0 = nI n ∧ a + n ≤ m ∧ a < 2 ^ 31 ∧ n < 2 ^ 31 := by
  obtain ⟨a, ha, rfl⟩ := nI_of h1
  obtain ⟨n, hn, rfl⟩ := nI_of h2
  refine ⟨a, n, rfl, rfl, ?_, ha, hn⟩
  rw [nI_l ha, nI_l hn, nI_l (by omega), lN_add, Int64.le_iff_toInt_le, pk_lT (by omega), pk_lT (by omega)] at h3
  omega
theorem pst_ok {M Sl Sk : MS} {x y z u w0 : Int32} {ml mk : Nat} (h1 : M.2.1 34 (tn x) = nI ml) (h2 : M.2.1 34 (tn z) = nI mk) (h3 : Sl.1 1 = nI ml) (h4 : Sk.1 1 = nI mk) : ((¬ y < 0 ∧ ¬ w0 < 0 ∧ y.toInt64 + w0.toInt64 ≤ (Sl.1 1).toInt64) ∧ (¬ u < 0 ∧ ¬ w0 < 0 ∧ u.toInt64 + w0.toInt64 ≤ (Sk.1 1).toInt64)) ↔ pOk M x y z u w0 := by
  unfold pOk
  rw [h1, h2, h3, h4]
  constructor
  · rintro ⟨⟨a, b, d⟩, e, -, f⟩
    exact ⟨a, e, b, Int64.not_lt.mpr d, f⟩
  · rintro ⟨a, e, b, d, f⟩
    exact ⟨⟨a, b, Int64.not_lt.mp d⟩, e, b, f⟩
set_option maxHeartbeats 1000000 in
theorem cs_paste {l : Launch} {G : GG} {M : MS} {c o : Nat} {w : va_W} {x : Int32} {y : Int32} {z : Int32} {u : Int32} {w0 : Int32} (hN : NR G M c o w) (hc : c ≤ 1000) : Stc l G yX10_paste cX10_paste 8 (some .int) 2 [.int x, .int y, .int z, .int u, .int w0] w o (fun v w' => v = some (.int (f_ps M x y z u w0)) ∧ NR G (f_psM M x y z u w0) (c + 1) o w') := by
  obtain ⟨zn, zs, zm, zh, zt, zr, zb, Sn, Ss, Sm, Sh, St, Sr, Sb, fi, fs, pa, dk, ws, ⟨rfl, hp⟩, hS, hB⟩ := hN
  obtain ⟨⟨⟨hT, hR, hU, hW⟩, hr, td, nb, ⟨hH, hhr, htd⟩, ⟨hb0, hb3, hb6⟩, hbk, hls, hbw⟩, ⟨h3, h4⟩, ⟨tn0, htn9, htn, htm, htp, hby⟩, ⟨hf2, hf3⟩, h24, h27⟩ := id hS
  by_cases e : isI x 4 ∧ isI z 4
  · obtain ⟨s, hs, rfl⟩ := isI_of e.1
    obtain ⟨t, ht, rfl⟩ := isI_of e.2
    have hts : tn (nI s) = s := tn_nI (by omega)
    have htt : tn (nI t) = t := tn_nI (by omega)
    obtain ⟨⟨v0, hv0, hv1⟩, hv2⟩ := hB.2.1 s hs
    obtain ⟨⟨v0t, hv0t, hv1t⟩, hv2t⟩ := hB.2.1 t ht
    rcases hv2 with ⟨hfs, hwl, hm1⟩ | ⟨zl, Sl, m, q, ⟨hfs, hwl⟩, ⟨hm6, hq4⟩, ⟨hm1, hm2⟩, ⟨hl0, hl1⟩, hnum⟩
    · refine ⟨cW G zn zs zm zh zt zr zb Sn Ss Sm Sh St Sr Sb fi fs pa dk (flat ws 9), 0, 0, _, _, _, hp, rfl, ⟨by decide, by decide, by decide⟩, K10_pasteN (fun _ => by rw [hts, htt]; exact Or.inl hfs), fun v w' h => ?_⟩
      obtain ⟨rfl, rfl⟩ := h
      unfold f_ps f_psM
      rw [if_pos e, if_pos e, if_pos (by rw [hts, htt]; exact Or.inl hm1), if_neg (fun q => q.2.1 (by rw [hts, htt]; exact Or.inl hm1))]
      exact ⟨rfl, NR_nw (NS_m hS (by omega)) hB (BEQ_r M) (by omega)⟩
    · rcases hv2t with ⟨hfst, hwlt, hm1t⟩ | ⟨zk, Sk, mk, qk, ⟨hfst, hwlt⟩, ⟨hm6t, hq4t⟩, ⟨hm1t, hm2t⟩, ⟨hl0t, hl1t⟩, hnumt⟩
      · refine ⟨cW G zn zs zm zh zt zr zb Sn Ss Sm Sh St Sr Sb fi fs pa dk (flat ws 9), 0, 0, _, _, _, hp, rfl, ⟨by decide, by decide, by decide⟩, K10_pasteN (fun _ => by rw [hts, htt]; exact Or.inr hfst), fun v w' h => ?_⟩
        obtain ⟨rfl, rfl⟩ := h
        unfold f_ps f_psM
        rw [if_pos e, if_pos e, if_pos (by rw [hts, htt]; exact Or.inr hm1t), if_neg (fun q => q.2.1 (by rw [hts, htt]; exact Or.inr hm1t))]
        exact ⟨rfl, NR_nw (NS_m hS (by omega)) hB (BEQ_r M) (by omega)⟩
      · have hn1 : ¬ nI m = -1 := nI_nmO (by omega)
        have hn2 : ¬ nI mk = -1 := nI_nmO (by omega)
        have hno : ¬ (M.2.1 34 (tn (nI s)) = -1 ∨ M.2.1 34 (tn (nI t)) = -1) := by rw [hts, htt, hm1, hm1t]; exact fun q => q.elim hn1 hn2
        have hok := pst_ok (M := M) (Sl := Sl) (Sk := Sk) (x := nI s) (y := y) (z := nI t) (u := u) (w0 := w0) (by rw [hts]; exact hm1) (by rw [htt]; exact hm1t) hl1 hl1t
        have hwd : Sl.1 0 = Sk.1 0 ↔ M.2.1 35 (tn (nI s)) = M.2.1 35 (tn (nI t)) := by rw [hts, htt, hl0, hl0t, hm2, hm2t]
        -- the reference's numbers behind
        have nums : pOk M (nI s) y (nI t) u w0 → ∃ a b n, (y = nI a ∧ u = nI b ∧ w0 = nI n) ∧ a + n ≤ m ∧ b + n ≤ mk ∧ (a < 2 ^ 31 ∧ b < 2 ^ 31 ∧ n < 2 ^ 31) := by
          intro z
          obtain ⟨⟨a1, a2, a3⟩, b1, -, b3⟩ := hok.mpr z
          rw [hl1] at a3
          rw [hl1t] at b3
          obtain ⟨a, n, r1, r2, r3, r4, r5⟩ := i64_of hm6 a1 a2 a3
          obtain ⟨b, n', q1, q2, q3, q4, q5⟩ := i64_of hm6t b1 a2 b3
          have : n = n' := (nI_eq r5 q5).mp (r2.symm.trans q2)
          subst this
          exact ⟨a, b, n, ⟨r1, q1, r2⟩, r3, q3, r4, q4, r5⟩
        have refN : ∀ a b n k, va_cpy (va_cpy (M.2.2 36) (M.2.2 37) (60 * s + a) 0 n) (M.2.2 36) 0 (60 * t + b) n k = if 60 * t + b ≤ k ∧ k < 60 * t + b + n then M.2.2 36 (60 * s + a + (k - (60 * t + b))) else M.2.2 36 k := by
          intro a b n k
          unfold va_cpy
          by_cases z : 60 * t + b ≤ k ∧ k < 60 * t + b + n
          · rw [if_pos z, if_pos z, if_pos (by omega), show 60 * s + a + (0 + (k - (60 * t + b)) - 0) = 60 * s + a + (k - (60 * t + b)) by omega]
          · rw [if_neg z, if_neg z]
        by_cases est : s = t
        · subst est
          have hz : zk 50 = zl 50 := Option.some.inj (hfst.symm.trans hfs)
          have hp2 := hp.trans (cW_R ((flat_pick (i := 3 + s) (n := 9) (by omega)).trans (by rw [hwl])))
          refine ⟨(nBk zn (zs 50) G.2.1 Sn fi fs pa dk ++ (sBk zs (zm 50) (zb 50) G.2.1 Ss ++ (mBk zm (zt 50) (zr 50) (zh 50) G.2.1 Sm ++ (hBk zh G.2.1 Sh ++ (tBk zt G.2.1 St ++ (rBk zr G.2.1 Sr ++ (bBk zb G.2.1 Sb ++ (lBk zl G.2.1 Sl ++ (flat (updW ws (3 + s) []) 9))))))))), 0, 0, _, _, _, hp2, rfl, ⟨by decide, by decide, by decide⟩, K10_pasteS e.1 e.2 (by rw [hts]; exact hfs) (by rw [hts]; exact hfs) hl1 hm6 hl1 hm6, fun v w' h => ?_⟩
          obtain ⟨rfl, rfl⟩ := h
          have hok2 := pst_ok (M := M) (Sl := Sl) (Sk := Sl) (x := nI s) (y := y) (z := nI s) (u := u) (w0 := w0) (by rw [hts]; exact hm1) (by rw [hts]; exact hm1) hl1 hl1
          rw [if_pos rfl]
          unfold f_ps f_psM
          rw [if_pos e, if_neg hno, if_pos rfl]
          by_cases hp5 : pOk M (nI s) y (nI s) u w0
          · have k1 : Sl.1 0 = Sl.1 0 ∧ ((¬ y < 0 ∧ ¬ w0 < 0 ∧ y.toInt64 + w0.toInt64 ≤ (Sl.1 1).toInt64) ∧ (¬ u < 0 ∧ ¬ w0 < 0 ∧ u.toInt64 + w0.toInt64 ≤ (Sl.1 1).toInt64)) := ⟨rfl, hok2.mpr hp5⟩
            have k4 : ((isI (nI s) 4 ∧ isI (nI s) 4) ∧ ¬ (M.2.1 34 (tn (nI s)) = -1 ∨ M.2.1 34 (tn (nI s)) = -1) ∧ M.2.1 35 (tn (nI s)) = M.2.1 35 (tn (nI s)) ∧ pOk M (nI s) y (nI s) u w0) := ⟨e, hno, rfl, hp5⟩
            rw [if_pos k1, if_pos k4, if_pos k1.2, if_pos hp5]
            obtain ⟨a, b, n, ⟨rfl, rfl, rfl⟩, g1, g2, g3, g4, g5⟩ := nums hp5
            have g2 : b + n ≤ m := by have : mk = m := (nI_eq (by omega) (by omega)).mp (hm1t.symm.trans hm1); omega
            rw [hts, tn_nI g3, tn_nI g4, tn_nI g5]
            refine ⟨rfl, NR_pt (by omega) (NS_e (NS_m hS (by omega)) ⟨⟨⟨rfl, rfl⟩, rfl, ⟨rfl, rfl⟩, rfl, rfl⟩, ⟨rfl, rfl, rfl⟩, rfl⟩) (BS_sl (BS_m hB (by omega)) hs ⟨rfl, rfl, rfl, rfl, rfl⟩ (fun t _ _ => ⟨rfl, rfl, rfl⟩) (fun t' ht4 htn j hj => by rw [lR_36, refN, if_neg (by omega)]) ⟨⟨v0, hv0, hv1⟩, Or.inr ⟨zl, _, m, q, ⟨hfs, rfl⟩, ⟨hm6, hq4⟩, ⟨hm1, hm2⟩, ⟨hl0, hl1⟩, fun j hj => ?_⟩⟩)⟩
            rw [lR_2, lR_36, refN]
            unfold va_cpy
            by_cases ej : b ≤ j ∧ j < b + n
            · rw [if_pos ej, if_pos (by omega), hnum _ (by omega), show 60 * s + (a + (j - b)) = 60 * s + a + (60 * s + j - (60 * s + b)) by omega]
            · rw [if_neg ej, if_neg (by omega)]; exact hnum j hj
          · have k1 : ¬ ((¬ y < 0 ∧ ¬ w0 < 0 ∧ y.toInt64 + w0.toInt64 ≤ (Sl.1 1).toInt64) ∧ (¬ u < 0 ∧ ¬ w0 < 0 ∧ u.toInt64 + w0.toInt64 ≤ (Sl.1 1).toInt64)) := fun q => hp5 (hok2.mp q)
            have k2 : ¬ (Sl.1 0 = Sl.1 0 ∧ ((¬ y < 0 ∧ ¬ w0 < 0 ∧ y.toInt64 + w0.toInt64 ≤ (Sl.1 1).toInt64) ∧ (¬ u < 0 ∧ ¬ w0 < 0 ∧ u.toInt64 + w0.toInt64 ≤ (Sl.1 1).toInt64))) := fun q => k1 q.2
            have k4 : ¬ ((isI (nI s) 4 ∧ isI (nI s) 4) ∧ ¬ (M.2.1 34 (tn (nI s)) = -1 ∨ M.2.1 34 (tn (nI s)) = -1) ∧ M.2.1 35 (tn (nI s)) = M.2.1 35 (tn (nI s)) ∧ pOk M (nI s) y (nI s) u w0) := fun q => hp5 q.2.2.2
            rw [if_neg k2, if_neg k4, if_neg k1, if_neg hp5]
            exact ⟨rfl, NR_pt (by omega) (NS_m hS (by omega)) (BS_sl (BS_m hB (by omega)) hs ⟨rfl, rfl, rfl, rfl, rfl⟩ (fun t _ _ => ⟨rfl, rfl, rfl⟩) (fun t _ _ j hj => rfl) ⟨⟨v0, hv0, hv1⟩, Or.inr ⟨zl, Sl, m, q, ⟨hfs, rfl⟩, ⟨hm6, hq4⟩, ⟨hm1, hm2⟩, ⟨hl0, hl1⟩, hnum⟩⟩)⟩
        · have hfl := flat_pick2 (ws := ws) (i := 3 + s) (j := 3 + t) (n := 9) (x := ws (3 + t)) (by omega) (by omega) (by omega)
          rw [updW_id, hwl, hwlt] at hfl
          have hp2 := hp.trans (cW_R hfl)
          refine ⟨(nBk zn (zs 50) G.2.1 Sn fi fs pa dk ++ (sBk zs (zm 50) (zb 50) G.2.1 Ss ++ (mBk zm (zt 50) (zr 50) (zh 50) G.2.1 Sm ++ (hBk zh G.2.1 Sh ++ (tBk zt G.2.1 St ++ (rBk zr G.2.1 Sr ++ (bBk zb G.2.1 Sb ++ (lBk zl G.2.1 Sl ++ (lBk zk G.2.1 Sk ++ (flat (updW (updW ws (3 + s) []) (3 + t) []) 9)))))))))), 0, 0, _, _, _, hp2, rfl, ⟨by decide, by decide, by decide⟩, K10_pasteD e.1 e.2 (by rw [hts]; exact hfs) (by rw [htt]; exact hfst) hl1 hm6 hl1t hm6t, fun v w' h => ?_⟩
          obtain ⟨rfl, rfl⟩ := h
          have back : ∀ (N S' : MS), NS N (c + 1) Sn Sm Sh St Sr Sb → BS G N (c + 1) fi fs pa dk (updW ws (3 + t) (lBk zk G.2.1 S')) → NR G N (c + 1) (zn 50) (cW G zn zs zm zh zt zr zb Sn Ss Sm Sh St Sr Sb fi fs pa dk (lBk zl G.2.1 Sl ++ (lBk zk G.2.1 S' ++ flat (updW (updW ws (3 + s) []) (3 + t) []) 9))) := by
            intro N S' g1 g2
            have hq := flat_pick2 (ws := ws) (i := 3 + s) (j := 3 + t) (n := 9) (x := lBk zk G.2.1 S') (by omega) (by omega) (by omega)
            rw [hwl] at hq
            exact ⟨zn, zs, zm, zh, zt, zr, zb, Sn, Ss, Sm, Sh, St, Sr, Sb, fi, fs, pa, dk, updW ws (3 + t) (lBk zk G.2.1 S'), ⟨rfl, cW_R hq.symm⟩, g1, g2⟩
          have same : NR G M (c + 1) (zn 50) (cW G zn zs zm zh zt zr zb Sn Ss Sm Sh St Sr Sb fi fs pa dk (lBk zl G.2.1 Sl ++ (lBk zk G.2.1 Sk ++ flat (updW (updW ws (3 + s) []) (3 + t) []) 9))) := back M Sk (NS_m hS (by omega)) (by rw [← hwlt, updW_id]; exact BS_m hB (by omega))
          unfold f_ps f_psM
          rw [if_pos e, if_neg hno]
          by_cases hw : Sl.1 0 = Sk.1 0
          · rw [if_pos hw, if_pos (hwd.mp hw)]
            by_cases hp5 : pOk M (nI s) y (nI t) u w0
            · have k1 : Sl.1 0 = Sk.1 0 ∧ ((¬ y < 0 ∧ ¬ w0 < 0 ∧ y.toInt64 + w0.toInt64 ≤ (Sl.1 1).toInt64) ∧ (¬ u < 0 ∧ ¬ w0 < 0 ∧ u.toInt64 + w0.toInt64 ≤ (Sk.1 1).toInt64)) := ⟨hw, hok.mpr hp5⟩
              have k4 : ((isI (nI s) 4 ∧ isI (nI t) 4) ∧ ¬ (M.2.1 34 (tn (nI s)) = -1 ∨ M.2.1 34 (tn (nI t)) = -1) ∧ M.2.1 35 (tn (nI s)) = M.2.1 35 (tn (nI t)) ∧ pOk M (nI s) y (nI t) u w0) := ⟨e, hno, hwd.mp hw, hp5⟩
              rw [if_pos k1, if_pos k4, if_pos k1.2, if_pos hp5]
              obtain ⟨a, b, n, ⟨rfl, rfl, rfl⟩, g1, g2, g3, g4, g5⟩ := nums hp5
              rw [hts, htt, tn_nI g3, tn_nI g4, tn_nI g5]
              refine ⟨rfl, back _ _ (NS_e (NS_m hS (by omega)) ⟨⟨⟨rfl, rfl⟩, rfl, ⟨rfl, rfl⟩, rfl, rfl⟩, ⟨rfl, rfl, rfl⟩, rfl⟩) (BS_sl (BS_m hB (by omega)) ht ⟨rfl, rfl, rfl, rfl, rfl⟩ (fun t _ _ => ⟨rfl, rfl, rfl⟩) (fun t' ht4 htn j hj => by rw [lR_36, refN, if_neg (by omega)]) ⟨⟨v0t, hv0t, hv1t⟩, Or.inr ⟨zk, _, mk, qk, ⟨hfst, rfl⟩, ⟨hm6t, hq4t⟩, ⟨hm1t, hm2t⟩, ⟨hl0t, hl1t⟩, fun j hj => ?_⟩⟩)⟩
              rw [lR_2, lR_36, refN]
              unfold va_cpy
              by_cases ej : b ≤ j ∧ j < b + n
              · rw [if_pos ej, if_pos (by omega), hnum _ (by omega), show 60 * s + (a + (j - b)) = 60 * s + a + (60 * t + j - (60 * t + b)) by omega]
              · rw [if_neg ej, if_neg (by omega)]; exact hnumt j hj
            · have k1 : ¬ ((¬ y < 0 ∧ ¬ w0 < 0 ∧ y.toInt64 + w0.toInt64 ≤ (Sl.1 1).toInt64) ∧ (¬ u < 0 ∧ ¬ w0 < 0 ∧ u.toInt64 + w0.toInt64 ≤ (Sk.1 1).toInt64)) := fun q => hp5 (hok.mp q)
              have k2 : ¬ (Sl.1 0 = Sk.1 0 ∧ ((¬ y < 0 ∧ ¬ w0 < 0 ∧ y.toInt64 + w0.toInt64 ≤ (Sl.1 1).toInt64) ∧ (¬ u < 0 ∧ ¬ w0 < 0 ∧ u.toInt64 + w0.toInt64 ≤ (Sk.1 1).toInt64))) := fun q => k1 q.2
              have k4 : ¬ ((isI (nI s) 4 ∧ isI (nI t) 4) ∧ ¬ (M.2.1 34 (tn (nI s)) = -1 ∨ M.2.1 34 (tn (nI t)) = -1) ∧ M.2.1 35 (tn (nI s)) = M.2.1 35 (tn (nI t)) ∧ pOk M (nI s) y (nI t) u w0) := fun q => hp5 q.2.2.2
              rw [if_neg k2, if_neg k4, if_neg k1, if_neg hp5]
              exact ⟨rfl, same⟩
          · have k2 : ¬ (Sl.1 0 = Sk.1 0 ∧ ((¬ y < 0 ∧ ¬ w0 < 0 ∧ y.toInt64 + w0.toInt64 ≤ (Sl.1 1).toInt64) ∧ (¬ u < 0 ∧ ¬ w0 < 0 ∧ u.toInt64 + w0.toInt64 ≤ (Sk.1 1).toInt64))) := fun q => hw q.1
            have k4 : ¬ ((isI (nI s) 4 ∧ isI (nI t) 4) ∧ ¬ (M.2.1 34 (tn (nI s)) = -1 ∨ M.2.1 34 (tn (nI t)) = -1) ∧ M.2.1 35 (tn (nI s)) = M.2.1 35 (tn (nI t)) ∧ pOk M (nI s) y (nI t) u w0) := fun q => hw (hwd.mpr q.2.2.1)
            rw [if_neg k2, if_neg k4, if_neg hw, if_neg (fun q => hw (hwd.mpr q))]
            exact ⟨rfl, same⟩
  · refine ⟨cW G zn zs zm zh zt zr zb Sn Ss Sm Sh St Sr Sb fi fs pa dk (flat ws 9), 0, 0, _, _, _, hp, rfl, ⟨by decide, by decide, by decide⟩, K10_pasteN (fun z => absurd z e), fun v w' h => ?_⟩
    obtain ⟨rfl, rfl⟩ := h
    unfold f_ps f_psM
    rw [if_neg e, if_neg e, if_neg (fun z => e z.1)]
    exact ⟨rfl, NR_nw (NS_m hS (by omega)) hB (BEQ_r M) (by omega)⟩
