theorem rcr_ext {wd f : Nat → Int32} {r : Nat} (h : ∀ i, i < len wd r → th f r i = th wd r i) : ∀ n, n ≤ len wd r → rcr f r n = rcr wd r n
  | 0, _ => rfl
  | n + 1, hn => by
    rw [rcr, rcr, rcr_ext h n (by omega)]
    congr 1
    unfold rci
    rw [h n (by omega)]
    by_cases e0 : n = 0
    · subst e0; rw [if_pos rfl, if_pos rfl, h 0 (by omega)]
    · rw [if_neg e0, if_neg e0]
      by_cases e1 : n = 1
      · subst e1; rw [if_pos rfl, if_pos rfl, h 0 (by omega), h 1 (by omega)]
      · rw [if_neg e1, if_neg e1, h (n - 1) (by omega), h (n - 2) (by omega)]
theorem rca_ext {wd f : Nat → Int32} : ∀ n, (∀ r, r < n → len f r = len wd r ∧ ∀ i, i < len wd r → th f r i = th wd r i) → rca f n = rca wd n
  | 0, _ => rfl
  | n + 1, h => by
    rw [rca, rca, rca_ext n (fun r hr => h r (by omega)), (h n (by omega)).1, rcr_ext (h n (by omega)).2 _ (Nat.le_refl _)]
section MK
variable {wd md : Nat → Int32} {n q : Nat}
theorem mk_2 (hq : nrw wd = q) : f_mk wd md n 2 = nI (q + 1) := by unfold f_mk; rw [hq, pk_us]
theorem mk_z (hq : nrw wd = q) : f_mk wd md n (34 + 14 * q) = nI n := by
  unfold f_mk
  rw [hq, pk_un (by omega)]
  unfold va_cpy
  rw [if_neg (by omega), pk_us]
theorem mk_i (hq : nrw wd = q) {i : Nat} (hi : i < n) : f_mk wd md n (34 + 14 * q + 1 + i) = md i := by
  unfold f_mk
  rw [hq, pk_un (by omega)]
  unfold va_cpy
  rw [if_pos (by omega)]
  congr 1; omega
theorem mk_u (hq : nrw wd = q) (hn : n ≤ 12) : f_mk wd md n (34 + 14 * q + 1 + 12) = nI 0 := by
  unfold f_mk
  rw [hq, pk_un (by omega)]
  unfold va_cpy
  rw [if_neg (by omega), pk_un (by omega)]
  unfold zf
  rw [if_pos (by omega)]
theorem mk_o (hq : nrw wd = q) (hn : n ≤ 12) {a : Nat} (h2 : ¬ a = 2) (ha : a < 34 + 14 * q ∨ 34 + 14 * q + 14 ≤ a) : f_mk wd md n a = wd a := by
  unfold f_mk
  rw [hq, pk_un h2]
  unfold va_cpy
  rw [if_neg (by omega), pk_un (by omega)]
  unfold zf
  rw [if_neg (by omega)]
end MK
/-- a ROW more in the class and in the reference -/
theorem TG_row {wd md md' : Nat → Int32} {St Sr Sr' : MS} {n q : Nat} (hG : TG wd St Sr) (hq : nrw wd = q) (hq12 : q < 12) (hRN : RN Sr Sr' q n md) (h2 : 2 ≤ n) (h12 : n ≤ 12) (he : ∀ i, i < n → md i = md' i) (hth : ∀ i, i < n → ∃ u, u < nth wd ∧ md' i = nI u) : TG (f_mk wd md' n) St Sr' := by
  obtain ⟨hT, hR, hU, hW⟩ := hG
  obtain ⟨⟨⟨b1, b2⟩, b3, b4, b5, b6, b7⟩, b8⟩ := hRN
  have f2 := mk_2 (md := md') (n := n) hq
  have fz := mk_z (md := md') (n := n) hq
  have fi := fun i (hi : i < n) => mk_i (md := md') (n := n) hq hi
  have fu := mk_u (md := md') (n := n) hq h12
  have hv : ∀ a, ¬ a = 2 → (a < 34 + 14 * q ∨ 34 + 14 * q + 14 ≤ a) → f_mk wd md' n a = wd a := fun a h2 ha => mk_o hq h12 h2 ha
  generalize f_mk wd md' n = f at f2 fz fi fu hv ⊢
  have hn1 : nth f = nth wd := by unfold nth; rw [hv 1 (by omega) (by omega)]
  have hr1 : nrw f = q + 1 := by unfold nrw; rw [f2, tn_nI (by omega)]
  have hlq : len f q = n := by unfold len; rw [fz, tn_nI (by omega)]
  have hl : ∀ r, r < q → len f r = len wd r := fun r hr => by unfold len; rw [hv _ (by omega) (by omega)]
  have hL2 : TL St f := TL_ext (fun a ha => hv a (by omega) (by omega)) rfl rfl rfl rfl rfl (TT_L hT)
  have h24 := hW.2.1.2
  obtain ⟨⟨t1, t2, t3⟩, t4, t5, -, -, t6⟩ := hT
  refine ⟨⟨⟨by rw [hv 1 (by omega) (by omega)]; exact t1, by rw [hv 0 (by omega) (by omega)]; exact t2, by rw [hv 4 (by omega) (by omega)]; exact t3⟩, fun a ha => ?_, fun s hs => by rw [hv _ (by omega) (by omega)]; exact t5 s hs, hL2.1, hL2.2, by rw [hv 4 (by omega) (by omega)]; exact t6⟩, ⟨by rw [b8, f2], fun r hr => ?_⟩, ⟨?_, fun r hr => ?_⟩, ⟨WL_ext (fun a g1 g2 => hv a (by omega) (by omega)) hW.1, ⟨by rw [hn1, hv 1 (by omega) (by omega)]; exact hW.2.1.1, by omega⟩, ⟨by rw [hr1]; exact f2, by omega⟩, fun r hr => ?_⟩⟩
  · rw [hn1] at ha
    rw [hv _ (by omega) (by omega)]; exact t4 a ha
  · rw [hr1] at hr
    by_cases e : r = q
    · subst e
      refine ⟨b5.trans fz.symm, fun t ht => ?_⟩
      rw [hlq] at ht
      rw [fi t ht, ← he t ht]
      exact b7 t ht
    · have hlt : r < q := by omega
      have hh := hR.2 r (by omega)
      have hlen := (WF_len hW (r := r) (by omega)).2.1
      refine ⟨?_, fun t ht => ?_⟩
      · rw [show Sr'.2.1 2 r = Sr.2.1 2 r from (b3 r hlt).1, hv _ (by omega) (by omega)]; exact hh.1
      · rw [hl r hlt] at ht
        rw [show Sr'.2.1 4 (12 * r + t) = Sr.2.1 4 (12 * r + t) from b4 _ (by omega), hv _ (by omega) (by omega)]; exact hh.2 t ht
  · rw [show Sr'.1 1 = Sr.1 1 from b2, hv 9 (by omega) (by omega)]; exact hU.1
  · rw [hr1] at hr
    by_cases e : r = q
    · subst e; rw [show Sr'.2.1 3 r = nI 0 from b6, fu]
    · rw [show Sr'.2.1 3 r = Sr.2.1 3 r from (b3 r (by omega)).2, hv _ (by omega) (by omega)]; exact hU.2 r (by omega)
  · rw [hr1] at hr
    by_cases e : r = q
    · subst e
      rw [hlq]
      refine ⟨⟨fz, h2, h12⟩, fun t ht => ?_⟩
      obtain ⟨u, hu1, hu2⟩ := hth t ht
      have e1 : f (34 + 14 * r + 1 + t) = nI u := (fi t ht).trans hu2
      have e2 : th f r t = u := by unfold th; rw [e1, tn_nI (by omega)]
      rw [e2, hn1]; exact ⟨e1, hu1⟩
    · have hlt : r < q := by omega
      have hh := hW.2.2.2 r (by omega)
      have hlen := (WF_len hW (r := r) (by omega)).2.1
      rw [hl r hlt]
      refine ⟨by rw [hv _ (by omega) (by omega)]; exact hh.1, fun t ht => ?_⟩
      have e2 : th f r t = th wd r t := by unfold th; rw [hv _ (by omega) (by omega)]
      rw [e2, hn1, hv _ (by omega) (by omega)]; exact hh.2 t ht
theorem HR_row {wd md hd : Nat → Int32} {Sh : MS} {n q hr td : Nat} (hW : WF wd) (hq : nrw wd = q) (hq12 : q < 12) (h12 : n ≤ 12) (hH : HR wd Sh hd hr td) : HR (f_mk wd md n) Sh hd hr td := by
  obtain ⟨L, g, a, b, d, e, h5⟩ := hH
  refine ⟨L, g, a, b, d, e, fun x hx => ?_⟩
  have h1 := h5 x hx
  have f2 := mk_2 (md := md) (n := n) hq
  have hr1 : nrw (f_mk wd md n) = q + 1 := by unfold nrw; rw [f2, tn_nI (by omega)]
  unfold rcl at h1 ⊢
  rw [hr1, rca, rca_ext (wd := wd) q (fun r hr => ⟨by unfold len; rw [mk_o hq h12 (by omega) (by omega)], fun i hi => by have := (WF_len hW (r := r) (by omega)).2.1; unfold th; rw [mk_o hq h12 (by omega) (by omega)]⟩), ← hq]
  exact List.mem_append.mpr (Or.inl h1)
theorem bw_i {wd md : Nat → Int32} {r : Nat} : ∀ n i, i < n → f_bw wd md r n i = wd (34 + 14 * r + 1 + (len wd r - 1 - i))
  | 0, i, h => absurd h (Nat.not_lt_zero _)
  | n + 1, i, h => by
    rw [f_bw]
    by_cases e : i = n
    · subst e; rw [pk_us]
    · rw [pk_un e]; exact bw_i n i (by omega)
theorem sh_lt {m k f t : Nat} (h : t < shC m k f) : f + t * (k + 1) < m := by
  unfold shC at h
  have h1 := (Nat.le_div_iff_mul_le (show 0 < k + 1 by omega)).mp (show t + 1 ≤ _ from h)
  rw [Nat.succ_mul] at h1
  by_cases e : f ≤ m
  · omega
  · have : m - f = 0 := by omega
    rw [this] at h1
    omega
theorem sO_i {wd md md' : Nat → Int32} {r k : Nat} : ∀ f i, i < shN (len wd r) k f → f_sO wd r k md f i = f_sO wd r k md' f i ∧ ∃ j, j < len wd r ∧ f_sO wd r k md' f i = wd (34 + 14 * r + 1 + j)
  | 0, i, h => absurd h (Nat.not_lt_zero _)
  | f + 1, i, h => by
    rw [f_sO, f_sO]
    rw [shN] at h
    have key : ∀ t, t ≤ shC (len wd r) k f → i < shN (len wd r) k f + t → f_sI wd r k f (f_sO wd r k md f) t i = f_sI wd r k f (f_sO wd r k md' f) t i ∧ ∃ j, j < len wd r ∧ f_sI wd r k f (f_sO wd r k md' f) t i = wd (34 + 14 * r + 1 + j) := by
      intro t
      induction t with
      | zero => intro _ hi; rw [f_sI, f_sI]; exact sO_i f i hi
      | succ t ih =>
        intro ht hi
        rw [f_sI, f_sI]
        by_cases e : i = shN (len wd r) k f + t
        · subst e
          rw [pk_us, pk_us]
          exact ⟨rfl, _, sh_lt (by omega), rfl⟩
        · rw [pk_un e, pk_un e]; exact ih (by omega) (by omega)
    exact key _ (Nat.le_refl _) h
theorem sh_all {m k : Nat} (hm : m < 13) (hk : k < 4) (hk1 : 1 ≤ k) : shN m k (k + 1) = m := by
  have h1 := List.all_eq_true.mp sh_end m (List.mem_range.mpr hm)
  have h2 := List.all_eq_true.mp h1 k (List.mem_range.mpr hk)
  rw [Bool.or_eq_true, decide_eq_true_eq, decide_eq_true_eq] at h2
  exact h2.resolve_right (by omega)
set_option maxHeartbeats 1000000 in
theorem cs_backward {l : Launch} {G : GG} {M : MS} {c o : Nat} {w : va_W} {x : Int32} (hN : NR G M c o w) (hc : c ≤ 1000) : Stc l G yX10_backward cX10_backward 4 (some .int) 3 [.int x] w o (fun v w' => v = some (.int (if isI x (nrw (M.2.1 1)) then (if nrw (M.2.1 1) = 12 then -3 else nI (nrw (M.2.1 1))) else -2)) ∧ NR G (aR (aR M 30 (if isI x (nrw (M.2.1 1)) then (if nrw (M.2.1 1) = 12 then M.2.1 30 else (f_bw (M.2.1 1) (M.2.1 30) (tn x) (len (M.2.1 1) (tn x)))) else M.2.1 30)) 1 (if isI x (nrw (M.2.1 1)) then (if nrw (M.2.1 1) = 12 then (M.2.1 1) else f_mk (M.2.1 1) (f_bw (M.2.1 1) (M.2.1 30) (tn x) (len (M.2.1 1) (tn x))) (len (M.2.1 1) (tn x))) else (M.2.1 1))) (c + 1) o w') := by
  obtain ⟨zn, zs, zm, zh, zt, zr, zb, Sn, Ss, Sm, Sh, St, Sr, Sb, fi, fs, pa, dk, ws, ⟨rfl, hp⟩, hS, hB⟩ := hN
  obtain ⟨⟨⟨hT, hR, hU, hW⟩, hr, td, nb, ⟨hH, hhr, htd⟩, ⟨hb0, hb3, hb6⟩, hbk, hls, hbw⟩, ⟨h3, h4⟩, ⟨tn0, htn9, htn, htm, htp, hby⟩, ⟨hf2, hf3⟩, h24, h27⟩ := id hS
  refine ⟨cW G zn zs zm zh zt zr zb Sn Ss Sm Sh St Sr Sb fi fs pa dk (flat ws 9), 0, 0, _, _, _, hp, rfl, ⟨by decide, by decide, by decide⟩, K10_backward hR hW, fun v w' h => ?_⟩
  obtain ⟨x0, s, ⟨hq1, hq2, hq3⟩, rfl, rfl⟩ := h
  have h12 := hW.2.2.1.2
  by_cases e : isI x (nrw (M.2.1 1))
  · rw [if_pos e, if_pos e, if_pos e]
    by_cases e12 : nrw (M.2.1 1) = 12
    · obtain ⟨rfl, rfl⟩ := hq2 e e12
      rw [if_pos e12, if_pos e12, if_pos e12]
      exact ⟨rfl, NR_nw (NS_m hS (by omega)) hB (BEQ_r M) (by omega)⟩
    · obtain ⟨rfl, hRN⟩ := hq1 e e12
      rw [if_neg e12, if_neg e12, if_neg e12]
      obtain ⟨r, hrw, rfl⟩ := isI_of e
      rw [tn_nI (by omega)] at hRN ⊢
      obtain ⟨l2, l12, -, -⟩ := WF_len hW hrw
      have hG2 : TG (f_mk (M.2.1 1) (f_bw (M.2.1 1) (M.2.1 30) r (len (M.2.1 1) r)) (len (M.2.1 1) r)) St s := TG_row ⟨hT, hR, hU, hW⟩ rfl (by omega) hRN l2 l12 (fun i hi => (bw_i _ i hi).symm) (fun i hi => ⟨th (M.2.1 1) r (len (M.2.1 1) r - 1 - i), WF_th hW hrw (by omega), (bw_i _ i hi).trans ((hW.2.2.2 r hrw).2 _ (by omega)).1⟩)
      have hnr : nrw (f_mk (M.2.1 1) (f_bw (M.2.1 1) (M.2.1 30) r (len (M.2.1 1) r)) (len (M.2.1 1) r)) = nrw (M.2.1 1) + 1 := by
        have f2 := mk_2 (wd := (M.2.1 1)) (md := (f_bw (M.2.1 1) (M.2.1 30) r (len (M.2.1 1) r))) (n := (len (M.2.1 1) r)) rfl
        unfold nrw at f2 ⊢; rw [f2, tn_nI (by have := hW.2.2.1.2; unfold nrw at this; omega)]
      exact ⟨rfl, NR_nw ⟨ST_m (⟨hG2, hr, td, nb, ⟨HR_row hW rfl (by omega) (by omega) hH, Nat.le_refl _, Nat.le_refl _⟩, ⟨hb0, hb3, hb6⟩, hbk, hls, BW_m hbw (by rw [hnr]; omega) (Nat.le_refl _) (by omega)⟩ : ST _ _ _ _ _ _ _ _ _ hr td (20 * c)) (by omega) (by omega) (by omega), ⟨h3, h4⟩, ⟨tn0, htn9, htn, htm, htp, hby⟩, ⟨hf2, hf3⟩, h24, h27⟩ hB (BEQ_r M) (by omega)⟩
  · obtain ⟨rfl, rfl⟩ := hq3 e
    rw [if_neg e, if_neg e, if_neg e]
    exact ⟨rfl, NR_nw (NS_m hS (by omega)) hB (BEQ_r M) (by omega)⟩
set_option maxHeartbeats 1000000 in
theorem cs_shuffled {l : Launch} {G : GG} {M : MS} {c o : Nat} {w : va_W} {x : Int32} {y : Int32} (hN : NR G M c o w) (hc : c ≤ 1000) : Stc l G yX10_shuffled cX10_shuffled 6 (some .int) 3 [.int x, .int y] w o (fun v w' => v = some (.int (if isI x (nrw (M.2.1 1)) ∧ isP y 4 then (if nrw (M.2.1 1) = 12 then -3 else nI (nrw (M.2.1 1))) else -2)) ∧ NR G (aR (aR M 30 (if isI x (nrw (M.2.1 1)) ∧ isP y 4 then (if nrw (M.2.1 1) = 12 then M.2.1 30 else (f_sO (M.2.1 1) (tn x) (tn y) (M.2.1 30) (tn y + 1))) else M.2.1 30)) 1 (if isI x (nrw (M.2.1 1)) ∧ isP y 4 then (if nrw (M.2.1 1) = 12 then (M.2.1 1) else f_mk (M.2.1 1) (f_sO (M.2.1 1) (tn x) (tn y) (M.2.1 30) (tn y + 1)) (len (M.2.1 1) (tn x))) else (M.2.1 1))) (c + 1) o w') := by
  obtain ⟨zn, zs, zm, zh, zt, zr, zb, Sn, Ss, Sm, Sh, St, Sr, Sb, fi, fs, pa, dk, ws, ⟨rfl, hp⟩, hS, hB⟩ := hN
  obtain ⟨⟨⟨hT, hR, hU, hW⟩, hr, td, nb, ⟨hH, hhr, htd⟩, ⟨hb0, hb3, hb6⟩, hbk, hls, hbw⟩, ⟨h3, h4⟩, ⟨tn0, htn9, htn, htm, htp, hby⟩, ⟨hf2, hf3⟩, h24, h27⟩ := id hS
  refine ⟨cW G zn zs zm zh zt zr zb Sn Ss Sm Sh St Sr Sb fi fs pa dk (flat ws 9), 0, 0, _, _, _, hp, rfl, ⟨by decide, by decide, by decide⟩, K10_shuffled hR hW, fun v w' h => ?_⟩
  obtain ⟨x0, s, ⟨hq1, hq2, hq3⟩, rfl, rfl⟩ := h
  have h12 := hW.2.2.1.2
  by_cases e : isI x (nrw (M.2.1 1)) ∧ isP y 4
  · rw [if_pos e, if_pos e, if_pos e]
    by_cases e12 : nrw (M.2.1 1) = 12
    · obtain ⟨rfl, rfl⟩ := hq2 e e12
      rw [if_pos e12, if_pos e12, if_pos e12]
      exact ⟨rfl, NR_nw (NS_m hS (by omega)) hB (BEQ_r M) (by omega)⟩
    · obtain ⟨rfl, hRN⟩ := hq1 e e12
      rw [if_neg e12, if_neg e12, if_neg e12]
      obtain ⟨r, hrw, rfl⟩ := isI_of e.1
      obtain ⟨k, hk1, hk4, rfl⟩ := isP_of e.2 (by omega)
      rw [tn_nI (by omega), tn_nI (by omega)] at hRN ⊢
      obtain ⟨l2, l12, -, -⟩ := WF_len hW hrw
      have hsh := sh_all (m := len (M.2.1 1) r) (by omega) hk4 hk1
      have hG2 : TG (f_mk (M.2.1 1) (f_sO (M.2.1 1) r k (M.2.1 30) (k + 1)) (len (M.2.1 1) r)) St s := TG_row ⟨hT, hR, hU, hW⟩ rfl (by omega) hRN l2 l12 (fun i hi => (sO_i (k + 1) i (by omega)).1) (fun i hi => by obtain ⟨-, j, hj, ej⟩ := sO_i (md := M.2.1 30) (md' := M.2.1 30) (wd := (M.2.1 1)) (r := r) (k := k) (k + 1) i (by omega); exact ⟨_, WF_th hW hrw hj, ej.trans ((hW.2.2.2 r hrw).2 j hj).1⟩)
      have hnr : nrw (f_mk (M.2.1 1) (f_sO (M.2.1 1) r k (M.2.1 30) (k + 1)) (len (M.2.1 1) r)) = nrw (M.2.1 1) + 1 := by
        have f2 := mk_2 (wd := (M.2.1 1)) (md := (f_sO (M.2.1 1) r k (M.2.1 30) (k + 1))) (n := (len (M.2.1 1) r)) rfl
        unfold nrw at f2 ⊢; rw [f2, tn_nI (by have := hW.2.2.1.2; unfold nrw at this; omega)]
      exact ⟨rfl, NR_nw ⟨ST_m (⟨hG2, hr, td, nb, ⟨HR_row hW rfl (by omega) (by omega) hH, Nat.le_refl _, Nat.le_refl _⟩, ⟨hb0, hb3, hb6⟩, hbk, hls, BW_m hbw (by rw [hnr]; omega) (Nat.le_refl _) (by omega)⟩ : ST _ _ _ _ _ _ _ _ _ hr td (20 * c)) (by omega) (by omega) (by omega), ⟨h3, h4⟩, ⟨tn0, htn9, htn, htm, htp, hby⟩, ⟨hf2, hf3⟩, h24, h27⟩ hB (BEQ_r M) (by omega)⟩
  · obtain ⟨rfl, rfl⟩ := hq3 e
    rw [if_neg e, if_neg e, if_neg e]
    exact ⟨rfl, NR_nw (NS_m hS (by omega)) hB (BEQ_r M) (by omega)⟩
