/-- how the class's and the reference's words of joining go together; the first PART of a SUM has none -/
def JN (x : Int32) (j : Nat) : Prop := x = nI (j + 1) ∨ (j = 0 ∧ x = nI 0)
theorem JN_s {x : Int32} {j m : Nat} (h : JN x j) (e : j = m) (hm : 0 < m) : x = nI (m + 1) := h.elim (fun z => e ▸ z) (fun z => absurd z.1 (by omega))
def PC (S : MS) (wd : Nat → Int32) (k : Nat) : Prop := (∃ j, j < 4 ∧ S.2.1 7 k = nI j ∧ JN (wd (220 + 3 * k)) j) ∧ ((∃ v, v ≤ 1000 ∧ wd (220 + 3 * k + 1) = nI 0 ∧ wd (220 + 3 * k + 2) = nI v ∧ S.2.1 8 k = nI v) ∨ ∃ q, 1 ≤ q ∧ q ≤ 5 ∧ wd (220 + 3 * k + 1) = nI q ∧ S.2.1 8 k = -(nI q))
abbrev iF (x : Int64) : Prop := -1000000000 ≤ x.toInt ∧ x.toInt ≤ 1000000000
theorem iF_iff (x : Int64) : (-1000000000 ≤ x ∧ x ≤ 1000000000) ↔ iF x := by
  rw [Int64.le_iff_toInt_le, Int64.le_iff_toInt_le]; exact Iff.rfl
abbrev iP (x : Int64) : Prop := 0 ≤ x.toInt ∧ x.toInt ≤ 1000000000
def N0 (x : Int64) : Prop := 0 ≤ x.toInt
theorem iP_F {x : Int64} (h : iP x) : iF x := ⟨Int.le_trans (by decide) h.1, h.2⟩
theorem hi_iff (x : Int64) : (1000000000 : Int64) < x ↔ 1000000000 < x.toInt := by
  rw [Int64.lt_iff_toInt_lt]; exact Iff.rfl
theorem lo_iff (x : Int64) : (-1000000000 : Int64) ≤ x ↔ -1000000000 ≤ x.toInt := by
  rw [Int64.le_iff_toInt_le]; exact Iff.rfl
theorem bm64 {x : Int} (h : -2000000000000000000 ≤ x ∧ x ≤ 2000000000000000000) : x.bmod (2 ^ 64) = x := Int.bmod_eq_of_le (by omega) (by omega)
theorem mul_bd {a b : Int} (ha : -1000000000 ≤ a ∧ a ≤ 1000000000) (hb : -1000000000 ≤ b ∧ b ≤ 1000000000) : -1000000000000000000 ≤ a * b ∧ a * b ≤ 1000000000000000000 := by
  have h1 : a.natAbs ≤ 1000000000 := by omega
  have h2 : b.natAbs ≤ 1000000000 := by omega
  have h3 : (a * b).natAbs ≤ 1000000000 * 1000000000 := by rw [Int.natAbs_mul]; exact Nat.mul_le_mul h1 h2
  omega
theorem N0_mul {x y : Int64} (hx : iP x) (hy : iP y) : N0 (x * y) := by
  have h := mul_bd (iP_F hx) (iP_F hy)
  unfold N0
  rw [Int64.toInt_mul, bm64 (by omega)]
  exact Int.mul_nonneg hx.1 hy.1
theorem tdiv_bd {a b : Int} (ha : -1000000000 ≤ a ∧ a ≤ 1000000000) : -1000000000 ≤ a.tdiv b ∧ a.tdiv b ≤ 1000000000 := by
  have h : (a.tdiv b).natAbs ≤ a.natAbs := by rw [Int.natAbs_tdiv]; exact Nat.div_le_self _ _
  omega
theorem N0_div {x y : Int64} (hx : iP x) (hy : iP y) : N0 (x / y) := by
  have h := tdiv_bd (b := y.toInt) (iP_F hx)
  unfold N0
  rw [Int64.toInt_div, bm64 (by omega)]
  exact Int.tdiv_nonneg hx.1 hy.1
section SumT
variable {wd hd : Nat → Int32} {has easy : Int32}
theorem ft_ge : ∀ (m k : Nat) (t t' : Int64) (k' : Nat), f_term wd hd has easy m k t = some (t', k') → k ≤ k'
  | 0, k, t, t', k', h => by unfold f_term at h; cases h; exact Nat.le_refl _
  | m + 1, k, t, t', k', h => by
    unfold f_term at h
    repeat' split at h
    all_goals first
      | (have := ft_ge m (k + 1) _ _ _ h; omega)
      | (cases h; exact Nat.le_refl _)
      | cases h
theorem fs_fuel {e : Nat} : ∀ (f g k : Nat) (s : Int64), e - k ≤ f → e - k ≤ g → f_sum wd hd has easy e f k s = f_sum wd hd has easy e g k s
  | 0, 0, k, s, _, _ => rfl
  | 0, g + 1, k, s, h1, _ => by rw [f_sum, f_sum, if_pos (by omega)]
  | f + 1, 0, k, s, _, h2 => by rw [f_sum, f_sum, if_pos (by omega)]
  | f + 1, g + 1, k, s, h1, h2 => by
    rw [f_sum, f_sum]
    by_cases z : e ≤ k
    · rw [if_pos z, if_pos z]
    · rw [if_neg z, if_neg z]
      cases hq : f_term wd hd has easy (e - (k + 1)) (k + 1) (f_part wd hd k has easy) with
      | none => rfl
      | some p =>
        obtain ⟨t, k'⟩ := p
        have := ft_ge _ _ _ _ _ hq
        dsimp only
        split
        · split
          · exact fs_fuel f g k' _ (by omega) (by omega)
          · rfl
        · split
          · exact fs_fuel f g k' _ (by omega) (by omega)
          · rfl
def sg (mn : Nat) (s t : Int64) : Int64 := if mn = 1 then s - t else s + t
/-- what a sum comes to from its part i on, with s and a term t in the making -/
def rkS (wd hd : Nat → Int32) (has easy : Int32) (e i : Nat) (s t : Int64) (mn : Nat) : Int64 := match f_term wd hd has easy (e - i) i t with
  | none => lN 0
  | some (t', k') => if iF (sg mn s t') then f_sum wd hd has easy e (e - k') k' (sg mn s t') else lN 0
theorem rk_end {e i : Nat} {s t : Int64} {mn : Nat} (h : e ≤ i) : rkS wd hd has easy e i s t mn = if iF (sg mn s t) then sg mn s t else lN 0 := by
  unfold rkS
  rw [show e - i = 0 by omega, f_term]
  dsimp only
  rw [show e - i = 0 by omega, f_sum]
theorem rk_mul {e i : Nat} {s t : Int64} {mn : Nat} (h : i < e) (hj : wd (220 + 3 * i) = nI 3) : rkS wd hd has easy e i s t mn = if iF (t * f_part wd hd i has easy) then rkS wd hd has easy e (i + 1) s (t * f_part wd hd i has easy) mn else lN 0 := by
  unfold rkS
  rw [show e - i = (e - (i + 1)) + 1 by omega, f_term, hj, if_neg (by decide), if_neg (fun q => q.1 rfl), if_pos rfl]
  by_cases z : iF (t * f_part wd hd i has easy)
  · rw [if_pos ((iF_iff _).mpr z), if_pos z]
  · rw [if_neg (fun q => z ((iF_iff _).mp q)), if_neg z]
theorem rk_div {e i : Nat} {s t : Int64} {mn : Nat} (h : i < e) (hj : wd (220 + 3 * i) = nI 4) : rkS wd hd has easy e i s t mn = if f_part wd hd i has easy = lN 0 then lN 0 else if iF (t / f_part wd hd i has easy) then rkS wd hd has easy e (i + 1) s (t / f_part wd hd i has easy) mn else lN 0 := by
  unfold rkS
  rw [show e - i = (e - (i + 1)) + 1 by omega, f_term, hj, if_neg (by decide)]
  by_cases y : f_part wd hd i has easy = lN 0
  · rw [if_pos ⟨by decide, y⟩, if_pos y]
  · rw [if_neg (fun q => y q.2), if_neg y]
    simp only [if_neg (show ¬ nI 4 = nI 3 by decide)]
    by_cases z : iF (t / f_part wd hd i has easy)
    · rw [if_pos ((iF_iff _).mpr z), if_pos z]
    · rw [if_neg (fun q => z ((iF_iff _).mp q)), if_neg z]
theorem rk_fs {e i j : Nat} {s : Int64} (h : i < e) (hj : JN (wd (220 + 3 * i)) j) (h2 : j < 2) : f_sum wd hd has easy e (e - i) i s = rkS wd hd has easy e (i + 1) s (f_part wd hd i has easy) j := by
  rw [show e - i = (e - (i + 1)) + 1 by omega, f_sum, if_neg (by omega)]
  unfold rkS
  cases hq : f_term wd hd has easy (e - (i + 1)) (i + 1) (f_part wd hd i has easy) with
  | none => rfl
  | some p =>
    obtain ⟨t', k'⟩ := p
    have hk := ft_ge _ _ _ _ _ hq
    dsimp only
    have es : (if wd (220 + 3 * i) = nI 2 then s - t' else s + t') = sg j s t' := by
      unfold sg
      rcases hj with hj | ⟨rfl, hj⟩
      · rw [hj]
        obtain rfl | rfl : j = 0 ∨ j = 1 := by omega
        · rw [if_neg (by decide), if_neg (by decide)]
        · rw [if_pos (by decide), if_pos rfl]
      · rw [hj, if_neg (by decide), if_neg (by decide)]
    rw [es]
    by_cases z : iF (sg j s t')
    · rw [if_pos ((iF_iff _).mpr z), if_pos z]
      exact fs_fuel _ _ k' _ (by omega) (by omega)
    · rw [if_neg (fun q => z ((iF_iff _).mp q)), if_neg z]
theorem rk_new {e i j : Nat} {s t : Int64} {mn : Nat} (h : i < e) (hj : JN (wd (220 + 3 * i)) j) (h2 : j < 2) : rkS wd hd has easy e i s t mn = if iF (sg mn s t) then rkS wd hd has easy e (i + 1) (sg mn s t) (f_part wd hd i has easy) j else lN 0 := by
  conv => lhs; unfold rkS
  have hlt : wd (220 + 3 * i) < nI 3 := by
    rcases hj with hj | ⟨rfl, hj⟩
    · rw [hj]; exact nI_lt (by omega) (by omega)
    · rw [hj]; decide
  rw [show e - i = (e - (i + 1)) + 1 by omega, f_term, if_pos hlt]
  dsimp only
  rw [rk_fs h hj h2]
end SumT
theorem fp_num {wd hd : Nat → Int32} {has easy : Int32} {i v : Nat} (w1 : wd (220 + 3 * i + 1) = nI 0) (w2 : wd (220 + 3 * i + 2) = nI v) : f_part wd hd i has easy = (nI v).toInt64 := by rw [f_part, w1, if_pos (by decide), w2]
theorem iP_nI {v : Nat} (h : v ≤ 1000000000) : iP (nI v).toInt64 := by unfold iP; rw [t64, nI_toInt (by omega)]; omega
/-- every PART lies within the bounds, and none below 0 -/
theorem iP_part {S : MS} {wd hd : Nat → Int32} {hs es td hr i : Nat} (h : PC S wd i) (h1 : hs ≤ 1000) (h2 : es ≤ 9) (h3 : td ≤ 1000000000) (h4 : hr ≤ 1000000000) (h5 : hd 2017 = nI td) (h6 : hd 2016 = nI hr) : iP (f_part wd hd i (nI hs) (nI es)) := by
  rcases h.2 with ⟨v, hv, w1, w2, w3⟩ | ⟨q, hq1, hq5, w1, w3⟩
  · rw [fp_num w1 w2]; exact iP_nI (by omega)
  · rw [f_part, w1]
    obtain rfl | rfl | rfl | rfl | rfl : q = 1 ∨ q = 2 ∨ q = 3 ∨ q = 4 ∨ q = 5 := by omega
    · rw [if_neg (by decide), if_pos (by decide)]; exact iP_nI (by omega)
    · rw [if_neg (by decide), if_neg (by decide), if_pos (by decide), pk_sub (by omega)]; exact iP_nI (by omega)
    · rw [if_neg (by decide), if_neg (by decide), if_neg (by decide), if_pos (by decide)]; exact iP_nI (by omega)
    · rw [if_neg (by decide), if_neg (by decide), if_neg (by decide), if_neg (by decide), if_pos (by decide), h5]; exact iP_nI h3
    · rw [if_neg (by decide), if_neg (by decide), if_neg (by decide), if_neg (by decide), if_neg (by decide), h6, nI_rem (by omega) (by omega) (by omega)]
      exact iP_nI (by have := Nat.mod_lt hr (show 24 > 0 by omega); omega)
section SSum
variable {l : Launch} {G : GG} {zt : Nat → Nat} {St : MS} {wd hd : Nat → Int32} {lw b n th hs es td hr : Nat}
set_option maxHeartbeats 4000000 in
theorem K8_sumOf (hl : lw < 12) (h5l : St.2.1 5 lw = nI b) (h6l : St.2.1 6 lw = nI (b + n)) (hbn : b + n ≤ 180) (hpc : ∀ k, b ≤ k → k < b + n → PC St wd k) (hfst : 0 < n → JN (wd (220 + 3 * b)) 0) (hth : th < 24) (he3 : St.2.1 3 th = nI es) (h1 : hs ≤ 1000) (h2 : es ≤ 9) (h3 : td ≤ 1000000000) (h4 : hr ≤ 1000000000) (h5 : hd 2017 = nI td) (h6 : hd 2016 = nI hr) : Con l G yX8_sumOf cX8_sumOf 14 (some .long) 3 0 0 [.ref (zt 50), .int (nI lw), .int (nI hs), .int (nI th), .int (nI td), .int (nI hr)] (tBk zt G.2.1 St) (pL (f_sum wd hd (nI hs) (nI es) (b + n) n b (lN 0)) (tBk zt G.2.1 St)) := by
  refine Con.mk (own := RX8) (by decide) rfl (Nat.le_of_ble_eq_true rfl) (fun X C => ?_)
  have hstart : rkS wd hd (nI hs) (nI es) (b + n) b (lN 0) (lN 0) 0 = (f_sum wd hd (nI hs) (nI es) (b + n) n b (lN 0)) := by
    by_cases z : n = 0
    · subst z; rw [rk_end (by omega), if_pos (by decide)]; exact (by decide : sg 0 (lN 0) (lN 0) = lN 0)
    · rw [rk_new (j := 0) (by omega) (hfst (by omega)) (by omega), if_pos (by decide), show sg 0 (lN 0) (lN 0) = lN 0 by decide, ← rk_fs (by omega) (hfst (by omega)) (by omega), show b + n - b = n by omega]
  have lp17 : ∀ (m : Nat) (i : Nat) (s t : Int64) (mn : Nat), b + n - i = m → b ≤ i → i ≤ b + n → iF s → iP t → mn ≤ 1 → rkS wd hd (nI hs) (nI es) (b + n) i s t mn = (f_sum wd hd (nI hs) (nI es) (b + n) n b (lN 0)) → J X 14 0 0 (tBk zt G.2.1 St) 17 [(0, .ref (zt 50)), (1, .int (nI lw)), (2, .int (nI hs)), (3, .int (nI th)), (4, .int (nI td)), (5, .int (nI hr)), (6, .long s), (8, .long t), (10, .int (nI mn)), (11, .int (nI i))] [] := by
    intro m
    induction m using Nat.strongRecOn with
    | ind m ilp17 =>
    intro i s t mn hm hbi hie0 hsF htF hmn hR
    refine j_iload 19 C dX8_sumOf_17 rfl rfl ?_
    refine j_aload_n 20 C dX8_sumOf_19 rfl rfl ?_
    refine Ltg_t6 23 C dX8_sumOf_20 rfl fl8_21 ?_
    refine j_iload_n 24 C dX8_sumOf_23 rfl rfl ?_
    refine Lta_t6 25 C dX8_sumOf_24 rfl _ (by omega) rfl ?_
    refine j_top h6l ?_
    refine j_icmp_geN 268 28 C dX8_sumOf_25 (by decide) rfl (by omega) (by omega) (fun c25 => ?_) (fun c25 => ?_)
    · skip
      refine j_iload 270 C dX8_sumOf_268 rfl rfl ?_
      refine j_if_eqN 281 273 C dX8_sumOf_270 (by decide) rfl (by omega) (fun c270 => ?_) (fun c270 => ?_)
      · have esg : sg mn s t = s + t := if_neg (by omega)
        refine j_lload 283 C dX8_sumOf_281 rfl rfl ?_
        refine j_lload 285 C dX8_sumOf_283 rfl rfl ?_
        refine j_ladd 286 C dX8_sumOf_285 rfl ?_
        refine j_lstore 288 C dX8_sumOf_286 rfl rfl rfl (by decide) ?_
        refine j_lload 290 C dX8_sumOf_288 rfl rfl ?_
        refine j_ldc2 293 C dX8_sumOf_290 rfl (v := (1000000000)) kc8_49 ?_
        refine j_lcmp 294 C dX8_sumOf_293 rfl ?_
        refine j_if_gtL 306 297 C dX8_sumOf_294 (by decide) rfl (fun c294 => ?_) (fun c294 => ?_)
        · refine j_lconst 307 C dX8_sumOf_306 rfl (v := lN 0) (by decide) ?_
          refine j_goto 312 C dX8_sumOf_307 (by decide) ?_
          exact j_lret C dX8_sumOf_312 ⟨by rw [← hR, rk_end (by omega), esg, if_neg (fun z => Int.not_lt.mpr z.2 ((hi_iff _).mp c294))], rfl⟩
        · refine j_lload 299 C dX8_sumOf_297 rfl rfl ?_
          refine j_ldc2 302 C dX8_sumOf_299 rfl (v := (-1000000000)) kc8_51 ?_
          refine j_lcmp 303 C dX8_sumOf_302 rfl ?_
          refine j_if_geL 310 306 C dX8_sumOf_303 (by decide) rfl (fun c303 => ?_) (fun c303 => ?_)
          · refine j_lload 312 C dX8_sumOf_310 rfl rfl ?_
            exact j_lret C dX8_sumOf_312 ⟨by rw [← hR, rk_end (by omega), esg, if_pos ⟨(lo_iff _).mp c303, Int.not_lt.mp (fun q => c294 ((hi_iff _).mpr q))⟩], rfl⟩
          · refine j_lconst 307 C dX8_sumOf_306 rfl (v := lN 0) (by decide) ?_
            refine j_goto 312 C dX8_sumOf_307 (by decide) ?_
            exact j_lret C dX8_sumOf_312 ⟨by rw [← hR, rk_end (by omega), esg, if_neg (fun z => c303 ((lo_iff _).mpr z.1))], rfl⟩
      · have esg : sg mn s t = s - t := if_pos (by omega)
        refine j_lload 275 C dX8_sumOf_273 rfl rfl ?_
        refine j_lload 277 C dX8_sumOf_275 rfl rfl ?_
        refine j_lsub 278 C dX8_sumOf_277 rfl ?_
        refine j_goto 286 C dX8_sumOf_278 (by decide) ?_
        refine j_lstore 288 C dX8_sumOf_286 rfl rfl rfl (by decide) ?_
        refine j_lload 290 C dX8_sumOf_288 rfl rfl ?_
        refine j_ldc2 293 C dX8_sumOf_290 rfl (v := (1000000000)) kc8_49 ?_
        refine j_lcmp 294 C dX8_sumOf_293 rfl ?_
        refine j_if_gtL 306 297 C dX8_sumOf_294 (by decide) rfl (fun c294 => ?_) (fun c294 => ?_)
        · refine j_lconst 307 C dX8_sumOf_306 rfl (v := lN 0) (by decide) ?_
          refine j_goto 312 C dX8_sumOf_307 (by decide) ?_
          exact j_lret C dX8_sumOf_312 ⟨by rw [← hR, rk_end (by omega), esg, if_neg (fun z => Int.not_lt.mpr z.2 ((hi_iff _).mp c294))], rfl⟩
        · refine j_lload 299 C dX8_sumOf_297 rfl rfl ?_
          refine j_ldc2 302 C dX8_sumOf_299 rfl (v := (-1000000000)) kc8_51 ?_
          refine j_lcmp 303 C dX8_sumOf_302 rfl ?_
          refine j_if_geL 310 306 C dX8_sumOf_303 (by decide) rfl (fun c303 => ?_) (fun c303 => ?_)
          · refine j_lload 312 C dX8_sumOf_310 rfl rfl ?_
            exact j_lret C dX8_sumOf_312 ⟨by rw [← hR, rk_end (by omega), esg, if_pos ⟨(lo_iff _).mp c303, Int.not_lt.mp (fun q => c294 ((hi_iff _).mpr q))⟩], rfl⟩
          · refine j_lconst 307 C dX8_sumOf_306 rfl (v := lN 0) (by decide) ?_
            refine j_goto 312 C dX8_sumOf_307 (by decide) ?_
            exact j_lret C dX8_sumOf_312 ⟨by rw [← hR, rk_end (by omega), esg, if_neg (fun z => c303 ((lo_iff _).mpr z.1))], rfl⟩
    · skip
      have hie : i < b + n := by omega
      have hp := hpc i (by omega) (by omega)
      obtain ⟨j, hj4, hj, hw⟩ := hp.1
      have hpF := iP_part (hs := hs) (es := es) hp h1 h2 h3 h4 h5 h6
      have g233 : ∀ (s t : Int64) (mn : Nat), N0 t → mn ≤ 1 → (iF s ∧ iF t → rkS wd hd (nI hs) (nI es) (b + n) (i + 1) s t mn = (f_sum wd hd (nI hs) (nI es) (b + n) n b (lN 0))) → (¬ (iF s ∧ iF t) → (f_sum wd hd (nI hs) (nI es) (b + n) n b (lN 0)) = lN 0) → J X 14 0 0 (tBk zt G.2.1 St) 233 [(0, .ref (zt 50)), (1, .int (nI lw)), (2, .int (nI hs)), (3, .int (nI th)), (4, .int (nI td)), (5, .int (nI hr)), (6, .long s), (8, .long t), (10, .int (nI mn)), (11, .int (nI i))] [] := by
        intro s t mn ht hmn hgo hz
        refine j_lload 235 C dX8_sumOf_233 rfl rfl ?_
        refine j_ldc2 238 C dX8_sumOf_235 rfl (v := (1000000000)) kc8_49 ?_
        refine j_lcmp 239 C dX8_sumOf_238 rfl ?_
        refine j_if_gtL 260 242 C dX8_sumOf_239 (by decide) rfl (fun c239 => ?_) (fun c239 => ?_)
        · refine j_lconst 261 C dX8_sumOf_260 rfl (v := lN 0) (by decide) ?_
          exact j_lret C dX8_sumOf_261 ⟨by rw [hz (fun z => Int.not_lt.mpr z.2.2 ((hi_iff _).mp c239))], rfl⟩
        · refine j_lload 244 C dX8_sumOf_242 rfl rfl ?_
          refine j_ldc2 247 C dX8_sumOf_244 rfl (v := (1000000000)) kc8_49 ?_
          refine j_lcmp 248 C dX8_sumOf_247 rfl ?_
          refine j_if_gtL 260 251 C dX8_sumOf_248 (by decide) rfl (fun c248 => ?_) (fun c248 => ?_)
          · refine j_lconst 261 C dX8_sumOf_260 rfl (v := lN 0) (by decide) ?_
            exact j_lret C dX8_sumOf_261 ⟨by rw [hz (fun z => Int.not_lt.mpr z.1.2 ((hi_iff _).mp c248))], rfl⟩
          · refine j_lload 253 C dX8_sumOf_251 rfl rfl ?_
            refine j_ldc2 256 C dX8_sumOf_253 rfl (v := (-1000000000)) kc8_51 ?_
            refine j_lcmp 257 C dX8_sumOf_256 rfl ?_
            refine j_if_geL 262 260 C dX8_sumOf_257 (by decide) rfl (fun c257 => ?_) (fun c257 => ?_)
            · have htF : iF t := ⟨Int.le_trans (by decide) ht, Int.not_lt.mp (fun q => c239 ((hi_iff _).mpr q))⟩
              have hsF : iF s := ⟨(lo_iff _).mp c257, Int.not_lt.mp (fun q => c248 ((hi_iff _).mpr q))⟩
              refine j_iincN 265 (z := 1) C dX8_sumOf_262 rfl rfl rfl (by decide) ?_
              refine j_goto 17 C dX8_sumOf_265 (by decide) ?_
              exact j_weak _ (by exact ⟨rfl, rfl, rfl, rfl, rfl, rfl, rfl, rfl, rfl, rfl, trivial⟩) (ilp17 (b + n - (i + 1)) (by omega) (i + 1) s t mn rfl (by omega) (by omega) hsF ⟨ht, htF.2⟩ hmn (hgo ⟨hsF, htF⟩))
            · refine j_lconst 261 C dX8_sumOf_260 rfl (v := lN 0) (by decide) ?_
              exact j_lret C dX8_sumOf_261 ⟨by rw [hz (fun z => c257 ((lo_iff _).mpr z.1.1))], rfl⟩
      have g191 : ∀ (s t : Int64) (mn : Nat), iF s → iP t → mn ≤ 1 → j < 2 → rkS wd hd (nI hs) (nI es) (b + n) i s t mn = (f_sum wd hd (nI hs) (nI es) (b + n) n b (lN 0)) → J X 14 0 0 (tBk zt G.2.1 St) 191 [(0, .ref (zt 50)), (1, .int (nI lw)), (2, .int (nI hs)), (3, .int (nI th)), (4, .int (nI td)), (5, .int (nI hr)), (6, .long s), (8, .long t), (10, .int (nI mn)), (11, .int (nI i)), (12, .long (f_part wd hd i (nI hs) (nI es)))] [] := by
        intro s t mn hsF htF hmn hj2 hR
        refine j_iload 193 C dX8_sumOf_191 rfl rfl ?_
        refine j_if_eqN 204 196 C dX8_sumOf_193 (by decide) rfl (by omega) (fun c193 => ?_) (fun c193 => ?_)
        · have esg : sg mn s t = s + t := if_neg (by omega)
          refine j_lload 206 C dX8_sumOf_204 rfl rfl ?_
          refine j_lload 208 C dX8_sumOf_206 rfl rfl ?_
          refine j_ladd 209 C dX8_sumOf_208 rfl ?_
          refine j_lstore 211 C dX8_sumOf_209 rfl rfl rfl (by decide) ?_
          refine j_aload_n 212 C dX8_sumOf_211 rfl rfl ?_
          refine Ltg_t7 215 C dX8_sumOf_212 rfl fl8_24 ?_
          refine j_iload 217 C dX8_sumOf_215 rfl rfl ?_
          refine Lta_t7 218 C dX8_sumOf_217 rfl _ (by omega) rfl ?_
          refine j_top hj ?_
          refine j_iconst 219 C dX8_sumOf_218 rfl (v := nI 1) (by decide) ?_
          refine j_icmp_neN 226 222 C dX8_sumOf_219 (by decide) rfl (by omega) (by omega) (fun c219 => ?_) (fun c219 => ?_)
          · refine j_iconst 227 C dX8_sumOf_226 rfl (v := nI 0) (by decide) ?_
            refine j_istore 229 C dX8_sumOf_227 rfl rfl (by decide) ?_
            refine j_lload 231 C dX8_sumOf_229 rfl rfl ?_
            refine j_lstore 233 C dX8_sumOf_231 rfl rfl rfl (by decide) ?_
            exact j_weak _ (by exact ⟨rfl, rfl, rfl, rfl, rfl, rfl, rfl, rfl, rfl, rfl, trivial⟩) (g233 _ _ _ hpF.1 (by omega) (fun z => by rw [← hR, rk_new hie hw (by omega), if_pos (by rw [esg]; exact z.1), esg]; congr 1; omega) (fun z => by rw [← hR, rk_new hie hw (by omega), if_neg (by rw [esg]; exact fun q => z ⟨q, iP_F hpF⟩)]))
          · refine j_iconst 223 C dX8_sumOf_222 rfl (v := nI 1) (by decide) ?_
            refine j_goto 227 C dX8_sumOf_223 (by decide) ?_
            refine j_istore 229 C dX8_sumOf_227 rfl rfl (by decide) ?_
            refine j_lload 231 C dX8_sumOf_229 rfl rfl ?_
            refine j_lstore 233 C dX8_sumOf_231 rfl rfl rfl (by decide) ?_
            exact j_weak _ (by exact ⟨rfl, rfl, rfl, rfl, rfl, rfl, rfl, rfl, rfl, rfl, trivial⟩) (g233 _ _ _ hpF.1 (by omega) (fun z => by rw [← hR, rk_new hie hw (by omega), if_pos (by rw [esg]; exact z.1), esg]; congr 1; omega) (fun z => by rw [← hR, rk_new hie hw (by omega), if_neg (by rw [esg]; exact fun q => z ⟨q, iP_F hpF⟩)]))
        · have esg : sg mn s t = s - t := if_pos (by omega)
          refine j_lload 198 C dX8_sumOf_196 rfl rfl ?_
          refine j_lload 200 C dX8_sumOf_198 rfl rfl ?_
          refine j_lsub 201 C dX8_sumOf_200 rfl ?_
          refine j_goto 209 C dX8_sumOf_201 (by decide) ?_
          refine j_lstore 211 C dX8_sumOf_209 rfl rfl rfl (by decide) ?_
          refine j_aload_n 212 C dX8_sumOf_211 rfl rfl ?_
          refine Ltg_t7 215 C dX8_sumOf_212 rfl fl8_24 ?_
          refine j_iload 217 C dX8_sumOf_215 rfl rfl ?_
          refine Lta_t7 218 C dX8_sumOf_217 rfl _ (by omega) rfl ?_
          refine j_top hj ?_
          refine j_iconst 219 C dX8_sumOf_218 rfl (v := nI 1) (by decide) ?_
          refine j_icmp_neN 226 222 C dX8_sumOf_219 (by decide) rfl (by omega) (by omega) (fun c219 => ?_) (fun c219 => ?_)
          · refine j_iconst 227 C dX8_sumOf_226 rfl (v := nI 0) (by decide) ?_
            refine j_istore 229 C dX8_sumOf_227 rfl rfl (by decide) ?_
            refine j_lload 231 C dX8_sumOf_229 rfl rfl ?_
            refine j_lstore 233 C dX8_sumOf_231 rfl rfl rfl (by decide) ?_
            exact j_weak _ (by exact ⟨rfl, rfl, rfl, rfl, rfl, rfl, rfl, rfl, rfl, rfl, trivial⟩) (g233 _ _ _ hpF.1 (by omega) (fun z => by rw [← hR, rk_new hie hw (by omega), if_pos (by rw [esg]; exact z.1), esg]; congr 1; omega) (fun z => by rw [← hR, rk_new hie hw (by omega), if_neg (by rw [esg]; exact fun q => z ⟨q, iP_F hpF⟩)]))
          · refine j_iconst 223 C dX8_sumOf_222 rfl (v := nI 1) (by decide) ?_
            refine j_goto 227 C dX8_sumOf_223 (by decide) ?_
            refine j_istore 229 C dX8_sumOf_227 rfl rfl (by decide) ?_
            refine j_lload 231 C dX8_sumOf_229 rfl rfl ?_
            refine j_lstore 233 C dX8_sumOf_231 rfl rfl rfl (by decide) ?_
            exact j_weak _ (by exact ⟨rfl, rfl, rfl, rfl, rfl, rfl, rfl, rfl, rfl, rfl, trivial⟩) (g233 _ _ _ hpF.1 (by omega) (fun z => by rw [← hR, rk_new hie hw (by omega), if_pos (by rw [esg]; exact z.1), esg]; congr 1; omega) (fun z => by rw [← hR, rk_new hie hw (by omega), if_neg (by rw [esg]; exact fun q => z ⟨q, iP_F hpF⟩)]))
      have g149 : ∀ (s t : Int64) (mn : Nat), iF s → iP t → mn ≤ 1 → (j = 3 → ¬ (f_part wd hd i (nI hs) (nI es)) = lN 0) → rkS wd hd (nI hs) (nI es) (b + n) i s t mn = (f_sum wd hd (nI hs) (nI es) (b + n) n b (lN 0)) → J X 14 0 0 (tBk zt G.2.1 St) 149 [(0, .ref (zt 50)), (1, .int (nI lw)), (2, .int (nI hs)), (3, .int (nI th)), (4, .int (nI td)), (5, .int (nI hr)), (6, .long s), (8, .long t), (10, .int (nI mn)), (11, .int (nI i)), (12, .long (f_part wd hd i (nI hs) (nI es)))] [] := by
        intro s t mn hsF htF hmn hnz hR
        refine j_aload_n 150 C dX8_sumOf_149 rfl rfl ?_
        refine Ltg_t7 153 C dX8_sumOf_150 rfl fl8_24 ?_
        refine j_iload 155 C dX8_sumOf_153 rfl rfl ?_
        refine Lta_t7 156 C dX8_sumOf_155 rfl _ (by omega) rfl ?_
        refine j_top hj ?_
        refine j_iconst 157 C dX8_sumOf_156 rfl (v := nI 2) (by decide) ?_
        refine j_icmp_neN 170 160 C dX8_sumOf_157 (by decide) rfl (by omega) (by omega) (fun c157 => ?_) (fun c157 => ?_)
        · refine j_aload_n 171 C dX8_sumOf_170 rfl rfl ?_
          refine Ltg_t7 174 C dX8_sumOf_171 rfl fl8_24 ?_
          refine j_iload 176 C dX8_sumOf_174 rfl rfl ?_
          refine Lta_t7 177 C dX8_sumOf_176 rfl _ (by omega) rfl ?_
          refine j_top hj ?_
          refine j_iconst 178 C dX8_sumOf_177 rfl (v := nI 3) (by decide) ?_
          refine j_icmp_neN 191 181 C dX8_sumOf_178 (by decide) rfl (by omega) (by omega) (fun c178 => ?_) (fun c178 => ?_)
          · exact j_weak _ (by exact ⟨rfl, rfl, rfl, rfl, rfl, rfl, rfl, rfl, rfl, rfl, rfl, trivial⟩) (g191 s t mn hsF htF hmn (by omega) hR)
          · refine j_lload 183 C dX8_sumOf_181 rfl rfl ?_
            refine j_lload 185 C dX8_sumOf_183 rfl rfl ?_
            refine j_ldiv 186 C dX8_sumOf_185 rfl (hnz c178) ?_
            refine j_lstore 188 C dX8_sumOf_186 rfl rfl rfl (by decide) ?_
            refine j_goto 233 C dX8_sumOf_188 (by decide) ?_
            exact j_weak _ (by exact ⟨rfl, rfl, rfl, rfl, rfl, rfl, rfl, rfl, rfl, rfl, trivial⟩) (g233 _ _ _ (N0_div htF hpF) hmn (fun z => by rw [← hR, rk_div hie (JN_s hw c178 (by decide)), if_neg (hnz c178), if_pos z.2]) (fun z => by rw [← hR, rk_div hie (JN_s hw c178 (by decide)), if_neg (hnz c178), if_neg (fun q => z ⟨hsF, q⟩)]))
        · refine j_lload 162 C dX8_sumOf_160 rfl rfl ?_
          refine j_lload 164 C dX8_sumOf_162 rfl rfl ?_
          refine j_lmul 165 C dX8_sumOf_164 rfl ?_
          refine j_lstore 167 C dX8_sumOf_165 rfl rfl rfl (by decide) ?_
          refine j_goto 233 C dX8_sumOf_167 (by decide) ?_
          exact j_weak _ (by exact ⟨rfl, rfl, rfl, rfl, rfl, rfl, rfl, rfl, rfl, rfl, trivial⟩) (g233 _ _ _ (N0_mul htF hpF) hmn (fun z => by rw [← hR, rk_mul hie (JN_s hw c157 (by decide)), if_pos z.2]) (fun z => by rw [← hR, rk_mul hie (JN_s hw c157 (by decide)), if_neg (fun q => z ⟨hsF, q⟩)]))
      have g129 : ∀ (v : Int64), v = (f_part wd hd i (nI hs) (nI es)) → J X 14 0 0 (tBk zt G.2.1 St) 129 [(0, .ref (zt 50)), (1, .int (nI lw)), (2, .int (nI hs)), (3, .int (nI th)), (4, .int (nI td)), (5, .int (nI hr)), (6, .long s), (8, .long t), (10, .int (nI mn)), (11, .int (nI i)), (12, .long v)] [] := by
        intro v hv
        subst hv
        refine j_aload_n 130 C dX8_sumOf_129 rfl rfl ?_
        refine Ltg_t7 133 C dX8_sumOf_130 rfl fl8_24 ?_
        refine j_iload 135 C dX8_sumOf_133 rfl rfl ?_
        refine Lta_t7 136 C dX8_sumOf_135 rfl _ (by omega) rfl ?_
        refine j_top hj ?_
        refine j_iconst 137 C dX8_sumOf_136 rfl (v := nI 3) (by decide) ?_
        refine j_icmp_neN 149 140 C dX8_sumOf_137 (by decide) rfl (by omega) (by omega) (fun c137 => ?_) (fun c137 => ?_)
        · exact j_weak _ (by exact ⟨rfl, rfl, rfl, rfl, rfl, rfl, rfl, rfl, rfl, rfl, rfl, trivial⟩) (g149 s t mn hsF htF hmn (fun z => absurd z c137) hR)
        · refine j_lload 142 C dX8_sumOf_140 rfl rfl ?_
          refine j_lconst 143 C dX8_sumOf_142 rfl (v := lN 0) (by decide) ?_
          refine j_lcmp 144 C dX8_sumOf_143 rfl ?_
          refine j_if_neL 149 147 C dX8_sumOf_144 (by decide) rfl (fun c144 => ?_) (fun c144 => ?_)
          · exact j_weak _ (by exact ⟨rfl, rfl, rfl, rfl, rfl, rfl, rfl, rfl, rfl, rfl, rfl, trivial⟩) (g149 s t mn hsF htF hmn (fun z => c144) hR)
          · refine j_lconst 148 C dX8_sumOf_147 rfl (v := lN 0) (by decide) ?_
            exact j_lret C dX8_sumOf_148 ⟨by rw [← hR, rk_div hie (JN_s hw c137 (by decide)), if_pos c144], rfl⟩
      refine j_aload_n 29 C dX8_sumOf_28 rfl rfl ?_
      refine Ltg_t8 32 C dX8_sumOf_29 rfl fl8_27 ?_
      refine j_iload 34 C dX8_sumOf_32 rfl rfl ?_
      refine Lta_t8 35 C dX8_sumOf_34 rfl _ (by omega) rfl ?_
      refine j_i2l 36 C dX8_sumOf_35 rfl ?_
      refine j_lstore 38 C dX8_sumOf_36 rfl rfl rfl (by decide) ?_
      refine j_aload_n 39 C dX8_sumOf_38 rfl rfl ?_
      refine Ltg_t8 42 C dX8_sumOf_39 rfl fl8_27 ?_
      refine j_iload 44 C dX8_sumOf_42 rfl rfl ?_
      refine Lta_t8 45 C dX8_sumOf_44 rfl _ (by omega) rfl ?_
      rcases hp.2 with ⟨v, hv, w1, w2, w3⟩ | ⟨q, hq1, hq5, w1, w3⟩
      · refine j_top w3 ?_
        refine j_tabOut 129 C dX8_sumOf_45 (Or.inr (by rw [nI_toInt (by omega)]; omega)) (by decide) ?_
        exact j_weak _ (by rw [w3]; exact ⟨rfl, rfl, rfl, rfl, rfl, rfl, rfl, rfl, rfl, rfl, rfl, trivial⟩) (g129 _ (fp_num w1 w2).symm)
      · refine j_top w3 ?_
        obtain rfl | rfl | rfl | rfl | rfl : q = 1 ∨ q = 2 ∨ q = 3 ∨ q = 4 ∨ q = 5 := by omega
        · refine j_tabIn 80 C dX8_sumOf_45 (by decide) (by decide) rfl (by decide) ?_
          refine j_iload_n 81 C dX8_sumOf_80 rfl rfl ?_
          refine j_i2l 82 C dX8_sumOf_81 rfl ?_
          refine j_lstore 84 C dX8_sumOf_82 rfl rfl rfl (by decide) ?_
          refine j_goto 129 C dX8_sumOf_84 (by decide) ?_
          exact j_weak _ (by exact ⟨rfl, rfl, rfl, rfl, rfl, rfl, rfl, rfl, rfl, rfl, rfl, trivial⟩) (g129 _ (by rw [f_part, w1, if_neg (by decide), if_pos (by decide)]))
        · refine j_tabIn 87 C dX8_sumOf_45 (by decide) (by decide) rfl (by decide) ?_
          refine j_sipush 90 C dX8_sumOf_87 rfl (v := nI 1000) (by decide) ?_
          refine j_iload_n 91 C dX8_sumOf_90 rfl rfl ?_
          refine j_isub 92 C dX8_sumOf_91 rfl ?_
          refine j_i2l 93 C dX8_sumOf_92 rfl ?_
          refine j_lstore 95 C dX8_sumOf_93 rfl rfl rfl (by decide) ?_
          refine j_goto 129 C dX8_sumOf_95 (by decide) ?_
          exact j_weak _ (by exact ⟨rfl, rfl, rfl, rfl, rfl, rfl, rfl, rfl, rfl, rfl, rfl, trivial⟩) (g129 _ (by rw [f_part, w1, if_neg (by decide), if_neg (by decide), if_pos (by decide)]))
        · refine j_tabIn 98 C dX8_sumOf_45 (by decide) (by decide) rfl (by decide) ?_
          refine j_aload_n 99 C dX8_sumOf_98 rfl rfl ?_
          refine Ltg_t3 102 C dX8_sumOf_99 rfl fl8_9 ?_
          refine j_iload_n 103 C dX8_sumOf_102 rfl rfl ?_
          refine Lta_t3 104 C dX8_sumOf_103 rfl _ (by omega) rfl ?_
          refine j_top he3 ?_
          refine j_i2l 105 C dX8_sumOf_104 rfl ?_
          refine j_lstore 107 C dX8_sumOf_105 rfl rfl rfl (by decide) ?_
          refine j_goto 129 C dX8_sumOf_107 (by decide) ?_
          exact j_weak _ (by exact ⟨rfl, rfl, rfl, rfl, rfl, rfl, rfl, rfl, rfl, rfl, rfl, trivial⟩) (g129 _ (by rw [f_part, w1, if_neg (by decide), if_neg (by decide), if_neg (by decide), if_pos (by decide)]))
        · refine j_tabIn 110 C dX8_sumOf_45 (by decide) (by decide) rfl (by decide) ?_
          refine j_iload 112 C dX8_sumOf_110 rfl rfl ?_
          refine j_i2l 113 C dX8_sumOf_112 rfl ?_
          refine j_lstore 115 C dX8_sumOf_113 rfl rfl rfl (by decide) ?_
          refine j_goto 129 C dX8_sumOf_115 (by decide) ?_
          exact j_weak _ (by exact ⟨rfl, rfl, rfl, rfl, rfl, rfl, rfl, rfl, rfl, rfl, rfl, trivial⟩) (g129 _ (by rw [f_part, w1, if_neg (by decide), if_neg (by decide), if_neg (by decide), if_neg (by decide), if_pos (by decide), h5]))
        · refine j_tabIn 118 C dX8_sumOf_45 (by decide) (by decide) rfl (by decide) ?_
          refine j_iload 120 C dX8_sumOf_118 rfl rfl ?_
          refine j_bipush 122 C dX8_sumOf_120 rfl (v := nI 24) (by decide) ?_
          refine j_irem 123 C dX8_sumOf_122 rfl (by decide) ?_
          refine j_i2l 124 C dX8_sumOf_123 rfl ?_
          refine j_lstore 126 C dX8_sumOf_124 rfl rfl rfl (by decide) ?_
          refine j_goto 129 C dX8_sumOf_126 (by decide) ?_
          exact j_weak _ (by exact ⟨rfl, rfl, rfl, rfl, rfl, rfl, rfl, rfl, rfl, rfl, rfl, trivial⟩) (g129 _ (by rw [f_part, w1, if_neg (by decide), if_neg (by decide), if_neg (by decide), if_neg (by decide), if_neg (by decide), h6]))
  refine j_lconst 1 C dX8_sumOf_0 rfl (v := lN 0) (by decide) ?_
  refine j_lstore 3 C dX8_sumOf_1 rfl rfl rfl (by decide) ?_
  refine j_lconst 4 C dX8_sumOf_3 rfl (v := lN 0) (by decide) ?_
  refine j_lstore 6 C dX8_sumOf_4 rfl rfl rfl (by decide) ?_
  refine j_iconst 7 C dX8_sumOf_6 rfl (v := nI 0) (by decide) ?_
  refine j_istore 9 C dX8_sumOf_7 rfl rfl (by decide) ?_
  refine j_aload_n 10 C dX8_sumOf_9 rfl rfl ?_
  refine Ltg_t5 13 C dX8_sumOf_10 rfl fl8_18 ?_
  refine j_iload_n 14 C dX8_sumOf_13 rfl rfl ?_
  refine Lta_t5 15 C dX8_sumOf_14 rfl _ (by omega) rfl ?_
  refine j_top h5l ?_
  refine j_istore 17 C dX8_sumOf_15 rfl rfl (by decide) ?_
  exact j_weak _ (by exact ⟨rfl, rfl, rfl, rfl, rfl, rfl, rfl, rfl, rfl, rfl, trivial⟩) (lp17 _ b (lN 0) (lN 0) 0 rfl (Nat.le_refl _) (by omega) (by decide) (by decide) (by omega) hstart)
end SSum
