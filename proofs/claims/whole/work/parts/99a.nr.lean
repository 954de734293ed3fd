section CvB
variable {wd : Nat → Int32} (cv cv' : Int32)
theorem lh_cv {r : Nat} {h : Nat → Int32} : f_lh wd (-1) cv r h = f_lh wd (-1) cv' r h := by unfold f_lh; rw [lrn_cv cv cv']
theorem las_cv {r : Nat} : ∀ (m i : Nat) (h : Nat → Int32), f_las wd (-1) cv r m i h = f_las wd (-1) cv' r m i h
  | 0, _, _ => rfl
  | m + 1, i, h => by rw [f_las, f_las, hour_cv cv cv', las_cv m]
theorem gon_cv {r : Nat} : ∀ (m i : Nat) (h : Nat → Int32), f_gon wd (-1) cv r m i h = f_gon wd (-1) cv' r m i h
  | 0, _, _ => rfl
  | m + 1, i, h => by rw [f_gon, f_gon, hour_cv cv cv', gon_cv m, need_cv cv cv', need_cv cv cv' (hd := f_fr h)]
theorem wb_cv {r : Nat} {h : Nat → Int32} : ∀ i, f_wb wd (-1) cv r h i = f_wb wd (-1) cv' r h i
  | 0 => rfl
  | i + 1 => by rw [f_wb, f_wb, wb_cv i, hours_cv cv cv', need_cv cv cv']
theorem wo_cv {r s : Nat} {h : Nat → Int32} : f_wo wd (-1) cv r s h = f_wo wd (-1) cv' r s h := by unfold f_wo; rw [need_cv cv cv']
theorem mst_cv {r : Nat} {h : Nat → Int32} : ∀ k, f_mst wd (-1) cv r h k = f_mst wd (-1) cv' r h k
  | 0 => rfl
  | k + 1 => by rw [f_mst, f_mst, mst_cv k, wo_cv cv cv', wo_cv cv cv' (s := f_mst wd (-1) cv' r h k)]
theorem bet_cv {r r2 n : Nat} {h : Nat → Int32} : f_bet wd (-1) cv r r2 n h = f_bet wd (-1) cv' r r2 n h := by
  unfold f_bet
  rw [need_cv cv cv' (r := r2), hours_cv cv cv' (hd := h), lh_cv cv cv', hours_cv cv cv' (hd := f_lh wd (-1) cv' r2 h), need_cv cv cv' (hd := f_hours wd (-1) cv' n h), need_cv cv cv' (hd := f_hours wd (-1) cv' n (f_lh wd (-1) cv' r2 h))]
theorem eve_cv {r a n : Nat} {h : Nat → Int32} : f_eve wd (-1) cv r a n h = f_eve wd (-1) cv' r a n h := by
  unfold f_eve
  rw [need_cv cv cv' (hd := h), hours_cv cv cv' (hd := h) a, need_cv cv cv' (hd := f_hours wd (-1) cv' a h), lh_cv cv cv' (h := h), hours_cv cv cv' (hd := f_lh wd (-1) cv' r h) (a + n), need_cv cv cv' (hd := f_hours wd (-1) cv' (a + n) (f_lh wd (-1) cv' r h)), lh_cv cv cv' (h := f_hours wd (-1) cv' a h), hours_cv cv cv' (hd := f_lh wd (-1) cv' r (f_hours wd (-1) cv' a h)) n, need_cv cv cv' (hd := f_hours wd (-1) cv' n (f_lh wd (-1) cv' r (f_hours wd (-1) cv' a h)))]
theorem one_cv {r n w dd : Nat} {h : Nat → Int32} : ∀ d, f_one wd (-1) cv r n w dd h d = f_one wd (-1) cv' r n w dd h d
  | 0 => rfl
  | d + 1 => by rw [f_one, f_one, one_cv d, readsN_cv cv cv', hours_cv cv cv']
theorem day_cv {r n : Nat} {h : Nat → Int32} : f_day wd (-1) cv r n h = f_day wd (-1) cv' r n h := by unfold f_day; rw [readsN_cv cv cv', hours_cv cv cv']
theorem it_cg {f g : Nat → Int32 × Int32 → Int32 × Int32} (h : ∀ j s, f j s = g j s) : ∀ n s, f_it f n s = f_it g n s := by
  have : f = g := funext fun j => funext fun s => h j s
  intro n s; rw [this]
theorem pl_cv {r : Nat} : ∀ (d left dg : Nat) (h : Nat → Int32) (s : Int32 × Int32), f_pl wd (-1) cv r d left dg h s = f_pl wd (-1) cv' r d left dg h s
  | 0, left, dg, h, s => by rw [f_pl, f_pl]; unfold f_pl1; rw [day_cv cv cv']
  | d + 1, left, dg, h, s => by
    rw [f_pl, f_pl]
    refine it_cg (fun j s => ?_) _ _
    rw [day_cv cv cv', pl_cv d]
theorem pn_cv {h md : Nat → Int32} : ∀ r, f_pn wd (-1) cv h md r = f_pn wd (-1) cv' h md r
  | 0 => rfl
  | r + 1 => by rw [f_pn, f_pn, pn_cv r, need_cv cv cv']
theorem law_cv {hd : Nat → Int32} {what sort strength thing : Int32} : f_law wd hd (-1) cv what sort strength thing = f_law wd hd (-1) cv' what sort strength thing := by
  unfold f_law
  by_cases h : isI what 3 ∧ isI sort 4 ∧ isI strength 1001 ∧ isI thing (nth wd)
  · rw [if_pos h, if_pos h]
    obtain ⟨q, hq, rfl⟩ := isI_of h.1
    obtain ⟨s, hs, rfl⟩ := isI_of h.2.1
    rw [tn_nI (by omega), tn_nI (by omega), fc_cv cv cv']
    split <;> omega
  · rw [if_neg h, if_neg h]
end CvB
def flat (ws : Nat → va_W) : Nat → va_W
  | 0 => []
  | n + 1 => flat ws n ++ ws n
def updW (ws : Nat → va_W) (i : Nat) (x : va_W) : Nat → va_W := fun j => if j = i then x else ws j
theorem updW_s {ws : Nat → va_W} {i : Nat} {x : va_W} : updW ws i x i = x := if_pos rfl
theorem updW_n {ws : Nat → va_W} {i j : Nat} {x : va_W} (h : ¬ j = i) : updW ws i x j = ws j := if_neg h
theorem updW_id {ws : Nat → va_W} {i : Nat} : updW ws i (ws i) = ws := funext fun j => by
  by_cases e : j = i
  · subst e; exact if_pos rfl
  · exact if_neg e
theorem flat_cg {ws ws' : Nat → va_W} : ∀ n, (∀ j, j < n → ws j = ws' j) → flat ws n = flat ws' n
  | 0, _ => rfl
  | n + 1, h => by rw [flat, flat, flat_cg n (fun j hj => h j (by omega)), h n (by omega)]
theorem flat_put {ws : Nat → va_W} {i : Nat} {x : va_W} : ∀ n, i < n → (flat (updW ws i x) n).Perm (x ++ flat (updW ws i []) n)
  | 0, h => absurd h (Nat.not_lt_zero _)
  | n + 1, h => by
    rw [flat, flat]
    by_cases e : i = n
    · subst e
      rw [updW_s, updW_s, List.append_nil, flat_cg (ws := updW ws i x) (ws' := updW ws i []) i (fun j hj => by rw [updW_n (by omega), updW_n (by omega)])]
      exact List.perm_append_comm
    · rw [updW_n (fun z => e z.symm), updW_n (fun z => e z.symm), ← List.append_assoc]
      exact (flat_put n (by omega)).append_right _
theorem flat_pick {ws : Nat → va_W} {i n : Nat} (h : i < n) : (flat ws n).Perm (ws i ++ flat (updW ws i []) n) := by
  have := flat_put (ws := ws) (x := ws i) n h
  rw [updW_id] at this
  exact this
/-- the class's cells: the object and what it is now, and the rest -/
def cW (G : GG) (zn zs zm zh zt zr zb : Nat → Nat) (Sn Ss Sm Sh St Sr Sb : MS) (fi fs : Nat → Option Nat) (pa dk : Option Nat) (R : va_W) : va_W := nBk zn (zs 50) G.2.1 Sn fi fs pa dk ++ (sBk zs (zm 50) (zb 50) G.2.1 Ss ++ (mBk zm (zt 50) (zr 50) (zh 50) G.2.1 Sm ++ (hBk zh G.2.1 Sh ++ (tBk zt G.2.1 St ++ (rBk zr G.2.1 Sr ++ (bBk zb G.2.1 Sb ++ R))))))
theorem cW_R {G : GG} {zn zs zm zh zt zr zb : Nat → Nat} {Sn Ss Sm Sh St Sr Sb : MS} {fi fs : Nat → Option Nat} {pa dk : Option Nat} {R R' : va_W} (h : R.Perm R') : (cW G zn zs zm zh zt zr zb Sn Ss Sm Sh St Sr Sb fi fs pa dk R).Perm (cW G zn zs zm zh zt zr zb Sn Ss Sm Sh St Sr Sb fi fs pa dk R') := List.Perm.append_left _ (List.Perm.append_left _ (List.Perm.append_left _ (List.Perm.append_left _ (List.Perm.append_left _ (List.Perm.append_left _ (List.Perm.append_left _ h))))))
/-- the desk's cells -/
def dC (G : GG) (zd zx zy zw zv : Nat → Nat) (t0 r0 t1 r1 : Nat) (Sd Sx Sy Sw Sv : MS) (qd : Nat → Option Nat) (wq : va_W) : va_W := dBk zd (zx 50) (zw 50) G.2.1 Sd qd ++ (mBk zx t0 r0 (zy 50) G.2.1 Sx ++ (hBk zy G.2.1 Sy ++ (mBk zw t1 r1 (zv 50) G.2.1 Sw ++ (hBk zv G.2.1 Sv ++ wq))))
/-- an image's cells -/
def iC (G : GG) (ze zf zi zu zv zk : Nat → Nat) (Se Sf Si Su Sv Sk : MS) : va_W := sBk ze (zf 50) (zk 50) G.2.1 Se ++ (mBk zf (zu 50) (zv 50) (zi 50) G.2.1 Sf ++ (hBk zi G.2.1 Si ++ (tBk zu G.2.1 Su ++ (rBk zv G.2.1 Sv ++ bBk zk G.2.1 Sk))))
/-- the parser's cells -/
def pC (G : GG) (zp zu zv zk : Nat → Nat) (Sp Su Sv Sk : MS) : va_W := pBk zp (zu 50) (zv 50) (zk 50) G.2.1 Sp ++ (tBk zu G.2.1 Su ++ (rBk zv G.2.1 Sv ++ kBk zk G.2.1 Sk))
/-- a BOOK's entries -/
def BW (bk : Nat → Int32) (n nr hr : Nat) : Prop := ∀ i, i < n → (∃ r, r < nr ∧ bk (6 * i) = nI r) ∧ (∃ k, k ≤ 50 ∧ bk (6 * i + 1) = nI k) ∧ (∃ h, h ≤ hr ∧ bk (6 * i + 2) = nI h ∧ ∀ j, i ≤ j → j < n → ∀ h2, h2 ≤ hr → bk (6 * j + 2) = nI h2 → h ≤ h2) ∧ ∃ o, o ≤ 2 ∧ bk (6 * i + 5) = nI o
/-- whether entries were lost; how many -/
def LSt (x y : Int32) (c : Nat) : Prop := (x = nI 0 ∧ y = nI 0) ∨ (x = nI 1 ∧ ∃ n, 0 < n ∧ n ≤ c ∧ y = nI n)
/-- a STATE's cells and the reference's world, head, count of sittings, lost ones, book -/
def ST (wd hd : Nat → Int32) (x y : Int32) (bk : Nat → Int32) (Sh St Sr Sb : MS) (bh bt bl : Nat) : Prop := TG wd St Sr ∧ ∃ hr td nb, (HR wd Sh hd hr td ∧ hr ≤ bh ∧ td ≤ bt) ∧ (Sb.1 0 = nI nb ∧ x = nI nb ∧ nb ≤ 60) ∧ (∀ j, j < 6 * nb → Sb.2.1 2 j = bk j) ∧ LSt (Sb.1 1) y bl ∧ BW bk nb (nrw wd) hr
theorem ST_m {wd hd : Nat → Int32} {x y : Int32} {bk : Nat → Int32} {Sh St Sr Sb : MS} {bh bt bl bh' bt' bl' : Nat} (h : ST wd hd x y bk Sh St Sr Sb bh bt bl) (h1 : bh ≤ bh') (h2 : bt ≤ bt') (h3 : bl ≤ bl') : ST wd hd x y bk Sh St Sr Sb bh' bt' bl' := by
  obtain ⟨g1, hr, td, nb, ⟨a1, a2, a3⟩, b, d, e, f⟩ := h
  refine ⟨g1, hr, td, nb, ⟨a1, by omega, by omega⟩, b, d, ?_, f⟩
  rcases e with e | ⟨e1, n, e2, e3, e4⟩
  · exact Or.inl e
  · exact Or.inr ⟨e1, n, e2, by omega, e4⟩
/-- what it is now -/
def NS (M : MS) (c : Nat) (Sn Sm Sh St Sr Sb : MS) : Prop := ST (M.2.1 1) (M.2.1 2) (M.1 3) (M.1 4) (M.2.1 5) Sh St Sr Sb (4000 * c) (1000 * c) (20 * c) ∧ (Sm.1 3 = -1 ∧ Sm.1 4 = -1) ∧ (∃ n, n ≤ 900 ∧ Sn.1 1 = nI n ∧ M.1 12 = nI n ∧ (∀ j, j < n → Sn.2.1 0 j = M.2.1 11 j) ∧ ∀ j, j < n → BYT (Sn.2.1 0 j)) ∧ (Sn.1 2 = M.1 19 ∧ Sn.1 3 = M.1 20) ∧ M.1 24 = -1 ∧ M.1 27 = nI 0
/-- an image -/
def IP (G : GG) (M : MS) (c k : Nat) (f : Option Nat) (w : va_W) : Prop := (f = none ∧ w = [] ∧ M.2.1 10 k = -1) ∨ ∃ (ze zf zi zu zv zk : Nat → Nat) (Se Sf Si Su Sv Sk : MS) (wi hi bi : Nat → Int32), (f = some (ze 50) ∧ w = iC G ze zf zi zu zv zk Se Sf Si Su Sv Sk ∧ ¬ M.2.1 10 k = -1) ∧ ((∀ j, j < 1120 → M.2.1 6 (1120 * k + j) = wi j) ∧ (∀ j, j < 2018 → M.2.1 7 (2018 * k + j) = hi j) ∧ ∀ j, j < 360 → M.2.1 8 (360 * k + j) = bi j) ∧ ST wi hi (M.2.1 10 k) (M.2.1 9 k) bi Si Su Sv Sk (4000 * c) (1000 * c) (20 * c) ∧ Sf.1 3 = -1 ∧ Sf.1 4 = -1
/-- a slot -/
def LPt (G : GG) (M : MS) (s : Nat) (f : Option Nat) (w : va_W) : Prop := (∃ v, v < 4 ∧ M.2.1 35 s = nI v) ∧ ((f = none ∧ w = [] ∧ M.2.1 34 s = -1) ∨ ∃ (zl : Nat → Nat) (Sl : MS) (m q : Nat), (f = some (zl 50) ∧ w = lBk zl G.2.1 Sl) ∧ (m ≤ 60 ∧ q < 4) ∧ (M.2.1 34 s = nI m ∧ M.2.1 35 s = nI q) ∧ (Sl.1 0 = nI q ∧ Sl.1 1 = nI m) ∧ ∀ j, j < m → Sl.2.2 2 j = M.2.2 36 (60 * s + j))
def DP (G : GG) (f : Option Nat) (w : va_W) : Prop := (f = none ∧ w = []) ∨ ∃ (zd zx zy zw zv : Nat → Nat) (t0 r0 t1 r1 : Nat) (Sd Sx Sy Sw Sv : MS) (qd : Nat → Option Nat) (kk : Nat) (wq : va_W), (f = some (zd 50) ∧ w = dC G zd zx zy zw zv t0 r0 t1 r1 Sd Sx Sy Sw Sv qd wq) ∧ (HX Sy ∧ HX Sv) ∧ DQ G qd kk wq
def QP (G : GG) (f : Option Nat) (w : va_W) : Prop := (f = none ∧ w = []) ∨ ∃ (zp zu zv zk : Nat → Nat) (Sp Su Sv Sk : MS), f = some (zp 50) ∧ w = pC G zp zu zv zk Sp Su Sv Sk
/-- what lies beside: images, slots, desk, parser -/
def BS (G : GG) (M : MS) (c : Nat) (fi fs : Nat → Option Nat) (pa dk : Option Nat) (ws : Nat → va_W) : Prop := (∀ k, k < 3 → IP G M c k (fi k) (ws k)) ∧ (∀ s, s < 4 → LPt G M s (fs s) (ws (3 + s))) ∧ DP G dk (ws 7) ∧ QP G pa (ws 8)
/-- the class's object o and the reference's state, c calls later -/
def NR (G : GG) (M : MS) (c o : Nat) (w : va_W) : Prop := ∃ (zn zs zm zh zt zr zb : Nat → Nat) (Sn Ss Sm Sh St Sr Sb : MS) (fi fs : Nat → Option Nat) (pa dk : Option Nat) (ws : Nat → va_W), (zn 50 = o ∧ w.Perm (cW G zn zs zm zh zt zr zb Sn Ss Sm Sh St Sr Sb fi fs pa dk (flat ws 9))) ∧ NS M c Sn Sm Sh St Sr Sb ∧ BS G M c fi fs pa dk ws
theorem IP_m {G : GG} {M : MS} {c c' k : Nat} {f : Option Nat} {w : va_W} (h : IP G M c k f w) (hc : c ≤ c') : IP G M c' k f w := by
  rcases h with h | ⟨ze, zf, zi, zu, zv, zk, Se, Sf, Si, Su, Sv, Sk, wi, hi, bi, a, b, d, e⟩
  · exact Or.inl h
  · exact Or.inr ⟨ze, zf, zi, zu, zv, zk, Se, Sf, Si, Su, Sv, Sk, wi, hi, bi, a, b, ST_m d (by omega) (by omega) (by omega), e⟩
theorem BS_m {G : GG} {M : MS} {c c' : Nat} {fi fs : Nat → Option Nat} {pa dk : Option Nat} {ws : Nat → va_W} (h : BS G M c fi fs pa dk ws) (hc : c ≤ c') : BS G M c' fi fs pa dk ws := ⟨fun k hk => IP_m (h.1 k hk) hc, h.2⟩
theorem NS_m {M : MS} {c c' : Nat} {Sn Sm Sh St Sr Sb : MS} (h : NS M c Sn Sm Sh St Sr Sb) (hc : c ≤ c') : NS M c' Sn Sm Sh St Sr Sb := ⟨ST_m h.1 (by omega) (by omega) (by omega), h.2⟩
/-- the same in what matters -/
def EQ (M N : MS) : Prop := ((N.1 3 = M.1 3 ∧ N.1 4 = M.1 4) ∧ N.1 12 = M.1 12 ∧ (N.1 19 = M.1 19 ∧ N.1 20 = M.1 20) ∧ N.1 24 = M.1 24 ∧ N.1 27 = M.1 27) ∧ ((N.2.1 1 = M.2.1 1 ∧ N.2.1 2 = M.2.1 2 ∧ N.2.1 5 = M.2.1 5) ∧ (N.2.1 6 = M.2.1 6 ∧ N.2.1 7 = M.2.1 7 ∧ N.2.1 8 = M.2.1 8 ∧ N.2.1 9 = M.2.1 9 ∧ N.2.1 10 = M.2.1 10) ∧ N.2.1 11 = M.2.1 11 ∧ N.2.1 34 = M.2.1 34 ∧ N.2.1 35 = M.2.1 35) ∧ N.2.2 36 = M.2.2 36
theorem EQ_r (M : MS) : EQ M M := ⟨⟨⟨rfl, rfl⟩, rfl, ⟨rfl, rfl⟩, rfl, rfl⟩, ⟨⟨rfl, rfl, rfl⟩, ⟨rfl, rfl, rfl, rfl, rfl⟩, rfl, rfl, rfl⟩, rfl⟩
theorem NR_eq {G : GG} {M N : MS} {c o : Nat} {w : va_W} (h : NR G M c o w) (e : EQ M N) : NR G N c o w := by
  obtain ⟨⟨⟨e1, e2⟩, e3, ⟨e4, e5⟩, e6, e7⟩, ⟨⟨d1, d2, d3⟩, ⟨d4, d5, d6, d7, d8⟩, d9, d10, d11⟩, e8⟩ := e
  unfold NR NS BS IP LPt at h ⊢
  rw [e1, e2, e3, e4, e5, e6, e7, d1, d2, d3, d4, d5, d6, d7, d8, d9, d10, d11, e8]
  exact h
theorem sS_slf {M : MS} {f : Nat} {v : Int32} (h : M.1 f = v) : sS M f v = M := by
  unfold sS
  have : va_up M.1 f v = M.1 := funext fun g => by
    unfold va_up
    by_cases e : g = f
    · rw [if_pos e, e, h]
    · rw [if_neg e]
  rw [this]
theorem aR_slf {M : MS} {f : Nat} : aR M f (M.2.1 f) = M := by
  unfold aR
  have : va_up M.2.1 f (M.2.1 f) = M.2.1 := funext fun g => by
    unfold va_up
    by_cases e : g = f
    · rw [if_pos e, e]
    · rw [if_neg e]
  rw [this]
theorem hd_slf {M : MS} : setHd M (M.2.1 2) = M := aR_slf
theorem eta {M : MS} (h : M.1 27 = nI 0) : setHd (aR (sS M 27 (nI 0)) 26 (M.2.1 26)) (M.2.1 2) = M := by
  rw [sS_slf h, aR_slf, hd_slf]
theorem eta2 {M : MS} (h : M.1 27 = nI 0) : setHd (aR (sS (sS (sS M 28 (M.1 28)) 29 (M.1 29)) 27 (nI 0)) 26 (M.2.1 26)) (M.2.1 2) = M := by
  rw [sS_slf (M := M) (f := 28) rfl, sS_slf (M := M) (f := 29) rfl]; exact eta h
/-- a call of the class's object, over its cells in any order -/
def Stc (l : Launch) (G : GG) (y : MethodName) (cc : ByteArray) (mL : Nat) (rt : Option FieldType) (d : Nat) (As : List Value) (w : va_W) (o : Nat) (Q : Option Value → va_W → Prop) : Prop := ∃ (w0 : va_W) (mc ms d' : Nat) (fs : List Value) (P : Option Value → va_W → Prop), w.Perm w0 ∧ w0[0]? = some (o, .inr (10, fs)) ∧ (mc ≤ 26 ∧ ms ≤ 15339 ∧ d' ≤ d) ∧ Con l G y cc mL rt d' mc ms (.ref o :: As) w0 P ∧ ∀ v w', P v w' → Q v w'
/-- a call of the reference -/
def Rsc (l : Launch) (G : GG) (y : MethodName) (cc : ByteArray) (mL : Nat) (rt : Option FieldType) (d : Nat) (As : List Value) (o : Nat) (ad : Nat → Nat) (M : MS) (Q : Option Value → MS → Prop) : Prop := ∃ (P : Option Value → va_W → Prop), Con l G y cc mL rt d 0 0 (.ref o :: As) (mw o ad G.2.1 M) P ∧ ∀ v w', P v w' → ∃ N, w' = mw o ad G.2.1 N ∧ Q v N
