/-- how many of the cells from b on have a strength -/
def lnN (g : Nat → Nat) (b : Nat) : Nat → Nat
  | 0 => 0
  | k + 1 => lnN g b k + (if 0 < g (b + k) then 1 else 0)
theorem lnk_N {hd : Nat → Int32} {g : Nat → Nat} {b : Nat} : ∀ k, (∀ c, b ≤ c → c < b + k → hd c = nI (g c) ∧ g c ≤ 1000) → f_lnk hd b k = nI (lnN g b k)
  | 0, _ => rfl
  | k + 1, h => by
    rw [f_lnk, lnN, lnk_N k (fun c h1 h2 => h c h1 (by omega))]
    obtain ⟨e1, e2⟩ := h (b + k) (by omega) (by omega)
    rw [e1]
    by_cases z : 0 < g (b + k)
    · rw [if_neg (nI_nle z (by omega)), if_pos z, nI_add]
    · rw [if_pos (by rw [show g (b + k) = 0 by omega]; decide), if_neg z]
      exact nI_add _ 0
def rng (g : Nat → Nat) (b k : Nat) (L : List Nat) : Nat := (L.filter (fun c => decide ((b ≤ c ∧ c < b + k) ∧ 0 < g c))).length
theorem rng_s (g : Nat → Nat) (b k : Nat) : ∀ L : List Nat, L.Nodup → rng g b (k + 1) L = rng g b k L + (if b + k ∈ L ∧ 0 < g (b + k) then 1 else 0)
  | [], _ => by rw [if_neg (fun z => absurd z.1 List.not_mem_nil)]; rfl
  | c :: L, hn => by
    rw [List.nodup_cons] at hn
    have ih := rng_s g b k L hn.2
    unfold rng at ih ⊢
    rw [List.filter_cons, List.filter_cons]
    by_cases e : c = b + k
    · subst e
      rw [if_neg (fun z => hn.1 z.1)] at ih
      by_cases z : 0 < g (b + k)
      · rw [if_pos (by simpa using z), if_neg (by simp), if_pos ⟨List.mem_cons_self, z⟩, List.length_cons]; omega
      · rw [if_neg (by simp; omega), if_neg (by simp), if_neg (fun q => z q.2)]; omega
    · have e2 : (b + k ∈ c :: L ∧ 0 < g (b + k)) ↔ (b + k ∈ L ∧ 0 < g (b + k)) := by
        rw [List.mem_cons]
        exact ⟨fun q => ⟨q.1.resolve_left (fun z => e z.symm), q.2⟩, fun q => ⟨Or.inr q.1, q.2⟩⟩
      have e3 : (if b + k ∈ c :: L ∧ 0 < g (b + k) then 1 else 0) = (if b + k ∈ L ∧ 0 < g (b + k) then 1 else 0) := by
        by_cases q : b + k ∈ L ∧ 0 < g (b + k)
        · rw [if_pos (e2.mpr q), if_pos q]
        · rw [if_neg (fun z => q (e2.mp z)), if_neg q]
      rw [e3]
      by_cases z : (b ≤ c ∧ c < b + k) ∧ 0 < g c
      · rw [if_pos (by simp; omega), if_pos (by simp; omega), List.length_cons, List.length_cons]; omega
      · rw [if_neg (by simp; omega), if_neg (by simp; omega)]; exact ih
theorem rng_N {g : Nat → Nat} {L : List Nat} (hn : L.Nodup) (hz : ∀ c, c ∉ L → g c = 0) (b : Nat) : ∀ k, rng g b k L = lnN g b k
  | 0 => by
    unfold rng
    rw [List.filter_eq_nil_iff.mpr (fun c _ => by simp; omega)]; rfl
  | k + 1 => by
    rw [rng_s g b k L hn, rng_N hn hz b k, lnN]
    by_cases z : 0 < g (b + k)
    · rw [if_pos z, if_pos ⟨Decidable.byContradiction fun q => by have := hz _ q; omega, z⟩]
    · rw [if_neg z, if_neg (fun q => z q.2)]
theorem lk_links {wd : Nat → Int32} {S : MS} {L : List Nat} {g : Nat → Nat} {hd : Nat → Int32} {hr td s : Nat} (h : HG wd S L g hd hr td) (hs : s < 4) : nI (lkN g s L) = f_links hd s := by
  have hB : ∀ k, k = (if s = 3 then 288 else 576) → 576 * s + k ≤ 2016 ∧ (s = 3 → k = 288) ∧ (¬ s = 3 → k = 576) := by
    intro k hk; split at hk <;> omega
  unfold f_links
  obtain ⟨h1, h2, h3⟩ := hB _ rfl
  generalize (if s = 3 then 288 else 576) = k at h1 h2 h3
  rw [lnk_N k (fun c _ hc => ⟨h.2.1 c (by omega), h.1.2.2.2.2.2.2.1 c⟩), ← rng_N h.1.2.2.2.1 h.1.2.2.2.2.2.2.2]
  congr 1
  unfold lkN rng
  congr 1
  refine List.filter_congr (fun c hc => ?_)
  have hcl := h.1.2.2.2.2.1 c hc
  have : (c / 576 = s ∧ 0 < g c) ↔ ((576 * s ≤ c ∧ c < 576 * s + k) ∧ 0 < g c) := by
    by_cases e : s = 3
    · have := h2 e; omega
    · have := h3 e; omega
  exact decide_eq_decide.mpr this
section SN2
variable {l : Launch} {G : GG} {wd hd : Nat → Int32} {hr td nb n : Nat} {x y x1 x2 x3 x4 x5 : Int32} {cv : Int32} {zn zs zm zh zt zr zb : Nat → Nat} {Sn Ss Sm Sh St Sr Sb : MS} {fi fs : Nat → Option Nat} {pa dk : Option Nat} {R : va_W}
theorem K10_links (hT : TT (-1) St wd) (hR : RR Sr wd) (hW : WF wd) (hH0 : HR wd Sh hd hr td) (h3 : Sm.1 3 = -1) (h4 : Sm.1 4 = -1) : Con l G yX10_links cX10_links 2 (some .int) 4 0 0 [.ref (zn 50), .int x] (nBk zn (zs 50) G.2.1 Sn fi fs pa dk ++ (sBk zs (zm 50) (zb 50) G.2.1 Ss ++ (mBk zm (zt 50) (zr 50) (zh 50) G.2.1 Sm ++ (hBk zh G.2.1 Sh ++ (tBk zt G.2.1 St ++ (rBk zr G.2.1 Sr ++ (bBk zb G.2.1 Sb ++ (R)))))))) (pI (if isI x 4 then f_links hd (tn x) else -2) (nBk zn (zs 50) G.2.1 Sn fi fs pa dk ++ (sBk zs (zm 50) (zb 50) G.2.1 Ss ++ (mBk zm (zt 50) (zr 50) (zh 50) G.2.1 Sm ++ (hBk zh G.2.1 Sh ++ (tBk zt G.2.1 St ++ (rBk zr G.2.1 Sr ++ (bBk zb G.2.1 Sb ++ (R))))))))) := by
  refine Con.mk (own := RX10) (by decide) rfl (Nat.le_of_ble_eq_true rfl) (fun X C => ?_)
  obtain ⟨L, g, hH⟩ := hH0
  refine j_iload_n 1 C dX10_links_0 rfl rfl ?_
  refine j_sI 4 C dX10_links_1 rfl cw10_135 K10_isSort rfl (by decide) ⟨Nat.le_refl _, Nat.le_refl _⟩ rfl (Nat.le_of_ble_eq_true rfl) ?_
  refine j_if_eqB 24 7 C dX10_links_4 (by decide) rfl (fun c4 => ?_) (fun c4 => ?_)
  · refine j_bipush 26 C dX10_links_24 rfl (v := (-2)) (by decide) ?_
    exact j_iret C dX10_links_26 ⟨by rw [if_neg c4], rfl⟩
  · obtain ⟨s, hs4, rfl⟩ := isI_of c4
    refine j_aload_n 8 C dX10_links_7 rfl rfl ?_
    refine Lng_n4 11 C dX10_links_8 rfl fl10_20 ?_
    refine Lng_s0 14 C dX10_links_11 rfl fl10_61 ?_
    refine Lng_m2 17 C dX10_links_14 rfl fl10_88 ?_
    refine j_iload_n 18 C dX10_links_17 rfl rfl ?_
    refine Lnx_hI 21 C dX10_links_18 rfl cw10_148 rfl (K2_linksOf hH.1 hs4) rfl (by decide) ⟨Nat.le_refl _, Nat.le_refl _⟩ rfl (Nat.le_of_ble_eq_true rfl) ?_
    refine j_goto 26 C dX10_links_21 (by decide) ?_
    exact j_iret C dX10_links_26 ⟨by rw [if_pos c4, tn_nI (by omega), lk_links hH hs4], rfl⟩
theorem K10_forget (hT : TT (-1) St wd) (hR : RR Sr wd) (hW : WF wd) (hH0 : HR wd Sh hd hr td) (h3 : Sm.1 3 = -1) (h4 : Sm.1 4 = -1) : Con l G yX10_forget cX10_forget 3 (some .int) 4 0 0 [.ref (zn 50)] (nBk zn (zs 50) G.2.1 Sn fi fs pa dk ++ (sBk zs (zm 50) (zb 50) G.2.1 Ss ++ (mBk zm (zt 50) (zr 50) (zh 50) G.2.1 Sm ++ (hBk zh G.2.1 Sh ++ (tBk zt G.2.1 St ++ (rBk zr G.2.1 Sr ++ (bBk zb G.2.1 Sb ++ (R)))))))) (qI (fun s : MS × MS => (nBk zn (zs 50) G.2.1 Sn fi fs pa dk ++ (sBk zs (zm 50) (zb 50) G.2.1 Ss ++ (mBk zm (zt 50) (zr 50) (zh 50) G.2.1 Sm ++ (hBk zh G.2.1 (s.1) ++ (tBk zt G.2.1 St ++ (rBk zr G.2.1 Sr ++ (bBk zb G.2.1 (s.2) ++ (R))))))))) (fun x s => x = f_fg hd 4 ∧ HR wd s.1 h00 0 0 ∧ s.2 = sS (sS Sb 0 (nI 0)) 1 (nI 0))) := by
  refine Con.mk (own := RX10) (by decide) rfl (Nat.le_of_ble_eq_true rfl) (fun X C => ?_)
  obtain ⟨L, g, hH⟩ := hH0
  have lp4 : ∀ (m : Nat) (i : Nat) (x : Int32), 4 - i = m → i ≤ 4 → x = f_fg hd i → J X 3 0 0 (nBk zn (zs 50) G.2.1 Sn fi fs pa dk ++ (sBk zs (zm 50) (zb 50) G.2.1 Ss ++ (mBk zm (zt 50) (zr 50) (zh 50) G.2.1 Sm ++ (hBk zh G.2.1 Sh ++ (tBk zt G.2.1 St ++ (rBk zr G.2.1 Sr ++ (bBk zb G.2.1 Sb ++ (R)))))))) 4 [(0, .ref (zn 50)), (1, .int x), (2, .int (nI i))] [] := by
    intro m
    induction m using Nat.strongRecOn with
    | ind m ilp4 =>
    intro i x hm hi hx
    refine j_iload_n 5 C dX10_forget_4 rfl rfl ?_
    refine j_iconst 6 C dX10_forget_5 rfl (v := nI 4) (by decide) ?_
    refine j_icmp_geN 32 9 C dX10_forget_6 (by decide) rfl (by omega) (by omega) (fun c6 => ?_) (fun c6 => ?_)
    · refine j_aload_n 33 C dX10_forget_32 rfl rfl ?_
      refine Lng_n4 36 C dX10_forget_33 rfl fl10_20 ?_
      refine Lng_s0 39 C dX10_forget_36 rfl fl10_61 ?_
      refine Lng_m2 42 C dX10_forget_39 rfl fl10_88 ?_
      refine Lnr_hV 45 C dX10_forget_42 rfl cw10_92 rfl (K2_clear hH.1) rfl (by decide) ⟨Nat.le_refl _, Nat.le_refl _⟩ rfl (Nat.le_of_ble_eq_true rfl) (fun s hs => ?_)
      refine j_aload_n 46 C dX10_forget_45 rfl rfl ?_
      refine Lng_n4 49 C dX10_forget_46 rfl fl10_20 ?_
      refine Lng_s1 52 C dX10_forget_49 rfl fl10_97 ?_
      refine Lnx_bV 55 C dX10_forget_52 rfl cw10_101 rfl K0_clear rfl (by decide) ⟨Nat.le_refl _, Nat.le_refl _⟩ rfl (Nat.le_of_ble_eq_true rfl) ?_
      refine j_iload_n 56 C dX10_forget_55 rfl rfl ?_
      exact j_iret C dX10_forget_56 (by refine ⟨x, (s, sS (sS Sb 0 (nI 0)) 1 (nI 0)), ?_, rfl, rfl⟩; refine ⟨by rw [hx, show i = 4 by omega], ⟨[], _, hs.1, fun c hc => rfl, ⟨rfl, hs.2.1⟩, ⟨rfl, hs.2.2⟩, fun c hc => absurd hc List.not_mem_nil⟩, rfl⟩)
    · refine j_iload_n 10 C dX10_forget_9 rfl rfl ?_
      refine j_aload_n 11 C dX10_forget_10 rfl rfl ?_
      refine Lng_n4 14 C dX10_forget_11 rfl fl10_20 ?_
      refine Lng_s0 17 C dX10_forget_14 rfl fl10_61 ?_
      refine Lng_m2 20 C dX10_forget_17 rfl fl10_88 ?_
      refine j_iload_n 21 C dX10_forget_20 rfl rfl ?_
      refine Lnx_hI 24 C dX10_forget_21 rfl cw10_148 rfl (K2_linksOf hH.1 (by omega)) rfl (by decide) ⟨Nat.le_refl _, Nat.le_refl _⟩ rfl (Nat.le_of_ble_eq_true rfl) ?_
      rw [lk_links hH (by omega)]
      refine j_iadd 25 C dX10_forget_24 rfl ?_
      refine j_istore_n 26 C dX10_forget_25 rfl rfl (by decide) ?_
      refine j_iincN 29 (z := 1) C dX10_forget_26 rfl rfl rfl (by decide) ?_
      refine j_goto 4 C dX10_forget_29 (by decide) ?_
      exact j_weak _ (by exact ⟨rfl, rfl, rfl, trivial⟩) (ilp4 _ (by omega) (i + 1) _ rfl (by omega) (by rw [f_fg, hx]))
  refine j_iconst 1 C dX10_forget_0 rfl (v := nI 0) (by decide) ?_
  refine j_istore_n 2 C dX10_forget_1 rfl rfl (by decide) ?_
  refine j_iconst 3 C dX10_forget_2 rfl (v := nI 0) (by decide) ?_
  refine j_istore_n 4 C dX10_forget_3 rfl rfl (by decide) ?_
  exact j_weak _ (by exact ⟨rfl, rfl, rfl, trivial⟩) (lp4 _ 0 _ rfl (Nat.zero_le _) rfl)
theorem K10_strength (hT : TT (-1) St wd) (hR : RR Sr wd) (hW : WF wd) (hH0 : HR wd Sh hd hr td) (h3 : Sm.1 3 = -1) (h4 : Sm.1 4 = -1) : Con l G yX10_strength cX10_strength 5 (some .int) 4 0 0 [.ref (zn 50), .int x, .int y, .int x3] (nBk zn (zs 50) G.2.1 Sn fi fs pa dk ++ (sBk zs (zm 50) (zb 50) G.2.1 Ss ++ (mBk zm (zt 50) (zr 50) (zh 50) G.2.1 Sm ++ (hBk zh G.2.1 Sh ++ (tBk zt G.2.1 St ++ (rBk zr G.2.1 Sr ++ (bBk zb G.2.1 Sb ++ (R)))))))) (pI (if isI x 4 ∧ isI y (nth wd) ∧ isI x3 (if tn x = 3 then 12 else nth wd) then hd (f_link (tn x) (tn y) (tn x3)) else -2) (nBk zn (zs 50) G.2.1 Sn fi fs pa dk ++ (sBk zs (zm 50) (zb 50) G.2.1 Ss ++ (mBk zm (zt 50) (zr 50) (zh 50) G.2.1 Sm ++ (hBk zh G.2.1 Sh ++ (tBk zt G.2.1 St ++ (rBk zr G.2.1 Sr ++ (bBk zb G.2.1 Sb ++ (R))))))))) := by
  refine Con.mk (own := RX10) (by decide) rfl (Nat.le_of_ble_eq_true rfl) (fun X C => ?_)
  have hn24 := hW.2.1.2
  obtain ⟨L, g, hH⟩ := hH0
  have g25 : ∀ (e : Nat), (isI x 4 → e = if tn x = 3 then 12 else nth wd) → J X 5 0 0 (nBk zn (zs 50) G.2.1 Sn fi fs pa dk ++ (sBk zs (zm 50) (zb 50) G.2.1 Ss ++ (mBk zm (zt 50) (zr 50) (zh 50) G.2.1 Sm ++ (hBk zh G.2.1 Sh ++ (tBk zt G.2.1 St ++ (rBk zr G.2.1 Sr ++ (bBk zb G.2.1 Sb ++ (R)))))))) 25 [(0, .ref (zn 50)), (1, .int x), (2, .int y), (3, .int x3), (4, .int (nI e))] [] := by
    intro e he0
    refine j_iload_n 26 C dX10_strength_25 rfl rfl ?_
    refine j_sI 29 C dX10_strength_26 rfl cw10_135 K10_isSort rfl (by decide) ⟨Nat.le_refl _, Nat.le_refl _⟩ rfl (Nat.le_of_ble_eq_true rfl) ?_
    refine j_if_eqB 59 32 C dX10_strength_29 (by decide) rfl (fun c29 => ?_) (fun c29 => ?_)
    · refine j_bipush 61 C dX10_strength_59 rfl (v := (-2)) (by decide) ?_
      exact j_iret C dX10_strength_61 ⟨by rw [if_neg (fun z => c29 z.1)], rfl⟩
    · have he := he0 c29
      obtain ⟨s, hs4, rfl⟩ := isI_of c29
      rw [tn_nI (by omega)] at he
      refine j_aload_n 33 C dX10_strength_32 rfl rfl ?_
      refine Lng_n4 36 C dX10_strength_33 rfl fl10_20 ?_
      refine Lng_s0 39 C dX10_strength_36 rfl fl10_61 ?_
      refine Lng_m0 42 C dX10_strength_39 rfl fl10_65 ?_
      refine j_iload_n 43 C dX10_strength_42 rfl rfl ?_
      refine Lnx_tI 46 C dX10_strength_43 rfl cw10_138 rfl (K8_hasThing (hT.1.1.trans hW.2.1.1) hW.2.1.2) rfl (by decide) ⟨Nat.le_refl _, Nat.le_refl _⟩ rfl (Nat.le_of_ble_eq_true rfl) ?_
      refine j_if_eqB 59 49 C dX10_strength_46 (by decide) rfl (fun c46 => ?_) (fun c46 => ?_)
      · refine j_bipush 61 C dX10_strength_59 rfl (v := (-2)) (by decide) ?_
        exact j_iret C dX10_strength_61 ⟨by rw [if_neg (fun z => c46 z.2.1)], rfl⟩
      · obtain ⟨a, ha, rfl⟩ := isI_of c46
        have hn24 := hW.2.1.2
        refine j_iload_n 50 C dX10_strength_49 rfl rfl ?_
        refine j_if_lt 59 53 C dX10_strength_50 (by decide) rfl (fun c50 => ?_) (fun c50 => ?_)
        · refine j_bipush 61 C dX10_strength_59 rfl (v := (-2)) (by decide) ?_
          exact j_iret C dX10_strength_61 ⟨by rw [if_neg (fun z => ((isI_iff (by split <;> omega)).mp z.2.2).1 c50)], rfl⟩
        · refine j_iload_n 54 C dX10_strength_53 rfl rfl ?_
          refine j_iload 56 C dX10_strength_54 rfl rfl ?_
          refine j_icmp_lt 62 59 C dX10_strength_56 (by decide) rfl (fun c56 => ?_) (fun c56 => ?_)
          · have c50b : isI x3 e := (isI_iff (by rw [he]; split <;> omega)).mpr ⟨c50, fun z => by rw [Int32.lt_iff_toInt_lt] at c56; rw [Int32.le_iff_toInt_le] at z; omega⟩
            obtain ⟨b, hb, rfl⟩ := isI_of c50b
            have hb24 : b < if s = 3 then 12 else 24 := by rw [he] at hb; split at hb <;> (rename_i q; first | (rw [if_pos q]; exact hb) | (rw [if_neg q]; omega))
            have hc := lk_lt hs4 (show a < 24 by omega) hb24
            refine j_aload_n 63 C dX10_strength_62 rfl rfl ?_
            refine Lng_n4 66 C dX10_strength_63 rfl fl10_20 ?_
            refine Lng_s0 69 C dX10_strength_66 rfl fl10_61 ?_
            refine Lng_m2 72 C dX10_strength_69 rfl fl10_88 ?_
            refine j_iload_n 73 C dX10_strength_72 rfl rfl ?_
            refine j_iload_n 74 C dX10_strength_73 rfl rfl ?_
            refine j_iload_n 75 C dX10_strength_74 rfl rfl ?_
            refine j_sI 78 C dX10_strength_75 rfl cw10_141 (K2_cellOf hs4) rfl (by decide) ⟨Nat.le_refl _, Nat.le_refl _⟩ rfl (Nat.le_of_ble_eq_true rfl) ?_
            refine Lnx_hI 81 C dX10_strength_78 rfl cw10_145 rfl (K2_strengthAt hH.1 hc) rfl (by decide) ⟨Nat.le_refl _, Nat.le_refl _⟩ rfl (Nat.le_of_ble_eq_true rfl) ?_
            exact j_iret C dX10_strength_81 ⟨by rw [if_pos ⟨c29, c46, by rw [tn_nI (by omega), ← he]; exact c50b⟩, tn_nI (by omega), tn_nI (by omega), tn_nI (by rw [he] at hb; split at hb <;> omega), hH.2.1 _ hc], rfl⟩
          · refine j_bipush 61 C dX10_strength_59 rfl (v := (-2)) (by decide) ?_
            exact j_iret C dX10_strength_61 ⟨by rw [if_neg (fun z => by rw [tn_nI (by omega), ← he] at z; exact ((isI_iff (by rw [he]; split <;> omega)).mp z.2.2).2 (Int32.not_lt.mp c56))], rfl⟩
  refine j_iload_n 1 C dX10_strength_0 rfl rfl ?_
  refine j_iconst 2 C dX10_strength_1 rfl (v := nI 3) (by decide) ?_
  refine j_icmp_ne 10 5 C dX10_strength_2 (by decide) rfl (fun c2 => ?_) (fun c2 => ?_)
  · refine j_aload_n 11 C dX10_strength_10 rfl rfl ?_
    refine Lng_n4 14 C dX10_strength_11 rfl fl10_20 ?_
    refine Lng_s0 17 C dX10_strength_14 rfl fl10_61 ?_
    refine Lng_m0 20 C dX10_strength_17 rfl fl10_65 ?_
    refine Lng_t0 23 C dX10_strength_20 rfl fl10_132 ?_
    refine j_top (hT.1.1.trans hW.2.1.1) ?_
    refine j_istore 25 C dX10_strength_23 rfl rfl (by decide) ?_
    exact j_weak _ (by exact ⟨rfl, rfl, rfl, rfl, rfl, trivial⟩) (g25 _ (fun z => by rw [if_neg (fun e => c2 (by obtain ⟨j, hj, rfl⟩ := isI_of z; rw [tn_nI (by omega)] at e; rw [e]))]))
  · refine j_bipush 7 C dX10_strength_5 rfl (v := nI 12) (by decide) ?_
    refine j_goto 23 C dX10_strength_7 (by decide) ?_
    refine j_istore 25 C dX10_strength_23 rfl rfl (by decide) ?_
    exact j_weak _ (by exact ⟨rfl, rfl, rfl, rfl, rfl, trivial⟩) (g25 _ (fun z => by rw [if_pos (by rw [c2]; rfl)]))
theorem K10_sitting (hb0 : Sb.1 0 = nI nb) (hb6 : nb ≤ 60) : Con l G yX10_sitting cX10_sitting 3 (some .int) 2 0 0 [.ref (zn 50), .int x, .int y] (nBk zn (zs 50) G.2.1 Sn fi fs pa dk ++ (sBk zs (zm 50) (zb 50) G.2.1 Ss ++ (mBk zm (zt 50) (zr 50) (zh 50) G.2.1 Sm ++ (hBk zh G.2.1 Sh ++ (tBk zt G.2.1 St ++ (rBk zr G.2.1 Sr ++ (bBk zb G.2.1 Sb ++ (R)))))))) (pI (if isI x nb ∧ isI y 5 then Sb.2.1 2 (6 * tn x + tn y) else -1) (nBk zn (zs 50) G.2.1 Sn fi fs pa dk ++ (sBk zs (zm 50) (zb 50) G.2.1 Ss ++ (mBk zm (zt 50) (zr 50) (zh 50) G.2.1 Sm ++ (hBk zh G.2.1 Sh ++ (tBk zt G.2.1 St ++ (rBk zr G.2.1 Sr ++ (bBk zb G.2.1 Sb ++ (R))))))))) := by
  refine Con.mk (own := RX10) (by decide) rfl (Nat.le_of_ble_eq_true rfl) (fun X C => ?_)
  refine j_iload_n 1 C dX10_sitting_0 rfl rfl ?_
  refine j_if_lt 27 4 C dX10_sitting_1 (by decide) rfl (fun c1 => ?_) (fun c1 => ?_)
  · refine j_iconst 28 C dX10_sitting_27 rfl (v := (-1)) (by decide) ?_
    exact j_iret C dX10_sitting_28 ⟨by rw [if_neg (fun z => ((isI_iff (by omega)).mp z.1).1 c1)], rfl⟩
  · refine j_iload_n 5 C dX10_sitting_4 rfl rfl ?_
    refine j_aload_n 6 C dX10_sitting_5 rfl rfl ?_
    refine Lng_n4 9 C dX10_sitting_6 rfl fl10_20 ?_
    refine Lng_s1 12 C dX10_sitting_9 rfl fl10_97 ?_
    refine Lng_b0 15 C dX10_sitting_12 rfl fl10_115 ?_
    refine j_top hb0 ?_
    refine j_icmp_ge 27 18 C dX10_sitting_15 (by decide) rfl (fun c15 => ?_) (fun c15 => ?_)
    · refine j_iconst 28 C dX10_sitting_27 rfl (v := (-1)) (by decide) ?_
      exact j_iret C dX10_sitting_28 ⟨by rw [if_neg (fun z => ((isI_iff (by omega)).mp z.1).2 c15)], rfl⟩
    · obtain ⟨i, hi, rfl⟩ := isI_of ((isI_iff (by omega)).mpr ⟨c1, c15⟩)
      refine j_iload_n 19 C dX10_sitting_18 rfl rfl ?_
      refine j_if_lt 27 22 C dX10_sitting_19 (by decide) rfl (fun c19 => ?_) (fun c19 => ?_)
      · refine j_iconst 28 C dX10_sitting_27 rfl (v := (-1)) (by decide) ?_
        exact j_iret C dX10_sitting_28 ⟨by rw [if_neg (fun z => ((isI_iff (by omega)).mp z.2).1 c19)], rfl⟩
      · refine j_iload_n 23 C dX10_sitting_22 rfl rfl ?_
        refine j_iconst 24 C dX10_sitting_23 rfl (v := nI 4) (by decide) ?_
        refine j_icmp_le 29 27 C dX10_sitting_24 (by decide) rfl (fun c24 => ?_) (fun c24 => ?_)
        · obtain ⟨q, hq, rfl⟩ := isI_of (x := y) (n := 5) ((isI_iff (by omega)).mpr ⟨c19, fun z => by rw [Int32.le_iff_toInt_le] at c24 z; exact absurd (Int.le_trans z c24) (by decide)⟩)
          refine j_aload_n 30 C dX10_sitting_29 rfl rfl ?_
          refine Lng_n4 33 C dX10_sitting_30 rfl fl10_20 ?_
          refine Lng_s1 36 C dX10_sitting_33 rfl fl10_97 ?_
          refine j_iload_n 37 C dX10_sitting_36 rfl rfl ?_
          refine j_iload_n 38 C dX10_sitting_37 rfl rfl ?_
          refine Lnx_bI 41 C dX10_sitting_38 rfl cw10_284 rfl (K0_entry (by omega)) rfl (by decide) ⟨Nat.le_refl _, Nat.le_refl _⟩ rfl (Nat.le_of_ble_eq_true rfl) ?_
          exact j_iret C dX10_sitting_41 ⟨by rw [if_pos ⟨isI_nI hi (by omega), isI_nI hq (by omega)⟩, tn_nI (by omega), tn_nI (by omega)], rfl⟩
        · refine j_iconst 28 C dX10_sitting_27 rfl (v := (-1)) (by decide) ?_
          exact j_iret C dX10_sitting_28 ⟨by rw [if_neg (fun z => c24 (by obtain ⟨q, hq, rfl⟩ := isI_of z.2; exact nI_le (by omega) (by omega)))], rfl⟩
theorem K10_read (hT : TT (-1) St wd) (hR : RR Sr wd) (hW : WF wd) (hH0 : HR wd Sh hd hr td) (h3 : Sm.1 3 = -1) (h4 : Sm.1 4 = -1) (hhr : hr ≤ 1000000000) (htd : td + 50 ≤ 1000000000) (hb0 : Sb.1 0 = nI nb) (hb6 : nb ≤ 60) : Con l G yX10_read cX10_read 3 (some .int) 9 0 0 [.ref (zn 50), .int x, .int y] (nBk zn (zs 50) G.2.1 Sn fi fs pa dk ++ (sBk zs (zm 50) (zb 50) G.2.1 Ss ++ (mBk zm (zt 50) (zr 50) (zh 50) G.2.1 Sm ++ (hBk zh G.2.1 Sh ++ (tBk zt G.2.1 St ++ (rBk zr G.2.1 Sr ++ (bBk zb G.2.1 Sb ++ (R)))))))) (qI (fun s : MS × MS × MS => (nBk zn (zs 50) G.2.1 Sn fi fs pa dk ++ (sBk zs (zm 50) (zb 50) G.2.1 Ss ++ (mBk zm (zt 50) (zr 50) (zh 50) G.2.1 Sm ++ (hBk zh G.2.1 (s.1) ++ (tBk zt G.2.1 St ++ (rBk zr G.2.1 (s.2.1) ++ (bBk zb G.2.1 (s.2.2) ++ (R))))))))) (fun v s => (isI x (nrw wd) ∧ isP y 51 → v = nI (bN nb + 1) ∧ HR wd s.1 (f_readsN wd (-1) (Sm.1 5) (tn x) (tn y) hd) hr (td + tn y) ∧ s.2.1 = aS Sr 3 (tn x) (Sr.2.1 3 (tn x) + y) ∧ BAd Sb s.2.2 nb x y (nI hr) (f_ones (f_slips wd hd (tn x)) 12) (f_ones (f_slips wd (f_readsN wd (-1) (Sm.1 5) (tn x) (tn y) hd) (tn x)) 12) (nI 0)) ∧ (¬ (isI x (nrw wd) ∧ isP y 51) → v = -2 ∧ s = (Sh, Sr, Sb)))) := by
  refine Con.mk (own := RX10) (by decide) rfl (Nat.le_of_ble_eq_true rfl) (fun X C => ?_)
  refine j_aload_n 1 C dX10_read_0 rfl rfl ?_
  refine Lng_n4 4 C dX10_read_1 rfl fl10_20 ?_
  refine Lng_s0 7 C dX10_read_4 rfl fl10_61 ?_
  refine Lng_m1 10 C dX10_read_7 rfl fl10_78 ?_
  refine j_iload_n 11 C dX10_read_10 rfl rfl ?_
  refine Lnx_rI 14 C dX10_read_11 rfl cw10_107 rfl (K5_has (hR.1.trans hW.2.2.1.1) hW.2.2.1.2) rfl (by decide) ⟨Nat.le_refl _, Nat.le_refl _⟩ rfl (Nat.le_of_ble_eq_true rfl) ?_
  refine j_if_eqB 28 17 C dX10_read_14 (by decide) rfl (fun c14 => ?_) (fun c14 => ?_)
  · refine j_bipush 30 C dX10_read_28 rfl (v := (-2)) (by decide) ?_
    exact j_iret C dX10_read_30 (by refine ⟨_, (Sh, Sr, Sb), ?_, rfl, rfl⟩; exact ⟨fun z => absurd z (fun q => c14 q.1), fun _ => ⟨rfl, rfl⟩⟩)
  · obtain ⟨r, hrw, rfl⟩ := isI_of c14
    have hr12 := (WF_len hW hrw).2.2.1
    refine j_iload_n 18 C dX10_read_17 rfl rfl ?_
    refine j_iconst 19 C dX10_read_18 rfl (v := nI 1) (by decide) ?_
    refine j_icmp_lt 28 22 C dX10_read_19 (by decide) rfl (fun c19 => ?_) (fun c19 => ?_)
    · refine j_bipush 30 C dX10_read_28 rfl (v := (-2)) (by decide) ?_
      exact j_iret C dX10_read_30 (by refine ⟨_, (Sh, Sr, Sb), ?_, rfl, rfl⟩; exact ⟨fun z => absurd z (fun q => ((isP_iff (n := 50) (by omega)).mp q.2).1 c19), fun _ => ⟨rfl, rfl⟩⟩)
    · refine j_iload_n 23 C dX10_read_22 rfl rfl ?_
      refine j_bipush 25 C dX10_read_23 rfl (v := nI 50) (by decide) ?_
      refine j_icmp_le 31 28 C dX10_read_25 (by decide) rfl (fun c25 => ?_) (fun c25 => ?_)
      · obtain ⟨n, hn1, hn5, rfl⟩ := isP_of ((isP_iff (n := 50) (by omega)).mpr ⟨c19, c25⟩) (by omega)
        refine j_aload_n 32 C dX10_read_31 rfl rfl ?_
        refine Lng_n4 35 C dX10_read_32 rfl fl10_20 ?_
        refine j_iload_n 36 C dX10_read_35 rfl rfl ?_
        refine j_iload_n 37 C dX10_read_36 rfl rfl ?_
        refine Lnr_SV 40 C dX10_read_37 rfl cw10_111 rfl (K7_sitToRead (cl := -1) (cv := Sm.1 5) hT hR hW hH0 h3 h4 rfl (by decide) hhr (by omega) hrw hb0 hb6) rfl (by decide) ⟨Nat.le_refl _, Nat.le_refl _⟩ rfl (Nat.le_of_ble_eq_true rfl) (fun s hs => ?_)
        refine j_aload_n 41 C dX10_read_40 rfl rfl ?_
        refine Lng_n4 44 C dX10_read_41 rfl fl10_20 ?_
        refine Lng_s1 47 C dX10_read_44 rfl fl10_97 ?_
        refine Lng_b0 50 C dX10_read_47 rfl fl10_115 ?_
        refine j_top hs.2.2.1 ?_
        exact j_iret C dX10_read_50 (by refine ⟨_, s, ?_, rfl, rfl⟩; refine ⟨fun _ => ⟨rfl, by rw [tn_nI (by omega), tn_nI (by omega)]; exact hs⟩, fun z => absurd ⟨c14, (isP_iff (n := 50) (by omega)).mpr ⟨c19, c25⟩⟩ z⟩)
      · refine j_bipush 30 C dX10_read_28 rfl (v := (-2)) (by decide) ?_
        exact j_iret C dX10_read_30 (by refine ⟨_, (Sh, Sr, Sb), ?_, rfl, rfl⟩; exact ⟨fun z => absurd z (fun q => c25 ((isP_iff (n := 50) (by omega)).mp q.2).2), fun _ => ⟨rfl, rfl⟩⟩)
theorem K10_learn (hT : TT (-1) St wd) (hR : RR Sr wd) (hW : WF wd) (hH0 : HR wd Sh hd hr td) (h3 : Sm.1 3 = -1) (h4 : Sm.1 4 = -1) (hhr : hr ≤ 1000000000) (htd : td + 50 ≤ 1000000000) (hb0 : Sb.1 0 = nI nb) (hb6 : nb ≤ 60) : Con l G yX10_learn cX10_learn 2 (some .int) 9 0 0 [.ref (zn 50), .int x] (nBk zn (zs 50) G.2.1 Sn fi fs pa dk ++ (sBk zs (zm 50) (zb 50) G.2.1 Ss ++ (mBk zm (zt 50) (zr 50) (zh 50) G.2.1 Sm ++ (hBk zh G.2.1 Sh ++ (tBk zt G.2.1 St ++ (rBk zr G.2.1 Sr ++ (bBk zb G.2.1 Sb ++ (R)))))))) (qI (fun s : MS × MS × MS => (nBk zn (zs 50) G.2.1 Sn fi fs pa dk ++ (sBk zs (zm 50) (zb 50) G.2.1 Ss ++ (mBk zm (zt 50) (zr 50) (zh 50) G.2.1 Sm ++ (hBk zh G.2.1 (s.1) ++ (tBk zt G.2.1 St ++ (rBk zr G.2.1 (s.2.1) ++ (bBk zb G.2.1 (s.2.2) ++ (R))))))))) (fun v s => (isI x (nrw wd) → v = (f_lrn wd (-1) (Sm.1 5) (tn x) 40 1 0 hd).1 ∧ (∃ t1, t1 ≤ td + 40 ∧ HR wd s.1 (f_lrn wd (-1) (Sm.1 5) (tn x) 40 1 0 hd).2 hr t1) ∧ s.2.1 = aS Sr 3 (tn x) (Sr.2.1 3 (tn x) + (if (f_lrn wd (-1) (Sm.1 5) (tn x) 40 1 0 hd).1 = -1 then nI 40 else (f_lrn wd (-1) (Sm.1 5) (tn x) 40 1 0 hd).1)) ∧ BAd Sb s.2.2 nb x (if (f_lrn wd (-1) (Sm.1 5) (tn x) 40 1 0 hd).1 = -1 then nI 40 else (f_lrn wd (-1) (Sm.1 5) (tn x) 40 1 0 hd).1) (nI hr) (f_ones (f_slips wd hd (tn x)) 12) (f_ones (f_slips wd (f_lrn wd (-1) (Sm.1 5) (tn x) 40 1 0 hd).2 (tn x)) 12) (if (f_lrn wd (-1) (Sm.1 5) (tn x) 40 1 0 hd).1 = -1 then nI 2 else nI 1)) ∧ (¬ isI x (nrw wd) → v = -2 ∧ s = (Sh, Sr, Sb)))) := by
  refine Con.mk (own := RX10) (by decide) rfl (Nat.le_of_ble_eq_true rfl) (fun X C => ?_)
  refine j_aload_n 1 C dX10_learn_0 rfl rfl ?_
  refine Lng_n4 4 C dX10_learn_1 rfl fl10_20 ?_
  refine Lng_s0 7 C dX10_learn_4 rfl fl10_61 ?_
  refine Lng_m1 10 C dX10_learn_7 rfl fl10_78 ?_
  refine j_iload_n 11 C dX10_learn_10 rfl rfl ?_
  refine Lnx_rI 14 C dX10_learn_11 rfl cw10_107 rfl (K5_has (hR.1.trans hW.2.2.1.1) hW.2.2.1.2) rfl (by decide) ⟨Nat.le_refl _, Nat.le_refl _⟩ rfl (Nat.le_of_ble_eq_true rfl) ?_
  refine j_if_neB 20 17 C dX10_learn_14 (by decide) rfl (fun c14 => ?_) (fun c14 => ?_)
  · obtain ⟨r, hrw, rfl⟩ := isI_of c14
    have hr12 := (WF_len hW hrw).2.2.1
    refine j_aload_n 21 C dX10_learn_20 rfl rfl ?_
    refine Lng_n4 24 C dX10_learn_21 rfl fl10_20 ?_
    refine j_iload_n 25 C dX10_learn_24 rfl rfl ?_
    refine Lnr_SI 28 C dX10_learn_25 rfl cw10_116 rfl (K7_sitToLearn (cl := -1) (cv := Sm.1 5) hT hR hW hH0 h3 h4 rfl (by decide) hhr (by omega) hrw hb0 hb6) rfl (by decide) ⟨Nat.le_refl _, Nat.le_refl _⟩ rfl (Nat.le_of_ble_eq_true rfl) (fun v s hs => ?_)
    exact j_iret C dX10_learn_28 (by refine ⟨v, s, ?_, rfl, rfl⟩; refine ⟨fun _ => by rw [tn_nI (by omega)]; exact hs, fun z => absurd c14 z⟩)
  · refine j_bipush 19 C dX10_learn_17 rfl (v := (-2)) (by decide) ?_
    exact j_iret C dX10_learn_19 (by refine ⟨_, (Sh, Sr, Sb), ?_, rfl, rfl⟩; exact ⟨fun z => absurd z c14, fun _ => ⟨rfl, rfl⟩⟩)
theorem K10_waits (hT : TT (-1) St wd) (hR : RR Sr wd) (hW : WF wd) (hH0 : HR wd Sh hd hr td) (h3 : Sm.1 3 = -1) (h4 : Sm.1 4 = -1) (hhr : hr + 200 ≤ 1000000000) (htd : td ≤ 1000000000) : Con l G yX10_waits cX10_waits 2 (some .int) 7 0 0 [.ref (zn 50), .int x] (nBk zn (zs 50) G.2.1 Sn fi fs pa dk ++ (sBk zs (zm 50) (zb 50) G.2.1 Ss ++ (mBk zm (zt 50) (zr 50) (zh 50) G.2.1 Sm ++ (hBk zh G.2.1 Sh ++ (tBk zt G.2.1 St ++ (rBk zr G.2.1 Sr ++ (bBk zb G.2.1 Sb ++ (R)))))))) (qI (fun s : MS => (nBk zn (zs 50) G.2.1 Sn fi fs pa dk ++ (sBk zs (zm 50) (zb 50) G.2.1 Ss ++ (mBk zm (zt 50) (zr 50) (zh 50) G.2.1 Sm ++ (hBk zh G.2.1 s ++ (tBk zt G.2.1 St ++ (rBk zr G.2.1 Sr ++ (bBk zb G.2.1 Sb ++ (R))))))))) (fun v s => (isI x 201 → v = f_hours wd (-1) (Sm.1 5) (tn x) hd 2016 ∧ ∃ t1, t1 ≤ td ∧ HR wd s (f_hours wd (-1) (Sm.1 5) (tn x) hd) (hr + tn x) t1) ∧ (¬ isI x 201 → v = -2 ∧ s = Sh))) := by
  refine Con.mk (own := RX10) (by decide) rfl (Nat.le_of_ble_eq_true rfl) (fun X C => ?_)
  refine j_iload_n 1 C dX10_waits_0 rfl rfl ?_
  refine j_i2l 2 C dX10_waits_1 rfl ?_
  refine j_sI 5 C dX10_waits_2 rfl cw10_120 K10_isWait rfl (by decide) ⟨Nat.le_refl _, Nat.le_refl _⟩ rfl (Nat.le_of_ble_eq_true rfl) ?_
  refine j_if_neB 11 8 C dX10_waits_5 (by decide) rfl (fun c5 => ?_) (fun c5 => ?_)
  · obtain ⟨q, hq, rfl⟩ := isI_of c5
    refine j_aload_n 12 C dX10_waits_11 rfl rfl ?_
    refine Lng_n4 15 C dX10_waits_12 rfl fl10_20 ?_
    refine Lng_s0 18 C dX10_waits_15 rfl fl10_61 ?_
    refine j_iload_n 19 C dX10_waits_18 rfl rfl ?_
    refine Lnr_MV 22 C dX10_waits_19 rfl cw10_124 rfl (K3_passHours (cl := -1) (cv := Sm.1 5) hT hW hH0 h4 rfl (by omega) htd) rfl (by decide) ⟨Nat.le_refl _, Nat.le_refl _⟩ rfl (Nat.le_of_ble_eq_true rfl) (fun s hs => ?_)
    obtain ⟨t1, ht1, ht0, hs⟩ := hs
    have hs6 := hs
    obtain ⟨L, g, hH⟩ := hs6
    refine j_aload_n 23 C dX10_waits_22 rfl rfl ?_
    refine Lng_n4 26 C dX10_waits_23 rfl fl10_20 ?_
    refine Lng_s0 29 C dX10_waits_26 rfl fl10_61 ?_
    refine Lng_m2 32 C dX10_waits_29 rfl fl10_88 ?_
    refine Lng_h0 35 C dX10_waits_32 rfl fl10_127 ?_
    refine j_top (hH.2.2.1.2.trans hH.2.2.1.1.symm) ?_
    exact j_iret C dX10_waits_35 (by refine ⟨_, s, ?_, rfl, rfl⟩; refine ⟨fun _ => by rw [tn_nI (by omega)]; exact ⟨rfl, t1, ht1, hs⟩, fun z => absurd c5 z⟩)
  · refine j_bipush 10 C dX10_waits_8 rfl (v := (-2)) (by decide) ?_
    exact j_iret C dX10_waits_10 (by refine ⟨_, Sh, ?_, rfl, rfl⟩; exact ⟨fun z => absurd z c5, fun _ => ⟨rfl, rfl⟩⟩)
theorem K10_end (h1 : Sn.1 1 = nI n) (hn : n ≤ 900) : Con l G yX10_end cX10_end 2 (some .int) 1 0 0 [.ref (zn 50), .int x] (nBk zn (zs 50) G.2.1 Sn fi fs pa dk ++ (sBk zs (zm 50) (zb 50) G.2.1 Ss ++ (mBk zm (zt 50) (zr 50) (zh 50) G.2.1 Sm ++ (hBk zh G.2.1 Sh ++ (tBk zt G.2.1 St ++ (rBk zr G.2.1 Sr ++ (bBk zb G.2.1 Sb ++ (R)))))))) (pI (if isI x (n + 1) then x else -1) (nBk zn (zs 50) G.2.1 (sS Sn 1 (if isI x (n + 1) then x else nI n)) fi fs pa dk ++ (sBk zs (zm 50) (zb 50) G.2.1 Ss ++ (mBk zm (zt 50) (zr 50) (zh 50) G.2.1 Sm ++ (hBk zh G.2.1 Sh ++ (tBk zt G.2.1 St ++ (rBk zr G.2.1 Sr ++ (bBk zb G.2.1 Sb ++ (R))))))))) := by
  refine Con.mk (own := RX10) (by decide) rfl (Nat.le_of_ble_eq_true rfl) (fun X C => ?_)
  refine j_iload_n 1 C dX10_end_0 rfl rfl ?_
  refine j_if_lt 12 4 C dX10_end_1 (by decide) rfl (fun c1 => ?_) (fun c1 => ?_)
  · refine j_iconst 13 C dX10_end_12 rfl (v := (-1)) (by decide) ?_
    exact j_iret C dX10_end_13 ⟨by rw [if_neg (fun z => ((isI_iff (n := n + 1) (by omega)).mp z).1 c1)], by rw [if_neg (fun z => ((isI_iff (n := n + 1) (by omega)).mp z).1 c1)]; exact congrArg (fun q => (nBk zn (zs 50) G.2.1 q fi fs pa dk ++ (sBk zs (zm 50) (zb 50) G.2.1 Ss ++ (mBk zm (zt 50) (zr 50) (zh 50) G.2.1 Sm ++ (hBk zh G.2.1 Sh ++ (tBk zt G.2.1 St ++ (rBk zr G.2.1 Sr ++ (bBk zb G.2.1 Sb ++ (R))))))))) (sS_self h1).symm⟩
  · refine j_iload_n 5 C dX10_end_4 rfl rfl ?_
    refine j_aload_n 6 C dX10_end_5 rfl rfl ?_
    refine Lng_n1 9 C dX10_end_6 rfl fl10_34 ?_
    refine j_top h1 ?_
    refine j_icmp_le 14 12 C dX10_end_9 (by decide) rfl (fun c9 => ?_) (fun c9 => ?_)
    · have hin : isI x (n + 1) := (isI_iff (by omega)).mpr ⟨c1, fun z => by rw [Int32.le_iff_toInt_le, nI_toInt (by omega)] at c9 z; omega⟩
      refine j_aload_n 15 C dX10_end_14 rfl rfl ?_
      refine j_iload_n 16 C dX10_end_15 rfl rfl ?_
      refine Lnp_n1 19 C dX10_end_16 rfl fl10_34 ?_
      refine j_iload_n 20 C dX10_end_19 rfl rfl ?_
      exact j_iret C dX10_end_20 ⟨by rw [if_pos hin], by rw [if_pos hin]⟩
    · refine j_iconst 13 C dX10_end_12 rfl (v := (-1)) (by decide) ?_
      exact j_iret C dX10_end_13 ⟨by rw [if_neg (fun z => c9 (by obtain ⟨j, hj, rfl⟩ := isI_of z; exact nI_le (by omega) (by omega)))], by rw [if_neg (fun z => c9 (by obtain ⟨j, hj, rfl⟩ := isI_of z; exact nI_le (by omega) (by omega)))]; exact congrArg (fun q => (nBk zn (zs 50) G.2.1 q fi fs pa dk ++ (sBk zs (zm 50) (zb 50) G.2.1 Ss ++ (mBk zm (zt 50) (zr 50) (zh 50) G.2.1 Sm ++ (hBk zh G.2.1 Sh ++ (tBk zt G.2.1 St ++ (rBk zr G.2.1 Sr ++ (bBk zb G.2.1 Sb ++ (R))))))))) (sS_self h1).symm⟩
end SN2
