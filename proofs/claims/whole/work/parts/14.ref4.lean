def f_hcell (wd : Nat → Int32) (cl cv : Int32) (s a b : Nat) (hd : Nat → Int32) : Nat → Int32 :=
  if hd (f_link s a b) ≤ 0 then hd else f_chg hd (f_link s a b) (-(f_comes wd hd cl cv (4 + s) (hd (f_link s a b)) (wd (10 + (if s = 3 then a else b)))))
def f_hb (wd : Nat → Int32) (cl cv : Int32) (s a : Nat) : Nat → (Nat → Int32) → (Nat → Int32)
  | 0, hd => hd
  | b + 1, hd => f_hcell wd cl cv s a b (f_hb wd cl cv s a b hd)
def f_ha (wd : Nat → Int32) (cl cv : Int32) (s : Nat) : Nat → (Nat → Int32) → (Nat → Int32)
  | 0, hd => hd
  | a + 1, hd => f_hb wd cl cv s a (if s = 3 then 12 else nth wd) (f_ha wd cl cv s a hd)
def f_hs (wd : Nat → Int32) (cl cv : Int32) : Nat → (Nat → Int32) → (Nat → Int32)
  | 0, hd => hd
  | s + 1, hd => f_ha wd cl cv s (nth wd) (f_hs wd cl cv s hd)
def f_hour (wd : Nat → Int32) (cl cv : Int32) (hd : Nat → Int32) : Nat → Int32 := upd (upd (f_hs wd cl cv 4 hd) 2016 (f_hs wd cl cv 4 hd 2016 + nI 1)) 2017 (nI 0)
def f_hours (wd : Nat → Int32) (cl cv : Int32) : Nat → (Nat → Int32) → (Nat → Int32)
  | 0, hd => hd
  | n + 1, hd => f_hour wd cl cv (f_hours wd cl cv n hd)
def f_supl (wd hd : Nat → Int32) (r i : Nat) : Nat → Int32
  | 0 => wd 8 * hd (f_link 3 (th wd r i) i)
  | s + 1 => f_supl wd hd r i s + wd (5 + s) * hd (f_link s (th wd r (i - 1)) (th wd r i))
def f_sup (wd hd : Nat → Int32) (r i : Nat) : Int32 := f_supl wd hd r i (if i = 0 then 0 else 3) / nI 100
def f_slip (wd hd : Nat → Int32) (r : Nat) : Nat → Int32
  | 0 => nI 0
  | i + 1 => f_slip wd hd r i ||| (if wd 4 ≤ f_sup wd hd r i then nI 0 else nI 1 <<< (nI i &&& 31))
def f_slips (wd hd : Nat → Int32) (r : Nat) : Int32 := f_slip wd hd r (len wd r)
def f_left (wd hd : Nat → Int32) (r : Nat) : Nat → Int32
  | 0 => nI 0
  | i + 1 => f_left wd hd r i + f_sup wd hd r i
def f_ones (x : Int32) : Nat → Int32
  | 0 => nI 0
  | k + 1 => f_ones x k + (x >>> (nI k &&& 31) &&& nI 1)
/-- LEARNT: m readings are left, n is the next one's number, w went by without a slip -/
def f_lrn (wd : Nat → Int32) (cl cv : Int32) (r : Nat) : Nat → Nat → Nat → (Nat → Int32) → Int32 × (Nat → Int32)
  | 0, _, _, hd => (-1, hd)
  | m + 1, n, w, hd => if (if f_slips wd (f_reads wd cl cv r hd) r = 0 then w + 1 else 0) = 2 then (nI n, f_reads wd cl cv r hd) else f_lrn wd cl cv r m (n + 1) (if f_slips wd (f_reads wd cl cv r hd) r = 0 then w + 1 else 0) (f_reads wd cl cv r hd)
def f_lnk (hd : Nat → Int32) (b : Nat) : Nat → Int32
  | 0 => nI 0
  | k + 1 => f_lnk hd b k + (if hd (b + k) ≤ 0 then nI 0 else nI 1)
def f_links (hd : Nat → Int32) (s : Nat) : Int32 := f_lnk hd (576 * s) (if s = 3 then 288 else 576)
section S4
variable {l : Launch} {G : GG} {o : Nat} {ad : Nat → Nat} {M : MS} {h : Nat → Int32}
set_option maxHeartbeats 4000000 in
theorem c_hourGoes (hWF : WF (M.2.1 1)) : Con l G yX11_hourGoes cX11_hourGoes 6 none 4 0 0 [.ref o] (mw o ad G.2.1 (setHd M h)) (pV (mw o ad G.2.1 (setHd M (f_hour (M.2.1 1) (M.1 24) (M.1 25) h)))) := by
  refine Con.mk (own := RX11) (by decide) rfl (Nat.le_of_ble_eq_true rfl) (fun X C => ?_)
  obtain ⟨hnt, hnt24⟩ := hWF.2.1
  have lp9 : ∀ (m : Nat) (s : Nat), 4 - s = m → s ≤ 4 → J X 6 0 0 (mw o ad G.2.1 (setHd M (f_hs (M.2.1 1) (M.1 24) (M.1 25) s h))) 9 [(0, .ref o), (1, .int (nI (nth (M.2.1 1)))), (2, .int (nI s))] [] := by
    intro m
    induction m using Nat.strongRecOn with
    | ind m ilp9 =>
    intro s hm hs
    refine j_iload_n 10 C dX11_hourGoes_9 rfl rfl ?_
    refine j_iconst 11 C dX11_hourGoes_10 rfl (v := nI 4) (by decide) ?_
    refine j_icmp_geN 117 14 C dX11_hourGoes_11 (by decide) rfl (by omega) (by omega) (fun c11 => ?_) (fun c11 => ?_)
    · refine j_aload_n 118 C dX11_hourGoes_117 rfl rfl ?_
      refine rgH_head 121 C dX11_hourGoes_118 rfl ?_
      refine j_sipush 124 C dX11_hourGoes_121 rfl (v := nI 2016) (by decide) ?_
      refine j_dup2 125 C dX11_hourGoes_124 rfl rfl rfl ?_
      refine raH_head 126 C dX11_hourGoes_125 rfl _ (by omega) rfl ?_
      refine j_iconst 127 C dX11_hourGoes_126 rfl (v := nI 1) (by decide) ?_
      refine j_iadd 128 C dX11_hourGoes_127 rfl ?_
      refine rsH_head 129 C dX11_hourGoes_128 rfl _ (by omega) rfl ?_
      refine j_aload_n 130 C dX11_hourGoes_129 rfl rfl ?_
      refine rgH_head 133 C dX11_hourGoes_130 rfl ?_
      refine j_sipush 136 C dX11_hourGoes_133 rfl (v := nI 2017) (by decide) ?_
      refine j_iconst 137 C dX11_hourGoes_136 rfl (v := nI 0) (by decide) ?_
      refine rsH_head 138 C dX11_hourGoes_137 rfl _ (by omega) rfl ?_
      exact j_vret C dX11_hourGoes_138 ⟨rfl, by rw [show s = 4 by omega]; rfl⟩
    · refine j_iconst 15 C dX11_hourGoes_14 rfl (v := nI 0) (by decide) ?_
      refine j_istore_n 16 C dX11_hourGoes_15 rfl rfl (by decide) ?_
      have lp16 : ∀ (m : Nat) (a : Nat), nth (M.2.1 1) - a = m → a ≤ nth (M.2.1 1) → J X 6 0 0 (mw o ad G.2.1 (setHd M (f_ha (M.2.1 1) (M.1 24) (M.1 25) s a (f_hs (M.2.1 1) (M.1 24) (M.1 25) s h)))) 16 [(0, .ref o), (1, .int (nI (nth (M.2.1 1)))), (2, .int (nI s)), (3, .int (nI a))] [] := by
        intro m
        induction m using Nat.strongRecOn with
        | ind m ilp16 =>
        intro a hm ha
        refine j_iload_n 17 C dX11_hourGoes_16 rfl rfl ?_
        refine j_iload_n 18 C dX11_hourGoes_17 rfl rfl ?_
        refine j_icmp_geN 111 21 C dX11_hourGoes_18 (by decide) rfl (by omega) (by omega) (fun c18 => ?_) (fun c18 => ?_)
        · refine j_iincN 114 (z := 1) C dX11_hourGoes_111 rfl rfl rfl (by decide) ?_
          refine j_goto 9 C dX11_hourGoes_114 (by decide) ?_
          rw [show a = nth (M.2.1 1) by omega]
          rw [show f_ha (M.2.1 1) (M.1 24) (M.1 25) s (nth (M.2.1 1)) (f_hs (M.2.1 1) (M.1 24) (M.1 25) s h) = f_hs (M.2.1 1) (M.1 24) (M.1 25) (s + 1) h from rfl]
          exact j_weak _ (by exact ⟨rfl, rfl, rfl, trivial⟩) (ilp9 _ (by omega) (s + 1) rfl (by omega))
        · refine j_iconst 22 C dX11_hourGoes_21 rfl (v := nI 0) (by decide) ?_
          refine j_istore 24 C dX11_hourGoes_22 rfl rfl (by decide) ?_
          have lp24 : ∀ (m : Nat) (b : Nat), 24 - b = m → b ≤ (if s = 3 then 12 else nth (M.2.1 1)) → J X 6 0 0 (mw o ad G.2.1 (setHd M (f_hb (M.2.1 1) (M.1 24) (M.1 25) s a b (f_ha (M.2.1 1) (M.1 24) (M.1 25) s a (f_hs (M.2.1 1) (M.1 24) (M.1 25) s h))))) 24 [(0, .ref o), (1, .int (nI (nth (M.2.1 1)))), (2, .int (nI s)), (3, .int (nI a)), (4, .int (nI b))] [] := by
            intro m
            induction m using Nat.strongRecOn with
            | ind m ilp24 =>
            intro b hm hb
            refine j_iload 26 C dX11_hourGoes_24 rfl rfl ?_
            refine j_iload_n 27 C dX11_hourGoes_26 rfl rfl ?_
            refine j_iconst 28 C dX11_hourGoes_27 rfl (v := nI 3) (by decide) ?_
            refine j_icmp_neN 36 31 C dX11_hourGoes_28 (by decide) rfl (by omega) (by omega) (fun c28 => ?_) (fun c28 => ?_)
            · rw [if_neg c28] at hb
              refine j_iload_n 37 C dX11_hourGoes_36 rfl rfl ?_
              refine j_icmp_geN 105 40 C dX11_hourGoes_37 (by decide) rfl (by omega) (by omega) (fun c37 => ?_) (fun c37 => ?_)
              · refine j_iincN 108 (z := 1) C dX11_hourGoes_105 rfl rfl rfl (by decide) ?_
                refine j_goto 16 C dX11_hourGoes_108 (by decide) ?_
                rw [show b = nth (M.2.1 1) by omega]
                rw [show (f_hb (M.2.1 1) (M.1 24) (M.1 25) s a (nth (M.2.1 1)) (f_ha (M.2.1 1) (M.1 24) (M.1 25) s a (f_hs (M.2.1 1) (M.1 24) (M.1 25) s h))) = f_ha (M.2.1 1) (M.1 24) (M.1 25) s (a + 1) (f_hs (M.2.1 1) (M.1 24) (M.1 25) s h) from by show _ = f_hb (M.2.1 1) (M.1 24) (M.1 25) s a (if s = 3 then 12 else nth (M.2.1 1)) (f_ha (M.2.1 1) (M.1 24) (M.1 25) s a (f_hs (M.2.1 1) (M.1 24) (M.1 25) s h)); rw [if_neg c28]]
                exact j_weak _ (by exact ⟨rfl, rfl, rfl, rfl, trivial⟩) (ilp16 _ (by omega) (a + 1) rfl (by omega))
              · refine j_iload_n 41 C dX11_hourGoes_40 rfl rfl ?_
                refine j_iload_n 42 C dX11_hourGoes_41 rfl rfl ?_
                refine j_iload 44 C dX11_hourGoes_42 rfl rfl ?_
                refine j_sI 47 C dX11_hourGoes_44 rfl cw11_270 (c_linkAt _ _ _ (by omega)) rfl (by decide) ⟨Nat.le_refl _, Nat.le_refl _⟩ rfl (Nat.le_of_ble_eq_true rfl) ?_
                have hlk : f_link s a b < 2016 := f_linkS (by omega) (by omega) (by omega)
                refine j_istore 49 C dX11_hourGoes_47 rfl rfl (by decide) ?_
                refine j_aload_n 50 C dX11_hourGoes_49 rfl rfl ?_
                refine rgH_head 53 C dX11_hourGoes_50 rfl ?_
                refine j_iload 55 C dX11_hourGoes_53 rfl rfl ?_
                refine raH_head 56 C dX11_hourGoes_55 rfl _ (by omega) rfl ?_
                refine j_if_le 99 59 C dX11_hourGoes_56 (by decide) rfl (fun c56 => ?_) (fun c56 => ?_)
                · refine j_iincN 102 (z := 1) C dX11_hourGoes_99 rfl rfl rfl (by decide) ?_
                  refine j_goto 24 C dX11_hourGoes_102 (by decide) ?_
                  rw [show (f_hb (M.2.1 1) (M.1 24) (M.1 25) s a b (f_ha (M.2.1 1) (M.1 24) (M.1 25) s a (f_hs (M.2.1 1) (M.1 24) (M.1 25) s h))) = (f_hb (M.2.1 1) (M.1 24) (M.1 25) s a (b + 1) (f_ha (M.2.1 1) (M.1 24) (M.1 25) s a (f_hs (M.2.1 1) (M.1 24) (M.1 25) s h))) from (if_pos c56).symm]
                  exact j_weak _ (by exact ⟨rfl, rfl, rfl, rfl, rfl, trivial⟩) (ilp24 _ (by omega) (b + 1) rfl (by rw [if_neg c28]; omega))
                · refine j_aload_n 60 C dX11_hourGoes_59 rfl rfl ?_
                  refine j_iload 62 C dX11_hourGoes_60 rfl rfl ?_
                  refine j_aload_n 63 C dX11_hourGoes_62 rfl rfl ?_
                  refine j_iconst 64 C dX11_hourGoes_63 rfl (v := nI 4) (by decide) ?_
                  refine j_iload_n 65 C dX11_hourGoes_64 rfl rfl ?_
                  refine j_iaddN 66 C dX11_hourGoes_65 rfl ?_
                  refine j_aload_n 67 C dX11_hourGoes_66 rfl rfl ?_
                  refine rgH_head 70 C dX11_hourGoes_67 rfl ?_
                  refine j_iload 72 C dX11_hourGoes_70 rfl rfl ?_
                  refine raH_head 73 C dX11_hourGoes_72 rfl _ (by omega) rfl ?_
                  refine j_aload_n 74 C dX11_hourGoes_73 rfl rfl ?_
                  refine rgH_world 77 C dX11_hourGoes_74 rfl ?_
                  refine j_bipush 79 C dX11_hourGoes_77 rfl (v := nI 10) (by decide) ?_
                  refine j_iload_n 80 C dX11_hourGoes_79 rfl rfl ?_
                  refine j_iconst 81 C dX11_hourGoes_80 rfl (v := nI 3) (by decide) ?_
                  refine j_icmp_neN 88 84 C dX11_hourGoes_81 (by decide) rfl (by omega) (by omega) (fun c81 => ?_) (fun c81 => absurd c81 c28)
                  refine j_iload 90 C dX11_hourGoes_88 rfl rfl ?_
                  refine j_iaddN 91 C dX11_hourGoes_90 rfl ?_
                  refine raH_world 92 C dX11_hourGoes_91 rfl _ (by omega) rfl ?_
                  refine j_mL 95 C dX11_hourGoes_92 rfl cw11_261 rfl (c_comesToH _ _ _ (by omega) hWF.1) rfl (by decide) rfl (Nat.le_of_ble_eq_true rfl) ?_
                  refine j_lneg 96 C dX11_hourGoes_95 rfl ?_
                  refine j_mV 99 C dX11_hourGoes_96 rfl cw11_274 rfl (c_changesH _ _ (by omega)) rfl (by decide) rfl (Nat.le_of_ble_eq_true rfl) ?_
                  refine j_iincN 102 (z := 1) C dX11_hourGoes_99 rfl rfl rfl (by decide) ?_
                  refine j_goto 24 C dX11_hourGoes_102 (by decide) ?_
                  rw [show f_chg (f_hb (M.2.1 1) (M.1 24) (M.1 25) s a b (f_ha (M.2.1 1) (M.1 24) (M.1 25) s a (f_hs (M.2.1 1) (M.1 24) (M.1 25) s h))) (f_link s a b) _ = (f_hb (M.2.1 1) (M.1 24) (M.1 25) s a (b + 1) (f_ha (M.2.1 1) (M.1 24) (M.1 25) s a (f_hs (M.2.1 1) (M.1 24) (M.1 25) s h))) from by show _ = f_hcell (M.2.1 1) (M.1 24) (M.1 25) s a b (f_hb (M.2.1 1) (M.1 24) (M.1 25) s a b (f_ha (M.2.1 1) (M.1 24) (M.1 25) s a (f_hs (M.2.1 1) (M.1 24) (M.1 25) s h))); rw [f_hcell, if_neg c56, if_neg c28]]
                  exact j_weak _ (by exact ⟨rfl, rfl, rfl, rfl, rfl, trivial⟩) (ilp24 _ (by omega) (b + 1) rfl (by rw [if_neg c28]; omega))
            · rw [if_pos c28] at hb
              refine j_bipush 33 C dX11_hourGoes_31 rfl (v := nI 12) (by decide) ?_
              refine j_goto 37 C dX11_hourGoes_33 (by decide) ?_
              refine j_icmp_geN 105 40 C dX11_hourGoes_37 (by decide) rfl (by omega) (by omega) (fun c37 => ?_) (fun c37 => ?_)
              · refine j_iincN 108 (z := 1) C dX11_hourGoes_105 rfl rfl rfl (by decide) ?_
                refine j_goto 16 C dX11_hourGoes_108 (by decide) ?_
                rw [show b = 12 by omega]
                rw [show (f_hb (M.2.1 1) (M.1 24) (M.1 25) s a (12) (f_ha (M.2.1 1) (M.1 24) (M.1 25) s a (f_hs (M.2.1 1) (M.1 24) (M.1 25) s h))) = f_ha (M.2.1 1) (M.1 24) (M.1 25) s (a + 1) (f_hs (M.2.1 1) (M.1 24) (M.1 25) s h) from by show _ = f_hb (M.2.1 1) (M.1 24) (M.1 25) s a (if s = 3 then 12 else nth (M.2.1 1)) (f_ha (M.2.1 1) (M.1 24) (M.1 25) s a (f_hs (M.2.1 1) (M.1 24) (M.1 25) s h)); rw [if_pos c28]]
                exact j_weak _ (by exact ⟨rfl, rfl, rfl, rfl, trivial⟩) (ilp16 _ (by omega) (a + 1) rfl (by omega))
              · refine j_iload_n 41 C dX11_hourGoes_40 rfl rfl ?_
                refine j_iload_n 42 C dX11_hourGoes_41 rfl rfl ?_
                refine j_iload 44 C dX11_hourGoes_42 rfl rfl ?_
                refine j_sI 47 C dX11_hourGoes_44 rfl cw11_270 (c_linkAt _ _ _ (by omega)) rfl (by decide) ⟨Nat.le_refl _, Nat.le_refl _⟩ rfl (Nat.le_of_ble_eq_true rfl) ?_
                have hlk : f_link s a b < 2016 := by rw [c28]; exact f_link3 (by omega) (by omega)
                refine j_istore 49 C dX11_hourGoes_47 rfl rfl (by decide) ?_
                refine j_aload_n 50 C dX11_hourGoes_49 rfl rfl ?_
                refine rgH_head 53 C dX11_hourGoes_50 rfl ?_
                refine j_iload 55 C dX11_hourGoes_53 rfl rfl ?_
                refine raH_head 56 C dX11_hourGoes_55 rfl _ (by omega) rfl ?_
                refine j_if_le 99 59 C dX11_hourGoes_56 (by decide) rfl (fun c56 => ?_) (fun c56 => ?_)
                · refine j_iincN 102 (z := 1) C dX11_hourGoes_99 rfl rfl rfl (by decide) ?_
                  refine j_goto 24 C dX11_hourGoes_102 (by decide) ?_
                  rw [show (f_hb (M.2.1 1) (M.1 24) (M.1 25) s a b (f_ha (M.2.1 1) (M.1 24) (M.1 25) s a (f_hs (M.2.1 1) (M.1 24) (M.1 25) s h))) = (f_hb (M.2.1 1) (M.1 24) (M.1 25) s a (b + 1) (f_ha (M.2.1 1) (M.1 24) (M.1 25) s a (f_hs (M.2.1 1) (M.1 24) (M.1 25) s h))) from (if_pos c56).symm]
                  exact j_weak _ (by exact ⟨rfl, rfl, rfl, rfl, rfl, trivial⟩) (ilp24 _ (by omega) (b + 1) rfl (by rw [if_pos c28]; omega))
                · refine j_aload_n 60 C dX11_hourGoes_59 rfl rfl ?_
                  refine j_iload 62 C dX11_hourGoes_60 rfl rfl ?_
                  refine j_aload_n 63 C dX11_hourGoes_62 rfl rfl ?_
                  refine j_iconst 64 C dX11_hourGoes_63 rfl (v := nI 4) (by decide) ?_
                  refine j_iload_n 65 C dX11_hourGoes_64 rfl rfl ?_
                  refine j_iaddN 66 C dX11_hourGoes_65 rfl ?_
                  refine j_aload_n 67 C dX11_hourGoes_66 rfl rfl ?_
                  refine rgH_head 70 C dX11_hourGoes_67 rfl ?_
                  refine j_iload 72 C dX11_hourGoes_70 rfl rfl ?_
                  refine raH_head 73 C dX11_hourGoes_72 rfl _ (by omega) rfl ?_
                  refine j_aload_n 74 C dX11_hourGoes_73 rfl rfl ?_
                  refine rgH_world 77 C dX11_hourGoes_74 rfl ?_
                  refine j_bipush 79 C dX11_hourGoes_77 rfl (v := nI 10) (by decide) ?_
                  refine j_iload_n 80 C dX11_hourGoes_79 rfl rfl ?_
                  refine j_iconst 81 C dX11_hourGoes_80 rfl (v := nI 3) (by decide) ?_
                  refine j_icmp_neN 88 84 C dX11_hourGoes_81 (by decide) rfl (by omega) (by omega) (fun c81 => absurd c28 c81) (fun c81 => ?_)
                  refine j_iload_n 85 C dX11_hourGoes_84 rfl rfl ?_
                  refine j_goto 90 C dX11_hourGoes_85 (by decide) ?_
                  refine j_iaddN 91 C dX11_hourGoes_90 rfl ?_
                  refine raH_world 92 C dX11_hourGoes_91 rfl _ (by omega) rfl ?_
                  refine j_mL 95 C dX11_hourGoes_92 rfl cw11_261 rfl (c_comesToH _ _ _ (by omega) hWF.1) rfl (by decide) rfl (Nat.le_of_ble_eq_true rfl) ?_
                  refine j_lneg 96 C dX11_hourGoes_95 rfl ?_
                  refine j_mV 99 C dX11_hourGoes_96 rfl cw11_274 rfl (c_changesH _ _ (by omega)) rfl (by decide) rfl (Nat.le_of_ble_eq_true rfl) ?_
                  refine j_iincN 102 (z := 1) C dX11_hourGoes_99 rfl rfl rfl (by decide) ?_
                  refine j_goto 24 C dX11_hourGoes_102 (by decide) ?_
                  rw [show f_chg (f_hb (M.2.1 1) (M.1 24) (M.1 25) s a b (f_ha (M.2.1 1) (M.1 24) (M.1 25) s a (f_hs (M.2.1 1) (M.1 24) (M.1 25) s h))) (f_link s a b) _ = (f_hb (M.2.1 1) (M.1 24) (M.1 25) s a (b + 1) (f_ha (M.2.1 1) (M.1 24) (M.1 25) s a (f_hs (M.2.1 1) (M.1 24) (M.1 25) s h))) from by show _ = f_hcell (M.2.1 1) (M.1 24) (M.1 25) s a b (f_hb (M.2.1 1) (M.1 24) (M.1 25) s a b (f_ha (M.2.1 1) (M.1 24) (M.1 25) s a (f_hs (M.2.1 1) (M.1 24) (M.1 25) s h))); rw [f_hcell, if_neg c56, if_pos c28]]
                  exact j_weak _ (by exact ⟨rfl, rfl, rfl, rfl, rfl, trivial⟩) (ilp24 _ (by omega) (b + 1) rfl (by rw [if_pos c28]; omega))
          exact j_weak _ (by exact ⟨rfl, rfl, rfl, rfl, rfl, trivial⟩) (lp24 _ 0 rfl (Nat.zero_le _))
      exact j_weak _ (by exact ⟨rfl, rfl, rfl, rfl, trivial⟩) (lp16 _ 0 rfl (Nat.zero_le _))
  refine j_aload_n 1 C dX11_hourGoes_0 rfl rfl ?_
  refine rgH_world 4 C dX11_hourGoes_1 rfl ?_
  refine j_iconst 5 C dX11_hourGoes_4 rfl (v := nI 1) (by decide) ?_
  refine raH_world 6 C dX11_hourGoes_5 rfl _ (by omega) rfl ?_
  rw [hnt]
  refine j_istore_n 7 C dX11_hourGoes_6 rfl rfl (by decide) ?_
  refine j_iconst 8 C dX11_hourGoes_7 rfl (v := nI 0) (by decide) ?_
  refine j_istore_n 9 C dX11_hourGoes_8 rfl rfl (by decide) ?_
  exact j_weak _ (by exact ⟨rfl, rfl, rfl, trivial⟩) (lp9 _ 0 rfl (Nat.zero_le _))
theorem c_hoursGo (n : Nat) (hn : n < 2 ^ 31) (hWF : WF (M.2.1 1)) : Con l G yX11_hoursGo cX11_hoursGo 3 none 5 0 0 [.ref o, .int (nI n)] (mw o ad G.2.1 (setHd M h)) (pV (mw o ad G.2.1 (setHd M (f_hours (M.2.1 1) (M.1 24) (M.1 25) n h)))) := by
  refine Con.mk (own := RX11) (by decide) rfl (Nat.le_of_ble_eq_true rfl) (fun X C => ?_)
  have lp2 : ∀ (m : Nat) (i : Nat), n - i = m → i ≤ n → J X 3 0 0 (mw o ad G.2.1 (setHd M (f_hours (M.2.1 1) (M.1 24) (M.1 25) i h))) 2 [(0, .ref o), (1, .int (nI n)), (2, .int (nI i))] [] := by
    intro m
    induction m using Nat.strongRecOn with
    | ind m ilp2 =>
    intro i hm hi
    refine j_iload_n 3 C dX11_hoursGo_2 rfl rfl ?_
    refine j_iload_n 4 C dX11_hoursGo_3 rfl rfl ?_
    refine j_icmp_geN 17 7 C dX11_hoursGo_4 (by decide) rfl (by omega) (by omega) (fun c4 => ?_) (fun c4 => ?_)
    · exact j_vret C dX11_hoursGo_17 ⟨rfl, by rw [show i = n by omega]⟩
    · refine j_aload_n 8 C dX11_hoursGo_7 rfl rfl ?_
      refine j_mV 11 C dX11_hoursGo_8 rfl cw11_288 rfl (c_hourGoes hWF) rfl (by decide) rfl (Nat.le_of_ble_eq_true rfl) ?_
      refine j_iincN 14 (z := 1) C dX11_hoursGo_11 rfl rfl rfl (by decide) ?_
      refine j_goto 2 C dX11_hoursGo_14 (by decide) ?_
      rw [show f_hour (M.2.1 1) (M.1 24) (M.1 25) (f_hours (M.2.1 1) (M.1 24) (M.1 25) i h) = (f_hours (M.2.1 1) (M.1 24) (M.1 25) (i + 1) h) from rfl]
      exact j_weak _ (by exact ⟨rfl, rfl, rfl, trivial⟩) (ilp2 _ (by omega) (i + 1) rfl (by omega))
  refine j_iconst 1 C dX11_hoursGo_0 rfl (v := nI 0) (by decide) ?_
  refine j_istore_n 2 C dX11_hoursGo_1 rfl rfl (by decide) ?_
  exact j_weak _ (by exact ⟨rfl, rfl, rfl, trivial⟩) (lp2 _ 0 rfl (Nat.zero_le _))
set_option maxHeartbeats 1000000 in
theorem c_supportOf (r i : Nat) (hr : r < nrw (M.2.1 1)) (hi : i < len (M.2.1 1) r) (hWF : WF (M.2.1 1)) : Con l G yX11_supportOf cX11_supportOf 7 (some .int) 2 0 0 [.ref o, .int (nI r), .int (nI i)] (mw o ad G.2.1 (setHd M h)) (pI (f_sup (M.2.1 1) h r i) (mw o ad G.2.1 (setHd M h))) := by
  refine Con.mk (own := RX11) (by decide) rfl (Nat.le_of_ble_eq_true rfl) (fun X C => ?_)
  obtain ⟨⟨hlen, hl2, hl12⟩, hth⟩ := hWF.2.2.2 r hr
  obtain ⟨hnt, hnt24⟩ := hWF.2.1
  have hr12 : r < 12 := Nat.lt_of_lt_of_le hr hWF.2.2.1.2
  obtain ⟨hti, htl⟩ := hth i hi
  refine j_aload_n 1 C dX11_supportOf_0 rfl rfl ?_
  refine j_iload_n 2 C dX11_supportOf_1 rfl rfl ?_
  refine j_iload_n 3 C dX11_supportOf_2 rfl rfl ?_
  refine j_mI 6 C dX11_supportOf_3 rfl cw11_281 rfl (c_thingOfH r _ (by omega) (by omega)) rfl (by decide) rfl (Nat.le_of_ble_eq_true rfl) ?_
  rw [hti]
  refine j_istore_n 7 C dX11_supportOf_6 rfl rfl (by decide) ?_
  refine j_aload_n 8 C dX11_supportOf_7 rfl rfl ?_
  refine rgH_world 11 C dX11_supportOf_8 rfl ?_
  refine j_bipush 13 C dX11_supportOf_11 rfl (v := nI 8) (by decide) ?_
  refine raH_world 14 C dX11_supportOf_13 rfl _ (by omega) rfl ?_
  refine j_aload_n 15 C dX11_supportOf_14 rfl rfl ?_
  refine rgH_head 18 C dX11_supportOf_15 rfl ?_
  refine j_iconst 19 C dX11_supportOf_18 rfl (v := nI 3) (by decide) ?_
  refine j_iload_n 20 C dX11_supportOf_19 rfl rfl ?_
  refine j_iload_n 21 C dX11_supportOf_20 rfl rfl ?_
  refine j_sI 24 C dX11_supportOf_21 rfl cw11_270 (c_linkAt _ _ _ (by omega)) rfl (by decide) ⟨Nat.le_refl _, Nat.le_refl _⟩ rfl (Nat.le_of_ble_eq_true rfl) ?_
  have hlk : f_link 3 (th (M.2.1 1) r i) i < 2016 := f_link3 (by omega) (by omega)
  refine raH_head 25 C dX11_supportOf_24 rfl _ (by omega) rfl ?_
  refine j_imul 26 C dX11_supportOf_25 rfl ?_
  refine j_istore 28 C dX11_supportOf_26 rfl rfl (by decide) ?_
  refine j_iload_n 29 C dX11_supportOf_28 rfl rfl ?_
  refine j_if_leN 85 32 C dX11_supportOf_29 (by decide) rfl (by omega) (fun c29 => ?_) (fun c29 => ?_)
  · refine j_iload 87 C dX11_supportOf_85 rfl rfl ?_
    refine j_bipush 89 C dX11_supportOf_87 rfl (v := nI 100) (by decide) ?_
    refine j_idiv 90 C dX11_supportOf_89 rfl (by decide) ?_
    exact j_iret C dX11_supportOf_90 ⟨by rw [f_sup, if_pos c29]; rfl, rfl⟩
  · refine j_aload_n 33 C dX11_supportOf_32 rfl rfl ?_
    refine j_iload_n 34 C dX11_supportOf_33 rfl rfl ?_
    refine j_iload_n 35 C dX11_supportOf_34 rfl rfl ?_
    refine j_iconst 36 C dX11_supportOf_35 rfl (v := nI 1) (by decide) ?_
    refine j_isubN 37 C dX11_supportOf_36 rfl (by omega) ?_
    refine j_mI 40 C dX11_supportOf_37 rfl cw11_281 rfl (c_thingOfH r _ (by omega) (by omega)) rfl (by decide) rfl (Nat.le_of_ble_eq_true rfl) ?_
    obtain ⟨hta, htal⟩ := hth (i - 1) (by omega)
    rw [hta]
    refine j_istore 42 C dX11_supportOf_40 rfl rfl (by decide) ?_
    refine j_iconst 43 C dX11_supportOf_42 rfl (v := nI 0) (by decide) ?_
    refine j_istore 45 C dX11_supportOf_43 rfl rfl (by decide) ?_
    have lp45 : ∀ (m : Nat) (s : Nat), 3 - s = m → s ≤ 3 → J X 7 0 0 (mw o ad G.2.1 (setHd M h)) 45 [(0, .ref o), (1, .int (nI r)), (2, .int (nI i)), (3, .int (nI (th (M.2.1 1) r i))), (4, .int (f_supl (M.2.1 1) h r i s)), (5, .int (nI (th (M.2.1 1) r (i - 1)))), (6, .int (nI s))] [] := by
      intro m
      induction m using Nat.strongRecOn with
      | ind m ilp45 =>
      intro s hm hs
      refine j_iload 47 C dX11_supportOf_45 rfl rfl ?_
      refine j_iconst 48 C dX11_supportOf_47 rfl (v := nI 3) (by decide) ?_
      refine j_icmp_geN 85 51 C dX11_supportOf_48 (by decide) rfl (by omega) (by omega) (fun c48 => ?_) (fun c48 => ?_)
      · refine j_iload 87 C dX11_supportOf_85 rfl rfl ?_
        refine j_bipush 89 C dX11_supportOf_87 rfl (v := nI 100) (by decide) ?_
        refine j_idiv 90 C dX11_supportOf_89 rfl (by decide) ?_
        exact j_iret C dX11_supportOf_90 ⟨by rw [f_sup, if_neg (by omega), show s = 3 by omega], rfl⟩
      · refine j_iload 53 C dX11_supportOf_51 rfl rfl ?_
        refine j_aload_n 54 C dX11_supportOf_53 rfl rfl ?_
        refine rgH_world 57 C dX11_supportOf_54 rfl ?_
        refine j_iconst 58 C dX11_supportOf_57 rfl (v := nI 5) (by decide) ?_
        refine j_iload 60 C dX11_supportOf_58 rfl rfl ?_
        refine j_iaddN 61 C dX11_supportOf_60 rfl ?_
        refine raH_world 62 C dX11_supportOf_61 rfl _ (by omega) rfl ?_
        refine j_aload_n 63 C dX11_supportOf_62 rfl rfl ?_
        refine rgH_head 66 C dX11_supportOf_63 rfl ?_
        refine j_iload 68 C dX11_supportOf_66 rfl rfl ?_
        refine j_iload 70 C dX11_supportOf_68 rfl rfl ?_
        refine j_iload_n 71 C dX11_supportOf_70 rfl rfl ?_
        refine j_sI 74 C dX11_supportOf_71 rfl cw11_270 (c_linkAt _ _ _ (by omega)) rfl (by decide) ⟨Nat.le_refl _, Nat.le_refl _⟩ rfl (Nat.le_of_ble_eq_true rfl) ?_
        have hlk : f_link s (th (M.2.1 1) r (i - 1)) (th (M.2.1 1) r i) < 2016 := f_linkS (by omega) (by omega) (by omega)
        refine raH_head 75 C dX11_supportOf_74 rfl _ (by omega) rfl ?_
        refine j_imul 76 C dX11_supportOf_75 rfl ?_
        refine j_iadd 77 C dX11_supportOf_76 rfl ?_
        refine j_istore 79 C dX11_supportOf_77 rfl rfl (by decide) ?_
        refine j_iincN 82 (z := 1) C dX11_supportOf_79 rfl rfl rfl (by decide) ?_
        refine j_goto 45 C dX11_supportOf_82 (by decide) ?_
        exact j_weak _ (by exact ⟨rfl, rfl, rfl, rfl, rfl, rfl, rfl, trivial⟩) (ilp45 _ (by omega) (s + 1) rfl (by omega))
    exact j_weak _ (by exact ⟨rfl, rfl, rfl, rfl, rfl, rfl, rfl, trivial⟩) (lp45 _ 0 rfl (Nat.zero_le _))
set_option maxHeartbeats 1000000 in
theorem c_slipsOf (r : Nat) (hr : r < nrw (M.2.1 1)) (hWF : WF (M.2.1 1)) : Con l G yX11_slipsOf cX11_slipsOf 4 (some .int) 3 0 0 [.ref o, .int (nI r)] (mw o ad G.2.1 (setHd M h)) (pI (f_slips (M.2.1 1) h r) (mw o ad G.2.1 (setHd M h))) := by
  refine Con.mk (own := RX11) (by decide) rfl (Nat.le_of_ble_eq_true rfl) (fun X C => ?_)
  obtain ⟨⟨hlen, hl2, hl12⟩, -⟩ := hWF.2.2.2 r hr
  have hr12 : r < 12 := Nat.lt_of_lt_of_le hr hWF.2.2.1.2
  have lp4 : ∀ (m : Nat) (i : Nat), len (M.2.1 1) r - i = m → i ≤ len (M.2.1 1) r → J X 4 0 0 (mw o ad G.2.1 (setHd M h)) 4 [(0, .ref o), (1, .int (nI r)), (2, .int (f_slip (M.2.1 1) h r i)), (3, .int (nI i))] [] := by
    intro m
    induction m using Nat.strongRecOn with
    | ind m ilp4 =>
    intro i hm hi
    refine j_iload_n 5 C dX11_slipsOf_4 rfl rfl ?_
    refine j_aload_n 6 C dX11_slipsOf_5 rfl rfl ?_
    refine j_iload_n 7 C dX11_slipsOf_6 rfl rfl ?_
    refine j_mI 10 C dX11_slipsOf_7 rfl cw11_278 rfl (c_manyOfH r (by omega)) rfl (by decide) rfl (Nat.le_of_ble_eq_true rfl) ?_
    rw [hlen]
    refine j_icmp_geN 44 13 C dX11_slipsOf_10 (by decide) rfl (by omega) (by omega) (fun c10 => ?_) (fun c10 => ?_)
    · refine j_iload_n 45 C dX11_slipsOf_44 rfl rfl ?_
      exact j_iret C dX11_slipsOf_45 ⟨by rw [show i = len (M.2.1 1) r by omega]; rfl, rfl⟩
    · refine j_iload_n 14 C dX11_slipsOf_13 rfl rfl ?_
      refine j_aload_n 15 C dX11_slipsOf_14 rfl rfl ?_
      refine j_iload_n 16 C dX11_slipsOf_15 rfl rfl ?_
      refine j_iload_n 17 C dX11_slipsOf_16 rfl rfl ?_
      refine j_mI 20 C dX11_slipsOf_17 rfl cw11_291 rfl (c_supportOf r i hr (by omega) hWF) rfl (by decide) rfl (Nat.le_of_ble_eq_true rfl) ?_
      refine j_aload_n 21 C dX11_slipsOf_20 rfl rfl ?_
      refine rgH_world 24 C dX11_slipsOf_21 rfl ?_
      refine j_iconst 25 C dX11_slipsOf_24 rfl (v := nI 4) (by decide) ?_
      refine raH_world 26 C dX11_slipsOf_25 rfl _ (by omega) rfl ?_
      refine j_icmp_ge 35 29 C dX11_slipsOf_26 (by decide) rfl (fun c26 => ?_) (fun c26 => ?_)
      · refine j_iconst 36 C dX11_slipsOf_35 rfl (v := nI 0) (by decide) ?_
        refine j_ior 37 C dX11_slipsOf_36 rfl ?_
        rw [show f_slip (M.2.1 1) h r i ||| _ = f_slip (M.2.1 1) h r (i + 1) from by show _ = f_slip (M.2.1 1) h r i ||| (if M.2.1 1 4 ≤ f_sup (M.2.1 1) h r i then nI 0 else nI 1 <<< (nI i &&& 31)); rw [if_pos c26]]
        refine j_istore_n 38 C dX11_slipsOf_37 rfl rfl (by decide) ?_
        refine j_iincN 41 (z := 1) C dX11_slipsOf_38 rfl rfl rfl (by decide) ?_
        refine j_goto 4 C dX11_slipsOf_41 (by decide) ?_
        exact j_weak _ (by exact ⟨rfl, rfl, rfl, rfl, trivial⟩) (ilp4 _ (by omega) (i + 1) rfl (by omega))
      · refine j_iconst 30 C dX11_slipsOf_29 rfl (v := nI 1) (by decide) ?_
        refine j_iload_n 31 C dX11_slipsOf_30 rfl rfl ?_
        refine j_ishl 32 C dX11_slipsOf_31 rfl ?_
        refine j_goto 36 C dX11_slipsOf_32 (by decide) ?_
        refine j_ior 37 C dX11_slipsOf_36 rfl ?_
        rw [show f_slip (M.2.1 1) h r i ||| _ = f_slip (M.2.1 1) h r (i + 1) from by show _ = f_slip (M.2.1 1) h r i ||| (if M.2.1 1 4 ≤ f_sup (M.2.1 1) h r i then nI 0 else nI 1 <<< (nI i &&& 31)); rw [if_neg c26]]
        refine j_istore_n 38 C dX11_slipsOf_37 rfl rfl (by decide) ?_
        refine j_iincN 41 (z := 1) C dX11_slipsOf_38 rfl rfl rfl (by decide) ?_
        refine j_goto 4 C dX11_slipsOf_41 (by decide) ?_
        exact j_weak _ (by exact ⟨rfl, rfl, rfl, rfl, trivial⟩) (ilp4 _ (by omega) (i + 1) rfl (by omega))
  refine j_iconst 1 C dX11_slipsOf_0 rfl (v := nI 0) (by decide) ?_
  refine j_istore_n 2 C dX11_slipsOf_1 rfl rfl (by decide) ?_
  refine j_iconst 3 C dX11_slipsOf_2 rfl (v := nI 0) (by decide) ?_
  refine j_istore_n 4 C dX11_slipsOf_3 rfl rfl (by decide) ?_
  exact j_weak _ (by exact ⟨rfl, rfl, rfl, rfl, trivial⟩) (lp4 _ 0 rfl (Nat.zero_le _))
set_option maxHeartbeats 1000000 in
theorem c_leftOf (r : Nat) (hr : r < nrw (M.2.1 1)) (hWF : WF (M.2.1 1)) : Con l G yX11_leftOf cX11_leftOf 4 (some .int) 3 0 0 [.ref o, .int (nI r)] (mw o ad G.2.1 (setHd M h)) (pI (f_left (M.2.1 1) h r (len (M.2.1 1) r)) (mw o ad G.2.1 (setHd M h))) := by
  refine Con.mk (own := RX11) (by decide) rfl (Nat.le_of_ble_eq_true rfl) (fun X C => ?_)
  obtain ⟨⟨hlen, hl2, hl12⟩, -⟩ := hWF.2.2.2 r hr
  have hr12 : r < 12 := Nat.lt_of_lt_of_le hr hWF.2.2.1.2
  have lp4 : ∀ (m : Nat) (i : Nat), len (M.2.1 1) r - i = m → i ≤ len (M.2.1 1) r → J X 4 0 0 (mw o ad G.2.1 (setHd M h)) 4 [(0, .ref o), (1, .int (nI r)), (2, .int (f_left (M.2.1 1) h r i)), (3, .int (nI i))] [] := by
    intro m
    induction m using Nat.strongRecOn with
    | ind m ilp4 =>
    intro i hm hi
    refine j_iload_n 5 C dX11_leftOf_4 rfl rfl ?_
    refine j_aload_n 6 C dX11_leftOf_5 rfl rfl ?_
    refine j_iload_n 7 C dX11_leftOf_6 rfl rfl ?_
    refine j_mI 10 C dX11_leftOf_7 rfl cw11_278 rfl (c_manyOfH r (by omega)) rfl (by decide) rfl (Nat.le_of_ble_eq_true rfl) ?_
    rw [hlen]
    refine j_icmp_geN 28 13 C dX11_leftOf_10 (by decide) rfl (by omega) (by omega) (fun c10 => ?_) (fun c10 => ?_)
    · refine j_iload_n 29 C dX11_leftOf_28 rfl rfl ?_
      exact j_iret C dX11_leftOf_29 ⟨by rw [show i = len (M.2.1 1) r by omega], rfl⟩
    · refine j_iload_n 14 C dX11_leftOf_13 rfl rfl ?_
      refine j_aload_n 15 C dX11_leftOf_14 rfl rfl ?_
      refine j_iload_n 16 C dX11_leftOf_15 rfl rfl ?_
      refine j_iload_n 17 C dX11_leftOf_16 rfl rfl ?_
      refine j_mI 20 C dX11_leftOf_17 rfl cw11_291 rfl (c_supportOf r i hr (by omega) hWF) rfl (by decide) rfl (Nat.le_of_ble_eq_true rfl) ?_
      refine j_iadd 21 C dX11_leftOf_20 rfl ?_
      refine j_istore_n 22 C dX11_leftOf_21 rfl rfl (by decide) ?_
      refine j_iincN 25 (z := 1) C dX11_leftOf_22 rfl rfl rfl (by decide) ?_
      refine j_goto 4 C dX11_leftOf_25 (by decide) ?_
      exact j_weak _ (by exact ⟨rfl, rfl, rfl, rfl, trivial⟩) (ilp4 _ (by omega) (i + 1) rfl (by omega))
  refine j_iconst 1 C dX11_leftOf_0 rfl (v := nI 0) (by decide) ?_
  refine j_istore_n 2 C dX11_leftOf_1 rfl rfl (by decide) ?_
  refine j_iconst 3 C dX11_leftOf_2 rfl (v := nI 0) (by decide) ?_
  refine j_istore_n 4 C dX11_leftOf_3 rfl rfl (by decide) ?_
  exact j_weak _ (by exact ⟨rfl, rfl, rfl, rfl, trivial⟩) (lp4 _ 0 rfl (Nat.zero_le _))
theorem c_ones (x : Int32) : Con l G yX11_ones cX11_ones 3 (some .int) 1 0 0 [.int x] [] (pI (f_ones x 12) []) := by
  refine Con.mk (own := RX11) (by decide) rfl (Nat.le_of_ble_eq_true rfl) (fun X C => ?_)
  have lp4 : ∀ (m : Nat) (k : Nat), 12 - k = m → k ≤ 12 → J X 3 0 0 [] 4 [(0, .int x), (1, .int (f_ones x k)), (2, .int (nI k))] [] := by
    intro m
    induction m using Nat.strongRecOn with
    | ind m ilp4 =>
    intro k hm hk
    refine j_iload_n 5 C dX11_ones_4 rfl rfl ?_
    refine j_bipush 7 C dX11_ones_5 rfl (v := nI 12) (by decide) ?_
    refine j_icmp_geN 24 10 C dX11_ones_7 (by decide) rfl (by omega) (by omega) (fun c7 => ?_) (fun c7 => ?_)
    · refine j_iload_n 25 C dX11_ones_24 rfl rfl ?_
      exact j_iret C dX11_ones_25 ⟨by rw [show k = 12 by omega], rfl⟩
    · refine j_iload_n 11 C dX11_ones_10 rfl rfl ?_
      refine j_iload_n 12 C dX11_ones_11 rfl rfl ?_
      refine j_iload_n 13 C dX11_ones_12 rfl rfl ?_
      refine j_ishr 14 C dX11_ones_13 rfl ?_
      refine j_iconst 15 C dX11_ones_14 rfl (v := nI 1) (by decide) ?_
      refine j_iand 16 C dX11_ones_15 rfl ?_
      refine j_iadd 17 C dX11_ones_16 rfl ?_
      refine j_istore_n 18 C dX11_ones_17 rfl rfl (by decide) ?_
      refine j_iincN 21 (z := 1) C dX11_ones_18 rfl rfl rfl (by decide) ?_
      refine j_goto 4 C dX11_ones_21 (by decide) ?_
      exact j_weak _ (by exact ⟨rfl, rfl, rfl, trivial⟩) (ilp4 _ (by omega) (k + 1) rfl (by omega))
  refine j_iconst 1 C dX11_ones_0 rfl (v := nI 0) (by decide) ?_
  refine j_istore_n 2 C dX11_ones_1 rfl rfl (by decide) ?_
  refine j_iconst 3 C dX11_ones_2 rfl (v := nI 0) (by decide) ?_
  refine j_istore_n 4 C dX11_ones_3 rfl rfl (by decide) ?_
  exact j_weak _ (by exact ⟨rfl, rfl, rfl, trivial⟩) (lp4 _ 0 rfl (Nat.zero_le _))
set_option maxHeartbeats 1000000 in
theorem c_learns (r : Nat) (hr : r < nrw (M.2.1 1)) (hWF : WF (M.2.1 1)) : Con l G yX11_learns cX11_learns 4 (some .int) 5 0 0 [.ref o, .int (nI r)] (mw o ad G.2.1 (setHd M h)) (pI (f_lrn (M.2.1 1) (M.1 24) (M.1 25) r 40 1 0 h).1 (mw o ad G.2.1 (setHd M (f_lrn (M.2.1 1) (M.1 24) (M.1 25) r 40 1 0 h).2))) := by
  refine Con.mk (own := RX11) (by decide) rfl (Nat.le_of_ble_eq_true rfl) (fun X C => ?_)
  refine j_iconst 1 C dX11_learns_0 rfl (v := nI 0) (by decide) ?_
  refine j_istore_n 2 C dX11_learns_1 rfl rfl (by decide) ?_
  refine j_iconst 3 C dX11_learns_2 rfl (v := nI 1) (by decide) ?_
  refine j_istore_n 4 C dX11_learns_3 rfl rfl (by decide) ?_
  obtain ⟨R, hR⟩ : ∃ R, R = f_lrn (M.2.1 1) (M.1 24) (M.1 25) r 40 1 0 h := ⟨_, rfl⟩
  rw [← hR] at C
  have lp4 : ∀ (m : Nat) (n w : Nat) (hd : Nat → Int32), 41 - n = m → w < 2 → 1 ≤ n → n ≤ 41 → f_lrn (M.2.1 1) (M.1 24) (M.1 25) r m n w hd = R → J X 4 0 0 (mw o ad G.2.1 (setHd M hd)) 4 [(0, .ref o), (1, .int (nI r)), (2, .int (nI w)), (3, .int (nI n))] [] := by
    intro m
    induction m using Nat.strongRecOn with
    | ind m ilp4 =>
    intro n w hd hm hw hn1 hn hR
    refine j_iload_n 5 C dX11_learns_4 rfl rfl ?_
    refine j_bipush 7 C dX11_learns_5 rfl (v := nI 40) (by decide) ?_
    refine j_icmp_gtN 44 10 C dX11_learns_7 (by decide) rfl (by omega) (by omega) (fun c7 => ?_) (fun c7 => ?_)
    · refine j_iconst 45 C dX11_learns_44 rfl (v := (-1)) (by decide) ?_
      exact j_iret C dX11_learns_45 ⟨by rw [← hR, show m = 0 by omega]; rfl, by rw [← hR, show m = 0 by omega]; rfl⟩
    · obtain ⟨z, hz⟩ : ∃ z, m = z + 1 := ⟨m - 1, by omega⟩
      subst hz
      rw [f_lrn] at hR
      refine j_aload_n 11 C dX11_learns_10 rfl rfl ?_
      refine j_iload_n 12 C dX11_learns_11 rfl rfl ?_
      refine j_mV 15 C dX11_learns_12 rfl cw11_294 rfl (c_reads r hr hWF) rfl (by decide) rfl (Nat.le_of_ble_eq_true rfl) ?_
      refine j_aload_n 16 C dX11_learns_15 rfl rfl ?_
      refine j_iload_n 17 C dX11_learns_16 rfl rfl ?_
      refine j_mI 20 C dX11_learns_17 rfl cw11_297 rfl (c_slipsOf r hr hWF) rfl (by decide) rfl (Nat.le_of_ble_eq_true rfl) ?_
      refine j_if_ne 29 23 C dX11_learns_20 (by decide) rfl (fun c20 => ?_) (fun c20 => ?_)
      · rw [if_neg c20, if_neg (by decide)] at hR
        refine j_iconst 30 C dX11_learns_29 rfl (v := nI 0) (by decide) ?_
        refine j_istore_n 31 C dX11_learns_30 rfl rfl (by decide) ?_
        refine j_iload_n 32 C dX11_learns_31 rfl rfl ?_
        refine j_iconst 33 C dX11_learns_32 rfl (v := nI 2) (by decide) ?_
        refine j_icmp_neN 38 36 C dX11_learns_33 (by decide) rfl (by omega) (by omega) (fun c33 => ?_) (fun c33 => absurd c33 (by decide))
        refine j_iincN 41 (z := 1) C dX11_learns_38 rfl rfl rfl (by decide) ?_
        refine j_goto 4 C dX11_learns_41 (by decide) ?_
        exact j_weak _ (by exact ⟨rfl, rfl, rfl, rfl, trivial⟩) (ilp4 z (by omega) (n + 1) 0 (f_reads (M.2.1 1) (M.1 24) (M.1 25) r hd) (by omega) (by omega) (by omega) (by omega) hR)
      · rw [if_pos c20] at hR
        refine j_iload_n 24 C dX11_learns_23 rfl rfl ?_
        refine j_iconst 25 C dX11_learns_24 rfl (v := nI 1) (by decide) ?_
        refine j_iaddN 26 C dX11_learns_25 rfl ?_
        refine j_goto 30 C dX11_learns_26 (by decide) ?_
        refine j_istore_n 31 C dX11_learns_30 rfl rfl (by decide) ?_
        refine j_iload_n 32 C dX11_learns_31 rfl rfl ?_
        refine j_iconst 33 C dX11_learns_32 rfl (v := nI 2) (by decide) ?_
        refine j_icmp_neN 38 36 C dX11_learns_33 (by decide) rfl (by omega) (by omega) (fun c33 => ?_) (fun c33 => ?_)
        · rw [if_neg c33] at hR
          refine j_iincN 41 (z := 1) C dX11_learns_38 rfl rfl rfl (by decide) ?_
          refine j_goto 4 C dX11_learns_41 (by decide) ?_
          exact j_weak _ (by exact ⟨rfl, rfl, rfl, rfl, trivial⟩) (ilp4 z (by omega) (n + 1) (w + 1) (f_reads (M.2.1 1) (M.1 24) (M.1 25) r hd) (by omega) (by omega) (by omega) (by omega) hR)
        · rw [if_pos c33] at hR
          refine j_iload_n 37 C dX11_learns_36 rfl rfl ?_
          exact j_iret C dX11_learns_37 ⟨by rw [← hR], by rw [← hR]⟩
  exact j_weak _ (by exact ⟨rfl, rfl, rfl, rfl, trivial⟩) (lp4 40 1 0 h rfl (by omega) (by omega) (by omega) hR.symm)
set_option maxHeartbeats 1000000 in
theorem c_linksOf (s : Nat) (hs : s < 4) : Con l G yX11_linksOf cX11_linksOf 4 (some .int) 1 0 0 [.ref o, .int (nI s)] (mw o ad G.2.1 (setHd M h)) (pI (f_links h s) (mw o ad G.2.1 (setHd M h))) := by
  refine Con.mk (own := RX11) (by decide) rfl (Nat.le_of_ble_eq_true rfl) (fun X C => ?_)
  have lp8 : ∀ (m : Nat) (k : Nat), 576 - k = m → k ≤ (if s = 3 then 288 else 576) → J X 4 0 0 (mw o ad G.2.1 (setHd M h)) 8 [(0, .ref o), (1, .int (nI s)), (2, .int (f_lnk h (576 * s) k)), (3, .int (nI (576 * s + k)))] [] := by
    intro m
    induction m using Nat.strongRecOn with
    | ind m ilp8 =>
    intro k hm hk
    refine j_iload_n 9 C dX11_linksOf_8 rfl rfl ?_
    refine j_iload_n 10 C dX11_linksOf_9 rfl rfl ?_
    refine j_iconst 11 C dX11_linksOf_10 rfl (v := nI 3) (by decide) ?_
    refine j_icmp_neN 20 14 C dX11_linksOf_11 (by decide) rfl (by omega) (by omega) (fun c11 => ?_) (fun c11 => ?_)
    · rw [if_neg c11] at hk
      refine j_sipush 23 C dX11_linksOf_20 rfl (v := nI 576) (by decide) ?_
      refine j_iload_n 24 C dX11_linksOf_23 rfl rfl ?_
      refine j_iconst 25 C dX11_linksOf_24 rfl (v := nI 1) (by decide) ?_
      refine j_iaddN 26 C dX11_linksOf_25 rfl ?_
      refine j_imulN 27 C dX11_linksOf_26 rfl ?_
      refine j_icmp_geN 53 30 C dX11_linksOf_27 (by decide) rfl (by omega) (by omega) (fun c27 => ?_) (fun c27 => ?_)
      · refine j_iload_n 54 C dX11_linksOf_53 rfl rfl ?_
        exact j_iret C dX11_linksOf_54 ⟨by rw [f_links, if_neg c11, show k = 576 by omega], rfl⟩
      · refine j_iload_n 31 C dX11_linksOf_30 rfl rfl ?_
        refine j_aload_n 32 C dX11_linksOf_31 rfl rfl ?_
        refine rgH_head 35 C dX11_linksOf_32 rfl ?_
        refine j_iload_n 36 C dX11_linksOf_35 rfl rfl ?_
        refine raH_head 37 C dX11_linksOf_36 rfl _ (by omega) rfl ?_
        refine j_if_le 44 40 C dX11_linksOf_37 (by decide) rfl (fun c37 => ?_) (fun c37 => ?_)
        · refine j_iconst 45 C dX11_linksOf_44 rfl (v := nI 0) (by decide) ?_
          refine j_iadd 46 C dX11_linksOf_45 rfl ?_
          rw [show f_lnk h (576 * s) k + _ = f_lnk h (576 * s) (k + 1) from by show _ = f_lnk h (576 * s) k + (if h (576 * s + k) ≤ 0 then nI 0 else nI 1); rw [if_pos c37]]
          refine j_istore_n 47 C dX11_linksOf_46 rfl rfl (by decide) ?_
          refine j_iincN 50 (z := 1) C dX11_linksOf_47 rfl rfl rfl (by decide) ?_
          refine j_goto 8 C dX11_linksOf_50 (by decide) ?_
          exact j_weak _ (by exact ⟨rfl, rfl, rfl, rfl, trivial⟩) (ilp8 _ (by omega) (k + 1) rfl (by rw [if_neg c11]; omega))
        · refine j_iconst 41 C dX11_linksOf_40 rfl (v := nI 1) (by decide) ?_
          refine j_goto 45 C dX11_linksOf_41 (by decide) ?_
          refine j_iadd 46 C dX11_linksOf_45 rfl ?_
          rw [show f_lnk h (576 * s) k + _ = f_lnk h (576 * s) (k + 1) from by show _ = f_lnk h (576 * s) k + (if h (576 * s + k) ≤ 0 then nI 0 else nI 1); rw [if_neg c37]]
          refine j_istore_n 47 C dX11_linksOf_46 rfl rfl (by decide) ?_
          refine j_iincN 50 (z := 1) C dX11_linksOf_47 rfl rfl rfl (by decide) ?_
          refine j_goto 8 C dX11_linksOf_50 (by decide) ?_
          exact j_weak _ (by exact ⟨rfl, rfl, rfl, rfl, trivial⟩) (ilp8 _ (by omega) (k + 1) rfl (by rw [if_neg c11]; omega))
    · rw [if_pos c11] at hk
      refine j_sipush 17 C dX11_linksOf_14 rfl (v := nI 2016) (by decide) ?_
      refine j_goto 27 C dX11_linksOf_17 (by decide) ?_
      refine j_icmp_geN 53 30 C dX11_linksOf_27 (by decide) rfl (by omega) (by omega) (fun c27 => ?_) (fun c27 => ?_)
      · refine j_iload_n 54 C dX11_linksOf_53 rfl rfl ?_
        exact j_iret C dX11_linksOf_54 ⟨by rw [f_links, if_pos c11, show k = 288 by omega], rfl⟩
      · refine j_iload_n 31 C dX11_linksOf_30 rfl rfl ?_
        refine j_aload_n 32 C dX11_linksOf_31 rfl rfl ?_
        refine rgH_head 35 C dX11_linksOf_32 rfl ?_
        refine j_iload_n 36 C dX11_linksOf_35 rfl rfl ?_
        refine raH_head 37 C dX11_linksOf_36 rfl _ (by omega) rfl ?_
        refine j_if_le 44 40 C dX11_linksOf_37 (by decide) rfl (fun c37 => ?_) (fun c37 => ?_)
        · refine j_iconst 45 C dX11_linksOf_44 rfl (v := nI 0) (by decide) ?_
          refine j_iadd 46 C dX11_linksOf_45 rfl ?_
          rw [show f_lnk h (576 * s) k + _ = f_lnk h (576 * s) (k + 1) from by show _ = f_lnk h (576 * s) k + (if h (576 * s + k) ≤ 0 then nI 0 else nI 1); rw [if_pos c37]]
          refine j_istore_n 47 C dX11_linksOf_46 rfl rfl (by decide) ?_
          refine j_iincN 50 (z := 1) C dX11_linksOf_47 rfl rfl rfl (by decide) ?_
          refine j_goto 8 C dX11_linksOf_50 (by decide) ?_
          exact j_weak _ (by exact ⟨rfl, rfl, rfl, rfl, trivial⟩) (ilp8 _ (by omega) (k + 1) rfl (by rw [if_pos c11]; omega))
        · refine j_iconst 41 C dX11_linksOf_40 rfl (v := nI 1) (by decide) ?_
          refine j_goto 45 C dX11_linksOf_41 (by decide) ?_
          refine j_iadd 46 C dX11_linksOf_45 rfl ?_
          rw [show f_lnk h (576 * s) k + _ = f_lnk h (576 * s) (k + 1) from by show _ = f_lnk h (576 * s) k + (if h (576 * s + k) ≤ 0 then nI 0 else nI 1); rw [if_neg c37]]
          refine j_istore_n 47 C dX11_linksOf_46 rfl rfl (by decide) ?_
          refine j_iincN 50 (z := 1) C dX11_linksOf_47 rfl rfl rfl (by decide) ?_
          refine j_goto 8 C dX11_linksOf_50 (by decide) ?_
          exact j_weak _ (by exact ⟨rfl, rfl, rfl, rfl, trivial⟩) (ilp8 _ (by omega) (k + 1) rfl (by rw [if_pos c11]; omega))
  refine j_iconst 1 C dX11_linksOf_0 rfl (v := nI 0) (by decide) ?_
  refine j_istore_n 2 C dX11_linksOf_1 rfl rfl (by decide) ?_
  refine j_sipush 5 C dX11_linksOf_2 rfl (v := nI 576) (by decide) ?_
  refine j_iload_n 6 C dX11_linksOf_5 rfl rfl ?_
  refine j_imulN 7 C dX11_linksOf_6 rfl ?_
  refine j_istore_n 8 C dX11_linksOf_7 rfl rfl (by decide) ?_
  exact j_weak _ (by exact ⟨rfl, rfl, rfl, rfl, trivial⟩) (lp8 _ 0 rfl (Nat.zero_le _))
end S4
