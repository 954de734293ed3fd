def len (wd : Nat → Int32) (r : Nat) : Nat := tn (wd (34 + 14 * r))
def th (wd : Nat → Int32) (r i : Nat) : Nat := tn (wd (34 + 14 * r + 1 + i))
def nth (wd : Nat → Int32) : Nat := tn (wd 1)
def nrw (wd : Nat → Int32) : Nat := tn (wd 2)
/-- a world as a TEXT leaves it -/
def WF (wd : Nat → Int32) : Prop := WL wd ∧ (wd 1 = nI (nth wd) ∧ nth wd ≤ 24) ∧ (wd 2 = nI (nrw wd) ∧ nrw wd ≤ 12) ∧ ∀ r, r < nrw wd → (wd (34 + 14 * r) = nI (len wd r) ∧ 2 ≤ len wd r ∧ len wd r ≤ 12) ∧ ∀ i, i < len wd r → wd (34 + 14 * r + 1 + i) = nI (th wd r i) ∧ th wd r i < nth wd
theorem f_link_lt {s a b : Nat} (hs : s < 3) (ha : a < 24) (hb : b < 24) : f_link s a b < 1728 := by
  rw [f_link, if_neg (by omega)]; omega
theorem f_link3 {a b : Nat} (ha : a < 24) (hb : b < 12) : f_link 3 a b < 2016 := by
  rw [f_link, if_pos rfl]; omega
theorem f_linkS {s a b : Nat} (hs : s < 3) (ha : a < 24) (hb : b < 24) : f_link s a b < 2016 := Nat.lt_trans (f_link_lt hs ha hb) (by decide)
def f_grow (wd : Nat → Int32) (cl cv : Int32) (hd : Nat → Int32) (s a b e : Nat) : Nat → Int32 := f_chg hd (f_link s a b) (f_comes wd hd cl cv s (hd (f_link s a b)) (wd (10 + e)))
def f_mix (wd : Nat → Int32) (cl cv : Int32) (a b : Nat) : Nat → (Nat → Int32) → (Nat → Int32)
  | 0, hd => hd
  | c + 1, hd => if ¬ c = b ∧ ¬ f_mix wd cl cv a b c hd (f_link 0 a c) ≤ 0 then f_chg (f_mix wd cl cv a b c hd) (f_link 0 a c) (-(f_comes wd (f_mix wd cl cv a b c hd) cl cv 8 (f_mix wd cl cv a b c hd (f_link 0 a c)) (wd (10 + c)))) else f_mix wd cl cv a b c hd
def f_rstep (wd : Nat → Int32) (cl cv : Int32) (r i : Nat) (hd : Nat → Int32) : Nat → Int32 :=
  if i = 0 then f_grow wd cl cv hd 3 (th wd r i) i (th wd r i) else
  f_mix wd cl cv (th wd r (i - 1)) (th wd r i) (nth wd) (if 1 < i then f_grow wd cl cv (f_grow wd cl cv (f_grow wd cl cv (f_grow wd cl cv hd 3 (th wd r i) i (th wd r i)) 0 (th wd r (i - 1)) (th wd r i) (th wd r i)) 1 (th wd r i) (th wd r (i - 1)) (th wd r (i - 1))) 2 (th wd r (i - 2)) (th wd r i) (th wd r i) else f_grow wd cl cv (f_grow wd cl cv (f_grow wd cl cv hd 3 (th wd r i) i (th wd r i)) 0 (th wd r (i - 1)) (th wd r i) (th wd r i)) 1 (th wd r i) (th wd r (i - 1)) (th wd r (i - 1)))
def f_rd (wd : Nat → Int32) (cl cv : Int32) (r : Nat) : Nat → (Nat → Int32) → (Nat → Int32)
  | 0, hd => hd
  | i + 1, hd => f_rstep wd cl cv r i (f_rd wd cl cv r i hd)
def f_reads (wd : Nat → Int32) (cl cv : Int32) (r : Nat) (hd : Nat → Int32) : Nat → Int32 := upd (f_rd wd cl cv r (len wd r) hd) 2017 (f_rd wd cl cv r (len wd r) hd 2017 + nI 1)
section S3
variable {l : Launch} {G : GG} {o : Nat} {ad : Nat → Nat} {M : MS} {h : Nat → Int32}
theorem c_comesToH (lw : Nat) (has easy : Int32) (hlw : lw < 9) (hL : WL (M.2.1 1)) : Con l G yX11_comesTo cX11_comesTo 14 (some .long) 2 0 0 [.ref o, .int (nI lw), .int has, .int easy] (mw o ad G.2.1 (setHd M h)) (pL (f_comes (M.2.1 1) h (M.1 24) (M.1 25) lw has easy) (mw o ad G.2.1 (setHd M h))) := c_comesTo (M := setHd M h) lw has easy hlw hL
theorem c_changesH (k : Nat) (d : Int64) (hk : k < 2018) : Con l G yX11_changes cX11_changes 6 none 2 0 0 [.ref o, .int (nI k), .long d] (mw o ad G.2.1 (setHd M h)) (pV (mw o ad G.2.1 (setHd M (f_chg h k d)))) := by
  have z := c_changes (l := l) (G := G) (o := o) (ad := ad) (M := setHd M h) k d hk
  rw [setHd_set] at z
  exact z
theorem c_manyOfH (r : Nat) (hr : r < 12) : Con l G yX11_manyOf cX11_manyOf 2 (some .int) 1 0 0 [.ref o, .int (nI r)] (mw o ad G.2.1 (setHd M h)) (pI (M.2.1 1 (34 + 14 * r)) (mw o ad G.2.1 (setHd M h))) := c_manyOf (M := setHd M h) r hr
theorem c_thingOfH (r i : Nat) (hr : r < 12) (hi : i < 12) : Con l G yX11_thingOf cX11_thingOf 3 (some .int) 1 0 0 [.ref o, .int (nI r), .int (nI i)] (mw o ad G.2.1 (setHd M h)) (pI (M.2.1 1 (34 + 14 * r + 1 + i)) (mw o ad G.2.1 (setHd M h))) := c_thingOf (M := setHd M h) r i hr hi
theorem c_isRowH (r : Int32) {nr : Nat} (hw : M.2.1 1 2 = nI nr) (hr : nr < 2 ^ 31) : Con l G yX11_isRow cX11_isRow 2 (some .boolean) 2 0 0 [.ref o, .int r] (mw o ad G.2.1 (setHd M h)) (pI (bI (isI r nr)) (mw o ad G.2.1 (setHd M h))) := c_isRow (M := setHd M h) r hw hr
theorem c_isThingH (r : Int32) {nt : Nat} (hw : M.2.1 1 1 = nI nt) (hr : nt < 2 ^ 31) : Con l G yX11_isThing cX11_isThing 2 (some .boolean) 2 0 0 [.ref o, .int r] (mw o ad G.2.1 (setHd M h)) (pI (bI (isI r nt)) (mw o ad G.2.1 (setHd M h))) := c_isThing (M := setHd M h) r hw hr
theorem c_grows (s a b e : Nat) (hs : s < 4) (hk : f_link s a b < 2016) (he : e < 24) (hL : WL (M.2.1 1)) : Con l G yX11_grows cX11_grows 6 none 3 0 0 [.ref o, .int (nI s), .int (nI a), .int (nI b), .int (nI e)] (mw o ad G.2.1 (setHd M h)) (pV (mw o ad G.2.1 (setHd M (f_grow (M.2.1 1) (M.1 24) (M.1 25) h s a b e)))) := by
  refine Con.mk (own := RX11) (by decide) rfl (Nat.le_of_ble_eq_true rfl) (fun X C => ?_)
  refine j_iload_n 1 C dX11_grows_0 rfl rfl ?_
  refine j_iload_n 2 C dX11_grows_1 rfl rfl ?_
  refine j_iload_n 3 C dX11_grows_2 rfl rfl ?_
  refine j_sI 6 C dX11_grows_3 rfl cw11_270 (c_linkAt _ _ _ hs) rfl (by decide) ⟨Nat.le_refl _, Nat.le_refl _⟩ rfl (Nat.le_of_ble_eq_true rfl) ?_
  refine j_istore 8 C dX11_grows_6 rfl rfl (by decide) ?_
  refine j_aload_n 9 C dX11_grows_8 rfl rfl ?_
  refine j_iload 11 C dX11_grows_9 rfl rfl ?_
  refine j_aload_n 12 C dX11_grows_11 rfl rfl ?_
  refine j_iload_n 13 C dX11_grows_12 rfl rfl ?_
  refine j_aload_n 14 C dX11_grows_13 rfl rfl ?_
  refine rgH_head 17 C dX11_grows_14 rfl ?_
  refine j_iload 19 C dX11_grows_17 rfl rfl ?_
  refine raH_head 20 C dX11_grows_19 rfl _ (by omega) rfl ?_
  refine j_aload_n 21 C dX11_grows_20 rfl rfl ?_
  refine rgH_world 24 C dX11_grows_21 rfl ?_
  refine j_bipush 26 C dX11_grows_24 rfl (v := nI 10) (by decide) ?_
  refine j_iload 28 C dX11_grows_26 rfl rfl ?_
  refine j_iaddN 29 C dX11_grows_28 rfl ?_
  refine raH_world 30 C dX11_grows_29 rfl _ (by omega) rfl ?_
  refine j_mL 33 C dX11_grows_30 rfl cw11_261 rfl (c_comesToH _ _ _ (by omega) hL) rfl (by decide) rfl (Nat.le_of_ble_eq_true rfl) ?_
  refine j_mV 36 C dX11_grows_33 rfl cw11_274 rfl (c_changesH _ _ (by omega)) rfl (by decide) rfl (Nat.le_of_ble_eq_true rfl) ?_
  exact j_vret C dX11_grows_36 ⟨rfl, rfl⟩
set_option maxHeartbeats 4000000 in
theorem c_reads (r : Nat) (hr : r < nrw (M.2.1 1)) (hWF : WF (M.2.1 1)) : Con l G yX11_reads cX11_reads 7 none 4 0 0 [.ref o, .int (nI r)] (mw o ad G.2.1 (setHd M h)) (pV (mw o ad G.2.1 (setHd M (f_reads (M.2.1 1) (M.1 24) (M.1 25) r h)))) := by
  refine Con.mk (own := RX11) (by decide) rfl (Nat.le_of_ble_eq_true rfl) (fun X C => ?_)
  obtain ⟨⟨hlen, hl2, hl12⟩, -⟩ := hWF.2.2.2 r hr
  obtain ⟨hnt, hnt24⟩ := hWF.2.1
  have hr12 : r < 12 := Nat.lt_of_lt_of_le hr hWF.2.2.1.2
  have lp2 : ∀ (m : Nat) (i : Nat), len (M.2.1 1) r - i = m → i ≤ len (M.2.1 1) r → J X 7 0 0 (mw o ad G.2.1 (setHd M (f_rd (M.2.1 1) (M.1 24) (M.1 25) r i h))) 2 [(0, .ref o), (1, .int (nI r)), (2, .int (nI i))] [] := by
    intro m
    induction m using Nat.strongRecOn with
    | ind m ilp2 =>
    intro i hm hi
    refine j_iload_n 3 C dX11_reads_2 rfl rfl ?_
    refine j_aload_n 4 C dX11_reads_3 rfl rfl ?_
    refine j_iload_n 5 C dX11_reads_4 rfl rfl ?_
    refine j_mI 8 C dX11_reads_5 rfl cw11_278 rfl (c_manyOfH r (by omega)) rfl (by decide) rfl (Nat.le_of_ble_eq_true rfl) ?_
    rw [hlen]
    refine j_icmp_geN 164 11 C dX11_reads_8 (by decide) rfl (by omega) (by omega) (fun c8 => ?_) (fun c8 => ?_)
    · refine j_aload_n 165 C dX11_reads_164 rfl rfl ?_
      refine rgH_head 168 C dX11_reads_165 rfl ?_
      refine j_sipush 171 C dX11_reads_168 rfl (v := nI 2017) (by decide) ?_
      refine j_dup2 172 C dX11_reads_171 rfl rfl rfl ?_
      refine raH_head 173 C dX11_reads_172 rfl _ (by omega) rfl ?_
      refine j_iconst 174 C dX11_reads_173 rfl (v := nI 1) (by decide) ?_
      refine j_iadd 175 C dX11_reads_174 rfl ?_
      refine rsH_head 176 C dX11_reads_175 rfl _ (by omega) rfl ?_
      exact j_vret C dX11_reads_176 ⟨rfl, by rw [show i = len (M.2.1 1) r by omega]; rfl⟩
    · obtain ⟨hti, htl⟩ := (hWF.2.2.2 r hr).2 i c8
      refine j_aload_n 12 C dX11_reads_11 rfl rfl ?_
      refine j_iload_n 13 C dX11_reads_12 rfl rfl ?_
      refine j_iload_n 14 C dX11_reads_13 rfl rfl ?_
      refine j_mI 17 C dX11_reads_14 rfl cw11_281 rfl (c_thingOfH r _ (by omega) (by omega)) rfl (by decide) rfl (Nat.le_of_ble_eq_true rfl) ?_
      rw [hti]
      refine j_istore_n 18 C dX11_reads_17 rfl rfl (by decide) ?_
      refine j_aload_n 19 C dX11_reads_18 rfl rfl ?_
      refine j_iconst 20 C dX11_reads_19 rfl (v := nI 3) (by decide) ?_
      refine j_iload_n 21 C dX11_reads_20 rfl rfl ?_
      refine j_iload_n 22 C dX11_reads_21 rfl rfl ?_
      refine j_iload_n 23 C dX11_reads_22 rfl rfl ?_
      refine j_mV 26 C dX11_reads_23 rfl cw11_284 rfl (c_grows _ _ _ _ (by decide) (by first | exact f_link3 (by omega) (by omega) | exact f_linkS (by decide) (by omega) (by omega)) (by omega) hWF.1) rfl (by decide) rfl (Nat.le_of_ble_eq_true rfl) ?_
      refine j_iload_n 27 C dX11_reads_26 rfl rfl ?_
      refine j_if_neN 33 30 C dX11_reads_27 (by decide) rfl (by omega) (fun c27 => ?_) (fun c27 => ?_)
      · refine j_aload_n 34 C dX11_reads_33 rfl rfl ?_
        refine j_iload_n 35 C dX11_reads_34 rfl rfl ?_
        refine j_iload_n 36 C dX11_reads_35 rfl rfl ?_
        refine j_iconst 37 C dX11_reads_36 rfl (v := nI 1) (by decide) ?_
        refine j_isubN 38 C dX11_reads_37 rfl (by omega) ?_
        refine j_mI 41 C dX11_reads_38 rfl cw11_281 rfl (c_thingOfH r _ (by omega) (by omega)) rfl (by decide) rfl (Nat.le_of_ble_eq_true rfl) ?_
        obtain ⟨hta, htal⟩ := (hWF.2.2.2 r hr).2 (i - 1) (by omega)
        rw [hta]
        refine j_istore 43 C dX11_reads_41 rfl rfl (by decide) ?_
        refine j_aload_n 44 C dX11_reads_43 rfl rfl ?_
        refine j_iconst 45 C dX11_reads_44 rfl (v := nI 0) (by decide) ?_
        refine j_iload 47 C dX11_reads_45 rfl rfl ?_
        refine j_iload_n 48 C dX11_reads_47 rfl rfl ?_
        refine j_iload_n 49 C dX11_reads_48 rfl rfl ?_
        refine j_mV 52 C dX11_reads_49 rfl cw11_284 rfl (c_grows _ _ _ _ (by decide) (by first | exact f_link3 (by omega) (by omega) | exact f_linkS (by decide) (by omega) (by omega)) (by omega) hWF.1) rfl (by decide) rfl (Nat.le_of_ble_eq_true rfl) ?_
        refine j_aload_n 53 C dX11_reads_52 rfl rfl ?_
        refine j_iconst 54 C dX11_reads_53 rfl (v := nI 1) (by decide) ?_
        refine j_iload_n 55 C dX11_reads_54 rfl rfl ?_
        refine j_iload 57 C dX11_reads_55 rfl rfl ?_
        refine j_iload 59 C dX11_reads_57 rfl rfl ?_
        refine j_mV 62 C dX11_reads_59 rfl cw11_284 rfl (c_grows _ _ _ _ (by decide) (by first | exact f_link3 (by omega) (by omega) | exact f_linkS (by decide) (by omega) (by omega)) (by omega) hWF.1) rfl (by decide) rfl (Nat.le_of_ble_eq_true rfl) ?_
        refine j_iload_n 63 C dX11_reads_62 rfl rfl ?_
        refine j_iconst 64 C dX11_reads_63 rfl (v := nI 1) (by decide) ?_
        refine j_icmp_leN 82 67 C dX11_reads_64 (by decide) rfl (by omega) (by omega) (fun c64 => ?_) (fun c64 => ?_)
        · refine j_iconst 83 C dX11_reads_82 rfl (v := nI 0) (by decide) ?_
          refine j_istore 85 C dX11_reads_83 rfl rfl (by decide) ?_
          obtain ⟨h4, hh4⟩ : ∃ h4, h4 = (f_grow (M.2.1 1) (M.1 24) (M.1 25) (f_grow (M.2.1 1) (M.1 24) (M.1 25) (f_grow (M.2.1 1) (M.1 24) (M.1 25) (f_rd (M.2.1 1) (M.1 24) (M.1 25) r i h) 3 (th (M.2.1 1) r i) i (th (M.2.1 1) r i)) 0 (th (M.2.1 1) r (i - 1)) (th (M.2.1 1) r i) (th (M.2.1 1) r i)) 1 (th (M.2.1 1) r i) (th (M.2.1 1) r (i - 1)) (th (M.2.1 1) r (i - 1))) := ⟨_, rfl⟩
          rw [← hh4]
          have hst : f_mix (M.2.1 1) (M.1 24) (M.1 25) (th (M.2.1 1) r (i - 1)) (th (M.2.1 1) r i) (nth (M.2.1 1)) h4 = f_rd (M.2.1 1) (M.1 24) (M.1 25) r (i + 1) h := by
            show _ = f_rstep (M.2.1 1) (M.1 24) (M.1 25) r i (f_rd (M.2.1 1) (M.1 24) (M.1 25) r i h)
            rw [f_rstep, if_neg (by omega), if_neg (by omega), hh4]
          clear hh4
          have lp85 : ∀ (m : Nat) (c : Nat), nth (M.2.1 1) - c = m → c ≤ nth (M.2.1 1) → J X 7 0 0 (mw o ad G.2.1 (setHd M (f_mix (M.2.1 1) (M.1 24) (M.1 25) (th (M.2.1 1) r (i - 1)) (th (M.2.1 1) r i) c h4))) 85 [(0, .ref o), (1, .int (nI r)), (2, .int (nI i)), (3, .int (nI (th (M.2.1 1) r i))), (4, .int (nI (th (M.2.1 1) r (i - 1)))), (5, .int (nI c))] [] := by
            intro m
            induction m using Nat.strongRecOn with
            | ind m ilp85 =>
            intro c hm hc
            refine j_iload 87 C dX11_reads_85 rfl rfl ?_
            refine j_aload_n 88 C dX11_reads_87 rfl rfl ?_
            refine rgH_world 91 C dX11_reads_88 rfl ?_
            refine j_iconst 92 C dX11_reads_91 rfl (v := nI 1) (by decide) ?_
            refine raH_world 93 C dX11_reads_92 rfl _ (by omega) rfl ?_
            rw [hnt]
            refine j_icmp_geN 158 96 C dX11_reads_93 (by decide) rfl (by omega) (by omega) (fun c93 => ?_) (fun c93 => ?_)
            · refine j_iincN 161 (z := 1) C dX11_reads_158 rfl rfl rfl (by decide) ?_
              refine j_goto 2 C dX11_reads_161 (by decide) ?_
              rw [show c = nth (M.2.1 1) by omega, hst]
              exact j_weak _ (by exact ⟨rfl, rfl, rfl, trivial⟩) (ilp2 _ (by omega) (i + 1) rfl (by omega))
            · refine j_iconst 97 C dX11_reads_96 rfl (v := nI 0) (by decide) ?_
              refine j_iload 99 C dX11_reads_97 rfl rfl ?_
              refine j_iload 101 C dX11_reads_99 rfl rfl ?_
              refine j_sI 104 C dX11_reads_101 rfl cw11_270 (c_linkAt _ _ _ (by decide)) rfl (by decide) ⟨Nat.le_refl _, Nat.le_refl _⟩ rfl (Nat.le_of_ble_eq_true rfl) ?_
              have hlk : f_link 0 (th (M.2.1 1) r (i - 1)) c < 2016 := f_linkS (by decide) (by omega) (by omega)
              refine j_istore 106 C dX11_reads_104 rfl rfl (by decide) ?_
              refine j_iload 108 C dX11_reads_106 rfl rfl ?_
              refine j_iload_n 109 C dX11_reads_108 rfl rfl ?_
              refine j_icmp_eqN 152 112 C dX11_reads_109 (by decide) rfl (by omega) (by omega) (fun c109 => ?_) (fun c109 => ?_)
              · refine j_iincN 155 (z := 1) C dX11_reads_152 rfl rfl rfl (by decide) ?_
                refine j_goto 85 C dX11_reads_155 (by decide) ?_
                rw [show (f_mix (M.2.1 1) (M.1 24) (M.1 25) (th (M.2.1 1) r (i - 1)) (th (M.2.1 1) r i) c h4) = (f_mix (M.2.1 1) (M.1 24) (M.1 25) (th (M.2.1 1) r (i - 1)) (th (M.2.1 1) r i) (c + 1) h4) from (if_neg (fun z => z.1 c109)).symm]
                exact j_weak _ (by exact ⟨rfl, rfl, rfl, rfl, rfl, rfl, trivial⟩) (ilp85 _ (by omega) (c + 1) rfl (by omega))
              · refine j_aload_n 113 C dX11_reads_112 rfl rfl ?_
                refine rgH_head 116 C dX11_reads_113 rfl ?_
                refine j_iload 118 C dX11_reads_116 rfl rfl ?_
                refine raH_head 119 C dX11_reads_118 rfl _ (by omega) rfl ?_
                refine j_if_le 152 122 C dX11_reads_119 (by decide) rfl (fun c119 => ?_) (fun c119 => ?_)
                · refine j_iincN 155 (z := 1) C dX11_reads_152 rfl rfl rfl (by decide) ?_
                  refine j_goto 85 C dX11_reads_155 (by decide) ?_
                  rw [show (f_mix (M.2.1 1) (M.1 24) (M.1 25) (th (M.2.1 1) r (i - 1)) (th (M.2.1 1) r i) c h4) = (f_mix (M.2.1 1) (M.1 24) (M.1 25) (th (M.2.1 1) r (i - 1)) (th (M.2.1 1) r i) (c + 1) h4) from (if_neg (fun z => z.2 c119)).symm]
                  exact j_weak _ (by exact ⟨rfl, rfl, rfl, rfl, rfl, rfl, trivial⟩) (ilp85 _ (by omega) (c + 1) rfl (by omega))
                · refine j_aload_n 123 C dX11_reads_122 rfl rfl ?_
                  refine j_iload 125 C dX11_reads_123 rfl rfl ?_
                  refine j_aload_n 126 C dX11_reads_125 rfl rfl ?_
                  refine j_bipush 128 C dX11_reads_126 rfl (v := nI 8) (by decide) ?_
                  refine j_aload_n 129 C dX11_reads_128 rfl rfl ?_
                  refine rgH_head 132 C dX11_reads_129 rfl ?_
                  refine j_iload 134 C dX11_reads_132 rfl rfl ?_
                  refine raH_head 135 C dX11_reads_134 rfl _ (by omega) rfl ?_
                  refine j_aload_n 136 C dX11_reads_135 rfl rfl ?_
                  refine rgH_world 139 C dX11_reads_136 rfl ?_
                  refine j_bipush 141 C dX11_reads_139 rfl (v := nI 10) (by decide) ?_
                  refine j_iload 143 C dX11_reads_141 rfl rfl ?_
                  refine j_iaddN 144 C dX11_reads_143 rfl ?_
                  refine raH_world 145 C dX11_reads_144 rfl _ (by omega) rfl ?_
                  refine j_mL 148 C dX11_reads_145 rfl cw11_261 rfl (c_comesToH _ _ _ (by decide) hWF.1) rfl (by decide) rfl (Nat.le_of_ble_eq_true rfl) ?_
                  refine j_lneg 149 C dX11_reads_148 rfl ?_
                  refine j_mV 152 C dX11_reads_149 rfl cw11_274 rfl (c_changesH _ _ (by omega)) rfl (by decide) rfl (Nat.le_of_ble_eq_true rfl) ?_
                  refine j_iincN 155 (z := 1) C dX11_reads_152 rfl rfl rfl (by decide) ?_
                  refine j_goto 85 C dX11_reads_155 (by decide) ?_
                  rw [show f_chg (f_mix (M.2.1 1) (M.1 24) (M.1 25) (th (M.2.1 1) r (i - 1)) (th (M.2.1 1) r i) c h4) (f_link 0 (th (M.2.1 1) r (i - 1)) c) _ = (f_mix (M.2.1 1) (M.1 24) (M.1 25) (th (M.2.1 1) r (i - 1)) (th (M.2.1 1) r i) (c + 1) h4) from (if_pos ⟨c109, c119⟩).symm]
                  exact j_weak _ (by exact ⟨rfl, rfl, rfl, rfl, rfl, rfl, trivial⟩) (ilp85 _ (by omega) (c + 1) rfl (by omega))
          exact j_weak _ (by exact ⟨rfl, rfl, rfl, rfl, rfl, rfl, trivial⟩) (lp85 _ 0 rfl (Nat.zero_le _))
        · refine j_aload_n 68 C dX11_reads_67 rfl rfl ?_
          refine j_iconst 69 C dX11_reads_68 rfl (v := nI 2) (by decide) ?_
          refine j_aload_n 70 C dX11_reads_69 rfl rfl ?_
          refine j_iload_n 71 C dX11_reads_70 rfl rfl ?_
          refine j_iload_n 72 C dX11_reads_71 rfl rfl ?_
          refine j_iconst 73 C dX11_reads_72 rfl (v := nI 2) (by decide) ?_
          refine j_isubN 74 C dX11_reads_73 rfl (by omega) ?_
          refine j_mI 77 C dX11_reads_74 rfl cw11_281 rfl (c_thingOfH r _ (by omega) (by omega)) rfl (by decide) rfl (Nat.le_of_ble_eq_true rfl) ?_
          obtain ⟨htz, htzl⟩ := (hWF.2.2.2 r hr).2 (i - 2) (by omega)
          rw [htz]
          refine j_iload_n 78 C dX11_reads_77 rfl rfl ?_
          refine j_iload_n 79 C dX11_reads_78 rfl rfl ?_
          refine j_mV 82 C dX11_reads_79 rfl cw11_284 rfl (c_grows _ _ _ _ (by decide) (by first | exact f_link3 (by omega) (by omega) | exact f_linkS (by decide) (by omega) (by omega)) (by omega) hWF.1) rfl (by decide) rfl (Nat.le_of_ble_eq_true rfl) ?_
          refine j_iconst 83 C dX11_reads_82 rfl (v := nI 0) (by decide) ?_
          refine j_istore 85 C dX11_reads_83 rfl rfl (by decide) ?_
          obtain ⟨h4, hh4⟩ : ∃ h4, h4 = (f_grow (M.2.1 1) (M.1 24) (M.1 25) (f_grow (M.2.1 1) (M.1 24) (M.1 25) (f_grow (M.2.1 1) (M.1 24) (M.1 25) (f_grow (M.2.1 1) (M.1 24) (M.1 25) (f_rd (M.2.1 1) (M.1 24) (M.1 25) r i h) 3 (th (M.2.1 1) r i) i (th (M.2.1 1) r i)) 0 (th (M.2.1 1) r (i - 1)) (th (M.2.1 1) r i) (th (M.2.1 1) r i)) 1 (th (M.2.1 1) r i) (th (M.2.1 1) r (i - 1)) (th (M.2.1 1) r (i - 1))) 2 (th (M.2.1 1) r (i - 2)) (th (M.2.1 1) r i) (th (M.2.1 1) r i)) := ⟨_, rfl⟩
          rw [← hh4]
          have hst : f_mix (M.2.1 1) (M.1 24) (M.1 25) (th (M.2.1 1) r (i - 1)) (th (M.2.1 1) r i) (nth (M.2.1 1)) h4 = f_rd (M.2.1 1) (M.1 24) (M.1 25) r (i + 1) h := by
            show _ = f_rstep (M.2.1 1) (M.1 24) (M.1 25) r i (f_rd (M.2.1 1) (M.1 24) (M.1 25) r i h)
            rw [f_rstep, if_neg (by omega), if_pos c64, hh4]
          clear hh4
          have lp85 : ∀ (m : Nat) (c : Nat), nth (M.2.1 1) - c = m → c ≤ nth (M.2.1 1) → J X 7 0 0 (mw o ad G.2.1 (setHd M (f_mix (M.2.1 1) (M.1 24) (M.1 25) (th (M.2.1 1) r (i - 1)) (th (M.2.1 1) r i) c h4))) 85 [(0, .ref o), (1, .int (nI r)), (2, .int (nI i)), (3, .int (nI (th (M.2.1 1) r i))), (4, .int (nI (th (M.2.1 1) r (i - 1)))), (5, .int (nI c))] [] := by
            intro m
            induction m using Nat.strongRecOn with
            | ind m ilp85 =>
            intro c hm hc
            refine j_iload 87 C dX11_reads_85 rfl rfl ?_
            refine j_aload_n 88 C dX11_reads_87 rfl rfl ?_
            refine rgH_world 91 C dX11_reads_88 rfl ?_
            refine j_iconst 92 C dX11_reads_91 rfl (v := nI 1) (by decide) ?_
            refine raH_world 93 C dX11_reads_92 rfl _ (by omega) rfl ?_
            rw [hnt]
            refine j_icmp_geN 158 96 C dX11_reads_93 (by decide) rfl (by omega) (by omega) (fun c93 => ?_) (fun c93 => ?_)
            · refine j_iincN 161 (z := 1) C dX11_reads_158 rfl rfl rfl (by decide) ?_
              refine j_goto 2 C dX11_reads_161 (by decide) ?_
              rw [show c = nth (M.2.1 1) by omega, hst]
              exact j_weak _ (by exact ⟨rfl, rfl, rfl, trivial⟩) (ilp2 _ (by omega) (i + 1) rfl (by omega))
            · refine j_iconst 97 C dX11_reads_96 rfl (v := nI 0) (by decide) ?_
              refine j_iload 99 C dX11_reads_97 rfl rfl ?_
              refine j_iload 101 C dX11_reads_99 rfl rfl ?_
              refine j_sI 104 C dX11_reads_101 rfl cw11_270 (c_linkAt _ _ _ (by decide)) rfl (by decide) ⟨Nat.le_refl _, Nat.le_refl _⟩ rfl (Nat.le_of_ble_eq_true rfl) ?_
              have hlk : f_link 0 (th (M.2.1 1) r (i - 1)) c < 2016 := f_linkS (by decide) (by omega) (by omega)
              refine j_istore 106 C dX11_reads_104 rfl rfl (by decide) ?_
              refine j_iload 108 C dX11_reads_106 rfl rfl ?_
              refine j_iload_n 109 C dX11_reads_108 rfl rfl ?_
              refine j_icmp_eqN 152 112 C dX11_reads_109 (by decide) rfl (by omega) (by omega) (fun c109 => ?_) (fun c109 => ?_)
              · refine j_iincN 155 (z := 1) C dX11_reads_152 rfl rfl rfl (by decide) ?_
                refine j_goto 85 C dX11_reads_155 (by decide) ?_
                rw [show (f_mix (M.2.1 1) (M.1 24) (M.1 25) (th (M.2.1 1) r (i - 1)) (th (M.2.1 1) r i) c h4) = (f_mix (M.2.1 1) (M.1 24) (M.1 25) (th (M.2.1 1) r (i - 1)) (th (M.2.1 1) r i) (c + 1) h4) from (if_neg (fun z => z.1 c109)).symm]
                exact j_weak _ (by exact ⟨rfl, rfl, rfl, rfl, rfl, rfl, trivial⟩) (ilp85 _ (by omega) (c + 1) rfl (by omega))
              · refine j_aload_n 113 C dX11_reads_112 rfl rfl ?_
                refine rgH_head 116 C dX11_reads_113 rfl ?_
                refine j_iload 118 C dX11_reads_116 rfl rfl ?_
                refine raH_head 119 C dX11_reads_118 rfl _ (by omega) rfl ?_
                refine j_if_le 152 122 C dX11_reads_119 (by decide) rfl (fun c119 => ?_) (fun c119 => ?_)
                · refine j_iincN 155 (z := 1) C dX11_reads_152 rfl rfl rfl (by decide) ?_
                  refine j_goto 85 C dX11_reads_155 (by decide) ?_
                  rw [show (f_mix (M.2.1 1) (M.1 24) (M.1 25) (th (M.2.1 1) r (i - 1)) (th (M.2.1 1) r i) c h4) = (f_mix (M.2.1 1) (M.1 24) (M.1 25) (th (M.2.1 1) r (i - 1)) (th (M.2.1 1) r i) (c + 1) h4) from (if_neg (fun z => z.2 c119)).symm]
                  exact j_weak _ (by exact ⟨rfl, rfl, rfl, rfl, rfl, rfl, trivial⟩) (ilp85 _ (by omega) (c + 1) rfl (by omega))
                · refine j_aload_n 123 C dX11_reads_122 rfl rfl ?_
                  refine j_iload 125 C dX11_reads_123 rfl rfl ?_
                  refine j_aload_n 126 C dX11_reads_125 rfl rfl ?_
                  refine j_bipush 128 C dX11_reads_126 rfl (v := nI 8) (by decide) ?_
                  refine j_aload_n 129 C dX11_reads_128 rfl rfl ?_
                  refine rgH_head 132 C dX11_reads_129 rfl ?_
                  refine j_iload 134 C dX11_reads_132 rfl rfl ?_
                  refine raH_head 135 C dX11_reads_134 rfl _ (by omega) rfl ?_
                  refine j_aload_n 136 C dX11_reads_135 rfl rfl ?_
                  refine rgH_world 139 C dX11_reads_136 rfl ?_
                  refine j_bipush 141 C dX11_reads_139 rfl (v := nI 10) (by decide) ?_
                  refine j_iload 143 C dX11_reads_141 rfl rfl ?_
                  refine j_iaddN 144 C dX11_reads_143 rfl ?_
                  refine raH_world 145 C dX11_reads_144 rfl _ (by omega) rfl ?_
                  refine j_mL 148 C dX11_reads_145 rfl cw11_261 rfl (c_comesToH _ _ _ (by decide) hWF.1) rfl (by decide) rfl (Nat.le_of_ble_eq_true rfl) ?_
                  refine j_lneg 149 C dX11_reads_148 rfl ?_
                  refine j_mV 152 C dX11_reads_149 rfl cw11_274 rfl (c_changesH _ _ (by omega)) rfl (by decide) rfl (Nat.le_of_ble_eq_true rfl) ?_
                  refine j_iincN 155 (z := 1) C dX11_reads_152 rfl rfl rfl (by decide) ?_
                  refine j_goto 85 C dX11_reads_155 (by decide) ?_
                  rw [show f_chg (f_mix (M.2.1 1) (M.1 24) (M.1 25) (th (M.2.1 1) r (i - 1)) (th (M.2.1 1) r i) c h4) (f_link 0 (th (M.2.1 1) r (i - 1)) c) _ = (f_mix (M.2.1 1) (M.1 24) (M.1 25) (th (M.2.1 1) r (i - 1)) (th (M.2.1 1) r i) (c + 1) h4) from (if_pos ⟨c109, c119⟩).symm]
                  exact j_weak _ (by exact ⟨rfl, rfl, rfl, rfl, rfl, rfl, trivial⟩) (ilp85 _ (by omega) (c + 1) rfl (by omega))
          exact j_weak _ (by exact ⟨rfl, rfl, rfl, rfl, rfl, rfl, trivial⟩) (lp85 _ 0 rfl (Nat.zero_le _))
      · refine j_goto 158 C dX11_reads_30 (by decide) ?_
        refine j_iincN 161 (z := 1) C dX11_reads_158 rfl rfl rfl (by decide) ?_
        refine j_goto 2 C dX11_reads_161 (by decide) ?_
        rw [show f_grow (M.2.1 1) (M.1 24) (M.1 25) (f_rd (M.2.1 1) (M.1 24) (M.1 25) r i h) 3 (th (M.2.1 1) r i) i (th (M.2.1 1) r i) = f_rd (M.2.1 1) (M.1 24) (M.1 25) r (i + 1) h from (if_pos (by omega)).symm]
        exact j_weak _ (by exact ⟨rfl, rfl, rfl, trivial⟩) (ilp2 _ (by omega) (i + 1) rfl (by omega))
  refine j_iconst 1 C dX11_reads_0 rfl (v := nI 0) (by decide) ?_
  refine j_istore_n 2 C dX11_reads_1 rfl rfl (by decide) ?_
  exact j_weak _ (by exact ⟨rfl, rfl, rfl, trivial⟩) (lp2 _ 0 rfl (Nat.zero_le _))
end S3
