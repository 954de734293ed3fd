def f_cut (v : Int64) (w : Int32) : Int64 := v <<< ((nI 64 - nI 8 <<< (w &&& 31)).toInt64 &&& 63) >>> ((nI 64 - nI 8 <<< (w &&& 31)).toInt64 &&& 63)
def f_law (wd hd : Nat → Int32) (cl cv what sort strength thing : Int32) : Int64 :=
  if isI what 3 ∧ isI sort 4 ∧ isI strength 1001 ∧ isI thing (nth wd) then (if tn what = 2 ∧ 0 < tn sort then lN 0 else f_comes wd hd cl cv (if tn what = 2 then 8 else 4 * tn what + tn sort) strength (wd (10 + tn thing))) else -2000000000
def f_fg (h : Nat → Int32) : Nat → Int32
  | 0 => nI 0
  | s + 1 => f_fg h s + f_links h s
def f_cs (mn : Nat → Int32) : Nat → Int32
  | 0 => nI 0
  | s + 1 => f_cs mn s + (if mn s = -1 then nI 0 else nI 1)
def lR (M : MS) (f : Nat) (g : Nat → Int64) : MS := (M.1, M.2.1, va_up M.2.2 f g)
theorem lS_lR (M : MS) (f i : Nat) (g : Nat → Int64) (v : Int64) : lS (lR M f g) f i v = lR M f (vp_updL g i v) := by
  unfold lS lR
  simp only [bx_uu]
  congr 3
  show vp_updL (va_up M.2.2 f g f) i v = _
  unfold va_up
  rw [if_pos rfl]
theorem lR_self (M : MS) (f : Nat) : lR M f (M.2.2 f) = M := by unfold lR; rw [vup_self]
def zL (g : Nat → Int64) (k j : Nat) : Nat → Int64 := fun x => if k ≤ x ∧ x < k + j then lN 0 else g x
theorem zL_0 (g : Nat → Int64) (k : Nat) : zL g k 0 = g := by funext x; unfold zL; rw [if_neg (by omega)]
theorem zL_step (g : Nat → Int64) (k j : Nat) : vp_updL (zL g k j) (k + j) (lN 0) = zL g k (j + 1) := by
  funext x
  unfold vp_updL zL
  by_cases e : x = k + j
  · rw [if_pos e, if_pos (by omega)]
  · rw [if_neg e]
    by_cases e2 : k ≤ x ∧ x < k + j
    · rw [if_pos e2, if_pos (by omega)]
    · rw [if_neg e2, if_neg (by omega)]
theorem cpyL_step (f g : Nat → Int64) (sp dp k : Nat) : vp_updL (va_cpy f g sp dp k) (dp + k) (f (sp + k)) = va_cpy f g sp dp (k + 1) := by
  funext j
  unfold vp_updL va_cpy
  by_cases h : j = dp + k
  · rw [if_pos h, if_pos (by omega), show sp + (j - dp) = sp + k by omega]
  · rw [if_neg h]
    by_cases h2 : dp ≤ j ∧ j < dp + k
    · rw [if_pos h2, if_pos (by omega)]
    · rw [if_neg h2, if_neg (by omega)]
theorem cpyL_0 (f g : Nat → Int64) (sp dp : Nat) : va_cpy f g sp dp 0 = g := by
  funext j; unfold va_cpy; rw [if_neg (by omega)]
/-- the SLOTS as they can be -/
def WS (mn wi : Nat → Int32) : Prop := ∀ s, s < 4 → (mn s = -1 ∨ ∃ m, m ≤ 60 ∧ mn s = nI m) ∧ ∃ w, w < 4 ∧ wi s = nI w
def f_fb (five : Nat → Int32) (k : Nat) : Int32 := vp_nar .byte (five (k / 4) >>> (nI (24 - 8 * (k % 4)) &&& 31)).toInt8.toInt32
def f_tp (tape five : Nat → Int32) (t : Nat) : Nat → (Nat → Int32)
  | 0 => tape
  | k + 1 => upd (f_tp tape five t k) (t + k) (f_fb five k)
def five5 (f : Nat → Int32) (a b c d e : Int32) : Nat → Int32 := upd (upd (upd (upd (upd f 0 a) 1 b) 2 c) 3 d) 4 e
theorem sw13 (c : Int32) : (∃ j, j ≤ 12 ∧ c = nI j) ∨ (¬ isI c 13 ∧ (c.toInt < 0 ∨ 12 < c.toInt)) := by
  by_cases h : isI c 13
  · obtain ⟨j, hj, e⟩ := isI_of h
    exact Or.inl ⟨j, by omega, e⟩
  · refine Or.inr ⟨h, ?_⟩
    unfold isI at h
    omega
section S12
variable {l : Launch} {G : GG} {o : Nat} {ad : Nat → Nat} {M : MS} {h : Nat → Int32}
theorem c_end (n : Int32) {t : Nat} (ht : M.1 12 = nI t) (ht9 : t ≤ 900) : Con l G yX11_end cX11_end 2 (some .int) 2 0 0 [.ref o, .int n] (mw o ad G.2.1 M) (pI (if isI n (t + 1) then n else -1) (mw o ad G.2.1 (sS M 12 (if isI n (t + 1) then n else nI t)))) := by
  refine Con.mk (own := RX11) (by decide) rfl (Nat.le_of_ble_eq_true rfl) (fun X C => ?_)
  refine j_iload_n 1 C dX11_end_0 rfl rfl ?_
  refine j_i2l 2 C dX11_end_1 rfl ?_
  refine j_lconst 3 C dX11_end_2 rfl (v := lN 0) (by decide) ?_
  refine j_aload_n 4 C dX11_end_3 rfl rfl ?_
  refine rg_taped 7 C dX11_end_4 rfl ?_
  rw [ht]
  refine j_i2lN 8 C dX11_end_7 rfl (by omega) ?_
  refine j_sI 11 C dX11_end_8 rfl cw11_88 (c_in _ _ _) rfl (by decide) ⟨Nat.le_refl _, Nat.le_refl _⟩ rfl (Nat.le_of_ble_eq_true rfl) ?_
  rw [bI_iff (in_c (n := t + 1) (by rw [pk_lT (by omega)]; omega))]
  refine j_if_neB 16 14 C dX11_end_11 (by decide) rfl (fun c11 => ?_) (fun c11 => ?_)
  · refine j_aload_n 17 C dX11_end_16 rfl rfl ?_
    refine j_iload_n 18 C dX11_end_17 rfl rfl ?_
    refine rp_taped 21 C dX11_end_18 rfl ?_
    refine j_iload_n 22 C dX11_end_21 rfl rfl ?_
    exact j_iret C dX11_end_22 ⟨by rw [if_pos c11], by rw [if_pos c11]⟩
  · refine j_iconst 15 C dX11_end_14 rfl (v := (-1)) (by decide) ?_
    exact j_iret C dX11_end_15 ⟨by rw [if_neg c11], by rw [if_neg c11, sS_self ht]⟩
theorem c_fault (what : Int32) : Con l G yX11_fault cX11_fault 2 (some .int) 1 0 0 [.ref o, .int what] (mw o ad G.2.1 M) (pI (if what = 0 then M.1 19 else if what = nI 1 then M.1 20 else -1) (mw o ad G.2.1 M)) := by
  refine Con.mk (own := RX11) (by decide) rfl (Nat.le_of_ble_eq_true rfl) (fun X C => ?_)
  refine j_iload_n 1 C dX11_fault_0 rfl rfl ?_
  refine j_if_ne 11 4 C dX11_fault_1 (by decide) rfl (fun c1 => ?_) (fun c1 => ?_)
  · refine j_iload_n 12 C dX11_fault_11 rfl rfl ?_
    refine j_iconst 13 C dX11_fault_12 rfl (v := nI 1) (by decide) ?_
    refine j_icmp_ne 23 16 C dX11_fault_13 (by decide) rfl (fun c13 => ?_) (fun c13 => ?_)
    · refine j_iconst 24 C dX11_fault_23 rfl (v := (-1)) (by decide) ?_
      exact j_iret C dX11_fault_24 ⟨by rw [if_neg c1, if_neg c13], rfl⟩
    · refine j_aload_n 17 C dX11_fault_16 rfl rfl ?_
      refine rg_faultPlace 20 C dX11_fault_17 rfl ?_
      refine j_goto 24 C dX11_fault_20 (by decide) ?_
      exact j_iret C dX11_fault_24 ⟨by rw [if_neg c1, if_pos c13], rfl⟩
  · refine j_aload_n 5 C dX11_fault_4 rfl rfl ?_
    refine rg_faultKind 8 C dX11_fault_5 rfl ?_
    refine j_goto 24 C dX11_fault_8 (by decide) ?_
    exact j_iret C dX11_fault_24 ⟨by rw [if_pos c1], rfl⟩
theorem c_cut (v : Int64) (w : Int32) : Con l G yX11_cut cX11_cut 4 (some .long) 1 0 0 [.long v, .int w] [] (pL (f_cut v w) []) := by
  refine Con.mk (own := RX11) (by decide) rfl (Nat.le_of_ble_eq_true rfl) (fun X C => ?_)
  refine j_bipush 2 C dX11_cut_0 rfl (v := nI 64) (by decide) ?_
  refine j_bipush 4 C dX11_cut_2 rfl (v := nI 8) (by decide) ?_
  refine j_iload_n 5 C dX11_cut_4 rfl rfl ?_
  refine j_ishl 6 C dX11_cut_5 rfl ?_
  refine j_isub 7 C dX11_cut_6 rfl ?_
  refine j_istore_n 8 C dX11_cut_7 rfl rfl (by decide) ?_
  refine j_lload_n 9 C dX11_cut_8 rfl rfl ?_
  refine j_iload_n 10 C dX11_cut_9 rfl rfl ?_
  refine j_lshl 11 C dX11_cut_10 rfl ?_
  refine j_iload_n 12 C dX11_cut_11 rfl rfl ?_
  refine j_lshr 13 C dX11_cut_12 rfl ?_
  exact j_lret C dX11_cut_13 ⟨rfl, rfl⟩
set_option maxHeartbeats 1000000 in
theorem c_law (what sort strength thing : Int32) (hWF : WF (M.2.1 1)) : Con l G yX11_law cX11_law 5 (some .long) 3 0 0 [.ref o, .int what, .int sort, .int strength, .int thing] (mw o ad G.2.1 M) (pL (f_law (M.2.1 1) (M.2.1 2) (M.1 24) (M.1 25) what sort strength thing) (mw o ad G.2.1 M)) := by
  refine Con.mk (own := RX11) (by decide) rfl (Nat.le_of_ble_eq_true rfl) (fun X C => ?_)
  refine j_iload_n 1 C dX11_law_0 rfl rfl ?_
  refine j_i2l 2 C dX11_law_1 rfl ?_
  refine j_lconst 3 C dX11_law_2 rfl (v := lN 0) (by decide) ?_
  refine j_ldc2 6 C dX11_law_3 rfl (v := (2)) kc11_86 ?_
  refine j_sI 9 C dX11_law_6 rfl cw11_88 (c_in _ _ _) rfl (by decide) ⟨Nat.le_refl _, Nat.le_refl _⟩ rfl (Nat.le_of_ble_eq_true rfl) ?_
  rw [bI_iff (in_c (n := 3) (by decide))]
  refine j_if_eqB 45 12 C dX11_law_9 (by decide) rfl (fun c9 => ?_) (fun c9 => ?_)
  · refine j_ldc2 48 C dX11_law_45 rfl (v := (-2000000000)) kc11_259 ?_
    exact j_lret C dX11_law_48 ⟨by rw [f_law, if_neg (fun z => c9 z.1)], rfl⟩
  · obtain ⟨a, ha, rfl⟩ := isI_of c9
    refine j_iload_n 13 C dX11_law_12 rfl rfl ?_
    refine j_i2l 14 C dX11_law_13 rfl ?_
    refine j_lconst 15 C dX11_law_14 rfl (v := lN 0) (by decide) ?_
    refine j_ldc2 18 C dX11_law_15 rfl (v := (3)) kc11_251 ?_
    refine j_sI 21 C dX11_law_18 rfl cw11_88 (c_in _ _ _) rfl (by decide) ⟨Nat.le_refl _, Nat.le_refl _⟩ rfl (Nat.le_of_ble_eq_true rfl) ?_
    rw [bI_iff (in_c (n := 4) (by decide))]
    refine j_if_eqB 45 24 C dX11_law_21 (by decide) rfl (fun c21 => ?_) (fun c21 => ?_)
    · refine j_ldc2 48 C dX11_law_45 rfl (v := (-2000000000)) kc11_259 ?_
      exact j_lret C dX11_law_48 ⟨by rw [f_law, if_neg (fun z => c21 z.2.1)], rfl⟩
    · obtain ⟨s, hs, rfl⟩ := isI_of c21
      refine j_iload_n 25 C dX11_law_24 rfl rfl ?_
      refine j_i2l 26 C dX11_law_25 rfl ?_
      refine j_lconst 27 C dX11_law_26 rfl (v := lN 0) (by decide) ?_
      refine j_ldc2 30 C dX11_law_27 rfl (v := (1000)) kc11_253 ?_
      refine j_sI 33 C dX11_law_30 rfl cw11_88 (c_in _ _ _) rfl (by decide) ⟨Nat.le_refl _, Nat.le_refl _⟩ rfl (Nat.le_of_ble_eq_true rfl) ?_
      rw [bI_iff (in_c (n := 1001) (by decide))]
      refine j_if_eqB 45 36 C dX11_law_33 (by decide) rfl (fun c33 => ?_) (fun c33 => ?_)
      · refine j_ldc2 48 C dX11_law_45 rfl (v := (-2000000000)) kc11_259 ?_
        exact j_lret C dX11_law_48 ⟨by rw [f_law, if_neg (fun z => c33 z.2.2.1)], rfl⟩
      · refine j_aload_n 37 C dX11_law_36 rfl rfl ?_
        refine j_iload 39 C dX11_law_37 rfl rfl ?_
        refine j_mI 42 C dX11_law_39 rfl cw11_255 rfl (c_isThing _ hWF.2.1.1 (Nat.lt_of_le_of_lt hWF.2.1.2 (by decide))) rfl (by decide) rfl (Nat.le_of_ble_eq_true rfl) ?_
        refine j_if_neB 49 45 C dX11_law_42 (by decide) rfl (fun c42 => ?_) (fun c42 => ?_)
        · obtain ⟨t, ht, rfl⟩ := isI_of c42
          have ht24 : t < 24 := Nat.lt_of_lt_of_le ht hWF.2.1.2
          refine j_iload_n 50 C dX11_law_49 rfl rfl ?_
          refine j_iconst 51 C dX11_law_50 rfl (v := nI 2) (by decide) ?_
          refine j_icmp_neN 60 54 C dX11_law_51 (by decide) rfl (by omega) (by omega) (fun c51 => ?_) (fun c51 => ?_)
          · refine j_aload_n 61 C dX11_law_60 rfl rfl ?_
            refine j_iload_n 62 C dX11_law_61 rfl rfl ?_
            refine j_iconst 63 C dX11_law_62 rfl (v := nI 2) (by decide) ?_
            refine j_icmp_neN 71 66 C dX11_law_63 (by decide) rfl (by omega) (by omega) (fun c63 => ?_) (fun c63 => absurd c63 c51)
            refine j_iconst 72 C dX11_law_71 rfl (v := nI 4) (by decide) ?_
            refine j_iload_n 73 C dX11_law_72 rfl rfl ?_
            refine j_imulN 74 C dX11_law_73 rfl ?_
            refine j_iload_n 75 C dX11_law_74 rfl rfl ?_
            refine j_iaddN 76 C dX11_law_75 rfl ?_
            refine j_iload_n 77 C dX11_law_76 rfl rfl ?_
            refine j_aload_n 78 C dX11_law_77 rfl rfl ?_
            refine rg_world 81 C dX11_law_78 rfl ?_
            refine j_bipush 83 C dX11_law_81 rfl (v := nI 10) (by decide) ?_
            refine j_iload 85 C dX11_law_83 rfl rfl ?_
            refine j_iaddN 86 C dX11_law_85 rfl ?_
            refine ra_world 87 C dX11_law_86 rfl _ (by omega) rfl ?_
            refine j_mL 90 C dX11_law_87 rfl cw11_261 rfl (c_comesTo _ _ _ (by omega) hWF.1) rfl (by decide) rfl (Nat.le_of_ble_eq_true rfl) ?_
            exact j_lret C dX11_law_90 ⟨by rw [f_law, if_pos ⟨c9, c21, c33, c42⟩, tn_nI (by omega), tn_nI (by omega), tn_nI (by omega), if_neg (fun z => c51 z.1), if_neg c51], rfl⟩
          · refine j_iload_n 55 C dX11_law_54 rfl rfl ?_
            refine j_if_leN 60 58 C dX11_law_55 (by decide) rfl (by omega) (fun c55 => ?_) (fun c55 => ?_)
            · refine j_aload_n 61 C dX11_law_60 rfl rfl ?_
              refine j_iload_n 62 C dX11_law_61 rfl rfl ?_
              refine j_iconst 63 C dX11_law_62 rfl (v := nI 2) (by decide) ?_
              refine j_icmp_neN 71 66 C dX11_law_63 (by decide) rfl (by omega) (by omega) (fun c63 => absurd c51 c63) (fun c63 => ?_)
              refine j_bipush 68 C dX11_law_66 rfl (v := nI 8) (by decide) ?_
              refine j_goto 76 C dX11_law_68 (by decide) ?_
              refine j_iload_n 77 C dX11_law_76 rfl rfl ?_
              refine j_aload_n 78 C dX11_law_77 rfl rfl ?_
              refine rg_world 81 C dX11_law_78 rfl ?_
              refine j_bipush 83 C dX11_law_81 rfl (v := nI 10) (by decide) ?_
              refine j_iload 85 C dX11_law_83 rfl rfl ?_
              refine j_iaddN 86 C dX11_law_85 rfl ?_
              refine ra_world 87 C dX11_law_86 rfl _ (by omega) rfl ?_
              refine j_mL 90 C dX11_law_87 rfl cw11_261 rfl (c_comesTo _ _ _ (by omega) hWF.1) rfl (by decide) rfl (Nat.le_of_ble_eq_true rfl) ?_
              exact j_lret C dX11_law_90 ⟨by rw [f_law, if_pos ⟨c9, c21, c33, c42⟩, tn_nI (by omega), tn_nI (by omega), tn_nI (by omega), if_neg (fun z => by omega), if_pos c51], rfl⟩
            · refine j_lconst 59 C dX11_law_58 rfl (v := lN 0) (by decide) ?_
              exact j_lret C dX11_law_59 ⟨by rw [f_law, if_pos ⟨c9, c21, c33, c42⟩, tn_nI (by omega), tn_nI (by omega), tn_nI (by omega), if_pos ⟨c51, c55⟩], rfl⟩
        · refine j_ldc2 48 C dX11_law_45 rfl (v := (-2000000000)) kc11_259 ?_
          exact j_lret C dX11_law_48 ⟨by rw [f_law, if_neg (fun z => c42 z.2.2.2)], rfl⟩
theorem c_forget  : Con l G yX11_forget cX11_forget 3 (some .int) 2 0 0 [.ref o] (mw o ad G.2.1 (setHd M h)) (pI (f_fg h 4) (mw o ad G.2.1 (setHd (sS (sS M 3 (nI 0)) 4 (nI 0)) h00))) := by
  refine Con.mk (own := RX11) (by decide) rfl (Nat.le_of_ble_eq_true rfl) (fun X C => ?_)
  have lp4 : ∀ (m : Nat) (s : Nat), 4 - s = m → s ≤ 4 → J X 3 0 0 (mw o ad G.2.1 (setHd M h)) 4 [(0, .ref o), (1, .int (f_fg h s)), (2, .int (nI s))] [] := by
    intro m
    induction m using Nat.strongRecOn with
    | ind m ilp4 =>
    intro s hm hs
    refine j_iload_n 5 C dX11_forget_4 rfl rfl ?_
    refine j_iconst 6 C dX11_forget_5 rfl (v := nI 4) (by decide) ?_
    refine j_icmp_geN 23 9 C dX11_forget_6 (by decide) rfl (by omega) (by omega) (fun c6 => ?_) (fun c6 => ?_)
    · refine j_aload_n 24 C dX11_forget_23 rfl rfl ?_
      refine j_mV 27 C dX11_forget_24 rfl cw11_237 rfl c_clearHead rfl (by decide) rfl (Nat.le_of_ble_eq_true rfl) ?_
      refine j_aload_n 28 C dX11_forget_27 rfl rfl ?_
      refine j_iconst 29 C dX11_forget_28 rfl (v := nI 0) (by decide) ?_
      refine rpH_sittings 32 C dX11_forget_29 rfl ?_
      refine j_aload_n 33 C dX11_forget_32 rfl rfl ?_
      refine j_iconst 34 C dX11_forget_33 rfl (v := nI 0) (by decide) ?_
      refine rpH_lost 37 C dX11_forget_34 rfl ?_
      refine j_iload_n 38 C dX11_forget_37 rfl rfl ?_
      exact j_iret C dX11_forget_38 ⟨by rw [show s = 4 by omega], rfl⟩
    · refine j_iload_n 10 C dX11_forget_9 rfl rfl ?_
      refine j_aload_n 11 C dX11_forget_10 rfl rfl ?_
      refine j_iload_n 12 C dX11_forget_11 rfl rfl ?_
      refine j_mI 15 C dX11_forget_12 rfl cw11_330 rfl (c_linksOf s (by omega)) rfl (by decide) rfl (Nat.le_of_ble_eq_true rfl) ?_
      refine j_iadd 16 C dX11_forget_15 rfl ?_
      refine j_istore_n 17 C dX11_forget_16 rfl rfl (by decide) ?_
      refine j_iincN 20 (z := 1) C dX11_forget_17 rfl rfl rfl (by decide) ?_
      refine j_goto 4 C dX11_forget_20 (by decide) ?_
      exact j_weak _ (by exact ⟨rfl, rfl, rfl, trivial⟩) (ilp4 _ (by omega) (s + 1) rfl (by omega))
  refine j_iconst 1 C dX11_forget_0 rfl (v := nI 0) (by decide) ?_
  refine j_istore_n 2 C dX11_forget_1 rfl rfl (by decide) ?_
  refine j_iconst 3 C dX11_forget_2 rfl (v := nI 0) (by decide) ?_
  refine j_istore_n 4 C dX11_forget_3 rfl rfl (by decide) ?_
  exact j_weak _ (by exact ⟨rfl, rfl, rfl, trivial⟩) (lp4 _ 0 rfl (Nat.zero_le _))
def f_count (M : MS) (what : Int32) : Int32 :=
  if isI what 13 then (if tn what = 0 then M.2.1 1 1 else if tn what = 1 then M.2.1 1 2 else if tn what = 2 then M.2.1 1 0 else if tn what = 3 then M.1 12 else if tn what = 4 then M.2.1 2 2016 else if tn what = 5 then M.2.1 2 2017 else if tn what = 6 then M.1 3 else if tn what = 7 then M.2.1 1 4 else if tn what = 12 then f_cs (M.2.1 34) 4 else M.2.1 1 (5 + tn what - 8)) else -1
set_option maxHeartbeats 2000000 in
theorem c_count (what : Int32) : Con l G yX11_count cX11_count 4 (some .int) 1 0 0 [.ref o, .int what] (mw o ad G.2.1 M) (pI (f_count M what) (mw o ad G.2.1 M)) := by
  refine Con.mk (own := RX11) (by decide) rfl (Nat.le_of_ble_eq_true rfl) (fun X C => ?_)
  refine j_iconst 1 C dX11_count_0 rfl (v := nI 0) (by decide) ?_
  refine j_istore_n 2 C dX11_count_1 rfl rfl (by decide) ?_
  refine j_iload_n 3 C dX11_count_2 rfl rfl ?_
  rcases sw13 what with ⟨j, hj, rfl⟩ | ⟨hn, ho⟩
  · rcases (show j = 0 ∨ j = 1 ∨ j = 2 ∨ j = 3 ∨ j = 4 ∨ j = 5 ∨ j = 6 ∨ j = 7 ∨ j = 8 ∨ j = 9 ∨ j = 10 ∨ j = 11 ∨ j = 12 by omega) with rfl | rfl | rfl | rfl | rfl | rfl | rfl | rfl | rfl | rfl | rfl | rfl | rfl
    · have hv : f_count M (nI 0) = M.2.1 1 1 := by rw [f_count, if_pos (isI_nI (by decide) (by decide)), tn_nI (by decide)]; rfl
      refine j_tabIn 68 (off := 65) C dX11_count_3 (by decide) (by decide) (by decide) (by decide) ?_
      refine j_aload_n 69 C dX11_count_68 rfl rfl ?_
      refine rg_world 72 C dX11_count_69 rfl ?_
      refine j_iconst 73 C dX11_count_72 rfl (v := nI 1) (by decide) ?_
      refine ra_world 74 C dX11_count_73 rfl _ (by omega) rfl ?_
      exact j_iret C dX11_count_74 ⟨by rw [hv], rfl⟩
    · have hv : f_count M (nI 1) = M.2.1 1 2 := by rw [f_count, if_pos (isI_nI (by decide) (by decide)), tn_nI (by decide)]; rfl
      refine j_tabIn 75 (off := 72) C dX11_count_3 (by decide) (by decide) (by decide) (by decide) ?_
      refine j_aload_n 76 C dX11_count_75 rfl rfl ?_
      refine rg_world 79 C dX11_count_76 rfl ?_
      refine j_iconst 80 C dX11_count_79 rfl (v := nI 2) (by decide) ?_
      refine ra_world 81 C dX11_count_80 rfl _ (by omega) rfl ?_
      exact j_iret C dX11_count_81 ⟨by rw [hv], rfl⟩
    · have hv : f_count M (nI 2) = M.2.1 1 0 := by rw [f_count, if_pos (isI_nI (by decide) (by decide)), tn_nI (by decide)]; rfl
      refine j_tabIn 82 (off := 79) C dX11_count_3 (by decide) (by decide) (by decide) (by decide) ?_
      refine j_aload_n 83 C dX11_count_82 rfl rfl ?_
      refine rg_world 86 C dX11_count_83 rfl ?_
      refine j_iconst 87 C dX11_count_86 rfl (v := nI 0) (by decide) ?_
      refine ra_world 88 C dX11_count_87 rfl _ (by omega) rfl ?_
      exact j_iret C dX11_count_88 ⟨by rw [hv], rfl⟩
    · have hv : f_count M (nI 3) = M.1 12 := by rw [f_count, if_pos (isI_nI (by decide) (by decide)), tn_nI (by decide)]; rfl
      refine j_tabIn 89 (off := 86) C dX11_count_3 (by decide) (by decide) (by decide) (by decide) ?_
      refine j_aload_n 90 C dX11_count_89 rfl rfl ?_
      refine rg_taped 93 C dX11_count_90 rfl ?_
      exact j_iret C dX11_count_93 ⟨by rw [hv], rfl⟩
    · have hv : f_count M (nI 4) = M.2.1 2 2016 := by rw [f_count, if_pos (isI_nI (by decide) (by decide)), tn_nI (by decide)]; rfl
      refine j_tabIn 94 (off := 91) C dX11_count_3 (by decide) (by decide) (by decide) (by decide) ?_
      refine j_aload_n 95 C dX11_count_94 rfl rfl ?_
      refine rg_head 98 C dX11_count_95 rfl ?_
      refine j_sipush 101 C dX11_count_98 rfl (v := nI 2016) (by decide) ?_
      refine ra_head 102 C dX11_count_101 rfl _ (by omega) rfl ?_
      exact j_iret C dX11_count_102 ⟨by rw [hv], rfl⟩
    · have hv : f_count M (nI 5) = M.2.1 2 2017 := by rw [f_count, if_pos (isI_nI (by decide) (by decide)), tn_nI (by decide)]; rfl
      refine j_tabIn 103 (off := 100) C dX11_count_3 (by decide) (by decide) (by decide) (by decide) ?_
      refine j_aload_n 104 C dX11_count_103 rfl rfl ?_
      refine rg_head 107 C dX11_count_104 rfl ?_
      refine j_sipush 110 C dX11_count_107 rfl (v := nI 2017) (by decide) ?_
      refine ra_head 111 C dX11_count_110 rfl _ (by omega) rfl ?_
      exact j_iret C dX11_count_111 ⟨by rw [hv], rfl⟩
    · have hv : f_count M (nI 6) = M.1 3 := by rw [f_count, if_pos (isI_nI (by decide) (by decide)), tn_nI (by decide)]; rfl
      refine j_tabIn 112 (off := 109) C dX11_count_3 (by decide) (by decide) (by decide) (by decide) ?_
      refine j_aload_n 113 C dX11_count_112 rfl rfl ?_
      refine rg_sittings 116 C dX11_count_113 rfl ?_
      exact j_iret C dX11_count_116 ⟨by rw [hv], rfl⟩
    · have hv : f_count M (nI 7) = M.2.1 1 4 := by rw [f_count, if_pos (isI_nI (by decide) (by decide)), tn_nI (by decide)]; rfl
      refine j_tabIn 117 (off := 114) C dX11_count_3 (by decide) (by decide) (by decide) (by decide) ?_
      refine j_aload_n 118 C dX11_count_117 rfl rfl ?_
      refine rg_world 121 C dX11_count_118 rfl ?_
      refine j_iconst 122 C dX11_count_121 rfl (v := nI 4) (by decide) ?_
      refine ra_world 123 C dX11_count_122 rfl _ (by omega) rfl ?_
      exact j_iret C dX11_count_123 ⟨by rw [hv], rfl⟩
    · have hv : f_count M (nI 8) = M.2.1 1 5 := by rw [f_count, if_pos (isI_nI (by decide) (by decide)), tn_nI (by decide)]; rfl
      refine j_tabIn 124 (off := 121) C dX11_count_3 (by decide) (by decide) (by decide) (by decide) ?_
      refine j_aload_n 125 C dX11_count_124 rfl rfl ?_
      refine rg_world 128 C dX11_count_125 rfl ?_
      refine j_iconst 129 C dX11_count_128 rfl (v := nI 5) (by decide) ?_
      refine j_iload_n 130 C dX11_count_129 rfl rfl ?_
      refine j_iaddN 131 C dX11_count_130 rfl ?_
      refine j_bipush 133 C dX11_count_131 rfl (v := nI 8) (by decide) ?_
      refine j_isubN 134 C dX11_count_133 rfl (by decide) ?_
      refine ra_world 135 C dX11_count_134 rfl _ (by omega) rfl ?_
      exact j_iret C dX11_count_135 ⟨by rw [hv], rfl⟩
    · have hv : f_count M (nI 9) = M.2.1 1 6 := by rw [f_count, if_pos (isI_nI (by decide) (by decide)), tn_nI (by decide)]; rfl
      refine j_tabIn 124 (off := 121) C dX11_count_3 (by decide) (by decide) (by decide) (by decide) ?_
      refine j_aload_n 125 C dX11_count_124 rfl rfl ?_
      refine rg_world 128 C dX11_count_125 rfl ?_
      refine j_iconst 129 C dX11_count_128 rfl (v := nI 5) (by decide) ?_
      refine j_iload_n 130 C dX11_count_129 rfl rfl ?_
      refine j_iaddN 131 C dX11_count_130 rfl ?_
      refine j_bipush 133 C dX11_count_131 rfl (v := nI 8) (by decide) ?_
      refine j_isubN 134 C dX11_count_133 rfl (by decide) ?_
      refine ra_world 135 C dX11_count_134 rfl _ (by omega) rfl ?_
      exact j_iret C dX11_count_135 ⟨by rw [hv], rfl⟩
    · have hv : f_count M (nI 10) = M.2.1 1 7 := by rw [f_count, if_pos (isI_nI (by decide) (by decide)), tn_nI (by decide)]; rfl
      refine j_tabIn 124 (off := 121) C dX11_count_3 (by decide) (by decide) (by decide) (by decide) ?_
      refine j_aload_n 125 C dX11_count_124 rfl rfl ?_
      refine rg_world 128 C dX11_count_125 rfl ?_
      refine j_iconst 129 C dX11_count_128 rfl (v := nI 5) (by decide) ?_
      refine j_iload_n 130 C dX11_count_129 rfl rfl ?_
      refine j_iaddN 131 C dX11_count_130 rfl ?_
      refine j_bipush 133 C dX11_count_131 rfl (v := nI 8) (by decide) ?_
      refine j_isubN 134 C dX11_count_133 rfl (by decide) ?_
      refine ra_world 135 C dX11_count_134 rfl _ (by omega) rfl ?_
      exact j_iret C dX11_count_135 ⟨by rw [hv], rfl⟩
    · have hv : f_count M (nI 11) = M.2.1 1 8 := by rw [f_count, if_pos (isI_nI (by decide) (by decide)), tn_nI (by decide)]; rfl
      refine j_tabIn 124 (off := 121) C dX11_count_3 (by decide) (by decide) (by decide) (by decide) ?_
      refine j_aload_n 125 C dX11_count_124 rfl rfl ?_
      refine rg_world 128 C dX11_count_125 rfl ?_
      refine j_iconst 129 C dX11_count_128 rfl (v := nI 5) (by decide) ?_
      refine j_iload_n 130 C dX11_count_129 rfl rfl ?_
      refine j_iaddN 131 C dX11_count_130 rfl ?_
      refine j_bipush 133 C dX11_count_131 rfl (v := nI 8) (by decide) ?_
      refine j_isubN 134 C dX11_count_133 rfl (by decide) ?_
      refine ra_world 135 C dX11_count_134 rfl _ (by omega) rfl ?_
      exact j_iret C dX11_count_135 ⟨by rw [hv], rfl⟩
    · have hv : f_count M (nI 12) = f_cs (M.2.1 34) 4 := by rw [f_count, if_pos (isI_nI (by decide) (by decide)), tn_nI (by decide)]; rfl
      refine j_tabIn 136 (off := 133) C dX11_count_3 (by decide) (by decide) (by decide) (by decide) ?_
      refine j_iconst 137 C dX11_count_136 rfl (v := nI 0) (by decide) ?_
      refine j_istore_n 138 C dX11_count_137 rfl rfl (by decide) ?_
      have lp138 : ∀ (m : Nat) (s : Nat), 4 - s = m → s ≤ 4 → J X 4 0 0 (mw o ad G.2.1 M) 138 [(0, .ref o), (1, .int (nI 12)), (2, .int (f_cs (M.2.1 34) s)), (3, .int (nI s))] [] := by
        intro m
        induction m using Nat.strongRecOn with
        | ind m ilp138 =>
        intro s hm hs
        refine j_iload_n 139 C dX11_count_138 rfl rfl ?_
        refine j_iconst 140 C dX11_count_139 rfl (v := nI 4) (by decide) ?_
        refine j_icmp_geN 167 143 C dX11_count_140 (by decide) rfl (by omega) (by omega) (fun c140 => ?_) (fun c140 => ?_)
        · refine j_iload_n 168 C dX11_count_167 rfl rfl ?_
          exact j_iret C dX11_count_168 ⟨by rw [hv, show s = 4 by omega], rfl⟩
        · refine j_iload_n 144 C dX11_count_143 rfl rfl ?_
          refine j_aload_n 145 C dX11_count_144 rfl rfl ?_
          refine rg_many 148 C dX11_count_145 rfl ?_
          refine j_iload_n 149 C dX11_count_148 rfl rfl ?_
          refine ra_many 150 C dX11_count_149 rfl _ (by omega) rfl ?_
          refine j_iconst 151 C dX11_count_150 rfl (v := (-1)) (by decide) ?_
          refine j_icmp_ne 158 154 C dX11_count_151 (by decide) rfl (fun c151 => ?_) (fun c151 => ?_)
          · refine j_iconst 159 C dX11_count_158 rfl (v := nI 1) (by decide) ?_
            refine j_iadd 160 C dX11_count_159 rfl ?_
            rw [show f_cs (M.2.1 34) s + _ = f_cs (M.2.1 34) (s + 1) from by show _ = f_cs (M.2.1 34) s + (if M.2.1 34 s = -1 then nI 0 else nI 1); rw [if_neg c151]]
            refine j_istore_n 161 C dX11_count_160 rfl rfl (by decide) ?_
            refine j_iincN 164 (z := 1) C dX11_count_161 rfl rfl rfl (by decide) ?_
            refine j_goto 138 C dX11_count_164 (by decide) ?_
            exact j_weak _ (by exact ⟨rfl, rfl, rfl, rfl, trivial⟩) (ilp138 _ (by omega) (s + 1) rfl (by omega))
          · refine j_iconst 155 C dX11_count_154 rfl (v := nI 0) (by decide) ?_
            refine j_goto 159 C dX11_count_155 (by decide) ?_
            refine j_iadd 160 C dX11_count_159 rfl ?_
            rw [show f_cs (M.2.1 34) s + _ = f_cs (M.2.1 34) (s + 1) from by show _ = f_cs (M.2.1 34) s + (if M.2.1 34 s = -1 then nI 0 else nI 1); rw [if_pos c151]]
            refine j_istore_n 161 C dX11_count_160 rfl rfl (by decide) ?_
            refine j_iincN 164 (z := 1) C dX11_count_161 rfl rfl rfl (by decide) ?_
            refine j_goto 138 C dX11_count_164 (by decide) ?_
            exact j_weak _ (by exact ⟨rfl, rfl, rfl, rfl, trivial⟩) (ilp138 _ (by omega) (s + 1) rfl (by omega))
      exact j_weak _ (by exact ⟨rfl, rfl, rfl, rfl, trivial⟩) (lp138 _ 0 rfl (Nat.zero_le _))
  · refine j_tabOut 169 C dX11_count_3 ho (by decide) ?_
    refine j_iconst 170 C dX11_count_169 rfl (v := (-1)) (by decide) ?_
    exact j_iret C dX11_count_170 ⟨by rw [f_count, if_neg hn], rfl⟩
set_option maxHeartbeats 2000000 in
theorem c_row (slot wd0 n : Int32) : Con l G yX11_row cX11_row 5 (some .int) 3 0 0 [.ref o, .int slot, .int wd0, .int n] (mw o ad G.2.1 M) (pI (if isI slot 4 ∧ isI wd0 4 ∧ n ≤ nI 60 then (if ¬ 0 ≤ n then -3 else nI 0) else -2) (mw o ad G.2.1 (if isI slot 4 ∧ isI wd0 4 ∧ n ≤ nI 60 then (if ¬ 0 ≤ n then M else lR (aR (aR M 34 (upd (M.2.1 34) (tn slot) n)) 35 (upd (M.2.1 35) (tn slot) wd0)) 36 (zL (M.2.2 36) (60 * tn slot) 60)) else M))) := by
  refine Con.mk (own := RX11) (by decide) rfl (Nat.le_of_ble_eq_true rfl) (fun X C => ?_)
  refine j_iload_n 1 C dX11_row_0 rfl rfl ?_
  refine j_sI 4 C dX11_row_1 rfl cw11_368 (c_isSlot _) rfl (by decide) ⟨Nat.le_refl _, Nat.le_refl _⟩ rfl (Nat.le_of_ble_eq_true rfl) ?_
  refine j_if_eqB 25 7 C dX11_row_4 (by decide) rfl (fun c4 => ?_) (fun c4 => ?_)
  · refine j_bipush 27 C dX11_row_25 rfl (v := (-2)) (by decide) ?_
    exact j_iret C dX11_row_27 ⟨by rw [if_neg (fun z => c4 z.1)], by rw [if_neg (fun z => c4 z.1)]⟩
  · obtain ⟨s, hs, rfl⟩ := isI_of c4
    refine j_iload_n 8 C dX11_row_7 rfl rfl ?_
    refine j_i2l 9 C dX11_row_8 rfl ?_
    refine j_lconst 10 C dX11_row_9 rfl (v := lN 0) (by decide) ?_
    refine j_ldc2 13 C dX11_row_10 rfl (v := (3)) kc11_251 ?_
    refine j_sI 16 C dX11_row_13 rfl cw11_88 (c_in _ _ _) rfl (by decide) ⟨Nat.le_refl _, Nat.le_refl _⟩ rfl (Nat.le_of_ble_eq_true rfl) ?_
    rw [bI_iff (in_c (n := 4) (by decide))]
    refine j_if_eqB 25 19 C dX11_row_16 (by decide) rfl (fun c16 => ?_) (fun c16 => ?_)
    · refine j_bipush 27 C dX11_row_25 rfl (v := (-2)) (by decide) ?_
      exact j_iret C dX11_row_27 ⟨by rw [if_neg (fun z => c16 z.2.1)], by rw [if_neg (fun z => c16 z.2.1)]⟩
    · obtain ⟨w, hw, rfl⟩ := isI_of c16
      refine j_iload_n 20 C dX11_row_19 rfl rfl ?_
      refine j_bipush 22 C dX11_row_20 rfl (v := nI 60) (by decide) ?_
      refine j_icmp_le 28 25 C dX11_row_22 (by decide) rfl (fun c22 => ?_) (fun c22 => ?_)
      · have hok : isI (nI s) 4 ∧ isI (nI w) 4 ∧ n ≤ nI 60 := ⟨c4, c16, c22⟩
        refine j_iload_n 29 C dX11_row_28 rfl rfl ?_
        refine j_if_ge 35 32 C dX11_row_29 (by decide) rfl (fun c29 => ?_) (fun c29 => ?_)
        · refine j_aload_n 36 C dX11_row_35 rfl rfl ?_
          refine rg_many 39 C dX11_row_36 rfl ?_
          refine j_iload_n 40 C dX11_row_39 rfl rfl ?_
          refine j_iload_n 41 C dX11_row_40 rfl rfl ?_
          refine rs_many 42 C dX11_row_41 rfl _ (by omega) rfl ?_
          refine j_aload_n 43 C dX11_row_42 rfl rfl ?_
          refine rg_width 46 C dX11_row_43 rfl ?_
          refine j_iload_n 47 C dX11_row_46 rfl rfl ?_
          refine j_iload_n 48 C dX11_row_47 rfl rfl ?_
          refine rs_width 49 C dX11_row_48 rfl _ (by omega) rfl ?_
          refine j_iconst 50 C dX11_row_49 rfl (v := nI 0) (by decide) ?_
          refine j_istore 52 C dX11_row_50 rfl rfl (by decide) ?_
          have lp52 : ∀ (m : Nat) (j : Nat), 60 - j = m → j ≤ 60 → J X 5 0 0 (mw o ad G.2.1 (lR (aR (aR M 34 (upd (M.2.1 34) s n)) 35 (upd (M.2.1 35) s (nI w))) 36 (zL (M.2.2 36) (60 * s) j))) 52 [(0, .ref o), (1, .int (nI s)), (2, .int (nI w)), (3, .int n), (4, .int (nI j))] [] := by
            intro m
            induction m using Nat.strongRecOn with
            | ind m ilp52 =>
            intro j hm hj
            refine j_iload 54 C dX11_row_52 rfl rfl ?_
            refine j_bipush 56 C dX11_row_54 rfl (v := nI 60) (by decide) ?_
            refine j_icmp_geN 78 59 C dX11_row_56 (by decide) rfl (by omega) (by omega) (fun c56 => ?_) (fun c56 => ?_)
            · refine j_iconst 79 C dX11_row_78 rfl (v := nI 0) (by decide) ?_
              exact j_iret C dX11_row_79 ⟨by rw [if_pos hok, if_neg (fun z => z c29)], by rw [show j = 60 by omega, if_pos hok, if_neg (fun z => z c29), tn_nI (by omega)]⟩
            · refine j_aload_n 60 C dX11_row_59 rfl rfl ?_
              refine rg_numbers 63 C dX11_row_60 rfl ?_
              refine j_bipush 65 C dX11_row_63 rfl (v := nI 60) (by decide) ?_
              refine j_iload_n 66 C dX11_row_65 rfl rfl ?_
              refine j_imulN 67 C dX11_row_66 rfl ?_
              refine j_iload 69 C dX11_row_67 rfl rfl ?_
              refine j_iaddN 70 C dX11_row_69 rfl ?_
              refine j_lconst 71 C dX11_row_70 rfl (v := lN 0) (by decide) ?_
              refine rs_numbers 72 C dX11_row_71 rfl _ (by omega) rfl ?_
              rw [lS_lR, zL_step]
              refine j_iincN 75 (z := 1) C dX11_row_72 rfl rfl rfl (by decide) ?_
              refine j_goto 52 C dX11_row_75 (by decide) ?_
              exact j_weak _ (by exact ⟨rfl, rfl, rfl, rfl, rfl, trivial⟩) (ilp52 _ (by omega) (j + 1) rfl (by omega))
          refine j_ws (mw o ad G.2.1 (lR (aR (aR M 34 (upd (M.2.1 34) s n)) 35 (upd (M.2.1 35) s (nI w))) 36 (zL (M.2.2 36) (60 * s) 0))) (by rw [zL_0]; rfl) ?_
          exact j_weak _ (by exact ⟨rfl, rfl, rfl, rfl, rfl, trivial⟩) (lp52 _ 0 rfl (Nat.zero_le _))
        · refine j_bipush 34 C dX11_row_32 rfl (v := (-3)) (by decide) ?_
          exact j_iret C dX11_row_34 ⟨by rw [if_pos hok, if_pos (fun z => c29 z)], by rw [if_pos hok, if_pos (fun z => c29 z)]⟩
      · refine j_bipush 27 C dX11_row_25 rfl (v := (-2)) (by decide) ?_
        exact j_iret C dX11_row_27 ⟨by rw [if_neg (fun z => c22 z.2.2)], by rw [if_neg (fun z => c22 z.2.2)]⟩
def f_wr (mn : Nat → Int32) (slot i : Int32) : Int32 := if isI slot 4 then (if mn (tn slot) = -1 then -6 else if isI i (tn (mn (tn slot))) then nI 0 else -7) else -2
def f_wrM (M : MS) (slot i : Int32) (v : Int64) : MS := if isI slot 4 ∧ ¬ M.2.1 34 (tn slot) = -1 ∧ isI i (tn (M.2.1 34 (tn slot))) then lR M 36 (vp_updL (M.2.2 36) (60 * tn slot + tn i) (f_cut v (M.2.1 35 (tn slot)))) else M
set_option maxHeartbeats 1000000 in
theorem c_write (slot i : Int32) (v : Int64) (hS : WS (M.2.1 34) (M.2.1 35)) : Con l G yX11_write cX11_write 5 (some .int) 3 0 0 [.ref o, .int slot, .int i, .long v] (mw o ad G.2.1 M) (pI (f_wr (M.2.1 34) slot i) (mw o ad G.2.1 (f_wrM M slot i v))) := by
  refine Con.mk (own := RX11) (by decide) rfl (Nat.le_of_ble_eq_true rfl) (fun X C => ?_)
  refine j_iload_n 1 C dX11_write_0 rfl rfl ?_
  refine j_sI 4 C dX11_write_1 rfl cw11_368 (c_isSlot _) rfl (by decide) ⟨Nat.le_refl _, Nat.le_refl _⟩ rfl (Nat.le_of_ble_eq_true rfl) ?_
  refine j_if_neB 10 7 C dX11_write_4 (by decide) rfl (fun c4 => ?_) (fun c4 => ?_)
  · obtain ⟨s, hs, rfl⟩ := isI_of c4
    obtain ⟨hm, wv, hwv, hwi⟩ := hS s hs
    refine j_aload_n 11 C dX11_write_10 rfl rfl ?_
    refine rg_many 14 C dX11_write_11 rfl ?_
    refine j_iload_n 15 C dX11_write_14 rfl rfl ?_
    refine ra_many 16 C dX11_write_15 rfl _ (by omega) rfl ?_
    refine j_iconst 17 C dX11_write_16 rfl (v := (-1)) (by decide) ?_
    refine j_icmp_ne 23 20 C dX11_write_17 (by decide) rfl (fun c17 => ?_) (fun c17 => ?_)
    · obtain ⟨m, hm60, hm⟩ := hm.resolve_left c17
      refine j_iload_n 24 C dX11_write_23 rfl rfl ?_
      refine j_i2l 25 C dX11_write_24 rfl ?_
      refine j_lconst 26 C dX11_write_25 rfl (v := lN 0) (by decide) ?_
      refine j_aload_n 27 C dX11_write_26 rfl rfl ?_
      refine rg_many 30 C dX11_write_27 rfl ?_
      refine j_iload_n 31 C dX11_write_30 rfl rfl ?_
      refine ra_many 32 C dX11_write_31 rfl _ (by omega) rfl ?_
      rw [hm]
      refine j_iconst 33 C dX11_write_32 rfl (v := nI 1) (by decide) ?_
      refine j_isub 34 C dX11_write_33 rfl ?_
      refine j_i2l 35 C dX11_write_34 rfl ?_
      refine j_sI 38 C dX11_write_35 rfl cw11_88 (c_in _ _ _) rfl (by decide) ⟨Nat.le_refl _, Nat.le_refl _⟩ rfl (Nat.le_of_ble_eq_true rfl) ?_
      rw [bI_iff (in_less (by omega))]
      refine j_if_neB 44 41 C dX11_write_38 (by decide) rfl (fun c38 => ?_) (fun c38 => ?_)
      · obtain ⟨q, hq, rfl⟩ := isI_of c38
        refine j_aload_n 45 C dX11_write_44 rfl rfl ?_
        refine rg_numbers 48 C dX11_write_45 rfl ?_
        refine j_bipush 50 C dX11_write_48 rfl (v := nI 60) (by decide) ?_
        refine j_iload_n 51 C dX11_write_50 rfl rfl ?_
        refine j_imulN 52 C dX11_write_51 rfl ?_
        refine j_iload_n 53 C dX11_write_52 rfl rfl ?_
        refine j_iaddN 54 C dX11_write_53 rfl ?_
        refine j_lload_n 55 C dX11_write_54 rfl rfl ?_
        refine j_aload_n 56 C dX11_write_55 rfl rfl ?_
        refine rg_width 59 C dX11_write_56 rfl ?_
        refine j_iload_n 60 C dX11_write_59 rfl rfl ?_
        refine ra_width 61 C dX11_write_60 rfl _ (by omega) rfl ?_
        refine j_sL 64 C dX11_write_61 rfl cw11_391 (c_cut _ _) rfl (by decide) ⟨Nat.le_refl _, Nat.le_refl _⟩ rfl (Nat.le_of_ble_eq_true rfl) ?_
        refine rs_numbers 65 C dX11_write_64 rfl _ (by omega) rfl ?_
        refine j_iconst 66 C dX11_write_65 rfl (v := nI 0) (by decide) ?_
        exact j_iret C dX11_write_66 ⟨by rw [f_wr, if_pos c4, tn_nI (by omega), if_neg c17, if_pos (by rw [hm, tn_nI (by omega)]; exact c38)], by rw [f_wrM, if_pos ⟨c4, by rw [tn_nI (by omega)]; exact c17, by rw [tn_nI (by omega), hm, tn_nI (by omega)]; exact c38⟩, tn_nI (by omega), tn_nI (by omega)]; rfl⟩
      · refine j_bipush 43 C dX11_write_41 rfl (v := (-7)) (by decide) ?_
        exact j_iret C dX11_write_43 ⟨by rw [f_wr, if_pos c4, tn_nI (by omega), if_neg c17, if_neg (by rw [hm, tn_nI (by omega)]; exact c38)], by rw [f_wrM, if_neg (fun z => c38 (by have := z.2.2; rwa [tn_nI (by omega), hm, tn_nI (by omega)] at this))]⟩
    · refine j_bipush 22 C dX11_write_20 rfl (v := (-6)) (by decide) ?_
      exact j_iret C dX11_write_22 ⟨by rw [f_wr, if_pos c4, tn_nI (by omega), if_pos c17], by rw [f_wrM, if_neg (fun z => z.2.1 (by rw [tn_nI (by omega)]; exact c17))]⟩
  · refine j_bipush 9 C dX11_write_7 rfl (v := (-2)) (by decide) ?_
    exact j_iret C dX11_write_9 ⟨by rw [f_wr, if_neg c4], by rw [f_wrM, if_neg (fun z => c4 z.1)]⟩
def f_kp (M : MS) (k : Int32) : MS := if isI k 3 then (let q := tn k
  (aR (aR (aR (aR (aR M 6 (va_cpy (M.2.1 1) (M.2.1 6) 0 (1120 * q) 1120)) 7 (va_cpy (M.2.1 2) (M.2.1 7) 0 (2018 * q) 2018)) 8 (va_cpy (M.2.1 5) (M.2.1 8) 0 (360 * q) 360)) 10 (upd (M.2.1 10) q (M.1 3))) 9 (upd (M.2.1 9) q (M.1 4)))) else M
set_option maxHeartbeats 4000000 in
theorem c_keep (k : Int32) : Con l G yX11_keep cX11_keep 3 (some .int) 2 0 0 [.ref o, .int k] (mw o ad G.2.1 M) (pI (if isI k 3 then nI 0 else -2) (mw o ad G.2.1 (f_kp M k))) := by
  refine Con.mk (own := RX11) (by decide) rfl (Nat.le_of_ble_eq_true rfl) (fun X C => ?_)
  refine j_iload_n 1 C dX11_keep_0 rfl rfl ?_
  refine j_i2l 2 C dX11_keep_1 rfl ?_
  refine j_lconst 3 C dX11_keep_2 rfl (v := lN 0) (by decide) ?_
  refine j_ldc2 6 C dX11_keep_3 rfl (v := (2)) kc11_86 ?_
  refine j_sI 9 C dX11_keep_6 rfl cw11_88 (c_in _ _ _) rfl (by decide) ⟨Nat.le_refl _, Nat.le_refl _⟩ rfl (Nat.le_of_ble_eq_true rfl) ?_
  rw [bI_iff (in_c (n := 3) (by decide))]
  refine j_if_neB 15 12 C dX11_keep_9 (by decide) rfl (fun c9 => ?_) (fun c9 => ?_)
  · obtain ⟨q, hq, rfl⟩ := isI_of c9
    refine j_iconst 16 C dX11_keep_15 rfl (v := nI 0) (by decide) ?_
    refine j_istore_n 17 C dX11_keep_16 rfl rfl (by decide) ?_
    have lp17 : ∀ (m : Nat) (k : Nat), 1120 - k = m → k ≤ 1120 → J X 3 0 0 (mw o ad G.2.1 (aR M 6 (va_cpy (M.2.1 1) (M.2.1 6) 0 (1120 * q) k))) 17 [(0, .ref o), (1, .int (nI q)), (2, .int (nI k))] [] := by
      intro m
      induction m using Nat.strongRecOn with
      | ind m ilp17 =>
      intro k hm hk
      refine j_iload_n 18 C dX11_keep_17 rfl rfl ?_
      refine j_sipush 21 C dX11_keep_18 rfl (v := nI 1120) (by decide) ?_
      refine j_icmp_geN 48 24 C dX11_keep_21 (by decide) rfl (by omega) (by omega) (fun c21 => ?_) (fun c21 => ?_)
      · refine j_iconst 49 C dX11_keep_48 rfl (v := nI 0) (by decide) ?_
        refine j_istore_n 50 C dX11_keep_49 rfl rfl (by decide) ?_
        rw [show k = 1120 by omega]
        have lp50 : ∀ (m : Nat) (k : Nat), 2018 - k = m → k ≤ 2018 → J X 3 0 0 (mw o ad G.2.1 (aR (aR M 6 (va_cpy (M.2.1 1) (M.2.1 6) 0 (1120 * q) 1120)) 7 (va_cpy (M.2.1 2) (M.2.1 7) 0 (2018 * q) k))) 50 [(0, .ref o), (1, .int (nI q)), (2, .int (nI k))] [] := by
          intro m
          induction m using Nat.strongRecOn with
          | ind m ilp50 =>
          intro k hm hk
          refine j_iload_n 51 C dX11_keep_50 rfl rfl ?_
          refine j_sipush 54 C dX11_keep_51 rfl (v := nI 2018) (by decide) ?_
          refine j_icmp_geN 81 57 C dX11_keep_54 (by decide) rfl (by omega) (by omega) (fun c54 => ?_) (fun c54 => ?_)
          · refine j_iconst 82 C dX11_keep_81 rfl (v := nI 0) (by decide) ?_
            refine j_istore_n 83 C dX11_keep_82 rfl rfl (by decide) ?_
            rw [show k = 2018 by omega]
            have lp83 : ∀ (m : Nat) (k : Nat), 360 - k = m → k ≤ 360 → J X 3 0 0 (mw o ad G.2.1 (aR (aR (aR M 6 (va_cpy (M.2.1 1) (M.2.1 6) 0 (1120 * q) 1120)) 7 (va_cpy (M.2.1 2) (M.2.1 7) 0 (2018 * q) 2018)) 8 (va_cpy (M.2.1 5) (M.2.1 8) 0 (360 * q) k))) 83 [(0, .ref o), (1, .int (nI q)), (2, .int (nI k))] [] := by
              intro m
              induction m using Nat.strongRecOn with
              | ind m ilp83 =>
              intro k hm hk
              refine j_iload_n 84 C dX11_keep_83 rfl rfl ?_
              refine j_sipush 87 C dX11_keep_84 rfl (v := nI 360) (by decide) ?_
              refine j_icmp_geN 114 90 C dX11_keep_87 (by decide) rfl (by omega) (by omega) (fun c87 => ?_) (fun c87 => ?_)
              · rw [show k = 360 by omega]
                refine j_aload_n 115 C dX11_keep_114 rfl rfl ?_
                refine rg_imageSittings 118 C dX11_keep_115 rfl ?_
                refine j_iload_n 119 C dX11_keep_118 rfl rfl ?_
                refine j_aload_n 120 C dX11_keep_119 rfl rfl ?_
                refine rg_sittings 123 C dX11_keep_120 rfl ?_
                refine rs_imageSittings 124 C dX11_keep_123 rfl _ (by omega) rfl ?_
                refine j_aload_n 125 C dX11_keep_124 rfl rfl ?_
                refine rg_imageLost 128 C dX11_keep_125 rfl ?_
                refine j_iload_n 129 C dX11_keep_128 rfl rfl ?_
                refine j_aload_n 130 C dX11_keep_129 rfl rfl ?_
                refine rg_lost 133 C dX11_keep_130 rfl ?_
                refine rs_imageLost 134 C dX11_keep_133 rfl _ (by omega) rfl ?_
                refine j_iconst 135 C dX11_keep_134 rfl (v := nI 0) (by decide) ?_
                exact j_iret C dX11_keep_135 ⟨by rw [if_pos c9], by rw [f_kp, if_pos c9, tn_nI (by omega)]; rfl⟩
              · refine j_aload_n 91 C dX11_keep_90 rfl rfl ?_
                refine rg_imageBook 94 C dX11_keep_91 rfl ?_
                refine j_sipush 97 C dX11_keep_94 rfl (v := nI 360) (by decide) ?_
                refine j_iload_n 98 C dX11_keep_97 rfl rfl ?_
                refine j_imulN 99 C dX11_keep_98 rfl ?_
                refine j_iload_n 100 C dX11_keep_99 rfl rfl ?_
                refine j_iaddN 101 C dX11_keep_100 rfl ?_
                refine j_aload_n 102 C dX11_keep_101 rfl rfl ?_
                refine rg_book 105 C dX11_keep_102 rfl ?_
                refine j_iload_n 106 C dX11_keep_105 rfl rfl ?_
                refine ra_book 107 C dX11_keep_106 rfl _ (by omega) rfl ?_
                refine rs_imageBook 108 C dX11_keep_107 rfl _ (by omega) rfl ?_
                rw [aS_aR]
                rw [show upd (va_cpy (M.2.1 5) (M.2.1 8) 0 (360 * q) k) (360 * q + k) _ = (va_cpy (M.2.1 5) (M.2.1 8) 0 (360 * q) (k + 1)) from by have z := cpy_step (M.2.1 5) (M.2.1 8) 0 (360 * q) k; rw [Nat.zero_add] at z; exact z]
                refine j_iincN 111 (z := 1) C dX11_keep_108 rfl rfl rfl (by decide) ?_
                refine j_goto 83 C dX11_keep_111 (by decide) ?_
                exact j_weak _ (by exact ⟨rfl, rfl, rfl, trivial⟩) (ilp83 _ (by omega) (k + 1) rfl (by omega))
            refine j_ws (mw o ad G.2.1 (aR (aR (aR M 6 (va_cpy (M.2.1 1) (M.2.1 6) 0 (1120 * q) 1120)) 7 (va_cpy (M.2.1 2) (M.2.1 7) 0 (2018 * q) 2018)) 8 (va_cpy (M.2.1 5) (M.2.1 8) 0 (360 * q) 0))) (by rw [show (va_cpy (M.2.1 5) (M.2.1 8) 0 (360 * q) 0) = M.2.1 8 from cpy_0 _ _ _ _]; exact (congrArg _ (aR_self (aR (aR M 6 (va_cpy (M.2.1 1) (M.2.1 6) 0 (1120 * q) 1120)) 7 (va_cpy (M.2.1 2) (M.2.1 7) 0 (2018 * q) 2018)) 8)).symm) ?_
            exact j_weak _ (by exact ⟨rfl, rfl, rfl, trivial⟩) (lp83 _ 0 rfl (Nat.zero_le _))
          · refine j_aload_n 58 C dX11_keep_57 rfl rfl ?_
            refine rg_imageHead 61 C dX11_keep_58 rfl ?_
            refine j_sipush 64 C dX11_keep_61 rfl (v := nI 2018) (by decide) ?_
            refine j_iload_n 65 C dX11_keep_64 rfl rfl ?_
            refine j_imulN 66 C dX11_keep_65 rfl ?_
            refine j_iload_n 67 C dX11_keep_66 rfl rfl ?_
            refine j_iaddN 68 C dX11_keep_67 rfl ?_
            refine j_aload_n 69 C dX11_keep_68 rfl rfl ?_
            refine rg_head 72 C dX11_keep_69 rfl ?_
            refine j_iload_n 73 C dX11_keep_72 rfl rfl ?_
            refine ra_head 74 C dX11_keep_73 rfl _ (by omega) rfl ?_
            refine rs_imageHead 75 C dX11_keep_74 rfl _ (by omega) rfl ?_
            rw [aS_aR]
            rw [show upd (va_cpy (M.2.1 2) (M.2.1 7) 0 (2018 * q) k) (2018 * q + k) _ = (va_cpy (M.2.1 2) (M.2.1 7) 0 (2018 * q) (k + 1)) from by have z := cpy_step (M.2.1 2) (M.2.1 7) 0 (2018 * q) k; rw [Nat.zero_add] at z; exact z]
            refine j_iincN 78 (z := 1) C dX11_keep_75 rfl rfl rfl (by decide) ?_
            refine j_goto 50 C dX11_keep_78 (by decide) ?_
            exact j_weak _ (by exact ⟨rfl, rfl, rfl, trivial⟩) (ilp50 _ (by omega) (k + 1) rfl (by omega))
        refine j_ws (mw o ad G.2.1 (aR (aR M 6 (va_cpy (M.2.1 1) (M.2.1 6) 0 (1120 * q) 1120)) 7 (va_cpy (M.2.1 2) (M.2.1 7) 0 (2018 * q) 0))) (by rw [show (va_cpy (M.2.1 2) (M.2.1 7) 0 (2018 * q) 0) = M.2.1 7 from cpy_0 _ _ _ _]; exact (congrArg _ (aR_self (aR M 6 (va_cpy (M.2.1 1) (M.2.1 6) 0 (1120 * q) 1120)) 7)).symm) ?_
        exact j_weak _ (by exact ⟨rfl, rfl, rfl, trivial⟩) (lp50 _ 0 rfl (Nat.zero_le _))
      · refine j_aload_n 25 C dX11_keep_24 rfl rfl ?_
        refine rg_imageWorld 28 C dX11_keep_25 rfl ?_
        refine j_sipush 31 C dX11_keep_28 rfl (v := nI 1120) (by decide) ?_
        refine j_iload_n 32 C dX11_keep_31 rfl rfl ?_
        refine j_imulN 33 C dX11_keep_32 rfl ?_
        refine j_iload_n 34 C dX11_keep_33 rfl rfl ?_
        refine j_iaddN 35 C dX11_keep_34 rfl ?_
        refine j_aload_n 36 C dX11_keep_35 rfl rfl ?_
        refine rg_world 39 C dX11_keep_36 rfl ?_
        refine j_iload_n 40 C dX11_keep_39 rfl rfl ?_
        refine ra_world 41 C dX11_keep_40 rfl _ (by omega) rfl ?_
        refine rs_imageWorld 42 C dX11_keep_41 rfl _ (by omega) rfl ?_
        rw [aS_aR]
        rw [show upd (va_cpy (M.2.1 1) (M.2.1 6) 0 (1120 * q) k) (1120 * q + k) _ = (va_cpy (M.2.1 1) (M.2.1 6) 0 (1120 * q) (k + 1)) from by have z := cpy_step (M.2.1 1) (M.2.1 6) 0 (1120 * q) k; rw [Nat.zero_add] at z; exact z]
        refine j_iincN 45 (z := 1) C dX11_keep_42 rfl rfl rfl (by decide) ?_
        refine j_goto 17 C dX11_keep_45 (by decide) ?_
        exact j_weak _ (by exact ⟨rfl, rfl, rfl, trivial⟩) (ilp17 _ (by omega) (k + 1) rfl (by omega))
    refine j_ws (mw o ad G.2.1 (aR M 6 (va_cpy (M.2.1 1) (M.2.1 6) 0 (1120 * q) 0))) (by rw [show (va_cpy (M.2.1 1) (M.2.1 6) 0 (1120 * q) 0) = M.2.1 6 from cpy_0 _ _ _ _, aR_self]) ?_
    exact j_weak _ (by exact ⟨rfl, rfl, rfl, trivial⟩) (lp17 _ 0 rfl (Nat.zero_le _))
  · refine j_bipush 14 C dX11_keep_12 rfl (v := (-2)) (by decide) ?_
    exact j_iret C dX11_keep_14 ⟨by rw [if_neg c9], by rw [f_kp, if_neg c9]⟩
end S12
