def imgW (M : MS) (q : Nat) : Nat → Int32 := fun j => M.2.1 6 (1120 * q + j)
def imgH (M : MS) (q : Nat) : Nat → Int32 := fun j => M.2.1 7 (2018 * q + j)
def imgB (M : MS) (q : Nat) : Nat → Int32 := fun j => M.2.1 8 (360 * q + j)
theorem cpy_img (f g : Nat → Int32) (sp n : Nat) {j : Nat} (h : j < n) : va_cpy f g sp 0 n j = f (sp + j) := by
  rw [pk_cpy_in (by omega) (by omega), Nat.sub_zero]
def f_bk (M : MS) (q : Nat) : MS := aR (aR (aR (sS (sS M 3 (M.2.1 10 q)) 4 (M.2.1 9 q)) 1 (imgW M q)) 2 (imgH M q)) 5 (imgB M q)
section S13
variable {X : JX} {l : Launch} {G : GG} {cc : ByteArray} {nL : Nat} {own : String} {rt : Option FieldType} {d mc ms : Nat} {post : Option Value → va_W → Prop} {k n pc : Nat} {lv : List (Nat × Value)} {st : List Value} {o : Nat} {ad : Nat → Nat} {M : MS}
theorem j_ext1 {f f' : Nat → Int32} (hf : ∀ j, j < 1120 → f j = f' j) (kk : J X nL k n (mw o ad G.2.1 (aR M 1 f')) pc lv st) : J X nL k n (mw o ad G.2.1 (aR M 1 f)) pc lv st := j_exti 1 rfl hf rfl kk
theorem j_ext2 {f f' : Nat → Int32} (hf : ∀ j, j < 2018 → f j = f' j) (kk : J X nL k n (mw o ad G.2.1 (aR M 2 f')) pc lv st) : J X nL k n (mw o ad G.2.1 (aR M 2 f)) pc lv st := j_exti 2 rfl hf rfl kk
theorem j_ext5 {f f' : Nat → Int32} (hf : ∀ j, j < 360 → f j = f' j) (kk : J X nL k n (mw o ad G.2.1 (aR M 5 f')) pc lv st) : J X nL k n (mw o ad G.2.1 (aR M 5 f)) pc lv st := j_exti 3 rfl hf rfl kk
end S13
section S14
variable {l : Launch} {G : GG} {o : Nat} {ad : Nat → Nat} {M : MS} {h : Nat → Int32}
set_option maxHeartbeats 2000000 in
theorem c_takeImage (q : Nat) (hq : q < 3) : Con l G yX11_takeImage cX11_takeImage 3 none 1 0 0 [.ref o, .int (nI q)] (mw o ad G.2.1 M) (pV (mw o ad G.2.1 (aR (aR M 1 (imgW M q)) 2 (imgH M q)))) := by
  refine Con.mk (own := RX11) (by decide) rfl (Nat.le_of_ble_eq_true rfl) (fun X C => ?_)
  have lp2 : ∀ (m : Nat) (k : Nat), 1120 - k = m → k ≤ 1120 → J X 3 0 0 (mw o ad G.2.1 (aR M 1 (va_cpy (M.2.1 6) (M.2.1 1) (1120 * q) 0 k))) 2 [(0, .ref o), (1, .int (nI q)), (2, .int (nI k))] [] := by
    intro m
    induction m using Nat.strongRecOn with
    | ind m ilp2 =>
    intro k hm hk
    refine j_iload_n 3 C dX11_takeImage_2 rfl rfl ?_
    refine j_sipush 6 C dX11_takeImage_3 rfl (v := nI 1120) (by decide) ?_
    refine j_icmp_geN 33 9 C dX11_takeImage_6 (by decide) rfl (by omega) (by omega) (fun c6 => ?_) (fun c6 => ?_)
    · refine j_iconst 34 C dX11_takeImage_33 rfl (v := nI 0) (by decide) ?_
      refine j_istore_n 35 C dX11_takeImage_34 rfl rfl (by decide) ?_
      rw [show k = 1120 by omega]
      refine j_ext1 (f' := imgW M q) (fun j hj => cpy_img _ _ _ _ hj) ?_
      have lp35 : ∀ (m : Nat) (k : Nat), 2018 - k = m → k ≤ 2018 → J X 3 0 0 (mw o ad G.2.1 (aR (aR M 1 (imgW M q)) 2 (va_cpy (M.2.1 7) (M.2.1 2) (2018 * q) 0 k))) 35 [(0, .ref o), (1, .int (nI q)), (2, .int (nI k))] [] := by
        intro m
        induction m using Nat.strongRecOn with
        | ind m ilp35 =>
        intro k hm hk
        refine j_iload_n 36 C dX11_takeImage_35 rfl rfl ?_
        refine j_sipush 39 C dX11_takeImage_36 rfl (v := nI 2018) (by decide) ?_
        refine j_icmp_geN 66 42 C dX11_takeImage_39 (by decide) rfl (by omega) (by omega) (fun c39 => ?_) (fun c39 => ?_)
        · rw [show k = 2018 by omega]
          refine j_ext2 (f' := imgH M q) (fun j hj => cpy_img _ _ _ _ hj) ?_
          exact j_vret C dX11_takeImage_66 ⟨rfl, rfl⟩
        · refine j_aload_n 43 C dX11_takeImage_42 rfl rfl ?_
          refine rg_head 46 C dX11_takeImage_43 rfl ?_
          refine j_iload_n 47 C dX11_takeImage_46 rfl rfl ?_
          refine j_aload_n 48 C dX11_takeImage_47 rfl rfl ?_
          refine rg_imageHead 51 C dX11_takeImage_48 rfl ?_
          refine j_sipush 54 C dX11_takeImage_51 rfl (v := nI 2018) (by decide) ?_
          refine j_iload_n 55 C dX11_takeImage_54 rfl rfl ?_
          refine j_imulN 56 C dX11_takeImage_55 rfl ?_
          refine j_iload_n 57 C dX11_takeImage_56 rfl rfl ?_
          refine j_iaddN 58 C dX11_takeImage_57 rfl ?_
          refine ra_imageHead 59 C dX11_takeImage_58 rfl _ (by omega) rfl ?_
          refine rs_head 60 C dX11_takeImage_59 rfl _ (by omega) rfl ?_
          rw [aS_aR]
          rw [show upd (va_cpy (M.2.1 7) (M.2.1 2) (2018 * q) 0 k) k _ = va_cpy (M.2.1 7) (M.2.1 2) (2018 * q) 0 (k + 1) from by have z := cpy_step (M.2.1 7) (M.2.1 2) (2018 * q) 0 k; rw [Nat.zero_add] at z; exact z]
          refine j_iincN 63 (z := 1) C dX11_takeImage_60 rfl rfl rfl (by decide) ?_
          refine j_goto 35 C dX11_takeImage_63 (by decide) ?_
          exact j_weak _ (by exact ⟨rfl, rfl, rfl, trivial⟩) (ilp35 _ (by omega) (k + 1) rfl (by omega))
      refine j_ws (mw o ad G.2.1 (aR (aR M 1 (imgW M q)) 2 (va_cpy (M.2.1 7) (M.2.1 2) (2018 * q) 0 0))) (by rw [cpy_0]; exact (congrArg _ (aR_self (aR M 1 (imgW M q)) 2)).symm) ?_
      exact j_weak _ (by exact ⟨rfl, rfl, rfl, trivial⟩) (lp35 _ 0 rfl (Nat.zero_le _))
    · refine j_aload_n 10 C dX11_takeImage_9 rfl rfl ?_
      refine rg_world 13 C dX11_takeImage_10 rfl ?_
      refine j_iload_n 14 C dX11_takeImage_13 rfl rfl ?_
      refine j_aload_n 15 C dX11_takeImage_14 rfl rfl ?_
      refine rg_imageWorld 18 C dX11_takeImage_15 rfl ?_
      refine j_sipush 21 C dX11_takeImage_18 rfl (v := nI 1120) (by decide) ?_
      refine j_iload_n 22 C dX11_takeImage_21 rfl rfl ?_
      refine j_imulN 23 C dX11_takeImage_22 rfl ?_
      refine j_iload_n 24 C dX11_takeImage_23 rfl rfl ?_
      refine j_iaddN 25 C dX11_takeImage_24 rfl ?_
      refine ra_imageWorld 26 C dX11_takeImage_25 rfl _ (by omega) rfl ?_
      refine rs_world 27 C dX11_takeImage_26 rfl _ (by omega) rfl ?_
      rw [aS_aR]
      rw [show upd (va_cpy (M.2.1 6) (M.2.1 1) (1120 * q) 0 k) k _ = va_cpy (M.2.1 6) (M.2.1 1) (1120 * q) 0 (k + 1) from by have z := cpy_step (M.2.1 6) (M.2.1 1) (1120 * q) 0 k; rw [Nat.zero_add] at z; exact z]
      refine j_iincN 30 (z := 1) C dX11_takeImage_27 rfl rfl rfl (by decide) ?_
      refine j_goto 2 C dX11_takeImage_30 (by decide) ?_
      exact j_weak _ (by exact ⟨rfl, rfl, rfl, trivial⟩) (ilp2 _ (by omega) (k + 1) rfl (by omega))
  refine j_iconst 1 C dX11_takeImage_0 rfl (v := nI 0) (by decide) ?_
  refine j_istore_n 2 C dX11_takeImage_1 rfl rfl (by decide) ?_
  refine j_ws (mw o ad G.2.1 (aR M 1 (va_cpy (M.2.1 6) (M.2.1 1) (1120 * q) 0 0))) (by rw [cpy_0, aR_self]) ?_
  exact j_weak _ (by exact ⟨rfl, rfl, rfl, trivial⟩) (lp2 _ 0 rfl (Nat.zero_le _))
set_option maxHeartbeats 2000000 in
theorem c_back (k : Int32) : Con l G yX11_back cX11_back 3 (some .int) 2 0 0 [.ref o, .int k] (mw o ad G.2.1 M) (pI (if isI k 3 then (if M.2.1 10 (tn k) = -1 then -6 else nI 0) else -2) (mw o ad G.2.1 (if isI k 3 ∧ ¬ M.2.1 10 (tn k) = -1 then f_bk M (tn k) else M))) := by
  refine Con.mk (own := RX11) (by decide) rfl (Nat.le_of_ble_eq_true rfl) (fun X C => ?_)
  refine j_iload_n 1 C dX11_back_0 rfl rfl ?_
  refine j_i2l 2 C dX11_back_1 rfl ?_
  refine j_lconst 3 C dX11_back_2 rfl (v := lN 0) (by decide) ?_
  refine j_ldc2 6 C dX11_back_3 rfl (v := (2)) kc11_86 ?_
  refine j_sI 9 C dX11_back_6 rfl cw11_88 (c_in _ _ _) rfl (by decide) ⟨Nat.le_refl _, Nat.le_refl _⟩ rfl (Nat.le_of_ble_eq_true rfl) ?_
  rw [bI_iff (in_c (n := 3) (by decide))]
  refine j_if_neB 15 12 C dX11_back_9 (by decide) rfl (fun c9 => ?_) (fun c9 => ?_)
  · obtain ⟨q, hq, rfl⟩ := isI_of c9
    refine j_aload_n 16 C dX11_back_15 rfl rfl ?_
    refine rg_imageSittings 19 C dX11_back_16 rfl ?_
    refine j_iload_n 20 C dX11_back_19 rfl rfl ?_
    refine ra_imageSittings 21 C dX11_back_20 rfl _ (by omega) rfl ?_
    refine j_iconst 22 C dX11_back_21 rfl (v := (-1)) (by decide) ?_
    refine j_icmp_ne 28 25 C dX11_back_22 (by decide) rfl (fun c22 => ?_) (fun c22 => ?_)
    · refine j_aload_n 29 C dX11_back_28 rfl rfl ?_
      refine j_iload_n 30 C dX11_back_29 rfl rfl ?_
      refine j_mV 33 C dX11_back_30 rfl cw11_98 rfl (c_takeImage q hq) rfl (by decide) rfl (Nat.le_of_ble_eq_true rfl) ?_
      refine j_iconst 34 C dX11_back_33 rfl (v := nI 0) (by decide) ?_
      refine j_istore_n 35 C dX11_back_34 rfl rfl (by decide) ?_
      have lp35 : ∀ (m : Nat) (k : Nat), 360 - k = m → k ≤ 360 → J X 3 0 0 (mw o ad G.2.1 (aR (aR (aR M 1 (imgW M q)) 2 (imgH M q)) 5 (va_cpy (M.2.1 8) (M.2.1 5) (360 * q) 0 k))) 35 [(0, .ref o), (1, .int (nI q)), (2, .int (nI k))] [] := by
        intro m
        induction m using Nat.strongRecOn with
        | ind m ilp35 =>
        intro k hm hk
        refine j_iload_n 36 C dX11_back_35 rfl rfl ?_
        refine j_sipush 39 C dX11_back_36 rfl (v := nI 360) (by decide) ?_
        refine j_icmp_geN 66 42 C dX11_back_39 (by decide) rfl (by omega) (by omega) (fun c39 => ?_) (fun c39 => ?_)
        · rw [show k = 360 by omega]
          refine j_ext5 (f' := imgB M q) (fun j hj => cpy_img _ _ _ _ hj) ?_
          refine j_aload_n 67 C dX11_back_66 rfl rfl ?_
          refine j_aload_n 68 C dX11_back_67 rfl rfl ?_
          refine rg_imageSittings 71 C dX11_back_68 rfl ?_
          refine j_iload_n 72 C dX11_back_71 rfl rfl ?_
          refine ra_imageSittings 73 C dX11_back_72 rfl _ (by omega) rfl ?_
          refine rp_sittings 76 C dX11_back_73 rfl ?_
          refine j_aload_n 77 C dX11_back_76 rfl rfl ?_
          refine j_aload_n 78 C dX11_back_77 rfl rfl ?_
          refine rg_imageLost 81 C dX11_back_78 rfl ?_
          refine j_iload_n 82 C dX11_back_81 rfl rfl ?_
          refine ra_imageLost 83 C dX11_back_82 rfl _ (by omega) rfl ?_
          refine rp_lost 86 C dX11_back_83 rfl ?_
          refine j_iconst 87 C dX11_back_86 rfl (v := nI 0) (by decide) ?_
          exact j_iret C dX11_back_87 ⟨by rw [if_pos c9, tn_nI (by omega), if_neg c22], by rw [if_pos ⟨c9, by rw [tn_nI (by omega)]; exact c22⟩, tn_nI (by omega)]; rfl⟩
        · refine j_aload_n 43 C dX11_back_42 rfl rfl ?_
          refine rg_book 46 C dX11_back_43 rfl ?_
          refine j_iload_n 47 C dX11_back_46 rfl rfl ?_
          refine j_aload_n 48 C dX11_back_47 rfl rfl ?_
          refine rg_imageBook 51 C dX11_back_48 rfl ?_
          refine j_sipush 54 C dX11_back_51 rfl (v := nI 360) (by decide) ?_
          refine j_iload_n 55 C dX11_back_54 rfl rfl ?_
          refine j_imulN 56 C dX11_back_55 rfl ?_
          refine j_iload_n 57 C dX11_back_56 rfl rfl ?_
          refine j_iaddN 58 C dX11_back_57 rfl ?_
          refine ra_imageBook 59 C dX11_back_58 rfl _ (by omega) rfl ?_
          refine rs_book 60 C dX11_back_59 rfl _ (by omega) rfl ?_
          rw [aS_aR]
          rw [show upd (va_cpy (M.2.1 8) (M.2.1 5) (360 * q) 0 k) k _ = va_cpy (M.2.1 8) (M.2.1 5) (360 * q) 0 (k + 1) from by have z := cpy_step (M.2.1 8) (M.2.1 5) (360 * q) 0 k; rw [Nat.zero_add] at z; exact z]
          refine j_iincN 63 (z := 1) C dX11_back_60 rfl rfl rfl (by decide) ?_
          refine j_goto 35 C dX11_back_63 (by decide) ?_
          exact j_weak _ (by exact ⟨rfl, rfl, rfl, trivial⟩) (ilp35 _ (by omega) (k + 1) rfl (by omega))
      refine j_ws (mw o ad G.2.1 (aR (aR (aR M 1 (imgW M q)) 2 (imgH M q)) 5 (va_cpy (M.2.1 8) (M.2.1 5) (360 * q) 0 0))) (by rw [cpy_0]; exact (congrArg _ (aR_self (aR (aR M 1 (imgW M q)) 2 (imgH M q)) 5)).symm) ?_
      exact j_weak _ (by exact ⟨rfl, rfl, rfl, trivial⟩) (lp35 _ 0 rfl (Nat.zero_le _))
    · refine j_bipush 27 C dX11_back_25 rfl (v := (-6)) (by decide) ?_
      exact j_iret C dX11_back_27 ⟨by rw [if_pos c9, tn_nI (by omega), if_pos c22], by rw [if_neg (fun z => z.2 (by rw [tn_nI (by omega)]; exact c22))]⟩
  · refine j_bipush 14 C dX11_back_12 rfl (v := (-2)) (by decide) ?_
    exact j_iret C dX11_back_14 ⟨by rw [if_neg c9], by rw [if_neg (fun z => c9 z.1)]⟩
set_option maxHeartbeats 2000000 in
theorem c_feed (a b c d e : Int32) {t : Nat} (ht : M.1 12 = nI t) (ht9 : t ≤ 900) : Con l G yX11_feed cX11_feed 7 (some .int) 1 0 0 [.ref o, .int a, .int b, .int c, .int d, .int e] (mw o ad G.2.1 M) (pI (if t + 20 ≤ 900 then nI (t + 20) else -1) (mw o ad G.2.1 (if t + 20 ≤ 900 then sS (aR (aR M 13 (five5 (M.2.1 13) a b c d e)) 11 (f_tp (M.2.1 11) (five5 (M.2.1 13) a b c d e) t 20)) 12 (nI (t + 20)) else M))) := by
  refine Con.mk (own := RX11) (by decide) rfl (Nat.le_of_ble_eq_true rfl) (fun X C => ?_)
  refine j_aload_n 1 C dX11_feed_0 rfl rfl ?_
  refine rg_taped 4 C dX11_feed_1 rfl ?_
  rw [ht]
  refine j_bipush 6 C dX11_feed_4 rfl (v := nI 20) (by decide) ?_
  refine j_iaddN 7 C dX11_feed_6 rfl ?_
  refine j_sipush 10 C dX11_feed_7 rfl (v := nI 900) (by decide) ?_
  refine j_icmp_leN 15 13 C dX11_feed_10 (by decide) rfl (by omega) (by omega) (fun c10 => ?_) (fun c10 => ?_)
  · refine j_aload_n 16 C dX11_feed_15 rfl rfl ?_
    refine rg_five 19 C dX11_feed_16 rfl ?_
    refine j_iconst 20 C dX11_feed_19 rfl (v := nI 0) (by decide) ?_
    refine j_iload_n 21 C dX11_feed_20 rfl rfl ?_
    refine rs_five 22 C dX11_feed_21 rfl _ (by omega) rfl ?_
    refine j_aload_n 23 C dX11_feed_22 rfl rfl ?_
    refine rg_five 26 C dX11_feed_23 rfl ?_
    refine j_iconst 27 C dX11_feed_26 rfl (v := nI 1) (by decide) ?_
    refine j_iload_n 28 C dX11_feed_27 rfl rfl ?_
    refine rs_five 29 C dX11_feed_28 rfl _ (by omega) rfl ?_
    refine j_aload_n 30 C dX11_feed_29 rfl rfl ?_
    refine rg_five 33 C dX11_feed_30 rfl ?_
    refine j_iconst 34 C dX11_feed_33 rfl (v := nI 2) (by decide) ?_
    refine j_iload_n 35 C dX11_feed_34 rfl rfl ?_
    refine rs_five 36 C dX11_feed_35 rfl _ (by omega) rfl ?_
    refine j_aload_n 37 C dX11_feed_36 rfl rfl ?_
    refine rg_five 40 C dX11_feed_37 rfl ?_
    refine j_iconst 41 C dX11_feed_40 rfl (v := nI 3) (by decide) ?_
    refine j_iload 43 C dX11_feed_41 rfl rfl ?_
    refine rs_five 44 C dX11_feed_43 rfl _ (by omega) rfl ?_
    refine j_aload_n 45 C dX11_feed_44 rfl rfl ?_
    refine rg_five 48 C dX11_feed_45 rfl ?_
    refine j_iconst 49 C dX11_feed_48 rfl (v := nI 4) (by decide) ?_
    refine j_iload 51 C dX11_feed_49 rfl rfl ?_
    refine rs_five 52 C dX11_feed_51 rfl _ (by omega) rfl ?_
    refine j_iconst 53 C dX11_feed_52 rfl (v := nI 0) (by decide) ?_
    refine j_istore 55 C dX11_feed_53 rfl rfl (by decide) ?_
    have lp55 : ∀ (m : Nat) (k : Nat), 20 - k = m → k ≤ 20 → J X 7 0 0 (mw o ad G.2.1 (aR (aR M 13 (five5 (M.2.1 13) a b c d e)) 11 (f_tp (M.2.1 11) (five5 (M.2.1 13) a b c d e) t k))) 55 [(0, .ref o), (6, .int (nI k))] [] := by
      intro m
      induction m using Nat.strongRecOn with
      | ind m ilp55 =>
      intro k hm hk
      refine j_iload 57 C dX11_feed_55 rfl rfl ?_
      refine j_bipush 59 C dX11_feed_57 rfl (v := nI 20) (by decide) ?_
      refine j_icmp_geN 101 62 C dX11_feed_59 (by decide) rfl (by omega) (by omega) (fun c59 => ?_) (fun c59 => ?_)
      · refine j_aload_n 102 C dX11_feed_101 rfl rfl ?_
        refine j_dup 103 C dX11_feed_102 rfl rfl ?_
        refine rg_taped 106 C dX11_feed_103 rfl ?_
        rw [show (aR (aR M 13 (five5 (M.2.1 13) a b c d e)) 11 (f_tp (M.2.1 11) (five5 (M.2.1 13) a b c d e) t k)).1 12 = nI t from ht]
        refine j_bipush 108 C dX11_feed_106 rfl (v := nI 20) (by decide) ?_
        refine j_iaddN 109 C dX11_feed_108 rfl ?_
        refine rp_taped 112 C dX11_feed_109 rfl ?_
        rw [show k = 20 by omega]
        refine j_aload_n 113 C dX11_feed_112 rfl rfl ?_
        refine rg_taped 116 C dX11_feed_113 rfl ?_
        exact j_iret C dX11_feed_116 ⟨by rw [if_pos c10]; rfl, by rw [if_pos c10]⟩
      · refine j_aload_n 63 C dX11_feed_62 rfl rfl ?_
        refine rg_tape 66 C dX11_feed_63 rfl ?_
        refine j_aload_n 67 C dX11_feed_66 rfl rfl ?_
        refine rg_taped 70 C dX11_feed_67 rfl ?_
        rw [show (aR (aR M 13 (five5 (M.2.1 13) a b c d e)) 11 (f_tp (M.2.1 11) (five5 (M.2.1 13) a b c d e) t k)).1 12 = nI t from ht]
        refine j_iload 72 C dX11_feed_70 rfl rfl ?_
        refine j_iaddN 73 C dX11_feed_72 rfl ?_
        refine j_aload_n 74 C dX11_feed_73 rfl rfl ?_
        refine rg_five 77 C dX11_feed_74 rfl ?_
        refine j_iload 79 C dX11_feed_77 rfl rfl ?_
        refine j_iconst 80 C dX11_feed_79 rfl (v := nI 4) (by decide) ?_
        refine j_idivN 81 C dX11_feed_80 rfl (by omega) (by omega) (by omega) ?_
        refine ra_five 82 C dX11_feed_81 rfl _ (by omega) rfl ?_
        rw [show (aR (aR M 13 (five5 (M.2.1 13) a b c d e)) 11 (f_tp (M.2.1 11) (five5 (M.2.1 13) a b c d e) t k)).2.1 13 (k / 4) = (five5 (M.2.1 13) a b c d e) (k / 4) from rfl]
        refine j_bipush 84 C dX11_feed_82 rfl (v := nI 24) (by decide) ?_
        refine j_bipush 86 C dX11_feed_84 rfl (v := nI 8) (by decide) ?_
        refine j_iload 88 C dX11_feed_86 rfl rfl ?_
        refine j_iconst 89 C dX11_feed_88 rfl (v := nI 4) (by decide) ?_
        refine j_irem 90 C dX11_feed_89 rfl (by decide) ?_
        rw [pk_rem (by omega) (by decide) (by decide)]
        refine j_imulN 91 C dX11_feed_90 rfl ?_
        refine j_isubN 92 C dX11_feed_91 rfl (by omega) ?_
        refine j_ishr 93 C dX11_feed_92 rfl ?_
        refine j_i2b 94 C dX11_feed_93 rfl ?_
        refine rs_tape 95 C dX11_feed_94 rfl _ (by omega) rfl ?_
        rw [aS_aR]
        refine j_ws (mw o ad G.2.1 (aR (aR M 13 (five5 (M.2.1 13) a b c d e)) 11 (f_tp (M.2.1 11) (five5 (M.2.1 13) a b c d e) t (k + 1)))) rfl ?_
        refine j_iincN 98 (z := 1) C dX11_feed_95 rfl rfl rfl (by decide) ?_
        refine j_goto 55 C dX11_feed_98 (by decide) ?_
        exact j_weak _ (by exact ⟨rfl, rfl, trivial⟩) (ilp55 _ (by omega) (k + 1) rfl (by omega))
    refine j_ws (mw o ad G.2.1 (aR (aR M 13 (five5 (M.2.1 13) a b c d e)) 11 (f_tp (M.2.1 11) (five5 (M.2.1 13) a b c d e) t 0))) rfl ?_
    exact j_weak _ (by exact ⟨rfl, rfl, trivial⟩) (lp55 _ 0 rfl (Nat.zero_le _))
  · refine j_iconst 14 C dX11_feed_13 rfl (v := (-1)) (by decide) ?_
    exact j_iret C dX11_feed_14 ⟨by rw [if_neg (by omega)], by rw [if_neg (by omega)]⟩
set_option maxHeartbeats 2000000 in
theorem c_near (row other off t : Int32) (hWF : WF (M.2.1 1)) : Con l G yX11_near cX11_near 9 (some .int) 3 0 0 [.ref o, .int row, .int other, .int off, .int t] (mw o ad G.2.1 M) (pI (if isI row (nrw (M.2.1 1)) ∧ isI other (nrw (M.2.1 1)) ∧ isP off 12 then f_nr (M.2.1 1) (tn row) (tn other) off t (len (M.2.1 1) (tn row) - 1) else -2) (mw o ad G.2.1 M)) := by
  refine Con.mk (own := RX11) (by decide) rfl (Nat.le_of_ble_eq_true rfl) (fun X C => ?_)
  refine j_aload_n 1 C dX11_near_0 rfl rfl ?_
  refine j_iload_n 2 C dX11_near_1 rfl rfl ?_
  refine j_mI 5 C dX11_near_2 rfl cw11_315 rfl (c_isRow _ hWF.2.2.1.1 (Nat.lt_of_le_of_lt hWF.2.2.1.2 (by decide))) rfl (by decide) rfl (Nat.le_of_ble_eq_true rfl) ?_
  refine j_if_eqB 28 8 C dX11_near_5 (by decide) rfl (fun c5 => ?_) (fun c5 => ?_)
  · refine j_bipush 30 C dX11_near_28 rfl (v := (-2)) (by decide) ?_
    exact j_iret C dX11_near_30 ⟨by rw [if_neg (fun z => c5 z.1)], rfl⟩
  · obtain ⟨r, hr, rfl⟩ := isI_of c5
    have hr12 : r < 12 := Nat.lt_of_lt_of_le hr hWF.2.2.1.2
    obtain ⟨⟨hlen, hl2, hl12⟩, hth⟩ := hWF.2.2.2 r hr
    have hnr12 := hWF.2.2.1.2
    refine j_aload_n 9 C dX11_near_8 rfl rfl ?_
    refine j_iload_n 10 C dX11_near_9 rfl rfl ?_
    refine j_mI 13 C dX11_near_10 rfl cw11_315 rfl (c_isRow _ hWF.2.2.1.1 (Nat.lt_of_le_of_lt hWF.2.2.1.2 (by decide))) rfl (by decide) rfl (Nat.le_of_ble_eq_true rfl) ?_
    refine j_if_eqB 28 16 C dX11_near_13 (by decide) rfl (fun c13 => ?_) (fun c13 => ?_)
    · refine j_bipush 30 C dX11_near_28 rfl (v := (-2)) (by decide) ?_
      exact j_iret C dX11_near_30 ⟨by rw [if_neg (fun z => c13 z.2.1)], rfl⟩
    · obtain ⟨r2, hr2, rfl⟩ := isI_of c13
      refine j_iload_n 17 C dX11_near_16 rfl rfl ?_
      refine j_i2l 18 C dX11_near_17 rfl ?_
      refine j_lconst 19 C dX11_near_18 rfl (v := lN 1) (by decide) ?_
      refine j_ldc2 22 C dX11_near_19 rfl (v := (11)) kc11_328 ?_
      refine j_sI 25 C dX11_near_22 rfl cw11_88 (c_in _ _ _) rfl (by decide) ⟨Nat.le_refl _, Nat.le_refl _⟩ rfl (Nat.le_of_ble_eq_true rfl) ?_
      rw [bI_iff (in_p (n := 12) (by decide))]
      refine j_if_neB 31 28 C dX11_near_25 (by decide) rfl (fun c25 => ?_) (fun c25 => ?_)
      · refine j_iconst 32 C dX11_near_31 rfl (v := nI 0) (by decide) ?_
        refine j_istore 34 C dX11_near_32 rfl rfl (by decide) ?_
        refine j_iconst 35 C dX11_near_34 rfl (v := nI 1) (by decide) ?_
        refine j_istore 37 C dX11_near_35 rfl rfl (by decide) ?_
        have lp37 : ∀ (m : Nat) (j : Nat), len (M.2.1 1) r - j = m → j + 1 ≤ len (M.2.1 1) r → J X 9 0 0 (mw o ad G.2.1 M) 37 [(0, .ref o), (1, .int (nI r)), (2, .int (nI r2)), (3, .int off), (4, .int t), (5, .int (f_nr (M.2.1 1) r r2 off t j)), (6, .int (nI (j + 1)))] [] := by
          intro m
          induction m using Nat.strongRecOn with
          | ind m ilp37 =>
          intro j hm hj
          refine j_iload 39 C dX11_near_37 rfl rfl ?_
          refine j_aload_n 40 C dX11_near_39 rfl rfl ?_
          refine j_iload_n 41 C dX11_near_40 rfl rfl ?_
          refine j_mI 44 C dX11_near_41 rfl cw11_278 rfl (c_manyOf r hr12) rfl (by decide) rfl (Nat.le_of_ble_eq_true rfl) ?_
          rw [hlen]
          refine j_icmp_geN 127 47 C dX11_near_44 (by decide) rfl (by omega) (by omega) (fun c44 => ?_) (fun c44 => ?_)
          · refine j_iload 129 C dX11_near_127 rfl rfl ?_
            exact j_iret C dX11_near_129 ⟨by rw [if_pos ⟨c5, c13, c25⟩, tn_nI (by omega), tn_nI (by omega), show j = len (M.2.1 1) r - 1 by omega], rfl⟩
          · refine j_aload_n 48 C dX11_near_47 rfl rfl ?_
            refine j_iload_n 49 C dX11_near_48 rfl rfl ?_
            refine j_aload_n 50 C dX11_near_49 rfl rfl ?_
            refine j_iload_n 51 C dX11_near_50 rfl rfl ?_
            refine j_iload 53 C dX11_near_51 rfl rfl ?_
            refine j_iconst 54 C dX11_near_53 rfl (v := nI 1) (by decide) ?_
            refine j_isubN 55 C dX11_near_54 rfl (by omega) ?_
            rw [show j + 1 - 1 = j from rfl]
            refine j_mI 58 C dX11_near_55 rfl cw11_281 rfl (c_thingOf r _ hr12 (by omega)) rfl (by decide) rfl (Nat.le_of_ble_eq_true rfl) ?_
            refine j_mI 61 C dX11_near_58 rfl cw11_376 rfl (c_placeIn r2 _ hr2 hWF) rfl (by decide) rfl (Nat.le_of_ble_eq_true rfl) ?_
            refine j_istore 63 C dX11_near_61 rfl rfl (by decide) ?_
            refine j_aload_n 64 C dX11_near_63 rfl rfl ?_
            refine j_iload_n 65 C dX11_near_64 rfl rfl ?_
            refine j_aload_n 66 C dX11_near_65 rfl rfl ?_
            refine j_iload_n 67 C dX11_near_66 rfl rfl ?_
            refine j_iload 69 C dX11_near_67 rfl rfl ?_
            refine j_mI 72 C dX11_near_69 rfl cw11_281 rfl (c_thingOf r _ hr12 (by omega)) rfl (by decide) rfl (Nat.le_of_ble_eq_true rfl) ?_
            refine j_mI 75 C dX11_near_72 rfl cw11_376 rfl (c_placeIn r2 _ hr2 hWF) rfl (by decide) rfl (Nat.le_of_ble_eq_true rfl) ?_
            refine j_istore 77 C dX11_near_75 rfl rfl (by decide) ?_
            refine j_iload 79 C dX11_near_77 rfl rfl ?_
            refine j_iload 81 C dX11_near_79 rfl rfl ?_
            refine j_iconst 82 C dX11_near_81 rfl (v := (-1)) (by decide) ?_
            refine j_icmp_eq 117 85 C dX11_near_82 (by decide) rfl (fun c82 => ?_) (fun c82 => ?_)
            · refine j_iconst 118 C dX11_near_117 rfl (v := nI 0) (by decide) ?_
              refine j_iadd 119 C dX11_near_118 rfl ?_
              rw [show (f_nr (M.2.1 1) r r2 off t j) + _ = (f_nr (M.2.1 1) r r2 off t (j + 1)) from congrArg ((f_nr (M.2.1 1) r r2 off t j) + ·) (show nI 0 = bI _ from (bI_f (fun z => z.1 c82)).symm)]
              refine j_istore 121 C dX11_near_119 rfl rfl (by decide) ?_
              refine j_iincN 124 (z := 1) C dX11_near_121 rfl rfl rfl (by decide) ?_
              refine j_goto 37 C dX11_near_124 (by decide) ?_
              exact j_weak _ (by exact ⟨rfl, rfl, rfl, rfl, rfl, rfl, rfl, trivial⟩) (ilp37 _ (by omega) (j + 1) rfl (by omega))
            · refine j_iload 87 C dX11_near_85 rfl rfl ?_
              refine j_iconst 88 C dX11_near_87 rfl (v := (-1)) (by decide) ?_
              refine j_icmp_eq 117 91 C dX11_near_88 (by decide) rfl (fun c88 => ?_) (fun c88 => ?_)
              · refine j_iconst 118 C dX11_near_117 rfl (v := nI 0) (by decide) ?_
                refine j_iadd 119 C dX11_near_118 rfl ?_
                rw [show (f_nr (M.2.1 1) r r2 off t j) + _ = (f_nr (M.2.1 1) r r2 off t (j + 1)) from congrArg ((f_nr (M.2.1 1) r r2 off t j) + ·) (show nI 0 = bI _ from (bI_f (fun z => z.2.1 c88)).symm)]
                refine j_istore 121 C dX11_near_119 rfl rfl (by decide) ?_
                refine j_iincN 124 (z := 1) C dX11_near_121 rfl rfl rfl (by decide) ?_
                refine j_goto 37 C dX11_near_124 (by decide) ?_
                exact j_weak _ (by exact ⟨rfl, rfl, rfl, rfl, rfl, rfl, rfl, trivial⟩) (ilp37 _ (by omega) (j + 1) rfl (by omega))
              · refine j_iload 93 C dX11_near_91 rfl rfl ?_
                refine j_if_eq 104 96 C dX11_near_93 (by decide) rfl (fun c93 => ?_) (fun c93 => ?_)
                · refine j_iload 106 C dX11_near_104 rfl rfl ?_
                  refine j_iload 108 C dX11_near_106 rfl rfl ?_
                  refine j_isub 109 C dX11_near_108 rfl ?_
                  refine j_iload_n 110 C dX11_near_109 rfl rfl ?_
                  refine j_bool_icmp_ne 118 C dX11_near_110 rfl dX11_near_113 dX11_near_114 dX11_near_117 rfl ?_
                  refine j_iadd 119 C dX11_near_118 rfl ?_
                  rw [show (f_nr (M.2.1 1) r r2 off t j) + _ = (f_nr (M.2.1 1) r r2 off t (j + 1)) from congrArg ((f_nr (M.2.1 1) r r2 off t j) + ·) (bI_iff ⟨fun z => ⟨c82, c88, by rw [if_pos c93]; exact z⟩, fun z => by have := z.2.2; rwa [if_pos c93] at this⟩)]
                  refine j_istore 121 C dX11_near_119 rfl rfl (by decide) ?_
                  refine j_iincN 124 (z := 1) C dX11_near_121 rfl rfl rfl (by decide) ?_
                  refine j_goto 37 C dX11_near_124 (by decide) ?_
                  exact j_weak _ (by exact ⟨rfl, rfl, rfl, rfl, rfl, rfl, rfl, trivial⟩) (ilp37 _ (by omega) (j + 1) rfl (by omega))
                · refine j_iload 98 C dX11_near_96 rfl rfl ?_
                  refine j_iload 100 C dX11_near_98 rfl rfl ?_
                  refine j_isub 101 C dX11_near_100 rfl ?_
                  refine j_goto 109 C dX11_near_101 (by decide) ?_
                  refine j_iload_n 110 C dX11_near_109 rfl rfl ?_
                  refine j_bool_icmp_ne 118 C dX11_near_110 rfl dX11_near_113 dX11_near_114 dX11_near_117 rfl ?_
                  refine j_iadd 119 C dX11_near_118 rfl ?_
                  rw [show (f_nr (M.2.1 1) r r2 off t j) + _ = (f_nr (M.2.1 1) r r2 off t (j + 1)) from congrArg ((f_nr (M.2.1 1) r r2 off t j) + ·) (bI_iff ⟨fun z => ⟨c82, c88, by rw [if_neg c93]; exact z⟩, fun z => by have := z.2.2; rwa [if_neg c93] at this⟩)]
                  refine j_istore 121 C dX11_near_119 rfl rfl (by decide) ?_
                  refine j_iincN 124 (z := 1) C dX11_near_121 rfl rfl rfl (by decide) ?_
                  refine j_goto 37 C dX11_near_124 (by decide) ?_
                  exact j_weak _ (by exact ⟨rfl, rfl, rfl, rfl, rfl, rfl, rfl, trivial⟩) (ilp37 _ (by omega) (j + 1) rfl (by omega))
        exact j_weak _ (by exact ⟨rfl, rfl, rfl, rfl, rfl, rfl, rfl, trivial⟩) (lp37 _ 0 rfl (by omega))
      · refine j_bipush 30 C dX11_near_28 rfl (v := (-2)) (by decide) ?_
        exact j_iret C dX11_near_30 ⟨by rw [if_neg (fun z => c25 z.2.2)], rfl⟩
end S14
