def f_bks (bk : Nat → Int32) (row : Int32) : Nat → Nat × Int32 × Int32
  | 0 => (0, -1, -1)
  | i + 1 => if bk (6 * i) = row then ((f_bks bk row i).1 + 1, (if (f_bks bk row i).2.1 = -1 then nI i else (f_bks bk row i).2.1), nI i) else f_bks bk row i
theorem f_bks_ok (bk : Nat → Int32) (row : Int32) : ∀ i, i ≤ 60 → (f_bks bk row i).1 ≤ i ∧ ((f_bks bk row i).1 = 0 ∧ (f_bks bk row i).2.1 = -1 ∨ ∃ a b, a < i ∧ b < i ∧ (f_bks bk row i).2.1 = nI a ∧ (f_bks bk row i).2.2 = nI b)
  | 0, _ => ⟨Nat.le_refl _, Or.inl ⟨rfl, rfl⟩⟩
  | i + 1, h => by
    obtain ⟨h1, h2⟩ := f_bks_ok bk row i (by omega)
    unfold f_bks
    by_cases e : bk (6 * i) = row
    · rw [if_pos e]
      refine ⟨by show (f_bks bk row i).1 + 1 ≤ i + 1; omega, Or.inr ?_⟩
      rcases h2 with ⟨h3, h4⟩ | ⟨a, b, ha, hb, h3, h4⟩
      · exact ⟨i, i, by omega, by omega, by show (if _ then _ else _) = _; rw [if_pos h4], rfl⟩
      · exact ⟨a, i, by omega, by omega, by show (if _ then _ else _) = _; rw [if_neg (by rw [h3]; exact nI_nm1 (by omega)), h3], rfl⟩
    · rw [if_neg e]
      refine ⟨by omega, ?_⟩
      rcases h2 with h3 | ⟨a, b, ha, hb, h3, h4⟩
      · exact Or.inl h3
      · exact Or.inr ⟨a, b, by omega, by omega, h3, h4⟩
def f_book (bk : Nat → Int32) (row : Int32) (n w : Nat) : Int32 :=
  if (f_bks bk row n).1 < 2 then -1 else if w = 0 then nI (f_bks bk row n).1 else if w = 1 then bk (6 * tn (f_bks bk row n).2.1 + 1) else if w = 2 then bk (6 * tn (f_bks bk row n).2.2 + 1) else bk (6 * tn (f_bks bk row n).2.2 + 2) - bk (6 * tn (f_bks bk row n).2.1 + 2)
theorem in_2_12 {m : Nat} (hm : m < 2 ^ 31) : ((2 : Int64) ≤ lN m ∧ lN m ≤ 12) ↔ (2 ≤ m ∧ m ≤ 12) := by
  rw [le64, le64, pk_lT (by omega)]
  show (2 : Int) ≤ (m : Int) ∧ (m : Int) ≤ 12 ↔ _
  omega
def f_inT (t : Int64) (nt : Nat) : Prop := lN 0 ≤ t ∧ t ≤ (nI nt - nI 1).toInt64
def f_okT (nm : Nat → Int64) (b nt m : Nat) : Prop := ∀ i, i < m → (lN 0 ≤ nm (b + i) ∧ nm (b + i) ≤ (nI nt - nI 1).toInt64) ∧ ∀ j, j < i → ¬ nm (b + j) = nm (b + i)
def f_rm (nm : Nat → Int64) (b : Nat) (md : Nat → Int32) : Nat → (Nat → Int32)
  | 0 => md
  | i + 1 => upd (f_rm nm b md i) i (nm (b + i)).toInt32
section S15
variable {l : Launch} {G : GG} {o : Nat} {ad : Nat → Nat} {M : MS}
set_option maxHeartbeats 2000000 in
theorem c_book (row what : Int32) {n : Nat} (hn : M.1 3 = nI n) (hn60 : n ≤ 60) (hWF : WF (M.2.1 1)) : Con l G yX11_book cX11_book 7 (some .int) 3 0 0 [.ref o, .int row, .int what] (mw o ad G.2.1 M) (pI (if isI row (nrw (M.2.1 1)) ∧ isI what 4 then f_book (M.2.1 5) row n (tn what) else -1) (mw o ad G.2.1 M)) := by
  refine Con.mk (own := RX11) (by decide) rfl (Nat.le_of_ble_eq_true rfl) (fun X C => ?_)
  refine j_aload_n 1 C dX11_book_0 rfl rfl ?_
  refine j_iload_n 2 C dX11_book_1 rfl rfl ?_
  refine j_mI 5 C dX11_book_2 rfl cw11_315 rfl (c_isRow _ hWF.2.2.1.1 (Nat.lt_of_le_of_lt hWF.2.2.1.2 (by decide))) rfl (by decide) rfl (Nat.le_of_ble_eq_true rfl) ?_
  refine j_if_eqB 20 8 C dX11_book_5 (by decide) rfl (fun c5 => ?_) (fun c5 => ?_)
  · refine j_iconst 21 C dX11_book_20 rfl (v := (-1)) (by decide) ?_
    exact j_iret C dX11_book_21 ⟨by rw [if_neg (fun z => c5 z.1)], rfl⟩
  · obtain ⟨r, hr, rfl⟩ := isI_of c5
    have hr12 : r < 12 := Nat.lt_of_lt_of_le hr hWF.2.2.1.2
    obtain ⟨⟨hlen, hl2, hl12⟩, hth⟩ := hWF.2.2.2 r hr
    have hnr12 := hWF.2.2.1.2
    refine j_iload_n 9 C dX11_book_8 rfl rfl ?_
    refine j_i2l 10 C dX11_book_9 rfl ?_
    refine j_lconst 11 C dX11_book_10 rfl (v := lN 0) (by decide) ?_
    refine j_ldc2 14 C dX11_book_11 rfl (v := (3)) kc11_251 ?_
    refine j_sI 17 C dX11_book_14 rfl cw11_88 (c_in _ _ _) rfl (by decide) ⟨Nat.le_refl _, Nat.le_refl _⟩ rfl (Nat.le_of_ble_eq_true rfl) ?_
    rw [bI_iff (in_c (n := 4) (by decide))]
    refine j_if_neB 22 20 C dX11_book_17 (by decide) rfl (fun c17 => ?_) (fun c17 => ?_)
    · obtain ⟨w, hw, rfl⟩ := isI_of c17
      refine j_iconst 23 C dX11_book_22 rfl (v := nI 0) (by decide) ?_
      refine j_istore_n 24 C dX11_book_23 rfl rfl (by decide) ?_
      refine j_iconst 25 C dX11_book_24 rfl (v := (-1)) (by decide) ?_
      refine j_istore 27 C dX11_book_25 rfl rfl (by decide) ?_
      refine j_iconst 28 C dX11_book_27 rfl (v := (-1)) (by decide) ?_
      refine j_istore 30 C dX11_book_28 rfl rfl (by decide) ?_
      refine j_iconst 31 C dX11_book_30 rfl (v := nI 0) (by decide) ?_
      refine j_istore 33 C dX11_book_31 rfl rfl (by decide) ?_
      have lp33 : ∀ (m : Nat) (i : Nat), n - i = m → i ≤ n → J X 7 0 0 (mw o ad G.2.1 M) 33 [(0, .ref o), (1, .int (nI r)), (2, .int (nI w)), (3, .int (nI (f_bks (M.2.1 5) (nI r) i).1)), (4, .int (f_bks (M.2.1 5) (nI r) i).2.1), (5, .int (f_bks (M.2.1 5) (nI r) i).2.2), (6, .int (nI i))] [] := by
        intro m
        induction m using Nat.strongRecOn with
        | ind m ilp33 =>
        intro i hm hi
        refine j_iload 35 C dX11_book_33 rfl rfl ?_
        refine j_aload_n 36 C dX11_book_35 rfl rfl ?_
        refine rg_sittings 39 C dX11_book_36 rfl ?_
        rw [hn]
        refine j_icmp_geN 87 42 C dX11_book_39 (by decide) rfl (by omega) (by omega) (fun c39 => ?_) (fun c39 => ?_)
        · obtain ⟨hk1, hk2⟩ := f_bks_ok (M.2.1 5) (nI r) i (by omega)
          rw [show i = n by omega] at hk1 hk2 ⊢
          refine j_iload_n 88 C dX11_book_87 rfl rfl ?_
          refine j_iconst 89 C dX11_book_88 rfl (v := nI 2) (by decide) ?_
          refine j_icmp_geN 94 92 C dX11_book_89 (by decide) rfl (by omega) (by omega) (fun c89 => ?_) (fun c89 => ?_)
          · obtain ⟨fa, fb, hfa, hfb, ea, eb⟩ := hk2.resolve_left (fun z => by omega)
            rw [ea, eb]
            refine j_iload_n 95 C dX11_book_94 rfl rfl ?_
            refine j_if_neN 102 98 C dX11_book_95 (by decide) rfl (by omega) (fun c95 => ?_) (fun c95 => ?_)
            · refine j_iload_n 103 C dX11_book_102 rfl rfl ?_
              refine j_iconst 104 C dX11_book_103 rfl (v := nI 1) (by decide) ?_
              refine j_icmp_neN 122 107 C dX11_book_104 (by decide) rfl (by omega) (by omega) (fun c104 => ?_) (fun c104 => ?_)
              · refine j_iload_n 123 C dX11_book_122 rfl rfl ?_
                refine j_iconst 124 C dX11_book_123 rfl (v := nI 2) (by decide) ?_
                refine j_icmp_neN 142 127 C dX11_book_124 (by decide) rfl (by omega) (by omega) (fun c124 => ?_) (fun c124 => ?_)
                · refine j_aload_n 143 C dX11_book_142 rfl rfl ?_
                  refine rg_book 146 C dX11_book_143 rfl ?_
                  refine j_bipush 148 C dX11_book_146 rfl (v := nI 6) (by decide) ?_
                  refine j_iload 150 C dX11_book_148 rfl rfl ?_
                  refine j_imulN 151 C dX11_book_150 rfl ?_
                  refine j_iconst 152 C dX11_book_151 rfl (v := nI 2) (by decide) ?_
                  refine j_iaddN 153 C dX11_book_152 rfl ?_
                  refine ra_book 154 C dX11_book_153 rfl _ (by omega) rfl ?_
                  refine j_aload_n 155 C dX11_book_154 rfl rfl ?_
                  refine rg_book 158 C dX11_book_155 rfl ?_
                  refine j_bipush 160 C dX11_book_158 rfl (v := nI 6) (by decide) ?_
                  refine j_iload 162 C dX11_book_160 rfl rfl ?_
                  refine j_imulN 163 C dX11_book_162 rfl ?_
                  refine j_iconst 164 C dX11_book_163 rfl (v := nI 2) (by decide) ?_
                  refine j_iaddN 165 C dX11_book_164 rfl ?_
                  refine ra_book 166 C dX11_book_165 rfl _ (by omega) rfl ?_
                  refine j_isub 167 C dX11_book_166 rfl ?_
                  exact j_iret C dX11_book_167 ⟨by rw [if_pos ⟨c5, c17⟩, tn_nI (by omega), f_book, if_neg (by omega), if_neg (by omega), if_neg (by omega), if_neg (by omega), ea, eb, tn_nI (by omega), tn_nI (by omega)], rfl⟩
                · refine j_aload_n 128 C dX11_book_127 rfl rfl ?_
                  refine rg_book 131 C dX11_book_128 rfl ?_
                  refine j_bipush 133 C dX11_book_131 rfl (v := nI 6) (by decide) ?_
                  refine j_iload 135 C dX11_book_133 rfl rfl ?_
                  refine j_imulN 136 C dX11_book_135 rfl ?_
                  refine j_iconst 137 C dX11_book_136 rfl (v := nI 1) (by decide) ?_
                  refine j_iaddN 138 C dX11_book_137 rfl ?_
                  refine ra_book 139 C dX11_book_138 rfl _ (by omega) rfl ?_
                  refine j_goto 167 C dX11_book_139 (by decide) ?_
                  exact j_iret C dX11_book_167 ⟨by rw [if_pos ⟨c5, c17⟩, tn_nI (by omega), f_book, if_neg (by omega), if_neg (by omega), if_neg (by omega), if_pos (by omega), eb, tn_nI (by omega)], rfl⟩
              · refine j_aload_n 108 C dX11_book_107 rfl rfl ?_
                refine rg_book 111 C dX11_book_108 rfl ?_
                refine j_bipush 113 C dX11_book_111 rfl (v := nI 6) (by decide) ?_
                refine j_iload 115 C dX11_book_113 rfl rfl ?_
                refine j_imulN 116 C dX11_book_115 rfl ?_
                refine j_iconst 117 C dX11_book_116 rfl (v := nI 1) (by decide) ?_
                refine j_iaddN 118 C dX11_book_117 rfl ?_
                refine ra_book 119 C dX11_book_118 rfl _ (by omega) rfl ?_
                refine j_goto 167 C dX11_book_119 (by decide) ?_
                exact j_iret C dX11_book_167 ⟨by rw [if_pos ⟨c5, c17⟩, tn_nI (by omega), f_book, if_neg (by omega), if_neg (by omega), if_pos (by omega), ea, tn_nI (by omega)], rfl⟩
            · refine j_iload_n 99 C dX11_book_98 rfl rfl ?_
              refine j_goto 167 C dX11_book_99 (by decide) ?_
              exact j_iret C dX11_book_167 ⟨by rw [if_pos ⟨c5, c17⟩, tn_nI (by omega), f_book, if_neg (by omega), if_pos (by omega)], rfl⟩
          · refine j_iconst 93 C dX11_book_92 rfl (v := (-1)) (by decide) ?_
            exact j_iret C dX11_book_93 ⟨by rw [if_pos ⟨c5, c17⟩, tn_nI (by omega), f_book, if_pos c89], rfl⟩
        · refine j_aload_n 43 C dX11_book_42 rfl rfl ?_
          refine rg_book 46 C dX11_book_43 rfl ?_
          refine j_bipush 48 C dX11_book_46 rfl (v := nI 6) (by decide) ?_
          refine j_iload 50 C dX11_book_48 rfl rfl ?_
          refine j_imulN 51 C dX11_book_50 rfl ?_
          refine ra_book 52 C dX11_book_51 rfl _ (by omega) rfl ?_
          refine j_iload_n 53 C dX11_book_52 rfl rfl ?_
          refine j_icmp_eq 59 56 C dX11_book_53 (by decide) rfl (fun c53 => ?_) (fun c53 => ?_)
          · have hs : (f_bks (M.2.1 5) (nI r) (i + 1)) = ((f_bks (M.2.1 5) (nI r) i).1 + 1, (if (f_bks (M.2.1 5) (nI r) i).2.1 = -1 then nI i else (f_bks (M.2.1 5) (nI r) i).2.1), nI i) := if_pos c53
            refine j_iincN 62 (z := 1) C dX11_book_59 rfl rfl rfl (by decide) ?_
            refine j_iload 64 C dX11_book_62 rfl rfl ?_
            refine j_iconst 65 C dX11_book_64 rfl (v := (-1)) (by decide) ?_
            refine j_icmp_ne 73 68 C dX11_book_65 (by decide) rfl (fun c65 => ?_) (fun c65 => ?_)
            · rw [if_neg c65] at hs
              refine j_iload 75 C dX11_book_73 rfl rfl ?_
              refine j_istore 77 C dX11_book_75 rfl rfl (by decide) ?_
              refine j_iload 79 C dX11_book_77 rfl rfl ?_
              refine j_istore 81 C dX11_book_79 rfl rfl (by decide) ?_
              refine j_iincN 84 (z := 1) C dX11_book_81 rfl rfl rfl (by decide) ?_
              refine j_goto 33 C dX11_book_84 (by decide) ?_
              exact j_weak _ (by rw [hs]; exact ⟨rfl, rfl, rfl, rfl, rfl, rfl, rfl, trivial⟩) (ilp33 _ (by omega) (i + 1) rfl (by omega))
            · rw [if_pos c65] at hs
              refine j_iload 70 C dX11_book_68 rfl rfl ?_
              refine j_goto 75 C dX11_book_70 (by decide) ?_
              refine j_istore 77 C dX11_book_75 rfl rfl (by decide) ?_
              refine j_iload 79 C dX11_book_77 rfl rfl ?_
              refine j_istore 81 C dX11_book_79 rfl rfl (by decide) ?_
              refine j_iincN 84 (z := 1) C dX11_book_81 rfl rfl rfl (by decide) ?_
              refine j_goto 33 C dX11_book_84 (by decide) ?_
              exact j_weak _ (by rw [hs]; exact ⟨rfl, rfl, rfl, rfl, rfl, rfl, rfl, trivial⟩) (ilp33 _ (by omega) (i + 1) rfl (by omega))
          · have hs : (f_bks (M.2.1 5) (nI r) (i + 1)) = (f_bks (M.2.1 5) (nI r) i) := if_neg c53
            refine j_goto 81 C dX11_book_56 (by decide) ?_
            refine j_iincN 84 (z := 1) C dX11_book_81 rfl rfl rfl (by decide) ?_
            refine j_goto 33 C dX11_book_84 (by decide) ?_
            exact j_weak _ (by rw [hs]; exact ⟨rfl, rfl, rfl, rfl, rfl, rfl, rfl, trivial⟩) (ilp33 _ (by omega) (i + 1) rfl (by omega))
      exact j_weak _ (by exact ⟨rfl, rfl, rfl, rfl, rfl, rfl, rfl, trivial⟩) (lp33 _ 0 rfl (Nat.zero_le _))
    · refine j_iconst 21 C dX11_book_20 rfl (v := (-1)) (by decide) ?_
      exact j_iret C dX11_book_21 ⟨by rw [if_neg (fun z => c17 z.2)], rfl⟩
noncomputable def f_ro (M : MS) (slot : Int32) : Int32 := if isI slot 4 then (if M.2.1 34 (tn slot) = -1 then -6 else if 2 ≤ tn (M.2.1 34 (tn slot)) ∧ tn (M.2.1 34 (tn slot)) ≤ 12 then (@ite Int32 (f_okT (M.2.2 36) (60 * tn slot) (nth (M.2.1 1)) (tn (M.2.1 34 (tn slot)))) (Classical.propDecidable _) (if nrw (M.2.1 1) = 12 then -3 else nI (nrw (M.2.1 1))) (-2)) else -2) else -2
noncomputable def f_roM (M : MS) (slot : Int32) : MS := @ite MS (isI slot 4 ∧ ¬ M.2.1 34 (tn slot) = -1 ∧ (2 ≤ tn (M.2.1 34 (tn slot)) ∧ tn (M.2.1 34 (tn slot)) ≤ 12) ∧ f_okT (M.2.2 36) (60 * tn slot) (nth (M.2.1 1)) (tn (M.2.1 34 (tn slot))) ∧ ¬ nrw (M.2.1 1) = 12) (Classical.propDecidable _) (aR (aR M 30 (f_rm (M.2.2 36) (60 * tn slot) (M.2.1 30) (tn (M.2.1 34 (tn slot))))) 1 (f_mk (M.2.1 1) (f_rm (M.2.2 36) (60 * tn slot) (M.2.1 30) (tn (M.2.1 34 (tn slot)))) (tn (M.2.1 34 (tn slot))))) M
set_option maxHeartbeats 4000000 in
theorem c_rowOf (slot : Int32) (hS : WS (M.2.1 34) (M.2.1 35)) (hWF : WF (M.2.1 1)) : Con l G yX11_rowOf cX11_rowOf 6 (some .int) 3 0 0 [.ref o, .int slot] (mw o ad G.2.1 M) (pI (f_ro M slot) (mw o ad G.2.1 (f_roM M slot))) := by
  refine Con.mk (own := RX11) (by decide) rfl (Nat.le_of_ble_eq_true rfl) (fun X C => ?_)
  refine j_iload_n 1 C dX11_rowOf_0 rfl rfl ?_
  refine j_sI 4 C dX11_rowOf_1 rfl cw11_368 (c_isSlot _) rfl (by decide) ⟨Nat.le_refl _, Nat.le_refl _⟩ rfl (Nat.le_of_ble_eq_true rfl) ?_
  refine j_if_neB 10 7 C dX11_rowOf_4 (by decide) rfl (fun c4 => ?_) (fun c4 => ?_)
  · obtain ⟨s, hs, rfl⟩ := isI_of c4
    obtain ⟨hcm, -⟩ := hS s hs
    have hnr12 := hWF.2.2.1.2
    refine j_aload_n 11 C dX11_rowOf_10 rfl rfl ?_
    refine rg_many 14 C dX11_rowOf_11 rfl ?_
    refine j_iload_n 15 C dX11_rowOf_14 rfl rfl ?_
    refine ra_many 16 C dX11_rowOf_15 rfl _ (by omega) rfl ?_
    refine j_iconst 17 C dX11_rowOf_16 rfl (v := (-1)) (by decide) ?_
    refine j_icmp_ne 23 20 C dX11_rowOf_17 (by decide) rfl (fun c17 => ?_) (fun c17 => ?_)
    · obtain ⟨cm, hcm60, hcm⟩ := hcm.resolve_left c17
      refine j_aload_n 24 C dX11_rowOf_23 rfl rfl ?_
      refine rg_many 27 C dX11_rowOf_24 rfl ?_
      refine j_iload_n 28 C dX11_rowOf_27 rfl rfl ?_
      refine ra_many 29 C dX11_rowOf_28 rfl _ (by omega) rfl ?_
      rw [hcm]
      refine j_i2lN 30 C dX11_rowOf_29 rfl (by omega) ?_
      refine j_ldc2 33 C dX11_rowOf_30 rfl (v := (2)) kc11_86 ?_
      refine j_ldc2 36 C dX11_rowOf_33 rfl (v := (12)) kc11_371 ?_
      refine j_sI 39 C dX11_rowOf_36 rfl cw11_88 (c_in _ _ _) rfl (by decide) ⟨Nat.le_refl _, Nat.le_refl _⟩ rfl (Nat.le_of_ble_eq_true rfl) ?_
      rw [bI_iff (in_2_12 (by omega))]
      refine j_if_neB 45 42 C dX11_rowOf_39 (by decide) rfl (fun c39 => ?_) (fun c39 => ?_)
      · refine j_iconst 46 C dX11_rowOf_45 rfl (v := nI 0) (by decide) ?_
        refine j_istore_n 47 C dX11_rowOf_46 rfl rfl (by decide) ?_
        have lp47 : ∀ (m : Nat) (i : Nat), cm - i = m → i ≤ cm → (∀ i2, i2 < i → (lN 0 ≤ (M.2.2 36) (60 * s + i2) ∧ (M.2.2 36) (60 * s + i2) ≤ (nI (nth (M.2.1 1)) - nI 1).toInt64) ∧ ∀ j, j < i2 → ¬ (M.2.2 36) (60 * s + j) = (M.2.2 36) (60 * s + i2)) → J X 6 0 0 (mw o ad G.2.1 M) 47 [(0, .ref o), (1, .int (nI s)), (2, .int (nI i))] [] := by
          intro m
          induction m using Nat.strongRecOn with
          | ind m ilp47 =>
          intro i hm hi hok
          refine j_iload_n 48 C dX11_rowOf_47 rfl rfl ?_
          refine j_aload_n 49 C dX11_rowOf_48 rfl rfl ?_
          refine rg_many 52 C dX11_rowOf_49 rfl ?_
          refine j_iload_n 53 C dX11_rowOf_52 rfl rfl ?_
          refine ra_many 54 C dX11_rowOf_53 rfl _ (by omega) rfl ?_
          rw [hcm]
          refine j_icmp_geN 130 57 C dX11_rowOf_54 (by decide) rfl (by omega) (by omega) (fun c54 => ?_) (fun c54 => ?_)
          · have hall : f_okT (M.2.2 36) (60 * s) (nth (M.2.1 1)) cm := by rw [show cm = i by omega]; exact hok
            refine j_aload_n 131 C dX11_rowOf_130 rfl rfl ?_
            refine rg_world 134 C dX11_rowOf_131 rfl ?_
            refine j_iconst 135 C dX11_rowOf_134 rfl (v := nI 2) (by decide) ?_
            refine ra_world 136 C dX11_rowOf_135 rfl _ (by omega) rfl ?_
            rw [hWF.2.2.1.1]
            refine j_bipush 138 C dX11_rowOf_136 rfl (v := nI 12) (by decide) ?_
            refine j_icmp_neN 144 141 C dX11_rowOf_138 (by decide) rfl (by omega) (by omega) (fun c138 => ?_) (fun c138 => ?_)
            · refine j_iconst 145 C dX11_rowOf_144 rfl (v := nI 0) (by decide) ?_
              refine j_istore_n 146 C dX11_rowOf_145 rfl rfl (by decide) ?_
              have lp146 : ∀ (m : Nat) (i : Nat), cm - i = m → i ≤ cm → J X 6 0 0 (mw o ad G.2.1 (aR M 30 (f_rm (M.2.2 36) (60 * s) (M.2.1 30) i))) 146 [(0, .ref o), (1, .int (nI s)), (2, .int (nI i))] [] := by
                intro m
                induction m using Nat.strongRecOn with
                | ind m ilp146 =>
                intro i hm hi
                refine j_iload_n 147 C dX11_rowOf_146 rfl rfl ?_
                refine j_aload_n 148 C dX11_rowOf_147 rfl rfl ?_
                refine rg_many 151 C dX11_rowOf_148 rfl ?_
                refine j_iload_n 152 C dX11_rowOf_151 rfl rfl ?_
                refine ra_many 153 C dX11_rowOf_152 rfl _ (by omega) rfl ?_
                rw [show (aR M 30 (f_rm (M.2.2 36) (60 * s) (M.2.1 30) i)).2.1 34 s = nI cm from hcm]
                refine j_icmp_geN 180 156 C dX11_rowOf_153 (by decide) rfl (by omega) (by omega) (fun c153 => ?_) (fun c153 => ?_)
                · refine j_aload_n 181 C dX11_rowOf_180 rfl rfl ?_
                  refine j_aload_n 182 C dX11_rowOf_181 rfl rfl ?_
                  refine rg_many 185 C dX11_rowOf_182 rfl ?_
                  refine j_iload_n 186 C dX11_rowOf_185 rfl rfl ?_
                  refine ra_many 187 C dX11_rowOf_186 rfl _ (by omega) rfl ?_
                  rw [show (aR M 30 (f_rm (M.2.2 36) (60 * s) (M.2.1 30) i)).2.1 34 s = nI cm from hcm]
                  refine j_mI 190 C dX11_rowOf_187 rfl cw11_365 rfl (c_makes (M := aR M 30 (f_rm (M.2.2 36) (60 * s) (M.2.1 30) i)) cm (by omega) (by show nrw (M.2.1 1) < 12; omega) hWF) rfl (by decide) rfl (Nat.le_of_ble_eq_true rfl) ?_
                  exact j_iret C dX11_rowOf_190 ⟨by rw [f_ro, if_pos c4, tn_nI (by omega), if_neg c17, hcm, tn_nI (by omega), if_pos c39, if_pos hall, if_neg c138]; rfl, by rw [show i = cm by omega, f_roM, if_pos ⟨c4, by rw [tn_nI (by omega)]; exact c17, by rw [tn_nI (by omega), hcm, tn_nI (by omega)]; exact c39, by rw [tn_nI (by omega), hcm, tn_nI (by omega)]; exact hall, c138⟩, tn_nI (by omega), hcm, tn_nI (by omega)]; rfl⟩
                · refine j_aload_n 157 C dX11_rowOf_156 rfl rfl ?_
                  refine rg_made 160 C dX11_rowOf_157 rfl ?_
                  refine j_iload_n 161 C dX11_rowOf_160 rfl rfl ?_
                  refine j_aload_n 162 C dX11_rowOf_161 rfl rfl ?_
                  refine rg_numbers 165 C dX11_rowOf_162 rfl ?_
                  refine j_bipush 167 C dX11_rowOf_165 rfl (v := nI 60) (by decide) ?_
                  refine j_iload_n 168 C dX11_rowOf_167 rfl rfl ?_
                  refine j_imulN 169 C dX11_rowOf_168 rfl ?_
                  refine j_iload_n 170 C dX11_rowOf_169 rfl rfl ?_
                  refine j_iaddN 171 C dX11_rowOf_170 rfl ?_
                  refine ra_numbers 172 C dX11_rowOf_171 rfl _ (by omega) rfl ?_
                  rw [show (aR M 30 (f_rm (M.2.2 36) (60 * s) (M.2.1 30) i)).2.2 36 (60 * s + i) = (M.2.2 36) (60 * s + i) from rfl]
                  refine j_l2i 173 C dX11_rowOf_172 rfl ?_
                  refine rs_made 174 C dX11_rowOf_173 rfl _ (by omega) rfl ?_
                  rw [aS_aR]
                  refine j_iincN 177 (z := 1) C dX11_rowOf_174 rfl rfl rfl (by decide) ?_
                  refine j_goto 146 C dX11_rowOf_177 (by decide) ?_
                  exact j_weak _ (by exact ⟨rfl, rfl, rfl, trivial⟩) (ilp146 _ (by omega) (i + 1) rfl (by omega))
              rw [show mw o ad G.2.1 M = mw o ad G.2.1 (aR M 30 (f_rm (M.2.2 36) (60 * s) (M.2.1 30) 0)) from by rw [show (f_rm (M.2.2 36) (60 * s) (M.2.1 30) 0) = M.2.1 30 from rfl, aR_self]]
              exact j_weak _ (by exact ⟨rfl, rfl, rfl, trivial⟩) (lp146 _ 0 rfl (Nat.zero_le _))
            · refine j_bipush 143 C dX11_rowOf_141 rfl (v := (-3)) (by decide) ?_
              exact j_iret C dX11_rowOf_143 ⟨by rw [f_ro, if_pos c4, tn_nI (by omega), if_neg c17, hcm, tn_nI (by omega), if_pos c39, if_pos hall, if_pos c138], by rw [f_roM, if_neg (fun z => z.2.2.2.2 c138)]⟩
          · refine j_aload_n 58 C dX11_rowOf_57 rfl rfl ?_
            refine rg_numbers 61 C dX11_rowOf_58 rfl ?_
            refine j_bipush 63 C dX11_rowOf_61 rfl (v := nI 60) (by decide) ?_
            refine j_iload_n 64 C dX11_rowOf_63 rfl rfl ?_
            refine j_imulN 65 C dX11_rowOf_64 rfl ?_
            refine j_iload_n 66 C dX11_rowOf_65 rfl rfl ?_
            refine j_iaddN 67 C dX11_rowOf_66 rfl ?_
            refine ra_numbers 68 C dX11_rowOf_67 rfl _ (by omega) rfl ?_
            refine j_lstore_n 69 C dX11_rowOf_68 rfl rfl rfl (by decide) ?_
            refine j_lload_n 70 C dX11_rowOf_69 rfl rfl ?_
            refine j_lconst 71 C dX11_rowOf_70 rfl (v := lN 0) (by decide) ?_
            refine j_aload_n 72 C dX11_rowOf_71 rfl rfl ?_
            refine rg_world 75 C dX11_rowOf_72 rfl ?_
            refine j_iconst 76 C dX11_rowOf_75 rfl (v := nI 1) (by decide) ?_
            refine ra_world 77 C dX11_rowOf_76 rfl _ (by omega) rfl ?_
            rw [hWF.2.1.1]
            refine j_iconst 78 C dX11_rowOf_77 rfl (v := nI 1) (by decide) ?_
            refine j_isub 79 C dX11_rowOf_78 rfl ?_
            refine j_i2l 80 C dX11_rowOf_79 rfl ?_
            refine j_sI 83 C dX11_rowOf_80 rfl cw11_88 (c_in _ _ _) rfl (by decide) ⟨Nat.le_refl _, Nat.le_refl _⟩ rfl (Nat.le_of_ble_eq_true rfl) ?_
            refine j_if_neB 89 86 C dX11_rowOf_83 (by decide) rfl (fun c83 => ?_) (fun c83 => ?_)
            · refine j_iconst 90 C dX11_rowOf_89 rfl (v := nI 0) (by decide) ?_
              refine j_istore 92 C dX11_rowOf_90 rfl rfl (by decide) ?_
              have lp92 : ∀ (m : Nat) (j : Nat), i - j = m → j ≤ i → (∀ j2, j2 < j → ¬ (M.2.2 36) (60 * s + j2) = (M.2.2 36) (60 * s + i)) → J X 6 0 0 (mw o ad G.2.1 M) 92 [(0, .ref o), (1, .int (nI s)), (2, .int (nI i)), (3, .long ((M.2.2 36) (60 * s + i))), (5, .int (nI j))] [] := by
                intro m
                induction m using Nat.strongRecOn with
                | ind m ilp92 =>
                intro j hm hj hne
                refine j_iload 94 C dX11_rowOf_92 rfl rfl ?_
                refine j_iload_n 95 C dX11_rowOf_94 rfl rfl ?_
                refine j_icmp_geN 124 98 C dX11_rowOf_95 (by decide) rfl (by omega) (by omega) (fun c95 => ?_) (fun c95 => ?_)
                · refine j_iincN 127 (z := 1) C dX11_rowOf_124 rfl rfl rfl (by decide) ?_
                  refine j_goto 47 C dX11_rowOf_127 (by decide) ?_
                  exact j_weak _ (by exact ⟨rfl, rfl, rfl, trivial⟩) (ilp47 _ (by omega) (i + 1) rfl (by omega) (lt_s hok ⟨c83, fun j2 hj2 => hne j2 (by omega)⟩))
                · refine j_aload_n 99 C dX11_rowOf_98 rfl rfl ?_
                  refine rg_numbers 102 C dX11_rowOf_99 rfl ?_
                  refine j_bipush 104 C dX11_rowOf_102 rfl (v := nI 60) (by decide) ?_
                  refine j_iload_n 105 C dX11_rowOf_104 rfl rfl ?_
                  refine j_imulN 106 C dX11_rowOf_105 rfl ?_
                  refine j_iload 108 C dX11_rowOf_106 rfl rfl ?_
                  refine j_iaddN 109 C dX11_rowOf_108 rfl ?_
                  refine ra_numbers 110 C dX11_rowOf_109 rfl _ (by omega) rfl ?_
                  refine j_lload_n 111 C dX11_rowOf_110 rfl rfl ?_
                  refine j_lcmp 112 C dX11_rowOf_111 rfl ?_
                  refine j_if_neL 118 115 C dX11_rowOf_112 (by decide) rfl (fun c112 => ?_) (fun c112 => ?_)
                  · refine j_iincN 121 (z := 1) C dX11_rowOf_118 rfl rfl rfl (by decide) ?_
                    refine j_goto 92 C dX11_rowOf_121 (by decide) ?_
                    exact j_weak _ (by exact ⟨rfl, rfl, rfl, rfl, rfl, trivial⟩) (ilp92 _ (by omega) (j + 1) rfl (by omega) (lt_s hne c112))
                  · refine j_bipush 117 C dX11_rowOf_115 rfl (v := (-2)) (by decide) ?_
                    exact j_iret C dX11_rowOf_117 ⟨by rw [f_ro, if_pos c4, tn_nI (by omega), if_neg c17, hcm, tn_nI (by omega), if_pos c39, if_neg (fun z => (z i c54).2 j c95 c112)], by rw [f_roM, if_neg (fun z => by have z2 := z.2.2.2.1; rw [tn_nI (by omega), hcm, tn_nI (by omega)] at z2; exact (fun z => (z i c54).2 j c95 c112) z2)]⟩
              exact j_weak _ (by exact ⟨rfl, rfl, rfl, rfl, rfl, trivial⟩) (lp92 _ 0 rfl (Nat.zero_le _) lt_0)
            · refine j_bipush 88 C dX11_rowOf_86 rfl (v := (-2)) (by decide) ?_
              exact j_iret C dX11_rowOf_88 ⟨by rw [f_ro, if_pos c4, tn_nI (by omega), if_neg c17, hcm, tn_nI (by omega), if_pos c39, if_neg (fun z => c83 (z i c54).1)], by rw [f_roM, if_neg (fun z => by have z2 := z.2.2.2.1; rw [tn_nI (by omega), hcm, tn_nI (by omega)] at z2; exact (fun z => c83 (z i c54).1) z2)]⟩
        exact j_weak _ (by exact ⟨rfl, rfl, rfl, trivial⟩) (lp47 _ 0 rfl (Nat.zero_le _) lt_0)
      · refine j_bipush 44 C dX11_rowOf_42 rfl (v := (-2)) (by decide) ?_
        exact j_iret C dX11_rowOf_44 ⟨by rw [f_ro, if_pos c4, tn_nI (by omega), if_neg c17, hcm, tn_nI (by omega), if_neg c39], by rw [f_roM, if_neg (fun z => c39 (by have z2 := z.2.2.1; rw [tn_nI (by omega), hcm, tn_nI (by omega)] at z2; exact z2))]⟩
    · refine j_bipush 22 C dX11_rowOf_20 rfl (v := (-6)) (by decide) ?_
      exact j_iret C dX11_rowOf_22 ⟨by rw [f_ro, if_pos c4, tn_nI (by omega), if_pos c17], by rw [f_roM, if_neg (fun z => z.2.1 (by rw [tn_nI (by omega)]; exact c17))]⟩
  · refine j_bipush 9 C dX11_rowOf_7 rfl (v := (-2)) (by decide) ?_
    exact j_iret C dX11_rowOf_9 ⟨by rw [f_ro, if_neg c4], by rw [f_roM, if_neg (fun z => c4 z.1)]⟩
end S15
