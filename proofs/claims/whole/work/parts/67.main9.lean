section SN8b
variable {l : Launch} {G : GG} {wd hd bk : Nat → Int32} {hr td nb n : Nat} {x y z u : Int32} {zn zs zm zh zt zr zb : Nat → Nat} {Sn Ss Sm Sh St Sr Sb : MS} {fi fs : Nat → Option Nat} {pa dk : Option Nat} {R : va_W}
theorem bks_0 {bk : Nat → Int32} {row : Int32} : ∀ i, (∀ j, j < i → ¬ bk (6 * j) = row) → (f_bks bk row i).1 = 0
  | 0, _ => rfl
  | i + 1, h => by rw [f_bks, if_neg (h i (by omega))]; exact bks_0 i (fun j hj => h j (by omega))
theorem tab_out {x : Int32} {n : Nat} (h : ¬ isI x n) : x.toInt < 0 ∨ (n : Int) - 1 < x.toInt := by unfold isI at h; omega
theorem K10_book (hb0 : Sb.1 0 = nI nb) (hb6 : nb ≤ 60) (hB : ∀ j, j < nb → isI (Sb.2.1 2 (6 * j)) (nrw wd)) : Con l G yX10_book cX10_book 8 (some .int) 2 0 0 [.ref (zn 50), .int x, .int y] (nBk zn (zs 50) G.2.1 Sn fi fs pa dk ++ (sBk zs (zm 50) (zb 50) G.2.1 Ss ++ (mBk zm (zt 50) (zr 50) (zh 50) G.2.1 Sm ++ (hBk zh G.2.1 Sh ++ (tBk zt G.2.1 St ++ (rBk zr G.2.1 Sr ++ (bBk zb G.2.1 Sb ++ (R)))))))) (pI (if isI x (nrw wd) ∧ isI y 4 then f_book (Sb.2.1 2) x nb (tn y) else -1) (nBk zn (zs 50) G.2.1 Sn fi fs pa dk ++ (sBk zs (zm 50) (zb 50) G.2.1 Ss ++ (mBk zm (zt 50) (zr 50) (zh 50) G.2.1 Sm ++ (hBk zh G.2.1 Sh ++ (tBk zt G.2.1 St ++ (rBk zr G.2.1 Sr ++ (bBk zb G.2.1 Sb ++ (R))))))))) := by
  refine Con.mk (own := RX10) (by decide) rfl (Nat.le_of_ble_eq_true rfl) (fun X C => ?_)
  have g68 : ∀ (a : Nat) (f e : Int32), (a, f, e) = (f_bks (Sb.2.1 2) x nb) → J X 8 0 0 (nBk zn (zs 50) G.2.1 Sn fi fs pa dk ++ (sBk zs (zm 50) (zb 50) G.2.1 Ss ++ (mBk zm (zt 50) (zr 50) (zh 50) G.2.1 Sm ++ (hBk zh G.2.1 Sh ++ (tBk zt G.2.1 St ++ (rBk zr G.2.1 Sr ++ (bBk zb G.2.1 Sb ++ (R)))))))) 68 [(0, .ref (zn 50)), (1, .int x), (2, .int y), (3, .ref (zb 50)), (4, .int (nI a)), (5, .int f), (6, .int e)] [] := by
    intro a f e hE
    obtain ⟨hk1, hk2⟩ := f_bks_ok (Sb.2.1 2) x nb hb6
    rw [← hE] at hk1 hk2
    have hab : a ≤ nb := hk1
    refine j_iload 70 C dX10_book_68 rfl rfl ?_
    refine j_iconst 71 C dX10_book_70 rfl (v := nI 2) (by decide) ?_
    refine j_icmp_geN 76 74 C dX10_book_71 (by decide) rfl (by omega) (by omega) (fun c71 => ?_) (fun c71 => ?_)
    · refine j_iload_n 77 C dX10_book_76 rfl rfl ?_
      have hrow : isI x (nrw wd) := Decidable.byContradiction fun q => by have := bks_0 nb (bk := Sb.2.1 2) (row := x) (fun j hj e => q (by rw [← e]; exact hB j hj)); rw [← hE] at this; have h9 : a = 0 := this; omega
      have hk3 : ∃ a1 b1, a1 < nb ∧ b1 < nb ∧ f = nI a1 ∧ e = nI b1 := hk2.resolve_left (fun q => by have h9 : a = 0 := q.1; omega)
      obtain ⟨a1, b1, ha1, hb1, rfl, rfl⟩ := hk3
      by_cases hy4 : isI y 4
      · obtain ⟨q, hq, rfl⟩ := isI_of hy4
        have hR : f_book (Sb.2.1 2) x nb q = (if q = 0 then nI a else if q = 1 then Sb.2.1 2 (6 * tn (nI a1) + 1) else if q = 2 then Sb.2.1 2 (6 * tn (nI b1) + 1) else Sb.2.1 2 (6 * tn (nI b1) + 2) - Sb.2.1 2 (6 * tn (nI a1) + 2)) := by rw [f_book, ← hE, if_neg (by omega)]
        rw [tn_nI (by omega), tn_nI (by omega)] at hR
        obtain rfl | rfl | rfl | rfl : q = 0 ∨ q = 1 ∨ q = 2 ∨ q = 3 := by omega
        · refine j_tabIn 108 C dX10_book_77 (by decide) (by decide) rfl (by decide) ?_
          refine j_iload 110 C dX10_book_108 rfl rfl ?_
          exact j_iret C dX10_book_110 ⟨by rw [if_pos ⟨hrow, hy4⟩, tn_nI (by omega), hR]; rfl, rfl⟩
        · refine j_tabIn 111 C dX10_book_77 (by decide) (by decide) rfl (by decide) ?_
          refine j_aload_n 112 C dX10_book_111 rfl rfl ?_
          refine j_iload 114 C dX10_book_112 rfl rfl ?_
          refine j_iconst 115 C dX10_book_114 rfl (v := nI 1) (by decide) ?_
          refine Lnx_bI 118 C dX10_book_115 rfl cw10_284 rfl (K0_entry (by omega)) rfl (by decide) ⟨Nat.le_refl _, Nat.le_refl _⟩ rfl (Nat.le_of_ble_eq_true rfl) ?_
          exact j_iret C dX10_book_118 ⟨by rw [if_pos ⟨hrow, hy4⟩, tn_nI (by omega), hR]; rfl, rfl⟩
        · refine j_tabIn 119 C dX10_book_77 (by decide) (by decide) rfl (by decide) ?_
          refine j_aload_n 120 C dX10_book_119 rfl rfl ?_
          refine j_iload 122 C dX10_book_120 rfl rfl ?_
          refine j_iconst 123 C dX10_book_122 rfl (v := nI 1) (by decide) ?_
          refine Lnx_bI 126 C dX10_book_123 rfl cw10_284 rfl (K0_entry (by omega)) rfl (by decide) ⟨Nat.le_refl _, Nat.le_refl _⟩ rfl (Nat.le_of_ble_eq_true rfl) ?_
          exact j_iret C dX10_book_126 ⟨by rw [if_pos ⟨hrow, hy4⟩, tn_nI (by omega), hR]; rfl, rfl⟩
        · refine j_tabIn 127 C dX10_book_77 (by decide) (by decide) rfl (by decide) ?_
          refine j_aload_n 128 C dX10_book_127 rfl rfl ?_
          refine j_iload 130 C dX10_book_128 rfl rfl ?_
          refine j_iconst 131 C dX10_book_130 rfl (v := nI 2) (by decide) ?_
          refine Lnx_bI 134 C dX10_book_131 rfl cw10_284 rfl (K0_entry (by omega)) rfl (by decide) ⟨Nat.le_refl _, Nat.le_refl _⟩ rfl (Nat.le_of_ble_eq_true rfl) ?_
          refine j_aload_n 135 C dX10_book_134 rfl rfl ?_
          refine j_iload 137 C dX10_book_135 rfl rfl ?_
          refine j_iconst 138 C dX10_book_137 rfl (v := nI 2) (by decide) ?_
          refine Lnx_bI 141 C dX10_book_138 rfl cw10_284 rfl (K0_entry (by omega)) rfl (by decide) ⟨Nat.le_refl _, Nat.le_refl _⟩ rfl (Nat.le_of_ble_eq_true rfl) ?_
          refine j_isub 142 C dX10_book_141 rfl ?_
          exact j_iret C dX10_book_142 ⟨by rw [if_pos ⟨hrow, hy4⟩, tn_nI (by omega), hR]; rfl, rfl⟩
      · refine j_tabOut 143 C dX10_book_77 (tab_out hy4) (by decide) ?_
        refine j_iconst 144 C dX10_book_143 rfl (v := (-1)) (by decide) ?_
        exact j_iret C dX10_book_144 ⟨by rw [if_neg (fun q => hy4 q.2)], rfl⟩
    · refine j_iconst 75 C dX10_book_74 rfl (v := (-1)) (by decide) ?_
      exact j_iret C dX10_book_75 ⟨by split <;> first | rfl | (rw [f_book, ← hE, if_pos c71]), rfl⟩
  have lp20 : ∀ (m : Nat) (i a : Nat) (f e : Int32), nb - i = m → i ≤ nb → (a, f, e) = (f_bks (Sb.2.1 2) x i) → J X 8 0 0 (nBk zn (zs 50) G.2.1 Sn fi fs pa dk ++ (sBk zs (zm 50) (zb 50) G.2.1 Ss ++ (mBk zm (zt 50) (zr 50) (zh 50) G.2.1 Sm ++ (hBk zh G.2.1 Sh ++ (tBk zt G.2.1 St ++ (rBk zr G.2.1 Sr ++ (bBk zb G.2.1 Sb ++ (R)))))))) 20 [(0, .ref (zn 50)), (1, .int x), (2, .int y), (3, .ref (zb 50)), (4, .int (nI a)), (5, .int f), (6, .int e), (7, .int (nI i))] [] := by
    intro m
    induction m using Nat.strongRecOn with
    | ind m ilp20 =>
    intro i a f e hm hi hE
    refine j_iload 22 C dX10_book_20 rfl rfl ?_
    refine j_aload_n 23 C dX10_book_22 rfl rfl ?_
    refine Lng_b0 26 C dX10_book_23 rfl fl10_115 ?_
    refine j_top hb0 ?_
    refine j_icmp_geN 68 29 C dX10_book_26 (by decide) rfl (by omega) (by omega) (fun c26 => ?_) (fun c26 => ?_)
    · exact j_weak _ (by exact ⟨rfl, rfl, rfl, rfl, rfl, rfl, rfl, trivial⟩) (g68 _ _ _ (by rw [← show i = nb by omega]; exact hE))
    · refine j_aload_n 30 C dX10_book_29 rfl rfl ?_
      refine j_iload 32 C dX10_book_30 rfl rfl ?_
      refine j_iconst 33 C dX10_book_32 rfl (v := nI 0) (by decide) ?_
      refine Lnx_bI 36 C dX10_book_33 rfl cw10_284 rfl (K0_entry (by omega)) rfl (by decide) ⟨Nat.le_refl _, Nat.le_refl _⟩ rfl (Nat.le_of_ble_eq_true rfl) ?_
      refine j_top (x' := Sb.2.1 2 (6 * i)) rfl ?_
      refine j_iload_n 37 C dX10_book_36 rfl rfl ?_
      refine j_icmp_ne 62 40 C dX10_book_37 (by decide) rfl (fun c37 => ?_) (fun c37 => ?_)
      · refine j_iincN 65 (z := 1) C dX10_book_62 rfl rfl rfl (by decide) ?_
        refine j_goto 20 C dX10_book_65 (by decide) ?_
        exact j_weak _ (by exact ⟨rfl, rfl, rfl, rfl, rfl, rfl, rfl, rfl, trivial⟩) (ilp20 _ (by omega) (i + 1) a f e rfl (by omega) (by rw [f_bks, if_neg c37]; exact hE))
      · refine j_iincN 43 (z := 1) C dX10_book_40 rfl rfl rfl (by decide) ?_
        refine j_iload 45 C dX10_book_43 rfl rfl ?_
        refine j_iconst 46 C dX10_book_45 rfl (v := (-1)) (by decide) ?_
        refine j_icmp_ne 54 49 C dX10_book_46 (by decide) rfl (fun c46 => ?_) (fun c46 => ?_)
        · refine j_iload 56 C dX10_book_54 rfl rfl ?_
          refine j_istore 58 C dX10_book_56 rfl rfl (by decide) ?_
          refine j_iload 60 C dX10_book_58 rfl rfl ?_
          refine j_istore 62 C dX10_book_60 rfl rfl (by decide) ?_
          refine j_iincN 65 (z := 1) C dX10_book_62 rfl rfl rfl (by decide) ?_
          refine j_goto 20 C dX10_book_65 (by decide) ?_
          exact j_weak _ (by exact ⟨rfl, rfl, rfl, rfl, rfl, rfl, rfl, rfl, trivial⟩) (ilp20 _ (by omega) (i + 1) (a + 1) f _ rfl (by omega) (by rw [f_bks, if_pos c37, ← hE, if_neg c46]))
        · refine j_iload 51 C dX10_book_49 rfl rfl ?_
          refine j_goto 56 C dX10_book_51 (by decide) ?_
          refine j_istore 58 C dX10_book_56 rfl rfl (by decide) ?_
          refine j_iload 60 C dX10_book_58 rfl rfl ?_
          refine j_istore 62 C dX10_book_60 rfl rfl (by decide) ?_
          refine j_iincN 65 (z := 1) C dX10_book_62 rfl rfl rfl (by decide) ?_
          refine j_goto 20 C dX10_book_65 (by decide) ?_
          exact j_weak _ (by exact ⟨rfl, rfl, rfl, rfl, rfl, rfl, rfl, rfl, trivial⟩) (ilp20 _ (by omega) (i + 1) (a + 1) _ _ rfl (by omega) (by rw [f_bks, if_pos c37, ← hE, if_pos c46]))
  refine j_aload_n 1 C dX10_book_0 rfl rfl ?_
  refine Lng_n4 4 C dX10_book_1 rfl fl10_20 ?_
  refine Lng_s1 7 C dX10_book_4 rfl fl10_97 ?_
  refine j_astore_n 8 C dX10_book_7 rfl rfl (by decide) ?_
  refine j_iconst 9 C dX10_book_8 rfl (v := nI 0) (by decide) ?_
  refine j_istore 11 C dX10_book_9 rfl rfl (by decide) ?_
  refine j_iconst 12 C dX10_book_11 rfl (v := (-1)) (by decide) ?_
  refine j_istore 14 C dX10_book_12 rfl rfl (by decide) ?_
  refine j_iconst 15 C dX10_book_14 rfl (v := (-1)) (by decide) ?_
  refine j_istore 17 C dX10_book_15 rfl rfl (by decide) ?_
  refine j_iconst 18 C dX10_book_17 rfl (v := nI 0) (by decide) ?_
  refine j_istore 20 C dX10_book_18 rfl rfl (by decide) ?_
  exact j_weak _ (by exact ⟨rfl, rfl, rfl, rfl, rfl, rfl, rfl, rfl, trivial⟩) (lp20 _ 0 0 _ _ rfl (Nat.zero_le _) rfl)
end SN8b
