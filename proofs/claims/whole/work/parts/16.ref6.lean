theorem in_c {x : Int32} {v : Int64} {n : Nat} (hv : v.toInt + 1 = (n : Int)) : (lN 0 ≤ x.toInt64 ∧ x.toInt64 ≤ v) ↔ isI x n := by
  rw [le64, le64, t64]
  show (0 : Int) ≤ x.toInt ∧ x.toInt ≤ v.toInt ↔ 0 ≤ x.toInt ∧ x.toInt < (n : Int)
  omega
/-- x is one of 1 .. n-1 -/
abbrev isP (x : Int32) (n : Nat) : Prop := 1 ≤ x.toInt ∧ x.toInt < (n : Int)
theorem in_p {x : Int32} {v : Int64} {n : Nat} (hv : v.toInt + 1 = (n : Int)) : (lN 1 ≤ x.toInt64 ∧ x.toInt64 ≤ v) ↔ isP x n := by
  rw [le64, le64, t64]
  show (1 : Int) ≤ x.toInt ∧ x.toInt ≤ v.toInt ↔ 1 ≤ x.toInt ∧ x.toInt < (n : Int)
  omega
theorem isP_of {x : Int32} {n : Nat} (h : isP x n) (hn : n < 2 ^ 31) : ∃ j, 1 ≤ j ∧ j < n ∧ x = nI j := by
  obtain ⟨j, hj, e⟩ := isI_of (x := x) (n := n) ⟨by have := h.1; omega, h.2⟩
  subst e
  have h1 := h.1
  rw [nI_toInt (by omega)] at h1
  exact ⟨j, by omega, hj, rfl⟩
theorem ifI {α : Type} {r n : Nat} (hr : r < n) (hn : n < 2 ^ 31) (f : Nat → α) (z : α) : (if isI (nI r) n then f (tn (nI r)) else z) = f r := by
  rw [if_pos (isI_nI hr hn), tn_nI (by omega)]
theorem ifN {α : Type} {x : Int32} {n : Nat} (hr : ¬ isI x n) (f z : α) : (if isI x n then f else z) = z := if_neg hr
def shB (bk : Nat → Int32) (k : Nat) : Nat → Int32 := fun j => if j + 6 < k then bk (j + 6) else bk j
theorem shB_step (bk : Nat → Int32) (k : Nat) (hk : 6 ≤ k) : upd (shB bk k) (k - 6) (shB bk k k) = shB bk (k + 1) := by
  funext j
  unfold upd shB
  by_cases e : j = k - 6
  · rw [if_pos e, if_neg (by omega), if_pos (by omega), show j + 6 = k by omega]
  · rw [if_neg e]
    by_cases e2 : j + 6 < k
    · rw [if_pos e2, if_pos (by omega)]
    · rw [if_neg e2, if_neg (by omega)]
theorem shB_6 (bk : Nat → Int32) : shB bk 6 = bk := by funext j; unfold shB; rw [if_neg (by omega)]
def bkN (M : MS) : Nat := if M.1 3 = nI 60 then 59 else tn (M.1 3)
def bkL (M : MS) : Int32 := if M.1 3 = nI 60 then M.1 4 + nI 1 else M.1 4
def bkA (M : MS) : Nat → Int32 := if M.1 3 = nI 60 then shB (M.2.1 5) 360 else M.2.1 5
def setB (M : MS) (n lost : Int32) (bk wd : Nat → Int32) : MS := aR (aR (sS (sS M 3 n) 4 lost) 5 bk) 1 wd
def sitM (M : MS) (h : Nat → Int32) (r : Nat) (rd how ahead : Int32) : MS := setB M (nI (bkN M + 1)) (bkL M)
  (upd (upd (upd (upd (upd (upd (bkA M) (6 * bkN M) (nI r)) (6 * bkN M + 1) rd) (6 * bkN M + 2) (h 2016)) (6 * bkN M + 3) ahead) (6 * bkN M + 4) (f_ones (f_slips (M.2.1 1) h r) 12)) (6 * bkN M + 5) how)
  (upd (M.2.1 1) (34 + 14 * r + 1 + 12) (M.2.1 1 (34 + 14 * r + 1 + 12) + rd))
def f_readsN (wd : Nat → Int32) (cl cv : Int32) (r : Nat) : Nat → (Nat → Int32) → (Nat → Int32)
  | 0, h => h
  | n + 1, h => f_reads wd cl cv r (f_readsN wd cl cv r n h)
section S7
variable {l : Launch} {G : GG} {o : Nat} {ad : Nat → Nat} {M : MS} {h : Nat → Int32}
set_option maxHeartbeats 4000000 in
theorem c_sits (r : Nat) (rd how ahead : Int32) {n : Nat} (hn : M.1 3 = nI n) (hn60 : n ≤ 60) (hr : r < nrw (M.2.1 1)) (hWF : WF (M.2.1 1)) : Con l G yX11_sits cX11_sits 6 none 4 0 0 [.ref o, .int (nI r), .int rd, .int how, .int ahead] (mw o ad G.2.1 (setHd M h)) (pV (mw o ad G.2.1 (setHd (sitM M h r rd how ahead) h))) := by
  refine Con.mk (own := RX11) (by decide) rfl (Nat.le_of_ble_eq_true rfl) (fun X C => ?_)
  have hr12 : r < 12 := Nat.lt_of_lt_of_le hr hWF.2.2.1.2
  refine j_aload_n 1 C dX11_sits_0 rfl rfl ?_
  refine rgH_sittings 4 C dX11_sits_1 rfl ?_
  rw [hn]
  refine j_bipush 6 C dX11_sits_4 rfl (v := nI 60) (by decide) ?_
  refine j_icmp_neN 64 9 C dX11_sits_6 (by decide) rfl (by omega) (by omega) (fun c6 => ?_) (fun c6 => ?_)
  · have hN : bkN M = n := by rw [bkN, if_neg (by rw [hn, nI_eq (by omega) (by decide)]; exact c6), hn, tn_nI (by omega)]
    have hLs : bkL M = M.1 4 := by rw [bkL, if_neg (by rw [hn, nI_eq (by omega) (by decide)]; exact c6)]
    have hAr : bkA M = M.2.1 5 := by rw [bkA, if_neg (by rw [hn, nI_eq (by omega) (by decide)]; exact c6)]
    refine j_bipush 66 C dX11_sits_64 rfl (v := nI 6) (by decide) ?_
    refine j_aload_n 67 C dX11_sits_66 rfl rfl ?_
    refine rgH_sittings 70 C dX11_sits_67 rfl ?_
    rw [hn]
    refine j_imulN 71 C dX11_sits_70 rfl ?_
    refine j_istore 73 C dX11_sits_71 rfl rfl (by decide) ?_
    refine j_aload_n 74 C dX11_sits_73 rfl rfl ?_
    refine rgH_book 77 C dX11_sits_74 rfl ?_
    refine j_iload 79 C dX11_sits_77 rfl rfl ?_
    refine j_iload_n 80 C dX11_sits_79 rfl rfl ?_
    refine rsH_book 81 C dX11_sits_80 rfl _ (by omega) rfl ?_
    refine j_aload_n 82 C dX11_sits_81 rfl rfl ?_
    refine rgH_book 85 C dX11_sits_82 rfl ?_
    refine j_iload 87 C dX11_sits_85 rfl rfl ?_
    refine j_iconst 88 C dX11_sits_87 rfl (v := nI 1) (by decide) ?_
    refine j_iaddN 89 C dX11_sits_88 rfl ?_
    refine j_iload_n 90 C dX11_sits_89 rfl rfl ?_
    refine rsH_book 91 C dX11_sits_90 rfl _ (by omega) rfl ?_
    refine j_aload_n 92 C dX11_sits_91 rfl rfl ?_
    refine rgH_book 95 C dX11_sits_92 rfl ?_
    refine j_iload 97 C dX11_sits_95 rfl rfl ?_
    refine j_iconst 98 C dX11_sits_97 rfl (v := nI 2) (by decide) ?_
    refine j_iaddN 99 C dX11_sits_98 rfl ?_
    refine j_aload_n 100 C dX11_sits_99 rfl rfl ?_
    refine rgH_head 103 C dX11_sits_100 rfl ?_
    refine j_sipush 106 C dX11_sits_103 rfl (v := nI 2016) (by decide) ?_
    refine raH_head 107 C dX11_sits_106 rfl _ (by omega) rfl ?_
    refine rsH_book 108 C dX11_sits_107 rfl _ (by omega) rfl ?_
    refine j_aload_n 109 C dX11_sits_108 rfl rfl ?_
    refine rgH_book 112 C dX11_sits_109 rfl ?_
    refine j_iload 114 C dX11_sits_112 rfl rfl ?_
    refine j_iconst 115 C dX11_sits_114 rfl (v := nI 3) (by decide) ?_
    refine j_iaddN 116 C dX11_sits_115 rfl ?_
    refine j_iload 118 C dX11_sits_116 rfl rfl ?_
    refine rsH_book 119 C dX11_sits_118 rfl _ (by omega) rfl ?_
    refine j_aload_n 120 C dX11_sits_119 rfl rfl ?_
    refine rgH_book 123 C dX11_sits_120 rfl ?_
    refine j_iload 125 C dX11_sits_123 rfl rfl ?_
    refine j_iconst 126 C dX11_sits_125 rfl (v := nI 4) (by decide) ?_
    refine j_iaddN 127 C dX11_sits_126 rfl ?_
    refine j_aload_n 128 C dX11_sits_127 rfl rfl ?_
    refine j_iload_n 129 C dX11_sits_128 rfl rfl ?_
    refine j_mI 132 C dX11_sits_129 rfl cw11_297 rfl (c_slipsOf (M := _) r hr hWF) rfl (by decide) rfl (Nat.le_of_ble_eq_true rfl) ?_
    refine j_sI 135 C dX11_sits_132 rfl cw11_312 (c_ones _) rfl (by decide) ⟨Nat.le_refl _, Nat.le_refl _⟩ rfl (Nat.le_of_ble_eq_true rfl) ?_
    refine rsH_book 136 C dX11_sits_135 rfl _ (by omega) rfl ?_
    refine j_aload_n 137 C dX11_sits_136 rfl rfl ?_
    refine rgH_book 140 C dX11_sits_137 rfl ?_
    refine j_iload 142 C dX11_sits_140 rfl rfl ?_
    refine j_iconst 143 C dX11_sits_142 rfl (v := nI 5) (by decide) ?_
    refine j_iaddN 144 C dX11_sits_143 rfl ?_
    refine j_iload_n 145 C dX11_sits_144 rfl rfl ?_
    refine rsH_book 146 C dX11_sits_145 rfl _ (by omega) rfl ?_
    refine j_ws (mw o ad G.2.1 (setHd (aR M 5 (upd (upd (upd (upd (upd (upd (M.2.1 5) (6 * n) (nI r)) (6 * n + 1) rd) (6 * n + 2) (h 2016)) (6 * n + 3) ahead) (6 * n + 4) (f_ones (f_slips (M.2.1 1) h r) 12)) (6 * n + 5) how)) h)) rfl ?_
    refine j_aload_n 147 C dX11_sits_146 rfl rfl ?_
    refine j_dup 148 C dX11_sits_147 rfl rfl ?_
    refine rgH_sittings 151 C dX11_sits_148 rfl ?_
    rw [show (aR M 5 _).1 3 = nI n from hn]
    refine j_iconst 152 C dX11_sits_151 rfl (v := nI 1) (by decide) ?_
    refine j_iaddN 153 C dX11_sits_152 rfl ?_
    refine rpH_sittings 156 C dX11_sits_153 rfl ?_
    refine j_aload_n 157 C dX11_sits_156 rfl rfl ?_
    refine rgH_world 160 C dX11_sits_157 rfl ?_
    refine j_bipush 162 C dX11_sits_160 rfl (v := nI 34) (by decide) ?_
    refine j_bipush 164 C dX11_sits_162 rfl (v := nI 14) (by decide) ?_
    refine j_iload_n 165 C dX11_sits_164 rfl rfl ?_
    refine j_imulN 166 C dX11_sits_165 rfl ?_
    refine j_iaddN 167 C dX11_sits_166 rfl ?_
    refine j_iconst 168 C dX11_sits_167 rfl (v := nI 1) (by decide) ?_
    refine j_iaddN 169 C dX11_sits_168 rfl ?_
    refine j_bipush 171 C dX11_sits_169 rfl (v := nI 12) (by decide) ?_
    refine j_iaddN 172 C dX11_sits_171 rfl ?_
    refine j_dup2 173 C dX11_sits_172 rfl rfl rfl ?_
    refine raH_world 174 C dX11_sits_173 rfl _ (by omega) rfl ?_
    refine j_iload_n 175 C dX11_sits_174 rfl rfl ?_
    refine j_iadd 176 C dX11_sits_175 rfl ?_
    refine rsH_world 177 C dX11_sits_176 rfl _ (by omega) rfl ?_
    exact j_vret C dX11_sits_177 ⟨rfl, by rw [sitM, hN, hLs, hAr]; rfl⟩
  · have hN : bkN M = 59 := by rw [bkN, if_pos (by rw [hn, c6])]
    have hLs : bkL M = M.1 4 + nI 1 := by rw [bkL, if_pos (by rw [hn, c6])]
    have hAr : bkA M = shB (M.2.1 5) 360 := by rw [bkA, if_pos (by rw [hn, c6])]
    refine j_bipush 11 C dX11_sits_9 rfl (v := nI 6) (by decide) ?_
    refine j_istore 13 C dX11_sits_11 rfl rfl (by decide) ?_
    have lp13 : ∀ (m : Nat) (k : Nat), 360 - k = m → 6 ≤ k → k ≤ 360 → J X 6 0 0 (mw o ad G.2.1 (setHd (aR M 5 (shB (M.2.1 5) k)) h)) 13 [(0, .ref o), (1, .int (nI r)), (2, .int rd), (3, .int how), (4, .int ahead), (5, .int (nI k))] [] := by
      intro m
      induction m using Nat.strongRecOn with
      | ind m ilp13 =>
      intro k hm hk6 hk
      refine j_iload 15 C dX11_sits_13 rfl rfl ?_
      refine j_sipush 18 C dX11_sits_15 rfl (v := nI 360) (by decide) ?_
      refine j_icmp_geN 44 21 C dX11_sits_18 (by decide) rfl (by omega) (by omega) (fun c18 => ?_) (fun c18 => ?_)
      · refine j_aload_n 45 C dX11_sits_44 rfl rfl ?_
        refine j_dup 46 C dX11_sits_45 rfl rfl ?_
        refine rgH_sittings 49 C dX11_sits_46 rfl ?_
        rw [show (aR M 5 (shB (M.2.1 5) k)).1 3 = nI 60 from by rw [← c6]; exact hn]
        refine j_iconst 50 C dX11_sits_49 rfl (v := nI 1) (by decide) ?_
        refine j_isubN 51 C dX11_sits_50 rfl (by decide) ?_
        rw [show 60 - 1 = 59 from rfl]
        refine rpH_sittings 54 C dX11_sits_51 rfl ?_
        rw [show k = 360 by omega]
        refine j_aload_n 55 C dX11_sits_54 rfl rfl ?_
        refine j_dup 56 C dX11_sits_55 rfl rfl ?_
        refine rgH_lost 59 C dX11_sits_56 rfl ?_
        refine j_iconst 60 C dX11_sits_59 rfl (v := nI 1) (by decide) ?_
        refine j_iadd 61 C dX11_sits_60 rfl ?_
        refine rpH_lost 64 C dX11_sits_61 rfl ?_
        refine j_ws (mw o ad G.2.1 (setHd (aR (sS (sS M 3 (nI 59)) 4 (M.1 4 + nI 1)) 5 (shB (M.2.1 5) 360)) h)) rfl ?_
        refine j_bipush 66 C dX11_sits_64 rfl (v := nI 6) (by decide) ?_
        refine j_aload_n 67 C dX11_sits_66 rfl rfl ?_
        refine rgH_sittings 70 C dX11_sits_67 rfl ?_
        rw [show (aR (sS (sS M 3 (nI 59)) 4 (M.1 4 + nI 1)) 5 _).1 3 = nI 59 from rfl]
        refine j_imulN 71 C dX11_sits_70 rfl ?_
        refine j_istore 73 C dX11_sits_71 rfl rfl (by decide) ?_
        refine j_aload_n 74 C dX11_sits_73 rfl rfl ?_
        refine rgH_book 77 C dX11_sits_74 rfl ?_
        refine j_iload 79 C dX11_sits_77 rfl rfl ?_
        refine j_iload_n 80 C dX11_sits_79 rfl rfl ?_
        refine rsH_book 81 C dX11_sits_80 rfl _ (by omega) rfl ?_
        refine j_aload_n 82 C dX11_sits_81 rfl rfl ?_
        refine rgH_book 85 C dX11_sits_82 rfl ?_
        refine j_iload 87 C dX11_sits_85 rfl rfl ?_
        refine j_iconst 88 C dX11_sits_87 rfl (v := nI 1) (by decide) ?_
        refine j_iaddN 89 C dX11_sits_88 rfl ?_
        refine j_iload_n 90 C dX11_sits_89 rfl rfl ?_
        refine rsH_book 91 C dX11_sits_90 rfl _ (by omega) rfl ?_
        refine j_aload_n 92 C dX11_sits_91 rfl rfl ?_
        refine rgH_book 95 C dX11_sits_92 rfl ?_
        refine j_iload 97 C dX11_sits_95 rfl rfl ?_
        refine j_iconst 98 C dX11_sits_97 rfl (v := nI 2) (by decide) ?_
        refine j_iaddN 99 C dX11_sits_98 rfl ?_
        refine j_aload_n 100 C dX11_sits_99 rfl rfl ?_
        refine rgH_head 103 C dX11_sits_100 rfl ?_
        refine j_sipush 106 C dX11_sits_103 rfl (v := nI 2016) (by decide) ?_
        refine raH_head 107 C dX11_sits_106 rfl _ (by omega) rfl ?_
        refine rsH_book 108 C dX11_sits_107 rfl _ (by omega) rfl ?_
        refine j_aload_n 109 C dX11_sits_108 rfl rfl ?_
        refine rgH_book 112 C dX11_sits_109 rfl ?_
        refine j_iload 114 C dX11_sits_112 rfl rfl ?_
        refine j_iconst 115 C dX11_sits_114 rfl (v := nI 3) (by decide) ?_
        refine j_iaddN 116 C dX11_sits_115 rfl ?_
        refine j_iload 118 C dX11_sits_116 rfl rfl ?_
        refine rsH_book 119 C dX11_sits_118 rfl _ (by omega) rfl ?_
        refine j_aload_n 120 C dX11_sits_119 rfl rfl ?_
        refine rgH_book 123 C dX11_sits_120 rfl ?_
        refine j_iload 125 C dX11_sits_123 rfl rfl ?_
        refine j_iconst 126 C dX11_sits_125 rfl (v := nI 4) (by decide) ?_
        refine j_iaddN 127 C dX11_sits_126 rfl ?_
        refine j_aload_n 128 C dX11_sits_127 rfl rfl ?_
        refine j_iload_n 129 C dX11_sits_128 rfl rfl ?_
        refine j_mI 132 C dX11_sits_129 rfl cw11_297 rfl (c_slipsOf (M := _) r hr hWF) rfl (by decide) rfl (Nat.le_of_ble_eq_true rfl) ?_
        refine j_sI 135 C dX11_sits_132 rfl cw11_312 (c_ones _) rfl (by decide) ⟨Nat.le_refl _, Nat.le_refl _⟩ rfl (Nat.le_of_ble_eq_true rfl) ?_
        refine rsH_book 136 C dX11_sits_135 rfl _ (by omega) rfl ?_
        refine j_aload_n 137 C dX11_sits_136 rfl rfl ?_
        refine rgH_book 140 C dX11_sits_137 rfl ?_
        refine j_iload 142 C dX11_sits_140 rfl rfl ?_
        refine j_iconst 143 C dX11_sits_142 rfl (v := nI 5) (by decide) ?_
        refine j_iaddN 144 C dX11_sits_143 rfl ?_
        refine j_iload_n 145 C dX11_sits_144 rfl rfl ?_
        refine rsH_book 146 C dX11_sits_145 rfl _ (by omega) rfl ?_
        refine j_ws (mw o ad G.2.1 (setHd (aR (sS (sS M 3 (nI 59)) 4 (M.1 4 + nI 1)) 5 (upd (upd (upd (upd (upd (upd (shB (M.2.1 5) 360) (6 * 59) (nI r)) (6 * 59 + 1) rd) (6 * 59 + 2) (h 2016)) (6 * 59 + 3) ahead) (6 * 59 + 4) (f_ones (f_slips (M.2.1 1) h r) 12)) (6 * 59 + 5) how)) h)) rfl ?_
        refine j_aload_n 147 C dX11_sits_146 rfl rfl ?_
        refine j_dup 148 C dX11_sits_147 rfl rfl ?_
        refine rgH_sittings 151 C dX11_sits_148 rfl ?_
        rw [show (aR (sS (sS M 3 (nI 59)) 4 (M.1 4 + nI 1)) 5 _).1 3 = nI 59 from rfl]
        refine j_iconst 152 C dX11_sits_151 rfl (v := nI 1) (by decide) ?_
        refine j_iaddN 153 C dX11_sits_152 rfl ?_
        refine rpH_sittings 156 C dX11_sits_153 rfl ?_
        refine j_aload_n 157 C dX11_sits_156 rfl rfl ?_
        refine rgH_world 160 C dX11_sits_157 rfl ?_
        refine j_bipush 162 C dX11_sits_160 rfl (v := nI 34) (by decide) ?_
        refine j_bipush 164 C dX11_sits_162 rfl (v := nI 14) (by decide) ?_
        refine j_iload_n 165 C dX11_sits_164 rfl rfl ?_
        refine j_imulN 166 C dX11_sits_165 rfl ?_
        refine j_iaddN 167 C dX11_sits_166 rfl ?_
        refine j_iconst 168 C dX11_sits_167 rfl (v := nI 1) (by decide) ?_
        refine j_iaddN 169 C dX11_sits_168 rfl ?_
        refine j_bipush 171 C dX11_sits_169 rfl (v := nI 12) (by decide) ?_
        refine j_iaddN 172 C dX11_sits_171 rfl ?_
        refine j_dup2 173 C dX11_sits_172 rfl rfl rfl ?_
        refine raH_world 174 C dX11_sits_173 rfl _ (by omega) rfl ?_
        refine j_iload_n 175 C dX11_sits_174 rfl rfl ?_
        refine j_iadd 176 C dX11_sits_175 rfl ?_
        refine rsH_world 177 C dX11_sits_176 rfl _ (by omega) rfl ?_
        exact j_vret C dX11_sits_177 ⟨rfl, by rw [sitM, hN, hLs, hAr]; rfl⟩
      · refine j_aload_n 22 C dX11_sits_21 rfl rfl ?_
        refine rgH_book 25 C dX11_sits_22 rfl ?_
        refine j_iload 27 C dX11_sits_25 rfl rfl ?_
        refine j_bipush 29 C dX11_sits_27 rfl (v := nI 6) (by decide) ?_
        refine j_isubN 30 C dX11_sits_29 rfl (by omega) ?_
        refine j_aload_n 31 C dX11_sits_30 rfl rfl ?_
        refine rgH_book 34 C dX11_sits_31 rfl ?_
        refine j_iload 36 C dX11_sits_34 rfl rfl ?_
        refine raH_book 37 C dX11_sits_36 rfl _ (by omega) rfl ?_
        refine rsH_book 38 C dX11_sits_37 rfl _ (by omega) rfl ?_
        rw [aS_aR, show (aR M 5 (shB (M.2.1 5) k)).2.1 5 k = shB (M.2.1 5) k k from rfl, shB_step _ _ (by omega)]
        refine j_iincN 41 (z := 1) C dX11_sits_38 rfl rfl rfl (by decide) ?_
        refine j_goto 13 C dX11_sits_41 (by decide) ?_
        exact j_weak _ (by exact ⟨rfl, rfl, rfl, rfl, rfl, rfl, trivial⟩) (ilp13 _ (by omega) (k + 1) rfl (by omega) (by omega))
    rw [show setHd M h = setHd (aR M 5 (shB (M.2.1 5) 6)) h from by rw [shB_6, aR_self]]
    exact j_weak _ (by exact ⟨rfl, rfl, rfl, rfl, rfl, rfl, trivial⟩) (lp13 _ 6 rfl (by decide) (by decide))
theorem c_slips (row : Int32) (hWF : WF (M.2.1 1)) : Con l G yX11_slips cX11_slips 2 (some .int) 4 0 0 [.ref o, .int row] (mw o ad G.2.1 (setHd M h)) (pI (if isI row (nrw (M.2.1 1)) then f_slips (M.2.1 1) h (tn row) else -2) (mw o ad G.2.1 (setHd M h))) := by
  refine Con.mk (own := RX11) (by decide) rfl (Nat.le_of_ble_eq_true rfl) (fun X C => ?_)
  refine j_aload_n 1 C dX11_slips_0 rfl rfl ?_
  refine j_iload_n 2 C dX11_slips_1 rfl rfl ?_
  refine j_mI 5 C dX11_slips_2 rfl cw11_315 rfl (c_isRowH _ hWF.2.2.1.1 (Nat.lt_of_le_of_lt hWF.2.2.1.2 (by decide))) rfl (by decide) rfl (Nat.le_of_ble_eq_true rfl) ?_
  refine j_if_eqB 16 8 C dX11_slips_5 (by decide) rfl (fun c5 => ?_) (fun c5 => ?_)
  · refine j_bipush 18 C dX11_slips_16 rfl (v := (-2)) (by decide) ?_
    exact j_iret C dX11_slips_18 ⟨by rw [ifN c5], rfl⟩
  · obtain ⟨r, hr, rfl⟩ := isI_of c5
    have hr12 : r < 12 := Nat.lt_of_lt_of_le hr hWF.2.2.1.2
    refine j_aload_n 9 C dX11_slips_8 rfl rfl ?_
    refine j_iload_n 10 C dX11_slips_9 rfl rfl ?_
    refine j_mI 13 C dX11_slips_10 rfl cw11_297 rfl (c_slipsOf r hr hWF) rfl (by decide) rfl (Nat.le_of_ble_eq_true rfl) ?_
    refine j_goto 18 C dX11_slips_13 (by decide) ?_
    exact j_iret C dX11_slips_18 ⟨by rw [ifI hr (by have := hWF.2.2.1.2; omega) (f_slips (M.2.1 1) h)], rfl⟩
theorem c_support (row i : Int32) (hWF : WF (M.2.1 1)) : Con l G yX11_support cX11_support 3 (some .int) 3 0 0 [.ref o, .int row, .int i] (mw o ad G.2.1 (setHd M h)) (pI (if isI row (nrw (M.2.1 1)) ∧ isI i (len (M.2.1 1) (tn row)) then f_sup (M.2.1 1) h (tn row) (tn i) else -2) (mw o ad G.2.1 (setHd M h))) := by
  refine Con.mk (own := RX11) (by decide) rfl (Nat.le_of_ble_eq_true rfl) (fun X C => ?_)
  refine j_aload_n 1 C dX11_support_0 rfl rfl ?_
  refine j_iload_n 2 C dX11_support_1 rfl rfl ?_
  refine j_mI 5 C dX11_support_2 rfl cw11_315 rfl (c_isRowH _ hWF.2.2.1.1 (Nat.lt_of_le_of_lt hWF.2.2.1.2 (by decide))) rfl (by decide) rfl (Nat.le_of_ble_eq_true rfl) ?_
  refine j_if_eqB 34 8 C dX11_support_5 (by decide) rfl (fun c5 => ?_) (fun c5 => ?_)
  · refine j_bipush 36 C dX11_support_34 rfl (v := (-2)) (by decide) ?_
    exact j_iret C dX11_support_36 ⟨by rw [if_neg (fun z => c5 z.1)], rfl⟩
  · obtain ⟨r, hr, rfl⟩ := isI_of c5
    have hr12 : r < 12 := Nat.lt_of_lt_of_le hr hWF.2.2.1.2
    obtain ⟨⟨hlen, hl2, hl12⟩, -⟩ := hWF.2.2.2 r hr
    refine j_iload_n 9 C dX11_support_8 rfl rfl ?_
    refine j_i2l 10 C dX11_support_9 rfl ?_
    refine j_lconst 11 C dX11_support_10 rfl (v := lN 0) (by decide) ?_
    refine j_aload_n 12 C dX11_support_11 rfl rfl ?_
    refine j_iload_n 13 C dX11_support_12 rfl rfl ?_
    refine j_mI 16 C dX11_support_13 rfl cw11_278 rfl (c_manyOfH r hr12) rfl (by decide) rfl (Nat.le_of_ble_eq_true rfl) ?_
    rw [hlen]
    refine j_iconst 17 C dX11_support_16 rfl (v := nI 1) (by decide) ?_
    refine j_isub 18 C dX11_support_17 rfl ?_
    refine j_i2l 19 C dX11_support_18 rfl ?_
    refine j_sI 22 C dX11_support_19 rfl cw11_88 (c_in _ _ _) rfl (by decide) ⟨Nat.le_refl _, Nat.le_refl _⟩ rfl (Nat.le_of_ble_eq_true rfl) ?_
    rw [bI_iff (in_less (by omega))]
    refine j_if_eqB 34 25 C dX11_support_22 (by decide) rfl (fun c22 => ?_) (fun c22 => ?_)
    · refine j_bipush 36 C dX11_support_34 rfl (v := (-2)) (by decide) ?_
      exact j_iret C dX11_support_36 ⟨by rw [if_neg (fun z => c22 (by have := z.2; rwa [tn_nI (by omega)] at this))], rfl⟩
    · obtain ⟨i, hi, rfl⟩ := isI_of c22
      refine j_aload_n 26 C dX11_support_25 rfl rfl ?_
      refine j_iload_n 27 C dX11_support_26 rfl rfl ?_
      refine j_iload_n 28 C dX11_support_27 rfl rfl ?_
      refine j_mI 31 C dX11_support_28 rfl cw11_291 rfl (c_supportOf r i hr hi hWF) rfl (by decide) rfl (Nat.le_of_ble_eq_true rfl) ?_
      refine j_goto 36 C dX11_support_31 (by decide) ?_
      exact j_iret C dX11_support_36 ⟨by rw [if_pos ⟨c5, by rw [tn_nI (by omega)]; exact c22⟩, tn_nI (by omega), tn_nI (by omega)], rfl⟩
theorem c_links (sort : Int32) : Con l G yX11_links cX11_links 2 (some .int) 2 0 0 [.ref o, .int sort] (mw o ad G.2.1 (setHd M h)) (pI (if isI sort 4 then f_links h (tn sort) else -2) (mw o ad G.2.1 (setHd M h))) := by
  refine Con.mk (own := RX11) (by decide) rfl (Nat.le_of_ble_eq_true rfl) (fun X C => ?_)
  refine j_iload_n 1 C dX11_links_0 rfl rfl ?_
  refine j_i2l 2 C dX11_links_1 rfl ?_
  refine j_lconst 3 C dX11_links_2 rfl (v := lN 0) (by decide) ?_
  refine j_ldc2 6 C dX11_links_3 rfl (v := (3)) kc11_251 ?_
  refine j_sI 9 C dX11_links_6 rfl cw11_88 (c_in _ _ _) rfl (by decide) ⟨Nat.le_refl _, Nat.le_refl _⟩ rfl (Nat.le_of_ble_eq_true rfl) ?_
  rw [bI_iff (in_c (n := 4) (by decide))]
  refine j_if_eqB 20 12 C dX11_links_9 (by decide) rfl (fun c9 => ?_) (fun c9 => ?_)
  · refine j_bipush 22 C dX11_links_20 rfl (v := (-2)) (by decide) ?_
    exact j_iret C dX11_links_22 ⟨by rw [ifN c9], rfl⟩
  · obtain ⟨s, hs, rfl⟩ := isI_of c9
    refine j_aload_n 13 C dX11_links_12 rfl rfl ?_
    refine j_iload_n 14 C dX11_links_13 rfl rfl ?_
    refine j_mI 17 C dX11_links_14 rfl cw11_330 rfl (c_linksOf s hs) rfl (by decide) rfl (Nat.le_of_ble_eq_true rfl) ?_
    refine j_goto 22 C dX11_links_17 (by decide) ?_
    exact j_iret C dX11_links_22 ⟨by rw [ifI hs (by decide) (f_links h)], rfl⟩
theorem c_waits (hours : Int32) (hWF : WF (M.2.1 1)) : Con l G yX11_waits cX11_waits 2 (some .int) 6 0 0 [.ref o, .int hours] (mw o ad G.2.1 (setHd M h)) (pI (if isI hours 201 then f_hours (M.2.1 1) (M.1 24) (M.1 25) (tn hours) h 2016 else -2) (mw o ad G.2.1 (setHd M (if isI hours 201 then f_hours (M.2.1 1) (M.1 24) (M.1 25) (tn hours) h else h)))) := by
  refine Con.mk (own := RX11) (by decide) rfl (Nat.le_of_ble_eq_true rfl) (fun X C => ?_)
  refine j_iload_n 1 C dX11_waits_0 rfl rfl ?_
  refine j_i2l 2 C dX11_waits_1 rfl ?_
  refine j_lconst 3 C dX11_waits_2 rfl (v := lN 0) (by decide) ?_
  refine j_ldc2 6 C dX11_waits_3 rfl (v := (200)) kc11_323 ?_
  refine j_sI 9 C dX11_waits_6 rfl cw11_88 (c_in _ _ _) rfl (by decide) ⟨Nat.le_refl _, Nat.le_refl _⟩ rfl (Nat.le_of_ble_eq_true rfl) ?_
  rw [bI_iff (in_c (n := 201) (by decide))]
  refine j_if_neB 15 12 C dX11_waits_9 (by decide) rfl (fun c9 => ?_) (fun c9 => ?_)
  · obtain ⟨n, hn, rfl⟩ := isI_of c9
    refine j_aload_n 16 C dX11_waits_15 rfl rfl ?_
    refine j_iload_n 17 C dX11_waits_16 rfl rfl ?_
    refine j_mV 20 C dX11_waits_17 rfl cw11_325 rfl (c_hoursGo n (by omega) hWF) rfl (by decide) rfl (Nat.le_of_ble_eq_true rfl) ?_
    refine j_aload_n 21 C dX11_waits_20 rfl rfl ?_
    refine rgH_head 24 C dX11_waits_21 rfl ?_
    refine j_sipush 27 C dX11_waits_24 rfl (v := nI 2016) (by decide) ?_
    refine raH_head 28 C dX11_waits_27 rfl _ (by omega) rfl ?_
    exact j_iret C dX11_waits_28 ⟨by rw [if_pos c9, tn_nI (by omega)], by rw [if_pos c9, tn_nI (by omega)]⟩
  · refine j_bipush 14 C dX11_waits_12 rfl (v := (-2)) (by decide) ?_
    exact j_iret C dX11_waits_14 ⟨by rw [if_neg c9], by rw [if_neg c9]⟩
theorem c_strength (sort a b : Int32) (hWF : WF (M.2.1 1)) : Con l G yX11_strength cX11_strength 4 (some .int) 3 0 0 [.ref o, .int sort, .int a, .int b] (mw o ad G.2.1 (setHd M h)) (pI (if isI sort 4 ∧ isI a (nth (M.2.1 1)) ∧ isI b (if tn sort = 3 then 12 else nth (M.2.1 1)) then h (f_link (tn sort) (tn a) (tn b)) else -2) (mw o ad G.2.1 (setHd M h))) := by
  refine Con.mk (own := RX11) (by decide) rfl (Nat.le_of_ble_eq_true rfl) (fun X C => ?_)
  refine j_iload_n 1 C dX11_strength_0 rfl rfl ?_
  refine j_i2l 2 C dX11_strength_1 rfl ?_
  refine j_lconst 3 C dX11_strength_2 rfl (v := lN 0) (by decide) ?_
  refine j_ldc2 6 C dX11_strength_3 rfl (v := (3)) kc11_251 ?_
  refine j_sI 9 C dX11_strength_6 rfl cw11_88 (c_in _ _ _) rfl (by decide) ⟨Nat.le_refl _, Nat.le_refl _⟩ rfl (Nat.le_of_ble_eq_true rfl) ?_
  rw [bI_iff (in_c (n := 4) (by decide))]
  refine j_if_eqB 48 12 C dX11_strength_9 (by decide) rfl (fun c9 => ?_) (fun c9 => ?_)
  · refine j_bipush 50 C dX11_strength_48 rfl (v := (-2)) (by decide) ?_
    exact j_iret C dX11_strength_50 ⟨by rw [if_neg (fun z => c9 z.1)], rfl⟩
  · obtain ⟨s, hs, rfl⟩ := isI_of c9
    refine j_aload_n 13 C dX11_strength_12 rfl rfl ?_
    refine j_iload_n 14 C dX11_strength_13 rfl rfl ?_
    refine j_mI 17 C dX11_strength_14 rfl cw11_255 rfl (c_isThingH _ hWF.2.1.1 (Nat.lt_of_le_of_lt hWF.2.1.2 (by decide))) rfl (by decide) rfl (Nat.le_of_ble_eq_true rfl) ?_
    refine j_if_eqB 48 20 C dX11_strength_17 (by decide) rfl (fun c17 => ?_) (fun c17 => ?_)
    · refine j_bipush 50 C dX11_strength_48 rfl (v := (-2)) (by decide) ?_
      exact j_iret C dX11_strength_50 ⟨by rw [if_neg (fun z => c17 z.2.1)], rfl⟩
    · obtain ⟨a, ha, rfl⟩ := isI_of c17
      have ha24 : a < 24 := Nat.lt_of_lt_of_le ha hWF.2.1.2
      refine j_iload_n 21 C dX11_strength_20 rfl rfl ?_
      refine j_iconst 22 C dX11_strength_21 rfl (v := nI 3) (by decide) ?_
      refine j_icmp_neN 40 25 C dX11_strength_22 (by decide) rfl (by omega) (by omega) (fun c22 => ?_) (fun c22 => ?_)
      · refine j_aload_n 41 C dX11_strength_40 rfl rfl ?_
        refine j_iload_n 42 C dX11_strength_41 rfl rfl ?_
        refine j_mI 45 C dX11_strength_42 rfl cw11_255 rfl (c_isThingH _ hWF.2.1.1 (Nat.lt_of_le_of_lt hWF.2.1.2 (by decide))) rfl (by decide) rfl (Nat.le_of_ble_eq_true rfl) ?_
        refine j_if_neB 51 48 C dX11_strength_45 (by decide) rfl (fun c45 => ?_) (fun c45 => ?_)
        · obtain ⟨b, hb, rfl⟩ := isI_of c45
          have hb24 : b < 24 := Nat.lt_of_lt_of_le hb hWF.2.1.2
          refine j_aload_n 52 C dX11_strength_51 rfl rfl ?_
          refine rgH_head 55 C dX11_strength_52 rfl ?_
          refine j_iload_n 56 C dX11_strength_55 rfl rfl ?_
          refine j_iload_n 57 C dX11_strength_56 rfl rfl ?_
          refine j_iload_n 58 C dX11_strength_57 rfl rfl ?_
          refine j_sI 61 C dX11_strength_58 rfl cw11_270 (c_linkAt _ _ _ (by omega)) rfl (by decide) ⟨Nat.le_refl _, Nat.le_refl _⟩ rfl (Nat.le_of_ble_eq_true rfl) ?_
          have hlk : f_link s a b < 2016 := f_linkS (by omega) (by omega) (by omega)
          refine raH_head 62 C dX11_strength_61 rfl _ (by omega) rfl ?_
          exact j_iret C dX11_strength_62 ⟨by rw [if_pos ⟨c9, c17, by rw [tn_nI (by omega), if_neg c22]; exact c45⟩, tn_nI (by omega), tn_nI (by omega), tn_nI (by omega)], rfl⟩
        · refine j_bipush 50 C dX11_strength_48 rfl (v := (-2)) (by decide) ?_
          exact j_iret C dX11_strength_50 ⟨by rw [if_neg (fun z => c45 (by have := z.2.2; rwa [if_neg (by rw [tn_nI (by omega)]; exact c22)] at this))], rfl⟩
      · refine j_iload_n 26 C dX11_strength_25 rfl rfl ?_
        refine j_i2l 27 C dX11_strength_26 rfl ?_
        refine j_lconst 28 C dX11_strength_27 rfl (v := lN 0) (by decide) ?_
        refine j_ldc2 31 C dX11_strength_28 rfl (v := (11)) kc11_328 ?_
        refine j_sI 34 C dX11_strength_31 rfl cw11_88 (c_in _ _ _) rfl (by decide) ⟨Nat.le_refl _, Nat.le_refl _⟩ rfl (Nat.le_of_ble_eq_true rfl) ?_
        rw [bI_iff (in_c (n := 12) (by decide))]
        refine j_if_neB 51 37 C dX11_strength_34 (by decide) rfl (fun c34 => ?_) (fun c34 => ?_)
        · obtain ⟨b, hb, rfl⟩ := isI_of c34
          refine j_aload_n 52 C dX11_strength_51 rfl rfl ?_
          refine rgH_head 55 C dX11_strength_52 rfl ?_
          refine j_iload_n 56 C dX11_strength_55 rfl rfl ?_
          refine j_iload_n 57 C dX11_strength_56 rfl rfl ?_
          refine j_iload_n 58 C dX11_strength_57 rfl rfl ?_
          refine j_sI 61 C dX11_strength_58 rfl cw11_270 (c_linkAt _ _ _ (by omega)) rfl (by decide) ⟨Nat.le_refl _, Nat.le_refl _⟩ rfl (Nat.le_of_ble_eq_true rfl) ?_
          have hlk : f_link s a b < 2016 := by rw [c22]; exact f_link3 (by omega) (by omega)
          refine raH_head 62 C dX11_strength_61 rfl _ (by omega) rfl ?_
          exact j_iret C dX11_strength_62 ⟨by rw [if_pos ⟨c9, c17, by rw [tn_nI (by omega), if_pos c22]; exact c34⟩, tn_nI (by omega), tn_nI (by omega), tn_nI (by omega)], rfl⟩
        · refine j_goto 48 C dX11_strength_37 (by decide) ?_
          refine j_bipush 50 C dX11_strength_48 rfl (v := (-2)) (by decide) ?_
          exact j_iret C dX11_strength_50 ⟨by rw [if_neg (fun z => c34 (by have := z.2.2; rwa [if_pos (by rw [tn_nI (by omega)]; exact c22)] at this))], rfl⟩
set_option maxHeartbeats 4000000 in
theorem c_read (row n0 : Int32) {sn : Nat} (hsn : M.1 3 = nI sn) (hsn60 : sn ≤ 60) (hWF : WF (M.2.1 1)) : Con l G yX11_read cX11_read 5 (some .int) 5 0 0 [.ref o, .int row, .int n0] (mw o ad G.2.1 (setHd M h)) (pI (if isI row (nrw (M.2.1 1)) ∧ isP n0 51 then nI (bkN M + 1) else -2) (mw o ad G.2.1 (setHd (if isI row (nrw (M.2.1 1)) ∧ isP n0 51 then sitM M (f_readsN (M.2.1 1) (M.1 24) (M.1 25) (tn row) (tn n0) h) (tn row) n0 (nI 0) (f_ones (f_slips (M.2.1 1) h (tn row)) 12) else M) (if isI row (nrw (M.2.1 1)) ∧ isP n0 51 then (f_readsN (M.2.1 1) (M.1 24) (M.1 25) (tn row) (tn n0) h) else h)))) := by
  refine Con.mk (own := RX11) (by decide) rfl (Nat.le_of_ble_eq_true rfl) (fun X C => ?_)
  refine j_aload_n 1 C dX11_read_0 rfl rfl ?_
  refine j_iload_n 2 C dX11_read_1 rfl rfl ?_
  refine j_mI 5 C dX11_read_2 rfl cw11_315 rfl (c_isRowH _ hWF.2.2.1.1 (Nat.lt_of_le_of_lt hWF.2.2.1.2 (by decide))) rfl (by decide) rfl (Nat.le_of_ble_eq_true rfl) ?_
  refine j_if_eqB 20 8 C dX11_read_5 (by decide) rfl (fun c5 => ?_) (fun c5 => ?_)
  · refine j_bipush 22 C dX11_read_20 rfl (v := (-2)) (by decide) ?_
    exact j_iret C dX11_read_22 ⟨by rw [if_neg (fun z => c5 z.1)], by rw [if_neg (fun z => c5 z.1), if_neg (fun z => c5 z.1)]⟩
  · obtain ⟨r, hr, rfl⟩ := isI_of c5
    have hr12 : r < 12 := Nat.lt_of_lt_of_le hr hWF.2.2.1.2
    refine j_iload_n 9 C dX11_read_8 rfl rfl ?_
    refine j_i2l 10 C dX11_read_9 rfl ?_
    refine j_lconst 11 C dX11_read_10 rfl (v := lN 1) (by decide) ?_
    refine j_ldc2 14 C dX11_read_11 rfl (v := (50)) kc11_318 ?_
    refine j_sI 17 C dX11_read_14 rfl cw11_88 (c_in _ _ _) rfl (by decide) ⟨Nat.le_refl _, Nat.le_refl _⟩ rfl (Nat.le_of_ble_eq_true rfl) ?_
    rw [bI_iff (in_p (n := 51) (by decide))]
    refine j_if_neB 23 20 C dX11_read_17 (by decide) rfl (fun c17 => ?_) (fun c17 => ?_)
    · obtain ⟨n, hn1, hn, rfl⟩ := isP_of c17 (by decide)
      refine j_aload_n 24 C dX11_read_23 rfl rfl ?_
      refine j_iload_n 25 C dX11_read_24 rfl rfl ?_
      refine j_mI 28 C dX11_read_25 rfl cw11_297 rfl (c_slipsOf r hr hWF) rfl (by decide) rfl (Nat.le_of_ble_eq_true rfl) ?_
      refine j_sI 31 C dX11_read_28 rfl cw11_312 (c_ones _) rfl (by decide) ⟨Nat.le_refl _, Nat.le_refl _⟩ rfl (Nat.le_of_ble_eq_true rfl) ?_
      refine j_istore_n 32 C dX11_read_31 rfl rfl (by decide) ?_
      refine j_iconst 33 C dX11_read_32 rfl (v := nI 0) (by decide) ?_
      refine j_istore 35 C dX11_read_33 rfl rfl (by decide) ?_
      have lp35 : ∀ (m : Nat) (i : Nat), n - i = m → i ≤ n → J X 5 0 0 (mw o ad G.2.1 (setHd M (f_readsN (M.2.1 1) (M.1 24) (M.1 25) r i h))) 35 [(0, .ref o), (1, .int (nI r)), (2, .int (nI n)), (3, .int (f_ones (f_slips (M.2.1 1) h r) 12)), (4, .int (nI i))] [] := by
        intro m
        induction m using Nat.strongRecOn with
        | ind m ilp35 =>
        intro i hm hi
        refine j_iload 37 C dX11_read_35 rfl rfl ?_
        refine j_iload_n 38 C dX11_read_37 rfl rfl ?_
        refine j_icmp_geN 52 41 C dX11_read_38 (by decide) rfl (by omega) (by omega) (fun c38 => ?_) (fun c38 => ?_)
        · refine j_aload_n 53 C dX11_read_52 rfl rfl ?_
          refine j_iload_n 54 C dX11_read_53 rfl rfl ?_
          refine j_iload_n 55 C dX11_read_54 rfl rfl ?_
          refine j_iconst 56 C dX11_read_55 rfl (v := nI 0) (by decide) ?_
          refine j_iload_n 57 C dX11_read_56 rfl rfl ?_
          rw [show i = n by omega]
          refine j_mV 60 C dX11_read_57 rfl cw11_320 rfl (c_sits r _ _ _ hsn hsn60 hr hWF) rfl (by decide) rfl (Nat.le_of_ble_eq_true rfl) ?_
          refine j_aload_n 61 C dX11_read_60 rfl rfl ?_
          refine rgH_sittings 64 C dX11_read_61 rfl ?_
          exact j_iret C dX11_read_64 ⟨by rw [if_pos ⟨c5, c17⟩]; rfl, by rw [if_pos ⟨c5, c17⟩, if_pos ⟨c5, c17⟩, tn_nI (by omega), tn_nI (by omega)]⟩
        · refine j_aload_n 42 C dX11_read_41 rfl rfl ?_
          refine j_iload_n 43 C dX11_read_42 rfl rfl ?_
          refine j_mV 46 C dX11_read_43 rfl cw11_294 rfl (c_reads r hr hWF) rfl (by decide) rfl (Nat.le_of_ble_eq_true rfl) ?_
          refine j_iincN 49 (z := 1) C dX11_read_46 rfl rfl rfl (by decide) ?_
          refine j_goto 35 C dX11_read_49 (by decide) ?_
          rw [show f_reads (M.2.1 1) (M.1 24) (M.1 25) r (f_readsN (M.2.1 1) (M.1 24) (M.1 25) r i h) = (f_readsN (M.2.1 1) (M.1 24) (M.1 25) r (i + 1) h) from rfl]
          exact j_weak _ (by exact ⟨rfl, rfl, rfl, rfl, rfl, trivial⟩) (ilp35 _ (by omega) (i + 1) rfl (by omega))
      exact j_weak _ (by exact ⟨rfl, rfl, rfl, rfl, rfl, trivial⟩) (lp35 _ 0 rfl (Nat.zero_le _))
    · refine j_bipush 22 C dX11_read_20 rfl (v := (-2)) (by decide) ?_
      exact j_iret C dX11_read_22 ⟨by rw [if_neg (fun z => c17 z.2)], by rw [if_neg (fun z => c17 z.2), if_neg (fun z => c17 z.2)]⟩
set_option maxHeartbeats 4000000 in
theorem c_learn (row : Int32) {sn : Nat} (hsn : M.1 3 = nI sn) (hsn60 : sn ≤ 60) (hWF : WF (M.2.1 1)) : Con l G yX11_learn cX11_learn 4 (some .int) 6 0 0 [.ref o, .int row] (mw o ad G.2.1 (setHd M h)) (pI (if isI row (nrw (M.2.1 1)) then (f_lrn (M.2.1 1) (M.1 24) (M.1 25) (tn row) 40 1 0 h).1 else -2) (mw o ad G.2.1 (setHd (if isI row (nrw (M.2.1 1)) then sitM M (f_lrn (M.2.1 1) (M.1 24) (M.1 25) (tn row) 40 1 0 h).2 (tn row) (if (f_lrn (M.2.1 1) (M.1 24) (M.1 25) (tn row) 40 1 0 h).1 = -1 then nI 40 else (f_lrn (M.2.1 1) (M.1 24) (M.1 25) (tn row) 40 1 0 h).1) (if (f_lrn (M.2.1 1) (M.1 24) (M.1 25) (tn row) 40 1 0 h).1 = -1 then nI 2 else nI 1) (f_ones (f_slips (M.2.1 1) h (tn row)) 12) else M) (if isI row (nrw (M.2.1 1)) then (f_lrn (M.2.1 1) (M.1 24) (M.1 25) (tn row) 40 1 0 h).2 else h)))) := by
  refine Con.mk (own := RX11) (by decide) rfl (Nat.le_of_ble_eq_true rfl) (fun X C => ?_)
  refine j_aload_n 1 C dX11_learn_0 rfl rfl ?_
  refine j_iload_n 2 C dX11_learn_1 rfl rfl ?_
  refine j_mI 5 C dX11_learn_2 rfl cw11_315 rfl (c_isRowH _ hWF.2.2.1.1 (Nat.lt_of_le_of_lt hWF.2.2.1.2 (by decide))) rfl (by decide) rfl (Nat.le_of_ble_eq_true rfl) ?_
  refine j_if_neB 11 8 C dX11_learn_5 (by decide) rfl (fun c5 => ?_) (fun c5 => ?_)
  · obtain ⟨r, hr, rfl⟩ := isI_of c5
    have hr12 : r < 12 := Nat.lt_of_lt_of_le hr hWF.2.2.1.2
    refine j_aload_n 12 C dX11_learn_11 rfl rfl ?_
    refine j_iload_n 13 C dX11_learn_12 rfl rfl ?_
    refine j_mI 16 C dX11_learn_13 rfl cw11_297 rfl (c_slipsOf r hr hWF) rfl (by decide) rfl (Nat.le_of_ble_eq_true rfl) ?_
    refine j_sI 19 C dX11_learn_16 rfl cw11_312 (c_ones _) rfl (by decide) ⟨Nat.le_refl _, Nat.le_refl _⟩ rfl (Nat.le_of_ble_eq_true rfl) ?_
    refine j_istore_n 20 C dX11_learn_19 rfl rfl (by decide) ?_
    refine j_aload_n 21 C dX11_learn_20 rfl rfl ?_
    refine j_iload_n 22 C dX11_learn_21 rfl rfl ?_
    refine j_mI 25 C dX11_learn_22 rfl cw11_306 rfl (c_learns r hr hWF) rfl (by decide) rfl (Nat.le_of_ble_eq_true rfl) ?_
    refine j_istore_n 26 C dX11_learn_25 rfl rfl (by decide) ?_
    refine j_aload_n 27 C dX11_learn_26 rfl rfl ?_
    refine j_iload_n 28 C dX11_learn_27 rfl rfl ?_
    refine j_iload_n 29 C dX11_learn_28 rfl rfl ?_
    refine j_iconst 30 C dX11_learn_29 rfl (v := (-1)) (by decide) ?_
    refine j_icmp_ne 38 33 C dX11_learn_30 (by decide) rfl (fun c30 => ?_) (fun c30 => ?_)
    · refine j_iload_n 39 C dX11_learn_38 rfl rfl ?_
      refine j_iload_n 40 C dX11_learn_39 rfl rfl ?_
      refine j_iconst 41 C dX11_learn_40 rfl (v := (-1)) (by decide) ?_
      refine j_icmp_ne 48 44 C dX11_learn_41 (by decide) rfl (fun c41 => ?_) (fun c41 => absurd c41 c30)
      refine j_iconst 49 C dX11_learn_48 rfl (v := nI 1) (by decide) ?_
      refine j_iload_n 50 C dX11_learn_49 rfl rfl ?_
      refine j_mV 53 C dX11_learn_50 rfl cw11_320 rfl (c_sits r _ _ _ hsn hsn60 hr hWF) rfl (by decide) rfl (Nat.le_of_ble_eq_true rfl) ?_
      refine j_iload_n 54 C dX11_learn_53 rfl rfl ?_
      exact j_iret C dX11_learn_54 ⟨by rw [if_pos c5, tn_nI (by omega)], by rw [if_pos c5, if_pos c5, tn_nI (by omega), if_neg c30, if_neg c30]⟩
    · refine j_bipush 35 C dX11_learn_33 rfl (v := nI 40) (by decide) ?_
      refine j_goto 39 C dX11_learn_35 (by decide) ?_
      refine j_iload_n 40 C dX11_learn_39 rfl rfl ?_
      refine j_iconst 41 C dX11_learn_40 rfl (v := (-1)) (by decide) ?_
      refine j_icmp_ne 48 44 C dX11_learn_41 (by decide) rfl (fun c41 => absurd c30 c41) (fun c41 => ?_)
      refine j_iconst 45 C dX11_learn_44 rfl (v := nI 2) (by decide) ?_
      refine j_goto 49 C dX11_learn_45 (by decide) ?_
      refine j_iload_n 50 C dX11_learn_49 rfl rfl ?_
      refine j_mV 53 C dX11_learn_50 rfl cw11_320 rfl (c_sits r _ _ _ hsn hsn60 hr hWF) rfl (by decide) rfl (Nat.le_of_ble_eq_true rfl) ?_
      refine j_iload_n 54 C dX11_learn_53 rfl rfl ?_
      exact j_iret C dX11_learn_54 ⟨by rw [if_pos c5, tn_nI (by omega)], by rw [if_pos c5, if_pos c5, tn_nI (by omega), if_pos c30, if_pos c30]⟩
  · refine j_bipush 10 C dX11_learn_8 rfl (v := (-2)) (by decide) ?_
    exact j_iret C dX11_learn_10 ⟨by rw [if_neg c5], by rw [if_neg c5, if_neg c5]⟩
end S7
