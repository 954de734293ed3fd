def pOk (M : MS) (slot i to k n : Int32) : Prop := ¬ i < 0 ∧ ¬ k < 0 ∧ ¬ n < 0 ∧ ¬ (M.2.1 34 (tn slot)).toInt64 < i.toInt64 + n.toInt64 ∧ k.toInt64 + n.toInt64 ≤ (M.2.1 34 (tn to)).toInt64
noncomputable def f_ps (M : MS) (slot i to k n : Int32) : Int32 := if isI slot 4 ∧ isI to 4 then (if M.2.1 34 (tn slot) = -1 ∨ M.2.1 34 (tn to) = -1 then -6 else if M.2.1 35 (tn slot) = M.2.1 35 (tn to) then (@ite Int32 (pOk M slot i to k n) (Classical.propDecidable _) (nI 0) (-7)) else -8) else -2
def mvL (nm mv : Nat → Int64) (sp n : Nat) : Nat → Int64 := va_cpy nm mv sp 0 n
noncomputable def f_psM (M : MS) (slot i to k n : Int32) : MS := @ite MS ((isI slot 4 ∧ isI to 4) ∧ ¬ (M.2.1 34 (tn slot) = -1 ∨ M.2.1 34 (tn to) = -1) ∧ M.2.1 35 (tn slot) = M.2.1 35 (tn to) ∧ pOk M slot i to k n) (Classical.propDecidable _)
  (lR (lR M 37 (va_cpy (M.2.2 36) (M.2.2 37) (60 * tn slot + tn i) 0 (tn n))) 36 (va_cpy (va_cpy (M.2.2 36) (M.2.2 37) (60 * tn slot + tn i) 0 (tn n)) (M.2.2 36) 0 (60 * tn to + tn k) (tn n))) M
theorem add_le {a e m : Nat} (ha : a < 2 ^ 31) (he : e < 2 ^ 31) (hm : m ≤ 60) (h : ¬ (nI m).toInt64 < (nI a).toInt64 + (nI e).toInt64) : a + e ≤ m := by
  rw [nI_l (by omega), nI_l ha, nI_l he, lN_add] at h
  have := mt (pk_lLT (a := m) (b := a + e) (by omega) (by omega)).mpr h
  omega
theorem add_le' {a e m : Nat} (ha : a < 2 ^ 31) (he : e < 2 ^ 31) (hm : m ≤ 60) (h : (nI a).toInt64 + (nI e).toInt64 ≤ (nI m).toInt64) : a + e ≤ m := by
  rw [nI_l ha, nI_l he, nI_l (n := m) (by omega), lN_add] at h
  exact (pk_lLE (a := a + e) (b := m) (by omega) (by omega)).mp h
/-- the HEAD that comes to the first i SITTINGS of a BOOK, if one does -/
def f_fs (wd : Nat → Int32) (cl cv : Int32) (bk : Nat → Int32) (i : Nat) (h : Nat → Int32) : Nat → Int32 := f_hours wd cl cv (tn (bk (6 * i + 2) - h 2016)) h
def f_ft (wd : Nat → Int32) (cl cv : Int32) (bk : Nat → Int32) : Nat → Option (Nat → Int32)
  | 0 => some h00
  | i + 1 => match f_ft wd cl cv bk i with
    | none => none
    | some h => if bk (6 * i + 5) = 0 then some (f_readsN wd cl cv (tn (bk (6 * i))) (tn (bk (6 * i + 1))) (f_fs wd cl cv bk i h)) else
      if f_need wd cl cv (tn (bk (6 * i))) (f_fs wd cl cv bk i h) = (if bk (6 * i + 5) = nI 2 then -1 else bk (6 * i + 1)) then some (f_lh wd cl cv (tn (bk (6 * i))) (f_fs wd cl cv bk i h)) else none
theorem f_ft_none {wd : Nat → Int32} {cl cv : Int32} {bk : Nat → Int32} {i n : Nat} (hi : i ≤ n) (h : f_ft wd cl cv bk i = none) : f_ft wd cl cv bk n = none := by
  induction n with
  | zero => rw [show i = 0 by omega] at h; exact h
  | succ n ih =>
    by_cases e : i = n + 1
    · rw [← e]; exact h
    · unfold f_ft; rw [ih (by omega)]
/-- a BOOK's SITTINGS are of ROWS that are there -/
def WB (bk : Nat → Int32) (n nr : Nat) : Prop := ∀ i, i < n → (bk (6 * i) = nI (tn (bk (6 * i))) ∧ tn (bk (6 * i)) < nr) ∧ bk (6 * i + 1) = nI (tn (bk (6 * i + 1))) ∧ tn (bk (6 * i + 1)) ≤ 50
theorem tn_neg {x : Int32} (h : x < 0) : tn x = 0 := by
  unfold tn Int32.toNatClampNeg
  have := Int32.lt_iff_toInt_lt.mp h
  have h0 : (0 : Int32).toInt = 0 := rfl
  omega
theorem tn_pos {x : Int32} (h : ¬ x < 0) : x = nI (tn x) ∧ tn x < 2 ^ 31 := by
  obtain ⟨j, hj, e⟩ := nI_of h
  rw [e, tn_nI hj]
  exact ⟨rfl, hj⟩
section S16
variable {l : Launch} {G : GG} {o : Nat} {ad : Nat → Nat} {M : MS} {h g : Nat → Int32} {c : Nat}
set_option maxHeartbeats 4000000 in
theorem c_paste (slot i to k n : Int32) (hS : WS (M.2.1 34) (M.2.1 35)) : Con l G yX11_paste cX11_paste 7 (some .int) 3 0 0 [.ref o, .int slot, .int i, .int to, .int k, .int n] (mw o ad G.2.1 M) (pI (f_ps M slot i to k n) (mw o ad G.2.1 (f_psM M slot i to k n))) := by
  refine Con.mk (own := RX11) (by decide) rfl (Nat.le_of_ble_eq_true rfl) (fun X C => ?_)
  refine j_iload_n 1 C dX11_paste_0 rfl rfl ?_
  refine j_sI 4 C dX11_paste_1 rfl cw11_368 (c_isSlot _) rfl (by decide) ⟨Nat.le_refl _, Nat.le_refl _⟩ rfl (Nat.le_of_ble_eq_true rfl) ?_
  refine j_if_eqB 14 7 C dX11_paste_4 (by decide) rfl (fun c4 => ?_) (fun c4 => ?_)
  · refine j_bipush 16 C dX11_paste_14 rfl (v := (-2)) (by decide) ?_
    exact j_iret C dX11_paste_16 ⟨by rw [f_ps, if_neg (fun z => c4 z.1)], by rw [f_psM, if_neg (fun z => c4 z.1.1)]⟩
  · obtain ⟨s, hs, rfl⟩ := isI_of c4
    refine j_iload_n 8 C dX11_paste_7 rfl rfl ?_
    refine j_sI 11 C dX11_paste_8 rfl cw11_368 (c_isSlot _) rfl (by decide) ⟨Nat.le_refl _, Nat.le_refl _⟩ rfl (Nat.le_of_ble_eq_true rfl) ?_
    refine j_if_neB 17 14 C dX11_paste_11 (by decide) rfl (fun c11 => ?_) (fun c11 => ?_)
    · obtain ⟨t, ht, rfl⟩ := isI_of c11
      refine j_aload_n 18 C dX11_paste_17 rfl rfl ?_
      refine rg_many 21 C dX11_paste_18 rfl ?_
      refine j_iload_n 22 C dX11_paste_21 rfl rfl ?_
      refine ra_many 23 C dX11_paste_22 rfl _ (by omega) rfl ?_
      refine j_iconst 24 C dX11_paste_23 rfl (v := (-1)) (by decide) ?_
      refine j_icmp_eq 37 27 C dX11_paste_24 (by decide) rfl (fun c24 => ?_) (fun c24 => ?_)
      · refine j_bipush 39 C dX11_paste_37 rfl (v := (-6)) (by decide) ?_
        exact j_iret C dX11_paste_39 ⟨by rw [f_ps, if_pos ⟨c4, c11⟩, tn_nI (by omega), tn_nI (by omega), if_pos (Or.inl c24)], by rw [f_psM, if_neg (fun z => z.2.1 (by rw [tn_nI (by omega), tn_nI (by omega)]; exact Or.inl c24))]⟩
      · refine j_aload_n 28 C dX11_paste_27 rfl rfl ?_
        refine rg_many 31 C dX11_paste_28 rfl ?_
        refine j_iload_n 32 C dX11_paste_31 rfl rfl ?_
        refine ra_many 33 C dX11_paste_32 rfl _ (by omega) rfl ?_
        refine j_iconst 34 C dX11_paste_33 rfl (v := (-1)) (by decide) ?_
        refine j_icmp_ne 40 37 C dX11_paste_34 (by decide) rfl (fun c34 => ?_) (fun c34 => ?_)
        · have hne6 : ¬ (M.2.1 34 s = -1 ∨ M.2.1 34 t = -1) := fun z => z.elim c24 c34
          refine j_aload_n 41 C dX11_paste_40 rfl rfl ?_
          refine rg_width 44 C dX11_paste_41 rfl ?_
          refine j_iload_n 45 C dX11_paste_44 rfl rfl ?_
          refine ra_width 46 C dX11_paste_45 rfl _ (by omega) rfl ?_
          refine j_aload_n 47 C dX11_paste_46 rfl rfl ?_
          refine rg_width 50 C dX11_paste_47 rfl ?_
          refine j_iload_n 51 C dX11_paste_50 rfl rfl ?_
          refine ra_width 52 C dX11_paste_51 rfl _ (by omega) rfl ?_
          refine j_icmp_eq 58 55 C dX11_paste_52 (by decide) rfl (fun c52 => ?_) (fun c52 => ?_)
          · refine j_iload_n 59 C dX11_paste_58 rfl rfl ?_
            refine j_if_lt 107 62 C dX11_paste_59 (by decide) rfl (fun c59 => ?_) (fun c59 => ?_)
            · refine j_bipush 109 C dX11_paste_107 rfl (v := (-7)) (by decide) ?_
              exact j_iret C dX11_paste_109 ⟨by rw [f_ps, if_pos ⟨c4, c11⟩, tn_nI (by omega), tn_nI (by omega), if_neg hne6, if_pos c52, if_neg (fun z => z.1 c59)], by rw [f_psM, if_neg (fun z => (fun z => z.1 c59) z.2.2.2)]⟩
            · refine j_iload 64 C dX11_paste_62 rfl rfl ?_
              refine j_if_lt 107 67 C dX11_paste_64 (by decide) rfl (fun c64 => ?_) (fun c64 => ?_)
              · refine j_bipush 109 C dX11_paste_107 rfl (v := (-7)) (by decide) ?_
                exact j_iret C dX11_paste_109 ⟨by rw [f_ps, if_pos ⟨c4, c11⟩, tn_nI (by omega), tn_nI (by omega), if_neg hne6, if_pos c52, if_neg (fun z => z.2.1 c64)], by rw [f_psM, if_neg (fun z => (fun z => z.2.1 c64) z.2.2.2)]⟩
              · refine j_iload 69 C dX11_paste_67 rfl rfl ?_
                refine j_if_lt 107 72 C dX11_paste_69 (by decide) rfl (fun c69 => ?_) (fun c69 => ?_)
                · refine j_bipush 109 C dX11_paste_107 rfl (v := (-7)) (by decide) ?_
                  exact j_iret C dX11_paste_109 ⟨by rw [f_ps, if_pos ⟨c4, c11⟩, tn_nI (by omega), tn_nI (by omega), if_neg hne6, if_pos c52, if_neg (fun z => z.2.2.1 c69)], by rw [f_psM, if_neg (fun z => (fun z => z.2.2.1 c69) z.2.2.2)]⟩
                · refine j_iload_n 73 C dX11_paste_72 rfl rfl ?_
                  refine j_i2l 74 C dX11_paste_73 rfl ?_
                  refine j_iload 76 C dX11_paste_74 rfl rfl ?_
                  refine j_i2l 77 C dX11_paste_76 rfl ?_
                  refine j_ladd 78 C dX11_paste_77 rfl ?_
                  refine j_aload_n 79 C dX11_paste_78 rfl rfl ?_
                  refine rg_many 82 C dX11_paste_79 rfl ?_
                  refine j_iload_n 83 C dX11_paste_82 rfl rfl ?_
                  refine ra_many 84 C dX11_paste_83 rfl _ (by omega) rfl ?_
                  refine j_i2l 85 C dX11_paste_84 rfl ?_
                  refine j_lcmp 86 C dX11_paste_85 rfl ?_
                  refine j_if_gtL 107 89 C dX11_paste_86 (by decide) rfl (fun c86 => ?_) (fun c86 => ?_)
                  · refine j_bipush 109 C dX11_paste_107 rfl (v := (-7)) (by decide) ?_
                    exact j_iret C dX11_paste_109 ⟨by rw [f_ps, if_pos ⟨c4, c11⟩, tn_nI (by omega), tn_nI (by omega), if_neg hne6, if_pos c52, if_neg (fun z => z.2.2.2.1 (by rw [tn_nI (by omega)]; exact c86))], by rw [f_psM, if_neg (fun z => (fun z => z.2.2.2.1 (by rw [tn_nI (by omega)]; exact c86)) z.2.2.2)]⟩
                  · refine j_iload 91 C dX11_paste_89 rfl rfl ?_
                    refine j_i2l 92 C dX11_paste_91 rfl ?_
                    refine j_iload 94 C dX11_paste_92 rfl rfl ?_
                    refine j_i2l 95 C dX11_paste_94 rfl ?_
                    refine j_ladd 96 C dX11_paste_95 rfl ?_
                    refine j_aload_n 97 C dX11_paste_96 rfl rfl ?_
                    refine rg_many 100 C dX11_paste_97 rfl ?_
                    refine j_iload_n 101 C dX11_paste_100 rfl rfl ?_
                    refine ra_many 102 C dX11_paste_101 rfl _ (by omega) rfl ?_
                    refine j_i2l 103 C dX11_paste_102 rfl ?_
                    refine j_lcmp 104 C dX11_paste_103 rfl ?_
                    refine j_if_leL 110 107 C dX11_paste_104 (by decide) rfl (fun c104 => ?_) (fun c104 => ?_)
                    · have hok : pOk M (nI s) i (nI t) k n := ⟨c59, c64, c69, by rw [tn_nI (by omega)]; exact c86, by rw [tn_nI (by omega)]; exact c104⟩
                      obtain ⟨a, ha, rfl⟩ := nI_of c59
                      obtain ⟨b, hb, rfl⟩ := nI_of c64
                      obtain ⟨e, he, rfl⟩ := nI_of c69
                      obtain ⟨m1, hm1, em1⟩ := (hS s hs).1.resolve_left c24
                      obtain ⟨m2, hm2, em2⟩ := (hS t ht).1.resolve_left c34
                      rw [em1] at c86
                      rw [em2] at c104
                      have hae := add_le ha he hm1 c86
                      have hbe := add_le' hb he hm2 c104
                      refine j_iconst 111 C dX11_paste_110 rfl (v := nI 0) (by decide) ?_
                      refine j_istore 113 C dX11_paste_111 rfl rfl (by decide) ?_
                      have lp113 : ∀ (m : Nat) (x : Nat), e - x = m → x ≤ e → J X 7 0 0 (mw o ad G.2.1 (lR M 37 (va_cpy (M.2.2 36) (M.2.2 37) (60 * s + a) 0 x))) 113 [(0, .ref o), (1, .int (nI s)), (2, .int (nI a)), (3, .int (nI t)), (4, .int (nI b)), (5, .int (nI e)), (6, .int (nI x))] [] := by
                        intro m
                        induction m using Nat.strongRecOn with
                        | ind m ilp113 =>
                        intro x hm hx
                        refine j_iload 115 C dX11_paste_113 rfl rfl ?_
                        refine j_iload 117 C dX11_paste_115 rfl rfl ?_
                        refine j_icmp_geN 147 120 C dX11_paste_117 (by decide) rfl (by omega) (by omega) (fun c117 => ?_) (fun c117 => ?_)
                        · refine j_iconst 148 C dX11_paste_147 rfl (v := nI 0) (by decide) ?_
                          refine j_istore 150 C dX11_paste_148 rfl rfl (by decide) ?_
                          rw [show x = e by omega]
                          have lp150 : ∀ (m : Nat) (x : Nat), e - x = m → x ≤ e → J X 7 0 0 (mw o ad G.2.1 (lR (lR M 37 (va_cpy (M.2.2 36) (M.2.2 37) (60 * s + a) 0 e)) 36 (va_cpy (va_cpy (M.2.2 36) (M.2.2 37) (60 * s + a) 0 e) (M.2.2 36) 0 (60 * t + b) x))) 150 [(0, .ref o), (1, .int (nI s)), (2, .int (nI a)), (3, .int (nI t)), (4, .int (nI b)), (5, .int (nI e)), (6, .int (nI x))] [] := by
                            intro m
                            induction m using Nat.strongRecOn with
                            | ind m ilp150 =>
                            intro x hm hx
                            refine j_iload 152 C dX11_paste_150 rfl rfl ?_
                            refine j_iload 154 C dX11_paste_152 rfl rfl ?_
                            refine j_icmp_geN 185 157 C dX11_paste_154 (by decide) rfl (by omega) (by omega) (fun c154 => ?_) (fun c154 => ?_)
                            · refine j_iconst 186 C dX11_paste_185 rfl (v := nI 0) (by decide) ?_
                              exact j_iret C dX11_paste_186 ⟨by rw [f_ps, if_pos ⟨c4, c11⟩, tn_nI (by omega), tn_nI (by omega), if_neg hne6, if_pos c52, if_pos hok], by rw [show x = e by omega, f_psM, if_pos ⟨⟨c4, c11⟩, by rw [tn_nI (by omega), tn_nI (by omega)]; exact hne6, by rw [tn_nI (by omega), tn_nI (by omega)]; exact c52, hok⟩, tn_nI (by omega), tn_nI (by omega), tn_nI (by omega), tn_nI (by omega), tn_nI (by omega)]⟩
                            · refine j_aload_n 158 C dX11_paste_157 rfl rfl ?_
                              refine rg_numbers 161 C dX11_paste_158 rfl ?_
                              refine j_bipush 163 C dX11_paste_161 rfl (v := nI 60) (by decide) ?_
                              refine j_iload_n 164 C dX11_paste_163 rfl rfl ?_
                              refine j_imulN 165 C dX11_paste_164 rfl ?_
                              refine j_iload 167 C dX11_paste_165 rfl rfl ?_
                              refine j_iaddN 168 C dX11_paste_167 rfl ?_
                              refine j_iload 170 C dX11_paste_168 rfl rfl ?_
                              refine j_iaddN 171 C dX11_paste_170 rfl ?_
                              refine j_aload_n 172 C dX11_paste_171 rfl rfl ?_
                              refine rg_moving 175 C dX11_paste_172 rfl ?_
                              refine j_iload 177 C dX11_paste_175 rfl rfl ?_
                              refine ra_moving 178 C dX11_paste_177 rfl _ (by omega) rfl ?_
                              rw [show (lR (lR M 37 (va_cpy (M.2.2 36) (M.2.2 37) (60 * s + a) 0 e)) 36 (va_cpy (va_cpy (M.2.2 36) (M.2.2 37) (60 * s + a) 0 e) (M.2.2 36) 0 (60 * t + b) x)).2.2 37 x = (va_cpy (M.2.2 36) (M.2.2 37) (60 * s + a) 0 e) (0 + x) from by rw [Nat.zero_add]; rfl]
                              refine rs_numbers 179 C dX11_paste_178 rfl _ (by omega) rfl ?_
                              rw [lS_lR, cpyL_step]
                              refine j_iincN 182 (z := 1) C dX11_paste_179 rfl rfl rfl (by decide) ?_
                              refine j_goto 150 C dX11_paste_182 (by decide) ?_
                              exact j_weak _ (by exact ⟨rfl, rfl, rfl, rfl, rfl, rfl, rfl, trivial⟩) (ilp150 _ (by omega) (x + 1) rfl (by omega))
                          refine j_ws (mw o ad G.2.1 (lR (lR M 37 (va_cpy (M.2.2 36) (M.2.2 37) (60 * s + a) 0 e)) 36 (va_cpy (va_cpy (M.2.2 36) (M.2.2 37) (60 * s + a) 0 e) (M.2.2 36) 0 (60 * t + b) 0))) (by rw [cpyL_0]; exact (congrArg _ (lR_self (lR M 37 (va_cpy (M.2.2 36) (M.2.2 37) (60 * s + a) 0 e)) 36)).symm) ?_
                          exact j_weak _ (by exact ⟨rfl, rfl, rfl, rfl, rfl, rfl, rfl, trivial⟩) (lp150 _ 0 rfl (Nat.zero_le _))
                        · refine j_aload_n 121 C dX11_paste_120 rfl rfl ?_
                          refine rg_moving 124 C dX11_paste_121 rfl ?_
                          refine j_iload 126 C dX11_paste_124 rfl rfl ?_
                          refine j_aload_n 127 C dX11_paste_126 rfl rfl ?_
                          refine rg_numbers 130 C dX11_paste_127 rfl ?_
                          refine j_bipush 132 C dX11_paste_130 rfl (v := nI 60) (by decide) ?_
                          refine j_iload_n 133 C dX11_paste_132 rfl rfl ?_
                          refine j_imulN 134 C dX11_paste_133 rfl ?_
                          refine j_iload_n 135 C dX11_paste_134 rfl rfl ?_
                          refine j_iaddN 136 C dX11_paste_135 rfl ?_
                          refine j_iload 138 C dX11_paste_136 rfl rfl ?_
                          refine j_iaddN 139 C dX11_paste_138 rfl ?_
                          refine ra_numbers 140 C dX11_paste_139 rfl _ (by omega) rfl ?_
                          rw [show (lR M 37 (va_cpy (M.2.2 36) (M.2.2 37) (60 * s + a) 0 x)).2.2 36 (60 * s + a + x) = (M.2.2 36) (60 * s + a + x) from rfl]
                          refine rs_moving 141 C dX11_paste_140 rfl _ (by omega) rfl ?_
                          rw [lS_lR]
                          rw [show vp_updL (va_cpy (M.2.2 36) (M.2.2 37) (60 * s + a) 0 x) x ((M.2.2 36) (60 * s + a + x)) = (va_cpy (M.2.2 36) (M.2.2 37) (60 * s + a) 0 (x + 1)) from by have z := cpyL_step (M.2.2 36) (M.2.2 37) (60 * s + a) 0 x; rw [Nat.zero_add] at z; exact z]
                          refine j_iincN 144 (z := 1) C dX11_paste_141 rfl rfl rfl (by decide) ?_
                          refine j_goto 113 C dX11_paste_144 (by decide) ?_
                          exact j_weak _ (by exact ⟨rfl, rfl, rfl, rfl, rfl, rfl, rfl, trivial⟩) (ilp113 _ (by omega) (x + 1) rfl (by omega))
                      refine j_ws (mw o ad G.2.1 (lR M 37 (va_cpy (M.2.2 36) (M.2.2 37) (60 * s + a) 0 0))) (by rw [cpyL_0, lR_self]) ?_
                      exact j_weak _ (by exact ⟨rfl, rfl, rfl, rfl, rfl, rfl, rfl, trivial⟩) (lp113 _ 0 rfl (Nat.zero_le _))
                    · refine j_bipush 109 C dX11_paste_107 rfl (v := (-7)) (by decide) ?_
                      exact j_iret C dX11_paste_109 ⟨by rw [f_ps, if_pos ⟨c4, c11⟩, tn_nI (by omega), tn_nI (by omega), if_neg hne6, if_pos c52, if_neg (fun z => c104 (by have := z.2.2.2.2; rwa [tn_nI (by omega)] at this))], by rw [f_psM, if_neg (fun z => (fun z => c104 (by have := z.2.2.2.2; rwa [tn_nI (by omega)] at this)) z.2.2.2)]⟩
          · refine j_bipush 57 C dX11_paste_55 rfl (v := (-8)) (by decide) ?_
            exact j_iret C dX11_paste_57 ⟨by rw [f_ps, if_pos ⟨c4, c11⟩, tn_nI (by omega), tn_nI (by omega), if_neg hne6, if_neg c52], by rw [f_psM, if_neg (fun z => c52 (by have := z.2.2.1; rwa [tn_nI (by omega), tn_nI (by omega)] at this))]⟩
        · refine j_bipush 39 C dX11_paste_37 rfl (v := (-6)) (by decide) ?_
          exact j_iret C dX11_paste_39 ⟨by rw [f_ps, if_pos ⟨c4, c11⟩, tn_nI (by omega), tn_nI (by omega), if_pos (Or.inr c34)], by rw [f_psM, if_neg (fun z => z.2.1 (by rw [tn_nI (by omega), tn_nI (by omega)]; exact Or.inr c34))]⟩
    · refine j_bipush 16 C dX11_paste_14 rfl (v := (-2)) (by decide) ?_
      exact j_iret C dX11_paste_16 ⟨by rw [f_ps, if_neg (fun z => c11 z.2)], by rw [f_psM, if_neg (fun z => c11 z.1.2)]⟩
theorem c_hoursGoR (x : Int32) (hWF : WF (M.2.1 1)) : Con l G yX11_hoursGo cX11_hoursGo 3 none 5 0 0 [.ref o, .int x] (mw o ad G.2.1 (setHd M h)) (pV (mw o ad G.2.1 (setHd M (f_hours (M.2.1 1) (M.1 24) (M.1 25) (tn x) h)))) := by
  by_cases hx : x < 0
  · rw [tn_neg hx]
    refine Con.mk (own := RX11) (by decide) rfl (Nat.le_of_ble_eq_true rfl) (fun X C => ?_)
    refine j_iconst 1 C dX11_hoursGo_0 rfl (v := nI 0) (by decide) ?_
    refine j_istore_n 2 C dX11_hoursGo_1 rfl rfl (by decide) ?_
    refine j_iload_n 3 C dX11_hoursGo_2 rfl rfl ?_
    refine j_iload_n 4 C dX11_hoursGo_3 rfl rfl ?_
    refine j_icmp_ge 17 7 C dX11_hoursGo_4 (by decide) rfl (fun _ => ?_) (fun c => absurd (show x ≤ nI 0 from Int32.le_of_lt hx) c)
    exact j_vret C dX11_hoursGo_17 ⟨rfl, rfl⟩
  · obtain ⟨e, hb⟩ := tn_pos hx
    rw [e, tn_nI hb]
    exact c_hoursGo (tn x) hb hWF
theorem c_hoursGoRK (x : Int32) (hWF : WF (M.2.1 1)) : Con l G yX11_hoursGo cX11_hoursGo 3 none 5 0 0 [.ref o, .int x] (mw o ad G.2.1 (setHd (aR (sS M 27 (nI c)) 26 g) h)) (pV (mw o ad G.2.1 (setHd (aR (sS M 27 (nI c)) 26 g) (f_hours (M.2.1 1) (M.1 24) (M.1 25) (tn x) h)))) := c_hoursGoR (M := aR (sS M 27 (nI c)) 26 g) x hWF
set_option maxHeartbeats 4000000 in
theorem c_fitsBook {n : Nat} (hc : c < 8) (hn : M.1 3 = nI n) (hn60 : n ≤ 60) (hB : WB (M.2.1 5) n (nrw (M.2.1 1))) (hWF : WF (M.2.1 1)) : Con l G yX11_fitsBook cX11_fitsBook 5 (some .boolean) 6 0 0 [.ref o] (mw o ad G.2.1 (setHd (aR (sS M 27 (nI c)) 26 g) h)) (pE (bI ((f_ft (M.2.1 1) (M.1 24) (M.1 25) (M.2.1 5) n).isSome = true)) (fun g2 => ∀ i, i < 2018 * c → g2 i = g i) (fun g2 => (mw o ad G.2.1 (setHd (aR (sS M 27 (nI c)) 26 g2) h)))) := by
  refine Con.mk (own := RX11) (by decide) rfl (Nat.le_of_ble_eq_true rfl) (fun X C => ?_)
  have lp12 : ∀ (m : Nat) (i : Nat) (b : Bool) (hd : Nat → Int32), n - i = m → i ≤ n → ((b = true → (f_ft (M.2.1 1) (M.1 24) (M.1 25) (M.2.1 5) i) = some hd) ∧ (b = false → (f_ft (M.2.1 1) (M.1 24) (M.1 25) (M.2.1 5) i) = none)) → J X 5 0 0 (mw o ad G.2.1 (setHd (aR (sS M 27 (nI (c + 1))) 26 (va_cpy h g 0 (2018 * c) 2018)) hd)) 12 [(0, .ref o), (1, .int (bI (b = true))), (2, .int (nI i))] [] := by
    intro m
    induction m using Nat.strongRecOn with
    | ind m ilp12 =>
    intro i b hd hm hi hb
    refine j_iload_n 13 C dX11_fitsBook_12 rfl rfl ?_
    refine j_aload_n 14 C dX11_fitsBook_13 rfl rfl ?_
    refine rgH_sittings 17 C dX11_fitsBook_14 rfl ?_
    rw [show (aR (sS M 27 (nI (c + 1))) 26 (va_cpy h g 0 (2018 * c) 2018)).1 3 = nI n from hn]
    refine j_icmp_geN 145 20 C dX11_fitsBook_17 (by decide) rfl (by omega) (by omega) (fun c17 => ?_) (fun c17 => ?_)
    · refine j_aload_n 146 C dX11_fitsBook_145 rfl rfl ?_
      refine j_mV 149 C dX11_fitsBook_146 rfl cw11_309 rfl (c_takeBack (by omega)) rfl (by decide) rfl (Nat.le_of_ble_eq_true rfl) ?_
      refine j_extH h (fun j hj => cpy_back hj) ?_
      refine j_iload_n 150 C dX11_fitsBook_149 rfl rfl ?_
      exact j_zret C dX11_fitsBook_150 (bI_nar _) ⟨congrArg (fun z => some (Value.int z)) (bI_iff (by rw [show n = i by omega]; cases b with | true => rw [hb.1 rfl]; exact ⟨fun _ => rfl, fun _ => rfl⟩ | false => rw [hb.2 rfl]; exact ⟨(fun z => by cases z), (fun z => by cases z)⟩)), _, fun i hi => cpy_low hi, rfl⟩
    · refine j_iload_n 21 C dX11_fitsBook_20 rfl rfl ?_
      refine j_if_eqB 145 24 C dX11_fitsBook_21 (by decide) rfl (fun c21 => ?_) (fun c21 => ?_)
      · refine j_aload_n 146 C dX11_fitsBook_145 rfl rfl ?_
        refine j_mV 149 C dX11_fitsBook_146 rfl cw11_309 rfl (c_takeBack (by omega)) rfl (by decide) rfl (Nat.le_of_ble_eq_true rfl) ?_
        refine j_extH h (fun j hj => cpy_back hj) ?_
        refine j_iload_n 150 C dX11_fitsBook_149 rfl rfl ?_
        exact j_zret C dX11_fitsBook_150 (bI_nar _) ⟨congrArg (fun z => some (Value.int z)) (bI_iff (by rw [f_ft_none (by omega) (hb.2 (Bool.eq_false_iff.mpr c21))]; exact ⟨fun z => absurd z c21, (fun z => by cases z)⟩)), _, fun i hi => cpy_low hi, rfl⟩
      · have hft := hb.1 c21
        obtain ⟨⟨hbr, hrl⟩, he1, he2⟩ := hB i c17
        have hr12 := hWF.2.2.1.2
        refine j_bipush 26 C dX11_fitsBook_24 rfl (v := nI 6) (by decide) ?_
        refine j_iload_n 27 C dX11_fitsBook_26 rfl rfl ?_
        refine j_imulN 28 C dX11_fitsBook_27 rfl ?_
        refine j_istore_n 29 C dX11_fitsBook_28 rfl rfl (by decide) ?_
        refine j_aload_n 30 C dX11_fitsBook_29 rfl rfl ?_
        refine j_aload_n 31 C dX11_fitsBook_30 rfl rfl ?_
        refine rgH_book 34 C dX11_fitsBook_31 rfl ?_
        refine j_iload_n 35 C dX11_fitsBook_34 rfl rfl ?_
        refine j_iconst 36 C dX11_fitsBook_35 rfl (v := nI 2) (by decide) ?_
        refine j_iaddN 37 C dX11_fitsBook_36 rfl ?_
        refine raH_book 38 C dX11_fitsBook_37 rfl _ (by omega) rfl ?_
        rw [show (aR (sS M 27 (nI (c + 1))) 26 (va_cpy h g 0 (2018 * c) 2018)).2.1 5 (6 * i + 2) = (M.2.1 5) (6 * i + 2) from rfl]
        refine j_aload_n 39 C dX11_fitsBook_38 rfl rfl ?_
        refine rgH_head 42 C dX11_fitsBook_39 rfl ?_
        refine j_sipush 45 C dX11_fitsBook_42 rfl (v := nI 2016) (by decide) ?_
        refine raH_head 46 C dX11_fitsBook_45 rfl _ (by omega) rfl ?_
        refine j_isub 47 C dX11_fitsBook_46 rfl ?_
        refine j_mV 50 C dX11_fitsBook_47 rfl cw11_325 rfl (c_hoursGoRK _ hWF) rfl (by decide) rfl (Nat.le_of_ble_eq_true rfl) ?_
        rw [show f_hours (M.2.1 1) (M.1 24) (M.1 25) (tn ((M.2.1 5) (6 * i + 2) - hd 2016)) hd = (f_fs (M.2.1 1) (M.1 24) (M.1 25) (M.2.1 5) i hd) from rfl]
        refine j_aload_n 51 C dX11_fitsBook_50 rfl rfl ?_
        refine rgH_book 54 C dX11_fitsBook_51 rfl ?_
        refine j_iload_n 55 C dX11_fitsBook_54 rfl rfl ?_
        refine j_iconst 56 C dX11_fitsBook_55 rfl (v := nI 5) (by decide) ?_
        refine j_iaddN 57 C dX11_fitsBook_56 rfl ?_
        refine raH_book 58 C dX11_fitsBook_57 rfl _ (by omega) rfl ?_
        rw [show (aR (sS M 27 (nI (c + 1))) 26 (va_cpy h g 0 (2018 * c) 2018)).2.1 5 (6 * i + 5) = (M.2.1 5) (6 * i + 5) from rfl]
        refine j_if_ne 96 61 C dX11_fitsBook_58 (by decide) rfl (fun c58 => ?_) (fun c58 => ?_)
        · refine j_aload_n 97 C dX11_fitsBook_96 rfl rfl ?_
          refine j_aload_n 98 C dX11_fitsBook_97 rfl rfl ?_
          refine rgH_book 101 C dX11_fitsBook_98 rfl ?_
          refine j_iload_n 102 C dX11_fitsBook_101 rfl rfl ?_
          refine raH_book 103 C dX11_fitsBook_102 rfl _ (by omega) rfl ?_
          rw [show (aR (sS M 27 (nI (c + 1))) 26 (va_cpy h g 0 (2018 * c) 2018)).2.1 5 (6 * i) = nI (tn ((M.2.1 5) (6 * i))) from hbr]
          refine j_mI 106 C dX11_fitsBook_103 rfl cw11_306 rfl (c_learnsKN (tn ((M.2.1 5) (6 * i))) hrl hWF) rfl (by decide) rfl (Nat.le_of_ble_eq_true rfl) ?_
          refine j_aload_n 107 C dX11_fitsBook_106 rfl rfl ?_
          refine rgH_book 110 C dX11_fitsBook_107 rfl ?_
          refine j_iload_n 111 C dX11_fitsBook_110 rfl rfl ?_
          refine j_iconst 112 C dX11_fitsBook_111 rfl (v := nI 5) (by decide) ?_
          refine j_iaddN 113 C dX11_fitsBook_112 rfl ?_
          refine raH_book 114 C dX11_fitsBook_113 rfl _ (by omega) rfl ?_
          rw [show (aR (sS M 27 (nI (c + 1))) 26 (va_cpy h g 0 (2018 * c) 2018)).2.1 5 (6 * i + 5) = (M.2.1 5) (6 * i + 5) from rfl]
          refine j_iconst 115 C dX11_fitsBook_114 rfl (v := nI 2) (by decide) ?_
          refine j_icmp_ne 122 118 C dX11_fitsBook_115 (by decide) rfl (fun c115 => ?_) (fun c115 => ?_)
          · have hex : (if (M.2.1 5) (6 * i + 5) = nI 2 then -1 else (M.2.1 5) (6 * i + 1)) = (M.2.1 5) (6 * i + 1) := if_neg c115
            refine j_aload_n 123 C dX11_fitsBook_122 rfl rfl ?_
            refine rgH_book 126 C dX11_fitsBook_123 rfl ?_
            refine j_iload_n 127 C dX11_fitsBook_126 rfl rfl ?_
            refine j_iconst 128 C dX11_fitsBook_127 rfl (v := nI 1) (by decide) ?_
            refine j_iaddN 129 C dX11_fitsBook_128 rfl ?_
            refine raH_book 130 C dX11_fitsBook_129 rfl _ (by omega) rfl ?_
            rw [show (aR (sS M 27 (nI (c + 1))) 26 (va_cpy h g 0 (2018 * c) 2018)).2.1 5 (6 * i + 1) = (M.2.1 5) (6 * i + 1) from rfl]
            refine j_bool_icmp_ne 138 C dX11_fitsBook_130 rfl dX11_fitsBook_133 dX11_fitsBook_134 dX11_fitsBook_137 rfl ?_
            rw [← hex]
            rw [bI_iff (show (f_need (M.2.1 1) (M.1 24) (M.1 25) (tn ((M.2.1 5) (6 * i))) (f_fs (M.2.1 1) (M.1 24) (M.1 25) (M.2.1 5) i hd) = (if (M.2.1 5) (6 * i + 5) = nI 2 then -1 else (M.2.1 5) (6 * i + 1))) ↔ (decide (f_need (M.2.1 1) (M.1 24) (M.1 25) (tn ((M.2.1 5) (6 * i))) (f_fs (M.2.1 1) (M.1 24) (M.1 25) (M.2.1 5) i hd) = (if (M.2.1 5) (6 * i + 5) = nI 2 then -1 else (M.2.1 5) (6 * i + 1))) = true) from decide_eq_true_iff.symm)]
            refine j_istore_n 139 C dX11_fitsBook_138 rfl rfl (by decide) ?_
            refine j_iincN 142 (z := 1) C dX11_fitsBook_139 rfl rfl rfl (by decide) ?_
            refine j_goto 12 C dX11_fitsBook_142 (by decide) ?_
            exact j_weak _ (by exact ⟨rfl, rfl, rfl, trivial⟩) (ilp12 _ (by omega) (i + 1) _ (f_lh (M.2.1 1) (M.1 24) (M.1 25) (tn ((M.2.1 5) (6 * i))) (f_fs (M.2.1 1) (M.1 24) (M.1 25) (M.2.1 5) i hd)) rfl (by omega) ⟨fun z => by unfold f_ft; rw [hft]; dsimp only; rw [if_neg c58, if_pos (of_decide_eq_true z)], fun z => by unfold f_ft; rw [hft]; dsimp only; rw [if_neg c58, if_neg (of_decide_eq_false z)]⟩)
          · have hex : (if (M.2.1 5) (6 * i + 5) = nI 2 then -1 else (M.2.1 5) (6 * i + 1)) = -1 := if_pos c115
            refine j_iconst 119 C dX11_fitsBook_118 rfl (v := (-1)) (by decide) ?_
            refine j_goto 130 C dX11_fitsBook_119 (by decide) ?_
            refine j_bool_icmp_ne 138 C dX11_fitsBook_130 rfl dX11_fitsBook_133 dX11_fitsBook_134 dX11_fitsBook_137 rfl ?_
            rw [← hex]
            rw [bI_iff (show (f_need (M.2.1 1) (M.1 24) (M.1 25) (tn ((M.2.1 5) (6 * i))) (f_fs (M.2.1 1) (M.1 24) (M.1 25) (M.2.1 5) i hd) = (if (M.2.1 5) (6 * i + 5) = nI 2 then -1 else (M.2.1 5) (6 * i + 1))) ↔ (decide (f_need (M.2.1 1) (M.1 24) (M.1 25) (tn ((M.2.1 5) (6 * i))) (f_fs (M.2.1 1) (M.1 24) (M.1 25) (M.2.1 5) i hd) = (if (M.2.1 5) (6 * i + 5) = nI 2 then -1 else (M.2.1 5) (6 * i + 1))) = true) from decide_eq_true_iff.symm)]
            refine j_istore_n 139 C dX11_fitsBook_138 rfl rfl (by decide) ?_
            refine j_iincN 142 (z := 1) C dX11_fitsBook_139 rfl rfl rfl (by decide) ?_
            refine j_goto 12 C dX11_fitsBook_142 (by decide) ?_
            exact j_weak _ (by exact ⟨rfl, rfl, rfl, trivial⟩) (ilp12 _ (by omega) (i + 1) _ (f_lh (M.2.1 1) (M.1 24) (M.1 25) (tn ((M.2.1 5) (6 * i))) (f_fs (M.2.1 1) (M.1 24) (M.1 25) (M.2.1 5) i hd)) rfl (by omega) ⟨fun z => by unfold f_ft; rw [hft]; dsimp only; rw [if_neg c58, if_pos (of_decide_eq_true z)], fun z => by unfold f_ft; rw [hft]; dsimp only; rw [if_neg c58, if_neg (of_decide_eq_false z)]⟩)
        · refine j_iconst 62 C dX11_fitsBook_61 rfl (v := nI 0) (by decide) ?_
          refine j_istore 64 C dX11_fitsBook_62 rfl rfl (by decide) ?_
          have lp64 : ∀ (m : Nat) (k : Nat), tn ((M.2.1 5) (6 * i + 1)) - k = m → k ≤ tn ((M.2.1 5) (6 * i + 1)) → J X 5 0 0 (mw o ad G.2.1 (setHd (aR (sS M 27 (nI (c + 1))) 26 (va_cpy h g 0 (2018 * c) 2018)) (f_readsN (M.2.1 1) (M.1 24) (M.1 25) (tn ((M.2.1 5) (6 * i))) k (f_fs (M.2.1 1) (M.1 24) (M.1 25) (M.2.1 5) i hd)))) 64 [(0, .ref o), (1, .int (bI (b = true))), (2, .int (nI i)), (3, .int (nI (6 * i))), (4, .int (nI k))] [] := by
            intro m
            induction m using Nat.strongRecOn with
            | ind m ilp64 =>
            intro k hm hk
            refine j_iload 66 C dX11_fitsBook_64 rfl rfl ?_
            refine j_aload_n 67 C dX11_fitsBook_66 rfl rfl ?_
            refine rgH_book 70 C dX11_fitsBook_67 rfl ?_
            refine j_iload_n 71 C dX11_fitsBook_70 rfl rfl ?_
            refine j_iconst 72 C dX11_fitsBook_71 rfl (v := nI 1) (by decide) ?_
            refine j_iaddN 73 C dX11_fitsBook_72 rfl ?_
            refine raH_book 74 C dX11_fitsBook_73 rfl _ (by omega) rfl ?_
            rw [show (aR (sS M 27 (nI (c + 1))) 26 (va_cpy h g 0 (2018 * c) 2018)).2.1 5 (6 * i + 1) = nI (tn ((M.2.1 5) (6 * i + 1))) from he1]
            refine j_icmp_geN 93 77 C dX11_fitsBook_74 (by decide) rfl (by omega) (by omega) (fun c74 => ?_) (fun c74 => ?_)
            · refine j_goto 139 C dX11_fitsBook_93 (by decide) ?_
              refine j_iincN 142 (z := 1) C dX11_fitsBook_139 rfl rfl rfl (by decide) ?_
              refine j_goto 12 C dX11_fitsBook_142 (by decide) ?_
              exact j_weak _ (by exact ⟨rfl, rfl, rfl, trivial⟩) (ilp12 _ (by omega) (i + 1) b (f_readsN (M.2.1 1) (M.1 24) (M.1 25) (tn ((M.2.1 5) (6 * i))) k (f_fs (M.2.1 1) (M.1 24) (M.1 25) (M.2.1 5) i hd)) rfl (by omega) ⟨fun _ => by unfold f_ft; rw [hft]; dsimp only; rw [if_pos c58, show tn ((M.2.1 5) (6 * i + 1)) = k by omega], fun z => absurd c21 (by rw [z]; decide)⟩)
            · refine j_aload_n 78 C dX11_fitsBook_77 rfl rfl ?_
              refine j_aload_n 79 C dX11_fitsBook_78 rfl rfl ?_
              refine rgH_book 82 C dX11_fitsBook_79 rfl ?_
              refine j_iload_n 83 C dX11_fitsBook_82 rfl rfl ?_
              refine raH_book 84 C dX11_fitsBook_83 rfl _ (by omega) rfl ?_
              rw [show (aR (sS M 27 (nI (c + 1))) 26 (va_cpy h g 0 (2018 * c) 2018)).2.1 5 (6 * i) = nI (tn ((M.2.1 5) (6 * i))) from hbr]
              refine j_mV 87 C dX11_fitsBook_84 rfl cw11_294 rfl (c_readsK (tn ((M.2.1 5) (6 * i))) hrl hWF) rfl (by decide) rfl (Nat.le_of_ble_eq_true rfl) ?_
              refine j_iincN 90 (z := 1) C dX11_fitsBook_87 rfl rfl rfl (by decide) ?_
              refine j_goto 64 C dX11_fitsBook_90 (by decide) ?_
              rw [show f_reads (M.2.1 1) (M.1 24) (M.1 25) (tn ((M.2.1 5) (6 * i))) (f_readsN (M.2.1 1) (M.1 24) (M.1 25) (tn ((M.2.1 5) (6 * i))) k (f_fs (M.2.1 1) (M.1 24) (M.1 25) (M.2.1 5) i hd)) = (f_readsN (M.2.1 1) (M.1 24) (M.1 25) (tn ((M.2.1 5) (6 * i))) (k + 1) (f_fs (M.2.1 1) (M.1 24) (M.1 25) (M.2.1 5) i hd)) from rfl]
              exact j_weak _ (by exact ⟨rfl, rfl, rfl, rfl, rfl, trivial⟩) (ilp64 _ (by omega) (k + 1) rfl (by omega))
          exact j_weak _ (by exact ⟨rfl, rfl, rfl, rfl, rfl, trivial⟩) (lp64 _ 0 rfl (Nat.zero_le _))
  refine j_aload_n 1 C dX11_fitsBook_0 rfl rfl ?_
  refine j_mV 4 C dX11_fitsBook_1 rfl cw11_303 rfl (c_copy (by omega)) rfl (by decide) rfl (Nat.le_of_ble_eq_true rfl) ?_
  refine j_aload_n 5 C dX11_fitsBook_4 rfl rfl ?_
  refine j_mV 8 C dX11_fitsBook_5 rfl cw11_237 rfl c_clearHeadK rfl (by decide) rfl (Nat.le_of_ble_eq_true rfl) ?_
  refine j_iconst 9 C dX11_fitsBook_8 rfl (v := nI 1) (by decide) ?_
  refine j_istore_n 10 C dX11_fitsBook_9 rfl rfl (by decide) ?_
  refine j_iconst 11 C dX11_fitsBook_10 rfl (v := nI 0) (by decide) ?_
  refine j_istore_n 12 C dX11_fitsBook_11 rfl rfl (by decide) ?_
  exact j_weak _ (by exact ⟨rfl, (show some (Value.int (nI 1)) = some (Value.int (bI (true = true))) from rfl), rfl, trivial⟩) (lp12 _ 0 true h00 rfl (Nat.zero_le _) ⟨fun _ => rfl, fun z => by cases z⟩)
end S16
