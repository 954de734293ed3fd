theorem aS_at (M : MS) (f i : Nat) (v : Int32) : (aS M f i v).2.1 f = upd (M.2.1 f) i v := by show va_up M.2.1 f _ f = _; unfold va_up; rw [if_pos rfl]
/-- a TOKEN that is none is empty -/
def TK (M : MS) (n a f : Nat) : Prop := TOK M n a f ∧ (M.1 17 = nI 0 ∨ f < a)
theorem TK_er {M : MS} {n a f : Nat} {k : Int32} (h : TK M n a f) : TK (erM M k) n a f := ⟨TOK_er h.1, by unfold erM; split; exact h.2; exact h.2⟩
theorem TK_ad {M : MS} {n a f : Nat} (h : TK M n a f) : ∃ a2, TK (adM M) n a2 (nxF M) ∧ a ≤ nxF M := by
  obtain ⟨a2, h1, h2, h3⟩ := TOK_ad h.1
  exact ⟨a2, ⟨h1, h3.elim (fun z => Or.inl z.1) Or.inr⟩, h2⟩
theorem TK_nm1 {M : MS} {n a f : Nat} (h : TK M n a f) : TK (nm1 M) n a f := by unfold nm1; split; exact TK_er h; exact h
theorem TK_nm2 {M : MS} {n a f lo hi : Nat} (h : TK M n a f) : TK (nm2 M lo hi) n a f := by unfold nm2; split; exact TK_er h; exact h
theorem er_19 {M : MS} {k : Int32} (hk : ¬ k = 0) : ¬ (erM M k).1 19 = 0 := fun h => er_ne hk rfl h
theorem nm1_ok {M : MS} (h : (nm1 M).1 19 = 0) : nm1 M = M ∧ M.1 17 = nI 2 := by
  by_cases e : M.1 19 = 0 ∧ ¬ M.1 17 = nI 2
  · rw [nm1, if_pos e] at h; exact absurd h (er_19 (by decide))
  · rw [nm1, if_neg e] at h ⊢
    exact ⟨rfl, Decidable.byContradiction fun z => e ⟨h, z⟩⟩
theorem nm2_ok {M : MS} {lo hi : Nat} (h : (nm2 M lo hi).1 19 = 0) : nm2 M lo hi = M ∧ M.1 19 = 0 := by
  by_cases e : M.1 19 = 0 ∧ ¬ ((nI lo).toInt64 ≤ (M.1 18).toInt64 ∧ (M.1 18).toInt64 ≤ (nI hi).toInt64)
  · rw [nm2, if_pos e] at h; exact absurd h (er_19 (by decide))
  · rw [nm2, if_neg e] at h ⊢; exact ⟨rfl, h⟩
/-- number(): what it leaves -/
theorem TK_num {M : MS} {n a f lo hi : Nat} (h : TK M n a f) : ∃ a2 f2, TK (nmM M lo hi) n a2 f2 ∧ f ≤ f2 ∧ (nmM M lo hi).2 = M.2 ∧ ((nmM M lo hi).1 19 = 0 → f < a ∧ a ≤ f2) := by
  unfold nmM
  by_cases e : (nm2 (nm1 M) lo hi).1 19 = 0
  · rw [if_pos e]
    obtain ⟨e1, e2⟩ := nm2_ok e
    obtain ⟨e3, e4⟩ := nm1_ok e2
    rw [e1, e3]
    obtain ⟨a2, h1, h2⟩ := TK_ad h
    have hfa : f < a := h.2.resolve_left (by rw [e4]; decide)
    exact ⟨a2, _, h1, by omega, adM_2 M, fun _ => ⟨hfa, h2⟩⟩
  · rw [if_neg e]
    refine ⟨a, f, TK_nm2 (TK_nm1 h), Nat.le_refl _, ?_, fun z => absurd z e⟩
    unfold nm2; split
    · rw [erM_2]; exact nm1_2 M
    · exact nm1_2 M
theorem isW_fa {M : MS} {n a f i : Nat} (h : TOK M n a f) (hw : isW M i) : a - f = sL i := (isW_iff h i).mp hw |>.1.2.2
noncomputable def pkd (M : MS) : Nat := (@ite _ (isW M 14) (isWD M 14) (1 : Nat) (@ite _ (isW M 15) (isWD M 15) (2 : Nat) (@ite _ (isW M 8) (isWD M 8) (3 : Nat) (@ite _ (isW M 16) (isWD M 16) (4 : Nat) (@ite _ (isW M 17) (isWD M 17) (5 : Nat) (0 : Nat))))))
noncomputable def pr1 (M : MS) : MS := if M.1 19 = 0 ∧ ¬ pkd M = 0 then adM M else M
noncomputable def pr2 (M : MS) : MS := if pkd M = 0 then nmM (pr1 M) 0 1000 else pr1 M
noncomputable def prV (M : MS) : Int32 := if pkd M = 0 then nmV (pr1 M) 0 1000 else nI 0
def prS (M : MS) (join v : Int32) (kd p : Nat) : MS := aS (aS (aS (aS M 21 (220 + 3 * p) join) 21 (220 + 3 * p + 1) (nI kd)) 21 (220 + 3 * p + 2) v) 21 3 (nI (p + 1))
/-- readPart() -/
noncomputable def prM (M : MS) (join : Int32) (p : Nat) : MS := if (pr2 M).1 19 = 0 then prS (pr2 M) join (prV M) (pkd M) p else pr2 M
theorem sL_pos : ∀ i, i < 22 → 1 < sL i := by decide +kernel
theorem pkd_le (M : MS) : pkd M ≤ 5 := by
  unfold pkd
  split; · omega
  split; · omega
  split; · omega
  split; · omega
  split <;> omega
theorem pkd_w {M : MS} (h : ¬ pkd M = 0) : ∃ i, i < 22 ∧ isW M i := by
  by_cases c1 : isW M 14; · exact ⟨14, by decide, c1⟩
  by_cases c2 : isW M 15; · exact ⟨15, by decide, c2⟩
  by_cases c3 : isW M 8; · exact ⟨8, by decide, c3⟩
  by_cases c4 : isW M 16; · exact ⟨16, by decide, c4⟩
  by_cases c5 : isW M 17; · exact ⟨17, by decide, c5⟩
  exact absurd (by unfold pkd; rw [@if_neg _ (isWD M 14) c1, @if_neg _ (isWD M 15) c2, @if_neg _ (isWD M 8) c3, @if_neg _ (isWD M 16) c4, @if_neg _ (isWD M 17) c5]) h
theorem TK_pr1 {M : MS} {n a f : Nat} (h : TK M n a f) : ∃ a2 f2, TK (pr1 M) n a2 f2 ∧ f ≤ f2 ∧ (pr1 M).2 = M.2 ∧ (pkd M = 0 → pr1 M = M ∧ a2 = a ∧ f2 = f) ∧ (¬ pkd M = 0 → (pr1 M).1 19 = 0 → f < f2 ∧ f < a) := by
  unfold pr1
  by_cases e : M.1 19 = 0 ∧ ¬ pkd M = 0
  · rw [if_pos e]
    obtain ⟨a2, h1, h2⟩ := TK_ad h
    obtain ⟨i, hi, hw⟩ := pkd_w e.2
    have h3 := isW_fa h.1 hw
    have h4 := sL_pos i hi
    exact ⟨a2, _, h1, by omega, adM_2 M, fun z => absurd z e.2, fun _ _ => ⟨by omega, by omega⟩⟩
  · rw [if_neg e]
    exact ⟨a, f, h, Nat.le_refl _, rfl, fun _ => ⟨rfl, rfl, rfl⟩, fun z y => absurd ⟨y, z⟩ e⟩
theorem TK_pr2 {M : MS} {n a f : Nat} (h : TK M n a f) : ∃ a2 f2, TK (pr2 M) n a2 f2 ∧ f ≤ f2 ∧ (pr2 M).2 = M.2 ∧ ((pr2 M).1 19 = 0 → f < f2 ∧ f < n) := by
  obtain ⟨a1, f1, h1, h2, h3, h4, h5⟩ := TK_pr1 h
  have hn : a ≤ n := h.1.2.2.2.2.1
  unfold pr2
  by_cases e : pkd M = 0
  · rw [if_pos e]
    obtain ⟨e1, e2, e3⟩ := h4 e
    rw [e1]
    obtain ⟨a2, f2, g1, g2, g3, g4⟩ := TK_num (lo := 0) (hi := 1000) h
    exact ⟨a2, f2, g1, g2, g3, fun z => by have := g4 z; omega⟩
  · rw [if_neg e]
    exact ⟨a1, f1, h1, h2, h3, fun z => by have := h5 e z; omega⟩
theorem TK_pr {M : MS} {n a f p : Nat} {join : Int32} (h : TK M n a f) (hp : M.2.1 21 3 = nI p) : ∃ a2 f2 p2, TK (prM M join p) n a2 f2 ∧ f ≤ f2 ∧ (prM M join p).2.1 21 3 = nI p2 ∧ (p2 = p ∨ p2 = p + 1 ∧ f < f2) ∧ (∀ j, ¬ j = 3 → j < 220 → (prM M join p).2.1 21 j = M.2.1 21 j) := by
  obtain ⟨a2, f2, h1, h2, h3, h4⟩ := TK_pr2 h
  unfold prM
  by_cases e : (pr2 M).1 19 = 0
  · rw [if_pos e]
    refine ⟨a2, f2, p + 1, h1, h2, ?_, Or.inr ⟨rfl, (h4 e).1⟩, fun j hj hj2 => ?_⟩
    · rw [prS, aS_at]; exact pk_us
    · show upd (upd (upd (upd ((pr2 M).2.1 21) _ _) _ _) _ _) _ _ j = _
      rw [pk_un (by omega), pk_un (by omega), pk_un (by omega), pk_un (by omega), h3]
  · rw [if_neg e]
    exact ⟨a2, f2, p, h1, h2, by rw [h3]; exact hp, Or.inl rfl, fun j _ _ => by rw [h3]⟩
section S24
variable {l : Launch} {G : GG} {o : Nat} {ad : Nat → Nat} {M : MS} {n a f : Nat}
set_option maxHeartbeats 2000000 in
theorem c_readPart (join : Int32) {p : Nat} (hT : TK M n a f) (hpn : M.2.1 21 3 = nI p) (hp : 3 * p ≤ f) : Con l G yX11_readPart cX11_readPart 5 none 6 0 0 [.ref o, .int join] (mw o ad G.2.1 M) (pV (mw o ad G.2.1 (prM M join p))) := by
  refine Con.mk (own := RX11) (by decide) rfl (Nat.le_of_ble_eq_true rfl) (fun X C => ?_)
  have hk5 := pkd_le M
  obtain ⟨a1, f1, hT1, -, h31, h41, -⟩ := TK_pr1 hT
  obtain ⟨a2, f2, h1, h2, h3, h4⟩ := TK_pr2 hT
  have g98 : ∀ (u : Unit), J X 5 0 0 (mw o ad G.2.1 (pr2 M)) 98 [(0, .ref o), (1, .int join), (2, .int (nI (pkd M)))] [.int (prV M)] := by
    intro u 
    refine j_istore_n 99 C dX11_readPart_98 rfl rfl (by decide) ?_
    refine j_aload_n 100 C dX11_readPart_99 rfl rfl ?_
    refine j_mI 103 C dX11_readPart_100 rfl cw11_142 rfl c_good rfl (by decide) rfl (Nat.le_of_ble_eq_true rfl) ?_
    refine j_if_neB 107 106 C dX11_readPart_103 (by decide) rfl (fun c103 => ?_) (fun c103 => ?_)
    · have hfn := (h4 c103)
      have hpp : p < 300 := by have := hT.1.2.2.2.2.2; omega
      refine j_sipush 110 C dX11_readPart_107 rfl (v := nI 220) (by decide) ?_
      refine j_iconst 111 C dX11_readPart_110 rfl (v := nI 3) (by decide) ?_
      refine j_aload_n 112 C dX11_readPart_111 rfl rfl ?_
      refine rg_fresh 115 C dX11_readPart_112 rfl ?_
      refine j_iconst 116 C dX11_readPart_115 rfl (v := nI 3) (by decide) ?_
      refine ra_fresh 117 C dX11_readPart_116 rfl _ (by omega) rfl ?_
      rw [show (pr2 M).2.1 21 3 = nI p from by rw [h3]; exact hpn]
      refine j_imulN 118 C dX11_readPart_117 rfl ?_
      refine j_iaddN 119 C dX11_readPart_118 rfl ?_
      refine j_istore 121 C dX11_readPart_119 rfl rfl (by decide) ?_
      refine j_aload_n 122 C dX11_readPart_121 rfl rfl ?_
      refine rg_fresh 125 C dX11_readPart_122 rfl ?_
      refine j_iload 127 C dX11_readPart_125 rfl rfl ?_
      refine j_iload_n 128 C dX11_readPart_127 rfl rfl ?_
      refine rs_fresh 129 C dX11_readPart_128 rfl _ (by omega) rfl ?_
      refine j_aload_n 130 C dX11_readPart_129 rfl rfl ?_
      refine rg_fresh 133 C dX11_readPart_130 rfl ?_
      refine j_iload 135 C dX11_readPart_133 rfl rfl ?_
      refine j_iconst 136 C dX11_readPart_135 rfl (v := nI 1) (by decide) ?_
      refine j_iaddN 137 C dX11_readPart_136 rfl ?_
      refine j_iload_n 138 C dX11_readPart_137 rfl rfl ?_
      refine rs_fresh 139 C dX11_readPart_138 rfl _ (by omega) rfl ?_
      refine j_aload_n 140 C dX11_readPart_139 rfl rfl ?_
      refine rg_fresh 143 C dX11_readPart_140 rfl ?_
      refine j_iload 145 C dX11_readPart_143 rfl rfl ?_
      refine j_iconst 146 C dX11_readPart_145 rfl (v := nI 2) (by decide) ?_
      refine j_iaddN 147 C dX11_readPart_146 rfl ?_
      refine j_iload_n 148 C dX11_readPart_147 rfl rfl ?_
      refine rs_fresh 149 C dX11_readPart_148 rfl _ (by omega) rfl ?_
      refine j_aload_n 150 C dX11_readPart_149 rfl rfl ?_
      refine rg_fresh 153 C dX11_readPart_150 rfl ?_
      refine j_iconst 154 C dX11_readPart_153 rfl (v := nI 3) (by decide) ?_
      refine j_dup2 155 C dX11_readPart_154 rfl rfl rfl ?_
      refine ra_fresh 156 C dX11_readPart_155 rfl _ (by omega) rfl ?_
      rw [show (aS (aS (aS (pr2 M) 21 (220 + 3 * p) join) 21 (220 + 3 * p + 1) (nI (pkd M))) 21 (220 + 3 * p + 2) (prV M)).2.1 21 3 = nI p from by show upd (upd (upd ((pr2 M).2.1 21) _ _) _ _) _ _ 3 = _; rw [pk_un (by omega), pk_un (by omega), pk_un (by omega), h3]; exact hpn]
      refine j_iconst 157 C dX11_readPart_156 rfl (v := nI 1) (by decide) ?_
      refine j_iaddN 158 C dX11_readPart_157 rfl ?_
      refine rs_fresh 159 C dX11_readPart_158 rfl _ (by omega) rfl ?_
      exact j_vret C dX11_readPart_159 ⟨rfl, by rw [prM, if_pos c103]; rfl⟩
    · exact j_vret C dX11_readPart_106 ⟨rfl, by rw [prM, if_neg c103]⟩
  have g82 : ∀ (u : Unit), J X 5 0 0 (mw o ad G.2.1 (pr1 M)) 82 [(0, .ref o), (1, .int join), (2, .int (nI (pkd M)))] [] := by
    intro u 
    refine j_iload_n 83 C dX11_readPart_82 rfl rfl ?_
    refine j_if_neN 97 86 C dX11_readPart_83 (by decide) rfl (by omega) (fun c83 => ?_) (fun c83 => ?_)
    · refine j_iconst 98 C dX11_readPart_97 rfl (v := nI 0) (by decide) ?_
      rw [show pr1 M = pr2 M from by rw [pr2, if_neg (by omega)], show nI 0 = prV M from by rw [prV, if_neg (by omega)]]
      exact j_weak _ (by exact ⟨rfl, rfl, rfl, trivial⟩) (g98 ())
    · refine j_aload_n 87 C dX11_readPart_86 rfl rfl ?_
      refine j_iconst 88 C dX11_readPart_87 rfl (v := nI 0) (by decide) ?_
      refine j_sipush 91 C dX11_readPart_88 rfl (v := nI 1000) (by decide) ?_
      refine j_mI 94 C dX11_readPart_91 rfl cw11_187 rfl (c_number hT1.1 0 1000 (by decide) (by decide)) rfl (by decide) rfl (Nat.le_of_ble_eq_true rfl) ?_
      refine j_goto 98 C dX11_readPart_94 (by decide) ?_
      rw [show nmM (pr1 M) 0 1000 = pr2 M from by rw [pr2, if_pos c83], show nmV (pr1 M) 0 1000 = prV M from by rw [prV, if_pos c83]]
      exact j_weak _ (by exact ⟨rfl, rfl, rfl, trivial⟩) (g98 ())
  have g66 : ∀ (u : Unit), J X 5 0 0 (mw o ad G.2.1 M) 66 [(0, .ref o), (1, .int join)] [.int (nI (pkd M))] := by
    intro u 
    refine j_istore_n 67 C dX11_readPart_66 rfl rfl (by decide) ?_
    refine j_aload_n 68 C dX11_readPart_67 rfl rfl ?_
    refine j_mI 71 C dX11_readPart_68 rfl cw11_142 rfl c_good rfl (by decide) rfl (Nat.le_of_ble_eq_true rfl) ?_
    refine j_if_eqB 82 74 C dX11_readPart_71 (by decide) rfl (fun c71 => ?_) (fun c71 => ?_)
    · refine j_ws (mw o ad G.2.1 (pr1 M)) (by rw [pr1, if_neg (fun z => c71 z.1)]) ?_
      exact j_weak _ (by exact ⟨rfl, rfl, rfl, trivial⟩) (g82 ())
    · refine j_iload_n 75 C dX11_readPart_74 rfl rfl ?_
      refine j_if_eqN 82 78 C dX11_readPart_75 (by decide) rfl (by omega) (fun c75 => ?_) (fun c75 => ?_)
      · refine j_ws (mw o ad G.2.1 (pr1 M)) (by rw [pr1, if_neg (fun z => z.2 c75)]) ?_
        exact j_weak _ (by exact ⟨rfl, rfl, rfl, trivial⟩) (g82 ())
      · refine j_aload_n 79 C dX11_readPart_78 rfl rfl ?_
        refine j_mV 82 C dX11_readPart_79 rfl cw11_160 rfl (c_adv hT.1) rfl (by decide) rfl (Nat.le_of_ble_eq_true rfl) ?_
        refine j_ws (mw o ad G.2.1 (pr1 M)) (by rw [pr1, if_pos ⟨c71, by omega⟩]) ?_
        exact j_weak _ (by exact ⟨rfl, rfl, rfl, trivial⟩) (g82 ())
  refine j_aload_n 1 C dX11_readPart_0 rfl rfl ?_
  refine j_ldcS 3 14 C dX11_readPart_1 rfl rfl ?_
  refine j_mI 6 C dX11_readPart_3 rfl cw11_156 rfl (c_isB hT.1 14 (by decide)) rfl (by decide) rfl (Nat.le_of_ble_eq_true rfl) ?_
  refine j_if_eqW 13 9 C dX11_readPart_6 (by decide) rfl (fun c6 => ?_) (fun c6 => ?_)
  · refine j_aload_n 14 C dX11_readPart_13 rfl rfl ?_
    refine j_ldcS 16 15 C dX11_readPart_14 rfl rfl ?_
    refine j_mI 19 C dX11_readPart_16 rfl cw11_156 rfl (c_isB hT.1 15 (by decide)) rfl (by decide) rfl (Nat.le_of_ble_eq_true rfl) ?_
    refine j_if_eqW 26 22 C dX11_readPart_19 (by decide) rfl (fun c19 => ?_) (fun c19 => ?_)
    · refine j_aload_n 27 C dX11_readPart_26 rfl rfl ?_
      refine j_ldcS 29 8 C dX11_readPart_27 rfl rfl ?_
      refine j_mI 32 C dX11_readPart_29 rfl cw11_156 rfl (c_isB hT.1 8 (by decide)) rfl (by decide) rfl (Nat.le_of_ble_eq_true rfl) ?_
      refine j_if_eqW 39 35 C dX11_readPart_32 (by decide) rfl (fun c32 => ?_) (fun c32 => ?_)
      · refine j_aload_n 40 C dX11_readPart_39 rfl rfl ?_
        refine j_ldcS 42 16 C dX11_readPart_40 rfl rfl ?_
        refine j_mI 45 C dX11_readPart_42 rfl cw11_156 rfl (c_isB hT.1 16 (by decide)) rfl (by decide) rfl (Nat.le_of_ble_eq_true rfl) ?_
        refine j_if_eqW 52 48 C dX11_readPart_45 (by decide) rfl (fun c45 => ?_) (fun c45 => ?_)
        · refine j_aload_n 53 C dX11_readPart_52 rfl rfl ?_
          refine j_ldcS 55 17 C dX11_readPart_53 rfl rfl ?_
          refine j_mI 58 C dX11_readPart_55 rfl cw11_156 rfl (c_isB hT.1 17 (by decide)) rfl (by decide) rfl (Nat.le_of_ble_eq_true rfl) ?_
          refine j_if_eqW 65 61 C dX11_readPart_58 (by decide) rfl (fun c58 => ?_) (fun c58 => ?_)
          · refine j_iconst 66 C dX11_readPart_65 rfl (v := nI 0) (by decide) ?_
            refine j_st [.int (nI (pkd M))] (by rw [show pkd M = 0 from by unfold pkd; rw [@if_neg _ (isWD M 14) c6, @if_neg _ (isWD M 15) c19, @if_neg _ (isWD M 8) c32, @if_neg _ (isWD M 16) c45, @if_neg _ (isWD M 17) c58]]) ?_
            exact j_weak _ (by exact ⟨rfl, rfl, trivial⟩) (g66 ())
          · refine j_iconst 62 C dX11_readPart_61 rfl (v := nI 5) (by decide) ?_
            refine j_goto 66 C dX11_readPart_62 (by decide) ?_
            refine j_st [.int (nI (pkd M))] (by rw [show pkd M = 5 from by unfold pkd; rw [@if_neg _ (isWD M 14) c6, @if_neg _ (isWD M 15) c19, @if_neg _ (isWD M 8) c32, @if_neg _ (isWD M 16) c45, @if_pos _ (isWD M 17) c58]]) ?_
            exact j_weak _ (by exact ⟨rfl, rfl, trivial⟩) (g66 ())
        · refine j_iconst 49 C dX11_readPart_48 rfl (v := nI 4) (by decide) ?_
          refine j_goto 66 C dX11_readPart_49 (by decide) ?_
          refine j_st [.int (nI (pkd M))] (by rw [show pkd M = 4 from by unfold pkd; rw [@if_neg _ (isWD M 14) c6, @if_neg _ (isWD M 15) c19, @if_neg _ (isWD M 8) c32, @if_pos _ (isWD M 16) c45]]) ?_
          exact j_weak _ (by exact ⟨rfl, rfl, trivial⟩) (g66 ())
      · refine j_iconst 36 C dX11_readPart_35 rfl (v := nI 3) (by decide) ?_
        refine j_goto 66 C dX11_readPart_36 (by decide) ?_
        refine j_st [.int (nI (pkd M))] (by rw [show pkd M = 3 from by unfold pkd; rw [@if_neg _ (isWD M 14) c6, @if_neg _ (isWD M 15) c19, @if_pos _ (isWD M 8) c32]]) ?_
        exact j_weak _ (by exact ⟨rfl, rfl, trivial⟩) (g66 ())
    · refine j_iconst 23 C dX11_readPart_22 rfl (v := nI 2) (by decide) ?_
      refine j_goto 66 C dX11_readPart_23 (by decide) ?_
      refine j_st [.int (nI (pkd M))] (by rw [show pkd M = 2 from by unfold pkd; rw [@if_neg _ (isWD M 14) c6, @if_pos _ (isWD M 15) c19]]) ?_
      exact j_weak _ (by exact ⟨rfl, rfl, trivial⟩) (g66 ())
  · refine j_iconst 10 C dX11_readPart_9 rfl (v := nI 1) (by decide) ?_
    refine j_goto 66 C dX11_readPart_10 (by decide) ?_
    refine j_st [.int (nI (pkd M))] (by rw [show pkd M = 1 from by unfold pkd; rw [@if_pos _ (isWD M 14) c6]]) ?_
    exact j_weak _ (by exact ⟨rfl, rfl, trivial⟩) (g66 ())
end S24
