theorem lxE_le {tp : Nat → Int32} {n a : Nat} (h : a ≤ n) : a ≤ lxF tp n a ∧ lxF tp n a ≤ lxE tp n a ∧ lxE tp n a ≤ n ∧ (¬ lxC tp n a = -1 → lxF tp n a < lxE tp n a) := by
  have h1 := lx_ws_le tp n (n - a) a
  have h2 := lx_ws_n tp n (n - a) a h
  unfold lxE lxC lxF
  generalize lx_ws tp n (n - a) a = f at h1 h2 ⊢
  by_cases c1 : sv tp n f = -1
  · rw [if_pos c1]; exact ⟨h1, Nat.le_refl _, h2, fun z => absurd c1 z⟩
  · rw [if_neg c1]
    have hin := sv_in c1
    by_cases c2 : isLet (sv tp n f)
    · rw [if_pos c2, lx_let_eq c2]
      have z2 := lx_let_le tp n (n - (f + 1)) (f + 1)
      have z3 := z2.2 (by omega)
      exact ⟨h1, by omega, by omega, fun _ => by omega⟩
    · rw [if_neg c2]
      by_cases c3 : isDig (sv tp n f)
      · rw [if_pos c3, lx_dig_eq c3]
        have z2 := lx_dig_le tp n (n - (f + 1)) (f + 1) (lx_dv (nI 0) (sv tp n f))
        have z3 := z2.2 (by omega)
        exact ⟨h1, by omega, by omega, fun _ => by omega⟩
      · rw [if_neg c3]; exact ⟨h1, by omega, by omega, fun _ => by omega⟩
theorem pz_le (tp : Nat → Int32) (n : Nat) : ∀ j, pz tp n j ≤ n
  | 0 => Nat.zero_le _
  | j + 1 => (lxE_le (pz_le tp n j)).2.2.1
/-- the reference's TOKEN, looked for from a on -/
def TV (tp : Nat → Int32) (n a : Nat) (M : MS) : Prop := (M.1 15 = nI (lxE tp n a) ∧ M.1 16 = nI (lxF tp n a)) ∧ (lxC tp n a = -1 → M.1 17 = nI 0) ∧ (¬ lxC tp n a = -1 → isLet (lxC tp n a) → M.1 17 = nI 1) ∧ (¬ lxC tp n a = -1 → ¬ isLet (lxC tp n a) → isDig (lxC tp n a) → M.1 17 = nI 2 ∧ M.1 18 = (lx_dig tp n (n - lxF tp n a) (lxF tp n a) (nI 0)).2) ∧ (¬ lxC tp n a = -1 → ¬ isLet (lxC tp n a) → ¬ isDig (lxC tp n a) → M.1 17 = if lxC tp n a = nI 59 then nI 3 else nI 4)
theorem TV_lx (M : MS) (n a : Nat) : TV (M.2.1 11) n a (lxM M n a) := by
  unfold TV lxE lxC lxF lxM
  dsimp only
  generalize lx_ws (M.2.1 11) n (n - a) a = f
  by_cases c1 : sv (M.2.1 11) n f = -1
  · rw [if_pos c1, if_pos c1]
    exact ⟨⟨rfl, rfl⟩, fun _ => rfl, fun z => absurd c1 z, fun z => absurd c1 z, fun z => absurd c1 z⟩
  · rw [if_neg c1, if_neg c1]
    by_cases c2 : isLet (sv (M.2.1 11) n f)
    · rw [if_pos c2, if_pos c2]
      exact ⟨⟨rfl, rfl⟩, fun z => absurd z c1, fun _ _ => rfl, fun _ z => absurd c2 z, fun _ z => absurd c2 z⟩
    · rw [if_neg c2, if_neg c2]
      by_cases c3 : isDig (sv (M.2.1 11) n f)
      · rw [if_pos c3, if_pos c3]
        exact ⟨⟨rfl, rfl⟩, fun z => absurd z c1, fun _ z => absurd z c2, fun _ _ _ => ⟨rfl, rfl⟩, fun _ _ z => absurd c3 z⟩
      · rw [if_neg c3, if_neg c3]
        exact ⟨⟨rfl, rfl⟩, fun z => absurd z c1, fun _ z => absurd z c2, fun _ _ z => absurd z c3, fun _ _ _ => rfl⟩
theorem setT_1 {M : MS} {a b c d : Int32} {g : Nat} (h : g < 15 ∨ 18 < g) : (setT M a b c d).1 g = M.1 g := by
  show va_up (va_up (va_up (va_up M.1 15 _) 16 _) 17 _) 18 _ g = _
  unfold va_up
  rw [if_neg (by omega), if_neg (by omega), if_neg (by omega), if_neg (by omega)]
theorem lxM_1 {M : MS} {n a g : Nat} (h : g < 15 ∨ 18 < g) : (lxM M n a).1 g = M.1 g := by
  unfold lxM
  dsimp only
  split
  · exact setT_1 h
  · split
    · exact setT_1 h
    · split
      · exact setT_1 h
      · exact setT_1 h
theorem adM_1 {M : MS} {g : Nat} (h : g < 15 ∨ 18 < g) : (adM M).1 g = M.1 g := lxM_1 h
theorem erM_1 {M : MS} {k : Int32} {g : Nat} (h : g < 19 ∨ 20 < g) : (erM M k).1 g = M.1 g := by
  unfold erM
  split
  · show va_up (va_up M.1 19 _) 20 _ g = _
    unfold va_up
    rw [if_neg (by omega), if_neg (by omega)]
  · rfl
/-- only what the reading of TOKENS changes -/
def FT (M M' : MS) : Prop := (∀ g, g < 14 ∨ 20 < g → M'.1 g = M.1 g) ∧ M'.2 = M.2
theorem FT_r (M : MS) : FT M M := ⟨fun _ _ => rfl, rfl⟩
theorem FT_t {M M' M2 : MS} (h : FT M M') (h2 : FT M' M2) : FT M M2 := ⟨fun g hg => (h2.1 g hg).trans (h.1 g hg), h2.2.trans h.2⟩
theorem FT_ad (M : MS) : FT M (adM M) := ⟨fun g hg => adM_1 (by omega), adM_2 M⟩
theorem FT_er (M : MS) (k : Int32) : FT M (erM M k) := ⟨fun g hg => erM_1 (by omega), erM_2 M k⟩
/-- the class's TOKEN j and the reference's -/
def PT (tp : Nat → Int32) (n : Nat) (Sk : MS) (c : Nat) (M : MS) (j : Nat) (Sp : MS) : Prop := (TB tp n Sk c ∧ c ≤ 900 ∧ n ≤ 900 ∧ j ≤ c) ∧ (Sp.1 5 = nI j ∧ Sp.1 6 = Sk.2.1 0 j ∧ Sp.1 7 = Sk.2.1 2 j ∧ M.1 20 = -1) ∧ (M.1 19 = 0 ∧ M.2.1 11 = tp ∧ M.1 14 = nI n ∧ TV tp n (pz tp n j) M)
theorem w_inj : ∀ v, v < 21 → ∀ w, w < 21 → sL (wI v) = sL (wI w) → (∀ t, t < sL (wI v) → sB (wI v) t = sB (wI w) t) → v = w := by decide +kernel
theorem isK_inj {tb : Nat → Int32} {st en v w : Nat} (hv : v < 21) (hw : w < 21) (h1 : isK tb st en v) (h2 : isK tb st en w) : v = w := by
  have e : sL (wI v) = sL (wI w) := by have := h1.1; have := h2.1; omega
  exact w_inj v hv w hw e (fun t ht => (h1.2 t ht).symm.trans (h2.2 t (by omega)))
/-- which TOKEN it is -/
def PV (M Sp : MS) (k : Nat) : Prop := (Sp.1 6 = nI k ∧ k ≤ 24) ∧ (∀ w, w < 21 → (isW M (wI w) ↔ w = k)) ∧ (M.1 17 = nI 2 ↔ k = 21) ∧ (M.1 17 = nI 3 ↔ k = 22) ∧ (M.1 17 = nI 0 ↔ k = 24) ∧ (k = 21 → NV (Sp.1 7) (M.1 18))
section SQ1
variable {tp : Nat → Int32} {n c j k : Nat} {Sk M Sp : MS}
theorem PT_tok (h : PT tp n Sk c M j Sp) : TOK M n (lxE tp n (pz tp n j)) (lxF tp n (pz tp n j)) := by
  obtain ⟨-, h2, h3, -⟩ := lxE_le (tp := tp) (pz_le tp n j)
  exact ⟨h.2.2.2.2.1, h.2.2.2.2.2.1.1, h.2.2.2.2.2.1.2, h2, h3, h.1.2.2.1⟩
theorem PT_v (h : PT tp n Sk c M j Sp) : ∃ k, PV M Sp k ∧ (k = 24 ↔ j = c) ∧ (∀ w, w < 21 → k = w → lxE tp n (pz tp n j) = lxF tp n (pz tp n j) + sL (wI w)) := by
  have hT := PT_tok h
  obtain ⟨⟨⟨t1, t2, t3, t4⟩, hc9, hn9, hjc⟩, ⟨p5, p6, p7, -⟩, m19, m11, m14, v1, v2, v3, v4, v5⟩ := h
  obtain ⟨-, k1, k2, k3, k4⟩ := t2 j (by omega)
  have hend : lxC tp n (pz tp n j) = -1 ↔ j = c := ⟨fun z => Decidable.byContradiction fun q => t3 j (by omega) z, fun z => z ▸ t4⟩
  have hnw : ∀ x : Int32, M.1 17 = x → ¬ x = nI 1 → ∀ k, 21 ≤ k → ∀ w, w < 21 → (isW M (wI w) ↔ w = k) := fun x hx hn k hk w hw => ⟨fun z => absurd (hx.symm.trans z.2.1) hn, fun z => absurd z (by omega)⟩
  by_cases c1 : lxC tp n (pz tp n j) = -1
  · have a1 := v2 c1
    refine ⟨24, ⟨⟨p6.trans (k1 c1), by omega⟩, hnw _ a1 (by decide) 24 (by omega), by rw [a1]; decide, by rw [a1]; decide, by rw [a1]; decide, fun z => by omega⟩, ⟨fun _ => hend.mp c1, fun _ => rfl⟩, fun w hw z => by omega⟩
  have hne : ¬ j = c := fun z => c1 (hend.mpr z)
  by_cases c2 : isLet (lxC tp n (pz tp n j))
  · have a1 := v3 c1 c2
    have a2 := k2 c1 c2
    rcases wsc_top (tb := tp) (st := lxF tp n (pz tp n j)) (en := lxE tp n (pz tp n j)) with ⟨v, hv, b1, b2⟩ | ⟨b1, b2⟩
    · refine ⟨v, ⟨⟨p6.trans (a2.trans b2), by omega⟩, fun w hw => ⟨fun z => ?_, fun z => ?_⟩, ⟨fun z => absurd (a1.symm.trans z) (by decide), fun z => absurd z (by omega)⟩, ⟨fun z => absurd (a1.symm.trans z) (by decide), fun z => absurd z (by omega)⟩, ⟨fun z => absurd (a1.symm.trans z) (by decide), fun z => absurd z (by omega)⟩, fun z => absurd z (by omega)⟩, ⟨fun z => absurd z (by omega), fun z => absurd z hne⟩, fun w hw z => ?_⟩
      · obtain ⟨⟨-, -, z1⟩, z2⟩ := (isW_iff hT _).mp z
        have hle := hT.2.2.2.1
        exact isK_inj hw hv ⟨by omega, fun t ht => (congrFun m11 _).symm.trans (z2 t ht)⟩ b1
      · subst z
        have hb := b1.1
        exact (isW_iff hT _).mpr ⟨⟨m19, a1, by omega⟩, fun t ht => (congrFun m11 _).trans (b1.2 t ht)⟩
      · subst z; exact b1.1.symm
    · refine ⟨23, ⟨⟨p6.trans (a2.trans b2), by omega⟩, fun w hw => ⟨fun z => ?_, fun z => absurd z (by omega)⟩, by rw [a1]; decide, by rw [a1]; decide, by rw [a1]; decide, fun z => absurd z (by omega)⟩, ⟨fun z => absurd z (by omega), fun z => absurd z hne⟩, fun w hw z => absurd z (by omega)⟩
      obtain ⟨⟨-, -, z1⟩, z2⟩ := (isW_iff hT _).mp z
      have hle := hT.2.2.2.1
      have z3 := sL_pos (wI w)
      exact absurd ⟨by omega, fun t ht => (congrFun m11 _).symm.trans (z2 t ht)⟩ (b1 w hw)
  by_cases c3 : isDig (lxC tp n (pz tp n j))
  · obtain ⟨a1, a3⟩ := v4 c1 c2 c3
    obtain ⟨a2, a4⟩ := k3 c1 c2 c3
    exact ⟨21, ⟨⟨p6.trans a2, by omega⟩, hnw _ a1 (by decide) 21 (by omega), by rw [a1]; decide, by rw [a1]; decide, by rw [a1]; decide, fun z => by rw [p7, a3]; exact a4⟩, ⟨fun z => absurd z (by omega), fun z => absurd z hne⟩, fun w hw z => absurd z (by omega)⟩
  have a1 := v5 c1 c2 c3
  have a2 := k4 c1 c2 c3
  by_cases c4 : lxC tp n (pz tp n j) = nI 59
  · rw [if_pos c4] at a1 a2
    exact ⟨22, ⟨⟨p6.trans a2, by omega⟩, hnw _ a1 (by decide) 22 (by omega), by rw [a1]; decide, by rw [a1]; decide, by rw [a1]; decide, fun z => absurd z (by omega)⟩, ⟨fun z => absurd z (by omega), fun z => absurd z hne⟩, fun w hw z => absurd z (by omega)⟩
  · rw [if_neg c4] at a1 a2
    exact ⟨23, ⟨⟨p6.trans a2, by omega⟩, hnw _ a1 (by decide) 23 (by omega), by rw [a1]; decide, by rw [a1]; decide, by rw [a1]; decide, fun z => absurd z (by omega)⟩, ⟨fun z => absurd z (by omega), fun z => absurd z hne⟩, fun w hw z => absurd z (by omega)⟩
/-- the next TOKEN -/
theorem PT_ad (h : PT tp n Sk c M j Sp) (hj : ¬ j = c) : PT tp n Sk c (adM M) (j + 1) (avS Sp Sk j (c + 1)) := by
  have hT := PT_tok h
  obtain ⟨⟨hB, hc9, hn9, hjc⟩, ⟨p5, p6, p7, m20⟩, m19, m11, m14, hv⟩ := h
  have e1 : adM M = lxM M n (pz tp n (j + 1)) := by
    unfold adM
    have := (lxE_le (tp := tp) (pz_le tp n j)).2.2.1
    rw [m14, hv.1.1, tn_nI (by omega), tn_nI (by omega)]; rfl
  unfold avS
  rw [if_pos (by omega)]
  refine ⟨⟨hB, hc9, hn9, by omega⟩, ⟨rfl, rfl, rfl, (adM_1 (by omega)).trans m20⟩, ?_⟩
  rw [e1]
  exact ⟨(lxM_1 (by omega)).trans m19, (by rw [lxM_2]; exact m11), (lxM_1 (by omega)).trans m14, m11 ▸ TV_lx M n _⟩
/-- where the next TOKEN stands -/
theorem pz_next (h : PT tp n Sk c M j Sp) (hj : ¬ j = c) : lxF tp n (pz tp n j) < lxE tp n (pz tp n j) ∧ lxE tp n (pz tp n j) ≤ lxF tp n (pz tp n (j + 1)) ∧ lxF tp n (pz tp n (j + 1)) ≤ n ∧ n ≤ 900 := by
  have h1 := lxE_le (tp := tp) (pz_le tp n j)
  have h2 := lxE_le (tp := tp) (pz_le tp n (j + 1))
  have h3 := h1.2.2.2 (h.1.1.2.2.1 j (by have := h.1.2.2.2; omega))
  have h4 : pz tp n (j + 1) = lxE tp n (pz tp n j) := rfl
  have := h.1.2.2.1
  omega
theorem PT_fr {M' : MS} (h : PT tp n Sk c M j Sp) (h1 : ∀ g, 14 ≤ g → g ≤ 20 → M'.1 g = M.1 g) (h2 : M'.2.1 11 = M.2.1 11) : PT tp n Sk c M' j Sp := by
  obtain ⟨a, b, c1, c2, c3, c4⟩ := h
  refine ⟨a, ⟨b.1, b.2.1, b.2.2.1, (h1 20 (by omega) (by omega)).trans b.2.2.2⟩, ?_, ?_, ?_, ?_⟩
  · rw [h1 19 (by omega) (by omega)]; exact c1
  · rw [h2]; exact c2
  · rw [h1 14 (by omega) (by omega)]; exact c3
  · unfold TV; rw [h1 15 (by omega) (by omega), h1 16 (by omega) (by omega), h1 17 (by omega) (by omega), h1 18 (by omega) (by omega)]; exact c4
theorem PT_fp {S' : MS} (h : PT tp n Sk c M j Sp) (h5 : S'.1 5 = Sp.1 5) (h6 : S'.1 6 = Sp.1 6) (h7 : S'.1 7 = Sp.1 7) : PT tp n Sk c M j S' := ⟨h.1, by rw [h5, h6, h7]; exact h.2.1, h.2.2⟩
/-- a fault, told alike -/
def BD (N Sp : MS) : Prop := ¬ N.1 19 = 0 ∧ Sp.1 2 = N.1 19 ∧ Sp.1 3 = N.1 20
theorem BD_er {x : Int32} (h : PT tp n Sk c M j Sp) (hx : ¬ x = 0) : BD (erM M x) (rfS Sp Sk x j) := by
  have h1 := (h.1.1.2.1 j (by have := h.1.2.2.2; omega)).1
  have h2 := h.2.2.2.2.2.1.2
  unfold erM
  rw [if_pos h.2.2.1]
  exact ⟨hx, rfl, h1.trans h2.symm⟩
theorem PV_k {k' : Nat} (h : PV M Sp k) (h2 : PV M Sp k') : k = k' := (nI_eq (by have := h.1.2; omega) (by have := h2.1.2; omega)).mp (h.1.1.symm.trans h2.1.1)
theorem PV_eq (h : PV M Sp k) {w : Nat} (hw : w < 2 ^ 31) : Sp.1 6 = nI w ↔ k = w := by
  rw [h.1.1]; exact nI_eq (by have := h.1.2; omega) hw
theorem nwM_ok {w : Nat} (h : PV M Sp k) (hw : w < 21) (e : k = w) : nwM M (wI w) = adM M := @if_pos _ (isWD M (wI w)) ((h.2.1 w hw).mpr e.symm) _ _ _
theorem nwM_no {w : Nat} (h : PV M Sp k) (hw : w < 21) (e : ¬ k = w) : nwM M (wI w) = erM M (nI 1) := @if_neg _ (isWD M (wI w)) (fun z => e ((h.2.1 w hw).mp z).symm) _ _ _
theorem am_v (h : PV M Sp k) {a b : Nat} (ha : a + b < 100) : (if ¬ Sp.1 6 < nI a ∧ ¬ nI a + nI b ≤ Sp.1 6 then Sp.1 6 - nI a else -1) = if a ≤ k ∧ k < a + b then nI (k - a) else -1 := by
  have hk := h.1.2
  rw [h.1.1, nI_pl]
  by_cases e : a ≤ k ∧ k < a + b
  · rw [if_pos e, if_pos ⟨nI_nlt e.1 (by omega), Int32.not_le.mpr (nI_lt e.2 (by omega))⟩, pk_sub e.1]
  · rw [if_neg e, if_neg]
    intro z
    refine e ⟨Decidable.byContradiction fun q => z.1 (nI_lt (by omega) (by omega)), Decidable.byContradiction fun q => z.2 (Int32.not_lt.mp (nI_nlt (by omega) (by omega)))⟩

theorem srt_v (h : PV M Sp k) : srt M = if k < 4 then nI k else -1 := by
  have h0 : isW M 9 ↔ 0 = k := h.2.1 0 (by omega)
  have h1 : isW M 10 ↔ 1 = k := h.2.1 1 (by omega)
  have h2 : isW M 11 ↔ 2 = k := h.2.1 2 (by omega)
  have h3 : isW M 12 ↔ 3 = k := h.2.1 3 (by omega)
  by_cases e0 : k = 0
  · subst e0; unfold srt; rw [@if_pos _ (isWD M 9) (h0.mpr rfl)]; rfl
  by_cases e1 : k = 1
  · subst e1; unfold srt; rw [@if_neg _ (isWD M 9) (fun z => e0 (h0.mp z).symm), @if_pos _ (isWD M 10) (h1.mpr rfl)]; rfl
  by_cases e2 : k = 2
  · subst e2; unfold srt; rw [@if_neg _ (isWD M 9) (fun z => e0 (h0.mp z).symm), @if_neg _ (isWD M 10) (fun z => e1 (h1.mp z).symm), @if_pos _ (isWD M 11) (h2.mpr rfl)]; rfl
  by_cases e3 : k = 3
  · subst e3; unfold srt; rw [@if_neg _ (isWD M 9) (fun z => e0 (h0.mp z).symm), @if_neg _ (isWD M 10) (fun z => e1 (h1.mp z).symm), @if_neg _ (isWD M 11) (fun z => e2 (h2.mp z).symm), @if_pos _ (isWD M 12) (h3.mpr rfl)]; rfl
  unfold srt; rw [@if_neg _ (isWD M 9) (fun z => e0 (h0.mp z).symm), @if_neg _ (isWD M 10) (fun z => e1 (h1.mp z).symm), @if_neg _ (isWD M 11) (fun z => e2 (h2.mp z).symm), @if_neg _ (isWD M 12) (fun z => e3 (h3.mp z).symm), if_neg (by omega)]
theorem pkd_v (h : PV M Sp k) : pkd M = if 11 ≤ k ∧ k ≤ 15 then k - 10 else 0 := by
  have h0 : isW M 14 ↔ 11 = k := h.2.1 11 (by omega)
  have h1 : isW M 15 ↔ 12 = k := h.2.1 12 (by omega)
  have h2 : isW M 8 ↔ 13 = k := h.2.1 13 (by omega)
  have h3 : isW M 16 ↔ 14 = k := h.2.1 14 (by omega)
  have h4 : isW M 17 ↔ 15 = k := h.2.1 15 (by omega)
  by_cases e0 : k = 11
  · subst e0; unfold pkd; rw [@if_pos _ (isWD M 14) (h0.mpr rfl)]; rfl
  by_cases e1 : k = 12
  · subst e1; unfold pkd; rw [@if_neg _ (isWD M 14) (fun z => e0 (h0.mp z).symm), @if_pos _ (isWD M 15) (h1.mpr rfl)]; rfl
  by_cases e2 : k = 13
  · subst e2; unfold pkd; rw [@if_neg _ (isWD M 14) (fun z => e0 (h0.mp z).symm), @if_neg _ (isWD M 15) (fun z => e1 (h1.mp z).symm), @if_pos _ (isWD M 8) (h2.mpr rfl)]; rfl
  by_cases e3 : k = 14
  · subst e3; unfold pkd; rw [@if_neg _ (isWD M 14) (fun z => e0 (h0.mp z).symm), @if_neg _ (isWD M 15) (fun z => e1 (h1.mp z).symm), @if_neg _ (isWD M 8) (fun z => e2 (h2.mp z).symm), @if_pos _ (isWD M 16) (h3.mpr rfl)]; rfl
  by_cases e4 : k = 15
  · subst e4; unfold pkd; rw [@if_neg _ (isWD M 14) (fun z => e0 (h0.mp z).symm), @if_neg _ (isWD M 15) (fun z => e1 (h1.mp z).symm), @if_neg _ (isWD M 8) (fun z => e2 (h2.mp z).symm), @if_neg _ (isWD M 16) (fun z => e3 (h3.mp z).symm), @if_pos _ (isWD M 17) (h4.mpr rfl)]; rfl
  unfold pkd; rw [@if_neg _ (isWD M 14) (fun z => e0 (h0.mp z).symm), @if_neg _ (isWD M 15) (fun z => e1 (h1.mp z).symm), @if_neg _ (isWD M 8) (fun z => e2 (h2.mp z).symm), @if_neg _ (isWD M 16) (fun z => e3 (h3.mp z).symm), @if_neg _ (isWD M 17) (fun z => e4 (h4.mp z).symm), if_neg (by omega)]
theorem jn_v (h : PV M Sp k) : jn M = if 7 ≤ k ∧ k ≤ 10 then k - 6 else 0 := by
  have h0 : isW M 18 ↔ 7 = k := h.2.1 7 (by omega)
  have h1 : isW M 19 ↔ 8 = k := h.2.1 8 (by omega)
  have h2 : isW M 20 ↔ 9 = k := h.2.1 9 (by omega)
  have h3 : isW M 21 ↔ 10 = k := h.2.1 10 (by omega)
  by_cases e0 : k = 7
  · subst e0; unfold jn; rw [@if_pos _ (isWD M 18) (h0.mpr rfl)]; rfl
  by_cases e1 : k = 8
  · subst e1; unfold jn; rw [@if_neg _ (isWD M 18) (fun z => e0 (h0.mp z).symm), @if_pos _ (isWD M 19) (h1.mpr rfl)]; rfl
  by_cases e2 : k = 9
  · subst e2; unfold jn; rw [@if_neg _ (isWD M 18) (fun z => e0 (h0.mp z).symm), @if_neg _ (isWD M 19) (fun z => e1 (h1.mp z).symm), @if_pos _ (isWD M 20) (h2.mpr rfl)]; rfl
  by_cases e3 : k = 10
  · subst e3; unfold jn; rw [@if_neg _ (isWD M 18) (fun z => e0 (h0.mp z).symm), @if_neg _ (isWD M 19) (fun z => e1 (h1.mp z).symm), @if_neg _ (isWD M 20) (fun z => e2 (h2.mp z).symm), @if_pos _ (isWD M 21) (h3.mpr rfl)]; rfl
  unfold jn; rw [@if_neg _ (isWD M 18) (fun z => e0 (h0.mp z).symm), @if_neg _ (isWD M 19) (fun z => e1 (h1.mp z).symm), @if_neg _ (isWD M 20) (fun z => e2 (h2.mp z).symm), @if_neg _ (isWD M 21) (fun z => e3 (h3.mp z).symm), if_neg (by omega)]
theorem lnW_v (h : PV M Sp k) (h1 : 4 ≤ k) (h2 : k < 7) : lnW M = k - 4 := by
  have a0 : isW M 3 ↔ 4 = k := h.2.1 4 (by omega)
  have a1 : isW M 4 ↔ 5 = k := h.2.1 5 (by omega)
  unfold lnW
  by_cases e0 : k = 4
  · subst e0; rw [@if_pos _ (isWD M 3) (a0.mpr rfl)]
  · rw [@if_neg _ (isWD M 3) (fun z => e0 (a0.mp z).symm)]
    by_cases e1 : k = 5
    · subst e1; rw [@if_pos _ (isWD M 4) (a1.mpr rfl)]
    · rw [@if_neg _ (isWD M 4) (fun z => e1 (a1.mp z).symm)]; omega
theorem NV_le {v rv : Int32} {hi : Nat} (h : NV v rv) (hh : hi ≤ 5000) : (v ≤ nI hi → v = rv ∧ ∃ u, u ≤ hi ∧ v = nI u) ∧ ((nI 0).toInt64 ≤ rv.toInt64 ∧ rv.toInt64 ≤ (nI hi).toInt64 ↔ v ≤ nI hi) := by
  obtain ⟨t, rfl, rfl⟩ := h
  have e1 : nI (min t 1000000) ≤ nI hi ↔ t ≤ hi := by
    rw [Int32.le_iff_toInt_le, nI_toInt (by omega), nI_toInt (by omega)]; omega
  refine ⟨fun z => ?_, ?_⟩
  · have := e1.mp z
    refine ⟨?_, t, this, ?_⟩
    · congr 1; omega
    · congr 1; omega
  · rw [e1, Int64.le_iff_toInt_le, Int64.le_iff_toInt_le, t64, t64, t64, nI_toInt (by omega), nI_toInt (by omega), nI_toInt (by omega)]
    omega
theorem nm_no1 (h19 : M.1 19 = 0) (h : PV M Sp k) (e : ¬ k = 21) (lo hi : Nat) : nmM M lo hi = erM M (nI 1) := by
  have e1 : nm1 M = erM M (nI 1) := if_pos ⟨h19, fun z => e (h.2.2.1.mp z)⟩
  have e2 : ¬ (erM M (nI 1)).1 19 = 0 := er_19 (by decide)
  have e3 : nm2 (erM M (nI 1)) lo hi = erM M (nI 1) := if_neg (fun z => e2 z.1)
  unfold nmM
  rw [e1, e3, if_neg e2]
theorem nm_no2 {hi : Nat} (h19 : M.1 19 = 0) (h : PV M Sp k) (e : k = 21) (hh : hi ≤ 5000) (hn : ¬ Sp.1 7 ≤ nI hi) : nmM M 0 hi = erM M (nI 2) := by
  have e1 : nm1 M = M := if_neg (fun z => z.2 (h.2.2.1.mpr e))
  have e2 : ¬ (erM M (nI 2)).1 19 = 0 := er_19 (by decide)
  have e3 : nm2 M 0 hi = erM M (nI 2) := if_pos ⟨h19, fun z => hn ((NV_le (h.2.2.2.2.2 e) hh).2.mp z)⟩
  unfold nmM
  rw [e1, e3, if_neg e2]
theorem nm_ok {hi : Nat} (h19 : M.1 19 = 0) (h : PV M Sp k) (e : k = 21) (hh : hi ≤ 5000) (hn : Sp.1 7 ≤ nI hi) : nmM M 0 hi = adM M ∧ nmV M 0 hi = Sp.1 7 ∧ ∃ u, u ≤ hi ∧ Sp.1 7 = nI u := by
  obtain ⟨n1, n2⟩ := NV_le (h.2.2.2.2.2 e) hh
  have e1 : nm1 M = M := if_neg (fun z => z.2 (h.2.2.1.mpr e))
  have e3 : nm2 M 0 hi = M := if_neg (fun z => z.2 (n2.mpr hn))
  refine ⟨?_, ?_, (n1 hn).2⟩
  · unfold nmM; rw [e1, e3, if_pos h19]
  · unfold nmV; rw [e1, e3, if_pos h19]; exact (n1 hn).1.symm
theorem isW_bad (h : ¬ M.1 19 = 0) (i : Nat) : ¬ isW M i := fun z => h z.1
theorem nw_bad (h : ¬ M.1 19 = 0) (i : Nat) : nwM M i = M := (@if_neg _ (isWD M i) (isW_bad h i) _ _ _).trans (erM_bad h)
theorem nm_bad (h : ¬ M.1 19 = 0) (lo hi : Nat) : nmM M lo hi = M := by
  have e1 : nm1 M = M := if_neg (fun z => h z.1)
  have e3 : nm2 M lo hi = M := if_neg (fun z => h z.1)
  unfold nmM; rw [e1, e3, if_neg h]
theorem T1_bad (h : ¬ M.1 19 = 0) : lnT1 M = M := by unfold lnT1; split; rfl; exact erM_bad h
theorem T2_bad (h : ¬ M.1 19 = 0) : lnT2 M = M := by unfold lnT2; rw [T1_bad h, if_neg h]
theorem pkd_bad (h : ¬ M.1 19 = 0) : pkd M = 0 := Decidable.byContradiction fun z => by obtain ⟨i, -, hw⟩ := pkd_w z; exact isW_bad h i hw
theorem jn_bad (h : ¬ M.1 19 = 0) : jn M = 0 := Decidable.byContradiction fun z => by obtain ⟨i, hw, -⟩ := jn_w z; exact isW_bad h i hw
theorem pr_bad (h : ¬ M.1 19 = 0) (join : Int32) (p : Nat) : prM M join p = M := by
  have e1 : pr1 M = M := if_neg (fun z => h z.1)
  have e2 : pr2 M = M := by unfold pr2; rw [if_pos (pkd_bad h), e1, nm_bad h]
  unfold prM; rw [e2, if_neg h]
theorem rlF_bad (h : ¬ M.1 19 = 0) (F : Nat) : rlF F M = M := by
  cases F with
  | zero => rfl
  | succ F => rw [rlF, if_pos (jn_bad h)]
theorem T2_ok (h19 : M.1 19 = 0) (h : PV M Sp k) (e : k = 22) : lnT2 M = adM M := by
  have e1 : lnT1 M = M := if_pos (h.2.2.2.1.mpr e)
  unfold lnT2; rw [e1, if_pos h19]
theorem T2_no (h19 : M.1 19 = 0) (h : PV M Sp k) (e : ¬ k = 22) : lnT2 M = erM M (nI 1) := by
  have e1 : lnT1 M = erM M (nI 1) := if_neg (fun z => e (h.2.2.2.1.mp z))
  unfold lnT2; rw [e1, if_neg (er_19 (by decide))]
theorem FT_T2 (M : MS) : FT M (lnT2 M) := by
  have e : FT M (lnT1 M) := by unfold lnT1; split; exact FT_r M; exact FT_er M _
  unfold lnT2; split
  · exact FT_t e (FT_ad _)
  · exact e
end SQ1
