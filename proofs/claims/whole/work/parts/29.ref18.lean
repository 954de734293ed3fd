/-- the TOKEN's fields as advance() leaves them: its first byte f, its end a, of n bytes -/
def TOK (M : MS) (n a f : Nat) : Prop := M.1 14 = nI n ∧ M.1 15 = nI a ∧ M.1 16 = nI f ∧ f ≤ a ∧ a ≤ n ∧ n ≤ 900
def isW (M : MS) (i : Nat) : Prop := M.1 19 = 0 ∧ M.1 17 = nI 1 ∧ tn (M.1 15) - tn (M.1 16) = sL i ∧ ∀ j, j < sL i → M.2.1 11 (tn (M.1 16) + j) = sB i j
noncomputable def isWD (M : MS) (i : Nat) : Decidable (isW M i) := Classical.propDecidable _
noncomputable def bW (M : MS) (i : Nat) : Int32 := @bI (isW M i) (isWD M i)
def adM (M : MS) : MS := lxM M (tn (M.1 14)) (tn (M.1 15))
theorem lx_let_le (tp : Nat → Int32) (n : Nat) : ∀ f a, a ≤ lx_let tp n f a ∧ (a ≤ n → lx_let tp n f a ≤ n)
  | 0, a => ⟨Nat.le_refl _, id⟩
  | f + 1, a => by
    unfold lx_let
    by_cases h : isLet (sv tp n a)
    · rw [if_pos h]
      have := lx_let_le tp n f (a + 1)
      have := let_in h
      constructor
      · omega
      · intro _; exact (lx_let_le tp n f (a + 1)).2 (by omega)
    · rw [if_neg h]; exact ⟨Nat.le_refl _, id⟩
theorem lx_dig_le (tp : Nat → Int32) (n : Nat) : ∀ f a v, a ≤ (lx_dig tp n f a v).1 ∧ (a ≤ n → (lx_dig tp n f a v).1 ≤ n)
  | 0, a, v => ⟨Nat.le_refl _, id⟩
  | f + 1, a, v => by
    unfold lx_dig
    by_cases h : isDig (sv tp n a)
    · rw [if_pos h]
      have := lx_dig_le tp n f (a + 1) (lx_dv v (sv tp n a))
      have := dig_in h
      constructor
      · omega
      · intro _; exact (lx_dig_le tp n f (a + 1) _).2 (by omega)
    · rw [if_neg h]; exact ⟨Nat.le_refl _, id⟩
theorem lx_ws_n (tp : Nat → Int32) (n : Nat) : ∀ f a, a ≤ n → lx_ws tp n f a ≤ n
  | 0, a, h => h
  | f + 1, a, h => by
    unfold lx_ws
    by_cases hw : sv tp n a = nI 32 ∨ sv tp n a = nI 10
    · rw [if_pos hw]
      have := ws_in hw
      exact lx_ws_n tp n f (a + 1) (by omega)
    · rw [if_neg hw]; exact h
/-- where the next TOKEN begins -/
def nxF (M : MS) : Nat := lx_ws (M.2.1 11) (tn (M.1 14)) (tn (M.1 14) - tn (M.1 15)) (tn (M.1 15))
theorem TOK_ad {M : MS} {n a f : Nat} (h : TOK M n a f) : ∃ a2, TOK (adM M) n a2 (nxF M) ∧ a ≤ nxF M ∧ ((adM M).1 17 = nI 0 ∧ a2 = nxF M ∨ nxF M < a2) := by
  obtain ⟨h1, h2, h3, h4, h5, h6⟩ := h
  have e1 : tn (M.1 14) = n := by rw [h1, tn_nI (by omega)]
  have e2 : tn (M.1 15) = a := by rw [h2, tn_nI (by omega)]
  have hle := lx_ws_le (M.2.1 11) n (n - a) a
  have hn := lx_ws_n (M.2.1 11) n (n - a) a h5
  unfold nxF adM
  rw [e1, e2]
  unfold lxM
  dsimp only
  generalize hf : lx_ws (M.2.1 11) n (n - a) a = a0 at hle hn ⊢
  by_cases c1 : sv (M.2.1 11) n a0 = -1
  · rw [if_pos c1]
    exact ⟨a0, ⟨h1, rfl, rfl, Nat.le_refl _, hn, h6⟩, hle, Or.inl ⟨rfl, rfl⟩⟩
  · have hin := sv_in c1
    rw [if_neg c1]
    by_cases c2 : isLet (sv (M.2.1 11) n a0)
    · rw [if_pos c2]
      have z := lx_let_le (M.2.1 11) n (n - a0) a0
      have z2 := lx_let_le (M.2.1 11) n (n - (a0 + 1)) (a0 + 1)
      rw [lx_let_eq c2] at z ⊢
      exact ⟨_, ⟨h1, rfl, rfl, z.1, z.2 hn, h6⟩, hle, Or.inr (by omega)⟩
    · rw [if_neg c2]
      by_cases c3 : isDig (sv (M.2.1 11) n a0)
      · rw [if_pos c3]
        have z := lx_dig_le (M.2.1 11) n (n - a0) a0 (nI 0)
        have z2 := lx_dig_le (M.2.1 11) n (n - (a0 + 1)) (a0 + 1) (lx_dv (nI 0) (sv (M.2.1 11) n a0))
        rw [lx_dig_eq c3] at z ⊢
        exact ⟨_, ⟨h1, rfl, rfl, z.1, z.2 hn, h6⟩, hle, Or.inr (by omega)⟩
      · rw [if_neg c3]
        exact ⟨a0 + 1, ⟨h1, rfl, rfl, by omega, by omega, h6⟩, hle, Or.inr (by omega)⟩
theorem TOK_er {M : MS} {n a f : Nat} {k : Int32} (h : TOK M n a f) : TOK (erM M k) n a f := by
  unfold erM
  by_cases e : M.1 19 = 0
  · rw [if_pos e]; exact h
  · rw [if_neg e]; exact h
section S21
variable {l : Launch} {G : GG} {o : Nat} {ad : Nat → Nat} {M : MS} {n a f : Nat}
theorem c_adv (hT : TOK M n a f) : Con l G yX11_advance cX11_advance 2 none 3 0 0 [.ref o] (mw o ad G.2.1 M) (pV (mw o ad G.2.1 (adM M))) := by
  obtain ⟨h1, h2, h3, h4, h5, h6⟩ := hT
  have z := c_advance (l := l) (G := G) (o := o) (ad := ad) (M := M) h2 (by omega) h1 h6
  unfold adM
  rw [h1, h2, tn_nI (by omega), tn_nI (by omega)]
  exact z
theorem isW_iff (hT : TOK M n a f) (i : Nat) : isW M i ↔ ((M.1 19 = 0 ∧ M.1 17 = nI 1 ∧ a - f = sL i) ∧ ∀ j, j < sL i → (M.2.1 11 (f + j) = sB i j)) := by
  obtain ⟨h1, h2, h3, h4, h5, h6⟩ := hT
  unfold isW
  rw [h2, h3, tn_nI (by omega), tn_nI (by omega)]
  exact ⟨fun z => ⟨⟨z.1, z.2.1, z.2.2.1⟩, z.2.2.2⟩, fun z => ⟨z.1.1, z.1.2.1, z.1.2.2, z.2⟩⟩
set_option maxHeartbeats 2000000 in
theorem c_is (hT : TOK M n a f) (i : Nat) (hi : i < 22) : Con l G yX11_is cX11_is 4 (some .boolean) 5 0 0 [.ref o, .ref (G.2.2.1 i)] (mw o ad G.2.1 M) (pI (bW M i) (mw o ad G.2.1 M)) := by
  refine Con.mk (own := RX11) (by decide) rfl (Nat.le_of_ble_eq_true rfl) (fun X C => ?_)
  have hiw := isW_iff hT i
  have hLi := sL_le i hi
  obtain ⟨h1, h2, h3, h4, h5, h6⟩ := id hT
  have lp39 : ∀ (m : Nat) (k : Nat) (b : Bool), sL i - k = m → k ≤ sL i → ((b = true → (M.1 19 = 0 ∧ M.1 17 = nI 1 ∧ a - f = sL i) ∧ ∀ j, j < k → (M.2.1 11 (f + j) = sB i j)) ∧ (b = false → ¬ isW M i)) → J X 4 0 0 (mw o ad G.2.1 M) 39 [(0, .ref o), (1, .ref (G.2.2.1 i)), (2, .int (bI (b = true))), (3, .int (nI k))] [] := by
    intro m
    induction m using Nat.strongRecOn with
    | ind m ih =>
    intro k b hm hk hb
    refine j_iload_n 40 C dX11_is_39 rfl rfl ?_
    refine j_aload_n 41 C dX11_is_40 rfl rfl ?_
    refine j_callK 44 C dX11_is_41 rfl cw11_146 rfl hi (c_length i hi) rfl (by decide) ⟨Nat.le_refl _, Nat.le_refl _⟩ rfl (Nat.le_of_ble_eq_true rfl) ?_
    refine j_icmp_geN 82 47 C dX11_is_44 (by decide) rfl (by omega) (by omega) (fun c44 => ?_) (fun c44 => ?_)
    · refine j_iload_n 83 C dX11_is_82 rfl rfl ?_
      exact j_zret C dX11_is_83 (bI_nar _) ⟨congrArg (fun z => some (Value.int z)) (@bI_iff _ _ _ (isWD M i) ⟨fun z => hiw.mpr ⟨(hb.1 z).1, fun j hj => (hb.1 z).2 j (by omega)⟩, fun z => by cases b with | true => rfl | false => exact absurd z (hb.2 rfl)⟩), rfl⟩
    · refine j_iload_n 48 C dX11_is_47 rfl rfl ?_
      refine j_if_eqB 82 51 C dX11_is_48 (by decide) rfl (fun c48 => ?_) (fun c48 => ?_)
      · refine j_iload_n 83 C dX11_is_82 rfl rfl ?_
        exact j_zret C dX11_is_83 (bI_nar _) ⟨congrArg (fun z => some (Value.int z)) (@bI_iff _ _ _ (isWD M i) ⟨fun z => absurd z c48, fun z => absurd z (hb.2 (Bool.eq_false_iff.mpr c48))⟩), rfl⟩
      · obtain ⟨hbase, hpre⟩ := hb.1 c48
        have hfk := hbase.2.2
        refine j_aload_n 52 C dX11_is_51 rfl rfl ?_
        refine rg_tape 55 C dX11_is_52 rfl ?_
        refine j_aload_n 56 C dX11_is_55 rfl rfl ?_
        refine rg_from 59 C dX11_is_56 rfl ?_
        rw [h3]
        refine j_iload_n 60 C dX11_is_59 rfl rfl ?_
        refine j_iaddN 61 C dX11_is_60 rfl ?_
        refine ra_tape 62 C dX11_is_61 rfl _ (by omega) rfl ?_
        refine j_aload_n 63 C dX11_is_62 rfl rfl ?_
        refine j_iload_n 64 C dX11_is_63 rfl rfl ?_
        refine j_callK 67 C dX11_is_64 rfl cw11_152 rfl hi (c_charAt i k hi c44) rfl (by decide) ⟨Nat.le_refl _, Nat.le_refl _⟩ rfl (Nat.le_of_ble_eq_true rfl) ?_
        refine j_bool_icmp_ne 75 C dX11_is_67 rfl dX11_is_70 dX11_is_71 dX11_is_74 rfl ?_
        rw [bI_iff (show (M.2.1 11 (f + k) = sB i k) ↔ (decide (M.2.1 11 (f + k) = sB i k) = true) from decide_eq_true_iff.symm)]
        refine j_istore_n 76 C dX11_is_75 rfl rfl (by decide) ?_
        refine j_iincN 79 (z := 1) C dX11_is_76 rfl rfl rfl (by decide) ?_
        refine j_goto 39 C dX11_is_79 (by decide) ?_
        exact j_weak _ (by exact ⟨rfl, rfl, rfl, rfl, trivial⟩) (ih _ (by omega) (k + 1) _ rfl (by omega) ⟨fun z => ⟨hbase, lt_s hpre (of_decide_eq_true z)⟩, fun z y => of_decide_eq_false z ((hiw.mp y).2 k c44)⟩)
  have go : ∀ (b : Bool), ((b = true → (M.1 19 = 0 ∧ M.1 17 = nI 1 ∧ a - f = sL i)) ∧ (b = false → ¬ isW M i)) → J X 4 0 0 (mw o ad G.2.1 M) 36 [(0, .ref o), (1, .ref (G.2.2.1 i))] [.int (bI (b = true))] := by
    intro b hb
    refine j_istore_n 37 C dX11_is_36 rfl rfl (by decide) ?_
    refine j_iconst 38 C dX11_is_37 rfl (v := nI 0) (by decide) ?_
    refine j_istore_n 39 C dX11_is_38 rfl rfl (by decide) ?_
    exact j_weak _ (by exact ⟨rfl, rfl, rfl, rfl, trivial⟩) (lp39 _ 0 b rfl (Nat.zero_le _) ⟨fun z => ⟨hb.1 z, fun j hj => absurd hj (Nat.not_lt_zero j)⟩, hb.2⟩)
  refine j_aload_n 1 C dX11_is_0 rfl rfl ?_
  refine j_mI 4 C dX11_is_1 rfl cw11_142 rfl c_good rfl (by decide) rfl (Nat.le_of_ble_eq_true rfl) ?_
  refine j_if_eqB 35 7 C dX11_is_4 (by decide) rfl (fun c4 => ?_) (fun c4 => ?_)
  · refine j_iconst 36 C dX11_is_35 rfl (v := bI (false = true)) (by decide) ?_
    exact j_weak _ (by exact ⟨rfl, rfl, trivial⟩) (go false ⟨(fun z => by cases z), fun _ z => c4 z.1⟩)
  · refine j_aload_n 8 C dX11_is_7 rfl rfl ?_
    refine rg_token 11 C dX11_is_8 rfl ?_
    refine j_iconst 12 C dX11_is_11 rfl (v := nI 1) (by decide) ?_
    refine j_icmp_ne 35 15 C dX11_is_12 (by decide) rfl (fun c12 => ?_) (fun c12 => ?_)
    · refine j_iconst 36 C dX11_is_35 rfl (v := bI (false = true)) (by decide) ?_
      exact j_weak _ (by exact ⟨rfl, rfl, trivial⟩) (go false ⟨(fun z => by cases z), fun _ z => c12 z.2.1⟩)
    · refine j_aload_n 16 C dX11_is_15 rfl rfl ?_
      refine rg_at 19 C dX11_is_16 rfl ?_
      rw [h2]
      refine j_aload_n 20 C dX11_is_19 rfl rfl ?_
      refine rg_from 23 C dX11_is_20 rfl ?_
      rw [h3]
      refine j_isubN 24 C dX11_is_23 rfl h4 ?_
      refine j_aload_n 25 C dX11_is_24 rfl rfl ?_
      refine j_callK 28 C dX11_is_25 rfl cw11_146 rfl hi (c_length i hi) rfl (by decide) ⟨Nat.le_refl _, Nat.le_refl _⟩ rfl (Nat.le_of_ble_eq_true rfl) ?_
      refine j_bool_icmp_neN 36 C dX11_is_28 rfl dX11_is_31 dX11_is_32 dX11_is_35 rfl (by omega) (by omega) ?_
      rw [bI_iff (show (a - f = sL i) ↔ (decide (a - f = sL i) = true) from decide_eq_true_iff.symm)]
      exact j_weak _ (by exact ⟨rfl, rfl, trivial⟩) (go _ ⟨fun z => ⟨c4, c12, of_decide_eq_true z⟩, fun z y => of_decide_eq_false z (hiw.mp y).1.2.2⟩)
end S21
