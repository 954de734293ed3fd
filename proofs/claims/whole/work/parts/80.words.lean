/-- the class's words by the reference's strings -/
def wm : List Nat := [9, 10, 11, 12, 3, 4, 5, 18, 19, 20, 21, 14, 15, 8, 16, 17, 1, 2, 6, 7, 13]
def wI (w : Nat) : Nat := wm.getD w 0
def wo : Nat → Nat
  | 0 => 0
  | w + 1 => wo w + sL (wI w) + 1
theorem w_tab : ∀ w, w < 21 → wo w + sL (wI w) < 104 ∧ sB 0 (wo w + sL (wI w)) = nI 32 ∧ ∀ j, j < sL (wI w) → sB 0 (wo w + j) = sB (wI w) j ∧ ¬ sB 0 (wo w + j) = nI 32 := by decide +kernel
theorem w_end : wo 21 = 104 := by decide +kernel
section WS
variable {tb : Nat → Int32} {st en : Nat}
/-- what was met so far is like the word's beginning -/
def mtc (tb : Nat → Int32) (st en x j : Nat) : Prop := ∀ t, t < j → st + t < en ∧ tb (st + t) = sB x t
theorem wsc_go {w : Nat} (hw : w < 21) (m : Nat) : ∀ j, j ≤ sL (wI w) → ∃ s, (s = 1 ↔ mtc tb st en (wI w) j) ∧ s ≤ 1 ∧ wsc tb st en (m + (sL (wI w) - j)) (wo w + j) w (st + j) s = wsc tb st en (m + sL (wI w)) (wo w) w st 1
  | 0, _ => ⟨1, ⟨fun _ t ht => absurd ht (Nat.not_lt_zero _), fun _ => rfl⟩, Nat.le_refl _, rfl⟩
  | j + 1, hj => by
    obtain ⟨s, h1, h2, h3⟩ := wsc_go hw m j (by omega)
    obtain ⟨e1, e2⟩ := (w_tab w hw).2.2 j (by omega)
    rw [show m + (sL (wI w) - j) = (m + (sL (wI w) - (j + 1))) + 1 by omega, wsc, if_neg e2, e1] at h3
    by_cases c : s = 1 ∧ st + j < en ∧ tb (st + j) = sB (wI w) j
    · rw [if_pos c] at h3
      refine ⟨1, ⟨fun _ t ht => ?_, fun _ => rfl⟩, Nat.le_refl _, h3⟩
      by_cases e : t = j
      · subst e; exact c.2
      · exact h1.mp c.1 t (by omega)
    · rw [if_neg c] at h3
      refine ⟨0, ⟨fun z => (by cases z), fun z => absurd ⟨h1.mpr (fun t ht => z t (by omega)), z j (by omega)⟩ c⟩, by omega, h3⟩
/-- the word w stands from st to en -/
def isK (tb : Nat → Int32) (st en w : Nat) : Prop := st + sL (wI w) = en ∧ ∀ t, t < sL (wI w) → tb (st + t) = sB (wI w) t
theorem wsc_word {w : Nat} (hw : w < 21) (m : Nat) : (isK tb st en w → wsc tb st en (m + 1 + sL (wI w)) (wo w) w st 1 = nI w) ∧ (¬ isK tb st en w → wsc tb st en (m + 1 + sL (wI w)) (wo w) w st 1 = wsc tb st en m (wo (w + 1)) (w + 1) st 1) := by
  obtain ⟨s, h1, h2, h3⟩ := wsc_go (tb := tb) (st := st) (en := en) hw (m + 1) (sL (wI w)) (Nat.le_refl _)
  rw [Nat.sub_self, Nat.add_zero, wsc, if_pos (w_tab w hw).2.1] at h3
  rw [← h3]
  constructor
  · intro k
    rw [if_pos ⟨h1.mpr (fun t ht => ⟨by have := k.1; omega, k.2 t ht⟩), k.1⟩]
  · intro k
    rw [if_neg (fun q => k ⟨q.2, fun t ht => (h1.mp q.1 t ht).2⟩)]
    rfl
/-- wordAt finds the word, or none -/
theorem wsc_all : ∀ k w, w + k = 21 → (∃ v, w ≤ v ∧ v < 21 ∧ isK tb st en v ∧ wsc tb st en (104 - wo w) (wo w) w st 1 = nI v) ∨ ((∀ v, w ≤ v → v < 21 → ¬ isK tb st en v) ∧ wsc tb st en (104 - wo w) (wo w) w st 1 = nI 23)
  | 0, w, h => by
    have e : w = 21 := by omega
    subst e
    refine Or.inr ⟨fun v h1 h2 => by omega, ?_⟩
    rw [w_end, Nat.sub_self, wsc]
  | k + 1, w, h => by
    have hw : w < 21 := by omega
    have hb := (w_tab w hw).1
    have hn : wo (w + 1) = wo w + sL (wI w) + 1 := rfl
    obtain ⟨g1, g2⟩ := wsc_word (tb := tb) (st := st) (en := en) hw (104 - wo (w + 1))
    rw [show 104 - wo (w + 1) + 1 + sL (wI w) = 104 - wo w by omega] at g1 g2
    by_cases c : isK tb st en w
    · exact Or.inl ⟨w, Nat.le_refl _, hw, c, g1 c⟩
    · rw [g2 c]
      rcases wsc_all k (w + 1) (by omega) with ⟨v, h1, h2, h3, h4⟩ | ⟨h1, h2⟩
      · exact Or.inl ⟨v, by omega, h2, h3, h4⟩
      · refine Or.inr ⟨fun v h3 h4 => ?_, h2⟩
        by_cases e : v = w
        · subst e; exact c
        · exact h1 v (by omega) h4
theorem wsc_top : (∃ v, v < 21 ∧ isK tb st en v ∧ wsc tb st en 104 0 0 st 1 = nI v) ∨ ((∀ v, v < 21 → ¬ isK tb st en v) ∧ wsc tb st en 104 0 0 st 1 = nI 23) := by
  rcases wsc_all (tb := tb) (st := st) (en := en) 21 0 rfl with ⟨v, -, h2, h3, h4⟩ | ⟨h1, h2⟩
  · exact Or.inl ⟨v, h2, h3, h4⟩
  · exact Or.inr ⟨fun v hv => h1 v (Nat.zero_le _) hv, h2⟩
end WS
