/-- which word stands from st to en: the words are gone through letter by letter -/
noncomputable def wsc (tb : Nat → Int32) (st en : Nat) : Nat → Nat → Nat → Nat → Nat → Int32
  | 0, _, _, _, _ => nI 23
  | m + 1, i, w, a, s => if sB 0 i = nI 32 then (if s = 1 ∧ a = en then nI w else wsc tb st en m (i + 1) (w + 1) st 1) else wsc tb st en m (i + 1) w (a + 1) (if s = 1 ∧ a < en ∧ tb a = sB 0 i then 1 else 0)
theorem sL_0 : sL 0 = 104 := by decide +kernel
section SP2
variable {l : Launch} {G : GG} {tp st en : Nat} {tb : Nat → Int32}
theorem K9_wordAt (hst : st ≤ 900) (hen : en ≤ 900) : Con l G yX9_wordAt cX9_wordAt 8 (some .int) 5 0 0 [.ref tp, .int (nI st), .int (nI en)] [(tp, .inl (G.2.1 1, 900, .inl tb))] (pI (wsc tb st en 104 0 0 st 1) [(tp, .inl (G.2.1 1, 900, .inl tb))]) := by
  refine Con.mk (own := RX9) (by decide) rfl (Nat.le_of_ble_eq_true rfl) (fun X C => ?_)
  have lp11 : ∀ (m : Nat) (i w a s : Nat), 104 - i = m → i ≤ 104 → w ≤ i → a ≤ st + i → s ≤ 1 → wsc tb st en m i w a s = (wsc tb st en 104 0 0 st 1) → J X 8 0 0 [(tp, .inl (G.2.1 1, 900, .inl tb))] 11 [(0, .ref tp), (1, .int (nI st)), (2, .int (nI en)), (3, .int (nI w)), (4, .int (nI a)), (5, .int (nI s)), (6, .int (nI i))] [] := by
    intro m
    induction m using Nat.strongRecOn with
    | ind m ilp11 =>
    intro i w a s hm hi hw ha hs hE
    refine j_iload 13 C dX9_wordAt_11 rfl rfl ?_
    refine j_ldcS 15 0 C dX9_wordAt_13 rfl rfl ?_
    refine j_callK 18 C dX9_wordAt_15 rfl cw9_49 rfl (i := 0) (by decide) (c_length 0 (by decide)) rfl (by decide) ⟨Nat.le_refl _, Nat.le_refl _⟩ rfl (Nat.le_of_ble_eq_true rfl) ?_
    rw [sL_0]
    refine j_icmp_geN 98 21 C dX9_wordAt_18 (by decide) rfl (by omega) (by omega) (fun c18 => ?_) (fun c18 => ?_)
    · refine j_bipush 100 C dX9_wordAt_98 rfl (v := nI 23) (by decide) ?_
      exact j_iret C dX9_wordAt_100 ⟨by rw [← hE, show m = 0 by omega, wsc], rfl⟩
    · obtain ⟨m5, rfl⟩ : ∃ m5, m = m5 + 1 := ⟨m - 1, by omega⟩
      rw [wsc] at hE
      refine j_ldcS 23 0 C dX9_wordAt_21 rfl rfl ?_
      refine j_iload 25 C dX9_wordAt_23 rfl rfl ?_
      refine j_callK 28 C dX9_wordAt_25 rfl cw9_55 rfl (i := 0) (by decide) (c_charAt 0 i (by decide) (by rw [sL_0]; omega)) rfl (by decide) ⟨Nat.le_refl _, Nat.le_refl _⟩ rfl (Nat.le_of_ble_eq_true rfl) ?_
      refine j_istore 30 C dX9_wordAt_28 rfl rfl (by decide) ?_
      refine j_iload 32 C dX9_wordAt_30 rfl rfl ?_
      refine j_bipush 34 C dX9_wordAt_32 rfl (v := nI 32) (by decide) ?_
      refine j_icmp_eq 70 37 C dX9_wordAt_34 (by decide) rfl (fun c34 => ?_) (fun c34 => ?_)
      · refine j_iload 72 C dX9_wordAt_70 rfl rfl ?_
        refine j_if_eqN 83 75 C dX9_wordAt_72 (by decide) rfl (by omega) (fun c72 => ?_) (fun c72 => ?_)
        · refine j_iincN 86 (z := 1) C dX9_wordAt_83 rfl rfl rfl (by decide) ?_
          refine j_iload_n 87 C dX9_wordAt_86 rfl rfl ?_
          refine j_istore 89 C dX9_wordAt_87 rfl rfl (by decide) ?_
          refine j_iconst 90 C dX9_wordAt_89 rfl (v := nI 1) (by decide) ?_
          refine j_istore 92 C dX9_wordAt_90 rfl rfl (by decide) ?_
          refine j_iincN 95 (z := 1) C dX9_wordAt_92 rfl rfl rfl (by decide) ?_
          refine j_goto 11 C dX9_wordAt_95 (by decide) ?_
          exact j_weak _ (by exact ⟨rfl, rfl, rfl, rfl, rfl, rfl, rfl, trivial⟩) (ilp11 m5 (by omega) (i + 1) (w + 1) st 1 (show 104 - (i + 1) = m5 by omega) (by omega) (by omega) (by omega) (by omega) (by rw [if_pos c34, if_neg (fun q => by omega)] at hE; exact hE))
        · refine j_iload 77 C dX9_wordAt_75 rfl rfl ?_
          refine j_iload_n 78 C dX9_wordAt_77 rfl rfl ?_
          refine j_icmp_neN 83 81 C dX9_wordAt_78 (by decide) rfl (by omega) (by omega) (fun c78 => ?_) (fun c78 => ?_)
          · refine j_iincN 86 (z := 1) C dX9_wordAt_83 rfl rfl rfl (by decide) ?_
            refine j_iload_n 87 C dX9_wordAt_86 rfl rfl ?_
            refine j_istore 89 C dX9_wordAt_87 rfl rfl (by decide) ?_
            refine j_iconst 90 C dX9_wordAt_89 rfl (v := nI 1) (by decide) ?_
            refine j_istore 92 C dX9_wordAt_90 rfl rfl (by decide) ?_
            refine j_iincN 95 (z := 1) C dX9_wordAt_92 rfl rfl rfl (by decide) ?_
            refine j_goto 11 C dX9_wordAt_95 (by decide) ?_
            exact j_weak _ (by exact ⟨rfl, rfl, rfl, rfl, rfl, rfl, rfl, trivial⟩) (ilp11 m5 (by omega) (i + 1) (w + 1) st 1 (show 104 - (i + 1) = m5 by omega) (by omega) (by omega) (by omega) (by omega) (by rw [if_pos c34, if_neg (fun q => c78 q.2)] at hE; exact hE))
          · refine j_iload_n 82 C dX9_wordAt_81 rfl rfl ?_
            exact j_iret C dX9_wordAt_82 ⟨by rw [← hE, if_pos c34, if_pos ⟨by omega, c78⟩], rfl⟩
      · refine j_iload 39 C dX9_wordAt_37 rfl rfl ?_
        refine j_if_eqN 61 42 C dX9_wordAt_39 (by decide) rfl (by omega) (fun c39 => ?_) (fun c39 => ?_)
        · refine j_iconst 62 C dX9_wordAt_61 rfl (v := nI 0) (by decide) ?_
          refine j_istore 64 C dX9_wordAt_62 rfl rfl (by decide) ?_
          refine j_iincN 67 (z := 1) C dX9_wordAt_64 rfl rfl rfl (by decide) ?_
          refine j_goto 92 C dX9_wordAt_67 (by decide) ?_
          refine j_iincN 95 (z := 1) C dX9_wordAt_92 rfl rfl rfl (by decide) ?_
          refine j_goto 11 C dX9_wordAt_95 (by decide) ?_
          exact j_weak _ (by exact ⟨rfl, rfl, rfl, rfl, rfl, rfl, rfl, trivial⟩) (ilp11 m5 (by omega) (i + 1) w (a + 1) 0 (show 104 - (i + 1) = m5 by omega) (by omega) (by omega) (by omega) (by omega) (by rw [if_neg c34, if_neg (fun q => by omega)] at hE; exact hE))
        · refine j_iload 44 C dX9_wordAt_42 rfl rfl ?_
          refine j_iload_n 45 C dX9_wordAt_44 rfl rfl ?_
          refine j_icmp_geN 61 48 C dX9_wordAt_45 (by decide) rfl (by omega) (by omega) (fun c45 => ?_) (fun c45 => ?_)
          · refine j_iconst 62 C dX9_wordAt_61 rfl (v := nI 0) (by decide) ?_
            refine j_istore 64 C dX9_wordAt_62 rfl rfl (by decide) ?_
            refine j_iincN 67 (z := 1) C dX9_wordAt_64 rfl rfl rfl (by decide) ?_
            refine j_goto 92 C dX9_wordAt_67 (by decide) ?_
            refine j_iincN 95 (z := 1) C dX9_wordAt_92 rfl rfl rfl (by decide) ?_
            refine j_goto 11 C dX9_wordAt_95 (by decide) ?_
            exact j_weak _ (by exact ⟨rfl, rfl, rfl, rfl, rfl, rfl, rfl, trivial⟩) (ilp11 m5 (by omega) (i + 1) w (a + 1) 0 (show 104 - (i + 1) = m5 by omega) (by omega) (by omega) (by omega) (by omega) (by rw [if_neg c34, if_neg (fun q => by omega)] at hE; exact hE))
          · refine j_aload_n 49 C dX9_wordAt_48 rfl rfl ?_
            refine j_iload 51 C dX9_wordAt_49 rfl rfl ?_
            refine j_bald 52 C dX9_wordAt_51 rfl 0 rfl _ (by omega) (by decide) rfl ?_
            refine j_iload 54 C dX9_wordAt_52 rfl rfl ?_
            refine j_icmp_ne 61 57 C dX9_wordAt_54 (by decide) rfl (fun c54 => ?_) (fun c54 => ?_)
            · refine j_iconst 62 C dX9_wordAt_61 rfl (v := nI 0) (by decide) ?_
              refine j_istore 64 C dX9_wordAt_62 rfl rfl (by decide) ?_
              refine j_iincN 67 (z := 1) C dX9_wordAt_64 rfl rfl rfl (by decide) ?_
              refine j_goto 92 C dX9_wordAt_67 (by decide) ?_
              refine j_iincN 95 (z := 1) C dX9_wordAt_92 rfl rfl rfl (by decide) ?_
              refine j_goto 11 C dX9_wordAt_95 (by decide) ?_
              exact j_weak _ (by exact ⟨rfl, rfl, rfl, rfl, rfl, rfl, rfl, trivial⟩) (ilp11 m5 (by omega) (i + 1) w (a + 1) 0 (show 104 - (i + 1) = m5 by omega) (by omega) (by omega) (by omega) (by omega) (by rw [if_neg c34, if_neg (fun q => c54 q.2.2)] at hE; exact hE))
            · refine j_iconst 58 C dX9_wordAt_57 rfl (v := nI 1) (by decide) ?_
              refine j_goto 62 C dX9_wordAt_58 (by decide) ?_
              refine j_istore 64 C dX9_wordAt_62 rfl rfl (by decide) ?_
              refine j_iincN 67 (z := 1) C dX9_wordAt_64 rfl rfl rfl (by decide) ?_
              refine j_goto 92 C dX9_wordAt_67 (by decide) ?_
              refine j_iincN 95 (z := 1) C dX9_wordAt_92 rfl rfl rfl (by decide) ?_
              refine j_goto 11 C dX9_wordAt_95 (by decide) ?_
              exact j_weak _ (by exact ⟨rfl, rfl, rfl, rfl, rfl, rfl, rfl, trivial⟩) (ilp11 m5 (by omega) (i + 1) w (a + 1) 1 (show 104 - (i + 1) = m5 by omega) (by omega) (by omega) (by omega) (by omega) (by rw [if_neg c34, if_pos ⟨by omega, by omega, c54⟩] at hE; exact hE))
  refine j_iconst 1 C dX9_wordAt_0 rfl (v := nI 0) (by decide) ?_
  refine j_istore_n 2 C dX9_wordAt_1 rfl rfl (by decide) ?_
  refine j_iload_n 3 C dX9_wordAt_2 rfl rfl ?_
  refine j_istore 5 C dX9_wordAt_3 rfl rfl (by decide) ?_
  refine j_iconst 6 C dX9_wordAt_5 rfl (v := nI 1) (by decide) ?_
  refine j_istore 8 C dX9_wordAt_6 rfl rfl (by decide) ?_
  refine j_iconst 9 C dX9_wordAt_8 rfl (v := nI 0) (by decide) ?_
  refine j_istore 11 C dX9_wordAt_9 rfl rfl (by decide) ?_
  exact j_weak _ (by exact ⟨rfl, rfl, rfl, rfl, rfl, rfl, rfl, trivial⟩) (lp11 _ 0 0 st 1 rfl (by omega) (by omega) (by omega) (by omega) rfl)
end SP2
