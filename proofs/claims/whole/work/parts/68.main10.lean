/-- ROWS with one in the making: j THINGS of it stand, as md tells them -/
def RB (S0 S : MS) (nr j : Nat) (md : Nat → Int32) : Prop := (S.1 0 = nI nr ∧ S.1 1 = S0.1 1) ∧ (∀ r, r < nr → S.2.1 2 r = S0.2.1 2 r ∧ S.2.1 3 r = S0.2.1 3 r) ∧ (∀ i, i < 12 * nr → S.2.1 4 i = S0.2.1 4 i) ∧ S.2.1 2 nr = nI j ∧ S.2.1 3 nr = nI 0 ∧ ∀ i, i < j → S.2.1 4 (12 * nr + i) = md i
theorem RB_0 {S : MS} {nr : Nat} (h : S.1 0 = nI nr) (md : Nat → Int32) : RB S (aS (aS S 2 nr (nI 0)) 3 nr (nI 0)) nr 0 md := by
  refine ⟨⟨h, rfl⟩, fun r hr => ⟨?_, ?_⟩, fun i _ => rfl, ?_, ?_, fun i hi => absurd hi (Nat.not_lt_zero _)⟩
  · show (aS S 2 nr (nI 0)).2.1 2 r = _
    rw [aS_at, pk_un (by omega)]
  · rw [aS_at, pk_un (by omega)]; rfl
  · show (aS S 2 nr (nI 0)).2.1 2 nr = _
    rw [aS_at, pk_us]
  · rw [aS_at, pk_us]
theorem RB_add {S0 S : MS} {nr j : Nat} {md : Nat → Int32} {x : Int32} (h : RB S0 S nr j md) (hj : j < 12) (hx : x = md j) : RB S0 (if j < 12 then aS (aS S 4 (12 * nr + j) x) 2 nr (nI (j + 1)) else S) nr (j + 1) md := by
  obtain ⟨h1, h2, h3, h4, h5, h6⟩ := h
  rw [if_pos hj]
  refine ⟨h1, fun r hr => ⟨?_, (h2 r hr).2⟩, fun i hi => ?_, ?_, h5, fun i hi => ?_⟩
  · rw [aS_at, pk_un (by omega)]; exact (h2 r hr).1
  · show (aS S 4 (12 * nr + j) x).2.1 4 i = _
    rw [aS_at, pk_un (by omega)]; exact h3 i hi
  · rw [aS_at, pk_us]
  · show (aS S 4 (12 * nr + j) x).2.1 4 (12 * nr + i) = _
    rw [aS_at]
    by_cases e : i = j
    · subst e; rw [pk_us, hx]
    · rw [pk_un (by omega)]; exact h6 i (by omega)
/-- ROWS with one more -/
def RN (S0 S : MS) (nr n : Nat) (md : Nat → Int32) : Prop := RB S0 (sS S 0 (nI nr)) nr n md ∧ S.1 0 = nI (nr + 1)
theorem RB_close {S0 S : MS} {nr n : Nat} {md : Nat → Int32} (h : RB S0 S nr n md) : RN S0 (sS S 0 (nI (nr + 1))) nr n md := ⟨⟨⟨rfl, h.1.2⟩, h.2⟩, rfl⟩
section SN10
variable {l : Launch} {G : GG} {wd : Nat → Int32} {x y : Int32} {zn zs zm zh zt zr zb : Nat → Nat} {Sn Ss Sm Sh St Sr Sb : MS} {fi fs : Nat → Option Nat} {pa dk : Option Nat} {R : va_W}
theorem dec_sub {n j : Nat} (h : j < n) : nI (n - 1 - j) + (-1) = nI (n - (j + 1)) - nI 1 := by
  rw [show n - (j + 1) = n - 1 - j by omega, Int32.sub_eq_add_neg]; rfl
theorem K10_backward (hR : RR Sr wd) (hW : WF wd) : Con l G yX10_backward cX10_backward 4 (some .int) 3 0 0 [.ref (zn 50), .int x] (nBk zn (zs 50) G.2.1 Sn fi fs pa dk ++ (sBk zs (zm 50) (zb 50) G.2.1 Ss ++ (mBk zm (zt 50) (zr 50) (zh 50) G.2.1 Sm ++ (hBk zh G.2.1 Sh ++ (tBk zt G.2.1 St ++ (rBk zr G.2.1 Sr ++ (bBk zb G.2.1 Sb ++ (R)))))))) (qI (fun s : MS => (nBk zn (zs 50) G.2.1 Sn fi fs pa dk ++ (sBk zs (zm 50) (zb 50) G.2.1 Ss ++ (mBk zm (zt 50) (zr 50) (zh 50) G.2.1 Sm ++ (hBk zh G.2.1 Sh ++ (tBk zt G.2.1 St ++ (rBk zr G.2.1 s ++ (bBk zb G.2.1 Sb ++ (R))))))))) (fun v s => (isI x (nrw wd) → ¬ nrw wd = 12 → v = nI (nrw wd) ∧ RN Sr s (nrw wd) (len wd (tn x)) (fun i => wd (34 + 14 * tn x + 1 + (len wd (tn x) - 1 - i)))) ∧ (isI x (nrw wd) → nrw wd = 12 → v = -3 ∧ s = Sr) ∧ (¬ (isI x (nrw wd)) → v = -2 ∧ s = Sr))) := by
  refine Con.mk (own := RX10) (by decide) rfl (Nat.le_of_ble_eq_true rfl) (fun X C => ?_)
  refine j_aload_n 1 C dX10_backward_0 rfl rfl ?_
  refine Lng_n4 4 C dX10_backward_1 rfl fl10_20 ?_
  refine Lng_s0 7 C dX10_backward_4 rfl fl10_61 ?_
  refine Lng_m1 10 C dX10_backward_7 rfl fl10_78 ?_
  refine j_astore_n 11 C dX10_backward_10 rfl rfl (by decide) ?_
  refine j_aload_n 12 C dX10_backward_11 rfl rfl ?_
  refine j_iload_n 13 C dX10_backward_12 rfl rfl ?_
  refine Lnx_rI 16 C dX10_backward_13 rfl cw10_107 rfl (K5_has (hR.1.trans hW.2.2.1.1) hW.2.2.1.2) rfl (by decide) ⟨Nat.le_refl _, Nat.le_refl _⟩ rfl (Nat.le_of_ble_eq_true rfl) ?_
  refine j_if_neB 22 19 C dX10_backward_16 (by decide) rfl (fun c16 => ?_) (fun c16 => ?_)
  · obtain ⟨r, hrw, rfl⟩ := isI_of c16
    obtain ⟨hl2, hl12, hr12, -⟩ := WF_len hW hrw
    refine j_aload_n 23 C dX10_backward_22 rfl rfl ?_
    refine Lnx_rI 26 C dX10_backward_23 rfl cw10_264 rfl (K5_isFull (hR.1.trans hW.2.2.1.1) hW.2.2.1.2) rfl (by decide) ⟨Nat.le_refl _, Nat.le_refl _⟩ rfl (Nat.le_of_ble_eq_true rfl) ?_
    refine j_if_eqB 32 29 C dX10_backward_26 (by decide) rfl (fun c26 => ?_) (fun c26 => ?_)
    · have hnf : ¬ nrw wd = 12 := by omega
      have hn12 := hW.2.2.1.2
      have lp45 : ∀ (m : Nat) (j : Nat) (s : MS), len wd r - j = m → j ≤ len wd r → RB Sr s (nrw wd) j (fun i => wd (34 + 14 * r + 1 + (len wd r - 1 - i))) → J X 4 0 0 (nBk zn (zs 50) G.2.1 Sn fi fs pa dk ++ (sBk zs (zm 50) (zb 50) G.2.1 Ss ++ (mBk zm (zt 50) (zr 50) (zh 50) G.2.1 Sm ++ (hBk zh G.2.1 Sh ++ (tBk zt G.2.1 St ++ (rBk zr G.2.1 s ++ (bBk zb G.2.1 Sb ++ (R)))))))) 45 [(0, .ref (zn 50)), (1, .int (nI r)), (2, .ref (zr 50)), (3, .int (nI (len wd r - j) - nI 1))] [] := by
        intro m
        induction m using Nat.strongRecOn with
        | ind m ilp45 =>
        intro j s hm hjn hS
        refine j_iload_n 46 C dX10_backward_45 rfl rfl ?_
        refine j_if_lt 66 49 C dX10_backward_46 (by decide) rfl (fun c46 => ?_) (fun c46 => ?_)
        · have hjl : j = len wd r := Decidable.byContradiction fun q => absurd c46 (by rw [pk_sub (by omega)]; exact nI_pos (by omega))
          refine j_aload_n 67 C dX10_backward_66 rfl rfl ?_
          refine Lnx_rI 70 C dX10_backward_67 rfl cw10_273 rfl (K5_close hS.1.1 (by omega)) rfl (by decide) ⟨Nat.le_refl _, Nat.le_refl _⟩ rfl (Nat.le_of_ble_eq_true rfl) ?_
          exact j_iret C dX10_backward_70 (by refine ⟨_, _, ?_, rfl, rfl⟩; refine ⟨fun _ _ => ⟨rfl, by rw [tn_nI (by omega)]; rw [hjl] at hS; exact RB_close hS⟩, fun _ q => absurd q hnf, fun q => absurd c16 q⟩)
        · have hj : j < len wd r := Decidable.byContradiction fun q => c46 (by rw [show len wd r - j = 0 by omega]; decide)
          refine j_weak [(0, .ref (zn 50)), (1, .int (nI r)), (2, .ref (zr 50)), (3, .int (nI (len wd r - 1 - j)))] (by rw [show nI (len wd r - 1 - j) = nI (len wd r - j) - nI 1 from by rw [pk_sub (by omega)]; congr 1; omega]; exact ⟨rfl, rfl, rfl, rfl, trivial⟩) ?_
          refine j_aload_n 50 C dX10_backward_49 rfl rfl ?_
          refine j_aload_n 51 C dX10_backward_50 rfl rfl ?_
          refine j_iload_n 52 C dX10_backward_51 rfl rfl ?_
          refine j_iload_n 53 C dX10_backward_52 rfl rfl ?_
          refine Lnx_rI 56 C dX10_backward_53 rfl cw10_203 rfl (K5_thingAt (Sr := s) (by omega)) rfl (by decide) ⟨Nat.le_refl _, Nat.le_refl _⟩ rfl (Nat.le_of_ble_eq_true rfl) ?_
          refine j_top ((hS.2.2.1 (12 * r + (len wd r - 1 - j)) (by omega)).trans ((hR.2 r hrw).2 _ (by omega))) ?_
          refine Lnx_rI 59 C dX10_backward_56 rfl cw10_270 rfl (K5_add hS.1.1 (by omega) hS.2.2.2.1 (by omega)) rfl (by decide) ⟨Nat.le_refl _, Nat.le_refl _⟩ rfl (Nat.le_of_ble_eq_true rfl) ?_
          refine j_pop 60 C dX10_backward_59 rfl rfl ?_
          refine j_iinc 63 C dX10_backward_60 rfl rfl (dec_sub (by omega)) rfl (by decide) ?_
          refine j_goto 45 C dX10_backward_63 (by decide) ?_
          exact j_weak _ (by exact ⟨rfl, rfl, rfl, rfl, trivial⟩) (ilp45 _ (by omega) (j + 1) _ rfl (by omega) (RB_add hS (by omega) rfl))
      refine j_aload_n 33 C dX10_backward_32 rfl rfl ?_
      refine Lnx_rV 36 C dX10_backward_33 rfl cw10_267 rfl (K5_begin (hR.1.trans hW.2.2.1.1) (by omega)) rfl (by decide) ⟨Nat.le_refl _, Nat.le_refl _⟩ rfl (Nat.le_of_ble_eq_true rfl) ?_
      refine j_aload_n 37 C dX10_backward_36 rfl rfl ?_
      refine Lng_r2 40 C dX10_backward_37 rfl fl10_199 ?_
      refine j_iload_n 41 C dX10_backward_40 rfl rfl ?_
      refine Lna_r2 42 C dX10_backward_41 rfl _ (by omega) rfl ?_
      refine j_top (x' := nI (len wd r)) (by show (aS Sr 2 (nrw wd) (nI 0)).2.1 2 r = _; rw [aS_at, pk_un (by omega)]; exact RR_len hR hW hrw) ?_
      refine j_iconst 43 C dX10_backward_42 rfl (v := nI 1) (by decide) ?_
      refine j_isub 44 C dX10_backward_43 rfl ?_
      refine j_istore_n 45 C dX10_backward_44 rfl rfl (by decide) ?_
      exact j_weak _ (by exact ⟨rfl, rfl, rfl, rfl, trivial⟩) (lp45 _ 0 _ rfl (Nat.zero_le _) (RB_0 (hR.1.trans hW.2.2.1.1) _))
    · have hn12 := hW.2.2.1.2
      refine j_bipush 31 C dX10_backward_29 rfl (v := (-3)) (by decide) ?_
      exact j_iret C dX10_backward_31 (by refine ⟨_, Sr, ?_, rfl, rfl⟩; exact ⟨fun _ q => absurd (by omega) q, fun _ _ => ⟨rfl, rfl⟩, fun q => absurd c16 q⟩)
  · refine j_bipush 21 C dX10_backward_19 rfl (v := (-2)) (by decide) ?_
    exact j_iret C dX10_backward_21 (by refine ⟨_, Sr, ?_, rfl, rfl⟩; exact ⟨fun q => absurd q c16, fun q => absurd q c16, fun _ => ⟨rfl, rfl⟩⟩)
end SN10
