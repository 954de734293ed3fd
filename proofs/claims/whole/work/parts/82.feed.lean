/-- a byte of a number -/
def byt (x : Int32) (q : Nat) : Int32 := vp_nar .byte (x >>> (nI (24 - 8 * q) &&& 31)).toInt8.toInt32
/-- the TAPE with k bytes more than t -/
def FD (S0 S : MS) (t k : Nat) (b : Nat → Int32) : Prop := (S.1 1 = nI (t + k) ∧ S.1 2 = S0.1 2 ∧ S.1 3 = S0.1 3) ∧ (∀ j, j < t → S.2.1 0 j = S0.2.1 0 j) ∧ ∀ q, q < k → S.2.1 0 (t + q) = b q
theorem FD_s {S0 S : MS} {t k : Nat} {b : Nat → Int32} {x : Int32} (h : FD S0 S t k b) (hx : x = b k) : FD S0 (sS (aS S 0 (t + k) x) 1 (nI (t + k + 1))) t (k + 1) b := by
  obtain ⟨h1, h2, h3⟩ := h
  refine ⟨⟨rfl, h1.2⟩, fun j hj => ?_, fun q hq => ?_⟩
  · show (aS S 0 (t + k) x).2.1 0 j = _
    rw [aS_at, pk_un (by omega)]; exact h2 j hj
  · show (aS S 0 (t + k) x).2.1 0 (t + q) = _
    rw [aS_at]
    by_cases e : q = k
    · subst e; rw [pk_us, hx]
    · rw [pk_un (by omega)]; exact h3 q (by omega)
theorem FD_app {S0 S S2 : MS} {t k m : Nat} {b c : Nat → Int32} (h : FD S0 S t k b) (h2 : FD S S2 (t + k) m c) (hc : ∀ q, q < m → c q = b (k + q)) : FD S0 S2 t (k + m) b := by
  refine ⟨⟨by rw [← Nat.add_assoc]; exact h2.1.1, h2.1.2.1.trans h.1.2.1, h2.1.2.2.trans h.1.2.2⟩, fun j hj => (h2.2.1 j (by omega)).trans (h.2.1 j hj), fun q hq => ?_⟩
  by_cases e : q < k
  · exact (h2.2.1 (t + q) (by omega)).trans (h.2.2 q e)
  · have := h2.2.2 (q - k) (by omega)
    rw [show t + k + (q - k) = t + q by omega, hc (q - k) (by omega), show k + (q - k) = q by omega] at this
    exact this
section SN19
variable {l : Launch} {G : GG} {x : Int32} {t : Nat} {zn : Nat → Nat} {Sn : MS} {so : Nat} {fi fs : Nat → Option Nat} {pa dk : Option Nat}
theorem K10_feedFour (h1 : Sn.1 1 = nI t) (ht : t + 4 ≤ 900) : Con l G yX10_feedFour cX10_feedFour 3 none 1 0 0 [.ref (zn 50), .int x] (nBk zn so G.2.1 Sn fi fs pa dk) (qV (fun s : MS => (nBk zn so G.2.1 s fi fs pa dk)) (fun S' => FD Sn S' t 4 (byt x))) := by
  refine Con.mk (own := RX10) (by decide) rfl (Nat.le_of_ble_eq_true rfl) (fun X C => ?_)
  have lp3 : ∀ (m : Nat) (k : Nat) (s : MS), 4 - k = m → k ≤ 4 → FD Sn s t k (byt x) → J X 3 0 0 (nBk zn so G.2.1 s fi fs pa dk) 3 [(0, .ref (zn 50)), (1, .int x), (2, .int (nI (32 - 8 * k) - nI 8))] [] := by
    intro m
    induction m using Nat.strongRecOn with
    | ind m ilp3 =>
    intro k s hm hk hS
    refine j_iload_n 4 C dX10_feedFour_3 rfl rfl ?_
    refine j_if_lt 46 7 C dX10_feedFour_4 (by decide) rfl (fun c4 => ?_) (fun c4 => ?_)
    · exact j_vret C dX10_feedFour_46 (by refine ⟨_, ?_, rfl, rfl⟩; have hk4 : k = 4 := Decidable.byContradiction fun q => absurd c4 (by rw [pk_sub (by omega)]; exact nI_pos (by omega)); rw [hk4] at hS; exact hS)
    · have hk4 : k < 4 := Decidable.byContradiction fun q => c4 (by rw [show k = 4 by omega]; decide)
      refine j_weak [(0, .ref (zn 50)), (1, .int x), (2, .int (nI (24 - 8 * k)))] (by rw [show nI (24 - 8 * k) = nI (32 - 8 * k) - nI 8 from by rw [pk_sub (by omega)]; congr 1; omega]; exact ⟨rfl, rfl, rfl, trivial⟩) ?_
      refine j_aload_n 8 C dX10_feedFour_7 rfl rfl ?_
      refine Log_n1 11 C dX10_feedFour_8 rfl fl10_34 ?_
      refine j_top (x' := nI (t + k)) hS.1.1 ?_
      refine j_sipush 14 C dX10_feedFour_11 rfl (v := nI 900) (by decide) ?_
      refine j_icmp_geN 40 17 C dX10_feedFour_14 (by decide) rfl (by omega) (by omega) (fun c14 => absurd c14 (by omega)) (fun c14 => ?_)
      refine j_aload_n 18 C dX10_feedFour_17 rfl rfl ?_
      refine Log_n0 21 C dX10_feedFour_18 rfl fl10_9 ?_
      refine j_aload_n 22 C dX10_feedFour_21 rfl rfl ?_
      refine Log_n1 25 C dX10_feedFour_22 rfl fl10_34 ?_
      refine j_top (x' := nI (t + k)) hS.1.1 ?_
      refine j_iload_n 26 C dX10_feedFour_25 rfl rfl ?_
      refine j_iload_n 27 C dX10_feedFour_26 rfl rfl ?_
      refine j_ishr 28 C dX10_feedFour_27 rfl ?_
      refine j_i2b 29 C dX10_feedFour_28 rfl ?_
      refine Los_n0 30 C dX10_feedFour_29 rfl _ (by omega) rfl ?_
      refine j_aload_n 31 C dX10_feedFour_30 rfl rfl ?_
      refine j_dup 32 C dX10_feedFour_31 rfl rfl ?_
      refine Log_n1 35 C dX10_feedFour_32 rfl fl10_34 ?_
      refine j_top (x' := nI (t + k)) hS.1.1 ?_
      refine j_iconst 36 C dX10_feedFour_35 rfl (v := nI 1) (by decide) ?_
      refine j_iaddN 37 C dX10_feedFour_36 rfl ?_
      refine Lop_n1 40 C dX10_feedFour_37 rfl fl10_34 ?_
      refine j_iinc 43 C dX10_feedFour_40 rfl rfl (show nI (24 - 8 * k) + (-8) = nI (32 - 8 * (k + 1)) - nI 8 from by rw [show 32 - 8 * (k + 1) = 24 - 8 * k by omega, Int32.sub_eq_add_neg]; rfl) rfl (by decide) ?_
      refine j_goto 3 C dX10_feedFour_43 (by decide) ?_
      exact j_weak _ (by exact ⟨rfl, rfl, rfl, trivial⟩) (ilp3 _ (by omega) (k + 1) _ rfl (by omega) (FD_s hS rfl))
  refine j_bipush 2 C dX10_feedFour_0 rfl (v := nI 24) (by decide) ?_
  refine j_istore_n 3 C dX10_feedFour_2 rfl rfl (by decide) ?_
  exact j_weak _ (by exact ⟨rfl, rfl, rfl, trivial⟩) (lp3 _ 0 _ rfl (by omega) ⟨⟨h1, rfl, rfl⟩, fun _ _ => rfl, fun q hq => absurd hq (Nat.not_lt_zero _)⟩)
end SN19
section SN19b
variable {l : Launch} {G : GG} {a b c d e : Int32} {t : Nat} {zn zs zm zh zt zr zb : Nat → Nat} {Sn Ss Sm Sh St Sr Sb : MS} {fi fs : Nat → Option Nat} {pa dk : Option Nat} {R : va_W}
theorem feed5 {S0 S1 S2 S3 S4 S5 : MS} {t : Nat} {a b c d e : Int32} (h1 : FD S0 S1 t 4 (byt a)) (h2 : FD S1 S2 (t + 4) 4 (byt b)) (h3 : FD S2 S3 (t + 8) 4 (byt c)) (h4 : FD S3 S4 (t + 12) 4 (byt d)) (h5 : FD S4 S5 (t + 16) 4 (byt e)) : FD S0 S5 t 20 (fun q => f_fb (five5 (fun _ => nI 0) a b c d e) q) := by
  have k1 : FD S0 S1 t 4 (fun q => f_fb (five5 (fun _ => nI 0) a b c d e) q) := ⟨h1.1, h1.2.1, fun q hq => (h1.2.2 q hq).trans (by rcases (show q = 0 ∨ q = 1 ∨ q = 2 ∨ q = 3 by omega) with rfl | rfl | rfl | rfl <;> rfl)⟩
  have k2 := FD_app k1 h2 (fun q hq => by rcases (show q = 0 ∨ q = 1 ∨ q = 2 ∨ q = 3 by omega) with rfl | rfl | rfl | rfl <;> rfl)
  have k3 := FD_app k2 h3 (fun q hq => by rcases (show q = 0 ∨ q = 1 ∨ q = 2 ∨ q = 3 by omega) with rfl | rfl | rfl | rfl <;> rfl)
  have k4 := FD_app k3 h4 (fun q hq => by rcases (show q = 0 ∨ q = 1 ∨ q = 2 ∨ q = 3 by omega) with rfl | rfl | rfl | rfl <;> rfl)
  exact FD_app k4 h5 (fun q hq => by rcases (show q = 0 ∨ q = 1 ∨ q = 2 ∨ q = 3 by omega) with rfl | rfl | rfl | rfl <;> rfl)
theorem K10_feed (h1 : Sn.1 1 = nI t) (ht : t ≤ 900) : Con l G yX10_feed cX10_feed 6 (some .int) 2 0 0 [.ref (zn 50), .int a, .int b, .int c, .int d, .int e] (nBk zn (zs 50) G.2.1 Sn fi fs pa dk ++ (sBk zs (zm 50) (zb 50) G.2.1 Ss ++ (mBk zm (zt 50) (zr 50) (zh 50) G.2.1 Sm ++ (hBk zh G.2.1 Sh ++ (tBk zt G.2.1 St ++ (rBk zr G.2.1 Sr ++ (bBk zb G.2.1 Sb ++ (R)))))))) (qI (fun s : MS => (nBk zn (zs 50) G.2.1 s fi fs pa dk ++ (sBk zs (zm 50) (zb 50) G.2.1 Ss ++ (mBk zm (zt 50) (zr 50) (zh 50) G.2.1 Sm ++ (hBk zh G.2.1 Sh ++ (tBk zt G.2.1 St ++ (rBk zr G.2.1 Sr ++ (bBk zb G.2.1 Sb ++ (R))))))))) (fun v s => (t + 20 ≤ 900 → v = nI (t + 20) ∧ FD Sn s t 20 (fun q => f_fb (five5 (fun _ => nI 0) a b c d e) q)) ∧ (¬ t + 20 ≤ 900 → v = -1 ∧ s = Sn))) := by
  refine Con.mk (own := RX10) (by decide) rfl (Nat.le_of_ble_eq_true rfl) (fun X C => ?_)
  refine j_aload_n 1 C dX10_feed_0 rfl rfl ?_
  refine Lng_n1 4 C dX10_feed_1 rfl fl10_34 ?_
  refine j_top (x' := nI t) h1 ?_
  refine j_bipush 6 C dX10_feed_4 rfl (v := nI 20) (by decide) ?_
  refine j_iaddN 7 C dX10_feed_6 rfl ?_
  refine j_sipush 10 C dX10_feed_7 rfl (v := nI 900) (by decide) ?_
  refine j_icmp_leN 15 13 C dX10_feed_10 (by decide) rfl (by omega) (by omega) (fun c10 => ?_) (fun c10 => ?_)
  · refine j_aload_n 16 C dX10_feed_15 rfl rfl ?_
    refine j_iload_n 17 C dX10_feed_16 rfl rfl ?_
    refine Lnr_nV 20 C dX10_feed_17 rfl cw10_37 rfl (K10_feedFour (t := t + 0) h1 (by omega)) rfl (by decide) ⟨Nat.le_refl _, Nat.le_refl _⟩ rfl (Nat.le_of_ble_eq_true rfl) (fun s0 hs0 => ?_)
    refine j_aload_n 21 C dX10_feed_20 rfl rfl ?_
    refine j_iload_n 22 C dX10_feed_21 rfl rfl ?_
    refine Lnr_nV 25 C dX10_feed_22 rfl cw10_37 rfl (K10_feedFour (t := t + 4) hs0.1.1 (by omega)) rfl (by decide) ⟨Nat.le_refl _, Nat.le_refl _⟩ rfl (Nat.le_of_ble_eq_true rfl) (fun s1 hs1 => ?_)
    refine j_aload_n 26 C dX10_feed_25 rfl rfl ?_
    refine j_iload_n 27 C dX10_feed_26 rfl rfl ?_
    refine Lnr_nV 30 C dX10_feed_27 rfl cw10_37 rfl (K10_feedFour (t := t + 8) hs1.1.1 (by omega)) rfl (by decide) ⟨Nat.le_refl _, Nat.le_refl _⟩ rfl (Nat.le_of_ble_eq_true rfl) (fun s2 hs2 => ?_)
    refine j_aload_n 31 C dX10_feed_30 rfl rfl ?_
    refine j_iload 33 C dX10_feed_31 rfl rfl ?_
    refine Lnr_nV 36 C dX10_feed_33 rfl cw10_37 rfl (K10_feedFour (t := t + 12) hs2.1.1 (by omega)) rfl (by decide) ⟨Nat.le_refl _, Nat.le_refl _⟩ rfl (Nat.le_of_ble_eq_true rfl) (fun s3 hs3 => ?_)
    refine j_aload_n 37 C dX10_feed_36 rfl rfl ?_
    refine j_iload 39 C dX10_feed_37 rfl rfl ?_
    refine Lnr_nV 42 C dX10_feed_39 rfl cw10_37 rfl (K10_feedFour (t := t + 16) hs3.1.1 (by omega)) rfl (by decide) ⟨Nat.le_refl _, Nat.le_refl _⟩ rfl (Nat.le_of_ble_eq_true rfl) (fun s4 hs4 => ?_)
    refine j_aload_n 43 C dX10_feed_42 rfl rfl ?_
    refine Lng_n1 46 C dX10_feed_43 rfl fl10_34 ?_
    refine j_top (x' := nI (t + 20)) hs4.1.1 ?_
    exact j_iret C dX10_feed_46 (by refine ⟨_, s4, ?_, rfl, rfl⟩; refine ⟨fun _ => ⟨rfl, ?_⟩, fun q => absurd (by omega) q⟩; exact feed5 hs0 hs1 hs2 hs3 hs4)
  · refine j_iconst 14 C dX10_feed_13 rfl (v := (-1)) (by decide) ?_
    exact j_iret C dX10_feed_14 (by refine ⟨_, Sn, ?_, rfl, rfl⟩; exact ⟨fun q => absurd q (by omega), fun _ => ⟨rfl, rfl⟩⟩)
end SN19b
