theorem qty_neg : ∀ a, a < 5 → (-1 : Int32) - nI a = -(nI (a + 1)) := by decide
def adP (St : MS) (p lw : Nat) (x y : Int32) : MS := aS (sS (aS (aS St 7 p x) 8 p y) 9 (nI (p + 1))) 6 lw (nI (p + 1))
/-- what stands for a PART in the class and in the reference -/
def PY (kd : Nat) (v y : Int32) : Prop := (kd = 0 ∧ ∃ u, u ≤ 1000 ∧ v = nI u ∧ y = nI u) ∨ (1 ≤ kd ∧ kd ≤ 5 ∧ y = -(nI kd))
/-- what takesPart leaves -/
def PPt (tp : Nat → Int32) (n : Nat) (Sk : MS) (c : Nat) (M : MS) (j : Nat) (Sp St : MS) (J jx : Int32) (lw p : Nat) (x : Int32) (S' T' : MS) : Prop := (x = nI 1 ∧ ∃ v kd y, prM M J p = prS (adM M) J v kd p ∧ ¬ j = c ∧ S' = avS Sp Sk j (c + 1) ∧ T' = adP St p lw jx y ∧ PY kd v y) ∨ (x = nI 0 ∧ BD (prM M J p) S')
theorem pr_qty {M Sp : MS} {k : Nat} (h19 : M.1 19 = 0) (h : PV M Sp k) (hk : 11 ≤ k ∧ k < 16) (J : Int32) (p : Nat) : prM M J p = prS (adM M) J (nI 0) (k - 10) p := by
  have e := pkd_v h
  rw [if_pos (by omega)] at e
  have hne : ¬ pkd M = 0 := by omega
  have e1 : pr1 M = adM M := if_pos ⟨h19, hne⟩
  have e2 : pr2 M = adM M := by unfold pr2; rw [if_neg hne, e1]
  have e3 : prV M = nI 0 := by unfold prV; rw [if_neg hne]
  have h19' : (adM M).1 19 = 0 := (adM_1 (by omega)).trans h19
  unfold prM
  rw [e2, if_pos h19', e3, e]
theorem pr_num {M Sp : MS} {k : Nat} (h : PV M Sp k) (hk : ¬ (11 ≤ k ∧ k < 16)) (J : Int32) (p : Nat) : pkd M = 0 ∧ pr2 M = nmM M 0 1000 ∧ prV M = nmV M 0 1000 := by
  have e := pkd_v h
  rw [if_neg (by omega)] at e
  have e1 : pr1 M = M := if_neg (fun z => z.2 e)
  refine ⟨e, ?_, ?_⟩
  · unfold pr2; rw [if_pos e, e1]
  · unfold prV; rw [if_pos e, e1]
section SQ4
variable {l : Launch} {G : GG} {tp : Nat → Int32} {n c j p lw : Nat} {J x : Int32} {M : MS} {zp zt zr zk : Nat → Nat} {Sp St Sr Sk : MS}
set_option maxHeartbeats 1000000 in
theorem K4_takesPart (hP : PT tp n Sk c M j Sp) (h9 : St.1 9 = nI p) (hp : p < 180) (hlw : lw < 12) : Con l G yX4_takesPart cX4_takesPart 4 (some .boolean) 3 0 0 [.ref (zp 50), .int (nI lw), .int x] (pBk zp (zt 50) (zr 50) (zk 50) G.2.1 Sp ++ (tBk zt G.2.1 St ++ (rBk zr G.2.1 Sr ++ (kBk zk G.2.1 Sk)))) (qI (fun s : MS × MS => (pBk zp (zt 50) (zr 50) (zk 50) G.2.1 s.1 ++ (tBk zt G.2.1 s.2 ++ (rBk zr G.2.1 Sr ++ (kBk zk G.2.1 Sk))))) (fun v s => PPt tp n Sk c M j Sp St J x lw p v s.1 s.2)) := by
  refine Con.mk (own := RX4) (by decide) rfl (Nat.le_of_ble_eq_true rfl) (fun X C => ?_)
  obtain ⟨k, hv, he, -⟩ := PT_v hP
  refine j_aload_n 1 C dX4_takesPart_0 rfl rfl ?_
  refine j_bipush 3 C dX4_takesPart_1 rfl (v := nI 11) (by decide) ?_
  refine j_iconst 4 C dX4_takesPart_3 rfl (v := nI 5) (by decide) ?_
  refine Lzx_AI 7 C dX4_takesPart_4 rfl cw4_112 rfl (K4_amP hv (by omega)) rfl (by decide) ⟨Nat.le_refl _, Nat.le_refl _⟩ rfl (Nat.le_of_ble_eq_true rfl) ?_
  refine j_istore_n 8 C dX4_takesPart_7 rfl rfl (by decide) ?_
  refine j_iload_n 9 C dX4_takesPart_8 rfl rfl ?_
  refine j_iconst 10 C dX4_takesPart_9 rfl (v := (-1)) (by decide) ?_
  refine j_icmp_ne 25 13 C dX4_takesPart_10 (by decide) rfl (fun c10 => ?_) (fun c10 => ?_)
  · have hq : 11 ≤ k ∧ k < 16 := Decidable.byContradiction fun z => c10 (if_neg (by omega))
    rw [if_pos (show 11 ≤ k ∧ k < 11 + 5 by omega)]
    refine j_aload_n 26 C dX4_takesPart_25 rfl rfl ?_
    refine Lzg_p0 29 C dX4_takesPart_26 rfl fl4_12 ?_
    refine j_iload_n 30 C dX4_takesPart_29 rfl rfl ?_
    refine j_iload_n 31 C dX4_takesPart_30 rfl rfl ?_
    refine j_iload_n 32 C dX4_takesPart_31 rfl rfl ?_
    refine j_iconst 33 C dX4_takesPart_32 rfl (v := (-1)) (by decide) ?_
    refine j_icmp_ne 43 36 C dX4_takesPart_33 (by decide) rfl (fun c33 => ?_) (fun c33 => absurd c33 (nI_nmO (by omega)))
    refine j_iconst 44 C dX4_takesPart_43 rfl (v := (-1)) (by decide) ?_
    refine j_iload_n 45 C dX4_takesPart_44 rfl rfl ?_
    refine j_isub 46 C dX4_takesPart_45 rfl ?_
    refine Lzx_tV 49 C dX4_takesPart_46 rfl cw4_178 rfl (K8_addPart h9 hp hlw) rfl (by decide) ⟨Nat.le_refl _, Nat.le_refl _⟩ rfl (Nat.le_of_ble_eq_true rfl) ?_
    refine j_aload_n 50 C dX4_takesPart_49 rfl rfl ?_
    refine Lzx_AV 53 C dX4_takesPart_50 rfl cw4_97 rfl (K4_adP hP) rfl (by decide) ⟨Nat.le_refl _, Nat.le_refl _⟩ rfl (Nat.le_of_ble_eq_true rfl) ?_
    refine j_iconst 54 C dX4_takesPart_53 rfl (v := nI 1) (by decide) ?_
    have hret : PPt tp n Sk c M j Sp St J x lw p (nI 1) (avS Sp Sk (j) (c + 1)) (adP St p lw x ((-1) - nI (k - 11))) := by
      refine Or.inl ⟨rfl, nI 0, k - 10, _, pr_qty hP.2.2.1 hv hq J p, fun z => by have := he.mpr z; omega, rfl, rfl, Or.inr ⟨by omega, by omega, ?_⟩⟩
      rw [qty_neg _ (by omega), show k - 11 + 1 = k - 10 by omega]
    exact j_zret C dX4_takesPart_54 rfl ⟨_, ((avS Sp Sk (j) (c + 1)), (adP St p lw x ((-1) - nI (k - 11)))), hret, rfl, rfl⟩
  · refine j_aload_n 14 C dX4_takesPart_13 rfl rfl ?_
    refine j_sipush 17 C dX4_takesPart_14 rfl (v := nI 1000) (by decide) ?_
    refine Lzx_AI 20 C dX4_takesPart_17 rfl cw4_125 rfl (K4_nuP hP) rfl (by decide) ⟨Nat.le_refl _, Nat.le_refl _⟩ rfl (Nat.le_of_ble_eq_true rfl) ?_
    refine j_if_neB 25 23 C dX4_takesPart_20 (by decide) rfl (fun c20 => ?_) (fun c20 => ?_)
    · have hq : ¬ (11 ≤ k ∧ k < 16) := fun z => nI_nmO (q := k - 11) (by omega) ((if_pos (show 11 ≤ k ∧ k < 11 + 5 by omega)).symm.trans c10)
      rw [if_neg (show ¬ (11 ≤ k ∧ k < 11 + 5) by omega), if_pos c20.1, if_pos c20.2]
      obtain ⟨hj, e2, e3, u, hu, e4⟩ := num_go hP (hi := 1000) (by omega) c20
      refine j_aload_n 26 C dX4_takesPart_25 rfl rfl ?_
      refine Lzg_p0 29 C dX4_takesPart_26 rfl fl4_12 ?_
      refine j_iload_n 30 C dX4_takesPart_29 rfl rfl ?_
      refine j_iload_n 31 C dX4_takesPart_30 rfl rfl ?_
      refine j_iload_n 32 C dX4_takesPart_31 rfl rfl ?_
      refine j_iconst 33 C dX4_takesPart_32 rfl (v := (-1)) (by decide) ?_
      refine j_icmp_ne 43 36 C dX4_takesPart_33 (by decide) rfl (fun c33 => absurd rfl c33) (fun c33 => ?_)
      refine j_aload_n 37 C dX4_takesPart_36 rfl rfl ?_
      refine Lzg_p7 40 C dX4_takesPart_37 rfl fl4_87 ?_
      refine j_goto 46 C dX4_takesPart_40 (by decide) ?_
      refine Lzx_tV 49 C dX4_takesPart_46 rfl cw4_178 rfl (K8_addPart h9 hp hlw) rfl (by decide) ⟨Nat.le_refl _, Nat.le_refl _⟩ rfl (Nat.le_of_ble_eq_true rfl) ?_
      refine j_aload_n 50 C dX4_takesPart_49 rfl rfl ?_
      refine Lzx_AV 53 C dX4_takesPart_50 rfl cw4_97 rfl (K4_adP hP) rfl (by decide) ⟨Nat.le_refl _, Nat.le_refl _⟩ rfl (Nat.le_of_ble_eq_true rfl) ?_
      refine j_iconst 54 C dX4_takesPart_53 rfl (v := nI 1) (by decide) ?_
      have hret : PPt tp n Sk c M j Sp St J x lw p (nI 1) (avS Sp Sk (j) (c + 1)) (adP St p lw x (Sp.1 7)) := by
        refine Or.inl ⟨rfl, nI u, 0, _, ?_, hj, rfl, rfl, Or.inl ⟨rfl, u, hu, rfl, e4⟩⟩
        obtain ⟨g1, g2, g3⟩ := pr_num hv hq J p
        unfold prM; rw [g2, e2, if_pos ((adM_1 (by omega)).trans hP.2.2.1), g3, g1, e3, e4]
      exact j_zret C dX4_takesPart_54 rfl ⟨_, ((avS Sp Sk (j) (c + 1)), (adP St p lw x (Sp.1 7))), hret, rfl, rfl⟩
    · refine j_iconst 24 C dX4_takesPart_23 rfl (v := nI 0) (by decide) ?_
      have hret : PPt tp n Sk c M j Sp St J x lw p (nI 0) (if Sp.1 6 = nI 21 then (if Sp.1 7 ≤ nI 1000 then Sp else (rfS Sp Sk (nI 2) (j))) else (rfS Sp Sk (nI 1) (j))) St := by
        have hq : ¬ (11 ≤ k ∧ k < 16) := fun z => nI_nmO (q := k - 11) (by omega) ((if_pos (show 11 ≤ k ∧ k < 11 + 5 by omega)).symm.trans c10)
        obtain ⟨e1, e2, e3⟩ := pr_num hv hq J p
        have hb := num_bd hP (hi := 1000) (by omega) c20
        have eb : prM M J p = nmM M 0 1000 := by unfold prM; rw [e2, if_neg hb.1]
        exact Or.inr ⟨rfl, by rw [eb]; exact hb⟩
      exact j_zret C dX4_takesPart_24 rfl ⟨_, ((if Sp.1 6 = nI 21 then (if Sp.1 7 ≤ nI 1000 then Sp else (rfS Sp Sk (nI 2) (j))) else (rfS Sp Sk (nI 1) (j))), St), hret, rfl, rfl⟩
end SQ4
/-- a LAW in the making: it began at p0, and stands at p -/
def LM (M0 M St0 St : MS) (lw p0 p : Nat) : Prop := (M.1 22 = M0.1 22 ∧ M.2.1 23 = M0.2.1 23) ∧ ((∀ i, ¬ i = 3 → i < 220 + 3 * p0 → M.2.1 21 i = M0.2.1 21 i) ∧ M.2.1 21 3 = nI p) ∧ (St.1 9 = nI p ∧ (St.1 0 = St0.1 0 ∧ St.1 1 = St0.1 1 ∧ St.1 2 = St0.1 2) ∧ St.2.1 3 = St0.2.1 3 ∧ St.2.1 4 = St0.2.1 4) ∧ ((∀ l, ¬ l = lw → St.2.1 5 l = St0.2.1 5 l ∧ St.2.1 6 l = St0.2.1 6 l) ∧ St.2.1 5 lw = nI p0 ∧ St.2.1 6 lw = nI p) ∧ ((∀ k, k < p0 → St.2.1 7 k = St0.2.1 7 k ∧ St.2.1 8 k = St0.2.1 8 k) ∧ (∀ k, p0 ≤ k → k < p → PC St (M.2.1 21) k) ∧ (p0 < p → JN (M.2.1 21 (220 + 3 * p0)) 0) ∧ p0 ≤ p)
theorem LM_0 {M St : MS} {lw p : Nat} (h3 : M.2.1 21 3 = nI p) (h9 : St.1 9 = nI p) : LM M M St (aS (aS St 5 lw (nI p)) 6 lw (nI p)) lw p p := by
  refine ⟨⟨rfl, rfl⟩, ⟨fun _ _ _ => rfl, h3⟩, ⟨h9, ⟨rfl, rfl, rfl⟩, rfl, rfl⟩, ⟨fun l hl => ⟨?_, ?_⟩, ?_, ?_⟩, fun _ _ => ⟨rfl, rfl⟩, fun k h1 h2 => absurd h1 (by omega), fun z => absurd z (by omega), Nat.le_refl _⟩
  · show (aS St 5 lw (nI p)).2.1 5 l = _
    rw [aS_at, pk_un hl]
  · rw [aS_at, pk_un hl]; rfl
  · show (aS St 5 lw (nI p)).2.1 5 lw = _
    rw [aS_at, pk_us]
  · rw [aS_at, pk_us]
theorem LM_f {M0 M M' St0 St : MS} {lw p0 p : Nat} (h : LM M0 M St0 St lw p0 p) (hf : FT M M') : LM M0 M' St0 St lw p0 p := by
  unfold LM
  rw [hf.2, hf.1 22 (by omega)]; exact h
theorem prS_21 {M : MS} {J v : Int32} {kd p : Nat} : (∀ i, ¬ i = 3 → (i < 220 + 3 * p ∨ 220 + 3 * p + 2 < i) → (prS M J v kd p).2.1 21 i = M.2.1 21 i) ∧ (prS M J v kd p).2.1 21 3 = nI (p + 1) ∧ ((prS M J v kd p).2.1 21 (220 + 3 * p) = J ∧ (prS M J v kd p).2.1 21 (220 + 3 * p + 1) = nI kd ∧ (prS M J v kd p).2.1 21 (220 + 3 * p + 2) = v) := by
  unfold prS
  refine ⟨fun i h1 h2 => ?_, ?_, ?_, ?_, ?_⟩
  · rw [aS_at, pk_un h1, aS_at, pk_un (by omega), aS_at, pk_un (by omega), aS_at, pk_un (by omega)]
  · rw [aS_at, pk_us]
  · rw [aS_at, pk_un (by omega), aS_at, pk_un (by omega), aS_at, pk_un (by omega), aS_at, pk_us]
  · rw [aS_at, pk_un (by omega), aS_at, pk_un (by omega), aS_at, pk_us]
  · rw [aS_at, pk_un (by omega), aS_at, pk_us]
theorem PT_prS {tp : Nat → Int32} {n c j kd p : Nat} {J v : Int32} {Sk M Sp : MS} (h : PT tp n Sk c M j Sp) : PT tp n Sk c (prS M J v kd p) j Sp := PT_aS (PT_aS (PT_aS (PT_aS h (by decide)) (by decide)) (by decide)) (by decide)
theorem LM_s {M0 M St0 St : MS} {lw p0 p kd jx : Nat} {J v y : Int32} (h : LM M0 M St0 St lw p0 p) (hJ : JN J jx) (hjx : jx < 4) (h0 : p = p0 → jx = 0) (hy : PY kd v y) : LM M0 (prS M J v kd p) St0 (adP St p lw (nI jx) y) lw p0 (p + 1) := by
  obtain ⟨⟨a1, a2⟩, ⟨b1, b2⟩, ⟨c1, c2, c3, c4⟩, ⟨d1, d2, d3⟩, e1, e2, e3, e4⟩ := h
  obtain ⟨u1, u2, u3, u4, u5⟩ := prS_21 (M := M) (J := J) (v := v) (kd := kd) (p := p)
  have s7 : (adP St p lw (nI jx) y).2.1 7 = upd (St.2.1 7) p (nI jx) := by show (aS St 7 p (nI jx)).2.1 7 = _; rw [aS_at]
  have s8 : (adP St p lw (nI jx) y).2.1 8 = upd (St.2.1 8) p y := by show (aS (aS St 7 p (nI jx)) 8 p y).2.1 8 = _; rw [aS_at]; rfl
  have s6 : (adP St p lw (nI jx) y).2.1 6 = upd (St.2.1 6) lw (nI (p + 1)) := by unfold adP; rw [aS_at]; rfl
  refine ⟨⟨a1, a2⟩, ⟨fun i h1 h2 => (u1 i h1 (by omega)).trans (b1 i h1 h2), u2⟩, ⟨rfl, c2, c3, c4⟩, ⟨fun l hl => ⟨(d1 l hl).1, ?_⟩, d2, ?_⟩, fun k hk => ⟨?_, ?_⟩, fun k h1 h2 => ?_, fun _ => ?_, by omega⟩
  · rw [s6, pk_un hl]; exact (d1 l hl).2
  · rw [s6, pk_us]
  · rw [s7, pk_un (by omega)]; exact (e1 k hk).1
  · rw [s8, pk_un (by omega)]; exact (e1 k hk).2
  · by_cases z : k = p
    · subst z
      refine ⟨⟨jx, hjx, by rw [s7, pk_us], by rw [u3]; exact hJ⟩, ?_⟩
      rw [u4, u5, s8, pk_us]
      rcases hy with ⟨rfl, u, hu, rfl, rfl⟩ | ⟨q1, q2, q3⟩
      · exact Or.inl ⟨u, hu, rfl, rfl, rfl⟩
      · exact Or.inr ⟨kd, q1, q2, rfl, q3⟩
    · exact PC_ext (fun i hi => u1 _ (by omega) (by omega)) (by rw [s7, pk_un z]) (by rw [s8, pk_un z]) (e2 k h1 (by omega))
  · by_cases z : p = p0
    · subst z; rw [u3]; have := h0 rfl; subst this; exact hJ
    · rw [u1 _ (by omega) (by omega)]; exact e3 (by omega)
theorem LM_z {M0 M St0 St Sr Sp Sp' : MS} {lw p0 p : Nat} (hL : LR M0 St0 Sr Sp p0) (h : LM M0 M St0 St lw p0 p) (hlt : p0 < p) (hp : p ≤ 180) (hlw : lw < 9) (h8 : SE Sp Sp') (h9' : Sp'.2.1 9 = Sp.2.1 9) : LR (rlZ M lw p0) St Sr Sp' p := by
  have hnp := LR_np hL
  obtain ⟨⟨hT, hR, hU, hW⟩, ⟨p1, p2⟩, hpp, h9⟩ := hL
  obtain ⟨⟨a1, a2⟩, ⟨b1, b2⟩, ⟨c1, ⟨c5, c6, c7⟩, c3, c4⟩, ⟨d1, d2, d3⟩, e1, e2, e3, e4⟩ := h
  obtain ⟨-, n1, n2⟩ : p0 ≤ 180 ∧ _ := hnp.resolve_right (by omega)
  have hu : ∀ i, ¬ i = 202 + 2 * lw → ¬ i = 202 + 2 * lw + 1 → (rlZ M lw p0).2.1 21 i = M.2.1 21 i := fun i h1 h2 => by unfold rlZ; rw [aS_at, pk_un h2, aS_at, pk_un h1]
  have hu1 : (rlZ M lw p0).2.1 21 (202 + 2 * lw) = nI p0 := by unfold rlZ; rw [aS_at, pk_un (by omega), aS_at, pk_us]
  have hu2 : (rlZ M lw p0).2.1 21 (202 + 2 * lw + 1) = nI (p - p0) := by unfold rlZ; rw [aS_at, pk_us, b2, pk_sub (by omega)]
  have hm : (rlZ M lw p0).1 22 = M.1 22 ∧ (rlZ M lw p0).2.1 23 = M.2.1 23 := ⟨rfl, rfl⟩
  unfold LR
  rw [hm.1, hm.2, a1, a2, h8.1, h8.2.1, h8.2.2, h9']
  generalize hf : (rlZ M lw p0).2.1 21 = f at hu hu1 hu2 ⊢
  have hv : ∀ i, ¬ i = 3 → i < 202 → f i = M0.2.1 21 i := fun i h1 h2 => (hu i (by omega) (by omega)).trans (b1 i h1 (by omega))
  have hn1 : nth f = nth (M0.2.1 21) := by unfold nth; rw [hv 1 (by omega) (by omega)]
  obtain ⟨⟨t1, t2, t3⟩, t4, t5, -, t7, t6⟩ := hT
  have hL2 : TL St f := by
    refine ⟨⟨p, c1, hp, fun k hk => ?_, fun l hl => ?_⟩, fun l h1 h2 => ?_⟩
    · by_cases z : k < p0
      · exact PC_ext (fun i hi => (hu _ (by omega) (by omega)).trans (b1 _ (by omega) (by omega))) (e1 k z).1 (e1 k z).2 (n1 k z)
      · exact PC_ext (fun i hi => hu _ (by omega) (by omega)) rfl rfl (e2 k (by omega) hk)
    · by_cases z : l = lw
      · subst z
        refine ⟨p0, p - p0, hu1, hu2, by omega, d2, by rw [d3]; congr 1; omega, fun _ => ?_⟩
        rw [hu _ (by omega) (by omega)]; exact e3 hlt
      · obtain ⟨b, m, g1, g2, g3, g4, g5, g6⟩ := n2 l hl
        refine ⟨b, m, ?_, ?_, by omega, ?_, ?_, fun y => ?_⟩
        · rw [hu _ (by omega) (by omega), b1 _ (by omega) (by omega)]; exact g1
        · rw [hu _ (by omega) (by omega), b1 _ (by omega) (by omega)]; exact g2
        · rw [(d1 l z).1]; exact g4
        · rw [(d1 l z).2]; exact g5
        · rw [hu _ (by omega) (by omega), b1 _ (by omega) (by omega)]; exact g6 y
    · rw [(d1 l (by omega)).1, (d1 l (by omega)).2]; exact t7 l h1 h2
  have hWL : WL f := fun l hl => by
    obtain ⟨⟨np, q1, q2, -, q4⟩, -⟩ := hL2
    obtain ⟨b, m, g1, g2, g3, -⟩ := q4 l hl
    exact ⟨b, m, g1, g2, by omega⟩
  have h24 := hW.2.1.2
  refine ⟨⟨⟨⟨by rw [hv 1 (by omega) (by omega), c5]; exact t1, by rw [hv 0 (by omega) (by omega), c6]; exact t2, by rw [hv 4 (by omega) (by omega), c7]; exact t3⟩, fun i hi => ?_, fun s hs => by rw [hv _ (by omega) (by omega), c4]; exact t5 s hs, hL2.1, hL2.2, by rw [hv 4 (by omega) (by omega)]; exact t6⟩, RR_ext hW (hv 2 (by omega) (by omega)) (fun i h1 h2 => hv i (by omega) h2) hR, RU_ext hW (hv 2 (by omega) (by omega)) (hv 9 (by omega) (by omega)) (fun i h1 h2 => hv i (by omega) h2) hU, WF_ext hW (hv 2 (by omega) (by omega)) (fun i h1 h2 => hv i (by omega) h2) (by rw [hn1, hv 1 (by omega) (by omega)]; exact hW.2.1.1) (by omega) (by omega) hWL⟩, ⟨c1, by rw [hu 3 (by omega) (by omega)]; exact b2⟩, hpp, by rw [hv 9 (by omega) (by omega)]; exact h9.1, fun r hr => by rw [hv _ (by omega) (by omega)]; exact h9.2 r hr⟩
  rw [hn1] at hi
  rw [hv _ (by omega) (by omega), c3]; exact t4 i hi
/-- what takesSum leaves -/
def PS (tp : Nat → Int32) (n : Nat) (Sk : MS) (c : Nat) (M0 St0 Sp0 : MS) (lw p0 f0 : Nat) (R : MS) (x : Int32) (S' T' : MS) : Prop := (x = nI 1 ∧ ∃ j p, PT tp n Sk c R j S' ∧ LM M0 R St0 T' lw p0 p ∧ p0 < p ∧ 5 * p ≤ lxF tp n (pz tp n j) ∧ f0 < lxF tp n (pz tp n j) ∧ SE Sp0 S' ∧ S'.2 = Sp0.2) ∨ (x = nI 0 ∧ BD R S')
theorem sL_j : ∀ w, w < 11 → 7 ≤ w → 4 ≤ sL (wI w) := by decide +kernel
theorem rlF_0 {M : MS} (h : jn M = 0) (F : Nat) : rlF F M = M := by
  cases F with
  | zero => rfl
  | succ F => rw [rlF, if_pos h]
section SQ4b
variable {l : Launch} {G : GG} {tp : Nat → Int32} {n c j p lw : Nat} {M : MS} {zp zt zr zk : Nat → Nat} {Sp St Sr Sk : MS}
section Lc_Lz2
variable {X : JX} {cc : ByteArray} {nL : Nat} {own : String} {rt : Option FieldType} {d mc ms : Nat} {post : Option Value → va_W → Prop} {k pc : Nat} {lv : List (Nat × Value)} {st : List Value}
variable {y : MethodName} {cy : ByteArray} {mL idx np d' : Nat} {rt' : Option FieldType} {As st0 : List Value} {x : Int32} {xl : Int64}
theorem Lzx_YI {Tp Tt Tr Tk : MS} (q : Nat) (C : Cx X l G cc nL own rt d mc ms post) (hd : decode cc pc = .ok (.invokevirtual idx, 3)) (hq : pc + 3 = q) (hw : CW own idx y cy mL rt' np) (hy : y.cls = RX4) (hC : Con l G y cy mL rt' d' 0 0 (.ref (zp 50) :: As) (pBk zp (zt 50) (zr 50) (zk 50) G.2.1 Sp ++ (tBk zt G.2.1 St ++ (rBk zr G.2.1 Sr ++ (kBk zk G.2.1 Sk)))) (pI x (pBk zp (zt 50) (zr 50) (zk 50) G.2.1 Tp ++ (tBk zt G.2.1 Tt ++ (rBk zr G.2.1 Tr ++ (kBk zk G.2.1 Tk)))))) (hnp : As.length = np) (hdd : d' + 1 ≤ d) (hk : k ≤ mc ∧ n ≤ ms) (hst : st0 = As.reverse ++ .ref (zp 50) :: st) (hrm : (st.map fun v => v.category).sum ≤ 8) (kk : J X nL k n (pBk zp (zt 50) (zr 50) (zk 50) G.2.1 Tp ++ (tBk zt G.2.1 Tt ++ (rBk zr G.2.1 Tr ++ (kBk zk G.2.1 Tk)))) q lv (.int x :: st)) : J X nL k n (pBk zp (zt 50) (zr 50) (zk 50) G.2.1 Sp ++ (tBk zt G.2.1 St ++ (rBk zr G.2.1 Sr ++ (kBk zk G.2.1 Sk)))) pc lv st0 := by
  refine j_callM q C hd hq hw hC hnp ⟨hdd, hk.1, hk.2⟩ hst hrm [] [] rfl 0 rfl (ci := 4) (T := TX4) (N := 10) (by rw [hy]; rfl) (fun v w hp => ?_)
  obtain ⟨rfl, rfl⟩ := hp
  exact kk
theorem Lzx_YL {Tp Tt Tr Tk : MS} (q : Nat) (C : Cx X l G cc nL own rt d mc ms post) (hd : decode cc pc = .ok (.invokevirtual idx, 3)) (hq : pc + 3 = q) (hw : CW own idx y cy mL rt' np) (hy : y.cls = RX4) (hC : Con l G y cy mL rt' d' 0 0 (.ref (zp 50) :: As) (pBk zp (zt 50) (zr 50) (zk 50) G.2.1 Sp ++ (tBk zt G.2.1 St ++ (rBk zr G.2.1 Sr ++ (kBk zk G.2.1 Sk)))) (pL xl (pBk zp (zt 50) (zr 50) (zk 50) G.2.1 Tp ++ (tBk zt G.2.1 Tt ++ (rBk zr G.2.1 Tr ++ (kBk zk G.2.1 Tk)))))) (hnp : As.length = np) (hdd : d' + 1 ≤ d) (hk : k ≤ mc ∧ n ≤ ms) (hst : st0 = As.reverse ++ .ref (zp 50) :: st) (hrm : (st.map fun v => v.category).sum ≤ 8) (kk : J X nL k n (pBk zp (zt 50) (zr 50) (zk 50) G.2.1 Tp ++ (tBk zt G.2.1 Tt ++ (rBk zr G.2.1 Tr ++ (kBk zk G.2.1 Tk)))) q lv (.long xl :: st)) : J X nL k n (pBk zp (zt 50) (zr 50) (zk 50) G.2.1 Sp ++ (tBk zt G.2.1 St ++ (rBk zr G.2.1 Sr ++ (kBk zk G.2.1 Sk)))) pc lv st0 := by
  refine j_callM q C hd hq hw hC hnp ⟨hdd, hk.1, hk.2⟩ hst hrm [] [] rfl 0 rfl (ci := 4) (T := TX4) (N := 10) (by rw [hy]; rfl) (fun v w hp => ?_)
  obtain ⟨rfl, rfl⟩ := hp
  exact kk
theorem Lzx_YV {Tp Tt Tr Tk : MS} (q : Nat) (C : Cx X l G cc nL own rt d mc ms post) (hd : decode cc pc = .ok (.invokevirtual idx, 3)) (hq : pc + 3 = q) (hw : CW own idx y cy mL rt' np) (hy : y.cls = RX4) (hC : Con l G y cy mL rt' d' 0 0 (.ref (zp 50) :: As) (pBk zp (zt 50) (zr 50) (zk 50) G.2.1 Sp ++ (tBk zt G.2.1 St ++ (rBk zr G.2.1 Sr ++ (kBk zk G.2.1 Sk)))) (pV (pBk zp (zt 50) (zr 50) (zk 50) G.2.1 Tp ++ (tBk zt G.2.1 Tt ++ (rBk zr G.2.1 Tr ++ (kBk zk G.2.1 Tk)))))) (hnp : As.length = np) (hdd : d' + 1 ≤ d) (hk : k ≤ mc ∧ n ≤ ms) (hst : st0 = As.reverse ++ .ref (zp 50) :: st) (hrm : (st.map fun v => v.category).sum ≤ 8) (kk : J X nL k n (pBk zp (zt 50) (zr 50) (zk 50) G.2.1 Tp ++ (tBk zt G.2.1 Tt ++ (rBk zr G.2.1 Tr ++ (kBk zk G.2.1 Tk)))) q lv st) : J X nL k n (pBk zp (zt 50) (zr 50) (zk 50) G.2.1 Sp ++ (tBk zt G.2.1 St ++ (rBk zr G.2.1 Sr ++ (kBk zk G.2.1 Sk)))) pc lv st0 := by
  refine j_callM q C hd hq hw hC hnp ⟨hdd, hk.1, hk.2⟩ hst hrm [] [] rfl 0 rfl (ci := 4) (T := TX4) (N := 10) (by rw [hy]; rfl) (fun v w hp => ?_)
  obtain ⟨rfl, rfl⟩ := hp
  exact kk
theorem Lzr_YI {P : Int32 → MS × MS → Prop} (q : Nat) (C : Cx X l G cc nL own rt d mc ms post) (hd : decode cc pc = .ok (.invokevirtual idx, 3)) (hq : pc + 3 = q) (hw : CW own idx y cy mL rt' np) (hy : y.cls = RX4) (hC : Con l G y cy mL rt' d' 0 0 (.ref (zp 50) :: As) (pBk zp (zt 50) (zr 50) (zk 50) G.2.1 Sp ++ (tBk zt G.2.1 St ++ (rBk zr G.2.1 Sr ++ (kBk zk G.2.1 Sk)))) (qI (fun s : MS × MS => (pBk zp (zt 50) (zr 50) (zk 50) G.2.1 (s.1) ++ (tBk zt G.2.1 (s.2) ++ (rBk zr G.2.1 Sr ++ (kBk zk G.2.1 Sk))))) P)) (hnp : As.length = np) (hdd : d' + 1 ≤ d) (hk : k ≤ mc ∧ n ≤ ms) (hst : st0 = As.reverse ++ .ref (zp 50) :: st) (hrm : (st.map fun v => v.category).sum ≤ 8) (kk : ∀ (x : Int32) (s : MS × MS), P x s → J X nL k n (pBk zp (zt 50) (zr 50) (zk 50) G.2.1 (s.1) ++ (tBk zt G.2.1 (s.2) ++ (rBk zr G.2.1 Sr ++ (kBk zk G.2.1 Sk)))) q lv (.int x :: st)) : J X nL k n (pBk zp (zt 50) (zr 50) (zk 50) G.2.1 Sp ++ (tBk zt G.2.1 St ++ (rBk zr G.2.1 Sr ++ (kBk zk G.2.1 Sk)))) pc lv st0 := by
  refine j_callM q C hd hq hw hC hnp ⟨hdd, hk.1, hk.2⟩ hst hrm [] [] rfl 0 rfl (ci := 4) (T := TX4) (N := 10) (by rw [hy]; rfl) (fun v w hp => ?_)
  obtain ⟨x, s, hp, rfl, rfl⟩ := hp
  exact kk x s hp
theorem Lzr_YV {P : MS × MS → Prop} (q : Nat) (C : Cx X l G cc nL own rt d mc ms post) (hd : decode cc pc = .ok (.invokevirtual idx, 3)) (hq : pc + 3 = q) (hw : CW own idx y cy mL rt' np) (hy : y.cls = RX4) (hC : Con l G y cy mL rt' d' 0 0 (.ref (zp 50) :: As) (pBk zp (zt 50) (zr 50) (zk 50) G.2.1 Sp ++ (tBk zt G.2.1 St ++ (rBk zr G.2.1 Sr ++ (kBk zk G.2.1 Sk)))) (qV (fun s : MS × MS => (pBk zp (zt 50) (zr 50) (zk 50) G.2.1 (s.1) ++ (tBk zt G.2.1 (s.2) ++ (rBk zr G.2.1 Sr ++ (kBk zk G.2.1 Sk))))) P)) (hnp : As.length = np) (hdd : d' + 1 ≤ d) (hk : k ≤ mc ∧ n ≤ ms) (hst : st0 = As.reverse ++ .ref (zp 50) :: st) (hrm : (st.map fun v => v.category).sum ≤ 8) (kk : ∀ (s : MS × MS), P s → J X nL k n (pBk zp (zt 50) (zr 50) (zk 50) G.2.1 (s.1) ++ (tBk zt G.2.1 (s.2) ++ (rBk zr G.2.1 Sr ++ (kBk zk G.2.1 Sk)))) q lv st) : J X nL k n (pBk zp (zt 50) (zr 50) (zk 50) G.2.1 Sp ++ (tBk zt G.2.1 St ++ (rBk zr G.2.1 Sr ++ (kBk zk G.2.1 Sk)))) pc lv st0 := by
  refine j_callM q C hd hq hw hC hnp ⟨hdd, hk.1, hk.2⟩ hst hrm [] [] rfl 0 rfl (ci := 4) (T := TX4) (N := 10) (by rw [hy]; rfl) (fun v w hp => ?_)
  obtain ⟨s, hp, rfl, rfl⟩ := hp
  exact kk s hp
end Lc_Lz2
set_option maxHeartbeats 1000000 in
theorem K4_takesSum (hP : PT tp n Sk c M j Sp) (hL9 : St.1 9 = nI p) (hL3 : M.2.1 21 3 = nI p) (h5 : 5 * p + 5 ≤ lxF tp n (pz tp n j)) (hlw : lw < 12) : Con l G yX4_takesSum cX4_takesSum 4 (some .boolean) 4 0 0 [.ref (zp 50), .int (nI lw)] (pBk zp (zt 50) (zr 50) (zk 50) G.2.1 Sp ++ (tBk zt G.2.1 St ++ (rBk zr G.2.1 Sr ++ (kBk zk G.2.1 Sk)))) (qI (fun s : MS × MS => (pBk zp (zt 50) (zr 50) (zk 50) G.2.1 s.1 ++ (tBk zt G.2.1 s.2 ++ (rBk zr G.2.1 Sr ++ (kBk zk G.2.1 Sk))))) (fun v s => PS tp n Sk c M St Sp lw p (lxF tp n (pz tp n j)) (rlF n (prM M (nI 0) p)) v s.1 s.2)) := by
  refine Con.mk (own := RX4) (by decide) rfl (Nat.le_of_ble_eq_true rfl) (fun X C => ?_)
  have lp12 : ∀ (m : Nat) (i ji pi jx F : Nat) (JJ : Int32) (Mi S T : MS), n - lxF tp n (pz tp n ji) = m → i ≤ lxF tp n (pz tp n ji) → 5 * pi + 5 ≤ lxF tp n (pz tp n ji) → lxF tp n (pz tp n j) ≤ lxF tp n (pz tp n ji) → n - lxF tp n (pz tp n ji) ≤ F → PT tp n Sk c Mi ji S → LM M Mi St T lw p pi → JN JJ jx → jx < 4 → (pi = p → jx = 0) → rlF F (prM Mi JJ pi) = (rlF n (prM M (nI 0) p)) → SE Sp S → S.2 = Sp.2 → J X 4 0 0 (pBk zp (zt 50) (zr 50) (zk 50) G.2.1 S ++ (tBk zt G.2.1 T ++ (rBk zr G.2.1 Sr ++ (kBk zk G.2.1 Sk)))) 12 [(0, .ref (zp 50)), (1, .int (nI lw)), (2, .int (nI jx)), (3, .int (nI i))] [] := by
    intro m
    induction m using Nat.strongRecOn with
    | ind m ilp12 =>
    intro i ji pi jx F JJ Mi S T hm hi h5 hjj hF hQ hM hJ hjx h0 hR hS8 hS9
    have hfl := (lxE_le (tp := tp) (pz_le tp n ji)); have hn9 := hQ.1.2.2.1
    refine j_iload_n 13 C dX4_takesSum_12 rfl rfl ?_
    refine j_sipush 16 C dX4_takesSum_13 rfl (v := nI 900) (by decide) ?_
    refine j_icmp_gtN 58 19 C dX4_takesSum_16 (by decide) rfl (by omega) (by omega) (fun c16 => absurd c16 (by omega)) (fun c16 => ?_)
    refine j_iload_n 20 C dX4_takesSum_19 rfl rfl ?_
    refine j_iconst 21 C dX4_takesSum_20 rfl (v := (-1)) (by decide) ?_
    refine j_icmp_eq 58 24 C dX4_takesSum_21 (by decide) rfl (fun c21 => absurd c21 (nI_nmO (by omega))) (fun c21 => ?_)
    refine j_aload_n 25 C dX4_takesSum_24 rfl rfl ?_
    refine j_iload_n 26 C dX4_takesSum_25 rfl rfl ?_
    refine j_iload_n 27 C dX4_takesSum_26 rfl rfl ?_
    refine Lzr_YI 30 C dX4_takesSum_27 rfl cw4_174 rfl (K4_takesPart (J := JJ) hQ hM.2.2.1.1 (by omega) hlw) rfl (by decide) ⟨Nat.le_refl _, Nat.le_refl _⟩ rfl (Nat.le_of_ble_eq_true rfl) (fun x27 s27 h27 => ?_)
    refine j_if_ne 35 33 C dX4_takesSum_30 (by decide) rfl (fun c30 => ?_) (fun c30 => ?_)
    · obtain ⟨v, kd, y, g1, hji, g2, g3, hy⟩ := (h27.resolve_right (fun z => c30 z.1)).2
      rw [g2, g3]
      have hN := pz_next hQ hji
      have hQ1 := PT_ad hQ hji
      have hM1 := LM_s (LM_f hM (FT_ad Mi)) hJ hjx h0 hy
      have hQ2 : PT tp n Sk c (prS (adM Mi) JJ v kd pi) (ji + 1) (avS S Sk ji (c + 1)) := PT_prS hQ1
      obtain ⟨k2, hv2, he2, hl2⟩ := PT_v hQ2
      rw [g1] at hR
      have hjn := jn_v hv2
      refine j_aload_n 36 C dX4_takesSum_35 rfl rfl ?_
      refine j_bipush 38 C dX4_takesSum_36 rfl (v := nI 7) (by decide) ?_
      refine j_iconst 39 C dX4_takesSum_38 rfl (v := nI 4) (by decide) ?_
      refine Lzx_AI 42 C dX4_takesSum_39 rfl cw4_112 rfl (K4_amP hv2 (by omega)) rfl (by decide) ⟨Nat.le_refl _, Nat.le_refl _⟩ rfl (Nat.le_of_ble_eq_true rfl) ?_
      refine j_istore_n 43 C dX4_takesSum_42 rfl rfl (by decide) ?_
      refine j_iload_n 44 C dX4_takesSum_43 rfl rfl ?_
      refine j_iconst 45 C dX4_takesSum_44 rfl (v := (-1)) (by decide) ?_
      refine j_icmp_eq 52 48 C dX4_takesSum_45 (by decide) rfl (fun c45 => ?_) (fun c45 => ?_)
      · have hk2 : ¬ (7 ≤ k2 ∧ k2 < 11) := fun z => nI_nmO (q := k2 - 7) (by omega) ((if_pos (show 7 ≤ k2 ∧ k2 < 7 + 4 by omega)).symm.trans c45)
        rw [if_neg (show ¬ (7 ≤ k2 ∧ k2 < 7 + 4) by omega)]
        rw [if_neg (by omega)] at hjn
        rw [rlF_0 hjn] at hR
        refine j_iincN 55 (z := 1) C dX4_takesSum_52 rfl rfl rfl (by decide) ?_
        refine j_goto 12 C dX4_takesSum_55 (by decide) ?_
        refine j_iload_n 13 C dX4_takesSum_12 rfl rfl ?_
        refine j_sipush 16 C dX4_takesSum_13 rfl (v := nI 900) (by decide) ?_
        refine j_icmp_gtN 58 19 C dX4_takesSum_16 (by decide) rfl (by omega) (by omega) (fun c16 => ?_) (fun c16 => ?_)
        · refine j_iconst 59 C dX4_takesSum_58 rfl (v := nI 1) (by decide) ?_
          have hret : PS tp n Sk c M St Sp lw p (lxF tp n (pz tp n j)) (rlF n (prM M (nI 0) p)) (nI 1) (avS S Sk ji (c + 1)) (adP T pi lw (nI jx) y) := by
            have hpp := hM.2.2.2.2.2.2.2
            rw [← hR]; exact Or.inl ⟨rfl, ji + 1, pi + 1, hQ2, hM1, by omega, by omega, by omega, SE_t hS8 lk_8.1, lk_8.2.trans hS9⟩
          exact j_zret C dX4_takesSum_59 rfl ⟨_, (avS S Sk ji (c + 1), adP T pi lw (nI jx) y), hret, rfl, rfl⟩
        · refine j_iload_n 20 C dX4_takesSum_19 rfl rfl ?_
          refine j_iconst 21 C dX4_takesSum_20 rfl (v := (-1)) (by decide) ?_
          refine j_icmp_eq 58 24 C dX4_takesSum_21 (by decide) rfl (fun c21 => ?_) (fun c21 => absurd rfl c21)
          refine j_iconst 59 C dX4_takesSum_58 rfl (v := nI 1) (by decide) ?_
          have hret : PS tp n Sk c M St Sp lw p (lxF tp n (pz tp n j)) (rlF n (prM M (nI 0) p)) (nI 1) (avS S Sk ji (c + 1)) (adP T pi lw (nI jx) y) := by
            have hpp := hM.2.2.2.2.2.2.2
            rw [← hR]; exact Or.inl ⟨rfl, ji + 1, pi + 1, hQ2, hM1, by omega, by omega, by omega, SE_t hS8 lk_8.1, lk_8.2.trans hS9⟩
          exact j_zret C dX4_takesSum_59 rfl ⟨_, (avS S Sk ji (c + 1), adP T pi lw (nI jx) y), hret, rfl, rfl⟩
      · have hk2 : 7 ≤ k2 ∧ k2 < 11 := Decidable.byContradiction fun z => c45 (if_neg (by omega))
        rw [if_pos (show 7 ≤ k2 ∧ k2 < 7 + 4 by omega)]
        rw [if_pos (by omega)] at hjn
        have hj2 : ¬ ji + 1 = c := fun z => by have := he2.mpr z; omega
        have hN2 := pz_next hQ2 hj2
        have hl3 := hl2 k2 (by omega) rfl
        have hl4 := sL_j k2 hk2.2 hk2.1
        obtain ⟨F2, rfl⟩ : ∃ F2, F = F2 + 1 := ⟨F - 1, by omega⟩
        have hp1 := hM1.2.1.2
        rw [rlF, if_neg (by omega), hp1, tn_nI (by omega), hjn] at hR
        refine j_aload_n 49 C dX4_takesSum_48 rfl rfl ?_
        refine Lzx_AV 52 C dX4_takesSum_49 rfl cw4_97 rfl (K4_adP hQ2) rfl (by decide) ⟨Nat.le_refl _, Nat.le_refl _⟩ rfl (Nat.le_of_ble_eq_true rfl) ?_
        refine j_iincN 55 (z := 1) C dX4_takesSum_52 rfl rfl rfl (by decide) ?_
        refine j_goto 12 C dX4_takesSum_55 (by decide) ?_
        exact j_weak _ (by exact ⟨rfl, rfl, rfl, rfl, trivial⟩) (ilp12 _ (by omega) (i + 1) (ji + 1 + 1) (pi + 1) (k2 - 7) F2 (nI (k2 - 6)) _ _ _ rfl (by omega) (by omega) (by omega) (by omega) (PT_ad hQ2 hj2) (LM_f hM1 (FT_ad _)) (Or.inl (by congr 1; omega)) (by omega) (fun z => by have := hM.2.2.2.2.2.2.2; omega) hR (SE_t (SE_t hS8 lk_8.1) lk_8.1) (lk_8.2.trans (lk_8.2.trans hS9)))
    · refine j_iconst 34 C dX4_takesSum_33 rfl (v := nI 0) (by decide) ?_
      have hret : PS tp n Sk c M St Sp lw p (lxF tp n (pz tp n j)) (rlF n (prM M (nI 0) p)) (nI 0) s27.1 s27.2 := by
        have hb := (h27.resolve_left (fun z => absurd (z.1.symm.trans c30) (by decide))).2
        refine Or.inr ⟨rfl, ?_⟩
        rw [← hR, rlF_bad hb.1]; exact hb
      exact j_zret C dX4_takesSum_34 rfl ⟨_, (s27.1, s27.2), hret, rfl, rfl⟩
  refine j_aload_n 1 C dX4_takesSum_0 rfl rfl ?_
  refine Lzg_p0 4 C dX4_takesSum_1 rfl fl4_12 ?_
  refine j_iload_n 5 C dX4_takesSum_4 rfl rfl ?_
  refine Lzx_tV 8 C dX4_takesSum_5 rfl cw4_171 rfl (K8_beginLaw hL9 hlw) rfl (by decide) ⟨Nat.le_refl _, Nat.le_refl _⟩ rfl (Nat.le_of_ble_eq_true rfl) ?_
  refine j_iconst 9 C dX4_takesSum_8 rfl (v := nI 0) (by decide) ?_
  refine j_istore_n 10 C dX4_takesSum_9 rfl rfl (by decide) ?_
  refine j_iconst 11 C dX4_takesSum_10 rfl (v := nI 0) (by decide) ?_
  refine j_istore_n 12 C dX4_takesSum_11 rfl rfl (by decide) ?_
  exact j_weak _ (by exact ⟨rfl, rfl, rfl, rfl, trivial⟩) (lp12 _ 0 j p 0 n (nI 0) M _ _ rfl (Nat.zero_le _) h5 (Nat.le_refl _) (by omega) hP (LM_0 hL3 hL9) (Or.inr ⟨rfl, rfl⟩) (by omega) (fun _ => rfl) rfl (SE_r _) rfl)
end SQ4b
