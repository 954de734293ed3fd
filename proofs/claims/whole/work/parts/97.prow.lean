theorem plc_m1 {f : Nat → Int32} {x : Int32} : ∀ m i, i + m < 2 ^ 31 → (plc f x m i = -1 ↔ ∀ t, i ≤ t → t < i + m → ¬ f t = x)
  | 0, i, _ => ⟨fun _ t h1 h2 => absurd h1 (by omega), fun _ => rfl⟩
  | m + 1, i, h => by
    rw [plc]
    by_cases e : f i = x
    · rw [if_pos e]
      exact ⟨fun z => absurd z (nI_nmO (by omega)), fun z => absurd e (z i (by omega) (by omega))⟩
    · rw [if_neg e, plc_m1 m (i + 1) (by omega)]
      refine ⟨fun z t h1 h2 => ?_, fun z t h1 h2 => z t (by omega) (by omega)⟩
      by_cases e2 : t = i
      · subst e2; exact e
      · exact z t (by omega) (by omega)
theorem rrL_ok {M : MS} {q : Nat} : ∀ c, (∀ t, t < c → ¬ M.2.1 21 (34 + 14 * q + 1 + t) = M.1 18) → rrL M q c = M
  | 0, _ => rfl
  | c + 1, h => by rw [rrL, rrL_ok c (fun t ht => h t (by omega)), if_neg (fun z => h c (by omega) z.2)]
theorem rrL_bm {M : MS} {q c : Nat} (h : ¬ M.1 19 = 0) : rrL M q c = M := rrL_bad (i := 0) (M := M) (q := q) h c (Nat.zero_le _)
theorem rrL_no {M : MS} {q : Nat} (h19 : M.1 19 = 0) : ∀ c, (∃ t, t < c ∧ M.2.1 21 (34 + 14 * q + 1 + t) = M.1 18) → rrL M q c = erM M (nI 2)
  | 0, h => by obtain ⟨t, h1, -⟩ := h; omega
  | c + 1, h => by
    by_cases e : ∃ t, t < c ∧ M.2.1 21 (34 + 14 * q + 1 + t) = M.1 18
    · rw [rrL, rrL_no h19 c e, if_neg (fun z => er_19 (by decide) z.1)]
    · obtain ⟨t, h1, h2⟩ := h
      have ht : t = c := Decidable.byContradiction fun z => e ⟨t, by omega, h2⟩
      subst ht
      rw [rrL, rrL_ok t (fun s hs z => e ⟨s, hs, z⟩), if_pos ⟨h19, h2⟩]
theorem rr4_bad {M : MS} {c : Nat} (h : ¬ M.1 19 = 0) : rr4 M c = M := by unfold rr4; split; exact erM_bad h; rfl
section SQ6p
variable {M Sp : MS} {k q c nt t : Nat}
theorem rr_no1 (h19 : M.1 19 = 0) (h : PV M Sp k) (e : ¬ k = 21) : rrX M q c = erM M (nI 1) := by
  have e1 : nm1 M = erM M (nI 1) := if_pos ⟨h19, fun z => e (h.2.2.1.mp z)⟩
  have hb : ¬ (erM M (nI 1)).1 19 = 0 := er_19 (by decide)
  unfold rrX
  rw [e1, show rr2 (erM M (nI 1)) = erM M (nI 1) from if_neg (fun z => hb z.1), rrL_bm hb, rr4_bad hb]
theorem rr_nm1 (h : PV M Sp 21) : nm1 M = M := if_neg (fun z => z.2 (h.2.2.1.mpr rfl))
theorem rr_no2 (h19 : M.1 19 = 0) (h : PV M Sp 21) (hn : ¬ M.1 18 < M.2.1 21 1) : rrX M q c = erM M (nI 2) := by
  have hb : ¬ (erM M (nI 2)).1 19 = 0 := er_19 (by decide)
  unfold rrX
  rw [rr_nm1 h, show rr2 M = erM M (nI 2) from if_pos ⟨h19, hn⟩, rrL_bm hb, rr4_bad hb]
theorem rr_no3 (h19 : M.1 19 = 0) (h : PV M Sp 21) (hn : M.1 18 < M.2.1 21 1) (hd : ∃ t, t < c ∧ M.2.1 21 (34 + 14 * q + 1 + t) = M.1 18) : rrX M q c = erM M (nI 2) := by
  have hb : ¬ (erM M (nI 2)).1 19 = 0 := er_19 (by decide)
  unfold rrX
  rw [rr_nm1 h, show rr2 M = M from if_neg (fun z => z.2 hn), rrL_no h19 c hd, rr4_bad hb]
theorem rr_go (h : PV M Sp 21) (hn : M.1 18 < M.2.1 21 1) (hd : ∀ t, t < c → ¬ M.2.1 21 (34 + 14 * q + 1 + t) = M.1 18) : rrX M q c = if c = 12 then erM M (nI 3) else M := by
  unfold rrX
  rw [rr_nm1 h, show rr2 M = M from if_neg (fun z => z.2 hn), rrL_ok c hd]; rfl
theorem NV_in {v rv : Int32} (h : NV v rv) (hnt : nt ≤ 24) : (isI v nt ↔ rv < nI nt) ∧ (isI v nt → v = rv ∧ ∃ u, u < nt ∧ v = nI u) := by
  obtain ⟨t, rfl, rfl⟩ := h
  have e1 : nI (min t 99999) < nI nt ↔ t < nt := by
    rw [Int32.lt_iff_toInt_lt, nI_toInt (by omega), nI_toInt (by omega)]; omega
  have e2 : isI (nI (min t 1000000)) nt → t < nt := fun z => by
    obtain ⟨u, hu, e⟩ := isI_of z
    have := (nI_eq (by omega) (by omega)).mp e
    omega
  refine ⟨⟨fun z => e1.mpr (e2 z), fun z => isI_nI (by have := e1.mp z; omega) (by omega)⟩, fun z => ?_⟩
  have := e2 z
  refine ⟨?_, t, this, ?_⟩
  · congr 1; omega
  · congr 1; omega
end SQ6p
/-- what takesThingOfRow leaves -/
def PZ (Sk : MS) (c : Nat) (M : MS) (j : Nat) (Sp Sr : MS) (nt q i : Nat) (x : Int32) (S' T' : MS) : Prop := (x = nI 1 ∧ rrX M q i = M ∧ i < 12 ∧ ∃ u, u < nt ∧ M.1 18 = nI u ∧ S' = avS Sp Sk j (c + 1) ∧ T' = aS (aS Sr 4 (12 * q + i) (nI u)) 2 q (nI (i + 1))) ∨ (x = nI 0 ∧ BD (rrX M q i) S')
section SQ6
variable {l : Launch} {G : GG} {tp : Nat → Int32} {n c j p q i nt : Nat} {M : MS} {zp zt zr zk : Nat → Nat} {Sp St Sr Sk : MS}
section Lc_Lz3
variable {X : JX} {cc : ByteArray} {nL : Nat} {own : String} {rt : Option FieldType} {d mc ms : Nat} {post : Option Value → va_W → Prop} {k pc : Nat} {lv : List (Nat × Value)} {st : List Value}
variable {y : MethodName} {cy : ByteArray} {mL idx np d' : Nat} {rt' : Option FieldType} {As st0 : List Value} {x : Int32} {xl : Int64}
theorem Lzx_XI {Tp Tt Tr Tk : MS} (q : Nat) (C : Cx X l G cc nL own rt d mc ms post) (hd : decode cc pc = .ok (.invokevirtual idx, 3)) (hq : pc + 3 = q) (hw : CW own idx y cy mL rt' np) (hy : y.cls = RX4) (hC : Con l G y cy mL rt' d' 0 0 (.ref (zp 50) :: As) (pBk zp (zt 50) (zr 50) (zk 50) G.2.1 Sp ++ (tBk zt G.2.1 St ++ (rBk zr G.2.1 Sr ++ (kBk zk G.2.1 Sk)))) (pI x (pBk zp (zt 50) (zr 50) (zk 50) G.2.1 Tp ++ (tBk zt G.2.1 Tt ++ (rBk zr G.2.1 Tr ++ (kBk zk G.2.1 Tk)))))) (hnp : As.length = np) (hdd : d' + 1 ≤ d) (hk : k ≤ mc ∧ n ≤ ms) (hst : st0 = As.reverse ++ .ref (zp 50) :: st) (hrm : (st.map fun v => v.category).sum ≤ 8) (kk : J X nL k n (pBk zp (zt 50) (zr 50) (zk 50) G.2.1 Tp ++ (tBk zt G.2.1 Tt ++ (rBk zr G.2.1 Tr ++ (kBk zk G.2.1 Tk)))) q lv (.int x :: st)) : J X nL k n (pBk zp (zt 50) (zr 50) (zk 50) G.2.1 Sp ++ (tBk zt G.2.1 St ++ (rBk zr G.2.1 Sr ++ (kBk zk G.2.1 Sk)))) pc lv st0 := by
  refine j_callM q C hd hq hw hC hnp ⟨hdd, hk.1, hk.2⟩ hst hrm [] [] rfl 0 rfl (ci := 4) (T := TX4) (N := 10) (by rw [hy]; rfl) (fun v w hp => ?_)
  obtain ⟨rfl, rfl⟩ := hp
  exact kk
theorem Lzx_XL {Tp Tt Tr Tk : MS} (q : Nat) (C : Cx X l G cc nL own rt d mc ms post) (hd : decode cc pc = .ok (.invokevirtual idx, 3)) (hq : pc + 3 = q) (hw : CW own idx y cy mL rt' np) (hy : y.cls = RX4) (hC : Con l G y cy mL rt' d' 0 0 (.ref (zp 50) :: As) (pBk zp (zt 50) (zr 50) (zk 50) G.2.1 Sp ++ (tBk zt G.2.1 St ++ (rBk zr G.2.1 Sr ++ (kBk zk G.2.1 Sk)))) (pL xl (pBk zp (zt 50) (zr 50) (zk 50) G.2.1 Tp ++ (tBk zt G.2.1 Tt ++ (rBk zr G.2.1 Tr ++ (kBk zk G.2.1 Tk)))))) (hnp : As.length = np) (hdd : d' + 1 ≤ d) (hk : k ≤ mc ∧ n ≤ ms) (hst : st0 = As.reverse ++ .ref (zp 50) :: st) (hrm : (st.map fun v => v.category).sum ≤ 8) (kk : J X nL k n (pBk zp (zt 50) (zr 50) (zk 50) G.2.1 Tp ++ (tBk zt G.2.1 Tt ++ (rBk zr G.2.1 Tr ++ (kBk zk G.2.1 Tk)))) q lv (.long xl :: st)) : J X nL k n (pBk zp (zt 50) (zr 50) (zk 50) G.2.1 Sp ++ (tBk zt G.2.1 St ++ (rBk zr G.2.1 Sr ++ (kBk zk G.2.1 Sk)))) pc lv st0 := by
  refine j_callM q C hd hq hw hC hnp ⟨hdd, hk.1, hk.2⟩ hst hrm [] [] rfl 0 rfl (ci := 4) (T := TX4) (N := 10) (by rw [hy]; rfl) (fun v w hp => ?_)
  obtain ⟨rfl, rfl⟩ := hp
  exact kk
theorem Lzx_XV {Tp Tt Tr Tk : MS} (q : Nat) (C : Cx X l G cc nL own rt d mc ms post) (hd : decode cc pc = .ok (.invokevirtual idx, 3)) (hq : pc + 3 = q) (hw : CW own idx y cy mL rt' np) (hy : y.cls = RX4) (hC : Con l G y cy mL rt' d' 0 0 (.ref (zp 50) :: As) (pBk zp (zt 50) (zr 50) (zk 50) G.2.1 Sp ++ (tBk zt G.2.1 St ++ (rBk zr G.2.1 Sr ++ (kBk zk G.2.1 Sk)))) (pV (pBk zp (zt 50) (zr 50) (zk 50) G.2.1 Tp ++ (tBk zt G.2.1 Tt ++ (rBk zr G.2.1 Tr ++ (kBk zk G.2.1 Tk)))))) (hnp : As.length = np) (hdd : d' + 1 ≤ d) (hk : k ≤ mc ∧ n ≤ ms) (hst : st0 = As.reverse ++ .ref (zp 50) :: st) (hrm : (st.map fun v => v.category).sum ≤ 8) (kk : J X nL k n (pBk zp (zt 50) (zr 50) (zk 50) G.2.1 Tp ++ (tBk zt G.2.1 Tt ++ (rBk zr G.2.1 Tr ++ (kBk zk G.2.1 Tk)))) q lv st) : J X nL k n (pBk zp (zt 50) (zr 50) (zk 50) G.2.1 Sp ++ (tBk zt G.2.1 St ++ (rBk zr G.2.1 Sr ++ (kBk zk G.2.1 Sk)))) pc lv st0 := by
  refine j_callM q C hd hq hw hC hnp ⟨hdd, hk.1, hk.2⟩ hst hrm [] [] rfl 0 rfl (ci := 4) (T := TX4) (N := 10) (by rw [hy]; rfl) (fun v w hp => ?_)
  obtain ⟨rfl, rfl⟩ := hp
  exact kk
theorem Lzr_XI {P : Int32 → MS × MS → Prop} (q : Nat) (C : Cx X l G cc nL own rt d mc ms post) (hd : decode cc pc = .ok (.invokevirtual idx, 3)) (hq : pc + 3 = q) (hw : CW own idx y cy mL rt' np) (hy : y.cls = RX4) (hC : Con l G y cy mL rt' d' 0 0 (.ref (zp 50) :: As) (pBk zp (zt 50) (zr 50) (zk 50) G.2.1 Sp ++ (tBk zt G.2.1 St ++ (rBk zr G.2.1 Sr ++ (kBk zk G.2.1 Sk)))) (qI (fun s : MS × MS => (pBk zp (zt 50) (zr 50) (zk 50) G.2.1 (s.1) ++ (tBk zt G.2.1 St ++ (rBk zr G.2.1 (s.2) ++ (kBk zk G.2.1 Sk))))) P)) (hnp : As.length = np) (hdd : d' + 1 ≤ d) (hk : k ≤ mc ∧ n ≤ ms) (hst : st0 = As.reverse ++ .ref (zp 50) :: st) (hrm : (st.map fun v => v.category).sum ≤ 8) (kk : ∀ (x : Int32) (s : MS × MS), P x s → J X nL k n (pBk zp (zt 50) (zr 50) (zk 50) G.2.1 (s.1) ++ (tBk zt G.2.1 St ++ (rBk zr G.2.1 (s.2) ++ (kBk zk G.2.1 Sk)))) q lv (.int x :: st)) : J X nL k n (pBk zp (zt 50) (zr 50) (zk 50) G.2.1 Sp ++ (tBk zt G.2.1 St ++ (rBk zr G.2.1 Sr ++ (kBk zk G.2.1 Sk)))) pc lv st0 := by
  refine j_callM q C hd hq hw hC hnp ⟨hdd, hk.1, hk.2⟩ hst hrm [] [] rfl 0 rfl (ci := 4) (T := TX4) (N := 10) (by rw [hy]; rfl) (fun v w hp => ?_)
  obtain ⟨x, s, hp, rfl, rfl⟩ := hp
  exact kk x s hp
theorem Lzr_XV {P : MS × MS → Prop} (q : Nat) (C : Cx X l G cc nL own rt d mc ms post) (hd : decode cc pc = .ok (.invokevirtual idx, 3)) (hq : pc + 3 = q) (hw : CW own idx y cy mL rt' np) (hy : y.cls = RX4) (hC : Con l G y cy mL rt' d' 0 0 (.ref (zp 50) :: As) (pBk zp (zt 50) (zr 50) (zk 50) G.2.1 Sp ++ (tBk zt G.2.1 St ++ (rBk zr G.2.1 Sr ++ (kBk zk G.2.1 Sk)))) (qV (fun s : MS × MS => (pBk zp (zt 50) (zr 50) (zk 50) G.2.1 (s.1) ++ (tBk zt G.2.1 St ++ (rBk zr G.2.1 (s.2) ++ (kBk zk G.2.1 Sk))))) P)) (hnp : As.length = np) (hdd : d' + 1 ≤ d) (hk : k ≤ mc ∧ n ≤ ms) (hst : st0 = As.reverse ++ .ref (zp 50) :: st) (hrm : (st.map fun v => v.category).sum ≤ 8) (kk : ∀ (s : MS × MS), P s → J X nL k n (pBk zp (zt 50) (zr 50) (zk 50) G.2.1 (s.1) ++ (tBk zt G.2.1 St ++ (rBk zr G.2.1 (s.2) ++ (kBk zk G.2.1 Sk)))) q lv st) : J X nL k n (pBk zp (zt 50) (zr 50) (zk 50) G.2.1 Sp ++ (tBk zt G.2.1 St ++ (rBk zr G.2.1 Sr ++ (kBk zk G.2.1 Sk)))) pc lv st0 := by
  refine j_callM q C hd hq hw hC hnp ⟨hdd, hk.1, hk.2⟩ hst hrm [] [] rfl 0 rfl (ci := 4) (T := TX4) (N := 10) (by rw [hy]; rfl) (fun v w hp => ?_)
  obtain ⟨s, hp, rfl, rfl⟩ := hp
  exact kk s hp
end Lc_Lz3
set_option maxHeartbeats 1000000 in
theorem K4_takesThingOfRow (hP : PT tp n Sk c M j Sp) (hv : PV M Sp 21) (ht0 : St.1 0 = nI nt) (hnt : nt ≤ 24) (hm1 : M.2.1 21 1 = nI nt) (h0 : Sr.1 0 = nI q) (hq : q < 12) (hsz : Sr.2.1 2 q = nI i) (hi : i ≤ 12) (hmd : ∀ t, t < i → Sr.2.1 4 (12 * q + t) = M.2.1 21 (34 + 14 * q + 1 + t)) : Con l G yX4_takesThingOfRow cX4_takesThingOfRow 1 (some .boolean) 3 0 0 [.ref (zp 50)] (pBk zp (zt 50) (zr 50) (zk 50) G.2.1 Sp ++ (tBk zt G.2.1 St ++ (rBk zr G.2.1 Sr ++ (kBk zk G.2.1 Sk)))) (qI (fun s : MS × MS => (pBk zp (zt 50) (zr 50) (zk 50) G.2.1 s.1 ++ (tBk zt G.2.1 St ++ (rBk zr G.2.1 s.2 ++ (kBk zk G.2.1 Sk))))) (fun v s => PZ Sk c M j Sp Sr nt q i v s.1 s.2)) := by
  refine Con.mk (own := RX4) (by decide) rfl (Nat.le_of_ble_eq_true rfl) (fun X C => ?_)
  have h19 := hP.2.2.1
  have hN := NV_in (nt := nt) (hv.2.2.2.2.2 rfl) hnt
  refine j_aload_n 1 C dX4_takesThingOfRow_0 rfl rfl ?_
  refine Lzg_p0 4 C dX4_takesThingOfRow_1 rfl fl4_12 ?_
  refine j_aload_n 5 C dX4_takesThingOfRow_4 rfl rfl ?_
  refine Lzg_p7 8 C dX4_takesThingOfRow_5 rfl fl4_87 ?_
  refine Lzx_tI 11 C dX4_takesThingOfRow_8 rfl cw4_147 rfl (K8_hasThing ht0 hnt) rfl (by decide) ⟨Nat.le_refl _, Nat.le_refl _⟩ rfl (Nat.le_of_ble_eq_true rfl) ?_
  refine j_if_eqB 36 14 C dX4_takesThingOfRow_11 (by decide) rfl (fun c11 => ?_) (fun c11 => ?_)
  · refine j_aload_n 37 C dX4_takesThingOfRow_36 rfl rfl ?_
    refine j_iconst 38 C dX4_takesThingOfRow_37 rfl (v := nI 2) (by decide) ?_
    refine Lzx_AI 41 C dX4_takesThingOfRow_38 rfl cw4_93 rfl (K4_rfP hP) rfl (by decide) ⟨Nat.le_refl _, Nat.le_refl _⟩ rfl (Nat.le_of_ble_eq_true rfl) ?_
    have hret : PZ Sk c M j Sp Sr nt q i (nI 0) (rfS Sp Sk (nI 2) (j)) Sr := by
      refine Or.inr ⟨rfl, ?_⟩
      rw [rr_no2 h19 hv (fun z => c11 (hN.1.mpr (by rw [← hm1]; exact z)))]; exact BD_er hP (by decide)
    exact j_zret C dX4_takesThingOfRow_41 rfl ⟨_, ((rfS Sp Sk (nI 2) (j)), Sr), hret, rfl, rfl⟩
  · refine j_aload_n 15 C dX4_takesThingOfRow_14 rfl rfl ?_
    refine Lzg_p1 18 C dX4_takesThingOfRow_15 rfl fl4_21 ?_
    refine j_aload_n 19 C dX4_takesThingOfRow_18 rfl rfl ?_
    refine Lzg_p1 22 C dX4_takesThingOfRow_19 rfl fl4_21 ?_
    refine Lzg_r0 25 C dX4_takesThingOfRow_22 rfl fl4_58 ?_
    refine j_top h0 ?_
    refine j_aload_n 26 C dX4_takesThingOfRow_25 rfl rfl ?_
    refine Lzg_p7 29 C dX4_takesThingOfRow_26 rfl fl4_87 ?_
    refine Lzx_rI 32 C dX4_takesThingOfRow_29 rfl cw4_150 rfl (K5_placeOf hq hsz hi) rfl (by decide) ⟨Nat.le_refl _, Nat.le_refl _⟩ rfl (Nat.le_of_ble_eq_true rfl) ?_
    refine j_iconst 33 C dX4_takesThingOfRow_32 rfl (v := (-1)) (by decide) ?_
    refine j_icmp_eq 42 36 C dX4_takesThingOfRow_33 (by decide) rfl (fun c33 => ?_) (fun c33 => ?_)
    · have hd : ∀ t, t < i → ¬ M.2.1 21 (34 + 14 * q + 1 + t) = M.1 18 := fun t ht z => (plc_m1 i 0 (by omega)).mp c33 t (by omega) (by omega) ((hmd t ht).trans (z.trans (hN.2 c11).1.symm))
      have eX := rr_go (q := q) (c := i) hv (by rw [hm1]; exact hN.1.mp c11) hd
      refine j_aload_n 43 C dX4_takesThingOfRow_42 rfl rfl ?_
      refine Lzg_p1 46 C dX4_takesThingOfRow_43 rfl fl4_21 ?_
      refine j_aload_n 47 C dX4_takesThingOfRow_46 rfl rfl ?_
      refine Lzg_p7 50 C dX4_takesThingOfRow_47 rfl fl4_87 ?_
      refine Lzx_rI 53 C dX4_takesThingOfRow_50 rfl cw4_153 rfl (K5_add h0 hq hsz hi) rfl (by decide) ⟨Nat.le_refl _, Nat.le_refl _⟩ rfl (Nat.le_of_ble_eq_true rfl) ?_
      refine j_if_neB 62 56 C dX4_takesThingOfRow_53 (by decide) rfl (fun c53 => ?_) (fun c53 => ?_)
      · rw [if_pos c53]
        rw [if_neg (by omega)] at eX
        obtain ⟨e7, u, hu, e8⟩ := hN.2 c11
        refine j_aload_n 63 C dX4_takesThingOfRow_62 rfl rfl ?_
        refine Lzx_AV 66 C dX4_takesThingOfRow_63 rfl cw4_97 rfl (K4_adP hP) rfl (by decide) ⟨Nat.le_refl _, Nat.le_refl _⟩ rfl (Nat.le_of_ble_eq_true rfl) ?_
        refine j_iconst 67 C dX4_takesThingOfRow_66 rfl (v := nI 1) (by decide) ?_
        have hret : PZ Sk c M j Sp Sr nt q i (nI 1) (avS Sp Sk (j) (c + 1)) (aS (aS Sr 4 (12 * q + i) (Sp.1 7)) 2 q (nI (i + 1))) := by
          exact Or.inl ⟨rfl, eX, c53, u, hu, e7.symm.trans e8, rfl, by rw [e8]⟩
        exact j_zret C dX4_takesThingOfRow_67 rfl ⟨_, ((avS Sp Sk (j) (c + 1)), (aS (aS Sr 4 (12 * q + i) (Sp.1 7)) 2 q (nI (i + 1)))), hret, rfl, rfl⟩
      · rw [if_neg c53]
        refine j_aload_n 57 C dX4_takesThingOfRow_56 rfl rfl ?_
        refine j_iconst 58 C dX4_takesThingOfRow_57 rfl (v := nI 3) (by decide) ?_
        refine Lzx_AI 61 C dX4_takesThingOfRow_58 rfl cw4_93 rfl (K4_rfP hP) rfl (by decide) ⟨Nat.le_refl _, Nat.le_refl _⟩ rfl (Nat.le_of_ble_eq_true rfl) ?_
        have hret : PZ Sk c M j Sp Sr nt q i (nI 0) (rfS Sp Sk (nI 3) (j)) Sr := by
          refine Or.inr ⟨rfl, ?_⟩
          rw [eX, if_pos (by omega)]; exact BD_er hP (by decide)
        exact j_zret C dX4_takesThingOfRow_61 rfl ⟨_, ((rfS Sp Sk (nI 3) (j)), Sr), hret, rfl, rfl⟩
    · refine j_aload_n 37 C dX4_takesThingOfRow_36 rfl rfl ?_
      refine j_iconst 38 C dX4_takesThingOfRow_37 rfl (v := nI 2) (by decide) ?_
      refine Lzx_AI 41 C dX4_takesThingOfRow_38 rfl cw4_93 rfl (K4_rfP hP) rfl (by decide) ⟨Nat.le_refl _, Nat.le_refl _⟩ rfl (Nat.le_of_ble_eq_true rfl) ?_
      have hret : PZ Sk c M j Sp Sr nt q i (nI 0) (rfS Sp Sk (nI 2) (j)) Sr := by
        refine Or.inr ⟨rfl, ?_⟩
        have e7 := (hN.2 c11).1
        obtain ⟨t, ht1, ht2⟩ : ∃ t, t < i ∧ Sr.2.1 4 (12 * q + t) = Sp.1 7 := Classical.byContradiction fun z => c33 ((plc_m1 i 0 (by omega)).mpr (fun t _ h2 y => z ⟨t, by omega, y⟩))
        rw [rr_no3 h19 hv (by rw [hm1]; exact hN.1.mp c11) ⟨t, ht1, by rw [← hmd t ht1, ht2]; exact e7⟩]; exact BD_er hP (by decide)
      exact j_zret C dX4_takesThingOfRow_41 rfl ⟨_, ((rfS Sp Sk (nI 2) (j)), Sr), hret, rfl, rfl⟩
theorem LR_row {M0 M St Sr0 Sr Sp Sp' : MS} {p q i : Nat} (hL : LR M0 St Sr0 Sp p) (hq : nrw (M0.2.1 21) = q) (hq12 : q < 12) (hB : RB Sr0 Sr q i (fun t => M.2.1 21 (34 + 14 * q + 1 + t))) (h2 : 2 ≤ i) (h12 : i ≤ 12) (hu : ∀ a, (a < 34 + 14 * q + 1 ∨ 34 + 14 * q + 13 ≤ a) → M.2.1 21 a = M0.2.1 21 a) (hth : ∀ t, t < i → ∃ u, u < nth (M0.2.1 21) ∧ M.2.1 21 (34 + 14 * q + 1 + t) = nI u) (h22 : M.1 22 = M0.1 22) (h23 : M.2.1 23 = M0.2.1 23) (h8 : SE Sp Sp') (h9' : Sp'.2.1 9 = Sp.2.1 9) : LR (rrZ M q i) St (sS Sr 0 (nI (q + 1))) Sp' p := by
  obtain ⟨⟨hT, hR, hU, hW⟩, ⟨p1, p2⟩, hpp, h9⟩ := hL
  obtain ⟨⟨b1, b2⟩, b3, b4, b5, b6, b7⟩ := hB
  have f2 : (rrZ M q i).2.1 21 2 = nI (q + 1) := by unfold rrZ; rw [aS_at, pk_us]
  have fz : (rrZ M q i).2.1 21 (34 + 14 * q) = nI i := by unfold rrZ; rw [aS_at, pk_un (by omega), aS_at, pk_us]
  have fo : ∀ a, ¬ a = 2 → ¬ a = 34 + 14 * q → (rrZ M q i).2.1 21 a = M.2.1 21 a := fun a g1 g2 => by unfold rrZ; rw [aS_at, pk_un g1, aS_at, pk_un g2]
  have hm : (rrZ M q i).1 22 = M.1 22 ∧ (rrZ M q i).2.1 23 = M.2.1 23 := ⟨rfl, rfl⟩
  unfold LR
  rw [hm.1, hm.2, h22, h23, h8.1, h8.2.1, h8.2.2, h9']
  generalize hf : (rrZ M q i).2.1 21 = f at f2 fz fo ⊢
  have hv : ∀ a, ¬ a = 2 → (a < 34 + 14 * q ∨ 34 + 14 * q + 13 ≤ a) → f a = M0.2.1 21 a := fun a g1 g2 => (fo a g1 (by omega)).trans (hu a (by omega))
  have hn1 : nth f = nth (M0.2.1 21) := by unfold nth; rw [hv 1 (by omega) (by omega)]
  have hr1 : nrw f = q + 1 := by unfold nrw; rw [f2, tn_nI (by omega)]
  have hlq : len f q = i := by unfold len; rw [fz, tn_nI (by omega)]
  have hl : ∀ r, r < q → len f r = len (M0.2.1 21) r := fun r hr => by unfold len; rw [hv _ (by omega) (by omega)]
  have hL2 : TL St f := TL_ext (fun a ha => hv a (by omega) (by omega)) rfl rfl rfl rfl rfl (TT_L hT)
  have h24 := hW.2.1.2
  obtain ⟨⟨t1, t2, t3⟩, t4, t5, -, -, t6⟩ := hT
  refine ⟨⟨⟨⟨by rw [hv 1 (by omega) (by omega)]; exact t1, by rw [hv 0 (by omega) (by omega)]; exact t2, by rw [hv 4 (by omega) (by omega)]; exact t3⟩, fun a ha => ?_, fun s hs => by rw [hv _ (by omega) (by omega)]; exact t5 s hs, hL2.1, hL2.2, by rw [hv 4 (by omega) (by omega)]; exact t6⟩, ⟨f2.symm, fun r hr => ?_⟩, ⟨?_, fun r hr => ?_⟩, ⟨WL_ext (fun a g1 g2 => hv a (by omega) (by omega)) hW.1, ⟨by rw [hn1, hv 1 (by omega) (by omega)]; exact hW.2.1.1, by omega⟩, ⟨by rw [hr1]; exact f2, by omega⟩, fun r hr => ?_⟩⟩, ⟨p1, by rw [hv 3 (by omega) (by omega)]; exact p2⟩, hpp, by rw [hv 9 (by omega) (by omega)]; exact h9.1, fun r hr => ?_⟩
  · rw [hn1] at ha
    rw [hv _ (by omega) (by omega)]; exact t4 a ha
  · rw [hr1] at hr
    by_cases e : r = q
    · subst e
      refine ⟨b5.trans fz.symm, fun t ht => ?_⟩
      rw [hlq] at ht
      rw [fo _ (by omega) (by omega)]
      exact b7 t ht
    · have hlt : r < q := by omega
      have hh := hR.2 r (by omega)
      have hlen := (WF_len hW (r := r) (by omega)).2.1
      refine ⟨?_, fun t ht => ?_⟩
      · show Sr.2.1 2 r = _
        rw [(b3 r hlt).1, hv _ (by omega) (by omega)]; exact hh.1
      · rw [hl r hlt] at ht
        show Sr.2.1 4 (12 * r + t) = _
        rw [b4 _ (by omega), hv _ (by omega) (by omega)]; exact hh.2 t ht
  · show Sr.1 1 = _
    rw [b2, hv 9 (by omega) (by omega)]; exact hU.1
  · rw [hr1] at hr
    show Sr.2.1 3 r = _
    rw [hv _ (by omega) (by omega)]
    by_cases e : r = q
    · subst e; rw [b6]; exact (h9.2 r hq12).symm
    · rw [(b3 r (by omega)).2]; exact hU.2 r (by omega)
  · rw [hr1] at hr
    by_cases e : r = q
    · subst e
      rw [hlq]
      refine ⟨⟨fz, h2, h12⟩, fun t ht => ?_⟩
      obtain ⟨u, hu1, hu2⟩ := hth t ht
      have e1 : f (34 + 14 * r + 1 + t) = nI u := (fo _ (by omega) (by omega)).trans hu2
      have e2 : th f r t = u := by unfold th; rw [e1, tn_nI (by omega)]
      rw [e2, hn1]; exact ⟨e1, hu1⟩
    · have hlt : r < q := by omega
      have hh := hW.2.2.2 r (by omega)
      rw [hl r hlt]
      refine ⟨by rw [hv _ (by omega) (by omega)]; exact hh.1, fun t ht => ?_⟩
      have e2 : th f r t = th (M0.2.1 21) r t := by unfold th; rw [hv _ (by omega) (by omega)]
      rw [e2, hn1, hv _ (by omega) (by omega)]; exact hh.2 t ht
  · rw [hv _ (by omega) (by omega)]; exact h9.2 r hr
/-- what is left of readRow(), i THINGS standing -/
def rrS (M : MS) (q i : Nat) : MS := if i < 2 ∨ M.1 17 = nI 2 then rrF q (13 - i) i M else rrZ M q i
theorem rrS_s {M : MS} {q i : Nat} (h19 : M.1 19 = 0) (h : M.1 17 = nI 2) (hi : i < 12) (hx : rrX M q i = M) : rrS M q i = rrS (adM (aS M 21 (34 + 14 * q + 1 + i) (M.1 18))) q (i + 1) := by
  have e : rrY M q i = adM (aS M 21 (34 + 14 * q + 1 + i) (M.1 18)) := by unfold rrY; rw [hx]
  unfold rrS
  rw [if_pos (Or.inr h), show 13 - i = 13 - (i + 1) + 1 by omega, rrF, hx, if_pos h19, e]
theorem rrS_b {M : MS} {q i : Nat} (h : M.1 17 = nI 2) (hi : i ≤ 12) (hx : ¬ (rrX M q i).1 19 = 0) : rrS M q i = rrX M q i := by
  unfold rrS
  rw [if_pos (Or.inr h), show 13 - i = 12 - i + 1 by omega, rrF, if_neg hx]
theorem rrS_e {M : MS} {q i : Nat} (hi : i < 2) (hx : ¬ (rrX M q i).1 19 = 0) : rrS M q i = rrX M q i := by
  unfold rrS
  rw [if_pos (Or.inl hi), show 13 - i = 12 - i + 1 by omega, rrF, if_neg hx]
set_option maxHeartbeats 1000000 in
theorem K4_takesRow (hP : PT tp n Sk c M j Sp) (hL : LR M St Sr Sp p) (h5 : 5 * p ≤ lxF tp n (pz tp n j)) (hk : Sp.1 6 = nI 17) : Con l G yX4_takesRow cX4_takesRow 2 (some .boolean) 4 0 0 [.ref (zp 50)] (pBk zp (zt 50) (zr 50) (zk 50) G.2.1 Sp ++ (tBk zt G.2.1 St ++ (rBk zr G.2.1 Sr ++ (kBk zk G.2.1 Sk)))) (qI (fun s : MS × MS × MS => (pBk zp (zt 50) (zr 50) (zk 50) G.2.1 s.1 ++ (tBk zt G.2.1 s.2.1 ++ (rBk zr G.2.1 s.2.2 ++ (kBk zk G.2.1 Sk))))) (fun x s => PQ tp n Sk c (lxF tp n (pz tp n j)) (lineN M n) x s.2.1 s.2.2 s.1)) := by
  refine Con.mk (own := RX4) (by decide) rfl (Nat.le_of_ble_eq_true rfl) (fun X C => ?_)
  have h19 := hP.2.2.1
  obtain ⟨hv, hj0, -⟩ := PT_w hP hk (by omega)
  have hW := hL.1.2.2.2
  have hnt := hW.2.1.2
  have hn12 := hW.2.2.1.2
  have hnt0 : St.1 0 = nI (nth (M.2.1 21)) := hL.1.1.1.1.trans hW.2.1.1
  have h0 : Sr.1 0 = nI (nrw (M.2.1 21)) := hL.1.2.1.1.trans hW.2.2.1.1
  have hq2 : M.2.1 21 2 = nI 12 → nrw (M.2.1 21) = 12 := fun z => by unfold nrw; rw [z]; rfl
  refine j_aload_n 1 C dX4_takesRow_0 rfl rfl ?_
  refine Lzg_p1 4 C dX4_takesRow_1 rfl fl4_21 ?_
  refine Lzx_rI 7 C dX4_takesRow_4 rfl cw4_131 rfl (K5_isFull h0 (by omega)) rfl (by decide) ⟨Nat.le_refl _, Nat.le_refl _⟩ rfl (Nat.le_of_ble_eq_true rfl) ?_
  refine j_if_eqB 16 10 C dX4_takesRow_7 (by decide) rfl (fun c7 => ?_) (fun c7 => ?_)
  · obtain ⟨q, hq⟩ : ∃ q, nrw (M.2.1 21) = q := ⟨_, rfl⟩
    have eN : lineN M n = lnT2 (rrF q 13 0 (adM M)) := by
      rw [line_ok h19 (lnX_of hv (by omega) (fun z => by omega) (fun z => by omega) (fun z => by have := hq2 z.2; omega)), lnY_2 hv, ← hq]; rfl
    have hq12 : q < 12 := by omega
    rw [hq] at h0
    have hP1 := PT_ad hP hj0
    have hn1 := pz_next hP hj0
    have lp29 : ∀ (m : Nat) (i ji : Nat) (Mi S Rw : MS), 12 - i = m → i ≤ 12 → PT tp n Sk c Mi ji S → RB Sr Rw q i (fun t => Mi.2.1 21 (34 + 14 * q + 1 + t)) → (∀ a, (a < 34 + 14 * q + 1 ∨ 34 + 14 * q + 13 ≤ a) → Mi.2.1 21 a = M.2.1 21 a) → (∀ t, t < i → ∃ u, u < nth (M.2.1 21) ∧ Mi.2.1 21 (34 + 14 * q + 1 + t) = nI u) → Mi.1 22 = M.1 22 → Mi.2.1 23 = M.2.1 23 → SE Sp S → S.2 = Sp.2 → rrS Mi q i = (rrF q 13 0 (adM M)) → lxF tp n (pz tp n j) < lxF tp n (pz tp n ji) → J X 2 0 0 (pBk zp (zt 50) (zr 50) (zk 50) G.2.1 S ++ (tBk zt G.2.1 St ++ (rBk zr G.2.1 Rw ++ (kBk zk G.2.1 Sk)))) 29 [(0, .ref (zp 50)), (1, .int (nI i))] [] := by
      intro m
      induction m using Nat.strongRecOn with
      | ind m ilp29 =>
      intro i ji Mi S Rw hm hi hQ hB hu hth h22 h23 hS8 hS9 hR hjj
      obtain ⟨k, hv, he, -⟩ := PT_v hQ; have hk24 := hv.1.2
      refine j_iload_n 30 C dX4_takesRow_29 rfl rfl ?_
      refine j_bipush 32 C dX4_takesRow_30 rfl (v := nI 12) (by decide) ?_
      refine j_icmp_gtN 59 35 C dX4_takesRow_32 (by decide) rfl (by omega) (by omega) (fun c32 => absurd c32 (by omega)) (fun c32 => ?_)
      refine j_aload_n 36 C dX4_takesRow_35 rfl rfl ?_
      refine Lzg_p6 39 C dX4_takesRow_36 rfl fl4_47 ?_
      refine j_top hv.1.1 ?_
      refine j_bipush 41 C dX4_takesRow_39 rfl (v := nI 21) (by decide) ?_
      refine j_icmp_neN 59 44 C dX4_takesRow_41 (by decide) rfl (by omega) (by omega) (fun c41 => ?_) (fun c41 => ?_)
      · refine j_aload_n 60 C dX4_takesRow_59 rfl rfl ?_
        refine Lzg_p1 63 C dX4_takesRow_60 rfl fl4_21 ?_
        refine Lzg_r2 66 C dX4_takesRow_63 rfl fl4_140 ?_
        refine j_aload_n 67 C dX4_takesRow_66 rfl rfl ?_
        refine Lzg_p1 70 C dX4_takesRow_67 rfl fl4_21 ?_
        refine Lzg_r0 73 C dX4_takesRow_70 rfl fl4_58 ?_
        refine j_top hB.1.1 ?_
        refine Lza_r2 74 C dX4_takesRow_73 rfl q (by omega) rfl ?_
        refine j_top hB.2.2.2.1 ?_
        refine j_iconst 75 C dX4_takesRow_74 rfl (v := nI 2) (by decide) ?_
        refine j_icmp_geN 84 78 C dX4_takesRow_75 (by decide) rfl (by omega) (by omega) (fun c75 => ?_) (fun c75 => ?_)
        · have eZ : rrF q 13 0 (adM M) = rrZ Mi q i := by rw [← hR]; unfold rrS; rw [if_neg (fun z => z.elim (fun z => by omega) (fun z => c41 (hv.2.2.1.mp z)))]
          have hZ : LR (rrZ Mi q i) St (sS Rw 0 (nI (q + 1))) S p := LR_row hL hq hq12 hB c75 hi hu hth h22 h23 hS8 (by rw [hS9])
          have hQz : PT tp n Sk c (rrZ Mi q i) ji S := PT_aS (PT_aS hQ (by decide)) (by decide)
          refine j_aload_n 85 C dX4_takesRow_84 rfl rfl ?_
          refine Lzg_p1 88 C dX4_takesRow_85 rfl fl4_21 ?_
          refine Lzx_rI 91 C dX4_takesRow_88 rfl cw4_143 rfl (K5_close hB.1.1 hq12) rfl (by decide) ⟨Nat.le_refl _, Nat.le_refl _⟩ rfl (Nat.le_of_ble_eq_true rfl) ?_
          refine j_pop 92 C dX4_takesRow_91 rfl rfl ?_
          refine j_aload_n 93 C dX4_takesRow_92 rfl rfl ?_
          refine j_bipush 95 C dX4_takesRow_93 rfl (v := nI 22) (by decide) ?_
          refine Lzx_AI 98 C dX4_takesRow_95 rfl cw4_122 rfl (K4_tkP hQz) rfl (by decide) ⟨Nat.le_refl _, Nat.le_refl _⟩ rfl (Nat.le_of_ble_eq_true rfl) ?_
          have hq : PQ tp n Sk c (lxF tp n (pz tp n j)) (lineN M n) (bI (S.1 6 = nI 22)) St (sS Rw 0 (nI (q + 1))) (if S.1 6 = nI 22 then (avS S Sk (ji) (c + 1)) else (rfS S Sk (nI 1) (ji))) := by
            rw [eN, eZ]; exact PQ_semi hQz hZ (by omega) (by omega)
          exact j_zret C dX4_takesRow_98 (bI_nar _) ⟨_, ((if S.1 6 = nI 22 then (avS S Sk (ji) (c + 1)) else (rfS S Sk (nI 1) (ji))), St, (sS Rw 0 (nI (q + 1)))), hq, rfl, rfl⟩
        · refine j_aload_n 79 C dX4_takesRow_78 rfl rfl ?_
          refine j_iconst 80 C dX4_takesRow_79 rfl (v := nI 1) (by decide) ?_
          refine Lzx_AI 83 C dX4_takesRow_80 rfl cw4_93 rfl (K4_rfP hQ) rfl (by decide) ⟨Nat.le_refl _, Nat.le_refl _⟩ rfl (Nat.le_of_ble_eq_true rfl) ?_
          have hb : BD (lineN M n) (rfS S Sk (nI 1) (ji)) := by
            have hb := rr_no1 (q := q) (c := i) hQ.2.2.1 hv c41
            rw [eN, ← hR, rrS_e (by omega) (by rw [hb]; exact er_19 (by decide)), hb, T2_bad (er_19 (by decide))]; exact BD_er hQ (by decide)
          exact j_zret C dX4_takesRow_83 rfl ⟨_, ((rfS S Sk (nI 1) (ji)), St, Rw), Or.inr ⟨rfl, hb⟩, rfl, rfl⟩
      · subst c41
        refine j_aload_n 45 C dX4_takesRow_44 rfl rfl ?_
        refine Lzr_XI 48 C dX4_takesRow_45 rfl cw4_137 rfl (K4_takesThingOfRow (i := i) (q := q) hQ hv hnt0 hnt (by rw [hu 1 (by omega)]; exact hW.2.1.1) hB.1.1 hq12 hB.2.2.2.1 hi hB.2.2.2.2.2) rfl (by decide) ⟨Nat.le_refl _, Nat.le_refl _⟩ rfl (Nat.le_of_ble_eq_true rfl) (fun x45 s45 h45 => ?_)
        refine j_if_ne 53 51 C dX4_takesRow_48 (by decide) rfl (fun c48 => ?_) (fun c48 => ?_)
        · obtain ⟨hx, hi12, u, hu1, hu2, g1, g2⟩ := (h45.resolve_right (fun z => c48 z.1)).2
          rw [g1, g2]
          have hj2 : ¬ ji = c := fun z => by have := he.mpr z; omega
          have hN := pz_next hQ hj2
          have h17 := hv.2.2.1.mpr rfl
          refine j_iincN 56 (z := 1) C dX4_takesRow_53 rfl rfl rfl (by decide) ?_
          refine j_goto 29 C dX4_takesRow_56 (by decide) ?_
          exact j_weak _ (by exact ⟨rfl, rfl, trivial⟩) (ilp29 _ (by omega) (i + 1) (ji + 1) _ _ _ rfl (by omega) (PT_ad (M := aS Mi 21 (34 + 14 * q + 1 + i) (Mi.1 18)) (PT_aS hQ (by decide)) hj2) (by
          have hA := RB_add (x := nI u) (md := fun t => (adM (aS Mi 21 (34 + 14 * q + 1 + i) (Mi.1 18))).2.1 21 (34 + 14 * q + 1 + t)) (S := Rw) (S0 := Sr) (nr := q) (j := i) ⟨hB.1, hB.2.1, hB.2.2.1, hB.2.2.2.1, hB.2.2.2.2.1, fun t ht => by show _ = (adM _).2.1 21 (34 + 14 * q + 1 + t); rw [adM_2, aS_at, pk_un (by omega)]; exact hB.2.2.2.2.2 t ht⟩ hi12 (by show _ = (adM _).2.1 21 (34 + 14 * q + 1 + i); rw [adM_2, aS_at, pk_us]; exact hu2.symm)
          rw [if_pos hi12] at hA; exact hA) (fun a ha => by rw [adM_2, aS_at, pk_un (by omega)]; exact hu a ha) (fun t ht => by
          rw [adM_2, aS_at]
          by_cases z : t = i
          · subst z; rw [pk_us]; exact ⟨u, hu1, hu2⟩
          · rw [pk_un (by omega)]; exact hth t (by omega)) ((adM_1 (by omega)).trans h22) (by rw [adM_2, aS_n (by decide)]; exact h23) (SE_t hS8 lk_8.1) (lk_8.2.trans hS9) (by rw [← rrS_s hQ.2.2.1 h17 hi12 hx]; exact hR) (by omega))
        · refine j_iconst 52 C dX4_takesRow_51 rfl (v := nI 0) (by decide) ?_
          have hb : BD (lineN M n) s45.1 := by
            have hb := (h45.resolve_left (fun z => absurd (z.1.symm.trans c48) (by decide))).2
            rw [eN, ← hR, rrS_b (hv.2.2.1.mpr rfl) hi hb.1, T2_bad hb.1]; exact hb
          exact j_zret C dX4_takesRow_52 rfl ⟨_, (s45.1, St, s45.2), Or.inr ⟨rfl, hb⟩, rfl, rfl⟩
    refine j_aload_n 17 C dX4_takesRow_16 rfl rfl ?_
    refine Lzx_AV 20 C dX4_takesRow_17 rfl cw4_97 rfl (K4_adP hP) rfl (by decide) ⟨Nat.le_refl _, Nat.le_refl _⟩ rfl (Nat.le_of_ble_eq_true rfl) ?_
    refine j_aload_n 21 C dX4_takesRow_20 rfl rfl ?_
    refine Lzg_p1 24 C dX4_takesRow_21 rfl fl4_21 ?_
    refine Lzx_rV 27 C dX4_takesRow_24 rfl cw4_134 rfl (K5_begin h0 hq12) rfl (by decide) ⟨Nat.le_refl _, Nat.le_refl _⟩ rfl (Nat.le_of_ble_eq_true rfl) ?_
    refine j_iconst 28 C dX4_takesRow_27 rfl (v := nI 0) (by decide) ?_
    refine j_istore_n 29 C dX4_takesRow_28 rfl rfl (by decide) ?_
    exact j_weak _ (by exact ⟨rfl, rfl, trivial⟩) (lp29 _ 0 (j + 1) (adM M) _ _ rfl (by omega) hP1 (RB_0 h0 _) (fun a _ => by rw [adM_2]) (fun t ht => absurd ht (Nat.not_lt_zero _)) (adM_1 (by omega)) (by rw [adM_2]) lk_8.1 lk_8.2 (by unfold rrS; rw [if_pos (Or.inl (by omega))]) (by omega))
  · refine j_aload_n 11 C dX4_takesRow_10 rfl rfl ?_
    refine j_iconst 12 C dX4_takesRow_11 rfl (v := nI 3) (by decide) ?_
    refine Lzx_AI 15 C dX4_takesRow_12 rfl cw4_93 rfl (K4_rfP hP) rfl (by decide) ⟨Nat.le_refl _, Nat.le_refl _⟩ rfl (Nat.le_of_ble_eq_true rfl) ?_
    have hb : BD (lineN M n) (rfS Sp Sk (nI 3) (j)) := by
      rw [lnC_3 h19 hv (Or.inr ⟨rfl, by rw [hW.2.2.1.1]; congr 1; omega⟩)]; exact BD_er hP (by decide)
    exact j_zret C dX4_takesRow_15 rfl ⟨_, ((rfS Sp Sk (nI 3) (j)), St, Sr), Or.inr ⟨rfl, hb⟩, rfl, rfl⟩
end SQ6
