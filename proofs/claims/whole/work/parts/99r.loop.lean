theorem and63 (x : Int32) : ∃ t, t < 64 ∧ (x &&& nI 63) = nI t := by
  refine ⟨(x.toBitVec &&& 63#32).toNat, ?_, ?_⟩
  · rw [BitVec.toNat_and]
    exact Nat.lt_of_le_of_lt Nat.and_le_right (by decide)
  · apply Int32.toBitVec_inj.mp
    rw [Int32.toBitVec_and]
    apply BitVec.eq_of_toNat_eq
    have h : (x.toBitVec &&& 63#32).toNat < 2 ^ 32 := (x.toBitVec &&& 63#32).isLt
    show (x.toBitVec &&& (nI 63).toBitVec).toNat = (nI (x.toBitVec &&& 63#32).toNat).toBitVec.toNat
    have e : (nI 63).toBitVec = 63#32 := rfl
    rw [e]
    generalize (x.toBitVec &&& 63#32).toNat = t at h
    show t = (BitVec.ofNat 32 t).toNat
    rw [BitVec.toNat_ofNat, Nat.mod_eq_of_lt h]
theorem HH0 : HH MS0 [] (fun _ => 0) := ⟨rfl, by show 0 ≤ 528; omega, fun i hi => absurd hi (Nat.not_lt_zero _), List.nodup_nil, fun c hc => absurd hc List.not_mem_nil, fun c hc => by rw [if_neg List.not_mem_nil]; rfl, fun _ => Nat.zero_le _, fun _ _ => rfl⟩
theorem TG_00 : TG (fun _ => 0) MS0 MS0 := by
  have hn : nth (fun _ => (0 : Int32)) = 0 := rfl
  have hw : nrw (fun _ => (0 : Int32)) = 0 := rfl
  refine ⟨⟨⟨rfl, rfl, rfl⟩, fun i hi => absurd hi (by rw [hn]; omega), fun s hs => ⟨?_, 0, by omega, rfl⟩, ⟨0, rfl, by omega, fun k hk => absurd hk (Nat.not_lt_zero _), fun lw hl => ⟨0, 0, rfl, rfl, Nat.le_refl _, rfl, rfl, fun q => absurd q (Nat.lt_irrefl _)⟩⟩, fun lw h1 h2 => ⟨rfl, rfl⟩, 0, by omega, rfl⟩, ⟨rfl, fun r hr => absurd hr (by rw [hw]; omega)⟩, ⟨rfl, fun r hr => absurd hr (by rw [hw]; omega)⟩, ⟨fun lw hl => ⟨0, 0, rfl, rfl, by omega⟩, ⟨rfl, by rw [hn]; omega⟩, ⟨rfl, by rw [hw]; omega⟩, fun r hr => absurd hr (by rw [hw]; omega)⟩⟩
  rw [if_neg (nI_m1 s hs)]; rfl
/-- the beginning -/
theorem NR_0 {G : GG} {zn zs zm zh zt zr zb : Nat → Nat} {w : va_W} (hp : w.Perm (cW G zn zs zm zh zt zr zb (sS MS0 3 (-1)) MS0 SM0 MS0 MS0 MS0 MS0 (fun _ => none) (fun _ => none) none none [])) : NR G MR0 0 (zn 50) w := by
  refine ⟨zn, zs, zm, zh, zt, zr, zb, sS MS0 3 (-1), MS0, SM0, MS0, MS0, MS0, MS0, fun _ => none, fun _ => none, none, none, fun _ => [], ⟨rfl, hp⟩, ⟨⟨TG_00, 0, 0, 0, ⟨⟨[], fun _ => 0, HH0, fun _ _ => rfl, ⟨rfl, rfl⟩, ⟨rfl, rfl⟩, fun c hc => absurd hc List.not_mem_nil⟩, by omega, by omega⟩, ⟨rfl, rfl, by omega⟩, fun j hj => absurd hj (by omega), Or.inl ⟨rfl, rfl⟩, fun i hi => absurd hi (Nat.not_lt_zero _)⟩, ⟨rfl, rfl⟩, ⟨0, by omega, rfl, rfl, fun j hj => absurd hj (Nat.not_lt_zero _), fun j hj => absurd hj (Nat.not_lt_zero _)⟩, ⟨rfl, rfl⟩, rfl, rfl⟩, fun k hk => Or.inl ⟨rfl, rfl, ?_⟩, fun s hs => ⟨⟨0, by omega, rfl⟩, Or.inl ⟨rfl, rfl, ?_⟩⟩, Or.inl ⟨rfl, rfl⟩, Or.inl ⟨rfl, rfl⟩⟩
  · obtain rfl | rfl | rfl : k = 0 ∨ k = 1 ∨ k = 2 := by omega
    all_goals rfl
  · obtain rfl | rfl | rfl | rfl : s = 0 ∨ s = 1 ∨ s = 2 ∨ s = 3 := by omega
    all_goals rfl
section SL4
variable {X : JX} {l : Launch} {G : GG} {b L o1 o2 : Nat} {xs : Nat → Int32} {ad : Nat → Nat}
theorem lw_loop (C : Cx X l G code 4 R_law (some .boolean) 1400 67778 8898916 (fun v _ => v = some (.int 1))) (hX : SX X b L xs) (hL : L ≤ 3072) : ∀ (r c : Nat) (w : va_W) (M : MS), L - 6 * c = r → 6 * c ≤ L → NR G M c o1 w → J X 4 (44 + 26 * c) (38104 + 15339 * c) (w ++ mw o2 ad G.2.1 M) 18 [(3, .int (nI (6 * c))), (2, .ref o2), (1, .ref o1), (0, .ref b)] [] := by
  intro r
  induction r using Nat.strongRecOn with
  | ind r ih =>
  intro c w M hr hcL hN
  refine j_iload_n 19 C dL_law_18 rfl rfl ?_
  refine j_aload_n 20 C dL_law_19 rfl rfl ?_
  refine j_alenX 21 C hX dL_law_20 rfl ?_
  refine j_bipush 23 C dL_law_21 rfl (v := nI 6) (by decide) ?_
  refine j_isub 24 C dL_law_23 rfl ?_
  have hcmp : nI L - nI 6 < nI (6 * c) ↔ L < 6 * c + 6 := by
    rw [Int32.lt_iff_toInt_lt, pk_sub_toInt (by omega) (by omega), nI_toInt (by omega)]; omega
  refine j_icmp_gt 1689 27 C dL_law_24 (by decide) rfl (fun c24 => ?_) (fun c24 => ?_)
  · refine j_widen 67778 8898916 (by omega) (by omega) ?_
    refine j_iconst 1690 C dL_law_1689 rfl (v := nI 1) (by decide) ?_
    exact j_zret C dL_law_1690 rfl rfl
  · have hi : 6 * c + 6 ≤ L := by
      by_cases z : L < 6 * c + 6
      · exact absurd (hcmp.mpr z) c24
      · omega
    refine j_aload_n 28 C dL_law_27 rfl rfl ?_
    refine j_iload_n 29 C dL_law_28 rfl rfl ?_
    refine j_ialdX 30 C hX hL dL_law_29 rfl _ (by omega) rfl ?_
    refine j_bipush 32 C dL_law_30 rfl (v := nI 63) (by decide) ?_
    refine j_iand 33 C dL_law_32 rfl ?_
    obtain ⟨t, ht, et⟩ := and63 (xs (6 * c))
    refine j_top et ?_
    have bk : ∀ (w' : va_W) (N : MS), NR G N (c + 1) o1 w' → J X 4 (44 + 26 * c + 26) (38104 + 15339 * c + 15339) (w' ++ mw o2 ad G.2.1 N) 1683 [(3, .int (nI (6 * c))), (2, .ref o2), (1, .ref o1), (0, .ref b)] [] := by
      intro w' N hN'
      refine j_iincN 1686 (z := 6) C dL_law_1683 rfl rfl rfl (by decide) ?_
      refine j_goto 18 C dL_law_1686 (by decide) ?_
      have h := ih (L - 6 * (c + 1)) (by omega) (c + 1) w' N rfl (by omega) hN'
      rw [show 44 + 26 * (c + 1) = 44 + 26 * c + 26 by omega, show 38104 + 15339 * (c + 1) = 38104 + 15339 * c + 15339 by omega, show 6 * (c + 1) = 6 * c + 6 by omega] at h
      exact j_weak _ (by exact ⟨rfl, rfl, rfl, rfl, trivial⟩) h
    by_cases e0 : t = 0
    · subst e0
      refine j_tabIn 224 C dL_law_33 (by decide) (by decide) rfl (by decide) ?_
      exact lwc_0 C (by omega) hX hL hi ⟨by omega, by omega⟩ hN (by omega) bk
    by_cases e1 : t = 1
    · subst e1
      refine j_tabIn 287 C dL_law_33 (by decide) (by decide) rfl (by decide) ?_
      exact lwc_1 C (by omega) hX hL hi ⟨by omega, by omega⟩ hN (by omega) bk
    by_cases e2 : t = 2
    · subst e2
      refine j_tabIn 310 C dL_law_33 (by decide) (by decide) rfl (by decide) ?_
      exact lwc_2 C (by omega) hX hL hi ⟨by omega, by omega⟩ hN (by omega) bk
    by_cases e3 : t = 3
    · subst e3
      refine j_tabIn 323 C dL_law_33 (by decide) (by decide) rfl (by decide) ?_
      exact lwc_3 C (by omega) hX hL hi ⟨by omega, by omega⟩ hN (by omega) bk
    by_cases e4 : t = 4
    · subst e4
      refine j_tabIn 346 C dL_law_33 (by decide) (by decide) rfl (by decide) ?_
      exact lwc_4 C (by omega) hX hL hi ⟨by omega, by omega⟩ hN (by omega) bk
    by_cases e5 : t = 5
    · subst e5
      refine j_tabIn 379 C dL_law_33 (by decide) (by decide) rfl (by decide) ?_
      exact lwc_5 C (by omega) hX hL hi ⟨by omega, by omega⟩ hN (by omega) bk
    by_cases e6 : t = 6
    · subst e6
      refine j_tabIn 402 C dL_law_33 (by decide) (by decide) rfl (by decide) ?_
      exact lwc_6 C (by omega) hX hL hi ⟨by omega, by omega⟩ hN (by omega) bk
    by_cases e7 : t = 7
    · subst e7
      refine j_tabIn 425 C dL_law_33 (by decide) (by decide) rfl (by decide) ?_
      exact lwc_7 C (by omega) hX hL hi ⟨by omega, by omega⟩ hN (by omega) bk
    by_cases e8 : t = 8
    · subst e8
      refine j_tabIn 468 C dL_law_33 (by decide) (by decide) rfl (by decide) ?_
      exact lwc_8 C (by omega) hX hL hi ⟨by omega, by omega⟩ hN (by omega) bk
    by_cases e9 : t = 9
    · subst e9
      refine j_tabIn 491 C dL_law_33 (by decide) (by decide) rfl (by decide) ?_
      exact lwc_9 C (by omega) hX hL hi ⟨by omega, by omega⟩ hN (by omega) bk
    by_cases e10 : t = 10
    · subst e10
      refine j_tabIn 524 C dL_law_33 (by decide) (by decide) rfl (by decide) ?_
      exact lwc_10 C (by omega) hX hL hi ⟨by omega, by omega⟩ hN (by omega) bk
    by_cases e11 : t = 11
    · subst e11
      refine j_tabIn 547 C dL_law_33 (by decide) (by decide) rfl (by decide) ?_
      exact lwc_11 C (by omega) hX hL hi ⟨by omega, by omega⟩ hN (by omega) bk
    by_cases e12 : t = 12
    · subst e12
      refine j_tabIn 570 C dL_law_33 (by decide) (by decide) rfl (by decide) ?_
      exact lwc_12 C (by omega) hX hL hi ⟨by omega, by omega⟩ hN (by omega) bk
    by_cases e13 : t = 13
    · subst e13
      refine j_tabIn 593 C dL_law_33 (by decide) (by decide) rfl (by decide) ?_
      exact lwc_13 C (by omega) hX hL hi ⟨by omega, by omega⟩ hN (by omega) bk
    by_cases e14 : t = 14
    · subst e14
      refine j_tabIn 616 C dL_law_33 (by decide) (by decide) rfl (by decide) ?_
      exact lwc_14 C (by omega) hX hL hi ⟨by omega, by omega⟩ hN (by omega) bk
    by_cases e15 : t = 15
    · subst e15
      refine j_tabIn 649 C dL_law_33 (by decide) (by decide) rfl (by decide) ?_
      exact lwc_15 C (by omega) hX hL hi ⟨by omega, by omega⟩ hN (by omega) bk
    by_cases e16 : t = 16
    · subst e16
      refine j_tabIn 672 C dL_law_33 (by decide) (by decide) rfl (by decide) ?_
      exact lwc_16 C (by omega) hX hL hi ⟨by omega, by omega⟩ hN (by omega) bk
    by_cases e17 : t = 17
    · subst e17
      refine j_tabIn 695 C dL_law_33 (by decide) (by decide) rfl (by decide) ?_
      exact lwc_17 C (by omega) hX hL hi ⟨by omega, by omega⟩ hN (by omega) bk
    by_cases e18 : t = 18
    · subst e18
      refine j_tabIn 728 C dL_law_33 (by decide) (by decide) rfl (by decide) ?_
      exact lwc_18 C (by omega) hX hL hi ⟨by omega, by omega⟩ hN (by omega) bk
    by_cases e19 : t = 19
    · subst e19
      refine j_tabIn 771 C dL_law_33 (by decide) (by decide) rfl (by decide) ?_
      exact lwc_19 C (by omega) hX hL hi ⟨by omega, by omega⟩ hN (by omega) bk
    by_cases e20 : t = 20
    · subst e20
      refine j_tabIn 814 C dL_law_33 (by decide) (by decide) rfl (by decide) ?_
      exact lwc_20 C (by omega) hX hL hi ⟨by omega, by omega⟩ hN (by omega) bk
    by_cases e21 : t = 21
    · subst e21
      refine j_tabIn 837 C dL_law_33 (by decide) (by decide) rfl (by decide) ?_
      exact lwc_21 C (by omega) hX hL hi ⟨by omega, by omega⟩ hN (by omega) bk
    by_cases e22 : t = 22
    · subst e22
      refine j_tabIn 860 C dL_law_33 (by decide) (by decide) rfl (by decide) ?_
      exact lwc_22 C (by omega) hX hL hi ⟨by omega, by omega⟩ hN (by omega) bk
    by_cases e23 : t = 23
    · subst e23
      refine j_tabIn 893 C dL_law_33 (by decide) (by decide) rfl (by decide) ?_
      exact lwc_23 C (by omega) hX hL hi ⟨by omega, by omega⟩ hN (by omega) bk
    by_cases e24 : t = 24
    · subst e24
      refine j_tabIn 962 C dL_law_33 (by decide) (by decide) rfl (by decide) ?_
      exact lwc_24 C (by omega) hX hL hi ⟨by omega, by omega⟩ hN (by omega) bk
    by_cases e25 : t = 25
    · subst e25
      refine j_tabIn 1025 C dL_law_33 (by decide) (by decide) rfl (by decide) ?_
      exact lwc_25 C (by omega) hX hL hi ⟨by omega, by omega⟩ hN (by omega) bk
    by_cases e26 : t = 26
    · subst e26
      refine j_tabIn 1048 C dL_law_33 (by decide) (by decide) rfl (by decide) ?_
      exact lwc_26 C (by omega) hX hL hi ⟨by omega, by omega⟩ hN (by omega) bk
    by_cases e27 : t = 27
    · subst e27
      refine j_tabIn 1091 C dL_law_33 (by decide) (by decide) rfl (by decide) ?_
      exact lwc_27 C (by omega) hX hL hi ⟨by omega, by omega⟩ hN (by omega) bk
    by_cases e28 : t = 28
    · subst e28
      refine j_tabIn 1144 C dL_law_33 (by decide) (by decide) rfl (by decide) ?_
      exact lwc_28 C (by omega) hX hL hi ⟨by omega, by omega⟩ hN (by omega) bk
    by_cases e29 : t = 29
    · subst e29
      refine j_tabIn 1177 C dL_law_33 (by decide) (by decide) rfl (by decide) ?_
      exact lwc_29 C (by omega) hX hL hi ⟨by omega, by omega⟩ hN (by omega) bk
    by_cases e30 : t = 30
    · subst e30
      refine j_tabIn 1200 C dL_law_33 (by decide) (by decide) rfl (by decide) ?_
      exact lwc_30 C (by omega) hX hL hi ⟨by omega, by omega⟩ hN (by omega) bk
    by_cases e31 : t = 31
    · subst e31
      refine j_tabIn 1223 C dL_law_33 (by decide) (by decide) rfl (by decide) ?_
      exact lwc_31 C (by omega) hX hL hi ⟨by omega, by omega⟩ hN (by omega) bk
    by_cases e32 : t = 32
    · subst e32
      refine j_tabIn 1256 C dL_law_33 (by decide) (by decide) rfl (by decide) ?_
      exact lwc_32 C (by omega) hX hL hi ⟨by omega, by omega⟩ hN (by omega) bk
    by_cases e33 : t = 33
    · subst e33
      refine j_tabIn 1279 C dL_law_33 (by decide) (by decide) rfl (by decide) ?_
      exact lwc_33 C (by omega) hX hL hi ⟨by omega, by omega⟩ hN (by omega) bk
    by_cases e34 : t = 34
    · subst e34
      refine j_tabIn 1312 C dL_law_33 (by decide) (by decide) rfl (by decide) ?_
      exact lwc_34 C (by omega) hX hL hi ⟨by omega, by omega⟩ hN (by omega) bk
    by_cases e35 : t = 35
    · subst e35
      refine j_tabIn 1345 C dL_law_33 (by decide) (by decide) rfl (by decide) ?_
      exact lwc_35 C (by omega) hX hL hi ⟨by omega, by omega⟩ hN (by omega) bk
    by_cases e36 : t = 36
    · subst e36
      refine j_tabIn 1368 C dL_law_33 (by decide) (by decide) rfl (by decide) ?_
      exact lwc_36 C (by omega) hX hL hi ⟨by omega, by omega⟩ hN (by omega) bk
    by_cases e37 : t = 37
    · subst e37
      refine j_tabIn 1381 C dL_law_33 (by decide) (by decide) rfl (by decide) ?_
      exact lwc_37 C (by omega) hX hL hi ⟨by omega, by omega⟩ hN (by omega) bk
    by_cases e38 : t = 38
    · subst e38
      refine j_tabIn 1435 C dL_law_33 (by decide) (by decide) rfl (by decide) ?_
      exact lwc_38 C (by omega) hX hL hi ⟨by omega, by omega⟩ hN (by omega) bk
    by_cases e39 : t = 39
    · subst e39
      refine j_tabIn 1458 C dL_law_33 (by decide) (by decide) rfl (by decide) ?_
      exact lwc_39 C (by omega) hX hL hi ⟨by omega, by omega⟩ hN (by omega) bk
    by_cases e40 : t = 40
    · subst e40
      refine j_tabIn 1481 C dL_law_33 (by decide) (by decide) rfl (by decide) ?_
      exact lwc_40 C (by omega) hX hL hi ⟨by omega, by omega⟩ hN (by omega) bk
    by_cases e41 : t = 41
    · subst e41
      refine j_tabIn 1504 C dL_law_33 (by decide) (by decide) rfl (by decide) ?_
      exact lwc_41 C (by omega) hX hL hi ⟨by omega, by omega⟩ hN (by omega) bk
    by_cases e42 : t = 42
    · subst e42
      refine j_tabIn 1547 C dL_law_33 (by decide) (by decide) rfl (by decide) ?_
      exact lwc_42 C (by omega) hX hL hi ⟨by omega, by omega⟩ hN (by omega) bk
    by_cases e43 : t = 43
    · subst e43
      refine j_tabIn 1620 C dL_law_33 (by decide) (by decide) rfl (by decide) ?_
      exact lwc_43 C (by omega) hX hL hi ⟨by omega, by omega⟩ hN (by omega) bk
    refine j_tabOut 1683 C dL_law_33 (Or.inr (by rw [nI_toInt (by omega)]; omega)) (by decide) ?_
    refine j_widen (44 + 26 * c + 26) (38104 + 15339 * c + 15339) (by omega) (by omega) ?_
    exact bk w M (NR_m hN (by omega))
set_option maxHeartbeats 1000000 in
theorem lw_first (C : Cx X l G code 4 R_law (some .boolean) 1400 67778 8898916 (fun v _ => v = some (.int 1))) (hX : SX X b L xs) (hL : L ≤ 3072) : J X 4 0 0 [] 0 [(0, .ref b)] [] := by
  refine j_newc 3 (ci := 10) tyX10 [.null, .int 0, .int 0, .int 0, .null, .null, .null, .null, .null] C dL_law_0 rfl rfl ingX10 tyX10_ok clL_7 inst10 ini10 (fun j hj => by rcases (show j = 0 ∨ j = 1 ∨ j = 2 ∨ j = 3 ∨ j = 4 ∨ j = 5 ∨ j = 6 ∨ j = 7 ∨ j = 8 by omega) with rfl | rfl | rfl | rfl | rfl | rfl | rfl | rfl | rfl <;> rfl) ⟨by decide, by decide⟩ (fun a => ?_)
  refine j_dup 4 C dL_law_3 rfl rfl ?_
  refine j_callMI 7 C dL_law_4 rfl cwL_9 rfl K10_init rfl ⟨by decide, by decide, by decide⟩ rfl (Nat.le_of_ble_eq_true rfl) [] [] rfl 0 rfl (ci := 10) (T := TX10) (N := 9) rfl (fun v w hp => ?_)
  obtain ⟨rfl, zn, zs, zm, zh, zt, zr, zb, hz, hp⟩ := hp
  have hN := NR_0 (G := G) (zn := zn) (zs := zs) (zm := zm) (zh := zh) (zt := zt) (zr := zr) (zb := zb) (w := w) (by
    refine hp.trans ?_
    exact List.Perm.of_eq rfl)
  rw [hz] at hN
  refine j_ws w (by rw [List.nil_append, List.append_nil]) ?_
  refine j_astore_n 8 C dL_law_7 rfl rfl (by decide) ?_
  refine j_newc 11 (ci := 11) tyX11 [.int 0, .null, .null, .int 0, .int 0, .null, .null, .null, .null, .null, .null, .null, .int 0, .null, .int 0, .int 0, .int 0, .int 0, .int 0, .int 0, .int 0, .null, .int 0, .null, .int 0, .int 0, .null, .int 0, .int 0, .int 0, .null, .null, .null, .null, .null, .null, .null, .null] C dL_law_8 rfl rfl ingX11 tyX11_ok clL_10 inst11 ini11 (fun j hj => by rcases (show j = 0 ∨ j = 1 ∨ j = 2 ∨ j = 3 ∨ j = 4 ∨ j = 5 ∨ j = 6 ∨ j = 7 ∨ j = 8 ∨ j = 9 ∨ j = 10 ∨ j = 11 ∨ j = 12 ∨ j = 13 ∨ j = 14 ∨ j = 15 ∨ j = 16 ∨ j = 17 ∨ j = 18 ∨ j = 19 ∨ j = 20 ∨ j = 21 ∨ j = 22 ∨ j = 23 ∨ j = 24 ∨ j = 25 ∨ j = 26 ∨ j = 27 ∨ j = 28 ∨ j = 29 ∨ j = 30 ∨ j = 31 ∨ j = 32 ∨ j = 33 ∨ j = 34 ∨ j = 35 ∨ j = 36 ∨ j = 37 by omega) with rfl | rfl | rfl | rfl | rfl | rfl | rfl | rfl | rfl | rfl | rfl | rfl | rfl | rfl | rfl | rfl | rfl | rfl | rfl | rfl | rfl | rfl | rfl | rfl | rfl | rfl | rfl | rfl | rfl | rfl | rfl | rfl | rfl | rfl | rfl | rfl | rfl | rfl <;> rfl) ⟨by decide, by decide⟩ (fun a2 => ?_)
  refine j_dup 12 C dL_law_11 rfl rfl ?_
  refine j_callMI 15 C dL_law_12 rfl cwL_12 rfl c_init rfl ⟨by decide, by decide, by decide⟩ rfl (Nat.le_of_ble_eq_true rfl) w [] (by rw [List.append_nil]) 0 rfl (ci := 11) (T := TX11) (N := 38) rfl (fun v w2 hp2 => ?_)
  obtain ⟨rfl, ad, rfl⟩ := hp2
  refine j_ws (w ++ mw a2 ad G.2.1 MR0) (by rw [List.append_nil]) ?_
  refine j_astore_n 16 C dL_law_15 rfl rfl (by decide) ?_
  refine j_iconst 17 C dL_law_16 rfl (v := nI 0) (by decide) ?_
  refine j_istore_n 18 C dL_law_17 rfl rfl (by decide) ?_
  refine j_widen (44 + 26 * 0) (38104 + 15339 * 0) (by decide) (by decide) ?_
  exact j_weak _ (by exact ⟨rfl, rfl, rfl, rfl, trivial⟩) (lw_loop C hX hL L 0 w MR0 rfl (Nat.zero_le _) hN)
end SL4
