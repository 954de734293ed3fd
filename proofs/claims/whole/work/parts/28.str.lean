section I2C
variable {X : JX} {l : Launch} {G : GG} {cc : ByteArray} {nL : Nat} {own : String} {rt : Option FieldType} {d mc ms : Nat} {post : Option Value → va_W → Prop} {k n pc : Nat} {ws : va_W} {lv : List (Nat × Value)} {st : List Value}
theorem j_i2c (q : Nat) {x : Int32} (C : Cx X l G cc nL own rt d mc ms post) (hd : decode cc pc = .ok (.i2c, 1)) (hq : pc + 1 = q) (kk : J X nL k n ws q lv (.int (x.toUInt32 % 65536).toInt32 :: st)) : J X nL k n ws pc lv (.int x :: st) := by
  subst hq
  obtain ⟨p, l, e, R, s, m, args, below, meth, c, A, G, Q⟩ := X
  obtain ⟨hx, hb, hml, hown, hts, hK, hA, hlk, hrt, hR, hQ, hl0, hG, hEV⟩ := C
  intro H locs ls hP hD hS hl
  exact lv_i2c hx hb hd rfl (kk H locs ls hP hD hS hl)
end I2C
theorem flS_value : Cond.fieldLink RJ0 9 "java/lang/String" "value" "[B" ∈ gtbl := gt_mem 1633 (by decide +kernel) rfl
theorem flS_coder : Cond.fieldLink RJ0 15 "java/lang/String" "coder" "B" ∈ gtbl := gt_mem 1634 (by decide +kernel) rfl
theorem flS_compact : Cond.fieldLink RJ0 38 "java/lang/String" "COMPACT_STRINGS" "Z" ∈ gtbl := gt_mem 437 (by decide +kernel) rfl
theorem flS_fmt : Cond.fieldLink RJ0 1053 "jdk/internal/util/Preconditions" "SIOOBE_FORMATTER" "Ljava/util/function/BiFunction;" ∈ gtbl := gt_mem 453 (by decide +kernel) rfl
theorem cwJ_coder : CW RJ0 335 yJ0_coder_7d493 cJ0_coder_7d493 1 (some .byte) 0 := ⟨gt_mem 433 (by decide +kernel) rfl, gt_mem 434 (by decide +kernel) rfl, gt_mem 435 (by decide +kernel) rfl, gt_mem 86 (by decide +kernel) rfl, gt_mem 436 (by decide +kernel) rfl, ⟨by decide, by decide, by decide +kernel⟩, by decide⟩
theorem cwJ_latin : CW RJ0 492 yJ0_isLatin1_aae02 cJ0_isLatin1_aae02 1 (some .boolean) 0 := ⟨gt_mem 443 (by decide +kernel) rfl, gt_mem 444 (by decide +kernel) rfl, gt_mem 445 (by decide +kernel) rfl, gt_mem 86 (by decide +kernel) rfl, gt_mem 446 (by decide +kernel) rfl, ⟨by decide, by decide, by decide +kernel⟩, by decide⟩
theorem cwJ_charAtL : CS RJ0 495 yJ1_charAt_3b067 cJ1_charAt_3b067 2 (some .char) 2 := ⟨gt_mem 447 (by decide +kernel) rfl, gt_mem 448 (by decide +kernel) rfl, gt_mem 87 (by decide +kernel) rfl, gt_mem 449 (by decide +kernel) rfl, ⟨by decide, by decide, by decide +kernel⟩, by decide⟩
theorem cwJ_check : CS RJ1 9 yJ0_checkIndex_df160 cJ0_checkIndex_df160 2 none 2 := ⟨gt_mem 450 (by decide +kernel) rfl, gt_mem 451 (by decide +kernel) rfl, gt_mem 86 (by decide +kernel) rfl, gt_mem 452 (by decide +kernel) rfl, ⟨by decide, by decide, by decide +kernel⟩, by decide⟩
theorem cwJ_pre : CS RJ0 1059 yJ3_checkIndex_8e157 cJ3_checkIndex_8e157 3 (some .int) 3 := ⟨gt_mem 455 (by decide +kernel) rfl, gt_mem 456 (by decide +kernel) rfl, gt_mem 88 (by decide +kernel) rfl, gt_mem 457 (by decide +kernel) rfl, ⟨by decide, by decide, by decide +kernel⟩, by decide⟩
def sB (i j : Nat) : Int32 := (sbyt.getD i []).getD j 0
def sL (i : Nat) : Nat := slen.getD i 0
theorem sL_le : ∀ i, i < 22 → sL i ≤ 104 := by decide +kernel
theorem sB_ok : ∀ i, i < 22 → ∀ j, j < sL i → (((sB i j) &&& nI 255).toUInt32 % 65536).toInt32 = sB i j := by
  intro i hi j hj
  have h := (show (List.range 22).all (fun i => (List.range (sL i)).all (fun j => decide ((((sB i j) &&& nI 255).toUInt32 % 65536).toInt32 = sB i j))) = true from by decide +kernel)
  have h1 := List.all_eq_true.mp h i (List.mem_range.mpr hi)
  have h2 := List.all_eq_true.mp h1 j (List.mem_range.mpr hj)
  exact of_decide_eq_true h2
section SS
variable {X : JX} {l : Launch} {G : GG} {cc : ByteArray} {nL : Nat} {own : String} {rt : Option FieldType} {d mc ms : Nat} {post : Option Value → va_W → Prop} {k n pc : Nat} {ws : va_W} {lv : List (Nat × Value)} {st : List Value}
theorem j_sval (q : Nat) {i : Nat} (C : Cx X l G cc nL RJ0 rt d mc ms post) (hd : decode cc pc = .ok (.getfield 9, 3)) (hq : pc + 3 = q) (hi : i < 22) (kk : J X nL k n ws q lv (.ref (G.2.2.2 i) :: st)) : J X nL k n ws pc lv (.ref (G.2.2.1 i) :: st) := by
  subst hq
  obtain ⟨p, l, e, R, s, m, args, below, meth, c, A, G, Q⟩ := X
  obtain ⟨hx, hb, hml, hown, hts, hK, hA, hlk, hrt, hR, hQ, hl0, hG, hEV⟩ := C
  subst hG
  intro H locs ls hP hD hS hl
  exact vk_getf hx hb (hEV.2.2.2.1.1 i hi).2.2.1 hS hown (hts _ flS_value) (fun _ h => h) hd (kk H locs ls hP hD hS hl)
theorem j_scod (q : Nat) {i : Nat} (C : Cx X l G cc nL RJ0 rt d mc ms post) (hd : decode cc pc = .ok (.getfield 15, 3)) (hq : pc + 3 = q) (hi : i < 22) (kk : J X nL k n ws q lv (.int 0 :: st)) : J X nL k n ws pc lv (.ref (G.2.2.1 i) :: st) := by
  subst hq
  obtain ⟨p, l, e, R, s, m, args, below, meth, c, A, G, Q⟩ := X
  obtain ⟨hx, hb, hml, hown, hts, hK, hA, hlk, hrt, hR, hQ, hl0, hG, hEV⟩ := C
  subst hG
  intro H locs ls hP hD hS hl
  exact vk_getf hx hb (hEV.2.2.2.1.1 i hi).2.1 hS hown (hts _ flS_coder) (fun _ h => h) hd (kk H locs ls hP hD hS hl)
theorem j_slen (q : Nat) {i : Nat} (C : Cx X l G cc nL own rt d mc ms post) (hd : decode cc pc = .ok (.arraylength, 1)) (hq : pc + 1 = q) (hi : i < 22) (kk : J X nL k n ws q lv (.int (nI (sL i)) :: st)) : J X nL k n ws pc lv (.ref (G.2.2.2 i) :: st) := by
  subst hq
  obtain ⟨p, l, e, R, s, m, args, below, meth, c, A, G, Q⟩ := X
  obtain ⟨hx, hb, hml, hown, hts, hK, hA, hlk, hrt, hR, hQ, hl0, hG, hEV⟩ := C
  subst hG
  intro H locs ls hP hD hS hl
  exact va_tlen hx hb (hEV.2.2.2.1.1 i hi).2.2.2 hS rfl hd (kk H locs ls hP hD hS hl)
theorem j_sald (q : Nat) {i : Nat} {y : Int32} (j : Nat) (C : Cx X l G cc nL own rt d mc ms post) (hd : decode cc pc = .ok (.baload, 1)) (hq : pc + 1 = q) (hi : i < 22) (hj : j < sL i) (hy : y = nI j) (kk : J X nL k n ws q lv (.int (sB i j) :: st)) : J X nL k n ws pc lv (.int y :: .ref (G.2.2.2 i) :: st) := by
  subst hq
  subst hy
  have h31 : sL i < 2 ^ 31 := Nat.lt_of_le_of_lt (sL_le i hi) (by decide)
  obtain ⟨p, l, e, R, s, m, args, below, meth, c, A, G, Q⟩ := X
  obtain ⟨hx, hb, hml, hown, hts, hK, hA, hlk, hrt, hR, hQ, hl0, hG, hEV⟩ := C
  subst hG
  intro H locs ls hP hD hS hl
  exact va_tb hx hb (hEV.2.2.2.1.1 i hi).2.2.2 hS (vp_in_nI hj h31) (by rw [nI_clamp (Nat.lt_trans hj h31)]; rfl) hd (kk H locs ls hP hD hS hl)
theorem j_gcomp (q : Nat) (C : Cx X l G cc nL RJ0 rt d mc ms post) (hd : decode cc pc = .ok (.getstatic 38, 3)) (hq : pc + 3 = q) (kk : J X nL k n ws q lv (.int 1 :: st)) : J X nL k n ws pc lv st := by
  subst hq
  obtain ⟨p, l, e, R, s, m, args, below, meth, c, A, G, Q⟩ := X
  obtain ⟨hx, hb, hml, hown, hts, hK, hA, hlk, hrt, hR, hQ, hl0, hG, hEV⟩ := C
  subst hG
  intro H locs ls hP hD hS hl
  exact va_gets hx hb hEV.2.2.2.2.1 hS hown (hts _ flS_compact) (fun _ h => h) hd (kk H locs ls hP hD hS hl)
theorem j_gfmt (q : Nat) (C : Cx X l G cc nL RJ0 rt d mc ms post) (hd : decode cc pc = .ok (.getstatic 1053, 3)) (hq : pc + 3 = q) (kk : ∀ r : Option Nat, J X nL k n ws q lv (va_rf r :: st)) : J X nL k n ws pc lv st := by
  subst hq
  obtain ⟨p, l, e, R, s, m, args, below, meth, c, A, G, Q⟩ := X
  obtain ⟨hx, hb, hml, hown, hts, hK, hA, hlk, hrt, hR, hQ, hl0, hG, hEV⟩ := C
  subst hG
  intro H locs ls hP hD hS hl
  rcases hEV.2.2.2.2.2 with hz | ⟨t, hz⟩
  · exact va_gets hx hb hz hS hown (hts _ flS_fmt) (fun _ h => h) hd (kk none H locs ls hP hD hS hl)
  · exact va_gets hx hb hz hS hown (hts _ flS_fmt) (fun _ h => h) hd (kk (some t) H locs ls hP hD hS hl)
theorem j_ldcS (q : Nat) (i : Nat) {ix : Nat} {tx : String} (C : Cx X l G cc nL own rt d mc ms post) (hd : decode cc pc = .ok (.ldc ix, 2)) (hq : pc + 2 = q) (hs : strs[i]? = some (own, ix, tx)) (kk : J X nL k n ws q lv (.ref (G.2.2.1 i) :: st)) : J X nL k n ws pc lv st := by
  subst hq
  obtain ⟨p, l, e, R, s, m, args, below, meth, c, A, G, Q⟩ := X
  obtain ⟨hx, hb, hml, hown, hts, hK, hA, hlk, hrt, hR, hQ, hl0, hG, hEV⟩ := C
  subst hG
  intro H locs ls hP hD hS hl
  exact va_ldcS hx hb hown (hEV.2.2.1 i _ hs) hd (kk H locs ls hP hD hS hl)
/-- a call of a String's method that needs no cells -/
theorem j_callK (q : Nat) {i : Nat} {y : MethodName} {cy : ByteArray} {mL idx np d' : Nat} {rt' : Option FieldType} {As st0 : List Value} {x : Int32} (C : Cx X l G cc nL own rt d mc ms post) (hd : decode cc pc = .ok (.invokevirtual idx, 3)) (hq : pc + 3 = q)
    (hw : CW own idx y cy mL rt' np) (hy : y.cls = "java/lang/String") (hi : i < 22) (hC : Con l G y cy mL rt' d' 0 0 (.ref (G.2.2.1 i) :: As) [] (pI x []))
    (hnp : As.length = np) (hdd : d' + 1 ≤ d) (hkn : k ≤ mc ∧ n ≤ ms) (hst : st0 = As.reverse ++ .ref (G.2.2.1 i) :: st) (hrm : (st.map fun v => v.category).sum ≤ 8)
    (kk : J X nL k n ws q lv (.int x :: st)) : J X nL k n ws pc lv st0 := by
  subst hq
  subst hnp
  obtain ⟨p, l, e, R, s, m, args, below, meth, c, A, G, Q⟩ := X
  obtain ⟨hx, hb, hml, hown, hts, hK, hA, hlk, hrt, hR', hQ, hl0, hG, hEV⟩ := C
  subst hl0; subst hG; subst hR'
  obtain ⟨w1, w2, w3, w4, w5, w6, w7⟩ := hw
  intro H locs ls hP hD hS hl
  have hFc := va_free (wc := []) hD hS hA [] rfl
  have hgood : GoodIn gtbl (WW y cy mL rt') := ww_good (fun _ h => h) w5
  refine qq_call (va_runV (C := y.cls) (As := As) (b := G.2.2.1 i) (rest := st) (n := As.length) ⟨hx, hb, hml, hown, hts⟩ (hC H.size)
    ⟨callB_of As.length hts hgood rfl rfl rfl (hts _ w4) (hts _ w1) w6 ⟨hdd, by show 8 + (mL + 11) + 60 * d' ≤ 60 * d; omega⟩, hts _ w2, hts _ w3⟩
    ⟨pp_blind, by rw [hy]; exact vk_recv hEV.2.2.2.1 hi hS, fun U hU hW => ⟨rfl, by rw [hU], fun k q h => by simp at h, va_K.moved hW.alike hK, ⟨fun i j p q h => by simp at h, fun k q h => by simp at h⟩, hEV.call hW hU hS hFc⟩⟩ rfl rfl hl.1 hst (lv_room hrm) hd hkn) hS (fun q _ h => hFc q h) hFc (fun v w H1 locs1 hp hP1 hD1 hz hk hS1 => ?_)
  obtain ⟨rfl, rfl⟩ := hp
  refine kk H1 locs1 ls (fun k q hq => (hP k q hq).kept (hk q.1 (hP k q hq).lt (fun h => ?_))) hD hS1 hl
  rcases h with ⟨k, e, h⟩ | h
  · simp at h
  · have := (hP k q hq).lt; omega
end SS
section SC
variable {l : Launch} {G : GG}
theorem c_coder (i : Nat) (hi : i < 22) : Con l G yJ0_coder_7d493 cJ0_coder_7d493 1 (some .byte) 1 0 0 [.ref (G.2.2.1 i)] [] (pI 0 []) := by
  refine Con.mkF (own := RJ0) (by decide +kernel) rfl (Nat.le_of_ble_eq_true rfl) (fun X C => ?_)
  refine j_gcomp 3 C dJ0_coder_7d493_0 rfl ?_
  refine j_if_eq 13 6 C dJ0_coder_7d493_3 (by decide) rfl (fun c => absurd c (by decide)) (fun _ => ?_)
  refine j_aload_n 7 C dJ0_coder_7d493_6 rfl rfl ?_
  refine j_scod 10 C dJ0_coder_7d493_7 rfl hi ?_
  refine j_goto 14 C dJ0_coder_7d493_10 (by decide) ?_
  exact j_zret C dJ0_coder_7d493_14 rfl ⟨rfl, rfl⟩
theorem c_latin (i : Nat) (hi : i < 22) : Con l G yJ0_isLatin1_aae02 cJ0_isLatin1_aae02 1 (some .boolean) 1 0 0 [.ref (G.2.2.1 i)] [] (pI 1 []) := by
  refine Con.mkF (own := RJ0) (by decide +kernel) rfl (Nat.le_of_ble_eq_true rfl) (fun X C => ?_)
  refine j_gcomp 3 C dJ0_isLatin1_aae02_0 rfl ?_
  refine j_if_eq 17 6 C dJ0_isLatin1_aae02_3 (by decide) rfl (fun c => absurd c (by decide)) (fun _ => ?_)
  refine j_aload_n 7 C dJ0_isLatin1_aae02_6 rfl rfl ?_
  refine j_scod 10 C dJ0_isLatin1_aae02_7 rfl hi ?_
  refine j_if_ne 17 13 C dJ0_isLatin1_aae02_10 (by decide) rfl (fun c => absurd rfl c) (fun _ => ?_)
  refine j_iconst 14 C dJ0_isLatin1_aae02_13 rfl (v := 1) (by decide) ?_
  refine j_goto 18 C dJ0_isLatin1_aae02_14 (by decide) ?_
  exact j_zret C dJ0_isLatin1_aae02_18 rfl ⟨rfl, rfl⟩
theorem c_length (i : Nat) (hi : i < 22) : Con l G yJ0_length_8abf5 cJ0_length_8abf5 1 (some .int) 2 0 0 [.ref (G.2.2.1 i)] [] (pI (nI (sL i)) []) := by
  have hL := sL_le i hi
  refine Con.mkF (own := RJ0) (by decide +kernel) rfl (Nat.le_of_ble_eq_true rfl) (fun X C => ?_)
  refine j_aload_n 1 C dJ0_length_8abf5_0 rfl rfl ?_
  refine j_sval 4 C dJ0_length_8abf5_1 rfl hi ?_
  refine j_slen 5 C dJ0_length_8abf5_4 rfl hi ?_
  refine j_aload_n 6 C dJ0_length_8abf5_5 rfl rfl ?_
  refine j_callK 9 C dJ0_length_8abf5_6 rfl cwJ_coder rfl hi (c_coder i hi) rfl (by decide) ⟨Nat.le_refl _, Nat.le_refl _⟩ rfl (Nat.le_of_ble_eq_true rfl) ?_
  refine j_ishr 10 C dJ0_length_8abf5_9 rfl ?_
  rw [pk_shrN (by omega) _ 0 (by decide), show sL i / 2 ^ 0 = sL i by omega]
  exact j_iret C dJ0_length_8abf5_10 ⟨rfl, rfl⟩
theorem c_pre (i n : Nat) (hi : i < n) (hn : n < 2 ^ 31) (r : Option Nat) : Con l G yJ3_checkIndex_8e157 cJ3_checkIndex_8e157 3 (some .int) 1 0 0 [.int (nI i), .int (nI n), va_rf r] [] (pI (nI i) []) := by
  cases r with
  | none => 
    refine Con.mkF (own := RJ3) (by decide +kernel) rfl (Nat.le_of_ble_eq_true rfl) (fun X C => ?_)
    refine j_iload_n 1 C dJ3_checkIndex_8e157_0 rfl rfl ?_
    refine j_if_ltN 9 4 C dJ3_checkIndex_8e157_1 (by decide) rfl (by omega) ?_
    refine j_iload_n 5 C dJ3_checkIndex_8e157_4 rfl rfl ?_
    refine j_iload_n 6 C dJ3_checkIndex_8e157_5 rfl rfl ?_
    refine j_icmp_ltN 16 9 C dJ3_checkIndex_8e157_6 (by decide) rfl (by omega) (by omega) (fun c6 => ?_) (fun c6 => absurd c6 (by omega))
    refine j_iload_n 17 C dJ3_checkIndex_8e157_16 rfl rfl ?_
    exact j_iret C dJ3_checkIndex_8e157_17 ⟨rfl, rfl⟩
  | some t => 
    refine Con.mkF (own := RJ3) (by decide +kernel) rfl (Nat.le_of_ble_eq_true rfl) (fun X C => ?_)
    refine j_iload_n 1 C dJ3_checkIndex_8e157_0 rfl rfl ?_
    refine j_if_ltN 9 4 C dJ3_checkIndex_8e157_1 (by decide) rfl (by omega) ?_
    refine j_iload_n 5 C dJ3_checkIndex_8e157_4 rfl rfl ?_
    refine j_iload_n 6 C dJ3_checkIndex_8e157_5 rfl rfl ?_
    refine j_icmp_ltN 16 9 C dJ3_checkIndex_8e157_6 (by decide) rfl (by omega) (by omega) (fun c6 => ?_) (fun c6 => absurd c6 (by omega))
    refine j_iload_n 17 C dJ3_checkIndex_8e157_16 rfl rfl ?_
    exact j_iret C dJ3_checkIndex_8e157_17 ⟨rfl, rfl⟩
theorem c_check (i n : Nat) (hi : i < n) (hn : n < 2 ^ 31) : Con l G yJ0_checkIndex_df160 cJ0_checkIndex_df160 2 none 2 0 0 [.int (nI i), .int (nI n)] [] (pV []) := by
  refine Con.mkF (own := RJ0) (by decide +kernel) rfl (Nat.le_of_ble_eq_true rfl) (fun X C => ?_)
  refine j_iload_n 1 C dJ0_checkIndex_df160_0 rfl rfl ?_
  refine j_iload_n 2 C dJ0_checkIndex_df160_1 rfl rfl ?_
  refine j_gfmt 5 C dJ0_checkIndex_df160_2 rfl (fun r => ?_)
  refine j_sI 8 C dJ0_checkIndex_df160_5 rfl cwJ_pre (c_pre i n hi hn r) rfl (by decide) ⟨Nat.le_refl _, Nat.le_refl _⟩ rfl (Nat.le_of_ble_eq_true rfl) ?_
  refine j_pop 9 C dJ0_checkIndex_df160_8 rfl rfl ?_
  exact j_vret C dJ0_checkIndex_df160_9 ⟨rfl, rfl⟩
theorem c_charAtL (i j : Nat) (hi : i < 22) (hj : j < sL i) : Con l G yJ1_charAt_3b067 cJ1_charAt_3b067 2 (some .char) 3 0 0 [.ref (G.2.2.2 i), .int (nI j)] [] (pI (sB i j) []) := by
  have hL := sL_le i hi
  refine Con.mkF (own := RJ1) (by decide +kernel) rfl (Nat.le_of_ble_eq_true rfl) (fun X C => ?_)
  refine j_iload_n 1 C dJ1_charAt_3b067_0 rfl rfl ?_
  refine j_aload_n 2 C dJ1_charAt_3b067_1 rfl rfl ?_
  refine j_slen 3 C dJ1_charAt_3b067_2 rfl hi ?_
  refine j_sV 6 C dJ1_charAt_3b067_3 rfl cwJ_check (c_check j (sL i) hj (by omega)) rfl (by decide) ⟨Nat.le_refl _, Nat.le_refl _⟩ rfl (Nat.le_of_ble_eq_true rfl) ?_
  refine j_aload_n 7 C dJ1_charAt_3b067_6 rfl rfl ?_
  refine j_iload_n 8 C dJ1_charAt_3b067_7 rfl rfl ?_
  refine j_sald 9 j C dJ1_charAt_3b067_8 rfl hi hj rfl ?_
  refine j_sipush 12 C dJ1_charAt_3b067_9 rfl (v := nI 255) (by decide) ?_
  refine j_iand 13 C dJ1_charAt_3b067_12 rfl ?_
  refine j_i2c 14 C dJ1_charAt_3b067_13 rfl ?_
  exact j_zret C dJ1_charAt_3b067_14 (pk_nc _) ⟨by rw [sB_ok i hi j hj], rfl⟩
theorem c_charAt (i j : Nat) (hi : i < 22) (hj : j < sL i) : Con l G yJ0_charAt_5068e cJ0_charAt_5068e 2 (some .char) 4 0 0 [.ref (G.2.2.1 i), .int (nI j)] [] (pI (sB i j) []) := by
  refine Con.mkF (own := RJ0) (by decide +kernel) rfl (Nat.le_of_ble_eq_true rfl) (fun X C => ?_)
  refine j_aload_n 1 C dJ0_charAt_5068e_0 rfl rfl ?_
  refine j_callK 4 C dJ0_charAt_5068e_1 rfl cwJ_latin rfl hi (c_latin i hi) rfl (by decide) ⟨Nat.le_refl _, Nat.le_refl _⟩ rfl (Nat.le_of_ble_eq_true rfl) ?_
  refine j_if_eq 16 7 C dJ0_charAt_5068e_4 (by decide) rfl (fun c => absurd c (by decide)) (fun _ => ?_)
  refine j_aload_n 8 C dJ0_charAt_5068e_7 rfl rfl ?_
  refine j_sval 11 C dJ0_charAt_5068e_8 rfl hi ?_
  refine j_iload_n 12 C dJ0_charAt_5068e_11 rfl rfl ?_
  refine j_sI 15 C dJ0_charAt_5068e_12 rfl cwJ_charAtL (c_charAtL i j hi hj) rfl (by decide) ⟨Nat.le_refl _, Nat.le_refl _⟩ rfl (Nat.le_of_ble_eq_true rfl) ?_
  exact j_zret C dJ0_charAt_5068e_15 (by rw [← sB_ok i hi j hj]; exact pk_nc _) ⟨rfl, rfl⟩
end SC
