theorem kcJ6_265 : Cond.constant "java/lang/Integer" 265 (1431655765) ∈ gtbl := gt_mem 698 (by decide +kernel) rfl
theorem kcJ6_266 : Cond.constant "java/lang/Integer" 266 (858993459) ∈ gtbl := gt_mem 699 (by decide +kernel) rfl
theorem kcJ6_267 : Cond.constant "java/lang/Integer" 267 (252645135) ∈ gtbl := gt_mem 700 (by decide +kernel) rfl
def sh (x y : Int32) : Int32 := (x.toUInt32 >>> (y.toUInt32 &&& Int32.toUInt32 31)).toInt32
def bc1 (x : Int32) : Int32 := x - (sh x (nI 1) &&& 1431655765)
def bc2 (x : Int32) : Int32 := (x &&& 858993459) + (sh x (nI 2) &&& 858993459)
def bc3 (x : Int32) : Int32 := x + sh x (nI 4) &&& 252645135
def bc4 (x : Int32) : Int32 := x + sh x (nI 8)
def bc5 (x : Int32) : Int32 := x + sh x (nI 16)
def bcE (x : Int32) : Int32 := bc5 (bc4 (bc3 (bc2 (bc1 x)))) &&& nI 63
set_option maxRecDepth 100000 in
theorem bc_ones : ∀ k, k < 4096 → bcE (nI k) = f_ones (nI k) 12 := by decide +kernel
theorem nI_or (a b : Nat) : nI a ||| nI b = nI (a ||| b) := by
  refine Int32.toBitVec_inj.mp ?_
  show BitVec.ofNat 32 a ||| BitVec.ofNat 32 b = BitVec.ofNat 32 (a ||| b)
  exact BitVec.ofNat_or.symm
theorem slip_lt {wd hd : Nat → Int32} {r : Nat} : ∀ i, i ≤ 12 → ∃ k, k < 2 ^ i ∧ f_slip wd hd r i = nI k
  | 0, _ => ⟨0, by decide, rfl⟩
  | i + 1, h => by
    obtain ⟨k, hk, e⟩ := slip_lt (wd := wd) (hd := hd) (r := r) i (by omega)
    rw [f_slip, e]
    have hp : 2 ^ i < 2 ^ (i + 1) := Nat.pow_lt_pow_right (by omega) (by omega)
    split
    · exact ⟨k, by omega, by rw [show nI 0 = 0 from rfl, Int32.or_zero]⟩
    · refine ⟨k ||| 2 ^ i, Nat.or_lt_two_pow (by omega) hp, ?_⟩
      have e2 : nI 1 <<< (nI i &&& 31) = nI (2 ^ i) := by
        have : ∀ i, i < 12 → nI 1 <<< (nI i &&& 31) = nI (2 ^ i) := by decide +kernel
        exact this i (by omega)
      rw [e2]
      exact nI_or k (2 ^ i)
theorem slips_lt {wd hd : Nat → Int32} {r : Nat} (h : len wd r ≤ 12) : ∃ k, k < 4096 ∧ f_slips wd hd r = nI k := by
  obtain ⟨k, hk, e⟩ := slip_lt (wd := wd) (hd := hd) (r := r) (len wd r) h
  have : 2 ^ len wd r ≤ 2 ^ 12 := Nat.pow_le_pow_right (by omega) h
  exact ⟨k, by omega, e⟩
section SB1
variable {l : Launch} {G : GG} {zb zo : Nat → Nat} {Sb So : MS} {x : Int32} {n : Nat}
theorem c_bitCount  : Con l G yJ6_bitCount_0f7a4 cJ6_bitCount_0f7a4 1 (some .int) 1 0 0 [.int x] [] (pI (bcE x) []) := by
  refine Con.mkF (own := RJ6) (by decide +kernel) rfl (Nat.le_of_ble_eq_true rfl) (fun X C => ?_)
  refine j_iload_n 1 C dJ6_bitCount_0f7a4_0 rfl rfl ?_
  refine j_iload_n 2 C dJ6_bitCount_0f7a4_1 rfl rfl ?_
  refine j_iconst 3 C dJ6_bitCount_0f7a4_2 rfl (v := nI 1) (by decide) ?_
  refine j_iushr 4 C dJ6_bitCount_0f7a4_3 rfl ?_
  refine j_ldcw 7 C dJ6_bitCount_0f7a4_4 rfl (v := (1431655765)) kcJ6_265 ?_
  refine j_iand 8 C dJ6_bitCount_0f7a4_7 rfl ?_
  refine j_isub 9 C dJ6_bitCount_0f7a4_8 rfl ?_
  refine j_istore_n 10 C dJ6_bitCount_0f7a4_9 rfl rfl (by decide) ?_
  refine j_iload_n 11 C dJ6_bitCount_0f7a4_10 rfl rfl ?_
  refine j_ldcw 14 C dJ6_bitCount_0f7a4_11 rfl (v := (858993459)) kcJ6_266 ?_
  refine j_iand 15 C dJ6_bitCount_0f7a4_14 rfl ?_
  refine j_iload_n 16 C dJ6_bitCount_0f7a4_15 rfl rfl ?_
  refine j_iconst 17 C dJ6_bitCount_0f7a4_16 rfl (v := nI 2) (by decide) ?_
  refine j_iushr 18 C dJ6_bitCount_0f7a4_17 rfl ?_
  refine j_ldcw 21 C dJ6_bitCount_0f7a4_18 rfl (v := (858993459)) kcJ6_266 ?_
  refine j_iand 22 C dJ6_bitCount_0f7a4_21 rfl ?_
  refine j_iadd 23 C dJ6_bitCount_0f7a4_22 rfl ?_
  refine j_istore_n 24 C dJ6_bitCount_0f7a4_23 rfl rfl (by decide) ?_
  refine j_iload_n 25 C dJ6_bitCount_0f7a4_24 rfl rfl ?_
  refine j_iload_n 26 C dJ6_bitCount_0f7a4_25 rfl rfl ?_
  refine j_iconst 27 C dJ6_bitCount_0f7a4_26 rfl (v := nI 4) (by decide) ?_
  refine j_iushr 28 C dJ6_bitCount_0f7a4_27 rfl ?_
  refine j_iadd 29 C dJ6_bitCount_0f7a4_28 rfl ?_
  refine j_ldcw 32 C dJ6_bitCount_0f7a4_29 rfl (v := (252645135)) kcJ6_267 ?_
  refine j_iand 33 C dJ6_bitCount_0f7a4_32 rfl ?_
  refine j_istore_n 34 C dJ6_bitCount_0f7a4_33 rfl rfl (by decide) ?_
  refine j_iload_n 35 C dJ6_bitCount_0f7a4_34 rfl rfl ?_
  refine j_iload_n 36 C dJ6_bitCount_0f7a4_35 rfl rfl ?_
  refine j_bipush 38 C dJ6_bitCount_0f7a4_36 rfl (v := nI 8) (by decide) ?_
  refine j_iushr 39 C dJ6_bitCount_0f7a4_38 rfl ?_
  refine j_iadd 40 C dJ6_bitCount_0f7a4_39 rfl ?_
  refine j_istore_n 41 C dJ6_bitCount_0f7a4_40 rfl rfl (by decide) ?_
  refine j_iload_n 42 C dJ6_bitCount_0f7a4_41 rfl rfl ?_
  refine j_iload_n 43 C dJ6_bitCount_0f7a4_42 rfl rfl ?_
  refine j_bipush 45 C dJ6_bitCount_0f7a4_43 rfl (v := nI 16) (by decide) ?_
  refine j_iushr 46 C dJ6_bitCount_0f7a4_45 rfl ?_
  refine j_iadd 47 C dJ6_bitCount_0f7a4_46 rfl ?_
  refine j_istore_n 48 C dJ6_bitCount_0f7a4_47 rfl rfl (by decide) ?_
  refine j_iload_n 49 C dJ6_bitCount_0f7a4_48 rfl rfl ?_
  refine j_bipush 51 C dJ6_bitCount_0f7a4_49 rfl (v := nI 63) (by decide) ?_
  refine j_iand 52 C dJ6_bitCount_0f7a4_51 rfl ?_
  exact j_iret C dJ6_bitCount_0f7a4_52 ⟨rfl, rfl⟩
theorem K0_clear  : Con l G yX0_clear cX0_clear 1 none 1 0 0 [.ref (zb 50)] (bBk zb G.2.1 Sb) (pV (bBk zb G.2.1 (sS (sS Sb 0 (nI 0)) 1 (nI 0)))) := by
  refine Con.mk (own := RX0) (by decide) rfl (Nat.le_of_ble_eq_true rfl) (fun X C => ?_)
  refine j_aload_n 1 C dX0_clear_0 rfl rfl ?_
  refine j_iconst 2 C dX0_clear_1 rfl (v := nI 0) (by decide) ?_
  refine Lbp_b0 5 C dX0_clear_2 rfl fl0_15 ?_
  refine j_aload_n 6 C dX0_clear_5 rfl rfl ?_
  refine j_iconst 7 C dX0_clear_6 rfl (v := nI 0) (by decide) ?_
  refine Lbp_b1 10 C dX0_clear_7 rfl fl0_19 rfl rfl ?_
  exact j_vret C dX0_clear_10 ⟨rfl, rfl⟩
theorem K0_entry {i q : Nat} (h : 6 * i + q < 360) : Con l G yX0_entry cX0_entry 3 (some .int) 1 0 0 [.ref (zb 50), .int (nI i), .int (nI q)] (bBk zb G.2.1 Sb) (pI (Sb.2.1 2 (6 * i + q)) (bBk zb G.2.1 Sb)) := by
  refine Con.mk (own := RX0) (by decide) rfl (Nat.le_of_ble_eq_true rfl) (fun X C => ?_)
  refine j_aload_n 1 C dX0_entry_0 rfl rfl ?_
  refine Lbg_b2 4 C dX0_entry_1 rfl fl0_11 ?_
  refine j_iload_n 5 C dX0_entry_4 rfl rfl ?_
  refine j_bipush 7 C dX0_entry_5 rfl (v := nI 6) (by decide) ?_
  refine j_imulN 8 C dX0_entry_7 rfl ?_
  refine j_iload_n 9 C dX0_entry_8 rfl rfl ?_
  refine j_iaddN 10 C dX0_entry_9 rfl ?_
  refine Lba_b2 11 C dX0_entry_10 rfl _ (by omega) rfl ?_
  exact j_iret C dX0_entry_11 ⟨by rw [Nat.mul_comm], rfl⟩
end SB1
section Ly_Lbb
variable {X : JX} {l : Launch} {G : GG} {cc : ByteArray} {nL : Nat} {own : String} {rt : Option FieldType} {d mc ms : Nat} {post : Option Value → va_W → Prop} {k n pc : Nat} {lv : List (Nat × Value)} {st : List Value} {zb zo : Nat → Nat} {Sb So : MS}
theorem Lbbg_b0 (q : Nat) {idx : Nat} (C : Cx X l G cc nL own rt d mc ms post) (hd : decode cc pc = .ok (.getfield idx, 3)) (hq : pc + 3 = q) (hlf : Cond.fieldLink own idx (TX0 0).1 (TX0 0).2.1 (TX0 0).2.2.1 ∈ gtbl) (kk : J X nL k n (bBk zb G.2.1 Sb ++ (bBk zo G.2.1 So)) q lv (.int (Sb.1 0) :: st)) : J X nL k n (bBk zb G.2.1 Sb ++ (bBk zo G.2.1 So)) pc lv (.ref (zb 50) :: st) := j_get q C hd hq 0 rfl rfl ingX0 0 (by decide) hlf rfl kk
theorem Lbbp_b0 (q : Nat) {idx : Nat} {v : Int32} (C : Cx X l G cc nL own rt d mc ms post) (hd : decode cc pc = .ok (.putfield idx, 3)) (hq : pc + 3 = q) (hlf : Cond.fieldLink own idx (TX0 0).1 (TX0 0).2.1 (TX0 0).2.2.1 ∈ gtbl) (kk : J X nL k n (bBk zb G.2.1 (sS Sb 0 v) ++ (bBk zo G.2.1 So)) q lv st) : J X nL k n (bBk zb G.2.1 Sb ++ (bBk zo G.2.1 So)) pc lv (.int v :: .ref (zb 50) :: st) := j_put q tyX0 C hd hq 0 rfl rfl ingX0 tyX0_ok nmX0 0 (by decide) hlf rfl rfl rfl (by show 0 < 3; decide) rfl kk
theorem Lbbg_b1 (q : Nat) {idx : Nat} (C : Cx X l G cc nL own rt d mc ms post) (hd : decode cc pc = .ok (.getfield idx, 3)) (hq : pc + 3 = q) (hlf : Cond.fieldLink own idx (TX0 1).1 (TX0 1).2.1 (TX0 1).2.2.1 ∈ gtbl) (kk : J X nL k n (bBk zb G.2.1 Sb ++ (bBk zo G.2.1 So)) q lv (.int (Sb.1 1) :: st)) : J X nL k n (bBk zb G.2.1 Sb ++ (bBk zo G.2.1 So)) pc lv (.ref (zb 50) :: st) := j_get q C hd hq 0 rfl rfl ingX0 1 (by decide) hlf rfl kk
theorem Lbbp_b1 (q : Nat) {idx : Nat} {v : Int32} (C : Cx X l G cc nL own rt d mc ms post) (hd : decode cc pc = .ok (.putfield idx, 3)) (hq : pc + 3 = q) (hlf : Cond.fieldLink own idx (TX0 1).1 (TX0 1).2.1 (TX0 1).2.2.1 ∈ gtbl) (hn : narrow .boolean (.int v) = .int v) (hf : fits .boolean (.int v) = true) (kk : J X nL k n (bBk zb G.2.1 (sS Sb 1 v) ++ (bBk zo G.2.1 So)) q lv st) : J X nL k n (bBk zb G.2.1 Sb ++ (bBk zo G.2.1 So)) pc lv (.int v :: .ref (zb 50) :: st) := j_put q tyX0 C hd hq 0 rfl rfl ingX0 tyX0_ok nmX0 1 (by decide) hlf rfl hn hf (by show 1 < 3; decide) rfl kk
theorem Lbbg_b2 (q : Nat) {idx : Nat} (C : Cx X l G cc nL own rt d mc ms post) (hd : decode cc pc = .ok (.getfield idx, 3)) (hq : pc + 3 = q) (hlf : Cond.fieldLink own idx (TX0 2).1 (TX0 2).2.1 (TX0 2).2.2.1 ∈ gtbl) (kk : J X nL k n (bBk zb G.2.1 Sb ++ (bBk zo G.2.1 So)) q lv (.ref (zb 2) :: st)) : J X nL k n (bBk zb G.2.1 Sb ++ (bBk zo G.2.1 So)) pc lv (.ref (zb 50) :: st) := j_get q C hd hq 0 rfl rfl ingX0 2 (by decide) hlf rfl kk
theorem Lbba_b2 (q : Nat) {y : Int32} (C : Cx X l G cc nL own rt d mc ms post) (hd : decode cc pc = .ok (.iaload, 1)) (hq : pc + 1 = q) (i : Nat) (hi : i < 360) (hy : y = nI i) (kk : J X nL k n (bBk zb G.2.1 Sb ++ (bBk zo G.2.1 So)) q lv (.int (Sb.2.1 2 i) :: st)) : J X nL k n (bBk zb G.2.1 Sb ++ (bBk zo G.2.1 So)) pc lv (.int y :: .ref (zb 2) :: st) := j_iald q C hd hq 1 rfl i hi (by decide) hy kk
theorem Lbbs_b2 (q : Nat) {y : Int32} {x : Int32} (C : Cx X l G cc nL own rt d mc ms post) (hd : decode cc pc = .ok (.iastore, 1)) (hq : pc + 1 = q) (i : Nat) (hi : i < 360) (hy : y = nI i) (kk : J X nL k n (bBk zb G.2.1 (aS Sb 2 i x) ++ (bBk zo G.2.1 So)) q lv st) : J X nL k n (bBk zb G.2.1 Sb ++ (bBk zo G.2.1 So)) pc lv (.int x :: .int y :: .ref (zb 2) :: st) := j_iast q C hd hq 1 rfl i hi (by decide) hy rfl kk
theorem Lbbg_o0 (q : Nat) {idx : Nat} (C : Cx X l G cc nL own rt d mc ms post) (hd : decode cc pc = .ok (.getfield idx, 3)) (hq : pc + 3 = q) (hlf : Cond.fieldLink own idx (TX0 0).1 (TX0 0).2.1 (TX0 0).2.2.1 ∈ gtbl) (kk : J X nL k n (bBk zb G.2.1 Sb ++ (bBk zo G.2.1 So)) q lv (.int (So.1 0) :: st)) : J X nL k n (bBk zb G.2.1 Sb ++ (bBk zo G.2.1 So)) pc lv (.ref (zo 50) :: st) := j_get q C hd hq 2 rfl rfl ingX0 0 (by decide) hlf rfl kk
theorem Lbbp_o0 (q : Nat) {idx : Nat} {v : Int32} (C : Cx X l G cc nL own rt d mc ms post) (hd : decode cc pc = .ok (.putfield idx, 3)) (hq : pc + 3 = q) (hlf : Cond.fieldLink own idx (TX0 0).1 (TX0 0).2.1 (TX0 0).2.2.1 ∈ gtbl) (kk : J X nL k n (bBk zb G.2.1 Sb ++ (bBk zo G.2.1 (sS So 0 v))) q lv st) : J X nL k n (bBk zb G.2.1 Sb ++ (bBk zo G.2.1 So)) pc lv (.int v :: .ref (zo 50) :: st) := j_put q tyX0 C hd hq 2 rfl rfl ingX0 tyX0_ok nmX0 0 (by decide) hlf rfl rfl rfl (by show 0 < 3; decide) rfl kk
theorem Lbbg_o1 (q : Nat) {idx : Nat} (C : Cx X l G cc nL own rt d mc ms post) (hd : decode cc pc = .ok (.getfield idx, 3)) (hq : pc + 3 = q) (hlf : Cond.fieldLink own idx (TX0 1).1 (TX0 1).2.1 (TX0 1).2.2.1 ∈ gtbl) (kk : J X nL k n (bBk zb G.2.1 Sb ++ (bBk zo G.2.1 So)) q lv (.int (So.1 1) :: st)) : J X nL k n (bBk zb G.2.1 Sb ++ (bBk zo G.2.1 So)) pc lv (.ref (zo 50) :: st) := j_get q C hd hq 2 rfl rfl ingX0 1 (by decide) hlf rfl kk
theorem Lbbp_o1 (q : Nat) {idx : Nat} {v : Int32} (C : Cx X l G cc nL own rt d mc ms post) (hd : decode cc pc = .ok (.putfield idx, 3)) (hq : pc + 3 = q) (hlf : Cond.fieldLink own idx (TX0 1).1 (TX0 1).2.1 (TX0 1).2.2.1 ∈ gtbl) (hn : narrow .boolean (.int v) = .int v) (hf : fits .boolean (.int v) = true) (kk : J X nL k n (bBk zb G.2.1 Sb ++ (bBk zo G.2.1 (sS So 1 v))) q lv st) : J X nL k n (bBk zb G.2.1 Sb ++ (bBk zo G.2.1 So)) pc lv (.int v :: .ref (zo 50) :: st) := j_put q tyX0 C hd hq 2 rfl rfl ingX0 tyX0_ok nmX0 1 (by decide) hlf rfl hn hf (by show 1 < 3; decide) rfl kk
theorem Lbbg_o2 (q : Nat) {idx : Nat} (C : Cx X l G cc nL own rt d mc ms post) (hd : decode cc pc = .ok (.getfield idx, 3)) (hq : pc + 3 = q) (hlf : Cond.fieldLink own idx (TX0 2).1 (TX0 2).2.1 (TX0 2).2.2.1 ∈ gtbl) (kk : J X nL k n (bBk zb G.2.1 Sb ++ (bBk zo G.2.1 So)) q lv (.ref (zo 2) :: st)) : J X nL k n (bBk zb G.2.1 Sb ++ (bBk zo G.2.1 So)) pc lv (.ref (zo 50) :: st) := j_get q C hd hq 2 rfl rfl ingX0 2 (by decide) hlf rfl kk
theorem Lbba_o2 (q : Nat) {y : Int32} (C : Cx X l G cc nL own rt d mc ms post) (hd : decode cc pc = .ok (.iaload, 1)) (hq : pc + 1 = q) (i : Nat) (hi : i < 360) (hy : y = nI i) (kk : J X nL k n (bBk zb G.2.1 Sb ++ (bBk zo G.2.1 So)) q lv (.int (So.2.1 2 i) :: st)) : J X nL k n (bBk zb G.2.1 Sb ++ (bBk zo G.2.1 So)) pc lv (.int y :: .ref (zo 2) :: st) := j_iald q C hd hq 3 rfl i hi (by decide) hy kk
theorem Lbbs_o2 (q : Nat) {y : Int32} {x : Int32} (C : Cx X l G cc nL own rt d mc ms post) (hd : decode cc pc = .ok (.iastore, 1)) (hq : pc + 1 = q) (i : Nat) (hi : i < 360) (hy : y = nI i) (kk : J X nL k n (bBk zb G.2.1 Sb ++ (bBk zo G.2.1 (aS So 2 i x))) q lv st) : J X nL k n (bBk zb G.2.1 Sb ++ (bBk zo G.2.1 So)) pc lv (.int x :: .int y :: .ref (zo 2) :: st) := j_iast q C hd hq 3 rfl i hi (by decide) hy rfl kk
end Ly_Lbb
section Lc_Lbb
variable {X : JX} {l : Launch} {G : GG} {cc : ByteArray} {nL : Nat} {own : String} {rt : Option FieldType} {d mc ms : Nat} {post : Option Value → va_W → Prop} {k n pc : Nat} {lv : List (Nat × Value)} {st : List Value} {zb zo : Nat → Nat} {Sb So : MS}
variable {y : MethodName} {cy : ByteArray} {mL idx np d' : Nat} {rt' : Option FieldType} {As st0 : List Value} {x : Int32} {xl : Int64}
theorem Lbby_o2_b2 (q : Nat) {idx : Nat} (C : Cx X l G cc nL own rt d mc ms post) (hd : decode cc pc = .ok (.invokestatic idx, 3)) (hq : pc + 3 = q) (hl1 : Cond.methodLink own idx arraycopyName ∈ gtbl) (sp dp cn : Nat) {ys yd yn : Int32} (hs : ys = nI sp) (hdp : yd = nI dp) (hn : yn = nI cn) (hb1 : sp + cn ≤ 360) (hb2 : dp + cn ≤ 360) (hdd : 2 ≤ d) (hrm : (st.map fun v => v.category).sum ≤ 8) (kk : J X nL k n (bBk zb G.2.1 (aR Sb 2 (va_cpy (So.2.1 2) (Sb.2.1 2) sp dp cn)) ++ (bBk zo G.2.1 So)) q lv st) : J X nL k n (bBk zb G.2.1 Sb ++ (bBk zo G.2.1 So)) pc lv (.int yn :: .int yd :: .ref (zb 2) :: .int ys :: .ref (zo 2) :: st) := j_copyI q C hd hq hl1 acN acS acI 3 1 rfl rfl sp dp cn hs hdp hn hb1 hb2 (by decide) (by decide) hdd hrm rfl kk
end Lc_Lbb
section Lc_Lb
variable {X : JX} {l : Launch} {G : GG} {cc : ByteArray} {nL : Nat} {own : String} {rt : Option FieldType} {d mc ms : Nat} {post : Option Value → va_W → Prop} {k n pc : Nat} {lv : List (Nat × Value)} {st : List Value} {zb : Nat → Nat} {Sb : MS}
variable {y : MethodName} {cy : ByteArray} {mL idx np d' : Nat} {rt' : Option FieldType} {As st0 : List Value} {x : Int32} {xl : Int64}
theorem Lby_b2_b2 (q : Nat) {idx : Nat} (C : Cx X l G cc nL own rt d mc ms post) (hd : decode cc pc = .ok (.invokestatic idx, 3)) (hq : pc + 3 = q) (hl1 : Cond.methodLink own idx arraycopyName ∈ gtbl) (sp dp cn : Nat) {ys yd yn : Int32} (hs : ys = nI sp) (hdp : yd = nI dp) (hn : yn = nI cn) (hb1 : sp + cn ≤ 360) (hb2 : dp + cn ≤ 360) (hdd : 2 ≤ d) (hrm : (st.map fun v => v.category).sum ≤ 8) (kk : J X nL k n (bBk zb G.2.1 (aR Sb 2 (va_cpy (Sb.2.1 2) (Sb.2.1 2) sp dp cn))) q lv st) : J X nL k n (bBk zb G.2.1 Sb) pc lv (.int yn :: .int yd :: .ref (zb 2) :: .int ys :: .ref (zb 2) :: st) := j_copyI q C hd hq hl1 acN acS acI 1 1 rfl rfl sp dp cn hs hdp hn hb1 hb2 (by decide) (by decide) hdd hrm rfl kk
end Lc_Lb
def BCp (S So : MS) : Prop := (S.1 0 = So.1 0 ∧ S.1 1 = So.1 1) ∧ ∀ i, i < 360 → S.2.1 2 i = So.2.1 2 i
def bN (n : Nat) : Nat := if n = 60 then 59 else n
/-- a Book after one SITTING more -/
def BAd (S S' : MS) (n : Nat) (a b c d e f : Int32) : Prop := S'.1 0 = nI (bN n + 1) ∧ (S'.1 1 = if n = 60 then nI 1 else S.1 1) ∧ (∀ j, j < 6 * bN n → S'.2.1 2 j = if n = 60 then S.2.1 2 (j + 6) else S.2.1 2 j) ∧ S'.2.1 2 (6 * bN n) = a ∧ S'.2.1 2 (6 * bN n + 1) = b ∧ S'.2.1 2 (6 * bN n + 2) = c ∧ S'.2.1 2 (6 * bN n + 3) = d ∧ S'.2.1 2 (6 * bN n + 4) = e ∧ S'.2.1 2 (6 * bN n + 5) = f
theorem six {S : MS} {k : Nat} {a b c d e f : Int32} {S' : MS} (h : S' = aS (aS (aS (aS (aS (aS S 2 (k + 0) a) 2 (k + 1) b) 2 (k + 2) c) 2 (k + 4 - 1) d) 2 (k + 4) e) 2 (k + 5) f) : (∀ j, j < k → S'.2.1 2 j = S.2.1 2 j) ∧ S'.2.1 2 k = a ∧ S'.2.1 2 (k + 1) = b ∧ S'.2.1 2 (k + 2) = c ∧ S'.2.1 2 (k + 3) = d ∧ S'.2.1 2 (k + 4) = e ∧ S'.2.1 2 (k + 5) = f := by
  subst h
  simp only [aS_at]
  refine ⟨fun j hj => ?_, ?_, ?_, ?_, ?_, ?_, ?_⟩
  · rw [pk_un (by omega), pk_un (by omega), pk_un (by omega), pk_un (by omega), pk_un (by omega), pk_un (by omega)]
  · rw [pk_un (by omega), pk_un (by omega), pk_un (by omega), pk_un (by omega), pk_un (by omega)]; exact pk_us
  · rw [pk_un (by omega), pk_un (by omega), pk_un (by omega), pk_un (by omega), pk_us]
  · rw [pk_un (by omega), pk_un (by omega), pk_un (by omega), pk_us]
  · rw [pk_un (by omega), pk_un (by omega), show k + 4 - 1 = k + 3 by omega, pk_us]
  · rw [pk_un (by omega), pk_us]
  · rw [pk_us]
section SB2
variable {l : Launch} {G : GG} {zb zo : Nat → Nat} {Sb So : MS} {x : Int32} {n : Nat}
theorem K0_copyFrom (hz0 : So.1 1 = nI 0 ∨ So.1 1 = nI 1) : Con l G yX0_copyFrom cX0_copyFrom 2 none 2 0 0 [.ref (zb 50), .ref (zo 50)] (bBk zb G.2.1 Sb ++ (bBk zo G.2.1 So)) (qV (fun s : MS => (bBk zb G.2.1 s ++ (bBk zo G.2.1 So))) (fun S' => BCp S' So)) := by
  refine Con.mk (own := RX0) (by decide) rfl (Nat.le_of_ble_eq_true rfl) (fun X C => ?_)
  have hz : narrow .boolean (.int (So.1 1)) = .int (So.1 1) ∧ fits .boolean (.int (So.1 1)) = true := by rcases hz0 with z | z <;> rw [z] <;> exact ⟨rfl, rfl⟩
  refine j_aload_n 1 C dX0_copyFrom_0 rfl rfl ?_
  refine j_aload_n 2 C dX0_copyFrom_1 rfl rfl ?_
  refine Lbbg_o0 5 C dX0_copyFrom_2 rfl fl0_15 ?_
  refine Lbbp_b0 8 C dX0_copyFrom_5 rfl fl0_15 ?_
  refine j_aload_n 9 C dX0_copyFrom_8 rfl rfl ?_
  refine j_aload_n 10 C dX0_copyFrom_9 rfl rfl ?_
  refine Lbbg_o1 13 C dX0_copyFrom_10 rfl fl0_19 ?_
  refine Lbbp_b1 16 C dX0_copyFrom_13 rfl fl0_19 hz.1 hz.2 ?_
  refine j_aload_n 17 C dX0_copyFrom_16 rfl rfl ?_
  refine Lbbg_o2 20 C dX0_copyFrom_17 rfl fl0_11 ?_
  refine j_iconst 21 C dX0_copyFrom_20 rfl (v := nI 0) (by decide) ?_
  refine j_aload_n 22 C dX0_copyFrom_21 rfl rfl ?_
  refine Lbbg_b2 25 C dX0_copyFrom_22 rfl fl0_11 ?_
  refine j_iconst 26 C dX0_copyFrom_25 rfl (v := nI 0) (by decide) ?_
  refine j_sipush 29 C dX0_copyFrom_26 rfl (v := nI 360) (by decide) ?_
  refine Lbby_o2_b2 32 C dX0_copyFrom_29 rfl ac0_23 _ _ _ rfl rfl rfl (by omega) (by omega) (by decide) (Nat.le_of_ble_eq_true rfl) ?_
  exact j_vret C dX0_copyFrom_32 (by refine ⟨_, ?_, rfl, rfl⟩; exact ⟨⟨rfl, rfl⟩, fun j hj => cp0 _ _ _ hj⟩)
theorem K0_add {a b c d e f : Int32} (hn0 : Sb.1 0 = nI n) (hn : n ≤ 60) : Con l G yX0_add cX0_add 8 none 2 0 0 [.ref (zb 50), .int a, .int b, .int c, .int d, .int e, .int f] (bBk zb G.2.1 Sb) (qV (fun s : MS => (bBk zb G.2.1 s)) (fun S' => BAd Sb S' n a b c d e f)) := by
  refine Con.mk (own := RX0) (by decide) rfl (Nat.le_of_ble_eq_true rfl) (fun X C => ?_)
  have g37 : ∀ (k : Nat) (s : MS), k < 60 → s.1 0 = nI k → (∀ S' : MS, S'.1 0 = nI (k + 1) ∧ S'.1 1 = s.1 1 → ((∀ j, j < 6 * k → S'.2.1 2 j = s.2.1 2 j) ∧ S'.2.1 2 (6 * k) = a ∧ S'.2.1 2 (6 * k + 1) = b ∧ S'.2.1 2 (6 * k + 2) = c ∧ S'.2.1 2 (6 * k + 3) = d ∧ S'.2.1 2 (6 * k + 4) = e ∧ S'.2.1 2 (6 * k + 5) = f) → BAd Sb S' n a b c d e f) → J X 8 0 0 (bBk zb G.2.1 s) 37 [(0, .ref (zb 50)), (1, .int a), (2, .int b), (3, .int c), (4, .int d), (5, .int e), (6, .int f)] [] := by
    intro k s hk h0 hfin
    refine j_aload_n 38 C dX0_add_37 rfl rfl ?_
    refine Lbg_b0 41 C dX0_add_38 rfl fl0_15 ?_
    refine j_top (x' := nI k) h0 ?_
    refine j_bipush 43 C dX0_add_41 rfl (v := nI 6) (by decide) ?_
    refine j_imulN 44 C dX0_add_43 rfl ?_
    refine j_istore 46 C dX0_add_44 rfl rfl (by decide) ?_
    refine j_aload_n 47 C dX0_add_46 rfl rfl ?_
    refine Lbg_b2 50 C dX0_add_47 rfl fl0_11 ?_
    refine j_iload 52 C dX0_add_50 rfl rfl ?_
    refine j_iconst 53 C dX0_add_52 rfl (v := nI 0) (by decide) ?_
    refine j_iaddN 54 C dX0_add_53 rfl ?_
    refine j_iload_n 55 C dX0_add_54 rfl rfl ?_
    refine Lbs_b2 56 C dX0_add_55 rfl _ (by omega) rfl ?_
    refine j_aload_n 57 C dX0_add_56 rfl rfl ?_
    refine Lbg_b2 60 C dX0_add_57 rfl fl0_11 ?_
    refine j_iload 62 C dX0_add_60 rfl rfl ?_
    refine j_iconst 63 C dX0_add_62 rfl (v := nI 1) (by decide) ?_
    refine j_iaddN 64 C dX0_add_63 rfl ?_
    refine j_iload_n 65 C dX0_add_64 rfl rfl ?_
    refine Lbs_b2 66 C dX0_add_65 rfl _ (by omega) rfl ?_
    refine j_aload_n 67 C dX0_add_66 rfl rfl ?_
    refine Lbg_b2 70 C dX0_add_67 rfl fl0_11 ?_
    refine j_iload 72 C dX0_add_70 rfl rfl ?_
    refine j_iconst 73 C dX0_add_72 rfl (v := nI 2) (by decide) ?_
    refine j_iaddN 74 C dX0_add_73 rfl ?_
    refine j_iload_n 75 C dX0_add_74 rfl rfl ?_
    refine Lbs_b2 76 C dX0_add_75 rfl _ (by omega) rfl ?_
    refine j_aload_n 77 C dX0_add_76 rfl rfl ?_
    refine Lbg_b2 80 C dX0_add_77 rfl fl0_11 ?_
    refine j_iload 82 C dX0_add_80 rfl rfl ?_
    refine j_iconst 83 C dX0_add_82 rfl (v := nI 4) (by decide) ?_
    refine j_iaddN 84 C dX0_add_83 rfl ?_
    refine j_iconst 85 C dX0_add_84 rfl (v := nI 1) (by decide) ?_
    refine j_isubN 86 C dX0_add_85 rfl (by omega) ?_
    refine j_iload 88 C dX0_add_86 rfl rfl ?_
    refine Lbs_b2 89 C dX0_add_88 rfl _ (by omega) rfl ?_
    refine j_aload_n 90 C dX0_add_89 rfl rfl ?_
    refine Lbg_b2 93 C dX0_add_90 rfl fl0_11 ?_
    refine j_iload 95 C dX0_add_93 rfl rfl ?_
    refine j_iconst 96 C dX0_add_95 rfl (v := nI 4) (by decide) ?_
    refine j_iaddN 97 C dX0_add_96 rfl ?_
    refine j_iload 99 C dX0_add_97 rfl rfl ?_
    refine Lbs_b2 100 C dX0_add_99 rfl _ (by omega) rfl ?_
    refine j_aload_n 101 C dX0_add_100 rfl rfl ?_
    refine Lbg_b2 104 C dX0_add_101 rfl fl0_11 ?_
    refine j_iload 106 C dX0_add_104 rfl rfl ?_
    refine j_iconst 107 C dX0_add_106 rfl (v := nI 5) (by decide) ?_
    refine j_iaddN 108 C dX0_add_107 rfl ?_
    refine j_iload 110 C dX0_add_108 rfl rfl ?_
    refine Lbs_b2 111 C dX0_add_110 rfl _ (by omega) rfl ?_
    refine j_aload_n 112 C dX0_add_111 rfl rfl ?_
    refine j_dup 113 C dX0_add_112 rfl rfl ?_
    refine Lbg_b0 116 C dX0_add_113 rfl fl0_15 ?_
    refine j_top (x' := nI k) h0 ?_
    refine j_iconst 117 C dX0_add_116 rfl (v := nI 1) (by decide) ?_
    refine j_iaddN 118 C dX0_add_117 rfl ?_
    refine Lbp_b0 121 C dX0_add_118 rfl fl0_15 ?_
    exact j_vret C dX0_add_121 (by refine ⟨_, ?_, rfl, rfl⟩; refine hfin _ ⟨rfl, rfl⟩ ?_; have z := six (S := s) (k := k * 6) (a := a) (b := b) (c := c) (d := d) (e := e) (f := f) rfl; rw [Nat.mul_comm k 6] at z; rw [Nat.mul_comm k 6]; exact z)
  refine j_aload_n 1 C dX0_add_0 rfl rfl ?_
  refine Lbg_b0 4 C dX0_add_1 rfl fl0_15 ?_
  refine j_top hn0 ?_
  refine j_bipush 6 C dX0_add_4 rfl (v := nI 60) (by decide) ?_
  refine j_icmp_ltN 37 9 C dX0_add_6 (by decide) rfl (by omega) (by omega) (fun c6 => ?_) (fun c6 => ?_)
  · exact j_weak _ (by exact ⟨rfl, rfl, rfl, rfl, rfl, rfl, rfl, trivial⟩) (g37 n Sb (by omega) hn0 (fun S' h1 h2 => by have e : bN n = n := if_neg (by omega); unfold BAd; rw [e, if_neg (by omega)]; exact ⟨h1.1, h1.2, fun j hj => by rw [if_neg (by omega)]; exact h2.1 j hj, h2.2⟩))
  · refine j_aload_n 10 C dX0_add_9 rfl rfl ?_
    refine Lbg_b2 13 C dX0_add_10 rfl fl0_11 ?_
    refine j_bipush 15 C dX0_add_13 rfl (v := nI 6) (by decide) ?_
    refine j_aload_n 16 C dX0_add_15 rfl rfl ?_
    refine Lbg_b2 19 C dX0_add_16 rfl fl0_11 ?_
    refine j_iconst 20 C dX0_add_19 rfl (v := nI 0) (by decide) ?_
    refine j_sipush 23 C dX0_add_20 rfl (v := nI 354) (by decide) ?_
    refine Lby_b2_b2 26 C dX0_add_23 rfl ac0_23 _ _ _ rfl rfl rfl (by omega) (by omega) (by decide) (Nat.le_of_ble_eq_true rfl) ?_
    refine j_aload_n 27 C dX0_add_26 rfl rfl ?_
    refine j_bipush 29 C dX0_add_27 rfl (v := nI 59) (by decide) ?_
    refine Lbp_b0 32 C dX0_add_29 rfl fl0_15 ?_
    refine j_aload_n 33 C dX0_add_32 rfl rfl ?_
    refine j_iconst 34 C dX0_add_33 rfl (v := nI 1) (by decide) ?_
    refine Lbp_b1 37 C dX0_add_34 rfl fl0_19 rfl rfl ?_
    exact j_weak _ (by exact ⟨rfl, rfl, rfl, rfl, rfl, rfl, rfl, trivial⟩) (g37 59 _ (by omega) rfl (fun S' h1 h2 => by have e : bN n = 59 := if_pos (by omega); unfold BAd; rw [e, if_pos (by omega)]; exact ⟨h1.1, h1.2, fun j hj => by rw [if_pos (by omega), h2.1 j hj]; show va_cpy _ _ 6 0 354 j = _; rw [cpy_img _ _ _ _ (by omega), Nat.add_comm], h2.2⟩))
end SB2
