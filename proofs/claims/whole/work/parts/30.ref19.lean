noncomputable def tkM (M : MS) (i : Nat) : MS := @ite _ (isW M i) (isWD M i) (adM M) M
noncomputable def nwM (M : MS) (i : Nat) : MS := @ite _ (isW M i) (isWD M i) (adM M) (erM M 1)
/-- a number is due here -/
def nm1 (M : MS) : MS := if M.1 19 = 0 ∧ ¬ M.1 17 = nI 2 then erM M (nI 1) else M
def nm2 (M : MS) (lo hi : Nat) : MS := if M.1 19 = 0 ∧ ¬ ((nI lo).toInt64 ≤ (M.1 18).toInt64 ∧ (M.1 18).toInt64 ≤ (nI hi).toInt64) then erM M (nI 2) else M
def nmM (M : MS) (lo hi : Nat) : MS := if (nm2 (nm1 M) lo hi).1 19 = 0 then adM (nm2 (nm1 M) lo hi) else nm2 (nm1 M) lo hi
def nmV (M : MS) (lo hi : Nat) : Int32 := if (nm2 (nm1 M) lo hi).1 19 = 0 then (nm2 (nm1 M) lo hi).1 18 else nI 0
noncomputable def srt (M : MS) : Int32 := @ite _ (isW M 9) (isWD M 9) (nI 0) (@ite _ (isW M 10) (isWD M 10) (nI 1) (@ite _ (isW M 11) (isWD M 11) (nI 2) (@ite _ (isW M 12) (isWD M 12) (nI 3) (-1))))
theorem TOK_nm1 {M : MS} {n a f : Nat} (h : TOK M n a f) : TOK (nm1 M) n a f := by
  unfold nm1; split
  · exact TOK_er h
  · exact h
theorem TOK_nm2 {M : MS} {n a f lo hi : Nat} (h : TOK M n a f) : TOK (nm2 M lo hi) n a f := by
  unfold nm2; split
  · exact TOK_er h
  · exact h
section JW
variable {X : JX} {l : Launch} {G : GG} {cc : ByteArray} {nL : Nat} {own : String} {rt : Option FieldType} {d mc ms : Nat} {post : Option Value → va_W → Prop} {k n pc : Nat} {ws : va_W} {lv : List (Nat × Value)} {st : List Value}
theorem j_if_eqW (tgt q : Nat) {off : Int} {p : Prop} {dp : Decidable p} (C : Cx X l G cc nL own rt d mc ms post) (hd : decode cc pc = .ok (.ifCond .eq off, 3)) (ht : (pc : Int) + off = (tgt : Int)) (hq : pc + 3 = q) (kt : ¬ p → J X nL k n ws tgt lv st) (kf : p → J X nL k n ws q lv st) : J X nL k n ws pc lv (.int (@bI p dp) :: st) := @j_if_eqB X l G cc nL own rt d mc ms post k n pc ws lv st tgt q off p dp C hd ht hq kt kf
theorem j_if_neW (tgt q : Nat) {off : Int} {p : Prop} {dp : Decidable p} (C : Cx X l G cc nL own rt d mc ms post) (hd : decode cc pc = .ok (.ifCond .ne off, 3)) (ht : (pc : Int) + off = (tgt : Int)) (hq : pc + 3 = q) (kt : p → J X nL k n ws tgt lv st) (kf : ¬ p → J X nL k n ws q lv st) : J X nL k n ws pc lv (.int (@bI p dp) :: st) := @j_if_neB X l G cc nL own rt d mc ms post k n pc ws lv st tgt q off p dp C hd ht hq kt kf
end JW
section S22
variable {l : Launch} {G : GG} {o : Nat} {ad : Nat → Nat} {M : MS} {n a f : Nat}
theorem c_isB (hT : TOK M n a f) (i : Nat) (hi : i < 22) : Con l G yX11_is cX11_is 4 (some .boolean) 5 0 0 [.ref o, .ref (G.2.2.1 i)] (mw o ad G.2.1 M) (pI (@bI (isW M i) (isWD M i)) (mw o ad G.2.1 M)) := c_is hT i hi
theorem c_takes (hT : TOK M n a f) (i : Nat) (hi : i < 22) : Con l G yX11_takes cX11_takes 3 (some .boolean) 6 0 0 [.ref o, .ref (G.2.2.1 i)] (mw o ad G.2.1 M) (pI (@bI (isW M i) (isWD M i)) (mw o ad G.2.1 (tkM M i))) := by
  refine Con.mk (own := RX11) (by decide) rfl (Nat.le_of_ble_eq_true rfl) (fun X C => ?_)
  refine j_aload_n 1 C dX11_takes_0 rfl rfl ?_
  refine j_aload_n 2 C dX11_takes_1 rfl rfl ?_
  refine j_mI 5 C dX11_takes_2 rfl cw11_156 rfl (c_isB hT i hi) rfl (by decide) rfl (Nat.le_of_ble_eq_true rfl) ?_
  refine j_istore_n 6 C dX11_takes_5 rfl rfl (by decide) ?_
  refine j_iload_n 7 C dX11_takes_6 rfl rfl ?_
  refine j_if_eqW 14 10 C dX11_takes_7 (by decide) rfl (fun c7 => ?_) (fun c7 => ?_)
  · refine j_iload_n 15 C dX11_takes_14 rfl rfl ?_
    exact j_zret C dX11_takes_15 (@bI_nar _ (isWD M i)) ⟨rfl, by rw [tkM, @if_neg _ (isWD M i) c7]⟩
  · refine j_aload_n 11 C dX11_takes_10 rfl rfl ?_
    refine j_mV 14 C dX11_takes_11 rfl cw11_160 rfl (c_adv hT) rfl (by decide) rfl (Nat.le_of_ble_eq_true rfl) ?_
    refine j_iload_n 15 C dX11_takes_14 rfl rfl ?_
    exact j_zret C dX11_takes_15 (@bI_nar _ (isWD M i)) ⟨rfl, by rw [tkM, @if_pos _ (isWD M i) c7]⟩
theorem c_needsWord (hT : TOK M n a f) (i : Nat) (hi : i < 22) : Con l G yX11_needsWord cX11_needsWord 2 none 7 0 0 [.ref o, .ref (G.2.2.1 i)] (mw o ad G.2.1 M) (pV (mw o ad G.2.1 (nwM M i))) := by
  refine Con.mk (own := RX11) (by decide) rfl (Nat.le_of_ble_eq_true rfl) (fun X C => ?_)
  refine j_aload_n 1 C dX11_needsWord_0 rfl rfl ?_
  refine j_aload_n 2 C dX11_needsWord_1 rfl rfl ?_
  refine j_mI 5 C dX11_needsWord_2 rfl cw11_163 rfl (c_takes hT i hi) rfl (by decide) rfl (Nat.le_of_ble_eq_true rfl) ?_
  refine j_if_neW 13 8 C dX11_needsWord_5 (by decide) rfl (fun c5 => ?_) (fun c5 => ?_)
  · rw [show tkM M i = adM M from @if_pos _ (isWD M i) c5 _ _ _]
    exact j_vret C dX11_needsWord_13 ⟨rfl, by rw [nwM, @if_pos _ (isWD M i) c5]⟩
  · rw [show tkM M i = M from @if_neg _ (isWD M i) c5 _ _ _]
    refine j_aload_n 9 C dX11_needsWord_8 rfl rfl ?_
    refine j_iconst 10 C dX11_needsWord_9 rfl (v := nI 1) (by decide) ?_
    refine j_mV 13 C dX11_needsWord_10 rfl cw11_166 rfl (c_errs _) rfl (by decide) rfl (Nat.le_of_ble_eq_true rfl) ?_
    exact j_vret C dX11_needsWord_13 ⟨rfl, by rw [nwM, @if_neg _ (isWD M i) c5]; rfl⟩
set_option maxHeartbeats 1000000 in
theorem c_number (hT : TOK M n a f) (lo hi : Nat) (hlo : lo < 2 ^ 31) (hhi : hi < 2 ^ 31) : Con l G yX11_number cX11_number 4 (some .int) 4 0 0 [.ref o, .int (nI lo), .int (nI hi)] (mw o ad G.2.1 M) (pI (nmV M lo hi) (mw o ad G.2.1 (nmM M lo hi))) := by
  refine Con.mk (own := RX11) (by decide) rfl (Nat.le_of_ble_eq_true rfl) (fun X C => ?_)
  have g47 : ∀ (M2 : MS), M2 = (nm2 (nm1 M) lo hi) → TOK M2 n a f → J X 4 0 0 (mw o ad G.2.1 M2) 47 [(0, .ref o), (1, .int (nI lo)), (2, .int (nI hi))] [] := by
    intro M2 e2 hT2
    subst e2
    refine j_aload_n 48 C dX11_number_47 rfl rfl ?_
    refine j_mI 51 C dX11_number_48 rfl cw11_142 rfl c_good rfl (by decide) rfl (Nat.le_of_ble_eq_true rfl) ?_
    refine j_if_neB 56 54 C dX11_number_51 (by decide) rfl (fun c51 => ?_) (fun c51 => ?_)
    · refine j_aload_n 57 C dX11_number_56 rfl rfl ?_
      refine rg_value 60 C dX11_number_57 rfl ?_
      refine j_istore_n 61 C dX11_number_60 rfl rfl (by decide) ?_
      refine j_aload_n 62 C dX11_number_61 rfl rfl ?_
      refine j_mV 65 C dX11_number_62 rfl cw11_160 rfl (c_adv hT2) rfl (by decide) rfl (Nat.le_of_ble_eq_true rfl) ?_
      refine j_iload_n 66 C dX11_number_65 rfl rfl ?_
      exact j_iret C dX11_number_66 ⟨by rw [nmV, if_pos c51], by rw [nmM, if_pos c51]⟩
    · refine j_iconst 55 C dX11_number_54 rfl (v := nI 0) (by decide) ?_
      exact j_iret C dX11_number_55 ⟨by rw [nmV, if_neg c51], by rw [nmM, if_neg c51]⟩
  have g20 : ∀ (M1 : MS), M1 = nm1 M → TOK M1 n a f → J X 4 0 0 (mw o ad G.2.1 M1) 20 [(0, .ref o), (1, .int (nI lo)), (2, .int (nI hi))] [] := by
    intro M1 e1 hT1
    refine j_aload_n 21 C dX11_number_20 rfl rfl ?_
    refine j_mI 24 C dX11_number_21 rfl cw11_142 rfl c_good rfl (by decide) rfl (Nat.le_of_ble_eq_true rfl) ?_
    refine j_if_eqB 47 27 C dX11_number_24 (by decide) rfl (fun c24 => ?_) (fun c24 => ?_)
    · exact j_weak _ (by exact ⟨rfl, rfl, rfl, trivial⟩) (g47 _ (by rw [← e1, nm2, if_neg (fun z => c24 z.1)]) hT1)
    · refine j_aload_n 28 C dX11_number_27 rfl rfl ?_
      refine rg_value 31 C dX11_number_28 rfl ?_
      refine j_i2l 32 C dX11_number_31 rfl ?_
      refine j_iload_n 33 C dX11_number_32 rfl rfl ?_
      refine j_i2l 34 C dX11_number_33 rfl ?_
      refine j_iload_n 35 C dX11_number_34 rfl rfl ?_
      refine j_i2l 36 C dX11_number_35 rfl ?_
      refine j_sI 39 C dX11_number_36 rfl cw11_88 (c_in _ _ _) rfl (by decide) ⟨Nat.le_refl _, Nat.le_refl _⟩ rfl (Nat.le_of_ble_eq_true rfl) ?_
      refine j_if_neB 47 42 C dX11_number_39 (by decide) rfl (fun c39 => ?_) (fun c39 => ?_)
      · exact j_weak _ (by exact ⟨rfl, rfl, rfl, trivial⟩) (g47 _ (by rw [← e1, nm2, if_neg (fun z => z.2 c39)]) hT1)
      · refine j_aload_n 43 C dX11_number_42 rfl rfl ?_
        refine j_iconst 44 C dX11_number_43 rfl (v := nI 2) (by decide) ?_
        refine j_mV 47 C dX11_number_44 rfl cw11_166 rfl (c_errs _) rfl (by decide) rfl (Nat.le_of_ble_eq_true rfl) ?_
        exact j_weak _ (by exact ⟨rfl, rfl, rfl, trivial⟩) (g47 _ (by rw [← e1, nm2, if_pos ⟨c24, c39⟩]) (TOK_er hT1))
  refine j_aload_n 1 C dX11_number_0 rfl rfl ?_
  refine j_mI 4 C dX11_number_1 rfl cw11_142 rfl c_good rfl (by decide) rfl (Nat.le_of_ble_eq_true rfl) ?_
  refine j_if_eqB 20 7 C dX11_number_4 (by decide) rfl (fun c4 => ?_) (fun c4 => ?_)
  · exact j_weak _ (by exact ⟨rfl, rfl, rfl, trivial⟩) (g20 _ (by rw [nm1, if_neg (fun z => c4 z.1)]) hT)
  · refine j_aload_n 8 C dX11_number_7 rfl rfl ?_
    refine rg_token 11 C dX11_number_8 rfl ?_
    refine j_iconst 12 C dX11_number_11 rfl (v := nI 2) (by decide) ?_
    refine j_icmp_eq 20 15 C dX11_number_12 (by decide) rfl (fun c12 => ?_) (fun c12 => ?_)
    · exact j_weak _ (by exact ⟨rfl, rfl, rfl, trivial⟩) (g20 _ (by rw [nm1, if_neg (fun z => z.2 c12)]) hT)
    · refine j_aload_n 16 C dX11_number_15 rfl rfl ?_
      refine j_iconst 17 C dX11_number_16 rfl (v := nI 1) (by decide) ?_
      refine j_mV 20 C dX11_number_17 rfl cw11_166 rfl (c_errs _) rfl (by decide) rfl (Nat.le_of_ble_eq_true rfl) ?_
      exact j_weak _ (by exact ⟨rfl, rfl, rfl, trivial⟩) (g20 _ (by rw [nm1, if_pos ⟨c4, c12⟩]) (TOK_er hT))
theorem c_sortHere (hT : TOK M n a f) : Con l G yX11_sortHere cX11_sortHere 1 (some .int) 6 0 0 [.ref o] (mw o ad G.2.1 M) (pI (srt M) (mw o ad G.2.1 M)) := by
  refine Con.mk (own := RX11) (by decide) rfl (Nat.le_of_ble_eq_true rfl) (fun X C => ?_)
  refine j_aload_n 1 C dX11_sortHere_0 rfl rfl ?_
  refine j_ldcS 3 9 C dX11_sortHere_1 rfl rfl ?_
  refine j_mI 6 C dX11_sortHere_3 rfl cw11_156 rfl (c_isB hT 9 (by decide)) rfl (by decide) rfl (Nat.le_of_ble_eq_true rfl) ?_
  refine j_if_eqW 13 9 C dX11_sortHere_6 (by decide) rfl (fun c6 => ?_) (fun c6 => ?_)
  · refine j_aload_n 14 C dX11_sortHere_13 rfl rfl ?_
    refine j_ldcS 16 10 C dX11_sortHere_14 rfl rfl ?_
    refine j_mI 19 C dX11_sortHere_16 rfl cw11_156 rfl (c_isB hT 10 (by decide)) rfl (by decide) rfl (Nat.le_of_ble_eq_true rfl) ?_
    refine j_if_eqW 26 22 C dX11_sortHere_19 (by decide) rfl (fun c19 => ?_) (fun c19 => ?_)
    · refine j_aload_n 27 C dX11_sortHere_26 rfl rfl ?_
      refine j_ldcS 29 11 C dX11_sortHere_27 rfl rfl ?_
      refine j_mI 32 C dX11_sortHere_29 rfl cw11_156 rfl (c_isB hT 11 (by decide)) rfl (by decide) rfl (Nat.le_of_ble_eq_true rfl) ?_
      refine j_if_eqW 39 35 C dX11_sortHere_32 (by decide) rfl (fun c32 => ?_) (fun c32 => ?_)
      · refine j_aload_n 40 C dX11_sortHere_39 rfl rfl ?_
        refine j_ldcS 42 12 C dX11_sortHere_40 rfl rfl ?_
        refine j_mI 45 C dX11_sortHere_42 rfl cw11_156 rfl (c_isB hT 12 (by decide)) rfl (by decide) rfl (Nat.le_of_ble_eq_true rfl) ?_
        refine j_if_eqW 52 48 C dX11_sortHere_45 (by decide) rfl (fun c45 => ?_) (fun c45 => ?_)
        · refine j_iconst 53 C dX11_sortHere_52 rfl (v := (-1)) (by decide) ?_
          exact j_iret C dX11_sortHere_53 ⟨by rw [srt, @if_neg _ (isWD M 9) c6, @if_neg _ (isWD M 10) c19, @if_neg _ (isWD M 11) c32, @if_neg _ (isWD M 12) c45], rfl⟩
        · refine j_iconst 49 C dX11_sortHere_48 rfl (v := nI 3) (by decide) ?_
          refine j_goto 53 C dX11_sortHere_49 (by decide) ?_
          exact j_iret C dX11_sortHere_53 ⟨by rw [srt, @if_neg _ (isWD M 9) c6, @if_neg _ (isWD M 10) c19, @if_neg _ (isWD M 11) c32, @if_pos _ (isWD M 12) c45], rfl⟩
      · refine j_iconst 36 C dX11_sortHere_35 rfl (v := nI 2) (by decide) ?_
        refine j_goto 53 C dX11_sortHere_36 (by decide) ?_
        exact j_iret C dX11_sortHere_53 ⟨by rw [srt, @if_neg _ (isWD M 9) c6, @if_neg _ (isWD M 10) c19, @if_pos _ (isWD M 11) c32], rfl⟩
    · refine j_iconst 23 C dX11_sortHere_22 rfl (v := nI 1) (by decide) ?_
      refine j_goto 53 C dX11_sortHere_23 (by decide) ?_
      exact j_iret C dX11_sortHere_53 ⟨by rw [srt, @if_neg _ (isWD M 9) c6, @if_pos _ (isWD M 10) c19], rfl⟩
  · refine j_iconst 10 C dX11_sortHere_9 rfl (v := nI 0) (by decide) ?_
    refine j_goto 53 C dX11_sortHere_10 (by decide) ?_
    exact j_iret C dX11_sortHere_53 ⟨by rw [srt, @if_pos _ (isWD M 9) c6], rfl⟩
end S22
