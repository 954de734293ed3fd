/-- the byte at j of a tape of n bytes; -1 behind it -/
def sv (tp : Nat → Int32) (n j : Nat) : Int32 := if j < n then tp j &&& nI 255 else -1
abbrev isLet (c : Int32) : Prop := (97 : Int64) ≤ c.toInt64 ∧ c.toInt64 ≤ 122
abbrev isDig (c : Int32) : Prop := (48 : Int64) ≤ c.toInt64 ∧ c.toInt64 ≤ 57
def lx_ws (tp : Nat → Int32) (n : Nat) : Nat → Nat → Nat
  | 0, a => a
  | f + 1, a => if sv tp n a = nI 32 ∨ sv tp n a = nI 10 then lx_ws tp n f (a + 1) else a
def lx_let (tp : Nat → Int32) (n : Nat) : Nat → Nat → Nat
  | 0, a => a
  | f + 1, a => if isLet (sv tp n a) then lx_let tp n f (a + 1) else a
def lx_dv (v c : Int32) : Int32 := if nI 10 * v + c - nI 48 < 99999 then nI 10 * v + c - nI 48 else 99999
def lx_dig (tp : Nat → Int32) (n : Nat) : Nat → Nat → Int32 → Nat × Int32
  | 0, a, v => (a, v)
  | f + 1, a, v => if isDig (sv tp n a) then lx_dig tp n f (a + 1) (lx_dv v (sv tp n a)) else (a, v)
def setT (M : MS) (at_ from_ tok val : Int32) : MS := sS (sS (sS (sS M 15 at_) 16 from_) 17 tok) 18 val
/-- the next TOKEN from a on -/
def lxM (M : MS) (n a : Nat) : MS :=
  let a0 := lx_ws (M.2.1 11) n (n - a) a
  let c := sv (M.2.1 11) n a0
  if c = -1 then setT M (nI a0) (nI a0) (nI 0) (M.1 18) else
  if isLet c then setT M (nI (lx_let (M.2.1 11) n (n - a0) a0)) (nI a0) (nI 1) (M.1 18) else
  if isDig c then setT M (nI (lx_dig (M.2.1 11) n (n - a0) a0 (nI 0)).1) (nI a0) (nI 2) (lx_dig (M.2.1 11) n (n - a0) a0 (nI 0)).2 else
  setT M (nI (a0 + 1)) (nI a0) (if c = nI 59 then nI 3 else nI 4) (M.1 18)
theorem sv_out {tp : Nat → Int32} {n j : Nat} (h : n ≤ j) : sv tp n j = -1 := if_neg (by omega)
theorem sv_in {tp : Nat → Int32} {n j : Nat} (h : ¬ sv tp n j = -1) : j < n := Decidable.byContradiction fun z => h (sv_out (by omega))
theorem let_in {tp : Nat → Int32} {n j : Nat} (h : isLet (sv tp n j)) : j < n := sv_in fun z => by rw [z] at h; exact absurd h (by decide)
theorem dig_in {tp : Nat → Int32} {n j : Nat} (h : isDig (sv tp n j)) : j < n := sv_in fun z => by rw [z] at h; exact absurd h (by decide)
theorem ws_in {tp : Nat → Int32} {n j : Nat} (h : sv tp n j = nI 32 ∨ sv tp n j = nI 10) : j < n := sv_in fun z => by rw [z] at h; exact absurd h (by decide)
theorem lx_ws_eq {tp : Nat → Int32} {n a : Nat} (h : sv tp n a = nI 32 ∨ sv tp n a = nI 10) : lx_ws tp n (n - a) a = lx_ws tp n (n - (a + 1)) (a + 1) := by
  have := ws_in h
  rw [show n - a = (n - (a + 1)) + 1 by omega, lx_ws, if_pos h]
theorem lx_ws_end {tp : Nat → Int32} {n a : Nat} (h : ¬ (sv tp n a = nI 32 ∨ sv tp n a = nI 10)) : lx_ws tp n (n - a) a = a := by
  cases n - a with
  | zero => rfl
  | succ f => rw [lx_ws, if_neg h]
theorem lx_let_eq {tp : Nat → Int32} {n a : Nat} (h : isLet (sv tp n a)) : lx_let tp n (n - a) a = lx_let tp n (n - (a + 1)) (a + 1) := by
  have := let_in h
  rw [show n - a = (n - (a + 1)) + 1 by omega, lx_let, if_pos h]
theorem lx_let_end {tp : Nat → Int32} {n a : Nat} (h : ¬ isLet (sv tp n a)) : lx_let tp n (n - a) a = a := by
  cases n - a with
  | zero => rfl
  | succ f => rw [lx_let, if_neg h]
theorem lx_dig_eq {tp : Nat → Int32} {n a : Nat} {v : Int32} (h : isDig (sv tp n a)) : lx_dig tp n (n - a) a v = lx_dig tp n (n - (a + 1)) (a + 1) (lx_dv v (sv tp n a)) := by
  have := dig_in h
  rw [show n - a = (n - (a + 1)) + 1 by omega, lx_dig, if_pos h]
theorem lx_dig_end {tp : Nat → Int32} {n a : Nat} {v : Int32} (h : ¬ isDig (sv tp n a)) : lx_dig tp n (n - a) a v = (a, v) := by
  cases n - a with
  | zero => rfl
  | succ f => rw [lx_dig, if_neg h]
theorem lx_ws_le (tp : Nat → Int32) (n : Nat) : ∀ f a, a ≤ lx_ws tp n f a
  | 0, a => Nat.le_refl _
  | f + 1, a => by
    unfold lx_ws
    have := lx_ws_le tp n f (a + 1)
    split <;> omega
section S20
variable {l : Launch} {G : GG} {o : Nat} {ad : Nat → Nat} {M : MS}
theorem c_see (j : Nat) {n : Nat} (hj : j < 2 ^ 31) (hn : M.1 14 = nI n) (hn9 : n ≤ 900) : Con l G yX11_see cX11_see 2 (some .int) 1 0 0 [.ref o, .int (nI j)] (mw o ad G.2.1 M) (pI (sv (M.2.1 11) n j) (mw o ad G.2.1 M)) := by
  refine Con.mk (own := RX11) (by decide) rfl (Nat.le_of_ble_eq_true rfl) (fun X C => ?_)
  refine j_iload_n 1 C dX11_see_0 rfl rfl ?_
  refine j_aload_n 2 C dX11_see_1 rfl rfl ?_
  refine rg_size 5 C dX11_see_2 rfl ?_
  rw [hn]
  refine j_icmp_geN 21 8 C dX11_see_5 (by decide) rfl (by omega) (by omega) (fun c5 => ?_) (fun c5 => ?_)
  · refine j_iconst 22 C dX11_see_21 rfl (v := (-1)) (by decide) ?_
    exact j_iret C dX11_see_22 ⟨by rw [sv, if_neg (by omega)], rfl⟩
  · refine j_aload_n 9 C dX11_see_8 rfl rfl ?_
    refine rg_tape 12 C dX11_see_9 rfl ?_
    refine j_iload_n 13 C dX11_see_12 rfl rfl ?_
    refine ra_tape 14 C dX11_see_13 rfl _ (by omega) rfl ?_
    refine j_sipush 17 C dX11_see_14 rfl (v := nI 255) (by decide) ?_
    refine j_iand 18 C dX11_see_17 rfl ?_
    refine j_goto 22 C dX11_see_18 (by decide) ?_
    exact j_iret C dX11_see_22 ⟨by rw [sv, if_pos c5], rfl⟩
theorem c_seeT {tp : Nat → Int32} (j : Nat) {n : Nat} (htp : M.2.1 11 = tp) (hj : j < 2 ^ 31) (hn : M.1 14 = nI n) (hn9 : n ≤ 900) : Con l G yX11_see cX11_see 2 (some .int) 1 0 0 [.ref o, .int (nI j)] (mw o ad G.2.1 M) (pI (sv tp n j) (mw o ad G.2.1 M)) := by
  subst htp
  exact c_see j hj hn hn9
theorem c_good  : Con l G yX11_good cX11_good 1 (some .boolean) 1 0 0 [.ref o] (mw o ad G.2.1 M) (pI (bI (M.1 19 = 0)) (mw o ad G.2.1 M)) := by
  refine Con.mk (own := RX11) (by decide) rfl (Nat.le_of_ble_eq_true rfl) (fun X C => ?_)
  refine j_aload_n 1 C dX11_good_0 rfl rfl ?_
  refine rg_faultKind 4 C dX11_good_1 rfl ?_
  refine j_bool_if_ne 12 C dX11_good_4 rfl dX11_good_7 dX11_good_8 dX11_good_11 rfl ?_
  exact j_zret C dX11_good_12 (bI_nar _) ⟨rfl, rfl⟩
def erM (M : MS) (k : Int32) : MS := if M.1 19 = 0 then sS (sS M 19 k) 20 (M.1 16) else M
theorem c_errs (k : Int32) : Con l G yX11_errs cX11_errs 2 none 2 0 0 [.ref o, .int k] (mw o ad G.2.1 M) (pV (mw o ad G.2.1 (erM M k))) := by
  refine Con.mk (own := RX11) (by decide) rfl (Nat.le_of_ble_eq_true rfl) (fun X C => ?_)
  refine j_aload_n 1 C dX11_errs_0 rfl rfl ?_
  refine j_mI 4 C dX11_errs_1 rfl cw11_142 rfl c_good rfl (by decide) rfl (Nat.le_of_ble_eq_true rfl) ?_
  refine j_if_neB 8 7 C dX11_errs_4 (by decide) rfl (fun c4 => ?_) (fun c4 => ?_)
  · refine j_aload_n 9 C dX11_errs_8 rfl rfl ?_
    refine j_iload_n 10 C dX11_errs_9 rfl rfl ?_
    refine rp_faultKind 13 C dX11_errs_10 rfl ?_
    refine j_aload_n 14 C dX11_errs_13 rfl rfl ?_
    refine j_aload_n 15 C dX11_errs_14 rfl rfl ?_
    refine rg_from 18 C dX11_errs_15 rfl ?_
    refine rp_faultPlace 21 C dX11_errs_18 rfl ?_
    exact j_vret C dX11_errs_21 ⟨rfl, by rw [erM, if_pos c4]; rfl⟩
  · exact j_vret C dX11_errs_7 ⟨rfl, by rw [erM, if_neg c4]⟩
set_option maxHeartbeats 8000000 in
theorem c_advance {a n : Nat} (ha : M.1 15 = nI a) (ha9 : a ≤ 900) (hn : M.1 14 = nI n) (hn9 : n ≤ 900) : Con l G yX11_advance cX11_advance 2 none 3 0 0 [.ref o] (mw o ad G.2.1 M) (pV (mw o ad G.2.1 (lxM M n a))) := by
  refine Con.mk (own := RX11) (by decide) rfl (Nat.le_of_ble_eq_true rfl) (fun X C => ?_)
  have lp0 : ∀ (m : Nat) (a0 : Nat), n - a0 = m → a0 ≤ 900 → lx_ws (M.2.1 11) n (n - a0) a0 = lx_ws (M.2.1 11) n (n - a) a → J X 2 0 0 (mw o ad G.2.1 (sS M 15 (nI a0))) 0 [(0, .ref o)] [] := by
    intro m
    induction m using Nat.strongRecOn with
    | ind m ilp0 =>
    intro a0 hm ha0 hws
    refine j_aload_n 1 C dX11_advance_0 rfl rfl ?_
    refine j_aload_n 2 C dX11_advance_1 rfl rfl ?_
    refine rg_at 5 C dX11_advance_2 rfl ?_
    rw [show (sS M 15 (nI a0)).1 15 = nI a0 from rfl]
    refine j_mI 8 C dX11_advance_5 rfl cw11_111 rfl (c_seeT (M := (sS M 15 (nI a0))) (tp := M.2.1 11) _ rfl (by omega) (show M.1 14 = nI n from hn) hn9) rfl (by decide) rfl (Nat.le_of_ble_eq_true rfl) ?_
    refine j_bipush 10 C dX11_advance_8 rfl (v := nI 32) (by decide) ?_
    refine j_icmp_eq 26 13 C dX11_advance_10 (by decide) rfl (fun c10 => ?_) (fun c10 => ?_)
    · have hw : (sv (M.2.1 11) n a0) = nI 32 ∨ (sv (M.2.1 11) n a0) = nI 10 := Or.inl c10
      have han := ws_in hw
      refine j_aload_n 27 C dX11_advance_26 rfl rfl ?_
      refine j_dup 28 C dX11_advance_27 rfl rfl ?_
      refine rg_at 31 C dX11_advance_28 rfl ?_
      rw [show (sS M 15 (nI a0)).1 15 = nI a0 from rfl]
      refine j_iconst 32 C dX11_advance_31 rfl (v := nI 1) (by decide) ?_
      refine j_iaddN 33 C dX11_advance_32 rfl ?_
      refine rp_at 36 C dX11_advance_33 rfl ?_
      refine j_ws (mw o ad G.2.1 (sS M 15 (nI (a0 + 1)))) (by rw [sS_sS]) ?_
      refine j_goto 0 C dX11_advance_36 (by decide) ?_
      exact j_weak _ (by exact ⟨rfl, trivial⟩) (ilp0 _ (by omega) (a0 + 1) rfl (by omega) (by rw [← hws, lx_ws_eq hw]))
    · refine j_aload_n 14 C dX11_advance_13 rfl rfl ?_
      refine j_aload_n 15 C dX11_advance_14 rfl rfl ?_
      refine rg_at 18 C dX11_advance_15 rfl ?_
      rw [show (sS M 15 (nI a0)).1 15 = nI a0 from rfl]
      refine j_mI 21 C dX11_advance_18 rfl cw11_111 rfl (c_seeT (M := (sS M 15 (nI a0))) (tp := M.2.1 11) _ rfl (by omega) (show M.1 14 = nI n from hn) hn9) rfl (by decide) rfl (Nat.le_of_ble_eq_true rfl) ?_
      refine j_bipush 23 C dX11_advance_21 rfl (v := nI 10) (by decide) ?_
      refine j_icmp_ne 39 26 C dX11_advance_23 (by decide) rfl (fun c23 => ?_) (fun c23 => ?_)
      · have hend := lx_ws_end (tp := (M.2.1 11)) (n := n) (a := a0) (fun z => z.elim c10 c23)
        refine j_aload_n 40 C dX11_advance_39 rfl rfl ?_
        refine j_aload_n 41 C dX11_advance_40 rfl rfl ?_
        refine rg_at 44 C dX11_advance_41 rfl ?_
        rw [show (sS M 15 (nI a0)).1 15 = nI a0 from rfl]
        refine rp_from 47 C dX11_advance_44 rfl ?_
        refine j_ws (mw o ad G.2.1 (sS (sS M 15 (nI a0)) 16 (nI a0))) rfl ?_
        refine j_aload_n 48 C dX11_advance_47 rfl rfl ?_
        refine j_aload_n 49 C dX11_advance_48 rfl rfl ?_
        refine rg_at 52 C dX11_advance_49 rfl ?_
        rw [show (sS (sS M 15 (nI a0)) 16 (nI a0)).1 15 = nI a0 from rfl]
        refine j_mI 55 C dX11_advance_52 rfl cw11_111 rfl (c_seeT (M := (sS (sS M 15 (nI a0)) 16 (nI a0))) (tp := M.2.1 11) _ rfl (by omega) (show M.1 14 = nI n from hn) hn9) rfl (by decide) rfl (Nat.le_of_ble_eq_true rfl) ?_
        refine j_istore_n 56 C dX11_advance_55 rfl rfl (by decide) ?_
        refine j_iload_n 57 C dX11_advance_56 rfl rfl ?_
        refine j_iconst 58 C dX11_advance_57 rfl (v := (-1)) (by decide) ?_
        refine j_icmp_ne 69 61 C dX11_advance_58 (by decide) rfl (fun c58 => ?_) (fun c58 => ?_)
        · refine j_iload_n 70 C dX11_advance_69 rfl rfl ?_
          refine j_i2l 71 C dX11_advance_70 rfl ?_
          refine j_ldc2 74 C dX11_advance_71 rfl (v := (97)) kc11_121 ?_
          refine j_ldc2 77 C dX11_advance_74 rfl (v := (122)) kc11_123 ?_
          refine j_sI 80 C dX11_advance_77 rfl cw11_88 (c_in _ _ _) rfl (by decide) ⟨Nat.le_refl _, Nat.le_refl _⟩ rfl (Nat.le_of_ble_eq_true rfl) ?_
          refine j_if_eqB 125 83 C dX11_advance_80 (by decide) rfl (fun c80 => ?_) (fun c80 => ?_)
          · refine j_iload_n 126 C dX11_advance_125 rfl rfl ?_
            refine j_i2l 127 C dX11_advance_126 rfl ?_
            refine j_ldc2 130 C dX11_advance_127 rfl (v := (48)) kc11_125 ?_
            refine j_ldc2 133 C dX11_advance_130 rfl (v := (57)) kc11_127 ?_
            refine j_sI 136 C dX11_advance_133 rfl cw11_88 (c_in _ _ _) rfl (by decide) ⟨Nat.le_refl _, Nat.le_refl _⟩ rfl (Nat.le_of_ble_eq_true rfl) ?_
            refine j_if_eqB 214 139 C dX11_advance_136 (by decide) rfl (fun c136 => ?_) (fun c136 => ?_)
            · have hT : lxM M n a = setT M (nI (a0 + 1)) (nI a0) (if (sv (M.2.1 11) n a0) = nI 59 then nI 3 else nI 4) (M.1 18) := by unfold lxM; dsimp only; rw [← hws, hend, if_neg c58, if_neg c80, if_neg c136]
              refine j_aload_n 215 C dX11_advance_214 rfl rfl ?_
              refine j_iload_n 216 C dX11_advance_215 rfl rfl ?_
              refine j_bipush 218 C dX11_advance_216 rfl (v := nI 59) (by decide) ?_
              refine j_icmp_ne 225 221 C dX11_advance_218 (by decide) rfl (fun c218 => ?_) (fun c218 => ?_)
              · rw [if_neg c218] at hT
                refine j_iconst 226 C dX11_advance_225 rfl (v := nI 4) (by decide) ?_
                refine rp_token 229 C dX11_advance_226 rfl ?_
                refine j_ws (mw o ad G.2.1 (sS (sS (sS M 15 (nI a0)) 16 (nI a0)) 17 (nI 4))) rfl ?_
                refine j_aload_n 230 C dX11_advance_229 rfl rfl ?_
                refine j_dup 231 C dX11_advance_230 rfl rfl ?_
                refine rg_at 234 C dX11_advance_231 rfl ?_
                rw [show (sS (sS (sS M 15 (nI a0)) 16 (nI a0)) 17 (nI 4)).1 15 = nI a0 from rfl]
                refine j_iconst 235 C dX11_advance_234 rfl (v := nI 1) (by decide) ?_
                refine j_iaddN 236 C dX11_advance_235 rfl ?_
                refine rp_at 239 C dX11_advance_236 rfl ?_
                exact j_vret C dX11_advance_239 ⟨rfl, by rw [hT]; rfl⟩
              · rw [if_pos c218] at hT
                refine j_iconst 222 C dX11_advance_221 rfl (v := nI 3) (by decide) ?_
                refine j_goto 226 C dX11_advance_222 (by decide) ?_
                refine rp_token 229 C dX11_advance_226 rfl ?_
                refine j_ws (mw o ad G.2.1 (sS (sS (sS M 15 (nI a0)) 16 (nI a0)) 17 (nI 3))) rfl ?_
                refine j_aload_n 230 C dX11_advance_229 rfl rfl ?_
                refine j_dup 231 C dX11_advance_230 rfl rfl ?_
                refine rg_at 234 C dX11_advance_231 rfl ?_
                rw [show (sS (sS (sS M 15 (nI a0)) 16 (nI a0)) 17 (nI 3)).1 15 = nI a0 from rfl]
                refine j_iconst 235 C dX11_advance_234 rfl (v := nI 1) (by decide) ?_
                refine j_iaddN 236 C dX11_advance_235 rfl ?_
                refine rp_at 239 C dX11_advance_236 rfl ?_
                exact j_vret C dX11_advance_239 ⟨rfl, by rw [hT]; rfl⟩
            · have hT2 : lxM M n a = setT M (nI (lx_dig (M.2.1 11) n (n - a0) a0 (nI 0)).1) (nI a0) (nI 2) (lx_dig (M.2.1 11) n (n - a0) a0 (nI 0)).2 := by unfold lxM; dsimp only; rw [← hws, hend, if_neg c58, if_neg c80, if_pos c136]
              have hdn := dig_in c136
              refine j_aload_n 140 C dX11_advance_139 rfl rfl ?_
              refine j_iconst 141 C dX11_advance_140 rfl (v := nI 0) (by decide) ?_
              refine rp_value 144 C dX11_advance_141 rfl ?_
              have lp144 : ∀ (m : Nat) (d : Nat) (v : Int32), n - d = m → d ≤ n → lx_dig (M.2.1 11) n (n - d) d v = lx_dig (M.2.1 11) n (n - a0) a0 (nI 0) → J X 2 0 0 (mw o ad G.2.1 (sS (sS (sS M 15 (nI d)) 16 (nI a0)) 18 v)) 144 [(0, .ref o)] [] := by
                intro m
                induction m using Nat.strongRecOn with
                | ind m ilp144 =>
                intro d v hm hd hdg
                refine j_aload_n 145 C dX11_advance_144 rfl rfl ?_
                refine j_aload_n 146 C dX11_advance_145 rfl rfl ?_
                refine rg_at 149 C dX11_advance_146 rfl ?_
                rw [show (sS (sS (sS M 15 (nI d)) 16 (nI a0)) 18 v).1 15 = nI d from rfl]
                refine j_mI 152 C dX11_advance_149 rfl cw11_111 rfl (c_seeT (M := (sS (sS (sS M 15 (nI d)) 16 (nI a0)) 18 v)) (tp := M.2.1 11) _ rfl (by omega) (show M.1 14 = nI n from hn) hn9) rfl (by decide) rfl (Nat.le_of_ble_eq_true rfl) ?_
                refine j_i2l 153 C dX11_advance_152 rfl ?_
                refine j_ldc2 156 C dX11_advance_153 rfl (v := (48)) kc11_125 ?_
                refine j_ldc2 159 C dX11_advance_156 rfl (v := (57)) kc11_127 ?_
                refine j_sI 162 C dX11_advance_159 rfl cw11_88 (c_in _ _ _) rfl (by decide) ⟨Nat.le_refl _, Nat.le_refl _⟩ rfl (Nat.le_of_ble_eq_true rfl) ?_
                refine j_if_eqB 206 165 C dX11_advance_162 (by decide) rfl (fun c162 => ?_) (fun c162 => ?_)
                · refine j_aload_n 207 C dX11_advance_206 rfl rfl ?_
                  refine j_iconst 208 C dX11_advance_207 rfl (v := nI 2) (by decide) ?_
                  refine rp_token 211 C dX11_advance_208 rfl ?_
                  refine j_goto 239 C dX11_advance_211 (by decide) ?_
                  exact j_vret C dX11_advance_239 ⟨rfl, by rw [hT2, ← hdg, lx_dig_end c162]; rfl⟩
                · have hdn := dig_in c162
                  refine j_aload_n 166 C dX11_advance_165 rfl rfl ?_
                  refine j_ldc 168 C dX11_advance_166 rfl (v := (99999)) kc11_132 ?_
                  refine j_bipush 170 C dX11_advance_168 rfl (v := nI 10) (by decide) ?_
                  refine j_aload_n 171 C dX11_advance_170 rfl rfl ?_
                  refine rg_value 174 C dX11_advance_171 rfl ?_
                  rw [show (sS (sS (sS M 15 (nI d)) 16 (nI a0)) 18 v).1 18 = v from rfl]
                  refine j_imul 175 C dX11_advance_174 rfl ?_
                  refine j_aload_n 176 C dX11_advance_175 rfl rfl ?_
                  refine j_aload_n 177 C dX11_advance_176 rfl rfl ?_
                  refine rg_at 180 C dX11_advance_177 rfl ?_
                  rw [show (sS (sS (sS M 15 (nI d)) 16 (nI a0)) 18 v).1 15 = nI d from rfl]
                  refine j_mI 183 C dX11_advance_180 rfl cw11_111 rfl (c_seeT (M := (sS (sS (sS M 15 (nI d)) 16 (nI a0)) 18 v)) (tp := M.2.1 11) _ rfl (by omega) (show M.1 14 = nI n from hn) hn9) rfl (by decide) rfl (Nat.le_of_ble_eq_true rfl) ?_
                  refine j_iadd 184 C dX11_advance_183 rfl ?_
                  refine j_bipush 186 C dX11_advance_184 rfl (v := nI 48) (by decide) ?_
                  refine j_isub 187 C dX11_advance_186 rfl ?_
                  refine j_sI 190 C dX11_advance_187 rfl cw11_133 (c_minI _ _) rfl (by decide) ⟨Nat.le_refl _, Nat.le_refl _⟩ rfl (Nat.le_of_ble_eq_true rfl) ?_
                  rw [show (if nI 10 * v + sv (M.2.1 11) n d - nI 48 < 99999 then nI 10 * v + sv (M.2.1 11) n d - nI 48 else 99999) = lx_dv v (sv (M.2.1 11) n d) from rfl]
                  refine rp_value 193 C dX11_advance_190 rfl ?_
                  refine j_ws (mw o ad G.2.1 (sS (sS (sS M 15 (nI d)) 16 (nI a0)) 18 (lx_dv v (sv (M.2.1 11) n d)))) (by rw [sS_sS]) ?_
                  refine j_aload_n 194 C dX11_advance_193 rfl rfl ?_
                  refine j_dup 195 C dX11_advance_194 rfl rfl ?_
                  refine rg_at 198 C dX11_advance_195 rfl ?_
                  rw [show (sS (sS (sS M 15 (nI d)) 16 (nI a0)) 18 (lx_dv v (sv (M.2.1 11) n d))).1 15 = nI d from rfl]
                  refine j_iconst 199 C dX11_advance_198 rfl (v := nI 1) (by decide) ?_
                  refine j_iaddN 200 C dX11_advance_199 rfl ?_
                  refine rp_at 203 C dX11_advance_200 rfl ?_
                  refine j_ws (mw o ad G.2.1 (sS (sS (sS M 15 (nI (d + 1))) 16 (nI a0)) 18 (lx_dv v (sv (M.2.1 11) n d)))) rfl ?_
                  refine j_goto 144 C dX11_advance_203 (by decide) ?_
                  exact j_weak _ (by exact ⟨rfl, trivial⟩) (ilp144 _ (by omega) (d + 1) _ rfl (by omega) (by rw [← hdg, lx_dig_eq c162]))
              exact j_weak _ (by exact ⟨rfl, trivial⟩) (lp144 _ a0 (nI 0) rfl (by omega) rfl)
          · have hT1 : lxM M n a = setT M (nI (lx_let (M.2.1 11) n (n - a0) a0)) (nI a0) (nI 1) (M.1 18) := by unfold lxM; dsimp only; rw [← hws, hend, if_neg c58, if_pos c80]
            have hdn := let_in c80
            have lp83 : ∀ (m : Nat) (d : Nat), n - d = m → d ≤ n → lx_let (M.2.1 11) n (n - d) d = lx_let (M.2.1 11) n (n - a0) a0 → J X 2 0 0 (mw o ad G.2.1 (sS (sS M 15 (nI d)) 16 (nI a0))) 83 [(0, .ref o)] [] := by
              intro m
              induction m using Nat.strongRecOn with
              | ind m ilp83 =>
              intro d hm hd hdg
              refine j_aload_n 84 C dX11_advance_83 rfl rfl ?_
              refine j_aload_n 85 C dX11_advance_84 rfl rfl ?_
              refine rg_at 88 C dX11_advance_85 rfl ?_
              rw [show (sS (sS M 15 (nI d)) 16 (nI a0)).1 15 = nI d from rfl]
              refine j_mI 91 C dX11_advance_88 rfl cw11_111 rfl (c_seeT (M := (sS (sS M 15 (nI d)) 16 (nI a0))) (tp := M.2.1 11) _ rfl (by omega) (show M.1 14 = nI n from hn) hn9) rfl (by decide) rfl (Nat.le_of_ble_eq_true rfl) ?_
              refine j_i2l 92 C dX11_advance_91 rfl ?_
              refine j_ldc2 95 C dX11_advance_92 rfl (v := (97)) kc11_121 ?_
              refine j_ldc2 98 C dX11_advance_95 rfl (v := (122)) kc11_123 ?_
              refine j_sI 101 C dX11_advance_98 rfl cw11_88 (c_in _ _ _) rfl (by decide) ⟨Nat.le_refl _, Nat.le_refl _⟩ rfl (Nat.le_of_ble_eq_true rfl) ?_
              refine j_if_eqB 117 104 C dX11_advance_101 (by decide) rfl (fun c101 => ?_) (fun c101 => ?_)
              · refine j_aload_n 118 C dX11_advance_117 rfl rfl ?_
                refine j_iconst 119 C dX11_advance_118 rfl (v := nI 1) (by decide) ?_
                refine rp_token 122 C dX11_advance_119 rfl ?_
                refine j_goto 239 C dX11_advance_122 (by decide) ?_
                exact j_vret C dX11_advance_239 ⟨rfl, by rw [hT1, ← hdg, lx_let_end c101]; rfl⟩
              · have hdn := let_in c101
                refine j_aload_n 105 C dX11_advance_104 rfl rfl ?_
                refine j_dup 106 C dX11_advance_105 rfl rfl ?_
                refine rg_at 109 C dX11_advance_106 rfl ?_
                rw [show (sS (sS M 15 (nI d)) 16 (nI a0)).1 15 = nI d from rfl]
                refine j_iconst 110 C dX11_advance_109 rfl (v := nI 1) (by decide) ?_
                refine j_iaddN 111 C dX11_advance_110 rfl ?_
                refine rp_at 114 C dX11_advance_111 rfl ?_
                refine j_ws (mw o ad G.2.1 (sS (sS M 15 (nI (d + 1))) 16 (nI a0))) rfl ?_
                refine j_goto 83 C dX11_advance_114 (by decide) ?_
                exact j_weak _ (by exact ⟨rfl, trivial⟩) (ilp83 _ (by omega) (d + 1) rfl (by omega) (by rw [← hdg, lx_let_eq c101]))
            exact j_weak _ (by exact ⟨rfl, trivial⟩) (lp83 _ a0 rfl (by omega) rfl)
        · have hT : lxM M n a = setT M (nI a0) (nI a0) (nI 0) (M.1 18) := by unfold lxM; dsimp only; rw [← hws, hend, if_pos c58]
          refine j_aload_n 62 C dX11_advance_61 rfl rfl ?_
          refine j_iconst 63 C dX11_advance_62 rfl (v := nI 0) (by decide) ?_
          refine rp_token 66 C dX11_advance_63 rfl ?_
          refine j_goto 239 C dX11_advance_66 (by decide) ?_
          exact j_vret C dX11_advance_239 ⟨rfl, by rw [hT]; rfl⟩
      · have hw : (sv (M.2.1 11) n a0) = nI 32 ∨ (sv (M.2.1 11) n a0) = nI 10 := Or.inr c23
        have han := ws_in hw
        refine j_aload_n 27 C dX11_advance_26 rfl rfl ?_
        refine j_dup 28 C dX11_advance_27 rfl rfl ?_
        refine rg_at 31 C dX11_advance_28 rfl ?_
        rw [show (sS M 15 (nI a0)).1 15 = nI a0 from rfl]
        refine j_iconst 32 C dX11_advance_31 rfl (v := nI 1) (by decide) ?_
        refine j_iaddN 33 C dX11_advance_32 rfl ?_
        refine rp_at 36 C dX11_advance_33 rfl ?_
        refine j_ws (mw o ad G.2.1 (sS M 15 (nI (a0 + 1)))) (by rw [sS_sS]) ?_
        refine j_goto 0 C dX11_advance_36 (by decide) ?_
        exact j_weak _ (by exact ⟨rfl, trivial⟩) (ilp0 _ (by omega) (a0 + 1) rfl (by omega) (by rw [← hws, lx_ws_eq hw]))
  rw [show mw o ad G.2.1 M = mw o ad G.2.1 (sS M 15 (nI a)) from by rw [sS_self ha]]
  exact j_weak _ (by exact ⟨rfl, trivial⟩) (lp0 _ a rfl (by omega) rfl)
end S20
