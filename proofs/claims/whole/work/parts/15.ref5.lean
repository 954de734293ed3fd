theorem vcell_ext {cA : ClassId} {n : Nat} {f f' : Nat → Int32} (h : ∀ j, j < n → f j = f' j) : vp_cell cA (n, .inl f) = vp_cell cA (n, .inl f') := by
  rw [vp_cell_i, vp_cell_i]
  unfold arrV
  congr 1
  apply Array.ext
  · simp
  · intro i h1 h2
    simp at h1
    simp [h i h1]
theorem w_set {ws : va_W} {q0 a : Nat} {e e' : va_E} (ha : ws[q0]? = some (a, e)) {i : Nat} {p : Nat × va_E} (h : (ws.set q0 (a, e'))[i]? = some p) : ∃ p0, ws[i]? = some p0 ∧ p0.1 = p.1 := by
  by_cases hi : i = q0
  · subst hi
    have hl : i < ws.length := (List.getElem?_eq_some_iff.mp ha).1
    rw [List.getElem?_set_self hl] at h
    cases h
    exact ⟨_, ha, rfl⟩
  · rw [List.getElem?_set_ne (Ne.symm hi)] at h
    exact ⟨p, h, rfl⟩
theorem d_set {A : Nat → Prop} {ws : va_W} {q0 a : Nat} {e e' : va_E} (ha : ws[q0]? = some (a, e)) (h : va_D A ws) : va_D A (ws.set q0 (a, e')) := by
  refine ⟨fun i j p q hp hq hpq => ?_, fun k q hq => ?_⟩
  · obtain ⟨p0, hp0, e1⟩ := w_set ha hp
    obtain ⟨q0', hq0, e2⟩ := w_set ha hq
    exact h.1 i j p0 q0' hp0 hq0 (by rw [e1, e2, hpq])
  · obtain ⟨p0, hp0, e1⟩ := w_set ha hq
    rw [← e1]; exact h.2 k p0 hp0
def aR (M : MS) (f : Nat) (g : Nat → Int32) : MS := (M.1, va_up M.2.1 f g, M.2.2)
theorem aS_aR (M : MS) (f i : Nat) (g : Nat → Int32) (v : Int32) : aS (aR M f g) f i v = aR M f (upd g i v) := by
  unfold aS aR
  simp only [bx_uu]
  congr 3
  show upd (va_up M.2.1 f g f) i v = _
  unfold va_up
  rw [if_pos rfl]
theorem aR_aR (M : MS) (f : Nat) (g g' : Nat → Int32) : aR (aR M f g) f g' = aR M f g' := by unfold aR; simp only [bx_uu]
theorem aR_self (M : MS) (f : Nat) : aR M f (M.2.1 f) = M := by unfold aR; rw [vup_self]
theorem sS_sS (M : MS) (f : Nat) (x y : Int32) : sS (sS M f x) f y = sS M f y := by unfold sS; simp only [bx_uu]
theorem sS_self {M : MS} {f : Nat} {x : Int32} (h : M.1 f = x) : sS M f x = M := by unfold sS; rw [← h, vup_self]
theorem sS_aR (M : MS) (f k : Nat) (g : Nat → Int32) (y : Int32) : sS (aR M k g) f y = aR (sS M f y) k g := rfl
theorem cpy_step (f g : Nat → Int32) (sp dp k : Nat) : upd (va_cpy f g sp dp k) (dp + k) (f (sp + k)) = va_cpy f g sp dp (k + 1) := by
  funext j
  unfold upd va_cpy
  by_cases h : j = dp + k
  · rw [if_pos h, if_pos (by omega), show sp + (j - dp) = sp + k by omega]
  · rw [if_neg h]
    by_cases h2 : dp ≤ j ∧ j < dp + k
    · rw [if_pos h2, if_pos (by omega)]
    · rw [if_neg h2, if_neg (by omega)]
theorem cpy_0 (f g : Nat → Int32) (sp dp : Nat) : va_cpy f g sp dp 0 = g := by
  funext j; unfold va_cpy; rw [if_neg (by omega)]
def pE (r : Int32) (P : (Nat → Int32) → Prop) (W : (Nat → Int32) → va_W) : Option Value → va_W → Prop := fun v w => v = some (.int r) ∧ ∃ g, P g ∧ w = W g
def pEV (P : (Nat → Int32) → Prop) (W : (Nat → Int32) → va_W) : Option Value → va_W → Prop := fun v w => v = none ∧ ∃ g, P g ∧ w = W g
section S5
variable {X : JX} {l : Launch} {G : GG} {cc : ByteArray} {nL : Nat} {own : String} {rt : Option FieldType} {d mc ms : Nat} {post : Option Value → va_W → Prop} {k n pc : Nat} {ws : va_W} {lv : List (Nat × Value)} {st : List Value}
theorem j_exti (q0 : Nat) {a z : Nat} {cA : ClassId} {f f' : Nat → Int32} {ws' : va_W} (ha : ws[q0]? = some (a, .inl (cA, z, .inl f))) (hf : ∀ j, j < z → f j = f' j) (hw : ws.set q0 (a, .inl (cA, z, .inl f')) = ws') (kk : J X nL k n ws' pc lv st) : J X nL k n ws pc lv st := by
  subst hw
  obtain ⟨p, l, e, R, s, m, args, below, meth, c, A, G, Q⟩ := X
  intro H locs ls hP hD hS hl
  refine kk H locs ls (fun i q hq => ?_) (d_set ha hD) hS hl
  by_cases hi : i = q0
  · subst hi
    have hlt : i < ws.length := (List.getElem?_eq_some_iff.mp ha).1
    rw [List.getElem?_set_self hlt] at hq
    cases hq
    have := hP i _ ha
    show H[a]? = some (vp_cell cA (z, .inl f'))
    rw [← vcell_ext hf]; exact this
  · rw [List.getElem?_set_ne (Ne.symm hi)] at hq
    exact hP i q hq
variable {o : Nat} {ad : Nat → Nat} {M : MS} {h h' : Nat → Int32}
theorem j_extH (h' : Nat → Int32) (hf : ∀ j, j < 2018 → h j = h' j) (kk : J X nL k n (mw o ad G.2.1 (setHd M h')) pc lv st) : J X nL k n (mw o ad G.2.1 (setHd M h)) pc lv st :=
  j_exti 2 rfl hf rfl kk
section C5
variable {y : MethodName} {cy : ByteArray} {mL idx np d' : Nat} {rt' : Option FieldType} {As st0 : List Value} {x : Int32} {P : (Nat → Int32) → Prop} {W' : (Nat → Int32) → va_W}
theorem j_mE (q : Nat) (C : Cx X l G cc nL RX11 rt d 0 0 post) (hd : decode cc pc = .ok (.invokevirtual idx, 3)) (hq : pc + 3 = q)
    (hw : CW RX11 idx y cy mL rt' np) (hy : y.cls = RX11) (hC : Con l G y cy mL rt' d' 0 0 (.ref o :: As) (mw o ad G.2.1 M) (pE x P W'))
    (hnp : As.length = np) (hdd : d' + 1 ≤ d) (hst : st0 = As.reverse ++ .ref o :: st) (hrm : (st.map fun v => v.category).sum ≤ 8)
    (kk : ∀ g, P g → J X nL 0 0 (W' g) q lv (.int x :: st)) : J X nL 0 0 (mw o ad G.2.1 M) pc lv st0 := by
  refine j_callVs q C hd hq hw hC hnp ⟨hdd, Nat.le_refl _, Nat.le_refl _⟩ hst hrm 0 rfl (ci := 11) (T := TX11) (N := 38) (by rw [hy]; rfl) (fun v w hp => ?_)
  obtain ⟨rfl, g, hg, rfl⟩ := hp
  exact kk g hg
theorem j_mEV (q : Nat) (C : Cx X l G cc nL RX11 rt d 0 0 post) (hd : decode cc pc = .ok (.invokevirtual idx, 3)) (hq : pc + 3 = q)
    (hw : CW RX11 idx y cy mL rt' np) (hy : y.cls = RX11) (hC : Con l G y cy mL rt' d' 0 0 (.ref o :: As) (mw o ad G.2.1 M) (pEV P W'))
    (hnp : As.length = np) (hdd : d' + 1 ≤ d) (hst : st0 = As.reverse ++ .ref o :: st) (hrm : (st.map fun v => v.category).sum ≤ 8)
    (kk : ∀ g, P g → J X nL 0 0 (W' g) q lv st) : J X nL 0 0 (mw o ad G.2.1 M) pc lv st0 := by
  refine j_callVs q C hd hq hw hC hnp ⟨hdd, Nat.le_refl _, Nat.le_refl _⟩ hst hrm 0 rfl (ci := 11) (T := TX11) (N := 38) (by rw [hy]; rfl) (fun v w hp => ?_)
  obtain ⟨rfl, g, hg, rfl⟩ := hp
  exact kk g hg
end C5
end S5
def fz (h : Nat → Int32) (k : Nat) : Nat → Int32 := fun j => if j < k then nI 0 else h j
theorem fz_step (h : Nat → Int32) (k : Nat) : upd (fz h k) k (nI 0) = fz h (k + 1) := by
  funext j
  unfold upd fz
  by_cases e : j = k
  · rw [if_pos e, if_pos (by omega)]
  · rw [if_neg e]
    by_cases e2 : j < k
    · rw [if_pos e2, if_pos (by omega)]
    · rw [if_neg e2, if_neg (by omega)]
def h00 : Nat → Int32 := fun _ => nI 0
/-- a HEAD as at first, at this hour -/
def f_fr (h : Nat → Int32) : Nat → Int32 := upd h00 2016 (h 2016)
section S6
variable {l : Launch} {G : GG} {o : Nat} {ad : Nat → Nat} {M : MS} {h g : Nat → Int32} {c : Nat}
theorem c_clearHead  : Con l G yX11_clearHead cX11_clearHead 2 none 1 0 0 [.ref o] (mw o ad G.2.1 (setHd M h)) (pV (mw o ad G.2.1 (setHd M h00))) := by
  refine Con.mk (own := RX11) (by decide) rfl (Nat.le_of_ble_eq_true rfl) (fun X C => ?_)
  have lp2 : ∀ (m : Nat) (k : Nat), 2018 - k = m → k ≤ 2018 → J X 2 0 0 (mw o ad G.2.1 (setHd M (fz h k))) 2 [(0, .ref o), (1, .int (nI k))] [] := by
    intro m
    induction m using Nat.strongRecOn with
    | ind m ilp2 =>
    intro k hm hk
    refine j_iload_n 3 C dX11_clearHead_2 rfl rfl ?_
    refine j_sipush 6 C dX11_clearHead_3 rfl (v := nI 2018) (by decide) ?_
    refine j_icmp_geN 22 9 C dX11_clearHead_6 (by decide) rfl (by omega) (by omega) (fun c6 => ?_) (fun c6 => ?_)
    · refine j_extH h00 (fun j hj => if_pos (by omega)) ?_
      exact j_vret C dX11_clearHead_22 ⟨rfl, rfl⟩
    · refine j_aload_n 10 C dX11_clearHead_9 rfl rfl ?_
      refine rgH_head 13 C dX11_clearHead_10 rfl ?_
      refine j_iload_n 14 C dX11_clearHead_13 rfl rfl ?_
      refine j_iconst 15 C dX11_clearHead_14 rfl (v := nI 0) (by decide) ?_
      refine rsH_head 16 C dX11_clearHead_15 rfl _ (by omega) rfl ?_
      refine j_iincN 19 (z := 1) C dX11_clearHead_16 rfl rfl rfl (by decide) ?_
      refine j_goto 2 C dX11_clearHead_19 (by decide) ?_
      rw [fz_step]
      exact j_weak _ (by exact ⟨rfl, rfl, trivial⟩) (ilp2 _ (by omega) (k + 1) rfl (by omega))
  refine j_iconst 1 C dX11_clearHead_0 rfl (v := nI 0) (by decide) ?_
  refine j_istore_n 2 C dX11_clearHead_1 rfl rfl (by decide) ?_
  exact j_weak _ (by exact ⟨rfl, rfl, trivial⟩) (lp2 _ 0 rfl (Nat.zero_le _))
set_option maxHeartbeats 1000000 in
theorem c_copy (hc : c < 8) : Con l G yX11_copy cX11_copy 2 none 1 0 0 [.ref o] (mw o ad G.2.1 (setHd (aR (sS M 27 (nI c)) 26 g) h)) (pV (mw o ad G.2.1 (setHd (aR (sS M 27 (nI (c + 1))) 26 (va_cpy h g 0 (2018 * c) 2018)) h))) := by
  refine Con.mk (own := RX11) (by decide) rfl (Nat.le_of_ble_eq_true rfl) (fun X C => ?_)
  have lp2 : ∀ (m : Nat) (k : Nat), 2018 - k = m → k ≤ 2018 → J X 2 0 0 (mw o ad G.2.1 (setHd (aR (sS M 27 (nI c)) 26 (va_cpy h g 0 (2018 * c) k)) h)) 2 [(0, .ref o), (1, .int (nI k))] [] := by
    intro m
    induction m using Nat.strongRecOn with
    | ind m ilp2 =>
    intro k hm hk
    refine j_iload_n 3 C dX11_copy_2 rfl rfl ?_
    refine j_sipush 6 C dX11_copy_3 rfl (v := nI 2018) (by decide) ?_
    refine j_icmp_geN 36 9 C dX11_copy_6 (by decide) rfl (by omega) (by omega) (fun c6 => ?_) (fun c6 => ?_)
    · refine j_aload_n 37 C dX11_copy_36 rfl rfl ?_
      refine j_dup 38 C dX11_copy_37 rfl rfl ?_
      refine rgH_copied 41 C dX11_copy_38 rfl ?_
      rw [show (aR (sS M 27 (nI c)) 26 _).1 27 = nI c from rfl]
      refine j_iconst 42 C dX11_copy_41 rfl (v := nI 1) (by decide) ?_
      refine j_iaddN 43 C dX11_copy_42 rfl ?_
      refine rpH_copied 46 C dX11_copy_43 rfl ?_
      rw [sS_aR, sS_sS, show k = 2018 by omega]
      exact j_vret C dX11_copy_46 ⟨rfl, rfl⟩
    · refine j_aload_n 10 C dX11_copy_9 rfl rfl ?_
      refine rgH_copies 13 C dX11_copy_10 rfl ?_
      refine j_sipush 16 C dX11_copy_13 rfl (v := nI 2018) (by decide) ?_
      refine j_aload_n 17 C dX11_copy_16 rfl rfl ?_
      refine rgH_copied 20 C dX11_copy_17 rfl ?_
      rw [show (aR (sS M 27 (nI c)) 26 _).1 27 = nI c from rfl]
      refine j_imulN 21 C dX11_copy_20 rfl ?_
      refine j_iload_n 22 C dX11_copy_21 rfl rfl ?_
      refine j_iaddN 23 C dX11_copy_22 rfl ?_
      refine j_aload_n 24 C dX11_copy_23 rfl rfl ?_
      refine rgH_head 27 C dX11_copy_24 rfl ?_
      refine j_iload_n 28 C dX11_copy_27 rfl rfl ?_
      refine raH_head 29 C dX11_copy_28 rfl _ (by omega) rfl ?_
      refine rsH_copies 30 C dX11_copy_29 rfl _ (by omega) rfl ?_
      rw [aS_aR]
      rw [show upd (va_cpy h g 0 (2018 * c) k) (2018 * c + k) (h k) = (va_cpy h g 0 (2018 * c) (k + 1)) from by rw [show h k = h (0 + k) from by rw [Nat.zero_add]]; exact cpy_step h g 0 (2018 * c) k]
      refine j_iincN 33 (z := 1) C dX11_copy_30 rfl rfl rfl (by decide) ?_
      refine j_goto 2 C dX11_copy_33 (by decide) ?_
      exact j_weak _ (by exact ⟨rfl, rfl, trivial⟩) (ilp2 _ (by omega) (k + 1) rfl (by omega))
  refine j_iconst 1 C dX11_copy_0 rfl (v := nI 0) (by decide) ?_
  refine j_istore_n 2 C dX11_copy_1 rfl rfl (by decide) ?_
  rw [show aR (sS M 27 (nI c)) 26 g = aR (sS M 27 (nI c)) 26 (va_cpy h g 0 (2018 * c) 0) from by rw [cpy_0]]
  exact j_weak _ (by exact ⟨rfl, rfl, trivial⟩) (lp2 _ 0 rfl (Nat.zero_le _))
set_option maxHeartbeats 1000000 in
theorem c_takeBack (hc : c < 8) : Con l G yX11_takeBack cX11_takeBack 2 none 1 0 0 [.ref o] (mw o ad G.2.1 (setHd (aR (sS M 27 (nI (c + 1))) 26 g) h)) (pV (mw o ad G.2.1 (setHd (aR (sS M 27 (nI c)) 26 g) (va_cpy g h (2018 * c) 0 2018)))) := by
  refine Con.mk (own := RX11) (by decide) rfl (Nat.le_of_ble_eq_true rfl) (fun X C => ?_)
  have lp12 : ∀ (m : Nat) (k : Nat), 2018 - k = m → k ≤ 2018 → J X 2 0 0 (mw o ad G.2.1 (setHd (aR (sS M 27 (nI c)) 26 g) (va_cpy g h (2018 * c) 0 k))) 12 [(0, .ref o), (1, .int (nI k))] [] := by
    intro m
    induction m using Nat.strongRecOn with
    | ind m ilp12 =>
    intro k hm hk
    refine j_iload_n 13 C dX11_takeBack_12 rfl rfl ?_
    refine j_sipush 16 C dX11_takeBack_13 rfl (v := nI 2018) (by decide) ?_
    refine j_icmp_geN 46 19 C dX11_takeBack_16 (by decide) rfl (by omega) (by omega) (fun c16 => ?_) (fun c16 => ?_)
    · rw [show k = 2018 by omega]
      exact j_vret C dX11_takeBack_46 ⟨rfl, rfl⟩
    · refine j_aload_n 20 C dX11_takeBack_19 rfl rfl ?_
      refine rgH_head 23 C dX11_takeBack_20 rfl ?_
      refine j_iload_n 24 C dX11_takeBack_23 rfl rfl ?_
      refine j_aload_n 25 C dX11_takeBack_24 rfl rfl ?_
      refine rgH_copies 28 C dX11_takeBack_25 rfl ?_
      refine j_sipush 31 C dX11_takeBack_28 rfl (v := nI 2018) (by decide) ?_
      refine j_aload_n 32 C dX11_takeBack_31 rfl rfl ?_
      refine rgH_copied 35 C dX11_takeBack_32 rfl ?_
      rw [show (aR (sS M 27 (nI c)) 26 g).1 27 = nI c from rfl]
      refine j_imulN 36 C dX11_takeBack_35 rfl ?_
      refine j_iload_n 37 C dX11_takeBack_36 rfl rfl ?_
      refine j_iaddN 38 C dX11_takeBack_37 rfl ?_
      refine raH_copies 39 C dX11_takeBack_38 rfl _ (by omega) rfl ?_
      rw [show (aR (sS M 27 (nI c)) 26 g).2.1 26 = g from rfl]
      refine rsH_head 40 C dX11_takeBack_39 rfl _ (by omega) rfl ?_
      rw [show upd (va_cpy g h (2018 * c) 0 k) k (g (2018 * c + k)) = (va_cpy g h (2018 * c) 0 (k + 1)) from by have z := cpy_step g h (2018 * c) 0 k; rw [Nat.zero_add] at z; exact z]
      refine j_iincN 43 (z := 1) C dX11_takeBack_40 rfl rfl rfl (by decide) ?_
      refine j_goto 12 C dX11_takeBack_43 (by decide) ?_
      exact j_weak _ (by exact ⟨rfl, rfl, trivial⟩) (ilp12 _ (by omega) (k + 1) rfl (by omega))
  refine j_aload_n 1 C dX11_takeBack_0 rfl rfl ?_
  refine j_dup 2 C dX11_takeBack_1 rfl rfl ?_
  refine rgH_copied 5 C dX11_takeBack_2 rfl ?_
  rw [show (aR (sS M 27 (nI (c + 1))) 26 g).1 27 = nI (c + 1) from rfl]
  refine j_iconst 6 C dX11_takeBack_5 rfl (v := nI 1) (by decide) ?_
  refine j_isubN 7 C dX11_takeBack_6 rfl (by omega) ?_
  rw [show c + 1 - 1 = c from rfl]
  refine rpH_copied 10 C dX11_takeBack_7 rfl ?_
  rw [sS_aR, sS_sS]
  refine j_iconst 11 C dX11_takeBack_10 rfl (v := nI 0) (by decide) ?_
  refine j_istore_n 12 C dX11_takeBack_11 rfl rfl (by decide) ?_
  rw [show setHd (aR (sS M 27 (nI c)) 26 g) h = setHd (aR (sS M 27 (nI c)) 26 g) (va_cpy g h (2018 * c) 0 0) from by rw [cpy_0]]
  exact j_weak _ (by exact ⟨rfl, rfl, trivial⟩) (lp12 _ 0 rfl (Nat.zero_le _))
theorem cpy_back {h g h2 : Nat → Int32} {c j : Nat} (hj : j < 2018) : va_cpy (va_cpy h g 0 (2018 * c) 2018) h2 (2018 * c) 0 2018 j = h j := by
  rw [pk_cpy_in (by omega) (by omega), pk_cpy_in (by omega) (by omega)]
  congr 1
  omega
theorem cpy_back' {h g g2 h2 : Nat → Int32} {c j : Nat} (hj : j < 2018) (hg : ∀ i, i < 2018 * (c + 1) → g2 i = va_cpy h g 0 (2018 * c) 2018 i) : va_cpy g2 h2 (2018 * c) 0 2018 j = h j := by
  rw [pk_cpy_in (by omega) (by omega), hg _ (by omega), pk_cpy_in (by omega) (by omega)]
  congr 1
  omega
theorem cpy_low {h g : Nat → Int32} {c i : Nat} (hi : i < 2018 * c) : va_cpy h g 0 (2018 * c) 2018 i = g i := pk_cpy_out (Or.inl hi)
theorem c_learnsK (r : Nat) (hr : r < nrw (M.2.1 1)) (hWF : WF (M.2.1 1)) : Con l G yX11_learns cX11_learns 4 (some .int) 5 0 0 [.ref o, .int (nI r)] (mw o ad G.2.1 (setHd (aR (sS M 27 (nI c)) 26 g) h)) (pI (f_lrn (M.2.1 1) (M.1 24) (M.1 25) r 40 1 0 h).1 (mw o ad G.2.1 (setHd (aR (sS M 27 (nI c)) 26 g) (f_lrn (M.2.1 1) (M.1 24) (M.1 25) r 40 1 0 h).2))) := c_learns (M := aR (sS M 27 (nI c)) 26 g) r hr hWF
theorem c_readsK (r : Nat) (hr : r < nrw (M.2.1 1)) (hWF : WF (M.2.1 1)) : Con l G yX11_reads cX11_reads 7 none 4 0 0 [.ref o, .int (nI r)] (mw o ad G.2.1 (setHd (aR (sS M 27 (nI c)) 26 g) h)) (pV (mw o ad G.2.1 (setHd (aR (sS M 27 (nI c)) 26 g) (f_reads (M.2.1 1) (M.1 24) (M.1 25) r h)))) := c_reads (M := aR (sS M 27 (nI c)) 26 g) r hr hWF
theorem c_slipsOfK (r : Nat) (hr : r < nrw (M.2.1 1)) (hWF : WF (M.2.1 1)) : Con l G yX11_slipsOf cX11_slipsOf 4 (some .int) 3 0 0 [.ref o, .int (nI r)] (mw o ad G.2.1 (setHd (aR (sS M 27 (nI c)) 26 g) h)) (pI (f_slips (M.2.1 1) h r) (mw o ad G.2.1 (setHd (aR (sS M 27 (nI c)) 26 g) h))) := c_slipsOf (M := aR (sS M 27 (nI c)) 26 g) r hr hWF
theorem c_leftOfK (r : Nat) (hr : r < nrw (M.2.1 1)) (hWF : WF (M.2.1 1)) : Con l G yX11_leftOf cX11_leftOf 4 (some .int) 3 0 0 [.ref o, .int (nI r)] (mw o ad G.2.1 (setHd (aR (sS M 27 (nI c)) 26 g) h)) (pI (f_left (M.2.1 1) h r (len (M.2.1 1) r)) (mw o ad G.2.1 (setHd (aR (sS M 27 (nI c)) 26 g) h))) := c_leftOf (M := aR (sS M 27 (nI c)) 26 g) r hr hWF
theorem c_hourGoesK  (hWF : WF (M.2.1 1)) : Con l G yX11_hourGoes cX11_hourGoes 6 none 4 0 0 [.ref o] (mw o ad G.2.1 (setHd (aR (sS M 27 (nI c)) 26 g) h)) (pV (mw o ad G.2.1 (setHd (aR (sS M 27 (nI c)) 26 g) (f_hour (M.2.1 1) (M.1 24) (M.1 25) h)))) := c_hourGoes (M := aR (sS M 27 (nI c)) 26 g) hWF
theorem c_hoursGoK (n : Nat) (hn : n < 2 ^ 31) (hWF : WF (M.2.1 1)) : Con l G yX11_hoursGo cX11_hoursGo 3 none 5 0 0 [.ref o, .int (nI n)] (mw o ad G.2.1 (setHd (aR (sS M 27 (nI c)) 26 g) h)) (pV (mw o ad G.2.1 (setHd (aR (sS M 27 (nI c)) 26 g) (f_hours (M.2.1 1) (M.1 24) (M.1 25) n h)))) := c_hoursGo (M := aR (sS M 27 (nI c)) 26 g) n hn hWF
theorem c_supportOfK (r i : Nat) (hr : r < nrw (M.2.1 1)) (hi : i < len (M.2.1 1) r) (hWF : WF (M.2.1 1)) : Con l G yX11_supportOf cX11_supportOf 7 (some .int) 2 0 0 [.ref o, .int (nI r), .int (nI i)] (mw o ad G.2.1 (setHd (aR (sS M 27 (nI c)) 26 g) h)) (pI (f_sup (M.2.1 1) h r i) (mw o ad G.2.1 (setHd (aR (sS M 27 (nI c)) 26 g) h))) := c_supportOf (M := aR (sS M 27 (nI c)) 26 g) r i hr hi hWF
theorem c_clearHeadK   : Con l G yX11_clearHead cX11_clearHead 2 none 1 0 0 [.ref o] (mw o ad G.2.1 (setHd (aR (sS M 27 (nI c)) 26 g) h)) (pV (mw o ad G.2.1 (setHd (aR (sS M 27 (nI c)) 26 g) h00))) := c_clearHead (M := aR (sS M 27 (nI c)) 26 g) 
theorem c_isRowK (r : Int32) (hWF : WF (M.2.1 1)) : Con l G yX11_isRow cX11_isRow 2 (some .boolean) 2 0 0 [.ref o, .int r] (mw o ad G.2.1 (setHd (aR (sS M 27 (nI c)) 26 g) h)) (pI (bI (isI r (nrw (M.2.1 1)))) (mw o ad G.2.1 (setHd (aR (sS M 27 (nI c)) 26 g) h))) := c_isRow (M := setHd (aR (sS M 27 (nI c)) 26 g) h) r hWF.2.2.1.1 (Nat.lt_of_le_of_lt hWF.2.2.1.2 (by decide))
theorem c_isThingK (r : Int32) (hWF : WF (M.2.1 1)) : Con l G yX11_isThing cX11_isThing 2 (some .boolean) 2 0 0 [.ref o, .int r] (mw o ad G.2.1 (setHd (aR (sS M 27 (nI c)) 26 g) h)) (pI (bI (isI r (nth (M.2.1 1)))) (mw o ad G.2.1 (setHd (aR (sS M 27 (nI c)) 26 g) h))) := c_isThing (M := setHd (aR (sS M 27 (nI c)) 26 g) h) r hWF.2.1.1 (Nat.lt_of_le_of_lt hWF.2.1.2 (by decide))
theorem c_manyOfK (r : Nat) (hr : r < 12) : Con l G yX11_manyOf cX11_manyOf 2 (some .int) 1 0 0 [.ref o, .int (nI r)] (mw o ad G.2.1 (setHd (aR (sS M 27 (nI c)) 26 g) h)) (pI (M.2.1 1 (34 + 14 * r)) (mw o ad G.2.1 (setHd (aR (sS M 27 (nI c)) 26 g) h))) := c_manyOf (M := setHd (aR (sS M 27 (nI c)) 26 g) h) r hr
set_option maxHeartbeats 1000000 in
theorem c_needsOf (r : Nat) (hc : c < 8) (hr : r < nrw (M.2.1 1)) (hWF : WF (M.2.1 1)) : Con l G yX11_needsOf cX11_needsOf 3 (some .int) 6 0 0 [.ref o, .int (nI r)] (mw o ad G.2.1 (setHd (aR (sS M 27 (nI c)) 26 g) h)) (pE ((f_lrn (M.2.1 1) (M.1 24) (M.1 25) r 40 1 0 h).1) (fun g2 => ∀ i, i < 2018 * c → g2 i = g i) (fun g2 => (mw o ad G.2.1 (setHd (aR (sS M 27 (nI c)) 26 g2) h)))) := by
  refine Con.mk (own := RX11) (by decide) rfl (Nat.le_of_ble_eq_true rfl) (fun X C => ?_)
  refine j_aload_n 1 C dX11_needsOf_0 rfl rfl ?_
  refine j_mV 4 C dX11_needsOf_1 rfl cw11_303 rfl (c_copy (by omega)) rfl (by decide) rfl (Nat.le_of_ble_eq_true rfl) ?_
  refine j_aload_n 5 C dX11_needsOf_4 rfl rfl ?_
  refine j_iload_n 6 C dX11_needsOf_5 rfl rfl ?_
  refine j_mI 9 C dX11_needsOf_6 rfl cw11_306 rfl (c_learnsK r hr hWF) rfl (by decide) rfl (Nat.le_of_ble_eq_true rfl) ?_
  refine j_istore_n 10 C dX11_needsOf_9 rfl rfl (by decide) ?_
  refine j_aload_n 11 C dX11_needsOf_10 rfl rfl ?_
  refine j_mV 14 C dX11_needsOf_11 rfl cw11_309 rfl (c_takeBack (by omega)) rfl (by decide) rfl (Nat.le_of_ble_eq_true rfl) ?_
  refine j_extH h (fun j hj => cpy_back hj) ?_
  refine j_iload_n 15 C dX11_needsOf_14 rfl rfl ?_
  exact j_iret C dX11_needsOf_15 ⟨rfl, _, fun i hi => cpy_low hi, rfl⟩
theorem fr_ext {h : Nat → Int32} {k j : Nat} (hk : k = 2016) (hj : j < 2018) : upd (fz h k) 2017 (nI 0) j = f_fr h j := by
  subst hk
  unfold upd fz f_fr upd h00
  by_cases e : j = 2017
  · rw [if_pos e, if_neg (by omega)]
  · rw [if_neg e]
    by_cases e2 : j < 2016
    · rw [if_pos e2, if_neg (by omega)]
    · rw [if_neg e2, if_pos (by omega), show j = 2016 by omega]
set_option maxHeartbeats 1000000 in
theorem c_freshOf (r : Nat) (hc : c < 8) (hr : r < nrw (M.2.1 1)) (hWF : WF (M.2.1 1)) : Con l G yX11_freshOf cX11_freshOf 3 (some .int) 6 0 0 [.ref o, .int (nI r)] (mw o ad G.2.1 (setHd (aR (sS M 27 (nI c)) 26 g) h)) (pE ((f_lrn (M.2.1 1) (M.1 24) (M.1 25) r 40 1 0 (f_fr h)).1) (fun g2 => ∀ i, i < 2018 * c → g2 i = g i) (fun g2 => (mw o ad G.2.1 (setHd (aR (sS M 27 (nI c)) 26 g2) h)))) := by
  refine Con.mk (own := RX11) (by decide) rfl (Nat.le_of_ble_eq_true rfl) (fun X C => ?_)
  have lp6 : ∀ (m : Nat) (k : Nat), 2016 - k = m → k ≤ 2016 → J X 3 0 0 (mw o ad G.2.1 (setHd (aR (sS M 27 (nI (c + 1))) 26 (va_cpy h g 0 (2018 * c) 2018)) (fz h k))) 6 [(0, .ref o), (1, .int (nI r)), (2, .int (nI k))] [] := by
    intro m
    induction m using Nat.strongRecOn with
    | ind m ilp6 =>
    intro k hm hk
    refine j_iload_n 7 C dX11_freshOf_6 rfl rfl ?_
    refine j_sipush 10 C dX11_freshOf_7 rfl (v := nI 2016) (by decide) ?_
    refine j_icmp_geN 26 13 C dX11_freshOf_10 (by decide) rfl (by omega) (by omega) (fun c10 => ?_) (fun c10 => ?_)
    · refine j_aload_n 27 C dX11_freshOf_26 rfl rfl ?_
      refine rgH_head 30 C dX11_freshOf_27 rfl ?_
      refine j_sipush 33 C dX11_freshOf_30 rfl (v := nI 2017) (by decide) ?_
      refine j_iconst 34 C dX11_freshOf_33 rfl (v := nI 0) (by decide) ?_
      refine rsH_head 35 C dX11_freshOf_34 rfl _ (by omega) rfl ?_
      refine j_extH (f_fr h) (fun j hj => fr_ext (by omega) hj) ?_
      refine j_aload_n 36 C dX11_freshOf_35 rfl rfl ?_
      refine j_iload_n 37 C dX11_freshOf_36 rfl rfl ?_
      refine j_mI 40 C dX11_freshOf_37 rfl cw11_306 rfl (c_learnsK r hr hWF) rfl (by decide) rfl (Nat.le_of_ble_eq_true rfl) ?_
      refine j_istore_n 41 C dX11_freshOf_40 rfl rfl (by decide) ?_
      refine j_aload_n 42 C dX11_freshOf_41 rfl rfl ?_
      refine j_mV 45 C dX11_freshOf_42 rfl cw11_309 rfl (c_takeBack (by omega)) rfl (by decide) rfl (Nat.le_of_ble_eq_true rfl) ?_
      refine j_extH h (fun j hj => cpy_back hj) ?_
      refine j_iload_n 46 C dX11_freshOf_45 rfl rfl ?_
      exact j_iret C dX11_freshOf_46 ⟨rfl, _, fun i hi => cpy_low hi, rfl⟩
    · refine j_aload_n 14 C dX11_freshOf_13 rfl rfl ?_
      refine rgH_head 17 C dX11_freshOf_14 rfl ?_
      refine j_iload_n 18 C dX11_freshOf_17 rfl rfl ?_
      refine j_iconst 19 C dX11_freshOf_18 rfl (v := nI 0) (by decide) ?_
      refine rsH_head 20 C dX11_freshOf_19 rfl _ (by omega) rfl ?_
      refine j_iincN 23 (z := 1) C dX11_freshOf_20 rfl rfl rfl (by decide) ?_
      refine j_goto 6 C dX11_freshOf_23 (by decide) ?_
      rw [fz_step]
      exact j_weak _ (by exact ⟨rfl, rfl, rfl, trivial⟩) (ilp6 _ (by omega) (k + 1) rfl (by omega))
  refine j_aload_n 1 C dX11_freshOf_0 rfl rfl ?_
  refine j_mV 4 C dX11_freshOf_1 rfl cw11_303 rfl (c_copy (by omega)) rfl (by decide) rfl (Nat.le_of_ble_eq_true rfl) ?_
  refine j_iconst 5 C dX11_freshOf_4 rfl (v := nI 0) (by decide) ?_
  refine j_istore_n 6 C dX11_freshOf_5 rfl rfl (by decide) ?_
  exact j_weak _ (by exact ⟨rfl, rfl, rfl, trivial⟩) (lp6 _ 0 rfl (Nat.zero_le _))
end S6
