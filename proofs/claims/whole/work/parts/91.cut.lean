theorem sv_at {tp : Nat → Int32} {n a : Nat} (h : a < n) : sv tp n a = tp a &&& nI 255 := if_pos h
theorem tok_nws {tp : Nat → Int32} {n p a : Nat} (h : lxF tp n p = lxF tp n a) (hw : ¬ (sv tp n a = nI 32 ∨ sv tp n a = nI 10)) : lxF tp n p = a ∧ lxC tp n p = sv tp n a := by
  have e : lxF tp n a = a := lx_ws_end hw
  exact ⟨h.trans e, by unfold lxC; rw [h, e]⟩
theorem let_nws {c : Int32} (h : isLet c) : ¬ (c = nI 32 ∨ c = nI 10) := fun z => z.elim (fun z => by rw [z] at h; exact absurd h (by decide)) (fun z => by rw [z] at h; exact absurd h (by decide))
theorem dig_nws {c : Int32} (h : isDig c) : ¬ (c = nI 32 ∨ c = nI 10) := fun z => z.elim (fun z => by rw [z] at h; exact absurd h (by decide)) (fun z => by rw [z] at h; exact absurd h (by decide))
theorem let_n1 {c : Int32} (h : isLet c) : ¬ c = -1 := fun z => by rw [z] at h; exact absurd h (by decide)
theorem dig_n1 {c : Int32} (h : isDig c) : ¬ c = -1 := fun z => by rw [z] at h; exact absurd h (by decide)
theorem dig_nlet {c : Int32} (h : isDig c) : ¬ isLet c := fun z => by
  have h1 := Int64.le_iff_toInt_le.mp h.2
  have h2 := Int64.le_iff_toInt_le.mp z.1
  have e1 : (57 : Int64).toInt = 57 := by decide
  have e2 : (97 : Int64).toInt = 97 := by decide
  omega
theorem tok_let {tp : Nat → Int32} {n p a e : Nat} (h : lxF tp n p = lxF tp n a) (hl : isLet (sv tp n a)) (he : lx_let tp n (n - a) a = e) : (a = lxF tp n p ∧ lxE tp n p = e) ∧ ¬ lxC tp n p = -1 ∧ ∀ v, KD tp n p (wsc tp a e 104 0 0 a 1) v := by
  obtain ⟨e1, e2⟩ := tok_nws h (let_nws hl)
  have e3 : lxE tp n p = e := by unfold lxE; rw [e2, e1, if_neg (let_n1 hl), if_pos hl, he]
  refine ⟨⟨e1.symm, e3⟩, by rw [e2]; exact let_n1 hl, fun v => ?_⟩
  unfold KD
  rw [e2, e1, e3]
  exact ⟨fun z => absurd z (let_n1 hl), fun _ _ => rfl, fun _ z => absurd hl z, fun _ z => absurd hl z⟩
theorem tok_dig {tp : Nat → Int32} {n p a e : Nat} {v rv : Int32} (h : lxF tp n p = lxF tp n a) (hl : isDig (sv tp n a)) (he : lx_dig tp n (n - a) a (nI 0) = (e, rv)) (hv : NV v rv) : (a = lxF tp n p ∧ lxE tp n p = e) ∧ ¬ lxC tp n p = -1 ∧ KD tp n p (nI 21) v := by
  obtain ⟨e1, e2⟩ := tok_nws h (dig_nws hl)
  refine ⟨⟨e1.symm, by unfold lxE; rw [e2, e1, if_neg (dig_n1 hl), if_neg (dig_nlet hl), if_pos hl, he]⟩, by rw [e2]; exact dig_n1 hl, ?_⟩
  unfold KD
  rw [e2, e1, he]
  exact ⟨fun z => absurd z (dig_n1 hl), fun _ z => absurd z (dig_nlet hl), fun _ _ _ => ⟨rfl, hv⟩, fun _ _ z => absurd hl z⟩
theorem tok_sgn {tp : Nat → Int32} {n p a : Nat} {v : Int32} (h : lxF tp n p = lxF tp n a) (hw : ¬ (sv tp n a = nI 32 ∨ sv tp n a = nI 10)) (h1 : ¬ isLet (sv tp n a)) (h2 : ¬ isDig (sv tp n a)) (h3 : ¬ sv tp n a = -1) : (a = lxF tp n p ∧ lxE tp n p = a + 1) ∧ ¬ lxC tp n p = -1 ∧ KD tp n p (if sv tp n a = nI 59 then nI 22 else nI 23) v := by
  obtain ⟨e1, e2⟩ := tok_nws h hw
  refine ⟨⟨e1.symm, by unfold lxE; rw [e2, e1, if_neg h3, if_neg h1, if_neg h2]⟩, by rw [e2]; exact h3, ?_⟩
  unfold KD
  rw [e2]
  exact ⟨fun z => absurd z h3, fun _ z => absurd z h1, fun _ _ z => absurd z h2, fun _ _ _ => rfl⟩
theorem tok_end {tp : Nat → Int32} {n p : Nat} (h : lxF tp n p = lxF tp n n) : n = lxF tp n p ∧ lxC tp n p = -1 := by
  have e : lxF tp n n = n := by unfold lxF; rw [Nat.sub_self]; rfl
  refine ⟨(h.trans e).symm, ?_⟩
  unfold lxC
  rw [h, e, sv_out (Nat.le_refl _)]
section ST2
variable {l : Launch} {G : GG} {tq : Nat → Int32} {n : Nat} {zk : Nat → Nat} {Sk : MS} {tp : Nat} {tb : Nat → Int32}
set_option maxHeartbeats 2000000 in
theorem K9_cut (hn : n ≤ 900) (hB : ∀ j, j < n → BYT (tb j)) (htp : ∀ j, j < n → tb j = tq j) : Con l G yX9_cut cX9_cut 7 none 7 0 0 [.ref (zk 50), .ref tp, .int (nI n)] (kBk zk G.2.1 Sk ++ ([(tp, .inl (G.2.1 1, 900, .inl tb))])) (qV (fun s : MS × Nat => (kBk zk G.2.1 s.1 ++ ([(tp, .inl (G.2.1 1, 900, .inl tb))]))) (fun s => s.2 ≤ 900 ∧ TB tq n s.1 s.2)) := by
  refine Con.mk (own := RX9) (by decide) rfl (Nat.le_of_ble_eq_true rfl) (fun X C => ?_)
  have lp15 : ∀ (m : Nat) (a c : Nat) (S : MS), n - a = m → a ≤ n → c ≤ a → TBi tq n S c → lxF tq n (pz tq n c) = lxF tq n a → J X 7 0 0 (kBk zk G.2.1 S ++ ([(tp, .inl (G.2.1 1, 900, .inl tb))])) 15 [(0, .ref (zk 50)), (1, .ref tp), (3, .int (nI n)), (4, .int (nI a))] [] := by
    intro m
    induction m using Nat.strongRecOn with
    | ind m ilp15 =>
    intro a c S hm han hca hTB hF
    refine j_iload 17 C dX9_cut_15 rfl rfl ?_
    refine j_iload_n 18 C dX9_cut_17 rfl rfl ?_
    refine j_icmp_geN 199 21 C dX9_cut_18 (by decide) rfl (by omega) (by omega) (fun c18 => ?_) (fun c18 => ?_)
    · obtain rfl : a = n := by omega
      obtain ⟨hp1, hp2⟩ := tok_end hF
      refine j_aload_n 200 C dX9_cut_199 rfl rfl ?_
      refine j_bipush 202 C dX9_cut_200 rfl (v := nI 24) (by decide) ?_
      refine j_iload_n 203 C dX9_cut_202 rfl rfl ?_
      refine j_iconst 204 C dX9_cut_203 rfl (v := nI 0) (by decide) ?_
      refine j_callM 207 C dX9_cut_204 rfl cw9_39 (K9_add hTB.1 (by omega)) rfl ⟨by decide, by decide, by decide⟩ rfl (Nat.le_of_ble_eq_true rfl) [] [(tp, .inl (G.2.1 1, 900, .inl tb))] rfl 0 rfl (ci := 9) (T := TX9) (N := 4) rfl (fun v w hp => ?_)
      obtain ⟨rfl, rfl⟩ := hp
      exact j_vret C dX9_cut_207 (by refine ⟨(_, c), ?_, rfl, rfl⟩; exact ⟨by omega, TBi_end hTB hp1 hp2⟩)
    · have hsv : sv tq n a = tb a &&& nI 255 := by rw [sv_at (by omega), htp a (by omega)]
      have hb := byt_all (hB a (by omega))
      refine j_iload 23 C dX9_cut_21 rfl rfl ?_
      refine j_iconst 24 C dX9_cut_23 rfl (v := nI 1) (by decide) ?_
      refine j_iaddN 25 C dX9_cut_24 rfl ?_
      refine j_istore 27 C dX9_cut_25 rfl rfl (by decide) ?_
      refine j_aload_n 28 C dX9_cut_27 rfl rfl ?_
      refine j_iload 30 C dX9_cut_28 rfl rfl ?_
      refine Lka_tape 31 C dX9_cut_30 rfl _ (by omega) rfl ?_
      refine j_sI 34 C dX9_cut_31 rfl cw9_31 K9_isLetter rfl (by decide) ⟨Nat.le_refl _, Nat.le_refl _⟩ rfl (Nat.le_of_ble_eq_true rfl) ?_
      refine j_if_eqB 77 37 C dX9_cut_34 (by decide) rfl (fun c34 => ?_) (fun c34 => ?_)
      · refine j_aload_n 78 C dX9_cut_77 rfl rfl ?_
        refine j_iload 80 C dX9_cut_78 rfl rfl ?_
        refine Lka_tape 81 C dX9_cut_80 rfl _ (by omega) rfl ?_
        refine j_sI 84 C dX9_cut_81 rfl cw9_43 K9_isDigit rfl (by decide) ⟨Nat.le_refl _, Nat.le_refl _⟩ rfl (Nat.le_of_ble_eq_true rfl) ?_
        refine j_if_eqB 151 87 C dX9_cut_84 (by decide) rfl (fun c84 => ?_) (fun c84 => ?_)
        · refine j_aload_n 152 C dX9_cut_151 rfl rfl ?_
          refine j_iload 154 C dX9_cut_152 rfl rfl ?_
          refine Lka_tape 155 C dX9_cut_154 rfl _ (by omega) rfl ?_
          refine j_bipush 157 C dX9_cut_155 rfl (v := nI 32) (by decide) ?_
          refine j_icmp_eq 192 160 C dX9_cut_157 (by decide) rfl (fun c157 => ?_) (fun c157 => ?_)
          · refine j_iload 194 C dX9_cut_192 rfl rfl ?_
            refine j_istore 196 C dX9_cut_194 rfl rfl (by decide) ?_
            refine j_goto 15 C dX9_cut_196 (by decide) ?_
            exact j_weak _ (by exact ⟨rfl, rfl, rfl, rfl, trivial⟩) (ilp15 _ (by omega) (a + 1) c S rfl (by omega) (by omega) hTB (hF.trans (lx_ws_eq (Or.inl (by rw [hsv]; exact hb.2.1.1.mpr c157)))))
          · refine j_aload_n 161 C dX9_cut_160 rfl rfl ?_
            refine j_iload 163 C dX9_cut_161 rfl rfl ?_
            refine Lka_tape 164 C dX9_cut_163 rfl _ (by omega) rfl ?_
            refine j_bipush 166 C dX9_cut_164 rfl (v := nI 10) (by decide) ?_
            refine j_icmp_eq 192 169 C dX9_cut_166 (by decide) rfl (fun c166 => ?_) (fun c166 => ?_)
            · refine j_iload 194 C dX9_cut_192 rfl rfl ?_
              refine j_istore 196 C dX9_cut_194 rfl rfl (by decide) ?_
              refine j_goto 15 C dX9_cut_196 (by decide) ?_
              exact j_weak _ (by exact ⟨rfl, rfl, rfl, rfl, trivial⟩) (ilp15 _ (by omega) (a + 1) c S rfl (by omega) (by omega) hTB (hF.trans (lx_ws_eq (Or.inr (by rw [hsv]; exact hb.2.1.2.1.mpr c166)))))
            · obtain ⟨⟨hp1, hp2⟩, hp3, hp4⟩ := tok_sgn (v := nI 0) hF (by rw [hsv]; exact fun z => z.elim (fun z => c157 (hb.2.1.1.mp z)) (fun z => c166 (hb.2.1.2.1.mp z))) (by rw [hsv]; exact fun z => c34 (hb.1.1.mp z)) (by rw [hsv]; exact fun z => c84 (hb.1.2.mp z)) (by rw [hsv]; exact hb.2.2)
              refine j_aload_n 170 C dX9_cut_169 rfl rfl ?_
              refine j_aload_n 171 C dX9_cut_170 rfl rfl ?_
              refine j_iload 173 C dX9_cut_171 rfl rfl ?_
              refine Lka_tape 174 C dX9_cut_173 rfl _ (by omega) rfl ?_
              refine j_bipush 176 C dX9_cut_174 rfl (v := nI 59) (by decide) ?_
              refine j_icmp_ne 184 179 C dX9_cut_176 (by decide) rfl (fun c176 => ?_) (fun c176 => ?_)
              · refine j_bipush 186 C dX9_cut_184 rfl (v := nI 23) (by decide) ?_
                refine j_iload 188 C dX9_cut_186 rfl rfl ?_
                refine j_iconst 189 C dX9_cut_188 rfl (v := nI 0) (by decide) ?_
                refine j_callM 192 C dX9_cut_189 rfl cw9_39 (K9_add hTB.1 (by omega)) rfl ⟨by decide, by decide, by decide⟩ rfl (Nat.le_of_ble_eq_true rfl) [] [(tp, .inl (G.2.1 1, 900, .inl tb))] rfl 0 rfl (ci := 9) (T := TX9) (N := 4) rfl (fun v w hp => ?_)
                obtain ⟨rfl, rfl⟩ := hp
                refine j_iload 194 C dX9_cut_192 rfl rfl ?_
                refine j_istore 196 C dX9_cut_194 rfl rfl (by decide) ?_
                refine j_goto 15 C dX9_cut_196 (by decide) ?_
                exact j_weak _ (by exact ⟨rfl, rfl, rfl, rfl, trivial⟩) (ilp15 _ (by omega) (a + 1) (c + 1) _ rfl (by omega) (by omega) (TBi_s hTB hp1 (by rw [hsv, if_neg (fun z => c176 (hb.2.1.2.2.mp z))] at hp4; exact hp4) hp3) (by show lxF tq n (lxE tq n (pz tq n c)) = _; rw [hp2]))
              · refine j_bipush 181 C dX9_cut_179 rfl (v := nI 22) (by decide) ?_
                refine j_goto 186 C dX9_cut_181 (by decide) ?_
                refine j_iload 188 C dX9_cut_186 rfl rfl ?_
                refine j_iconst 189 C dX9_cut_188 rfl (v := nI 0) (by decide) ?_
                refine j_callM 192 C dX9_cut_189 rfl cw9_39 (K9_add hTB.1 (by omega)) rfl ⟨by decide, by decide, by decide⟩ rfl (Nat.le_of_ble_eq_true rfl) [] [(tp, .inl (G.2.1 1, 900, .inl tb))] rfl 0 rfl (ci := 9) (T := TX9) (N := 4) rfl (fun v w hp => ?_)
                obtain ⟨rfl, rfl⟩ := hp
                refine j_iload 194 C dX9_cut_192 rfl rfl ?_
                refine j_istore 196 C dX9_cut_194 rfl rfl (by decide) ?_
                refine j_goto 15 C dX9_cut_196 (by decide) ?_
                exact j_weak _ (by exact ⟨rfl, rfl, rfl, rfl, trivial⟩) (ilp15 _ (by omega) (a + 1) (c + 1) _ rfl (by omega) (by omega) (TBi_s hTB hp1 (by rw [hsv, if_pos (hb.2.1.2.2.mpr c176)] at hp4; exact hp4) hp3) (by show lxF tq n (lxE tq n (pz tq n c)) = _; rw [hp2]))
        · have hdig : isDig (sv tq n a) := by rw [hsv]; exact hb.1.2.mpr c84
          obtain ⟨hx1, d, hd9, hx2⟩ := byt_d (hB a (by omega)) c84
          have lp96 : ∀ (m : Nat) (e : Nat) (v rv : Int32), n - e = m → a < e → e ≤ n → lx_dig tq n (n - a) a (nI 0) = lx_dig tq n (n - e) e rv → NV v rv → J X 7 0 0 (kBk zk G.2.1 S ++ ([(tp, .inl (G.2.1 1, 900, .inl tb))])) 96 [(0, .ref (zk 50)), (1, .ref tp), (3, .int (nI n)), (4, .int (nI a)), (5, .int (nI e)), (6, .int v)] [] := by
            intro m
            induction m using Nat.strongRecOn with
            | ind m ilp96 =>
            intro e v rv hm hae hen he hnv
            refine j_iload 98 C dX9_cut_96 rfl rfl ?_
            refine j_iload_n 99 C dX9_cut_98 rfl rfl ?_
            refine j_icmp_geN 138 102 C dX9_cut_99 (by decide) rfl (by omega) (by omega) (fun c99 => ?_) (fun c99 => ?_)
            · have hfin : ¬ isDig (sv tq n e) := fun z => by have := dig_in z; omega
              rw [lx_dig_end hfin] at he
              obtain ⟨⟨hp1, hp2⟩, hp3, hp4⟩ := tok_dig hF hdig he hnv
              refine j_aload_n 139 C dX9_cut_138 rfl rfl ?_
              refine j_bipush 141 C dX9_cut_139 rfl (v := nI 21) (by decide) ?_
              refine j_iload 143 C dX9_cut_141 rfl rfl ?_
              refine j_iload 145 C dX9_cut_143 rfl rfl ?_
              refine j_callM 148 C dX9_cut_145 rfl cw9_39 (K9_add hTB.1 (by omega)) rfl ⟨by decide, by decide, by decide⟩ rfl (Nat.le_of_ble_eq_true rfl) [] [(tp, .inl (G.2.1 1, 900, .inl tb))] rfl 0 rfl (ci := 9) (T := TX9) (N := 4) rfl (fun v w hp => ?_)
              obtain ⟨rfl, rfl⟩ := hp
              refine j_goto 192 C dX9_cut_148 (by decide) ?_
              refine j_iload 194 C dX9_cut_192 rfl rfl ?_
              refine j_istore 196 C dX9_cut_194 rfl rfl (by decide) ?_
              refine j_goto 15 C dX9_cut_196 (by decide) ?_
              exact j_weak _ (by exact ⟨rfl, rfl, rfl, rfl, trivial⟩) (ilp15 _ (by omega) e (c + 1) _ rfl (by omega) (by omega) (TBi_s hTB hp1 hp4 hp3) (by show lxF tq n (lxE tq n (pz tq n c)) = _; rw [hp2]))
            · refine j_aload_n 103 C dX9_cut_102 rfl rfl ?_
              refine j_iload 105 C dX9_cut_103 rfl rfl ?_
              refine Lka_tape 106 C dX9_cut_105 rfl _ (by omega) rfl ?_
              refine j_sI 109 C dX9_cut_106 rfl cw9_43 K9_isDigit rfl (by decide) ⟨Nat.le_refl _, Nat.le_refl _⟩ rfl (Nat.le_of_ble_eq_true rfl) ?_
              refine j_if_eqB 138 112 C dX9_cut_109 (by decide) rfl (fun c109 => ?_) (fun c109 => ?_)
              · have hfin : ¬ isDig (sv tq n e) := by rw [sv_at (by omega), ← htp e (by omega)]; exact fun z => c109 ((byt_all (hB e (by omega))).1.2.mp z)
                rw [lx_dig_end hfin] at he
                obtain ⟨⟨hp1, hp2⟩, hp3, hp4⟩ := tok_dig hF hdig he hnv
                refine j_aload_n 139 C dX9_cut_138 rfl rfl ?_
                refine j_bipush 141 C dX9_cut_139 rfl (v := nI 21) (by decide) ?_
                refine j_iload 143 C dX9_cut_141 rfl rfl ?_
                refine j_iload 145 C dX9_cut_143 rfl rfl ?_
                refine j_callM 148 C dX9_cut_145 rfl cw9_39 (K9_add hTB.1 (by omega)) rfl ⟨by decide, by decide, by decide⟩ rfl (Nat.le_of_ble_eq_true rfl) [] [(tp, .inl (G.2.1 1, 900, .inl tb))] rfl 0 rfl (ci := 9) (T := TX9) (N := 4) rfl (fun v w hp => ?_)
                obtain ⟨rfl, rfl⟩ := hp
                refine j_goto 192 C dX9_cut_148 (by decide) ?_
                refine j_iload 194 C dX9_cut_192 rfl rfl ?_
                refine j_istore 196 C dX9_cut_194 rfl rfl (by decide) ?_
                refine j_goto 15 C dX9_cut_196 (by decide) ?_
                exact j_weak _ (by exact ⟨rfl, rfl, rfl, rfl, trivial⟩) (ilp15 _ (by omega) e (c + 1) _ rfl (by omega) (by omega) (TBi_s hTB hp1 hp4 hp3) (by show lxF tq n (lxE tq n (pz tq n c)) = _; rw [hp2]))
              · have hd2 : isDig (sv tq n e) := by rw [sv_at (by omega), ← htp e (by omega)]; exact (byt_all (hB e (by omega))).1.2.mpr c109
                obtain ⟨hx1, d, hd9, hx2⟩ := byt_d (hB e (by omega)) c109
                have hsv : sv tq n e = nI (48 + d) := by rw [sv_at (by omega), ← htp e (by omega), hx1, hx2]
                refine j_iload 114 C dX9_cut_112 rfl rfl ?_
                refine j_bipush 116 C dX9_cut_114 rfl (v := nI 10) (by decide) ?_
                refine j_imul 117 C dX9_cut_116 rfl ?_
                refine j_aload_n 118 C dX9_cut_117 rfl rfl ?_
                refine j_iload 120 C dX9_cut_118 rfl rfl ?_
                refine Lka_tape 121 C dX9_cut_120 rfl _ (by omega) rfl ?_
                refine j_top hx2 ?_
                refine j_iadd 122 C dX9_cut_121 rfl ?_
                refine j_bipush 124 C dX9_cut_122 rfl (v := nI 48) (by decide) ?_
                refine j_isub 125 C dX9_cut_124 rfl ?_
                refine j_ldc 127 C dX9_cut_125 rfl (v := (1000000)) kc9_46 ?_
                refine j_sI 130 C dX9_cut_127 rfl cw9_21 (c_minI _ _) rfl (by decide) ⟨Nat.le_refl _, Nat.le_refl _⟩ rfl (Nat.le_of_ble_eq_true rfl) ?_
                refine j_istore 132 C dX9_cut_130 rfl rfl (by decide) ?_
                refine j_iincN 135 (z := 1) C dX9_cut_132 rfl rfl rfl (by decide) ?_
                refine j_goto 96 C dX9_cut_135 (by decide) ?_
                exact j_weak _ (by exact ⟨rfl, rfl, rfl, rfl, rfl, rfl, trivial⟩) (ilp96 _ (by omega) (e + 1) _ _ rfl (by omega) (by omega) (he.trans (lx_dig_eq hd2)) (by rw [hsv]; exact NV_s hd9 hnv))
          refine j_aload_n 88 C dX9_cut_87 rfl rfl ?_
          refine j_iload 90 C dX9_cut_88 rfl rfl ?_
          refine Lka_tape 91 C dX9_cut_90 rfl _ (by omega) rfl ?_
          refine j_top hx2 ?_
          refine j_bipush 93 C dX9_cut_91 rfl (v := nI 48) (by decide) ?_
          refine j_isub 94 C dX9_cut_93 rfl ?_
          refine j_istore 96 C dX9_cut_94 rfl rfl (by decide) ?_
          exact j_weak _ (by exact ⟨rfl, rfl, rfl, rfl, rfl, rfl, trivial⟩) (lp96 _ (a + 1) _ _ rfl (by omega) (by omega) (lx_dig_eq hdig) (by rw [hsv, hx1, hx2]; exact NV_0 hd9))
      · have hlet : isLet (sv tq n a) := by rw [hsv]; exact hb.1.1.mpr c34
        have lp37 : ∀ (m : Nat) (e : Nat), n - e = m → a < e → e ≤ n → lx_let tq n (n - a) a = lx_let tq n (n - e) e → J X 7 0 0 (kBk zk G.2.1 S ++ ([(tp, .inl (G.2.1 1, 900, .inl tb))])) 37 [(0, .ref (zk 50)), (1, .ref tp), (3, .int (nI n)), (4, .int (nI a)), (5, .int (nI e))] [] := by
          intro m
          induction m using Nat.strongRecOn with
          | ind m ilp37 =>
          intro e hm hae hen he
          refine j_iload 39 C dX9_cut_37 rfl rfl ?_
          refine j_iload_n 40 C dX9_cut_39 rfl rfl ?_
          refine j_icmp_geN 59 43 C dX9_cut_40 (by decide) rfl (by omega) (by omega) (fun c40 => ?_) (fun c40 => ?_)
          · have hfin : ¬ isLet (sv tq n e) := fun z => by have := let_in z; omega
            rw [lx_let_end hfin] at he
            obtain ⟨⟨hp1, hp2⟩, hp3, hp4⟩ := tok_let hF hlet he
            have hp5 := hp4 (nI 0)
            rw [← wsc_cg (tb := tb) (fun j hj => htp j (by omega))] at hp5
            refine j_aload_n 60 C dX9_cut_59 rfl rfl ?_
            refine j_aload_n 61 C dX9_cut_60 rfl rfl ?_
            refine j_iload 63 C dX9_cut_61 rfl rfl ?_
            refine j_iload 65 C dX9_cut_63 rfl rfl ?_
            refine j_callMS 68 C dX9_cut_65 rfl cw9_35 (K9_wordAt (by omega) (by omega)) rfl ⟨by decide, by decide, by decide⟩ rfl (Nat.le_of_ble_eq_true rfl) (kBk zk G.2.1 S) [] rfl (fun v w hp => ?_)
            obtain ⟨rfl, rfl⟩ := hp
            refine j_ws (kBk zk G.2.1 S ++ ([(tp, .inl (G.2.1 1, 900, .inl tb))])) rfl ?_
            refine j_iload 70 C dX9_cut_68 rfl rfl ?_
            refine j_iconst 71 C dX9_cut_70 rfl (v := nI 0) (by decide) ?_
            refine j_callM 74 C dX9_cut_71 rfl cw9_39 (K9_add hTB.1 (by omega)) rfl ⟨by decide, by decide, by decide⟩ rfl (Nat.le_of_ble_eq_true rfl) [] [(tp, .inl (G.2.1 1, 900, .inl tb))] rfl 0 rfl (ci := 9) (T := TX9) (N := 4) rfl (fun v w hp => ?_)
            obtain ⟨rfl, rfl⟩ := hp
            refine j_goto 192 C dX9_cut_74 (by decide) ?_
            refine j_iload 194 C dX9_cut_192 rfl rfl ?_
            refine j_istore 196 C dX9_cut_194 rfl rfl (by decide) ?_
            refine j_goto 15 C dX9_cut_196 (by decide) ?_
            exact j_weak _ (by exact ⟨rfl, rfl, rfl, rfl, trivial⟩) (ilp15 _ (by omega) e (c + 1) _ rfl (by omega) (by omega) (TBi_s hTB hp1 hp5 hp3) (by show lxF tq n (lxE tq n (pz tq n c)) = _; rw [hp2]))
          · refine j_aload_n 44 C dX9_cut_43 rfl rfl ?_
            refine j_iload 46 C dX9_cut_44 rfl rfl ?_
            refine Lka_tape 47 C dX9_cut_46 rfl _ (by omega) rfl ?_
            refine j_sI 50 C dX9_cut_47 rfl cw9_31 K9_isLetter rfl (by decide) ⟨Nat.le_refl _, Nat.le_refl _⟩ rfl (Nat.le_of_ble_eq_true rfl) ?_
            refine j_if_eqB 59 53 C dX9_cut_50 (by decide) rfl (fun c50 => ?_) (fun c50 => ?_)
            · have hfin : ¬ isLet (sv tq n e) := by rw [sv_at (by omega), ← htp e (by omega)]; exact fun z => c50 ((byt_all (hB e (by omega))).1.1.mp z)
              rw [lx_let_end hfin] at he
              obtain ⟨⟨hp1, hp2⟩, hp3, hp4⟩ := tok_let hF hlet he
              have hp5 := hp4 (nI 0)
              rw [← wsc_cg (tb := tb) (fun j hj => htp j (by omega))] at hp5
              refine j_aload_n 60 C dX9_cut_59 rfl rfl ?_
              refine j_aload_n 61 C dX9_cut_60 rfl rfl ?_
              refine j_iload 63 C dX9_cut_61 rfl rfl ?_
              refine j_iload 65 C dX9_cut_63 rfl rfl ?_
              refine j_callMS 68 C dX9_cut_65 rfl cw9_35 (K9_wordAt (by omega) (by omega)) rfl ⟨by decide, by decide, by decide⟩ rfl (Nat.le_of_ble_eq_true rfl) (kBk zk G.2.1 S) [] rfl (fun v w hp => ?_)
              obtain ⟨rfl, rfl⟩ := hp
              refine j_ws (kBk zk G.2.1 S ++ ([(tp, .inl (G.2.1 1, 900, .inl tb))])) rfl ?_
              refine j_iload 70 C dX9_cut_68 rfl rfl ?_
              refine j_iconst 71 C dX9_cut_70 rfl (v := nI 0) (by decide) ?_
              refine j_callM 74 C dX9_cut_71 rfl cw9_39 (K9_add hTB.1 (by omega)) rfl ⟨by decide, by decide, by decide⟩ rfl (Nat.le_of_ble_eq_true rfl) [] [(tp, .inl (G.2.1 1, 900, .inl tb))] rfl 0 rfl (ci := 9) (T := TX9) (N := 4) rfl (fun v w hp => ?_)
              obtain ⟨rfl, rfl⟩ := hp
              refine j_goto 192 C dX9_cut_74 (by decide) ?_
              refine j_iload 194 C dX9_cut_192 rfl rfl ?_
              refine j_istore 196 C dX9_cut_194 rfl rfl (by decide) ?_
              refine j_goto 15 C dX9_cut_196 (by decide) ?_
              exact j_weak _ (by exact ⟨rfl, rfl, rfl, rfl, trivial⟩) (ilp15 _ (by omega) e (c + 1) _ rfl (by omega) (by omega) (TBi_s hTB hp1 hp5 hp3) (by show lxF tq n (lxE tq n (pz tq n c)) = _; rw [hp2]))
            · have hl2 : isLet (sv tq n e) := by rw [sv_at (by omega), ← htp e (by omega)]; exact (byt_all (hB e (by omega))).1.1.mpr c50
              refine j_iincN 56 (z := 1) C dX9_cut_53 rfl rfl rfl (by decide) ?_
              refine j_goto 37 C dX9_cut_56 (by decide) ?_
              exact j_weak _ (by exact ⟨rfl, rfl, rfl, rfl, rfl, trivial⟩) (ilp37 _ (by omega) (e + 1) rfl (by omega) (by omega) (he.trans (lx_let_eq hl2)))
        exact j_weak _ (by exact ⟨rfl, rfl, rfl, rfl, rfl, trivial⟩) (lp37 _ (a + 1) rfl (by omega) (by omega) (lx_let_eq hlet))
  refine j_iload_n 1 C dX9_cut_0 rfl rfl ?_
  refine j_aload_n 2 C dX9_cut_1 rfl rfl ?_
  refine j_alenB 3 C dX9_cut_2 rfl 4 rfl ?_
  refine j_sI 6 C dX9_cut_3 rfl cw9_21 (c_minI _ _) rfl (by decide) ⟨Nat.le_refl _, Nat.le_refl _⟩ rfl (Nat.le_of_ble_eq_true rfl) ?_
  refine j_top (x' := nI n) (if_neg (nI_nlt (by omega) (by omega))) ?_
  refine j_istore_n 7 C dX9_cut_6 rfl rfl (by decide) ?_
  refine j_aload_n 8 C dX9_cut_7 rfl rfl ?_
  refine j_iconst 9 C dX9_cut_8 rfl (v := nI 0) (by decide) ?_
  refine Lkp_k3 12 C dX9_cut_9 rfl fl9_27 ?_
  refine j_iconst 13 C dX9_cut_12 rfl (v := nI 0) (by decide) ?_
  refine j_istore 15 C dX9_cut_13 rfl rfl (by decide) ?_
  exact j_weak _ (by exact ⟨rfl, rfl, rfl, rfl, trivial⟩) (lp15 _ 0 0 _ rfl (Nat.zero_le _) (Nat.le_refl _) ⟨rfl, fun j hj => absurd hj (Nat.not_lt_zero _)⟩ rfl)
end ST2
