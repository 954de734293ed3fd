noncomputable def jn (M : MS) : Nat := (@ite _ (isW M 18) (isWD M 18) (1 : Nat) (@ite _ (isW M 19) (isWD M 19) (2 : Nat) (@ite _ (isW M 20) (isWD M 20) (3 : Nat) (@ite _ (isW M 21) (isWD M 21) (4 : Nat) (0 : Nat)))))
theorem jn_le (M : MS) : jn M ≤ 4 := by
  unfold jn
  split; · omega
  split; · omega
  split; · omega
  split <;> omega
theorem sL_4 : 4 ≤ sL 18 ∧ 4 ≤ sL 19 ∧ 4 ≤ sL 20 ∧ 4 ≤ sL 21 := by decide +kernel
theorem jn_w {M : MS} (h : ¬ jn M = 0) : ∃ i, isW M i ∧ 4 ≤ sL i := by
  obtain ⟨s1, s2, s3, s4⟩ := sL_4
  by_cases c1 : isW M 18; · exact ⟨18, c1, s1⟩
  by_cases c2 : isW M 19; · exact ⟨19, c2, s2⟩
  by_cases c3 : isW M 20; · exact ⟨20, c3, s3⟩
  by_cases c4 : isW M 21; · exact ⟨21, c4, s4⟩
  exact absurd (by unfold jn; rw [@if_neg _ (isWD M 18) c1, @if_neg _ (isWD M 19) c2, @if_neg _ (isWD M 20) c3, @if_neg _ (isWD M 21) c4]) h
noncomputable def rl1 (M : MS) (w : Nat) : MS := if srt M = -1 ∨ (w = 2 ∧ ¬ srt M = 0) then erM M (nI 1) else M
noncomputable def rlI (M : MS) (w : Nat) : Int32 := if w = 2 then nI 8 else nI (4 * w) + srt M
noncomputable def rl2 (M : MS) (w : Nat) : MS := if (rl1 M w).1 19 = 0 ∧ ¬ (rl1 M w).2.1 21 (202 + 2 * tn (rlI M w) + 1) ≤ 0 then erM (rl1 M w) (nI 2) else rl1 M w
noncomputable def rl5 (M : MS) (p : Nat) : MS := prM (nwM (adM M) 13) (nI 0) p
noncomputable def rlF : Nat → MS → MS
  | 0, M => M
  | m + 1, M => if jn M = 0 then M else rlF m (prM (adM M) (nI (jn M)) (tn (M.2.1 21 3)))
def rlZ (M : MS) (L p : Nat) : MS := aS (aS M 21 (202 + 2 * L) (nI p)) 21 (202 + 2 * L + 1) (M.2.1 21 3 - nI p)
/-- readLaw() -/
noncomputable def rlM (M : MS) (w p n : Nat) : MS := if (rl2 M w).1 19 = 0 then (if (rlF n (rl5 (rl2 M w) p)).1 19 = 0 then rlZ (rlF n (rl5 (rl2 M w) p)) (tn (rlI M w)) p else rlF n (rl5 (rl2 M w) p)) else rl2 M w
theorem srt_in (M : MS) : srt M = -1 ∨ ∃ s, s < 4 ∧ srt M = nI s := by
  unfold srt
  split; · exact Or.inr ⟨0, by decide, rfl⟩
  split; · exact Or.inr ⟨1, by decide, rfl⟩
  split; · exact Or.inr ⟨2, by decide, rfl⟩
  split
  · exact Or.inr ⟨3, by decide, rfl⟩
  · exact Or.inl rfl
theorem rl1_ok {M : MS} {w : Nat} (hw : w < 3) (h : (rl1 M w).1 19 = 0) : rl1 M w = M ∧ ∃ L, L < 9 ∧ rlI M w = nI L := by
  by_cases e : srt M = -1 ∨ (w = 2 ∧ ¬ srt M = 0)
  · rw [rl1, if_pos e] at h; exact absurd h (er_19 (by decide))
  · rw [rl1, if_neg e] at h ⊢
    refine ⟨rfl, ?_⟩
    obtain ⟨s, hs, es⟩ := (srt_in M).resolve_left (fun z => e (Or.inl z))
    unfold rlI
    by_cases e2 : w = 2
    · rw [if_pos e2]; exact ⟨8, by decide, rfl⟩
    · rw [if_neg e2, es, nI_add]; exact ⟨4 * w + s, by omega, rfl⟩
theorem rl1_2 (M : MS) (w : Nat) : (rl1 M w).2 = M.2 := by unfold rl1; split; exact erM_2 _ _; rfl
theorem rl2_2 (M : MS) (w : Nat) : (rl2 M w).2 = M.2 := by
  unfold rl2; split
  · rw [erM_2]; exact rl1_2 M w
  · exact rl1_2 M w
theorem TK_rl1 {M : MS} {n a f w : Nat} (h : TK M n a f) : TK (rl1 M w) n a f := by unfold rl1; split; exact TK_er h; exact h
theorem TK_rl2 {M : MS} {n a f w : Nat} (h : TK M n a f) : TK (rl2 M w) n a f := by unfold rl2; split; exact TK_er (TK_rl1 h); exact TK_rl1 h
theorem TK_nw {M : MS} {n a f i : Nat} (h : TK M n a f) : ∃ a2 f2, TK (nwM M i) n a2 f2 ∧ f ≤ f2 ∧ (nwM M i).2 = M.2 := by
  unfold nwM
  by_cases e : isW M i
  · rw [@if_pos _ (isWD M i) e]
    obtain ⟨a2, h1, h2⟩ := TK_ad h
    exact ⟨a2, _, h1, Nat.le_trans h.1.2.2.2.1 h2, adM_2 M⟩
  · rw [@if_neg _ (isWD M i) e]
    exact ⟨a, f, TK_er h, Nat.le_refl _, erM_2 _ _⟩
section S25
variable {l : Launch} {G : GG} {o : Nat} {ad : Nat → Nat} {M : MS} {n a f : Nat}
set_option maxHeartbeats 8000000 in
theorem c_readLaw (w : Nat) {p : Nat} (hw : w < 3) (hT : TK M n a f) (hpn : M.2.1 21 3 = nI p) (hp : 3 * p ≤ f) : Con l G yX11_readLaw cX11_readLaw 6 none 8 0 0 [.ref o, .int (nI w)] (mw o ad G.2.1 M) (pV (mw o ad G.2.1 (rlM M w p n))) := by
  refine Con.mk (own := RX11) (by decide) rfl (Nat.le_of_ble_eq_true rfl) (fun X C => ?_)
  have hn9 := hT.1.2.2.2.2.2
  have han := hT.1.2.2.2.2.1
  have hfa0 := hT.1.2.2.2.1
  have main77 : ∀ L, L < 9 → (rl2 M w).1 19 = 0 → rlI M w = nI L → J X 6 0 0 (mw o ad G.2.1 (rl2 M w)) 77 [(0, .ref o), (3, .int (nI L))] [] := by
    intro L hL hok eL
    have hT2 := TK_rl2 (w := w) hT
    have g191 : ∀ (M6 : MS), M6 = rlF n (rl5 (rl2 M w) p) → J X 6 0 0 (mw o ad G.2.1 M6) 191 [(0, .ref o), (3, .int (nI L)), (4, .int (nI p))] [] := by
      intro M6 hR
      refine j_aload_n 192 C dX11_readLaw_191 rfl rfl ?_
      refine j_mI 195 C dX11_readLaw_192 rfl cw11_142 rfl c_good rfl (by decide) rfl (Nat.le_of_ble_eq_true rfl) ?_
      refine j_if_neB 199 198 C dX11_readLaw_195 (by decide) rfl (fun c195 => ?_) (fun c195 => ?_)
      · refine j_aload_n 200 C dX11_readLaw_199 rfl rfl ?_
        refine rg_fresh 203 C dX11_readLaw_200 rfl ?_
        refine j_sipush 206 C dX11_readLaw_203 rfl (v := nI 202) (by decide) ?_
        refine j_iconst 207 C dX11_readLaw_206 rfl (v := nI 2) (by decide) ?_
        refine j_iload_n 208 C dX11_readLaw_207 rfl rfl ?_
        refine j_imulN 209 C dX11_readLaw_208 rfl ?_
        refine j_iaddN 210 C dX11_readLaw_209 rfl ?_
        refine j_iload 212 C dX11_readLaw_210 rfl rfl ?_
        refine rs_fresh 213 C dX11_readLaw_212 rfl _ (by omega) rfl ?_
        refine j_aload_n 214 C dX11_readLaw_213 rfl rfl ?_
        refine rg_fresh 217 C dX11_readLaw_214 rfl ?_
        refine j_sipush 220 C dX11_readLaw_217 rfl (v := nI 202) (by decide) ?_
        refine j_iconst 221 C dX11_readLaw_220 rfl (v := nI 2) (by decide) ?_
        refine j_iload_n 222 C dX11_readLaw_221 rfl rfl ?_
        refine j_imulN 223 C dX11_readLaw_222 rfl ?_
        refine j_iaddN 224 C dX11_readLaw_223 rfl ?_
        refine j_iconst 225 C dX11_readLaw_224 rfl (v := nI 1) (by decide) ?_
        refine j_iaddN 226 C dX11_readLaw_225 rfl ?_
        refine j_aload_n 227 C dX11_readLaw_226 rfl rfl ?_
        refine rg_fresh 230 C dX11_readLaw_227 rfl ?_
        refine j_iconst 231 C dX11_readLaw_230 rfl (v := nI 3) (by decide) ?_
        refine ra_fresh 232 C dX11_readLaw_231 rfl _ (by omega) rfl ?_
        rw [show (aS M6 21 (202 + 2 * L) (nI p)).2.1 21 3 = M6.2.1 21 3 from by show upd (M6.2.1 21) _ _ 3 = _; rw [pk_un (by omega)]]
        refine j_iload 234 C dX11_readLaw_232 rfl rfl ?_
        refine j_isub 235 C dX11_readLaw_234 rfl ?_
        refine rs_fresh 236 C dX11_readLaw_235 rfl _ (by omega) rfl ?_
        exact j_vret C dX11_readLaw_236 ⟨rfl, by rw [rlM, if_pos hok, ← hR, if_pos c195, eL, tn_nI (by omega)]; rfl⟩
      · exact j_vret C dX11_readLaw_198 ⟨rfl, by rw [rlM, if_pos hok, ← hR, if_neg c195]⟩
    have lp : ∀ (m : Nat) (M6 : MS) (a6 f6 p6 : Nat), TK M6 n a6 f6 → M6.2.1 21 3 = nI p6 → 3 * p6 ≤ f6 + 2 → ∀ F, n - f6 = m → n - f6 ≤ F → rlF F M6 = rlF n (rl5 (rl2 M w) p) → J X 6 0 0 (mw o ad G.2.1 M6) 100 [(0, .ref o), (3, .int (nI L)), (4, .int (nI p))] [] := by
      intro m
      induction m using Nat.strongRecOn with
      | ind m ilp =>
      intro M6 a6 f6 p6 hT6 hpn6 hp6 F hm hF hR
      have g176 : ∀ (u : Unit), ¬ jn M6 = 0 → J X 6 0 0 (mw o ad G.2.1 M6) 176 [(0, .ref o), (3, .int (nI L)), (4, .int (nI p))] [.int (nI (jn M6))] := by
        intro u hj
        obtain ⟨iw, hiw, hiw4⟩ := jn_w hj
        have hfa := isW_fa hT6.1 hiw
        have hj4 := jn_le M6
        have hna := hT6.1.2.2.2.2.1
        have hnn := hT6.1.2.2.2.2.2
        obtain ⟨F, rfl⟩ : ∃ F0, F = F0 + 1 := ⟨F - 1, by omega⟩
        refine j_istore 178 C dX11_readLaw_176 rfl rfl (by decide) ?_
        refine j_aload_n 179 C dX11_readLaw_178 rfl rfl ?_
        refine j_mV 182 C dX11_readLaw_179 rfl cw11_160 rfl (c_adv hT6.1) rfl (by decide) rfl (Nat.le_of_ble_eq_true rfl) ?_
        obtain ⟨a7, hT7, hle7⟩ := TK_ad hT6
        have hpn7 : (adM M6).2.1 21 3 = nI p6 := by rw [adM_2]; exact hpn6
        obtain ⟨a8, f8, p8, hT8, hf8, hpn8, hp8, -⟩ := TK_pr (join := nI (jn M6)) hT7 hpn7
        refine j_aload_n 183 C dX11_readLaw_182 rfl rfl ?_
        refine j_iload 185 C dX11_readLaw_183 rfl rfl ?_
        refine j_mV 188 C dX11_readLaw_185 rfl cw11_199 rfl (c_readPart (nI (jn M6)) (M := adM M6) hT7 hpn7 (by omega)) rfl (by decide) rfl (Nat.le_of_ble_eq_true rfl) ?_
        refine j_goto 100 C dX11_readLaw_188 (by decide) ?_
        exact j_weak _ (by exact ⟨rfl, rfl, rfl, trivial⟩) (ilp (n - f8) (by have := hT8.1.2.2.2.1; have := hT8.1.2.2.2.2.1; have := hT6.1.2.2.2.2.1; omega) _ _ _ _ hT8 hpn8 (by omega) F rfl (by omega) (by rw [← hR, rlF, if_neg hj, hpn6, tn_nI (by omega)]))
      refine j_aload_n 101 C dX11_readLaw_100 rfl rfl ?_
      refine j_ldcS 103 18 C dX11_readLaw_101 rfl rfl ?_
      refine j_mI 106 C dX11_readLaw_103 rfl cw11_156 rfl (c_isB hT6.1 18 (by decide)) rfl (by decide) rfl (Nat.le_of_ble_eq_true rfl) ?_
      refine j_if_neW 136 109 C dX11_readLaw_106 (by decide) rfl (fun c106 => ?_) (fun c106 => ?_)
      · refine j_aload_n 137 C dX11_readLaw_136 rfl rfl ?_
        refine j_ldcS 139 18 C dX11_readLaw_137 rfl rfl ?_
        refine j_mI 142 C dX11_readLaw_139 rfl cw11_156 rfl (c_isB hT6.1 18 (by decide)) rfl (by decide) rfl (Nat.le_of_ble_eq_true rfl) ?_
        refine j_if_eqW 149 145 C dX11_readLaw_142 (by decide) rfl (fun c142 => absurd c106 c142) (fun c142 => ?_)
        refine j_iconst 146 C dX11_readLaw_145 rfl (v := nI 1) (by decide) ?_
        refine j_goto 176 C dX11_readLaw_146 (by decide) ?_
        have hjv : jn M6 = 1 := by unfold jn; rw [@if_pos _ (isWD M6 18) c106]
        refine j_st [.int (nI (jn M6))] (by rw [hjv]) ?_
        exact j_weak _ (by exact ⟨rfl, rfl, rfl, trivial⟩) (g176 () (by omega))
      · refine j_aload_n 110 C dX11_readLaw_109 rfl rfl ?_
        refine j_ldcS 112 19 C dX11_readLaw_110 rfl rfl ?_
        refine j_mI 115 C dX11_readLaw_112 rfl cw11_156 rfl (c_isB hT6.1 19 (by decide)) rfl (by decide) rfl (Nat.le_of_ble_eq_true rfl) ?_
        refine j_if_neW 136 118 C dX11_readLaw_115 (by decide) rfl (fun c115 => ?_) (fun c115 => ?_)
        · refine j_aload_n 137 C dX11_readLaw_136 rfl rfl ?_
          refine j_ldcS 139 18 C dX11_readLaw_137 rfl rfl ?_
          refine j_mI 142 C dX11_readLaw_139 rfl cw11_156 rfl (c_isB hT6.1 18 (by decide)) rfl (by decide) rfl (Nat.le_of_ble_eq_true rfl) ?_
          refine j_if_eqW 149 145 C dX11_readLaw_142 (by decide) rfl (fun c142 => ?_) (fun c142 => absurd c142 c106)
          refine j_aload_n 150 C dX11_readLaw_149 rfl rfl ?_
          refine j_ldcS 152 19 C dX11_readLaw_150 rfl rfl ?_
          refine j_mI 155 C dX11_readLaw_152 rfl cw11_156 rfl (c_isB hT6.1 19 (by decide)) rfl (by decide) rfl (Nat.le_of_ble_eq_true rfl) ?_
          refine j_if_eqW 162 158 C dX11_readLaw_155 (by decide) rfl (fun c155 => absurd c115 c155) (fun c155 => ?_)
          refine j_iconst 159 C dX11_readLaw_158 rfl (v := nI 2) (by decide) ?_
          refine j_goto 176 C dX11_readLaw_159 (by decide) ?_
          have hjv : jn M6 = 2 := by unfold jn; rw [@if_neg _ (isWD M6 18) c106, @if_pos _ (isWD M6 19) c115]
          refine j_st [.int (nI (jn M6))] (by rw [hjv]) ?_
          exact j_weak _ (by exact ⟨rfl, rfl, rfl, trivial⟩) (g176 () (by omega))
        · refine j_aload_n 119 C dX11_readLaw_118 rfl rfl ?_
          refine j_ldcS 121 20 C dX11_readLaw_119 rfl rfl ?_
          refine j_mI 124 C dX11_readLaw_121 rfl cw11_156 rfl (c_isB hT6.1 20 (by decide)) rfl (by decide) rfl (Nat.le_of_ble_eq_true rfl) ?_
          refine j_if_neW 136 127 C dX11_readLaw_124 (by decide) rfl (fun c124 => ?_) (fun c124 => ?_)
          · refine j_aload_n 137 C dX11_readLaw_136 rfl rfl ?_
            refine j_ldcS 139 18 C dX11_readLaw_137 rfl rfl ?_
            refine j_mI 142 C dX11_readLaw_139 rfl cw11_156 rfl (c_isB hT6.1 18 (by decide)) rfl (by decide) rfl (Nat.le_of_ble_eq_true rfl) ?_
            refine j_if_eqW 149 145 C dX11_readLaw_142 (by decide) rfl (fun c142 => ?_) (fun c142 => absurd c142 c106)
            refine j_aload_n 150 C dX11_readLaw_149 rfl rfl ?_
            refine j_ldcS 152 19 C dX11_readLaw_150 rfl rfl ?_
            refine j_mI 155 C dX11_readLaw_152 rfl cw11_156 rfl (c_isB hT6.1 19 (by decide)) rfl (by decide) rfl (Nat.le_of_ble_eq_true rfl) ?_
            refine j_if_eqW 162 158 C dX11_readLaw_155 (by decide) rfl (fun c155 => ?_) (fun c155 => absurd c155 c115)
            refine j_aload_n 163 C dX11_readLaw_162 rfl rfl ?_
            refine j_ldcS 165 20 C dX11_readLaw_163 rfl rfl ?_
            refine j_mI 168 C dX11_readLaw_165 rfl cw11_156 rfl (c_isB hT6.1 20 (by decide)) rfl (by decide) rfl (Nat.le_of_ble_eq_true rfl) ?_
            refine j_if_eqW 175 171 C dX11_readLaw_168 (by decide) rfl (fun c168 => absurd c124 c168) (fun c168 => ?_)
            refine j_iconst 172 C dX11_readLaw_171 rfl (v := nI 3) (by decide) ?_
            refine j_goto 176 C dX11_readLaw_172 (by decide) ?_
            have hjv : jn M6 = 3 := by unfold jn; rw [@if_neg _ (isWD M6 18) c106, @if_neg _ (isWD M6 19) c115, @if_pos _ (isWD M6 20) c124]
            refine j_st [.int (nI (jn M6))] (by rw [hjv]) ?_
            exact j_weak _ (by exact ⟨rfl, rfl, rfl, trivial⟩) (g176 () (by omega))
          · refine j_aload_n 128 C dX11_readLaw_127 rfl rfl ?_
            refine j_ldcS 130 21 C dX11_readLaw_128 rfl rfl ?_
            refine j_mI 133 C dX11_readLaw_130 rfl cw11_156 rfl (c_isB hT6.1 21 (by decide)) rfl (by decide) rfl (Nat.le_of_ble_eq_true rfl) ?_
            refine j_if_eqW 191 136 C dX11_readLaw_133 (by decide) rfl (fun c133 => ?_) (fun c133 => ?_)
            · have hjv : jn M6 = 0 := by unfold jn; rw [@if_neg _ (isWD M6 18) c106, @if_neg _ (isWD M6 19) c115, @if_neg _ (isWD M6 20) c124, @if_neg _ (isWD M6 21) c133]
              exact j_weak _ (by exact ⟨rfl, rfl, rfl, trivial⟩) (g191 _ (by rw [← hR]; cases F with | zero => rfl | succ F => rw [rlF, if_pos hjv]))
            · refine j_aload_n 137 C dX11_readLaw_136 rfl rfl ?_
              refine j_ldcS 139 18 C dX11_readLaw_137 rfl rfl ?_
              refine j_mI 142 C dX11_readLaw_139 rfl cw11_156 rfl (c_isB hT6.1 18 (by decide)) rfl (by decide) rfl (Nat.le_of_ble_eq_true rfl) ?_
              refine j_if_eqW 149 145 C dX11_readLaw_142 (by decide) rfl (fun c142 => ?_) (fun c142 => absurd c142 c106)
              refine j_aload_n 150 C dX11_readLaw_149 rfl rfl ?_
              refine j_ldcS 152 19 C dX11_readLaw_150 rfl rfl ?_
              refine j_mI 155 C dX11_readLaw_152 rfl cw11_156 rfl (c_isB hT6.1 19 (by decide)) rfl (by decide) rfl (Nat.le_of_ble_eq_true rfl) ?_
              refine j_if_eqW 162 158 C dX11_readLaw_155 (by decide) rfl (fun c155 => ?_) (fun c155 => absurd c155 c115)
              refine j_aload_n 163 C dX11_readLaw_162 rfl rfl ?_
              refine j_ldcS 165 20 C dX11_readLaw_163 rfl rfl ?_
              refine j_mI 168 C dX11_readLaw_165 rfl cw11_156 rfl (c_isB hT6.1 20 (by decide)) rfl (by decide) rfl (Nat.le_of_ble_eq_true rfl) ?_
              refine j_if_eqW 175 171 C dX11_readLaw_168 (by decide) rfl (fun c168 => ?_) (fun c168 => absurd c168 c124)
              refine j_iconst 176 C dX11_readLaw_175 rfl (v := nI 4) (by decide) ?_
              have hjv : jn M6 = 4 := by unfold jn; rw [@if_neg _ (isWD M6 18) c106, @if_neg _ (isWD M6 19) c115, @if_neg _ (isWD M6 20) c124, @if_pos _ (isWD M6 21) c133]
              refine j_st [.int (nI (jn M6))] (by rw [hjv]) ?_
              exact j_weak _ (by exact ⟨rfl, rfl, rfl, trivial⟩) (g176 () (by omega))
    refine j_aload_n 78 C dX11_readLaw_77 rfl rfl ?_
    refine j_mV 81 C dX11_readLaw_78 rfl cw11_160 rfl (c_adv hT2.1) rfl (by decide) rfl (Nat.le_of_ble_eq_true rfl) ?_
    obtain ⟨a3, hT3, hle3⟩ := TK_ad hT2
    obtain ⟨a4, f4, hT4, hf4, he4⟩ := TK_nw (i := 13) hT3
    have hpn4 : (nwM (adM (rl2 M w)) 13).2.1 21 3 = nI p := by rw [he4, adM_2, rl2_2]; exact hpn
    obtain ⟨a5, f5, p5, hT5, hf5, hpn5, hp5, -⟩ := TK_pr (join := nI 0) hT4 hpn4
    have hfa2 := hT2.1.2.2.2.1
    refine j_aload_n 82 C dX11_readLaw_81 rfl rfl ?_
    refine j_ldcS 84 13 C dX11_readLaw_82 rfl rfl ?_
    refine j_mV 87 C dX11_readLaw_84 rfl cw11_195 rfl (c_needsWord hT3.1 13 (by decide)) rfl (by decide) rfl (Nat.le_of_ble_eq_true rfl) ?_
    refine j_aload_n 88 C dX11_readLaw_87 rfl rfl ?_
    refine rg_fresh 91 C dX11_readLaw_88 rfl ?_
    refine j_iconst 92 C dX11_readLaw_91 rfl (v := nI 3) (by decide) ?_
    refine ra_fresh 93 C dX11_readLaw_92 rfl _ (by omega) rfl ?_
    rw [hpn4]
    refine j_istore 95 C dX11_readLaw_93 rfl rfl (by decide) ?_
    refine j_aload_n 96 C dX11_readLaw_95 rfl rfl ?_
    refine j_iconst 97 C dX11_readLaw_96 rfl (v := nI 0) (by decide) ?_
    refine j_mV 100 C dX11_readLaw_97 rfl cw11_199 rfl (c_readPart (nI 0) hT4 hpn4 (by omega)) rfl (by decide) rfl (Nat.le_of_ble_eq_true rfl) ?_
    refine j_ws (mw o ad G.2.1 (rl5 (rl2 M w) p)) rfl ?_
    exact j_weak _ (by exact ⟨rfl, rfl, rfl, trivial⟩) (lp _ _ _ _ _ hT5 hpn5 (by omega) n rfl (by omega) rfl)
  have g69 : ∀ (u : Unit), J X 6 0 0 (mw o ad G.2.1 (rl2 M w)) 69 [(0, .ref o), (1, .int (nI w)), (2, .int (srt M)), (3, .int (rlI M w))] [] := by
    intro u 
    refine j_aload_n 70 C dX11_readLaw_69 rfl rfl ?_
    refine j_mI 73 C dX11_readLaw_70 rfl cw11_142 rfl c_good rfl (by decide) rfl (Nat.le_of_ble_eq_true rfl) ?_
    refine j_if_neB 77 76 C dX11_readLaw_73 (by decide) rfl (fun c73 => ?_) (fun c73 => ?_)
    · obtain ⟨L, hL, eL⟩ : ∃ L, L < 9 ∧ rlI M w = nI L := by
        by_cases e : (rl1 M w).1 19 = 0
        · exact (rl1_ok hw e).2
        · exact absurd c73 (by rw [rl2, if_neg (fun z => e z.1)]; exact e)
      rw [eL]
      exact j_weak _ (by exact ⟨rfl, rfl, trivial⟩) (main77 L hL c73 eL)
    · exact j_vret C dX11_readLaw_76 ⟨rfl, by rw [rlM, if_neg c73]⟩
  have g40 : ∀ (u : Unit), J X 6 0 0 (mw o ad G.2.1 (rl1 M w)) 40 [(0, .ref o), (1, .int (nI w)), (2, .int (srt M)), (3, .int (rlI M w))] [] := by
    intro u 
    refine j_aload_n 41 C dX11_readLaw_40 rfl rfl ?_
    refine j_mI 44 C dX11_readLaw_41 rfl cw11_142 rfl c_good rfl (by decide) rfl (Nat.le_of_ble_eq_true rfl) ?_
    refine j_if_eqB 69 47 C dX11_readLaw_44 (by decide) rfl (fun c44 => ?_) (fun c44 => ?_)
    · refine j_ws (mw o ad G.2.1 (rl2 M w)) (by rw [rl2, if_neg (fun z => c44 z.1)]) ?_
      exact j_weak _ (by exact ⟨rfl, rfl, rfl, rfl, trivial⟩) (g69 ())
    · obtain ⟨e1, L, hL, eL⟩ := rl1_ok hw c44
      refine j_weak [(0, .ref o), (1, .int (nI w)), (2, .int (srt M)), (3, .int (nI L))] (by rw [← eL]; exact ⟨rfl, rfl, rfl, rfl, trivial⟩) ?_
      refine j_aload_n 48 C dX11_readLaw_47 rfl rfl ?_
      refine rg_fresh 51 C dX11_readLaw_48 rfl ?_
      refine j_sipush 54 C dX11_readLaw_51 rfl (v := nI 202) (by decide) ?_
      refine j_iconst 55 C dX11_readLaw_54 rfl (v := nI 2) (by decide) ?_
      refine j_iload_n 56 C dX11_readLaw_55 rfl rfl ?_
      refine j_imulN 57 C dX11_readLaw_56 rfl ?_
      refine j_iaddN 58 C dX11_readLaw_57 rfl ?_
      refine j_iconst 59 C dX11_readLaw_58 rfl (v := nI 1) (by decide) ?_
      refine j_iaddN 60 C dX11_readLaw_59 rfl ?_
      refine ra_fresh 61 C dX11_readLaw_60 rfl _ (by omega) rfl ?_
      refine j_if_le 69 64 C dX11_readLaw_61 (by decide) rfl (fun c61 => ?_) (fun c61 => ?_)
      · refine j_ws (mw o ad G.2.1 (rl2 M w)) (by rw [rl2, if_neg (fun z => z.2 (by rw [eL, tn_nI (by omega)]; exact c61))]) ?_
        refine j_weak [(0, .ref o), (1, .int (nI w)), (2, .int (srt M)), (3, .int (rlI M w))] (by rw [eL]; exact ⟨rfl, rfl, rfl, rfl, trivial⟩) ?_
        exact j_weak _ (by exact ⟨rfl, rfl, rfl, rfl, trivial⟩) (g69 ())
      · refine j_aload_n 65 C dX11_readLaw_64 rfl rfl ?_
        refine j_iconst 66 C dX11_readLaw_65 rfl (v := nI 2) (by decide) ?_
        refine j_mV 69 C dX11_readLaw_66 rfl cw11_166 rfl (c_errs _) rfl (by decide) rfl (Nat.le_of_ble_eq_true rfl) ?_
        refine j_ws (mw o ad G.2.1 (rl2 M w)) (by rw [rl2, if_pos ⟨c44, by rw [eL, tn_nI (by omega)]; exact c61⟩]) ?_
        refine j_weak [(0, .ref o), (1, .int (nI w)), (2, .int (srt M)), (3, .int (rlI M w))] (by rw [eL]; exact ⟨rfl, rfl, rfl, rfl, trivial⟩) ?_
        exact j_weak _ (by exact ⟨rfl, rfl, rfl, rfl, trivial⟩) (g69 ())
  have g24 : ∀ (u : Unit), J X 6 0 0 (mw o ad G.2.1 (rl1 M w)) 24 [(0, .ref o), (1, .int (nI w)), (2, .int (srt M))] [] := by
    intro u 
    refine j_iload_n 25 C dX11_readLaw_24 rfl rfl ?_
    refine j_iconst 26 C dX11_readLaw_25 rfl (v := nI 2) (by decide) ?_
    refine j_icmp_neN 34 29 C dX11_readLaw_26 (by decide) rfl (by omega) (by omega) (fun c26 => ?_) (fun c26 => ?_)
    · refine j_iconst 35 C dX11_readLaw_34 rfl (v := nI 4) (by decide) ?_
      refine j_iload_n 36 C dX11_readLaw_35 rfl rfl ?_
      refine j_imulN 37 C dX11_readLaw_36 rfl ?_
      refine j_iload_n 38 C dX11_readLaw_37 rfl rfl ?_
      refine j_iadd 39 C dX11_readLaw_38 rfl ?_
      refine j_st [.int (rlI M w)] (by rw [rlI, if_neg c26]) ?_
      refine j_istore_n 40 C dX11_readLaw_39 rfl rfl (by decide) ?_
      exact j_weak _ (by exact ⟨rfl, rfl, rfl, rfl, trivial⟩) (g40 ())
    · refine j_bipush 31 C dX11_readLaw_29 rfl (v := nI 8) (by decide) ?_
      refine j_goto 39 C dX11_readLaw_31 (by decide) ?_
      refine j_st [.int (rlI M w)] (by rw [rlI, if_pos c26]) ?_
      refine j_istore_n 40 C dX11_readLaw_39 rfl rfl (by decide) ?_
      exact j_weak _ (by exact ⟨rfl, rfl, rfl, rfl, trivial⟩) (g40 ())
  refine j_aload_n 1 C dX11_readLaw_0 rfl rfl ?_
  refine j_mI 4 C dX11_readLaw_1 rfl cw11_190 rfl (c_sortHere hT.1) rfl (by decide) rfl (Nat.le_of_ble_eq_true rfl) ?_
  refine j_istore_n 5 C dX11_readLaw_4 rfl rfl (by decide) ?_
  refine j_iload_n 6 C dX11_readLaw_5 rfl rfl ?_
  refine j_iconst 7 C dX11_readLaw_6 rfl (v := (-1)) (by decide) ?_
  refine j_icmp_eq 19 10 C dX11_readLaw_7 (by decide) rfl (fun c7 => ?_) (fun c7 => ?_)
  · refine j_aload_n 20 C dX11_readLaw_19 rfl rfl ?_
    refine j_iconst 21 C dX11_readLaw_20 rfl (v := nI 1) (by decide) ?_
    refine j_mV 24 C dX11_readLaw_21 rfl cw11_166 rfl (c_errs _) rfl (by decide) rfl (Nat.le_of_ble_eq_true rfl) ?_
    refine j_ws (mw o ad G.2.1 (rl1 M w)) (by rw [rl1, if_pos (Or.inl c7)]) ?_
    exact j_weak _ (by exact ⟨rfl, rfl, rfl, trivial⟩) (g24 ())
  · refine j_iload_n 11 C dX11_readLaw_10 rfl rfl ?_
    refine j_iconst 12 C dX11_readLaw_11 rfl (v := nI 2) (by decide) ?_
    refine j_icmp_neN 24 15 C dX11_readLaw_12 (by decide) rfl (by omega) (by omega) (fun c12 => ?_) (fun c12 => ?_)
    · refine j_ws (mw o ad G.2.1 (rl1 M w)) (by rw [rl1, if_neg (fun z => z.elim c7 (fun z => c12 z.1))]) ?_
      exact j_weak _ (by exact ⟨rfl, rfl, rfl, trivial⟩) (g24 ())
    · refine j_iload_n 16 C dX11_readLaw_15 rfl rfl ?_
      refine j_if_eq 24 19 C dX11_readLaw_16 (by decide) rfl (fun c16 => ?_) (fun c16 => ?_)
      · refine j_ws (mw o ad G.2.1 (rl1 M w)) (by rw [rl1, if_neg (fun z => z.elim c7 (fun z => z.2 c16))]) ?_
        exact j_weak _ (by exact ⟨rfl, rfl, rfl, trivial⟩) (g24 ())
      · refine j_aload_n 20 C dX11_readLaw_19 rfl rfl ?_
        refine j_iconst 21 C dX11_readLaw_20 rfl (v := nI 1) (by decide) ?_
        refine j_mV 24 C dX11_readLaw_21 rfl cw11_166 rfl (c_errs _) rfl (by decide) rfl (Nat.le_of_ble_eq_true rfl) ?_
        refine j_ws (mw o ad G.2.1 (rl1 M w)) (by rw [rl1, if_pos (Or.inr ⟨c12, c16⟩)]) ?_
        exact j_weak _ (by exact ⟨rfl, rfl, rfl, trivial⟩) (g24 ())
end S25
