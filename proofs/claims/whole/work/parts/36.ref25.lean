section S26
variable {l : Launch} {G : GG} {o : Nat} {ad : Nat → Nat} {M : MS} {n a f : Nat} {X : JX} {nt q p : Nat}
set_option maxHeartbeats 2000000 in
theorem rl_g395 (C : Cx X l G cX11_readLine 3 RX11 none 9 0 0 (pV (mw o ad G.2.1 (lineM M n)))) (hT : TK M n a f) (hnt : M.2.1 21 1 = nI nt) (hnt2 : nt ≤ 24) (hq : M.2.1 21 2 = nI q) (hq2 : q ≤ 12) (hp : M.2.1 21 3 = nI p) (hp3 : 3 * p ≤ f + 2) : ∀ (M9 M7 : MS), M9 = lnT2 M7 → M7 = lnY (lnX M) n → (lnX M).1 19 = 0 → J X 3 0 0 (mw o ad G.2.1 M9) 395 [(0, .ref o)] [] := by
  have hn9 := hT.1.2.2.2.2.2
  have han := hT.1.2.2.2.2.1
  have hfa0 := hT.1.2.2.2.1
  have hTA := TK_lnA hT
  have hTB := TK_lnB hTA
  obtain ⟨hTX, hX2, -⟩ := TK_lnX hT
  have hntX : (lnX M).2.1 21 1 = nI nt := by rw [hX2]; exact hnt
  have hqX : (lnX M).2.1 21 2 = nI q := by rw [hX2]; exact hq
  have hpX : (lnX M).2.1 21 3 = nI p := by rw [hX2]; exact hp
  intro M9 M7 e9 hR hok
  subst e9
  refine j_aload_n 396 C dX11_readLine_395 rfl rfl ?_
  refine rg_fresh 399 C dX11_readLine_396 rfl ?_
  refine j_iconst 400 C dX11_readLine_399 rfl (v := nI 0) (by decide) ?_
  refine j_dup2 401 C dX11_readLine_400 rfl rfl rfl ?_
  refine ra_fresh 402 C dX11_readLine_401 rfl _ (by omega) rfl ?_
  refine j_iconst 403 C dX11_readLine_402 rfl (v := nI 1) (by decide) ?_
  refine j_iadd 404 C dX11_readLine_403 rfl ?_
  refine rs_fresh 405 C dX11_readLine_404 rfl _ (by omega) rfl ?_
  exact j_vret C dX11_readLine_405 ⟨rfl, by rw [lineM, if_pos hok, ← hR]; rfl⟩
set_option maxHeartbeats 2000000 in
theorem rl_g384 (C : Cx X l G cX11_readLine 3 RX11 none 9 0 0 (pV (mw o ad G.2.1 (lineM M n)))) (hT : TK M n a f) (hnt : M.2.1 21 1 = nI nt) (hnt2 : nt ≤ 24) (hq : M.2.1 21 2 = nI q) (hq2 : q ≤ 12) (hp : M.2.1 21 3 = nI p) (hp3 : 3 * p ≤ f + 2) : ∀ (M8 M7 : MS) (a7 f7 : Nat), M8 = lnT1 M7 → TK M8 n a7 f7 → M7 = lnY (lnX M) n → (lnX M).1 19 = 0 → J X 3 0 0 (mw o ad G.2.1 M8) 384 [(0, .ref o)] [] := by
  have hn9 := hT.1.2.2.2.2.2
  have han := hT.1.2.2.2.2.1
  have hfa0 := hT.1.2.2.2.1
  have hTA := TK_lnA hT
  have hTB := TK_lnB hTA
  obtain ⟨hTX, hX2, -⟩ := TK_lnX hT
  have hntX : (lnX M).2.1 21 1 = nI nt := by rw [hX2]; exact hnt
  have hqX : (lnX M).2.1 21 2 = nI q := by rw [hX2]; exact hq
  have hpX : (lnX M).2.1 21 3 = nI p := by rw [hX2]; exact hp
  have g395 := rl_g395 C hT hnt hnt2 hq hq2 hp hp3
  intro M8 M7 a7 f7 e8 hT8 hR hok
  refine j_aload_n 385 C dX11_readLine_384 rfl rfl ?_
  refine j_mI 388 C dX11_readLine_385 rfl cw11_142 rfl c_good rfl (by decide) rfl (Nat.le_of_ble_eq_true rfl) ?_
  refine j_if_eqB 395 391 C dX11_readLine_388 (by decide) rfl (fun c388 => ?_) (fun c388 => ?_)
  · exact j_weak _ (by exact ⟨rfl, trivial⟩) (g395 _ M7 (by rw [lnT2, ← e8, if_neg c388]) hR hok)
  · refine j_aload_n 392 C dX11_readLine_391 rfl rfl ?_
    refine j_mV 395 C dX11_readLine_392 rfl cw11_160 rfl (c_adv hT8.1) rfl (by decide) rfl (Nat.le_of_ble_eq_true rfl) ?_
    exact j_weak _ (by exact ⟨rfl, trivial⟩) (g395 _ M7 (by rw [lnT2, ← e8, if_pos c388]) hR hok)
set_option maxHeartbeats 2000000 in
theorem rl_g371 (C : Cx X l G cX11_readLine 3 RX11 none 9 0 0 (pV (mw o ad G.2.1 (lineM M n)))) (hT : TK M n a f) (hnt : M.2.1 21 1 = nI nt) (hnt2 : nt ≤ 24) (hq : M.2.1 21 2 = nI q) (hq2 : q ≤ 12) (hp : M.2.1 21 3 = nI p) (hp3 : 3 * p ≤ f + 2) : ∀ (M7 : MS) (a7 f7 : Nat), TK M7 n a7 f7 → M7 = lnY (lnX M) n → (lnX M).1 19 = 0 → J X 3 0 0 (mw o ad G.2.1 M7) 371 [(0, .ref o)] [] := by
  have hn9 := hT.1.2.2.2.2.2
  have han := hT.1.2.2.2.2.1
  have hfa0 := hT.1.2.2.2.1
  have hTA := TK_lnA hT
  have hTB := TK_lnB hTA
  obtain ⟨hTX, hX2, -⟩ := TK_lnX hT
  have hntX : (lnX M).2.1 21 1 = nI nt := by rw [hX2]; exact hnt
  have hqX : (lnX M).2.1 21 2 = nI q := by rw [hX2]; exact hq
  have hpX : (lnX M).2.1 21 3 = nI p := by rw [hX2]; exact hp
  have g384 := rl_g384 C hT hnt hnt2 hq hq2 hp hp3
  intro M7 a7 f7 hT7 hR hok
  refine j_aload_n 372 C dX11_readLine_371 rfl rfl ?_
  refine rg_token 375 C dX11_readLine_372 rfl ?_
  refine j_iconst 376 C dX11_readLine_375 rfl (v := nI 3) (by decide) ?_
  refine j_icmp_eq 384 379 C dX11_readLine_376 (by decide) rfl (fun c376 => ?_) (fun c376 => ?_)
  · exact j_weak _ (by exact ⟨rfl, trivial⟩) (g384 _ M7 a7 f7 (by rw [lnT1, if_pos c376]) hT7 hR hok)
  · refine j_aload_n 380 C dX11_readLine_379 rfl rfl ?_
    refine j_iconst 381 C dX11_readLine_380 rfl (v := nI 1) (by decide) ?_
    refine j_mV 384 C dX11_readLine_381 rfl cw11_166 rfl (c_errs _) rfl (by decide) rfl (Nat.le_of_ble_eq_true rfl) ?_
    exact j_weak _ (by exact ⟨rfl, trivial⟩) (g384 _ M7 a7 f7 (by rw [lnT1, if_neg c376]) (TK_er hT7) hR hok)
set_option maxHeartbeats 2000000 in
theorem rl_g361 (C : Cx X l G cX11_readLine 3 RX11 none 9 0 0 (pV (mw o ad G.2.1 (lineM M n)))) (hT : TK M n a f) (hnt : M.2.1 21 1 = nI nt) (hnt2 : nt ≤ 24) (hq : M.2.1 21 2 = nI q) (hq2 : q ≤ 12) (hp : M.2.1 21 3 = nI p) (hp3 : 3 * p ≤ f + 2) (hok : (lnX M).1 19 = 0) : ∀ (k : Nat), k < 3 → k = lnW (lnX M) → ¬ isW (lnX M) 1 → ¬ isW (lnX M) 2 → ¬ isW (lnX M) 6 → ¬ isW (lnX M) 7 → J X 3 0 0 (mw o ad G.2.1 (lnX M)) 361 [(0, .ref o)] [.int (nI k)] := by
  have hn9 := hT.1.2.2.2.2.2
  have han := hT.1.2.2.2.2.1
  have hfa0 := hT.1.2.2.2.1
  have hTA := TK_lnA hT
  have hTB := TK_lnB hTA
  obtain ⟨hTX, hX2, -⟩ := TK_lnX hT
  have hntX : (lnX M).2.1 21 1 = nI nt := by rw [hX2]; exact hnt
  have hqX : (lnX M).2.1 21 2 = nI q := by rw [hX2]; exact hq
  have hpX : (lnX M).2.1 21 3 = nI p := by rw [hX2]; exact hp
  obtain ⟨hXe, hK, hX3⟩ := lnX_ok hok
  have g371 := rl_g371 C hT hnt hnt2 hq hq2 hp hp3
  intro k hk ek c158 c216 c232 c263
  obtain ⟨iw, hiw, hiw3⟩ := lnK_law (by rw [hXe]; exact hK) c158 c216 c232 c263
  have hfa := isW_fa hTX.1 hiw
  obtain ⟨a1, hT1, hle1⟩ := TK_ad hTX
  have hp1 : (adM (lnX M)).2.1 21 3 = nI p := by rw [adM_2]; exact hpX
  obtain ⟨a9, f9, p9, hT9, -⟩ := TK_rlM hT1 hk hp1 (by omega)
  refine j_istore_n 362 C dX11_readLine_361 rfl rfl (by decide) ?_
  refine j_aload_n 363 C dX11_readLine_362 rfl rfl ?_
  refine j_mV 366 C dX11_readLine_363 rfl cw11_160 rfl (c_adv hTX.1) rfl (by decide) rfl (Nat.le_of_ble_eq_true rfl) ?_
  refine j_aload_n 367 C dX11_readLine_366 rfl rfl ?_
  refine j_iload_n 368 C dX11_readLine_367 rfl rfl ?_
  refine j_mV 371 C dX11_readLine_368 rfl cw11_231 rfl (c_readLaw k hk hT1 hp1 (by omega)) rfl (by decide) rfl (Nat.le_of_ble_eq_true rfl) ?_
  exact j_weak _ (by exact ⟨rfl, trivial⟩) (g371 _ a9 f9 hT9 (by rw [lnY, @if_neg _ (isWD (lnX M) 1) c158, @if_neg _ (isWD (lnX M) 2) c216, @if_neg _ (isWD (lnX M) 6) c232, @if_neg _ (isWD (lnX M) 7) c263, hpX, tn_nI (by omega), ek]) hok)
set_option maxHeartbeats 2000000 in
theorem rl_g298 (C : Cx X l G cX11_readLine 3 RX11 none 9 0 0 (pV (mw o ad G.2.1 (lineM M n)))) (hT : TK M n a f) (hnt : M.2.1 21 1 = nI nt) (hnt2 : nt ≤ 24) (hq : M.2.1 21 2 = nI q) (hq2 : q ≤ 12) (hp : M.2.1 21 3 = nI p) (hp3 : 3 * p ≤ f + 2) (hok : (lnX M).1 19 = 0) : ∀ (aa ff : Nat), TK (adM (lnX M)) n aa ff → ¬ isW (lnX M) 1 → ¬ isW (lnX M) 2 → ¬ isW (lnX M) 6 → isW (lnX M) 7 → J X 3 0 0 (mw o ad G.2.1 (ln4e (adM (lnX M)))) 298 [(0, .ref o), (2, .int (srt (adM (lnX M))))] [] := by
  have hn9 := hT.1.2.2.2.2.2
  have han := hT.1.2.2.2.2.1
  have hfa0 := hT.1.2.2.2.1
  have hTA := TK_lnA hT
  have hTB := TK_lnB hTA
  obtain ⟨hTX, hX2, -⟩ := TK_lnX hT
  have hntX : (lnX M).2.1 21 1 = nI nt := by rw [hX2]; exact hnt
  have hqX : (lnX M).2.1 21 2 = nI q := by rw [hX2]; exact hq
  have hpX : (lnX M).2.1 21 3 = nI p := by rw [hX2]; exact hp
  obtain ⟨hXe, hK, hX3⟩ := lnX_ok hok
  have g371 := rl_g371 C hT hnt hnt2 hq hq2 hp hp3
  intro aa ff hN c158 c216 c232 c263
  refine j_aload_n 299 C dX11_readLine_298 rfl rfl ?_
  refine j_mI 302 C dX11_readLine_299 rfl cw11_142 rfl c_good rfl (by decide) rfl (Nat.le_of_ble_eq_true rfl) ?_
  refine j_if_eqB 331 305 C dX11_readLine_302 (by decide) rfl (fun c302 => ?_) (fun c302 => ?_)
  · refine j_goto 371 C dX11_readLine_331 (by decide) ?_
    exact j_weak _ (by exact ⟨rfl, trivial⟩) (g371 _ aa ff (TK_ln4e hN) (by rw [lnY, @if_neg _ (isWD (lnX M) 1) c158, @if_neg _ (isWD (lnX M) 2) c216, @if_neg _ (isWD (lnX M) 6) c232, @if_pos _ (isWD (lnX M) 7) c263, ln4, if_neg c302]) hok)
  · obtain ⟨s, hs, es⟩ := ln4e_ok c302
    refine j_weak [(0, .ref o), (2, .int (nI s))] (by rw [← es]; exact ⟨rfl, rfl, trivial⟩) ?_
    have hT4 : TK (aS (ln4e (adM (lnX M))) 23 s (vp_nar .boolean (nI 1))) n aa ff := TK_ln4e hN
    obtain ⟨a5, hT5, -⟩ := TK_ad hT4
    obtain ⟨a6, f6, hT6, -⟩ := TK_num (lo := 0) (hi := 100) hT5
    refine j_aload_n 306 C dX11_readLine_305 rfl rfl ?_
    refine rg_leanTold 309 C dX11_readLine_306 rfl ?_
    refine j_iload_n 310 C dX11_readLine_309 rfl rfl ?_
    refine j_iconst 311 C dX11_readLine_310 rfl (v := nI 1) (by decide) ?_
    refine rs_leanTold 312 C dX11_readLine_311 rfl _ (by omega) rfl ?_
    refine j_aload_n 313 C dX11_readLine_312 rfl rfl ?_
    refine j_mV 316 C dX11_readLine_313 rfl cw11_160 rfl (c_adv hT4.1) rfl (by decide) rfl (Nat.le_of_ble_eq_true rfl) ?_
    refine j_aload_n 317 C dX11_readLine_316 rfl rfl ?_
    refine rg_fresh 320 C dX11_readLine_317 rfl ?_
    refine j_iconst 321 C dX11_readLine_320 rfl (v := nI 5) (by decide) ?_
    refine j_iload_n 322 C dX11_readLine_321 rfl rfl ?_
    refine j_iaddN 323 C dX11_readLine_322 rfl ?_
    refine j_aload_n 324 C dX11_readLine_323 rfl rfl ?_
    refine j_iconst 325 C dX11_readLine_324 rfl (v := nI 0) (by decide) ?_
    refine j_bipush 327 C dX11_readLine_325 rfl (v := nI 100) (by decide) ?_
    refine j_mI 330 C dX11_readLine_327 rfl cw11_187 rfl (c_number hT5.1 0 100 (by decide) (by decide)) rfl (by decide) rfl (Nat.le_of_ble_eq_true rfl) ?_
    refine rs_fresh 331 C dX11_readLine_330 rfl _ (by omega) rfl ?_
    refine j_goto 371 C dX11_readLine_331 (by decide) ?_
    exact j_weak _ (by exact ⟨rfl, trivial⟩) (g371 _ a6 f6 (TK_aS hT6) (by rw [lnY, @if_neg _ (isWD (lnX M) 1) c158, @if_neg _ (isWD (lnX M) 2) c216, @if_neg _ (isWD (lnX M) 6) c232, @if_pos _ (isWD (lnX M) 7) c263, ln4, if_pos c302, ln4a, es, tn_nI (by omega)]) hok)
set_option maxHeartbeats 2000000 in
theorem rl_g271 (C : Cx X l G cX11_readLine 3 RX11 none 9 0 0 (pV (mw o ad G.2.1 (lineM M n)))) (hT : TK M n a f) (hnt : M.2.1 21 1 = nI nt) (hnt2 : nt ≤ 24) (hq : M.2.1 21 2 = nI q) (hq2 : q ≤ 12) (hp : M.2.1 21 3 = nI p) (hp3 : 3 * p ≤ f + 2) (hok : (lnX M).1 19 = 0) : ∀ (aa ff : Nat), TK (adM (lnX M)) n aa ff → ¬ isW (lnX M) 1 → ¬ isW (lnX M) 2 → ¬ isW (lnX M) 6 → isW (lnX M) 7 → J X 3 0 0 (mw o ad G.2.1 (adM (lnX M))) 271 [(0, .ref o), (2, .int (srt (adM (lnX M))))] [] := by
  have hn9 := hT.1.2.2.2.2.2
  have han := hT.1.2.2.2.2.1
  have hfa0 := hT.1.2.2.2.1
  have hTA := TK_lnA hT
  have hTB := TK_lnB hTA
  obtain ⟨hTX, hX2, -⟩ := TK_lnX hT
  have hntX : (lnX M).2.1 21 1 = nI nt := by rw [hX2]; exact hnt
  have hqX : (lnX M).2.1 21 2 = nI q := by rw [hX2]; exact hq
  have hpX : (lnX M).2.1 21 3 = nI p := by rw [hX2]; exact hp
  obtain ⟨hXe, hK, hX3⟩ := lnX_ok hok
  have g298 := rl_g298 C hT hnt hnt2 hq hq2 hp hp3 hok
  intro aa ff hN c158 c216 c232 c263
  refine j_iload_n 272 C dX11_readLine_271 rfl rfl ?_
  refine j_iconst 273 C dX11_readLine_272 rfl (v := (-1)) (by decide) ?_
  refine j_icmp_ne 284 276 C dX11_readLine_273 (by decide) rfl (fun c273 => ?_) (fun c273 => ?_)
  · obtain ⟨s, hs, es⟩ := (srt_in (adM (lnX M))).resolve_left c273
    refine j_weak [(0, .ref o), (2, .int (nI s))] (by rw [← es]; exact ⟨rfl, rfl, trivial⟩) ?_
    refine j_aload_n 285 C dX11_readLine_284 rfl rfl ?_
    refine rg_leanTold 288 C dX11_readLine_285 rfl ?_
    refine j_iload_n 289 C dX11_readLine_288 rfl rfl ?_
    refine ra_leanTold 290 C dX11_readLine_289 rfl _ (by omega) rfl ?_
    refine j_if_eq 298 293 C dX11_readLine_290 (by decide) rfl (fun c290 => ?_) (fun c290 => ?_)
    · refine j_ws (mw o ad G.2.1 (ln4e (adM (lnX M)))) (by rw [ln4e, if_neg c273, es, tn_nI (by omega), if_pos c290]) ?_
      refine j_weak [(0, .ref o), (2, .int (srt (adM (lnX M))))] (by rw [es]; exact ⟨rfl, rfl, trivial⟩) ?_
      exact j_weak _ (by exact ⟨rfl, rfl, trivial⟩) (g298 aa ff hN c158 c216 c232 c263)
    · refine j_aload_n 294 C dX11_readLine_293 rfl rfl ?_
      refine j_iconst 295 C dX11_readLine_294 rfl (v := nI 2) (by decide) ?_
      refine j_mV 298 C dX11_readLine_295 rfl cw11_166 rfl (c_errs _) rfl (by decide) rfl (Nat.le_of_ble_eq_true rfl) ?_
      refine j_ws (mw o ad G.2.1 (ln4e (adM (lnX M)))) (by rw [ln4e, if_neg c273, es, tn_nI (by omega), if_neg c290]) ?_
      refine j_weak [(0, .ref o), (2, .int (srt (adM (lnX M))))] (by rw [es]; exact ⟨rfl, rfl, trivial⟩) ?_
      exact j_weak _ (by exact ⟨rfl, rfl, trivial⟩) (g298 aa ff hN c158 c216 c232 c263)
  · refine j_aload_n 277 C dX11_readLine_276 rfl rfl ?_
    refine j_iconst 278 C dX11_readLine_277 rfl (v := nI 1) (by decide) ?_
    refine j_mV 281 C dX11_readLine_278 rfl cw11_166 rfl (c_errs _) rfl (by decide) rfl (Nat.le_of_ble_eq_true rfl) ?_
    refine j_goto 298 C dX11_readLine_281 (by decide) ?_
    refine j_ws (mw o ad G.2.1 (ln4e (adM (lnX M)))) (by rw [ln4e, if_pos c273]) ?_
    exact j_weak _ (by exact ⟨rfl, rfl, trivial⟩) (g298 aa ff hN c158 c216 c232 c263)
set_option maxHeartbeats 4000000 in
theorem rl_main (C : Cx X l G cX11_readLine 3 RX11 none 9 0 0 (pV (mw o ad G.2.1 (lineM M n)))) (hT : TK M n a f) (hnt : M.2.1 21 1 = nI nt) (hnt2 : nt ≤ 24) (hq : M.2.1 21 2 = nI q) (hq2 : q ≤ 12) (hp : M.2.1 21 3 = nI p) (hp3 : 3 * p ≤ f + 2) (hok : (lnX M).1 19 = 0) : J X 3 0 0 (mw o ad G.2.1 (lnX M)) 152 [(0, .ref o)] [] := by
  have hn9 := hT.1.2.2.2.2.2
  have han := hT.1.2.2.2.2.1
  have hfa0 := hT.1.2.2.2.1
  have hTA := TK_lnA hT
  have hTB := TK_lnB hTA
  obtain ⟨hTX, hX2, -⟩ := TK_lnX hT
  have hntX : (lnX M).2.1 21 1 = nI nt := by rw [hX2]; exact hnt
  have hqX : (lnX M).2.1 21 2 = nI q := by rw [hX2]; exact hq
  have hpX : (lnX M).2.1 21 3 = nI p := by rw [hX2]; exact hp
  obtain ⟨hXe, hK, hX3⟩ := lnX_ok hok
  have g371 := rl_g371 C hT hnt hnt2 hq hq2 hp hp3
  have g361 := rl_g361 C hT hnt hnt2 hq hq2 hp hp3 hok
  have g271 := rl_g271 C hT hnt hnt2 hq hq2 hp hp3 hok
  refine j_aload_n 153 C dX11_readLine_152 rfl rfl ?_
  refine j_ldcS 155 1 C dX11_readLine_153 rfl rfl ?_
  refine j_mI 158 C dX11_readLine_155 rfl cw11_163 rfl (c_takes hTX.1 1 (by decide)) rfl (by decide) rfl (Nat.le_of_ble_eq_true rfl) ?_
  refine j_if_eqW 210 161 C dX11_readLine_158 (by decide) rfl (fun c158 => ?_) (fun c158 => ?_)
  · rw [show tkM (lnX M) 1 = (lnX M) from @if_neg _ (isWD (lnX M) 1) c158 _ _ _]
    refine j_aload_n 211 C dX11_readLine_210 rfl rfl ?_
    refine j_ldcS 213 2 C dX11_readLine_211 rfl rfl ?_
    refine j_mI 216 C dX11_readLine_213 rfl cw11_163 rfl (c_takes hTX.1 2 (by decide)) rfl (by decide) rfl (Nat.le_of_ble_eq_true rfl) ?_
    refine j_if_eqW 226 219 C dX11_readLine_216 (by decide) rfl (fun c216 => ?_) (fun c216 => ?_)
    · rw [show tkM (lnX M) 2 = (lnX M) from @if_neg _ (isWD (lnX M) 2) c216 _ _ _]
      refine j_aload_n 227 C dX11_readLine_226 rfl rfl ?_
      refine j_ldcS 229 6 C dX11_readLine_227 rfl rfl ?_
      refine j_mI 232 C dX11_readLine_229 rfl cw11_163 rfl (c_takes hTX.1 6 (by decide)) rfl (by decide) rfl (Nat.le_of_ble_eq_true rfl) ?_
      refine j_if_eqW 257 235 C dX11_readLine_232 (by decide) rfl (fun c232 => ?_) (fun c232 => ?_)
      · rw [show tkM (lnX M) 6 = (lnX M) from @if_neg _ (isWD (lnX M) 6) c232 _ _ _]
        refine j_aload_n 258 C dX11_readLine_257 rfl rfl ?_
        refine j_ldcS 260 7 C dX11_readLine_258 rfl rfl ?_
        refine j_mI 263 C dX11_readLine_260 rfl cw11_163 rfl (c_takes hTX.1 7 (by decide)) rfl (by decide) rfl (Nat.le_of_ble_eq_true rfl) ?_
        refine j_if_eqW 334 266 C dX11_readLine_263 (by decide) rfl (fun c263 => ?_) (fun c263 => ?_)
        · rw [show tkM (lnX M) 7 = (lnX M) from @if_neg _ (isWD (lnX M) 7) c263 _ _ _]
          refine j_aload_n 335 C dX11_readLine_334 rfl rfl ?_
          refine j_ldcS 337 3 C dX11_readLine_335 rfl rfl ?_
          refine j_mI 340 C dX11_readLine_337 rfl cw11_156 rfl (c_isB hTX.1 3 (by decide)) rfl (by decide) rfl (Nat.le_of_ble_eq_true rfl) ?_
          refine j_if_eqW 347 343 C dX11_readLine_340 (by decide) rfl (fun c340 => ?_) (fun c340 => ?_)
          · refine j_aload_n 348 C dX11_readLine_347 rfl rfl ?_
            refine j_ldcS 350 4 C dX11_readLine_348 rfl rfl ?_
            refine j_mI 353 C dX11_readLine_350 rfl cw11_156 rfl (c_isB hTX.1 4 (by decide)) rfl (by decide) rfl (Nat.le_of_ble_eq_true rfl) ?_
            refine j_if_eqW 360 356 C dX11_readLine_353 (by decide) rfl (fun c353 => ?_) (fun c353 => ?_)
            · refine j_iconst 361 C dX11_readLine_360 rfl (v := nI 2) (by decide) ?_
              exact j_weak _ (by exact ⟨rfl, trivial⟩) (g361 2 (by decide) (by rw [lnW, @if_neg _ (isWD (lnX M) 3) c340, @if_neg _ (isWD (lnX M) 4) c353]) c158 c216 c232 c263)
            · refine j_iconst 357 C dX11_readLine_356 rfl (v := nI 1) (by decide) ?_
              refine j_goto 361 C dX11_readLine_357 (by decide) ?_
              exact j_weak _ (by exact ⟨rfl, trivial⟩) (g361 1 (by decide) (by rw [lnW, @if_neg _ (isWD (lnX M) 3) c340, @if_pos _ (isWD (lnX M) 4) c353]) c158 c216 c232 c263)
          · refine j_iconst 344 C dX11_readLine_343 rfl (v := nI 0) (by decide) ?_
            refine j_goto 361 C dX11_readLine_344 (by decide) ?_
            exact j_weak _ (by exact ⟨rfl, trivial⟩) (g361 0 (by decide) (by rw [lnW, @if_pos _ (isWD (lnX M) 3) c340]) c158 c216 c232 c263)
        · rw [show tkM (lnX M) 7 = adM (lnX M) from @if_pos _ (isWD (lnX M) 7) c263 _ _ _]
          obtain ⟨a1, hT1, hle1⟩ := TK_ad hTX
          refine j_aload_n 267 C dX11_readLine_266 rfl rfl ?_
          refine j_mI 270 C dX11_readLine_267 rfl cw11_190 rfl (c_sortHere hT1.1) rfl (by decide) rfl (Nat.le_of_ble_eq_true rfl) ?_
          refine j_istore_n 271 C dX11_readLine_270 rfl rfl (by decide) ?_
          exact j_weak _ (by exact ⟨rfl, rfl, trivial⟩) (g271 a1 (nxF (lnX M)) hT1 c158 c216 c232 c263)
      · rw [show tkM (lnX M) 6 = adM (lnX M) from @if_pos _ (isWD (lnX M) 6) c232 _ _ _]
        obtain ⟨a1, hT1, hle1⟩ := TK_ad hTX
        have hT1s : TK (sS (adM (lnX M)) 22 (nI 1)) n a1 (nxF (lnX M)) := hT1
        obtain ⟨a3, f3, hT3, hf3, he3, -⟩ := TK_num (lo := 0) (hi := 5000) hT1s
        refine j_aload_n 236 C dX11_readLine_235 rfl rfl ?_
        refine j_iconst 237 C dX11_readLine_236 rfl (v := nI 1) (by decide) ?_
        refine rp_holdTold 240 C dX11_readLine_237 rfl rfl rfl ?_
        refine j_aload_n 241 C dX11_readLine_240 rfl rfl ?_
        refine rg_fresh 244 C dX11_readLine_241 rfl ?_
        refine j_iconst 245 C dX11_readLine_244 rfl (v := nI 4) (by decide) ?_
        refine j_aload_n 246 C dX11_readLine_245 rfl rfl ?_
        refine j_iconst 247 C dX11_readLine_246 rfl (v := nI 0) (by decide) ?_
        refine j_sipush 250 C dX11_readLine_247 rfl (v := nI 5000) (by decide) ?_
        refine j_mI 253 C dX11_readLine_250 rfl cw11_187 rfl (c_number hT1s.1 0 5000 (by decide) (by decide)) rfl (by decide) rfl (Nat.le_of_ble_eq_true rfl) ?_
        refine rs_fresh 254 C dX11_readLine_253 rfl _ (by omega) rfl ?_
        refine j_goto 371 C dX11_readLine_254 (by decide) ?_
        exact j_weak _ (by exact ⟨rfl, trivial⟩) (g371 _ a3 f3 (TK_aS hT3) (by rw [lnY, @if_neg _ (isWD (lnX M) 1) c158, @if_neg _ (isWD (lnX M) 2) c216, @if_pos _ (isWD (lnX M) 6) c232, ln3]) hok)
    · rw [show tkM (lnX M) 2 = adM (lnX M) from @if_pos _ (isWD (lnX M) 2) c216 _ _ _]
      obtain ⟨a1, hT1, hle1⟩ := TK_ad hTX
      have hq2 : (adM (lnX M)).2.1 21 2 = nI q := by rw [adM_2]; exact hqX
      have hq12 : q < 12 := by
        by_cases z : q = 12
        · exact absurd (Or.inr ⟨by rw [← hXe]; exact c216, by rw [← z]; exact hq⟩) hX3
        · omega
      obtain ⟨a8, f8, hT8, -, -⟩ := TK_rrF hq12 13 0 _ _ _ hT1
      refine j_aload_n 220 C dX11_readLine_219 rfl rfl ?_
      refine j_mV 223 C dX11_readLine_220 rfl cw11_228 rfl (c_readRow hT1.1 hq12 hq2) rfl (by decide) rfl (Nat.le_of_ble_eq_true rfl) ?_
      refine j_goto 371 C dX11_readLine_223 (by decide) ?_
      exact j_weak _ (by exact ⟨rfl, trivial⟩) (g371 _ a8 f8 hT8 (by rw [lnY, @if_neg _ (isWD (lnX M) 1) c158, @if_pos _ (isWD (lnX M) 2) c216, hqX, tn_nI (by omega)]) hok)
  · rw [show tkM (lnX M) 1 = adM (lnX M) from @if_pos _ (isWD (lnX M) 1) c158 _ _ _]
    obtain ⟨a1, hT1, hle1⟩ := TK_ad hTX
    obtain ⟨a2, f2, hT2, hf2, he2⟩ := TK_nw (i := 8) hT1
    obtain ⟨a3, f3, hT3, hf3, he3, -⟩ := TK_num (lo := 0) (hi := 9) hT2
    have hnt2 : (nmM (nwM (adM (lnX M)) 8) 0 9).2.1 21 1 = nI nt := by rw [he3, he2, adM_2]; exact hntX
    have hnt24 : nt < 24 := by
      have := hX3
      by_cases z : nt = 24
      · exact absurd (Or.inl ⟨by rw [← hXe]; exact c158, by rw [← z]; exact hnt⟩) this
      · omega
    refine j_aload_n 162 C dX11_readLine_161 rfl rfl ?_
    refine j_ldcS 164 8 C dX11_readLine_162 rfl rfl ?_
    refine j_mV 167 C dX11_readLine_164 rfl cw11_195 rfl (c_needsWord hT1.1 8 (by decide)) rfl (by decide) rfl (Nat.le_of_ble_eq_true rfl) ?_
    refine j_aload_n 168 C dX11_readLine_167 rfl rfl ?_
    refine j_iconst 169 C dX11_readLine_168 rfl (v := nI 0) (by decide) ?_
    refine j_bipush 171 C dX11_readLine_169 rfl (v := nI 9) (by decide) ?_
    refine j_mI 174 C dX11_readLine_171 rfl cw11_187 rfl (c_number hT2.1 0 9 (by decide) (by decide)) rfl (by decide) rfl (Nat.le_of_ble_eq_true rfl) ?_
    refine j_istore_n 175 C dX11_readLine_174 rfl rfl (by decide) ?_
    refine j_aload_n 176 C dX11_readLine_175 rfl rfl ?_
    refine j_mI 179 C dX11_readLine_176 rfl cw11_142 rfl c_good rfl (by decide) rfl (Nat.le_of_ble_eq_true rfl) ?_
    refine j_if_eqB 207 182 C dX11_readLine_179 (by decide) rfl (fun c179 => ?_) (fun c179 => ?_)
    · refine j_goto 371 C dX11_readLine_207 (by decide) ?_
      exact j_weak _ (by exact ⟨rfl, trivial⟩) (g371 _ a3 f3 hT3 (by rw [lnY, @if_pos _ (isWD (lnX M) 1) c158, hntX, tn_nI (by omega), ln1, if_neg c179]) hok)
    · refine j_aload_n 183 C dX11_readLine_182 rfl rfl ?_
      refine rg_fresh 186 C dX11_readLine_183 rfl ?_
      refine j_bipush 188 C dX11_readLine_186 rfl (v := nI 10) (by decide) ?_
      refine j_aload_n 189 C dX11_readLine_188 rfl rfl ?_
      refine rg_fresh 192 C dX11_readLine_189 rfl ?_
      refine j_iconst 193 C dX11_readLine_192 rfl (v := nI 1) (by decide) ?_
      refine ra_fresh 194 C dX11_readLine_193 rfl _ (by omega) rfl ?_
      rw [hnt2]
      refine j_iaddN 195 C dX11_readLine_194 rfl ?_
      refine j_iload_n 196 C dX11_readLine_195 rfl rfl ?_
      refine rs_fresh 197 C dX11_readLine_196 rfl _ (by omega) rfl ?_
      refine j_aload_n 198 C dX11_readLine_197 rfl rfl ?_
      refine rg_fresh 201 C dX11_readLine_198 rfl ?_
      refine j_iconst 202 C dX11_readLine_201 rfl (v := nI 1) (by decide) ?_
      refine j_dup2 203 C dX11_readLine_202 rfl rfl rfl ?_
      refine ra_fresh 204 C dX11_readLine_203 rfl _ (by omega) rfl ?_
      rw [show (aS (nmM (nwM (adM (lnX M)) 8) 0 9) 21 (10 + nt) (nmV (nwM (adM (lnX M)) 8) 0 9)).2.1 21 1 = nI nt from by rw [aS_at, pk_un (by omega)]; exact hnt2]
      refine j_iconst 205 C dX11_readLine_204 rfl (v := nI 1) (by decide) ?_
      refine j_iaddN 206 C dX11_readLine_205 rfl ?_
      refine rs_fresh 207 C dX11_readLine_206 rfl _ (by omega) rfl ?_
      refine j_goto 371 C dX11_readLine_207 (by decide) ?_
      exact j_weak _ (by exact ⟨rfl, trivial⟩) (g371 _ a3 f3 (TK_aS (TK_aS hT3)) (by rw [lnY, @if_pos _ (isWD (lnX M) 1) c158, hntX, tn_nI (by omega), ln1, if_pos c179]) hok)
set_option maxHeartbeats 4000000 in
theorem c_readLine (hT : TK M n a f) (hnt : M.2.1 21 1 = nI nt) (hnt2 : nt ≤ 24) (hq : M.2.1 21 2 = nI q) (hq2 : q ≤ 12) (hp : M.2.1 21 3 = nI p) (hp3 : 3 * p ≤ f + 2) : Con l G yX11_readLine cX11_readLine 3 none 9 0 0 [.ref o] (mw o ad G.2.1 M) (pV (mw o ad G.2.1 (lineM M n))) := by
  refine Con.mk (own := RX11) (by decide) rfl (Nat.le_of_ble_eq_true rfl) (fun X C => ?_)
  have hn9 := hT.1.2.2.2.2.2
  have han := hT.1.2.2.2.2.1
  have hfa0 := hT.1.2.2.2.1
  have hTA := TK_lnA hT
  have hTB := TK_lnB hTA
  obtain ⟨hTX, hX2, -⟩ := TK_lnX hT
  have hntX : (lnX M).2.1 21 1 = nI nt := by rw [hX2]; exact hnt
  have hqX : (lnX M).2.1 21 2 = nI q := by rw [hX2]; exact hq
  have hpX : (lnX M).2.1 21 3 = nI p := by rw [hX2]; exact hp
  have hmain := fun z => rl_main C hT hnt hnt2 hq hq2 hp hp3 z
  have g144 : ∀ (u : Unit), J X 3 0 0 (mw o ad G.2.1 (lnX M)) 144 [(0, .ref o)] [] := by
    intro u 
    refine j_aload_n 145 C dX11_readLine_144 rfl rfl ?_
    refine j_mI 148 C dX11_readLine_145 rfl cw11_142 rfl c_good rfl (by decide) rfl (Nat.le_of_ble_eq_true rfl) ?_
    refine j_if_neB 152 151 C dX11_readLine_148 (by decide) rfl (fun c148 => ?_) (fun c148 => ?_)
    · exact j_weak _ (by exact ⟨rfl, trivial⟩) (hmain c148)
    · exact j_vret C dX11_readLine_151 ⟨rfl, by rw [lineM, if_neg c148]⟩
  have g139 : ∀ (u : Unit), (isW (lnB (lnA M)) 1 ∧ (lnB (lnA M)).2.1 21 1 = nI 24) ∨ (isW (lnB (lnA M)) 2 ∧ (lnB (lnA M)).2.1 21 2 = nI 12) → J X 3 0 0 (mw o ad G.2.1 (lnB (lnA M))) 139 [(0, .ref o)] [] := by
    intro u hc
    refine j_aload_n 140 C dX11_readLine_139 rfl rfl ?_
    refine j_iconst 141 C dX11_readLine_140 rfl (v := nI 3) (by decide) ?_
    refine j_mV 144 C dX11_readLine_141 rfl cw11_166 rfl (c_errs _) rfl (by decide) rfl (Nat.le_of_ble_eq_true rfl) ?_
    refine j_ws (mw o ad G.2.1 (lnX M)) (by rw [lnX, lnC, if_pos hc]) ?_
    exact j_weak _ (by exact ⟨rfl, trivial⟩) (g144 ())
  have g119 : ∀ (u : Unit), ¬ (isW (lnB (lnA M)) 1 ∧ (lnB (lnA M)).2.1 21 1 = nI 24) → J X 3 0 0 (mw o ad G.2.1 (lnB (lnA M))) 119 [(0, .ref o)] [] := by
    intro u h1
    refine j_aload_n 120 C dX11_readLine_119 rfl rfl ?_
    refine j_ldcS 122 2 C dX11_readLine_120 rfl rfl ?_
    refine j_mI 125 C dX11_readLine_122 rfl cw11_156 rfl (c_isB hTB.1 2 (by decide)) rfl (by decide) rfl (Nat.le_of_ble_eq_true rfl) ?_
    refine j_if_eqW 144 128 C dX11_readLine_125 (by decide) rfl (fun c125 => ?_) (fun c125 => ?_)
    · refine j_ws (mw o ad G.2.1 (lnX M)) (by rw [lnX, lnC, if_neg (fun z => z.elim h1 (fun z => c125 z.1))]) ?_
      exact j_weak _ (by exact ⟨rfl, trivial⟩) (g144 ())
    · refine j_aload_n 129 C dX11_readLine_128 rfl rfl ?_
      refine rg_fresh 132 C dX11_readLine_129 rfl ?_
      refine j_iconst 133 C dX11_readLine_132 rfl (v := nI 2) (by decide) ?_
      refine ra_fresh 134 C dX11_readLine_133 rfl _ (by omega) rfl ?_
      refine j_bipush 136 C dX11_readLine_134 rfl (v := nI 12) (by decide) ?_
      refine j_icmp_ne 144 139 C dX11_readLine_136 (by decide) rfl (fun c136 => ?_) (fun c136 => ?_)
      · refine j_ws (mw o ad G.2.1 (lnX M)) (by rw [lnX, lnC, if_neg (fun z => z.elim h1 (fun z => c136 z.2))]) ?_
        exact j_weak _ (by exact ⟨rfl, trivial⟩) (g144 ())
      · exact j_weak _ (by exact ⟨rfl, trivial⟩) (g139 () (Or.inr ⟨c125, c136⟩))
  have g99 : ∀ (u : Unit), J X 3 0 0 (mw o ad G.2.1 (lnB (lnA M))) 99 [(0, .ref o)] [] := by
    intro u 
    refine j_aload_n 100 C dX11_readLine_99 rfl rfl ?_
    refine j_ldcS 102 1 C dX11_readLine_100 rfl rfl ?_
    refine j_mI 105 C dX11_readLine_102 rfl cw11_156 rfl (c_isB hTB.1 1 (by decide)) rfl (by decide) rfl (Nat.le_of_ble_eq_true rfl) ?_
    refine j_if_eqW 119 108 C dX11_readLine_105 (by decide) rfl (fun c105 => ?_) (fun c105 => ?_)
    · exact j_weak _ (by exact ⟨rfl, trivial⟩) (g119 () (fun z => c105 z.1))
    · refine j_aload_n 109 C dX11_readLine_108 rfl rfl ?_
      refine rg_fresh 112 C dX11_readLine_109 rfl ?_
      refine j_iconst 113 C dX11_readLine_112 rfl (v := nI 1) (by decide) ?_
      refine ra_fresh 114 C dX11_readLine_113 rfl _ (by omega) rfl ?_
      refine j_bipush 116 C dX11_readLine_114 rfl (v := nI 24) (by decide) ?_
      refine j_icmp_eq 139 119 C dX11_readLine_116 (by decide) rfl (fun c116 => ?_) (fun c116 => ?_)
      · exact j_weak _ (by exact ⟨rfl, trivial⟩) (g139 () (Or.inl ⟨c105, c116⟩))
      · exact j_weak _ (by exact ⟨rfl, trivial⟩) (g119 () (fun z => c116 z.2))
  have g78 : ∀ (u : Unit), J X 3 0 0 (mw o ad G.2.1 (lnA M)) 78 [(0, .ref o)] [] := by
    intro u 
    refine j_aload_n 79 C dX11_readLine_78 rfl rfl ?_
    refine j_ldcS 81 6 C dX11_readLine_79 rfl rfl ?_
    refine j_mI 84 C dX11_readLine_81 rfl cw11_156 rfl (c_isB hTA.1 6 (by decide)) rfl (by decide) rfl (Nat.le_of_ble_eq_true rfl) ?_
    refine j_if_eqW 99 87 C dX11_readLine_84 (by decide) rfl (fun c84 => ?_) (fun c84 => ?_)
    · refine j_ws (mw o ad G.2.1 (lnB (lnA M))) (by rw [lnB, if_neg (fun z => c84 z.1)]) ?_
      exact j_weak _ (by exact ⟨rfl, trivial⟩) (g99 ())
    · refine j_aload_n 88 C dX11_readLine_87 rfl rfl ?_
      refine rg_holdTold 91 C dX11_readLine_88 rfl ?_
      refine j_if_eq 99 94 C dX11_readLine_91 (by decide) rfl (fun c91 => ?_) (fun c91 => ?_)
      · refine j_ws (mw o ad G.2.1 (lnB (lnA M))) (by rw [lnB, if_neg (fun z => z.2 c91)]) ?_
        exact j_weak _ (by exact ⟨rfl, trivial⟩) (g99 ())
      · refine j_aload_n 95 C dX11_readLine_94 rfl rfl ?_
        refine j_iconst 96 C dX11_readLine_95 rfl (v := nI 2) (by decide) ?_
        refine j_mV 99 C dX11_readLine_96 rfl cw11_166 rfl (c_errs _) rfl (by decide) rfl (Nat.le_of_ble_eq_true rfl) ?_
        refine j_ws (mw o ad G.2.1 (lnB (lnA M))) (by rw [lnB, if_pos ⟨c84, c91⟩]) ?_
        exact j_weak _ (by exact ⟨rfl, trivial⟩) (g99 ())
  have g63 : ∀ (u : Unit), lnK M → J X 3 0 0 (mw o ad G.2.1 M) 63 [(0, .ref o)] [] := by
    intro u hk
    refine j_iconst 64 C dX11_readLine_63 rfl (v := nI 1) (by decide) ?_
    refine j_goto 68 C dX11_readLine_64 (by decide) ?_
    refine j_istore_n 69 C dX11_readLine_68 rfl rfl (by decide) ?_
    refine j_iload_n 70 C dX11_readLine_69 rfl rfl ?_
    refine j_if_neN 78 73 C dX11_readLine_70 (by decide) rfl (by omega) (fun c70 => ?_) (fun c70 => absurd c70 (by decide))
    refine j_ws (mw o ad G.2.1 (lnA M)) (by rw [lnA, if_pos hk]) ?_
    exact j_weak _ (by exact ⟨rfl, trivial⟩) (g78 ())
  refine j_aload_n 1 C dX11_readLine_0 rfl rfl ?_
  refine j_ldcS 3 1 C dX11_readLine_1 rfl rfl ?_
  refine j_mI 6 C dX11_readLine_3 rfl cw11_156 rfl (c_isB hT.1 1 (by decide)) rfl (by decide) rfl (Nat.le_of_ble_eq_true rfl) ?_
  refine j_if_neW 63 9 C dX11_readLine_6 (by decide) rfl (fun c6 => ?_) (fun c6 => ?_)
  · exact j_weak _ (by exact ⟨rfl, trivial⟩) (g63 () (Or.inl c6))
  · refine j_aload_n 10 C dX11_readLine_9 rfl rfl ?_
    refine j_ldcS 12 2 C dX11_readLine_10 rfl rfl ?_
    refine j_mI 15 C dX11_readLine_12 rfl cw11_156 rfl (c_isB hT.1 2 (by decide)) rfl (by decide) rfl (Nat.le_of_ble_eq_true rfl) ?_
    refine j_if_neW 63 18 C dX11_readLine_15 (by decide) rfl (fun c15 => ?_) (fun c15 => ?_)
    · exact j_weak _ (by exact ⟨rfl, trivial⟩) (g63 () (Or.inr (Or.inl c15)))
    · refine j_aload_n 19 C dX11_readLine_18 rfl rfl ?_
      refine j_ldcS 21 3 C dX11_readLine_19 rfl rfl ?_
      refine j_mI 24 C dX11_readLine_21 rfl cw11_156 rfl (c_isB hT.1 3 (by decide)) rfl (by decide) rfl (Nat.le_of_ble_eq_true rfl) ?_
      refine j_if_neW 63 27 C dX11_readLine_24 (by decide) rfl (fun c24 => ?_) (fun c24 => ?_)
      · exact j_weak _ (by exact ⟨rfl, trivial⟩) (g63 () (Or.inr (Or.inr (Or.inl c24))))
      · refine j_aload_n 28 C dX11_readLine_27 rfl rfl ?_
        refine j_ldcS 30 4 C dX11_readLine_28 rfl rfl ?_
        refine j_mI 33 C dX11_readLine_30 rfl cw11_156 rfl (c_isB hT.1 4 (by decide)) rfl (by decide) rfl (Nat.le_of_ble_eq_true rfl) ?_
        refine j_if_neW 63 36 C dX11_readLine_33 (by decide) rfl (fun c33 => ?_) (fun c33 => ?_)
        · exact j_weak _ (by exact ⟨rfl, trivial⟩) (g63 () (Or.inr (Or.inr (Or.inr (Or.inl c33)))))
        · refine j_aload_n 37 C dX11_readLine_36 rfl rfl ?_
          refine j_ldcS 39 5 C dX11_readLine_37 rfl rfl ?_
          refine j_mI 42 C dX11_readLine_39 rfl cw11_156 rfl (c_isB hT.1 5 (by decide)) rfl (by decide) rfl (Nat.le_of_ble_eq_true rfl) ?_
          refine j_if_neW 63 45 C dX11_readLine_42 (by decide) rfl (fun c42 => ?_) (fun c42 => ?_)
          · exact j_weak _ (by exact ⟨rfl, trivial⟩) (g63 () (Or.inr (Or.inr (Or.inr (Or.inr (Or.inl c42))))))
          · refine j_aload_n 46 C dX11_readLine_45 rfl rfl ?_
            refine j_ldcS 48 6 C dX11_readLine_46 rfl rfl ?_
            refine j_mI 51 C dX11_readLine_48 rfl cw11_156 rfl (c_isB hT.1 6 (by decide)) rfl (by decide) rfl (Nat.le_of_ble_eq_true rfl) ?_
            refine j_if_neW 63 54 C dX11_readLine_51 (by decide) rfl (fun c51 => ?_) (fun c51 => ?_)
            · exact j_weak _ (by exact ⟨rfl, trivial⟩) (g63 () (Or.inr (Or.inr (Or.inr (Or.inr (Or.inr (Or.inl c51)))))))
            · refine j_aload_n 55 C dX11_readLine_54 rfl rfl ?_
              refine j_ldcS 57 7 C dX11_readLine_55 rfl rfl ?_
              refine j_mI 60 C dX11_readLine_57 rfl cw11_156 rfl (c_isB hT.1 7 (by decide)) rfl (by decide) rfl (Nat.le_of_ble_eq_true rfl) ?_
              refine j_if_eqW 67 63 C dX11_readLine_60 (by decide) rfl (fun c60 => ?_) (fun c60 => ?_)
              · refine j_iconst 68 C dX11_readLine_67 rfl (v := nI 0) (by decide) ?_
                refine j_istore_n 69 C dX11_readLine_68 rfl rfl (by decide) ?_
                refine j_iload_n 70 C dX11_readLine_69 rfl rfl ?_
                refine j_if_neN 78 73 C dX11_readLine_70 (by decide) rfl (by omega) (fun c70 => absurd c70 (Nat.lt_irrefl _)) (fun c70 => ?_)
                refine j_aload_n 74 C dX11_readLine_73 rfl rfl ?_
                refine j_iconst 75 C dX11_readLine_74 rfl (v := nI 1) (by decide) ?_
                refine j_mV 78 C dX11_readLine_75 rfl cw11_166 rfl (c_errs _) rfl (by decide) rfl (Nat.le_of_ble_eq_true rfl) ?_
                refine j_ws (mw o ad G.2.1 (lnA M)) (by rw [lnA, if_neg (fun z => by obtain z | z | z | z | z | z | z := z; exact c6 z; exact c15 z; exact c24 z; exact c33 z; exact c42 z; exact c51 z; exact c60 z)]) ?_
                exact j_weak _ (by exact ⟨rfl, trivial⟩) (g78 ())
              · exact j_weak _ (by exact ⟨rfl, trivial⟩) (g63 () (Or.inr (Or.inr (Or.inr (Or.inr (Or.inr (Or.inr (c60))))))))
end S26
