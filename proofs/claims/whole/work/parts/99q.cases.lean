/-- the script, which no cell of the world holds -/
def SX (X : JX) (b L : Nat) (xs : Nat → Int32) : Prop := match X with
  | (p, l, e, R, s, m, args, below, meth, c, A, G, Q) => va_X b L xs s s.heap ∧ b < s.heap.size ∧ ¬ A b
section SL2
variable {X : JX} {l : Launch} {G : GG} {cc : ByteArray} {nL : Nat} {own : String} {rt : Option FieldType} {d mc ms : Nat} {post : Option Value → va_W → Prop} {k n pc : Nat} {lv : List (Nat × Value)} {st : List Value} {ws : va_W} {b L : Nat} {xs : Nat → Int32}
theorem j_ialdX (q : Nat) {y : Int32} (C : Cx X l G cc nL own rt d mc ms post) (hX : SX X b L xs) (hL : L ≤ 3072) (hd : decode cc pc = .ok (.iaload, 1)) (hq : pc + 1 = q) (i : Nat) (hi : i < L) (hy : y = nI i) (kk : J X nL k n ws q lv (.int (xs i) :: st)) : J X nL k n ws pc lv (.int y :: .ref b :: st) := by
  subst hq
  subst hy
  obtain ⟨p, l, e, R, s, m, args, below, meth, c, A, G, Q⟩ := X
  obtain ⟨hx, hb, hml, hown, hts, hK, hA, hlk, hrt, hR', hQ, hl0, hG, hEV⟩ := C
  obtain ⟨h1, h2, h3⟩ := hX
  intro H locs ls hP hD hS hl
  have hin : vp_in (nI i) L := fun z => z.elim (fun z => absurd z (nI_nlt (b := 0) (by omega) (by omega))) (fun z => by rw [nI_clamp (by omega)] at z; omega)
  have hk := kk H locs ls hP hD hS hl
  refine va_sld hx hb h1 h2 h3 hS hin hd ?_
  rw [nI_clamp (by omega)]
  exact hk
theorem j_alenX (q : Nat) (C : Cx X l G cc nL own rt d mc ms post) (hX : SX X b L xs) (hd : decode cc pc = .ok (.arraylength, 1)) (hq : pc + 1 = q) (kk : J X nL k n ws q lv (.int (nI L) :: st)) : J X nL k n ws pc lv (.ref b :: st) := by
  subst hq
  obtain ⟨p, l, e, R, s, m, args, below, meth, c, A, G, Q⟩ := X
  obtain ⟨hx, hb, hml, hown, hts, hK, hA, hlk, hrt, hR', hQ, hl0, hG, hEV⟩ := C
  obtain ⟨h1, h2, h3⟩ := hX
  intro H locs ls hP hD hS hl
  exact va_slen hx hb h1 h2 h3 hS hd (kk H locs ls hP hD hS hl)
section CallL
variable {y : MethodName} {cy : ByteArray} {mL idx np d' o : Nat} {rt' : Option FieldType} {As st0 : List Value} {w V : va_W}
theorem j_stc {Qp : Option Value → va_W → Prop} (q : Nat) (C : Cx X l G cc nL own rt d mc ms post) (hd : decode cc pc = .ok (.invokevirtual idx, 3)) (hq : pc + 3 = q) (hw : CW own idx y cy mL rt' np) (hS : Stc l G y cy mL rt' d' As w o Qp) (hy : y.cls = RX10) (hnp : As.length = np) (hdd : d' + 1 ≤ d) (hk : k + 26 ≤ mc ∧ n + 15339 ≤ ms) (hst : st0 = As.reverse ++ .ref o :: st) (hrm : (st.map fun v => v.category).sum ≤ 8) (kk : ∀ (v : Option Value) (w' : va_W), Qp v w' → J X nL (k + 26) (n + 15339) (w' ++ V) q lv (v.toList ++ st)) : J X nL k n (w ++ V) pc lv st0 := by
  obtain ⟨w0, mc', ms', d2, fs, P, hp, h0, ⟨h1, h2, h3⟩, hC, hPQ⟩ := hS
  refine j_perm (w0 ++ V) (hp.append_right V) ?_
  refine j_callM q C hd hq hw hC hnp ⟨by omega, by omega, by omega⟩ hst hrm [] V rfl 0 h0 (ci := 10) (T := TX10) (N := 9) (by rw [hy]; rfl) (fun v w' hp => ?_)
  exact j_widen (k + 26) (n + 15339) (by omega) (by omega) (kk v w' (hPQ v w' hp))
theorem j_rsc {ad : Nat → Nat} {M : MS} {Qp : Option Value → MS → Prop} (q : Nat) (C : Cx X l G cc nL own rt d mc ms post) (hd : decode cc pc = .ok (.invokevirtual idx, 3)) (hq : pc + 3 = q) (hw : CW own idx y cy mL rt' np) (hS : Rsc l G y cy mL rt' d' As o ad M Qp) (hy : y.cls = RX11) (hnp : As.length = np) (hdd : d' + 1 ≤ d) (hk : k ≤ mc ∧ n ≤ ms) (hst : st0 = As.reverse ++ .ref o :: st) (hrm : (st.map fun v => v.category).sum ≤ 8) (kk : ∀ (v : Option Value) (N : MS), Qp v N → J X nL k n (w ++ mw o ad G.2.1 N) q lv (v.toList ++ st)) : J X nL k n (w ++ mw o ad G.2.1 M) pc lv st0 := by
  obtain ⟨P, hC, hPQ⟩ := hS
  refine j_perm (mw o ad G.2.1 M ++ w) List.perm_append_comm ?_
  refine j_callM q C hd hq hw hC hnp ⟨by omega, by omega, by omega⟩ hst hrm [] w rfl 0 rfl (ci := 11) (T := TX11) (N := 38) (by rw [hy]; rfl) (fun v w' hp => ?_)
  obtain ⟨N, rfl, hQ⟩ := hPQ v w' hp
  exact j_perm (w ++ mw o ad G.2.1 N) (List.perm_append_comm (l₁ := mw o ad G.2.1 N) (l₂ := w)) (kk v N hQ)
end CallL
end SL2
section SL3
variable {X : JX} {l : Launch} {G : GG} {d mc ms : Nat} {post : Option Value → va_W → Prop} {k n b L i c o1 o2 : Nat} {xs : Nat → Int32} {ad : Nat → Nat} {M : MS} {w : va_W}
theorem lwc_0 (C : Cx X l G code 4 R_law (some .boolean) d mc ms post) (hd : 20 ≤ d) (hX : SX X b L xs) (hL : L ≤ 3072) (hi : i + 6 ≤ L) (hk : k + 26 ≤ mc ∧ n + 15339 ≤ ms) (hN : NR G M c o1 w) (hc : c ≤ 1000) (kk : ∀ (w' : va_W) (N : MS), NR G N (c + 1) o1 w' → J X 4 (k + 26) (n + 15339) (w' ++ mw o2 ad G.2.1 N) 1683 [(3, .int (nI i)), (2, .ref o2), (1, .ref o1), (0, .ref b)] []) : J X 4 k n (w ++ mw o2 ad G.2.1 M) 224 [(3, .int (nI i)), (2, .ref o2), (1, .ref o1), (0, .ref b)] [] := by
  refine j_aload_n 225 C dL_law_224 rfl rfl ?_
  refine j_aload_n 226 C dL_law_225 rfl rfl ?_
  refine j_iload_n 227 C dL_law_226 rfl rfl ?_
  refine j_iconst 228 C dL_law_227 rfl (v := nI 1) (by decide) ?_
  refine j_iaddN 229 C dL_law_228 rfl ?_
  refine j_ialdX 230 C hX hL dL_law_229 rfl _ (by omega) rfl ?_
  refine j_aload_n 231 C dL_law_230 rfl rfl ?_
  refine j_iload_n 232 C dL_law_231 rfl rfl ?_
  refine j_iconst 233 C dL_law_232 rfl (v := nI 2) (by decide) ?_
  refine j_iaddN 234 C dL_law_233 rfl ?_
  refine j_ialdX 235 C hX hL dL_law_234 rfl _ (by omega) rfl ?_
  refine j_aload_n 236 C dL_law_235 rfl rfl ?_
  refine j_iload_n 237 C dL_law_236 rfl rfl ?_
  refine j_iconst 238 C dL_law_237 rfl (v := nI 3) (by decide) ?_
  refine j_iaddN 239 C dL_law_238 rfl ?_
  refine j_ialdX 240 C hX hL dL_law_239 rfl _ (by omega) rfl ?_
  refine j_aload_n 241 C dL_law_240 rfl rfl ?_
  refine j_iload_n 242 C dL_law_241 rfl rfl ?_
  refine j_iconst 243 C dL_law_242 rfl (v := nI 4) (by decide) ?_
  refine j_iaddN 244 C dL_law_243 rfl ?_
  refine j_ialdX 245 C hX hL dL_law_244 rfl _ (by omega) rfl ?_
  refine j_aload_n 246 C dL_law_245 rfl rfl ?_
  refine j_iload_n 247 C dL_law_246 rfl rfl ?_
  refine j_iconst 248 C dL_law_247 rfl (v := nI 5) (by decide) ?_
  refine j_iaddN 249 C dL_law_248 rfl ?_
  refine j_ialdX 250 C hX hL dL_law_249 rfl _ (by omega) rfl ?_
  refine j_stc 253 C dL_law_250 rfl cwL_13 (cs_feed hN hc) rfl rfl (by omega) hk rfl (Nat.le_of_ble_eq_true rfl) (fun v w1 hv => ?_)
  obtain ⟨rfl, hN1⟩ := hv
  refine j_aload_n 254 C dL_law_253 rfl rfl ?_
  refine j_aload_n 255 C dL_law_254 rfl rfl ?_
  refine j_iload_n 256 C dL_law_255 rfl rfl ?_
  refine j_iconst 257 C dL_law_256 rfl (v := nI 1) (by decide) ?_
  refine j_iaddN 258 C dL_law_257 rfl ?_
  refine j_ialdX 259 C hX hL dL_law_258 rfl _ (by omega) rfl ?_
  refine j_aload_n 260 C dL_law_259 rfl rfl ?_
  refine j_iload_n 261 C dL_law_260 rfl rfl ?_
  refine j_iconst 262 C dL_law_261 rfl (v := nI 2) (by decide) ?_
  refine j_iaddN 263 C dL_law_262 rfl ?_
  refine j_ialdX 264 C hX hL dL_law_263 rfl _ (by omega) rfl ?_
  refine j_aload_n 265 C dL_law_264 rfl rfl ?_
  refine j_iload_n 266 C dL_law_265 rfl rfl ?_
  refine j_iconst 267 C dL_law_266 rfl (v := nI 3) (by decide) ?_
  refine j_iaddN 268 C dL_law_267 rfl ?_
  refine j_ialdX 269 C hX hL dL_law_268 rfl _ (by omega) rfl ?_
  refine j_aload_n 270 C dL_law_269 rfl rfl ?_
  refine j_iload_n 271 C dL_law_270 rfl rfl ?_
  refine j_iconst 272 C dL_law_271 rfl (v := nI 4) (by decide) ?_
  refine j_iaddN 273 C dL_law_272 rfl ?_
  refine j_ialdX 274 C hX hL dL_law_273 rfl _ (by omega) rfl ?_
  refine j_aload_n 275 C dL_law_274 rfl rfl ?_
  refine j_iload_n 276 C dL_law_275 rfl rfl ?_
  refine j_iconst 277 C dL_law_276 rfl (v := nI 5) (by decide) ?_
  refine j_iaddN 278 C dL_law_277 rfl ?_
  refine j_ialdX 279 C hX hL dL_law_278 rfl _ (by omega) rfl ?_
  refine j_rsc 282 C dL_law_279 rfl cwL_17 (rq_feed (NR_rf hN)) rfl rfl (by omega) hk rfl (Nat.le_of_ble_eq_true rfl) (fun v N hv => ?_)
  obtain ⟨rfl, hE⟩ := hv
  refine j_icmp_eq 1683 285 C dL_law_282 (by decide) rfl (fun _ => ?_) (fun z => absurd rfl z)
  exact kk w1 N (NR_m (NR_eq hN1 hE) (by omega))
theorem lwc_1 (C : Cx X l G code 4 R_law (some .boolean) d mc ms post) (hd : 20 ≤ d) (hX : SX X b L xs) (hL : L ≤ 3072) (hi : i + 6 ≤ L) (hk : k + 26 ≤ mc ∧ n + 15339 ≤ ms) (hN : NR G M c o1 w) (hc : c ≤ 1000) (kk : ∀ (w' : va_W) (N : MS), NR G N (c + 1) o1 w' → J X 4 (k + 26) (n + 15339) (w' ++ mw o2 ad G.2.1 N) 1683 [(3, .int (nI i)), (2, .ref o2), (1, .ref o1), (0, .ref b)] []) : J X 4 k n (w ++ mw o2 ad G.2.1 M) 287 [(3, .int (nI i)), (2, .ref o2), (1, .ref o1), (0, .ref b)] [] := by
  refine j_aload_n 288 C dL_law_287 rfl rfl ?_
  refine j_aload_n 289 C dL_law_288 rfl rfl ?_
  refine j_iload_n 290 C dL_law_289 rfl rfl ?_
  refine j_iconst 291 C dL_law_290 rfl (v := nI 1) (by decide) ?_
  refine j_iaddN 292 C dL_law_291 rfl ?_
  refine j_ialdX 293 C hX hL dL_law_292 rfl _ (by omega) rfl ?_
  refine j_stc 296 C dL_law_293 rfl cwL_18 (cs_end hN hc) rfl rfl (by omega) hk rfl (Nat.le_of_ble_eq_true rfl) (fun v w1 hv => ?_)
  obtain ⟨rfl, hN1⟩ := hv
  refine j_aload_n 297 C dL_law_296 rfl rfl ?_
  refine j_aload_n 298 C dL_law_297 rfl rfl ?_
  refine j_iload_n 299 C dL_law_298 rfl rfl ?_
  refine j_iconst 300 C dL_law_299 rfl (v := nI 1) (by decide) ?_
  refine j_iaddN 301 C dL_law_300 rfl ?_
  refine j_ialdX 302 C hX hL dL_law_301 rfl _ (by omega) rfl ?_
  refine j_rsc 305 C dL_law_302 rfl cwL_22 (rq_end (NR_rf hN)) rfl rfl (by omega) hk rfl (Nat.le_of_ble_eq_true rfl) (fun v N hv => ?_)
  obtain ⟨rfl, hE⟩ := hv
  refine j_icmp_eq 1683 308 C dL_law_305 (by decide) rfl (fun _ => ?_) (fun z => absurd rfl z)
  exact kk w1 N (NR_m (NR_eq hN1 hE) (by omega))
theorem lwc_2 (C : Cx X l G code 4 R_law (some .boolean) d mc ms post) (hd : 20 ≤ d) (hX : SX X b L xs) (hL : L ≤ 3072) (hi : i + 6 ≤ L) (hk : k + 26 ≤ mc ∧ n + 15339 ≤ ms) (hN : NR G M c o1 w) (hc : c ≤ 1000) (kk : ∀ (w' : va_W) (N : MS), NR G N (c + 1) o1 w' → J X 4 (k + 26) (n + 15339) (w' ++ mw o2 ad G.2.1 N) 1683 [(3, .int (nI i)), (2, .ref o2), (1, .ref o1), (0, .ref b)] []) : J X 4 k n (w ++ mw o2 ad G.2.1 M) 310 [(3, .int (nI i)), (2, .ref o2), (1, .ref o1), (0, .ref b)] [] := by
  refine j_aload_n 311 C dL_law_310 rfl rfl ?_
  refine j_stc 314 C dL_law_311 rfl cwL_23 (cs_text hN hc) rfl rfl (by omega) hk rfl (Nat.le_of_ble_eq_true rfl) (fun v w1 hv => ?_)
  obtain ⟨rfl, hN1⟩ := hv
  refine j_aload_n 315 C dL_law_314 rfl rfl ?_
  refine j_rsc 318 C dL_law_315 rfl cwL_27 (rq_text (NR_rf hN)) rfl rfl (by omega) hk rfl (Nat.le_of_ble_eq_true rfl) (fun v N hv => ?_)
  obtain ⟨rfl, hE⟩ := hv
  refine j_icmp_eq 1683 321 C dL_law_318 (by decide) rfl (fun _ => ?_) (fun z => absurd rfl z)
  exact kk w1 N (NR_m (NR_eq hN1 hE) (by omega))
theorem lwc_3 (C : Cx X l G code 4 R_law (some .boolean) d mc ms post) (hd : 20 ≤ d) (hX : SX X b L xs) (hL : L ≤ 3072) (hi : i + 6 ≤ L) (hk : k + 26 ≤ mc ∧ n + 15339 ≤ ms) (hN : NR G M c o1 w) (hc : c ≤ 1000) (kk : ∀ (w' : va_W) (N : MS), NR G N (c + 1) o1 w' → J X 4 (k + 26) (n + 15339) (w' ++ mw o2 ad G.2.1 N) 1683 [(3, .int (nI i)), (2, .ref o2), (1, .ref o1), (0, .ref b)] []) : J X 4 k n (w ++ mw o2 ad G.2.1 M) 323 [(3, .int (nI i)), (2, .ref o2), (1, .ref o1), (0, .ref b)] [] := by
  refine j_aload_n 324 C dL_law_323 rfl rfl ?_
  refine j_aload_n 325 C dL_law_324 rfl rfl ?_
  refine j_iload_n 326 C dL_law_325 rfl rfl ?_
  refine j_iconst 327 C dL_law_326 rfl (v := nI 1) (by decide) ?_
  refine j_iaddN 328 C dL_law_327 rfl ?_
  refine j_ialdX 329 C hX hL dL_law_328 rfl _ (by omega) rfl ?_
  refine j_stc 332 C dL_law_329 rfl cwL_28 (cs_fault hN hc) rfl rfl (by omega) hk rfl (Nat.le_of_ble_eq_true rfl) (fun v w1 hv => ?_)
  obtain ⟨rfl, hN1⟩ := hv
  refine j_aload_n 333 C dL_law_332 rfl rfl ?_
  refine j_aload_n 334 C dL_law_333 rfl rfl ?_
  refine j_iload_n 335 C dL_law_334 rfl rfl ?_
  refine j_iconst 336 C dL_law_335 rfl (v := nI 1) (by decide) ?_
  refine j_iaddN 337 C dL_law_336 rfl ?_
  refine j_ialdX 338 C hX hL dL_law_337 rfl _ (by omega) rfl ?_
  refine j_rsc 341 C dL_law_338 rfl cwL_31 (rq_fault (NR_rf hN)) rfl rfl (by omega) hk rfl (Nat.le_of_ble_eq_true rfl) (fun v N hv => ?_)
  obtain ⟨rfl, hE⟩ := hv
  refine j_icmp_eq 1683 344 C dL_law_341 (by decide) rfl (fun _ => ?_) (fun z => absurd rfl z)
  exact kk w1 N (NR_m (NR_eq hN1 hE) (by omega))
theorem lwc_4 (C : Cx X l G code 4 R_law (some .boolean) d mc ms post) (hd : 20 ≤ d) (hX : SX X b L xs) (hL : L ≤ 3072) (hi : i + 6 ≤ L) (hk : k + 26 ≤ mc ∧ n + 15339 ≤ ms) (hN : NR G M c o1 w) (hc : c ≤ 1000) (kk : ∀ (w' : va_W) (N : MS), NR G N (c + 1) o1 w' → J X 4 (k + 26) (n + 15339) (w' ++ mw o2 ad G.2.1 N) 1683 [(3, .int (nI i)), (2, .ref o2), (1, .ref o1), (0, .ref b)] []) : J X 4 k n (w ++ mw o2 ad G.2.1 M) 346 [(3, .int (nI i)), (2, .ref o2), (1, .ref o1), (0, .ref b)] [] := by
  refine j_aload_n 347 C dL_law_346 rfl rfl ?_
  refine j_aload_n 348 C dL_law_347 rfl rfl ?_
  refine j_iload_n 349 C dL_law_348 rfl rfl ?_
  refine j_iconst 350 C dL_law_349 rfl (v := nI 1) (by decide) ?_
  refine j_iaddN 351 C dL_law_350 rfl ?_
  refine j_ialdX 352 C hX hL dL_law_351 rfl _ (by omega) rfl ?_
  refine j_aload_n 353 C dL_law_352 rfl rfl ?_
  refine j_iload_n 354 C dL_law_353 rfl rfl ?_
  refine j_iconst 355 C dL_law_354 rfl (v := nI 2) (by decide) ?_
  refine j_iaddN 356 C dL_law_355 rfl ?_
  refine j_ialdX 357 C hX hL dL_law_356 rfl _ (by omega) rfl ?_
  refine j_stc 360 C dL_law_357 rfl cwL_32 (cs_read hN hc) rfl rfl (by omega) hk rfl (Nat.le_of_ble_eq_true rfl) (fun v w1 hv => ?_)
  obtain ⟨rfl, hN1⟩ := hv
  refine j_aload_n 361 C dL_law_360 rfl rfl ?_
  refine j_aload_n 362 C dL_law_361 rfl rfl ?_
  refine j_iload_n 363 C dL_law_362 rfl rfl ?_
  refine j_iconst 364 C dL_law_363 rfl (v := nI 1) (by decide) ?_
  refine j_iaddN 365 C dL_law_364 rfl ?_
  refine j_ialdX 366 C hX hL dL_law_365 rfl _ (by omega) rfl ?_
  refine j_aload_n 367 C dL_law_366 rfl rfl ?_
  refine j_iload_n 368 C dL_law_367 rfl rfl ?_
  refine j_iconst 369 C dL_law_368 rfl (v := nI 2) (by decide) ?_
  refine j_iaddN 370 C dL_law_369 rfl ?_
  refine j_ialdX 371 C hX hL dL_law_370 rfl _ (by omega) rfl ?_
  refine j_rsc 374 C dL_law_371 rfl cwL_36 (rq_read (NR_rf hN)) rfl rfl (by omega) hk rfl (Nat.le_of_ble_eq_true rfl) (fun v N hv => ?_)
  obtain ⟨rfl, hE⟩ := hv
  refine j_icmp_eq 1683 377 C dL_law_374 (by decide) rfl (fun _ => ?_) (fun z => absurd rfl z)
  exact kk w1 N (NR_m (NR_eq hN1 hE) (by omega))
theorem lwc_5 (C : Cx X l G code 4 R_law (some .boolean) d mc ms post) (hd : 20 ≤ d) (hX : SX X b L xs) (hL : L ≤ 3072) (hi : i + 6 ≤ L) (hk : k + 26 ≤ mc ∧ n + 15339 ≤ ms) (hN : NR G M c o1 w) (hc : c ≤ 1000) (kk : ∀ (w' : va_W) (N : MS), NR G N (c + 1) o1 w' → J X 4 (k + 26) (n + 15339) (w' ++ mw o2 ad G.2.1 N) 1683 [(3, .int (nI i)), (2, .ref o2), (1, .ref o1), (0, .ref b)] []) : J X 4 k n (w ++ mw o2 ad G.2.1 M) 379 [(3, .int (nI i)), (2, .ref o2), (1, .ref o1), (0, .ref b)] [] := by
  refine j_aload_n 380 C dL_law_379 rfl rfl ?_
  refine j_aload_n 381 C dL_law_380 rfl rfl ?_
  refine j_iload_n 382 C dL_law_381 rfl rfl ?_
  refine j_iconst 383 C dL_law_382 rfl (v := nI 1) (by decide) ?_
  refine j_iaddN 384 C dL_law_383 rfl ?_
  refine j_ialdX 385 C hX hL dL_law_384 rfl _ (by omega) rfl ?_
  refine j_stc 388 C dL_law_385 rfl cwL_37 (cs_learn hN hc) rfl rfl (by omega) hk rfl (Nat.le_of_ble_eq_true rfl) (fun v w1 hv => ?_)
  obtain ⟨rfl, hN1⟩ := hv
  refine j_aload_n 389 C dL_law_388 rfl rfl ?_
  refine j_aload_n 390 C dL_law_389 rfl rfl ?_
  refine j_iload_n 391 C dL_law_390 rfl rfl ?_
  refine j_iconst 392 C dL_law_391 rfl (v := nI 1) (by decide) ?_
  refine j_iaddN 393 C dL_law_392 rfl ?_
  refine j_ialdX 394 C hX hL dL_law_393 rfl _ (by omega) rfl ?_
  refine j_rsc 397 C dL_law_394 rfl cwL_40 (rq_learn (NR_rf hN)) rfl rfl (by omega) hk rfl (Nat.le_of_ble_eq_true rfl) (fun v N hv => ?_)
  obtain ⟨rfl, hE⟩ := hv
  refine j_icmp_eq 1683 400 C dL_law_397 (by decide) rfl (fun _ => ?_) (fun z => absurd rfl z)
  exact kk w1 N (NR_m (NR_eq hN1 hE) (by omega))
theorem lwc_6 (C : Cx X l G code 4 R_law (some .boolean) d mc ms post) (hd : 20 ≤ d) (hX : SX X b L xs) (hL : L ≤ 3072) (hi : i + 6 ≤ L) (hk : k + 26 ≤ mc ∧ n + 15339 ≤ ms) (hN : NR G M c o1 w) (hc : c ≤ 1000) (kk : ∀ (w' : va_W) (N : MS), NR G N (c + 1) o1 w' → J X 4 (k + 26) (n + 15339) (w' ++ mw o2 ad G.2.1 N) 1683 [(3, .int (nI i)), (2, .ref o2), (1, .ref o1), (0, .ref b)] []) : J X 4 k n (w ++ mw o2 ad G.2.1 M) 402 [(3, .int (nI i)), (2, .ref o2), (1, .ref o1), (0, .ref b)] [] := by
  refine j_aload_n 403 C dL_law_402 rfl rfl ?_
  refine j_aload_n 404 C dL_law_403 rfl rfl ?_
  refine j_iload_n 405 C dL_law_404 rfl rfl ?_
  refine j_iconst 406 C dL_law_405 rfl (v := nI 1) (by decide) ?_
  refine j_iaddN 407 C dL_law_406 rfl ?_
  refine j_ialdX 408 C hX hL dL_law_407 rfl _ (by omega) rfl ?_
  refine j_stc 411 C dL_law_408 rfl cwL_41 (cs_waits hN hc) rfl rfl (by omega) hk rfl (Nat.le_of_ble_eq_true rfl) (fun v w1 hv => ?_)
  obtain ⟨rfl, hN1⟩ := hv
  refine j_aload_n 412 C dL_law_411 rfl rfl ?_
  refine j_aload_n 413 C dL_law_412 rfl rfl ?_
  refine j_iload_n 414 C dL_law_413 rfl rfl ?_
  refine j_iconst 415 C dL_law_414 rfl (v := nI 1) (by decide) ?_
  refine j_iaddN 416 C dL_law_415 rfl ?_
  refine j_ialdX 417 C hX hL dL_law_416 rfl _ (by omega) rfl ?_
  refine j_rsc 420 C dL_law_417 rfl cwL_44 (rq_waits (NR_rf hN)) rfl rfl (by omega) hk rfl (Nat.le_of_ble_eq_true rfl) (fun v N hv => ?_)
  obtain ⟨rfl, hE⟩ := hv
  refine j_icmp_eq 1683 423 C dL_law_420 (by decide) rfl (fun _ => ?_) (fun z => absurd rfl z)
  exact kk w1 N (NR_m (NR_eq hN1 hE) (by omega))
theorem lwc_7 (C : Cx X l G code 4 R_law (some .boolean) d mc ms post) (hd : 20 ≤ d) (hX : SX X b L xs) (hL : L ≤ 3072) (hi : i + 6 ≤ L) (hk : k + 26 ≤ mc ∧ n + 15339 ≤ ms) (hN : NR G M c o1 w) (hc : c ≤ 1000) (kk : ∀ (w' : va_W) (N : MS), NR G N (c + 1) o1 w' → J X 4 (k + 26) (n + 15339) (w' ++ mw o2 ad G.2.1 N) 1683 [(3, .int (nI i)), (2, .ref o2), (1, .ref o1), (0, .ref b)] []) : J X 4 k n (w ++ mw o2 ad G.2.1 M) 425 [(3, .int (nI i)), (2, .ref o2), (1, .ref o1), (0, .ref b)] [] := by
  refine j_aload_n 426 C dL_law_425 rfl rfl ?_
  refine j_aload_n 427 C dL_law_426 rfl rfl ?_
  refine j_iload_n 428 C dL_law_427 rfl rfl ?_
  refine j_iconst 429 C dL_law_428 rfl (v := nI 1) (by decide) ?_
  refine j_iaddN 430 C dL_law_429 rfl ?_
  refine j_ialdX 431 C hX hL dL_law_430 rfl _ (by omega) rfl ?_
  refine j_aload_n 432 C dL_law_431 rfl rfl ?_
  refine j_iload_n 433 C dL_law_432 rfl rfl ?_
  refine j_iconst 434 C dL_law_433 rfl (v := nI 2) (by decide) ?_
  refine j_iaddN 435 C dL_law_434 rfl ?_
  refine j_ialdX 436 C hX hL dL_law_435 rfl _ (by omega) rfl ?_
  refine j_aload_n 437 C dL_law_436 rfl rfl ?_
  refine j_iload_n 438 C dL_law_437 rfl rfl ?_
  refine j_iconst 439 C dL_law_438 rfl (v := nI 3) (by decide) ?_
  refine j_iaddN 440 C dL_law_439 rfl ?_
  refine j_ialdX 441 C hX hL dL_law_440 rfl _ (by omega) rfl ?_
  refine j_stc 444 C dL_law_441 rfl cwL_45 (cs_strength hN hc) rfl rfl (by omega) hk rfl (Nat.le_of_ble_eq_true rfl) (fun v w1 hv => ?_)
  obtain ⟨rfl, hN1⟩ := hv
  refine j_aload_n 445 C dL_law_444 rfl rfl ?_
  refine j_aload_n 446 C dL_law_445 rfl rfl ?_
  refine j_iload_n 447 C dL_law_446 rfl rfl ?_
  refine j_iconst 448 C dL_law_447 rfl (v := nI 1) (by decide) ?_
  refine j_iaddN 449 C dL_law_448 rfl ?_
  refine j_ialdX 450 C hX hL dL_law_449 rfl _ (by omega) rfl ?_
  refine j_aload_n 451 C dL_law_450 rfl rfl ?_
  refine j_iload_n 452 C dL_law_451 rfl rfl ?_
  refine j_iconst 453 C dL_law_452 rfl (v := nI 2) (by decide) ?_
  refine j_iaddN 454 C dL_law_453 rfl ?_
  refine j_ialdX 455 C hX hL dL_law_454 rfl _ (by omega) rfl ?_
  refine j_aload_n 456 C dL_law_455 rfl rfl ?_
  refine j_iload_n 457 C dL_law_456 rfl rfl ?_
  refine j_iconst 458 C dL_law_457 rfl (v := nI 3) (by decide) ?_
  refine j_iaddN 459 C dL_law_458 rfl ?_
  refine j_ialdX 460 C hX hL dL_law_459 rfl _ (by omega) rfl ?_
  refine j_rsc 463 C dL_law_460 rfl cwL_49 (rq_strength (NR_rf hN)) rfl rfl (by omega) hk rfl (Nat.le_of_ble_eq_true rfl) (fun v N hv => ?_)
  obtain ⟨rfl, hE⟩ := hv
  refine j_icmp_eq 1683 466 C dL_law_463 (by decide) rfl (fun _ => ?_) (fun z => absurd rfl z)
  exact kk w1 N (NR_m (NR_eq hN1 hE) (by omega))
theorem lwc_8 (C : Cx X l G code 4 R_law (some .boolean) d mc ms post) (hd : 20 ≤ d) (hX : SX X b L xs) (hL : L ≤ 3072) (hi : i + 6 ≤ L) (hk : k + 26 ≤ mc ∧ n + 15339 ≤ ms) (hN : NR G M c o1 w) (hc : c ≤ 1000) (kk : ∀ (w' : va_W) (N : MS), NR G N (c + 1) o1 w' → J X 4 (k + 26) (n + 15339) (w' ++ mw o2 ad G.2.1 N) 1683 [(3, .int (nI i)), (2, .ref o2), (1, .ref o1), (0, .ref b)] []) : J X 4 k n (w ++ mw o2 ad G.2.1 M) 468 [(3, .int (nI i)), (2, .ref o2), (1, .ref o1), (0, .ref b)] [] := by
  refine j_aload_n 469 C dL_law_468 rfl rfl ?_
  refine j_aload_n 470 C dL_law_469 rfl rfl ?_
  refine j_iload_n 471 C dL_law_470 rfl rfl ?_
  refine j_iconst 472 C dL_law_471 rfl (v := nI 1) (by decide) ?_
  refine j_iaddN 473 C dL_law_472 rfl ?_
  refine j_ialdX 474 C hX hL dL_law_473 rfl _ (by omega) rfl ?_
  refine j_stc 477 C dL_law_474 rfl cwL_50 (cs_links hN hc) rfl rfl (by omega) hk rfl (Nat.le_of_ble_eq_true rfl) (fun v w1 hv => ?_)
  obtain ⟨rfl, hN1⟩ := hv
  refine j_aload_n 478 C dL_law_477 rfl rfl ?_
  refine j_aload_n 479 C dL_law_478 rfl rfl ?_
  refine j_iload_n 480 C dL_law_479 rfl rfl ?_
  refine j_iconst 481 C dL_law_480 rfl (v := nI 1) (by decide) ?_
  refine j_iaddN 482 C dL_law_481 rfl ?_
  refine j_ialdX 483 C hX hL dL_law_482 rfl _ (by omega) rfl ?_
  refine j_rsc 486 C dL_law_483 rfl cwL_53 (rq_links (NR_rf hN)) rfl rfl (by omega) hk rfl (Nat.le_of_ble_eq_true rfl) (fun v N hv => ?_)
  obtain ⟨rfl, hE⟩ := hv
  refine j_icmp_eq 1683 489 C dL_law_486 (by decide) rfl (fun _ => ?_) (fun z => absurd rfl z)
  exact kk w1 N (NR_m (NR_eq hN1 hE) (by omega))
theorem lwc_9 (C : Cx X l G code 4 R_law (some .boolean) d mc ms post) (hd : 20 ≤ d) (hX : SX X b L xs) (hL : L ≤ 3072) (hi : i + 6 ≤ L) (hk : k + 26 ≤ mc ∧ n + 15339 ≤ ms) (hN : NR G M c o1 w) (hc : c ≤ 1000) (kk : ∀ (w' : va_W) (N : MS), NR G N (c + 1) o1 w' → J X 4 (k + 26) (n + 15339) (w' ++ mw o2 ad G.2.1 N) 1683 [(3, .int (nI i)), (2, .ref o2), (1, .ref o1), (0, .ref b)] []) : J X 4 k n (w ++ mw o2 ad G.2.1 M) 491 [(3, .int (nI i)), (2, .ref o2), (1, .ref o1), (0, .ref b)] [] := by
  refine j_aload_n 492 C dL_law_491 rfl rfl ?_
  refine j_aload_n 493 C dL_law_492 rfl rfl ?_
  refine j_iload_n 494 C dL_law_493 rfl rfl ?_
  refine j_iconst 495 C dL_law_494 rfl (v := nI 1) (by decide) ?_
  refine j_iaddN 496 C dL_law_495 rfl ?_
  refine j_ialdX 497 C hX hL dL_law_496 rfl _ (by omega) rfl ?_
  refine j_aload_n 498 C dL_law_497 rfl rfl ?_
  refine j_iload_n 499 C dL_law_498 rfl rfl ?_
  refine j_iconst 500 C dL_law_499 rfl (v := nI 2) (by decide) ?_
  refine j_iaddN 501 C dL_law_500 rfl ?_
  refine j_ialdX 502 C hX hL dL_law_501 rfl _ (by omega) rfl ?_
  refine j_stc 505 C dL_law_502 rfl cwL_54 (cs_support hN hc) rfl rfl (by omega) hk rfl (Nat.le_of_ble_eq_true rfl) (fun v w1 hv => ?_)
  obtain ⟨rfl, hN1⟩ := hv
  refine j_aload_n 506 C dL_law_505 rfl rfl ?_
  refine j_aload_n 507 C dL_law_506 rfl rfl ?_
  refine j_iload_n 508 C dL_law_507 rfl rfl ?_
  refine j_iconst 509 C dL_law_508 rfl (v := nI 1) (by decide) ?_
  refine j_iaddN 510 C dL_law_509 rfl ?_
  refine j_ialdX 511 C hX hL dL_law_510 rfl _ (by omega) rfl ?_
  refine j_aload_n 512 C dL_law_511 rfl rfl ?_
  refine j_iload_n 513 C dL_law_512 rfl rfl ?_
  refine j_iconst 514 C dL_law_513 rfl (v := nI 2) (by decide) ?_
  refine j_iaddN 515 C dL_law_514 rfl ?_
  refine j_ialdX 516 C hX hL dL_law_515 rfl _ (by omega) rfl ?_
  refine j_rsc 519 C dL_law_516 rfl cwL_57 (rq_support (NR_rf hN)) rfl rfl (by omega) hk rfl (Nat.le_of_ble_eq_true rfl) (fun v N hv => ?_)
  obtain ⟨rfl, hE⟩ := hv
  refine j_icmp_eq 1683 522 C dL_law_519 (by decide) rfl (fun _ => ?_) (fun z => absurd rfl z)
  exact kk w1 N (NR_m (NR_eq hN1 hE) (by omega))
theorem lwc_10 (C : Cx X l G code 4 R_law (some .boolean) d mc ms post) (hd : 20 ≤ d) (hX : SX X b L xs) (hL : L ≤ 3072) (hi : i + 6 ≤ L) (hk : k + 26 ≤ mc ∧ n + 15339 ≤ ms) (hN : NR G M c o1 w) (hc : c ≤ 1000) (kk : ∀ (w' : va_W) (N : MS), NR G N (c + 1) o1 w' → J X 4 (k + 26) (n + 15339) (w' ++ mw o2 ad G.2.1 N) 1683 [(3, .int (nI i)), (2, .ref o2), (1, .ref o1), (0, .ref b)] []) : J X 4 k n (w ++ mw o2 ad G.2.1 M) 524 [(3, .int (nI i)), (2, .ref o2), (1, .ref o1), (0, .ref b)] [] := by
  refine j_aload_n 525 C dL_law_524 rfl rfl ?_
  refine j_aload_n 526 C dL_law_525 rfl rfl ?_
  refine j_iload_n 527 C dL_law_526 rfl rfl ?_
  refine j_iconst 528 C dL_law_527 rfl (v := nI 1) (by decide) ?_
  refine j_iaddN 529 C dL_law_528 rfl ?_
  refine j_ialdX 530 C hX hL dL_law_529 rfl _ (by omega) rfl ?_
  refine j_stc 533 C dL_law_530 rfl cwL_58 (cs_slips hN hc) rfl rfl (by omega) hk rfl (Nat.le_of_ble_eq_true rfl) (fun v w1 hv => ?_)
  obtain ⟨rfl, hN1⟩ := hv
  refine j_aload_n 534 C dL_law_533 rfl rfl ?_
  refine j_aload_n 535 C dL_law_534 rfl rfl ?_
  refine j_iload_n 536 C dL_law_535 rfl rfl ?_
  refine j_iconst 537 C dL_law_536 rfl (v := nI 1) (by decide) ?_
  refine j_iaddN 538 C dL_law_537 rfl ?_
  refine j_ialdX 539 C hX hL dL_law_538 rfl _ (by omega) rfl ?_
  refine j_rsc 542 C dL_law_539 rfl cwL_61 (rq_slips (NR_rf hN)) rfl rfl (by omega) hk rfl (Nat.le_of_ble_eq_true rfl) (fun v N hv => ?_)
  obtain ⟨rfl, hE⟩ := hv
  refine j_icmp_eq 1683 545 C dL_law_542 (by decide) rfl (fun _ => ?_) (fun z => absurd rfl z)
  exact kk w1 N (NR_m (NR_eq hN1 hE) (by omega))
theorem lwc_11 (C : Cx X l G code 4 R_law (some .boolean) d mc ms post) (hd : 20 ≤ d) (hX : SX X b L xs) (hL : L ≤ 3072) (hi : i + 6 ≤ L) (hk : k + 26 ≤ mc ∧ n + 15339 ≤ ms) (hN : NR G M c o1 w) (hc : c ≤ 1000) (kk : ∀ (w' : va_W) (N : MS), NR G N (c + 1) o1 w' → J X 4 (k + 26) (n + 15339) (w' ++ mw o2 ad G.2.1 N) 1683 [(3, .int (nI i)), (2, .ref o2), (1, .ref o1), (0, .ref b)] []) : J X 4 k n (w ++ mw o2 ad G.2.1 M) 547 [(3, .int (nI i)), (2, .ref o2), (1, .ref o1), (0, .ref b)] [] := by
  refine j_aload_n 548 C dL_law_547 rfl rfl ?_
  refine j_aload_n 549 C dL_law_548 rfl rfl ?_
  refine j_iload_n 550 C dL_law_549 rfl rfl ?_
  refine j_iconst 551 C dL_law_550 rfl (v := nI 1) (by decide) ?_
  refine j_iaddN 552 C dL_law_551 rfl ?_
  refine j_ialdX 553 C hX hL dL_law_552 rfl _ (by omega) rfl ?_
  refine j_stc 556 C dL_law_553 rfl cwL_62 (cs_needs hN hc) rfl rfl (by omega) hk rfl (Nat.le_of_ble_eq_true rfl) (fun v w1 hv => ?_)
  obtain ⟨rfl, hN1⟩ := hv
  refine j_aload_n 557 C dL_law_556 rfl rfl ?_
  refine j_aload_n 558 C dL_law_557 rfl rfl ?_
  refine j_iload_n 559 C dL_law_558 rfl rfl ?_
  refine j_iconst 560 C dL_law_559 rfl (v := nI 1) (by decide) ?_
  refine j_iaddN 561 C dL_law_560 rfl ?_
  refine j_ialdX 562 C hX hL dL_law_561 rfl _ (by omega) rfl ?_
  refine j_rsc 565 C dL_law_562 rfl cwL_65 (rq_needs (NR_rf hN)) rfl rfl (by omega) hk rfl (Nat.le_of_ble_eq_true rfl) (fun v N hv => ?_)
  obtain ⟨rfl, hE⟩ := hv
  refine j_icmp_eq 1683 568 C dL_law_565 (by decide) rfl (fun _ => ?_) (fun z => absurd rfl z)
  exact kk w1 N (NR_m (NR_eq hN1 hE) (by omega))
theorem lwc_12 (C : Cx X l G code 4 R_law (some .boolean) d mc ms post) (hd : 20 ≤ d) (hX : SX X b L xs) (hL : L ≤ 3072) (hi : i + 6 ≤ L) (hk : k + 26 ≤ mc ∧ n + 15339 ≤ ms) (hN : NR G M c o1 w) (hc : c ≤ 1000) (kk : ∀ (w' : va_W) (N : MS), NR G N (c + 1) o1 w' → J X 4 (k + 26) (n + 15339) (w' ++ mw o2 ad G.2.1 N) 1683 [(3, .int (nI i)), (2, .ref o2), (1, .ref o1), (0, .ref b)] []) : J X 4 k n (w ++ mw o2 ad G.2.1 M) 570 [(3, .int (nI i)), (2, .ref o2), (1, .ref o1), (0, .ref b)] [] := by
  refine j_aload_n 571 C dL_law_570 rfl rfl ?_
  refine j_aload_n 572 C dL_law_571 rfl rfl ?_
  refine j_iload_n 573 C dL_law_572 rfl rfl ?_
  refine j_iconst 574 C dL_law_573 rfl (v := nI 1) (by decide) ?_
  refine j_iaddN 575 C dL_law_574 rfl ?_
  refine j_ialdX 576 C hX hL dL_law_575 rfl _ (by omega) rfl ?_
  refine j_stc 579 C dL_law_576 rfl cwL_66 (cs_fresh hN hc) rfl rfl (by omega) hk rfl (Nat.le_of_ble_eq_true rfl) (fun v w1 hv => ?_)
  obtain ⟨rfl, hN1⟩ := hv
  refine j_aload_n 580 C dL_law_579 rfl rfl ?_
  refine j_aload_n 581 C dL_law_580 rfl rfl ?_
  refine j_iload_n 582 C dL_law_581 rfl rfl ?_
  refine j_iconst 583 C dL_law_582 rfl (v := nI 1) (by decide) ?_
  refine j_iaddN 584 C dL_law_583 rfl ?_
  refine j_ialdX 585 C hX hL dL_law_584 rfl _ (by omega) rfl ?_
  refine j_rsc 588 C dL_law_585 rfl cwL_69 (rq_fresh (NR_rf hN)) rfl rfl (by omega) hk rfl (Nat.le_of_ble_eq_true rfl) (fun v N hv => ?_)
  obtain ⟨rfl, hE⟩ := hv
  refine j_icmp_eq 1683 591 C dL_law_588 (by decide) rfl (fun _ => ?_) (fun z => absurd rfl z)
  exact kk w1 N (NR_m (NR_eq hN1 hE) (by omega))
theorem lwc_13 (C : Cx X l G code 4 R_law (some .boolean) d mc ms post) (hd : 20 ≤ d) (hX : SX X b L xs) (hL : L ≤ 3072) (hi : i + 6 ≤ L) (hk : k + 26 ≤ mc ∧ n + 15339 ≤ ms) (hN : NR G M c o1 w) (hc : c ≤ 1000) (kk : ∀ (w' : va_W) (N : MS), NR G N (c + 1) o1 w' → J X 4 (k + 26) (n + 15339) (w' ++ mw o2 ad G.2.1 N) 1683 [(3, .int (nI i)), (2, .ref o2), (1, .ref o1), (0, .ref b)] []) : J X 4 k n (w ++ mw o2 ad G.2.1 M) 593 [(3, .int (nI i)), (2, .ref o2), (1, .ref o1), (0, .ref b)] [] := by
  refine j_aload_n 594 C dL_law_593 rfl rfl ?_
  refine j_aload_n 595 C dL_law_594 rfl rfl ?_
  refine j_iload_n 596 C dL_law_595 rfl rfl ?_
  refine j_iconst 597 C dL_law_596 rfl (v := nI 1) (by decide) ?_
  refine j_iaddN 598 C dL_law_597 rfl ?_
  refine j_ialdX 599 C hX hL dL_law_598 rfl _ (by omega) rfl ?_
  refine j_stc 602 C dL_law_599 rfl cwL_70 (cs_saving hN hc) rfl rfl (by omega) hk rfl (Nat.le_of_ble_eq_true rfl) (fun v w1 hv => ?_)
  obtain ⟨rfl, hN1⟩ := hv
  refine j_aload_n 603 C dL_law_602 rfl rfl ?_
  refine j_aload_n 604 C dL_law_603 rfl rfl ?_
  refine j_iload_n 605 C dL_law_604 rfl rfl ?_
  refine j_iconst 606 C dL_law_605 rfl (v := nI 1) (by decide) ?_
  refine j_iaddN 607 C dL_law_606 rfl ?_
  refine j_ialdX 608 C hX hL dL_law_607 rfl _ (by omega) rfl ?_
  refine j_rsc 611 C dL_law_608 rfl cwL_73 (rq_saving (NR_rf hN)) rfl rfl (by omega) hk rfl (Nat.le_of_ble_eq_true rfl) (fun v N hv => ?_)
  obtain ⟨rfl, hE⟩ := hv
  refine j_icmp_eq 1683 614 C dL_law_611 (by decide) rfl (fun _ => ?_) (fun z => absurd rfl z)
  exact kk w1 N (NR_m (NR_eq hN1 hE) (by omega))
theorem lwc_14 (C : Cx X l G code 4 R_law (some .boolean) d mc ms post) (hd : 20 ≤ d) (hX : SX X b L xs) (hL : L ≤ 3072) (hi : i + 6 ≤ L) (hk : k + 26 ≤ mc ∧ n + 15339 ≤ ms) (hN : NR G M c o1 w) (hc : c ≤ 1000) (kk : ∀ (w' : va_W) (N : MS), NR G N (c + 1) o1 w' → J X 4 (k + 26) (n + 15339) (w' ++ mw o2 ad G.2.1 N) 1683 [(3, .int (nI i)), (2, .ref o2), (1, .ref o1), (0, .ref b)] []) : J X 4 k n (w ++ mw o2 ad G.2.1 M) 616 [(3, .int (nI i)), (2, .ref o2), (1, .ref o1), (0, .ref b)] [] := by
  refine j_aload_n 617 C dL_law_616 rfl rfl ?_
  refine j_aload_n 618 C dL_law_617 rfl rfl ?_
  refine j_iload_n 619 C dL_law_618 rfl rfl ?_
  refine j_iconst 620 C dL_law_619 rfl (v := nI 1) (by decide) ?_
  refine j_iaddN 621 C dL_law_620 rfl ?_
  refine j_ialdX 622 C hX hL dL_law_621 rfl _ (by omega) rfl ?_
  refine j_aload_n 623 C dL_law_622 rfl rfl ?_
  refine j_iload_n 624 C dL_law_623 rfl rfl ?_
  refine j_iconst 625 C dL_law_624 rfl (v := nI 2) (by decide) ?_
  refine j_iaddN 626 C dL_law_625 rfl ?_
  refine j_ialdX 627 C hX hL dL_law_626 rfl _ (by omega) rfl ?_
  refine j_stc 630 C dL_law_627 rfl cwL_74 (cs_after hN hc) rfl rfl (by omega) hk rfl (Nat.le_of_ble_eq_true rfl) (fun v w1 hv => ?_)
  obtain ⟨rfl, hN1⟩ := hv
  refine j_aload_n 631 C dL_law_630 rfl rfl ?_
  refine j_aload_n 632 C dL_law_631 rfl rfl ?_
  refine j_iload_n 633 C dL_law_632 rfl rfl ?_
  refine j_iconst 634 C dL_law_633 rfl (v := nI 1) (by decide) ?_
  refine j_iaddN 635 C dL_law_634 rfl ?_
  refine j_ialdX 636 C hX hL dL_law_635 rfl _ (by omega) rfl ?_
  refine j_aload_n 637 C dL_law_636 rfl rfl ?_
  refine j_iload_n 638 C dL_law_637 rfl rfl ?_
  refine j_iconst 639 C dL_law_638 rfl (v := nI 2) (by decide) ?_
  refine j_iaddN 640 C dL_law_639 rfl ?_
  refine j_ialdX 641 C hX hL dL_law_640 rfl _ (by omega) rfl ?_
  refine j_rsc 644 C dL_law_641 rfl cwL_77 (rq_after (NR_rf hN)) rfl rfl (by omega) hk rfl (Nat.le_of_ble_eq_true rfl) (fun v N hv => ?_)
  obtain ⟨rfl, hE⟩ := hv
  refine j_icmp_eq 1683 647 C dL_law_644 (by decide) rfl (fun _ => ?_) (fun z => absurd rfl z)
  exact kk w1 N (NR_m (NR_eq hN1 hE) (by omega))
theorem lwc_15 (C : Cx X l G code 4 R_law (some .boolean) d mc ms post) (hd : 20 ≤ d) (hX : SX X b L xs) (hL : L ≤ 3072) (hi : i + 6 ≤ L) (hk : k + 26 ≤ mc ∧ n + 15339 ≤ ms) (hN : NR G M c o1 w) (hc : c ≤ 1000) (kk : ∀ (w' : va_W) (N : MS), NR G N (c + 1) o1 w' → J X 4 (k + 26) (n + 15339) (w' ++ mw o2 ad G.2.1 N) 1683 [(3, .int (nI i)), (2, .ref o2), (1, .ref o1), (0, .ref b)] []) : J X 4 k n (w ++ mw o2 ad G.2.1 M) 649 [(3, .int (nI i)), (2, .ref o2), (1, .ref o1), (0, .ref b)] [] := by
  refine j_aload_n 650 C dL_law_649 rfl rfl ?_
  refine j_aload_n 651 C dL_law_650 rfl rfl ?_
  refine j_iload_n 652 C dL_law_651 rfl rfl ?_
  refine j_iconst 653 C dL_law_652 rfl (v := nI 1) (by decide) ?_
  refine j_iaddN 654 C dL_law_653 rfl ?_
  refine j_ialdX 655 C hX hL dL_law_654 rfl _ (by omega) rfl ?_
  refine j_stc 658 C dL_law_655 rfl cwL_78 (cs_lasts hN hc) rfl rfl (by omega) hk rfl (Nat.le_of_ble_eq_true rfl) (fun v w1 hv => ?_)
  obtain ⟨rfl, hN1⟩ := hv
  refine j_aload_n 659 C dL_law_658 rfl rfl ?_
  refine j_aload_n 660 C dL_law_659 rfl rfl ?_
  refine j_iload_n 661 C dL_law_660 rfl rfl ?_
  refine j_iconst 662 C dL_law_661 rfl (v := nI 1) (by decide) ?_
  refine j_iaddN 663 C dL_law_662 rfl ?_
  refine j_ialdX 664 C hX hL dL_law_663 rfl _ (by omega) rfl ?_
  refine j_rsc 667 C dL_law_664 rfl cwL_81 (rq_lasts (NR_rf hN)) rfl rfl (by omega) hk rfl (Nat.le_of_ble_eq_true rfl) (fun v N hv => ?_)
  obtain ⟨rfl, hE⟩ := hv
  refine j_icmp_eq 1683 670 C dL_law_667 (by decide) rfl (fun _ => ?_) (fun z => absurd rfl z)
  exact kk w1 N (NR_m (NR_eq hN1 hE) (by omega))
theorem lwc_16 (C : Cx X l G code 4 R_law (some .boolean) d mc ms post) (hd : 20 ≤ d) (hX : SX X b L xs) (hL : L ≤ 3072) (hi : i + 6 ≤ L) (hk : k + 26 ≤ mc ∧ n + 15339 ≤ ms) (hN : NR G M c o1 w) (hc : c ≤ 1000) (kk : ∀ (w' : va_W) (N : MS), NR G N (c + 1) o1 w' → J X 4 (k + 26) (n + 15339) (w' ++ mw o2 ad G.2.1 N) 1683 [(3, .int (nI i)), (2, .ref o2), (1, .ref o1), (0, .ref b)] []) : J X 4 k n (w ++ mw o2 ad G.2.1 M) 672 [(3, .int (nI i)), (2, .ref o2), (1, .ref o1), (0, .ref b)] [] := by
  refine j_aload_n 673 C dL_law_672 rfl rfl ?_
  refine j_aload_n 674 C dL_law_673 rfl rfl ?_
  refine j_iload_n 675 C dL_law_674 rfl rfl ?_
  refine j_iconst 676 C dL_law_675 rfl (v := nI 1) (by decide) ?_
  refine j_iaddN 677 C dL_law_676 rfl ?_
  refine j_ialdX 678 C hX hL dL_law_677 rfl _ (by omega) rfl ?_
  refine j_stc 681 C dL_law_678 rfl cwL_82 (cs_gone hN hc) rfl rfl (by omega) hk rfl (Nat.le_of_ble_eq_true rfl) (fun v w1 hv => ?_)
  obtain ⟨rfl, hN1⟩ := hv
  refine j_aload_n 682 C dL_law_681 rfl rfl ?_
  refine j_aload_n 683 C dL_law_682 rfl rfl ?_
  refine j_iload_n 684 C dL_law_683 rfl rfl ?_
  refine j_iconst 685 C dL_law_684 rfl (v := nI 1) (by decide) ?_
  refine j_iaddN 686 C dL_law_685 rfl ?_
  refine j_ialdX 687 C hX hL dL_law_686 rfl _ (by omega) rfl ?_
  refine j_rsc 690 C dL_law_687 rfl cwL_85 (rq_gone (NR_rf hN)) rfl rfl (by omega) hk rfl (Nat.le_of_ble_eq_true rfl) (fun v N hv => ?_)
  obtain ⟨rfl, hE⟩ := hv
  refine j_icmp_eq 1683 693 C dL_law_690 (by decide) rfl (fun _ => ?_) (fun z => absurd rfl z)
  exact kk w1 N (NR_m (NR_eq hN1 hE) (by omega))
theorem lwc_17 (C : Cx X l G code 4 R_law (some .boolean) d mc ms post) (hd : 20 ≤ d) (hX : SX X b L xs) (hL : L ≤ 3072) (hi : i + 6 ≤ L) (hk : k + 26 ≤ mc ∧ n + 15339 ≤ ms) (hN : NR G M c o1 w) (hc : c ≤ 1000) (kk : ∀ (w' : va_W) (N : MS), NR G N (c + 1) o1 w' → J X 4 (k + 26) (n + 15339) (w' ++ mw o2 ad G.2.1 N) 1683 [(3, .int (nI i)), (2, .ref o2), (1, .ref o1), (0, .ref b)] []) : J X 4 k n (w ++ mw o2 ad G.2.1 M) 695 [(3, .int (nI i)), (2, .ref o2), (1, .ref o1), (0, .ref b)] [] := by
  refine j_aload_n 696 C dL_law_695 rfl rfl ?_
  refine j_aload_n 697 C dL_law_696 rfl rfl ?_
  refine j_iload_n 698 C dL_law_697 rfl rfl ?_
  refine j_iconst 699 C dL_law_698 rfl (v := nI 1) (by decide) ?_
  refine j_iaddN 700 C dL_law_699 rfl ?_
  refine j_ialdX 701 C hX hL dL_law_700 rfl _ (by omega) rfl ?_
  refine j_aload_n 702 C dL_law_701 rfl rfl ?_
  refine j_iload_n 703 C dL_law_702 rfl rfl ?_
  refine j_iconst 704 C dL_law_703 rfl (v := nI 2) (by decide) ?_
  refine j_iaddN 705 C dL_law_704 rfl ?_
  refine j_ialdX 706 C hX hL dL_law_705 rfl _ (by omega) rfl ?_
  refine j_stc 709 C dL_law_706 rfl cwL_86 (cs_without hN hc) rfl rfl (by omega) hk rfl (Nat.le_of_ble_eq_true rfl) (fun v w1 hv => ?_)
  obtain ⟨rfl, hN1⟩ := hv
  refine j_aload_n 710 C dL_law_709 rfl rfl ?_
  refine j_aload_n 711 C dL_law_710 rfl rfl ?_
  refine j_iload_n 712 C dL_law_711 rfl rfl ?_
  refine j_iconst 713 C dL_law_712 rfl (v := nI 1) (by decide) ?_
  refine j_iaddN 714 C dL_law_713 rfl ?_
  refine j_ialdX 715 C hX hL dL_law_714 rfl _ (by omega) rfl ?_
  refine j_aload_n 716 C dL_law_715 rfl rfl ?_
  refine j_iload_n 717 C dL_law_716 rfl rfl ?_
  refine j_iconst 718 C dL_law_717 rfl (v := nI 2) (by decide) ?_
  refine j_iaddN 719 C dL_law_718 rfl ?_
  refine j_ialdX 720 C hX hL dL_law_719 rfl _ (by omega) rfl ?_
  refine j_rsc 723 C dL_law_720 rfl cwL_89 (rq_without (NR_rf hN)) rfl rfl (by omega) hk rfl (Nat.le_of_ble_eq_true rfl) (fun v N hv => ?_)
  obtain ⟨rfl, hE⟩ := hv
  refine j_icmp_eq 1683 726 C dL_law_723 (by decide) rfl (fun _ => ?_) (fun z => absurd rfl z)
  exact kk w1 N (NR_m (NR_eq hN1 hE) (by omega))
theorem lwc_18 (C : Cx X l G code 4 R_law (some .boolean) d mc ms post) (hd : 20 ≤ d) (hX : SX X b L xs) (hL : L ≤ 3072) (hi : i + 6 ≤ L) (hk : k + 26 ≤ mc ∧ n + 15339 ≤ ms) (hN : NR G M c o1 w) (hc : c ≤ 1000) (kk : ∀ (w' : va_W) (N : MS), NR G N (c + 1) o1 w' → J X 4 (k + 26) (n + 15339) (w' ++ mw o2 ad G.2.1 N) 1683 [(3, .int (nI i)), (2, .ref o2), (1, .ref o1), (0, .ref b)] []) : J X 4 k n (w ++ mw o2 ad G.2.1 M) 728 [(3, .int (nI i)), (2, .ref o2), (1, .ref o1), (0, .ref b)] [] := by
  refine j_aload_n 729 C dL_law_728 rfl rfl ?_
  refine j_aload_n 730 C dL_law_729 rfl rfl ?_
  refine j_iload_n 731 C dL_law_730 rfl rfl ?_
  refine j_iconst 732 C dL_law_731 rfl (v := nI 1) (by decide) ?_
  refine j_iaddN 733 C dL_law_732 rfl ?_
  refine j_ialdX 734 C hX hL dL_law_733 rfl _ (by omega) rfl ?_
  refine j_aload_n 735 C dL_law_734 rfl rfl ?_
  refine j_iload_n 736 C dL_law_735 rfl rfl ?_
  refine j_iconst 737 C dL_law_736 rfl (v := nI 2) (by decide) ?_
  refine j_iaddN 738 C dL_law_737 rfl ?_
  refine j_ialdX 739 C hX hL dL_law_738 rfl _ (by omega) rfl ?_
  refine j_aload_n 740 C dL_law_739 rfl rfl ?_
  refine j_iload_n 741 C dL_law_740 rfl rfl ?_
  refine j_iconst 742 C dL_law_741 rfl (v := nI 3) (by decide) ?_
  refine j_iaddN 743 C dL_law_742 rfl ?_
  refine j_ialdX 744 C hX hL dL_law_743 rfl _ (by omega) rfl ?_
  refine j_stc 747 C dL_law_744 rfl cwL_90 (cs_between hN hc) rfl rfl (by omega) hk rfl (Nat.le_of_ble_eq_true rfl) (fun v w1 hv => ?_)
  obtain ⟨rfl, hN1⟩ := hv
  refine j_aload_n 748 C dL_law_747 rfl rfl ?_
  refine j_aload_n 749 C dL_law_748 rfl rfl ?_
  refine j_iload_n 750 C dL_law_749 rfl rfl ?_
  refine j_iconst 751 C dL_law_750 rfl (v := nI 1) (by decide) ?_
  refine j_iaddN 752 C dL_law_751 rfl ?_
  refine j_ialdX 753 C hX hL dL_law_752 rfl _ (by omega) rfl ?_
  refine j_aload_n 754 C dL_law_753 rfl rfl ?_
  refine j_iload_n 755 C dL_law_754 rfl rfl ?_
  refine j_iconst 756 C dL_law_755 rfl (v := nI 2) (by decide) ?_
  refine j_iaddN 757 C dL_law_756 rfl ?_
  refine j_ialdX 758 C hX hL dL_law_757 rfl _ (by omega) rfl ?_
  refine j_aload_n 759 C dL_law_758 rfl rfl ?_
  refine j_iload_n 760 C dL_law_759 rfl rfl ?_
  refine j_iconst 761 C dL_law_760 rfl (v := nI 3) (by decide) ?_
  refine j_iaddN 762 C dL_law_761 rfl ?_
  refine j_ialdX 763 C hX hL dL_law_762 rfl _ (by omega) rfl ?_
  refine j_rsc 766 C dL_law_763 rfl cwL_93 (rq_between (NR_rf hN)) rfl rfl (by omega) hk rfl (Nat.le_of_ble_eq_true rfl) (fun v N hv => ?_)
  obtain ⟨rfl, hE⟩ := hv
  refine j_icmp_eq 1683 769 C dL_law_766 (by decide) rfl (fun _ => ?_) (fun z => absurd rfl z)
  exact kk w1 N (NR_m (NR_eq hN1 hE) (by omega))
theorem lwc_19 (C : Cx X l G code 4 R_law (some .boolean) d mc ms post) (hd : 20 ≤ d) (hX : SX X b L xs) (hL : L ≤ 3072) (hi : i + 6 ≤ L) (hk : k + 26 ≤ mc ∧ n + 15339 ≤ ms) (hN : NR G M c o1 w) (hc : c ≤ 1000) (kk : ∀ (w' : va_W) (N : MS), NR G N (c + 1) o1 w' → J X 4 (k + 26) (n + 15339) (w' ++ mw o2 ad G.2.1 N) 1683 [(3, .int (nI i)), (2, .ref o2), (1, .ref o1), (0, .ref b)] []) : J X 4 k n (w ++ mw o2 ad G.2.1 M) 771 [(3, .int (nI i)), (2, .ref o2), (1, .ref o1), (0, .ref b)] [] := by
  refine j_aload_n 772 C dL_law_771 rfl rfl ?_
  refine j_aload_n 773 C dL_law_772 rfl rfl ?_
  refine j_iload_n 774 C dL_law_773 rfl rfl ?_
  refine j_iconst 775 C dL_law_774 rfl (v := nI 1) (by decide) ?_
  refine j_iaddN 776 C dL_law_775 rfl ?_
  refine j_ialdX 777 C hX hL dL_law_776 rfl _ (by omega) rfl ?_
  refine j_aload_n 778 C dL_law_777 rfl rfl ?_
  refine j_iload_n 779 C dL_law_778 rfl rfl ?_
  refine j_iconst 780 C dL_law_779 rfl (v := nI 2) (by decide) ?_
  refine j_iaddN 781 C dL_law_780 rfl ?_
  refine j_ialdX 782 C hX hL dL_law_781 rfl _ (by omega) rfl ?_
  refine j_aload_n 783 C dL_law_782 rfl rfl ?_
  refine j_iload_n 784 C dL_law_783 rfl rfl ?_
  refine j_iconst 785 C dL_law_784 rfl (v := nI 3) (by decide) ?_
  refine j_iaddN 786 C dL_law_785 rfl ?_
  refine j_ialdX 787 C hX hL dL_law_786 rfl _ (by omega) rfl ?_
  refine j_stc 790 C dL_law_787 rfl cwL_94 (cs_evening hN hc) rfl rfl (by omega) hk rfl (Nat.le_of_ble_eq_true rfl) (fun v w1 hv => ?_)
  obtain ⟨rfl, hN1⟩ := hv
  refine j_aload_n 791 C dL_law_790 rfl rfl ?_
  refine j_aload_n 792 C dL_law_791 rfl rfl ?_
  refine j_iload_n 793 C dL_law_792 rfl rfl ?_
  refine j_iconst 794 C dL_law_793 rfl (v := nI 1) (by decide) ?_
  refine j_iaddN 795 C dL_law_794 rfl ?_
  refine j_ialdX 796 C hX hL dL_law_795 rfl _ (by omega) rfl ?_
  refine j_aload_n 797 C dL_law_796 rfl rfl ?_
  refine j_iload_n 798 C dL_law_797 rfl rfl ?_
  refine j_iconst 799 C dL_law_798 rfl (v := nI 2) (by decide) ?_
  refine j_iaddN 800 C dL_law_799 rfl ?_
  refine j_ialdX 801 C hX hL dL_law_800 rfl _ (by omega) rfl ?_
  refine j_aload_n 802 C dL_law_801 rfl rfl ?_
  refine j_iload_n 803 C dL_law_802 rfl rfl ?_
  refine j_iconst 804 C dL_law_803 rfl (v := nI 3) (by decide) ?_
  refine j_iaddN 805 C dL_law_804 rfl ?_
  refine j_ialdX 806 C hX hL dL_law_805 rfl _ (by omega) rfl ?_
  refine j_rsc 809 C dL_law_806 rfl cwL_97 (rq_evening (NR_rf hN)) rfl rfl (by omega) hk rfl (Nat.le_of_ble_eq_true rfl) (fun v N hv => ?_)
  obtain ⟨rfl, hE⟩ := hv
  refine j_icmp_eq 1683 812 C dL_law_809 (by decide) rfl (fun _ => ?_) (fun z => absurd rfl z)
  exact kk w1 N (NR_m (NR_eq hN1 hE) (by omega))
theorem lwc_20 (C : Cx X l G code 4 R_law (some .boolean) d mc ms post) (hd : 20 ≤ d) (hX : SX X b L xs) (hL : L ≤ 3072) (hi : i + 6 ≤ L) (hk : k + 26 ≤ mc ∧ n + 15339 ≤ ms) (hN : NR G M c o1 w) (hc : c ≤ 1000) (kk : ∀ (w' : va_W) (N : MS), NR G N (c + 1) o1 w' → J X 4 (k + 26) (n + 15339) (w' ++ mw o2 ad G.2.1 N) 1683 [(3, .int (nI i)), (2, .ref o2), (1, .ref o1), (0, .ref b)] []) : J X 4 k n (w ++ mw o2 ad G.2.1 M) 814 [(3, .int (nI i)), (2, .ref o2), (1, .ref o1), (0, .ref b)] [] := by
  refine j_aload_n 815 C dL_law_814 rfl rfl ?_
  refine j_aload_n 816 C dL_law_815 rfl rfl ?_
  refine j_iload_n 817 C dL_law_816 rfl rfl ?_
  refine j_iconst 818 C dL_law_817 rfl (v := nI 1) (by decide) ?_
  refine j_iaddN 819 C dL_law_818 rfl ?_
  refine j_ialdX 820 C hX hL dL_law_819 rfl _ (by omega) rfl ?_
  refine j_stc 823 C dL_law_820 rfl cwL_98 (cs_when hN hc) rfl rfl (by omega) hk rfl (Nat.le_of_ble_eq_true rfl) (fun v w1 hv => ?_)
  obtain ⟨rfl, hN1⟩ := hv
  refine j_aload_n 824 C dL_law_823 rfl rfl ?_
  refine j_aload_n 825 C dL_law_824 rfl rfl ?_
  refine j_iload_n 826 C dL_law_825 rfl rfl ?_
  refine j_iconst 827 C dL_law_826 rfl (v := nI 1) (by decide) ?_
  refine j_iaddN 828 C dL_law_827 rfl ?_
  refine j_ialdX 829 C hX hL dL_law_828 rfl _ (by omega) rfl ?_
  refine j_rsc 832 C dL_law_829 rfl cwL_101 (rq_when (NR_rf hN)) rfl rfl (by omega) hk rfl (Nat.le_of_ble_eq_true rfl) (fun v N hv => ?_)
  obtain ⟨rfl, hE⟩ := hv
  refine j_icmp_eq 1683 835 C dL_law_832 (by decide) rfl (fun _ => ?_) (fun z => absurd rfl z)
  exact kk w1 N (NR_m (NR_eq hN1 hE) (by omega))
theorem lwc_21 (C : Cx X l G code 4 R_law (some .boolean) d mc ms post) (hd : 20 ≤ d) (hX : SX X b L xs) (hL : L ≤ 3072) (hi : i + 6 ≤ L) (hk : k + 26 ≤ mc ∧ n + 15339 ≤ ms) (hN : NR G M c o1 w) (hc : c ≤ 1000) (kk : ∀ (w' : va_W) (N : MS), NR G N (c + 1) o1 w' → J X 4 (k + 26) (n + 15339) (w' ++ mw o2 ad G.2.1 N) 1683 [(3, .int (nI i)), (2, .ref o2), (1, .ref o1), (0, .ref b)] []) : J X 4 k n (w ++ mw o2 ad G.2.1 M) 837 [(3, .int (nI i)), (2, .ref o2), (1, .ref o1), (0, .ref b)] [] := by
  refine j_aload_n 838 C dL_law_837 rfl rfl ?_
  refine j_aload_n 839 C dL_law_838 rfl rfl ?_
  refine j_iload_n 840 C dL_law_839 rfl rfl ?_
  refine j_iconst 841 C dL_law_840 rfl (v := nI 1) (by decide) ?_
  refine j_iaddN 842 C dL_law_841 rfl ?_
  refine j_ialdX 843 C hX hL dL_law_842 rfl _ (by omega) rfl ?_
  refine j_stc 846 C dL_law_843 rfl cwL_102 (cs_must hN hc) rfl rfl (by omega) hk rfl (Nat.le_of_ble_eq_true rfl) (fun v w1 hv => ?_)
  obtain ⟨rfl, hN1⟩ := hv
  refine j_aload_n 847 C dL_law_846 rfl rfl ?_
  refine j_aload_n 848 C dL_law_847 rfl rfl ?_
  refine j_iload_n 849 C dL_law_848 rfl rfl ?_
  refine j_iconst 850 C dL_law_849 rfl (v := nI 1) (by decide) ?_
  refine j_iaddN 851 C dL_law_850 rfl ?_
  refine j_ialdX 852 C hX hL dL_law_851 rfl _ (by omega) rfl ?_
  refine j_rsc 855 C dL_law_852 rfl cwL_105 (rq_must (NR_rf hN)) rfl rfl (by omega) hk rfl (Nat.le_of_ble_eq_true rfl) (fun v N hv => ?_)
  obtain ⟨rfl, hE⟩ := hv
  refine j_icmp_eq 1683 858 C dL_law_855 (by decide) rfl (fun _ => ?_) (fun z => absurd rfl z)
  exact kk w1 N (NR_m (NR_eq hN1 hE) (by omega))
theorem lwc_22 (C : Cx X l G code 4 R_law (some .boolean) d mc ms post) (hd : 20 ≤ d) (hX : SX X b L xs) (hL : L ≤ 3072) (hi : i + 6 ≤ L) (hk : k + 26 ≤ mc ∧ n + 15339 ≤ ms) (hN : NR G M c o1 w) (hc : c ≤ 1000) (kk : ∀ (w' : va_W) (N : MS), NR G N (c + 1) o1 w' → J X 4 (k + 26) (n + 15339) (w' ++ mw o2 ad G.2.1 N) 1683 [(3, .int (nI i)), (2, .ref o2), (1, .ref o1), (0, .ref b)] []) : J X 4 k n (w ++ mw o2 ad G.2.1 M) 860 [(3, .int (nI i)), (2, .ref o2), (1, .ref o1), (0, .ref b)] [] := by
  refine j_aload_n 861 C dL_law_860 rfl rfl ?_
  refine j_aload_n 862 C dL_law_861 rfl rfl ?_
  refine j_iload_n 863 C dL_law_862 rfl rfl ?_
  refine j_iconst 864 C dL_law_863 rfl (v := nI 1) (by decide) ?_
  refine j_iaddN 865 C dL_law_864 rfl ?_
  refine j_ialdX 866 C hX hL dL_law_865 rfl _ (by omega) rfl ?_
  refine j_aload_n 867 C dL_law_866 rfl rfl ?_
  refine j_iload_n 868 C dL_law_867 rfl rfl ?_
  refine j_iconst 869 C dL_law_868 rfl (v := nI 2) (by decide) ?_
  refine j_iaddN 870 C dL_law_869 rfl ?_
  refine j_ialdX 871 C hX hL dL_law_870 rfl _ (by omega) rfl ?_
  refine j_stc 874 C dL_law_871 rfl cwL_106 (cs_verse hN hc) rfl rfl (by omega) hk rfl (Nat.le_of_ble_eq_true rfl) (fun v w1 hv => ?_)
  obtain ⟨rfl, hN1⟩ := hv
  refine j_aload_n 875 C dL_law_874 rfl rfl ?_
  refine j_aload_n 876 C dL_law_875 rfl rfl ?_
  refine j_iload_n 877 C dL_law_876 rfl rfl ?_
  refine j_iconst 878 C dL_law_877 rfl (v := nI 1) (by decide) ?_
  refine j_iaddN 879 C dL_law_878 rfl ?_
  refine j_ialdX 880 C hX hL dL_law_879 rfl _ (by omega) rfl ?_
  refine j_aload_n 881 C dL_law_880 rfl rfl ?_
  refine j_iload_n 882 C dL_law_881 rfl rfl ?_
  refine j_iconst 883 C dL_law_882 rfl (v := nI 2) (by decide) ?_
  refine j_iaddN 884 C dL_law_883 rfl ?_
  refine j_ialdX 885 C hX hL dL_law_884 rfl _ (by omega) rfl ?_
  refine j_rsc 888 C dL_law_885 rfl cwL_109 (rq_verse (NR_rf hN)) rfl rfl (by omega) hk rfl (Nat.le_of_ble_eq_true rfl) (fun v N hv => ?_)
  obtain ⟨rfl, hE⟩ := hv
  refine j_icmp_eq 1683 891 C dL_law_888 (by decide) rfl (fun _ => ?_) (fun z => absurd rfl z)
  exact kk w1 N (NR_m (NR_eq hN1 hE) (by omega))
theorem lwc_23 (C : Cx X l G code 4 R_law (some .boolean) d mc ms post) (hd : 20 ≤ d) (hX : SX X b L xs) (hL : L ≤ 3072) (hi : i + 6 ≤ L) (hk : k + 26 ≤ mc ∧ n + 15339 ≤ ms) (hN : NR G M c o1 w) (hc : c ≤ 1000) (kk : ∀ (w' : va_W) (N : MS), NR G N (c + 1) o1 w' → J X 4 (k + 26) (n + 15339) (w' ++ mw o2 ad G.2.1 N) 1683 [(3, .int (nI i)), (2, .ref o2), (1, .ref o1), (0, .ref b)] []) : J X 4 k n (w ++ mw o2 ad G.2.1 M) 893 [(3, .int (nI i)), (2, .ref o2), (1, .ref o1), (0, .ref b)] [] := by
  refine j_aload_n 894 C dL_law_893 rfl rfl ?_
  refine j_aload_n 895 C dL_law_894 rfl rfl ?_
  refine j_iload_n 896 C dL_law_895 rfl rfl ?_
  refine j_iconst 897 C dL_law_896 rfl (v := nI 1) (by decide) ?_
  refine j_iaddN 898 C dL_law_897 rfl ?_
  refine j_ialdX 899 C hX hL dL_law_898 rfl _ (by omega) rfl ?_
  refine j_aload_n 900 C dL_law_899 rfl rfl ?_
  refine j_iload_n 901 C dL_law_900 rfl rfl ?_
  refine j_iconst 902 C dL_law_901 rfl (v := nI 2) (by decide) ?_
  refine j_iaddN 903 C dL_law_902 rfl ?_
  refine j_ialdX 904 C hX hL dL_law_903 rfl _ (by omega) rfl ?_
  refine j_aload_n 905 C dL_law_904 rfl rfl ?_
  refine j_iload_n 906 C dL_law_905 rfl rfl ?_
  refine j_iconst 907 C dL_law_906 rfl (v := nI 3) (by decide) ?_
  refine j_iaddN 908 C dL_law_907 rfl ?_
  refine j_ialdX 909 C hX hL dL_law_908 rfl _ (by omega) rfl ?_
  refine j_aload_n 910 C dL_law_909 rfl rfl ?_
  refine j_iload_n 911 C dL_law_910 rfl rfl ?_
  refine j_iconst 912 C dL_law_911 rfl (v := nI 4) (by decide) ?_
  refine j_iaddN 913 C dL_law_912 rfl ?_
  refine j_ialdX 914 C hX hL dL_law_913 rfl _ (by omega) rfl ?_
  refine j_bool_if_eq 922 C dL_law_914 rfl dL_law_917 dL_law_918 dL_law_921 rfl ?_
  refine j_stc 925 C dL_law_922 rfl cwL_110 (cs_near hN hc) rfl rfl (by omega) hk rfl (Nat.le_of_ble_eq_true rfl) (fun v w1 hv => ?_)
  obtain ⟨rfl, hN1⟩ := hv
  refine j_aload_n 926 C dL_law_925 rfl rfl ?_
  refine j_aload_n 927 C dL_law_926 rfl rfl ?_
  refine j_iload_n 928 C dL_law_927 rfl rfl ?_
  refine j_iconst 929 C dL_law_928 rfl (v := nI 1) (by decide) ?_
  refine j_iaddN 930 C dL_law_929 rfl ?_
  refine j_ialdX 931 C hX hL dL_law_930 rfl _ (by omega) rfl ?_
  refine j_aload_n 932 C dL_law_931 rfl rfl ?_
  refine j_iload_n 933 C dL_law_932 rfl rfl ?_
  refine j_iconst 934 C dL_law_933 rfl (v := nI 2) (by decide) ?_
  refine j_iaddN 935 C dL_law_934 rfl ?_
  refine j_ialdX 936 C hX hL dL_law_935 rfl _ (by omega) rfl ?_
  refine j_aload_n 937 C dL_law_936 rfl rfl ?_
  refine j_iload_n 938 C dL_law_937 rfl rfl ?_
  refine j_iconst 939 C dL_law_938 rfl (v := nI 3) (by decide) ?_
  refine j_iaddN 940 C dL_law_939 rfl ?_
  refine j_ialdX 941 C hX hL dL_law_940 rfl _ (by omega) rfl ?_
  refine j_aload_n 942 C dL_law_941 rfl rfl ?_
  refine j_iload_n 943 C dL_law_942 rfl rfl ?_
  refine j_iconst 944 C dL_law_943 rfl (v := nI 4) (by decide) ?_
  refine j_iaddN 945 C dL_law_944 rfl ?_
  refine j_ialdX 946 C hX hL dL_law_945 rfl _ (by omega) rfl ?_
  refine j_bool_if_eq 954 C dL_law_946 rfl dL_law_949 dL_law_950 dL_law_953 rfl ?_
  refine j_rsc 957 C dL_law_954 rfl cwL_114 (rq_near (NR_rf hN)) rfl rfl (by omega) hk rfl (Nat.le_of_ble_eq_true rfl) (fun v N hv => ?_)
  obtain ⟨rfl, hE⟩ := hv
  refine j_icmp_eq 1683 960 C dL_law_957 (by decide) rfl (fun _ => ?_) (fun z => absurd rfl z)
  exact kk w1 N (NR_m (NR_eq hN1 hE) (by omega))
theorem lwc_24 (C : Cx X l G code 4 R_law (some .boolean) d mc ms post) (hd : 20 ≤ d) (hX : SX X b L xs) (hL : L ≤ 3072) (hi : i + 6 ≤ L) (hk : k + 26 ≤ mc ∧ n + 15339 ≤ ms) (hN : NR G M c o1 w) (hc : c ≤ 1000) (kk : ∀ (w' : va_W) (N : MS), NR G N (c + 1) o1 w' → J X 4 (k + 26) (n + 15339) (w' ++ mw o2 ad G.2.1 N) 1683 [(3, .int (nI i)), (2, .ref o2), (1, .ref o1), (0, .ref b)] []) : J X 4 k n (w ++ mw o2 ad G.2.1 M) 962 [(3, .int (nI i)), (2, .ref o2), (1, .ref o1), (0, .ref b)] [] := by
  refine j_aload_n 963 C dL_law_962 rfl rfl ?_
  refine j_aload_n 964 C dL_law_963 rfl rfl ?_
  refine j_iload_n 965 C dL_law_964 rfl rfl ?_
  refine j_iconst 966 C dL_law_965 rfl (v := nI 1) (by decide) ?_
  refine j_iaddN 967 C dL_law_966 rfl ?_
  refine j_ialdX 968 C hX hL dL_law_967 rfl _ (by omega) rfl ?_
  refine j_aload_n 969 C dL_law_968 rfl rfl ?_
  refine j_iload_n 970 C dL_law_969 rfl rfl ?_
  refine j_iconst 971 C dL_law_970 rfl (v := nI 2) (by decide) ?_
  refine j_iaddN 972 C dL_law_971 rfl ?_
  refine j_ialdX 973 C hX hL dL_law_972 rfl _ (by omega) rfl ?_
  refine j_aload_n 974 C dL_law_973 rfl rfl ?_
  refine j_iload_n 975 C dL_law_974 rfl rfl ?_
  refine j_iconst 976 C dL_law_975 rfl (v := nI 3) (by decide) ?_
  refine j_iaddN 977 C dL_law_976 rfl ?_
  refine j_ialdX 978 C hX hL dL_law_977 rfl _ (by omega) rfl ?_
  refine j_aload_n 979 C dL_law_978 rfl rfl ?_
  refine j_iload_n 980 C dL_law_979 rfl rfl ?_
  refine j_iconst 981 C dL_law_980 rfl (v := nI 4) (by decide) ?_
  refine j_iaddN 982 C dL_law_981 rfl ?_
  refine j_ialdX 983 C hX hL dL_law_982 rfl _ (by omega) rfl ?_
  refine j_aload_n 984 C dL_law_983 rfl rfl ?_
  refine j_iload_n 985 C dL_law_984 rfl rfl ?_
  refine j_iconst 986 C dL_law_985 rfl (v := nI 5) (by decide) ?_
  refine j_iaddN 987 C dL_law_986 rfl ?_
  refine j_ialdX 988 C hX hL dL_law_987 rfl _ (by omega) rfl ?_
  refine j_stc 991 C dL_law_988 rfl cwL_115 (cs_fit hN hc) rfl rfl (by omega) hk rfl (Nat.le_of_ble_eq_true rfl) (fun v w1 hv => ?_)
  obtain ⟨rfl, hN1⟩ := hv
  refine j_aload_n 992 C dL_law_991 rfl rfl ?_
  refine j_aload_n 993 C dL_law_992 rfl rfl ?_
  refine j_iload_n 994 C dL_law_993 rfl rfl ?_
  refine j_iconst 995 C dL_law_994 rfl (v := nI 1) (by decide) ?_
  refine j_iaddN 996 C dL_law_995 rfl ?_
  refine j_ialdX 997 C hX hL dL_law_996 rfl _ (by omega) rfl ?_
  refine j_aload_n 998 C dL_law_997 rfl rfl ?_
  refine j_iload_n 999 C dL_law_998 rfl rfl ?_
  refine j_iconst 1000 C dL_law_999 rfl (v := nI 2) (by decide) ?_
  refine j_iaddN 1001 C dL_law_1000 rfl ?_
  refine j_ialdX 1002 C hX hL dL_law_1001 rfl _ (by omega) rfl ?_
  refine j_aload_n 1003 C dL_law_1002 rfl rfl ?_
  refine j_iload_n 1004 C dL_law_1003 rfl rfl ?_
  refine j_iconst 1005 C dL_law_1004 rfl (v := nI 3) (by decide) ?_
  refine j_iaddN 1006 C dL_law_1005 rfl ?_
  refine j_ialdX 1007 C hX hL dL_law_1006 rfl _ (by omega) rfl ?_
  refine j_aload_n 1008 C dL_law_1007 rfl rfl ?_
  refine j_iload_n 1009 C dL_law_1008 rfl rfl ?_
  refine j_iconst 1010 C dL_law_1009 rfl (v := nI 4) (by decide) ?_
  refine j_iaddN 1011 C dL_law_1010 rfl ?_
  refine j_ialdX 1012 C hX hL dL_law_1011 rfl _ (by omega) rfl ?_
  refine j_aload_n 1013 C dL_law_1012 rfl rfl ?_
  refine j_iload_n 1014 C dL_law_1013 rfl rfl ?_
  refine j_iconst 1015 C dL_law_1014 rfl (v := nI 5) (by decide) ?_
  refine j_iaddN 1016 C dL_law_1015 rfl ?_
  refine j_ialdX 1017 C hX hL dL_law_1016 rfl _ (by omega) rfl ?_
  refine j_rsc 1020 C dL_law_1017 rfl cwL_118 (rq_fit (NR_rf hN)) rfl rfl (by omega) hk rfl (Nat.le_of_ble_eq_true rfl) (fun v N hv => ?_)
  obtain ⟨rfl, hE⟩ := hv
  refine j_icmp_eq 1683 1023 C dL_law_1020 (by decide) rfl (fun _ => ?_) (fun z => absurd rfl z)
  exact kk w1 N (NR_m (NR_eq hN1 hE) (by omega))
theorem lwc_25 (C : Cx X l G code 4 R_law (some .boolean) d mc ms post) (hd : 20 ≤ d) (hX : SX X b L xs) (hL : L ≤ 3072) (hi : i + 6 ≤ L) (hk : k + 26 ≤ mc ∧ n + 15339 ≤ ms) (hN : NR G M c o1 w) (hc : c ≤ 1000) (kk : ∀ (w' : va_W) (N : MS), NR G N (c + 1) o1 w' → J X 4 (k + 26) (n + 15339) (w' ++ mw o2 ad G.2.1 N) 1683 [(3, .int (nI i)), (2, .ref o2), (1, .ref o1), (0, .ref b)] []) : J X 4 k n (w ++ mw o2 ad G.2.1 M) 1025 [(3, .int (nI i)), (2, .ref o2), (1, .ref o1), (0, .ref b)] [] := by
  refine j_aload_n 1026 C dL_law_1025 rfl rfl ?_
  refine j_aload_n 1027 C dL_law_1026 rfl rfl ?_
  refine j_iload_n 1028 C dL_law_1027 rfl rfl ?_
  refine j_iconst 1029 C dL_law_1028 rfl (v := nI 1) (by decide) ?_
  refine j_iaddN 1030 C dL_law_1029 rfl ?_
  refine j_ialdX 1031 C hX hL dL_law_1030 rfl _ (by omega) rfl ?_
  refine j_stc 1034 C dL_law_1031 rfl cwL_119 (cs_days hN hc) rfl rfl (by omega) hk rfl (Nat.le_of_ble_eq_true rfl) (fun v w1 hv => ?_)
  obtain ⟨rfl, hN1⟩ := hv
  refine j_aload_n 1035 C dL_law_1034 rfl rfl ?_
  refine j_aload_n 1036 C dL_law_1035 rfl rfl ?_
  refine j_iload_n 1037 C dL_law_1036 rfl rfl ?_
  refine j_iconst 1038 C dL_law_1037 rfl (v := nI 1) (by decide) ?_
  refine j_iaddN 1039 C dL_law_1038 rfl ?_
  refine j_ialdX 1040 C hX hL dL_law_1039 rfl _ (by omega) rfl ?_
  refine j_rsc 1043 C dL_law_1040 rfl cwL_122 (rq_days (NR_rf hN)) rfl rfl (by omega) hk rfl (Nat.le_of_ble_eq_true rfl) (fun v N hv => ?_)
  obtain ⟨rfl, hE⟩ := hv
  refine j_icmp_eq 1683 1046 C dL_law_1043 (by decide) rfl (fun _ => ?_) (fun z => absurd rfl z)
  exact kk w1 N (NR_m (NR_eq hN1 hE) (by omega))
theorem lwc_26 (C : Cx X l G code 4 R_law (some .boolean) d mc ms post) (hd : 20 ≤ d) (hX : SX X b L xs) (hL : L ≤ 3072) (hi : i + 6 ≤ L) (hk : k + 26 ≤ mc ∧ n + 15339 ≤ ms) (hN : NR G M c o1 w) (hc : c ≤ 1000) (kk : ∀ (w' : va_W) (N : MS), NR G N (c + 1) o1 w' → J X 4 (k + 26) (n + 15339) (w' ++ mw o2 ad G.2.1 N) 1683 [(3, .int (nI i)), (2, .ref o2), (1, .ref o1), (0, .ref b)] []) : J X 4 k n (w ++ mw o2 ad G.2.1 M) 1048 [(3, .int (nI i)), (2, .ref o2), (1, .ref o1), (0, .ref b)] [] := by
  refine j_aload_n 1049 C dL_law_1048 rfl rfl ?_
  refine j_aload_n 1050 C dL_law_1049 rfl rfl ?_
  refine j_iload_n 1051 C dL_law_1050 rfl rfl ?_
  refine j_iconst 1052 C dL_law_1051 rfl (v := nI 1) (by decide) ?_
  refine j_iaddN 1053 C dL_law_1052 rfl ?_
  refine j_ialdX 1054 C hX hL dL_law_1053 rfl _ (by omega) rfl ?_
  refine j_aload_n 1055 C dL_law_1054 rfl rfl ?_
  refine j_iload_n 1056 C dL_law_1055 rfl rfl ?_
  refine j_iconst 1057 C dL_law_1056 rfl (v := nI 2) (by decide) ?_
  refine j_iaddN 1058 C dL_law_1057 rfl ?_
  refine j_ialdX 1059 C hX hL dL_law_1058 rfl _ (by omega) rfl ?_
  refine j_aload_n 1060 C dL_law_1059 rfl rfl ?_
  refine j_iload_n 1061 C dL_law_1060 rfl rfl ?_
  refine j_iconst 1062 C dL_law_1061 rfl (v := nI 3) (by decide) ?_
  refine j_iaddN 1063 C dL_law_1062 rfl ?_
  refine j_ialdX 1064 C hX hL dL_law_1063 rfl _ (by omega) rfl ?_
  refine j_stc 1067 C dL_law_1064 rfl cwL_123 (cs_spread hN hc) rfl rfl (by omega) hk rfl (Nat.le_of_ble_eq_true rfl) (fun v w1 hv => ?_)
  obtain ⟨rfl, hN1⟩ := hv
  refine j_aload_n 1068 C dL_law_1067 rfl rfl ?_
  refine j_aload_n 1069 C dL_law_1068 rfl rfl ?_
  refine j_iload_n 1070 C dL_law_1069 rfl rfl ?_
  refine j_iconst 1071 C dL_law_1070 rfl (v := nI 1) (by decide) ?_
  refine j_iaddN 1072 C dL_law_1071 rfl ?_
  refine j_ialdX 1073 C hX hL dL_law_1072 rfl _ (by omega) rfl ?_
  refine j_aload_n 1074 C dL_law_1073 rfl rfl ?_
  refine j_iload_n 1075 C dL_law_1074 rfl rfl ?_
  refine j_iconst 1076 C dL_law_1075 rfl (v := nI 2) (by decide) ?_
  refine j_iaddN 1077 C dL_law_1076 rfl ?_
  refine j_ialdX 1078 C hX hL dL_law_1077 rfl _ (by omega) rfl ?_
  refine j_aload_n 1079 C dL_law_1078 rfl rfl ?_
  refine j_iload_n 1080 C dL_law_1079 rfl rfl ?_
  refine j_iconst 1081 C dL_law_1080 rfl (v := nI 3) (by decide) ?_
  refine j_iaddN 1082 C dL_law_1081 rfl ?_
  refine j_ialdX 1083 C hX hL dL_law_1082 rfl _ (by omega) rfl ?_
  refine j_rsc 1086 C dL_law_1083 rfl cwL_126 (rq_spread (NR_rf hN)) rfl rfl (by omega) hk rfl (Nat.le_of_ble_eq_true rfl) (fun v N hv => ?_)
  obtain ⟨rfl, hE⟩ := hv
  refine j_icmp_eq 1683 1089 C dL_law_1086 (by decide) rfl (fun _ => ?_) (fun z => absurd rfl z)
  exact kk w1 N (NR_m (NR_eq hN1 hE) (by omega))
theorem lwc_27 (C : Cx X l G code 4 R_law (some .boolean) d mc ms post) (hd : 20 ≤ d) (hX : SX X b L xs) (hL : L ≤ 3072) (hi : i + 6 ≤ L) (hk : k + 26 ≤ mc ∧ n + 15339 ≤ ms) (hN : NR G M c o1 w) (hc : c ≤ 1000) (kk : ∀ (w' : va_W) (N : MS), NR G N (c + 1) o1 w' → J X 4 (k + 26) (n + 15339) (w' ++ mw o2 ad G.2.1 N) 1683 [(3, .int (nI i)), (2, .ref o2), (1, .ref o1), (0, .ref b)] []) : J X 4 k n (w ++ mw o2 ad G.2.1 M) 1091 [(3, .int (nI i)), (2, .ref o2), (1, .ref o1), (0, .ref b)] [] := by
  refine j_aload_n 1092 C dL_law_1091 rfl rfl ?_
  refine j_aload_n 1093 C dL_law_1092 rfl rfl ?_
  refine j_iload_n 1094 C dL_law_1093 rfl rfl ?_
  refine j_iconst 1095 C dL_law_1094 rfl (v := nI 1) (by decide) ?_
  refine j_iaddN 1096 C dL_law_1095 rfl ?_
  refine j_ialdX 1097 C hX hL dL_law_1096 rfl _ (by omega) rfl ?_
  refine j_aload_n 1098 C dL_law_1097 rfl rfl ?_
  refine j_iload_n 1099 C dL_law_1098 rfl rfl ?_
  refine j_iconst 1100 C dL_law_1099 rfl (v := nI 2) (by decide) ?_
  refine j_iaddN 1101 C dL_law_1100 rfl ?_
  refine j_ialdX 1102 C hX hL dL_law_1101 rfl _ (by omega) rfl ?_
  refine j_aload_n 1103 C dL_law_1102 rfl rfl ?_
  refine j_iload_n 1104 C dL_law_1103 rfl rfl ?_
  refine j_iconst 1105 C dL_law_1104 rfl (v := nI 3) (by decide) ?_
  refine j_iaddN 1106 C dL_law_1105 rfl ?_
  refine j_ialdX 1107 C hX hL dL_law_1106 rfl _ (by omega) rfl ?_
  refine j_aload_n 1108 C dL_law_1107 rfl rfl ?_
  refine j_iload_n 1109 C dL_law_1108 rfl rfl ?_
  refine j_iconst 1110 C dL_law_1109 rfl (v := nI 4) (by decide) ?_
  refine j_iaddN 1111 C dL_law_1110 rfl ?_
  refine j_ialdX 1112 C hX hL dL_law_1111 rfl _ (by omega) rfl ?_
  refine j_stc 1115 C dL_law_1112 rfl cwL_127 (cs_left hN hc) rfl rfl (by omega) hk rfl (Nat.le_of_ble_eq_true rfl) (fun v w1 hv => ?_)
  obtain ⟨rfl, hN1⟩ := hv
  refine j_aload_n 1116 C dL_law_1115 rfl rfl ?_
  refine j_aload_n 1117 C dL_law_1116 rfl rfl ?_
  refine j_iload_n 1118 C dL_law_1117 rfl rfl ?_
  refine j_iconst 1119 C dL_law_1118 rfl (v := nI 1) (by decide) ?_
  refine j_iaddN 1120 C dL_law_1119 rfl ?_
  refine j_ialdX 1121 C hX hL dL_law_1120 rfl _ (by omega) rfl ?_
  refine j_aload_n 1122 C dL_law_1121 rfl rfl ?_
  refine j_iload_n 1123 C dL_law_1122 rfl rfl ?_
  refine j_iconst 1124 C dL_law_1123 rfl (v := nI 2) (by decide) ?_
  refine j_iaddN 1125 C dL_law_1124 rfl ?_
  refine j_ialdX 1126 C hX hL dL_law_1125 rfl _ (by omega) rfl ?_
  refine j_aload_n 1127 C dL_law_1126 rfl rfl ?_
  refine j_iload_n 1128 C dL_law_1127 rfl rfl ?_
  refine j_iconst 1129 C dL_law_1128 rfl (v := nI 3) (by decide) ?_
  refine j_iaddN 1130 C dL_law_1129 rfl ?_
  refine j_ialdX 1131 C hX hL dL_law_1130 rfl _ (by omega) rfl ?_
  refine j_aload_n 1132 C dL_law_1131 rfl rfl ?_
  refine j_iload_n 1133 C dL_law_1132 rfl rfl ?_
  refine j_iconst 1134 C dL_law_1133 rfl (v := nI 4) (by decide) ?_
  refine j_iaddN 1135 C dL_law_1134 rfl ?_
  refine j_ialdX 1136 C hX hL dL_law_1135 rfl _ (by omega) rfl ?_
  refine j_rsc 1139 C dL_law_1136 rfl cwL_131 (rq_left (NR_rf hN)) rfl rfl (by omega) hk rfl (Nat.le_of_ble_eq_true rfl) (fun v N hv => ?_)
  obtain ⟨rfl, hE⟩ := hv
  refine j_icmp_eq 1683 1142 C dL_law_1139 (by decide) rfl (fun _ => ?_) (fun z => absurd rfl z)
  exact kk w1 N (NR_m (NR_eq hN1 hE) (by omega))
theorem lwc_28 (C : Cx X l G code 4 R_law (some .boolean) d mc ms post) (hd : 20 ≤ d) (hX : SX X b L xs) (hL : L ≤ 3072) (hi : i + 6 ≤ L) (hk : k + 26 ≤ mc ∧ n + 15339 ≤ ms) (hN : NR G M c o1 w) (hc : c ≤ 1000) (kk : ∀ (w' : va_W) (N : MS), NR G N (c + 1) o1 w' → J X 4 (k + 26) (n + 15339) (w' ++ mw o2 ad G.2.1 N) 1683 [(3, .int (nI i)), (2, .ref o2), (1, .ref o1), (0, .ref b)] []) : J X 4 k n (w ++ mw o2 ad G.2.1 M) 1144 [(3, .int (nI i)), (2, .ref o2), (1, .ref o1), (0, .ref b)] [] := by
  refine j_aload_n 1145 C dL_law_1144 rfl rfl ?_
  refine j_aload_n 1146 C dL_law_1145 rfl rfl ?_
  refine j_iload_n 1147 C dL_law_1146 rfl rfl ?_
  refine j_iconst 1148 C dL_law_1147 rfl (v := nI 1) (by decide) ?_
  refine j_iaddN 1149 C dL_law_1148 rfl ?_
  refine j_ialdX 1150 C hX hL dL_law_1149 rfl _ (by omega) rfl ?_
  refine j_aload_n 1151 C dL_law_1150 rfl rfl ?_
  refine j_iload_n 1152 C dL_law_1151 rfl rfl ?_
  refine j_iconst 1153 C dL_law_1152 rfl (v := nI 2) (by decide) ?_
  refine j_iaddN 1154 C dL_law_1153 rfl ?_
  refine j_ialdX 1155 C hX hL dL_law_1154 rfl _ (by omega) rfl ?_
  refine j_stc 1158 C dL_law_1155 rfl cwL_132 (cs_shuffled hN hc) rfl rfl (by omega) hk rfl (Nat.le_of_ble_eq_true rfl) (fun v w1 hv => ?_)
  obtain ⟨rfl, hN1⟩ := hv
  refine j_aload_n 1159 C dL_law_1158 rfl rfl ?_
  refine j_aload_n 1160 C dL_law_1159 rfl rfl ?_
  refine j_iload_n 1161 C dL_law_1160 rfl rfl ?_
  refine j_iconst 1162 C dL_law_1161 rfl (v := nI 1) (by decide) ?_
  refine j_iaddN 1163 C dL_law_1162 rfl ?_
  refine j_ialdX 1164 C hX hL dL_law_1163 rfl _ (by omega) rfl ?_
  refine j_aload_n 1165 C dL_law_1164 rfl rfl ?_
  refine j_iload_n 1166 C dL_law_1165 rfl rfl ?_
  refine j_iconst 1167 C dL_law_1166 rfl (v := nI 2) (by decide) ?_
  refine j_iaddN 1168 C dL_law_1167 rfl ?_
  refine j_ialdX 1169 C hX hL dL_law_1168 rfl _ (by omega) rfl ?_
  refine j_rsc 1172 C dL_law_1169 rfl cwL_135 (rq_shuffled (NR_rf hN)) rfl rfl (by omega) hk rfl (Nat.le_of_ble_eq_true rfl) (fun v N hv => ?_)
  obtain ⟨rfl, hE⟩ := hv
  refine j_icmp_eq 1683 1175 C dL_law_1172 (by decide) rfl (fun _ => ?_) (fun z => absurd rfl z)
  exact kk w1 N (NR_m (NR_eq hN1 hE) (by omega))
theorem lwc_29 (C : Cx X l G code 4 R_law (some .boolean) d mc ms post) (hd : 20 ≤ d) (hX : SX X b L xs) (hL : L ≤ 3072) (hi : i + 6 ≤ L) (hk : k + 26 ≤ mc ∧ n + 15339 ≤ ms) (hN : NR G M c o1 w) (hc : c ≤ 1000) (kk : ∀ (w' : va_W) (N : MS), NR G N (c + 1) o1 w' → J X 4 (k + 26) (n + 15339) (w' ++ mw o2 ad G.2.1 N) 1683 [(3, .int (nI i)), (2, .ref o2), (1, .ref o1), (0, .ref b)] []) : J X 4 k n (w ++ mw o2 ad G.2.1 M) 1177 [(3, .int (nI i)), (2, .ref o2), (1, .ref o1), (0, .ref b)] [] := by
  refine j_aload_n 1178 C dL_law_1177 rfl rfl ?_
  refine j_aload_n 1179 C dL_law_1178 rfl rfl ?_
  refine j_iload_n 1180 C dL_law_1179 rfl rfl ?_
  refine j_iconst 1181 C dL_law_1180 rfl (v := nI 1) (by decide) ?_
  refine j_iaddN 1182 C dL_law_1181 rfl ?_
  refine j_ialdX 1183 C hX hL dL_law_1182 rfl _ (by omega) rfl ?_
  refine j_stc 1186 C dL_law_1183 rfl cwL_136 (cs_backward hN hc) rfl rfl (by omega) hk rfl (Nat.le_of_ble_eq_true rfl) (fun v w1 hv => ?_)
  obtain ⟨rfl, hN1⟩ := hv
  refine j_aload_n 1187 C dL_law_1186 rfl rfl ?_
  refine j_aload_n 1188 C dL_law_1187 rfl rfl ?_
  refine j_iload_n 1189 C dL_law_1188 rfl rfl ?_
  refine j_iconst 1190 C dL_law_1189 rfl (v := nI 1) (by decide) ?_
  refine j_iaddN 1191 C dL_law_1190 rfl ?_
  refine j_ialdX 1192 C hX hL dL_law_1191 rfl _ (by omega) rfl ?_
  refine j_rsc 1195 C dL_law_1192 rfl cwL_139 (rq_backward (NR_rf hN)) rfl rfl (by omega) hk rfl (Nat.le_of_ble_eq_true rfl) (fun v N hv => ?_)
  obtain ⟨rfl, hE⟩ := hv
  refine j_icmp_eq 1683 1198 C dL_law_1195 (by decide) rfl (fun _ => ?_) (fun z => absurd rfl z)
  exact kk w1 N (NR_m (NR_eq hN1 hE) (by omega))
theorem lwc_30 (C : Cx X l G code 4 R_law (some .boolean) d mc ms post) (hd : 20 ≤ d) (hX : SX X b L xs) (hL : L ≤ 3072) (hi : i + 6 ≤ L) (hk : k + 26 ≤ mc ∧ n + 15339 ≤ ms) (hN : NR G M c o1 w) (hc : c ≤ 1000) (kk : ∀ (w' : va_W) (N : MS), NR G N (c + 1) o1 w' → J X 4 (k + 26) (n + 15339) (w' ++ mw o2 ad G.2.1 N) 1683 [(3, .int (nI i)), (2, .ref o2), (1, .ref o1), (0, .ref b)] []) : J X 4 k n (w ++ mw o2 ad G.2.1 M) 1200 [(3, .int (nI i)), (2, .ref o2), (1, .ref o1), (0, .ref b)] [] := by
  refine j_aload_n 1201 C dL_law_1200 rfl rfl ?_
  refine j_aload_n 1202 C dL_law_1201 rfl rfl ?_
  refine j_iload_n 1203 C dL_law_1202 rfl rfl ?_
  refine j_iconst 1204 C dL_law_1203 rfl (v := nI 1) (by decide) ?_
  refine j_iaddN 1205 C dL_law_1204 rfl ?_
  refine j_ialdX 1206 C hX hL dL_law_1205 rfl _ (by omega) rfl ?_
  refine j_stc 1209 C dL_law_1206 rfl cwL_140 (cs_rowOf hN hc) rfl rfl (by omega) hk rfl (Nat.le_of_ble_eq_true rfl) (fun v w1 hv => ?_)
  obtain ⟨rfl, hN1⟩ := hv
  refine j_aload_n 1210 C dL_law_1209 rfl rfl ?_
  refine j_aload_n 1211 C dL_law_1210 rfl rfl ?_
  refine j_iload_n 1212 C dL_law_1211 rfl rfl ?_
  refine j_iconst 1213 C dL_law_1212 rfl (v := nI 1) (by decide) ?_
  refine j_iaddN 1214 C dL_law_1213 rfl ?_
  refine j_ialdX 1215 C hX hL dL_law_1214 rfl _ (by omega) rfl ?_
  refine j_rsc 1218 C dL_law_1215 rfl cwL_143 (rq_rowOf (NR_rf hN)) rfl rfl (by omega) hk rfl (Nat.le_of_ble_eq_true rfl) (fun v N hv => ?_)
  obtain ⟨rfl, hE⟩ := hv
  refine j_icmp_eq 1683 1221 C dL_law_1218 (by decide) rfl (fun _ => ?_) (fun z => absurd rfl z)
  exact kk w1 N (NR_m (NR_eq hN1 hE) (by omega))
theorem lwc_31 (C : Cx X l G code 4 R_law (some .boolean) d mc ms post) (hd : 20 ≤ d) (hX : SX X b L xs) (hL : L ≤ 3072) (hi : i + 6 ≤ L) (hk : k + 26 ≤ mc ∧ n + 15339 ≤ ms) (hN : NR G M c o1 w) (hc : c ≤ 1000) (kk : ∀ (w' : va_W) (N : MS), NR G N (c + 1) o1 w' → J X 4 (k + 26) (n + 15339) (w' ++ mw o2 ad G.2.1 N) 1683 [(3, .int (nI i)), (2, .ref o2), (1, .ref o1), (0, .ref b)] []) : J X 4 k n (w ++ mw o2 ad G.2.1 M) 1223 [(3, .int (nI i)), (2, .ref o2), (1, .ref o1), (0, .ref b)] [] := by
  refine j_aload_n 1224 C dL_law_1223 rfl rfl ?_
  refine j_aload_n 1225 C dL_law_1224 rfl rfl ?_
  refine j_iload_n 1226 C dL_law_1225 rfl rfl ?_
  refine j_iconst 1227 C dL_law_1226 rfl (v := nI 1) (by decide) ?_
  refine j_iaddN 1228 C dL_law_1227 rfl ?_
  refine j_ialdX 1229 C hX hL dL_law_1228 rfl _ (by omega) rfl ?_
  refine j_aload_n 1230 C dL_law_1229 rfl rfl ?_
  refine j_iload_n 1231 C dL_law_1230 rfl rfl ?_
  refine j_iconst 1232 C dL_law_1231 rfl (v := nI 2) (by decide) ?_
  refine j_iaddN 1233 C dL_law_1232 rfl ?_
  refine j_ialdX 1234 C hX hL dL_law_1233 rfl _ (by omega) rfl ?_
  refine j_stc 1237 C dL_law_1234 rfl cwL_144 (cs_thing hN hc) rfl rfl (by omega) hk rfl (Nat.le_of_ble_eq_true rfl) (fun v w1 hv => ?_)
  obtain ⟨rfl, hN1⟩ := hv
  refine j_aload_n 1238 C dL_law_1237 rfl rfl ?_
  refine j_aload_n 1239 C dL_law_1238 rfl rfl ?_
  refine j_iload_n 1240 C dL_law_1239 rfl rfl ?_
  refine j_iconst 1241 C dL_law_1240 rfl (v := nI 1) (by decide) ?_
  refine j_iaddN 1242 C dL_law_1241 rfl ?_
  refine j_ialdX 1243 C hX hL dL_law_1242 rfl _ (by omega) rfl ?_
  refine j_aload_n 1244 C dL_law_1243 rfl rfl ?_
  refine j_iload_n 1245 C dL_law_1244 rfl rfl ?_
  refine j_iconst 1246 C dL_law_1245 rfl (v := nI 2) (by decide) ?_
  refine j_iaddN 1247 C dL_law_1246 rfl ?_
  refine j_ialdX 1248 C hX hL dL_law_1247 rfl _ (by omega) rfl ?_
  refine j_rsc 1251 C dL_law_1248 rfl cwL_147 (rq_thing (NR_rf hN)) rfl rfl (by omega) hk rfl (Nat.le_of_ble_eq_true rfl) (fun v N hv => ?_)
  obtain ⟨rfl, hE⟩ := hv
  refine j_icmp_eq 1683 1254 C dL_law_1251 (by decide) rfl (fun _ => ?_) (fun z => absurd rfl z)
  exact kk w1 N (NR_m (NR_eq hN1 hE) (by omega))
theorem lwc_32 (C : Cx X l G code 4 R_law (some .boolean) d mc ms post) (hd : 20 ≤ d) (hX : SX X b L xs) (hL : L ≤ 3072) (hi : i + 6 ≤ L) (hk : k + 26 ≤ mc ∧ n + 15339 ≤ ms) (hN : NR G M c o1 w) (hc : c ≤ 1000) (kk : ∀ (w' : va_W) (N : MS), NR G N (c + 1) o1 w' → J X 4 (k + 26) (n + 15339) (w' ++ mw o2 ad G.2.1 N) 1683 [(3, .int (nI i)), (2, .ref o2), (1, .ref o1), (0, .ref b)] []) : J X 4 k n (w ++ mw o2 ad G.2.1 M) 1256 [(3, .int (nI i)), (2, .ref o2), (1, .ref o1), (0, .ref b)] [] := by
  refine j_aload_n 1257 C dL_law_1256 rfl rfl ?_
  refine j_aload_n 1258 C dL_law_1257 rfl rfl ?_
  refine j_iload_n 1259 C dL_law_1258 rfl rfl ?_
  refine j_iconst 1260 C dL_law_1259 rfl (v := nI 1) (by decide) ?_
  refine j_iaddN 1261 C dL_law_1260 rfl ?_
  refine j_ialdX 1262 C hX hL dL_law_1261 rfl _ (by omega) rfl ?_
  refine j_stc 1265 C dL_law_1262 rfl cwL_148 (cs_used hN hc) rfl rfl (by omega) hk rfl (Nat.le_of_ble_eq_true rfl) (fun v w1 hv => ?_)
  obtain ⟨rfl, hN1⟩ := hv
  refine j_aload_n 1266 C dL_law_1265 rfl rfl ?_
  refine j_aload_n 1267 C dL_law_1266 rfl rfl ?_
  refine j_iload_n 1268 C dL_law_1267 rfl rfl ?_
  refine j_iconst 1269 C dL_law_1268 rfl (v := nI 1) (by decide) ?_
  refine j_iaddN 1270 C dL_law_1269 rfl ?_
  refine j_ialdX 1271 C hX hL dL_law_1270 rfl _ (by omega) rfl ?_
  refine j_rsc 1274 C dL_law_1271 rfl cwL_151 (rq_used (NR_rf hN)) rfl rfl (by omega) hk rfl (Nat.le_of_ble_eq_true rfl) (fun v N hv => ?_)
  obtain ⟨rfl, hE⟩ := hv
  refine j_icmp_eq 1683 1277 C dL_law_1274 (by decide) rfl (fun _ => ?_) (fun z => absurd rfl z)
  exact kk w1 N (NR_m (NR_eq hN1 hE) (by omega))
theorem lwc_33 (C : Cx X l G code 4 R_law (some .boolean) d mc ms post) (hd : 20 ≤ d) (hX : SX X b L xs) (hL : L ≤ 3072) (hi : i + 6 ≤ L) (hk : k + 26 ≤ mc ∧ n + 15339 ≤ ms) (hN : NR G M c o1 w) (hc : c ≤ 1000) (kk : ∀ (w' : va_W) (N : MS), NR G N (c + 1) o1 w' → J X 4 (k + 26) (n + 15339) (w' ++ mw o2 ad G.2.1 N) 1683 [(3, .int (nI i)), (2, .ref o2), (1, .ref o1), (0, .ref b)] []) : J X 4 k n (w ++ mw o2 ad G.2.1 M) 1279 [(3, .int (nI i)), (2, .ref o2), (1, .ref o1), (0, .ref b)] [] := by
  refine j_aload_n 1280 C dL_law_1279 rfl rfl ?_
  refine j_aload_n 1281 C dL_law_1280 rfl rfl ?_
  refine j_iload_n 1282 C dL_law_1281 rfl rfl ?_
  refine j_iconst 1283 C dL_law_1282 rfl (v := nI 1) (by decide) ?_
  refine j_iaddN 1284 C dL_law_1283 rfl ?_
  refine j_ialdX 1285 C hX hL dL_law_1284 rfl _ (by omega) rfl ?_
  refine j_aload_n 1286 C dL_law_1285 rfl rfl ?_
  refine j_iload_n 1287 C dL_law_1286 rfl rfl ?_
  refine j_iconst 1288 C dL_law_1287 rfl (v := nI 2) (by decide) ?_
  refine j_iaddN 1289 C dL_law_1288 rfl ?_
  refine j_ialdX 1290 C hX hL dL_law_1289 rfl _ (by omega) rfl ?_
  refine j_stc 1293 C dL_law_1290 rfl cwL_152 (cs_sitting hN hc) rfl rfl (by omega) hk rfl (Nat.le_of_ble_eq_true rfl) (fun v w1 hv => ?_)
  obtain ⟨rfl, hN1⟩ := hv
  refine j_aload_n 1294 C dL_law_1293 rfl rfl ?_
  refine j_aload_n 1295 C dL_law_1294 rfl rfl ?_
  refine j_iload_n 1296 C dL_law_1295 rfl rfl ?_
  refine j_iconst 1297 C dL_law_1296 rfl (v := nI 1) (by decide) ?_
  refine j_iaddN 1298 C dL_law_1297 rfl ?_
  refine j_ialdX 1299 C hX hL dL_law_1298 rfl _ (by omega) rfl ?_
  refine j_aload_n 1300 C dL_law_1299 rfl rfl ?_
  refine j_iload_n 1301 C dL_law_1300 rfl rfl ?_
  refine j_iconst 1302 C dL_law_1301 rfl (v := nI 2) (by decide) ?_
  refine j_iaddN 1303 C dL_law_1302 rfl ?_
  refine j_ialdX 1304 C hX hL dL_law_1303 rfl _ (by omega) rfl ?_
  refine j_rsc 1307 C dL_law_1304 rfl cwL_155 (rq_sitting (NR_rf hN)) rfl rfl (by omega) hk rfl (Nat.le_of_ble_eq_true rfl) (fun v N hv => ?_)
  obtain ⟨rfl, hE⟩ := hv
  refine j_icmp_eq 1683 1310 C dL_law_1307 (by decide) rfl (fun _ => ?_) (fun z => absurd rfl z)
  exact kk w1 N (NR_m (NR_eq hN1 hE) (by omega))
theorem lwc_34 (C : Cx X l G code 4 R_law (some .boolean) d mc ms post) (hd : 20 ≤ d) (hX : SX X b L xs) (hL : L ≤ 3072) (hi : i + 6 ≤ L) (hk : k + 26 ≤ mc ∧ n + 15339 ≤ ms) (hN : NR G M c o1 w) (hc : c ≤ 1000) (kk : ∀ (w' : va_W) (N : MS), NR G N (c + 1) o1 w' → J X 4 (k + 26) (n + 15339) (w' ++ mw o2 ad G.2.1 N) 1683 [(3, .int (nI i)), (2, .ref o2), (1, .ref o1), (0, .ref b)] []) : J X 4 k n (w ++ mw o2 ad G.2.1 M) 1312 [(3, .int (nI i)), (2, .ref o2), (1, .ref o1), (0, .ref b)] [] := by
  refine j_aload_n 1313 C dL_law_1312 rfl rfl ?_
  refine j_aload_n 1314 C dL_law_1313 rfl rfl ?_
  refine j_iload_n 1315 C dL_law_1314 rfl rfl ?_
  refine j_iconst 1316 C dL_law_1315 rfl (v := nI 1) (by decide) ?_
  refine j_iaddN 1317 C dL_law_1316 rfl ?_
  refine j_ialdX 1318 C hX hL dL_law_1317 rfl _ (by omega) rfl ?_
  refine j_aload_n 1319 C dL_law_1318 rfl rfl ?_
  refine j_iload_n 1320 C dL_law_1319 rfl rfl ?_
  refine j_iconst 1321 C dL_law_1320 rfl (v := nI 2) (by decide) ?_
  refine j_iaddN 1322 C dL_law_1321 rfl ?_
  refine j_ialdX 1323 C hX hL dL_law_1322 rfl _ (by omega) rfl ?_
  refine j_stc 1326 C dL_law_1323 rfl cwL_156 (cs_book hN hc) rfl rfl (by omega) hk rfl (Nat.le_of_ble_eq_true rfl) (fun v w1 hv => ?_)
  obtain ⟨rfl, hN1⟩ := hv
  refine j_aload_n 1327 C dL_law_1326 rfl rfl ?_
  refine j_aload_n 1328 C dL_law_1327 rfl rfl ?_
  refine j_iload_n 1329 C dL_law_1328 rfl rfl ?_
  refine j_iconst 1330 C dL_law_1329 rfl (v := nI 1) (by decide) ?_
  refine j_iaddN 1331 C dL_law_1330 rfl ?_
  refine j_ialdX 1332 C hX hL dL_law_1331 rfl _ (by omega) rfl ?_
  refine j_aload_n 1333 C dL_law_1332 rfl rfl ?_
  refine j_iload_n 1334 C dL_law_1333 rfl rfl ?_
  refine j_iconst 1335 C dL_law_1334 rfl (v := nI 2) (by decide) ?_
  refine j_iaddN 1336 C dL_law_1335 rfl ?_
  refine j_ialdX 1337 C hX hL dL_law_1336 rfl _ (by omega) rfl ?_
  refine j_rsc 1340 C dL_law_1337 rfl cwL_159 (rq_book (NR_rf hN)) rfl rfl (by omega) hk rfl (Nat.le_of_ble_eq_true rfl) (fun v N hv => ?_)
  obtain ⟨rfl, hE⟩ := hv
  refine j_icmp_eq 1683 1343 C dL_law_1340 (by decide) rfl (fun _ => ?_) (fun z => absurd rfl z)
  exact kk w1 N (NR_m (NR_eq hN1 hE) (by omega))
theorem lwc_35 (C : Cx X l G code 4 R_law (some .boolean) d mc ms post) (hd : 20 ≤ d) (hX : SX X b L xs) (hL : L ≤ 3072) (hi : i + 6 ≤ L) (hk : k + 26 ≤ mc ∧ n + 15339 ≤ ms) (hN : NR G M c o1 w) (hc : c ≤ 1000) (kk : ∀ (w' : va_W) (N : MS), NR G N (c + 1) o1 w' → J X 4 (k + 26) (n + 15339) (w' ++ mw o2 ad G.2.1 N) 1683 [(3, .int (nI i)), (2, .ref o2), (1, .ref o1), (0, .ref b)] []) : J X 4 k n (w ++ mw o2 ad G.2.1 M) 1345 [(3, .int (nI i)), (2, .ref o2), (1, .ref o1), (0, .ref b)] [] := by
  refine j_aload_n 1346 C dL_law_1345 rfl rfl ?_
  refine j_aload_n 1347 C dL_law_1346 rfl rfl ?_
  refine j_iload_n 1348 C dL_law_1347 rfl rfl ?_
  refine j_iconst 1349 C dL_law_1348 rfl (v := nI 1) (by decide) ?_
  refine j_iaddN 1350 C dL_law_1349 rfl ?_
  refine j_ialdX 1351 C hX hL dL_law_1350 rfl _ (by omega) rfl ?_
  refine j_stc 1354 C dL_law_1351 rfl cwL_160 (cs_parts hN hc) rfl rfl (by omega) hk rfl (Nat.le_of_ble_eq_true rfl) (fun v w1 hv => ?_)
  obtain ⟨rfl, hN1⟩ := hv
  refine j_aload_n 1355 C dL_law_1354 rfl rfl ?_
  refine j_aload_n 1356 C dL_law_1355 rfl rfl ?_
  refine j_iload_n 1357 C dL_law_1356 rfl rfl ?_
  refine j_iconst 1358 C dL_law_1357 rfl (v := nI 1) (by decide) ?_
  refine j_iaddN 1359 C dL_law_1358 rfl ?_
  refine j_ialdX 1360 C hX hL dL_law_1359 rfl _ (by omega) rfl ?_
  refine j_rsc 1363 C dL_law_1360 rfl cwL_163 (rq_parts (NR_rf hN)) rfl rfl (by omega) hk rfl (Nat.le_of_ble_eq_true rfl) (fun v N hv => ?_)
  obtain ⟨rfl, hE⟩ := hv
  refine j_icmp_eq 1683 1366 C dL_law_1363 (by decide) rfl (fun _ => ?_) (fun z => absurd rfl z)
  exact kk w1 N (NR_m (NR_eq hN1 hE) (by omega))
theorem lwc_36 (C : Cx X l G code 4 R_law (some .boolean) d mc ms post) (hd : 20 ≤ d) (hX : SX X b L xs) (hL : L ≤ 3072) (hi : i + 6 ≤ L) (hk : k + 26 ≤ mc ∧ n + 15339 ≤ ms) (hN : NR G M c o1 w) (hc : c ≤ 1000) (kk : ∀ (w' : va_W) (N : MS), NR G N (c + 1) o1 w' → J X 4 (k + 26) (n + 15339) (w' ++ mw o2 ad G.2.1 N) 1683 [(3, .int (nI i)), (2, .ref o2), (1, .ref o1), (0, .ref b)] []) : J X 4 k n (w ++ mw o2 ad G.2.1 M) 1368 [(3, .int (nI i)), (2, .ref o2), (1, .ref o1), (0, .ref b)] [] := by
  refine j_aload_n 1369 C dL_law_1368 rfl rfl ?_
  refine j_stc 1372 C dL_law_1369 rfl cwL_164 (cs_forget hN hc) rfl rfl (by omega) hk rfl (Nat.le_of_ble_eq_true rfl) (fun v w1 hv => ?_)
  obtain ⟨rfl, hN1⟩ := hv
  refine j_aload_n 1373 C dL_law_1372 rfl rfl ?_
  refine j_rsc 1376 C dL_law_1373 rfl cwL_167 (rq_forget (NR_rf hN)) rfl rfl (by omega) hk rfl (Nat.le_of_ble_eq_true rfl) (fun v N hv => ?_)
  obtain ⟨rfl, hE⟩ := hv
  refine j_icmp_eq 1683 1379 C dL_law_1376 (by decide) rfl (fun _ => ?_) (fun z => absurd rfl z)
  exact kk w1 N (NR_m (NR_eq hN1 hE) (by omega))
theorem lwc_37 (C : Cx X l G code 4 R_law (some .boolean) d mc ms post) (hd : 20 ≤ d) (hX : SX X b L xs) (hL : L ≤ 3072) (hi : i + 6 ≤ L) (hk : k + 26 ≤ mc ∧ n + 15339 ≤ ms) (hN : NR G M c o1 w) (hc : c ≤ 1000) (kk : ∀ (w' : va_W) (N : MS), NR G N (c + 1) o1 w' → J X 4 (k + 26) (n + 15339) (w' ++ mw o2 ad G.2.1 N) 1683 [(3, .int (nI i)), (2, .ref o2), (1, .ref o1), (0, .ref b)] []) : J X 4 k n (w ++ mw o2 ad G.2.1 M) 1381 [(3, .int (nI i)), (2, .ref o2), (1, .ref o1), (0, .ref b)] [] := by
  refine j_aload_n 1382 C dL_law_1381 rfl rfl ?_
  refine j_aload_n 1383 C dL_law_1382 rfl rfl ?_
  refine j_iload_n 1384 C dL_law_1383 rfl rfl ?_
  refine j_iconst 1385 C dL_law_1384 rfl (v := nI 1) (by decide) ?_
  refine j_iaddN 1386 C dL_law_1385 rfl ?_
  refine j_ialdX 1387 C hX hL dL_law_1386 rfl _ (by omega) rfl ?_
  refine j_aload_n 1388 C dL_law_1387 rfl rfl ?_
  refine j_iload_n 1389 C dL_law_1388 rfl rfl ?_
  refine j_iconst 1390 C dL_law_1389 rfl (v := nI 2) (by decide) ?_
  refine j_iaddN 1391 C dL_law_1390 rfl ?_
  refine j_ialdX 1392 C hX hL dL_law_1391 rfl _ (by omega) rfl ?_
  refine j_aload_n 1393 C dL_law_1392 rfl rfl ?_
  refine j_iload_n 1394 C dL_law_1393 rfl rfl ?_
  refine j_iconst 1395 C dL_law_1394 rfl (v := nI 3) (by decide) ?_
  refine j_iaddN 1396 C dL_law_1395 rfl ?_
  refine j_ialdX 1397 C hX hL dL_law_1396 rfl _ (by omega) rfl ?_
  refine j_aload_n 1398 C dL_law_1397 rfl rfl ?_
  refine j_iload_n 1399 C dL_law_1398 rfl rfl ?_
  refine j_iconst 1400 C dL_law_1399 rfl (v := nI 4) (by decide) ?_
  refine j_iaddN 1401 C dL_law_1400 rfl ?_
  refine j_ialdX 1402 C hX hL dL_law_1401 rfl _ (by omega) rfl ?_
  refine j_stc 1405 C dL_law_1402 rfl cwL_168 (cs_law hN hc) rfl rfl (by omega) hk rfl (Nat.le_of_ble_eq_true rfl) (fun v w1 hv => ?_)
  obtain ⟨rfl, hN1⟩ := hv
  refine j_aload_n 1406 C dL_law_1405 rfl rfl ?_
  refine j_aload_n 1407 C dL_law_1406 rfl rfl ?_
  refine j_iload_n 1408 C dL_law_1407 rfl rfl ?_
  refine j_iconst 1409 C dL_law_1408 rfl (v := nI 1) (by decide) ?_
  refine j_iaddN 1410 C dL_law_1409 rfl ?_
  refine j_ialdX 1411 C hX hL dL_law_1410 rfl _ (by omega) rfl ?_
  refine j_aload_n 1412 C dL_law_1411 rfl rfl ?_
  refine j_iload_n 1413 C dL_law_1412 rfl rfl ?_
  refine j_iconst 1414 C dL_law_1413 rfl (v := nI 2) (by decide) ?_
  refine j_iaddN 1415 C dL_law_1414 rfl ?_
  refine j_ialdX 1416 C hX hL dL_law_1415 rfl _ (by omega) rfl ?_
  refine j_aload_n 1417 C dL_law_1416 rfl rfl ?_
  refine j_iload_n 1418 C dL_law_1417 rfl rfl ?_
  refine j_iconst 1419 C dL_law_1418 rfl (v := nI 3) (by decide) ?_
  refine j_iaddN 1420 C dL_law_1419 rfl ?_
  refine j_ialdX 1421 C hX hL dL_law_1420 rfl _ (by omega) rfl ?_
  refine j_aload_n 1422 C dL_law_1421 rfl rfl ?_
  refine j_iload_n 1423 C dL_law_1422 rfl rfl ?_
  refine j_iconst 1424 C dL_law_1423 rfl (v := nI 4) (by decide) ?_
  refine j_iaddN 1425 C dL_law_1424 rfl ?_
  refine j_ialdX 1426 C hX hL dL_law_1425 rfl _ (by omega) rfl ?_
  refine j_rsc 1429 C dL_law_1426 rfl cwL_172 (rq_law (NR_rf hN)) rfl rfl (by omega) hk rfl (Nat.le_of_ble_eq_true rfl) (fun v N hv => ?_)
  obtain ⟨rfl, hE⟩ := hv
  refine j_lcmp 1430 C dL_law_1429 rfl ?_
  refine j_if_eqL 1683 1433 C dL_law_1430 (by decide) rfl (fun _ => ?_) (fun z => absurd rfl z)
  exact kk w1 N (NR_m (NR_eq hN1 hE) (by omega))
theorem lwc_38 (C : Cx X l G code 4 R_law (some .boolean) d mc ms post) (hd : 20 ≤ d) (hX : SX X b L xs) (hL : L ≤ 3072) (hi : i + 6 ≤ L) (hk : k + 26 ≤ mc ∧ n + 15339 ≤ ms) (hN : NR G M c o1 w) (hc : c ≤ 1000) (kk : ∀ (w' : va_W) (N : MS), NR G N (c + 1) o1 w' → J X 4 (k + 26) (n + 15339) (w' ++ mw o2 ad G.2.1 N) 1683 [(3, .int (nI i)), (2, .ref o2), (1, .ref o1), (0, .ref b)] []) : J X 4 k n (w ++ mw o2 ad G.2.1 M) 1435 [(3, .int (nI i)), (2, .ref o2), (1, .ref o1), (0, .ref b)] [] := by
  refine j_aload_n 1436 C dL_law_1435 rfl rfl ?_
  refine j_aload_n 1437 C dL_law_1436 rfl rfl ?_
  refine j_iload_n 1438 C dL_law_1437 rfl rfl ?_
  refine j_iconst 1439 C dL_law_1438 rfl (v := nI 1) (by decide) ?_
  refine j_iaddN 1440 C dL_law_1439 rfl ?_
  refine j_ialdX 1441 C hX hL dL_law_1440 rfl _ (by omega) rfl ?_
  refine j_stc 1444 C dL_law_1441 rfl cwL_173 (cs_count hN hc) rfl rfl (by omega) hk rfl (Nat.le_of_ble_eq_true rfl) (fun v w1 hv => ?_)
  obtain ⟨rfl, hN1⟩ := hv
  refine j_aload_n 1445 C dL_law_1444 rfl rfl ?_
  refine j_aload_n 1446 C dL_law_1445 rfl rfl ?_
  refine j_iload_n 1447 C dL_law_1446 rfl rfl ?_
  refine j_iconst 1448 C dL_law_1447 rfl (v := nI 1) (by decide) ?_
  refine j_iaddN 1449 C dL_law_1448 rfl ?_
  refine j_ialdX 1450 C hX hL dL_law_1449 rfl _ (by omega) rfl ?_
  refine j_rsc 1453 C dL_law_1450 rfl cwL_176 (rq_count (NR_rf hN)) rfl rfl (by omega) hk rfl (Nat.le_of_ble_eq_true rfl) (fun v N hv => ?_)
  obtain ⟨rfl, hE⟩ := hv
  refine j_icmp_eq 1683 1456 C dL_law_1453 (by decide) rfl (fun _ => ?_) (fun z => absurd rfl z)
  exact kk w1 N (NR_m (NR_eq hN1 hE) (by omega))
theorem lwc_39 (C : Cx X l G code 4 R_law (some .boolean) d mc ms post) (hd : 20 ≤ d) (hX : SX X b L xs) (hL : L ≤ 3072) (hi : i + 6 ≤ L) (hk : k + 26 ≤ mc ∧ n + 15339 ≤ ms) (hN : NR G M c o1 w) (hc : c ≤ 1000) (kk : ∀ (w' : va_W) (N : MS), NR G N (c + 1) o1 w' → J X 4 (k + 26) (n + 15339) (w' ++ mw o2 ad G.2.1 N) 1683 [(3, .int (nI i)), (2, .ref o2), (1, .ref o1), (0, .ref b)] []) : J X 4 k n (w ++ mw o2 ad G.2.1 M) 1458 [(3, .int (nI i)), (2, .ref o2), (1, .ref o1), (0, .ref b)] [] := by
  refine j_aload_n 1459 C dL_law_1458 rfl rfl ?_
  refine j_aload_n 1460 C dL_law_1459 rfl rfl ?_
  refine j_iload_n 1461 C dL_law_1460 rfl rfl ?_
  refine j_iconst 1462 C dL_law_1461 rfl (v := nI 1) (by decide) ?_
  refine j_iaddN 1463 C dL_law_1462 rfl ?_
  refine j_ialdX 1464 C hX hL dL_law_1463 rfl _ (by omega) rfl ?_
  refine j_stc 1467 C dL_law_1464 rfl cwL_177 (cs_keep hN hc) rfl rfl (by omega) hk rfl (Nat.le_of_ble_eq_true rfl) (fun v w1 hv => ?_)
  obtain ⟨rfl, hN1⟩ := hv
  refine j_aload_n 1468 C dL_law_1467 rfl rfl ?_
  refine j_aload_n 1469 C dL_law_1468 rfl rfl ?_
  refine j_iload_n 1470 C dL_law_1469 rfl rfl ?_
  refine j_iconst 1471 C dL_law_1470 rfl (v := nI 1) (by decide) ?_
  refine j_iaddN 1472 C dL_law_1471 rfl ?_
  refine j_ialdX 1473 C hX hL dL_law_1472 rfl _ (by omega) rfl ?_
  refine j_rsc 1476 C dL_law_1473 rfl cwL_180 (rq_keep (NR_rf hN)) rfl rfl (by omega) hk rfl (Nat.le_of_ble_eq_true rfl) (fun v N hv => ?_)
  obtain ⟨rfl, hE⟩ := hv
  refine j_icmp_eq 1683 1479 C dL_law_1476 (by decide) rfl (fun _ => ?_) (fun z => absurd rfl z)
  exact kk w1 N (NR_m (NR_eq hN1 hE) (by omega))
theorem lwc_40 (C : Cx X l G code 4 R_law (some .boolean) d mc ms post) (hd : 20 ≤ d) (hX : SX X b L xs) (hL : L ≤ 3072) (hi : i + 6 ≤ L) (hk : k + 26 ≤ mc ∧ n + 15339 ≤ ms) (hN : NR G M c o1 w) (hc : c ≤ 1000) (kk : ∀ (w' : va_W) (N : MS), NR G N (c + 1) o1 w' → J X 4 (k + 26) (n + 15339) (w' ++ mw o2 ad G.2.1 N) 1683 [(3, .int (nI i)), (2, .ref o2), (1, .ref o1), (0, .ref b)] []) : J X 4 k n (w ++ mw o2 ad G.2.1 M) 1481 [(3, .int (nI i)), (2, .ref o2), (1, .ref o1), (0, .ref b)] [] := by
  refine j_aload_n 1482 C dL_law_1481 rfl rfl ?_
  refine j_aload_n 1483 C dL_law_1482 rfl rfl ?_
  refine j_iload_n 1484 C dL_law_1483 rfl rfl ?_
  refine j_iconst 1485 C dL_law_1484 rfl (v := nI 1) (by decide) ?_
  refine j_iaddN 1486 C dL_law_1485 rfl ?_
  refine j_ialdX 1487 C hX hL dL_law_1486 rfl _ (by omega) rfl ?_
  refine j_stc 1490 C dL_law_1487 rfl cwL_181 (cs_back hN hc) rfl rfl (by omega) hk rfl (Nat.le_of_ble_eq_true rfl) (fun v w1 hv => ?_)
  obtain ⟨rfl, hN1⟩ := hv
  refine j_aload_n 1491 C dL_law_1490 rfl rfl ?_
  refine j_aload_n 1492 C dL_law_1491 rfl rfl ?_
  refine j_iload_n 1493 C dL_law_1492 rfl rfl ?_
  refine j_iconst 1494 C dL_law_1493 rfl (v := nI 1) (by decide) ?_
  refine j_iaddN 1495 C dL_law_1494 rfl ?_
  refine j_ialdX 1496 C hX hL dL_law_1495 rfl _ (by omega) rfl ?_
  refine j_rsc 1499 C dL_law_1496 rfl cwL_184 (rq_back (NR_rf hN)) rfl rfl (by omega) hk rfl (Nat.le_of_ble_eq_true rfl) (fun v N hv => ?_)
  obtain ⟨rfl, hE⟩ := hv
  refine j_icmp_eq 1683 1502 C dL_law_1499 (by decide) rfl (fun _ => ?_) (fun z => absurd rfl z)
  exact kk w1 N (NR_m (NR_eq hN1 hE) (by omega))
theorem lwc_41 (C : Cx X l G code 4 R_law (some .boolean) d mc ms post) (hd : 20 ≤ d) (hX : SX X b L xs) (hL : L ≤ 3072) (hi : i + 6 ≤ L) (hk : k + 26 ≤ mc ∧ n + 15339 ≤ ms) (hN : NR G M c o1 w) (hc : c ≤ 1000) (kk : ∀ (w' : va_W) (N : MS), NR G N (c + 1) o1 w' → J X 4 (k + 26) (n + 15339) (w' ++ mw o2 ad G.2.1 N) 1683 [(3, .int (nI i)), (2, .ref o2), (1, .ref o1), (0, .ref b)] []) : J X 4 k n (w ++ mw o2 ad G.2.1 M) 1504 [(3, .int (nI i)), (2, .ref o2), (1, .ref o1), (0, .ref b)] [] := by
  refine j_aload_n 1505 C dL_law_1504 rfl rfl ?_
  refine j_aload_n 1506 C dL_law_1505 rfl rfl ?_
  refine j_iload_n 1507 C dL_law_1506 rfl rfl ?_
  refine j_iconst 1508 C dL_law_1507 rfl (v := nI 1) (by decide) ?_
  refine j_iaddN 1509 C dL_law_1508 rfl ?_
  refine j_ialdX 1510 C hX hL dL_law_1509 rfl _ (by omega) rfl ?_
  refine j_aload_n 1511 C dL_law_1510 rfl rfl ?_
  refine j_iload_n 1512 C dL_law_1511 rfl rfl ?_
  refine j_iconst 1513 C dL_law_1512 rfl (v := nI 2) (by decide) ?_
  refine j_iaddN 1514 C dL_law_1513 rfl ?_
  refine j_ialdX 1515 C hX hL dL_law_1514 rfl _ (by omega) rfl ?_
  refine j_aload_n 1516 C dL_law_1515 rfl rfl ?_
  refine j_iload_n 1517 C dL_law_1516 rfl rfl ?_
  refine j_iconst 1518 C dL_law_1517 rfl (v := nI 3) (by decide) ?_
  refine j_iaddN 1519 C dL_law_1518 rfl ?_
  refine j_ialdX 1520 C hX hL dL_law_1519 rfl _ (by omega) rfl ?_
  refine j_stc 1523 C dL_law_1520 rfl cwL_185 (cs_row hN hc) rfl rfl (by omega) hk rfl (Nat.le_of_ble_eq_true rfl) (fun v w1 hv => ?_)
  obtain ⟨rfl, hN1⟩ := hv
  refine j_aload_n 1524 C dL_law_1523 rfl rfl ?_
  refine j_aload_n 1525 C dL_law_1524 rfl rfl ?_
  refine j_iload_n 1526 C dL_law_1525 rfl rfl ?_
  refine j_iconst 1527 C dL_law_1526 rfl (v := nI 1) (by decide) ?_
  refine j_iaddN 1528 C dL_law_1527 rfl ?_
  refine j_ialdX 1529 C hX hL dL_law_1528 rfl _ (by omega) rfl ?_
  refine j_aload_n 1530 C dL_law_1529 rfl rfl ?_
  refine j_iload_n 1531 C dL_law_1530 rfl rfl ?_
  refine j_iconst 1532 C dL_law_1531 rfl (v := nI 2) (by decide) ?_
  refine j_iaddN 1533 C dL_law_1532 rfl ?_
  refine j_ialdX 1534 C hX hL dL_law_1533 rfl _ (by omega) rfl ?_
  refine j_aload_n 1535 C dL_law_1534 rfl rfl ?_
  refine j_iload_n 1536 C dL_law_1535 rfl rfl ?_
  refine j_iconst 1537 C dL_law_1536 rfl (v := nI 3) (by decide) ?_
  refine j_iaddN 1538 C dL_law_1537 rfl ?_
  refine j_ialdX 1539 C hX hL dL_law_1538 rfl _ (by omega) rfl ?_
  refine j_rsc 1542 C dL_law_1539 rfl cwL_188 (rq_row (NR_rf hN)) rfl rfl (by omega) hk rfl (Nat.le_of_ble_eq_true rfl) (fun v N hv => ?_)
  obtain ⟨rfl, hE⟩ := hv
  refine j_icmp_eq 1683 1545 C dL_law_1542 (by decide) rfl (fun _ => ?_) (fun z => absurd rfl z)
  exact kk w1 N (NR_m (NR_eq hN1 hE) (by omega))
theorem lwc_42 (C : Cx X l G code 4 R_law (some .boolean) d mc ms post) (hd : 20 ≤ d) (hX : SX X b L xs) (hL : L ≤ 3072) (hi : i + 6 ≤ L) (hk : k + 26 ≤ mc ∧ n + 15339 ≤ ms) (hN : NR G M c o1 w) (hc : c ≤ 1000) (kk : ∀ (w' : va_W) (N : MS), NR G N (c + 1) o1 w' → J X 4 (k + 26) (n + 15339) (w' ++ mw o2 ad G.2.1 N) 1683 [(3, .int (nI i)), (2, .ref o2), (1, .ref o1), (0, .ref b)] []) : J X 4 k n (w ++ mw o2 ad G.2.1 M) 1547 [(3, .int (nI i)), (2, .ref o2), (1, .ref o1), (0, .ref b)] [] := by
  refine j_aload_n 1548 C dL_law_1547 rfl rfl ?_
  refine j_aload_n 1549 C dL_law_1548 rfl rfl ?_
  refine j_iload_n 1550 C dL_law_1549 rfl rfl ?_
  refine j_iconst 1551 C dL_law_1550 rfl (v := nI 1) (by decide) ?_
  refine j_iaddN 1552 C dL_law_1551 rfl ?_
  refine j_ialdX 1553 C hX hL dL_law_1552 rfl _ (by omega) rfl ?_
  refine j_aload_n 1554 C dL_law_1553 rfl rfl ?_
  refine j_iload_n 1555 C dL_law_1554 rfl rfl ?_
  refine j_iconst 1556 C dL_law_1555 rfl (v := nI 2) (by decide) ?_
  refine j_iaddN 1557 C dL_law_1556 rfl ?_
  refine j_ialdX 1558 C hX hL dL_law_1557 rfl _ (by omega) rfl ?_
  refine j_aload_n 1559 C dL_law_1558 rfl rfl ?_
  refine j_iload_n 1560 C dL_law_1559 rfl rfl ?_
  refine j_iconst 1561 C dL_law_1560 rfl (v := nI 3) (by decide) ?_
  refine j_iaddN 1562 C dL_law_1561 rfl ?_
  refine j_ialdX 1563 C hX hL dL_law_1562 rfl _ (by omega) rfl ?_
  refine j_i2l 1564 C dL_law_1563 rfl ?_
  refine j_bipush 1566 C dL_law_1564 rfl (v := nI 32) (by decide) ?_
  refine j_lshl 1567 C dL_law_1566 rfl ?_
  refine j_aload_n 1568 C dL_law_1567 rfl rfl ?_
  refine j_iload_n 1569 C dL_law_1568 rfl rfl ?_
  refine j_iconst 1570 C dL_law_1569 rfl (v := nI 4) (by decide) ?_
  refine j_iaddN 1571 C dL_law_1570 rfl ?_
  refine j_ialdX 1572 C hX hL dL_law_1571 rfl _ (by omega) rfl ?_
  refine j_i2l 1573 C dL_law_1572 rfl ?_
  refine j_ldc2 1576 C dL_law_1573 rfl (v := 4294967295) kcL_189 ?_
  refine j_land 1577 C dL_law_1576 rfl ?_
  refine j_lor 1578 C dL_law_1577 rfl ?_
  refine j_stc 1581 C dL_law_1578 rfl cwL_191 (cs_write hN hc) rfl rfl (by omega) hk rfl (Nat.le_of_ble_eq_true rfl) (fun v w1 hv => ?_)
  obtain ⟨rfl, hN1⟩ := hv
  refine j_aload_n 1582 C dL_law_1581 rfl rfl ?_
  refine j_aload_n 1583 C dL_law_1582 rfl rfl ?_
  refine j_iload_n 1584 C dL_law_1583 rfl rfl ?_
  refine j_iconst 1585 C dL_law_1584 rfl (v := nI 1) (by decide) ?_
  refine j_iaddN 1586 C dL_law_1585 rfl ?_
  refine j_ialdX 1587 C hX hL dL_law_1586 rfl _ (by omega) rfl ?_
  refine j_aload_n 1588 C dL_law_1587 rfl rfl ?_
  refine j_iload_n 1589 C dL_law_1588 rfl rfl ?_
  refine j_iconst 1590 C dL_law_1589 rfl (v := nI 2) (by decide) ?_
  refine j_iaddN 1591 C dL_law_1590 rfl ?_
  refine j_ialdX 1592 C hX hL dL_law_1591 rfl _ (by omega) rfl ?_
  refine j_aload_n 1593 C dL_law_1592 rfl rfl ?_
  refine j_iload_n 1594 C dL_law_1593 rfl rfl ?_
  refine j_iconst 1595 C dL_law_1594 rfl (v := nI 3) (by decide) ?_
  refine j_iaddN 1596 C dL_law_1595 rfl ?_
  refine j_ialdX 1597 C hX hL dL_law_1596 rfl _ (by omega) rfl ?_
  refine j_i2l 1598 C dL_law_1597 rfl ?_
  refine j_bipush 1600 C dL_law_1598 rfl (v := nI 32) (by decide) ?_
  refine j_lshl 1601 C dL_law_1600 rfl ?_
  refine j_aload_n 1602 C dL_law_1601 rfl rfl ?_
  refine j_iload_n 1603 C dL_law_1602 rfl rfl ?_
  refine j_iconst 1604 C dL_law_1603 rfl (v := nI 4) (by decide) ?_
  refine j_iaddN 1605 C dL_law_1604 rfl ?_
  refine j_ialdX 1606 C hX hL dL_law_1605 rfl _ (by omega) rfl ?_
  refine j_i2l 1607 C dL_law_1606 rfl ?_
  refine j_ldc2 1610 C dL_law_1607 rfl (v := 4294967295) kcL_189 ?_
  refine j_land 1611 C dL_law_1610 rfl ?_
  refine j_lor 1612 C dL_law_1611 rfl ?_
  refine j_rsc 1615 C dL_law_1612 rfl cwL_195 (rq_write (NR_rf hN)) rfl rfl (by omega) hk rfl (Nat.le_of_ble_eq_true rfl) (fun v N hv => ?_)
  obtain ⟨rfl, hE⟩ := hv
  refine j_icmp_eq 1683 1618 C dL_law_1615 (by decide) rfl (fun _ => ?_) (fun z => absurd rfl z)
  exact kk w1 N (NR_m (NR_eq hN1 hE) (by omega))
theorem lwc_43 (C : Cx X l G code 4 R_law (some .boolean) d mc ms post) (hd : 20 ≤ d) (hX : SX X b L xs) (hL : L ≤ 3072) (hi : i + 6 ≤ L) (hk : k + 26 ≤ mc ∧ n + 15339 ≤ ms) (hN : NR G M c o1 w) (hc : c ≤ 1000) (kk : ∀ (w' : va_W) (N : MS), NR G N (c + 1) o1 w' → J X 4 (k + 26) (n + 15339) (w' ++ mw o2 ad G.2.1 N) 1683 [(3, .int (nI i)), (2, .ref o2), (1, .ref o1), (0, .ref b)] []) : J X 4 k n (w ++ mw o2 ad G.2.1 M) 1620 [(3, .int (nI i)), (2, .ref o2), (1, .ref o1), (0, .ref b)] [] := by
  refine j_aload_n 1621 C dL_law_1620 rfl rfl ?_
  refine j_aload_n 1622 C dL_law_1621 rfl rfl ?_
  refine j_iload_n 1623 C dL_law_1622 rfl rfl ?_
  refine j_iconst 1624 C dL_law_1623 rfl (v := nI 1) (by decide) ?_
  refine j_iaddN 1625 C dL_law_1624 rfl ?_
  refine j_ialdX 1626 C hX hL dL_law_1625 rfl _ (by omega) rfl ?_
  refine j_aload_n 1627 C dL_law_1626 rfl rfl ?_
  refine j_iload_n 1628 C dL_law_1627 rfl rfl ?_
  refine j_iconst 1629 C dL_law_1628 rfl (v := nI 2) (by decide) ?_
  refine j_iaddN 1630 C dL_law_1629 rfl ?_
  refine j_ialdX 1631 C hX hL dL_law_1630 rfl _ (by omega) rfl ?_
  refine j_aload_n 1632 C dL_law_1631 rfl rfl ?_
  refine j_iload_n 1633 C dL_law_1632 rfl rfl ?_
  refine j_iconst 1634 C dL_law_1633 rfl (v := nI 3) (by decide) ?_
  refine j_iaddN 1635 C dL_law_1634 rfl ?_
  refine j_ialdX 1636 C hX hL dL_law_1635 rfl _ (by omega) rfl ?_
  refine j_aload_n 1637 C dL_law_1636 rfl rfl ?_
  refine j_iload_n 1638 C dL_law_1637 rfl rfl ?_
  refine j_iconst 1639 C dL_law_1638 rfl (v := nI 4) (by decide) ?_
  refine j_iaddN 1640 C dL_law_1639 rfl ?_
  refine j_ialdX 1641 C hX hL dL_law_1640 rfl _ (by omega) rfl ?_
  refine j_aload_n 1642 C dL_law_1641 rfl rfl ?_
  refine j_iload_n 1643 C dL_law_1642 rfl rfl ?_
  refine j_iconst 1644 C dL_law_1643 rfl (v := nI 5) (by decide) ?_
  refine j_iaddN 1645 C dL_law_1644 rfl ?_
  refine j_ialdX 1646 C hX hL dL_law_1645 rfl _ (by omega) rfl ?_
  refine j_stc 1649 C dL_law_1646 rfl cwL_196 (cs_paste hN hc) rfl rfl (by omega) hk rfl (Nat.le_of_ble_eq_true rfl) (fun v w1 hv => ?_)
  obtain ⟨rfl, hN1⟩ := hv
  refine j_aload_n 1650 C dL_law_1649 rfl rfl ?_
  refine j_aload_n 1651 C dL_law_1650 rfl rfl ?_
  refine j_iload_n 1652 C dL_law_1651 rfl rfl ?_
  refine j_iconst 1653 C dL_law_1652 rfl (v := nI 1) (by decide) ?_
  refine j_iaddN 1654 C dL_law_1653 rfl ?_
  refine j_ialdX 1655 C hX hL dL_law_1654 rfl _ (by omega) rfl ?_
  refine j_aload_n 1656 C dL_law_1655 rfl rfl ?_
  refine j_iload_n 1657 C dL_law_1656 rfl rfl ?_
  refine j_iconst 1658 C dL_law_1657 rfl (v := nI 2) (by decide) ?_
  refine j_iaddN 1659 C dL_law_1658 rfl ?_
  refine j_ialdX 1660 C hX hL dL_law_1659 rfl _ (by omega) rfl ?_
  refine j_aload_n 1661 C dL_law_1660 rfl rfl ?_
  refine j_iload_n 1662 C dL_law_1661 rfl rfl ?_
  refine j_iconst 1663 C dL_law_1662 rfl (v := nI 3) (by decide) ?_
  refine j_iaddN 1664 C dL_law_1663 rfl ?_
  refine j_ialdX 1665 C hX hL dL_law_1664 rfl _ (by omega) rfl ?_
  refine j_aload_n 1666 C dL_law_1665 rfl rfl ?_
  refine j_iload_n 1667 C dL_law_1666 rfl rfl ?_
  refine j_iconst 1668 C dL_law_1667 rfl (v := nI 4) (by decide) ?_
  refine j_iaddN 1669 C dL_law_1668 rfl ?_
  refine j_ialdX 1670 C hX hL dL_law_1669 rfl _ (by omega) rfl ?_
  refine j_aload_n 1671 C dL_law_1670 rfl rfl ?_
  refine j_iload_n 1672 C dL_law_1671 rfl rfl ?_
  refine j_iconst 1673 C dL_law_1672 rfl (v := nI 5) (by decide) ?_
  refine j_iaddN 1674 C dL_law_1673 rfl ?_
  refine j_ialdX 1675 C hX hL dL_law_1674 rfl _ (by omega) rfl ?_
  refine j_rsc 1678 C dL_law_1675 rfl cwL_199 (rq_paste (NR_rf hN)) rfl rfl (by omega) hk rfl (Nat.le_of_ble_eq_true rfl) (fun v N hv => ?_)
  obtain ⟨rfl, hE⟩ := hv
  refine j_icmp_eq 1683 1681 C dL_law_1678 (by decide) rfl (fun _ => ?_) (fun z => absurd rfl z)
  exact kk w1 N (NR_m (NR_eq hN1 hE) (by omega))
end SL3
