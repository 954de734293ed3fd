theorem cs_fault {l : Launch} {G : GG} {M : MS} {c o : Nat} {w : va_W} {x : Int32} (hN : NR G M c o w) (hc : c ≤ 1000) : Stc l G yX10_fault cX10_fault 2 (some .int) 1 [.int x] w o (fun v w' => v = some (.int (if x = 0 then M.1 19 else if x = nI 1 then M.1 20 else -1)) ∧ NR G M c o w') := by
  obtain ⟨zn, zs, zm, zh, zt, zr, zb, Sn, Ss, Sm, Sh, St, Sr, Sb, fi, fs, pa, dk, ws, ⟨rfl, hp⟩, hS, hB⟩ := hN
  obtain ⟨⟨⟨hT, hR, hU, hW⟩, hr, td, nb, ⟨hH, hhr, htd⟩, ⟨hb0, hb3, hb6⟩, hbk, hls, hbw⟩, ⟨h3, h4⟩, ⟨tn0, htn9, htn, htm, htp, hby⟩, ⟨hf2, hf3⟩, h24, h27⟩ := id hS
  refine ⟨cW G zn zs zm zh zt zr zb Sn Ss Sm Sh St Sr Sb fi fs pa dk (flat ws 9), 0, 0, _, _, _, hp, rfl, ⟨by decide, by decide, by decide⟩, K10_fault, fun v w' h => ?_⟩
  obtain ⟨rfl, rfl⟩ := h
  exact ⟨by rw [hf2, hf3], zn, zs, zm, zh, zt, zr, zb, Sn, Ss, Sm, Sh, St, Sr, Sb, fi, fs, pa, dk, ws, ⟨rfl, List.Perm.refl _⟩, hS, hB⟩
theorem cs_slips {l : Launch} {G : GG} {M : MS} {c o : Nat} {w : va_W} {x : Int32} (hN : NR G M c o w) (hc : c ≤ 1000) : Stc l G yX10_slips cX10_slips 2 (some .int) 6 [.int x] w o (fun v w' => v = some (.int (if isI x (nrw (M.2.1 1)) then f_slips (M.2.1 1) (M.2.1 2) (tn x) else -2)) ∧ NR G M c o w') := by
  obtain ⟨zn, zs, zm, zh, zt, zr, zb, Sn, Ss, Sm, Sh, St, Sr, Sb, fi, fs, pa, dk, ws, ⟨rfl, hp⟩, hS, hB⟩ := hN
  obtain ⟨⟨⟨hT, hR, hU, hW⟩, hr, td, nb, ⟨hH, hhr, htd⟩, ⟨hb0, hb3, hb6⟩, hbk, hls, hbw⟩, ⟨h3, h4⟩, ⟨tn0, htn9, htn, htm, htp, hby⟩, ⟨hf2, hf3⟩, h24, h27⟩ := id hS
  refine ⟨cW G zn zs zm zh zt zr zb Sn Ss Sm Sh St Sr Sb fi fs pa dk (flat ws 9), 0, 0, _, _, _, hp, rfl, ⟨by decide, by decide, by decide⟩, K10_slips hT hR hW hH h3 h4, fun v w' h => ?_⟩
  obtain ⟨rfl, rfl⟩ := h
  exact ⟨rfl, zn, zs, zm, zh, zt, zr, zb, Sn, Ss, Sm, Sh, St, Sr, Sb, fi, fs, pa, dk, ws, ⟨rfl, List.Perm.refl _⟩, hS, hB⟩
theorem cs_support {l : Launch} {G : GG} {M : MS} {c o : Nat} {w : va_W} {x : Int32} {y : Int32} (hN : NR G M c o w) (hc : c ≤ 1000) : Stc l G yX10_support cX10_support 3 (some .int) 5 [.int x, .int y] w o (fun v w' => v = some (.int (if isI x (nrw (M.2.1 1)) ∧ isI y (len (M.2.1 1) (tn x)) then f_sup (M.2.1 1) (M.2.1 2) (tn x) (tn y) else -2)) ∧ NR G M c o w') := by
  obtain ⟨zn, zs, zm, zh, zt, zr, zb, Sn, Ss, Sm, Sh, St, Sr, Sb, fi, fs, pa, dk, ws, ⟨rfl, hp⟩, hS, hB⟩ := hN
  obtain ⟨⟨⟨hT, hR, hU, hW⟩, hr, td, nb, ⟨hH, hhr, htd⟩, ⟨hb0, hb3, hb6⟩, hbk, hls, hbw⟩, ⟨h3, h4⟩, ⟨tn0, htn9, htn, htm, htp, hby⟩, ⟨hf2, hf3⟩, h24, h27⟩ := id hS
  refine ⟨cW G zn zs zm zh zt zr zb Sn Ss Sm Sh St Sr Sb fi fs pa dk (flat ws 9), 0, 0, _, _, _, hp, rfl, ⟨by decide, by decide, by decide⟩, K10_support hT hR hW hH h3 h4, fun v w' h => ?_⟩
  obtain ⟨rfl, rfl⟩ := h
  exact ⟨rfl, zn, zs, zm, zh, zt, zr, zb, Sn, Ss, Sm, Sh, St, Sr, Sb, fi, fs, pa, dk, ws, ⟨rfl, List.Perm.refl _⟩, hS, hB⟩
theorem cs_used {l : Launch} {G : GG} {M : MS} {c o : Nat} {w : va_W} {x : Int32} (hN : NR G M c o w) (hc : c ≤ 1000) : Stc l G yX10_used cX10_used 2 (some .int) 2 [.int x] w o (fun v w' => v = some (.int (if isI x (nrw (M.2.1 1)) then (M.2.1 1) (34 + 14 * tn x + 1 + 12) else -2)) ∧ NR G M c o w') := by
  obtain ⟨zn, zs, zm, zh, zt, zr, zb, Sn, Ss, Sm, Sh, St, Sr, Sb, fi, fs, pa, dk, ws, ⟨rfl, hp⟩, hS, hB⟩ := hN
  obtain ⟨⟨⟨hT, hR, hU, hW⟩, hr, td, nb, ⟨hH, hhr, htd⟩, ⟨hb0, hb3, hb6⟩, hbk, hls, hbw⟩, ⟨h3, h4⟩, ⟨tn0, htn9, htn, htm, htp, hby⟩, ⟨hf2, hf3⟩, h24, h27⟩ := id hS
  refine ⟨cW G zn zs zm zh zt zr zb Sn Ss Sm Sh St Sr Sb fi fs pa dk (flat ws 9), 0, 0, _, _, _, hp, rfl, ⟨by decide, by decide, by decide⟩, K10_used hT hR hW hH h3 h4 hU, fun v w' h => ?_⟩
  obtain ⟨rfl, rfl⟩ := h
  exact ⟨rfl, zn, zs, zm, zh, zt, zr, zb, Sn, Ss, Sm, Sh, St, Sr, Sb, fi, fs, pa, dk, ws, ⟨rfl, List.Perm.refl _⟩, hS, hB⟩
theorem cs_thing {l : Launch} {G : GG} {M : MS} {c o : Nat} {w : va_W} {x : Int32} {y : Int32} (hN : NR G M c o w) (hc : c ≤ 1000) : Stc l G yX10_thing cX10_thing 3 (some .int) 3 [.int x, .int y] w o (fun v w' => v = some (.int (if isI x (nrw (M.2.1 1)) then (if isI y (len (M.2.1 1) (tn x)) then (M.2.1 1) (34 + 14 * tn x + 1 + tn y) else -1) else -2)) ∧ NR G M c o w') := by
  obtain ⟨zn, zs, zm, zh, zt, zr, zb, Sn, Ss, Sm, Sh, St, Sr, Sb, fi, fs, pa, dk, ws, ⟨rfl, hp⟩, hS, hB⟩ := hN
  obtain ⟨⟨⟨hT, hR, hU, hW⟩, hr, td, nb, ⟨hH, hhr, htd⟩, ⟨hb0, hb3, hb6⟩, hbk, hls, hbw⟩, ⟨h3, h4⟩, ⟨tn0, htn9, htn, htm, htp, hby⟩, ⟨hf2, hf3⟩, h24, h27⟩ := id hS
  refine ⟨cW G zn zs zm zh zt zr zb Sn Ss Sm Sh St Sr Sb fi fs pa dk (flat ws 9), 0, 0, _, _, _, hp, rfl, ⟨by decide, by decide, by decide⟩, K10_thing hT hR hW hH h3 h4, fun v w' h => ?_⟩
  obtain ⟨rfl, rfl⟩ := h
  exact ⟨rfl, zn, zs, zm, zh, zt, zr, zb, Sn, Ss, Sm, Sh, St, Sr, Sb, fi, fs, pa, dk, ws, ⟨rfl, List.Perm.refl _⟩, hS, hB⟩
theorem cs_links {l : Launch} {G : GG} {M : MS} {c o : Nat} {w : va_W} {x : Int32} (hN : NR G M c o w) (hc : c ≤ 1000) : Stc l G yX10_links cX10_links 2 (some .int) 4 [.int x] w o (fun v w' => v = some (.int (if isI x 4 then f_links (M.2.1 2) (tn x) else -2)) ∧ NR G M c o w') := by
  obtain ⟨zn, zs, zm, zh, zt, zr, zb, Sn, Ss, Sm, Sh, St, Sr, Sb, fi, fs, pa, dk, ws, ⟨rfl, hp⟩, hS, hB⟩ := hN
  obtain ⟨⟨⟨hT, hR, hU, hW⟩, hr, td, nb, ⟨hH, hhr, htd⟩, ⟨hb0, hb3, hb6⟩, hbk, hls, hbw⟩, ⟨h3, h4⟩, ⟨tn0, htn9, htn, htm, htp, hby⟩, ⟨hf2, hf3⟩, h24, h27⟩ := id hS
  refine ⟨cW G zn zs zm zh zt zr zb Sn Ss Sm Sh St Sr Sb fi fs pa dk (flat ws 9), 0, 0, _, _, _, hp, rfl, ⟨by decide, by decide, by decide⟩, K10_links hT hR hW hH h3 h4, fun v w' h => ?_⟩
  obtain ⟨rfl, rfl⟩ := h
  exact ⟨rfl, zn, zs, zm, zh, zt, zr, zb, Sn, Ss, Sm, Sh, St, Sr, Sb, fi, fs, pa, dk, ws, ⟨rfl, List.Perm.refl _⟩, hS, hB⟩
theorem cs_strength {l : Launch} {G : GG} {M : MS} {c o : Nat} {w : va_W} {x : Int32} {y : Int32} {z : Int32} (hN : NR G M c o w) (hc : c ≤ 1000) : Stc l G yX10_strength cX10_strength 5 (some .int) 4 [.int x, .int y, .int z] w o (fun v w' => v = some (.int (if isI x 4 ∧ isI y (nth (M.2.1 1)) ∧ isI z (if tn x = 3 then 12 else nth (M.2.1 1)) then (M.2.1 2) (f_link (tn x) (tn y) (tn z)) else -2)) ∧ NR G M c o w') := by
  obtain ⟨zn, zs, zm, zh, zt, zr, zb, Sn, Ss, Sm, Sh, St, Sr, Sb, fi, fs, pa, dk, ws, ⟨rfl, hp⟩, hS, hB⟩ := hN
  obtain ⟨⟨⟨hT, hR, hU, hW⟩, hr, td, nb, ⟨hH, hhr, htd⟩, ⟨hb0, hb3, hb6⟩, hbk, hls, hbw⟩, ⟨h3, h4⟩, ⟨tn0, htn9, htn, htm, htp, hby⟩, ⟨hf2, hf3⟩, h24, h27⟩ := id hS
  refine ⟨cW G zn zs zm zh zt zr zb Sn Ss Sm Sh St Sr Sb fi fs pa dk (flat ws 9), 0, 0, _, _, _, hp, rfl, ⟨by decide, by decide, by decide⟩, K10_strength hT hR hW hH h3 h4, fun v w' h => ?_⟩
  obtain ⟨rfl, rfl⟩ := h
  exact ⟨rfl, zn, zs, zm, zh, zt, zr, zb, Sn, Ss, Sm, Sh, St, Sr, Sb, fi, fs, pa, dk, ws, ⟨rfl, List.Perm.refl _⟩, hS, hB⟩
theorem bks_cg {bk bk' : Nat → Int32} {row : Int32} : ∀ n, (∀ j, j < 6 * n → bk j = bk' j) → f_bks bk row n = f_bks bk' row n
  | 0, _ => rfl
  | n + 1, h => by rw [f_bks, f_bks, bks_cg n (fun j hj => h j (by omega)), h (6 * n) (by omega)]
theorem book_cg {bk bk' : Nat → Int32} {row : Int32} {n w : Nat} (hn : n ≤ 60) (h : ∀ j, j < 6 * n → bk j = bk' j) : f_book bk row n w = f_book bk' row n w := by
  unfold f_book
  rw [bks_cg n h]
  obtain ⟨h1, h2⟩ := f_bks_ok bk' row n hn
  by_cases e : (f_bks bk' row n).1 < 2
  · rw [if_pos e, if_pos e]
  · rw [if_neg e, if_neg e]
    obtain ⟨a, b, ha, hb, e1, e2⟩ := h2.resolve_left (fun z => by omega)
    rw [e1, e2, tn_nI (by omega), tn_nI (by omega), h _ (by omega), h _ (by omega), h _ (by omega), h _ (by omega)]
theorem fs_cg {wd : Nat → Int32} {cl cv : Int32} {bk bk' : Nat → Int32} {i : Nat} {h : Nat → Int32} (e : bk (6 * i + 2) = bk' (6 * i + 2)) : f_fs wd cl cv bk i h = f_fs wd cl cv bk' i h := by unfold f_fs; rw [e]
theorem ft_cg {wd : Nat → Int32} {cl cv : Int32} {bk bk' : Nat → Int32} : ∀ n, (∀ j, j < 6 * n → bk j = bk' j) → f_ft wd cl cv bk n = f_ft wd cl cv bk' n
  | 0, _ => rfl
  | n + 1, h => by
    rw [f_ft, f_ft, ft_cg n (fun j hj => h j (by omega))]
    cases f_ft wd cl cv bk' n with
    | none => rfl
    | some x => dsimp only; rw [fs_cg (bk := bk) (bk' := bk') (h _ (by omega)), h (6 * n) (by omega), h (6 * n + 1) (by omega), h (6 * n + 5) (by omega)]
theorem ftn_cg {wd : Nat → Int32} {bk bk' : Nat → Int32} {n : Nat} {a : Int32} {ll : Nat} (h : ∀ j, j < 6 * n → bk j = bk' j) : ∀ j, f_ftn wd bk n a ll j = f_ftn wd bk' n a ll j
  | 0 => rfl
  | j + 1 => by rw [f_ftn, f_ftn, ftn_cg h j, ft_cg n h]
theorem fsN_cs {G : GG} {M : MS} {fs : Nat → Option Nat} {ws : Nat → va_W} (h : ∀ s, s < 4 → LPt G M s (fs s) (ws (3 + s))) : ∀ k, k ≤ 4 → nI (fsN fs k) = f_cs (M.2.1 34) k
  | 0, _ => rfl
  | k + 1, hk => by
    rw [fsN, f_cs, ← fsN_cs h k (by omega), ← nI_pl]
    congr 1
    rcases (h k (by omega)).2 with ⟨h1, -, h2⟩ | ⟨zl, Sl, m, q, ⟨h1, -⟩, ⟨h2, -⟩, ⟨h3, -⟩, -⟩
    · rw [h1, h2]; rfl
    · rw [h1, h3, if_neg (nI_nmO (by omega))]; rfl
theorem cs_sitting {l : Launch} {G : GG} {M : MS} {c o : Nat} {w : va_W} {x : Int32} {y : Int32} (hN : NR G M c o w) (hc : c ≤ 1000) : Stc l G yX10_sitting cX10_sitting 3 (some .int) 2 [.int x, .int y] w o (fun v w' => v = some (.int (if isI x (tn (M.1 3)) ∧ isI y 5 then M.2.1 5 (6 * tn x + tn y) else -1)) ∧ NR G M c o w') := by
  obtain ⟨zn, zs, zm, zh, zt, zr, zb, Sn, Ss, Sm, Sh, St, Sr, Sb, fi, fs, pa, dk, ws, ⟨rfl, hp⟩, hS, hB⟩ := hN
  obtain ⟨⟨⟨hT, hR, hU, hW⟩, hr, td, nb, ⟨hH, hhr, htd⟩, ⟨hb0, hb3, hb6⟩, hbk, hls, hbw⟩, ⟨h3, h4⟩, ⟨tn0, htn9, htn, htm, htp, hby⟩, ⟨hf2, hf3⟩, h24, h27⟩ := id hS
  refine ⟨cW G zn zs zm zh zt zr zb Sn Ss Sm Sh St Sr Sb fi fs pa dk (flat ws 9), 0, 0, _, _, _, hp, rfl, ⟨by decide, by decide, by decide⟩, K10_sitting hb0 hb6, fun v w' h => ?_⟩
  obtain ⟨rfl, rfl⟩ := h
  exact ⟨by
    rw [hb3, tn_nI (by omega)]
    by_cases e : isI x nb ∧ isI y 5
    · rw [if_pos e, if_pos e]
      obtain ⟨a, ha, rfl⟩ := isI_of e.1
      obtain ⟨b, hb, rfl⟩ := isI_of e.2
      rw [tn_nI (by omega), tn_nI (by omega), hbk _ (by omega)]
    · rw [if_neg e, if_neg e], zn, zs, zm, zh, zt, zr, zb, Sn, Ss, Sm, Sh, St, Sr, Sb, fi, fs, pa, dk, ws, ⟨rfl, List.Perm.refl _⟩, hS, hB⟩
theorem cs_near {l : Launch} {G : GG} {M : MS} {c o : Nat} {w : va_W} {x : Int32} {y : Int32} {z : Int32} {u : Int32} (hN : NR G M c o w) (hc : c ≤ 1000) : Stc l G yX10_near cX10_near 10 (some .int) 4 [.int x, .int y, .int z, .int u] w o (fun v w' => v = some (.int (if isI x (nrw (M.2.1 1)) ∧ isI y (nrw (M.2.1 1)) ∧ isP z 12 then f_nr (M.2.1 1) (tn x) (tn y) z u (len (M.2.1 1) (tn x) - 1) else -2)) ∧ NR G M c o w') := by
  obtain ⟨zn, zs, zm, zh, zt, zr, zb, Sn, Ss, Sm, Sh, St, Sr, Sb, fi, fs, pa, dk, ws, ⟨rfl, hp⟩, hS, hB⟩ := hN
  obtain ⟨⟨⟨hT, hR, hU, hW⟩, hr, td, nb, ⟨hH, hhr, htd⟩, ⟨hb0, hb3, hb6⟩, hbk, hls, hbw⟩, ⟨h3, h4⟩, ⟨tn0, htn9, htn, htm, htp, hby⟩, ⟨hf2, hf3⟩, h24, h27⟩ := id hS
  refine ⟨cW G zn zs zm zh zt zr zb Sn Ss Sm Sh St Sr Sb fi fs pa dk (flat ws 9), 0, 0, _, _, _, hp, rfl, ⟨by decide, by decide, by decide⟩, K10_near hR hW, fun v w' h => ?_⟩
  obtain ⟨rfl, rfl⟩ := h
  exact ⟨rfl, zn, zs, zm, zh, zt, zr, zb, Sn, Ss, Sm, Sh, St, Sr, Sb, fi, fs, pa, dk, ws, ⟨rfl, List.Perm.refl _⟩, hS, hB⟩
theorem cs_book {l : Launch} {G : GG} {M : MS} {c o : Nat} {w : va_W} {x : Int32} {y : Int32} (hN : NR G M c o w) (hc : c ≤ 1000) : Stc l G yX10_book cX10_book 8 (some .int) 2 [.int x, .int y] w o (fun v w' => v = some (.int (if isI x (nrw (M.2.1 1)) ∧ isI y 4 then f_book (M.2.1 5) x (tn (M.1 3)) (tn y) else -1)) ∧ NR G M c o w') := by
  obtain ⟨zn, zs, zm, zh, zt, zr, zb, Sn, Ss, Sm, Sh, St, Sr, Sb, fi, fs, pa, dk, ws, ⟨rfl, hp⟩, hS, hB⟩ := hN
  obtain ⟨⟨⟨hT, hR, hU, hW⟩, hr, td, nb, ⟨hH, hhr, htd⟩, ⟨hb0, hb3, hb6⟩, hbk, hls, hbw⟩, ⟨h3, h4⟩, ⟨tn0, htn9, htn, htm, htp, hby⟩, ⟨hf2, hf3⟩, h24, h27⟩ := id hS
  refine ⟨cW G zn zs zm zh zt zr zb Sn Ss Sm Sh St Sr Sb fi fs pa dk (flat ws 9), 0, 0, _, _, _, hp, rfl, ⟨by decide, by decide, by decide⟩, K10_book (wd := (M.2.1 1)) hb0 hb6 (fun j hj => by rw [hbk _ (by omega)]; obtain ⟨⟨r, hr1, hr2⟩, -⟩ := hbw j hj; rw [hr2]; exact isI_nI hr1 (by have := hW.2.2.1.2; omega)), fun v w' h => ?_⟩
  obtain ⟨rfl, rfl⟩ := h
  exact ⟨by rw [hb3, tn_nI (by omega), book_cg hb6 hbk], zn, zs, zm, zh, zt, zr, zb, Sn, Ss, Sm, Sh, St, Sr, Sb, fi, fs, pa, dk, ws, ⟨rfl, List.Perm.refl _⟩, hS, hB⟩
theorem cs_law {l : Launch} {G : GG} {M : MS} {c o : Nat} {w : va_W} {x : Int32} {y : Int32} {z : Int32} {u : Int32} (hN : NR G M c o w) (hc : c ≤ 1000) : Stc l G yX10_law cX10_law 6 (some .long) 4 [.int x, .int y, .int z, .int u] w o (fun v w' => v = some (.long (f_law (M.2.1 1) (M.2.1 2) (-1) (nI 0) x y z u)) ∧ NR G M c o w') := by
  obtain ⟨zn, zs, zm, zh, zt, zr, zb, Sn, Ss, Sm, Sh, St, Sr, Sb, fi, fs, pa, dk, ws, ⟨rfl, hp⟩, hS, hB⟩ := hN
  obtain ⟨⟨⟨hT, hR, hU, hW⟩, hr, td, nb, ⟨hH, hhr, htd⟩, ⟨hb0, hb3, hb6⟩, hbk, hls, hbw⟩, ⟨h3, h4⟩, ⟨tn0, htn9, htn, htm, htp, hby⟩, ⟨hf2, hf3⟩, h24, h27⟩ := id hS
  refine ⟨cW G zn zs zm zh zt zr zb Sn Ss Sm Sh St Sr Sb fi fs pa dk (flat ws 9), 0, 0, _, _, _, hp, rfl, ⟨by decide, by decide, by decide⟩, K10_law hT hR hW hH (by omega) (by omega), fun v w' h => ?_⟩
  obtain ⟨rfl, rfl⟩ := h
  exact ⟨rfl, zn, zs, zm, zh, zt, zr, zb, Sn, Ss, Sm, Sh, St, Sr, Sb, fi, fs, pa, dk, ws, ⟨rfl, List.Perm.refl _⟩, hS, hB⟩
theorem cs_count {l : Launch} {G : GG} {M : MS} {c o : Nat} {w : va_W} {x : Int32} (hN : NR G M c o w) (hc : c ≤ 1000) : Stc l G yX10_count cX10_count 2 (some .int) 2 [.int x] w o (fun v w' => v = some (.int (f_count M x)) ∧ NR G M c o w') := by
  obtain ⟨zn, zs, zm, zh, zt, zr, zb, Sn, Ss, Sm, Sh, St, Sr, Sb, fi, fs, pa, dk, ws, ⟨rfl, hp⟩, hS, hB⟩ := hN
  obtain ⟨⟨⟨hT, hR, hU, hW⟩, hr, td, nb, ⟨hH, hhr, htd⟩, ⟨hb0, hb3, hb6⟩, hbk, hls, hbw⟩, ⟨h3, h4⟩, ⟨tn0, htn9, htn, htm, htp, hby⟩, ⟨hf2, hf3⟩, h24, h27⟩ := id hS
  refine ⟨cW G zn zs zm zh zt zr zb Sn Ss Sm Sh St Sr Sb fi fs pa dk (flat ws 9), 0, 0, _, _, _, hp, rfl, ⟨by decide, by decide, by decide⟩, K10_count hT hR hW hH, fun v w' h => ?_⟩
  obtain ⟨rfl, rfl⟩ := h
  exact ⟨by
    unfold f_count
    by_cases e : isI x 13
    · rw [if_pos e, if_pos e]
      obtain ⟨a, ha, rfl⟩ := isI_of e
      rw [tn_nI (by omega)]
      unfold kCnt
      rw [htn, ← htm, hb0, ← hb3, fsN_cs hB.2.1 4 (by omega)]
      obtain rfl | rfl | rfl | rfl | rfl | rfl | rfl | rfl | rfl | rfl | rfl | rfl | rfl : a = 0 ∨ a = 1 ∨ a = 2 ∨ a = 3 ∨ a = 4 ∨ a = 5 ∨ a = 6 ∨ a = 7 ∨ a = 8 ∨ a = 9 ∨ a = 10 ∨ a = 11 ∨ a = 12 := by omega
      all_goals rfl
    · rw [if_neg e, if_neg e], zn, zs, zm, zh, zt, zr, zb, Sn, Ss, Sm, Sh, St, Sr, Sb, fi, fs, pa, dk, ws, ⟨rfl, List.Perm.refl _⟩, hS, hB⟩
