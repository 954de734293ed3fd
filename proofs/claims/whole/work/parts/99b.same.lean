theorem cs_fault {l : Launch} {G : GG} {M : MS} {c o : Nat} {w : va_W} {x : Int32} (hN : NR G M c o w) : Stc l G yX10_fault cX10_fault 2 (some .int) 1 [.int x] w o (fun v w' => v = some (.int (if x = 0 then M.1 19 else if x = nI 1 then M.1 20 else -1)) ∧ NR G M c o w') := by
  obtain ⟨zn, zs, zm, zh, zt, zr, zb, Sn, Ss, Sm, Sh, St, Sr, Sb, fi, fs, pa, dk, ws, ⟨rfl, hp⟩, hS, hB⟩ := hN
  obtain ⟨⟨⟨hT, hR, hU, hW⟩, hr, td, nb, ⟨hH, hhr, htd⟩, ⟨hb0, hb3, hb6⟩, hbk, hls, hbw⟩, ⟨h3, h4⟩, ⟨⟨tn0, htn9, htn, htm, htp⟩, hby⟩, ⟨hf2, hf3⟩, h24, h27⟩ := id hS
  refine ⟨cW G zn zs zm zh zt zr zb Sn Ss Sm Sh St Sr Sb fi fs pa dk (flat ws 9), 0, 0, _, _, hp, rfl, ⟨by decide, by decide⟩, K10_fault, fun v w' h => ?_⟩
  obtain ⟨rfl, rfl⟩ := h
  exact ⟨by rw [hf2, hf3], zn, zs, zm, zh, zt, zr, zb, Sn, Ss, Sm, Sh, St, Sr, Sb, fi, fs, pa, dk, ws, ⟨rfl, List.Perm.refl _⟩, hS, hB⟩
theorem cs_slips {l : Launch} {G : GG} {M : MS} {c o : Nat} {w : va_W} {x : Int32} (hN : NR G M c o w) : Stc l G yX10_slips cX10_slips 2 (some .int) 6 [.int x] w o (fun v w' => v = some (.int (if isI x (nrw (M.2.1 1)) then f_slips (M.2.1 1) (M.2.1 2) (tn x) else -2)) ∧ NR G M c o w') := by
  obtain ⟨zn, zs, zm, zh, zt, zr, zb, Sn, Ss, Sm, Sh, St, Sr, Sb, fi, fs, pa, dk, ws, ⟨rfl, hp⟩, hS, hB⟩ := hN
  obtain ⟨⟨⟨hT, hR, hU, hW⟩, hr, td, nb, ⟨hH, hhr, htd⟩, ⟨hb0, hb3, hb6⟩, hbk, hls, hbw⟩, ⟨h3, h4⟩, ⟨⟨tn0, htn9, htn, htm, htp⟩, hby⟩, ⟨hf2, hf3⟩, h24, h27⟩ := id hS
  refine ⟨cW G zn zs zm zh zt zr zb Sn Ss Sm Sh St Sr Sb fi fs pa dk (flat ws 9), 0, 0, _, _, hp, rfl, ⟨by decide, by decide⟩, K10_slips hT hR hW hH h3 h4, fun v w' h => ?_⟩
  obtain ⟨rfl, rfl⟩ := h
  exact ⟨rfl, zn, zs, zm, zh, zt, zr, zb, Sn, Ss, Sm, Sh, St, Sr, Sb, fi, fs, pa, dk, ws, ⟨rfl, List.Perm.refl _⟩, hS, hB⟩
theorem cs_support {l : Launch} {G : GG} {M : MS} {c o : Nat} {w : va_W} {x : Int32} {y : Int32} (hN : NR G M c o w) : Stc l G yX10_support cX10_support 3 (some .int) 5 [.int x, .int y] w o (fun v w' => v = some (.int (if isI x (nrw (M.2.1 1)) ∧ isI y (len (M.2.1 1) (tn x)) then f_sup (M.2.1 1) (M.2.1 2) (tn x) (tn y) else -2)) ∧ NR G M c o w') := by
  obtain ⟨zn, zs, zm, zh, zt, zr, zb, Sn, Ss, Sm, Sh, St, Sr, Sb, fi, fs, pa, dk, ws, ⟨rfl, hp⟩, hS, hB⟩ := hN
  obtain ⟨⟨⟨hT, hR, hU, hW⟩, hr, td, nb, ⟨hH, hhr, htd⟩, ⟨hb0, hb3, hb6⟩, hbk, hls, hbw⟩, ⟨h3, h4⟩, ⟨⟨tn0, htn9, htn, htm, htp⟩, hby⟩, ⟨hf2, hf3⟩, h24, h27⟩ := id hS
  refine ⟨cW G zn zs zm zh zt zr zb Sn Ss Sm Sh St Sr Sb fi fs pa dk (flat ws 9), 0, 0, _, _, hp, rfl, ⟨by decide, by decide⟩, K10_support hT hR hW hH h3 h4, fun v w' h => ?_⟩
  obtain ⟨rfl, rfl⟩ := h
  exact ⟨rfl, zn, zs, zm, zh, zt, zr, zb, Sn, Ss, Sm, Sh, St, Sr, Sb, fi, fs, pa, dk, ws, ⟨rfl, List.Perm.refl _⟩, hS, hB⟩
theorem cs_used {l : Launch} {G : GG} {M : MS} {c o : Nat} {w : va_W} {x : Int32} (hN : NR G M c o w) : Stc l G yX10_used cX10_used 2 (some .int) 2 [.int x] w o (fun v w' => v = some (.int (if isI x (nrw (M.2.1 1)) then (M.2.1 1) (34 + 14 * tn x + 1 + 12) else -2)) ∧ NR G M c o w') := by
  obtain ⟨zn, zs, zm, zh, zt, zr, zb, Sn, Ss, Sm, Sh, St, Sr, Sb, fi, fs, pa, dk, ws, ⟨rfl, hp⟩, hS, hB⟩ := hN
  obtain ⟨⟨⟨hT, hR, hU, hW⟩, hr, td, nb, ⟨hH, hhr, htd⟩, ⟨hb0, hb3, hb6⟩, hbk, hls, hbw⟩, ⟨h3, h4⟩, ⟨⟨tn0, htn9, htn, htm, htp⟩, hby⟩, ⟨hf2, hf3⟩, h24, h27⟩ := id hS
  refine ⟨cW G zn zs zm zh zt zr zb Sn Ss Sm Sh St Sr Sb fi fs pa dk (flat ws 9), 0, 0, _, _, hp, rfl, ⟨by decide, by decide⟩, K10_used hT hR hW hH h3 h4 hU, fun v w' h => ?_⟩
  obtain ⟨rfl, rfl⟩ := h
  exact ⟨rfl, zn, zs, zm, zh, zt, zr, zb, Sn, Ss, Sm, Sh, St, Sr, Sb, fi, fs, pa, dk, ws, ⟨rfl, List.Perm.refl _⟩, hS, hB⟩
theorem cs_thing {l : Launch} {G : GG} {M : MS} {c o : Nat} {w : va_W} {x : Int32} {y : Int32} (hN : NR G M c o w) : Stc l G yX10_thing cX10_thing 3 (some .int) 3 [.int x, .int y] w o (fun v w' => v = some (.int (if isI x (nrw (M.2.1 1)) then (if isI y (len (M.2.1 1) (tn x)) then (M.2.1 1) (34 + 14 * tn x + 1 + tn y) else -1) else -2)) ∧ NR G M c o w') := by
  obtain ⟨zn, zs, zm, zh, zt, zr, zb, Sn, Ss, Sm, Sh, St, Sr, Sb, fi, fs, pa, dk, ws, ⟨rfl, hp⟩, hS, hB⟩ := hN
  obtain ⟨⟨⟨hT, hR, hU, hW⟩, hr, td, nb, ⟨hH, hhr, htd⟩, ⟨hb0, hb3, hb6⟩, hbk, hls, hbw⟩, ⟨h3, h4⟩, ⟨⟨tn0, htn9, htn, htm, htp⟩, hby⟩, ⟨hf2, hf3⟩, h24, h27⟩ := id hS
  refine ⟨cW G zn zs zm zh zt zr zb Sn Ss Sm Sh St Sr Sb fi fs pa dk (flat ws 9), 0, 0, _, _, hp, rfl, ⟨by decide, by decide⟩, K10_thing hT hR hW hH h3 h4, fun v w' h => ?_⟩
  obtain ⟨rfl, rfl⟩ := h
  exact ⟨rfl, zn, zs, zm, zh, zt, zr, zb, Sn, Ss, Sm, Sh, St, Sr, Sb, fi, fs, pa, dk, ws, ⟨rfl, List.Perm.refl _⟩, hS, hB⟩
theorem cs_links {l : Launch} {G : GG} {M : MS} {c o : Nat} {w : va_W} {x : Int32} (hN : NR G M c o w) : Stc l G yX10_links cX10_links 2 (some .int) 4 [.int x] w o (fun v w' => v = some (.int (if isI x 4 then f_links (M.2.1 2) (tn x) else -2)) ∧ NR G M c o w') := by
  obtain ⟨zn, zs, zm, zh, zt, zr, zb, Sn, Ss, Sm, Sh, St, Sr, Sb, fi, fs, pa, dk, ws, ⟨rfl, hp⟩, hS, hB⟩ := hN
  obtain ⟨⟨⟨hT, hR, hU, hW⟩, hr, td, nb, ⟨hH, hhr, htd⟩, ⟨hb0, hb3, hb6⟩, hbk, hls, hbw⟩, ⟨h3, h4⟩, ⟨⟨tn0, htn9, htn, htm, htp⟩, hby⟩, ⟨hf2, hf3⟩, h24, h27⟩ := id hS
  refine ⟨cW G zn zs zm zh zt zr zb Sn Ss Sm Sh St Sr Sb fi fs pa dk (flat ws 9), 0, 0, _, _, hp, rfl, ⟨by decide, by decide⟩, K10_links hT hR hW hH h3 h4, fun v w' h => ?_⟩
  obtain ⟨rfl, rfl⟩ := h
  exact ⟨rfl, zn, zs, zm, zh, zt, zr, zb, Sn, Ss, Sm, Sh, St, Sr, Sb, fi, fs, pa, dk, ws, ⟨rfl, List.Perm.refl _⟩, hS, hB⟩
theorem cs_strength {l : Launch} {G : GG} {M : MS} {c o : Nat} {w : va_W} {x : Int32} {y : Int32} {z : Int32} (hN : NR G M c o w) : Stc l G yX10_strength cX10_strength 5 (some .int) 4 [.int x, .int y, .int z] w o (fun v w' => v = some (.int (if isI x 4 ∧ isI y (nth (M.2.1 1)) ∧ isI z (if tn x = 3 then 12 else nth (M.2.1 1)) then (M.2.1 2) (f_link (tn x) (tn y) (tn z)) else -2)) ∧ NR G M c o w') := by
  obtain ⟨zn, zs, zm, zh, zt, zr, zb, Sn, Ss, Sm, Sh, St, Sr, Sb, fi, fs, pa, dk, ws, ⟨rfl, hp⟩, hS, hB⟩ := hN
  obtain ⟨⟨⟨hT, hR, hU, hW⟩, hr, td, nb, ⟨hH, hhr, htd⟩, ⟨hb0, hb3, hb6⟩, hbk, hls, hbw⟩, ⟨h3, h4⟩, ⟨⟨tn0, htn9, htn, htm, htp⟩, hby⟩, ⟨hf2, hf3⟩, h24, h27⟩ := id hS
  refine ⟨cW G zn zs zm zh zt zr zb Sn Ss Sm Sh St Sr Sb fi fs pa dk (flat ws 9), 0, 0, _, _, hp, rfl, ⟨by decide, by decide⟩, K10_strength hT hR hW hH h3 h4, fun v w' h => ?_⟩
  obtain ⟨rfl, rfl⟩ := h
  exact ⟨rfl, zn, zs, zm, zh, zt, zr, zb, Sn, Ss, Sm, Sh, St, Sr, Sb, fi, fs, pa, dk, ws, ⟨rfl, List.Perm.refl _⟩, hS, hB⟩
