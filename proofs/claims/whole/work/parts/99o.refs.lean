theorem rq_fault {l : Launch} {G : GG} {o : Nat} {ad : Nat → Nat} {M : MS} {x : Int32} (h : RF M) : Rsc l G yX11_fault cX11_fault 2 (some .int) 1 [.int x] o ad M (fun v N => v = some (.int (if x = 0 then M.1 19 else if x = nI 1 then M.1 20 else -1)) ∧ EQ M N) := by
  obtain ⟨hW, ⟨n0, hn0, hn3, hwb⟩, ⟨t0, ht0, ht12⟩, h24, h27, hWS, hI⟩ := h
  have q := c_fault (l := l) (G := G) (o := o) (ad := ad) (M := M) x
  refine ⟨_, q, fun v w' z => ?_⟩
  obtain ⟨rfl, rfl⟩ := z
  exact ⟨_, rfl, rfl, EQ_r _⟩
theorem rq_thing {l : Launch} {G : GG} {o : Nat} {ad : Nat → Nat} {M : MS} {x : Int32} {y : Int32} (h : RF M) : Rsc l G yX11_thing cX11_thing 3 (some .int) 3 [.int x, .int y] o ad M (fun v N => v = some (.int (if isI x (nrw (M.2.1 1)) then (if isI y (len (M.2.1 1) (tn x)) then (M.2.1 1) (34 + 14 * tn x + 1 + tn y) else -1) else -2)) ∧ EQ M N) := by
  obtain ⟨hW, ⟨n0, hn0, hn3, hwb⟩, ⟨t0, ht0, ht12⟩, h24, h27, hWS, hI⟩ := h
  have q := c_thing (l := l) (G := G) (o := o) (ad := ad) (M := M) x y hW
  refine ⟨_, q, fun v w' z => ?_⟩
  obtain ⟨rfl, rfl⟩ := z
  exact ⟨_, rfl, rfl, EQ_r _⟩
theorem rq_used {l : Launch} {G : GG} {o : Nat} {ad : Nat → Nat} {M : MS} {x : Int32} (h : RF M) : Rsc l G yX11_used cX11_used 2 (some .int) 3 [.int x] o ad M (fun v N => v = some (.int (if isI x (nrw (M.2.1 1)) then (M.2.1 1) (34 + 14 * tn x + 1 + 12) else -2)) ∧ EQ M N) := by
  obtain ⟨hW, ⟨n0, hn0, hn3, hwb⟩, ⟨t0, ht0, ht12⟩, h24, h27, hWS, hI⟩ := h
  have q := c_used (l := l) (G := G) (o := o) (ad := ad) (M := M) x hW
  refine ⟨_, q, fun v w' z => ?_⟩
  obtain ⟨rfl, rfl⟩ := z
  exact ⟨_, rfl, rfl, EQ_r _⟩
theorem rq_count {l : Launch} {G : GG} {o : Nat} {ad : Nat → Nat} {M : MS} {x : Int32} (h : RF M) : Rsc l G yX11_count cX11_count 4 (some .int) 1 [.int x] o ad M (fun v N => v = some (.int (f_count M x)) ∧ EQ M N) := by
  obtain ⟨hW, ⟨n0, hn0, hn3, hwb⟩, ⟨t0, ht0, ht12⟩, h24, h27, hWS, hI⟩ := h
  have q := c_count (l := l) (G := G) (o := o) (ad := ad) (M := M) x
  refine ⟨_, q, fun v w' z => ?_⟩
  obtain ⟨rfl, rfl⟩ := z
  exact ⟨_, rfl, rfl, EQ_r _⟩
theorem rq_near {l : Launch} {G : GG} {o : Nat} {ad : Nat → Nat} {M : MS} {x : Int32} {y : Int32} {z : Int32} {u : Int32} (h : RF M) : Rsc l G yX11_near cX11_near 9 (some .int) 3 [.int x, .int y, .int z, .int u] o ad M (fun v N => v = some (.int (if isI x (nrw (M.2.1 1)) ∧ isI y (nrw (M.2.1 1)) ∧ isP z 12 then f_nr (M.2.1 1) (tn x) (tn y) z u (len (M.2.1 1) (tn x) - 1) else -2)) ∧ EQ M N) := by
  obtain ⟨hW, ⟨n0, hn0, hn3, hwb⟩, ⟨t0, ht0, ht12⟩, h24, h27, hWS, hI⟩ := h
  have q := c_near (l := l) (G := G) (o := o) (ad := ad) (M := M) x y z u hW
  refine ⟨_, q, fun v w' z => ?_⟩
  obtain ⟨rfl, rfl⟩ := z
  exact ⟨_, rfl, rfl, EQ_r _⟩
theorem rq_sitting {l : Launch} {G : GG} {o : Nat} {ad : Nat → Nat} {M : MS} {x : Int32} {y : Int32} (h : RF M) : Rsc l G yX11_sitting cX11_sitting 3 (some .int) 2 [.int x, .int y] o ad M (fun v N => v = some (.int (if isI x (tn (M.1 3)) ∧ isI y 5 then M.2.1 5 (6 * tn x + tn y) else -1)) ∧ EQ M N) := by
  obtain ⟨hW, ⟨n0, hn0, hn3, hwb⟩, ⟨t0, ht0, ht12⟩, h24, h27, hWS, hI⟩ := h
  have q := c_sitting (l := l) (G := G) (o := o) (ad := ad) (M := M) x y hn3 hn0
  refine ⟨_, q, fun v w' z => ?_⟩
  obtain ⟨rfl, rfl⟩ := z
  exact ⟨_, rfl, by rw [hn3, tn_nI (by omega)], EQ_r _⟩
theorem rq_book {l : Launch} {G : GG} {o : Nat} {ad : Nat → Nat} {M : MS} {x : Int32} {y : Int32} (h : RF M) : Rsc l G yX11_book cX11_book 7 (some .int) 3 [.int x, .int y] o ad M (fun v N => v = some (.int (if isI x (nrw (M.2.1 1)) ∧ isI y 4 then f_book (M.2.1 5) x (tn (M.1 3)) (tn y) else -1)) ∧ EQ M N) := by
  obtain ⟨hW, ⟨n0, hn0, hn3, hwb⟩, ⟨t0, ht0, ht12⟩, h24, h27, hWS, hI⟩ := h
  have q := c_book (l := l) (G := G) (o := o) (ad := ad) (M := M) x y hn3 hn0 hW
  refine ⟨_, q, fun v w' z => ?_⟩
  obtain ⟨rfl, rfl⟩ := z
  exact ⟨_, rfl, by rw [hn3, tn_nI (by omega)], EQ_r _⟩
theorem rq_law {l : Launch} {G : GG} {o : Nat} {ad : Nat → Nat} {M : MS} {x : Int32} {y : Int32} {z : Int32} {u : Int32} (h : RF M) : Rsc l G yX11_law cX11_law 5 (some .long) 3 [.int x, .int y, .int z, .int u] o ad M (fun v N => v = some (.long (f_law (M.2.1 1) (M.2.1 2) (-1) (nI 0) x y z u)) ∧ EQ M N) := by
  obtain ⟨hW, ⟨n0, hn0, hn3, hwb⟩, ⟨t0, ht0, ht12⟩, h24, h27, hWS, hI⟩ := h
  have q := c_law (l := l) (G := G) (o := o) (ad := ad) (M := M) x y z u hW
  refine ⟨_, q, fun v w' z => ?_⟩
  obtain ⟨rfl, rfl⟩ := z
  exact ⟨_, rfl, by rw [h24, law_cv (M.1 25) (nI 0)], EQ_r _⟩
theorem rq_end {l : Launch} {G : GG} {o : Nat} {ad : Nat → Nat} {M : MS} {x : Int32} (h : RF M) : Rsc l G yX11_end cX11_end 2 (some .int) 2 [.int x] o ad M (fun v N => v = some (.int (if isI x (tn (M.1 12) + 1) then x else -1)) ∧ EQ (sS M 12 (if isI x (tn (M.1 12) + 1) then x else M.1 12)) N) := by
  obtain ⟨hW, ⟨n0, hn0, hn3, hwb⟩, ⟨t0, ht0, ht12⟩, h24, h27, hWS, hI⟩ := h
  have q := c_end (l := l) (G := G) (o := o) (ad := ad) (M := M) x ht12 ht0
  refine ⟨_, q, fun v w' z => ?_⟩
  obtain ⟨rfl, rfl⟩ := z
  exact ⟨_, rfl, by rw [ht12, tn_nI (by omega)], by rw [ht12, tn_nI (by omega)]; exact EQ_r _⟩
theorem rq_feed {l : Launch} {G : GG} {o : Nat} {ad : Nat → Nat} {M : MS} {a : Int32} {b : Int32} {c0 : Int32} {d : Int32} {e : Int32} (h : RF M) : Rsc l G yX11_feed cX11_feed 7 (some .int) 1 [.int a, .int b, .int c0, .int d, .int e] o ad M (fun v N => v = some (.int (if tn (M.1 12) + 20 ≤ 900 then nI (tn (M.1 12) + 20) else -1)) ∧ EQ (if tn (M.1 12) + 20 ≤ 900 then sS (aR (aR M 13 (five5 (M.2.1 13) a b c0 d e)) 11 (f_tp (M.2.1 11) (five5 (M.2.1 13) a b c0 d e) (tn (M.1 12)) 20)) 12 (nI (tn (M.1 12) + 20)) else M) N) := by
  obtain ⟨hW, ⟨n0, hn0, hn3, hwb⟩, ⟨t0, ht0, ht12⟩, h24, h27, hWS, hI⟩ := h
  have q := c_feed (l := l) (G := G) (o := o) (ad := ad) (M := M) a b c0 d e ht12 ht0
  refine ⟨_, q, fun v w' z => ?_⟩
  obtain ⟨rfl, rfl⟩ := z
  exact ⟨_, rfl, by rw [ht12, tn_nI (by omega)], by rw [ht12, tn_nI (by omega)]; exact EQ_r _⟩
theorem rq_text {l : Launch} {G : GG} {o : Nat} {ad : Nat → Nat} {M : MS} (h : RF M) : Rsc l G yX11_text cX11_text 2 (some .int) 10 [] o ad M (fun v N => v = some (.int (txV M (tn (M.1 12)))) ∧ EQ (txM M (tn (M.1 12))) N) := by
  obtain ⟨hW, ⟨n0, hn0, hn3, hwb⟩, ⟨t0, ht0, ht12⟩, h24, h27, hWS, hI⟩ := h
  have q := c_text (l := l) (G := G) (o := o) (ad := ad) (M := M) ht12 ht0
  refine ⟨_, q, fun v w' z => ?_⟩
  obtain ⟨rfl, rfl⟩ := z
  exact ⟨_, rfl, by rw [ht12, tn_nI (by omega)], by rw [ht12, tn_nI (by omega)]; exact EQ_r _⟩
theorem rq_shuffled {l : Launch} {G : GG} {o : Nat} {ad : Nat → Nat} {M : MS} {x : Int32} {y : Int32} (h : RF M) : Rsc l G yX11_shuffled cX11_shuffled 6 (some .int) 3 [.int x, .int y] o ad M (fun v N => v = some (.int (if isI x (nrw (M.2.1 1)) ∧ isP y 4 then (if nrw (M.2.1 1) = 12 then -3 else nI (nrw (M.2.1 1))) else -2)) ∧ EQ (aR (aR M 30 (if isI x (nrw (M.2.1 1)) ∧ isP y 4 then (if nrw (M.2.1 1) = 12 then M.2.1 30 else (f_sO (M.2.1 1) (tn x) (tn y) (M.2.1 30) (tn y + 1))) else M.2.1 30)) 1 (if isI x (nrw (M.2.1 1)) ∧ isP y 4 then (if nrw (M.2.1 1) = 12 then (M.2.1 1) else f_mk (M.2.1 1) (f_sO (M.2.1 1) (tn x) (tn y) (M.2.1 30) (tn y + 1)) (len (M.2.1 1) (tn x))) else (M.2.1 1))) N) := by
  obtain ⟨hW, ⟨n0, hn0, hn3, hwb⟩, ⟨t0, ht0, ht12⟩, h24, h27, hWS, hI⟩ := h
  have q := c_shuffled (l := l) (G := G) (o := o) (ad := ad) (M := M) x y hW
  refine ⟨_, q, fun v w' z => ?_⟩
  obtain ⟨rfl, rfl⟩ := z
  exact ⟨_, rfl, rfl, EQ_r _⟩
theorem rq_backward {l : Launch} {G : GG} {o : Nat} {ad : Nat → Nat} {M : MS} {x : Int32} (h : RF M) : Rsc l G yX11_backward cX11_backward 4 (some .int) 3 [.int x] o ad M (fun v N => v = some (.int (if isI x (nrw (M.2.1 1)) then (if nrw (M.2.1 1) = 12 then -3 else nI (nrw (M.2.1 1))) else -2)) ∧ EQ (aR (aR M 30 (if isI x (nrw (M.2.1 1)) then (if nrw (M.2.1 1) = 12 then M.2.1 30 else (f_bw (M.2.1 1) (M.2.1 30) (tn x) (len (M.2.1 1) (tn x)))) else M.2.1 30)) 1 (if isI x (nrw (M.2.1 1)) then (if nrw (M.2.1 1) = 12 then (M.2.1 1) else f_mk (M.2.1 1) (f_bw (M.2.1 1) (M.2.1 30) (tn x) (len (M.2.1 1) (tn x))) (len (M.2.1 1) (tn x))) else (M.2.1 1))) N) := by
  obtain ⟨hW, ⟨n0, hn0, hn3, hwb⟩, ⟨t0, ht0, ht12⟩, h24, h27, hWS, hI⟩ := h
  have q := c_backward (l := l) (G := G) (o := o) (ad := ad) (M := M) x hW
  refine ⟨_, q, fun v w' z => ?_⟩
  obtain ⟨rfl, rfl⟩ := z
  exact ⟨_, rfl, rfl, EQ_r _⟩
theorem rq_rowOf {l : Launch} {G : GG} {o : Nat} {ad : Nat → Nat} {M : MS} {x : Int32} (h : RF M) : Rsc l G yX11_rowOf cX11_rowOf 6 (some .int) 3 [.int x] o ad M (fun v N => v = some (.int (f_ro M x)) ∧ EQ (f_roM M x) N) := by
  obtain ⟨hW, ⟨n0, hn0, hn3, hwb⟩, ⟨t0, ht0, ht12⟩, h24, h27, hWS, hI⟩ := h
  have q := c_rowOf (l := l) (G := G) (o := o) (ad := ad) (M := M) x hWS hW
  refine ⟨_, q, fun v w' z => ?_⟩
  obtain ⟨rfl, rfl⟩ := z
  exact ⟨_, rfl, rfl, EQ_r _⟩
theorem rq_keep {l : Launch} {G : GG} {o : Nat} {ad : Nat → Nat} {M : MS} {x : Int32} (h : RF M) : Rsc l G yX11_keep cX11_keep 3 (some .int) 2 [.int x] o ad M (fun v N => v = some (.int (if isI x 3 then nI 0 else -2)) ∧ EQ (f_kp M x) N) := by
  obtain ⟨hW, ⟨n0, hn0, hn3, hwb⟩, ⟨t0, ht0, ht12⟩, h24, h27, hWS, hI⟩ := h
  have q := c_keep (l := l) (G := G) (o := o) (ad := ad) (M := M) x
  refine ⟨_, q, fun v w' z => ?_⟩
  obtain ⟨rfl, rfl⟩ := z
  exact ⟨_, rfl, rfl, EQ_r _⟩
theorem rq_back {l : Launch} {G : GG} {o : Nat} {ad : Nat → Nat} {M : MS} {x : Int32} (h : RF M) : Rsc l G yX11_back cX11_back 3 (some .int) 2 [.int x] o ad M (fun v N => v = some (.int (if isI x 3 then (if M.2.1 10 (tn x) = -1 then -6 else nI 0) else -2)) ∧ EQ (if isI x 3 ∧ ¬ M.2.1 10 (tn x) = -1 then f_bk M (tn x) else M) N) := by
  obtain ⟨hW, ⟨n0, hn0, hn3, hwb⟩, ⟨t0, ht0, ht12⟩, h24, h27, hWS, hI⟩ := h
  have q := c_back (l := l) (G := G) (o := o) (ad := ad) (M := M) x
  refine ⟨_, q, fun v w' z => ?_⟩
  obtain ⟨rfl, rfl⟩ := z
  exact ⟨_, rfl, rfl, EQ_r _⟩
theorem rq_row {l : Launch} {G : GG} {o : Nat} {ad : Nat → Nat} {M : MS} {x : Int32} {y : Int32} {z : Int32} (h : RF M) : Rsc l G yX11_row cX11_row 5 (some .int) 3 [.int x, .int y, .int z] o ad M (fun v N => v = some (.int (if (isI x 4 ∧ isI y 4 ∧ z ≤ nI 60) then (if ¬ 0 ≤ z then -3 else nI 0) else -2)) ∧ EQ (if (isI x 4 ∧ isI y 4 ∧ z ≤ nI 60) then (if ¬ 0 ≤ z then M else (lR (aR (aR M 34 (upd (M.2.1 34) (tn x) z)) 35 (upd (M.2.1 35) (tn x) y)) 36 (zL (M.2.2 36) (60 * tn x) 60))) else M) N) := by
  obtain ⟨hW, ⟨n0, hn0, hn3, hwb⟩, ⟨t0, ht0, ht12⟩, h24, h27, hWS, hI⟩ := h
  have q := c_row (l := l) (G := G) (o := o) (ad := ad) (M := M) x y z
  refine ⟨_, q, fun v w' z => ?_⟩
  obtain ⟨rfl, rfl⟩ := z
  exact ⟨_, rfl, rfl, EQ_r _⟩
theorem rq_write {l : Launch} {G : GG} {o : Nat} {ad : Nat → Nat} {M : MS} {x : Int32} {y : Int32} {u : Int64} (h : RF M) : Rsc l G yX11_write cX11_write 5 (some .int) 3 [.int x, .int y, .long u] o ad M (fun v N => v = some (.int (f_wr (M.2.1 34) x y)) ∧ EQ (f_wrM M x y u) N) := by
  obtain ⟨hW, ⟨n0, hn0, hn3, hwb⟩, ⟨t0, ht0, ht12⟩, h24, h27, hWS, hI⟩ := h
  have q := c_write (l := l) (G := G) (o := o) (ad := ad) (M := M) x y u hWS
  refine ⟨_, q, fun v w' z => ?_⟩
  obtain ⟨rfl, rfl⟩ := z
  exact ⟨_, rfl, rfl, EQ_r _⟩
theorem rq_paste {l : Launch} {G : GG} {o : Nat} {ad : Nat → Nat} {M : MS} {x : Int32} {y : Int32} {z : Int32} {u : Int32} {w0 : Int32} (h : RF M) : Rsc l G yX11_paste cX11_paste 7 (some .int) 3 [.int x, .int y, .int z, .int u, .int w0] o ad M (fun v N => v = some (.int (f_ps M x y z u w0)) ∧ EQ (f_psM M x y z u w0) N) := by
  obtain ⟨hW, ⟨n0, hn0, hn3, hwb⟩, ⟨t0, ht0, ht12⟩, h24, h27, hWS, hI⟩ := h
  have q := c_paste (l := l) (G := G) (o := o) (ad := ad) (M := M) x y z u w0 hWS
  refine ⟨_, q, fun v w' z => ?_⟩
  obtain ⟨rfl, rfl⟩ := z
  exact ⟨_, rfl, rfl, EQ_r _⟩
theorem rq_strength {l : Launch} {G : GG} {o : Nat} {ad : Nat → Nat} {M : MS} {x : Int32} {y : Int32} {z : Int32} (h : RF M) : Rsc l G yX11_strength cX11_strength 4 (some .int) 3 [.int x, .int y, .int z] o ad M (fun v N => v = some (.int (if isI x 4 ∧ isI y (nth (M.2.1 1)) ∧ isI z (if tn x = 3 then 12 else nth (M.2.1 1)) then (M.2.1 2) (f_link (tn x) (tn y) (tn z)) else -2)) ∧ EQ M N) := by
  obtain ⟨hW, ⟨n0, hn0, hn3, hwb⟩, ⟨t0, ht0, ht12⟩, h24, h27, hWS, hI⟩ := h
  have q := c_strength (l := l) (G := G) (o := o) (ad := ad) (M := M) (h := M.2.1 2) x y z hW
  rw [hd_slf] at q
  refine ⟨_, q, fun v w' z => ?_⟩
  obtain ⟨rfl, rfl⟩ := z
  exact ⟨_, rfl, rfl, EQ_r _⟩
theorem rq_links {l : Launch} {G : GG} {o : Nat} {ad : Nat → Nat} {M : MS} {x : Int32} (h : RF M) : Rsc l G yX11_links cX11_links 2 (some .int) 2 [.int x] o ad M (fun v N => v = some (.int (if isI x 4 then f_links (M.2.1 2) (tn x) else -2)) ∧ EQ M N) := by
  obtain ⟨hW, ⟨n0, hn0, hn3, hwb⟩, ⟨t0, ht0, ht12⟩, h24, h27, hWS, hI⟩ := h
  have q := c_links (l := l) (G := G) (o := o) (ad := ad) (M := M) (h := M.2.1 2) x
  rw [hd_slf] at q
  refine ⟨_, q, fun v w' z => ?_⟩
  obtain ⟨rfl, rfl⟩ := z
  exact ⟨_, rfl, rfl, EQ_r _⟩
theorem rq_support {l : Launch} {G : GG} {o : Nat} {ad : Nat → Nat} {M : MS} {x : Int32} {y : Int32} (h : RF M) : Rsc l G yX11_support cX11_support 3 (some .int) 3 [.int x, .int y] o ad M (fun v N => v = some (.int (if isI x (nrw (M.2.1 1)) ∧ isI y (len (M.2.1 1) (tn x)) then f_sup (M.2.1 1) (M.2.1 2) (tn x) (tn y) else -2)) ∧ EQ M N) := by
  obtain ⟨hW, ⟨n0, hn0, hn3, hwb⟩, ⟨t0, ht0, ht12⟩, h24, h27, hWS, hI⟩ := h
  have q := c_support (l := l) (G := G) (o := o) (ad := ad) (M := M) (h := M.2.1 2) x y hW
  rw [hd_slf] at q
  refine ⟨_, q, fun v w' z => ?_⟩
  obtain ⟨rfl, rfl⟩ := z
  exact ⟨_, rfl, rfl, EQ_r _⟩
theorem rq_slips {l : Launch} {G : GG} {o : Nat} {ad : Nat → Nat} {M : MS} {x : Int32} (h : RF M) : Rsc l G yX11_slips cX11_slips 2 (some .int) 4 [.int x] o ad M (fun v N => v = some (.int (if isI x (nrw (M.2.1 1)) then f_slips (M.2.1 1) (M.2.1 2) (tn x) else -2)) ∧ EQ M N) := by
  obtain ⟨hW, ⟨n0, hn0, hn3, hwb⟩, ⟨t0, ht0, ht12⟩, h24, h27, hWS, hI⟩ := h
  have q := c_slips (l := l) (G := G) (o := o) (ad := ad) (M := M) (h := M.2.1 2) x hW
  rw [hd_slf] at q
  refine ⟨_, q, fun v w' z => ?_⟩
  obtain ⟨rfl, rfl⟩ := z
  exact ⟨_, rfl, rfl, EQ_r _⟩
theorem rq_forget {l : Launch} {G : GG} {o : Nat} {ad : Nat → Nat} {M : MS} (h : RF M) : Rsc l G yX11_forget cX11_forget 3 (some .int) 2 [] o ad M (fun v N => v = some (.int (f_fg (M.2.1 2) 4)) ∧ EQ (setHd (sS (sS M 3 (nI 0)) 4 (nI 0)) h00) N) := by
  obtain ⟨hW, ⟨n0, hn0, hn3, hwb⟩, ⟨t0, ht0, ht12⟩, h24, h27, hWS, hI⟩ := h
  have q := c_forget (l := l) (G := G) (o := o) (ad := ad) (M := M) (h := M.2.1 2)
  rw [hd_slf] at q
  refine ⟨_, q, fun v w' z => ?_⟩
  obtain ⟨rfl, rfl⟩ := z
  exact ⟨_, rfl, rfl, EQ_r _⟩
theorem rq_waits {l : Launch} {G : GG} {o : Nat} {ad : Nat → Nat} {M : MS} {x : Int32} (h : RF M) : Rsc l G yX11_waits cX11_waits 2 (some .int) 6 [.int x] o ad M (fun v N => v = some (.int (if isI x 201 then (f_hours (M.2.1 1) (-1) (nI 0) (tn x) (M.2.1 2)) 2016 else -2)) ∧ EQ (setHd M (if isI x 201 then (f_hours (M.2.1 1) (-1) (nI 0) (tn x) (M.2.1 2)) else (M.2.1 2))) N) := by
  obtain ⟨hW, ⟨n0, hn0, hn3, hwb⟩, ⟨t0, ht0, ht12⟩, h24, h27, hWS, hI⟩ := h
  have q := c_waits (l := l) (G := G) (o := o) (ad := ad) (M := M) (h := M.2.1 2) x hW
  rw [hd_slf] at q
  refine ⟨_, q, fun v w' z => ?_⟩
  obtain ⟨rfl, rfl⟩ := z
  exact ⟨_, rfl, by rw [h24, hours_cv (M.1 25) (nI 0)], by rw [h24, hours_cv (M.1 25) (nI 0)]; exact EQ_r _⟩
theorem rq_read {l : Launch} {G : GG} {o : Nat} {ad : Nat → Nat} {M : MS} {x : Int32} {y : Int32} (h : RF M) : Rsc l G yX11_read cX11_read 5 (some .int) 5 [.int x, .int y] o ad M (fun v N => v = some (.int (if (isI x (nrw (M.2.1 1)) ∧ isP y 51) then nI (bkN M + 1) else -2)) ∧ EQ (setHd (if (isI x (nrw (M.2.1 1)) ∧ isP y 51) then sitM M (f_readsN (M.2.1 1) (-1) (nI 0) (tn x) (tn y) (M.2.1 2)) (tn x) y (nI 0) (f_ones (f_slips (M.2.1 1) (M.2.1 2) (tn x)) 12) else M) (if (isI x (nrw (M.2.1 1)) ∧ isP y 51) then (f_readsN (M.2.1 1) (-1) (nI 0) (tn x) (tn y) (M.2.1 2)) else (M.2.1 2))) N) := by
  obtain ⟨hW, ⟨n0, hn0, hn3, hwb⟩, ⟨t0, ht0, ht12⟩, h24, h27, hWS, hI⟩ := h
  have q := c_read (l := l) (G := G) (o := o) (ad := ad) (M := M) (h := M.2.1 2) x y hn3 hn0 hW
  rw [hd_slf] at q
  refine ⟨_, q, fun v w' z => ?_⟩
  obtain ⟨rfl, rfl⟩ := z
  exact ⟨_, rfl, rfl, by rw [h24, readsN_cv (M.1 25) (nI 0)]; exact EQ_r _⟩
theorem rq_learn {l : Launch} {G : GG} {o : Nat} {ad : Nat → Nat} {M : MS} {x : Int32} (h : RF M) : Rsc l G yX11_learn cX11_learn 4 (some .int) 6 [.int x] o ad M (fun v N => v = some (.int (if isI x (nrw (M.2.1 1)) then (f_lrn (M.2.1 1) (-1) (nI 0) (tn x) 40 1 0 (M.2.1 2)).1 else -2)) ∧ EQ (setHd (if isI x (nrw (M.2.1 1)) then sitM M (f_lrn (M.2.1 1) (-1) (nI 0) (tn x) 40 1 0 (M.2.1 2)).2 (tn x) (if (f_lrn (M.2.1 1) (-1) (nI 0) (tn x) 40 1 0 (M.2.1 2)).1 = -1 then nI 40 else (f_lrn (M.2.1 1) (-1) (nI 0) (tn x) 40 1 0 (M.2.1 2)).1) (if (f_lrn (M.2.1 1) (-1) (nI 0) (tn x) 40 1 0 (M.2.1 2)).1 = -1 then nI 2 else nI 1) (f_ones (f_slips (M.2.1 1) (M.2.1 2) (tn x)) 12) else M) (if isI x (nrw (M.2.1 1)) then (f_lrn (M.2.1 1) (-1) (nI 0) (tn x) 40 1 0 (M.2.1 2)).2 else (M.2.1 2))) N) := by
  obtain ⟨hW, ⟨n0, hn0, hn3, hwb⟩, ⟨t0, ht0, ht12⟩, h24, h27, hWS, hI⟩ := h
  have q := c_learn (l := l) (G := G) (o := o) (ad := ad) (M := M) (h := M.2.1 2) x hn3 hn0 hW
  rw [hd_slf] at q
  refine ⟨_, q, fun v w' z => ?_⟩
  obtain ⟨rfl, rfl⟩ := z
  exact ⟨_, rfl, by rw [h24, lrn_cv (M.1 25) (nI 0)], by rw [h24, lrn_cv (M.1 25) (nI 0)]; exact EQ_r _⟩
theorem rq_days {l : Launch} {G : GG} {o : Nat} {ad : Nat → Nat} {M : MS} {x : Int32} (h : RF M) : Rsc l G yX11_days cX11_days 11 (some .int) 7 [.int x] o ad M (fun v N => v = some (.int (if isI x 4 then (if M.2.1 34 (tn x) = -1 then -6 else nI (f_dys (M.2.2 36) (60 * tn x) M (M.2.1 2) (tn (M.2.1 34 (tn x)) / 3)).1) else -2)) ∧ EQ (setHd (if isI x 4 ∧ ¬ M.2.1 34 (tn x) = -1 then (f_dys (M.2.2 36) (60 * tn x) M (M.2.1 2) (tn (M.2.1 34 (tn x)) / 3)).2.1 else M) (if isI x 4 ∧ ¬ M.2.1 34 (tn x) = -1 then (f_dys (M.2.2 36) (60 * tn x) M (M.2.1 2) (tn (M.2.1 34 (tn x)) / 3)).2.2 else (M.2.1 2))) N) := by
  obtain ⟨hW, ⟨n0, hn0, hn3, hwb⟩, ⟨t0, ht0, ht12⟩, h24, h27, hWS, hI⟩ := h
  have q := c_days (l := l) (G := G) (o := o) (ad := ad) (M := M) (h := M.2.1 2) x hn3 hn0 hWS hW
  rw [hd_slf] at q
  refine ⟨_, q, fun v w' z => ?_⟩
  obtain ⟨rfl, rfl⟩ := z
  exact ⟨_, rfl, rfl, EQ_r _⟩
theorem rq_needs {l : Launch} {G : GG} {o : Nat} {ad : Nat → Nat} {M : MS} {x : Int32} (h : RF M) : Rsc l G yX11_needs cX11_needs 2 (some .int) 7 [.int x] o ad M (fun v N => v = some (.int (if isI x (nrw (M.2.1 1)) then (f_need (M.2.1 1) (-1) (nI 0) (tn x) (M.2.1 2)) else -2)) ∧ EQ M N) := by
  obtain ⟨hW, ⟨n0, hn0, hn3, hwb⟩, ⟨t0, ht0, ht12⟩, h24, h27, hWS, hI⟩ := h
  have q := c_needs (l := l) (G := G) (o := o) (ad := ad) (M := M) (g := M.2.1 26) (h := M.2.1 2) (c := 0) x (by omega) hW
  rw [eta h27] at q
  refine ⟨_, q, fun v w' z => ?_⟩
  obtain ⟨rfl, g2, -, rfl⟩ := z
  exact ⟨_, rfl, by simp only [h24, need_cv (M.1 25) (nI 0), hours_cv (M.1 25) (nI 0), lh_cv (M.1 25) (nI 0), las_cv (M.1 25) (nI 0), gon_cv (M.1 25) (nI 0), wb_cv (M.1 25) (nI 0), wo_cv (M.1 25) (nI 0), mst_cv (M.1 25) (nI 0), bet_cv (M.1 25) (nI 0), eve_cv (M.1 25) (nI 0), one_cv (M.1 25) (nI 0), pl_cv (M.1 25) (nI 0), law_cv (M.1 25) (nI 0), readsN_cv (M.1 25) (nI 0), lrn_cv (M.1 25) (nI 0)], EQ_g h27 g2⟩
theorem rq_fresh {l : Launch} {G : GG} {o : Nat} {ad : Nat → Nat} {M : MS} {x : Int32} (h : RF M) : Rsc l G yX11_fresh cX11_fresh 2 (some .int) 7 [.int x] o ad M (fun v N => v = some (.int (if isI x (nrw (M.2.1 1)) then (f_need (M.2.1 1) (-1) (nI 0) (tn x) (f_fr (M.2.1 2))) else -2)) ∧ EQ M N) := by
  obtain ⟨hW, ⟨n0, hn0, hn3, hwb⟩, ⟨t0, ht0, ht12⟩, h24, h27, hWS, hI⟩ := h
  have q := c_fresh (l := l) (G := G) (o := o) (ad := ad) (M := M) (g := M.2.1 26) (h := M.2.1 2) (c := 0) x (by omega) hW
  rw [eta h27] at q
  refine ⟨_, q, fun v w' z => ?_⟩
  obtain ⟨rfl, g2, -, rfl⟩ := z
  exact ⟨_, rfl, by simp only [h24, need_cv (M.1 25) (nI 0), hours_cv (M.1 25) (nI 0), lh_cv (M.1 25) (nI 0), las_cv (M.1 25) (nI 0), gon_cv (M.1 25) (nI 0), wb_cv (M.1 25) (nI 0), wo_cv (M.1 25) (nI 0), mst_cv (M.1 25) (nI 0), bet_cv (M.1 25) (nI 0), eve_cv (M.1 25) (nI 0), one_cv (M.1 25) (nI 0), pl_cv (M.1 25) (nI 0), law_cv (M.1 25) (nI 0), readsN_cv (M.1 25) (nI 0), lrn_cv (M.1 25) (nI 0)], EQ_g h27 g2⟩
theorem rq_saving {l : Launch} {G : GG} {o : Nat} {ad : Nat → Nat} {M : MS} {x : Int32} (h : RF M) : Rsc l G yX11_saving cX11_saving 4 (some .int) 7 [.int x] o ad M (fun v N => v = some (.int (if isI x (nrw (M.2.1 1)) then (if (f_need (M.2.1 1) (-1) (nI 0) (tn x) (f_fr (M.2.1 2))) < nI 1 ∨ (f_need (M.2.1 1) (-1) (nI 0) (tn x) (M.2.1 2)) = -1 then -2000000000 else nI 1000 * ((f_need (M.2.1 1) (-1) (nI 0) (tn x) (f_fr (M.2.1 2))) - (f_need (M.2.1 1) (-1) (nI 0) (tn x) (M.2.1 2))) / (f_need (M.2.1 1) (-1) (nI 0) (tn x) (f_fr (M.2.1 2)))) else -2000000000)) ∧ EQ M N) := by
  obtain ⟨hW, ⟨n0, hn0, hn3, hwb⟩, ⟨t0, ht0, ht12⟩, h24, h27, hWS, hI⟩ := h
  have q := c_saving (l := l) (G := G) (o := o) (ad := ad) (M := M) (g := M.2.1 26) (h := M.2.1 2) (c := 0) x (by omega) hW
  rw [eta h27] at q
  refine ⟨_, q, fun v w' z => ?_⟩
  obtain ⟨rfl, g2, -, rfl⟩ := z
  exact ⟨_, rfl, by simp only [h24, need_cv (M.1 25) (nI 0), hours_cv (M.1 25) (nI 0), lh_cv (M.1 25) (nI 0), las_cv (M.1 25) (nI 0), gon_cv (M.1 25) (nI 0), wb_cv (M.1 25) (nI 0), wo_cv (M.1 25) (nI 0), mst_cv (M.1 25) (nI 0), bet_cv (M.1 25) (nI 0), eve_cv (M.1 25) (nI 0), one_cv (M.1 25) (nI 0), pl_cv (M.1 25) (nI 0), law_cv (M.1 25) (nI 0), readsN_cv (M.1 25) (nI 0), lrn_cv (M.1 25) (nI 0)], EQ_g h27 g2⟩
theorem rq_after {l : Launch} {G : GG} {o : Nat} {ad : Nat → Nat} {M : MS} {x : Int32} {y : Int32} (h : RF M) : Rsc l G yX11_after cX11_after 4 (some .int) 7 [.int x, .int y] o ad M (fun v N => v = some (.int (if isI x (nrw (M.2.1 1)) ∧ isI y 201 then f_need (M.2.1 1) (-1) (nI 0) (tn x) (f_hours (M.2.1 1) (-1) (nI 0) (tn y) (M.2.1 2)) else -2)) ∧ EQ M N) := by
  obtain ⟨hW, ⟨n0, hn0, hn3, hwb⟩, ⟨t0, ht0, ht12⟩, h24, h27, hWS, hI⟩ := h
  have q := c_after (l := l) (G := G) (o := o) (ad := ad) (M := M) (g := M.2.1 26) (h := M.2.1 2) (c := 0) x y (by omega) hW
  rw [eta h27] at q
  refine ⟨_, q, fun v w' z => ?_⟩
  obtain ⟨rfl, g2, -, rfl⟩ := z
  exact ⟨_, rfl, by simp only [h24, need_cv (M.1 25) (nI 0), hours_cv (M.1 25) (nI 0), lh_cv (M.1 25) (nI 0), las_cv (M.1 25) (nI 0), gon_cv (M.1 25) (nI 0), wb_cv (M.1 25) (nI 0), wo_cv (M.1 25) (nI 0), mst_cv (M.1 25) (nI 0), bet_cv (M.1 25) (nI 0), eve_cv (M.1 25) (nI 0), one_cv (M.1 25) (nI 0), pl_cv (M.1 25) (nI 0), law_cv (M.1 25) (nI 0), readsN_cv (M.1 25) (nI 0), lrn_cv (M.1 25) (nI 0)], EQ_g h27 g2⟩
theorem rq_lasts {l : Launch} {G : GG} {o : Nat} {ad : Nat → Nat} {M : MS} {x : Int32} (h : RF M) : Rsc l G yX11_lasts cX11_lasts 4 (some .int) 7 [.int x] o ad M (fun v N => v = some (.int (if isI x (nrw (M.2.1 1)) then f_las (M.2.1 1) (-1) (nI 0) (tn x) 201 0 (M.2.1 2) else -2)) ∧ EQ M N) := by
  obtain ⟨hW, ⟨n0, hn0, hn3, hwb⟩, ⟨t0, ht0, ht12⟩, h24, h27, hWS, hI⟩ := h
  have q := c_lasts (l := l) (G := G) (o := o) (ad := ad) (M := M) (g := M.2.1 26) (h := M.2.1 2) (c := 0) x (by omega) hW
  rw [eta h27] at q
  refine ⟨_, q, fun v w' z => ?_⟩
  obtain ⟨rfl, g2, -, rfl⟩ := z
  exact ⟨_, rfl, by simp only [h24, need_cv (M.1 25) (nI 0), hours_cv (M.1 25) (nI 0), lh_cv (M.1 25) (nI 0), las_cv (M.1 25) (nI 0), gon_cv (M.1 25) (nI 0), wb_cv (M.1 25) (nI 0), wo_cv (M.1 25) (nI 0), mst_cv (M.1 25) (nI 0), bet_cv (M.1 25) (nI 0), eve_cv (M.1 25) (nI 0), one_cv (M.1 25) (nI 0), pl_cv (M.1 25) (nI 0), law_cv (M.1 25) (nI 0), readsN_cv (M.1 25) (nI 0), lrn_cv (M.1 25) (nI 0)], EQ_g h27 g2⟩
theorem rq_gone {l : Launch} {G : GG} {o : Nat} {ad : Nat → Nat} {M : MS} {x : Int32} (h : RF M) : Rsc l G yX11_gone cX11_gone 4 (some .int) 7 [.int x] o ad M (fun v N => v = some (.int (if isI x (nrw (M.2.1 1)) then f_gon (M.2.1 1) (-1) (nI 0) (tn x) 61 0 (M.2.1 2) else -2)) ∧ EQ M N) := by
  obtain ⟨hW, ⟨n0, hn0, hn3, hwb⟩, ⟨t0, ht0, ht12⟩, h24, h27, hWS, hI⟩ := h
  have q := c_gone (l := l) (G := G) (o := o) (ad := ad) (M := M) (g := M.2.1 26) (h := M.2.1 2) (c := 0) x (by omega) hW
  rw [eta h27] at q
  refine ⟨_, q, fun v w' z => ?_⟩
  obtain ⟨rfl, g2, -, rfl⟩ := z
  exact ⟨_, rfl, by simp only [h24, need_cv (M.1 25) (nI 0), hours_cv (M.1 25) (nI 0), lh_cv (M.1 25) (nI 0), las_cv (M.1 25) (nI 0), gon_cv (M.1 25) (nI 0), wb_cv (M.1 25) (nI 0), wo_cv (M.1 25) (nI 0), mst_cv (M.1 25) (nI 0), bet_cv (M.1 25) (nI 0), eve_cv (M.1 25) (nI 0), one_cv (M.1 25) (nI 0), pl_cv (M.1 25) (nI 0), law_cv (M.1 25) (nI 0), readsN_cv (M.1 25) (nI 0), lrn_cv (M.1 25) (nI 0)], EQ_g h27 g2⟩
theorem rq_without {l : Launch} {G : GG} {o : Nat} {ad : Nat → Nat} {M : MS} {x : Int32} {y : Int32} (h : RF M) : Rsc l G yX11_without cX11_without 5 (some .int) 7 [.int x, .int y] o ad M (fun v N => v = some (.int (if isI x (nrw (M.2.1 1)) ∧ isI y 4 then f_wo (M.2.1 1) (-1) (nI 0) (tn x) (tn y) (M.2.1 2) else -2)) ∧ EQ M N) := by
  obtain ⟨hW, ⟨n0, hn0, hn3, hwb⟩, ⟨t0, ht0, ht12⟩, h24, h27, hWS, hI⟩ := h
  have q := c_without (l := l) (G := G) (o := o) (ad := ad) (M := M) (g := M.2.1 26) (h := M.2.1 2) (c := 0) x y (by omega) hW
  rw [eta h27] at q
  refine ⟨_, q, fun v w' z => ?_⟩
  obtain ⟨rfl, g2, -, rfl⟩ := z
  exact ⟨_, rfl, by simp only [h24, need_cv (M.1 25) (nI 0), hours_cv (M.1 25) (nI 0), lh_cv (M.1 25) (nI 0), las_cv (M.1 25) (nI 0), gon_cv (M.1 25) (nI 0), wb_cv (M.1 25) (nI 0), wo_cv (M.1 25) (nI 0), mst_cv (M.1 25) (nI 0), bet_cv (M.1 25) (nI 0), eve_cv (M.1 25) (nI 0), one_cv (M.1 25) (nI 0), pl_cv (M.1 25) (nI 0), law_cv (M.1 25) (nI 0), readsN_cv (M.1 25) (nI 0), lrn_cv (M.1 25) (nI 0)], EQ_g h27 g2⟩
theorem rq_between {l : Launch} {G : GG} {o : Nat} {ad : Nat → Nat} {M : MS} {x : Int32} {y : Int32} {z : Int32} (h : RF M) : Rsc l G yX11_between cX11_between 7 (some .int) 7 [.int x, .int y, .int z] o ad M (fun v N => v = some (.int (if isI x (nrw (M.2.1 1)) ∧ isI y (nrw (M.2.1 1)) ∧ ¬ x = y ∧ isP z 201 then f_bet (M.2.1 1) (-1) (nI 0) (tn x) (tn y) (tn z) (M.2.1 2) else -2000000000)) ∧ EQ M N) := by
  obtain ⟨hW, ⟨n0, hn0, hn3, hwb⟩, ⟨t0, ht0, ht12⟩, h24, h27, hWS, hI⟩ := h
  have q := c_between (l := l) (G := G) (o := o) (ad := ad) (M := M) (g := M.2.1 26) (h := M.2.1 2) (c := 0) x y z (by omega) hW
  rw [eta h27] at q
  refine ⟨_, q, fun v w' z => ?_⟩
  obtain ⟨rfl, g2, -, rfl⟩ := z
  exact ⟨_, rfl, by simp only [h24, need_cv (M.1 25) (nI 0), hours_cv (M.1 25) (nI 0), lh_cv (M.1 25) (nI 0), las_cv (M.1 25) (nI 0), gon_cv (M.1 25) (nI 0), wb_cv (M.1 25) (nI 0), wo_cv (M.1 25) (nI 0), mst_cv (M.1 25) (nI 0), bet_cv (M.1 25) (nI 0), eve_cv (M.1 25) (nI 0), one_cv (M.1 25) (nI 0), pl_cv (M.1 25) (nI 0), law_cv (M.1 25) (nI 0), readsN_cv (M.1 25) (nI 0), lrn_cv (M.1 25) (nI 0)], EQ_g h27 g2⟩
theorem rq_evening {l : Launch} {G : GG} {o : Nat} {ad : Nat → Nat} {M : MS} {x : Int32} {y : Int32} {z : Int32} (h : RF M) : Rsc l G yX11_evening cX11_evening 8 (some .int) 7 [.int x, .int y, .int z] o ad M (fun v N => v = some (.int (if isI x (nrw (M.2.1 1)) ∧ isI y 24 ∧ isI z 201 then f_eve (M.2.1 1) (-1) (nI 0) (tn x) (tn y) (tn z) (M.2.1 2) else -2000000000)) ∧ EQ M N) := by
  obtain ⟨hW, ⟨n0, hn0, hn3, hwb⟩, ⟨t0, ht0, ht12⟩, h24, h27, hWS, hI⟩ := h
  have q := c_evening (l := l) (G := G) (o := o) (ad := ad) (M := M) (g := M.2.1 26) (h := M.2.1 2) (c := 0) x y z (by omega) hW
  rw [eta h27] at q
  refine ⟨_, q, fun v w' z => ?_⟩
  obtain ⟨rfl, g2, -, rfl⟩ := z
  exact ⟨_, rfl, by simp only [h24, need_cv (M.1 25) (nI 0), hours_cv (M.1 25) (nI 0), lh_cv (M.1 25) (nI 0), las_cv (M.1 25) (nI 0), gon_cv (M.1 25) (nI 0), wb_cv (M.1 25) (nI 0), wo_cv (M.1 25) (nI 0), mst_cv (M.1 25) (nI 0), bet_cv (M.1 25) (nI 0), eve_cv (M.1 25) (nI 0), one_cv (M.1 25) (nI 0), pl_cv (M.1 25) (nI 0), law_cv (M.1 25) (nI 0), readsN_cv (M.1 25) (nI 0), lrn_cv (M.1 25) (nI 0)], EQ_g h27 g2⟩
theorem rq_when {l : Launch} {G : GG} {o : Nat} {ad : Nat → Nat} {M : MS} {x : Int32} (h : RF M) : Rsc l G yX11_when cX11_when 6 (some .int) 7 [.int x] o ad M (fun v N => v = some (.int (if isI x (nrw (M.2.1 1)) then (f_wb (M.2.1 1) (-1) (nI 0) (tn x) (M.2.1 2) 24).1 else -2)) ∧ EQ M N) := by
  obtain ⟨hW, ⟨n0, hn0, hn3, hwb⟩, ⟨t0, ht0, ht12⟩, h24, h27, hWS, hI⟩ := h
  have q := c_when (l := l) (G := G) (o := o) (ad := ad) (M := M) (g := M.2.1 26) (h := M.2.1 2) (c := 0) x (by omega) hW
  rw [eta h27] at q
  refine ⟨_, q, fun v w' z => ?_⟩
  obtain ⟨rfl, g2, -, rfl⟩ := z
  exact ⟨_, rfl, by simp only [h24, need_cv (M.1 25) (nI 0), hours_cv (M.1 25) (nI 0), lh_cv (M.1 25) (nI 0), las_cv (M.1 25) (nI 0), gon_cv (M.1 25) (nI 0), wb_cv (M.1 25) (nI 0), wo_cv (M.1 25) (nI 0), mst_cv (M.1 25) (nI 0), bet_cv (M.1 25) (nI 0), eve_cv (M.1 25) (nI 0), one_cv (M.1 25) (nI 0), pl_cv (M.1 25) (nI 0), law_cv (M.1 25) (nI 0), readsN_cv (M.1 25) (nI 0), lrn_cv (M.1 25) (nI 0)], EQ_g h27 g2⟩
theorem rq_must {l : Launch} {G : GG} {o : Nat} {ad : Nat → Nat} {M : MS} {x : Int32} (h : RF M) : Rsc l G yX11_must cX11_must 4 (some .int) 8 [.int x] o ad M (fun v N => v = some (.int (if isI x (nrw (M.2.1 1)) then nI (f_mst (M.2.1 1) (-1) (nI 0) (tn x) (M.2.1 2) 3) else -2)) ∧ EQ M N) := by
  obtain ⟨hW, ⟨n0, hn0, hn3, hwb⟩, ⟨t0, ht0, ht12⟩, h24, h27, hWS, hI⟩ := h
  have q := c_must (l := l) (G := G) (o := o) (ad := ad) (M := M) (g := M.2.1 26) (h := M.2.1 2) (c := 0) x (by omega) hW
  rw [eta h27] at q
  refine ⟨_, q, fun v w' z => ?_⟩
  obtain ⟨rfl, g2, -, rfl⟩ := z
  exact ⟨_, rfl, by simp only [h24, need_cv (M.1 25) (nI 0), hours_cv (M.1 25) (nI 0), lh_cv (M.1 25) (nI 0), las_cv (M.1 25) (nI 0), gon_cv (M.1 25) (nI 0), wb_cv (M.1 25) (nI 0), wo_cv (M.1 25) (nI 0), mst_cv (M.1 25) (nI 0), bet_cv (M.1 25) (nI 0), eve_cv (M.1 25) (nI 0), one_cv (M.1 25) (nI 0), pl_cv (M.1 25) (nI 0), law_cv (M.1 25) (nI 0), readsN_cv (M.1 25) (nI 0), lrn_cv (M.1 25) (nI 0)], EQ_g h27 g2⟩
theorem rq_verse {l : Launch} {G : GG} {o : Nat} {ad : Nat → Nat} {M : MS} {x : Int32} {y : Int32} (h : RF M) : Rsc l G yX11_verse cX11_verse 5 (some .int) 7 [.int x, .int y] o ad M (fun v N => v = some (.int (if isI x (nrw (M.2.1 1)) ∧ isI y (nrw (M.2.1 1)) then (if (f_need (M.2.1 1) (-1) (nI 0) (tn x) (f_fr (M.2.1 2))) = -1 ∨ (f_need (M.2.1 1) (-1) (nI 0) (tn y) (f_fr (M.2.1 2))) = -1 then -2000000000 else nI 1000 * (f_need (M.2.1 1) (-1) (nI 0) (tn x) (f_fr (M.2.1 2))) / (f_need (M.2.1 1) (-1) (nI 0) (tn y) (f_fr (M.2.1 2)))) else -2000000000)) ∧ EQ M N) := by
  obtain ⟨hW, ⟨n0, hn0, hn3, hwb⟩, ⟨t0, ht0, ht12⟩, h24, h27, hWS, hI⟩ := h
  have q := c_verse (l := l) (G := G) (o := o) (ad := ad) (M := M) (g := M.2.1 26) (h := M.2.1 2) (c := 0) x y (by omega) hW
  rw [eta h27] at q
  refine ⟨_, q, fun v w' z => ?_⟩
  obtain ⟨rfl, g2, -, rfl⟩ := z
  exact ⟨_, rfl, by simp only [h24, need_cv (M.1 25) (nI 0), hours_cv (M.1 25) (nI 0), lh_cv (M.1 25) (nI 0), las_cv (M.1 25) (nI 0), gon_cv (M.1 25) (nI 0), wb_cv (M.1 25) (nI 0), wo_cv (M.1 25) (nI 0), mst_cv (M.1 25) (nI 0), bet_cv (M.1 25) (nI 0), eve_cv (M.1 25) (nI 0), one_cv (M.1 25) (nI 0), pl_cv (M.1 25) (nI 0), law_cv (M.1 25) (nI 0), readsN_cv (M.1 25) (nI 0), lrn_cv (M.1 25) (nI 0)], EQ_g h27 g2⟩
theorem rq_fit {l : Launch} {G : GG} {o : Nat} {ad : Nat → Nat} {M : MS} {x : Int32} {y : Int32} {z : Int32} {u : Int32} {k5 : Int32} (h : RF M) : Rsc l G yX11_fit cX11_fit 9 (some .int) 7 [.int x, .int y, .int z, .int u, .int k5] o ad M (fun v N => v = some (.int (if (isI x 2 ∧ isI y 4 ∧ (lN 0 ≤ z.toInt64 ∧ z.toInt64 ≤ u.toInt64) ∧ isI u 1001 ∧ tn u - tn z ≤ 30 ∧ isI k5 3) then (if (nI 400 < (M.2.1 2) 2016 ∨ 0 < M.1 4 ∨ ¬ (M.2.1 1) 2 = (M.2.1 1) 9) then -5 else if tn k5 = 0 then nI (f_ftn (M.2.1 1) (M.2.1 5) (tn (M.1 3)) (nI (4 * tn x + tn y)) (tn z) (tn u - tn z + 1)).1 else if tn k5 = 1 then (f_ftn (M.2.1 1) (M.2.1 5) (tn (M.1 3)) (nI (4 * tn x + tn y)) (tn z) (tn u - tn z + 1)).2.1 else (f_ftn (M.2.1 1) (M.2.1 5) (tn (M.1 3)) (nI (4 * tn x + tn y)) (tn z) (tn u - tn z + 1)).2.2) else -2)) ∧ EQ M N) := by
  obtain ⟨hW, ⟨n0, hn0, hn3, hwb⟩, ⟨t0, ht0, ht12⟩, h24, h27, hWS, hI⟩ := h
  have q := c_fit (l := l) (G := G) (o := o) (ad := ad) (M := M) (g := M.2.1 26) (h := M.2.1 2) (c := 0) x y z u k5 (by omega) hn3 hn0 hwb hW
  rw [eta h27] at q
  refine ⟨_, q, fun v w' z => ?_⟩
  obtain ⟨rfl, g2, -, rfl⟩ := z
  refine ⟨_, rfl, by rw [hn3, tn_nI (by omega)], ?_⟩
  repeat' split
  all_goals first | exact EQ_g h27 g2 | exact ⟨⟨⟨rfl, rfl⟩, rfl, ⟨rfl, rfl⟩, h24.symm, h27.symm⟩, ⟨⟨rfl, rfl, rfl⟩, ⟨rfl, rfl, rfl, rfl, rfl⟩, rfl, rfl, rfl⟩, rfl⟩
theorem rq_parts {l : Launch} {G : GG} {o : Nat} {ad : Nat → Nat} {M : MS} {x : Int32} (h : RF M) : Rsc l G yX11_parts cX11_parts 6 (some .int) 7 [.int x] o ad M (fun v N => v = some (.int (if isI x 3 then (if M.2.1 10 (tn x) = -1 then -6 else (f_pc (M.2.1 1) (imgW M (tn x)) (M.2.1 2) (imgH M (tn x)) (if nrw (M.2.1 1) ≤ nrw (imgW M (tn x)) then nrw (M.2.1 1) else nrw (imgW M (tn x)))).1) else -2)) ∧ EQ M N) := by
  obtain ⟨hW, ⟨n0, hn0, hn3, hwb⟩, ⟨t0, ht0, ht12⟩, h24, h27, hWS, hI⟩ := h
  have q := c_parts (l := l) (G := G) (o := o) (ad := ad) (M := M) (g := M.2.1 26) (h := M.2.1 2) (c := 0) x (by omega) hI hW
  rw [eta h27] at q
  refine ⟨_, q, fun v w' z => ?_⟩
  obtain ⟨rfl, g2, -, rfl⟩ := z
  exact ⟨_, rfl, by unfold ptM ptN; rw [h24, pb_pc hW _ (Nat.le_refl _)], by split <;> exact ⟨⟨⟨rfl, rfl⟩, rfl, ⟨rfl, rfl⟩, rfl, h27.symm⟩, ⟨⟨rfl, rfl, rfl⟩, ⟨rfl, rfl, rfl, rfl, rfl⟩, rfl, rfl, rfl⟩, rfl⟩⟩
theorem rq_spread {l : Launch} {G : GG} {o : Nat} {ad : Nat → Nat} {M : MS} {x : Int32} {y : Int32} {z : Int32} (h : RF M) : Rsc l G yX11_spread cX11_spread 4 (some .int) 11 [.int x, .int y, .int z] o ad M (fun v N => v = some (.int (if (isI x (nrw (M.2.1 1)) ∧ isP y 9 ∧ isP z 5) then (f_pl (M.2.1 1) (-1) (nI 0) (tn x) (tn z - 1) (tn y) 0 (M.2.1 2) (-1, -1)).1 else -1)) ∧ EQ M N) := by
  obtain ⟨hW, ⟨n0, hn0, hn3, hwb⟩, ⟨t0, ht0, ht12⟩, h24, h27, hWS, hI⟩ := h
  have q := c_spread (l := l) (G := G) (o := o) (ad := ad) (M := M) (a := M.1 28) (b := M.1 29) (g := M.2.1 26) (h := M.2.1 2) (c := 0) x y z (by omega) hW
  rw [eta2 h27] at q
  refine ⟨_, q, fun v w' z => ?_⟩
  obtain ⟨rfl, g2, -, rfl⟩ := z
  exact ⟨_, rfl, by rw [pl_b (M.1 29) (-1)]; simp only [h24, need_cv (M.1 25) (nI 0), hours_cv (M.1 25) (nI 0), lh_cv (M.1 25) (nI 0), las_cv (M.1 25) (nI 0), gon_cv (M.1 25) (nI 0), wb_cv (M.1 25) (nI 0), wo_cv (M.1 25) (nI 0), mst_cv (M.1 25) (nI 0), bet_cv (M.1 25) (nI 0), eve_cv (M.1 25) (nI 0), one_cv (M.1 25) (nI 0), pl_cv (M.1 25) (nI 0), law_cv (M.1 25) (nI 0), readsN_cv (M.1 25) (nI 0), lrn_cv (M.1 25) (nI 0)], EQ_g2 h27 g2 _ _⟩
theorem rq_left {l : Launch} {G : GG} {o : Nat} {ad : Nat → Nat} {M : MS} {x : Int32} {y : Int32} {z : Int32} {u : Int32} (h : RF M) : Rsc l G yX11_left cX11_left 8 (some .int) 11 [.int x, .int y, .int z, .int u] o ad M (fun v N => v = some (.int (if (isI x (nrw (M.2.1 1)) ∧ isP y 9 ∧ isP z 5) ∧ isI u 3 then (if tn u = 0 then (f_pl (M.2.1 1) (-1) (nI 0) (tn x) (tn z - 1) (tn y) 0 (M.2.1 2) (-1, -1)).2 else f_left (M.2.1 1) (f_one (M.2.1 1) (-1) (nI 0) (tn x) (tn y) (tn u) (tn z) (M.2.1 2) (tn z)) (tn x) (len (M.2.1 1) (tn x))) else -1)) ∧ EQ M N) := by
  obtain ⟨hW, ⟨n0, hn0, hn3, hwb⟩, ⟨t0, ht0, ht12⟩, h24, h27, hWS, hI⟩ := h
  have q := c_left (l := l) (G := G) (o := o) (ad := ad) (M := M) (a := M.1 28) (b := M.1 29) (g := M.2.1 26) (h := M.2.1 2) (c := 0) x y z u (by omega) hW
  rw [eta2 h27] at q
  refine ⟨_, q, fun v w' z => ?_⟩
  obtain ⟨rfl, g2, -, rfl⟩ := z
  exact ⟨_, rfl, by rw [pl_b (M.1 29) (-1)]; simp only [h24, need_cv (M.1 25) (nI 0), hours_cv (M.1 25) (nI 0), lh_cv (M.1 25) (nI 0), las_cv (M.1 25) (nI 0), gon_cv (M.1 25) (nI 0), wb_cv (M.1 25) (nI 0), wo_cv (M.1 25) (nI 0), mst_cv (M.1 25) (nI 0), bet_cv (M.1 25) (nI 0), eve_cv (M.1 25) (nI 0), one_cv (M.1 25) (nI 0), pl_cv (M.1 25) (nI 0), law_cv (M.1 25) (nI 0), readsN_cv (M.1 25) (nI 0), lrn_cv (M.1 25) (nI 0)], EQ_g2 h27 g2 _ _⟩
