def BYT (x : Int32) : Prop := -128 ≤ x.toInt ∧ x.toInt ≤ 127
theorem byt_k {x : Int32} (h : BYT x) : ∃ k, k < 256 ∧ x = nI k - nI 128 := by
  obtain ⟨h1, h2⟩ := h
  refine ⟨(x.toInt + 128).toNat, by omega, ?_⟩
  apply Int32.toInt_inj.mp
  rw [pk_sub_toInt (by omega) (by omega)]
  omega
theorem byt_dec : ∀ k, k < 256 → ((isLet ((nI k - nI 128) &&& nI 255) ↔ (¬ (nI k - nI 128) < nI 97 ∧ ¬ nI 122 < (nI k - nI 128))) ∧ (isDig ((nI k - nI 128) &&& nI 255) ↔ (¬ (nI k - nI 128) < nI 48 ∧ ¬ nI 57 < (nI k - nI 128)))) ∧ ((((nI k - nI 128) &&& nI 255) = nI 32 ↔ (nI k - nI 128) = nI 32) ∧ (((nI k - nI 128) &&& nI 255) = nI 10 ↔ (nI k - nI 128) = nI 10) ∧ (((nI k - nI 128) &&& nI 255) = nI 59 ↔ (nI k - nI 128) = nI 59)) ∧ ¬ ((nI k - nI 128) &&& nI 255) = -1 := by decide +kernel
theorem byt_dig : ∀ k, k < 256 → (¬ (nI k - nI 128) < nI 48 ∧ ¬ nI 57 < (nI k - nI 128)) → ((nI k - nI 128) &&& nI 255) = (nI k - nI 128) ∧ 176 ≤ k ∧ k ≤ 185 := by decide +kernel
theorem byt_all {x : Int32} (h : BYT x) : ((isLet (x &&& nI 255) ↔ (¬ x < nI 97 ∧ ¬ nI 122 < x)) ∧ (isDig (x &&& nI 255) ↔ (¬ x < nI 48 ∧ ¬ nI 57 < x))) ∧ (((x &&& nI 255) = nI 32 ↔ x = nI 32) ∧ ((x &&& nI 255) = nI 10 ↔ x = nI 10) ∧ ((x &&& nI 255) = nI 59 ↔ x = nI 59)) ∧ ¬ (x &&& nI 255) = -1 := by
  obtain ⟨k, hk, rfl⟩ := byt_k h
  exact byt_dec k hk
theorem byt_d {x : Int32} (h : BYT x) (hd : ¬ x < nI 48 ∧ ¬ nI 57 < x) : (x &&& nI 255) = x ∧ ∃ d, d ≤ 9 ∧ x = nI (48 + d) := by
  obtain ⟨k, hk, rfl⟩ := byt_k h
  obtain ⟨h1, h2, h3⟩ := byt_dig k hk hd
  refine ⟨h1, k - 176, by omega, ?_⟩
  rw [pk_sub (by omega), show 48 + (k - 176) = k - 128 by omega]
def lxF (tp : Nat → Int32) (n a : Nat) : Nat := lx_ws tp n (n - a) a
def lxC (tp : Nat → Int32) (n a : Nat) : Int32 := sv tp n (lxF tp n a)
def lxE (tp : Nat → Int32) (n a : Nat) : Nat := if lxC tp n a = -1 then lxF tp n a else if isLet (lxC tp n a) then lx_let tp n (n - lxF tp n a) (lxF tp n a) else if isDig (lxC tp n a) then (lx_dig tp n (n - lxF tp n a) (lxF tp n a) (nI 0)).1 else lxF tp n a + 1
/-- where the search for the TOKEN j begins -/
def pz (tp : Nat → Int32) (n : Nat) : Nat → Nat
  | 0 => 0
  | j + 1 => lxE tp n (pz tp n j)
/-- the class's and the reference's reading of one number -/
def NV (v rv : Int32) : Prop := ∃ t, v = nI (min t 1000000) ∧ rv = nI (min t 99999)
def KD (tp : Nat → Int32) (n a : Nat) (k v : Int32) : Prop := (lxC tp n a = -1 → k = nI 24) ∧ (¬ lxC tp n a = -1 → isLet (lxC tp n a) → k = wsc tp (lxF tp n a) (lxE tp n a) 104 0 0 (lxF tp n a) 1) ∧ (¬ lxC tp n a = -1 → ¬ isLet (lxC tp n a) → isDig (lxC tp n a) → k = nI 21 ∧ NV v (lx_dig tp n (n - lxF tp n a) (lxF tp n a) (nI 0)).2) ∧ (¬ lxC tp n a = -1 → ¬ isLet (lxC tp n a) → ¬ isDig (lxC tp n a) → k = if lxC tp n a = nI 59 then nI 22 else nI 23)
def TBi (tp : Nat → Int32) (n : Nat) (S : MS) (c : Nat) : Prop := S.1 3 = nI c ∧ ∀ j, j < c → S.2.1 1 j = nI (lxF tp n (pz tp n j)) ∧ KD tp n (pz tp n j) (S.2.1 0 j) (S.2.1 2 j) ∧ ¬ lxC tp n (pz tp n j) = -1
/-- the class's TOKENS, the last one being the end -/
def TB (tp : Nat → Int32) (n : Nat) (S : MS) (c : Nat) : Prop := S.1 3 = nI (c + 1) ∧ (∀ j, j < c + 1 → S.2.1 1 j = nI (lxF tp n (pz tp n j)) ∧ KD tp n (pz tp n j) (S.2.1 0 j) (S.2.1 2 j)) ∧ (∀ j, j < c → ¬ lxC tp n (pz tp n j) = -1) ∧ lxC tp n (pz tp n c) = -1
def adS (Sk : MS) (c : Nat) (u v w : Int32) : MS := sS (aS (aS (aS Sk 0 c u) 1 c v) 2 c w) 3 (nI (c + 1))
theorem adS_at {Sk : MS} {c : Nat} {u v w : Int32} : (adS Sk c u v w).1 3 = nI (c + 1) ∧ ((adS Sk c u v w).2.1 0 c = u ∧ (adS Sk c u v w).2.1 1 c = v ∧ (adS Sk c u v w).2.1 2 c = w) ∧ ∀ j, ¬ j = c → (adS Sk c u v w).2.1 0 j = Sk.2.1 0 j ∧ (adS Sk c u v w).2.1 1 j = Sk.2.1 1 j ∧ (adS Sk c u v w).2.1 2 j = Sk.2.1 2 j := by
  refine ⟨rfl, ⟨?_, ?_, ?_⟩, fun j hj => ⟨?_, ?_, ?_⟩⟩
  · exact (pk_us : upd (Sk.2.1 0) c u c = u)
  · exact (pk_us : upd (Sk.2.1 1) c v c = v)
  · exact (pk_us : upd (Sk.2.1 2) c w c = w)
  · exact (pk_un hj : upd (Sk.2.1 0) c u j = Sk.2.1 0 j)
  · exact (pk_un hj : upd (Sk.2.1 1) c v j = Sk.2.1 1 j)
  · exact (pk_un hj : upd (Sk.2.1 2) c w j = Sk.2.1 2 j)
theorem TBi_s {tp : Nat → Int32} {n c : Nat} {S : MS} {u w : Int32} {p : Nat} (h : TBi tp n S c) (hp : p = lxF tp n (pz tp n c)) (hk : KD tp n (pz tp n c) u w) (hn : ¬ lxC tp n (pz tp n c) = -1) : TBi tp n (adS S c u (nI p) w) (c + 1) := by
  obtain ⟨a1, ⟨a2, a3, a4⟩, a5⟩ := adS_at (Sk := S) (c := c) (u := u) (v := nI p) (w := w)
  refine ⟨a1, fun j hj => ?_⟩
  by_cases e : j = c
  · subst e; rw [a2, a3, a4, hp]; exact ⟨rfl, hk, hn⟩
  · obtain ⟨b1, b2, b3⟩ := a5 j e
    rw [b1, b2, b3]; exact h.2 j (by omega)
theorem TBi_end {tp : Nat → Int32} {n c : Nat} {S : MS} {w : Int32} {p : Nat} (h : TBi tp n S c) (hp : p = lxF tp n (pz tp n c)) (hn : lxC tp n (pz tp n c) = -1) : TB tp n (adS S c (nI 24) (nI p) w) c := by
  obtain ⟨a1, ⟨a2, a3, a4⟩, a5⟩ := adS_at (Sk := S) (c := c) (u := nI 24) (v := nI p) (w := w)
  refine ⟨a1, fun j hj => ?_, fun j hj => (h.2 j hj).2.2, hn⟩
  by_cases e : j = c
  · subst e; rw [a2, a3, a4, hp]; exact ⟨rfl, fun _ => rfl, fun z => absurd hn z, fun z => absurd hn z, fun z => absurd hn z⟩
  · obtain ⟨b1, b2, b3⟩ := a5 j e
    rw [b1, b2, b3]; exact ⟨(h.2 j (by omega)).1, (h.2 j (by omega)).2.1⟩
theorem wsc_cg {tb tp : Nat → Int32} {st en : Nat} (h : ∀ j, j < en → tb j = tp j) : ∀ m i w a s, wsc tb st en m i w a s = wsc tp st en m i w a s
  | 0, i, w, a, s => rfl
  | m + 1, i, w, a, s => by
    rw [wsc, wsc, wsc_cg h m, wsc_cg h m]
    by_cases e : a < en
    · rw [h a e]
    · rw [if_neg (show ¬ (s = 1 ∧ a < en ∧ tb a = sB 0 i) from fun z => e z.2.1), if_neg (show ¬ (s = 1 ∧ a < en ∧ tp a = sB 0 i) from fun z => e z.2.1)]
theorem NV_0 {d : Nat} (h : d ≤ 9) : NV (nI (48 + d) - nI 48) (lx_dv (nI 0) (nI (48 + d))) := by
  refine ⟨d, ?_, ?_⟩
  · rw [pk_sub (by omega), show 48 + d - 48 = d by omega, Nat.min_eq_left (by omega)]
  · unfold lx_dv
    rw [pk_mul, nI_pl, pk_sub (by omega), show 10 * 0 + (48 + d) - 48 = d by omega, Nat.min_eq_left (by omega)]
    exact if_pos (nI_lt (b := 99999) (by omega) (by omega))
theorem NV_s {v rv : Int32} {d : Nat} (h : d ≤ 9) (hv : NV v rv) : NV (if 1000000 < v * nI 10 + nI (48 + d) - nI 48 then 1000000 else v * nI 10 + nI (48 + d) - nI 48) (lx_dv rv (nI (48 + d))) := by
  obtain ⟨t, rfl, rfl⟩ := hv
  refine ⟨10 * t + d, ?_, ?_⟩
  · rw [pk_mul, nI_pl, pk_sub (by omega), show min t 1000000 * 10 + (48 + d) - 48 = min t 1000000 * 10 + d by omega]
    by_cases e : 1000000 < min t 1000000 * 10 + d
    · rw [if_pos (show (1000000 : Int32) < nI (min t 1000000 * 10 + d) from nI_lt (a := 1000000) e (by omega))]
      show nI 1000000 = _
      congr 1; omega
    · rw [if_neg (show ¬ (1000000 : Int32) < nI (min t 1000000 * 10 + d) from nI_nlt (a := 1000000) (by omega) (by omega))]
      congr 1; omega
  · unfold lx_dv
    rw [pk_mul, nI_pl, pk_sub (by omega), show 10 * min t 99999 + (48 + d) - 48 = 10 * min t 99999 + d by omega]
    by_cases e : 10 * min t 99999 + d < 99999
    · rw [if_pos (show nI (10 * min t 99999 + d) < (99999 : Int32) from nI_lt (b := 99999) e (by omega))]
      congr 1; omega
    · rw [if_neg (show ¬ nI (10 * min t 99999 + d) < (99999 : Int32) from nI_nlt (b := 99999) (by omega) (by omega))]
      show nI 99999 = _
      congr 1; omega

