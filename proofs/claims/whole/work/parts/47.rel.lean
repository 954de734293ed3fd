def thOf (c : Nat) : Nat := if 1728 ≤ c then (c - 1728) / 12 else c % 24
theorem lk_lt {s a b : Nat} (hs : s < 4) (ha : a < 24) (hb : b < if s = 3 then 12 else 24) : f_link s a b < 2016 := by
  unfold f_link
  split
  · rename_i e; rw [if_pos e] at hb; omega
  · rename_i e; rw [if_neg e] at hb; omega
theorem thOf_link {s a b : Nat} (hs : s < 4) (ha : a < 24) (hb : b < if s = 3 then 12 else 24) : thOf (f_link s a b) = if s = 3 then a else b := by
  unfold f_link thOf
  by_cases e : s = 3
  · rw [if_pos e] at hb
    rw [if_pos e, if_pos e, if_pos (by omega)]; omega
  · rw [if_neg e] at hb
    rw [if_neg e, if_neg e, if_neg (by omega)]; omega
theorem sortOf_link {s a b : Nat} (hs : s < 4) (ha : a < 24) (hb : b < if s = 3 then 12 else 24) : f_link s a b / 576 = s := by
  unfold f_link
  by_cases e : s = 3
  · rw [if_pos e] at hb
    rw [if_pos e]; omega
  · rw [if_neg e] at hb
    rw [if_neg e]; omega
theorem link_of {c : Nat} (hc : c < 2016) : ∃ s a b, s < 4 ∧ a < 24 ∧ (b < if s = 3 then 12 else 24) ∧ c = f_link s a b := by
  by_cases e : 1728 ≤ c
  · refine ⟨3, (c - 1728) / 12, (c - 1728) % 12, by omega, by omega, by rw [if_pos rfl]; omega, ?_⟩
    unfold f_link; rw [if_pos rfl]; omega
  · refine ⟨c / 576, c % 576 / 24, c % 24, by omega, by omega, by rw [if_neg (by omega)]; omega, ?_⟩
    unfold f_link; rw [if_neg (by omega)]; omega
/-- the LINKS that a READING of place i makes grow -/
def rci (wd : Nat → Int32) (r i : Nat) : List Nat := if i = 0 then [f_link 3 (th wd r 0) 0] else if i = 1 then [f_link 3 (th wd r 1) 1, f_link 0 (th wd r 0) (th wd r 1), f_link 1 (th wd r 1) (th wd r 0)] else [f_link 3 (th wd r i) i, f_link 0 (th wd r (i - 1)) (th wd r i), f_link 1 (th wd r i) (th wd r (i - 1)), f_link 2 (th wd r (i - 2)) (th wd r i)]
def rcr (wd : Nat → Int32) (r : Nat) : Nat → List Nat
  | 0 => []
  | i + 1 => rcr wd r i ++ rci wd r i
def rca (wd : Nat → Int32) : Nat → List Nat
  | 0 => []
  | r + 1 => rca wd r ++ rcr wd r (len wd r)
def rcl (wd : Nat → Int32) : List Nat := rca wd (nrw wd)
theorem rcr_len (wd : Nat → Int32) (r : Nat) : ∀ i, (rcr wd r i).length ≤ 4 * i ∧ (2 ≤ i → (rcr wd r i).length + 4 ≤ 4 * i) ∧ (i = 1 → (rcr wd r i).length ≤ 1)
  | 0 => ⟨by show 0 ≤ 0; omega, fun h => by omega, fun h => by omega⟩
  | i + 1 => by
    obtain ⟨h1, h2, h3⟩ := rcr_len wd r i
    have e : (rcr wd r (i + 1)).length = (rcr wd r i).length + (rci wd r i).length := by rw [rcr, List.length_append]
    rw [e]
    unfold rci
    by_cases z : i = 0
    · subst z
      rw [if_pos rfl]
      have : (rcr wd r 0).length = 0 := rfl
      simp only [List.length_cons, List.length_nil]
      omega
    · rw [if_neg z]
      by_cases y : i = 1
      · subst y
        rw [if_pos rfl]
        have := h3 rfl
        simp only [List.length_cons, List.length_nil]
        omega
      · rw [if_neg y]
        have := h2 (by omega)
        simp only [List.length_cons, List.length_nil]
        omega
theorem rca_len {wd : Nat → Int32} (h : ∀ r, r < nrw wd → 2 ≤ len wd r ∧ len wd r ≤ 12) : ∀ r, r ≤ nrw wd → (rca wd r).length ≤ 44 * r
  | 0, _ => by show 0 ≤ 0; omega
  | r + 1, hr => by
    have h1 := rca_len h r (by omega)
    obtain ⟨h2, h3⟩ := h r (by omega)
    have h4 := (rcr_len wd r (len wd r)).2.1 h2
    rw [rca, List.length_append]
    omega
theorem rcl_len {wd : Nat → Int32} (h : WF wd) : (rcl wd).length ≤ 528 := by
  have h1 := rca_len (wd := wd) (fun r hr => ⟨(h.2.2.2 r hr).1.2.1, (h.2.2.2 r hr).1.2.2⟩) (nrw wd) (Nat.le_refl _)
  have h2 := h.2.2.1.2
  unfold rcl
  omega
theorem rcr_mem {wd : Nat → Int32} {r i c : Nat} (hc : c ∈ rci wd r i) : ∀ n, i < n → c ∈ rcr wd r n
  | 0, h => absurd h (Nat.not_lt_zero _)
  | n + 1, h => by
    rw [rcr]
    by_cases e : i = n
    · subst e; exact List.mem_append.mpr (Or.inr hc)
    · exact List.mem_append.mpr (Or.inl (rcr_mem hc n (by omega)))
theorem rca_mem {wd : Nat → Int32} {r c : Nat} (hc : c ∈ rcr wd r (len wd r)) : ∀ n, r < n → c ∈ rca wd n
  | 0, h => absurd h (Nat.not_lt_zero _)
  | n + 1, h => by
    rw [rca]
    by_cases e : r = n
    · subst e; exact List.mem_append.mpr (Or.inr hc)
    · exact List.mem_append.mpr (Or.inl (rca_mem hc n (by omega)))
theorem rcl_mem {wd : Nat → Int32} {r i c : Nat} (hr : r < nrw wd) (hi : i < len wd r) (hc : c ∈ rci wd r i) : c ∈ rcl wd := rca_mem (rcr_mem hc _ hi) _ hr
/-- as many distinct things as there are places -/
theorem nd_le : ∀ (L R : List Nat), L.Nodup → (∀ c ∈ L, c ∈ R) → L.length ≤ R.length
  | [], R, _, _ => Nat.zero_le _
  | c :: L, R, hn, hs => by
    have hc := hs c List.mem_cons_self
    rw [List.nodup_cons] at hn
    have h1 := nd_le L (R.erase c) hn.2 (fun d hd => (List.mem_erase_of_ne (fun e : d = c => hn.1 (e ▸ hd))).mpr (hs d (List.mem_cons_of_mem _ hd)))
    rw [List.length_erase_of_mem hc] at h1
    have h2 := List.length_pos_of_mem hc
    rw [List.length_cons]
    omega
/-- a TEXT's cells and wd; mu: a sort that doesn't count -/
def TT (mu : Int32) (S : MS) (wd : Nat → Int32) : Prop :=
  (S.1 0 = wd 1 ∧ S.1 1 = wd 0 ∧ S.1 2 = wd 4) ∧ (∀ i, i < nth wd → ∃ e, e ≤ 9 ∧ wd (10 + i) = nI e ∧ S.2.1 3 i = nI e) ∧ (∀ s, s < 4 → (wd (5 + s) = if mu = nI s then nI 0 else S.2.1 4 s) ∧ ∃ v, v ≤ 100 ∧ S.2.1 4 s = nI v) ∧ (∃ np, S.1 9 = nI np ∧ np ≤ 180 ∧ (∀ k, k < np → PC S wd k) ∧ ∀ lw, lw < 9 → ∃ b n, wd (202 + 2 * lw) = nI b ∧ wd (202 + 2 * lw + 1) = nI n ∧ b + n ≤ np ∧ S.2.1 5 lw = nI b ∧ S.2.1 6 lw = nI (b + n) ∧ (0 < n → JN (wd (220 + 3 * b)) 0)) ∧ (∀ lw, 9 ≤ lw → lw < 12 → S.2.1 5 lw = nI 0 ∧ S.2.1 6 lw = nI 0) ∧ ∃ hv, hv ≤ 5000 ∧ wd 4 = nI hv
/-- the ROWS' cells and wd -/
def RR (S : MS) (wd : Nat → Int32) : Prop := S.1 0 = wd 2 ∧ ∀ r, r < nrw wd → S.2.1 2 r = wd (34 + 14 * r) ∧ ∀ i, i < len wd r → S.2.1 4 (12 * r + i) = wd (34 + 14 * r + 1 + i)
/-- how many ROWS are told, and how often each was READ -/
def RU (S : MS) (wd : Nat → Int32) : Prop := S.1 1 = wd 9 ∧ ∀ r, r < nrw wd → S.2.1 3 r = wd (34 + 14 * r + 1 + 12)
theorem RR_len {S : MS} {wd : Nat → Int32} (h : RR S wd) (hW : WF wd) {r : Nat} (hr : r < nrw wd) : S.2.1 2 r = nI (len wd r) := (h.2 r hr).1.trans (hW.2.2.2 r hr).1.1
theorem RR_th {S : MS} {wd : Nat → Int32} (h : RR S wd) (hW : WF wd) {r i : Nat} (hr : r < nrw wd) (hi : i < len wd r) : S.2.1 4 (12 * r + i) = nI (th wd r i) := ((h.2 r hr).2 i hi).trans ((hW.2.2.2 r hr).2 i hi).1
theorem WF_len {wd : Nat → Int32} (hW : WF wd) {r : Nat} (hr : r < nrw wd) : 2 ≤ len wd r ∧ len wd r ≤ 12 ∧ r < 12 ∧ nth wd ≤ 24 := ⟨(hW.2.2.2 r hr).1.2.1, (hW.2.2.2 r hr).1.2.2, by have := hW.2.2.1.2; omega, hW.2.1.2⟩
theorem WF_th {wd : Nat → Int32} (hW : WF wd) {r i : Nat} (hr : r < nrw wd) (hi : i < len wd r) : th wd r i < nth wd := ((hW.2.2.2 r hr).2 i hi).2
/-- a HEAD's cells and hd, with the hour and how often it read since -/
def HG (wd : Nat → Int32) (S : MS) (L : List Nat) (g : Nat → Nat) (hd : Nat → Int32) (hr td : Nat) : Prop := HH S L g ∧ (∀ c, c < 2016 → hd c = nI (g c)) ∧ (hd 2016 = nI hr ∧ S.1 0 = nI hr) ∧ (hd 2017 = nI td ∧ S.1 1 = nI td) ∧ ∀ c ∈ L, c ∈ rcl wd
def HR (wd : Nat → Int32) (S : MS) (hd : Nat → Int32) (hr td : Nat) : Prop := ∃ L g, HG wd S L g hd hr td
theorem HG_room {wd : Nat → Int32} {S : MS} {L : List Nat} {g : Nat → Nat} {hd : Nat → Int32} {hr td c : Nat} (h : HG wd S L g hd hr td) (hW : WF wd) (hc : c ∈ rcl wd) : c ∈ L ∨ L.length < 528 := by
  by_cases e : c ∈ L
  · exact Or.inl e
  · have h1 := nd_le (c :: L) (rcl wd) (List.nodup_cons.mpr ⟨e, h.1.2.2.2.1⟩) (fun d hd => (List.mem_cons.mp hd).elim (fun z => z ▸ hc) (fun z => h.2.2.2.2 d z))
    have h2 := rcl_len hW
    rw [List.length_cons] at h1
    exact Or.inr (by omega)
theorem HG_put {wd : Nat → Int32} {S S' : MS} {L : List Nat} {g : Nat → Nat} {hd : Nat → Int32} {hr td c y : Nat} (h : HG wd S L g hd hr td) (hc : c < 2016) (hin : c ∈ L ∨ c ∈ rcl wd) (h1 : HH S' (putL L c y) (updN g c y)) (h2 : S'.1 0 = S.1 0) (h3 : S'.1 1 = S.1 1) : HG wd S' (putL L c y) (updN g c y) (upd hd c (nI y)) hr td := by
  obtain ⟨a1, a2, a3, a4, a5⟩ := h
  refine ⟨h1, fun j hj => ?_, ⟨by rw [pk_un (by omega)]; exact a3.1, h2.trans a3.2⟩, ⟨by rw [pk_un (by omega)]; exact a4.1, h3.trans a4.2⟩, fun j hj => ?_⟩
  · unfold updN
    by_cases e : j = c
    · subst e; rw [pk_us, if_pos rfl]
    · rw [pk_un e, if_neg e]; exact a2 j hj
  · unfold putL at hj
    split at hj
    · exact a5 j hj
    · rename_i e
      rcases List.mem_append.mp hj with z | z
      · exact a5 j z
      · rw [List.mem_singleton.mp z]
        exact hin.resolve_left (fun q => e (Or.inl q))
theorem clampS_le (v : Int64) : ∃ y, y ≤ 1000 ∧ clampS v = nI y := by
  have key : ∀ w : Int64, 0 ≤ w.toInt → w.toInt ≤ 1000 → ∃ y, y ≤ 1000 ∧ w.toInt32 = nI y := by
    intro w h0 h1
    refine ⟨w.toInt.toNat, by omega, ?_⟩
    refine Int32.toInt_inj.mp ?_
    rw [nI_toInt (by omega), Int64.toInt_toInt32, Int.bmod_eq_of_le (by omega) (by omega)]
    omega
  have hl : (lN 0).toInt = 0 := by decide
  have hk : (1000 : Int64).toInt = 1000 := by decide
  unfold clampS
  by_cases a : v < 1000
  · rw [if_pos a]
    by_cases b : lN 0 < v
    · rw [if_pos b]
      rw [Int64.lt_iff_toInt_lt] at a b
      exact key v (by omega) (by omega)
    · rw [if_neg b]; exact key (lN 0) (by omega) (by omega)
  · rw [if_neg a, if_pos (by decide)]; exact key 1000 (by omega) (by omega)
theorem clampS_java (v : Int64) : (if lN 0 < (if (1000 : Int64) < v then 1000 else v) then (if (1000 : Int64) < v then 1000 else v) else lN 0).toInt32 = clampS v := by
  have e : (if (1000 : Int64) < v then 1000 else v) = (if v < 1000 then v else 1000) := by
    by_cases a : (1000 : Int64) < v
    · rw [if_pos a, if_neg (fun b => by rw [Int64.lt_iff_toInt_lt] at a b; omega)]
    · rw [if_neg a]
      by_cases b : v < 1000
      · rw [if_pos b]
      · rw [if_neg b]
        refine Int64.toInt_inj.mp ?_
        rw [Int64.lt_iff_toInt_lt] at a b
        omega
  rw [e]; rfl
