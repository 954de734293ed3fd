section HourP
variable {wd hd hd' : Nat → Int32} {has easy cl cv : Int32}
theorem fp_congr (h6 : hd 2016 = hd' 2016) (h7 : hd 2017 = hd' 2017) (k : Nat) : f_part wd hd k has easy = f_part wd hd' k has easy := by unfold f_part; rw [h6, h7]
theorem ft_congr (h6 : hd 2016 = hd' 2016) (h7 : hd 2017 = hd' 2017) : ∀ (m k : Nat) (t : Int64), f_term wd hd has easy m k t = f_term wd hd' has easy m k t
  | 0, _, _ => rfl
  | m + 1, k, t => by
    unfold f_term
    rw [fp_congr h6 h7 k, ft_congr h6 h7 m]
theorem fs_congr (h6 : hd 2016 = hd' 2016) (h7 : hd 2017 = hd' 2017) (e : Nat) : ∀ (m k : Nat) (s : Int64), f_sum wd hd has easy e m k s = f_sum wd hd' has easy e m k s
  | 0, _, _ => rfl
  | m + 1, k, s => by
    unfold f_sum
    rw [fp_congr h6 h7 k, ft_congr h6 h7]
    split
    · rfl
    · split
      · rfl
      · rw [fs_congr h6 h7 e m]
theorem fc_congr (h6 : hd 2016 = hd' 2016) (h7 : hd 2017 = hd' 2017) (lw : Nat) : f_comes wd hd cl cv lw has easy = f_comes wd hd' cl cv lw has easy := by unfold f_comes; rw [fs_congr h6 h7]
end HourP
/-- what an hour makes of a strength x of the cell c -/
def fH (wd : Nat → Int32) (cl cv : Int32) (hd : Nat → Int32) (c : Nat) (x : Int32) : Int32 := if x ≤ 0 then x else clampS (x.toInt64 + -(f_comes wd hd cl cv (4 + c / 576) x (wd (10 + thOf c))))
theorem lk_inj {s a b s' a' b' : Nat} (hs : s < 4) (ha : a < 24) (hb : b < if s = 3 then 12 else 24) (hs' : s' < 4) (ha' : a' < 24) (hb' : b' < if s' = 3 then 12 else 24) (h : f_link s a b = f_link s' a' b') : s = s' ∧ a = a' ∧ b = b' := by
  have e : s = s' := by rw [← sortOf_link hs ha hb, ← sortOf_link hs' ha' hb', h]
  subst e
  refine ⟨rfl, ?_⟩
  unfold f_link at h
  by_cases z : s = 3
  · rw [if_pos z] at hb hb'
    rw [if_pos z, if_pos z] at h
    omega
  · rw [if_neg z] at hb hb'
    rw [if_neg z, if_neg z] at h
    omega
section HourQ
variable {wd : Nat → Int32} {cl cv : Int32}
theorem hcell_at {s a b : Nat} (hd h0 : Nat → Int32) (hs : s < 4) (ha : a < 24) (hb : b < if s = 3 then 12 else 24) (h6 : hd 2016 = h0 2016) (h7 : hd 2017 = h0 2017) : f_hcell wd cl cv s a b hd (f_link s a b) = fH wd cl cv h0 (f_link s a b) (hd (f_link s a b)) := by
  unfold f_hcell fH
  split
  · rfl
  · rw [f_chg, pk_us, sortOf_link hs ha hb, thOf_link hs ha hb, fc_congr h6 h7]
theorem hcell_un {s a b c : Nat} (hd : Nat → Int32) (h : ¬ c = f_link s a b) : f_hcell wd cl cv s a b hd c = hd c := by
  unfold f_hcell
  split
  · rfl
  · rw [f_chg, pk_un h]
theorem hb_all {s a : Nat} (hd : Nat → Int32) (hs : s < 4) (ha : a < 24) : ∀ n, n ≤ (if s = 3 then 12 else 24) → (∀ c, (∀ b, b < n → ¬ c = f_link s a b) → f_hb wd cl cv s a n hd c = hd c) ∧ ∀ b, b < n → f_hb wd cl cv s a n hd (f_link s a b) = fH wd cl cv hd (f_link s a b) (hd (f_link s a b))
  | 0, _ => ⟨fun _ _ => rfl, fun b hb => absurd hb (Nat.not_lt_zero _)⟩
  | n + 1, h => by
    obtain ⟨i1, i2⟩ := hb_all hd hs ha n (by omega)
    have h6 : f_hb wd cl cv s a n hd 2016 = hd 2016 := i1 2016 (fun b hb e => by have := lk_lt hs ha (show b < if s = 3 then 12 else 24 by omega); omega)
    have h7 : f_hb wd cl cv s a n hd 2017 = hd 2017 := i1 2017 (fun b hb e => by have := lk_lt hs ha (show b < if s = 3 then 12 else 24 by omega); omega)
    refine ⟨fun c hc => ?_, fun b hb => ?_⟩
    · rw [f_hb, hcell_un _ (hc n (by omega))]; exact i1 c (fun b hb => hc b (by omega))
    · rw [f_hb]
      by_cases e : b = n
      · subst e
        rw [hcell_at _ hd hs ha (by omega) h6 h7, i1 _ (fun b' hb' z => by have := (lk_inj hs ha (by omega) hs ha (by omega) z).2.2; omega)]
      · rw [hcell_un _ (fun z => e (lk_inj hs ha (by omega) hs ha (by omega) z).2.2)]; exact i2 b (by omega)
theorem ha_all {s : Nat} (hd : Nat → Int32) (hs : s < 4) (hn : nth wd ≤ 24) : ∀ n, n ≤ 24 → (∀ c, (∀ a, a < n → ∀ b, b < (if s = 3 then 12 else nth wd) → ¬ c = f_link s a b) → f_ha wd cl cv s n hd c = hd c) ∧ ∀ a, a < n → ∀ b, b < (if s = 3 then 12 else nth wd) → f_ha wd cl cv s n hd (f_link s a b) = fH wd cl cv hd (f_link s a b) (hd (f_link s a b))
  | 0, _ => ⟨fun _ _ => rfl, fun b hb => absurd hb (Nat.not_lt_zero _)⟩
  | n + 1, h => by
    have hB : ∀ b, b < (if s = 3 then 12 else nth wd) → b < if s = 3 then 12 else 24 := fun b hb => by split at hb <;> (rename_i e; first | (rw [if_pos e]; exact hb) | (rw [if_neg e]; omega))
    have hB2 : (if s = 3 then 12 else nth wd) ≤ if s = 3 then 12 else 24 := by split <;> omega
    obtain ⟨i1, i2⟩ := ha_all hd hs hn n (by omega)
    have h6 : f_ha wd cl cv s n hd 2016 = hd 2016 := i1 2016 (fun a ha b hb e => by have := lk_lt hs (show a < 24 by omega) (hB b hb); omega)
    have h7 : f_ha wd cl cv s n hd 2017 = hd 2017 := i1 2017 (fun a ha b hb e => by have := lk_lt hs (show a < 24 by omega) (hB b hb); omega)
    obtain ⟨j1, j2⟩ := hb_all (wd := wd) (cl := cl) (cv := cv) (f_ha wd cl cv s n hd) hs (show n < 24 by omega) _ hB2
    refine ⟨fun c hc => ?_, fun a ha b hb => ?_⟩
    · rw [f_ha, j1 c (fun b hb => hc n (by omega) b hb)]; exact i1 c (fun a ha => hc a (by omega))
    · rw [f_ha]
      by_cases e : a = n
      · subst e
        rw [j2 b hb, i1 _ (fun a' ha' b' hb' z => by have := (lk_inj hs (by omega) (hB b hb) hs (by omega) (hB b' hb') z).2.1; omega)]
        unfold fH
        rw [fc_congr h6 h7]
      · rw [j1 _ (fun b' hb' z => e (lk_inj hs (by omega) (hB b hb) hs (by omega) (hB b' hb') z).2.1)]; exact i2 a (by omega) b hb
theorem hs_all (hd : Nat → Int32) (hn : nth wd ≤ 24) : ∀ n, n ≤ 4 → (∀ c, (∀ s, s < n → ∀ a, a < nth wd → ∀ b, b < (if s = 3 then 12 else nth wd) → ¬ c = f_link s a b) → f_hs wd cl cv n hd c = hd c) ∧ ∀ s, s < n → ∀ a, a < nth wd → ∀ b, b < (if s = 3 then 12 else nth wd) → f_hs wd cl cv n hd (f_link s a b) = fH wd cl cv hd (f_link s a b) (hd (f_link s a b))
  | 0, _ => ⟨fun _ _ => rfl, fun b hb => absurd hb (Nat.not_lt_zero _)⟩
  | n + 1, h => by
    have hB : ∀ s b, b < (if s = 3 then 12 else nth wd) → b < if s = 3 then 12 else 24 := fun s b hb => by split at hb <;> (rename_i e; first | (rw [if_pos e]; exact hb) | (rw [if_neg e]; omega))
    obtain ⟨i1, i2⟩ := hs_all hd hn n (by omega)
    have h6 : f_hs wd cl cv n hd 2016 = hd 2016 := i1 2016 (fun s hs a ha b hb e => by have := lk_lt (show s < 4 by omega) (show a < 24 by omega) (hB s b hb); omega)
    have h7 : f_hs wd cl cv n hd 2017 = hd 2017 := i1 2017 (fun s hs a ha b hb e => by have := lk_lt (show s < 4 by omega) (show a < 24 by omega) (hB s b hb); omega)
    obtain ⟨j1, j2⟩ := ha_all (wd := wd) (cl := cl) (cv := cv) (f_hs wd cl cv n hd) (show n < 4 by omega) hn (nth wd) hn
    refine ⟨fun c hc => ?_, fun s hs a ha b hb => ?_⟩
    · rw [f_hs, j1 c (fun a ha b hb => hc n (by omega) a ha b hb)]; exact i1 c (fun s hs => hc s (by omega))
    · rw [f_hs]
      by_cases e : s = n
      · subst e
        rw [j2 a ha b hb, i1 _ (fun s' hs' a' ha' b' hb' z => by have := (lk_inj (by omega) (by omega) (hB s b hb) (by omega) (by omega) (hB s' b' hb') z).1; omega)]
        unfold fH
        rw [fc_congr h6 h7]
      · rw [j1 _ (fun a' ha' b' hb' z => e (lk_inj (by omega) (by omega) (hB s b hb) (by omega) (by omega) (hB n b' hb') z).1)]; exact i2 s (by omega) a ha b hb
/-- where the LINKS of ROWS lie -/
def inD (wd : Nat → Int32) (c : Nat) : Prop := ∃ s a b, s < 4 ∧ a < nth wd ∧ (b < if s = 3 then 12 else nth wd) ∧ c = f_link s a b
theorem rci_dom {r i : Nat} (hW : WF wd) (hr : r < nrw wd) (hi : i < len wd r) {c : Nat} (hc : c ∈ rci wd r i) : inD wd c := by
  obtain ⟨hl2, hl12, hr12, hn24⟩ := WF_len hW hr
  have t := fun j (hj : j < len wd r) => WF_th hW hr hj
  unfold rci at hc
  split at hc
  · rename_i e
    rw [List.mem_singleton.mp hc]
    exact ⟨3, _, _, by omega, t 0 (by omega), by rw [if_pos rfl]; omega, rfl⟩
  · split at hc
    · rename_i e
      rcases List.mem_cons.mp hc with z | hc
      · exact ⟨3, _, _, by omega, t 1 (by omega), by rw [if_pos rfl]; omega, z⟩
      · rcases List.mem_cons.mp hc with z | hc
        · exact ⟨0, _, _, by omega, t 0 (by omega), by rw [if_neg (by omega)]; exact t 1 (by omega), z⟩
        · exact ⟨1, _, _, by omega, t 1 (by omega), by rw [if_neg (by omega)]; exact t 0 (by omega), List.mem_singleton.mp hc⟩
    · rcases List.mem_cons.mp hc with z | hc
      · exact ⟨3, _, _, by omega, t i (by omega), by rw [if_pos rfl]; omega, z⟩
      · rcases List.mem_cons.mp hc with z | hc
        · exact ⟨0, _, _, by omega, t (i - 1) (by omega), by rw [if_neg (by omega)]; exact t i (by omega), z⟩
        · rcases List.mem_cons.mp hc with z | hc
          · exact ⟨1, _, _, by omega, t i (by omega), by rw [if_neg (by omega)]; exact t (i - 1) (by omega), z⟩
          · exact ⟨2, _, _, by omega, t (i - 2) (by omega), by rw [if_neg (by omega)]; exact t i (by omega), List.mem_singleton.mp hc⟩
theorem rcr_dom {r : Nat} (hW : WF wd) (hr : r < nrw wd) {c : Nat} : ∀ n, n ≤ len wd r → c ∈ rcr wd r n → inD wd c
  | 0, _, h => absurd h List.not_mem_nil
  | n + 1, hn, h => by
    rw [rcr] at h
    rcases List.mem_append.mp h with z | z
    · exact rcr_dom hW hr n (by omega) z
    · exact rci_dom hW hr (by omega) z
theorem rca_dom (hW : WF wd) {c : Nat} : ∀ n, n ≤ nrw wd → c ∈ rca wd n → inD wd c
  | 0, _, h => absurd h List.not_mem_nil
  | n + 1, hn, h => by
    rw [rca] at h
    rcases List.mem_append.mp h with z | z
    · exact rca_dom hW n (by omega) z
    · exact rcr_dom hW (by omega) _ (Nat.le_refl _) z
theorem rcl_dom (hW : WF wd) {c : Nat} (h : c ∈ rcl wd) : inD wd c := rca_dom hW _ (Nat.le_refl _) h
theorem inD_th (hW : WF wd) {c : Nat} (h : inD wd c) : thOf c < nth wd ∧ c / 576 < 4 := by
  obtain ⟨s, a, b, hs, ha, hb, rfl⟩ := h
  have hn := hW.2.1.2
  have hb' : b < if s = 3 then 12 else 24 := by split at hb <;> (rename_i e; first | (rw [if_pos e]; exact hb) | (rw [if_neg e]; omega))
  rw [thOf_link hs (by omega) hb', sortOf_link hs (by omega) hb']
  refine ⟨?_, hs⟩
  split
  · exact ha
  · rename_i e; rw [if_neg e] at hb; exact hb
theorem hs_val {S : MS} {L : List Nat} {g : Nat → Nat} {hd : Nat → Int32} {hr td : Nat} (hW : WF wd) (hH : HG wd S L g hd hr td) {c : Nat} (hc : c < 2016) : f_hs wd cl cv 4 hd c = fH wd cl cv hd c (hd c) := by
  obtain ⟨k1, k2⟩ := hs_all (wd := wd) (cl := cl) (cv := cv) hd hW.2.1.2 4 (by omega)
  by_cases e : inD wd c
  · obtain ⟨s, a, b, hs, ha, hb, rfl⟩ := e
    exact k2 s hs a ha b hb
  · have hg : hd c = nI 0 := by
      rw [hH.2.1 c hc, hH.1.2.2.2.2.2.2.2 c (fun z => e (rcl_dom hW (hH.2.2.2.2 c z)))]
    rw [k1 c (fun s hs a ha b hb z => e ⟨s, a, b, hs, ha, hb, z⟩), fH, hg, if_pos (by decide)]
theorem hs_67 {hd : Nat → Int32} (hW : WF wd) {c : Nat} (hc : 2016 ≤ c) : f_hs wd cl cv 4 hd c = hd c := by
  obtain ⟨k1, k2⟩ := hs_all (wd := wd) (cl := cl) (cv := cv) hd hW.2.1.2 4 (by omega)
  refine k1 c (fun s hs a ha b hb z => ?_)
  have hn := hW.2.1.2
  have hb' : b < if s = 3 then 12 else 24 := by split at hb <;> (rename_i e; first | (rw [if_pos e]; exact hb) | (rw [if_neg e]; omega))
  have := lk_lt hs (show a < 24 by omega) hb'
  omega
/-- an hour, as far as the first i of the listed -/
def hI (wd : Nat → Int32) (cl cv : Int32) (hd : Nat → Int32) (L : List Nat) : Nat → Int32 := fun c => if c ∈ L then fH wd cl cv hd c (hd c) else hd c
end HourQ
section SM4
variable {l : Launch} {G : GG} {zm zh zt zr : Nat → Nat} {Sm Sh St Sr : MS} {wd hd : Nat → Int32} {hr td : Nat} {mu cl cv : Int32}
theorem hI_67 {L : List Nat} {S : MS} {g : Nat → Nat} (hH : HH S L g) {c : Nat} (hc : 2016 ≤ c) (i : Nat) : hI wd cl cv hd (L.take i) c = hd c := if_neg (fun z => by have := hH.2.2.2.2.1 c (List.mem_of_mem_take z); omega)
theorem hI_same {L : List Nat} {i : Nat} (hi : i < L.length) (h : hd (L.getD i 0) ≤ 0) : hI wd cl cv hd (L.take i) = hI wd cl cv hd (L.take (i + 1)) := by
  funext c
  unfold hI
  rw [tk_s L i hi]
  by_cases z : c ∈ L.take i
  · rw [if_pos z, if_pos (List.mem_append.mpr (Or.inl z))]
  · rw [if_neg z]
    by_cases e : c = L.getD i 0
    · subst e; rw [if_pos (List.mem_append.mpr (Or.inr List.mem_cons_self)), fH, if_pos h]
    · rw [if_neg (fun q => (List.mem_append.mp q).elim z (fun q => e (List.mem_singleton.mp q)))]
theorem tk_nin {L : List Nat} (hn : L.Nodup) {i : Nat} (hi : i < L.length) : L.getD i 0 ∉ L.take i := by
  intro z
  rw [← List.take_append_drop (i + 1) L, tk_s L i hi, List.append_assoc, List.nodup_append] at hn
  exact hn.2.2 _ z _ (List.mem_append.mpr (Or.inl List.mem_cons_self)) rfl
theorem hI_step {L : List Nat} (hn : L.Nodup) {i : Nat} (hi : i < L.length) (h : ¬ hd (L.getD i 0) ≤ 0) {S : MS} {g : Nat → Nat} (hH : HH S L g) : f_chg (hI wd cl cv hd (L.take i)) (L.getD i 0) (-(f_comes wd (hI wd cl cv hd (L.take i)) cl cv (4 + L.getD i 0 / 576) (hI wd cl cv hd (L.take i) (L.getD i 0)) (wd (10 + thOf (L.getD i 0))))) = hI wd cl cv hd (L.take (i + 1)) := by
  have e0 : hI wd cl cv hd (L.take i) (L.getD i 0) = hd (L.getD i 0) := if_neg (tk_nin hn hi)
  funext c
  rw [f_chg, e0, fc_congr (hI_67 hH (by omega) i) (hI_67 hH (by omega) i)]
  by_cases e : c = L.getD i 0
  · subst e
    rw [pk_us]
    unfold hI
    rw [tk_s L i hi, if_pos (List.mem_append.mpr (Or.inr List.mem_cons_self)), fH, if_neg h]
  · rw [pk_un e]
    unfold hI
    rw [tk_s L i hi]
    by_cases z : c ∈ L.take i
    · rw [if_pos z, if_pos (List.mem_append.mpr (Or.inl z))]
    · rw [if_neg z, if_neg (fun q => (List.mem_append.mp q).elim z (fun q => e (List.mem_singleton.mp q)))]
theorem HR_hour {L : List Nat} {g g1 : Nat → Nat} {S0 s1 s3 : MS} (hW : WF wd) (hH : HG wd S0 L g hd hr td) (hS : HG wd s1 L g1 (hI wd cl cv hd L) hr td) (h3 : HH s3 (pos g1 L) g1) : HR wd (sS (sS s3 0 (nI (hr + 1))) 1 (nI 0)) (f_hour wd cl cv hd) (hr + 1) 0 := by
  refine ⟨_, _, h3, fun c hc => ?_, ⟨?_, rfl⟩, ⟨?_, rfl⟩, fun c hc => hS.2.2.2.2 c (pos_mem.mp hc).1⟩
  · rw [f_hour, pk_un (by omega), pk_un (by omega), hs_val hW hH hc, ← hS.2.1 c hc]
    unfold hI
    split
    · rfl
    · rename_i e
      rw [fH, hH.2.1 c hc, hH.1.2.2.2.2.2.2.2 c e, if_pos (by decide)]
  · rw [f_hour, pk_un (by omega), pk_us, hs_67 hW (by omega), hH.2.2.1.1, nI_add]
  · rw [f_hour, pk_us]
theorem K3_passHour (hT : TT mu St wd) (hW : WF wd) (hH0 : HR wd Sh hd hr td) (h4 : Sm.1 4 = cl) (h5 : Sm.1 5 = cv) (hhr : hr ≤ 1000000000) (htd : td ≤ 1000000000) : Con l G yX3_passHour cX3_passHour 3 none 5 0 0 [.ref (zm 50)] (mBk zm (zt 50) (zr 50) (zh 50) G.2.1 Sm ++ (hBk zh G.2.1 Sh ++ (tBk zt G.2.1 St ++ (rBk zr G.2.1 Sr)))) (qV (fun s : MS => (mBk zm (zt 50) (zr 50) (zh 50) G.2.1 Sm ++ (hBk zh G.2.1 s ++ (tBk zt G.2.1 St ++ (rBk zr G.2.1 Sr))))) (fun S' => HR wd S' (f_hour wd cl cv hd) (hr + 1) 0)) := by
  refine Con.mk (own := RX3) (by decide) rfl (Nat.le_of_ble_eq_true rfl) (fun X C => ?_)
  obtain ⟨L, g, hH⟩ := hH0
  have hL5 := hH.1.2.1
  have lp2 : ∀ (m : Nat) (i : Nat) (s1 : MS), L.length - i = m → i ≤ L.length → (∃ g1, HG wd s1 L g1 (hI wd cl cv hd (L.take i)) hr td) → J X 3 0 0 (mBk zm (zt 50) (zr 50) (zh 50) G.2.1 Sm ++ (hBk zh G.2.1 s1 ++ (tBk zt G.2.1 St ++ (rBk zr G.2.1 Sr)))) 2 [(0, .ref (zm 50)), (1, .int (nI i))] [] := by
    intro m
    induction m using Nat.strongRecOn with
    | ind m ilp2 =>
    intro i s1 hm hi0 hS0
    obtain ⟨g1, hS⟩ := hS0
    refine j_iload_n 3 C dX3_passHour_2 rfl rfl ?_
    refine j_aload_n 4 C dX3_passHour_3 rfl rfl ?_
    refine Lmg_m2 7 C dX3_passHour_4 rfl fl3_12 ?_
    refine Lmx_hI 10 C dX3_passHour_7 rfl cw3_122 rfl (K2_listedCount hS.1) rfl (by decide) ⟨Nat.le_refl _, Nat.le_refl _⟩ rfl (Nat.le_of_ble_eq_true rfl) ?_
    refine j_icmp_geN 53 13 C dX3_passHour_10 (by decide) rfl (by omega) (by omega) (fun c10 => ?_) (fun c10 => ?_)
    · refine j_aload_n 54 C dX3_passHour_53 rfl rfl ?_
      refine Lmg_m2 57 C dX3_passHour_54 rfl fl3_12 ?_
      refine Lmr_hV 60 C dX3_passHour_57 rfl cw3_132 rfl (K2_dropEmpty hS.1) rfl (by decide) ⟨Nat.le_refl _, Nat.le_refl _⟩ rfl (Nat.le_of_ble_eq_true rfl) (fun s3 hs3 => ?_)
      refine j_aload_n 61 C dX3_passHour_60 rfl rfl ?_
      refine Lmg_m2 64 C dX3_passHour_61 rfl fl3_12 ?_
      refine j_dup 65 C dX3_passHour_64 rfl rfl ?_
      refine Lmg_h0 68 C dX3_passHour_65 rfl fl3_66 ?_
      refine j_top (hs3.2.1.trans hS.2.2.1.2) ?_
      refine j_iconst 69 C dX3_passHour_68 rfl (v := nI 1) (by decide) ?_
      refine j_iaddN 70 C dX3_passHour_69 rfl ?_
      refine Lmp_h0 73 C dX3_passHour_70 rfl fl3_66 ?_
      refine j_aload_n 74 C dX3_passHour_73 rfl rfl ?_
      refine Lmg_m2 77 C dX3_passHour_74 rfl fl3_12 ?_
      refine j_iconst 78 C dX3_passHour_77 rfl (v := nI 0) (by decide) ?_
      refine Lmp_h1 81 C dX3_passHour_78 rfl fl3_63 ?_
      exact j_vret C dX3_passHour_81 (by refine ⟨_, ?_, rfl, rfl⟩; exact HR_hour hW hH (by rw [show i = L.length by omega, List.take_length] at hS; exact hS) hs3.1)
    · have hi : i < L.length := by omega
      have hin := gD_mem L i hi
      have hc := hH.1.2.2.2.2.1 _ hin
      have hD := inD_th hW (rcl_dom hW (hH.2.2.2.2 _ hin))
      have hg := hS.1.2.2.2.2.2.2.1 (L.getD i 0)
      have e0 : hI wd cl cv hd (L.take i) (L.getD i 0) = hd (L.getD i 0) := if_neg (tk_nin hH.1.2.2.2.1 hi)
      refine j_aload_n 14 C dX3_passHour_13 rfl rfl ?_
      refine Lmg_m2 17 C dX3_passHour_14 rfl fl3_12 ?_
      refine j_iload_n 18 C dX3_passHour_17 rfl rfl ?_
      refine Lmx_hI 21 C dX3_passHour_18 rfl cw3_126 rfl (K2_listedCell hS.1 (by omega)) rfl (by decide) ⟨Nat.le_refl _, Nat.le_refl _⟩ rfl (Nat.le_of_ble_eq_true rfl) ?_
      refine j_istore_n 22 C dX3_passHour_21 rfl rfl (by decide) ?_
      refine j_aload_n 23 C dX3_passHour_22 rfl rfl ?_
      refine Lmg_m2 26 C dX3_passHour_23 rfl fl3_12 ?_
      refine j_iload_n 27 C dX3_passHour_26 rfl rfl ?_
      refine Lmx_hI 30 C dX3_passHour_27 rfl cw3_53 rfl (K2_strengthAt hS.1 hc) rfl (by decide) ⟨Nat.le_refl _, Nat.le_refl _⟩ rfl (Nat.le_of_ble_eq_true rfl) ?_
      refine j_if_leN 47 33 C dX3_passHour_30 (by decide) rfl (by omega) (fun c30 => ?_) (fun c30 => ?_)
      · refine j_iincN 50 (z := 1) C dX3_passHour_47 rfl rfl rfl (by decide) ?_
        refine j_goto 2 C dX3_passHour_50 (by decide) ?_
        exact j_weak _ (by exact ⟨rfl, rfl, trivial⟩) (ilp2 _ (by omega) (i + 1) s1 rfl (by omega) (by rw [← hI_same hi (by rw [← e0, hS.2.1 _ hc, c30]; decide)]; exact ⟨g1, hS⟩))
      · refine j_aload_n 34 C dX3_passHour_33 rfl rfl ?_
        refine j_iload_n 35 C dX3_passHour_34 rfl rfl ?_
        refine j_iconst 36 C dX3_passHour_35 rfl (v := nI 1) (by decide) ?_
        refine j_iload_n 37 C dX3_passHour_36 rfl rfl ?_
        refine j_sI 40 C dX3_passHour_37 rfl cw3_129 (K2_sortOf hc) rfl (by decide) ⟨Nat.le_refl _, Nat.le_refl _⟩ rfl (Nat.le_of_ble_eq_true rfl) ?_
        refine j_sIN 43 C dX3_passHour_40 rfl cw3_45 cs3_45 K10_lawOf rfl (by decide) ⟨Nat.le_refl _, Nat.le_refl _⟩ rfl (Nat.le_of_ble_eq_true rfl) ?_
        refine j_top (x' := nI (4 + L.getD i 0 / 576)) (by rw [Nat.one_mul]) ?_
        refine j_iconst 44 C dX3_passHour_43 rfl (v := (-1)) (by decide) ?_
        refine Lmr_AV 47 C dX3_passHour_44 rfl cw3_49 rfl (K3_change hT hW hS h4 h5 hhr htd hc hD.1 (by omega) (Or.inl hin)) rfl (by decide) ⟨Nat.le_refl _, Nat.le_refl _⟩ rfl (Nat.le_of_ble_eq_true rfl) (fun s2 hs2 => ?_)
        refine j_iincN 50 (z := 1) C dX3_passHour_47 rfl rfl rfl (by decide) ?_
        refine j_goto 2 C dX3_passHour_50 (by decide) ?_
        exact j_weak _ (by exact ⟨rfl, rfl, trivial⟩) (ilp2 _ (by omega) (i + 1) s2 rfl (by omega) (by obtain ⟨y, -, hy⟩ := chg_HG hS hc (Or.inl hin) (neg64 _) hs2; rw [hI_step hH.1.2.2.2.1 hi (by rw [← e0, hS.2.1 _ hc]; exact nI_nle (by omega) (by omega)) hH.1, putL, if_pos (Or.inl hin)] at hy; exact ⟨_, hy⟩))
  refine j_iconst 1 C dX3_passHour_0 rfl (v := nI 0) (by decide) ?_
  refine j_istore_n 2 C dX3_passHour_1 rfl rfl (by decide) ?_
  exact j_weak _ (by exact ⟨rfl, rfl, trivial⟩) (lp2 _ 0 _ rfl (Nat.zero_le _) (by rw [show hI wd cl cv hd (L.take 0) = hd from funext fun c => if_neg (by simp)]; exact ⟨g, hH⟩))
theorem K3_passHours {n : Nat} (hT : TT mu St wd) (hW : WF wd) (hH0 : HR wd Sh hd hr td) (h4 : Sm.1 4 = cl) (h5 : Sm.1 5 = cv) (hhr : hr + n ≤ 1000000000) (htd : td ≤ 1000000000) : Con l G yX3_passHours cX3_passHours 3 none 6 0 0 [.ref (zm 50), .int (nI n)] (mBk zm (zt 50) (zr 50) (zh 50) G.2.1 Sm ++ (hBk zh G.2.1 Sh ++ (tBk zt G.2.1 St ++ (rBk zr G.2.1 Sr)))) (qV (fun s : MS => (mBk zm (zt 50) (zr 50) (zh 50) G.2.1 Sm ++ (hBk zh G.2.1 s ++ (tBk zt G.2.1 St ++ (rBk zr G.2.1 Sr))))) (fun S' => ∃ t1, t1 ≤ td ∧ (0 < n → t1 = 0) ∧ HR wd S' (f_hours wd cl cv n hd) (hr + n) t1)) := by
  refine Con.mk (own := RX3) (by decide) rfl (Nat.le_of_ble_eq_true rfl) (fun X C => ?_)
  have lp2 : ∀ (m : Nat) (i : Nat) (s1 : MS) (t1 : Nat), n - i = m → i ≤ n → t1 ≤ td → (0 < i → t1 = 0) → HR wd s1 (f_hours wd cl cv i hd) (hr + i) t1 → J X 3 0 0 (mBk zm (zt 50) (zr 50) (zh 50) G.2.1 Sm ++ (hBk zh G.2.1 s1 ++ (tBk zt G.2.1 St ++ (rBk zr G.2.1 Sr)))) 2 [(0, .ref (zm 50)), (1, .int (nI n)), (2, .int (nI i))] [] := by
    intro m
    induction m using Nat.strongRecOn with
    | ind m ilp2 =>
    intro i s1 t1 hm hi ht1 ht0 hS
    refine j_iload_n 3 C dX3_passHours_2 rfl rfl ?_
    refine j_iload_n 4 C dX3_passHours_3 rfl rfl ?_
    refine j_icmp_geN 17 7 C dX3_passHours_4 (by decide) rfl (by omega) (by omega) (fun c4 => ?_) (fun c4 => ?_)
    · exact j_vret C dX3_passHours_17 (by refine ⟨_, ?_, rfl, rfl⟩; rw [← show i = n by omega]; exact ⟨t1, ht1, by omega, hS⟩)
    · refine j_aload_n 8 C dX3_passHours_7 rfl rfl ?_
      refine Lmr_AV 11 C dX3_passHours_8 rfl cw3_119 rfl (K3_passHour hT hW hS h4 h5 (by omega) (by omega)) rfl (by decide) ⟨Nat.le_refl _, Nat.le_refl _⟩ rfl (Nat.le_of_ble_eq_true rfl) (fun s2 hs2 => ?_)
      refine j_iincN 14 (z := 1) C dX3_passHours_11 rfl rfl rfl (by decide) ?_
      refine j_goto 2 C dX3_passHours_14 (by decide) ?_
      exact j_weak _ (by exact ⟨rfl, rfl, rfl, trivial⟩) (ilp2 _ (by omega) (i + 1) s2 0 rfl (by omega) (by omega) (by omega) hs2)
  refine j_iconst 1 C dX3_passHours_0 rfl (v := nI 0) (by decide) ?_
  refine j_istore_n 2 C dX3_passHours_1 rfl rfl (by decide) ?_
  exact j_weak _ (by exact ⟨rfl, rfl, rfl, trivial⟩) (lp2 _ 0 _ td rfl (Nat.zero_le _) (Nat.le_refl _) (fun h => absurd h (Nat.lt_irrefl _)) hH0)
end SM4
