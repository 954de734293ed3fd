theorem nI_9 : ∀ lw, lw < 9 → ¬ nI lw = (-1 : Int32) := by decide
section Cv
variable {wd : Nat → Int32} (cv cv' : Int32)
theorem fc_cv {hd : Nat → Int32} {has easy : Int32} {lw : Nat} (h : lw < 9) : f_comes wd hd (-1) cv lw has easy = f_comes wd hd (-1) cv' lw has easy := by unfold f_comes; rw [if_neg (nI_9 lw h), if_neg (nI_9 lw h)]
theorem grow_cv {hd : Nat → Int32} {s a b e : Nat} (h : s < 4) : f_grow wd (-1) cv hd s a b e = f_grow wd (-1) cv' hd s a b e := by unfold f_grow; rw [fc_cv cv cv' (by omega)]
theorem mix_cv {a b : Nat} {hd : Nat → Int32} : ∀ c, f_mix wd (-1) cv a b c hd = f_mix wd (-1) cv' a b c hd
  | 0 => rfl
  | c + 1 => by rw [f_mix, f_mix, mix_cv c, fc_cv cv cv' (by omega)]
theorem rstep_cv {r i : Nat} {hd : Nat → Int32} : f_rstep wd (-1) cv r i hd = f_rstep wd (-1) cv' r i hd := by
  have g := fun hd s a b e (h : s < 4) => grow_cv (wd := wd) cv cv' (hd := hd) (s := s) (a := a) (b := b) (e := e) h
  unfold f_rstep
  rw [mix_cv cv cv', g hd 3 _ _ _ (by omega), g _ 0 _ _ _ (by omega), g _ 1 _ _ _ (by omega), g _ 2 _ _ _ (by omega)]
theorem rd_cv {r : Nat} {hd : Nat → Int32} : ∀ i, f_rd wd (-1) cv r i hd = f_rd wd (-1) cv' r i hd
  | 0 => rfl
  | i + 1 => by rw [f_rd, f_rd, rd_cv i, rstep_cv cv cv']
theorem reads_cv {r : Nat} {hd : Nat → Int32} : f_reads wd (-1) cv r hd = f_reads wd (-1) cv' r hd := by unfold f_reads; rw [rd_cv cv cv']
theorem readsN_cv {r : Nat} {hd : Nat → Int32} : ∀ n, f_readsN wd (-1) cv r n hd = f_readsN wd (-1) cv' r n hd
  | 0 => rfl
  | n + 1 => by rw [f_readsN, f_readsN, readsN_cv n, reads_cv cv cv']
theorem lrn_cv {r : Nat} : ∀ (m n w : Nat) (hd : Nat → Int32), f_lrn wd (-1) cv r m n w hd = f_lrn wd (-1) cv' r m n w hd
  | 0, _, _, _ => rfl
  | m + 1, n, w, hd => by rw [f_lrn, f_lrn, reads_cv cv cv', lrn_cv m]
theorem need_cv {r : Nat} {hd : Nat → Int32} : f_need wd (-1) cv r hd = f_need wd (-1) cv' r hd := by unfold f_need; rw [lrn_cv cv cv']
theorem hcell_cv {s a b : Nat} {hd : Nat → Int32} (h : s < 4) : f_hcell wd (-1) cv s a b hd = f_hcell wd (-1) cv' s a b hd := by unfold f_hcell; rw [fc_cv cv cv' (by omega)]
theorem hb_cv {s a : Nat} {hd : Nat → Int32} (h : s < 4) : ∀ b, f_hb wd (-1) cv s a b hd = f_hb wd (-1) cv' s a b hd
  | 0 => rfl
  | b + 1 => by rw [f_hb, f_hb, hb_cv h b, hcell_cv cv cv' h]
theorem ha_cv {s : Nat} {hd : Nat → Int32} (h : s < 4) : ∀ a, f_ha wd (-1) cv s a hd = f_ha wd (-1) cv' s a hd
  | 0 => rfl
  | a + 1 => by rw [f_ha, f_ha, ha_cv h a, hb_cv cv cv' h]
theorem hs_cv {hd : Nat → Int32} : ∀ s, s ≤ 4 → f_hs wd (-1) cv s hd = f_hs wd (-1) cv' s hd
  | 0, _ => rfl
  | s + 1, h => by rw [f_hs, f_hs, hs_cv s (by omega), ha_cv cv cv' (by omega)]
theorem hour_cv {hd : Nat → Int32} : f_hour wd (-1) cv hd = f_hour wd (-1) cv' hd := by unfold f_hour; rw [hs_cv cv cv' 4 (by omega)]
theorem hours_cv {hd : Nat → Int32} : ∀ n, f_hours wd (-1) cv n hd = f_hours wd (-1) cv' n hd
  | 0 => rfl
  | n + 1 => by rw [f_hours, f_hours, hours_cv n, hour_cv cv cv']
end Cv
theorem HX0 : HX MS0 := ⟨[], fun _ => 0, rfl, by show 0 ≤ 528; omega, fun i hi => absurd hi (Nat.not_lt_zero _), List.nodup_nil, fun c hc => absurd hc List.not_mem_nil, fun c hc => by rw [if_neg List.not_mem_nil]; rfl, fun _ => Nat.zero_le _, fun _ _ => rfl⟩
