section SS3a
variable {X : JX} {l : Launch} {G : GG} {cc : ByteArray} {nL : Nat} {rt : Option FieldType} {d mc ms : Nat} {post : Option Value → va_W → Prop} {k n pc : Nat} {lv : List (Nat × Value)} {st : List Value} {zn zs zm zh zt zr zb zd zx zy zw zv : Nat → Nat} {Sn Ss Sm Sh St Sr Sb Sd Sx Sy Sw Sv : MS} {r0 r1 t0 t1 : Nat} {fi fs : Nat → Option Nat} {pa : Option Nat} {qd : Nat → Option Nat} {R : va_W}
theorem Ldesk1 (q : Nat) (C : Cx X l G cc nL RX10 rt d mc ms post) (hmc : 10 ≤ mc ∧ 5119 ≤ ms) (hd : decode cc pc = .ok (.invokevirtual 162, 3)) (hq : pc + 3 = q) (hdd : 5 ≤ d) (hrm : (st.map fun v => v.category).sum ≤ 8) (kk : ∀ zd zx zy zw zv : Nat → Nat, J X nL 10 5119 (nBk zn (zs 50) G.2.1 Sn fi fs pa (some (zd 50)) ++ (sBk zs (zm 50) (zb 50) G.2.1 Ss ++ (mBk zm (zt 50) (zr 50) (zh 50) G.2.1 Sm ++ (hBk zh G.2.1 Sh ++ (tBk zt G.2.1 St ++ (rBk zr G.2.1 Sr ++ (bBk zb G.2.1 Sb ++ (dBk zd (zx 50) (zw 50) G.2.1 MS0 (fun _ => none) ++ (mBk zx (zt 50) (zr 50) (zy 50) G.2.1 SM0 ++ (hBk zy G.2.1 MS0 ++ (mBk zw (zt 50) (zr 50) (zv 50) G.2.1 SM0 ++ (hBk zv G.2.1 MS0 ++ (R))))))))))))) q lv (.ref (zd 50) :: st)) : J X nL 0 0 (nBk zn (zs 50) G.2.1 Sn fi fs pa none ++ (sBk zs (zm 50) (zb 50) G.2.1 Ss ++ (mBk zm (zt 50) (zr 50) (zh 50) G.2.1 Sm ++ (hBk zh G.2.1 Sh ++ (tBk zt G.2.1 St ++ (rBk zr G.2.1 Sr ++ (bBk zb G.2.1 Sb ++ (R)))))))) pc lv (.ref (zn 50) :: st) := by
  refine j_callVs q C hd hq cw10_162 K10_desk0 (As := []) rfl ⟨by omega, by omega, by omega⟩ rfl hrm 0 rfl (ci := 10) (T := TX10) (N := 9) rfl (fun v w hp => ?_)
  obtain ⟨zd, zx, zy, zw, zv, rfl, rfl⟩ := hp
  exact kk zd zx zy zw zv
end SS3a
theorem hours_add {wd : Nat → Int32} {cl cv : Int32} {h : Nat → Int32} (a : Nat) : ∀ b, f_hours wd cl cv (a + b) h = f_hours wd cl cv b (f_hours wd cl cv a h)
  | 0 => rfl
  | b + 1 => by rw [show a + (b + 1) = (a + b) + 1 by omega, f_hours, f_hours, hours_add a b]
theorem one_1 {wd : Nat → Int32} {cl cv : Int32} {r n dd : Nat} {h : Nat → Int32} : ∀ d, f_one wd cl cv r n 1 dd h (d + 1) = f_hours wd cl cv ((d + 1) * 24) (f_readsN wd cl cv r n h)
  | 0 => by rw [f_one, if_pos (Or.inl ⟨rfl, rfl⟩), f_one]
  | d + 1 => by
    rw [f_one, if_neg (by omega), one_1 d, ← hours_add, show (d + 1) * 24 + 24 = (d + 1 + 1) * 24 by omega]
theorem one_a {wd : Nat → Int32} {cl cv : Int32} {r n w dd : Nat} {h : Nat → Int32} (hw : ¬ w = 1) : ∀ d, d ≤ dd - 1 → f_one wd cl cv r n w dd h d = f_hours wd cl cv (d * 24) h
  | 0, _ => rfl
  | d + 1, hd => by
    rw [f_one, if_neg (by omega), one_a hw d (by omega), ← hours_add, show d * 24 + 24 = (d + 1) * 24 by omega]
theorem one_2 {wd : Nat → Int32} {cl cv : Int32} {r n w dd : Nat} {h : Nat → Int32} (hw : ¬ w = 1) (hd : 1 ≤ dd) : f_one wd cl cv r n w dd h dd = f_hours wd cl cv ((dd - (dd - 1)) * 24) (f_readsN wd cl cv r n (f_hours wd cl cv ((dd - 1) * 24) h)) := by
  obtain ⟨k, rfl⟩ : ∃ k, dd = k + 1 := ⟨dd - 1, by omega⟩
  rw [f_one, if_pos (Or.inr ⟨hw, by omega⟩), one_a hw k (by omega), show k + 1 - 1 = k by omega, show k + 1 - k = 1 by omega]
theorem perm_sp {α : Type} (n s m h t r b d x y w v q R : List α) : (n ++ (s ++ (m ++ (h ++ (t ++ (r ++ (b ++ (d ++ (x ++ (y ++ (w ++ (v ++ (q ++ R))))))))))))).Perm ((d ++ (m ++ (h ++ (t ++ (r ++ q))))) ++ (n ++ (s ++ (b ++ (x ++ (y ++ (w ++ (v ++ R)))))))) := by
  have := List.Perm.flatten ((show ([0, 1, 2, 3, 4, 5, 6, 7, 8, 9, 10, 11, 12, 13] : List Nat).Perm [7, 2, 3, 4, 5, 12, 0, 1, 6, 8, 9, 10, 11, 13] by decide).map (fun i => ([n, s, m, h, t, r, b, d, x, y, w, v, q, R] : List (List α)).getD i []))
  simpa [List.append_assoc] using this
section SS3
variable {l : Launch} {G : GG} {wd hd : Nat → Int32} {hr td kk : Nat} {wq : va_W} {x y z u : Int32} {zn zs zm zh zt zr zb zd zx zy zw zv : Nat → Nat} {Sn Ss Sm Sh St Sr Sb Sd Sx Sy Sw Sv : MS} {r0 r1 t0 t1 : Nat} {fi fs : Nat → Option Nat} {pa : Option Nat} {qd : Nat → Option Nat} {R : va_W}
theorem DQ0 {G : GG} : DQ G (fun _ => none) 0 [] := ⟨by omega, rfl, fun _ _ _ => rfl⟩
set_option maxHeartbeats 2000000 in
theorem K10_spreadA (hT : TT (-1) St wd) (hR : RR Sr wd) (hW : WF wd) (hH0 : HR wd Sh hd hr td) (h3 : Sm.1 3 = -1) (h4 : Sm.1 4 = -1) (hhr : hr + 300 ≤ 1000000000) (htd : td + 100 ≤ 1000000000) (hy : HX Sy) (hv : HX Sv) (hDQ : DQ G qd kk wq)  : Con l G yX10_spread cX10_spread 4 (some .int) 13 16 10220 [.ref (zn 50), .int x, .int y, .int z] (nBk zn (zs 50) G.2.1 Sn fi fs pa (some (zd 50)) ++ (sBk zs (zm 50) (zb 50) G.2.1 Ss ++ (mBk zm (zt 50) (zr 50) (zh 50) G.2.1 Sm ++ (hBk zh G.2.1 Sh ++ (tBk zt G.2.1 St ++ (rBk zr G.2.1 Sr ++ (bBk zb G.2.1 Sb ++ (dBk zd (zx 50) (zw 50) G.2.1 Sd qd ++ (mBk zx t0 r0 (zy 50) G.2.1 Sx ++ (hBk zy G.2.1 Sy ++ (mBk zw t1 r1 (zv 50) G.2.1 Sw ++ (hBk zv G.2.1 Sv ++ (wq ++ R))))))))))))) (fun v w => v = some (.int (if (isI x (nrw wd) ∧ isP y 9 ∧ isP z 5) then (f_pl wd (-1) (nI 0) (tn x) (tn z - 1) (tn y) 0 hd (-1, -1)).1 else -1)) ∧ ∃ (t0 r0 t1 r1 : Nat) (Sx Sy Sw Sv : MS) (Sd : MS) (qd : Nat → Option Nat) (kk : Nat) (wq : va_W), HX Sy ∧ HX Sv ∧ DQ G qd kk wq ∧ w = (nBk zn (zs 50) G.2.1 Sn fi fs pa (some (zd 50)) ++ (sBk zs (zm 50) (zb 50) G.2.1 Ss ++ (mBk zm (zt 50) (zr 50) (zh 50) G.2.1 Sm ++ (hBk zh G.2.1 Sh ++ (tBk zt G.2.1 St ++ (rBk zr G.2.1 Sr ++ (bBk zb G.2.1 Sb ++ (dBk zd (zx 50) (zw 50) G.2.1 Sd qd ++ (mBk zx t0 r0 (zy 50) G.2.1 Sx ++ (hBk zy G.2.1 Sy ++ (mBk zw t1 r1 (zv 50) G.2.1 Sw ++ (hBk zv G.2.1 Sv ++ (wq ++ R)))))))))))))) := by
  refine Con.mk (own := RX10) (by decide) rfl (Nat.le_of_ble_eq_true rfl) (fun X C => ?_)
  refine j_aload_n 1 C dX10_spread_0 rfl rfl ?_
  refine j_iload_n 2 C dX10_spread_1 rfl rfl ?_
  refine j_iload_n 3 C dX10_spread_2 rfl rfl ?_
  refine j_iload_n 4 C dX10_spread_3 rfl rfl ?_
  refine j_callVs 7 C dX10_spread_4 rfl cw10_240 (K10_canSpread hR hW) rfl ⟨by decide, by decide, by decide⟩ rfl (Nat.le_of_ble_eq_true rfl) 0 rfl (ci := 10) (T := TX10) (N := 9) rfl (fun v w hp => ?_)
  obtain ⟨rfl, rfl⟩ := hp
  refine j_if_neB 12 10 C dX10_spread_7 (by decide) rfl (fun c7 => ?_) (fun c7 => ?_)
  · have hsp := c7
    obtain ⟨r, hrw, rfl⟩ := isI_of hsp.1
    obtain ⟨n, hn1, hn9, rfl⟩ := isP_of hsp.2.1 (by decide)
    obtain ⟨days, hd1, hd5, rfl⟩ := isP_of hsp.2.2 (by decide)
    have hr12 := (WF_len hW hrw).2.2.1
    refine j_aload_n 13 C dX10_spread_12 rfl rfl ?_
    refine Pdesk 16 C dX10_spread_13 rfl (by decide) ⟨by decide, by decide⟩ (Nat.le_of_ble_eq_true rfl) ?_
    refine j_aload_n 17 C dX10_spread_16 rfl rfl ?_
    refine Pg_n4 20 C dX10_spread_17 rfl fl10_20 ?_
    refine Pg_s0 23 C dX10_spread_20 rfl fl10_61 ?_
    refine j_iload_n 24 C dX10_spread_23 rfl rfl ?_
    refine j_iload_n 25 C dX10_spread_24 rfl rfl ?_
    refine j_iload_n 26 C dX10_spread_25 rfl rfl ?_
    refine j_perm ((dBk zd (zx 50) (zw 50) G.2.1 Sd qd ++ (mBk zm (zt 50) (zr 50) (zh 50) G.2.1 Sm ++ (hBk zh G.2.1 Sh ++ (tBk zt G.2.1 St ++ (rBk zr G.2.1 Sr ++ wq))))) ++ (nBk zn (zs 50) G.2.1 Sn fi fs pa (some (zd 50)) ++ (sBk zs (zm 50) (zb 50) G.2.1 Ss ++ (bBk zb G.2.1 Sb ++ (mBk zx t0 r0 (zy 50) G.2.1 Sx ++ (hBk zy G.2.1 Sy ++ (mBk zw t1 r1 (zv 50) G.2.1 Sw ++ (hBk zv G.2.1 Sv ++ R)))))))) (perm_sp _ _ _ _ _ _ _ _ _ _ _ _ wq _) ?_
    refine j_callM 29 C dX10_spread_26 rfl cw10_244 (K1_searchPlans hT hR hW hrw (by omega) (by omega) (by omega) (by omega) (by omega) hH0 hDQ) rfl ⟨by decide, by decide, by decide⟩ rfl (Nat.le_of_ble_eq_true rfl) [] (nBk zn (zs 50) G.2.1 Sn fi fs pa (some (zd 50)) ++ (sBk zs (zm 50) (zb 50) G.2.1 Ss ++ (bBk zb G.2.1 Sb ++ (mBk zx t0 r0 (zy 50) G.2.1 Sx ++ (hBk zy G.2.1 Sy ++ (mBk zw t1 r1 (zv 50) G.2.1 Sw ++ (hBk zv G.2.1 Sv ++ R))))))) rfl 0 rfl (ci := 1) (T := TX1) (N := 5) rfl (fun v w hp => ?_)
    obtain ⟨⟨Sd9, q9, w9, k9⟩, ⟨hE9, hD9⟩, rfl, rfl⟩ := hp
    refine j_perm (nBk zn (zs 50) G.2.1 Sn fi fs pa (some (zd 50)) ++ (sBk zs (zm 50) (zb 50) G.2.1 Ss ++ (mBk zm (zt 50) (zr 50) (zh 50) G.2.1 Sm ++ (hBk zh G.2.1 Sh ++ (tBk zt G.2.1 St ++ (rBk zr G.2.1 Sr ++ (bBk zb G.2.1 Sb ++ (dBk zd (zx 50) (zw 50) G.2.1 Sd9 q9 ++ (mBk zx t0 r0 (zy 50) G.2.1 Sx ++ (hBk zy G.2.1 Sy ++ (mBk zw t1 r1 (zv 50) G.2.1 Sw ++ (hBk zv G.2.1 Sv ++ (w9 ++ R))))))))))))) (perm_sp _ _ _ _ _ _ _ _ _ _ _ _ w9 _).symm ?_
    refine j_aload_n 30 C dX10_spread_29 rfl rfl ?_
    refine Pdesk 33 C dX10_spread_30 rfl (by decide) ⟨by decide, by decide⟩ (Nat.le_of_ble_eq_true rfl) ?_
    refine Pg_d0 36 C dX10_spread_33 rfl fl10_248 ?_
    refine j_top (x' := (f_pl wd (-1) (nI 0) r (days - 1) n 0 hd (-1, -1)).1) (congrArg Prod.fst hE9) ?_
    exact j_iret C dX10_spread_36 ⟨by rw [if_pos c7, tn_nI (by omega), tn_nI (by omega), tn_nI (by omega)], _, _, _, _, _, _, _, _, _, _, k9, w9, hy, hv, hD9, rfl⟩
  · refine j_iconst 11 C dX10_spread_10 rfl (v := (-1)) (by decide) ?_
    refine j_widen 16 10220 (by decide) (by decide) ?_
    exact j_iret C dX10_spread_11 ⟨by rw [if_neg c7], _, _, _, _, _, _, _, _, _, _, kk, wq, hy, hv, hDQ, rfl⟩
set_option maxHeartbeats 2000000 in
theorem K10_spreadB (hT : TT (-1) St wd) (hR : RR Sr wd) (hW : WF wd) (hH0 : HR wd Sh hd hr td) (h3 : Sm.1 3 = -1) (h4 : Sm.1 4 = -1) (hhr : hr + 300 ≤ 1000000000) (htd : td + 100 ≤ 1000000000)  : Con l G yX10_spread cX10_spread 4 (some .int) 13 26 15339 [.ref (zn 50), .int x, .int y, .int z] (nBk zn (zs 50) G.2.1 Sn fi fs pa none ++ (sBk zs (zm 50) (zb 50) G.2.1 Ss ++ (mBk zm (zt 50) (zr 50) (zh 50) G.2.1 Sm ++ (hBk zh G.2.1 Sh ++ (tBk zt G.2.1 St ++ (rBk zr G.2.1 Sr ++ (bBk zb G.2.1 Sb ++ (R)))))))) (fun v w => v = some (.int (if (isI x (nrw wd) ∧ isP y 9 ∧ isP z 5) then (f_pl wd (-1) (nI 0) (tn x) (tn z - 1) (tn y) 0 hd (-1, -1)).1 else -1)) ∧ (w = (nBk zn (zs 50) G.2.1 Sn fi fs pa none ++ (sBk zs (zm 50) (zb 50) G.2.1 Ss ++ (mBk zm (zt 50) (zr 50) (zh 50) G.2.1 Sm ++ (hBk zh G.2.1 Sh ++ (tBk zt G.2.1 St ++ (rBk zr G.2.1 Sr ++ (bBk zb G.2.1 Sb ++ (R)))))))) ∨ ∃ (zd zx zy zw zv : Nat → Nat) (t0 r0 t1 r1 : Nat) (Sx Sy Sw Sv : MS) (Sd : MS) (qd : Nat → Option Nat) (kk : Nat) (wq : va_W), HX Sy ∧ HX Sv ∧ DQ G qd kk wq ∧ w = (nBk zn (zs 50) G.2.1 Sn fi fs pa (some (zd 50)) ++ (sBk zs (zm 50) (zb 50) G.2.1 Ss ++ (mBk zm (zt 50) (zr 50) (zh 50) G.2.1 Sm ++ (hBk zh G.2.1 Sh ++ (tBk zt G.2.1 St ++ (rBk zr G.2.1 Sr ++ (bBk zb G.2.1 Sb ++ (dBk zd (zx 50) (zw 50) G.2.1 Sd qd ++ (mBk zx t0 r0 (zy 50) G.2.1 Sx ++ (hBk zy G.2.1 Sy ++ (mBk zw t1 r1 (zv 50) G.2.1 Sw ++ (hBk zv G.2.1 Sv ++ (wq ++ R))))))))))))))) := by
  refine Con.mk (own := RX10) (by decide) rfl (Nat.le_of_ble_eq_true rfl) (fun X C => ?_)
  refine j_aload_n 1 C dX10_spread_0 rfl rfl ?_
  refine j_iload_n 2 C dX10_spread_1 rfl rfl ?_
  refine j_iload_n 3 C dX10_spread_2 rfl rfl ?_
  refine j_iload_n 4 C dX10_spread_3 rfl rfl ?_
  refine j_callVs 7 C dX10_spread_4 rfl cw10_240 (K10_canSpread hR hW) rfl ⟨by decide, by decide, by decide⟩ rfl (Nat.le_of_ble_eq_true rfl) 0 rfl (ci := 10) (T := TX10) (N := 9) rfl (fun v w hp => ?_)
  obtain ⟨rfl, rfl⟩ := hp
  refine j_if_neB 12 10 C dX10_spread_7 (by decide) rfl (fun c7 => ?_) (fun c7 => ?_)
  · have hsp := c7
    obtain ⟨r, hrw, rfl⟩ := isI_of hsp.1
    obtain ⟨n, hn1, hn9, rfl⟩ := isP_of hsp.2.1 (by decide)
    obtain ⟨days, hd1, hd5, rfl⟩ := isP_of hsp.2.2 (by decide)
    have hr12 := (WF_len hW hrw).2.2.1
    refine j_aload_n 13 C dX10_spread_12 rfl rfl ?_
    refine Ldesk1 16 C ⟨by decide, by decide⟩ dX10_spread_13 rfl (by decide) (Nat.le_of_ble_eq_true rfl) (fun zd zx zy zw zv => ?_)
    have hy := HX0
    have hv := HX0
    refine j_aload_n 17 C dX10_spread_16 rfl rfl ?_
    refine Pg_n4 20 C dX10_spread_17 rfl fl10_20 ?_
    refine Pg_s0 23 C dX10_spread_20 rfl fl10_61 ?_
    refine j_iload_n 24 C dX10_spread_23 rfl rfl ?_
    refine j_iload_n 25 C dX10_spread_24 rfl rfl ?_
    refine j_iload_n 26 C dX10_spread_25 rfl rfl ?_
    refine j_perm ((dBk zd (zx 50) (zw 50) G.2.1 MS0 (fun _ => none) ++ (mBk zm (zt 50) (zr 50) (zh 50) G.2.1 Sm ++ (hBk zh G.2.1 Sh ++ (tBk zt G.2.1 St ++ (rBk zr G.2.1 Sr ++ []))))) ++ (nBk zn (zs 50) G.2.1 Sn fi fs pa (some (zd 50)) ++ (sBk zs (zm 50) (zb 50) G.2.1 Ss ++ (bBk zb G.2.1 Sb ++ (mBk zx (zt 50) (zr 50) (zy 50) G.2.1 SM0 ++ (hBk zy G.2.1 MS0 ++ (mBk zw (zt 50) (zr 50) (zv 50) G.2.1 SM0 ++ (hBk zv G.2.1 MS0 ++ R)))))))) (perm_sp _ _ _ _ _ _ _ _ _ _ _ _ [] _) ?_
    refine j_callM 29 C dX10_spread_26 rfl cw10_244 (K1_searchPlans hT hR hW hrw (by omega) (by omega) (by omega) (by omega) (by omega) hH0 DQ0) rfl ⟨by decide, by decide, by decide⟩ rfl (Nat.le_of_ble_eq_true rfl) [] (nBk zn (zs 50) G.2.1 Sn fi fs pa (some (zd 50)) ++ (sBk zs (zm 50) (zb 50) G.2.1 Ss ++ (bBk zb G.2.1 Sb ++ (mBk zx (zt 50) (zr 50) (zy 50) G.2.1 SM0 ++ (hBk zy G.2.1 MS0 ++ (mBk zw (zt 50) (zr 50) (zv 50) G.2.1 SM0 ++ (hBk zv G.2.1 MS0 ++ R))))))) rfl 0 rfl (ci := 1) (T := TX1) (N := 5) rfl (fun v w hp => ?_)
    obtain ⟨⟨Sd9, q9, w9, k9⟩, ⟨hE9, hD9⟩, rfl, rfl⟩ := hp
    refine j_perm (nBk zn (zs 50) G.2.1 Sn fi fs pa (some (zd 50)) ++ (sBk zs (zm 50) (zb 50) G.2.1 Ss ++ (mBk zm (zt 50) (zr 50) (zh 50) G.2.1 Sm ++ (hBk zh G.2.1 Sh ++ (tBk zt G.2.1 St ++ (rBk zr G.2.1 Sr ++ (bBk zb G.2.1 Sb ++ (dBk zd (zx 50) (zw 50) G.2.1 Sd9 q9 ++ (mBk zx (zt 50) (zr 50) (zy 50) G.2.1 SM0 ++ (hBk zy G.2.1 MS0 ++ (mBk zw (zt 50) (zr 50) (zv 50) G.2.1 SM0 ++ (hBk zv G.2.1 MS0 ++ (w9 ++ R))))))))))))) (perm_sp _ _ _ _ _ _ _ _ _ _ _ _ w9 _).symm ?_
    refine j_aload_n 30 C dX10_spread_29 rfl rfl ?_
    refine Pdesk 33 C dX10_spread_30 rfl (by decide) ⟨by decide, by decide⟩ (Nat.le_of_ble_eq_true rfl) ?_
    refine Pg_d0 36 C dX10_spread_33 rfl fl10_248 ?_
    refine j_top (x' := (f_pl wd (-1) (nI 0) r (days - 1) n 0 hd (-1, -1)).1) (congrArg Prod.fst hE9) ?_
    exact j_iret C dX10_spread_36 ⟨by rw [if_pos c7, tn_nI (by omega), tn_nI (by omega), tn_nI (by omega)], Or.inr ⟨zd, zx, zy, zw, zv, _, _, _, _, _, _, _, _, _, _, k9, w9, hy, hv, hD9, rfl⟩⟩
  · refine j_iconst 11 C dX10_spread_10 rfl (v := (-1)) (by decide) ?_
    refine j_widen 26 15339 (by decide) (by decide) ?_
    exact j_iret C dX10_spread_11 ⟨by rw [if_neg c7], Or.inl rfl⟩
theorem K10_leftByOneDayA (hT : TT (-1) St wd) (hR : RR Sr wd) (hW : WF wd) (hH0 : HR wd Sh hd hr td) (h3 : Sm.1 3 = -1) (h4 : Sm.1 4 = -1) (hhr : hr + 300 ≤ 1000000000) (htd : td + 100 ≤ 1000000000) (hy : HX Sy) (hv : HX Sv) {r n days day : Nat} (hrw : r < nrw wd) (hn9 : n < 9) (hd5 : days < 5) (hdy : day ≤ days) : Con l G yX10_leftByOneDay cX10_leftByOneDay 6 (some .int) 9 0 0 [.ref (zn 50), .int (nI r), .int (nI n), .int (nI days), .int (nI day)] (nBk zn (zs 50) G.2.1 Sn fi fs pa (some (zd 50)) ++ (sBk zs (zm 50) (zb 50) G.2.1 Ss ++ (mBk zm (zt 50) (zr 50) (zh 50) G.2.1 Sm ++ (hBk zh G.2.1 Sh ++ (tBk zt G.2.1 St ++ (rBk zr G.2.1 Sr ++ (bBk zb G.2.1 Sb ++ (dBk zd (zx 50) (zw 50) G.2.1 Sd qd ++ (mBk zx t0 r0 (zy 50) G.2.1 Sx ++ (hBk zy G.2.1 Sy ++ (mBk zw t1 r1 (zv 50) G.2.1 Sw ++ (hBk zv G.2.1 Sv ++ (R))))))))))))) (fun v w => v = some (.int (f_left wd (f_hours wd (-1) (nI 0) ((days - day) * 24) (f_readsN wd (-1) (nI 0) r n (f_hours wd (-1) (nI 0) (day * 24) hd))) r (len wd r))) ∧ ∃ (t0 r0 t1 r1 : Nat) (Sx Sy Sw Sv : MS), HX Sy ∧ HX Sv ∧ w = (nBk zn (zs 50) G.2.1 Sn fi fs pa (some (zd 50)) ++ (sBk zs (zm 50) (zb 50) G.2.1 Ss ++ (mBk zm (zt 50) (zr 50) (zh 50) G.2.1 Sm ++ (hBk zh G.2.1 Sh ++ (tBk zt G.2.1 St ++ (rBk zr G.2.1 Sr ++ (bBk zb G.2.1 Sb ++ (dBk zd (zx 50) (zw 50) G.2.1 Sd qd ++ (mBk zx t0 r0 (zy 50) G.2.1 Sx ++ (hBk zy G.2.1 Sy ++ (mBk zw t1 r1 (zv 50) G.2.1 Sw ++ (hBk zv G.2.1 Sv ++ (R)))))))))))))) := by
  refine Con.mk (own := RX10) (by decide) rfl (Nat.le_of_ble_eq_true rfl) (fun X C => ?_)
  refine j_aload_n 1 C dX10_leftByOneDay_0 rfl rfl ?_
  refine Pdesk 4 C dX10_leftByOneDay_1 rfl (by decide) ⟨Nat.le_refl _, Nat.le_refl _⟩ (Nat.le_of_ble_eq_true rfl) ?_
  refine j_aload_n 5 C dX10_leftByOneDay_4 rfl rfl ?_
  refine Pg_n4 8 C dX10_leftByOneDay_5 rfl fl10_20 ?_
  refine Pg_s0 11 C dX10_leftByOneDay_8 rfl fl10_61 ?_
  refine Pr_WR 14 C dX10_leftByOneDay_11 rfl cw10_182 rfl (K1_walkerFrom hH0 hv) rfl (by decide) ⟨Nat.le_refl _, Nat.le_refl _⟩ rfl (Nat.le_of_ble_eq_true rfl) (fun s11 hs11 => ?_)
  refine j_astore 16 C dX10_leftByOneDay_14 rfl rfl (by decide) ?_
  refine j_aload 18 C dX10_leftByOneDay_16 rfl rfl ?_
  refine j_iload 20 C dX10_leftByOneDay_18 rfl rfl ?_
  refine j_bipush 22 C dX10_leftByOneDay_20 rfl (v := nI 24) (by decide) ?_
  refine j_imulN 23 C dX10_leftByOneDay_22 rfl ?_
  refine PWr_VV 26 C dX10_leftByOneDay_23 rfl cw10_124 rfl (K3_passHours (cl := -1) hT hW hs11 rfl rfl (by omega) (by omega)) rfl (by decide) ⟨Nat.le_refl _, Nat.le_refl _⟩ rfl (Nat.le_of_ble_eq_true rfl) (fun s23 hs23 => ?_)
  obtain ⟨t23, ht23, -, hw23⟩ := hs23
  rw [hours_cv _ (nI 0)] at hw23
  refine j_aload 28 C dX10_leftByOneDay_26 rfl rfl ?_
  refine j_iload_n 29 C dX10_leftByOneDay_28 rfl rfl ?_
  refine j_iload_n 30 C dX10_leftByOneDay_29 rfl rfl ?_
  refine PWr_VV 33 C dX10_leftByOneDay_30 rfl cw10_258 rfl (K3_readTimes (cl := -1) hT hR hW hw23 rfl rfl (by decide) (by omega) (by omega) hrw) rfl (by decide) ⟨Nat.le_refl _, Nat.le_refl _⟩ rfl (Nat.le_of_ble_eq_true rfl) (fun s30 hs30 => ?_)
  have hw30 := hs30
  rw [readsN_cv _ (nI 0)] at hw30
  refine j_aload 35 C dX10_leftByOneDay_33 rfl rfl ?_
  refine j_iload_n 36 C dX10_leftByOneDay_35 rfl rfl ?_
  refine j_iload 38 C dX10_leftByOneDay_36 rfl rfl ?_
  refine j_isubN 39 C dX10_leftByOneDay_38 rfl ((by omega)) ?_
  refine j_bipush 41 C dX10_leftByOneDay_39 rfl (v := nI 24) (by decide) ?_
  refine j_imulN 42 C dX10_leftByOneDay_41 rfl ?_
  refine PWr_VV 45 C dX10_leftByOneDay_42 rfl cw10_124 rfl (K3_passHours (cl := -1) hT hW hw30 rfl rfl (by omega) (by omega)) rfl (by decide) ⟨Nat.le_refl _, Nat.le_refl _⟩ rfl (Nat.le_of_ble_eq_true rfl) (fun s42 hs42 => ?_)
  obtain ⟨t42, ht42, -, hw42⟩ := hs42
  rw [hours_cv _ (nI 0)] at hw42
  refine j_aload 47 C dX10_leftByOneDay_45 rfl rfl ?_
  refine j_iload_n 48 C dX10_leftByOneDay_47 rfl rfl ?_
  refine PWx_VI 51 C dX10_leftByOneDay_48 rfl cw10_261 rfl (K3_supportOfAll hT hR hW hw42 rfl hrw) rfl (by decide) ⟨Nat.le_refl _, Nat.le_refl _⟩ rfl (Nat.le_of_ble_eq_true rfl) ?_
  exact j_iret C dX10_leftByOneDay_51 ⟨rfl, _, _, _, _, _, _, _, _, hy, (HR_X hw42), rfl⟩
theorem K10_leftByOneDayB (hT : TT (-1) St wd) (hR : RR Sr wd) (hW : WF wd) (hH0 : HR wd Sh hd hr td) (h3 : Sm.1 3 = -1) (h4 : Sm.1 4 = -1) (hhr : hr + 300 ≤ 1000000000) (htd : td + 100 ≤ 1000000000) {r n days day : Nat} (hrw : r < nrw wd) (hn9 : n < 9) (hd5 : days < 5) (hdy : day ≤ days) : Con l G yX10_leftByOneDay cX10_leftByOneDay 6 (some .int) 9 10 5119 [.ref (zn 50), .int (nI r), .int (nI n), .int (nI days), .int (nI day)] (nBk zn (zs 50) G.2.1 Sn fi fs pa none ++ (sBk zs (zm 50) (zb 50) G.2.1 Ss ++ (mBk zm (zt 50) (zr 50) (zh 50) G.2.1 Sm ++ (hBk zh G.2.1 Sh ++ (tBk zt G.2.1 St ++ (rBk zr G.2.1 Sr ++ (bBk zb G.2.1 Sb ++ (R)))))))) (fun v w => v = some (.int (f_left wd (f_hours wd (-1) (nI 0) ((days - day) * 24) (f_readsN wd (-1) (nI 0) r n (f_hours wd (-1) (nI 0) (day * 24) hd))) r (len wd r))) ∧ (w = (nBk zn (zs 50) G.2.1 Sn fi fs pa none ++ (sBk zs (zm 50) (zb 50) G.2.1 Ss ++ (mBk zm (zt 50) (zr 50) (zh 50) G.2.1 Sm ++ (hBk zh G.2.1 Sh ++ (tBk zt G.2.1 St ++ (rBk zr G.2.1 Sr ++ (bBk zb G.2.1 Sb ++ (R)))))))) ∨ ∃ (zd zx zy zw zv : Nat → Nat) (t0 r0 t1 r1 : Nat) (Sx Sy Sw Sv : MS), HX Sy ∧ HX Sv ∧ w = (nBk zn (zs 50) G.2.1 Sn fi fs pa (some (zd 50)) ++ (sBk zs (zm 50) (zb 50) G.2.1 Ss ++ (mBk zm (zt 50) (zr 50) (zh 50) G.2.1 Sm ++ (hBk zh G.2.1 Sh ++ (tBk zt G.2.1 St ++ (rBk zr G.2.1 Sr ++ (bBk zb G.2.1 Sb ++ (dBk zd (zx 50) (zw 50) G.2.1 MS0 (fun _ => none) ++ (mBk zx t0 r0 (zy 50) G.2.1 Sx ++ (hBk zy G.2.1 Sy ++ (mBk zw t1 r1 (zv 50) G.2.1 Sw ++ (hBk zv G.2.1 Sv ++ (R))))))))))))))) := by
  refine Con.mk (own := RX10) (by decide) rfl (Nat.le_of_ble_eq_true rfl) (fun X C => ?_)
  refine j_aload_n 1 C dX10_leftByOneDay_0 rfl rfl ?_
  refine Ldesk0 4 C dX10_leftByOneDay_1 rfl (by decide) (Nat.le_of_ble_eq_true rfl) (fun zd zx zy zw zv => ?_)
  have hy := HX0
  have hv := HX0
  refine j_aload_n 5 C dX10_leftByOneDay_4 rfl rfl ?_
  refine Pg_n4 8 C dX10_leftByOneDay_5 rfl fl10_20 ?_
  refine Pg_s0 11 C dX10_leftByOneDay_8 rfl fl10_61 ?_
  refine Pr_WR 14 C dX10_leftByOneDay_11 rfl cw10_182 rfl (K1_walkerFrom hH0 hv) rfl (by decide) ⟨Nat.le_refl _, Nat.le_refl _⟩ rfl (Nat.le_of_ble_eq_true rfl) (fun s11 hs11 => ?_)
  refine j_astore 16 C dX10_leftByOneDay_14 rfl rfl (by decide) ?_
  refine j_aload 18 C dX10_leftByOneDay_16 rfl rfl ?_
  refine j_iload 20 C dX10_leftByOneDay_18 rfl rfl ?_
  refine j_bipush 22 C dX10_leftByOneDay_20 rfl (v := nI 24) (by decide) ?_
  refine j_imulN 23 C dX10_leftByOneDay_22 rfl ?_
  refine PWr_VV 26 C dX10_leftByOneDay_23 rfl cw10_124 rfl (K3_passHours (cl := -1) hT hW hs11 rfl rfl (by omega) (by omega)) rfl (by decide) ⟨Nat.le_refl _, Nat.le_refl _⟩ rfl (Nat.le_of_ble_eq_true rfl) (fun s23 hs23 => ?_)
  obtain ⟨t23, ht23, -, hw23⟩ := hs23
  rw [hours_cv _ (nI 0)] at hw23
  refine j_aload 28 C dX10_leftByOneDay_26 rfl rfl ?_
  refine j_iload_n 29 C dX10_leftByOneDay_28 rfl rfl ?_
  refine j_iload_n 30 C dX10_leftByOneDay_29 rfl rfl ?_
  refine PWr_VV 33 C dX10_leftByOneDay_30 rfl cw10_258 rfl (K3_readTimes (cl := -1) hT hR hW hw23 rfl rfl (by decide) (by omega) (by omega) hrw) rfl (by decide) ⟨Nat.le_refl _, Nat.le_refl _⟩ rfl (Nat.le_of_ble_eq_true rfl) (fun s30 hs30 => ?_)
  have hw30 := hs30
  rw [readsN_cv _ (nI 0)] at hw30
  refine j_aload 35 C dX10_leftByOneDay_33 rfl rfl ?_
  refine j_iload_n 36 C dX10_leftByOneDay_35 rfl rfl ?_
  refine j_iload 38 C dX10_leftByOneDay_36 rfl rfl ?_
  refine j_isubN 39 C dX10_leftByOneDay_38 rfl ((by omega)) ?_
  refine j_bipush 41 C dX10_leftByOneDay_39 rfl (v := nI 24) (by decide) ?_
  refine j_imulN 42 C dX10_leftByOneDay_41 rfl ?_
  refine PWr_VV 45 C dX10_leftByOneDay_42 rfl cw10_124 rfl (K3_passHours (cl := -1) hT hW hw30 rfl rfl (by omega) (by omega)) rfl (by decide) ⟨Nat.le_refl _, Nat.le_refl _⟩ rfl (Nat.le_of_ble_eq_true rfl) (fun s42 hs42 => ?_)
  obtain ⟨t42, ht42, -, hw42⟩ := hs42
  rw [hours_cv _ (nI 0)] at hw42
  refine j_aload 47 C dX10_leftByOneDay_45 rfl rfl ?_
  refine j_iload_n 48 C dX10_leftByOneDay_47 rfl rfl ?_
  refine PWx_VI 51 C dX10_leftByOneDay_48 rfl cw10_261 rfl (K3_supportOfAll hT hR hW hw42 rfl hrw) rfl (by decide) ⟨Nat.le_refl _, Nat.le_refl _⟩ rfl (Nat.le_of_ble_eq_true rfl) ?_
  exact j_iret C dX10_leftByOneDay_51 ⟨rfl, Or.inr ⟨zd, zx, zy, zw, zv, _, _, _, _, _, _, _, _, hy, (HR_X hw42), rfl⟩⟩
set_option maxHeartbeats 2000000 in
theorem K10_leftA (hT : TT (-1) St wd) (hR : RR Sr wd) (hW : WF wd) (hH0 : HR wd Sh hd hr td) (h3 : Sm.1 3 = -1) (h4 : Sm.1 4 = -1) (hhr : hr + 300 ≤ 1000000000) (htd : td + 100 ≤ 1000000000) (hy : HX Sy) (hv : HX Sv) (hDQ : DQ G qd kk wq)  : Con l G yX10_left cX10_left 5 (some .int) 13 16 10220 [.ref (zn 50), .int x, .int y, .int z, .int u] (nBk zn (zs 50) G.2.1 Sn fi fs pa (some (zd 50)) ++ (sBk zs (zm 50) (zb 50) G.2.1 Ss ++ (mBk zm (zt 50) (zr 50) (zh 50) G.2.1 Sm ++ (hBk zh G.2.1 Sh ++ (tBk zt G.2.1 St ++ (rBk zr G.2.1 Sr ++ (bBk zb G.2.1 Sb ++ (dBk zd (zx 50) (zw 50) G.2.1 Sd qd ++ (mBk zx t0 r0 (zy 50) G.2.1 Sx ++ (hBk zy G.2.1 Sy ++ (mBk zw t1 r1 (zv 50) G.2.1 Sw ++ (hBk zv G.2.1 Sv ++ (wq ++ R))))))))))))) (fun v w => v = some (.int (if (isI x (nrw wd) ∧ isP y 9 ∧ isP z 5) ∧ isI u 3 then (if tn u = 0 then (f_pl wd (-1) (nI 0) (tn x) (tn z - 1) (tn y) 0 hd (-1, -1)).2 else f_left wd (f_one wd (-1) (nI 0) (tn x) (tn y) (tn u) (tn z) hd (tn z)) (tn x) (len wd (tn x))) else -1)) ∧ ∃ (t0 r0 t1 r1 : Nat) (Sx Sy Sw Sv : MS) (Sd : MS) (qd : Nat → Option Nat) (kk : Nat) (wq : va_W), HX Sy ∧ HX Sv ∧ DQ G qd kk wq ∧ w = (nBk zn (zs 50) G.2.1 Sn fi fs pa (some (zd 50)) ++ (sBk zs (zm 50) (zb 50) G.2.1 Ss ++ (mBk zm (zt 50) (zr 50) (zh 50) G.2.1 Sm ++ (hBk zh G.2.1 Sh ++ (tBk zt G.2.1 St ++ (rBk zr G.2.1 Sr ++ (bBk zb G.2.1 Sb ++ (dBk zd (zx 50) (zw 50) G.2.1 Sd qd ++ (mBk zx t0 r0 (zy 50) G.2.1 Sx ++ (hBk zy G.2.1 Sy ++ (mBk zw t1 r1 (zv 50) G.2.1 Sw ++ (hBk zv G.2.1 Sv ++ (wq ++ R)))))))))))))) := by
  refine Con.mk (own := RX10) (by decide) rfl (Nat.le_of_ble_eq_true rfl) (fun X C => ?_)
  refine j_aload_n 1 C dX10_left_0 rfl rfl ?_
  refine j_iload_n 2 C dX10_left_1 rfl rfl ?_
  refine j_iload_n 3 C dX10_left_2 rfl rfl ?_
  refine j_iload_n 4 C dX10_left_3 rfl rfl ?_
  refine j_callVs 7 C dX10_left_4 rfl cw10_240 (K10_canSpread hR hW) rfl ⟨by decide, by decide, by decide⟩ rfl (Nat.le_of_ble_eq_true rfl) 0 rfl (ci := 10) (T := TX10) (N := 9) rfl (fun v w hp => ?_)
  obtain ⟨rfl, rfl⟩ := hp
  refine j_if_eqB 21 10 C dX10_left_7 (by decide) rfl (fun c7 => ?_) (fun c7 => ?_)
  · refine j_iconst 22 C dX10_left_21 rfl (v := (-1)) (by decide) ?_
    refine j_widen 16 10220 (by decide) (by decide) ?_
    exact j_iret C dX10_left_22 ⟨by rw [if_neg (fun q => c7 q.1)], _, _, _, _, _, _, _, _, _, _, kk, wq, hy, hv, hDQ, rfl⟩
  · refine j_iload 12 C dX10_left_10 rfl rfl ?_
    refine j_if_lt 21 15 C dX10_left_12 (by decide) rfl (fun c12 => ?_) (fun c12 => ?_)
    · refine j_iconst 22 C dX10_left_21 rfl (v := (-1)) (by decide) ?_
      refine j_widen 16 10220 (by decide) (by decide) ?_
      exact j_iret C dX10_left_22 ⟨by rw [if_neg (fun q => isI_nneg q.2 c12)], _, _, _, _, _, _, _, _, _, _, kk, wq, hy, hv, hDQ, rfl⟩
    · refine j_iload 17 C dX10_left_15 rfl rfl ?_
      refine j_iconst 18 C dX10_left_17 rfl (v := nI 2) (by decide) ?_
      refine j_icmp_le 23 21 C dX10_left_18 (by decide) rfl (fun c18 => ?_) (fun c18 => ?_)
      · have hsp := c7
        have hu3 := isI3 c12 c18
        obtain ⟨r, hrw, rfl⟩ := isI_of hsp.1
        obtain ⟨n, hn1, hn9, rfl⟩ := isP_of hsp.2.1 (by decide)
        obtain ⟨days, hd1, hd5, rfl⟩ := isP_of hsp.2.2 (by decide)
        have hr12 := (WF_len hW hrw).2.2.1
        obtain ⟨wv, hwv3, rfl⟩ := isI_of hu3
        refine j_iload 25 C dX10_left_23 rfl rfl ?_
        refine j_if_neN 53 28 C dX10_left_25 (by decide) rfl (by omega) (fun c25 => ?_) (fun c25 => ?_)
        · refine j_aload_n 54 C dX10_left_53 rfl rfl ?_
          refine j_iload_n 55 C dX10_left_54 rfl rfl ?_
          refine j_iload_n 56 C dX10_left_55 rfl rfl ?_
          refine j_iload_n 57 C dX10_left_56 rfl rfl ?_
          refine j_iload 59 C dX10_left_57 rfl rfl ?_
          refine j_iconst 60 C dX10_left_59 rfl (v := nI 1) (by decide) ?_
          refine j_icmp_neN 67 63 C dX10_left_60 (by decide) rfl (by omega) (by omega) (fun c60 => ?_) (fun c60 => ?_)
          · refine j_iload_n 68 C dX10_left_67 rfl rfl ?_
            refine j_iconst 69 C dX10_left_68 rfl (v := nI 1) (by decide) ?_
            refine j_isubN 70 C dX10_left_69 rfl ((by omega)) ?_
            have hdy : days - 1 ≤ days := by omega
            refine j_callVs 73 C dX10_left_70 rfl cw10_254 (K10_leftByOneDayA hT hR hW hH0 h3 h4 hhr htd hy hv hrw (by omega) (by omega) hdy) rfl ⟨by decide, by decide, by decide⟩ rfl (Nat.le_of_ble_eq_true rfl) 0 rfl (ci := 10) (T := TX10) (N := 9) rfl (fun v w hp => ?_)
            obtain ⟨rfl, hp⟩ := hp
            refine j_widen 16 10220 (by decide) (by decide) ?_
            exact j_iret C dX10_left_73 (by obtain ⟨a1, a2, a3, a4, a5, a6, a7, a8, b1, b2, rfl⟩ := hp; exact ⟨by rw [if_pos ⟨c7, hu3⟩, if_neg (by rw [tn_nI (by omega)]; omega), tn_nI (by omega), tn_nI (by omega), tn_nI (by omega), tn_nI (by omega), one_2 (by omega) (by omega)], a1, a2, a3, a4, a5, a6, a7, a8, _, _, kk, wq, b1, b2, hDQ, rfl⟩)
          · refine j_iconst 64 C dX10_left_63 rfl (v := nI 0) (by decide) ?_
            refine j_goto 70 C dX10_left_64 (by decide) ?_
            have hdy : 0 ≤ days := by omega
            refine j_callVs 73 C dX10_left_70 rfl cw10_254 (K10_leftByOneDayA hT hR hW hH0 h3 h4 hhr htd hy hv hrw (by omega) (by omega) hdy) rfl ⟨by decide, by decide, by decide⟩ rfl (Nat.le_of_ble_eq_true rfl) 0 rfl (ci := 10) (T := TX10) (N := 9) rfl (fun v w hp => ?_)
            obtain ⟨rfl, hp⟩ := hp
            refine j_widen 16 10220 (by decide) (by decide) ?_
            exact j_iret C dX10_left_73 (by obtain ⟨a1, a2, a3, a4, a5, a6, a7, a8, b1, b2, rfl⟩ := hp; exact ⟨by rw [if_pos ⟨c7, hu3⟩, if_neg (by rw [tn_nI (by omega)]; omega), tn_nI (by omega), tn_nI (by omega), tn_nI (by omega), tn_nI (by omega), show wv = 1 by omega, show days = (days - 1) + 1 by omega, one_1, Nat.sub_zero, show (0 : Nat) * 24 = 0 by rfl]; rfl, a1, a2, a3, a4, a5, a6, a7, a8, _, _, kk, wq, b1, b2, hDQ, rfl⟩)
        · refine j_aload_n 29 C dX10_left_28 rfl rfl ?_
          refine Pdesk 32 C dX10_left_29 rfl (by decide) ⟨by decide, by decide⟩ (Nat.le_of_ble_eq_true rfl) ?_
          refine j_aload_n 33 C dX10_left_32 rfl rfl ?_
          refine Pg_n4 36 C dX10_left_33 rfl fl10_20 ?_
          refine Pg_s0 39 C dX10_left_36 rfl fl10_61 ?_
          refine j_iload_n 40 C dX10_left_39 rfl rfl ?_
          refine j_iload_n 41 C dX10_left_40 rfl rfl ?_
          refine j_iload_n 42 C dX10_left_41 rfl rfl ?_
          refine j_perm ((dBk zd (zx 50) (zw 50) G.2.1 Sd qd ++ (mBk zm (zt 50) (zr 50) (zh 50) G.2.1 Sm ++ (hBk zh G.2.1 Sh ++ (tBk zt G.2.1 St ++ (rBk zr G.2.1 Sr ++ wq))))) ++ (nBk zn (zs 50) G.2.1 Sn fi fs pa (some (zd 50)) ++ (sBk zs (zm 50) (zb 50) G.2.1 Ss ++ (bBk zb G.2.1 Sb ++ (mBk zx t0 r0 (zy 50) G.2.1 Sx ++ (hBk zy G.2.1 Sy ++ (mBk zw t1 r1 (zv 50) G.2.1 Sw ++ (hBk zv G.2.1 Sv ++ R)))))))) (perm_sp _ _ _ _ _ _ _ _ _ _ _ _ wq _) ?_
          refine j_callM 45 C dX10_left_42 rfl cw10_244 (K1_searchPlans hT hR hW hrw (by omega) (by omega) (by omega) (by omega) (by omega) hH0 hDQ) rfl ⟨by decide, by decide, by decide⟩ rfl (Nat.le_of_ble_eq_true rfl) [] (nBk zn (zs 50) G.2.1 Sn fi fs pa (some (zd 50)) ++ (sBk zs (zm 50) (zb 50) G.2.1 Ss ++ (bBk zb G.2.1 Sb ++ (mBk zx t0 r0 (zy 50) G.2.1 Sx ++ (hBk zy G.2.1 Sy ++ (mBk zw t1 r1 (zv 50) G.2.1 Sw ++ (hBk zv G.2.1 Sv ++ R))))))) rfl 0 rfl (ci := 1) (T := TX1) (N := 5) rfl (fun v w hp => ?_)
          obtain ⟨⟨Sd9, q9, w9, k9⟩, ⟨hE9, hD9⟩, rfl, rfl⟩ := hp
          refine j_perm (nBk zn (zs 50) G.2.1 Sn fi fs pa (some (zd 50)) ++ (sBk zs (zm 50) (zb 50) G.2.1 Ss ++ (mBk zm (zt 50) (zr 50) (zh 50) G.2.1 Sm ++ (hBk zh G.2.1 Sh ++ (tBk zt G.2.1 St ++ (rBk zr G.2.1 Sr ++ (bBk zb G.2.1 Sb ++ (dBk zd (zx 50) (zw 50) G.2.1 Sd9 q9 ++ (mBk zx t0 r0 (zy 50) G.2.1 Sx ++ (hBk zy G.2.1 Sy ++ (mBk zw t1 r1 (zv 50) G.2.1 Sw ++ (hBk zv G.2.1 Sv ++ (w9 ++ R))))))))))))) (perm_sp _ _ _ _ _ _ _ _ _ _ _ _ w9 _).symm ?_
          refine j_aload_n 46 C dX10_left_45 rfl rfl ?_
          refine Pdesk 49 C dX10_left_46 rfl (by decide) ⟨by decide, by decide⟩ (Nat.le_of_ble_eq_true rfl) ?_
          refine Pg_d1 52 C dX10_left_49 rfl fl10_251 ?_
          refine j_top (x' := (f_pl wd (-1) (nI 0) r (days - 1) n 0 hd (-1, -1)).2) (congrArg Prod.snd hE9) ?_
          exact j_iret C dX10_left_52 ⟨by rw [if_pos ⟨c7, hu3⟩, if_pos (by rw [tn_nI (by omega)]; omega), tn_nI (by omega), tn_nI (by omega), tn_nI (by omega)], _, _, _, _, _, _, _, _, _, _, k9, w9, hy, hv, hD9, rfl⟩
      · refine j_iconst 22 C dX10_left_21 rfl (v := (-1)) (by decide) ?_
        refine j_widen 16 10220 (by decide) (by decide) ?_
        exact j_iret C dX10_left_22 ⟨by rw [if_neg (fun q => isI_nle q.2 c18)], _, _, _, _, _, _, _, _, _, _, kk, wq, hy, hv, hDQ, rfl⟩
set_option maxHeartbeats 2000000 in
theorem K10_leftB (hT : TT (-1) St wd) (hR : RR Sr wd) (hW : WF wd) (hH0 : HR wd Sh hd hr td) (h3 : Sm.1 3 = -1) (h4 : Sm.1 4 = -1) (hhr : hr + 300 ≤ 1000000000) (htd : td + 100 ≤ 1000000000)  : Con l G yX10_left cX10_left 5 (some .int) 13 26 15339 [.ref (zn 50), .int x, .int y, .int z, .int u] (nBk zn (zs 50) G.2.1 Sn fi fs pa none ++ (sBk zs (zm 50) (zb 50) G.2.1 Ss ++ (mBk zm (zt 50) (zr 50) (zh 50) G.2.1 Sm ++ (hBk zh G.2.1 Sh ++ (tBk zt G.2.1 St ++ (rBk zr G.2.1 Sr ++ (bBk zb G.2.1 Sb ++ (R)))))))) (fun v w => v = some (.int (if (isI x (nrw wd) ∧ isP y 9 ∧ isP z 5) ∧ isI u 3 then (if tn u = 0 then (f_pl wd (-1) (nI 0) (tn x) (tn z - 1) (tn y) 0 hd (-1, -1)).2 else f_left wd (f_one wd (-1) (nI 0) (tn x) (tn y) (tn u) (tn z) hd (tn z)) (tn x) (len wd (tn x))) else -1)) ∧ (w = (nBk zn (zs 50) G.2.1 Sn fi fs pa none ++ (sBk zs (zm 50) (zb 50) G.2.1 Ss ++ (mBk zm (zt 50) (zr 50) (zh 50) G.2.1 Sm ++ (hBk zh G.2.1 Sh ++ (tBk zt G.2.1 St ++ (rBk zr G.2.1 Sr ++ (bBk zb G.2.1 Sb ++ (R)))))))) ∨ ∃ (zd zx zy zw zv : Nat → Nat) (t0 r0 t1 r1 : Nat) (Sx Sy Sw Sv : MS) (Sd : MS) (qd : Nat → Option Nat) (kk : Nat) (wq : va_W), HX Sy ∧ HX Sv ∧ DQ G qd kk wq ∧ w = (nBk zn (zs 50) G.2.1 Sn fi fs pa (some (zd 50)) ++ (sBk zs (zm 50) (zb 50) G.2.1 Ss ++ (mBk zm (zt 50) (zr 50) (zh 50) G.2.1 Sm ++ (hBk zh G.2.1 Sh ++ (tBk zt G.2.1 St ++ (rBk zr G.2.1 Sr ++ (bBk zb G.2.1 Sb ++ (dBk zd (zx 50) (zw 50) G.2.1 Sd qd ++ (mBk zx t0 r0 (zy 50) G.2.1 Sx ++ (hBk zy G.2.1 Sy ++ (mBk zw t1 r1 (zv 50) G.2.1 Sw ++ (hBk zv G.2.1 Sv ++ (wq ++ R))))))))))))))) := by
  refine Con.mk (own := RX10) (by decide) rfl (Nat.le_of_ble_eq_true rfl) (fun X C => ?_)
  refine j_aload_n 1 C dX10_left_0 rfl rfl ?_
  refine j_iload_n 2 C dX10_left_1 rfl rfl ?_
  refine j_iload_n 3 C dX10_left_2 rfl rfl ?_
  refine j_iload_n 4 C dX10_left_3 rfl rfl ?_
  refine j_callVs 7 C dX10_left_4 rfl cw10_240 (K10_canSpread hR hW) rfl ⟨by decide, by decide, by decide⟩ rfl (Nat.le_of_ble_eq_true rfl) 0 rfl (ci := 10) (T := TX10) (N := 9) rfl (fun v w hp => ?_)
  obtain ⟨rfl, rfl⟩ := hp
  refine j_if_eqB 21 10 C dX10_left_7 (by decide) rfl (fun c7 => ?_) (fun c7 => ?_)
  · refine j_iconst 22 C dX10_left_21 rfl (v := (-1)) (by decide) ?_
    refine j_widen 26 15339 (by decide) (by decide) ?_
    exact j_iret C dX10_left_22 ⟨by rw [if_neg (fun q => c7 q.1)], Or.inl rfl⟩
  · refine j_iload 12 C dX10_left_10 rfl rfl ?_
    refine j_if_lt 21 15 C dX10_left_12 (by decide) rfl (fun c12 => ?_) (fun c12 => ?_)
    · refine j_iconst 22 C dX10_left_21 rfl (v := (-1)) (by decide) ?_
      refine j_widen 26 15339 (by decide) (by decide) ?_
      exact j_iret C dX10_left_22 ⟨by rw [if_neg (fun q => isI_nneg q.2 c12)], Or.inl rfl⟩
    · refine j_iload 17 C dX10_left_15 rfl rfl ?_
      refine j_iconst 18 C dX10_left_17 rfl (v := nI 2) (by decide) ?_
      refine j_icmp_le 23 21 C dX10_left_18 (by decide) rfl (fun c18 => ?_) (fun c18 => ?_)
      · have hsp := c7
        have hu3 := isI3 c12 c18
        obtain ⟨r, hrw, rfl⟩ := isI_of hsp.1
        obtain ⟨n, hn1, hn9, rfl⟩ := isP_of hsp.2.1 (by decide)
        obtain ⟨days, hd1, hd5, rfl⟩ := isP_of hsp.2.2 (by decide)
        have hr12 := (WF_len hW hrw).2.2.1
        obtain ⟨wv, hwv3, rfl⟩ := isI_of hu3
        refine j_iload 25 C dX10_left_23 rfl rfl ?_
        refine j_if_neN 53 28 C dX10_left_25 (by decide) rfl (by omega) (fun c25 => ?_) (fun c25 => ?_)
        · refine j_aload_n 54 C dX10_left_53 rfl rfl ?_
          refine j_iload_n 55 C dX10_left_54 rfl rfl ?_
          refine j_iload_n 56 C dX10_left_55 rfl rfl ?_
          refine j_iload_n 57 C dX10_left_56 rfl rfl ?_
          refine j_iload 59 C dX10_left_57 rfl rfl ?_
          refine j_iconst 60 C dX10_left_59 rfl (v := nI 1) (by decide) ?_
          refine j_icmp_neN 67 63 C dX10_left_60 (by decide) rfl (by omega) (by omega) (fun c60 => ?_) (fun c60 => ?_)
          · refine j_iload_n 68 C dX10_left_67 rfl rfl ?_
            refine j_iconst 69 C dX10_left_68 rfl (v := nI 1) (by decide) ?_
            refine j_isubN 70 C dX10_left_69 rfl ((by omega)) ?_
            have hdy : days - 1 ≤ days := by omega
            refine j_callVs 73 C dX10_left_70 rfl cw10_254 (K10_leftByOneDayB hT hR hW hH0 h3 h4 hhr htd hrw (by omega) (by omega) hdy) rfl ⟨by decide, by decide, by decide⟩ rfl (Nat.le_of_ble_eq_true rfl) 0 rfl (ci := 10) (T := TX10) (N := 9) rfl (fun v w hp => ?_)
            obtain ⟨rfl, hp⟩ := hp
            refine j_widen 26 15339 (by decide) (by decide) ?_
            exact j_iret C dX10_left_73 (hp.elim (fun hw => by subst hw; exact ⟨by rw [if_pos ⟨c7, hu3⟩, if_neg (by rw [tn_nI (by omega)]; omega), tn_nI (by omega), tn_nI (by omega), tn_nI (by omega), tn_nI (by omega), one_2 (by omega) (by omega)], Or.inl rfl⟩) (fun hw => by obtain ⟨zd, zx, zy, zw, zv, a1, a2, a3, a4, a5, a6, a7, a8, b1, b2, rfl⟩ := hw; exact ⟨by rw [if_pos ⟨c7, hu3⟩, if_neg (by rw [tn_nI (by omega)]; omega), tn_nI (by omega), tn_nI (by omega), tn_nI (by omega), tn_nI (by omega), one_2 (by omega) (by omega)], Or.inr ⟨zd, zx, zy, zw, zv, a1, a2, a3, a4, a5, a6, a7, a8, _, _, 0, [], b1, b2, DQ0, rfl⟩⟩))
          · refine j_iconst 64 C dX10_left_63 rfl (v := nI 0) (by decide) ?_
            refine j_goto 70 C dX10_left_64 (by decide) ?_
            have hdy : 0 ≤ days := by omega
            refine j_callVs 73 C dX10_left_70 rfl cw10_254 (K10_leftByOneDayB hT hR hW hH0 h3 h4 hhr htd hrw (by omega) (by omega) hdy) rfl ⟨by decide, by decide, by decide⟩ rfl (Nat.le_of_ble_eq_true rfl) 0 rfl (ci := 10) (T := TX10) (N := 9) rfl (fun v w hp => ?_)
            obtain ⟨rfl, hp⟩ := hp
            refine j_widen 26 15339 (by decide) (by decide) ?_
            exact j_iret C dX10_left_73 (hp.elim (fun hw => by subst hw; exact ⟨by rw [if_pos ⟨c7, hu3⟩, if_neg (by rw [tn_nI (by omega)]; omega), tn_nI (by omega), tn_nI (by omega), tn_nI (by omega), tn_nI (by omega), show wv = 1 by omega, show days = (days - 1) + 1 by omega, one_1, Nat.sub_zero, show (0 : Nat) * 24 = 0 by rfl]; rfl, Or.inl rfl⟩) (fun hw => by obtain ⟨zd, zx, zy, zw, zv, a1, a2, a3, a4, a5, a6, a7, a8, b1, b2, rfl⟩ := hw; exact ⟨by rw [if_pos ⟨c7, hu3⟩, if_neg (by rw [tn_nI (by omega)]; omega), tn_nI (by omega), tn_nI (by omega), tn_nI (by omega), tn_nI (by omega), show wv = 1 by omega, show days = (days - 1) + 1 by omega, one_1, Nat.sub_zero, show (0 : Nat) * 24 = 0 by rfl]; rfl, Or.inr ⟨zd, zx, zy, zw, zv, a1, a2, a3, a4, a5, a6, a7, a8, _, _, 0, [], b1, b2, DQ0, rfl⟩⟩))
        · refine j_aload_n 29 C dX10_left_28 rfl rfl ?_
          refine Ldesk1 32 C ⟨by decide, by decide⟩ dX10_left_29 rfl (by decide) (Nat.le_of_ble_eq_true rfl) (fun zd zx zy zw zv => ?_)
          have hy := HX0
          have hv := HX0
          refine j_aload_n 33 C dX10_left_32 rfl rfl ?_
          refine Pg_n4 36 C dX10_left_33 rfl fl10_20 ?_
          refine Pg_s0 39 C dX10_left_36 rfl fl10_61 ?_
          refine j_iload_n 40 C dX10_left_39 rfl rfl ?_
          refine j_iload_n 41 C dX10_left_40 rfl rfl ?_
          refine j_iload_n 42 C dX10_left_41 rfl rfl ?_
          refine j_perm ((dBk zd (zx 50) (zw 50) G.2.1 MS0 (fun _ => none) ++ (mBk zm (zt 50) (zr 50) (zh 50) G.2.1 Sm ++ (hBk zh G.2.1 Sh ++ (tBk zt G.2.1 St ++ (rBk zr G.2.1 Sr ++ []))))) ++ (nBk zn (zs 50) G.2.1 Sn fi fs pa (some (zd 50)) ++ (sBk zs (zm 50) (zb 50) G.2.1 Ss ++ (bBk zb G.2.1 Sb ++ (mBk zx (zt 50) (zr 50) (zy 50) G.2.1 SM0 ++ (hBk zy G.2.1 MS0 ++ (mBk zw (zt 50) (zr 50) (zv 50) G.2.1 SM0 ++ (hBk zv G.2.1 MS0 ++ R)))))))) (perm_sp _ _ _ _ _ _ _ _ _ _ _ _ [] _) ?_
          refine j_callM 45 C dX10_left_42 rfl cw10_244 (K1_searchPlans hT hR hW hrw (by omega) (by omega) (by omega) (by omega) (by omega) hH0 DQ0) rfl ⟨by decide, by decide, by decide⟩ rfl (Nat.le_of_ble_eq_true rfl) [] (nBk zn (zs 50) G.2.1 Sn fi fs pa (some (zd 50)) ++ (sBk zs (zm 50) (zb 50) G.2.1 Ss ++ (bBk zb G.2.1 Sb ++ (mBk zx (zt 50) (zr 50) (zy 50) G.2.1 SM0 ++ (hBk zy G.2.1 MS0 ++ (mBk zw (zt 50) (zr 50) (zv 50) G.2.1 SM0 ++ (hBk zv G.2.1 MS0 ++ R))))))) rfl 0 rfl (ci := 1) (T := TX1) (N := 5) rfl (fun v w hp => ?_)
          obtain ⟨⟨Sd9, q9, w9, k9⟩, ⟨hE9, hD9⟩, rfl, rfl⟩ := hp
          refine j_perm (nBk zn (zs 50) G.2.1 Sn fi fs pa (some (zd 50)) ++ (sBk zs (zm 50) (zb 50) G.2.1 Ss ++ (mBk zm (zt 50) (zr 50) (zh 50) G.2.1 Sm ++ (hBk zh G.2.1 Sh ++ (tBk zt G.2.1 St ++ (rBk zr G.2.1 Sr ++ (bBk zb G.2.1 Sb ++ (dBk zd (zx 50) (zw 50) G.2.1 Sd9 q9 ++ (mBk zx (zt 50) (zr 50) (zy 50) G.2.1 SM0 ++ (hBk zy G.2.1 MS0 ++ (mBk zw (zt 50) (zr 50) (zv 50) G.2.1 SM0 ++ (hBk zv G.2.1 MS0 ++ (w9 ++ R))))))))))))) (perm_sp _ _ _ _ _ _ _ _ _ _ _ _ w9 _).symm ?_
          refine j_aload_n 46 C dX10_left_45 rfl rfl ?_
          refine Pdesk 49 C dX10_left_46 rfl (by decide) ⟨by decide, by decide⟩ (Nat.le_of_ble_eq_true rfl) ?_
          refine Pg_d1 52 C dX10_left_49 rfl fl10_251 ?_
          refine j_top (x' := (f_pl wd (-1) (nI 0) r (days - 1) n 0 hd (-1, -1)).2) (congrArg Prod.snd hE9) ?_
          exact j_iret C dX10_left_52 ⟨by rw [if_pos ⟨c7, hu3⟩, if_pos (by rw [tn_nI (by omega)]; omega), tn_nI (by omega), tn_nI (by omega), tn_nI (by omega)], Or.inr ⟨zd, zx, zy, zw, zv, _, _, _, _, _, _, _, _, _, _, k9, w9, hy, hv, hD9, rfl⟩⟩
      · refine j_iconst 22 C dX10_left_21 rfl (v := (-1)) (by decide) ?_
        refine j_widen 26 15339 (by decide) (by decide) ?_
        exact j_iret C dX10_left_22 ⟨by rw [if_neg (fun q => isI_nle q.2 c18)], Or.inl rfl⟩
end SS3
