section SN3a
variable {X : JX} {l : Launch} {G : GG} {cc : ByteArray} {nL : Nat} {rt : Option FieldType} {d mc ms : Nat} {post : Option Value → va_W → Prop} {k n pc : Nat} {lv : List (Nat × Value)} {st : List Value} {zn zs zm zh zt zr zb zd zx zy zw zv : Nat → Nat} {Sn Ss Sm Sh St Sr Sb Sd Sx Sy Sw Sv : MS} {r0 r1 t0 t1 : Nat} {fi fs : Nat → Option Nat} {pa : Option Nat} {qd : Nat → Option Nat} {R : va_W}
theorem Pdesk (q : Nat) (C : Cx X l G cc nL RX10 rt d mc ms post) (hd : decode cc pc = .ok (.invokevirtual 162, 3)) (hq : pc + 3 = q) (hdd : 5 ≤ d) (hk : k ≤ mc ∧ n ≤ ms) (hrm : (st.map fun v => v.category).sum ≤ 8) (kk : J X nL k n (nBk zn (zs 50) G.2.1 Sn fi fs pa (some (zd 50)) ++ (sBk zs (zm 50) (zb 50) G.2.1 Ss ++ (mBk zm (zt 50) (zr 50) (zh 50) G.2.1 Sm ++ (hBk zh G.2.1 Sh ++ (tBk zt G.2.1 St ++ (rBk zr G.2.1 Sr ++ (bBk zb G.2.1 Sb ++ (dBk zd (zx 50) (zw 50) G.2.1 Sd qd ++ (mBk zx t0 r0 (zy 50) G.2.1 Sx ++ (hBk zy G.2.1 Sy ++ (mBk zw t1 r1 (zv 50) G.2.1 Sw ++ (hBk zv G.2.1 Sv ++ (R))))))))))))) q lv (.ref (zd 50) :: st)) : J X nL k n (nBk zn (zs 50) G.2.1 Sn fi fs pa (some (zd 50)) ++ (sBk zs (zm 50) (zb 50) G.2.1 Ss ++ (mBk zm (zt 50) (zr 50) (zh 50) G.2.1 Sm ++ (hBk zh G.2.1 Sh ++ (tBk zt G.2.1 St ++ (rBk zr G.2.1 Sr ++ (bBk zb G.2.1 Sb ++ (dBk zd (zx 50) (zw 50) G.2.1 Sd qd ++ (mBk zx t0 r0 (zy 50) G.2.1 Sx ++ (hBk zy G.2.1 Sy ++ (mBk zw t1 r1 (zv 50) G.2.1 Sw ++ (hBk zv G.2.1 Sv ++ (R))))))))))))) pc lv (.ref (zn 50) :: st) := by
  refine j_callVs q C hd hq cw10_162 K10_desk (As := []) rfl ⟨by omega, hk.1, hk.2⟩ rfl hrm 0 rfl (ci := 10) (T := TX10) (N := 9) rfl (fun v w hp => ?_)
  obtain ⟨rfl, rfl⟩ := hp
  exact kk
theorem Ldesk0 (q : Nat) (C : Cx X l G cc nL RX10 rt d 10 5119 post) (hd : decode cc pc = .ok (.invokevirtual 162, 3)) (hq : pc + 3 = q) (hdd : 5 ≤ d) (hrm : (st.map fun v => v.category).sum ≤ 8) (kk : ∀ zd zx zy zw zv : Nat → Nat, J X nL 10 5119 (nBk zn (zs 50) G.2.1 Sn fi fs pa (some (zd 50)) ++ (sBk zs (zm 50) (zb 50) G.2.1 Ss ++ (mBk zm (zt 50) (zr 50) (zh 50) G.2.1 Sm ++ (hBk zh G.2.1 Sh ++ (tBk zt G.2.1 St ++ (rBk zr G.2.1 Sr ++ (bBk zb G.2.1 Sb ++ (dBk zd (zx 50) (zw 50) G.2.1 MS0 (fun _ => none) ++ (mBk zx (zt 50) (zr 50) (zy 50) G.2.1 SM0 ++ (hBk zy G.2.1 MS0 ++ (mBk zw (zt 50) (zr 50) (zv 50) G.2.1 SM0 ++ (hBk zv G.2.1 MS0 ++ (R))))))))))))) q lv (.ref (zd 50) :: st)) : J X nL 0 0 (nBk zn (zs 50) G.2.1 Sn fi fs pa none ++ (sBk zs (zm 50) (zb 50) G.2.1 Ss ++ (mBk zm (zt 50) (zr 50) (zh 50) G.2.1 Sm ++ (hBk zh G.2.1 Sh ++ (tBk zt G.2.1 St ++ (rBk zr G.2.1 Sr ++ (bBk zb G.2.1 Sb ++ (R)))))))) pc lv (.ref (zn 50) :: st) := by
  refine j_callVs q C hd hq cw10_162 K10_desk0 (As := []) rfl ⟨by omega, by decide, by decide⟩ rfl hrm 0 rfl (ci := 10) (T := TX10) (N := 9) rfl (fun v w hp => ?_)
  obtain ⟨zd, zx, zy, zw, zv, rfl, rfl⟩ := hp
  exact kk zd zx zy zw zv
end SN3a
theorem lc_counted (x : Int32) : (if x = -1 then nI 41 else x) = f_om x := rfl
section SN3b
variable {l : Launch} {G : GG} {wd hd : Nat → Int32} {hr td : Nat} {x y z : Int32} {zn zs zm zh zt zr zb zd zx zy zw zv : Nat → Nat} {Sn Ss Sm Sh St Sr Sb Sd Sx Sy Sw Sv : MS} {r0 r1 t0 t1 : Nat} {fi fs : Nat → Option Nat} {pa : Option Nat} {qd : Nat → Option Nat} {R : va_W}
theorem K10_needsA (hT : TT (-1) St wd) (hR : RR Sr wd) (hW : WF wd) (hH0 : HR wd Sh hd hr td) (h3 : Sm.1 3 = -1) (h4 : Sm.1 4 = -1) (hhr : hr + 300 ≤ 1000000000) (htd : td + 100 ≤ 1000000000) (hy : HX Sy) (hv : HX Sv)  : Con l G yX10_needs cX10_needs 2 (some .int) 9 0 0 [.ref (zn 50), .int x] (nBk zn (zs 50) G.2.1 Sn fi fs pa (some (zd 50)) ++ (sBk zs (zm 50) (zb 50) G.2.1 Ss ++ (mBk zm (zt 50) (zr 50) (zh 50) G.2.1 Sm ++ (hBk zh G.2.1 Sh ++ (tBk zt G.2.1 St ++ (rBk zr G.2.1 Sr ++ (bBk zb G.2.1 Sb ++ (dBk zd (zx 50) (zw 50) G.2.1 Sd qd ++ (mBk zx t0 r0 (zy 50) G.2.1 Sx ++ (hBk zy G.2.1 Sy ++ (mBk zw t1 r1 (zv 50) G.2.1 Sw ++ (hBk zv G.2.1 Sv ++ (R))))))))))))) (fun v w => v = some (.int (if isI x (nrw wd) then (f_need wd (-1) (nI 0) (tn x) hd) else -2)) ∧ ∃ (t0 r0 t1 r1 : Nat) (Sx Sy Sw Sv : MS), HX Sy ∧ HX Sv ∧ w = (nBk zn (zs 50) G.2.1 Sn fi fs pa (some (zd 50)) ++ (sBk zs (zm 50) (zb 50) G.2.1 Ss ++ (mBk zm (zt 50) (zr 50) (zh 50) G.2.1 Sm ++ (hBk zh G.2.1 Sh ++ (tBk zt G.2.1 St ++ (rBk zr G.2.1 Sr ++ (bBk zb G.2.1 Sb ++ (dBk zd (zx 50) (zw 50) G.2.1 Sd qd ++ (mBk zx t0 r0 (zy 50) G.2.1 Sx ++ (hBk zy G.2.1 Sy ++ (mBk zw t1 r1 (zv 50) G.2.1 Sw ++ (hBk zv G.2.1 Sv ++ (R)))))))))))))) := by
  refine Con.mk (own := RX10) (by decide) rfl (Nat.le_of_ble_eq_true rfl) (fun X C => ?_)
  refine j_aload_n 1 C dX10_needs_0 rfl rfl ?_
  refine Pg_n4 4 C dX10_needs_1 rfl fl10_20 ?_
  refine Pg_s0 7 C dX10_needs_4 rfl fl10_61 ?_
  refine Pg_m1 10 C dX10_needs_7 rfl fl10_78 ?_
  refine j_iload_n 11 C dX10_needs_10 rfl rfl ?_
  refine Px_rI 14 C dX10_needs_11 rfl cw10_107 rfl (K5_has (hR.1.trans hW.2.2.1.1) hW.2.2.1.2) rfl (by decide) ⟨Nat.le_refl _, Nat.le_refl _⟩ rfl (Nat.le_of_ble_eq_true rfl) ?_
  refine j_if_eqB 35 17 C dX10_needs_14 (by decide) rfl (fun c14 => ?_) (fun c14 => ?_)
  · refine j_bipush 37 C dX10_needs_35 rfl (v := (-2)) (by decide) ?_
    exact j_iret C dX10_needs_37 ⟨by rw [if_neg c14], _, _, _, _, _, _, _, _, hy, hv, rfl⟩
  · obtain ⟨r, hrw, rfl⟩ := isI_of c14
    have hr12 := (WF_len hW hrw).2.2.1
    refine j_aload_n 18 C dX10_needs_17 rfl rfl ?_
    refine Pdesk 21 C dX10_needs_18 rfl (by decide) ⟨Nat.le_refl _, Nat.le_refl _⟩ (Nat.le_of_ble_eq_true rfl) ?_
    refine j_aload_n 22 C dX10_needs_21 rfl rfl ?_
    refine Pg_n4 25 C dX10_needs_22 rfl fl10_20 ?_
    refine Pg_s0 28 C dX10_needs_25 rfl fl10_61 ?_
    refine j_iload_n 29 C dX10_needs_28 rfl rfl ?_
    refine Pr_DI 32 C dX10_needs_29 rfl cw10_166 rfl (K1_needsOf hT hR hW hH0 hy (by omega) (by omega) hrw) rfl (by decide) ⟨Nat.le_refl _, Nat.le_refl _⟩ rfl (Nat.le_of_ble_eq_true rfl) (fun x29 s29 hs29 => ?_)
    obtain ⟨e29, hy29⟩ := hs29
    refine j_goto 37 C dX10_needs_32 (by decide) ?_
    exact j_iret C dX10_needs_37 ⟨by rw [if_pos c14, tn_nI (by omega), e29, need_cv _ (nI 0)], _, _, _, _, _, _, _, _, hy29, hv, rfl⟩
theorem K10_needsB (hT : TT (-1) St wd) (hR : RR Sr wd) (hW : WF wd) (hH0 : HR wd Sh hd hr td) (h3 : Sm.1 3 = -1) (h4 : Sm.1 4 = -1) (hhr : hr + 300 ≤ 1000000000) (htd : td + 100 ≤ 1000000000)  : Con l G yX10_needs cX10_needs 2 (some .int) 9 10 5119 [.ref (zn 50), .int x] (nBk zn (zs 50) G.2.1 Sn fi fs pa none ++ (sBk zs (zm 50) (zb 50) G.2.1 Ss ++ (mBk zm (zt 50) (zr 50) (zh 50) G.2.1 Sm ++ (hBk zh G.2.1 Sh ++ (tBk zt G.2.1 St ++ (rBk zr G.2.1 Sr ++ (bBk zb G.2.1 Sb ++ (R)))))))) (fun v w => v = some (.int (if isI x (nrw wd) then (f_need wd (-1) (nI 0) (tn x) hd) else -2)) ∧ (w = (nBk zn (zs 50) G.2.1 Sn fi fs pa none ++ (sBk zs (zm 50) (zb 50) G.2.1 Ss ++ (mBk zm (zt 50) (zr 50) (zh 50) G.2.1 Sm ++ (hBk zh G.2.1 Sh ++ (tBk zt G.2.1 St ++ (rBk zr G.2.1 Sr ++ (bBk zb G.2.1 Sb ++ (R)))))))) ∨ ∃ (zd zx zy zw zv : Nat → Nat) (t0 r0 t1 r1 : Nat) (Sx Sy Sw Sv : MS), HX Sy ∧ HX Sv ∧ w = (nBk zn (zs 50) G.2.1 Sn fi fs pa (some (zd 50)) ++ (sBk zs (zm 50) (zb 50) G.2.1 Ss ++ (mBk zm (zt 50) (zr 50) (zh 50) G.2.1 Sm ++ (hBk zh G.2.1 Sh ++ (tBk zt G.2.1 St ++ (rBk zr G.2.1 Sr ++ (bBk zb G.2.1 Sb ++ (dBk zd (zx 50) (zw 50) G.2.1 MS0 (fun _ => none) ++ (mBk zx t0 r0 (zy 50) G.2.1 Sx ++ (hBk zy G.2.1 Sy ++ (mBk zw t1 r1 (zv 50) G.2.1 Sw ++ (hBk zv G.2.1 Sv ++ (R))))))))))))))) := by
  refine Con.mk (own := RX10) (by decide) rfl (Nat.le_of_ble_eq_true rfl) (fun X C => ?_)
  refine j_aload_n 1 C dX10_needs_0 rfl rfl ?_
  refine Lng_n4 4 C dX10_needs_1 rfl fl10_20 ?_
  refine Lng_s0 7 C dX10_needs_4 rfl fl10_61 ?_
  refine Lng_m1 10 C dX10_needs_7 rfl fl10_78 ?_
  refine j_iload_n 11 C dX10_needs_10 rfl rfl ?_
  refine Lnx_rI 14 C dX10_needs_11 rfl cw10_107 rfl (K5_has (hR.1.trans hW.2.2.1.1) hW.2.2.1.2) rfl (by decide) ⟨Nat.zero_le _, Nat.zero_le _⟩ rfl (Nat.le_of_ble_eq_true rfl) ?_
  refine j_if_eqB 35 17 C dX10_needs_14 (by decide) rfl (fun c14 => ?_) (fun c14 => ?_)
  · refine j_bipush 37 C dX10_needs_35 rfl (v := (-2)) (by decide) ?_
    refine j_widen 10 5119 (by decide) (by decide) ?_
    exact j_iret C dX10_needs_37 ⟨by rw [if_neg c14], Or.inl rfl⟩
  · obtain ⟨r, hrw, rfl⟩ := isI_of c14
    have hr12 := (WF_len hW hrw).2.2.1
    refine j_aload_n 18 C dX10_needs_17 rfl rfl ?_
    refine Ldesk0 21 C dX10_needs_18 rfl (by decide) (Nat.le_of_ble_eq_true rfl) (fun zd zx zy zw zv => ?_)
    have hy := HX0
    have hv := HX0
    refine j_aload_n 22 C dX10_needs_21 rfl rfl ?_
    refine Pg_n4 25 C dX10_needs_22 rfl fl10_20 ?_
    refine Pg_s0 28 C dX10_needs_25 rfl fl10_61 ?_
    refine j_iload_n 29 C dX10_needs_28 rfl rfl ?_
    refine Pr_DI 32 C dX10_needs_29 rfl cw10_166 rfl (K1_needsOf hT hR hW hH0 hy (by omega) (by omega) hrw) rfl (by decide) ⟨Nat.le_refl _, Nat.le_refl _⟩ rfl (Nat.le_of_ble_eq_true rfl) (fun x29 s29 hs29 => ?_)
    obtain ⟨e29, hy29⟩ := hs29
    refine j_goto 37 C dX10_needs_32 (by decide) ?_
    exact j_iret C dX10_needs_37 ⟨by rw [if_pos c14, tn_nI (by omega), e29, need_cv _ (nI 0)], Or.inr ⟨zd, zx, zy, zw, zv, _, _, _, _, _, _, _, _, hy29, hv, rfl⟩⟩
theorem K10_freshA (hT : TT (-1) St wd) (hR : RR Sr wd) (hW : WF wd) (hH0 : HR wd Sh hd hr td) (h3 : Sm.1 3 = -1) (h4 : Sm.1 4 = -1) (hhr : hr + 300 ≤ 1000000000) (htd : td + 100 ≤ 1000000000) (hy : HX Sy) (hv : HX Sv)  : Con l G yX10_fresh cX10_fresh 2 (some .int) 9 0 0 [.ref (zn 50), .int x] (nBk zn (zs 50) G.2.1 Sn fi fs pa (some (zd 50)) ++ (sBk zs (zm 50) (zb 50) G.2.1 Ss ++ (mBk zm (zt 50) (zr 50) (zh 50) G.2.1 Sm ++ (hBk zh G.2.1 Sh ++ (tBk zt G.2.1 St ++ (rBk zr G.2.1 Sr ++ (bBk zb G.2.1 Sb ++ (dBk zd (zx 50) (zw 50) G.2.1 Sd qd ++ (mBk zx t0 r0 (zy 50) G.2.1 Sx ++ (hBk zy G.2.1 Sy ++ (mBk zw t1 r1 (zv 50) G.2.1 Sw ++ (hBk zv G.2.1 Sv ++ (R))))))))))))) (fun v w => v = some (.int (if isI x (nrw wd) then (f_need wd (-1) (nI 0) (tn x) (f_fr hd)) else -2)) ∧ ∃ (t0 r0 t1 r1 : Nat) (Sx Sy Sw Sv : MS), HX Sy ∧ HX Sv ∧ w = (nBk zn (zs 50) G.2.1 Sn fi fs pa (some (zd 50)) ++ (sBk zs (zm 50) (zb 50) G.2.1 Ss ++ (mBk zm (zt 50) (zr 50) (zh 50) G.2.1 Sm ++ (hBk zh G.2.1 Sh ++ (tBk zt G.2.1 St ++ (rBk zr G.2.1 Sr ++ (bBk zb G.2.1 Sb ++ (dBk zd (zx 50) (zw 50) G.2.1 Sd qd ++ (mBk zx t0 r0 (zy 50) G.2.1 Sx ++ (hBk zy G.2.1 Sy ++ (mBk zw t1 r1 (zv 50) G.2.1 Sw ++ (hBk zv G.2.1 Sv ++ (R)))))))))))))) := by
  refine Con.mk (own := RX10) (by decide) rfl (Nat.le_of_ble_eq_true rfl) (fun X C => ?_)
  refine j_aload_n 1 C dX10_fresh_0 rfl rfl ?_
  refine Pg_n4 4 C dX10_fresh_1 rfl fl10_20 ?_
  refine Pg_s0 7 C dX10_fresh_4 rfl fl10_61 ?_
  refine Pg_m1 10 C dX10_fresh_7 rfl fl10_78 ?_
  refine j_iload_n 11 C dX10_fresh_10 rfl rfl ?_
  refine Px_rI 14 C dX10_fresh_11 rfl cw10_107 rfl (K5_has (hR.1.trans hW.2.2.1.1) hW.2.2.1.2) rfl (by decide) ⟨Nat.le_refl _, Nat.le_refl _⟩ rfl (Nat.le_of_ble_eq_true rfl) ?_
  refine j_if_eqB 35 17 C dX10_fresh_14 (by decide) rfl (fun c14 => ?_) (fun c14 => ?_)
  · refine j_bipush 37 C dX10_fresh_35 rfl (v := (-2)) (by decide) ?_
    exact j_iret C dX10_fresh_37 ⟨by rw [if_neg c14], _, _, _, _, _, _, _, _, hy, hv, rfl⟩
  · obtain ⟨r, hrw, rfl⟩ := isI_of c14
    have hr12 := (WF_len hW hrw).2.2.1
    refine j_aload_n 18 C dX10_fresh_17 rfl rfl ?_
    refine Pdesk 21 C dX10_fresh_18 rfl (by decide) ⟨Nat.le_refl _, Nat.le_refl _⟩ (Nat.le_of_ble_eq_true rfl) ?_
    refine j_aload_n 22 C dX10_fresh_21 rfl rfl ?_
    refine Pg_n4 25 C dX10_fresh_22 rfl fl10_20 ?_
    refine Pg_s0 28 C dX10_fresh_25 rfl fl10_61 ?_
    refine j_iload_n 29 C dX10_fresh_28 rfl rfl ?_
    refine Pr_DI 32 C dX10_fresh_29 rfl cw10_178 rfl (K1_freshOf hT hR hW hH0 hy (by omega) hrw) rfl (by decide) ⟨Nat.le_refl _, Nat.le_refl _⟩ rfl (Nat.le_of_ble_eq_true rfl) (fun x29 s29 hs29 => ?_)
    obtain ⟨e29, hy29⟩ := hs29
    refine j_goto 37 C dX10_fresh_32 (by decide) ?_
    exact j_iret C dX10_fresh_37 ⟨by rw [if_pos c14, tn_nI (by omega), e29, need_cv _ (nI 0)], _, _, _, _, _, _, _, _, hy29, hv, rfl⟩
theorem K10_freshB (hT : TT (-1) St wd) (hR : RR Sr wd) (hW : WF wd) (hH0 : HR wd Sh hd hr td) (h3 : Sm.1 3 = -1) (h4 : Sm.1 4 = -1) (hhr : hr + 300 ≤ 1000000000) (htd : td + 100 ≤ 1000000000)  : Con l G yX10_fresh cX10_fresh 2 (some .int) 9 10 5119 [.ref (zn 50), .int x] (nBk zn (zs 50) G.2.1 Sn fi fs pa none ++ (sBk zs (zm 50) (zb 50) G.2.1 Ss ++ (mBk zm (zt 50) (zr 50) (zh 50) G.2.1 Sm ++ (hBk zh G.2.1 Sh ++ (tBk zt G.2.1 St ++ (rBk zr G.2.1 Sr ++ (bBk zb G.2.1 Sb ++ (R)))))))) (fun v w => v = some (.int (if isI x (nrw wd) then (f_need wd (-1) (nI 0) (tn x) (f_fr hd)) else -2)) ∧ (w = (nBk zn (zs 50) G.2.1 Sn fi fs pa none ++ (sBk zs (zm 50) (zb 50) G.2.1 Ss ++ (mBk zm (zt 50) (zr 50) (zh 50) G.2.1 Sm ++ (hBk zh G.2.1 Sh ++ (tBk zt G.2.1 St ++ (rBk zr G.2.1 Sr ++ (bBk zb G.2.1 Sb ++ (R)))))))) ∨ ∃ (zd zx zy zw zv : Nat → Nat) (t0 r0 t1 r1 : Nat) (Sx Sy Sw Sv : MS), HX Sy ∧ HX Sv ∧ w = (nBk zn (zs 50) G.2.1 Sn fi fs pa (some (zd 50)) ++ (sBk zs (zm 50) (zb 50) G.2.1 Ss ++ (mBk zm (zt 50) (zr 50) (zh 50) G.2.1 Sm ++ (hBk zh G.2.1 Sh ++ (tBk zt G.2.1 St ++ (rBk zr G.2.1 Sr ++ (bBk zb G.2.1 Sb ++ (dBk zd (zx 50) (zw 50) G.2.1 MS0 (fun _ => none) ++ (mBk zx t0 r0 (zy 50) G.2.1 Sx ++ (hBk zy G.2.1 Sy ++ (mBk zw t1 r1 (zv 50) G.2.1 Sw ++ (hBk zv G.2.1 Sv ++ (R))))))))))))))) := by
  refine Con.mk (own := RX10) (by decide) rfl (Nat.le_of_ble_eq_true rfl) (fun X C => ?_)
  refine j_aload_n 1 C dX10_fresh_0 rfl rfl ?_
  refine Lng_n4 4 C dX10_fresh_1 rfl fl10_20 ?_
  refine Lng_s0 7 C dX10_fresh_4 rfl fl10_61 ?_
  refine Lng_m1 10 C dX10_fresh_7 rfl fl10_78 ?_
  refine j_iload_n 11 C dX10_fresh_10 rfl rfl ?_
  refine Lnx_rI 14 C dX10_fresh_11 rfl cw10_107 rfl (K5_has (hR.1.trans hW.2.2.1.1) hW.2.2.1.2) rfl (by decide) ⟨Nat.zero_le _, Nat.zero_le _⟩ rfl (Nat.le_of_ble_eq_true rfl) ?_
  refine j_if_eqB 35 17 C dX10_fresh_14 (by decide) rfl (fun c14 => ?_) (fun c14 => ?_)
  · refine j_bipush 37 C dX10_fresh_35 rfl (v := (-2)) (by decide) ?_
    refine j_widen 10 5119 (by decide) (by decide) ?_
    exact j_iret C dX10_fresh_37 ⟨by rw [if_neg c14], Or.inl rfl⟩
  · obtain ⟨r, hrw, rfl⟩ := isI_of c14
    have hr12 := (WF_len hW hrw).2.2.1
    refine j_aload_n 18 C dX10_fresh_17 rfl rfl ?_
    refine Ldesk0 21 C dX10_fresh_18 rfl (by decide) (Nat.le_of_ble_eq_true rfl) (fun zd zx zy zw zv => ?_)
    have hy := HX0
    have hv := HX0
    refine j_aload_n 22 C dX10_fresh_21 rfl rfl ?_
    refine Pg_n4 25 C dX10_fresh_22 rfl fl10_20 ?_
    refine Pg_s0 28 C dX10_fresh_25 rfl fl10_61 ?_
    refine j_iload_n 29 C dX10_fresh_28 rfl rfl ?_
    refine Pr_DI 32 C dX10_fresh_29 rfl cw10_178 rfl (K1_freshOf hT hR hW hH0 hy (by omega) hrw) rfl (by decide) ⟨Nat.le_refl _, Nat.le_refl _⟩ rfl (Nat.le_of_ble_eq_true rfl) (fun x29 s29 hs29 => ?_)
    obtain ⟨e29, hy29⟩ := hs29
    refine j_goto 37 C dX10_fresh_32 (by decide) ?_
    exact j_iret C dX10_fresh_37 ⟨by rw [if_pos c14, tn_nI (by omega), e29, need_cv _ (nI 0)], Or.inr ⟨zd, zx, zy, zw, zv, _, _, _, _, _, _, _, _, hy29, hv, rfl⟩⟩
theorem K10_withoutA (hT : TT (-1) St wd) (hR : RR Sr wd) (hW : WF wd) (hH0 : HR wd Sh hd hr td) (h3 : Sm.1 3 = -1) (h4 : Sm.1 4 = -1) (hhr : hr + 300 ≤ 1000000000) (htd : td + 100 ≤ 1000000000) (hy : HX Sy) (hv : HX Sv)  : Con l G yX10_without cX10_without 3 (some .int) 9 0 0 [.ref (zn 50), .int x, .int y] (nBk zn (zs 50) G.2.1 Sn fi fs pa (some (zd 50)) ++ (sBk zs (zm 50) (zb 50) G.2.1 Ss ++ (mBk zm (zt 50) (zr 50) (zh 50) G.2.1 Sm ++ (hBk zh G.2.1 Sh ++ (tBk zt G.2.1 St ++ (rBk zr G.2.1 Sr ++ (bBk zb G.2.1 Sb ++ (dBk zd (zx 50) (zw 50) G.2.1 Sd qd ++ (mBk zx t0 r0 (zy 50) G.2.1 Sx ++ (hBk zy G.2.1 Sy ++ (mBk zw t1 r1 (zv 50) G.2.1 Sw ++ (hBk zv G.2.1 Sv ++ (R))))))))))))) (fun v w => v = some (.int (if isI x (nrw wd) ∧ isI y 4 then f_wo wd (-1) (nI 0) (tn x) (tn y) hd else -2)) ∧ ∃ (t0 r0 t1 r1 : Nat) (Sx Sy Sw Sv : MS), HX Sy ∧ HX Sv ∧ w = (nBk zn (zs 50) G.2.1 Sn fi fs pa (some (zd 50)) ++ (sBk zs (zm 50) (zb 50) G.2.1 Ss ++ (mBk zm (zt 50) (zr 50) (zh 50) G.2.1 Sm ++ (hBk zh G.2.1 Sh ++ (tBk zt G.2.1 St ++ (rBk zr G.2.1 Sr ++ (bBk zb G.2.1 Sb ++ (dBk zd (zx 50) (zw 50) G.2.1 Sd qd ++ (mBk zx t0 r0 (zy 50) G.2.1 Sx ++ (hBk zy G.2.1 Sy ++ (mBk zw t1 r1 (zv 50) G.2.1 Sw ++ (hBk zv G.2.1 Sv ++ (R)))))))))))))) := by
  refine Con.mk (own := RX10) (by decide) rfl (Nat.le_of_ble_eq_true rfl) (fun X C => ?_)
  refine j_aload_n 1 C dX10_without_0 rfl rfl ?_
  refine Pg_n4 4 C dX10_without_1 rfl fl10_20 ?_
  refine Pg_s0 7 C dX10_without_4 rfl fl10_61 ?_
  refine Pg_m1 10 C dX10_without_7 rfl fl10_78 ?_
  refine j_iload_n 11 C dX10_without_10 rfl rfl ?_
  refine Px_rI 14 C dX10_without_11 rfl cw10_107 rfl (K5_has (hR.1.trans hW.2.2.1.1) hW.2.2.1.2) rfl (by decide) ⟨Nat.le_refl _, Nat.le_refl _⟩ rfl (Nat.le_of_ble_eq_true rfl) ?_
  refine j_if_eqB 24 17 C dX10_without_14 (by decide) rfl (fun c14 => ?_) (fun c14 => ?_)
  · refine j_bipush 26 C dX10_without_24 rfl (v := (-2)) (by decide) ?_
    exact j_iret C dX10_without_26 ⟨by rw [if_neg (fun z => c14 z.1)], _, _, _, _, _, _, _, _, hy, hv, rfl⟩
  · obtain ⟨r, hrw, rfl⟩ := isI_of c14
    have hr12 := (WF_len hW hrw).2.2.1
    refine j_iload_n 18 C dX10_without_17 rfl rfl ?_
    refine j_sI 21 C dX10_without_18 rfl cw10_135 K10_isSort rfl (by decide) ⟨Nat.le_refl _, Nat.le_refl _⟩ rfl (Nat.le_of_ble_eq_true rfl) ?_
    refine j_if_neB 27 24 C dX10_without_21 (by decide) rfl (fun c21 => ?_) (fun c21 => ?_)
    · obtain ⟨s, hs4, rfl⟩ := isI_of c21
      refine j_aload_n 28 C dX10_without_27 rfl rfl ?_
      refine Pdesk 31 C dX10_without_28 rfl (by decide) ⟨Nat.le_refl _, Nat.le_refl _⟩ (Nat.le_of_ble_eq_true rfl) ?_
      refine j_aload_n 32 C dX10_without_31 rfl rfl ?_
      refine Pg_n4 35 C dX10_without_32 rfl fl10_20 ?_
      refine Pg_s0 38 C dX10_without_35 rfl fl10_61 ?_
      refine j_iload_n 39 C dX10_without_38 rfl rfl ?_
      refine j_iload_n 40 C dX10_without_39 rfl rfl ?_
      refine Pr_DI 43 C dX10_without_40 rfl cw10_189 rfl (K1_needsWithout hT hR hW hH0 hy (by omega) (by omega) hrw hs4) rfl (by decide) ⟨Nat.le_refl _, Nat.le_refl _⟩ rfl (Nat.le_of_ble_eq_true rfl) (fun x40 s40 hs40 => ?_)
      obtain ⟨e40, hy40⟩ := hs40
      exact j_iret C dX10_without_43 ⟨by rw [if_pos ⟨c14, c21⟩, tn_nI (by omega), tn_nI (by omega), e40, need_cv _ (nI 0)]; rfl, _, _, _, _, _, _, _, _, hy40, hv, rfl⟩
    · refine j_bipush 26 C dX10_without_24 rfl (v := (-2)) (by decide) ?_
      exact j_iret C dX10_without_26 ⟨by rw [if_neg (fun z => c21 z.2)], _, _, _, _, _, _, _, _, hy, hv, rfl⟩
theorem K10_withoutB (hT : TT (-1) St wd) (hR : RR Sr wd) (hW : WF wd) (hH0 : HR wd Sh hd hr td) (h3 : Sm.1 3 = -1) (h4 : Sm.1 4 = -1) (hhr : hr + 300 ≤ 1000000000) (htd : td + 100 ≤ 1000000000)  : Con l G yX10_without cX10_without 3 (some .int) 9 10 5119 [.ref (zn 50), .int x, .int y] (nBk zn (zs 50) G.2.1 Sn fi fs pa none ++ (sBk zs (zm 50) (zb 50) G.2.1 Ss ++ (mBk zm (zt 50) (zr 50) (zh 50) G.2.1 Sm ++ (hBk zh G.2.1 Sh ++ (tBk zt G.2.1 St ++ (rBk zr G.2.1 Sr ++ (bBk zb G.2.1 Sb ++ (R)))))))) (fun v w => v = some (.int (if isI x (nrw wd) ∧ isI y 4 then f_wo wd (-1) (nI 0) (tn x) (tn y) hd else -2)) ∧ (w = (nBk zn (zs 50) G.2.1 Sn fi fs pa none ++ (sBk zs (zm 50) (zb 50) G.2.1 Ss ++ (mBk zm (zt 50) (zr 50) (zh 50) G.2.1 Sm ++ (hBk zh G.2.1 Sh ++ (tBk zt G.2.1 St ++ (rBk zr G.2.1 Sr ++ (bBk zb G.2.1 Sb ++ (R)))))))) ∨ ∃ (zd zx zy zw zv : Nat → Nat) (t0 r0 t1 r1 : Nat) (Sx Sy Sw Sv : MS), HX Sy ∧ HX Sv ∧ w = (nBk zn (zs 50) G.2.1 Sn fi fs pa (some (zd 50)) ++ (sBk zs (zm 50) (zb 50) G.2.1 Ss ++ (mBk zm (zt 50) (zr 50) (zh 50) G.2.1 Sm ++ (hBk zh G.2.1 Sh ++ (tBk zt G.2.1 St ++ (rBk zr G.2.1 Sr ++ (bBk zb G.2.1 Sb ++ (dBk zd (zx 50) (zw 50) G.2.1 MS0 (fun _ => none) ++ (mBk zx t0 r0 (zy 50) G.2.1 Sx ++ (hBk zy G.2.1 Sy ++ (mBk zw t1 r1 (zv 50) G.2.1 Sw ++ (hBk zv G.2.1 Sv ++ (R))))))))))))))) := by
  refine Con.mk (own := RX10) (by decide) rfl (Nat.le_of_ble_eq_true rfl) (fun X C => ?_)
  refine j_aload_n 1 C dX10_without_0 rfl rfl ?_
  refine Lng_n4 4 C dX10_without_1 rfl fl10_20 ?_
  refine Lng_s0 7 C dX10_without_4 rfl fl10_61 ?_
  refine Lng_m1 10 C dX10_without_7 rfl fl10_78 ?_
  refine j_iload_n 11 C dX10_without_10 rfl rfl ?_
  refine Lnx_rI 14 C dX10_without_11 rfl cw10_107 rfl (K5_has (hR.1.trans hW.2.2.1.1) hW.2.2.1.2) rfl (by decide) ⟨Nat.zero_le _, Nat.zero_le _⟩ rfl (Nat.le_of_ble_eq_true rfl) ?_
  refine j_if_eqB 24 17 C dX10_without_14 (by decide) rfl (fun c14 => ?_) (fun c14 => ?_)
  · refine j_bipush 26 C dX10_without_24 rfl (v := (-2)) (by decide) ?_
    refine j_widen 10 5119 (by decide) (by decide) ?_
    exact j_iret C dX10_without_26 ⟨by rw [if_neg (fun z => c14 z.1)], Or.inl rfl⟩
  · obtain ⟨r, hrw, rfl⟩ := isI_of c14
    have hr12 := (WF_len hW hrw).2.2.1
    refine j_iload_n 18 C dX10_without_17 rfl rfl ?_
    refine j_sI 21 C dX10_without_18 rfl cw10_135 K10_isSort rfl (by decide) ⟨Nat.zero_le _, Nat.zero_le _⟩ rfl (Nat.le_of_ble_eq_true rfl) ?_
    refine j_if_neB 27 24 C dX10_without_21 (by decide) rfl (fun c21 => ?_) (fun c21 => ?_)
    · obtain ⟨s, hs4, rfl⟩ := isI_of c21
      refine j_aload_n 28 C dX10_without_27 rfl rfl ?_
      refine Ldesk0 31 C dX10_without_28 rfl (by decide) (Nat.le_of_ble_eq_true rfl) (fun zd zx zy zw zv => ?_)
      have hy := HX0
      have hv := HX0
      refine j_aload_n 32 C dX10_without_31 rfl rfl ?_
      refine Pg_n4 35 C dX10_without_32 rfl fl10_20 ?_
      refine Pg_s0 38 C dX10_without_35 rfl fl10_61 ?_
      refine j_iload_n 39 C dX10_without_38 rfl rfl ?_
      refine j_iload_n 40 C dX10_without_39 rfl rfl ?_
      refine Pr_DI 43 C dX10_without_40 rfl cw10_189 rfl (K1_needsWithout hT hR hW hH0 hy (by omega) (by omega) hrw hs4) rfl (by decide) ⟨Nat.le_refl _, Nat.le_refl _⟩ rfl (Nat.le_of_ble_eq_true rfl) (fun x40 s40 hs40 => ?_)
      obtain ⟨e40, hy40⟩ := hs40
      exact j_iret C dX10_without_43 ⟨by rw [if_pos ⟨c14, c21⟩, tn_nI (by omega), tn_nI (by omega), e40, need_cv _ (nI 0)]; rfl, Or.inr ⟨zd, zx, zy, zw, zv, _, _, _, _, _, _, _, _, hy40, hv, rfl⟩⟩
    · refine j_bipush 26 C dX10_without_24 rfl (v := (-2)) (by decide) ?_
      refine j_widen 10 5119 (by decide) (by decide) ?_
      exact j_iret C dX10_without_26 ⟨by rw [if_neg (fun z => c21 z.2)], Or.inl rfl⟩
theorem K10_afterA (hT : TT (-1) St wd) (hR : RR Sr wd) (hW : WF wd) (hH0 : HR wd Sh hd hr td) (h3 : Sm.1 3 = -1) (h4 : Sm.1 4 = -1) (hhr : hr + 300 ≤ 1000000000) (htd : td + 100 ≤ 1000000000) (hy : HX Sy) (hv : HX Sv)  : Con l G yX10_after cX10_after 4 (some .int) 9 0 0 [.ref (zn 50), .int x, .int y] (nBk zn (zs 50) G.2.1 Sn fi fs pa (some (zd 50)) ++ (sBk zs (zm 50) (zb 50) G.2.1 Ss ++ (mBk zm (zt 50) (zr 50) (zh 50) G.2.1 Sm ++ (hBk zh G.2.1 Sh ++ (tBk zt G.2.1 St ++ (rBk zr G.2.1 Sr ++ (bBk zb G.2.1 Sb ++ (dBk zd (zx 50) (zw 50) G.2.1 Sd qd ++ (mBk zx t0 r0 (zy 50) G.2.1 Sx ++ (hBk zy G.2.1 Sy ++ (mBk zw t1 r1 (zv 50) G.2.1 Sw ++ (hBk zv G.2.1 Sv ++ (R))))))))))))) (fun v w => v = some (.int (if isI x (nrw wd) ∧ isI y 201 then f_need wd (-1) (nI 0) (tn x) (f_hours wd (-1) (nI 0) (tn y) hd) else -2)) ∧ ∃ (t0 r0 t1 r1 : Nat) (Sx Sy Sw Sv : MS), HX Sy ∧ HX Sv ∧ w = (nBk zn (zs 50) G.2.1 Sn fi fs pa (some (zd 50)) ++ (sBk zs (zm 50) (zb 50) G.2.1 Ss ++ (mBk zm (zt 50) (zr 50) (zh 50) G.2.1 Sm ++ (hBk zh G.2.1 Sh ++ (tBk zt G.2.1 St ++ (rBk zr G.2.1 Sr ++ (bBk zb G.2.1 Sb ++ (dBk zd (zx 50) (zw 50) G.2.1 Sd qd ++ (mBk zx t0 r0 (zy 50) G.2.1 Sx ++ (hBk zy G.2.1 Sy ++ (mBk zw t1 r1 (zv 50) G.2.1 Sw ++ (hBk zv G.2.1 Sv ++ (R)))))))))))))) := by
  refine Con.mk (own := RX10) (by decide) rfl (Nat.le_of_ble_eq_true rfl) (fun X C => ?_)
  refine j_aload_n 1 C dX10_after_0 rfl rfl ?_
  refine Pg_n4 4 C dX10_after_1 rfl fl10_20 ?_
  refine Pg_s0 7 C dX10_after_4 rfl fl10_61 ?_
  refine Pg_m1 10 C dX10_after_7 rfl fl10_78 ?_
  refine j_iload_n 11 C dX10_after_10 rfl rfl ?_
  refine Px_rI 14 C dX10_after_11 rfl cw10_107 rfl (K5_has (hR.1.trans hW.2.2.1.1) hW.2.2.1.2) rfl (by decide) ⟨Nat.le_refl _, Nat.le_refl _⟩ rfl (Nat.le_of_ble_eq_true rfl) ?_
  refine j_if_eqB 25 17 C dX10_after_14 (by decide) rfl (fun c14 => ?_) (fun c14 => ?_)
  · refine j_bipush 27 C dX10_after_25 rfl (v := (-2)) (by decide) ?_
    exact j_iret C dX10_after_27 ⟨by rw [if_neg (fun z => c14 z.1)], _, _, _, _, _, _, _, _, hy, hv, rfl⟩
  · obtain ⟨r, hrw, rfl⟩ := isI_of c14
    have hr12 := (WF_len hW hrw).2.2.1
    refine j_iload_n 18 C dX10_after_17 rfl rfl ?_
    refine j_i2l 19 C dX10_after_18 rfl ?_
    refine j_sI 22 C dX10_after_19 rfl cw10_120 K10_isWait rfl (by decide) ⟨Nat.le_refl _, Nat.le_refl _⟩ rfl (Nat.le_of_ble_eq_true rfl) ?_
    refine j_if_neB 28 25 C dX10_after_22 (by decide) rfl (fun c22 => ?_) (fun c22 => ?_)
    · obtain ⟨q, hq, rfl⟩ := isI_of c22
      refine j_aload_n 29 C dX10_after_28 rfl rfl ?_
      refine Pdesk 32 C dX10_after_29 rfl (by decide) ⟨Nat.le_refl _, Nat.le_refl _⟩ (Nat.le_of_ble_eq_true rfl) ?_
      refine j_aload_n 33 C dX10_after_32 rfl rfl ?_
      refine Pg_n4 36 C dX10_after_33 rfl fl10_20 ?_
      refine Pg_s0 39 C dX10_after_36 rfl fl10_61 ?_
      refine Pr_WR 42 C dX10_after_39 rfl cw10_182 rfl (K1_walkerFrom hH0 hv) rfl (by decide) ⟨Nat.le_refl _, Nat.le_refl _⟩ rfl (Nat.le_of_ble_eq_true rfl) (fun s39 hs39 => ?_)
      refine j_astore_n 43 C dX10_after_42 rfl rfl (by decide) ?_
      refine j_aload_n 44 C dX10_after_43 rfl rfl ?_
      refine j_iload_n 45 C dX10_after_44 rfl rfl ?_
      refine PWr_VV 48 C dX10_after_45 rfl cw10_124 rfl (K3_passHours (cl := -1) hT hW hs39 rfl rfl (by omega) (by omega)) rfl (by decide) ⟨Nat.le_refl _, Nat.le_refl _⟩ rfl (Nat.le_of_ble_eq_true rfl) (fun s45 hs45 => ?_)
      obtain ⟨t45, ht45, -, hw45⟩ := hs45
      refine j_aload_n 49 C dX10_after_48 rfl rfl ?_
      refine Pdesk 52 C dX10_after_49 rfl (by decide) ⟨Nat.le_refl _, Nat.le_refl _⟩ (Nat.le_of_ble_eq_true rfl) ?_
      refine j_aload_n 53 C dX10_after_52 rfl rfl ?_
      refine j_iload_n 54 C dX10_after_53 rfl rfl ?_
      refine PWr_DI 57 C dX10_after_54 rfl cw10_166 rfl (K1_needsOf hT hR hW hw45 hy (by omega) (by omega) hrw) rfl (by decide) ⟨Nat.le_refl _, Nat.le_refl _⟩ rfl (Nat.le_of_ble_eq_true rfl) (fun x54 s54 hs54 => ?_)
      obtain ⟨e54, hy54⟩ := hs54
      exact j_iret C dX10_after_57 ⟨by rw [if_pos ⟨c14, c22⟩, tn_nI (by omega), tn_nI (by omega), e54, need_cv _ (nI 0), hours_cv _ (nI 0)], _, _, _, _, _, _, _, _, hy54, (HR_X hw45), rfl⟩
    · refine j_bipush 27 C dX10_after_25 rfl (v := (-2)) (by decide) ?_
      exact j_iret C dX10_after_27 ⟨by rw [if_neg (fun z => c22 z.2)], _, _, _, _, _, _, _, _, hy, hv, rfl⟩
theorem K10_afterB (hT : TT (-1) St wd) (hR : RR Sr wd) (hW : WF wd) (hH0 : HR wd Sh hd hr td) (h3 : Sm.1 3 = -1) (h4 : Sm.1 4 = -1) (hhr : hr + 300 ≤ 1000000000) (htd : td + 100 ≤ 1000000000)  : Con l G yX10_after cX10_after 4 (some .int) 9 10 5119 [.ref (zn 50), .int x, .int y] (nBk zn (zs 50) G.2.1 Sn fi fs pa none ++ (sBk zs (zm 50) (zb 50) G.2.1 Ss ++ (mBk zm (zt 50) (zr 50) (zh 50) G.2.1 Sm ++ (hBk zh G.2.1 Sh ++ (tBk zt G.2.1 St ++ (rBk zr G.2.1 Sr ++ (bBk zb G.2.1 Sb ++ (R)))))))) (fun v w => v = some (.int (if isI x (nrw wd) ∧ isI y 201 then f_need wd (-1) (nI 0) (tn x) (f_hours wd (-1) (nI 0) (tn y) hd) else -2)) ∧ (w = (nBk zn (zs 50) G.2.1 Sn fi fs pa none ++ (sBk zs (zm 50) (zb 50) G.2.1 Ss ++ (mBk zm (zt 50) (zr 50) (zh 50) G.2.1 Sm ++ (hBk zh G.2.1 Sh ++ (tBk zt G.2.1 St ++ (rBk zr G.2.1 Sr ++ (bBk zb G.2.1 Sb ++ (R)))))))) ∨ ∃ (zd zx zy zw zv : Nat → Nat) (t0 r0 t1 r1 : Nat) (Sx Sy Sw Sv : MS), HX Sy ∧ HX Sv ∧ w = (nBk zn (zs 50) G.2.1 Sn fi fs pa (some (zd 50)) ++ (sBk zs (zm 50) (zb 50) G.2.1 Ss ++ (mBk zm (zt 50) (zr 50) (zh 50) G.2.1 Sm ++ (hBk zh G.2.1 Sh ++ (tBk zt G.2.1 St ++ (rBk zr G.2.1 Sr ++ (bBk zb G.2.1 Sb ++ (dBk zd (zx 50) (zw 50) G.2.1 MS0 (fun _ => none) ++ (mBk zx t0 r0 (zy 50) G.2.1 Sx ++ (hBk zy G.2.1 Sy ++ (mBk zw t1 r1 (zv 50) G.2.1 Sw ++ (hBk zv G.2.1 Sv ++ (R))))))))))))))) := by
  refine Con.mk (own := RX10) (by decide) rfl (Nat.le_of_ble_eq_true rfl) (fun X C => ?_)
  refine j_aload_n 1 C dX10_after_0 rfl rfl ?_
  refine Lng_n4 4 C dX10_after_1 rfl fl10_20 ?_
  refine Lng_s0 7 C dX10_after_4 rfl fl10_61 ?_
  refine Lng_m1 10 C dX10_after_7 rfl fl10_78 ?_
  refine j_iload_n 11 C dX10_after_10 rfl rfl ?_
  refine Lnx_rI 14 C dX10_after_11 rfl cw10_107 rfl (K5_has (hR.1.trans hW.2.2.1.1) hW.2.2.1.2) rfl (by decide) ⟨Nat.zero_le _, Nat.zero_le _⟩ rfl (Nat.le_of_ble_eq_true rfl) ?_
  refine j_if_eqB 25 17 C dX10_after_14 (by decide) rfl (fun c14 => ?_) (fun c14 => ?_)
  · refine j_bipush 27 C dX10_after_25 rfl (v := (-2)) (by decide) ?_
    refine j_widen 10 5119 (by decide) (by decide) ?_
    exact j_iret C dX10_after_27 ⟨by rw [if_neg (fun z => c14 z.1)], Or.inl rfl⟩
  · obtain ⟨r, hrw, rfl⟩ := isI_of c14
    have hr12 := (WF_len hW hrw).2.2.1
    refine j_iload_n 18 C dX10_after_17 rfl rfl ?_
    refine j_i2l 19 C dX10_after_18 rfl ?_
    refine j_sI 22 C dX10_after_19 rfl cw10_120 K10_isWait rfl (by decide) ⟨Nat.zero_le _, Nat.zero_le _⟩ rfl (Nat.le_of_ble_eq_true rfl) ?_
    refine j_if_neB 28 25 C dX10_after_22 (by decide) rfl (fun c22 => ?_) (fun c22 => ?_)
    · obtain ⟨q, hq, rfl⟩ := isI_of c22
      refine j_aload_n 29 C dX10_after_28 rfl rfl ?_
      refine Ldesk0 32 C dX10_after_29 rfl (by decide) (Nat.le_of_ble_eq_true rfl) (fun zd zx zy zw zv => ?_)
      have hy := HX0
      have hv := HX0
      refine j_aload_n 33 C dX10_after_32 rfl rfl ?_
      refine Pg_n4 36 C dX10_after_33 rfl fl10_20 ?_
      refine Pg_s0 39 C dX10_after_36 rfl fl10_61 ?_
      refine Pr_WR 42 C dX10_after_39 rfl cw10_182 rfl (K1_walkerFrom hH0 hv) rfl (by decide) ⟨Nat.le_refl _, Nat.le_refl _⟩ rfl (Nat.le_of_ble_eq_true rfl) (fun s39 hs39 => ?_)
      refine j_astore_n 43 C dX10_after_42 rfl rfl (by decide) ?_
      refine j_aload_n 44 C dX10_after_43 rfl rfl ?_
      refine j_iload_n 45 C dX10_after_44 rfl rfl ?_
      refine PWr_VV 48 C dX10_after_45 rfl cw10_124 rfl (K3_passHours (cl := -1) hT hW hs39 rfl rfl (by omega) (by omega)) rfl (by decide) ⟨Nat.le_refl _, Nat.le_refl _⟩ rfl (Nat.le_of_ble_eq_true rfl) (fun s45 hs45 => ?_)
      obtain ⟨t45, ht45, -, hw45⟩ := hs45
      refine j_aload_n 49 C dX10_after_48 rfl rfl ?_
      refine Pdesk 52 C dX10_after_49 rfl (by decide) ⟨Nat.le_refl _, Nat.le_refl _⟩ (Nat.le_of_ble_eq_true rfl) ?_
      refine j_aload_n 53 C dX10_after_52 rfl rfl ?_
      refine j_iload_n 54 C dX10_after_53 rfl rfl ?_
      refine PWr_DI 57 C dX10_after_54 rfl cw10_166 rfl (K1_needsOf hT hR hW hw45 hy (by omega) (by omega) hrw) rfl (by decide) ⟨Nat.le_refl _, Nat.le_refl _⟩ rfl (Nat.le_of_ble_eq_true rfl) (fun x54 s54 hs54 => ?_)
      obtain ⟨e54, hy54⟩ := hs54
      exact j_iret C dX10_after_57 ⟨by rw [if_pos ⟨c14, c22⟩, tn_nI (by omega), tn_nI (by omega), e54, need_cv _ (nI 0), hours_cv _ (nI 0)], Or.inr ⟨zd, zx, zy, zw, zv, _, _, _, _, _, _, _, _, hy54, (HR_X hw45), rfl⟩⟩
    · refine j_bipush 27 C dX10_after_25 rfl (v := (-2)) (by decide) ?_
      refine j_widen 10 5119 (by decide) (by decide) ?_
      exact j_iret C dX10_after_27 ⟨by rw [if_neg (fun z => c22 z.2)], Or.inl rfl⟩
end SN3b
