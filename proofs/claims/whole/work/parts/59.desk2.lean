set_option maxHeartbeats 4000000 in
theorem K1_init {l : Launch} {G : GG} {o : Nat} {zm : Nat → Nat} {t r hh : Nat} {Sm : MS} : Con l G yX1_init cX1_init 2 none 3 9 5114 [.ref o, .ref (zm 50)] ((o, .inr (1, [.int 0, .int 0, .null, .null, .null])) :: mBk zm t r hh G.2.1 Sm) (fun v w => v = none ∧ ∃ zd zx zy zw zv : Nat → Nat, zd 50 = o ∧ w.Perm (mBk zm t r hh G.2.1 Sm ++ (dBk zd (zx 50) (zw 50) G.2.1 MS0 (fun _ => none) ++ (mBk zx t r (zy 50) G.2.1 SM0 ++ (hBk zy G.2.1 MS0 ++ (mBk zw t r (zv 50) G.2.1 SM0 ++ hBk zv G.2.1 MS0)))))) := by
  refine Con.mkI (own := RX1) (by decide) rfl rfl (Nat.le_of_ble_eq_true rfl) (fun X C I => ?_)
  refine j_aload_n 1 C dX1_init_0 rfl rfl ?_
  refine j_objInit 4 C dX1_init_1 rfl oi1_3 oiI oiC (by decide) (Nat.le_of_ble_eq_true rfl) ?_
  refine j_aload_n 5 C dX1_init_4 rfl rfl ?_
  refine j_iconst 6 C dX1_init_5 rfl (v := nI 4) (by decide) ?_
  refine j_newqMind 9 C dX1_init_6 rfl rfl (by decide) cl1_9 ⟨by decide, by decide⟩ (fun a6 => ?_)
  refine j_ws ((o, .inr (1, [.int 0, .int 0, .null, .null, .null])) :: (mBk zm t r hh G.2.1 Sm ++ ((a6, .inl (G.2.1 4, 4, .inr (.inr (.inr (.inr (fun _ => none)))))) :: ([]))) : va_W) rfl ?_
  refine j_putF 12 tyX1 I C dX1_init_9 rfl 0 rfl rfl ingX1 tyX1_ok nmX1 4 (by decide) fl1_11 rfl rfl rfl rfl (by show 4 < 5; decide) (ws' := ((o, .inr (1, [.int 0, .int 0, .null, .null, .ref a6])) :: (mBk zm t r hh G.2.1 Sm ++ ((a6, .inl (G.2.1 4, 4, .inr (.inr (.inr (.inr (fun _ => none)))))) :: ([]))) : va_W)) rfl ?_
  refine j_aload_n 13 C dX1_init_12 rfl rfl ?_
  refine j_newc 16 (ci := 3) tyX3 [.null, .null, .null, .int 0, .int 0, .int 0] C dX1_init_13 rfl rfl ingX3 tyX3_ok cl1_9 inst3 ini3 (fun j hj => by rcases (show j = 0 ∨ j = 1 ∨ j = 2 ∨ j = 3 ∨ j = 4 ∨ j = 5 by omega) with rfl | rfl | rfl | rfl | rfl | rfl <;> rfl) ⟨by decide, by decide⟩ (fun a13 => ?_)
  refine j_ws ((o, .inr (1, [.int 0, .int 0, .null, .null, .ref a6])) :: (mBk zm t r hh G.2.1 Sm ++ ((a6, .inl (G.2.1 4, 4, .inr (.inr (.inr (.inr (fun _ => none)))))) :: ((a13, .inr (3, [.null, .null, .null, .int 0, .int 0, .int 0])) :: ([])))) : va_W) rfl ?_
  refine j_dup 17 C dX1_init_16 rfl rfl ?_
  refine j_aload_n 18 C dX1_init_17 rfl rfl ?_
  refine j_get 21 C dX1_init_18 rfl 1 rfl rfl ingX3 0 (by decide) fl1_17 rfl ?_
  refine j_aload_n 22 C dX1_init_21 rfl rfl ?_
  refine j_get 25 C dX1_init_22 rfl 1 rfl rfl ingX3 1 (by decide) fl1_21 rfl ?_
  refine j_callMI 28 C dX1_init_25 rfl cw1_25 rfl K3_init rfl ⟨by decide, by decide, by decide⟩ rfl (Nat.le_of_ble_eq_true rfl) ((o, .inr (1, [.int 0, .int 0, .null, .null, .ref a6])) :: (mBk zm t r hh G.2.1 Sm ++ ((a6, .inl (G.2.1 4, 4, .inr (.inr (.inr (.inr (fun _ => none)))))) :: ([])))) ([]) rfl 0 rfl (ci := 3) (T := TX3) (N := 6) rfl (fun v w hp => ?_)
  obtain ⟨rfl, zm25, zh25, hz25, rfl⟩ := hp
  subst hz25
  refine j_ws ((o, .inr (1, [.int 0, .int 0, .null, .null, .ref a6])) :: (mBk zm t r hh G.2.1 Sm ++ ((a6, .inl (G.2.1 4, 4, .inr (.inr (.inr (.inr (fun _ => none)))))) :: ((mBk zm25 t r (zh25 50) G.2.1 SM0 ++ hBk zh25 G.2.1 MS0) ++ ([])))) : va_W) rfl ?_
  refine j_putF 31 tyX1 I C dX1_init_28 rfl 0 rfl rfl ingX1 tyX1_ok nmX1 2 (by decide) fl1_28 rfl rfl rfl rfl (by show 2 < 5; decide) (ws' := ((o, .inr (1, [.int 0, .int 0, .ref (zm25 50), .null, .ref a6])) :: (mBk zm t r hh G.2.1 Sm ++ ((a6, .inl (G.2.1 4, 4, .inr (.inr (.inr (.inr (fun _ => none)))))) :: ((mBk zm25 t r (zh25 50) G.2.1 SM0 ++ hBk zh25 G.2.1 MS0) ++ ([])))) : va_W)) rfl ?_
  refine j_aload_n 32 C dX1_init_31 rfl rfl ?_
  refine j_newc 35 (ci := 3) tyX3 [.null, .null, .null, .int 0, .int 0, .int 0] C dX1_init_32 rfl rfl ingX3 tyX3_ok cl1_9 inst3 ini3 (fun j hj => by rcases (show j = 0 ∨ j = 1 ∨ j = 2 ∨ j = 3 ∨ j = 4 ∨ j = 5 by omega) with rfl | rfl | rfl | rfl | rfl | rfl <;> rfl) ⟨by decide, by decide⟩ (fun a32 => ?_)
  refine j_ws ((o, .inr (1, [.int 0, .int 0, .ref (zm25 50), .null, .ref a6])) :: (mBk zm t r hh G.2.1 Sm ++ ((a6, .inl (G.2.1 4, 4, .inr (.inr (.inr (.inr (fun _ => none)))))) :: ((mBk zm25 t r (zh25 50) G.2.1 SM0 ++ hBk zh25 G.2.1 MS0) ++ ((a32, .inr (3, [.null, .null, .null, .int 0, .int 0, .int 0])) :: ([]))))) : va_W) rfl ?_
  refine j_dup 36 C dX1_init_35 rfl rfl ?_
  refine j_aload_n 37 C dX1_init_36 rfl rfl ?_
  refine j_get 40 C dX1_init_37 rfl 1 rfl rfl ingX3 0 (by decide) fl1_17 rfl ?_
  refine j_aload_n 41 C dX1_init_40 rfl rfl ?_
  refine j_get 44 C dX1_init_41 rfl 1 rfl rfl ingX3 1 (by decide) fl1_21 rfl ?_
  refine j_callMI 47 C dX1_init_44 rfl cw1_25 rfl K3_init rfl ⟨by decide, by decide, by decide⟩ rfl (Nat.le_of_ble_eq_true rfl) ((o, .inr (1, [.int 0, .int 0, .ref (zm25 50), .null, .ref a6])) :: (mBk zm t r hh G.2.1 Sm ++ ((a6, .inl (G.2.1 4, 4, .inr (.inr (.inr (.inr (fun _ => none)))))) :: ((mBk zm25 t r (zh25 50) G.2.1 SM0 ++ hBk zh25 G.2.1 MS0) ++ ([]))))) ([]) rfl 0 rfl (ci := 3) (T := TX3) (N := 6) rfl (fun v w hp => ?_)
  obtain ⟨rfl, zm44, zh44, hz44, rfl⟩ := hp
  subst hz44
  refine j_ws ((o, .inr (1, [.int 0, .int 0, .ref (zm25 50), .null, .ref a6])) :: (mBk zm t r hh G.2.1 Sm ++ ((a6, .inl (G.2.1 4, 4, .inr (.inr (.inr (.inr (fun _ => none)))))) :: ((mBk zm25 t r (zh25 50) G.2.1 SM0 ++ hBk zh25 G.2.1 MS0) ++ ((mBk zm44 t r (zh44 50) G.2.1 SM0 ++ hBk zh44 G.2.1 MS0) ++ ([]))))) : va_W) rfl ?_
  refine j_putF 50 tyX1 I C dX1_init_47 rfl 0 rfl rfl ingX1 tyX1_ok nmX1 3 (by decide) fl1_32 rfl rfl rfl rfl (by show 3 < 5; decide) (ws' := ((o, .inr (1, [.int 0, .int 0, .ref (zm25 50), .ref (zm44 50), .ref a6])) :: (mBk zm t r hh G.2.1 Sm ++ ((a6, .inl (G.2.1 4, 4, .inr (.inr (.inr (.inr (fun _ => none)))))) :: ((mBk zm25 t r (zh25 50) G.2.1 SM0 ++ hBk zh25 G.2.1 MS0) ++ ((mBk zm44 t r (zh44 50) G.2.1 SM0 ++ hBk zh44 G.2.1 MS0) ++ ([]))))) : va_W)) rfl ?_
  exact j_vret C dX1_init_50 ⟨rfl, (fun i => if i = 50 then o else if i = 4 then a6 else 0), zm25, zh25, zm44, zh44, rfl, List.Perm.swap _ _ _⟩
theorem fold_tail {R1 R2 : va_W} (h : R1.Perm R2) : ∀ l : List va_W, (l.foldr (· ++ ·) R1).Perm (l.foldr (· ++ ·) R2)
  | [] => h
  | b :: l => List.Perm.append_left b (fold_tail h l)
section SDk
variable {l : Launch} {G : GG} {zn zs zm zh zt zr zb zd zx zy zw zv : Nat → Nat} {Sn Ss Sm Sh St Sr Sb Sd Sx Sy Sw Sv : MS} {r0 r1 t0 t1 : Nat} {fi fs : Nat → Option Nat} {pa : Option Nat} {qd : Nat → Option Nat} {R : va_W}
def pR (a : Nat) (w' : va_W) : Option Value → va_W → Prop := fun v w => v = some (.ref a) ∧ w = w'
theorem K10_desk  : Con l G yX10_desk cX10_desk 1 (some (.object "NonsenseRows$Desk")) 1 0 0 [.ref (zn 50)] (nBk zn (zs 50) G.2.1 Sn fi fs pa (some (zd 50)) ++ (sBk zs (zm 50) (zb 50) G.2.1 Ss ++ (mBk zm (zt 50) (zr 50) (zh 50) G.2.1 Sm ++ (hBk zh G.2.1 Sh ++ (tBk zt G.2.1 St ++ (rBk zr G.2.1 Sr ++ (bBk zb G.2.1 Sb ++ (dBk zd (zx 50) (zw 50) G.2.1 Sd qd ++ (mBk zx t0 r0 (zy 50) G.2.1 Sx ++ (hBk zy G.2.1 Sy ++ (mBk zw t1 r1 (zv 50) G.2.1 Sw ++ (hBk zv G.2.1 Sv ++ (R))))))))))))) (pR (zd 50) (nBk zn (zs 50) G.2.1 Sn fi fs pa (some (zd 50)) ++ (sBk zs (zm 50) (zb 50) G.2.1 Ss ++ (mBk zm (zt 50) (zr 50) (zh 50) G.2.1 Sm ++ (hBk zh G.2.1 Sh ++ (tBk zt G.2.1 St ++ (rBk zr G.2.1 Sr ++ (bBk zb G.2.1 Sb ++ (dBk zd (zx 50) (zw 50) G.2.1 Sd qd ++ (mBk zx t0 r0 (zy 50) G.2.1 Sx ++ (hBk zy G.2.1 Sy ++ (mBk zw t1 r1 (zv 50) G.2.1 Sw ++ (hBk zv G.2.1 Sv ++ (R)))))))))))))) := by
  refine Con.mk (own := RX10) (by decide) rfl (Nat.le_of_ble_eq_true rfl) (fun X C => ?_)
  refine j_aload_n 1 C dX10_desk_0 rfl rfl ?_
  refine Pg_n8 4 C dX10_desk_1 rfl fl10_172 ?_
  refine j_ifnonnullR 25 C dX10_desk_4 (by decide) ?_
  refine j_aload_n 26 C dX10_desk_25 rfl rfl ?_
  refine Pg_n8 29 C dX10_desk_26 rfl fl10_172 ?_
  exact j_aret C dX10_desk_29 ⟨rfl, rfl⟩
theorem K10_desk0 : Con l G yX10_desk cX10_desk 1 (some (.object "NonsenseRows$Desk")) 4 10 5119 [.ref (zn 50)] (nBk zn (zs 50) G.2.1 Sn fi fs pa none ++ (sBk zs (zm 50) (zb 50) G.2.1 Ss ++ (mBk zm (zt 50) (zr 50) (zh 50) G.2.1 Sm ++ (hBk zh G.2.1 Sh ++ (tBk zt G.2.1 St ++ (rBk zr G.2.1 Sr ++ (bBk zb G.2.1 Sb ++ (R)))))))) (fun v w => ∃ zd zx zy zw zv : Nat → Nat, v = some (.ref (zd 50)) ∧ w = (nBk zn (zs 50) G.2.1 Sn fi fs pa (some (zd 50)) ++ (sBk zs (zm 50) (zb 50) G.2.1 Ss ++ (mBk zm (zt 50) (zr 50) (zh 50) G.2.1 Sm ++ (hBk zh G.2.1 Sh ++ (tBk zt G.2.1 St ++ (rBk zr G.2.1 Sr ++ (bBk zb G.2.1 Sb ++ (dBk zd (zx 50) (zw 50) G.2.1 MS0 (fun _ => none) ++ (mBk zx (zt 50) (zr 50) (zy 50) G.2.1 SM0 ++ (hBk zy G.2.1 MS0 ++ (mBk zw (zt 50) (zr 50) (zv 50) G.2.1 SM0 ++ (hBk zv G.2.1 MS0 ++ (R)))))))))))))) := by
  refine Con.mk (own := RX10) (by decide) rfl (Nat.le_of_ble_eq_true rfl) (fun X C => ?_)
  refine j_aload_n 1 C dX10_desk_0 rfl rfl ?_
  refine Lng_n8 4 C dX10_desk_1 rfl fl10_172 ?_
  refine j_ifnonnullN 7 C dX10_desk_4 rfl ?_
  refine j_aload_n 8 C dX10_desk_7 rfl rfl ?_
  refine j_newc 11 (ci := 1) tyX1 [.int 0, .int 0, .null, .null, .null] C dX10_desk_8 rfl rfl ingX1 tyX1_ok cl10_167 inst1 ini1 (fun j hj => by rcases (show j = 0 ∨ j = 1 ∨ j = 2 ∨ j = 3 ∨ j = 4 by omega) with rfl | rfl | rfl | rfl | rfl <;> rfl) ⟨by decide, by decide⟩ (fun a => ?_)
  refine j_ws (nBk zn (zs 50) G.2.1 Sn fi fs pa none ++ (sBk zs (zm 50) (zb 50) G.2.1 Ss ++ (mBk zm (zt 50) (zr 50) (zh 50) G.2.1 Sm ++ (hBk zh G.2.1 Sh ++ (tBk zt G.2.1 St ++ (rBk zr G.2.1 Sr ++ (bBk zb G.2.1 Sb ++ ((R ++ [(a, .inr (1, [.int 0, .int 0, .null, .null, .null]))]))))))))) rfl ?_
  refine j_dup 12 C dX10_desk_11 rfl rfl ?_
  refine j_aload_n 13 C dX10_desk_12 rfl rfl ?_
  refine Lng_n4 16 C dX10_desk_13 rfl fl10_20 ?_
  refine Lng_s0 19 C dX10_desk_16 rfl fl10_61 ?_
  refine j_perm (nBk zn (zs 50) G.2.1 Sn fi fs pa none ++ (sBk zs (zm 50) (zb 50) G.2.1 Ss ++ (mBk zm (zt 50) (zr 50) (zh 50) G.2.1 Sm ++ (hBk zh G.2.1 Sh ++ (tBk zt G.2.1 St ++ (rBk zr G.2.1 Sr ++ (bBk zb G.2.1 Sb ++ (([(a, .inr (1, [.int 0, .int 0, .null, .null, .null]))] ++ R))))))))) (List.Perm.append_left _ (List.Perm.append_left _ (List.Perm.append_left _ (List.Perm.append_left _ (List.Perm.append_left _ (List.Perm.append_left _ (List.Perm.append_left _ (List.perm_append_comm (l₁ := R) (l₂ := [(a, .inr (1, [.int 0, .int 0, .null, .null, .null]))]))))))))) ?_
  refine j_perm (((a, .inr (1, [.int 0, .int 0, .null, .null, .null])) :: mBk zm (zt 50) (zr 50) (zh 50) G.2.1 Sm) ++ (nBk zn (zs 50) G.2.1 Sn fi fs pa none ++ (sBk zs (zm 50) (zb 50) G.2.1 Ss ++ (hBk zh G.2.1 Sh ++ (tBk zt G.2.1 St ++ (rBk zr G.2.1 Sr ++ (bBk zb G.2.1 Sb ++ R))))))) (fold_perm R ((show ([0, 1, 2, 3, 4, 5, 6, 7] : List Nat).Perm [7, 2, 0, 1, 3, 4, 5, 6] by decide).map (fun i => ([nBk zn (zs 50) G.2.1 Sn fi fs pa none, sBk zs (zm 50) (zb 50) G.2.1 Ss, mBk zm (zt 50) (zr 50) (zh 50) G.2.1 Sm, hBk zh G.2.1 Sh, tBk zt G.2.1 St, rBk zr G.2.1 Sr, bBk zb G.2.1 Sb, [(a, .inr (1, [.int 0, .int 0, .null, .null, .null]))]] : List va_W).getD i []))) ?_
  refine j_callMI 22 C dX10_desk_19 rfl cw10_175 rfl K1_init rfl ⟨by decide, by decide, by decide⟩ rfl (Nat.le_of_ble_eq_true rfl) [] (nBk zn (zs 50) G.2.1 Sn fi fs pa none ++ (sBk zs (zm 50) (zb 50) G.2.1 Ss ++ (hBk zh G.2.1 Sh ++ (tBk zt G.2.1 St ++ (rBk zr G.2.1 Sr ++ (bBk zb G.2.1 Sb ++ R)))))) rfl 0 rfl (ci := 1) (T := TX1) (N := 5) rfl (fun v w hp => ?_)
  obtain ⟨rfl, zd, zx, zy, zw, zv, hz, hp⟩ := hp
  subst hz
  refine j_perm (nBk zn (zs 50) G.2.1 Sn fi fs pa none ++ (sBk zs (zm 50) (zb 50) G.2.1 Ss ++ (mBk zm (zt 50) (zr 50) (zh 50) G.2.1 Sm ++ (hBk zh G.2.1 Sh ++ (tBk zt G.2.1 St ++ (rBk zr G.2.1 Sr ++ (bBk zb G.2.1 Sb ++ (dBk zd (zx 50) (zw 50) G.2.1 MS0 (fun _ => none) ++ (mBk zx (zt 50) (zr 50) (zy 50) G.2.1 SM0 ++ (hBk zy G.2.1 MS0 ++ (mBk zw (zt 50) (zr 50) (zv 50) G.2.1 SM0 ++ (hBk zv G.2.1 MS0 ++ (R))))))))))))) ((hp.append_right (nBk zn (zs 50) G.2.1 Sn fi fs pa none ++ (sBk zs (zm 50) (zb 50) G.2.1 Ss ++ (hBk zh G.2.1 Sh ++ (tBk zt G.2.1 St ++ (rBk zr G.2.1 Sr ++ (bBk zb G.2.1 Sb ++ R))))))).trans ?_) ?_
  · exact fold_perm R ((show ([0, 1, 2, 3, 4, 5, 6, 7, 8, 9, 10, 11] : List Nat).Perm [6, 7, 0, 8, 9, 10, 11, 1, 2, 3, 4, 5] by decide).map (fun i => ([mBk zm (zt 50) (zr 50) (zh 50) G.2.1 Sm, dBk zd (zx 50) (zw 50) G.2.1 MS0 (fun _ => none), mBk zx (zt 50) (zr 50) (zy 50) G.2.1 SM0, hBk zy G.2.1 MS0, mBk zw (zt 50) (zr 50) (zv 50) G.2.1 SM0, hBk zv G.2.1 MS0, nBk zn (zs 50) G.2.1 Sn fi fs pa none, sBk zs (zm 50) (zb 50) G.2.1 Ss, hBk zh G.2.1 Sh, tBk zt G.2.1 St, rBk zr G.2.1 Sr, bBk zb G.2.1 Sb] : List va_W).getD i []))
  refine j_put 25 tyX10 C dX10_desk_22 rfl 0 rfl rfl ingX10 tyX10_ok nmX10 8 (by decide) fl10_172 rfl rfl rfl (by show 8 < 9; decide) (ws' := (nBk zn (zs 50) G.2.1 Sn fi fs pa (some (zd 50)) ++ (sBk zs (zm 50) (zb 50) G.2.1 Ss ++ (mBk zm (zt 50) (zr 50) (zh 50) G.2.1 Sm ++ (hBk zh G.2.1 Sh ++ (tBk zt G.2.1 St ++ (rBk zr G.2.1 Sr ++ (bBk zb G.2.1 Sb ++ (dBk zd (zx 50) (zw 50) G.2.1 MS0 (fun _ => none) ++ (mBk zx (zt 50) (zr 50) (zy 50) G.2.1 SM0 ++ (hBk zy G.2.1 MS0 ++ (mBk zw (zt 50) (zr 50) (zv 50) G.2.1 SM0 ++ (hBk zv G.2.1 MS0 ++ (R)))))))))))))) rfl ?_
  refine j_aload_n 26 C dX10_desk_25 rfl rfl ?_
  refine Pg_n8 29 C dX10_desk_26 rfl fl10_172 ?_
  exact j_aret C dX10_desk_29 ⟨zd, zx, zy, zw, zv, rfl, rfl⟩
end SDk
