section Lc_P
variable {X : JX} {l : Launch} {G : GG} {cc : ByteArray} {nL : Nat} {own : String} {rt : Option FieldType} {d mc ms : Nat} {post : Option Value → va_W → Prop} {k n pc : Nat} {lv : List (Nat × Value)} {st : List Value} {zn zs zm zh zt zr zb zd zx zy zw zv : Nat → Nat} {Sn Ss Sm Sh St Sr Sb Sd Sx Sy Sw Sv : MS} {r0 r1 t0 t1 : Nat} {fi fs : Nat → Option Nat} {pa : Option Nat} {qd : Nat → Option Nat} {R : va_W}
variable {y : MethodName} {cy : ByteArray} {mL idx np d' : Nat} {rt' : Option FieldType} {As st0 : List Value} {x : Int32} {xl : Int64}
theorem Px_CI {Td Tx Ty Ts Tm Tt Tr Tb : MS} (q : Nat) (C : Cx X l G cc nL own rt d mc ms post) (hd : decode cc pc = .ok (.invokevirtual idx, 3)) (hq : pc + 3 = q) (hw : CW own idx y cy mL rt' np) (hy : y.cls = RX1) (hC : Con l G y cy mL rt' d' 0 0 (.ref (zd 50) :: As) (dBk zd (zx 50) (zw 50) G.2.1 Sd qd ++ (mBk zx t0 r0 (zy 50) G.2.1 Sx ++ (hBk zy G.2.1 Sy ++ (sBk zs (zm 50) (zb 50) G.2.1 Ss ++ (mBk zm (zt 50) (zr 50) (zh 50) G.2.1 Sm ++ (tBk zt G.2.1 St ++ (rBk zr G.2.1 Sr ++ (bBk zb G.2.1 Sb)))))))) (pI x (dBk zd (zx 50) (zw 50) G.2.1 Td qd ++ (mBk zx (zt 50) (zr 50) (zy 50) G.2.1 Tx ++ (hBk zy G.2.1 Ty ++ (sBk zs (zm 50) (zb 50) G.2.1 Ts ++ (mBk zm (zt 50) (zr 50) (zh 50) G.2.1 Tm ++ (tBk zt G.2.1 Tt ++ (rBk zr G.2.1 Tr ++ (bBk zb G.2.1 Tb)))))))))) (hnp : As.length = np) (hdd : d' + 1 ≤ d) (hk : k ≤ mc ∧ n ≤ ms) (hst : st0 = As.reverse ++ .ref (zd 50) :: st) (hrm : (st.map fun v => v.category).sum ≤ 8) (kk : J X nL k n (nBk zn (zs 50) G.2.1 Sn fi fs pa (some (zd 50)) ++ (sBk zs (zm 50) (zb 50) G.2.1 Ts ++ (mBk zm (zt 50) (zr 50) (zh 50) G.2.1 Tm ++ (hBk zh G.2.1 Sh ++ (tBk zt G.2.1 Tt ++ (rBk zr G.2.1 Tr ++ (bBk zb G.2.1 Tb ++ (dBk zd (zx 50) (zw 50) G.2.1 Td qd ++ (mBk zx (zt 50) (zr 50) (zy 50) G.2.1 Tx ++ (hBk zy G.2.1 Ty ++ (mBk zw t1 r1 (zv 50) G.2.1 Sw ++ (hBk zv G.2.1 Sv ++ (R))))))))))))) q lv (.int x :: st)) : J X nL k n (nBk zn (zs 50) G.2.1 Sn fi fs pa (some (zd 50)) ++ (sBk zs (zm 50) (zb 50) G.2.1 Ss ++ (mBk zm (zt 50) (zr 50) (zh 50) G.2.1 Sm ++ (hBk zh G.2.1 Sh ++ (tBk zt G.2.1 St ++ (rBk zr G.2.1 Sr ++ (bBk zb G.2.1 Sb ++ (dBk zd (zx 50) (zw 50) G.2.1 Sd qd ++ (mBk zx t0 r0 (zy 50) G.2.1 Sx ++ (hBk zy G.2.1 Sy ++ (mBk zw t1 r1 (zv 50) G.2.1 Sw ++ (hBk zv G.2.1 Sv ++ (R))))))))))))) pc lv st0 := by
  refine j_perm ((dBk zd (zx 50) (zw 50) G.2.1 Sd qd ++ (mBk zx t0 r0 (zy 50) G.2.1 Sx ++ (hBk zy G.2.1 Sy ++ (sBk zs (zm 50) (zb 50) G.2.1 Ss ++ (mBk zm (zt 50) (zr 50) (zh 50) G.2.1 Sm ++ (tBk zt G.2.1 St ++ (rBk zr G.2.1 Sr ++ (bBk zb G.2.1 Sb)))))))) ++ (nBk zn (zs 50) G.2.1 Sn fi fs pa (some (zd 50)) ++ (hBk zh G.2.1 Sh ++ (mBk zw t1 r1 (zv 50) G.2.1 Sw ++ (hBk zv G.2.1 Sv ++ (R)))))) (fold_perm R ((show ([0, 1, 2, 3, 4, 5, 6, 7, 8, 9, 10, 11] : List Nat).Perm [7, 8, 9, 1, 2, 4, 5, 6, 0, 3, 10, 11] by decide).map (fun i => ([nBk zn (zs 50) G.2.1 Sn fi fs pa (some (zd 50)), sBk zs (zm 50) (zb 50) G.2.1 Ss, mBk zm (zt 50) (zr 50) (zh 50) G.2.1 Sm, hBk zh G.2.1 Sh, tBk zt G.2.1 St, rBk zr G.2.1 Sr, bBk zb G.2.1 Sb, dBk zd (zx 50) (zw 50) G.2.1 Sd qd, mBk zx t0 r0 (zy 50) G.2.1 Sx, hBk zy G.2.1 Sy, mBk zw t1 r1 (zv 50) G.2.1 Sw, hBk zv G.2.1 Sv] : List va_W).getD i []))) ?_
  refine j_callM q C hd hq hw hC hnp ⟨hdd, hk.1, hk.2⟩ hst hrm [] (nBk zn (zs 50) G.2.1 Sn fi fs pa (some (zd 50)) ++ (hBk zh G.2.1 Sh ++ (mBk zw t1 r1 (zv 50) G.2.1 Sw ++ (hBk zv G.2.1 Sv ++ (R))))) rfl 0 rfl (ci := 1) (T := TX1) (N := 5) (by rw [hy]; rfl) (fun v w hp => ?_)
  obtain ⟨rfl, rfl⟩ := hp
  exact j_perm (nBk zn (zs 50) G.2.1 Sn fi fs pa (some (zd 50)) ++ (sBk zs (zm 50) (zb 50) G.2.1 Ts ++ (mBk zm (zt 50) (zr 50) (zh 50) G.2.1 Tm ++ (hBk zh G.2.1 Sh ++ (tBk zt G.2.1 Tt ++ (rBk zr G.2.1 Tr ++ (bBk zb G.2.1 Tb ++ (dBk zd (zx 50) (zw 50) G.2.1 Td qd ++ (mBk zx (zt 50) (zr 50) (zy 50) G.2.1 Tx ++ (hBk zy G.2.1 Ty ++ (mBk zw t1 r1 (zv 50) G.2.1 Sw ++ (hBk zv G.2.1 Sv ++ (R))))))))))))) (fold_perm R ((show ([0, 1, 2, 3, 4, 5, 6, 7, 8, 9, 10, 11] : List Nat).Perm [8, 3, 4, 9, 5, 6, 7, 0, 1, 2, 10, 11] by decide).map (fun i => ([dBk zd (zx 50) (zw 50) G.2.1 Td qd, mBk zx (zt 50) (zr 50) (zy 50) G.2.1 Tx, hBk zy G.2.1 Ty, sBk zs (zm 50) (zb 50) G.2.1 Ts, mBk zm (zt 50) (zr 50) (zh 50) G.2.1 Tm, tBk zt G.2.1 Tt, rBk zr G.2.1 Tr, bBk zb G.2.1 Tb, nBk zn (zs 50) G.2.1 Sn fi fs pa (some (zd 50)), hBk zh G.2.1 Sh, mBk zw t1 r1 (zv 50) G.2.1 Sw, hBk zv G.2.1 Sv] : List va_W).getD i []))) (kk)
theorem Px_CL {Td Tx Ty Ts Tm Tt Tr Tb : MS} (q : Nat) (C : Cx X l G cc nL own rt d mc ms post) (hd : decode cc pc = .ok (.invokevirtual idx, 3)) (hq : pc + 3 = q) (hw : CW own idx y cy mL rt' np) (hy : y.cls = RX1) (hC : Con l G y cy mL rt' d' 0 0 (.ref (zd 50) :: As) (dBk zd (zx 50) (zw 50) G.2.1 Sd qd ++ (mBk zx t0 r0 (zy 50) G.2.1 Sx ++ (hBk zy G.2.1 Sy ++ (sBk zs (zm 50) (zb 50) G.2.1 Ss ++ (mBk zm (zt 50) (zr 50) (zh 50) G.2.1 Sm ++ (tBk zt G.2.1 St ++ (rBk zr G.2.1 Sr ++ (bBk zb G.2.1 Sb)))))))) (pL xl (dBk zd (zx 50) (zw 50) G.2.1 Td qd ++ (mBk zx (zt 50) (zr 50) (zy 50) G.2.1 Tx ++ (hBk zy G.2.1 Ty ++ (sBk zs (zm 50) (zb 50) G.2.1 Ts ++ (mBk zm (zt 50) (zr 50) (zh 50) G.2.1 Tm ++ (tBk zt G.2.1 Tt ++ (rBk zr G.2.1 Tr ++ (bBk zb G.2.1 Tb)))))))))) (hnp : As.length = np) (hdd : d' + 1 ≤ d) (hk : k ≤ mc ∧ n ≤ ms) (hst : st0 = As.reverse ++ .ref (zd 50) :: st) (hrm : (st.map fun v => v.category).sum ≤ 8) (kk : J X nL k n (nBk zn (zs 50) G.2.1 Sn fi fs pa (some (zd 50)) ++ (sBk zs (zm 50) (zb 50) G.2.1 Ts ++ (mBk zm (zt 50) (zr 50) (zh 50) G.2.1 Tm ++ (hBk zh G.2.1 Sh ++ (tBk zt G.2.1 Tt ++ (rBk zr G.2.1 Tr ++ (bBk zb G.2.1 Tb ++ (dBk zd (zx 50) (zw 50) G.2.1 Td qd ++ (mBk zx (zt 50) (zr 50) (zy 50) G.2.1 Tx ++ (hBk zy G.2.1 Ty ++ (mBk zw t1 r1 (zv 50) G.2.1 Sw ++ (hBk zv G.2.1 Sv ++ (R))))))))))))) q lv (.long xl :: st)) : J X nL k n (nBk zn (zs 50) G.2.1 Sn fi fs pa (some (zd 50)) ++ (sBk zs (zm 50) (zb 50) G.2.1 Ss ++ (mBk zm (zt 50) (zr 50) (zh 50) G.2.1 Sm ++ (hBk zh G.2.1 Sh ++ (tBk zt G.2.1 St ++ (rBk zr G.2.1 Sr ++ (bBk zb G.2.1 Sb ++ (dBk zd (zx 50) (zw 50) G.2.1 Sd qd ++ (mBk zx t0 r0 (zy 50) G.2.1 Sx ++ (hBk zy G.2.1 Sy ++ (mBk zw t1 r1 (zv 50) G.2.1 Sw ++ (hBk zv G.2.1 Sv ++ (R))))))))))))) pc lv st0 := by
  refine j_perm ((dBk zd (zx 50) (zw 50) G.2.1 Sd qd ++ (mBk zx t0 r0 (zy 50) G.2.1 Sx ++ (hBk zy G.2.1 Sy ++ (sBk zs (zm 50) (zb 50) G.2.1 Ss ++ (mBk zm (zt 50) (zr 50) (zh 50) G.2.1 Sm ++ (tBk zt G.2.1 St ++ (rBk zr G.2.1 Sr ++ (bBk zb G.2.1 Sb)))))))) ++ (nBk zn (zs 50) G.2.1 Sn fi fs pa (some (zd 50)) ++ (hBk zh G.2.1 Sh ++ (mBk zw t1 r1 (zv 50) G.2.1 Sw ++ (hBk zv G.2.1 Sv ++ (R)))))) (fold_perm R ((show ([0, 1, 2, 3, 4, 5, 6, 7, 8, 9, 10, 11] : List Nat).Perm [7, 8, 9, 1, 2, 4, 5, 6, 0, 3, 10, 11] by decide).map (fun i => ([nBk zn (zs 50) G.2.1 Sn fi fs pa (some (zd 50)), sBk zs (zm 50) (zb 50) G.2.1 Ss, mBk zm (zt 50) (zr 50) (zh 50) G.2.1 Sm, hBk zh G.2.1 Sh, tBk zt G.2.1 St, rBk zr G.2.1 Sr, bBk zb G.2.1 Sb, dBk zd (zx 50) (zw 50) G.2.1 Sd qd, mBk zx t0 r0 (zy 50) G.2.1 Sx, hBk zy G.2.1 Sy, mBk zw t1 r1 (zv 50) G.2.1 Sw, hBk zv G.2.1 Sv] : List va_W).getD i []))) ?_
  refine j_callM q C hd hq hw hC hnp ⟨hdd, hk.1, hk.2⟩ hst hrm [] (nBk zn (zs 50) G.2.1 Sn fi fs pa (some (zd 50)) ++ (hBk zh G.2.1 Sh ++ (mBk zw t1 r1 (zv 50) G.2.1 Sw ++ (hBk zv G.2.1 Sv ++ (R))))) rfl 0 rfl (ci := 1) (T := TX1) (N := 5) (by rw [hy]; rfl) (fun v w hp => ?_)
  obtain ⟨rfl, rfl⟩ := hp
  exact j_perm (nBk zn (zs 50) G.2.1 Sn fi fs pa (some (zd 50)) ++ (sBk zs (zm 50) (zb 50) G.2.1 Ts ++ (mBk zm (zt 50) (zr 50) (zh 50) G.2.1 Tm ++ (hBk zh G.2.1 Sh ++ (tBk zt G.2.1 Tt ++ (rBk zr G.2.1 Tr ++ (bBk zb G.2.1 Tb ++ (dBk zd (zx 50) (zw 50) G.2.1 Td qd ++ (mBk zx (zt 50) (zr 50) (zy 50) G.2.1 Tx ++ (hBk zy G.2.1 Ty ++ (mBk zw t1 r1 (zv 50) G.2.1 Sw ++ (hBk zv G.2.1 Sv ++ (R))))))))))))) (fold_perm R ((show ([0, 1, 2, 3, 4, 5, 6, 7, 8, 9, 10, 11] : List Nat).Perm [8, 3, 4, 9, 5, 6, 7, 0, 1, 2, 10, 11] by decide).map (fun i => ([dBk zd (zx 50) (zw 50) G.2.1 Td qd, mBk zx (zt 50) (zr 50) (zy 50) G.2.1 Tx, hBk zy G.2.1 Ty, sBk zs (zm 50) (zb 50) G.2.1 Ts, mBk zm (zt 50) (zr 50) (zh 50) G.2.1 Tm, tBk zt G.2.1 Tt, rBk zr G.2.1 Tr, bBk zb G.2.1 Tb, nBk zn (zs 50) G.2.1 Sn fi fs pa (some (zd 50)), hBk zh G.2.1 Sh, mBk zw t1 r1 (zv 50) G.2.1 Sw, hBk zv G.2.1 Sv] : List va_W).getD i []))) (kk)
theorem Px_CV {Td Tx Ty Ts Tm Tt Tr Tb : MS} (q : Nat) (C : Cx X l G cc nL own rt d mc ms post) (hd : decode cc pc = .ok (.invokevirtual idx, 3)) (hq : pc + 3 = q) (hw : CW own idx y cy mL rt' np) (hy : y.cls = RX1) (hC : Con l G y cy mL rt' d' 0 0 (.ref (zd 50) :: As) (dBk zd (zx 50) (zw 50) G.2.1 Sd qd ++ (mBk zx t0 r0 (zy 50) G.2.1 Sx ++ (hBk zy G.2.1 Sy ++ (sBk zs (zm 50) (zb 50) G.2.1 Ss ++ (mBk zm (zt 50) (zr 50) (zh 50) G.2.1 Sm ++ (tBk zt G.2.1 St ++ (rBk zr G.2.1 Sr ++ (bBk zb G.2.1 Sb)))))))) (pV (dBk zd (zx 50) (zw 50) G.2.1 Td qd ++ (mBk zx (zt 50) (zr 50) (zy 50) G.2.1 Tx ++ (hBk zy G.2.1 Ty ++ (sBk zs (zm 50) (zb 50) G.2.1 Ts ++ (mBk zm (zt 50) (zr 50) (zh 50) G.2.1 Tm ++ (tBk zt G.2.1 Tt ++ (rBk zr G.2.1 Tr ++ (bBk zb G.2.1 Tb)))))))))) (hnp : As.length = np) (hdd : d' + 1 ≤ d) (hk : k ≤ mc ∧ n ≤ ms) (hst : st0 = As.reverse ++ .ref (zd 50) :: st) (hrm : (st.map fun v => v.category).sum ≤ 8) (kk : J X nL k n (nBk zn (zs 50) G.2.1 Sn fi fs pa (some (zd 50)) ++ (sBk zs (zm 50) (zb 50) G.2.1 Ts ++ (mBk zm (zt 50) (zr 50) (zh 50) G.2.1 Tm ++ (hBk zh G.2.1 Sh ++ (tBk zt G.2.1 Tt ++ (rBk zr G.2.1 Tr ++ (bBk zb G.2.1 Tb ++ (dBk zd (zx 50) (zw 50) G.2.1 Td qd ++ (mBk zx (zt 50) (zr 50) (zy 50) G.2.1 Tx ++ (hBk zy G.2.1 Ty ++ (mBk zw t1 r1 (zv 50) G.2.1 Sw ++ (hBk zv G.2.1 Sv ++ (R))))))))))))) q lv st) : J X nL k n (nBk zn (zs 50) G.2.1 Sn fi fs pa (some (zd 50)) ++ (sBk zs (zm 50) (zb 50) G.2.1 Ss ++ (mBk zm (zt 50) (zr 50) (zh 50) G.2.1 Sm ++ (hBk zh G.2.1 Sh ++ (tBk zt G.2.1 St ++ (rBk zr G.2.1 Sr ++ (bBk zb G.2.1 Sb ++ (dBk zd (zx 50) (zw 50) G.2.1 Sd qd ++ (mBk zx t0 r0 (zy 50) G.2.1 Sx ++ (hBk zy G.2.1 Sy ++ (mBk zw t1 r1 (zv 50) G.2.1 Sw ++ (hBk zv G.2.1 Sv ++ (R))))))))))))) pc lv st0 := by
  refine j_perm ((dBk zd (zx 50) (zw 50) G.2.1 Sd qd ++ (mBk zx t0 r0 (zy 50) G.2.1 Sx ++ (hBk zy G.2.1 Sy ++ (sBk zs (zm 50) (zb 50) G.2.1 Ss ++ (mBk zm (zt 50) (zr 50) (zh 50) G.2.1 Sm ++ (tBk zt G.2.1 St ++ (rBk zr G.2.1 Sr ++ (bBk zb G.2.1 Sb)))))))) ++ (nBk zn (zs 50) G.2.1 Sn fi fs pa (some (zd 50)) ++ (hBk zh G.2.1 Sh ++ (mBk zw t1 r1 (zv 50) G.2.1 Sw ++ (hBk zv G.2.1 Sv ++ (R)))))) (fold_perm R ((show ([0, 1, 2, 3, 4, 5, 6, 7, 8, 9, 10, 11] : List Nat).Perm [7, 8, 9, 1, 2, 4, 5, 6, 0, 3, 10, 11] by decide).map (fun i => ([nBk zn (zs 50) G.2.1 Sn fi fs pa (some (zd 50)), sBk zs (zm 50) (zb 50) G.2.1 Ss, mBk zm (zt 50) (zr 50) (zh 50) G.2.1 Sm, hBk zh G.2.1 Sh, tBk zt G.2.1 St, rBk zr G.2.1 Sr, bBk zb G.2.1 Sb, dBk zd (zx 50) (zw 50) G.2.1 Sd qd, mBk zx t0 r0 (zy 50) G.2.1 Sx, hBk zy G.2.1 Sy, mBk zw t1 r1 (zv 50) G.2.1 Sw, hBk zv G.2.1 Sv] : List va_W).getD i []))) ?_
  refine j_callM q C hd hq hw hC hnp ⟨hdd, hk.1, hk.2⟩ hst hrm [] (nBk zn (zs 50) G.2.1 Sn fi fs pa (some (zd 50)) ++ (hBk zh G.2.1 Sh ++ (mBk zw t1 r1 (zv 50) G.2.1 Sw ++ (hBk zv G.2.1 Sv ++ (R))))) rfl 0 rfl (ci := 1) (T := TX1) (N := 5) (by rw [hy]; rfl) (fun v w hp => ?_)
  obtain ⟨rfl, rfl⟩ := hp
  exact j_perm (nBk zn (zs 50) G.2.1 Sn fi fs pa (some (zd 50)) ++ (sBk zs (zm 50) (zb 50) G.2.1 Ts ++ (mBk zm (zt 50) (zr 50) (zh 50) G.2.1 Tm ++ (hBk zh G.2.1 Sh ++ (tBk zt G.2.1 Tt ++ (rBk zr G.2.1 Tr ++ (bBk zb G.2.1 Tb ++ (dBk zd (zx 50) (zw 50) G.2.1 Td qd ++ (mBk zx (zt 50) (zr 50) (zy 50) G.2.1 Tx ++ (hBk zy G.2.1 Ty ++ (mBk zw t1 r1 (zv 50) G.2.1 Sw ++ (hBk zv G.2.1 Sv ++ (R))))))))))))) (fold_perm R ((show ([0, 1, 2, 3, 4, 5, 6, 7, 8, 9, 10, 11] : List Nat).Perm [8, 3, 4, 9, 5, 6, 7, 0, 1, 2, 10, 11] by decide).map (fun i => ([dBk zd (zx 50) (zw 50) G.2.1 Td qd, mBk zx (zt 50) (zr 50) (zy 50) G.2.1 Tx, hBk zy G.2.1 Ty, sBk zs (zm 50) (zb 50) G.2.1 Ts, mBk zm (zt 50) (zr 50) (zh 50) G.2.1 Tm, tBk zt G.2.1 Tt, rBk zr G.2.1 Tr, bBk zb G.2.1 Tb, nBk zn (zs 50) G.2.1 Sn fi fs pa (some (zd 50)), hBk zh G.2.1 Sh, mBk zw t1 r1 (zv 50) G.2.1 Sw, hBk zv G.2.1 Sv] : List va_W).getD i []))) (kk)
theorem Pr_CI {Tx : MS} {P : Int32 → MS → Prop} (q : Nat) (C : Cx X l G cc nL own rt d mc ms post) (hd : decode cc pc = .ok (.invokevirtual idx, 3)) (hq : pc + 3 = q) (hw : CW own idx y cy mL rt' np) (hy : y.cls = RX1) (hC : Con l G y cy mL rt' d' 0 0 (.ref (zd 50) :: As) (dBk zd (zx 50) (zw 50) G.2.1 Sd qd ++ (mBk zx t0 r0 (zy 50) G.2.1 Sx ++ (hBk zy G.2.1 Sy ++ (sBk zs (zm 50) (zb 50) G.2.1 Ss ++ (mBk zm (zt 50) (zr 50) (zh 50) G.2.1 Sm ++ (tBk zt G.2.1 St ++ (rBk zr G.2.1 Sr ++ (bBk zb G.2.1 Sb)))))))) (qI (fun s : MS => (dBk zd (zx 50) (zw 50) G.2.1 Sd qd ++ (mBk zx (zt 50) (zr 50) (zy 50) G.2.1 Tx ++ (hBk zy G.2.1 s ++ (sBk zs (zm 50) (zb 50) G.2.1 Ss ++ (mBk zm (zt 50) (zr 50) (zh 50) G.2.1 Sm ++ (tBk zt G.2.1 St ++ (rBk zr G.2.1 Sr ++ (bBk zb G.2.1 Sb))))))))) P)) (hnp : As.length = np) (hdd : d' + 1 ≤ d) (hk : k ≤ mc ∧ n ≤ ms) (hst : st0 = As.reverse ++ .ref (zd 50) :: st) (hrm : (st.map fun v => v.category).sum ≤ 8) (kk : ∀ (x : Int32) (s : MS), P x s → J X nL k n (nBk zn (zs 50) G.2.1 Sn fi fs pa (some (zd 50)) ++ (sBk zs (zm 50) (zb 50) G.2.1 Ss ++ (mBk zm (zt 50) (zr 50) (zh 50) G.2.1 Sm ++ (hBk zh G.2.1 Sh ++ (tBk zt G.2.1 St ++ (rBk zr G.2.1 Sr ++ (bBk zb G.2.1 Sb ++ (dBk zd (zx 50) (zw 50) G.2.1 Sd qd ++ (mBk zx (zt 50) (zr 50) (zy 50) G.2.1 Tx ++ (hBk zy G.2.1 s ++ (mBk zw t1 r1 (zv 50) G.2.1 Sw ++ (hBk zv G.2.1 Sv ++ (R))))))))))))) q lv (.int x :: st)) : J X nL k n (nBk zn (zs 50) G.2.1 Sn fi fs pa (some (zd 50)) ++ (sBk zs (zm 50) (zb 50) G.2.1 Ss ++ (mBk zm (zt 50) (zr 50) (zh 50) G.2.1 Sm ++ (hBk zh G.2.1 Sh ++ (tBk zt G.2.1 St ++ (rBk zr G.2.1 Sr ++ (bBk zb G.2.1 Sb ++ (dBk zd (zx 50) (zw 50) G.2.1 Sd qd ++ (mBk zx t0 r0 (zy 50) G.2.1 Sx ++ (hBk zy G.2.1 Sy ++ (mBk zw t1 r1 (zv 50) G.2.1 Sw ++ (hBk zv G.2.1 Sv ++ (R))))))))))))) pc lv st0 := by
  refine j_perm ((dBk zd (zx 50) (zw 50) G.2.1 Sd qd ++ (mBk zx t0 r0 (zy 50) G.2.1 Sx ++ (hBk zy G.2.1 Sy ++ (sBk zs (zm 50) (zb 50) G.2.1 Ss ++ (mBk zm (zt 50) (zr 50) (zh 50) G.2.1 Sm ++ (tBk zt G.2.1 St ++ (rBk zr G.2.1 Sr ++ (bBk zb G.2.1 Sb)))))))) ++ (nBk zn (zs 50) G.2.1 Sn fi fs pa (some (zd 50)) ++ (hBk zh G.2.1 Sh ++ (mBk zw t1 r1 (zv 50) G.2.1 Sw ++ (hBk zv G.2.1 Sv ++ (R)))))) (fold_perm R ((show ([0, 1, 2, 3, 4, 5, 6, 7, 8, 9, 10, 11] : List Nat).Perm [7, 8, 9, 1, 2, 4, 5, 6, 0, 3, 10, 11] by decide).map (fun i => ([nBk zn (zs 50) G.2.1 Sn fi fs pa (some (zd 50)), sBk zs (zm 50) (zb 50) G.2.1 Ss, mBk zm (zt 50) (zr 50) (zh 50) G.2.1 Sm, hBk zh G.2.1 Sh, tBk zt G.2.1 St, rBk zr G.2.1 Sr, bBk zb G.2.1 Sb, dBk zd (zx 50) (zw 50) G.2.1 Sd qd, mBk zx t0 r0 (zy 50) G.2.1 Sx, hBk zy G.2.1 Sy, mBk zw t1 r1 (zv 50) G.2.1 Sw, hBk zv G.2.1 Sv] : List va_W).getD i []))) ?_
  refine j_callM q C hd hq hw hC hnp ⟨hdd, hk.1, hk.2⟩ hst hrm [] (nBk zn (zs 50) G.2.1 Sn fi fs pa (some (zd 50)) ++ (hBk zh G.2.1 Sh ++ (mBk zw t1 r1 (zv 50) G.2.1 Sw ++ (hBk zv G.2.1 Sv ++ (R))))) rfl 0 rfl (ci := 1) (T := TX1) (N := 5) (by rw [hy]; rfl) (fun v w hp => ?_)
  obtain ⟨x, s, hp, rfl, rfl⟩ := hp
  exact j_perm (nBk zn (zs 50) G.2.1 Sn fi fs pa (some (zd 50)) ++ (sBk zs (zm 50) (zb 50) G.2.1 Ss ++ (mBk zm (zt 50) (zr 50) (zh 50) G.2.1 Sm ++ (hBk zh G.2.1 Sh ++ (tBk zt G.2.1 St ++ (rBk zr G.2.1 Sr ++ (bBk zb G.2.1 Sb ++ (dBk zd (zx 50) (zw 50) G.2.1 Sd qd ++ (mBk zx (zt 50) (zr 50) (zy 50) G.2.1 Tx ++ (hBk zy G.2.1 s ++ (mBk zw t1 r1 (zv 50) G.2.1 Sw ++ (hBk zv G.2.1 Sv ++ (R))))))))))))) (fold_perm R ((show ([0, 1, 2, 3, 4, 5, 6, 7, 8, 9, 10, 11] : List Nat).Perm [8, 3, 4, 9, 5, 6, 7, 0, 1, 2, 10, 11] by decide).map (fun i => ([dBk zd (zx 50) (zw 50) G.2.1 Sd qd, mBk zx (zt 50) (zr 50) (zy 50) G.2.1 Tx, hBk zy G.2.1 s, sBk zs (zm 50) (zb 50) G.2.1 Ss, mBk zm (zt 50) (zr 50) (zh 50) G.2.1 Sm, tBk zt G.2.1 St, rBk zr G.2.1 Sr, bBk zb G.2.1 Sb, nBk zn (zs 50) G.2.1 Sn fi fs pa (some (zd 50)), hBk zh G.2.1 Sh, mBk zw t1 r1 (zv 50) G.2.1 Sw, hBk zv G.2.1 Sv] : List va_W).getD i []))) (kk x s hp)
theorem Pr_CV {Tx : MS} {P : MS → Prop} (q : Nat) (C : Cx X l G cc nL own rt d mc ms post) (hd : decode cc pc = .ok (.invokevirtual idx, 3)) (hq : pc + 3 = q) (hw : CW own idx y cy mL rt' np) (hy : y.cls = RX1) (hC : Con l G y cy mL rt' d' 0 0 (.ref (zd 50) :: As) (dBk zd (zx 50) (zw 50) G.2.1 Sd qd ++ (mBk zx t0 r0 (zy 50) G.2.1 Sx ++ (hBk zy G.2.1 Sy ++ (sBk zs (zm 50) (zb 50) G.2.1 Ss ++ (mBk zm (zt 50) (zr 50) (zh 50) G.2.1 Sm ++ (tBk zt G.2.1 St ++ (rBk zr G.2.1 Sr ++ (bBk zb G.2.1 Sb)))))))) (qV (fun s : MS => (dBk zd (zx 50) (zw 50) G.2.1 Sd qd ++ (mBk zx (zt 50) (zr 50) (zy 50) G.2.1 Tx ++ (hBk zy G.2.1 s ++ (sBk zs (zm 50) (zb 50) G.2.1 Ss ++ (mBk zm (zt 50) (zr 50) (zh 50) G.2.1 Sm ++ (tBk zt G.2.1 St ++ (rBk zr G.2.1 Sr ++ (bBk zb G.2.1 Sb))))))))) P)) (hnp : As.length = np) (hdd : d' + 1 ≤ d) (hk : k ≤ mc ∧ n ≤ ms) (hst : st0 = As.reverse ++ .ref (zd 50) :: st) (hrm : (st.map fun v => v.category).sum ≤ 8) (kk : ∀ (s : MS), P s → J X nL k n (nBk zn (zs 50) G.2.1 Sn fi fs pa (some (zd 50)) ++ (sBk zs (zm 50) (zb 50) G.2.1 Ss ++ (mBk zm (zt 50) (zr 50) (zh 50) G.2.1 Sm ++ (hBk zh G.2.1 Sh ++ (tBk zt G.2.1 St ++ (rBk zr G.2.1 Sr ++ (bBk zb G.2.1 Sb ++ (dBk zd (zx 50) (zw 50) G.2.1 Sd qd ++ (mBk zx (zt 50) (zr 50) (zy 50) G.2.1 Tx ++ (hBk zy G.2.1 s ++ (mBk zw t1 r1 (zv 50) G.2.1 Sw ++ (hBk zv G.2.1 Sv ++ (R))))))))))))) q lv st) : J X nL k n (nBk zn (zs 50) G.2.1 Sn fi fs pa (some (zd 50)) ++ (sBk zs (zm 50) (zb 50) G.2.1 Ss ++ (mBk zm (zt 50) (zr 50) (zh 50) G.2.1 Sm ++ (hBk zh G.2.1 Sh ++ (tBk zt G.2.1 St ++ (rBk zr G.2.1 Sr ++ (bBk zb G.2.1 Sb ++ (dBk zd (zx 50) (zw 50) G.2.1 Sd qd ++ (mBk zx t0 r0 (zy 50) G.2.1 Sx ++ (hBk zy G.2.1 Sy ++ (mBk zw t1 r1 (zv 50) G.2.1 Sw ++ (hBk zv G.2.1 Sv ++ (R))))))))))))) pc lv st0 := by
  refine j_perm ((dBk zd (zx 50) (zw 50) G.2.1 Sd qd ++ (mBk zx t0 r0 (zy 50) G.2.1 Sx ++ (hBk zy G.2.1 Sy ++ (sBk zs (zm 50) (zb 50) G.2.1 Ss ++ (mBk zm (zt 50) (zr 50) (zh 50) G.2.1 Sm ++ (tBk zt G.2.1 St ++ (rBk zr G.2.1 Sr ++ (bBk zb G.2.1 Sb)))))))) ++ (nBk zn (zs 50) G.2.1 Sn fi fs pa (some (zd 50)) ++ (hBk zh G.2.1 Sh ++ (mBk zw t1 r1 (zv 50) G.2.1 Sw ++ (hBk zv G.2.1 Sv ++ (R)))))) (fold_perm R ((show ([0, 1, 2, 3, 4, 5, 6, 7, 8, 9, 10, 11] : List Nat).Perm [7, 8, 9, 1, 2, 4, 5, 6, 0, 3, 10, 11] by decide).map (fun i => ([nBk zn (zs 50) G.2.1 Sn fi fs pa (some (zd 50)), sBk zs (zm 50) (zb 50) G.2.1 Ss, mBk zm (zt 50) (zr 50) (zh 50) G.2.1 Sm, hBk zh G.2.1 Sh, tBk zt G.2.1 St, rBk zr G.2.1 Sr, bBk zb G.2.1 Sb, dBk zd (zx 50) (zw 50) G.2.1 Sd qd, mBk zx t0 r0 (zy 50) G.2.1 Sx, hBk zy G.2.1 Sy, mBk zw t1 r1 (zv 50) G.2.1 Sw, hBk zv G.2.1 Sv] : List va_W).getD i []))) ?_
  refine j_callM q C hd hq hw hC hnp ⟨hdd, hk.1, hk.2⟩ hst hrm [] (nBk zn (zs 50) G.2.1 Sn fi fs pa (some (zd 50)) ++ (hBk zh G.2.1 Sh ++ (mBk zw t1 r1 (zv 50) G.2.1 Sw ++ (hBk zv G.2.1 Sv ++ (R))))) rfl 0 rfl (ci := 1) (T := TX1) (N := 5) (by rw [hy]; rfl) (fun v w hp => ?_)
  obtain ⟨s, hp, rfl, rfl⟩ := hp
  exact j_perm (nBk zn (zs 50) G.2.1 Sn fi fs pa (some (zd 50)) ++ (sBk zs (zm 50) (zb 50) G.2.1 Ss ++ (mBk zm (zt 50) (zr 50) (zh 50) G.2.1 Sm ++ (hBk zh G.2.1 Sh ++ (tBk zt G.2.1 St ++ (rBk zr G.2.1 Sr ++ (bBk zb G.2.1 Sb ++ (dBk zd (zx 50) (zw 50) G.2.1 Sd qd ++ (mBk zx (zt 50) (zr 50) (zy 50) G.2.1 Tx ++ (hBk zy G.2.1 s ++ (mBk zw t1 r1 (zv 50) G.2.1 Sw ++ (hBk zv G.2.1 Sv ++ (R))))))))))))) (fold_perm R ((show ([0, 1, 2, 3, 4, 5, 6, 7, 8, 9, 10, 11] : List Nat).Perm [8, 3, 4, 9, 5, 6, 7, 0, 1, 2, 10, 11] by decide).map (fun i => ([dBk zd (zx 50) (zw 50) G.2.1 Sd qd, mBk zx (zt 50) (zr 50) (zy 50) G.2.1 Tx, hBk zy G.2.1 s, sBk zs (zm 50) (zb 50) G.2.1 Ss, mBk zm (zt 50) (zr 50) (zh 50) G.2.1 Sm, tBk zt G.2.1 St, rBk zr G.2.1 Sr, bBk zb G.2.1 Sb, nBk zn (zs 50) G.2.1 Sn fi fs pa (some (zd 50)), hBk zh G.2.1 Sh, mBk zw t1 r1 (zv 50) G.2.1 Sw, hBk zv G.2.1 Sv] : List va_W).getD i []))) (kk s hp)
end Lc_P
section SN20
variable {l : Launch} {G : GG} {wd hd : Nat → Int32} {hr td nb : Nat} {x y z u k5 : Int32} {zn zs zm zh zt zr zb zd zx zy zw zv : Nat → Nat} {Sn Ss Sm Sh St Sr Sb Sd Sx Sy Sw Sv : MS} {r0 r1 t0 t1 : Nat} {fi fs : Nat → Option Nat} {pa : Option Nat} {qd : Nat → Option Nat} {R : va_W}
theorem isI2 {x : Int32} (h : x = 0 ∨ x = nI 1) : isI x 2 := by rcases h with rfl | rfl <;> decide
theorem isI2' {x : Int32} (h : isI x 2) : x = 0 ∨ x = nI 1 := by
  obtain ⟨j, hj, rfl⟩ := isI_of h
  rcases (show j = 0 ∨ j = 1 by omega) with rfl | rfl
  · exact Or.inl rfl
  · exact Or.inr rfl
theorem isI3 {x : Int32} (a : ¬ x < 0) (b : x ≤ nI 2) : isI x 3 := by
  obtain ⟨j, hj, rfl⟩ := nI_of a
  have q := Int32.le_iff_toInt_le.mp b
  rw [nI_toInt (by omega), nI_toInt (by omega)] at q
  exact isI_nI (by omega) (by omega)
theorem isI_nneg {x : Int32} {n : Nat} (h : isI x n) (a : x < 0) : False := by
  have := Int32.lt_iff_toInt_lt.mp a
  have z0 : (0 : Int32).toInt = 0 := by decide
  have := h.1
  omega
theorem isI_nle {x : Int32} (h : isI x 3) (a : ¬ x ≤ nI 2) : False := by
  obtain ⟨j, hj, rfl⟩ := isI_of h
  exact a (Int32.le_iff_toInt_le.mpr (by rw [nI_toInt (by omega), nI_toInt (by omega)]; omega))
theorem num_of {z u : Int32} (h : ¬ z < 0 ∧ ¬ u < z ∧ ¬ nI 1000 < u ∧ ¬ nI 30 < u - z) : ∃ lo hi, lo ≤ hi ∧ hi ≤ 1000 ∧ hi - lo ≤ 30 ∧ z = nI lo ∧ u = nI hi := by
  obtain ⟨h1, h2, h3, h4⟩ := h
  obtain ⟨lo, hlo, rfl⟩ := nI_of h1
  have z0 : (0 : Int32).toInt = 0 := by decide
  obtain ⟨hi, hhi, rfl⟩ := nI_of (x := u) (fun q => h2 (by rw [Int32.lt_iff_toInt_lt] at q ⊢; rw [nI_toInt hlo]; omega))
  have a1 : lo ≤ hi := Decidable.byContradiction fun q => h2 (nI_lt (by omega) (by omega))
  have a2 : hi ≤ 1000 := Decidable.byContradiction fun q => h3 (nI_lt (by omega) (by omega))
  refine ⟨lo, hi, a1, a2, ?_, rfl, rfl⟩
  rw [pk_sub a1] at h4
  exact Decidable.byContradiction fun q => h4 (nI_lt (by omega) (by omega))
theorem K10_fitA (hT : TT (-1) St wd) (hR : RR Sr wd) (hW : WF wd) (hH0 : HR wd Sh hd hr td) (h3 : Sm.1 3 = -1) (h4 : Sm.1 4 = -1) (hhr : hr + 300 ≤ 1000000000) (htd : td + 100 ≤ 1000000000) (hy : HX Sy) (hv : HX Sv) (hb0 : Sb.1 0 = nI nb) (hb6 : nb ≤ 60) (hB0 : ¬ nI 400 < Sh.1 0 → BH (Sb.2.1 2) nb (nrw wd)) : Con l G yX10_fit cX10_fit 11 (some .int) 10 0 0 [.ref (zn 50), .int x, .int y, .int z, .int u, .int k5] (nBk zn (zs 50) G.2.1 Sn fi fs pa (some (zd 50)) ++ (sBk zs (zm 50) (zb 50) G.2.1 Ss ++ (mBk zm (zt 50) (zr 50) (zh 50) G.2.1 Sm ++ (hBk zh G.2.1 Sh ++ (tBk zt G.2.1 St ++ (rBk zr G.2.1 Sr ++ (bBk zb G.2.1 Sb ++ (dBk zd (zx 50) (zw 50) G.2.1 Sd qd ++ (mBk zx t0 r0 (zy 50) G.2.1 Sx ++ (hBk zy G.2.1 Sy ++ (mBk zw t1 r1 (zv 50) G.2.1 Sw ++ (hBk zv G.2.1 Sv ++ (R))))))))))))) (fun v w => v = some (.int (if ((¬ z < 0 ∧ ¬ u < z ∧ ¬ nI 1000 < u ∧ ¬ nI 30 < u - z) ∧ isI x 2 ∧ isI y 4 ∧ isI k5 3) then (if (nI 400 < Sh.1 0 ∨ ¬ Sb.1 1 = 0 ∨ ¬ Sr.1 0 = Sr.1 1) then -5 else if tn k5 = 0 then nI (f_ftn wd (Sb.2.1 2) nb (nI (4 * tn x + tn y)) (tn z) (tn u - tn z + 1)).1 else if tn k5 = 1 then (f_ftn wd (Sb.2.1 2) nb (nI (4 * tn x + tn y)) (tn z) (tn u - tn z + 1)).2.1 else (f_ftn wd (Sb.2.1 2) nb (nI (4 * tn x + tn y)) (tn z) (tn u - tn z + 1)).2.2) else -2)) ∧ ∃ (t0 r0 t1 r1 : Nat) (Sx Sy Sw Sv : MS), HX Sy ∧ HX Sv ∧ w = (nBk zn (zs 50) G.2.1 Sn fi fs pa (some (zd 50)) ++ (sBk zs (zm 50) (zb 50) G.2.1 Ss ++ (mBk zm (zt 50) (zr 50) (zh 50) G.2.1 Sm ++ (hBk zh G.2.1 Sh ++ (tBk zt G.2.1 St ++ (rBk zr G.2.1 Sr ++ (bBk zb G.2.1 Sb ++ (dBk zd (zx 50) (zw 50) G.2.1 Sd qd ++ (mBk zx t0 r0 (zy 50) G.2.1 Sx ++ (hBk zy G.2.1 Sy ++ (mBk zw t1 r1 (zv 50) G.2.1 Sw ++ (hBk zv G.2.1 Sv ++ (R)))))))))))))) := by
  refine Con.mk (own := RX10) (by decide) rfl (Nat.le_of_ble_eq_true rfl) (fun X C => ?_)
  have g66 : ¬ ((¬ z < 0 ∧ ¬ u < z ∧ ¬ nI 1000 < u ∧ ¬ nI 30 < u - z) ∧ isI x 2 ∧ isI y 4 ∧ isI k5 3) → J X 11 0 0 (nBk zn (zs 50) G.2.1 Sn fi fs pa (some (zd 50)) ++ (sBk zs (zm 50) (zb 50) G.2.1 Ss ++ (mBk zm (zt 50) (zr 50) (zh 50) G.2.1 Sm ++ (hBk zh G.2.1 Sh ++ (tBk zt G.2.1 St ++ (rBk zr G.2.1 Sr ++ (bBk zb G.2.1 Sb ++ (dBk zd (zx 50) (zw 50) G.2.1 Sd qd ++ (mBk zx t0 r0 (zy 50) G.2.1 Sx ++ (hBk zy G.2.1 Sy ++ (mBk zw t1 r1 (zv 50) G.2.1 Sw ++ (hBk zv G.2.1 Sv ++ (R))))))))))))) 66 [(0, .ref (zn 50)), (1, .int x), (2, .int y), (3, .int z), (4, .int u), (5, .int k5)] [] := by
    intro hF
    refine j_bipush 68 C dX10_fit_66 rfl (v := (-2)) (by decide) ?_
    exact j_iret C dX10_fit_68 ⟨by rw [if_neg hF], _, _, _, _, _, _, _, _, hy, hv, rfl⟩
  have g48 : (x = 0 ∨ x = nI 1) → (¬ z < 0 ∧ ¬ u < z ∧ ¬ nI 1000 < u ∧ ¬ nI 30 < u - z) → J X 11 0 0 (nBk zn (zs 50) G.2.1 Sn fi fs pa (some (zd 50)) ++ (sBk zs (zm 50) (zb 50) G.2.1 Ss ++ (mBk zm (zt 50) (zr 50) (zh 50) G.2.1 Sm ++ (hBk zh G.2.1 Sh ++ (tBk zt G.2.1 St ++ (rBk zr G.2.1 Sr ++ (bBk zb G.2.1 Sb ++ (dBk zd (zx 50) (zw 50) G.2.1 Sd qd ++ (mBk zx t0 r0 (zy 50) G.2.1 Sx ++ (hBk zy G.2.1 Sy ++ (mBk zw t1 r1 (zv 50) G.2.1 Sw ++ (hBk zv G.2.1 Sv ++ (R))))))))))))) 48 [(0, .ref (zn 50)), (1, .int x), (2, .int y), (3, .int z), (4, .int u), (5, .int k5)] [] := by
    intro hx hn
    refine j_iload_n 49 C dX10_fit_48 rfl rfl ?_
    refine j_sI 52 C dX10_fit_49 rfl cw10_135 K10_isSort rfl (by decide) ⟨Nat.le_refl _, Nat.le_refl _⟩ rfl (Nat.le_of_ble_eq_true rfl) ?_
    refine j_if_eqB 66 55 C dX10_fit_52 (by decide) rfl (fun c52 => ?_) (fun c52 => ?_)
    · exact j_weak _ (by exact ⟨rfl, rfl, rfl, rfl, rfl, rfl, trivial⟩) (g66 (fun q => c52 q.2.2.1))
    · refine j_iload 57 C dX10_fit_55 rfl rfl ?_
      refine j_if_lt 66 60 C dX10_fit_57 (by decide) rfl (fun c57 => ?_) (fun c57 => ?_)
      · exact j_weak _ (by exact ⟨rfl, rfl, rfl, rfl, rfl, rfl, trivial⟩) (g66 (fun q => isI_nneg q.2.2.2 c57))
      · refine j_iload 62 C dX10_fit_60 rfl rfl ?_
        refine j_iconst 63 C dX10_fit_62 rfl (v := nI 2) (by decide) ?_
        refine j_icmp_le 69 66 C dX10_fit_63 (by decide) rfl (fun c63 => ?_) (fun c63 => ?_)
        · have hv3 := isI3 c57 c63
          have hF : ((¬ z < 0 ∧ ¬ u < z ∧ ¬ nI 1000 < u ∧ ¬ nI 30 < u - z) ∧ isI x 2 ∧ isI y 4 ∧ isI k5 3) := ⟨hn, isI2 hx, c52, hv3⟩
          obtain ⟨lo, hi, hlh, hhi, hap, rfl, rfl⟩ := num_of hn
          obtain ⟨q, hq, rfl⟩ := isI_of (isI2 hx)
          obtain ⟨s, hs, rfl⟩ := isI_of c52
          obtain ⟨wv, hwv, rfl⟩ := isI_of hv3
          refine j_aload_n 70 C dX10_fit_69 rfl rfl ?_
          refine Pg_n4 73 C dX10_fit_70 rfl fl10_20 ?_
          refine Pg_s0 76 C dX10_fit_73 rfl fl10_61 ?_
          refine Pg_m2 79 C dX10_fit_76 rfl fl10_88 ?_
          refine Pg_h0 82 C dX10_fit_79 rfl fl10_127 ?_
          refine j_sipush 85 C dX10_fit_82 rfl (v := nI 400) (by decide) ?_
          refine j_icmp_gt 117 88 C dX10_fit_85 (by decide) rfl (fun c85 => ?_) (fun c85 => ?_)
          · refine j_bipush 119 C dX10_fit_117 rfl (v := (-5)) (by decide) ?_
            exact j_iret C dX10_fit_119 ⟨by rw [if_pos hF, if_pos (Or.inl c85)], _, _, _, _, _, _, _, _, hy, hv, rfl⟩
          · refine j_aload_n 89 C dX10_fit_88 rfl rfl ?_
            refine Pg_n4 92 C dX10_fit_89 rfl fl10_20 ?_
            refine Pg_s1 95 C dX10_fit_92 rfl fl10_97 ?_
            refine Pg_b1 98 C dX10_fit_95 rfl fl10_209 ?_
            refine j_if_ne 117 101 C dX10_fit_98 (by decide) rfl (fun c98 => ?_) (fun c98 => ?_)
            · refine j_bipush 119 C dX10_fit_117 rfl (v := (-5)) (by decide) ?_
              exact j_iret C dX10_fit_119 ⟨by rw [if_pos hF, if_pos (Or.inr (Or.inl c98))], _, _, _, _, _, _, _, _, hy, hv, rfl⟩
            · refine j_aload_n 102 C dX10_fit_101 rfl rfl ?_
              refine Pg_n4 105 C dX10_fit_102 rfl fl10_20 ?_
              refine Pg_s0 108 C dX10_fit_105 rfl fl10_61 ?_
              refine Pg_m1 111 C dX10_fit_108 rfl fl10_78 ?_
              refine Px_rI 114 C dX10_fit_111 rfl cw10_213 rfl K5_grown rfl (by decide) ⟨Nat.le_refl _, Nat.le_refl _⟩ rfl (Nat.le_of_ble_eq_true rfl) ?_
              refine j_if_eqB 120 117 C dX10_fit_114 (by decide) rfl (fun c114 => ?_) (fun c114 => ?_)
              · have hB := hB0 c85
                have hN : ¬ (nI 400 < Sh.1 0 ∨ ¬ Sb.1 1 = 0 ∨ ¬ Sr.1 0 = Sr.1 1) := fun z => z.elim c85 (fun z => z.elim (fun z => z c98) c114)
                obtain ⟨lw, hlw⟩ : ∃ lw, lw = q * 4 + s := ⟨_, rfl⟩
                have hl8 : lw < 8 := by omega
                have hX : f_ftn wd (Sb.2.1 2) nb (nI (4 * tn (nI q) + tn (nI s))) (tn (nI lo)) (tn (nI hi) - tn (nI lo) + 1) = f_ftn wd (Sb.2.1 2) nb (nI lw) lo (hi - lo + 1) := by rw [tn_nI (by omega), tn_nI (by omega), tn_nI (by omega), tn_nI (by omega), hlw, Nat.mul_comm]
                refine j_iconst 121 C dX10_fit_120 rfl (v := nI 0) (by decide) ?_
                refine j_istore 123 C dX10_fit_121 rfl rfl (by decide) ?_
                refine j_iconst 124 C dX10_fit_123 rfl (v := (-1)) (by decide) ?_
                refine j_istore 126 C dX10_fit_124 rfl rfl (by decide) ?_
                refine j_iconst 127 C dX10_fit_126 rfl (v := (-1)) (by decide) ?_
                refine j_istore 129 C dX10_fit_127 rfl rfl (by decide) ?_
                refine j_iload_n 130 C dX10_fit_129 rfl rfl ?_
                refine j_istore 132 C dX10_fit_130 rfl rfl (by decide) ?_
                refine j_iload 134 C dX10_fit_132 rfl rfl ?_
                refine j_iload 136 C dX10_fit_134 rfl rfl ?_
                refine j_icmp_gtN 188 139 C dX10_fit_136 (by decide) rfl (by omega) (by omega) (fun c136 => absurd c136 (by omega)) (fun c136 => ?_)
                refine j_aload_n 140 C dX10_fit_139 rfl rfl ?_
                refine Pdesk 143 C dX10_fit_140 rfl (by decide) ⟨Nat.le_refl _, Nat.le_refl _⟩ (Nat.le_of_ble_eq_true rfl) ?_
                have g188 : ∀ (a : Nat) (f e : Int32) (t0 r0 t1 r1 : Nat) (Sx Sy Sw Sv : MS), HX Sy → HX Sv → (a, f, e) = (f_ftn wd (Sb.2.1 2) nb (nI lw) lo (hi - lo + 1)) → J X 11 0 0 (nBk zn (zs 50) G.2.1 Sn fi fs pa (some (zd 50)) ++ (sBk zs (zm 50) (zb 50) G.2.1 Ss ++ (mBk zm (zt 50) (zr 50) (zh 50) G.2.1 Sm ++ (hBk zh G.2.1 Sh ++ (tBk zt G.2.1 St ++ (rBk zr G.2.1 Sr ++ (bBk zb G.2.1 Sb ++ (dBk zd (zx 50) (zw 50) G.2.1 Sd qd ++ (mBk zx t0 r0 (zy 50) G.2.1 Sx ++ (hBk zy G.2.1 Sy ++ (mBk zw t1 r1 (zv 50) G.2.1 Sw ++ (hBk zv G.2.1 Sv ++ (R))))))))))))) 188 [(0, .ref (zn 50)), (5, .int (nI wv)), (7, .int (nI a)), (8, .int f), (9, .int e)] [] := by
                  intro a f e t0 r0 t1 r1 Sx Sy Sw Sv hy1 hv1 hE
                  refine j_iload 190 C dX10_fit_188 rfl rfl ?_
                  refine j_if_neN 196 193 C dX10_fit_190 (by decide) rfl (by omega) (fun c190 => ?_) (fun c190 => ?_)
                  · refine j_iload 198 C dX10_fit_196 rfl rfl ?_
                    refine j_iconst 199 C dX10_fit_198 rfl (v := nI 1) (by decide) ?_
                    refine j_icmp_neN 207 202 C dX10_fit_199 (by decide) rfl (by omega) (by omega) (fun c199 => ?_) (fun c199 => ?_)
                    · refine j_iload 209 C dX10_fit_207 rfl rfl ?_
                      exact j_iret C dX10_fit_209 ⟨by rw [if_pos hF, if_neg hN, hX, ← hE, if_neg (by rw [tn_nI (by omega)]; omega), if_neg (by rw [tn_nI (by omega)]; omega)], _, _, _, _, _, _, _, _, hy1, hv1, rfl⟩
                    · refine j_iload 204 C dX10_fit_202 rfl rfl ?_
                      refine j_goto 209 C dX10_fit_204 (by decide) ?_
                      exact j_iret C dX10_fit_209 ⟨by rw [if_pos hF, if_neg hN, hX, ← hE, if_neg (by rw [tn_nI (by omega)]; omega), if_pos (by rw [tn_nI (by omega)]; omega)], _, _, _, _, _, _, _, _, hy1, hv1, rfl⟩
                  · refine j_iload 195 C dX10_fit_193 rfl rfl ?_
                    exact j_iret C dX10_fit_195 ⟨by rw [if_pos hF, if_neg hN, hX, ← hE, if_pos (by rw [tn_nI (by omega)]; omega)], _, _, _, _, _, _, _, _, hy1, hv1, rfl⟩
                have lp132 : ∀ (m : Nat) (j a : Nat) (f e : Int32) (t0 r0 t1 r1 : Nat) (Sx Sy Sw Sv : MS), hi - lo + 1 - j = m → 1 ≤ j → j ≤ hi - lo + 1 → HX Sy → HX Sv → (a, f, e) = (f_ftn wd (Sb.2.1 2) nb (nI lw) lo j) → J X 11 0 0 (nBk zn (zs 50) G.2.1 Sn fi fs pa (some (zd 50)) ++ (sBk zs (zm 50) (zb 50) G.2.1 Ss ++ (mBk zm (zt 50) (zr 50) (zh 50) G.2.1 Sm ++ (hBk zh G.2.1 Sh ++ (tBk zt G.2.1 St ++ (rBk zr G.2.1 Sr ++ (bBk zb G.2.1 Sb ++ (dBk zd (zx 50) (zw 50) G.2.1 Sd qd ++ (mBk zx t0 r0 (zy 50) G.2.1 Sx ++ (hBk zy G.2.1 Sy ++ (mBk zw t1 r1 (zv 50) G.2.1 Sw ++ (hBk zv G.2.1 Sv ++ (R))))))))))))) 132 [(0, .ref (zn 50)), (1, .int (nI q)), (2, .int (nI s)), (4, .int (nI hi)), (5, .int (nI wv)), (7, .int (nI a)), (8, .int f), (9, .int e), (10, .int (nI (lo + j)))] [] := by
                  intro m
                  induction m using Nat.strongRecOn with
                  | ind m ilp132 =>
                  intro j a f e t0 r0 t1 r1 Sx Sy Sw Sv hm hj1 hj hy1 hv1 hE
                  refine j_iload 134 C dX10_fit_132 rfl rfl ?_
                  refine j_iload 136 C dX10_fit_134 rfl rfl ?_
                  refine j_icmp_gtN 188 139 C dX10_fit_136 (by decide) rfl (by omega) (by omega) (fun c136 => ?_) (fun c136 => ?_)
                  · exact j_weak _ (by exact ⟨rfl, rfl, rfl, rfl, rfl, trivial⟩) (g188 a f e t0 r0 t1 r1 Sx Sy Sw Sv hy1 hv1 (by rw [hE, show j = hi - lo + 1 by omega]))
                  · refine j_aload_n 140 C dX10_fit_139 rfl rfl ?_
                    refine Pdesk 143 C dX10_fit_140 rfl (by decide) ⟨Nat.le_refl _, Nat.le_refl _⟩ (Nat.le_of_ble_eq_true rfl) ?_
                    refine j_aload_n 144 C dX10_fit_143 rfl rfl ?_
                    refine Pg_n4 147 C dX10_fit_144 rfl fl10_20 ?_
                    refine j_iload_n 148 C dX10_fit_147 rfl rfl ?_
                    refine j_iload_n 149 C dX10_fit_148 rfl rfl ?_
                    refine j_sI 152 C dX10_fit_149 rfl cw10_217 K10_lawOf rfl (by decide) ⟨Nat.le_refl _, Nat.le_refl _⟩ rfl (Nat.le_of_ble_eq_true rfl) ?_
                    refine j_top (x' := nI lw) (by rw [hlw]) ?_
                    refine j_iload 154 C dX10_fit_152 rfl rfl ?_
                    refine Pr_CI 157 C dX10_fit_154 rfl cw10_220 rfl (K1_comesToBook hT hR hW hy1 hl8 hb0 hb6 hB) rfl (by decide) ⟨Nat.le_refl _, Nat.le_refl _⟩ rfl (Nat.le_of_ble_eq_true rfl) (fun x154 s154 hs154 => ?_)
                    obtain ⟨e154, hy154⟩ := hs154
                    subst e154
                    refine j_if_eqB 182 160 C dX10_fit_157 (by decide) rfl (fun c157 => ?_) (fun c157 => ?_)
                    · refine j_iincN 185 (z := 1) C dX10_fit_182 rfl rfl rfl (by decide) ?_
                      refine j_goto 132 C dX10_fit_185 (by decide) ?_
                      exact j_weak _ (by exact ⟨rfl, rfl, rfl, rfl, rfl, rfl, rfl, rfl, rfl, trivial⟩) (ilp132 _ (by omega) (j + 1) a f e _ _ _ _ _ _ _ _ rfl (by omega) (by omega) hy154 hv1 (by rw [f_ftn, if_neg c157]; exact hE))
                    · refine j_iincN 163 (z := 1) C dX10_fit_160 rfl rfl rfl (by decide) ?_
                      refine j_iload 165 C dX10_fit_163 rfl rfl ?_
                      refine j_iconst 166 C dX10_fit_165 rfl (v := (-1)) (by decide) ?_
                      refine j_icmp_ne 174 169 C dX10_fit_166 (by decide) rfl (fun c166 => ?_) (fun c166 => ?_)
                      · refine j_iload 176 C dX10_fit_174 rfl rfl ?_
                        refine j_istore 178 C dX10_fit_176 rfl rfl (by decide) ?_
                        refine j_iload 180 C dX10_fit_178 rfl rfl ?_
                        refine j_istore 182 C dX10_fit_180 rfl rfl (by decide) ?_
                        refine j_iincN 185 (z := 1) C dX10_fit_182 rfl rfl rfl (by decide) ?_
                        refine j_goto 132 C dX10_fit_185 (by decide) ?_
                        exact j_weak _ (by exact ⟨rfl, rfl, rfl, rfl, rfl, rfl, rfl, rfl, rfl, trivial⟩) (ilp132 _ (by omega) (j + 1) (a + 1) f _ _ _ _ _ _ _ _ _ rfl (by omega) (by omega) hy154 hv1 (by rw [f_ftn, if_pos c157, ← hE, if_neg c166]))
                      · refine j_iload 171 C dX10_fit_169 rfl rfl ?_
                        refine j_goto 176 C dX10_fit_171 (by decide) ?_
                        refine j_istore 178 C dX10_fit_176 rfl rfl (by decide) ?_
                        refine j_iload 180 C dX10_fit_178 rfl rfl ?_
                        refine j_istore 182 C dX10_fit_180 rfl rfl (by decide) ?_
                        refine j_iincN 185 (z := 1) C dX10_fit_182 rfl rfl rfl (by decide) ?_
                        refine j_goto 132 C dX10_fit_185 (by decide) ?_
                        exact j_weak _ (by exact ⟨rfl, rfl, rfl, rfl, rfl, rfl, rfl, rfl, rfl, trivial⟩) (ilp132 _ (by omega) (j + 1) (a + 1) _ _ _ _ _ _ _ _ _ _ rfl (by omega) (by omega) hy154 hv1 (by rw [f_ftn, if_pos c157, ← hE, if_pos c166]))
                refine j_aload_n 144 C dX10_fit_143 rfl rfl ?_
                refine Pg_n4 147 C dX10_fit_144 rfl fl10_20 ?_
                refine j_iload_n 148 C dX10_fit_147 rfl rfl ?_
                refine j_iload_n 149 C dX10_fit_148 rfl rfl ?_
                refine j_sI 152 C dX10_fit_149 rfl cw10_217 K10_lawOf rfl (by decide) ⟨Nat.le_refl _, Nat.le_refl _⟩ rfl (Nat.le_of_ble_eq_true rfl) ?_
                refine j_top (x' := nI lw) (by rw [hlw]) ?_
                refine j_iload 154 C dX10_fit_152 rfl rfl ?_
                refine Pr_CI 157 C dX10_fit_154 rfl cw10_220 rfl (K1_comesToBook hT hR hW hy hl8 hb0 hb6 hB) rfl (by decide) ⟨Nat.le_refl _, Nat.le_refl _⟩ rfl (Nat.le_of_ble_eq_true rfl) (fun x154 s154 hs154 => ?_)
                obtain ⟨e154, hy154⟩ := hs154
                subst e154
                refine j_if_eqB 182 160 C dX10_fit_157 (by decide) rfl (fun c157 => ?_) (fun c157 => ?_)
                · refine j_iincN 185 (z := 1) C dX10_fit_182 rfl rfl rfl (by decide) ?_
                  refine j_goto 132 C dX10_fit_185 (by decide) ?_
                  exact j_weak _ (by exact ⟨rfl, rfl, rfl, rfl, rfl, rfl, rfl, rfl, rfl, trivial⟩) (lp132 _ 1 0 (-1) (-1) _ _ _ _ _ _ _ _ rfl (by omega) (by omega) hy154 hv (by rw [f_ftn, Nat.add_zero, if_neg c157]; rfl))
                · refine j_iincN 163 (z := 1) C dX10_fit_160 rfl rfl rfl (by decide) ?_
                  refine j_iload 165 C dX10_fit_163 rfl rfl ?_
                  refine j_iconst 166 C dX10_fit_165 rfl (v := (-1)) (by decide) ?_
                  refine j_icmp_ne 174 169 C dX10_fit_166 (by decide) rfl (fun c166 => absurd rfl c166) (fun c166 => ?_)
                  refine j_iload 171 C dX10_fit_169 rfl rfl ?_
                  refine j_goto 176 C dX10_fit_171 (by decide) ?_
                  refine j_istore 178 C dX10_fit_176 rfl rfl (by decide) ?_
                  refine j_iload 180 C dX10_fit_178 rfl rfl ?_
                  refine j_istore 182 C dX10_fit_180 rfl rfl (by decide) ?_
                  refine j_iincN 185 (z := 1) C dX10_fit_182 rfl rfl rfl (by decide) ?_
                  refine j_goto 132 C dX10_fit_185 (by decide) ?_
                  exact j_weak _ (by exact ⟨rfl, rfl, rfl, rfl, rfl, rfl, rfl, rfl, rfl, trivial⟩) (lp132 _ 1 1 (nI lo) (nI lo) _ _ _ _ _ _ _ _ rfl (by omega) (by omega) hy154 hv (by rw [f_ftn, Nat.add_zero, if_pos c157]; rfl))
              · refine j_bipush 119 C dX10_fit_117 rfl (v := (-5)) (by decide) ?_
                exact j_iret C dX10_fit_119 ⟨by rw [if_pos hF, if_pos (Or.inr (Or.inr c114))], _, _, _, _, _, _, _, _, hy, hv, rfl⟩
        · exact j_weak _ (by exact ⟨rfl, rfl, rfl, rfl, rfl, rfl, trivial⟩) (g66 (fun q => isI_nle q.2.2.2 c63))
  refine j_iload_n 1 C dX10_fit_0 rfl rfl ?_
  refine j_if_lt 31 4 C dX10_fit_1 (by decide) rfl (fun c1 => ?_) (fun c1 => ?_)
  · refine j_iconst 32 C dX10_fit_31 rfl (v := nI 0) (by decide) ?_
    refine j_istore 34 C dX10_fit_32 rfl rfl (by decide) ?_
    refine j_iload 36 C dX10_fit_34 rfl rfl ?_
    refine j_if_eqN 66 39 C dX10_fit_36 (by decide) rfl (by omega) (fun c36 => ?_) (fun c36 => absurd c36 (Nat.lt_irrefl _))
    exact j_weak _ (by exact ⟨rfl, rfl, rfl, rfl, rfl, rfl, trivial⟩) (g66 (fun q => q.1.1 c1))
  · refine j_iload_n 5 C dX10_fit_4 rfl rfl ?_
    refine j_iload 7 C dX10_fit_5 rfl rfl ?_
    refine j_icmp_gt 31 10 C dX10_fit_7 (by decide) rfl (fun c7 => ?_) (fun c7 => ?_)
    · refine j_iconst 32 C dX10_fit_31 rfl (v := nI 0) (by decide) ?_
      refine j_istore 34 C dX10_fit_32 rfl rfl (by decide) ?_
      refine j_iload 36 C dX10_fit_34 rfl rfl ?_
      refine j_if_eqN 66 39 C dX10_fit_36 (by decide) rfl (by omega) (fun c36 => ?_) (fun c36 => absurd c36 (Nat.lt_irrefl _))
      exact j_weak _ (by exact ⟨rfl, rfl, rfl, rfl, rfl, rfl, trivial⟩) (g66 (fun q => q.1.2.1 c7))
    · refine j_iload 12 C dX10_fit_10 rfl rfl ?_
      refine j_sipush 15 C dX10_fit_12 rfl (v := nI 1000) (by decide) ?_
      refine j_icmp_gt 31 18 C dX10_fit_15 (by decide) rfl (fun c15 => ?_) (fun c15 => ?_)
      · refine j_iconst 32 C dX10_fit_31 rfl (v := nI 0) (by decide) ?_
        refine j_istore 34 C dX10_fit_32 rfl rfl (by decide) ?_
        refine j_iload 36 C dX10_fit_34 rfl rfl ?_
        refine j_if_eqN 66 39 C dX10_fit_36 (by decide) rfl (by omega) (fun c36 => ?_) (fun c36 => absurd c36 (Nat.lt_irrefl _))
        exact j_weak _ (by exact ⟨rfl, rfl, rfl, rfl, rfl, rfl, trivial⟩) (g66 (fun q => q.1.2.2.1 c15))
      · refine j_iload 20 C dX10_fit_18 rfl rfl ?_
        refine j_iload_n 21 C dX10_fit_20 rfl rfl ?_
        refine j_isub 22 C dX10_fit_21 rfl ?_
        refine j_bipush 24 C dX10_fit_22 rfl (v := nI 30) (by decide) ?_
        refine j_icmp_gt 31 27 C dX10_fit_24 (by decide) rfl (fun c24 => ?_) (fun c24 => ?_)
        · refine j_iconst 32 C dX10_fit_31 rfl (v := nI 0) (by decide) ?_
          refine j_istore 34 C dX10_fit_32 rfl rfl (by decide) ?_
          refine j_iload 36 C dX10_fit_34 rfl rfl ?_
          refine j_if_eqN 66 39 C dX10_fit_36 (by decide) rfl (by omega) (fun c36 => ?_) (fun c36 => absurd c36 (Nat.lt_irrefl _))
          exact j_weak _ (by exact ⟨rfl, rfl, rfl, rfl, rfl, rfl, trivial⟩) (g66 (fun q => q.1.2.2.2 c24))
        · refine j_iconst 28 C dX10_fit_27 rfl (v := nI 1) (by decide) ?_
          refine j_goto 32 C dX10_fit_28 (by decide) ?_
          refine j_istore 34 C dX10_fit_32 rfl rfl (by decide) ?_
          refine j_iload 36 C dX10_fit_34 rfl rfl ?_
          refine j_if_eqN 66 39 C dX10_fit_36 (by decide) rfl (by omega) (fun c36 => absurd c36 (by decide)) (fun c36 => ?_)
          refine j_iload_n 40 C dX10_fit_39 rfl rfl ?_
          refine j_if_eq 48 43 C dX10_fit_40 (by decide) rfl (fun c40 => ?_) (fun c40 => ?_)
          · exact j_weak _ (by exact ⟨rfl, rfl, rfl, rfl, rfl, rfl, trivial⟩) (g48 (Or.inl c40) ⟨c1, c7, c15, c24⟩)
          · refine j_iload_n 44 C dX10_fit_43 rfl rfl ?_
            refine j_iconst 45 C dX10_fit_44 rfl (v := nI 1) (by decide) ?_
            refine j_icmp_ne 66 48 C dX10_fit_45 (by decide) rfl (fun c45 => ?_) (fun c45 => ?_)
            · exact j_weak _ (by exact ⟨rfl, rfl, rfl, rfl, rfl, rfl, trivial⟩) (g66 (fun q => (isI2' q.2.1).elim c40 c45))
            · exact j_weak _ (by exact ⟨rfl, rfl, rfl, rfl, rfl, rfl, trivial⟩) (g48 (Or.inr c45) ⟨c1, c7, c15, c24⟩)
theorem K10_fitB (hT : TT (-1) St wd) (hR : RR Sr wd) (hW : WF wd) (hH0 : HR wd Sh hd hr td) (h3 : Sm.1 3 = -1) (h4 : Sm.1 4 = -1) (hhr : hr + 300 ≤ 1000000000) (htd : td + 100 ≤ 1000000000) (hb0 : Sb.1 0 = nI nb) (hb6 : nb ≤ 60) (hB0 : ¬ nI 400 < Sh.1 0 → BH (Sb.2.1 2) nb (nrw wd)) : Con l G yX10_fit cX10_fit 11 (some .int) 10 10 5119 [.ref (zn 50), .int x, .int y, .int z, .int u, .int k5] (nBk zn (zs 50) G.2.1 Sn fi fs pa none ++ (sBk zs (zm 50) (zb 50) G.2.1 Ss ++ (mBk zm (zt 50) (zr 50) (zh 50) G.2.1 Sm ++ (hBk zh G.2.1 Sh ++ (tBk zt G.2.1 St ++ (rBk zr G.2.1 Sr ++ (bBk zb G.2.1 Sb ++ (R)))))))) (fun v w => v = some (.int (if ((¬ z < 0 ∧ ¬ u < z ∧ ¬ nI 1000 < u ∧ ¬ nI 30 < u - z) ∧ isI x 2 ∧ isI y 4 ∧ isI k5 3) then (if (nI 400 < Sh.1 0 ∨ ¬ Sb.1 1 = 0 ∨ ¬ Sr.1 0 = Sr.1 1) then -5 else if tn k5 = 0 then nI (f_ftn wd (Sb.2.1 2) nb (nI (4 * tn x + tn y)) (tn z) (tn u - tn z + 1)).1 else if tn k5 = 1 then (f_ftn wd (Sb.2.1 2) nb (nI (4 * tn x + tn y)) (tn z) (tn u - tn z + 1)).2.1 else (f_ftn wd (Sb.2.1 2) nb (nI (4 * tn x + tn y)) (tn z) (tn u - tn z + 1)).2.2) else -2)) ∧ (w = (nBk zn (zs 50) G.2.1 Sn fi fs pa none ++ (sBk zs (zm 50) (zb 50) G.2.1 Ss ++ (mBk zm (zt 50) (zr 50) (zh 50) G.2.1 Sm ++ (hBk zh G.2.1 Sh ++ (tBk zt G.2.1 St ++ (rBk zr G.2.1 Sr ++ (bBk zb G.2.1 Sb ++ (R)))))))) ∨ ∃ (zd zx zy zw zv : Nat → Nat) (t0 r0 t1 r1 : Nat) (Sx Sy Sw Sv : MS), HX Sy ∧ HX Sv ∧ w = (nBk zn (zs 50) G.2.1 Sn fi fs pa (some (zd 50)) ++ (sBk zs (zm 50) (zb 50) G.2.1 Ss ++ (mBk zm (zt 50) (zr 50) (zh 50) G.2.1 Sm ++ (hBk zh G.2.1 Sh ++ (tBk zt G.2.1 St ++ (rBk zr G.2.1 Sr ++ (bBk zb G.2.1 Sb ++ (dBk zd (zx 50) (zw 50) G.2.1 MS0 (fun _ => none) ++ (mBk zx t0 r0 (zy 50) G.2.1 Sx ++ (hBk zy G.2.1 Sy ++ (mBk zw t1 r1 (zv 50) G.2.1 Sw ++ (hBk zv G.2.1 Sv ++ (R))))))))))))))) := by
  refine Con.mk (own := RX10) (by decide) rfl (Nat.le_of_ble_eq_true rfl) (fun X C => ?_)
  have g66 : ¬ ((¬ z < 0 ∧ ¬ u < z ∧ ¬ nI 1000 < u ∧ ¬ nI 30 < u - z) ∧ isI x 2 ∧ isI y 4 ∧ isI k5 3) → J X 11 0 0 (nBk zn (zs 50) G.2.1 Sn fi fs pa none ++ (sBk zs (zm 50) (zb 50) G.2.1 Ss ++ (mBk zm (zt 50) (zr 50) (zh 50) G.2.1 Sm ++ (hBk zh G.2.1 Sh ++ (tBk zt G.2.1 St ++ (rBk zr G.2.1 Sr ++ (bBk zb G.2.1 Sb ++ (R)))))))) 66 [(0, .ref (zn 50)), (1, .int x), (2, .int y), (3, .int z), (4, .int u), (5, .int k5)] [] := by
    intro hF
    refine j_bipush 68 C dX10_fit_66 rfl (v := (-2)) (by decide) ?_
    refine j_widen 10 5119 (by decide) (by decide) ?_
    exact j_iret C dX10_fit_68 ⟨by rw [if_neg hF], Or.inl rfl⟩
  have g48 : (x = 0 ∨ x = nI 1) → (¬ z < 0 ∧ ¬ u < z ∧ ¬ nI 1000 < u ∧ ¬ nI 30 < u - z) → J X 11 0 0 (nBk zn (zs 50) G.2.1 Sn fi fs pa none ++ (sBk zs (zm 50) (zb 50) G.2.1 Ss ++ (mBk zm (zt 50) (zr 50) (zh 50) G.2.1 Sm ++ (hBk zh G.2.1 Sh ++ (tBk zt G.2.1 St ++ (rBk zr G.2.1 Sr ++ (bBk zb G.2.1 Sb ++ (R)))))))) 48 [(0, .ref (zn 50)), (1, .int x), (2, .int y), (3, .int z), (4, .int u), (5, .int k5)] [] := by
    intro hx hn
    refine j_iload_n 49 C dX10_fit_48 rfl rfl ?_
    refine j_sI 52 C dX10_fit_49 rfl cw10_135 K10_isSort rfl (by decide) ⟨Nat.zero_le _, Nat.zero_le _⟩ rfl (Nat.le_of_ble_eq_true rfl) ?_
    refine j_if_eqB 66 55 C dX10_fit_52 (by decide) rfl (fun c52 => ?_) (fun c52 => ?_)
    · exact j_weak _ (by exact ⟨rfl, rfl, rfl, rfl, rfl, rfl, trivial⟩) (g66 (fun q => c52 q.2.2.1))
    · refine j_iload 57 C dX10_fit_55 rfl rfl ?_
      refine j_if_lt 66 60 C dX10_fit_57 (by decide) rfl (fun c57 => ?_) (fun c57 => ?_)
      · exact j_weak _ (by exact ⟨rfl, rfl, rfl, rfl, rfl, rfl, trivial⟩) (g66 (fun q => isI_nneg q.2.2.2 c57))
      · refine j_iload 62 C dX10_fit_60 rfl rfl ?_
        refine j_iconst 63 C dX10_fit_62 rfl (v := nI 2) (by decide) ?_
        refine j_icmp_le 69 66 C dX10_fit_63 (by decide) rfl (fun c63 => ?_) (fun c63 => ?_)
        · have hv3 := isI3 c57 c63
          have hF : ((¬ z < 0 ∧ ¬ u < z ∧ ¬ nI 1000 < u ∧ ¬ nI 30 < u - z) ∧ isI x 2 ∧ isI y 4 ∧ isI k5 3) := ⟨hn, isI2 hx, c52, hv3⟩
          obtain ⟨lo, hi, hlh, hhi, hap, rfl, rfl⟩ := num_of hn
          obtain ⟨q, hq, rfl⟩ := isI_of (isI2 hx)
          obtain ⟨s, hs, rfl⟩ := isI_of c52
          obtain ⟨wv, hwv, rfl⟩ := isI_of hv3
          refine j_aload_n 70 C dX10_fit_69 rfl rfl ?_
          refine Lng_n4 73 C dX10_fit_70 rfl fl10_20 ?_
          refine Lng_s0 76 C dX10_fit_73 rfl fl10_61 ?_
          refine Lng_m2 79 C dX10_fit_76 rfl fl10_88 ?_
          refine Lng_h0 82 C dX10_fit_79 rfl fl10_127 ?_
          refine j_sipush 85 C dX10_fit_82 rfl (v := nI 400) (by decide) ?_
          refine j_icmp_gt 117 88 C dX10_fit_85 (by decide) rfl (fun c85 => ?_) (fun c85 => ?_)
          · refine j_bipush 119 C dX10_fit_117 rfl (v := (-5)) (by decide) ?_
            refine j_widen 10 5119 (by decide) (by decide) ?_
            exact j_iret C dX10_fit_119 ⟨by rw [if_pos hF, if_pos (Or.inl c85)], Or.inl rfl⟩
          · refine j_aload_n 89 C dX10_fit_88 rfl rfl ?_
            refine Lng_n4 92 C dX10_fit_89 rfl fl10_20 ?_
            refine Lng_s1 95 C dX10_fit_92 rfl fl10_97 ?_
            refine Lng_b1 98 C dX10_fit_95 rfl fl10_209 ?_
            refine j_if_ne 117 101 C dX10_fit_98 (by decide) rfl (fun c98 => ?_) (fun c98 => ?_)
            · refine j_bipush 119 C dX10_fit_117 rfl (v := (-5)) (by decide) ?_
              refine j_widen 10 5119 (by decide) (by decide) ?_
              exact j_iret C dX10_fit_119 ⟨by rw [if_pos hF, if_pos (Or.inr (Or.inl c98))], Or.inl rfl⟩
            · refine j_aload_n 102 C dX10_fit_101 rfl rfl ?_
              refine Lng_n4 105 C dX10_fit_102 rfl fl10_20 ?_
              refine Lng_s0 108 C dX10_fit_105 rfl fl10_61 ?_
              refine Lng_m1 111 C dX10_fit_108 rfl fl10_78 ?_
              refine Lnx_rI 114 C dX10_fit_111 rfl cw10_213 rfl K5_grown rfl (by decide) ⟨Nat.zero_le _, Nat.zero_le _⟩ rfl (Nat.le_of_ble_eq_true rfl) ?_
              refine j_if_eqB 120 117 C dX10_fit_114 (by decide) rfl (fun c114 => ?_) (fun c114 => ?_)
              · have hB := hB0 c85
                have hN : ¬ (nI 400 < Sh.1 0 ∨ ¬ Sb.1 1 = 0 ∨ ¬ Sr.1 0 = Sr.1 1) := fun z => z.elim c85 (fun z => z.elim (fun z => z c98) c114)
                obtain ⟨lw, hlw⟩ : ∃ lw, lw = q * 4 + s := ⟨_, rfl⟩
                have hl8 : lw < 8 := by omega
                have hX : f_ftn wd (Sb.2.1 2) nb (nI (4 * tn (nI q) + tn (nI s))) (tn (nI lo)) (tn (nI hi) - tn (nI lo) + 1) = f_ftn wd (Sb.2.1 2) nb (nI lw) lo (hi - lo + 1) := by rw [tn_nI (by omega), tn_nI (by omega), tn_nI (by omega), tn_nI (by omega), hlw, Nat.mul_comm]
                refine j_iconst 121 C dX10_fit_120 rfl (v := nI 0) (by decide) ?_
                refine j_istore 123 C dX10_fit_121 rfl rfl (by decide) ?_
                refine j_iconst 124 C dX10_fit_123 rfl (v := (-1)) (by decide) ?_
                refine j_istore 126 C dX10_fit_124 rfl rfl (by decide) ?_
                refine j_iconst 127 C dX10_fit_126 rfl (v := (-1)) (by decide) ?_
                refine j_istore 129 C dX10_fit_127 rfl rfl (by decide) ?_
                refine j_iload_n 130 C dX10_fit_129 rfl rfl ?_
                refine j_istore 132 C dX10_fit_130 rfl rfl (by decide) ?_
                refine j_iload 134 C dX10_fit_132 rfl rfl ?_
                refine j_iload 136 C dX10_fit_134 rfl rfl ?_
                refine j_icmp_gtN 188 139 C dX10_fit_136 (by decide) rfl (by omega) (by omega) (fun c136 => absurd c136 (by omega)) (fun c136 => ?_)
                refine j_aload_n 140 C dX10_fit_139 rfl rfl ?_
                refine Ldesk0 143 C dX10_fit_140 rfl (by decide) (Nat.le_of_ble_eq_true rfl) (fun zd zx zy zw zv => ?_)
                have hy := HX0
                have hv := HX0
                have g188 : ∀ (a : Nat) (f e : Int32) (t0 r0 t1 r1 : Nat) (Sx Sy Sw Sv : MS), HX Sy → HX Sv → (a, f, e) = (f_ftn wd (Sb.2.1 2) nb (nI lw) lo (hi - lo + 1)) → J X 11 10 5119 (nBk zn (zs 50) G.2.1 Sn fi fs pa (some (zd 50)) ++ (sBk zs (zm 50) (zb 50) G.2.1 Ss ++ (mBk zm (zt 50) (zr 50) (zh 50) G.2.1 Sm ++ (hBk zh G.2.1 Sh ++ (tBk zt G.2.1 St ++ (rBk zr G.2.1 Sr ++ (bBk zb G.2.1 Sb ++ (dBk zd (zx 50) (zw 50) G.2.1 MS0 (fun _ => none) ++ (mBk zx t0 r0 (zy 50) G.2.1 Sx ++ (hBk zy G.2.1 Sy ++ (mBk zw t1 r1 (zv 50) G.2.1 Sw ++ (hBk zv G.2.1 Sv ++ (R))))))))))))) 188 [(0, .ref (zn 50)), (5, .int (nI wv)), (7, .int (nI a)), (8, .int f), (9, .int e)] [] := by
                  intro a f e t0 r0 t1 r1 Sx Sy Sw Sv hy1 hv1 hE
                  refine j_iload 190 C dX10_fit_188 rfl rfl ?_
                  refine j_if_neN 196 193 C dX10_fit_190 (by decide) rfl (by omega) (fun c190 => ?_) (fun c190 => ?_)
                  · refine j_iload 198 C dX10_fit_196 rfl rfl ?_
                    refine j_iconst 199 C dX10_fit_198 rfl (v := nI 1) (by decide) ?_
                    refine j_icmp_neN 207 202 C dX10_fit_199 (by decide) rfl (by omega) (by omega) (fun c199 => ?_) (fun c199 => ?_)
                    · refine j_iload 209 C dX10_fit_207 rfl rfl ?_
                      exact j_iret C dX10_fit_209 ⟨by rw [if_pos hF, if_neg hN, hX, ← hE, if_neg (by rw [tn_nI (by omega)]; omega), if_neg (by rw [tn_nI (by omega)]; omega)], Or.inr ⟨zd, zx, zy, zw, zv, _, _, _, _, _, _, _, _, hy1, hv1, rfl⟩⟩
                    · refine j_iload 204 C dX10_fit_202 rfl rfl ?_
                      refine j_goto 209 C dX10_fit_204 (by decide) ?_
                      exact j_iret C dX10_fit_209 ⟨by rw [if_pos hF, if_neg hN, hX, ← hE, if_neg (by rw [tn_nI (by omega)]; omega), if_pos (by rw [tn_nI (by omega)]; omega)], Or.inr ⟨zd, zx, zy, zw, zv, _, _, _, _, _, _, _, _, hy1, hv1, rfl⟩⟩
                  · refine j_iload 195 C dX10_fit_193 rfl rfl ?_
                    exact j_iret C dX10_fit_195 ⟨by rw [if_pos hF, if_neg hN, hX, ← hE, if_pos (by rw [tn_nI (by omega)]; omega)], Or.inr ⟨zd, zx, zy, zw, zv, _, _, _, _, _, _, _, _, hy1, hv1, rfl⟩⟩
                have lp132 : ∀ (m : Nat) (j a : Nat) (f e : Int32) (t0 r0 t1 r1 : Nat) (Sx Sy Sw Sv : MS), hi - lo + 1 - j = m → 1 ≤ j → j ≤ hi - lo + 1 → HX Sy → HX Sv → (a, f, e) = (f_ftn wd (Sb.2.1 2) nb (nI lw) lo j) → J X 11 10 5119 (nBk zn (zs 50) G.2.1 Sn fi fs pa (some (zd 50)) ++ (sBk zs (zm 50) (zb 50) G.2.1 Ss ++ (mBk zm (zt 50) (zr 50) (zh 50) G.2.1 Sm ++ (hBk zh G.2.1 Sh ++ (tBk zt G.2.1 St ++ (rBk zr G.2.1 Sr ++ (bBk zb G.2.1 Sb ++ (dBk zd (zx 50) (zw 50) G.2.1 MS0 (fun _ => none) ++ (mBk zx t0 r0 (zy 50) G.2.1 Sx ++ (hBk zy G.2.1 Sy ++ (mBk zw t1 r1 (zv 50) G.2.1 Sw ++ (hBk zv G.2.1 Sv ++ (R))))))))))))) 132 [(0, .ref (zn 50)), (1, .int (nI q)), (2, .int (nI s)), (4, .int (nI hi)), (5, .int (nI wv)), (7, .int (nI a)), (8, .int f), (9, .int e), (10, .int (nI (lo + j)))] [] := by
                  intro m
                  induction m using Nat.strongRecOn with
                  | ind m ilp132 =>
                  intro j a f e t0 r0 t1 r1 Sx Sy Sw Sv hm hj1 hj hy1 hv1 hE
                  refine j_iload 134 C dX10_fit_132 rfl rfl ?_
                  refine j_iload 136 C dX10_fit_134 rfl rfl ?_
                  refine j_icmp_gtN 188 139 C dX10_fit_136 (by decide) rfl (by omega) (by omega) (fun c136 => ?_) (fun c136 => ?_)
                  · exact j_weak _ (by exact ⟨rfl, rfl, rfl, rfl, rfl, trivial⟩) (g188 a f e t0 r0 t1 r1 Sx Sy Sw Sv hy1 hv1 (by rw [hE, show j = hi - lo + 1 by omega]))
                  · refine j_aload_n 140 C dX10_fit_139 rfl rfl ?_
                    refine Pdesk 143 C dX10_fit_140 rfl (by decide) ⟨Nat.le_refl _, Nat.le_refl _⟩ (Nat.le_of_ble_eq_true rfl) ?_
                    refine j_aload_n 144 C dX10_fit_143 rfl rfl ?_
                    refine Pg_n4 147 C dX10_fit_144 rfl fl10_20 ?_
                    refine j_iload_n 148 C dX10_fit_147 rfl rfl ?_
                    refine j_iload_n 149 C dX10_fit_148 rfl rfl ?_
                    refine j_sI 152 C dX10_fit_149 rfl cw10_217 K10_lawOf rfl (by decide) ⟨Nat.le_refl _, Nat.le_refl _⟩ rfl (Nat.le_of_ble_eq_true rfl) ?_
                    refine j_top (x' := nI lw) (by rw [hlw]) ?_
                    refine j_iload 154 C dX10_fit_152 rfl rfl ?_
                    refine Pr_CI 157 C dX10_fit_154 rfl cw10_220 rfl (K1_comesToBook hT hR hW hy1 hl8 hb0 hb6 hB) rfl (by decide) ⟨Nat.le_refl _, Nat.le_refl _⟩ rfl (Nat.le_of_ble_eq_true rfl) (fun x154 s154 hs154 => ?_)
                    obtain ⟨e154, hy154⟩ := hs154
                    subst e154
                    refine j_if_eqB 182 160 C dX10_fit_157 (by decide) rfl (fun c157 => ?_) (fun c157 => ?_)
                    · refine j_iincN 185 (z := 1) C dX10_fit_182 rfl rfl rfl (by decide) ?_
                      refine j_goto 132 C dX10_fit_185 (by decide) ?_
                      exact j_weak _ (by exact ⟨rfl, rfl, rfl, rfl, rfl, rfl, rfl, rfl, rfl, trivial⟩) (ilp132 _ (by omega) (j + 1) a f e _ _ _ _ _ _ _ _ rfl (by omega) (by omega) hy154 hv1 (by rw [f_ftn, if_neg c157]; exact hE))
                    · refine j_iincN 163 (z := 1) C dX10_fit_160 rfl rfl rfl (by decide) ?_
                      refine j_iload 165 C dX10_fit_163 rfl rfl ?_
                      refine j_iconst 166 C dX10_fit_165 rfl (v := (-1)) (by decide) ?_
                      refine j_icmp_ne 174 169 C dX10_fit_166 (by decide) rfl (fun c166 => ?_) (fun c166 => ?_)
                      · refine j_iload 176 C dX10_fit_174 rfl rfl ?_
                        refine j_istore 178 C dX10_fit_176 rfl rfl (by decide) ?_
                        refine j_iload 180 C dX10_fit_178 rfl rfl ?_
                        refine j_istore 182 C dX10_fit_180 rfl rfl (by decide) ?_
                        refine j_iincN 185 (z := 1) C dX10_fit_182 rfl rfl rfl (by decide) ?_
                        refine j_goto 132 C dX10_fit_185 (by decide) ?_
                        exact j_weak _ (by exact ⟨rfl, rfl, rfl, rfl, rfl, rfl, rfl, rfl, rfl, trivial⟩) (ilp132 _ (by omega) (j + 1) (a + 1) f _ _ _ _ _ _ _ _ _ rfl (by omega) (by omega) hy154 hv1 (by rw [f_ftn, if_pos c157, ← hE, if_neg c166]))
                      · refine j_iload 171 C dX10_fit_169 rfl rfl ?_
                        refine j_goto 176 C dX10_fit_171 (by decide) ?_
                        refine j_istore 178 C dX10_fit_176 rfl rfl (by decide) ?_
                        refine j_iload 180 C dX10_fit_178 rfl rfl ?_
                        refine j_istore 182 C dX10_fit_180 rfl rfl (by decide) ?_
                        refine j_iincN 185 (z := 1) C dX10_fit_182 rfl rfl rfl (by decide) ?_
                        refine j_goto 132 C dX10_fit_185 (by decide) ?_
                        exact j_weak _ (by exact ⟨rfl, rfl, rfl, rfl, rfl, rfl, rfl, rfl, rfl, trivial⟩) (ilp132 _ (by omega) (j + 1) (a + 1) _ _ _ _ _ _ _ _ _ _ rfl (by omega) (by omega) hy154 hv1 (by rw [f_ftn, if_pos c157, ← hE, if_pos c166]))
                refine j_aload_n 144 C dX10_fit_143 rfl rfl ?_
                refine Pg_n4 147 C dX10_fit_144 rfl fl10_20 ?_
                refine j_iload_n 148 C dX10_fit_147 rfl rfl ?_
                refine j_iload_n 149 C dX10_fit_148 rfl rfl ?_
                refine j_sI 152 C dX10_fit_149 rfl cw10_217 K10_lawOf rfl (by decide) ⟨Nat.le_refl _, Nat.le_refl _⟩ rfl (Nat.le_of_ble_eq_true rfl) ?_
                refine j_top (x' := nI lw) (by rw [hlw]) ?_
                refine j_iload 154 C dX10_fit_152 rfl rfl ?_
                refine Pr_CI 157 C dX10_fit_154 rfl cw10_220 rfl (K1_comesToBook hT hR hW hy hl8 hb0 hb6 hB) rfl (by decide) ⟨Nat.le_refl _, Nat.le_refl _⟩ rfl (Nat.le_of_ble_eq_true rfl) (fun x154 s154 hs154 => ?_)
                obtain ⟨e154, hy154⟩ := hs154
                subst e154
                refine j_if_eqB 182 160 C dX10_fit_157 (by decide) rfl (fun c157 => ?_) (fun c157 => ?_)
                · refine j_iincN 185 (z := 1) C dX10_fit_182 rfl rfl rfl (by decide) ?_
                  refine j_goto 132 C dX10_fit_185 (by decide) ?_
                  exact j_weak _ (by exact ⟨rfl, rfl, rfl, rfl, rfl, rfl, rfl, rfl, rfl, trivial⟩) (lp132 _ 1 0 (-1) (-1) _ _ _ _ _ _ _ _ rfl (by omega) (by omega) hy154 hv (by rw [f_ftn, Nat.add_zero, if_neg c157]; rfl))
                · refine j_iincN 163 (z := 1) C dX10_fit_160 rfl rfl rfl (by decide) ?_
                  refine j_iload 165 C dX10_fit_163 rfl rfl ?_
                  refine j_iconst 166 C dX10_fit_165 rfl (v := (-1)) (by decide) ?_
                  refine j_icmp_ne 174 169 C dX10_fit_166 (by decide) rfl (fun c166 => absurd rfl c166) (fun c166 => ?_)
                  refine j_iload 171 C dX10_fit_169 rfl rfl ?_
                  refine j_goto 176 C dX10_fit_171 (by decide) ?_
                  refine j_istore 178 C dX10_fit_176 rfl rfl (by decide) ?_
                  refine j_iload 180 C dX10_fit_178 rfl rfl ?_
                  refine j_istore 182 C dX10_fit_180 rfl rfl (by decide) ?_
                  refine j_iincN 185 (z := 1) C dX10_fit_182 rfl rfl rfl (by decide) ?_
                  refine j_goto 132 C dX10_fit_185 (by decide) ?_
                  exact j_weak _ (by exact ⟨rfl, rfl, rfl, rfl, rfl, rfl, rfl, rfl, rfl, trivial⟩) (lp132 _ 1 1 (nI lo) (nI lo) _ _ _ _ _ _ _ _ rfl (by omega) (by omega) hy154 hv (by rw [f_ftn, Nat.add_zero, if_pos c157]; rfl))
              · refine j_bipush 119 C dX10_fit_117 rfl (v := (-5)) (by decide) ?_
                refine j_widen 10 5119 (by decide) (by decide) ?_
                exact j_iret C dX10_fit_119 ⟨by rw [if_pos hF, if_pos (Or.inr (Or.inr c114))], Or.inl rfl⟩
        · exact j_weak _ (by exact ⟨rfl, rfl, rfl, rfl, rfl, rfl, trivial⟩) (g66 (fun q => isI_nle q.2.2.2 c63))
  refine j_iload_n 1 C dX10_fit_0 rfl rfl ?_
  refine j_if_lt 31 4 C dX10_fit_1 (by decide) rfl (fun c1 => ?_) (fun c1 => ?_)
  · refine j_iconst 32 C dX10_fit_31 rfl (v := nI 0) (by decide) ?_
    refine j_istore 34 C dX10_fit_32 rfl rfl (by decide) ?_
    refine j_iload 36 C dX10_fit_34 rfl rfl ?_
    refine j_if_eqN 66 39 C dX10_fit_36 (by decide) rfl (by omega) (fun c36 => ?_) (fun c36 => absurd c36 (Nat.lt_irrefl _))
    exact j_weak _ (by exact ⟨rfl, rfl, rfl, rfl, rfl, rfl, trivial⟩) (g66 (fun q => q.1.1 c1))
  · refine j_iload_n 5 C dX10_fit_4 rfl rfl ?_
    refine j_iload 7 C dX10_fit_5 rfl rfl ?_
    refine j_icmp_gt 31 10 C dX10_fit_7 (by decide) rfl (fun c7 => ?_) (fun c7 => ?_)
    · refine j_iconst 32 C dX10_fit_31 rfl (v := nI 0) (by decide) ?_
      refine j_istore 34 C dX10_fit_32 rfl rfl (by decide) ?_
      refine j_iload 36 C dX10_fit_34 rfl rfl ?_
      refine j_if_eqN 66 39 C dX10_fit_36 (by decide) rfl (by omega) (fun c36 => ?_) (fun c36 => absurd c36 (Nat.lt_irrefl _))
      exact j_weak _ (by exact ⟨rfl, rfl, rfl, rfl, rfl, rfl, trivial⟩) (g66 (fun q => q.1.2.1 c7))
    · refine j_iload 12 C dX10_fit_10 rfl rfl ?_
      refine j_sipush 15 C dX10_fit_12 rfl (v := nI 1000) (by decide) ?_
      refine j_icmp_gt 31 18 C dX10_fit_15 (by decide) rfl (fun c15 => ?_) (fun c15 => ?_)
      · refine j_iconst 32 C dX10_fit_31 rfl (v := nI 0) (by decide) ?_
        refine j_istore 34 C dX10_fit_32 rfl rfl (by decide) ?_
        refine j_iload 36 C dX10_fit_34 rfl rfl ?_
        refine j_if_eqN 66 39 C dX10_fit_36 (by decide) rfl (by omega) (fun c36 => ?_) (fun c36 => absurd c36 (Nat.lt_irrefl _))
        exact j_weak _ (by exact ⟨rfl, rfl, rfl, rfl, rfl, rfl, trivial⟩) (g66 (fun q => q.1.2.2.1 c15))
      · refine j_iload 20 C dX10_fit_18 rfl rfl ?_
        refine j_iload_n 21 C dX10_fit_20 rfl rfl ?_
        refine j_isub 22 C dX10_fit_21 rfl ?_
        refine j_bipush 24 C dX10_fit_22 rfl (v := nI 30) (by decide) ?_
        refine j_icmp_gt 31 27 C dX10_fit_24 (by decide) rfl (fun c24 => ?_) (fun c24 => ?_)
        · refine j_iconst 32 C dX10_fit_31 rfl (v := nI 0) (by decide) ?_
          refine j_istore 34 C dX10_fit_32 rfl rfl (by decide) ?_
          refine j_iload 36 C dX10_fit_34 rfl rfl ?_
          refine j_if_eqN 66 39 C dX10_fit_36 (by decide) rfl (by omega) (fun c36 => ?_) (fun c36 => absurd c36 (Nat.lt_irrefl _))
          exact j_weak _ (by exact ⟨rfl, rfl, rfl, rfl, rfl, rfl, trivial⟩) (g66 (fun q => q.1.2.2.2 c24))
        · refine j_iconst 28 C dX10_fit_27 rfl (v := nI 1) (by decide) ?_
          refine j_goto 32 C dX10_fit_28 (by decide) ?_
          refine j_istore 34 C dX10_fit_32 rfl rfl (by decide) ?_
          refine j_iload 36 C dX10_fit_34 rfl rfl ?_
          refine j_if_eqN 66 39 C dX10_fit_36 (by decide) rfl (by omega) (fun c36 => absurd c36 (by decide)) (fun c36 => ?_)
          refine j_iload_n 40 C dX10_fit_39 rfl rfl ?_
          refine j_if_eq 48 43 C dX10_fit_40 (by decide) rfl (fun c40 => ?_) (fun c40 => ?_)
          · exact j_weak _ (by exact ⟨rfl, rfl, rfl, rfl, rfl, rfl, trivial⟩) (g48 (Or.inl c40) ⟨c1, c7, c15, c24⟩)
          · refine j_iload_n 44 C dX10_fit_43 rfl rfl ?_
            refine j_iconst 45 C dX10_fit_44 rfl (v := nI 1) (by decide) ?_
            refine j_icmp_ne 66 48 C dX10_fit_45 (by decide) rfl (fun c45 => ?_) (fun c45 => ?_)
            · exact j_weak _ (by exact ⟨rfl, rfl, rfl, rfl, rfl, rfl, trivial⟩) (g66 (fun q => (isI2' q.2.1).elim c40 c45))
            · exact j_weak _ (by exact ⟨rfl, rfl, rfl, rfl, rfl, rfl, trivial⟩) (g48 (Or.inr c45) ⟨c1, c7, c15, c24⟩)
end SN20
