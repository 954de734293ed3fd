theorem in_le {x : Int32} {m : Nat} (hm : m < 2 ^ 31) : (lN 0 ≤ x.toInt64 ∧ x.toInt64 ≤ (nI m).toInt64) ↔ isI x (m + 1) := by
  rw [le64, le64, t64, t64, nI_toInt hm]
  show (0 : Int) ≤ x.toInt ∧ x.toInt ≤ (m : Int) ↔ 0 ≤ x.toInt ∧ x.toInt < ((m + 1 : Nat) : Int)
  omega
def f_ftn (wd : Nat → Int32) (bk : Nat → Int32) (n : Nat) (a : Int32) (ll : Nat) : Nat → Nat × Int32 × Int32
  | 0 => (0, -1, -1)
  | j + 1 => if (f_ft wd a (nI (ll + j)) bk n).isSome = true then ((f_ftn wd bk n a ll j).1 + 1, (if (f_ftn wd bk n a ll j).2.1 = -1 then nI (ll + j) else (f_ftn wd bk n a ll j).2.1), nI (ll + j)) else f_ftn wd bk n a ll j
theorem f_ftn_le (wd : Nat → Int32) (bk : Nat → Int32) (n : Nat) (a : Int32) (ll : Nat) : ∀ j, (f_ftn wd bk n a ll j).1 ≤ j
  | 0 => Nat.le_refl _
  | j + 1 => by
    have := f_ftn_le wd bk n a ll j
    unfold f_ftn
    split
    · show (f_ftn wd bk n a ll j).1 + 1 ≤ j + 1; omega
    · omega
section S17
variable {l : Launch} {G : GG} {o : Nat} {ad : Nat → Nat} {M : MS} {h g : Nat → Int32} {c : Nat}
set_option maxHeartbeats 8000000 in
theorem c_left {a b : Int32} (row n0 d0 what : Int32) (hc : c < 4) (hWF : WF (M.2.1 1)) : Con l G yX11_left cX11_left 8 (some .int) 11 0 0 [.ref o, .int row, .int n0, .int d0, .int what] (mw o ad G.2.1 (setHd (aR (sS (sS (sS M 28 a) 29 b) 27 (nI c)) 26 g) h)) (pE (if (isI row (nrw (M.2.1 1)) ∧ isP n0 9 ∧ isP d0 5) ∧ isI what 3 then (if tn what = 0 then (f_pl (M.2.1 1) (M.1 24) (M.1 25) (tn row) (tn d0 - 1) (tn n0) 0 h (-1, b)).2 else f_left (M.2.1 1) (f_one (M.2.1 1) (M.1 24) (M.1 25) (tn row) (tn n0) (tn what) (tn d0) h (tn d0)) (tn row) (len (M.2.1 1) (tn row))) else -1) (fun g2 => ∀ i, i < 2018 * c → g2 i = g i) (fun g2 => (mw o ad G.2.1 (setHd (aR (sS (sS (sS M 28 (if (isI row (nrw (M.2.1 1)) ∧ isP n0 9 ∧ isP d0 5) ∧ isI what 3 ∧ tn what = 0 then (f_pl (M.2.1 1) (M.1 24) (M.1 25) (tn row) (tn d0 - 1) (tn n0) 0 h (-1, b)).1 else a)) 29 (if (isI row (nrw (M.2.1 1)) ∧ isP n0 9 ∧ isP d0 5) ∧ isI what 3 ∧ tn what = 0 then (f_pl (M.2.1 1) (M.1 24) (M.1 25) (tn row) (tn d0 - 1) (tn n0) 0 h (-1, b)).2 else b)) 27 (nI c)) 26 g2) h)))) := by
  refine Con.mk (own := RX11) (by decide) rfl (Nat.le_of_ble_eq_true rfl) (fun X C => ?_)
  refine j_aload_n 1 C dX11_left_0 rfl rfl ?_
  refine j_iload_n 2 C dX11_left_1 rfl rfl ?_
  refine j_iload_n 3 C dX11_left_2 rfl rfl ?_
  refine j_iload_n 4 C dX11_left_3 rfl rfl ?_
  refine j_mI 7 C dX11_left_4 rfl cw11_361 rfl (c_isPlanP _ _ _ hWF) rfl (by omega) rfl (Nat.le_of_ble_eq_true rfl) ?_
  refine j_if_eqB 23 10 C dX11_left_7 (by decide) rfl (fun c7 => ?_) (fun c7 => ?_)
  · refine j_iconst 24 C dX11_left_23 rfl (v := (-1)) (by decide) ?_
    exact j_iret C dX11_left_24 ⟨by rw [if_neg (fun z => c7 z.1)], g, fun _ _ => rfl, by rw [if_neg (fun z => c7 z.1), if_neg (fun z => c7 z.1)]⟩
  · refine j_iload 12 C dX11_left_10 rfl rfl ?_
    refine j_i2l 13 C dX11_left_12 rfl ?_
    refine j_lconst 14 C dX11_left_13 rfl (v := lN 0) (by decide) ?_
    refine j_ldc2 17 C dX11_left_14 rfl (v := (2)) kc11_86 ?_
    refine j_sI 20 C dX11_left_17 rfl cw11_88 (c_in _ _ _) rfl (by omega) ⟨Nat.le_refl _, Nat.le_refl _⟩ rfl (Nat.le_of_ble_eq_true rfl) ?_
    rw [bI_iff (in_c (n := 3) (by decide))]
    refine j_if_neB 25 23 C dX11_left_20 (by decide) rfl (fun c20 => ?_) (fun c20 => ?_)
    · obtain ⟨w, hw, rfl⟩ := isI_of c20
      obtain ⟨cr, cn, cd⟩ := (id c7)
      obtain ⟨r, hr, rfl⟩ := isI_of cr
      obtain ⟨n, hn1, hn, rfl⟩ := isP_of cn (by decide)
      obtain ⟨dd, hd1, hdd, rfl⟩ := isP_of cd (by decide)
      have hr12 : r < 12 := Nat.lt_of_lt_of_le hr hWF.2.2.1.2
      refine j_iload 27 C dX11_left_25 rfl rfl ?_
      refine j_if_neN 48 30 C dX11_left_27 (by decide) rfl (by omega) (fun c27 => ?_) (fun c27 => ?_)
      · refine j_aload_n 49 C dX11_left_48 rfl rfl ?_
        refine j_mV 52 C dX11_left_49 rfl cw11_303 rfl (c_copy (by omega)) rfl (by omega) rfl (Nat.le_of_ble_eq_true rfl) ?_
        refine j_iconst 53 C dX11_left_52 rfl (v := nI 0) (by decide) ?_
        refine j_istore 55 C dX11_left_53 rfl rfl (by decide) ?_
        have lp55 : ∀ (m : Nat) (d : Nat), dd - d = m → d ≤ dd → J X 8 0 0 (mw o ad G.2.1 (setHd (aR (sS (sS (sS M 28 a) 29 b) 27 (nI (c + 1))) 26 (va_cpy h g 0 (2018 * c) 2018)) (f_one (M.2.1 1) (M.1 24) (M.1 25) r n w dd h d))) 55 [(0, .ref o), (1, .int (nI r)), (2, .int (nI n)), (3, .int (nI dd)), (4, .int (nI w)), (5, .int (nI d))] [] := by
          intro m
          induction m using Nat.strongRecOn with
          | ind m ilp55 =>
          intro d hm hd
          refine j_iload 57 C dX11_left_55 rfl rfl ?_
          refine j_iload_n 58 C dX11_left_57 rfl rfl ?_
          refine j_icmp_geN 132 61 C dX11_left_58 (by decide) rfl (by omega) (by omega) (fun c58 => ?_) (fun c58 => ?_)
          · refine j_aload_n 133 C dX11_left_132 rfl rfl ?_
            refine j_iload_n 134 C dX11_left_133 rfl rfl ?_
            refine j_mI 137 C dX11_left_134 rfl cw11_351 rfl (c_leftOfP r hr hWF) rfl (by omega) rfl (Nat.le_of_ble_eq_true rfl) ?_
            refine j_istore 139 C dX11_left_137 rfl rfl (by decide) ?_
            refine j_aload_n 140 C dX11_left_139 rfl rfl ?_
            refine j_mV 143 C dX11_left_140 rfl cw11_309 rfl (c_takeBack (by omega)) rfl (by omega) rfl (Nat.le_of_ble_eq_true rfl) ?_
            refine j_extH h (fun j hj => cpy_back hj) ?_
            refine j_iload 145 C dX11_left_143 rfl rfl ?_
            exact j_iret C dX11_left_145 ⟨by rw [if_pos ⟨c7, c20⟩, tn_nI (by omega), if_neg (by omega), tn_nI (by omega), tn_nI (by omega), tn_nI (by omega), show d = dd by omega], _, fun i hi => cpy_low hi, by rw [if_neg (fun z => by have := z.2.2; rw [tn_nI (by omega)] at this; omega), if_neg (fun z => by have := z.2.2; rw [tn_nI (by omega)] at this; omega)]⟩
          · refine j_iload 63 C dX11_left_61 rfl rfl ?_
            refine j_iconst 64 C dX11_left_63 rfl (v := nI 1) (by decide) ?_
            refine j_icmp_neN 80 67 C dX11_left_64 (by decide) rfl (by omega) (by omega) (fun c64 => ?_) (fun c64 => ?_)
            · refine j_iload 82 C dX11_left_80 rfl rfl ?_
              refine j_iload_n 83 C dX11_left_82 rfl rfl ?_
              refine j_iconst 84 C dX11_left_83 rfl (v := nI 1) (by decide) ?_
              refine j_isubN 85 C dX11_left_84 rfl (by omega) ?_
              refine j_bool_icmp_neN 93 C dX11_left_85 rfl dX11_left_88 dX11_left_89 dX11_left_92 rfl (by omega) (by omega) ?_
              rw [bI_iff (show (d = dd - 1) ↔ ((w = 1 ∧ d = 0) ∨ (¬ w = 1 ∧ d = dd - 1)) from by omega)]
              refine j_istore 95 C dX11_left_93 rfl rfl (by decide) ?_
              refine j_iconst 96 C dX11_left_95 rfl (v := nI 0) (by decide) ?_
              refine j_istore 98 C dX11_left_96 rfl rfl (by decide) ?_
              have lp98 : ∀ (m : Nat) (k : Nat), n - k = m → k ≤ n → (¬ ((w = 1 ∧ d = 0) ∨ (¬ w = 1 ∧ d = dd - 1)) → k = 0) → J X 8 0 0 (mw o ad G.2.1 (setHd (aR (sS (sS (sS M 28 a) 29 b) 27 (nI (c + 1))) 26 (va_cpy h g 0 (2018 * c) 2018)) (f_readsN (M.2.1 1) (M.1 24) (M.1 25) r k (f_one (M.2.1 1) (M.1 24) (M.1 25) r n w dd h d)))) 98 [(0, .ref o), (1, .int (nI r)), (2, .int (nI n)), (3, .int (nI dd)), (4, .int (nI w)), (5, .int (nI d)), (6, .int (bI ((w = 1 ∧ d = 0) ∨ (¬ w = 1 ∧ d = dd - 1)))), (7, .int (nI k))] [] := by
                intro m
                induction m using Nat.strongRecOn with
                | ind m ilp98 =>
                intro k hm hk hfl
                refine j_iload 100 C dX11_left_98 rfl rfl ?_
                refine j_iload_n 101 C dX11_left_100 rfl rfl ?_
                refine j_icmp_geN 120 104 C dX11_left_101 (by decide) rfl (by omega) (by omega) (fun c101 => ?_) (fun c101 => ?_)
                · have hfl2 : ((w = 1 ∧ d = 0) ∨ (¬ w = 1 ∧ d = dd - 1)) := Decidable.byContradiction fun z => by have := hfl z; omega
                  have hst : f_hours (M.2.1 1) (M.1 24) (M.1 25) 24 (f_readsN (M.2.1 1) (M.1 24) (M.1 25) r k (f_one (M.2.1 1) (M.1 24) (M.1 25) r n w dd h d)) = (f_one (M.2.1 1) (M.1 24) (M.1 25) r n w dd h (d + 1)) := by show _ = f_hours (M.2.1 1) (M.1 24) (M.1 25) 24 (if ((w = 1 ∧ d = 0) ∨ (¬ w = 1 ∧ d = dd - 1)) then (f_readsN (M.2.1 1) (M.1 24) (M.1 25) r n (f_one (M.2.1 1) (M.1 24) (M.1 25) r n w dd h d)) else (f_one (M.2.1 1) (M.1 24) (M.1 25) r n w dd h d)); rw [if_pos hfl2, show k = n by omega]
                  refine j_aload_n 121 C dX11_left_120 rfl rfl ?_
                  refine j_bipush 123 C dX11_left_121 rfl (v := nI 24) (by decide) ?_
                  refine j_mV 126 C dX11_left_123 rfl cw11_325 rfl (c_hoursGoP _ (by decide) hWF) rfl (by omega) rfl (Nat.le_of_ble_eq_true rfl) ?_
                  rw [hst]
                  refine j_iincN 129 (z := 1) C dX11_left_126 rfl rfl rfl (by decide) ?_
                  refine j_goto 55 C dX11_left_129 (by decide) ?_
                  exact j_weak _ (by exact ⟨rfl, rfl, rfl, rfl, rfl, rfl, trivial⟩) (ilp55 _ (by omega) (d + 1) rfl (by omega))
                · refine j_iload 106 C dX11_left_104 rfl rfl ?_
                  refine j_if_eqB 120 109 C dX11_left_106 (by decide) rfl (fun c106 => ?_) (fun c106 => ?_)
                  · have hst : f_hours (M.2.1 1) (M.1 24) (M.1 25) 24 (f_readsN (M.2.1 1) (M.1 24) (M.1 25) r k (f_one (M.2.1 1) (M.1 24) (M.1 25) r n w dd h d)) = (f_one (M.2.1 1) (M.1 24) (M.1 25) r n w dd h (d + 1)) := by show _ = f_hours (M.2.1 1) (M.1 24) (M.1 25) 24 (if ((w = 1 ∧ d = 0) ∨ (¬ w = 1 ∧ d = dd - 1)) then (f_readsN (M.2.1 1) (M.1 24) (M.1 25) r n (f_one (M.2.1 1) (M.1 24) (M.1 25) r n w dd h d)) else (f_one (M.2.1 1) (M.1 24) (M.1 25) r n w dd h d)); rw [if_neg c106, hfl c106]; rfl
                    refine j_aload_n 121 C dX11_left_120 rfl rfl ?_
                    refine j_bipush 123 C dX11_left_121 rfl (v := nI 24) (by decide) ?_
                    refine j_mV 126 C dX11_left_123 rfl cw11_325 rfl (c_hoursGoP _ (by decide) hWF) rfl (by omega) rfl (Nat.le_of_ble_eq_true rfl) ?_
                    rw [hst]
                    refine j_iincN 129 (z := 1) C dX11_left_126 rfl rfl rfl (by decide) ?_
                    refine j_goto 55 C dX11_left_129 (by decide) ?_
                    exact j_weak _ (by exact ⟨rfl, rfl, rfl, rfl, rfl, rfl, trivial⟩) (ilp55 _ (by omega) (d + 1) rfl (by omega))
                  · refine j_aload_n 110 C dX11_left_109 rfl rfl ?_
                    refine j_iload_n 111 C dX11_left_110 rfl rfl ?_
                    refine j_mV 114 C dX11_left_111 rfl cw11_294 rfl (c_readsP r hr hWF) rfl (by omega) rfl (Nat.le_of_ble_eq_true rfl) ?_
                    refine j_iincN 117 (z := 1) C dX11_left_114 rfl rfl rfl (by decide) ?_
                    refine j_goto 98 C dX11_left_117 (by decide) ?_
                    rw [show f_reads (M.2.1 1) (M.1 24) (M.1 25) r (f_readsN (M.2.1 1) (M.1 24) (M.1 25) r k (f_one (M.2.1 1) (M.1 24) (M.1 25) r n w dd h d)) = (f_readsN (M.2.1 1) (M.1 24) (M.1 25) r (k + 1) (f_one (M.2.1 1) (M.1 24) (M.1 25) r n w dd h d)) from rfl]
                    exact j_weak _ (by exact ⟨rfl, rfl, rfl, rfl, rfl, rfl, rfl, rfl, trivial⟩) (ilp98 _ (by omega) (k + 1) rfl (by omega) (fun z => absurd c106 z))
              exact j_weak _ (by exact ⟨rfl, rfl, rfl, rfl, rfl, rfl, rfl, rfl, trivial⟩) (lp98 _ 0 rfl (Nat.zero_le _) (fun _ => rfl))
            · refine j_iload 69 C dX11_left_67 rfl rfl ?_
              refine j_if_neN 76 72 C dX11_left_69 (by decide) rfl (by omega) (fun c69 => ?_) (fun c69 => ?_)
              · refine j_iconst 77 C dX11_left_76 rfl (v := nI 0) (by decide) ?_
                refine j_goto 93 C dX11_left_77 (by decide) ?_
                refine j_st [.int (bI ((w = 1 ∧ d = 0) ∨ (¬ w = 1 ∧ d = dd - 1)))] (by rw [bI_f (show ¬ ((w = 1 ∧ d = 0) ∨ (¬ w = 1 ∧ d = dd - 1)) by omega)]; rfl) ?_
                refine j_istore 95 C dX11_left_93 rfl rfl (by decide) ?_
                refine j_iconst 96 C dX11_left_95 rfl (v := nI 0) (by decide) ?_
                refine j_istore 98 C dX11_left_96 rfl rfl (by decide) ?_
                have lp98 : ∀ (m : Nat) (k : Nat), n - k = m → k ≤ n → (¬ ((w = 1 ∧ d = 0) ∨ (¬ w = 1 ∧ d = dd - 1)) → k = 0) → J X 8 0 0 (mw o ad G.2.1 (setHd (aR (sS (sS (sS M 28 a) 29 b) 27 (nI (c + 1))) 26 (va_cpy h g 0 (2018 * c) 2018)) (f_readsN (M.2.1 1) (M.1 24) (M.1 25) r k (f_one (M.2.1 1) (M.1 24) (M.1 25) r n w dd h d)))) 98 [(0, .ref o), (1, .int (nI r)), (2, .int (nI n)), (3, .int (nI dd)), (4, .int (nI w)), (5, .int (nI d)), (6, .int (bI ((w = 1 ∧ d = 0) ∨ (¬ w = 1 ∧ d = dd - 1)))), (7, .int (nI k))] [] := by
                  intro m
                  induction m using Nat.strongRecOn with
                  | ind m ilp98 =>
                  intro k hm hk hfl
                  refine j_iload 100 C dX11_left_98 rfl rfl ?_
                  refine j_iload_n 101 C dX11_left_100 rfl rfl ?_
                  refine j_icmp_geN 120 104 C dX11_left_101 (by decide) rfl (by omega) (by omega) (fun c101 => ?_) (fun c101 => ?_)
                  · have hfl2 : ((w = 1 ∧ d = 0) ∨ (¬ w = 1 ∧ d = dd - 1)) := Decidable.byContradiction fun z => by have := hfl z; omega
                    have hst : f_hours (M.2.1 1) (M.1 24) (M.1 25) 24 (f_readsN (M.2.1 1) (M.1 24) (M.1 25) r k (f_one (M.2.1 1) (M.1 24) (M.1 25) r n w dd h d)) = (f_one (M.2.1 1) (M.1 24) (M.1 25) r n w dd h (d + 1)) := by show _ = f_hours (M.2.1 1) (M.1 24) (M.1 25) 24 (if ((w = 1 ∧ d = 0) ∨ (¬ w = 1 ∧ d = dd - 1)) then (f_readsN (M.2.1 1) (M.1 24) (M.1 25) r n (f_one (M.2.1 1) (M.1 24) (M.1 25) r n w dd h d)) else (f_one (M.2.1 1) (M.1 24) (M.1 25) r n w dd h d)); rw [if_pos hfl2, show k = n by omega]
                    refine j_aload_n 121 C dX11_left_120 rfl rfl ?_
                    refine j_bipush 123 C dX11_left_121 rfl (v := nI 24) (by decide) ?_
                    refine j_mV 126 C dX11_left_123 rfl cw11_325 rfl (c_hoursGoP _ (by decide) hWF) rfl (by omega) rfl (Nat.le_of_ble_eq_true rfl) ?_
                    rw [hst]
                    refine j_iincN 129 (z := 1) C dX11_left_126 rfl rfl rfl (by decide) ?_
                    refine j_goto 55 C dX11_left_129 (by decide) ?_
                    exact j_weak _ (by exact ⟨rfl, rfl, rfl, rfl, rfl, rfl, trivial⟩) (ilp55 _ (by omega) (d + 1) rfl (by omega))
                  · refine j_iload 106 C dX11_left_104 rfl rfl ?_
                    refine j_if_eqB 120 109 C dX11_left_106 (by decide) rfl (fun c106 => ?_) (fun c106 => ?_)
                    · have hst : f_hours (M.2.1 1) (M.1 24) (M.1 25) 24 (f_readsN (M.2.1 1) (M.1 24) (M.1 25) r k (f_one (M.2.1 1) (M.1 24) (M.1 25) r n w dd h d)) = (f_one (M.2.1 1) (M.1 24) (M.1 25) r n w dd h (d + 1)) := by show _ = f_hours (M.2.1 1) (M.1 24) (M.1 25) 24 (if ((w = 1 ∧ d = 0) ∨ (¬ w = 1 ∧ d = dd - 1)) then (f_readsN (M.2.1 1) (M.1 24) (M.1 25) r n (f_one (M.2.1 1) (M.1 24) (M.1 25) r n w dd h d)) else (f_one (M.2.1 1) (M.1 24) (M.1 25) r n w dd h d)); rw [if_neg c106, hfl c106]; rfl
                      refine j_aload_n 121 C dX11_left_120 rfl rfl ?_
                      refine j_bipush 123 C dX11_left_121 rfl (v := nI 24) (by decide) ?_
                      refine j_mV 126 C dX11_left_123 rfl cw11_325 rfl (c_hoursGoP _ (by decide) hWF) rfl (by omega) rfl (Nat.le_of_ble_eq_true rfl) ?_
                      rw [hst]
                      refine j_iincN 129 (z := 1) C dX11_left_126 rfl rfl rfl (by decide) ?_
                      refine j_goto 55 C dX11_left_129 (by decide) ?_
                      exact j_weak _ (by exact ⟨rfl, rfl, rfl, rfl, rfl, rfl, trivial⟩) (ilp55 _ (by omega) (d + 1) rfl (by omega))
                    · refine j_aload_n 110 C dX11_left_109 rfl rfl ?_
                      refine j_iload_n 111 C dX11_left_110 rfl rfl ?_
                      refine j_mV 114 C dX11_left_111 rfl cw11_294 rfl (c_readsP r hr hWF) rfl (by omega) rfl (Nat.le_of_ble_eq_true rfl) ?_
                      refine j_iincN 117 (z := 1) C dX11_left_114 rfl rfl rfl (by decide) ?_
                      refine j_goto 98 C dX11_left_117 (by decide) ?_
                      rw [show f_reads (M.2.1 1) (M.1 24) (M.1 25) r (f_readsN (M.2.1 1) (M.1 24) (M.1 25) r k (f_one (M.2.1 1) (M.1 24) (M.1 25) r n w dd h d)) = (f_readsN (M.2.1 1) (M.1 24) (M.1 25) r (k + 1) (f_one (M.2.1 1) (M.1 24) (M.1 25) r n w dd h d)) from rfl]
                      exact j_weak _ (by exact ⟨rfl, rfl, rfl, rfl, rfl, rfl, rfl, rfl, trivial⟩) (ilp98 _ (by omega) (k + 1) rfl (by omega) (fun z => absurd c106 z))
                exact j_weak _ (by exact ⟨rfl, rfl, rfl, rfl, rfl, rfl, rfl, rfl, trivial⟩) (lp98 _ 0 rfl (Nat.zero_le _) (fun _ => rfl))
              · refine j_iconst 73 C dX11_left_72 rfl (v := nI 1) (by decide) ?_
                refine j_goto 93 C dX11_left_73 (by decide) ?_
                refine j_st [.int (bI ((w = 1 ∧ d = 0) ∨ (¬ w = 1 ∧ d = dd - 1)))] (by rw [bI_t (show ((w = 1 ∧ d = 0) ∨ (¬ w = 1 ∧ d = dd - 1)) by omega)]; rfl) ?_
                refine j_istore 95 C dX11_left_93 rfl rfl (by decide) ?_
                refine j_iconst 96 C dX11_left_95 rfl (v := nI 0) (by decide) ?_
                refine j_istore 98 C dX11_left_96 rfl rfl (by decide) ?_
                have lp98 : ∀ (m : Nat) (k : Nat), n - k = m → k ≤ n → (¬ ((w = 1 ∧ d = 0) ∨ (¬ w = 1 ∧ d = dd - 1)) → k = 0) → J X 8 0 0 (mw o ad G.2.1 (setHd (aR (sS (sS (sS M 28 a) 29 b) 27 (nI (c + 1))) 26 (va_cpy h g 0 (2018 * c) 2018)) (f_readsN (M.2.1 1) (M.1 24) (M.1 25) r k (f_one (M.2.1 1) (M.1 24) (M.1 25) r n w dd h d)))) 98 [(0, .ref o), (1, .int (nI r)), (2, .int (nI n)), (3, .int (nI dd)), (4, .int (nI w)), (5, .int (nI d)), (6, .int (bI ((w = 1 ∧ d = 0) ∨ (¬ w = 1 ∧ d = dd - 1)))), (7, .int (nI k))] [] := by
                  intro m
                  induction m using Nat.strongRecOn with
                  | ind m ilp98 =>
                  intro k hm hk hfl
                  refine j_iload 100 C dX11_left_98 rfl rfl ?_
                  refine j_iload_n 101 C dX11_left_100 rfl rfl ?_
                  refine j_icmp_geN 120 104 C dX11_left_101 (by decide) rfl (by omega) (by omega) (fun c101 => ?_) (fun c101 => ?_)
                  · have hfl2 : ((w = 1 ∧ d = 0) ∨ (¬ w = 1 ∧ d = dd - 1)) := Decidable.byContradiction fun z => by have := hfl z; omega
                    have hst : f_hours (M.2.1 1) (M.1 24) (M.1 25) 24 (f_readsN (M.2.1 1) (M.1 24) (M.1 25) r k (f_one (M.2.1 1) (M.1 24) (M.1 25) r n w dd h d)) = (f_one (M.2.1 1) (M.1 24) (M.1 25) r n w dd h (d + 1)) := by show _ = f_hours (M.2.1 1) (M.1 24) (M.1 25) 24 (if ((w = 1 ∧ d = 0) ∨ (¬ w = 1 ∧ d = dd - 1)) then (f_readsN (M.2.1 1) (M.1 24) (M.1 25) r n (f_one (M.2.1 1) (M.1 24) (M.1 25) r n w dd h d)) else (f_one (M.2.1 1) (M.1 24) (M.1 25) r n w dd h d)); rw [if_pos hfl2, show k = n by omega]
                    refine j_aload_n 121 C dX11_left_120 rfl rfl ?_
                    refine j_bipush 123 C dX11_left_121 rfl (v := nI 24) (by decide) ?_
                    refine j_mV 126 C dX11_left_123 rfl cw11_325 rfl (c_hoursGoP _ (by decide) hWF) rfl (by omega) rfl (Nat.le_of_ble_eq_true rfl) ?_
                    rw [hst]
                    refine j_iincN 129 (z := 1) C dX11_left_126 rfl rfl rfl (by decide) ?_
                    refine j_goto 55 C dX11_left_129 (by decide) ?_
                    exact j_weak _ (by exact ⟨rfl, rfl, rfl, rfl, rfl, rfl, trivial⟩) (ilp55 _ (by omega) (d + 1) rfl (by omega))
                  · refine j_iload 106 C dX11_left_104 rfl rfl ?_
                    refine j_if_eqB 120 109 C dX11_left_106 (by decide) rfl (fun c106 => ?_) (fun c106 => ?_)
                    · have hst : f_hours (M.2.1 1) (M.1 24) (M.1 25) 24 (f_readsN (M.2.1 1) (M.1 24) (M.1 25) r k (f_one (M.2.1 1) (M.1 24) (M.1 25) r n w dd h d)) = (f_one (M.2.1 1) (M.1 24) (M.1 25) r n w dd h (d + 1)) := by show _ = f_hours (M.2.1 1) (M.1 24) (M.1 25) 24 (if ((w = 1 ∧ d = 0) ∨ (¬ w = 1 ∧ d = dd - 1)) then (f_readsN (M.2.1 1) (M.1 24) (M.1 25) r n (f_one (M.2.1 1) (M.1 24) (M.1 25) r n w dd h d)) else (f_one (M.2.1 1) (M.1 24) (M.1 25) r n w dd h d)); rw [if_neg c106, hfl c106]; rfl
                      refine j_aload_n 121 C dX11_left_120 rfl rfl ?_
                      refine j_bipush 123 C dX11_left_121 rfl (v := nI 24) (by decide) ?_
                      refine j_mV 126 C dX11_left_123 rfl cw11_325 rfl (c_hoursGoP _ (by decide) hWF) rfl (by omega) rfl (Nat.le_of_ble_eq_true rfl) ?_
                      rw [hst]
                      refine j_iincN 129 (z := 1) C dX11_left_126 rfl rfl rfl (by decide) ?_
                      refine j_goto 55 C dX11_left_129 (by decide) ?_
                      exact j_weak _ (by exact ⟨rfl, rfl, rfl, rfl, rfl, rfl, trivial⟩) (ilp55 _ (by omega) (d + 1) rfl (by omega))
                    · refine j_aload_n 110 C dX11_left_109 rfl rfl ?_
                      refine j_iload_n 111 C dX11_left_110 rfl rfl ?_
                      refine j_mV 114 C dX11_left_111 rfl cw11_294 rfl (c_readsP r hr hWF) rfl (by omega) rfl (Nat.le_of_ble_eq_true rfl) ?_
                      refine j_iincN 117 (z := 1) C dX11_left_114 rfl rfl rfl (by decide) ?_
                      refine j_goto 98 C dX11_left_117 (by decide) ?_
                      rw [show f_reads (M.2.1 1) (M.1 24) (M.1 25) r (f_readsN (M.2.1 1) (M.1 24) (M.1 25) r k (f_one (M.2.1 1) (M.1 24) (M.1 25) r n w dd h d)) = (f_readsN (M.2.1 1) (M.1 24) (M.1 25) r (k + 1) (f_one (M.2.1 1) (M.1 24) (M.1 25) r n w dd h d)) from rfl]
                      exact j_weak _ (by exact ⟨rfl, rfl, rfl, rfl, rfl, rfl, rfl, rfl, trivial⟩) (ilp98 _ (by omega) (k + 1) rfl (by omega) (fun z => absurd c106 z))
                exact j_weak _ (by exact ⟨rfl, rfl, rfl, rfl, rfl, rfl, rfl, rfl, trivial⟩) (lp98 _ 0 rfl (Nat.zero_le _) (fun _ => rfl))
        exact j_weak _ (by exact ⟨rfl, rfl, rfl, rfl, rfl, rfl, trivial⟩) (lp55 _ 0 rfl (Nat.zero_le _))
      · refine j_aload_n 31 C dX11_left_30 rfl rfl ?_
        refine j_iconst 32 C dX11_left_31 rfl (v := (-1)) (by decide) ?_
        refine rpH_bestPlan 35 C dX11_left_32 rfl ?_
        refine j_ws (mw o ad G.2.1 (setHd (aR (sS (sS (sS M 28 (-1)) 29 b) 27 (nI c)) 26 g) h)) rfl ?_
        rw [show nI dd = nI (dd - 1 + 1) from by rw [show dd - 1 + 1 = dd by omega]]
        refine j_aload_n 36 C dX11_left_35 rfl rfl ?_
        refine j_iload_n 37 C dX11_left_36 rfl rfl ?_
        refine j_iload_n 38 C dX11_left_37 rfl rfl ?_
        refine j_iload_n 39 C dX11_left_38 rfl rfl ?_
        refine j_iconst 40 C dX11_left_39 rfl (v := nI 0) (by decide) ?_
        refine j_mEV 43 C dX11_left_40 rfl cw11_345 rfl (c_plans r hr hWF (dd - 1) c n 0 (-1) b h g (by omega) (by omega) (by unfold dgOk; omega) (by omega)) rfl (by omega) rfl (Nat.le_of_ble_eq_true rfl) (fun g2 hg2 => ?_)
        refine j_aload_n 44 C dX11_left_43 rfl rfl ?_
        refine rgH_bestLeft 47 C dX11_left_44 rfl ?_
        exact j_iret C dX11_left_47 ⟨by rw [if_pos ⟨c7, c20⟩, tn_nI (by omega), if_pos (by omega), tn_nI (by omega), tn_nI (by omega), tn_nI (by omega)]; rfl, g2, hg2, by rw [if_pos ⟨c7, c20, by rw [tn_nI (by omega)]; omega⟩, if_pos ⟨c7, c20, by rw [tn_nI (by omega)]; omega⟩, tn_nI (by omega), tn_nI (by omega), tn_nI (by omega)]⟩
    · refine j_iconst 24 C dX11_left_23 rfl (v := (-1)) (by decide) ?_
      exact j_iret C dX11_left_24 ⟨by rw [if_neg (fun z => c20 z.2)], g, fun _ _ => rfl, by rw [if_neg (fun z => c20 z.2.1), if_neg (fun z => c20 z.2.1)]⟩
theorem c_fitsBookF {a b : Int32} {n : Nat} (hc : c < 8) (hn : M.1 3 = nI n) (hn60 : n ≤ 60) (hB : WB (M.2.1 5) n (nrw (M.2.1 1))) (hWF : WF (M.2.1 1)) : Con l G yX11_fitsBook cX11_fitsBook 5 (some .boolean) 6 0 0 [.ref o] (mw o ad G.2.1 (setHd (aR (sS (sS (sS M 24 a) 25 b) 27 (nI c)) 26 g) h)) (pE (bI ((f_ft (M.2.1 1) a b (M.2.1 5) n).isSome = true)) (fun g2 => ∀ i, i < 2018 * c → g2 i = g i) (fun g2 => (mw o ad G.2.1 (setHd (aR (sS (sS (sS M 24 a) 25 b) 27 (nI c)) 26 g2) h)))) := c_fitsBook (M := sS (sS M 24 a) 25 b) hc hn hn60 hB hWF
set_option maxHeartbeats 8000000 in
theorem c_fit (law sort low high what : Int32) {n : Nat} (hc : c < 7) (hn : M.1 3 = nI n) (hn60 : n ≤ 60) (hB : WB (M.2.1 5) n (nrw (M.2.1 1))) (hWF : WF (M.2.1 1)) : Con l G yX11_fit cX11_fit 9 (some .int) 7 0 0 [.ref o, .int law, .int sort, .int low, .int high, .int what] (mw o ad G.2.1 (setHd (aR (sS M 27 (nI c)) 26 g) h)) (pE (if (isI law 2 ∧ isI sort 4 ∧ (lN 0 ≤ low.toInt64 ∧ low.toInt64 ≤ high.toInt64) ∧ isI high 1001 ∧ tn high - tn low ≤ 30 ∧ isI what 3) then (if (nI 400 < h 2016 ∨ 0 < M.1 4 ∨ ¬ (M.2.1 1) 2 = (M.2.1 1) 9) then -5 else if tn what = 0 then nI (f_ftn (M.2.1 1) (M.2.1 5) n (nI (4 * tn law + tn sort)) (tn low) (tn high - tn low + 1)).1 else if tn what = 1 then (f_ftn (M.2.1 1) (M.2.1 5) n (nI (4 * tn law + tn sort)) (tn low) (tn high - tn low + 1)).2.1 else (f_ftn (M.2.1 1) (M.2.1 5) n (nI (4 * tn law + tn sort)) (tn low) (tn high - tn low + 1)).2.2) else -2) (fun g2 => ∀ i, i < 2018 * c → g2 i = g i) (fun g2 => (mw o ad G.2.1 (setHd (aR (sS (if (isI law 2 ∧ isI sort 4 ∧ (lN 0 ≤ low.toInt64 ∧ low.toInt64 ≤ high.toInt64) ∧ isI high 1001 ∧ tn high - tn low ≤ 30 ∧ isI what 3) ∧ ¬ (nI 400 < h 2016 ∨ 0 < M.1 4 ∨ ¬ (M.2.1 1) 2 = (M.2.1 1) 9) then sS (sS M 24 (-1)) 25 (nI (tn high + 1)) else M) 27 (nI c)) 26 g2) h)))) := by
  refine Con.mk (own := RX11) (by decide) rfl (Nat.le_of_ble_eq_true rfl) (fun X C => ?_)
  refine j_iload_n 1 C dX11_fit_0 rfl rfl ?_
  refine j_i2l 2 C dX11_fit_1 rfl ?_
  refine j_lconst 3 C dX11_fit_2 rfl (v := lN 0) (by decide) ?_
  refine j_lconst 4 C dX11_fit_3 rfl (v := lN 1) (by decide) ?_
  refine j_sI 7 C dX11_fit_4 rfl cw11_88 (c_in _ _ _) rfl (by decide) ⟨Nat.le_refl _, Nat.le_refl _⟩ rfl (Nat.le_of_ble_eq_true rfl) ?_
  rw [bI_iff (in_c (n := 2) (by decide))]
  refine j_if_eqB 69 10 C dX11_fit_7 (by decide) rfl (fun c7 => ?_) (fun c7 => ?_)
  · refine j_bipush 71 C dX11_fit_69 rfl (v := (-2)) (by decide) ?_
    exact j_iret C dX11_fit_71 ⟨by rw [if_neg (fun z => c7 z.1)], g, fun _ _ => rfl, by rw [if_neg (fun z => c7 z.1.1)]⟩
  · obtain ⟨a, ha, rfl⟩ := isI_of c7
    refine j_iload_n 11 C dX11_fit_10 rfl rfl ?_
    refine j_i2l 12 C dX11_fit_11 rfl ?_
    refine j_lconst 13 C dX11_fit_12 rfl (v := lN 0) (by decide) ?_
    refine j_ldc2 16 C dX11_fit_13 rfl (v := (3)) kc11_251 ?_
    refine j_sI 19 C dX11_fit_16 rfl cw11_88 (c_in _ _ _) rfl (by decide) ⟨Nat.le_refl _, Nat.le_refl _⟩ rfl (Nat.le_of_ble_eq_true rfl) ?_
    rw [bI_iff (in_c (n := 4) (by decide))]
    refine j_if_eqB 69 22 C dX11_fit_19 (by decide) rfl (fun c19 => ?_) (fun c19 => ?_)
    · refine j_bipush 71 C dX11_fit_69 rfl (v := (-2)) (by decide) ?_
      exact j_iret C dX11_fit_71 ⟨by rw [if_neg (fun z => c19 z.2.1)], g, fun _ _ => rfl, by rw [if_neg (fun z => c19 z.1.2.1)]⟩
    · obtain ⟨s, hs, rfl⟩ := isI_of c19
      refine j_iload_n 23 C dX11_fit_22 rfl rfl ?_
      refine j_i2l 24 C dX11_fit_23 rfl ?_
      refine j_lconst 25 C dX11_fit_24 rfl (v := lN 0) (by decide) ?_
      refine j_iload 27 C dX11_fit_25 rfl rfl ?_
      refine j_i2l 28 C dX11_fit_27 rfl ?_
      refine j_sI 31 C dX11_fit_28 rfl cw11_88 (c_in _ _ _) rfl (by decide) ⟨Nat.le_refl _, Nat.le_refl _⟩ rfl (Nat.le_of_ble_eq_true rfl) ?_
      refine j_if_eqB 69 34 C dX11_fit_31 (by decide) rfl (fun c31 => ?_) (fun c31 => ?_)
      · refine j_bipush 71 C dX11_fit_69 rfl (v := (-2)) (by decide) ?_
        exact j_iret C dX11_fit_71 ⟨by rw [if_neg (fun z => c31 z.2.2.1)], g, fun _ _ => rfl, by rw [if_neg (fun z => c31 z.1.2.2.1)]⟩
      · refine j_iload 36 C dX11_fit_34 rfl rfl ?_
        refine j_i2l 37 C dX11_fit_36 rfl ?_
        refine j_lconst 38 C dX11_fit_37 rfl (v := lN 0) (by decide) ?_
        refine j_ldc2 41 C dX11_fit_38 rfl (v := (1000)) kc11_253 ?_
        refine j_sI 44 C dX11_fit_41 rfl cw11_88 (c_in _ _ _) rfl (by decide) ⟨Nat.le_refl _, Nat.le_refl _⟩ rfl (Nat.le_of_ble_eq_true rfl) ?_
        rw [bI_iff (in_c (n := 1001) (by decide))]
        refine j_if_eqB 69 47 C dX11_fit_44 (by decide) rfl (fun c44 => ?_) (fun c44 => ?_)
        · refine j_bipush 71 C dX11_fit_69 rfl (v := (-2)) (by decide) ?_
          exact j_iret C dX11_fit_71 ⟨by rw [if_neg (fun z => c44 z.2.2.2.1)], g, fun _ _ => rfl, by rw [if_neg (fun z => c44 z.1.2.2.2.1)]⟩
        · obtain ⟨hh, hhh, rfl⟩ := isI_of c44
          obtain ⟨ll, hll, rfl⟩ := isI_of ((in_le (by omega)).mp c31)
          refine j_iload 49 C dX11_fit_47 rfl rfl ?_
          refine j_iload_n 50 C dX11_fit_49 rfl rfl ?_
          refine j_isubN 51 C dX11_fit_50 rfl (by omega) ?_
          refine j_bipush 53 C dX11_fit_51 rfl (v := nI 30) (by decide) ?_
          refine j_icmp_gtN 69 56 C dX11_fit_53 (by decide) rfl (by omega) (by omega) (fun c53 => ?_) (fun c53 => ?_)
          · refine j_bipush 71 C dX11_fit_69 rfl (v := (-2)) (by decide) ?_
            exact j_iret C dX11_fit_71 ⟨by rw [if_neg (fun z => by have := z.2.2.2.2.1; rw [tn_nI (by omega), tn_nI (by omega)] at this; omega)], g, fun _ _ => rfl, by rw [if_neg (fun z => by have := z.1.2.2.2.2.1; rw [tn_nI (by omega), tn_nI (by omega)] at this; omega)]⟩
          · refine j_iload 58 C dX11_fit_56 rfl rfl ?_
            refine j_i2l 59 C dX11_fit_58 rfl ?_
            refine j_lconst 60 C dX11_fit_59 rfl (v := lN 0) (by decide) ?_
            refine j_ldc2 63 C dX11_fit_60 rfl (v := (2)) kc11_86 ?_
            refine j_sI 66 C dX11_fit_63 rfl cw11_88 (c_in _ _ _) rfl (by decide) ⟨Nat.le_refl _, Nat.le_refl _⟩ rfl (Nat.le_of_ble_eq_true rfl) ?_
            rw [bI_iff (in_c (n := 3) (by decide))]
            refine j_if_neB 72 69 C dX11_fit_66 (by decide) rfl (fun c66 => ?_) (fun c66 => ?_)
            · obtain ⟨w, hw, rfl⟩ := isI_of c66
              have hok : isI (nI a) 2 ∧ isI (nI s) 4 ∧ (lN 0 ≤ (nI ll).toInt64 ∧ (nI ll).toInt64 ≤ (nI hh).toInt64) ∧ isI (nI hh) 1001 ∧ tn (nI hh) - tn (nI ll) ≤ 30 ∧ isI (nI w) 3 := ⟨c7, c19, c31, c44, by rw [tn_nI (by omega), tn_nI (by omega)]; exact c53, c66⟩
              refine j_aload_n 73 C dX11_fit_72 rfl rfl ?_
              refine rgH_head 76 C dX11_fit_73 rfl ?_
              refine j_sipush 79 C dX11_fit_76 rfl (v := nI 2016) (by decide) ?_
              refine raH_head 80 C dX11_fit_79 rfl _ (by omega) rfl ?_
              refine j_sipush 83 C dX11_fit_80 rfl (v := nI 400) (by decide) ?_
              refine j_icmp_gt 109 86 C dX11_fit_83 (by decide) rfl (fun c83 => ?_) (fun c83 => ?_)
              · refine j_bipush 111 C dX11_fit_109 rfl (v := (-5)) (by decide) ?_
                exact j_iret C dX11_fit_111 ⟨by rw [if_pos hok, if_pos (show (nI 400 < h 2016 ∨ 0 < M.1 4 ∨ ¬ (M.2.1 1) 2 = (M.2.1 1) 9) from Or.inl c83)], g, fun _ _ => rfl, by rw [if_neg (fun z => z.2 (Or.inl c83))]⟩
              · refine j_aload_n 87 C dX11_fit_86 rfl rfl ?_
                refine rgH_lost 90 C dX11_fit_87 rfl ?_
                refine j_if_gt 109 93 C dX11_fit_90 (by decide) rfl (fun c90 => ?_) (fun c90 => ?_)
                · refine j_bipush 111 C dX11_fit_109 rfl (v := (-5)) (by decide) ?_
                  exact j_iret C dX11_fit_111 ⟨by rw [if_pos hok, if_pos (show (nI 400 < h 2016 ∨ 0 < M.1 4 ∨ ¬ (M.2.1 1) 2 = (M.2.1 1) 9) from Or.inr (Or.inl c90))], g, fun _ _ => rfl, by rw [if_neg (fun z => z.2 (Or.inr (Or.inl c90)))]⟩
                · refine j_aload_n 94 C dX11_fit_93 rfl rfl ?_
                  refine rgH_world 97 C dX11_fit_94 rfl ?_
                  refine j_iconst 98 C dX11_fit_97 rfl (v := nI 2) (by decide) ?_
                  refine raH_world 99 C dX11_fit_98 rfl _ (by omega) rfl ?_
                  refine j_aload_n 100 C dX11_fit_99 rfl rfl ?_
                  refine rgH_world 103 C dX11_fit_100 rfl ?_
                  refine j_bipush 105 C dX11_fit_103 rfl (v := nI 9) (by decide) ?_
                  refine raH_world 106 C dX11_fit_105 rfl _ (by omega) rfl ?_
                  refine j_icmp_eq 112 109 C dX11_fit_106 (by decide) rfl (fun c106 => ?_) (fun c106 => ?_)
                  · have h5 : ¬ (nI 400 < h 2016 ∨ 0 < M.1 4 ∨ ¬ (M.2.1 1) 2 = (M.2.1 1) 9) := fun z => z.elim c83 (fun z => z.elim c90 (fun z => z c106))
                    refine j_iconst 113 C dX11_fit_112 rfl (v := nI 0) (by decide) ?_
                    refine j_istore 115 C dX11_fit_113 rfl rfl (by decide) ?_
                    refine j_iconst 116 C dX11_fit_115 rfl (v := (-1)) (by decide) ?_
                    refine j_istore 118 C dX11_fit_116 rfl rfl (by decide) ?_
                    refine j_iconst 119 C dX11_fit_118 rfl (v := (-1)) (by decide) ?_
                    refine j_istore 121 C dX11_fit_119 rfl rfl (by decide) ?_
                    refine j_aload_n 122 C dX11_fit_121 rfl rfl ?_
                    refine j_iconst 123 C dX11_fit_122 rfl (v := nI 4) (by decide) ?_
                    refine j_iload_n 124 C dX11_fit_123 rfl rfl ?_
                    refine j_imulN 125 C dX11_fit_124 rfl ?_
                    refine j_iload_n 126 C dX11_fit_125 rfl rfl ?_
                    refine j_iaddN 127 C dX11_fit_126 rfl ?_
                    refine rpH_constantLaw 130 C dX11_fit_127 rfl ?_
                    refine j_aload_n 131 C dX11_fit_130 rfl rfl ?_
                    refine j_iload_n 132 C dX11_fit_131 rfl rfl ?_
                    refine rpH_constant 135 C dX11_fit_132 rfl ?_
                    have lp135 : ∀ (m : Nat) (j : Nat) (gc : Nat → Int32), hh + 1 - ll - j = m → ll + j ≤ hh + 1 → (∀ i, i < 2018 * c → gc i = g i) → J X 9 0 0 (mw o ad G.2.1 (setHd (aR (sS (sS (sS M 24 (nI (4 * a + s))) 25 (nI (ll + j))) 27 (nI c)) 26 gc) h)) 135 [(0, .ref o), (4, .int (nI hh)), (5, .int (nI w)), (6, .int (nI (f_ftn (M.2.1 1) (M.2.1 5) n (nI (4 * a + s)) ll j).1)), (7, .int (f_ftn (M.2.1 1) (M.2.1 5) n (nI (4 * a + s)) ll j).2.1), (8, .int (f_ftn (M.2.1 1) (M.2.1 5) n (nI (4 * a + s)) ll j).2.2)] [] := by
                      intro m
                      induction m using Nat.strongRecOn with
                      | ind m ilp135 =>
                      intro j gc hm hj hgc; have hle := f_ftn_le (M.2.1 1) (M.2.1 5) n (nI (4 * a + s)) ll j
                      refine j_aload_n 136 C dX11_fit_135 rfl rfl ?_
                      refine rgH_constant 139 C dX11_fit_136 rfl ?_
                      rw [show (aR (sS (sS (sS M 24 (nI (4 * a + s))) 25 (nI (ll + j))) 27 (nI c)) 26 gc).1 25 = nI (ll + j) from rfl]
                      refine j_iload 141 C dX11_fit_139 rfl rfl ?_
                      refine j_icmp_gtN 193 144 C dX11_fit_141 (by decide) rfl (by omega) (by omega) (fun c141 => ?_) (fun c141 => ?_)
                      · have hjk : j = hh - ll + 1 := by omega
                        refine j_aload_n 194 C dX11_fit_193 rfl rfl ?_
                        refine j_iconst 195 C dX11_fit_194 rfl (v := (-1)) (by decide) ?_
                        refine rpH_constantLaw 198 C dX11_fit_195 rfl ?_
                        refine j_ws (mw o ad G.2.1 (setHd (aR (sS (sS (sS M 24 (-1)) 25 (nI (hh + 1))) 27 (nI c)) 26 gc) h)) (by rw [show ll + j = hh + 1 by omega]; rfl) ?_
                        refine j_iload 200 C dX11_fit_198 rfl rfl ?_
                        refine j_if_neN 208 203 C dX11_fit_200 (by decide) rfl (by omega) (fun c200 => ?_) (fun c200 => ?_)
                        · refine j_iload 210 C dX11_fit_208 rfl rfl ?_
                          refine j_iconst 211 C dX11_fit_210 rfl (v := nI 1) (by decide) ?_
                          refine j_icmp_neN 219 214 C dX11_fit_211 (by decide) rfl (by omega) (by omega) (fun c211 => ?_) (fun c211 => ?_)
                          · refine j_iload 221 C dX11_fit_219 rfl rfl ?_
                            exact j_iret C dX11_fit_221 ⟨by rw [if_pos hok, if_neg h5, tn_nI (by omega), tn_nI (by omega), tn_nI (by omega), tn_nI (by omega), tn_nI (by omega), ← hjk, if_neg (by omega), if_neg (by omega)], gc, hgc, by rw [if_pos ⟨hok, h5⟩, tn_nI (by omega)]⟩
                          · refine j_iload 216 C dX11_fit_214 rfl rfl ?_
                            refine j_goto 221 C dX11_fit_216 (by decide) ?_
                            exact j_iret C dX11_fit_221 ⟨by rw [if_pos hok, if_neg h5, tn_nI (by omega), tn_nI (by omega), tn_nI (by omega), tn_nI (by omega), tn_nI (by omega), ← hjk, if_neg (by omega), if_pos (by omega)], gc, hgc, by rw [if_pos ⟨hok, h5⟩, tn_nI (by omega)]⟩
                        · refine j_iload 205 C dX11_fit_203 rfl rfl ?_
                          refine j_goto 221 C dX11_fit_205 (by decide) ?_
                          exact j_iret C dX11_fit_221 ⟨by rw [if_pos hok, if_neg h5, tn_nI (by omega), tn_nI (by omega), tn_nI (by omega), tn_nI (by omega), tn_nI (by omega), ← hjk, if_pos (by omega)], gc, hgc, by rw [if_pos ⟨hok, h5⟩, tn_nI (by omega)]⟩
                      · refine j_aload_n 145 C dX11_fit_144 rfl rfl ?_
                        refine j_mE 148 C dX11_fit_145 rfl cw11_379 rfl (c_fitsBookF (by omega) hn hn60 hB hWF) rfl (by omega) rfl (Nat.le_of_ble_eq_true rfl) (fun g2 hg2 => ?_)
                        refine j_if_neB 154 151 C dX11_fit_148 (by decide) rfl (fun c148 => ?_) (fun c148 => ?_)
                        · have hs : (f_ftn (M.2.1 1) (M.2.1 5) n (nI (4 * a + s)) ll (j + 1)) = ((f_ftn (M.2.1 1) (M.2.1 5) n (nI (4 * a + s)) ll j).1 + 1, (if (f_ftn (M.2.1 1) (M.2.1 5) n (nI (4 * a + s)) ll j).2.1 = -1 then nI (ll + j) else (f_ftn (M.2.1 1) (M.2.1 5) n (nI (4 * a + s)) ll j).2.1), nI (ll + j)) := if_pos c148
                          refine j_iincN 157 (z := 1) C dX11_fit_154 rfl rfl rfl (by decide) ?_
                          refine j_iload 159 C dX11_fit_157 rfl rfl ?_
                          refine j_iconst 160 C dX11_fit_159 rfl (v := (-1)) (by decide) ?_
                          refine j_icmp_ne 170 163 C dX11_fit_160 (by decide) rfl (fun c160 => ?_) (fun c160 => ?_)
                          · rw [if_neg c160] at hs
                            refine j_iload 172 C dX11_fit_170 rfl rfl ?_
                            refine j_istore 174 C dX11_fit_172 rfl rfl (by decide) ?_
                            refine j_aload_n 175 C dX11_fit_174 rfl rfl ?_
                            refine rgH_constant 178 C dX11_fit_175 rfl ?_
                            rw [show (aR (sS (sS (sS M 24 (nI (4 * a + s))) 25 (nI (ll + j))) 27 (nI c)) 26 g2).1 25 = nI (ll + j) from rfl]
                            refine j_istore 180 C dX11_fit_178 rfl rfl (by decide) ?_
                            refine j_aload_n 181 C dX11_fit_180 rfl rfl ?_
                            refine j_dup 182 C dX11_fit_181 rfl rfl ?_
                            refine rgH_constant 185 C dX11_fit_182 rfl ?_
                            rw [show (aR (sS (sS (sS M 24 (nI (4 * a + s))) 25 (nI (ll + j))) 27 (nI c)) 26 g2).1 25 = nI (ll + j) from rfl]
                            refine j_iconst 186 C dX11_fit_185 rfl (v := nI 1) (by decide) ?_
                            refine j_iaddN 187 C dX11_fit_186 rfl ?_
                            refine rpH_constant 190 C dX11_fit_187 rfl ?_
                            refine j_ws (mw o ad G.2.1 (setHd (aR (sS (sS (sS M 24 (nI (4 * a + s))) 25 (nI (ll + (j + 1)))) 27 (nI c)) 26 g2) h)) rfl ?_
                            refine j_goto 135 C dX11_fit_190 (by decide) ?_
                            exact j_weak _ (by rw [hs]; exact ⟨rfl, rfl, rfl, rfl, rfl, rfl, trivial⟩) (ilp135 _ (by omega) (j + 1) g2 rfl (by omega) (fun i hi => (hg2 i hi).trans (hgc i hi)))
                          · rw [if_pos c160] at hs
                            refine j_aload_n 164 C dX11_fit_163 rfl rfl ?_
                            refine rgH_constant 167 C dX11_fit_164 rfl ?_
                            rw [show (aR (sS (sS (sS M 24 (nI (4 * a + s))) 25 (nI (ll + j))) 27 (nI c)) 26 g2).1 25 = nI (ll + j) from rfl]
                            refine j_goto 172 C dX11_fit_167 (by decide) ?_
                            refine j_istore 174 C dX11_fit_172 rfl rfl (by decide) ?_
                            refine j_aload_n 175 C dX11_fit_174 rfl rfl ?_
                            refine rgH_constant 178 C dX11_fit_175 rfl ?_
                            rw [show (aR (sS (sS (sS M 24 (nI (4 * a + s))) 25 (nI (ll + j))) 27 (nI c)) 26 g2).1 25 = nI (ll + j) from rfl]
                            refine j_istore 180 C dX11_fit_178 rfl rfl (by decide) ?_
                            refine j_aload_n 181 C dX11_fit_180 rfl rfl ?_
                            refine j_dup 182 C dX11_fit_181 rfl rfl ?_
                            refine rgH_constant 185 C dX11_fit_182 rfl ?_
                            rw [show (aR (sS (sS (sS M 24 (nI (4 * a + s))) 25 (nI (ll + j))) 27 (nI c)) 26 g2).1 25 = nI (ll + j) from rfl]
                            refine j_iconst 186 C dX11_fit_185 rfl (v := nI 1) (by decide) ?_
                            refine j_iaddN 187 C dX11_fit_186 rfl ?_
                            refine rpH_constant 190 C dX11_fit_187 rfl ?_
                            refine j_ws (mw o ad G.2.1 (setHd (aR (sS (sS (sS M 24 (nI (4 * a + s))) 25 (nI (ll + (j + 1)))) 27 (nI c)) 26 g2) h)) rfl ?_
                            refine j_goto 135 C dX11_fit_190 (by decide) ?_
                            exact j_weak _ (by rw [hs]; exact ⟨rfl, rfl, rfl, rfl, rfl, rfl, trivial⟩) (ilp135 _ (by omega) (j + 1) g2 rfl (by omega) (fun i hi => (hg2 i hi).trans (hgc i hi)))
                        · have hs : (f_ftn (M.2.1 1) (M.2.1 5) n (nI (4 * a + s)) ll (j + 1)) = (f_ftn (M.2.1 1) (M.2.1 5) n (nI (4 * a + s)) ll j) := if_neg c148
                          refine j_goto 180 C dX11_fit_151 (by decide) ?_
                          refine j_aload_n 181 C dX11_fit_180 rfl rfl ?_
                          refine j_dup 182 C dX11_fit_181 rfl rfl ?_
                          refine rgH_constant 185 C dX11_fit_182 rfl ?_
                          rw [show (aR (sS (sS (sS M 24 (nI (4 * a + s))) 25 (nI (ll + j))) 27 (nI c)) 26 g2).1 25 = nI (ll + j) from rfl]
                          refine j_iconst 186 C dX11_fit_185 rfl (v := nI 1) (by decide) ?_
                          refine j_iaddN 187 C dX11_fit_186 rfl ?_
                          refine rpH_constant 190 C dX11_fit_187 rfl ?_
                          refine j_ws (mw o ad G.2.1 (setHd (aR (sS (sS (sS M 24 (nI (4 * a + s))) 25 (nI (ll + (j + 1)))) 27 (nI c)) 26 g2) h)) rfl ?_
                          refine j_goto 135 C dX11_fit_190 (by decide) ?_
                          exact j_weak _ (by rw [hs]; exact ⟨rfl, rfl, rfl, rfl, rfl, rfl, trivial⟩) (ilp135 _ (by omega) (j + 1) g2 rfl (by omega) (fun i hi => (hg2 i hi).trans (hgc i hi)))
                    refine j_ws (mw o ad G.2.1 (setHd (aR (sS (sS (sS M 24 (nI (4 * a + s))) 25 (nI (ll + 0))) 27 (nI c)) 26 g) h)) rfl ?_
                    exact j_weak _ (by exact ⟨rfl, rfl, rfl, rfl, rfl, rfl, trivial⟩) (lp135 _ 0 g rfl (by omega) (fun _ _ => rfl))
                  · refine j_bipush 111 C dX11_fit_109 rfl (v := (-5)) (by decide) ?_
                    exact j_iret C dX11_fit_111 ⟨by rw [if_pos hok, if_pos (show (nI 400 < h 2016 ∨ 0 < M.1 4 ∨ ¬ (M.2.1 1) 2 = (M.2.1 1) 9) from Or.inr (Or.inr c106))], g, fun _ _ => rfl, by rw [if_neg (fun z => z.2 (Or.inr (Or.inr c106)))]⟩
            · refine j_bipush 71 C dX11_fit_69 rfl (v := (-2)) (by decide) ?_
              exact j_iret C dX11_fit_71 ⟨by rw [if_neg (fun z => c66 z.2.2.2.2.2)], g, fun _ _ => rfl, by rw [if_neg (fun z => c66 z.1.2.2.2.2.2)]⟩
end S17
