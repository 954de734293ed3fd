theorem RB_addU {S0 S : MS} {nr j : Nat} {md : Nat → Int32} {x : Int32} (h : RB S0 S nr j md) (hj : j < 12) : RB S0 (if j < 12 then aS (aS S 4 (12 * nr + j) x) 2 nr (nI (j + 1)) else S) nr (j + 1) (upd md j x) :=
  RB_add ⟨h.1, h.2.1, h.2.2.1, h.2.2.2.1, h.2.2.2.2.1, fun i hi => by rw [pk_un (by omega)]; exact h.2.2.2.2.2 i hi⟩ hj (by rw [pk_us])
section SN11
variable {l : Launch} {G : GG} {wd : Nat → Int32} {x y : Int32} {zn zs zm zh zt zr zb : Nat → Nat} {Sn Ss Sm Sh St Sr Sb : MS} {fi fs : Nat → Option Nat} {pa dk : Option Nat} {R : va_W}
theorem K10_shuffled (hR : RR Sr wd) (hW : WF wd) : Con l G yX10_shuffled cX10_shuffled 6 (some .int) 3 0 0 [.ref (zn 50), .int x, .int y] (nBk zn (zs 50) G.2.1 Sn fi fs pa dk ++ (sBk zs (zm 50) (zb 50) G.2.1 Ss ++ (mBk zm (zt 50) (zr 50) (zh 50) G.2.1 Sm ++ (hBk zh G.2.1 Sh ++ (tBk zt G.2.1 St ++ (rBk zr G.2.1 Sr ++ (bBk zb G.2.1 Sb ++ (R)))))))) (qI (fun s : MS => (nBk zn (zs 50) G.2.1 Sn fi fs pa dk ++ (sBk zs (zm 50) (zb 50) G.2.1 Ss ++ (mBk zm (zt 50) (zr 50) (zh 50) G.2.1 Sm ++ (hBk zh G.2.1 Sh ++ (tBk zt G.2.1 St ++ (rBk zr G.2.1 s ++ (bBk zb G.2.1 Sb ++ (R))))))))) (fun v s => (isI x (nrw wd) ∧ isP y 4 → ¬ nrw wd = 12 → v = nI (nrw wd) ∧ RN Sr s (nrw wd) (len wd (tn x)) (f_sO wd (tn x) (tn y) (fun _ => nI 0) (tn y + 1))) ∧ (isI x (nrw wd) ∧ isP y 4 → nrw wd = 12 → v = -3 ∧ s = Sr) ∧ (¬ (isI x (nrw wd) ∧ isP y 4) → v = -2 ∧ s = Sr))) := by
  refine Con.mk (own := RX10) (by decide) rfl (Nat.le_of_ble_eq_true rfl) (fun X C => ?_)
  refine j_aload_n 1 C dX10_shuffled_0 rfl rfl ?_
  refine Lng_n4 4 C dX10_shuffled_1 rfl fl10_20 ?_
  refine Lng_s0 7 C dX10_shuffled_4 rfl fl10_61 ?_
  refine Lng_m1 10 C dX10_shuffled_7 rfl fl10_78 ?_
  refine j_astore_n 11 C dX10_shuffled_10 rfl rfl (by decide) ?_
  refine j_aload_n 12 C dX10_shuffled_11 rfl rfl ?_
  refine j_iload_n 13 C dX10_shuffled_12 rfl rfl ?_
  refine Lnx_rI 16 C dX10_shuffled_13 rfl cw10_107 rfl (K5_has (hR.1.trans hW.2.2.1.1) hW.2.2.1.2) rfl (by decide) ⟨Nat.le_refl _, Nat.le_refl _⟩ rfl (Nat.le_of_ble_eq_true rfl) ?_
  refine j_if_eqB 29 19 C dX10_shuffled_16 (by decide) rfl (fun c16 => ?_) (fun c16 => ?_)
  · refine j_bipush 31 C dX10_shuffled_29 rfl (v := (-2)) (by decide) ?_
    exact j_iret C dX10_shuffled_31 (by refine ⟨_, Sr, ?_, rfl, rfl⟩; exact ⟨fun q => absurd q (fun q => c16 q.1), fun q => absurd q (fun q => c16 q.1), fun _ => ⟨rfl, rfl⟩⟩)
  · obtain ⟨r, hrw, rfl⟩ := isI_of c16
    obtain ⟨hl2, hl12, hr12, -⟩ := WF_len hW hrw
    refine j_iload_n 20 C dX10_shuffled_19 rfl rfl ?_
    refine j_iconst 21 C dX10_shuffled_20 rfl (v := nI 1) (by decide) ?_
    refine j_icmp_lt 29 24 C dX10_shuffled_21 (by decide) rfl (fun c21 => ?_) (fun c21 => ?_)
    · refine j_bipush 31 C dX10_shuffled_29 rfl (v := (-2)) (by decide) ?_
      exact j_iret C dX10_shuffled_31 (by refine ⟨_, Sr, ?_, rfl, rfl⟩; exact ⟨fun q => absurd q (fun q => ((isP_iff (n := 3) (by omega)).mp q.2).1 c21), fun q => absurd q (fun q => ((isP_iff (n := 3) (by omega)).mp q.2).1 c21), fun _ => ⟨rfl, rfl⟩⟩)
    · refine j_iload_n 25 C dX10_shuffled_24 rfl rfl ?_
      refine j_iconst 26 C dX10_shuffled_25 rfl (v := nI 3) (by decide) ?_
      refine j_icmp_le 32 29 C dX10_shuffled_26 (by decide) rfl (fun c26 => ?_) (fun c26 => ?_)
      · have hP := (isP_iff (x := y) (n := 3) (by omega)).mpr ⟨c21, c26⟩
        have hok : isI (nI r) (nrw wd) ∧ isP y 4 := ⟨c16, hP⟩
        obtain ⟨k, hk1, hk4, rfl⟩ := isP_of hP (by omega)
        refine j_aload_n 33 C dX10_shuffled_32 rfl rfl ?_
        refine Lnx_rI 36 C dX10_shuffled_33 rfl cw10_264 rfl (K5_isFull (hR.1.trans hW.2.2.1.1) hW.2.2.1.2) rfl (by decide) ⟨Nat.le_refl _, Nat.le_refl _⟩ rfl (Nat.le_of_ble_eq_true rfl) ?_
        refine j_if_eqB 42 39 C dX10_shuffled_36 (by decide) rfl (fun c36 => ?_) (fun c36 => ?_)
        · have hnf : ¬ nrw wd = 12 := by omega
          have hn12 := hW.2.2.1.2
          have lp49 : ∀ (m : Nat) (f : Nat) (s0 : MS), k + 1 - f = m → f ≤ k + 1 → RB Sr s0 (nrw wd) (shN (len wd r) k f) (f_sO wd r k (fun _ => nI 0) f) → J X 6 0 0 (nBk zn (zs 50) G.2.1 Sn fi fs pa dk ++ (sBk zs (zm 50) (zb 50) G.2.1 Ss ++ (mBk zm (zt 50) (zr 50) (zh 50) G.2.1 Sm ++ (hBk zh G.2.1 Sh ++ (tBk zt G.2.1 St ++ (rBk zr G.2.1 s0 ++ (bBk zb G.2.1 Sb ++ (R)))))))) 49 [(0, .ref (zn 50)), (1, .int (nI r)), (2, .int (nI k)), (3, .ref (zr 50)), (4, .int (nI f))] [] := by
            intro m
            induction m using Nat.strongRecOn with
            | ind m ilp49 =>
            intro f s0 hm hf1 hS0
            refine j_iload 51 C dX10_shuffled_49 rfl rfl ?_
            refine j_iload_n 52 C dX10_shuffled_51 rfl rfl ?_
            refine j_icmp_gtN 99 55 C dX10_shuffled_52 (by decide) rfl (by omega) (by omega) (fun c52 => ?_) (fun c52 => ?_)
            · have hfk : f = k + 1 := by omega
              subst hfk
              refine j_aload_n 100 C dX10_shuffled_99 rfl rfl ?_
              refine Lnx_rI 103 C dX10_shuffled_100 rfl cw10_273 rfl (K5_close hS0.1.1 (by omega)) rfl (by decide) ⟨Nat.le_refl _, Nat.le_refl _⟩ rfl (Nat.le_of_ble_eq_true rfl) ?_
              exact j_iret C dX10_shuffled_103 (by refine ⟨_, _, ?_, rfl, rfl⟩; refine ⟨fun _ _ => ⟨rfl, by rw [tn_nI (by omega), tn_nI (by omega)]; rw [sh_tot (by omega) (by omega) hk1] at hS0; exact RB_close hS0⟩, fun _ q => absurd q hnf, fun q => absurd hok q⟩)
            · have hf : f ≤ k := by omega
              refine j_iload 57 C dX10_shuffled_55 rfl rfl ?_
              refine j_istore 59 C dX10_shuffled_57 rfl rfl (by decide) ?_
              have lp59 : ∀ (m : Nat) (t : Nat) (s : MS), 13 - t = m → t ≤ shC (len wd r) k f → t ≤ 12 → RB Sr s (nrw wd) (shN (len wd r) k f + t) (f_sI wd r k f (f_sO wd r k (fun _ => nI 0) f) t) → J X 6 0 0 (nBk zn (zs 50) G.2.1 Sn fi fs pa dk ++ (sBk zs (zm 50) (zb 50) G.2.1 Ss ++ (mBk zm (zt 50) (zr 50) (zh 50) G.2.1 Sm ++ (hBk zh G.2.1 Sh ++ (tBk zt G.2.1 St ++ (rBk zr G.2.1 s ++ (bBk zb G.2.1 Sb ++ (R)))))))) 59 [(0, .ref (zn 50)), (1, .int (nI r)), (2, .int (nI k)), (3, .ref (zr 50)), (4, .int (nI f)), (5, .int (nI (f + t * (k + 1))))] [] := by
                intro m
                induction m using Nat.strongRecOn with
                | ind m ilp59 =>
                intro t s hm ht ht12 hS
                have htk : t * (k + 1) ≤ 12 * 4 := Nat.mul_le_mul ht12 (by omega)
                refine j_iload 61 C dX10_shuffled_59 rfl rfl ?_
                refine j_aload_n 62 C dX10_shuffled_61 rfl rfl ?_
                refine Lng_r2 65 C dX10_shuffled_62 rfl fl10_199 ?_
                refine j_iload_n 66 C dX10_shuffled_65 rfl rfl ?_
                refine Lna_r2 67 C dX10_shuffled_66 rfl _ (by omega) rfl ?_
                refine j_top ((hS.2.1 r (by omega)).1.trans (RR_len hR hW hrw)) ?_
                refine j_icmp_geN 93 70 C dX10_shuffled_67 (by decide) rfl (by omega) (by omega) (fun c67 => ?_) (fun c67 => ?_)
                · have htc := sh_out (m := len wd r) (k := k) (f := f) (t := t) (by omega) (by omega) hf c67 ht (by omega)
                  refine j_iincN 96 (z := 1) C dX10_shuffled_93 rfl rfl rfl (by decide) ?_
                  refine j_goto 49 C dX10_shuffled_96 (by decide) ?_
                  exact j_weak _ (by exact ⟨rfl, rfl, rfl, rfl, rfl, trivial⟩) (ilp49 (k + 1 - (f + 1)) (by omega) (f + 1) _ rfl (by omega) (by rw [f_sO, shN, ← htc]; exact hS))
                · obtain ⟨hsh1, hsh2⟩ := sh_in (m := len wd r) (k := k) (f := f) (t := t) (by omega) (by omega) hf c67
                  have htl : t < len wd r := by omega
                  refine j_aload_n 71 C dX10_shuffled_70 rfl rfl ?_
                  refine j_aload_n 72 C dX10_shuffled_71 rfl rfl ?_
                  refine j_iload_n 73 C dX10_shuffled_72 rfl rfl ?_
                  refine j_iload 75 C dX10_shuffled_73 rfl rfl ?_
                  refine Lnx_rI 78 C dX10_shuffled_75 rfl cw10_203 rfl (K5_thingAt (Sr := s) (by omega)) rfl (by decide) ⟨Nat.le_refl _, Nat.le_refl _⟩ rfl (Nat.le_of_ble_eq_true rfl) ?_
                  refine j_top ((hS.2.2.1 (12 * r + (f + t * (k + 1))) (by omega)).trans ((hR.2 r hrw).2 _ (by omega))) ?_
                  refine Lnx_rI 81 C dX10_shuffled_78 rfl cw10_270 rfl (K5_add hS.1.1 (by omega) hS.2.2.2.1 (by omega)) rfl (by decide) ⟨Nat.le_refl _, Nat.le_refl _⟩ rfl (Nat.le_of_ble_eq_true rfl) ?_
                  refine j_pop 82 C dX10_shuffled_81 rfl rfl ?_
                  refine j_iload 84 C dX10_shuffled_82 rfl rfl ?_
                  refine j_iload_n 85 C dX10_shuffled_84 rfl rfl ?_
                  refine j_iconst 86 C dX10_shuffled_85 rfl (v := nI 1) (by decide) ?_
                  refine j_iaddN 87 C dX10_shuffled_86 rfl ?_
                  refine j_iaddN 88 C dX10_shuffled_87 rfl ?_
                  refine j_istore 90 C dX10_shuffled_88 rfl rfl (by decide) ?_
                  refine j_goto 59 C dX10_shuffled_90 (by decide) ?_
                  exact j_weak _ (by rw [show f + (t + 1) * (k + 1) = f + t * (k + 1) + (k + 1) by rw [Nat.succ_mul]; omega]; exact ⟨rfl, rfl, rfl, rfl, rfl, rfl, trivial⟩) (ilp59 _ (by omega) (t + 1) _ rfl (by omega) (by omega) (by rw [f_sI]; exact RB_addU hS (by omega)))
              exact j_weak _ (by rw [Nat.zero_mul]; exact ⟨rfl, rfl, rfl, rfl, rfl, rfl, trivial⟩) (lp59 _ 0 s0 rfl (Nat.zero_le _) (Nat.zero_le _) hS0)
          refine j_aload_n 43 C dX10_shuffled_42 rfl rfl ?_
          refine Lnx_rV 46 C dX10_shuffled_43 rfl cw10_267 rfl (K5_begin (hR.1.trans hW.2.2.1.1) (by omega)) rfl (by decide) ⟨Nat.le_refl _, Nat.le_refl _⟩ rfl (Nat.le_of_ble_eq_true rfl) ?_
          refine j_iconst 47 C dX10_shuffled_46 rfl (v := nI 0) (by decide) ?_
          refine j_istore 49 C dX10_shuffled_47 rfl rfl (by decide) ?_
          exact j_weak _ (by exact ⟨rfl, rfl, rfl, rfl, rfl, trivial⟩) (lp49 _ 0 _ rfl (Nat.zero_le _) (RB_0 (hR.1.trans hW.2.2.1.1) _))
        · have hn12 := hW.2.2.1.2
          refine j_bipush 41 C dX10_shuffled_39 rfl (v := (-3)) (by decide) ?_
          exact j_iret C dX10_shuffled_41 (by refine ⟨_, Sr, ?_, rfl, rfl⟩; exact ⟨fun _ q => absurd (by omega) q, fun _ _ => ⟨rfl, rfl⟩, fun q => absurd hok q⟩)
      · refine j_bipush 31 C dX10_shuffled_29 rfl (v := (-2)) (by decide) ?_
        exact j_iret C dX10_shuffled_31 (by refine ⟨_, Sr, ?_, rfl, rfl⟩; exact ⟨fun q => absurd q (fun q => c26 ((isP_iff (n := 3) (by omega)).mp q.2).2), fun q => absurd q (fun q => c26 ((isP_iff (n := 3) (by omega)).mp q.2).2), fun _ => ⟨rfl, rfl⟩⟩)
end SN11
