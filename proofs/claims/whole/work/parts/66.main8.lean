theorem plc_pin {wd f : Nat → Int32} {r2 n : Nat} {x : Int32} (hf : ∀ j, j < n → f j = wd (34 + 14 * r2 + 1 + j)) : ∀ m i, i + m = n → plc f x m i = f_pin wd r2 x m i
  | 0, _, _ => rfl
  | m + 1, i, h => by rw [plc, f_pin, hf i (by omega), plc_pin hf m (i + 1) (by omega)]
theorem bI_t1 {p : Prop} [Decidable p] (h : p) (v : Int32) : v + bI p = v + nI 1 := by rw [bI_t h]; rfl
theorem bI_f0 {p : Prop} [Decidable p] (h : ¬ p) (v : Int32) : v + bI p = v := by rw [bI_f h]; exact Int32.add_zero v
section SN8
variable {l : Launch} {G : GG} {wd hd bk : Nat → Int32} {hr td nb n : Nat} {x y z u : Int32} {zn zs zm zh zt zr zb : Nat → Nat} {Sn Ss Sm Sh St Sr Sb : MS} {fi fs : Nat → Option Nat} {pa dk : Option Nat} {R : va_W}
theorem K10_near (hR : RR Sr wd) (hW : WF wd) : Con l G yX10_near cX10_near 10 (some .int) 4 0 0 [.ref (zn 50), .int x, .int y, .int z, .int u] (nBk zn (zs 50) G.2.1 Sn fi fs pa dk ++ (sBk zs (zm 50) (zb 50) G.2.1 Ss ++ (mBk zm (zt 50) (zr 50) (zh 50) G.2.1 Sm ++ (hBk zh G.2.1 Sh ++ (tBk zt G.2.1 St ++ (rBk zr G.2.1 Sr ++ (bBk zb G.2.1 Sb ++ (R)))))))) (pI (if isI x (nrw wd) ∧ isI y (nrw wd) ∧ isP z 12 then f_nr wd (tn x) (tn y) z u (len wd (tn x) - 1) else -2) (nBk zn (zs 50) G.2.1 Sn fi fs pa dk ++ (sBk zs (zm 50) (zb 50) G.2.1 Ss ++ (mBk zm (zt 50) (zr 50) (zh 50) G.2.1 Sm ++ (hBk zh G.2.1 Sh ++ (tBk zt G.2.1 St ++ (rBk zr G.2.1 Sr ++ (bBk zb G.2.1 Sb ++ (R))))))))) := by
  refine Con.mk (own := RX10) (by decide) rfl (Nat.le_of_ble_eq_true rfl) (fun X C => ?_)
  refine j_aload_n 1 C dX10_near_0 rfl rfl ?_
  refine Lng_n4 4 C dX10_near_1 rfl fl10_20 ?_
  refine Lng_s0 7 C dX10_near_4 rfl fl10_61 ?_
  refine Lng_m1 10 C dX10_near_7 rfl fl10_78 ?_
  refine j_astore 12 C dX10_near_10 rfl rfl (by decide) ?_
  refine j_aload 14 C dX10_near_12 rfl rfl ?_
  refine j_iload_n 15 C dX10_near_14 rfl rfl ?_
  refine Lnx_rI 18 C dX10_near_15 rfl cw10_107 rfl (K5_has (hR.1.trans hW.2.2.1.1) hW.2.2.1.2) rfl (by decide) ⟨Nat.le_refl _, Nat.le_refl _⟩ rfl (Nat.le_of_ble_eq_true rfl) ?_
  refine j_if_eqB 41 21 C dX10_near_18 (by decide) rfl (fun c18 => ?_) (fun c18 => ?_)
  · refine j_bipush 43 C dX10_near_41 rfl (v := (-2)) (by decide) ?_
    exact j_iret C dX10_near_43 ⟨by rw [if_neg (fun k => c18 k.1)], rfl⟩
  · obtain ⟨r, hrw, rfl⟩ := isI_of c18
    have hlr := WF_len hW hrw
    refine j_aload 23 C dX10_near_21 rfl rfl ?_
    refine j_iload_n 24 C dX10_near_23 rfl rfl ?_
    refine Lnx_rI 27 C dX10_near_24 rfl cw10_107 rfl (K5_has (hR.1.trans hW.2.2.1.1) hW.2.2.1.2) rfl (by decide) ⟨Nat.le_refl _, Nat.le_refl _⟩ rfl (Nat.le_of_ble_eq_true rfl) ?_
    refine j_if_eqB 41 30 C dX10_near_27 (by decide) rfl (fun c27 => ?_) (fun c27 => ?_)
    · refine j_bipush 43 C dX10_near_41 rfl (v := (-2)) (by decide) ?_
      exact j_iret C dX10_near_43 ⟨by rw [if_neg (fun k => c27 k.2.1)], rfl⟩
    · obtain ⟨q, hqw, rfl⟩ := isI_of c27
      have hlq := WF_len hW hqw
      have hq12 := hlq.2.2.1
      refine j_iload_n 31 C dX10_near_30 rfl rfl ?_
      refine j_iconst 32 C dX10_near_31 rfl (v := nI 1) (by decide) ?_
      refine j_icmp_lt 41 35 C dX10_near_32 (by decide) rfl (fun c32 => ?_) (fun c32 => ?_)
      · refine j_bipush 43 C dX10_near_41 rfl (v := (-2)) (by decide) ?_
        exact j_iret C dX10_near_43 ⟨by rw [if_neg (fun k => ((isP_iff (n := 11) (by omega)).mp k.2.2).1 c32)], rfl⟩
      · refine j_iload_n 36 C dX10_near_35 rfl rfl ?_
        refine j_bipush 38 C dX10_near_36 rfl (v := nI 12) (by decide) ?_
        refine j_icmp_lt 44 41 C dX10_near_38 (by decide) rfl (fun c38 => ?_) (fun c38 => ?_)
        · have hok : isI (nI r) (nrw wd) ∧ isI (nI q) (nrw wd) ∧ isP z 12 := ⟨c18, c27, (isP_iff (n := 11) (by omega)).mpr ⟨c32, by rw [Int32.lt_iff_toInt_lt] at c38; rw [Int32.le_iff_toInt_le]; exact Int.le_of_lt_add_one c38⟩⟩
          have lp50 : ∀ (m : Nat) (i : Nat) (p : Int32), len wd r - i = m → 1 ≤ i → i ≤ len wd r → p = (f_nr wd r q z u (i - 1)) → J X 10 0 0 (nBk zn (zs 50) G.2.1 Sn fi fs pa dk ++ (sBk zs (zm 50) (zb 50) G.2.1 Ss ++ (mBk zm (zt 50) (zr 50) (zh 50) G.2.1 Sm ++ (hBk zh G.2.1 Sh ++ (tBk zt G.2.1 St ++ (rBk zr G.2.1 Sr ++ (bBk zb G.2.1 Sb ++ (R)))))))) 50 [(0, .ref (zn 50)), (1, .int (nI r)), (2, .int (nI q)), (3, .int z), (4, .int u), (5, .ref (zr 50)), (6, .int p), (7, .int (nI i))] [] := by
            intro m
            induction m using Nat.strongRecOn with
            | ind m ilp50 =>
            intro i p hm hi1 hi hp
            refine j_iload 52 C dX10_near_50 rfl rfl ?_
            refine j_aload 54 C dX10_near_52 rfl rfl ?_
            refine Lng_r2 57 C dX10_near_54 rfl fl10_199 ?_
            refine j_iload_n 58 C dX10_near_57 rfl rfl ?_
            refine Lna_r2 59 C dX10_near_58 rfl _ (by omega) rfl ?_
            refine j_top (RR_len hR hW hrw) ?_
            refine j_icmp_geN 139 62 C dX10_near_59 (by decide) rfl (by omega) (by omega) (fun c59 => ?_) (fun c59 => ?_)
            · refine j_iload 141 C dX10_near_139 rfl rfl ?_
              exact j_iret C dX10_near_141 ⟨by refine Eq.trans ?_ (congrArg (fun q => some (Value.int q)) (if_pos hok).symm); rw [hp, show i - 1 = len wd r - 1 by omega, tn_nI (by omega), tn_nI (by omega)], rfl⟩
            · refine j_aload 64 C dX10_near_62 rfl rfl ?_
              refine j_iload_n 65 C dX10_near_64 rfl rfl ?_
              refine j_aload 67 C dX10_near_65 rfl rfl ?_
              refine j_iload_n 68 C dX10_near_67 rfl rfl ?_
              refine j_iload 70 C dX10_near_68 rfl rfl ?_
              refine j_iconst 71 C dX10_near_70 rfl (v := nI 1) (by decide) ?_
              refine j_isubN 72 C dX10_near_71 rfl (by omega) ?_
              refine Lnx_rI 75 C dX10_near_72 rfl cw10_203 rfl (K5_thingAt (by omega)) rfl (by decide) ⟨Nat.le_refl _, Nat.le_refl _⟩ rfl (Nat.le_of_ble_eq_true rfl) ?_
              refine j_top ((hR.2 r hrw).2 (i - 1) (by omega)) ?_
              refine Lnx_rI 78 C dX10_near_75 rfl cw10_206 rfl (K5_placeOf hq12 (RR_len hR hW hqw) hlq.2.1) rfl (by decide) ⟨Nat.le_refl _, Nat.le_refl _⟩ rfl (Nat.le_of_ble_eq_true rfl) ?_
              refine j_top (plc_pin (fun j hj => (hR.2 q hqw).2 j hj) _ 0 (by omega)) ?_
              refine j_istore 80 C dX10_near_78 rfl rfl (by decide) ?_
              refine j_aload 82 C dX10_near_80 rfl rfl ?_
              refine j_iload_n 83 C dX10_near_82 rfl rfl ?_
              refine j_aload 85 C dX10_near_83 rfl rfl ?_
              refine j_iload_n 86 C dX10_near_85 rfl rfl ?_
              refine j_iload 88 C dX10_near_86 rfl rfl ?_
              refine Lnx_rI 91 C dX10_near_88 rfl cw10_203 rfl (K5_thingAt (by omega)) rfl (by decide) ⟨Nat.le_refl _, Nat.le_refl _⟩ rfl (Nat.le_of_ble_eq_true rfl) ?_
              refine j_top ((hR.2 r hrw).2 i (by omega)) ?_
              refine Lnx_rI 94 C dX10_near_91 rfl cw10_206 rfl (K5_placeOf hq12 (RR_len hR hW hqw) hlq.2.1) rfl (by decide) ⟨Nat.le_refl _, Nat.le_refl _⟩ rfl (Nat.le_of_ble_eq_true rfl) ?_
              refine j_top (plc_pin (fun j hj => (hR.2 q hqw).2 j hj) _ 0 (by omega)) ?_
              refine j_istore 96 C dX10_near_94 rfl rfl (by decide) ?_
              refine j_iload 98 C dX10_near_96 rfl rfl ?_
              refine j_iconst 99 C dX10_near_98 rfl (v := (-1)) (by decide) ?_
              refine j_icmp_eq 133 102 C dX10_near_99 (by decide) rfl (fun c99 => ?_) (fun c99 => ?_)
              · refine j_iincN 136 (z := 1) C dX10_near_133 rfl rfl rfl (by decide) ?_
                refine j_goto 50 C dX10_near_136 (by decide) ?_
                exact j_weak _ (by exact ⟨rfl, rfl, rfl, rfl, rfl, rfl, rfl, rfl, trivial⟩) (ilp50 _ (by omega) (i + 1) _ rfl (by omega) (by omega) (by rw [show i + 1 - 1 = (i - 1) + 1 by omega, f_nr, ← hp, bI_f0 (fun k => k.1 c99)]))
              · refine j_iload 104 C dX10_near_102 rfl rfl ?_
                refine j_iconst 105 C dX10_near_104 rfl (v := (-1)) (by decide) ?_
                refine j_icmp_eq 133 108 C dX10_near_105 (by decide) rfl (fun c105 => ?_) (fun c105 => ?_)
                · refine j_iincN 136 (z := 1) C dX10_near_133 rfl rfl rfl (by decide) ?_
                  refine j_goto 50 C dX10_near_136 (by decide) ?_
                  exact j_weak _ (by exact ⟨rfl, rfl, rfl, rfl, rfl, rfl, rfl, rfl, trivial⟩) (ilp50 _ (by omega) (i + 1) _ rfl (by omega) (by omega) (by rw [show i + 1 - 1 = (i - 1) + 1 by omega, f_nr, ← hp, bI_f0 (fun k => k.2.1 (by rw [show i - 1 + 1 = i by omega]; exact c105))]))
                · refine j_iload 110 C dX10_near_108 rfl rfl ?_
                  refine j_if_eq 121 113 C dX10_near_110 (by decide) rfl (fun c110 => ?_) (fun c110 => ?_)
                  · refine j_iload 123 C dX10_near_121 rfl rfl ?_
                    refine j_iload 125 C dX10_near_123 rfl rfl ?_
                    refine j_isub 126 C dX10_near_125 rfl ?_
                    refine j_iload_n 127 C dX10_near_126 rfl rfl ?_
                    refine j_icmp_ne 133 130 C dX10_near_127 (by decide) rfl (fun c127 => ?_) (fun c127 => ?_)
                    · refine j_iincN 136 (z := 1) C dX10_near_133 rfl rfl rfl (by decide) ?_
                      refine j_goto 50 C dX10_near_136 (by decide) ?_
                      exact j_weak _ (by exact ⟨rfl, rfl, rfl, rfl, rfl, rfl, rfl, rfl, trivial⟩) (ilp50 _ (by omega) (i + 1) _ rfl (by omega) (by omega) (by rw [show i + 1 - 1 = (i - 1) + 1 by omega, f_nr, ← hp, bI_f0 (fun k => c127 (by have k := k.2.2; rw [if_pos c110, show i - 1 + 1 = i by omega] at k; exact k))]))
                    · refine j_iinc 133 C dX10_near_130 rfl rfl rfl rfl (by decide) ?_
                      refine j_iincN 136 (z := 1) C dX10_near_133 rfl rfl rfl (by decide) ?_
                      refine j_goto 50 C dX10_near_136 (by decide) ?_
                      exact j_weak _ (by exact ⟨rfl, rfl, rfl, rfl, rfl, rfl, rfl, rfl, trivial⟩) (ilp50 _ (by omega) (i + 1) _ rfl (by omega) (by omega) (by rw [show i + 1 - 1 = (i - 1) + 1 by omega, f_nr, ← hp, bI_t1 ⟨c99, by rw [show i - 1 + 1 = i by omega]; exact c105, by rw [if_pos c110, show i - 1 + 1 = i by omega]; exact c127⟩]; rfl))
                  · refine j_iload 115 C dX10_near_113 rfl rfl ?_
                    refine j_iload 117 C dX10_near_115 rfl rfl ?_
                    refine j_isub 118 C dX10_near_117 rfl ?_
                    refine j_goto 126 C dX10_near_118 (by decide) ?_
                    refine j_iload_n 127 C dX10_near_126 rfl rfl ?_
                    refine j_icmp_ne 133 130 C dX10_near_127 (by decide) rfl (fun c127 => ?_) (fun c127 => ?_)
                    · refine j_iincN 136 (z := 1) C dX10_near_133 rfl rfl rfl (by decide) ?_
                      refine j_goto 50 C dX10_near_136 (by decide) ?_
                      exact j_weak _ (by exact ⟨rfl, rfl, rfl, rfl, rfl, rfl, rfl, rfl, trivial⟩) (ilp50 _ (by omega) (i + 1) _ rfl (by omega) (by omega) (by rw [show i + 1 - 1 = (i - 1) + 1 by omega, f_nr, ← hp, bI_f0 (fun k => c127 (by have k := k.2.2; rw [if_neg c110, show i - 1 + 1 = i by omega] at k; exact k))]))
                    · refine j_iinc 133 C dX10_near_130 rfl rfl rfl rfl (by decide) ?_
                      refine j_iincN 136 (z := 1) C dX10_near_133 rfl rfl rfl (by decide) ?_
                      refine j_goto 50 C dX10_near_136 (by decide) ?_
                      exact j_weak _ (by exact ⟨rfl, rfl, rfl, rfl, rfl, rfl, rfl, rfl, trivial⟩) (ilp50 _ (by omega) (i + 1) _ rfl (by omega) (by omega) (by rw [show i + 1 - 1 = (i - 1) + 1 by omega, f_nr, ← hp, bI_t1 ⟨c99, by rw [show i - 1 + 1 = i by omega]; exact c105, by rw [if_neg c110, show i - 1 + 1 = i by omega]; exact c127⟩]; rfl))
          refine j_iconst 45 C dX10_near_44 rfl (v := nI 0) (by decide) ?_
          refine j_istore 47 C dX10_near_45 rfl rfl (by decide) ?_
          refine j_iconst 48 C dX10_near_47 rfl (v := nI 1) (by decide) ?_
          refine j_istore 50 C dX10_near_48 rfl rfl (by decide) ?_
          exact j_weak _ (by exact ⟨rfl, rfl, rfl, rfl, rfl, rfl, rfl, rfl, trivial⟩) (lp50 _ 1 _ rfl (by omega) (by omega) rfl)
        · refine j_bipush 43 C dX10_near_41 rfl (v := (-2)) (by decide) ?_
          exact j_iret C dX10_near_43 ⟨by rw [if_neg (fun k => c38 (by obtain ⟨j, hj1, hj2, rfl⟩ := isP_of k.2.2 (by omega); exact nI_lt (by omega) (by omega)))], rfl⟩
end SN8
