section SN17
variable {l : Launch} {G : GG} {x y z : Int32} {L M : List Nat} {g f : Nat → Nat} {np : Nat} {zn zs zm zh zt zr zb : Nat → Nat} {Sn Ss Sm Sh St Sr Sb : MS} {fi fs : Nat → Option Nat} {pa dk : Option Nat} {R : va_W}
theorem K10_rowN (hf1 : fs (tn x) = none) : Con l G yX10_row cX10_row 4 (some .int) 3 2 63 [.ref (zn 50), .int x, .int y, .int z] (nBk zn (zs 50) G.2.1 Sn fi fs pa dk ++ (sBk zs (zm 50) (zb 50) G.2.1 Ss ++ (mBk zm (zt 50) (zr 50) (zh 50) G.2.1 Sm ++ (hBk zh G.2.1 Sh ++ (tBk zt G.2.1 St ++ (rBk zr G.2.1 Sr ++ (bBk zb G.2.1 Sb ++ (R)))))))) (fun v w => ((isI x 4 ∧ isI y 4 ∧ z ≤ nI 60) ∧ 0 ≤ z ∧ v = some (.int (nI 0)) ∧ ∃ (zl : Nat → Nat) (s : MS), w = (nBk zn (zs 50) G.2.1 Sn fi (va_up fs (tn x) (some (zl 50))) pa dk ++ (sBk zs (zm 50) (zb 50) G.2.1 Ss ++ (mBk zm (zt 50) (zr 50) (zh 50) G.2.1 Sm ++ (hBk zh G.2.1 Sh ++ (tBk zt G.2.1 St ++ (rBk zr G.2.1 Sr ++ (bBk zb G.2.1 Sb ++ (lBk zl G.2.1 s ++ (R))))))))) ∧ s.1 0 = y ∧ s.1 1 = z ∧ ∀ j, j < tn z → s.2.2 2 j = lN 0) ∨ (w = (nBk zn (zs 50) G.2.1 Sn fi fs pa dk ++ (sBk zs (zm 50) (zb 50) G.2.1 Ss ++ (mBk zm (zt 50) (zr 50) (zh 50) G.2.1 Sm ++ (hBk zh G.2.1 Sh ++ (tBk zt G.2.1 St ++ (rBk zr G.2.1 Sr ++ (bBk zb G.2.1 Sb ++ (R)))))))) ∧ (((isI x 4 ∧ isI y 4 ∧ z ≤ nI 60) ∧ ¬ 0 ≤ z ∧ v = some (.int (-3))) ∨ (¬ (isI x 4 ∧ isI y 4 ∧ z ≤ nI 60) ∧ v = some (.int (-2)))))) := by
  refine Con.mk (own := RX10) (by decide) rfl (Nat.le_of_ble_eq_true rfl) (fun X C => ?_)
  refine j_iload_n 1 C dX10_row_0 rfl rfl ?_
  refine j_sI 4 C dX10_row_1 rfl cw10_224 K10_isSlot rfl (by decide) ⟨Nat.zero_le _, Nat.zero_le _⟩ rfl (Nat.le_of_ble_eq_true rfl) ?_
  refine j_if_eqB 22 7 C dX10_row_4 (by decide) rfl (fun c4 => ?_) (fun c4 => ?_)
  · refine j_bipush 24 C dX10_row_22 rfl (v := (-2)) (by decide) ?_
    refine j_widen 2 63 (by decide) (by decide) ?_
    exact j_iret C dX10_row_24 (Or.inr ⟨rfl, Or.inr ⟨fun q => c4 q.1, rfl⟩⟩)
  · obtain ⟨s, hs, rfl⟩ := isI_of c4
    rw [tn_nI (by omega)] at hf1
    refine j_iload_n 8 C dX10_row_7 rfl rfl ?_
    refine j_if_lt 22 11 C dX10_row_8 (by decide) rfl (fun c8 => ?_) (fun c8 => ?_)
    · refine j_bipush 24 C dX10_row_22 rfl (v := (-2)) (by decide) ?_
      refine j_widen 2 63 (by decide) (by decide) ?_
      exact j_iret C dX10_row_24 (Or.inr ⟨rfl, Or.inr ⟨fun q => ((isI_iff (by omega)).mp q.2.1).1 c8, rfl⟩⟩)
    · refine j_iload_n 12 C dX10_row_11 rfl rfl ?_
      refine j_iconst 13 C dX10_row_12 rfl (v := nI 3) (by decide) ?_
      refine j_icmp_gt 22 16 C dX10_row_13 (by decide) rfl (fun c13 => ?_) (fun c13 => ?_)
      · refine j_bipush 24 C dX10_row_22 rfl (v := (-2)) (by decide) ?_
        refine j_widen 2 63 (by decide) (by decide) ?_
        exact j_iret C dX10_row_24 (Or.inr ⟨rfl, Or.inr ⟨fun q => ((isI_iff (n := 4) (by omega)).mp q.2.1).2 (gt3 c13), rfl⟩⟩)
      · refine j_iload_n 17 C dX10_row_16 rfl rfl ?_
        refine j_bipush 19 C dX10_row_17 rfl (v := nI 60) (by decide) ?_
        refine j_icmp_le 25 22 C dX10_row_19 (by decide) rfl (fun c19 => ?_) (fun c19 => ?_)
        · have hok : (isI (nI s) 4 ∧ isI y 4 ∧ z ≤ nI 60) := ⟨c4, (isI_iff (by omega)).mpr ⟨c8, fun q => c13 (lt4 q)⟩, c19⟩
          refine j_iload_n 26 C dX10_row_25 rfl rfl ?_
          refine j_if_ge 32 29 C dX10_row_26 (by decide) rfl (fun c26 => ?_) (fun c26 => ?_)
          · obtain ⟨m, hm, rfl⟩ := le60 c26 c19
            refine j_aload_n 33 C dX10_row_32 rfl rfl ?_
            refine Lng_n6 36 C dX10_row_33 rfl fl10_30 ?_
            refine j_iload_n 37 C dX10_row_36 rfl rfl ?_
            refine Lna_n6 38 C dX10_row_37 rfl _ (by omega) rfl ?_
            refine j_topV (v' := .null) (by rw [hf1]; rfl) ?_
            refine j_ifnonnullN 41 C dX10_row_38 rfl ?_
            refine j_aload_n 42 C dX10_row_41 rfl rfl ?_
            refine Lng_n6 45 C dX10_row_42 rfl fl10_30 ?_
            refine j_iload_n 46 C dX10_row_45 rfl rfl ?_
            refine j_newc 49 (ci := 6) tyX6 [.int 0, .int 0, .null] C dX10_row_46 rfl rfl ingX6 tyX6_ok cl10_28 inst6 ini6 (fun j hj => by rcases (show j = 0 ∨ j = 1 ∨ j = 2 by omega) with rfl | rfl | rfl <;> rfl) ⟨by decide, by decide⟩ (fun a => ?_)
            refine j_dup 50 C dX10_row_49 rfl rfl ?_
            refine j_callMIN 53 C dX10_row_50 rfl cw10_322 rfl cs10_322 K6_init rfl ⟨by decide, by decide, by decide⟩ rfl (Nat.le_of_ble_eq_true rfl) (nBk zn (zs 50) G.2.1 Sn fi fs pa dk ++ (sBk zs (zm 50) (zb 50) G.2.1 Ss ++ (mBk zm (zt 50) (zr 50) (zh 50) G.2.1 Sm ++ (hBk zh G.2.1 Sh ++ (tBk zt G.2.1 St ++ (rBk zr G.2.1 Sr ++ (bBk zb G.2.1 Sb ++ (R)))))))) [] rfl 0 rfl (ci := 6) (T := TX6) (N := 3) rfl (fun v w hp => ?_)
            obtain ⟨rfl, zl, hz, rfl⟩ := hp
            subst hz
            refine j_ws (nBk zn (zs 50) G.2.1 Sn fi fs pa dk ++ (sBk zs (zm 50) (zb 50) G.2.1 Ss ++ (mBk zm (zt 50) (zr 50) (zh 50) G.2.1 Sm ++ (hBk zh G.2.1 Sh ++ (tBk zt G.2.1 St ++ (rBk zr G.2.1 Sr ++ (bBk zb G.2.1 Sb ++ ((R ++ (lBk zl G.2.1 MS0 ++ [])))))))))) rfl ?_
            refine j_perm (nBk zn (zs 50) G.2.1 Sn fi fs pa dk ++ (sBk zs (zm 50) (zb 50) G.2.1 Ss ++ (mBk zm (zt 50) (zr 50) (zh 50) G.2.1 Sm ++ (hBk zh G.2.1 Sh ++ (tBk zt G.2.1 St ++ (rBk zr G.2.1 Sr ++ (bBk zb G.2.1 Sb ++ (lBk zl G.2.1 MS0 ++ (R))))))))) (List.Perm.append_left _ (List.Perm.append_left _ (List.Perm.append_left _ (List.Perm.append_left _ (List.Perm.append_left _ (List.Perm.append_left _ (List.Perm.append_left _ (List.perm_append_comm (l₁ := R) (l₂ := (lBk zl G.2.1 MS0 ++ [])))))))))) ?_
            refine j_aastSlot 54 C dX10_row_53 rfl 3 22 rfl rfl rfl s (by omega) (by decide) rfl (ws' := (nBk zn (zs 50) G.2.1 Sn fi (va_up fs s (some (zl 50))) pa dk ++ (sBk zs (zm 50) (zb 50) G.2.1 Ss ++ (mBk zm (zt 50) (zr 50) (zh 50) G.2.1 Sm ++ (hBk zh G.2.1 Sh ++ (tBk zt G.2.1 St ++ (rBk zr G.2.1 Sr ++ (bBk zb G.2.1 Sb ++ (lBk zl G.2.1 MS0 ++ (R)))))))))) rfl ?_
            have hf2 : (va_up fs s (some (zl 50))) s = some (zl 50) := va_up_us _ _ _
            refine j_aload_n 55 C dX10_row_54 rfl rfl ?_
            refine Ug_n6 58 C dX10_row_55 rfl fl10_30 ?_
            refine j_iload_n 59 C dX10_row_58 rfl rfl ?_
            refine Ua_n6 60 C dX10_row_59 rfl _ (by omega) rfl ?_
            refine j_topV (v' := .ref (zl 50)) (by rw [hf2]; rfl) ?_
            refine j_iload_n 61 C dX10_row_60 rfl rfl ?_
            refine j_iload_n 62 C dX10_row_61 rfl rfl ?_
            refine Ur_lV 65 C dX10_row_62 rfl cw10_323 rfl (K6_begin hm) rfl (by decide) ⟨by decide, by decide⟩ rfl (Nat.le_of_ble_eq_true rfl) (fun s2 hs2 => ?_)
            refine j_iconst 66 C dX10_row_65 rfl (v := nI 0) (by decide) ?_
            exact j_iret C dX10_row_66 (Or.inl ⟨hok, c26, rfl, zl, s2, by rw [tn_nI (by omega)], hs2.1, hs2.2.1, by rw [tn_nI (by omega)]; exact hs2.2.2⟩)
          · refine j_bipush 31 C dX10_row_29 rfl (v := (-3)) (by decide) ?_
            refine j_widen 2 63 (by decide) (by decide) ?_
            exact j_iret C dX10_row_31 (Or.inr ⟨rfl, Or.inl ⟨hok, c26, rfl⟩⟩)
        · refine j_bipush 24 C dX10_row_22 rfl (v := (-2)) (by decide) ?_
          refine j_widen 2 63 (by decide) (by decide) ?_
          exact j_iret C dX10_row_24 (Or.inr ⟨rfl, Or.inr ⟨fun q => c19 q.2.2, rfl⟩⟩)
theorem K10_keepN (hx : isI x 3) (hf1 : fi (tn x) = none) (h9 : St.1 9 = nI np) (hnp : np ≤ 180) (hO : HH Sh M f) (hz : Sb.1 1 = nI 0 ∨ Sb.1 1 = nI 1) : Con l G yX10_keep cX10_keep 2 (some .int) 5 18 3515 [.ref (zn 50), .int x] (nBk zn (zs 50) G.2.1 Sn fi fs pa dk ++ (sBk zs (zm 50) (zb 50) G.2.1 Ss ++ (mBk zm (zt 50) (zr 50) (zh 50) G.2.1 Sm ++ (hBk zh G.2.1 Sh ++ (tBk zt G.2.1 St ++ (rBk zr G.2.1 Sr ++ (bBk zb G.2.1 Sb ++ (R)))))))) (fun v w => v = some (.int (nI 0)) ∧ ∃ (ze zf zi zu zv zk : Nat → Nat) (s : MS × MS × MS × MS), w = (nBk zn (zs 50) G.2.1 Sn (va_up fi (tn x) (some (ze 50))) fs pa dk ++ (sBk zs (zm 50) (zb 50) G.2.1 Ss ++ (mBk zm (zt 50) (zr 50) (zh 50) G.2.1 Sm ++ (hBk zh G.2.1 Sh ++ (tBk zt G.2.1 St ++ (rBk zr G.2.1 Sr ++ (bBk zb G.2.1 Sb ++ (sBk ze (zf 50) (zk 50) G.2.1 MS0 ++ (mBk zf (zu 50) (zv 50) (zi 50) G.2.1 SM0 ++ (hBk zi G.2.1 (s.2.2.1) ++ (tBk zu G.2.1 (s.1) ++ (rBk zv G.2.1 (s.2.1) ++ (bBk zk G.2.1 (s.2.2.2) ++ (R)))))))))))))) ∧ TCp s.1 St np ∧ RCp s.2.1 Sr ∧ (HH s.2.2.1 (pos f M) f ∧ s.2.2.1.1 0 = Sh.1 0 ∧ s.2.2.1.1 1 = Sh.1 1) ∧ BCp s.2.2.2 Sb) := by
  refine Con.mk (own := RX10) (by decide) rfl (Nat.le_of_ble_eq_true rfl) (fun X C => ?_)
  refine j_iload_n 1 C dX10_keep_0 rfl rfl ?_
  refine j_sI 4 C dX10_keep_1 rfl cw10_287 K10_isImage rfl (by decide) ⟨Nat.zero_le _, Nat.zero_le _⟩ rfl (Nat.le_of_ble_eq_true rfl) ?_
  refine j_if_neB 10 7 C dX10_keep_4 (by decide) rfl (fun c4 => ?_) (fun c4 => absurd hx c4)
  obtain ⟨s, hs, rfl⟩ := isI_of hx
  rw [tn_nI (by omega)] at hf1
  refine j_aload_n 11 C dX10_keep_10 rfl rfl ?_
  refine Lng_n5 14 C dX10_keep_11 rfl fl10_24 ?_
  refine j_iload_n 15 C dX10_keep_14 rfl rfl ?_
  refine Lna_n5 16 C dX10_keep_15 rfl _ (by omega) rfl ?_
  refine j_topV (v' := .null) (by rw [hf1]; rfl) ?_
  refine j_ifnonnullN 19 C dX10_keep_16 rfl ?_
  refine j_aload_n 20 C dX10_keep_19 rfl rfl ?_
  refine Lng_n5 23 C dX10_keep_20 rfl fl10_24 ?_
  refine j_iload_n 24 C dX10_keep_23 rfl rfl ?_
  refine j_newc 27 (ci := 7) tyX7 [.null, .null] C dX10_keep_24 rfl rfl ingX7 tyX7_ok cl10_17 inst7 ini7 (fun j hj => by rcases (show j = 0 ∨ j = 1 by omega) with rfl | rfl <;> rfl) ⟨by decide, by decide⟩ (fun a => ?_)
  refine j_dup 28 C dX10_keep_27 rfl rfl ?_
  refine j_callMIN 31 C dX10_keep_28 rfl cw10_19 rfl cs10_19 K7_init rfl ⟨by decide, by decide, by decide⟩ rfl (Nat.le_of_ble_eq_true rfl) (nBk zn (zs 50) G.2.1 Sn fi fs pa dk ++ (sBk zs (zm 50) (zb 50) G.2.1 Ss ++ (mBk zm (zt 50) (zr 50) (zh 50) G.2.1 Sm ++ (hBk zh G.2.1 Sh ++ (tBk zt G.2.1 St ++ (rBk zr G.2.1 Sr ++ (bBk zb G.2.1 Sb ++ (R)))))))) [] rfl 0 rfl (ci := 7) (T := TX7) (N := 2) rfl (fun v w hp => ?_)
  obtain ⟨rfl, ze, zf, zi, zu, zv, zk, hz, rfl⟩ := hp
  subst hz
  refine j_ws (nBk zn (zs 50) G.2.1 Sn fi fs pa dk ++ (sBk zs (zm 50) (zb 50) G.2.1 Ss ++ (mBk zm (zt 50) (zr 50) (zh 50) G.2.1 Sm ++ (hBk zh G.2.1 Sh ++ (tBk zt G.2.1 St ++ (rBk zr G.2.1 Sr ++ (bBk zb G.2.1 Sb ++ ((R ++ ((sBk ze (zf 50) (zk 50) G.2.1 MS0 ++ (mBk zf (zu 50) (zv 50) (zi 50) G.2.1 SM0 ++ (hBk zi G.2.1 MS0 ++ (tBk zu G.2.1 MS0 ++ (rBk zv G.2.1 MS0 ++ bBk zk G.2.1 MS0))))) ++ [])))))))))) rfl ?_
  refine j_perm (nBk zn (zs 50) G.2.1 Sn fi fs pa dk ++ (sBk zs (zm 50) (zb 50) G.2.1 Ss ++ (mBk zm (zt 50) (zr 50) (zh 50) G.2.1 Sm ++ (hBk zh G.2.1 Sh ++ (tBk zt G.2.1 St ++ (rBk zr G.2.1 Sr ++ (bBk zb G.2.1 Sb ++ (sBk ze (zf 50) (zk 50) G.2.1 MS0 ++ (mBk zf (zu 50) (zv 50) (zi 50) G.2.1 SM0 ++ (hBk zi G.2.1 MS0 ++ (tBk zu G.2.1 MS0 ++ (rBk zv G.2.1 MS0 ++ (bBk zk G.2.1 MS0 ++ (R)))))))))))))) (List.Perm.append_left _ (List.Perm.append_left _ (List.Perm.append_left _ (List.Perm.append_left _ (List.Perm.append_left _ (List.Perm.append_left _ (List.Perm.append_left _ (List.perm_append_comm (l₁ := R) (l₂ := ((sBk ze (zf 50) (zk 50) G.2.1 MS0 ++ (mBk zf (zu 50) (zv 50) (zi 50) G.2.1 SM0 ++ (hBk zi G.2.1 MS0 ++ (tBk zu G.2.1 MS0 ++ (rBk zv G.2.1 MS0 ++ bBk zk G.2.1 MS0))))) ++ [])))))))))) ?_
  refine j_aastState 32 C dX10_keep_31 rfl 2 22 rfl rfl rfl s (by omega) (by decide) rfl (ws' := (nBk zn (zs 50) G.2.1 Sn (va_up fi s (some (ze 50))) fs pa dk ++ (sBk zs (zm 50) (zb 50) G.2.1 Ss ++ (mBk zm (zt 50) (zr 50) (zh 50) G.2.1 Sm ++ (hBk zh G.2.1 Sh ++ (tBk zt G.2.1 St ++ (rBk zr G.2.1 Sr ++ (bBk zb G.2.1 Sb ++ (sBk ze (zf 50) (zk 50) G.2.1 MS0 ++ (mBk zf (zu 50) (zv 50) (zi 50) G.2.1 SM0 ++ (hBk zi G.2.1 MS0 ++ (tBk zu G.2.1 MS0 ++ (rBk zv G.2.1 MS0 ++ (bBk zk G.2.1 MS0 ++ (R))))))))))))))) rfl ?_
  have hf2 : (va_up fi s (some (ze 50))) s = some (ze 50) := va_up_us _ _ _
  have hM0 : HH MS0 [] (fun _ => 0) := ⟨rfl, by show 0 ≤ 528; omega, fun i hi => absurd hi (Nat.not_lt_zero _), List.nodup_nil, fun c hc => absurd hc List.not_mem_nil, fun c hc => by rw [if_neg List.not_mem_nil]; rfl, fun _ => Nat.zero_le _, fun _ _ => rfl⟩
  refine j_aload_n 33 C dX10_keep_32 rfl rfl ?_
  refine Ig_n5 36 C dX10_keep_33 rfl fl10_24 ?_
  refine j_iload_n 37 C dX10_keep_36 rfl rfl ?_
  refine Ia_n5 38 C dX10_keep_37 rfl _ (by omega) rfl ?_
  refine j_topV (v' := .ref (ze 50)) (by rw [hf2]; rfl) ?_
  refine j_aload_n 39 C dX10_keep_38 rfl rfl ?_
  refine Ig_n4 42 C dX10_keep_39 rfl fl10_20 ?_
  refine Ir_KV 45 C dX10_keep_42 rfl cw10_319 rfl (K7_copyFrom h9 hnp hM0 hO hz) rfl (by decide) ⟨by decide, by decide⟩ rfl (Nat.le_of_ble_eq_true rfl) (fun s2 hs2 => ?_)
  refine j_iconst 46 C dX10_keep_45 rfl (v := nI 0) (by decide) ?_
  exact j_iret C dX10_keep_46 ⟨rfl, ze, zf, zi, zu, zv, zk, s2, by rw [tn_nI (by omega)], hs2⟩
end SN17
