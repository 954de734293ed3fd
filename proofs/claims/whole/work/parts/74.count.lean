section SN15
variable {l : Launch} {G : GG} {wd hd : Nat → Int32} {hr td nb n : Nat} {x y z u v : Int32} {zn zs zm zh zt zr zb : Nat → Nat} {Sn Ss Sm Sh St Sr Sb : MS} {fi fs : Nat → Option Nat} {pa dk : Option Nat} {R : va_W}
/-- what count answers -/
def kCnt (wd hd : Nat → Int32) (tl cn : Int32) (fl q : Nat) : Int32 := if q = 0 then wd 1 else if q = 1 then wd 2 else if q = 2 then wd 0 else if q = 3 then tl else if q = 4 then hd 2016 else if q = 5 then hd 2017 else if q = 6 then cn else if q = 7 then wd 4 else if q < 12 then wd (5 + (q - 8)) else nI fl
theorem K10_count (hT : TT (-1) St wd) (hR : RR Sr wd) (hW : WF wd) (hH0 : HR wd Sh hd hr td) : Con l G yX10_count cX10_count 2 (some .int) 2 0 0 [.ref (zn 50), .int x] (nBk zn (zs 50) G.2.1 Sn fi fs pa dk ++ (sBk zs (zm 50) (zb 50) G.2.1 Ss ++ (mBk zm (zt 50) (zr 50) (zh 50) G.2.1 Sm ++ (hBk zh G.2.1 Sh ++ (tBk zt G.2.1 St ++ (rBk zr G.2.1 Sr ++ (bBk zb G.2.1 Sb ++ (R)))))))) (pI (if isI x 13 then kCnt wd hd (Sn.1 1) (Sb.1 0) (fsN fs 4) (tn x) else -1) (nBk zn (zs 50) G.2.1 Sn fi fs pa dk ++ (sBk zs (zm 50) (zb 50) G.2.1 Ss ++ (mBk zm (zt 50) (zr 50) (zh 50) G.2.1 Sm ++ (hBk zh G.2.1 Sh ++ (tBk zt G.2.1 St ++ (rBk zr G.2.1 Sr ++ (bBk zb G.2.1 Sb ++ (R))))))))) := by
  refine Con.mk (own := RX10) (by decide) rfl (Nat.le_of_ble_eq_true rfl) (fun X C => ?_)
  obtain ⟨L, g, hH⟩ := hH0
  refine j_iload_n 1 C dX10_count_0 rfl rfl ?_
  by_cases hx : isI x 13
  · obtain ⟨q, hq, rfl⟩ := isI_of hx
    have hRR : ∀ r : Int32, kCnt wd hd (Sn.1 1) (Sb.1 0) (fsN fs 4) q = r → (if isI (nI q) 13 then kCnt wd hd (Sn.1 1) (Sb.1 0) (fsN fs 4) (tn (nI q)) else -1) = r := fun r h => by rw [if_pos hx, tn_nI (by omega)]; exact h
    obtain rfl | rfl | rfl | rfl | rfl | rfl | rfl | rfl | rfl | rfl | rfl | rfl | rfl : q = 0 ∨ q = 1 ∨ q = 2 ∨ q = 3 ∨ q = 4 ∨ q = 5 ∨ q = 6 ∨ q = 7 ∨ q = 8 ∨ q = 9 ∨ q = 10 ∨ q = 11 ∨ q = 12 := by omega
    · refine j_tabIn 68 C dX10_count_1 (by decide) (by decide) rfl (by decide) ?_
      refine j_aload_n 69 C dX10_count_68 rfl rfl ?_
      refine Lng_n4 72 C dX10_count_69 rfl fl10_20 ?_
      refine Lng_s0 75 C dX10_count_72 rfl fl10_61 ?_
      refine Lng_m0 78 C dX10_count_75 rfl fl10_65 ?_
      refine Lng_t0 81 C dX10_count_78 rfl fl10_132 ?_
      exact j_iret C dX10_count_81 ⟨by refine congrArg (fun q => some (Value.int q)) (Eq.symm (hRR _ ?_)); exact (hT.1.1.symm), rfl⟩
    · refine j_tabIn 82 C dX10_count_1 (by decide) (by decide) rfl (by decide) ?_
      refine j_aload_n 83 C dX10_count_82 rfl rfl ?_
      refine Lng_n4 86 C dX10_count_83 rfl fl10_20 ?_
      refine Lng_s0 89 C dX10_count_86 rfl fl10_61 ?_
      refine Lng_m1 92 C dX10_count_89 rfl fl10_78 ?_
      refine Lng_r0 95 C dX10_count_92 rfl fl10_104 ?_
      exact j_iret C dX10_count_95 ⟨by refine congrArg (fun q => some (Value.int q)) (Eq.symm (hRR _ ?_)); exact (hR.1.symm), rfl⟩
    · refine j_tabIn 96 C dX10_count_1 (by decide) (by decide) rfl (by decide) ?_
      refine j_aload_n 97 C dX10_count_96 rfl rfl ?_
      refine Lng_n4 100 C dX10_count_97 rfl fl10_20 ?_
      refine Lng_s0 103 C dX10_count_100 rfl fl10_61 ?_
      refine Lng_m0 106 C dX10_count_103 rfl fl10_65 ?_
      refine Lng_t1 109 C dX10_count_106 rfl fl10_307 ?_
      exact j_iret C dX10_count_109 ⟨by refine congrArg (fun q => some (Value.int q)) (Eq.symm (hRR _ ?_)); exact (hT.1.2.1.symm), rfl⟩
    · refine j_tabIn 110 C dX10_count_1 (by decide) (by decide) rfl (by decide) ?_
      refine j_aload_n 111 C dX10_count_110 rfl rfl ?_
      refine Lng_n1 114 C dX10_count_111 rfl fl10_34 ?_
      exact j_iret C dX10_count_114 ⟨by refine congrArg (fun q => some (Value.int q)) (Eq.symm (hRR _ ?_)); exact rfl, rfl⟩
    · refine j_tabIn 115 C dX10_count_1 (by decide) (by decide) rfl (by decide) ?_
      refine j_aload_n 116 C dX10_count_115 rfl rfl ?_
      refine Lng_n4 119 C dX10_count_116 rfl fl10_20 ?_
      refine Lng_s0 122 C dX10_count_119 rfl fl10_61 ?_
      refine Lng_m2 125 C dX10_count_122 rfl fl10_88 ?_
      refine Lng_h0 128 C dX10_count_125 rfl fl10_127 ?_
      exact j_iret C dX10_count_128 ⟨by refine congrArg (fun q => some (Value.int q)) (Eq.symm (hRR _ ?_)); exact ((hH.2.2.1.2.trans hH.2.2.1.1.symm).symm), rfl⟩
    · refine j_tabIn 129 C dX10_count_1 (by decide) (by decide) rfl (by decide) ?_
      refine j_aload_n 130 C dX10_count_129 rfl rfl ?_
      refine Lng_n4 133 C dX10_count_130 rfl fl10_20 ?_
      refine Lng_s0 136 C dX10_count_133 rfl fl10_61 ?_
      refine Lng_m2 139 C dX10_count_136 rfl fl10_88 ?_
      refine Lng_h1 142 C dX10_count_139 rfl fl10_300 ?_
      exact j_iret C dX10_count_142 ⟨by refine congrArg (fun q => some (Value.int q)) (Eq.symm (hRR _ ?_)); exact ((hH.2.2.2.1.2.trans hH.2.2.2.1.1.symm).symm), rfl⟩
    · refine j_tabIn 143 C dX10_count_1 (by decide) (by decide) rfl (by decide) ?_
      refine j_aload_n 144 C dX10_count_143 rfl rfl ?_
      refine Lng_n4 147 C dX10_count_144 rfl fl10_20 ?_
      refine Lng_s1 150 C dX10_count_147 rfl fl10_97 ?_
      refine Lng_b0 153 C dX10_count_150 rfl fl10_115 ?_
      exact j_iret C dX10_count_153 ⟨by refine congrArg (fun q => some (Value.int q)) (Eq.symm (hRR _ ?_)); exact rfl, rfl⟩
    · refine j_tabIn 154 C dX10_count_1 (by decide) (by decide) rfl (by decide) ?_
      refine j_aload_n 155 C dX10_count_154 rfl rfl ?_
      refine Lng_n4 158 C dX10_count_155 rfl fl10_20 ?_
      refine Lng_s0 161 C dX10_count_158 rfl fl10_61 ?_
      refine Lng_m0 164 C dX10_count_161 rfl fl10_65 ?_
      refine Lng_t2 167 C dX10_count_164 rfl fl10_310 ?_
      exact j_iret C dX10_count_167 ⟨by refine congrArg (fun q => some (Value.int q)) (Eq.symm (hRR _ ?_)); exact (hT.1.2.2.symm), rfl⟩
    · refine j_tabIn 168 C dX10_count_1 (by decide) (by decide) rfl (by decide) ?_
      refine j_aload_n 169 C dX10_count_168 rfl rfl ?_
      refine Lng_n4 172 C dX10_count_169 rfl fl10_20 ?_
      refine Lng_s0 175 C dX10_count_172 rfl fl10_61 ?_
      refine Lng_m0 178 C dX10_count_175 rfl fl10_65 ?_
      refine Lng_t4 181 C dX10_count_178 rfl fl10_313 ?_
      refine j_iload_n 182 C dX10_count_181 rfl rfl ?_
      refine j_bipush 184 C dX10_count_182 rfl (v := nI 8) (by decide) ?_
      refine j_isubN 185 C dX10_count_184 rfl (by omega) ?_
      refine Lna_t4 186 C dX10_count_185 rfl _ (by omega) rfl ?_
      exact j_iret C dX10_count_186 ⟨by refine congrArg (fun q => some (Value.int q)) (Eq.symm (hRR _ ?_)); exact ((hT.2.2.1 0 (by omega)).1.trans (if_neg (nI_m1 0 (by omega)))), rfl⟩
    · refine j_tabIn 168 C dX10_count_1 (by decide) (by decide) rfl (by decide) ?_
      refine j_aload_n 169 C dX10_count_168 rfl rfl ?_
      refine Lng_n4 172 C dX10_count_169 rfl fl10_20 ?_
      refine Lng_s0 175 C dX10_count_172 rfl fl10_61 ?_
      refine Lng_m0 178 C dX10_count_175 rfl fl10_65 ?_
      refine Lng_t4 181 C dX10_count_178 rfl fl10_313 ?_
      refine j_iload_n 182 C dX10_count_181 rfl rfl ?_
      refine j_bipush 184 C dX10_count_182 rfl (v := nI 8) (by decide) ?_
      refine j_isubN 185 C dX10_count_184 rfl (by omega) ?_
      refine Lna_t4 186 C dX10_count_185 rfl _ (by omega) rfl ?_
      exact j_iret C dX10_count_186 ⟨by refine congrArg (fun q => some (Value.int q)) (Eq.symm (hRR _ ?_)); exact ((hT.2.2.1 1 (by omega)).1.trans (if_neg (nI_m1 1 (by omega)))), rfl⟩
    · refine j_tabIn 168 C dX10_count_1 (by decide) (by decide) rfl (by decide) ?_
      refine j_aload_n 169 C dX10_count_168 rfl rfl ?_
      refine Lng_n4 172 C dX10_count_169 rfl fl10_20 ?_
      refine Lng_s0 175 C dX10_count_172 rfl fl10_61 ?_
      refine Lng_m0 178 C dX10_count_175 rfl fl10_65 ?_
      refine Lng_t4 181 C dX10_count_178 rfl fl10_313 ?_
      refine j_iload_n 182 C dX10_count_181 rfl rfl ?_
      refine j_bipush 184 C dX10_count_182 rfl (v := nI 8) (by decide) ?_
      refine j_isubN 185 C dX10_count_184 rfl (by omega) ?_
      refine Lna_t4 186 C dX10_count_185 rfl _ (by omega) rfl ?_
      exact j_iret C dX10_count_186 ⟨by refine congrArg (fun q => some (Value.int q)) (Eq.symm (hRR _ ?_)); exact ((hT.2.2.1 2 (by omega)).1.trans (if_neg (nI_m1 2 (by omega)))), rfl⟩
    · refine j_tabIn 168 C dX10_count_1 (by decide) (by decide) rfl (by decide) ?_
      refine j_aload_n 169 C dX10_count_168 rfl rfl ?_
      refine Lng_n4 172 C dX10_count_169 rfl fl10_20 ?_
      refine Lng_s0 175 C dX10_count_172 rfl fl10_61 ?_
      refine Lng_m0 178 C dX10_count_175 rfl fl10_65 ?_
      refine Lng_t4 181 C dX10_count_178 rfl fl10_313 ?_
      refine j_iload_n 182 C dX10_count_181 rfl rfl ?_
      refine j_bipush 184 C dX10_count_182 rfl (v := nI 8) (by decide) ?_
      refine j_isubN 185 C dX10_count_184 rfl (by omega) ?_
      refine Lna_t4 186 C dX10_count_185 rfl _ (by omega) rfl ?_
      exact j_iret C dX10_count_186 ⟨by refine congrArg (fun q => some (Value.int q)) (Eq.symm (hRR _ ?_)); exact ((hT.2.2.1 3 (by omega)).1.trans (if_neg (nI_m1 3 (by omega)))), rfl⟩
    · refine j_tabIn 187 C dX10_count_1 (by decide) (by decide) rfl (by decide) ?_
      refine j_aload_n 188 C dX10_count_187 rfl rfl ?_
      refine j_callVs 191 C dX10_count_188 rfl cw10_316 K10_filledSlots (As := []) rfl ⟨by decide, Nat.le_refl _, Nat.le_refl _⟩ rfl (Nat.le_of_ble_eq_true rfl) 0 rfl (ci := 10) (T := TX10) (N := 9) rfl (fun v w hp => ?_)
      obtain ⟨rfl, rfl⟩ := hp
      exact j_iret C dX10_count_191 ⟨by refine congrArg (fun q => some (Value.int q)) (Eq.symm (hRR _ ?_)); exact rfl, rfl⟩
  · refine j_tabOut 192 C dX10_count_1 (tab_out hx) (by decide) ?_
    refine j_iconst 193 C dX10_count_192 rfl (v := (-1)) (by decide) ?_
    exact j_iret C dX10_count_193 ⟨by rw [if_neg hx], rfl⟩
end SN15
