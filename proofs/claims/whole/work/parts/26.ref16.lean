def f_pm (wdI md : Nat → Int32) : Nat → (Nat → Int32)
  | 0 => md
  | r + 1 => upd (f_pm wdI md r) r (if r < nrw wdI then wdI (34 + 14 * r) else nI 0)
def f_pn (wdI : Nat → Int32) (cl cv : Int32) (hI md : Nat → Int32) : Nat → (Nat → Int32)
  | 0 => md
  | r + 1 => upd (f_pn wdI cl cv hI md r) r (if r < nrw wdI then f_om (f_need wdI cl cv r hI) else nI 0)
def f_abs (x : Int32) : Int32 := if 0 ≤ x then x else -x
def f_pb (wd : Nat → Int32) (cl cv : Int32) (h im inn : Nat → Int32) : Nat → Int32 × Int32
  | 0 => (-1, -1)
  | r + 1 => if im r = wd (34 + 14 * r) then (if (f_pb wd cl cv h im inn r).2 < f_abs (f_om (f_need wd cl cv r h) - inn r) then (nI r, f_abs (f_om (f_need wd cl cv r h) - inn r)) else f_pb wd cl cv h im inn r) else f_pb wd cl cv h im inn r
def ptW (M : MS) : Nat → Int32 := va_cpy (M.2.1 1) (M.2.1 31) 0 0 1120
def ptM (M : MS) (q : Nat) : Nat → Int32 := f_pm (imgW M q) (M.2.1 33) 12
def ptN (M : MS) (q : Nat) : Nat → Int32 := f_pn (imgW M q) (M.1 24) (M.1 25) (imgH M q) (M.2.1 32) 12
section S19
variable {l : Launch} {G : GG} {o : Nat} {ad : Nat → Nat} {M : MS} {h g : Nat → Int32} {c : Nat}
set_option maxHeartbeats 8000000 in
theorem c_parts (k : Int32) (hc : c < 6) (hImg : ∀ q, q < 3 → ¬ M.2.1 10 q = -1 → WF (imgW M q)) (hWF : WF (M.2.1 1)) : Con l G yX11_parts cX11_parts 6 (some .int) 7 0 0 [.ref o, .int k] (mw o ad G.2.1 (setHd (aR (sS M 27 (nI c)) 26 g) h)) (pE (if isI k 3 then (if M.2.1 10 (tn k) = -1 then -6 else (f_pb (M.2.1 1) (M.1 24) (M.1 25) h (ptM M (tn k)) (ptN M (tn k)) (nrw (M.2.1 1))).1) else -2) (fun g2 => ∀ i, i < 2018 * c → g2 i = g i) (fun g2 => (mw o ad G.2.1 (setHd (aR (sS (if isI k 3 ∧ ¬ M.2.1 10 (tn k) = -1 then (aR (aR (aR M 31 (ptW M)) 33 (ptM M (tn k))) 32 (ptN M (tn k))) else M) 27 (nI c)) 26 g2) h)))) := by
  refine Con.mk (own := RX11) (by decide) rfl (Nat.le_of_ble_eq_true rfl) (fun X C => ?_)
  have hnr12 := hWF.2.2.1.2
  refine j_iload_n 1 C dX11_parts_0 rfl rfl ?_
  refine j_i2l 2 C dX11_parts_1 rfl ?_
  refine j_lconst 3 C dX11_parts_2 rfl (v := lN 0) (by decide) ?_
  refine j_ldc2 6 C dX11_parts_3 rfl (v := (2)) kc11_86 ?_
  refine j_sI 9 C dX11_parts_6 rfl cw11_88 (c_in _ _ _) rfl (by omega) ⟨Nat.le_refl _, Nat.le_refl _⟩ rfl (Nat.le_of_ble_eq_true rfl) ?_
  rw [bI_iff (in_c (n := 3) (by decide))]
  refine j_if_neB 15 12 C dX11_parts_9 (by decide) rfl (fun c9 => ?_) (fun c9 => ?_)
  · obtain ⟨q, hq, rfl⟩ := isI_of c9
    refine j_aload_n 16 C dX11_parts_15 rfl rfl ?_
    refine rgH_imageSittings 19 C dX11_parts_16 rfl ?_
    refine j_iload_n 20 C dX11_parts_19 rfl rfl ?_
    refine raH_imageSittings 21 C dX11_parts_20 rfl _ (by omega) rfl ?_
    refine j_iconst 22 C dX11_parts_21 rfl (v := (-1)) (by decide) ?_
    refine j_icmp_ne 28 25 C dX11_parts_22 (by decide) rfl (fun c22 => ?_) (fun c22 => ?_)
    · have hWI := hImg q hq c22
      refine j_aload_n 29 C dX11_parts_28 rfl rfl ?_
      refine j_mV 32 C dX11_parts_29 rfl cw11_303 rfl (c_copy (by omega)) rfl (by omega) rfl (Nat.le_of_ble_eq_true rfl) ?_
      refine j_iconst 33 C dX11_parts_32 rfl (v := nI 0) (by decide) ?_
      refine j_istore_n 34 C dX11_parts_33 rfl rfl (by decide) ?_
      have lp34 : ∀ (m : Nat) (i : Nat), 1120 - i = m → i ≤ 1120 → J X 6 0 0 (mw o ad G.2.1 (setHd (aR (sS (aR M 31 (va_cpy (M.2.1 1) (M.2.1 31) 0 0 i)) 27 (nI (c + 1))) 26 (va_cpy h g 0 (2018 * c) 2018)) h)) 34 [(0, .ref o), (1, .int (nI q)), (2, .int (nI i))] [] := by
        intro m
        induction m using Nat.strongRecOn with
        | ind m ilp34 =>
        intro i hm hi
        refine j_iload_n 35 C dX11_parts_34 rfl rfl ?_
        refine j_sipush 38 C dX11_parts_35 rfl (v := nI 1120) (by decide) ?_
        refine j_icmp_geN 59 41 C dX11_parts_38 (by decide) rfl (by omega) (by omega) (fun c38 => ?_) (fun c38 => ?_)
        · rw [show i = 1120 by omega]
          refine j_aload_n 60 C dX11_parts_59 rfl rfl ?_
          refine j_iload_n 61 C dX11_parts_60 rfl rfl ?_
          refine j_mV 64 C dX11_parts_61 rfl cw11_98 rfl (c_takeImage (M := setHd (aR (sS (aR M 31 (va_cpy (M.2.1 1) (M.2.1 31) 0 0 1120)) 27 (nI (c + 1))) 26 (va_cpy h g 0 (2018 * c) 2018)) h) q hq) rfl (by omega) rfl (Nat.le_of_ble_eq_true rfl) ?_
          refine j_ws (mw o ad G.2.1 (setHd (aR (sS (aR (aR (aR (aR M 31 (va_cpy (M.2.1 1) (M.2.1 31) 0 0 1120)) 1 (imgW M q)) 33 (f_pm (imgW M q) (M.2.1 33) 0)) 32 (f_pn (imgW M q) (M.1 24) (M.1 25) (imgH M q) (M.2.1 32) 0)) 27 (nI (c + 1))) 26 (va_cpy h g 0 (2018 * c) 2018)) (imgH M q))) rfl ?_
          refine j_iconst 65 C dX11_parts_64 rfl (v := nI 0) (by decide) ?_
          refine j_istore_n 66 C dX11_parts_65 rfl rfl (by decide) ?_
          have lp66 : ∀ (m : Nat) (r : Nat) (gc : Nat → Int32), 12 - r = m → r ≤ 12 → (∀ i, i < 2018 * (c + 1) → gc i = (va_cpy h g 0 (2018 * c) 2018) i) → J X 6 0 0 (mw o ad G.2.1 (setHd (aR (sS (aR (aR (aR (aR M 31 (va_cpy (M.2.1 1) (M.2.1 31) 0 0 1120)) 1 (imgW M q)) 33 (f_pm (imgW M q) (M.2.1 33) r)) 32 (f_pn (imgW M q) (M.1 24) (M.1 25) (imgH M q) (M.2.1 32) r)) 27 (nI (c + 1))) 26 gc) (imgH M q))) 66 [(0, .ref o), (1, .int (nI q)), (2, .int (nI r))] [] := by
            intro m
            induction m using Nat.strongRecOn with
            | ind m ilp66 =>
            intro r gc hm hr hgc
            refine j_iload_n 67 C dX11_parts_66 rfl rfl ?_
            refine j_bipush 69 C dX11_parts_67 rfl (v := nI 12) (by decide) ?_
            refine j_icmp_geN 127 72 C dX11_parts_69 (by decide) rfl (by omega) (by omega) (fun c69 => ?_) (fun c69 => ?_)
            · refine j_iconst 128 C dX11_parts_127 rfl (v := nI 0) (by decide) ?_
              refine j_istore_n 129 C dX11_parts_128 rfl rfl (by decide) ?_
              have hr12 : r = 12 := by omega
              subst hr12
              have lp129 : ∀ (m : Nat) (i : Nat), 1120 - i = m → i ≤ 1120 → J X 6 0 0 (mw o ad G.2.1 (setHd (aR (sS (aR (aR (aR (aR M 31 (va_cpy (M.2.1 1) (M.2.1 31) 0 0 1120)) 1 (va_cpy (va_cpy (M.2.1 1) (M.2.1 31) 0 0 1120) (imgW M q) 0 0 i)) 33 (f_pm (imgW M q) (M.2.1 33) 12)) 32 (f_pn (imgW M q) (M.1 24) (M.1 25) (imgH M q) (M.2.1 32) 12)) 27 (nI (c + 1))) 26 gc) (imgH M q))) 129 [(0, .ref o), (1, .int (nI q)), (2, .int (nI i))] [] := by
                intro m
                induction m using Nat.strongRecOn with
                | ind m ilp129 =>
                intro i hm hi
                refine j_iload_n 130 C dX11_parts_129 rfl rfl ?_
                refine j_sipush 133 C dX11_parts_130 rfl (v := nI 1120) (by decide) ?_
                refine j_icmp_geN 154 136 C dX11_parts_133 (by decide) rfl (by omega) (by omega) (fun c133 => ?_) (fun c133 => ?_)
                · rw [show i = 1120 by omega]
                  refine j_exti 1 rfl (f' := (M.2.1 1)) (fun j hj => by show (va_cpy (va_cpy (M.2.1 1) (M.2.1 31) 0 0 1120) (imgW M q) 0 0 1120) j = _; rw [cpy_img _ _ _ _ hj, Nat.zero_add, cpy_img _ _ _ _ hj, Nat.zero_add]) rfl ?_
                  refine j_ws (mw o ad G.2.1 (setHd (aR (sS (aR (aR (aR M 31 (ptW M)) 33 (ptM M q)) 32 (ptN M q)) 27 (nI (c + 1))) 26 gc) (imgH M q))) rfl ?_
                  refine j_aload_n 155 C dX11_parts_154 rfl rfl ?_
                  refine j_mV 158 C dX11_parts_155 rfl cw11_309 rfl (c_takeBack (by omega)) rfl (by omega) rfl (Nat.le_of_ble_eq_true rfl) ?_
                  refine j_extH h (fun j hj => cpy_back' hj hgc) ?_
                  refine j_iconst 159 C dX11_parts_158 rfl (v := (-1)) (by decide) ?_
                  refine j_istore_n 160 C dX11_parts_159 rfl rfl (by decide) ?_
                  refine j_iconst 161 C dX11_parts_160 rfl (v := (-1)) (by decide) ?_
                  refine j_istore_n 162 C dX11_parts_161 rfl rfl (by decide) ?_
                  refine j_iconst 163 C dX11_parts_162 rfl (v := nI 0) (by decide) ?_
                  refine j_istore 165 C dX11_parts_163 rfl rfl (by decide) ?_
                  have lp165 : ∀ (m : Nat) (r : Nat) (gc : Nat → Int32), nrw (M.2.1 1) - r = m → r ≤ nrw (M.2.1 1) → (∀ i, i < 2018 * c → gc i = g i) → J X 6 0 0 (mw o ad G.2.1 (setHd (aR (sS (aR (aR (aR M 31 (ptW M)) 33 (ptM M q)) 32 (ptN M q)) 27 (nI c)) 26 gc) h)) 165 [(0, .ref o), (2, .int (f_pb (M.2.1 1) (M.1 24) (M.1 25) h (ptM M q) (ptN M q) r).1), (3, .int (f_pb (M.2.1 1) (M.1 24) (M.1 25) h (ptM M q) (ptN M q) r).2), (4, .int (nI r))] [] := by
                    intro m
                    induction m using Nat.strongRecOn with
                    | ind m ilp165 =>
                    intro r gc hm hr hgc
                    refine j_iload 167 C dX11_parts_165 rfl rfl ?_
                    refine j_aload_n 168 C dX11_parts_167 rfl rfl ?_
                    refine rgH_world 171 C dX11_parts_168 rfl ?_
                    refine j_iconst 172 C dX11_parts_171 rfl (v := nI 2) (by decide) ?_
                    refine raH_world 173 C dX11_parts_172 rfl _ (by omega) rfl ?_
                    rw [show (aR (sS (aR (aR (aR M 31 (ptW M)) 33 (ptM M q)) 32 (ptN M q)) 27 (nI c)) 26 gc).2.1 1 2 = nI (nrw (M.2.1 1)) from hWF.2.2.1.1]
                    refine j_icmp_geN 238 176 C dX11_parts_173 (by decide) rfl (by omega) (by omega) (fun c173 => ?_) (fun c173 => ?_)
                    · refine j_iload_n 239 C dX11_parts_238 rfl rfl ?_
                      exact j_iret C dX11_parts_239 ⟨by rw [if_pos c9, tn_nI (by omega), if_neg (show ¬ M.2.1 10 q = -1 from c22), show nrw (M.2.1 1) = r by omega], gc, hgc, by rw [if_pos ⟨c9, by rw [tn_nI (by omega)]; exact c22⟩, tn_nI (by omega)]⟩
                    · refine j_aload_n 177 C dX11_parts_176 rfl rfl ?_
                      refine rgH_itsMany 180 C dX11_parts_177 rfl ?_
                      refine j_iload 182 C dX11_parts_180 rfl rfl ?_
                      refine raH_itsMany 183 C dX11_parts_182 rfl _ (by omega) rfl ?_
                      rw [show (aR (sS (aR (aR (aR M 31 (ptW M)) 33 (ptM M q)) 32 (ptN M q)) 27 (nI c)) 26 gc).2.1 33 r = ptM M q r from rfl]
                      refine j_aload_n 184 C dX11_parts_183 rfl rfl ?_
                      refine j_iload 186 C dX11_parts_184 rfl rfl ?_
                      refine j_mI 189 C dX11_parts_186 rfl cw11_278 rfl (c_manyOfK (M := (aR (aR (aR M 31 (ptW M)) 33 (ptM M q)) 32 (ptN M q))) r (by omega)) rfl (by omega) rfl (Nat.le_of_ble_eq_true rfl) ?_
                      rw [show (aR (aR (aR M 31 (ptW M)) 33 (ptM M q)) 32 (ptN M q)).2.1 1 (34 + 14 * r) = (M.2.1 1) (34 + 14 * r) from rfl]
                      refine j_icmp_eq 195 192 C dX11_parts_189 (by decide) rfl (fun c189 => ?_) (fun c189 => ?_)
                      · refine j_aload_n 196 C dX11_parts_195 rfl rfl ?_
                        refine j_iload 198 C dX11_parts_196 rfl rfl ?_
                        refine j_mE 201 C dX11_parts_198 rfl cw11_333 rfl (c_needsOfN (M := (aR (aR (aR M 31 (ptW M)) 33 (ptM M q)) 32 (ptN M q))) r (by omega) c173 hWF) rfl (by omega) rfl (Nat.le_of_ble_eq_true rfl) (fun g2 hg2 => ?_)
                        rw [show f_need ((aR (aR (aR M 31 (ptW M)) 33 (ptM M q)) 32 (ptN M q)).2.1 1) ((aR (aR (aR M 31 (ptW M)) 33 (ptM M q)) 32 (ptN M q)).1 24) ((aR (aR (aR M 31 (ptW M)) 33 (ptM M q)) 32 (ptN M q)).1 25) r h = f_need (M.2.1 1) (M.1 24) (M.1 25) r h from rfl]
                        refine j_sI 204 C dX11_parts_201 rfl cw11_340 (c_orMany _) rfl (by omega) ⟨Nat.le_refl _, Nat.le_refl _⟩ rfl (Nat.le_of_ble_eq_true rfl) ?_
                        refine j_aload_n 205 C dX11_parts_204 rfl rfl ?_
                        refine rgH_itsNeeds 208 C dX11_parts_205 rfl ?_
                        refine j_iload 210 C dX11_parts_208 rfl rfl ?_
                        refine raH_itsNeeds 211 C dX11_parts_210 rfl _ (by omega) rfl ?_
                        rw [show (aR (sS (aR (aR (aR M 31 (ptW M)) 33 (ptM M q)) 32 (ptN M q)) 27 (nI c)) 26 g2).2.1 32 r = ptN M q r from rfl]
                        refine j_isub 212 C dX11_parts_211 rfl ?_
                        refine j_sI 215 C dX11_parts_212 rfl cw11_388 (c_absI _) rfl (by omega) ⟨Nat.le_refl _, Nat.le_refl _⟩ rfl (Nat.le_of_ble_eq_true rfl) ?_
                        rw [show (if 0 ≤ f_om (f_need (M.2.1 1) (M.1 24) (M.1 25) r h) - ptN M q r then f_om (f_need (M.2.1 1) (M.1 24) (M.1 25) r h) - ptN M q r else -(f_om (f_need (M.2.1 1) (M.1 24) (M.1 25) r h) - ptN M q r)) = (f_abs (f_om (f_need (M.2.1 1) (M.1 24) (M.1 25) r h) - ptN M q r)) from rfl]
                        refine j_istore 217 C dX11_parts_215 rfl rfl (by decide) ?_
                        refine j_iload 219 C dX11_parts_217 rfl rfl ?_
                        refine j_iload_n 220 C dX11_parts_219 rfl rfl ?_
                        refine j_icmp_gt 226 223 C dX11_parts_220 (by decide) rfl (fun c220 => ?_) (fun c220 => ?_)
                        · have hs : (f_pb (M.2.1 1) (M.1 24) (M.1 25) h (ptM M q) (ptN M q) (r + 1)) = (nI r, (f_abs (f_om (f_need (M.2.1 1) (M.1 24) (M.1 25) r h) - ptN M q r))) := (if_pos c189).trans (if_pos c220)
                          refine j_iload 228 C dX11_parts_226 rfl rfl ?_
                          refine j_istore_n 229 C dX11_parts_228 rfl rfl (by decide) ?_
                          refine j_iload 231 C dX11_parts_229 rfl rfl ?_
                          refine j_istore_n 232 C dX11_parts_231 rfl rfl (by decide) ?_
                          refine j_iincN 235 (z := 1) C dX11_parts_232 rfl rfl rfl (by decide) ?_
                          refine j_goto 165 C dX11_parts_235 (by decide) ?_
                          exact j_weak _ (by rw [hs]; exact ⟨rfl, rfl, rfl, rfl, trivial⟩) (ilp165 _ (by omega) (r + 1) g2 rfl (by omega) (fun i hi => (hg2 i hi).trans (hgc i hi)))
                        · have hs : (f_pb (M.2.1 1) (M.1 24) (M.1 25) h (ptM M q) (ptN M q) (r + 1)) = (f_pb (M.2.1 1) (M.1 24) (M.1 25) h (ptM M q) (ptN M q) r) := (if_pos c189).trans (if_neg c220)
                          refine j_goto 232 C dX11_parts_223 (by decide) ?_
                          refine j_iincN 235 (z := 1) C dX11_parts_232 rfl rfl rfl (by decide) ?_
                          refine j_goto 165 C dX11_parts_235 (by decide) ?_
                          exact j_weak _ (by rw [hs]; exact ⟨rfl, rfl, rfl, rfl, trivial⟩) (ilp165 _ (by omega) (r + 1) g2 rfl (by omega) (fun i hi => (hg2 i hi).trans (hgc i hi)))
                      · have hs : (f_pb (M.2.1 1) (M.1 24) (M.1 25) h (ptM M q) (ptN M q) (r + 1)) = (f_pb (M.2.1 1) (M.1 24) (M.1 25) h (ptM M q) (ptN M q) r) := if_neg c189
                        refine j_goto 232 C dX11_parts_192 (by decide) ?_
                        refine j_iincN 235 (z := 1) C dX11_parts_232 rfl rfl rfl (by decide) ?_
                        refine j_goto 165 C dX11_parts_235 (by decide) ?_
                        exact j_weak _ (by rw [hs]; exact ⟨rfl, rfl, rfl, rfl, trivial⟩) (ilp165 _ (by omega) (r + 1) gc rfl (by omega) hgc)
                  exact j_weak _ (by exact ⟨rfl, rfl, rfl, rfl, trivial⟩) (lp165 _ 0 gc rfl (by omega) (fun i hi => (hgc i (by omega)).trans (cpy_low hi)))
                · refine j_aload_n 137 C dX11_parts_136 rfl rfl ?_
                  refine rgH_world 140 C dX11_parts_137 rfl ?_
                  refine j_iload_n 141 C dX11_parts_140 rfl rfl ?_
                  refine j_aload_n 142 C dX11_parts_141 rfl rfl ?_
                  refine rgH_savedWorld 145 C dX11_parts_142 rfl ?_
                  refine j_iload_n 146 C dX11_parts_145 rfl rfl ?_
                  refine raH_savedWorld 147 C dX11_parts_146 rfl _ (by omega) rfl ?_
                  rw [show (aR (sS (aR (aR (aR (aR M 31 (va_cpy (M.2.1 1) (M.2.1 31) 0 0 1120)) 1 (va_cpy (va_cpy (M.2.1 1) (M.2.1 31) 0 0 1120) (imgW M q) 0 0 i)) 33 (f_pm (imgW M q) (M.2.1 33) 12)) 32 (f_pn (imgW M q) (M.1 24) (M.1 25) (imgH M q) (M.2.1 32) 12)) 27 (nI (c + 1))) 26 gc).2.1 31 i = (va_cpy (M.2.1 1) (M.2.1 31) 0 0 1120) i from rfl]
                  refine rsH_world 148 C dX11_parts_147 rfl _ (by omega) rfl ?_
                  refine j_ws (mw o ad G.2.1 (setHd (aR (sS (aR (aR (aR (aR M 31 (va_cpy (M.2.1 1) (M.2.1 31) 0 0 1120)) 1 (upd (va_cpy (va_cpy (M.2.1 1) (M.2.1 31) 0 0 1120) (imgW M q) 0 0 i) i ((va_cpy (M.2.1 1) (M.2.1 31) 0 0 1120) i))) 33 (f_pm (imgW M q) (M.2.1 33) 12)) 32 (f_pn (imgW M q) (M.1 24) (M.1 25) (imgH M q) (M.2.1 32) 12)) 27 (nI (c + 1))) 26 gc) (imgH M q))) rfl ?_
                  rw [show upd (va_cpy (va_cpy (M.2.1 1) (M.2.1 31) 0 0 1120) (imgW M q) 0 0 i) i ((va_cpy (M.2.1 1) (M.2.1 31) 0 0 1120) i) = (va_cpy (va_cpy (M.2.1 1) (M.2.1 31) 0 0 1120) (imgW M q) 0 0 (i + 1)) from by have z := cpy_step (va_cpy (M.2.1 1) (M.2.1 31) 0 0 1120) (imgW M q) 0 0 i; rw [Nat.zero_add] at z; exact z]
                  refine j_iincN 151 (z := 1) C dX11_parts_148 rfl rfl rfl (by decide) ?_
                  refine j_goto 129 C dX11_parts_151 (by decide) ?_
                  exact j_weak _ (by exact ⟨rfl, rfl, rfl, trivial⟩) (ilp129 _ (by omega) (i + 1) rfl (by omega))
              refine j_ws (mw o ad G.2.1 (setHd (aR (sS (aR (aR (aR (aR M 31 (va_cpy (M.2.1 1) (M.2.1 31) 0 0 1120)) 1 (va_cpy (va_cpy (M.2.1 1) (M.2.1 31) 0 0 1120) (imgW M q) 0 0 0)) 33 (f_pm (imgW M q) (M.2.1 33) 12)) 32 (f_pn (imgW M q) (M.1 24) (M.1 25) (imgH M q) (M.2.1 32) 12)) 27 (nI (c + 1))) 26 gc) (imgH M q))) (by rw [cpy_0]) ?_
              exact j_weak _ (by exact ⟨rfl, rfl, rfl, trivial⟩) (lp129 _ 0 rfl (Nat.zero_le _))
            · refine j_aload_n 73 C dX11_parts_72 rfl rfl ?_
              refine rgH_itsMany 76 C dX11_parts_73 rfl ?_
              refine j_iload_n 77 C dX11_parts_76 rfl rfl ?_
              refine j_aload_n 78 C dX11_parts_77 rfl rfl ?_
              refine j_iload_n 79 C dX11_parts_78 rfl rfl ?_
              refine j_mI 82 C dX11_parts_79 rfl cw11_315 rfl (c_isRowK (M := (aR (aR (aR (aR M 31 (va_cpy (M.2.1 1) (M.2.1 31) 0 0 1120)) 1 (imgW M q)) 33 (f_pm (imgW M q) (M.2.1 33) r)) 32 (f_pn (imgW M q) (M.1 24) (M.1 25) (imgH M q) (M.2.1 32) r))) _ hWI) rfl (by omega) rfl (Nat.le_of_ble_eq_true rfl) ?_
              refine j_if_eqB 93 85 C dX11_parts_82 (by decide) rfl (fun c82 => ?_) (fun c82 => ?_)
              · have c82i : ¬ isI (nI r) (nrw (imgW M q)) := c82
                have c82r : ¬ r < nrw (imgW M q) := fun z => c82i (isI_nI z (by have := hWI.2.2.1.2; omega))
                refine j_iconst 94 C dX11_parts_93 rfl (v := nI 0) (by decide) ?_
                refine rsH_itsMany 95 C dX11_parts_94 rfl _ (by omega) rfl ?_
                refine j_ws (mw o ad G.2.1 (setHd (aR (sS (aR (aR (aR (aR M 31 (va_cpy (M.2.1 1) (M.2.1 31) 0 0 1120)) 1 (imgW M q)) 33 (upd (f_pm (imgW M q) (M.2.1 33) r) r (nI 0))) 32 (f_pn (imgW M q) (M.1 24) (M.1 25) (imgH M q) (M.2.1 32) r)) 27 (nI (c + 1))) 26 gc) (imgH M q))) rfl ?_
                rw [show (upd (f_pm (imgW M q) (M.2.1 33) r) r (nI 0)) = (f_pm (imgW M q) (M.2.1 33) (r + 1)) from by show _ = upd (f_pm (imgW M q) (M.2.1 33) r) r (if r < nrw (imgW M q) then (imgW M q) (34 + 14 * r) else nI 0); rw [if_neg c82r]]
                refine j_aload_n 96 C dX11_parts_95 rfl rfl ?_
                refine rgH_itsNeeds 99 C dX11_parts_96 rfl ?_
                refine j_iload_n 100 C dX11_parts_99 rfl rfl ?_
                refine j_aload_n 101 C dX11_parts_100 rfl rfl ?_
                refine j_iload_n 102 C dX11_parts_101 rfl rfl ?_
                refine j_mI 105 C dX11_parts_102 rfl cw11_315 rfl (c_isRowK (M := (aR (aR (aR (aR M 31 (va_cpy (M.2.1 1) (M.2.1 31) 0 0 1120)) 1 (imgW M q)) 33 (f_pm (imgW M q) (M.2.1 33) (r + 1))) 32 (f_pn (imgW M q) (M.1 24) (M.1 25) (imgH M q) (M.2.1 32) r))) _ hWI) rfl (by omega) rfl (Nat.le_of_ble_eq_true rfl) ?_
                refine j_if_eqB 119 108 C dX11_parts_105 (by decide) rfl (fun c105 => ?_) (fun c105 => absurd c105 c82)
                refine j_iconst 120 C dX11_parts_119 rfl (v := nI 0) (by decide) ?_
                refine rsH_itsNeeds 121 C dX11_parts_120 rfl _ (by omega) rfl ?_
                refine j_ws (mw o ad G.2.1 (setHd (aR (sS (aR (aR (aR (aR M 31 (va_cpy (M.2.1 1) (M.2.1 31) 0 0 1120)) 1 (imgW M q)) 33 (f_pm (imgW M q) (M.2.1 33) (r + 1))) 32 (upd (f_pn (imgW M q) (M.1 24) (M.1 25) (imgH M q) (M.2.1 32) r) r (nI 0))) 27 (nI (c + 1))) 26 gc) (imgH M q))) rfl ?_
                rw [show (upd (f_pn (imgW M q) (M.1 24) (M.1 25) (imgH M q) (M.2.1 32) r) r (nI 0)) = (f_pn (imgW M q) (M.1 24) (M.1 25) (imgH M q) (M.2.1 32) (r + 1)) from by show _ = upd (f_pn (imgW M q) (M.1 24) (M.1 25) (imgH M q) (M.2.1 32) r) r (if r < nrw (imgW M q) then f_om (f_need (imgW M q) (M.1 24) (M.1 25) r (imgH M q)) else nI 0); rw [if_neg c82r]]
                refine j_iincN 124 (z := 1) C dX11_parts_121 rfl rfl rfl (by decide) ?_
                refine j_goto 66 C dX11_parts_124 (by decide) ?_
                exact j_weak _ (by exact ⟨rfl, rfl, rfl, trivial⟩) (ilp66 _ (by omega) (r + 1) gc rfl (by omega) hgc)
              · have c82i : isI (nI r) (nrw (imgW M q)) := c82
                have c82r : r < nrw (imgW M q) := by obtain ⟨z, hz, ez⟩ := isI_of c82i; have := hWI.2.2.1.2; rw [(nI_eq (by omega) (by omega)).mp ez]; exact hz
                refine j_aload_n 86 C dX11_parts_85 rfl rfl ?_
                refine j_iload_n 87 C dX11_parts_86 rfl rfl ?_
                refine j_mI 90 C dX11_parts_87 rfl cw11_278 rfl (c_manyOfK (M := (aR (aR (aR (aR M 31 (va_cpy (M.2.1 1) (M.2.1 31) 0 0 1120)) 1 (imgW M q)) 33 (f_pm (imgW M q) (M.2.1 33) r)) 32 (f_pn (imgW M q) (M.1 24) (M.1 25) (imgH M q) (M.2.1 32) r))) r (by omega)) rfl (by omega) rfl (Nat.le_of_ble_eq_true rfl) ?_
                refine j_goto 94 C dX11_parts_90 (by decide) ?_
                refine rsH_itsMany 95 C dX11_parts_94 rfl _ (by omega) rfl ?_
                refine j_ws (mw o ad G.2.1 (setHd (aR (sS (aR (aR (aR (aR M 31 (va_cpy (M.2.1 1) (M.2.1 31) 0 0 1120)) 1 (imgW M q)) 33 (upd (f_pm (imgW M q) (M.2.1 33) r) r ((imgW M q) (34 + 14 * r)))) 32 (f_pn (imgW M q) (M.1 24) (M.1 25) (imgH M q) (M.2.1 32) r)) 27 (nI (c + 1))) 26 gc) (imgH M q))) rfl ?_
                rw [show (upd (f_pm (imgW M q) (M.2.1 33) r) r ((imgW M q) (34 + 14 * r))) = (f_pm (imgW M q) (M.2.1 33) (r + 1)) from by show _ = upd (f_pm (imgW M q) (M.2.1 33) r) r (if r < nrw (imgW M q) then (imgW M q) (34 + 14 * r) else nI 0); rw [if_pos c82r]]
                refine j_aload_n 96 C dX11_parts_95 rfl rfl ?_
                refine rgH_itsNeeds 99 C dX11_parts_96 rfl ?_
                refine j_iload_n 100 C dX11_parts_99 rfl rfl ?_
                refine j_aload_n 101 C dX11_parts_100 rfl rfl ?_
                refine j_iload_n 102 C dX11_parts_101 rfl rfl ?_
                refine j_mI 105 C dX11_parts_102 rfl cw11_315 rfl (c_isRowK (M := (aR (aR (aR (aR M 31 (va_cpy (M.2.1 1) (M.2.1 31) 0 0 1120)) 1 (imgW M q)) 33 (f_pm (imgW M q) (M.2.1 33) (r + 1))) 32 (f_pn (imgW M q) (M.1 24) (M.1 25) (imgH M q) (M.2.1 32) r))) _ hWI) rfl (by omega) rfl (Nat.le_of_ble_eq_true rfl) ?_
                refine j_if_eqB 119 108 C dX11_parts_105 (by decide) rfl (fun c105 => absurd c82 c105) (fun c105 => ?_)
                refine j_aload_n 109 C dX11_parts_108 rfl rfl ?_
                refine j_iload_n 110 C dX11_parts_109 rfl rfl ?_
                refine j_mE 113 C dX11_parts_110 rfl cw11_333 rfl (c_needsOfN (M := (aR (aR (aR (aR M 31 (va_cpy (M.2.1 1) (M.2.1 31) 0 0 1120)) 1 (imgW M q)) 33 (f_pm (imgW M q) (M.2.1 33) (r + 1))) 32 (f_pn (imgW M q) (M.1 24) (M.1 25) (imgH M q) (M.2.1 32) r))) r (by omega) c82r hWI) rfl (by omega) rfl (Nat.le_of_ble_eq_true rfl) (fun g2 hg2 => ?_)
                rw [show f_need ((aR (aR (aR (aR M 31 (va_cpy (M.2.1 1) (M.2.1 31) 0 0 1120)) 1 (imgW M q)) 33 (f_pm (imgW M q) (M.2.1 33) (r + 1))) 32 (f_pn (imgW M q) (M.1 24) (M.1 25) (imgH M q) (M.2.1 32) r)).2.1 1) ((aR (aR (aR (aR M 31 (va_cpy (M.2.1 1) (M.2.1 31) 0 0 1120)) 1 (imgW M q)) 33 (f_pm (imgW M q) (M.2.1 33) (r + 1))) 32 (f_pn (imgW M q) (M.1 24) (M.1 25) (imgH M q) (M.2.1 32) r)).1 24) ((aR (aR (aR (aR M 31 (va_cpy (M.2.1 1) (M.2.1 31) 0 0 1120)) 1 (imgW M q)) 33 (f_pm (imgW M q) (M.2.1 33) (r + 1))) 32 (f_pn (imgW M q) (M.1 24) (M.1 25) (imgH M q) (M.2.1 32) r)).1 25) r (imgH M q) = f_need (imgW M q) (M.1 24) (M.1 25) r (imgH M q) from rfl]
                refine j_sI 116 C dX11_parts_113 rfl cw11_340 (c_orMany _) rfl (by omega) ⟨Nat.le_refl _, Nat.le_refl _⟩ rfl (Nat.le_of_ble_eq_true rfl) ?_
                refine j_goto 120 C dX11_parts_116 (by decide) ?_
                refine rsH_itsNeeds 121 C dX11_parts_120 rfl _ (by omega) rfl ?_
                refine j_ws (mw o ad G.2.1 (setHd (aR (sS (aR (aR (aR (aR M 31 (va_cpy (M.2.1 1) (M.2.1 31) 0 0 1120)) 1 (imgW M q)) 33 (f_pm (imgW M q) (M.2.1 33) (r + 1))) 32 (upd (f_pn (imgW M q) (M.1 24) (M.1 25) (imgH M q) (M.2.1 32) r) r (f_om (f_need (imgW M q) (M.1 24) (M.1 25) r (imgH M q))))) 27 (nI (c + 1))) 26 g2) (imgH M q))) rfl ?_
                rw [show (upd (f_pn (imgW M q) (M.1 24) (M.1 25) (imgH M q) (M.2.1 32) r) r (f_om (f_need (imgW M q) (M.1 24) (M.1 25) r (imgH M q)))) = (f_pn (imgW M q) (M.1 24) (M.1 25) (imgH M q) (M.2.1 32) (r + 1)) from by show _ = upd (f_pn (imgW M q) (M.1 24) (M.1 25) (imgH M q) (M.2.1 32) r) r (if r < nrw (imgW M q) then f_om (f_need (imgW M q) (M.1 24) (M.1 25) r (imgH M q)) else nI 0); rw [if_pos c82r]]
                refine j_iincN 124 (z := 1) C dX11_parts_121 rfl rfl rfl (by decide) ?_
                refine j_goto 66 C dX11_parts_124 (by decide) ?_
                exact j_weak _ (by exact ⟨rfl, rfl, rfl, trivial⟩) (ilp66 _ (by omega) (r + 1) g2 rfl (by omega) (fun i hi => (hg2 i hi).trans (hgc i hi)))
          exact j_weak _ (by exact ⟨rfl, rfl, rfl, trivial⟩) (lp66 _ 0 _ rfl (Nat.zero_le _) (fun _ _ => rfl))
        · refine j_aload_n 42 C dX11_parts_41 rfl rfl ?_
          refine rgH_savedWorld 45 C dX11_parts_42 rfl ?_
          refine j_iload_n 46 C dX11_parts_45 rfl rfl ?_
          refine j_aload_n 47 C dX11_parts_46 rfl rfl ?_
          refine rgH_world 50 C dX11_parts_47 rfl ?_
          refine j_iload_n 51 C dX11_parts_50 rfl rfl ?_
          refine raH_world 52 C dX11_parts_51 rfl _ (by omega) rfl ?_
          rw [show (aR (sS (aR M 31 (va_cpy (M.2.1 1) (M.2.1 31) 0 0 i)) 27 (nI (c + 1))) 26 (va_cpy h g 0 (2018 * c) 2018)).2.1 1 i = (M.2.1 1) i from rfl]
          refine rsH_savedWorld 53 C dX11_parts_52 rfl _ (by omega) rfl ?_
          refine j_ws (mw o ad G.2.1 (setHd (aR (sS (aR M 31 (upd (va_cpy (M.2.1 1) (M.2.1 31) 0 0 i) i ((M.2.1 1) i))) 27 (nI (c + 1))) 26 (va_cpy h g 0 (2018 * c) 2018)) h)) rfl ?_
          rw [show upd (va_cpy (M.2.1 1) (M.2.1 31) 0 0 i) i ((M.2.1 1) i) = (va_cpy (M.2.1 1) (M.2.1 31) 0 0 (i + 1)) from by have z := cpy_step (M.2.1 1) (M.2.1 31) 0 0 i; rw [Nat.zero_add] at z; exact z]
          refine j_iincN 56 (z := 1) C dX11_parts_53 rfl rfl rfl (by decide) ?_
          refine j_goto 34 C dX11_parts_56 (by decide) ?_
          exact j_weak _ (by exact ⟨rfl, rfl, rfl, trivial⟩) (ilp34 _ (by omega) (i + 1) rfl (by omega))
      refine j_ws (mw o ad G.2.1 (setHd (aR (sS (aR M 31 (va_cpy (M.2.1 1) (M.2.1 31) 0 0 0)) 27 (nI (c + 1))) 26 (va_cpy h g 0 (2018 * c) 2018)) h)) (by rw [cpy_0, aR_self]) ?_
      exact j_weak _ (by exact ⟨rfl, rfl, rfl, trivial⟩) (lp34 _ 0 rfl (Nat.zero_le _))
    · refine j_bipush 27 C dX11_parts_25 rfl (v := (-6)) (by decide) ?_
      exact j_iret C dX11_parts_27 ⟨by rw [if_pos c9, tn_nI (by omega), if_pos (show M.2.1 10 q = -1 from c22)], g, fun _ _ => rfl, by rw [if_neg (fun z => z.2 (by rw [tn_nI (by omega)]; exact c22))]⟩
  · refine j_bipush 14 C dX11_parts_12 rfl (v := (-2)) (by decide) ?_
    exact j_iret C dX11_parts_14 ⟨by rw [if_neg c9], g, fun _ _ => rfl, by rw [if_neg (fun z => c9 z.1)]⟩
end S19
