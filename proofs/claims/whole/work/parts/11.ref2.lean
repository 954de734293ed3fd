section MF
variable {l : Launch} {G : GG} {cc : ByteArray} {rt : Option FieldType} {d mc ms : Nat} {post : Option Value → va_W → Prop} {ws : va_W}
theorem Met.ofWF {y : MethodName} {ws ws' : List Cond} {rm : Room} {Pc : Array Value → State → Prop} {Qc : Array Value → State → Outcome → State → Prop} {mc ms : Nat} {free : Addr → Prop} {cc : ByteArray} {maxL : Nat} {ret : Option FieldType}
    (hy : plainFor y = true) (hw : ws = Cond.code y cc maxL ret :: ws')
    (body : ∀ p e s m args below meth c s₁, BodyLoose p l y (headSpec ws rm) cc maxL ret e s m args below meth c s₁ → c.maxLocals = maxL → Pc args s →
      W p l e (headSpec ws rm).room s m args below meth c s.heap [] 0 0 (MQ below Qc args s mc ms free) (entryFrame m args maxL)) : Met l y ws rm Pc Qc mc ms free := by
  refine MetFree.of_bodySF (code := cc) (maxLocals := maxL) (ret := ret) hy ?_ ?_
  · intro args s m h hn
    obtain ⟨meth, c, h1, h2, h3, h4, h5, h6, -, -⟩ := Cond.code_spec hn (atoms_spec (ws := ws) h _ (by rw [hw]; exact List.mem_cons_self))
    exact ⟨meth, c, h1, h2, h3, h4, h5, h6⟩
  · intro p e s m args below meth c s₁ B hml hP _
    have hh0 : s₁.heap = s.heap := by rw [B.state]; rfl
    obtain ⟨t, a1, o, b1, b2, b3⟩ := body p e s m args below meth c s₁ B hml hP s₁ hh0 (Stand.of_body B)
    exact ⟨t, o, a1, b1, b2, ⟨b3.1, b3.2⟩⟩
theorem Con.mkF {y : MethodName} {own : String} {mL : Nat} {As : List Value} (hy : plainFor y = true) (ho : y.cls = own) (hlen : (lg_sl As).length ≤ mL)
    (h : ∀ X : JX, Cx X l G cc mL own rt d mc ms post → J X mL 0 0 ws 0 (lv_args 0 As) []) : Con l G y cc mL rt d mc ms As ws post := by
  subst ho
  intro sz
  refine Met.ofWF (cc := cc) (maxL := mL) (ret := rt) hy rfl ?_
  intro p e s m args below meth c s₁ B hml hv
  obtain ⟨rfl, hsz, hP, hK, hD0, hE⟩ := hv
  subst hsz
  have hts := atoms_spec (ws := WW y cc mL rt) B.pre
  have hown : s.vm.findClass y.cls = some m.cls := findClass_of_methodNamed B.named
  have hD := hD0.self (sz := s.heap.size)
  have hl := lv_entry As (n := mL) hlen
  rw [lg_entry_eq]
  exact h (p, l, e, rmD d mc ms, s, m, As.toArray, below, meth, c, va_A ws s.heap.size, G, _)
    ⟨B.exec, B.bytes, hml, hown, fun w hw => hts w (List.mem_cons_of_mem _ hw), hK, fun q hq => Or.inr hq, B.notSynchronized, B.returns, rfl, rfl, rfl, rfl, hE⟩
    s.heap [] _ hP hD va_S.rf (jl_of hl)
end MF
section S2
variable {l : Launch} {G : GG} {o : Nat} {ad : Nat → Nat} {M : MS}
theorem c_absI (x : Int32) : Con l G yJ9_abs_0f7a4 cJ9_abs_0f7a4 1 (some .int) 1 0 0 [.int x] [] (pI (if 0 ≤ x then x else -x) []) := by
  refine Con.mkF (own := RJ9) (by decide +kernel) rfl (Nat.le_of_ble_eq_true rfl) (fun X C => ?_)
  refine j_iload_n 1 C dJ9_abs_0f7a4_0 rfl rfl ?_
  refine j_if_ge 9 4 C dJ9_abs_0f7a4_1 (by decide) rfl (fun c1 => ?_) (fun c1 => ?_)
  · refine j_iload_n 10 C dJ9_abs_0f7a4_9 rfl rfl ?_
    exact j_iret C dJ9_abs_0f7a4_10 ⟨by first | rw [if_pos c1] | rw [if_neg c1], rfl⟩
  · refine j_iload_n 5 C dJ9_abs_0f7a4_4 rfl rfl ?_
    refine j_ineg 6 C dJ9_abs_0f7a4_5 rfl ?_
    refine j_goto 10 C dJ9_abs_0f7a4_6 (by decide) ?_
    exact j_iret C dJ9_abs_0f7a4_10 ⟨by first | rw [if_pos c1] | rw [if_neg c1], rfl⟩
theorem c_maxL (x y : Int64) : Con l G yJ9_max_f86c9 cJ9_max_f86c9 4 (some .long) 1 0 0 [.long x, .long y] [] (pL (if x < y then y else x) []) := by
  refine Con.mkF (own := RJ9) (by decide +kernel) rfl (Nat.le_of_ble_eq_true rfl) (fun X C => ?_)
  refine j_lload_n 1 C dJ9_max_f86c9_0 rfl rfl ?_
  refine j_lload_n 2 C dJ9_max_f86c9_1 rfl rfl ?_
  refine j_lcmp 3 C dJ9_max_f86c9_2 rfl ?_
  refine j_if_ltL 10 6 C dJ9_max_f86c9_3 (by decide) rfl (fun c3 => ?_) (fun c3 => ?_)
  · refine j_lload_n 11 C dJ9_max_f86c9_10 rfl rfl ?_
    exact j_lret C dJ9_max_f86c9_11 ⟨by first | rw [if_pos c3] | rw [if_neg c3], rfl⟩
  · refine j_lload_n 7 C dJ9_max_f86c9_6 rfl rfl ?_
    refine j_goto 11 C dJ9_max_f86c9_7 (by decide) ?_
    exact j_lret C dJ9_max_f86c9_11 ⟨by first | rw [if_pos c3] | rw [if_neg c3], rfl⟩
theorem c_minI (x y : Int32) : Con l G yJ9_min_7cf53 cJ9_min_7cf53 2 (some .int) 1 0 0 [.int x, .int y] [] (pI (if y < x then y else x) []) := by
  refine Con.mkF (own := RJ9) (by decide +kernel) rfl (Nat.le_of_ble_eq_true rfl) (fun X C => ?_)
  refine j_iload_n 1 C dJ9_min_7cf53_0 rfl rfl ?_
  refine j_iload_n 2 C dJ9_min_7cf53_1 rfl rfl ?_
  refine j_icmp_gt 9 5 C dJ9_min_7cf53_2 (by decide) rfl (fun c2 => ?_) (fun c2 => ?_)
  · refine j_iload_n 10 C dJ9_min_7cf53_9 rfl rfl ?_
    exact j_iret C dJ9_min_7cf53_10 ⟨by first | rw [if_pos c2] | rw [if_neg c2], rfl⟩
  · refine j_iload_n 6 C dJ9_min_7cf53_5 rfl rfl ?_
    refine j_goto 10 C dJ9_min_7cf53_6 (by decide) ?_
    exact j_iret C dJ9_min_7cf53_10 ⟨by first | rw [if_pos c2] | rw [if_neg c2], rfl⟩
theorem c_minL (x y : Int64) : Con l G yJ9_min_f86c9 cJ9_min_f86c9 4 (some .long) 1 0 0 [.long x, .long y] [] (pL (if y < x then y else x) []) := by
  refine Con.mkF (own := RJ9) (by decide +kernel) rfl (Nat.le_of_ble_eq_true rfl) (fun X C => ?_)
  refine j_lload_n 1 C dJ9_min_f86c9_0 rfl rfl ?_
  refine j_lload_n 2 C dJ9_min_f86c9_1 rfl rfl ?_
  refine j_lcmp 3 C dJ9_min_f86c9_2 rfl ?_
  refine j_if_gtL 10 6 C dJ9_min_f86c9_3 (by decide) rfl (fun c3 => ?_) (fun c3 => ?_)
  · refine j_lload_n 11 C dJ9_min_f86c9_10 rfl rfl ?_
    exact j_lret C dJ9_min_f86c9_11 ⟨by first | rw [if_pos c3] | rw [if_neg c3], rfl⟩
  · refine j_lload_n 7 C dJ9_min_f86c9_6 rfl rfl ?_
    refine j_goto 11 C dJ9_min_f86c9_7 (by decide) ?_
    exact j_lret C dJ9_min_f86c9_11 ⟨by first | rw [if_pos c3] | rw [if_neg c3], rfl⟩
def f_link (s a b : Nat) : Nat := if s = 3 then 1728 + 12 * a + b else 576 * s + 24 * a + b
theorem c_linkAt (s a b : Nat) (hs : s < 4) : Con l G yX11_linkAt cX11_linkAt 3 (some .int) 1 0 0 [.int (nI s), .int (nI a), .int (nI b)] [] (pI (nI (f_link s a b)) []) := by
  refine Con.mk (own := RX11) (by decide) rfl (Nat.le_of_ble_eq_true rfl) (fun X C => ?_)
  refine j_iload_n 1 C dX11_linkAt_0 rfl rfl ?_
  refine j_iconst 2 C dX11_linkAt_1 rfl (v := nI 3) (by decide) ?_
  refine j_icmp_neN 18 5 C dX11_linkAt_2 (by decide) rfl (by omega) (by omega) (fun c2 => ?_) (fun c2 => ?_)
  · refine j_sipush 21 C dX11_linkAt_18 rfl (v := nI 576) (by decide) ?_
    refine j_iload_n 22 C dX11_linkAt_21 rfl rfl ?_
    refine j_imulN 23 C dX11_linkAt_22 rfl ?_
    refine j_bipush 25 C dX11_linkAt_23 rfl (v := nI 24) (by decide) ?_
    refine j_iload_n 26 C dX11_linkAt_25 rfl rfl ?_
    refine j_imulN 27 C dX11_linkAt_26 rfl ?_
    refine j_iaddN 28 C dX11_linkAt_27 rfl ?_
    refine j_iload_n 29 C dX11_linkAt_28 rfl rfl ?_
    refine j_iaddN 30 C dX11_linkAt_29 rfl ?_
    exact j_iret C dX11_linkAt_30 ⟨by first | rw [f_link, if_pos c2] | rw [f_link, if_neg c2], rfl⟩
  · refine j_sipush 8 C dX11_linkAt_5 rfl (v := nI 1728) (by decide) ?_
    refine j_bipush 10 C dX11_linkAt_8 rfl (v := nI 12) (by decide) ?_
    refine j_iload_n 11 C dX11_linkAt_10 rfl rfl ?_
    refine j_imulN 12 C dX11_linkAt_11 rfl ?_
    refine j_iaddN 13 C dX11_linkAt_12 rfl ?_
    refine j_iload_n 14 C dX11_linkAt_13 rfl rfl ?_
    refine j_iaddN 15 C dX11_linkAt_14 rfl ?_
    refine j_goto 30 C dX11_linkAt_15 (by decide) ?_
    exact j_iret C dX11_linkAt_30 ⟨by first | rw [f_link, if_pos c2] | rw [f_link, if_neg c2], rfl⟩
def f_part (wd hd : Nat → Int32) (k : Nat) (has easy : Int32) : Int64 :=
  if wd (220 + 3 * k + 1) = 0 then (wd (220 + 3 * k + 2)).toInt64 else if wd (220 + 3 * k + 1) = 1 then has.toInt64 else if wd (220 + 3 * k + 1) = 2 then (nI 1000 - has).toInt64 else if wd (220 + 3 * k + 1) = 3 then easy.toInt64 else if wd (220 + 3 * k + 1) = 4 then (hd 2017).toInt64 else (hd 2016 - hd 2016 / nI 24 * nI 24).toInt64
theorem sw5 (c : Int32) : c = 0 ∨ c = 1 ∨ c = 2 ∨ c = 3 ∨ c = 4 ∨ (¬ c = 0 ∧ ¬ c = 1 ∧ ¬ c = 2 ∧ ¬ c = 3 ∧ ¬ c = 4 ∧ (c.toInt < 0 ∨ 4 < c.toInt)) := by
  by_cases h0 : c = 0; · exact Or.inl h0
  by_cases h1 : c = 1; · exact Or.inr (Or.inl h1)
  by_cases h2 : c = 2; · exact Or.inr (Or.inr (Or.inl h2))
  by_cases h3 : c = 3; · exact Or.inr (Or.inr (Or.inr (Or.inl h3)))
  by_cases h4 : c = 4; · exact Or.inr (Or.inr (Or.inr (Or.inr (Or.inl h4))))
  refine Or.inr (Or.inr (Or.inr (Or.inr (Or.inr ⟨h0, h1, h2, h3, h4, ?_⟩))))
  have g0 := lv_neT h0 (a := 0) rfl
  have g1 := lv_neT h1 (a := 1) rfl
  have g2 := lv_neT h2 (a := 2) rfl
  have g3 := lv_neT h3 (a := 3) rfl
  have g4 := lv_neT h4 (a := 4) rfl
  omega
theorem c_partOf (k : Nat) (has easy : Int32) (hk : k < 300) : Con l G yX11_partOf cX11_partOf 4 (some .long) 1 0 0 [.ref o, .int (nI k), .int has, .int easy] (mw o ad G.2.1 M) (pL (f_part (M.2.1 1) (M.2.1 2) k has easy) (mw o ad G.2.1 M)) := by
  refine Con.mk (own := RX11) (by decide) rfl (Nat.le_of_ble_eq_true rfl) (fun X C => ?_)
  refine j_aload_n 1 C dX11_partOf_0 rfl rfl ?_
  refine rg_world 4 C dX11_partOf_1 rfl ?_
  refine j_sipush 7 C dX11_partOf_4 rfl (v := nI 220) (by decide) ?_
  refine j_iconst 8 C dX11_partOf_7 rfl (v := nI 3) (by decide) ?_
  refine j_iload_n 9 C dX11_partOf_8 rfl rfl ?_
  refine j_imulN 10 C dX11_partOf_9 rfl ?_
  refine j_iaddN 11 C dX11_partOf_10 rfl ?_
  refine j_iconst 12 C dX11_partOf_11 rfl (v := nI 1) (by decide) ?_
  refine j_iaddN 13 C dX11_partOf_12 rfl ?_
  refine ra_world 14 C dX11_partOf_13 rfl _ (by omega) rfl ?_
  rcases sw5 (M.2.1 1 (220 + 3 * k + 1)) with hc | hc | hc | hc | hc | ⟨n0, n1, n2, n3, n4, hc⟩
  · have hv : f_part (M.2.1 1) (M.2.1 2) k has easy = (M.2.1 1 (220 + 3 * k + 2)).toInt64 := by simp only [f_part, if_pos hc]
    rw [hc]
    refine j_tabIn 48 (off := 34) C dX11_partOf_14 (by decide) (by decide) (by decide) (by decide) ?_
    refine j_aload_n 49 C dX11_partOf_48 rfl rfl ?_
    refine rg_world 52 C dX11_partOf_49 rfl ?_
    refine j_sipush 55 C dX11_partOf_52 rfl (v := nI 220) (by decide) ?_
    refine j_iconst 56 C dX11_partOf_55 rfl (v := nI 3) (by decide) ?_
    refine j_iload_n 57 C dX11_partOf_56 rfl rfl ?_
    refine j_imulN 58 C dX11_partOf_57 rfl ?_
    refine j_iaddN 59 C dX11_partOf_58 rfl ?_
    refine j_iconst 60 C dX11_partOf_59 rfl (v := nI 2) (by decide) ?_
    refine j_iaddN 61 C dX11_partOf_60 rfl ?_
    refine ra_world 62 C dX11_partOf_61 rfl _ (by omega) rfl ?_
    refine j_i2l 63 C dX11_partOf_62 rfl ?_
    exact j_lret C dX11_partOf_63 ⟨by rw [hv], rfl⟩
  · have hv : f_part (M.2.1 1) (M.2.1 2) k has easy = has.toInt64 := by simp [f_part, hc]
    rw [hc]
    refine j_tabIn 64 (off := 50) C dX11_partOf_14 (by decide) (by decide) (by decide) (by decide) ?_
    refine j_iload_n 65 C dX11_partOf_64 rfl rfl ?_
    refine j_i2l 66 C dX11_partOf_65 rfl ?_
    exact j_lret C dX11_partOf_66 ⟨by rw [hv], rfl⟩
  · have hv : f_part (M.2.1 1) (M.2.1 2) k has easy = (nI 1000 - has).toInt64 := by simp [f_part, hc]
    rw [hc]
    refine j_tabIn 67 (off := 53) C dX11_partOf_14 (by decide) (by decide) (by decide) (by decide) ?_
    refine j_sipush 70 C dX11_partOf_67 rfl (v := nI 1000) (by decide) ?_
    refine j_iload_n 71 C dX11_partOf_70 rfl rfl ?_
    refine j_isub 72 C dX11_partOf_71 rfl ?_
    refine j_i2l 73 C dX11_partOf_72 rfl ?_
    exact j_lret C dX11_partOf_73 ⟨by rw [hv], rfl⟩
  · have hv : f_part (M.2.1 1) (M.2.1 2) k has easy = easy.toInt64 := by simp [f_part, hc]
    rw [hc]
    refine j_tabIn 74 (off := 60) C dX11_partOf_14 (by decide) (by decide) (by decide) (by decide) ?_
    refine j_iload_n 75 C dX11_partOf_74 rfl rfl ?_
    refine j_i2l 76 C dX11_partOf_75 rfl ?_
    exact j_lret C dX11_partOf_76 ⟨by rw [hv], rfl⟩
  · have hv : f_part (M.2.1 1) (M.2.1 2) k has easy = (M.2.1 2 2017).toInt64 := by simp [f_part, hc]
    rw [hc]
    refine j_tabIn 77 (off := 63) C dX11_partOf_14 (by decide) (by decide) (by decide) (by decide) ?_
    refine j_aload_n 78 C dX11_partOf_77 rfl rfl ?_
    refine rg_head 81 C dX11_partOf_78 rfl ?_
    refine j_sipush 84 C dX11_partOf_81 rfl (v := nI 2017) (by decide) ?_
    refine ra_head 85 C dX11_partOf_84 rfl _ (by omega) rfl ?_
    refine j_i2l 86 C dX11_partOf_85 rfl ?_
    exact j_lret C dX11_partOf_86 ⟨by rw [hv], rfl⟩
  · have hv : f_part (M.2.1 1) (M.2.1 2) k has easy = (M.2.1 2 2016 - M.2.1 2 2016 / nI 24 * nI 24).toInt64 := by simp only [f_part, if_neg n0, if_neg n1, if_neg n2, if_neg n3, if_neg n4]
    refine j_tabOut 87 C dX11_partOf_14 hc (by decide) ?_
    refine j_aload_n 88 C dX11_partOf_87 rfl rfl ?_
    refine rg_head 91 C dX11_partOf_88 rfl ?_
    refine j_sipush 94 C dX11_partOf_91 rfl (v := nI 2016) (by decide) ?_
    refine ra_head 95 C dX11_partOf_94 rfl _ (by omega) rfl ?_
    refine j_bipush 97 C dX11_partOf_95 rfl (v := nI 24) (by decide) ?_
    refine j_irem 98 C dX11_partOf_97 rfl (by decide) ?_
    refine j_i2l 99 C dX11_partOf_98 rfl ?_
    exact j_lret C dX11_partOf_99 ⟨by rw [hv], rfl⟩
def clampS (v : Int64) : Int32 := (if lN 0 < (if v < 1000 then v else 1000) then (if v < 1000 then v else 1000) else lN 0).toInt32
def f_chg (hd : Nat → Int32) (k : Nat) (d : Int64) : Nat → Int32 := upd hd k (clampS ((hd k).toInt64 + d))
def setHd (M : MS) (hd : Nat → Int32) : MS := (M.1, va_up M.2.1 2 hd, M.2.2)
theorem setHd_set (M : MS) (a b : Nat → Int32) : setHd (setHd M a) b = setHd M b := by unfold setHd; simp only [bx_uu]
theorem vup_self {α : Type} (f : Nat → α) (k : Nat) : va_up f k (f k) = f := by
  funext j; unfold va_up; by_cases h : j = k
  · rw [if_pos h, h]
  · rw [if_neg h]
theorem setHd_self (M : MS) : setHd M (M.2.1 2) = M := by unfold setHd; rw [vup_self]
theorem c_changes (k : Nat) (d : Int64) (hk : k < 2018) : Con l G yX11_changes cX11_changes 6 none 2 0 0 [.ref o, .int (nI k), .long d] (mw o ad G.2.1 M) (pV (mw o ad G.2.1 (setHd M (f_chg (M.2.1 2) k d)))) := by
  refine Con.mk (own := RX11) (by decide) rfl (Nat.le_of_ble_eq_true rfl) (fun X C => ?_)
  refine j_aload_n 1 C dX11_changes_0 rfl rfl ?_
  refine rg_head 4 C dX11_changes_1 rfl ?_
  refine j_iload_n 5 C dX11_changes_4 rfl rfl ?_
  refine ra_head 6 C dX11_changes_5 rfl _ (by omega) rfl ?_
  refine j_i2l 7 C dX11_changes_6 rfl ?_
  refine j_lload_n 8 C dX11_changes_7 rfl rfl ?_
  refine j_ladd 9 C dX11_changes_8 rfl ?_
  refine j_lstore 11 C dX11_changes_9 rfl rfl rfl (by decide) ?_
  refine j_aload_n 12 C dX11_changes_11 rfl rfl ?_
  refine rg_head 15 C dX11_changes_12 rfl ?_
  refine j_iload_n 16 C dX11_changes_15 rfl rfl ?_
  refine j_lconst 17 C dX11_changes_16 rfl (v := lN 0) (by decide) ?_
  refine j_ldc2 20 C dX11_changes_17 rfl (v := (1000)) kc11_253 ?_
  refine j_lload 22 C dX11_changes_20 rfl rfl ?_
  refine j_sL 25 C dX11_changes_22 rfl cw11_264 (c_minL _ _) rfl (by decide) ⟨Nat.le_refl _, Nat.le_refl _⟩ rfl (Nat.le_of_ble_eq_true rfl) ?_
  refine j_sL 28 C dX11_changes_25 rfl cw11_267 (c_maxL _ _) rfl (by decide) ⟨Nat.le_refl _, Nat.le_refl _⟩ rfl (Nat.le_of_ble_eq_true rfl) ?_
  refine j_l2i 29 C dX11_changes_28 rfl ?_
  refine rs_head 30 C dX11_changes_29 rfl _ (by omega) rfl ?_
  exact j_vret C dX11_changes_30 ⟨rfl, rfl⟩
def inF (t : Int64) : Prop := -1000000000 ≤ t ∧ t ≤ 1000000000
def f_term (wd hd : Nat → Int32) (has easy : Int32) : Nat → Nat → Int64 → Option (Int64 × Nat)
  | 0, k, t => some (t, k)
  | m + 1, k, t => if wd (220 + 3 * k) < nI 3 then some (t, k) else
    if ¬ wd (220 + 3 * k) = nI 3 ∧ f_part wd hd k has easy = lN 0 then none else
    if -1000000000 ≤ (if wd (220 + 3 * k) = nI 3 then t * f_part wd hd k has easy else t / f_part wd hd k has easy) ∧ (if wd (220 + 3 * k) = nI 3 then t * f_part wd hd k has easy else t / f_part wd hd k has easy) ≤ 1000000000 then
      f_term wd hd has easy m (k + 1) (if wd (220 + 3 * k) = nI 3 then t * f_part wd hd k has easy else t / f_part wd hd k has easy) else none
def f_sum (wd hd : Nat → Int32) (has easy : Int32) (e : Nat) : Nat → Nat → Int64 → Int64
  | 0, _, s => s
  | f + 1, k, s => if e ≤ k then s else match f_term wd hd has easy (e - (k + 1)) (k + 1) (f_part wd hd k has easy) with
    | none => lN 0
    | some (t, k') => if -1000000000 ≤ (if wd (220 + 3 * k) = nI 2 then s - t else s + t) ∧ (if wd (220 + 3 * k) = nI 2 then s - t else s + t) ≤ 1000000000 then f_sum wd hd has easy e f k' (if wd (220 + 3 * k) = nI 2 then s - t else s + t) else lN 0
def tn (x : Int32) : Nat := x.toNatClampNeg
theorem tn_nI {a : Nat} (h : a < 2 ^ 31) : tn (nI a) = a := nI_clamp h
def f_comes (wd hd : Nat → Int32) (cl cv : Int32) (lw : Nat) (has easy : Int32) : Int64 :=
  if nI lw = cl then cv.toInt64 else f_sum wd hd has easy (tn (wd (202 + 2 * lw)) + tn (wd (202 + 2 * lw + 1))) (tn (wd (202 + 2 * lw + 1))) (tn (wd (202 + 2 * lw))) (lN 0)
/-- the LAWS lie in their places -/
def WL (wd : Nat → Int32) : Prop := ∀ lw, lw < 9 → ∃ b n, wd (202 + 2 * lw) = nI b ∧ wd (202 + 2 * lw + 1) = nI n ∧ b + n ≤ 300
set_option maxHeartbeats 4000000 in
theorem c_comesTo (lw : Nat) (has easy : Int32) (hlw : lw < 9) (hL : WL (M.2.1 1)) : Con l G yX11_comesTo cX11_comesTo 14 (some .long) 2 0 0 [.ref o, .int (nI lw), .int has, .int easy] (mw o ad G.2.1 M) (pL (f_comes (M.2.1 1) (M.2.1 2) (M.1 24) (M.1 25) lw has easy) (mw o ad G.2.1 M)) := by
  refine Con.mk (own := RX11) (by decide) rfl (Nat.le_of_ble_eq_true rfl) (fun X C => ?_)
  refine j_iload_n 1 C dX11_comesTo_0 rfl rfl ?_
  refine j_aload_n 2 C dX11_comesTo_1 rfl rfl ?_
  refine rg_constantLaw 5 C dX11_comesTo_2 rfl ?_
  refine j_icmp_ne 14 8 C dX11_comesTo_5 (by decide) rfl (fun c5 => ?_) (fun c5 => ?_)
  · obtain ⟨b, nn, hb, hn, hbn⟩ := hL lw hlw
    refine j_aload_n 15 C dX11_comesTo_14 rfl rfl ?_
    refine rg_world 18 C dX11_comesTo_15 rfl ?_
    refine j_sipush 21 C dX11_comesTo_18 rfl (v := nI 202) (by decide) ?_
    refine j_iconst 22 C dX11_comesTo_21 rfl (v := nI 2) (by decide) ?_
    refine j_iload_n 23 C dX11_comesTo_22 rfl rfl ?_
    refine j_imulN 24 C dX11_comesTo_23 rfl ?_
    refine j_iaddN 25 C dX11_comesTo_24 rfl ?_
    refine ra_world 26 C dX11_comesTo_25 rfl _ (by omega) rfl ?_
    rw [hb]
    refine j_istore 28 C dX11_comesTo_26 rfl rfl (by decide) ?_
    refine j_iload 30 C dX11_comesTo_28 rfl rfl ?_
    refine j_aload_n 31 C dX11_comesTo_30 rfl rfl ?_
    refine rg_world 34 C dX11_comesTo_31 rfl ?_
    refine j_sipush 37 C dX11_comesTo_34 rfl (v := nI 202) (by decide) ?_
    refine j_iconst 38 C dX11_comesTo_37 rfl (v := nI 2) (by decide) ?_
    refine j_iload_n 39 C dX11_comesTo_38 rfl rfl ?_
    refine j_imulN 40 C dX11_comesTo_39 rfl ?_
    refine j_iaddN 41 C dX11_comesTo_40 rfl ?_
    refine j_iconst 42 C dX11_comesTo_41 rfl (v := nI 1) (by decide) ?_
    refine j_iaddN 43 C dX11_comesTo_42 rfl ?_
    refine ra_world 44 C dX11_comesTo_43 rfl _ (by omega) rfl ?_
    rw [hn]
    refine j_iaddN 45 C dX11_comesTo_44 rfl ?_
    refine j_istore 47 C dX11_comesTo_45 rfl rfl (by decide) ?_
    refine j_lconst 48 C dX11_comesTo_47 rfl (v := lN 0) (by decide) ?_
    refine j_lstore 50 C dX11_comesTo_48 rfl rfl rfl (by decide) ?_
    obtain ⟨e, he⟩ : ∃ e, e = b + nn := ⟨_, rfl⟩
    rw [← he]
    refine j_weak [(0, .ref o), (1, .int (nI lw)), (2, .int has), (3, .int easy), (4, .int (nI b)), (5, .int (nI e)), (6, .long (lN 0))] ⟨rfl, rfl, rfl, rfl, rfl, rfl, rfl, trivial⟩ ?_
    obtain ⟨R, hR⟩ : ∃ R, R = f_comes (M.2.1 1) (M.2.1 2) (M.1 24) (M.1 25) lw has easy := ⟨_, rfl⟩
    rw [← hR] at C
    have hR2 : f_sum (M.2.1 1) (M.2.1 2) has easy e nn b (lN 0) = R := by rw [hR, f_comes, if_neg c5, hb, hn, tn_nI (by omega), tn_nI (by omega), ← he]
    clear hR
    have lp : ∀ (m k : Nat) (s : Int64) (f : Nat), e - k = m → k ≤ e → e - k ≤ f → f_sum (M.2.1 1) (M.2.1 2) has easy e f k s = R → J X 14 0 0 (mw o ad G.2.1 M) 50 [(0, .ref o), (1, .int (nI lw)), (2, .int has), (3, .int easy), (4, .int (nI k)), (5, .int (nI e)), (6, .long s)] [] := by
      intro m
      induction m using Nat.strongRecOn with
      | ind m ih =>
      intro k s f hm hk hf hR
      refine j_iload 52 C dX11_comesTo_50 rfl rfl ?_
      refine j_iload 54 C dX11_comesTo_52 rfl rfl ?_
      refine j_icmp_geN 247 57 C dX11_comesTo_54 (by decide) rfl (by omega) (by omega) (fun c54 => ?_) (fun c54 => ?_)
      · refine j_lload 249 C dX11_comesTo_247 rfl rfl ?_
        exact j_lret C dX11_comesTo_249 ⟨by rw [← hR]; cases f with | zero => rfl | succ f => rw [f_sum, if_pos c54], rfl⟩
      · obtain ⟨f, rfl⟩ : ∃ f0, f = f0 + 1 := ⟨f - 1, by omega⟩
        rw [f_sum, if_neg (by omega)] at hR
        refine j_aload_n 58 C dX11_comesTo_57 rfl rfl ?_
        refine rg_world 61 C dX11_comesTo_58 rfl ?_
        refine j_sipush 64 C dX11_comesTo_61 rfl (v := nI 220) (by decide) ?_
        refine j_iconst 65 C dX11_comesTo_64 rfl (v := nI 3) (by decide) ?_
        refine j_iload 67 C dX11_comesTo_65 rfl rfl ?_
        refine j_imulN 68 C dX11_comesTo_67 rfl ?_
        refine j_iaddN 69 C dX11_comesTo_68 rfl ?_
        refine ra_world 70 C dX11_comesTo_69 rfl _ (by omega) rfl ?_
        refine j_iconst 71 C dX11_comesTo_70 rfl (v := nI 2) (by decide) ?_
        refine j_bool_icmp_ne 79 C dX11_comesTo_71 rfl dX11_comesTo_74 dX11_comesTo_75 dX11_comesTo_78 rfl ?_
        refine j_istore 81 C dX11_comesTo_79 rfl rfl (by decide) ?_
        refine j_aload_n 82 C dX11_comesTo_81 rfl rfl ?_
        refine j_iload 84 C dX11_comesTo_82 rfl rfl ?_
        refine j_iload_n 85 C dX11_comesTo_84 rfl rfl ?_
        refine j_iload_n 86 C dX11_comesTo_85 rfl rfl ?_
        refine j_mL 89 C dX11_comesTo_86 rfl cw11_243 rfl (c_partOf _ _ _ (by omega)) rfl (by decide) rfl (Nat.le_of_ble_eq_true rfl) ?_
        refine j_lstore 91 C dX11_comesTo_89 rfl rfl rfl (by decide) ?_
        refine j_iincN 94 (z := 1) C dX11_comesTo_91 rfl rfl rfl (by decide) ?_
        refine j_weak [(0, .ref o), (1, .int (nI lw)), (2, .int has), (3, .int easy), (4, .int (nI (k + 1))), (5, .int (nI e)), (6, .long s), (8, .int (bI (M.2.1 1 (220 + 3 * k) = nI 2))), (9, .long (f_part (M.2.1 1) (M.2.1 2) k has easy))] ⟨rfl, rfl, rfl, rfl, rfl, rfl, rfl, rfl, rfl, trivial⟩ ?_
        generalize f_part (M.2.1 1) (M.2.1 2) k has easy = t0 at hR ⊢
        have lq : ∀ (m2 k2 : Nat) (t : Int64), e - k2 = m2 → k < k2 → k2 ≤ e → (match f_term (M.2.1 1) (M.2.1 2) has easy (e - k2) k2 t with | none => lN 0 | some (t, k') => if -1000000000 ≤ (if M.2.1 1 (220 + 3 * k) = nI 2 then s - t else s + t) ∧ (if M.2.1 1 (220 + 3 * k) = nI 2 then s - t else s + t) ≤ 1000000000 then f_sum (M.2.1 1) (M.2.1 2) has easy e f k' (if M.2.1 1 (220 + 3 * k) = nI 2 then s - t else s + t) else lN 0) = R → J X 14 0 0 (mw o ad G.2.1 M) 94 [(0, .ref o), (1, .int (nI lw)), (2, .int has), (3, .int easy), (4, .int (nI k2)), (5, .int (nI e)), (6, .long s), (8, .int (bI (M.2.1 1 (220 + 3 * k) = nI 2))), (9, .long t)] [] := by
          intro m2
          induction m2 using Nat.strongRecOn with
          | ind m2 ih2 =>
          intro k2 t hm2 hk2 hke hR2
          refine j_iload 96 C dX11_comesTo_94 rfl rfl ?_
          refine j_iload 98 C dX11_comesTo_96 rfl rfl ?_
          refine j_icmp_geN 208 101 C dX11_comesTo_98 (by decide) rfl (by omega) (by omega) (fun c98 => ?_) (fun c98 => ?_)
          · have hR3 : f_term (M.2.1 1) (M.2.1 2) has easy (e - k2) k2 t = some (t, k2) := by rw [show e - k2 = 0 by omega]; rfl
            rw [hR3] at hR2
            dsimp only at hR2
            refine j_iload 210 C dX11_comesTo_208 rfl rfl ?_
            refine j_if_eqB 221 213 C dX11_comesTo_210 (by decide) rfl (fun c210 => ?_) (fun c210 => ?_)
            · rw [if_neg c210] at hR2
              refine j_lload 223 C dX11_comesTo_221 rfl rfl ?_
              refine j_lload 225 C dX11_comesTo_223 rfl rfl ?_
              refine j_ladd 226 C dX11_comesTo_225 rfl ?_
              refine j_lstore 228 C dX11_comesTo_226 rfl rfl rfl (by decide) ?_
              refine j_lload 230 C dX11_comesTo_228 rfl rfl ?_
              refine j_ldc2 233 C dX11_comesTo_230 rfl (v := (-1000000000)) kc11_247 ?_
              refine j_ldc2 236 C dX11_comesTo_233 rfl (v := (1000000000)) kc11_249 ?_
              refine j_sI 239 C dX11_comesTo_236 rfl cw11_88 (c_in _ _ _) rfl (by decide) ⟨Nat.le_refl _, Nat.le_refl _⟩ rfl (Nat.le_of_ble_eq_true rfl) ?_
              refine j_if_neB 244 242 C dX11_comesTo_239 (by decide) rfl (fun c239 => ?_) (fun c239 => ?_)
              · rw [if_pos c239] at hR2
                refine j_goto 50 C dX11_comesTo_244 (by decide) ?_
                exact j_weak _ (by exact ⟨rfl, rfl, rfl, rfl, rfl, rfl, rfl, trivial⟩) (ih _ (by omega) k2 _ f rfl (by omega) (by omega) hR2)
              · rw [if_neg c239] at hR2
                refine j_lconst 243 C dX11_comesTo_242 rfl (v := lN 0) (by decide) ?_
                exact j_lret C dX11_comesTo_243 ⟨by rw [← hR2], rfl⟩
            · rw [if_pos c210] at hR2
              refine j_lload 215 C dX11_comesTo_213 rfl rfl ?_
              refine j_lload 217 C dX11_comesTo_215 rfl rfl ?_
              refine j_lsub 218 C dX11_comesTo_217 rfl ?_
              refine j_goto 226 C dX11_comesTo_218 (by decide) ?_
              refine j_lstore 228 C dX11_comesTo_226 rfl rfl rfl (by decide) ?_
              refine j_lload 230 C dX11_comesTo_228 rfl rfl ?_
              refine j_ldc2 233 C dX11_comesTo_230 rfl (v := (-1000000000)) kc11_247 ?_
              refine j_ldc2 236 C dX11_comesTo_233 rfl (v := (1000000000)) kc11_249 ?_
              refine j_sI 239 C dX11_comesTo_236 rfl cw11_88 (c_in _ _ _) rfl (by decide) ⟨Nat.le_refl _, Nat.le_refl _⟩ rfl (Nat.le_of_ble_eq_true rfl) ?_
              refine j_if_neB 244 242 C dX11_comesTo_239 (by decide) rfl (fun c239 => ?_) (fun c239 => ?_)
              · rw [if_pos c239] at hR2
                refine j_goto 50 C dX11_comesTo_244 (by decide) ?_
                exact j_weak _ (by exact ⟨rfl, rfl, rfl, rfl, rfl, rfl, rfl, trivial⟩) (ih _ (by omega) k2 _ f rfl (by omega) (by omega) hR2)
              · rw [if_neg c239] at hR2
                refine j_lconst 243 C dX11_comesTo_242 rfl (v := lN 0) (by decide) ?_
                exact j_lret C dX11_comesTo_243 ⟨by rw [← hR2], rfl⟩
          · refine j_aload_n 102 C dX11_comesTo_101 rfl rfl ?_
            refine rg_world 105 C dX11_comesTo_102 rfl ?_
            refine j_sipush 108 C dX11_comesTo_105 rfl (v := nI 220) (by decide) ?_
            refine j_iconst 109 C dX11_comesTo_108 rfl (v := nI 3) (by decide) ?_
            refine j_iload 111 C dX11_comesTo_109 rfl rfl ?_
            refine j_imulN 112 C dX11_comesTo_111 rfl ?_
            refine j_iaddN 113 C dX11_comesTo_112 rfl ?_
            refine ra_world 114 C dX11_comesTo_113 rfl _ (by omega) rfl ?_
            refine j_iconst 115 C dX11_comesTo_114 rfl (v := nI 3) (by decide) ?_
            refine j_icmp_lt 208 118 C dX11_comesTo_115 (by decide) rfl (fun c115 => ?_) (fun c115 => ?_)
            · have hR3 : f_term (M.2.1 1) (M.2.1 2) has easy (e - k2) k2 t = some (t, k2) := by
                obtain ⟨z, hz⟩ : ∃ z, e - k2 = z + 1 := ⟨e - k2 - 1, by omega⟩
                rw [hz, f_term, if_pos c115]
              rw [hR3] at hR2
              dsimp only at hR2
              refine j_iload 210 C dX11_comesTo_208 rfl rfl ?_
              refine j_if_eqB 221 213 C dX11_comesTo_210 (by decide) rfl (fun c210 => ?_) (fun c210 => ?_)
              · rw [if_neg c210] at hR2
                refine j_lload 223 C dX11_comesTo_221 rfl rfl ?_
                refine j_lload 225 C dX11_comesTo_223 rfl rfl ?_
                refine j_ladd 226 C dX11_comesTo_225 rfl ?_
                refine j_lstore 228 C dX11_comesTo_226 rfl rfl rfl (by decide) ?_
                refine j_lload 230 C dX11_comesTo_228 rfl rfl ?_
                refine j_ldc2 233 C dX11_comesTo_230 rfl (v := (-1000000000)) kc11_247 ?_
                refine j_ldc2 236 C dX11_comesTo_233 rfl (v := (1000000000)) kc11_249 ?_
                refine j_sI 239 C dX11_comesTo_236 rfl cw11_88 (c_in _ _ _) rfl (by decide) ⟨Nat.le_refl _, Nat.le_refl _⟩ rfl (Nat.le_of_ble_eq_true rfl) ?_
                refine j_if_neB 244 242 C dX11_comesTo_239 (by decide) rfl (fun c239 => ?_) (fun c239 => ?_)
                · rw [if_pos c239] at hR2
                  refine j_goto 50 C dX11_comesTo_244 (by decide) ?_
                  exact j_weak _ (by exact ⟨rfl, rfl, rfl, rfl, rfl, rfl, rfl, trivial⟩) (ih _ (by omega) k2 _ f rfl (by omega) (by omega) hR2)
                · rw [if_neg c239] at hR2
                  refine j_lconst 243 C dX11_comesTo_242 rfl (v := lN 0) (by decide) ?_
                  exact j_lret C dX11_comesTo_243 ⟨by rw [← hR2], rfl⟩
              · rw [if_pos c210] at hR2
                refine j_lload 215 C dX11_comesTo_213 rfl rfl ?_
                refine j_lload 217 C dX11_comesTo_215 rfl rfl ?_
                refine j_lsub 218 C dX11_comesTo_217 rfl ?_
                refine j_goto 226 C dX11_comesTo_218 (by decide) ?_
                refine j_lstore 228 C dX11_comesTo_226 rfl rfl rfl (by decide) ?_
                refine j_lload 230 C dX11_comesTo_228 rfl rfl ?_
                refine j_ldc2 233 C dX11_comesTo_230 rfl (v := (-1000000000)) kc11_247 ?_
                refine j_ldc2 236 C dX11_comesTo_233 rfl (v := (1000000000)) kc11_249 ?_
                refine j_sI 239 C dX11_comesTo_236 rfl cw11_88 (c_in _ _ _) rfl (by decide) ⟨Nat.le_refl _, Nat.le_refl _⟩ rfl (Nat.le_of_ble_eq_true rfl) ?_
                refine j_if_neB 244 242 C dX11_comesTo_239 (by decide) rfl (fun c239 => ?_) (fun c239 => ?_)
                · rw [if_pos c239] at hR2
                  refine j_goto 50 C dX11_comesTo_244 (by decide) ?_
                  exact j_weak _ (by exact ⟨rfl, rfl, rfl, rfl, rfl, rfl, rfl, trivial⟩) (ih _ (by omega) k2 _ f rfl (by omega) (by omega) hR2)
                · rw [if_neg c239] at hR2
                  refine j_lconst 243 C dX11_comesTo_242 rfl (v := lN 0) (by decide) ?_
                  exact j_lret C dX11_comesTo_243 ⟨by rw [← hR2], rfl⟩
            · obtain ⟨z, hz⟩ : ∃ z, e - k2 = z + 1 := ⟨e - k2 - 1, by omega⟩
              rw [hz, f_term, if_neg c115] at hR2
              refine j_aload_n 119 C dX11_comesTo_118 rfl rfl ?_
              refine j_iload 121 C dX11_comesTo_119 rfl rfl ?_
              refine j_iload_n 122 C dX11_comesTo_121 rfl rfl ?_
              refine j_iload_n 123 C dX11_comesTo_122 rfl rfl ?_
              refine j_mL 126 C dX11_comesTo_123 rfl cw11_243 rfl (c_partOf _ _ _ (by omega)) rfl (by decide) rfl (Nat.le_of_ble_eq_true rfl) ?_
              refine j_lstore 128 C dX11_comesTo_126 rfl rfl rfl (by decide) ?_
              refine j_aload_n 129 C dX11_comesTo_128 rfl rfl ?_
              refine rg_world 132 C dX11_comesTo_129 rfl ?_
              refine j_sipush 135 C dX11_comesTo_132 rfl (v := nI 220) (by decide) ?_
              refine j_iconst 136 C dX11_comesTo_135 rfl (v := nI 3) (by decide) ?_
              refine j_iload 138 C dX11_comesTo_136 rfl rfl ?_
              refine j_imulN 139 C dX11_comesTo_138 rfl ?_
              refine j_iaddN 140 C dX11_comesTo_139 rfl ?_
              refine ra_world 141 C dX11_comesTo_140 rfl _ (by omega) rfl ?_
              refine j_iconst 142 C dX11_comesTo_141 rfl (v := nI 3) (by decide) ?_
              refine j_bool_icmp_ne 150 C dX11_comesTo_142 rfl dX11_comesTo_145 dX11_comesTo_146 dX11_comesTo_149 rfl ?_
              refine j_istore 152 C dX11_comesTo_150 rfl rfl (by decide) ?_
              refine j_iload 154 C dX11_comesTo_152 rfl rfl ?_
              refine j_if_neB 166 157 C dX11_comesTo_154 (by decide) rfl (fun c154 => ?_) (fun c154 => ?_)
              · refine j_iload 168 C dX11_comesTo_166 rfl rfl ?_
                refine j_if_eqB 179 171 C dX11_comesTo_168 (by decide) rfl (fun c168 => absurd c154 c168) (fun c168 => ?_)
                refine j_lload 173 C dX11_comesTo_171 rfl rfl ?_
                refine j_lload 175 C dX11_comesTo_173 rfl rfl ?_
                refine j_lmul 176 C dX11_comesTo_175 rfl ?_
                refine j_goto 184 C dX11_comesTo_176 (by decide) ?_
                rw [if_neg (fun h => h.1 c154)] at hR2
                simp only [if_pos c154] at hR2
                refine j_lstore 186 C dX11_comesTo_184 rfl rfl rfl (by decide) ?_
                refine j_lload 188 C dX11_comesTo_186 rfl rfl ?_
                refine j_ldc2 191 C dX11_comesTo_188 rfl (v := (-1000000000)) kc11_247 ?_
                refine j_ldc2 194 C dX11_comesTo_191 rfl (v := (1000000000)) kc11_249 ?_
                refine j_sI 197 C dX11_comesTo_194 rfl cw11_88 (c_in _ _ _) rfl (by decide) ⟨Nat.le_refl _, Nat.le_refl _⟩ rfl (Nat.le_of_ble_eq_true rfl) ?_
                refine j_if_neB 202 200 C dX11_comesTo_197 (by decide) rfl (fun c197 => ?_) (fun c197 => ?_)
                · rw [if_pos c197] at hR2
                  refine j_iincN 205 (z := 1) C dX11_comesTo_202 rfl rfl rfl (by decide) ?_
                  refine j_goto 94 C dX11_comesTo_205 (by decide) ?_
                  exact j_weak _ (by exact ⟨rfl, rfl, rfl, rfl, rfl, rfl, rfl, rfl, rfl, trivial⟩) (ih2 _ (by omega) (k2 + 1) _ rfl (by omega) (by omega) (by rw [show e - (k2 + 1) = z by omega]; exact hR2))
                · rw [if_neg c197] at hR2
                  refine j_lconst 201 C dX11_comesTo_200 rfl (v := lN 0) (by decide) ?_
                  exact j_lret C dX11_comesTo_201 ⟨by rw [← hR2], rfl⟩
              · refine j_lload 159 C dX11_comesTo_157 rfl rfl ?_
                refine j_lconst 160 C dX11_comesTo_159 rfl (v := lN 0) (by decide) ?_
                refine j_lcmp 161 C dX11_comesTo_160 rfl ?_
                refine j_if_neL 166 164 C dX11_comesTo_161 (by decide) rfl (fun c161 => ?_) (fun c161 => ?_)
                · refine j_iload 168 C dX11_comesTo_166 rfl rfl ?_
                  refine j_if_eqB 179 171 C dX11_comesTo_168 (by decide) rfl (fun c168 => ?_) (fun c168 => absurd c168 c154)
                  refine j_lload 181 C dX11_comesTo_179 rfl rfl ?_
                  refine j_lload 183 C dX11_comesTo_181 rfl rfl ?_
                  refine j_ldiv 184 C dX11_comesTo_183 rfl (c161) ?_
                  rw [if_neg (fun h => c161 h.2)] at hR2
                  simp only [if_neg c154] at hR2
                  refine j_lstore 186 C dX11_comesTo_184 rfl rfl rfl (by decide) ?_
                  refine j_lload 188 C dX11_comesTo_186 rfl rfl ?_
                  refine j_ldc2 191 C dX11_comesTo_188 rfl (v := (-1000000000)) kc11_247 ?_
                  refine j_ldc2 194 C dX11_comesTo_191 rfl (v := (1000000000)) kc11_249 ?_
                  refine j_sI 197 C dX11_comesTo_194 rfl cw11_88 (c_in _ _ _) rfl (by decide) ⟨Nat.le_refl _, Nat.le_refl _⟩ rfl (Nat.le_of_ble_eq_true rfl) ?_
                  refine j_if_neB 202 200 C dX11_comesTo_197 (by decide) rfl (fun c197 => ?_) (fun c197 => ?_)
                  · rw [if_pos c197] at hR2
                    refine j_iincN 205 (z := 1) C dX11_comesTo_202 rfl rfl rfl (by decide) ?_
                    refine j_goto 94 C dX11_comesTo_205 (by decide) ?_
                    exact j_weak _ (by exact ⟨rfl, rfl, rfl, rfl, rfl, rfl, rfl, rfl, rfl, trivial⟩) (ih2 _ (by omega) (k2 + 1) _ rfl (by omega) (by omega) (by rw [show e - (k2 + 1) = z by omega]; exact hR2))
                  · rw [if_neg c197] at hR2
                    refine j_lconst 201 C dX11_comesTo_200 rfl (v := lN 0) (by decide) ?_
                    exact j_lret C dX11_comesTo_201 ⟨by rw [← hR2], rfl⟩
                · refine j_lconst 165 C dX11_comesTo_164 rfl (v := lN 0) (by decide) ?_
                  exact j_lret C dX11_comesTo_165 ⟨by rw [if_pos ⟨c154, c161⟩] at hR2; rw [← hR2], rfl⟩
        exact lq _ (k + 1) t0 rfl (by omega) (by omega) hR
    exact lp _ b (lN 0) nn rfl (by omega) (by omega) hR2
  · refine j_aload_n 9 C dX11_comesTo_8 rfl rfl ?_
    refine rg_constant 12 C dX11_comesTo_9 rfl ?_
    refine j_i2l 13 C dX11_comesTo_12 rfl ?_
    exact j_lret C dX11_comesTo_13 ⟨by rw [f_comes, if_pos c5], rfl⟩
end S2
