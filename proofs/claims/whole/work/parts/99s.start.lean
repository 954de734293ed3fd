def lw_P (b : Addr) (xs : List Int32) (args : Array Value) (s : State) : Prop := args = #[.ref b] ∧ s.IntsAt b xs ∧ xs.length ≤ 3072 ∧ (Jvm.Cond.and given_1 narrow_1).before args s = true
def lw_Q (_ : Array Value) (s : State) (o : Outcome) (t : State) : Prop := o = .returned (some (.int 1)) ∧ Framed s o t [] 67778 8898916
def lw_Z (below : List Frame) (a : Array Value) (s : State) : State → Prop := fun t => ∃ o, t.status = .running ∧ Ended t below o ∧ lw_Q a s o t
/-- the law's own end, with 1 on the stack, nothing written that was there before, its room as the claim has it -/
theorem lw_ret {p : Program} {l : Launch} {e : Env} {s : State} {m : MethodId} {below : List Frame} {meth : Method} {c : Code} {b : Nat} (hx : p.tables.exec = Jvm.exec) (hb : c.code = code) (hr : meth.sig.returnType = ret) (hlocks : meth.locks = false) {pc : Nat} {H : Heap} {ls : Array Slot} (hdg : decode code pc = .ok (.ireturn, 1)) : W p l e room_1 s m #[Value.ref b] below meth c H [] 67778 8898916 (lw_Z below #[Value.ref b] s) (F0 m pc ls [.int 1]) := by
  intro T hT X
  obtain ⟨fs, hret, hrun, hended, hW, hframe⟩ := X.leave (v := some (.int 1)) (hlocks := hlocks) (fun h => by rw [hr] at h; cases h)
  have hmeth' : T.vm.method? m = some meth := X.method'
  refine ⟨T.setFrames fs, ?_, .returned (some (.int 1)), hrun, hended, rfl, ⟨_, rfl⟩, hW, hframe⟩
  jvm_step X.here [X.here.top, hx, hb, hdg, hmeth', hr, ret, narrow_b1]
  (try refine ⟨rfl, ?_⟩); (try refine ⟨rfl, ?_⟩)
  first | (intro acts; rw [hret _ acts rfl rfl rfl]) | rw [hret _ _ rfl rfl rfl]
  exact Steps.refl _
/-- what holds at the law's entry: the machine, the code, the tables' words (any of lw_tbl by 'hts w (by decide +kernel)'), the script of L ints xs at the cell b, what the Statement gives of the start (any of its parts by flat_of_before) -/
def lw_At (p : Program) (s : State) (m : MethodId) (meth : Method) (c : Code) (b L : Nat) (xs : Nat → Int32) : Prop :=
  p.tables.exec = Jvm.exec ∧ c.code = code ∧ meth.sig.returnType = ret ∧ c.maxLocals = 4 ∧ s.vm.findClass R_law = some m.cls ∧ (∀ w ∈ lw_tbl, w.before #[Value.ref b] s = true) ∧ va_X b L xs s s.heap ∧ b < s.heap.size ∧ meth.locks = false ∧ (Jvm.Cond.and given_1 narrow_1).before #[Value.ref b] s = true
def tmS (i : Nat) : Term := match strs[i]? with
  | some q => .string q.1 q.2.1
  | none => .string "" 0
def fvS (i : Nat) : Term := .field (tmS i) "java/lang/String" "value" "[B"
def wS (i : Nat) : List Cond := [.exactly (tmS i) "java/lang/String", .eq (.field (tmS i) "java/lang/String" "coder" "B") (.int 0), .arrayOf (fvS i) .byte, .eq (.length (fvS i)) (.int (Int32.ofNat (slen.getD i 0)))] ++ ((List.range (slen.getD i 0)).map (fun j => Cond.eq (.elem (fvS i) (.int (Int32.ofNat j))) (.int ((sbyt.getD i []).getD j 0))) ++ (List.range i).map (fun j => Cond.not (.eq (tmS j) (tmS i))))
theorem wS_eq : (flatC (.and given_1 narrow_1)).drop 9 = (List.range 22).flatMap wS := by decide +kernel
theorem wS_mem {i : Nat} {w : Cond} (hi : i < 22) (h : w ∈ wS i) : w ∈ flatC (.and given_1 narrow_1) := by
  have h1 : w ∈ (List.range 22).flatMap wS := List.mem_flatMap.mpr ⟨i, List.mem_range.mpr hi, h⟩
  rw [← wS_eq] at h1
  exact List.mem_of_mem_drop h1
theorem ne_tbl : ∀ q ∈ nests, Cond.methodLinkNest q.1 q.2.1 q.2.2.1 q.2.2.2 ∈ lw_tbl := by decide +kernel
theorem st_tbl : ∀ q ∈ strs, Cond.stringRef q.1 q.2.1 q.2.2 ∈ lw_tbl := by decide +kernel
theorem ao_tbl : Cond.arrayOver (.object "NonsenseRows$State") ∈ lw_tbl ∧ Cond.arrayOver (.object "NonsenseRows$Slot") ∈ lw_tbl ∧ Cond.arrayOver (.object "NonsenseRows$Mind") ∈ lw_tbl := ⟨by decide +kernel, by decide +kernel, by decide +kernel⟩
theorem sc_tbl : Cond.laysStatic "java/lang/String" "COMPACT_STRINGS" "Z" ∈ lw_tbl ∧ Cond.initialized "java/lang/String" ∈ lw_tbl ∧ Cond.laysStatic "jdk/internal/util/Preconditions" "SIOOBE_FORMATTER" "Ljava/util/function/BiFunction;" ∈ lw_tbl ∧ Cond.initialized "jdk/internal/util/Preconditions" ∈ lw_tbl := ⟨by decide +kernel, by decide +kernel, by decide +kernel, by decide +kernel⟩
theorem sc_pre : Cond.eq (.static "java/lang/String" "COMPACT_STRINGS" "Z") (.int 1) ∈ flatC (.and given_1 narrow_1) ∧ Cond.isRef (.static "jdk/internal/util/Preconditions" "SIOOBE_FORMATTER" "Ljava/util/function/BiFunction;") ∈ flatC (.and given_1 narrow_1) := ⟨by decide +kernel, by decide +kernel⟩
theorem slen_ok : ∀ i : Nat, i < 22 → slen.getD i 0 < 2 ^ 31 := by decide +kernel
theorem tyL_of {s : State} {args : Array Value} {ty : FieldType} (h : (Cond.arrayClass ty).before args s = true) (hv : ∀ c, s.vm.findClass ("[" ++ ty.toString) = some c → va_RA s c ty) : ∃ c : ClassId, ArrOfT s c ty ∧ va_RA s c ty := by
  obtain ⟨c, k, comp, h1, h2, h3⟩ := Cond.arrayClass_spec h
  exact ⟨c, fun n z => ⟨fun k h => (by cases h), k, h2, comp, h3⟩, hv c h1⟩
theorem tyO_of {s : State} {args : Array Value} {n : String} (h : (Cond.arrayOver (.object n)).before args s = true) : ∃ c : ClassId, ArrOfT s c (.object n) ∧ va_RA s c (.object n) := by
  obtain ⟨comp, c, k, h1, -, h3, h4, h5⟩ := Cond.arrayOver_spec h
  exact ⟨c, fun n z => ⟨fun k h => (by cases h), k, h3, comp, h4⟩, k, comp, h3, h4, h1, h5⟩
/-- what the tables say of the classes and of the kinds of array -/
theorem st_K {args : Array Value} {s : State} (hts : ∀ w ∈ lw_tbl, w.before args s = true) : ∃ (D : va_G) (ty : Nat → ClassId), va_K D classes (tysOf ty) s := by
  have hg : ∀ w ∈ gtbl, w.before args s = true := fun w hw => hts w (List.mem_filter.mp hw).1
  have hC : ∀ k : Nat, ∃ q : ClassId × (Nat → Nat), ∀ z : vw_C, classes[k]? = some z → u_Kn s z.1 z.2.1 z.2.2 q.1 q.2 := by
    intro k
    match k with
    | 0 =>
      obtain ⟨c, i, h⟩ := u_known hg ingX0 (hg _ inst0)
      exact ⟨(c, i), fun z hz => by cases hz; exact h⟩
    | 1 =>
      obtain ⟨c, i, h⟩ := u_known hg ingX1 (hg _ inst1)
      exact ⟨(c, i), fun z hz => by cases hz; exact h⟩
    | 2 =>
      obtain ⟨c, i, h⟩ := u_known hg ingX2 (hg _ inst2)
      exact ⟨(c, i), fun z hz => by cases hz; exact h⟩
    | 3 =>
      obtain ⟨c, i, h⟩ := u_known hg ingX3 (hg _ inst3)
      exact ⟨(c, i), fun z hz => by cases hz; exact h⟩
    | 4 =>
      obtain ⟨c, i, h⟩ := u_known hg ingX4 (hg _ inst4)
      exact ⟨(c, i), fun z hz => by cases hz; exact h⟩
    | 5 =>
      obtain ⟨c, i, h⟩ := u_known hg ingX5 (hg _ inst5)
      exact ⟨(c, i), fun z hz => by cases hz; exact h⟩
    | 6 =>
      obtain ⟨c, i, h⟩ := u_known hg ingX6 (hg _ inst6)
      exact ⟨(c, i), fun z hz => by cases hz; exact h⟩
    | 7 =>
      obtain ⟨c, i, h⟩ := u_known hg ingX7 (hg _ inst7)
      exact ⟨(c, i), fun z hz => by cases hz; exact h⟩
    | 8 =>
      obtain ⟨c, i, h⟩ := u_known hg ingX8 (hg _ inst8)
      exact ⟨(c, i), fun z hz => by cases hz; exact h⟩
    | 9 =>
      obtain ⟨c, i, h⟩ := u_known hg ingX9 (hg _ inst9)
      exact ⟨(c, i), fun z hz => by cases hz; exact h⟩
    | 10 =>
      obtain ⟨c, i, h⟩ := u_known hg ingX10 (hg _ inst10)
      exact ⟨(c, i), fun z hz => by cases hz; exact h⟩
    | 11 =>
      obtain ⟨c, i, h⟩ := u_known hg ingX11 (hg _ inst11)
      exact ⟨(c, i), fun z hz => by cases hz; exact h⟩
    | k + 12 => exact ⟨(0, fun _ => 0), fun z hz => by simp [classes] at hz⟩
  obtain ⟨D, hD⟩ := Classical.axiomOfChoice hC
  obtain ⟨t0, u0⟩ := tyL_of (ty := .int) (hg _ arrI) (fun c h => h)
  obtain ⟨t1, u1⟩ := tyL_of (ty := .byte) (hg _ arrB) (fun c h => h)
  obtain ⟨t2, u2⟩ := tyL_of (ty := .boolean) (hg _ arrZ) (fun c h => h)
  obtain ⟨t3, u3⟩ := tyL_of (ty := .long) (hg _ arrL) (fun c h => h)
  obtain ⟨t4, u4⟩ := tyO_of (hts _ ao_tbl.2.2)
  obtain ⟨t5, u5⟩ := tyO_of (hts _ ao_tbl.2.1)
  obtain ⟨t6, u6⟩ := tyO_of (hts _ ao_tbl.1)
  refine ⟨(fun k => (D k).1, fun k => (D k).2), fun k => match k with | 0 => t0 | 1 => t1 | 2 => t2 | 3 => t3 | 4 => t4 | 5 => t5 | _ => t6, fun k q hq => hD k q hq, fun k q hq => ?_⟩
  match k, hq with
  | 0, hq => cases hq; exact u0
  | 1, hq => cases hq; exact u1
  | 2, hq => cases hq; exact u2
  | 3, hq => cases hq; exact u3
  | 4, hq => cases hq; exact u4
  | 5, hq => cases hq; exact u5
  | 6, hq => cases hq; exact u6
  | k + 7, hq => simp [tysOf] at hq
theorem st_S {args : Array Value} {s : State} {A : Nat → Prop} (hgv : (Jvm.Cond.and given_1 narrow_1).before args s = true) (hA : ∀ a : Nat, a < s.heap.size → ¬ A a) : ∃ adK adV : Nat → Nat, vk_S 22 slen sbyt adK adV A s s.heap ∧ ∀ i : Nat, i < 22 → (tmS i).eval args s none [] s = some (.ref (adK i)) := by
  have hf : ∀ (i : Nat) (w : Cond), i < 22 → w ∈ wS i → w.before args s = true := fun i w hi hw => flat_of_before _ hgv w (wS_mem hi hw)
  refine vk_Sof slen_ok (fun i hi => hf i _ hi ?_) (fun i hi => hf i _ hi ?_) (fun i hi => hf i _ hi ?_) (fun i hi => hf i _ hi ?_) (fun i hi j hj => hf i _ hi ?_) (fun i j hi hj hij => ?_) hA
  · exact List.mem_append_left _ (List.mem_of_getElem? (i := 0) rfl)
  · exact List.mem_append_left _ (List.mem_of_getElem? (i := 1) rfl)
  · exact List.mem_append_left _ (List.mem_of_getElem? (i := 2) rfl)
  · exact List.mem_append_left _ (List.mem_of_getElem? (i := 3) rfl)
  · exact List.mem_append_right _ (List.mem_append_left _ (List.mem_map.mpr ⟨j, List.mem_range.mpr hj, rfl⟩))
  · rcases Nat.lt_or_ge i j with h | h
    · exact Or.inl (hf j _ hj (List.mem_append_right _ (List.mem_append_right _ (List.mem_map.mpr ⟨i, List.mem_range.mpr h, rfl⟩))))
    · exact Or.inr (hf i _ hi (List.mem_append_right _ (List.mem_append_right _ (List.mem_map.mpr ⟨j, List.mem_range.mpr (by omega), rfl⟩))))
/-- what the start says beside the words -/
theorem st_E {args : Array Value} {s : State} {D : va_G} {ty : Nat → ClassId} (hts : ∀ w ∈ lw_tbl, w.before args s = true) (hgv : (Jvm.Cond.and given_1 narrow_1).before args s = true) : ∃ adK adV : Nat → Nat, EV (D, ty, adK, adV) (fun q => s.heap.size ≤ q) s := by
  have hA : ∀ a : Nat, a < s.heap.size → ¬ s.heap.size ≤ a := fun a h => Nat.not_le.mpr h
  obtain ⟨adK, adV, hS, hE⟩ := st_S (A := fun q => s.heap.size ≤ q) hgv hA
  refine ⟨adK, adV, fun q hq => va_Nw.of rfl (hts _ (ne_tbl q hq)), ⟨va_AO.of (hts _ ao_tbl.1), va_AO.of (hts _ ao_tbl.2.1), va_AO.of (hts _ ao_tbl.2.2)⟩, fun i q hq => ?_, hS, va_Zof (hts _ sc_tbl.1) (hts _ sc_tbl.2.1) (va_eqi (flat_of_before _ hgv _ sc_pre.1)) hA, va_Zqof (hts _ sc_tbl.2.2.1) (hts _ sc_tbl.2.2.2) (flat_of_before _ hgv _ sc_pre.2) hA⟩
  have hi : i < 22 := (List.getElem?_eq_some_iff.mp hq).1
  have h := hE i hi
  rw [show tmS i = .string q.1 q.2.1 by unfold tmS; rw [hq]] at h
  exact vk_R.of (hts _ (st_tbl q (List.mem_of_getElem? hq))) h
theorem hasRoom_le {s : State} {pl : Platform} {R R' : Room} (h1 : R'.frames ≤ R.frames) (h2 : R'.cells ≤ R.cells) (h3 : R'.slots ≤ R.slots) (h4 : R'.locals ≤ R.locals) (h : s.hasRoom pl R = true) : s.hasRoom pl R' = true := by
  simp only [State.hasRoom, Bool.and_eq_true, decide_eq_true_eq] at h ⊢
  obtain ⟨⟨⟨⟨a1, a2, a3, a4, a5, a6⟩, a7⟩, a8⟩, a9⟩ := h
  exact ⟨⟨⟨⟨by omega, by omega, by omega, by omega, by omega, a6⟩, by omega⟩, by omega⟩, a9⟩
theorem W_room {p : Program} {l : Launch} {e : Env} {R R' : Room} {s : State} {m : MethodId} {args : Array Value} {below : List Frame} {meth : Method} {c : Code} {H : Heap} {locs : List Loc} {cells slots : Nat} {Q Q' : State → Prop} {g : JFrame} (h1 : R'.frames ≤ R.frames) (h2 : R'.cells ≤ R.cells) (h3 : R'.slots ≤ R.slots) (h4 : R'.locals ≤ R.locals) (hQ : ∀ t, Q' t → Q t) (k : W p l e R' s m args below meth c H locs cells slots Q' g) : W p l e R s m args below meth c H locs cells slots Q g := by
  intro T hT X
  obtain ⟨t, a, b⟩ := k T hT ⟨X.admits, X.cas, X.clock, X.frames, hasRoom_le h1 h2 h3 h4 X.room, X.hears, X.method, X.code, X.here, X.tail, X.warmed, X.limits, X.bytes, X.same⟩
  exact ⟨t, a, hQ t b⟩
-- ===== YOUR PART BEGINS =====
/-- the law, from its entry -/
theorem whole_start {p : Program} {e : Env} {s : State} {m : MethodId} {below : List Frame} {meth : Method} {c : Code} (l : Launch) {b L : Nat} {xs : Nat → Int32} (hL : L ≤ 3072) (C0 : lw_At p s m meth c b L xs) : W p l e room_1 s m #[Value.ref b] below meth c s.heap [] 0 0 (lw_Z below #[Value.ref b] s) (entryFrame m ([Value.ref b] : List Value).toArray 4) := by
  obtain ⟨hx, hb, hr, hml, hown, hts, hX, hbl, hlocks, hgv⟩ := id C0
  obtain ⟨D, ty, hK⟩ := st_K hts
  obtain ⟨adK, adV, hE⟩ := st_E (D := D) (ty := ty) hts hgv
  have hl := lv_entry ([.ref b]) (n := 4) (Nat.le_of_ble_eq_true rfl)
  rw [lg_entry_eq]
  generalize (lg_sl ([.ref b]) ++ List.replicate (4 - (lg_sl ([.ref b])).length) Slot.unset).toArray = ls at hl ⊢
  have hl : lv_has ls 4 [(0, .ref b)] := hl
  refine W_room (R' := rmD 1400 67778 8898916) (Q' := MQ below (QQ (D, ty, adK, adV) (fun v _ => v = some (.int 1)) (fun q => s.heap.size ≤ q)) #[Value.ref b] s 67778 8898916 (fun q => s.heap.size ≤ q)) (Nat.le_of_ble_eq_true rfl) (Nat.le_refl _) (Nat.le_refl _) (Nat.le_refl _) (fun t h => ?_) ?_
  · obtain ⟨o, g1, g2, ⟨⟨v, w, rfl, rfl, -, -⟩, -⟩, L', hF, hL'⟩ := h
    exact ⟨_, g1, g2, rfl, hF.1, hF.2.1, State.sameButNew.drop_fresh (L := []) (J := L') hF.2.2 hL'⟩
  · have C : Cx (p, l, e, rmD 1400 67778 8898916, s, m, #[Value.ref b], below, meth, c, (fun q => s.heap.size ≤ q), (D, ty, adK, adV), MQ below (QQ (D, ty, adK, adV) (fun v _ => v = some (.int 1)) (fun q => s.heap.size ≤ q)) #[Value.ref b] s 67778 8898916 (fun q => s.heap.size ≤ q)) l (D, ty, adK, adV) code 4 R_law (some .boolean) 1400 67778 8898916 (fun v _ => v = some (.int 1)) :=
      ⟨hx, hb, hml, hown, fun w hw => hts w (List.mem_filter.mp hw).1, hK, fun _ h => h, hlocks, hr, rfl, rfl, rfl, rfl, hE⟩
    exact lw_first C ⟨hX, hbl, Nat.not_le.mpr hbl⟩ hL s.heap [] ls (fun k q h => by simp at h) ⟨fun i j p q h => by simp at h, fun k q h => by simp at h⟩ va_S.rf (jl_of hl)
-- ===== YOUR PART ENDS =====
set_option maxHeartbeats 4000000 in
theorem lw_walk (l : Launch) (b : Addr) (xs : List Int32) : MetFree l x (headSpec (Jvm.Cond.code x code maxLocals ret :: tables_1) room_1) (lw_P b xs) (fun _ _ _ _ _ => True) lw_Q := by
  refine MetFree.of_bodyS (code := code) (maxLocals := maxLocals) (ret := ret) (by decide) ?_ ?_
  · intro args s m h hn
    obtain ⟨meth, c, h1, h2, h3, h4, h5, h6, -, -⟩ := Cond.code_spec hn (atoms_spec (ws := Jvm.Cond.code x code maxLocals ret :: tables_1) h _ List.mem_cons_self)
    exact ⟨meth, c, h1, h2, h3, h4, h5, h6⟩
  · intro p e s m args below meth c s₁ B hml0 hP _
    obtain ⟨rfl, hx, hbd, hgv⟩ := hP
    obtain ⟨scr, harrAt, hlist, hof, hsmall⟩ := hx
    obtain ⟨hcb, hkn, -, -⟩ := State.arrayAt?_spec harrAt
    have hown : s.vm.findClass R_law = some m.cls := findClass_of_methodNamed B.named
    have hts0 : ∀ c ∈ (Jvm.Cond.code x code maxLocals ret :: tables_1), c.before #[Value.ref b] s = true := atoms_spec (ws := Jvm.Cond.code x code maxLocals ret :: tables_1) B.pre
    have hts : ∀ w ∈ lw_tbl, w.before #[Value.ref b] s = true := k2_hts_sels lw_privs (fun w hw => hts0 w (List.mem_cons_of_mem _ hw)) lw_privs_ok
    have hml : c.maxLocals = 4 := B.maxLocals_eq (hts0 _ List.mem_cons_self)
    have X₀ : Stand p l e room_1 s m #[Value.ref b] below meth c s₁ [] 0 0 := Stand.of_body B
    have hh0 : s₁.heap = s.heap := by rw [B.state]; rfl
    have hsz : scr.slots.size = xs.length := by rw [← Array.length_toList, hlist, List.length_map]
    have hval : ∀ j : Nat, j < xs.length → scr.slots[j]? = some (.int (xs.getD j 0)) := fun j hj => by
      rw [← Array.getElem?_toList, hlist]
      simp [hj]
    have hbl : b < s.heap.size := (Array.getElem?_eq_some_iff.mp hcb).1
    have hX : va_X b xs.length (fun j => xs.getD j 0) s s.heap := ⟨scr, hcb, hof, hkn, hsz, hval⟩
    have K : W p l e room_1 s m #[Value.ref b] below meth c s₁.heap [] 0 0 (lw_Z below #[Value.ref b] s) (entryFrame m ([Value.ref b] : List Value).toArray 4) := by
      rw [hh0]
      exact whole_start l hbd ⟨B.exec, B.bytes, B.returns, hml, hown, hts, hX, hbl, B.notSynchronized, hgv⟩
    obtain ⟨t, a1, o, b1, b2, b3⟩ := K s₁ rfl X₀
    exact ⟨t, o, a1, b1, b2, b3⟩
theorem lw_pre_spec {args : Array Value} {s : State} (h : (Jvm.Cond.and given_1 narrow_1).before args s = true) (hr : rest_1_c.before args s = true) : ∃ (b : Addr) (xs : List Int32), lw_P b xs args s := by
  have hs := flat_of_before _ h
  have hq := flat_of_before _ hr
  have hc : (Cond.count 1).before args s = true := hs _ (by decide +kernel)
  have harr : (Cond.arrayOf (.arg 0) .int).before args s = true := hs _ (by decide +kernel)
  have hle : (Cond.le (.length (.arg 0)) (.int 3072)).before args s = true := hs _ (by decide +kernel)
  have hlen : (Cond.isInt (.length (.arg 0))).before args s = true := hq _ (by decide +kernel)
  have hall : (Cond.all (.arg 0) (.isInt (.elem (.arg 0) (.index 0)))).before args s = true := hq _ (by decide +kernel)
  obtain ⟨b, xs, hb, hx⟩ := State.ints_of_pre rfl harr hlen hall
  have hsm : xs.length < 2 ^ 31 := hx.choose_spec.2.2.2
  have hev : (Term.length (.arg 0)).eval args s none [] s = some (.int xs.length.toInt32) := hx.length_eval hb
  have hv := Cond.le_ints hev (show (Term.int 3072).eval args s none [] s = some (.int 3072) from rfl)
  have hd : xs.length.toInt32 ≤ 3072 := by
    simpa [Cond.before, Cond.holds, hv] using hle
  have hN : xs.length ≤ 3072 := (Int32.ofNat_le_ofNat hsm (by decide)).mp (show Int32.ofNat xs.length ≤ Int32.ofNat 3072 from hd)
  exact ⟨b, xs, Cond.one_arg hc (show args[0]? = some (.ref b) from hb), hx, hN, h⟩
theorem lw_comes (l : Launch) : Comes l x (Jvm.Cond.code x code maxLocals ret :: tables_1) room_1 (fun tb e args s => Calls_1 tb e args s ∧ rest_1 tb e args s ∧ Pre_1 tb e args s)
    (fun _ _ args s o t => lw_Q args s o t) := by
  intro p e ha hc hk s m args below hf hfit hheap happ hpre
  obtain ⟨b, xs, hP⟩ := lw_pre_spec hpre.2.2 hpre.2.1
  obtain ⟨k, o, h1, h2, h3, hQ⟩ := lw_walk l b xs p e ha hc hk s m args below hf ((Spec.applies_iff_loose hf).mp happ).1 hP trivial
  exact ⟨k, o, h1, h2, h3, hQ⟩
theorem lw_frame {s t : State} {o : Outcome} {args : Array Value} (h : Framed s o t [] 67778 8898916) :
    Framed s o t (fieldLocs frame_1_writes args s ++ arrayLocs frame_1_arrays args s ++ staticLocs frame_1_statics s) 67778 8898916 := h
theorem lw_limb (L : Cond) (hL : ∀ (args : Array Value) (s t : State), L.after args s (.returned (some (.int 1))) t = true) :
    ArmFor flags0 classFile x code maxLocals ret World_1 tables_1 room_1 Calls_1 rest_1 Pre_1
      (fun tb e a s o t => postC L tb e a s o t ∧ Framed s o t (fieldLocs frame_1_writes a s ++ arrayLocs frame_1_arrays a s ++ staticLocs frame_1_statics s) 67778 8898916) := by
  intro l _ _ _ p e ha hc hk s m args below hf hfit hheap happ hpre
  obtain ⟨k, o, h1, h2, h3, rfl, hF⟩ := lw_comes l p e ha hc hk s m args below hf hfit hheap happ hpre
  exact ⟨k, _, h1, h2, h3, hL args s _, lw_frame hF⟩
theorem i_vc : Claimed_1_1 ∧ Claimed_1_2 := ⟨lw_limb limb_1_1 (fun args s t => by simp [limb_1_1, Cond.after, Cond.holds, Cond.value]), lw_limb limb_1_2 (fun args s t => Cond.after_iff.mpr (by
  first | (rw [show limb_1_2 = Cond.eq .result (.int 1) from rfl, Cond.eq_ints (x := 1) (y := 1) rfl rfl]; simp; done) | (simp [limb_1_2, Cond.value, Term.eval]; done)))⟩
