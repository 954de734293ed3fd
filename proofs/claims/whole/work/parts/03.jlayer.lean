abbrev classes : List vw_C := [(RX0, TX0, 3), (RX1, TX1, 5), (RX2, TX2, 5), (RX3, TX3, 6), (RX4, TX4, 10), (RX5, TX5, 5), (RX6, TX6, 3), (RX7, TX7, 2), (RX8, TX8, 10), (RX9, TX9, 4), (RX10, TX10, 9), (RX11, TX11, 38)]
abbrev tysOf (ty : Nat → ClassId) : List (ClassId × FieldType) := [(ty 0, .int), (ty 1, .byte), (ty 2, .boolean), (ty 3, .long), (ty 4, .object "NonsenseRows$Mind"), (ty 5, .object "NonsenseRows$Slot"), (ty 6, .object "NonsenseRows$State")]
abbrev GG : Type := va_G × (Nat → ClassId) × (Nat → Nat) × (Nat → Nat)
def rmD (d mc ms : Nat) : Room := { frames := d, cells := mc, slots := ms, locals := 60 * d }
def gtbl : List Cond := lw_tbl.filter goodWord
theorem gt_mem {w : Cond} (i : Nat) (h : lw_tbl[i]? = some w) (hg : goodWord w = true) : w ∈ gtbl := List.mem_filter.mpr ⟨List.mem_of_getElem? h, hg⟩
def WW (y : MethodName) (cc : ByteArray) (mL : Nat) (rt : Option FieldType) : List Cond := .code y cc mL rt :: gtbl
theorem ww_good {y : MethodName} {cc : ByteArray} {mL : Nat} {rt : Option FieldType} {Ts : List Cond} (hT : ∀ w ∈ gtbl, w ∈ Ts) (h : Cond.code y cc mL rt ∈ gtbl) : GoodIn Ts (WW y cc mL rt) := by
  intro w hw
  have hm : w ∈ gtbl := (List.mem_cons.mp hw).elim (fun e => e ▸ h) id
  exact ⟨hT w hm, good_of_word (List.mem_filter.mp hm).2⟩
def nests : List (String × Nat × MethodName × String) := [("NonsenseRows", 19, ⟨"NonsenseRows$State", "<init>", "()V"⟩, "NonsenseRows"), ("NonsenseRows$State", 13, ⟨"NonsenseRows$Text", "<init>", "()V"⟩, "NonsenseRows"), ("NonsenseRows$State", 16, ⟨"NonsenseRows$Rows", "<init>", "()V"⟩, "NonsenseRows"), ("NonsenseRows$Mind", 11, ⟨"NonsenseRows$Head", "<init>", "()V"⟩, "NonsenseRows"), ("NonsenseRows$State", 28, ⟨"NonsenseRows$Book", "<init>", "()V"⟩, "NonsenseRows"), ("NonsenseRows", 47, ⟨"NonsenseRows$Parser", "<init>", "()V"⟩, "NonsenseRows"), ("NonsenseRows$Parser", 11, ⟨"NonsenseRows$Text", "<init>", "()V"⟩, "NonsenseRows"), ("NonsenseRows$Parser", 20, ⟨"NonsenseRows$Rows", "<init>", "()V"⟩, "NonsenseRows"), ("NonsenseRows$Parser", 27, ⟨"NonsenseRows$Tokens", "<init>", "()V"⟩, "NonsenseRows"), ("NonsenseRows$Parser", 162, ⟨"NonsenseRows", "lawOf", "(II)I"⟩, "NonsenseRows"), ("NonsenseRows$Mind", 45, ⟨"NonsenseRows", "lawOf", "(II)I"⟩, "NonsenseRows"), ("NonsenseRows", 322, ⟨"NonsenseRows$Slot", "<init>", "()V"⟩, "NonsenseRows")]
def strs : List (String × Nat × String) := [("NonsenseRows$Tokens", 47, "next back off place grow fall mix plus minus times over has left easy tired hour thing row hold lean by "), ("NonsenseRowsModel", 210, "thing"), ("NonsenseRowsModel", 212, "row"), ("NonsenseRowsModel", 214, "grow"), ("NonsenseRowsModel", 216, "fall"), ("NonsenseRowsModel", 218, "mix"), ("NonsenseRowsModel", 220, "hold"), ("NonsenseRowsModel", 222, "lean"), ("NonsenseRowsModel", 181, "easy"), ("NonsenseRowsModel", 169, "next"), ("NonsenseRowsModel", 171, "back"), ("NonsenseRowsModel", 173, "off"), ("NonsenseRowsModel", 175, "place"), ("NonsenseRowsModel", 193, "by"), ("NonsenseRowsModel", 177, "has"), ("NonsenseRowsModel", 179, "left"), ("NonsenseRowsModel", 183, "tired"), ("NonsenseRowsModel", 185, "hour"), ("NonsenseRowsModel", 202, "plus"), ("NonsenseRowsModel", 204, "minus"), ("NonsenseRowsModel", 206, "times"), ("NonsenseRowsModel", 208, "over")]
def slen : List Nat := [104, 5, 3, 4, 4, 3, 4, 4, 4, 4, 4, 3, 5, 2, 3, 4, 5, 4, 4, 5, 5, 4]
def sbyt : List (List Int32) := [[110, 101, 120, 116, 32, 98, 97, 99, 107, 32, 111, 102, 102, 32, 112, 108, 97, 99, 101, 32, 103, 114, 111, 119, 32, 102, 97, 108, 108, 32, 109, 105, 120, 32, 112, 108, 117, 115, 32, 109, 105, 110, 117, 115, 32, 116, 105, 109, 101, 115, 32, 111, 118, 101, 114, 32, 104, 97, 115, 32, 108, 101, 102, 116, 32, 101, 97, 115, 121, 32, 116, 105, 114, 101, 100, 32, 104, 111, 117, 114, 32, 116, 104, 105, 110, 103, 32, 114, 111, 119, 32, 104, 111, 108, 100, 32, 108, 101, 97, 110, 32, 98, 121, 32], [116, 104, 105, 110, 103], [114, 111, 119], [103, 114, 111, 119], [102, 97, 108, 108], [109, 105, 120], [104, 111, 108, 100], [108, 101, 97, 110], [101, 97, 115, 121], [110, 101, 120, 116], [98, 97, 99, 107], [111, 102, 102], [112, 108, 97, 99, 101], [98, 121], [104, 97, 115], [108, 101, 102, 116], [116, 105, 114, 101, 100], [104, 111, 117, 114], [112, 108, 117, 115], [109, 105, 110, 117, 115], [116, 105, 109, 101, 115], [111, 118, 101, 114]]
/-- what a method may know of the tables and of the constants, beside its words -/
def EV (G : GG) (A : Nat → Prop) (U : State) : Prop := (∀ q ∈ nests, va_Nw (.methodLinkNest q.1 q.2.1 q.2.2.1 q.2.2.2) U) ∧ (va_AO "NonsenseRows$State" U ∧ va_AO "NonsenseRows$Slot" U ∧ va_AO "NonsenseRows$Mind" U) ∧ (∀ (i : Nat) (q : String × Nat × String), strs[i]? = some q → vk_R q.1 q.2.1 q.2.2 (G.2.2.1 i) U) ∧ vk_S 22 slen sbyt G.2.2.1 G.2.2.2 A U U.heap ∧ va_Z "java/lang/String" "COMPACT_STRINGS" "Z" (.int 1) A U U.heap ∧ va_Zq "jdk/internal/util/Preconditions" "SIOOBE_FORMATTER" "Ljava/util/function/BiFunction;" A U U.heap
theorem EV.blind {G : GG} {A : Nat → Prop} {U V : State} (hv : V.vm = U.vm) (hh : V.heap = U.heap) (hal : U.vm.Alike V.vm) (h : EV G A U) : EV G A V := by
  obtain ⟨h1, ⟨h2, h3, h4⟩, h5, h6, h7, h8⟩ := h
  refine ⟨fun q hq => (h1 q hq).same rfl hv.symm, ⟨h2.moved hal, h3.moved hal, h4.moved hal⟩, fun i q hq => (h5 i q hq).same hv, ?_, ?_, ?_⟩
  · rw [hh]; exact h6.moved hal
  · rw [hh]; exact h7.moved hal
  · rw [hh]; exact h8.moved hal
theorem EV.call {G : GG} {A B : Nat → Prop} {s U : State} {H : Heap} {locs : List Loc} (hW : s.WarmedH U.vm) (hU : U.heap = H) (hS : va_S A s.heap H locs) (hB : ∀ q, B q → A q) (h : EV G A s) : EV G B U := by
  obtain ⟨h1, ⟨h2, h3, h4⟩, h5, h6, h7, h8⟩ := h
  refine ⟨fun q hq => (h1 q hq).warmM hW, ⟨h2.moved hW.alike, h3.moved hW.alike, h4.moved hW.alike⟩, fun i q hq => (h5 i q hq).warm hW, ?_, ?_, ?_⟩
  · rw [hU]; exact ((h6.moved hW.alike).kept hS.2.1).narrow hB
  · rw [hU]; exact ((h7.moved hW.alike).kept hS.2.1).narrow hB
  · rw [hU]; exact ((h8.moved hW.alike).kept hS.2.1).narrow hB
def QQ (G : GG) (post : Option Value → va_W → Prop) (A : Nat → Prop) : Array Value → State → Outcome → State → Prop := fun _ st oc t => (∃ (v : Option Value) (w : va_W), oc = .returned v ∧ post v w ∧ va_P G.1 classes w t.heap ∧ va_D A w) ∧ va_F A st t
def PP (G : GG) (As : List Value) (ws : va_W) (sz : Nat) : Array Value → State → Prop := va_Pc As (fun U => U.heap.size = sz ∧ va_P G.1 classes ws U.heap ∧ va_K G.1 classes (tysOf G.2.1) U ∧ va_D (fun _ => True) ws ∧ EV G (va_A ws sz) U)
/-- a method's contract over a list of cells -/
def Con (l : Launch) (G : GG) (y : MethodName) (cc : ByteArray) (mL : Nat) (rt : Option FieldType) (d mc ms : Nat) (As : List Value) (ws : va_W) (post : Option Value → va_W → Prop) : Prop :=
  ∀ sz : Nat, Met l y (WW y cc mL rt) (rmD d mc ms) (PP G As ws sz) (QQ G post (va_A ws sz)) mc ms (va_A ws sz)
abbrev JX : Type := Program × Launch × Env × Room × State × MethodId × Array Value × List Frame × Method × Code × (Nat → Prop) × GG × (State → Prop)
def jget : List (Nat × Value) → Nat → Option Value
  | [], _ => none
  | (j, v) :: t, i => cond (Nat.beq i j) (some v) (jget t i)
def jl (ls : Array Slot) (nL : Nat) (lv : List (Nat × Value)) : Prop := ls.size = nL ∧ lv_wf ls ∧ ∀ (i : Nat) (v : Value), jget lv i = some v → ls[i]? = some (.val v)
/-- the machine at pc with locals lv, stack st, over any heap that holds the cells ws; k cells of n slots have come -/
def J (X : JX) (nL k n : Nat) (ws : va_W) (pc : Nat) (lv : List (Nat × Value)) (st : List Value) : Prop :=
  match X with
  | (p, l, e, R, s, m, args, below, meth, c, A, G, Q) => ∀ (H : Heap) (locs : List Loc) (ls : Array Slot), va_P G.1 classes ws H → va_D A ws → va_S A s.heap H locs → jl ls nL lv → W p l e R s m args below meth c H locs k n Q (F0 m pc ls st)
def Cx (X : JX) (l0 : Launch) (G0 : GG) (cc : ByteArray) (nL : Nat) (own : String) (rt : Option FieldType) (d mc ms : Nat) (post : Option Value → va_W → Prop) : Prop :=
  match X with
  | (p, l, e, R, s, m, args, below, meth, c, A, G, Q) => p.tables.exec = Jvm.exec ∧ c.code = cc ∧ c.maxLocals = nL ∧ s.vm.findClass own = some m.cls ∧ (∀ w ∈ gtbl, w.before args s = true) ∧ va_K G.1 classes (tysOf G.2.1) s ∧ (∀ q : Nat, s.heap.size ≤ q → A q) ∧ meth.locks = false ∧ meth.sig.returnType = rt ∧ R = rmD d mc ms ∧ Q = MQ below (QQ G post A) args s mc ms A ∧ l = l0 ∧ G = G0 ∧ EV G A s
theorem jget_mem {lv : List (Nat × Value)} {i : Nat} {v : Value} (h : jget lv i = some v) : (i, v) ∈ lv := by
  induction lv with
  | nil => cases h
  | cons q t ih =>
    obtain ⟨j, w⟩ := q
    unfold jget at h
    cases hb : Nat.beq i j with
    | true =>
      rw [hb] at h
      cases h
      have := Nat.eq_of_beq_eq_true hb
      subst this
      exact List.mem_cons_self
    | false =>
      rw [hb] at h
      exact List.mem_cons_of_mem _ (ih h)
theorem jl_of {ls : Array Slot} {nL : Nat} {lv : List (Nat × Value)} (h : lv_has ls nL lv) : jl ls nL lv := ⟨h.1, h.2.1, fun _ _ hv => h.2.2 _ (jget_mem hv)⟩
def jall (nL : Nat) (lv : List (Nat × Value)) : List (Nat × Value) := (List.range nL).filterMap (fun j => (jget lv j).map (fun v => (j, v)))
theorem jall_mem {nL : Nat} {lv : List (Nat × Value)} {q : Nat × Value} : q ∈ jall nL lv ↔ q.1 < nL ∧ jget lv q.1 = some q.2 := by
  unfold jall
  rw [List.mem_filterMap]
  constructor
  · rintro ⟨j, hj, h⟩
    cases hg : jget lv j with
    | none => rw [hg] at h; cases h
    | some v => rw [hg] at h; cases h; exact ⟨List.mem_range.mp hj, hg⟩
  · rintro ⟨h1, h2⟩
    exact ⟨q.1, List.mem_range.mpr h1, by rw [h2]; rfl⟩
theorem jl_all {ls : Array Slot} {nL : Nat} {lv : List (Nat × Value)} (h : jl ls nL lv) : lv_has ls nL (jall nL lv) := ⟨h.1, h.2.1, fun q hq => h.2.2 _ _ (jall_mem.mp hq).2⟩
def jcat (lv : List (Nat × Value)) (i : Nat) : Bool := match i with
  | 0 => true
  | j + 1 => match jget lv j with
    | some v => !(Nat.beq v.category 2)
    | none => true
theorem jget_cons {lv : List (Nat × Value)} {i j : Nat} {v w : Value} (h : jget ((i, v) :: lv) j = some w) : (j = i ∧ w = v) ∨ (j ≠ i ∧ jget lv j = some w) := by
  unfold jget at h
  cases hb : Nat.beq j i with
  | true =>
    rw [hb] at h
    cases h
    exact Or.inl ⟨Nat.eq_of_beq_eq_true hb, rfl⟩
  | false =>
    rw [hb] at h
    refine Or.inr ⟨fun e => ?_, h⟩
    subst e
    rw [Nat.beq_refl] at hb
    cases hb
theorem jl_st1 {ls : Array Slot} {nL i : Nat} {v : Value} {lv : List (Nat × Value)} {f : Nat × Value → Bool} (hf : f = fun q => !(q.1 == i) && !(q.1 + 1 == i && q.2.category == 2)) (hc : jcat lv i = true) (h : lv_has ls nL ((i, v) :: (jall nL lv).filter f)) (hsz : ∀ (j : Nat) (w : Value), jget lv j = some w → j < nL) : jl ls nL ((i, v) :: lv) := by
  refine ⟨h.1, h.2.1, fun j w hj => ?_⟩
  rcases jget_cons hj with ⟨rfl, rfl⟩ | ⟨hne, hg⟩
  · exact h.2.2 (_, _) List.mem_cons_self
  · refine h.2.2 (j, w) (List.mem_cons_of_mem _ (List.mem_filter.mpr ⟨jall_mem.mpr ⟨hsz j w hg, hg⟩, ?_⟩))
    subst hf
    have h1 : (j == i) = false := by simpa using hne
    have h2 : (j + 1 == i && w.category == 2) = false := by
      cases i with
      | zero => simp
      | succ i' =>
        by_cases hji : j = i'
        · subst hji
          have hc : (match jget lv j with | some v => !(Nat.beq v.category 2) | none => true) = true := hc
          rw [hg] at hc
          have hc : Nat.beq w.category 2 = false := by simpa using hc
          have : (w.category == 2) = false := by
            cases hq : (w.category == 2) with
            | false => rfl
            | true => rw [eq_of_beq hq] at hc; cases hc
          simp [this]
        · have : (j + 1 == i' + 1) = false := by simpa using hji
          simp [this]
    simp [h1, h2]
theorem jl_lt {ls : Array Slot} {nL : Nat} {lv : List (Nat × Value)} (h : jl ls nL lv) (j : Nat) (w : Value) (hg : jget lv j = some w) : j < nL := by
  have := lv_lt (h.2.2 j w hg)
  rw [h.1] at this
  exact this
theorem jl_st2 {ls : Array Slot} {nL i : Nat} {v : Value} {lv : List (Nat × Value)} {f : Nat × Value → Bool} (hf : f = fun q => !(q.1 == i) && (!(q.1 == i + 1) && !(q.1 + 1 == i && q.2.category == 2))) (hc : jcat lv i = true) (hn : jget lv (i + 1) = none) (h : lv_has ls nL ((i, v) :: (jall nL lv).filter f)) (hsz : ∀ (j : Nat) (w : Value), jget lv j = some w → j < nL) : jl ls nL ((i, v) :: lv) := by
  refine ⟨h.1, h.2.1, fun j w hj => ?_⟩
  rcases jget_cons hj with ⟨rfl, rfl⟩ | ⟨hne, hg⟩
  · exact h.2.2 (_, _) List.mem_cons_self
  · refine h.2.2 (j, w) (List.mem_cons_of_mem _ (List.mem_filter.mpr ⟨jall_mem.mpr ⟨hsz j w hg, hg⟩, ?_⟩))
    subst hf
    have h1 : (j == i) = false := by simpa using hne
    have h3 : (j == i + 1) = false := by
      have : j ≠ i + 1 := fun e => by subst e; rw [hn] at hg; cases hg
      simpa using this
    have h2 : (j + 1 == i && w.category == 2) = false := by
      cases i with
      | zero => simp
      | succ i' =>
        by_cases hji : j = i'
        · subst hji
          have hc : (match jget lv j with | some v => !(Nat.beq v.category 2) | none => true) = true := hc
          rw [hg] at hc
          have hc : Nat.beq w.category 2 = false := by simpa using hc
          have : (w.category == 2) = false := by
            cases hq : (w.category == 2) with
            | false => rfl
            | true => rw [eq_of_beq hq] at hc; cases hc
          simp [this]
        · have : (j + 1 == i' + 1) = false := by simpa using hji
          simp [this]
    simp [h1, h2, h3]
def jsubs : List (Nat × Value) → List (Nat × Value) → Prop
  | [], _ => True
  | (a, v) :: t, lv => jget lv a = some v ∧ jsubs t lv
theorem jl_sub {ls : Array Slot} {nL : Nat} {lv lv' : List (Nat × Value)} (h : jl ls nL lv) (hs : jsubs lv' lv) : jl ls nL lv' := by
  refine ⟨h.1, h.2.1, fun i v hv => ?_⟩
  have hm := jget_mem hv
  clear hv
  induction lv' with
  | nil => cases hm
  | cons q t ih =>
    obtain ⟨j, w⟩ := q
    rcases List.mem_cons.mp hm with e | e
    · cases e
      exact h.2.2 _ _ hs.1
    · exact ih hs.2 e
section JL
variable {X : JX} {l : Launch} {G : GG} {cc : ByteArray} {nL : Nat} {own : String} {rt : Option FieldType} {d mc ms : Nat} {post : Option Value → va_W → Prop} {k n pc : Nat} {ws : va_W} {lv : List (Nat × Value)} {st : List Value}
theorem j_weak (lv' : List (Nat × Value)) (h : jsubs lv' lv) (kk : J X nL k n ws pc lv' st) : J X nL k n ws pc lv st := by
  obtain ⟨p, l, e, R, s, m, args, below, meth, c, A, G, Q⟩ := X
  intro H locs ls hP hD hS hl
  exact kk H locs ls hP hD hS (jl_sub hl h)
theorem j_ws (ws' : va_W) (h : ws = ws') (kk : J X nL k n ws' pc lv st) : J X nL k n ws pc lv st := h ▸ kk
theorem j_st (st' : List Value) (h : st = st') (kk : J X nL k n ws pc lv st') : J X nL k n ws pc lv st := h ▸ kk
theorem map_fm {α : Type} {f : Nat → Option α} : ∀ {is : List Nat} {w : List α}, is.map f = w.map some → is.filterMap f = w := by
  intro is
  induction is with
  | nil => intro w h; cases w with
    | nil => rfl
    | cons a t => cases h
  | cons i t ih => intro w h; cases w with
    | nil => cases h
    | cons a u =>
      simp only [List.map_cons, List.cons.injEq] at h
      rw [List.filterMap_cons, h.1]
      simp [ih h.2]
theorem j_sub (is : List Nat) (ws' : va_W) (hn : va_nd is = true) (h : is.map (fun i => ws[i]?) = ws'.map some) (kk : J X nL k n ws' pc lv st) : J X nL k n ws pc lv st := by
  obtain ⟨p, l, e, R, s, m, args, below, meth, c, A, G, Q⟩ := X
  intro H locs ls hP hD hS hl
  exact kk H locs ls (hP.sub is (map_fm h)) (hD.sub is hn h) hS hl
theorem j_widen (k' n' : Nat) (h1 : k ≤ k') (h2 : n ≤ n') (kk : J X nL k' n' ws pc lv st) : J X nL k n ws pc lv st := by
  obtain ⟨p, l, e, R, s, m, args, below, meth, c, A, G, Q⟩ := X
  intro H locs ls hP hD hS hl
  exact W.widen h1 h2 (kk H locs ls hP hD hS hl)
theorem j_iconst (q : Nat) {i : Int} {v : Int32} (C : Cx X l G cc nL own rt d mc ms post) (hd : decode cc pc = .ok (.iconst i, 1)) (hq : pc + 1 = q) (hv : Int32.ofInt i = v) (kk : J X nL k n ws q lv (.int v :: st)) : J X nL k n ws pc lv (st) := by
  subst hq
  obtain ⟨p, l, e, R, s, m, args, below, meth, c, A, G, Q⟩ := X
  obtain ⟨hx, hb, hml, hown, hts, hK, hA, hlk, hrt, hR, hQ, hl0, hG, hEV⟩ := C
  intro H locs ls hP hD hS hl
  exact lv_iconst hx hb hd hv (kk H locs ls hP hD hS hl)
theorem j_bipush (q : Nat) {i : Int} {v : Int32} (C : Cx X l G cc nL own rt d mc ms post) (hd : decode cc pc = .ok (.bipush i, 2)) (hq : pc + 2 = q) (hv : (Int8.ofInt i).toInt32 = v) (kk : J X nL k n ws q lv (.int v :: st)) : J X nL k n ws pc lv (st) := by
  subst hq
  obtain ⟨p, l, e, R, s, m, args, below, meth, c, A, G, Q⟩ := X
  obtain ⟨hx, hb, hml, hown, hts, hK, hA, hlk, hrt, hR, hQ, hl0, hG, hEV⟩ := C
  intro H locs ls hP hD hS hl
  exact lv_bipush hx hb hd hv (kk H locs ls hP hD hS hl)
theorem j_sipush (q : Nat) {i : Int} {v : Int32} (C : Cx X l G cc nL own rt d mc ms post) (hd : decode cc pc = .ok (.sipush i, 3)) (hq : pc + 3 = q) (hv : (Int16.ofInt i).toInt32 = v) (kk : J X nL k n ws q lv (.int v :: st)) : J X nL k n ws pc lv (st) := by
  subst hq
  obtain ⟨p, l, e, R, s, m, args, below, meth, c, A, G, Q⟩ := X
  obtain ⟨hx, hb, hml, hown, hts, hK, hA, hlk, hrt, hR, hQ, hl0, hG, hEV⟩ := C
  intro H locs ls hP hD hS hl
  exact lv_sipush hx hb hd hv (kk H locs ls hP hD hS hl)
theorem j_lconst (q : Nat) {i : Fin 2} {v : Int64} (C : Cx X l G cc nL own rt d mc ms post) (hd : decode cc pc = .ok (.lconst i, 1)) (hq : pc + 1 = q) (hv : Int64.ofNat (i : Nat) = v) (kk : J X nL k n ws q lv (.long v :: st)) : J X nL k n ws pc lv (st) := by
  subst hq
  obtain ⟨p, l, e, R, s, m, args, below, meth, c, A, G, Q⟩ := X
  obtain ⟨hx, hb, hml, hown, hts, hK, hA, hlk, hrt, hR, hQ, hl0, hG, hEV⟩ := C
  intro H locs ls hP hD hS hl
  exact lv_lconst hx hb hd hv (kk H locs ls hP hD hS hl)
theorem j_ldc (q : Nat) {i : Nat} {v : Int32} (C : Cx X l G cc nL own rt d mc ms post) (hd : decode cc pc = .ok (.ldc i, 2)) (hq : pc + 2 = q) (hw : Cond.constant own i v ∈ gtbl) (kk : J X nL k n ws q lv (.int v :: st)) : J X nL k n ws pc lv (st) := by
  subst hq
  obtain ⟨p, l, e, R, s, m, args, below, meth, c, A, G, Q⟩ := X
  obtain ⟨hx, hb, hml, hown, hts, hK, hA, hlk, hrt, hR, hQ, hl0, hG, hEV⟩ := C
  intro H locs ls hP hD hS hl
  exact lv_ldc hx hb hown (hts _ hw) hd (kk H locs ls hP hD hS hl)
theorem j_ldcw (q : Nat) {i : Nat} {v : Int32} (C : Cx X l G cc nL own rt d mc ms post) (hd : decode cc pc = .ok (.ldc_w i, 3)) (hq : pc + 3 = q) (hw : Cond.constant own i v ∈ gtbl) (kk : J X nL k n ws q lv (.int v :: st)) : J X nL k n ws pc lv (st) := by
  subst hq
  obtain ⟨p, l, e, R, s, m, args, below, meth, c, A, G, Q⟩ := X
  obtain ⟨hx, hb, hml, hown, hts, hK, hA, hlk, hrt, hR, hQ, hl0, hG, hEV⟩ := C
  intro H locs ls hP hD hS hl
  exact lv_ldcw hx hb hown (hts _ hw) hd (kk H locs ls hP hD hS hl)
theorem j_ldc2 (q : Nat) {i : Nat} {v : Int64} (C : Cx X l G cc nL own rt d mc ms post) (hd : decode cc pc = .ok (.ldc2_w i, 3)) (hq : pc + 3 = q) (hw : Cond.constantLong own i v ∈ gtbl) (kk : J X nL k n ws q lv (.long v :: st)) : J X nL k n ws pc lv (st) := by
  subst hq
  obtain ⟨p, l, e, R, s, m, args, below, meth, c, A, G, Q⟩ := X
  obtain ⟨hx, hb, hml, hown, hts, hK, hA, hlk, hrt, hR, hQ, hl0, hG, hEV⟩ := C
  intro H locs ls hP hD hS hl
  exact lv_ldc2 hx hb hown (hts _ hw) hd (kk H locs ls hP hD hS hl)
theorem j_iload_n (q : Nat) {i : Fin 4} {x : Int32} (C : Cx X l G cc nL own rt d mc ms post) (hd : decode cc pc = .ok (.iload_n i, 1)) (hq : pc + 1 = q) (hg : jget lv (i : Nat) = some (.int x)) (kk : J X nL k n ws q lv (.int x :: st)) : J X nL k n ws pc lv (st) := by
  subst hq
  obtain ⟨p, l, e, R, s, m, args, below, meth, c, A, G, Q⟩ := X
  obtain ⟨hx, hb, hml, hown, hts, hK, hA, hlk, hrt, hR, hQ, hl0, hG, hEV⟩ := C
  intro H locs ls hP hD hS hl
  exact lv_iload_n hx hb hd rfl (hl.2.2 _ _ hg) (kk H locs ls hP hD hS hl)
theorem j_iload (q : Nat) {i : Nat} {x : Int32} (C : Cx X l G cc nL own rt d mc ms post) (hd : decode cc pc = .ok (.iload i, 2)) (hq : pc + 2 = q) (hg : jget lv i = some (.int x)) (kk : J X nL k n ws q lv (.int x :: st)) : J X nL k n ws pc lv (st) := by
  subst hq
  obtain ⟨p, l, e, R, s, m, args, below, meth, c, A, G, Q⟩ := X
  obtain ⟨hx, hb, hml, hown, hts, hK, hA, hlk, hrt, hR, hQ, hl0, hG, hEV⟩ := C
  intro H locs ls hP hD hS hl
  exact lv_iload hx hb hd (hl.2.2 _ _ hg) (kk H locs ls hP hD hS hl)
theorem j_lload_n (q : Nat) {i : Fin 4} {x : Int64} (C : Cx X l G cc nL own rt d mc ms post) (hd : decode cc pc = .ok (.lload_n i, 1)) (hq : pc + 1 = q) (hg : jget lv (i : Nat) = some (.long x)) (kk : J X nL k n ws q lv (.long x :: st)) : J X nL k n ws pc lv (st) := by
  subst hq
  obtain ⟨p, l, e, R, s, m, args, below, meth, c, A, G, Q⟩ := X
  obtain ⟨hx, hb, hml, hown, hts, hK, hA, hlk, hrt, hR, hQ, hl0, hG, hEV⟩ := C
  intro H locs ls hP hD hS hl
  exact lv_lload_n hx hb hd rfl (hl.2.2 _ _ hg) (kk H locs ls hP hD hS hl)
theorem j_lload (q : Nat) {i : Nat} {x : Int64} (C : Cx X l G cc nL own rt d mc ms post) (hd : decode cc pc = .ok (.lload i, 2)) (hq : pc + 2 = q) (hg : jget lv i = some (.long x)) (kk : J X nL k n ws q lv (.long x :: st)) : J X nL k n ws pc lv (st) := by
  subst hq
  obtain ⟨p, l, e, R, s, m, args, below, meth, c, A, G, Q⟩ := X
  obtain ⟨hx, hb, hml, hown, hts, hK, hA, hlk, hrt, hR, hQ, hl0, hG, hEV⟩ := C
  intro H locs ls hP hD hS hl
  exact lv_lload hx hb hd (hl.2.2 _ _ hg) (kk H locs ls hP hD hS hl)
theorem j_aload_n (q : Nat) {i : Fin 4} {x : Nat} (C : Cx X l G cc nL own rt d mc ms post) (hd : decode cc pc = .ok (.aload_n i, 1)) (hq : pc + 1 = q) (hg : jget lv (i : Nat) = some (.ref x)) (kk : J X nL k n ws q lv (.ref x :: st)) : J X nL k n ws pc lv (st) := by
  subst hq
  obtain ⟨p, l, e, R, s, m, args, below, meth, c, A, G, Q⟩ := X
  obtain ⟨hx, hb, hml, hown, hts, hK, hA, hlk, hrt, hR, hQ, hl0, hG, hEV⟩ := C
  intro H locs ls hP hD hS hl
  exact lv_aload_n hx hb hd rfl (hl.2.2 _ _ hg) (kk H locs ls hP hD hS hl)
theorem j_aload (q : Nat) {i : Nat} {x : Nat} (C : Cx X l G cc nL own rt d mc ms post) (hd : decode cc pc = .ok (.aload i, 2)) (hq : pc + 2 = q) (hg : jget lv i = some (.ref x)) (kk : J X nL k n ws q lv (.ref x :: st)) : J X nL k n ws pc lv (st) := by
  subst hq
  obtain ⟨p, l, e, R, s, m, args, below, meth, c, A, G, Q⟩ := X
  obtain ⟨hx, hb, hml, hown, hts, hK, hA, hlk, hrt, hR, hQ, hl0, hG, hEV⟩ := C
  intro H locs ls hP hD hS hl
  exact lv_aload hx hb hd (hl.2.2 _ _ hg) (kk H locs ls hP hD hS hl)
theorem j_istore_n (q : Nat) {i : Fin 4} {x : Int32} (C : Cx X l G cc nL own rt d mc ms post) (hd : decode cc pc = .ok (.istore_n i, 1)) (hq : pc + 1 = q) (hc : jcat lv (i : Nat) = true) (hi : (i : Nat) < nL) (kk : J X nL k n ws q (((i : Nat), .int x) :: lv) (st)) : J X nL k n ws pc lv (.int x :: st) := by
  subst hq
  obtain ⟨p, l, e, R, s, m, args, below, meth, c, A, G, Q⟩ := X
  obtain ⟨hx, hb, hml, hown, hts, hK, hA, hlk, hrt, hR, hQ, hl0, hG, hEV⟩ := C
  intro H locs ls hP hD hS hl
  exact lv_istore_n hx hb hd rfl (jl_all hl) hi rfl (fun ls' hl' => kk H locs ls' hP hD hS (jl_st1 rfl hc hl' (jl_lt hl)))
theorem j_istore (q : Nat) {i : Nat} {x : Int32} (C : Cx X l G cc nL own rt d mc ms post) (hd : decode cc pc = .ok (.istore i, 2)) (hq : pc + 2 = q) (hc : jcat lv i = true) (hi : i < nL) (kk : J X nL k n ws q ((i, .int x) :: lv) (st)) : J X nL k n ws pc lv (.int x :: st) := by
  subst hq
  obtain ⟨p, l, e, R, s, m, args, below, meth, c, A, G, Q⟩ := X
  obtain ⟨hx, hb, hml, hown, hts, hK, hA, hlk, hrt, hR, hQ, hl0, hG, hEV⟩ := C
  intro H locs ls hP hD hS hl
  exact lv_istore hx hb hd (jl_all hl) hi rfl (fun ls' hl' => kk H locs ls' hP hD hS (jl_st1 rfl hc hl' (jl_lt hl)))
theorem j_astore_n (q : Nat) {i : Fin 4} {x : Nat} (C : Cx X l G cc nL own rt d mc ms post) (hd : decode cc pc = .ok (.astore_n i, 1)) (hq : pc + 1 = q) (hc : jcat lv (i : Nat) = true) (hi : (i : Nat) < nL) (kk : J X nL k n ws q (((i : Nat), .ref x) :: lv) (st)) : J X nL k n ws pc lv (.ref x :: st) := by
  subst hq
  obtain ⟨p, l, e, R, s, m, args, below, meth, c, A, G, Q⟩ := X
  obtain ⟨hx, hb, hml, hown, hts, hK, hA, hlk, hrt, hR, hQ, hl0, hG, hEV⟩ := C
  intro H locs ls hP hD hS hl
  exact lv_astore_n hx hb hd rfl (jl_all hl) hi rfl (fun ls' hl' => kk H locs ls' hP hD hS (jl_st1 rfl hc hl' (jl_lt hl)))
theorem j_astore (q : Nat) {i : Nat} {x : Nat} (C : Cx X l G cc nL own rt d mc ms post) (hd : decode cc pc = .ok (.astore i, 2)) (hq : pc + 2 = q) (hc : jcat lv i = true) (hi : i < nL) (kk : J X nL k n ws q ((i, .ref x) :: lv) (st)) : J X nL k n ws pc lv (.ref x :: st) := by
  subst hq
  obtain ⟨p, l, e, R, s, m, args, below, meth, c, A, G, Q⟩ := X
  obtain ⟨hx, hb, hml, hown, hts, hK, hA, hlk, hrt, hR, hQ, hl0, hG, hEV⟩ := C
  intro H locs ls hP hD hS hl
  exact lv_astore hx hb hd (jl_all hl) hi rfl (fun ls' hl' => kk H locs ls' hP hD hS (jl_st1 rfl hc hl' (jl_lt hl)))
theorem j_lstore_n (q : Nat) {i : Fin 4} {x : Int64} (C : Cx X l G cc nL own rt d mc ms post) (hd : decode cc pc = .ok (.lstore_n i, 1)) (hq : pc + 1 = q) (hc : jcat lv (i : Nat) = true) (hn : jget lv ((i : Nat) + 1) = none) (hi : (i : Nat) + 1 < nL) (kk : J X nL k n ws q (((i : Nat), .long x) :: lv) (st)) : J X nL k n ws pc lv (.long x :: st) := by
  subst hq
  obtain ⟨p, l, e, R, s, m, args, below, meth, c, A, G, Q⟩ := X
  obtain ⟨hx, hb, hml, hown, hts, hK, hA, hlk, hrt, hR, hQ, hl0, hG, hEV⟩ := C
  intro H locs ls hP hD hS hl
  exact lv_lstore_n hx hb hd rfl (jl_all hl) hi rfl (fun ls' hl' => kk H locs ls' hP hD hS (jl_st2 rfl hc hn hl' (jl_lt hl)))
theorem j_lstore (q : Nat) {i : Nat} {x : Int64} (C : Cx X l G cc nL own rt d mc ms post) (hd : decode cc pc = .ok (.lstore i, 2)) (hq : pc + 2 = q) (hc : jcat lv i = true) (hn : jget lv (i + 1) = none) (hi : i + 1 < nL) (kk : J X nL k n ws q ((i, .long x) :: lv) (st)) : J X nL k n ws pc lv (.long x :: st) := by
  subst hq
  obtain ⟨p, l, e, R, s, m, args, below, meth, c, A, G, Q⟩ := X
  obtain ⟨hx, hb, hml, hown, hts, hK, hA, hlk, hrt, hR, hQ, hl0, hG, hEV⟩ := C
  intro H locs ls hP hD hS hl
  exact lv_lstore hx hb hd (jl_all hl) hi rfl (fun ls' hl' => kk H locs ls' hP hD hS (jl_st2 rfl hc hn hl' (jl_lt hl)))
theorem j_iinc (q : Nat) {i : Nat} {z : Int} {x v : Int32} (C : Cx X l G cc nL own rt d mc ms post) (hd : decode cc pc = .ok (.iinc i z, 3)) (hq : pc + 3 = q) (hg : jget lv i = some (.int x)) (hv : x + Int32.ofInt z = v) (hc : jcat lv i = true) (hi : i < nL) (kk : J X nL k n ws q ((i, .int v) :: lv) st) : J X nL k n ws pc lv st := by
  subst hq
  obtain ⟨p, l, e, R, s, m, args, below, meth, c, A, G, Q⟩ := X
  obtain ⟨hx, hb, hml, hown, hts, hK, hA, hlk, hrt, hR, hQ, hl0, hG, hEV⟩ := C
  intro H locs ls hP hD hS hl
  have hm : (i, Value.int x) ∈ jall nL lv := jall_mem.mpr ⟨hi, hg⟩
  obtain ⟨kq, hkq⟩ := List.getElem?_of_mem hm
  exact lv_iinc hx hb hd (jl_all hl) hkq hv hi rfl (fun ls' hl' => kk H locs ls' hP hD hS (jl_st1 rfl hc hl' (jl_lt hl)))
theorem j_iadd (q : Nat) {x y : Int32} (C : Cx X l G cc nL own rt d mc ms post) (hd : decode cc pc = .ok (.iadd, 1)) (hq : pc + 1 = q)  (kk : J X nL k n ws q lv (.int (x + y) :: st)) : J X nL k n ws pc lv (.int y :: .int x :: st) := by
  subst hq
  obtain ⟨p, l, e, R, s, m, args, below, meth, c, A, G, Q⟩ := X
  obtain ⟨hx, hb, hml, hown, hts, hK, hA, hlk, hrt, hR, hQ, hl0, hG, hEV⟩ := C
  intro H locs ls hP hD hS hl
  exact lv_iadd hx hb hd (kk H locs ls hP hD hS hl)
theorem j_isub (q : Nat) {x y : Int32} (C : Cx X l G cc nL own rt d mc ms post) (hd : decode cc pc = .ok (.isub, 1)) (hq : pc + 1 = q)  (kk : J X nL k n ws q lv (.int (x - y) :: st)) : J X nL k n ws pc lv (.int y :: .int x :: st) := by
  subst hq
  obtain ⟨p, l, e, R, s, m, args, below, meth, c, A, G, Q⟩ := X
  obtain ⟨hx, hb, hml, hown, hts, hK, hA, hlk, hrt, hR, hQ, hl0, hG, hEV⟩ := C
  intro H locs ls hP hD hS hl
  exact lv_isub hx hb hd (kk H locs ls hP hD hS hl)
theorem j_imul (q : Nat) {x y : Int32} (C : Cx X l G cc nL own rt d mc ms post) (hd : decode cc pc = .ok (.imul, 1)) (hq : pc + 1 = q)  (kk : J X nL k n ws q lv (.int (x * y) :: st)) : J X nL k n ws pc lv (.int y :: .int x :: st) := by
  subst hq
  obtain ⟨p, l, e, R, s, m, args, below, meth, c, A, G, Q⟩ := X
  obtain ⟨hx, hb, hml, hown, hts, hK, hA, hlk, hrt, hR, hQ, hl0, hG, hEV⟩ := C
  intro H locs ls hP hD hS hl
  exact lv_imul hx hb hd (kk H locs ls hP hD hS hl)
theorem j_iand (q : Nat) {x y : Int32} (C : Cx X l G cc nL own rt d mc ms post) (hd : decode cc pc = .ok (.iand, 1)) (hq : pc + 1 = q)  (kk : J X nL k n ws q lv (.int (x &&& y) :: st)) : J X nL k n ws pc lv (.int y :: .int x :: st) := by
  subst hq
  obtain ⟨p, l, e, R, s, m, args, below, meth, c, A, G, Q⟩ := X
  obtain ⟨hx, hb, hml, hown, hts, hK, hA, hlk, hrt, hR, hQ, hl0, hG, hEV⟩ := C
  intro H locs ls hP hD hS hl
  exact lv_iand hx hb hd (kk H locs ls hP hD hS hl)
theorem j_ior (q : Nat) {x y : Int32} (C : Cx X l G cc nL own rt d mc ms post) (hd : decode cc pc = .ok (.ior, 1)) (hq : pc + 1 = q)  (kk : J X nL k n ws q lv (.int (x ||| y) :: st)) : J X nL k n ws pc lv (.int y :: .int x :: st) := by
  subst hq
  obtain ⟨p, l, e, R, s, m, args, below, meth, c, A, G, Q⟩ := X
  obtain ⟨hx, hb, hml, hown, hts, hK, hA, hlk, hrt, hR, hQ, hl0, hG, hEV⟩ := C
  intro H locs ls hP hD hS hl
  exact lv_ior hx hb hd (kk H locs ls hP hD hS hl)
theorem j_ixor (q : Nat) {x y : Int32} (C : Cx X l G cc nL own rt d mc ms post) (hd : decode cc pc = .ok (.ixor, 1)) (hq : pc + 1 = q)  (kk : J X nL k n ws q lv (.int (x ^^^ y) :: st)) : J X nL k n ws pc lv (.int y :: .int x :: st) := by
  subst hq
  obtain ⟨p, l, e, R, s, m, args, below, meth, c, A, G, Q⟩ := X
  obtain ⟨hx, hb, hml, hown, hts, hK, hA, hlk, hrt, hR, hQ, hl0, hG, hEV⟩ := C
  intro H locs ls hP hD hS hl
  exact lv_ixor hx hb hd (kk H locs ls hP hD hS hl)
theorem j_ladd (q : Nat) {x y : Int64} (C : Cx X l G cc nL own rt d mc ms post) (hd : decode cc pc = .ok (.ladd, 1)) (hq : pc + 1 = q)  (kk : J X nL k n ws q lv (.long (x + y) :: st)) : J X nL k n ws pc lv (.long y :: .long x :: st) := by
  subst hq
  obtain ⟨p, l, e, R, s, m, args, below, meth, c, A, G, Q⟩ := X
  obtain ⟨hx, hb, hml, hown, hts, hK, hA, hlk, hrt, hR, hQ, hl0, hG, hEV⟩ := C
  intro H locs ls hP hD hS hl
  exact lv_ladd hx hb hd (kk H locs ls hP hD hS hl)
theorem j_lsub (q : Nat) {x y : Int64} (C : Cx X l G cc nL own rt d mc ms post) (hd : decode cc pc = .ok (.lsub, 1)) (hq : pc + 1 = q)  (kk : J X nL k n ws q lv (.long (x - y) :: st)) : J X nL k n ws pc lv (.long y :: .long x :: st) := by
  subst hq
  obtain ⟨p, l, e, R, s, m, args, below, meth, c, A, G, Q⟩ := X
  obtain ⟨hx, hb, hml, hown, hts, hK, hA, hlk, hrt, hR, hQ, hl0, hG, hEV⟩ := C
  intro H locs ls hP hD hS hl
  exact lv_lsub hx hb hd (kk H locs ls hP hD hS hl)
theorem j_lmul (q : Nat) {x y : Int64} (C : Cx X l G cc nL own rt d mc ms post) (hd : decode cc pc = .ok (.lmul, 1)) (hq : pc + 1 = q)  (kk : J X nL k n ws q lv (.long (x * y) :: st)) : J X nL k n ws pc lv (.long y :: .long x :: st) := by
  subst hq
  obtain ⟨p, l, e, R, s, m, args, below, meth, c, A, G, Q⟩ := X
  obtain ⟨hx, hb, hml, hown, hts, hK, hA, hlk, hrt, hR, hQ, hl0, hG, hEV⟩ := C
  intro H locs ls hP hD hS hl
  exact lv_lmul hx hb hd (kk H locs ls hP hD hS hl)
theorem j_land (q : Nat) {x y : Int64} (C : Cx X l G cc nL own rt d mc ms post) (hd : decode cc pc = .ok (.land, 1)) (hq : pc + 1 = q)  (kk : J X nL k n ws q lv (.long (x &&& y) :: st)) : J X nL k n ws pc lv (.long y :: .long x :: st) := by
  subst hq
  obtain ⟨p, l, e, R, s, m, args, below, meth, c, A, G, Q⟩ := X
  obtain ⟨hx, hb, hml, hown, hts, hK, hA, hlk, hrt, hR, hQ, hl0, hG, hEV⟩ := C
  intro H locs ls hP hD hS hl
  exact lv_land hx hb hd (kk H locs ls hP hD hS hl)
theorem j_lor (q : Nat) {x y : Int64} (C : Cx X l G cc nL own rt d mc ms post) (hd : decode cc pc = .ok (.lor, 1)) (hq : pc + 1 = q)  (kk : J X nL k n ws q lv (.long (x ||| y) :: st)) : J X nL k n ws pc lv (.long y :: .long x :: st) := by
  subst hq
  obtain ⟨p, l, e, R, s, m, args, below, meth, c, A, G, Q⟩ := X
  obtain ⟨hx, hb, hml, hown, hts, hK, hA, hlk, hrt, hR, hQ, hl0, hG, hEV⟩ := C
  intro H locs ls hP hD hS hl
  exact lv_lor hx hb hd (kk H locs ls hP hD hS hl)
theorem j_idiv (q : Nat) {x y : Int32} (C : Cx X l G cc nL own rt d mc ms post) (hd : decode cc pc = .ok (.idiv, 1)) (hq : pc + 1 = q) (h0 : ¬ y = 0) (kk : J X nL k n ws q lv (.int (x / y) :: st)) : J X nL k n ws pc lv (.int y :: .int x :: st) := by
  subst hq
  obtain ⟨p, l, e, R, s, m, args, below, meth, c, A, G, Q⟩ := X
  obtain ⟨hx, hb, hml, hown, hts, hK, hA, hlk, hrt, hR, hQ, hl0, hG, hEV⟩ := C
  intro H locs ls hP hD hS hl
  exact lv_idiv hx hb hd h0 (kk H locs ls hP hD hS hl)
theorem j_irem (q : Nat) {x y : Int32} (C : Cx X l G cc nL own rt d mc ms post) (hd : decode cc pc = .ok (.irem, 1)) (hq : pc + 1 = q) (h0 : ¬ y = 0) (kk : J X nL k n ws q lv (.int (x - x / y * y) :: st)) : J X nL k n ws pc lv (.int y :: .int x :: st) := by
  subst hq
  obtain ⟨p, l, e, R, s, m, args, below, meth, c, A, G, Q⟩ := X
  obtain ⟨hx, hb, hml, hown, hts, hK, hA, hlk, hrt, hR, hQ, hl0, hG, hEV⟩ := C
  intro H locs ls hP hD hS hl
  exact lv_irem hx hb hd h0 (kk H locs ls hP hD hS hl)
theorem j_ldiv (q : Nat) {x y : Int64} (C : Cx X l G cc nL own rt d mc ms post) (hd : decode cc pc = .ok (.ldiv, 1)) (hq : pc + 1 = q) (h0 : ¬ y = 0) (kk : J X nL k n ws q lv (.long (x / y) :: st)) : J X nL k n ws pc lv (.long y :: .long x :: st) := by
  subst hq
  obtain ⟨p, l, e, R, s, m, args, below, meth, c, A, G, Q⟩ := X
  obtain ⟨hx, hb, hml, hown, hts, hK, hA, hlk, hrt, hR, hQ, hl0, hG, hEV⟩ := C
  intro H locs ls hP hD hS hl
  exact lv_ldiv hx hb hd h0 (kk H locs ls hP hD hS hl)
theorem j_ineg (q : Nat) {x : Int32} (C : Cx X l G cc nL own rt d mc ms post) (hd : decode cc pc = .ok (.ineg, 1)) (hq : pc + 1 = q)  (kk : J X nL k n ws q lv (.int (-x) :: st)) : J X nL k n ws pc lv (.int x :: st) := by
  subst hq
  obtain ⟨p, l, e, R, s, m, args, below, meth, c, A, G, Q⟩ := X
  obtain ⟨hx, hb, hml, hown, hts, hK, hA, hlk, hrt, hR, hQ, hl0, hG, hEV⟩ := C
  intro H locs ls hP hD hS hl
  exact lv_ineg hx hb hd (kk H locs ls hP hD hS hl)
theorem j_lneg (q : Nat) {x : Int64} (C : Cx X l G cc nL own rt d mc ms post) (hd : decode cc pc = .ok (.lneg, 1)) (hq : pc + 1 = q)  (kk : J X nL k n ws q lv (.long (-x) :: st)) : J X nL k n ws pc lv (.long x :: st) := by
  subst hq
  obtain ⟨p, l, e, R, s, m, args, below, meth, c, A, G, Q⟩ := X
  obtain ⟨hx, hb, hml, hown, hts, hK, hA, hlk, hrt, hR, hQ, hl0, hG, hEV⟩ := C
  intro H locs ls hP hD hS hl
  exact lv_lneg hx hb hd (kk H locs ls hP hD hS hl)
theorem j_ishl (q : Nat) {x y : Int32} (C : Cx X l G cc nL own rt d mc ms post) (hd : decode cc pc = .ok (.ishl, 1)) (hq : pc + 1 = q)  (kk : J X nL k n ws q lv (.int (x <<< (y &&& 31)) :: st)) : J X nL k n ws pc lv (.int y :: .int x :: st) := by
  subst hq
  obtain ⟨p, l, e, R, s, m, args, below, meth, c, A, G, Q⟩ := X
  obtain ⟨hx, hb, hml, hown, hts, hK, hA, hlk, hrt, hR, hQ, hl0, hG, hEV⟩ := C
  intro H locs ls hP hD hS hl
  exact lv_ishl hx hb hd (kk H locs ls hP hD hS hl)
theorem j_ishr (q : Nat) {x y : Int32} (C : Cx X l G cc nL own rt d mc ms post) (hd : decode cc pc = .ok (.ishr, 1)) (hq : pc + 1 = q)  (kk : J X nL k n ws q lv (.int (x >>> (y &&& 31)) :: st)) : J X nL k n ws pc lv (.int y :: .int x :: st) := by
  subst hq
  obtain ⟨p, l, e, R, s, m, args, below, meth, c, A, G, Q⟩ := X
  obtain ⟨hx, hb, hml, hown, hts, hK, hA, hlk, hrt, hR, hQ, hl0, hG, hEV⟩ := C
  intro H locs ls hP hD hS hl
  exact lv_ishr hx hb hd (kk H locs ls hP hD hS hl)
theorem j_i2l (q : Nat) {x : Int32} (C : Cx X l G cc nL own rt d mc ms post) (hd : decode cc pc = .ok (.i2l, 1)) (hq : pc + 1 = q)  (kk : J X nL k n ws q lv (.long x.toInt64 :: st)) : J X nL k n ws pc lv (.int x :: st) := by
  subst hq
  obtain ⟨p, l, e, R, s, m, args, below, meth, c, A, G, Q⟩ := X
  obtain ⟨hx, hb, hml, hown, hts, hK, hA, hlk, hrt, hR, hQ, hl0, hG, hEV⟩ := C
  intro H locs ls hP hD hS hl
  exact lv_i2l hx hb hd rfl (kk H locs ls hP hD hS hl)
theorem j_l2i (q : Nat) {x : Int64} (C : Cx X l G cc nL own rt d mc ms post) (hd : decode cc pc = .ok (.l2i, 1)) (hq : pc + 1 = q)  (kk : J X nL k n ws q lv (.int x.toInt32 :: st)) : J X nL k n ws pc lv (.long x :: st) := by
  subst hq
  obtain ⟨p, l, e, R, s, m, args, below, meth, c, A, G, Q⟩ := X
  obtain ⟨hx, hb, hml, hown, hts, hK, hA, hlk, hrt, hR, hQ, hl0, hG, hEV⟩ := C
  intro H locs ls hP hD hS hl
  exact lv_l2i hx hb hd rfl (kk H locs ls hP hD hS hl)
theorem j_i2b (q : Nat) {x : Int32} (C : Cx X l G cc nL own rt d mc ms post) (hd : decode cc pc = .ok (.i2b, 1)) (hq : pc + 1 = q)  (kk : J X nL k n ws q lv (.int x.toInt8.toInt32 :: st)) : J X nL k n ws pc lv (.int x :: st) := by
  subst hq
  obtain ⟨p, l, e, R, s, m, args, below, meth, c, A, G, Q⟩ := X
  obtain ⟨hx, hb, hml, hown, hts, hK, hA, hlk, hrt, hR, hQ, hl0, hG, hEV⟩ := C
  intro H locs ls hP hD hS hl
  exact lv_i2b hx hb hd rfl (kk H locs ls hP hD hS hl)
theorem j_i2s (q : Nat) {x : Int32} (C : Cx X l G cc nL own rt d mc ms post) (hd : decode cc pc = .ok (.i2s, 1)) (hq : pc + 1 = q)  (kk : J X nL k n ws q lv (.int x.toInt16.toInt32 :: st)) : J X nL k n ws pc lv (.int x :: st) := by
  subst hq
  obtain ⟨p, l, e, R, s, m, args, below, meth, c, A, G, Q⟩ := X
  obtain ⟨hx, hb, hml, hown, hts, hK, hA, hlk, hrt, hR, hQ, hl0, hG, hEV⟩ := C
  intro H locs ls hP hD hS hl
  exact lv_i2s hx hb hd rfl (kk H locs ls hP hD hS hl)
theorem j_iushr (q : Nat) {x y : Int32} (C : Cx X l G cc nL own rt d mc ms post) (hd : decode cc pc = .ok (.iushr, 1)) (hq : pc + 1 = q)  (kk : J X nL k n ws q lv (.int (x.toUInt32 >>> (y.toUInt32 &&& Int32.toUInt32 31)).toInt32 :: st)) : J X nL k n ws pc lv (.int y :: .int x :: st) := by
  subst hq
  obtain ⟨p, l, e, R, s, m, args, below, meth, c, A, G, Q⟩ := X
  obtain ⟨hx, hb, hml, hown, hts, hK, hA, hlk, hrt, hR, hQ, hl0, hG, hEV⟩ := C
  intro H locs ls hP hD hS hl
  exact lv_iushr hx hb hd rfl (kk H locs ls hP hD hS hl)
theorem j_lshl (q : Nat) {x : Int64} {y : Int32} (C : Cx X l G cc nL own rt d mc ms post) (hd : decode cc pc = .ok (.lshl, 1)) (hq : pc + 1 = q)  (kk : J X nL k n ws q lv (.long (x <<< (y.toInt64 &&& 63)) :: st)) : J X nL k n ws pc lv (.int y :: .long x :: st) := by
  subst hq
  obtain ⟨p, l, e, R, s, m, args, below, meth, c, A, G, Q⟩ := X
  obtain ⟨hx, hb, hml, hown, hts, hK, hA, hlk, hrt, hR, hQ, hl0, hG, hEV⟩ := C
  intro H locs ls hP hD hS hl
  exact lv_lshl hx hb hd rfl (kk H locs ls hP hD hS hl)
theorem j_lshr (q : Nat) {x : Int64} {y : Int32} (C : Cx X l G cc nL own rt d mc ms post) (hd : decode cc pc = .ok (.lshr, 1)) (hq : pc + 1 = q)  (kk : J X nL k n ws q lv (.long (x >>> (y.toInt64 &&& 63)) :: st)) : J X nL k n ws pc lv (.int y :: .long x :: st) := by
  subst hq
  obtain ⟨p, l, e, R, s, m, args, below, meth, c, A, G, Q⟩ := X
  obtain ⟨hx, hb, hml, hown, hts, hK, hA, hlk, hrt, hR, hQ, hl0, hG, hEV⟩ := C
  intro H locs ls hP hD hS hl
  exact lv_lshr hx hb hd rfl (kk H locs ls hP hD hS hl)
theorem j_lcmp (q : Nat) {x y : Int64} (C : Cx X l G cc nL own rt d mc ms post) (hd : decode cc pc = .ok (.lcmp, 1)) (hq : pc + 1 = q)  (kk : J X nL k n ws q lv (.int (lg_cmp x y) :: st)) : J X nL k n ws pc lv (.long y :: .long x :: st) := by
  subst hq
  obtain ⟨p, l, e, R, s, m, args, below, meth, c, A, G, Q⟩ := X
  obtain ⟨hx, hb, hml, hown, hts, hK, hA, hlk, hrt, hR, hQ, hl0, hG, hEV⟩ := C
  intro H locs ls hP hD hS hl
  exact W.lcmp hx hb hd (kk H locs ls hP hD hS hl)
theorem j_dup (q : Nat) {v : Value} (C : Cx X l G cc nL own rt d mc ms post) (hd : decode cc pc = .ok (.dup, 1)) (hq : pc + 1 = q) (hv : v.category = 1) (kk : J X nL k n ws q lv (v :: v :: st)) : J X nL k n ws pc lv (v :: st) := by
  subst hq
  obtain ⟨p, l, e, R, s, m, args, below, meth, c, A, G, Q⟩ := X
  obtain ⟨hx, hb, hml, hown, hts, hK, hA, hlk, hrt, hR, hQ, hl0, hG, hEV⟩ := C
  intro H locs ls hP hD hS hl
  exact lv_dup hx hb hd hv (kk H locs ls hP hD hS hl)
theorem j_pop (q : Nat) {v : Value} (C : Cx X l G cc nL own rt d mc ms post) (hd : decode cc pc = .ok (.pop, 1)) (hq : pc + 1 = q) (hv : v.category = 1) (kk : J X nL k n ws q lv (st)) : J X nL k n ws pc lv (v :: st) := by
  subst hq
  obtain ⟨p, l, e, R, s, m, args, below, meth, c, A, G, Q⟩ := X
  obtain ⟨hx, hb, hml, hown, hts, hK, hA, hlk, hrt, hR, hQ, hl0, hG, hEV⟩ := C
  intro H locs ls hP hD hS hl
  exact lv_pop hx hb hd hv (kk H locs ls hP hD hS hl)
theorem j_dup_x1 (q : Nat) {v w : Value} (C : Cx X l G cc nL own rt d mc ms post) (hd : decode cc pc = .ok (.dup_x1, 1)) (hq : pc + 1 = q) (hv : v.category = 1) (hw : w.category = 1) (kk : J X nL k n ws q lv (v :: w :: v :: st)) : J X nL k n ws pc lv (v :: w :: st) := by
  subst hq
  obtain ⟨p, l, e, R, s, m, args, below, meth, c, A, G, Q⟩ := X
  obtain ⟨hx, hb, hml, hown, hts, hK, hA, hlk, hrt, hR, hQ, hl0, hG, hEV⟩ := C
  intro H locs ls hP hD hS hl
  exact lv_dup_x1 hx hb hd hv hw (kk H locs ls hP hD hS hl)
theorem j_dup2 (q : Nat) {v w : Value} (C : Cx X l G cc nL own rt d mc ms post) (hd : decode cc pc = .ok (.dup2, 1)) (hq : pc + 1 = q) (hv : v.category = 1) (hw : w.category = 1) (kk : J X nL k n ws q lv (v :: w :: v :: w :: st)) : J X nL k n ws pc lv (v :: w :: st) := by
  subst hq
  obtain ⟨p, l, e, R, s, m, args, below, meth, c, A, G, Q⟩ := X
  obtain ⟨hx, hb, hml, hown, hts, hK, hA, hlk, hrt, hR, hQ, hl0, hG, hEV⟩ := C
  intro H locs ls hP hD hS hl
  exact lv_dup2_11 hx hb hd hv hw (kk H locs ls hP hD hS hl)
theorem j_if_eq (tgt q : Nat) {x : Int32} {off : Int} (C : Cx X l G cc nL own rt d mc ms post) (hd : decode cc pc = .ok (.ifCond .eq off, 3)) (ht : (pc : Int) + off = (tgt : Int)) (hq : pc + 3 = q) (kt : x = 0 → J X nL k n ws tgt lv st) (kf : ¬ x = 0 → J X nL k n ws q lv st) : J X nL k n ws pc lv (.int x :: st) := by
  subst hq
  obtain ⟨p, l, e, R, s, m, args, below, meth, c, A, G, Q⟩ := X
  obtain ⟨hx, hb, hml, hown, hts, hK, hA, hlk, hrt, hR, hQ, hl0, hG, hEV⟩ := C
  intro H locs ls hP hD hS hl
  exact lv_if_eq hx hb hd ht (fun h => kt h H locs ls hP hD hS hl) (fun h => kf h H locs ls hP hD hS hl)
theorem j_icmp_eq (tgt q : Nat) {x y : Int32} {off : Int} (C : Cx X l G cc nL own rt d mc ms post) (hd : decode cc pc = .ok (.if_icmp .eq off, 3)) (ht : (pc : Int) + off = (tgt : Int)) (hq : pc + 3 = q) (kt : x = y → J X nL k n ws tgt lv st) (kf : ¬ x = y → J X nL k n ws q lv st) : J X nL k n ws pc lv (.int y :: .int x :: st) := by
  subst hq
  obtain ⟨p, l, e, R, s, m, args, below, meth, c, A, G, Q⟩ := X
  obtain ⟨hx, hb, hml, hown, hts, hK, hA, hlk, hrt, hR, hQ, hl0, hG, hEV⟩ := C
  intro H locs ls hP hD hS hl
  exact lv_icmp_eq hx hb hd ht (fun h => kt h H locs ls hP hD hS hl) (fun h => kf h H locs ls hP hD hS hl)
theorem j_if_ne (tgt q : Nat) {x : Int32} {off : Int} (C : Cx X l G cc nL own rt d mc ms post) (hd : decode cc pc = .ok (.ifCond .ne off, 3)) (ht : (pc : Int) + off = (tgt : Int)) (hq : pc + 3 = q) (kt : ¬ x = 0 → J X nL k n ws tgt lv st) (kf : x = 0 → J X nL k n ws q lv st) : J X nL k n ws pc lv (.int x :: st) := by
  subst hq
  obtain ⟨p, l, e, R, s, m, args, below, meth, c, A, G, Q⟩ := X
  obtain ⟨hx, hb, hml, hown, hts, hK, hA, hlk, hrt, hR, hQ, hl0, hG, hEV⟩ := C
  intro H locs ls hP hD hS hl
  exact lv_if_ne hx hb hd ht (fun h => kt h H locs ls hP hD hS hl) (fun h => kf h H locs ls hP hD hS hl)
theorem j_icmp_ne (tgt q : Nat) {x y : Int32} {off : Int} (C : Cx X l G cc nL own rt d mc ms post) (hd : decode cc pc = .ok (.if_icmp .ne off, 3)) (ht : (pc : Int) + off = (tgt : Int)) (hq : pc + 3 = q) (kt : ¬ x = y → J X nL k n ws tgt lv st) (kf : x = y → J X nL k n ws q lv st) : J X nL k n ws pc lv (.int y :: .int x :: st) := by
  subst hq
  obtain ⟨p, l, e, R, s, m, args, below, meth, c, A, G, Q⟩ := X
  obtain ⟨hx, hb, hml, hown, hts, hK, hA, hlk, hrt, hR, hQ, hl0, hG, hEV⟩ := C
  intro H locs ls hP hD hS hl
  exact lv_icmp_ne hx hb hd ht (fun h => kt h H locs ls hP hD hS hl) (fun h => kf h H locs ls hP hD hS hl)
theorem j_if_lt (tgt q : Nat) {x : Int32} {off : Int} (C : Cx X l G cc nL own rt d mc ms post) (hd : decode cc pc = .ok (.ifCond .lt off, 3)) (ht : (pc : Int) + off = (tgt : Int)) (hq : pc + 3 = q) (kt : x < 0 → J X nL k n ws tgt lv st) (kf : ¬ x < 0 → J X nL k n ws q lv st) : J X nL k n ws pc lv (.int x :: st) := by
  subst hq
  obtain ⟨p, l, e, R, s, m, args, below, meth, c, A, G, Q⟩ := X
  obtain ⟨hx, hb, hml, hown, hts, hK, hA, hlk, hrt, hR, hQ, hl0, hG, hEV⟩ := C
  intro H locs ls hP hD hS hl
  exact lv_if_lt hx hb hd ht (fun h => kt h H locs ls hP hD hS hl) (fun h => kf h H locs ls hP hD hS hl)
theorem j_icmp_lt (tgt q : Nat) {x y : Int32} {off : Int} (C : Cx X l G cc nL own rt d mc ms post) (hd : decode cc pc = .ok (.if_icmp .lt off, 3)) (ht : (pc : Int) + off = (tgt : Int)) (hq : pc + 3 = q) (kt : x < y → J X nL k n ws tgt lv st) (kf : ¬ x < y → J X nL k n ws q lv st) : J X nL k n ws pc lv (.int y :: .int x :: st) := by
  subst hq
  obtain ⟨p, l, e, R, s, m, args, below, meth, c, A, G, Q⟩ := X
  obtain ⟨hx, hb, hml, hown, hts, hK, hA, hlk, hrt, hR, hQ, hl0, hG, hEV⟩ := C
  intro H locs ls hP hD hS hl
  exact lv_icmp_lt hx hb hd ht (fun h => kt h H locs ls hP hD hS hl) (fun h => kf h H locs ls hP hD hS hl)
theorem j_if_ge (tgt q : Nat) {x : Int32} {off : Int} (C : Cx X l G cc nL own rt d mc ms post) (hd : decode cc pc = .ok (.ifCond .ge off, 3)) (ht : (pc : Int) + off = (tgt : Int)) (hq : pc + 3 = q) (kt : 0 ≤ x → J X nL k n ws tgt lv st) (kf : ¬ 0 ≤ x → J X nL k n ws q lv st) : J X nL k n ws pc lv (.int x :: st) := by
  subst hq
  obtain ⟨p, l, e, R, s, m, args, below, meth, c, A, G, Q⟩ := X
  obtain ⟨hx, hb, hml, hown, hts, hK, hA, hlk, hrt, hR, hQ, hl0, hG, hEV⟩ := C
  intro H locs ls hP hD hS hl
  exact lv_if_ge hx hb hd ht (fun h => kt h H locs ls hP hD hS hl) (fun h => kf h H locs ls hP hD hS hl)
theorem j_icmp_ge (tgt q : Nat) {x y : Int32} {off : Int} (C : Cx X l G cc nL own rt d mc ms post) (hd : decode cc pc = .ok (.if_icmp .ge off, 3)) (ht : (pc : Int) + off = (tgt : Int)) (hq : pc + 3 = q) (kt : y ≤ x → J X nL k n ws tgt lv st) (kf : ¬ y ≤ x → J X nL k n ws q lv st) : J X nL k n ws pc lv (.int y :: .int x :: st) := by
  subst hq
  obtain ⟨p, l, e, R, s, m, args, below, meth, c, A, G, Q⟩ := X
  obtain ⟨hx, hb, hml, hown, hts, hK, hA, hlk, hrt, hR, hQ, hl0, hG, hEV⟩ := C
  intro H locs ls hP hD hS hl
  exact lv_icmp_ge hx hb hd ht (fun h => kt h H locs ls hP hD hS hl) (fun h => kf h H locs ls hP hD hS hl)
theorem j_if_gt (tgt q : Nat) {x : Int32} {off : Int} (C : Cx X l G cc nL own rt d mc ms post) (hd : decode cc pc = .ok (.ifCond .gt off, 3)) (ht : (pc : Int) + off = (tgt : Int)) (hq : pc + 3 = q) (kt : 0 < x → J X nL k n ws tgt lv st) (kf : ¬ 0 < x → J X nL k n ws q lv st) : J X nL k n ws pc lv (.int x :: st) := by
  subst hq
  obtain ⟨p, l, e, R, s, m, args, below, meth, c, A, G, Q⟩ := X
  obtain ⟨hx, hb, hml, hown, hts, hK, hA, hlk, hrt, hR, hQ, hl0, hG, hEV⟩ := C
  intro H locs ls hP hD hS hl
  exact lv_if_gt hx hb hd ht (fun h => kt h H locs ls hP hD hS hl) (fun h => kf h H locs ls hP hD hS hl)
theorem j_icmp_gt (tgt q : Nat) {x y : Int32} {off : Int} (C : Cx X l G cc nL own rt d mc ms post) (hd : decode cc pc = .ok (.if_icmp .gt off, 3)) (ht : (pc : Int) + off = (tgt : Int)) (hq : pc + 3 = q) (kt : y < x → J X nL k n ws tgt lv st) (kf : ¬ y < x → J X nL k n ws q lv st) : J X nL k n ws pc lv (.int y :: .int x :: st) := by
  subst hq
  obtain ⟨p, l, e, R, s, m, args, below, meth, c, A, G, Q⟩ := X
  obtain ⟨hx, hb, hml, hown, hts, hK, hA, hlk, hrt, hR, hQ, hl0, hG, hEV⟩ := C
  intro H locs ls hP hD hS hl
  exact lv_icmp_gt hx hb hd ht (fun h => kt h H locs ls hP hD hS hl) (fun h => kf h H locs ls hP hD hS hl)
theorem j_if_le (tgt q : Nat) {x : Int32} {off : Int} (C : Cx X l G cc nL own rt d mc ms post) (hd : decode cc pc = .ok (.ifCond .le off, 3)) (ht : (pc : Int) + off = (tgt : Int)) (hq : pc + 3 = q) (kt : x ≤ 0 → J X nL k n ws tgt lv st) (kf : ¬ x ≤ 0 → J X nL k n ws q lv st) : J X nL k n ws pc lv (.int x :: st) := by
  subst hq
  obtain ⟨p, l, e, R, s, m, args, below, meth, c, A, G, Q⟩ := X
  obtain ⟨hx, hb, hml, hown, hts, hK, hA, hlk, hrt, hR, hQ, hl0, hG, hEV⟩ := C
  intro H locs ls hP hD hS hl
  exact lv_if_le hx hb hd ht (fun h => kt h H locs ls hP hD hS hl) (fun h => kf h H locs ls hP hD hS hl)
theorem j_icmp_le (tgt q : Nat) {x y : Int32} {off : Int} (C : Cx X l G cc nL own rt d mc ms post) (hd : decode cc pc = .ok (.if_icmp .le off, 3)) (ht : (pc : Int) + off = (tgt : Int)) (hq : pc + 3 = q) (kt : x ≤ y → J X nL k n ws tgt lv st) (kf : ¬ x ≤ y → J X nL k n ws q lv st) : J X nL k n ws pc lv (.int y :: .int x :: st) := by
  subst hq
  obtain ⟨p, l, e, R, s, m, args, below, meth, c, A, G, Q⟩ := X
  obtain ⟨hx, hb, hml, hown, hts, hK, hA, hlk, hrt, hR, hQ, hl0, hG, hEV⟩ := C
  intro H locs ls hP hD hS hl
  exact lv_icmp_le hx hb hd ht (fun h => kt h H locs ls hP hD hS hl) (fun h => kf h H locs ls hP hD hS hl)
theorem j_goto (tgt : Nat) {off : Int} (C : Cx X l G cc nL own rt d mc ms post) (hd : decode cc pc = .ok (.goto off, 3)) (ht : (pc : Int) + off = (tgt : Int)) (kk : J X nL k n ws tgt lv st) : J X nL k n ws pc lv st := by
  obtain ⟨p, l, e, R, s, m, args, below, meth, c, A, G, Q⟩ := X
  obtain ⟨hx, hb, hml, hown, hts, hK, hA, hlk, hrt, hR, hQ, hl0, hG, hEV⟩ := C
  intro H locs ls hP hD hS hl
  exact lv_goto hx hb hd ht (kk H locs ls hP hD hS hl)
theorem j_iret {pc : Nat} {x : Int32} (C : Cx X l G cc nL own (some .int) d mc ms post) (hd : decode cc pc = .ok (.ireturn, 1)) (h : post (some (.int x)) ws) : J X nL mc ms ws pc lv [.int x] := by
  obtain ⟨p, l, e, R, s, m, args, below, meth, c, A, G, Q⟩ := X
  obtain ⟨hx, hb, hml, hown, hts, hK, hA, hlk, hrt, hR, hQ, hl0, hG, hEV⟩ := C
  intro H locs ls hP hD hS hl
  subst hQ
  exact W.iret hx hb hrt (fun t ht hW => ⟨⟨_, ws, rfl, h, by rw [ht]; exact hP, hD⟩, hS.F ht⟩) hS.2.2 hd hlk
theorem j_zret {pc : Nat} {x : Int32} {ty : FieldType} (C : Cx X l G cc nL own (some ty) d mc ms post) (hd : decode cc pc = .ok (.ireturn, 1)) (hn : narrow ty (.int x) = .int x) (h : post (some (.int x)) ws) : J X nL mc ms ws pc lv [.int x] := by
  obtain ⟨p, l, e, R, s, m, args, below, meth, c, A, G, Q⟩ := X
  obtain ⟨hx, hb, hml, hown, hts, hK, hA, hlk, hrt, hR, hQ, hl0, hG, hEV⟩ := C
  intro H locs ls hP hD hS hl
  subst hQ
  exact W.zret hx hb hrt hn (fun t ht hW => ⟨⟨_, ws, rfl, h, by rw [ht]; exact hP, hD⟩, hS.F ht⟩) hS.2.2 hd hlk
theorem j_lret {pc : Nat} {x : Int64} (C : Cx X l G cc nL own (some .long) d mc ms post) (hd : decode cc pc = .ok (.lreturn, 1)) (h : post (some (.long x)) ws) : J X nL mc ms ws pc lv [.long x] := by
  obtain ⟨p, l, e, R, s, m, args, below, meth, c, A, G, Q⟩ := X
  obtain ⟨hx, hb, hml, hown, hts, hK, hA, hlk, hrt, hR, hQ, hl0, hG, hEV⟩ := C
  intro H locs ls hP hD hS hl
  subst hQ
  exact W.lret hx hb hrt (fun t ht hW => ⟨⟨_, ws, rfl, h, by rw [ht]; exact hP, hD⟩, hS.F ht⟩) hS.2.2 hd hlk
theorem j_vret {pc : Nat}  (C : Cx X l G cc nL own none d mc ms post) (hd : decode cc pc = .ok (.return_, 1)) (h : post none ws) : J X nL mc ms ws pc lv [] := by
  obtain ⟨p, l, e, R, s, m, args, below, meth, c, A, G, Q⟩ := X
  obtain ⟨hx, hb, hml, hown, hts, hK, hA, hlk, hrt, hR, hQ, hl0, hG, hEV⟩ := C
  intro H locs ls hP hD hS hl
  subst hQ
  exact W.vret hx hb hrt (fun t ht hW => ⟨⟨_, ws, rfl, h, by rw [ht]; exact hP, hD⟩, hS.F ht⟩) hS.2.2 hd hlk
/-- the words of a call of an instance method -/
def CW (own : String) (idx : Nat) (y : MethodName) (cy : ByteArray) (mL : Nat) (rt : Option FieldType) (np : Nat) : Prop :=
  Cond.methodLink own idx y ∈ gtbl ∧ Cond.instanceMethod y ∈ gtbl ∧ Cond.selects y.cls y y ∈ gtbl ∧ Cond.initialized y.cls ∈ gtbl ∧ Cond.code y cy mL rt ∈ gtbl ∧ (y.cls ≠ "java/lang/invoke/MethodHandle" ∧ y.cls ≠ "java/lang/invoke/VarHandle" ∧ (parseMethodDescriptor y.desc).map (fun d => d.parameters.length) = some np) ∧ mL ≤ 41
def CS (own : String) (idx : Nat) (y : MethodName) (cy : ByteArray) (mL : Nat) (rt : Option FieldType) (np : Nat) : Prop :=
  Cond.methodLink own idx y ∈ gtbl ∧ Cond.static y ∈ gtbl ∧ Cond.initialized y.cls ∈ gtbl ∧ Cond.code y cy mL rt ∈ gtbl ∧ (y.cls ≠ "java/lang/invoke/MethodHandle" ∧ y.cls ≠ "java/lang/invoke/VarHandle" ∧ (parseMethodDescriptor y.desc).map (fun d => d.parameters.length) = some np) ∧ mL ≤ 41

end JL
