def bI (p : Prop) [Decidable p] : Int32 := if p then 1 else 0
theorem bI_t {p : Prop} [Decidable p] (h : p) : bI p = 1 := if_pos h
theorem bI_f {p : Prop} [Decidable p] (h : ¬ p) : bI p = 0 := if_neg h
theorem bI_nar (p : Prop) [Decidable p] : narrow .boolean (.int (bI p)) = .int (bI p) := by
  unfold bI
  by_cases h : p
  · rw [if_pos h]; rfl
  · rw [if_neg h]; rfl
def pI (r : Int32) (w' : va_W) : Option Value → va_W → Prop := fun v w => v = some (.int r) ∧ w = w'
def pL (r : Int64) (w' : va_W) : Option Value → va_W → Prop := fun v w => v = some (.long r) ∧ w = w'
def pV (w' : va_W) : Option Value → va_W → Prop := fun v w => v = none ∧ w = w'
section JN
variable {X : JX} {l : Launch} {G : GG} {cc : ByteArray} {nL : Nat} {own : String} {rt : Option FieldType} {d mc ms : Nat} {post : Option Value → va_W → Prop} {k n pc : Nat} {ws : va_W} {lv : List (Nat × Value)} {st : List Value} {a b : Nat}
theorem j_iaddN (q : Nat) (C : Cx X l G cc nL own rt d mc ms post) (hd : decode cc pc = .ok (.iadd, 1)) (hq : pc + 1 = q)  (kk : J X nL k n ws q lv (.int (nI (a + b)) :: st)) : J X nL k n ws pc lv (.int (nI b) :: .int (nI a) :: st) := by
  refine j_iadd q C hd hq ?_
  rw [nI_add]; exact kk
theorem j_imulN (q : Nat) (C : Cx X l G cc nL own rt d mc ms post) (hd : decode cc pc = .ok (.imul, 1)) (hq : pc + 1 = q)  (kk : J X nL k n ws q lv (.int (nI (a * b)) :: st)) : J X nL k n ws pc lv (.int (nI b) :: .int (nI a) :: st) := by
  refine j_imul q C hd hq ?_
  rw [pk_mul]; exact kk
theorem j_isubN (q : Nat) (C : Cx X l G cc nL own rt d mc ms post) (hd : decode cc pc = .ok (.isub, 1)) (hq : pc + 1 = q) (h : b ≤ a) (kk : J X nL k n ws q lv (.int (nI (a - b)) :: st)) : J X nL k n ws pc lv (.int (nI b) :: .int (nI a) :: st) := by
  refine j_isub q C hd hq ?_
  rw [pk_sub h]; exact kk
theorem j_idivN (q : Nat) (C : Cx X l G cc nL own rt d mc ms post) (hd : decode cc pc = .ok (.idiv, 1)) (hq : pc + 1 = q) (ha : a < 2 ^ 31) (h0 : 0 < b) (hb : b < 2 ^ 31) (kk : J X nL k n ws q lv (.int (nI (a / b)) :: st)) : J X nL k n ws pc lv (.int (nI b) :: .int (nI a) :: st) := by
  refine j_idiv q C hd hq (nI_ne0 h0 hb) ?_
  rw [pk_div ha h0 hb]; exact kk
theorem j_i2lN (q : Nat) (C : Cx X l G cc nL own rt d mc ms post) (hd : decode cc pc = .ok (.i2l, 1)) (hq : pc + 1 = q) (ha : a < 2 ^ 31) (kk : J X nL k n ws q lv (.long (lN a) :: st)) : J X nL k n ws pc lv (.int (nI a) :: st) := by
  refine j_i2l q C hd hq ?_
  rw [nI_l ha]; exact kk
theorem j_iincN (q : Nat) {i : Nat} {z : Nat} (C : Cx X l G cc nL own rt d mc ms post) (hd : decode cc pc = .ok (.iinc i (z : Int), 3)) (hq : pc + 3 = q) (hg : jget lv i = some (.int (nI a))) (hc : jcat lv i = true) (hi : i < nL) (kk : J X nL k n ws q ((i, .int (nI (a + z))) :: lv) st) : J X nL k n ws pc lv st := by
  refine j_iinc q C hd hq hg (v := nI (a + z)) ?_ hc hi kk
  rw [← nI_add]; rfl
theorem j_icmp_eqN (tgt q : Nat) {off : Int} (C : Cx X l G cc nL own rt d mc ms post) (hd : decode cc pc = .ok (.if_icmp .eq off, 3)) (ht : (pc : Int) + off = (tgt : Int)) (hq : pc + 3 = q) (ha : a < 2 ^ 31) (hb : b < 2 ^ 31) (kt : a = b → J X nL k n ws tgt lv st) (kf : ¬ a = b → J X nL k n ws q lv st) : J X nL k n ws pc lv (.int (nI b) :: .int (nI a) :: st) :=
  j_icmp_eq tgt q C hd ht hq (fun h => kt ((nI_eq ha hb).mp h)) (fun h => kf (fun e => h ((nI_eq ha hb).mpr e)))
theorem j_icmp_neN (tgt q : Nat) {off : Int} (C : Cx X l G cc nL own rt d mc ms post) (hd : decode cc pc = .ok (.if_icmp .ne off, 3)) (ht : (pc : Int) + off = (tgt : Int)) (hq : pc + 3 = q) (ha : a < 2 ^ 31) (hb : b < 2 ^ 31) (kt : ¬ a = b → J X nL k n ws tgt lv st) (kf : a = b → J X nL k n ws q lv st) : J X nL k n ws pc lv (.int (nI b) :: .int (nI a) :: st) :=
  j_icmp_ne tgt q C hd ht hq (fun h => kt (fun e => h ((nI_eq ha hb).mpr e))) (fun h => kf ((nI_eq ha hb).mp h))
theorem j_icmp_ltN (tgt q : Nat) {off : Int} (C : Cx X l G cc nL own rt d mc ms post) (hd : decode cc pc = .ok (.if_icmp .lt off, 3)) (ht : (pc : Int) + off = (tgt : Int)) (hq : pc + 3 = q) (ha : a < 2 ^ 31) (hb : b < 2 ^ 31) (kt : a < b → J X nL k n ws tgt lv st) (kf : b ≤ a → J X nL k n ws q lv st) : J X nL k n ws pc lv (.int (nI b) :: .int (nI a) :: st) :=
  j_icmp_lt tgt q C hd ht hq (fun h => kt ((nI_ltI ha hb).mp h)) (fun h => kf (Nat.le_of_not_lt fun e => h ((nI_ltI ha hb).mpr e)))
theorem j_icmp_geN (tgt q : Nat) {off : Int} (C : Cx X l G cc nL own rt d mc ms post) (hd : decode cc pc = .ok (.if_icmp .ge off, 3)) (ht : (pc : Int) + off = (tgt : Int)) (hq : pc + 3 = q) (ha : a < 2 ^ 31) (hb : b < 2 ^ 31) (kt : b ≤ a → J X nL k n ws tgt lv st) (kf : a < b → J X nL k n ws q lv st) : J X nL k n ws pc lv (.int (nI b) :: .int (nI a) :: st) :=
  j_icmp_ge tgt q C hd ht hq (fun h => kt ((nI_leI hb ha).mp h)) (fun h => kf (Nat.lt_of_not_le fun e => h ((nI_leI hb ha).mpr e)))
theorem j_icmp_gtN (tgt q : Nat) {off : Int} (C : Cx X l G cc nL own rt d mc ms post) (hd : decode cc pc = .ok (.if_icmp .gt off, 3)) (ht : (pc : Int) + off = (tgt : Int)) (hq : pc + 3 = q) (ha : a < 2 ^ 31) (hb : b < 2 ^ 31) (kt : b < a → J X nL k n ws tgt lv st) (kf : a ≤ b → J X nL k n ws q lv st) : J X nL k n ws pc lv (.int (nI b) :: .int (nI a) :: st) :=
  j_icmp_gt tgt q C hd ht hq (fun h => kt ((nI_ltI hb ha).mp h)) (fun h => kf (Nat.le_of_not_lt fun e => h ((nI_ltI hb ha).mpr e)))
theorem j_icmp_leN (tgt q : Nat) {off : Int} (C : Cx X l G cc nL own rt d mc ms post) (hd : decode cc pc = .ok (.if_icmp .le off, 3)) (ht : (pc : Int) + off = (tgt : Int)) (hq : pc + 3 = q) (ha : a < 2 ^ 31) (hb : b < 2 ^ 31) (kt : a ≤ b → J X nL k n ws tgt lv st) (kf : b < a → J X nL k n ws q lv st) : J X nL k n ws pc lv (.int (nI b) :: .int (nI a) :: st) :=
  j_icmp_le tgt q C hd ht hq (fun h => kt ((nI_leI ha hb).mp h)) (fun h => kf (Nat.lt_of_not_le fun e => h ((nI_leI ha hb).mpr e)))
theorem j_if_eqN (tgt q : Nat) {off : Int} (C : Cx X l G cc nL own rt d mc ms post) (hd : decode cc pc = .ok (.ifCond .eq off, 3)) (ht : (pc : Int) + off = (tgt : Int)) (hq : pc + 3 = q) (ha : a < 2 ^ 31) (kt : a = 0 → J X nL k n ws tgt lv st) (kf : 0 < a → J X nL k n ws q lv st) : J X nL k n ws pc lv (.int (nI a) :: st) :=
  j_if_eq tgt q C hd ht hq (fun h => kt (Decidable.byContradiction fun e => nI_ne0 (Nat.pos_of_ne_zero e) ha h)) (fun h => kf (Nat.pos_of_ne_zero fun e => h (by rw [e]; rfl)))
theorem j_if_neN (tgt q : Nat) {off : Int} (C : Cx X l G cc nL own rt d mc ms post) (hd : decode cc pc = .ok (.ifCond .ne off, 3)) (ht : (pc : Int) + off = (tgt : Int)) (hq : pc + 3 = q) (ha : a < 2 ^ 31) (kt : 0 < a → J X nL k n ws tgt lv st) (kf : a = 0 → J X nL k n ws q lv st) : J X nL k n ws pc lv (.int (nI a) :: st) :=
  j_if_ne tgt q C hd ht hq (fun h => kt (Nat.pos_of_ne_zero fun e => h (by rw [e]; rfl))) (fun h => kf (Decidable.byContradiction fun e => nI_ne0 (Nat.pos_of_ne_zero e) ha h))
theorem j_if_gtN (tgt q : Nat) {off : Int} (C : Cx X l G cc nL own rt d mc ms post) (hd : decode cc pc = .ok (.ifCond .gt off, 3)) (ht : (pc : Int) + off = (tgt : Int)) (hq : pc + 3 = q) (ha : a < 2 ^ 31) (kt : 0 < a → J X nL k n ws tgt lv st) (kf : a = 0 → J X nL k n ws q lv st) : J X nL k n ws pc lv (.int (nI a) :: st) :=
  j_if_gt tgt q C hd ht hq (fun h => kt (Nat.pos_of_ne_zero fun e => by rw [e] at h; exact absurd h (by decide))) (fun h => kf (Decidable.byContradiction fun e => h (by rw [← nI_0]; exact nI_lt (Nat.pos_of_ne_zero e) ha)))
theorem j_if_leN (tgt q : Nat) {off : Int} (C : Cx X l G cc nL own rt d mc ms post) (hd : decode cc pc = .ok (.ifCond .le off, 3)) (ht : (pc : Int) + off = (tgt : Int)) (hq : pc + 3 = q) (ha : a < 2 ^ 31) (kt : a = 0 → J X nL k n ws tgt lv st) (kf : 0 < a → J X nL k n ws q lv st) : J X nL k n ws pc lv (.int (nI a) :: st) :=
  j_if_le tgt q C hd ht hq (fun h => kt (Decidable.byContradiction fun e => nI_nle (Nat.pos_of_ne_zero e) ha h)) (fun h => kf (Nat.pos_of_ne_zero fun e => h (by rw [e]; decide)))
theorem j_if_ltN (tgt q : Nat) {off : Int} (C : Cx X l G cc nL own rt d mc ms post) (hd : decode cc pc = .ok (.ifCond .lt off, 3)) (ht : (pc : Int) + off = (tgt : Int)) (hq : pc + 3 = q) (ha : a < 2 ^ 31) (kf : J X nL k n ws q lv st) : J X nL k n ws pc lv (.int (nI a) :: st) :=
  j_if_lt tgt q C hd ht hq (fun h => absurd h (nI_pos ha)) (fun _ => kf)
theorem j_if_geN (tgt q : Nat) {off : Int} (C : Cx X l G cc nL own rt d mc ms post) (hd : decode cc pc = .ok (.ifCond .ge off, 3)) (ht : (pc : Int) + off = (tgt : Int)) (hq : pc + 3 = q) (ha : a < 2 ^ 31) (kt : J X nL k n ws tgt lv st) : J X nL k n ws pc lv (.int (nI a) :: st) :=
  j_if_ge tgt q C hd ht hq (fun _ => kt) (fun h => absurd (nI_pos' ha) h)
theorem j_if_eqB (tgt q : Nat) {off : Int} {p : Prop} [Decidable p] (C : Cx X l G cc nL own rt d mc ms post) (hd : decode cc pc = .ok (.ifCond .eq off, 3)) (ht : (pc : Int) + off = (tgt : Int)) (hq : pc + 3 = q) (kt : ¬ p → J X nL k n ws tgt lv st) (kf : p → J X nL k n ws q lv st) : J X nL k n ws pc lv (.int (bI p) :: st) :=
  j_if_eq tgt q C hd ht hq (fun h => kt (fun hp => by rw [bI_t hp] at h; exact absurd h (by decide))) (fun h => kf (Decidable.byContradiction fun hp => h (bI_f hp)))
theorem j_if_neB (tgt q : Nat) {off : Int} {p : Prop} [Decidable p] (C : Cx X l G cc nL own rt d mc ms post) (hd : decode cc pc = .ok (.ifCond .ne off, 3)) (ht : (pc : Int) + off = (tgt : Int)) (hq : pc + 3 = q) (kt : p → J X nL k n ws tgt lv st) (kf : ¬ p → J X nL k n ws q lv st) : J X nL k n ws pc lv (.int (bI p) :: st) :=
  j_if_ne tgt q C hd ht hq (fun h => kt (Decidable.byContradiction fun hp => h (bI_f hp))) (fun h => kf (fun hp => by rw [bI_t hp] at h; exact absurd h (by decide)))
theorem j_if_ltL (tgt q : Nat) {off : Int} {x y : Int64} (C : Cx X l G cc nL own rt d mc ms post) (hd : decode cc pc = .ok (.ifCond .lt off, 3)) (ht : (pc : Int) + off = (tgt : Int)) (hq : pc + 3 = q) (kt : x < y → J X nL k n ws tgt lv st) (kf : ¬ x < y → J X nL k n ws q lv st) : J X nL k n ws pc lv (.int (lg_cmp x y) :: st) :=
  j_if_lt tgt q C hd ht hq (fun h => kt ((lg_cmp_lt x y).mp h)) (fun h => kf (fun e => h ((lg_cmp_lt x y).mpr e)))
theorem j_if_gtL (tgt q : Nat) {off : Int} {x y : Int64} (C : Cx X l G cc nL own rt d mc ms post) (hd : decode cc pc = .ok (.ifCond .gt off, 3)) (ht : (pc : Int) + off = (tgt : Int)) (hq : pc + 3 = q) (kt : y < x → J X nL k n ws tgt lv st) (kf : ¬ y < x → J X nL k n ws q lv st) : J X nL k n ws pc lv (.int (lg_cmp x y) :: st) :=
  j_if_gt tgt q C hd ht hq (fun h => kt ((lg_cmp_gt x y).mp h)) (fun h => kf (fun e => h ((lg_cmp_gt x y).mpr e)))
theorem j_if_leL (tgt q : Nat) {off : Int} {x y : Int64} (C : Cx X l G cc nL own rt d mc ms post) (hd : decode cc pc = .ok (.ifCond .le off, 3)) (ht : (pc : Int) + off = (tgt : Int)) (hq : pc + 3 = q) (kt : x ≤ y → J X nL k n ws tgt lv st) (kf : ¬ x ≤ y → J X nL k n ws q lv st) : J X nL k n ws pc lv (.int (lg_cmp x y) :: st) :=
  j_if_le tgt q C hd ht hq (fun h => kt ((lg_cmp_le x y).mp h)) (fun h => kf (fun e => h ((lg_cmp_le x y).mpr e)))
theorem j_if_geL (tgt q : Nat) {off : Int} {x y : Int64} (C : Cx X l G cc nL own rt d mc ms post) (hd : decode cc pc = .ok (.ifCond .ge off, 3)) (ht : (pc : Int) + off = (tgt : Int)) (hq : pc + 3 = q) (kt : y ≤ x → J X nL k n ws tgt lv st) (kf : ¬ y ≤ x → J X nL k n ws q lv st) : J X nL k n ws pc lv (.int (lg_cmp x y) :: st) :=
  j_if_ge tgt q C hd ht hq (fun h => kt ((lg_cmp_ge x y).mp h)) (fun h => kf (fun e => h ((lg_cmp_ge x y).mpr e)))
theorem j_if_eqL (tgt q : Nat) {off : Int} {x y : Int64} (C : Cx X l G cc nL own rt d mc ms post) (hd : decode cc pc = .ok (.ifCond .eq off, 3)) (ht : (pc : Int) + off = (tgt : Int)) (hq : pc + 3 = q) (kt : x = y → J X nL k n ws tgt lv st) (kf : ¬ x = y → J X nL k n ws q lv st) : J X nL k n ws pc lv (.int (lg_cmp x y) :: st) :=
  j_if_eq tgt q C hd ht hq (fun h => kt ((lg_cmp_eq x y).mp h)) (fun h => kf (fun e => h ((lg_cmp_eq x y).mpr e)))
theorem j_if_neL (tgt q : Nat) {off : Int} {x y : Int64} (C : Cx X l G cc nL own rt d mc ms post) (hd : decode cc pc = .ok (.ifCond .ne off, 3)) (ht : (pc : Int) + off = (tgt : Int)) (hq : pc + 3 = q) (kt : ¬ x = y → J X nL k n ws tgt lv st) (kf : x = y → J X nL k n ws q lv st) : J X nL k n ws pc lv (.int (lg_cmp x y) :: st) :=
  j_if_ne tgt q C hd ht hq (fun h => kt (fun e => h ((lg_cmp_eq x y).mpr e))) (fun h => kf ((lg_cmp_eq x y).mp h))
section Call2
variable {y : MethodName} {cy : ByteArray} {mL idx d' mc' ms' : Nat} {rt' : Option FieldType} {As st0 : List Value} {o : Nat} {ad : Nat → Nat} {M : MS} {w' : va_W} {x : Int32} {z : Int64}
/-- a call of the reference's own method, over its own cells -/
theorem j_mI (q : Nat) (C : Cx X l G cc nL RX11 rt d 0 0 post) (hd : decode cc pc = .ok (.invokevirtual idx, 3)) (hq : pc + 3 = q)
    (hw : CW RX11 idx y cy mL rt' As.length) (hy : y.cls = RX11) (hC : Con l G y cy mL rt' d' 0 0 (.ref o :: As) (mw o ad G.2.1 M) (pI x w'))
    (hdd : d' + 1 ≤ d) (hst : st0 = As.reverse ++ .ref o :: st) (hrm : (st.map fun v => v.category).sum ≤ 8)
    (kk : J X nL 0 0 w' q lv (.int x :: st)) : J X nL 0 0 (mw o ad G.2.1 M) pc lv st0 := by
  refine j_callVs q C hd hq hw hC ⟨hdd, Nat.le_refl _, Nat.le_refl _⟩ hst hrm 0 rfl (ci := 11) (T := TX11) (N := 38) (by rw [hy]; rfl) (fun v w hp => ?_)
  obtain ⟨rfl, rfl⟩ := hp
  exact kk
theorem j_sI (q : Nat) (C : Cx X l G cc nL own rt d mc ms post) (hd : decode cc pc = .ok (.invokestatic idx, 3)) (hq : pc + 3 = q)
    (hw : CS own idx y cy mL rt' As.length) (hC : Con l G y cy mL rt' d' 0 0 As [] (pI x []))
    (hdd : d' + 1 ≤ d) (hk : k ≤ mc ∧ n ≤ ms) (hst : st0 = As.reverse ++ st) (hrm : (st.map fun v => v.category).sum ≤ 8)
    (kk : J X nL k n ws q lv (.int x :: st)) : J X nL k n ws pc lv st0 := by
  refine j_callS0 q C hd hq hw hC ⟨hdd, hk.1, hk.2⟩ hst hrm (fun v w hp => ?_)
  obtain ⟨rfl, rfl⟩ := hp
  rw [List.append_nil]
  exact kk
/-- a call of the reference's own method, over its own cells -/
theorem j_mL (q : Nat) (C : Cx X l G cc nL RX11 rt d 0 0 post) (hd : decode cc pc = .ok (.invokevirtual idx, 3)) (hq : pc + 3 = q)
    (hw : CW RX11 idx y cy mL rt' As.length) (hy : y.cls = RX11) (hC : Con l G y cy mL rt' d' 0 0 (.ref o :: As) (mw o ad G.2.1 M) (pL z w'))
    (hdd : d' + 1 ≤ d) (hst : st0 = As.reverse ++ .ref o :: st) (hrm : (st.map fun v => v.category).sum ≤ 8)
    (kk : J X nL 0 0 w' q lv (.long z :: st)) : J X nL 0 0 (mw o ad G.2.1 M) pc lv st0 := by
  refine j_callVs q C hd hq hw hC ⟨hdd, Nat.le_refl _, Nat.le_refl _⟩ hst hrm 0 rfl (ci := 11) (T := TX11) (N := 38) (by rw [hy]; rfl) (fun v w hp => ?_)
  obtain ⟨rfl, rfl⟩ := hp
  exact kk
theorem j_sL (q : Nat) (C : Cx X l G cc nL own rt d mc ms post) (hd : decode cc pc = .ok (.invokestatic idx, 3)) (hq : pc + 3 = q)
    (hw : CS own idx y cy mL rt' As.length) (hC : Con l G y cy mL rt' d' 0 0 As [] (pL z []))
    (hdd : d' + 1 ≤ d) (hk : k ≤ mc ∧ n ≤ ms) (hst : st0 = As.reverse ++ st) (hrm : (st.map fun v => v.category).sum ≤ 8)
    (kk : J X nL k n ws q lv (.long z :: st)) : J X nL k n ws pc lv st0 := by
  refine j_callS0 q C hd hq hw hC ⟨hdd, hk.1, hk.2⟩ hst hrm (fun v w hp => ?_)
  obtain ⟨rfl, rfl⟩ := hp
  rw [List.append_nil]
  exact kk
/-- a call of the reference's own method, over its own cells -/
theorem j_mV (q : Nat) (C : Cx X l G cc nL RX11 rt d 0 0 post) (hd : decode cc pc = .ok (.invokevirtual idx, 3)) (hq : pc + 3 = q)
    (hw : CW RX11 idx y cy mL rt' As.length) (hy : y.cls = RX11) (hC : Con l G y cy mL rt' d' 0 0 (.ref o :: As) (mw o ad G.2.1 M) (pV w'))
    (hdd : d' + 1 ≤ d) (hst : st0 = As.reverse ++ .ref o :: st) (hrm : (st.map fun v => v.category).sum ≤ 8)
    (kk : J X nL 0 0 w' q lv (st)) : J X nL 0 0 (mw o ad G.2.1 M) pc lv st0 := by
  refine j_callVs q C hd hq hw hC ⟨hdd, Nat.le_refl _, Nat.le_refl _⟩ hst hrm 0 rfl (ci := 11) (T := TX11) (N := 38) (by rw [hy]; rfl) (fun v w hp => ?_)
  obtain ⟨rfl, rfl⟩ := hp
  exact kk
theorem j_sV (q : Nat) (C : Cx X l G cc nL own rt d mc ms post) (hd : decode cc pc = .ok (.invokestatic idx, 3)) (hq : pc + 3 = q)
    (hw : CS own idx y cy mL rt' As.length) (hC : Con l G y cy mL rt' d' 0 0 As [] (pV []))
    (hdd : d' + 1 ≤ d) (hk : k ≤ mc ∧ n ≤ ms) (hst : st0 = As.reverse ++ st) (hrm : (st.map fun v => v.category).sum ≤ 8)
    (kk : J X nL k n ws q lv (st)) : J X nL k n ws pc lv st0 := by
  refine j_callS0 q C hd hq hw hC ⟨hdd, hk.1, hk.2⟩ hst hrm (fun v w hp => ?_)
  obtain ⟨rfl, rfl⟩ := hp
  rw [List.append_nil]
  exact kk
end Call2
end JN
