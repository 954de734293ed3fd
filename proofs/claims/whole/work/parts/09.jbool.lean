section JB
variable {X : JX} {l : Launch} {G : GG} {cc : ByteArray} {nL : Nat} {own : String} {rt : Option FieldType} {d mc ms : Nat} {post : Option Value → va_W → Prop} {k n pc : Nat} {ws : va_W} {lv : List (Nat × Value)} {st : List Value} {a b : Nat}
theorem j_tabIn (tgt : Nat) {dflt lo hi : Int} {offs : Array Int} {len : Nat} {x : Int32} {off : Int} (C : Cx X l G cc nL own rt d mc ms post) (hd : decode cc pc = .ok (.tableswitch dflt lo hi offs, len)) (h1 : ¬ x.toInt < lo) (h2 : ¬ hi < x.toInt) (ho : offs[(x.toInt - lo).toNat]? = some off) (ht : (pc : Int) + off = (tgt : Int)) (kk : J X nL k n ws tgt lv st) : J X nL k n ws pc lv (.int x :: st) := by
  obtain ⟨p, l, e, R, s, m, args, below, meth, c, A, G, Q⟩ := X
  obtain ⟨hx, hb, hml, hown, hts, hK, hA, hlk, hrt, hR, hQ, hl0, hG, hEV⟩ := C
  intro H locs ls hP hD hS hl
  exact lv_tableIn hx hb hd h1 h2 ho ht (kk H locs ls hP hD hS hl)
theorem j_tabOut (tgt : Nat) {dflt lo hi : Int} {offs : Array Int} {len : Nat} {x : Int32} (C : Cx X l G cc nL own rt d mc ms post) (hd : decode cc pc = .ok (.tableswitch dflt lo hi offs, len)) (h : x.toInt < lo ∨ hi < x.toInt) (ht : (pc : Int) + dflt = (tgt : Int)) (kk : J X nL k n ws tgt lv st) : J X nL k n ws pc lv (.int x :: st) := by
  obtain ⟨p, l, e, R, s, m, args, below, meth, c, A, G, Q⟩ := X
  obtain ⟨hx, hb, hml, hown, hts, hK, hA, hlk, hrt, hR, hQ, hl0, hG, hEV⟩ := C
  intro H locs ls hP hD hS hl
  exact lv_tableOut hx hb hd h ht (kk H locs ls hP hD hS hl)
theorem j_bool_icmp_eqN (q : Nat)  {off : Int} (C : Cx X l G cc nL own rt d mc ms post) (hd : decode cc pc = .ok (.if_icmp .eq off, 3)) (ho : off = 7) (h1 : decode cc (pc + 3) = .ok (.iconst 1, 1)) (h2 : decode cc (pc + 4) = .ok (.goto 4, 3)) (h3 : decode cc (pc + 7) = .ok (.iconst 0, 1)) (hq : pc + 8 = q) (ha : a < 2 ^ 31) (hb : b < 2 ^ 31) (kk : J X nL k n ws q lv (.int (bI (¬ a = b)) :: st)) : J X nL k n ws pc lv (.int (nI b) :: .int (nI a) :: st) := by
  subst ho
  refine j_icmp_eqN (pc + 7) (pc + 3) C hd (by omega) rfl ha hb (fun h => ?_) (fun h => ?_)
  · refine j_iconst q C h3 (by omega) (v := 0) (by decide) ?_
    rw [bI_f (by first | omega | (intro e; exact absurd e h) | (intro e; exact absurd h e) | exact h)] at kk; exact kk
  · refine j_iconst (pc + 4) C h1 (by omega) (v := 1) (by decide) ?_
    refine j_goto q C h2 (by omega) ?_
    rw [bI_t (by first | exact h | omega | exact Decidable.not_not.mp h)] at kk; exact kk
theorem j_bool_icmp_neN (q : Nat)  {off : Int} (C : Cx X l G cc nL own rt d mc ms post) (hd : decode cc pc = .ok (.if_icmp .ne off, 3)) (ho : off = 7) (h1 : decode cc (pc + 3) = .ok (.iconst 1, 1)) (h2 : decode cc (pc + 4) = .ok (.goto 4, 3)) (h3 : decode cc (pc + 7) = .ok (.iconst 0, 1)) (hq : pc + 8 = q) (ha : a < 2 ^ 31) (hb : b < 2 ^ 31) (kk : J X nL k n ws q lv (.int (bI (a = b)) :: st)) : J X nL k n ws pc lv (.int (nI b) :: .int (nI a) :: st) := by
  subst ho
  refine j_icmp_neN (pc + 7) (pc + 3) C hd (by omega) rfl ha hb (fun h => ?_) (fun h => ?_)
  · refine j_iconst q C h3 (by omega) (v := 0) (by decide) ?_
    rw [bI_f (by first | omega | (intro e; exact absurd e h) | (intro e; exact absurd h e) | exact h)] at kk; exact kk
  · refine j_iconst (pc + 4) C h1 (by omega) (v := 1) (by decide) ?_
    refine j_goto q C h2 (by omega) ?_
    rw [bI_t (by first | exact h | omega | exact Decidable.not_not.mp h)] at kk; exact kk
theorem j_bool_icmp_ltN (q : Nat)  {off : Int} (C : Cx X l G cc nL own rt d mc ms post) (hd : decode cc pc = .ok (.if_icmp .lt off, 3)) (ho : off = 7) (h1 : decode cc (pc + 3) = .ok (.iconst 1, 1)) (h2 : decode cc (pc + 4) = .ok (.goto 4, 3)) (h3 : decode cc (pc + 7) = .ok (.iconst 0, 1)) (hq : pc + 8 = q) (ha : a < 2 ^ 31) (hb : b < 2 ^ 31) (kk : J X nL k n ws q lv (.int (bI (b ≤ a)) :: st)) : J X nL k n ws pc lv (.int (nI b) :: .int (nI a) :: st) := by
  subst ho
  refine j_icmp_ltN (pc + 7) (pc + 3) C hd (by omega) rfl ha hb (fun h => ?_) (fun h => ?_)
  · refine j_iconst q C h3 (by omega) (v := 0) (by decide) ?_
    rw [bI_f (by first | omega | (intro e; exact absurd e h) | (intro e; exact absurd h e) | exact h)] at kk; exact kk
  · refine j_iconst (pc + 4) C h1 (by omega) (v := 1) (by decide) ?_
    refine j_goto q C h2 (by omega) ?_
    rw [bI_t (by first | exact h | omega | exact Decidable.not_not.mp h)] at kk; exact kk
theorem j_bool_icmp_geN (q : Nat)  {off : Int} (C : Cx X l G cc nL own rt d mc ms post) (hd : decode cc pc = .ok (.if_icmp .ge off, 3)) (ho : off = 7) (h1 : decode cc (pc + 3) = .ok (.iconst 1, 1)) (h2 : decode cc (pc + 4) = .ok (.goto 4, 3)) (h3 : decode cc (pc + 7) = .ok (.iconst 0, 1)) (hq : pc + 8 = q) (ha : a < 2 ^ 31) (hb : b < 2 ^ 31) (kk : J X nL k n ws q lv (.int (bI (a < b)) :: st)) : J X nL k n ws pc lv (.int (nI b) :: .int (nI a) :: st) := by
  subst ho
  refine j_icmp_geN (pc + 7) (pc + 3) C hd (by omega) rfl ha hb (fun h => ?_) (fun h => ?_)
  · refine j_iconst q C h3 (by omega) (v := 0) (by decide) ?_
    rw [bI_f (by first | omega | (intro e; exact absurd e h) | (intro e; exact absurd h e) | exact h)] at kk; exact kk
  · refine j_iconst (pc + 4) C h1 (by omega) (v := 1) (by decide) ?_
    refine j_goto q C h2 (by omega) ?_
    rw [bI_t (by first | exact h | omega | exact Decidable.not_not.mp h)] at kk; exact kk
theorem j_bool_icmp_gtN (q : Nat)  {off : Int} (C : Cx X l G cc nL own rt d mc ms post) (hd : decode cc pc = .ok (.if_icmp .gt off, 3)) (ho : off = 7) (h1 : decode cc (pc + 3) = .ok (.iconst 1, 1)) (h2 : decode cc (pc + 4) = .ok (.goto 4, 3)) (h3 : decode cc (pc + 7) = .ok (.iconst 0, 1)) (hq : pc + 8 = q) (ha : a < 2 ^ 31) (hb : b < 2 ^ 31) (kk : J X nL k n ws q lv (.int (bI (a ≤ b)) :: st)) : J X nL k n ws pc lv (.int (nI b) :: .int (nI a) :: st) := by
  subst ho
  refine j_icmp_gtN (pc + 7) (pc + 3) C hd (by omega) rfl ha hb (fun h => ?_) (fun h => ?_)
  · refine j_iconst q C h3 (by omega) (v := 0) (by decide) ?_
    rw [bI_f (by first | omega | (intro e; exact absurd e h) | (intro e; exact absurd h e) | exact h)] at kk; exact kk
  · refine j_iconst (pc + 4) C h1 (by omega) (v := 1) (by decide) ?_
    refine j_goto q C h2 (by omega) ?_
    rw [bI_t (by first | exact h | omega | exact Decidable.not_not.mp h)] at kk; exact kk
theorem j_bool_icmp_leN (q : Nat)  {off : Int} (C : Cx X l G cc nL own rt d mc ms post) (hd : decode cc pc = .ok (.if_icmp .le off, 3)) (ho : off = 7) (h1 : decode cc (pc + 3) = .ok (.iconst 1, 1)) (h2 : decode cc (pc + 4) = .ok (.goto 4, 3)) (h3 : decode cc (pc + 7) = .ok (.iconst 0, 1)) (hq : pc + 8 = q) (ha : a < 2 ^ 31) (hb : b < 2 ^ 31) (kk : J X nL k n ws q lv (.int (bI (b < a)) :: st)) : J X nL k n ws pc lv (.int (nI b) :: .int (nI a) :: st) := by
  subst ho
  refine j_icmp_leN (pc + 7) (pc + 3) C hd (by omega) rfl ha hb (fun h => ?_) (fun h => ?_)
  · refine j_iconst q C h3 (by omega) (v := 0) (by decide) ?_
    rw [bI_f (by first | omega | (intro e; exact absurd e h) | (intro e; exact absurd h e) | exact h)] at kk; exact kk
  · refine j_iconst (pc + 4) C h1 (by omega) (v := 1) (by decide) ?_
    refine j_goto q C h2 (by omega) ?_
    rw [bI_t (by first | exact h | omega | exact Decidable.not_not.mp h)] at kk; exact kk
theorem j_bool_icmp_eq (q : Nat) {x y : Int32} {off : Int} (C : Cx X l G cc nL own rt d mc ms post) (hd : decode cc pc = .ok (.if_icmp .eq off, 3)) (ho : off = 7) (h1 : decode cc (pc + 3) = .ok (.iconst 1, 1)) (h2 : decode cc (pc + 4) = .ok (.goto 4, 3)) (h3 : decode cc (pc + 7) = .ok (.iconst 0, 1)) (hq : pc + 8 = q)  (kk : J X nL k n ws q lv (.int (bI (¬ x = y)) :: st)) : J X nL k n ws pc lv (.int y :: .int x :: st) := by
  subst ho
  refine j_icmp_eq (pc + 7) (pc + 3) C hd (by omega) rfl (fun h => ?_) (fun h => ?_)
  · refine j_iconst q C h3 (by omega) (v := 0) (by decide) ?_
    rw [bI_f (by first | omega | (intro e; exact absurd e h) | (intro e; exact absurd h e) | exact h)] at kk; exact kk
  · refine j_iconst (pc + 4) C h1 (by omega) (v := 1) (by decide) ?_
    refine j_goto q C h2 (by omega) ?_
    rw [bI_t (by first | exact h | omega | exact Decidable.not_not.mp h)] at kk; exact kk
theorem j_bool_icmp_ne (q : Nat) {x y : Int32} {off : Int} (C : Cx X l G cc nL own rt d mc ms post) (hd : decode cc pc = .ok (.if_icmp .ne off, 3)) (ho : off = 7) (h1 : decode cc (pc + 3) = .ok (.iconst 1, 1)) (h2 : decode cc (pc + 4) = .ok (.goto 4, 3)) (h3 : decode cc (pc + 7) = .ok (.iconst 0, 1)) (hq : pc + 8 = q)  (kk : J X nL k n ws q lv (.int (bI (x = y)) :: st)) : J X nL k n ws pc lv (.int y :: .int x :: st) := by
  subst ho
  refine j_icmp_ne (pc + 7) (pc + 3) C hd (by omega) rfl (fun h => ?_) (fun h => ?_)
  · refine j_iconst q C h3 (by omega) (v := 0) (by decide) ?_
    rw [bI_f (by first | omega | (intro e; exact absurd e h) | (intro e; exact absurd h e) | exact h)] at kk; exact kk
  · refine j_iconst (pc + 4) C h1 (by omega) (v := 1) (by decide) ?_
    refine j_goto q C h2 (by omega) ?_
    rw [bI_t (by first | exact h | omega | exact Decidable.not_not.mp h)] at kk; exact kk
theorem j_bool_if_eq (q : Nat) {x : Int32} {off : Int} (C : Cx X l G cc nL own rt d mc ms post) (hd : decode cc pc = .ok (.ifCond .eq off, 3)) (ho : off = 7) (h1 : decode cc (pc + 3) = .ok (.iconst 1, 1)) (h2 : decode cc (pc + 4) = .ok (.goto 4, 3)) (h3 : decode cc (pc + 7) = .ok (.iconst 0, 1)) (hq : pc + 8 = q)  (kk : J X nL k n ws q lv (.int (bI (¬ x = 0)) :: st)) : J X nL k n ws pc lv (.int x :: st) := by
  subst ho
  refine j_if_eq (pc + 7) (pc + 3) C hd (by omega) rfl (fun h => ?_) (fun h => ?_)
  · refine j_iconst q C h3 (by omega) (v := 0) (by decide) ?_
    rw [bI_f (by first | omega | (intro e; exact absurd e h) | (intro e; exact absurd h e) | exact h)] at kk; exact kk
  · refine j_iconst (pc + 4) C h1 (by omega) (v := 1) (by decide) ?_
    refine j_goto q C h2 (by omega) ?_
    rw [bI_t (by first | exact h | omega | exact Decidable.not_not.mp h)] at kk; exact kk
theorem j_bool_if_ne (q : Nat) {x : Int32} {off : Int} (C : Cx X l G cc nL own rt d mc ms post) (hd : decode cc pc = .ok (.ifCond .ne off, 3)) (ho : off = 7) (h1 : decode cc (pc + 3) = .ok (.iconst 1, 1)) (h2 : decode cc (pc + 4) = .ok (.goto 4, 3)) (h3 : decode cc (pc + 7) = .ok (.iconst 0, 1)) (hq : pc + 8 = q)  (kk : J X nL k n ws q lv (.int (bI (x = 0)) :: st)) : J X nL k n ws pc lv (.int x :: st) := by
  subst ho
  refine j_if_ne (pc + 7) (pc + 3) C hd (by omega) rfl (fun h => ?_) (fun h => ?_)
  · refine j_iconst q C h3 (by omega) (v := 0) (by decide) ?_
    rw [bI_f (by first | omega | (intro e; exact absurd e h) | (intro e; exact absurd h e) | exact h)] at kk; exact kk
  · refine j_iconst (pc + 4) C h1 (by omega) (v := 1) (by decide) ?_
    refine j_goto q C h2 (by omega) ?_
    rw [bI_t (by first | exact h | omega | exact Decidable.not_not.mp h)] at kk; exact kk
theorem j_bool_if_eqB (q : Nat) {pp : Prop} [Decidable pp] {off : Int} (C : Cx X l G cc nL own rt d mc ms post) (hd : decode cc pc = .ok (.ifCond .eq off, 3)) (ho : off = 7) (h1 : decode cc (pc + 3) = .ok (.iconst 1, 1)) (h2 : decode cc (pc + 4) = .ok (.goto 4, 3)) (h3 : decode cc (pc + 7) = .ok (.iconst 0, 1)) (hq : pc + 8 = q)  (kk : J X nL k n ws q lv (.int (bI (pp)) :: st)) : J X nL k n ws pc lv (.int (bI pp) :: st) := by
  subst ho
  refine j_if_eqB (pc + 7) (pc + 3) C hd (by omega) rfl (fun h => ?_) (fun h => ?_)
  · refine j_iconst q C h3 (by omega) (v := 0) (by decide) ?_
    rw [bI_f (by first | omega | (intro e; exact absurd e h) | (intro e; exact absurd h e) | exact h)] at kk; exact kk
  · refine j_iconst (pc + 4) C h1 (by omega) (v := 1) (by decide) ?_
    refine j_goto q C h2 (by omega) ?_
    rw [bI_t (by first | exact h | omega | exact Decidable.not_not.mp h)] at kk; exact kk
theorem j_bool_if_neB (q : Nat) {pp : Prop} [Decidable pp] {off : Int} (C : Cx X l G cc nL own rt d mc ms post) (hd : decode cc pc = .ok (.ifCond .ne off, 3)) (ho : off = 7) (h1 : decode cc (pc + 3) = .ok (.iconst 1, 1)) (h2 : decode cc (pc + 4) = .ok (.goto 4, 3)) (h3 : decode cc (pc + 7) = .ok (.iconst 0, 1)) (hq : pc + 8 = q)  (kk : J X nL k n ws q lv (.int (bI (¬ pp)) :: st)) : J X nL k n ws pc lv (.int (bI pp) :: st) := by
  subst ho
  refine j_if_neB (pc + 7) (pc + 3) C hd (by omega) rfl (fun h => ?_) (fun h => ?_)
  · refine j_iconst q C h3 (by omega) (v := 0) (by decide) ?_
    rw [bI_f (by first | omega | (intro e; exact absurd e h) | (intro e; exact absurd h e) | exact h)] at kk; exact kk
  · refine j_iconst (pc + 4) C h1 (by omega) (v := 1) (by decide) ?_
    refine j_goto q C h2 (by omega) ?_
    rw [bI_t (by first | exact h | omega | exact Decidable.not_not.mp h)] at kk; exact kk
end JB
