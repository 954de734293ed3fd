abbrev MS : Type := (Nat → Int32) × (Nat → Nat → Int32) × (Nat → Nat → Int64)
def sS (M : MS) (f : Nat) (v : Int32) : MS := (va_up M.1 f v, M.2.1, M.2.2)
def aS (M : MS) (f i : Nat) (v : Int32) : MS := (M.1, va_up M.2.1 f (upd (M.2.1 f) i v), M.2.2)
def lS (M : MS) (f i : Nat) (v : Int64) : MS := (M.1, M.2.1, va_up M.2.2 f (vp_updL (M.2.2 f) i v))
/-- the reference's object and its arrays -/
def mw (o : Nat) (ad : Nat → Nat) (ty : Nat → ClassId) (M : MS) : va_W := [(o, .inr (11, [.int (M.1 0), .ref (ad 1), .ref (ad 2), .int (M.1 3), .int (M.1 4), .ref (ad 5), .ref (ad 6), .ref (ad 7), .ref (ad 8), .ref (ad 9), .ref (ad 10), .ref (ad 11), .int (M.1 12), .ref (ad 13), .int (M.1 14), .int (M.1 15), .int (M.1 16), .int (M.1 17), .int (M.1 18), .int (M.1 19), .int (M.1 20), .ref (ad 21), .int (M.1 22), .ref (ad 23), .int (M.1 24), .int (M.1 25), .ref (ad 26), .int (M.1 27), .int (M.1 28), .int (M.1 29), .ref (ad 30), .ref (ad 31), .ref (ad 32), .ref (ad 33), .ref (ad 34), .ref (ad 35), .ref (ad 36), .ref (ad 37)])), (ad 1, .inl (ty 0, 1120, .inl (M.2.1 1))), (ad 2, .inl (ty 0, 2018, .inl (M.2.1 2))), (ad 5, .inl (ty 0, 360, .inl (M.2.1 5))), (ad 6, .inl (ty 0, 3360, .inl (M.2.1 6))), (ad 7, .inl (ty 0, 6054, .inl (M.2.1 7))), (ad 8, .inl (ty 0, 1080, .inl (M.2.1 8))), (ad 9, .inl (ty 0, 3, .inl (M.2.1 9))), (ad 10, .inl (ty 0, 3, .inl (M.2.1 10))), (ad 11, .inl (ty 1, 900, .inl (M.2.1 11))), (ad 13, .inl (ty 0, 5, .inl (M.2.1 13))), (ad 21, .inl (ty 0, 1120, .inl (M.2.1 21))), (ad 23, .inl (ty 2, 4, .inl (M.2.1 23))), (ad 26, .inl (ty 0, 16144, .inl (M.2.1 26))), (ad 30, .inl (ty 0, 12, .inl (M.2.1 30))), (ad 31, .inl (ty 0, 1120, .inl (M.2.1 31))), (ad 32, .inl (ty 0, 12, .inl (M.2.1 32))), (ad 33, .inl (ty 0, 12, .inl (M.2.1 33))), (ad 34, .inl (ty 0, 4, .inl (M.2.1 34))), (ad 35, .inl (ty 0, 4, .inl (M.2.1 35))), (ad 36, .inl (ty 3, 240, .inr (.inl (M.2.2 36)))), (ad 37, .inl (ty 3, 60, .inr (.inl (M.2.2 37))))]
section RM
variable {X : JX} {l : Launch} {G : GG} {cc : ByteArray} {nL : Nat} {rt : Option FieldType} {d mc ms : Nat} {post : Option Value → va_W → Prop} {k n pc o : Nat} {ad : Nat → Nat} {M : MS} {lv : List (Nat × Value)} {st : List Value}
theorem fl_world : Cond.fieldLink RX11 13 (TX11 1).1 (TX11 1).2.1 (TX11 1).2.2.1 ∈ gtbl := gt_mem 1111 (by decide +kernel) rfl
theorem fl_head : Cond.fieldLink RX11 17 (TX11 2).1 (TX11 2).2.1 (TX11 2).2.2.1 ∈ gtbl := gt_mem 1112 (by decide +kernel) rfl
theorem fl_sittings : Cond.fieldLink RX11 92 (TX11 3).1 (TX11 3).2.1 (TX11 3).2.2.1 ∈ gtbl := gt_mem 1113 (by decide +kernel) rfl
theorem fl_lost : Cond.fieldLink RX11 95 (TX11 4).1 (TX11 4).2.1 (TX11 4).2.2.1 ∈ gtbl := gt_mem 1114 (by decide +kernel) rfl
theorem fl_book : Cond.fieldLink RX11 20 (TX11 5).1 (TX11 5).2.1 (TX11 5).2.2.1 ∈ gtbl := gt_mem 1115 (by decide +kernel) rfl
theorem fl_imageWorld : Cond.fieldLink RX11 23 (TX11 6).1 (TX11 6).2.1 (TX11 6).2.2.1 ∈ gtbl := gt_mem 1116 (by decide +kernel) rfl
theorem fl_imageHead : Cond.fieldLink RX11 26 (TX11 7).1 (TX11 7).2.1 (TX11 7).2.2.1 ∈ gtbl := gt_mem 1117 (by decide +kernel) rfl
theorem fl_imageBook : Cond.fieldLink RX11 29 (TX11 8).1 (TX11 8).2.1 (TX11 8).2.2.1 ∈ gtbl := gt_mem 1118 (by decide +kernel) rfl
theorem fl_imageLost : Cond.fieldLink RX11 32 (TX11 9).1 (TX11 9).2.1 (TX11 9).2.2.1 ∈ gtbl := gt_mem 1119 (by decide +kernel) rfl
theorem fl_imageSittings : Cond.fieldLink RX11 35 (TX11 10).1 (TX11 10).2.1 (TX11 10).2.2.1 ∈ gtbl := gt_mem 1120 (by decide +kernel) rfl
theorem fl_tape : Cond.fieldLink RX11 38 (TX11 11).1 (TX11 11).2.1 (TX11 11).2.2.1 ∈ gtbl := gt_mem 1121 (by decide +kernel) rfl
theorem fl_taped : Cond.fieldLink RX11 102 (TX11 12).1 (TX11 12).2.1 (TX11 12).2.2.1 ∈ gtbl := gt_mem 1122 (by decide +kernel) rfl
theorem fl_five : Cond.fieldLink RX11 42 (TX11 13).1 (TX11 13).2.1 (TX11 13).2.2.1 ∈ gtbl := gt_mem 1123 (by decide +kernel) rfl
theorem fl_size : Cond.fieldLink RX11 105 (TX11 14).1 (TX11 14).2.1 (TX11 14).2.2.1 ∈ gtbl := gt_mem 1124 (by decide +kernel) rfl
theorem fl_at : Cond.fieldLink RX11 108 (TX11 15).1 (TX11 15).2.1 (TX11 15).2.2.1 ∈ gtbl := gt_mem 1125 (by decide +kernel) rfl
theorem fl_from : Cond.fieldLink RX11 115 (TX11 16).1 (TX11 16).2.1 (TX11 16).2.2.1 ∈ gtbl := gt_mem 1126 (by decide +kernel) rfl
theorem fl_token : Cond.fieldLink RX11 118 (TX11 17).1 (TX11 17).2.1 (TX11 17).2.2.1 ∈ gtbl := gt_mem 1127 (by decide +kernel) rfl
theorem fl_value : Cond.fieldLink RX11 129 (TX11 18).1 (TX11 18).2.1 (TX11 18).2.2.1 ∈ gtbl := gt_mem 1128 (by decide +kernel) rfl
theorem fl_faultKind : Cond.fieldLink RX11 139 (TX11 19).1 (TX11 19).2.1 (TX11 19).2.2.1 ∈ gtbl := gt_mem 1129 (by decide +kernel) rfl
theorem fl_faultPlace : Cond.fieldLink RX11 45 (TX11 20).1 (TX11 20).2.1 (TX11 20).2.2.1 ∈ gtbl := gt_mem 1130 (by decide +kernel) rfl
theorem fl_fresh : Cond.fieldLink RX11 48 (TX11 21).1 (TX11 21).2.1 (TX11 21).2.2.1 ∈ gtbl := gt_mem 1131 (by decide +kernel) rfl
theorem fl_holdTold : Cond.fieldLink RX11 224 (TX11 22).1 (TX11 22).2.1 (TX11 22).2.2.1 ∈ gtbl := gt_mem 1132 (by decide +kernel) rfl
theorem fl_leanTold : Cond.fieldLink RX11 51 (TX11 23).1 (TX11 23).2.1 (TX11 23).2.2.1 ∈ gtbl := gt_mem 1133 (by decide +kernel) rfl
theorem fl_constantLaw : Cond.fieldLink RX11 55 (TX11 24).1 (TX11 24).2.1 (TX11 24).2.2.1 ∈ gtbl := gt_mem 1134 (by decide +kernel) rfl
theorem fl_constant : Cond.fieldLink RX11 240 (TX11 25).1 (TX11 25).2.1 (TX11 25).2.2.1 ∈ gtbl := gt_mem 1135 (by decide +kernel) rfl
theorem fl_copies : Cond.fieldLink RX11 58 (TX11 26).1 (TX11 26).2.1 (TX11 26).2.2.1 ∈ gtbl := gt_mem 1136 (by decide +kernel) rfl
theorem fl_copied : Cond.fieldLink RX11 300 (TX11 27).1 (TX11 27).2.1 (TX11 27).2.2.1 ∈ gtbl := gt_mem 1137 (by decide +kernel) rfl
theorem fl_bestPlan : Cond.fieldLink RX11 348 (TX11 28).1 (TX11 28).2.1 (TX11 28).2.2.1 ∈ gtbl := gt_mem 1138 (by decide +kernel) rfl
theorem fl_bestLeft : Cond.fieldLink RX11 354 (TX11 29).1 (TX11 29).2.1 (TX11 29).2.2.1 ∈ gtbl := gt_mem 1139 (by decide +kernel) rfl
theorem fl_made : Cond.fieldLink RX11 61 (TX11 30).1 (TX11 30).2.1 (TX11 30).2.2.1 ∈ gtbl := gt_mem 1140 (by decide +kernel) rfl
theorem fl_savedWorld : Cond.fieldLink RX11 64 (TX11 31).1 (TX11 31).2.1 (TX11 31).2.2.1 ∈ gtbl := gt_mem 1141 (by decide +kernel) rfl
theorem fl_itsNeeds : Cond.fieldLink RX11 67 (TX11 32).1 (TX11 32).2.1 (TX11 32).2.2.1 ∈ gtbl := gt_mem 1142 (by decide +kernel) rfl
theorem fl_itsMany : Cond.fieldLink RX11 70 (TX11 33).1 (TX11 33).2.1 (TX11 33).2.2.1 ∈ gtbl := gt_mem 1143 (by decide +kernel) rfl
theorem fl_many : Cond.fieldLink RX11 73 (TX11 34).1 (TX11 34).2.1 (TX11 34).2.2.1 ∈ gtbl := gt_mem 1144 (by decide +kernel) rfl
theorem fl_width : Cond.fieldLink RX11 76 (TX11 35).1 (TX11 35).2.1 (TX11 35).2.2.1 ∈ gtbl := gt_mem 1145 (by decide +kernel) rfl
theorem fl_numbers : Cond.fieldLink RX11 79 (TX11 36).1 (TX11 36).2.1 (TX11 36).2.2.1 ∈ gtbl := gt_mem 1146 (by decide +kernel) rfl
theorem fl_moving : Cond.fieldLink RX11 83 (TX11 37).1 (TX11 37).2.1 (TX11 37).2.2.1 ∈ gtbl := gt_mem 1147 (by decide +kernel) rfl
theorem rg_world (q : Nat) (C : Cx X l G cc nL RX11 rt d mc ms post) (hd : decode cc pc = .ok (.getfield 13, 3)) (hq : pc + 3 = q) (kk : J X nL k n (mw o ad G.2.1 M) q lv (.ref (ad 1) :: st)) : J X nL k n (mw o ad G.2.1 M) pc lv (.ref o :: st) :=
  j_get q C hd hq 0 rfl rfl ingX11 1 (by decide) fl_world rfl kk
theorem ra_world (q : Nat) {y : Int32} (C : Cx X l G cc nL RX11 rt d mc ms post) (hd : decode cc pc = .ok (.iaload, 1)) (hq : pc + 1 = q) (i : Nat) (hi : i < 1120) (hy : y = nI i) (kk : J X nL k n (mw o ad G.2.1 M) q lv (.int (M.2.1 1 i) :: st)) : J X nL k n (mw o ad G.2.1 M) pc lv (.int y :: .ref (ad 1) :: st) :=
  j_iald q C hd hq 1 rfl i hi (by decide) hy kk
theorem rs_world (q : Nat) {y : Int32} {x : Int32} (C : Cx X l G cc nL RX11 rt d mc ms post) (hd : decode cc pc = .ok (.iastore, 1)) (hq : pc + 1 = q) (i : Nat) (hi : i < 1120) (hy : y = nI i) (kk : J X nL k n (mw o ad G.2.1 (aS M 1 i x)) q lv st) : J X nL k n (mw o ad G.2.1 M) pc lv (.int x :: .int y :: .ref (ad 1) :: st) :=
  j_iast q C hd hq 1 rfl i hi (by decide) hy rfl kk
theorem rg_head (q : Nat) (C : Cx X l G cc nL RX11 rt d mc ms post) (hd : decode cc pc = .ok (.getfield 17, 3)) (hq : pc + 3 = q) (kk : J X nL k n (mw o ad G.2.1 M) q lv (.ref (ad 2) :: st)) : J X nL k n (mw o ad G.2.1 M) pc lv (.ref o :: st) :=
  j_get q C hd hq 0 rfl rfl ingX11 2 (by decide) fl_head rfl kk
theorem ra_head (q : Nat) {y : Int32} (C : Cx X l G cc nL RX11 rt d mc ms post) (hd : decode cc pc = .ok (.iaload, 1)) (hq : pc + 1 = q) (i : Nat) (hi : i < 2018) (hy : y = nI i) (kk : J X nL k n (mw o ad G.2.1 M) q lv (.int (M.2.1 2 i) :: st)) : J X nL k n (mw o ad G.2.1 M) pc lv (.int y :: .ref (ad 2) :: st) :=
  j_iald q C hd hq 2 rfl i hi (by decide) hy kk
theorem rs_head (q : Nat) {y : Int32} {x : Int32} (C : Cx X l G cc nL RX11 rt d mc ms post) (hd : decode cc pc = .ok (.iastore, 1)) (hq : pc + 1 = q) (i : Nat) (hi : i < 2018) (hy : y = nI i) (kk : J X nL k n (mw o ad G.2.1 (aS M 2 i x)) q lv st) : J X nL k n (mw o ad G.2.1 M) pc lv (.int x :: .int y :: .ref (ad 2) :: st) :=
  j_iast q C hd hq 2 rfl i hi (by decide) hy rfl kk
theorem rg_sittings (q : Nat) (C : Cx X l G cc nL RX11 rt d mc ms post) (hd : decode cc pc = .ok (.getfield 92, 3)) (hq : pc + 3 = q) (kk : J X nL k n (mw o ad G.2.1 M) q lv (.int (M.1 3) :: st)) : J X nL k n (mw o ad G.2.1 M) pc lv (.ref o :: st) :=
  j_get q C hd hq 0 rfl rfl ingX11 3 (by decide) fl_sittings rfl kk
theorem rp_sittings (q : Nat) {v : Int32} (C : Cx X l G cc nL RX11 rt d mc ms post) (hd : decode cc pc = .ok (.putfield 92, 3)) (hq : pc + 3 = q) (kk : J X nL k n (mw o ad G.2.1 (sS M 3 v)) q lv st) : J X nL k n (mw o ad G.2.1 M) pc lv (.int v :: .ref o :: st) :=
  j_put q tyX11 C hd hq 0 rfl rfl ingX11 tyX11_ok nmX11 3 (by decide) fl_sittings rfl rfl rfl (by show 3 < 38; decide) rfl kk
theorem rg_lost (q : Nat) (C : Cx X l G cc nL RX11 rt d mc ms post) (hd : decode cc pc = .ok (.getfield 95, 3)) (hq : pc + 3 = q) (kk : J X nL k n (mw o ad G.2.1 M) q lv (.int (M.1 4) :: st)) : J X nL k n (mw o ad G.2.1 M) pc lv (.ref o :: st) :=
  j_get q C hd hq 0 rfl rfl ingX11 4 (by decide) fl_lost rfl kk
theorem rp_lost (q : Nat) {v : Int32} (C : Cx X l G cc nL RX11 rt d mc ms post) (hd : decode cc pc = .ok (.putfield 95, 3)) (hq : pc + 3 = q) (kk : J X nL k n (mw o ad G.2.1 (sS M 4 v)) q lv st) : J X nL k n (mw o ad G.2.1 M) pc lv (.int v :: .ref o :: st) :=
  j_put q tyX11 C hd hq 0 rfl rfl ingX11 tyX11_ok nmX11 4 (by decide) fl_lost rfl rfl rfl (by show 4 < 38; decide) rfl kk
theorem rg_book (q : Nat) (C : Cx X l G cc nL RX11 rt d mc ms post) (hd : decode cc pc = .ok (.getfield 20, 3)) (hq : pc + 3 = q) (kk : J X nL k n (mw o ad G.2.1 M) q lv (.ref (ad 5) :: st)) : J X nL k n (mw o ad G.2.1 M) pc lv (.ref o :: st) :=
  j_get q C hd hq 0 rfl rfl ingX11 5 (by decide) fl_book rfl kk
theorem ra_book (q : Nat) {y : Int32} (C : Cx X l G cc nL RX11 rt d mc ms post) (hd : decode cc pc = .ok (.iaload, 1)) (hq : pc + 1 = q) (i : Nat) (hi : i < 360) (hy : y = nI i) (kk : J X nL k n (mw o ad G.2.1 M) q lv (.int (M.2.1 5 i) :: st)) : J X nL k n (mw o ad G.2.1 M) pc lv (.int y :: .ref (ad 5) :: st) :=
  j_iald q C hd hq 3 rfl i hi (by decide) hy kk
theorem rs_book (q : Nat) {y : Int32} {x : Int32} (C : Cx X l G cc nL RX11 rt d mc ms post) (hd : decode cc pc = .ok (.iastore, 1)) (hq : pc + 1 = q) (i : Nat) (hi : i < 360) (hy : y = nI i) (kk : J X nL k n (mw o ad G.2.1 (aS M 5 i x)) q lv st) : J X nL k n (mw o ad G.2.1 M) pc lv (.int x :: .int y :: .ref (ad 5) :: st) :=
  j_iast q C hd hq 3 rfl i hi (by decide) hy rfl kk
theorem rg_imageWorld (q : Nat) (C : Cx X l G cc nL RX11 rt d mc ms post) (hd : decode cc pc = .ok (.getfield 23, 3)) (hq : pc + 3 = q) (kk : J X nL k n (mw o ad G.2.1 M) q lv (.ref (ad 6) :: st)) : J X nL k n (mw o ad G.2.1 M) pc lv (.ref o :: st) :=
  j_get q C hd hq 0 rfl rfl ingX11 6 (by decide) fl_imageWorld rfl kk
theorem ra_imageWorld (q : Nat) {y : Int32} (C : Cx X l G cc nL RX11 rt d mc ms post) (hd : decode cc pc = .ok (.iaload, 1)) (hq : pc + 1 = q) (i : Nat) (hi : i < 3360) (hy : y = nI i) (kk : J X nL k n (mw o ad G.2.1 M) q lv (.int (M.2.1 6 i) :: st)) : J X nL k n (mw o ad G.2.1 M) pc lv (.int y :: .ref (ad 6) :: st) :=
  j_iald q C hd hq 4 rfl i hi (by decide) hy kk
theorem rs_imageWorld (q : Nat) {y : Int32} {x : Int32} (C : Cx X l G cc nL RX11 rt d mc ms post) (hd : decode cc pc = .ok (.iastore, 1)) (hq : pc + 1 = q) (i : Nat) (hi : i < 3360) (hy : y = nI i) (kk : J X nL k n (mw o ad G.2.1 (aS M 6 i x)) q lv st) : J X nL k n (mw o ad G.2.1 M) pc lv (.int x :: .int y :: .ref (ad 6) :: st) :=
  j_iast q C hd hq 4 rfl i hi (by decide) hy rfl kk
theorem rg_imageHead (q : Nat) (C : Cx X l G cc nL RX11 rt d mc ms post) (hd : decode cc pc = .ok (.getfield 26, 3)) (hq : pc + 3 = q) (kk : J X nL k n (mw o ad G.2.1 M) q lv (.ref (ad 7) :: st)) : J X nL k n (mw o ad G.2.1 M) pc lv (.ref o :: st) :=
  j_get q C hd hq 0 rfl rfl ingX11 7 (by decide) fl_imageHead rfl kk
theorem ra_imageHead (q : Nat) {y : Int32} (C : Cx X l G cc nL RX11 rt d mc ms post) (hd : decode cc pc = .ok (.iaload, 1)) (hq : pc + 1 = q) (i : Nat) (hi : i < 6054) (hy : y = nI i) (kk : J X nL k n (mw o ad G.2.1 M) q lv (.int (M.2.1 7 i) :: st)) : J X nL k n (mw o ad G.2.1 M) pc lv (.int y :: .ref (ad 7) :: st) :=
  j_iald q C hd hq 5 rfl i hi (by decide) hy kk
theorem rs_imageHead (q : Nat) {y : Int32} {x : Int32} (C : Cx X l G cc nL RX11 rt d mc ms post) (hd : decode cc pc = .ok (.iastore, 1)) (hq : pc + 1 = q) (i : Nat) (hi : i < 6054) (hy : y = nI i) (kk : J X nL k n (mw o ad G.2.1 (aS M 7 i x)) q lv st) : J X nL k n (mw o ad G.2.1 M) pc lv (.int x :: .int y :: .ref (ad 7) :: st) :=
  j_iast q C hd hq 5 rfl i hi (by decide) hy rfl kk
theorem rg_imageBook (q : Nat) (C : Cx X l G cc nL RX11 rt d mc ms post) (hd : decode cc pc = .ok (.getfield 29, 3)) (hq : pc + 3 = q) (kk : J X nL k n (mw o ad G.2.1 M) q lv (.ref (ad 8) :: st)) : J X nL k n (mw o ad G.2.1 M) pc lv (.ref o :: st) :=
  j_get q C hd hq 0 rfl rfl ingX11 8 (by decide) fl_imageBook rfl kk
theorem ra_imageBook (q : Nat) {y : Int32} (C : Cx X l G cc nL RX11 rt d mc ms post) (hd : decode cc pc = .ok (.iaload, 1)) (hq : pc + 1 = q) (i : Nat) (hi : i < 1080) (hy : y = nI i) (kk : J X nL k n (mw o ad G.2.1 M) q lv (.int (M.2.1 8 i) :: st)) : J X nL k n (mw o ad G.2.1 M) pc lv (.int y :: .ref (ad 8) :: st) :=
  j_iald q C hd hq 6 rfl i hi (by decide) hy kk
theorem rs_imageBook (q : Nat) {y : Int32} {x : Int32} (C : Cx X l G cc nL RX11 rt d mc ms post) (hd : decode cc pc = .ok (.iastore, 1)) (hq : pc + 1 = q) (i : Nat) (hi : i < 1080) (hy : y = nI i) (kk : J X nL k n (mw o ad G.2.1 (aS M 8 i x)) q lv st) : J X nL k n (mw o ad G.2.1 M) pc lv (.int x :: .int y :: .ref (ad 8) :: st) :=
  j_iast q C hd hq 6 rfl i hi (by decide) hy rfl kk
theorem rg_imageLost (q : Nat) (C : Cx X l G cc nL RX11 rt d mc ms post) (hd : decode cc pc = .ok (.getfield 32, 3)) (hq : pc + 3 = q) (kk : J X nL k n (mw o ad G.2.1 M) q lv (.ref (ad 9) :: st)) : J X nL k n (mw o ad G.2.1 M) pc lv (.ref o :: st) :=
  j_get q C hd hq 0 rfl rfl ingX11 9 (by decide) fl_imageLost rfl kk
theorem ra_imageLost (q : Nat) {y : Int32} (C : Cx X l G cc nL RX11 rt d mc ms post) (hd : decode cc pc = .ok (.iaload, 1)) (hq : pc + 1 = q) (i : Nat) (hi : i < 3) (hy : y = nI i) (kk : J X nL k n (mw o ad G.2.1 M) q lv (.int (M.2.1 9 i) :: st)) : J X nL k n (mw o ad G.2.1 M) pc lv (.int y :: .ref (ad 9) :: st) :=
  j_iald q C hd hq 7 rfl i hi (by decide) hy kk
theorem rs_imageLost (q : Nat) {y : Int32} {x : Int32} (C : Cx X l G cc nL RX11 rt d mc ms post) (hd : decode cc pc = .ok (.iastore, 1)) (hq : pc + 1 = q) (i : Nat) (hi : i < 3) (hy : y = nI i) (kk : J X nL k n (mw o ad G.2.1 (aS M 9 i x)) q lv st) : J X nL k n (mw o ad G.2.1 M) pc lv (.int x :: .int y :: .ref (ad 9) :: st) :=
  j_iast q C hd hq 7 rfl i hi (by decide) hy rfl kk
theorem rg_imageSittings (q : Nat) (C : Cx X l G cc nL RX11 rt d mc ms post) (hd : decode cc pc = .ok (.getfield 35, 3)) (hq : pc + 3 = q) (kk : J X nL k n (mw o ad G.2.1 M) q lv (.ref (ad 10) :: st)) : J X nL k n (mw o ad G.2.1 M) pc lv (.ref o :: st) :=
  j_get q C hd hq 0 rfl rfl ingX11 10 (by decide) fl_imageSittings rfl kk
theorem ra_imageSittings (q : Nat) {y : Int32} (C : Cx X l G cc nL RX11 rt d mc ms post) (hd : decode cc pc = .ok (.iaload, 1)) (hq : pc + 1 = q) (i : Nat) (hi : i < 3) (hy : y = nI i) (kk : J X nL k n (mw o ad G.2.1 M) q lv (.int (M.2.1 10 i) :: st)) : J X nL k n (mw o ad G.2.1 M) pc lv (.int y :: .ref (ad 10) :: st) :=
  j_iald q C hd hq 8 rfl i hi (by decide) hy kk
theorem rs_imageSittings (q : Nat) {y : Int32} {x : Int32} (C : Cx X l G cc nL RX11 rt d mc ms post) (hd : decode cc pc = .ok (.iastore, 1)) (hq : pc + 1 = q) (i : Nat) (hi : i < 3) (hy : y = nI i) (kk : J X nL k n (mw o ad G.2.1 (aS M 10 i x)) q lv st) : J X nL k n (mw o ad G.2.1 M) pc lv (.int x :: .int y :: .ref (ad 10) :: st) :=
  j_iast q C hd hq 8 rfl i hi (by decide) hy rfl kk
theorem rg_tape (q : Nat) (C : Cx X l G cc nL RX11 rt d mc ms post) (hd : decode cc pc = .ok (.getfield 38, 3)) (hq : pc + 3 = q) (kk : J X nL k n (mw o ad G.2.1 M) q lv (.ref (ad 11) :: st)) : J X nL k n (mw o ad G.2.1 M) pc lv (.ref o :: st) :=
  j_get q C hd hq 0 rfl rfl ingX11 11 (by decide) fl_tape rfl kk
theorem ra_tape (q : Nat) {y : Int32} (C : Cx X l G cc nL RX11 rt d mc ms post) (hd : decode cc pc = .ok (.baload, 1)) (hq : pc + 1 = q) (i : Nat) (hi : i < 900) (hy : y = nI i) (kk : J X nL k n (mw o ad G.2.1 M) q lv (.int (M.2.1 11 i) :: st)) : J X nL k n (mw o ad G.2.1 M) pc lv (.int y :: .ref (ad 11) :: st) :=
  j_bald q C hd hq 9 rfl i hi (by decide) hy kk
theorem rs_tape (q : Nat) {y : Int32} {x : Int32} (C : Cx X l G cc nL RX11 rt d mc ms post) (hd : decode cc pc = .ok (.bastore, 1)) (hq : pc + 1 = q) (i : Nat) (hi : i < 900) (hy : y = nI i) (kk : J X nL k n (mw o ad G.2.1 (aS M 11 i (vp_nar .byte x))) q lv st) : J X nL k n (mw o ad G.2.1 M) pc lv (.int x :: .int y :: .ref (ad 11) :: st) :=
  j_bast q C hd hq 9 rfl i hi (by decide) hy rfl kk
theorem rg_taped (q : Nat) (C : Cx X l G cc nL RX11 rt d mc ms post) (hd : decode cc pc = .ok (.getfield 102, 3)) (hq : pc + 3 = q) (kk : J X nL k n (mw o ad G.2.1 M) q lv (.int (M.1 12) :: st)) : J X nL k n (mw o ad G.2.1 M) pc lv (.ref o :: st) :=
  j_get q C hd hq 0 rfl rfl ingX11 12 (by decide) fl_taped rfl kk
theorem rp_taped (q : Nat) {v : Int32} (C : Cx X l G cc nL RX11 rt d mc ms post) (hd : decode cc pc = .ok (.putfield 102, 3)) (hq : pc + 3 = q) (kk : J X nL k n (mw o ad G.2.1 (sS M 12 v)) q lv st) : J X nL k n (mw o ad G.2.1 M) pc lv (.int v :: .ref o :: st) :=
  j_put q tyX11 C hd hq 0 rfl rfl ingX11 tyX11_ok nmX11 12 (by decide) fl_taped rfl rfl rfl (by show 12 < 38; decide) rfl kk
theorem rg_five (q : Nat) (C : Cx X l G cc nL RX11 rt d mc ms post) (hd : decode cc pc = .ok (.getfield 42, 3)) (hq : pc + 3 = q) (kk : J X nL k n (mw o ad G.2.1 M) q lv (.ref (ad 13) :: st)) : J X nL k n (mw o ad G.2.1 M) pc lv (.ref o :: st) :=
  j_get q C hd hq 0 rfl rfl ingX11 13 (by decide) fl_five rfl kk
theorem ra_five (q : Nat) {y : Int32} (C : Cx X l G cc nL RX11 rt d mc ms post) (hd : decode cc pc = .ok (.iaload, 1)) (hq : pc + 1 = q) (i : Nat) (hi : i < 5) (hy : y = nI i) (kk : J X nL k n (mw o ad G.2.1 M) q lv (.int (M.2.1 13 i) :: st)) : J X nL k n (mw o ad G.2.1 M) pc lv (.int y :: .ref (ad 13) :: st) :=
  j_iald q C hd hq 10 rfl i hi (by decide) hy kk
theorem rs_five (q : Nat) {y : Int32} {x : Int32} (C : Cx X l G cc nL RX11 rt d mc ms post) (hd : decode cc pc = .ok (.iastore, 1)) (hq : pc + 1 = q) (i : Nat) (hi : i < 5) (hy : y = nI i) (kk : J X nL k n (mw o ad G.2.1 (aS M 13 i x)) q lv st) : J X nL k n (mw o ad G.2.1 M) pc lv (.int x :: .int y :: .ref (ad 13) :: st) :=
  j_iast q C hd hq 10 rfl i hi (by decide) hy rfl kk
theorem rg_size (q : Nat) (C : Cx X l G cc nL RX11 rt d mc ms post) (hd : decode cc pc = .ok (.getfield 105, 3)) (hq : pc + 3 = q) (kk : J X nL k n (mw o ad G.2.1 M) q lv (.int (M.1 14) :: st)) : J X nL k n (mw o ad G.2.1 M) pc lv (.ref o :: st) :=
  j_get q C hd hq 0 rfl rfl ingX11 14 (by decide) fl_size rfl kk
theorem rp_size (q : Nat) {v : Int32} (C : Cx X l G cc nL RX11 rt d mc ms post) (hd : decode cc pc = .ok (.putfield 105, 3)) (hq : pc + 3 = q) (kk : J X nL k n (mw o ad G.2.1 (sS M 14 v)) q lv st) : J X nL k n (mw o ad G.2.1 M) pc lv (.int v :: .ref o :: st) :=
  j_put q tyX11 C hd hq 0 rfl rfl ingX11 tyX11_ok nmX11 14 (by decide) fl_size rfl rfl rfl (by show 14 < 38; decide) rfl kk
theorem rg_at (q : Nat) (C : Cx X l G cc nL RX11 rt d mc ms post) (hd : decode cc pc = .ok (.getfield 108, 3)) (hq : pc + 3 = q) (kk : J X nL k n (mw o ad G.2.1 M) q lv (.int (M.1 15) :: st)) : J X nL k n (mw o ad G.2.1 M) pc lv (.ref o :: st) :=
  j_get q C hd hq 0 rfl rfl ingX11 15 (by decide) fl_at rfl kk
theorem rp_at (q : Nat) {v : Int32} (C : Cx X l G cc nL RX11 rt d mc ms post) (hd : decode cc pc = .ok (.putfield 108, 3)) (hq : pc + 3 = q) (kk : J X nL k n (mw o ad G.2.1 (sS M 15 v)) q lv st) : J X nL k n (mw o ad G.2.1 M) pc lv (.int v :: .ref o :: st) :=
  j_put q tyX11 C hd hq 0 rfl rfl ingX11 tyX11_ok nmX11 15 (by decide) fl_at rfl rfl rfl (by show 15 < 38; decide) rfl kk
theorem rg_from (q : Nat) (C : Cx X l G cc nL RX11 rt d mc ms post) (hd : decode cc pc = .ok (.getfield 115, 3)) (hq : pc + 3 = q) (kk : J X nL k n (mw o ad G.2.1 M) q lv (.int (M.1 16) :: st)) : J X nL k n (mw o ad G.2.1 M) pc lv (.ref o :: st) :=
  j_get q C hd hq 0 rfl rfl ingX11 16 (by decide) fl_from rfl kk
theorem rp_from (q : Nat) {v : Int32} (C : Cx X l G cc nL RX11 rt d mc ms post) (hd : decode cc pc = .ok (.putfield 115, 3)) (hq : pc + 3 = q) (kk : J X nL k n (mw o ad G.2.1 (sS M 16 v)) q lv st) : J X nL k n (mw o ad G.2.1 M) pc lv (.int v :: .ref o :: st) :=
  j_put q tyX11 C hd hq 0 rfl rfl ingX11 tyX11_ok nmX11 16 (by decide) fl_from rfl rfl rfl (by show 16 < 38; decide) rfl kk
theorem rg_token (q : Nat) (C : Cx X l G cc nL RX11 rt d mc ms post) (hd : decode cc pc = .ok (.getfield 118, 3)) (hq : pc + 3 = q) (kk : J X nL k n (mw o ad G.2.1 M) q lv (.int (M.1 17) :: st)) : J X nL k n (mw o ad G.2.1 M) pc lv (.ref o :: st) :=
  j_get q C hd hq 0 rfl rfl ingX11 17 (by decide) fl_token rfl kk
theorem rp_token (q : Nat) {v : Int32} (C : Cx X l G cc nL RX11 rt d mc ms post) (hd : decode cc pc = .ok (.putfield 118, 3)) (hq : pc + 3 = q) (kk : J X nL k n (mw o ad G.2.1 (sS M 17 v)) q lv st) : J X nL k n (mw o ad G.2.1 M) pc lv (.int v :: .ref o :: st) :=
  j_put q tyX11 C hd hq 0 rfl rfl ingX11 tyX11_ok nmX11 17 (by decide) fl_token rfl rfl rfl (by show 17 < 38; decide) rfl kk
theorem rg_value (q : Nat) (C : Cx X l G cc nL RX11 rt d mc ms post) (hd : decode cc pc = .ok (.getfield 129, 3)) (hq : pc + 3 = q) (kk : J X nL k n (mw o ad G.2.1 M) q lv (.int (M.1 18) :: st)) : J X nL k n (mw o ad G.2.1 M) pc lv (.ref o :: st) :=
  j_get q C hd hq 0 rfl rfl ingX11 18 (by decide) fl_value rfl kk
theorem rp_value (q : Nat) {v : Int32} (C : Cx X l G cc nL RX11 rt d mc ms post) (hd : decode cc pc = .ok (.putfield 129, 3)) (hq : pc + 3 = q) (kk : J X nL k n (mw o ad G.2.1 (sS M 18 v)) q lv st) : J X nL k n (mw o ad G.2.1 M) pc lv (.int v :: .ref o :: st) :=
  j_put q tyX11 C hd hq 0 rfl rfl ingX11 tyX11_ok nmX11 18 (by decide) fl_value rfl rfl rfl (by show 18 < 38; decide) rfl kk
theorem rg_faultKind (q : Nat) (C : Cx X l G cc nL RX11 rt d mc ms post) (hd : decode cc pc = .ok (.getfield 139, 3)) (hq : pc + 3 = q) (kk : J X nL k n (mw o ad G.2.1 M) q lv (.int (M.1 19) :: st)) : J X nL k n (mw o ad G.2.1 M) pc lv (.ref o :: st) :=
  j_get q C hd hq 0 rfl rfl ingX11 19 (by decide) fl_faultKind rfl kk
theorem rp_faultKind (q : Nat) {v : Int32} (C : Cx X l G cc nL RX11 rt d mc ms post) (hd : decode cc pc = .ok (.putfield 139, 3)) (hq : pc + 3 = q) (kk : J X nL k n (mw o ad G.2.1 (sS M 19 v)) q lv st) : J X nL k n (mw o ad G.2.1 M) pc lv (.int v :: .ref o :: st) :=
  j_put q tyX11 C hd hq 0 rfl rfl ingX11 tyX11_ok nmX11 19 (by decide) fl_faultKind rfl rfl rfl (by show 19 < 38; decide) rfl kk
theorem rg_faultPlace (q : Nat) (C : Cx X l G cc nL RX11 rt d mc ms post) (hd : decode cc pc = .ok (.getfield 45, 3)) (hq : pc + 3 = q) (kk : J X nL k n (mw o ad G.2.1 M) q lv (.int (M.1 20) :: st)) : J X nL k n (mw o ad G.2.1 M) pc lv (.ref o :: st) :=
  j_get q C hd hq 0 rfl rfl ingX11 20 (by decide) fl_faultPlace rfl kk
theorem rp_faultPlace (q : Nat) {v : Int32} (C : Cx X l G cc nL RX11 rt d mc ms post) (hd : decode cc pc = .ok (.putfield 45, 3)) (hq : pc + 3 = q) (kk : J X nL k n (mw o ad G.2.1 (sS M 20 v)) q lv st) : J X nL k n (mw o ad G.2.1 M) pc lv (.int v :: .ref o :: st) :=
  j_put q tyX11 C hd hq 0 rfl rfl ingX11 tyX11_ok nmX11 20 (by decide) fl_faultPlace rfl rfl rfl (by show 20 < 38; decide) rfl kk
theorem rg_fresh (q : Nat) (C : Cx X l G cc nL RX11 rt d mc ms post) (hd : decode cc pc = .ok (.getfield 48, 3)) (hq : pc + 3 = q) (kk : J X nL k n (mw o ad G.2.1 M) q lv (.ref (ad 21) :: st)) : J X nL k n (mw o ad G.2.1 M) pc lv (.ref o :: st) :=
  j_get q C hd hq 0 rfl rfl ingX11 21 (by decide) fl_fresh rfl kk
theorem ra_fresh (q : Nat) {y : Int32} (C : Cx X l G cc nL RX11 rt d mc ms post) (hd : decode cc pc = .ok (.iaload, 1)) (hq : pc + 1 = q) (i : Nat) (hi : i < 1120) (hy : y = nI i) (kk : J X nL k n (mw o ad G.2.1 M) q lv (.int (M.2.1 21 i) :: st)) : J X nL k n (mw o ad G.2.1 M) pc lv (.int y :: .ref (ad 21) :: st) :=
  j_iald q C hd hq 11 rfl i hi (by decide) hy kk
theorem rs_fresh (q : Nat) {y : Int32} {x : Int32} (C : Cx X l G cc nL RX11 rt d mc ms post) (hd : decode cc pc = .ok (.iastore, 1)) (hq : pc + 1 = q) (i : Nat) (hi : i < 1120) (hy : y = nI i) (kk : J X nL k n (mw o ad G.2.1 (aS M 21 i x)) q lv st) : J X nL k n (mw o ad G.2.1 M) pc lv (.int x :: .int y :: .ref (ad 21) :: st) :=
  j_iast q C hd hq 11 rfl i hi (by decide) hy rfl kk
theorem rg_holdTold (q : Nat) (C : Cx X l G cc nL RX11 rt d mc ms post) (hd : decode cc pc = .ok (.getfield 224, 3)) (hq : pc + 3 = q) (kk : J X nL k n (mw o ad G.2.1 M) q lv (.int (M.1 22) :: st)) : J X nL k n (mw o ad G.2.1 M) pc lv (.ref o :: st) :=
  j_get q C hd hq 0 rfl rfl ingX11 22 (by decide) fl_holdTold rfl kk
theorem rp_holdTold (q : Nat) {v : Int32} (C : Cx X l G cc nL RX11 rt d mc ms post) (hd : decode cc pc = .ok (.putfield 224, 3)) (hq : pc + 3 = q) (hn : narrow .boolean (.int v) = .int v) (hf : fits .boolean (.int v) = true) (kk : J X nL k n (mw o ad G.2.1 (sS M 22 v)) q lv st) : J X nL k n (mw o ad G.2.1 M) pc lv (.int v :: .ref o :: st) :=
  j_put q tyX11 C hd hq 0 rfl rfl ingX11 tyX11_ok nmX11 22 (by decide) fl_holdTold rfl hn hf (by show 22 < 38; decide) rfl kk
theorem rg_leanTold (q : Nat) (C : Cx X l G cc nL RX11 rt d mc ms post) (hd : decode cc pc = .ok (.getfield 51, 3)) (hq : pc + 3 = q) (kk : J X nL k n (mw o ad G.2.1 M) q lv (.ref (ad 23) :: st)) : J X nL k n (mw o ad G.2.1 M) pc lv (.ref o :: st) :=
  j_get q C hd hq 0 rfl rfl ingX11 23 (by decide) fl_leanTold rfl kk
theorem ra_leanTold (q : Nat) {y : Int32} (C : Cx X l G cc nL RX11 rt d mc ms post) (hd : decode cc pc = .ok (.baload, 1)) (hq : pc + 1 = q) (i : Nat) (hi : i < 4) (hy : y = nI i) (kk : J X nL k n (mw o ad G.2.1 M) q lv (.int (M.2.1 23 i) :: st)) : J X nL k n (mw o ad G.2.1 M) pc lv (.int y :: .ref (ad 23) :: st) :=
  j_zald q C hd hq 12 rfl i hi (by decide) hy kk
theorem rs_leanTold (q : Nat) {y : Int32} {x : Int32} (C : Cx X l G cc nL RX11 rt d mc ms post) (hd : decode cc pc = .ok (.bastore, 1)) (hq : pc + 1 = q) (i : Nat) (hi : i < 4) (hy : y = nI i) (kk : J X nL k n (mw o ad G.2.1 (aS M 23 i (vp_nar .boolean x))) q lv st) : J X nL k n (mw o ad G.2.1 M) pc lv (.int x :: .int y :: .ref (ad 23) :: st) :=
  j_zast q C hd hq 12 rfl i hi (by decide) hy rfl kk
theorem rg_constantLaw (q : Nat) (C : Cx X l G cc nL RX11 rt d mc ms post) (hd : decode cc pc = .ok (.getfield 55, 3)) (hq : pc + 3 = q) (kk : J X nL k n (mw o ad G.2.1 M) q lv (.int (M.1 24) :: st)) : J X nL k n (mw o ad G.2.1 M) pc lv (.ref o :: st) :=
  j_get q C hd hq 0 rfl rfl ingX11 24 (by decide) fl_constantLaw rfl kk
theorem rp_constantLaw (q : Nat) {v : Int32} (C : Cx X l G cc nL RX11 rt d mc ms post) (hd : decode cc pc = .ok (.putfield 55, 3)) (hq : pc + 3 = q) (kk : J X nL k n (mw o ad G.2.1 (sS M 24 v)) q lv st) : J X nL k n (mw o ad G.2.1 M) pc lv (.int v :: .ref o :: st) :=
  j_put q tyX11 C hd hq 0 rfl rfl ingX11 tyX11_ok nmX11 24 (by decide) fl_constantLaw rfl rfl rfl (by show 24 < 38; decide) rfl kk
theorem rg_constant (q : Nat) (C : Cx X l G cc nL RX11 rt d mc ms post) (hd : decode cc pc = .ok (.getfield 240, 3)) (hq : pc + 3 = q) (kk : J X nL k n (mw o ad G.2.1 M) q lv (.int (M.1 25) :: st)) : J X nL k n (mw o ad G.2.1 M) pc lv (.ref o :: st) :=
  j_get q C hd hq 0 rfl rfl ingX11 25 (by decide) fl_constant rfl kk
theorem rp_constant (q : Nat) {v : Int32} (C : Cx X l G cc nL RX11 rt d mc ms post) (hd : decode cc pc = .ok (.putfield 240, 3)) (hq : pc + 3 = q) (kk : J X nL k n (mw o ad G.2.1 (sS M 25 v)) q lv st) : J X nL k n (mw o ad G.2.1 M) pc lv (.int v :: .ref o :: st) :=
  j_put q tyX11 C hd hq 0 rfl rfl ingX11 tyX11_ok nmX11 25 (by decide) fl_constant rfl rfl rfl (by show 25 < 38; decide) rfl kk
theorem rg_copies (q : Nat) (C : Cx X l G cc nL RX11 rt d mc ms post) (hd : decode cc pc = .ok (.getfield 58, 3)) (hq : pc + 3 = q) (kk : J X nL k n (mw o ad G.2.1 M) q lv (.ref (ad 26) :: st)) : J X nL k n (mw o ad G.2.1 M) pc lv (.ref o :: st) :=
  j_get q C hd hq 0 rfl rfl ingX11 26 (by decide) fl_copies rfl kk
theorem ra_copies (q : Nat) {y : Int32} (C : Cx X l G cc nL RX11 rt d mc ms post) (hd : decode cc pc = .ok (.iaload, 1)) (hq : pc + 1 = q) (i : Nat) (hi : i < 16144) (hy : y = nI i) (kk : J X nL k n (mw o ad G.2.1 M) q lv (.int (M.2.1 26 i) :: st)) : J X nL k n (mw o ad G.2.1 M) pc lv (.int y :: .ref (ad 26) :: st) :=
  j_iald q C hd hq 13 rfl i hi (by decide) hy kk
theorem rs_copies (q : Nat) {y : Int32} {x : Int32} (C : Cx X l G cc nL RX11 rt d mc ms post) (hd : decode cc pc = .ok (.iastore, 1)) (hq : pc + 1 = q) (i : Nat) (hi : i < 16144) (hy : y = nI i) (kk : J X nL k n (mw o ad G.2.1 (aS M 26 i x)) q lv st) : J X nL k n (mw o ad G.2.1 M) pc lv (.int x :: .int y :: .ref (ad 26) :: st) :=
  j_iast q C hd hq 13 rfl i hi (by decide) hy rfl kk
theorem rg_copied (q : Nat) (C : Cx X l G cc nL RX11 rt d mc ms post) (hd : decode cc pc = .ok (.getfield 300, 3)) (hq : pc + 3 = q) (kk : J X nL k n (mw o ad G.2.1 M) q lv (.int (M.1 27) :: st)) : J X nL k n (mw o ad G.2.1 M) pc lv (.ref o :: st) :=
  j_get q C hd hq 0 rfl rfl ingX11 27 (by decide) fl_copied rfl kk
theorem rp_copied (q : Nat) {v : Int32} (C : Cx X l G cc nL RX11 rt d mc ms post) (hd : decode cc pc = .ok (.putfield 300, 3)) (hq : pc + 3 = q) (kk : J X nL k n (mw o ad G.2.1 (sS M 27 v)) q lv st) : J X nL k n (mw o ad G.2.1 M) pc lv (.int v :: .ref o :: st) :=
  j_put q tyX11 C hd hq 0 rfl rfl ingX11 tyX11_ok nmX11 27 (by decide) fl_copied rfl rfl rfl (by show 27 < 38; decide) rfl kk
theorem rg_bestPlan (q : Nat) (C : Cx X l G cc nL RX11 rt d mc ms post) (hd : decode cc pc = .ok (.getfield 348, 3)) (hq : pc + 3 = q) (kk : J X nL k n (mw o ad G.2.1 M) q lv (.int (M.1 28) :: st)) : J X nL k n (mw o ad G.2.1 M) pc lv (.ref o :: st) :=
  j_get q C hd hq 0 rfl rfl ingX11 28 (by decide) fl_bestPlan rfl kk
theorem rp_bestPlan (q : Nat) {v : Int32} (C : Cx X l G cc nL RX11 rt d mc ms post) (hd : decode cc pc = .ok (.putfield 348, 3)) (hq : pc + 3 = q) (kk : J X nL k n (mw o ad G.2.1 (sS M 28 v)) q lv st) : J X nL k n (mw o ad G.2.1 M) pc lv (.int v :: .ref o :: st) :=
  j_put q tyX11 C hd hq 0 rfl rfl ingX11 tyX11_ok nmX11 28 (by decide) fl_bestPlan rfl rfl rfl (by show 28 < 38; decide) rfl kk
theorem rg_bestLeft (q : Nat) (C : Cx X l G cc nL RX11 rt d mc ms post) (hd : decode cc pc = .ok (.getfield 354, 3)) (hq : pc + 3 = q) (kk : J X nL k n (mw o ad G.2.1 M) q lv (.int (M.1 29) :: st)) : J X nL k n (mw o ad G.2.1 M) pc lv (.ref o :: st) :=
  j_get q C hd hq 0 rfl rfl ingX11 29 (by decide) fl_bestLeft rfl kk
theorem rp_bestLeft (q : Nat) {v : Int32} (C : Cx X l G cc nL RX11 rt d mc ms post) (hd : decode cc pc = .ok (.putfield 354, 3)) (hq : pc + 3 = q) (kk : J X nL k n (mw o ad G.2.1 (sS M 29 v)) q lv st) : J X nL k n (mw o ad G.2.1 M) pc lv (.int v :: .ref o :: st) :=
  j_put q tyX11 C hd hq 0 rfl rfl ingX11 tyX11_ok nmX11 29 (by decide) fl_bestLeft rfl rfl rfl (by show 29 < 38; decide) rfl kk
theorem rg_made (q : Nat) (C : Cx X l G cc nL RX11 rt d mc ms post) (hd : decode cc pc = .ok (.getfield 61, 3)) (hq : pc + 3 = q) (kk : J X nL k n (mw o ad G.2.1 M) q lv (.ref (ad 30) :: st)) : J X nL k n (mw o ad G.2.1 M) pc lv (.ref o :: st) :=
  j_get q C hd hq 0 rfl rfl ingX11 30 (by decide) fl_made rfl kk
theorem ra_made (q : Nat) {y : Int32} (C : Cx X l G cc nL RX11 rt d mc ms post) (hd : decode cc pc = .ok (.iaload, 1)) (hq : pc + 1 = q) (i : Nat) (hi : i < 12) (hy : y = nI i) (kk : J X nL k n (mw o ad G.2.1 M) q lv (.int (M.2.1 30 i) :: st)) : J X nL k n (mw o ad G.2.1 M) pc lv (.int y :: .ref (ad 30) :: st) :=
  j_iald q C hd hq 14 rfl i hi (by decide) hy kk
theorem rs_made (q : Nat) {y : Int32} {x : Int32} (C : Cx X l G cc nL RX11 rt d mc ms post) (hd : decode cc pc = .ok (.iastore, 1)) (hq : pc + 1 = q) (i : Nat) (hi : i < 12) (hy : y = nI i) (kk : J X nL k n (mw o ad G.2.1 (aS M 30 i x)) q lv st) : J X nL k n (mw o ad G.2.1 M) pc lv (.int x :: .int y :: .ref (ad 30) :: st) :=
  j_iast q C hd hq 14 rfl i hi (by decide) hy rfl kk
theorem rg_savedWorld (q : Nat) (C : Cx X l G cc nL RX11 rt d mc ms post) (hd : decode cc pc = .ok (.getfield 64, 3)) (hq : pc + 3 = q) (kk : J X nL k n (mw o ad G.2.1 M) q lv (.ref (ad 31) :: st)) : J X nL k n (mw o ad G.2.1 M) pc lv (.ref o :: st) :=
  j_get q C hd hq 0 rfl rfl ingX11 31 (by decide) fl_savedWorld rfl kk
theorem ra_savedWorld (q : Nat) {y : Int32} (C : Cx X l G cc nL RX11 rt d mc ms post) (hd : decode cc pc = .ok (.iaload, 1)) (hq : pc + 1 = q) (i : Nat) (hi : i < 1120) (hy : y = nI i) (kk : J X nL k n (mw o ad G.2.1 M) q lv (.int (M.2.1 31 i) :: st)) : J X nL k n (mw o ad G.2.1 M) pc lv (.int y :: .ref (ad 31) :: st) :=
  j_iald q C hd hq 15 rfl i hi (by decide) hy kk
theorem rs_savedWorld (q : Nat) {y : Int32} {x : Int32} (C : Cx X l G cc nL RX11 rt d mc ms post) (hd : decode cc pc = .ok (.iastore, 1)) (hq : pc + 1 = q) (i : Nat) (hi : i < 1120) (hy : y = nI i) (kk : J X nL k n (mw o ad G.2.1 (aS M 31 i x)) q lv st) : J X nL k n (mw o ad G.2.1 M) pc lv (.int x :: .int y :: .ref (ad 31) :: st) :=
  j_iast q C hd hq 15 rfl i hi (by decide) hy rfl kk
theorem rg_itsNeeds (q : Nat) (C : Cx X l G cc nL RX11 rt d mc ms post) (hd : decode cc pc = .ok (.getfield 67, 3)) (hq : pc + 3 = q) (kk : J X nL k n (mw o ad G.2.1 M) q lv (.ref (ad 32) :: st)) : J X nL k n (mw o ad G.2.1 M) pc lv (.ref o :: st) :=
  j_get q C hd hq 0 rfl rfl ingX11 32 (by decide) fl_itsNeeds rfl kk
theorem ra_itsNeeds (q : Nat) {y : Int32} (C : Cx X l G cc nL RX11 rt d mc ms post) (hd : decode cc pc = .ok (.iaload, 1)) (hq : pc + 1 = q) (i : Nat) (hi : i < 12) (hy : y = nI i) (kk : J X nL k n (mw o ad G.2.1 M) q lv (.int (M.2.1 32 i) :: st)) : J X nL k n (mw o ad G.2.1 M) pc lv (.int y :: .ref (ad 32) :: st) :=
  j_iald q C hd hq 16 rfl i hi (by decide) hy kk
theorem rs_itsNeeds (q : Nat) {y : Int32} {x : Int32} (C : Cx X l G cc nL RX11 rt d mc ms post) (hd : decode cc pc = .ok (.iastore, 1)) (hq : pc + 1 = q) (i : Nat) (hi : i < 12) (hy : y = nI i) (kk : J X nL k n (mw o ad G.2.1 (aS M 32 i x)) q lv st) : J X nL k n (mw o ad G.2.1 M) pc lv (.int x :: .int y :: .ref (ad 32) :: st) :=
  j_iast q C hd hq 16 rfl i hi (by decide) hy rfl kk
theorem rg_itsMany (q : Nat) (C : Cx X l G cc nL RX11 rt d mc ms post) (hd : decode cc pc = .ok (.getfield 70, 3)) (hq : pc + 3 = q) (kk : J X nL k n (mw o ad G.2.1 M) q lv (.ref (ad 33) :: st)) : J X nL k n (mw o ad G.2.1 M) pc lv (.ref o :: st) :=
  j_get q C hd hq 0 rfl rfl ingX11 33 (by decide) fl_itsMany rfl kk
theorem ra_itsMany (q : Nat) {y : Int32} (C : Cx X l G cc nL RX11 rt d mc ms post) (hd : decode cc pc = .ok (.iaload, 1)) (hq : pc + 1 = q) (i : Nat) (hi : i < 12) (hy : y = nI i) (kk : J X nL k n (mw o ad G.2.1 M) q lv (.int (M.2.1 33 i) :: st)) : J X nL k n (mw o ad G.2.1 M) pc lv (.int y :: .ref (ad 33) :: st) :=
  j_iald q C hd hq 17 rfl i hi (by decide) hy kk
theorem rs_itsMany (q : Nat) {y : Int32} {x : Int32} (C : Cx X l G cc nL RX11 rt d mc ms post) (hd : decode cc pc = .ok (.iastore, 1)) (hq : pc + 1 = q) (i : Nat) (hi : i < 12) (hy : y = nI i) (kk : J X nL k n (mw o ad G.2.1 (aS M 33 i x)) q lv st) : J X nL k n (mw o ad G.2.1 M) pc lv (.int x :: .int y :: .ref (ad 33) :: st) :=
  j_iast q C hd hq 17 rfl i hi (by decide) hy rfl kk
theorem rg_many (q : Nat) (C : Cx X l G cc nL RX11 rt d mc ms post) (hd : decode cc pc = .ok (.getfield 73, 3)) (hq : pc + 3 = q) (kk : J X nL k n (mw o ad G.2.1 M) q lv (.ref (ad 34) :: st)) : J X nL k n (mw o ad G.2.1 M) pc lv (.ref o :: st) :=
  j_get q C hd hq 0 rfl rfl ingX11 34 (by decide) fl_many rfl kk
theorem ra_many (q : Nat) {y : Int32} (C : Cx X l G cc nL RX11 rt d mc ms post) (hd : decode cc pc = .ok (.iaload, 1)) (hq : pc + 1 = q) (i : Nat) (hi : i < 4) (hy : y = nI i) (kk : J X nL k n (mw o ad G.2.1 M) q lv (.int (M.2.1 34 i) :: st)) : J X nL k n (mw o ad G.2.1 M) pc lv (.int y :: .ref (ad 34) :: st) :=
  j_iald q C hd hq 18 rfl i hi (by decide) hy kk
theorem rs_many (q : Nat) {y : Int32} {x : Int32} (C : Cx X l G cc nL RX11 rt d mc ms post) (hd : decode cc pc = .ok (.iastore, 1)) (hq : pc + 1 = q) (i : Nat) (hi : i < 4) (hy : y = nI i) (kk : J X nL k n (mw o ad G.2.1 (aS M 34 i x)) q lv st) : J X nL k n (mw o ad G.2.1 M) pc lv (.int x :: .int y :: .ref (ad 34) :: st) :=
  j_iast q C hd hq 18 rfl i hi (by decide) hy rfl kk
theorem rg_width (q : Nat) (C : Cx X l G cc nL RX11 rt d mc ms post) (hd : decode cc pc = .ok (.getfield 76, 3)) (hq : pc + 3 = q) (kk : J X nL k n (mw o ad G.2.1 M) q lv (.ref (ad 35) :: st)) : J X nL k n (mw o ad G.2.1 M) pc lv (.ref o :: st) :=
  j_get q C hd hq 0 rfl rfl ingX11 35 (by decide) fl_width rfl kk
theorem ra_width (q : Nat) {y : Int32} (C : Cx X l G cc nL RX11 rt d mc ms post) (hd : decode cc pc = .ok (.iaload, 1)) (hq : pc + 1 = q) (i : Nat) (hi : i < 4) (hy : y = nI i) (kk : J X nL k n (mw o ad G.2.1 M) q lv (.int (M.2.1 35 i) :: st)) : J X nL k n (mw o ad G.2.1 M) pc lv (.int y :: .ref (ad 35) :: st) :=
  j_iald q C hd hq 19 rfl i hi (by decide) hy kk
theorem rs_width (q : Nat) {y : Int32} {x : Int32} (C : Cx X l G cc nL RX11 rt d mc ms post) (hd : decode cc pc = .ok (.iastore, 1)) (hq : pc + 1 = q) (i : Nat) (hi : i < 4) (hy : y = nI i) (kk : J X nL k n (mw o ad G.2.1 (aS M 35 i x)) q lv st) : J X nL k n (mw o ad G.2.1 M) pc lv (.int x :: .int y :: .ref (ad 35) :: st) :=
  j_iast q C hd hq 19 rfl i hi (by decide) hy rfl kk
theorem rg_numbers (q : Nat) (C : Cx X l G cc nL RX11 rt d mc ms post) (hd : decode cc pc = .ok (.getfield 79, 3)) (hq : pc + 3 = q) (kk : J X nL k n (mw o ad G.2.1 M) q lv (.ref (ad 36) :: st)) : J X nL k n (mw o ad G.2.1 M) pc lv (.ref o :: st) :=
  j_get q C hd hq 0 rfl rfl ingX11 36 (by decide) fl_numbers rfl kk
theorem ra_numbers (q : Nat) {y : Int32} (C : Cx X l G cc nL RX11 rt d mc ms post) (hd : decode cc pc = .ok (.laload, 1)) (hq : pc + 1 = q) (i : Nat) (hi : i < 240) (hy : y = nI i) (kk : J X nL k n (mw o ad G.2.1 M) q lv (.long (M.2.2 36 i) :: st)) : J X nL k n (mw o ad G.2.1 M) pc lv (.int y :: .ref (ad 36) :: st) :=
  j_lald q C hd hq 20 rfl i hi (by decide) hy kk
theorem rs_numbers (q : Nat) {y : Int32} {x : Int64} (C : Cx X l G cc nL RX11 rt d mc ms post) (hd : decode cc pc = .ok (.lastore, 1)) (hq : pc + 1 = q) (i : Nat) (hi : i < 240) (hy : y = nI i) (kk : J X nL k n (mw o ad G.2.1 (lS M 36 i x)) q lv st) : J X nL k n (mw o ad G.2.1 M) pc lv (.long x :: .int y :: .ref (ad 36) :: st) :=
  j_last q C hd hq 20 rfl i hi (by decide) hy rfl kk
theorem rg_moving (q : Nat) (C : Cx X l G cc nL RX11 rt d mc ms post) (hd : decode cc pc = .ok (.getfield 83, 3)) (hq : pc + 3 = q) (kk : J X nL k n (mw o ad G.2.1 M) q lv (.ref (ad 37) :: st)) : J X nL k n (mw o ad G.2.1 M) pc lv (.ref o :: st) :=
  j_get q C hd hq 0 rfl rfl ingX11 37 (by decide) fl_moving rfl kk
theorem ra_moving (q : Nat) {y : Int32} (C : Cx X l G cc nL RX11 rt d mc ms post) (hd : decode cc pc = .ok (.laload, 1)) (hq : pc + 1 = q) (i : Nat) (hi : i < 60) (hy : y = nI i) (kk : J X nL k n (mw o ad G.2.1 M) q lv (.long (M.2.2 37 i) :: st)) : J X nL k n (mw o ad G.2.1 M) pc lv (.int y :: .ref (ad 37) :: st) :=
  j_lald q C hd hq 21 rfl i hi (by decide) hy kk
theorem rs_moving (q : Nat) {y : Int32} {x : Int64} (C : Cx X l G cc nL RX11 rt d mc ms post) (hd : decode cc pc = .ok (.lastore, 1)) (hq : pc + 1 = q) (i : Nat) (hi : i < 60) (hy : y = nI i) (kk : J X nL k n (mw o ad G.2.1 (lS M 37 i x)) q lv st) : J X nL k n (mw o ad G.2.1 M) pc lv (.long x :: .int y :: .ref (ad 37) :: st) :=
  j_last q C hd hq 21 rfl i hi (by decide) hy rfl kk
end RM
