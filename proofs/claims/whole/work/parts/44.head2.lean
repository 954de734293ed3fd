section Ly_Lhh
variable {X : JX} {l : Launch} {G : GG} {cc : ByteArray} {nL : Nat} {own : String} {rt : Option FieldType} {d mc ms : Nat} {post : Option Value → va_W → Prop} {k n pc : Nat} {lv : List (Nat × Value)} {st : List Value} {zh zo : Nat → Nat} {Sh So : MS}
theorem Lhhg_h0 (q : Nat) {idx : Nat} (C : Cx X l G cc nL own rt d mc ms post) (hd : decode cc pc = .ok (.getfield idx, 3)) (hq : pc + 3 = q) (hlf : Cond.fieldLink own idx (TX2 0).1 (TX2 0).2.1 (TX2 0).2.2.1 ∈ gtbl) (kk : J X nL k n (hBk zh G.2.1 Sh ++ (hBk zo G.2.1 So)) q lv (.int (Sh.1 0) :: st)) : J X nL k n (hBk zh G.2.1 Sh ++ (hBk zo G.2.1 So)) pc lv (.ref (zh 50) :: st) := j_get q C hd hq 0 rfl rfl ingX2 0 (by decide) hlf rfl kk
theorem Lhhp_h0 (q : Nat) {idx : Nat} {v : Int32} (C : Cx X l G cc nL own rt d mc ms post) (hd : decode cc pc = .ok (.putfield idx, 3)) (hq : pc + 3 = q) (hlf : Cond.fieldLink own idx (TX2 0).1 (TX2 0).2.1 (TX2 0).2.2.1 ∈ gtbl) (kk : J X nL k n (hBk zh G.2.1 (sS Sh 0 v) ++ (hBk zo G.2.1 So)) q lv st) : J X nL k n (hBk zh G.2.1 Sh ++ (hBk zo G.2.1 So)) pc lv (.int v :: .ref (zh 50) :: st) := j_put q tyX2 C hd hq 0 rfl rfl ingX2 tyX2_ok nmX2 0 (by decide) hlf rfl rfl rfl (by show 0 < 5; decide) rfl kk
theorem Lhhg_h1 (q : Nat) {idx : Nat} (C : Cx X l G cc nL own rt d mc ms post) (hd : decode cc pc = .ok (.getfield idx, 3)) (hq : pc + 3 = q) (hlf : Cond.fieldLink own idx (TX2 1).1 (TX2 1).2.1 (TX2 1).2.2.1 ∈ gtbl) (kk : J X nL k n (hBk zh G.2.1 Sh ++ (hBk zo G.2.1 So)) q lv (.int (Sh.1 1) :: st)) : J X nL k n (hBk zh G.2.1 Sh ++ (hBk zo G.2.1 So)) pc lv (.ref (zh 50) :: st) := j_get q C hd hq 0 rfl rfl ingX2 1 (by decide) hlf rfl kk
theorem Lhhp_h1 (q : Nat) {idx : Nat} {v : Int32} (C : Cx X l G cc nL own rt d mc ms post) (hd : decode cc pc = .ok (.putfield idx, 3)) (hq : pc + 3 = q) (hlf : Cond.fieldLink own idx (TX2 1).1 (TX2 1).2.1 (TX2 1).2.2.1 ∈ gtbl) (kk : J X nL k n (hBk zh G.2.1 (sS Sh 1 v) ++ (hBk zo G.2.1 So)) q lv st) : J X nL k n (hBk zh G.2.1 Sh ++ (hBk zo G.2.1 So)) pc lv (.int v :: .ref (zh 50) :: st) := j_put q tyX2 C hd hq 0 rfl rfl ingX2 tyX2_ok nmX2 1 (by decide) hlf rfl rfl rfl (by show 1 < 5; decide) rfl kk
theorem Lhhg_h2 (q : Nat) {idx : Nat} (C : Cx X l G cc nL own rt d mc ms post) (hd : decode cc pc = .ok (.getfield idx, 3)) (hq : pc + 3 = q) (hlf : Cond.fieldLink own idx (TX2 2).1 (TX2 2).2.1 (TX2 2).2.2.1 ∈ gtbl) (kk : J X nL k n (hBk zh G.2.1 Sh ++ (hBk zo G.2.1 So)) q lv (.ref (zh 2) :: st)) : J X nL k n (hBk zh G.2.1 Sh ++ (hBk zo G.2.1 So)) pc lv (.ref (zh 50) :: st) := j_get q C hd hq 0 rfl rfl ingX2 2 (by decide) hlf rfl kk
theorem Lhha_h2 (q : Nat) {y : Int32} (C : Cx X l G cc nL own rt d mc ms post) (hd : decode cc pc = .ok (.iaload, 1)) (hq : pc + 1 = q) (i : Nat) (hi : i < 2016) (hy : y = nI i) (kk : J X nL k n (hBk zh G.2.1 Sh ++ (hBk zo G.2.1 So)) q lv (.int (Sh.2.1 2 i) :: st)) : J X nL k n (hBk zh G.2.1 Sh ++ (hBk zo G.2.1 So)) pc lv (.int y :: .ref (zh 2) :: st) := j_iald q C hd hq 1 rfl i hi (by decide) hy kk
theorem Lhhs_h2 (q : Nat) {y : Int32} {x : Int32} (C : Cx X l G cc nL own rt d mc ms post) (hd : decode cc pc = .ok (.iastore, 1)) (hq : pc + 1 = q) (i : Nat) (hi : i < 2016) (hy : y = nI i) (kk : J X nL k n (hBk zh G.2.1 (aS Sh 2 i x) ++ (hBk zo G.2.1 So)) q lv st) : J X nL k n (hBk zh G.2.1 Sh ++ (hBk zo G.2.1 So)) pc lv (.int x :: .int y :: .ref (zh 2) :: st) := j_iast q C hd hq 1 rfl i hi (by decide) hy rfl kk
theorem Lhhg_h3 (q : Nat) {idx : Nat} (C : Cx X l G cc nL own rt d mc ms post) (hd : decode cc pc = .ok (.getfield idx, 3)) (hq : pc + 3 = q) (hlf : Cond.fieldLink own idx (TX2 3).1 (TX2 3).2.1 (TX2 3).2.2.1 ∈ gtbl) (kk : J X nL k n (hBk zh G.2.1 Sh ++ (hBk zo G.2.1 So)) q lv (.ref (zh 3) :: st)) : J X nL k n (hBk zh G.2.1 Sh ++ (hBk zo G.2.1 So)) pc lv (.ref (zh 50) :: st) := j_get q C hd hq 0 rfl rfl ingX2 3 (by decide) hlf rfl kk
theorem Lhha_h3 (q : Nat) {y : Int32} (C : Cx X l G cc nL own rt d mc ms post) (hd : decode cc pc = .ok (.iaload, 1)) (hq : pc + 1 = q) (i : Nat) (hi : i < 528) (hy : y = nI i) (kk : J X nL k n (hBk zh G.2.1 Sh ++ (hBk zo G.2.1 So)) q lv (.int (Sh.2.1 3 i) :: st)) : J X nL k n (hBk zh G.2.1 Sh ++ (hBk zo G.2.1 So)) pc lv (.int y :: .ref (zh 3) :: st) := j_iald q C hd hq 2 rfl i hi (by decide) hy kk
theorem Lhhs_h3 (q : Nat) {y : Int32} {x : Int32} (C : Cx X l G cc nL own rt d mc ms post) (hd : decode cc pc = .ok (.iastore, 1)) (hq : pc + 1 = q) (i : Nat) (hi : i < 528) (hy : y = nI i) (kk : J X nL k n (hBk zh G.2.1 (aS Sh 3 i x) ++ (hBk zo G.2.1 So)) q lv st) : J X nL k n (hBk zh G.2.1 Sh ++ (hBk zo G.2.1 So)) pc lv (.int x :: .int y :: .ref (zh 3) :: st) := j_iast q C hd hq 2 rfl i hi (by decide) hy rfl kk
theorem Lhhg_h4 (q : Nat) {idx : Nat} (C : Cx X l G cc nL own rt d mc ms post) (hd : decode cc pc = .ok (.getfield idx, 3)) (hq : pc + 3 = q) (hlf : Cond.fieldLink own idx (TX2 4).1 (TX2 4).2.1 (TX2 4).2.2.1 ∈ gtbl) (kk : J X nL k n (hBk zh G.2.1 Sh ++ (hBk zo G.2.1 So)) q lv (.int (Sh.1 4) :: st)) : J X nL k n (hBk zh G.2.1 Sh ++ (hBk zo G.2.1 So)) pc lv (.ref (zh 50) :: st) := j_get q C hd hq 0 rfl rfl ingX2 4 (by decide) hlf rfl kk
theorem Lhhp_h4 (q : Nat) {idx : Nat} {v : Int32} (C : Cx X l G cc nL own rt d mc ms post) (hd : decode cc pc = .ok (.putfield idx, 3)) (hq : pc + 3 = q) (hlf : Cond.fieldLink own idx (TX2 4).1 (TX2 4).2.1 (TX2 4).2.2.1 ∈ gtbl) (kk : J X nL k n (hBk zh G.2.1 (sS Sh 4 v) ++ (hBk zo G.2.1 So)) q lv st) : J X nL k n (hBk zh G.2.1 Sh ++ (hBk zo G.2.1 So)) pc lv (.int v :: .ref (zh 50) :: st) := j_put q tyX2 C hd hq 0 rfl rfl ingX2 tyX2_ok nmX2 4 (by decide) hlf rfl rfl rfl (by show 4 < 5; decide) rfl kk
theorem Lhhg_o0 (q : Nat) {idx : Nat} (C : Cx X l G cc nL own rt d mc ms post) (hd : decode cc pc = .ok (.getfield idx, 3)) (hq : pc + 3 = q) (hlf : Cond.fieldLink own idx (TX2 0).1 (TX2 0).2.1 (TX2 0).2.2.1 ∈ gtbl) (kk : J X nL k n (hBk zh G.2.1 Sh ++ (hBk zo G.2.1 So)) q lv (.int (So.1 0) :: st)) : J X nL k n (hBk zh G.2.1 Sh ++ (hBk zo G.2.1 So)) pc lv (.ref (zo 50) :: st) := j_get q C hd hq 3 rfl rfl ingX2 0 (by decide) hlf rfl kk
theorem Lhhp_o0 (q : Nat) {idx : Nat} {v : Int32} (C : Cx X l G cc nL own rt d mc ms post) (hd : decode cc pc = .ok (.putfield idx, 3)) (hq : pc + 3 = q) (hlf : Cond.fieldLink own idx (TX2 0).1 (TX2 0).2.1 (TX2 0).2.2.1 ∈ gtbl) (kk : J X nL k n (hBk zh G.2.1 Sh ++ (hBk zo G.2.1 (sS So 0 v))) q lv st) : J X nL k n (hBk zh G.2.1 Sh ++ (hBk zo G.2.1 So)) pc lv (.int v :: .ref (zo 50) :: st) := j_put q tyX2 C hd hq 3 rfl rfl ingX2 tyX2_ok nmX2 0 (by decide) hlf rfl rfl rfl (by show 0 < 5; decide) rfl kk
theorem Lhhg_o1 (q : Nat) {idx : Nat} (C : Cx X l G cc nL own rt d mc ms post) (hd : decode cc pc = .ok (.getfield idx, 3)) (hq : pc + 3 = q) (hlf : Cond.fieldLink own idx (TX2 1).1 (TX2 1).2.1 (TX2 1).2.2.1 ∈ gtbl) (kk : J X nL k n (hBk zh G.2.1 Sh ++ (hBk zo G.2.1 So)) q lv (.int (So.1 1) :: st)) : J X nL k n (hBk zh G.2.1 Sh ++ (hBk zo G.2.1 So)) pc lv (.ref (zo 50) :: st) := j_get q C hd hq 3 rfl rfl ingX2 1 (by decide) hlf rfl kk
theorem Lhhp_o1 (q : Nat) {idx : Nat} {v : Int32} (C : Cx X l G cc nL own rt d mc ms post) (hd : decode cc pc = .ok (.putfield idx, 3)) (hq : pc + 3 = q) (hlf : Cond.fieldLink own idx (TX2 1).1 (TX2 1).2.1 (TX2 1).2.2.1 ∈ gtbl) (kk : J X nL k n (hBk zh G.2.1 Sh ++ (hBk zo G.2.1 (sS So 1 v))) q lv st) : J X nL k n (hBk zh G.2.1 Sh ++ (hBk zo G.2.1 So)) pc lv (.int v :: .ref (zo 50) :: st) := j_put q tyX2 C hd hq 3 rfl rfl ingX2 tyX2_ok nmX2 1 (by decide) hlf rfl rfl rfl (by show 1 < 5; decide) rfl kk
theorem Lhhg_o2 (q : Nat) {idx : Nat} (C : Cx X l G cc nL own rt d mc ms post) (hd : decode cc pc = .ok (.getfield idx, 3)) (hq : pc + 3 = q) (hlf : Cond.fieldLink own idx (TX2 2).1 (TX2 2).2.1 (TX2 2).2.2.1 ∈ gtbl) (kk : J X nL k n (hBk zh G.2.1 Sh ++ (hBk zo G.2.1 So)) q lv (.ref (zo 2) :: st)) : J X nL k n (hBk zh G.2.1 Sh ++ (hBk zo G.2.1 So)) pc lv (.ref (zo 50) :: st) := j_get q C hd hq 3 rfl rfl ingX2 2 (by decide) hlf rfl kk
theorem Lhha_o2 (q : Nat) {y : Int32} (C : Cx X l G cc nL own rt d mc ms post) (hd : decode cc pc = .ok (.iaload, 1)) (hq : pc + 1 = q) (i : Nat) (hi : i < 2016) (hy : y = nI i) (kk : J X nL k n (hBk zh G.2.1 Sh ++ (hBk zo G.2.1 So)) q lv (.int (So.2.1 2 i) :: st)) : J X nL k n (hBk zh G.2.1 Sh ++ (hBk zo G.2.1 So)) pc lv (.int y :: .ref (zo 2) :: st) := j_iald q C hd hq 4 rfl i hi (by decide) hy kk
theorem Lhhs_o2 (q : Nat) {y : Int32} {x : Int32} (C : Cx X l G cc nL own rt d mc ms post) (hd : decode cc pc = .ok (.iastore, 1)) (hq : pc + 1 = q) (i : Nat) (hi : i < 2016) (hy : y = nI i) (kk : J X nL k n (hBk zh G.2.1 Sh ++ (hBk zo G.2.1 (aS So 2 i x))) q lv st) : J X nL k n (hBk zh G.2.1 Sh ++ (hBk zo G.2.1 So)) pc lv (.int x :: .int y :: .ref (zo 2) :: st) := j_iast q C hd hq 4 rfl i hi (by decide) hy rfl kk
theorem Lhhg_o3 (q : Nat) {idx : Nat} (C : Cx X l G cc nL own rt d mc ms post) (hd : decode cc pc = .ok (.getfield idx, 3)) (hq : pc + 3 = q) (hlf : Cond.fieldLink own idx (TX2 3).1 (TX2 3).2.1 (TX2 3).2.2.1 ∈ gtbl) (kk : J X nL k n (hBk zh G.2.1 Sh ++ (hBk zo G.2.1 So)) q lv (.ref (zo 3) :: st)) : J X nL k n (hBk zh G.2.1 Sh ++ (hBk zo G.2.1 So)) pc lv (.ref (zo 50) :: st) := j_get q C hd hq 3 rfl rfl ingX2 3 (by decide) hlf rfl kk
theorem Lhha_o3 (q : Nat) {y : Int32} (C : Cx X l G cc nL own rt d mc ms post) (hd : decode cc pc = .ok (.iaload, 1)) (hq : pc + 1 = q) (i : Nat) (hi : i < 528) (hy : y = nI i) (kk : J X nL k n (hBk zh G.2.1 Sh ++ (hBk zo G.2.1 So)) q lv (.int (So.2.1 3 i) :: st)) : J X nL k n (hBk zh G.2.1 Sh ++ (hBk zo G.2.1 So)) pc lv (.int y :: .ref (zo 3) :: st) := j_iald q C hd hq 5 rfl i hi (by decide) hy kk
theorem Lhhs_o3 (q : Nat) {y : Int32} {x : Int32} (C : Cx X l G cc nL own rt d mc ms post) (hd : decode cc pc = .ok (.iastore, 1)) (hq : pc + 1 = q) (i : Nat) (hi : i < 528) (hy : y = nI i) (kk : J X nL k n (hBk zh G.2.1 Sh ++ (hBk zo G.2.1 (aS So 3 i x))) q lv st) : J X nL k n (hBk zh G.2.1 Sh ++ (hBk zo G.2.1 So)) pc lv (.int x :: .int y :: .ref (zo 3) :: st) := j_iast q C hd hq 5 rfl i hi (by decide) hy rfl kk
theorem Lhhg_o4 (q : Nat) {idx : Nat} (C : Cx X l G cc nL own rt d mc ms post) (hd : decode cc pc = .ok (.getfield idx, 3)) (hq : pc + 3 = q) (hlf : Cond.fieldLink own idx (TX2 4).1 (TX2 4).2.1 (TX2 4).2.2.1 ∈ gtbl) (kk : J X nL k n (hBk zh G.2.1 Sh ++ (hBk zo G.2.1 So)) q lv (.int (So.1 4) :: st)) : J X nL k n (hBk zh G.2.1 Sh ++ (hBk zo G.2.1 So)) pc lv (.ref (zo 50) :: st) := j_get q C hd hq 3 rfl rfl ingX2 4 (by decide) hlf rfl kk
theorem Lhhp_o4 (q : Nat) {idx : Nat} {v : Int32} (C : Cx X l G cc nL own rt d mc ms post) (hd : decode cc pc = .ok (.putfield idx, 3)) (hq : pc + 3 = q) (hlf : Cond.fieldLink own idx (TX2 4).1 (TX2 4).2.1 (TX2 4).2.2.1 ∈ gtbl) (kk : J X nL k n (hBk zh G.2.1 Sh ++ (hBk zo G.2.1 (sS So 4 v))) q lv st) : J X nL k n (hBk zh G.2.1 Sh ++ (hBk zo G.2.1 So)) pc lv (.int v :: .ref (zo 50) :: st) := j_put q tyX2 C hd hq 3 rfl rfl ingX2 tyX2_ok nmX2 4 (by decide) hlf rfl rfl rfl (by show 4 < 5; decide) rfl kk
end Ly_Lhh
section Lc_Lhh
variable {X : JX} {l : Launch} {G : GG} {cc : ByteArray} {nL : Nat} {own : String} {rt : Option FieldType} {d mc ms : Nat} {post : Option Value → va_W → Prop} {k n pc : Nat} {lv : List (Nat × Value)} {st : List Value} {zh zo : Nat → Nat} {Sh So : MS}
variable {y : MethodName} {cy : ByteArray} {mL idx np d' : Nat} {rt' : Option FieldType} {As st0 : List Value} {x : Int32} {xl : Int64}
theorem Lhhx_hI {Th : MS} (q : Nat) (C : Cx X l G cc nL own rt d mc ms post) (hd : decode cc pc = .ok (.invokevirtual idx, 3)) (hq : pc + 3 = q) (hw : CW own idx y cy mL rt' np) (hy : y.cls = RX2) (hC : Con l G y cy mL rt' d' 0 0 (.ref (zh 50) :: As) (hBk zh G.2.1 Sh) (pI x (hBk zh G.2.1 Th))) (hnp : As.length = np) (hdd : d' + 1 ≤ d) (hk : k ≤ mc ∧ n ≤ ms) (hst : st0 = As.reverse ++ .ref (zh 50) :: st) (hrm : (st.map fun v => v.category).sum ≤ 8) (kk : J X nL k n (hBk zh G.2.1 Th ++ (hBk zo G.2.1 So)) q lv (.int x :: st)) : J X nL k n (hBk zh G.2.1 Sh ++ (hBk zo G.2.1 So)) pc lv st0 := by
  refine j_callM q C hd hq hw hC hnp ⟨hdd, hk.1, hk.2⟩ hst hrm [] (hBk zo G.2.1 So) rfl 0 rfl (ci := 2) (T := TX2) (N := 5) (by rw [hy]; rfl) (fun v w hp => ?_)
  obtain ⟨rfl, rfl⟩ := hp
  exact kk
theorem Lhhx_hL {Th : MS} (q : Nat) (C : Cx X l G cc nL own rt d mc ms post) (hd : decode cc pc = .ok (.invokevirtual idx, 3)) (hq : pc + 3 = q) (hw : CW own idx y cy mL rt' np) (hy : y.cls = RX2) (hC : Con l G y cy mL rt' d' 0 0 (.ref (zh 50) :: As) (hBk zh G.2.1 Sh) (pL xl (hBk zh G.2.1 Th))) (hnp : As.length = np) (hdd : d' + 1 ≤ d) (hk : k ≤ mc ∧ n ≤ ms) (hst : st0 = As.reverse ++ .ref (zh 50) :: st) (hrm : (st.map fun v => v.category).sum ≤ 8) (kk : J X nL k n (hBk zh G.2.1 Th ++ (hBk zo G.2.1 So)) q lv (.long xl :: st)) : J X nL k n (hBk zh G.2.1 Sh ++ (hBk zo G.2.1 So)) pc lv st0 := by
  refine j_callM q C hd hq hw hC hnp ⟨hdd, hk.1, hk.2⟩ hst hrm [] (hBk zo G.2.1 So) rfl 0 rfl (ci := 2) (T := TX2) (N := 5) (by rw [hy]; rfl) (fun v w hp => ?_)
  obtain ⟨rfl, rfl⟩ := hp
  exact kk
theorem Lhhx_hV {Th : MS} (q : Nat) (C : Cx X l G cc nL own rt d mc ms post) (hd : decode cc pc = .ok (.invokevirtual idx, 3)) (hq : pc + 3 = q) (hw : CW own idx y cy mL rt' np) (hy : y.cls = RX2) (hC : Con l G y cy mL rt' d' 0 0 (.ref (zh 50) :: As) (hBk zh G.2.1 Sh) (pV (hBk zh G.2.1 Th))) (hnp : As.length = np) (hdd : d' + 1 ≤ d) (hk : k ≤ mc ∧ n ≤ ms) (hst : st0 = As.reverse ++ .ref (zh 50) :: st) (hrm : (st.map fun v => v.category).sum ≤ 8) (kk : J X nL k n (hBk zh G.2.1 Th ++ (hBk zo G.2.1 So)) q lv st) : J X nL k n (hBk zh G.2.1 Sh ++ (hBk zo G.2.1 So)) pc lv st0 := by
  refine j_callM q C hd hq hw hC hnp ⟨hdd, hk.1, hk.2⟩ hst hrm [] (hBk zo G.2.1 So) rfl 0 rfl (ci := 2) (T := TX2) (N := 5) (by rw [hy]; rfl) (fun v w hp => ?_)
  obtain ⟨rfl, rfl⟩ := hp
  exact kk
theorem Lhhr_hI {P : Int32 → MS → Prop} (q : Nat) (C : Cx X l G cc nL own rt d mc ms post) (hd : decode cc pc = .ok (.invokevirtual idx, 3)) (hq : pc + 3 = q) (hw : CW own idx y cy mL rt' np) (hy : y.cls = RX2) (hC : Con l G y cy mL rt' d' 0 0 (.ref (zh 50) :: As) (hBk zh G.2.1 Sh) (qI (fun s : MS => (hBk zh G.2.1 s)) P)) (hnp : As.length = np) (hdd : d' + 1 ≤ d) (hk : k ≤ mc ∧ n ≤ ms) (hst : st0 = As.reverse ++ .ref (zh 50) :: st) (hrm : (st.map fun v => v.category).sum ≤ 8) (kk : ∀ (x : Int32) (s : MS), P x s → J X nL k n (hBk zh G.2.1 s ++ (hBk zo G.2.1 So)) q lv (.int x :: st)) : J X nL k n (hBk zh G.2.1 Sh ++ (hBk zo G.2.1 So)) pc lv st0 := by
  refine j_callM q C hd hq hw hC hnp ⟨hdd, hk.1, hk.2⟩ hst hrm [] (hBk zo G.2.1 So) rfl 0 rfl (ci := 2) (T := TX2) (N := 5) (by rw [hy]; rfl) (fun v w hp => ?_)
  obtain ⟨x, s, hp, rfl, rfl⟩ := hp
  exact kk x s hp
theorem Lhhr_hV {P : MS → Prop} (q : Nat) (C : Cx X l G cc nL own rt d mc ms post) (hd : decode cc pc = .ok (.invokevirtual idx, 3)) (hq : pc + 3 = q) (hw : CW own idx y cy mL rt' np) (hy : y.cls = RX2) (hC : Con l G y cy mL rt' d' 0 0 (.ref (zh 50) :: As) (hBk zh G.2.1 Sh) (qV (fun s : MS => (hBk zh G.2.1 s)) P)) (hnp : As.length = np) (hdd : d' + 1 ≤ d) (hk : k ≤ mc ∧ n ≤ ms) (hst : st0 = As.reverse ++ .ref (zh 50) :: st) (hrm : (st.map fun v => v.category).sum ≤ 8) (kk : ∀ (s : MS), P s → J X nL k n (hBk zh G.2.1 s ++ (hBk zo G.2.1 So)) q lv st) : J X nL k n (hBk zh G.2.1 Sh ++ (hBk zo G.2.1 So)) pc lv st0 := by
  refine j_callM q C hd hq hw hC hnp ⟨hdd, hk.1, hk.2⟩ hst hrm [] (hBk zo G.2.1 So) rfl 0 rfl (ci := 2) (T := TX2) (N := 5) (by rw [hy]; rfl) (fun v w hp => ?_)
  obtain ⟨s, hp, rfl, rfl⟩ := hp
  exact kk s hp
theorem Lhhx_oI {To : MS} (q : Nat) (C : Cx X l G cc nL own rt d mc ms post) (hd : decode cc pc = .ok (.invokevirtual idx, 3)) (hq : pc + 3 = q) (hw : CW own idx y cy mL rt' np) (hy : y.cls = RX2) (hC : Con l G y cy mL rt' d' 0 0 (.ref (zo 50) :: As) (hBk zo G.2.1 So) (pI x (hBk zo G.2.1 To))) (hnp : As.length = np) (hdd : d' + 1 ≤ d) (hk : k ≤ mc ∧ n ≤ ms) (hst : st0 = As.reverse ++ .ref (zo 50) :: st) (hrm : (st.map fun v => v.category).sum ≤ 8) (kk : J X nL k n (hBk zh G.2.1 Sh ++ (hBk zo G.2.1 To)) q lv (.int x :: st)) : J X nL k n (hBk zh G.2.1 Sh ++ (hBk zo G.2.1 So)) pc lv st0 := by
  refine j_callM q C hd hq hw hC hnp ⟨hdd, hk.1, hk.2⟩ hst hrm (hBk zh G.2.1 Sh) [] rfl 0 rfl (ci := 2) (T := TX2) (N := 5) (by rw [hy]; rfl) (fun v w hp => ?_)
  obtain ⟨rfl, rfl⟩ := hp
  exact kk
theorem Lhhx_oL {To : MS} (q : Nat) (C : Cx X l G cc nL own rt d mc ms post) (hd : decode cc pc = .ok (.invokevirtual idx, 3)) (hq : pc + 3 = q) (hw : CW own idx y cy mL rt' np) (hy : y.cls = RX2) (hC : Con l G y cy mL rt' d' 0 0 (.ref (zo 50) :: As) (hBk zo G.2.1 So) (pL xl (hBk zo G.2.1 To))) (hnp : As.length = np) (hdd : d' + 1 ≤ d) (hk : k ≤ mc ∧ n ≤ ms) (hst : st0 = As.reverse ++ .ref (zo 50) :: st) (hrm : (st.map fun v => v.category).sum ≤ 8) (kk : J X nL k n (hBk zh G.2.1 Sh ++ (hBk zo G.2.1 To)) q lv (.long xl :: st)) : J X nL k n (hBk zh G.2.1 Sh ++ (hBk zo G.2.1 So)) pc lv st0 := by
  refine j_callM q C hd hq hw hC hnp ⟨hdd, hk.1, hk.2⟩ hst hrm (hBk zh G.2.1 Sh) [] rfl 0 rfl (ci := 2) (T := TX2) (N := 5) (by rw [hy]; rfl) (fun v w hp => ?_)
  obtain ⟨rfl, rfl⟩ := hp
  exact kk
theorem Lhhx_oV {To : MS} (q : Nat) (C : Cx X l G cc nL own rt d mc ms post) (hd : decode cc pc = .ok (.invokevirtual idx, 3)) (hq : pc + 3 = q) (hw : CW own idx y cy mL rt' np) (hy : y.cls = RX2) (hC : Con l G y cy mL rt' d' 0 0 (.ref (zo 50) :: As) (hBk zo G.2.1 So) (pV (hBk zo G.2.1 To))) (hnp : As.length = np) (hdd : d' + 1 ≤ d) (hk : k ≤ mc ∧ n ≤ ms) (hst : st0 = As.reverse ++ .ref (zo 50) :: st) (hrm : (st.map fun v => v.category).sum ≤ 8) (kk : J X nL k n (hBk zh G.2.1 Sh ++ (hBk zo G.2.1 To)) q lv st) : J X nL k n (hBk zh G.2.1 Sh ++ (hBk zo G.2.1 So)) pc lv st0 := by
  refine j_callM q C hd hq hw hC hnp ⟨hdd, hk.1, hk.2⟩ hst hrm (hBk zh G.2.1 Sh) [] rfl 0 rfl (ci := 2) (T := TX2) (N := 5) (by rw [hy]; rfl) (fun v w hp => ?_)
  obtain ⟨rfl, rfl⟩ := hp
  exact kk
end Lc_Lhh
def lkN (g : Nat → Nat) (s : Nat) (L : List Nat) : Nat := (L.filter (fun c => decide (c / 576 = s ∧ 0 < g c))).length
theorem lkN_y {g : Nat → Nat} {s i : Nat} {L : List Nat} (hi : i < L.length) (h : L.getD i 0 / 576 = s ∧ 0 < g (L.getD i 0)) : lkN g s (L.take (i + 1)) = lkN g s (L.take i) + 1 := by
  unfold lkN
  rw [tk_s L i hi, List.filter_append, List.length_append, List.filter_cons_of_pos (by simpa using h)]; rfl
theorem lkN_n {g : Nat → Nat} {s i : Nat} {L : List Nat} (hi : i < L.length) (h : ¬ (L.getD i 0 / 576 = s ∧ 0 < g (L.getD i 0))) : lkN g s (L.take (i + 1)) = lkN g s (L.take i) := by
  unfold lkN
  rw [tk_s L i hi, List.filter_append, List.length_append, List.filter_cons_of_neg (by simpa using h)]; rfl
theorem lkN_le (g : Nat → Nat) (s : Nat) (L : List Nat) : lkN g s L ≤ L.length := List.length_filter_le _ _
theorem HH_gD {S : MS} {L : List Nat} {g : Nat → Nat} (h : HH S L g) {i : Nat} (hi : i < L.length) : L.getD i 0 < 2016 := h.2.2.2.2.1 _ (gD_mem L i hi)
def clz (S : MS) (L : List Nat) : Nat → Int32 := fun j => if j ∈ L then nI 0 else S.2.1 2 j
theorem clz_0 (S : MS) (L : List Nat) : clz S (L.take 0) = S.2.1 2 := by funext j; exact if_neg (by simp)
theorem clz_s (S : MS) (L : List Nat) {i : Nat} (hi : i < L.length) : upd (clz S (L.take i)) (L.getD i 0) (nI 0) = clz S (L.take (i + 1)) := by
  funext j
  unfold clz
  rw [tk_s L i hi]
  by_cases e : j = L.getD i 0
  · subst e; rw [pk_us, if_pos (List.mem_append.mpr (Or.inr List.mem_cons_self))]
  · rw [pk_un e]
    by_cases z : j ∈ L.take i
    · rw [if_pos z, if_pos (List.mem_append.mpr (Or.inl z))]
    · rw [if_neg z, if_neg (fun q => (List.mem_append.mp q).elim z (fun q => e (List.mem_singleton.mp q)))]
theorem HH_clr {S : MS} {L : List Nat} {g : Nat → Nat} (h : HH S L g) : HH (sS (sS (sS (aR S 2 (clz S L)) 4 (nI 0)) 0 (nI 0)) 1 (nI 0)) [] (fun _ => 0) := by
  refine ⟨rfl, by show 0 ≤ 528; omega, fun i hi => absurd hi (Nat.not_lt_zero _), List.nodup_nil, fun c hc => absurd hc List.not_mem_nil, fun c hc => ?_, fun _ => Nat.zero_le _, fun _ _ => rfl⟩
  rw [if_neg List.not_mem_nil]
  show clz S L c = _
  unfold clz
  split
  · rfl
  · rename_i e; rw [h.2.2.2.2.2.1 c hc, if_neg e]
def pos (g : Nat → Nat) (L : List Nat) : List Nat := L.filter (fun c => decide (0 < g c))
theorem pos_y {g : Nat → Nat} {i : Nat} {L : List Nat} (hi : i < L.length) (h : 0 < g (L.getD i 0)) : pos g (L.take (i + 1)) = pos g (L.take i) ++ [L.getD i 0] := by
  unfold pos
  rw [tk_s L i hi, List.filter_append, List.filter_cons_of_pos (by simpa using h)]; rfl
theorem pos_n {g : Nat → Nat} {i : Nat} {L : List Nat} (hi : i < L.length) (h : g (L.getD i 0) = 0) : pos g (L.take (i + 1)) = pos g (L.take i) := by
  unfold pos
  rw [tk_s L i hi, List.filter_append, List.filter_cons_of_neg (by show ¬ decide (0 < g (L.getD i 0)) = true; rw [h]; decide)]; exact List.append_nil _
theorem pos_le (g : Nat → Nat) (L : List Nat) : (pos g L).length ≤ L.length := List.length_filter_le _ _
theorem pos_tk (g : Nat → Nat) (L : List Nat) (i : Nat) : (pos g (L.take i)).length ≤ i := Nat.le_trans (pos_le g _) (by rw [List.length_take]; omega)
theorem pos_mem {g : Nat → Nat} {L : List Nat} {c : Nat} : c ∈ pos g L ↔ c ∈ L ∧ 0 < g c := by unfold pos; rw [List.mem_filter]; simp
def drz (S : MS) (g : Nat → Nat) (L : List Nat) : Nat → Int32 := fun j => if j ∈ L ∧ g j = 0 then nI 0 else S.2.1 2 j
theorem drz_0 (S : MS) (g : Nat → Nat) (L : List Nat) : drz S g (L.take 0) = S.2.1 2 := by funext j; exact if_neg (by simp)
theorem drz_n (S : MS) (g : Nat → Nat) (L : List Nat) {i : Nat} (hi : i < L.length) (h : g (L.getD i 0) = 0) : upd (drz S g (L.take i)) (L.getD i 0) (nI 0) = drz S g (L.take (i + 1)) := by
  funext j
  unfold drz
  rw [tk_s L i hi]
  by_cases e : j = L.getD i 0
  · subst e; rw [pk_us, if_pos ⟨List.mem_append.mpr (Or.inr List.mem_cons_self), h⟩]
  · rw [pk_un e]
    by_cases z : j ∈ L.take i ∧ g j = 0
    · rw [if_pos z, if_pos ⟨List.mem_append.mpr (Or.inl z.1), z.2⟩]
    · rw [if_neg z, if_neg (fun q => (List.mem_append.mp q.1).elim (fun x => z ⟨x, q.2⟩) (fun x => e (List.mem_singleton.mp x)))]
theorem drz_y (S : MS) (g : Nat → Nat) (L : List Nat) {i : Nat} (hi : i < L.length) (h : 0 < g (L.getD i 0)) : drz S g (L.take i) = drz S g (L.take (i + 1)) := by
  funext j
  unfold drz
  rw [tk_s L i hi]
  by_cases z : j ∈ L.take i ∧ g j = 0
  · rw [if_pos z, if_pos ⟨List.mem_append.mpr (Or.inl z.1), z.2⟩]
  · rw [if_neg z, if_neg (fun q => (List.mem_append.mp q.1).elim (fun x => z ⟨x, q.2⟩) (fun x => by have := List.mem_singleton.mp x; have := q.2; subst j; omega))]
theorem HH_drop {S : MS} {L : List Nat} {g : Nat → Nat} (h : HH S L g) {fl : Nat → Int32} (hfl : ∀ j, j < (pos g L).length → fl j = nI ((pos g L).getD j 0)) : HH (sS (aR (aR S 3 fl) 2 (drz S g L)) 4 (nI (pos g L).length)) (pos g L) g := by
  obtain ⟨h1, h2, h3, h4, h5, h6, h7, h8⟩ := h
  refine ⟨rfl, Nat.le_trans (pos_le g L) h2, hfl, h4.filter _, fun c hc => h5 c (pos_mem.mp hc).1, fun c hc => ?_, h7, fun c hc => ?_⟩
  · show drz S g L c = _
    unfold drz
    by_cases z : c ∈ L
    · by_cases y : g c = 0
      · rw [if_pos ⟨z, y⟩, if_neg (fun q => by have := (pos_mem.mp q).2; omega)]
      · rw [if_neg (fun q => y q.2), if_pos (pos_mem.mpr ⟨z, by omega⟩), h6 c hc, if_pos z]
    · rw [if_neg (fun q => z q.1), if_neg (fun q => z (pos_mem.mp q).1), h6 c hc, if_neg z]
  · by_cases z : c ∈ L
    · by_cases y : g c = 0
      · exact y
      · exact absurd (pos_mem.mpr ⟨z, by omega⟩) hc
    · exact h8 c z
section SH2
variable {l : Launch} {G : GG} {zh zo : Nat → Nat} {Sh So : MS} {L M : List Nat} {g f : Nat → Nat} {c s : Nat}
theorem K2_linksOf (hH : HH Sh L g) (hs : s < 4) : Con l G yX2_linksOf cX2_linksOf 4 (some .int) 3 0 0 [.ref (zh 50), .int (nI s)] (hBk zh G.2.1 Sh) (pI (nI (lkN g s L)) (hBk zh G.2.1 Sh)) := by
  refine Con.mk (own := RX2) (by decide) rfl (Nat.le_of_ble_eq_true rfl) (fun X C => ?_)
  have hL5 := hH.2.1
  have lp4 : ∀ (m : Nat) (i m2 : Nat), L.length - i = m → i ≤ L.length → m2 = lkN g s (L.take i) → J X 4 0 0 (hBk zh G.2.1 Sh) 4 [(0, .ref (zh 50)), (1, .int (nI s)), (2, .int (nI m2)), (3, .int (nI i))] [] := by
    intro m
    induction m using Nat.strongRecOn with
    | ind m ilp4 =>
    intro i m2 hm hi hm2
    refine j_iload_n 5 C dX2_linksOf_4 rfl rfl ?_
    refine j_aload_n 6 C dX2_linksOf_5 rfl rfl ?_
    refine Lhg_h4 9 C dX2_linksOf_6 rfl fl2_18 ?_
    refine j_top hH.1 ?_
    refine j_icmp_geN 47 12 C dX2_linksOf_9 (by decide) rfl (by omega) (by omega) (fun c9 => ?_) (fun c9 => ?_)
    · refine j_iload_n 48 C dX2_linksOf_47 rfl rfl ?_
      exact j_iret C dX2_linksOf_48 ⟨by rw [hm2, show i = L.length by omega, List.take_length], rfl⟩
    · have hg5 := hH.2.2.2.2.2.2.1 (L.getD i 0)
      have hc5 := HH_gD hH (i := i) (by omega)
      refine j_aload_n 13 C dX2_linksOf_12 rfl rfl ?_
      refine Lhg_h3 16 C dX2_linksOf_13 rfl fl2_15 ?_
      refine j_iload_n 17 C dX2_linksOf_16 rfl rfl ?_
      refine Lha_h3 18 C dX2_linksOf_17 rfl _ (by omega) rfl ?_
      refine j_top (hH.2.2.1 i (by omega)) ?_
      refine j_sI 21 C dX2_linksOf_18 rfl cw2_22 (K2_sortOf (HH_gD hH (by omega))) rfl (by decide) ⟨Nat.le_refl _, Nat.le_refl _⟩ rfl (Nat.le_of_ble_eq_true rfl) ?_
      refine j_iload_n 22 C dX2_linksOf_21 rfl rfl ?_
      refine j_icmp_neN 41 25 C dX2_linksOf_22 (by decide) rfl (by omega) (by omega) (fun c22 => ?_) (fun c22 => ?_)
      · refine j_iincN 44 (z := 1) C dX2_linksOf_41 rfl rfl rfl (by decide) ?_
        refine j_goto 4 C dX2_linksOf_44 (by decide) ?_
        exact j_weak _ (by exact ⟨rfl, rfl, rfl, rfl, trivial⟩) (ilp4 _ (by omega) (i + 1) m2 rfl (by omega) (by rw [lkN_n (by omega) (fun z => c22 z.1)]; exact hm2))
      · refine j_aload_n 26 C dX2_linksOf_25 rfl rfl ?_
        refine j_aload_n 27 C dX2_linksOf_26 rfl rfl ?_
        refine Lhg_h3 30 C dX2_linksOf_27 rfl fl2_15 ?_
        refine j_iload_n 31 C dX2_linksOf_30 rfl rfl ?_
        refine Lha_h3 32 C dX2_linksOf_31 rfl _ (by omega) rfl ?_
        refine j_top (hH.2.2.1 i (by omega)) ?_
        refine Lhx_hI 35 C dX2_linksOf_32 rfl cw2_26 rfl (K2_strengthAt hH (HH_gD hH (by omega))) rfl (by decide) ⟨Nat.le_refl _, Nat.le_refl _⟩ rfl (Nat.le_of_ble_eq_true rfl) ?_
        refine j_if_leN 41 38 C dX2_linksOf_35 (by decide) rfl (by omega) (fun c35 => ?_) (fun c35 => ?_)
        · refine j_iincN 44 (z := 1) C dX2_linksOf_41 rfl rfl rfl (by decide) ?_
          refine j_goto 4 C dX2_linksOf_44 (by decide) ?_
          exact j_weak _ (by exact ⟨rfl, rfl, rfl, rfl, trivial⟩) (ilp4 _ (by omega) (i + 1) m2 rfl (by omega) (by rw [lkN_n (by omega) (fun z => by omega)]; exact hm2))
        · refine j_iincN 41 (z := 1) C dX2_linksOf_38 rfl rfl rfl (by decide) ?_
          refine j_iincN 44 (z := 1) C dX2_linksOf_41 rfl rfl rfl (by decide) ?_
          refine j_goto 4 C dX2_linksOf_44 (by decide) ?_
          exact j_weak _ (by exact ⟨rfl, rfl, rfl, rfl, trivial⟩) (ilp4 _ (by omega) (i + 1) (m2 + 1) rfl (by omega) (by rw [lkN_y (by omega) ⟨c22, by omega⟩, hm2]))
  refine j_iconst 1 C dX2_linksOf_0 rfl (v := nI 0) (by decide) ?_
  refine j_istore_n 2 C dX2_linksOf_1 rfl rfl (by decide) ?_
  refine j_iconst 3 C dX2_linksOf_2 rfl (v := nI 0) (by decide) ?_
  refine j_istore_n 4 C dX2_linksOf_3 rfl rfl (by decide) ?_
  exact j_weak _ (by exact ⟨rfl, rfl, rfl, rfl, trivial⟩) (lp4 _ 0 0 rfl (Nat.zero_le _) rfl)
theorem K2_clear (hH : HH Sh L g) : Con l G yX2_clear cX2_clear 2 none 1 0 0 [.ref (zh 50)] (hBk zh G.2.1 Sh) (qV (fun s : MS => (hBk zh G.2.1 s)) (fun S' => HH S' [] (fun _ => 0) ∧ S'.1 0 = nI 0 ∧ S'.1 1 = nI 0)) := by
  refine Con.mk (own := RX2) (by decide) rfl (Nat.le_of_ble_eq_true rfl) (fun X C => ?_)
  have hL5 := hH.2.1
  have lp2 : ∀ (m : Nat) (i : Nat), L.length - i = m → i ≤ L.length → J X 2 0 0 (hBk zh G.2.1 (aR Sh 2 (clz Sh (L.take i)))) 2 [(0, .ref (zh 50)), (1, .int (nI i))] [] := by
    intro m
    induction m using Nat.strongRecOn with
    | ind m ilp2 =>
    intro i hm hi
    refine j_iload_n 3 C dX2_clear_2 rfl rfl ?_
    refine j_aload_n 4 C dX2_clear_3 rfl rfl ?_
    refine Lhg_h4 7 C dX2_clear_4 rfl fl2_18 ?_
    refine j_top hH.1 ?_
    refine j_icmp_geN 28 10 C dX2_clear_7 (by decide) rfl (by omega) (by omega) (fun c7 => ?_) (fun c7 => ?_)
    · rw [show i = L.length by omega, List.take_length]
      refine j_aload_n 29 C dX2_clear_28 rfl rfl ?_
      refine j_iconst 30 C dX2_clear_29 rfl (v := nI 0) (by decide) ?_
      refine Lhp_h4 33 C dX2_clear_30 rfl fl2_18 ?_
      refine j_aload_n 34 C dX2_clear_33 rfl rfl ?_
      refine j_iconst 35 C dX2_clear_34 rfl (v := nI 0) (by decide) ?_
      refine Lhp_h0 38 C dX2_clear_35 rfl fl2_29 ?_
      refine j_aload_n 39 C dX2_clear_38 rfl rfl ?_
      refine j_iconst 40 C dX2_clear_39 rfl (v := nI 0) (by decide) ?_
      refine Lhp_h1 43 C dX2_clear_40 rfl fl2_32 ?_
      exact j_vret C dX2_clear_43 (by refine ⟨_, ?_, rfl, rfl⟩; exact ⟨HH_clr hH, rfl, rfl⟩)
    · refine j_aload_n 11 C dX2_clear_10 rfl rfl ?_
      refine Lhg_h2 14 C dX2_clear_11 rfl fl2_11 ?_
      refine j_aload_n 15 C dX2_clear_14 rfl rfl ?_
      refine Lhg_h3 18 C dX2_clear_15 rfl fl2_15 ?_
      refine j_iload_n 19 C dX2_clear_18 rfl rfl ?_
      refine Lha_h3 20 C dX2_clear_19 rfl _ (by omega) rfl ?_
      refine j_top (hH.2.2.1 i (by omega)) ?_
      refine j_iconst 21 C dX2_clear_20 rfl (v := nI 0) (by decide) ?_
      refine Lhs_h2 22 C dX2_clear_21 rfl _ (HH_gD hH (by omega)) rfl ?_
      rw [aS_aR, clz_s Sh L (by omega)]
      refine j_iincN 25 (z := 1) C dX2_clear_22 rfl rfl rfl (by decide) ?_
      refine j_goto 2 C dX2_clear_25 (by decide) ?_
      exact j_weak _ (by exact ⟨rfl, rfl, trivial⟩) (ilp2 _ (by omega) (i + 1) rfl (by omega))
  refine j_iconst 1 C dX2_clear_0 rfl (v := nI 0) (by decide) ?_
  refine j_istore_n 2 C dX2_clear_1 rfl rfl (by decide) ?_
  refine j_ws (hBk zh G.2.1 (aR Sh 2 (clz Sh (L.take 0)))) (by rw [clz_0, aR_self]) ?_
  exact j_weak _ (by exact ⟨rfl, rfl, trivial⟩) (lp2 _ 0 rfl (Nat.zero_le _))
theorem pos_up {g : Nat → Nat} {L : List Nat} {k c : Nat} {fl : Nat → Int32} (hk : k = (pos g L).length) (h1 : ∀ j, j < (pos g L).length → fl j = nI ((pos g L).getD j 0)) : ∀ j, j < (pos g L ++ [c]).length → upd fl k (nI c) j = nI ((pos g L ++ [c]).getD j 0) := by
  intro j hj
  subst hk
  rw [List.length_append] at hj
  have hj : j < (pos g L).length + 1 := hj
  by_cases e : j = (pos g L).length
  · subst e; rw [pk_us, gD_end]
  · rw [pk_un e, gD_app _ _ _ (by omega)]; exact h1 j (by omega)
/-- what a strength is while cells are dropped: cells that were not met yet, and those met, are as they were -/
theorem K2_strD {i : Nat} {fl : Nat → Int32} (hH : HH Sh L g) (hi : i < L.length) : Con l G yX2_strengthAt cX2_strengthAt 2 (some .int) 2 0 0 [.ref (zh 50), .int (nI (L.getD i 0))] (hBk zh G.2.1 (aR (aR Sh 3 fl) 2 (drz Sh g (L.take i)))) (pI (nI (g (L.getD i 0))) (hBk zh G.2.1 (aR (aR Sh 3 fl) 2 (drz Sh g (L.take i))))) := by
  have hc := HH_gD hH hi
  have hn : L.getD i 0 ∉ L.take i := by
    intro z
    have := hH.2.2.2.1
    rw [← List.take_append_drop (i + 1) L, tk_s L i hi, List.append_assoc, List.nodup_append] at this
    exact this.2.2 _ z _ (List.mem_append.mpr (Or.inl List.mem_cons_self)) rfl
  have e : (aR (aR Sh 3 fl) 2 (drz Sh g (L.take i))).2.1 2 (L.getD i 0) = Sh.2.1 2 (L.getD i 0) := by
    show drz Sh g (L.take i) (L.getD i 0) = _
    unfold drz
    rw [if_neg (fun q => hn q.1)]
  refine Con.mk (own := RX2) (by decide) rfl (Nat.le_of_ble_eq_true rfl) (fun X C => ?_)
  refine j_aload_n 1 C dX2_strengthAt_0 rfl rfl ?_
  refine Lhg_h2 4 C dX2_strengthAt_1 rfl fl2_11 ?_
  refine j_iload_n 5 C dX2_strengthAt_4 rfl rfl ?_
  refine Lha_h2 6 C dX2_strengthAt_5 rfl _ (by omega) rfl ?_
  refine j_if_le 20 9 C dX2_strengthAt_6 (by decide) rfl (fun c6 => ?_) (fun c6 => ?_)
  · refine j_iconst 21 C dX2_strengthAt_20 rfl (v := nI 0) (by decide) ?_
    exact j_iret C dX2_strengthAt_21 ⟨by first | (rw [e] at c6; rw [HH_str0 hH hc c6]) | (rw [e] at c6; rw [e, HH_str1 hH hc c6]), rfl⟩
  · refine j_aload_n 10 C dX2_strengthAt_9 rfl rfl ?_
    refine Lhg_h2 13 C dX2_strengthAt_10 rfl fl2_11 ?_
    refine j_iload_n 14 C dX2_strengthAt_13 rfl rfl ?_
    refine Lha_h2 15 C dX2_strengthAt_14 rfl _ (by omega) rfl ?_
    refine j_iconst 16 C dX2_strengthAt_15 rfl (v := nI 1) (by decide) ?_
    refine j_isub 17 C dX2_strengthAt_16 rfl ?_
    refine j_goto 21 C dX2_strengthAt_17 (by decide) ?_
    exact j_iret C dX2_strengthAt_21 ⟨by first | (rw [e] at c6; rw [HH_str0 hH hc c6]) | (rw [e] at c6; rw [e, HH_str1 hH hc c6]), rfl⟩
theorem K2_dropEmpty (hH : HH Sh L g) : Con l G yX2_dropEmpty cX2_dropEmpty 4 none 3 0 0 [.ref (zh 50)] (hBk zh G.2.1 Sh) (qV (fun s : MS => (hBk zh G.2.1 s)) (fun S' => HH S' (pos g L) g ∧ S'.1 0 = Sh.1 0 ∧ S'.1 1 = Sh.1 1)) := by
  refine Con.mk (own := RX2) (by decide) rfl (Nat.le_of_ble_eq_true rfl) (fun X C => ?_)
  have hL5 := hH.2.1
  have cS : ∀ (i : Nat) (fl : Nat → Int32), i < L.length → Con l G yX2_strengthAt cX2_strengthAt 2 (some .int) 2 0 0 [.ref (zh 50), .int (nI (L.getD i 0))] (hBk zh G.2.1 (aR (aR Sh 3 fl) 2 (drz Sh g (L.take i)))) (pI (nI (g (L.getD i 0))) (hBk zh G.2.1 (aR (aR Sh 3 fl) 2 (drz Sh g (L.take i))))) := fun i fl hi => K2_strD hH hi
  have lp4 : ∀ (m : Nat) (i k : Nat) (fl : Nat → Int32), L.length - i = m → i ≤ L.length → k = (pos g (L.take i)).length → (∀ j, j < (pos g (L.take i)).length → fl j = nI ((pos g (L.take i)).getD j 0)) → (∀ j, i ≤ j → j < L.length → fl j = Sh.2.1 3 j) → J X 4 0 0 (hBk zh G.2.1 (aR (aR Sh 3 fl) 2 (drz Sh g (L.take i)))) 4 [(0, .ref (zh 50)), (1, .int (nI k)), (2, .int (nI i))] [] := by
    intro m
    induction m using Nat.strongRecOn with
    | ind m ilp4 =>
    intro i k fl hm hi hk h1 h2
    refine j_iload_n 5 C dX2_dropEmpty_4 rfl rfl ?_
    refine j_aload_n 6 C dX2_dropEmpty_5 rfl rfl ?_
    refine Lhg_h4 9 C dX2_dropEmpty_6 rfl fl2_18 ?_
    refine j_top hH.1 ?_
    refine j_icmp_geN 53 12 C dX2_dropEmpty_9 (by decide) rfl (by omega) (by omega) (fun c9 => ?_) (fun c9 => ?_)
    · have e : i = L.length := by omega
      subst e
      rw [List.take_length] at *
      subst hk
      refine j_aload_n 54 C dX2_dropEmpty_53 rfl rfl ?_
      refine j_iload_n 55 C dX2_dropEmpty_54 rfl rfl ?_
      refine Lhp_h4 58 C dX2_dropEmpty_55 rfl fl2_18 ?_
      exact j_vret C dX2_dropEmpty_58 (by refine ⟨_, ?_, rfl, rfl⟩; exact ⟨HH_drop hH h1, rfl, rfl⟩)
    · have hg5 := hH.2.2.2.2.2.2.1 (L.getD i 0)
      have hc5 := HH_gD hH (i := i) (by omega)
      have hp5 := pos_tk g L i
      refine j_aload_n 13 C dX2_dropEmpty_12 rfl rfl ?_
      refine Lhg_h3 16 C dX2_dropEmpty_13 rfl fl2_15 ?_
      refine j_iload_n 17 C dX2_dropEmpty_16 rfl rfl ?_
      refine Lha_h3 18 C dX2_dropEmpty_17 rfl _ (by omega) rfl ?_
      refine j_top ((h2 i (Nat.le_refl _) (by omega)).trans (hH.2.2.1 i (by omega))) ?_
      refine j_istore_n 19 C dX2_dropEmpty_18 rfl rfl (by decide) ?_
      refine j_aload_n 20 C dX2_dropEmpty_19 rfl rfl ?_
      refine j_iload_n 21 C dX2_dropEmpty_20 rfl rfl ?_
      refine Lhx_hI 24 C dX2_dropEmpty_21 rfl cw2_26 rfl (cS i fl (by omega)) rfl (by decide) ⟨Nat.le_refl _, Nat.le_refl _⟩ rfl (Nat.le_of_ble_eq_true rfl) ?_
      refine j_if_leN 40 27 C dX2_dropEmpty_24 (by decide) rfl (by omega) (fun c24 => ?_) (fun c24 => ?_)
      · refine j_aload_n 41 C dX2_dropEmpty_40 rfl rfl ?_
        refine Lhg_h2 44 C dX2_dropEmpty_41 rfl fl2_11 ?_
        refine j_iload_n 45 C dX2_dropEmpty_44 rfl rfl ?_
        refine j_iconst 46 C dX2_dropEmpty_45 rfl (v := nI 0) (by decide) ?_
        refine Lhs_h2 47 C dX2_dropEmpty_46 rfl _ (by omega) rfl ?_
        rw [aS_aR, drz_n Sh g L (by omega) (by omega)]
        refine j_iincN 50 (z := 1) C dX2_dropEmpty_47 rfl rfl rfl (by decide) ?_
        refine j_goto 4 C dX2_dropEmpty_50 (by decide) ?_
        exact j_weak _ (by exact ⟨rfl, rfl, rfl, trivial⟩) (ilp4 _ (by omega) (i + 1) k fl rfl (by omega) (by rw [pos_n (by omega) (by omega)]; exact hk) (by rw [pos_n (by omega) (by omega)]; exact h1) (fun j h3 h4 => h2 j (by omega) h4))
      · refine j_aload_n 28 C dX2_dropEmpty_27 rfl rfl ?_
        refine Lhg_h3 31 C dX2_dropEmpty_28 rfl fl2_15 ?_
        refine j_iload_n 32 C dX2_dropEmpty_31 rfl rfl ?_
        refine j_iload_n 33 C dX2_dropEmpty_32 rfl rfl ?_
        refine Lhs_h3 34 C dX2_dropEmpty_33 rfl _ (by omega) rfl ?_
        refine j_ws (hBk zh G.2.1 (aR (aR Sh 3 (upd fl k (nI (L.getD i 0)))) 2 (drz Sh g (L.take i)))) rfl ?_
        rw [drz_y Sh g L (by omega) (by omega)]
        refine j_iincN 37 (z := 1) C dX2_dropEmpty_34 rfl rfl rfl (by decide) ?_
        refine j_goto 47 C dX2_dropEmpty_37 (by decide) ?_
        refine j_iincN 50 (z := 1) C dX2_dropEmpty_47 rfl rfl rfl (by decide) ?_
        refine j_goto 4 C dX2_dropEmpty_50 (by decide) ?_
        exact j_weak _ (by exact ⟨rfl, rfl, rfl, trivial⟩) (ilp4 _ (by omega) (i + 1) (k + 1) _ rfl (by omega) (by rw [pos_y (by omega) (by omega), List.length_append, hk]; rfl) (by rw [pos_y (by omega) (by omega)]; exact pos_up hk h1) (fun j h3 h4 => by rw [pk_un (by omega)]; exact h2 j (by omega) h4))
  refine j_iconst 1 C dX2_dropEmpty_0 rfl (v := nI 0) (by decide) ?_
  refine j_istore_n 2 C dX2_dropEmpty_1 rfl rfl (by decide) ?_
  refine j_iconst 3 C dX2_dropEmpty_2 rfl (v := nI 0) (by decide) ?_
  refine j_istore_n 4 C dX2_dropEmpty_3 rfl rfl (by decide) ?_
  refine j_ws (hBk zh G.2.1 (aR (aR Sh 3 (Sh.2.1 3)) 2 (drz Sh g (L.take 0)))) (by rw [drz_0, aR_self, aR_self]) ?_
  exact j_weak _ (by exact ⟨rfl, rfl, rfl, trivial⟩) (lp4 _ 0 0 _ rfl (Nat.zero_le _) rfl (fun j hj => absurd hj (Nat.not_lt_zero _)) (fun _ _ _ => rfl))
def rst (f : Nat → Nat) (L : List Nat) : Nat → Nat := fun j => if j ∈ L then f j else 0
theorem rst_s (f : Nat → Nat) (L : List Nat) {i : Nat} (hi : i < L.length) : updN (rst f (L.take i)) (L.getD i 0) (f (L.getD i 0)) = rst f (L.take (i + 1)) := by
  funext j
  unfold updN rst
  rw [tk_s L i hi]
  by_cases e : j = L.getD i 0
  · subst e; rw [if_pos rfl, if_pos (List.mem_append.mpr (Or.inr List.mem_cons_self))]
  · rw [if_neg e]
    by_cases z : j ∈ L.take i
    · rw [if_pos z, if_pos (List.mem_append.mpr (Or.inl z))]
    · rw [if_neg z, if_neg (fun q => (List.mem_append.mp q).elim z (fun q => e (List.mem_singleton.mp q)))]
theorem rst_all {S : MS} {M : List Nat} {f : Nat → Nat} (h : HH S M f) : rst f M = f := by
  funext j; unfold rst; split
  · rfl
  · rename_i e; exact (h.2.2.2.2.2.2.2 j e).symm
theorem putL_pos {f : Nat → Nat} {M : List Nat} {i : Nat} (hM : M.Nodup) (hi : i < M.length) : putL (pos f (M.take i)) (M.getD i 0) (f (M.getD i 0)) = pos f (M.take (i + 1)) := by
  have hn : M.getD i 0 ∉ M.take i := by
    intro z
    rw [← List.take_append_drop (i + 1) M, tk_s M i hi, List.append_assoc, List.nodup_append] at hM
    exact hM.2.2 _ z _ (List.mem_append.mpr (Or.inl List.mem_cons_self)) rfl
  unfold putL
  by_cases e : f (M.getD i 0) = 0
  · rw [if_pos (Or.inr e), pos_n hi e]
  · rw [if_neg (fun z => z.elim (fun q => hn (pos_mem.mp q).1) e), pos_y hi (by omega)]
theorem K2_copyFrom (hH : HH Sh L g) (hO : HH So M f) : Con l G yX2_copyFrom cX2_copyFrom 3 none 3 0 0 [.ref (zh 50), .ref (zo 50)] (hBk zh G.2.1 Sh ++ (hBk zo G.2.1 So)) (qV (fun s : MS => (hBk zh G.2.1 s ++ (hBk zo G.2.1 So))) (fun S' => HH S' (pos f M) f ∧ S'.1 0 = So.1 0 ∧ S'.1 1 = So.1 1)) := by
  refine Con.mk (own := RX2) (by decide) rfl (Nat.le_of_ble_eq_true rfl) (fun X C => ?_)
  have hL5 := hO.2.1
  have lp22 : ∀ (m : Nat) (i : Nat) (s2 : MS), M.length - i = m → i ≤ M.length → HH s2 (pos f (M.take i)) (rst f (M.take i)) → s2.1 0 = So.1 0 → s2.1 1 = So.1 1 → J X 3 0 0 (hBk zh G.2.1 s2 ++ (hBk zo G.2.1 So)) 22 [(0, .ref (zh 50)), (1, .ref (zo 50)), (2, .int (nI i))] [] := by
    intro m
    induction m using Nat.strongRecOn with
    | ind m ilp22 =>
    intro i s1 hm hi hS h0 h1
    refine j_iload_n 23 C dX2_copyFrom_22 rfl rfl ?_
    refine j_aload_n 24 C dX2_copyFrom_23 rfl rfl ?_
    refine Lhhg_o4 27 C dX2_copyFrom_24 rfl fl2_18 ?_
    refine j_top hO.1 ?_
    refine j_icmp_geN 56 30 C dX2_copyFrom_27 (by decide) rfl (by omega) (by omega) (fun c27 => ?_) (fun c27 => ?_)
    · exact j_vret C dX2_copyFrom_56 (by refine ⟨_, ?_, rfl, rfl⟩; rw [show i = M.length by omega, List.take_length, rst_all hO] at hS; exact ⟨hS, h0, h1⟩)
    · have hc5 := HH_gD hO (i := i) (by omega)
      have hp5 := pos_tk f M i
      refine j_aload_n 31 C dX2_copyFrom_30 rfl rfl ?_
      refine j_aload_n 32 C dX2_copyFrom_31 rfl rfl ?_
      refine Lhhg_o3 35 C dX2_copyFrom_32 rfl fl2_15 ?_
      refine j_iload_n 36 C dX2_copyFrom_35 rfl rfl ?_
      refine Lhha_o3 37 C dX2_copyFrom_36 rfl _ (by omega) rfl ?_
      refine j_top (hO.2.2.1 i (by omega)) ?_
      refine j_aload_n 38 C dX2_copyFrom_37 rfl rfl ?_
      refine j_aload_n 39 C dX2_copyFrom_38 rfl rfl ?_
      refine Lhhg_o3 42 C dX2_copyFrom_39 rfl fl2_15 ?_
      refine j_iload_n 43 C dX2_copyFrom_42 rfl rfl ?_
      refine Lhha_o3 44 C dX2_copyFrom_43 rfl _ (by omega) rfl ?_
      refine j_top (hO.2.2.1 i (by omega)) ?_
      refine Lhhx_oI 47 C dX2_copyFrom_44 rfl cw2_26 rfl (K2_strengthAt hO hc5) rfl (by decide) ⟨Nat.le_refl _, Nat.le_refl _⟩ rfl (Nat.le_of_ble_eq_true rfl) ?_
      refine Lhhr_hV 50 C dX2_copyFrom_47 rfl cw2_38 rfl (K2_put hS hc5 (hO.2.2.2.2.2.2.1 _) (Or.inr (by omega))) rfl (by decide) ⟨Nat.le_refl _, Nat.le_refl _⟩ rfl (Nat.le_of_ble_eq_true rfl) (fun s2 hs2 => ?_)
      rw [putL_pos hO.2.2.2.1 (by omega), rst_s f M (by omega)] at hs2
      refine j_iincN 53 (z := 1) C dX2_copyFrom_50 rfl rfl rfl (by decide) ?_
      refine j_goto 22 C dX2_copyFrom_53 (by decide) ?_
      exact j_weak _ (by exact ⟨rfl, rfl, rfl, trivial⟩) (ilp22 _ (by omega) (i + 1) s2 rfl (by omega) hs2.1 (hs2.2.1.trans h0) (hs2.2.2.trans h1))
  refine j_aload_n 1 C dX2_copyFrom_0 rfl rfl ?_
  refine Lhhr_hV 4 C dX2_copyFrom_1 rfl cw2_35 rfl (K2_clear hH) rfl (by decide) ⟨Nat.le_refl _, Nat.le_refl _⟩ rfl (Nat.le_of_ble_eq_true rfl) (fun s1 hs1 => ?_)
  refine j_aload_n 5 C dX2_copyFrom_4 rfl rfl ?_
  refine j_aload_n 6 C dX2_copyFrom_5 rfl rfl ?_
  refine Lhhg_o0 9 C dX2_copyFrom_6 rfl fl2_29 ?_
  refine Lhhp_h0 12 C dX2_copyFrom_9 rfl fl2_29 ?_
  refine j_aload_n 13 C dX2_copyFrom_12 rfl rfl ?_
  refine j_aload_n 14 C dX2_copyFrom_13 rfl rfl ?_
  refine Lhhg_o1 17 C dX2_copyFrom_14 rfl fl2_32 ?_
  refine Lhhp_h1 20 C dX2_copyFrom_17 rfl fl2_32 ?_
  refine j_iconst 21 C dX2_copyFrom_20 rfl (v := nI 0) (by decide) ?_
  refine j_istore_n 22 C dX2_copyFrom_21 rfl rfl (by decide) ?_
  exact j_weak _ (by exact ⟨rfl, rfl, rfl, trivial⟩) (lp22 _ 0 _ rfl (Nat.zero_le _) hs1.1 rfl rfl)
end SH2
