section Ly_Ltt
variable {X : JX} {l : Launch} {G : GG} {cc : ByteArray} {nL : Nat} {own : String} {rt : Option FieldType} {d mc ms : Nat} {post : Option Value → va_W → Prop} {k n pc : Nat} {lv : List (Nat × Value)} {st : List Value} {zt zo : Nat → Nat} {St So : MS}
theorem Lttg_t0 (q : Nat) {idx : Nat} (C : Cx X l G cc nL own rt d mc ms post) (hd : decode cc pc = .ok (.getfield idx, 3)) (hq : pc + 3 = q) (hlf : Cond.fieldLink own idx (TX8 0).1 (TX8 0).2.1 (TX8 0).2.2.1 ∈ gtbl) (kk : J X nL k n (tBk zt G.2.1 St ++ (tBk zo G.2.1 So)) q lv (.int (St.1 0) :: st)) : J X nL k n (tBk zt G.2.1 St ++ (tBk zo G.2.1 So)) pc lv (.ref (zt 50) :: st) := j_get q C hd hq 0 rfl rfl ingX8 0 (by decide) hlf rfl kk
theorem Lttp_t0 (q : Nat) {idx : Nat} {v : Int32} (C : Cx X l G cc nL own rt d mc ms post) (hd : decode cc pc = .ok (.putfield idx, 3)) (hq : pc + 3 = q) (hlf : Cond.fieldLink own idx (TX8 0).1 (TX8 0).2.1 (TX8 0).2.2.1 ∈ gtbl) (kk : J X nL k n (tBk zt G.2.1 (sS St 0 v) ++ (tBk zo G.2.1 So)) q lv st) : J X nL k n (tBk zt G.2.1 St ++ (tBk zo G.2.1 So)) pc lv (.int v :: .ref (zt 50) :: st) := j_put q tyX8 C hd hq 0 rfl rfl ingX8 tyX8_ok nmX8 0 (by decide) hlf rfl rfl rfl (by show 0 < 10; decide) rfl kk
theorem Lttg_t1 (q : Nat) {idx : Nat} (C : Cx X l G cc nL own rt d mc ms post) (hd : decode cc pc = .ok (.getfield idx, 3)) (hq : pc + 3 = q) (hlf : Cond.fieldLink own idx (TX8 1).1 (TX8 1).2.1 (TX8 1).2.2.1 ∈ gtbl) (kk : J X nL k n (tBk zt G.2.1 St ++ (tBk zo G.2.1 So)) q lv (.int (St.1 1) :: st)) : J X nL k n (tBk zt G.2.1 St ++ (tBk zo G.2.1 So)) pc lv (.ref (zt 50) :: st) := j_get q C hd hq 0 rfl rfl ingX8 1 (by decide) hlf rfl kk
theorem Lttp_t1 (q : Nat) {idx : Nat} {v : Int32} (C : Cx X l G cc nL own rt d mc ms post) (hd : decode cc pc = .ok (.putfield idx, 3)) (hq : pc + 3 = q) (hlf : Cond.fieldLink own idx (TX8 1).1 (TX8 1).2.1 (TX8 1).2.2.1 ∈ gtbl) (kk : J X nL k n (tBk zt G.2.1 (sS St 1 v) ++ (tBk zo G.2.1 So)) q lv st) : J X nL k n (tBk zt G.2.1 St ++ (tBk zo G.2.1 So)) pc lv (.int v :: .ref (zt 50) :: st) := j_put q tyX8 C hd hq 0 rfl rfl ingX8 tyX8_ok nmX8 1 (by decide) hlf rfl rfl rfl (by show 1 < 10; decide) rfl kk
theorem Lttg_t2 (q : Nat) {idx : Nat} (C : Cx X l G cc nL own rt d mc ms post) (hd : decode cc pc = .ok (.getfield idx, 3)) (hq : pc + 3 = q) (hlf : Cond.fieldLink own idx (TX8 2).1 (TX8 2).2.1 (TX8 2).2.2.1 ∈ gtbl) (kk : J X nL k n (tBk zt G.2.1 St ++ (tBk zo G.2.1 So)) q lv (.int (St.1 2) :: st)) : J X nL k n (tBk zt G.2.1 St ++ (tBk zo G.2.1 So)) pc lv (.ref (zt 50) :: st) := j_get q C hd hq 0 rfl rfl ingX8 2 (by decide) hlf rfl kk
theorem Lttp_t2 (q : Nat) {idx : Nat} {v : Int32} (C : Cx X l G cc nL own rt d mc ms post) (hd : decode cc pc = .ok (.putfield idx, 3)) (hq : pc + 3 = q) (hlf : Cond.fieldLink own idx (TX8 2).1 (TX8 2).2.1 (TX8 2).2.2.1 ∈ gtbl) (kk : J X nL k n (tBk zt G.2.1 (sS St 2 v) ++ (tBk zo G.2.1 So)) q lv st) : J X nL k n (tBk zt G.2.1 St ++ (tBk zo G.2.1 So)) pc lv (.int v :: .ref (zt 50) :: st) := j_put q tyX8 C hd hq 0 rfl rfl ingX8 tyX8_ok nmX8 2 (by decide) hlf rfl rfl rfl (by show 2 < 10; decide) rfl kk
theorem Lttg_t3 (q : Nat) {idx : Nat} (C : Cx X l G cc nL own rt d mc ms post) (hd : decode cc pc = .ok (.getfield idx, 3)) (hq : pc + 3 = q) (hlf : Cond.fieldLink own idx (TX8 3).1 (TX8 3).2.1 (TX8 3).2.2.1 ∈ gtbl) (kk : J X nL k n (tBk zt G.2.1 St ++ (tBk zo G.2.1 So)) q lv (.ref (zt 3) :: st)) : J X nL k n (tBk zt G.2.1 St ++ (tBk zo G.2.1 So)) pc lv (.ref (zt 50) :: st) := j_get q C hd hq 0 rfl rfl ingX8 3 (by decide) hlf rfl kk
theorem Ltta_t3 (q : Nat) {y : Int32} (C : Cx X l G cc nL own rt d mc ms post) (hd : decode cc pc = .ok (.iaload, 1)) (hq : pc + 1 = q) (i : Nat) (hi : i < 24) (hy : y = nI i) (kk : J X nL k n (tBk zt G.2.1 St ++ (tBk zo G.2.1 So)) q lv (.int (St.2.1 3 i) :: st)) : J X nL k n (tBk zt G.2.1 St ++ (tBk zo G.2.1 So)) pc lv (.int y :: .ref (zt 3) :: st) := j_iald q C hd hq 1 rfl i hi (by decide) hy kk
theorem Ltts_t3 (q : Nat) {y : Int32} {x : Int32} (C : Cx X l G cc nL own rt d mc ms post) (hd : decode cc pc = .ok (.iastore, 1)) (hq : pc + 1 = q) (i : Nat) (hi : i < 24) (hy : y = nI i) (kk : J X nL k n (tBk zt G.2.1 (aS St 3 i x) ++ (tBk zo G.2.1 So)) q lv st) : J X nL k n (tBk zt G.2.1 St ++ (tBk zo G.2.1 So)) pc lv (.int x :: .int y :: .ref (zt 3) :: st) := j_iast q C hd hq 1 rfl i hi (by decide) hy rfl kk
theorem Lttg_t4 (q : Nat) {idx : Nat} (C : Cx X l G cc nL own rt d mc ms post) (hd : decode cc pc = .ok (.getfield idx, 3)) (hq : pc + 3 = q) (hlf : Cond.fieldLink own idx (TX8 4).1 (TX8 4).2.1 (TX8 4).2.2.1 ∈ gtbl) (kk : J X nL k n (tBk zt G.2.1 St ++ (tBk zo G.2.1 So)) q lv (.ref (zt 4) :: st)) : J X nL k n (tBk zt G.2.1 St ++ (tBk zo G.2.1 So)) pc lv (.ref (zt 50) :: st) := j_get q C hd hq 0 rfl rfl ingX8 4 (by decide) hlf rfl kk
theorem Ltta_t4 (q : Nat) {y : Int32} (C : Cx X l G cc nL own rt d mc ms post) (hd : decode cc pc = .ok (.iaload, 1)) (hq : pc + 1 = q) (i : Nat) (hi : i < 4) (hy : y = nI i) (kk : J X nL k n (tBk zt G.2.1 St ++ (tBk zo G.2.1 So)) q lv (.int (St.2.1 4 i) :: st)) : J X nL k n (tBk zt G.2.1 St ++ (tBk zo G.2.1 So)) pc lv (.int y :: .ref (zt 4) :: st) := j_iald q C hd hq 2 rfl i hi (by decide) hy kk
theorem Ltts_t4 (q : Nat) {y : Int32} {x : Int32} (C : Cx X l G cc nL own rt d mc ms post) (hd : decode cc pc = .ok (.iastore, 1)) (hq : pc + 1 = q) (i : Nat) (hi : i < 4) (hy : y = nI i) (kk : J X nL k n (tBk zt G.2.1 (aS St 4 i x) ++ (tBk zo G.2.1 So)) q lv st) : J X nL k n (tBk zt G.2.1 St ++ (tBk zo G.2.1 So)) pc lv (.int x :: .int y :: .ref (zt 4) :: st) := j_iast q C hd hq 2 rfl i hi (by decide) hy rfl kk
theorem Lttg_t5 (q : Nat) {idx : Nat} (C : Cx X l G cc nL own rt d mc ms post) (hd : decode cc pc = .ok (.getfield idx, 3)) (hq : pc + 3 = q) (hlf : Cond.fieldLink own idx (TX8 5).1 (TX8 5).2.1 (TX8 5).2.2.1 ∈ gtbl) (kk : J X nL k n (tBk zt G.2.1 St ++ (tBk zo G.2.1 So)) q lv (.ref (zt 5) :: st)) : J X nL k n (tBk zt G.2.1 St ++ (tBk zo G.2.1 So)) pc lv (.ref (zt 50) :: st) := j_get q C hd hq 0 rfl rfl ingX8 5 (by decide) hlf rfl kk
theorem Ltta_t5 (q : Nat) {y : Int32} (C : Cx X l G cc nL own rt d mc ms post) (hd : decode cc pc = .ok (.iaload, 1)) (hq : pc + 1 = q) (i : Nat) (hi : i < 12) (hy : y = nI i) (kk : J X nL k n (tBk zt G.2.1 St ++ (tBk zo G.2.1 So)) q lv (.int (St.2.1 5 i) :: st)) : J X nL k n (tBk zt G.2.1 St ++ (tBk zo G.2.1 So)) pc lv (.int y :: .ref (zt 5) :: st) := j_iald q C hd hq 3 rfl i hi (by decide) hy kk
theorem Ltts_t5 (q : Nat) {y : Int32} {x : Int32} (C : Cx X l G cc nL own rt d mc ms post) (hd : decode cc pc = .ok (.iastore, 1)) (hq : pc + 1 = q) (i : Nat) (hi : i < 12) (hy : y = nI i) (kk : J X nL k n (tBk zt G.2.1 (aS St 5 i x) ++ (tBk zo G.2.1 So)) q lv st) : J X nL k n (tBk zt G.2.1 St ++ (tBk zo G.2.1 So)) pc lv (.int x :: .int y :: .ref (zt 5) :: st) := j_iast q C hd hq 3 rfl i hi (by decide) hy rfl kk
theorem Lttg_t6 (q : Nat) {idx : Nat} (C : Cx X l G cc nL own rt d mc ms post) (hd : decode cc pc = .ok (.getfield idx, 3)) (hq : pc + 3 = q) (hlf : Cond.fieldLink own idx (TX8 6).1 (TX8 6).2.1 (TX8 6).2.2.1 ∈ gtbl) (kk : J X nL k n (tBk zt G.2.1 St ++ (tBk zo G.2.1 So)) q lv (.ref (zt 6) :: st)) : J X nL k n (tBk zt G.2.1 St ++ (tBk zo G.2.1 So)) pc lv (.ref (zt 50) :: st) := j_get q C hd hq 0 rfl rfl ingX8 6 (by decide) hlf rfl kk
theorem Ltta_t6 (q : Nat) {y : Int32} (C : Cx X l G cc nL own rt d mc ms post) (hd : decode cc pc = .ok (.iaload, 1)) (hq : pc + 1 = q) (i : Nat) (hi : i < 12) (hy : y = nI i) (kk : J X nL k n (tBk zt G.2.1 St ++ (tBk zo G.2.1 So)) q lv (.int (St.2.1 6 i) :: st)) : J X nL k n (tBk zt G.2.1 St ++ (tBk zo G.2.1 So)) pc lv (.int y :: .ref (zt 6) :: st) := j_iald q C hd hq 4 rfl i hi (by decide) hy kk
theorem Ltts_t6 (q : Nat) {y : Int32} {x : Int32} (C : Cx X l G cc nL own rt d mc ms post) (hd : decode cc pc = .ok (.iastore, 1)) (hq : pc + 1 = q) (i : Nat) (hi : i < 12) (hy : y = nI i) (kk : J X nL k n (tBk zt G.2.1 (aS St 6 i x) ++ (tBk zo G.2.1 So)) q lv st) : J X nL k n (tBk zt G.2.1 St ++ (tBk zo G.2.1 So)) pc lv (.int x :: .int y :: .ref (zt 6) :: st) := j_iast q C hd hq 4 rfl i hi (by decide) hy rfl kk
theorem Lttg_t7 (q : Nat) {idx : Nat} (C : Cx X l G cc nL own rt d mc ms post) (hd : decode cc pc = .ok (.getfield idx, 3)) (hq : pc + 3 = q) (hlf : Cond.fieldLink own idx (TX8 7).1 (TX8 7).2.1 (TX8 7).2.2.1 ∈ gtbl) (kk : J X nL k n (tBk zt G.2.1 St ++ (tBk zo G.2.1 So)) q lv (.ref (zt 7) :: st)) : J X nL k n (tBk zt G.2.1 St ++ (tBk zo G.2.1 So)) pc lv (.ref (zt 50) :: st) := j_get q C hd hq 0 rfl rfl ingX8 7 (by decide) hlf rfl kk
theorem Ltta_t7 (q : Nat) {y : Int32} (C : Cx X l G cc nL own rt d mc ms post) (hd : decode cc pc = .ok (.iaload, 1)) (hq : pc + 1 = q) (i : Nat) (hi : i < 180) (hy : y = nI i) (kk : J X nL k n (tBk zt G.2.1 St ++ (tBk zo G.2.1 So)) q lv (.int (St.2.1 7 i) :: st)) : J X nL k n (tBk zt G.2.1 St ++ (tBk zo G.2.1 So)) pc lv (.int y :: .ref (zt 7) :: st) := j_iald q C hd hq 5 rfl i hi (by decide) hy kk
theorem Ltts_t7 (q : Nat) {y : Int32} {x : Int32} (C : Cx X l G cc nL own rt d mc ms post) (hd : decode cc pc = .ok (.iastore, 1)) (hq : pc + 1 = q) (i : Nat) (hi : i < 180) (hy : y = nI i) (kk : J X nL k n (tBk zt G.2.1 (aS St 7 i x) ++ (tBk zo G.2.1 So)) q lv st) : J X nL k n (tBk zt G.2.1 St ++ (tBk zo G.2.1 So)) pc lv (.int x :: .int y :: .ref (zt 7) :: st) := j_iast q C hd hq 5 rfl i hi (by decide) hy rfl kk
theorem Lttg_t8 (q : Nat) {idx : Nat} (C : Cx X l G cc nL own rt d mc ms post) (hd : decode cc pc = .ok (.getfield idx, 3)) (hq : pc + 3 = q) (hlf : Cond.fieldLink own idx (TX8 8).1 (TX8 8).2.1 (TX8 8).2.2.1 ∈ gtbl) (kk : J X nL k n (tBk zt G.2.1 St ++ (tBk zo G.2.1 So)) q lv (.ref (zt 8) :: st)) : J X nL k n (tBk zt G.2.1 St ++ (tBk zo G.2.1 So)) pc lv (.ref (zt 50) :: st) := j_get q C hd hq 0 rfl rfl ingX8 8 (by decide) hlf rfl kk
theorem Ltta_t8 (q : Nat) {y : Int32} (C : Cx X l G cc nL own rt d mc ms post) (hd : decode cc pc = .ok (.iaload, 1)) (hq : pc + 1 = q) (i : Nat) (hi : i < 180) (hy : y = nI i) (kk : J X nL k n (tBk zt G.2.1 St ++ (tBk zo G.2.1 So)) q lv (.int (St.2.1 8 i) :: st)) : J X nL k n (tBk zt G.2.1 St ++ (tBk zo G.2.1 So)) pc lv (.int y :: .ref (zt 8) :: st) := j_iald q C hd hq 6 rfl i hi (by decide) hy kk
theorem Ltts_t8 (q : Nat) {y : Int32} {x : Int32} (C : Cx X l G cc nL own rt d mc ms post) (hd : decode cc pc = .ok (.iastore, 1)) (hq : pc + 1 = q) (i : Nat) (hi : i < 180) (hy : y = nI i) (kk : J X nL k n (tBk zt G.2.1 (aS St 8 i x) ++ (tBk zo G.2.1 So)) q lv st) : J X nL k n (tBk zt G.2.1 St ++ (tBk zo G.2.1 So)) pc lv (.int x :: .int y :: .ref (zt 8) :: st) := j_iast q C hd hq 6 rfl i hi (by decide) hy rfl kk
theorem Lttg_t9 (q : Nat) {idx : Nat} (C : Cx X l G cc nL own rt d mc ms post) (hd : decode cc pc = .ok (.getfield idx, 3)) (hq : pc + 3 = q) (hlf : Cond.fieldLink own idx (TX8 9).1 (TX8 9).2.1 (TX8 9).2.2.1 ∈ gtbl) (kk : J X nL k n (tBk zt G.2.1 St ++ (tBk zo G.2.1 So)) q lv (.int (St.1 9) :: st)) : J X nL k n (tBk zt G.2.1 St ++ (tBk zo G.2.1 So)) pc lv (.ref (zt 50) :: st) := j_get q C hd hq 0 rfl rfl ingX8 9 (by decide) hlf rfl kk
theorem Lttp_t9 (q : Nat) {idx : Nat} {v : Int32} (C : Cx X l G cc nL own rt d mc ms post) (hd : decode cc pc = .ok (.putfield idx, 3)) (hq : pc + 3 = q) (hlf : Cond.fieldLink own idx (TX8 9).1 (TX8 9).2.1 (TX8 9).2.2.1 ∈ gtbl) (kk : J X nL k n (tBk zt G.2.1 (sS St 9 v) ++ (tBk zo G.2.1 So)) q lv st) : J X nL k n (tBk zt G.2.1 St ++ (tBk zo G.2.1 So)) pc lv (.int v :: .ref (zt 50) :: st) := j_put q tyX8 C hd hq 0 rfl rfl ingX8 tyX8_ok nmX8 9 (by decide) hlf rfl rfl rfl (by show 9 < 10; decide) rfl kk
theorem Lttg_o0 (q : Nat) {idx : Nat} (C : Cx X l G cc nL own rt d mc ms post) (hd : decode cc pc = .ok (.getfield idx, 3)) (hq : pc + 3 = q) (hlf : Cond.fieldLink own idx (TX8 0).1 (TX8 0).2.1 (TX8 0).2.2.1 ∈ gtbl) (kk : J X nL k n (tBk zt G.2.1 St ++ (tBk zo G.2.1 So)) q lv (.int (So.1 0) :: st)) : J X nL k n (tBk zt G.2.1 St ++ (tBk zo G.2.1 So)) pc lv (.ref (zo 50) :: st) := j_get q C hd hq 7 rfl rfl ingX8 0 (by decide) hlf rfl kk
theorem Lttp_o0 (q : Nat) {idx : Nat} {v : Int32} (C : Cx X l G cc nL own rt d mc ms post) (hd : decode cc pc = .ok (.putfield idx, 3)) (hq : pc + 3 = q) (hlf : Cond.fieldLink own idx (TX8 0).1 (TX8 0).2.1 (TX8 0).2.2.1 ∈ gtbl) (kk : J X nL k n (tBk zt G.2.1 St ++ (tBk zo G.2.1 (sS So 0 v))) q lv st) : J X nL k n (tBk zt G.2.1 St ++ (tBk zo G.2.1 So)) pc lv (.int v :: .ref (zo 50) :: st) := j_put q tyX8 C hd hq 7 rfl rfl ingX8 tyX8_ok nmX8 0 (by decide) hlf rfl rfl rfl (by show 0 < 10; decide) rfl kk
theorem Lttg_o1 (q : Nat) {idx : Nat} (C : Cx X l G cc nL own rt d mc ms post) (hd : decode cc pc = .ok (.getfield idx, 3)) (hq : pc + 3 = q) (hlf : Cond.fieldLink own idx (TX8 1).1 (TX8 1).2.1 (TX8 1).2.2.1 ∈ gtbl) (kk : J X nL k n (tBk zt G.2.1 St ++ (tBk zo G.2.1 So)) q lv (.int (So.1 1) :: st)) : J X nL k n (tBk zt G.2.1 St ++ (tBk zo G.2.1 So)) pc lv (.ref (zo 50) :: st) := j_get q C hd hq 7 rfl rfl ingX8 1 (by decide) hlf rfl kk
theorem Lttp_o1 (q : Nat) {idx : Nat} {v : Int32} (C : Cx X l G cc nL own rt d mc ms post) (hd : decode cc pc = .ok (.putfield idx, 3)) (hq : pc + 3 = q) (hlf : Cond.fieldLink own idx (TX8 1).1 (TX8 1).2.1 (TX8 1).2.2.1 ∈ gtbl) (kk : J X nL k n (tBk zt G.2.1 St ++ (tBk zo G.2.1 (sS So 1 v))) q lv st) : J X nL k n (tBk zt G.2.1 St ++ (tBk zo G.2.1 So)) pc lv (.int v :: .ref (zo 50) :: st) := j_put q tyX8 C hd hq 7 rfl rfl ingX8 tyX8_ok nmX8 1 (by decide) hlf rfl rfl rfl (by show 1 < 10; decide) rfl kk
theorem Lttg_o2 (q : Nat) {idx : Nat} (C : Cx X l G cc nL own rt d mc ms post) (hd : decode cc pc = .ok (.getfield idx, 3)) (hq : pc + 3 = q) (hlf : Cond.fieldLink own idx (TX8 2).1 (TX8 2).2.1 (TX8 2).2.2.1 ∈ gtbl) (kk : J X nL k n (tBk zt G.2.1 St ++ (tBk zo G.2.1 So)) q lv (.int (So.1 2) :: st)) : J X nL k n (tBk zt G.2.1 St ++ (tBk zo G.2.1 So)) pc lv (.ref (zo 50) :: st) := j_get q C hd hq 7 rfl rfl ingX8 2 (by decide) hlf rfl kk
theorem Lttp_o2 (q : Nat) {idx : Nat} {v : Int32} (C : Cx X l G cc nL own rt d mc ms post) (hd : decode cc pc = .ok (.putfield idx, 3)) (hq : pc + 3 = q) (hlf : Cond.fieldLink own idx (TX8 2).1 (TX8 2).2.1 (TX8 2).2.2.1 ∈ gtbl) (kk : J X nL k n (tBk zt G.2.1 St ++ (tBk zo G.2.1 (sS So 2 v))) q lv st) : J X nL k n (tBk zt G.2.1 St ++ (tBk zo G.2.1 So)) pc lv (.int v :: .ref (zo 50) :: st) := j_put q tyX8 C hd hq 7 rfl rfl ingX8 tyX8_ok nmX8 2 (by decide) hlf rfl rfl rfl (by show 2 < 10; decide) rfl kk
theorem Lttg_o3 (q : Nat) {idx : Nat} (C : Cx X l G cc nL own rt d mc ms post) (hd : decode cc pc = .ok (.getfield idx, 3)) (hq : pc + 3 = q) (hlf : Cond.fieldLink own idx (TX8 3).1 (TX8 3).2.1 (TX8 3).2.2.1 ∈ gtbl) (kk : J X nL k n (tBk zt G.2.1 St ++ (tBk zo G.2.1 So)) q lv (.ref (zo 3) :: st)) : J X nL k n (tBk zt G.2.1 St ++ (tBk zo G.2.1 So)) pc lv (.ref (zo 50) :: st) := j_get q C hd hq 7 rfl rfl ingX8 3 (by decide) hlf rfl kk
theorem Ltta_o3 (q : Nat) {y : Int32} (C : Cx X l G cc nL own rt d mc ms post) (hd : decode cc pc = .ok (.iaload, 1)) (hq : pc + 1 = q) (i : Nat) (hi : i < 24) (hy : y = nI i) (kk : J X nL k n (tBk zt G.2.1 St ++ (tBk zo G.2.1 So)) q lv (.int (So.2.1 3 i) :: st)) : J X nL k n (tBk zt G.2.1 St ++ (tBk zo G.2.1 So)) pc lv (.int y :: .ref (zo 3) :: st) := j_iald q C hd hq 8 rfl i hi (by decide) hy kk
theorem Ltts_o3 (q : Nat) {y : Int32} {x : Int32} (C : Cx X l G cc nL own rt d mc ms post) (hd : decode cc pc = .ok (.iastore, 1)) (hq : pc + 1 = q) (i : Nat) (hi : i < 24) (hy : y = nI i) (kk : J X nL k n (tBk zt G.2.1 St ++ (tBk zo G.2.1 (aS So 3 i x))) q lv st) : J X nL k n (tBk zt G.2.1 St ++ (tBk zo G.2.1 So)) pc lv (.int x :: .int y :: .ref (zo 3) :: st) := j_iast q C hd hq 8 rfl i hi (by decide) hy rfl kk
theorem Lttg_o4 (q : Nat) {idx : Nat} (C : Cx X l G cc nL own rt d mc ms post) (hd : decode cc pc = .ok (.getfield idx, 3)) (hq : pc + 3 = q) (hlf : Cond.fieldLink own idx (TX8 4).1 (TX8 4).2.1 (TX8 4).2.2.1 ∈ gtbl) (kk : J X nL k n (tBk zt G.2.1 St ++ (tBk zo G.2.1 So)) q lv (.ref (zo 4) :: st)) : J X nL k n (tBk zt G.2.1 St ++ (tBk zo G.2.1 So)) pc lv (.ref (zo 50) :: st) := j_get q C hd hq 7 rfl rfl ingX8 4 (by decide) hlf rfl kk
theorem Ltta_o4 (q : Nat) {y : Int32} (C : Cx X l G cc nL own rt d mc ms post) (hd : decode cc pc = .ok (.iaload, 1)) (hq : pc + 1 = q) (i : Nat) (hi : i < 4) (hy : y = nI i) (kk : J X nL k n (tBk zt G.2.1 St ++ (tBk zo G.2.1 So)) q lv (.int (So.2.1 4 i) :: st)) : J X nL k n (tBk zt G.2.1 St ++ (tBk zo G.2.1 So)) pc lv (.int y :: .ref (zo 4) :: st) := j_iald q C hd hq 9 rfl i hi (by decide) hy kk
theorem Ltts_o4 (q : Nat) {y : Int32} {x : Int32} (C : Cx X l G cc nL own rt d mc ms post) (hd : decode cc pc = .ok (.iastore, 1)) (hq : pc + 1 = q) (i : Nat) (hi : i < 4) (hy : y = nI i) (kk : J X nL k n (tBk zt G.2.1 St ++ (tBk zo G.2.1 (aS So 4 i x))) q lv st) : J X nL k n (tBk zt G.2.1 St ++ (tBk zo G.2.1 So)) pc lv (.int x :: .int y :: .ref (zo 4) :: st) := j_iast q C hd hq 9 rfl i hi (by decide) hy rfl kk
theorem Lttg_o5 (q : Nat) {idx : Nat} (C : Cx X l G cc nL own rt d mc ms post) (hd : decode cc pc = .ok (.getfield idx, 3)) (hq : pc + 3 = q) (hlf : Cond.fieldLink own idx (TX8 5).1 (TX8 5).2.1 (TX8 5).2.2.1 ∈ gtbl) (kk : J X nL k n (tBk zt G.2.1 St ++ (tBk zo G.2.1 So)) q lv (.ref (zo 5) :: st)) : J X nL k n (tBk zt G.2.1 St ++ (tBk zo G.2.1 So)) pc lv (.ref (zo 50) :: st) := j_get q C hd hq 7 rfl rfl ingX8 5 (by decide) hlf rfl kk
theorem Ltta_o5 (q : Nat) {y : Int32} (C : Cx X l G cc nL own rt d mc ms post) (hd : decode cc pc = .ok (.iaload, 1)) (hq : pc + 1 = q) (i : Nat) (hi : i < 12) (hy : y = nI i) (kk : J X nL k n (tBk zt G.2.1 St ++ (tBk zo G.2.1 So)) q lv (.int (So.2.1 5 i) :: st)) : J X nL k n (tBk zt G.2.1 St ++ (tBk zo G.2.1 So)) pc lv (.int y :: .ref (zo 5) :: st) := j_iald q C hd hq 10 rfl i hi (by decide) hy kk
theorem Ltts_o5 (q : Nat) {y : Int32} {x : Int32} (C : Cx X l G cc nL own rt d mc ms post) (hd : decode cc pc = .ok (.iastore, 1)) (hq : pc + 1 = q) (i : Nat) (hi : i < 12) (hy : y = nI i) (kk : J X nL k n (tBk zt G.2.1 St ++ (tBk zo G.2.1 (aS So 5 i x))) q lv st) : J X nL k n (tBk zt G.2.1 St ++ (tBk zo G.2.1 So)) pc lv (.int x :: .int y :: .ref (zo 5) :: st) := j_iast q C hd hq 10 rfl i hi (by decide) hy rfl kk
theorem Lttg_o6 (q : Nat) {idx : Nat} (C : Cx X l G cc nL own rt d mc ms post) (hd : decode cc pc = .ok (.getfield idx, 3)) (hq : pc + 3 = q) (hlf : Cond.fieldLink own idx (TX8 6).1 (TX8 6).2.1 (TX8 6).2.2.1 ∈ gtbl) (kk : J X nL k n (tBk zt G.2.1 St ++ (tBk zo G.2.1 So)) q lv (.ref (zo 6) :: st)) : J X nL k n (tBk zt G.2.1 St ++ (tBk zo G.2.1 So)) pc lv (.ref (zo 50) :: st) := j_get q C hd hq 7 rfl rfl ingX8 6 (by decide) hlf rfl kk
theorem Ltta_o6 (q : Nat) {y : Int32} (C : Cx X l G cc nL own rt d mc ms post) (hd : decode cc pc = .ok (.iaload, 1)) (hq : pc + 1 = q) (i : Nat) (hi : i < 12) (hy : y = nI i) (kk : J X nL k n (tBk zt G.2.1 St ++ (tBk zo G.2.1 So)) q lv (.int (So.2.1 6 i) :: st)) : J X nL k n (tBk zt G.2.1 St ++ (tBk zo G.2.1 So)) pc lv (.int y :: .ref (zo 6) :: st) := j_iald q C hd hq 11 rfl i hi (by decide) hy kk
theorem Ltts_o6 (q : Nat) {y : Int32} {x : Int32} (C : Cx X l G cc nL own rt d mc ms post) (hd : decode cc pc = .ok (.iastore, 1)) (hq : pc + 1 = q) (i : Nat) (hi : i < 12) (hy : y = nI i) (kk : J X nL k n (tBk zt G.2.1 St ++ (tBk zo G.2.1 (aS So 6 i x))) q lv st) : J X nL k n (tBk zt G.2.1 St ++ (tBk zo G.2.1 So)) pc lv (.int x :: .int y :: .ref (zo 6) :: st) := j_iast q C hd hq 11 rfl i hi (by decide) hy rfl kk
theorem Lttg_o7 (q : Nat) {idx : Nat} (C : Cx X l G cc nL own rt d mc ms post) (hd : decode cc pc = .ok (.getfield idx, 3)) (hq : pc + 3 = q) (hlf : Cond.fieldLink own idx (TX8 7).1 (TX8 7).2.1 (TX8 7).2.2.1 ∈ gtbl) (kk : J X nL k n (tBk zt G.2.1 St ++ (tBk zo G.2.1 So)) q lv (.ref (zo 7) :: st)) : J X nL k n (tBk zt G.2.1 St ++ (tBk zo G.2.1 So)) pc lv (.ref (zo 50) :: st) := j_get q C hd hq 7 rfl rfl ingX8 7 (by decide) hlf rfl kk
theorem Ltta_o7 (q : Nat) {y : Int32} (C : Cx X l G cc nL own rt d mc ms post) (hd : decode cc pc = .ok (.iaload, 1)) (hq : pc + 1 = q) (i : Nat) (hi : i < 180) (hy : y = nI i) (kk : J X nL k n (tBk zt G.2.1 St ++ (tBk zo G.2.1 So)) q lv (.int (So.2.1 7 i) :: st)) : J X nL k n (tBk zt G.2.1 St ++ (tBk zo G.2.1 So)) pc lv (.int y :: .ref (zo 7) :: st) := j_iald q C hd hq 12 rfl i hi (by decide) hy kk
theorem Ltts_o7 (q : Nat) {y : Int32} {x : Int32} (C : Cx X l G cc nL own rt d mc ms post) (hd : decode cc pc = .ok (.iastore, 1)) (hq : pc + 1 = q) (i : Nat) (hi : i < 180) (hy : y = nI i) (kk : J X nL k n (tBk zt G.2.1 St ++ (tBk zo G.2.1 (aS So 7 i x))) q lv st) : J X nL k n (tBk zt G.2.1 St ++ (tBk zo G.2.1 So)) pc lv (.int x :: .int y :: .ref (zo 7) :: st) := j_iast q C hd hq 12 rfl i hi (by decide) hy rfl kk
theorem Lttg_o8 (q : Nat) {idx : Nat} (C : Cx X l G cc nL own rt d mc ms post) (hd : decode cc pc = .ok (.getfield idx, 3)) (hq : pc + 3 = q) (hlf : Cond.fieldLink own idx (TX8 8).1 (TX8 8).2.1 (TX8 8).2.2.1 ∈ gtbl) (kk : J X nL k n (tBk zt G.2.1 St ++ (tBk zo G.2.1 So)) q lv (.ref (zo 8) :: st)) : J X nL k n (tBk zt G.2.1 St ++ (tBk zo G.2.1 So)) pc lv (.ref (zo 50) :: st) := j_get q C hd hq 7 rfl rfl ingX8 8 (by decide) hlf rfl kk
theorem Ltta_o8 (q : Nat) {y : Int32} (C : Cx X l G cc nL own rt d mc ms post) (hd : decode cc pc = .ok (.iaload, 1)) (hq : pc + 1 = q) (i : Nat) (hi : i < 180) (hy : y = nI i) (kk : J X nL k n (tBk zt G.2.1 St ++ (tBk zo G.2.1 So)) q lv (.int (So.2.1 8 i) :: st)) : J X nL k n (tBk zt G.2.1 St ++ (tBk zo G.2.1 So)) pc lv (.int y :: .ref (zo 8) :: st) := j_iald q C hd hq 13 rfl i hi (by decide) hy kk
theorem Ltts_o8 (q : Nat) {y : Int32} {x : Int32} (C : Cx X l G cc nL own rt d mc ms post) (hd : decode cc pc = .ok (.iastore, 1)) (hq : pc + 1 = q) (i : Nat) (hi : i < 180) (hy : y = nI i) (kk : J X nL k n (tBk zt G.2.1 St ++ (tBk zo G.2.1 (aS So 8 i x))) q lv st) : J X nL k n (tBk zt G.2.1 St ++ (tBk zo G.2.1 So)) pc lv (.int x :: .int y :: .ref (zo 8) :: st) := j_iast q C hd hq 13 rfl i hi (by decide) hy rfl kk
theorem Lttg_o9 (q : Nat) {idx : Nat} (C : Cx X l G cc nL own rt d mc ms post) (hd : decode cc pc = .ok (.getfield idx, 3)) (hq : pc + 3 = q) (hlf : Cond.fieldLink own idx (TX8 9).1 (TX8 9).2.1 (TX8 9).2.2.1 ∈ gtbl) (kk : J X nL k n (tBk zt G.2.1 St ++ (tBk zo G.2.1 So)) q lv (.int (So.1 9) :: st)) : J X nL k n (tBk zt G.2.1 St ++ (tBk zo G.2.1 So)) pc lv (.ref (zo 50) :: st) := j_get q C hd hq 7 rfl rfl ingX8 9 (by decide) hlf rfl kk
theorem Lttp_o9 (q : Nat) {idx : Nat} {v : Int32} (C : Cx X l G cc nL own rt d mc ms post) (hd : decode cc pc = .ok (.putfield idx, 3)) (hq : pc + 3 = q) (hlf : Cond.fieldLink own idx (TX8 9).1 (TX8 9).2.1 (TX8 9).2.2.1 ∈ gtbl) (kk : J X nL k n (tBk zt G.2.1 St ++ (tBk zo G.2.1 (sS So 9 v))) q lv st) : J X nL k n (tBk zt G.2.1 St ++ (tBk zo G.2.1 So)) pc lv (.int v :: .ref (zo 50) :: st) := j_put q tyX8 C hd hq 7 rfl rfl ingX8 tyX8_ok nmX8 9 (by decide) hlf rfl rfl rfl (by show 9 < 10; decide) rfl kk
end Ly_Ltt
section Lc_Ltt
variable {X : JX} {l : Launch} {G : GG} {cc : ByteArray} {nL : Nat} {own : String} {rt : Option FieldType} {d mc ms : Nat} {post : Option Value → va_W → Prop} {k n pc : Nat} {lv : List (Nat × Value)} {st : List Value} {zt zo : Nat → Nat} {St So : MS}
variable {y : MethodName} {cy : ByteArray} {mL idx np d' : Nat} {rt' : Option FieldType} {As st0 : List Value} {x : Int32} {xl : Int64}
theorem Ltty_o3_t3 (q : Nat) {idx : Nat} (C : Cx X l G cc nL own rt d mc ms post) (hd : decode cc pc = .ok (.invokestatic idx, 3)) (hq : pc + 3 = q) (hl1 : Cond.methodLink own idx arraycopyName ∈ gtbl) (sp dp cn : Nat) {ys yd yn : Int32} (hs : ys = nI sp) (hdp : yd = nI dp) (hn : yn = nI cn) (hb1 : sp + cn ≤ 24) (hb2 : dp + cn ≤ 24) (hdd : 2 ≤ d) (hrm : (st.map fun v => v.category).sum ≤ 8) (kk : J X nL k n (tBk zt G.2.1 (aR St 3 (va_cpy (So.2.1 3) (St.2.1 3) sp dp cn)) ++ (tBk zo G.2.1 So)) q lv st) : J X nL k n (tBk zt G.2.1 St ++ (tBk zo G.2.1 So)) pc lv (.int yn :: .int yd :: .ref (zt 3) :: .int ys :: .ref (zo 3) :: st) := j_copyI q C hd hq hl1 acN acS acI 8 1 rfl rfl sp dp cn hs hdp hn hb1 hb2 (by decide) (by decide) hdd hrm rfl kk
theorem Ltty_o4_t4 (q : Nat) {idx : Nat} (C : Cx X l G cc nL own rt d mc ms post) (hd : decode cc pc = .ok (.invokestatic idx, 3)) (hq : pc + 3 = q) (hl1 : Cond.methodLink own idx arraycopyName ∈ gtbl) (sp dp cn : Nat) {ys yd yn : Int32} (hs : ys = nI sp) (hdp : yd = nI dp) (hn : yn = nI cn) (hb1 : sp + cn ≤ 4) (hb2 : dp + cn ≤ 4) (hdd : 2 ≤ d) (hrm : (st.map fun v => v.category).sum ≤ 8) (kk : J X nL k n (tBk zt G.2.1 (aR St 4 (va_cpy (So.2.1 4) (St.2.1 4) sp dp cn)) ++ (tBk zo G.2.1 So)) q lv st) : J X nL k n (tBk zt G.2.1 St ++ (tBk zo G.2.1 So)) pc lv (.int yn :: .int yd :: .ref (zt 4) :: .int ys :: .ref (zo 4) :: st) := j_copyI q C hd hq hl1 acN acS acI 9 2 rfl rfl sp dp cn hs hdp hn hb1 hb2 (by decide) (by decide) hdd hrm rfl kk
theorem Ltty_o5_t5 (q : Nat) {idx : Nat} (C : Cx X l G cc nL own rt d mc ms post) (hd : decode cc pc = .ok (.invokestatic idx, 3)) (hq : pc + 3 = q) (hl1 : Cond.methodLink own idx arraycopyName ∈ gtbl) (sp dp cn : Nat) {ys yd yn : Int32} (hs : ys = nI sp) (hdp : yd = nI dp) (hn : yn = nI cn) (hb1 : sp + cn ≤ 12) (hb2 : dp + cn ≤ 12) (hdd : 2 ≤ d) (hrm : (st.map fun v => v.category).sum ≤ 8) (kk : J X nL k n (tBk zt G.2.1 (aR St 5 (va_cpy (So.2.1 5) (St.2.1 5) sp dp cn)) ++ (tBk zo G.2.1 So)) q lv st) : J X nL k n (tBk zt G.2.1 St ++ (tBk zo G.2.1 So)) pc lv (.int yn :: .int yd :: .ref (zt 5) :: .int ys :: .ref (zo 5) :: st) := j_copyI q C hd hq hl1 acN acS acI 10 3 rfl rfl sp dp cn hs hdp hn hb1 hb2 (by decide) (by decide) hdd hrm rfl kk
theorem Ltty_o6_t6 (q : Nat) {idx : Nat} (C : Cx X l G cc nL own rt d mc ms post) (hd : decode cc pc = .ok (.invokestatic idx, 3)) (hq : pc + 3 = q) (hl1 : Cond.methodLink own idx arraycopyName ∈ gtbl) (sp dp cn : Nat) {ys yd yn : Int32} (hs : ys = nI sp) (hdp : yd = nI dp) (hn : yn = nI cn) (hb1 : sp + cn ≤ 12) (hb2 : dp + cn ≤ 12) (hdd : 2 ≤ d) (hrm : (st.map fun v => v.category).sum ≤ 8) (kk : J X nL k n (tBk zt G.2.1 (aR St 6 (va_cpy (So.2.1 6) (St.2.1 6) sp dp cn)) ++ (tBk zo G.2.1 So)) q lv st) : J X nL k n (tBk zt G.2.1 St ++ (tBk zo G.2.1 So)) pc lv (.int yn :: .int yd :: .ref (zt 6) :: .int ys :: .ref (zo 6) :: st) := j_copyI q C hd hq hl1 acN acS acI 11 4 rfl rfl sp dp cn hs hdp hn hb1 hb2 (by decide) (by decide) hdd hrm rfl kk
theorem Ltty_o7_t7 (q : Nat) {idx : Nat} (C : Cx X l G cc nL own rt d mc ms post) (hd : decode cc pc = .ok (.invokestatic idx, 3)) (hq : pc + 3 = q) (hl1 : Cond.methodLink own idx arraycopyName ∈ gtbl) (sp dp cn : Nat) {ys yd yn : Int32} (hs : ys = nI sp) (hdp : yd = nI dp) (hn : yn = nI cn) (hb1 : sp + cn ≤ 180) (hb2 : dp + cn ≤ 180) (hdd : 2 ≤ d) (hrm : (st.map fun v => v.category).sum ≤ 8) (kk : J X nL k n (tBk zt G.2.1 (aR St 7 (va_cpy (So.2.1 7) (St.2.1 7) sp dp cn)) ++ (tBk zo G.2.1 So)) q lv st) : J X nL k n (tBk zt G.2.1 St ++ (tBk zo G.2.1 So)) pc lv (.int yn :: .int yd :: .ref (zt 7) :: .int ys :: .ref (zo 7) :: st) := j_copyI q C hd hq hl1 acN acS acI 12 5 rfl rfl sp dp cn hs hdp hn hb1 hb2 (by decide) (by decide) hdd hrm rfl kk
theorem Ltty_o8_t8 (q : Nat) {idx : Nat} (C : Cx X l G cc nL own rt d mc ms post) (hd : decode cc pc = .ok (.invokestatic idx, 3)) (hq : pc + 3 = q) (hl1 : Cond.methodLink own idx arraycopyName ∈ gtbl) (sp dp cn : Nat) {ys yd yn : Int32} (hs : ys = nI sp) (hdp : yd = nI dp) (hn : yn = nI cn) (hb1 : sp + cn ≤ 180) (hb2 : dp + cn ≤ 180) (hdd : 2 ≤ d) (hrm : (st.map fun v => v.category).sum ≤ 8) (kk : J X nL k n (tBk zt G.2.1 (aR St 8 (va_cpy (So.2.1 8) (St.2.1 8) sp dp cn)) ++ (tBk zo G.2.1 So)) q lv st) : J X nL k n (tBk zt G.2.1 St ++ (tBk zo G.2.1 So)) pc lv (.int yn :: .int yd :: .ref (zt 8) :: .int ys :: .ref (zo 8) :: st) := j_copyI q C hd hq hl1 acN acS acI 13 6 rfl rfl sp dp cn hs hdp hn hb1 hb2 (by decide) (by decide) hdd hrm rfl kk
end Lc_Ltt
section Ly_Lrr
variable {X : JX} {l : Launch} {G : GG} {cc : ByteArray} {nL : Nat} {own : String} {rt : Option FieldType} {d mc ms : Nat} {post : Option Value → va_W → Prop} {k n pc : Nat} {lv : List (Nat × Value)} {st : List Value} {zr zo : Nat → Nat} {Sr So : MS}
theorem Lrrg_r0 (q : Nat) {idx : Nat} (C : Cx X l G cc nL own rt d mc ms post) (hd : decode cc pc = .ok (.getfield idx, 3)) (hq : pc + 3 = q) (hlf : Cond.fieldLink own idx (TX5 0).1 (TX5 0).2.1 (TX5 0).2.2.1 ∈ gtbl) (kk : J X nL k n (rBk zr G.2.1 Sr ++ (rBk zo G.2.1 So)) q lv (.int (Sr.1 0) :: st)) : J X nL k n (rBk zr G.2.1 Sr ++ (rBk zo G.2.1 So)) pc lv (.ref (zr 50) :: st) := j_get q C hd hq 0 rfl rfl ingX5 0 (by decide) hlf rfl kk
theorem Lrrp_r0 (q : Nat) {idx : Nat} {v : Int32} (C : Cx X l G cc nL own rt d mc ms post) (hd : decode cc pc = .ok (.putfield idx, 3)) (hq : pc + 3 = q) (hlf : Cond.fieldLink own idx (TX5 0).1 (TX5 0).2.1 (TX5 0).2.2.1 ∈ gtbl) (kk : J X nL k n (rBk zr G.2.1 (sS Sr 0 v) ++ (rBk zo G.2.1 So)) q lv st) : J X nL k n (rBk zr G.2.1 Sr ++ (rBk zo G.2.1 So)) pc lv (.int v :: .ref (zr 50) :: st) := j_put q tyX5 C hd hq 0 rfl rfl ingX5 tyX5_ok nmX5 0 (by decide) hlf rfl rfl rfl (by show 0 < 5; decide) rfl kk
theorem Lrrg_r1 (q : Nat) {idx : Nat} (C : Cx X l G cc nL own rt d mc ms post) (hd : decode cc pc = .ok (.getfield idx, 3)) (hq : pc + 3 = q) (hlf : Cond.fieldLink own idx (TX5 1).1 (TX5 1).2.1 (TX5 1).2.2.1 ∈ gtbl) (kk : J X nL k n (rBk zr G.2.1 Sr ++ (rBk zo G.2.1 So)) q lv (.int (Sr.1 1) :: st)) : J X nL k n (rBk zr G.2.1 Sr ++ (rBk zo G.2.1 So)) pc lv (.ref (zr 50) :: st) := j_get q C hd hq 0 rfl rfl ingX5 1 (by decide) hlf rfl kk
theorem Lrrp_r1 (q : Nat) {idx : Nat} {v : Int32} (C : Cx X l G cc nL own rt d mc ms post) (hd : decode cc pc = .ok (.putfield idx, 3)) (hq : pc + 3 = q) (hlf : Cond.fieldLink own idx (TX5 1).1 (TX5 1).2.1 (TX5 1).2.2.1 ∈ gtbl) (kk : J X nL k n (rBk zr G.2.1 (sS Sr 1 v) ++ (rBk zo G.2.1 So)) q lv st) : J X nL k n (rBk zr G.2.1 Sr ++ (rBk zo G.2.1 So)) pc lv (.int v :: .ref (zr 50) :: st) := j_put q tyX5 C hd hq 0 rfl rfl ingX5 tyX5_ok nmX5 1 (by decide) hlf rfl rfl rfl (by show 1 < 5; decide) rfl kk
theorem Lrrg_r2 (q : Nat) {idx : Nat} (C : Cx X l G cc nL own rt d mc ms post) (hd : decode cc pc = .ok (.getfield idx, 3)) (hq : pc + 3 = q) (hlf : Cond.fieldLink own idx (TX5 2).1 (TX5 2).2.1 (TX5 2).2.2.1 ∈ gtbl) (kk : J X nL k n (rBk zr G.2.1 Sr ++ (rBk zo G.2.1 So)) q lv (.ref (zr 2) :: st)) : J X nL k n (rBk zr G.2.1 Sr ++ (rBk zo G.2.1 So)) pc lv (.ref (zr 50) :: st) := j_get q C hd hq 0 rfl rfl ingX5 2 (by decide) hlf rfl kk
theorem Lrra_r2 (q : Nat) {y : Int32} (C : Cx X l G cc nL own rt d mc ms post) (hd : decode cc pc = .ok (.iaload, 1)) (hq : pc + 1 = q) (i : Nat) (hi : i < 12) (hy : y = nI i) (kk : J X nL k n (rBk zr G.2.1 Sr ++ (rBk zo G.2.1 So)) q lv (.int (Sr.2.1 2 i) :: st)) : J X nL k n (rBk zr G.2.1 Sr ++ (rBk zo G.2.1 So)) pc lv (.int y :: .ref (zr 2) :: st) := j_iald q C hd hq 1 rfl i hi (by decide) hy kk
theorem Lrrs_r2 (q : Nat) {y : Int32} {x : Int32} (C : Cx X l G cc nL own rt d mc ms post) (hd : decode cc pc = .ok (.iastore, 1)) (hq : pc + 1 = q) (i : Nat) (hi : i < 12) (hy : y = nI i) (kk : J X nL k n (rBk zr G.2.1 (aS Sr 2 i x) ++ (rBk zo G.2.1 So)) q lv st) : J X nL k n (rBk zr G.2.1 Sr ++ (rBk zo G.2.1 So)) pc lv (.int x :: .int y :: .ref (zr 2) :: st) := j_iast q C hd hq 1 rfl i hi (by decide) hy rfl kk
theorem Lrrg_r3 (q : Nat) {idx : Nat} (C : Cx X l G cc nL own rt d mc ms post) (hd : decode cc pc = .ok (.getfield idx, 3)) (hq : pc + 3 = q) (hlf : Cond.fieldLink own idx (TX5 3).1 (TX5 3).2.1 (TX5 3).2.2.1 ∈ gtbl) (kk : J X nL k n (rBk zr G.2.1 Sr ++ (rBk zo G.2.1 So)) q lv (.ref (zr 3) :: st)) : J X nL k n (rBk zr G.2.1 Sr ++ (rBk zo G.2.1 So)) pc lv (.ref (zr 50) :: st) := j_get q C hd hq 0 rfl rfl ingX5 3 (by decide) hlf rfl kk
theorem Lrra_r3 (q : Nat) {y : Int32} (C : Cx X l G cc nL own rt d mc ms post) (hd : decode cc pc = .ok (.iaload, 1)) (hq : pc + 1 = q) (i : Nat) (hi : i < 12) (hy : y = nI i) (kk : J X nL k n (rBk zr G.2.1 Sr ++ (rBk zo G.2.1 So)) q lv (.int (Sr.2.1 3 i) :: st)) : J X nL k n (rBk zr G.2.1 Sr ++ (rBk zo G.2.1 So)) pc lv (.int y :: .ref (zr 3) :: st) := j_iald q C hd hq 2 rfl i hi (by decide) hy kk
theorem Lrrs_r3 (q : Nat) {y : Int32} {x : Int32} (C : Cx X l G cc nL own rt d mc ms post) (hd : decode cc pc = .ok (.iastore, 1)) (hq : pc + 1 = q) (i : Nat) (hi : i < 12) (hy : y = nI i) (kk : J X nL k n (rBk zr G.2.1 (aS Sr 3 i x) ++ (rBk zo G.2.1 So)) q lv st) : J X nL k n (rBk zr G.2.1 Sr ++ (rBk zo G.2.1 So)) pc lv (.int x :: .int y :: .ref (zr 3) :: st) := j_iast q C hd hq 2 rfl i hi (by decide) hy rfl kk
theorem Lrrg_r4 (q : Nat) {idx : Nat} (C : Cx X l G cc nL own rt d mc ms post) (hd : decode cc pc = .ok (.getfield idx, 3)) (hq : pc + 3 = q) (hlf : Cond.fieldLink own idx (TX5 4).1 (TX5 4).2.1 (TX5 4).2.2.1 ∈ gtbl) (kk : J X nL k n (rBk zr G.2.1 Sr ++ (rBk zo G.2.1 So)) q lv (.ref (zr 4) :: st)) : J X nL k n (rBk zr G.2.1 Sr ++ (rBk zo G.2.1 So)) pc lv (.ref (zr 50) :: st) := j_get q C hd hq 0 rfl rfl ingX5 4 (by decide) hlf rfl kk
theorem Lrra_r4 (q : Nat) {y : Int32} (C : Cx X l G cc nL own rt d mc ms post) (hd : decode cc pc = .ok (.iaload, 1)) (hq : pc + 1 = q) (i : Nat) (hi : i < 144) (hy : y = nI i) (kk : J X nL k n (rBk zr G.2.1 Sr ++ (rBk zo G.2.1 So)) q lv (.int (Sr.2.1 4 i) :: st)) : J X nL k n (rBk zr G.2.1 Sr ++ (rBk zo G.2.1 So)) pc lv (.int y :: .ref (zr 4) :: st) := j_iald q C hd hq 3 rfl i hi (by decide) hy kk
theorem Lrrs_r4 (q : Nat) {y : Int32} {x : Int32} (C : Cx X l G cc nL own rt d mc ms post) (hd : decode cc pc = .ok (.iastore, 1)) (hq : pc + 1 = q) (i : Nat) (hi : i < 144) (hy : y = nI i) (kk : J X nL k n (rBk zr G.2.1 (aS Sr 4 i x) ++ (rBk zo G.2.1 So)) q lv st) : J X nL k n (rBk zr G.2.1 Sr ++ (rBk zo G.2.1 So)) pc lv (.int x :: .int y :: .ref (zr 4) :: st) := j_iast q C hd hq 3 rfl i hi (by decide) hy rfl kk
theorem Lrrg_o0 (q : Nat) {idx : Nat} (C : Cx X l G cc nL own rt d mc ms post) (hd : decode cc pc = .ok (.getfield idx, 3)) (hq : pc + 3 = q) (hlf : Cond.fieldLink own idx (TX5 0).1 (TX5 0).2.1 (TX5 0).2.2.1 ∈ gtbl) (kk : J X nL k n (rBk zr G.2.1 Sr ++ (rBk zo G.2.1 So)) q lv (.int (So.1 0) :: st)) : J X nL k n (rBk zr G.2.1 Sr ++ (rBk zo G.2.1 So)) pc lv (.ref (zo 50) :: st) := j_get q C hd hq 4 rfl rfl ingX5 0 (by decide) hlf rfl kk
theorem Lrrp_o0 (q : Nat) {idx : Nat} {v : Int32} (C : Cx X l G cc nL own rt d mc ms post) (hd : decode cc pc = .ok (.putfield idx, 3)) (hq : pc + 3 = q) (hlf : Cond.fieldLink own idx (TX5 0).1 (TX5 0).2.1 (TX5 0).2.2.1 ∈ gtbl) (kk : J X nL k n (rBk zr G.2.1 Sr ++ (rBk zo G.2.1 (sS So 0 v))) q lv st) : J X nL k n (rBk zr G.2.1 Sr ++ (rBk zo G.2.1 So)) pc lv (.int v :: .ref (zo 50) :: st) := j_put q tyX5 C hd hq 4 rfl rfl ingX5 tyX5_ok nmX5 0 (by decide) hlf rfl rfl rfl (by show 0 < 5; decide) rfl kk
theorem Lrrg_o1 (q : Nat) {idx : Nat} (C : Cx X l G cc nL own rt d mc ms post) (hd : decode cc pc = .ok (.getfield idx, 3)) (hq : pc + 3 = q) (hlf : Cond.fieldLink own idx (TX5 1).1 (TX5 1).2.1 (TX5 1).2.2.1 ∈ gtbl) (kk : J X nL k n (rBk zr G.2.1 Sr ++ (rBk zo G.2.1 So)) q lv (.int (So.1 1) :: st)) : J X nL k n (rBk zr G.2.1 Sr ++ (rBk zo G.2.1 So)) pc lv (.ref (zo 50) :: st) := j_get q C hd hq 4 rfl rfl ingX5 1 (by decide) hlf rfl kk
theorem Lrrp_o1 (q : Nat) {idx : Nat} {v : Int32} (C : Cx X l G cc nL own rt d mc ms post) (hd : decode cc pc = .ok (.putfield idx, 3)) (hq : pc + 3 = q) (hlf : Cond.fieldLink own idx (TX5 1).1 (TX5 1).2.1 (TX5 1).2.2.1 ∈ gtbl) (kk : J X nL k n (rBk zr G.2.1 Sr ++ (rBk zo G.2.1 (sS So 1 v))) q lv st) : J X nL k n (rBk zr G.2.1 Sr ++ (rBk zo G.2.1 So)) pc lv (.int v :: .ref (zo 50) :: st) := j_put q tyX5 C hd hq 4 rfl rfl ingX5 tyX5_ok nmX5 1 (by decide) hlf rfl rfl rfl (by show 1 < 5; decide) rfl kk
theorem Lrrg_o2 (q : Nat) {idx : Nat} (C : Cx X l G cc nL own rt d mc ms post) (hd : decode cc pc = .ok (.getfield idx, 3)) (hq : pc + 3 = q) (hlf : Cond.fieldLink own idx (TX5 2).1 (TX5 2).2.1 (TX5 2).2.2.1 ∈ gtbl) (kk : J X nL k n (rBk zr G.2.1 Sr ++ (rBk zo G.2.1 So)) q lv (.ref (zo 2) :: st)) : J X nL k n (rBk zr G.2.1 Sr ++ (rBk zo G.2.1 So)) pc lv (.ref (zo 50) :: st) := j_get q C hd hq 4 rfl rfl ingX5 2 (by decide) hlf rfl kk
theorem Lrra_o2 (q : Nat) {y : Int32} (C : Cx X l G cc nL own rt d mc ms post) (hd : decode cc pc = .ok (.iaload, 1)) (hq : pc + 1 = q) (i : Nat) (hi : i < 12) (hy : y = nI i) (kk : J X nL k n (rBk zr G.2.1 Sr ++ (rBk zo G.2.1 So)) q lv (.int (So.2.1 2 i) :: st)) : J X nL k n (rBk zr G.2.1 Sr ++ (rBk zo G.2.1 So)) pc lv (.int y :: .ref (zo 2) :: st) := j_iald q C hd hq 5 rfl i hi (by decide) hy kk
theorem Lrrs_o2 (q : Nat) {y : Int32} {x : Int32} (C : Cx X l G cc nL own rt d mc ms post) (hd : decode cc pc = .ok (.iastore, 1)) (hq : pc + 1 = q) (i : Nat) (hi : i < 12) (hy : y = nI i) (kk : J X nL k n (rBk zr G.2.1 Sr ++ (rBk zo G.2.1 (aS So 2 i x))) q lv st) : J X nL k n (rBk zr G.2.1 Sr ++ (rBk zo G.2.1 So)) pc lv (.int x :: .int y :: .ref (zo 2) :: st) := j_iast q C hd hq 5 rfl i hi (by decide) hy rfl kk
theorem Lrrg_o3 (q : Nat) {idx : Nat} (C : Cx X l G cc nL own rt d mc ms post) (hd : decode cc pc = .ok (.getfield idx, 3)) (hq : pc + 3 = q) (hlf : Cond.fieldLink own idx (TX5 3).1 (TX5 3).2.1 (TX5 3).2.2.1 ∈ gtbl) (kk : J X nL k n (rBk zr G.2.1 Sr ++ (rBk zo G.2.1 So)) q lv (.ref (zo 3) :: st)) : J X nL k n (rBk zr G.2.1 Sr ++ (rBk zo G.2.1 So)) pc lv (.ref (zo 50) :: st) := j_get q C hd hq 4 rfl rfl ingX5 3 (by decide) hlf rfl kk
theorem Lrra_o3 (q : Nat) {y : Int32} (C : Cx X l G cc nL own rt d mc ms post) (hd : decode cc pc = .ok (.iaload, 1)) (hq : pc + 1 = q) (i : Nat) (hi : i < 12) (hy : y = nI i) (kk : J X nL k n (rBk zr G.2.1 Sr ++ (rBk zo G.2.1 So)) q lv (.int (So.2.1 3 i) :: st)) : J X nL k n (rBk zr G.2.1 Sr ++ (rBk zo G.2.1 So)) pc lv (.int y :: .ref (zo 3) :: st) := j_iald q C hd hq 6 rfl i hi (by decide) hy kk
theorem Lrrs_o3 (q : Nat) {y : Int32} {x : Int32} (C : Cx X l G cc nL own rt d mc ms post) (hd : decode cc pc = .ok (.iastore, 1)) (hq : pc + 1 = q) (i : Nat) (hi : i < 12) (hy : y = nI i) (kk : J X nL k n (rBk zr G.2.1 Sr ++ (rBk zo G.2.1 (aS So 3 i x))) q lv st) : J X nL k n (rBk zr G.2.1 Sr ++ (rBk zo G.2.1 So)) pc lv (.int x :: .int y :: .ref (zo 3) :: st) := j_iast q C hd hq 6 rfl i hi (by decide) hy rfl kk
theorem Lrrg_o4 (q : Nat) {idx : Nat} (C : Cx X l G cc nL own rt d mc ms post) (hd : decode cc pc = .ok (.getfield idx, 3)) (hq : pc + 3 = q) (hlf : Cond.fieldLink own idx (TX5 4).1 (TX5 4).2.1 (TX5 4).2.2.1 ∈ gtbl) (kk : J X nL k n (rBk zr G.2.1 Sr ++ (rBk zo G.2.1 So)) q lv (.ref (zo 4) :: st)) : J X nL k n (rBk zr G.2.1 Sr ++ (rBk zo G.2.1 So)) pc lv (.ref (zo 50) :: st) := j_get q C hd hq 4 rfl rfl ingX5 4 (by decide) hlf rfl kk
theorem Lrra_o4 (q : Nat) {y : Int32} (C : Cx X l G cc nL own rt d mc ms post) (hd : decode cc pc = .ok (.iaload, 1)) (hq : pc + 1 = q) (i : Nat) (hi : i < 144) (hy : y = nI i) (kk : J X nL k n (rBk zr G.2.1 Sr ++ (rBk zo G.2.1 So)) q lv (.int (So.2.1 4 i) :: st)) : J X nL k n (rBk zr G.2.1 Sr ++ (rBk zo G.2.1 So)) pc lv (.int y :: .ref (zo 4) :: st) := j_iald q C hd hq 7 rfl i hi (by decide) hy kk
theorem Lrrs_o4 (q : Nat) {y : Int32} {x : Int32} (C : Cx X l G cc nL own rt d mc ms post) (hd : decode cc pc = .ok (.iastore, 1)) (hq : pc + 1 = q) (i : Nat) (hi : i < 144) (hy : y = nI i) (kk : J X nL k n (rBk zr G.2.1 Sr ++ (rBk zo G.2.1 (aS So 4 i x))) q lv st) : J X nL k n (rBk zr G.2.1 Sr ++ (rBk zo G.2.1 So)) pc lv (.int x :: .int y :: .ref (zo 4) :: st) := j_iast q C hd hq 7 rfl i hi (by decide) hy rfl kk
end Ly_Lrr
section Lc_Lrr
variable {X : JX} {l : Launch} {G : GG} {cc : ByteArray} {nL : Nat} {own : String} {rt : Option FieldType} {d mc ms : Nat} {post : Option Value → va_W → Prop} {k n pc : Nat} {lv : List (Nat × Value)} {st : List Value} {zr zo : Nat → Nat} {Sr So : MS}
variable {y : MethodName} {cy : ByteArray} {mL idx np d' : Nat} {rt' : Option FieldType} {As st0 : List Value} {x : Int32} {xl : Int64}
theorem Lrry_o2_r2 (q : Nat) {idx : Nat} (C : Cx X l G cc nL own rt d mc ms post) (hd : decode cc pc = .ok (.invokestatic idx, 3)) (hq : pc + 3 = q) (hl1 : Cond.methodLink own idx arraycopyName ∈ gtbl) (sp dp cn : Nat) {ys yd yn : Int32} (hs : ys = nI sp) (hdp : yd = nI dp) (hn : yn = nI cn) (hb1 : sp + cn ≤ 12) (hb2 : dp + cn ≤ 12) (hdd : 2 ≤ d) (hrm : (st.map fun v => v.category).sum ≤ 8) (kk : J X nL k n (rBk zr G.2.1 (aR Sr 2 (va_cpy (So.2.1 2) (Sr.2.1 2) sp dp cn)) ++ (rBk zo G.2.1 So)) q lv st) : J X nL k n (rBk zr G.2.1 Sr ++ (rBk zo G.2.1 So)) pc lv (.int yn :: .int yd :: .ref (zr 2) :: .int ys :: .ref (zo 2) :: st) := j_copyI q C hd hq hl1 acN acS acI 5 1 rfl rfl sp dp cn hs hdp hn hb1 hb2 (by decide) (by decide) hdd hrm rfl kk
theorem Lrry_o3_r3 (q : Nat) {idx : Nat} (C : Cx X l G cc nL own rt d mc ms post) (hd : decode cc pc = .ok (.invokestatic idx, 3)) (hq : pc + 3 = q) (hl1 : Cond.methodLink own idx arraycopyName ∈ gtbl) (sp dp cn : Nat) {ys yd yn : Int32} (hs : ys = nI sp) (hdp : yd = nI dp) (hn : yn = nI cn) (hb1 : sp + cn ≤ 12) (hb2 : dp + cn ≤ 12) (hdd : 2 ≤ d) (hrm : (st.map fun v => v.category).sum ≤ 8) (kk : J X nL k n (rBk zr G.2.1 (aR Sr 3 (va_cpy (So.2.1 3) (Sr.2.1 3) sp dp cn)) ++ (rBk zo G.2.1 So)) q lv st) : J X nL k n (rBk zr G.2.1 Sr ++ (rBk zo G.2.1 So)) pc lv (.int yn :: .int yd :: .ref (zr 3) :: .int ys :: .ref (zo 3) :: st) := j_copyI q C hd hq hl1 acN acS acI 6 2 rfl rfl sp dp cn hs hdp hn hb1 hb2 (by decide) (by decide) hdd hrm rfl kk
theorem Lrry_o4_r4 (q : Nat) {idx : Nat} (C : Cx X l G cc nL own rt d mc ms post) (hd : decode cc pc = .ok (.invokestatic idx, 3)) (hq : pc + 3 = q) (hl1 : Cond.methodLink own idx arraycopyName ∈ gtbl) (sp dp cn : Nat) {ys yd yn : Int32} (hs : ys = nI sp) (hdp : yd = nI dp) (hn : yn = nI cn) (hb1 : sp + cn ≤ 144) (hb2 : dp + cn ≤ 144) (hdd : 2 ≤ d) (hrm : (st.map fun v => v.category).sum ≤ 8) (kk : J X nL k n (rBk zr G.2.1 (aR Sr 4 (va_cpy (So.2.1 4) (Sr.2.1 4) sp dp cn)) ++ (rBk zo G.2.1 So)) q lv st) : J X nL k n (rBk zr G.2.1 Sr ++ (rBk zo G.2.1 So)) pc lv (.int yn :: .int yd :: .ref (zr 4) :: .int ys :: .ref (zo 4) :: st) := j_copyI q C hd hq hl1 acN acS acI 7 3 rfl rfl sp dp cn hs hdp hn hb1 hb2 (by decide) (by decide) hdd hrm rfl kk
end Lc_Lrr
theorem isI_iff {x : Int32} {n : Nat} (hn : n < 2 ^ 31) : isI x n ↔ ¬ x < 0 ∧ ¬ nI n ≤ x := by
  rw [isI, Int32.lt_iff_toInt_lt, Int32.le_iff_toInt_le, nI_toInt hn]
  show _ ↔ ¬ x.toInt < 0 ∧ _
  omega
/-- the first place of a THING -/
def plc (f : Nat → Int32) (x : Int32) : Nat → Nat → Int32
  | 0, _ => -1
  | m + 1, i => if f i = x then nI i else plc f x m (i + 1)
/-- one Text after another one's copy -/
def TCp (S So : MS) (np : Nat) : Prop := (S.1 0 = So.1 0 ∧ S.1 1 = So.1 1 ∧ S.1 2 = So.1 2 ∧ S.1 9 = So.1 9) ∧ (∀ i, i < 24 → S.2.1 3 i = So.2.1 3 i) ∧ (∀ i, i < 4 → S.2.1 4 i = So.2.1 4 i) ∧ (∀ i, i < 12 → S.2.1 5 i = So.2.1 5 i) ∧ (∀ i, i < 12 → S.2.1 6 i = So.2.1 6 i) ∧ (∀ i, i < np → S.2.1 7 i = So.2.1 7 i) ∧ ∀ i, i < np → S.2.1 8 i = So.2.1 8 i
def TCl (S : MS) : Prop := (S.1 0 = nI 0 ∧ S.1 1 = nI 0 ∧ S.1 2 = nI 0 ∧ S.1 9 = nI 0) ∧ (∀ i, i < 4 → S.2.1 4 i = nI 0) ∧ (∀ i, i < 12 → S.2.1 5 i = nI 0) ∧ ∀ i, i < 12 → S.2.1 6 i = nI 0
def RCp (S So : MS) : Prop := (S.1 0 = So.1 0 ∧ S.1 1 = So.1 1) ∧ (∀ i, i < 12 → S.2.1 2 i = So.2.1 2 i) ∧ (∀ i, i < 12 → S.2.1 3 i = So.2.1 3 i) ∧ ∀ i, i < 144 → S.2.1 4 i = So.2.1 4 i
theorem cp0 (f g : Nat → Int32) (n : Nat) {j : Nat} (h : j < n) : va_cpy f g 0 0 n j = f j := by rw [cpy_img f g 0 n h, Nat.zero_add]
theorem uz {f : Nat → Int32} {i : Nat} (h : ∀ j, j < i → f j = nI 0) : ∀ j, j < i + 1 → upd f i (nI 0) j = nI 0 := by
  intro j hj
  by_cases e : j = i
  · subst e; rw [pk_us]
  · rw [pk_un e]; exact h j (by omega)
section ST1
variable {l : Launch} {G : GG} {zt zr zo : Nat → Nat} {St Sr So : MS} {x y : Int32} {nt nr np lw r n : Nat}
theorem K8_hasThing (h0 : St.1 0 = nI nt) (hnt : nt ≤ 24) : Con l G yX8_hasThing cX8_hasThing 2 (some .boolean) 1 0 0 [.ref (zt 50), .int x] (tBk zt G.2.1 St) (pI (bI (isI x nt)) (tBk zt G.2.1 St)) := by
  refine Con.mk (own := RX8) (by decide) rfl (Nat.le_of_ble_eq_true rfl) (fun X C => ?_)
  refine j_iload_n 1 C dX8_hasThing_0 rfl rfl ?_
  refine j_if_lt 16 4 C dX8_hasThing_1 (by decide) rfl (fun c1 => ?_) (fun c1 => ?_)
  · refine j_iconst 17 C dX8_hasThing_16 rfl (v := nI 0) (by decide) ?_
    exact j_zret C dX8_hasThing_17 rfl ⟨by rw [bI_f (fun z => ((isI_iff (by omega)).mp z).1 c1)]; rfl, rfl⟩
  · refine j_iload_n 5 C dX8_hasThing_4 rfl rfl ?_
    refine j_aload_n 6 C dX8_hasThing_5 rfl rfl ?_
    refine Ltg_t0 9 C dX8_hasThing_6 rfl fl8_30 ?_
    refine j_top h0 ?_
    refine j_icmp_ge 16 12 C dX8_hasThing_9 (by decide) rfl (fun c9 => ?_) (fun c9 => ?_)
    · refine j_iconst 17 C dX8_hasThing_16 rfl (v := nI 0) (by decide) ?_
      exact j_zret C dX8_hasThing_17 rfl ⟨by rw [bI_f (fun z => ((isI_iff (by omega)).mp z).2 c9)]; rfl, rfl⟩
    · refine j_iconst 13 C dX8_hasThing_12 rfl (v := nI 1) (by decide) ?_
      refine j_goto 17 C dX8_hasThing_13 (by decide) ?_
      exact j_zret C dX8_hasThing_17 rfl ⟨by rw [bI_t ((isI_iff (by omega)).mpr ⟨c1, c9⟩)]; rfl, rfl⟩
theorem K8_hasLaw {b e : Nat} (hl : lw < 12) (h5 : St.2.1 5 lw = nI b) (h6 : St.2.1 6 lw = nI e) (hb : b < 2 ^ 31) (he : e < 2 ^ 31) : Con l G yX8_hasLaw cX8_hasLaw 2 (some .boolean) 1 0 0 [.ref (zt 50), .int (nI lw)] (tBk zt G.2.1 St) (pI (bI (b < e)) (tBk zt G.2.1 St)) := by
  refine Con.mk (own := RX8) (by decide) rfl (Nat.le_of_ble_eq_true rfl) (fun X C => ?_)
  refine j_aload_n 1 C dX8_hasLaw_0 rfl rfl ?_
  refine Ltg_t6 4 C dX8_hasLaw_1 rfl fl8_21 ?_
  refine j_iload_n 5 C dX8_hasLaw_4 rfl rfl ?_
  refine Lta_t6 6 C dX8_hasLaw_5 rfl _ (by omega) rfl ?_
  refine j_top h6 ?_
  refine j_aload_n 7 C dX8_hasLaw_6 rfl rfl ?_
  refine Ltg_t5 10 C dX8_hasLaw_7 rfl fl8_18 ?_
  refine j_iload_n 11 C dX8_hasLaw_10 rfl rfl ?_
  refine Lta_t5 12 C dX8_hasLaw_11 rfl _ (by omega) rfl ?_
  refine j_top h5 ?_
  refine j_bool_icmp_leN 20 C dX8_hasLaw_12 rfl dX8_hasLaw_15 dX8_hasLaw_16 dX8_hasLaw_19 rfl (by omega) (by omega) ?_
  exact j_zret C dX8_hasLaw_20 (bI_nar _) ⟨rfl, rfl⟩
theorem K8_addThing (h0 : St.1 0 = nI nt) (hnt : nt < 24) : Con l G yX8_addThing cX8_addThing 2 none 1 0 0 [.ref (zt 50), .int x] (tBk zt G.2.1 St) (pV (tBk zt G.2.1 (sS (aS St 3 nt x) 0 (nI (nt + 1))))) := by
  refine Con.mk (own := RX8) (by decide) rfl (Nat.le_of_ble_eq_true rfl) (fun X C => ?_)
  refine j_aload_n 1 C dX8_addThing_0 rfl rfl ?_
  refine Ltg_t0 4 C dX8_addThing_1 rfl fl8_30 ?_
  refine j_top h0 ?_
  refine j_bipush 6 C dX8_addThing_4 rfl (v := nI 24) (by decide) ?_
  refine j_icmp_geN 29 9 C dX8_addThing_6 (by decide) rfl (by omega) (by omega) (fun c6 => absurd c6 (by omega)) (fun c6 => ?_)
  refine j_aload_n 10 C dX8_addThing_9 rfl rfl ?_
  refine Ltg_t3 13 C dX8_addThing_10 rfl fl8_9 ?_
  refine j_aload_n 14 C dX8_addThing_13 rfl rfl ?_
  refine Ltg_t0 17 C dX8_addThing_14 rfl fl8_30 ?_
  refine j_top h0 ?_
  refine j_iload_n 18 C dX8_addThing_17 rfl rfl ?_
  refine Lts_t3 19 C dX8_addThing_18 rfl _ (by omega) rfl ?_
  refine j_aload_n 20 C dX8_addThing_19 rfl rfl ?_
  refine j_dup 21 C dX8_addThing_20 rfl rfl ?_
  refine Ltg_t0 24 C dX8_addThing_21 rfl fl8_30 ?_
  refine j_top h0 ?_
  refine j_iconst 25 C dX8_addThing_24 rfl (v := nI 1) (by decide) ?_
  refine j_iaddN 26 C dX8_addThing_25 rfl ?_
  refine Ltp_t0 29 C dX8_addThing_26 rfl fl8_30 ?_
  exact j_vret C dX8_addThing_29 ⟨rfl, rfl⟩
theorem K8_beginLaw (h9 : St.1 9 = nI np) (hl : lw < 12) : Con l G yX8_beginLaw cX8_beginLaw 2 none 1 0 0 [.ref (zt 50), .int (nI lw)] (tBk zt G.2.1 St) (pV (tBk zt G.2.1 (aS (aS St 5 lw (nI np)) 6 lw (nI np)))) := by
  refine Con.mk (own := RX8) (by decide) rfl (Nat.le_of_ble_eq_true rfl) (fun X C => ?_)
  refine j_aload_n 1 C dX8_beginLaw_0 rfl rfl ?_
  refine Ltg_t5 4 C dX8_beginLaw_1 rfl fl8_18 ?_
  refine j_iload_n 5 C dX8_beginLaw_4 rfl rfl ?_
  refine j_aload_n 6 C dX8_beginLaw_5 rfl rfl ?_
  refine Ltg_t9 9 C dX8_beginLaw_6 rfl fl8_40 ?_
  refine j_top h9 ?_
  refine Lts_t5 10 C dX8_beginLaw_9 rfl _ (by omega) rfl ?_
  refine j_aload_n 11 C dX8_beginLaw_10 rfl rfl ?_
  refine Ltg_t6 14 C dX8_beginLaw_11 rfl fl8_21 ?_
  refine j_iload_n 15 C dX8_beginLaw_14 rfl rfl ?_
  refine j_aload_n 16 C dX8_beginLaw_15 rfl rfl ?_
  refine Ltg_t9 19 C dX8_beginLaw_16 rfl fl8_40 ?_
  refine j_top h9 ?_
  refine Lts_t6 20 C dX8_beginLaw_19 rfl _ (by omega) rfl ?_
  exact j_vret C dX8_beginLaw_20 ⟨rfl, rfl⟩
theorem K8_addPart (h9 : St.1 9 = nI np) (hnp : np < 180) (hl : lw < 12) : Con l G yX8_addPart cX8_addPart 4 none 1 0 0 [.ref (zt 50), .int (nI lw), .int x, .int y] (tBk zt G.2.1 St) (pV (tBk zt G.2.1 (aS (sS (aS (aS St 7 np x) 8 np y) 9 (nI (np + 1))) 6 lw (nI (np + 1))))) := by
  refine Con.mk (own := RX8) (by decide) rfl (Nat.le_of_ble_eq_true rfl) (fun X C => ?_)
  refine j_aload_n 1 C dX8_addPart_0 rfl rfl ?_
  refine Ltg_t9 4 C dX8_addPart_1 rfl fl8_40 ?_
  refine j_top (x' := nI np) h9 ?_
  refine j_sipush 7 C dX8_addPart_4 rfl (v := nI 180) (by decide) ?_
  refine j_icmp_geN 50 10 C dX8_addPart_7 (by decide) rfl (by omega) (by omega) (fun c7 => absurd c7 (by omega)) (fun c7 => ?_)
  refine j_aload_n 11 C dX8_addPart_10 rfl rfl ?_
  refine Ltg_t7 14 C dX8_addPart_11 rfl fl8_24 ?_
  refine j_aload_n 15 C dX8_addPart_14 rfl rfl ?_
  refine Ltg_t9 18 C dX8_addPart_15 rfl fl8_40 ?_
  refine j_top (x' := nI np) h9 ?_
  refine j_iload_n 19 C dX8_addPart_18 rfl rfl ?_
  refine Lts_t7 20 C dX8_addPart_19 rfl _ (by omega) rfl ?_
  refine j_aload_n 21 C dX8_addPart_20 rfl rfl ?_
  refine Ltg_t8 24 C dX8_addPart_21 rfl fl8_27 ?_
  refine j_aload_n 25 C dX8_addPart_24 rfl rfl ?_
  refine Ltg_t9 28 C dX8_addPart_25 rfl fl8_40 ?_
  refine j_top (x' := nI np) h9 ?_
  refine j_iload_n 29 C dX8_addPart_28 rfl rfl ?_
  refine Lts_t8 30 C dX8_addPart_29 rfl _ (by omega) rfl ?_
  refine j_aload_n 31 C dX8_addPart_30 rfl rfl ?_
  refine j_dup 32 C dX8_addPart_31 rfl rfl ?_
  refine Ltg_t9 35 C dX8_addPart_32 rfl fl8_40 ?_
  refine j_top (x' := nI np) h9 ?_
  refine j_iconst 36 C dX8_addPart_35 rfl (v := nI 1) (by decide) ?_
  refine j_iaddN 37 C dX8_addPart_36 rfl ?_
  refine Ltp_t9 40 C dX8_addPart_37 rfl fl8_40 ?_
  refine j_aload_n 41 C dX8_addPart_40 rfl rfl ?_
  refine Ltg_t6 44 C dX8_addPart_41 rfl fl8_21 ?_
  refine j_iload_n 45 C dX8_addPart_44 rfl rfl ?_
  refine j_aload_n 46 C dX8_addPart_45 rfl rfl ?_
  refine Ltg_t9 49 C dX8_addPart_46 rfl fl8_40 ?_
  refine j_top (x' := nI (np + 1)) rfl ?_
  refine Lts_t6 50 C dX8_addPart_49 rfl _ (by omega) rfl ?_
  exact j_vret C dX8_addPart_50 ⟨rfl, rfl⟩
theorem K8_clear  : Con l G yX8_clear cX8_clear 2 none 1 0 0 [.ref (zt 50)] (tBk zt G.2.1 St) (qV (fun s : MS => (tBk zt G.2.1 s)) TCl) := by
  refine Con.mk (own := RX8) (by decide) rfl (Nat.le_of_ble_eq_true rfl) (fun X C => ?_)
  have lp42 : ∀ (m : Nat) (i : Nat) (s : MS), 12 - i = m → i ≤ 12 → (s.1 0 = nI 0 ∧ s.1 1 = nI 0 ∧ s.1 2 = nI 0 ∧ s.1 9 = nI 0) → (∀ j, j < 4 → s.2.1 4 j = nI 0) → (∀ j, j < i → s.2.1 5 j = nI 0) → (∀ j, j < i → s.2.1 6 j = nI 0) → J X 2 0 0 (tBk zt G.2.1 s) 42 [(0, .ref (zt 50)), (1, .int (nI i))] [] := by
    intro m
    induction m using Nat.strongRecOn with
    | ind m ilp42 =>
    intro i s hm hi h0 h1 h2 h3
    refine j_iload_n 43 C dX8_clear_42 rfl rfl ?_
    refine j_bipush 45 C dX8_clear_43 rfl (v := nI 12) (by decide) ?_
    refine j_icmp_geN 68 48 C dX8_clear_45 (by decide) rfl (by omega) (by omega) (fun c45 => ?_) (fun c45 => ?_)
    · exact j_vret C dX8_clear_68 (by refine ⟨_, ?_, rfl, rfl⟩; exact ⟨h0, h1, fun j hj => h2 j (by omega), fun j hj => h3 j (by omega)⟩)
    · refine j_aload_n 49 C dX8_clear_48 rfl rfl ?_
      refine Ltg_t5 52 C dX8_clear_49 rfl fl8_18 ?_
      refine j_iload_n 53 C dX8_clear_52 rfl rfl ?_
      refine j_iconst 54 C dX8_clear_53 rfl (v := nI 0) (by decide) ?_
      refine Lts_t5 55 C dX8_clear_54 rfl _ (by omega) rfl ?_
      refine j_aload_n 56 C dX8_clear_55 rfl rfl ?_
      refine Ltg_t6 59 C dX8_clear_56 rfl fl8_21 ?_
      refine j_iload_n 60 C dX8_clear_59 rfl rfl ?_
      refine j_iconst 61 C dX8_clear_60 rfl (v := nI 0) (by decide) ?_
      refine Lts_t6 62 C dX8_clear_61 rfl _ (by omega) rfl ?_
      refine j_iincN 65 (z := 1) C dX8_clear_62 rfl rfl rfl (by decide) ?_
      refine j_goto 42 C dX8_clear_65 (by decide) ?_
      exact j_weak _ (by exact ⟨rfl, rfl, trivial⟩) (ilp42 _ (by omega) (i + 1) _ rfl (by omega) h0 h1 (by show ∀ j, j < i + 1 → (aS s 5 i (nI 0)).2.1 5 j = nI 0; rw [aS_at]; exact uz h2) (by rw [aS_at]; exact uz h3))
  have lp22 : ∀ (m : Nat) (i : Nat) (s : MS), 4 - i = m → i ≤ 4 → (s.1 0 = nI 0 ∧ s.1 1 = nI 0 ∧ s.1 2 = nI 0 ∧ s.1 9 = nI 0) → (∀ j, j < i → s.2.1 4 j = nI 0) → J X 2 0 0 (tBk zt G.2.1 s) 22 [(0, .ref (zt 50)), (1, .int (nI i))] [] := by
    intro m
    induction m using Nat.strongRecOn with
    | ind m ilp22 =>
    intro i s hm hi h0 h1
    refine j_iload_n 23 C dX8_clear_22 rfl rfl ?_
    refine j_iconst 24 C dX8_clear_23 rfl (v := nI 4) (by decide) ?_
    refine j_icmp_geN 40 27 C dX8_clear_24 (by decide) rfl (by omega) (by omega) (fun c24 => ?_) (fun c24 => ?_)
    · refine j_iconst 41 C dX8_clear_40 rfl (v := nI 0) (by decide) ?_
      refine j_istore_n 42 C dX8_clear_41 rfl rfl (by decide) ?_
      exact j_weak _ (by exact ⟨rfl, rfl, trivial⟩) (lp42 _ 0 _ rfl (Nat.zero_le _) h0 (fun j hj => h1 j (by omega)) (fun j hj => absurd hj (Nat.not_lt_zero _)) (fun j hj => absurd hj (Nat.not_lt_zero _)))
    · refine j_aload_n 28 C dX8_clear_27 rfl rfl ?_
      refine Ltg_t4 31 C dX8_clear_28 rfl fl8_15 ?_
      refine j_iload_n 32 C dX8_clear_31 rfl rfl ?_
      refine j_iconst 33 C dX8_clear_32 rfl (v := nI 0) (by decide) ?_
      refine Lts_t4 34 C dX8_clear_33 rfl _ (by omega) rfl ?_
      refine j_iincN 37 (z := 1) C dX8_clear_34 rfl rfl rfl (by decide) ?_
      refine j_goto 22 C dX8_clear_37 (by decide) ?_
      exact j_weak _ (by exact ⟨rfl, rfl, trivial⟩) (ilp22 _ (by omega) (i + 1) _ rfl (by omega) h0 (by rw [aS_at]; exact uz h1))
  refine j_aload_n 1 C dX8_clear_0 rfl rfl ?_
  refine j_iconst 2 C dX8_clear_1 rfl (v := nI 0) (by decide) ?_
  refine Ltp_t0 5 C dX8_clear_2 rfl fl8_30 ?_
  refine j_aload_n 6 C dX8_clear_5 rfl rfl ?_
  refine j_iconst 7 C dX8_clear_6 rfl (v := nI 0) (by decide) ?_
  refine Ltp_t1 10 C dX8_clear_7 rfl fl8_34 ?_
  refine j_aload_n 11 C dX8_clear_10 rfl rfl ?_
  refine j_iconst 12 C dX8_clear_11 rfl (v := nI 0) (by decide) ?_
  refine Ltp_t2 15 C dX8_clear_12 rfl fl8_37 ?_
  refine j_aload_n 16 C dX8_clear_15 rfl rfl ?_
  refine j_iconst 17 C dX8_clear_16 rfl (v := nI 0) (by decide) ?_
  refine Ltp_t9 20 C dX8_clear_17 rfl fl8_40 ?_
  refine j_iconst 21 C dX8_clear_20 rfl (v := nI 0) (by decide) ?_
  refine j_istore_n 22 C dX8_clear_21 rfl rfl (by decide) ?_
  exact j_weak _ (by exact ⟨rfl, rfl, trivial⟩) (lp22 _ 0 _ rfl (Nat.zero_le _) ⟨rfl, rfl, rfl, rfl⟩ (fun j hj => absurd hj (Nat.not_lt_zero _)))
theorem K8_copyFrom (h9 : So.1 9 = nI np) (hnp : np ≤ 180) : Con l G yX8_copyFrom cX8_copyFrom 2 none 2 0 0 [.ref (zt 50), .ref (zo 50)] (tBk zt G.2.1 St ++ (tBk zo G.2.1 So)) (qV (fun s : MS => (tBk zt G.2.1 s ++ (tBk zo G.2.1 So))) (fun S' => TCp S' So np)) := by
  refine Con.mk (own := RX8) (by decide) rfl (Nat.le_of_ble_eq_true rfl) (fun X C => ?_)
  refine j_aload_n 1 C dX8_copyFrom_0 rfl rfl ?_
  refine j_aload_n 2 C dX8_copyFrom_1 rfl rfl ?_
  refine Lttg_o0 5 C dX8_copyFrom_2 rfl fl8_30 ?_
  refine Lttp_t0 8 C dX8_copyFrom_5 rfl fl8_30 ?_
  refine j_aload_n 9 C dX8_copyFrom_8 rfl rfl ?_
  refine j_aload_n 10 C dX8_copyFrom_9 rfl rfl ?_
  refine Lttg_o1 13 C dX8_copyFrom_10 rfl fl8_34 ?_
  refine Lttp_t1 16 C dX8_copyFrom_13 rfl fl8_34 ?_
  refine j_aload_n 17 C dX8_copyFrom_16 rfl rfl ?_
  refine j_aload_n 18 C dX8_copyFrom_17 rfl rfl ?_
  refine Lttg_o2 21 C dX8_copyFrom_18 rfl fl8_37 ?_
  refine Lttp_t2 24 C dX8_copyFrom_21 rfl fl8_37 ?_
  refine j_aload_n 25 C dX8_copyFrom_24 rfl rfl ?_
  refine j_aload_n 26 C dX8_copyFrom_25 rfl rfl ?_
  refine Lttg_o9 29 C dX8_copyFrom_26 rfl fl8_40 ?_
  refine Lttp_t9 32 C dX8_copyFrom_29 rfl fl8_40 ?_
  refine j_aload_n 33 C dX8_copyFrom_32 rfl rfl ?_
  refine Lttg_o3 36 C dX8_copyFrom_33 rfl fl8_9 ?_
  refine j_iconst 37 C dX8_copyFrom_36 rfl (v := nI 0) (by decide) ?_
  refine j_aload_n 38 C dX8_copyFrom_37 rfl rfl ?_
  refine Lttg_t3 41 C dX8_copyFrom_38 rfl fl8_9 ?_
  refine j_iconst 42 C dX8_copyFrom_41 rfl (v := nI 0) (by decide) ?_
  refine j_bipush 44 C dX8_copyFrom_42 rfl (v := nI 24) (by decide) ?_
  refine Ltty_o3_t3 47 C dX8_copyFrom_44 rfl ac8_43 _ _ _ rfl rfl rfl (by omega) (by omega) (by decide) (Nat.le_of_ble_eq_true rfl) ?_
  refine j_aload_n 48 C dX8_copyFrom_47 rfl rfl ?_
  refine Lttg_o4 51 C dX8_copyFrom_48 rfl fl8_15 ?_
  refine j_iconst 52 C dX8_copyFrom_51 rfl (v := nI 0) (by decide) ?_
  refine j_aload_n 53 C dX8_copyFrom_52 rfl rfl ?_
  refine Lttg_t4 56 C dX8_copyFrom_53 rfl fl8_15 ?_
  refine j_iconst 57 C dX8_copyFrom_56 rfl (v := nI 0) (by decide) ?_
  refine j_iconst 58 C dX8_copyFrom_57 rfl (v := nI 4) (by decide) ?_
  refine Ltty_o4_t4 61 C dX8_copyFrom_58 rfl ac8_43 _ _ _ rfl rfl rfl (by omega) (by omega) (by decide) (Nat.le_of_ble_eq_true rfl) ?_
  refine j_aload_n 62 C dX8_copyFrom_61 rfl rfl ?_
  refine Lttg_o5 65 C dX8_copyFrom_62 rfl fl8_18 ?_
  refine j_iconst 66 C dX8_copyFrom_65 rfl (v := nI 0) (by decide) ?_
  refine j_aload_n 67 C dX8_copyFrom_66 rfl rfl ?_
  refine Lttg_t5 70 C dX8_copyFrom_67 rfl fl8_18 ?_
  refine j_iconst 71 C dX8_copyFrom_70 rfl (v := nI 0) (by decide) ?_
  refine j_bipush 73 C dX8_copyFrom_71 rfl (v := nI 12) (by decide) ?_
  refine Ltty_o5_t5 76 C dX8_copyFrom_73 rfl ac8_43 _ _ _ rfl rfl rfl (by omega) (by omega) (by decide) (Nat.le_of_ble_eq_true rfl) ?_
  refine j_aload_n 77 C dX8_copyFrom_76 rfl rfl ?_
  refine Lttg_o6 80 C dX8_copyFrom_77 rfl fl8_21 ?_
  refine j_iconst 81 C dX8_copyFrom_80 rfl (v := nI 0) (by decide) ?_
  refine j_aload_n 82 C dX8_copyFrom_81 rfl rfl ?_
  refine Lttg_t6 85 C dX8_copyFrom_82 rfl fl8_21 ?_
  refine j_iconst 86 C dX8_copyFrom_85 rfl (v := nI 0) (by decide) ?_
  refine j_bipush 88 C dX8_copyFrom_86 rfl (v := nI 12) (by decide) ?_
  refine Ltty_o6_t6 91 C dX8_copyFrom_88 rfl ac8_43 _ _ _ rfl rfl rfl (by omega) (by omega) (by decide) (Nat.le_of_ble_eq_true rfl) ?_
  refine j_aload_n 92 C dX8_copyFrom_91 rfl rfl ?_
  refine Lttg_o7 95 C dX8_copyFrom_92 rfl fl8_24 ?_
  refine j_iconst 96 C dX8_copyFrom_95 rfl (v := nI 0) (by decide) ?_
  refine j_aload_n 97 C dX8_copyFrom_96 rfl rfl ?_
  refine Lttg_t7 100 C dX8_copyFrom_97 rfl fl8_24 ?_
  refine j_iconst 101 C dX8_copyFrom_100 rfl (v := nI 0) (by decide) ?_
  refine j_aload_n 102 C dX8_copyFrom_101 rfl rfl ?_
  refine Lttg_t9 105 C dX8_copyFrom_102 rfl fl8_40 ?_
  refine j_top (x' := nI np) h9 ?_
  refine Ltty_o7_t7 108 C dX8_copyFrom_105 rfl ac8_43 _ _ _ rfl rfl rfl (by omega) (by omega) (by decide) (Nat.le_of_ble_eq_true rfl) ?_
  refine j_aload_n 109 C dX8_copyFrom_108 rfl rfl ?_
  refine Lttg_o8 112 C dX8_copyFrom_109 rfl fl8_27 ?_
  refine j_iconst 113 C dX8_copyFrom_112 rfl (v := nI 0) (by decide) ?_
  refine j_aload_n 114 C dX8_copyFrom_113 rfl rfl ?_
  refine Lttg_t8 117 C dX8_copyFrom_114 rfl fl8_27 ?_
  refine j_iconst 118 C dX8_copyFrom_117 rfl (v := nI 0) (by decide) ?_
  refine j_aload_n 119 C dX8_copyFrom_118 rfl rfl ?_
  refine Lttg_t9 122 C dX8_copyFrom_119 rfl fl8_40 ?_
  refine j_top (x' := nI np) h9 ?_
  refine Ltty_o8_t8 125 C dX8_copyFrom_122 rfl ac8_43 _ _ _ rfl rfl rfl (by omega) (by omega) (by decide) (Nat.le_of_ble_eq_true rfl) ?_
  exact j_vret C dX8_copyFrom_125 (by refine ⟨_, ?_, rfl, rfl⟩; exact ⟨⟨rfl, rfl, rfl, rfl⟩, fun j hj => cp0 _ _ _ hj, fun j hj => cp0 _ _ _ hj, fun j hj => cp0 _ _ _ hj, fun j hj => cp0 _ _ _ hj, fun j hj => cp0 _ _ _ hj, fun j hj => cp0 _ _ _ hj⟩)
theorem K5_has (h0 : Sr.1 0 = nI nr) (hnr : nr ≤ 12) : Con l G yX5_has cX5_has 2 (some .boolean) 1 0 0 [.ref (zr 50), .int x] (rBk zr G.2.1 Sr) (pI (bI (isI x nr)) (rBk zr G.2.1 Sr)) := by
  refine Con.mk (own := RX5) (by decide) rfl (Nat.le_of_ble_eq_true rfl) (fun X C => ?_)
  refine j_iload_n 1 C dX5_has_0 rfl rfl ?_
  refine j_if_lt 16 4 C dX5_has_1 (by decide) rfl (fun c1 => ?_) (fun c1 => ?_)
  · refine j_iconst 17 C dX5_has_16 rfl (v := nI 0) (by decide) ?_
    exact j_zret C dX5_has_17 rfl ⟨by rw [bI_f (fun z => ((isI_iff (by omega)).mp z).1 c1)]; rfl, rfl⟩
  · refine j_iload_n 5 C dX5_has_4 rfl rfl ?_
    refine j_aload_n 6 C dX5_has_5 rfl rfl ?_
    refine Lrg_r0 9 C dX5_has_6 rfl fl5_21 ?_
    refine j_top h0 ?_
    refine j_icmp_ge 16 12 C dX5_has_9 (by decide) rfl (fun c9 => ?_) (fun c9 => ?_)
    · refine j_iconst 17 C dX5_has_16 rfl (v := nI 0) (by decide) ?_
      exact j_zret C dX5_has_17 rfl ⟨by rw [bI_f (fun z => ((isI_iff (by omega)).mp z).2 c9)]; rfl, rfl⟩
    · refine j_iconst 13 C dX5_has_12 rfl (v := nI 1) (by decide) ?_
      refine j_goto 17 C dX5_has_13 (by decide) ?_
      exact j_zret C dX5_has_17 rfl ⟨by rw [bI_t ((isI_iff (by omega)).mpr ⟨c1, c9⟩)]; rfl, rfl⟩
theorem K5_hasPlace {ln : Nat → Nat} (h0 : Sr.1 0 = nI nr) (hnr : nr ≤ 12) (hsz : ∀ r, r < nr → Sr.2.1 2 r = nI (ln r) ∧ ln r ≤ 12) : Con l G yX5_hasPlace cX5_hasPlace 3 (some .boolean) 2 0 0 [.ref (zr 50), .int x, .int y] (rBk zr G.2.1 Sr) (pI (bI (isI x nr ∧ isI y (ln (tn x)))) (rBk zr G.2.1 Sr)) := by
  refine Con.mk (own := RX5) (by decide) rfl (Nat.le_of_ble_eq_true rfl) (fun X C => ?_)
  refine j_aload_n 1 C dX5_hasPlace_0 rfl rfl ?_
  refine j_iload_n 2 C dX5_hasPlace_1 rfl rfl ?_
  refine Lrx_rI 5 C dX5_hasPlace_2 rfl cw5_34 rfl (K5_has h0 hnr) rfl (by decide) ⟨Nat.le_refl _, Nat.le_refl _⟩ rfl (Nat.le_of_ble_eq_true rfl) ?_
  refine j_if_eqB 26 8 C dX5_hasPlace_5 (by decide) rfl (fun c5 => ?_) (fun c5 => ?_)
  · refine j_iconst 27 C dX5_hasPlace_26 rfl (v := nI 0) (by decide) ?_
    exact j_zret C dX5_hasPlace_27 rfl ⟨by rw [bI_f (fun z => c5 z.1)]; rfl, rfl⟩
  · obtain ⟨r, hr, rfl⟩ := isI_of c5
    have hn := hsz r hr
    refine j_iload_n 9 C dX5_hasPlace_8 rfl rfl ?_
    refine j_if_lt 26 12 C dX5_hasPlace_9 (by decide) rfl (fun c9 => ?_) (fun c9 => ?_)
    · refine j_iconst 27 C dX5_hasPlace_26 rfl (v := nI 0) (by decide) ?_
      exact j_zret C dX5_hasPlace_27 rfl ⟨by rw [tn_nI (by omega), bI_f (fun z => ((isI_iff (by omega)).mp z.2).1 c9)]; rfl, rfl⟩
    · refine j_iload_n 13 C dX5_hasPlace_12 rfl rfl ?_
      refine j_aload_n 14 C dX5_hasPlace_13 rfl rfl ?_
      refine Lrg_r2 17 C dX5_hasPlace_14 rfl fl5_9 ?_
      refine j_iload_n 18 C dX5_hasPlace_17 rfl rfl ?_
      refine Lra_r2 19 C dX5_hasPlace_18 rfl _ (by omega) rfl ?_
      refine j_top hn.1 ?_
      refine j_icmp_ge 26 22 C dX5_hasPlace_19 (by decide) rfl (fun c19 => ?_) (fun c19 => ?_)
      · refine j_iconst 27 C dX5_hasPlace_26 rfl (v := nI 0) (by decide) ?_
        exact j_zret C dX5_hasPlace_27 rfl ⟨by rw [tn_nI (by omega), bI_f (fun z => ((isI_iff (by omega)).mp z.2).2 c19)]; rfl, rfl⟩
      · refine j_iconst 23 C dX5_hasPlace_22 rfl (v := nI 1) (by decide) ?_
        refine j_goto 27 C dX5_hasPlace_23 (by decide) ?_
        exact j_zret C dX5_hasPlace_27 rfl ⟨by rw [tn_nI (by omega), bI_t ⟨c5, (isI_iff (by omega)).mpr ⟨c9, c19⟩⟩]; rfl, rfl⟩
theorem K5_isFull (h0 : Sr.1 0 = nI nr) (hnr : nr ≤ 12) : Con l G yX5_isFull cX5_isFull 1 (some .boolean) 1 0 0 [.ref (zr 50)] (rBk zr G.2.1 Sr) (pI (bI (12 ≤ nr)) (rBk zr G.2.1 Sr)) := by
  refine Con.mk (own := RX5) (by decide) rfl (Nat.le_of_ble_eq_true rfl) (fun X C => ?_)
  refine j_aload_n 1 C dX5_isFull_0 rfl rfl ?_
  refine Lrg_r0 4 C dX5_isFull_1 rfl fl5_21 ?_
  refine j_top h0 ?_
  refine j_bipush 6 C dX5_isFull_4 rfl (v := nI 12) (by decide) ?_
  refine j_bool_icmp_ltN 14 C dX5_isFull_6 rfl dX5_isFull_9 dX5_isFull_10 dX5_isFull_13 rfl (by omega) (by omega) ?_
  exact j_zret C dX5_isFull_14 (bI_nar _) ⟨rfl, rfl⟩
theorem K5_grown  : Con l G yX5_grown cX5_grown 1 (some .boolean) 1 0 0 [.ref (zr 50)] (rBk zr G.2.1 Sr) (pI (bI (¬ Sr.1 0 = Sr.1 1)) (rBk zr G.2.1 Sr)) := by
  refine Con.mk (own := RX5) (by decide) rfl (Nat.le_of_ble_eq_true rfl) (fun X C => ?_)
  refine j_aload_n 1 C dX5_grown_0 rfl rfl ?_
  refine Lrg_r0 4 C dX5_grown_1 rfl fl5_21 ?_
  refine j_aload_n 5 C dX5_grown_4 rfl rfl ?_
  refine Lrg_r1 8 C dX5_grown_5 rfl fl5_25 ?_
  refine j_bool_icmp_eq 16 C dX5_grown_8 rfl dX5_grown_11 dX5_grown_12 dX5_grown_15 rfl ?_
  exact j_zret C dX5_grown_16 (bI_nar _) ⟨rfl, rfl⟩
theorem K5_thingAt {i : Nat} (hi : 12 * r + i < 144) : Con l G yX5_thingAt cX5_thingAt 3 (some .int) 1 0 0 [.ref (zr 50), .int (nI r), .int (nI i)] (rBk zr G.2.1 Sr) (pI (Sr.2.1 4 (12 * r + i)) (rBk zr G.2.1 Sr)) := by
  refine Con.mk (own := RX5) (by decide) rfl (Nat.le_of_ble_eq_true rfl) (fun X C => ?_)
  refine j_aload_n 1 C dX5_thingAt_0 rfl rfl ?_
  refine Lrg_r4 4 C dX5_thingAt_1 rfl fl5_18 ?_
  refine j_iload_n 5 C dX5_thingAt_4 rfl rfl ?_
  refine j_bipush 7 C dX5_thingAt_5 rfl (v := nI 12) (by decide) ?_
  refine j_imulN 8 C dX5_thingAt_7 rfl ?_
  refine j_iload_n 9 C dX5_thingAt_8 rfl rfl ?_
  refine j_iaddN 10 C dX5_thingAt_9 rfl ?_
  refine Lra_r4 11 C dX5_thingAt_10 rfl _ (by omega) rfl ?_
  exact j_iret C dX5_thingAt_11 ⟨by rw [Nat.mul_comm], rfl⟩
theorem K5_placeOf (hr : r < 12) (hsz : Sr.2.1 2 r = nI n) (hn : n ≤ 12) : Con l G yX5_placeOf cX5_placeOf 4 (some .int) 2 0 0 [.ref (zr 50), .int (nI r), .int x] (rBk zr G.2.1 Sr) (pI (plc (fun i => Sr.2.1 4 (12 * r + i)) x n 0) (rBk zr G.2.1 Sr)) := by
  refine Con.mk (own := RX5) (by decide) rfl (Nat.le_of_ble_eq_true rfl) (fun X C => ?_)
  have lp2 : ∀ (m : Nat) (i : Nat), n - i = m → i ≤ n → plc (fun i => Sr.2.1 4 (12 * r + i)) x m i = plc (fun i => Sr.2.1 4 (12 * r + i)) x n 0 → J X 4 0 0 (rBk zr G.2.1 Sr) 2 [(0, .ref (zr 50)), (1, .int (nI r)), (2, .int x), (3, .int (nI i))] [] := by
    intro m
    induction m using Nat.strongRecOn with
    | ind m ilp2 =>
    intro i hm hi hR
    refine j_iload_n 3 C dX5_placeOf_2 rfl rfl ?_
    refine j_aload_n 4 C dX5_placeOf_3 rfl rfl ?_
    refine Lrg_r2 7 C dX5_placeOf_4 rfl fl5_9 ?_
    refine j_iload_n 8 C dX5_placeOf_7 rfl rfl ?_
    refine Lra_r2 9 C dX5_placeOf_8 rfl _ (by omega) rfl ?_
    refine j_top hsz ?_
    refine j_icmp_geN 30 12 C dX5_placeOf_9 (by decide) rfl (by omega) (by omega) (fun c9 => ?_) (fun c9 => ?_)
    · refine j_iconst 31 C dX5_placeOf_30 rfl (v := (-1)) (by decide) ?_
      exact j_iret C dX5_placeOf_31 ⟨by rw [show m = 0 by omega, plc] at hR; rw [hR], rfl⟩
    · obtain ⟨m5, hm5⟩ : ∃ m5, m = m5 + 1 := ⟨m - 1, by omega⟩
      rw [hm5, plc] at hR
      refine j_aload_n 13 C dX5_placeOf_12 rfl rfl ?_
      refine j_iload_n 14 C dX5_placeOf_13 rfl rfl ?_
      refine j_iload_n 15 C dX5_placeOf_14 rfl rfl ?_
      refine Lrx_rI 18 C dX5_placeOf_15 rfl cw5_38 rfl (K5_thingAt (by omega)) rfl (by decide) ⟨Nat.le_refl _, Nat.le_refl _⟩ rfl (Nat.le_of_ble_eq_true rfl) ?_
      refine j_iload_n 19 C dX5_placeOf_18 rfl rfl ?_
      refine j_icmp_ne 24 22 C dX5_placeOf_19 (by decide) rfl (fun c19 => ?_) (fun c19 => ?_)
      · refine j_iincN 27 (z := 1) C dX5_placeOf_24 rfl rfl rfl (by decide) ?_
        refine j_goto 2 C dX5_placeOf_27 (by decide) ?_
        exact j_weak _ (by exact ⟨rfl, rfl, rfl, rfl, trivial⟩) (ilp2 m5 (by omega) (i + 1) (show n - (i + 1) = m5 by omega) (by omega) (by rw [if_neg c19] at hR; exact hR))
      · refine j_iload_n 23 C dX5_placeOf_22 rfl rfl ?_
        exact j_iret C dX5_placeOf_23 ⟨by rw [if_pos c19] at hR; rw [hR], rfl⟩
  refine j_iconst 1 C dX5_placeOf_0 rfl (v := nI 0) (by decide) ?_
  refine j_istore_n 2 C dX5_placeOf_1 rfl rfl (by decide) ?_
  exact j_weak _ (by exact ⟨rfl, rfl, rfl, rfl, trivial⟩) (lp2 _ 0 rfl (Nat.zero_le _) rfl)
theorem K5_begin (h0 : Sr.1 0 = nI nr) (hnr : nr < 12) : Con l G yX5_begin cX5_begin 1 none 2 0 0 [.ref (zr 50)] (rBk zr G.2.1 Sr) (pV (rBk zr G.2.1 (aS (aS Sr 2 nr (nI 0)) 3 nr (nI 0)))) := by
  refine Con.mk (own := RX5) (by decide) rfl (Nat.le_of_ble_eq_true rfl) (fun X C => ?_)
  refine j_aload_n 1 C dX5_begin_0 rfl rfl ?_
  refine Lrx_rI 4 C dX5_begin_1 rfl cw5_42 rfl (K5_isFull h0 (by omega)) rfl (by decide) ⟨Nat.le_refl _, Nat.le_refl _⟩ rfl (Nat.le_of_ble_eq_true rfl) ?_
  refine j_if_neB 27 7 C dX5_begin_4 (by decide) rfl (fun c4 => absurd c4 (by omega)) (fun c4 => ?_)
  refine j_aload_n 8 C dX5_begin_7 rfl rfl ?_
  refine Lrg_r2 11 C dX5_begin_8 rfl fl5_9 ?_
  refine j_aload_n 12 C dX5_begin_11 rfl rfl ?_
  refine Lrg_r0 15 C dX5_begin_12 rfl fl5_21 ?_
  refine j_top (x' := nI nr) h0 ?_
  refine j_iconst 16 C dX5_begin_15 rfl (v := nI 0) (by decide) ?_
  refine Lrs_r2 17 C dX5_begin_16 rfl _ (by omega) rfl ?_
  refine j_aload_n 18 C dX5_begin_17 rfl rfl ?_
  refine Lrg_r3 21 C dX5_begin_18 rfl fl5_15 ?_
  refine j_aload_n 22 C dX5_begin_21 rfl rfl ?_
  refine Lrg_r0 25 C dX5_begin_22 rfl fl5_21 ?_
  refine j_top (x' := nI nr) h0 ?_
  refine j_iconst 26 C dX5_begin_25 rfl (v := nI 0) (by decide) ?_
  refine Lrs_r3 27 C dX5_begin_26 rfl _ (by omega) rfl ?_
  exact j_vret C dX5_begin_27 ⟨rfl, rfl⟩
theorem K5_add (h0 : Sr.1 0 = nI nr) (hnr : nr < 12) (hsz : Sr.2.1 2 nr = nI n) (hn : n ≤ 12) : Con l G yX5_add cX5_add 2 (some .boolean) 2 0 0 [.ref (zr 50), .int x] (rBk zr G.2.1 Sr) (pI (bI (n < 12)) (rBk zr G.2.1 (if n < 12 then aS (aS Sr 4 (12 * nr + n) x) 2 nr (nI (n + 1)) else Sr))) := by
  refine Con.mk (own := RX5) (by decide) rfl (Nat.le_of_ble_eq_true rfl) (fun X C => ?_)
  refine j_aload_n 1 C dX5_add_0 rfl rfl ?_
  refine Lrx_rI 4 C dX5_add_1 rfl cw5_42 rfl (K5_isFull h0 (by omega)) rfl (by decide) ⟨Nat.le_refl _, Nat.le_refl _⟩ rfl (Nat.le_of_ble_eq_true rfl) ?_
  refine j_if_neB 21 7 C dX5_add_4 (by decide) rfl (fun c4 => absurd c4 (by omega)) (fun c4 => ?_)
  refine j_aload_n 8 C dX5_add_7 rfl rfl ?_
  refine Lrg_r2 11 C dX5_add_8 rfl fl5_9 ?_
  refine j_aload_n 12 C dX5_add_11 rfl rfl ?_
  refine Lrg_r0 15 C dX5_add_12 rfl fl5_21 ?_
  refine j_top (x' := nI nr) h0 ?_
  refine Lra_r2 16 C dX5_add_15 rfl _ (by omega) rfl ?_
  refine j_top (x' := nI n) hsz ?_
  refine j_bipush 18 C dX5_add_16 rfl (v := nI 12) (by decide) ?_
  refine j_icmp_ltN 23 21 C dX5_add_18 (by decide) rfl (by omega) (by omega) (fun c18 => ?_) (fun c18 => ?_)
  · refine j_aload_n 24 C dX5_add_23 rfl rfl ?_
    refine Lrg_r4 27 C dX5_add_24 rfl fl5_18 ?_
    refine j_aload_n 28 C dX5_add_27 rfl rfl ?_
    refine Lrg_r0 31 C dX5_add_28 rfl fl5_21 ?_
    refine j_top (x' := nI nr) h0 ?_
    refine j_bipush 33 C dX5_add_31 rfl (v := nI 12) (by decide) ?_
    refine j_imulN 34 C dX5_add_33 rfl ?_
    refine j_aload_n 35 C dX5_add_34 rfl rfl ?_
    refine Lrg_r2 38 C dX5_add_35 rfl fl5_9 ?_
    refine j_aload_n 39 C dX5_add_38 rfl rfl ?_
    refine Lrg_r0 42 C dX5_add_39 rfl fl5_21 ?_
    refine j_top (x' := nI nr) h0 ?_
    refine Lra_r2 43 C dX5_add_42 rfl _ (by omega) rfl ?_
    refine j_top (x' := nI n) hsz ?_
    refine j_iaddN 44 C dX5_add_43 rfl ?_
    refine j_iload_n 45 C dX5_add_44 rfl rfl ?_
    refine Lrs_r4 46 C dX5_add_45 rfl _ (by omega) rfl ?_
    refine j_aload_n 47 C dX5_add_46 rfl rfl ?_
    refine Lrg_r2 50 C dX5_add_47 rfl fl5_9 ?_
    refine j_aload_n 51 C dX5_add_50 rfl rfl ?_
    refine Lrg_r0 54 C dX5_add_51 rfl fl5_21 ?_
    refine j_top (x' := nI nr) h0 ?_
    refine j_dup2 55 C dX5_add_54 rfl rfl rfl ?_
    refine Lra_r2 56 C dX5_add_55 rfl _ (by omega) rfl ?_
    refine j_top (x' := nI n) hsz ?_
    refine j_iconst 57 C dX5_add_56 rfl (v := nI 1) (by decide) ?_
    refine j_iaddN 58 C dX5_add_57 rfl ?_
    refine Lrs_r2 59 C dX5_add_58 rfl _ (by omega) rfl ?_
    refine j_iconst 60 C dX5_add_59 rfl (v := nI 1) (by decide) ?_
    exact j_zret C dX5_add_60 rfl ⟨by rw [bI_t (by omega)]; rfl, by rw [if_pos (by omega), Nat.mul_comm]⟩
  · refine j_iconst 22 C dX5_add_21 rfl (v := nI 0) (by decide) ?_
    exact j_zret C dX5_add_22 rfl ⟨by rw [bI_f (by omega)]; rfl, by rw [if_neg (by omega)]⟩
theorem K5_close (h0 : Sr.1 0 = nI nr) (hnr : nr < 12) : Con l G yX5_close cX5_close 1 (some .int) 2 0 0 [.ref (zr 50)] (rBk zr G.2.1 Sr) (pI (nI nr) (rBk zr G.2.1 (sS Sr 0 (nI (nr + 1))))) := by
  refine Con.mk (own := RX5) (by decide) rfl (Nat.le_of_ble_eq_true rfl) (fun X C => ?_)
  refine j_aload_n 1 C dX5_close_0 rfl rfl ?_
  refine Lrx_rI 4 C dX5_close_1 rfl cw5_42 rfl (K5_isFull h0 (by omega)) rfl (by decide) ⟨Nat.le_refl _, Nat.le_refl _⟩ rfl (Nat.le_of_ble_eq_true rfl) ?_
  refine j_if_eqB 9 7 C dX5_close_4 (by decide) rfl (fun c4 => ?_) (fun c4 => absurd c4 (by omega))
  refine j_aload_n 10 C dX5_close_9 rfl rfl ?_
  refine j_dup 11 C dX5_close_10 rfl rfl ?_
  refine Lrg_r0 14 C dX5_close_11 rfl fl5_21 ?_
  refine j_top (x' := nI nr) h0 ?_
  refine j_iconst 15 C dX5_close_14 rfl (v := nI 1) (by decide) ?_
  refine j_iaddN 16 C dX5_close_15 rfl ?_
  refine Lrp_r0 19 C dX5_close_16 rfl fl5_21 ?_
  refine j_aload_n 20 C dX5_close_19 rfl rfl ?_
  refine Lrg_r0 23 C dX5_close_20 rfl fl5_21 ?_
  refine j_top (x' := nI (nr + 1)) rfl ?_
  refine j_iconst 24 C dX5_close_23 rfl (v := nI 1) (by decide) ?_
  refine j_isubN 25 C dX5_close_24 rfl (by omega) ?_
  exact j_iret C dX5_close_25 ⟨rfl, rfl⟩
theorem K5_clear  : Con l G yX5_clear cX5_clear 1 none 1 0 0 [.ref (zr 50)] (rBk zr G.2.1 Sr) (pV (rBk zr G.2.1 (sS (sS Sr 0 (nI 0)) 1 (nI 0)))) := by
  refine Con.mk (own := RX5) (by decide) rfl (Nat.le_of_ble_eq_true rfl) (fun X C => ?_)
  refine j_aload_n 1 C dX5_clear_0 rfl rfl ?_
  refine j_iconst 2 C dX5_clear_1 rfl (v := nI 0) (by decide) ?_
  refine Lrp_r0 5 C dX5_clear_2 rfl fl5_21 ?_
  refine j_aload_n 6 C dX5_clear_5 rfl rfl ?_
  refine j_iconst 7 C dX5_clear_6 rfl (v := nI 0) (by decide) ?_
  refine Lrp_r1 10 C dX5_clear_7 rfl fl5_25 ?_
  exact j_vret C dX5_clear_10 ⟨rfl, rfl⟩
theorem K5_copyFrom  : Con l G yX5_copyFrom cX5_copyFrom 2 none 2 0 0 [.ref (zr 50), .ref (zo 50)] (rBk zr G.2.1 Sr ++ (rBk zo G.2.1 So)) (qV (fun s : MS => (rBk zr G.2.1 s ++ (rBk zo G.2.1 So))) (fun S' => RCp S' So)) := by
  refine Con.mk (own := RX5) (by decide) rfl (Nat.le_of_ble_eq_true rfl) (fun X C => ?_)
  refine j_aload_n 1 C dX5_copyFrom_0 rfl rfl ?_
  refine j_aload_n 2 C dX5_copyFrom_1 rfl rfl ?_
  refine Lrrg_o0 5 C dX5_copyFrom_2 rfl fl5_21 ?_
  refine Lrrp_r0 8 C dX5_copyFrom_5 rfl fl5_21 ?_
  refine j_aload_n 9 C dX5_copyFrom_8 rfl rfl ?_
  refine j_aload_n 10 C dX5_copyFrom_9 rfl rfl ?_
  refine Lrrg_o1 13 C dX5_copyFrom_10 rfl fl5_25 ?_
  refine Lrrp_r1 16 C dX5_copyFrom_13 rfl fl5_25 ?_
  refine j_aload_n 17 C dX5_copyFrom_16 rfl rfl ?_
  refine Lrrg_o2 20 C dX5_copyFrom_17 rfl fl5_9 ?_
  refine j_iconst 21 C dX5_copyFrom_20 rfl (v := nI 0) (by decide) ?_
  refine j_aload_n 22 C dX5_copyFrom_21 rfl rfl ?_
  refine Lrrg_r2 25 C dX5_copyFrom_22 rfl fl5_9 ?_
  refine j_iconst 26 C dX5_copyFrom_25 rfl (v := nI 0) (by decide) ?_
  refine j_bipush 28 C dX5_copyFrom_26 rfl (v := nI 12) (by decide) ?_
  refine Lrry_o2_r2 31 C dX5_copyFrom_28 rfl ac5_28 _ _ _ rfl rfl rfl (by omega) (by omega) (by decide) (Nat.le_of_ble_eq_true rfl) ?_
  refine j_aload_n 32 C dX5_copyFrom_31 rfl rfl ?_
  refine Lrrg_o3 35 C dX5_copyFrom_32 rfl fl5_15 ?_
  refine j_iconst 36 C dX5_copyFrom_35 rfl (v := nI 0) (by decide) ?_
  refine j_aload_n 37 C dX5_copyFrom_36 rfl rfl ?_
  refine Lrrg_r3 40 C dX5_copyFrom_37 rfl fl5_15 ?_
  refine j_iconst 41 C dX5_copyFrom_40 rfl (v := nI 0) (by decide) ?_
  refine j_bipush 43 C dX5_copyFrom_41 rfl (v := nI 12) (by decide) ?_
  refine Lrry_o3_r3 46 C dX5_copyFrom_43 rfl ac5_28 _ _ _ rfl rfl rfl (by omega) (by omega) (by decide) (Nat.le_of_ble_eq_true rfl) ?_
  refine j_aload_n 47 C dX5_copyFrom_46 rfl rfl ?_
  refine Lrrg_o4 50 C dX5_copyFrom_47 rfl fl5_18 ?_
  refine j_iconst 51 C dX5_copyFrom_50 rfl (v := nI 0) (by decide) ?_
  refine j_aload_n 52 C dX5_copyFrom_51 rfl rfl ?_
  refine Lrrg_r4 55 C dX5_copyFrom_52 rfl fl5_18 ?_
  refine j_iconst 56 C dX5_copyFrom_55 rfl (v := nI 0) (by decide) ?_
  refine j_sipush 59 C dX5_copyFrom_56 rfl (v := nI 144) (by decide) ?_
  refine Lrry_o4_r4 62 C dX5_copyFrom_59 rfl ac5_28 _ _ _ rfl rfl rfl (by omega) (by omega) (by decide) (Nat.le_of_ble_eq_true rfl) ?_
  exact j_vret C dX5_copyFrom_62 (by refine ⟨_, ?_, rfl, rfl⟩; exact ⟨⟨rfl, rfl⟩, fun j hj => cp0 _ _ _ hj, fun j hj => cp0 _ _ _ hj, fun j hj => cp0 _ _ _ hj⟩)
end ST1
