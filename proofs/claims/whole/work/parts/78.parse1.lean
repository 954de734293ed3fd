section Ly_Lq
variable {X : JX} {l : Launch} {G : GG} {cc : ByteArray} {nL : Nat} {own : String} {rt : Option FieldType} {d mc ms : Nat} {post : Option Value → va_W → Prop} {k n pc : Nat} {lv : List (Nat × Value)} {st : List Value} {zp zk : Nat → Nat} {Sp Sk : MS} {rr tt : Nat}
theorem Lqg_p0 (q : Nat) {idx : Nat} (C : Cx X l G cc nL own rt d mc ms post) (hd : decode cc pc = .ok (.getfield idx, 3)) (hq : pc + 3 = q) (hlf : Cond.fieldLink own idx (TX4 0).1 (TX4 0).2.1 (TX4 0).2.2.1 ∈ gtbl) (kk : J X nL k n (pBk zp tt rr (zk 50) G.2.1 Sp ++ (kBk zk G.2.1 Sk)) q lv (.ref tt :: st)) : J X nL k n (pBk zp tt rr (zk 50) G.2.1 Sp ++ (kBk zk G.2.1 Sk)) pc lv (.ref (zp 50) :: st) := j_get q C hd hq 0 rfl rfl ingX4 0 (by decide) hlf rfl kk
theorem Lqg_p1 (q : Nat) {idx : Nat} (C : Cx X l G cc nL own rt d mc ms post) (hd : decode cc pc = .ok (.getfield idx, 3)) (hq : pc + 3 = q) (hlf : Cond.fieldLink own idx (TX4 1).1 (TX4 1).2.1 (TX4 1).2.2.1 ∈ gtbl) (kk : J X nL k n (pBk zp tt rr (zk 50) G.2.1 Sp ++ (kBk zk G.2.1 Sk)) q lv (.ref rr :: st)) : J X nL k n (pBk zp tt rr (zk 50) G.2.1 Sp ++ (kBk zk G.2.1 Sk)) pc lv (.ref (zp 50) :: st) := j_get q C hd hq 0 rfl rfl ingX4 1 (by decide) hlf rfl kk
theorem Lqg_p2 (q : Nat) {idx : Nat} (C : Cx X l G cc nL own rt d mc ms post) (hd : decode cc pc = .ok (.getfield idx, 3)) (hq : pc + 3 = q) (hlf : Cond.fieldLink own idx (TX4 2).1 (TX4 2).2.1 (TX4 2).2.2.1 ∈ gtbl) (kk : J X nL k n (pBk zp tt rr (zk 50) G.2.1 Sp ++ (kBk zk G.2.1 Sk)) q lv (.int (Sp.1 2) :: st)) : J X nL k n (pBk zp tt rr (zk 50) G.2.1 Sp ++ (kBk zk G.2.1 Sk)) pc lv (.ref (zp 50) :: st) := j_get q C hd hq 0 rfl rfl ingX4 2 (by decide) hlf rfl kk
theorem Lqp_p2 (q : Nat) {idx : Nat} {v : Int32} (C : Cx X l G cc nL own rt d mc ms post) (hd : decode cc pc = .ok (.putfield idx, 3)) (hq : pc + 3 = q) (hlf : Cond.fieldLink own idx (TX4 2).1 (TX4 2).2.1 (TX4 2).2.2.1 ∈ gtbl) (kk : J X nL k n (pBk zp tt rr (zk 50) G.2.1 (sS Sp 2 v) ++ (kBk zk G.2.1 Sk)) q lv st) : J X nL k n (pBk zp tt rr (zk 50) G.2.1 Sp ++ (kBk zk G.2.1 Sk)) pc lv (.int v :: .ref (zp 50) :: st) := j_put q tyX4 C hd hq 0 rfl rfl ingX4 tyX4_ok nmX4 2 (by decide) hlf rfl rfl rfl (by show 2 < 10; decide) rfl kk
theorem Lqg_p3 (q : Nat) {idx : Nat} (C : Cx X l G cc nL own rt d mc ms post) (hd : decode cc pc = .ok (.getfield idx, 3)) (hq : pc + 3 = q) (hlf : Cond.fieldLink own idx (TX4 3).1 (TX4 3).2.1 (TX4 3).2.2.1 ∈ gtbl) (kk : J X nL k n (pBk zp tt rr (zk 50) G.2.1 Sp ++ (kBk zk G.2.1 Sk)) q lv (.int (Sp.1 3) :: st)) : J X nL k n (pBk zp tt rr (zk 50) G.2.1 Sp ++ (kBk zk G.2.1 Sk)) pc lv (.ref (zp 50) :: st) := j_get q C hd hq 0 rfl rfl ingX4 3 (by decide) hlf rfl kk
theorem Lqp_p3 (q : Nat) {idx : Nat} {v : Int32} (C : Cx X l G cc nL own rt d mc ms post) (hd : decode cc pc = .ok (.putfield idx, 3)) (hq : pc + 3 = q) (hlf : Cond.fieldLink own idx (TX4 3).1 (TX4 3).2.1 (TX4 3).2.2.1 ∈ gtbl) (kk : J X nL k n (pBk zp tt rr (zk 50) G.2.1 (sS Sp 3 v) ++ (kBk zk G.2.1 Sk)) q lv st) : J X nL k n (pBk zp tt rr (zk 50) G.2.1 Sp ++ (kBk zk G.2.1 Sk)) pc lv (.int v :: .ref (zp 50) :: st) := j_put q tyX4 C hd hq 0 rfl rfl ingX4 tyX4_ok nmX4 3 (by decide) hlf rfl rfl rfl (by show 3 < 10; decide) rfl kk
theorem Lqg_p4 (q : Nat) {idx : Nat} (C : Cx X l G cc nL own rt d mc ms post) (hd : decode cc pc = .ok (.getfield idx, 3)) (hq : pc + 3 = q) (hlf : Cond.fieldLink own idx (TX4 4).1 (TX4 4).2.1 (TX4 4).2.2.1 ∈ gtbl) (kk : J X nL k n (pBk zp tt rr (zk 50) G.2.1 Sp ++ (kBk zk G.2.1 Sk)) q lv (.ref (zk 50) :: st)) : J X nL k n (pBk zp tt rr (zk 50) G.2.1 Sp ++ (kBk zk G.2.1 Sk)) pc lv (.ref (zp 50) :: st) := j_get q C hd hq 0 rfl rfl ingX4 4 (by decide) hlf rfl kk
theorem Lqg_p5 (q : Nat) {idx : Nat} (C : Cx X l G cc nL own rt d mc ms post) (hd : decode cc pc = .ok (.getfield idx, 3)) (hq : pc + 3 = q) (hlf : Cond.fieldLink own idx (TX4 5).1 (TX4 5).2.1 (TX4 5).2.2.1 ∈ gtbl) (kk : J X nL k n (pBk zp tt rr (zk 50) G.2.1 Sp ++ (kBk zk G.2.1 Sk)) q lv (.int (Sp.1 5) :: st)) : J X nL k n (pBk zp tt rr (zk 50) G.2.1 Sp ++ (kBk zk G.2.1 Sk)) pc lv (.ref (zp 50) :: st) := j_get q C hd hq 0 rfl rfl ingX4 5 (by decide) hlf rfl kk
theorem Lqp_p5 (q : Nat) {idx : Nat} {v : Int32} (C : Cx X l G cc nL own rt d mc ms post) (hd : decode cc pc = .ok (.putfield idx, 3)) (hq : pc + 3 = q) (hlf : Cond.fieldLink own idx (TX4 5).1 (TX4 5).2.1 (TX4 5).2.2.1 ∈ gtbl) (kk : J X nL k n (pBk zp tt rr (zk 50) G.2.1 (sS Sp 5 v) ++ (kBk zk G.2.1 Sk)) q lv st) : J X nL k n (pBk zp tt rr (zk 50) G.2.1 Sp ++ (kBk zk G.2.1 Sk)) pc lv (.int v :: .ref (zp 50) :: st) := j_put q tyX4 C hd hq 0 rfl rfl ingX4 tyX4_ok nmX4 5 (by decide) hlf rfl rfl rfl (by show 5 < 10; decide) rfl kk
theorem Lqg_p6 (q : Nat) {idx : Nat} (C : Cx X l G cc nL own rt d mc ms post) (hd : decode cc pc = .ok (.getfield idx, 3)) (hq : pc + 3 = q) (hlf : Cond.fieldLink own idx (TX4 6).1 (TX4 6).2.1 (TX4 6).2.2.1 ∈ gtbl) (kk : J X nL k n (pBk zp tt rr (zk 50) G.2.1 Sp ++ (kBk zk G.2.1 Sk)) q lv (.int (Sp.1 6) :: st)) : J X nL k n (pBk zp tt rr (zk 50) G.2.1 Sp ++ (kBk zk G.2.1 Sk)) pc lv (.ref (zp 50) :: st) := j_get q C hd hq 0 rfl rfl ingX4 6 (by decide) hlf rfl kk
theorem Lqp_p6 (q : Nat) {idx : Nat} {v : Int32} (C : Cx X l G cc nL own rt d mc ms post) (hd : decode cc pc = .ok (.putfield idx, 3)) (hq : pc + 3 = q) (hlf : Cond.fieldLink own idx (TX4 6).1 (TX4 6).2.1 (TX4 6).2.2.1 ∈ gtbl) (kk : J X nL k n (pBk zp tt rr (zk 50) G.2.1 (sS Sp 6 v) ++ (kBk zk G.2.1 Sk)) q lv st) : J X nL k n (pBk zp tt rr (zk 50) G.2.1 Sp ++ (kBk zk G.2.1 Sk)) pc lv (.int v :: .ref (zp 50) :: st) := j_put q tyX4 C hd hq 0 rfl rfl ingX4 tyX4_ok nmX4 6 (by decide) hlf rfl rfl rfl (by show 6 < 10; decide) rfl kk
theorem Lqg_p7 (q : Nat) {idx : Nat} (C : Cx X l G cc nL own rt d mc ms post) (hd : decode cc pc = .ok (.getfield idx, 3)) (hq : pc + 3 = q) (hlf : Cond.fieldLink own idx (TX4 7).1 (TX4 7).2.1 (TX4 7).2.2.1 ∈ gtbl) (kk : J X nL k n (pBk zp tt rr (zk 50) G.2.1 Sp ++ (kBk zk G.2.1 Sk)) q lv (.int (Sp.1 7) :: st)) : J X nL k n (pBk zp tt rr (zk 50) G.2.1 Sp ++ (kBk zk G.2.1 Sk)) pc lv (.ref (zp 50) :: st) := j_get q C hd hq 0 rfl rfl ingX4 7 (by decide) hlf rfl kk
theorem Lqp_p7 (q : Nat) {idx : Nat} {v : Int32} (C : Cx X l G cc nL own rt d mc ms post) (hd : decode cc pc = .ok (.putfield idx, 3)) (hq : pc + 3 = q) (hlf : Cond.fieldLink own idx (TX4 7).1 (TX4 7).2.1 (TX4 7).2.2.1 ∈ gtbl) (kk : J X nL k n (pBk zp tt rr (zk 50) G.2.1 (sS Sp 7 v) ++ (kBk zk G.2.1 Sk)) q lv st) : J X nL k n (pBk zp tt rr (zk 50) G.2.1 Sp ++ (kBk zk G.2.1 Sk)) pc lv (.int v :: .ref (zp 50) :: st) := j_put q tyX4 C hd hq 0 rfl rfl ingX4 tyX4_ok nmX4 7 (by decide) hlf rfl rfl rfl (by show 7 < 10; decide) rfl kk
theorem Lqg_p8 (q : Nat) {idx : Nat} (C : Cx X l G cc nL own rt d mc ms post) (hd : decode cc pc = .ok (.getfield idx, 3)) (hq : pc + 3 = q) (hlf : Cond.fieldLink own idx (TX4 8).1 (TX4 8).2.1 (TX4 8).2.2.1 ∈ gtbl) (kk : J X nL k n (pBk zp tt rr (zk 50) G.2.1 Sp ++ (kBk zk G.2.1 Sk)) q lv (.int (Sp.1 8) :: st)) : J X nL k n (pBk zp tt rr (zk 50) G.2.1 Sp ++ (kBk zk G.2.1 Sk)) pc lv (.ref (zp 50) :: st) := j_get q C hd hq 0 rfl rfl ingX4 8 (by decide) hlf rfl kk
theorem Lqp_p8 (q : Nat) {idx : Nat} {v : Int32} (C : Cx X l G cc nL own rt d mc ms post) (hd : decode cc pc = .ok (.putfield idx, 3)) (hq : pc + 3 = q) (hlf : Cond.fieldLink own idx (TX4 8).1 (TX4 8).2.1 (TX4 8).2.2.1 ∈ gtbl) (hn : narrow .boolean (.int v) = .int v) (hf : fits .boolean (.int v) = true) (kk : J X nL k n (pBk zp tt rr (zk 50) G.2.1 (sS Sp 8 v) ++ (kBk zk G.2.1 Sk)) q lv st) : J X nL k n (pBk zp tt rr (zk 50) G.2.1 Sp ++ (kBk zk G.2.1 Sk)) pc lv (.int v :: .ref (zp 50) :: st) := j_put q tyX4 C hd hq 0 rfl rfl ingX4 tyX4_ok nmX4 8 (by decide) hlf rfl hn hf (by show 8 < 10; decide) rfl kk
theorem Lqg_p9 (q : Nat) {idx : Nat} (C : Cx X l G cc nL own rt d mc ms post) (hd : decode cc pc = .ok (.getfield idx, 3)) (hq : pc + 3 = q) (hlf : Cond.fieldLink own idx (TX4 9).1 (TX4 9).2.1 (TX4 9).2.2.1 ∈ gtbl) (kk : J X nL k n (pBk zp tt rr (zk 50) G.2.1 Sp ++ (kBk zk G.2.1 Sk)) q lv (.ref (zp 9) :: st)) : J X nL k n (pBk zp tt rr (zk 50) G.2.1 Sp ++ (kBk zk G.2.1 Sk)) pc lv (.ref (zp 50) :: st) := j_get q C hd hq 0 rfl rfl ingX4 9 (by decide) hlf rfl kk
theorem Lqa_p9 (q : Nat) {y : Int32} (C : Cx X l G cc nL own rt d mc ms post) (hd : decode cc pc = .ok (.baload, 1)) (hq : pc + 1 = q) (i : Nat) (hi : i < 4) (hy : y = nI i) (kk : J X nL k n (pBk zp tt rr (zk 50) G.2.1 Sp ++ (kBk zk G.2.1 Sk)) q lv (.int (Sp.2.1 9 i) :: st)) : J X nL k n (pBk zp tt rr (zk 50) G.2.1 Sp ++ (kBk zk G.2.1 Sk)) pc lv (.int y :: .ref (zp 9) :: st) := j_zald q C hd hq 1 rfl i hi (by decide) hy kk
theorem Lqs_p9 (q : Nat) {y : Int32} {x : Int32} (C : Cx X l G cc nL own rt d mc ms post) (hd : decode cc pc = .ok (.bastore, 1)) (hq : pc + 1 = q) (i : Nat) (hi : i < 4) (hy : y = nI i) (kk : J X nL k n (pBk zp tt rr (zk 50) G.2.1 (aS Sp 9 i (vp_nar .boolean x)) ++ (kBk zk G.2.1 Sk)) q lv st) : J X nL k n (pBk zp tt rr (zk 50) G.2.1 Sp ++ (kBk zk G.2.1 Sk)) pc lv (.int x :: .int y :: .ref (zp 9) :: st) := j_zast q C hd hq 1 rfl i hi (by decide) hy rfl kk
theorem Lqg_k0 (q : Nat) {idx : Nat} (C : Cx X l G cc nL own rt d mc ms post) (hd : decode cc pc = .ok (.getfield idx, 3)) (hq : pc + 3 = q) (hlf : Cond.fieldLink own idx (TX9 0).1 (TX9 0).2.1 (TX9 0).2.2.1 ∈ gtbl) (kk : J X nL k n (pBk zp tt rr (zk 50) G.2.1 Sp ++ (kBk zk G.2.1 Sk)) q lv (.ref (zk 0) :: st)) : J X nL k n (pBk zp tt rr (zk 50) G.2.1 Sp ++ (kBk zk G.2.1 Sk)) pc lv (.ref (zk 50) :: st) := j_get q C hd hq 2 rfl rfl ingX9 0 (by decide) hlf rfl kk
theorem Lqa_k0 (q : Nat) {y : Int32} (C : Cx X l G cc nL own rt d mc ms post) (hd : decode cc pc = .ok (.iaload, 1)) (hq : pc + 1 = q) (i : Nat) (hi : i < 901) (hy : y = nI i) (kk : J X nL k n (pBk zp tt rr (zk 50) G.2.1 Sp ++ (kBk zk G.2.1 Sk)) q lv (.int (Sk.2.1 0 i) :: st)) : J X nL k n (pBk zp tt rr (zk 50) G.2.1 Sp ++ (kBk zk G.2.1 Sk)) pc lv (.int y :: .ref (zk 0) :: st) := j_iald q C hd hq 3 rfl i hi (by decide) hy kk
theorem Lqs_k0 (q : Nat) {y : Int32} {x : Int32} (C : Cx X l G cc nL own rt d mc ms post) (hd : decode cc pc = .ok (.iastore, 1)) (hq : pc + 1 = q) (i : Nat) (hi : i < 901) (hy : y = nI i) (kk : J X nL k n (pBk zp tt rr (zk 50) G.2.1 Sp ++ (kBk zk G.2.1 (aS Sk 0 i x))) q lv st) : J X nL k n (pBk zp tt rr (zk 50) G.2.1 Sp ++ (kBk zk G.2.1 Sk)) pc lv (.int x :: .int y :: .ref (zk 0) :: st) := j_iast q C hd hq 3 rfl i hi (by decide) hy rfl kk
theorem Lqg_k1 (q : Nat) {idx : Nat} (C : Cx X l G cc nL own rt d mc ms post) (hd : decode cc pc = .ok (.getfield idx, 3)) (hq : pc + 3 = q) (hlf : Cond.fieldLink own idx (TX9 1).1 (TX9 1).2.1 (TX9 1).2.2.1 ∈ gtbl) (kk : J X nL k n (pBk zp tt rr (zk 50) G.2.1 Sp ++ (kBk zk G.2.1 Sk)) q lv (.ref (zk 1) :: st)) : J X nL k n (pBk zp tt rr (zk 50) G.2.1 Sp ++ (kBk zk G.2.1 Sk)) pc lv (.ref (zk 50) :: st) := j_get q C hd hq 2 rfl rfl ingX9 1 (by decide) hlf rfl kk
theorem Lqa_k1 (q : Nat) {y : Int32} (C : Cx X l G cc nL own rt d mc ms post) (hd : decode cc pc = .ok (.iaload, 1)) (hq : pc + 1 = q) (i : Nat) (hi : i < 901) (hy : y = nI i) (kk : J X nL k n (pBk zp tt rr (zk 50) G.2.1 Sp ++ (kBk zk G.2.1 Sk)) q lv (.int (Sk.2.1 1 i) :: st)) : J X nL k n (pBk zp tt rr (zk 50) G.2.1 Sp ++ (kBk zk G.2.1 Sk)) pc lv (.int y :: .ref (zk 1) :: st) := j_iald q C hd hq 4 rfl i hi (by decide) hy kk
theorem Lqs_k1 (q : Nat) {y : Int32} {x : Int32} (C : Cx X l G cc nL own rt d mc ms post) (hd : decode cc pc = .ok (.iastore, 1)) (hq : pc + 1 = q) (i : Nat) (hi : i < 901) (hy : y = nI i) (kk : J X nL k n (pBk zp tt rr (zk 50) G.2.1 Sp ++ (kBk zk G.2.1 (aS Sk 1 i x))) q lv st) : J X nL k n (pBk zp tt rr (zk 50) G.2.1 Sp ++ (kBk zk G.2.1 Sk)) pc lv (.int x :: .int y :: .ref (zk 1) :: st) := j_iast q C hd hq 4 rfl i hi (by decide) hy rfl kk
theorem Lqg_k2 (q : Nat) {idx : Nat} (C : Cx X l G cc nL own rt d mc ms post) (hd : decode cc pc = .ok (.getfield idx, 3)) (hq : pc + 3 = q) (hlf : Cond.fieldLink own idx (TX9 2).1 (TX9 2).2.1 (TX9 2).2.2.1 ∈ gtbl) (kk : J X nL k n (pBk zp tt rr (zk 50) G.2.1 Sp ++ (kBk zk G.2.1 Sk)) q lv (.ref (zk 2) :: st)) : J X nL k n (pBk zp tt rr (zk 50) G.2.1 Sp ++ (kBk zk G.2.1 Sk)) pc lv (.ref (zk 50) :: st) := j_get q C hd hq 2 rfl rfl ingX9 2 (by decide) hlf rfl kk
theorem Lqa_k2 (q : Nat) {y : Int32} (C : Cx X l G cc nL own rt d mc ms post) (hd : decode cc pc = .ok (.iaload, 1)) (hq : pc + 1 = q) (i : Nat) (hi : i < 901) (hy : y = nI i) (kk : J X nL k n (pBk zp tt rr (zk 50) G.2.1 Sp ++ (kBk zk G.2.1 Sk)) q lv (.int (Sk.2.1 2 i) :: st)) : J X nL k n (pBk zp tt rr (zk 50) G.2.1 Sp ++ (kBk zk G.2.1 Sk)) pc lv (.int y :: .ref (zk 2) :: st) := j_iald q C hd hq 5 rfl i hi (by decide) hy kk
theorem Lqs_k2 (q : Nat) {y : Int32} {x : Int32} (C : Cx X l G cc nL own rt d mc ms post) (hd : decode cc pc = .ok (.iastore, 1)) (hq : pc + 1 = q) (i : Nat) (hi : i < 901) (hy : y = nI i) (kk : J X nL k n (pBk zp tt rr (zk 50) G.2.1 Sp ++ (kBk zk G.2.1 (aS Sk 2 i x))) q lv st) : J X nL k n (pBk zp tt rr (zk 50) G.2.1 Sp ++ (kBk zk G.2.1 Sk)) pc lv (.int x :: .int y :: .ref (zk 2) :: st) := j_iast q C hd hq 5 rfl i hi (by decide) hy rfl kk
theorem Lqg_k3 (q : Nat) {idx : Nat} (C : Cx X l G cc nL own rt d mc ms post) (hd : decode cc pc = .ok (.getfield idx, 3)) (hq : pc + 3 = q) (hlf : Cond.fieldLink own idx (TX9 3).1 (TX9 3).2.1 (TX9 3).2.2.1 ∈ gtbl) (kk : J X nL k n (pBk zp tt rr (zk 50) G.2.1 Sp ++ (kBk zk G.2.1 Sk)) q lv (.int (Sk.1 3) :: st)) : J X nL k n (pBk zp tt rr (zk 50) G.2.1 Sp ++ (kBk zk G.2.1 Sk)) pc lv (.ref (zk 50) :: st) := j_get q C hd hq 2 rfl rfl ingX9 3 (by decide) hlf rfl kk
theorem Lqp_k3 (q : Nat) {idx : Nat} {v : Int32} (C : Cx X l G cc nL own rt d mc ms post) (hd : decode cc pc = .ok (.putfield idx, 3)) (hq : pc + 3 = q) (hlf : Cond.fieldLink own idx (TX9 3).1 (TX9 3).2.1 (TX9 3).2.2.1 ∈ gtbl) (kk : J X nL k n (pBk zp tt rr (zk 50) G.2.1 Sp ++ (kBk zk G.2.1 (sS Sk 3 v))) q lv st) : J X nL k n (pBk zp tt rr (zk 50) G.2.1 Sp ++ (kBk zk G.2.1 Sk)) pc lv (.int v :: .ref (zk 50) :: st) := j_put q tyX9 C hd hq 2 rfl rfl ingX9 tyX9_ok nmX9 3 (by decide) hlf rfl rfl rfl (by show 3 < 4; decide) rfl kk
end Ly_Lq
section Lc_Lq
variable {X : JX} {l : Launch} {G : GG} {cc : ByteArray} {nL : Nat} {own : String} {rt : Option FieldType} {d mc ms : Nat} {post : Option Value → va_W → Prop} {k n pc : Nat} {lv : List (Nat × Value)} {st : List Value} {zp zk : Nat → Nat} {Sp Sk : MS} {rr tt : Nat}
variable {y : MethodName} {cy : ByteArray} {mL idx np d' : Nat} {rt' : Option FieldType} {As st0 : List Value} {x : Int32} {xl : Int64}
theorem Lqx_AI {Tp Tk : MS} (q : Nat) (C : Cx X l G cc nL own rt d mc ms post) (hd : decode cc pc = .ok (.invokevirtual idx, 3)) (hq : pc + 3 = q) (hw : CW own idx y cy mL rt' np) (hy : y.cls = RX4) (hC : Con l G y cy mL rt' d' 0 0 (.ref (zp 50) :: As) (pBk zp tt rr (zk 50) G.2.1 Sp ++ (kBk zk G.2.1 Sk)) (pI x (pBk zp tt rr (zk 50) G.2.1 Tp ++ (kBk zk G.2.1 Tk)))) (hnp : As.length = np) (hdd : d' + 1 ≤ d) (hk : k ≤ mc ∧ n ≤ ms) (hst : st0 = As.reverse ++ .ref (zp 50) :: st) (hrm : (st.map fun v => v.category).sum ≤ 8) (kk : J X nL k n (pBk zp tt rr (zk 50) G.2.1 Tp ++ (kBk zk G.2.1 Tk)) q lv (.int x :: st)) : J X nL k n (pBk zp tt rr (zk 50) G.2.1 Sp ++ (kBk zk G.2.1 Sk)) pc lv st0 := by
  refine j_callM q C hd hq hw hC hnp ⟨hdd, hk.1, hk.2⟩ hst hrm [] [] rfl 0 rfl (ci := 4) (T := TX4) (N := 10) (by rw [hy]; rfl) (fun v w hp => ?_)
  obtain ⟨rfl, rfl⟩ := hp
  exact kk
theorem Lqx_AL {Tp Tk : MS} (q : Nat) (C : Cx X l G cc nL own rt d mc ms post) (hd : decode cc pc = .ok (.invokevirtual idx, 3)) (hq : pc + 3 = q) (hw : CW own idx y cy mL rt' np) (hy : y.cls = RX4) (hC : Con l G y cy mL rt' d' 0 0 (.ref (zp 50) :: As) (pBk zp tt rr (zk 50) G.2.1 Sp ++ (kBk zk G.2.1 Sk)) (pL xl (pBk zp tt rr (zk 50) G.2.1 Tp ++ (kBk zk G.2.1 Tk)))) (hnp : As.length = np) (hdd : d' + 1 ≤ d) (hk : k ≤ mc ∧ n ≤ ms) (hst : st0 = As.reverse ++ .ref (zp 50) :: st) (hrm : (st.map fun v => v.category).sum ≤ 8) (kk : J X nL k n (pBk zp tt rr (zk 50) G.2.1 Tp ++ (kBk zk G.2.1 Tk)) q lv (.long xl :: st)) : J X nL k n (pBk zp tt rr (zk 50) G.2.1 Sp ++ (kBk zk G.2.1 Sk)) pc lv st0 := by
  refine j_callM q C hd hq hw hC hnp ⟨hdd, hk.1, hk.2⟩ hst hrm [] [] rfl 0 rfl (ci := 4) (T := TX4) (N := 10) (by rw [hy]; rfl) (fun v w hp => ?_)
  obtain ⟨rfl, rfl⟩ := hp
  exact kk
theorem Lqx_AV {Tp Tk : MS} (q : Nat) (C : Cx X l G cc nL own rt d mc ms post) (hd : decode cc pc = .ok (.invokevirtual idx, 3)) (hq : pc + 3 = q) (hw : CW own idx y cy mL rt' np) (hy : y.cls = RX4) (hC : Con l G y cy mL rt' d' 0 0 (.ref (zp 50) :: As) (pBk zp tt rr (zk 50) G.2.1 Sp ++ (kBk zk G.2.1 Sk)) (pV (pBk zp tt rr (zk 50) G.2.1 Tp ++ (kBk zk G.2.1 Tk)))) (hnp : As.length = np) (hdd : d' + 1 ≤ d) (hk : k ≤ mc ∧ n ≤ ms) (hst : st0 = As.reverse ++ .ref (zp 50) :: st) (hrm : (st.map fun v => v.category).sum ≤ 8) (kk : J X nL k n (pBk zp tt rr (zk 50) G.2.1 Tp ++ (kBk zk G.2.1 Tk)) q lv st) : J X nL k n (pBk zp tt rr (zk 50) G.2.1 Sp ++ (kBk zk G.2.1 Sk)) pc lv st0 := by
  refine j_callM q C hd hq hw hC hnp ⟨hdd, hk.1, hk.2⟩ hst hrm [] [] rfl 0 rfl (ci := 4) (T := TX4) (N := 10) (by rw [hy]; rfl) (fun v w hp => ?_)
  obtain ⟨rfl, rfl⟩ := hp
  exact kk
theorem Lqr_AI {P : Int32 → MS → Prop} (q : Nat) (C : Cx X l G cc nL own rt d mc ms post) (hd : decode cc pc = .ok (.invokevirtual idx, 3)) (hq : pc + 3 = q) (hw : CW own idx y cy mL rt' np) (hy : y.cls = RX4) (hC : Con l G y cy mL rt' d' 0 0 (.ref (zp 50) :: As) (pBk zp tt rr (zk 50) G.2.1 Sp ++ (kBk zk G.2.1 Sk)) (qI (fun s : MS => (pBk zp tt rr (zk 50) G.2.1 s ++ (kBk zk G.2.1 Sk))) P)) (hnp : As.length = np) (hdd : d' + 1 ≤ d) (hk : k ≤ mc ∧ n ≤ ms) (hst : st0 = As.reverse ++ .ref (zp 50) :: st) (hrm : (st.map fun v => v.category).sum ≤ 8) (kk : ∀ (x : Int32) (s : MS), P x s → J X nL k n (pBk zp tt rr (zk 50) G.2.1 s ++ (kBk zk G.2.1 Sk)) q lv (.int x :: st)) : J X nL k n (pBk zp tt rr (zk 50) G.2.1 Sp ++ (kBk zk G.2.1 Sk)) pc lv st0 := by
  refine j_callM q C hd hq hw hC hnp ⟨hdd, hk.1, hk.2⟩ hst hrm [] [] rfl 0 rfl (ci := 4) (T := TX4) (N := 10) (by rw [hy]; rfl) (fun v w hp => ?_)
  obtain ⟨x, s, hp, rfl, rfl⟩ := hp
  exact kk x s hp
theorem Lqr_AV {P : MS → Prop} (q : Nat) (C : Cx X l G cc nL own rt d mc ms post) (hd : decode cc pc = .ok (.invokevirtual idx, 3)) (hq : pc + 3 = q) (hw : CW own idx y cy mL rt' np) (hy : y.cls = RX4) (hC : Con l G y cy mL rt' d' 0 0 (.ref (zp 50) :: As) (pBk zp tt rr (zk 50) G.2.1 Sp ++ (kBk zk G.2.1 Sk)) (qV (fun s : MS => (pBk zp tt rr (zk 50) G.2.1 s ++ (kBk zk G.2.1 Sk))) P)) (hnp : As.length = np) (hdd : d' + 1 ≤ d) (hk : k ≤ mc ∧ n ≤ ms) (hst : st0 = As.reverse ++ .ref (zp 50) :: st) (hrm : (st.map fun v => v.category).sum ≤ 8) (kk : ∀ (s : MS), P s → J X nL k n (pBk zp tt rr (zk 50) G.2.1 s ++ (kBk zk G.2.1 Sk)) q lv st) : J X nL k n (pBk zp tt rr (zk 50) G.2.1 Sp ++ (kBk zk G.2.1 Sk)) pc lv st0 := by
  refine j_callM q C hd hq hw hC hnp ⟨hdd, hk.1, hk.2⟩ hst hrm [] [] rfl 0 rfl (ci := 4) (T := TX4) (N := 10) (by rw [hy]; rfl) (fun v w hp => ?_)
  obtain ⟨s, hp, rfl, rfl⟩ := hp
  exact kk s hp
end Lc_Lq
section Ly_Lk0
variable {X : JX} {l : Launch} {G : GG} {cc : ByteArray} {nL : Nat} {own : String} {rt : Option FieldType} {d mc ms : Nat} {post : Option Value → va_W → Prop} {k n pc : Nat} {lv : List (Nat × Value)} {st : List Value} {zk : Nat → Nat} {Sk : MS}
theorem Lk0g_k0 (q : Nat) {idx : Nat} (C : Cx X l G cc nL own rt d mc ms post) (hd : decode cc pc = .ok (.getfield idx, 3)) (hq : pc + 3 = q) (hlf : Cond.fieldLink own idx (TX9 0).1 (TX9 0).2.1 (TX9 0).2.2.1 ∈ gtbl) (kk : J X nL k n (kBk zk G.2.1 Sk) q lv (.ref (zk 0) :: st)) : J X nL k n (kBk zk G.2.1 Sk) pc lv (.ref (zk 50) :: st) := j_get q C hd hq 0 rfl rfl ingX9 0 (by decide) hlf rfl kk
theorem Lk0a_k0 (q : Nat) {y : Int32} (C : Cx X l G cc nL own rt d mc ms post) (hd : decode cc pc = .ok (.iaload, 1)) (hq : pc + 1 = q) (i : Nat) (hi : i < 901) (hy : y = nI i) (kk : J X nL k n (kBk zk G.2.1 Sk) q lv (.int (Sk.2.1 0 i) :: st)) : J X nL k n (kBk zk G.2.1 Sk) pc lv (.int y :: .ref (zk 0) :: st) := j_iald q C hd hq 1 rfl i hi (by decide) hy kk
theorem Lk0s_k0 (q : Nat) {y : Int32} {x : Int32} (C : Cx X l G cc nL own rt d mc ms post) (hd : decode cc pc = .ok (.iastore, 1)) (hq : pc + 1 = q) (i : Nat) (hi : i < 901) (hy : y = nI i) (kk : J X nL k n (kBk zk G.2.1 (aS Sk 0 i x)) q lv st) : J X nL k n (kBk zk G.2.1 Sk) pc lv (.int x :: .int y :: .ref (zk 0) :: st) := j_iast q C hd hq 1 rfl i hi (by decide) hy rfl kk
theorem Lk0g_k1 (q : Nat) {idx : Nat} (C : Cx X l G cc nL own rt d mc ms post) (hd : decode cc pc = .ok (.getfield idx, 3)) (hq : pc + 3 = q) (hlf : Cond.fieldLink own idx (TX9 1).1 (TX9 1).2.1 (TX9 1).2.2.1 ∈ gtbl) (kk : J X nL k n (kBk zk G.2.1 Sk) q lv (.ref (zk 1) :: st)) : J X nL k n (kBk zk G.2.1 Sk) pc lv (.ref (zk 50) :: st) := j_get q C hd hq 0 rfl rfl ingX9 1 (by decide) hlf rfl kk
theorem Lk0a_k1 (q : Nat) {y : Int32} (C : Cx X l G cc nL own rt d mc ms post) (hd : decode cc pc = .ok (.iaload, 1)) (hq : pc + 1 = q) (i : Nat) (hi : i < 901) (hy : y = nI i) (kk : J X nL k n (kBk zk G.2.1 Sk) q lv (.int (Sk.2.1 1 i) :: st)) : J X nL k n (kBk zk G.2.1 Sk) pc lv (.int y :: .ref (zk 1) :: st) := j_iald q C hd hq 2 rfl i hi (by decide) hy kk
theorem Lk0s_k1 (q : Nat) {y : Int32} {x : Int32} (C : Cx X l G cc nL own rt d mc ms post) (hd : decode cc pc = .ok (.iastore, 1)) (hq : pc + 1 = q) (i : Nat) (hi : i < 901) (hy : y = nI i) (kk : J X nL k n (kBk zk G.2.1 (aS Sk 1 i x)) q lv st) : J X nL k n (kBk zk G.2.1 Sk) pc lv (.int x :: .int y :: .ref (zk 1) :: st) := j_iast q C hd hq 2 rfl i hi (by decide) hy rfl kk
theorem Lk0g_k2 (q : Nat) {idx : Nat} (C : Cx X l G cc nL own rt d mc ms post) (hd : decode cc pc = .ok (.getfield idx, 3)) (hq : pc + 3 = q) (hlf : Cond.fieldLink own idx (TX9 2).1 (TX9 2).2.1 (TX9 2).2.2.1 ∈ gtbl) (kk : J X nL k n (kBk zk G.2.1 Sk) q lv (.ref (zk 2) :: st)) : J X nL k n (kBk zk G.2.1 Sk) pc lv (.ref (zk 50) :: st) := j_get q C hd hq 0 rfl rfl ingX9 2 (by decide) hlf rfl kk
theorem Lk0a_k2 (q : Nat) {y : Int32} (C : Cx X l G cc nL own rt d mc ms post) (hd : decode cc pc = .ok (.iaload, 1)) (hq : pc + 1 = q) (i : Nat) (hi : i < 901) (hy : y = nI i) (kk : J X nL k n (kBk zk G.2.1 Sk) q lv (.int (Sk.2.1 2 i) :: st)) : J X nL k n (kBk zk G.2.1 Sk) pc lv (.int y :: .ref (zk 2) :: st) := j_iald q C hd hq 3 rfl i hi (by decide) hy kk
theorem Lk0s_k2 (q : Nat) {y : Int32} {x : Int32} (C : Cx X l G cc nL own rt d mc ms post) (hd : decode cc pc = .ok (.iastore, 1)) (hq : pc + 1 = q) (i : Nat) (hi : i < 901) (hy : y = nI i) (kk : J X nL k n (kBk zk G.2.1 (aS Sk 2 i x)) q lv st) : J X nL k n (kBk zk G.2.1 Sk) pc lv (.int x :: .int y :: .ref (zk 2) :: st) := j_iast q C hd hq 3 rfl i hi (by decide) hy rfl kk
theorem Lk0g_k3 (q : Nat) {idx : Nat} (C : Cx X l G cc nL own rt d mc ms post) (hd : decode cc pc = .ok (.getfield idx, 3)) (hq : pc + 3 = q) (hlf : Cond.fieldLink own idx (TX9 3).1 (TX9 3).2.1 (TX9 3).2.2.1 ∈ gtbl) (kk : J X nL k n (kBk zk G.2.1 Sk) q lv (.int (Sk.1 3) :: st)) : J X nL k n (kBk zk G.2.1 Sk) pc lv (.ref (zk 50) :: st) := j_get q C hd hq 0 rfl rfl ingX9 3 (by decide) hlf rfl kk
theorem Lk0p_k3 (q : Nat) {idx : Nat} {v : Int32} (C : Cx X l G cc nL own rt d mc ms post) (hd : decode cc pc = .ok (.putfield idx, 3)) (hq : pc + 3 = q) (hlf : Cond.fieldLink own idx (TX9 3).1 (TX9 3).2.1 (TX9 3).2.2.1 ∈ gtbl) (kk : J X nL k n (kBk zk G.2.1 (sS Sk 3 v)) q lv st) : J X nL k n (kBk zk G.2.1 Sk) pc lv (.int v :: .ref (zk 50) :: st) := j_put q tyX9 C hd hq 0 rfl rfl ingX9 tyX9_ok nmX9 3 (by decide) hlf rfl rfl rfl (by show 3 < 4; decide) rfl kk
end Ly_Lk0
/-- the TOKEN i is looked at -/
def lkS (Sp Sk : MS) (i : Nat) : MS := sS (sS (sS Sp 5 (nI i)) 6 (Sk.2.1 0 i)) 7 (Sk.2.1 2 i)
def avS (Sp Sk : MS) (i c : Nat) : MS := if i + 1 < c then lkS Sp Sk (i + 1) else Sp
def rfS (Sp Sk : MS) (x : Int32) (i : Nat) : MS := sS (sS Sp 2 x) 3 (Sk.2.1 1 i)
section SP1
variable {l : Launch} {G : GG} {x y : Int32} {i c f m : Nat} {zp zk : Nat → Nat} {Sp Sk : MS} {rr tt : Nat}
theorem K4_look (hc : Sk.1 3 = nI c) (hc9 : c ≤ 901) (hi : i < 2 ^ 31) : Con l G yX4_look cX4_look 2 none 1 0 0 [.ref (zp 50), .int (nI i)] (pBk zp tt rr (zk 50) G.2.1 Sp ++ (kBk zk G.2.1 Sk)) (pV (pBk zp tt rr (zk 50) G.2.1 (if i < c then lkS Sp Sk i else Sp) ++ (kBk zk G.2.1 Sk))) := by
  refine Con.mk (own := RX4) (by decide) rfl (Nat.le_of_ble_eq_true rfl) (fun X C => ?_)
  refine j_iload_n 1 C dX4_look_0 rfl rfl ?_
  refine j_aload_n 2 C dX4_look_1 rfl rfl ?_
  refine Lqg_p4 5 C dX4_look_2 rfl fl4_28 ?_
  refine Lqg_k3 8 C dX4_look_5 rfl fl4_76 ?_
  refine j_top hc ?_
  refine j_icmp_geN 42 11 C dX4_look_8 (by decide) rfl (by omega) (by omega) (fun c8 => ?_) (fun c8 => ?_)
  · exact j_vret C dX4_look_42 ⟨rfl, by rw [if_neg (by omega)]⟩
  · refine j_aload_n 12 C dX4_look_11 rfl rfl ?_
    refine j_iload_n 13 C dX4_look_12 rfl rfl ?_
    refine Lqp_p5 16 C dX4_look_13 rfl fl4_77 ?_
    refine j_aload_n 17 C dX4_look_16 rfl rfl ?_
    refine j_aload_n 18 C dX4_look_17 rfl rfl ?_
    refine Lqg_p4 21 C dX4_look_18 rfl fl4_28 ?_
    refine Lqg_k0 24 C dX4_look_21 rfl fl4_80 ?_
    refine j_iload_n 25 C dX4_look_24 rfl rfl ?_
    refine Lqa_k0 26 C dX4_look_25 rfl _ (by omega) rfl ?_
    refine Lqp_p6 29 C dX4_look_26 rfl fl4_47 ?_
    refine j_aload_n 30 C dX4_look_29 rfl rfl ?_
    refine j_aload_n 31 C dX4_look_30 rfl rfl ?_
    refine Lqg_p4 34 C dX4_look_31 rfl fl4_28 ?_
    refine Lqg_k2 37 C dX4_look_34 rfl fl4_84 ?_
    refine j_iload_n 38 C dX4_look_37 rfl rfl ?_
    refine Lqa_k2 39 C dX4_look_38 rfl _ (by omega) rfl ?_
    refine Lqp_p7 42 C dX4_look_39 rfl fl4_87 ?_
    exact j_vret C dX4_look_42 ⟨rfl, by rw [if_pos (by omega)]; rfl⟩
theorem K4_advance (hc : Sk.1 3 = nI c) (hc9 : c ≤ 901) (h5 : Sp.1 5 = nI i) (hi : i < c) : Con l G yX4_advance cX4_advance 1 none 2 0 0 [.ref (zp 50)] (pBk zp tt rr (zk 50) G.2.1 Sp ++ (kBk zk G.2.1 Sk)) (pV (pBk zp tt rr (zk 50) G.2.1 (avS Sp Sk i c) ++ (kBk zk G.2.1 Sk))) := by
  refine Con.mk (own := RX4) (by decide) rfl (Nat.le_of_ble_eq_true rfl) (fun X C => ?_)
  refine j_aload_n 1 C dX4_advance_0 rfl rfl ?_
  refine j_aload_n 2 C dX4_advance_1 rfl rfl ?_
  refine Lqg_p5 5 C dX4_advance_2 rfl fl4_77 ?_
  refine j_top h5 ?_
  refine j_iconst 6 C dX4_advance_5 rfl (v := nI 1) (by decide) ?_
  refine j_iaddN 7 C dX4_advance_6 rfl ?_
  refine Lqx_AV 10 C dX4_advance_7 rfl cw4_43 rfl (K4_look hc hc9 (by omega)) rfl (by decide) ⟨Nat.le_refl _, Nat.le_refl _⟩ rfl (Nat.le_of_ble_eq_true rfl) ?_
  exact j_vret C dX4_advance_10 ⟨rfl, rfl⟩
theorem K4_refuse (h5 : Sp.1 5 = nI i) (hi : i < 901) : Con l G yX4_refuse cX4_refuse 2 (some .boolean) 1 0 0 [.ref (zp 50), .int x] (pBk zp tt rr (zk 50) G.2.1 Sp ++ (kBk zk G.2.1 Sk)) (pI (nI 0) (pBk zp tt rr (zk 50) G.2.1 (rfS Sp Sk x i) ++ (kBk zk G.2.1 Sk))) := by
  refine Con.mk (own := RX4) (by decide) rfl (Nat.le_of_ble_eq_true rfl) (fun X C => ?_)
  refine j_aload_n 1 C dX4_refuse_0 rfl rfl ?_
  refine j_iload_n 2 C dX4_refuse_1 rfl rfl ?_
  refine Lqp_p2 5 C dX4_refuse_2 rfl fl4_66 ?_
  refine j_aload_n 6 C dX4_refuse_5 rfl rfl ?_
  refine j_aload_n 7 C dX4_refuse_6 rfl rfl ?_
  refine Lqg_p4 10 C dX4_refuse_7 rfl fl4_28 ?_
  refine Lqg_k1 13 C dX4_refuse_10 rfl fl4_90 ?_
  refine j_aload_n 14 C dX4_refuse_13 rfl rfl ?_
  refine Lqg_p5 17 C dX4_refuse_14 rfl fl4_77 ?_
  refine j_top (x' := nI i) h5 ?_
  refine Lqa_k1 18 C dX4_refuse_17 rfl _ (by omega) rfl ?_
  refine Lqp_p3 21 C dX4_refuse_18 rfl fl4_69 ?_
  refine j_iconst 22 C dX4_refuse_21 rfl (v := nI 0) (by decide) ?_
  exact j_zret C dX4_refuse_22 rfl ⟨rfl, rfl⟩
theorem K4_takesKind (hc : Sk.1 3 = nI c) (hc9 : c ≤ 901) (h5 : Sp.1 5 = nI i) (hi : i < c) : Con l G yX4_takesKind cX4_takesKind 2 (some .boolean) 3 0 0 [.ref (zp 50), .int x] (pBk zp tt rr (zk 50) G.2.1 Sp ++ (kBk zk G.2.1 Sk)) (pI (bI (Sp.1 6 = x)) (pBk zp tt rr (zk 50) G.2.1 (if Sp.1 6 = x then avS Sp Sk i c else rfS Sp Sk (nI 1) i) ++ (kBk zk G.2.1 Sk))) := by
  refine Con.mk (own := RX4) (by decide) rfl (Nat.le_of_ble_eq_true rfl) (fun X C => ?_)
  refine j_aload_n 1 C dX4_takesKind_0 rfl rfl ?_
  refine Lqg_p6 4 C dX4_takesKind_1 rfl fl4_47 ?_
  refine j_iload_n 5 C dX4_takesKind_4 rfl rfl ?_
  refine j_icmp_eq 14 8 C dX4_takesKind_5 (by decide) rfl (fun c5 => ?_) (fun c5 => ?_)
  · refine j_aload_n 15 C dX4_takesKind_14 rfl rfl ?_
    refine Lqx_AV 18 C dX4_takesKind_15 rfl cw4_97 rfl (K4_advance hc hc9 h5 hi) rfl (by decide) ⟨Nat.le_refl _, Nat.le_refl _⟩ rfl (Nat.le_of_ble_eq_true rfl) ?_
    refine j_iconst 19 C dX4_takesKind_18 rfl (v := nI 1) (by decide) ?_
    exact j_zret C dX4_takesKind_19 rfl ⟨by rw [bI_t c5]; rfl, by rw [if_pos c5]⟩
  · refine j_aload_n 9 C dX4_takesKind_8 rfl rfl ?_
    refine j_iconst 10 C dX4_takesKind_9 rfl (v := nI 1) (by decide) ?_
    refine Lqx_AI 13 C dX4_takesKind_10 rfl cw4_93 rfl (K4_refuse h5 (by omega)) rfl (by decide) ⟨Nat.le_refl _, Nat.le_refl _⟩ rfl (Nat.le_of_ble_eq_true rfl) ?_
    exact j_zret C dX4_takesKind_13 rfl ⟨by rw [bI_f c5]; rfl, by rw [if_neg c5]⟩
theorem K4_isNumberUpTo (hc : Sk.1 3 = nI c) (hc9 : c ≤ 901) (h5 : Sp.1 5 = nI i) (hi : i < c) : Con l G yX4_isNumberUpTo cX4_isNumberUpTo 2 (some .boolean) 2 0 0 [.ref (zp 50), .int x] (pBk zp tt rr (zk 50) G.2.1 Sp ++ (kBk zk G.2.1 Sk)) (pI (bI (Sp.1 6 = nI 21 ∧ Sp.1 7 ≤ x)) (pBk zp tt rr (zk 50) G.2.1 (if Sp.1 6 = nI 21 then (if Sp.1 7 ≤ x then Sp else rfS Sp Sk (nI 2) i) else rfS Sp Sk (nI 1) i) ++ (kBk zk G.2.1 Sk))) := by
  refine Con.mk (own := RX4) (by decide) rfl (Nat.le_of_ble_eq_true rfl) (fun X C => ?_)
  refine j_aload_n 1 C dX4_isNumberUpTo_0 rfl rfl ?_
  refine Lqg_p6 4 C dX4_isNumberUpTo_1 rfl fl4_47 ?_
  refine j_bipush 6 C dX4_isNumberUpTo_4 rfl (v := nI 21) (by decide) ?_
  refine j_icmp_eq 15 9 C dX4_isNumberUpTo_6 (by decide) rfl (fun c6 => ?_) (fun c6 => ?_)
  · refine j_aload_n 16 C dX4_isNumberUpTo_15 rfl rfl ?_
    refine Lqg_p7 19 C dX4_isNumberUpTo_16 rfl fl4_87 ?_
    refine j_iload_n 20 C dX4_isNumberUpTo_19 rfl rfl ?_
    refine j_icmp_le 31 23 C dX4_isNumberUpTo_20 (by decide) rfl (fun c20 => ?_) (fun c20 => ?_)
    · refine j_iconst 32 C dX4_isNumberUpTo_31 rfl (v := nI 1) (by decide) ?_
      refine j_goto 36 C dX4_isNumberUpTo_32 (by decide) ?_
      exact j_zret C dX4_isNumberUpTo_36 rfl ⟨by rw [bI_t ⟨c6, c20⟩]; rfl, by rw [if_pos c6, if_pos c20]⟩
    · refine j_aload_n 24 C dX4_isNumberUpTo_23 rfl rfl ?_
      refine j_iconst 25 C dX4_isNumberUpTo_24 rfl (v := nI 2) (by decide) ?_
      refine Lqx_AI 28 C dX4_isNumberUpTo_25 rfl cw4_93 rfl (K4_refuse h5 (by omega)) rfl (by decide) ⟨Nat.le_refl _, Nat.le_refl _⟩ rfl (Nat.le_of_ble_eq_true rfl) ?_
      refine j_if_eq 35 31 C dX4_isNumberUpTo_28 (by decide) rfl (fun c28 => ?_) (fun c28 => ?_)
      · refine j_iconst 36 C dX4_isNumberUpTo_35 rfl (v := nI 0) (by decide) ?_
        exact j_zret C dX4_isNumberUpTo_36 rfl ⟨by rw [bI_f (fun q => c20 q.2)]; rfl, by rw [if_pos c6, if_neg c20]⟩
      · refine j_iconst 32 C dX4_isNumberUpTo_31 rfl (v := nI 1) (by decide) ?_
        refine j_goto 36 C dX4_isNumberUpTo_32 (by decide) ?_
        exact j_zret C dX4_isNumberUpTo_36 rfl (absurd rfl c28)
  · refine j_aload_n 10 C dX4_isNumberUpTo_9 rfl rfl ?_
    refine j_iconst 11 C dX4_isNumberUpTo_10 rfl (v := nI 1) (by decide) ?_
    refine Lqx_AI 14 C dX4_isNumberUpTo_11 rfl cw4_93 rfl (K4_refuse h5 (by omega)) rfl (by decide) ⟨Nat.le_refl _, Nat.le_refl _⟩ rfl (Nat.le_of_ble_eq_true rfl) ?_
    exact j_zret C dX4_isNumberUpTo_14 rfl ⟨by rw [bI_f (fun q => c6 q.1)]; rfl, by rw [if_neg c6]⟩
theorem K4_among  : Con l G yX4_among cX4_among 3 (some .int) 1 0 0 [.ref (zp 50), .int x, .int y] (pBk zp tt rr (zk 50) G.2.1 Sp ++ (kBk zk G.2.1 Sk)) (pI (if ¬ Sp.1 6 < x ∧ ¬ x + y ≤ Sp.1 6 then Sp.1 6 - x else -1) (pBk zp tt rr (zk 50) G.2.1 Sp ++ (kBk zk G.2.1 Sk))) := by
  refine Con.mk (own := RX4) (by decide) rfl (Nat.le_of_ble_eq_true rfl) (fun X C => ?_)
  refine j_aload_n 1 C dX4_among_0 rfl rfl ?_
  refine Lqg_p6 4 C dX4_among_1 rfl fl4_47 ?_
  refine j_iload_n 5 C dX4_among_4 rfl rfl ?_
  refine j_icmp_lt 27 8 C dX4_among_5 (by decide) rfl (fun c5 => ?_) (fun c5 => ?_)
  · refine j_iconst 28 C dX4_among_27 rfl (v := (-1)) (by decide) ?_
    exact j_iret C dX4_among_28 ⟨by rw [if_neg (fun q => q.1 c5)], rfl⟩
  · refine j_aload_n 9 C dX4_among_8 rfl rfl ?_
    refine Lqg_p6 12 C dX4_among_9 rfl fl4_47 ?_
    refine j_iload_n 13 C dX4_among_12 rfl rfl ?_
    refine j_iload_n 14 C dX4_among_13 rfl rfl ?_
    refine j_iadd 15 C dX4_among_14 rfl ?_
    refine j_icmp_ge 27 18 C dX4_among_15 (by decide) rfl (fun c15 => ?_) (fun c15 => ?_)
    · refine j_iconst 28 C dX4_among_27 rfl (v := (-1)) (by decide) ?_
      exact j_iret C dX4_among_28 ⟨by rw [if_neg (fun q => q.2 c15)], rfl⟩
    · refine j_aload_n 19 C dX4_among_18 rfl rfl ?_
      refine Lqg_p6 22 C dX4_among_19 rfl fl4_47 ?_
      refine j_iload_n 23 C dX4_among_22 rfl rfl ?_
      refine j_isub 24 C dX4_among_23 rfl ?_
      refine j_goto 28 C dX4_among_24 (by decide) ?_
      exact j_iret C dX4_among_28 ⟨by rw [if_pos ⟨c5, c15⟩], rfl⟩
theorem K9_isLetter  : Con l G yX9_isLetter cX9_isLetter 1 (some .boolean) 1 0 0 [.int x] [] (pI (bI (¬ x < nI 97 ∧ ¬ nI 122 < x)) []) := by
  refine Con.mk (own := RX9) (by decide) rfl (Nat.le_of_ble_eq_true rfl) (fun X C => ?_)
  refine j_iload_n 1 C dX9_isLetter_0 rfl rfl ?_
  refine j_bipush 3 C dX9_isLetter_1 rfl (v := nI 97) (by decide) ?_
  refine j_icmp_lt 16 6 C dX9_isLetter_3 (by decide) rfl (fun c3 => ?_) (fun c3 => ?_)
  · refine j_iconst 17 C dX9_isLetter_16 rfl (v := nI 0) (by decide) ?_
    exact j_zret C dX9_isLetter_17 rfl ⟨by rw [bI_f (fun q => q.1 c3)]; rfl, rfl⟩
  · refine j_iload_n 7 C dX9_isLetter_6 rfl rfl ?_
    refine j_bipush 9 C dX9_isLetter_7 rfl (v := nI 122) (by decide) ?_
    refine j_icmp_gt 16 12 C dX9_isLetter_9 (by decide) rfl (fun c9 => ?_) (fun c9 => ?_)
    · refine j_iconst 17 C dX9_isLetter_16 rfl (v := nI 0) (by decide) ?_
      exact j_zret C dX9_isLetter_17 rfl ⟨by rw [bI_f (fun q => q.2 c9)]; rfl, rfl⟩
    · refine j_iconst 13 C dX9_isLetter_12 rfl (v := nI 1) (by decide) ?_
      refine j_goto 17 C dX9_isLetter_13 (by decide) ?_
      exact j_zret C dX9_isLetter_17 rfl ⟨by rw [bI_t ⟨c3, c9⟩]; rfl, rfl⟩
theorem K9_isDigit  : Con l G yX9_isDigit cX9_isDigit 1 (some .boolean) 1 0 0 [.int x] [] (pI (bI (¬ x < nI 48 ∧ ¬ nI 57 < x)) []) := by
  refine Con.mk (own := RX9) (by decide) rfl (Nat.le_of_ble_eq_true rfl) (fun X C => ?_)
  refine j_iload_n 1 C dX9_isDigit_0 rfl rfl ?_
  refine j_bipush 3 C dX9_isDigit_1 rfl (v := nI 48) (by decide) ?_
  refine j_icmp_lt 16 6 C dX9_isDigit_3 (by decide) rfl (fun c3 => ?_) (fun c3 => ?_)
  · refine j_iconst 17 C dX9_isDigit_16 rfl (v := nI 0) (by decide) ?_
    exact j_zret C dX9_isDigit_17 rfl ⟨by rw [bI_f (fun q => q.1 c3)]; rfl, rfl⟩
  · refine j_iload_n 7 C dX9_isDigit_6 rfl rfl ?_
    refine j_bipush 9 C dX9_isDigit_7 rfl (v := nI 57) (by decide) ?_
    refine j_icmp_gt 16 12 C dX9_isDigit_9 (by decide) rfl (fun c9 => ?_) (fun c9 => ?_)
    · refine j_iconst 17 C dX9_isDigit_16 rfl (v := nI 0) (by decide) ?_
      exact j_zret C dX9_isDigit_17 rfl ⟨by rw [bI_f (fun q => q.2 c9)]; rfl, rfl⟩
    · refine j_iconst 13 C dX9_isDigit_12 rfl (v := nI 1) (by decide) ?_
      refine j_goto 17 C dX9_isDigit_13 (by decide) ?_
      exact j_zret C dX9_isDigit_17 rfl ⟨by rw [bI_t ⟨c3, c9⟩]; rfl, rfl⟩
theorem K9_add {u v w : Int32} (hc : Sk.1 3 = nI c) (hc9 : c ≤ 900) : Con l G yX9_add cX9_add 4 none 1 0 0 [.ref (zk 50), .int u, .int v, .int w] (kBk zk G.2.1 Sk) (pV (kBk zk G.2.1 (sS (aS (aS (aS Sk 0 c u) 1 c v) 2 c w) 3 (nI (c + 1))))) := by
  refine Con.mk (own := RX9) (by decide) rfl (Nat.le_of_ble_eq_true rfl) (fun X C => ?_)
  refine j_aload_n 1 C dX9_add_0 rfl rfl ?_
  refine Lk0g_k3 4 C dX9_add_1 rfl fl9_27 ?_
  refine j_top (x' := nI c) hc ?_
  refine j_sipush 7 C dX9_add_4 rfl (v := nI 900) (by decide) ?_
  refine j_icmp_gtN 50 10 C dX9_add_7 (by decide) rfl (by omega) (by omega) (fun c7 => absurd c7 (by omega)) (fun c7 => ?_)
  refine j_aload_n 11 C dX9_add_10 rfl rfl ?_
  refine Lk0g_k0 14 C dX9_add_11 rfl fl9_9 ?_
  refine j_aload_n 15 C dX9_add_14 rfl rfl ?_
  refine Lk0g_k3 18 C dX9_add_15 rfl fl9_27 ?_
  refine j_top (x' := nI c) hc ?_
  refine j_iload_n 19 C dX9_add_18 rfl rfl ?_
  refine Lk0s_k0 20 C dX9_add_19 rfl _ (by omega) rfl ?_
  refine j_aload_n 21 C dX9_add_20 rfl rfl ?_
  refine Lk0g_k1 24 C dX9_add_21 rfl fl9_15 ?_
  refine j_aload_n 25 C dX9_add_24 rfl rfl ?_
  refine Lk0g_k3 28 C dX9_add_25 rfl fl9_27 ?_
  refine j_top (x' := nI c) hc ?_
  refine j_iload_n 29 C dX9_add_28 rfl rfl ?_
  refine Lk0s_k1 30 C dX9_add_29 rfl _ (by omega) rfl ?_
  refine j_aload_n 31 C dX9_add_30 rfl rfl ?_
  refine Lk0g_k2 34 C dX9_add_31 rfl fl9_18 ?_
  refine j_aload_n 35 C dX9_add_34 rfl rfl ?_
  refine Lk0g_k3 38 C dX9_add_35 rfl fl9_27 ?_
  refine j_top (x' := nI c) hc ?_
  refine j_iload_n 39 C dX9_add_38 rfl rfl ?_
  refine Lk0s_k2 40 C dX9_add_39 rfl _ (by omega) rfl ?_
  refine j_aload_n 41 C dX9_add_40 rfl rfl ?_
  refine j_dup 42 C dX9_add_41 rfl rfl ?_
  refine Lk0g_k3 45 C dX9_add_42 rfl fl9_27 ?_
  refine j_top (x' := nI c) hc ?_
  refine j_iconst 46 C dX9_add_45 rfl (v := nI 1) (by decide) ?_
  refine j_iaddN 47 C dX9_add_46 rfl ?_
  refine Lk0p_k3 50 C dX9_add_47 rfl fl9_27 ?_
  exact j_vret C dX9_add_50 ⟨rfl, rfl⟩
end SP1
