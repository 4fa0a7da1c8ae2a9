theorem kX6_init_0 : aCode iX6_init 0 = some (.aload_n 0, 1) := by decide +kernel
theorem sX6_init_0 {d : Nat} {σ : aS} {Q : aQ} {x : Nat} {lt : aL} {st : List Value} : aX d iX6_init 0 (some (.ref x) :: lt) (st) σ Q ↔ aX d iX6_init 1 (some (.ref x) :: lt) (.ref x :: st) σ Q := X_aloadn kX6_init_0 rfl rfl
theorem kX6_init_1 : aCode iX6_init 1 = some (.invokespecial 3, 3) := by decide +kernel
theorem sX6_init_1 {d : Nat} {σ : aS} {Q : aQ} {b : Nat} {ls : aL} : aX d iX6_init 1 (ls) (.ref b :: []) σ Q ↔ aX d iX6_init 4 (ls) ([]) σ Q := X_obj (t := 999) (w := 22) kX6_init_1 (by decide +kernel) (by simp only [List.length_cons, List.length_nil]; omega)
theorem kX6_init_4 : aCode iX6_init 4 = some (.aload_n 0, 1) := by decide +kernel
theorem sX6_init_4 {d : Nat} {σ : aS} {Q : aQ} {x : Nat} {lt : aL} {st : List Value} : aX d iX6_init 4 (some (.ref x) :: lt) (st) σ Q ↔ aX d iX6_init 5 (some (.ref x) :: lt) (.ref x :: st) σ Q := X_aloadn kX6_init_4 rfl rfl
theorem kX6_init_5 : aCode iX6_init 5 = some (.new 9, 3) := by decide +kernel
theorem sX6_init_5 {d : Nat} {σ : aS} {Q : aQ} {ls : aL} {st : List Value} : aX d iX6_init 5 (ls) (st) σ Q ↔ aX d iX6_init 8 (ls) (.ref σ.2.1 :: st) (anew σ (eO 5 [.null, .null, .null, .null, .int 0, .int 0, .int 0]) 7) Q := X_new (w := (25, 26, 8)) kX6_init_5 (by decide +kernel) (by decide +kernel) (by decide +kernel)
theorem kX6_init_8 : aCode iX6_init 8 = some (.dup, 1) := by decide +kernel
theorem sX6_init_8 {d : Nat} {σ : aS} {Q : aQ} {x : Nat} {ls : aL} {st : List Value} : aX d iX6_init 8 (ls) (.ref x :: st) σ Q ↔ aX d iX6_init 9 (ls) (.ref x :: .ref x :: st) σ Q := X_dup kX6_init_8 rfl
theorem sX6_init_8i {d : Nat} {σ : aS} {Q : aQ} {x : Int32} {ls : aL} {st : List Value} : aX d iX6_init 8 (ls) (.int x :: st) σ Q ↔ aX d iX6_init 9 (ls) (.int x :: .int x :: st) σ Q := X_dup kX6_init_8 rfl
theorem kX6_init_9 : aCode iX6_init 9 = some (.invokespecial 11, 3) := by decide +kernel
theorem sX6_init_9 {d : Nat} {σ : aS} {Q : aQ} {b : Nat} {v0 v1 : Value} {ls : aL} : aX (d + 1) iX6_init 9 (ls) (.ref b :: v0 :: v1 :: []) σ Q ↔ aIs σ b 5 ∧ aX d iX5_init 0 [some (.ref b), none] [] σ (fun r τ => aX (d + 1) iX6_init 12 (ls) (aret r (v0 :: v1 :: [])) τ Q) := X_invi (N := 0) (As := []) (k := 2) (w := 27) kX6_init_9 (by decide +kernel) (by decide) (by decide +kernel) rfl rfl (by simp only [List.length_cons, List.length_nil]; omega) (by simp only [List.length_cons, List.length_nil]; omega) (by decide +kernel) rfl (Nat.le_of_ble_eq_true rfl)
theorem kX6_init_12 : aCode iX6_init 12 = some (.putfield 12, 3) := by decide +kernel
theorem sX6_init_12 {d : Nat} {σ : aS} {Q : aQ} {x : Nat} {a : Nat} {ls : aL} {st : List Value} : aX d iX6_init 12 (ls) (.ref x :: .ref a :: st) σ Q ↔ ∃ fs, aFds σ a 6 = some fs ∧ 0 < fs.length ∧ aX d iX6_init 15 (ls) (st) (aput σ a (eO 6 (fs.set 0 (.ref x)))) Q := X_putf (w := 176) kX6_init_12 (by decide +kernel) (aFit_R (by decide +kernel)) (by decide +kernel)
theorem kX6_init_15 : aCode iX6_init 15 = some (.aload_n 0, 1) := by decide +kernel
theorem sX6_init_15 {d : Nat} {σ : aS} {Q : aQ} {x : Nat} {lt : aL} {st : List Value} : aX d iX6_init 15 (some (.ref x) :: lt) (st) σ Q ↔ aX d iX6_init 16 (some (.ref x) :: lt) (.ref x :: st) σ Q := X_aloadn kX6_init_15 rfl rfl
theorem kX6_init_16 : aCode iX6_init 16 = some (.new 16, 3) := by decide +kernel
theorem sX6_init_16 {d : Nat} {σ : aS} {Q : aQ} {ls : aL} {st : List Value} : aX d iX6_init 16 (ls) (st) σ Q ↔ aX d iX6_init 19 (ls) (.ref σ.2.1 :: st) (anew σ (eO 1 [.null, .null, .int 0]) 3) Q := X_new (w := (99, 100, 10)) kX6_init_16 (by decide +kernel) (by decide +kernel) (by decide +kernel)
theorem kX6_init_19 : aCode iX6_init 19 = some (.dup, 1) := by decide +kernel
theorem sX6_init_19 {d : Nat} {σ : aS} {Q : aQ} {x : Nat} {ls : aL} {st : List Value} : aX d iX6_init 19 (ls) (.ref x :: st) σ Q ↔ aX d iX6_init 20 (ls) (.ref x :: .ref x :: st) σ Q := X_dup kX6_init_19 rfl
theorem sX6_init_19i {d : Nat} {σ : aS} {Q : aQ} {x : Int32} {ls : aL} {st : List Value} : aX d iX6_init 19 (ls) (.int x :: st) σ Q ↔ aX d iX6_init 20 (ls) (.int x :: .int x :: st) σ Q := X_dup kX6_init_19 rfl
theorem kX6_init_20 : aCode iX6_init 20 = some (.invokespecial 18, 3) := by decide +kernel
theorem sX6_init_20 {d : Nat} {σ : aS} {Q : aQ} {b : Nat} {v0 v1 : Value} {ls : aL} : aX (d + 1) iX6_init 20 (ls) (.ref b :: v0 :: v1 :: []) σ Q ↔ aIs σ b 1 ∧ aX d iX1_init 0 [some (.ref b)] [] σ (fun r τ => aX (d + 1) iX6_init 23 (ls) (aret r (v0 :: v1 :: [])) τ Q) := X_invi (N := 0) (As := []) (k := 3) (w := 101) kX6_init_20 (by decide +kernel) (by decide) (by decide +kernel) rfl rfl (by simp only [List.length_cons, List.length_nil]; omega) (by simp only [List.length_cons, List.length_nil]; omega) (by decide +kernel) rfl (Nat.le_of_ble_eq_true rfl)
theorem kX6_init_23 : aCode iX6_init 23 = some (.putfield 19, 3) := by decide +kernel
theorem sX6_init_23 {d : Nat} {σ : aS} {Q : aQ} {x : Nat} {a : Nat} {ls : aL} {st : List Value} : aX d iX6_init 23 (ls) (.ref x :: .ref a :: st) σ Q ↔ ∃ fs, aFds σ a 6 = some fs ∧ 1 < fs.length ∧ aX d iX6_init 26 (ls) (st) (aput σ a (eO 6 (fs.set 1 (.ref x)))) Q := X_putf (w := 177) kX6_init_23 (by decide +kernel) (aFit_R (by decide +kernel)) (by decide +kernel)
theorem kX6_init_26 : aCode iX6_init 26 = some (.aload_n 0, 1) := by decide +kernel
theorem sX6_init_26 {d : Nat} {σ : aS} {Q : aQ} {x : Nat} {lt : aL} {st : List Value} : aX d iX6_init 26 (some (.ref x) :: lt) (st) σ Q ↔ aX d iX6_init 27 (some (.ref x) :: lt) (.ref x :: st) σ Q := X_aloadn kX6_init_26 rfl rfl
theorem kX6_init_27 : aCode iX6_init 27 = some (.new 23, 3) := by decide +kernel
theorem sX6_init_27 {d : Nat} {σ : aS} {Q : aQ} {ls : aL} {st : List Value} : aX d iX6_init 27 (ls) (st) σ Q ↔ aX d iX6_init 30 (ls) (.ref σ.2.1 :: st) (anew σ (eO 2 [.null, .int 0, .int 0]) 3) Q := X_new (w := (120, 121, 11)) kX6_init_27 (by decide +kernel) (by decide +kernel) (by decide +kernel)
theorem kX6_init_30 : aCode iX6_init 30 = some (.dup, 1) := by decide +kernel
theorem sX6_init_30 {d : Nat} {σ : aS} {Q : aQ} {x : Nat} {ls : aL} {st : List Value} : aX d iX6_init 30 (ls) (.ref x :: st) σ Q ↔ aX d iX6_init 31 (ls) (.ref x :: .ref x :: st) σ Q := X_dup kX6_init_30 rfl
theorem sX6_init_30i {d : Nat} {σ : aS} {Q : aQ} {x : Int32} {ls : aL} {st : List Value} : aX d iX6_init 30 (ls) (.int x :: st) σ Q ↔ aX d iX6_init 31 (ls) (.int x :: .int x :: st) σ Q := X_dup kX6_init_30 rfl
theorem kX6_init_31 : aCode iX6_init 31 = some (.invokespecial 25, 3) := by decide +kernel
theorem sX6_init_31 {d : Nat} {σ : aS} {Q : aQ} {b : Nat} {v0 v1 : Value} {ls : aL} : aX (d + 1) iX6_init 31 (ls) (.ref b :: v0 :: v1 :: []) σ Q ↔ aIs σ b 2 ∧ aX d iX2_init 0 [some (.ref b), none] [] σ (fun r τ => aX (d + 1) iX6_init 34 (ls) (aret r (v0 :: v1 :: [])) τ Q) := X_invi (N := 0) (As := []) (k := 2) (w := 122) kX6_init_31 (by decide +kernel) (by decide) (by decide +kernel) rfl rfl (by simp only [List.length_cons, List.length_nil]; omega) (by simp only [List.length_cons, List.length_nil]; omega) (by decide +kernel) rfl (Nat.le_of_ble_eq_true rfl)
theorem kX6_init_34 : aCode iX6_init 34 = some (.putfield 26, 3) := by decide +kernel
theorem sX6_init_34 {d : Nat} {σ : aS} {Q : aQ} {x : Nat} {a : Nat} {ls : aL} {st : List Value} : aX d iX6_init 34 (ls) (.ref x :: .ref a :: st) σ Q ↔ ∃ fs, aFds σ a 6 = some fs ∧ 2 < fs.length ∧ aX d iX6_init 37 (ls) (st) (aput σ a (eO 6 (fs.set 2 (.ref x)))) Q := X_putf (w := 178) kX6_init_34 (by decide +kernel) (aFit_R (by decide +kernel)) (by decide +kernel)
theorem kX6_init_37 : aCode iX6_init 37 = some (.aload_n 0, 1) := by decide +kernel
theorem sX6_init_37 {d : Nat} {σ : aS} {Q : aQ} {x : Nat} {lt : aL} {st : List Value} : aX d iX6_init 37 (some (.ref x) :: lt) (st) σ Q ↔ aX d iX6_init 38 (some (.ref x) :: lt) (.ref x :: st) σ Q := X_aloadn kX6_init_37 rfl rfl
theorem kX6_init_38 : aCode iX6_init 38 = some (.iconst 2, 1) := by decide +kernel
theorem sX6_init_38 {d : Nat} {σ : aS} {Q : aQ} {ls : aL} {st : List Value} : aX d iX6_init 38 (ls) (st) σ Q ↔ aX d iX6_init 39 (ls) (.int (nI 2) :: st) σ Q := X_iconst kX6_init_38 (by decide +kernel)
theorem kX6_init_39 : aCode iX6_init 39 = some (.anewarray 30, 3) := by decide +kernel
theorem sX6_init_39 {d : Nat} {σ : aS} {Q : aQ} {m : Nat} {ls : aL} {st : List Value} (hm : m ≤ 1000000) : aX d iX6_init 39 (ls) (.int (nI m) :: st) σ Q ↔ aX d iX6_init 42 (ls) (.ref σ.2.1 :: st) (anew σ (eQ 3 m (fun _ => none)) m) Q := X_anew (ci := 4) (w := (140, 163, 13)) kX6_init_39 (by decide +kernel) hm rfl
theorem kX6_init_42 : aCode iX6_init 42 = some (.putfield 32, 3) := by decide +kernel
theorem sX6_init_42 {d : Nat} {σ : aS} {Q : aQ} {x : Nat} {a : Nat} {ls : aL} {st : List Value} : aX d iX6_init 42 (ls) (.ref x :: .ref a :: st) σ Q ↔ ∃ fs, aFds σ a 6 = some fs ∧ 3 < fs.length ∧ aX d iX6_init 45 (ls) (st) (aput σ a (eO 6 (fs.set 3 (.ref x)))) Q := X_putf (w := 179) kX6_init_42 (by decide +kernel) (aFit_R (by decide +kernel)) (by decide +kernel)
theorem kX6_init_45 : aCode iX6_init 45 = some (.aload_n 0, 1) := by decide +kernel
theorem sX6_init_45 {d : Nat} {σ : aS} {Q : aQ} {x : Nat} {lt : aL} {st : List Value} : aX d iX6_init 45 (some (.ref x) :: lt) (st) σ Q ↔ aX d iX6_init 46 (some (.ref x) :: lt) (.ref x :: st) σ Q := X_aloadn kX6_init_45 rfl rfl
theorem kX6_init_46 : aCode iX6_init 46 = some (.new 36, 3) := by decide +kernel
theorem sX6_init_46 {d : Nat} {σ : aS} {Q : aQ} {ls : aL} {st : List Value} : aX d iX6_init 46 (ls) (st) σ Q ↔ aX d iX6_init 49 (ls) (.ref σ.2.1 :: st) (anew σ (eO 3 [.null, .int 0, .int 0, .int 0, .int 0, .int 0]) 6) Q := X_new (w := (142, 143, 12)) kX6_init_46 (by decide +kernel) (by decide +kernel) (by decide +kernel)
theorem kX6_init_49 : aCode iX6_init 49 = some (.dup, 1) := by decide +kernel
theorem sX6_init_49 {d : Nat} {σ : aS} {Q : aQ} {x : Nat} {ls : aL} {st : List Value} : aX d iX6_init 49 (ls) (.ref x :: st) σ Q ↔ aX d iX6_init 50 (ls) (.ref x :: .ref x :: st) σ Q := X_dup kX6_init_49 rfl
theorem sX6_init_49i {d : Nat} {σ : aS} {Q : aQ} {x : Int32} {ls : aL} {st : List Value} : aX d iX6_init 49 (ls) (.int x :: st) σ Q ↔ aX d iX6_init 50 (ls) (.int x :: .int x :: st) σ Q := X_dup kX6_init_49 rfl
theorem kX6_init_50 : aCode iX6_init 50 = some (.invokespecial 38, 3) := by decide +kernel
theorem sX6_init_50 {d : Nat} {σ : aS} {Q : aQ} {b : Nat} {v0 v1 : Value} {ls : aL} : aX (d + 1) iX6_init 50 (ls) (.ref b :: v0 :: v1 :: []) σ Q ↔ aIs σ b 3 ∧ aX d iX3_init 0 [some (.ref b)] [] σ (fun r τ => aX (d + 1) iX6_init 53 (ls) (aret r (v0 :: v1 :: [])) τ Q) := X_invi (N := 0) (As := []) (k := 3) (w := 144) kX6_init_50 (by decide +kernel) (by decide) (by decide +kernel) rfl rfl (by simp only [List.length_cons, List.length_nil]; omega) (by simp only [List.length_cons, List.length_nil]; omega) (by decide +kernel) rfl (Nat.le_of_ble_eq_true rfl)
theorem kX6_init_53 : aCode iX6_init 53 = some (.putfield 39, 3) := by decide +kernel
theorem sX6_init_53 {d : Nat} {σ : aS} {Q : aQ} {x : Nat} {a : Nat} {ls : aL} {st : List Value} : aX d iX6_init 53 (ls) (.ref x :: .ref a :: st) σ Q ↔ ∃ fs, aFds σ a 6 = some fs ∧ 4 < fs.length ∧ aX d iX6_init 56 (ls) (st) (aput σ a (eO 6 (fs.set 4 (.ref x)))) Q := X_putf (w := 180) kX6_init_53 (by decide +kernel) (aFit_R (by decide +kernel)) (by decide +kernel)
theorem kX6_init_56 : aCode iX6_init 56 = some (.iconst 0, 1) := by decide +kernel
theorem sX6_init_56 {d : Nat} {σ : aS} {Q : aQ} {ls : aL} {st : List Value} : aX d iX6_init 56 (ls) (st) σ Q ↔ aX d iX6_init 57 (ls) (.int (nI 0) :: st) σ Q := X_iconst kX6_init_56 (by decide +kernel)
theorem kX6_init_57 : aCode iX6_init 57 = some (.istore_n 1, 1) := by decide +kernel
theorem sX6_init_57 {d : Nat} {σ : aS} {Q : aQ} {l0 lo : Option Value} {x : Int32} {lt : aL} {st : List Value} : aX d iX6_init 57 (l0 :: lo :: lt) (.int x :: st) σ Q ↔ aX d iX6_init 58 (aclr l0 :: some (.int x) :: lt) (st) σ Q := X_istoren kX6_init_57 (by simp only [List.length_cons]; omega)
theorem kX6_init_58 : aCode iX6_init 58 = some (.iload_n 1, 1) := by decide +kernel
theorem sX6_init_58 {d : Nat} {σ : aS} {Q : aQ} {l0 : Option Value} {x : Int32} {lt : aL} {st : List Value} : aX d iX6_init 58 (l0 :: some (.int x) :: lt) (st) σ Q ↔ aX d iX6_init 59 (l0 :: some (.int x) :: lt) (.int x :: st) σ Q := X_iloadn kX6_init_58 rfl
theorem kX6_init_59 : aCode iX6_init 59 = some (.aload_n 0, 1) := by decide +kernel
theorem sX6_init_59 {d : Nat} {σ : aS} {Q : aQ} {x : Nat} {lt : aL} {st : List Value} : aX d iX6_init 59 (some (.ref x) :: lt) (st) σ Q ↔ aX d iX6_init 60 (some (.ref x) :: lt) (.ref x :: st) σ Q := X_aloadn kX6_init_59 rfl rfl
theorem kX6_init_60 : aCode iX6_init 60 = some (.getfield 32, 3) := by decide +kernel
theorem sX6_init_60 {d : Nat} {σ : aS} {Q : aQ} {a : Nat} {ls : aL} {st : List Value} : aX d iX6_init 60 (ls) (.ref a :: st) σ Q ↔ ∃ v, aFld σ a 6 3 = some v ∧ aX d iX6_init 63 (ls) (v :: st) σ Q := X_getf (w := 179) kX6_init_60 (by decide +kernel)
theorem kX6_init_63 : aCode iX6_init 63 = some (.arraylength, 1) := by decide +kernel
theorem sX6_init_63 {d : Nat} {σ : aS} {Q : aQ} {a : Nat} {ls : aL} {st : List Value} : aX d iX6_init 63 (ls) (.ref a :: st) σ Q ↔ ∃ m, aLn σ a = some m ∧ aX d iX6_init 64 (ls) (.int (nI m) :: st) σ Q := X_alen kX6_init_63
theorem kX6_init_64 : aCode iX6_init 64 = some (.if_icmp .ge 22, 3) := by decide +kernel
theorem sX6_init_64 {d : Nat} {σ : aS} {Q : aQ} {x y : Int32} {ls : aL} {st : List Value} : aX d iX6_init 64 (ls) (.int y :: .int x :: st) σ Q ↔ (if y ≤ x then aX d iX6_init 86 (ls) (st) σ Q else aX d iX6_init 67 (ls) (st) σ Q) := by rw [X_icmp kX6_init_64 (t := 86) (by decide)]; simp only [aCmp_ge]
theorem kX6_init_67 : aCode iX6_init 67 = some (.aload_n 0, 1) := by decide +kernel
theorem sX6_init_67 {d : Nat} {σ : aS} {Q : aQ} {x : Nat} {lt : aL} {st : List Value} : aX d iX6_init 67 (some (.ref x) :: lt) (st) σ Q ↔ aX d iX6_init 68 (some (.ref x) :: lt) (.ref x :: st) σ Q := X_aloadn kX6_init_67 rfl rfl
theorem kX6_init_68 : aCode iX6_init 68 = some (.getfield 32, 3) := by decide +kernel
theorem sX6_init_68 {d : Nat} {σ : aS} {Q : aQ} {a : Nat} {ls : aL} {st : List Value} : aX d iX6_init 68 (ls) (.ref a :: st) σ Q ↔ ∃ v, aFld σ a 6 3 = some v ∧ aX d iX6_init 71 (ls) (v :: st) σ Q := X_getf (w := 179) kX6_init_68 (by decide +kernel)
theorem kX6_init_71 : aCode iX6_init 71 = some (.iload_n 1, 1) := by decide +kernel
theorem sX6_init_71 {d : Nat} {σ : aS} {Q : aQ} {l0 : Option Value} {x : Int32} {lt : aL} {st : List Value} : aX d iX6_init 71 (l0 :: some (.int x) :: lt) (st) σ Q ↔ aX d iX6_init 72 (l0 :: some (.int x) :: lt) (.int x :: st) σ Q := X_iloadn kX6_init_71 rfl
theorem kX6_init_72 : aCode iX6_init 72 = some (.new 30, 3) := by decide +kernel
theorem sX6_init_72 {d : Nat} {σ : aS} {Q : aQ} {ls : aL} {st : List Value} : aX d iX6_init 72 (ls) (st) σ Q ↔ aX d iX6_init 75 (ls) (.ref σ.2.1 :: st) (anew σ (eO 4 [.null, .int 0]) 2) Q := X_new (w := (140, 163, 13)) kX6_init_72 (by decide +kernel) (by decide +kernel) (by decide +kernel)
theorem kX6_init_75 : aCode iX6_init 75 = some (.dup, 1) := by decide +kernel
theorem sX6_init_75 {d : Nat} {σ : aS} {Q : aQ} {x : Nat} {ls : aL} {st : List Value} : aX d iX6_init 75 (ls) (.ref x :: st) σ Q ↔ aX d iX6_init 76 (ls) (.ref x :: .ref x :: st) σ Q := X_dup kX6_init_75 rfl
theorem sX6_init_75i {d : Nat} {σ : aS} {Q : aQ} {x : Int32} {ls : aL} {st : List Value} : aX d iX6_init 75 (ls) (.int x :: st) σ Q ↔ aX d iX6_init 76 (ls) (.int x :: .int x :: st) σ Q := X_dup kX6_init_75 rfl
theorem kX6_init_76 : aCode iX6_init 76 = some (.invokespecial 43, 3) := by decide +kernel
theorem sX6_init_76 {d : Nat} {σ : aS} {Q : aQ} {b : Nat} {v0 v1 v2 : Value} {ls : aL} : aX (d + 1) iX6_init 76 (ls) (.ref b :: v0 :: v1 :: v2 :: []) σ Q ↔ aIs σ b 4 ∧ aX d iX4_init 0 [some (.ref b)] [] σ (fun r τ => aX (d + 1) iX6_init 79 (ls) (aret r (v0 :: v1 :: v2 :: [])) τ Q) := X_invi (N := 0) (As := []) (k := 3) (w := 164) kX6_init_76 (by decide +kernel) (by decide) (by decide +kernel) rfl rfl (by simp only [List.length_cons, List.length_nil]; omega) (by simp only [List.length_cons, List.length_nil]; omega) (by decide +kernel) rfl (Nat.le_of_ble_eq_true rfl)
theorem kX6_init_79 : aCode iX6_init 79 = some (.aastore, 1) := by decide +kernel
theorem sX6_init_79 {d : Nat} {σ : aS} {Q : aQ} {a v : Nat} {i : Int32} {j m ci : Nat} {f : Nat → Option Nat} {fs : List Value} {ls : aL} {st : List Value} (ha : σ.1 a = some (eQ j m f)) (hv : σ.1 v = some (eO ci fs)) (hi : vp_in i m) (hj : aQj ci = j ∧ aQc j = ci) : aX d iX6_init 79 (ls) (.ref v :: .int i :: .ref a :: st) σ Q ↔ aX d iX6_init 80 (ls) (st) (aput σ a (eQ j m (va_up f i.toNatClampNeg (some v)))) Q := X_aastore kX6_init_79 ha hv hi hj
theorem kX6_init_80 : aCode iX6_init 80 = some (.iinc 1 1, 3) := by decide +kernel
theorem sX6_init_80 {d : Nat} {σ : aS} {Q : aQ} {l0 : Option Value} {x : Int32} {lt : aL} {st : List Value} : aX d iX6_init 80 (l0 :: some (.int x) :: lt) (st) σ Q ↔ aX d iX6_init 83 (aclr l0 :: some (.int (x + nI 1)) :: lt) (st) σ Q := X_iinc kX6_init_80 rfl (by decide +kernel)
theorem kX6_init_83 : aCode iX6_init 83 = some (.goto (-25), 3) := by decide +kernel
theorem sX6_init_83 {d : Nat} {σ : aS} {Q : aQ} {ls : aL} {st : List Value} : aX d iX6_init 83 (ls) (st) σ Q ↔ aX d iX6_init 58 (ls) (st) σ Q := X_goto kX6_init_83 (by decide)
theorem kX6_init_86 : aCode iX6_init 86 = some (.return_, 1) := by decide +kernel
theorem sX6_init_86 {d : Nat} {σ : aS} {Q : aQ} {ls : aL} : aX d iX6_init 86 (ls) ([]) σ Q ↔ Q none σ := X_vret kX6_init_86 (by decide +kernel)
theorem kX6_teach_0 : aCode iX6_teach 0 = some (.aload_n 0, 1) := by decide +kernel
theorem sX6_teach_0 {d : Nat} {σ : aS} {Q : aQ} {x : Nat} {lt : aL} {st : List Value} : aX d iX6_teach 0 (some (.ref x) :: lt) (st) σ Q ↔ aX d iX6_teach 1 (some (.ref x) :: lt) (.ref x :: st) σ Q := X_aloadn kX6_teach_0 rfl rfl
theorem kX6_teach_1 : aCode iX6_teach 1 = some (.getfield 26, 3) := by decide +kernel
theorem sX6_teach_1 {d : Nat} {σ : aS} {Q : aQ} {a : Nat} {ls : aL} {st : List Value} : aX d iX6_teach 1 (ls) (.ref a :: st) σ Q ↔ ∃ v, aFld σ a 6 2 = some v ∧ aX d iX6_teach 4 (ls) (v :: st) σ Q := X_getf (w := 178) kX6_teach_1 (by decide +kernel)
theorem kX6_teach_4 : aCode iX6_teach 4 = some (.aload_n 0, 1) := by decide +kernel
theorem sX6_teach_4 {d : Nat} {σ : aS} {Q : aQ} {x : Nat} {lt : aL} {st : List Value} : aX d iX6_teach 4 (some (.ref x) :: lt) (st) σ Q ↔ aX d iX6_teach 5 (some (.ref x) :: lt) (.ref x :: st) σ Q := X_aloadn kX6_teach_4 rfl rfl
theorem kX6_teach_5 : aCode iX6_teach 5 = some (.getfield 12, 3) := by decide +kernel
theorem sX6_teach_5 {d : Nat} {σ : aS} {Q : aQ} {a : Nat} {ls : aL} {st : List Value} : aX d iX6_teach 5 (ls) (.ref a :: st) σ Q ↔ ∃ v, aFld σ a 6 0 = some v ∧ aX d iX6_teach 8 (ls) (v :: st) σ Q := X_getf (w := 176) kX6_teach_5 (by decide +kernel)
theorem kX6_teach_8 : aCode iX6_teach 8 = some (.invokevirtual 44, 3) := by decide +kernel
theorem sX6_teach_8 {d : Nat} {σ : aS} {Q : aQ} {b : Nat} {p0 : Nat} {ls : aL} : aX (d + 1) iX6_teach 8 (ls) (.ref p0 :: .ref b :: []) σ Q ↔ aIs σ b 2 ∧ aX d iX2_prepare 0 [some (.ref b), some (.ref p0), none] [] σ (fun r τ => aX (d + 1) iX6_teach 11 (ls) (aret r ([])) τ Q) := X_invv (N := 1) (As := [.ref p0]) (w := 196) kX6_teach_8 (by decide +kernel) (by decide +kernel) rfl rfl (by simp only [List.length_cons, List.length_nil]; omega) (by simp only [List.length_cons, List.length_nil]; omega) (by decide +kernel) rfl (Nat.le_of_ble_eq_true rfl)
theorem kX6_teach_11 : aCode iX6_teach 11 = some (.aload_n 0, 1) := by decide +kernel
theorem sX6_teach_11 {d : Nat} {σ : aS} {Q : aQ} {x : Nat} {lt : aL} {st : List Value} : aX d iX6_teach 11 (some (.ref x) :: lt) (st) σ Q ↔ aX d iX6_teach 12 (some (.ref x) :: lt) (.ref x :: st) σ Q := X_aloadn kX6_teach_11 rfl rfl
theorem kX6_teach_12 : aCode iX6_teach 12 = some (.getfield 26, 3) := by decide +kernel
theorem sX6_teach_12 {d : Nat} {σ : aS} {Q : aQ} {a : Nat} {ls : aL} {st : List Value} : aX d iX6_teach 12 (ls) (.ref a :: st) σ Q ↔ ∃ v, aFld σ a 6 2 = some v ∧ aX d iX6_teach 15 (ls) (v :: st) σ Q := X_getf (w := 178) kX6_teach_12 (by decide +kernel)
theorem kX6_teach_15 : aCode iX6_teach 15 = some (.aload_n 0, 1) := by decide +kernel
theorem sX6_teach_15 {d : Nat} {σ : aS} {Q : aQ} {x : Nat} {lt : aL} {st : List Value} : aX d iX6_teach 15 (some (.ref x) :: lt) (st) σ Q ↔ aX d iX6_teach 16 (some (.ref x) :: lt) (.ref x :: st) σ Q := X_aloadn kX6_teach_15 rfl rfl
theorem kX6_teach_16 : aCode iX6_teach 16 = some (.getfield 12, 3) := by decide +kernel
theorem sX6_teach_16 {d : Nat} {σ : aS} {Q : aQ} {a : Nat} {ls : aL} {st : List Value} : aX d iX6_teach 16 (ls) (.ref a :: st) σ Q ↔ ∃ v, aFld σ a 6 0 = some v ∧ aX d iX6_teach 19 (ls) (v :: st) σ Q := X_getf (w := 176) kX6_teach_16 (by decide +kernel)
theorem kX6_teach_19 : aCode iX6_teach 19 = some (.iload_n 1, 1) := by decide +kernel
theorem sX6_teach_19 {d : Nat} {σ : aS} {Q : aQ} {l0 : Option Value} {x : Int32} {lt : aL} {st : List Value} : aX d iX6_teach 19 (l0 :: some (.int x) :: lt) (st) σ Q ↔ aX d iX6_teach 20 (l0 :: some (.int x) :: lt) (.int x :: st) σ Q := X_iloadn kX6_teach_19 rfl
theorem kX6_teach_20 : aCode iX6_teach 20 = some (.iload_n 2, 1) := by decide +kernel
theorem sX6_teach_20 {d : Nat} {σ : aS} {Q : aQ} {l0 l1 : Option Value} {x : Int32} {lt : aL} {st : List Value} : aX d iX6_teach 20 (l0 :: l1 :: some (.int x) :: lt) (st) σ Q ↔ aX d iX6_teach 21 (l0 :: l1 :: some (.int x) :: lt) (.int x :: st) σ Q := X_iloadn kX6_teach_20 rfl
theorem kX6_teach_21 : aCode iX6_teach 21 = some (.invokevirtual 48, 3) := by decide +kernel
theorem sX6_teach_21 {d : Nat} {σ : aS} {Q : aQ} {b : Nat} {p0 : Int32} {p1 : Int32} {v0 : Value} {ls : aL} : aX (d + 1) iX6_teach 21 (ls) (.int p1 :: .int p0 :: .ref b :: v0 :: []) σ Q ↔ aIs σ b 5 ∧ aX d iX5_changeFeatures 0 [some (.ref b), some (.int p0), some (.int p1), none] [] σ (fun r τ => aX (d + 1) iX6_teach 24 (ls) (aret r (v0 :: [])) τ Q) := X_invv (N := 2) (As := [.int p1, .int p0]) (w := 226) kX6_teach_21 (by decide +kernel) (by decide +kernel) rfl rfl (by simp only [List.length_cons, List.length_nil]; omega) (by simp only [List.length_cons, List.length_nil]; omega) (by decide +kernel) rfl (Nat.le_of_ble_eq_true rfl)
theorem kX6_teach_24 : aCode iX6_teach 24 = some (.invokevirtual 52, 3) := by decide +kernel
theorem sX6_teach_24 {d : Nat} {σ : aS} {Q : aQ} {b : Nat} {p0 : Int32} {ls : aL} : aX (d + 1) iX6_teach 24 (ls) (.int p0 :: .ref b :: []) σ Q ↔ aIs σ b 2 ∧ aX d iX2_recordUnlessError 0 [some (.ref b), some (.int p0)] [] σ (fun r τ => aX (d + 1) iX6_teach 27 (ls) (aret r ([])) τ Q) := X_invv (N := 1) (As := [.int p0]) (w := 239) kX6_teach_24 (by decide +kernel) (by decide +kernel) rfl rfl (by simp only [List.length_cons, List.length_nil]; omega) (by simp only [List.length_cons, List.length_nil]; omega) (by decide +kernel) rfl (Nat.le_of_ble_eq_true rfl)
theorem kX6_teach_27 : aCode iX6_teach 27 = some (.ireturn, 1) := by decide +kernel
theorem sX6_teach_27 {d : Nat} {σ : aS} {Q : aQ} {v : Int32} {ls : aL} : aX d iX6_teach 27 (ls) ([.int v]) σ Q ↔ Q (some (.int v)) σ := X_iret kX6_teach_27 (by decide +kernel)
theorem kX6_sit_0 : aCode iX6_sit 0 = some (.aload_n 0, 1) := by decide +kernel
theorem sX6_sit_0 {d : Nat} {σ : aS} {Q : aQ} {x : Nat} {lt : aL} {st : List Value} : aX d iX6_sit 0 (some (.ref x) :: lt) (st) σ Q ↔ aX d iX6_sit 1 (some (.ref x) :: lt) (.ref x :: st) σ Q := X_aloadn kX6_sit_0 rfl rfl
theorem kX6_sit_1 : aCode iX6_sit 1 = some (.getfield 26, 3) := by decide +kernel
theorem sX6_sit_1 {d : Nat} {σ : aS} {Q : aQ} {a : Nat} {ls : aL} {st : List Value} : aX d iX6_sit 1 (ls) (.ref a :: st) σ Q ↔ ∃ v, aFld σ a 6 2 = some v ∧ aX d iX6_sit 4 (ls) (v :: st) σ Q := X_getf (w := 178) kX6_sit_1 (by decide +kernel)
theorem kX6_sit_4 : aCode iX6_sit 4 = some (.aload_n 0, 1) := by decide +kernel
theorem sX6_sit_4 {d : Nat} {σ : aS} {Q : aQ} {x : Nat} {lt : aL} {st : List Value} : aX d iX6_sit 4 (some (.ref x) :: lt) (st) σ Q ↔ aX d iX6_sit 5 (some (.ref x) :: lt) (.ref x :: st) σ Q := X_aloadn kX6_sit_4 rfl rfl
theorem kX6_sit_5 : aCode iX6_sit 5 = some (.getfield 12, 3) := by decide +kernel
theorem sX6_sit_5 {d : Nat} {σ : aS} {Q : aQ} {a : Nat} {ls : aL} {st : List Value} : aX d iX6_sit 5 (ls) (.ref a :: st) σ Q ↔ ∃ v, aFld σ a 6 0 = some v ∧ aX d iX6_sit 8 (ls) (v :: st) σ Q := X_getf (w := 176) kX6_sit_5 (by decide +kernel)
theorem kX6_sit_8 : aCode iX6_sit 8 = some (.invokevirtual 44, 3) := by decide +kernel
theorem sX6_sit_8 {d : Nat} {σ : aS} {Q : aQ} {b : Nat} {p0 : Nat} {ls : aL} : aX (d + 1) iX6_sit 8 (ls) (.ref p0 :: .ref b :: []) σ Q ↔ aIs σ b 2 ∧ aX d iX2_prepare 0 [some (.ref b), some (.ref p0), none] [] σ (fun r τ => aX (d + 1) iX6_sit 11 (ls) (aret r ([])) τ Q) := X_invv (N := 1) (As := [.ref p0]) (w := 196) kX6_sit_8 (by decide +kernel) (by decide +kernel) rfl rfl (by simp only [List.length_cons, List.length_nil]; omega) (by simp only [List.length_cons, List.length_nil]; omega) (by decide +kernel) rfl (Nat.le_of_ble_eq_true rfl)
theorem kX6_sit_11 : aCode iX6_sit 11 = some (.aload_n 0, 1) := by decide +kernel
theorem sX6_sit_11 {d : Nat} {σ : aS} {Q : aQ} {x : Nat} {lt : aL} {st : List Value} : aX d iX6_sit 11 (some (.ref x) :: lt) (st) σ Q ↔ aX d iX6_sit 12 (some (.ref x) :: lt) (.ref x :: st) σ Q := X_aloadn kX6_sit_11 rfl rfl
theorem kX6_sit_12 : aCode iX6_sit 12 = some (.getfield 26, 3) := by decide +kernel
theorem sX6_sit_12 {d : Nat} {σ : aS} {Q : aQ} {a : Nat} {ls : aL} {st : List Value} : aX d iX6_sit 12 (ls) (.ref a :: st) σ Q ↔ ∃ v, aFld σ a 6 2 = some v ∧ aX d iX6_sit 15 (ls) (v :: st) σ Q := X_getf (w := 178) kX6_sit_12 (by decide +kernel)
theorem kX6_sit_15 : aCode iX6_sit 15 = some (.aload_n 0, 1) := by decide +kernel
theorem sX6_sit_15 {d : Nat} {σ : aS} {Q : aQ} {x : Nat} {lt : aL} {st : List Value} : aX d iX6_sit 15 (some (.ref x) :: lt) (st) σ Q ↔ aX d iX6_sit 16 (some (.ref x) :: lt) (.ref x :: st) σ Q := X_aloadn kX6_sit_15 rfl rfl
theorem kX6_sit_16 : aCode iX6_sit 16 = some (.getfield 12, 3) := by decide +kernel
theorem sX6_sit_16 {d : Nat} {σ : aS} {Q : aQ} {a : Nat} {ls : aL} {st : List Value} : aX d iX6_sit 16 (ls) (.ref a :: st) σ Q ↔ ∃ v, aFld σ a 6 0 = some v ∧ aX d iX6_sit 19 (ls) (v :: st) σ Q := X_getf (w := 176) kX6_sit_16 (by decide +kernel)
theorem kX6_sit_19 : aCode iX6_sit 19 = some (.iload_n 1, 1) := by decide +kernel
theorem sX6_sit_19 {d : Nat} {σ : aS} {Q : aQ} {l0 : Option Value} {x : Int32} {lt : aL} {st : List Value} : aX d iX6_sit 19 (l0 :: some (.int x) :: lt) (st) σ Q ↔ aX d iX6_sit 20 (l0 :: some (.int x) :: lt) (.int x :: st) σ Q := X_iloadn kX6_sit_19 rfl
theorem kX6_sit_20 : aCode iX6_sit 20 = some (.iload_n 2, 1) := by decide +kernel
theorem sX6_sit_20 {d : Nat} {σ : aS} {Q : aQ} {l0 l1 : Option Value} {x : Int32} {lt : aL} {st : List Value} : aX d iX6_sit 20 (l0 :: l1 :: some (.int x) :: lt) (st) σ Q ↔ aX d iX6_sit 21 (l0 :: l1 :: some (.int x) :: lt) (.int x :: st) σ Q := X_iloadn kX6_sit_20 rfl
theorem kX6_sit_21 : aCode iX6_sit 21 = some (.invokevirtual 56, 3) := by decide +kernel
theorem sX6_sit_21 {d : Nat} {σ : aS} {Q : aQ} {b : Nat} {p0 : Int32} {p1 : Int32} {v0 : Value} {ls : aL} : aX (d + 1) iX6_sit 21 (ls) (.int p1 :: .int p0 :: .ref b :: v0 :: []) σ Q ↔ aIs σ b 5 ∧ aX d iX5_sitDown 0 [some (.ref b), some (.int p0), some (.int p1)] [] σ (fun r τ => aX (d + 1) iX6_sit 24 (ls) (aret r (v0 :: [])) τ Q) := X_invv (N := 2) (As := [.int p1, .int p0]) (w := 247) kX6_sit_21 (by decide +kernel) (by decide +kernel) rfl rfl (by simp only [List.length_cons, List.length_nil]; omega) (by simp only [List.length_cons, List.length_nil]; omega) (by decide +kernel) rfl (Nat.le_of_ble_eq_true rfl)
theorem kX6_sit_24 : aCode iX6_sit 24 = some (.invokevirtual 52, 3) := by decide +kernel
theorem sX6_sit_24 {d : Nat} {σ : aS} {Q : aQ} {b : Nat} {p0 : Int32} {ls : aL} : aX (d + 1) iX6_sit 24 (ls) (.int p0 :: .ref b :: []) σ Q ↔ aIs σ b 2 ∧ aX d iX2_recordUnlessError 0 [some (.ref b), some (.int p0)] [] σ (fun r τ => aX (d + 1) iX6_sit 27 (ls) (aret r ([])) τ Q) := X_invv (N := 1) (As := [.int p0]) (w := 239) kX6_sit_24 (by decide +kernel) (by decide +kernel) rfl rfl (by simp only [List.length_cons, List.length_nil]; omega) (by simp only [List.length_cons, List.length_nil]; omega) (by decide +kernel) rfl (Nat.le_of_ble_eq_true rfl)
theorem kX6_sit_27 : aCode iX6_sit 27 = some (.ireturn, 1) := by decide +kernel
theorem sX6_sit_27 {d : Nat} {σ : aS} {Q : aQ} {v : Int32} {ls : aL} : aX d iX6_sit 27 (ls) ([.int v]) σ Q ↔ Q (some (.int v)) σ := X_iret kX6_sit_27 (by decide +kernel)
theorem kX6_leave_0 : aCode iX6_leave 0 = some (.aload_n 0, 1) := by decide +kernel
theorem sX6_leave_0 {d : Nat} {σ : aS} {Q : aQ} {x : Nat} {lt : aL} {st : List Value} : aX d iX6_leave 0 (some (.ref x) :: lt) (st) σ Q ↔ aX d iX6_leave 1 (some (.ref x) :: lt) (.ref x :: st) σ Q := X_aloadn kX6_leave_0 rfl rfl
theorem kX6_leave_1 : aCode iX6_leave 1 = some (.getfield 26, 3) := by decide +kernel
theorem sX6_leave_1 {d : Nat} {σ : aS} {Q : aQ} {a : Nat} {ls : aL} {st : List Value} : aX d iX6_leave 1 (ls) (.ref a :: st) σ Q ↔ ∃ v, aFld σ a 6 2 = some v ∧ aX d iX6_leave 4 (ls) (v :: st) σ Q := X_getf (w := 178) kX6_leave_1 (by decide +kernel)
theorem kX6_leave_4 : aCode iX6_leave 4 = some (.aload_n 0, 1) := by decide +kernel
theorem sX6_leave_4 {d : Nat} {σ : aS} {Q : aQ} {x : Nat} {lt : aL} {st : List Value} : aX d iX6_leave 4 (some (.ref x) :: lt) (st) σ Q ↔ aX d iX6_leave 5 (some (.ref x) :: lt) (.ref x :: st) σ Q := X_aloadn kX6_leave_4 rfl rfl
theorem kX6_leave_5 : aCode iX6_leave 5 = some (.getfield 12, 3) := by decide +kernel
theorem sX6_leave_5 {d : Nat} {σ : aS} {Q : aQ} {a : Nat} {ls : aL} {st : List Value} : aX d iX6_leave 5 (ls) (.ref a :: st) σ Q ↔ ∃ v, aFld σ a 6 0 = some v ∧ aX d iX6_leave 8 (ls) (v :: st) σ Q := X_getf (w := 176) kX6_leave_5 (by decide +kernel)
theorem kX6_leave_8 : aCode iX6_leave 8 = some (.invokevirtual 44, 3) := by decide +kernel
theorem sX6_leave_8 {d : Nat} {σ : aS} {Q : aQ} {b : Nat} {p0 : Nat} {ls : aL} : aX (d + 1) iX6_leave 8 (ls) (.ref p0 :: .ref b :: []) σ Q ↔ aIs σ b 2 ∧ aX d iX2_prepare 0 [some (.ref b), some (.ref p0), none] [] σ (fun r τ => aX (d + 1) iX6_leave 11 (ls) (aret r ([])) τ Q) := X_invv (N := 1) (As := [.ref p0]) (w := 196) kX6_leave_8 (by decide +kernel) (by decide +kernel) rfl rfl (by simp only [List.length_cons, List.length_nil]; omega) (by simp only [List.length_cons, List.length_nil]; omega) (by decide +kernel) rfl (Nat.le_of_ble_eq_true rfl)
theorem kX6_leave_11 : aCode iX6_leave 11 = some (.aload_n 0, 1) := by decide +kernel
theorem sX6_leave_11 {d : Nat} {σ : aS} {Q : aQ} {x : Nat} {lt : aL} {st : List Value} : aX d iX6_leave 11 (some (.ref x) :: lt) (st) σ Q ↔ aX d iX6_leave 12 (some (.ref x) :: lt) (.ref x :: st) σ Q := X_aloadn kX6_leave_11 rfl rfl
theorem kX6_leave_12 : aCode iX6_leave 12 = some (.getfield 26, 3) := by decide +kernel
theorem sX6_leave_12 {d : Nat} {σ : aS} {Q : aQ} {a : Nat} {ls : aL} {st : List Value} : aX d iX6_leave 12 (ls) (.ref a :: st) σ Q ↔ ∃ v, aFld σ a 6 2 = some v ∧ aX d iX6_leave 15 (ls) (v :: st) σ Q := X_getf (w := 178) kX6_leave_12 (by decide +kernel)
theorem kX6_leave_15 : aCode iX6_leave 15 = some (.aload_n 0, 1) := by decide +kernel
theorem sX6_leave_15 {d : Nat} {σ : aS} {Q : aQ} {x : Nat} {lt : aL} {st : List Value} : aX d iX6_leave 15 (some (.ref x) :: lt) (st) σ Q ↔ aX d iX6_leave 16 (some (.ref x) :: lt) (.ref x :: st) σ Q := X_aloadn kX6_leave_15 rfl rfl
theorem kX6_leave_16 : aCode iX6_leave 16 = some (.getfield 12, 3) := by decide +kernel
theorem sX6_leave_16 {d : Nat} {σ : aS} {Q : aQ} {a : Nat} {ls : aL} {st : List Value} : aX d iX6_leave 16 (ls) (.ref a :: st) σ Q ↔ ∃ v, aFld σ a 6 0 = some v ∧ aX d iX6_leave 19 (ls) (v :: st) σ Q := X_getf (w := 176) kX6_leave_16 (by decide +kernel)
theorem kX6_leave_19 : aCode iX6_leave 19 = some (.iload_n 1, 1) := by decide +kernel
theorem sX6_leave_19 {d : Nat} {σ : aS} {Q : aQ} {l0 : Option Value} {x : Int32} {lt : aL} {st : List Value} : aX d iX6_leave 19 (l0 :: some (.int x) :: lt) (st) σ Q ↔ aX d iX6_leave 20 (l0 :: some (.int x) :: lt) (.int x :: st) σ Q := X_iloadn kX6_leave_19 rfl
theorem kX6_leave_20 : aCode iX6_leave 20 = some (.invokevirtual 59, 3) := by decide +kernel
theorem sX6_leave_20 {d : Nat} {σ : aS} {Q : aQ} {b : Nat} {p0 : Int32} {v0 : Value} {ls : aL} : aX (d + 1) iX6_leave 20 (ls) (.int p0 :: .ref b :: v0 :: []) σ Q ↔ aIs σ b 5 ∧ aX d iX5_standUp 0 [some (.ref b), some (.int p0)] [] σ (fun r τ => aX (d + 1) iX6_leave 23 (ls) (aret r (v0 :: [])) τ Q) := X_invv (N := 1) (As := [.int p0]) (w := 261) kX6_leave_20 (by decide +kernel) (by decide +kernel) rfl rfl (by simp only [List.length_cons, List.length_nil]; omega) (by simp only [List.length_cons, List.length_nil]; omega) (by decide +kernel) rfl (Nat.le_of_ble_eq_true rfl)
theorem kX6_leave_23 : aCode iX6_leave 23 = some (.invokevirtual 52, 3) := by decide +kernel
theorem sX6_leave_23 {d : Nat} {σ : aS} {Q : aQ} {b : Nat} {p0 : Int32} {ls : aL} : aX (d + 1) iX6_leave 23 (ls) (.int p0 :: .ref b :: []) σ Q ↔ aIs σ b 2 ∧ aX d iX2_recordUnlessError 0 [some (.ref b), some (.int p0)] [] σ (fun r τ => aX (d + 1) iX6_leave 26 (ls) (aret r ([])) τ Q) := X_invv (N := 1) (As := [.int p0]) (w := 239) kX6_leave_23 (by decide +kernel) (by decide +kernel) rfl rfl (by simp only [List.length_cons, List.length_nil]; omega) (by simp only [List.length_cons, List.length_nil]; omega) (by decide +kernel) rfl (Nat.le_of_ble_eq_true rfl)
theorem kX6_leave_26 : aCode iX6_leave 26 = some (.ireturn, 1) := by decide +kernel
theorem sX6_leave_26 {d : Nat} {σ : aS} {Q : aQ} {v : Int32} {ls : aL} : aX d iX6_leave 26 (ls) ([.int v]) σ Q ↔ Q (some (.int v)) σ := X_iret kX6_leave_26 (by decide +kernel)
theorem kX6_begin_0 : aCode iX6_begin 0 = some (.aload_n 0, 1) := by decide +kernel
theorem sX6_begin_0 {d : Nat} {σ : aS} {Q : aQ} {x : Nat} {lt : aL} {st : List Value} : aX d iX6_begin 0 (some (.ref x) :: lt) (st) σ Q ↔ aX d iX6_begin 1 (some (.ref x) :: lt) (.ref x :: st) σ Q := X_aloadn kX6_begin_0 rfl rfl
theorem kX6_begin_1 : aCode iX6_begin 1 = some (.getfield 26, 3) := by decide +kernel
theorem sX6_begin_1 {d : Nat} {σ : aS} {Q : aQ} {a : Nat} {ls : aL} {st : List Value} : aX d iX6_begin 1 (ls) (.ref a :: st) σ Q ↔ ∃ v, aFld σ a 6 2 = some v ∧ aX d iX6_begin 4 (ls) (v :: st) σ Q := X_getf (w := 178) kX6_begin_1 (by decide +kernel)
theorem kX6_begin_4 : aCode iX6_begin 4 = some (.aload_n 0, 1) := by decide +kernel
theorem sX6_begin_4 {d : Nat} {σ : aS} {Q : aQ} {x : Nat} {lt : aL} {st : List Value} : aX d iX6_begin 4 (some (.ref x) :: lt) (st) σ Q ↔ aX d iX6_begin 5 (some (.ref x) :: lt) (.ref x :: st) σ Q := X_aloadn kX6_begin_4 rfl rfl
theorem kX6_begin_5 : aCode iX6_begin 5 = some (.getfield 12, 3) := by decide +kernel
theorem sX6_begin_5 {d : Nat} {σ : aS} {Q : aQ} {a : Nat} {ls : aL} {st : List Value} : aX d iX6_begin 5 (ls) (.ref a :: st) σ Q ↔ ∃ v, aFld σ a 6 0 = some v ∧ aX d iX6_begin 8 (ls) (v :: st) σ Q := X_getf (w := 176) kX6_begin_5 (by decide +kernel)
theorem kX6_begin_8 : aCode iX6_begin 8 = some (.invokevirtual 44, 3) := by decide +kernel
theorem sX6_begin_8 {d : Nat} {σ : aS} {Q : aQ} {b : Nat} {p0 : Nat} {ls : aL} : aX (d + 1) iX6_begin 8 (ls) (.ref p0 :: .ref b :: []) σ Q ↔ aIs σ b 2 ∧ aX d iX2_prepare 0 [some (.ref b), some (.ref p0), none] [] σ (fun r τ => aX (d + 1) iX6_begin 11 (ls) (aret r ([])) τ Q) := X_invv (N := 1) (As := [.ref p0]) (w := 196) kX6_begin_8 (by decide +kernel) (by decide +kernel) rfl rfl (by simp only [List.length_cons, List.length_nil]; omega) (by simp only [List.length_cons, List.length_nil]; omega) (by decide +kernel) rfl (Nat.le_of_ble_eq_true rfl)
theorem kX6_begin_11 : aCode iX6_begin 11 = some (.aload_n 0, 1) := by decide +kernel
theorem sX6_begin_11 {d : Nat} {σ : aS} {Q : aQ} {x : Nat} {lt : aL} {st : List Value} : aX d iX6_begin 11 (some (.ref x) :: lt) (st) σ Q ↔ aX d iX6_begin 12 (some (.ref x) :: lt) (.ref x :: st) σ Q := X_aloadn kX6_begin_11 rfl rfl
theorem kX6_begin_12 : aCode iX6_begin 12 = some (.getfield 26, 3) := by decide +kernel
theorem sX6_begin_12 {d : Nat} {σ : aS} {Q : aQ} {a : Nat} {ls : aL} {st : List Value} : aX d iX6_begin 12 (ls) (.ref a :: st) σ Q ↔ ∃ v, aFld σ a 6 2 = some v ∧ aX d iX6_begin 15 (ls) (v :: st) σ Q := X_getf (w := 178) kX6_begin_12 (by decide +kernel)
theorem kX6_begin_15 : aCode iX6_begin 15 = some (.aload_n 0, 1) := by decide +kernel
theorem sX6_begin_15 {d : Nat} {σ : aS} {Q : aQ} {x : Nat} {lt : aL} {st : List Value} : aX d iX6_begin 15 (some (.ref x) :: lt) (st) σ Q ↔ aX d iX6_begin 16 (some (.ref x) :: lt) (.ref x :: st) σ Q := X_aloadn kX6_begin_15 rfl rfl
theorem kX6_begin_16 : aCode iX6_begin 16 = some (.getfield 12, 3) := by decide +kernel
theorem sX6_begin_16 {d : Nat} {σ : aS} {Q : aQ} {a : Nat} {ls : aL} {st : List Value} : aX d iX6_begin 16 (ls) (.ref a :: st) σ Q ↔ ∃ v, aFld σ a 6 0 = some v ∧ aX d iX6_begin 19 (ls) (v :: st) σ Q := X_getf (w := 176) kX6_begin_16 (by decide +kernel)
theorem kX6_begin_19 : aCode iX6_begin 19 = some (.iload_n 1, 1) := by decide +kernel
theorem sX6_begin_19 {d : Nat} {σ : aS} {Q : aQ} {l0 : Option Value} {x : Int32} {lt : aL} {st : List Value} : aX d iX6_begin 19 (l0 :: some (.int x) :: lt) (st) σ Q ↔ aX d iX6_begin 20 (l0 :: some (.int x) :: lt) (.int x :: st) σ Q := X_iloadn kX6_begin_19 rfl
theorem kX6_begin_20 : aCode iX6_begin 20 = some (.iload_n 2, 1) := by decide +kernel
theorem sX6_begin_20 {d : Nat} {σ : aS} {Q : aQ} {l0 l1 : Option Value} {x : Int32} {lt : aL} {st : List Value} : aX d iX6_begin 20 (l0 :: l1 :: some (.int x) :: lt) (st) σ Q ↔ aX d iX6_begin 21 (l0 :: l1 :: some (.int x) :: lt) (.int x :: st) σ Q := X_iloadn kX6_begin_20 rfl
theorem kX6_begin_21 : aCode iX6_begin 21 = some (.invokevirtual 62, 3) := by decide +kernel
theorem sX6_begin_21 {d : Nat} {σ : aS} {Q : aQ} {b : Nat} {p0 : Int32} {p1 : Int32} {v0 : Value} {ls : aL} : aX (d + 1) iX6_begin 21 (ls) (.int p1 :: .int p0 :: .ref b :: v0 :: []) σ Q ↔ aIs σ b 5 ∧ aX d iX5_beginAlbum 0 [some (.ref b), some (.int p0), some (.int p1), none] [] σ (fun r τ => aX (d + 1) iX6_begin 24 (ls) (aret r (v0 :: [])) τ Q) := X_invv (N := 2) (As := [.int p1, .int p0]) (w := 273) kX6_begin_21 (by decide +kernel) (by decide +kernel) rfl rfl (by simp only [List.length_cons, List.length_nil]; omega) (by simp only [List.length_cons, List.length_nil]; omega) (by decide +kernel) rfl (Nat.le_of_ble_eq_true rfl)
theorem kX6_begin_24 : aCode iX6_begin 24 = some (.invokevirtual 52, 3) := by decide +kernel
theorem sX6_begin_24 {d : Nat} {σ : aS} {Q : aQ} {b : Nat} {p0 : Int32} {ls : aL} : aX (d + 1) iX6_begin 24 (ls) (.int p0 :: .ref b :: []) σ Q ↔ aIs σ b 2 ∧ aX d iX2_recordUnlessError 0 [some (.ref b), some (.int p0)] [] σ (fun r τ => aX (d + 1) iX6_begin 27 (ls) (aret r ([])) τ Q) := X_invv (N := 1) (As := [.int p0]) (w := 239) kX6_begin_24 (by decide +kernel) (by decide +kernel) rfl rfl (by simp only [List.length_cons, List.length_nil]; omega) (by simp only [List.length_cons, List.length_nil]; omega) (by decide +kernel) rfl (Nat.le_of_ble_eq_true rfl)
theorem kX6_begin_27 : aCode iX6_begin 27 = some (.ireturn, 1) := by decide +kernel
theorem sX6_begin_27 {d : Nat} {σ : aS} {Q : aQ} {v : Int32} {ls : aL} : aX d iX6_begin 27 (ls) ([.int v]) σ Q ↔ Q (some (.int v)) σ := X_iret kX6_begin_27 (by decide +kernel)
theorem kX6_tell_0 : aCode iX6_tell 0 = some (.aload_n 0, 1) := by decide +kernel
theorem sX6_tell_0 {d : Nat} {σ : aS} {Q : aQ} {x : Nat} {lt : aL} {st : List Value} : aX d iX6_tell 0 (some (.ref x) :: lt) (st) σ Q ↔ aX d iX6_tell 1 (some (.ref x) :: lt) (.ref x :: st) σ Q := X_aloadn kX6_tell_0 rfl rfl
theorem kX6_tell_1 : aCode iX6_tell 1 = some (.getfield 26, 3) := by decide +kernel
theorem sX6_tell_1 {d : Nat} {σ : aS} {Q : aQ} {a : Nat} {ls : aL} {st : List Value} : aX d iX6_tell 1 (ls) (.ref a :: st) σ Q ↔ ∃ v, aFld σ a 6 2 = some v ∧ aX d iX6_tell 4 (ls) (v :: st) σ Q := X_getf (w := 178) kX6_tell_1 (by decide +kernel)
theorem kX6_tell_4 : aCode iX6_tell 4 = some (.aload_n 0, 1) := by decide +kernel
theorem sX6_tell_4 {d : Nat} {σ : aS} {Q : aQ} {x : Nat} {lt : aL} {st : List Value} : aX d iX6_tell 4 (some (.ref x) :: lt) (st) σ Q ↔ aX d iX6_tell 5 (some (.ref x) :: lt) (.ref x :: st) σ Q := X_aloadn kX6_tell_4 rfl rfl
theorem kX6_tell_5 : aCode iX6_tell 5 = some (.getfield 12, 3) := by decide +kernel
theorem sX6_tell_5 {d : Nat} {σ : aS} {Q : aQ} {a : Nat} {ls : aL} {st : List Value} : aX d iX6_tell 5 (ls) (.ref a :: st) σ Q ↔ ∃ v, aFld σ a 6 0 = some v ∧ aX d iX6_tell 8 (ls) (v :: st) σ Q := X_getf (w := 176) kX6_tell_5 (by decide +kernel)
theorem kX6_tell_8 : aCode iX6_tell 8 = some (.invokevirtual 44, 3) := by decide +kernel
theorem sX6_tell_8 {d : Nat} {σ : aS} {Q : aQ} {b : Nat} {p0 : Nat} {ls : aL} : aX (d + 1) iX6_tell 8 (ls) (.ref p0 :: .ref b :: []) σ Q ↔ aIs σ b 2 ∧ aX d iX2_prepare 0 [some (.ref b), some (.ref p0), none] [] σ (fun r τ => aX (d + 1) iX6_tell 11 (ls) (aret r ([])) τ Q) := X_invv (N := 1) (As := [.ref p0]) (w := 196) kX6_tell_8 (by decide +kernel) (by decide +kernel) rfl rfl (by simp only [List.length_cons, List.length_nil]; omega) (by simp only [List.length_cons, List.length_nil]; omega) (by decide +kernel) rfl (Nat.le_of_ble_eq_true rfl)
theorem kX6_tell_11 : aCode iX6_tell 11 = some (.aload_n 0, 1) := by decide +kernel
theorem sX6_tell_11 {d : Nat} {σ : aS} {Q : aQ} {x : Nat} {lt : aL} {st : List Value} : aX d iX6_tell 11 (some (.ref x) :: lt) (st) σ Q ↔ aX d iX6_tell 12 (some (.ref x) :: lt) (.ref x :: st) σ Q := X_aloadn kX6_tell_11 rfl rfl
theorem kX6_tell_12 : aCode iX6_tell 12 = some (.getfield 26, 3) := by decide +kernel
theorem sX6_tell_12 {d : Nat} {σ : aS} {Q : aQ} {a : Nat} {ls : aL} {st : List Value} : aX d iX6_tell 12 (ls) (.ref a :: st) σ Q ↔ ∃ v, aFld σ a 6 2 = some v ∧ aX d iX6_tell 15 (ls) (v :: st) σ Q := X_getf (w := 178) kX6_tell_12 (by decide +kernel)
theorem kX6_tell_15 : aCode iX6_tell 15 = some (.aload_n 0, 1) := by decide +kernel
theorem sX6_tell_15 {d : Nat} {σ : aS} {Q : aQ} {x : Nat} {lt : aL} {st : List Value} : aX d iX6_tell 15 (some (.ref x) :: lt) (st) σ Q ↔ aX d iX6_tell 16 (some (.ref x) :: lt) (.ref x :: st) σ Q := X_aloadn kX6_tell_15 rfl rfl
theorem kX6_tell_16 : aCode iX6_tell 16 = some (.getfield 12, 3) := by decide +kernel
theorem sX6_tell_16 {d : Nat} {σ : aS} {Q : aQ} {a : Nat} {ls : aL} {st : List Value} : aX d iX6_tell 16 (ls) (.ref a :: st) σ Q ↔ ∃ v, aFld σ a 6 0 = some v ∧ aX d iX6_tell 19 (ls) (v :: st) σ Q := X_getf (w := 176) kX6_tell_16 (by decide +kernel)
theorem kX6_tell_19 : aCode iX6_tell 19 = some (.iload_n 1, 1) := by decide +kernel
theorem sX6_tell_19 {d : Nat} {σ : aS} {Q : aQ} {l0 : Option Value} {x : Int32} {lt : aL} {st : List Value} : aX d iX6_tell 19 (l0 :: some (.int x) :: lt) (st) σ Q ↔ aX d iX6_tell 20 (l0 :: some (.int x) :: lt) (.int x :: st) σ Q := X_iloadn kX6_tell_19 rfl
theorem kX6_tell_20 : aCode iX6_tell 20 = some (.iload_n 2, 1) := by decide +kernel
theorem sX6_tell_20 {d : Nat} {σ : aS} {Q : aQ} {l0 l1 : Option Value} {x : Int32} {lt : aL} {st : List Value} : aX d iX6_tell 20 (l0 :: l1 :: some (.int x) :: lt) (st) σ Q ↔ aX d iX6_tell 21 (l0 :: l1 :: some (.int x) :: lt) (.int x :: st) σ Q := X_iloadn kX6_tell_20 rfl
theorem kX6_tell_21 : aCode iX6_tell 21 = some (.invokevirtual 65, 3) := by decide +kernel
theorem sX6_tell_21 {d : Nat} {σ : aS} {Q : aQ} {b : Nat} {p0 : Int32} {p1 : Int32} {v0 : Value} {ls : aL} : aX (d + 1) iX6_tell 21 (ls) (.int p1 :: .int p0 :: .ref b :: v0 :: []) σ Q ↔ aIs σ b 5 ∧ aX d iX5_tellPage 0 [some (.ref b), some (.int p0), some (.int p1), none, none] [] σ (fun r τ => aX (d + 1) iX6_tell 24 (ls) (aret r (v0 :: [])) τ Q) := X_invv (N := 2) (As := [.int p1, .int p0]) (w := 302) kX6_tell_21 (by decide +kernel) (by decide +kernel) rfl rfl (by simp only [List.length_cons, List.length_nil]; omega) (by simp only [List.length_cons, List.length_nil]; omega) (by decide +kernel) rfl (Nat.le_of_ble_eq_true rfl)
theorem kX6_tell_24 : aCode iX6_tell 24 = some (.invokevirtual 52, 3) := by decide +kernel
theorem sX6_tell_24 {d : Nat} {σ : aS} {Q : aQ} {b : Nat} {p0 : Int32} {ls : aL} : aX (d + 1) iX6_tell 24 (ls) (.int p0 :: .ref b :: []) σ Q ↔ aIs σ b 2 ∧ aX d iX2_recordUnlessError 0 [some (.ref b), some (.int p0)] [] σ (fun r τ => aX (d + 1) iX6_tell 27 (ls) (aret r ([])) τ Q) := X_invv (N := 1) (As := [.int p0]) (w := 239) kX6_tell_24 (by decide +kernel) (by decide +kernel) rfl rfl (by simp only [List.length_cons, List.length_nil]; omega) (by simp only [List.length_cons, List.length_nil]; omega) (by decide +kernel) rfl (Nat.le_of_ble_eq_true rfl)
theorem kX6_tell_27 : aCode iX6_tell 27 = some (.ireturn, 1) := by decide +kernel
theorem sX6_tell_27 {d : Nat} {σ : aS} {Q : aQ} {v : Int32} {ls : aL} : aX d iX6_tell 27 (ls) ([.int v]) σ Q ↔ Q (some (.int v)) σ := X_iret kX6_tell_27 (by decide +kernel)
theorem kX6_round_0 : aCode iX6_round 0 = some (.aload_n 0, 1) := by decide +kernel
theorem sX6_round_0 {d : Nat} {σ : aS} {Q : aQ} {x : Nat} {lt : aL} {st : List Value} : aX d iX6_round 0 (some (.ref x) :: lt) (st) σ Q ↔ aX d iX6_round 1 (some (.ref x) :: lt) (.ref x :: st) σ Q := X_aloadn kX6_round_0 rfl rfl
theorem kX6_round_1 : aCode iX6_round 1 = some (.getfield 26, 3) := by decide +kernel
theorem sX6_round_1 {d : Nat} {σ : aS} {Q : aQ} {a : Nat} {ls : aL} {st : List Value} : aX d iX6_round 1 (ls) (.ref a :: st) σ Q ↔ ∃ v, aFld σ a 6 2 = some v ∧ aX d iX6_round 4 (ls) (v :: st) σ Q := X_getf (w := 178) kX6_round_1 (by decide +kernel)
theorem kX6_round_4 : aCode iX6_round 4 = some (.aload_n 0, 1) := by decide +kernel
theorem sX6_round_4 {d : Nat} {σ : aS} {Q : aQ} {x : Nat} {lt : aL} {st : List Value} : aX d iX6_round 4 (some (.ref x) :: lt) (st) σ Q ↔ aX d iX6_round 5 (some (.ref x) :: lt) (.ref x :: st) σ Q := X_aloadn kX6_round_4 rfl rfl
theorem kX6_round_5 : aCode iX6_round 5 = some (.getfield 12, 3) := by decide +kernel
theorem sX6_round_5 {d : Nat} {σ : aS} {Q : aQ} {a : Nat} {ls : aL} {st : List Value} : aX d iX6_round 5 (ls) (.ref a :: st) σ Q ↔ ∃ v, aFld σ a 6 0 = some v ∧ aX d iX6_round 8 (ls) (v :: st) σ Q := X_getf (w := 176) kX6_round_5 (by decide +kernel)
theorem kX6_round_8 : aCode iX6_round 8 = some (.invokevirtual 44, 3) := by decide +kernel
theorem sX6_round_8 {d : Nat} {σ : aS} {Q : aQ} {b : Nat} {p0 : Nat} {ls : aL} : aX (d + 1) iX6_round 8 (ls) (.ref p0 :: .ref b :: []) σ Q ↔ aIs σ b 2 ∧ aX d iX2_prepare 0 [some (.ref b), some (.ref p0), none] [] σ (fun r τ => aX (d + 1) iX6_round 11 (ls) (aret r ([])) τ Q) := X_invv (N := 1) (As := [.ref p0]) (w := 196) kX6_round_8 (by decide +kernel) (by decide +kernel) rfl rfl (by simp only [List.length_cons, List.length_nil]; omega) (by simp only [List.length_cons, List.length_nil]; omega) (by decide +kernel) rfl (Nat.le_of_ble_eq_true rfl)
theorem kX6_round_11 : aCode iX6_round 11 = some (.aload_n 0, 1) := by decide +kernel
theorem sX6_round_11 {d : Nat} {σ : aS} {Q : aQ} {x : Nat} {lt : aL} {st : List Value} : aX d iX6_round 11 (some (.ref x) :: lt) (st) σ Q ↔ aX d iX6_round 12 (some (.ref x) :: lt) (.ref x :: st) σ Q := X_aloadn kX6_round_11 rfl rfl
theorem kX6_round_12 : aCode iX6_round 12 = some (.getfield 26, 3) := by decide +kernel
theorem sX6_round_12 {d : Nat} {σ : aS} {Q : aQ} {a : Nat} {ls : aL} {st : List Value} : aX d iX6_round 12 (ls) (.ref a :: st) σ Q ↔ ∃ v, aFld σ a 6 2 = some v ∧ aX d iX6_round 15 (ls) (v :: st) σ Q := X_getf (w := 178) kX6_round_12 (by decide +kernel)
theorem kX6_round_15 : aCode iX6_round 15 = some (.aload_n 0, 1) := by decide +kernel
theorem sX6_round_15 {d : Nat} {σ : aS} {Q : aQ} {x : Nat} {lt : aL} {st : List Value} : aX d iX6_round 15 (some (.ref x) :: lt) (st) σ Q ↔ aX d iX6_round 16 (some (.ref x) :: lt) (.ref x :: st) σ Q := X_aloadn kX6_round_15 rfl rfl
theorem kX6_round_16 : aCode iX6_round 16 = some (.getfield 12, 3) := by decide +kernel
theorem sX6_round_16 {d : Nat} {σ : aS} {Q : aQ} {a : Nat} {ls : aL} {st : List Value} : aX d iX6_round 16 (ls) (.ref a :: st) σ Q ↔ ∃ v, aFld σ a 6 0 = some v ∧ aX d iX6_round 19 (ls) (v :: st) σ Q := X_getf (w := 176) kX6_round_16 (by decide +kernel)
theorem kX6_round_19 : aCode iX6_round 19 = some (.invokevirtual 68, 3) := by decide +kernel
theorem sX6_round_19 {d : Nat} {σ : aS} {Q : aQ} {b : Nat} {v0 : Value} {ls : aL} : aX (d + 1) iX6_round 19 (ls) (.ref b :: v0 :: []) σ Q ↔ aIs σ b 5 ∧ aX d iX5_makeRound 0 [some (.ref b), none, none] [] σ (fun r τ => aX (d + 1) iX6_round 22 (ls) (aret r (v0 :: [])) τ Q) := X_invv (N := 0) (As := []) (w := 314) kX6_round_19 (by decide +kernel) (by decide +kernel) rfl rfl (by simp only [List.length_cons, List.length_nil]; omega) (by simp only [List.length_cons, List.length_nil]; omega) (by decide +kernel) rfl (Nat.le_of_ble_eq_true rfl)
theorem kX6_round_22 : aCode iX6_round 22 = some (.invokevirtual 52, 3) := by decide +kernel
theorem sX6_round_22 {d : Nat} {σ : aS} {Q : aQ} {b : Nat} {p0 : Int32} {ls : aL} : aX (d + 1) iX6_round 22 (ls) (.int p0 :: .ref b :: []) σ Q ↔ aIs σ b 2 ∧ aX d iX2_recordUnlessError 0 [some (.ref b), some (.int p0)] [] σ (fun r τ => aX (d + 1) iX6_round 25 (ls) (aret r ([])) τ Q) := X_invv (N := 1) (As := [.int p0]) (w := 239) kX6_round_22 (by decide +kernel) (by decide +kernel) rfl rfl (by simp only [List.length_cons, List.length_nil]; omega) (by simp only [List.length_cons, List.length_nil]; omega) (by decide +kernel) rfl (Nat.le_of_ble_eq_true rfl)
theorem kX6_round_25 : aCode iX6_round 25 = some (.ireturn, 1) := by decide +kernel
theorem sX6_round_25 {d : Nat} {σ : aS} {Q : aQ} {v : Int32} {ls : aL} : aX d iX6_round 25 (ls) ([.int v]) σ Q ↔ Q (some (.int v)) σ := X_iret kX6_round_25 (by decide +kernel)
theorem kX6_clear_0 : aCode iX6_clear 0 = some (.aload_n 0, 1) := by decide +kernel
theorem sX6_clear_0 {d : Nat} {σ : aS} {Q : aQ} {x : Nat} {lt : aL} {st : List Value} : aX d iX6_clear 0 (some (.ref x) :: lt) (st) σ Q ↔ aX d iX6_clear 1 (some (.ref x) :: lt) (.ref x :: st) σ Q := X_aloadn kX6_clear_0 rfl rfl
theorem kX6_clear_1 : aCode iX6_clear 1 = some (.getfield 26, 3) := by decide +kernel
theorem sX6_clear_1 {d : Nat} {σ : aS} {Q : aQ} {a : Nat} {ls : aL} {st : List Value} : aX d iX6_clear 1 (ls) (.ref a :: st) σ Q ↔ ∃ v, aFld σ a 6 2 = some v ∧ aX d iX6_clear 4 (ls) (v :: st) σ Q := X_getf (w := 178) kX6_clear_1 (by decide +kernel)
theorem kX6_clear_4 : aCode iX6_clear 4 = some (.aload_n 0, 1) := by decide +kernel
theorem sX6_clear_4 {d : Nat} {σ : aS} {Q : aQ} {x : Nat} {lt : aL} {st : List Value} : aX d iX6_clear 4 (some (.ref x) :: lt) (st) σ Q ↔ aX d iX6_clear 5 (some (.ref x) :: lt) (.ref x :: st) σ Q := X_aloadn kX6_clear_4 rfl rfl
theorem kX6_clear_5 : aCode iX6_clear 5 = some (.getfield 12, 3) := by decide +kernel
theorem sX6_clear_5 {d : Nat} {σ : aS} {Q : aQ} {a : Nat} {ls : aL} {st : List Value} : aX d iX6_clear 5 (ls) (.ref a :: st) σ Q ↔ ∃ v, aFld σ a 6 0 = some v ∧ aX d iX6_clear 8 (ls) (v :: st) σ Q := X_getf (w := 176) kX6_clear_5 (by decide +kernel)
theorem kX6_clear_8 : aCode iX6_clear 8 = some (.invokevirtual 44, 3) := by decide +kernel
theorem sX6_clear_8 {d : Nat} {σ : aS} {Q : aQ} {b : Nat} {p0 : Nat} {ls : aL} : aX (d + 1) iX6_clear 8 (ls) (.ref p0 :: .ref b :: []) σ Q ↔ aIs σ b 2 ∧ aX d iX2_prepare 0 [some (.ref b), some (.ref p0), none] [] σ (fun r τ => aX (d + 1) iX6_clear 11 (ls) (aret r ([])) τ Q) := X_invv (N := 1) (As := [.ref p0]) (w := 196) kX6_clear_8 (by decide +kernel) (by decide +kernel) rfl rfl (by simp only [List.length_cons, List.length_nil]; omega) (by simp only [List.length_cons, List.length_nil]; omega) (by decide +kernel) rfl (Nat.le_of_ble_eq_true rfl)
theorem kX6_clear_11 : aCode iX6_clear 11 = some (.aload_n 0, 1) := by decide +kernel
theorem sX6_clear_11 {d : Nat} {σ : aS} {Q : aQ} {x : Nat} {lt : aL} {st : List Value} : aX d iX6_clear 11 (some (.ref x) :: lt) (st) σ Q ↔ aX d iX6_clear 12 (some (.ref x) :: lt) (.ref x :: st) σ Q := X_aloadn kX6_clear_11 rfl rfl
theorem kX6_clear_12 : aCode iX6_clear 12 = some (.getfield 26, 3) := by decide +kernel
theorem sX6_clear_12 {d : Nat} {σ : aS} {Q : aQ} {a : Nat} {ls : aL} {st : List Value} : aX d iX6_clear 12 (ls) (.ref a :: st) σ Q ↔ ∃ v, aFld σ a 6 2 = some v ∧ aX d iX6_clear 15 (ls) (v :: st) σ Q := X_getf (w := 178) kX6_clear_12 (by decide +kernel)
theorem kX6_clear_15 : aCode iX6_clear 15 = some (.aload_n 0, 1) := by decide +kernel
theorem sX6_clear_15 {d : Nat} {σ : aS} {Q : aQ} {x : Nat} {lt : aL} {st : List Value} : aX d iX6_clear 15 (some (.ref x) :: lt) (st) σ Q ↔ aX d iX6_clear 16 (some (.ref x) :: lt) (.ref x :: st) σ Q := X_aloadn kX6_clear_15 rfl rfl
theorem kX6_clear_16 : aCode iX6_clear 16 = some (.getfield 12, 3) := by decide +kernel
theorem sX6_clear_16 {d : Nat} {σ : aS} {Q : aQ} {a : Nat} {ls : aL} {st : List Value} : aX d iX6_clear 16 (ls) (.ref a :: st) σ Q ↔ ∃ v, aFld σ a 6 0 = some v ∧ aX d iX6_clear 19 (ls) (v :: st) σ Q := X_getf (w := 176) kX6_clear_16 (by decide +kernel)
theorem kX6_clear_19 : aCode iX6_clear 19 = some (.invokevirtual 72, 3) := by decide +kernel
theorem sX6_clear_19 {d : Nat} {σ : aS} {Q : aQ} {b : Nat} {v0 : Value} {ls : aL} : aX (d + 1) iX6_clear 19 (ls) (.ref b :: v0 :: []) σ Q ↔ aIs σ b 5 ∧ aX d iX5_clearEnded 0 [some (.ref b), none, none, none, none] [] σ (fun r τ => aX (d + 1) iX6_clear 22 (ls) (aret r (v0 :: [])) τ Q) := X_invv (N := 0) (As := []) (w := 385) kX6_clear_19 (by decide +kernel) (by decide +kernel) rfl rfl (by simp only [List.length_cons, List.length_nil]; omega) (by simp only [List.length_cons, List.length_nil]; omega) (by decide +kernel) rfl (Nat.le_of_ble_eq_true rfl)
theorem kX6_clear_22 : aCode iX6_clear 22 = some (.invokevirtual 52, 3) := by decide +kernel
theorem sX6_clear_22 {d : Nat} {σ : aS} {Q : aQ} {b : Nat} {p0 : Int32} {ls : aL} : aX (d + 1) iX6_clear 22 (ls) (.int p0 :: .ref b :: []) σ Q ↔ aIs σ b 2 ∧ aX d iX2_recordUnlessError 0 [some (.ref b), some (.int p0)] [] σ (fun r τ => aX (d + 1) iX6_clear 25 (ls) (aret r ([])) τ Q) := X_invv (N := 1) (As := [.int p0]) (w := 239) kX6_clear_22 (by decide +kernel) (by decide +kernel) rfl rfl (by simp only [List.length_cons, List.length_nil]; omega) (by simp only [List.length_cons, List.length_nil]; omega) (by decide +kernel) rfl (Nat.le_of_ble_eq_true rfl)
theorem kX6_clear_25 : aCode iX6_clear 25 = some (.ireturn, 1) := by decide +kernel
theorem sX6_clear_25 {d : Nat} {σ : aS} {Q : aQ} {v : Int32} {ls : aL} : aX d iX6_clear 25 (ls) ([.int v]) σ Q ↔ Q (some (.int v)) σ := X_iret kX6_clear_25 (by decide +kernel)
theorem kX6_of_0 : aCode iX6_of 0 = some (.aload_n 0, 1) := by decide +kernel
theorem sX6_of_0 {d : Nat} {σ : aS} {Q : aQ} {x : Nat} {lt : aL} {st : List Value} : aX d iX6_of 0 (some (.ref x) :: lt) (st) σ Q ↔ aX d iX6_of 1 (some (.ref x) :: lt) (.ref x :: st) σ Q := X_aloadn kX6_of_0 rfl rfl
theorem kX6_of_1 : aCode iX6_of 1 = some (.getfield 12, 3) := by decide +kernel
theorem sX6_of_1 {d : Nat} {σ : aS} {Q : aQ} {a : Nat} {ls : aL} {st : List Value} : aX d iX6_of 1 (ls) (.ref a :: st) σ Q ↔ ∃ v, aFld σ a 6 0 = some v ∧ aX d iX6_of 4 (ls) (v :: st) σ Q := X_getf (w := 176) kX6_of_1 (by decide +kernel)
theorem kX6_of_4 : aCode iX6_of 4 = some (.iload_n 1, 1) := by decide +kernel
theorem sX6_of_4 {d : Nat} {σ : aS} {Q : aQ} {l0 : Option Value} {x : Int32} {lt : aL} {st : List Value} : aX d iX6_of 4 (l0 :: some (.int x) :: lt) (st) σ Q ↔ aX d iX6_of 5 (l0 :: some (.int x) :: lt) (.int x :: st) σ Q := X_iloadn kX6_of_4 rfl
theorem kX6_of_5 : aCode iX6_of 5 = some (.invokevirtual 75, 3) := by decide +kernel
theorem sX6_of_5 {d : Nat} {σ : aS} {Q : aQ} {b : Nat} {p0 : Int32} {ls : aL} : aX (d + 1) iX6_of 5 (ls) (.int p0 :: .ref b :: []) σ Q ↔ aIs σ b 5 ∧ aX d iX5_albumAt 0 [some (.ref b), some (.int p0)] [] σ (fun r τ => aX (d + 1) iX6_of 8 (ls) (aret r ([])) τ Q) := X_invv (N := 1) (As := [.int p0]) (w := 423) kX6_of_5 (by decide +kernel) (by decide +kernel) rfl rfl (by simp only [List.length_cons, List.length_nil]; omega) (by simp only [List.length_cons, List.length_nil]; omega) (by decide +kernel) rfl (Nat.le_of_ble_eq_true rfl)
theorem kX6_of_8 : aCode iX6_of 8 = some (.astore_n 3, 1) := by decide +kernel
theorem sX6_of_8 {d : Nat} {σ : aS} {Q : aQ} {l0 l1 l2 lo : Option Value} {x : Nat} {lt : aL} {st : List Value} : aX d iX6_of 8 (l0 :: l1 :: l2 :: lo :: lt) (.ref x :: st) σ Q ↔ aX d iX6_of 9 (l0 :: l1 :: aclr l2 :: some (.ref x) :: lt) (st) σ Q := X_astoren kX6_of_8 (by simp only [List.length_cons]; omega) rfl
theorem sX6_of_8n {d : Nat} {σ : aS} {Q : aQ} {l0 l1 l2 lo : Option Value} {lt : aL} {st : List Value} : aX d iX6_of 8 (l0 :: l1 :: l2 :: lo :: lt) (.null :: st) σ Q ↔ aX d iX6_of 9 (l0 :: l1 :: aclr l2 :: some (.null) :: lt) (st) σ Q := X_astoren kX6_of_8 (by simp only [List.length_cons]; omega) rfl
theorem kX6_of_9 : aCode iX6_of 9 = some (.aload_n 3, 1) := by decide +kernel
theorem sX6_of_9 {d : Nat} {σ : aS} {Q : aQ} {l0 l1 l2 : Option Value} {x : Nat} {lt : aL} {st : List Value} : aX d iX6_of 9 (l0 :: l1 :: l2 :: some (.ref x) :: lt) (st) σ Q ↔ aX d iX6_of 10 (l0 :: l1 :: l2 :: some (.ref x) :: lt) (.ref x :: st) σ Q := X_aloadn kX6_of_9 rfl rfl
theorem sX6_of_9n {d : Nat} {σ : aS} {Q : aQ} {l0 l1 l2 : Option Value} {lt : aL} {st : List Value} : aX d iX6_of 9 (l0 :: l1 :: l2 :: some .null :: lt) (st) σ Q ↔ aX d iX6_of 10 (l0 :: l1 :: l2 :: some .null :: lt) (.null :: st) σ Q := X_aloadn kX6_of_9 rfl rfl
theorem kX6_of_10 : aCode iX6_of 10 = some (.ifnonnull 5, 3) := by decide +kernel
theorem sX6_of_10 {d : Nat} {σ : aS} {Q : aQ} {x : Nat} {ls : aL} {st : List Value} : aX d iX6_of 10 (ls) (.ref x :: st) σ Q ↔ aX d iX6_of 15 (ls) (st) σ Q := X_ifnonnull kX6_of_10 (t := 15) (by decide)
theorem sX6_of_10n {d : Nat} {σ : aS} {Q : aQ} {ls : aL} {st : List Value} : aX d iX6_of 10 (ls) (.null :: st) σ Q ↔ aX d iX6_of 13 (ls) (st) σ Q := X_ifnonnullN kX6_of_10 (t := 15) (by decide)
theorem kX6_of_13 : aCode iX6_of 13 = some (.iconst (-1), 1) := by decide +kernel
theorem sX6_of_13 {d : Nat} {σ : aS} {Q : aQ} {ls : aL} {st : List Value} : aX d iX6_of 13 (ls) (st) σ Q ↔ aX d iX6_of 14 (ls) (.int ((-1)) :: st) σ Q := X_iconst kX6_of_13 (by decide +kernel)
theorem kX6_of_14 : aCode iX6_of 14 = some (.ireturn, 1) := by decide +kernel
theorem sX6_of_14 {d : Nat} {σ : aS} {Q : aQ} {v : Int32} {ls : aL} : aX d iX6_of 14 (ls) ([.int v]) σ Q ↔ Q (some (.int v)) σ := X_iret kX6_of_14 (by decide +kernel)
theorem kX6_of_15 : aCode iX6_of 15 = some (.iload_n 2, 1) := by decide +kernel
theorem sX6_of_15 {d : Nat} {σ : aS} {Q : aQ} {l0 l1 : Option Value} {x : Int32} {lt : aL} {st : List Value} : aX d iX6_of 15 (l0 :: l1 :: some (.int x) :: lt) (st) σ Q ↔ aX d iX6_of 16 (l0 :: l1 :: some (.int x) :: lt) (.int x :: st) σ Q := X_iloadn kX6_of_15 rfl
theorem kX6_of_16 : aCode iX6_of 16 = some (.tableswitch 108 0 8 #[52, 57, 62, 67, 72, 77, 82, 87, 92], 52) := by decide +kernel
theorem sX6_of_16_0 {d : Nat} {σ : aS} {Q : aQ} {ls : aL} {st : List Value} : aX d iX6_of 16 (ls) (.int (nI 0) :: st) σ Q ↔ aX d iX6_of 68 (ls) (st) σ Q := X_tsw kX6_of_16 ⟨52, by decide +kernel, by decide⟩
theorem sX6_of_16_1 {d : Nat} {σ : aS} {Q : aQ} {ls : aL} {st : List Value} : aX d iX6_of 16 (ls) (.int (nI 1) :: st) σ Q ↔ aX d iX6_of 73 (ls) (st) σ Q := X_tsw kX6_of_16 ⟨57, by decide +kernel, by decide⟩
theorem sX6_of_16_2 {d : Nat} {σ : aS} {Q : aQ} {ls : aL} {st : List Value} : aX d iX6_of 16 (ls) (.int (nI 2) :: st) σ Q ↔ aX d iX6_of 78 (ls) (st) σ Q := X_tsw kX6_of_16 ⟨62, by decide +kernel, by decide⟩
theorem sX6_of_16_3 {d : Nat} {σ : aS} {Q : aQ} {ls : aL} {st : List Value} : aX d iX6_of 16 (ls) (.int (nI 3) :: st) σ Q ↔ aX d iX6_of 83 (ls) (st) σ Q := X_tsw kX6_of_16 ⟨67, by decide +kernel, by decide⟩
theorem sX6_of_16_4 {d : Nat} {σ : aS} {Q : aQ} {ls : aL} {st : List Value} : aX d iX6_of 16 (ls) (.int (nI 4) :: st) σ Q ↔ aX d iX6_of 88 (ls) (st) σ Q := X_tsw kX6_of_16 ⟨72, by decide +kernel, by decide⟩
theorem sX6_of_16_5 {d : Nat} {σ : aS} {Q : aQ} {ls : aL} {st : List Value} : aX d iX6_of 16 (ls) (.int (nI 5) :: st) σ Q ↔ aX d iX6_of 93 (ls) (st) σ Q := X_tsw kX6_of_16 ⟨77, by decide +kernel, by decide⟩
theorem sX6_of_16_6 {d : Nat} {σ : aS} {Q : aQ} {ls : aL} {st : List Value} : aX d iX6_of 16 (ls) (.int (nI 6) :: st) σ Q ↔ aX d iX6_of 98 (ls) (st) σ Q := X_tsw kX6_of_16 ⟨82, by decide +kernel, by decide⟩
theorem sX6_of_16_7 {d : Nat} {σ : aS} {Q : aQ} {ls : aL} {st : List Value} : aX d iX6_of 16 (ls) (.int (nI 7) :: st) σ Q ↔ aX d iX6_of 103 (ls) (st) σ Q := X_tsw kX6_of_16 ⟨87, by decide +kernel, by decide⟩
theorem sX6_of_16_8 {d : Nat} {σ : aS} {Q : aQ} {ls : aL} {st : List Value} : aX d iX6_of 16 (ls) (.int (nI 8) :: st) σ Q ↔ aX d iX6_of 108 (ls) (st) σ Q := X_tsw kX6_of_16 ⟨92, by decide +kernel, by decide⟩
theorem sX6_of_16_d {d : Nat} {σ : aS} {Q : aQ} {x : Int32} {ls : aL} {st : List Value} (h0 : ¬ x = nI 0) (h1 : ¬ x = nI 1) (h2 : ¬ x = nI 2) (h3 : ¬ x = nI 3) (h4 : ¬ x = nI 4) (h5 : ¬ x = nI 5) (h6 : ¬ x = nI 6) (h7 : ¬ x = nI 7) (h8 : ¬ x = nI 8) : aX d iX6_of 16 (ls) (.int x :: st) σ Q ↔ aX d iX6_of 124 (ls) (st) σ Q := by
  have g0 : ¬ x.toInt = 0 := fun z => h0 (Int32.toInt_inj.mp (z.trans (by decide +kernel)))
  have g1 : ¬ x.toInt = 1 := fun z => h1 (Int32.toInt_inj.mp (z.trans (by decide +kernel)))
  have g2 : ¬ x.toInt = 2 := fun z => h2 (Int32.toInt_inj.mp (z.trans (by decide +kernel)))
  have g3 : ¬ x.toInt = 3 := fun z => h3 (Int32.toInt_inj.mp (z.trans (by decide +kernel)))
  have g4 : ¬ x.toInt = 4 := fun z => h4 (Int32.toInt_inj.mp (z.trans (by decide +kernel)))
  have g5 : ¬ x.toInt = 5 := fun z => h5 (Int32.toInt_inj.mp (z.trans (by decide +kernel)))
  have g6 : ¬ x.toInt = 6 := fun z => h6 (Int32.toInt_inj.mp (z.trans (by decide +kernel)))
  have g7 : ¬ x.toInt = 7 := fun z => h7 (Int32.toInt_inj.mp (z.trans (by decide +kernel)))
  have g8 : ¬ x.toInt = 8 := fun z => h8 (Int32.toInt_inj.mp (z.trans (by decide +kernel)))
  exact X_tsw kX6_of_16 ⟨108, if_pos (by omega), by decide⟩
theorem kX6_of_68 : aCode iX6_of 68 = some (.aload_n 3, 1) := by decide +kernel
theorem sX6_of_68 {d : Nat} {σ : aS} {Q : aQ} {l0 l1 l2 : Option Value} {x : Nat} {lt : aL} {st : List Value} : aX d iX6_of 68 (l0 :: l1 :: l2 :: some (.ref x) :: lt) (st) σ Q ↔ aX d iX6_of 69 (l0 :: l1 :: l2 :: some (.ref x) :: lt) (.ref x :: st) σ Q := X_aloadn kX6_of_68 rfl rfl
theorem sX6_of_68n {d : Nat} {σ : aS} {Q : aQ} {l0 l1 l2 : Option Value} {lt : aL} {st : List Value} : aX d iX6_of 68 (l0 :: l1 :: l2 :: some .null :: lt) (st) σ Q ↔ aX d iX6_of 69 (l0 :: l1 :: l2 :: some .null :: lt) (.null :: st) σ Q := X_aloadn kX6_of_68 rfl rfl
theorem kX6_of_69 : aCode iX6_of 69 = some (.getfield 79, 3) := by decide +kernel
theorem sX6_of_69 {d : Nat} {σ : aS} {Q : aQ} {a : Nat} {ls : aL} {st : List Value} : aX d iX6_of 69 (ls) (.ref a :: st) σ Q ↔ ∃ v, aFld σ a 0 2 = some v ∧ aX d iX6_of 72 (ls) (v :: st) σ Q := X_getf (w := 41) kX6_of_69 (by decide +kernel)
theorem kX6_of_72 : aCode iX6_of 72 = some (.ireturn, 1) := by decide +kernel
theorem sX6_of_72 {d : Nat} {σ : aS} {Q : aQ} {v : Int32} {ls : aL} : aX d iX6_of 72 (ls) ([.int v]) σ Q ↔ Q (some (.int v)) σ := X_iret kX6_of_72 (by decide +kernel)
theorem kX6_of_73 : aCode iX6_of 73 = some (.aload_n 3, 1) := by decide +kernel
theorem sX6_of_73 {d : Nat} {σ : aS} {Q : aQ} {l0 l1 l2 : Option Value} {x : Nat} {lt : aL} {st : List Value} : aX d iX6_of 73 (l0 :: l1 :: l2 :: some (.ref x) :: lt) (st) σ Q ↔ aX d iX6_of 74 (l0 :: l1 :: l2 :: some (.ref x) :: lt) (.ref x :: st) σ Q := X_aloadn kX6_of_73 rfl rfl
theorem sX6_of_73n {d : Nat} {σ : aS} {Q : aQ} {l0 l1 l2 : Option Value} {lt : aL} {st : List Value} : aX d iX6_of 73 (l0 :: l1 :: l2 :: some .null :: lt) (st) σ Q ↔ aX d iX6_of 74 (l0 :: l1 :: l2 :: some .null :: lt) (.null :: st) σ Q := X_aloadn kX6_of_73 rfl rfl
theorem kX6_of_74 : aCode iX6_of 74 = some (.getfield 85, 3) := by decide +kernel
theorem sX6_of_74 {d : Nat} {σ : aS} {Q : aQ} {a : Nat} {ls : aL} {st : List Value} : aX d iX6_of 74 (ls) (.ref a :: st) σ Q ↔ ∃ v, aFld σ a 0 3 = some v ∧ aX d iX6_of 77 (ls) (v :: st) σ Q := X_getf (w := 44) kX6_of_74 (by decide +kernel)
theorem kX6_of_77 : aCode iX6_of 77 = some (.ireturn, 1) := by decide +kernel
theorem sX6_of_77 {d : Nat} {σ : aS} {Q : aQ} {v : Int32} {ls : aL} : aX d iX6_of 77 (ls) ([.int v]) σ Q ↔ Q (some (.int v)) σ := X_iret kX6_of_77 (by decide +kernel)
theorem kX6_of_78 : aCode iX6_of 78 = some (.aload_n 3, 1) := by decide +kernel
theorem sX6_of_78 {d : Nat} {σ : aS} {Q : aQ} {l0 l1 l2 : Option Value} {x : Nat} {lt : aL} {st : List Value} : aX d iX6_of 78 (l0 :: l1 :: l2 :: some (.ref x) :: lt) (st) σ Q ↔ aX d iX6_of 79 (l0 :: l1 :: l2 :: some (.ref x) :: lt) (.ref x :: st) σ Q := X_aloadn kX6_of_78 rfl rfl
theorem sX6_of_78n {d : Nat} {σ : aS} {Q : aQ} {l0 l1 l2 : Option Value} {lt : aL} {st : List Value} : aX d iX6_of 78 (l0 :: l1 :: l2 :: some .null :: lt) (st) σ Q ↔ aX d iX6_of 79 (l0 :: l1 :: l2 :: some .null :: lt) (.null :: st) σ Q := X_aloadn kX6_of_78 rfl rfl
theorem kX6_of_79 : aCode iX6_of 79 = some (.invokevirtual 88, 3) := by decide +kernel
theorem sX6_of_79 {d : Nat} {σ : aS} {Q : aQ} {b : Nat} {ls : aL} : aX (d + 1) iX6_of 79 (ls) (.ref b :: []) σ Q ↔ aIs σ b 0 ∧ aX d iX0_liesAt 0 [some (.ref b)] [] σ (fun r τ => aX (d + 1) iX6_of 82 (ls) (aret r ([])) τ Q) := X_invv (N := 0) (As := []) (w := 435) kX6_of_79 (by decide +kernel) (by decide +kernel) rfl rfl (by simp only [List.length_cons, List.length_nil]; omega) (by simp only [List.length_cons, List.length_nil]; omega) (by decide +kernel) rfl (Nat.le_of_ble_eq_true rfl)
theorem kX6_of_82 : aCode iX6_of 82 = some (.ireturn, 1) := by decide +kernel
theorem sX6_of_82 {d : Nat} {σ : aS} {Q : aQ} {v : Int32} {ls : aL} : aX d iX6_of 82 (ls) ([.int v]) σ Q ↔ Q (some (.int v)) σ := X_iret kX6_of_82 (by decide +kernel)
theorem kX6_of_83 : aCode iX6_of 83 = some (.aload_n 3, 1) := by decide +kernel
theorem sX6_of_83 {d : Nat} {σ : aS} {Q : aQ} {l0 l1 l2 : Option Value} {x : Nat} {lt : aL} {st : List Value} : aX d iX6_of 83 (l0 :: l1 :: l2 :: some (.ref x) :: lt) (st) σ Q ↔ aX d iX6_of 84 (l0 :: l1 :: l2 :: some (.ref x) :: lt) (.ref x :: st) σ Q := X_aloadn kX6_of_83 rfl rfl
theorem sX6_of_83n {d : Nat} {σ : aS} {Q : aQ} {l0 l1 l2 : Option Value} {lt : aL} {st : List Value} : aX d iX6_of 83 (l0 :: l1 :: l2 :: some .null :: lt) (st) σ Q ↔ aX d iX6_of 84 (l0 :: l1 :: l2 :: some .null :: lt) (.null :: st) σ Q := X_aloadn kX6_of_83 rfl rfl
theorem kX6_of_84 : aCode iX6_of 84 = some (.getfield 91, 3) := by decide +kernel
theorem sX6_of_84 {d : Nat} {σ : aS} {Q : aQ} {a : Nat} {ls : aL} {st : List Value} : aX d iX6_of 84 (ls) (.ref a :: st) σ Q ↔ ∃ v, aFld σ a 0 4 = some v ∧ aX d iX6_of 87 (ls) (v :: st) σ Q := X_getf (w := 47) kX6_of_84 (by decide +kernel)
theorem kX6_of_87 : aCode iX6_of 87 = some (.ireturn, 1) := by decide +kernel
theorem sX6_of_87 {d : Nat} {σ : aS} {Q : aQ} {v : Int32} {ls : aL} : aX d iX6_of 87 (ls) ([.int v]) σ Q ↔ Q (some (.int v)) σ := X_iret kX6_of_87 (by decide +kernel)
theorem kX6_of_88 : aCode iX6_of 88 = some (.aload_n 3, 1) := by decide +kernel
theorem sX6_of_88 {d : Nat} {σ : aS} {Q : aQ} {l0 l1 l2 : Option Value} {x : Nat} {lt : aL} {st : List Value} : aX d iX6_of 88 (l0 :: l1 :: l2 :: some (.ref x) :: lt) (st) σ Q ↔ aX d iX6_of 89 (l0 :: l1 :: l2 :: some (.ref x) :: lt) (.ref x :: st) σ Q := X_aloadn kX6_of_88 rfl rfl
theorem sX6_of_88n {d : Nat} {σ : aS} {Q : aQ} {l0 l1 l2 : Option Value} {lt : aL} {st : List Value} : aX d iX6_of 88 (l0 :: l1 :: l2 :: some .null :: lt) (st) σ Q ↔ aX d iX6_of 89 (l0 :: l1 :: l2 :: some .null :: lt) (.null :: st) σ Q := X_aloadn kX6_of_88 rfl rfl
theorem kX6_of_89 : aCode iX6_of 89 = some (.invokevirtual 94, 3) := by decide +kernel
theorem sX6_of_89 {d : Nat} {σ : aS} {Q : aQ} {b : Nat} {ls : aL} : aX (d + 1) iX6_of 89 (ls) (.ref b :: []) σ Q ↔ aIs σ b 0 ∧ aX d iX0_lastWord 0 [some (.ref b)] [] σ (fun r τ => aX (d + 1) iX6_of 92 (ls) (aret r ([])) τ Q) := X_invv (N := 0) (As := []) (w := 436) kX6_of_89 (by decide +kernel) (by decide +kernel) rfl rfl (by simp only [List.length_cons, List.length_nil]; omega) (by simp only [List.length_cons, List.length_nil]; omega) (by decide +kernel) rfl (Nat.le_of_ble_eq_true rfl)
theorem kX6_of_92 : aCode iX6_of 92 = some (.ireturn, 1) := by decide +kernel
theorem sX6_of_92 {d : Nat} {σ : aS} {Q : aQ} {v : Int32} {ls : aL} : aX d iX6_of 92 (ls) ([.int v]) σ Q ↔ Q (some (.int v)) σ := X_iret kX6_of_92 (by decide +kernel)
theorem kX6_of_93 : aCode iX6_of 93 = some (.aload_n 3, 1) := by decide +kernel
theorem sX6_of_93 {d : Nat} {σ : aS} {Q : aQ} {l0 l1 l2 : Option Value} {x : Nat} {lt : aL} {st : List Value} : aX d iX6_of 93 (l0 :: l1 :: l2 :: some (.ref x) :: lt) (st) σ Q ↔ aX d iX6_of 94 (l0 :: l1 :: l2 :: some (.ref x) :: lt) (.ref x :: st) σ Q := X_aloadn kX6_of_93 rfl rfl
theorem sX6_of_93n {d : Nat} {σ : aS} {Q : aQ} {l0 l1 l2 : Option Value} {lt : aL} {st : List Value} : aX d iX6_of 93 (l0 :: l1 :: l2 :: some .null :: lt) (st) σ Q ↔ aX d iX6_of 94 (l0 :: l1 :: l2 :: some .null :: lt) (.null :: st) σ Q := X_aloadn kX6_of_93 rfl rfl
theorem kX6_of_94 : aCode iX6_of 94 = some (.invokevirtual 97, 3) := by decide +kernel
theorem sX6_of_94 {d : Nat} {σ : aS} {Q : aQ} {b : Nat} {ls : aL} : aX (d + 1) iX6_of 94 (ls) (.ref b :: []) σ Q ↔ aIs σ b 0 ∧ aX d iX0_wordChanges 0 [some (.ref b), none, none] [] σ (fun r τ => aX (d + 1) iX6_of 97 (ls) (aret r ([])) τ Q) := X_invv (N := 0) (As := []) (w := 437) kX6_of_94 (by decide +kernel) (by decide +kernel) rfl rfl (by simp only [List.length_cons, List.length_nil]; omega) (by simp only [List.length_cons, List.length_nil]; omega) (by decide +kernel) rfl (Nat.le_of_ble_eq_true rfl)
theorem kX6_of_97 : aCode iX6_of 97 = some (.ireturn, 1) := by decide +kernel
theorem sX6_of_97 {d : Nat} {σ : aS} {Q : aQ} {v : Int32} {ls : aL} : aX d iX6_of 97 (ls) ([.int v]) σ Q ↔ Q (some (.int v)) σ := X_iret kX6_of_97 (by decide +kernel)
theorem kX6_of_98 : aCode iX6_of 98 = some (.aload_n 3, 1) := by decide +kernel
theorem sX6_of_98 {d : Nat} {σ : aS} {Q : aQ} {l0 l1 l2 : Option Value} {x : Nat} {lt : aL} {st : List Value} : aX d iX6_of 98 (l0 :: l1 :: l2 :: some (.ref x) :: lt) (st) σ Q ↔ aX d iX6_of 99 (l0 :: l1 :: l2 :: some (.ref x) :: lt) (.ref x :: st) σ Q := X_aloadn kX6_of_98 rfl rfl
theorem sX6_of_98n {d : Nat} {σ : aS} {Q : aQ} {l0 l1 l2 : Option Value} {lt : aL} {st : List Value} : aX d iX6_of 98 (l0 :: l1 :: l2 :: some .null :: lt) (st) σ Q ↔ aX d iX6_of 99 (l0 :: l1 :: l2 :: some .null :: lt) (.null :: st) σ Q := X_aloadn kX6_of_98 rfl rfl
theorem kX6_of_99 : aCode iX6_of 99 = some (.getfield 100, 3) := by decide +kernel
theorem sX6_of_99 {d : Nat} {σ : aS} {Q : aQ} {a : Nat} {ls : aL} {st : List Value} : aX d iX6_of 99 (ls) (.ref a :: st) σ Q ↔ ∃ v, aFld σ a 0 5 = some v ∧ aX d iX6_of 102 (ls) (v :: st) σ Q := X_getf (w := 50) kX6_of_99 (by decide +kernel)
theorem kX6_of_102 : aCode iX6_of 102 = some (.ireturn, 1) := by decide +kernel
theorem sX6_of_102 {d : Nat} {σ : aS} {Q : aQ} {v : Int32} {ls : aL} : aX d iX6_of 102 (ls) ([.int v]) σ Q ↔ Q (some (.int v)) σ := X_iret kX6_of_102 (by decide +kernel)
theorem kX6_of_103 : aCode iX6_of 103 = some (.aload_n 3, 1) := by decide +kernel
theorem sX6_of_103 {d : Nat} {σ : aS} {Q : aQ} {l0 l1 l2 : Option Value} {x : Nat} {lt : aL} {st : List Value} : aX d iX6_of 103 (l0 :: l1 :: l2 :: some (.ref x) :: lt) (st) σ Q ↔ aX d iX6_of 104 (l0 :: l1 :: l2 :: some (.ref x) :: lt) (.ref x :: st) σ Q := X_aloadn kX6_of_103 rfl rfl
theorem sX6_of_103n {d : Nat} {σ : aS} {Q : aQ} {l0 l1 l2 : Option Value} {lt : aL} {st : List Value} : aX d iX6_of 103 (l0 :: l1 :: l2 :: some .null :: lt) (st) σ Q ↔ aX d iX6_of 104 (l0 :: l1 :: l2 :: some .null :: lt) (.null :: st) σ Q := X_aloadn kX6_of_103 rfl rfl
theorem kX6_of_104 : aCode iX6_of 104 = some (.invokevirtual 103, 3) := by decide +kernel
theorem sX6_of_104 {d : Nat} {σ : aS} {Q : aQ} {b : Nat} {ls : aL} : aX (d + 1) iX6_of 104 (ls) (.ref b :: []) σ Q ↔ aIs σ b 0 ∧ aX d iX0_seatSet 0 [some (.ref b), none, none] [] σ (fun r τ => aX (d + 1) iX6_of 107 (ls) (aret r ([])) τ Q) := X_invv (N := 0) (As := []) (w := 441) kX6_of_104 (by decide +kernel) (by decide +kernel) rfl rfl (by simp only [List.length_cons, List.length_nil]; omega) (by simp only [List.length_cons, List.length_nil]; omega) (by decide +kernel) rfl (Nat.le_of_ble_eq_true rfl)
theorem kX6_of_107 : aCode iX6_of 107 = some (.ireturn, 1) := by decide +kernel
theorem sX6_of_107 {d : Nat} {σ : aS} {Q : aQ} {v : Int32} {ls : aL} : aX d iX6_of 107 (ls) ([.int v]) σ Q ↔ Q (some (.int v)) σ := X_iret kX6_of_107 (by decide +kernel)
theorem kX6_of_108 : aCode iX6_of 108 = some (.aload_n 0, 1) := by decide +kernel
theorem sX6_of_108 {d : Nat} {σ : aS} {Q : aQ} {x : Nat} {lt : aL} {st : List Value} : aX d iX6_of 108 (some (.ref x) :: lt) (st) σ Q ↔ aX d iX6_of 109 (some (.ref x) :: lt) (.ref x :: st) σ Q := X_aloadn kX6_of_108 rfl rfl
theorem kX6_of_109 : aCode iX6_of 109 = some (.getfield 12, 3) := by decide +kernel
theorem sX6_of_109 {d : Nat} {σ : aS} {Q : aQ} {a : Nat} {ls : aL} {st : List Value} : aX d iX6_of 109 (ls) (.ref a :: st) σ Q ↔ ∃ v, aFld σ a 6 0 = some v ∧ aX d iX6_of 112 (ls) (v :: st) σ Q := X_getf (w := 176) kX6_of_109 (by decide +kernel)
theorem kX6_of_112 : aCode iX6_of 112 = some (.aload_n 3, 1) := by decide +kernel
theorem sX6_of_112 {d : Nat} {σ : aS} {Q : aQ} {l0 l1 l2 : Option Value} {x : Nat} {lt : aL} {st : List Value} : aX d iX6_of 112 (l0 :: l1 :: l2 :: some (.ref x) :: lt) (st) σ Q ↔ aX d iX6_of 113 (l0 :: l1 :: l2 :: some (.ref x) :: lt) (.ref x :: st) σ Q := X_aloadn kX6_of_112 rfl rfl
theorem sX6_of_112n {d : Nat} {σ : aS} {Q : aQ} {l0 l1 l2 : Option Value} {lt : aL} {st : List Value} : aX d iX6_of 112 (l0 :: l1 :: l2 :: some .null :: lt) (st) σ Q ↔ aX d iX6_of 113 (l0 :: l1 :: l2 :: some .null :: lt) (.null :: st) σ Q := X_aloadn kX6_of_112 rfl rfl
theorem kX6_of_113 : aCode iX6_of 113 = some (.invokevirtual 106, 3) := by decide +kernel
theorem sX6_of_113 {d : Nat} {σ : aS} {Q : aQ} {b : Nat} {v0 : Value} {ls : aL} : aX (d + 1) iX6_of 113 (ls) (.ref b :: v0 :: []) σ Q ↔ aIs σ b 0 ∧ aX d iX0_firstWord 0 [some (.ref b)] [] σ (fun r τ => aX (d + 1) iX6_of 116 (ls) (aret r (v0 :: [])) τ Q) := X_invv (N := 0) (As := []) (w := 442) kX6_of_113 (by decide +kernel) (by decide +kernel) rfl rfl (by simp only [List.length_cons, List.length_nil]; omega) (by simp only [List.length_cons, List.length_nil]; omega) (by decide +kernel) rfl (Nat.le_of_ble_eq_true rfl)
theorem kX6_of_116 : aCode iX6_of 116 = some (.aload_n 3, 1) := by decide +kernel
theorem sX6_of_116 {d : Nat} {σ : aS} {Q : aQ} {l0 l1 l2 : Option Value} {x : Nat} {lt : aL} {st : List Value} : aX d iX6_of 116 (l0 :: l1 :: l2 :: some (.ref x) :: lt) (st) σ Q ↔ aX d iX6_of 117 (l0 :: l1 :: l2 :: some (.ref x) :: lt) (.ref x :: st) σ Q := X_aloadn kX6_of_116 rfl rfl
theorem sX6_of_116n {d : Nat} {σ : aS} {Q : aQ} {l0 l1 l2 : Option Value} {lt : aL} {st : List Value} : aX d iX6_of 116 (l0 :: l1 :: l2 :: some .null :: lt) (st) σ Q ↔ aX d iX6_of 117 (l0 :: l1 :: l2 :: some .null :: lt) (.null :: st) σ Q := X_aloadn kX6_of_116 rfl rfl
theorem kX6_of_117 : aCode iX6_of 117 = some (.invokevirtual 94, 3) := by decide +kernel
theorem sX6_of_117 {d : Nat} {σ : aS} {Q : aQ} {b : Nat} {v0 v1 : Value} {ls : aL} : aX (d + 1) iX6_of 117 (ls) (.ref b :: v0 :: v1 :: []) σ Q ↔ aIs σ b 0 ∧ aX d iX0_lastWord 0 [some (.ref b)] [] σ (fun r τ => aX (d + 1) iX6_of 120 (ls) (aret r (v0 :: v1 :: [])) τ Q) := X_invv (N := 0) (As := []) (w := 436) kX6_of_117 (by decide +kernel) (by decide +kernel) rfl rfl (by simp only [List.length_cons, List.length_nil]; omega) (by simp only [List.length_cons, List.length_nil]; omega) (by decide +kernel) rfl (Nat.le_of_ble_eq_true rfl)
theorem kX6_of_120 : aCode iX6_of 120 = some (.invokevirtual 109, 3) := by decide +kernel
theorem sX6_of_120 {d : Nat} {σ : aS} {Q : aQ} {b : Nat} {p0 : Int32} {p1 : Int32} {ls : aL} : aX (d + 1) iX6_of 120 (ls) (.int p1 :: .int p0 :: .ref b :: []) σ Q ↔ aIs σ b 5 ∧ aX d iX5_difference 0 [some (.ref b), some (.int p0), some (.int p1)] [] σ (fun r τ => aX (d + 1) iX6_of 123 (ls) (aret r ([])) τ Q) := X_invv (N := 2) (As := [.int p1, .int p0]) (w := 443) kX6_of_120 (by decide +kernel) (by decide +kernel) rfl rfl (by simp only [List.length_cons, List.length_nil]; omega) (by simp only [List.length_cons, List.length_nil]; omega) (by decide +kernel) rfl (Nat.le_of_ble_eq_true rfl)
theorem kX6_of_123 : aCode iX6_of 123 = some (.ireturn, 1) := by decide +kernel
theorem sX6_of_123 {d : Nat} {σ : aS} {Q : aQ} {v : Int32} {ls : aL} : aX d iX6_of 123 (ls) ([.int v]) σ Q ↔ Q (some (.int v)) σ := X_iret kX6_of_123 (by decide +kernel)
theorem kX6_of_124 : aCode iX6_of 124 = some (.bipush (-2), 2) := by decide +kernel
theorem sX6_of_124 {d : Nat} {σ : aS} {Q : aQ} {ls : aL} {st : List Value} : aX d iX6_of 124 (ls) (st) σ Q ↔ aX d iX6_of 126 (ls) (.int ((-2)) :: st) σ Q := X_bipush kX6_of_124 (by decide +kernel)
theorem kX6_of_126 : aCode iX6_of 126 = some (.ireturn, 1) := by decide +kernel
theorem sX6_of_126 {d : Nat} {σ : aS} {Q : aQ} {v : Int32} {ls : aL} : aX d iX6_of 126 (ls) ([.int v]) σ Q ↔ Q (some (.int v)) σ := X_iret kX6_of_126 (by decide +kernel)
theorem kX6_page_0 : aCode iX6_page 0 = some (.aload_n 0, 1) := by decide +kernel
theorem sX6_page_0 {d : Nat} {σ : aS} {Q : aQ} {x : Nat} {lt : aL} {st : List Value} : aX d iX6_page 0 (some (.ref x) :: lt) (st) σ Q ↔ aX d iX6_page 1 (some (.ref x) :: lt) (.ref x :: st) σ Q := X_aloadn kX6_page_0 rfl rfl
theorem kX6_page_1 : aCode iX6_page 1 = some (.getfield 12, 3) := by decide +kernel
theorem sX6_page_1 {d : Nat} {σ : aS} {Q : aQ} {a : Nat} {ls : aL} {st : List Value} : aX d iX6_page 1 (ls) (.ref a :: st) σ Q ↔ ∃ v, aFld σ a 6 0 = some v ∧ aX d iX6_page 4 (ls) (v :: st) σ Q := X_getf (w := 176) kX6_page_1 (by decide +kernel)
theorem kX6_page_4 : aCode iX6_page 4 = some (.iload_n 1, 1) := by decide +kernel
theorem sX6_page_4 {d : Nat} {σ : aS} {Q : aQ} {l0 : Option Value} {x : Int32} {lt : aL} {st : List Value} : aX d iX6_page 4 (l0 :: some (.int x) :: lt) (st) σ Q ↔ aX d iX6_page 5 (l0 :: some (.int x) :: lt) (.int x :: st) σ Q := X_iloadn kX6_page_4 rfl
theorem kX6_page_5 : aCode iX6_page 5 = some (.invokevirtual 75, 3) := by decide +kernel
theorem sX6_page_5 {d : Nat} {σ : aS} {Q : aQ} {b : Nat} {p0 : Int32} {ls : aL} : aX (d + 1) iX6_page 5 (ls) (.int p0 :: .ref b :: []) σ Q ↔ aIs σ b 5 ∧ aX d iX5_albumAt 0 [some (.ref b), some (.int p0)] [] σ (fun r τ => aX (d + 1) iX6_page 8 (ls) (aret r ([])) τ Q) := X_invv (N := 1) (As := [.int p0]) (w := 423) kX6_page_5 (by decide +kernel) (by decide +kernel) rfl rfl (by simp only [List.length_cons, List.length_nil]; omega) (by simp only [List.length_cons, List.length_nil]; omega) (by decide +kernel) rfl (Nat.le_of_ble_eq_true rfl)
theorem kX6_page_8 : aCode iX6_page 8 = some (.astore 4, 2) := by decide +kernel
theorem sX6_page_8 {d : Nat} {σ : aS} {Q : aQ} {l0 l1 l2 l3 lo : Option Value} {x : Nat} {lt : aL} {st : List Value} : aX d iX6_page 8 (l0 :: l1 :: l2 :: l3 :: lo :: lt) (.ref x :: st) σ Q ↔ aX d iX6_page 10 (l0 :: l1 :: l2 :: aclr l3 :: some (.ref x) :: lt) (st) σ Q := X_astore kX6_page_8 (by simp only [List.length_cons]; omega) rfl
theorem sX6_page_8n {d : Nat} {σ : aS} {Q : aQ} {l0 l1 l2 l3 lo : Option Value} {lt : aL} {st : List Value} : aX d iX6_page 8 (l0 :: l1 :: l2 :: l3 :: lo :: lt) (.null :: st) σ Q ↔ aX d iX6_page 10 (l0 :: l1 :: l2 :: aclr l3 :: some (.null) :: lt) (st) σ Q := X_astore kX6_page_8 (by simp only [List.length_cons]; omega) rfl
theorem kX6_page_10 : aCode iX6_page 10 = some (.aload 4, 2) := by decide +kernel
theorem sX6_page_10 {d : Nat} {σ : aS} {Q : aQ} {l0 l1 l2 l3 : Option Value} {x : Nat} {lt : aL} {st : List Value} : aX d iX6_page 10 (l0 :: l1 :: l2 :: l3 :: some (.ref x) :: lt) (st) σ Q ↔ aX d iX6_page 12 (l0 :: l1 :: l2 :: l3 :: some (.ref x) :: lt) (.ref x :: st) σ Q := X_aload kX6_page_10 rfl rfl
theorem sX6_page_10n {d : Nat} {σ : aS} {Q : aQ} {l0 l1 l2 l3 : Option Value} {lt : aL} {st : List Value} : aX d iX6_page 10 (l0 :: l1 :: l2 :: l3 :: some .null :: lt) (st) σ Q ↔ aX d iX6_page 12 (l0 :: l1 :: l2 :: l3 :: some .null :: lt) (.null :: st) σ Q := X_aload kX6_page_10 rfl rfl
theorem kX6_page_12 : aCode iX6_page 12 = some (.ifnull 15, 3) := by decide +kernel
theorem sX6_page_12 {d : Nat} {σ : aS} {Q : aQ} {x : Nat} {ls : aL} {st : List Value} : aX d iX6_page 12 (ls) (.ref x :: st) σ Q ↔ aX d iX6_page 15 (ls) (st) σ Q := X_ifnull kX6_page_12 (t := 27) (by decide)
theorem sX6_page_12n {d : Nat} {σ : aS} {Q : aQ} {ls : aL} {st : List Value} : aX d iX6_page 12 (ls) (.null :: st) σ Q ↔ aX d iX6_page 27 (ls) (st) σ Q := X_ifnullN kX6_page_12 (t := 27) (by decide)
theorem kX6_page_15 : aCode iX6_page 15 = some (.iload_n 2, 1) := by decide +kernel
theorem sX6_page_15 {d : Nat} {σ : aS} {Q : aQ} {l0 l1 : Option Value} {x : Int32} {lt : aL} {st : List Value} : aX d iX6_page 15 (l0 :: l1 :: some (.int x) :: lt) (st) σ Q ↔ aX d iX6_page 16 (l0 :: l1 :: some (.int x) :: lt) (.int x :: st) σ Q := X_iloadn kX6_page_15 rfl
theorem kX6_page_16 : aCode iX6_page 16 = some (.aload 4, 2) := by decide +kernel
theorem sX6_page_16 {d : Nat} {σ : aS} {Q : aQ} {l0 l1 l2 l3 : Option Value} {x : Nat} {lt : aL} {st : List Value} : aX d iX6_page 16 (l0 :: l1 :: l2 :: l3 :: some (.ref x) :: lt) (st) σ Q ↔ aX d iX6_page 18 (l0 :: l1 :: l2 :: l3 :: some (.ref x) :: lt) (.ref x :: st) σ Q := X_aload kX6_page_16 rfl rfl
theorem sX6_page_16n {d : Nat} {σ : aS} {Q : aQ} {l0 l1 l2 l3 : Option Value} {lt : aL} {st : List Value} : aX d iX6_page 16 (l0 :: l1 :: l2 :: l3 :: some .null :: lt) (st) σ Q ↔ aX d iX6_page 18 (l0 :: l1 :: l2 :: l3 :: some .null :: lt) (.null :: st) σ Q := X_aload kX6_page_16 rfl rfl
theorem kX6_page_18 : aCode iX6_page 18 = some (.getfield 85, 3) := by decide +kernel
theorem sX6_page_18 {d : Nat} {σ : aS} {Q : aQ} {a : Nat} {ls : aL} {st : List Value} : aX d iX6_page 18 (ls) (.ref a :: st) σ Q ↔ ∃ v, aFld σ a 0 3 = some v ∧ aX d iX6_page 21 (ls) (v :: st) σ Q := X_getf (w := 44) kX6_page_18 (by decide +kernel)
theorem kX6_page_21 : aCode iX6_page 21 = some (.invokestatic 112, 3) := by decide +kernel
theorem sX6_page_21 {d : Nat} {σ : aS} {Q : aQ} {p0 : Int32} {p1 : Int32} {ls : aL} : aX (d + 1) iX6_page 21 (ls) (.int p1 :: .int p0 :: []) σ Q ↔ aX d iX6_isBelow 0 [some (.int p0), some (.int p1)] [] σ (fun r τ => aX (d + 1) iX6_page 24 (ls) (aret r ([])) τ Q) := X_invs (N := 2) (As := [.int p1, .int p0]) (k := 1) (w := 424) kX6_page_21 (by decide +kernel) (by decide) (by decide +kernel) rfl rfl (by simp only [List.length_cons, List.length_nil]; omega) (by simp only [List.length_cons, List.length_nil]; omega) rfl (Nat.le_of_ble_eq_true rfl)
theorem kX6_page_24 : aCode iX6_page 24 = some (.ifCond .ne 5, 3) := by decide +kernel
theorem sX6_page_24 {d : Nat} {σ : aS} {Q : aQ} {x : Int32} {ls : aL} {st : List Value} : aX d iX6_page 24 (ls) (.int x :: st) σ Q ↔ (if ¬ x = nI 0 then aX d iX6_page 29 (ls) (st) σ Q else aX d iX6_page 27 (ls) (st) σ Q) := by rw [X_if kX6_page_24 (t := 29) (by decide)]; simp only [aCmp_ne]
theorem kX6_page_27 : aCode iX6_page 27 = some (.iconst (-1), 1) := by decide +kernel
theorem sX6_page_27 {d : Nat} {σ : aS} {Q : aQ} {ls : aL} {st : List Value} : aX d iX6_page 27 (ls) (st) σ Q ↔ aX d iX6_page 28 (ls) (.int ((-1)) :: st) σ Q := X_iconst kX6_page_27 (by decide +kernel)
theorem kX6_page_28 : aCode iX6_page 28 = some (.ireturn, 1) := by decide +kernel
theorem sX6_page_28 {d : Nat} {σ : aS} {Q : aQ} {v : Int32} {ls : aL} : aX d iX6_page 28 (ls) ([.int v]) σ Q ↔ Q (some (.int v)) σ := X_iret kX6_page_28 (by decide +kernel)
theorem kX6_page_29 : aCode iX6_page 29 = some (.iload_n 3, 1) := by decide +kernel
theorem sX6_page_29 {d : Nat} {σ : aS} {Q : aQ} {l0 l1 l2 : Option Value} {x : Int32} {lt : aL} {st : List Value} : aX d iX6_page 29 (l0 :: l1 :: l2 :: some (.int x) :: lt) (st) σ Q ↔ aX d iX6_page 30 (l0 :: l1 :: l2 :: some (.int x) :: lt) (.int x :: st) σ Q := X_iloadn kX6_page_29 rfl
theorem kX6_page_30 : aCode iX6_page 30 = some (.tableswitch 55 0 2 #[26, 33, 40], 26) := by decide +kernel
theorem sX6_page_30_0 {d : Nat} {σ : aS} {Q : aQ} {ls : aL} {st : List Value} : aX d iX6_page 30 (ls) (.int (nI 0) :: st) σ Q ↔ aX d iX6_page 56 (ls) (st) σ Q := X_tsw kX6_page_30 ⟨26, by decide +kernel, by decide⟩
theorem sX6_page_30_1 {d : Nat} {σ : aS} {Q : aQ} {ls : aL} {st : List Value} : aX d iX6_page 30 (ls) (.int (nI 1) :: st) σ Q ↔ aX d iX6_page 63 (ls) (st) σ Q := X_tsw kX6_page_30 ⟨33, by decide +kernel, by decide⟩
theorem sX6_page_30_2 {d : Nat} {σ : aS} {Q : aQ} {ls : aL} {st : List Value} : aX d iX6_page 30 (ls) (.int (nI 2) :: st) σ Q ↔ aX d iX6_page 70 (ls) (st) σ Q := X_tsw kX6_page_30 ⟨40, by decide +kernel, by decide⟩
theorem sX6_page_30_d {d : Nat} {σ : aS} {Q : aQ} {x : Int32} {ls : aL} {st : List Value} (h0 : ¬ x = nI 0) (h1 : ¬ x = nI 1) (h2 : ¬ x = nI 2) : aX d iX6_page 30 (ls) (.int x :: st) σ Q ↔ aX d iX6_page 85 (ls) (st) σ Q := by
  have g0 : ¬ x.toInt = 0 := fun z => h0 (Int32.toInt_inj.mp (z.trans (by decide +kernel)))
  have g1 : ¬ x.toInt = 1 := fun z => h1 (Int32.toInt_inj.mp (z.trans (by decide +kernel)))
  have g2 : ¬ x.toInt = 2 := fun z => h2 (Int32.toInt_inj.mp (z.trans (by decide +kernel)))
  exact X_tsw kX6_page_30 ⟨55, if_pos (by omega), by decide⟩
theorem kX6_page_56 : aCode iX6_page 56 = some (.aload 4, 2) := by decide +kernel
theorem sX6_page_56 {d : Nat} {σ : aS} {Q : aQ} {l0 l1 l2 l3 : Option Value} {x : Nat} {lt : aL} {st : List Value} : aX d iX6_page 56 (l0 :: l1 :: l2 :: l3 :: some (.ref x) :: lt) (st) σ Q ↔ aX d iX6_page 58 (l0 :: l1 :: l2 :: l3 :: some (.ref x) :: lt) (.ref x :: st) σ Q := X_aload kX6_page_56 rfl rfl
theorem sX6_page_56n {d : Nat} {σ : aS} {Q : aQ} {l0 l1 l2 l3 : Option Value} {lt : aL} {st : List Value} : aX d iX6_page 56 (l0 :: l1 :: l2 :: l3 :: some .null :: lt) (st) σ Q ↔ aX d iX6_page 58 (l0 :: l1 :: l2 :: l3 :: some .null :: lt) (.null :: st) σ Q := X_aload kX6_page_56 rfl rfl
theorem kX6_page_58 : aCode iX6_page 58 = some (.iload_n 2, 1) := by decide +kernel
theorem sX6_page_58 {d : Nat} {σ : aS} {Q : aQ} {l0 l1 : Option Value} {x : Int32} {lt : aL} {st : List Value} : aX d iX6_page 58 (l0 :: l1 :: some (.int x) :: lt) (st) σ Q ↔ aX d iX6_page 59 (l0 :: l1 :: some (.int x) :: lt) (.int x :: st) σ Q := X_iloadn kX6_page_58 rfl
theorem kX6_page_59 : aCode iX6_page 59 = some (.invokevirtual 116, 3) := by decide +kernel
theorem sX6_page_59 {d : Nat} {σ : aS} {Q : aQ} {b : Nat} {p0 : Int32} {ls : aL} : aX (d + 1) iX6_page 59 (ls) (.int p0 :: .ref b :: []) σ Q ↔ aIs σ b 0 ∧ aX d iX0_seatOf 0 [some (.ref b), some (.int p0)] [] σ (fun r τ => aX (d + 1) iX6_page 62 (ls) (aret r ([])) τ Q) := X_invv (N := 1) (As := [.int p0]) (w := 425) kX6_page_59 (by decide +kernel) (by decide +kernel) rfl rfl (by simp only [List.length_cons, List.length_nil]; omega) (by simp only [List.length_cons, List.length_nil]; omega) (by decide +kernel) rfl (Nat.le_of_ble_eq_true rfl)
theorem kX6_page_62 : aCode iX6_page 62 = some (.ireturn, 1) := by decide +kernel
theorem sX6_page_62 {d : Nat} {σ : aS} {Q : aQ} {v : Int32} {ls : aL} : aX d iX6_page 62 (ls) ([.int v]) σ Q ↔ Q (some (.int v)) σ := X_iret kX6_page_62 (by decide +kernel)
theorem kX6_page_63 : aCode iX6_page 63 = some (.aload 4, 2) := by decide +kernel
theorem sX6_page_63 {d : Nat} {σ : aS} {Q : aQ} {l0 l1 l2 l3 : Option Value} {x : Nat} {lt : aL} {st : List Value} : aX d iX6_page 63 (l0 :: l1 :: l2 :: l3 :: some (.ref x) :: lt) (st) σ Q ↔ aX d iX6_page 65 (l0 :: l1 :: l2 :: l3 :: some (.ref x) :: lt) (.ref x :: st) σ Q := X_aload kX6_page_63 rfl rfl
theorem sX6_page_63n {d : Nat} {σ : aS} {Q : aQ} {l0 l1 l2 l3 : Option Value} {lt : aL} {st : List Value} : aX d iX6_page 63 (l0 :: l1 :: l2 :: l3 :: some .null :: lt) (st) σ Q ↔ aX d iX6_page 65 (l0 :: l1 :: l2 :: l3 :: some .null :: lt) (.null :: st) σ Q := X_aload kX6_page_63 rfl rfl
theorem kX6_page_65 : aCode iX6_page 65 = some (.iload_n 2, 1) := by decide +kernel
theorem sX6_page_65 {d : Nat} {σ : aS} {Q : aQ} {l0 l1 : Option Value} {x : Int32} {lt : aL} {st : List Value} : aX d iX6_page 65 (l0 :: l1 :: some (.int x) :: lt) (st) σ Q ↔ aX d iX6_page 66 (l0 :: l1 :: some (.int x) :: lt) (.int x :: st) σ Q := X_iloadn kX6_page_65 rfl
theorem kX6_page_66 : aCode iX6_page 66 = some (.invokevirtual 119, 3) := by decide +kernel
theorem sX6_page_66 {d : Nat} {σ : aS} {Q : aQ} {b : Nat} {p0 : Int32} {ls : aL} : aX (d + 1) iX6_page 66 (ls) (.int p0 :: .ref b :: []) σ Q ↔ aIs σ b 0 ∧ aX d iX0_markOf 0 [some (.ref b), some (.int p0)] [] σ (fun r τ => aX (d + 1) iX6_page 69 (ls) (aret r ([])) τ Q) := X_invv (N := 1) (As := [.int p0]) (w := 426) kX6_page_66 (by decide +kernel) (by decide +kernel) rfl rfl (by simp only [List.length_cons, List.length_nil]; omega) (by simp only [List.length_cons, List.length_nil]; omega) (by decide +kernel) rfl (Nat.le_of_ble_eq_true rfl)
theorem kX6_page_69 : aCode iX6_page 69 = some (.ireturn, 1) := by decide +kernel
theorem sX6_page_69 {d : Nat} {σ : aS} {Q : aQ} {v : Int32} {ls : aL} : aX d iX6_page 69 (ls) ([.int v]) σ Q ↔ Q (some (.int v)) σ := X_iret kX6_page_69 (by decide +kernel)
theorem kX6_page_70 : aCode iX6_page 70 = some (.aload 4, 2) := by decide +kernel
theorem sX6_page_70 {d : Nat} {σ : aS} {Q : aQ} {l0 l1 l2 l3 : Option Value} {x : Nat} {lt : aL} {st : List Value} : aX d iX6_page 70 (l0 :: l1 :: l2 :: l3 :: some (.ref x) :: lt) (st) σ Q ↔ aX d iX6_page 72 (l0 :: l1 :: l2 :: l3 :: some (.ref x) :: lt) (.ref x :: st) σ Q := X_aload kX6_page_70 rfl rfl
theorem sX6_page_70n {d : Nat} {σ : aS} {Q : aQ} {l0 l1 l2 l3 : Option Value} {lt : aL} {st : List Value} : aX d iX6_page 70 (l0 :: l1 :: l2 :: l3 :: some .null :: lt) (st) σ Q ↔ aX d iX6_page 72 (l0 :: l1 :: l2 :: l3 :: some .null :: lt) (.null :: st) σ Q := X_aload kX6_page_70 rfl rfl
theorem kX6_page_72 : aCode iX6_page 72 = some (.iload_n 2, 1) := by decide +kernel
theorem sX6_page_72 {d : Nat} {σ : aS} {Q : aQ} {l0 l1 : Option Value} {x : Int32} {lt : aL} {st : List Value} : aX d iX6_page 72 (l0 :: l1 :: some (.int x) :: lt) (st) σ Q ↔ aX d iX6_page 73 (l0 :: l1 :: some (.int x) :: lt) (.int x :: st) σ Q := X_iloadn kX6_page_72 rfl
theorem kX6_page_73 : aCode iX6_page 73 = some (.invokevirtual 122, 3) := by decide +kernel
theorem sX6_page_73 {d : Nat} {σ : aS} {Q : aQ} {b : Nat} {p0 : Int32} {ls : aL} : aX (d + 1) iX6_page 73 (ls) (.int p0 :: .ref b :: []) σ Q ↔ aIs σ b 0 ∧ aX d iX0_wasTold 0 [some (.ref b), some (.int p0)] [] σ (fun r τ => aX (d + 1) iX6_page 76 (ls) (aret r ([])) τ Q) := X_invv (N := 1) (As := [.int p0]) (w := 427) kX6_page_73 (by decide +kernel) (by decide +kernel) rfl rfl (by simp only [List.length_cons, List.length_nil]; omega) (by simp only [List.length_cons, List.length_nil]; omega) (by decide +kernel) rfl (Nat.le_of_ble_eq_true rfl)
theorem kX6_page_76 : aCode iX6_page 76 = some (.ifCond .eq 7, 3) := by decide +kernel
theorem sX6_page_76 {d : Nat} {σ : aS} {Q : aQ} {x : Int32} {ls : aL} {st : List Value} : aX d iX6_page 76 (ls) (.int x :: st) σ Q ↔ (if x = nI 0 then aX d iX6_page 83 (ls) (st) σ Q else aX d iX6_page 79 (ls) (st) σ Q) := by rw [X_if kX6_page_76 (t := 83) (by decide)]; simp only [aCmp_eq]
theorem kX6_page_79 : aCode iX6_page 79 = some (.iconst 1, 1) := by decide +kernel
theorem sX6_page_79 {d : Nat} {σ : aS} {Q : aQ} {ls : aL} {st : List Value} : aX d iX6_page 79 (ls) (st) σ Q ↔ aX d iX6_page 80 (ls) (.int (nI 1) :: st) σ Q := X_iconst kX6_page_79 (by decide +kernel)
theorem kX6_page_80 : aCode iX6_page 80 = some (.goto 4, 3) := by decide +kernel
theorem sX6_page_80 {d : Nat} {σ : aS} {Q : aQ} {ls : aL} {st : List Value} : aX d iX6_page 80 (ls) (st) σ Q ↔ aX d iX6_page 84 (ls) (st) σ Q := X_goto kX6_page_80 (by decide)
theorem kX6_page_83 : aCode iX6_page 83 = some (.iconst 0, 1) := by decide +kernel
theorem sX6_page_83 {d : Nat} {σ : aS} {Q : aQ} {ls : aL} {st : List Value} : aX d iX6_page 83 (ls) (st) σ Q ↔ aX d iX6_page 84 (ls) (.int (nI 0) :: st) σ Q := X_iconst kX6_page_83 (by decide +kernel)
theorem kX6_page_84 : aCode iX6_page 84 = some (.ireturn, 1) := by decide +kernel
theorem sX6_page_84 {d : Nat} {σ : aS} {Q : aQ} {v : Int32} {ls : aL} : aX d iX6_page 84 (ls) ([.int v]) σ Q ↔ Q (some (.int v)) σ := X_iret kX6_page_84 (by decide +kernel)
theorem kX6_page_85 : aCode iX6_page 85 = some (.bipush (-2), 2) := by decide +kernel
theorem sX6_page_85 {d : Nat} {σ : aS} {Q : aQ} {ls : aL} {st : List Value} : aX d iX6_page 85 (ls) (st) σ Q ↔ aX d iX6_page 87 (ls) (.int ((-2)) :: st) σ Q := X_bipush kX6_page_85 (by decide +kernel)
theorem kX6_page_87 : aCode iX6_page 87 = some (.ireturn, 1) := by decide +kernel
theorem sX6_page_87 {d : Nat} {σ : aS} {Q : aQ} {v : Int32} {ls : aL} : aX d iX6_page 87 (ls) ([.int v]) σ Q ↔ Q (some (.int v)) σ := X_iret kX6_page_87 (by decide +kernel)
theorem kX6_seat_0 : aCode iX6_seat 0 = some (.iload_n 1, 1) := by decide +kernel
theorem sX6_seat_0 {d : Nat} {σ : aS} {Q : aQ} {l0 : Option Value} {x : Int32} {lt : aL} {st : List Value} : aX d iX6_seat 0 (l0 :: some (.int x) :: lt) (st) σ Q ↔ aX d iX6_seat 1 (l0 :: some (.int x) :: lt) (.int x :: st) σ Q := X_iloadn kX6_seat_0 rfl
theorem kX6_seat_1 : aCode iX6_seat 1 = some (.bipush 8, 2) := by decide +kernel
theorem sX6_seat_1 {d : Nat} {σ : aS} {Q : aQ} {ls : aL} {st : List Value} : aX d iX6_seat 1 (ls) (st) σ Q ↔ aX d iX6_seat 3 (ls) (.int (nI 8) :: st) σ Q := X_bipush kX6_seat_1 (by decide +kernel)
theorem kX6_seat_3 : aCode iX6_seat 3 = some (.invokestatic 112, 3) := by decide +kernel
theorem sX6_seat_3 {d : Nat} {σ : aS} {Q : aQ} {p0 : Int32} {p1 : Int32} {ls : aL} : aX (d + 1) iX6_seat 3 (ls) (.int p1 :: .int p0 :: []) σ Q ↔ aX d iX6_isBelow 0 [some (.int p0), some (.int p1)] [] σ (fun r τ => aX (d + 1) iX6_seat 6 (ls) (aret r ([])) τ Q) := X_invs (N := 2) (As := [.int p1, .int p0]) (k := 1) (w := 424) kX6_seat_3 (by decide +kernel) (by decide) (by decide +kernel) rfl rfl (by simp only [List.length_cons, List.length_nil]; omega) (by simp only [List.length_cons, List.length_nil]; omega) rfl (Nat.le_of_ble_eq_true rfl)
theorem kX6_seat_6 : aCode iX6_seat 6 = some (.ifCond .ne 5, 3) := by decide +kernel
theorem sX6_seat_6 {d : Nat} {σ : aS} {Q : aQ} {x : Int32} {ls : aL} {st : List Value} : aX d iX6_seat 6 (ls) (.int x :: st) σ Q ↔ (if ¬ x = nI 0 then aX d iX6_seat 11 (ls) (st) σ Q else aX d iX6_seat 9 (ls) (st) σ Q) := by rw [X_if kX6_seat_6 (t := 11) (by decide)]; simp only [aCmp_ne]
theorem kX6_seat_9 : aCode iX6_seat 9 = some (.iconst (-1), 1) := by decide +kernel
theorem sX6_seat_9 {d : Nat} {σ : aS} {Q : aQ} {ls : aL} {st : List Value} : aX d iX6_seat 9 (ls) (st) σ Q ↔ aX d iX6_seat 10 (ls) (.int ((-1)) :: st) σ Q := X_iconst kX6_seat_9 (by decide +kernel)
theorem kX6_seat_10 : aCode iX6_seat 10 = some (.ireturn, 1) := by decide +kernel
theorem sX6_seat_10 {d : Nat} {σ : aS} {Q : aQ} {v : Int32} {ls : aL} : aX d iX6_seat 10 (ls) ([.int v]) σ Q ↔ Q (some (.int v)) σ := X_iret kX6_seat_10 (by decide +kernel)
theorem kX6_seat_11 : aCode iX6_seat 11 = some (.iload_n 2, 1) := by decide +kernel
theorem sX6_seat_11 {d : Nat} {σ : aS} {Q : aQ} {l0 l1 : Option Value} {x : Int32} {lt : aL} {st : List Value} : aX d iX6_seat 11 (l0 :: l1 :: some (.int x) :: lt) (st) σ Q ↔ aX d iX6_seat 12 (l0 :: l1 :: some (.int x) :: lt) (.int x :: st) σ Q := X_iloadn kX6_seat_11 rfl
theorem kX6_seat_12 : aCode iX6_seat 12 = some (.tableswitch 95 0 4 #[36, 53, 65, 77, 86], 36) := by decide +kernel
theorem sX6_seat_12_0 {d : Nat} {σ : aS} {Q : aQ} {ls : aL} {st : List Value} : aX d iX6_seat 12 (ls) (.int (nI 0) :: st) σ Q ↔ aX d iX6_seat 48 (ls) (st) σ Q := X_tsw kX6_seat_12 ⟨36, by decide +kernel, by decide⟩
theorem sX6_seat_12_1 {d : Nat} {σ : aS} {Q : aQ} {ls : aL} {st : List Value} : aX d iX6_seat 12 (ls) (.int (nI 1) :: st) σ Q ↔ aX d iX6_seat 65 (ls) (st) σ Q := X_tsw kX6_seat_12 ⟨53, by decide +kernel, by decide⟩
theorem sX6_seat_12_2 {d : Nat} {σ : aS} {Q : aQ} {ls : aL} {st : List Value} : aX d iX6_seat 12 (ls) (.int (nI 2) :: st) σ Q ↔ aX d iX6_seat 77 (ls) (st) σ Q := X_tsw kX6_seat_12 ⟨65, by decide +kernel, by decide⟩
theorem sX6_seat_12_3 {d : Nat} {σ : aS} {Q : aQ} {ls : aL} {st : List Value} : aX d iX6_seat 12 (ls) (.int (nI 3) :: st) σ Q ↔ aX d iX6_seat 89 (ls) (st) σ Q := X_tsw kX6_seat_12 ⟨77, by decide +kernel, by decide⟩
theorem sX6_seat_12_4 {d : Nat} {σ : aS} {Q : aQ} {ls : aL} {st : List Value} : aX d iX6_seat 12 (ls) (.int (nI 4) :: st) σ Q ↔ aX d iX6_seat 98 (ls) (st) σ Q := X_tsw kX6_seat_12 ⟨86, by decide +kernel, by decide⟩
theorem sX6_seat_12_d {d : Nat} {σ : aS} {Q : aQ} {x : Int32} {ls : aL} {st : List Value} (h0 : ¬ x = nI 0) (h1 : ¬ x = nI 1) (h2 : ¬ x = nI 2) (h3 : ¬ x = nI 3) (h4 : ¬ x = nI 4) : aX d iX6_seat 12 (ls) (.int x :: st) σ Q ↔ aX d iX6_seat 107 (ls) (st) σ Q := by
  have g0 : ¬ x.toInt = 0 := fun z => h0 (Int32.toInt_inj.mp (z.trans (by decide +kernel)))
  have g1 : ¬ x.toInt = 1 := fun z => h1 (Int32.toInt_inj.mp (z.trans (by decide +kernel)))
  have g2 : ¬ x.toInt = 2 := fun z => h2 (Int32.toInt_inj.mp (z.trans (by decide +kernel)))
  have g3 : ¬ x.toInt = 3 := fun z => h3 (Int32.toInt_inj.mp (z.trans (by decide +kernel)))
  have g4 : ¬ x.toInt = 4 := fun z => h4 (Int32.toInt_inj.mp (z.trans (by decide +kernel)))
  exact X_tsw kX6_seat_12 ⟨95, if_pos (by omega), by decide⟩
theorem kX6_seat_48 : aCode iX6_seat 48 = some (.aload_n 0, 1) := by decide +kernel
theorem sX6_seat_48 {d : Nat} {σ : aS} {Q : aQ} {x : Nat} {lt : aL} {st : List Value} : aX d iX6_seat 48 (some (.ref x) :: lt) (st) σ Q ↔ aX d iX6_seat 49 (some (.ref x) :: lt) (.ref x :: st) σ Q := X_aloadn kX6_seat_48 rfl rfl
theorem kX6_seat_49 : aCode iX6_seat 49 = some (.getfield 12, 3) := by decide +kernel
theorem sX6_seat_49 {d : Nat} {σ : aS} {Q : aQ} {a : Nat} {ls : aL} {st : List Value} : aX d iX6_seat 49 (ls) (.ref a :: st) σ Q ↔ ∃ v, aFld σ a 6 0 = some v ∧ aX d iX6_seat 52 (ls) (v :: st) σ Q := X_getf (w := 176) kX6_seat_49 (by decide +kernel)
theorem kX6_seat_52 : aCode iX6_seat 52 = some (.iload_n 1, 1) := by decide +kernel
theorem sX6_seat_52 {d : Nat} {σ : aS} {Q : aQ} {l0 : Option Value} {x : Int32} {lt : aL} {st : List Value} : aX d iX6_seat 52 (l0 :: some (.int x) :: lt) (st) σ Q ↔ aX d iX6_seat 53 (l0 :: some (.int x) :: lt) (.int x :: st) σ Q := X_iloadn kX6_seat_52 rfl
theorem kX6_seat_53 : aCode iX6_seat 53 = some (.invokevirtual 126, 3) := by decide +kernel
theorem sX6_seat_53 {d : Nat} {σ : aS} {Q : aQ} {b : Nat} {p0 : Int32} {ls : aL} : aX (d + 1) iX6_seat 53 (ls) (.int p0 :: .ref b :: []) σ Q ↔ aIs σ b 5 ∧ aX d iX5_isTaken 0 [some (.ref b), some (.int p0)] [] σ (fun r τ => aX (d + 1) iX6_seat 56 (ls) (aret r ([])) τ Q) := X_invv (N := 1) (As := [.int p0]) (w := 451) kX6_seat_53 (by decide +kernel) (by decide +kernel) rfl rfl (by simp only [List.length_cons, List.length_nil]; omega) (by simp only [List.length_cons, List.length_nil]; omega) (by decide +kernel) rfl (Nat.le_of_ble_eq_true rfl)
theorem kX6_seat_56 : aCode iX6_seat 56 = some (.ifCond .eq 7, 3) := by decide +kernel
theorem sX6_seat_56 {d : Nat} {σ : aS} {Q : aQ} {x : Int32} {ls : aL} {st : List Value} : aX d iX6_seat 56 (ls) (.int x :: st) σ Q ↔ (if x = nI 0 then aX d iX6_seat 63 (ls) (st) σ Q else aX d iX6_seat 59 (ls) (st) σ Q) := by rw [X_if kX6_seat_56 (t := 63) (by decide)]; simp only [aCmp_eq]
theorem kX6_seat_59 : aCode iX6_seat 59 = some (.iconst 1, 1) := by decide +kernel
theorem sX6_seat_59 {d : Nat} {σ : aS} {Q : aQ} {ls : aL} {st : List Value} : aX d iX6_seat 59 (ls) (st) σ Q ↔ aX d iX6_seat 60 (ls) (.int (nI 1) :: st) σ Q := X_iconst kX6_seat_59 (by decide +kernel)
theorem kX6_seat_60 : aCode iX6_seat 60 = some (.goto 4, 3) := by decide +kernel
theorem sX6_seat_60 {d : Nat} {σ : aS} {Q : aQ} {ls : aL} {st : List Value} : aX d iX6_seat 60 (ls) (st) σ Q ↔ aX d iX6_seat 64 (ls) (st) σ Q := X_goto kX6_seat_60 (by decide)
theorem kX6_seat_63 : aCode iX6_seat 63 = some (.iconst 0, 1) := by decide +kernel
theorem sX6_seat_63 {d : Nat} {σ : aS} {Q : aQ} {ls : aL} {st : List Value} : aX d iX6_seat 63 (ls) (st) σ Q ↔ aX d iX6_seat 64 (ls) (.int (nI 0) :: st) σ Q := X_iconst kX6_seat_63 (by decide +kernel)
theorem kX6_seat_64 : aCode iX6_seat 64 = some (.ireturn, 1) := by decide +kernel
theorem sX6_seat_64 {d : Nat} {σ : aS} {Q : aQ} {v : Int32} {ls : aL} : aX d iX6_seat 64 (ls) ([.int v]) σ Q ↔ Q (some (.int v)) σ := X_iret kX6_seat_64 (by decide +kernel)
theorem kX6_seat_65 : aCode iX6_seat 65 = some (.aload_n 0, 1) := by decide +kernel
theorem sX6_seat_65 {d : Nat} {σ : aS} {Q : aQ} {x : Nat} {lt : aL} {st : List Value} : aX d iX6_seat 65 (some (.ref x) :: lt) (st) σ Q ↔ aX d iX6_seat 66 (some (.ref x) :: lt) (.ref x :: st) σ Q := X_aloadn kX6_seat_65 rfl rfl
theorem kX6_seat_66 : aCode iX6_seat 66 = some (.getfield 12, 3) := by decide +kernel
theorem sX6_seat_66 {d : Nat} {σ : aS} {Q : aQ} {a : Nat} {ls : aL} {st : List Value} : aX d iX6_seat 66 (ls) (.ref a :: st) σ Q ↔ ∃ v, aFld σ a 6 0 = some v ∧ aX d iX6_seat 69 (ls) (v :: st) σ Q := X_getf (w := 176) kX6_seat_66 (by decide +kernel)
theorem kX6_seat_69 : aCode iX6_seat 69 = some (.getfield 129, 3) := by decide +kernel
theorem sX6_seat_69 {d : Nat} {σ : aS} {Q : aQ} {a : Nat} {ls : aL} {st : List Value} : aX d iX6_seat 69 (ls) (.ref a :: st) σ Q ↔ ∃ v, aFld σ a 5 1 = some v ∧ aX d iX6_seat 72 (ls) (v :: st) σ Q := X_getf (w := 72) kX6_seat_69 (by decide +kernel)
theorem kX6_seat_72 : aCode iX6_seat 72 = some (.iload_n 1, 1) := by decide +kernel
theorem sX6_seat_72 {d : Nat} {σ : aS} {Q : aQ} {l0 : Option Value} {x : Int32} {lt : aL} {st : List Value} : aX d iX6_seat 72 (l0 :: some (.int x) :: lt) (st) σ Q ↔ aX d iX6_seat 73 (l0 :: some (.int x) :: lt) (.int x :: st) σ Q := X_iloadn kX6_seat_72 rfl
theorem kX6_seat_73 : aCode iX6_seat 73 = some (.invokestatic 133, 3) := by decide +kernel
theorem sX6_seat_73 {d : Nat} {σ : aS} {Q : aQ} {p0 : Nat} {p1 : Int32} {ls : aL} : aX (d + 1) iX6_seat 73 (ls) (.int p1 :: .ref p0 :: []) σ Q ↔ aX d iX6_valueAt 0 [some (.ref p0), some (.int p1)] [] σ (fun r τ => aX (d + 1) iX6_seat 76 (ls) (aret r ([])) τ Q) := X_invs (N := 2) (As := [.int p1, .ref p0]) (k := 1) (w := 452) kX6_seat_73 (by decide +kernel) (by decide) (by decide +kernel) rfl rfl (by simp only [List.length_cons, List.length_nil]; omega) (by simp only [List.length_cons, List.length_nil]; omega) rfl (Nat.le_of_ble_eq_true rfl)
theorem kX6_seat_76 : aCode iX6_seat 76 = some (.ireturn, 1) := by decide +kernel
theorem sX6_seat_76 {d : Nat} {σ : aS} {Q : aQ} {v : Int32} {ls : aL} : aX d iX6_seat 76 (ls) ([.int v]) σ Q ↔ Q (some (.int v)) σ := X_iret kX6_seat_76 (by decide +kernel)
theorem kX6_seat_77 : aCode iX6_seat 77 = some (.aload_n 0, 1) := by decide +kernel
theorem sX6_seat_77 {d : Nat} {σ : aS} {Q : aQ} {x : Nat} {lt : aL} {st : List Value} : aX d iX6_seat 77 (some (.ref x) :: lt) (st) σ Q ↔ aX d iX6_seat 78 (some (.ref x) :: lt) (.ref x :: st) σ Q := X_aloadn kX6_seat_77 rfl rfl
theorem kX6_seat_78 : aCode iX6_seat 78 = some (.getfield 12, 3) := by decide +kernel
theorem sX6_seat_78 {d : Nat} {σ : aS} {Q : aQ} {a : Nat} {ls : aL} {st : List Value} : aX d iX6_seat 78 (ls) (.ref a :: st) σ Q ↔ ∃ v, aFld σ a 6 0 = some v ∧ aX d iX6_seat 81 (ls) (v :: st) σ Q := X_getf (w := 176) kX6_seat_78 (by decide +kernel)
theorem kX6_seat_81 : aCode iX6_seat 81 = some (.getfield 137, 3) := by decide +kernel
theorem sX6_seat_81 {d : Nat} {σ : aS} {Q : aQ} {a : Nat} {ls : aL} {st : List Value} : aX d iX6_seat 81 (ls) (.ref a :: st) σ Q ↔ ∃ v, aFld σ a 5 2 = some v ∧ aX d iX6_seat 84 (ls) (v :: st) σ Q := X_getf (w := 75) kX6_seat_81 (by decide +kernel)
theorem kX6_seat_84 : aCode iX6_seat 84 = some (.iload_n 1, 1) := by decide +kernel
theorem sX6_seat_84 {d : Nat} {σ : aS} {Q : aQ} {l0 : Option Value} {x : Int32} {lt : aL} {st : List Value} : aX d iX6_seat 84 (l0 :: some (.int x) :: lt) (st) σ Q ↔ aX d iX6_seat 85 (l0 :: some (.int x) :: lt) (.int x :: st) σ Q := X_iloadn kX6_seat_84 rfl
theorem kX6_seat_85 : aCode iX6_seat 85 = some (.invokestatic 133, 3) := by decide +kernel
theorem sX6_seat_85 {d : Nat} {σ : aS} {Q : aQ} {p0 : Nat} {p1 : Int32} {ls : aL} : aX (d + 1) iX6_seat 85 (ls) (.int p1 :: .ref p0 :: []) σ Q ↔ aX d iX6_valueAt 0 [some (.ref p0), some (.int p1)] [] σ (fun r τ => aX (d + 1) iX6_seat 88 (ls) (aret r ([])) τ Q) := X_invs (N := 2) (As := [.int p1, .ref p0]) (k := 1) (w := 452) kX6_seat_85 (by decide +kernel) (by decide) (by decide +kernel) rfl rfl (by simp only [List.length_cons, List.length_nil]; omega) (by simp only [List.length_cons, List.length_nil]; omega) rfl (Nat.le_of_ble_eq_true rfl)
theorem kX6_seat_88 : aCode iX6_seat 88 = some (.ireturn, 1) := by decide +kernel
theorem sX6_seat_88 {d : Nat} {σ : aS} {Q : aQ} {v : Int32} {ls : aL} : aX d iX6_seat 88 (ls) ([.int v]) σ Q ↔ Q (some (.int v)) σ := X_iret kX6_seat_88 (by decide +kernel)
theorem kX6_seat_89 : aCode iX6_seat 89 = some (.aload_n 0, 1) := by decide +kernel
theorem sX6_seat_89 {d : Nat} {σ : aS} {Q : aQ} {x : Nat} {lt : aL} {st : List Value} : aX d iX6_seat 89 (some (.ref x) :: lt) (st) σ Q ↔ aX d iX6_seat 90 (some (.ref x) :: lt) (.ref x :: st) σ Q := X_aloadn kX6_seat_89 rfl rfl
theorem kX6_seat_90 : aCode iX6_seat 90 = some (.getfield 12, 3) := by decide +kernel
theorem sX6_seat_90 {d : Nat} {σ : aS} {Q : aQ} {a : Nat} {ls : aL} {st : List Value} : aX d iX6_seat 90 (ls) (.ref a :: st) σ Q ↔ ∃ v, aFld σ a 6 0 = some v ∧ aX d iX6_seat 93 (ls) (v :: st) σ Q := X_getf (w := 176) kX6_seat_90 (by decide +kernel)
theorem kX6_seat_93 : aCode iX6_seat 93 = some (.iload_n 1, 1) := by decide +kernel
theorem sX6_seat_93 {d : Nat} {σ : aS} {Q : aQ} {l0 : Option Value} {x : Int32} {lt : aL} {st : List Value} : aX d iX6_seat 93 (l0 :: some (.int x) :: lt) (st) σ Q ↔ aX d iX6_seat 94 (l0 :: some (.int x) :: lt) (.int x :: st) σ Q := X_iloadn kX6_seat_93 rfl
theorem kX6_seat_94 : aCode iX6_seat 94 = some (.invokevirtual 140, 3) := by decide +kernel
theorem sX6_seat_94 {d : Nat} {σ : aS} {Q : aQ} {b : Nat} {p0 : Int32} {ls : aL} : aX (d + 1) iX6_seat 94 (ls) (.int p0 :: .ref b :: []) σ Q ↔ aIs σ b 5 ∧ aX d iX5_albumGoingRoundOf 0 [some (.ref b), some (.int p0), none, none] [] σ (fun r τ => aX (d + 1) iX6_seat 97 (ls) (aret r ([])) τ Q) := X_invv (N := 1) (As := [.int p0]) (w := 453) kX6_seat_94 (by decide +kernel) (by decide +kernel) rfl rfl (by simp only [List.length_cons, List.length_nil]; omega) (by simp only [List.length_cons, List.length_nil]; omega) (by decide +kernel) rfl (Nat.le_of_ble_eq_true rfl)
theorem kX6_seat_97 : aCode iX6_seat 97 = some (.ireturn, 1) := by decide +kernel
theorem sX6_seat_97 {d : Nat} {σ : aS} {Q : aQ} {v : Int32} {ls : aL} : aX d iX6_seat 97 (ls) ([.int v]) σ Q ↔ Q (some (.int v)) σ := X_iret kX6_seat_97 (by decide +kernel)
theorem kX6_seat_98 : aCode iX6_seat 98 = some (.aload_n 0, 1) := by decide +kernel
theorem sX6_seat_98 {d : Nat} {σ : aS} {Q : aQ} {x : Nat} {lt : aL} {st : List Value} : aX d iX6_seat 98 (some (.ref x) :: lt) (st) σ Q ↔ aX d iX6_seat 99 (some (.ref x) :: lt) (.ref x :: st) σ Q := X_aloadn kX6_seat_98 rfl rfl
theorem kX6_seat_99 : aCode iX6_seat 99 = some (.getfield 12, 3) := by decide +kernel
theorem sX6_seat_99 {d : Nat} {σ : aS} {Q : aQ} {a : Nat} {ls : aL} {st : List Value} : aX d iX6_seat 99 (ls) (.ref a :: st) σ Q ↔ ∃ v, aFld σ a 6 0 = some v ∧ aX d iX6_seat 102 (ls) (v :: st) σ Q := X_getf (w := 176) kX6_seat_99 (by decide +kernel)
theorem kX6_seat_102 : aCode iX6_seat 102 = some (.iload_n 1, 1) := by decide +kernel
theorem sX6_seat_102 {d : Nat} {σ : aS} {Q : aQ} {l0 : Option Value} {x : Int32} {lt : aL} {st : List Value} : aX d iX6_seat 102 (l0 :: some (.int x) :: lt) (st) σ Q ↔ aX d iX6_seat 103 (l0 :: some (.int x) :: lt) (.int x :: st) σ Q := X_iloadn kX6_seat_102 rfl
theorem kX6_seat_103 : aCode iX6_seat 103 = some (.invokevirtual 143, 3) := by decide +kernel
theorem sX6_seat_103 {d : Nat} {σ : aS} {Q : aQ} {b : Nat} {p0 : Int32} {ls : aL} : aX (d + 1) iX6_seat 103 (ls) (.int p0 :: .ref b :: []) σ Q ↔ aIs σ b 5 ∧ aX d iX5_pagesBy 0 [some (.ref b), some (.int p0), none, none, none] [] σ (fun r τ => aX (d + 1) iX6_seat 106 (ls) (aret r ([])) τ Q) := X_invv (N := 1) (As := [.int p0]) (w := 454) kX6_seat_103 (by decide +kernel) (by decide +kernel) rfl rfl (by simp only [List.length_cons, List.length_nil]; omega) (by simp only [List.length_cons, List.length_nil]; omega) (by decide +kernel) rfl (Nat.le_of_ble_eq_true rfl)
theorem kX6_seat_106 : aCode iX6_seat 106 = some (.ireturn, 1) := by decide +kernel
theorem sX6_seat_106 {d : Nat} {σ : aS} {Q : aQ} {v : Int32} {ls : aL} : aX d iX6_seat 106 (ls) ([.int v]) σ Q ↔ Q (some (.int v)) σ := X_iret kX6_seat_106 (by decide +kernel)
theorem kX6_seat_107 : aCode iX6_seat 107 = some (.bipush (-2), 2) := by decide +kernel
theorem sX6_seat_107 {d : Nat} {σ : aS} {Q : aQ} {ls : aL} {st : List Value} : aX d iX6_seat 107 (ls) (st) σ Q ↔ aX d iX6_seat 109 (ls) (.int ((-2)) :: st) σ Q := X_bipush kX6_seat_107 (by decide +kernel)
theorem kX6_seat_109 : aCode iX6_seat 109 = some (.ireturn, 1) := by decide +kernel
theorem sX6_seat_109 {d : Nat} {σ : aS} {Q : aQ} {v : Int32} {ls : aL} : aX d iX6_seat 109 (ls) ([.int v]) σ Q ↔ Q (some (.int v)) σ := X_iret kX6_seat_109 (by decide +kernel)
theorem kX6_word_0 : aCode iX6_word 0 = some (.iload_n 1, 1) := by decide +kernel
theorem sX6_word_0 {d : Nat} {σ : aS} {Q : aQ} {l0 : Option Value} {x : Int32} {lt : aL} {st : List Value} : aX d iX6_word 0 (l0 :: some (.int x) :: lt) (st) σ Q ↔ aX d iX6_word 1 (l0 :: some (.int x) :: lt) (.int x :: st) σ Q := X_iloadn kX6_word_0 rfl
theorem kX6_word_1 : aCode iX6_word 1 = some (.bipush 16, 2) := by decide +kernel
theorem sX6_word_1 {d : Nat} {σ : aS} {Q : aQ} {ls : aL} {st : List Value} : aX d iX6_word 1 (ls) (st) σ Q ↔ aX d iX6_word 3 (ls) (.int (nI 16) :: st) σ Q := X_bipush kX6_word_1 (by decide +kernel)
theorem kX6_word_3 : aCode iX6_word 3 = some (.invokestatic 112, 3) := by decide +kernel
theorem sX6_word_3 {d : Nat} {σ : aS} {Q : aQ} {p0 : Int32} {p1 : Int32} {ls : aL} : aX (d + 1) iX6_word 3 (ls) (.int p1 :: .int p0 :: []) σ Q ↔ aX d iX6_isBelow 0 [some (.int p0), some (.int p1)] [] σ (fun r τ => aX (d + 1) iX6_word 6 (ls) (aret r ([])) τ Q) := X_invs (N := 2) (As := [.int p1, .int p0]) (k := 1) (w := 424) kX6_word_3 (by decide +kernel) (by decide) (by decide +kernel) rfl rfl (by simp only [List.length_cons, List.length_nil]; omega) (by simp only [List.length_cons, List.length_nil]; omega) rfl (Nat.le_of_ble_eq_true rfl)
theorem kX6_word_6 : aCode iX6_word 6 = some (.ifCond .eq 17, 3) := by decide +kernel
theorem sX6_word_6 {d : Nat} {σ : aS} {Q : aQ} {x : Int32} {ls : aL} {st : List Value} : aX d iX6_word 6 (ls) (.int x :: st) σ Q ↔ (if x = nI 0 then aX d iX6_word 23 (ls) (st) σ Q else aX d iX6_word 9 (ls) (st) σ Q) := by rw [X_if kX6_word_6 (t := 23) (by decide)]; simp only [aCmp_eq]
theorem kX6_word_9 : aCode iX6_word 9 = some (.aload_n 0, 1) := by decide +kernel
theorem sX6_word_9 {d : Nat} {σ : aS} {Q : aQ} {x : Nat} {lt : aL} {st : List Value} : aX d iX6_word 9 (some (.ref x) :: lt) (st) σ Q ↔ aX d iX6_word 10 (some (.ref x) :: lt) (.ref x :: st) σ Q := X_aloadn kX6_word_9 rfl rfl
theorem kX6_word_10 : aCode iX6_word 10 = some (.getfield 12, 3) := by decide +kernel
theorem sX6_word_10 {d : Nat} {σ : aS} {Q : aQ} {a : Nat} {ls : aL} {st : List Value} : aX d iX6_word 10 (ls) (.ref a :: st) σ Q ↔ ∃ v, aFld σ a 6 0 = some v ∧ aX d iX6_word 13 (ls) (v :: st) σ Q := X_getf (w := 176) kX6_word_10 (by decide +kernel)
theorem kX6_word_13 : aCode iX6_word 13 = some (.getfield 146, 3) := by decide +kernel
theorem sX6_word_13 {d : Nat} {σ : aS} {Q : aQ} {a : Nat} {ls : aL} {st : List Value} : aX d iX6_word 13 (ls) (.ref a :: st) σ Q ↔ ∃ v, aFld σ a 5 0 = some v ∧ aX d iX6_word 16 (ls) (v :: st) σ Q := X_getf (w := 70) kX6_word_13 (by decide +kernel)
theorem kX6_word_16 : aCode iX6_word 16 = some (.iload_n 1, 1) := by decide +kernel
theorem sX6_word_16 {d : Nat} {σ : aS} {Q : aQ} {l0 : Option Value} {x : Int32} {lt : aL} {st : List Value} : aX d iX6_word 16 (l0 :: some (.int x) :: lt) (st) σ Q ↔ aX d iX6_word 17 (l0 :: some (.int x) :: lt) (.int x :: st) σ Q := X_iloadn kX6_word_16 rfl
theorem kX6_word_17 : aCode iX6_word 17 = some (.invokestatic 133, 3) := by decide +kernel
theorem sX6_word_17 {d : Nat} {σ : aS} {Q : aQ} {p0 : Nat} {p1 : Int32} {ls : aL} : aX (d + 1) iX6_word 17 (ls) (.int p1 :: .ref p0 :: []) σ Q ↔ aX d iX6_valueAt 0 [some (.ref p0), some (.int p1)] [] σ (fun r τ => aX (d + 1) iX6_word 20 (ls) (aret r ([])) τ Q) := X_invs (N := 2) (As := [.int p1, .ref p0]) (k := 1) (w := 452) kX6_word_17 (by decide +kernel) (by decide) (by decide +kernel) rfl rfl (by simp only [List.length_cons, List.length_nil]; omega) (by simp only [List.length_cons, List.length_nil]; omega) rfl (Nat.le_of_ble_eq_true rfl)
theorem kX6_word_20 : aCode iX6_word 20 = some (.goto 4, 3) := by decide +kernel
theorem sX6_word_20 {d : Nat} {σ : aS} {Q : aQ} {ls : aL} {st : List Value} : aX d iX6_word 20 (ls) (st) σ Q ↔ aX d iX6_word 24 (ls) (st) σ Q := X_goto kX6_word_20 (by decide)
theorem kX6_word_23 : aCode iX6_word 23 = some (.iconst (-1), 1) := by decide +kernel
theorem sX6_word_23 {d : Nat} {σ : aS} {Q : aQ} {ls : aL} {st : List Value} : aX d iX6_word 23 (ls) (st) σ Q ↔ aX d iX6_word 24 (ls) (.int ((-1)) :: st) σ Q := X_iconst kX6_word_23 (by decide +kernel)
theorem kX6_word_24 : aCode iX6_word 24 = some (.ireturn, 1) := by decide +kernel
theorem sX6_word_24 {d : Nat} {σ : aS} {Q : aQ} {v : Int32} {ls : aL} : aX d iX6_word 24 (ls) ([.int v]) σ Q ↔ Q (some (.int v)) σ := X_iret kX6_word_24 (by decide +kernel)
theorem kX6_count_0 : aCode iX6_count 0 = some (.iload_n 1, 1) := by decide +kernel
theorem sX6_count_0 {d : Nat} {σ : aS} {Q : aQ} {l0 : Option Value} {x : Int32} {lt : aL} {st : List Value} : aX d iX6_count 0 (l0 :: some (.int x) :: lt) (st) σ Q ↔ aX d iX6_count 1 (l0 :: some (.int x) :: lt) (.int x :: st) σ Q := X_iloadn kX6_count_0 rfl
theorem kX6_count_1 : aCode iX6_count 1 = some (.tableswitch 126 0 8 #[51, 59, 67, 76, 85, 94, 102, 110, 118], 51) := by decide +kernel
theorem sX6_count_1_0 {d : Nat} {σ : aS} {Q : aQ} {ls : aL} {st : List Value} : aX d iX6_count 1 (ls) (.int (nI 0) :: st) σ Q ↔ aX d iX6_count 52 (ls) (st) σ Q := X_tsw kX6_count_1 ⟨51, by decide +kernel, by decide⟩
theorem sX6_count_1_1 {d : Nat} {σ : aS} {Q : aQ} {ls : aL} {st : List Value} : aX d iX6_count 1 (ls) (.int (nI 1) :: st) σ Q ↔ aX d iX6_count 60 (ls) (st) σ Q := X_tsw kX6_count_1 ⟨59, by decide +kernel, by decide⟩
theorem sX6_count_1_2 {d : Nat} {σ : aS} {Q : aQ} {ls : aL} {st : List Value} : aX d iX6_count 1 (ls) (.int (nI 2) :: st) σ Q ↔ aX d iX6_count 68 (ls) (st) σ Q := X_tsw kX6_count_1 ⟨67, by decide +kernel, by decide⟩
theorem sX6_count_1_3 {d : Nat} {σ : aS} {Q : aQ} {ls : aL} {st : List Value} : aX d iX6_count 1 (ls) (.int (nI 3) :: st) σ Q ↔ aX d iX6_count 77 (ls) (st) σ Q := X_tsw kX6_count_1 ⟨76, by decide +kernel, by decide⟩
theorem sX6_count_1_4 {d : Nat} {σ : aS} {Q : aQ} {ls : aL} {st : List Value} : aX d iX6_count 1 (ls) (.int (nI 4) :: st) σ Q ↔ aX d iX6_count 86 (ls) (st) σ Q := X_tsw kX6_count_1 ⟨85, by decide +kernel, by decide⟩
theorem sX6_count_1_5 {d : Nat} {σ : aS} {Q : aQ} {ls : aL} {st : List Value} : aX d iX6_count 1 (ls) (.int (nI 5) :: st) σ Q ↔ aX d iX6_count 95 (ls) (st) σ Q := X_tsw kX6_count_1 ⟨94, by decide +kernel, by decide⟩
theorem sX6_count_1_6 {d : Nat} {σ : aS} {Q : aQ} {ls : aL} {st : List Value} : aX d iX6_count 1 (ls) (.int (nI 6) :: st) σ Q ↔ aX d iX6_count 103 (ls) (st) σ Q := X_tsw kX6_count_1 ⟨102, by decide +kernel, by decide⟩
theorem sX6_count_1_7 {d : Nat} {σ : aS} {Q : aQ} {ls : aL} {st : List Value} : aX d iX6_count 1 (ls) (.int (nI 7) :: st) σ Q ↔ aX d iX6_count 111 (ls) (st) σ Q := X_tsw kX6_count_1 ⟨110, by decide +kernel, by decide⟩
theorem sX6_count_1_8 {d : Nat} {σ : aS} {Q : aQ} {ls : aL} {st : List Value} : aX d iX6_count 1 (ls) (.int (nI 8) :: st) σ Q ↔ aX d iX6_count 119 (ls) (st) σ Q := X_tsw kX6_count_1 ⟨118, by decide +kernel, by decide⟩
theorem sX6_count_1_d {d : Nat} {σ : aS} {Q : aQ} {x : Int32} {ls : aL} {st : List Value} (h0 : ¬ x = nI 0) (h1 : ¬ x = nI 1) (h2 : ¬ x = nI 2) (h3 : ¬ x = nI 3) (h4 : ¬ x = nI 4) (h5 : ¬ x = nI 5) (h6 : ¬ x = nI 6) (h7 : ¬ x = nI 7) (h8 : ¬ x = nI 8) : aX d iX6_count 1 (ls) (.int x :: st) σ Q ↔ aX d iX6_count 127 (ls) (st) σ Q := by
  have g0 : ¬ x.toInt = 0 := fun z => h0 (Int32.toInt_inj.mp (z.trans (by decide +kernel)))
  have g1 : ¬ x.toInt = 1 := fun z => h1 (Int32.toInt_inj.mp (z.trans (by decide +kernel)))
  have g2 : ¬ x.toInt = 2 := fun z => h2 (Int32.toInt_inj.mp (z.trans (by decide +kernel)))
  have g3 : ¬ x.toInt = 3 := fun z => h3 (Int32.toInt_inj.mp (z.trans (by decide +kernel)))
  have g4 : ¬ x.toInt = 4 := fun z => h4 (Int32.toInt_inj.mp (z.trans (by decide +kernel)))
  have g5 : ¬ x.toInt = 5 := fun z => h5 (Int32.toInt_inj.mp (z.trans (by decide +kernel)))
  have g6 : ¬ x.toInt = 6 := fun z => h6 (Int32.toInt_inj.mp (z.trans (by decide +kernel)))
  have g7 : ¬ x.toInt = 7 := fun z => h7 (Int32.toInt_inj.mp (z.trans (by decide +kernel)))
  have g8 : ¬ x.toInt = 8 := fun z => h8 (Int32.toInt_inj.mp (z.trans (by decide +kernel)))
  exact X_tsw kX6_count_1 ⟨126, if_pos (by omega), by decide⟩
theorem kX6_count_52 : aCode iX6_count 52 = some (.aload_n 0, 1) := by decide +kernel
theorem sX6_count_52 {d : Nat} {σ : aS} {Q : aQ} {x : Nat} {lt : aL} {st : List Value} : aX d iX6_count 52 (some (.ref x) :: lt) (st) σ Q ↔ aX d iX6_count 53 (some (.ref x) :: lt) (.ref x :: st) σ Q := X_aloadn kX6_count_52 rfl rfl
theorem kX6_count_53 : aCode iX6_count 53 = some (.getfield 12, 3) := by decide +kernel
theorem sX6_count_53 {d : Nat} {σ : aS} {Q : aQ} {a : Nat} {ls : aL} {st : List Value} : aX d iX6_count 53 (ls) (.ref a :: st) σ Q ↔ ∃ v, aFld σ a 6 0 = some v ∧ aX d iX6_count 56 (ls) (v :: st) σ Q := X_getf (w := 176) kX6_count_53 (by decide +kernel)
theorem kX6_count_56 : aCode iX6_count 56 = some (.getfield 149, 3) := by decide +kernel
theorem sX6_count_56 {d : Nat} {σ : aS} {Q : aQ} {a : Nat} {ls : aL} {st : List Value} : aX d iX6_count 56 (ls) (.ref a :: st) σ Q ↔ ∃ v, aFld σ a 5 4 = some v ∧ aX d iX6_count 59 (ls) (v :: st) σ Q := X_getf (w := 78) kX6_count_56 (by decide +kernel)
theorem kX6_count_59 : aCode iX6_count 59 = some (.ireturn, 1) := by decide +kernel
theorem sX6_count_59 {d : Nat} {σ : aS} {Q : aQ} {v : Int32} {ls : aL} : aX d iX6_count 59 (ls) ([.int v]) σ Q ↔ Q (some (.int v)) σ := X_iret kX6_count_59 (by decide +kernel)
theorem kX6_count_60 : aCode iX6_count 60 = some (.aload_n 0, 1) := by decide +kernel
theorem sX6_count_60 {d : Nat} {σ : aS} {Q : aQ} {x : Nat} {lt : aL} {st : List Value} : aX d iX6_count 60 (some (.ref x) :: lt) (st) σ Q ↔ aX d iX6_count 61 (some (.ref x) :: lt) (.ref x :: st) σ Q := X_aloadn kX6_count_60 rfl rfl
theorem kX6_count_61 : aCode iX6_count 61 = some (.getfield 12, 3) := by decide +kernel
theorem sX6_count_61 {d : Nat} {σ : aS} {Q : aQ} {a : Nat} {ls : aL} {st : List Value} : aX d iX6_count 61 (ls) (.ref a :: st) σ Q ↔ ∃ v, aFld σ a 6 0 = some v ∧ aX d iX6_count 64 (ls) (v :: st) σ Q := X_getf (w := 176) kX6_count_61 (by decide +kernel)
theorem kX6_count_64 : aCode iX6_count 64 = some (.getfield 152, 3) := by decide +kernel
theorem sX6_count_64 {d : Nat} {σ : aS} {Q : aQ} {a : Nat} {ls : aL} {st : List Value} : aX d iX6_count 64 (ls) (.ref a :: st) σ Q ↔ ∃ v, aFld σ a 5 5 = some v ∧ aX d iX6_count 67 (ls) (v :: st) σ Q := X_getf (w := 81) kX6_count_64 (by decide +kernel)
theorem kX6_count_67 : aCode iX6_count 67 = some (.ireturn, 1) := by decide +kernel
theorem sX6_count_67 {d : Nat} {σ : aS} {Q : aQ} {v : Int32} {ls : aL} : aX d iX6_count 67 (ls) ([.int v]) σ Q ↔ Q (some (.int v)) σ := X_iret kX6_count_67 (by decide +kernel)
theorem kX6_count_68 : aCode iX6_count 68 = some (.aload_n 0, 1) := by decide +kernel
theorem sX6_count_68 {d : Nat} {σ : aS} {Q : aQ} {x : Nat} {lt : aL} {st : List Value} : aX d iX6_count 68 (some (.ref x) :: lt) (st) σ Q ↔ aX d iX6_count 69 (some (.ref x) :: lt) (.ref x :: st) σ Q := X_aloadn kX6_count_68 rfl rfl
theorem kX6_count_69 : aCode iX6_count 69 = some (.getfield 12, 3) := by decide +kernel
theorem sX6_count_69 {d : Nat} {σ : aS} {Q : aQ} {a : Nat} {ls : aL} {st : List Value} : aX d iX6_count 69 (ls) (.ref a :: st) σ Q ↔ ∃ v, aFld σ a 6 0 = some v ∧ aX d iX6_count 72 (ls) (v :: st) σ Q := X_getf (w := 176) kX6_count_69 (by decide +kernel)
theorem kX6_count_72 : aCode iX6_count 72 = some (.iconst 0, 1) := by decide +kernel
theorem sX6_count_72 {d : Nat} {σ : aS} {Q : aQ} {ls : aL} {st : List Value} : aX d iX6_count 72 (ls) (st) σ Q ↔ aX d iX6_count 73 (ls) (.int (nI 0) :: st) σ Q := X_iconst kX6_count_72 (by decide +kernel)
theorem kX6_count_73 : aCode iX6_count 73 = some (.invokevirtual 155, 3) := by decide +kernel
theorem sX6_count_73 {d : Nat} {σ : aS} {Q : aQ} {b : Nat} {p0 : Int32} {ls : aL} : aX (d + 1) iX6_count 73 (ls) (.int p0 :: .ref b :: []) σ Q ↔ aIs σ b 5 ∧ aX d iX5_albumsThatAre 0 [some (.ref b), some (.int p0), none, none, none] [] σ (fun r τ => aX (d + 1) iX6_count 76 (ls) (aret r ([])) τ Q) := X_invv (N := 1) (As := [.int p0]) (w := 466) kX6_count_73 (by decide +kernel) (by decide +kernel) rfl rfl (by simp only [List.length_cons, List.length_nil]; omega) (by simp only [List.length_cons, List.length_nil]; omega) (by decide +kernel) rfl (Nat.le_of_ble_eq_true rfl)
theorem kX6_count_76 : aCode iX6_count 76 = some (.ireturn, 1) := by decide +kernel
theorem sX6_count_76 {d : Nat} {σ : aS} {Q : aQ} {v : Int32} {ls : aL} : aX d iX6_count 76 (ls) ([.int v]) σ Q ↔ Q (some (.int v)) σ := X_iret kX6_count_76 (by decide +kernel)
theorem kX6_count_77 : aCode iX6_count 77 = some (.aload_n 0, 1) := by decide +kernel
theorem sX6_count_77 {d : Nat} {σ : aS} {Q : aQ} {x : Nat} {lt : aL} {st : List Value} : aX d iX6_count 77 (some (.ref x) :: lt) (st) σ Q ↔ aX d iX6_count 78 (some (.ref x) :: lt) (.ref x :: st) σ Q := X_aloadn kX6_count_77 rfl rfl
theorem kX6_count_78 : aCode iX6_count 78 = some (.getfield 12, 3) := by decide +kernel
theorem sX6_count_78 {d : Nat} {σ : aS} {Q : aQ} {a : Nat} {ls : aL} {st : List Value} : aX d iX6_count 78 (ls) (.ref a :: st) σ Q ↔ ∃ v, aFld σ a 6 0 = some v ∧ aX d iX6_count 81 (ls) (v :: st) σ Q := X_getf (w := 176) kX6_count_78 (by decide +kernel)
theorem kX6_count_81 : aCode iX6_count 81 = some (.iconst 1, 1) := by decide +kernel
theorem sX6_count_81 {d : Nat} {σ : aS} {Q : aQ} {ls : aL} {st : List Value} : aX d iX6_count 81 (ls) (st) σ Q ↔ aX d iX6_count 82 (ls) (.int (nI 1) :: st) σ Q := X_iconst kX6_count_81 (by decide +kernel)
theorem kX6_count_82 : aCode iX6_count 82 = some (.invokevirtual 155, 3) := by decide +kernel
theorem sX6_count_82 {d : Nat} {σ : aS} {Q : aQ} {b : Nat} {p0 : Int32} {ls : aL} : aX (d + 1) iX6_count 82 (ls) (.int p0 :: .ref b :: []) σ Q ↔ aIs σ b 5 ∧ aX d iX5_albumsThatAre 0 [some (.ref b), some (.int p0), none, none, none] [] σ (fun r τ => aX (d + 1) iX6_count 85 (ls) (aret r ([])) τ Q) := X_invv (N := 1) (As := [.int p0]) (w := 466) kX6_count_82 (by decide +kernel) (by decide +kernel) rfl rfl (by simp only [List.length_cons, List.length_nil]; omega) (by simp only [List.length_cons, List.length_nil]; omega) (by decide +kernel) rfl (Nat.le_of_ble_eq_true rfl)
theorem kX6_count_85 : aCode iX6_count 85 = some (.ireturn, 1) := by decide +kernel
theorem sX6_count_85 {d : Nat} {σ : aS} {Q : aQ} {v : Int32} {ls : aL} : aX d iX6_count 85 (ls) ([.int v]) σ Q ↔ Q (some (.int v)) σ := X_iret kX6_count_85 (by decide +kernel)
theorem kX6_count_86 : aCode iX6_count 86 = some (.aload_n 0, 1) := by decide +kernel
theorem sX6_count_86 {d : Nat} {σ : aS} {Q : aQ} {x : Nat} {lt : aL} {st : List Value} : aX d iX6_count 86 (some (.ref x) :: lt) (st) σ Q ↔ aX d iX6_count 87 (some (.ref x) :: lt) (.ref x :: st) σ Q := X_aloadn kX6_count_86 rfl rfl
theorem kX6_count_87 : aCode iX6_count 87 = some (.getfield 12, 3) := by decide +kernel
theorem sX6_count_87 {d : Nat} {σ : aS} {Q : aQ} {a : Nat} {ls : aL} {st : List Value} : aX d iX6_count 87 (ls) (.ref a :: st) σ Q ↔ ∃ v, aFld σ a 6 0 = some v ∧ aX d iX6_count 90 (ls) (v :: st) σ Q := X_getf (w := 176) kX6_count_87 (by decide +kernel)
theorem kX6_count_90 : aCode iX6_count 90 = some (.iconst 2, 1) := by decide +kernel
theorem sX6_count_90 {d : Nat} {σ : aS} {Q : aQ} {ls : aL} {st : List Value} : aX d iX6_count 90 (ls) (st) σ Q ↔ aX d iX6_count 91 (ls) (.int (nI 2) :: st) σ Q := X_iconst kX6_count_90 (by decide +kernel)
theorem kX6_count_91 : aCode iX6_count 91 = some (.invokevirtual 155, 3) := by decide +kernel
theorem sX6_count_91 {d : Nat} {σ : aS} {Q : aQ} {b : Nat} {p0 : Int32} {ls : aL} : aX (d + 1) iX6_count 91 (ls) (.int p0 :: .ref b :: []) σ Q ↔ aIs σ b 5 ∧ aX d iX5_albumsThatAre 0 [some (.ref b), some (.int p0), none, none, none] [] σ (fun r τ => aX (d + 1) iX6_count 94 (ls) (aret r ([])) τ Q) := X_invv (N := 1) (As := [.int p0]) (w := 466) kX6_count_91 (by decide +kernel) (by decide +kernel) rfl rfl (by simp only [List.length_cons, List.length_nil]; omega) (by simp only [List.length_cons, List.length_nil]; omega) (by decide +kernel) rfl (Nat.le_of_ble_eq_true rfl)
theorem kX6_count_94 : aCode iX6_count 94 = some (.ireturn, 1) := by decide +kernel
theorem sX6_count_94 {d : Nat} {σ : aS} {Q : aQ} {v : Int32} {ls : aL} : aX d iX6_count 94 (ls) ([.int v]) σ Q ↔ Q (some (.int v)) σ := X_iret kX6_count_94 (by decide +kernel)
theorem kX6_count_95 : aCode iX6_count 95 = some (.aload_n 0, 1) := by decide +kernel
theorem sX6_count_95 {d : Nat} {σ : aS} {Q : aQ} {x : Nat} {lt : aL} {st : List Value} : aX d iX6_count 95 (some (.ref x) :: lt) (st) σ Q ↔ aX d iX6_count 96 (some (.ref x) :: lt) (.ref x :: st) σ Q := X_aloadn kX6_count_95 rfl rfl
theorem kX6_count_96 : aCode iX6_count 96 = some (.getfield 12, 3) := by decide +kernel
theorem sX6_count_96 {d : Nat} {σ : aS} {Q : aQ} {a : Nat} {ls : aL} {st : List Value} : aX d iX6_count 96 (ls) (.ref a :: st) σ Q ↔ ∃ v, aFld σ a 6 0 = some v ∧ aX d iX6_count 99 (ls) (v :: st) σ Q := X_getf (w := 176) kX6_count_96 (by decide +kernel)
theorem kX6_count_99 : aCode iX6_count 99 = some (.getfield 158, 3) := by decide +kernel
theorem sX6_count_99 {d : Nat} {σ : aS} {Q : aQ} {a : Nat} {ls : aL} {st : List Value} : aX d iX6_count 99 (ls) (.ref a :: st) σ Q ↔ ∃ v, aFld σ a 5 6 = some v ∧ aX d iX6_count 102 (ls) (v :: st) σ Q := X_getf (w := 83) kX6_count_99 (by decide +kernel)
theorem kX6_count_102 : aCode iX6_count 102 = some (.ireturn, 1) := by decide +kernel
theorem sX6_count_102 {d : Nat} {σ : aS} {Q : aQ} {v : Int32} {ls : aL} : aX d iX6_count 102 (ls) ([.int v]) σ Q ↔ Q (some (.int v)) σ := X_iret kX6_count_102 (by decide +kernel)
theorem kX6_count_103 : aCode iX6_count 103 = some (.aload_n 0, 1) := by decide +kernel
theorem sX6_count_103 {d : Nat} {σ : aS} {Q : aQ} {x : Nat} {lt : aL} {st : List Value} : aX d iX6_count 103 (some (.ref x) :: lt) (st) σ Q ↔ aX d iX6_count 104 (some (.ref x) :: lt) (.ref x :: st) σ Q := X_aloadn kX6_count_103 rfl rfl
theorem kX6_count_104 : aCode iX6_count 104 = some (.getfield 12, 3) := by decide +kernel
theorem sX6_count_104 {d : Nat} {σ : aS} {Q : aQ} {a : Nat} {ls : aL} {st : List Value} : aX d iX6_count 104 (ls) (.ref a :: st) σ Q ↔ ∃ v, aFld σ a 6 0 = some v ∧ aX d iX6_count 107 (ls) (v :: st) σ Q := X_getf (w := 176) kX6_count_104 (by decide +kernel)
theorem kX6_count_107 : aCode iX6_count 107 = some (.invokevirtual 161, 3) := by decide +kernel
theorem sX6_count_107 {d : Nat} {σ : aS} {Q : aQ} {b : Nat} {ls : aL} : aX (d + 1) iX6_count 107 (ls) (.ref b :: []) σ Q ↔ aIs σ b 5 ∧ aX d iX5_allPoints 0 [some (.ref b), none, none] [] σ (fun r τ => aX (d + 1) iX6_count 110 (ls) (aret r ([])) τ Q) := X_invv (N := 0) (As := []) (w := 467) kX6_count_107 (by decide +kernel) (by decide +kernel) rfl rfl (by simp only [List.length_cons, List.length_nil]; omega) (by simp only [List.length_cons, List.length_nil]; omega) (by decide +kernel) rfl (Nat.le_of_ble_eq_true rfl)
theorem kX6_count_110 : aCode iX6_count 110 = some (.ireturn, 1) := by decide +kernel
theorem sX6_count_110 {d : Nat} {σ : aS} {Q : aQ} {v : Int32} {ls : aL} : aX d iX6_count 110 (ls) ([.int v]) σ Q ↔ Q (some (.int v)) σ := X_iret kX6_count_110 (by decide +kernel)
theorem kX6_count_111 : aCode iX6_count 111 = some (.aload_n 0, 1) := by decide +kernel
theorem sX6_count_111 {d : Nat} {σ : aS} {Q : aQ} {x : Nat} {lt : aL} {st : List Value} : aX d iX6_count 111 (some (.ref x) :: lt) (st) σ Q ↔ aX d iX6_count 112 (some (.ref x) :: lt) (.ref x :: st) σ Q := X_aloadn kX6_count_111 rfl rfl
theorem kX6_count_112 : aCode iX6_count 112 = some (.getfield 39, 3) := by decide +kernel
theorem sX6_count_112 {d : Nat} {σ : aS} {Q : aQ} {a : Nat} {ls : aL} {st : List Value} : aX d iX6_count 112 (ls) (.ref a :: st) σ Q ↔ ∃ v, aFld σ a 6 4 = some v ∧ aX d iX6_count 115 (ls) (v :: st) σ Q := X_getf (w := 180) kX6_count_112 (by decide +kernel)
theorem kX6_count_115 : aCode iX6_count 115 = some (.getfield 164, 3) := by decide +kernel
theorem sX6_count_115 {d : Nat} {σ : aS} {Q : aQ} {a : Nat} {ls : aL} {st : List Value} : aX d iX6_count 115 (ls) (.ref a :: st) σ Q ↔ ∃ v, aFld σ a 3 1 = some v ∧ aX d iX6_count 118 (ls) (v :: st) σ Q := X_getf (w := 149) kX6_count_115 (by decide +kernel)
theorem kX6_count_118 : aCode iX6_count 118 = some (.ireturn, 1) := by decide +kernel
theorem sX6_count_118 {d : Nat} {σ : aS} {Q : aQ} {v : Int32} {ls : aL} : aX d iX6_count 118 (ls) ([.int v]) σ Q ↔ Q (some (.int v)) σ := X_iret kX6_count_118 (by decide +kernel)
theorem kX6_count_119 : aCode iX6_count 119 = some (.aload_n 0, 1) := by decide +kernel
theorem sX6_count_119 {d : Nat} {σ : aS} {Q : aQ} {x : Nat} {lt : aL} {st : List Value} : aX d iX6_count 119 (some (.ref x) :: lt) (st) σ Q ↔ aX d iX6_count 120 (some (.ref x) :: lt) (.ref x :: st) σ Q := X_aloadn kX6_count_119 rfl rfl
theorem kX6_count_120 : aCode iX6_count 120 = some (.getfield 26, 3) := by decide +kernel
theorem sX6_count_120 {d : Nat} {σ : aS} {Q : aQ} {a : Nat} {ls : aL} {st : List Value} : aX d iX6_count 120 (ls) (.ref a :: st) σ Q ↔ ∃ v, aFld σ a 6 2 = some v ∧ aX d iX6_count 123 (ls) (v :: st) σ Q := X_getf (w := 178) kX6_count_120 (by decide +kernel)
theorem kX6_count_123 : aCode iX6_count 123 = some (.getfield 167, 3) := by decide +kernel
theorem sX6_count_123 {d : Nat} {σ : aS} {Q : aQ} {a : Nat} {ls : aL} {st : List Value} : aX d iX6_count 123 (ls) (.ref a :: st) σ Q ↔ ∃ v, aFld σ a 2 2 = some v ∧ aX d iX6_count 126 (ls) (v :: st) σ Q := X_getf (w := 132) kX6_count_123 (by decide +kernel)
theorem kX6_count_126 : aCode iX6_count 126 = some (.ireturn, 1) := by decide +kernel
theorem sX6_count_126 {d : Nat} {σ : aS} {Q : aQ} {v : Int32} {ls : aL} : aX d iX6_count 126 (ls) ([.int v]) σ Q ↔ Q (some (.int v)) σ := X_iret kX6_count_126 (by decide +kernel)
theorem kX6_count_127 : aCode iX6_count 127 = some (.bipush (-2), 2) := by decide +kernel
theorem sX6_count_127 {d : Nat} {σ : aS} {Q : aQ} {ls : aL} {st : List Value} : aX d iX6_count 127 (ls) (st) σ Q ↔ aX d iX6_count 129 (ls) (.int ((-2)) :: st) σ Q := X_bipush kX6_count_127 (by decide +kernel)
theorem kX6_count_129 : aCode iX6_count 129 = some (.ireturn, 1) := by decide +kernel
theorem sX6_count_129 {d : Nat} {σ : aS} {Q : aQ} {v : Int32} {ls : aL} : aX d iX6_count 129 (ls) ([.int v]) σ Q ↔ Q (some (.int v)) σ := X_iret kX6_count_129 (by decide +kernel)
theorem kX6_guess_0 : aCode iX6_guess 0 = some (.iload_n 1, 1) := by decide +kernel
theorem sX6_guess_0 {d : Nat} {σ : aS} {Q : aQ} {l0 : Option Value} {x : Int32} {lt : aL} {st : List Value} : aX d iX6_guess 0 (l0 :: some (.int x) :: lt) (st) σ Q ↔ aX d iX6_guess 1 (l0 :: some (.int x) :: lt) (.int x :: st) σ Q := X_iloadn kX6_guess_0 rfl
theorem kX6_guess_1 : aCode iX6_guess 1 = some (.sipush 4096, 3) := by decide +kernel
theorem sX6_guess_1 {d : Nat} {σ : aS} {Q : aQ} {ls : aL} {st : List Value} : aX d iX6_guess 1 (ls) (st) σ Q ↔ aX d iX6_guess 4 (ls) (.int (nI 4096) :: st) σ Q := X_sipush kX6_guess_1 (by decide +kernel)
theorem kX6_guess_4 : aCode iX6_guess 4 = some (.invokestatic 112, 3) := by decide +kernel
theorem sX6_guess_4 {d : Nat} {σ : aS} {Q : aQ} {p0 : Int32} {p1 : Int32} {ls : aL} : aX (d + 1) iX6_guess 4 (ls) (.int p1 :: .int p0 :: []) σ Q ↔ aX d iX6_isBelow 0 [some (.int p0), some (.int p1)] [] σ (fun r τ => aX (d + 1) iX6_guess 7 (ls) (aret r ([])) τ Q) := X_invs (N := 2) (As := [.int p1, .int p0]) (k := 1) (w := 424) kX6_guess_4 (by decide +kernel) (by decide) (by decide +kernel) rfl rfl (by simp only [List.length_cons, List.length_nil]; omega) (by simp only [List.length_cons, List.length_nil]; omega) rfl (Nat.le_of_ble_eq_true rfl)
theorem kX6_guess_7 : aCode iX6_guess 7 = some (.ifCond .eq 14, 3) := by decide +kernel
theorem sX6_guess_7 {d : Nat} {σ : aS} {Q : aQ} {x : Int32} {ls : aL} {st : List Value} : aX d iX6_guess 7 (ls) (.int x :: st) σ Q ↔ (if x = nI 0 then aX d iX6_guess 21 (ls) (st) σ Q else aX d iX6_guess 10 (ls) (st) σ Q) := by rw [X_if kX6_guess_7 (t := 21) (by decide)]; simp only [aCmp_eq]
theorem kX6_guess_10 : aCode iX6_guess 10 = some (.aload_n 0, 1) := by decide +kernel
theorem sX6_guess_10 {d : Nat} {σ : aS} {Q : aQ} {x : Nat} {lt : aL} {st : List Value} : aX d iX6_guess 10 (some (.ref x) :: lt) (st) σ Q ↔ aX d iX6_guess 11 (some (.ref x) :: lt) (.ref x :: st) σ Q := X_aloadn kX6_guess_10 rfl rfl
theorem kX6_guess_11 : aCode iX6_guess 11 = some (.getfield 12, 3) := by decide +kernel
theorem sX6_guess_11 {d : Nat} {σ : aS} {Q : aQ} {a : Nat} {ls : aL} {st : List Value} : aX d iX6_guess 11 (ls) (.ref a :: st) σ Q ↔ ∃ v, aFld σ a 6 0 = some v ∧ aX d iX6_guess 14 (ls) (v :: st) σ Q := X_getf (w := 176) kX6_guess_11 (by decide +kernel)
theorem kX6_guess_14 : aCode iX6_guess 14 = some (.iload_n 1, 1) := by decide +kernel
theorem sX6_guess_14 {d : Nat} {σ : aS} {Q : aQ} {l0 : Option Value} {x : Int32} {lt : aL} {st : List Value} : aX d iX6_guess 14 (l0 :: some (.int x) :: lt) (st) σ Q ↔ aX d iX6_guess 15 (l0 :: some (.int x) :: lt) (.int x :: st) σ Q := X_iloadn kX6_guess_14 rfl
theorem kX6_guess_15 : aCode iX6_guess 15 = some (.invokevirtual 168, 3) := by decide +kernel
theorem sX6_guess_15 {d : Nat} {σ : aS} {Q : aQ} {b : Nat} {p0 : Int32} {ls : aL} : aX (d + 1) iX6_guess 15 (ls) (.int p0 :: .ref b :: []) σ Q ↔ aIs σ b 5 ∧ aX d iX5_mostLike 0 [some (.ref b), some (.int p0), none, none, none, none] [] σ (fun r τ => aX (d + 1) iX6_guess 18 (ls) (aret r ([])) τ Q) := X_invv (N := 1) (As := [.int p0]) (w := 503) kX6_guess_15 (by decide +kernel) (by decide +kernel) rfl rfl (by simp only [List.length_cons, List.length_nil]; omega) (by simp only [List.length_cons, List.length_nil]; omega) (by decide +kernel) rfl (Nat.le_of_ble_eq_true rfl)
theorem kX6_guess_18 : aCode iX6_guess 18 = some (.goto 5, 3) := by decide +kernel
theorem sX6_guess_18 {d : Nat} {σ : aS} {Q : aQ} {ls : aL} {st : List Value} : aX d iX6_guess 18 (ls) (st) σ Q ↔ aX d iX6_guess 23 (ls) (st) σ Q := X_goto kX6_guess_18 (by decide)
theorem kX6_guess_21 : aCode iX6_guess 21 = some (.bipush (-2), 2) := by decide +kernel
theorem sX6_guess_21 {d : Nat} {σ : aS} {Q : aQ} {ls : aL} {st : List Value} : aX d iX6_guess 21 (ls) (st) σ Q ↔ aX d iX6_guess 23 (ls) (.int ((-2)) :: st) σ Q := X_bipush kX6_guess_21 (by decide +kernel)
theorem kX6_guess_23 : aCode iX6_guess 23 = some (.ireturn, 1) := by decide +kernel
theorem sX6_guess_23 {d : Nat} {σ : aS} {Q : aQ} {v : Int32} {ls : aL} : aX d iX6_guess 23 (ls) ([.int v]) σ Q ↔ Q (some (.int v)) σ := X_iret kX6_guess_23 (by decide +kernel)
theorem kX6_foretold_0 : aCode iX6_foretold 0 = some (.aload_n 0, 1) := by decide +kernel
theorem sX6_foretold_0 {d : Nat} {σ : aS} {Q : aQ} {x : Nat} {lt : aL} {st : List Value} : aX d iX6_foretold 0 (some (.ref x) :: lt) (st) σ Q ↔ aX d iX6_foretold 1 (some (.ref x) :: lt) (.ref x :: st) σ Q := X_aloadn kX6_foretold_0 rfl rfl
theorem kX6_foretold_1 : aCode iX6_foretold 1 = some (.getfield 12, 3) := by decide +kernel
theorem sX6_foretold_1 {d : Nat} {σ : aS} {Q : aQ} {a : Nat} {ls : aL} {st : List Value} : aX d iX6_foretold 1 (ls) (.ref a :: st) σ Q ↔ ∃ v, aFld σ a 6 0 = some v ∧ aX d iX6_foretold 4 (ls) (v :: st) σ Q := X_getf (w := 176) kX6_foretold_1 (by decide +kernel)
theorem kX6_foretold_4 : aCode iX6_foretold 4 = some (.iload_n 1, 1) := by decide +kernel
theorem sX6_foretold_4 {d : Nat} {σ : aS} {Q : aQ} {l0 : Option Value} {x : Int32} {lt : aL} {st : List Value} : aX d iX6_foretold 4 (l0 :: some (.int x) :: lt) (st) σ Q ↔ aX d iX6_foretold 5 (l0 :: some (.int x) :: lt) (.int x :: st) σ Q := X_iloadn kX6_foretold_4 rfl
theorem kX6_foretold_5 : aCode iX6_foretold 5 = some (.invokevirtual 75, 3) := by decide +kernel
theorem sX6_foretold_5 {d : Nat} {σ : aS} {Q : aQ} {b : Nat} {p0 : Int32} {ls : aL} : aX (d + 1) iX6_foretold 5 (ls) (.int p0 :: .ref b :: []) σ Q ↔ aIs σ b 5 ∧ aX d iX5_albumAt 0 [some (.ref b), some (.int p0)] [] σ (fun r τ => aX (d + 1) iX6_foretold 8 (ls) (aret r ([])) τ Q) := X_invv (N := 1) (As := [.int p0]) (w := 423) kX6_foretold_5 (by decide +kernel) (by decide +kernel) rfl rfl (by simp only [List.length_cons, List.length_nil]; omega) (by simp only [List.length_cons, List.length_nil]; omega) (by decide +kernel) rfl (Nat.le_of_ble_eq_true rfl)
theorem kX6_foretold_8 : aCode iX6_foretold 8 = some (.astore_n 3, 1) := by decide +kernel
theorem sX6_foretold_8 {d : Nat} {σ : aS} {Q : aQ} {l0 l1 l2 lo : Option Value} {x : Nat} {lt : aL} {st : List Value} : aX d iX6_foretold 8 (l0 :: l1 :: l2 :: lo :: lt) (.ref x :: st) σ Q ↔ aX d iX6_foretold 9 (l0 :: l1 :: aclr l2 :: some (.ref x) :: lt) (st) σ Q := X_astoren kX6_foretold_8 (by simp only [List.length_cons]; omega) rfl
theorem sX6_foretold_8n {d : Nat} {σ : aS} {Q : aQ} {l0 l1 l2 lo : Option Value} {lt : aL} {st : List Value} : aX d iX6_foretold 8 (l0 :: l1 :: l2 :: lo :: lt) (.null :: st) σ Q ↔ aX d iX6_foretold 9 (l0 :: l1 :: aclr l2 :: some (.null) :: lt) (st) σ Q := X_astoren kX6_foretold_8 (by simp only [List.length_cons]; omega) rfl
theorem kX6_foretold_9 : aCode iX6_foretold 9 = some (.aload_n 3, 1) := by decide +kernel
theorem sX6_foretold_9 {d : Nat} {σ : aS} {Q : aQ} {l0 l1 l2 : Option Value} {x : Nat} {lt : aL} {st : List Value} : aX d iX6_foretold 9 (l0 :: l1 :: l2 :: some (.ref x) :: lt) (st) σ Q ↔ aX d iX6_foretold 10 (l0 :: l1 :: l2 :: some (.ref x) :: lt) (.ref x :: st) σ Q := X_aloadn kX6_foretold_9 rfl rfl
theorem sX6_foretold_9n {d : Nat} {σ : aS} {Q : aQ} {l0 l1 l2 : Option Value} {lt : aL} {st : List Value} : aX d iX6_foretold 9 (l0 :: l1 :: l2 :: some .null :: lt) (st) σ Q ↔ aX d iX6_foretold 10 (l0 :: l1 :: l2 :: some .null :: lt) (.null :: st) σ Q := X_aloadn kX6_foretold_9 rfl rfl
theorem kX6_foretold_10 : aCode iX6_foretold 10 = some (.ifnonnull 5, 3) := by decide +kernel
theorem sX6_foretold_10 {d : Nat} {σ : aS} {Q : aQ} {x : Nat} {ls : aL} {st : List Value} : aX d iX6_foretold 10 (ls) (.ref x :: st) σ Q ↔ aX d iX6_foretold 15 (ls) (st) σ Q := X_ifnonnull kX6_foretold_10 (t := 15) (by decide)
theorem sX6_foretold_10n {d : Nat} {σ : aS} {Q : aQ} {ls : aL} {st : List Value} : aX d iX6_foretold 10 (ls) (.null :: st) σ Q ↔ aX d iX6_foretold 13 (ls) (st) σ Q := X_ifnonnullN kX6_foretold_10 (t := 15) (by decide)
theorem kX6_foretold_13 : aCode iX6_foretold 13 = some (.iconst (-1), 1) := by decide +kernel
theorem sX6_foretold_13 {d : Nat} {σ : aS} {Q : aQ} {ls : aL} {st : List Value} : aX d iX6_foretold 13 (ls) (st) σ Q ↔ aX d iX6_foretold 14 (ls) (.int ((-1)) :: st) σ Q := X_iconst kX6_foretold_13 (by decide +kernel)
theorem kX6_foretold_14 : aCode iX6_foretold 14 = some (.ireturn, 1) := by decide +kernel
theorem sX6_foretold_14 {d : Nat} {σ : aS} {Q : aQ} {v : Int32} {ls : aL} : aX d iX6_foretold 14 (ls) ([.int v]) σ Q ↔ Q (some (.int v)) σ := X_iret kX6_foretold_14 (by decide +kernel)
theorem kX6_foretold_15 : aCode iX6_foretold 15 = some (.iload_n 2, 1) := by decide +kernel
theorem sX6_foretold_15 {d : Nat} {σ : aS} {Q : aQ} {l0 l1 : Option Value} {x : Int32} {lt : aL} {st : List Value} : aX d iX6_foretold 15 (l0 :: l1 :: some (.int x) :: lt) (st) σ Q ↔ aX d iX6_foretold 16 (l0 :: l1 :: some (.int x) :: lt) (.int x :: st) σ Q := X_iloadn kX6_foretold_15 rfl
theorem kX6_foretold_16 : aCode iX6_foretold 16 = some (.iconst 4, 1) := by decide +kernel
theorem sX6_foretold_16 {d : Nat} {σ : aS} {Q : aQ} {ls : aL} {st : List Value} : aX d iX6_foretold 16 (ls) (st) σ Q ↔ aX d iX6_foretold 17 (ls) (.int (nI 4) :: st) σ Q := X_iconst kX6_foretold_16 (by decide +kernel)
theorem kX6_foretold_17 : aCode iX6_foretold 17 = some (.invokestatic 112, 3) := by decide +kernel
theorem sX6_foretold_17 {d : Nat} {σ : aS} {Q : aQ} {p0 : Int32} {p1 : Int32} {ls : aL} : aX (d + 1) iX6_foretold 17 (ls) (.int p1 :: .int p0 :: []) σ Q ↔ aX d iX6_isBelow 0 [some (.int p0), some (.int p1)] [] σ (fun r τ => aX (d + 1) iX6_foretold 20 (ls) (aret r ([])) τ Q) := X_invs (N := 2) (As := [.int p1, .int p0]) (k := 1) (w := 424) kX6_foretold_17 (by decide +kernel) (by decide) (by decide +kernel) rfl rfl (by simp only [List.length_cons, List.length_nil]; omega) (by simp only [List.length_cons, List.length_nil]; omega) rfl (Nat.le_of_ble_eq_true rfl)
theorem kX6_foretold_20 : aCode iX6_foretold 20 = some (.ifCond .ne 6, 3) := by decide +kernel
theorem sX6_foretold_20 {d : Nat} {σ : aS} {Q : aQ} {x : Int32} {ls : aL} {st : List Value} : aX d iX6_foretold 20 (ls) (.int x :: st) σ Q ↔ (if ¬ x = nI 0 then aX d iX6_foretold 26 (ls) (st) σ Q else aX d iX6_foretold 23 (ls) (st) σ Q) := by rw [X_if kX6_foretold_20 (t := 26) (by decide)]; simp only [aCmp_ne]
theorem kX6_foretold_23 : aCode iX6_foretold 23 = some (.bipush (-2), 2) := by decide +kernel
theorem sX6_foretold_23 {d : Nat} {σ : aS} {Q : aQ} {ls : aL} {st : List Value} : aX d iX6_foretold 23 (ls) (st) σ Q ↔ aX d iX6_foretold 25 (ls) (.int ((-2)) :: st) σ Q := X_bipush kX6_foretold_23 (by decide +kernel)
theorem kX6_foretold_25 : aCode iX6_foretold 25 = some (.ireturn, 1) := by decide +kernel
theorem sX6_foretold_25 {d : Nat} {σ : aS} {Q : aQ} {v : Int32} {ls : aL} : aX d iX6_foretold 25 (ls) ([.int v]) σ Q ↔ Q (some (.int v)) σ := X_iret kX6_foretold_25 (by decide +kernel)
theorem kX6_foretold_26 : aCode iX6_foretold 26 = some (.aload_n 0, 1) := by decide +kernel
theorem sX6_foretold_26 {d : Nat} {σ : aS} {Q : aQ} {x : Nat} {lt : aL} {st : List Value} : aX d iX6_foretold 26 (some (.ref x) :: lt) (st) σ Q ↔ aX d iX6_foretold 27 (some (.ref x) :: lt) (.ref x :: st) σ Q := X_aloadn kX6_foretold_26 rfl rfl
theorem kX6_foretold_27 : aCode iX6_foretold 27 = some (.getfield 19, 3) := by decide +kernel
theorem sX6_foretold_27 {d : Nat} {σ : aS} {Q : aQ} {a : Nat} {ls : aL} {st : List Value} : aX d iX6_foretold 27 (ls) (.ref a :: st) σ Q ↔ ∃ v, aFld σ a 6 1 = some v ∧ aX d iX6_foretold 30 (ls) (v :: st) σ Q := X_getf (w := 177) kX6_foretold_27 (by decide +kernel)
theorem kX6_foretold_30 : aCode iX6_foretold 30 = some (.aload_n 0, 1) := by decide +kernel
theorem sX6_foretold_30 {d : Nat} {σ : aS} {Q : aQ} {x : Nat} {lt : aL} {st : List Value} : aX d iX6_foretold 30 (some (.ref x) :: lt) (st) σ Q ↔ aX d iX6_foretold 31 (some (.ref x) :: lt) (.ref x :: st) σ Q := X_aloadn kX6_foretold_30 rfl rfl
theorem kX6_foretold_31 : aCode iX6_foretold 31 = some (.getfield 12, 3) := by decide +kernel
theorem sX6_foretold_31 {d : Nat} {σ : aS} {Q : aQ} {a : Nat} {ls : aL} {st : List Value} : aX d iX6_foretold 31 (ls) (.ref a :: st) σ Q ↔ ∃ v, aFld σ a 6 0 = some v ∧ aX d iX6_foretold 34 (ls) (v :: st) σ Q := X_getf (w := 176) kX6_foretold_31 (by decide +kernel)
theorem kX6_foretold_34 : aCode iX6_foretold 34 = some (.aload_n 3, 1) := by decide +kernel
theorem sX6_foretold_34 {d : Nat} {σ : aS} {Q : aQ} {l0 l1 l2 : Option Value} {x : Nat} {lt : aL} {st : List Value} : aX d iX6_foretold 34 (l0 :: l1 :: l2 :: some (.ref x) :: lt) (st) σ Q ↔ aX d iX6_foretold 35 (l0 :: l1 :: l2 :: some (.ref x) :: lt) (.ref x :: st) σ Q := X_aloadn kX6_foretold_34 rfl rfl
theorem sX6_foretold_34n {d : Nat} {σ : aS} {Q : aQ} {l0 l1 l2 : Option Value} {lt : aL} {st : List Value} : aX d iX6_foretold 34 (l0 :: l1 :: l2 :: some .null :: lt) (st) σ Q ↔ aX d iX6_foretold 35 (l0 :: l1 :: l2 :: some .null :: lt) (.null :: st) σ Q := X_aloadn kX6_foretold_34 rfl rfl
theorem kX6_foretold_35 : aCode iX6_foretold 35 = some (.invokevirtual 171, 3) := by decide +kernel
theorem sX6_foretold_35 {d : Nat} {σ : aS} {Q : aQ} {b : Nat} {p0 : Nat} {p1 : Nat} {ls : aL} : aX (d + 1) iX6_foretold 35 (ls) (.ref p1 :: .ref p0 :: .ref b :: []) σ Q ↔ aIs σ b 1 ∧ aX d iX1_follow 0 [some (.ref b), some (.ref p0), some (.ref p1)] [] σ (fun r τ => aX (d + 1) iX6_foretold 38 (ls) (aret r ([])) τ Q) := X_invv (N := 2) (As := [.ref p1, .ref p0]) (w := 478) kX6_foretold_35 (by decide +kernel) (by decide +kernel) rfl rfl (by simp only [List.length_cons, List.length_nil]; omega) (by simp only [List.length_cons, List.length_nil]; omega) (by decide +kernel) rfl (Nat.le_of_ble_eq_true rfl)
theorem kX6_foretold_38 : aCode iX6_foretold 38 = some (.iload_n 2, 1) := by decide +kernel
theorem sX6_foretold_38 {d : Nat} {σ : aS} {Q : aQ} {l0 l1 : Option Value} {x : Int32} {lt : aL} {st : List Value} : aX d iX6_foretold 38 (l0 :: l1 :: some (.int x) :: lt) (st) σ Q ↔ aX d iX6_foretold 39 (l0 :: l1 :: some (.int x) :: lt) (.int x :: st) σ Q := X_iloadn kX6_foretold_38 rfl
theorem kX6_foretold_39 : aCode iX6_foretold 39 = some (.tableswitch 55 0 2 #[25, 36, 47], 25) := by decide +kernel
theorem sX6_foretold_39_0 {d : Nat} {σ : aS} {Q : aQ} {ls : aL} {st : List Value} : aX d iX6_foretold 39 (ls) (.int (nI 0) :: st) σ Q ↔ aX d iX6_foretold 64 (ls) (st) σ Q := X_tsw kX6_foretold_39 ⟨25, by decide +kernel, by decide⟩
theorem sX6_foretold_39_1 {d : Nat} {σ : aS} {Q : aQ} {ls : aL} {st : List Value} : aX d iX6_foretold 39 (ls) (.int (nI 1) :: st) σ Q ↔ aX d iX6_foretold 75 (ls) (st) σ Q := X_tsw kX6_foretold_39 ⟨36, by decide +kernel, by decide⟩
theorem sX6_foretold_39_2 {d : Nat} {σ : aS} {Q : aQ} {ls : aL} {st : List Value} : aX d iX6_foretold 39 (ls) (.int (nI 2) :: st) σ Q ↔ aX d iX6_foretold 86 (ls) (st) σ Q := X_tsw kX6_foretold_39 ⟨47, by decide +kernel, by decide⟩
theorem sX6_foretold_39_d {d : Nat} {σ : aS} {Q : aQ} {x : Int32} {ls : aL} {st : List Value} (h0 : ¬ x = nI 0) (h1 : ¬ x = nI 1) (h2 : ¬ x = nI 2) : aX d iX6_foretold 39 (ls) (.int x :: st) σ Q ↔ aX d iX6_foretold 94 (ls) (st) σ Q := by
  have g0 : ¬ x.toInt = 0 := fun z => h0 (Int32.toInt_inj.mp (z.trans (by decide +kernel)))
  have g1 : ¬ x.toInt = 1 := fun z => h1 (Int32.toInt_inj.mp (z.trans (by decide +kernel)))
  have g2 : ¬ x.toInt = 2 := fun z => h2 (Int32.toInt_inj.mp (z.trans (by decide +kernel)))
  exact X_tsw kX6_foretold_39 ⟨55, if_pos (by omega), by decide⟩
theorem kX6_foretold_64 : aCode iX6_foretold 64 = some (.aload_n 0, 1) := by decide +kernel
theorem sX6_foretold_64 {d : Nat} {σ : aS} {Q : aQ} {x : Nat} {lt : aL} {st : List Value} : aX d iX6_foretold 64 (some (.ref x) :: lt) (st) σ Q ↔ aX d iX6_foretold 65 (some (.ref x) :: lt) (.ref x :: st) σ Q := X_aloadn kX6_foretold_64 rfl rfl
theorem kX6_foretold_65 : aCode iX6_foretold 65 = some (.getfield 19, 3) := by decide +kernel
theorem sX6_foretold_65 {d : Nat} {σ : aS} {Q : aQ} {a : Nat} {ls : aL} {st : List Value} : aX d iX6_foretold 65 (ls) (.ref a :: st) σ Q ↔ ∃ v, aFld σ a 6 1 = some v ∧ aX d iX6_foretold 68 (ls) (v :: st) σ Q := X_getf (w := 177) kX6_foretold_65 (by decide +kernel)
theorem kX6_foretold_68 : aCode iX6_foretold 68 = some (.getfield 175, 3) := by decide +kernel
theorem sX6_foretold_68 {d : Nat} {σ : aS} {Q : aQ} {a : Nat} {ls : aL} {st : List Value} : aX d iX6_foretold 68 (ls) (.ref a :: st) σ Q ↔ ∃ v, aFld σ a 1 0 = some v ∧ aX d iX6_foretold 71 (ls) (v :: st) σ Q := X_getf (w := 108) kX6_foretold_68 (by decide +kernel)
theorem kX6_foretold_71 : aCode iX6_foretold 71 = some (.invokevirtual 94, 3) := by decide +kernel
theorem sX6_foretold_71 {d : Nat} {σ : aS} {Q : aQ} {b : Nat} {ls : aL} : aX (d + 1) iX6_foretold 71 (ls) (.ref b :: []) σ Q ↔ aIs σ b 0 ∧ aX d iX0_lastWord 0 [some (.ref b)] [] σ (fun r τ => aX (d + 1) iX6_foretold 74 (ls) (aret r ([])) τ Q) := X_invv (N := 0) (As := []) (w := 436) kX6_foretold_71 (by decide +kernel) (by decide +kernel) rfl rfl (by simp only [List.length_cons, List.length_nil]; omega) (by simp only [List.length_cons, List.length_nil]; omega) (by decide +kernel) rfl (Nat.le_of_ble_eq_true rfl)
theorem kX6_foretold_74 : aCode iX6_foretold 74 = some (.ireturn, 1) := by decide +kernel
theorem sX6_foretold_74 {d : Nat} {σ : aS} {Q : aQ} {v : Int32} {ls : aL} : aX d iX6_foretold 74 (ls) ([.int v]) σ Q ↔ Q (some (.int v)) σ := X_iret kX6_foretold_74 (by decide +kernel)
theorem kX6_foretold_75 : aCode iX6_foretold 75 = some (.aload_n 0, 1) := by decide +kernel
theorem sX6_foretold_75 {d : Nat} {σ : aS} {Q : aQ} {x : Nat} {lt : aL} {st : List Value} : aX d iX6_foretold 75 (some (.ref x) :: lt) (st) σ Q ↔ aX d iX6_foretold 76 (some (.ref x) :: lt) (.ref x :: st) σ Q := X_aloadn kX6_foretold_75 rfl rfl
theorem kX6_foretold_76 : aCode iX6_foretold 76 = some (.getfield 19, 3) := by decide +kernel
theorem sX6_foretold_76 {d : Nat} {σ : aS} {Q : aQ} {a : Nat} {ls : aL} {st : List Value} : aX d iX6_foretold 76 (ls) (.ref a :: st) σ Q ↔ ∃ v, aFld σ a 6 1 = some v ∧ aX d iX6_foretold 79 (ls) (v :: st) σ Q := X_getf (w := 177) kX6_foretold_76 (by decide +kernel)
theorem kX6_foretold_79 : aCode iX6_foretold 79 = some (.getfield 175, 3) := by decide +kernel
theorem sX6_foretold_79 {d : Nat} {σ : aS} {Q : aQ} {a : Nat} {ls : aL} {st : List Value} : aX d iX6_foretold 79 (ls) (.ref a :: st) σ Q ↔ ∃ v, aFld σ a 1 0 = some v ∧ aX d iX6_foretold 82 (ls) (v :: st) σ Q := X_getf (w := 108) kX6_foretold_79 (by decide +kernel)
theorem kX6_foretold_82 : aCode iX6_foretold 82 = some (.getfield 85, 3) := by decide +kernel
theorem sX6_foretold_82 {d : Nat} {σ : aS} {Q : aQ} {a : Nat} {ls : aL} {st : List Value} : aX d iX6_foretold 82 (ls) (.ref a :: st) σ Q ↔ ∃ v, aFld σ a 0 3 = some v ∧ aX d iX6_foretold 85 (ls) (v :: st) σ Q := X_getf (w := 44) kX6_foretold_82 (by decide +kernel)
theorem kX6_foretold_85 : aCode iX6_foretold 85 = some (.ireturn, 1) := by decide +kernel
theorem sX6_foretold_85 {d : Nat} {σ : aS} {Q : aQ} {v : Int32} {ls : aL} : aX d iX6_foretold 85 (ls) ([.int v]) σ Q ↔ Q (some (.int v)) σ := X_iret kX6_foretold_85 (by decide +kernel)
theorem kX6_foretold_86 : aCode iX6_foretold 86 = some (.aload_n 0, 1) := by decide +kernel
theorem sX6_foretold_86 {d : Nat} {σ : aS} {Q : aQ} {x : Nat} {lt : aL} {st : List Value} : aX d iX6_foretold 86 (some (.ref x) :: lt) (st) σ Q ↔ aX d iX6_foretold 87 (some (.ref x) :: lt) (.ref x :: st) σ Q := X_aloadn kX6_foretold_86 rfl rfl
theorem kX6_foretold_87 : aCode iX6_foretold 87 = some (.getfield 19, 3) := by decide +kernel
theorem sX6_foretold_87 {d : Nat} {σ : aS} {Q : aQ} {a : Nat} {ls : aL} {st : List Value} : aX d iX6_foretold 87 (ls) (.ref a :: st) σ Q ↔ ∃ v, aFld σ a 6 1 = some v ∧ aX d iX6_foretold 90 (ls) (v :: st) σ Q := X_getf (w := 177) kX6_foretold_87 (by decide +kernel)
theorem kX6_foretold_90 : aCode iX6_foretold 90 = some (.getfield 179, 3) := by decide +kernel
theorem sX6_foretold_90 {d : Nat} {σ : aS} {Q : aQ} {a : Nat} {ls : aL} {st : List Value} : aX d iX6_foretold 90 (ls) (.ref a :: st) σ Q ↔ ∃ v, aFld σ a 1 2 = some v ∧ aX d iX6_foretold 93 (ls) (v :: st) σ Q := X_getf (w := 112) kX6_foretold_90 (by decide +kernel)
theorem kX6_foretold_93 : aCode iX6_foretold 93 = some (.ireturn, 1) := by decide +kernel
theorem sX6_foretold_93 {d : Nat} {σ : aS} {Q : aQ} {v : Int32} {ls : aL} : aX d iX6_foretold 93 (ls) ([.int v]) σ Q ↔ Q (some (.int v)) σ := X_iret kX6_foretold_93 (by decide +kernel)
theorem kX6_foretold_94 : aCode iX6_foretold 94 = some (.aload_n 0, 1) := by decide +kernel
theorem sX6_foretold_94 {d : Nat} {σ : aS} {Q : aQ} {x : Nat} {lt : aL} {st : List Value} : aX d iX6_foretold 94 (some (.ref x) :: lt) (st) σ Q ↔ aX d iX6_foretold 95 (some (.ref x) :: lt) (.ref x :: st) σ Q := X_aloadn kX6_foretold_94 rfl rfl
theorem kX6_foretold_95 : aCode iX6_foretold 95 = some (.getfield 19, 3) := by decide +kernel
theorem sX6_foretold_95 {d : Nat} {σ : aS} {Q : aQ} {a : Nat} {ls : aL} {st : List Value} : aX d iX6_foretold 95 (ls) (.ref a :: st) σ Q ↔ ∃ v, aFld σ a 6 1 = some v ∧ aX d iX6_foretold 98 (ls) (v :: st) σ Q := X_getf (w := 177) kX6_foretold_95 (by decide +kernel)
theorem kX6_foretold_98 : aCode iX6_foretold 98 = some (.getfield 175, 3) := by decide +kernel
theorem sX6_foretold_98 {d : Nat} {σ : aS} {Q : aQ} {a : Nat} {ls : aL} {st : List Value} : aX d iX6_foretold 98 (ls) (.ref a :: st) σ Q ↔ ∃ v, aFld σ a 1 0 = some v ∧ aX d iX6_foretold 101 (ls) (v :: st) σ Q := X_getf (w := 108) kX6_foretold_98 (by decide +kernel)
theorem kX6_foretold_101 : aCode iX6_foretold 101 = some (.getfield 91, 3) := by decide +kernel
theorem sX6_foretold_101 {d : Nat} {σ : aS} {Q : aQ} {a : Nat} {ls : aL} {st : List Value} : aX d iX6_foretold 101 (ls) (.ref a :: st) σ Q ↔ ∃ v, aFld σ a 0 4 = some v ∧ aX d iX6_foretold 104 (ls) (v :: st) σ Q := X_getf (w := 47) kX6_foretold_101 (by decide +kernel)
theorem kX6_foretold_104 : aCode iX6_foretold 104 = some (.ireturn, 1) := by decide +kernel
theorem sX6_foretold_104 {d : Nat} {σ : aS} {Q : aQ} {v : Int32} {ls : aL} : aX d iX6_foretold 104 (ls) ([.int v]) σ Q ↔ Q (some (.int v)) σ := X_iret kX6_foretold_104 (by decide +kernel)
theorem kX6_bestWord_0 : aCode iX6_bestWord 0 = some (.iload_n 1, 1) := by decide +kernel
theorem sX6_bestWord_0 {d : Nat} {σ : aS} {Q : aQ} {l0 : Option Value} {x : Int32} {lt : aL} {st : List Value} : aX d iX6_bestWord 0 (l0 :: some (.int x) :: lt) (st) σ Q ↔ aX d iX6_bestWord 1 (l0 :: some (.int x) :: lt) (.int x :: st) σ Q := X_iloadn kX6_bestWord_0 rfl
theorem kX6_bestWord_1 : aCode iX6_bestWord 1 = some (.bipush 8, 2) := by decide +kernel
theorem sX6_bestWord_1 {d : Nat} {σ : aS} {Q : aQ} {ls : aL} {st : List Value} : aX d iX6_bestWord 1 (ls) (st) σ Q ↔ aX d iX6_bestWord 3 (ls) (.int (nI 8) :: st) σ Q := X_bipush kX6_bestWord_1 (by decide +kernel)
theorem kX6_bestWord_3 : aCode iX6_bestWord 3 = some (.invokestatic 112, 3) := by decide +kernel
theorem sX6_bestWord_3 {d : Nat} {σ : aS} {Q : aQ} {p0 : Int32} {p1 : Int32} {ls : aL} : aX (d + 1) iX6_bestWord 3 (ls) (.int p1 :: .int p0 :: []) σ Q ↔ aX d iX6_isBelow 0 [some (.int p0), some (.int p1)] [] σ (fun r τ => aX (d + 1) iX6_bestWord 6 (ls) (aret r ([])) τ Q) := X_invs (N := 2) (As := [.int p1, .int p0]) (k := 1) (w := 424) kX6_bestWord_3 (by decide +kernel) (by decide) (by decide +kernel) rfl rfl (by simp only [List.length_cons, List.length_nil]; omega) (by simp only [List.length_cons, List.length_nil]; omega) rfl (Nat.le_of_ble_eq_true rfl)
theorem kX6_bestWord_6 : aCode iX6_bestWord 6 = some (.ifCond .ne 5, 3) := by decide +kernel
theorem sX6_bestWord_6 {d : Nat} {σ : aS} {Q : aQ} {x : Int32} {ls : aL} {st : List Value} : aX d iX6_bestWord 6 (ls) (.int x :: st) σ Q ↔ (if ¬ x = nI 0 then aX d iX6_bestWord 11 (ls) (st) σ Q else aX d iX6_bestWord 9 (ls) (st) σ Q) := by rw [X_if kX6_bestWord_6 (t := 11) (by decide)]; simp only [aCmp_ne]
theorem kX6_bestWord_9 : aCode iX6_bestWord 9 = some (.iconst (-1), 1) := by decide +kernel
theorem sX6_bestWord_9 {d : Nat} {σ : aS} {Q : aQ} {ls : aL} {st : List Value} : aX d iX6_bestWord 9 (ls) (st) σ Q ↔ aX d iX6_bestWord 10 (ls) (.int ((-1)) :: st) σ Q := X_iconst kX6_bestWord_9 (by decide +kernel)
theorem kX6_bestWord_10 : aCode iX6_bestWord 10 = some (.ireturn, 1) := by decide +kernel
theorem sX6_bestWord_10 {d : Nat} {σ : aS} {Q : aQ} {v : Int32} {ls : aL} : aX d iX6_bestWord 10 (ls) ([.int v]) σ Q ↔ Q (some (.int v)) σ := X_iret kX6_bestWord_10 (by decide +kernel)
theorem kX6_bestWord_11 : aCode iX6_bestWord 11 = some (.iload_n 2, 1) := by decide +kernel
theorem sX6_bestWord_11 {d : Nat} {σ : aS} {Q : aQ} {l0 l1 : Option Value} {x : Int32} {lt : aL} {st : List Value} : aX d iX6_bestWord 11 (l0 :: l1 :: some (.int x) :: lt) (st) σ Q ↔ aX d iX6_bestWord 12 (l0 :: l1 :: some (.int x) :: lt) (.int x :: st) σ Q := X_iloadn kX6_bestWord_11 rfl
theorem kX6_bestWord_12 : aCode iX6_bestWord 12 = some (.ifCond .eq 11, 3) := by decide +kernel
theorem sX6_bestWord_12 {d : Nat} {σ : aS} {Q : aQ} {x : Int32} {ls : aL} {st : List Value} : aX d iX6_bestWord 12 (ls) (.int x :: st) σ Q ↔ (if x = nI 0 then aX d iX6_bestWord 23 (ls) (st) σ Q else aX d iX6_bestWord 15 (ls) (st) σ Q) := by rw [X_if kX6_bestWord_12 (t := 23) (by decide)]; simp only [aCmp_eq]
theorem kX6_bestWord_15 : aCode iX6_bestWord 15 = some (.iload_n 2, 1) := by decide +kernel
theorem sX6_bestWord_15 {d : Nat} {σ : aS} {Q : aQ} {l0 l1 : Option Value} {x : Int32} {lt : aL} {st : List Value} : aX d iX6_bestWord 15 (l0 :: l1 :: some (.int x) :: lt) (st) σ Q ↔ aX d iX6_bestWord 16 (l0 :: l1 :: some (.int x) :: lt) (.int x :: st) σ Q := X_iloadn kX6_bestWord_15 rfl
theorem kX6_bestWord_16 : aCode iX6_bestWord 16 = some (.iconst 1, 1) := by decide +kernel
theorem sX6_bestWord_16 {d : Nat} {σ : aS} {Q : aQ} {ls : aL} {st : List Value} : aX d iX6_bestWord 16 (ls) (st) σ Q ↔ aX d iX6_bestWord 17 (ls) (.int (nI 1) :: st) σ Q := X_iconst kX6_bestWord_16 (by decide +kernel)
theorem kX6_bestWord_17 : aCode iX6_bestWord 17 = some (.if_icmp .eq 6, 3) := by decide +kernel
theorem sX6_bestWord_17 {d : Nat} {σ : aS} {Q : aQ} {x y : Int32} {ls : aL} {st : List Value} : aX d iX6_bestWord 17 (ls) (.int y :: .int x :: st) σ Q ↔ (if x = y then aX d iX6_bestWord 23 (ls) (st) σ Q else aX d iX6_bestWord 20 (ls) (st) σ Q) := by rw [X_icmp kX6_bestWord_17 (t := 23) (by decide)]; simp only [aCmp_eq]
theorem kX6_bestWord_20 : aCode iX6_bestWord 20 = some (.bipush (-2), 2) := by decide +kernel
theorem sX6_bestWord_20 {d : Nat} {σ : aS} {Q : aQ} {ls : aL} {st : List Value} : aX d iX6_bestWord 20 (ls) (st) σ Q ↔ aX d iX6_bestWord 22 (ls) (.int ((-2)) :: st) σ Q := X_bipush kX6_bestWord_20 (by decide +kernel)
theorem kX6_bestWord_22 : aCode iX6_bestWord 22 = some (.ireturn, 1) := by decide +kernel
theorem sX6_bestWord_22 {d : Nat} {σ : aS} {Q : aQ} {v : Int32} {ls : aL} : aX d iX6_bestWord 22 (ls) ([.int v]) σ Q ↔ Q (some (.int v)) σ := X_iret kX6_bestWord_22 (by decide +kernel)
theorem kX6_bestWord_23 : aCode iX6_bestWord 23 = some (.aload_n 0, 1) := by decide +kernel
theorem sX6_bestWord_23 {d : Nat} {σ : aS} {Q : aQ} {x : Nat} {lt : aL} {st : List Value} : aX d iX6_bestWord 23 (some (.ref x) :: lt) (st) σ Q ↔ aX d iX6_bestWord 24 (some (.ref x) :: lt) (.ref x :: st) σ Q := X_aloadn kX6_bestWord_23 rfl rfl
theorem kX6_bestWord_24 : aCode iX6_bestWord 24 = some (.getfield 12, 3) := by decide +kernel
theorem sX6_bestWord_24 {d : Nat} {σ : aS} {Q : aQ} {a : Nat} {ls : aL} {st : List Value} : aX d iX6_bestWord 24 (ls) (.ref a :: st) σ Q ↔ ∃ v, aFld σ a 6 0 = some v ∧ aX d iX6_bestWord 27 (ls) (v :: st) σ Q := X_getf (w := 176) kX6_bestWord_24 (by decide +kernel)
theorem kX6_bestWord_27 : aCode iX6_bestWord 27 = some (.iload_n 1, 1) := by decide +kernel
theorem sX6_bestWord_27 {d : Nat} {σ : aS} {Q : aQ} {l0 : Option Value} {x : Int32} {lt : aL} {st : List Value} : aX d iX6_bestWord 27 (l0 :: some (.int x) :: lt) (st) σ Q ↔ aX d iX6_bestWord 28 (l0 :: some (.int x) :: lt) (.int x :: st) σ Q := X_iloadn kX6_bestWord_27 rfl
theorem kX6_bestWord_28 : aCode iX6_bestWord 28 = some (.invokevirtual 126, 3) := by decide +kernel
theorem sX6_bestWord_28 {d : Nat} {σ : aS} {Q : aQ} {b : Nat} {p0 : Int32} {ls : aL} : aX (d + 1) iX6_bestWord 28 (ls) (.int p0 :: .ref b :: []) σ Q ↔ aIs σ b 5 ∧ aX d iX5_isTaken 0 [some (.ref b), some (.int p0)] [] σ (fun r τ => aX (d + 1) iX6_bestWord 31 (ls) (aret r ([])) τ Q) := X_invv (N := 1) (As := [.int p0]) (w := 451) kX6_bestWord_28 (by decide +kernel) (by decide +kernel) rfl rfl (by simp only [List.length_cons, List.length_nil]; omega) (by simp only [List.length_cons, List.length_nil]; omega) (by decide +kernel) rfl (Nat.le_of_ble_eq_true rfl)
theorem kX6_bestWord_31 : aCode iX6_bestWord 31 = some (.ifCond .ne 6, 3) := by decide +kernel
theorem sX6_bestWord_31 {d : Nat} {σ : aS} {Q : aQ} {x : Int32} {ls : aL} {st : List Value} : aX d iX6_bestWord 31 (ls) (.int x :: st) σ Q ↔ (if ¬ x = nI 0 then aX d iX6_bestWord 37 (ls) (st) σ Q else aX d iX6_bestWord 34 (ls) (st) σ Q) := by rw [X_if kX6_bestWord_31 (t := 37) (by decide)]; simp only [aCmp_ne]
theorem kX6_bestWord_34 : aCode iX6_bestWord 34 = some (.bipush (-5), 2) := by decide +kernel
theorem sX6_bestWord_34 {d : Nat} {σ : aS} {Q : aQ} {ls : aL} {st : List Value} : aX d iX6_bestWord 34 (ls) (st) σ Q ↔ aX d iX6_bestWord 36 (ls) (.int ((-5)) :: st) σ Q := X_bipush kX6_bestWord_34 (by decide +kernel)
theorem kX6_bestWord_36 : aCode iX6_bestWord 36 = some (.ireturn, 1) := by decide +kernel
theorem sX6_bestWord_36 {d : Nat} {σ : aS} {Q : aQ} {v : Int32} {ls : aL} : aX d iX6_bestWord 36 (ls) ([.int v]) σ Q ↔ Q (some (.int v)) σ := X_iret kX6_bestWord_36 (by decide +kernel)
theorem kX6_bestWord_37 : aCode iX6_bestWord 37 = some (.iconst 0, 1) := by decide +kernel
theorem sX6_bestWord_37 {d : Nat} {σ : aS} {Q : aQ} {ls : aL} {st : List Value} : aX d iX6_bestWord 37 (ls) (st) σ Q ↔ aX d iX6_bestWord 38 (ls) (.int (nI 0) :: st) σ Q := X_iconst kX6_bestWord_37 (by decide +kernel)
theorem kX6_bestWord_38 : aCode iX6_bestWord 38 = some (.istore_n 3, 1) := by decide +kernel
theorem sX6_bestWord_38 {d : Nat} {σ : aS} {Q : aQ} {l0 l1 l2 lo : Option Value} {x : Int32} {lt : aL} {st : List Value} : aX d iX6_bestWord 38 (l0 :: l1 :: l2 :: lo :: lt) (.int x :: st) σ Q ↔ aX d iX6_bestWord 39 (l0 :: l1 :: aclr l2 :: some (.int x) :: lt) (st) σ Q := X_istoren kX6_bestWord_38 (by simp only [List.length_cons]; omega)
theorem kX6_bestWord_39 : aCode iX6_bestWord 39 = some (.bipush 13, 2) := by decide +kernel
theorem sX6_bestWord_39 {d : Nat} {σ : aS} {Q : aQ} {ls : aL} {st : List Value} : aX d iX6_bestWord 39 (ls) (st) σ Q ↔ aX d iX6_bestWord 41 (ls) (.int (nI 13) :: st) σ Q := X_bipush kX6_bestWord_39 (by decide +kernel)
theorem kX6_bestWord_41 : aCode iX6_bestWord 41 = some (.istore 4, 2) := by decide +kernel
theorem sX6_bestWord_41 {d : Nat} {σ : aS} {Q : aQ} {l0 l1 l2 l3 lo : Option Value} {x : Int32} {lt : aL} {st : List Value} : aX d iX6_bestWord 41 (l0 :: l1 :: l2 :: l3 :: lo :: lt) (.int x :: st) σ Q ↔ aX d iX6_bestWord 43 (l0 :: l1 :: l2 :: aclr l3 :: some (.int x) :: lt) (st) σ Q := X_istore kX6_bestWord_41 (by simp only [List.length_cons]; omega)
theorem kX6_bestWord_43 : aCode iX6_bestWord 43 = some (.iconst 0, 1) := by decide +kernel
theorem sX6_bestWord_43 {d : Nat} {σ : aS} {Q : aQ} {ls : aL} {st : List Value} : aX d iX6_bestWord 43 (ls) (st) σ Q ↔ aX d iX6_bestWord 44 (ls) (.int (nI 0) :: st) σ Q := X_iconst kX6_bestWord_43 (by decide +kernel)
theorem kX6_bestWord_44 : aCode iX6_bestWord 44 = some (.istore 5, 2) := by decide +kernel
theorem sX6_bestWord_44 {d : Nat} {σ : aS} {Q : aQ} {l0 l1 l2 l3 l4 lo : Option Value} {x : Int32} {lt : aL} {st : List Value} : aX d iX6_bestWord 44 (l0 :: l1 :: l2 :: l3 :: l4 :: lo :: lt) (.int x :: st) σ Q ↔ aX d iX6_bestWord 46 (l0 :: l1 :: l2 :: l3 :: aclr l4 :: some (.int x) :: lt) (st) σ Q := X_istore kX6_bestWord_44 (by simp only [List.length_cons]; omega)
theorem kX6_bestWord_46 : aCode iX6_bestWord 46 = some (.iload 5, 2) := by decide +kernel
theorem sX6_bestWord_46 {d : Nat} {σ : aS} {Q : aQ} {l0 l1 l2 l3 l4 : Option Value} {x : Int32} {lt : aL} {st : List Value} : aX d iX6_bestWord 46 (l0 :: l1 :: l2 :: l3 :: l4 :: some (.int x) :: lt) (st) σ Q ↔ aX d iX6_bestWord 48 (l0 :: l1 :: l2 :: l3 :: l4 :: some (.int x) :: lt) (.int x :: st) σ Q := X_iload kX6_bestWord_46 rfl
theorem kX6_bestWord_48 : aCode iX6_bestWord 48 = some (.bipush 16, 2) := by decide +kernel
theorem sX6_bestWord_48 {d : Nat} {σ : aS} {Q : aQ} {ls : aL} {st : List Value} : aX d iX6_bestWord 48 (ls) (st) σ Q ↔ aX d iX6_bestWord 50 (ls) (.int (nI 16) :: st) σ Q := X_bipush kX6_bestWord_48 (by decide +kernel)
theorem kX6_bestWord_50 : aCode iX6_bestWord 50 = some (.if_icmp .ge 39, 3) := by decide +kernel
theorem sX6_bestWord_50 {d : Nat} {σ : aS} {Q : aQ} {x y : Int32} {ls : aL} {st : List Value} : aX d iX6_bestWord 50 (ls) (.int y :: .int x :: st) σ Q ↔ (if y ≤ x then aX d iX6_bestWord 89 (ls) (st) σ Q else aX d iX6_bestWord 53 (ls) (st) σ Q) := by rw [X_icmp kX6_bestWord_50 (t := 89) (by decide)]; simp only [aCmp_ge]
theorem kX6_bestWord_53 : aCode iX6_bestWord 53 = some (.aload_n 0, 1) := by decide +kernel
theorem sX6_bestWord_53 {d : Nat} {σ : aS} {Q : aQ} {x : Nat} {lt : aL} {st : List Value} : aX d iX6_bestWord 53 (some (.ref x) :: lt) (st) σ Q ↔ aX d iX6_bestWord 54 (some (.ref x) :: lt) (.ref x :: st) σ Q := X_aloadn kX6_bestWord_53 rfl rfl
theorem kX6_bestWord_54 : aCode iX6_bestWord 54 = some (.getfield 19, 3) := by decide +kernel
theorem sX6_bestWord_54 {d : Nat} {σ : aS} {Q : aQ} {a : Nat} {ls : aL} {st : List Value} : aX d iX6_bestWord 54 (ls) (.ref a :: st) σ Q ↔ ∃ v, aFld σ a 6 1 = some v ∧ aX d iX6_bestWord 57 (ls) (v :: st) σ Q := X_getf (w := 177) kX6_bestWord_54 (by decide +kernel)
theorem kX6_bestWord_57 : aCode iX6_bestWord 57 = some (.aload_n 0, 1) := by decide +kernel
theorem sX6_bestWord_57 {d : Nat} {σ : aS} {Q : aQ} {x : Nat} {lt : aL} {st : List Value} : aX d iX6_bestWord 57 (some (.ref x) :: lt) (st) σ Q ↔ aX d iX6_bestWord 58 (some (.ref x) :: lt) (.ref x :: st) σ Q := X_aloadn kX6_bestWord_57 rfl rfl
theorem kX6_bestWord_58 : aCode iX6_bestWord 58 = some (.getfield 12, 3) := by decide +kernel
theorem sX6_bestWord_58 {d : Nat} {σ : aS} {Q : aQ} {a : Nat} {ls : aL} {st : List Value} : aX d iX6_bestWord 58 (ls) (.ref a :: st) σ Q ↔ ∃ v, aFld σ a 6 0 = some v ∧ aX d iX6_bestWord 61 (ls) (v :: st) σ Q := X_getf (w := 176) kX6_bestWord_58 (by decide +kernel)
theorem kX6_bestWord_61 : aCode iX6_bestWord 61 = some (.iload_n 1, 1) := by decide +kernel
theorem sX6_bestWord_61 {d : Nat} {σ : aS} {Q : aQ} {l0 : Option Value} {x : Int32} {lt : aL} {st : List Value} : aX d iX6_bestWord 61 (l0 :: some (.int x) :: lt) (st) σ Q ↔ aX d iX6_bestWord 62 (l0 :: some (.int x) :: lt) (.int x :: st) σ Q := X_iloadn kX6_bestWord_61 rfl
theorem kX6_bestWord_62 : aCode iX6_bestWord 62 = some (.iload 5, 2) := by decide +kernel
theorem sX6_bestWord_62 {d : Nat} {σ : aS} {Q : aQ} {l0 l1 l2 l3 l4 : Option Value} {x : Int32} {lt : aL} {st : List Value} : aX d iX6_bestWord 62 (l0 :: l1 :: l2 :: l3 :: l4 :: some (.int x) :: lt) (st) σ Q ↔ aX d iX6_bestWord 64 (l0 :: l1 :: l2 :: l3 :: l4 :: some (.int x) :: lt) (.int x :: st) σ Q := X_iload kX6_bestWord_62 rfl
theorem kX6_bestWord_64 : aCode iX6_bestWord 64 = some (.invokevirtual 180, 3) := by decide +kernel
theorem sX6_bestWord_64 {d : Nat} {σ : aS} {Q : aQ} {b : Nat} {p0 : Nat} {p1 : Int32} {p2 : Int32} {ls : aL} : aX (d + 1) iX6_bestWord 64 (ls) (.int p2 :: .int p1 :: .ref p0 :: .ref b :: []) σ Q ↔ aIs σ b 1 ∧ aX d iX1_differenceAtHome 0 [some (.ref b), some (.ref p0), some (.int p1), some (.int p2)] [] σ (fun r τ => aX (d + 1) iX6_bestWord 67 (ls) (aret r ([])) τ Q) := X_invv (N := 3) (As := [.int p2, .int p1, .ref p0]) (w := 508) kX6_bestWord_64 (by decide +kernel) (by decide +kernel) rfl rfl (by simp only [List.length_cons, List.length_nil]; omega) (by simp only [List.length_cons, List.length_nil]; omega) (by decide +kernel) rfl (Nat.le_of_ble_eq_true rfl)
theorem kX6_bestWord_67 : aCode iX6_bestWord 67 = some (.istore 6, 2) := by decide +kernel
theorem sX6_bestWord_67 {d : Nat} {σ : aS} {Q : aQ} {l0 l1 l2 l3 l4 l5 lo : Option Value} {x : Int32} {lt : aL} {st : List Value} : aX d iX6_bestWord 67 (l0 :: l1 :: l2 :: l3 :: l4 :: l5 :: lo :: lt) (.int x :: st) σ Q ↔ aX d iX6_bestWord 69 (l0 :: l1 :: l2 :: l3 :: l4 :: aclr l5 :: some (.int x) :: lt) (st) σ Q := X_istore kX6_bestWord_67 (by simp only [List.length_cons]; omega)
theorem kX6_bestWord_69 : aCode iX6_bestWord 69 = some (.iload 6, 2) := by decide +kernel
theorem sX6_bestWord_69 {d : Nat} {σ : aS} {Q : aQ} {l0 l1 l2 l3 l4 l5 : Option Value} {x : Int32} {lt : aL} {st : List Value} : aX d iX6_bestWord 69 (l0 :: l1 :: l2 :: l3 :: l4 :: l5 :: some (.int x) :: lt) (st) σ Q ↔ aX d iX6_bestWord 71 (l0 :: l1 :: l2 :: l3 :: l4 :: l5 :: some (.int x) :: lt) (.int x :: st) σ Q := X_iload kX6_bestWord_69 rfl
theorem kX6_bestWord_71 : aCode iX6_bestWord 71 = some (.iload 4, 2) := by decide +kernel
theorem sX6_bestWord_71 {d : Nat} {σ : aS} {Q : aQ} {l0 l1 l2 l3 : Option Value} {x : Int32} {lt : aL} {st : List Value} : aX d iX6_bestWord 71 (l0 :: l1 :: l2 :: l3 :: some (.int x) :: lt) (st) σ Q ↔ aX d iX6_bestWord 73 (l0 :: l1 :: l2 :: l3 :: some (.int x) :: lt) (.int x :: st) σ Q := X_iload kX6_bestWord_71 rfl
theorem kX6_bestWord_73 : aCode iX6_bestWord 73 = some (.if_icmp .ge 10, 3) := by decide +kernel
theorem sX6_bestWord_73 {d : Nat} {σ : aS} {Q : aQ} {x y : Int32} {ls : aL} {st : List Value} : aX d iX6_bestWord 73 (ls) (.int y :: .int x :: st) σ Q ↔ (if y ≤ x then aX d iX6_bestWord 83 (ls) (st) σ Q else aX d iX6_bestWord 76 (ls) (st) σ Q) := by rw [X_icmp kX6_bestWord_73 (t := 83) (by decide)]; simp only [aCmp_ge]
theorem kX6_bestWord_76 : aCode iX6_bestWord 76 = some (.iload 5, 2) := by decide +kernel
theorem sX6_bestWord_76 {d : Nat} {σ : aS} {Q : aQ} {l0 l1 l2 l3 l4 : Option Value} {x : Int32} {lt : aL} {st : List Value} : aX d iX6_bestWord 76 (l0 :: l1 :: l2 :: l3 :: l4 :: some (.int x) :: lt) (st) σ Q ↔ aX d iX6_bestWord 78 (l0 :: l1 :: l2 :: l3 :: l4 :: some (.int x) :: lt) (.int x :: st) σ Q := X_iload kX6_bestWord_76 rfl
theorem kX6_bestWord_78 : aCode iX6_bestWord 78 = some (.istore_n 3, 1) := by decide +kernel
theorem sX6_bestWord_78 {d : Nat} {σ : aS} {Q : aQ} {l0 l1 l2 lo : Option Value} {x : Int32} {lt : aL} {st : List Value} : aX d iX6_bestWord 78 (l0 :: l1 :: l2 :: lo :: lt) (.int x :: st) σ Q ↔ aX d iX6_bestWord 79 (l0 :: l1 :: aclr l2 :: some (.int x) :: lt) (st) σ Q := X_istoren kX6_bestWord_78 (by simp only [List.length_cons]; omega)
theorem kX6_bestWord_79 : aCode iX6_bestWord 79 = some (.iload 6, 2) := by decide +kernel
theorem sX6_bestWord_79 {d : Nat} {σ : aS} {Q : aQ} {l0 l1 l2 l3 l4 l5 : Option Value} {x : Int32} {lt : aL} {st : List Value} : aX d iX6_bestWord 79 (l0 :: l1 :: l2 :: l3 :: l4 :: l5 :: some (.int x) :: lt) (st) σ Q ↔ aX d iX6_bestWord 81 (l0 :: l1 :: l2 :: l3 :: l4 :: l5 :: some (.int x) :: lt) (.int x :: st) σ Q := X_iload kX6_bestWord_79 rfl
theorem kX6_bestWord_81 : aCode iX6_bestWord 81 = some (.istore 4, 2) := by decide +kernel
theorem sX6_bestWord_81 {d : Nat} {σ : aS} {Q : aQ} {l0 l1 l2 l3 lo : Option Value} {x : Int32} {lt : aL} {st : List Value} : aX d iX6_bestWord 81 (l0 :: l1 :: l2 :: l3 :: lo :: lt) (.int x :: st) σ Q ↔ aX d iX6_bestWord 83 (l0 :: l1 :: l2 :: aclr l3 :: some (.int x) :: lt) (st) σ Q := X_istore kX6_bestWord_81 (by simp only [List.length_cons]; omega)
theorem kX6_bestWord_83 : aCode iX6_bestWord 83 = some (.iinc 5 1, 3) := by decide +kernel
theorem sX6_bestWord_83 {d : Nat} {σ : aS} {Q : aQ} {l0 l1 l2 l3 l4 : Option Value} {x : Int32} {lt : aL} {st : List Value} : aX d iX6_bestWord 83 (l0 :: l1 :: l2 :: l3 :: l4 :: some (.int x) :: lt) (st) σ Q ↔ aX d iX6_bestWord 86 (l0 :: l1 :: l2 :: l3 :: aclr l4 :: some (.int (x + nI 1)) :: lt) (st) σ Q := X_iinc kX6_bestWord_83 rfl (by decide +kernel)
theorem kX6_bestWord_86 : aCode iX6_bestWord 86 = some (.goto (-40), 3) := by decide +kernel
theorem sX6_bestWord_86 {d : Nat} {σ : aS} {Q : aQ} {ls : aL} {st : List Value} : aX d iX6_bestWord 86 (ls) (st) σ Q ↔ aX d iX6_bestWord 46 (ls) (st) σ Q := X_goto kX6_bestWord_86 (by decide)
theorem kX6_bestWord_89 : aCode iX6_bestWord 89 = some (.iload_n 2, 1) := by decide +kernel
theorem sX6_bestWord_89 {d : Nat} {σ : aS} {Q : aQ} {l0 l1 : Option Value} {x : Int32} {lt : aL} {st : List Value} : aX d iX6_bestWord 89 (l0 :: l1 :: some (.int x) :: lt) (st) σ Q ↔ aX d iX6_bestWord 90 (l0 :: l1 :: some (.int x) :: lt) (.int x :: st) σ Q := X_iloadn kX6_bestWord_89 rfl
theorem kX6_bestWord_90 : aCode iX6_bestWord 90 = some (.ifCond .ne 7, 3) := by decide +kernel
theorem sX6_bestWord_90 {d : Nat} {σ : aS} {Q : aQ} {x : Int32} {ls : aL} {st : List Value} : aX d iX6_bestWord 90 (ls) (.int x :: st) σ Q ↔ (if ¬ x = nI 0 then aX d iX6_bestWord 97 (ls) (st) σ Q else aX d iX6_bestWord 93 (ls) (st) σ Q) := by rw [X_if kX6_bestWord_90 (t := 97) (by decide)]; simp only [aCmp_ne]
theorem kX6_bestWord_93 : aCode iX6_bestWord 93 = some (.iload_n 3, 1) := by decide +kernel
theorem sX6_bestWord_93 {d : Nat} {σ : aS} {Q : aQ} {l0 l1 l2 : Option Value} {x : Int32} {lt : aL} {st : List Value} : aX d iX6_bestWord 93 (l0 :: l1 :: l2 :: some (.int x) :: lt) (st) σ Q ↔ aX d iX6_bestWord 94 (l0 :: l1 :: l2 :: some (.int x) :: lt) (.int x :: st) σ Q := X_iloadn kX6_bestWord_93 rfl
theorem kX6_bestWord_94 : aCode iX6_bestWord 94 = some (.goto 5, 3) := by decide +kernel
theorem sX6_bestWord_94 {d : Nat} {σ : aS} {Q : aQ} {ls : aL} {st : List Value} : aX d iX6_bestWord 94 (ls) (st) σ Q ↔ aX d iX6_bestWord 99 (ls) (st) σ Q := X_goto kX6_bestWord_94 (by decide)
theorem kX6_bestWord_97 : aCode iX6_bestWord 97 = some (.iload 4, 2) := by decide +kernel
theorem sX6_bestWord_97 {d : Nat} {σ : aS} {Q : aQ} {l0 l1 l2 l3 : Option Value} {x : Int32} {lt : aL} {st : List Value} : aX d iX6_bestWord 97 (l0 :: l1 :: l2 :: l3 :: some (.int x) :: lt) (st) σ Q ↔ aX d iX6_bestWord 99 (l0 :: l1 :: l2 :: l3 :: some (.int x) :: lt) (.int x :: st) σ Q := X_iload kX6_bestWord_97 rfl
theorem kX6_bestWord_99 : aCode iX6_bestWord 99 = some (.ireturn, 1) := by decide +kernel
theorem sX6_bestWord_99 {d : Nat} {σ : aS} {Q : aQ} {v : Int32} {ls : aL} : aX d iX6_bestWord 99 (ls) ([.int v]) σ Q ↔ Q (some (.int v)) σ := X_iret kX6_bestWord_99 (by decide +kernel)
theorem kX6_pointsThen_0 : aCode iX6_pointsThen 0 = some (.iload_n 1, 1) := by decide +kernel
theorem sX6_pointsThen_0 {d : Nat} {σ : aS} {Q : aQ} {l0 : Option Value} {x : Int32} {lt : aL} {st : List Value} : aX d iX6_pointsThen 0 (l0 :: some (.int x) :: lt) (st) σ Q ↔ aX d iX6_pointsThen 1 (l0 :: some (.int x) :: lt) (.int x :: st) σ Q := X_iloadn kX6_pointsThen_0 rfl
theorem kX6_pointsThen_1 : aCode iX6_pointsThen 1 = some (.bipush 8, 2) := by decide +kernel
theorem sX6_pointsThen_1 {d : Nat} {σ : aS} {Q : aQ} {ls : aL} {st : List Value} : aX d iX6_pointsThen 1 (ls) (st) σ Q ↔ aX d iX6_pointsThen 3 (ls) (.int (nI 8) :: st) σ Q := X_bipush kX6_pointsThen_1 (by decide +kernel)
theorem kX6_pointsThen_3 : aCode iX6_pointsThen 3 = some (.invokestatic 112, 3) := by decide +kernel
theorem sX6_pointsThen_3 {d : Nat} {σ : aS} {Q : aQ} {p0 : Int32} {p1 : Int32} {ls : aL} : aX (d + 1) iX6_pointsThen 3 (ls) (.int p1 :: .int p0 :: []) σ Q ↔ aX d iX6_isBelow 0 [some (.int p0), some (.int p1)] [] σ (fun r τ => aX (d + 1) iX6_pointsThen 6 (ls) (aret r ([])) τ Q) := X_invs (N := 2) (As := [.int p1, .int p0]) (k := 1) (w := 424) kX6_pointsThen_3 (by decide +kernel) (by decide) (by decide +kernel) rfl rfl (by simp only [List.length_cons, List.length_nil]; omega) (by simp only [List.length_cons, List.length_nil]; omega) rfl (Nat.le_of_ble_eq_true rfl)
theorem kX6_pointsThen_6 : aCode iX6_pointsThen 6 = some (.ifCond .ne 5, 3) := by decide +kernel
theorem sX6_pointsThen_6 {d : Nat} {σ : aS} {Q : aQ} {x : Int32} {ls : aL} {st : List Value} : aX d iX6_pointsThen 6 (ls) (.int x :: st) σ Q ↔ (if ¬ x = nI 0 then aX d iX6_pointsThen 11 (ls) (st) σ Q else aX d iX6_pointsThen 9 (ls) (st) σ Q) := by rw [X_if kX6_pointsThen_6 (t := 11) (by decide)]; simp only [aCmp_ne]
theorem kX6_pointsThen_9 : aCode iX6_pointsThen 9 = some (.iconst (-1), 1) := by decide +kernel
theorem sX6_pointsThen_9 {d : Nat} {σ : aS} {Q : aQ} {ls : aL} {st : List Value} : aX d iX6_pointsThen 9 (ls) (st) σ Q ↔ aX d iX6_pointsThen 10 (ls) (.int ((-1)) :: st) σ Q := X_iconst kX6_pointsThen_9 (by decide +kernel)
theorem kX6_pointsThen_10 : aCode iX6_pointsThen 10 = some (.ireturn, 1) := by decide +kernel
theorem sX6_pointsThen_10 {d : Nat} {σ : aS} {Q : aQ} {v : Int32} {ls : aL} : aX d iX6_pointsThen 10 (ls) ([.int v]) σ Q ↔ Q (some (.int v)) σ := X_iret kX6_pointsThen_10 (by decide +kernel)
theorem kX6_pointsThen_11 : aCode iX6_pointsThen 11 = some (.aload_n 0, 1) := by decide +kernel
theorem sX6_pointsThen_11 {d : Nat} {σ : aS} {Q : aQ} {x : Nat} {lt : aL} {st : List Value} : aX d iX6_pointsThen 11 (some (.ref x) :: lt) (st) σ Q ↔ aX d iX6_pointsThen 12 (some (.ref x) :: lt) (.ref x :: st) σ Q := X_aloadn kX6_pointsThen_11 rfl rfl
theorem kX6_pointsThen_12 : aCode iX6_pointsThen 12 = some (.getfield 19, 3) := by decide +kernel
theorem sX6_pointsThen_12 {d : Nat} {σ : aS} {Q : aQ} {a : Nat} {ls : aL} {st : List Value} : aX d iX6_pointsThen 12 (ls) (.ref a :: st) σ Q ↔ ∃ v, aFld σ a 6 1 = some v ∧ aX d iX6_pointsThen 15 (ls) (v :: st) σ Q := X_getf (w := 177) kX6_pointsThen_12 (by decide +kernel)
theorem kX6_pointsThen_15 : aCode iX6_pointsThen 15 = some (.aload_n 0, 1) := by decide +kernel
theorem sX6_pointsThen_15 {d : Nat} {σ : aS} {Q : aQ} {x : Nat} {lt : aL} {st : List Value} : aX d iX6_pointsThen 15 (some (.ref x) :: lt) (st) σ Q ↔ aX d iX6_pointsThen 16 (some (.ref x) :: lt) (.ref x :: st) σ Q := X_aloadn kX6_pointsThen_15 rfl rfl
theorem kX6_pointsThen_16 : aCode iX6_pointsThen 16 = some (.getfield 12, 3) := by decide +kernel
theorem sX6_pointsThen_16 {d : Nat} {σ : aS} {Q : aQ} {a : Nat} {ls : aL} {st : List Value} : aX d iX6_pointsThen 16 (ls) (.ref a :: st) σ Q ↔ ∃ v, aFld σ a 6 0 = some v ∧ aX d iX6_pointsThen 19 (ls) (v :: st) σ Q := X_getf (w := 176) kX6_pointsThen_16 (by decide +kernel)
theorem kX6_pointsThen_19 : aCode iX6_pointsThen 19 = some (.invokevirtual 184, 3) := by decide +kernel
theorem sX6_pointsThen_19 {d : Nat} {σ : aS} {Q : aQ} {b : Nat} {p0 : Nat} {ls : aL} : aX (d + 1) iX6_pointsThen 19 (ls) (.ref p0 :: .ref b :: []) σ Q ↔ aIs σ b 1 ∧ aX d iX1_followAll 0 [some (.ref b), some (.ref p0), none, none] [] σ (fun r τ => aX (d + 1) iX6_pointsThen 22 (ls) (aret r ([])) τ Q) := X_invv (N := 1) (As := [.ref p0]) (w := 493) kX6_pointsThen_19 (by decide +kernel) (by decide +kernel) rfl rfl (by simp only [List.length_cons, List.length_nil]; omega) (by simp only [List.length_cons, List.length_nil]; omega) (by decide +kernel) rfl (Nat.le_of_ble_eq_true rfl)
theorem kX6_pointsThen_22 : aCode iX6_pointsThen 22 = some (.aload_n 0, 1) := by decide +kernel
theorem sX6_pointsThen_22 {d : Nat} {σ : aS} {Q : aQ} {x : Nat} {lt : aL} {st : List Value} : aX d iX6_pointsThen 22 (some (.ref x) :: lt) (st) σ Q ↔ aX d iX6_pointsThen 23 (some (.ref x) :: lt) (.ref x :: st) σ Q := X_aloadn kX6_pointsThen_22 rfl rfl
theorem kX6_pointsThen_23 : aCode iX6_pointsThen 23 = some (.getfield 19, 3) := by decide +kernel
theorem sX6_pointsThen_23 {d : Nat} {σ : aS} {Q : aQ} {a : Nat} {ls : aL} {st : List Value} : aX d iX6_pointsThen 23 (ls) (.ref a :: st) σ Q ↔ ∃ v, aFld σ a 6 1 = some v ∧ aX d iX6_pointsThen 26 (ls) (v :: st) σ Q := X_getf (w := 177) kX6_pointsThen_23 (by decide +kernel)
theorem kX6_pointsThen_26 : aCode iX6_pointsThen 26 = some (.getfield 187, 3) := by decide +kernel
theorem sX6_pointsThen_26 {d : Nat} {σ : aS} {Q : aQ} {a : Nat} {ls : aL} {st : List Value} : aX d iX6_pointsThen 26 (ls) (.ref a :: st) σ Q ↔ ∃ v, aFld σ a 1 1 = some v ∧ aX d iX6_pointsThen 29 (ls) (v :: st) σ Q := X_getf (w := 110) kX6_pointsThen_26 (by decide +kernel)
theorem kX6_pointsThen_29 : aCode iX6_pointsThen 29 = some (.iload_n 1, 1) := by decide +kernel
theorem sX6_pointsThen_29 {d : Nat} {σ : aS} {Q : aQ} {l0 : Option Value} {x : Int32} {lt : aL} {st : List Value} : aX d iX6_pointsThen 29 (l0 :: some (.int x) :: lt) (st) σ Q ↔ aX d iX6_pointsThen 30 (l0 :: some (.int x) :: lt) (.int x :: st) σ Q := X_iloadn kX6_pointsThen_29 rfl
theorem kX6_pointsThen_30 : aCode iX6_pointsThen 30 = some (.invokestatic 133, 3) := by decide +kernel
theorem sX6_pointsThen_30 {d : Nat} {σ : aS} {Q : aQ} {p0 : Nat} {p1 : Int32} {ls : aL} : aX (d + 1) iX6_pointsThen 30 (ls) (.int p1 :: .ref p0 :: []) σ Q ↔ aX d iX6_valueAt 0 [some (.ref p0), some (.int p1)] [] σ (fun r τ => aX (d + 1) iX6_pointsThen 33 (ls) (aret r ([])) τ Q) := X_invs (N := 2) (As := [.int p1, .ref p0]) (k := 1) (w := 452) kX6_pointsThen_30 (by decide +kernel) (by decide) (by decide +kernel) rfl rfl (by simp only [List.length_cons, List.length_nil]; omega) (by simp only [List.length_cons, List.length_nil]; omega) rfl (Nat.le_of_ble_eq_true rfl)
theorem kX6_pointsThen_33 : aCode iX6_pointsThen 33 = some (.ireturn, 1) := by decide +kernel
theorem sX6_pointsThen_33 {d : Nat} {σ : aS} {Q : aQ} {v : Int32} {ls : aL} : aX d iX6_pointsThen 33 (ls) ([.int v]) σ Q ↔ Q (some (.int v)) σ := X_iret kX6_pointsThen_33 (by decide +kernel)
theorem kX6_isBelow_0 : aCode iX6_isBelow 0 = some (.iload_n 0, 1) := by decide +kernel
theorem sX6_isBelow_0 {d : Nat} {σ : aS} {Q : aQ} {x : Int32} {lt : aL} {st : List Value} : aX d iX6_isBelow 0 (some (.int x) :: lt) (st) σ Q ↔ aX d iX6_isBelow 1 (some (.int x) :: lt) (.int x :: st) σ Q := X_iloadn kX6_isBelow_0 rfl
theorem kX6_isBelow_1 : aCode iX6_isBelow 1 = some (.ifCond .lt 12, 3) := by decide +kernel
theorem sX6_isBelow_1 {d : Nat} {σ : aS} {Q : aQ} {x : Int32} {ls : aL} {st : List Value} : aX d iX6_isBelow 1 (ls) (.int x :: st) σ Q ↔ (if x < nI 0 then aX d iX6_isBelow 13 (ls) (st) σ Q else aX d iX6_isBelow 4 (ls) (st) σ Q) := by rw [X_if kX6_isBelow_1 (t := 13) (by decide)]; simp only [aCmp_lt]
theorem kX6_isBelow_4 : aCode iX6_isBelow 4 = some (.iload_n 0, 1) := by decide +kernel
theorem sX6_isBelow_4 {d : Nat} {σ : aS} {Q : aQ} {x : Int32} {lt : aL} {st : List Value} : aX d iX6_isBelow 4 (some (.int x) :: lt) (st) σ Q ↔ aX d iX6_isBelow 5 (some (.int x) :: lt) (.int x :: st) σ Q := X_iloadn kX6_isBelow_4 rfl
theorem kX6_isBelow_5 : aCode iX6_isBelow 5 = some (.iload_n 1, 1) := by decide +kernel
theorem sX6_isBelow_5 {d : Nat} {σ : aS} {Q : aQ} {l0 : Option Value} {x : Int32} {lt : aL} {st : List Value} : aX d iX6_isBelow 5 (l0 :: some (.int x) :: lt) (st) σ Q ↔ aX d iX6_isBelow 6 (l0 :: some (.int x) :: lt) (.int x :: st) σ Q := X_iloadn kX6_isBelow_5 rfl
theorem kX6_isBelow_6 : aCode iX6_isBelow 6 = some (.if_icmp .ge 7, 3) := by decide +kernel
theorem sX6_isBelow_6 {d : Nat} {σ : aS} {Q : aQ} {x y : Int32} {ls : aL} {st : List Value} : aX d iX6_isBelow 6 (ls) (.int y :: .int x :: st) σ Q ↔ (if y ≤ x then aX d iX6_isBelow 13 (ls) (st) σ Q else aX d iX6_isBelow 9 (ls) (st) σ Q) := by rw [X_icmp kX6_isBelow_6 (t := 13) (by decide)]; simp only [aCmp_ge]
theorem kX6_isBelow_9 : aCode iX6_isBelow 9 = some (.iconst 1, 1) := by decide +kernel
theorem sX6_isBelow_9 {d : Nat} {σ : aS} {Q : aQ} {ls : aL} {st : List Value} : aX d iX6_isBelow 9 (ls) (st) σ Q ↔ aX d iX6_isBelow 10 (ls) (.int (nI 1) :: st) σ Q := X_iconst kX6_isBelow_9 (by decide +kernel)
theorem kX6_isBelow_10 : aCode iX6_isBelow 10 = some (.goto 4, 3) := by decide +kernel
theorem sX6_isBelow_10 {d : Nat} {σ : aS} {Q : aQ} {ls : aL} {st : List Value} : aX d iX6_isBelow 10 (ls) (st) σ Q ↔ aX d iX6_isBelow 14 (ls) (st) σ Q := X_goto kX6_isBelow_10 (by decide)
theorem kX6_isBelow_13 : aCode iX6_isBelow 13 = some (.iconst 0, 1) := by decide +kernel
theorem sX6_isBelow_13 {d : Nat} {σ : aS} {Q : aQ} {ls : aL} {st : List Value} : aX d iX6_isBelow 13 (ls) (st) σ Q ↔ aX d iX6_isBelow 14 (ls) (.int (nI 0) :: st) σ Q := X_iconst kX6_isBelow_13 (by decide +kernel)
theorem kX6_isBelow_14 : aCode iX6_isBelow 14 = some (.ireturn, 1) := by decide +kernel
theorem sX6_isBelow_14 {d : Nat} {σ : aS} {Q : aQ} {v : Int32} {ls : aL} : aX d iX6_isBelow 14 (ls) ([.int v]) σ Q ↔ (narrow .boolean (.int v) = .int v ∧ Q (some (.int v)) σ) := X_zret kX6_isBelow_14 (by decide +kernel)
theorem kX6_valueAt_0 : aCode iX6_valueAt 0 = some (.iload_n 1, 1) := by decide +kernel
theorem sX6_valueAt_0 {d : Nat} {σ : aS} {Q : aQ} {l0 : Option Value} {x : Int32} {lt : aL} {st : List Value} : aX d iX6_valueAt 0 (l0 :: some (.int x) :: lt) (st) σ Q ↔ aX d iX6_valueAt 1 (l0 :: some (.int x) :: lt) (.int x :: st) σ Q := X_iloadn kX6_valueAt_0 rfl
theorem kX6_valueAt_1 : aCode iX6_valueAt 1 = some (.ifCond .lt 15, 3) := by decide +kernel
theorem sX6_valueAt_1 {d : Nat} {σ : aS} {Q : aQ} {x : Int32} {ls : aL} {st : List Value} : aX d iX6_valueAt 1 (ls) (.int x :: st) σ Q ↔ (if x < nI 0 then aX d iX6_valueAt 16 (ls) (st) σ Q else aX d iX6_valueAt 4 (ls) (st) σ Q) := by rw [X_if kX6_valueAt_1 (t := 16) (by decide)]; simp only [aCmp_lt]
theorem kX6_valueAt_4 : aCode iX6_valueAt 4 = some (.iload_n 1, 1) := by decide +kernel
theorem sX6_valueAt_4 {d : Nat} {σ : aS} {Q : aQ} {l0 : Option Value} {x : Int32} {lt : aL} {st : List Value} : aX d iX6_valueAt 4 (l0 :: some (.int x) :: lt) (st) σ Q ↔ aX d iX6_valueAt 5 (l0 :: some (.int x) :: lt) (.int x :: st) σ Q := X_iloadn kX6_valueAt_4 rfl
theorem kX6_valueAt_5 : aCode iX6_valueAt 5 = some (.aload_n 0, 1) := by decide +kernel
theorem sX6_valueAt_5 {d : Nat} {σ : aS} {Q : aQ} {x : Nat} {lt : aL} {st : List Value} : aX d iX6_valueAt 5 (some (.ref x) :: lt) (st) σ Q ↔ aX d iX6_valueAt 6 (some (.ref x) :: lt) (.ref x :: st) σ Q := X_aloadn kX6_valueAt_5 rfl rfl
theorem kX6_valueAt_6 : aCode iX6_valueAt 6 = some (.arraylength, 1) := by decide +kernel
theorem sX6_valueAt_6 {d : Nat} {σ : aS} {Q : aQ} {a : Nat} {ls : aL} {st : List Value} : aX d iX6_valueAt 6 (ls) (.ref a :: st) σ Q ↔ ∃ m, aLn σ a = some m ∧ aX d iX6_valueAt 7 (ls) (.int (nI m) :: st) σ Q := X_alen kX6_valueAt_6
theorem kX6_valueAt_7 : aCode iX6_valueAt 7 = some (.if_icmp .ge 9, 3) := by decide +kernel
theorem sX6_valueAt_7 {d : Nat} {σ : aS} {Q : aQ} {x y : Int32} {ls : aL} {st : List Value} : aX d iX6_valueAt 7 (ls) (.int y :: .int x :: st) σ Q ↔ (if y ≤ x then aX d iX6_valueAt 16 (ls) (st) σ Q else aX d iX6_valueAt 10 (ls) (st) σ Q) := by rw [X_icmp kX6_valueAt_7 (t := 16) (by decide)]; simp only [aCmp_ge]
theorem kX6_valueAt_10 : aCode iX6_valueAt 10 = some (.aload_n 0, 1) := by decide +kernel
theorem sX6_valueAt_10 {d : Nat} {σ : aS} {Q : aQ} {x : Nat} {lt : aL} {st : List Value} : aX d iX6_valueAt 10 (some (.ref x) :: lt) (st) σ Q ↔ aX d iX6_valueAt 11 (some (.ref x) :: lt) (.ref x :: st) σ Q := X_aloadn kX6_valueAt_10 rfl rfl
theorem kX6_valueAt_11 : aCode iX6_valueAt 11 = some (.iload_n 1, 1) := by decide +kernel
theorem sX6_valueAt_11 {d : Nat} {σ : aS} {Q : aQ} {l0 : Option Value} {x : Int32} {lt : aL} {st : List Value} : aX d iX6_valueAt 11 (l0 :: some (.int x) :: lt) (st) σ Q ↔ aX d iX6_valueAt 12 (l0 :: some (.int x) :: lt) (.int x :: st) σ Q := X_iloadn kX6_valueAt_11 rfl
theorem kX6_valueAt_12 : aCode iX6_valueAt 12 = some (.iaload, 1) := by decide +kernel
theorem sX6_valueAt_12 {d : Nat} {σ : aS} {Q : aQ} {a : Nat} {i : Int32} {ls : aL} {st : List Value} : aX d iX6_valueAt 12 (ls) (.int i :: .ref a :: st) σ Q ↔ ∃ x, aRowR σ a = some x ∧ vp_in i x.1 ∧ aX d iX6_valueAt 13 (ls) (.int (x.2 i.toNatClampNeg) :: st) σ Q := X_iaload kX6_valueAt_12
theorem kX6_valueAt_13 : aCode iX6_valueAt 13 = some (.goto 4, 3) := by decide +kernel
theorem sX6_valueAt_13 {d : Nat} {σ : aS} {Q : aQ} {ls : aL} {st : List Value} : aX d iX6_valueAt 13 (ls) (st) σ Q ↔ aX d iX6_valueAt 17 (ls) (st) σ Q := X_goto kX6_valueAt_13 (by decide)
theorem kX6_valueAt_16 : aCode iX6_valueAt 16 = some (.iconst 0, 1) := by decide +kernel
theorem sX6_valueAt_16 {d : Nat} {σ : aS} {Q : aQ} {ls : aL} {st : List Value} : aX d iX6_valueAt 16 (ls) (st) σ Q ↔ aX d iX6_valueAt 17 (ls) (.int (nI 0) :: st) σ Q := X_iconst kX6_valueAt_16 (by decide +kernel)
theorem kX6_valueAt_17 : aCode iX6_valueAt 17 = some (.ireturn, 1) := by decide +kernel
theorem sX6_valueAt_17 {d : Nat} {σ : aS} {Q : aQ} {v : Int32} {ls : aL} : aX d iX6_valueAt 17 (ls) ([.int v]) σ Q ↔ Q (some (.int v)) σ := X_iret kX6_valueAt_17 (by decide +kernel)
theorem kX6_setAt_0 : aCode iX6_setAt 0 = some (.iload_n 1, 1) := by decide +kernel
theorem sX6_setAt_0 {d : Nat} {σ : aS} {Q : aQ} {l0 : Option Value} {x : Int32} {lt : aL} {st : List Value} : aX d iX6_setAt 0 (l0 :: some (.int x) :: lt) (st) σ Q ↔ aX d iX6_setAt 1 (l0 :: some (.int x) :: lt) (.int x :: st) σ Q := X_iloadn kX6_setAt_0 rfl
theorem kX6_setAt_1 : aCode iX6_setAt 1 = some (.ifCond .lt 13, 3) := by decide +kernel
theorem sX6_setAt_1 {d : Nat} {σ : aS} {Q : aQ} {x : Int32} {ls : aL} {st : List Value} : aX d iX6_setAt 1 (ls) (.int x :: st) σ Q ↔ (if x < nI 0 then aX d iX6_setAt 14 (ls) (st) σ Q else aX d iX6_setAt 4 (ls) (st) σ Q) := by rw [X_if kX6_setAt_1 (t := 14) (by decide)]; simp only [aCmp_lt]
theorem kX6_setAt_4 : aCode iX6_setAt 4 = some (.iload_n 1, 1) := by decide +kernel
theorem sX6_setAt_4 {d : Nat} {σ : aS} {Q : aQ} {l0 : Option Value} {x : Int32} {lt : aL} {st : List Value} : aX d iX6_setAt 4 (l0 :: some (.int x) :: lt) (st) σ Q ↔ aX d iX6_setAt 5 (l0 :: some (.int x) :: lt) (.int x :: st) σ Q := X_iloadn kX6_setAt_4 rfl
theorem kX6_setAt_5 : aCode iX6_setAt 5 = some (.aload_n 0, 1) := by decide +kernel
theorem sX6_setAt_5 {d : Nat} {σ : aS} {Q : aQ} {x : Nat} {lt : aL} {st : List Value} : aX d iX6_setAt 5 (some (.ref x) :: lt) (st) σ Q ↔ aX d iX6_setAt 6 (some (.ref x) :: lt) (.ref x :: st) σ Q := X_aloadn kX6_setAt_5 rfl rfl
theorem kX6_setAt_6 : aCode iX6_setAt 6 = some (.arraylength, 1) := by decide +kernel
theorem sX6_setAt_6 {d : Nat} {σ : aS} {Q : aQ} {a : Nat} {ls : aL} {st : List Value} : aX d iX6_setAt 6 (ls) (.ref a :: st) σ Q ↔ ∃ m, aLn σ a = some m ∧ aX d iX6_setAt 7 (ls) (.int (nI m) :: st) σ Q := X_alen kX6_setAt_6
theorem kX6_setAt_7 : aCode iX6_setAt 7 = some (.if_icmp .ge 7, 3) := by decide +kernel
theorem sX6_setAt_7 {d : Nat} {σ : aS} {Q : aQ} {x y : Int32} {ls : aL} {st : List Value} : aX d iX6_setAt 7 (ls) (.int y :: .int x :: st) σ Q ↔ (if y ≤ x then aX d iX6_setAt 14 (ls) (st) σ Q else aX d iX6_setAt 10 (ls) (st) σ Q) := by rw [X_icmp kX6_setAt_7 (t := 14) (by decide)]; simp only [aCmp_ge]
theorem kX6_setAt_10 : aCode iX6_setAt 10 = some (.aload_n 0, 1) := by decide +kernel
theorem sX6_setAt_10 {d : Nat} {σ : aS} {Q : aQ} {x : Nat} {lt : aL} {st : List Value} : aX d iX6_setAt 10 (some (.ref x) :: lt) (st) σ Q ↔ aX d iX6_setAt 11 (some (.ref x) :: lt) (.ref x :: st) σ Q := X_aloadn kX6_setAt_10 rfl rfl
theorem kX6_setAt_11 : aCode iX6_setAt 11 = some (.iload_n 1, 1) := by decide +kernel
theorem sX6_setAt_11 {d : Nat} {σ : aS} {Q : aQ} {l0 : Option Value} {x : Int32} {lt : aL} {st : List Value} : aX d iX6_setAt 11 (l0 :: some (.int x) :: lt) (st) σ Q ↔ aX d iX6_setAt 12 (l0 :: some (.int x) :: lt) (.int x :: st) σ Q := X_iloadn kX6_setAt_11 rfl
theorem kX6_setAt_12 : aCode iX6_setAt 12 = some (.iload_n 2, 1) := by decide +kernel
theorem sX6_setAt_12 {d : Nat} {σ : aS} {Q : aQ} {l0 l1 : Option Value} {x : Int32} {lt : aL} {st : List Value} : aX d iX6_setAt 12 (l0 :: l1 :: some (.int x) :: lt) (st) σ Q ↔ aX d iX6_setAt 13 (l0 :: l1 :: some (.int x) :: lt) (.int x :: st) σ Q := X_iloadn kX6_setAt_12 rfl
theorem kX6_setAt_13 : aCode iX6_setAt 13 = some (.iastore, 1) := by decide +kernel
theorem sX6_setAt_13 {d : Nat} {σ : aS} {Q : aQ} {a : Nat} {i v : Int32} {ls : aL} {st : List Value} : aX d iX6_setAt 13 (ls) (.int v :: .int i :: .ref a :: st) σ Q ↔ ∃ x, aRow σ a = some x ∧ vp_in i x.1 ∧ aX d iX6_setAt 14 (ls) (st) (aput σ a (eI x.1 (upd x.2 i.toNatClampNeg v))) Q := X_iastore kX6_setAt_13
theorem kX6_setAt_14 : aCode iX6_setAt 14 = some (.return_, 1) := by decide +kernel
theorem sX6_setAt_14 {d : Nat} {σ : aS} {Q : aQ} {ls : aL} : aX d iX6_setAt 14 (ls) ([]) σ Q ↔ Q none σ := X_vret kX6_setAt_14 (by decide +kernel)
theorem kX6_addAt_0 : aCode iX6_addAt 0 = some (.iload_n 1, 1) := by decide +kernel
theorem sX6_addAt_0 {d : Nat} {σ : aS} {Q : aQ} {l0 : Option Value} {x : Int32} {lt : aL} {st : List Value} : aX d iX6_addAt 0 (l0 :: some (.int x) :: lt) (st) σ Q ↔ aX d iX6_addAt 1 (l0 :: some (.int x) :: lt) (.int x :: st) σ Q := X_iloadn kX6_addAt_0 rfl
theorem kX6_addAt_1 : aCode iX6_addAt 1 = some (.ifCond .lt 16, 3) := by decide +kernel
theorem sX6_addAt_1 {d : Nat} {σ : aS} {Q : aQ} {x : Int32} {ls : aL} {st : List Value} : aX d iX6_addAt 1 (ls) (.int x :: st) σ Q ↔ (if x < nI 0 then aX d iX6_addAt 17 (ls) (st) σ Q else aX d iX6_addAt 4 (ls) (st) σ Q) := by rw [X_if kX6_addAt_1 (t := 17) (by decide)]; simp only [aCmp_lt]
theorem kX6_addAt_4 : aCode iX6_addAt 4 = some (.iload_n 1, 1) := by decide +kernel
theorem sX6_addAt_4 {d : Nat} {σ : aS} {Q : aQ} {l0 : Option Value} {x : Int32} {lt : aL} {st : List Value} : aX d iX6_addAt 4 (l0 :: some (.int x) :: lt) (st) σ Q ↔ aX d iX6_addAt 5 (l0 :: some (.int x) :: lt) (.int x :: st) σ Q := X_iloadn kX6_addAt_4 rfl
theorem kX6_addAt_5 : aCode iX6_addAt 5 = some (.aload_n 0, 1) := by decide +kernel
theorem sX6_addAt_5 {d : Nat} {σ : aS} {Q : aQ} {x : Nat} {lt : aL} {st : List Value} : aX d iX6_addAt 5 (some (.ref x) :: lt) (st) σ Q ↔ aX d iX6_addAt 6 (some (.ref x) :: lt) (.ref x :: st) σ Q := X_aloadn kX6_addAt_5 rfl rfl
theorem kX6_addAt_6 : aCode iX6_addAt 6 = some (.arraylength, 1) := by decide +kernel
theorem sX6_addAt_6 {d : Nat} {σ : aS} {Q : aQ} {a : Nat} {ls : aL} {st : List Value} : aX d iX6_addAt 6 (ls) (.ref a :: st) σ Q ↔ ∃ m, aLn σ a = some m ∧ aX d iX6_addAt 7 (ls) (.int (nI m) :: st) σ Q := X_alen kX6_addAt_6
theorem kX6_addAt_7 : aCode iX6_addAt 7 = some (.if_icmp .ge 10, 3) := by decide +kernel
theorem sX6_addAt_7 {d : Nat} {σ : aS} {Q : aQ} {x y : Int32} {ls : aL} {st : List Value} : aX d iX6_addAt 7 (ls) (.int y :: .int x :: st) σ Q ↔ (if y ≤ x then aX d iX6_addAt 17 (ls) (st) σ Q else aX d iX6_addAt 10 (ls) (st) σ Q) := by rw [X_icmp kX6_addAt_7 (t := 17) (by decide)]; simp only [aCmp_ge]
theorem kX6_addAt_10 : aCode iX6_addAt 10 = some (.aload_n 0, 1) := by decide +kernel
theorem sX6_addAt_10 {d : Nat} {σ : aS} {Q : aQ} {x : Nat} {lt : aL} {st : List Value} : aX d iX6_addAt 10 (some (.ref x) :: lt) (st) σ Q ↔ aX d iX6_addAt 11 (some (.ref x) :: lt) (.ref x :: st) σ Q := X_aloadn kX6_addAt_10 rfl rfl
theorem kX6_addAt_11 : aCode iX6_addAt 11 = some (.iload_n 1, 1) := by decide +kernel
theorem sX6_addAt_11 {d : Nat} {σ : aS} {Q : aQ} {l0 : Option Value} {x : Int32} {lt : aL} {st : List Value} : aX d iX6_addAt 11 (l0 :: some (.int x) :: lt) (st) σ Q ↔ aX d iX6_addAt 12 (l0 :: some (.int x) :: lt) (.int x :: st) σ Q := X_iloadn kX6_addAt_11 rfl
theorem kX6_addAt_12 : aCode iX6_addAt 12 = some (.dup2, 1) := by decide +kernel
theorem sX6_addAt_12 {d : Nat} {σ : aS} {Q : aQ} {y : Int32} {x : Nat} {ls : aL} {st : List Value} : aX d iX6_addAt 12 (ls) (.int y :: .ref x :: st) σ Q ↔ aX d iX6_addAt 13 (ls) (.int y :: .ref x :: .int y :: .ref x :: st) σ Q := X_dup2 kX6_addAt_12 ⟨rfl, rfl⟩
theorem kX6_addAt_13 : aCode iX6_addAt 13 = some (.iaload, 1) := by decide +kernel
theorem sX6_addAt_13 {d : Nat} {σ : aS} {Q : aQ} {a : Nat} {i : Int32} {ls : aL} {st : List Value} : aX d iX6_addAt 13 (ls) (.int i :: .ref a :: st) σ Q ↔ ∃ x, aRowR σ a = some x ∧ vp_in i x.1 ∧ aX d iX6_addAt 14 (ls) (.int (x.2 i.toNatClampNeg) :: st) σ Q := X_iaload kX6_addAt_13
theorem kX6_addAt_14 : aCode iX6_addAt 14 = some (.iload_n 2, 1) := by decide +kernel
theorem sX6_addAt_14 {d : Nat} {σ : aS} {Q : aQ} {l0 l1 : Option Value} {x : Int32} {lt : aL} {st : List Value} : aX d iX6_addAt 14 (l0 :: l1 :: some (.int x) :: lt) (st) σ Q ↔ aX d iX6_addAt 15 (l0 :: l1 :: some (.int x) :: lt) (.int x :: st) σ Q := X_iloadn kX6_addAt_14 rfl
theorem kX6_addAt_15 : aCode iX6_addAt 15 = some (.iadd, 1) := by decide +kernel
theorem sX6_addAt_15 {d : Nat} {σ : aS} {Q : aQ} {x y : Int32} {ls : aL} {st : List Value} : aX d iX6_addAt 15 (ls) (.int y :: .int x :: st) σ Q ↔ aX d iX6_addAt 16 (ls) (.int (x + y) :: st) σ Q := X_iadd kX6_addAt_15
theorem kX6_addAt_16 : aCode iX6_addAt 16 = some (.iastore, 1) := by decide +kernel
theorem sX6_addAt_16 {d : Nat} {σ : aS} {Q : aQ} {a : Nat} {i v : Int32} {ls : aL} {st : List Value} : aX d iX6_addAt 16 (ls) (.int v :: .int i :: .ref a :: st) σ Q ↔ ∃ x, aRow σ a = some x ∧ vp_in i x.1 ∧ aX d iX6_addAt 17 (ls) (st) (aput σ a (eI x.1 (upd x.2 i.toNatClampNeg v))) Q := X_iastore kX6_addAt_16
theorem kX6_addAt_17 : aCode iX6_addAt 17 = some (.return_, 1) := by decide +kernel
theorem sX6_addAt_17 {d : Nat} {σ : aS} {Q : aQ} {ls : aL} : aX d iX6_addAt 17 (ls) ([]) σ Q ↔ Q none σ := X_vret kX6_addAt_17 (by decide +kernel)
theorem kX6_copyRow_0 : aCode iX6_copyRow 0 = some (.aload_n 0, 1) := by decide +kernel
theorem sX6_copyRow_0 {d : Nat} {σ : aS} {Q : aQ} {x : Nat} {lt : aL} {st : List Value} : aX d iX6_copyRow 0 (some (.ref x) :: lt) (st) σ Q ↔ aX d iX6_copyRow 1 (some (.ref x) :: lt) (.ref x :: st) σ Q := X_aloadn kX6_copyRow_0 rfl rfl
theorem kX6_copyRow_1 : aCode iX6_copyRow 1 = some (.iconst 0, 1) := by decide +kernel
theorem sX6_copyRow_1 {d : Nat} {σ : aS} {Q : aQ} {ls : aL} {st : List Value} : aX d iX6_copyRow 1 (ls) (st) σ Q ↔ aX d iX6_copyRow 2 (ls) (.int (nI 0) :: st) σ Q := X_iconst kX6_copyRow_1 (by decide +kernel)
theorem kX6_copyRow_2 : aCode iX6_copyRow 2 = some (.aload_n 1, 1) := by decide +kernel
theorem sX6_copyRow_2 {d : Nat} {σ : aS} {Q : aQ} {l0 : Option Value} {x : Nat} {lt : aL} {st : List Value} : aX d iX6_copyRow 2 (l0 :: some (.ref x) :: lt) (st) σ Q ↔ aX d iX6_copyRow 3 (l0 :: some (.ref x) :: lt) (.ref x :: st) σ Q := X_aloadn kX6_copyRow_2 rfl rfl
theorem sX6_copyRow_2n {d : Nat} {σ : aS} {Q : aQ} {l0 : Option Value} {lt : aL} {st : List Value} : aX d iX6_copyRow 2 (l0 :: some .null :: lt) (st) σ Q ↔ aX d iX6_copyRow 3 (l0 :: some .null :: lt) (.null :: st) σ Q := X_aloadn kX6_copyRow_2 rfl rfl
theorem kX6_copyRow_3 : aCode iX6_copyRow 3 = some (.iconst 0, 1) := by decide +kernel
theorem sX6_copyRow_3 {d : Nat} {σ : aS} {Q : aQ} {ls : aL} {st : List Value} : aX d iX6_copyRow 3 (ls) (st) σ Q ↔ aX d iX6_copyRow 4 (ls) (.int (nI 0) :: st) σ Q := X_iconst kX6_copyRow_3 (by decide +kernel)
theorem kX6_copyRow_4 : aCode iX6_copyRow 4 = some (.aload_n 0, 1) := by decide +kernel
theorem sX6_copyRow_4 {d : Nat} {σ : aS} {Q : aQ} {x : Nat} {lt : aL} {st : List Value} : aX d iX6_copyRow 4 (some (.ref x) :: lt) (st) σ Q ↔ aX d iX6_copyRow 5 (some (.ref x) :: lt) (.ref x :: st) σ Q := X_aloadn kX6_copyRow_4 rfl rfl
theorem kX6_copyRow_5 : aCode iX6_copyRow 5 = some (.arraylength, 1) := by decide +kernel
theorem sX6_copyRow_5 {d : Nat} {σ : aS} {Q : aQ} {a : Nat} {ls : aL} {st : List Value} : aX d iX6_copyRow 5 (ls) (.ref a :: st) σ Q ↔ ∃ m, aLn σ a = some m ∧ aX d iX6_copyRow 6 (ls) (.int (nI m) :: st) σ Q := X_alen kX6_copyRow_5
theorem kX6_copyRow_6 : aCode iX6_copyRow 6 = some (.aload_n 1, 1) := by decide +kernel
theorem sX6_copyRow_6 {d : Nat} {σ : aS} {Q : aQ} {l0 : Option Value} {x : Nat} {lt : aL} {st : List Value} : aX d iX6_copyRow 6 (l0 :: some (.ref x) :: lt) (st) σ Q ↔ aX d iX6_copyRow 7 (l0 :: some (.ref x) :: lt) (.ref x :: st) σ Q := X_aloadn kX6_copyRow_6 rfl rfl
theorem sX6_copyRow_6n {d : Nat} {σ : aS} {Q : aQ} {l0 : Option Value} {lt : aL} {st : List Value} : aX d iX6_copyRow 6 (l0 :: some .null :: lt) (st) σ Q ↔ aX d iX6_copyRow 7 (l0 :: some .null :: lt) (.null :: st) σ Q := X_aloadn kX6_copyRow_6 rfl rfl
theorem kX6_copyRow_7 : aCode iX6_copyRow 7 = some (.arraylength, 1) := by decide +kernel
theorem sX6_copyRow_7 {d : Nat} {σ : aS} {Q : aQ} {a : Nat} {ls : aL} {st : List Value} : aX d iX6_copyRow 7 (ls) (.ref a :: st) σ Q ↔ ∃ m, aLn σ a = some m ∧ aX d iX6_copyRow 8 (ls) (.int (nI m) :: st) σ Q := X_alen kX6_copyRow_7
theorem kX6_copyRow_8 : aCode iX6_copyRow 8 = some (.invokestatic 234, 3) := by decide +kernel
theorem sX6_copyRow_8 {d : Nat} {σ : aS} {Q : aQ} {x y : Int32} {v0 v1 v2 v3 : Value} {ls : aL} : aX d iX6_copyRow 8 (ls) (.int y :: .int x :: v0 :: v1 :: v2 :: v3 :: []) σ Q ↔ aX d iX6_copyRow 11 (ls) (.int (if y < x then y else x) :: v0 :: v1 :: v2 :: v3 :: []) σ Q := X_min (t := 999) (w := 211) kX6_copyRow_8 (by decide +kernel) (by simp only [List.length_cons, List.length_nil]; omega)
theorem kX6_copyRow_11 : aCode iX6_copyRow 11 = some (.invokestatic 239, 3) := by decide +kernel
theorem sX6_copyRow_11 {d : Nat} {σ : aS} {Q : aQ} {a a0 : Nat} {p q m : Int32} {n0 n1 : Nat} {f g : Nat → Int32} {ls : aL} (h0 : σ.1 a0 = some (eI n0 f)) (h1 : σ.1 a = some (eI n1 g)) (hc : ¬ p < 0 ∧ ¬ q < 0 ∧ ¬ m < 0 ∧ p.toNatClampNeg + m.toNatClampNeg ≤ n0 ∧ q.toNatClampNeg + m.toNatClampNeg ≤ n1) : aX d iX6_copyRow 11 (ls) (.int m :: .int q :: .ref a :: .int p :: .ref a0 :: []) σ Q ↔ aX d iX6_copyRow 14 (ls) ([]) (aput σ a (eI n1 (va_cpy f g p.toNatClampNeg q.toNatClampNeg m.toNatClampNeg))) Q := X_cpy (t := 999) (w := 214) kX6_copyRow_11 (by decide +kernel) h0 h1 ⟨hc.1, hc.2.1, hc.2.2.1, hc.2.2.2.1, hc.2.2.2.2, by simp only [List.length_cons, List.length_nil]; omega⟩
theorem kX6_copyRow_14 : aCode iX6_copyRow 14 = some (.return_, 1) := by decide +kernel
theorem sX6_copyRow_14 {d : Nat} {σ : aS} {Q : aQ} {ls : aL} : aX d iX6_copyRow 14 (ls) ([]) σ Q ↔ Q none σ := X_vret kX6_copyRow_14 (by decide +kernel)
theorem kJ6_bitCount_0f7a4_0 : aCode iJ6_bitCount_0f7a4 0 = some (.iload_n 0, 1) := by decide +kernel
theorem sJ6_bitCount_0f7a4_0 {d : Nat} {σ : aS} {Q : aQ} {x : Int32} {lt : aL} {st : List Value} : aX d iJ6_bitCount_0f7a4 0 (some (.int x) :: lt) (st) σ Q ↔ aX d iJ6_bitCount_0f7a4 1 (some (.int x) :: lt) (.int x :: st) σ Q := X_iloadn kJ6_bitCount_0f7a4_0 rfl
theorem kJ6_bitCount_0f7a4_1 : aCode iJ6_bitCount_0f7a4 1 = some (.iload_n 0, 1) := by decide +kernel
theorem sJ6_bitCount_0f7a4_1 {d : Nat} {σ : aS} {Q : aQ} {x : Int32} {lt : aL} {st : List Value} : aX d iJ6_bitCount_0f7a4 1 (some (.int x) :: lt) (st) σ Q ↔ aX d iJ6_bitCount_0f7a4 2 (some (.int x) :: lt) (.int x :: st) σ Q := X_iloadn kJ6_bitCount_0f7a4_1 rfl
theorem kJ6_bitCount_0f7a4_2 : aCode iJ6_bitCount_0f7a4 2 = some (.iconst 1, 1) := by decide +kernel
theorem sJ6_bitCount_0f7a4_2 {d : Nat} {σ : aS} {Q : aQ} {ls : aL} {st : List Value} : aX d iJ6_bitCount_0f7a4 2 (ls) (st) σ Q ↔ aX d iJ6_bitCount_0f7a4 3 (ls) (.int (nI 1) :: st) σ Q := X_iconst kJ6_bitCount_0f7a4_2 (by decide +kernel)
theorem kJ6_bitCount_0f7a4_3 : aCode iJ6_bitCount_0f7a4 3 = some (.iushr, 1) := by decide +kernel
theorem sJ6_bitCount_0f7a4_3 {d : Nat} {σ : aS} {Q : aQ} {x y : Int32} {ls : aL} {st : List Value} : aX d iJ6_bitCount_0f7a4 3 (ls) (.int y :: .int x :: st) σ Q ↔ aX d iJ6_bitCount_0f7a4 4 (ls) (.int ((x.toUInt32 >>> (y.toUInt32 &&& Int32.toUInt32 31)).toInt32) :: st) σ Q := X_iushr kJ6_bitCount_0f7a4_3
theorem kJ6_bitCount_0f7a4_4 : aCode iJ6_bitCount_0f7a4 4 = some (.ldc_w 265, 3) := by decide +kernel
theorem sJ6_bitCount_0f7a4_4 {d : Nat} {σ : aS} {Q : aQ} {ls : aL} {st : List Value} : aX d iJ6_bitCount_0f7a4 4 (ls) (st) σ Q ↔ aX d iJ6_bitCount_0f7a4 7 (ls) (.int 1431655765 :: st) σ Q := X_ldcw (w := 254) kJ6_bitCount_0f7a4_4 (by decide +kernel)
theorem kJ6_bitCount_0f7a4_7 : aCode iJ6_bitCount_0f7a4 7 = some (.iand, 1) := by decide +kernel
theorem sJ6_bitCount_0f7a4_7 {d : Nat} {σ : aS} {Q : aQ} {x y : Int32} {ls : aL} {st : List Value} : aX d iJ6_bitCount_0f7a4 7 (ls) (.int y :: .int x :: st) σ Q ↔ aX d iJ6_bitCount_0f7a4 8 (ls) (.int (x &&& y) :: st) σ Q := X_iand kJ6_bitCount_0f7a4_7
theorem kJ6_bitCount_0f7a4_8 : aCode iJ6_bitCount_0f7a4 8 = some (.isub, 1) := by decide +kernel
theorem sJ6_bitCount_0f7a4_8 {d : Nat} {σ : aS} {Q : aQ} {x y : Int32} {ls : aL} {st : List Value} : aX d iJ6_bitCount_0f7a4 8 (ls) (.int y :: .int x :: st) σ Q ↔ aX d iJ6_bitCount_0f7a4 9 (ls) (.int (x - y) :: st) σ Q := X_isub kJ6_bitCount_0f7a4_8
theorem kJ6_bitCount_0f7a4_9 : aCode iJ6_bitCount_0f7a4 9 = some (.istore_n 0, 1) := by decide +kernel
theorem sJ6_bitCount_0f7a4_9 {d : Nat} {σ : aS} {Q : aQ} {lo : Option Value} {x : Int32} {lt : aL} {st : List Value} : aX d iJ6_bitCount_0f7a4 9 (lo :: lt) (.int x :: st) σ Q ↔ aX d iJ6_bitCount_0f7a4 10 (some (.int x) :: lt) (st) σ Q := X_istoren kJ6_bitCount_0f7a4_9 (by simp only [List.length_cons]; omega)
theorem kJ6_bitCount_0f7a4_10 : aCode iJ6_bitCount_0f7a4 10 = some (.iload_n 0, 1) := by decide +kernel
theorem sJ6_bitCount_0f7a4_10 {d : Nat} {σ : aS} {Q : aQ} {x : Int32} {lt : aL} {st : List Value} : aX d iJ6_bitCount_0f7a4 10 (some (.int x) :: lt) (st) σ Q ↔ aX d iJ6_bitCount_0f7a4 11 (some (.int x) :: lt) (.int x :: st) σ Q := X_iloadn kJ6_bitCount_0f7a4_10 rfl
theorem kJ6_bitCount_0f7a4_11 : aCode iJ6_bitCount_0f7a4 11 = some (.ldc_w 266, 3) := by decide +kernel
theorem sJ6_bitCount_0f7a4_11 {d : Nat} {σ : aS} {Q : aQ} {ls : aL} {st : List Value} : aX d iJ6_bitCount_0f7a4 11 (ls) (st) σ Q ↔ aX d iJ6_bitCount_0f7a4 14 (ls) (.int 858993459 :: st) σ Q := X_ldcw (w := 255) kJ6_bitCount_0f7a4_11 (by decide +kernel)
theorem kJ6_bitCount_0f7a4_14 : aCode iJ6_bitCount_0f7a4 14 = some (.iand, 1) := by decide +kernel
theorem sJ6_bitCount_0f7a4_14 {d : Nat} {σ : aS} {Q : aQ} {x y : Int32} {ls : aL} {st : List Value} : aX d iJ6_bitCount_0f7a4 14 (ls) (.int y :: .int x :: st) σ Q ↔ aX d iJ6_bitCount_0f7a4 15 (ls) (.int (x &&& y) :: st) σ Q := X_iand kJ6_bitCount_0f7a4_14
theorem kJ6_bitCount_0f7a4_15 : aCode iJ6_bitCount_0f7a4 15 = some (.iload_n 0, 1) := by decide +kernel
theorem sJ6_bitCount_0f7a4_15 {d : Nat} {σ : aS} {Q : aQ} {x : Int32} {lt : aL} {st : List Value} : aX d iJ6_bitCount_0f7a4 15 (some (.int x) :: lt) (st) σ Q ↔ aX d iJ6_bitCount_0f7a4 16 (some (.int x) :: lt) (.int x :: st) σ Q := X_iloadn kJ6_bitCount_0f7a4_15 rfl
theorem kJ6_bitCount_0f7a4_16 : aCode iJ6_bitCount_0f7a4 16 = some (.iconst 2, 1) := by decide +kernel
theorem sJ6_bitCount_0f7a4_16 {d : Nat} {σ : aS} {Q : aQ} {ls : aL} {st : List Value} : aX d iJ6_bitCount_0f7a4 16 (ls) (st) σ Q ↔ aX d iJ6_bitCount_0f7a4 17 (ls) (.int (nI 2) :: st) σ Q := X_iconst kJ6_bitCount_0f7a4_16 (by decide +kernel)
theorem kJ6_bitCount_0f7a4_17 : aCode iJ6_bitCount_0f7a4 17 = some (.iushr, 1) := by decide +kernel
theorem sJ6_bitCount_0f7a4_17 {d : Nat} {σ : aS} {Q : aQ} {x y : Int32} {ls : aL} {st : List Value} : aX d iJ6_bitCount_0f7a4 17 (ls) (.int y :: .int x :: st) σ Q ↔ aX d iJ6_bitCount_0f7a4 18 (ls) (.int ((x.toUInt32 >>> (y.toUInt32 &&& Int32.toUInt32 31)).toInt32) :: st) σ Q := X_iushr kJ6_bitCount_0f7a4_17
theorem kJ6_bitCount_0f7a4_18 : aCode iJ6_bitCount_0f7a4 18 = some (.ldc_w 266, 3) := by decide +kernel
theorem sJ6_bitCount_0f7a4_18 {d : Nat} {σ : aS} {Q : aQ} {ls : aL} {st : List Value} : aX d iJ6_bitCount_0f7a4 18 (ls) (st) σ Q ↔ aX d iJ6_bitCount_0f7a4 21 (ls) (.int 858993459 :: st) σ Q := X_ldcw (w := 255) kJ6_bitCount_0f7a4_18 (by decide +kernel)
theorem kJ6_bitCount_0f7a4_21 : aCode iJ6_bitCount_0f7a4 21 = some (.iand, 1) := by decide +kernel
theorem sJ6_bitCount_0f7a4_21 {d : Nat} {σ : aS} {Q : aQ} {x y : Int32} {ls : aL} {st : List Value} : aX d iJ6_bitCount_0f7a4 21 (ls) (.int y :: .int x :: st) σ Q ↔ aX d iJ6_bitCount_0f7a4 22 (ls) (.int (x &&& y) :: st) σ Q := X_iand kJ6_bitCount_0f7a4_21
theorem kJ6_bitCount_0f7a4_22 : aCode iJ6_bitCount_0f7a4 22 = some (.iadd, 1) := by decide +kernel
theorem sJ6_bitCount_0f7a4_22 {d : Nat} {σ : aS} {Q : aQ} {x y : Int32} {ls : aL} {st : List Value} : aX d iJ6_bitCount_0f7a4 22 (ls) (.int y :: .int x :: st) σ Q ↔ aX d iJ6_bitCount_0f7a4 23 (ls) (.int (x + y) :: st) σ Q := X_iadd kJ6_bitCount_0f7a4_22
theorem kJ6_bitCount_0f7a4_23 : aCode iJ6_bitCount_0f7a4 23 = some (.istore_n 0, 1) := by decide +kernel
theorem sJ6_bitCount_0f7a4_23 {d : Nat} {σ : aS} {Q : aQ} {lo : Option Value} {x : Int32} {lt : aL} {st : List Value} : aX d iJ6_bitCount_0f7a4 23 (lo :: lt) (.int x :: st) σ Q ↔ aX d iJ6_bitCount_0f7a4 24 (some (.int x) :: lt) (st) σ Q := X_istoren kJ6_bitCount_0f7a4_23 (by simp only [List.length_cons]; omega)
theorem kJ6_bitCount_0f7a4_24 : aCode iJ6_bitCount_0f7a4 24 = some (.iload_n 0, 1) := by decide +kernel
theorem sJ6_bitCount_0f7a4_24 {d : Nat} {σ : aS} {Q : aQ} {x : Int32} {lt : aL} {st : List Value} : aX d iJ6_bitCount_0f7a4 24 (some (.int x) :: lt) (st) σ Q ↔ aX d iJ6_bitCount_0f7a4 25 (some (.int x) :: lt) (.int x :: st) σ Q := X_iloadn kJ6_bitCount_0f7a4_24 rfl
theorem kJ6_bitCount_0f7a4_25 : aCode iJ6_bitCount_0f7a4 25 = some (.iload_n 0, 1) := by decide +kernel
theorem sJ6_bitCount_0f7a4_25 {d : Nat} {σ : aS} {Q : aQ} {x : Int32} {lt : aL} {st : List Value} : aX d iJ6_bitCount_0f7a4 25 (some (.int x) :: lt) (st) σ Q ↔ aX d iJ6_bitCount_0f7a4 26 (some (.int x) :: lt) (.int x :: st) σ Q := X_iloadn kJ6_bitCount_0f7a4_25 rfl
theorem kJ6_bitCount_0f7a4_26 : aCode iJ6_bitCount_0f7a4 26 = some (.iconst 4, 1) := by decide +kernel
theorem sJ6_bitCount_0f7a4_26 {d : Nat} {σ : aS} {Q : aQ} {ls : aL} {st : List Value} : aX d iJ6_bitCount_0f7a4 26 (ls) (st) σ Q ↔ aX d iJ6_bitCount_0f7a4 27 (ls) (.int (nI 4) :: st) σ Q := X_iconst kJ6_bitCount_0f7a4_26 (by decide +kernel)
theorem kJ6_bitCount_0f7a4_27 : aCode iJ6_bitCount_0f7a4 27 = some (.iushr, 1) := by decide +kernel
theorem sJ6_bitCount_0f7a4_27 {d : Nat} {σ : aS} {Q : aQ} {x y : Int32} {ls : aL} {st : List Value} : aX d iJ6_bitCount_0f7a4 27 (ls) (.int y :: .int x :: st) σ Q ↔ aX d iJ6_bitCount_0f7a4 28 (ls) (.int ((x.toUInt32 >>> (y.toUInt32 &&& Int32.toUInt32 31)).toInt32) :: st) σ Q := X_iushr kJ6_bitCount_0f7a4_27
theorem kJ6_bitCount_0f7a4_28 : aCode iJ6_bitCount_0f7a4 28 = some (.iadd, 1) := by decide +kernel
theorem sJ6_bitCount_0f7a4_28 {d : Nat} {σ : aS} {Q : aQ} {x y : Int32} {ls : aL} {st : List Value} : aX d iJ6_bitCount_0f7a4 28 (ls) (.int y :: .int x :: st) σ Q ↔ aX d iJ6_bitCount_0f7a4 29 (ls) (.int (x + y) :: st) σ Q := X_iadd kJ6_bitCount_0f7a4_28
theorem kJ6_bitCount_0f7a4_29 : aCode iJ6_bitCount_0f7a4 29 = some (.ldc_w 267, 3) := by decide +kernel
theorem sJ6_bitCount_0f7a4_29 {d : Nat} {σ : aS} {Q : aQ} {ls : aL} {st : List Value} : aX d iJ6_bitCount_0f7a4 29 (ls) (st) σ Q ↔ aX d iJ6_bitCount_0f7a4 32 (ls) (.int 252645135 :: st) σ Q := X_ldcw (w := 256) kJ6_bitCount_0f7a4_29 (by decide +kernel)
theorem kJ6_bitCount_0f7a4_32 : aCode iJ6_bitCount_0f7a4 32 = some (.iand, 1) := by decide +kernel
theorem sJ6_bitCount_0f7a4_32 {d : Nat} {σ : aS} {Q : aQ} {x y : Int32} {ls : aL} {st : List Value} : aX d iJ6_bitCount_0f7a4 32 (ls) (.int y :: .int x :: st) σ Q ↔ aX d iJ6_bitCount_0f7a4 33 (ls) (.int (x &&& y) :: st) σ Q := X_iand kJ6_bitCount_0f7a4_32
theorem kJ6_bitCount_0f7a4_33 : aCode iJ6_bitCount_0f7a4 33 = some (.istore_n 0, 1) := by decide +kernel
theorem sJ6_bitCount_0f7a4_33 {d : Nat} {σ : aS} {Q : aQ} {lo : Option Value} {x : Int32} {lt : aL} {st : List Value} : aX d iJ6_bitCount_0f7a4 33 (lo :: lt) (.int x :: st) σ Q ↔ aX d iJ6_bitCount_0f7a4 34 (some (.int x) :: lt) (st) σ Q := X_istoren kJ6_bitCount_0f7a4_33 (by simp only [List.length_cons]; omega)
theorem kJ6_bitCount_0f7a4_34 : aCode iJ6_bitCount_0f7a4 34 = some (.iload_n 0, 1) := by decide +kernel
theorem sJ6_bitCount_0f7a4_34 {d : Nat} {σ : aS} {Q : aQ} {x : Int32} {lt : aL} {st : List Value} : aX d iJ6_bitCount_0f7a4 34 (some (.int x) :: lt) (st) σ Q ↔ aX d iJ6_bitCount_0f7a4 35 (some (.int x) :: lt) (.int x :: st) σ Q := X_iloadn kJ6_bitCount_0f7a4_34 rfl
theorem kJ6_bitCount_0f7a4_35 : aCode iJ6_bitCount_0f7a4 35 = some (.iload_n 0, 1) := by decide +kernel
theorem sJ6_bitCount_0f7a4_35 {d : Nat} {σ : aS} {Q : aQ} {x : Int32} {lt : aL} {st : List Value} : aX d iJ6_bitCount_0f7a4 35 (some (.int x) :: lt) (st) σ Q ↔ aX d iJ6_bitCount_0f7a4 36 (some (.int x) :: lt) (.int x :: st) σ Q := X_iloadn kJ6_bitCount_0f7a4_35 rfl
theorem kJ6_bitCount_0f7a4_36 : aCode iJ6_bitCount_0f7a4 36 = some (.bipush 8, 2) := by decide +kernel
theorem sJ6_bitCount_0f7a4_36 {d : Nat} {σ : aS} {Q : aQ} {ls : aL} {st : List Value} : aX d iJ6_bitCount_0f7a4 36 (ls) (st) σ Q ↔ aX d iJ6_bitCount_0f7a4 38 (ls) (.int (nI 8) :: st) σ Q := X_bipush kJ6_bitCount_0f7a4_36 (by decide +kernel)
theorem kJ6_bitCount_0f7a4_38 : aCode iJ6_bitCount_0f7a4 38 = some (.iushr, 1) := by decide +kernel
theorem sJ6_bitCount_0f7a4_38 {d : Nat} {σ : aS} {Q : aQ} {x y : Int32} {ls : aL} {st : List Value} : aX d iJ6_bitCount_0f7a4 38 (ls) (.int y :: .int x :: st) σ Q ↔ aX d iJ6_bitCount_0f7a4 39 (ls) (.int ((x.toUInt32 >>> (y.toUInt32 &&& Int32.toUInt32 31)).toInt32) :: st) σ Q := X_iushr kJ6_bitCount_0f7a4_38
theorem kJ6_bitCount_0f7a4_39 : aCode iJ6_bitCount_0f7a4 39 = some (.iadd, 1) := by decide +kernel
theorem sJ6_bitCount_0f7a4_39 {d : Nat} {σ : aS} {Q : aQ} {x y : Int32} {ls : aL} {st : List Value} : aX d iJ6_bitCount_0f7a4 39 (ls) (.int y :: .int x :: st) σ Q ↔ aX d iJ6_bitCount_0f7a4 40 (ls) (.int (x + y) :: st) σ Q := X_iadd kJ6_bitCount_0f7a4_39
theorem kJ6_bitCount_0f7a4_40 : aCode iJ6_bitCount_0f7a4 40 = some (.istore_n 0, 1) := by decide +kernel
theorem sJ6_bitCount_0f7a4_40 {d : Nat} {σ : aS} {Q : aQ} {lo : Option Value} {x : Int32} {lt : aL} {st : List Value} : aX d iJ6_bitCount_0f7a4 40 (lo :: lt) (.int x :: st) σ Q ↔ aX d iJ6_bitCount_0f7a4 41 (some (.int x) :: lt) (st) σ Q := X_istoren kJ6_bitCount_0f7a4_40 (by simp only [List.length_cons]; omega)
theorem kJ6_bitCount_0f7a4_41 : aCode iJ6_bitCount_0f7a4 41 = some (.iload_n 0, 1) := by decide +kernel
theorem sJ6_bitCount_0f7a4_41 {d : Nat} {σ : aS} {Q : aQ} {x : Int32} {lt : aL} {st : List Value} : aX d iJ6_bitCount_0f7a4 41 (some (.int x) :: lt) (st) σ Q ↔ aX d iJ6_bitCount_0f7a4 42 (some (.int x) :: lt) (.int x :: st) σ Q := X_iloadn kJ6_bitCount_0f7a4_41 rfl
theorem kJ6_bitCount_0f7a4_42 : aCode iJ6_bitCount_0f7a4 42 = some (.iload_n 0, 1) := by decide +kernel
theorem sJ6_bitCount_0f7a4_42 {d : Nat} {σ : aS} {Q : aQ} {x : Int32} {lt : aL} {st : List Value} : aX d iJ6_bitCount_0f7a4 42 (some (.int x) :: lt) (st) σ Q ↔ aX d iJ6_bitCount_0f7a4 43 (some (.int x) :: lt) (.int x :: st) σ Q := X_iloadn kJ6_bitCount_0f7a4_42 rfl
theorem kJ6_bitCount_0f7a4_43 : aCode iJ6_bitCount_0f7a4 43 = some (.bipush 16, 2) := by decide +kernel
theorem sJ6_bitCount_0f7a4_43 {d : Nat} {σ : aS} {Q : aQ} {ls : aL} {st : List Value} : aX d iJ6_bitCount_0f7a4 43 (ls) (st) σ Q ↔ aX d iJ6_bitCount_0f7a4 45 (ls) (.int (nI 16) :: st) σ Q := X_bipush kJ6_bitCount_0f7a4_43 (by decide +kernel)
theorem kJ6_bitCount_0f7a4_45 : aCode iJ6_bitCount_0f7a4 45 = some (.iushr, 1) := by decide +kernel
theorem sJ6_bitCount_0f7a4_45 {d : Nat} {σ : aS} {Q : aQ} {x y : Int32} {ls : aL} {st : List Value} : aX d iJ6_bitCount_0f7a4 45 (ls) (.int y :: .int x :: st) σ Q ↔ aX d iJ6_bitCount_0f7a4 46 (ls) (.int ((x.toUInt32 >>> (y.toUInt32 &&& Int32.toUInt32 31)).toInt32) :: st) σ Q := X_iushr kJ6_bitCount_0f7a4_45
theorem kJ6_bitCount_0f7a4_46 : aCode iJ6_bitCount_0f7a4 46 = some (.iadd, 1) := by decide +kernel
theorem sJ6_bitCount_0f7a4_46 {d : Nat} {σ : aS} {Q : aQ} {x y : Int32} {ls : aL} {st : List Value} : aX d iJ6_bitCount_0f7a4 46 (ls) (.int y :: .int x :: st) σ Q ↔ aX d iJ6_bitCount_0f7a4 47 (ls) (.int (x + y) :: st) σ Q := X_iadd kJ6_bitCount_0f7a4_46
theorem kJ6_bitCount_0f7a4_47 : aCode iJ6_bitCount_0f7a4 47 = some (.istore_n 0, 1) := by decide +kernel
theorem sJ6_bitCount_0f7a4_47 {d : Nat} {σ : aS} {Q : aQ} {lo : Option Value} {x : Int32} {lt : aL} {st : List Value} : aX d iJ6_bitCount_0f7a4 47 (lo :: lt) (.int x :: st) σ Q ↔ aX d iJ6_bitCount_0f7a4 48 (some (.int x) :: lt) (st) σ Q := X_istoren kJ6_bitCount_0f7a4_47 (by simp only [List.length_cons]; omega)
theorem kJ6_bitCount_0f7a4_48 : aCode iJ6_bitCount_0f7a4 48 = some (.iload_n 0, 1) := by decide +kernel
theorem sJ6_bitCount_0f7a4_48 {d : Nat} {σ : aS} {Q : aQ} {x : Int32} {lt : aL} {st : List Value} : aX d iJ6_bitCount_0f7a4 48 (some (.int x) :: lt) (st) σ Q ↔ aX d iJ6_bitCount_0f7a4 49 (some (.int x) :: lt) (.int x :: st) σ Q := X_iloadn kJ6_bitCount_0f7a4_48 rfl
theorem kJ6_bitCount_0f7a4_49 : aCode iJ6_bitCount_0f7a4 49 = some (.bipush 63, 2) := by decide +kernel
theorem sJ6_bitCount_0f7a4_49 {d : Nat} {σ : aS} {Q : aQ} {ls : aL} {st : List Value} : aX d iJ6_bitCount_0f7a4 49 (ls) (st) σ Q ↔ aX d iJ6_bitCount_0f7a4 51 (ls) (.int (nI 63) :: st) σ Q := X_bipush kJ6_bitCount_0f7a4_49 (by decide +kernel)
theorem kJ6_bitCount_0f7a4_51 : aCode iJ6_bitCount_0f7a4 51 = some (.iand, 1) := by decide +kernel
theorem sJ6_bitCount_0f7a4_51 {d : Nat} {σ : aS} {Q : aQ} {x y : Int32} {ls : aL} {st : List Value} : aX d iJ6_bitCount_0f7a4 51 (ls) (.int y :: .int x :: st) σ Q ↔ aX d iJ6_bitCount_0f7a4 52 (ls) (.int (x &&& y) :: st) σ Q := X_iand kJ6_bitCount_0f7a4_51
theorem kJ6_bitCount_0f7a4_52 : aCode iJ6_bitCount_0f7a4 52 = some (.ireturn, 1) := by decide +kernel
theorem sJ6_bitCount_0f7a4_52 {d : Nat} {σ : aS} {Q : aQ} {v : Int32} {ls : aL} : aX d iJ6_bitCount_0f7a4 52 (ls) ([.int v]) σ Q ↔ Q (some (.int v)) σ := X_iret kJ6_bitCount_0f7a4_52 (by decide +kernel)
