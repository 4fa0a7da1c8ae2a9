theorem kX5_init_0 : aCode iX5_init 0 = some (.aload_n 0, 1) := by decide +kernel
theorem sX5_init_0 {d : Nat} {σ : aS} {Q : aQ} {x : Nat} {lt : aL} {st : List Value} : aX d iX5_init 0 (some (.ref x) :: lt) (st) σ Q ↔ aX d iX5_init 1 (some (.ref x) :: lt) (.ref x :: st) σ Q := X_aloadn kX5_init_0 rfl rfl
theorem kX5_init_1 : aCode iX5_init 1 = some (.invokespecial 3, 3) := by decide +kernel
theorem sX5_init_1 {d : Nat} {σ : aS} {Q : aQ} {b : Nat} {ls : aL} : aX d iX5_init 1 (ls) (.ref b :: []) σ Q ↔ aX d iX5_init 4 (ls) ([]) σ Q := X_obj (t := 999) (w := 30) kX5_init_1 (by decide +kernel) (by simp only [List.length_cons, List.length_nil]; omega)
theorem kX5_init_4 : aCode iX5_init 4 = some (.aload_n 0, 1) := by decide +kernel
theorem sX5_init_4 {d : Nat} {σ : aS} {Q : aQ} {x : Nat} {lt : aL} {st : List Value} : aX d iX5_init 4 (some (.ref x) :: lt) (st) σ Q ↔ aX d iX5_init 5 (some (.ref x) :: lt) (.ref x :: st) σ Q := X_aloadn kX5_init_4 rfl rfl
theorem kX5_init_5 : aCode iX5_init 5 = some (.bipush 16, 2) := by decide +kernel
theorem sX5_init_5 {d : Nat} {σ : aS} {Q : aQ} {ls : aL} {st : List Value} : aX d iX5_init 5 (ls) (st) σ Q ↔ aX d iX5_init 7 (ls) (.int (nI 16) :: st) σ Q := X_bipush kX5_init_5 (by decide +kernel)
theorem kX5_init_7 : aCode iX5_init 7 = some (.newarray .int, 2) := by decide +kernel
theorem sX5_init_7 {d : Nat} {σ : aS} {Q : aQ} {m : Nat} {ls : aL} {st : List Value} (hm : m ≤ 1000000) : aX d iX5_init 7 (ls) (.int (nI m) :: st) σ Q ↔ aX d iX5_init 9 (ls) (.ref σ.2.1 :: st) (anew σ (eI m (fun _ => 0)) m) Q := X_newa kX5_init_7 hm
theorem kX5_init_9 : aCode iX5_init 9 = some (.putfield 9, 3) := by decide +kernel
theorem sX5_init_9 {d : Nat} {σ : aS} {Q : aQ} {x : Nat} {a : Nat} {ls : aL} {st : List Value} : aX d iX5_init 9 (ls) (.ref x :: .ref a :: st) σ Q ↔ ∃ fs, aFds σ a 5 = some fs ∧ 0 < fs.length ∧ aX d iX5_init 12 (ls) (st) (aput σ a (eO 5 (fs.set 0 (.ref x)))) Q := X_putf (w := 69) kX5_init_9 (by decide +kernel) (aFit_R (by decide +kernel)) (by decide +kernel)
theorem kX5_init_12 : aCode iX5_init 12 = some (.aload_n 0, 1) := by decide +kernel
theorem sX5_init_12 {d : Nat} {σ : aS} {Q : aQ} {x : Nat} {lt : aL} {st : List Value} : aX d iX5_init 12 (some (.ref x) :: lt) (st) σ Q ↔ aX d iX5_init 13 (some (.ref x) :: lt) (.ref x :: st) σ Q := X_aloadn kX5_init_12 rfl rfl
theorem kX5_init_13 : aCode iX5_init 13 = some (.bipush 8, 2) := by decide +kernel
theorem sX5_init_13 {d : Nat} {σ : aS} {Q : aQ} {ls : aL} {st : List Value} : aX d iX5_init 13 (ls) (st) σ Q ↔ aX d iX5_init 15 (ls) (.int (nI 8) :: st) σ Q := X_bipush kX5_init_13 (by decide +kernel)
theorem kX5_init_15 : aCode iX5_init 15 = some (.newarray .int, 2) := by decide +kernel
theorem sX5_init_15 {d : Nat} {σ : aS} {Q : aQ} {m : Nat} {ls : aL} {st : List Value} (hm : m ≤ 1000000) : aX d iX5_init 15 (ls) (.int (nI m) :: st) σ Q ↔ aX d iX5_init 17 (ls) (.ref σ.2.1 :: st) (anew σ (eI m (fun _ => 0)) m) Q := X_newa kX5_init_15 hm
theorem kX5_init_17 : aCode iX5_init 17 = some (.putfield 15, 3) := by decide +kernel
theorem sX5_init_17 {d : Nat} {σ : aS} {Q : aQ} {x : Nat} {a : Nat} {ls : aL} {st : List Value} : aX d iX5_init 17 (ls) (.ref x :: .ref a :: st) σ Q ↔ ∃ fs, aFds σ a 5 = some fs ∧ 1 < fs.length ∧ aX d iX5_init 20 (ls) (st) (aput σ a (eO 5 (fs.set 1 (.ref x)))) Q := X_putf (w := 71) kX5_init_17 (by decide +kernel) (aFit_R (by decide +kernel)) (by decide +kernel)
theorem kX5_init_20 : aCode iX5_init 20 = some (.aload_n 0, 1) := by decide +kernel
theorem sX5_init_20 {d : Nat} {σ : aS} {Q : aQ} {x : Nat} {lt : aL} {st : List Value} : aX d iX5_init 20 (some (.ref x) :: lt) (st) σ Q ↔ aX d iX5_init 21 (some (.ref x) :: lt) (.ref x :: st) σ Q := X_aloadn kX5_init_20 rfl rfl
theorem kX5_init_21 : aCode iX5_init 21 = some (.bipush 8, 2) := by decide +kernel
theorem sX5_init_21 {d : Nat} {σ : aS} {Q : aQ} {ls : aL} {st : List Value} : aX d iX5_init 21 (ls) (st) σ Q ↔ aX d iX5_init 23 (ls) (.int (nI 8) :: st) σ Q := X_bipush kX5_init_21 (by decide +kernel)
theorem kX5_init_23 : aCode iX5_init 23 = some (.newarray .int, 2) := by decide +kernel
theorem sX5_init_23 {d : Nat} {σ : aS} {Q : aQ} {m : Nat} {ls : aL} {st : List Value} (hm : m ≤ 1000000) : aX d iX5_init 23 (ls) (.int (nI m) :: st) σ Q ↔ aX d iX5_init 25 (ls) (.ref σ.2.1 :: st) (anew σ (eI m (fun _ => 0)) m) Q := X_newa kX5_init_23 hm
theorem kX5_init_25 : aCode iX5_init 25 = some (.putfield 18, 3) := by decide +kernel
theorem sX5_init_25 {d : Nat} {σ : aS} {Q : aQ} {x : Nat} {a : Nat} {ls : aL} {st : List Value} : aX d iX5_init 25 (ls) (.ref x :: .ref a :: st) σ Q ↔ ∃ fs, aFds σ a 5 = some fs ∧ 2 < fs.length ∧ aX d iX5_init 28 (ls) (st) (aput σ a (eO 5 (fs.set 2 (.ref x)))) Q := X_putf (w := 73) kX5_init_25 (by decide +kernel) (aFit_R (by decide +kernel)) (by decide +kernel)
theorem kX5_init_28 : aCode iX5_init 28 = some (.aload_n 0, 1) := by decide +kernel
theorem sX5_init_28 {d : Nat} {σ : aS} {Q : aQ} {x : Nat} {lt : aL} {st : List Value} : aX d iX5_init 28 (some (.ref x) :: lt) (st) σ Q ↔ aX d iX5_init 29 (some (.ref x) :: lt) (.ref x :: st) σ Q := X_aloadn kX5_init_28 rfl rfl
theorem kX5_init_29 : aCode iX5_init 29 = some (.bipush 12, 2) := by decide +kernel
theorem sX5_init_29 {d : Nat} {σ : aS} {Q : aQ} {ls : aL} {st : List Value} : aX d iX5_init 29 (ls) (st) σ Q ↔ aX d iX5_init 31 (ls) (.int (nI 12) :: st) σ Q := X_bipush kX5_init_29 (by decide +kernel)
theorem kX5_init_31 : aCode iX5_init 31 = some (.anewarray 21, 3) := by decide +kernel
theorem sX5_init_31 {d : Nat} {σ : aS} {Q : aQ} {m : Nat} {ls : aL} {st : List Value} (hm : m ≤ 1000000) : aX d iX5_init 31 (ls) (.int (nI m) :: st) σ Q ↔ aX d iX5_init 34 (ls) (.ref σ.2.1 :: st) (anew σ (eQ 1 m (fun _ => none)) m) Q := X_anew (ci := 0) (w := (31, 33, 9)) kX5_init_31 (by decide +kernel) hm rfl
theorem kX5_init_34 : aCode iX5_init 34 = some (.putfield 23, 3) := by decide +kernel
theorem sX5_init_34 {d : Nat} {σ : aS} {Q : aQ} {x : Nat} {a : Nat} {ls : aL} {st : List Value} : aX d iX5_init 34 (ls) (.ref x :: .ref a :: st) σ Q ↔ ∃ fs, aFds σ a 5 = some fs ∧ 3 < fs.length ∧ aX d iX5_init 37 (ls) (st) (aput σ a (eO 5 (fs.set 3 (.ref x)))) Q := X_putf (w := 76) kX5_init_34 (by decide +kernel) (aFit_R (by decide +kernel)) (by decide +kernel)
theorem kX5_init_37 : aCode iX5_init 37 = some (.iconst 0, 1) := by decide +kernel
theorem sX5_init_37 {d : Nat} {σ : aS} {Q : aQ} {ls : aL} {st : List Value} : aX d iX5_init 37 (ls) (st) σ Q ↔ aX d iX5_init 38 (ls) (.int (nI 0) :: st) σ Q := X_iconst kX5_init_37 (by decide +kernel)
theorem kX5_init_38 : aCode iX5_init 38 = some (.istore_n 1, 1) := by decide +kernel
theorem sX5_init_38 {d : Nat} {σ : aS} {Q : aQ} {l0 lo : Option Value} {x : Int32} {lt : aL} {st : List Value} : aX d iX5_init 38 (l0 :: lo :: lt) (.int x :: st) σ Q ↔ aX d iX5_init 39 (aclr l0 :: some (.int x) :: lt) (st) σ Q := X_istoren kX5_init_38 (by simp only [List.length_cons]; omega)
theorem kX5_init_39 : aCode iX5_init 39 = some (.iload_n 1, 1) := by decide +kernel
theorem sX5_init_39 {d : Nat} {σ : aS} {Q : aQ} {l0 : Option Value} {x : Int32} {lt : aL} {st : List Value} : aX d iX5_init 39 (l0 :: some (.int x) :: lt) (st) σ Q ↔ aX d iX5_init 40 (l0 :: some (.int x) :: lt) (.int x :: st) σ Q := X_iloadn kX5_init_39 rfl
theorem kX5_init_40 : aCode iX5_init 40 = some (.aload_n 0, 1) := by decide +kernel
theorem sX5_init_40 {d : Nat} {σ : aS} {Q : aQ} {x : Nat} {lt : aL} {st : List Value} : aX d iX5_init 40 (some (.ref x) :: lt) (st) σ Q ↔ aX d iX5_init 41 (some (.ref x) :: lt) (.ref x :: st) σ Q := X_aloadn kX5_init_40 rfl rfl
theorem kX5_init_41 : aCode iX5_init 41 = some (.getfield 9, 3) := by decide +kernel
theorem sX5_init_41 {d : Nat} {σ : aS} {Q : aQ} {a : Nat} {ls : aL} {st : List Value} : aX d iX5_init 41 (ls) (.ref a :: st) σ Q ↔ ∃ v, aFld σ a 5 0 = some v ∧ aX d iX5_init 44 (ls) (v :: st) σ Q := X_getf (w := 69) kX5_init_41 (by decide +kernel)
theorem kX5_init_44 : aCode iX5_init 44 = some (.arraylength, 1) := by decide +kernel
theorem sX5_init_44 {d : Nat} {σ : aS} {Q : aQ} {a : Nat} {ls : aL} {st : List Value} : aX d iX5_init 44 (ls) (.ref a :: st) σ Q ↔ ∃ m, aLn σ a = some m ∧ aX d iX5_init 45 (ls) (.int (nI m) :: st) σ Q := X_alen kX5_init_44
theorem kX5_init_45 : aCode iX5_init 45 = some (.if_icmp .ge 32, 3) := by decide +kernel
theorem sX5_init_45 {d : Nat} {σ : aS} {Q : aQ} {x y : Int32} {ls : aL} {st : List Value} : aX d iX5_init 45 (ls) (.int y :: .int x :: st) σ Q ↔ (if y ≤ x then aX d iX5_init 77 (ls) (st) σ Q else aX d iX5_init 48 (ls) (st) σ Q) := by rw [X_icmp kX5_init_45 (t := 77) (by decide)]; simp only [aCmp_ge]
theorem kX5_init_48 : aCode iX5_init 48 = some (.aload_n 0, 1) := by decide +kernel
theorem sX5_init_48 {d : Nat} {σ : aS} {Q : aQ} {x : Nat} {lt : aL} {st : List Value} : aX d iX5_init 48 (some (.ref x) :: lt) (st) σ Q ↔ aX d iX5_init 49 (some (.ref x) :: lt) (.ref x :: st) σ Q := X_aloadn kX5_init_48 rfl rfl
theorem kX5_init_49 : aCode iX5_init 49 = some (.getfield 9, 3) := by decide +kernel
theorem sX5_init_49 {d : Nat} {σ : aS} {Q : aQ} {a : Nat} {ls : aL} {st : List Value} : aX d iX5_init 49 (ls) (.ref a :: st) σ Q ↔ ∃ v, aFld σ a 5 0 = some v ∧ aX d iX5_init 52 (ls) (v :: st) σ Q := X_getf (w := 69) kX5_init_49 (by decide +kernel)
theorem kX5_init_52 : aCode iX5_init 52 = some (.iload_n 1, 1) := by decide +kernel
theorem sX5_init_52 {d : Nat} {σ : aS} {Q : aQ} {l0 : Option Value} {x : Int32} {lt : aL} {st : List Value} : aX d iX5_init 52 (l0 :: some (.int x) :: lt) (st) σ Q ↔ aX d iX5_init 53 (l0 :: some (.int x) :: lt) (.int x :: st) σ Q := X_iloadn kX5_init_52 rfl
theorem kX5_init_53 : aCode iX5_init 53 = some (.iload_n 1, 1) := by decide +kernel
theorem sX5_init_53 {d : Nat} {σ : aS} {Q : aQ} {l0 : Option Value} {x : Int32} {lt : aL} {st : List Value} : aX d iX5_init 53 (l0 :: some (.int x) :: lt) (st) σ Q ↔ aX d iX5_init 54 (l0 :: some (.int x) :: lt) (.int x :: st) σ Q := X_iloadn kX5_init_53 rfl
theorem kX5_init_54 : aCode iX5_init 54 = some (.iload_n 1, 1) := by decide +kernel
theorem sX5_init_54 {d : Nat} {σ : aS} {Q : aQ} {l0 : Option Value} {x : Int32} {lt : aL} {st : List Value} : aX d iX5_init 54 (l0 :: some (.int x) :: lt) (st) σ Q ↔ aX d iX5_init 55 (l0 :: some (.int x) :: lt) (.int x :: st) σ Q := X_iloadn kX5_init_54 rfl
theorem kX5_init_55 : aCode iX5_init 55 = some (.imul, 1) := by decide +kernel
theorem sX5_init_55 {d : Nat} {σ : aS} {Q : aQ} {x y : Int32} {ls : aL} {st : List Value} : aX d iX5_init 55 (ls) (.int y :: .int x :: st) σ Q ↔ aX d iX5_init 56 (ls) (.int (x * y) :: st) σ Q := X_imul kX5_init_55
theorem kX5_init_56 : aCode iX5_init 56 = some (.bipush 37, 2) := by decide +kernel
theorem sX5_init_56 {d : Nat} {σ : aS} {Q : aQ} {ls : aL} {st : List Value} : aX d iX5_init 56 (ls) (st) σ Q ↔ aX d iX5_init 58 (ls) (.int (nI 37) :: st) σ Q := X_bipush kX5_init_56 (by decide +kernel)
theorem kX5_init_58 : aCode iX5_init 58 = some (.imul, 1) := by decide +kernel
theorem sX5_init_58 {d : Nat} {σ : aS} {Q : aQ} {x y : Int32} {ls : aL} {st : List Value} : aX d iX5_init 58 (ls) (.int y :: .int x :: st) σ Q ↔ aX d iX5_init 59 (ls) (.int (x * y) :: st) σ Q := X_imul kX5_init_58
theorem kX5_init_59 : aCode iX5_init 59 = some (.iload_n 1, 1) := by decide +kernel
theorem sX5_init_59 {d : Nat} {σ : aS} {Q : aQ} {l0 : Option Value} {x : Int32} {lt : aL} {st : List Value} : aX d iX5_init 59 (l0 :: some (.int x) :: lt) (st) σ Q ↔ aX d iX5_init 60 (l0 :: some (.int x) :: lt) (.int x :: st) σ Q := X_iloadn kX5_init_59 rfl
theorem kX5_init_60 : aCode iX5_init 60 = some (.bipush 113, 2) := by decide +kernel
theorem sX5_init_60 {d : Nat} {σ : aS} {Q : aQ} {ls : aL} {st : List Value} : aX d iX5_init 60 (ls) (st) σ Q ↔ aX d iX5_init 62 (ls) (.int (nI 113) :: st) σ Q := X_bipush kX5_init_60 (by decide +kernel)
theorem kX5_init_62 : aCode iX5_init 62 = some (.imul, 1) := by decide +kernel
theorem sX5_init_62 {d : Nat} {σ : aS} {Q : aQ} {x y : Int32} {ls : aL} {st : List Value} : aX d iX5_init 62 (ls) (.int y :: .int x :: st) σ Q ↔ aX d iX5_init 63 (ls) (.int (x * y) :: st) σ Q := X_imul kX5_init_62
theorem kX5_init_63 : aCode iX5_init 63 = some (.iadd, 1) := by decide +kernel
theorem sX5_init_63 {d : Nat} {σ : aS} {Q : aQ} {x y : Int32} {ls : aL} {st : List Value} : aX d iX5_init 63 (ls) (.int y :: .int x :: st) σ Q ↔ aX d iX5_init 64 (ls) (.int (x + y) :: st) σ Q := X_iadd kX5_init_63
theorem kX5_init_64 : aCode iX5_init 64 = some (.iconst 5, 1) := by decide +kernel
theorem sX5_init_64 {d : Nat} {σ : aS} {Q : aQ} {ls : aL} {st : List Value} : aX d iX5_init 64 (ls) (st) σ Q ↔ aX d iX5_init 65 (ls) (.int (nI 5) :: st) σ Q := X_iconst kX5_init_64 (by decide +kernel)
theorem kX5_init_65 : aCode iX5_init 65 = some (.iadd, 1) := by decide +kernel
theorem sX5_init_65 {d : Nat} {σ : aS} {Q : aQ} {x y : Int32} {ls : aL} {st : List Value} : aX d iX5_init 65 (ls) (.int y :: .int x :: st) σ Q ↔ aX d iX5_init 66 (ls) (.int (x + y) :: st) σ Q := X_iadd kX5_init_65
theorem kX5_init_66 : aCode iX5_init 66 = some (.sipush 4096, 3) := by decide +kernel
theorem sX5_init_66 {d : Nat} {σ : aS} {Q : aQ} {ls : aL} {st : List Value} : aX d iX5_init 66 (ls) (st) σ Q ↔ aX d iX5_init 69 (ls) (.int (nI 4096) :: st) σ Q := X_sipush kX5_init_66 (by decide +kernel)
theorem kX5_init_69 : aCode iX5_init 69 = some (.irem, 1) := by decide +kernel
theorem sX5_init_69 {d : Nat} {σ : aS} {Q : aQ} {x y : Int32} {ls : aL} {st : List Value} : aX d iX5_init 69 (ls) (.int y :: .int x :: st) σ Q ↔ ¬ y = nI 0 ∧ aX d iX5_init 70 (ls) (.int (x - x / y * y) :: st) σ Q := X_irem kX5_init_69
theorem kX5_init_70 : aCode iX5_init 70 = some (.iastore, 1) := by decide +kernel
theorem sX5_init_70 {d : Nat} {σ : aS} {Q : aQ} {a : Nat} {i v : Int32} {ls : aL} {st : List Value} : aX d iX5_init 70 (ls) (.int v :: .int i :: .ref a :: st) σ Q ↔ ∃ x, aRow σ a = some x ∧ vp_in i x.1 ∧ aX d iX5_init 71 (ls) (st) (aput σ a (eI x.1 (upd x.2 i.toNatClampNeg v))) Q := X_iastore kX5_init_70
theorem kX5_init_71 : aCode iX5_init 71 = some (.iinc 1 1, 3) := by decide +kernel
theorem sX5_init_71 {d : Nat} {σ : aS} {Q : aQ} {l0 : Option Value} {x : Int32} {lt : aL} {st : List Value} : aX d iX5_init 71 (l0 :: some (.int x) :: lt) (st) σ Q ↔ aX d iX5_init 74 (aclr l0 :: some (.int (x + nI 1)) :: lt) (st) σ Q := X_iinc kX5_init_71 rfl (by decide +kernel)
theorem kX5_init_74 : aCode iX5_init 74 = some (.goto (-35), 3) := by decide +kernel
theorem sX5_init_74 {d : Nat} {σ : aS} {Q : aQ} {ls : aL} {st : List Value} : aX d iX5_init 74 (ls) (st) σ Q ↔ aX d iX5_init 39 (ls) (st) σ Q := X_goto kX5_init_74 (by decide)
theorem kX5_init_77 : aCode iX5_init 77 = some (.iconst 0, 1) := by decide +kernel
theorem sX5_init_77 {d : Nat} {σ : aS} {Q : aQ} {ls : aL} {st : List Value} : aX d iX5_init 77 (ls) (st) σ Q ↔ aX d iX5_init 78 (ls) (.int (nI 0) :: st) σ Q := X_iconst kX5_init_77 (by decide +kernel)
theorem kX5_init_78 : aCode iX5_init 78 = some (.istore_n 1, 1) := by decide +kernel
theorem sX5_init_78 {d : Nat} {σ : aS} {Q : aQ} {l0 lo : Option Value} {x : Int32} {lt : aL} {st : List Value} : aX d iX5_init 78 (l0 :: lo :: lt) (.int x :: st) σ Q ↔ aX d iX5_init 79 (aclr l0 :: some (.int x) :: lt) (st) σ Q := X_istoren kX5_init_78 (by simp only [List.length_cons]; omega)
theorem kX5_init_79 : aCode iX5_init 79 = some (.iload_n 1, 1) := by decide +kernel
theorem sX5_init_79 {d : Nat} {σ : aS} {Q : aQ} {l0 : Option Value} {x : Int32} {lt : aL} {st : List Value} : aX d iX5_init 79 (l0 :: some (.int x) :: lt) (st) σ Q ↔ aX d iX5_init 80 (l0 :: some (.int x) :: lt) (.int x :: st) σ Q := X_iloadn kX5_init_79 rfl
theorem kX5_init_80 : aCode iX5_init 80 = some (.aload_n 0, 1) := by decide +kernel
theorem sX5_init_80 {d : Nat} {σ : aS} {Q : aQ} {x : Nat} {lt : aL} {st : List Value} : aX d iX5_init 80 (some (.ref x) :: lt) (st) σ Q ↔ aX d iX5_init 81 (some (.ref x) :: lt) (.ref x :: st) σ Q := X_aloadn kX5_init_80 rfl rfl
theorem kX5_init_81 : aCode iX5_init 81 = some (.getfield 15, 3) := by decide +kernel
theorem sX5_init_81 {d : Nat} {σ : aS} {Q : aQ} {a : Nat} {ls : aL} {st : List Value} : aX d iX5_init 81 (ls) (.ref a :: st) σ Q ↔ ∃ v, aFld σ a 5 1 = some v ∧ aX d iX5_init 84 (ls) (v :: st) σ Q := X_getf (w := 71) kX5_init_81 (by decide +kernel)
theorem kX5_init_84 : aCode iX5_init 84 = some (.arraylength, 1) := by decide +kernel
theorem sX5_init_84 {d : Nat} {σ : aS} {Q : aQ} {a : Nat} {ls : aL} {st : List Value} : aX d iX5_init 84 (ls) (.ref a :: st) σ Q ↔ ∃ m, aLn σ a = some m ∧ aX d iX5_init 85 (ls) (.int (nI m) :: st) σ Q := X_alen kX5_init_84
theorem kX5_init_85 : aCode iX5_init 85 = some (.if_icmp .ge 18, 3) := by decide +kernel
theorem sX5_init_85 {d : Nat} {σ : aS} {Q : aQ} {x y : Int32} {ls : aL} {st : List Value} : aX d iX5_init 85 (ls) (.int y :: .int x :: st) σ Q ↔ (if y ≤ x then aX d iX5_init 103 (ls) (st) σ Q else aX d iX5_init 88 (ls) (st) σ Q) := by rw [X_icmp kX5_init_85 (t := 103) (by decide)]; simp only [aCmp_ge]
theorem kX5_init_88 : aCode iX5_init 88 = some (.aload_n 0, 1) := by decide +kernel
theorem sX5_init_88 {d : Nat} {σ : aS} {Q : aQ} {x : Nat} {lt : aL} {st : List Value} : aX d iX5_init 88 (some (.ref x) :: lt) (st) σ Q ↔ aX d iX5_init 89 (some (.ref x) :: lt) (.ref x :: st) σ Q := X_aloadn kX5_init_88 rfl rfl
theorem kX5_init_89 : aCode iX5_init 89 = some (.getfield 15, 3) := by decide +kernel
theorem sX5_init_89 {d : Nat} {σ : aS} {Q : aQ} {a : Nat} {ls : aL} {st : List Value} : aX d iX5_init 89 (ls) (.ref a :: st) σ Q ↔ ∃ v, aFld σ a 5 1 = some v ∧ aX d iX5_init 92 (ls) (v :: st) σ Q := X_getf (w := 71) kX5_init_89 (by decide +kernel)
theorem kX5_init_92 : aCode iX5_init 92 = some (.iload_n 1, 1) := by decide +kernel
theorem sX5_init_92 {d : Nat} {σ : aS} {Q : aQ} {l0 : Option Value} {x : Int32} {lt : aL} {st : List Value} : aX d iX5_init 92 (l0 :: some (.int x) :: lt) (st) σ Q ↔ aX d iX5_init 93 (l0 :: some (.int x) :: lt) (.int x :: st) σ Q := X_iloadn kX5_init_92 rfl
theorem kX5_init_93 : aCode iX5_init 93 = some (.sipush 4095, 3) := by decide +kernel
theorem sX5_init_93 {d : Nat} {σ : aS} {Q : aQ} {ls : aL} {st : List Value} : aX d iX5_init 93 (ls) (st) σ Q ↔ aX d iX5_init 96 (ls) (.int (nI 4095) :: st) σ Q := X_sipush kX5_init_93 (by decide +kernel)
theorem kX5_init_96 : aCode iX5_init 96 = some (.iastore, 1) := by decide +kernel
theorem sX5_init_96 {d : Nat} {σ : aS} {Q : aQ} {a : Nat} {i v : Int32} {ls : aL} {st : List Value} : aX d iX5_init 96 (ls) (.int v :: .int i :: .ref a :: st) σ Q ↔ ∃ x, aRow σ a = some x ∧ vp_in i x.1 ∧ aX d iX5_init 97 (ls) (st) (aput σ a (eI x.1 (upd x.2 i.toNatClampNeg v))) Q := X_iastore kX5_init_96
theorem kX5_init_97 : aCode iX5_init 97 = some (.iinc 1 1, 3) := by decide +kernel
theorem sX5_init_97 {d : Nat} {σ : aS} {Q : aQ} {l0 : Option Value} {x : Int32} {lt : aL} {st : List Value} : aX d iX5_init 97 (l0 :: some (.int x) :: lt) (st) σ Q ↔ aX d iX5_init 100 (aclr l0 :: some (.int (x + nI 1)) :: lt) (st) σ Q := X_iinc kX5_init_97 rfl (by decide +kernel)
theorem kX5_init_100 : aCode iX5_init 100 = some (.goto (-21), 3) := by decide +kernel
theorem sX5_init_100 {d : Nat} {σ : aS} {Q : aQ} {ls : aL} {st : List Value} : aX d iX5_init 100 (ls) (st) σ Q ↔ aX d iX5_init 79 (ls) (st) σ Q := X_goto kX5_init_100 (by decide)
theorem kX5_init_103 : aCode iX5_init 103 = some (.iconst 0, 1) := by decide +kernel
theorem sX5_init_103 {d : Nat} {σ : aS} {Q : aQ} {ls : aL} {st : List Value} : aX d iX5_init 103 (ls) (st) σ Q ↔ aX d iX5_init 104 (ls) (.int (nI 0) :: st) σ Q := X_iconst kX5_init_103 (by decide +kernel)
theorem kX5_init_104 : aCode iX5_init 104 = some (.istore_n 1, 1) := by decide +kernel
theorem sX5_init_104 {d : Nat} {σ : aS} {Q : aQ} {l0 lo : Option Value} {x : Int32} {lt : aL} {st : List Value} : aX d iX5_init 104 (l0 :: lo :: lt) (.int x :: st) σ Q ↔ aX d iX5_init 105 (aclr l0 :: some (.int x) :: lt) (st) σ Q := X_istoren kX5_init_104 (by simp only [List.length_cons]; omega)
theorem kX5_init_105 : aCode iX5_init 105 = some (.iload_n 1, 1) := by decide +kernel
theorem sX5_init_105 {d : Nat} {σ : aS} {Q : aQ} {l0 : Option Value} {x : Int32} {lt : aL} {st : List Value} : aX d iX5_init 105 (l0 :: some (.int x) :: lt) (st) σ Q ↔ aX d iX5_init 106 (l0 :: some (.int x) :: lt) (.int x :: st) σ Q := X_iloadn kX5_init_105 rfl
theorem kX5_init_106 : aCode iX5_init 106 = some (.aload_n 0, 1) := by decide +kernel
theorem sX5_init_106 {d : Nat} {σ : aS} {Q : aQ} {x : Nat} {lt : aL} {st : List Value} : aX d iX5_init 106 (some (.ref x) :: lt) (st) σ Q ↔ aX d iX5_init 107 (some (.ref x) :: lt) (.ref x :: st) σ Q := X_aloadn kX5_init_106 rfl rfl
theorem kX5_init_107 : aCode iX5_init 107 = some (.getfield 23, 3) := by decide +kernel
theorem sX5_init_107 {d : Nat} {σ : aS} {Q : aQ} {a : Nat} {ls : aL} {st : List Value} : aX d iX5_init 107 (ls) (.ref a :: st) σ Q ↔ ∃ v, aFld σ a 5 3 = some v ∧ aX d iX5_init 110 (ls) (v :: st) σ Q := X_getf (w := 76) kX5_init_107 (by decide +kernel)
theorem kX5_init_110 : aCode iX5_init 110 = some (.arraylength, 1) := by decide +kernel
theorem sX5_init_110 {d : Nat} {σ : aS} {Q : aQ} {a : Nat} {ls : aL} {st : List Value} : aX d iX5_init 110 (ls) (.ref a :: st) σ Q ↔ ∃ m, aLn σ a = some m ∧ aX d iX5_init 111 (ls) (.int (nI m) :: st) σ Q := X_alen kX5_init_110
theorem kX5_init_111 : aCode iX5_init 111 = some (.if_icmp .ge 22, 3) := by decide +kernel
theorem sX5_init_111 {d : Nat} {σ : aS} {Q : aQ} {x y : Int32} {ls : aL} {st : List Value} : aX d iX5_init 111 (ls) (.int y :: .int x :: st) σ Q ↔ (if y ≤ x then aX d iX5_init 133 (ls) (st) σ Q else aX d iX5_init 114 (ls) (st) σ Q) := by rw [X_icmp kX5_init_111 (t := 133) (by decide)]; simp only [aCmp_ge]
theorem kX5_init_114 : aCode iX5_init 114 = some (.aload_n 0, 1) := by decide +kernel
theorem sX5_init_114 {d : Nat} {σ : aS} {Q : aQ} {x : Nat} {lt : aL} {st : List Value} : aX d iX5_init 114 (some (.ref x) :: lt) (st) σ Q ↔ aX d iX5_init 115 (some (.ref x) :: lt) (.ref x :: st) σ Q := X_aloadn kX5_init_114 rfl rfl
theorem kX5_init_115 : aCode iX5_init 115 = some (.getfield 23, 3) := by decide +kernel
theorem sX5_init_115 {d : Nat} {σ : aS} {Q : aQ} {a : Nat} {ls : aL} {st : List Value} : aX d iX5_init 115 (ls) (.ref a :: st) σ Q ↔ ∃ v, aFld σ a 5 3 = some v ∧ aX d iX5_init 118 (ls) (v :: st) σ Q := X_getf (w := 76) kX5_init_115 (by decide +kernel)
theorem kX5_init_118 : aCode iX5_init 118 = some (.iload_n 1, 1) := by decide +kernel
theorem sX5_init_118 {d : Nat} {σ : aS} {Q : aQ} {l0 : Option Value} {x : Int32} {lt : aL} {st : List Value} : aX d iX5_init 118 (l0 :: some (.int x) :: lt) (st) σ Q ↔ aX d iX5_init 119 (l0 :: some (.int x) :: lt) (.int x :: st) σ Q := X_iloadn kX5_init_118 rfl
theorem kX5_init_119 : aCode iX5_init 119 = some (.new 21, 3) := by decide +kernel
theorem sX5_init_119 {d : Nat} {σ : aS} {Q : aQ} {ls : aL} {st : List Value} : aX d iX5_init 119 (ls) (st) σ Q ↔ aX d iX5_init 122 (ls) (.ref σ.2.1 :: st) (anew σ (eO 0 [.null, .null, .int 0, .int 0, .int 0, .int 0, .int 0]) 7) Q := X_new (w := (31, 33, 9)) kX5_init_119 (by decide +kernel) (by decide +kernel) (by decide +kernel)
theorem kX5_init_122 : aCode iX5_init 122 = some (.dup, 1) := by decide +kernel
theorem sX5_init_122 {d : Nat} {σ : aS} {Q : aQ} {x : Nat} {ls : aL} {st : List Value} : aX d iX5_init 122 (ls) (.ref x :: st) σ Q ↔ aX d iX5_init 123 (ls) (.ref x :: .ref x :: st) σ Q := X_dup kX5_init_122 rfl
theorem sX5_init_122i {d : Nat} {σ : aS} {Q : aQ} {x : Int32} {ls : aL} {st : List Value} : aX d iX5_init 122 (ls) (.int x :: st) σ Q ↔ aX d iX5_init 123 (ls) (.int x :: .int x :: st) σ Q := X_dup kX5_init_122 rfl
theorem kX5_init_123 : aCode iX5_init 123 = some (.invokespecial 27, 3) := by decide +kernel
theorem sX5_init_123 {d : Nat} {σ : aS} {Q : aQ} {b : Nat} {v0 v1 v2 : Value} {ls : aL} : aX (d + 1) iX5_init 123 (ls) (.ref b :: v0 :: v1 :: v2 :: []) σ Q ↔ aIs σ b 0 ∧ aX d iX0_init 0 [some (.ref b)] [] σ (fun r τ => aX (d + 1) iX5_init 126 (ls) (aret r (v0 :: v1 :: v2 :: [])) τ Q) := X_invi (N := 0) (As := []) (k := 3) (w := 34) kX5_init_123 (by decide +kernel) (by decide) (by decide +kernel) rfl rfl (by simp only [List.length_cons, List.length_nil]; omega) (by simp only [List.length_cons, List.length_nil]; omega) (by decide +kernel) rfl (Nat.le_of_ble_eq_true rfl)
theorem kX5_init_126 : aCode iX5_init 126 = some (.aastore, 1) := by decide +kernel
theorem sX5_init_126 {d : Nat} {σ : aS} {Q : aQ} {a v : Nat} {i : Int32} {j m ci : Nat} {f : Nat → Option Nat} {fs : List Value} {ls : aL} {st : List Value} (ha : σ.1 a = some (eQ j m f)) (hv : σ.1 v = some (eO ci fs)) (hi : vp_in i m) (hj : aQj ci = j ∧ aQc j = ci) : aX d iX5_init 126 (ls) (.ref v :: .int i :: .ref a :: st) σ Q ↔ aX d iX5_init 127 (ls) (st) (aput σ a (eQ j m (va_up f i.toNatClampNeg (some v)))) Q := X_aastore kX5_init_126 ha hv hi hj
theorem kX5_init_127 : aCode iX5_init 127 = some (.iinc 1 1, 3) := by decide +kernel
theorem sX5_init_127 {d : Nat} {σ : aS} {Q : aQ} {l0 : Option Value} {x : Int32} {lt : aL} {st : List Value} : aX d iX5_init 127 (l0 :: some (.int x) :: lt) (st) σ Q ↔ aX d iX5_init 130 (aclr l0 :: some (.int (x + nI 1)) :: lt) (st) σ Q := X_iinc kX5_init_127 rfl (by decide +kernel)
theorem kX5_init_130 : aCode iX5_init 130 = some (.goto (-25), 3) := by decide +kernel
theorem sX5_init_130 {d : Nat} {σ : aS} {Q : aQ} {ls : aL} {st : List Value} : aX d iX5_init 130 (ls) (st) σ Q ↔ aX d iX5_init 105 (ls) (st) σ Q := X_goto kX5_init_130 (by decide)
theorem kX5_init_133 : aCode iX5_init 133 = some (.return_, 1) := by decide +kernel
theorem sX5_init_133 {d : Nat} {σ : aS} {Q : aQ} {ls : aL} : aX d iX5_init 133 (ls) ([]) σ Q ↔ Q none σ := X_vret kX5_init_133 (by decide +kernel)
theorem kX5_copyFrom_0 : aCode iX5_copyFrom 0 = some (.aload_n 1, 1) := by decide +kernel
theorem sX5_copyFrom_0 {d : Nat} {σ : aS} {Q : aQ} {l0 : Option Value} {x : Nat} {lt : aL} {st : List Value} : aX d iX5_copyFrom 0 (l0 :: some (.ref x) :: lt) (st) σ Q ↔ aX d iX5_copyFrom 1 (l0 :: some (.ref x) :: lt) (.ref x :: st) σ Q := X_aloadn kX5_copyFrom_0 rfl rfl
theorem sX5_copyFrom_0n {d : Nat} {σ : aS} {Q : aQ} {l0 : Option Value} {lt : aL} {st : List Value} : aX d iX5_copyFrom 0 (l0 :: some .null :: lt) (st) σ Q ↔ aX d iX5_copyFrom 1 (l0 :: some .null :: lt) (.null :: st) σ Q := X_aloadn kX5_copyFrom_0 rfl rfl
theorem kX5_copyFrom_1 : aCode iX5_copyFrom 1 = some (.getfield 9, 3) := by decide +kernel
theorem sX5_copyFrom_1 {d : Nat} {σ : aS} {Q : aQ} {a : Nat} {ls : aL} {st : List Value} : aX d iX5_copyFrom 1 (ls) (.ref a :: st) σ Q ↔ ∃ v, aFld σ a 5 0 = some v ∧ aX d iX5_copyFrom 4 (ls) (v :: st) σ Q := X_getf (w := 69) kX5_copyFrom_1 (by decide +kernel)
theorem kX5_copyFrom_4 : aCode iX5_copyFrom 4 = some (.aload_n 0, 1) := by decide +kernel
theorem sX5_copyFrom_4 {d : Nat} {σ : aS} {Q : aQ} {x : Nat} {lt : aL} {st : List Value} : aX d iX5_copyFrom 4 (some (.ref x) :: lt) (st) σ Q ↔ aX d iX5_copyFrom 5 (some (.ref x) :: lt) (.ref x :: st) σ Q := X_aloadn kX5_copyFrom_4 rfl rfl
theorem kX5_copyFrom_5 : aCode iX5_copyFrom 5 = some (.getfield 9, 3) := by decide +kernel
theorem sX5_copyFrom_5 {d : Nat} {σ : aS} {Q : aQ} {a : Nat} {ls : aL} {st : List Value} : aX d iX5_copyFrom 5 (ls) (.ref a :: st) σ Q ↔ ∃ v, aFld σ a 5 0 = some v ∧ aX d iX5_copyFrom 8 (ls) (v :: st) σ Q := X_getf (w := 69) kX5_copyFrom_5 (by decide +kernel)
theorem kX5_copyFrom_8 : aCode iX5_copyFrom 8 = some (.invokestatic 28, 3) := by decide +kernel
theorem sX5_copyFrom_8 {d : Nat} {σ : aS} {Q : aQ} {p0 : Nat} {p1 : Nat} {ls : aL} : aX (d + 1) iX5_copyFrom 8 (ls) (.ref p1 :: .ref p0 :: []) σ Q ↔ aX d iX6_copyRow 0 [some (.ref p0), some (.ref p1)] [] σ (fun r τ => aX (d + 1) iX5_copyFrom 11 (ls) (aret r ([])) τ Q) := X_invs (N := 2) (As := [.ref p1, .ref p0]) (k := 4) (w := 208) kX5_copyFrom_8 (by decide +kernel) (by decide) (by decide +kernel) rfl rfl (by simp only [List.length_cons, List.length_nil]; omega) (by simp only [List.length_cons, List.length_nil]; omega) rfl (Nat.le_of_ble_eq_true rfl)
theorem kX5_copyFrom_11 : aCode iX5_copyFrom 11 = some (.aload_n 1, 1) := by decide +kernel
theorem sX5_copyFrom_11 {d : Nat} {σ : aS} {Q : aQ} {l0 : Option Value} {x : Nat} {lt : aL} {st : List Value} : aX d iX5_copyFrom 11 (l0 :: some (.ref x) :: lt) (st) σ Q ↔ aX d iX5_copyFrom 12 (l0 :: some (.ref x) :: lt) (.ref x :: st) σ Q := X_aloadn kX5_copyFrom_11 rfl rfl
theorem sX5_copyFrom_11n {d : Nat} {σ : aS} {Q : aQ} {l0 : Option Value} {lt : aL} {st : List Value} : aX d iX5_copyFrom 11 (l0 :: some .null :: lt) (st) σ Q ↔ aX d iX5_copyFrom 12 (l0 :: some .null :: lt) (.null :: st) σ Q := X_aloadn kX5_copyFrom_11 rfl rfl
theorem kX5_copyFrom_12 : aCode iX5_copyFrom 12 = some (.getfield 15, 3) := by decide +kernel
theorem sX5_copyFrom_12 {d : Nat} {σ : aS} {Q : aQ} {a : Nat} {ls : aL} {st : List Value} : aX d iX5_copyFrom 12 (ls) (.ref a :: st) σ Q ↔ ∃ v, aFld σ a 5 1 = some v ∧ aX d iX5_copyFrom 15 (ls) (v :: st) σ Q := X_getf (w := 71) kX5_copyFrom_12 (by decide +kernel)
theorem kX5_copyFrom_15 : aCode iX5_copyFrom 15 = some (.aload_n 0, 1) := by decide +kernel
theorem sX5_copyFrom_15 {d : Nat} {σ : aS} {Q : aQ} {x : Nat} {lt : aL} {st : List Value} : aX d iX5_copyFrom 15 (some (.ref x) :: lt) (st) σ Q ↔ aX d iX5_copyFrom 16 (some (.ref x) :: lt) (.ref x :: st) σ Q := X_aloadn kX5_copyFrom_15 rfl rfl
theorem kX5_copyFrom_16 : aCode iX5_copyFrom 16 = some (.getfield 15, 3) := by decide +kernel
theorem sX5_copyFrom_16 {d : Nat} {σ : aS} {Q : aQ} {a : Nat} {ls : aL} {st : List Value} : aX d iX5_copyFrom 16 (ls) (.ref a :: st) σ Q ↔ ∃ v, aFld σ a 5 1 = some v ∧ aX d iX5_copyFrom 19 (ls) (v :: st) σ Q := X_getf (w := 71) kX5_copyFrom_16 (by decide +kernel)
theorem kX5_copyFrom_19 : aCode iX5_copyFrom 19 = some (.invokestatic 28, 3) := by decide +kernel
theorem sX5_copyFrom_19 {d : Nat} {σ : aS} {Q : aQ} {p0 : Nat} {p1 : Nat} {ls : aL} : aX (d + 1) iX5_copyFrom 19 (ls) (.ref p1 :: .ref p0 :: []) σ Q ↔ aX d iX6_copyRow 0 [some (.ref p0), some (.ref p1)] [] σ (fun r τ => aX (d + 1) iX5_copyFrom 22 (ls) (aret r ([])) τ Q) := X_invs (N := 2) (As := [.ref p1, .ref p0]) (k := 4) (w := 208) kX5_copyFrom_19 (by decide +kernel) (by decide) (by decide +kernel) rfl rfl (by simp only [List.length_cons, List.length_nil]; omega) (by simp only [List.length_cons, List.length_nil]; omega) rfl (Nat.le_of_ble_eq_true rfl)
theorem kX5_copyFrom_22 : aCode iX5_copyFrom 22 = some (.aload_n 1, 1) := by decide +kernel
theorem sX5_copyFrom_22 {d : Nat} {σ : aS} {Q : aQ} {l0 : Option Value} {x : Nat} {lt : aL} {st : List Value} : aX d iX5_copyFrom 22 (l0 :: some (.ref x) :: lt) (st) σ Q ↔ aX d iX5_copyFrom 23 (l0 :: some (.ref x) :: lt) (.ref x :: st) σ Q := X_aloadn kX5_copyFrom_22 rfl rfl
theorem sX5_copyFrom_22n {d : Nat} {σ : aS} {Q : aQ} {l0 : Option Value} {lt : aL} {st : List Value} : aX d iX5_copyFrom 22 (l0 :: some .null :: lt) (st) σ Q ↔ aX d iX5_copyFrom 23 (l0 :: some .null :: lt) (.null :: st) σ Q := X_aloadn kX5_copyFrom_22 rfl rfl
theorem kX5_copyFrom_23 : aCode iX5_copyFrom 23 = some (.getfield 18, 3) := by decide +kernel
theorem sX5_copyFrom_23 {d : Nat} {σ : aS} {Q : aQ} {a : Nat} {ls : aL} {st : List Value} : aX d iX5_copyFrom 23 (ls) (.ref a :: st) σ Q ↔ ∃ v, aFld σ a 5 2 = some v ∧ aX d iX5_copyFrom 26 (ls) (v :: st) σ Q := X_getf (w := 73) kX5_copyFrom_23 (by decide +kernel)
theorem kX5_copyFrom_26 : aCode iX5_copyFrom 26 = some (.aload_n 0, 1) := by decide +kernel
theorem sX5_copyFrom_26 {d : Nat} {σ : aS} {Q : aQ} {x : Nat} {lt : aL} {st : List Value} : aX d iX5_copyFrom 26 (some (.ref x) :: lt) (st) σ Q ↔ aX d iX5_copyFrom 27 (some (.ref x) :: lt) (.ref x :: st) σ Q := X_aloadn kX5_copyFrom_26 rfl rfl
theorem kX5_copyFrom_27 : aCode iX5_copyFrom 27 = some (.getfield 18, 3) := by decide +kernel
theorem sX5_copyFrom_27 {d : Nat} {σ : aS} {Q : aQ} {a : Nat} {ls : aL} {st : List Value} : aX d iX5_copyFrom 27 (ls) (.ref a :: st) σ Q ↔ ∃ v, aFld σ a 5 2 = some v ∧ aX d iX5_copyFrom 30 (ls) (v :: st) σ Q := X_getf (w := 73) kX5_copyFrom_27 (by decide +kernel)
theorem kX5_copyFrom_30 : aCode iX5_copyFrom 30 = some (.invokestatic 28, 3) := by decide +kernel
theorem sX5_copyFrom_30 {d : Nat} {σ : aS} {Q : aQ} {p0 : Nat} {p1 : Nat} {ls : aL} : aX (d + 1) iX5_copyFrom 30 (ls) (.ref p1 :: .ref p0 :: []) σ Q ↔ aX d iX6_copyRow 0 [some (.ref p0), some (.ref p1)] [] σ (fun r τ => aX (d + 1) iX5_copyFrom 33 (ls) (aret r ([])) τ Q) := X_invs (N := 2) (As := [.ref p1, .ref p0]) (k := 4) (w := 208) kX5_copyFrom_30 (by decide +kernel) (by decide) (by decide +kernel) rfl rfl (by simp only [List.length_cons, List.length_nil]; omega) (by simp only [List.length_cons, List.length_nil]; omega) rfl (Nat.le_of_ble_eq_true rfl)
theorem kX5_copyFrom_33 : aCode iX5_copyFrom 33 = some (.aload_n 0, 1) := by decide +kernel
theorem sX5_copyFrom_33 {d : Nat} {σ : aS} {Q : aQ} {x : Nat} {lt : aL} {st : List Value} : aX d iX5_copyFrom 33 (some (.ref x) :: lt) (st) σ Q ↔ aX d iX5_copyFrom 34 (some (.ref x) :: lt) (.ref x :: st) σ Q := X_aloadn kX5_copyFrom_33 rfl rfl
theorem kX5_copyFrom_34 : aCode iX5_copyFrom 34 = some (.aload_n 1, 1) := by decide +kernel
theorem sX5_copyFrom_34 {d : Nat} {σ : aS} {Q : aQ} {l0 : Option Value} {x : Nat} {lt : aL} {st : List Value} : aX d iX5_copyFrom 34 (l0 :: some (.ref x) :: lt) (st) σ Q ↔ aX d iX5_copyFrom 35 (l0 :: some (.ref x) :: lt) (.ref x :: st) σ Q := X_aloadn kX5_copyFrom_34 rfl rfl
theorem sX5_copyFrom_34n {d : Nat} {σ : aS} {Q : aQ} {l0 : Option Value} {lt : aL} {st : List Value} : aX d iX5_copyFrom 34 (l0 :: some .null :: lt) (st) σ Q ↔ aX d iX5_copyFrom 35 (l0 :: some .null :: lt) (.null :: st) σ Q := X_aloadn kX5_copyFrom_34 rfl rfl
theorem kX5_copyFrom_35 : aCode iX5_copyFrom 35 = some (.getfield 32, 3) := by decide +kernel
theorem sX5_copyFrom_35 {d : Nat} {σ : aS} {Q : aQ} {a : Nat} {ls : aL} {st : List Value} : aX d iX5_copyFrom 35 (ls) (.ref a :: st) σ Q ↔ ∃ v, aFld σ a 5 4 = some v ∧ aX d iX5_copyFrom 38 (ls) (v :: st) σ Q := X_getf (w := 77) kX5_copyFrom_35 (by decide +kernel)
theorem kX5_copyFrom_38 : aCode iX5_copyFrom 38 = some (.putfield 32, 3) := by decide +kernel
theorem sX5_copyFrom_38 {d : Nat} {σ : aS} {Q : aQ} {x : Int32} {a : Nat} {ls : aL} {st : List Value} : aX d iX5_copyFrom 38 (ls) (.int x :: .ref a :: st) σ Q ↔ ∃ fs, aFds σ a 5 = some fs ∧ 4 < fs.length ∧ aX d iX5_copyFrom 41 (ls) (st) (aput σ a (eO 5 (fs.set 4 (.int x)))) Q := X_putf (w := 77) kX5_copyFrom_38 (by decide +kernel) (aFit_I (by decide +kernel)) (by decide +kernel)
theorem kX5_copyFrom_41 : aCode iX5_copyFrom 41 = some (.aload_n 0, 1) := by decide +kernel
theorem sX5_copyFrom_41 {d : Nat} {σ : aS} {Q : aQ} {x : Nat} {lt : aL} {st : List Value} : aX d iX5_copyFrom 41 (some (.ref x) :: lt) (st) σ Q ↔ aX d iX5_copyFrom 42 (some (.ref x) :: lt) (.ref x :: st) σ Q := X_aloadn kX5_copyFrom_41 rfl rfl
theorem kX5_copyFrom_42 : aCode iX5_copyFrom 42 = some (.aload_n 1, 1) := by decide +kernel
theorem sX5_copyFrom_42 {d : Nat} {σ : aS} {Q : aQ} {l0 : Option Value} {x : Nat} {lt : aL} {st : List Value} : aX d iX5_copyFrom 42 (l0 :: some (.ref x) :: lt) (st) σ Q ↔ aX d iX5_copyFrom 43 (l0 :: some (.ref x) :: lt) (.ref x :: st) σ Q := X_aloadn kX5_copyFrom_42 rfl rfl
theorem sX5_copyFrom_42n {d : Nat} {σ : aS} {Q : aQ} {l0 : Option Value} {lt : aL} {st : List Value} : aX d iX5_copyFrom 42 (l0 :: some .null :: lt) (st) σ Q ↔ aX d iX5_copyFrom 43 (l0 :: some .null :: lt) (.null :: st) σ Q := X_aloadn kX5_copyFrom_42 rfl rfl
theorem kX5_copyFrom_43 : aCode iX5_copyFrom 43 = some (.getfield 36, 3) := by decide +kernel
theorem sX5_copyFrom_43 {d : Nat} {σ : aS} {Q : aQ} {a : Nat} {ls : aL} {st : List Value} : aX d iX5_copyFrom 43 (ls) (.ref a :: st) σ Q ↔ ∃ v, aFld σ a 5 6 = some v ∧ aX d iX5_copyFrom 46 (ls) (v :: st) σ Q := X_getf (w := 82) kX5_copyFrom_43 (by decide +kernel)
theorem kX5_copyFrom_46 : aCode iX5_copyFrom 46 = some (.putfield 36, 3) := by decide +kernel
theorem sX5_copyFrom_46 {d : Nat} {σ : aS} {Q : aQ} {x : Int32} {a : Nat} {ls : aL} {st : List Value} : aX d iX5_copyFrom 46 (ls) (.int x :: .ref a :: st) σ Q ↔ ∃ fs, aFds σ a 5 = some fs ∧ 6 < fs.length ∧ aX d iX5_copyFrom 49 (ls) (st) (aput σ a (eO 5 (fs.set 6 (.int x)))) Q := X_putf (w := 82) kX5_copyFrom_46 (by decide +kernel) (aFit_I (by decide +kernel)) (by decide +kernel)
theorem kX5_copyFrom_49 : aCode iX5_copyFrom 49 = some (.aload_n 0, 1) := by decide +kernel
theorem sX5_copyFrom_49 {d : Nat} {σ : aS} {Q : aQ} {x : Nat} {lt : aL} {st : List Value} : aX d iX5_copyFrom 49 (some (.ref x) :: lt) (st) σ Q ↔ aX d iX5_copyFrom 50 (some (.ref x) :: lt) (.ref x :: st) σ Q := X_aloadn kX5_copyFrom_49 rfl rfl
theorem kX5_copyFrom_50 : aCode iX5_copyFrom 50 = some (.aload_n 1, 1) := by decide +kernel
theorem sX5_copyFrom_50 {d : Nat} {σ : aS} {Q : aQ} {l0 : Option Value} {x : Nat} {lt : aL} {st : List Value} : aX d iX5_copyFrom 50 (l0 :: some (.ref x) :: lt) (st) σ Q ↔ aX d iX5_copyFrom 51 (l0 :: some (.ref x) :: lt) (.ref x :: st) σ Q := X_aloadn kX5_copyFrom_50 rfl rfl
theorem sX5_copyFrom_50n {d : Nat} {σ : aS} {Q : aQ} {l0 : Option Value} {lt : aL} {st : List Value} : aX d iX5_copyFrom 50 (l0 :: some .null :: lt) (st) σ Q ↔ aX d iX5_copyFrom 51 (l0 :: some .null :: lt) (.null :: st) σ Q := X_aloadn kX5_copyFrom_50 rfl rfl
theorem kX5_copyFrom_51 : aCode iX5_copyFrom 51 = some (.getfield 39, 3) := by decide +kernel
theorem sX5_copyFrom_51 {d : Nat} {σ : aS} {Q : aQ} {a : Nat} {ls : aL} {st : List Value} : aX d iX5_copyFrom 51 (ls) (.ref a :: st) σ Q ↔ ∃ v, aFld σ a 5 5 = some v ∧ aX d iX5_copyFrom 54 (ls) (v :: st) σ Q := X_getf (w := 79) kX5_copyFrom_51 (by decide +kernel)
theorem kX5_copyFrom_54 : aCode iX5_copyFrom 54 = some (.putfield 39, 3) := by decide +kernel
theorem sX5_copyFrom_54 {d : Nat} {σ : aS} {Q : aQ} {x : Int32} {a : Nat} {ls : aL} {st : List Value} : aX d iX5_copyFrom 54 (ls) (.int x :: .ref a :: st) σ Q ↔ ∃ fs, aFds σ a 5 = some fs ∧ 5 < fs.length ∧ aX d iX5_copyFrom 57 (ls) (st) (aput σ a (eO 5 (fs.set 5 (.int x)))) Q := X_putf (w := 79) kX5_copyFrom_54 (by decide +kernel) (aFit_I (by decide +kernel)) (by decide +kernel)
theorem kX5_copyFrom_57 : aCode iX5_copyFrom 57 = some (.iconst 0, 1) := by decide +kernel
theorem sX5_copyFrom_57 {d : Nat} {σ : aS} {Q : aQ} {ls : aL} {st : List Value} : aX d iX5_copyFrom 57 (ls) (st) σ Q ↔ aX d iX5_copyFrom 58 (ls) (.int (nI 0) :: st) σ Q := X_iconst kX5_copyFrom_57 (by decide +kernel)
theorem kX5_copyFrom_58 : aCode iX5_copyFrom 58 = some (.istore_n 2, 1) := by decide +kernel
theorem sX5_copyFrom_58 {d : Nat} {σ : aS} {Q : aQ} {l0 l1 lo : Option Value} {x : Int32} {lt : aL} {st : List Value} : aX d iX5_copyFrom 58 (l0 :: l1 :: lo :: lt) (.int x :: st) σ Q ↔ aX d iX5_copyFrom 59 (l0 :: aclr l1 :: some (.int x) :: lt) (st) σ Q := X_istoren kX5_copyFrom_58 (by simp only [List.length_cons]; omega)
theorem kX5_copyFrom_59 : aCode iX5_copyFrom 59 = some (.iload_n 2, 1) := by decide +kernel
theorem sX5_copyFrom_59 {d : Nat} {σ : aS} {Q : aQ} {l0 l1 : Option Value} {x : Int32} {lt : aL} {st : List Value} : aX d iX5_copyFrom 59 (l0 :: l1 :: some (.int x) :: lt) (st) σ Q ↔ aX d iX5_copyFrom 60 (l0 :: l1 :: some (.int x) :: lt) (.int x :: st) σ Q := X_iloadn kX5_copyFrom_59 rfl
theorem kX5_copyFrom_60 : aCode iX5_copyFrom 60 = some (.aload_n 0, 1) := by decide +kernel
theorem sX5_copyFrom_60 {d : Nat} {σ : aS} {Q : aQ} {x : Nat} {lt : aL} {st : List Value} : aX d iX5_copyFrom 60 (some (.ref x) :: lt) (st) σ Q ↔ aX d iX5_copyFrom 61 (some (.ref x) :: lt) (.ref x :: st) σ Q := X_aloadn kX5_copyFrom_60 rfl rfl
theorem kX5_copyFrom_61 : aCode iX5_copyFrom 61 = some (.getfield 39, 3) := by decide +kernel
theorem sX5_copyFrom_61 {d : Nat} {σ : aS} {Q : aQ} {a : Nat} {ls : aL} {st : List Value} : aX d iX5_copyFrom 61 (ls) (.ref a :: st) σ Q ↔ ∃ v, aFld σ a 5 5 = some v ∧ aX d iX5_copyFrom 64 (ls) (v :: st) σ Q := X_getf (w := 79) kX5_copyFrom_61 (by decide +kernel)
theorem kX5_copyFrom_64 : aCode iX5_copyFrom 64 = some (.if_icmp .ge 37, 3) := by decide +kernel
theorem sX5_copyFrom_64 {d : Nat} {σ : aS} {Q : aQ} {x y : Int32} {ls : aL} {st : List Value} : aX d iX5_copyFrom 64 (ls) (.int y :: .int x :: st) σ Q ↔ (if y ≤ x then aX d iX5_copyFrom 101 (ls) (st) σ Q else aX d iX5_copyFrom 67 (ls) (st) σ Q) := by rw [X_icmp kX5_copyFrom_64 (t := 101) (by decide)]; simp only [aCmp_ge]
theorem kX5_copyFrom_67 : aCode iX5_copyFrom 67 = some (.aload_n 1, 1) := by decide +kernel
theorem sX5_copyFrom_67 {d : Nat} {σ : aS} {Q : aQ} {l0 : Option Value} {x : Nat} {lt : aL} {st : List Value} : aX d iX5_copyFrom 67 (l0 :: some (.ref x) :: lt) (st) σ Q ↔ aX d iX5_copyFrom 68 (l0 :: some (.ref x) :: lt) (.ref x :: st) σ Q := X_aloadn kX5_copyFrom_67 rfl rfl
theorem sX5_copyFrom_67n {d : Nat} {σ : aS} {Q : aQ} {l0 : Option Value} {lt : aL} {st : List Value} : aX d iX5_copyFrom 67 (l0 :: some .null :: lt) (st) σ Q ↔ aX d iX5_copyFrom 68 (l0 :: some .null :: lt) (.null :: st) σ Q := X_aloadn kX5_copyFrom_67 rfl rfl
theorem kX5_copyFrom_68 : aCode iX5_copyFrom 68 = some (.iload_n 2, 1) := by decide +kernel
theorem sX5_copyFrom_68 {d : Nat} {σ : aS} {Q : aQ} {l0 l1 : Option Value} {x : Int32} {lt : aL} {st : List Value} : aX d iX5_copyFrom 68 (l0 :: l1 :: some (.int x) :: lt) (st) σ Q ↔ aX d iX5_copyFrom 69 (l0 :: l1 :: some (.int x) :: lt) (.int x :: st) σ Q := X_iloadn kX5_copyFrom_68 rfl
theorem kX5_copyFrom_69 : aCode iX5_copyFrom 69 = some (.invokevirtual 42, 3) := by decide +kernel
theorem sX5_copyFrom_69 {d : Nat} {σ : aS} {Q : aQ} {b : Nat} {p0 : Int32} {ls : aL} : aX (d + 1) iX5_copyFrom 69 (ls) (.int p0 :: .ref b :: []) σ Q ↔ aIs σ b 5 ∧ aX d iX5_placeAt 0 [some (.ref b), some (.int p0)] [] σ (fun r τ => aX (d + 1) iX5_copyFrom 72 (ls) (aret r ([])) τ Q) := X_invv (N := 1) (As := [.int p0]) (w := 217) kX5_copyFrom_69 (by decide +kernel) (by decide +kernel) rfl rfl (by simp only [List.length_cons, List.length_nil]; omega) (by simp only [List.length_cons, List.length_nil]; omega) (by decide +kernel) rfl (Nat.le_of_ble_eq_true rfl)
theorem kX5_copyFrom_72 : aCode iX5_copyFrom 72 = some (.astore_n 3, 1) := by decide +kernel
theorem sX5_copyFrom_72 {d : Nat} {σ : aS} {Q : aQ} {l0 l1 l2 lo : Option Value} {x : Nat} {lt : aL} {st : List Value} : aX d iX5_copyFrom 72 (l0 :: l1 :: l2 :: lo :: lt) (.ref x :: st) σ Q ↔ aX d iX5_copyFrom 73 (l0 :: l1 :: aclr l2 :: some (.ref x) :: lt) (st) σ Q := X_astoren kX5_copyFrom_72 (by simp only [List.length_cons]; omega) rfl
theorem sX5_copyFrom_72n {d : Nat} {σ : aS} {Q : aQ} {l0 l1 l2 lo : Option Value} {lt : aL} {st : List Value} : aX d iX5_copyFrom 72 (l0 :: l1 :: l2 :: lo :: lt) (.null :: st) σ Q ↔ aX d iX5_copyFrom 73 (l0 :: l1 :: aclr l2 :: some (.null) :: lt) (st) σ Q := X_astoren kX5_copyFrom_72 (by simp only [List.length_cons]; omega) rfl
theorem kX5_copyFrom_73 : aCode iX5_copyFrom 73 = some (.aload_n 0, 1) := by decide +kernel
theorem sX5_copyFrom_73 {d : Nat} {σ : aS} {Q : aQ} {x : Nat} {lt : aL} {st : List Value} : aX d iX5_copyFrom 73 (some (.ref x) :: lt) (st) σ Q ↔ aX d iX5_copyFrom 74 (some (.ref x) :: lt) (.ref x :: st) σ Q := X_aloadn kX5_copyFrom_73 rfl rfl
theorem kX5_copyFrom_74 : aCode iX5_copyFrom 74 = some (.iload_n 2, 1) := by decide +kernel
theorem sX5_copyFrom_74 {d : Nat} {σ : aS} {Q : aQ} {l0 l1 : Option Value} {x : Int32} {lt : aL} {st : List Value} : aX d iX5_copyFrom 74 (l0 :: l1 :: some (.int x) :: lt) (st) σ Q ↔ aX d iX5_copyFrom 75 (l0 :: l1 :: some (.int x) :: lt) (.int x :: st) σ Q := X_iloadn kX5_copyFrom_74 rfl
theorem kX5_copyFrom_75 : aCode iX5_copyFrom 75 = some (.invokevirtual 42, 3) := by decide +kernel
theorem sX5_copyFrom_75 {d : Nat} {σ : aS} {Q : aQ} {b : Nat} {p0 : Int32} {ls : aL} : aX (d + 1) iX5_copyFrom 75 (ls) (.int p0 :: .ref b :: []) σ Q ↔ aIs σ b 5 ∧ aX d iX5_placeAt 0 [some (.ref b), some (.int p0)] [] σ (fun r τ => aX (d + 1) iX5_copyFrom 78 (ls) (aret r ([])) τ Q) := X_invv (N := 1) (As := [.int p0]) (w := 217) kX5_copyFrom_75 (by decide +kernel) (by decide +kernel) rfl rfl (by simp only [List.length_cons, List.length_nil]; omega) (by simp only [List.length_cons, List.length_nil]; omega) (by decide +kernel) rfl (Nat.le_of_ble_eq_true rfl)
theorem kX5_copyFrom_78 : aCode iX5_copyFrom 78 = some (.astore 4, 2) := by decide +kernel
theorem sX5_copyFrom_78 {d : Nat} {σ : aS} {Q : aQ} {l0 l1 l2 l3 lo : Option Value} {x : Nat} {lt : aL} {st : List Value} : aX d iX5_copyFrom 78 (l0 :: l1 :: l2 :: l3 :: lo :: lt) (.ref x :: st) σ Q ↔ aX d iX5_copyFrom 80 (l0 :: l1 :: l2 :: aclr l3 :: some (.ref x) :: lt) (st) σ Q := X_astore kX5_copyFrom_78 (by simp only [List.length_cons]; omega) rfl
theorem sX5_copyFrom_78n {d : Nat} {σ : aS} {Q : aQ} {l0 l1 l2 l3 lo : Option Value} {lt : aL} {st : List Value} : aX d iX5_copyFrom 78 (l0 :: l1 :: l2 :: l3 :: lo :: lt) (.null :: st) σ Q ↔ aX d iX5_copyFrom 80 (l0 :: l1 :: l2 :: aclr l3 :: some (.null) :: lt) (st) σ Q := X_astore kX5_copyFrom_78 (by simp only [List.length_cons]; omega) rfl
theorem kX5_copyFrom_80 : aCode iX5_copyFrom 80 = some (.aload_n 3, 1) := by decide +kernel
theorem sX5_copyFrom_80 {d : Nat} {σ : aS} {Q : aQ} {l0 l1 l2 : Option Value} {x : Nat} {lt : aL} {st : List Value} : aX d iX5_copyFrom 80 (l0 :: l1 :: l2 :: some (.ref x) :: lt) (st) σ Q ↔ aX d iX5_copyFrom 81 (l0 :: l1 :: l2 :: some (.ref x) :: lt) (.ref x :: st) σ Q := X_aloadn kX5_copyFrom_80 rfl rfl
theorem sX5_copyFrom_80n {d : Nat} {σ : aS} {Q : aQ} {l0 l1 l2 : Option Value} {lt : aL} {st : List Value} : aX d iX5_copyFrom 80 (l0 :: l1 :: l2 :: some .null :: lt) (st) σ Q ↔ aX d iX5_copyFrom 81 (l0 :: l1 :: l2 :: some .null :: lt) (.null :: st) σ Q := X_aloadn kX5_copyFrom_80 rfl rfl
theorem kX5_copyFrom_81 : aCode iX5_copyFrom 81 = some (.ifnull 14, 3) := by decide +kernel
theorem sX5_copyFrom_81 {d : Nat} {σ : aS} {Q : aQ} {x : Nat} {ls : aL} {st : List Value} : aX d iX5_copyFrom 81 (ls) (.ref x :: st) σ Q ↔ aX d iX5_copyFrom 84 (ls) (st) σ Q := X_ifnull kX5_copyFrom_81 (t := 95) (by decide)
theorem sX5_copyFrom_81n {d : Nat} {σ : aS} {Q : aQ} {ls : aL} {st : List Value} : aX d iX5_copyFrom 81 (ls) (.null :: st) σ Q ↔ aX d iX5_copyFrom 95 (ls) (st) σ Q := X_ifnullN kX5_copyFrom_81 (t := 95) (by decide)
theorem kX5_copyFrom_84 : aCode iX5_copyFrom 84 = some (.aload 4, 2) := by decide +kernel
theorem sX5_copyFrom_84 {d : Nat} {σ : aS} {Q : aQ} {l0 l1 l2 l3 : Option Value} {x : Nat} {lt : aL} {st : List Value} : aX d iX5_copyFrom 84 (l0 :: l1 :: l2 :: l3 :: some (.ref x) :: lt) (st) σ Q ↔ aX d iX5_copyFrom 86 (l0 :: l1 :: l2 :: l3 :: some (.ref x) :: lt) (.ref x :: st) σ Q := X_aload kX5_copyFrom_84 rfl rfl
theorem sX5_copyFrom_84n {d : Nat} {σ : aS} {Q : aQ} {l0 l1 l2 l3 : Option Value} {lt : aL} {st : List Value} : aX d iX5_copyFrom 84 (l0 :: l1 :: l2 :: l3 :: some .null :: lt) (st) σ Q ↔ aX d iX5_copyFrom 86 (l0 :: l1 :: l2 :: l3 :: some .null :: lt) (.null :: st) σ Q := X_aload kX5_copyFrom_84 rfl rfl
theorem kX5_copyFrom_86 : aCode iX5_copyFrom 86 = some (.ifnull 9, 3) := by decide +kernel
theorem sX5_copyFrom_86 {d : Nat} {σ : aS} {Q : aQ} {x : Nat} {ls : aL} {st : List Value} : aX d iX5_copyFrom 86 (ls) (.ref x :: st) σ Q ↔ aX d iX5_copyFrom 89 (ls) (st) σ Q := X_ifnull kX5_copyFrom_86 (t := 95) (by decide)
theorem sX5_copyFrom_86n {d : Nat} {σ : aS} {Q : aQ} {ls : aL} {st : List Value} : aX d iX5_copyFrom 86 (ls) (.null :: st) σ Q ↔ aX d iX5_copyFrom 95 (ls) (st) σ Q := X_ifnullN kX5_copyFrom_86 (t := 95) (by decide)
theorem kX5_copyFrom_89 : aCode iX5_copyFrom 89 = some (.aload 4, 2) := by decide +kernel
theorem sX5_copyFrom_89 {d : Nat} {σ : aS} {Q : aQ} {l0 l1 l2 l3 : Option Value} {x : Nat} {lt : aL} {st : List Value} : aX d iX5_copyFrom 89 (l0 :: l1 :: l2 :: l3 :: some (.ref x) :: lt) (st) σ Q ↔ aX d iX5_copyFrom 91 (l0 :: l1 :: l2 :: l3 :: some (.ref x) :: lt) (.ref x :: st) σ Q := X_aload kX5_copyFrom_89 rfl rfl
theorem sX5_copyFrom_89n {d : Nat} {σ : aS} {Q : aQ} {l0 l1 l2 l3 : Option Value} {lt : aL} {st : List Value} : aX d iX5_copyFrom 89 (l0 :: l1 :: l2 :: l3 :: some .null :: lt) (st) σ Q ↔ aX d iX5_copyFrom 91 (l0 :: l1 :: l2 :: l3 :: some .null :: lt) (.null :: st) σ Q := X_aload kX5_copyFrom_89 rfl rfl
theorem kX5_copyFrom_91 : aCode iX5_copyFrom 91 = some (.aload_n 3, 1) := by decide +kernel
theorem sX5_copyFrom_91 {d : Nat} {σ : aS} {Q : aQ} {l0 l1 l2 : Option Value} {x : Nat} {lt : aL} {st : List Value} : aX d iX5_copyFrom 91 (l0 :: l1 :: l2 :: some (.ref x) :: lt) (st) σ Q ↔ aX d iX5_copyFrom 92 (l0 :: l1 :: l2 :: some (.ref x) :: lt) (.ref x :: st) σ Q := X_aloadn kX5_copyFrom_91 rfl rfl
theorem sX5_copyFrom_91n {d : Nat} {σ : aS} {Q : aQ} {l0 l1 l2 : Option Value} {lt : aL} {st : List Value} : aX d iX5_copyFrom 91 (l0 :: l1 :: l2 :: some .null :: lt) (st) σ Q ↔ aX d iX5_copyFrom 92 (l0 :: l1 :: l2 :: some .null :: lt) (.null :: st) σ Q := X_aloadn kX5_copyFrom_91 rfl rfl
theorem kX5_copyFrom_92 : aCode iX5_copyFrom 92 = some (.invokevirtual 46, 3) := by decide +kernel
theorem sX5_copyFrom_92 {d : Nat} {σ : aS} {Q : aQ} {b : Nat} {p0 : Nat} {ls : aL} : aX (d + 1) iX5_copyFrom 92 (ls) (.ref p0 :: .ref b :: []) σ Q ↔ aIs σ b 0 ∧ aX d iX0_copyFrom 0 [some (.ref b), some (.ref p0)] [] σ (fun r τ => aX (d + 1) iX5_copyFrom 95 (ls) (aret r ([])) τ Q) := X_invv (N := 1) (As := [.ref p0]) (w := 221) kX5_copyFrom_92 (by decide +kernel) (by decide +kernel) rfl rfl (by simp only [List.length_cons, List.length_nil]; omega) (by simp only [List.length_cons, List.length_nil]; omega) (by decide +kernel) rfl (Nat.le_of_ble_eq_true rfl)
theorem kX5_copyFrom_95 : aCode iX5_copyFrom 95 = some (.iinc 2 1, 3) := by decide +kernel
theorem sX5_copyFrom_95 {d : Nat} {σ : aS} {Q : aQ} {l0 l1 : Option Value} {x : Int32} {lt : aL} {st : List Value} : aX d iX5_copyFrom 95 (l0 :: l1 :: some (.int x) :: lt) (st) σ Q ↔ aX d iX5_copyFrom 98 (l0 :: aclr l1 :: some (.int (x + nI 1)) :: lt) (st) σ Q := X_iinc kX5_copyFrom_95 rfl (by decide +kernel)
theorem kX5_copyFrom_98 : aCode iX5_copyFrom 98 = some (.goto (-39), 3) := by decide +kernel
theorem sX5_copyFrom_98 {d : Nat} {σ : aS} {Q : aQ} {ls : aL} {st : List Value} : aX d iX5_copyFrom 98 (ls) (st) σ Q ↔ aX d iX5_copyFrom 59 (ls) (st) σ Q := X_goto kX5_copyFrom_98 (by decide)
theorem kX5_copyFrom_101 : aCode iX5_copyFrom 101 = some (.return_, 1) := by decide +kernel
theorem sX5_copyFrom_101 {d : Nat} {σ : aS} {Q : aQ} {ls : aL} : aX d iX5_copyFrom 101 (ls) ([]) σ Q ↔ Q none σ := X_vret kX5_copyFrom_101 (by decide +kernel)
theorem kX5_placeAt_0 : aCode iX5_placeAt 0 = some (.iload_n 1, 1) := by decide +kernel
theorem sX5_placeAt_0 {d : Nat} {σ : aS} {Q : aQ} {l0 : Option Value} {x : Int32} {lt : aL} {st : List Value} : aX d iX5_placeAt 0 (l0 :: some (.int x) :: lt) (st) σ Q ↔ aX d iX5_placeAt 1 (l0 :: some (.int x) :: lt) (.int x :: st) σ Q := X_iloadn kX5_placeAt_0 rfl
theorem kX5_placeAt_1 : aCode iX5_placeAt 1 = some (.ifCond .lt 21, 3) := by decide +kernel
theorem sX5_placeAt_1 {d : Nat} {σ : aS} {Q : aQ} {x : Int32} {ls : aL} {st : List Value} : aX d iX5_placeAt 1 (ls) (.int x :: st) σ Q ↔ (if x < nI 0 then aX d iX5_placeAt 22 (ls) (st) σ Q else aX d iX5_placeAt 4 (ls) (st) σ Q) := by rw [X_if kX5_placeAt_1 (t := 22) (by decide)]; simp only [aCmp_lt]
theorem kX5_placeAt_4 : aCode iX5_placeAt 4 = some (.iload_n 1, 1) := by decide +kernel
theorem sX5_placeAt_4 {d : Nat} {σ : aS} {Q : aQ} {l0 : Option Value} {x : Int32} {lt : aL} {st : List Value} : aX d iX5_placeAt 4 (l0 :: some (.int x) :: lt) (st) σ Q ↔ aX d iX5_placeAt 5 (l0 :: some (.int x) :: lt) (.int x :: st) σ Q := X_iloadn kX5_placeAt_4 rfl
theorem kX5_placeAt_5 : aCode iX5_placeAt 5 = some (.aload_n 0, 1) := by decide +kernel
theorem sX5_placeAt_5 {d : Nat} {σ : aS} {Q : aQ} {x : Nat} {lt : aL} {st : List Value} : aX d iX5_placeAt 5 (some (.ref x) :: lt) (st) σ Q ↔ aX d iX5_placeAt 6 (some (.ref x) :: lt) (.ref x :: st) σ Q := X_aloadn kX5_placeAt_5 rfl rfl
theorem kX5_placeAt_6 : aCode iX5_placeAt 6 = some (.getfield 23, 3) := by decide +kernel
theorem sX5_placeAt_6 {d : Nat} {σ : aS} {Q : aQ} {a : Nat} {ls : aL} {st : List Value} : aX d iX5_placeAt 6 (ls) (.ref a :: st) σ Q ↔ ∃ v, aFld σ a 5 3 = some v ∧ aX d iX5_placeAt 9 (ls) (v :: st) σ Q := X_getf (w := 76) kX5_placeAt_6 (by decide +kernel)
theorem kX5_placeAt_9 : aCode iX5_placeAt 9 = some (.arraylength, 1) := by decide +kernel
theorem sX5_placeAt_9 {d : Nat} {σ : aS} {Q : aQ} {a : Nat} {ls : aL} {st : List Value} : aX d iX5_placeAt 9 (ls) (.ref a :: st) σ Q ↔ ∃ m, aLn σ a = some m ∧ aX d iX5_placeAt 10 (ls) (.int (nI m) :: st) σ Q := X_alen kX5_placeAt_9
theorem kX5_placeAt_10 : aCode iX5_placeAt 10 = some (.if_icmp .ge 12, 3) := by decide +kernel
theorem sX5_placeAt_10 {d : Nat} {σ : aS} {Q : aQ} {x y : Int32} {ls : aL} {st : List Value} : aX d iX5_placeAt 10 (ls) (.int y :: .int x :: st) σ Q ↔ (if y ≤ x then aX d iX5_placeAt 22 (ls) (st) σ Q else aX d iX5_placeAt 13 (ls) (st) σ Q) := by rw [X_icmp kX5_placeAt_10 (t := 22) (by decide)]; simp only [aCmp_ge]
theorem kX5_placeAt_13 : aCode iX5_placeAt 13 = some (.aload_n 0, 1) := by decide +kernel
theorem sX5_placeAt_13 {d : Nat} {σ : aS} {Q : aQ} {x : Nat} {lt : aL} {st : List Value} : aX d iX5_placeAt 13 (some (.ref x) :: lt) (st) σ Q ↔ aX d iX5_placeAt 14 (some (.ref x) :: lt) (.ref x :: st) σ Q := X_aloadn kX5_placeAt_13 rfl rfl
theorem kX5_placeAt_14 : aCode iX5_placeAt 14 = some (.getfield 23, 3) := by decide +kernel
theorem sX5_placeAt_14 {d : Nat} {σ : aS} {Q : aQ} {a : Nat} {ls : aL} {st : List Value} : aX d iX5_placeAt 14 (ls) (.ref a :: st) σ Q ↔ ∃ v, aFld σ a 5 3 = some v ∧ aX d iX5_placeAt 17 (ls) (v :: st) σ Q := X_getf (w := 76) kX5_placeAt_14 (by decide +kernel)
theorem kX5_placeAt_17 : aCode iX5_placeAt 17 = some (.iload_n 1, 1) := by decide +kernel
theorem sX5_placeAt_17 {d : Nat} {σ : aS} {Q : aQ} {l0 : Option Value} {x : Int32} {lt : aL} {st : List Value} : aX d iX5_placeAt 17 (l0 :: some (.int x) :: lt) (st) σ Q ↔ aX d iX5_placeAt 18 (l0 :: some (.int x) :: lt) (.int x :: st) σ Q := X_iloadn kX5_placeAt_17 rfl
theorem kX5_placeAt_18 : aCode iX5_placeAt 18 = some (.aaload, 1) := by decide +kernel
theorem sX5_placeAt_18 {d : Nat} {σ : aS} {Q : aQ} {a : Nat} {i : Int32} {ls : aL} {st : List Value} : aX d iX5_placeAt 18 (ls) (.int i :: .ref a :: st) σ Q ↔ ∃ x, aRefs σ a = some x ∧ vp_in i x.2.1 ∧ aX d iX5_placeAt 19 (ls) (va_rf (x.2.2 i.toNatClampNeg) :: st) σ Q := X_aaload kX5_placeAt_18
theorem kX5_placeAt_19 : aCode iX5_placeAt 19 = some (.goto 4, 3) := by decide +kernel
theorem sX5_placeAt_19 {d : Nat} {σ : aS} {Q : aQ} {ls : aL} {st : List Value} : aX d iX5_placeAt 19 (ls) (st) σ Q ↔ aX d iX5_placeAt 23 (ls) (st) σ Q := X_goto kX5_placeAt_19 (by decide)
theorem kX5_placeAt_22 : aCode iX5_placeAt 22 = some (.aconst_null, 1) := by decide +kernel
theorem sX5_placeAt_22 {d : Nat} {σ : aS} {Q : aQ} {ls : aL} {st : List Value} : aX d iX5_placeAt 22 (ls) (st) σ Q ↔ aX d iX5_placeAt 23 (ls) (.null :: st) σ Q := X_null kX5_placeAt_22
theorem kX5_placeAt_23 : aCode iX5_placeAt 23 = some (.areturn, 1) := by decide +kernel
theorem sX5_placeAt_23 {d : Nat} {σ : aS} {Q : aQ} {x : Nat} {ls : aL} : aX d iX5_placeAt 23 (ls) ([.ref x]) σ Q ↔ Q (some (.ref x)) σ := X_aret (nm := "DoodleAlbums$Album") kX5_placeAt_23 (by decide +kernel) rfl
theorem sX5_placeAt_23n {d : Nat} {σ : aS} {Q : aQ} {ls : aL} : aX d iX5_placeAt 23 (ls) ([.null]) σ Q ↔ Q (some .null) σ := X_aret (nm := "DoodleAlbums$Album") kX5_placeAt_23 (by decide +kernel) rfl
theorem kX5_albumAt_0 : aCode iX5_albumAt 0 = some (.iload_n 1, 1) := by decide +kernel
theorem sX5_albumAt_0 {d : Nat} {σ : aS} {Q : aQ} {l0 : Option Value} {x : Int32} {lt : aL} {st : List Value} : aX d iX5_albumAt 0 (l0 :: some (.int x) :: lt) (st) σ Q ↔ aX d iX5_albumAt 1 (l0 :: some (.int x) :: lt) (.int x :: st) σ Q := X_iloadn kX5_albumAt_0 rfl
theorem kX5_albumAt_1 : aCode iX5_albumAt 1 = some (.aload_n 0, 1) := by decide +kernel
theorem sX5_albumAt_1 {d : Nat} {σ : aS} {Q : aQ} {x : Nat} {lt : aL} {st : List Value} : aX d iX5_albumAt 1 (some (.ref x) :: lt) (st) σ Q ↔ aX d iX5_albumAt 2 (some (.ref x) :: lt) (.ref x :: st) σ Q := X_aloadn kX5_albumAt_1 rfl rfl
theorem kX5_albumAt_2 : aCode iX5_albumAt 2 = some (.getfield 39, 3) := by decide +kernel
theorem sX5_albumAt_2 {d : Nat} {σ : aS} {Q : aQ} {a : Nat} {ls : aL} {st : List Value} : aX d iX5_albumAt 2 (ls) (.ref a :: st) σ Q ↔ ∃ v, aFld σ a 5 5 = some v ∧ aX d iX5_albumAt 5 (ls) (v :: st) σ Q := X_getf (w := 79) kX5_albumAt_2 (by decide +kernel)
theorem kX5_albumAt_5 : aCode iX5_albumAt 5 = some (.if_icmp .ge 11, 3) := by decide +kernel
theorem sX5_albumAt_5 {d : Nat} {σ : aS} {Q : aQ} {x y : Int32} {ls : aL} {st : List Value} : aX d iX5_albumAt 5 (ls) (.int y :: .int x :: st) σ Q ↔ (if y ≤ x then aX d iX5_albumAt 16 (ls) (st) σ Q else aX d iX5_albumAt 8 (ls) (st) σ Q) := by rw [X_icmp kX5_albumAt_5 (t := 16) (by decide)]; simp only [aCmp_ge]
theorem kX5_albumAt_8 : aCode iX5_albumAt 8 = some (.aload_n 0, 1) := by decide +kernel
theorem sX5_albumAt_8 {d : Nat} {σ : aS} {Q : aQ} {x : Nat} {lt : aL} {st : List Value} : aX d iX5_albumAt 8 (some (.ref x) :: lt) (st) σ Q ↔ aX d iX5_albumAt 9 (some (.ref x) :: lt) (.ref x :: st) σ Q := X_aloadn kX5_albumAt_8 rfl rfl
theorem kX5_albumAt_9 : aCode iX5_albumAt 9 = some (.iload_n 1, 1) := by decide +kernel
theorem sX5_albumAt_9 {d : Nat} {σ : aS} {Q : aQ} {l0 : Option Value} {x : Int32} {lt : aL} {st : List Value} : aX d iX5_albumAt 9 (l0 :: some (.int x) :: lt) (st) σ Q ↔ aX d iX5_albumAt 10 (l0 :: some (.int x) :: lt) (.int x :: st) σ Q := X_iloadn kX5_albumAt_9 rfl
theorem kX5_albumAt_10 : aCode iX5_albumAt 10 = some (.invokevirtual 42, 3) := by decide +kernel
theorem sX5_albumAt_10 {d : Nat} {σ : aS} {Q : aQ} {b : Nat} {p0 : Int32} {ls : aL} : aX (d + 1) iX5_albumAt 10 (ls) (.int p0 :: .ref b :: []) σ Q ↔ aIs σ b 5 ∧ aX d iX5_placeAt 0 [some (.ref b), some (.int p0)] [] σ (fun r τ => aX (d + 1) iX5_albumAt 13 (ls) (aret r ([])) τ Q) := X_invv (N := 1) (As := [.int p0]) (w := 217) kX5_albumAt_10 (by decide +kernel) (by decide +kernel) rfl rfl (by simp only [List.length_cons, List.length_nil]; omega) (by simp only [List.length_cons, List.length_nil]; omega) (by decide +kernel) rfl (Nat.le_of_ble_eq_true rfl)
theorem kX5_albumAt_13 : aCode iX5_albumAt 13 = some (.goto 4, 3) := by decide +kernel
theorem sX5_albumAt_13 {d : Nat} {σ : aS} {Q : aQ} {ls : aL} {st : List Value} : aX d iX5_albumAt 13 (ls) (st) σ Q ↔ aX d iX5_albumAt 17 (ls) (st) σ Q := X_goto kX5_albumAt_13 (by decide)
theorem kX5_albumAt_16 : aCode iX5_albumAt 16 = some (.aconst_null, 1) := by decide +kernel
theorem sX5_albumAt_16 {d : Nat} {σ : aS} {Q : aQ} {ls : aL} {st : List Value} : aX d iX5_albumAt 16 (ls) (st) σ Q ↔ aX d iX5_albumAt 17 (ls) (.null :: st) σ Q := X_null kX5_albumAt_16
theorem kX5_albumAt_17 : aCode iX5_albumAt 17 = some (.areturn, 1) := by decide +kernel
theorem sX5_albumAt_17 {d : Nat} {σ : aS} {Q : aQ} {x : Nat} {ls : aL} : aX d iX5_albumAt 17 (ls) ([.ref x]) σ Q ↔ Q (some (.ref x)) σ := X_aret (nm := "DoodleAlbums$Album") kX5_albumAt_17 (by decide +kernel) rfl
theorem sX5_albumAt_17n {d : Nat} {σ : aS} {Q : aQ} {ls : aL} : aX d iX5_albumAt 17 (ls) ([.null]) σ Q ↔ Q (some .null) σ := X_aret (nm := "DoodleAlbums$Album") kX5_albumAt_17 (by decide +kernel) rfl
theorem kX5_isTaken_0 : aCode iX5_isTaken 0 = some (.aload_n 0, 1) := by decide +kernel
theorem sX5_isTaken_0 {d : Nat} {σ : aS} {Q : aQ} {x : Nat} {lt : aL} {st : List Value} : aX d iX5_isTaken 0 (some (.ref x) :: lt) (st) σ Q ↔ aX d iX5_isTaken 1 (some (.ref x) :: lt) (.ref x :: st) σ Q := X_aloadn kX5_isTaken_0 rfl rfl
theorem kX5_isTaken_1 : aCode iX5_isTaken 1 = some (.getfield 32, 3) := by decide +kernel
theorem sX5_isTaken_1 {d : Nat} {σ : aS} {Q : aQ} {a : Nat} {ls : aL} {st : List Value} : aX d iX5_isTaken 1 (ls) (.ref a :: st) σ Q ↔ ∃ v, aFld σ a 5 4 = some v ∧ aX d iX5_isTaken 4 (ls) (v :: st) σ Q := X_getf (w := 77) kX5_isTaken_1 (by decide +kernel)
theorem kX5_isTaken_4 : aCode iX5_isTaken 4 = some (.iconst 1, 1) := by decide +kernel
theorem sX5_isTaken_4 {d : Nat} {σ : aS} {Q : aQ} {ls : aL} {st : List Value} : aX d iX5_isTaken 4 (ls) (st) σ Q ↔ aX d iX5_isTaken 5 (ls) (.int (nI 1) :: st) σ Q := X_iconst kX5_isTaken_4 (by decide +kernel)
theorem kX5_isTaken_5 : aCode iX5_isTaken 5 = some (.iload_n 1, 1) := by decide +kernel
theorem sX5_isTaken_5 {d : Nat} {σ : aS} {Q : aQ} {l0 : Option Value} {x : Int32} {lt : aL} {st : List Value} : aX d iX5_isTaken 5 (l0 :: some (.int x) :: lt) (st) σ Q ↔ aX d iX5_isTaken 6 (l0 :: some (.int x) :: lt) (.int x :: st) σ Q := X_iloadn kX5_isTaken_5 rfl
theorem kX5_isTaken_6 : aCode iX5_isTaken 6 = some (.ishl, 1) := by decide +kernel
theorem sX5_isTaken_6 {d : Nat} {σ : aS} {Q : aQ} {x y : Int32} {ls : aL} {st : List Value} : aX d iX5_isTaken 6 (ls) (.int y :: .int x :: st) σ Q ↔ aX d iX5_isTaken 7 (ls) (.int (x <<< (y &&& 31)) :: st) σ Q := X_ishl kX5_isTaken_6
theorem kX5_isTaken_7 : aCode iX5_isTaken 7 = some (.iand, 1) := by decide +kernel
theorem sX5_isTaken_7 {d : Nat} {σ : aS} {Q : aQ} {x y : Int32} {ls : aL} {st : List Value} : aX d iX5_isTaken 7 (ls) (.int y :: .int x :: st) σ Q ↔ aX d iX5_isTaken 8 (ls) (.int (x &&& y) :: st) σ Q := X_iand kX5_isTaken_7
theorem kX5_isTaken_8 : aCode iX5_isTaken 8 = some (.ifCond .eq 7, 3) := by decide +kernel
theorem sX5_isTaken_8 {d : Nat} {σ : aS} {Q : aQ} {x : Int32} {ls : aL} {st : List Value} : aX d iX5_isTaken 8 (ls) (.int x :: st) σ Q ↔ (if x = nI 0 then aX d iX5_isTaken 15 (ls) (st) σ Q else aX d iX5_isTaken 11 (ls) (st) σ Q) := by rw [X_if kX5_isTaken_8 (t := 15) (by decide)]; simp only [aCmp_eq]
theorem kX5_isTaken_11 : aCode iX5_isTaken 11 = some (.iconst 1, 1) := by decide +kernel
theorem sX5_isTaken_11 {d : Nat} {σ : aS} {Q : aQ} {ls : aL} {st : List Value} : aX d iX5_isTaken 11 (ls) (st) σ Q ↔ aX d iX5_isTaken 12 (ls) (.int (nI 1) :: st) σ Q := X_iconst kX5_isTaken_11 (by decide +kernel)
theorem kX5_isTaken_12 : aCode iX5_isTaken 12 = some (.goto 4, 3) := by decide +kernel
theorem sX5_isTaken_12 {d : Nat} {σ : aS} {Q : aQ} {ls : aL} {st : List Value} : aX d iX5_isTaken 12 (ls) (st) σ Q ↔ aX d iX5_isTaken 16 (ls) (st) σ Q := X_goto kX5_isTaken_12 (by decide)
theorem kX5_isTaken_15 : aCode iX5_isTaken 15 = some (.iconst 0, 1) := by decide +kernel
theorem sX5_isTaken_15 {d : Nat} {σ : aS} {Q : aQ} {ls : aL} {st : List Value} : aX d iX5_isTaken 15 (ls) (st) σ Q ↔ aX d iX5_isTaken 16 (ls) (.int (nI 0) :: st) σ Q := X_iconst kX5_isTaken_15 (by decide +kernel)
theorem kX5_isTaken_16 : aCode iX5_isTaken 16 = some (.ireturn, 1) := by decide +kernel
theorem sX5_isTaken_16 {d : Nat} {σ : aS} {Q : aQ} {v : Int32} {ls : aL} : aX d iX5_isTaken 16 (ls) ([.int v]) σ Q ↔ (narrow .boolean (.int v) = .int v ∧ Q (some (.int v)) σ) := X_zret kX5_isTaken_16 (by decide +kernel)
theorem kX5_changeFeatures_0 : aCode iX5_changeFeatures 0 = some (.iload_n 1, 1) := by decide +kernel
theorem sX5_changeFeatures_0 {d : Nat} {σ : aS} {Q : aQ} {l0 : Option Value} {x : Int32} {lt : aL} {st : List Value} : aX d iX5_changeFeatures 0 (l0 :: some (.int x) :: lt) (st) σ Q ↔ aX d iX5_changeFeatures 1 (l0 :: some (.int x) :: lt) (.int x :: st) σ Q := X_iloadn kX5_changeFeatures_0 rfl
theorem kX5_changeFeatures_1 : aCode iX5_changeFeatures 1 = some (.bipush 16, 2) := by decide +kernel
theorem sX5_changeFeatures_1 {d : Nat} {σ : aS} {Q : aQ} {ls : aL} {st : List Value} : aX d iX5_changeFeatures 1 (ls) (st) σ Q ↔ aX d iX5_changeFeatures 3 (ls) (.int (nI 16) :: st) σ Q := X_bipush kX5_changeFeatures_1 (by decide +kernel)
theorem kX5_changeFeatures_3 : aCode iX5_changeFeatures 3 = some (.invokestatic 50, 3) := by decide +kernel
theorem sX5_changeFeatures_3 {d : Nat} {σ : aS} {Q : aQ} {p0 : Int32} {p1 : Int32} {ls : aL} : aX (d + 1) iX5_changeFeatures 3 (ls) (.int p1 :: .int p0 :: []) σ Q ↔ aX d iX6_isBelow 0 [some (.int p0), some (.int p1)] [] σ (fun r τ => aX (d + 1) iX5_changeFeatures 6 (ls) (aret r ([])) τ Q) := X_invs (N := 2) (As := [.int p1, .int p0]) (k := 4) (w := 230) kX5_changeFeatures_3 (by decide +kernel) (by decide) (by decide +kernel) rfl rfl (by simp only [List.length_cons, List.length_nil]; omega) (by simp only [List.length_cons, List.length_nil]; omega) rfl (Nat.le_of_ble_eq_true rfl)
theorem kX5_changeFeatures_6 : aCode iX5_changeFeatures 6 = some (.ifCond .ne 5, 3) := by decide +kernel
theorem sX5_changeFeatures_6 {d : Nat} {σ : aS} {Q : aQ} {x : Int32} {ls : aL} {st : List Value} : aX d iX5_changeFeatures 6 (ls) (.int x :: st) σ Q ↔ (if ¬ x = nI 0 then aX d iX5_changeFeatures 11 (ls) (st) σ Q else aX d iX5_changeFeatures 9 (ls) (st) σ Q) := by rw [X_if kX5_changeFeatures_6 (t := 11) (by decide)]; simp only [aCmp_ne]
theorem kX5_changeFeatures_9 : aCode iX5_changeFeatures 9 = some (.iconst (-1), 1) := by decide +kernel
theorem sX5_changeFeatures_9 {d : Nat} {σ : aS} {Q : aQ} {ls : aL} {st : List Value} : aX d iX5_changeFeatures 9 (ls) (st) σ Q ↔ aX d iX5_changeFeatures 10 (ls) (.int ((-1)) :: st) σ Q := X_iconst kX5_changeFeatures_9 (by decide +kernel)
theorem kX5_changeFeatures_10 : aCode iX5_changeFeatures 10 = some (.ireturn, 1) := by decide +kernel
theorem sX5_changeFeatures_10 {d : Nat} {σ : aS} {Q : aQ} {v : Int32} {ls : aL} : aX d iX5_changeFeatures 10 (ls) ([.int v]) σ Q ↔ Q (some (.int v)) σ := X_iret kX5_changeFeatures_10 (by decide +kernel)
theorem kX5_changeFeatures_11 : aCode iX5_changeFeatures 11 = some (.iload_n 2, 1) := by decide +kernel
theorem sX5_changeFeatures_11 {d : Nat} {σ : aS} {Q : aQ} {l0 l1 : Option Value} {x : Int32} {lt : aL} {st : List Value} : aX d iX5_changeFeatures 11 (l0 :: l1 :: some (.int x) :: lt) (st) σ Q ↔ aX d iX5_changeFeatures 12 (l0 :: l1 :: some (.int x) :: lt) (.int x :: st) σ Q := X_iloadn kX5_changeFeatures_11 rfl
theorem kX5_changeFeatures_12 : aCode iX5_changeFeatures 12 = some (.sipush 4096, 3) := by decide +kernel
theorem sX5_changeFeatures_12 {d : Nat} {σ : aS} {Q : aQ} {ls : aL} {st : List Value} : aX d iX5_changeFeatures 12 (ls) (st) σ Q ↔ aX d iX5_changeFeatures 15 (ls) (.int (nI 4096) :: st) σ Q := X_sipush kX5_changeFeatures_12 (by decide +kernel)
theorem kX5_changeFeatures_15 : aCode iX5_changeFeatures 15 = some (.invokestatic 50, 3) := by decide +kernel
theorem sX5_changeFeatures_15 {d : Nat} {σ : aS} {Q : aQ} {p0 : Int32} {p1 : Int32} {ls : aL} : aX (d + 1) iX5_changeFeatures 15 (ls) (.int p1 :: .int p0 :: []) σ Q ↔ aX d iX6_isBelow 0 [some (.int p0), some (.int p1)] [] σ (fun r τ => aX (d + 1) iX5_changeFeatures 18 (ls) (aret r ([])) τ Q) := X_invs (N := 2) (As := [.int p1, .int p0]) (k := 4) (w := 230) kX5_changeFeatures_15 (by decide +kernel) (by decide) (by decide +kernel) rfl rfl (by simp only [List.length_cons, List.length_nil]; omega) (by simp only [List.length_cons, List.length_nil]; omega) rfl (Nat.le_of_ble_eq_true rfl)
theorem kX5_changeFeatures_18 : aCode iX5_changeFeatures 18 = some (.ifCond .ne 6, 3) := by decide +kernel
theorem sX5_changeFeatures_18 {d : Nat} {σ : aS} {Q : aQ} {x : Int32} {ls : aL} {st : List Value} : aX d iX5_changeFeatures 18 (ls) (.int x :: st) σ Q ↔ (if ¬ x = nI 0 then aX d iX5_changeFeatures 24 (ls) (st) σ Q else aX d iX5_changeFeatures 21 (ls) (st) σ Q) := by rw [X_if kX5_changeFeatures_18 (t := 24) (by decide)]; simp only [aCmp_ne]
theorem kX5_changeFeatures_21 : aCode iX5_changeFeatures 21 = some (.bipush (-2), 2) := by decide +kernel
theorem sX5_changeFeatures_21 {d : Nat} {σ : aS} {Q : aQ} {ls : aL} {st : List Value} : aX d iX5_changeFeatures 21 (ls) (st) σ Q ↔ aX d iX5_changeFeatures 23 (ls) (.int ((-2)) :: st) σ Q := X_bipush kX5_changeFeatures_21 (by decide +kernel)
theorem kX5_changeFeatures_23 : aCode iX5_changeFeatures 23 = some (.ireturn, 1) := by decide +kernel
theorem sX5_changeFeatures_23 {d : Nat} {σ : aS} {Q : aQ} {v : Int32} {ls : aL} : aX d iX5_changeFeatures 23 (ls) ([.int v]) σ Q ↔ Q (some (.int v)) σ := X_iret kX5_changeFeatures_23 (by decide +kernel)
theorem kX5_changeFeatures_24 : aCode iX5_changeFeatures 24 = some (.aload_n 0, 1) := by decide +kernel
theorem sX5_changeFeatures_24 {d : Nat} {σ : aS} {Q : aQ} {x : Nat} {lt : aL} {st : List Value} : aX d iX5_changeFeatures 24 (some (.ref x) :: lt) (st) σ Q ↔ aX d iX5_changeFeatures 25 (some (.ref x) :: lt) (.ref x :: st) σ Q := X_aloadn kX5_changeFeatures_24 rfl rfl
theorem kX5_changeFeatures_25 : aCode iX5_changeFeatures 25 = some (.getfield 9, 3) := by decide +kernel
theorem sX5_changeFeatures_25 {d : Nat} {σ : aS} {Q : aQ} {a : Nat} {ls : aL} {st : List Value} : aX d iX5_changeFeatures 25 (ls) (.ref a :: st) σ Q ↔ ∃ v, aFld σ a 5 0 = some v ∧ aX d iX5_changeFeatures 28 (ls) (v :: st) σ Q := X_getf (w := 69) kX5_changeFeatures_25 (by decide +kernel)
theorem kX5_changeFeatures_28 : aCode iX5_changeFeatures 28 = some (.iload_n 1, 1) := by decide +kernel
theorem sX5_changeFeatures_28 {d : Nat} {σ : aS} {Q : aQ} {l0 : Option Value} {x : Int32} {lt : aL} {st : List Value} : aX d iX5_changeFeatures 28 (l0 :: some (.int x) :: lt) (st) σ Q ↔ aX d iX5_changeFeatures 29 (l0 :: some (.int x) :: lt) (.int x :: st) σ Q := X_iloadn kX5_changeFeatures_28 rfl
theorem kX5_changeFeatures_29 : aCode iX5_changeFeatures 29 = some (.invokestatic 54, 3) := by decide +kernel
theorem sX5_changeFeatures_29 {d : Nat} {σ : aS} {Q : aQ} {p0 : Nat} {p1 : Int32} {ls : aL} : aX (d + 1) iX5_changeFeatures 29 (ls) (.int p1 :: .ref p0 :: []) σ Q ↔ aX d iX6_valueAt 0 [some (.ref p0), some (.int p1)] [] σ (fun r τ => aX (d + 1) iX5_changeFeatures 32 (ls) (aret r ([])) τ Q) := X_invs (N := 2) (As := [.int p1, .ref p0]) (k := 4) (w := 233) kX5_changeFeatures_29 (by decide +kernel) (by decide) (by decide +kernel) rfl rfl (by simp only [List.length_cons, List.length_nil]; omega) (by simp only [List.length_cons, List.length_nil]; omega) rfl (Nat.le_of_ble_eq_true rfl)
theorem kX5_changeFeatures_32 : aCode iX5_changeFeatures 32 = some (.istore_n 3, 1) := by decide +kernel
theorem sX5_changeFeatures_32 {d : Nat} {σ : aS} {Q : aQ} {l0 l1 l2 lo : Option Value} {x : Int32} {lt : aL} {st : List Value} : aX d iX5_changeFeatures 32 (l0 :: l1 :: l2 :: lo :: lt) (.int x :: st) σ Q ↔ aX d iX5_changeFeatures 33 (l0 :: l1 :: aclr l2 :: some (.int x) :: lt) (st) σ Q := X_istoren kX5_changeFeatures_32 (by simp only [List.length_cons]; omega)
theorem kX5_changeFeatures_33 : aCode iX5_changeFeatures 33 = some (.aload_n 0, 1) := by decide +kernel
theorem sX5_changeFeatures_33 {d : Nat} {σ : aS} {Q : aQ} {x : Nat} {lt : aL} {st : List Value} : aX d iX5_changeFeatures 33 (some (.ref x) :: lt) (st) σ Q ↔ aX d iX5_changeFeatures 34 (some (.ref x) :: lt) (.ref x :: st) σ Q := X_aloadn kX5_changeFeatures_33 rfl rfl
theorem kX5_changeFeatures_34 : aCode iX5_changeFeatures 34 = some (.getfield 9, 3) := by decide +kernel
theorem sX5_changeFeatures_34 {d : Nat} {σ : aS} {Q : aQ} {a : Nat} {ls : aL} {st : List Value} : aX d iX5_changeFeatures 34 (ls) (.ref a :: st) σ Q ↔ ∃ v, aFld σ a 5 0 = some v ∧ aX d iX5_changeFeatures 37 (ls) (v :: st) σ Q := X_getf (w := 69) kX5_changeFeatures_34 (by decide +kernel)
theorem kX5_changeFeatures_37 : aCode iX5_changeFeatures 37 = some (.iload_n 1, 1) := by decide +kernel
theorem sX5_changeFeatures_37 {d : Nat} {σ : aS} {Q : aQ} {l0 : Option Value} {x : Int32} {lt : aL} {st : List Value} : aX d iX5_changeFeatures 37 (l0 :: some (.int x) :: lt) (st) σ Q ↔ aX d iX5_changeFeatures 38 (l0 :: some (.int x) :: lt) (.int x :: st) σ Q := X_iloadn kX5_changeFeatures_37 rfl
theorem kX5_changeFeatures_38 : aCode iX5_changeFeatures 38 = some (.iload_n 2, 1) := by decide +kernel
theorem sX5_changeFeatures_38 {d : Nat} {σ : aS} {Q : aQ} {l0 l1 : Option Value} {x : Int32} {lt : aL} {st : List Value} : aX d iX5_changeFeatures 38 (l0 :: l1 :: some (.int x) :: lt) (st) σ Q ↔ aX d iX5_changeFeatures 39 (l0 :: l1 :: some (.int x) :: lt) (.int x :: st) σ Q := X_iloadn kX5_changeFeatures_38 rfl
theorem kX5_changeFeatures_39 : aCode iX5_changeFeatures 39 = some (.invokestatic 58, 3) := by decide +kernel
theorem sX5_changeFeatures_39 {d : Nat} {σ : aS} {Q : aQ} {p0 : Nat} {p1 : Int32} {p2 : Int32} {ls : aL} : aX (d + 1) iX5_changeFeatures 39 (ls) (.int p2 :: .int p1 :: .ref p0 :: []) σ Q ↔ aX d iX6_setAt 0 [some (.ref p0), some (.int p1), some (.int p2)] [] σ (fun r τ => aX (d + 1) iX5_changeFeatures 42 (ls) (aret r ([])) τ Q) := X_invs (N := 3) (As := [.int p2, .int p1, .ref p0]) (k := 4) (w := 236) kX5_changeFeatures_39 (by decide +kernel) (by decide) (by decide +kernel) rfl rfl (by simp only [List.length_cons, List.length_nil]; omega) (by simp only [List.length_cons, List.length_nil]; omega) rfl (Nat.le_of_ble_eq_true rfl)
theorem kX5_changeFeatures_42 : aCode iX5_changeFeatures 42 = some (.iload_n 3, 1) := by decide +kernel
theorem sX5_changeFeatures_42 {d : Nat} {σ : aS} {Q : aQ} {l0 l1 l2 : Option Value} {x : Int32} {lt : aL} {st : List Value} : aX d iX5_changeFeatures 42 (l0 :: l1 :: l2 :: some (.int x) :: lt) (st) σ Q ↔ aX d iX5_changeFeatures 43 (l0 :: l1 :: l2 :: some (.int x) :: lt) (.int x :: st) σ Q := X_iloadn kX5_changeFeatures_42 rfl
theorem kX5_changeFeatures_43 : aCode iX5_changeFeatures 43 = some (.ireturn, 1) := by decide +kernel
theorem sX5_changeFeatures_43 {d : Nat} {σ : aS} {Q : aQ} {v : Int32} {ls : aL} : aX d iX5_changeFeatures 43 (ls) ([.int v]) σ Q ↔ Q (some (.int v)) σ := X_iret kX5_changeFeatures_43 (by decide +kernel)
theorem kX5_sitDown_0 : aCode iX5_sitDown 0 = some (.iload_n 1, 1) := by decide +kernel
theorem sX5_sitDown_0 {d : Nat} {σ : aS} {Q : aQ} {l0 : Option Value} {x : Int32} {lt : aL} {st : List Value} : aX d iX5_sitDown 0 (l0 :: some (.int x) :: lt) (st) σ Q ↔ aX d iX5_sitDown 1 (l0 :: some (.int x) :: lt) (.int x :: st) σ Q := X_iloadn kX5_sitDown_0 rfl
theorem kX5_sitDown_1 : aCode iX5_sitDown 1 = some (.bipush 8, 2) := by decide +kernel
theorem sX5_sitDown_1 {d : Nat} {σ : aS} {Q : aQ} {ls : aL} {st : List Value} : aX d iX5_sitDown 1 (ls) (st) σ Q ↔ aX d iX5_sitDown 3 (ls) (.int (nI 8) :: st) σ Q := X_bipush kX5_sitDown_1 (by decide +kernel)
theorem kX5_sitDown_3 : aCode iX5_sitDown 3 = some (.invokestatic 50, 3) := by decide +kernel
theorem sX5_sitDown_3 {d : Nat} {σ : aS} {Q : aQ} {p0 : Int32} {p1 : Int32} {ls : aL} : aX (d + 1) iX5_sitDown 3 (ls) (.int p1 :: .int p0 :: []) σ Q ↔ aX d iX6_isBelow 0 [some (.int p0), some (.int p1)] [] σ (fun r τ => aX (d + 1) iX5_sitDown 6 (ls) (aret r ([])) τ Q) := X_invs (N := 2) (As := [.int p1, .int p0]) (k := 4) (w := 230) kX5_sitDown_3 (by decide +kernel) (by decide) (by decide +kernel) rfl rfl (by simp only [List.length_cons, List.length_nil]; omega) (by simp only [List.length_cons, List.length_nil]; omega) rfl (Nat.le_of_ble_eq_true rfl)
theorem kX5_sitDown_6 : aCode iX5_sitDown 6 = some (.ifCond .ne 5, 3) := by decide +kernel
theorem sX5_sitDown_6 {d : Nat} {σ : aS} {Q : aQ} {x : Int32} {ls : aL} {st : List Value} : aX d iX5_sitDown 6 (ls) (.int x :: st) σ Q ↔ (if ¬ x = nI 0 then aX d iX5_sitDown 11 (ls) (st) σ Q else aX d iX5_sitDown 9 (ls) (st) σ Q) := by rw [X_if kX5_sitDown_6 (t := 11) (by decide)]; simp only [aCmp_ne]
theorem kX5_sitDown_9 : aCode iX5_sitDown 9 = some (.iconst (-1), 1) := by decide +kernel
theorem sX5_sitDown_9 {d : Nat} {σ : aS} {Q : aQ} {ls : aL} {st : List Value} : aX d iX5_sitDown 9 (ls) (st) σ Q ↔ aX d iX5_sitDown 10 (ls) (.int ((-1)) :: st) σ Q := X_iconst kX5_sitDown_9 (by decide +kernel)
theorem kX5_sitDown_10 : aCode iX5_sitDown 10 = some (.ireturn, 1) := by decide +kernel
theorem sX5_sitDown_10 {d : Nat} {σ : aS} {Q : aQ} {v : Int32} {ls : aL} : aX d iX5_sitDown 10 (ls) ([.int v]) σ Q ↔ Q (some (.int v)) σ := X_iret kX5_sitDown_10 (by decide +kernel)
theorem kX5_sitDown_11 : aCode iX5_sitDown 11 = some (.iload_n 2, 1) := by decide +kernel
theorem sX5_sitDown_11 {d : Nat} {σ : aS} {Q : aQ} {l0 l1 : Option Value} {x : Int32} {lt : aL} {st : List Value} : aX d iX5_sitDown 11 (l0 :: l1 :: some (.int x) :: lt) (st) σ Q ↔ aX d iX5_sitDown 12 (l0 :: l1 :: some (.int x) :: lt) (.int x :: st) σ Q := X_iloadn kX5_sitDown_11 rfl
theorem kX5_sitDown_12 : aCode iX5_sitDown 12 = some (.bipush (-6), 2) := by decide +kernel
theorem sX5_sitDown_12 {d : Nat} {σ : aS} {Q : aQ} {ls : aL} {st : List Value} : aX d iX5_sitDown 12 (ls) (st) σ Q ↔ aX d iX5_sitDown 14 (ls) (.int ((-6)) :: st) σ Q := X_bipush kX5_sitDown_12 (by decide +kernel)
theorem kX5_sitDown_14 : aCode iX5_sitDown 14 = some (.if_icmp .eq 16, 3) := by decide +kernel
theorem sX5_sitDown_14 {d : Nat} {σ : aS} {Q : aQ} {x y : Int32} {ls : aL} {st : List Value} : aX d iX5_sitDown 14 (ls) (.int y :: .int x :: st) σ Q ↔ (if x = y then aX d iX5_sitDown 30 (ls) (st) σ Q else aX d iX5_sitDown 17 (ls) (st) σ Q) := by rw [X_icmp kX5_sitDown_14 (t := 30) (by decide)]; simp only [aCmp_eq]
theorem kX5_sitDown_17 : aCode iX5_sitDown 17 = some (.iload_n 2, 1) := by decide +kernel
theorem sX5_sitDown_17 {d : Nat} {σ : aS} {Q : aQ} {l0 l1 : Option Value} {x : Int32} {lt : aL} {st : List Value} : aX d iX5_sitDown 17 (l0 :: l1 :: some (.int x) :: lt) (st) σ Q ↔ aX d iX5_sitDown 18 (l0 :: l1 :: some (.int x) :: lt) (.int x :: st) σ Q := X_iloadn kX5_sitDown_17 rfl
theorem kX5_sitDown_18 : aCode iX5_sitDown 18 = some (.sipush 4096, 3) := by decide +kernel
theorem sX5_sitDown_18 {d : Nat} {σ : aS} {Q : aQ} {ls : aL} {st : List Value} : aX d iX5_sitDown 18 (ls) (st) σ Q ↔ aX d iX5_sitDown 21 (ls) (.int (nI 4096) :: st) σ Q := X_sipush kX5_sitDown_18 (by decide +kernel)
theorem kX5_sitDown_21 : aCode iX5_sitDown 21 = some (.invokestatic 50, 3) := by decide +kernel
theorem sX5_sitDown_21 {d : Nat} {σ : aS} {Q : aQ} {p0 : Int32} {p1 : Int32} {ls : aL} : aX (d + 1) iX5_sitDown 21 (ls) (.int p1 :: .int p0 :: []) σ Q ↔ aX d iX6_isBelow 0 [some (.int p0), some (.int p1)] [] σ (fun r τ => aX (d + 1) iX5_sitDown 24 (ls) (aret r ([])) τ Q) := X_invs (N := 2) (As := [.int p1, .int p0]) (k := 4) (w := 230) kX5_sitDown_21 (by decide +kernel) (by decide) (by decide +kernel) rfl rfl (by simp only [List.length_cons, List.length_nil]; omega) (by simp only [List.length_cons, List.length_nil]; omega) rfl (Nat.le_of_ble_eq_true rfl)
theorem kX5_sitDown_24 : aCode iX5_sitDown 24 = some (.ifCond .ne 6, 3) := by decide +kernel
theorem sX5_sitDown_24 {d : Nat} {σ : aS} {Q : aQ} {x : Int32} {ls : aL} {st : List Value} : aX d iX5_sitDown 24 (ls) (.int x :: st) σ Q ↔ (if ¬ x = nI 0 then aX d iX5_sitDown 30 (ls) (st) σ Q else aX d iX5_sitDown 27 (ls) (st) σ Q) := by rw [X_if kX5_sitDown_24 (t := 30) (by decide)]; simp only [aCmp_ne]
theorem kX5_sitDown_27 : aCode iX5_sitDown 27 = some (.bipush (-2), 2) := by decide +kernel
theorem sX5_sitDown_27 {d : Nat} {σ : aS} {Q : aQ} {ls : aL} {st : List Value} : aX d iX5_sitDown 27 (ls) (st) σ Q ↔ aX d iX5_sitDown 29 (ls) (.int ((-2)) :: st) σ Q := X_bipush kX5_sitDown_27 (by decide +kernel)
theorem kX5_sitDown_29 : aCode iX5_sitDown 29 = some (.ireturn, 1) := by decide +kernel
theorem sX5_sitDown_29 {d : Nat} {σ : aS} {Q : aQ} {v : Int32} {ls : aL} : aX d iX5_sitDown 29 (ls) ([.int v]) σ Q ↔ Q (some (.int v)) σ := X_iret kX5_sitDown_29 (by decide +kernel)
theorem kX5_sitDown_30 : aCode iX5_sitDown 30 = some (.iload_n 2, 1) := by decide +kernel
theorem sX5_sitDown_30 {d : Nat} {σ : aS} {Q : aQ} {l0 l1 : Option Value} {x : Int32} {lt : aL} {st : List Value} : aX d iX5_sitDown 30 (l0 :: l1 :: some (.int x) :: lt) (st) σ Q ↔ aX d iX5_sitDown 31 (l0 :: l1 :: some (.int x) :: lt) (.int x :: st) σ Q := X_iloadn kX5_sitDown_30 rfl
theorem kX5_sitDown_31 : aCode iX5_sitDown 31 = some (.bipush (-6), 2) := by decide +kernel
theorem sX5_sitDown_31 {d : Nat} {σ : aS} {Q : aQ} {ls : aL} {st : List Value} : aX d iX5_sitDown 31 (ls) (st) σ Q ↔ aX d iX5_sitDown 33 (ls) (.int ((-6)) :: st) σ Q := X_bipush kX5_sitDown_31 (by decide +kernel)
theorem kX5_sitDown_33 : aCode iX5_sitDown 33 = some (.if_icmp .eq 12, 3) := by decide +kernel
theorem sX5_sitDown_33 {d : Nat} {σ : aS} {Q : aQ} {x y : Int32} {ls : aL} {st : List Value} : aX d iX5_sitDown 33 (ls) (.int y :: .int x :: st) σ Q ↔ (if x = y then aX d iX5_sitDown 45 (ls) (st) σ Q else aX d iX5_sitDown 36 (ls) (st) σ Q) := by rw [X_icmp kX5_sitDown_33 (t := 45) (by decide)]; simp only [aCmp_eq]
theorem kX5_sitDown_36 : aCode iX5_sitDown 36 = some (.aload_n 0, 1) := by decide +kernel
theorem sX5_sitDown_36 {d : Nat} {σ : aS} {Q : aQ} {x : Nat} {lt : aL} {st : List Value} : aX d iX5_sitDown 36 (some (.ref x) :: lt) (st) σ Q ↔ aX d iX5_sitDown 37 (some (.ref x) :: lt) (.ref x :: st) σ Q := X_aloadn kX5_sitDown_36 rfl rfl
theorem kX5_sitDown_37 : aCode iX5_sitDown 37 = some (.getfield 15, 3) := by decide +kernel
theorem sX5_sitDown_37 {d : Nat} {σ : aS} {Q : aQ} {a : Nat} {ls : aL} {st : List Value} : aX d iX5_sitDown 37 (ls) (.ref a :: st) σ Q ↔ ∃ v, aFld σ a 5 1 = some v ∧ aX d iX5_sitDown 40 (ls) (v :: st) σ Q := X_getf (w := 71) kX5_sitDown_37 (by decide +kernel)
theorem kX5_sitDown_40 : aCode iX5_sitDown 40 = some (.iload_n 1, 1) := by decide +kernel
theorem sX5_sitDown_40 {d : Nat} {σ : aS} {Q : aQ} {l0 : Option Value} {x : Int32} {lt : aL} {st : List Value} : aX d iX5_sitDown 40 (l0 :: some (.int x) :: lt) (st) σ Q ↔ aX d iX5_sitDown 41 (l0 :: some (.int x) :: lt) (.int x :: st) σ Q := X_iloadn kX5_sitDown_40 rfl
theorem kX5_sitDown_41 : aCode iX5_sitDown 41 = some (.iload_n 2, 1) := by decide +kernel
theorem sX5_sitDown_41 {d : Nat} {σ : aS} {Q : aQ} {l0 l1 : Option Value} {x : Int32} {lt : aL} {st : List Value} : aX d iX5_sitDown 41 (l0 :: l1 :: some (.int x) :: lt) (st) σ Q ↔ aX d iX5_sitDown 42 (l0 :: l1 :: some (.int x) :: lt) (.int x :: st) σ Q := X_iloadn kX5_sitDown_41 rfl
theorem kX5_sitDown_42 : aCode iX5_sitDown 42 = some (.invokestatic 58, 3) := by decide +kernel
theorem sX5_sitDown_42 {d : Nat} {σ : aS} {Q : aQ} {p0 : Nat} {p1 : Int32} {p2 : Int32} {ls : aL} : aX (d + 1) iX5_sitDown 42 (ls) (.int p2 :: .int p1 :: .ref p0 :: []) σ Q ↔ aX d iX6_setAt 0 [some (.ref p0), some (.int p1), some (.int p2)] [] σ (fun r τ => aX (d + 1) iX5_sitDown 45 (ls) (aret r ([])) τ Q) := X_invs (N := 3) (As := [.int p2, .int p1, .ref p0]) (k := 4) (w := 236) kX5_sitDown_42 (by decide +kernel) (by decide) (by decide +kernel) rfl rfl (by simp only [List.length_cons, List.length_nil]; omega) (by simp only [List.length_cons, List.length_nil]; omega) rfl (Nat.le_of_ble_eq_true rfl)
theorem kX5_sitDown_45 : aCode iX5_sitDown 45 = some (.aload_n 0, 1) := by decide +kernel
theorem sX5_sitDown_45 {d : Nat} {σ : aS} {Q : aQ} {x : Nat} {lt : aL} {st : List Value} : aX d iX5_sitDown 45 (some (.ref x) :: lt) (st) σ Q ↔ aX d iX5_sitDown 46 (some (.ref x) :: lt) (.ref x :: st) σ Q := X_aloadn kX5_sitDown_45 rfl rfl
theorem kX5_sitDown_46 : aCode iX5_sitDown 46 = some (.dup, 1) := by decide +kernel
theorem sX5_sitDown_46 {d : Nat} {σ : aS} {Q : aQ} {x : Nat} {ls : aL} {st : List Value} : aX d iX5_sitDown 46 (ls) (.ref x :: st) σ Q ↔ aX d iX5_sitDown 47 (ls) (.ref x :: .ref x :: st) σ Q := X_dup kX5_sitDown_46 rfl
theorem sX5_sitDown_46i {d : Nat} {σ : aS} {Q : aQ} {x : Int32} {ls : aL} {st : List Value} : aX d iX5_sitDown 46 (ls) (.int x :: st) σ Q ↔ aX d iX5_sitDown 47 (ls) (.int x :: .int x :: st) σ Q := X_dup kX5_sitDown_46 rfl
theorem kX5_sitDown_47 : aCode iX5_sitDown 47 = some (.getfield 32, 3) := by decide +kernel
theorem sX5_sitDown_47 {d : Nat} {σ : aS} {Q : aQ} {a : Nat} {ls : aL} {st : List Value} : aX d iX5_sitDown 47 (ls) (.ref a :: st) σ Q ↔ ∃ v, aFld σ a 5 4 = some v ∧ aX d iX5_sitDown 50 (ls) (v :: st) σ Q := X_getf (w := 77) kX5_sitDown_47 (by decide +kernel)
theorem kX5_sitDown_50 : aCode iX5_sitDown 50 = some (.iconst 1, 1) := by decide +kernel
theorem sX5_sitDown_50 {d : Nat} {σ : aS} {Q : aQ} {ls : aL} {st : List Value} : aX d iX5_sitDown 50 (ls) (st) σ Q ↔ aX d iX5_sitDown 51 (ls) (.int (nI 1) :: st) σ Q := X_iconst kX5_sitDown_50 (by decide +kernel)
theorem kX5_sitDown_51 : aCode iX5_sitDown 51 = some (.iload_n 1, 1) := by decide +kernel
theorem sX5_sitDown_51 {d : Nat} {σ : aS} {Q : aQ} {l0 : Option Value} {x : Int32} {lt : aL} {st : List Value} : aX d iX5_sitDown 51 (l0 :: some (.int x) :: lt) (st) σ Q ↔ aX d iX5_sitDown 52 (l0 :: some (.int x) :: lt) (.int x :: st) σ Q := X_iloadn kX5_sitDown_51 rfl
theorem kX5_sitDown_52 : aCode iX5_sitDown 52 = some (.ishl, 1) := by decide +kernel
theorem sX5_sitDown_52 {d : Nat} {σ : aS} {Q : aQ} {x y : Int32} {ls : aL} {st : List Value} : aX d iX5_sitDown 52 (ls) (.int y :: .int x :: st) σ Q ↔ aX d iX5_sitDown 53 (ls) (.int (x <<< (y &&& 31)) :: st) σ Q := X_ishl kX5_sitDown_52
theorem kX5_sitDown_53 : aCode iX5_sitDown 53 = some (.ior, 1) := by decide +kernel
theorem sX5_sitDown_53 {d : Nat} {σ : aS} {Q : aQ} {x y : Int32} {ls : aL} {st : List Value} : aX d iX5_sitDown 53 (ls) (.int y :: .int x :: st) σ Q ↔ aX d iX5_sitDown 54 (ls) (.int (x ||| y) :: st) σ Q := X_ior kX5_sitDown_53
theorem kX5_sitDown_54 : aCode iX5_sitDown 54 = some (.putfield 32, 3) := by decide +kernel
theorem sX5_sitDown_54 {d : Nat} {σ : aS} {Q : aQ} {x : Int32} {a : Nat} {ls : aL} {st : List Value} : aX d iX5_sitDown 54 (ls) (.int x :: .ref a :: st) σ Q ↔ ∃ fs, aFds σ a 5 = some fs ∧ 4 < fs.length ∧ aX d iX5_sitDown 57 (ls) (st) (aput σ a (eO 5 (fs.set 4 (.int x)))) Q := X_putf (w := 77) kX5_sitDown_54 (by decide +kernel) (aFit_I (by decide +kernel)) (by decide +kernel)
theorem kX5_sitDown_57 : aCode iX5_sitDown 57 = some (.aload_n 0, 1) := by decide +kernel
theorem sX5_sitDown_57 {d : Nat} {σ : aS} {Q : aQ} {x : Nat} {lt : aL} {st : List Value} : aX d iX5_sitDown 57 (some (.ref x) :: lt) (st) σ Q ↔ aX d iX5_sitDown 58 (some (.ref x) :: lt) (.ref x :: st) σ Q := X_aloadn kX5_sitDown_57 rfl rfl
theorem kX5_sitDown_58 : aCode iX5_sitDown 58 = some (.getfield 32, 3) := by decide +kernel
theorem sX5_sitDown_58 {d : Nat} {σ : aS} {Q : aQ} {a : Nat} {ls : aL} {st : List Value} : aX d iX5_sitDown 58 (ls) (.ref a :: st) σ Q ↔ ∃ v, aFld σ a 5 4 = some v ∧ aX d iX5_sitDown 61 (ls) (v :: st) σ Q := X_getf (w := 77) kX5_sitDown_58 (by decide +kernel)
theorem kX5_sitDown_61 : aCode iX5_sitDown 61 = some (.invokestatic 62, 3) := by decide +kernel
theorem sX5_sitDown_61 {d : Nat} {σ : aS} {Q : aQ} {p0 : Int32} {ls : aL} : aX (d + 1) iX5_sitDown 61 (ls) (.int p0 :: []) σ Q ↔ aX d iJ6_bitCount_0f7a4 0 [some (.int p0)] [] σ (fun r τ => aX (d + 1) iX5_sitDown 64 (ls) (aret r ([])) τ Q) := X_invs (N := 1) (As := [.int p0]) (k := 1) (w := 251) kX5_sitDown_61 (by decide +kernel) (by decide) (by decide +kernel) rfl rfl (by simp only [List.length_cons, List.length_nil]; omega) (by simp only [List.length_cons, List.length_nil]; omega) rfl (Nat.le_of_ble_eq_true rfl)
theorem kX5_sitDown_64 : aCode iX5_sitDown 64 = some (.ireturn, 1) := by decide +kernel
theorem sX5_sitDown_64 {d : Nat} {σ : aS} {Q : aQ} {v : Int32} {ls : aL} : aX d iX5_sitDown 64 (ls) ([.int v]) σ Q ↔ Q (some (.int v)) σ := X_iret kX5_sitDown_64 (by decide +kernel)
theorem kX5_standUp_0 : aCode iX5_standUp 0 = some (.iload_n 1, 1) := by decide +kernel
theorem sX5_standUp_0 {d : Nat} {σ : aS} {Q : aQ} {l0 : Option Value} {x : Int32} {lt : aL} {st : List Value} : aX d iX5_standUp 0 (l0 :: some (.int x) :: lt) (st) σ Q ↔ aX d iX5_standUp 1 (l0 :: some (.int x) :: lt) (.int x :: st) σ Q := X_iloadn kX5_standUp_0 rfl
theorem kX5_standUp_1 : aCode iX5_standUp 1 = some (.bipush 8, 2) := by decide +kernel
theorem sX5_standUp_1 {d : Nat} {σ : aS} {Q : aQ} {ls : aL} {st : List Value} : aX d iX5_standUp 1 (ls) (st) σ Q ↔ aX d iX5_standUp 3 (ls) (.int (nI 8) :: st) σ Q := X_bipush kX5_standUp_1 (by decide +kernel)
theorem kX5_standUp_3 : aCode iX5_standUp 3 = some (.invokestatic 50, 3) := by decide +kernel
theorem sX5_standUp_3 {d : Nat} {σ : aS} {Q : aQ} {p0 : Int32} {p1 : Int32} {ls : aL} : aX (d + 1) iX5_standUp 3 (ls) (.int p1 :: .int p0 :: []) σ Q ↔ aX d iX6_isBelow 0 [some (.int p0), some (.int p1)] [] σ (fun r τ => aX (d + 1) iX5_standUp 6 (ls) (aret r ([])) τ Q) := X_invs (N := 2) (As := [.int p1, .int p0]) (k := 4) (w := 230) kX5_standUp_3 (by decide +kernel) (by decide) (by decide +kernel) rfl rfl (by simp only [List.length_cons, List.length_nil]; omega) (by simp only [List.length_cons, List.length_nil]; omega) rfl (Nat.le_of_ble_eq_true rfl)
theorem kX5_standUp_6 : aCode iX5_standUp 6 = some (.ifCond .ne 5, 3) := by decide +kernel
theorem sX5_standUp_6 {d : Nat} {σ : aS} {Q : aQ} {x : Int32} {ls : aL} {st : List Value} : aX d iX5_standUp 6 (ls) (.int x :: st) σ Q ↔ (if ¬ x = nI 0 then aX d iX5_standUp 11 (ls) (st) σ Q else aX d iX5_standUp 9 (ls) (st) σ Q) := by rw [X_if kX5_standUp_6 (t := 11) (by decide)]; simp only [aCmp_ne]
theorem kX5_standUp_9 : aCode iX5_standUp 9 = some (.iconst (-1), 1) := by decide +kernel
theorem sX5_standUp_9 {d : Nat} {σ : aS} {Q : aQ} {ls : aL} {st : List Value} : aX d iX5_standUp 9 (ls) (st) σ Q ↔ aX d iX5_standUp 10 (ls) (.int ((-1)) :: st) σ Q := X_iconst kX5_standUp_9 (by decide +kernel)
theorem kX5_standUp_10 : aCode iX5_standUp 10 = some (.ireturn, 1) := by decide +kernel
theorem sX5_standUp_10 {d : Nat} {σ : aS} {Q : aQ} {v : Int32} {ls : aL} : aX d iX5_standUp 10 (ls) ([.int v]) σ Q ↔ Q (some (.int v)) σ := X_iret kX5_standUp_10 (by decide +kernel)
theorem kX5_standUp_11 : aCode iX5_standUp 11 = some (.aload_n 0, 1) := by decide +kernel
theorem sX5_standUp_11 {d : Nat} {σ : aS} {Q : aQ} {x : Nat} {lt : aL} {st : List Value} : aX d iX5_standUp 11 (some (.ref x) :: lt) (st) σ Q ↔ aX d iX5_standUp 12 (some (.ref x) :: lt) (.ref x :: st) σ Q := X_aloadn kX5_standUp_11 rfl rfl
theorem kX5_standUp_12 : aCode iX5_standUp 12 = some (.iload_n 1, 1) := by decide +kernel
theorem sX5_standUp_12 {d : Nat} {σ : aS} {Q : aQ} {l0 : Option Value} {x : Int32} {lt : aL} {st : List Value} : aX d iX5_standUp 12 (l0 :: some (.int x) :: lt) (st) σ Q ↔ aX d iX5_standUp 13 (l0 :: some (.int x) :: lt) (.int x :: st) σ Q := X_iloadn kX5_standUp_12 rfl
theorem kX5_standUp_13 : aCode iX5_standUp 13 = some (.invokevirtual 68, 3) := by decide +kernel
theorem sX5_standUp_13 {d : Nat} {σ : aS} {Q : aQ} {b : Nat} {p0 : Int32} {ls : aL} : aX (d + 1) iX5_standUp 13 (ls) (.int p0 :: .ref b :: []) σ Q ↔ aIs σ b 5 ∧ aX d iX5_isTaken 0 [some (.ref b), some (.int p0)] [] σ (fun r τ => aX (d + 1) iX5_standUp 16 (ls) (aret r ([])) τ Q) := X_invv (N := 1) (As := [.int p0]) (w := 265) kX5_standUp_13 (by decide +kernel) (by decide +kernel) rfl rfl (by simp only [List.length_cons, List.length_nil]; omega) (by simp only [List.length_cons, List.length_nil]; omega) (by decide +kernel) rfl (Nat.le_of_ble_eq_true rfl)
theorem kX5_standUp_16 : aCode iX5_standUp 16 = some (.ifCond .ne 6, 3) := by decide +kernel
theorem sX5_standUp_16 {d : Nat} {σ : aS} {Q : aQ} {x : Int32} {ls : aL} {st : List Value} : aX d iX5_standUp 16 (ls) (.int x :: st) σ Q ↔ (if ¬ x = nI 0 then aX d iX5_standUp 22 (ls) (st) σ Q else aX d iX5_standUp 19 (ls) (st) σ Q) := by rw [X_if kX5_standUp_16 (t := 22) (by decide)]; simp only [aCmp_ne]
theorem kX5_standUp_19 : aCode iX5_standUp 19 = some (.bipush (-5), 2) := by decide +kernel
theorem sX5_standUp_19 {d : Nat} {σ : aS} {Q : aQ} {ls : aL} {st : List Value} : aX d iX5_standUp 19 (ls) (st) σ Q ↔ aX d iX5_standUp 21 (ls) (.int ((-5)) :: st) σ Q := X_bipush kX5_standUp_19 (by decide +kernel)
theorem kX5_standUp_21 : aCode iX5_standUp 21 = some (.ireturn, 1) := by decide +kernel
theorem sX5_standUp_21 {d : Nat} {σ : aS} {Q : aQ} {v : Int32} {ls : aL} : aX d iX5_standUp 21 (ls) ([.int v]) σ Q ↔ Q (some (.int v)) σ := X_iret kX5_standUp_21 (by decide +kernel)
theorem kX5_standUp_22 : aCode iX5_standUp 22 = some (.aload_n 0, 1) := by decide +kernel
theorem sX5_standUp_22 {d : Nat} {σ : aS} {Q : aQ} {x : Nat} {lt : aL} {st : List Value} : aX d iX5_standUp 22 (some (.ref x) :: lt) (st) σ Q ↔ aX d iX5_standUp 23 (some (.ref x) :: lt) (.ref x :: st) σ Q := X_aloadn kX5_standUp_22 rfl rfl
theorem kX5_standUp_23 : aCode iX5_standUp 23 = some (.dup, 1) := by decide +kernel
theorem sX5_standUp_23 {d : Nat} {σ : aS} {Q : aQ} {x : Nat} {ls : aL} {st : List Value} : aX d iX5_standUp 23 (ls) (.ref x :: st) σ Q ↔ aX d iX5_standUp 24 (ls) (.ref x :: .ref x :: st) σ Q := X_dup kX5_standUp_23 rfl
theorem sX5_standUp_23i {d : Nat} {σ : aS} {Q : aQ} {x : Int32} {ls : aL} {st : List Value} : aX d iX5_standUp 23 (ls) (.int x :: st) σ Q ↔ aX d iX5_standUp 24 (ls) (.int x :: .int x :: st) σ Q := X_dup kX5_standUp_23 rfl
theorem kX5_standUp_24 : aCode iX5_standUp 24 = some (.getfield 32, 3) := by decide +kernel
theorem sX5_standUp_24 {d : Nat} {σ : aS} {Q : aQ} {a : Nat} {ls : aL} {st : List Value} : aX d iX5_standUp 24 (ls) (.ref a :: st) σ Q ↔ ∃ v, aFld σ a 5 4 = some v ∧ aX d iX5_standUp 27 (ls) (v :: st) σ Q := X_getf (w := 77) kX5_standUp_24 (by decide +kernel)
theorem kX5_standUp_27 : aCode iX5_standUp 27 = some (.iconst 1, 1) := by decide +kernel
theorem sX5_standUp_27 {d : Nat} {σ : aS} {Q : aQ} {ls : aL} {st : List Value} : aX d iX5_standUp 27 (ls) (st) σ Q ↔ aX d iX5_standUp 28 (ls) (.int (nI 1) :: st) σ Q := X_iconst kX5_standUp_27 (by decide +kernel)
theorem kX5_standUp_28 : aCode iX5_standUp 28 = some (.iload_n 1, 1) := by decide +kernel
theorem sX5_standUp_28 {d : Nat} {σ : aS} {Q : aQ} {l0 : Option Value} {x : Int32} {lt : aL} {st : List Value} : aX d iX5_standUp 28 (l0 :: some (.int x) :: lt) (st) σ Q ↔ aX d iX5_standUp 29 (l0 :: some (.int x) :: lt) (.int x :: st) σ Q := X_iloadn kX5_standUp_28 rfl
theorem kX5_standUp_29 : aCode iX5_standUp 29 = some (.ishl, 1) := by decide +kernel
theorem sX5_standUp_29 {d : Nat} {σ : aS} {Q : aQ} {x y : Int32} {ls : aL} {st : List Value} : aX d iX5_standUp 29 (ls) (.int y :: .int x :: st) σ Q ↔ aX d iX5_standUp 30 (ls) (.int (x <<< (y &&& 31)) :: st) σ Q := X_ishl kX5_standUp_29
theorem kX5_standUp_30 : aCode iX5_standUp 30 = some (.iconst (-1), 1) := by decide +kernel
theorem sX5_standUp_30 {d : Nat} {σ : aS} {Q : aQ} {ls : aL} {st : List Value} : aX d iX5_standUp 30 (ls) (st) σ Q ↔ aX d iX5_standUp 31 (ls) (.int ((-1)) :: st) σ Q := X_iconst kX5_standUp_30 (by decide +kernel)
theorem kX5_standUp_31 : aCode iX5_standUp 31 = some (.ixor, 1) := by decide +kernel
theorem sX5_standUp_31 {d : Nat} {σ : aS} {Q : aQ} {x y : Int32} {ls : aL} {st : List Value} : aX d iX5_standUp 31 (ls) (.int y :: .int x :: st) σ Q ↔ aX d iX5_standUp 32 (ls) (.int (x ^^^ y) :: st) σ Q := X_ixor kX5_standUp_31
theorem kX5_standUp_32 : aCode iX5_standUp 32 = some (.iand, 1) := by decide +kernel
theorem sX5_standUp_32 {d : Nat} {σ : aS} {Q : aQ} {x y : Int32} {ls : aL} {st : List Value} : aX d iX5_standUp 32 (ls) (.int y :: .int x :: st) σ Q ↔ aX d iX5_standUp 33 (ls) (.int (x &&& y) :: st) σ Q := X_iand kX5_standUp_32
theorem kX5_standUp_33 : aCode iX5_standUp 33 = some (.putfield 32, 3) := by decide +kernel
theorem sX5_standUp_33 {d : Nat} {σ : aS} {Q : aQ} {x : Int32} {a : Nat} {ls : aL} {st : List Value} : aX d iX5_standUp 33 (ls) (.int x :: .ref a :: st) σ Q ↔ ∃ fs, aFds σ a 5 = some fs ∧ 4 < fs.length ∧ aX d iX5_standUp 36 (ls) (st) (aput σ a (eO 5 (fs.set 4 (.int x)))) Q := X_putf (w := 77) kX5_standUp_33 (by decide +kernel) (aFit_I (by decide +kernel)) (by decide +kernel)
theorem kX5_standUp_36 : aCode iX5_standUp 36 = some (.aload_n 0, 1) := by decide +kernel
theorem sX5_standUp_36 {d : Nat} {σ : aS} {Q : aQ} {x : Nat} {lt : aL} {st : List Value} : aX d iX5_standUp 36 (some (.ref x) :: lt) (st) σ Q ↔ aX d iX5_standUp 37 (some (.ref x) :: lt) (.ref x :: st) σ Q := X_aloadn kX5_standUp_36 rfl rfl
theorem kX5_standUp_37 : aCode iX5_standUp 37 = some (.getfield 32, 3) := by decide +kernel
theorem sX5_standUp_37 {d : Nat} {σ : aS} {Q : aQ} {a : Nat} {ls : aL} {st : List Value} : aX d iX5_standUp 37 (ls) (.ref a :: st) σ Q ↔ ∃ v, aFld σ a 5 4 = some v ∧ aX d iX5_standUp 40 (ls) (v :: st) σ Q := X_getf (w := 77) kX5_standUp_37 (by decide +kernel)
theorem kX5_standUp_40 : aCode iX5_standUp 40 = some (.invokestatic 62, 3) := by decide +kernel
theorem sX5_standUp_40 {d : Nat} {σ : aS} {Q : aQ} {p0 : Int32} {ls : aL} : aX (d + 1) iX5_standUp 40 (ls) (.int p0 :: []) σ Q ↔ aX d iJ6_bitCount_0f7a4 0 [some (.int p0)] [] σ (fun r τ => aX (d + 1) iX5_standUp 43 (ls) (aret r ([])) τ Q) := X_invs (N := 1) (As := [.int p0]) (k := 1) (w := 251) kX5_standUp_40 (by decide +kernel) (by decide) (by decide +kernel) rfl rfl (by simp only [List.length_cons, List.length_nil]; omega) (by simp only [List.length_cons, List.length_nil]; omega) rfl (Nat.le_of_ble_eq_true rfl)
theorem kX5_standUp_43 : aCode iX5_standUp 43 = some (.ireturn, 1) := by decide +kernel
theorem sX5_standUp_43 {d : Nat} {σ : aS} {Q : aQ} {v : Int32} {ls : aL} : aX d iX5_standUp 43 (ls) ([.int v]) σ Q ↔ Q (some (.int v)) σ := X_iret kX5_standUp_43 (by decide +kernel)
theorem kX5_beginAlbum_0 : aCode iX5_beginAlbum 0 = some (.iload_n 1, 1) := by decide +kernel
theorem sX5_beginAlbum_0 {d : Nat} {σ : aS} {Q : aQ} {l0 : Option Value} {x : Int32} {lt : aL} {st : List Value} : aX d iX5_beginAlbum 0 (l0 :: some (.int x) :: lt) (st) σ Q ↔ aX d iX5_beginAlbum 1 (l0 :: some (.int x) :: lt) (.int x :: st) σ Q := X_iloadn kX5_beginAlbum_0 rfl
theorem kX5_beginAlbum_1 : aCode iX5_beginAlbum 1 = some (.bipush 8, 2) := by decide +kernel
theorem sX5_beginAlbum_1 {d : Nat} {σ : aS} {Q : aQ} {ls : aL} {st : List Value} : aX d iX5_beginAlbum 1 (ls) (st) σ Q ↔ aX d iX5_beginAlbum 3 (ls) (.int (nI 8) :: st) σ Q := X_bipush kX5_beginAlbum_1 (by decide +kernel)
theorem kX5_beginAlbum_3 : aCode iX5_beginAlbum 3 = some (.invokestatic 50, 3) := by decide +kernel
theorem sX5_beginAlbum_3 {d : Nat} {σ : aS} {Q : aQ} {p0 : Int32} {p1 : Int32} {ls : aL} : aX (d + 1) iX5_beginAlbum 3 (ls) (.int p1 :: .int p0 :: []) σ Q ↔ aX d iX6_isBelow 0 [some (.int p0), some (.int p1)] [] σ (fun r τ => aX (d + 1) iX5_beginAlbum 6 (ls) (aret r ([])) τ Q) := X_invs (N := 2) (As := [.int p1, .int p0]) (k := 4) (w := 230) kX5_beginAlbum_3 (by decide +kernel) (by decide) (by decide +kernel) rfl rfl (by simp only [List.length_cons, List.length_nil]; omega) (by simp only [List.length_cons, List.length_nil]; omega) rfl (Nat.le_of_ble_eq_true rfl)
theorem kX5_beginAlbum_6 : aCode iX5_beginAlbum 6 = some (.ifCond .eq 12, 3) := by decide +kernel
theorem sX5_beginAlbum_6 {d : Nat} {σ : aS} {Q : aQ} {x : Int32} {ls : aL} {st : List Value} : aX d iX5_beginAlbum 6 (ls) (.int x :: st) σ Q ↔ (if x = nI 0 then aX d iX5_beginAlbum 18 (ls) (st) σ Q else aX d iX5_beginAlbum 9 (ls) (st) σ Q) := by rw [X_if kX5_beginAlbum_6 (t := 18) (by decide)]; simp only [aCmp_eq]
theorem kX5_beginAlbum_9 : aCode iX5_beginAlbum 9 = some (.iload_n 2, 1) := by decide +kernel
theorem sX5_beginAlbum_9 {d : Nat} {σ : aS} {Q : aQ} {l0 l1 : Option Value} {x : Int32} {lt : aL} {st : List Value} : aX d iX5_beginAlbum 9 (l0 :: l1 :: some (.int x) :: lt) (st) σ Q ↔ aX d iX5_beginAlbum 10 (l0 :: l1 :: some (.int x) :: lt) (.int x :: st) σ Q := X_iloadn kX5_beginAlbum_9 rfl
theorem kX5_beginAlbum_10 : aCode iX5_beginAlbum 10 = some (.bipush 16, 2) := by decide +kernel
theorem sX5_beginAlbum_10 {d : Nat} {σ : aS} {Q : aQ} {ls : aL} {st : List Value} : aX d iX5_beginAlbum 10 (ls) (st) σ Q ↔ aX d iX5_beginAlbum 12 (ls) (.int (nI 16) :: st) σ Q := X_bipush kX5_beginAlbum_10 (by decide +kernel)
theorem kX5_beginAlbum_12 : aCode iX5_beginAlbum 12 = some (.invokestatic 50, 3) := by decide +kernel
theorem sX5_beginAlbum_12 {d : Nat} {σ : aS} {Q : aQ} {p0 : Int32} {p1 : Int32} {ls : aL} : aX (d + 1) iX5_beginAlbum 12 (ls) (.int p1 :: .int p0 :: []) σ Q ↔ aX d iX6_isBelow 0 [some (.int p0), some (.int p1)] [] σ (fun r τ => aX (d + 1) iX5_beginAlbum 15 (ls) (aret r ([])) τ Q) := X_invs (N := 2) (As := [.int p1, .int p0]) (k := 4) (w := 230) kX5_beginAlbum_12 (by decide +kernel) (by decide) (by decide +kernel) rfl rfl (by simp only [List.length_cons, List.length_nil]; omega) (by simp only [List.length_cons, List.length_nil]; omega) rfl (Nat.le_of_ble_eq_true rfl)
theorem kX5_beginAlbum_15 : aCode iX5_beginAlbum 15 = some (.ifCond .ne 5, 3) := by decide +kernel
theorem sX5_beginAlbum_15 {d : Nat} {σ : aS} {Q : aQ} {x : Int32} {ls : aL} {st : List Value} : aX d iX5_beginAlbum 15 (ls) (.int x :: st) σ Q ↔ (if ¬ x = nI 0 then aX d iX5_beginAlbum 20 (ls) (st) σ Q else aX d iX5_beginAlbum 18 (ls) (st) σ Q) := by rw [X_if kX5_beginAlbum_15 (t := 20) (by decide)]; simp only [aCmp_ne]
theorem kX5_beginAlbum_18 : aCode iX5_beginAlbum 18 = some (.iconst (-1), 1) := by decide +kernel
theorem sX5_beginAlbum_18 {d : Nat} {σ : aS} {Q : aQ} {ls : aL} {st : List Value} : aX d iX5_beginAlbum 18 (ls) (st) σ Q ↔ aX d iX5_beginAlbum 19 (ls) (.int ((-1)) :: st) σ Q := X_iconst kX5_beginAlbum_18 (by decide +kernel)
theorem kX5_beginAlbum_19 : aCode iX5_beginAlbum 19 = some (.ireturn, 1) := by decide +kernel
theorem sX5_beginAlbum_19 {d : Nat} {σ : aS} {Q : aQ} {v : Int32} {ls : aL} : aX d iX5_beginAlbum 19 (ls) ([.int v]) σ Q ↔ Q (some (.int v)) σ := X_iret kX5_beginAlbum_19 (by decide +kernel)
theorem kX5_beginAlbum_20 : aCode iX5_beginAlbum 20 = some (.aload_n 0, 1) := by decide +kernel
theorem sX5_beginAlbum_20 {d : Nat} {σ : aS} {Q : aQ} {x : Nat} {lt : aL} {st : List Value} : aX d iX5_beginAlbum 20 (some (.ref x) :: lt) (st) σ Q ↔ aX d iX5_beginAlbum 21 (some (.ref x) :: lt) (.ref x :: st) σ Q := X_aloadn kX5_beginAlbum_20 rfl rfl
theorem kX5_beginAlbum_21 : aCode iX5_beginAlbum 21 = some (.aload_n 0, 1) := by decide +kernel
theorem sX5_beginAlbum_21 {d : Nat} {σ : aS} {Q : aQ} {x : Nat} {lt : aL} {st : List Value} : aX d iX5_beginAlbum 21 (some (.ref x) :: lt) (st) σ Q ↔ aX d iX5_beginAlbum 22 (some (.ref x) :: lt) (.ref x :: st) σ Q := X_aloadn kX5_beginAlbum_21 rfl rfl
theorem kX5_beginAlbum_22 : aCode iX5_beginAlbum 22 = some (.getfield 39, 3) := by decide +kernel
theorem sX5_beginAlbum_22 {d : Nat} {σ : aS} {Q : aQ} {a : Nat} {ls : aL} {st : List Value} : aX d iX5_beginAlbum 22 (ls) (.ref a :: st) σ Q ↔ ∃ v, aFld σ a 5 5 = some v ∧ aX d iX5_beginAlbum 25 (ls) (v :: st) σ Q := X_getf (w := 79) kX5_beginAlbum_22 (by decide +kernel)
theorem kX5_beginAlbum_25 : aCode iX5_beginAlbum 25 = some (.invokevirtual 42, 3) := by decide +kernel
theorem sX5_beginAlbum_25 {d : Nat} {σ : aS} {Q : aQ} {b : Nat} {p0 : Int32} {ls : aL} : aX (d + 1) iX5_beginAlbum 25 (ls) (.int p0 :: .ref b :: []) σ Q ↔ aIs σ b 5 ∧ aX d iX5_placeAt 0 [some (.ref b), some (.int p0)] [] σ (fun r τ => aX (d + 1) iX5_beginAlbum 28 (ls) (aret r ([])) τ Q) := X_invv (N := 1) (As := [.int p0]) (w := 217) kX5_beginAlbum_25 (by decide +kernel) (by decide +kernel) rfl rfl (by simp only [List.length_cons, List.length_nil]; omega) (by simp only [List.length_cons, List.length_nil]; omega) (by decide +kernel) rfl (Nat.le_of_ble_eq_true rfl)
theorem kX5_beginAlbum_28 : aCode iX5_beginAlbum 28 = some (.astore_n 3, 1) := by decide +kernel
theorem sX5_beginAlbum_28 {d : Nat} {σ : aS} {Q : aQ} {l0 l1 l2 lo : Option Value} {x : Nat} {lt : aL} {st : List Value} : aX d iX5_beginAlbum 28 (l0 :: l1 :: l2 :: lo :: lt) (.ref x :: st) σ Q ↔ aX d iX5_beginAlbum 29 (l0 :: l1 :: aclr l2 :: some (.ref x) :: lt) (st) σ Q := X_astoren kX5_beginAlbum_28 (by simp only [List.length_cons]; omega) rfl
theorem sX5_beginAlbum_28n {d : Nat} {σ : aS} {Q : aQ} {l0 l1 l2 lo : Option Value} {lt : aL} {st : List Value} : aX d iX5_beginAlbum 28 (l0 :: l1 :: l2 :: lo :: lt) (.null :: st) σ Q ↔ aX d iX5_beginAlbum 29 (l0 :: l1 :: aclr l2 :: some (.null) :: lt) (st) σ Q := X_astoren kX5_beginAlbum_28 (by simp only [List.length_cons]; omega) rfl
theorem kX5_beginAlbum_29 : aCode iX5_beginAlbum 29 = some (.aload_n 3, 1) := by decide +kernel
theorem sX5_beginAlbum_29 {d : Nat} {σ : aS} {Q : aQ} {l0 l1 l2 : Option Value} {x : Nat} {lt : aL} {st : List Value} : aX d iX5_beginAlbum 29 (l0 :: l1 :: l2 :: some (.ref x) :: lt) (st) σ Q ↔ aX d iX5_beginAlbum 30 (l0 :: l1 :: l2 :: some (.ref x) :: lt) (.ref x :: st) σ Q := X_aloadn kX5_beginAlbum_29 rfl rfl
theorem sX5_beginAlbum_29n {d : Nat} {σ : aS} {Q : aQ} {l0 l1 l2 : Option Value} {lt : aL} {st : List Value} : aX d iX5_beginAlbum 29 (l0 :: l1 :: l2 :: some .null :: lt) (st) σ Q ↔ aX d iX5_beginAlbum 30 (l0 :: l1 :: l2 :: some .null :: lt) (.null :: st) σ Q := X_aloadn kX5_beginAlbum_29 rfl rfl
theorem kX5_beginAlbum_30 : aCode iX5_beginAlbum 30 = some (.ifnonnull 6, 3) := by decide +kernel
theorem sX5_beginAlbum_30 {d : Nat} {σ : aS} {Q : aQ} {x : Nat} {ls : aL} {st : List Value} : aX d iX5_beginAlbum 30 (ls) (.ref x :: st) σ Q ↔ aX d iX5_beginAlbum 36 (ls) (st) σ Q := X_ifnonnull kX5_beginAlbum_30 (t := 36) (by decide)
theorem sX5_beginAlbum_30n {d : Nat} {σ : aS} {Q : aQ} {ls : aL} {st : List Value} : aX d iX5_beginAlbum 30 (ls) (.null :: st) σ Q ↔ aX d iX5_beginAlbum 33 (ls) (st) σ Q := X_ifnonnullN kX5_beginAlbum_30 (t := 36) (by decide)
theorem kX5_beginAlbum_33 : aCode iX5_beginAlbum 33 = some (.bipush (-4), 2) := by decide +kernel
theorem sX5_beginAlbum_33 {d : Nat} {σ : aS} {Q : aQ} {ls : aL} {st : List Value} : aX d iX5_beginAlbum 33 (ls) (st) σ Q ↔ aX d iX5_beginAlbum 35 (ls) (.int ((-4)) :: st) σ Q := X_bipush kX5_beginAlbum_33 (by decide +kernel)
theorem kX5_beginAlbum_35 : aCode iX5_beginAlbum 35 = some (.ireturn, 1) := by decide +kernel
theorem sX5_beginAlbum_35 {d : Nat} {σ : aS} {Q : aQ} {v : Int32} {ls : aL} : aX d iX5_beginAlbum 35 (ls) ([.int v]) σ Q ↔ Q (some (.int v)) σ := X_iret kX5_beginAlbum_35 (by decide +kernel)
theorem kX5_beginAlbum_36 : aCode iX5_beginAlbum 36 = some (.aload_n 0, 1) := by decide +kernel
theorem sX5_beginAlbum_36 {d : Nat} {σ : aS} {Q : aQ} {x : Nat} {lt : aL} {st : List Value} : aX d iX5_beginAlbum 36 (some (.ref x) :: lt) (st) σ Q ↔ aX d iX5_beginAlbum 37 (some (.ref x) :: lt) (.ref x :: st) σ Q := X_aloadn kX5_beginAlbum_36 rfl rfl
theorem kX5_beginAlbum_37 : aCode iX5_beginAlbum 37 = some (.iload_n 1, 1) := by decide +kernel
theorem sX5_beginAlbum_37 {d : Nat} {σ : aS} {Q : aQ} {l0 : Option Value} {x : Int32} {lt : aL} {st : List Value} : aX d iX5_beginAlbum 37 (l0 :: some (.int x) :: lt) (st) σ Q ↔ aX d iX5_beginAlbum 38 (l0 :: some (.int x) :: lt) (.int x :: st) σ Q := X_iloadn kX5_beginAlbum_37 rfl
theorem kX5_beginAlbum_38 : aCode iX5_beginAlbum 38 = some (.invokevirtual 68, 3) := by decide +kernel
theorem sX5_beginAlbum_38 {d : Nat} {σ : aS} {Q : aQ} {b : Nat} {p0 : Int32} {ls : aL} : aX (d + 1) iX5_beginAlbum 38 (ls) (.int p0 :: .ref b :: []) σ Q ↔ aIs σ b 5 ∧ aX d iX5_isTaken 0 [some (.ref b), some (.int p0)] [] σ (fun r τ => aX (d + 1) iX5_beginAlbum 41 (ls) (aret r ([])) τ Q) := X_invv (N := 1) (As := [.int p0]) (w := 265) kX5_beginAlbum_38 (by decide +kernel) (by decide +kernel) rfl rfl (by simp only [List.length_cons, List.length_nil]; omega) (by simp only [List.length_cons, List.length_nil]; omega) (by decide +kernel) rfl (Nat.le_of_ble_eq_true rfl)
theorem kX5_beginAlbum_41 : aCode iX5_beginAlbum 41 = some (.ifCond .eq 13, 3) := by decide +kernel
theorem sX5_beginAlbum_41 {d : Nat} {σ : aS} {Q : aQ} {x : Int32} {ls : aL} {st : List Value} : aX d iX5_beginAlbum 41 (ls) (.int x :: st) σ Q ↔ (if x = nI 0 then aX d iX5_beginAlbum 54 (ls) (st) σ Q else aX d iX5_beginAlbum 44 (ls) (st) σ Q) := by rw [X_if kX5_beginAlbum_41 (t := 54) (by decide)]; simp only [aCmp_eq]
theorem kX5_beginAlbum_44 : aCode iX5_beginAlbum 44 = some (.aload_n 0, 1) := by decide +kernel
theorem sX5_beginAlbum_44 {d : Nat} {σ : aS} {Q : aQ} {x : Nat} {lt : aL} {st : List Value} : aX d iX5_beginAlbum 44 (some (.ref x) :: lt) (st) σ Q ↔ aX d iX5_beginAlbum 45 (some (.ref x) :: lt) (.ref x :: st) σ Q := X_aloadn kX5_beginAlbum_44 rfl rfl
theorem kX5_beginAlbum_45 : aCode iX5_beginAlbum 45 = some (.iload_n 1, 1) := by decide +kernel
theorem sX5_beginAlbum_45 {d : Nat} {σ : aS} {Q : aQ} {l0 : Option Value} {x : Int32} {lt : aL} {st : List Value} : aX d iX5_beginAlbum 45 (l0 :: some (.int x) :: lt) (st) σ Q ↔ aX d iX5_beginAlbum 46 (l0 :: some (.int x) :: lt) (.int x :: st) σ Q := X_iloadn kX5_beginAlbum_45 rfl
theorem kX5_beginAlbum_46 : aCode iX5_beginAlbum 46 = some (.invokevirtual 72, 3) := by decide +kernel
theorem sX5_beginAlbum_46 {d : Nat} {σ : aS} {Q : aQ} {b : Nat} {p0 : Int32} {ls : aL} : aX (d + 1) iX5_beginAlbum 46 (ls) (.int p0 :: .ref b :: []) σ Q ↔ aIs σ b 5 ∧ aX d iX5_albumGoingRoundOf 0 [some (.ref b), some (.int p0), none, none] [] σ (fun r τ => aX (d + 1) iX5_beginAlbum 49 (ls) (aret r ([])) τ Q) := X_invv (N := 1) (As := [.int p0]) (w := 277) kX5_beginAlbum_46 (by decide +kernel) (by decide +kernel) rfl rfl (by simp only [List.length_cons, List.length_nil]; omega) (by simp only [List.length_cons, List.length_nil]; omega) (by decide +kernel) rfl (Nat.le_of_ble_eq_true rfl)
theorem kX5_beginAlbum_49 : aCode iX5_beginAlbum 49 = some (.bipush (-6), 2) := by decide +kernel
theorem sX5_beginAlbum_49 {d : Nat} {σ : aS} {Q : aQ} {ls : aL} {st : List Value} : aX d iX5_beginAlbum 49 (ls) (st) σ Q ↔ aX d iX5_beginAlbum 51 (ls) (.int ((-6)) :: st) σ Q := X_bipush kX5_beginAlbum_49 (by decide +kernel)
theorem kX5_beginAlbum_51 : aCode iX5_beginAlbum 51 = some (.if_icmp .eq 6, 3) := by decide +kernel
theorem sX5_beginAlbum_51 {d : Nat} {σ : aS} {Q : aQ} {x y : Int32} {ls : aL} {st : List Value} : aX d iX5_beginAlbum 51 (ls) (.int y :: .int x :: st) σ Q ↔ (if x = y then aX d iX5_beginAlbum 57 (ls) (st) σ Q else aX d iX5_beginAlbum 54 (ls) (st) σ Q) := by rw [X_icmp kX5_beginAlbum_51 (t := 57) (by decide)]; simp only [aCmp_eq]
theorem kX5_beginAlbum_54 : aCode iX5_beginAlbum 54 = some (.bipush (-5), 2) := by decide +kernel
theorem sX5_beginAlbum_54 {d : Nat} {σ : aS} {Q : aQ} {ls : aL} {st : List Value} : aX d iX5_beginAlbum 54 (ls) (st) σ Q ↔ aX d iX5_beginAlbum 56 (ls) (.int ((-5)) :: st) σ Q := X_bipush kX5_beginAlbum_54 (by decide +kernel)
theorem kX5_beginAlbum_56 : aCode iX5_beginAlbum 56 = some (.ireturn, 1) := by decide +kernel
theorem sX5_beginAlbum_56 {d : Nat} {σ : aS} {Q : aQ} {v : Int32} {ls : aL} : aX d iX5_beginAlbum 56 (ls) ([.int v]) σ Q ↔ Q (some (.int v)) σ := X_iret kX5_beginAlbum_56 (by decide +kernel)
theorem kX5_beginAlbum_57 : aCode iX5_beginAlbum 57 = some (.aload_n 3, 1) := by decide +kernel
theorem sX5_beginAlbum_57 {d : Nat} {σ : aS} {Q : aQ} {l0 l1 l2 : Option Value} {x : Nat} {lt : aL} {st : List Value} : aX d iX5_beginAlbum 57 (l0 :: l1 :: l2 :: some (.ref x) :: lt) (st) σ Q ↔ aX d iX5_beginAlbum 58 (l0 :: l1 :: l2 :: some (.ref x) :: lt) (.ref x :: st) σ Q := X_aloadn kX5_beginAlbum_57 rfl rfl
theorem sX5_beginAlbum_57n {d : Nat} {σ : aS} {Q : aQ} {l0 l1 l2 : Option Value} {lt : aL} {st : List Value} : aX d iX5_beginAlbum 57 (l0 :: l1 :: l2 :: some .null :: lt) (st) σ Q ↔ aX d iX5_beginAlbum 58 (l0 :: l1 :: l2 :: some .null :: lt) (.null :: st) σ Q := X_aloadn kX5_beginAlbum_57 rfl rfl
theorem kX5_beginAlbum_58 : aCode iX5_beginAlbum 58 = some (.iload_n 1, 1) := by decide +kernel
theorem sX5_beginAlbum_58 {d : Nat} {σ : aS} {Q : aQ} {l0 : Option Value} {x : Int32} {lt : aL} {st : List Value} : aX d iX5_beginAlbum 58 (l0 :: some (.int x) :: lt) (st) σ Q ↔ aX d iX5_beginAlbum 59 (l0 :: some (.int x) :: lt) (.int x :: st) σ Q := X_iloadn kX5_beginAlbum_58 rfl
theorem kX5_beginAlbum_59 : aCode iX5_beginAlbum 59 = some (.iload_n 2, 1) := by decide +kernel
theorem sX5_beginAlbum_59 {d : Nat} {σ : aS} {Q : aQ} {l0 l1 : Option Value} {x : Int32} {lt : aL} {st : List Value} : aX d iX5_beginAlbum 59 (l0 :: l1 :: some (.int x) :: lt) (st) σ Q ↔ aX d iX5_beginAlbum 60 (l0 :: l1 :: some (.int x) :: lt) (.int x :: st) σ Q := X_iloadn kX5_beginAlbum_59 rfl
theorem kX5_beginAlbum_60 : aCode iX5_beginAlbum 60 = some (.invokevirtual 75, 3) := by decide +kernel
theorem sX5_beginAlbum_60 {d : Nat} {σ : aS} {Q : aQ} {b : Nat} {p0 : Int32} {p1 : Int32} {ls : aL} : aX (d + 1) iX5_beginAlbum 60 (ls) (.int p1 :: .int p0 :: .ref b :: []) σ Q ↔ aIs σ b 0 ∧ aX d iX0_start 0 [some (.ref b), some (.int p0), some (.int p1)] [] σ (fun r τ => aX (d + 1) iX5_beginAlbum 63 (ls) (aret r ([])) τ Q) := X_invv (N := 2) (As := [.int p1, .int p0]) (w := 289) kX5_beginAlbum_60 (by decide +kernel) (by decide +kernel) rfl rfl (by simp only [List.length_cons, List.length_nil]; omega) (by simp only [List.length_cons, List.length_nil]; omega) (by decide +kernel) rfl (Nat.le_of_ble_eq_true rfl)
theorem kX5_beginAlbum_63 : aCode iX5_beginAlbum 63 = some (.aload_n 0, 1) := by decide +kernel
theorem sX5_beginAlbum_63 {d : Nat} {σ : aS} {Q : aQ} {x : Nat} {lt : aL} {st : List Value} : aX d iX5_beginAlbum 63 (some (.ref x) :: lt) (st) σ Q ↔ aX d iX5_beginAlbum 64 (some (.ref x) :: lt) (.ref x :: st) σ Q := X_aloadn kX5_beginAlbum_63 rfl rfl
theorem kX5_beginAlbum_64 : aCode iX5_beginAlbum 64 = some (.dup, 1) := by decide +kernel
theorem sX5_beginAlbum_64 {d : Nat} {σ : aS} {Q : aQ} {x : Nat} {ls : aL} {st : List Value} : aX d iX5_beginAlbum 64 (ls) (.ref x :: st) σ Q ↔ aX d iX5_beginAlbum 65 (ls) (.ref x :: .ref x :: st) σ Q := X_dup kX5_beginAlbum_64 rfl
theorem sX5_beginAlbum_64i {d : Nat} {σ : aS} {Q : aQ} {x : Int32} {ls : aL} {st : List Value} : aX d iX5_beginAlbum 64 (ls) (.int x :: st) σ Q ↔ aX d iX5_beginAlbum 65 (ls) (.int x :: .int x :: st) σ Q := X_dup kX5_beginAlbum_64 rfl
theorem kX5_beginAlbum_65 : aCode iX5_beginAlbum 65 = some (.getfield 39, 3) := by decide +kernel
theorem sX5_beginAlbum_65 {d : Nat} {σ : aS} {Q : aQ} {a : Nat} {ls : aL} {st : List Value} : aX d iX5_beginAlbum 65 (ls) (.ref a :: st) σ Q ↔ ∃ v, aFld σ a 5 5 = some v ∧ aX d iX5_beginAlbum 68 (ls) (v :: st) σ Q := X_getf (w := 79) kX5_beginAlbum_65 (by decide +kernel)
theorem kX5_beginAlbum_68 : aCode iX5_beginAlbum 68 = some (.iconst 1, 1) := by decide +kernel
theorem sX5_beginAlbum_68 {d : Nat} {σ : aS} {Q : aQ} {ls : aL} {st : List Value} : aX d iX5_beginAlbum 68 (ls) (st) σ Q ↔ aX d iX5_beginAlbum 69 (ls) (.int (nI 1) :: st) σ Q := X_iconst kX5_beginAlbum_68 (by decide +kernel)
theorem kX5_beginAlbum_69 : aCode iX5_beginAlbum 69 = some (.iadd, 1) := by decide +kernel
theorem sX5_beginAlbum_69 {d : Nat} {σ : aS} {Q : aQ} {x y : Int32} {ls : aL} {st : List Value} : aX d iX5_beginAlbum 69 (ls) (.int y :: .int x :: st) σ Q ↔ aX d iX5_beginAlbum 70 (ls) (.int (x + y) :: st) σ Q := X_iadd kX5_beginAlbum_69
theorem kX5_beginAlbum_70 : aCode iX5_beginAlbum 70 = some (.putfield 39, 3) := by decide +kernel
theorem sX5_beginAlbum_70 {d : Nat} {σ : aS} {Q : aQ} {x : Int32} {a : Nat} {ls : aL} {st : List Value} : aX d iX5_beginAlbum 70 (ls) (.int x :: .ref a :: st) σ Q ↔ ∃ fs, aFds σ a 5 = some fs ∧ 5 < fs.length ∧ aX d iX5_beginAlbum 73 (ls) (st) (aput σ a (eO 5 (fs.set 5 (.int x)))) Q := X_putf (w := 79) kX5_beginAlbum_70 (by decide +kernel) (aFit_I (by decide +kernel)) (by decide +kernel)
theorem kX5_beginAlbum_73 : aCode iX5_beginAlbum 73 = some (.aload_n 0, 1) := by decide +kernel
theorem sX5_beginAlbum_73 {d : Nat} {σ : aS} {Q : aQ} {x : Nat} {lt : aL} {st : List Value} : aX d iX5_beginAlbum 73 (some (.ref x) :: lt) (st) σ Q ↔ aX d iX5_beginAlbum 74 (some (.ref x) :: lt) (.ref x :: st) σ Q := X_aloadn kX5_beginAlbum_73 rfl rfl
theorem kX5_beginAlbum_74 : aCode iX5_beginAlbum 74 = some (.getfield 39, 3) := by decide +kernel
theorem sX5_beginAlbum_74 {d : Nat} {σ : aS} {Q : aQ} {a : Nat} {ls : aL} {st : List Value} : aX d iX5_beginAlbum 74 (ls) (.ref a :: st) σ Q ↔ ∃ v, aFld σ a 5 5 = some v ∧ aX d iX5_beginAlbum 77 (ls) (v :: st) σ Q := X_getf (w := 79) kX5_beginAlbum_74 (by decide +kernel)
theorem kX5_beginAlbum_77 : aCode iX5_beginAlbum 77 = some (.iconst 1, 1) := by decide +kernel
theorem sX5_beginAlbum_77 {d : Nat} {σ : aS} {Q : aQ} {ls : aL} {st : List Value} : aX d iX5_beginAlbum 77 (ls) (st) σ Q ↔ aX d iX5_beginAlbum 78 (ls) (.int (nI 1) :: st) σ Q := X_iconst kX5_beginAlbum_77 (by decide +kernel)
theorem kX5_beginAlbum_78 : aCode iX5_beginAlbum 78 = some (.isub, 1) := by decide +kernel
theorem sX5_beginAlbum_78 {d : Nat} {σ : aS} {Q : aQ} {x y : Int32} {ls : aL} {st : List Value} : aX d iX5_beginAlbum 78 (ls) (.int y :: .int x :: st) σ Q ↔ aX d iX5_beginAlbum 79 (ls) (.int (x - y) :: st) σ Q := X_isub kX5_beginAlbum_78
theorem kX5_beginAlbum_79 : aCode iX5_beginAlbum 79 = some (.ireturn, 1) := by decide +kernel
theorem sX5_beginAlbum_79 {d : Nat} {σ : aS} {Q : aQ} {v : Int32} {ls : aL} : aX d iX5_beginAlbum 79 (ls) ([.int v]) σ Q ↔ Q (some (.int v)) σ := X_iret kX5_beginAlbum_79 (by decide +kernel)
theorem kX5_tellPage_0 : aCode iX5_tellPage 0 = some (.aload_n 0, 1) := by decide +kernel
theorem sX5_tellPage_0 {d : Nat} {σ : aS} {Q : aQ} {x : Nat} {lt : aL} {st : List Value} : aX d iX5_tellPage 0 (some (.ref x) :: lt) (st) σ Q ↔ aX d iX5_tellPage 1 (some (.ref x) :: lt) (.ref x :: st) σ Q := X_aloadn kX5_tellPage_0 rfl rfl
theorem kX5_tellPage_1 : aCode iX5_tellPage 1 = some (.iload_n 1, 1) := by decide +kernel
theorem sX5_tellPage_1 {d : Nat} {σ : aS} {Q : aQ} {l0 : Option Value} {x : Int32} {lt : aL} {st : List Value} : aX d iX5_tellPage 1 (l0 :: some (.int x) :: lt) (st) σ Q ↔ aX d iX5_tellPage 2 (l0 :: some (.int x) :: lt) (.int x :: st) σ Q := X_iloadn kX5_tellPage_1 rfl
theorem kX5_tellPage_2 : aCode iX5_tellPage 2 = some (.invokevirtual 79, 3) := by decide +kernel
theorem sX5_tellPage_2 {d : Nat} {σ : aS} {Q : aQ} {b : Nat} {p0 : Int32} {ls : aL} : aX (d + 1) iX5_tellPage 2 (ls) (.int p0 :: .ref b :: []) σ Q ↔ aIs σ b 5 ∧ aX d iX5_albumAt 0 [some (.ref b), some (.int p0)] [] σ (fun r τ => aX (d + 1) iX5_tellPage 5 (ls) (aret r ([])) τ Q) := X_invv (N := 1) (As := [.int p0]) (w := 281) kX5_tellPage_2 (by decide +kernel) (by decide +kernel) rfl rfl (by simp only [List.length_cons, List.length_nil]; omega) (by simp only [List.length_cons, List.length_nil]; omega) (by decide +kernel) rfl (Nat.le_of_ble_eq_true rfl)
theorem kX5_tellPage_5 : aCode iX5_tellPage 5 = some (.astore_n 3, 1) := by decide +kernel
theorem sX5_tellPage_5 {d : Nat} {σ : aS} {Q : aQ} {l0 l1 l2 lo : Option Value} {x : Nat} {lt : aL} {st : List Value} : aX d iX5_tellPage 5 (l0 :: l1 :: l2 :: lo :: lt) (.ref x :: st) σ Q ↔ aX d iX5_tellPage 6 (l0 :: l1 :: aclr l2 :: some (.ref x) :: lt) (st) σ Q := X_astoren kX5_tellPage_5 (by simp only [List.length_cons]; omega) rfl
theorem sX5_tellPage_5n {d : Nat} {σ : aS} {Q : aQ} {l0 l1 l2 lo : Option Value} {lt : aL} {st : List Value} : aX d iX5_tellPage 5 (l0 :: l1 :: l2 :: lo :: lt) (.null :: st) σ Q ↔ aX d iX5_tellPage 6 (l0 :: l1 :: aclr l2 :: some (.null) :: lt) (st) σ Q := X_astoren kX5_tellPage_5 (by simp only [List.length_cons]; omega) rfl
theorem kX5_tellPage_6 : aCode iX5_tellPage 6 = some (.aload_n 3, 1) := by decide +kernel
theorem sX5_tellPage_6 {d : Nat} {σ : aS} {Q : aQ} {l0 l1 l2 : Option Value} {x : Nat} {lt : aL} {st : List Value} : aX d iX5_tellPage 6 (l0 :: l1 :: l2 :: some (.ref x) :: lt) (st) σ Q ↔ aX d iX5_tellPage 7 (l0 :: l1 :: l2 :: some (.ref x) :: lt) (.ref x :: st) σ Q := X_aloadn kX5_tellPage_6 rfl rfl
theorem sX5_tellPage_6n {d : Nat} {σ : aS} {Q : aQ} {l0 l1 l2 : Option Value} {lt : aL} {st : List Value} : aX d iX5_tellPage 6 (l0 :: l1 :: l2 :: some .null :: lt) (st) σ Q ↔ aX d iX5_tellPage 7 (l0 :: l1 :: l2 :: some .null :: lt) (.null :: st) σ Q := X_aloadn kX5_tellPage_6 rfl rfl
theorem kX5_tellPage_7 : aCode iX5_tellPage 7 = some (.ifnonnull 5, 3) := by decide +kernel
theorem sX5_tellPage_7 {d : Nat} {σ : aS} {Q : aQ} {x : Nat} {ls : aL} {st : List Value} : aX d iX5_tellPage 7 (ls) (.ref x :: st) σ Q ↔ aX d iX5_tellPage 12 (ls) (st) σ Q := X_ifnonnull kX5_tellPage_7 (t := 12) (by decide)
theorem sX5_tellPage_7n {d : Nat} {σ : aS} {Q : aQ} {ls : aL} {st : List Value} : aX d iX5_tellPage 7 (ls) (.null :: st) σ Q ↔ aX d iX5_tellPage 10 (ls) (st) σ Q := X_ifnonnullN kX5_tellPage_7 (t := 12) (by decide)
theorem kX5_tellPage_10 : aCode iX5_tellPage 10 = some (.iconst (-1), 1) := by decide +kernel
theorem sX5_tellPage_10 {d : Nat} {σ : aS} {Q : aQ} {ls : aL} {st : List Value} : aX d iX5_tellPage 10 (ls) (st) σ Q ↔ aX d iX5_tellPage 11 (ls) (.int ((-1)) :: st) σ Q := X_iconst kX5_tellPage_10 (by decide +kernel)
theorem kX5_tellPage_11 : aCode iX5_tellPage 11 = some (.ireturn, 1) := by decide +kernel
theorem sX5_tellPage_11 {d : Nat} {σ : aS} {Q : aQ} {v : Int32} {ls : aL} : aX d iX5_tellPage 11 (ls) ([.int v]) σ Q ↔ Q (some (.int v)) σ := X_iret kX5_tellPage_11 (by decide +kernel)
theorem kX5_tellPage_12 : aCode iX5_tellPage 12 = some (.iload_n 2, 1) := by decide +kernel
theorem sX5_tellPage_12 {d : Nat} {σ : aS} {Q : aQ} {l0 l1 : Option Value} {x : Int32} {lt : aL} {st : List Value} : aX d iX5_tellPage 12 (l0 :: l1 :: some (.int x) :: lt) (st) σ Q ↔ aX d iX5_tellPage 13 (l0 :: l1 :: some (.int x) :: lt) (.int x :: st) σ Q := X_iloadn kX5_tellPage_12 rfl
theorem kX5_tellPage_13 : aCode iX5_tellPage 13 = some (.aload_n 3, 1) := by decide +kernel
theorem sX5_tellPage_13 {d : Nat} {σ : aS} {Q : aQ} {l0 l1 l2 : Option Value} {x : Nat} {lt : aL} {st : List Value} : aX d iX5_tellPage 13 (l0 :: l1 :: l2 :: some (.ref x) :: lt) (st) σ Q ↔ aX d iX5_tellPage 14 (l0 :: l1 :: l2 :: some (.ref x) :: lt) (.ref x :: st) σ Q := X_aloadn kX5_tellPage_13 rfl rfl
theorem sX5_tellPage_13n {d : Nat} {σ : aS} {Q : aQ} {l0 l1 l2 : Option Value} {lt : aL} {st : List Value} : aX d iX5_tellPage 13 (l0 :: l1 :: l2 :: some .null :: lt) (st) σ Q ↔ aX d iX5_tellPage 14 (l0 :: l1 :: l2 :: some .null :: lt) (.null :: st) σ Q := X_aloadn kX5_tellPage_13 rfl rfl
theorem kX5_tellPage_14 : aCode iX5_tellPage 14 = some (.invokevirtual 82, 3) := by decide +kernel
theorem sX5_tellPage_14 {d : Nat} {σ : aS} {Q : aQ} {b : Nat} {v0 : Value} {ls : aL} : aX (d + 1) iX5_tellPage 14 (ls) (.ref b :: v0 :: []) σ Q ↔ aIs σ b 0 ∧ aX d iX0_endsWithWord 0 [some (.ref b)] [] σ (fun r τ => aX (d + 1) iX5_tellPage 17 (ls) (aret r (v0 :: [])) τ Q) := X_invv (N := 0) (As := []) (w := 306) kX5_tellPage_14 (by decide +kernel) (by decide +kernel) rfl rfl (by simp only [List.length_cons, List.length_nil]; omega) (by simp only [List.length_cons, List.length_nil]; omega) (by decide +kernel) rfl (Nat.le_of_ble_eq_true rfl)
theorem kX5_tellPage_17 : aCode iX5_tellPage 17 = some (.ifCond .eq 9, 3) := by decide +kernel
theorem sX5_tellPage_17 {d : Nat} {σ : aS} {Q : aQ} {x : Int32} {ls : aL} {st : List Value} : aX d iX5_tellPage 17 (ls) (.int x :: st) σ Q ↔ (if x = nI 0 then aX d iX5_tellPage 26 (ls) (st) σ Q else aX d iX5_tellPage 20 (ls) (st) σ Q) := by rw [X_if kX5_tellPage_17 (t := 26) (by decide)]; simp only [aCmp_eq]
theorem kX5_tellPage_20 : aCode iX5_tellPage 20 = some (.sipush 4096, 3) := by decide +kernel
theorem sX5_tellPage_20 {d : Nat} {σ : aS} {Q : aQ} {ls : aL} {st : List Value} : aX d iX5_tellPage 20 (ls) (st) σ Q ↔ aX d iX5_tellPage 23 (ls) (.int (nI 4096) :: st) σ Q := X_sipush kX5_tellPage_20 (by decide +kernel)
theorem kX5_tellPage_23 : aCode iX5_tellPage 23 = some (.goto 5, 3) := by decide +kernel
theorem sX5_tellPage_23 {d : Nat} {σ : aS} {Q : aQ} {ls : aL} {st : List Value} : aX d iX5_tellPage 23 (ls) (st) σ Q ↔ aX d iX5_tellPage 28 (ls) (st) σ Q := X_goto kX5_tellPage_23 (by decide)
theorem kX5_tellPage_26 : aCode iX5_tellPage 26 = some (.bipush 16, 2) := by decide +kernel
theorem sX5_tellPage_26 {d : Nat} {σ : aS} {Q : aQ} {ls : aL} {st : List Value} : aX d iX5_tellPage 26 (ls) (st) σ Q ↔ aX d iX5_tellPage 28 (ls) (.int (nI 16) :: st) σ Q := X_bipush kX5_tellPage_26 (by decide +kernel)
theorem kX5_tellPage_28 : aCode iX5_tellPage 28 = some (.invokestatic 50, 3) := by decide +kernel
theorem sX5_tellPage_28 {d : Nat} {σ : aS} {Q : aQ} {p0 : Int32} {p1 : Int32} {ls : aL} : aX (d + 1) iX5_tellPage 28 (ls) (.int p1 :: .int p0 :: []) σ Q ↔ aX d iX6_isBelow 0 [some (.int p0), some (.int p1)] [] σ (fun r τ => aX (d + 1) iX5_tellPage 31 (ls) (aret r ([])) τ Q) := X_invs (N := 2) (As := [.int p1, .int p0]) (k := 4) (w := 230) kX5_tellPage_28 (by decide +kernel) (by decide) (by decide +kernel) rfl rfl (by simp only [List.length_cons, List.length_nil]; omega) (by simp only [List.length_cons, List.length_nil]; omega) rfl (Nat.le_of_ble_eq_true rfl)
theorem kX5_tellPage_31 : aCode iX5_tellPage 31 = some (.ifCond .ne 6, 3) := by decide +kernel
theorem sX5_tellPage_31 {d : Nat} {σ : aS} {Q : aQ} {x : Int32} {ls : aL} {st : List Value} : aX d iX5_tellPage 31 (ls) (.int x :: st) σ Q ↔ (if ¬ x = nI 0 then aX d iX5_tellPage 37 (ls) (st) σ Q else aX d iX5_tellPage 34 (ls) (st) σ Q) := by rw [X_if kX5_tellPage_31 (t := 37) (by decide)]; simp only [aCmp_ne]
theorem kX5_tellPage_34 : aCode iX5_tellPage 34 = some (.bipush (-2), 2) := by decide +kernel
theorem sX5_tellPage_34 {d : Nat} {σ : aS} {Q : aQ} {ls : aL} {st : List Value} : aX d iX5_tellPage 34 (ls) (st) σ Q ↔ aX d iX5_tellPage 36 (ls) (.int ((-2)) :: st) σ Q := X_bipush kX5_tellPage_34 (by decide +kernel)
theorem kX5_tellPage_36 : aCode iX5_tellPage 36 = some (.ireturn, 1) := by decide +kernel
theorem sX5_tellPage_36 {d : Nat} {σ : aS} {Q : aQ} {v : Int32} {ls : aL} : aX d iX5_tellPage 36 (ls) ([.int v]) σ Q ↔ Q (some (.int v)) σ := X_iret kX5_tellPage_36 (by decide +kernel)
theorem kX5_tellPage_37 : aCode iX5_tellPage 37 = some (.aload_n 3, 1) := by decide +kernel
theorem sX5_tellPage_37 {d : Nat} {σ : aS} {Q : aQ} {l0 l1 l2 : Option Value} {x : Nat} {lt : aL} {st : List Value} : aX d iX5_tellPage 37 (l0 :: l1 :: l2 :: some (.ref x) :: lt) (st) σ Q ↔ aX d iX5_tellPage 38 (l0 :: l1 :: l2 :: some (.ref x) :: lt) (.ref x :: st) σ Q := X_aloadn kX5_tellPage_37 rfl rfl
theorem sX5_tellPage_37n {d : Nat} {σ : aS} {Q : aQ} {l0 l1 l2 : Option Value} {lt : aL} {st : List Value} : aX d iX5_tellPage 37 (l0 :: l1 :: l2 :: some .null :: lt) (st) σ Q ↔ aX d iX5_tellPage 38 (l0 :: l1 :: l2 :: some .null :: lt) (.null :: st) σ Q := X_aloadn kX5_tellPage_37 rfl rfl
theorem kX5_tellPage_38 : aCode iX5_tellPage 38 = some (.invokevirtual 86, 3) := by decide +kernel
theorem sX5_tellPage_38 {d : Nat} {σ : aS} {Q : aQ} {b : Nat} {ls : aL} : aX (d + 1) iX5_tellPage 38 (ls) (.ref b :: []) σ Q ↔ aIs σ b 0 ∧ aX d iX0_goesRound 0 [some (.ref b)] [] σ (fun r τ => aX (d + 1) iX5_tellPage 41 (ls) (aret r ([])) τ Q) := X_invv (N := 0) (As := []) (w := 285) kX5_tellPage_38 (by decide +kernel) (by decide +kernel) rfl rfl (by simp only [List.length_cons, List.length_nil]; omega) (by simp only [List.length_cons, List.length_nil]; omega) (by decide +kernel) rfl (Nat.le_of_ble_eq_true rfl)
theorem kX5_tellPage_41 : aCode iX5_tellPage 41 = some (.ifCond .ne 6, 3) := by decide +kernel
theorem sX5_tellPage_41 {d : Nat} {σ : aS} {Q : aQ} {x : Int32} {ls : aL} {st : List Value} : aX d iX5_tellPage 41 (ls) (.int x :: st) σ Q ↔ (if ¬ x = nI 0 then aX d iX5_tellPage 47 (ls) (st) σ Q else aX d iX5_tellPage 44 (ls) (st) σ Q) := by rw [X_if kX5_tellPage_41 (t := 47) (by decide)]; simp only [aCmp_ne]
theorem kX5_tellPage_44 : aCode iX5_tellPage 44 = some (.bipush (-5), 2) := by decide +kernel
theorem sX5_tellPage_44 {d : Nat} {σ : aS} {Q : aQ} {ls : aL} {st : List Value} : aX d iX5_tellPage 44 (ls) (st) σ Q ↔ aX d iX5_tellPage 46 (ls) (.int ((-5)) :: st) σ Q := X_bipush kX5_tellPage_44 (by decide +kernel)
theorem kX5_tellPage_46 : aCode iX5_tellPage 46 = some (.ireturn, 1) := by decide +kernel
theorem sX5_tellPage_46 {d : Nat} {σ : aS} {Q : aQ} {v : Int32} {ls : aL} : aX d iX5_tellPage 46 (ls) ([.int v]) σ Q ↔ Q (some (.int v)) σ := X_iret kX5_tellPage_46 (by decide +kernel)
theorem kX5_tellPage_47 : aCode iX5_tellPage 47 = some (.aload_n 3, 1) := by decide +kernel
theorem sX5_tellPage_47 {d : Nat} {σ : aS} {Q : aQ} {l0 l1 l2 : Option Value} {x : Nat} {lt : aL} {st : List Value} : aX d iX5_tellPage 47 (l0 :: l1 :: l2 :: some (.ref x) :: lt) (st) σ Q ↔ aX d iX5_tellPage 48 (l0 :: l1 :: l2 :: some (.ref x) :: lt) (.ref x :: st) σ Q := X_aloadn kX5_tellPage_47 rfl rfl
theorem sX5_tellPage_47n {d : Nat} {σ : aS} {Q : aQ} {l0 l1 l2 : Option Value} {lt : aL} {st : List Value} : aX d iX5_tellPage 47 (l0 :: l1 :: l2 :: some .null :: lt) (st) σ Q ↔ aX d iX5_tellPage 48 (l0 :: l1 :: l2 :: some .null :: lt) (.null :: st) σ Q := X_aloadn kX5_tellPage_47 rfl rfl
theorem kX5_tellPage_48 : aCode iX5_tellPage 48 = some (.getfield 89, 3) := by decide +kernel
theorem sX5_tellPage_48 {d : Nat} {σ : aS} {Q : aQ} {a : Nat} {ls : aL} {st : List Value} : aX d iX5_tellPage 48 (ls) (.ref a :: st) σ Q ↔ ∃ v, aFld σ a 0 5 = some v ∧ aX d iX5_tellPage 51 (ls) (v :: st) σ Q := X_getf (w := 51) kX5_tellPage_48 (by decide +kernel)
theorem kX5_tellPage_51 : aCode iX5_tellPage 51 = some (.bipush (-6), 2) := by decide +kernel
theorem sX5_tellPage_51 {d : Nat} {σ : aS} {Q : aQ} {ls : aL} {st : List Value} : aX d iX5_tellPage 51 (ls) (st) σ Q ↔ aX d iX5_tellPage 53 (ls) (.int ((-6)) :: st) σ Q := X_bipush kX5_tellPage_51 (by decide +kernel)
theorem kX5_tellPage_53 : aCode iX5_tellPage 53 = some (.if_icmp .ne 7, 3) := by decide +kernel
theorem sX5_tellPage_53 {d : Nat} {σ : aS} {Q : aQ} {x y : Int32} {ls : aL} {st : List Value} : aX d iX5_tellPage 53 (ls) (.int y :: .int x :: st) σ Q ↔ (if ¬ x = y then aX d iX5_tellPage 60 (ls) (st) σ Q else aX d iX5_tellPage 56 (ls) (st) σ Q) := by rw [X_icmp kX5_tellPage_53 (t := 60) (by decide)]; simp only [aCmp_ne]
theorem kX5_tellPage_56 : aCode iX5_tellPage 56 = some (.iconst 0, 1) := by decide +kernel
theorem sX5_tellPage_56 {d : Nat} {σ : aS} {Q : aQ} {ls : aL} {st : List Value} : aX d iX5_tellPage 56 (ls) (st) σ Q ↔ aX d iX5_tellPage 57 (ls) (.int (nI 0) :: st) σ Q := X_iconst kX5_tellPage_56 (by decide +kernel)
theorem kX5_tellPage_57 : aCode iX5_tellPage 57 = some (.goto 4, 3) := by decide +kernel
theorem sX5_tellPage_57 {d : Nat} {σ : aS} {Q : aQ} {ls : aL} {st : List Value} : aX d iX5_tellPage 57 (ls) (st) σ Q ↔ aX d iX5_tellPage 61 (ls) (st) σ Q := X_goto kX5_tellPage_57 (by decide)
theorem kX5_tellPage_60 : aCode iX5_tellPage 60 = some (.iconst 1, 1) := by decide +kernel
theorem sX5_tellPage_60 {d : Nat} {σ : aS} {Q : aQ} {ls : aL} {st : List Value} : aX d iX5_tellPage 60 (ls) (st) σ Q ↔ aX d iX5_tellPage 61 (ls) (.int (nI 1) :: st) σ Q := X_iconst kX5_tellPage_60 (by decide +kernel)
theorem kX5_tellPage_61 : aCode iX5_tellPage 61 = some (.istore 4, 2) := by decide +kernel
theorem sX5_tellPage_61 {d : Nat} {σ : aS} {Q : aQ} {l0 l1 l2 l3 lo : Option Value} {x : Int32} {lt : aL} {st : List Value} : aX d iX5_tellPage 61 (l0 :: l1 :: l2 :: l3 :: lo :: lt) (.int x :: st) σ Q ↔ aX d iX5_tellPage 63 (l0 :: l1 :: l2 :: aclr l3 :: some (.int x) :: lt) (st) σ Q := X_istore kX5_tellPage_61 (by simp only [List.length_cons]; omega)
theorem kX5_tellPage_63 : aCode iX5_tellPage 63 = some (.aload_n 3, 1) := by decide +kernel
theorem sX5_tellPage_63 {d : Nat} {σ : aS} {Q : aQ} {l0 l1 l2 : Option Value} {x : Nat} {lt : aL} {st : List Value} : aX d iX5_tellPage 63 (l0 :: l1 :: l2 :: some (.ref x) :: lt) (st) σ Q ↔ aX d iX5_tellPage 64 (l0 :: l1 :: l2 :: some (.ref x) :: lt) (.ref x :: st) σ Q := X_aloadn kX5_tellPage_63 rfl rfl
theorem sX5_tellPage_63n {d : Nat} {σ : aS} {Q : aQ} {l0 l1 l2 : Option Value} {lt : aL} {st : List Value} : aX d iX5_tellPage 63 (l0 :: l1 :: l2 :: some .null :: lt) (st) σ Q ↔ aX d iX5_tellPage 64 (l0 :: l1 :: l2 :: some .null :: lt) (.null :: st) σ Q := X_aloadn kX5_tellPage_63 rfl rfl
theorem kX5_tellPage_64 : aCode iX5_tellPage 64 = some (.iload_n 2, 1) := by decide +kernel
theorem sX5_tellPage_64 {d : Nat} {σ : aS} {Q : aQ} {l0 l1 : Option Value} {x : Int32} {lt : aL} {st : List Value} : aX d iX5_tellPage 64 (l0 :: l1 :: some (.int x) :: lt) (st) σ Q ↔ aX d iX5_tellPage 65 (l0 :: l1 :: some (.int x) :: lt) (.int x :: st) σ Q := X_iloadn kX5_tellPage_64 rfl
theorem kX5_tellPage_65 : aCode iX5_tellPage 65 = some (.putfield 89, 3) := by decide +kernel
theorem sX5_tellPage_65 {d : Nat} {σ : aS} {Q : aQ} {x : Int32} {a : Nat} {ls : aL} {st : List Value} : aX d iX5_tellPage 65 (ls) (.int x :: .ref a :: st) σ Q ↔ ∃ fs, aFds σ a 0 = some fs ∧ 5 < fs.length ∧ aX d iX5_tellPage 68 (ls) (st) (aput σ a (eO 0 (fs.set 5 (.int x)))) Q := X_putf (w := 51) kX5_tellPage_65 (by decide +kernel) (aFit_I (by decide +kernel)) (by decide +kernel)
theorem kX5_tellPage_68 : aCode iX5_tellPage 68 = some (.iload 4, 2) := by decide +kernel
theorem sX5_tellPage_68 {d : Nat} {σ : aS} {Q : aQ} {l0 l1 l2 l3 : Option Value} {x : Int32} {lt : aL} {st : List Value} : aX d iX5_tellPage 68 (l0 :: l1 :: l2 :: l3 :: some (.int x) :: lt) (st) σ Q ↔ aX d iX5_tellPage 70 (l0 :: l1 :: l2 :: l3 :: some (.int x) :: lt) (.int x :: st) σ Q := X_iload kX5_tellPage_68 rfl
theorem kX5_tellPage_70 : aCode iX5_tellPage 70 = some (.ireturn, 1) := by decide +kernel
theorem sX5_tellPage_70 {d : Nat} {σ : aS} {Q : aQ} {v : Int32} {ls : aL} : aX d iX5_tellPage 70 (ls) ([.int v]) σ Q ↔ Q (some (.int v)) σ := X_iret kX5_tellPage_70 (by decide +kernel)
theorem kX5_makeRound_0 : aCode iX5_makeRound 0 = some (.iconst 0, 1) := by decide +kernel
theorem sX5_makeRound_0 {d : Nat} {σ : aS} {Q : aQ} {ls : aL} {st : List Value} : aX d iX5_makeRound 0 (ls) (st) σ Q ↔ aX d iX5_makeRound 1 (ls) (.int (nI 0) :: st) σ Q := X_iconst kX5_makeRound_0 (by decide +kernel)
theorem kX5_makeRound_1 : aCode iX5_makeRound 1 = some (.istore_n 1, 1) := by decide +kernel
theorem sX5_makeRound_1 {d : Nat} {σ : aS} {Q : aQ} {l0 lo : Option Value} {x : Int32} {lt : aL} {st : List Value} : aX d iX5_makeRound 1 (l0 :: lo :: lt) (.int x :: st) σ Q ↔ aX d iX5_makeRound 2 (aclr l0 :: some (.int x) :: lt) (st) σ Q := X_istoren kX5_makeRound_1 (by simp only [List.length_cons]; omega)
theorem kX5_makeRound_2 : aCode iX5_makeRound 2 = some (.iload_n 1, 1) := by decide +kernel
theorem sX5_makeRound_2 {d : Nat} {σ : aS} {Q : aQ} {l0 : Option Value} {x : Int32} {lt : aL} {st : List Value} : aX d iX5_makeRound 2 (l0 :: some (.int x) :: lt) (st) σ Q ↔ aX d iX5_makeRound 3 (l0 :: some (.int x) :: lt) (.int x :: st) σ Q := X_iloadn kX5_makeRound_2 rfl
theorem kX5_makeRound_3 : aCode iX5_makeRound 3 = some (.aload_n 0, 1) := by decide +kernel
theorem sX5_makeRound_3 {d : Nat} {σ : aS} {Q : aQ} {x : Nat} {lt : aL} {st : List Value} : aX d iX5_makeRound 3 (some (.ref x) :: lt) (st) σ Q ↔ aX d iX5_makeRound 4 (some (.ref x) :: lt) (.ref x :: st) σ Q := X_aloadn kX5_makeRound_3 rfl rfl
theorem kX5_makeRound_4 : aCode iX5_makeRound 4 = some (.getfield 39, 3) := by decide +kernel
theorem sX5_makeRound_4 {d : Nat} {σ : aS} {Q : aQ} {a : Nat} {ls : aL} {st : List Value} : aX d iX5_makeRound 4 (ls) (.ref a :: st) σ Q ↔ ∃ v, aFld σ a 5 5 = some v ∧ aX d iX5_makeRound 7 (ls) (v :: st) σ Q := X_getf (w := 79) kX5_makeRound_4 (by decide +kernel)
theorem kX5_makeRound_7 : aCode iX5_makeRound 7 = some (.if_icmp .ge 35, 3) := by decide +kernel
theorem sX5_makeRound_7 {d : Nat} {σ : aS} {Q : aQ} {x y : Int32} {ls : aL} {st : List Value} : aX d iX5_makeRound 7 (ls) (.int y :: .int x :: st) σ Q ↔ (if y ≤ x then aX d iX5_makeRound 42 (ls) (st) σ Q else aX d iX5_makeRound 10 (ls) (st) σ Q) := by rw [X_icmp kX5_makeRound_7 (t := 42) (by decide)]; simp only [aCmp_ge]
theorem kX5_makeRound_10 : aCode iX5_makeRound 10 = some (.aload_n 0, 1) := by decide +kernel
theorem sX5_makeRound_10 {d : Nat} {σ : aS} {Q : aQ} {x : Nat} {lt : aL} {st : List Value} : aX d iX5_makeRound 10 (some (.ref x) :: lt) (st) σ Q ↔ aX d iX5_makeRound 11 (some (.ref x) :: lt) (.ref x :: st) σ Q := X_aloadn kX5_makeRound_10 rfl rfl
theorem kX5_makeRound_11 : aCode iX5_makeRound 11 = some (.iload_n 1, 1) := by decide +kernel
theorem sX5_makeRound_11 {d : Nat} {σ : aS} {Q : aQ} {l0 : Option Value} {x : Int32} {lt : aL} {st : List Value} : aX d iX5_makeRound 11 (l0 :: some (.int x) :: lt) (st) σ Q ↔ aX d iX5_makeRound 12 (l0 :: some (.int x) :: lt) (.int x :: st) σ Q := X_iloadn kX5_makeRound_11 rfl
theorem kX5_makeRound_12 : aCode iX5_makeRound 12 = some (.invokevirtual 79, 3) := by decide +kernel
theorem sX5_makeRound_12 {d : Nat} {σ : aS} {Q : aQ} {b : Nat} {p0 : Int32} {ls : aL} : aX (d + 1) iX5_makeRound 12 (ls) (.int p0 :: .ref b :: []) σ Q ↔ aIs σ b 5 ∧ aX d iX5_albumAt 0 [some (.ref b), some (.int p0)] [] σ (fun r τ => aX (d + 1) iX5_makeRound 15 (ls) (aret r ([])) τ Q) := X_invv (N := 1) (As := [.int p0]) (w := 281) kX5_makeRound_12 (by decide +kernel) (by decide +kernel) rfl rfl (by simp only [List.length_cons, List.length_nil]; omega) (by simp only [List.length_cons, List.length_nil]; omega) (by decide +kernel) rfl (Nat.le_of_ble_eq_true rfl)
theorem kX5_makeRound_15 : aCode iX5_makeRound 15 = some (.astore_n 2, 1) := by decide +kernel
theorem sX5_makeRound_15 {d : Nat} {σ : aS} {Q : aQ} {l0 l1 lo : Option Value} {x : Nat} {lt : aL} {st : List Value} : aX d iX5_makeRound 15 (l0 :: l1 :: lo :: lt) (.ref x :: st) σ Q ↔ aX d iX5_makeRound 16 (l0 :: aclr l1 :: some (.ref x) :: lt) (st) σ Q := X_astoren kX5_makeRound_15 (by simp only [List.length_cons]; omega) rfl
theorem sX5_makeRound_15n {d : Nat} {σ : aS} {Q : aQ} {l0 l1 lo : Option Value} {lt : aL} {st : List Value} : aX d iX5_makeRound 15 (l0 :: l1 :: lo :: lt) (.null :: st) σ Q ↔ aX d iX5_makeRound 16 (l0 :: aclr l1 :: some (.null) :: lt) (st) σ Q := X_astoren kX5_makeRound_15 (by simp only [List.length_cons]; omega) rfl
theorem kX5_makeRound_16 : aCode iX5_makeRound 16 = some (.aload_n 2, 1) := by decide +kernel
theorem sX5_makeRound_16 {d : Nat} {σ : aS} {Q : aQ} {l0 l1 : Option Value} {x : Nat} {lt : aL} {st : List Value} : aX d iX5_makeRound 16 (l0 :: l1 :: some (.ref x) :: lt) (st) σ Q ↔ aX d iX5_makeRound 17 (l0 :: l1 :: some (.ref x) :: lt) (.ref x :: st) σ Q := X_aloadn kX5_makeRound_16 rfl rfl
theorem sX5_makeRound_16n {d : Nat} {σ : aS} {Q : aQ} {l0 l1 : Option Value} {lt : aL} {st : List Value} : aX d iX5_makeRound 16 (l0 :: l1 :: some .null :: lt) (st) σ Q ↔ aX d iX5_makeRound 17 (l0 :: l1 :: some .null :: lt) (.null :: st) σ Q := X_aloadn kX5_makeRound_16 rfl rfl
theorem kX5_makeRound_17 : aCode iX5_makeRound 17 = some (.ifnull 19, 3) := by decide +kernel
theorem sX5_makeRound_17 {d : Nat} {σ : aS} {Q : aQ} {x : Nat} {ls : aL} {st : List Value} : aX d iX5_makeRound 17 (ls) (.ref x :: st) σ Q ↔ aX d iX5_makeRound 20 (ls) (st) σ Q := X_ifnull kX5_makeRound_17 (t := 36) (by decide)
theorem sX5_makeRound_17n {d : Nat} {σ : aS} {Q : aQ} {ls : aL} {st : List Value} : aX d iX5_makeRound 17 (ls) (.null :: st) σ Q ↔ aX d iX5_makeRound 36 (ls) (st) σ Q := X_ifnullN kX5_makeRound_17 (t := 36) (by decide)
theorem kX5_makeRound_20 : aCode iX5_makeRound 20 = some (.aload_n 2, 1) := by decide +kernel
theorem sX5_makeRound_20 {d : Nat} {σ : aS} {Q : aQ} {l0 l1 : Option Value} {x : Nat} {lt : aL} {st : List Value} : aX d iX5_makeRound 20 (l0 :: l1 :: some (.ref x) :: lt) (st) σ Q ↔ aX d iX5_makeRound 21 (l0 :: l1 :: some (.ref x) :: lt) (.ref x :: st) σ Q := X_aloadn kX5_makeRound_20 rfl rfl
theorem sX5_makeRound_20n {d : Nat} {σ : aS} {Q : aQ} {l0 l1 : Option Value} {lt : aL} {st : List Value} : aX d iX5_makeRound 20 (l0 :: l1 :: some .null :: lt) (st) σ Q ↔ aX d iX5_makeRound 21 (l0 :: l1 :: some .null :: lt) (.null :: st) σ Q := X_aloadn kX5_makeRound_20 rfl rfl
theorem kX5_makeRound_21 : aCode iX5_makeRound 21 = some (.invokevirtual 86, 3) := by decide +kernel
theorem sX5_makeRound_21 {d : Nat} {σ : aS} {Q : aQ} {b : Nat} {ls : aL} : aX (d + 1) iX5_makeRound 21 (ls) (.ref b :: []) σ Q ↔ aIs σ b 0 ∧ aX d iX0_goesRound 0 [some (.ref b)] [] σ (fun r τ => aX (d + 1) iX5_makeRound 24 (ls) (aret r ([])) τ Q) := X_invv (N := 0) (As := []) (w := 285) kX5_makeRound_21 (by decide +kernel) (by decide +kernel) rfl rfl (by simp only [List.length_cons, List.length_nil]; omega) (by simp only [List.length_cons, List.length_nil]; omega) (by decide +kernel) rfl (Nat.le_of_ble_eq_true rfl)
theorem kX5_makeRound_24 : aCode iX5_makeRound 24 = some (.ifCond .eq 12, 3) := by decide +kernel
theorem sX5_makeRound_24 {d : Nat} {σ : aS} {Q : aQ} {x : Int32} {ls : aL} {st : List Value} : aX d iX5_makeRound 24 (ls) (.int x :: st) σ Q ↔ (if x = nI 0 then aX d iX5_makeRound 36 (ls) (st) σ Q else aX d iX5_makeRound 27 (ls) (st) σ Q) := by rw [X_if kX5_makeRound_24 (t := 36) (by decide)]; simp only [aCmp_eq]
theorem kX5_makeRound_27 : aCode iX5_makeRound 27 = some (.aload_n 0, 1) := by decide +kernel
theorem sX5_makeRound_27 {d : Nat} {σ : aS} {Q : aQ} {x : Nat} {lt : aL} {st : List Value} : aX d iX5_makeRound 27 (some (.ref x) :: lt) (st) σ Q ↔ aX d iX5_makeRound 28 (some (.ref x) :: lt) (.ref x :: st) σ Q := X_aloadn kX5_makeRound_27 rfl rfl
theorem kX5_makeRound_28 : aCode iX5_makeRound 28 = some (.aload_n 2, 1) := by decide +kernel
theorem sX5_makeRound_28 {d : Nat} {σ : aS} {Q : aQ} {l0 l1 : Option Value} {x : Nat} {lt : aL} {st : List Value} : aX d iX5_makeRound 28 (l0 :: l1 :: some (.ref x) :: lt) (st) σ Q ↔ aX d iX5_makeRound 29 (l0 :: l1 :: some (.ref x) :: lt) (.ref x :: st) σ Q := X_aloadn kX5_makeRound_28 rfl rfl
theorem sX5_makeRound_28n {d : Nat} {σ : aS} {Q : aQ} {l0 l1 : Option Value} {lt : aL} {st : List Value} : aX d iX5_makeRound 28 (l0 :: l1 :: some .null :: lt) (st) σ Q ↔ aX d iX5_makeRound 29 (l0 :: l1 :: some .null :: lt) (.null :: st) σ Q := X_aloadn kX5_makeRound_28 rfl rfl
theorem kX5_makeRound_29 : aCode iX5_makeRound 29 = some (.aload_n 0, 1) := by decide +kernel
theorem sX5_makeRound_29 {d : Nat} {σ : aS} {Q : aQ} {x : Nat} {lt : aL} {st : List Value} : aX d iX5_makeRound 29 (some (.ref x) :: lt) (st) σ Q ↔ aX d iX5_makeRound 30 (some (.ref x) :: lt) (.ref x :: st) σ Q := X_aloadn kX5_makeRound_29 rfl rfl
theorem kX5_makeRound_30 : aCode iX5_makeRound 30 = some (.getfield 18, 3) := by decide +kernel
theorem sX5_makeRound_30 {d : Nat} {σ : aS} {Q : aQ} {a : Nat} {ls : aL} {st : List Value} : aX d iX5_makeRound 30 (ls) (.ref a :: st) σ Q ↔ ∃ v, aFld σ a 5 2 = some v ∧ aX d iX5_makeRound 33 (ls) (v :: st) σ Q := X_getf (w := 73) kX5_makeRound_30 (by decide +kernel)
theorem kX5_makeRound_33 : aCode iX5_makeRound 33 = some (.invokevirtual 92, 3) := by decide +kernel
theorem sX5_makeRound_33 {d : Nat} {σ : aS} {Q : aQ} {b : Nat} {p0 : Nat} {p1 : Nat} {ls : aL} : aX (d + 1) iX5_makeRound 33 (ls) (.ref p1 :: .ref p0 :: .ref b :: []) σ Q ↔ aIs σ b 5 ∧ aX d iX5_passOn 0 [some (.ref b), some (.ref p0), some (.ref p1), none] [] σ (fun r τ => aX (d + 1) iX5_makeRound 36 (ls) (aret r ([])) τ Q) := X_invv (N := 2) (As := [.ref p1, .ref p0]) (w := 318) kX5_makeRound_33 (by decide +kernel) (by decide +kernel) rfl rfl (by simp only [List.length_cons, List.length_nil]; omega) (by simp only [List.length_cons, List.length_nil]; omega) (by decide +kernel) rfl (Nat.le_of_ble_eq_true rfl)
theorem kX5_makeRound_36 : aCode iX5_makeRound 36 = some (.iinc 1 1, 3) := by decide +kernel
theorem sX5_makeRound_36 {d : Nat} {σ : aS} {Q : aQ} {l0 : Option Value} {x : Int32} {lt : aL} {st : List Value} : aX d iX5_makeRound 36 (l0 :: some (.int x) :: lt) (st) σ Q ↔ aX d iX5_makeRound 39 (aclr l0 :: some (.int (x + nI 1)) :: lt) (st) σ Q := X_iinc kX5_makeRound_36 rfl (by decide +kernel)
theorem kX5_makeRound_39 : aCode iX5_makeRound 39 = some (.goto (-37), 3) := by decide +kernel
theorem sX5_makeRound_39 {d : Nat} {σ : aS} {Q : aQ} {ls : aL} {st : List Value} : aX d iX5_makeRound 39 (ls) (st) σ Q ↔ aX d iX5_makeRound 2 (ls) (st) σ Q := X_goto kX5_makeRound_39 (by decide)
theorem kX5_makeRound_42 : aCode iX5_makeRound 42 = some (.aload_n 0, 1) := by decide +kernel
theorem sX5_makeRound_42 {d : Nat} {σ : aS} {Q : aQ} {x : Nat} {lt : aL} {st : List Value} : aX d iX5_makeRound 42 (some (.ref x) :: lt) (st) σ Q ↔ aX d iX5_makeRound 43 (some (.ref x) :: lt) (.ref x :: st) σ Q := X_aloadn kX5_makeRound_42 rfl rfl
theorem kX5_makeRound_43 : aCode iX5_makeRound 43 = some (.dup, 1) := by decide +kernel
theorem sX5_makeRound_43 {d : Nat} {σ : aS} {Q : aQ} {x : Nat} {ls : aL} {st : List Value} : aX d iX5_makeRound 43 (ls) (.ref x :: st) σ Q ↔ aX d iX5_makeRound 44 (ls) (.ref x :: .ref x :: st) σ Q := X_dup kX5_makeRound_43 rfl
theorem sX5_makeRound_43i {d : Nat} {σ : aS} {Q : aQ} {x : Int32} {ls : aL} {st : List Value} : aX d iX5_makeRound 43 (ls) (.int x :: st) σ Q ↔ aX d iX5_makeRound 44 (ls) (.int x :: .int x :: st) σ Q := X_dup kX5_makeRound_43 rfl
theorem kX5_makeRound_44 : aCode iX5_makeRound 44 = some (.getfield 36, 3) := by decide +kernel
theorem sX5_makeRound_44 {d : Nat} {σ : aS} {Q : aQ} {a : Nat} {ls : aL} {st : List Value} : aX d iX5_makeRound 44 (ls) (.ref a :: st) σ Q ↔ ∃ v, aFld σ a 5 6 = some v ∧ aX d iX5_makeRound 47 (ls) (v :: st) σ Q := X_getf (w := 82) kX5_makeRound_44 (by decide +kernel)
theorem kX5_makeRound_47 : aCode iX5_makeRound 47 = some (.iconst 1, 1) := by decide +kernel
theorem sX5_makeRound_47 {d : Nat} {σ : aS} {Q : aQ} {ls : aL} {st : List Value} : aX d iX5_makeRound 47 (ls) (st) σ Q ↔ aX d iX5_makeRound 48 (ls) (.int (nI 1) :: st) σ Q := X_iconst kX5_makeRound_47 (by decide +kernel)
theorem kX5_makeRound_48 : aCode iX5_makeRound 48 = some (.iadd, 1) := by decide +kernel
theorem sX5_makeRound_48 {d : Nat} {σ : aS} {Q : aQ} {x y : Int32} {ls : aL} {st : List Value} : aX d iX5_makeRound 48 (ls) (.int y :: .int x :: st) σ Q ↔ aX d iX5_makeRound 49 (ls) (.int (x + y) :: st) σ Q := X_iadd kX5_makeRound_48
theorem kX5_makeRound_49 : aCode iX5_makeRound 49 = some (.putfield 36, 3) := by decide +kernel
theorem sX5_makeRound_49 {d : Nat} {σ : aS} {Q : aQ} {x : Int32} {a : Nat} {ls : aL} {st : List Value} : aX d iX5_makeRound 49 (ls) (.int x :: .ref a :: st) σ Q ↔ ∃ fs, aFds σ a 5 = some fs ∧ 6 < fs.length ∧ aX d iX5_makeRound 52 (ls) (st) (aput σ a (eO 5 (fs.set 6 (.int x)))) Q := X_putf (w := 82) kX5_makeRound_49 (by decide +kernel) (aFit_I (by decide +kernel)) (by decide +kernel)
theorem kX5_makeRound_52 : aCode iX5_makeRound 52 = some (.aload_n 0, 1) := by decide +kernel
theorem sX5_makeRound_52 {d : Nat} {σ : aS} {Q : aQ} {x : Nat} {lt : aL} {st : List Value} : aX d iX5_makeRound 52 (some (.ref x) :: lt) (st) σ Q ↔ aX d iX5_makeRound 53 (some (.ref x) :: lt) (.ref x :: st) σ Q := X_aloadn kX5_makeRound_52 rfl rfl
theorem kX5_makeRound_53 : aCode iX5_makeRound 53 = some (.iconst 0, 1) := by decide +kernel
theorem sX5_makeRound_53 {d : Nat} {σ : aS} {Q : aQ} {ls : aL} {st : List Value} : aX d iX5_makeRound 53 (ls) (st) σ Q ↔ aX d iX5_makeRound 54 (ls) (.int (nI 0) :: st) σ Q := X_iconst kX5_makeRound_53 (by decide +kernel)
theorem kX5_makeRound_54 : aCode iX5_makeRound 54 = some (.invokevirtual 96, 3) := by decide +kernel
theorem sX5_makeRound_54 {d : Nat} {σ : aS} {Q : aQ} {b : Nat} {p0 : Int32} {ls : aL} : aX (d + 1) iX5_makeRound 54 (ls) (.int p0 :: .ref b :: []) σ Q ↔ aIs σ b 5 ∧ aX d iX5_albumsThatAre 0 [some (.ref b), some (.int p0), none, none, none] [] σ (fun r τ => aX (d + 1) iX5_makeRound 57 (ls) (aret r ([])) τ Q) := X_invv (N := 1) (As := [.int p0]) (w := 377) kX5_makeRound_54 (by decide +kernel) (by decide +kernel) rfl rfl (by simp only [List.length_cons, List.length_nil]; omega) (by simp only [List.length_cons, List.length_nil]; omega) (by decide +kernel) rfl (Nat.le_of_ble_eq_true rfl)
theorem kX5_makeRound_57 : aCode iX5_makeRound 57 = some (.ireturn, 1) := by decide +kernel
theorem sX5_makeRound_57 {d : Nat} {σ : aS} {Q : aQ} {v : Int32} {ls : aL} : aX d iX5_makeRound 57 (ls) ([.int v]) σ Q ↔ Q (some (.int v)) σ := X_iret kX5_makeRound_57 (by decide +kernel)
theorem kX5_clearEnded_0 : aCode iX5_clearEnded 0 = some (.iconst 0, 1) := by decide +kernel
theorem sX5_clearEnded_0 {d : Nat} {σ : aS} {Q : aQ} {ls : aL} {st : List Value} : aX d iX5_clearEnded 0 (ls) (st) σ Q ↔ aX d iX5_clearEnded 1 (ls) (.int (nI 0) :: st) σ Q := X_iconst kX5_clearEnded_0 (by decide +kernel)
theorem kX5_clearEnded_1 : aCode iX5_clearEnded 1 = some (.istore_n 1, 1) := by decide +kernel
theorem sX5_clearEnded_1 {d : Nat} {σ : aS} {Q : aQ} {l0 lo : Option Value} {x : Int32} {lt : aL} {st : List Value} : aX d iX5_clearEnded 1 (l0 :: lo :: lt) (.int x :: st) σ Q ↔ aX d iX5_clearEnded 2 (aclr l0 :: some (.int x) :: lt) (st) σ Q := X_istoren kX5_clearEnded_1 (by simp only [List.length_cons]; omega)
theorem kX5_clearEnded_2 : aCode iX5_clearEnded 2 = some (.iconst 0, 1) := by decide +kernel
theorem sX5_clearEnded_2 {d : Nat} {σ : aS} {Q : aQ} {ls : aL} {st : List Value} : aX d iX5_clearEnded 2 (ls) (st) σ Q ↔ aX d iX5_clearEnded 3 (ls) (.int (nI 0) :: st) σ Q := X_iconst kX5_clearEnded_2 (by decide +kernel)
theorem kX5_clearEnded_3 : aCode iX5_clearEnded 3 = some (.istore_n 2, 1) := by decide +kernel
theorem sX5_clearEnded_3 {d : Nat} {σ : aS} {Q : aQ} {l0 l1 lo : Option Value} {x : Int32} {lt : aL} {st : List Value} : aX d iX5_clearEnded 3 (l0 :: l1 :: lo :: lt) (.int x :: st) σ Q ↔ aX d iX5_clearEnded 4 (l0 :: aclr l1 :: some (.int x) :: lt) (st) σ Q := X_istoren kX5_clearEnded_3 (by simp only [List.length_cons]; omega)
theorem kX5_clearEnded_4 : aCode iX5_clearEnded 4 = some (.iload_n 2, 1) := by decide +kernel
theorem sX5_clearEnded_4 {d : Nat} {σ : aS} {Q : aQ} {l0 l1 : Option Value} {x : Int32} {lt : aL} {st : List Value} : aX d iX5_clearEnded 4 (l0 :: l1 :: some (.int x) :: lt) (st) σ Q ↔ aX d iX5_clearEnded 5 (l0 :: l1 :: some (.int x) :: lt) (.int x :: st) σ Q := X_iloadn kX5_clearEnded_4 rfl
theorem kX5_clearEnded_5 : aCode iX5_clearEnded 5 = some (.aload_n 0, 1) := by decide +kernel
theorem sX5_clearEnded_5 {d : Nat} {σ : aS} {Q : aQ} {x : Nat} {lt : aL} {st : List Value} : aX d iX5_clearEnded 5 (some (.ref x) :: lt) (st) σ Q ↔ aX d iX5_clearEnded 6 (some (.ref x) :: lt) (.ref x :: st) σ Q := X_aloadn kX5_clearEnded_5 rfl rfl
theorem kX5_clearEnded_6 : aCode iX5_clearEnded 6 = some (.getfield 39, 3) := by decide +kernel
theorem sX5_clearEnded_6 {d : Nat} {σ : aS} {Q : aQ} {a : Nat} {ls : aL} {st : List Value} : aX d iX5_clearEnded 6 (ls) (.ref a :: st) σ Q ↔ ∃ v, aFld σ a 5 5 = some v ∧ aX d iX5_clearEnded 9 (ls) (v :: st) σ Q := X_getf (w := 79) kX5_clearEnded_6 (by decide +kernel)
theorem kX5_clearEnded_9 : aCode iX5_clearEnded 9 = some (.if_icmp .ge 47, 3) := by decide +kernel
theorem sX5_clearEnded_9 {d : Nat} {σ : aS} {Q : aQ} {x y : Int32} {ls : aL} {st : List Value} : aX d iX5_clearEnded 9 (ls) (.int y :: .int x :: st) σ Q ↔ (if y ≤ x then aX d iX5_clearEnded 56 (ls) (st) σ Q else aX d iX5_clearEnded 12 (ls) (st) σ Q) := by rw [X_icmp kX5_clearEnded_9 (t := 56) (by decide)]; simp only [aCmp_ge]
theorem kX5_clearEnded_12 : aCode iX5_clearEnded 12 = some (.aload_n 0, 1) := by decide +kernel
theorem sX5_clearEnded_12 {d : Nat} {σ : aS} {Q : aQ} {x : Nat} {lt : aL} {st : List Value} : aX d iX5_clearEnded 12 (some (.ref x) :: lt) (st) σ Q ↔ aX d iX5_clearEnded 13 (some (.ref x) :: lt) (.ref x :: st) σ Q := X_aloadn kX5_clearEnded_12 rfl rfl
theorem kX5_clearEnded_13 : aCode iX5_clearEnded 13 = some (.iload_n 2, 1) := by decide +kernel
theorem sX5_clearEnded_13 {d : Nat} {σ : aS} {Q : aQ} {l0 l1 : Option Value} {x : Int32} {lt : aL} {st : List Value} : aX d iX5_clearEnded 13 (l0 :: l1 :: some (.int x) :: lt) (st) σ Q ↔ aX d iX5_clearEnded 14 (l0 :: l1 :: some (.int x) :: lt) (.int x :: st) σ Q := X_iloadn kX5_clearEnded_13 rfl
theorem kX5_clearEnded_14 : aCode iX5_clearEnded 14 = some (.invokevirtual 42, 3) := by decide +kernel
theorem sX5_clearEnded_14 {d : Nat} {σ : aS} {Q : aQ} {b : Nat} {p0 : Int32} {ls : aL} : aX (d + 1) iX5_clearEnded 14 (ls) (.int p0 :: .ref b :: []) σ Q ↔ aIs σ b 5 ∧ aX d iX5_placeAt 0 [some (.ref b), some (.int p0)] [] σ (fun r τ => aX (d + 1) iX5_clearEnded 17 (ls) (aret r ([])) τ Q) := X_invv (N := 1) (As := [.int p0]) (w := 217) kX5_clearEnded_14 (by decide +kernel) (by decide +kernel) rfl rfl (by simp only [List.length_cons, List.length_nil]; omega) (by simp only [List.length_cons, List.length_nil]; omega) (by decide +kernel) rfl (Nat.le_of_ble_eq_true rfl)
theorem kX5_clearEnded_17 : aCode iX5_clearEnded 17 = some (.astore_n 3, 1) := by decide +kernel
theorem sX5_clearEnded_17 {d : Nat} {σ : aS} {Q : aQ} {l0 l1 l2 lo : Option Value} {x : Nat} {lt : aL} {st : List Value} : aX d iX5_clearEnded 17 (l0 :: l1 :: l2 :: lo :: lt) (.ref x :: st) σ Q ↔ aX d iX5_clearEnded 18 (l0 :: l1 :: aclr l2 :: some (.ref x) :: lt) (st) σ Q := X_astoren kX5_clearEnded_17 (by simp only [List.length_cons]; omega) rfl
theorem sX5_clearEnded_17n {d : Nat} {σ : aS} {Q : aQ} {l0 l1 l2 lo : Option Value} {lt : aL} {st : List Value} : aX d iX5_clearEnded 17 (l0 :: l1 :: l2 :: lo :: lt) (.null :: st) σ Q ↔ aX d iX5_clearEnded 18 (l0 :: l1 :: aclr l2 :: some (.null) :: lt) (st) σ Q := X_astoren kX5_clearEnded_17 (by simp only [List.length_cons]; omega) rfl
theorem kX5_clearEnded_18 : aCode iX5_clearEnded 18 = some (.aload_n 0, 1) := by decide +kernel
theorem sX5_clearEnded_18 {d : Nat} {σ : aS} {Q : aQ} {x : Nat} {lt : aL} {st : List Value} : aX d iX5_clearEnded 18 (some (.ref x) :: lt) (st) σ Q ↔ aX d iX5_clearEnded 19 (some (.ref x) :: lt) (.ref x :: st) σ Q := X_aloadn kX5_clearEnded_18 rfl rfl
theorem kX5_clearEnded_19 : aCode iX5_clearEnded 19 = some (.iload_n 1, 1) := by decide +kernel
theorem sX5_clearEnded_19 {d : Nat} {σ : aS} {Q : aQ} {l0 : Option Value} {x : Int32} {lt : aL} {st : List Value} : aX d iX5_clearEnded 19 (l0 :: some (.int x) :: lt) (st) σ Q ↔ aX d iX5_clearEnded 20 (l0 :: some (.int x) :: lt) (.int x :: st) σ Q := X_iloadn kX5_clearEnded_19 rfl
theorem kX5_clearEnded_20 : aCode iX5_clearEnded 20 = some (.invokevirtual 42, 3) := by decide +kernel
theorem sX5_clearEnded_20 {d : Nat} {σ : aS} {Q : aQ} {b : Nat} {p0 : Int32} {ls : aL} : aX (d + 1) iX5_clearEnded 20 (ls) (.int p0 :: .ref b :: []) σ Q ↔ aIs σ b 5 ∧ aX d iX5_placeAt 0 [some (.ref b), some (.int p0)] [] σ (fun r τ => aX (d + 1) iX5_clearEnded 23 (ls) (aret r ([])) τ Q) := X_invv (N := 1) (As := [.int p0]) (w := 217) kX5_clearEnded_20 (by decide +kernel) (by decide +kernel) rfl rfl (by simp only [List.length_cons, List.length_nil]; omega) (by simp only [List.length_cons, List.length_nil]; omega) (by decide +kernel) rfl (Nat.le_of_ble_eq_true rfl)
theorem kX5_clearEnded_23 : aCode iX5_clearEnded 23 = some (.astore 4, 2) := by decide +kernel
theorem sX5_clearEnded_23 {d : Nat} {σ : aS} {Q : aQ} {l0 l1 l2 l3 lo : Option Value} {x : Nat} {lt : aL} {st : List Value} : aX d iX5_clearEnded 23 (l0 :: l1 :: l2 :: l3 :: lo :: lt) (.ref x :: st) σ Q ↔ aX d iX5_clearEnded 25 (l0 :: l1 :: l2 :: aclr l3 :: some (.ref x) :: lt) (st) σ Q := X_astore kX5_clearEnded_23 (by simp only [List.length_cons]; omega) rfl
theorem sX5_clearEnded_23n {d : Nat} {σ : aS} {Q : aQ} {l0 l1 l2 l3 lo : Option Value} {lt : aL} {st : List Value} : aX d iX5_clearEnded 23 (l0 :: l1 :: l2 :: l3 :: lo :: lt) (.null :: st) σ Q ↔ aX d iX5_clearEnded 25 (l0 :: l1 :: l2 :: aclr l3 :: some (.null) :: lt) (st) σ Q := X_astore kX5_clearEnded_23 (by simp only [List.length_cons]; omega) rfl
theorem kX5_clearEnded_25 : aCode iX5_clearEnded 25 = some (.aload_n 3, 1) := by decide +kernel
theorem sX5_clearEnded_25 {d : Nat} {σ : aS} {Q : aQ} {l0 l1 l2 : Option Value} {x : Nat} {lt : aL} {st : List Value} : aX d iX5_clearEnded 25 (l0 :: l1 :: l2 :: some (.ref x) :: lt) (st) σ Q ↔ aX d iX5_clearEnded 26 (l0 :: l1 :: l2 :: some (.ref x) :: lt) (.ref x :: st) σ Q := X_aloadn kX5_clearEnded_25 rfl rfl
theorem sX5_clearEnded_25n {d : Nat} {σ : aS} {Q : aQ} {l0 l1 l2 : Option Value} {lt : aL} {st : List Value} : aX d iX5_clearEnded 25 (l0 :: l1 :: l2 :: some .null :: lt) (st) σ Q ↔ aX d iX5_clearEnded 26 (l0 :: l1 :: l2 :: some .null :: lt) (.null :: st) σ Q := X_aloadn kX5_clearEnded_25 rfl rfl
theorem kX5_clearEnded_26 : aCode iX5_clearEnded 26 = some (.ifnull 24, 3) := by decide +kernel
theorem sX5_clearEnded_26 {d : Nat} {σ : aS} {Q : aQ} {x : Nat} {ls : aL} {st : List Value} : aX d iX5_clearEnded 26 (ls) (.ref x :: st) σ Q ↔ aX d iX5_clearEnded 29 (ls) (st) σ Q := X_ifnull kX5_clearEnded_26 (t := 50) (by decide)
theorem sX5_clearEnded_26n {d : Nat} {σ : aS} {Q : aQ} {ls : aL} {st : List Value} : aX d iX5_clearEnded 26 (ls) (.null :: st) σ Q ↔ aX d iX5_clearEnded 50 (ls) (st) σ Q := X_ifnullN kX5_clearEnded_26 (t := 50) (by decide)
theorem kX5_clearEnded_29 : aCode iX5_clearEnded 29 = some (.aload 4, 2) := by decide +kernel
theorem sX5_clearEnded_29 {d : Nat} {σ : aS} {Q : aQ} {l0 l1 l2 l3 : Option Value} {x : Nat} {lt : aL} {st : List Value} : aX d iX5_clearEnded 29 (l0 :: l1 :: l2 :: l3 :: some (.ref x) :: lt) (st) σ Q ↔ aX d iX5_clearEnded 31 (l0 :: l1 :: l2 :: l3 :: some (.ref x) :: lt) (.ref x :: st) σ Q := X_aload kX5_clearEnded_29 rfl rfl
theorem sX5_clearEnded_29n {d : Nat} {σ : aS} {Q : aQ} {l0 l1 l2 l3 : Option Value} {lt : aL} {st : List Value} : aX d iX5_clearEnded 29 (l0 :: l1 :: l2 :: l3 :: some .null :: lt) (st) σ Q ↔ aX d iX5_clearEnded 31 (l0 :: l1 :: l2 :: l3 :: some .null :: lt) (.null :: st) σ Q := X_aload kX5_clearEnded_29 rfl rfl
theorem kX5_clearEnded_31 : aCode iX5_clearEnded 31 = some (.ifnull 19, 3) := by decide +kernel
theorem sX5_clearEnded_31 {d : Nat} {σ : aS} {Q : aQ} {x : Nat} {ls : aL} {st : List Value} : aX d iX5_clearEnded 31 (ls) (.ref x :: st) σ Q ↔ aX d iX5_clearEnded 34 (ls) (st) σ Q := X_ifnull kX5_clearEnded_31 (t := 50) (by decide)
theorem sX5_clearEnded_31n {d : Nat} {σ : aS} {Q : aQ} {ls : aL} {st : List Value} : aX d iX5_clearEnded 31 (ls) (.null :: st) σ Q ↔ aX d iX5_clearEnded 50 (ls) (st) σ Q := X_ifnullN kX5_clearEnded_31 (t := 50) (by decide)
theorem kX5_clearEnded_34 : aCode iX5_clearEnded 34 = some (.aload_n 3, 1) := by decide +kernel
theorem sX5_clearEnded_34 {d : Nat} {σ : aS} {Q : aQ} {l0 l1 l2 : Option Value} {x : Nat} {lt : aL} {st : List Value} : aX d iX5_clearEnded 34 (l0 :: l1 :: l2 :: some (.ref x) :: lt) (st) σ Q ↔ aX d iX5_clearEnded 35 (l0 :: l1 :: l2 :: some (.ref x) :: lt) (.ref x :: st) σ Q := X_aloadn kX5_clearEnded_34 rfl rfl
theorem sX5_clearEnded_34n {d : Nat} {σ : aS} {Q : aQ} {l0 l1 l2 : Option Value} {lt : aL} {st : List Value} : aX d iX5_clearEnded 34 (l0 :: l1 :: l2 :: some .null :: lt) (st) σ Q ↔ aX d iX5_clearEnded 35 (l0 :: l1 :: l2 :: some .null :: lt) (.null :: st) σ Q := X_aloadn kX5_clearEnded_34 rfl rfl
theorem kX5_clearEnded_35 : aCode iX5_clearEnded 35 = some (.invokevirtual 86, 3) := by decide +kernel
theorem sX5_clearEnded_35 {d : Nat} {σ : aS} {Q : aQ} {b : Nat} {ls : aL} : aX (d + 1) iX5_clearEnded 35 (ls) (.ref b :: []) σ Q ↔ aIs σ b 0 ∧ aX d iX0_goesRound 0 [some (.ref b)] [] σ (fun r τ => aX (d + 1) iX5_clearEnded 38 (ls) (aret r ([])) τ Q) := X_invv (N := 0) (As := []) (w := 285) kX5_clearEnded_35 (by decide +kernel) (by decide +kernel) rfl rfl (by simp only [List.length_cons, List.length_nil]; omega) (by simp only [List.length_cons, List.length_nil]; omega) (by decide +kernel) rfl (Nat.le_of_ble_eq_true rfl)
theorem kX5_clearEnded_38 : aCode iX5_clearEnded 38 = some (.ifCond .eq 12, 3) := by decide +kernel
theorem sX5_clearEnded_38 {d : Nat} {σ : aS} {Q : aQ} {x : Int32} {ls : aL} {st : List Value} : aX d iX5_clearEnded 38 (ls) (.int x :: st) σ Q ↔ (if x = nI 0 then aX d iX5_clearEnded 50 (ls) (st) σ Q else aX d iX5_clearEnded 41 (ls) (st) σ Q) := by rw [X_if kX5_clearEnded_38 (t := 50) (by decide)]; simp only [aCmp_eq]
theorem kX5_clearEnded_41 : aCode iX5_clearEnded 41 = some (.aload 4, 2) := by decide +kernel
theorem sX5_clearEnded_41 {d : Nat} {σ : aS} {Q : aQ} {l0 l1 l2 l3 : Option Value} {x : Nat} {lt : aL} {st : List Value} : aX d iX5_clearEnded 41 (l0 :: l1 :: l2 :: l3 :: some (.ref x) :: lt) (st) σ Q ↔ aX d iX5_clearEnded 43 (l0 :: l1 :: l2 :: l3 :: some (.ref x) :: lt) (.ref x :: st) σ Q := X_aload kX5_clearEnded_41 rfl rfl
theorem sX5_clearEnded_41n {d : Nat} {σ : aS} {Q : aQ} {l0 l1 l2 l3 : Option Value} {lt : aL} {st : List Value} : aX d iX5_clearEnded 41 (l0 :: l1 :: l2 :: l3 :: some .null :: lt) (st) σ Q ↔ aX d iX5_clearEnded 43 (l0 :: l1 :: l2 :: l3 :: some .null :: lt) (.null :: st) σ Q := X_aload kX5_clearEnded_41 rfl rfl
theorem kX5_clearEnded_43 : aCode iX5_clearEnded 43 = some (.aload_n 3, 1) := by decide +kernel
theorem sX5_clearEnded_43 {d : Nat} {σ : aS} {Q : aQ} {l0 l1 l2 : Option Value} {x : Nat} {lt : aL} {st : List Value} : aX d iX5_clearEnded 43 (l0 :: l1 :: l2 :: some (.ref x) :: lt) (st) σ Q ↔ aX d iX5_clearEnded 44 (l0 :: l1 :: l2 :: some (.ref x) :: lt) (.ref x :: st) σ Q := X_aloadn kX5_clearEnded_43 rfl rfl
theorem sX5_clearEnded_43n {d : Nat} {σ : aS} {Q : aQ} {l0 l1 l2 : Option Value} {lt : aL} {st : List Value} : aX d iX5_clearEnded 43 (l0 :: l1 :: l2 :: some .null :: lt) (st) σ Q ↔ aX d iX5_clearEnded 44 (l0 :: l1 :: l2 :: some .null :: lt) (.null :: st) σ Q := X_aloadn kX5_clearEnded_43 rfl rfl
theorem kX5_clearEnded_44 : aCode iX5_clearEnded 44 = some (.invokevirtual 46, 3) := by decide +kernel
theorem sX5_clearEnded_44 {d : Nat} {σ : aS} {Q : aQ} {b : Nat} {p0 : Nat} {ls : aL} : aX (d + 1) iX5_clearEnded 44 (ls) (.ref p0 :: .ref b :: []) σ Q ↔ aIs σ b 0 ∧ aX d iX0_copyFrom 0 [some (.ref b), some (.ref p0)] [] σ (fun r τ => aX (d + 1) iX5_clearEnded 47 (ls) (aret r ([])) τ Q) := X_invv (N := 1) (As := [.ref p0]) (w := 221) kX5_clearEnded_44 (by decide +kernel) (by decide +kernel) rfl rfl (by simp only [List.length_cons, List.length_nil]; omega) (by simp only [List.length_cons, List.length_nil]; omega) (by decide +kernel) rfl (Nat.le_of_ble_eq_true rfl)
theorem kX5_clearEnded_47 : aCode iX5_clearEnded 47 = some (.iinc 1 1, 3) := by decide +kernel
theorem sX5_clearEnded_47 {d : Nat} {σ : aS} {Q : aQ} {l0 : Option Value} {x : Int32} {lt : aL} {st : List Value} : aX d iX5_clearEnded 47 (l0 :: some (.int x) :: lt) (st) σ Q ↔ aX d iX5_clearEnded 50 (aclr l0 :: some (.int (x + nI 1)) :: lt) (st) σ Q := X_iinc kX5_clearEnded_47 rfl (by decide +kernel)
theorem kX5_clearEnded_50 : aCode iX5_clearEnded 50 = some (.iinc 2 1, 3) := by decide +kernel
theorem sX5_clearEnded_50 {d : Nat} {σ : aS} {Q : aQ} {l0 l1 : Option Value} {x : Int32} {lt : aL} {st : List Value} : aX d iX5_clearEnded 50 (l0 :: l1 :: some (.int x) :: lt) (st) σ Q ↔ aX d iX5_clearEnded 53 (l0 :: aclr l1 :: some (.int (x + nI 1)) :: lt) (st) σ Q := X_iinc kX5_clearEnded_50 rfl (by decide +kernel)
theorem kX5_clearEnded_53 : aCode iX5_clearEnded 53 = some (.goto (-49), 3) := by decide +kernel
theorem sX5_clearEnded_53 {d : Nat} {σ : aS} {Q : aQ} {ls : aL} {st : List Value} : aX d iX5_clearEnded 53 (ls) (st) σ Q ↔ aX d iX5_clearEnded 4 (ls) (st) σ Q := X_goto kX5_clearEnded_53 (by decide)
theorem kX5_clearEnded_56 : aCode iX5_clearEnded 56 = some (.aload_n 0, 1) := by decide +kernel
theorem sX5_clearEnded_56 {d : Nat} {σ : aS} {Q : aQ} {x : Nat} {lt : aL} {st : List Value} : aX d iX5_clearEnded 56 (some (.ref x) :: lt) (st) σ Q ↔ aX d iX5_clearEnded 57 (some (.ref x) :: lt) (.ref x :: st) σ Q := X_aloadn kX5_clearEnded_56 rfl rfl
theorem kX5_clearEnded_57 : aCode iX5_clearEnded 57 = some (.getfield 39, 3) := by decide +kernel
theorem sX5_clearEnded_57 {d : Nat} {σ : aS} {Q : aQ} {a : Nat} {ls : aL} {st : List Value} : aX d iX5_clearEnded 57 (ls) (.ref a :: st) σ Q ↔ ∃ v, aFld σ a 5 5 = some v ∧ aX d iX5_clearEnded 60 (ls) (v :: st) σ Q := X_getf (w := 79) kX5_clearEnded_57 (by decide +kernel)
theorem kX5_clearEnded_60 : aCode iX5_clearEnded 60 = some (.iload_n 1, 1) := by decide +kernel
theorem sX5_clearEnded_60 {d : Nat} {σ : aS} {Q : aQ} {l0 : Option Value} {x : Int32} {lt : aL} {st : List Value} : aX d iX5_clearEnded 60 (l0 :: some (.int x) :: lt) (st) σ Q ↔ aX d iX5_clearEnded 61 (l0 :: some (.int x) :: lt) (.int x :: st) σ Q := X_iloadn kX5_clearEnded_60 rfl
theorem kX5_clearEnded_61 : aCode iX5_clearEnded 61 = some (.isub, 1) := by decide +kernel
theorem sX5_clearEnded_61 {d : Nat} {σ : aS} {Q : aQ} {x y : Int32} {ls : aL} {st : List Value} : aX d iX5_clearEnded 61 (ls) (.int y :: .int x :: st) σ Q ↔ aX d iX5_clearEnded 62 (ls) (.int (x - y) :: st) σ Q := X_isub kX5_clearEnded_61
theorem kX5_clearEnded_62 : aCode iX5_clearEnded 62 = some (.istore_n 2, 1) := by decide +kernel
theorem sX5_clearEnded_62 {d : Nat} {σ : aS} {Q : aQ} {l0 l1 lo : Option Value} {x : Int32} {lt : aL} {st : List Value} : aX d iX5_clearEnded 62 (l0 :: l1 :: lo :: lt) (.int x :: st) σ Q ↔ aX d iX5_clearEnded 63 (l0 :: aclr l1 :: some (.int x) :: lt) (st) σ Q := X_istoren kX5_clearEnded_62 (by simp only [List.length_cons]; omega)
theorem kX5_clearEnded_63 : aCode iX5_clearEnded 63 = some (.aload_n 0, 1) := by decide +kernel
theorem sX5_clearEnded_63 {d : Nat} {σ : aS} {Q : aQ} {x : Nat} {lt : aL} {st : List Value} : aX d iX5_clearEnded 63 (some (.ref x) :: lt) (st) σ Q ↔ aX d iX5_clearEnded 64 (some (.ref x) :: lt) (.ref x :: st) σ Q := X_aloadn kX5_clearEnded_63 rfl rfl
theorem kX5_clearEnded_64 : aCode iX5_clearEnded 64 = some (.iload_n 1, 1) := by decide +kernel
theorem sX5_clearEnded_64 {d : Nat} {σ : aS} {Q : aQ} {l0 : Option Value} {x : Int32} {lt : aL} {st : List Value} : aX d iX5_clearEnded 64 (l0 :: some (.int x) :: lt) (st) σ Q ↔ aX d iX5_clearEnded 65 (l0 :: some (.int x) :: lt) (.int x :: st) σ Q := X_iloadn kX5_clearEnded_64 rfl
theorem kX5_clearEnded_65 : aCode iX5_clearEnded 65 = some (.putfield 39, 3) := by decide +kernel
theorem sX5_clearEnded_65 {d : Nat} {σ : aS} {Q : aQ} {x : Int32} {a : Nat} {ls : aL} {st : List Value} : aX d iX5_clearEnded 65 (ls) (.int x :: .ref a :: st) σ Q ↔ ∃ fs, aFds σ a 5 = some fs ∧ 5 < fs.length ∧ aX d iX5_clearEnded 68 (ls) (st) (aput σ a (eO 5 (fs.set 5 (.int x)))) Q := X_putf (w := 79) kX5_clearEnded_65 (by decide +kernel) (aFit_I (by decide +kernel)) (by decide +kernel)
theorem kX5_clearEnded_68 : aCode iX5_clearEnded 68 = some (.iload_n 2, 1) := by decide +kernel
theorem sX5_clearEnded_68 {d : Nat} {σ : aS} {Q : aQ} {l0 l1 : Option Value} {x : Int32} {lt : aL} {st : List Value} : aX d iX5_clearEnded 68 (l0 :: l1 :: some (.int x) :: lt) (st) σ Q ↔ aX d iX5_clearEnded 69 (l0 :: l1 :: some (.int x) :: lt) (.int x :: st) σ Q := X_iloadn kX5_clearEnded_68 rfl
theorem kX5_clearEnded_69 : aCode iX5_clearEnded 69 = some (.ireturn, 1) := by decide +kernel
theorem sX5_clearEnded_69 {d : Nat} {σ : aS} {Q : aQ} {v : Int32} {ls : aL} : aX d iX5_clearEnded 69 (ls) ([.int v]) σ Q ↔ Q (some (.int v)) σ := X_iret kX5_clearEnded_69 (by decide +kernel)
theorem kX5_passOn_0 : aCode iX5_passOn 0 = some (.aload_n 0, 1) := by decide +kernel
theorem sX5_passOn_0 {d : Nat} {σ : aS} {Q : aQ} {x : Nat} {lt : aL} {st : List Value} : aX d iX5_passOn 0 (some (.ref x) :: lt) (st) σ Q ↔ aX d iX5_passOn 1 (some (.ref x) :: lt) (.ref x :: st) σ Q := X_aloadn kX5_passOn_0 rfl rfl
theorem kX5_passOn_1 : aCode iX5_passOn 1 = some (.aload_n 1, 1) := by decide +kernel
theorem sX5_passOn_1 {d : Nat} {σ : aS} {Q : aQ} {l0 : Option Value} {x : Nat} {lt : aL} {st : List Value} : aX d iX5_passOn 1 (l0 :: some (.ref x) :: lt) (st) σ Q ↔ aX d iX5_passOn 2 (l0 :: some (.ref x) :: lt) (.ref x :: st) σ Q := X_aloadn kX5_passOn_1 rfl rfl
theorem sX5_passOn_1n {d : Nat} {σ : aS} {Q : aQ} {l0 : Option Value} {lt : aL} {st : List Value} : aX d iX5_passOn 1 (l0 :: some .null :: lt) (st) σ Q ↔ aX d iX5_passOn 2 (l0 :: some .null :: lt) (.null :: st) σ Q := X_aloadn kX5_passOn_1 rfl rfl
theorem kX5_passOn_2 : aCode iX5_passOn 2 = some (.invokevirtual 99, 3) := by decide +kernel
theorem sX5_passOn_2 {d : Nat} {σ : aS} {Q : aQ} {b : Nat} {p0 : Nat} {ls : aL} : aX (d + 1) iX5_passOn 2 (ls) (.ref p0 :: .ref b :: []) σ Q ↔ aIs σ b 5 ∧ aX d iX5_nextSeat 0 [some (.ref b), some (.ref p0), none, none, none] [] σ (fun r τ => aX (d + 1) iX5_passOn 5 (ls) (aret r ([])) τ Q) := X_invv (N := 1) (As := [.ref p0]) (w := 322) kX5_passOn_2 (by decide +kernel) (by decide +kernel) rfl rfl (by simp only [List.length_cons, List.length_nil]; omega) (by simp only [List.length_cons, List.length_nil]; omega) (by decide +kernel) rfl (Nat.le_of_ble_eq_true rfl)
theorem kX5_passOn_5 : aCode iX5_passOn 5 = some (.istore_n 3, 1) := by decide +kernel
theorem sX5_passOn_5 {d : Nat} {σ : aS} {Q : aQ} {l0 l1 l2 lo : Option Value} {x : Int32} {lt : aL} {st : List Value} : aX d iX5_passOn 5 (l0 :: l1 :: l2 :: lo :: lt) (.int x :: st) σ Q ↔ aX d iX5_passOn 6 (l0 :: l1 :: aclr l2 :: some (.int x) :: lt) (st) σ Q := X_istoren kX5_passOn_5 (by simp only [List.length_cons]; omega)
theorem kX5_passOn_6 : aCode iX5_passOn 6 = some (.iload_n 3, 1) := by decide +kernel
theorem sX5_passOn_6 {d : Nat} {σ : aS} {Q : aQ} {l0 l1 l2 : Option Value} {x : Int32} {lt : aL} {st : List Value} : aX d iX5_passOn 6 (l0 :: l1 :: l2 :: some (.int x) :: lt) (st) σ Q ↔ aX d iX5_passOn 7 (l0 :: l1 :: l2 :: some (.int x) :: lt) (.int x :: st) σ Q := X_iloadn kX5_passOn_6 rfl
theorem kX5_passOn_7 : aCode iX5_passOn 7 = some (.bipush (-6), 2) := by decide +kernel
theorem sX5_passOn_7 {d : Nat} {σ : aS} {Q : aQ} {ls : aL} {st : List Value} : aX d iX5_passOn 7 (ls) (st) σ Q ↔ aX d iX5_passOn 9 (ls) (.int ((-6)) :: st) σ Q := X_bipush kX5_passOn_7 (by decide +kernel)
theorem kX5_passOn_9 : aCode iX5_passOn 9 = some (.if_icmp .ne 10, 3) := by decide +kernel
theorem sX5_passOn_9 {d : Nat} {σ : aS} {Q : aQ} {x y : Int32} {ls : aL} {st : List Value} : aX d iX5_passOn 9 (ls) (.int y :: .int x :: st) σ Q ↔ (if ¬ x = y then aX d iX5_passOn 19 (ls) (st) σ Q else aX d iX5_passOn 12 (ls) (st) σ Q) := by rw [X_icmp kX5_passOn_9 (t := 19) (by decide)]; simp only [aCmp_ne]
theorem kX5_passOn_12 : aCode iX5_passOn 12 = some (.aload_n 0, 1) := by decide +kernel
theorem sX5_passOn_12 {d : Nat} {σ : aS} {Q : aQ} {x : Nat} {lt : aL} {st : List Value} : aX d iX5_passOn 12 (some (.ref x) :: lt) (st) σ Q ↔ aX d iX5_passOn 13 (some (.ref x) :: lt) (.ref x :: st) σ Q := X_aloadn kX5_passOn_12 rfl rfl
theorem kX5_passOn_13 : aCode iX5_passOn 13 = some (.aload_n 1, 1) := by decide +kernel
theorem sX5_passOn_13 {d : Nat} {σ : aS} {Q : aQ} {l0 : Option Value} {x : Nat} {lt : aL} {st : List Value} : aX d iX5_passOn 13 (l0 :: some (.ref x) :: lt) (st) σ Q ↔ aX d iX5_passOn 14 (l0 :: some (.ref x) :: lt) (.ref x :: st) σ Q := X_aloadn kX5_passOn_13 rfl rfl
theorem sX5_passOn_13n {d : Nat} {σ : aS} {Q : aQ} {l0 : Option Value} {lt : aL} {st : List Value} : aX d iX5_passOn 13 (l0 :: some .null :: lt) (st) σ Q ↔ aX d iX5_passOn 14 (l0 :: some .null :: lt) (.null :: st) σ Q := X_aloadn kX5_passOn_13 rfl rfl
theorem kX5_passOn_14 : aCode iX5_passOn 14 = some (.aload_n 2, 1) := by decide +kernel
theorem sX5_passOn_14 {d : Nat} {σ : aS} {Q : aQ} {l0 l1 : Option Value} {x : Nat} {lt : aL} {st : List Value} : aX d iX5_passOn 14 (l0 :: l1 :: some (.ref x) :: lt) (st) σ Q ↔ aX d iX5_passOn 15 (l0 :: l1 :: some (.ref x) :: lt) (.ref x :: st) σ Q := X_aloadn kX5_passOn_14 rfl rfl
theorem sX5_passOn_14n {d : Nat} {σ : aS} {Q : aQ} {l0 l1 : Option Value} {lt : aL} {st : List Value} : aX d iX5_passOn 14 (l0 :: l1 :: some .null :: lt) (st) σ Q ↔ aX d iX5_passOn 15 (l0 :: l1 :: some .null :: lt) (.null :: st) σ Q := X_aloadn kX5_passOn_14 rfl rfl
theorem kX5_passOn_15 : aCode iX5_passOn 15 = some (.invokevirtual 103, 3) := by decide +kernel
theorem sX5_passOn_15 {d : Nat} {σ : aS} {Q : aQ} {b : Nat} {p0 : Nat} {p1 : Nat} {ls : aL} : aX (d + 1) iX5_passOn 15 (ls) (.ref p1 :: .ref p0 :: .ref b :: []) σ Q ↔ aIs σ b 5 ∧ aX d iX5_end 0 [some (.ref b), some (.ref p0), some (.ref p1)] [] σ (fun r τ => aX (d + 1) iX5_passOn 18 (ls) (aret r ([])) τ Q) := X_invv (N := 2) (As := [.ref p1, .ref p0]) (w := 335) kX5_passOn_15 (by decide +kernel) (by decide +kernel) rfl rfl (by simp only [List.length_cons, List.length_nil]; omega) (by simp only [List.length_cons, List.length_nil]; omega) (by decide +kernel) rfl (Nat.le_of_ble_eq_true rfl)
theorem kX5_passOn_18 : aCode iX5_passOn 18 = some (.return_, 1) := by decide +kernel
theorem sX5_passOn_18 {d : Nat} {σ : aS} {Q : aQ} {ls : aL} : aX d iX5_passOn 18 (ls) ([]) σ Q ↔ Q none σ := X_vret kX5_passOn_18 (by decide +kernel)
theorem kX5_passOn_19 : aCode iX5_passOn 19 = some (.aload_n 1, 1) := by decide +kernel
theorem sX5_passOn_19 {d : Nat} {σ : aS} {Q : aQ} {l0 : Option Value} {x : Nat} {lt : aL} {st : List Value} : aX d iX5_passOn 19 (l0 :: some (.ref x) :: lt) (st) σ Q ↔ aX d iX5_passOn 20 (l0 :: some (.ref x) :: lt) (.ref x :: st) σ Q := X_aloadn kX5_passOn_19 rfl rfl
theorem sX5_passOn_19n {d : Nat} {σ : aS} {Q : aQ} {l0 : Option Value} {lt : aL} {st : List Value} : aX d iX5_passOn 19 (l0 :: some .null :: lt) (st) σ Q ↔ aX d iX5_passOn 20 (l0 :: some .null :: lt) (.null :: st) σ Q := X_aloadn kX5_passOn_19 rfl rfl
theorem kX5_passOn_20 : aCode iX5_passOn 20 = some (.getfield 89, 3) := by decide +kernel
theorem sX5_passOn_20 {d : Nat} {σ : aS} {Q : aQ} {a : Nat} {ls : aL} {st : List Value} : aX d iX5_passOn 20 (ls) (.ref a :: st) σ Q ↔ ∃ v, aFld σ a 0 5 = some v ∧ aX d iX5_passOn 23 (ls) (v :: st) σ Q := X_getf (w := 51) kX5_passOn_20 (by decide +kernel)
theorem kX5_passOn_23 : aCode iX5_passOn 23 = some (.bipush (-6), 2) := by decide +kernel
theorem sX5_passOn_23 {d : Nat} {σ : aS} {Q : aQ} {ls : aL} {st : List Value} : aX d iX5_passOn 23 (ls) (st) σ Q ↔ aX d iX5_passOn 25 (ls) (.int ((-6)) :: st) σ Q := X_bipush kX5_passOn_23 (by decide +kernel)
theorem kX5_passOn_25 : aCode iX5_passOn 25 = some (.if_icmp .eq 11, 3) := by decide +kernel
theorem sX5_passOn_25 {d : Nat} {σ : aS} {Q : aQ} {x y : Int32} {ls : aL} {st : List Value} : aX d iX5_passOn 25 (ls) (.int y :: .int x :: st) σ Q ↔ (if x = y then aX d iX5_passOn 36 (ls) (st) σ Q else aX d iX5_passOn 28 (ls) (st) σ Q) := by rw [X_icmp kX5_passOn_25 (t := 36) (by decide)]; simp only [aCmp_eq]
theorem kX5_passOn_28 : aCode iX5_passOn 28 = some (.aload_n 1, 1) := by decide +kernel
theorem sX5_passOn_28 {d : Nat} {σ : aS} {Q : aQ} {l0 : Option Value} {x : Nat} {lt : aL} {st : List Value} : aX d iX5_passOn 28 (l0 :: some (.ref x) :: lt) (st) σ Q ↔ aX d iX5_passOn 29 (l0 :: some (.ref x) :: lt) (.ref x :: st) σ Q := X_aloadn kX5_passOn_28 rfl rfl
theorem sX5_passOn_28n {d : Nat} {σ : aS} {Q : aQ} {l0 : Option Value} {lt : aL} {st : List Value} : aX d iX5_passOn 28 (l0 :: some .null :: lt) (st) σ Q ↔ aX d iX5_passOn 29 (l0 :: some .null :: lt) (.null :: st) σ Q := X_aloadn kX5_passOn_28 rfl rfl
theorem kX5_passOn_29 : aCode iX5_passOn 29 = some (.iload_n 3, 1) := by decide +kernel
theorem sX5_passOn_29 {d : Nat} {σ : aS} {Q : aQ} {l0 l1 l2 : Option Value} {x : Int32} {lt : aL} {st : List Value} : aX d iX5_passOn 29 (l0 :: l1 :: l2 :: some (.int x) :: lt) (st) σ Q ↔ aX d iX5_passOn 30 (l0 :: l1 :: l2 :: some (.int x) :: lt) (.int x :: st) σ Q := X_iloadn kX5_passOn_29 rfl
theorem kX5_passOn_30 : aCode iX5_passOn 30 = some (.invokevirtual 106, 3) := by decide +kernel
theorem sX5_passOn_30 {d : Nat} {σ : aS} {Q : aQ} {b : Nat} {p0 : Int32} {ls : aL} : aX (d + 1) iX5_passOn 30 (ls) (.int p0 :: .ref b :: []) σ Q ↔ aIs σ b 0 ∧ aX d iX0_addToldPage 0 [some (.ref b), some (.int p0)] [] σ (fun r τ => aX (d + 1) iX5_passOn 33 (ls) (aret r ([])) τ Q) := X_invv (N := 1) (As := [.int p0]) (w := 351) kX5_passOn_30 (by decide +kernel) (by decide +kernel) rfl rfl (by simp only [List.length_cons, List.length_nil]; omega) (by simp only [List.length_cons, List.length_nil]; omega) (by decide +kernel) rfl (Nat.le_of_ble_eq_true rfl)
theorem kX5_passOn_33 : aCode iX5_passOn 33 = some (.goto 14, 3) := by decide +kernel
theorem sX5_passOn_33 {d : Nat} {σ : aS} {Q : aQ} {ls : aL} {st : List Value} : aX d iX5_passOn 33 (ls) (st) σ Q ↔ aX d iX5_passOn 47 (ls) (st) σ Q := X_goto kX5_passOn_33 (by decide)
theorem kX5_passOn_36 : aCode iX5_passOn 36 = some (.aload_n 1, 1) := by decide +kernel
theorem sX5_passOn_36 {d : Nat} {σ : aS} {Q : aQ} {l0 : Option Value} {x : Nat} {lt : aL} {st : List Value} : aX d iX5_passOn 36 (l0 :: some (.ref x) :: lt) (st) σ Q ↔ aX d iX5_passOn 37 (l0 :: some (.ref x) :: lt) (.ref x :: st) σ Q := X_aloadn kX5_passOn_36 rfl rfl
theorem sX5_passOn_36n {d : Nat} {σ : aS} {Q : aQ} {l0 : Option Value} {lt : aL} {st : List Value} : aX d iX5_passOn 36 (l0 :: some .null :: lt) (st) σ Q ↔ aX d iX5_passOn 37 (l0 :: some .null :: lt) (.null :: st) σ Q := X_aloadn kX5_passOn_36 rfl rfl
theorem kX5_passOn_37 : aCode iX5_passOn 37 = some (.iload_n 3, 1) := by decide +kernel
theorem sX5_passOn_37 {d : Nat} {σ : aS} {Q : aQ} {l0 l1 l2 : Option Value} {x : Int32} {lt : aL} {st : List Value} : aX d iX5_passOn 37 (l0 :: l1 :: l2 :: some (.int x) :: lt) (st) σ Q ↔ aX d iX5_passOn 38 (l0 :: l1 :: l2 :: some (.int x) :: lt) (.int x :: st) σ Q := X_iloadn kX5_passOn_37 rfl
theorem kX5_passOn_38 : aCode iX5_passOn 38 = some (.aload_n 0, 1) := by decide +kernel
theorem sX5_passOn_38 {d : Nat} {σ : aS} {Q : aQ} {x : Nat} {lt : aL} {st : List Value} : aX d iX5_passOn 38 (some (.ref x) :: lt) (st) σ Q ↔ aX d iX5_passOn 39 (some (.ref x) :: lt) (.ref x :: st) σ Q := X_aloadn kX5_passOn_38 rfl rfl
theorem kX5_passOn_39 : aCode iX5_passOn 39 = some (.iload_n 3, 1) := by decide +kernel
theorem sX5_passOn_39 {d : Nat} {σ : aS} {Q : aQ} {l0 l1 l2 : Option Value} {x : Int32} {lt : aL} {st : List Value} : aX d iX5_passOn 39 (l0 :: l1 :: l2 :: some (.int x) :: lt) (st) σ Q ↔ aX d iX5_passOn 40 (l0 :: l1 :: l2 :: some (.int x) :: lt) (.int x :: st) σ Q := X_iloadn kX5_passOn_39 rfl
theorem kX5_passOn_40 : aCode iX5_passOn 40 = some (.aload_n 1, 1) := by decide +kernel
theorem sX5_passOn_40 {d : Nat} {σ : aS} {Q : aQ} {l0 : Option Value} {x : Nat} {lt : aL} {st : List Value} : aX d iX5_passOn 40 (l0 :: some (.ref x) :: lt) (st) σ Q ↔ aX d iX5_passOn 41 (l0 :: some (.ref x) :: lt) (.ref x :: st) σ Q := X_aloadn kX5_passOn_40 rfl rfl
theorem sX5_passOn_40n {d : Nat} {σ : aS} {Q : aQ} {l0 : Option Value} {lt : aL} {st : List Value} : aX d iX5_passOn 40 (l0 :: some .null :: lt) (st) σ Q ↔ aX d iX5_passOn 41 (l0 :: some .null :: lt) (.null :: st) σ Q := X_aloadn kX5_passOn_40 rfl rfl
theorem kX5_passOn_41 : aCode iX5_passOn 41 = some (.invokevirtual 110, 3) := by decide +kernel
theorem sX5_passOn_41 {d : Nat} {σ : aS} {Q : aQ} {b : Nat} {p0 : Int32} {p1 : Nat} {v0 v1 : Value} {ls : aL} : aX (d + 1) iX5_passOn 41 (ls) (.ref p1 :: .int p0 :: .ref b :: v0 :: v1 :: []) σ Q ↔ aIs σ b 5 ∧ aX d iX5_pageBy 0 [some (.ref b), some (.int p0), some (.ref p1), none] [] σ (fun r τ => aX (d + 1) iX5_passOn 44 (ls) (aret r (v0 :: v1 :: [])) τ Q) := X_invv (N := 2) (As := [.ref p1, .int p0]) (w := 355) kX5_passOn_41 (by decide +kernel) (by decide +kernel) rfl rfl (by simp only [List.length_cons, List.length_nil]; omega) (by simp only [List.length_cons, List.length_nil]; omega) (by decide +kernel) rfl (Nat.le_of_ble_eq_true rfl)
theorem kX5_passOn_44 : aCode iX5_passOn 44 = some (.invokevirtual 114, 3) := by decide +kernel
theorem sX5_passOn_44 {d : Nat} {σ : aS} {Q : aQ} {b : Nat} {p0 : Int32} {p1 : Int32} {ls : aL} : aX (d + 1) iX5_passOn 44 (ls) (.int p1 :: .int p0 :: .ref b :: []) σ Q ↔ aIs σ b 0 ∧ aX d iX0_addPage 0 [some (.ref b), some (.int p0), some (.int p1)] [] σ (fun r τ => aX (d + 1) iX5_passOn 47 (ls) (aret r ([])) τ Q) := X_invv (N := 2) (As := [.int p1, .int p0]) (w := 367) kX5_passOn_44 (by decide +kernel) (by decide +kernel) rfl rfl (by simp only [List.length_cons, List.length_nil]; omega) (by simp only [List.length_cons, List.length_nil]; omega) (by decide +kernel) rfl (Nat.le_of_ble_eq_true rfl)
theorem kX5_passOn_47 : aCode iX5_passOn 47 = some (.aload_n 1, 1) := by decide +kernel
theorem sX5_passOn_47 {d : Nat} {σ : aS} {Q : aQ} {l0 : Option Value} {x : Nat} {lt : aL} {st : List Value} : aX d iX5_passOn 47 (l0 :: some (.ref x) :: lt) (st) σ Q ↔ aX d iX5_passOn 48 (l0 :: some (.ref x) :: lt) (.ref x :: st) σ Q := X_aloadn kX5_passOn_47 rfl rfl
theorem sX5_passOn_47n {d : Nat} {σ : aS} {Q : aQ} {l0 : Option Value} {lt : aL} {st : List Value} : aX d iX5_passOn 47 (l0 :: some .null :: lt) (st) σ Q ↔ aX d iX5_passOn 48 (l0 :: some .null :: lt) (.null :: st) σ Q := X_aloadn kX5_passOn_47 rfl rfl
theorem kX5_passOn_48 : aCode iX5_passOn 48 = some (.invokevirtual 117, 3) := by decide +kernel
theorem sX5_passOn_48 {d : Nat} {σ : aS} {Q : aQ} {b : Nat} {ls : aL} : aX (d + 1) iX5_passOn 48 (ls) (.ref b :: []) σ Q ↔ aIs σ b 0 ∧ aX d iX0_hasFoundWordAgain 0 [some (.ref b)] [] σ (fun r τ => aX (d + 1) iX5_passOn 51 (ls) (aret r ([])) τ Q) := X_invv (N := 0) (As := []) (w := 368) kX5_passOn_48 (by decide +kernel) (by decide +kernel) rfl rfl (by simp only [List.length_cons, List.length_nil]; omega) (by simp only [List.length_cons, List.length_nil]; omega) (by decide +kernel) rfl (Nat.le_of_ble_eq_true rfl)
theorem kX5_passOn_51 : aCode iX5_passOn 51 = some (.ifCond .eq 24, 3) := by decide +kernel
theorem sX5_passOn_51 {d : Nat} {σ : aS} {Q : aQ} {x : Int32} {ls : aL} {st : List Value} : aX d iX5_passOn 51 (ls) (.int x :: st) σ Q ↔ (if x = nI 0 then aX d iX5_passOn 75 (ls) (st) σ Q else aX d iX5_passOn 54 (ls) (st) σ Q) := by rw [X_if kX5_passOn_51 (t := 75) (by decide)]; simp only [aCmp_eq]
theorem kX5_passOn_54 : aCode iX5_passOn 54 = some (.aload_n 2, 1) := by decide +kernel
theorem sX5_passOn_54 {d : Nat} {σ : aS} {Q : aQ} {l0 l1 : Option Value} {x : Nat} {lt : aL} {st : List Value} : aX d iX5_passOn 54 (l0 :: l1 :: some (.ref x) :: lt) (st) σ Q ↔ aX d iX5_passOn 55 (l0 :: l1 :: some (.ref x) :: lt) (.ref x :: st) σ Q := X_aloadn kX5_passOn_54 rfl rfl
theorem sX5_passOn_54n {d : Nat} {σ : aS} {Q : aQ} {l0 l1 : Option Value} {lt : aL} {st : List Value} : aX d iX5_passOn 54 (l0 :: l1 :: some .null :: lt) (st) σ Q ↔ aX d iX5_passOn 55 (l0 :: l1 :: some .null :: lt) (.null :: st) σ Q := X_aloadn kX5_passOn_54 rfl rfl
theorem kX5_passOn_55 : aCode iX5_passOn 55 = some (.aload_n 1, 1) := by decide +kernel
theorem sX5_passOn_55 {d : Nat} {σ : aS} {Q : aQ} {l0 : Option Value} {x : Nat} {lt : aL} {st : List Value} : aX d iX5_passOn 55 (l0 :: some (.ref x) :: lt) (st) σ Q ↔ aX d iX5_passOn 56 (l0 :: some (.ref x) :: lt) (.ref x :: st) σ Q := X_aloadn kX5_passOn_55 rfl rfl
theorem sX5_passOn_55n {d : Nat} {σ : aS} {Q : aQ} {l0 : Option Value} {lt : aL} {st : List Value} : aX d iX5_passOn 55 (l0 :: some .null :: lt) (st) σ Q ↔ aX d iX5_passOn 56 (l0 :: some .null :: lt) (.null :: st) σ Q := X_aloadn kX5_passOn_55 rfl rfl
theorem kX5_passOn_56 : aCode iX5_passOn 56 = some (.aload_n 1, 1) := by decide +kernel
theorem sX5_passOn_56 {d : Nat} {σ : aS} {Q : aQ} {l0 : Option Value} {x : Nat} {lt : aL} {st : List Value} : aX d iX5_passOn 56 (l0 :: some (.ref x) :: lt) (st) σ Q ↔ aX d iX5_passOn 57 (l0 :: some (.ref x) :: lt) (.ref x :: st) σ Q := X_aloadn kX5_passOn_56 rfl rfl
theorem sX5_passOn_56n {d : Nat} {σ : aS} {Q : aQ} {l0 : Option Value} {lt : aL} {st : List Value} : aX d iX5_passOn 56 (l0 :: some .null :: lt) (st) σ Q ↔ aX d iX5_passOn 57 (l0 :: some .null :: lt) (.null :: st) σ Q := X_aloadn kX5_passOn_56 rfl rfl
theorem kX5_passOn_57 : aCode iX5_passOn 57 = some (.getfield 120, 3) := by decide +kernel
theorem sX5_passOn_57 {d : Nat} {σ : aS} {Q : aQ} {a : Nat} {ls : aL} {st : List Value} : aX d iX5_passOn 57 (ls) (.ref a :: st) σ Q ↔ ∃ v, aFld σ a 0 3 = some v ∧ aX d iX5_passOn 60 (ls) (v :: st) σ Q := X_getf (w := 45) kX5_passOn_57 (by decide +kernel)
theorem kX5_passOn_60 : aCode iX5_passOn 60 = some (.iconst 2, 1) := by decide +kernel
theorem sX5_passOn_60 {d : Nat} {σ : aS} {Q : aQ} {ls : aL} {st : List Value} : aX d iX5_passOn 60 (ls) (st) σ Q ↔ aX d iX5_passOn 61 (ls) (.int (nI 2) :: st) σ Q := X_iconst kX5_passOn_60 (by decide +kernel)
theorem kX5_passOn_61 : aCode iX5_passOn 61 = some (.isub, 1) := by decide +kernel
theorem sX5_passOn_61 {d : Nat} {σ : aS} {Q : aQ} {x y : Int32} {ls : aL} {st : List Value} : aX d iX5_passOn 61 (ls) (.int y :: .int x :: st) σ Q ↔ aX d iX5_passOn 62 (ls) (.int (x - y) :: st) σ Q := X_isub kX5_passOn_61
theorem kX5_passOn_62 : aCode iX5_passOn 62 = some (.invokevirtual 123, 3) := by decide +kernel
theorem sX5_passOn_62 {d : Nat} {σ : aS} {Q : aQ} {b : Nat} {p0 : Int32} {v0 : Value} {ls : aL} : aX (d + 1) iX5_passOn 62 (ls) (.int p0 :: .ref b :: v0 :: []) σ Q ↔ aIs σ b 0 ∧ aX d iX0_seatOf 0 [some (.ref b), some (.int p0)] [] σ (fun r τ => aX (d + 1) iX5_passOn 65 (ls) (aret r (v0 :: [])) τ Q) := X_invv (N := 1) (As := [.int p0]) (w := 373) kX5_passOn_62 (by decide +kernel) (by decide +kernel) rfl rfl (by simp only [List.length_cons, List.length_nil]; omega) (by simp only [List.length_cons, List.length_nil]; omega) (by decide +kernel) rfl (Nat.le_of_ble_eq_true rfl)
theorem kX5_passOn_65 : aCode iX5_passOn 65 = some (.iconst 1, 1) := by decide +kernel
theorem sX5_passOn_65 {d : Nat} {σ : aS} {Q : aQ} {ls : aL} {st : List Value} : aX d iX5_passOn 65 (ls) (st) σ Q ↔ aX d iX5_passOn 66 (ls) (.int (nI 1) :: st) σ Q := X_iconst kX5_passOn_65 (by decide +kernel)
theorem kX5_passOn_66 : aCode iX5_passOn 66 = some (.invokestatic 126, 3) := by decide +kernel
theorem sX5_passOn_66 {d : Nat} {σ : aS} {Q : aQ} {p0 : Nat} {p1 : Int32} {p2 : Int32} {ls : aL} : aX (d + 1) iX5_passOn 66 (ls) (.int p2 :: .int p1 :: .ref p0 :: []) σ Q ↔ aX d iX6_addAt 0 [some (.ref p0), some (.int p1), some (.int p2)] [] σ (fun r τ => aX (d + 1) iX5_passOn 69 (ls) (aret r ([])) τ Q) := X_invs (N := 3) (As := [.int p2, .int p1, .ref p0]) (k := 4) (w := 348) kX5_passOn_66 (by decide +kernel) (by decide) (by decide +kernel) rfl rfl (by simp only [List.length_cons, List.length_nil]; omega) (by simp only [List.length_cons, List.length_nil]; omega) rfl (Nat.le_of_ble_eq_true rfl)
theorem kX5_passOn_69 : aCode iX5_passOn 69 = some (.aload_n 2, 1) := by decide +kernel
theorem sX5_passOn_69 {d : Nat} {σ : aS} {Q : aQ} {l0 l1 : Option Value} {x : Nat} {lt : aL} {st : List Value} : aX d iX5_passOn 69 (l0 :: l1 :: some (.ref x) :: lt) (st) σ Q ↔ aX d iX5_passOn 70 (l0 :: l1 :: some (.ref x) :: lt) (.ref x :: st) σ Q := X_aloadn kX5_passOn_69 rfl rfl
theorem sX5_passOn_69n {d : Nat} {σ : aS} {Q : aQ} {l0 l1 : Option Value} {lt : aL} {st : List Value} : aX d iX5_passOn 69 (l0 :: l1 :: some .null :: lt) (st) σ Q ↔ aX d iX5_passOn 70 (l0 :: l1 :: some .null :: lt) (.null :: st) σ Q := X_aloadn kX5_passOn_69 rfl rfl
theorem kX5_passOn_70 : aCode iX5_passOn 70 = some (.iload_n 3, 1) := by decide +kernel
theorem sX5_passOn_70 {d : Nat} {σ : aS} {Q : aQ} {l0 l1 l2 : Option Value} {x : Int32} {lt : aL} {st : List Value} : aX d iX5_passOn 70 (l0 :: l1 :: l2 :: some (.int x) :: lt) (st) σ Q ↔ aX d iX5_passOn 71 (l0 :: l1 :: l2 :: some (.int x) :: lt) (.int x :: st) σ Q := X_iloadn kX5_passOn_70 rfl
theorem kX5_passOn_71 : aCode iX5_passOn 71 = some (.iconst 1, 1) := by decide +kernel
theorem sX5_passOn_71 {d : Nat} {σ : aS} {Q : aQ} {ls : aL} {st : List Value} : aX d iX5_passOn 71 (ls) (st) σ Q ↔ aX d iX5_passOn 72 (ls) (.int (nI 1) :: st) σ Q := X_iconst kX5_passOn_71 (by decide +kernel)
theorem kX5_passOn_72 : aCode iX5_passOn 72 = some (.invokestatic 126, 3) := by decide +kernel
theorem sX5_passOn_72 {d : Nat} {σ : aS} {Q : aQ} {p0 : Nat} {p1 : Int32} {p2 : Int32} {ls : aL} : aX (d + 1) iX5_passOn 72 (ls) (.int p2 :: .int p1 :: .ref p0 :: []) σ Q ↔ aX d iX6_addAt 0 [some (.ref p0), some (.int p1), some (.int p2)] [] σ (fun r τ => aX (d + 1) iX5_passOn 75 (ls) (aret r ([])) τ Q) := X_invs (N := 3) (As := [.int p2, .int p1, .ref p0]) (k := 4) (w := 348) kX5_passOn_72 (by decide +kernel) (by decide) (by decide +kernel) rfl rfl (by simp only [List.length_cons, List.length_nil]; omega) (by simp only [List.length_cons, List.length_nil]; omega) rfl (Nat.le_of_ble_eq_true rfl)
theorem kX5_passOn_75 : aCode iX5_passOn 75 = some (.return_, 1) := by decide +kernel
theorem sX5_passOn_75 {d : Nat} {σ : aS} {Q : aQ} {ls : aL} : aX d iX5_passOn 75 (ls) ([]) σ Q ↔ Q none σ := X_vret kX5_passOn_75 (by decide +kernel)
theorem kX5_nextSeat_0 : aCode iX5_nextSeat 0 = some (.aload_n 0, 1) := by decide +kernel
theorem sX5_nextSeat_0 {d : Nat} {σ : aS} {Q : aQ} {x : Nat} {lt : aL} {st : List Value} : aX d iX5_nextSeat 0 (some (.ref x) :: lt) (st) σ Q ↔ aX d iX5_nextSeat 1 (some (.ref x) :: lt) (.ref x :: st) σ Q := X_aloadn kX5_nextSeat_0 rfl rfl
theorem kX5_nextSeat_1 : aCode iX5_nextSeat 1 = some (.getfield 32, 3) := by decide +kernel
theorem sX5_nextSeat_1 {d : Nat} {σ : aS} {Q : aQ} {a : Nat} {ls : aL} {st : List Value} : aX d iX5_nextSeat 1 (ls) (.ref a :: st) σ Q ↔ ∃ v, aFld σ a 5 4 = some v ∧ aX d iX5_nextSeat 4 (ls) (v :: st) σ Q := X_getf (w := 77) kX5_nextSeat_1 (by decide +kernel)
theorem kX5_nextSeat_4 : aCode iX5_nextSeat 4 = some (.aload_n 1, 1) := by decide +kernel
theorem sX5_nextSeat_4 {d : Nat} {σ : aS} {Q : aQ} {l0 : Option Value} {x : Nat} {lt : aL} {st : List Value} : aX d iX5_nextSeat 4 (l0 :: some (.ref x) :: lt) (st) σ Q ↔ aX d iX5_nextSeat 5 (l0 :: some (.ref x) :: lt) (.ref x :: st) σ Q := X_aloadn kX5_nextSeat_4 rfl rfl
theorem sX5_nextSeat_4n {d : Nat} {σ : aS} {Q : aQ} {l0 : Option Value} {lt : aL} {st : List Value} : aX d iX5_nextSeat 4 (l0 :: some .null :: lt) (st) σ Q ↔ aX d iX5_nextSeat 5 (l0 :: some .null :: lt) (.null :: st) σ Q := X_aloadn kX5_nextSeat_4 rfl rfl
theorem kX5_nextSeat_5 : aCode iX5_nextSeat 5 = some (.invokevirtual 129, 3) := by decide +kernel
theorem sX5_nextSeat_5 {d : Nat} {σ : aS} {Q : aQ} {b : Nat} {v0 : Value} {ls : aL} : aX (d + 1) iX5_nextSeat 5 (ls) (.ref b :: v0 :: []) σ Q ↔ aIs σ b 0 ∧ aX d iX0_seatSet 0 [some (.ref b), none, none] [] σ (fun r τ => aX (d + 1) iX5_nextSeat 8 (ls) (aret r (v0 :: [])) τ Q) := X_invv (N := 0) (As := []) (w := 326) kX5_nextSeat_5 (by decide +kernel) (by decide +kernel) rfl rfl (by simp only [List.length_cons, List.length_nil]; omega) (by simp only [List.length_cons, List.length_nil]; omega) (by decide +kernel) rfl (Nat.le_of_ble_eq_true rfl)
theorem kX5_nextSeat_8 : aCode iX5_nextSeat 8 = some (.iconst (-1), 1) := by decide +kernel
theorem sX5_nextSeat_8 {d : Nat} {σ : aS} {Q : aQ} {ls : aL} {st : List Value} : aX d iX5_nextSeat 8 (ls) (st) σ Q ↔ aX d iX5_nextSeat 9 (ls) (.int ((-1)) :: st) σ Q := X_iconst kX5_nextSeat_8 (by decide +kernel)
theorem kX5_nextSeat_9 : aCode iX5_nextSeat 9 = some (.ixor, 1) := by decide +kernel
theorem sX5_nextSeat_9 {d : Nat} {σ : aS} {Q : aQ} {x y : Int32} {ls : aL} {st : List Value} : aX d iX5_nextSeat 9 (ls) (.int y :: .int x :: st) σ Q ↔ aX d iX5_nextSeat 10 (ls) (.int (x ^^^ y) :: st) σ Q := X_ixor kX5_nextSeat_9
theorem kX5_nextSeat_10 : aCode iX5_nextSeat 10 = some (.iand, 1) := by decide +kernel
theorem sX5_nextSeat_10 {d : Nat} {σ : aS} {Q : aQ} {x y : Int32} {ls : aL} {st : List Value} : aX d iX5_nextSeat 10 (ls) (.int y :: .int x :: st) σ Q ↔ aX d iX5_nextSeat 11 (ls) (.int (x &&& y) :: st) σ Q := X_iand kX5_nextSeat_10
theorem kX5_nextSeat_11 : aCode iX5_nextSeat 11 = some (.istore_n 2, 1) := by decide +kernel
theorem sX5_nextSeat_11 {d : Nat} {σ : aS} {Q : aQ} {l0 l1 lo : Option Value} {x : Int32} {lt : aL} {st : List Value} : aX d iX5_nextSeat 11 (l0 :: l1 :: lo :: lt) (.int x :: st) σ Q ↔ aX d iX5_nextSeat 12 (l0 :: aclr l1 :: some (.int x) :: lt) (st) σ Q := X_istoren kX5_nextSeat_11 (by simp only [List.length_cons]; omega)
theorem kX5_nextSeat_12 : aCode iX5_nextSeat 12 = some (.aload_n 1, 1) := by decide +kernel
theorem sX5_nextSeat_12 {d : Nat} {σ : aS} {Q : aQ} {l0 : Option Value} {x : Nat} {lt : aL} {st : List Value} : aX d iX5_nextSeat 12 (l0 :: some (.ref x) :: lt) (st) σ Q ↔ aX d iX5_nextSeat 13 (l0 :: some (.ref x) :: lt) (.ref x :: st) σ Q := X_aloadn kX5_nextSeat_12 rfl rfl
theorem sX5_nextSeat_12n {d : Nat} {σ : aS} {Q : aQ} {l0 : Option Value} {lt : aL} {st : List Value} : aX d iX5_nextSeat 12 (l0 :: some .null :: lt) (st) σ Q ↔ aX d iX5_nextSeat 13 (l0 :: some .null :: lt) (.null :: st) σ Q := X_aloadn kX5_nextSeat_12 rfl rfl
theorem kX5_nextSeat_13 : aCode iX5_nextSeat 13 = some (.invokevirtual 133, 3) := by decide +kernel
theorem sX5_nextSeat_13 {d : Nat} {σ : aS} {Q : aQ} {b : Nat} {ls : aL} : aX (d + 1) iX5_nextSeat 13 (ls) (.ref b :: []) σ Q ↔ aIs σ b 0 ∧ aX d iX0_liesAt 0 [some (.ref b)] [] σ (fun r τ => aX (d + 1) iX5_nextSeat 16 (ls) (aret r ([])) τ Q) := X_invv (N := 0) (As := []) (w := 331) kX5_nextSeat_13 (by decide +kernel) (by decide +kernel) rfl rfl (by simp only [List.length_cons, List.length_nil]; omega) (by simp only [List.length_cons, List.length_nil]; omega) (by decide +kernel) rfl (Nat.le_of_ble_eq_true rfl)
theorem kX5_nextSeat_16 : aCode iX5_nextSeat 16 = some (.istore_n 3, 1) := by decide +kernel
theorem sX5_nextSeat_16 {d : Nat} {σ : aS} {Q : aQ} {l0 l1 l2 lo : Option Value} {x : Int32} {lt : aL} {st : List Value} : aX d iX5_nextSeat 16 (l0 :: l1 :: l2 :: lo :: lt) (.int x :: st) σ Q ↔ aX d iX5_nextSeat 17 (l0 :: l1 :: aclr l2 :: some (.int x) :: lt) (st) σ Q := X_istoren kX5_nextSeat_16 (by simp only [List.length_cons]; omega)
theorem kX5_nextSeat_17 : aCode iX5_nextSeat 17 = some (.iconst 0, 1) := by decide +kernel
theorem sX5_nextSeat_17 {d : Nat} {σ : aS} {Q : aQ} {ls : aL} {st : List Value} : aX d iX5_nextSeat 17 (ls) (st) σ Q ↔ aX d iX5_nextSeat 18 (ls) (.int (nI 0) :: st) σ Q := X_iconst kX5_nextSeat_17 (by decide +kernel)
theorem kX5_nextSeat_18 : aCode iX5_nextSeat 18 = some (.istore 4, 2) := by decide +kernel
theorem sX5_nextSeat_18 {d : Nat} {σ : aS} {Q : aQ} {l0 l1 l2 l3 lo : Option Value} {x : Int32} {lt : aL} {st : List Value} : aX d iX5_nextSeat 18 (l0 :: l1 :: l2 :: l3 :: lo :: lt) (.int x :: st) σ Q ↔ aX d iX5_nextSeat 20 (l0 :: l1 :: l2 :: aclr l3 :: some (.int x) :: lt) (st) σ Q := X_istore kX5_nextSeat_18 (by simp only [List.length_cons]; omega)
theorem kX5_nextSeat_20 : aCode iX5_nextSeat 20 = some (.iload 4, 2) := by decide +kernel
theorem sX5_nextSeat_20 {d : Nat} {σ : aS} {Q : aQ} {l0 l1 l2 l3 : Option Value} {x : Int32} {lt : aL} {st : List Value} : aX d iX5_nextSeat 20 (l0 :: l1 :: l2 :: l3 :: some (.int x) :: lt) (st) σ Q ↔ aX d iX5_nextSeat 22 (l0 :: l1 :: l2 :: l3 :: some (.int x) :: lt) (.int x :: st) σ Q := X_iload kX5_nextSeat_20 rfl
theorem kX5_nextSeat_22 : aCode iX5_nextSeat 22 = some (.bipush 8, 2) := by decide +kernel
theorem sX5_nextSeat_22 {d : Nat} {σ : aS} {Q : aQ} {ls : aL} {st : List Value} : aX d iX5_nextSeat 22 (ls) (st) σ Q ↔ aX d iX5_nextSeat 24 (ls) (.int (nI 8) :: st) σ Q := X_bipush kX5_nextSeat_22 (by decide +kernel)
theorem kX5_nextSeat_24 : aCode iX5_nextSeat 24 = some (.if_icmp .ge 35, 3) := by decide +kernel
theorem sX5_nextSeat_24 {d : Nat} {σ : aS} {Q : aQ} {x y : Int32} {ls : aL} {st : List Value} : aX d iX5_nextSeat 24 (ls) (.int y :: .int x :: st) σ Q ↔ (if y ≤ x then aX d iX5_nextSeat 59 (ls) (st) σ Q else aX d iX5_nextSeat 27 (ls) (st) σ Q) := by rw [X_icmp kX5_nextSeat_24 (t := 59) (by decide)]; simp only [aCmp_ge]
theorem kX5_nextSeat_27 : aCode iX5_nextSeat 27 = some (.iload_n 3, 1) := by decide +kernel
theorem sX5_nextSeat_27 {d : Nat} {σ : aS} {Q : aQ} {l0 l1 l2 : Option Value} {x : Int32} {lt : aL} {st : List Value} : aX d iX5_nextSeat 27 (l0 :: l1 :: l2 :: some (.int x) :: lt) (st) σ Q ↔ aX d iX5_nextSeat 28 (l0 :: l1 :: l2 :: some (.int x) :: lt) (.int x :: st) σ Q := X_iloadn kX5_nextSeat_27 rfl
theorem kX5_nextSeat_28 : aCode iX5_nextSeat 28 = some (.iconst 1, 1) := by decide +kernel
theorem sX5_nextSeat_28 {d : Nat} {σ : aS} {Q : aQ} {ls : aL} {st : List Value} : aX d iX5_nextSeat 28 (ls) (st) σ Q ↔ aX d iX5_nextSeat 29 (ls) (.int (nI 1) :: st) σ Q := X_iconst kX5_nextSeat_28 (by decide +kernel)
theorem kX5_nextSeat_29 : aCode iX5_nextSeat 29 = some (.iadd, 1) := by decide +kernel
theorem sX5_nextSeat_29 {d : Nat} {σ : aS} {Q : aQ} {x y : Int32} {ls : aL} {st : List Value} : aX d iX5_nextSeat 29 (ls) (.int y :: .int x :: st) σ Q ↔ aX d iX5_nextSeat 30 (ls) (.int (x + y) :: st) σ Q := X_iadd kX5_nextSeat_29
theorem kX5_nextSeat_30 : aCode iX5_nextSeat 30 = some (.bipush 8, 2) := by decide +kernel
theorem sX5_nextSeat_30 {d : Nat} {σ : aS} {Q : aQ} {ls : aL} {st : List Value} : aX d iX5_nextSeat 30 (ls) (st) σ Q ↔ aX d iX5_nextSeat 32 (ls) (.int (nI 8) :: st) σ Q := X_bipush kX5_nextSeat_30 (by decide +kernel)
theorem kX5_nextSeat_32 : aCode iX5_nextSeat 32 = some (.if_icmp .ge 9, 3) := by decide +kernel
theorem sX5_nextSeat_32 {d : Nat} {σ : aS} {Q : aQ} {x y : Int32} {ls : aL} {st : List Value} : aX d iX5_nextSeat 32 (ls) (.int y :: .int x :: st) σ Q ↔ (if y ≤ x then aX d iX5_nextSeat 41 (ls) (st) σ Q else aX d iX5_nextSeat 35 (ls) (st) σ Q) := by rw [X_icmp kX5_nextSeat_32 (t := 41) (by decide)]; simp only [aCmp_ge]
theorem kX5_nextSeat_35 : aCode iX5_nextSeat 35 = some (.iload_n 3, 1) := by decide +kernel
theorem sX5_nextSeat_35 {d : Nat} {σ : aS} {Q : aQ} {l0 l1 l2 : Option Value} {x : Int32} {lt : aL} {st : List Value} : aX d iX5_nextSeat 35 (l0 :: l1 :: l2 :: some (.int x) :: lt) (st) σ Q ↔ aX d iX5_nextSeat 36 (l0 :: l1 :: l2 :: some (.int x) :: lt) (.int x :: st) σ Q := X_iloadn kX5_nextSeat_35 rfl
theorem kX5_nextSeat_36 : aCode iX5_nextSeat 36 = some (.iconst 1, 1) := by decide +kernel
theorem sX5_nextSeat_36 {d : Nat} {σ : aS} {Q : aQ} {ls : aL} {st : List Value} : aX d iX5_nextSeat 36 (ls) (st) σ Q ↔ aX d iX5_nextSeat 37 (ls) (.int (nI 1) :: st) σ Q := X_iconst kX5_nextSeat_36 (by decide +kernel)
theorem kX5_nextSeat_37 : aCode iX5_nextSeat 37 = some (.iadd, 1) := by decide +kernel
theorem sX5_nextSeat_37 {d : Nat} {σ : aS} {Q : aQ} {x y : Int32} {ls : aL} {st : List Value} : aX d iX5_nextSeat 37 (ls) (.int y :: .int x :: st) σ Q ↔ aX d iX5_nextSeat 38 (ls) (.int (x + y) :: st) σ Q := X_iadd kX5_nextSeat_37
theorem kX5_nextSeat_38 : aCode iX5_nextSeat 38 = some (.goto 4, 3) := by decide +kernel
theorem sX5_nextSeat_38 {d : Nat} {σ : aS} {Q : aQ} {ls : aL} {st : List Value} : aX d iX5_nextSeat 38 (ls) (st) σ Q ↔ aX d iX5_nextSeat 42 (ls) (st) σ Q := X_goto kX5_nextSeat_38 (by decide)
theorem kX5_nextSeat_41 : aCode iX5_nextSeat 41 = some (.iconst 0, 1) := by decide +kernel
theorem sX5_nextSeat_41 {d : Nat} {σ : aS} {Q : aQ} {ls : aL} {st : List Value} : aX d iX5_nextSeat 41 (ls) (st) σ Q ↔ aX d iX5_nextSeat 42 (ls) (.int (nI 0) :: st) σ Q := X_iconst kX5_nextSeat_41 (by decide +kernel)
theorem kX5_nextSeat_42 : aCode iX5_nextSeat 42 = some (.istore_n 3, 1) := by decide +kernel
theorem sX5_nextSeat_42 {d : Nat} {σ : aS} {Q : aQ} {l0 l1 l2 lo : Option Value} {x : Int32} {lt : aL} {st : List Value} : aX d iX5_nextSeat 42 (l0 :: l1 :: l2 :: lo :: lt) (.int x :: st) σ Q ↔ aX d iX5_nextSeat 43 (l0 :: l1 :: aclr l2 :: some (.int x) :: lt) (st) σ Q := X_istoren kX5_nextSeat_42 (by simp only [List.length_cons]; omega)
theorem kX5_nextSeat_43 : aCode iX5_nextSeat 43 = some (.iload_n 2, 1) := by decide +kernel
theorem sX5_nextSeat_43 {d : Nat} {σ : aS} {Q : aQ} {l0 l1 : Option Value} {x : Int32} {lt : aL} {st : List Value} : aX d iX5_nextSeat 43 (l0 :: l1 :: some (.int x) :: lt) (st) σ Q ↔ aX d iX5_nextSeat 44 (l0 :: l1 :: some (.int x) :: lt) (.int x :: st) σ Q := X_iloadn kX5_nextSeat_43 rfl
theorem kX5_nextSeat_44 : aCode iX5_nextSeat 44 = some (.iconst 1, 1) := by decide +kernel
theorem sX5_nextSeat_44 {d : Nat} {σ : aS} {Q : aQ} {ls : aL} {st : List Value} : aX d iX5_nextSeat 44 (ls) (st) σ Q ↔ aX d iX5_nextSeat 45 (ls) (.int (nI 1) :: st) σ Q := X_iconst kX5_nextSeat_44 (by decide +kernel)
theorem kX5_nextSeat_45 : aCode iX5_nextSeat 45 = some (.iload_n 3, 1) := by decide +kernel
theorem sX5_nextSeat_45 {d : Nat} {σ : aS} {Q : aQ} {l0 l1 l2 : Option Value} {x : Int32} {lt : aL} {st : List Value} : aX d iX5_nextSeat 45 (l0 :: l1 :: l2 :: some (.int x) :: lt) (st) σ Q ↔ aX d iX5_nextSeat 46 (l0 :: l1 :: l2 :: some (.int x) :: lt) (.int x :: st) σ Q := X_iloadn kX5_nextSeat_45 rfl
theorem kX5_nextSeat_46 : aCode iX5_nextSeat 46 = some (.ishl, 1) := by decide +kernel
theorem sX5_nextSeat_46 {d : Nat} {σ : aS} {Q : aQ} {x y : Int32} {ls : aL} {st : List Value} : aX d iX5_nextSeat 46 (ls) (.int y :: .int x :: st) σ Q ↔ aX d iX5_nextSeat 47 (ls) (.int (x <<< (y &&& 31)) :: st) σ Q := X_ishl kX5_nextSeat_46
theorem kX5_nextSeat_47 : aCode iX5_nextSeat 47 = some (.iand, 1) := by decide +kernel
theorem sX5_nextSeat_47 {d : Nat} {σ : aS} {Q : aQ} {x y : Int32} {ls : aL} {st : List Value} : aX d iX5_nextSeat 47 (ls) (.int y :: .int x :: st) σ Q ↔ aX d iX5_nextSeat 48 (ls) (.int (x &&& y) :: st) σ Q := X_iand kX5_nextSeat_47
theorem kX5_nextSeat_48 : aCode iX5_nextSeat 48 = some (.ifCond .eq 5, 3) := by decide +kernel
theorem sX5_nextSeat_48 {d : Nat} {σ : aS} {Q : aQ} {x : Int32} {ls : aL} {st : List Value} : aX d iX5_nextSeat 48 (ls) (.int x :: st) σ Q ↔ (if x = nI 0 then aX d iX5_nextSeat 53 (ls) (st) σ Q else aX d iX5_nextSeat 51 (ls) (st) σ Q) := by rw [X_if kX5_nextSeat_48 (t := 53) (by decide)]; simp only [aCmp_eq]
theorem kX5_nextSeat_51 : aCode iX5_nextSeat 51 = some (.iload_n 3, 1) := by decide +kernel
theorem sX5_nextSeat_51 {d : Nat} {σ : aS} {Q : aQ} {l0 l1 l2 : Option Value} {x : Int32} {lt : aL} {st : List Value} : aX d iX5_nextSeat 51 (l0 :: l1 :: l2 :: some (.int x) :: lt) (st) σ Q ↔ aX d iX5_nextSeat 52 (l0 :: l1 :: l2 :: some (.int x) :: lt) (.int x :: st) σ Q := X_iloadn kX5_nextSeat_51 rfl
theorem kX5_nextSeat_52 : aCode iX5_nextSeat 52 = some (.ireturn, 1) := by decide +kernel
theorem sX5_nextSeat_52 {d : Nat} {σ : aS} {Q : aQ} {v : Int32} {ls : aL} : aX d iX5_nextSeat 52 (ls) ([.int v]) σ Q ↔ Q (some (.int v)) σ := X_iret kX5_nextSeat_52 (by decide +kernel)
theorem kX5_nextSeat_53 : aCode iX5_nextSeat 53 = some (.iinc 4 1, 3) := by decide +kernel
theorem sX5_nextSeat_53 {d : Nat} {σ : aS} {Q : aQ} {l0 l1 l2 l3 : Option Value} {x : Int32} {lt : aL} {st : List Value} : aX d iX5_nextSeat 53 (l0 :: l1 :: l2 :: l3 :: some (.int x) :: lt) (st) σ Q ↔ aX d iX5_nextSeat 56 (l0 :: l1 :: l2 :: aclr l3 :: some (.int (x + nI 1)) :: lt) (st) σ Q := X_iinc kX5_nextSeat_53 rfl (by decide +kernel)
theorem kX5_nextSeat_56 : aCode iX5_nextSeat 56 = some (.goto (-36), 3) := by decide +kernel
theorem sX5_nextSeat_56 {d : Nat} {σ : aS} {Q : aQ} {ls : aL} {st : List Value} : aX d iX5_nextSeat 56 (ls) (st) σ Q ↔ aX d iX5_nextSeat 20 (ls) (st) σ Q := X_goto kX5_nextSeat_56 (by decide)
theorem kX5_nextSeat_59 : aCode iX5_nextSeat 59 = some (.bipush (-6), 2) := by decide +kernel
theorem sX5_nextSeat_59 {d : Nat} {σ : aS} {Q : aQ} {ls : aL} {st : List Value} : aX d iX5_nextSeat 59 (ls) (st) σ Q ↔ aX d iX5_nextSeat 61 (ls) (.int ((-6)) :: st) σ Q := X_bipush kX5_nextSeat_59 (by decide +kernel)
theorem kX5_nextSeat_61 : aCode iX5_nextSeat 61 = some (.ireturn, 1) := by decide +kernel
theorem sX5_nextSeat_61 {d : Nat} {σ : aS} {Q : aQ} {v : Int32} {ls : aL} : aX d iX5_nextSeat 61 (ls) ([.int v]) σ Q ↔ Q (some (.int v)) σ := X_iret kX5_nextSeat_61 (by decide +kernel)
theorem kX5_end_0 : aCode iX5_end 0 = some (.aload_n 0, 1) := by decide +kernel
theorem sX5_end_0 {d : Nat} {σ : aS} {Q : aQ} {x : Nat} {lt : aL} {st : List Value} : aX d iX5_end 0 (some (.ref x) :: lt) (st) σ Q ↔ aX d iX5_end 1 (some (.ref x) :: lt) (.ref x :: st) σ Q := X_aloadn kX5_end_0 rfl rfl
theorem kX5_end_1 : aCode iX5_end 1 = some (.aload_n 1, 1) := by decide +kernel
theorem sX5_end_1 {d : Nat} {σ : aS} {Q : aQ} {l0 : Option Value} {x : Nat} {lt : aL} {st : List Value} : aX d iX5_end 1 (l0 :: some (.ref x) :: lt) (st) σ Q ↔ aX d iX5_end 2 (l0 :: some (.ref x) :: lt) (.ref x :: st) σ Q := X_aloadn kX5_end_1 rfl rfl
theorem sX5_end_1n {d : Nat} {σ : aS} {Q : aQ} {l0 : Option Value} {lt : aL} {st : List Value} : aX d iX5_end 1 (l0 :: some .null :: lt) (st) σ Q ↔ aX d iX5_end 2 (l0 :: some .null :: lt) (.null :: st) σ Q := X_aloadn kX5_end_1 rfl rfl
theorem kX5_end_2 : aCode iX5_end 2 = some (.getfield 136, 3) := by decide +kernel
theorem sX5_end_2 {d : Nat} {σ : aS} {Q : aQ} {a : Nat} {ls : aL} {st : List Value} : aX d iX5_end 2 (ls) (.ref a :: st) σ Q ↔ ∃ v, aFld σ a 0 2 = some v ∧ aX d iX5_end 5 (ls) (v :: st) σ Q := X_getf (w := 42) kX5_end_2 (by decide +kernel)
theorem kX5_end_5 : aCode iX5_end 5 = some (.invokevirtual 68, 3) := by decide +kernel
theorem sX5_end_5 {d : Nat} {σ : aS} {Q : aQ} {b : Nat} {p0 : Int32} {ls : aL} : aX (d + 1) iX5_end 5 (ls) (.int p0 :: .ref b :: []) σ Q ↔ aIs σ b 5 ∧ aX d iX5_isTaken 0 [some (.ref b), some (.int p0)] [] σ (fun r τ => aX (d + 1) iX5_end 8 (ls) (aret r ([])) τ Q) := X_invv (N := 1) (As := [.int p0]) (w := 265) kX5_end_5 (by decide +kernel) (by decide +kernel) rfl rfl (by simp only [List.length_cons, List.length_nil]; omega) (by simp only [List.length_cons, List.length_nil]; omega) (by decide +kernel) rfl (Nat.le_of_ble_eq_true rfl)
theorem kX5_end_8 : aCode iX5_end 8 = some (.ifCond .ne 9, 3) := by decide +kernel
theorem sX5_end_8 {d : Nat} {σ : aS} {Q : aQ} {x : Int32} {ls : aL} {st : List Value} : aX d iX5_end 8 (ls) (.int x :: st) σ Q ↔ (if ¬ x = nI 0 then aX d iX5_end 17 (ls) (st) σ Q else aX d iX5_end 11 (ls) (st) σ Q) := by rw [X_if kX5_end_8 (t := 17) (by decide)]; simp only [aCmp_ne]
theorem kX5_end_11 : aCode iX5_end 11 = some (.aload_n 1, 1) := by decide +kernel
theorem sX5_end_11 {d : Nat} {σ : aS} {Q : aQ} {l0 : Option Value} {x : Nat} {lt : aL} {st : List Value} : aX d iX5_end 11 (l0 :: some (.ref x) :: lt) (st) σ Q ↔ aX d iX5_end 12 (l0 :: some (.ref x) :: lt) (.ref x :: st) σ Q := X_aloadn kX5_end_11 rfl rfl
theorem sX5_end_11n {d : Nat} {σ : aS} {Q : aQ} {l0 : Option Value} {lt : aL} {st : List Value} : aX d iX5_end 11 (l0 :: some .null :: lt) (st) σ Q ↔ aX d iX5_end 12 (l0 :: some .null :: lt) (.null :: st) σ Q := X_aloadn kX5_end_11 rfl rfl
theorem kX5_end_12 : aCode iX5_end 12 = some (.iconst 2, 1) := by decide +kernel
theorem sX5_end_12 {d : Nat} {σ : aS} {Q : aQ} {ls : aL} {st : List Value} : aX d iX5_end 12 (ls) (st) σ Q ↔ aX d iX5_end 13 (ls) (.int (nI 2) :: st) σ Q := X_iconst kX5_end_12 (by decide +kernel)
theorem kX5_end_13 : aCode iX5_end 13 = some (.putfield 139, 3) := by decide +kernel
theorem sX5_end_13 {d : Nat} {σ : aS} {Q : aQ} {x : Int32} {a : Nat} {ls : aL} {st : List Value} : aX d iX5_end 13 (ls) (.int x :: .ref a :: st) σ Q ↔ ∃ fs, aFds σ a 0 = some fs ∧ 4 < fs.length ∧ aX d iX5_end 16 (ls) (st) (aput σ a (eO 0 (fs.set 4 (.int x)))) Q := X_putf (w := 48) kX5_end_13 (by decide +kernel) (aFit_I (by decide +kernel)) (by decide +kernel)
theorem kX5_end_16 : aCode iX5_end 16 = some (.return_, 1) := by decide +kernel
theorem sX5_end_16 {d : Nat} {σ : aS} {Q : aQ} {ls : aL} : aX d iX5_end 16 (ls) ([]) σ Q ↔ Q none σ := X_vret kX5_end_16 (by decide +kernel)
theorem kX5_end_17 : aCode iX5_end 17 = some (.aload_n 1, 1) := by decide +kernel
theorem sX5_end_17 {d : Nat} {σ : aS} {Q : aQ} {l0 : Option Value} {x : Nat} {lt : aL} {st : List Value} : aX d iX5_end 17 (l0 :: some (.ref x) :: lt) (st) σ Q ↔ aX d iX5_end 18 (l0 :: some (.ref x) :: lt) (.ref x :: st) σ Q := X_aloadn kX5_end_17 rfl rfl
theorem sX5_end_17n {d : Nat} {σ : aS} {Q : aQ} {l0 : Option Value} {lt : aL} {st : List Value} : aX d iX5_end 17 (l0 :: some .null :: lt) (st) σ Q ↔ aX d iX5_end 18 (l0 :: some .null :: lt) (.null :: st) σ Q := X_aloadn kX5_end_17 rfl rfl
theorem kX5_end_18 : aCode iX5_end 18 = some (.iconst 1, 1) := by decide +kernel
theorem sX5_end_18 {d : Nat} {σ : aS} {Q : aQ} {ls : aL} {st : List Value} : aX d iX5_end 18 (ls) (st) σ Q ↔ aX d iX5_end 19 (ls) (.int (nI 1) :: st) σ Q := X_iconst kX5_end_18 (by decide +kernel)
theorem kX5_end_19 : aCode iX5_end 19 = some (.putfield 139, 3) := by decide +kernel
theorem sX5_end_19 {d : Nat} {σ : aS} {Q : aQ} {x : Int32} {a : Nat} {ls : aL} {st : List Value} : aX d iX5_end 19 (ls) (.int x :: .ref a :: st) σ Q ↔ ∃ fs, aFds σ a 0 = some fs ∧ 4 < fs.length ∧ aX d iX5_end 22 (ls) (st) (aput σ a (eO 0 (fs.set 4 (.int x)))) Q := X_putf (w := 48) kX5_end_19 (by decide +kernel) (aFit_I (by decide +kernel)) (by decide +kernel)
theorem kX5_end_22 : aCode iX5_end 22 = some (.aload_n 1, 1) := by decide +kernel
theorem sX5_end_22 {d : Nat} {σ : aS} {Q : aQ} {l0 : Option Value} {x : Nat} {lt : aL} {st : List Value} : aX d iX5_end 22 (l0 :: some (.ref x) :: lt) (st) σ Q ↔ aX d iX5_end 23 (l0 :: some (.ref x) :: lt) (.ref x :: st) σ Q := X_aloadn kX5_end_22 rfl rfl
theorem sX5_end_22n {d : Nat} {σ : aS} {Q : aQ} {l0 : Option Value} {lt : aL} {st : List Value} : aX d iX5_end 22 (l0 :: some .null :: lt) (st) σ Q ↔ aX d iX5_end 23 (l0 :: some .null :: lt) (.null :: st) σ Q := X_aloadn kX5_end_22 rfl rfl
theorem kX5_end_23 : aCode iX5_end 23 = some (.getfield 120, 3) := by decide +kernel
theorem sX5_end_23 {d : Nat} {σ : aS} {Q : aQ} {a : Nat} {ls : aL} {st : List Value} : aX d iX5_end 23 (ls) (.ref a :: st) σ Q ↔ ∃ v, aFld σ a 0 3 = some v ∧ aX d iX5_end 26 (ls) (v :: st) σ Q := X_getf (w := 45) kX5_end_23 (by decide +kernel)
theorem kX5_end_26 : aCode iX5_end 26 = some (.iconst 3, 1) := by decide +kernel
theorem sX5_end_26 {d : Nat} {σ : aS} {Q : aQ} {ls : aL} {st : List Value} : aX d iX5_end 26 (ls) (st) σ Q ↔ aX d iX5_end 27 (ls) (.int (nI 3) :: st) σ Q := X_iconst kX5_end_26 (by decide +kernel)
theorem kX5_end_27 : aCode iX5_end 27 = some (.if_icmp .lt 23, 3) := by decide +kernel
theorem sX5_end_27 {d : Nat} {σ : aS} {Q : aQ} {x y : Int32} {ls : aL} {st : List Value} : aX d iX5_end 27 (ls) (.int y :: .int x :: st) σ Q ↔ (if x < y then aX d iX5_end 50 (ls) (st) σ Q else aX d iX5_end 30 (ls) (st) σ Q) := by rw [X_icmp kX5_end_27 (t := 50) (by decide)]; simp only [aCmp_lt]
theorem kX5_end_30 : aCode iX5_end 30 = some (.aload_n 1, 1) := by decide +kernel
theorem sX5_end_30 {d : Nat} {σ : aS} {Q : aQ} {l0 : Option Value} {x : Nat} {lt : aL} {st : List Value} : aX d iX5_end 30 (l0 :: some (.ref x) :: lt) (st) σ Q ↔ aX d iX5_end 31 (l0 :: some (.ref x) :: lt) (.ref x :: st) σ Q := X_aloadn kX5_end_30 rfl rfl
theorem sX5_end_30n {d : Nat} {σ : aS} {Q : aQ} {l0 : Option Value} {lt : aL} {st : List Value} : aX d iX5_end 30 (l0 :: some .null :: lt) (st) σ Q ↔ aX d iX5_end 31 (l0 :: some .null :: lt) (.null :: st) σ Q := X_aloadn kX5_end_30 rfl rfl
theorem kX5_end_31 : aCode iX5_end 31 = some (.invokevirtual 142, 3) := by decide +kernel
theorem sX5_end_31 {d : Nat} {σ : aS} {Q : aQ} {b : Nat} {ls : aL} : aX (d + 1) iX5_end 31 (ls) (.ref b :: []) σ Q ↔ aIs σ b 0 ∧ aX d iX0_lastWord 0 [some (.ref b)] [] σ (fun r τ => aX (d + 1) iX5_end 34 (ls) (aret r ([])) τ Q) := X_invv (N := 0) (As := []) (w := 339) kX5_end_31 (by decide +kernel) (by decide +kernel) rfl rfl (by simp only [List.length_cons, List.length_nil]; omega) (by simp only [List.length_cons, List.length_nil]; omega) (by decide +kernel) rfl (Nat.le_of_ble_eq_true rfl)
theorem kX5_end_34 : aCode iX5_end 34 = some (.aload_n 1, 1) := by decide +kernel
theorem sX5_end_34 {d : Nat} {σ : aS} {Q : aQ} {l0 : Option Value} {x : Nat} {lt : aL} {st : List Value} : aX d iX5_end 34 (l0 :: some (.ref x) :: lt) (st) σ Q ↔ aX d iX5_end 35 (l0 :: some (.ref x) :: lt) (.ref x :: st) σ Q := X_aloadn kX5_end_34 rfl rfl
theorem sX5_end_34n {d : Nat} {σ : aS} {Q : aQ} {l0 : Option Value} {lt : aL} {st : List Value} : aX d iX5_end 34 (l0 :: some .null :: lt) (st) σ Q ↔ aX d iX5_end 35 (l0 :: some .null :: lt) (.null :: st) σ Q := X_aloadn kX5_end_34 rfl rfl
theorem kX5_end_35 : aCode iX5_end 35 = some (.invokevirtual 145, 3) := by decide +kernel
theorem sX5_end_35 {d : Nat} {σ : aS} {Q : aQ} {b : Nat} {v0 : Value} {ls : aL} : aX (d + 1) iX5_end 35 (ls) (.ref b :: v0 :: []) σ Q ↔ aIs σ b 0 ∧ aX d iX0_firstWord 0 [some (.ref b)] [] σ (fun r τ => aX (d + 1) iX5_end 38 (ls) (aret r (v0 :: [])) τ Q) := X_invv (N := 0) (As := []) (w := 344) kX5_end_35 (by decide +kernel) (by decide +kernel) rfl rfl (by simp only [List.length_cons, List.length_nil]; omega) (by simp only [List.length_cons, List.length_nil]; omega) (by decide +kernel) rfl (Nat.le_of_ble_eq_true rfl)
theorem kX5_end_38 : aCode iX5_end 38 = some (.if_icmp .ne 12, 3) := by decide +kernel
theorem sX5_end_38 {d : Nat} {σ : aS} {Q : aQ} {x y : Int32} {ls : aL} {st : List Value} : aX d iX5_end 38 (ls) (.int y :: .int x :: st) σ Q ↔ (if ¬ x = y then aX d iX5_end 50 (ls) (st) σ Q else aX d iX5_end 41 (ls) (st) σ Q) := by rw [X_icmp kX5_end_38 (t := 50) (by decide)]; simp only [aCmp_ne]
theorem kX5_end_41 : aCode iX5_end 41 = some (.aload_n 2, 1) := by decide +kernel
theorem sX5_end_41 {d : Nat} {σ : aS} {Q : aQ} {l0 l1 : Option Value} {x : Nat} {lt : aL} {st : List Value} : aX d iX5_end 41 (l0 :: l1 :: some (.ref x) :: lt) (st) σ Q ↔ aX d iX5_end 42 (l0 :: l1 :: some (.ref x) :: lt) (.ref x :: st) σ Q := X_aloadn kX5_end_41 rfl rfl
theorem sX5_end_41n {d : Nat} {σ : aS} {Q : aQ} {l0 l1 : Option Value} {lt : aL} {st : List Value} : aX d iX5_end 41 (l0 :: l1 :: some .null :: lt) (st) σ Q ↔ aX d iX5_end 42 (l0 :: l1 :: some .null :: lt) (.null :: st) σ Q := X_aloadn kX5_end_41 rfl rfl
theorem kX5_end_42 : aCode iX5_end 42 = some (.aload_n 1, 1) := by decide +kernel
theorem sX5_end_42 {d : Nat} {σ : aS} {Q : aQ} {l0 : Option Value} {x : Nat} {lt : aL} {st : List Value} : aX d iX5_end 42 (l0 :: some (.ref x) :: lt) (st) σ Q ↔ aX d iX5_end 43 (l0 :: some (.ref x) :: lt) (.ref x :: st) σ Q := X_aloadn kX5_end_42 rfl rfl
theorem sX5_end_42n {d : Nat} {σ : aS} {Q : aQ} {l0 : Option Value} {lt : aL} {st : List Value} : aX d iX5_end 42 (l0 :: some .null :: lt) (st) σ Q ↔ aX d iX5_end 43 (l0 :: some .null :: lt) (.null :: st) σ Q := X_aloadn kX5_end_42 rfl rfl
theorem kX5_end_43 : aCode iX5_end 43 = some (.getfield 136, 3) := by decide +kernel
theorem sX5_end_43 {d : Nat} {σ : aS} {Q : aQ} {a : Nat} {ls : aL} {st : List Value} : aX d iX5_end 43 (ls) (.ref a :: st) σ Q ↔ ∃ v, aFld σ a 0 2 = some v ∧ aX d iX5_end 46 (ls) (v :: st) σ Q := X_getf (w := 42) kX5_end_43 (by decide +kernel)
theorem kX5_end_46 : aCode iX5_end 46 = some (.iconst 2, 1) := by decide +kernel
theorem sX5_end_46 {d : Nat} {σ : aS} {Q : aQ} {ls : aL} {st : List Value} : aX d iX5_end 46 (ls) (st) σ Q ↔ aX d iX5_end 47 (ls) (.int (nI 2) :: st) σ Q := X_iconst kX5_end_46 (by decide +kernel)
theorem kX5_end_47 : aCode iX5_end 47 = some (.invokestatic 126, 3) := by decide +kernel
theorem sX5_end_47 {d : Nat} {σ : aS} {Q : aQ} {p0 : Nat} {p1 : Int32} {p2 : Int32} {ls : aL} : aX (d + 1) iX5_end 47 (ls) (.int p2 :: .int p1 :: .ref p0 :: []) σ Q ↔ aX d iX6_addAt 0 [some (.ref p0), some (.int p1), some (.int p2)] [] σ (fun r τ => aX (d + 1) iX5_end 50 (ls) (aret r ([])) τ Q) := X_invs (N := 3) (As := [.int p2, .int p1, .ref p0]) (k := 4) (w := 348) kX5_end_47 (by decide +kernel) (by decide) (by decide +kernel) rfl rfl (by simp only [List.length_cons, List.length_nil]; omega) (by simp only [List.length_cons, List.length_nil]; omega) rfl (Nat.le_of_ble_eq_true rfl)
theorem kX5_end_50 : aCode iX5_end 50 = some (.return_, 1) := by decide +kernel
theorem sX5_end_50 {d : Nat} {σ : aS} {Q : aQ} {ls : aL} : aX d iX5_end 50 (ls) ([]) σ Q ↔ Q none σ := X_vret kX5_end_50 (by decide +kernel)
theorem kX5_pageBy_0 : aCode iX5_pageBy 0 = some (.aload_n 2, 1) := by decide +kernel
theorem sX5_pageBy_0 {d : Nat} {σ : aS} {Q : aQ} {l0 l1 : Option Value} {x : Nat} {lt : aL} {st : List Value} : aX d iX5_pageBy 0 (l0 :: l1 :: some (.ref x) :: lt) (st) σ Q ↔ aX d iX5_pageBy 1 (l0 :: l1 :: some (.ref x) :: lt) (.ref x :: st) σ Q := X_aloadn kX5_pageBy_0 rfl rfl
theorem sX5_pageBy_0n {d : Nat} {σ : aS} {Q : aQ} {l0 l1 : Option Value} {lt : aL} {st : List Value} : aX d iX5_pageBy 0 (l0 :: l1 :: some .null :: lt) (st) σ Q ↔ aX d iX5_pageBy 1 (l0 :: l1 :: some .null :: lt) (.null :: st) σ Q := X_aloadn kX5_pageBy_0 rfl rfl
theorem kX5_pageBy_1 : aCode iX5_pageBy 1 = some (.aload_n 2, 1) := by decide +kernel
theorem sX5_pageBy_1 {d : Nat} {σ : aS} {Q : aQ} {l0 l1 : Option Value} {x : Nat} {lt : aL} {st : List Value} : aX d iX5_pageBy 1 (l0 :: l1 :: some (.ref x) :: lt) (st) σ Q ↔ aX d iX5_pageBy 2 (l0 :: l1 :: some (.ref x) :: lt) (.ref x :: st) σ Q := X_aloadn kX5_pageBy_1 rfl rfl
theorem sX5_pageBy_1n {d : Nat} {σ : aS} {Q : aQ} {l0 l1 : Option Value} {lt : aL} {st : List Value} : aX d iX5_pageBy 1 (l0 :: l1 :: some .null :: lt) (st) σ Q ↔ aX d iX5_pageBy 2 (l0 :: l1 :: some .null :: lt) (.null :: st) σ Q := X_aloadn kX5_pageBy_1 rfl rfl
theorem kX5_pageBy_2 : aCode iX5_pageBy 2 = some (.getfield 120, 3) := by decide +kernel
theorem sX5_pageBy_2 {d : Nat} {σ : aS} {Q : aQ} {a : Nat} {ls : aL} {st : List Value} : aX d iX5_pageBy 2 (ls) (.ref a :: st) σ Q ↔ ∃ v, aFld σ a 0 3 = some v ∧ aX d iX5_pageBy 5 (ls) (v :: st) σ Q := X_getf (w := 45) kX5_pageBy_2 (by decide +kernel)
theorem kX5_pageBy_5 : aCode iX5_pageBy 5 = some (.iconst 1, 1) := by decide +kernel
theorem sX5_pageBy_5 {d : Nat} {σ : aS} {Q : aQ} {ls : aL} {st : List Value} : aX d iX5_pageBy 5 (ls) (st) σ Q ↔ aX d iX5_pageBy 6 (ls) (.int (nI 1) :: st) σ Q := X_iconst kX5_pageBy_5 (by decide +kernel)
theorem kX5_pageBy_6 : aCode iX5_pageBy 6 = some (.isub, 1) := by decide +kernel
theorem sX5_pageBy_6 {d : Nat} {σ : aS} {Q : aQ} {x y : Int32} {ls : aL} {st : List Value} : aX d iX5_pageBy 6 (ls) (.int y :: .int x :: st) σ Q ↔ aX d iX5_pageBy 7 (ls) (.int (x - y) :: st) σ Q := X_isub kX5_pageBy_6
theorem kX5_pageBy_7 : aCode iX5_pageBy 7 = some (.invokevirtual 148, 3) := by decide +kernel
theorem sX5_pageBy_7 {d : Nat} {σ : aS} {Q : aQ} {b : Nat} {p0 : Int32} {ls : aL} : aX (d + 1) iX5_pageBy 7 (ls) (.int p0 :: .ref b :: []) σ Q ↔ aIs σ b 0 ∧ aX d iX0_markOf 0 [some (.ref b), some (.int p0)] [] σ (fun r τ => aX (d + 1) iX5_pageBy 10 (ls) (aret r ([])) τ Q) := X_invv (N := 1) (As := [.int p0]) (w := 359) kX5_pageBy_7 (by decide +kernel) (by decide +kernel) rfl rfl (by simp only [List.length_cons, List.length_nil]; omega) (by simp only [List.length_cons, List.length_nil]; omega) (by decide +kernel) rfl (Nat.le_of_ble_eq_true rfl)
theorem kX5_pageBy_10 : aCode iX5_pageBy 10 = some (.istore_n 3, 1) := by decide +kernel
theorem sX5_pageBy_10 {d : Nat} {σ : aS} {Q : aQ} {l0 l1 l2 lo : Option Value} {x : Int32} {lt : aL} {st : List Value} : aX d iX5_pageBy 10 (l0 :: l1 :: l2 :: lo :: lt) (.int x :: st) σ Q ↔ aX d iX5_pageBy 11 (l0 :: l1 :: aclr l2 :: some (.int x) :: lt) (st) σ Q := X_istoren kX5_pageBy_10 (by simp only [List.length_cons]; omega)
theorem kX5_pageBy_11 : aCode iX5_pageBy 11 = some (.aload_n 2, 1) := by decide +kernel
theorem sX5_pageBy_11 {d : Nat} {σ : aS} {Q : aQ} {l0 l1 : Option Value} {x : Nat} {lt : aL} {st : List Value} : aX d iX5_pageBy 11 (l0 :: l1 :: some (.ref x) :: lt) (st) σ Q ↔ aX d iX5_pageBy 12 (l0 :: l1 :: some (.ref x) :: lt) (.ref x :: st) σ Q := X_aloadn kX5_pageBy_11 rfl rfl
theorem sX5_pageBy_11n {d : Nat} {σ : aS} {Q : aQ} {l0 l1 : Option Value} {lt : aL} {st : List Value} : aX d iX5_pageBy 11 (l0 :: l1 :: some .null :: lt) (st) σ Q ↔ aX d iX5_pageBy 12 (l0 :: l1 :: some .null :: lt) (.null :: st) σ Q := X_aloadn kX5_pageBy_11 rfl rfl
theorem kX5_pageBy_12 : aCode iX5_pageBy 12 = some (.invokevirtual 82, 3) := by decide +kernel
theorem sX5_pageBy_12 {d : Nat} {σ : aS} {Q : aQ} {b : Nat} {ls : aL} : aX (d + 1) iX5_pageBy 12 (ls) (.ref b :: []) σ Q ↔ aIs σ b 0 ∧ aX d iX0_endsWithWord 0 [some (.ref b)] [] σ (fun r τ => aX (d + 1) iX5_pageBy 15 (ls) (aret r ([])) τ Q) := X_invv (N := 0) (As := []) (w := 306) kX5_pageBy_12 (by decide +kernel) (by decide +kernel) rfl rfl (by simp only [List.length_cons, List.length_nil]; omega) (by simp only [List.length_cons, List.length_nil]; omega) (by decide +kernel) rfl (Nat.le_of_ble_eq_true rfl)
theorem kX5_pageBy_15 : aCode iX5_pageBy 15 = some (.ifCond .eq 23, 3) := by decide +kernel
theorem sX5_pageBy_15 {d : Nat} {σ : aS} {Q : aQ} {x : Int32} {ls : aL} {st : List Value} : aX d iX5_pageBy 15 (ls) (.int x :: st) σ Q ↔ (if x = nI 0 then aX d iX5_pageBy 38 (ls) (st) σ Q else aX d iX5_pageBy 18 (ls) (st) σ Q) := by rw [X_if kX5_pageBy_15 (t := 38) (by decide)]; simp only [aCmp_eq]
theorem kX5_pageBy_18 : aCode iX5_pageBy 18 = some (.aload_n 0, 1) := by decide +kernel
theorem sX5_pageBy_18 {d : Nat} {σ : aS} {Q : aQ} {x : Nat} {lt : aL} {st : List Value} : aX d iX5_pageBy 18 (some (.ref x) :: lt) (st) σ Q ↔ aX d iX5_pageBy 19 (some (.ref x) :: lt) (.ref x :: st) σ Q := X_aloadn kX5_pageBy_18 rfl rfl
theorem kX5_pageBy_19 : aCode iX5_pageBy 19 = some (.getfield 9, 3) := by decide +kernel
theorem sX5_pageBy_19 {d : Nat} {σ : aS} {Q : aQ} {a : Nat} {ls : aL} {st : List Value} : aX d iX5_pageBy 19 (ls) (.ref a :: st) σ Q ↔ ∃ v, aFld σ a 5 0 = some v ∧ aX d iX5_pageBy 22 (ls) (v :: st) σ Q := X_getf (w := 69) kX5_pageBy_19 (by decide +kernel)
theorem kX5_pageBy_22 : aCode iX5_pageBy 22 = some (.iload_n 3, 1) := by decide +kernel
theorem sX5_pageBy_22 {d : Nat} {σ : aS} {Q : aQ} {l0 l1 l2 : Option Value} {x : Int32} {lt : aL} {st : List Value} : aX d iX5_pageBy 22 (l0 :: l1 :: l2 :: some (.int x) :: lt) (st) σ Q ↔ aX d iX5_pageBy 23 (l0 :: l1 :: l2 :: some (.int x) :: lt) (.int x :: st) σ Q := X_iloadn kX5_pageBy_22 rfl
theorem kX5_pageBy_23 : aCode iX5_pageBy 23 = some (.invokestatic 54, 3) := by decide +kernel
theorem sX5_pageBy_23 {d : Nat} {σ : aS} {Q : aQ} {p0 : Nat} {p1 : Int32} {ls : aL} : aX (d + 1) iX5_pageBy 23 (ls) (.int p1 :: .ref p0 :: []) σ Q ↔ aX d iX6_valueAt 0 [some (.ref p0), some (.int p1)] [] σ (fun r τ => aX (d + 1) iX5_pageBy 26 (ls) (aret r ([])) τ Q) := X_invs (N := 2) (As := [.int p1, .ref p0]) (k := 4) (w := 233) kX5_pageBy_23 (by decide +kernel) (by decide) (by decide +kernel) rfl rfl (by simp only [List.length_cons, List.length_nil]; omega) (by simp only [List.length_cons, List.length_nil]; omega) rfl (Nat.le_of_ble_eq_true rfl)
theorem kX5_pageBy_26 : aCode iX5_pageBy 26 = some (.aload_n 0, 1) := by decide +kernel
theorem sX5_pageBy_26 {d : Nat} {σ : aS} {Q : aQ} {x : Nat} {lt : aL} {st : List Value} : aX d iX5_pageBy 26 (some (.ref x) :: lt) (st) σ Q ↔ aX d iX5_pageBy 27 (some (.ref x) :: lt) (.ref x :: st) σ Q := X_aloadn kX5_pageBy_26 rfl rfl
theorem kX5_pageBy_27 : aCode iX5_pageBy 27 = some (.getfield 15, 3) := by decide +kernel
theorem sX5_pageBy_27 {d : Nat} {σ : aS} {Q : aQ} {a : Nat} {ls : aL} {st : List Value} : aX d iX5_pageBy 27 (ls) (.ref a :: st) σ Q ↔ ∃ v, aFld σ a 5 1 = some v ∧ aX d iX5_pageBy 30 (ls) (v :: st) σ Q := X_getf (w := 71) kX5_pageBy_27 (by decide +kernel)
theorem kX5_pageBy_30 : aCode iX5_pageBy 30 = some (.iload_n 1, 1) := by decide +kernel
theorem sX5_pageBy_30 {d : Nat} {σ : aS} {Q : aQ} {l0 : Option Value} {x : Int32} {lt : aL} {st : List Value} : aX d iX5_pageBy 30 (l0 :: some (.int x) :: lt) (st) σ Q ↔ aX d iX5_pageBy 31 (l0 :: some (.int x) :: lt) (.int x :: st) σ Q := X_iloadn kX5_pageBy_30 rfl
theorem kX5_pageBy_31 : aCode iX5_pageBy 31 = some (.invokestatic 54, 3) := by decide +kernel
theorem sX5_pageBy_31 {d : Nat} {σ : aS} {Q : aQ} {p0 : Nat} {p1 : Int32} {v0 : Value} {ls : aL} : aX (d + 1) iX5_pageBy 31 (ls) (.int p1 :: .ref p0 :: v0 :: []) σ Q ↔ aX d iX6_valueAt 0 [some (.ref p0), some (.int p1)] [] σ (fun r τ => aX (d + 1) iX5_pageBy 34 (ls) (aret r (v0 :: [])) τ Q) := X_invs (N := 2) (As := [.int p1, .ref p0]) (k := 4) (w := 233) kX5_pageBy_31 (by decide +kernel) (by decide) (by decide +kernel) rfl rfl (by simp only [List.length_cons, List.length_nil]; omega) (by simp only [List.length_cons, List.length_nil]; omega) rfl (Nat.le_of_ble_eq_true rfl)
theorem kX5_pageBy_34 : aCode iX5_pageBy 34 = some (.iand, 1) := by decide +kernel
theorem sX5_pageBy_34 {d : Nat} {σ : aS} {Q : aQ} {x y : Int32} {ls : aL} {st : List Value} : aX d iX5_pageBy 34 (ls) (.int y :: .int x :: st) σ Q ↔ aX d iX5_pageBy 35 (ls) (.int (x &&& y) :: st) σ Q := X_iand kX5_pageBy_34
theorem kX5_pageBy_35 : aCode iX5_pageBy 35 = some (.goto 8, 3) := by decide +kernel
theorem sX5_pageBy_35 {d : Nat} {σ : aS} {Q : aQ} {ls : aL} {st : List Value} : aX d iX5_pageBy 35 (ls) (st) σ Q ↔ aX d iX5_pageBy 43 (ls) (st) σ Q := X_goto kX5_pageBy_35 (by decide)
theorem kX5_pageBy_38 : aCode iX5_pageBy 38 = some (.aload_n 0, 1) := by decide +kernel
theorem sX5_pageBy_38 {d : Nat} {σ : aS} {Q : aQ} {x : Nat} {lt : aL} {st : List Value} : aX d iX5_pageBy 38 (some (.ref x) :: lt) (st) σ Q ↔ aX d iX5_pageBy 39 (some (.ref x) :: lt) (.ref x :: st) σ Q := X_aloadn kX5_pageBy_38 rfl rfl
theorem kX5_pageBy_39 : aCode iX5_pageBy 39 = some (.iload_n 3, 1) := by decide +kernel
theorem sX5_pageBy_39 {d : Nat} {σ : aS} {Q : aQ} {l0 l1 l2 : Option Value} {x : Int32} {lt : aL} {st : List Value} : aX d iX5_pageBy 39 (l0 :: l1 :: l2 :: some (.int x) :: lt) (st) σ Q ↔ aX d iX5_pageBy 40 (l0 :: l1 :: l2 :: some (.int x) :: lt) (.int x :: st) σ Q := X_iloadn kX5_pageBy_39 rfl
theorem kX5_pageBy_40 : aCode iX5_pageBy 40 = some (.invokevirtual 151, 3) := by decide +kernel
theorem sX5_pageBy_40 {d : Nat} {σ : aS} {Q : aQ} {b : Nat} {p0 : Int32} {ls : aL} : aX (d + 1) iX5_pageBy 40 (ls) (.int p0 :: .ref b :: []) σ Q ↔ aIs σ b 5 ∧ aX d iX5_mostLike 0 [some (.ref b), some (.int p0), none, none, none, none] [] σ (fun r τ => aX (d + 1) iX5_pageBy 43 (ls) (aret r ([])) τ Q) := X_invv (N := 1) (As := [.int p0]) (w := 363) kX5_pageBy_40 (by decide +kernel) (by decide +kernel) rfl rfl (by simp only [List.length_cons, List.length_nil]; omega) (by simp only [List.length_cons, List.length_nil]; omega) (by decide +kernel) rfl (Nat.le_of_ble_eq_true rfl)
theorem kX5_pageBy_43 : aCode iX5_pageBy 43 = some (.ireturn, 1) := by decide +kernel
theorem sX5_pageBy_43 {d : Nat} {σ : aS} {Q : aQ} {v : Int32} {ls : aL} : aX d iX5_pageBy 43 (ls) ([.int v]) σ Q ↔ Q (some (.int v)) σ := X_iret kX5_pageBy_43 (by decide +kernel)
theorem kX5_mostLike_0 : aCode iX5_mostLike 0 = some (.iconst 0, 1) := by decide +kernel
theorem sX5_mostLike_0 {d : Nat} {σ : aS} {Q : aQ} {ls : aL} {st : List Value} : aX d iX5_mostLike 0 (ls) (st) σ Q ↔ aX d iX5_mostLike 1 (ls) (.int (nI 0) :: st) σ Q := X_iconst kX5_mostLike_0 (by decide +kernel)
theorem kX5_mostLike_1 : aCode iX5_mostLike 1 = some (.istore_n 2, 1) := by decide +kernel
theorem sX5_mostLike_1 {d : Nat} {σ : aS} {Q : aQ} {l0 l1 lo : Option Value} {x : Int32} {lt : aL} {st : List Value} : aX d iX5_mostLike 1 (l0 :: l1 :: lo :: lt) (.int x :: st) σ Q ↔ aX d iX5_mostLike 2 (l0 :: aclr l1 :: some (.int x) :: lt) (st) σ Q := X_istoren kX5_mostLike_1 (by simp only [List.length_cons]; omega)
theorem kX5_mostLike_2 : aCode iX5_mostLike 2 = some (.bipush 13, 2) := by decide +kernel
theorem sX5_mostLike_2 {d : Nat} {σ : aS} {Q : aQ} {ls : aL} {st : List Value} : aX d iX5_mostLike 2 (ls) (st) σ Q ↔ aX d iX5_mostLike 4 (ls) (.int (nI 13) :: st) σ Q := X_bipush kX5_mostLike_2 (by decide +kernel)
theorem kX5_mostLike_4 : aCode iX5_mostLike 4 = some (.istore_n 3, 1) := by decide +kernel
theorem sX5_mostLike_4 {d : Nat} {σ : aS} {Q : aQ} {l0 l1 l2 lo : Option Value} {x : Int32} {lt : aL} {st : List Value} : aX d iX5_mostLike 4 (l0 :: l1 :: l2 :: lo :: lt) (.int x :: st) σ Q ↔ aX d iX5_mostLike 5 (l0 :: l1 :: aclr l2 :: some (.int x) :: lt) (st) σ Q := X_istoren kX5_mostLike_4 (by simp only [List.length_cons]; omega)
theorem kX5_mostLike_5 : aCode iX5_mostLike 5 = some (.iconst 0, 1) := by decide +kernel
theorem sX5_mostLike_5 {d : Nat} {σ : aS} {Q : aQ} {ls : aL} {st : List Value} : aX d iX5_mostLike 5 (ls) (st) σ Q ↔ aX d iX5_mostLike 6 (ls) (.int (nI 0) :: st) σ Q := X_iconst kX5_mostLike_5 (by decide +kernel)
theorem kX5_mostLike_6 : aCode iX5_mostLike 6 = some (.istore 4, 2) := by decide +kernel
theorem sX5_mostLike_6 {d : Nat} {σ : aS} {Q : aQ} {l0 l1 l2 l3 lo : Option Value} {x : Int32} {lt : aL} {st : List Value} : aX d iX5_mostLike 6 (l0 :: l1 :: l2 :: l3 :: lo :: lt) (.int x :: st) σ Q ↔ aX d iX5_mostLike 8 (l0 :: l1 :: l2 :: aclr l3 :: some (.int x) :: lt) (st) σ Q := X_istore kX5_mostLike_6 (by simp only [List.length_cons]; omega)
theorem kX5_mostLike_8 : aCode iX5_mostLike 8 = some (.iload 4, 2) := by decide +kernel
theorem sX5_mostLike_8 {d : Nat} {σ : aS} {Q : aQ} {l0 l1 l2 l3 : Option Value} {x : Int32} {lt : aL} {st : List Value} : aX d iX5_mostLike 8 (l0 :: l1 :: l2 :: l3 :: some (.int x) :: lt) (st) σ Q ↔ aX d iX5_mostLike 10 (l0 :: l1 :: l2 :: l3 :: some (.int x) :: lt) (.int x :: st) σ Q := X_iload kX5_mostLike_8 rfl
theorem kX5_mostLike_10 : aCode iX5_mostLike 10 = some (.aload_n 0, 1) := by decide +kernel
theorem sX5_mostLike_10 {d : Nat} {σ : aS} {Q : aQ} {x : Nat} {lt : aL} {st : List Value} : aX d iX5_mostLike 10 (some (.ref x) :: lt) (st) σ Q ↔ aX d iX5_mostLike 11 (some (.ref x) :: lt) (.ref x :: st) σ Q := X_aloadn kX5_mostLike_10 rfl rfl
theorem kX5_mostLike_11 : aCode iX5_mostLike 11 = some (.getfield 9, 3) := by decide +kernel
theorem sX5_mostLike_11 {d : Nat} {σ : aS} {Q : aQ} {a : Nat} {ls : aL} {st : List Value} : aX d iX5_mostLike 11 (ls) (.ref a :: st) σ Q ↔ ∃ v, aFld σ a 5 0 = some v ∧ aX d iX5_mostLike 14 (ls) (v :: st) σ Q := X_getf (w := 69) kX5_mostLike_11 (by decide +kernel)
theorem kX5_mostLike_14 : aCode iX5_mostLike 14 = some (.arraylength, 1) := by decide +kernel
theorem sX5_mostLike_14 {d : Nat} {σ : aS} {Q : aQ} {a : Nat} {ls : aL} {st : List Value} : aX d iX5_mostLike 14 (ls) (.ref a :: st) σ Q ↔ ∃ m, aLn σ a = some m ∧ aX d iX5_mostLike 15 (ls) (.int (nI m) :: st) σ Q := X_alen kX5_mostLike_14
theorem kX5_mostLike_15 : aCode iX5_mostLike 15 = some (.if_icmp .ge 35, 3) := by decide +kernel
theorem sX5_mostLike_15 {d : Nat} {σ : aS} {Q : aQ} {x y : Int32} {ls : aL} {st : List Value} : aX d iX5_mostLike 15 (ls) (.int y :: .int x :: st) σ Q ↔ (if y ≤ x then aX d iX5_mostLike 50 (ls) (st) σ Q else aX d iX5_mostLike 18 (ls) (st) σ Q) := by rw [X_icmp kX5_mostLike_15 (t := 50) (by decide)]; simp only [aCmp_ge]
theorem kX5_mostLike_18 : aCode iX5_mostLike 18 = some (.aload_n 0, 1) := by decide +kernel
theorem sX5_mostLike_18 {d : Nat} {σ : aS} {Q : aQ} {x : Nat} {lt : aL} {st : List Value} : aX d iX5_mostLike 18 (some (.ref x) :: lt) (st) σ Q ↔ aX d iX5_mostLike 19 (some (.ref x) :: lt) (.ref x :: st) σ Q := X_aloadn kX5_mostLike_18 rfl rfl
theorem kX5_mostLike_19 : aCode iX5_mostLike 19 = some (.getfield 9, 3) := by decide +kernel
theorem sX5_mostLike_19 {d : Nat} {σ : aS} {Q : aQ} {a : Nat} {ls : aL} {st : List Value} : aX d iX5_mostLike 19 (ls) (.ref a :: st) σ Q ↔ ∃ v, aFld σ a 5 0 = some v ∧ aX d iX5_mostLike 22 (ls) (v :: st) σ Q := X_getf (w := 69) kX5_mostLike_19 (by decide +kernel)
theorem kX5_mostLike_22 : aCode iX5_mostLike 22 = some (.iload 4, 2) := by decide +kernel
theorem sX5_mostLike_22 {d : Nat} {σ : aS} {Q : aQ} {l0 l1 l2 l3 : Option Value} {x : Int32} {lt : aL} {st : List Value} : aX d iX5_mostLike 22 (l0 :: l1 :: l2 :: l3 :: some (.int x) :: lt) (st) σ Q ↔ aX d iX5_mostLike 24 (l0 :: l1 :: l2 :: l3 :: some (.int x) :: lt) (.int x :: st) σ Q := X_iload kX5_mostLike_22 rfl
theorem kX5_mostLike_24 : aCode iX5_mostLike 24 = some (.iaload, 1) := by decide +kernel
theorem sX5_mostLike_24 {d : Nat} {σ : aS} {Q : aQ} {a : Nat} {i : Int32} {ls : aL} {st : List Value} : aX d iX5_mostLike 24 (ls) (.int i :: .ref a :: st) σ Q ↔ ∃ x, aRowR σ a = some x ∧ vp_in i x.1 ∧ aX d iX5_mostLike 25 (ls) (.int (x.2 i.toNatClampNeg) :: st) σ Q := X_iaload kX5_mostLike_24
theorem kX5_mostLike_25 : aCode iX5_mostLike 25 = some (.iload_n 1, 1) := by decide +kernel
theorem sX5_mostLike_25 {d : Nat} {σ : aS} {Q : aQ} {l0 : Option Value} {x : Int32} {lt : aL} {st : List Value} : aX d iX5_mostLike 25 (l0 :: some (.int x) :: lt) (st) σ Q ↔ aX d iX5_mostLike 26 (l0 :: some (.int x) :: lt) (.int x :: st) σ Q := X_iloadn kX5_mostLike_25 rfl
theorem kX5_mostLike_26 : aCode iX5_mostLike 26 = some (.ixor, 1) := by decide +kernel
theorem sX5_mostLike_26 {d : Nat} {σ : aS} {Q : aQ} {x y : Int32} {ls : aL} {st : List Value} : aX d iX5_mostLike 26 (ls) (.int y :: .int x :: st) σ Q ↔ aX d iX5_mostLike 27 (ls) (.int (x ^^^ y) :: st) σ Q := X_ixor kX5_mostLike_26
theorem kX5_mostLike_27 : aCode iX5_mostLike 27 = some (.invokestatic 62, 3) := by decide +kernel
theorem sX5_mostLike_27 {d : Nat} {σ : aS} {Q : aQ} {p0 : Int32} {ls : aL} : aX (d + 1) iX5_mostLike 27 (ls) (.int p0 :: []) σ Q ↔ aX d iJ6_bitCount_0f7a4 0 [some (.int p0)] [] σ (fun r τ => aX (d + 1) iX5_mostLike 30 (ls) (aret r ([])) τ Q) := X_invs (N := 1) (As := [.int p0]) (k := 1) (w := 251) kX5_mostLike_27 (by decide +kernel) (by decide) (by decide +kernel) rfl rfl (by simp only [List.length_cons, List.length_nil]; omega) (by simp only [List.length_cons, List.length_nil]; omega) rfl (Nat.le_of_ble_eq_true rfl)
theorem kX5_mostLike_30 : aCode iX5_mostLike 30 = some (.istore 5, 2) := by decide +kernel
theorem sX5_mostLike_30 {d : Nat} {σ : aS} {Q : aQ} {l0 l1 l2 l3 l4 lo : Option Value} {x : Int32} {lt : aL} {st : List Value} : aX d iX5_mostLike 30 (l0 :: l1 :: l2 :: l3 :: l4 :: lo :: lt) (.int x :: st) σ Q ↔ aX d iX5_mostLike 32 (l0 :: l1 :: l2 :: l3 :: aclr l4 :: some (.int x) :: lt) (st) σ Q := X_istore kX5_mostLike_30 (by simp only [List.length_cons]; omega)
theorem kX5_mostLike_32 : aCode iX5_mostLike 32 = some (.iload 5, 2) := by decide +kernel
theorem sX5_mostLike_32 {d : Nat} {σ : aS} {Q : aQ} {l0 l1 l2 l3 l4 : Option Value} {x : Int32} {lt : aL} {st : List Value} : aX d iX5_mostLike 32 (l0 :: l1 :: l2 :: l3 :: l4 :: some (.int x) :: lt) (st) σ Q ↔ aX d iX5_mostLike 34 (l0 :: l1 :: l2 :: l3 :: l4 :: some (.int x) :: lt) (.int x :: st) σ Q := X_iload kX5_mostLike_32 rfl
theorem kX5_mostLike_34 : aCode iX5_mostLike 34 = some (.iload_n 3, 1) := by decide +kernel
theorem sX5_mostLike_34 {d : Nat} {σ : aS} {Q : aQ} {l0 l1 l2 : Option Value} {x : Int32} {lt : aL} {st : List Value} : aX d iX5_mostLike 34 (l0 :: l1 :: l2 :: some (.int x) :: lt) (st) σ Q ↔ aX d iX5_mostLike 35 (l0 :: l1 :: l2 :: some (.int x) :: lt) (.int x :: st) σ Q := X_iloadn kX5_mostLike_34 rfl
theorem kX5_mostLike_35 : aCode iX5_mostLike 35 = some (.if_icmp .ge 9, 3) := by decide +kernel
theorem sX5_mostLike_35 {d : Nat} {σ : aS} {Q : aQ} {x y : Int32} {ls : aL} {st : List Value} : aX d iX5_mostLike 35 (ls) (.int y :: .int x :: st) σ Q ↔ (if y ≤ x then aX d iX5_mostLike 44 (ls) (st) σ Q else aX d iX5_mostLike 38 (ls) (st) σ Q) := by rw [X_icmp kX5_mostLike_35 (t := 44) (by decide)]; simp only [aCmp_ge]
theorem kX5_mostLike_38 : aCode iX5_mostLike 38 = some (.iload 4, 2) := by decide +kernel
theorem sX5_mostLike_38 {d : Nat} {σ : aS} {Q : aQ} {l0 l1 l2 l3 : Option Value} {x : Int32} {lt : aL} {st : List Value} : aX d iX5_mostLike 38 (l0 :: l1 :: l2 :: l3 :: some (.int x) :: lt) (st) σ Q ↔ aX d iX5_mostLike 40 (l0 :: l1 :: l2 :: l3 :: some (.int x) :: lt) (.int x :: st) σ Q := X_iload kX5_mostLike_38 rfl
theorem kX5_mostLike_40 : aCode iX5_mostLike 40 = some (.istore_n 2, 1) := by decide +kernel
theorem sX5_mostLike_40 {d : Nat} {σ : aS} {Q : aQ} {l0 l1 lo : Option Value} {x : Int32} {lt : aL} {st : List Value} : aX d iX5_mostLike 40 (l0 :: l1 :: lo :: lt) (.int x :: st) σ Q ↔ aX d iX5_mostLike 41 (l0 :: aclr l1 :: some (.int x) :: lt) (st) σ Q := X_istoren kX5_mostLike_40 (by simp only [List.length_cons]; omega)
theorem kX5_mostLike_41 : aCode iX5_mostLike 41 = some (.iload 5, 2) := by decide +kernel
theorem sX5_mostLike_41 {d : Nat} {σ : aS} {Q : aQ} {l0 l1 l2 l3 l4 : Option Value} {x : Int32} {lt : aL} {st : List Value} : aX d iX5_mostLike 41 (l0 :: l1 :: l2 :: l3 :: l4 :: some (.int x) :: lt) (st) σ Q ↔ aX d iX5_mostLike 43 (l0 :: l1 :: l2 :: l3 :: l4 :: some (.int x) :: lt) (.int x :: st) σ Q := X_iload kX5_mostLike_41 rfl
theorem kX5_mostLike_43 : aCode iX5_mostLike 43 = some (.istore_n 3, 1) := by decide +kernel
theorem sX5_mostLike_43 {d : Nat} {σ : aS} {Q : aQ} {l0 l1 l2 lo : Option Value} {x : Int32} {lt : aL} {st : List Value} : aX d iX5_mostLike 43 (l0 :: l1 :: l2 :: lo :: lt) (.int x :: st) σ Q ↔ aX d iX5_mostLike 44 (l0 :: l1 :: aclr l2 :: some (.int x) :: lt) (st) σ Q := X_istoren kX5_mostLike_43 (by simp only [List.length_cons]; omega)
theorem kX5_mostLike_44 : aCode iX5_mostLike 44 = some (.iinc 4 1, 3) := by decide +kernel
theorem sX5_mostLike_44 {d : Nat} {σ : aS} {Q : aQ} {l0 l1 l2 l3 : Option Value} {x : Int32} {lt : aL} {st : List Value} : aX d iX5_mostLike 44 (l0 :: l1 :: l2 :: l3 :: some (.int x) :: lt) (st) σ Q ↔ aX d iX5_mostLike 47 (l0 :: l1 :: l2 :: aclr l3 :: some (.int (x + nI 1)) :: lt) (st) σ Q := X_iinc kX5_mostLike_44 rfl (by decide +kernel)
theorem kX5_mostLike_47 : aCode iX5_mostLike 47 = some (.goto (-39), 3) := by decide +kernel
theorem sX5_mostLike_47 {d : Nat} {σ : aS} {Q : aQ} {ls : aL} {st : List Value} : aX d iX5_mostLike 47 (ls) (st) σ Q ↔ aX d iX5_mostLike 8 (ls) (st) σ Q := X_goto kX5_mostLike_47 (by decide)
theorem kX5_mostLike_50 : aCode iX5_mostLike 50 = some (.iload_n 2, 1) := by decide +kernel
theorem sX5_mostLike_50 {d : Nat} {σ : aS} {Q : aQ} {l0 l1 : Option Value} {x : Int32} {lt : aL} {st : List Value} : aX d iX5_mostLike 50 (l0 :: l1 :: some (.int x) :: lt) (st) σ Q ↔ aX d iX5_mostLike 51 (l0 :: l1 :: some (.int x) :: lt) (.int x :: st) σ Q := X_iloadn kX5_mostLike_50 rfl
theorem kX5_mostLike_51 : aCode iX5_mostLike 51 = some (.ireturn, 1) := by decide +kernel
theorem sX5_mostLike_51 {d : Nat} {σ : aS} {Q : aQ} {v : Int32} {ls : aL} : aX d iX5_mostLike 51 (ls) ([.int v]) σ Q ↔ Q (some (.int v)) σ := X_iret kX5_mostLike_51 (by decide +kernel)
theorem kX5_difference_0 : aCode iX5_difference 0 = some (.aload_n 0, 1) := by decide +kernel
theorem sX5_difference_0 {d : Nat} {σ : aS} {Q : aQ} {x : Nat} {lt : aL} {st : List Value} : aX d iX5_difference 0 (some (.ref x) :: lt) (st) σ Q ↔ aX d iX5_difference 1 (some (.ref x) :: lt) (.ref x :: st) σ Q := X_aloadn kX5_difference_0 rfl rfl
theorem kX5_difference_1 : aCode iX5_difference 1 = some (.getfield 9, 3) := by decide +kernel
theorem sX5_difference_1 {d : Nat} {σ : aS} {Q : aQ} {a : Nat} {ls : aL} {st : List Value} : aX d iX5_difference 1 (ls) (.ref a :: st) σ Q ↔ ∃ v, aFld σ a 5 0 = some v ∧ aX d iX5_difference 4 (ls) (v :: st) σ Q := X_getf (w := 69) kX5_difference_1 (by decide +kernel)
theorem kX5_difference_4 : aCode iX5_difference 4 = some (.iload_n 1, 1) := by decide +kernel
theorem sX5_difference_4 {d : Nat} {σ : aS} {Q : aQ} {l0 : Option Value} {x : Int32} {lt : aL} {st : List Value} : aX d iX5_difference 4 (l0 :: some (.int x) :: lt) (st) σ Q ↔ aX d iX5_difference 5 (l0 :: some (.int x) :: lt) (.int x :: st) σ Q := X_iloadn kX5_difference_4 rfl
theorem kX5_difference_5 : aCode iX5_difference 5 = some (.invokestatic 54, 3) := by decide +kernel
theorem sX5_difference_5 {d : Nat} {σ : aS} {Q : aQ} {p0 : Nat} {p1 : Int32} {ls : aL} : aX (d + 1) iX5_difference 5 (ls) (.int p1 :: .ref p0 :: []) σ Q ↔ aX d iX6_valueAt 0 [some (.ref p0), some (.int p1)] [] σ (fun r τ => aX (d + 1) iX5_difference 8 (ls) (aret r ([])) τ Q) := X_invs (N := 2) (As := [.int p1, .ref p0]) (k := 4) (w := 233) kX5_difference_5 (by decide +kernel) (by decide) (by decide +kernel) rfl rfl (by simp only [List.length_cons, List.length_nil]; omega) (by simp only [List.length_cons, List.length_nil]; omega) rfl (Nat.le_of_ble_eq_true rfl)
theorem kX5_difference_8 : aCode iX5_difference 8 = some (.aload_n 0, 1) := by decide +kernel
theorem sX5_difference_8 {d : Nat} {σ : aS} {Q : aQ} {x : Nat} {lt : aL} {st : List Value} : aX d iX5_difference 8 (some (.ref x) :: lt) (st) σ Q ↔ aX d iX5_difference 9 (some (.ref x) :: lt) (.ref x :: st) σ Q := X_aloadn kX5_difference_8 rfl rfl
theorem kX5_difference_9 : aCode iX5_difference 9 = some (.getfield 9, 3) := by decide +kernel
theorem sX5_difference_9 {d : Nat} {σ : aS} {Q : aQ} {a : Nat} {ls : aL} {st : List Value} : aX d iX5_difference 9 (ls) (.ref a :: st) σ Q ↔ ∃ v, aFld σ a 5 0 = some v ∧ aX d iX5_difference 12 (ls) (v :: st) σ Q := X_getf (w := 69) kX5_difference_9 (by decide +kernel)
theorem kX5_difference_12 : aCode iX5_difference 12 = some (.iload_n 2, 1) := by decide +kernel
theorem sX5_difference_12 {d : Nat} {σ : aS} {Q : aQ} {l0 l1 : Option Value} {x : Int32} {lt : aL} {st : List Value} : aX d iX5_difference 12 (l0 :: l1 :: some (.int x) :: lt) (st) σ Q ↔ aX d iX5_difference 13 (l0 :: l1 :: some (.int x) :: lt) (.int x :: st) σ Q := X_iloadn kX5_difference_12 rfl
theorem kX5_difference_13 : aCode iX5_difference 13 = some (.invokestatic 54, 3) := by decide +kernel
theorem sX5_difference_13 {d : Nat} {σ : aS} {Q : aQ} {p0 : Nat} {p1 : Int32} {v0 : Value} {ls : aL} : aX (d + 1) iX5_difference 13 (ls) (.int p1 :: .ref p0 :: v0 :: []) σ Q ↔ aX d iX6_valueAt 0 [some (.ref p0), some (.int p1)] [] σ (fun r τ => aX (d + 1) iX5_difference 16 (ls) (aret r (v0 :: [])) τ Q) := X_invs (N := 2) (As := [.int p1, .ref p0]) (k := 4) (w := 233) kX5_difference_13 (by decide +kernel) (by decide) (by decide +kernel) rfl rfl (by simp only [List.length_cons, List.length_nil]; omega) (by simp only [List.length_cons, List.length_nil]; omega) rfl (Nat.le_of_ble_eq_true rfl)
theorem kX5_difference_16 : aCode iX5_difference 16 = some (.ixor, 1) := by decide +kernel
theorem sX5_difference_16 {d : Nat} {σ : aS} {Q : aQ} {x y : Int32} {ls : aL} {st : List Value} : aX d iX5_difference 16 (ls) (.int y :: .int x :: st) σ Q ↔ aX d iX5_difference 17 (ls) (.int (x ^^^ y) :: st) σ Q := X_ixor kX5_difference_16
theorem kX5_difference_17 : aCode iX5_difference 17 = some (.invokestatic 62, 3) := by decide +kernel
theorem sX5_difference_17 {d : Nat} {σ : aS} {Q : aQ} {p0 : Int32} {ls : aL} : aX (d + 1) iX5_difference 17 (ls) (.int p0 :: []) σ Q ↔ aX d iJ6_bitCount_0f7a4 0 [some (.int p0)] [] σ (fun r τ => aX (d + 1) iX5_difference 20 (ls) (aret r ([])) τ Q) := X_invs (N := 1) (As := [.int p0]) (k := 1) (w := 251) kX5_difference_17 (by decide +kernel) (by decide) (by decide +kernel) rfl rfl (by simp only [List.length_cons, List.length_nil]; omega) (by simp only [List.length_cons, List.length_nil]; omega) rfl (Nat.le_of_ble_eq_true rfl)
theorem kX5_difference_20 : aCode iX5_difference 20 = some (.ireturn, 1) := by decide +kernel
theorem sX5_difference_20 {d : Nat} {σ : aS} {Q : aQ} {v : Int32} {ls : aL} : aX d iX5_difference 20 (ls) ([.int v]) σ Q ↔ Q (some (.int v)) σ := X_iret kX5_difference_20 (by decide +kernel)
theorem kX5_albumGoingRoundOf_0 : aCode iX5_albumGoingRoundOf 0 = some (.iconst 0, 1) := by decide +kernel
theorem sX5_albumGoingRoundOf_0 {d : Nat} {σ : aS} {Q : aQ} {ls : aL} {st : List Value} : aX d iX5_albumGoingRoundOf 0 (ls) (st) σ Q ↔ aX d iX5_albumGoingRoundOf 1 (ls) (.int (nI 0) :: st) σ Q := X_iconst kX5_albumGoingRoundOf_0 (by decide +kernel)
theorem kX5_albumGoingRoundOf_1 : aCode iX5_albumGoingRoundOf 1 = some (.istore_n 2, 1) := by decide +kernel
theorem sX5_albumGoingRoundOf_1 {d : Nat} {σ : aS} {Q : aQ} {l0 l1 lo : Option Value} {x : Int32} {lt : aL} {st : List Value} : aX d iX5_albumGoingRoundOf 1 (l0 :: l1 :: lo :: lt) (.int x :: st) σ Q ↔ aX d iX5_albumGoingRoundOf 2 (l0 :: aclr l1 :: some (.int x) :: lt) (st) σ Q := X_istoren kX5_albumGoingRoundOf_1 (by simp only [List.length_cons]; omega)
theorem kX5_albumGoingRoundOf_2 : aCode iX5_albumGoingRoundOf 2 = some (.iload_n 2, 1) := by decide +kernel
theorem sX5_albumGoingRoundOf_2 {d : Nat} {σ : aS} {Q : aQ} {l0 l1 : Option Value} {x : Int32} {lt : aL} {st : List Value} : aX d iX5_albumGoingRoundOf 2 (l0 :: l1 :: some (.int x) :: lt) (st) σ Q ↔ aX d iX5_albumGoingRoundOf 3 (l0 :: l1 :: some (.int x) :: lt) (.int x :: st) σ Q := X_iloadn kX5_albumGoingRoundOf_2 rfl
theorem kX5_albumGoingRoundOf_3 : aCode iX5_albumGoingRoundOf 3 = some (.aload_n 0, 1) := by decide +kernel
theorem sX5_albumGoingRoundOf_3 {d : Nat} {σ : aS} {Q : aQ} {x : Nat} {lt : aL} {st : List Value} : aX d iX5_albumGoingRoundOf 3 (some (.ref x) :: lt) (st) σ Q ↔ aX d iX5_albumGoingRoundOf 4 (some (.ref x) :: lt) (.ref x :: st) σ Q := X_aloadn kX5_albumGoingRoundOf_3 rfl rfl
theorem kX5_albumGoingRoundOf_4 : aCode iX5_albumGoingRoundOf 4 = some (.getfield 39, 3) := by decide +kernel
theorem sX5_albumGoingRoundOf_4 {d : Nat} {σ : aS} {Q : aQ} {a : Nat} {ls : aL} {st : List Value} : aX d iX5_albumGoingRoundOf 4 (ls) (.ref a :: st) σ Q ↔ ∃ v, aFld σ a 5 5 = some v ∧ aX d iX5_albumGoingRoundOf 7 (ls) (v :: st) σ Q := X_getf (w := 79) kX5_albumGoingRoundOf_4 (by decide +kernel)
theorem kX5_albumGoingRoundOf_7 : aCode iX5_albumGoingRoundOf 7 = some (.if_icmp .ge 36, 3) := by decide +kernel
theorem sX5_albumGoingRoundOf_7 {d : Nat} {σ : aS} {Q : aQ} {x y : Int32} {ls : aL} {st : List Value} : aX d iX5_albumGoingRoundOf 7 (ls) (.int y :: .int x :: st) σ Q ↔ (if y ≤ x then aX d iX5_albumGoingRoundOf 43 (ls) (st) σ Q else aX d iX5_albumGoingRoundOf 10 (ls) (st) σ Q) := by rw [X_icmp kX5_albumGoingRoundOf_7 (t := 43) (by decide)]; simp only [aCmp_ge]
theorem kX5_albumGoingRoundOf_10 : aCode iX5_albumGoingRoundOf 10 = some (.aload_n 0, 1) := by decide +kernel
theorem sX5_albumGoingRoundOf_10 {d : Nat} {σ : aS} {Q : aQ} {x : Nat} {lt : aL} {st : List Value} : aX d iX5_albumGoingRoundOf 10 (some (.ref x) :: lt) (st) σ Q ↔ aX d iX5_albumGoingRoundOf 11 (some (.ref x) :: lt) (.ref x :: st) σ Q := X_aloadn kX5_albumGoingRoundOf_10 rfl rfl
theorem kX5_albumGoingRoundOf_11 : aCode iX5_albumGoingRoundOf 11 = some (.iload_n 2, 1) := by decide +kernel
theorem sX5_albumGoingRoundOf_11 {d : Nat} {σ : aS} {Q : aQ} {l0 l1 : Option Value} {x : Int32} {lt : aL} {st : List Value} : aX d iX5_albumGoingRoundOf 11 (l0 :: l1 :: some (.int x) :: lt) (st) σ Q ↔ aX d iX5_albumGoingRoundOf 12 (l0 :: l1 :: some (.int x) :: lt) (.int x :: st) σ Q := X_iloadn kX5_albumGoingRoundOf_11 rfl
theorem kX5_albumGoingRoundOf_12 : aCode iX5_albumGoingRoundOf 12 = some (.invokevirtual 79, 3) := by decide +kernel
theorem sX5_albumGoingRoundOf_12 {d : Nat} {σ : aS} {Q : aQ} {b : Nat} {p0 : Int32} {ls : aL} : aX (d + 1) iX5_albumGoingRoundOf 12 (ls) (.int p0 :: .ref b :: []) σ Q ↔ aIs σ b 5 ∧ aX d iX5_albumAt 0 [some (.ref b), some (.int p0)] [] σ (fun r τ => aX (d + 1) iX5_albumGoingRoundOf 15 (ls) (aret r ([])) τ Q) := X_invv (N := 1) (As := [.int p0]) (w := 281) kX5_albumGoingRoundOf_12 (by decide +kernel) (by decide +kernel) rfl rfl (by simp only [List.length_cons, List.length_nil]; omega) (by simp only [List.length_cons, List.length_nil]; omega) (by decide +kernel) rfl (Nat.le_of_ble_eq_true rfl)
theorem kX5_albumGoingRoundOf_15 : aCode iX5_albumGoingRoundOf 15 = some (.astore_n 3, 1) := by decide +kernel
theorem sX5_albumGoingRoundOf_15 {d : Nat} {σ : aS} {Q : aQ} {l0 l1 l2 lo : Option Value} {x : Nat} {lt : aL} {st : List Value} : aX d iX5_albumGoingRoundOf 15 (l0 :: l1 :: l2 :: lo :: lt) (.ref x :: st) σ Q ↔ aX d iX5_albumGoingRoundOf 16 (l0 :: l1 :: aclr l2 :: some (.ref x) :: lt) (st) σ Q := X_astoren kX5_albumGoingRoundOf_15 (by simp only [List.length_cons]; omega) rfl
theorem sX5_albumGoingRoundOf_15n {d : Nat} {σ : aS} {Q : aQ} {l0 l1 l2 lo : Option Value} {lt : aL} {st : List Value} : aX d iX5_albumGoingRoundOf 15 (l0 :: l1 :: l2 :: lo :: lt) (.null :: st) σ Q ↔ aX d iX5_albumGoingRoundOf 16 (l0 :: l1 :: aclr l2 :: some (.null) :: lt) (st) σ Q := X_astoren kX5_albumGoingRoundOf_15 (by simp only [List.length_cons]; omega) rfl
theorem kX5_albumGoingRoundOf_16 : aCode iX5_albumGoingRoundOf 16 = some (.aload_n 3, 1) := by decide +kernel
theorem sX5_albumGoingRoundOf_16 {d : Nat} {σ : aS} {Q : aQ} {l0 l1 l2 : Option Value} {x : Nat} {lt : aL} {st : List Value} : aX d iX5_albumGoingRoundOf 16 (l0 :: l1 :: l2 :: some (.ref x) :: lt) (st) σ Q ↔ aX d iX5_albumGoingRoundOf 17 (l0 :: l1 :: l2 :: some (.ref x) :: lt) (.ref x :: st) σ Q := X_aloadn kX5_albumGoingRoundOf_16 rfl rfl
theorem sX5_albumGoingRoundOf_16n {d : Nat} {σ : aS} {Q : aQ} {l0 l1 l2 : Option Value} {lt : aL} {st : List Value} : aX d iX5_albumGoingRoundOf 16 (l0 :: l1 :: l2 :: some .null :: lt) (st) σ Q ↔ aX d iX5_albumGoingRoundOf 17 (l0 :: l1 :: l2 :: some .null :: lt) (.null :: st) σ Q := X_aloadn kX5_albumGoingRoundOf_16 rfl rfl
theorem kX5_albumGoingRoundOf_17 : aCode iX5_albumGoingRoundOf 17 = some (.ifnull 20, 3) := by decide +kernel
theorem sX5_albumGoingRoundOf_17 {d : Nat} {σ : aS} {Q : aQ} {x : Nat} {ls : aL} {st : List Value} : aX d iX5_albumGoingRoundOf 17 (ls) (.ref x :: st) σ Q ↔ aX d iX5_albumGoingRoundOf 20 (ls) (st) σ Q := X_ifnull kX5_albumGoingRoundOf_17 (t := 37) (by decide)
theorem sX5_albumGoingRoundOf_17n {d : Nat} {σ : aS} {Q : aQ} {ls : aL} {st : List Value} : aX d iX5_albumGoingRoundOf 17 (ls) (.null :: st) σ Q ↔ aX d iX5_albumGoingRoundOf 37 (ls) (st) σ Q := X_ifnullN kX5_albumGoingRoundOf_17 (t := 37) (by decide)
theorem kX5_albumGoingRoundOf_20 : aCode iX5_albumGoingRoundOf 20 = some (.aload_n 3, 1) := by decide +kernel
theorem sX5_albumGoingRoundOf_20 {d : Nat} {σ : aS} {Q : aQ} {l0 l1 l2 : Option Value} {x : Nat} {lt : aL} {st : List Value} : aX d iX5_albumGoingRoundOf 20 (l0 :: l1 :: l2 :: some (.ref x) :: lt) (st) σ Q ↔ aX d iX5_albumGoingRoundOf 21 (l0 :: l1 :: l2 :: some (.ref x) :: lt) (.ref x :: st) σ Q := X_aloadn kX5_albumGoingRoundOf_20 rfl rfl
theorem sX5_albumGoingRoundOf_20n {d : Nat} {σ : aS} {Q : aQ} {l0 l1 l2 : Option Value} {lt : aL} {st : List Value} : aX d iX5_albumGoingRoundOf 20 (l0 :: l1 :: l2 :: some .null :: lt) (st) σ Q ↔ aX d iX5_albumGoingRoundOf 21 (l0 :: l1 :: l2 :: some .null :: lt) (.null :: st) σ Q := X_aloadn kX5_albumGoingRoundOf_20 rfl rfl
theorem kX5_albumGoingRoundOf_21 : aCode iX5_albumGoingRoundOf 21 = some (.getfield 136, 3) := by decide +kernel
theorem sX5_albumGoingRoundOf_21 {d : Nat} {σ : aS} {Q : aQ} {a : Nat} {ls : aL} {st : List Value} : aX d iX5_albumGoingRoundOf 21 (ls) (.ref a :: st) σ Q ↔ ∃ v, aFld σ a 0 2 = some v ∧ aX d iX5_albumGoingRoundOf 24 (ls) (v :: st) σ Q := X_getf (w := 42) kX5_albumGoingRoundOf_21 (by decide +kernel)
theorem kX5_albumGoingRoundOf_24 : aCode iX5_albumGoingRoundOf 24 = some (.iload_n 1, 1) := by decide +kernel
theorem sX5_albumGoingRoundOf_24 {d : Nat} {σ : aS} {Q : aQ} {l0 : Option Value} {x : Int32} {lt : aL} {st : List Value} : aX d iX5_albumGoingRoundOf 24 (l0 :: some (.int x) :: lt) (st) σ Q ↔ aX d iX5_albumGoingRoundOf 25 (l0 :: some (.int x) :: lt) (.int x :: st) σ Q := X_iloadn kX5_albumGoingRoundOf_24 rfl
theorem kX5_albumGoingRoundOf_25 : aCode iX5_albumGoingRoundOf 25 = some (.if_icmp .ne 12, 3) := by decide +kernel
theorem sX5_albumGoingRoundOf_25 {d : Nat} {σ : aS} {Q : aQ} {x y : Int32} {ls : aL} {st : List Value} : aX d iX5_albumGoingRoundOf 25 (ls) (.int y :: .int x :: st) σ Q ↔ (if ¬ x = y then aX d iX5_albumGoingRoundOf 37 (ls) (st) σ Q else aX d iX5_albumGoingRoundOf 28 (ls) (st) σ Q) := by rw [X_icmp kX5_albumGoingRoundOf_25 (t := 37) (by decide)]; simp only [aCmp_ne]
theorem kX5_albumGoingRoundOf_28 : aCode iX5_albumGoingRoundOf 28 = some (.aload_n 3, 1) := by decide +kernel
theorem sX5_albumGoingRoundOf_28 {d : Nat} {σ : aS} {Q : aQ} {l0 l1 l2 : Option Value} {x : Nat} {lt : aL} {st : List Value} : aX d iX5_albumGoingRoundOf 28 (l0 :: l1 :: l2 :: some (.ref x) :: lt) (st) σ Q ↔ aX d iX5_albumGoingRoundOf 29 (l0 :: l1 :: l2 :: some (.ref x) :: lt) (.ref x :: st) σ Q := X_aloadn kX5_albumGoingRoundOf_28 rfl rfl
theorem sX5_albumGoingRoundOf_28n {d : Nat} {σ : aS} {Q : aQ} {l0 l1 l2 : Option Value} {lt : aL} {st : List Value} : aX d iX5_albumGoingRoundOf 28 (l0 :: l1 :: l2 :: some .null :: lt) (st) σ Q ↔ aX d iX5_albumGoingRoundOf 29 (l0 :: l1 :: l2 :: some .null :: lt) (.null :: st) σ Q := X_aloadn kX5_albumGoingRoundOf_28 rfl rfl
theorem kX5_albumGoingRoundOf_29 : aCode iX5_albumGoingRoundOf 29 = some (.invokevirtual 86, 3) := by decide +kernel
theorem sX5_albumGoingRoundOf_29 {d : Nat} {σ : aS} {Q : aQ} {b : Nat} {ls : aL} : aX (d + 1) iX5_albumGoingRoundOf 29 (ls) (.ref b :: []) σ Q ↔ aIs σ b 0 ∧ aX d iX0_goesRound 0 [some (.ref b)] [] σ (fun r τ => aX (d + 1) iX5_albumGoingRoundOf 32 (ls) (aret r ([])) τ Q) := X_invv (N := 0) (As := []) (w := 285) kX5_albumGoingRoundOf_29 (by decide +kernel) (by decide +kernel) rfl rfl (by simp only [List.length_cons, List.length_nil]; omega) (by simp only [List.length_cons, List.length_nil]; omega) (by decide +kernel) rfl (Nat.le_of_ble_eq_true rfl)
theorem kX5_albumGoingRoundOf_32 : aCode iX5_albumGoingRoundOf 32 = some (.ifCond .eq 5, 3) := by decide +kernel
theorem sX5_albumGoingRoundOf_32 {d : Nat} {σ : aS} {Q : aQ} {x : Int32} {ls : aL} {st : List Value} : aX d iX5_albumGoingRoundOf 32 (ls) (.int x :: st) σ Q ↔ (if x = nI 0 then aX d iX5_albumGoingRoundOf 37 (ls) (st) σ Q else aX d iX5_albumGoingRoundOf 35 (ls) (st) σ Q) := by rw [X_if kX5_albumGoingRoundOf_32 (t := 37) (by decide)]; simp only [aCmp_eq]
theorem kX5_albumGoingRoundOf_35 : aCode iX5_albumGoingRoundOf 35 = some (.iload_n 2, 1) := by decide +kernel
theorem sX5_albumGoingRoundOf_35 {d : Nat} {σ : aS} {Q : aQ} {l0 l1 : Option Value} {x : Int32} {lt : aL} {st : List Value} : aX d iX5_albumGoingRoundOf 35 (l0 :: l1 :: some (.int x) :: lt) (st) σ Q ↔ aX d iX5_albumGoingRoundOf 36 (l0 :: l1 :: some (.int x) :: lt) (.int x :: st) σ Q := X_iloadn kX5_albumGoingRoundOf_35 rfl
theorem kX5_albumGoingRoundOf_36 : aCode iX5_albumGoingRoundOf 36 = some (.ireturn, 1) := by decide +kernel
theorem sX5_albumGoingRoundOf_36 {d : Nat} {σ : aS} {Q : aQ} {v : Int32} {ls : aL} : aX d iX5_albumGoingRoundOf 36 (ls) ([.int v]) σ Q ↔ Q (some (.int v)) σ := X_iret kX5_albumGoingRoundOf_36 (by decide +kernel)
theorem kX5_albumGoingRoundOf_37 : aCode iX5_albumGoingRoundOf 37 = some (.iinc 2 1, 3) := by decide +kernel
theorem sX5_albumGoingRoundOf_37 {d : Nat} {σ : aS} {Q : aQ} {l0 l1 : Option Value} {x : Int32} {lt : aL} {st : List Value} : aX d iX5_albumGoingRoundOf 37 (l0 :: l1 :: some (.int x) :: lt) (st) σ Q ↔ aX d iX5_albumGoingRoundOf 40 (l0 :: aclr l1 :: some (.int (x + nI 1)) :: lt) (st) σ Q := X_iinc kX5_albumGoingRoundOf_37 rfl (by decide +kernel)
theorem kX5_albumGoingRoundOf_40 : aCode iX5_albumGoingRoundOf 40 = some (.goto (-38), 3) := by decide +kernel
theorem sX5_albumGoingRoundOf_40 {d : Nat} {σ : aS} {Q : aQ} {ls : aL} {st : List Value} : aX d iX5_albumGoingRoundOf 40 (ls) (st) σ Q ↔ aX d iX5_albumGoingRoundOf 2 (ls) (st) σ Q := X_goto kX5_albumGoingRoundOf_40 (by decide)
theorem kX5_albumGoingRoundOf_43 : aCode iX5_albumGoingRoundOf 43 = some (.bipush (-6), 2) := by decide +kernel
theorem sX5_albumGoingRoundOf_43 {d : Nat} {σ : aS} {Q : aQ} {ls : aL} {st : List Value} : aX d iX5_albumGoingRoundOf 43 (ls) (st) σ Q ↔ aX d iX5_albumGoingRoundOf 45 (ls) (.int ((-6)) :: st) σ Q := X_bipush kX5_albumGoingRoundOf_43 (by decide +kernel)
theorem kX5_albumGoingRoundOf_45 : aCode iX5_albumGoingRoundOf 45 = some (.ireturn, 1) := by decide +kernel
theorem sX5_albumGoingRoundOf_45 {d : Nat} {σ : aS} {Q : aQ} {v : Int32} {ls : aL} : aX d iX5_albumGoingRoundOf 45 (ls) ([.int v]) σ Q ↔ Q (some (.int v)) σ := X_iret kX5_albumGoingRoundOf_45 (by decide +kernel)
theorem kX5_albumsThatAre_0 : aCode iX5_albumsThatAre 0 = some (.iconst 0, 1) := by decide +kernel
theorem sX5_albumsThatAre_0 {d : Nat} {σ : aS} {Q : aQ} {ls : aL} {st : List Value} : aX d iX5_albumsThatAre 0 (ls) (st) σ Q ↔ aX d iX5_albumsThatAre 1 (ls) (.int (nI 0) :: st) σ Q := X_iconst kX5_albumsThatAre_0 (by decide +kernel)
theorem kX5_albumsThatAre_1 : aCode iX5_albumsThatAre 1 = some (.istore_n 2, 1) := by decide +kernel
theorem sX5_albumsThatAre_1 {d : Nat} {σ : aS} {Q : aQ} {l0 l1 lo : Option Value} {x : Int32} {lt : aL} {st : List Value} : aX d iX5_albumsThatAre 1 (l0 :: l1 :: lo :: lt) (.int x :: st) σ Q ↔ aX d iX5_albumsThatAre 2 (l0 :: aclr l1 :: some (.int x) :: lt) (st) σ Q := X_istoren kX5_albumsThatAre_1 (by simp only [List.length_cons]; omega)
theorem kX5_albumsThatAre_2 : aCode iX5_albumsThatAre 2 = some (.iconst 0, 1) := by decide +kernel
theorem sX5_albumsThatAre_2 {d : Nat} {σ : aS} {Q : aQ} {ls : aL} {st : List Value} : aX d iX5_albumsThatAre 2 (ls) (st) σ Q ↔ aX d iX5_albumsThatAre 3 (ls) (.int (nI 0) :: st) σ Q := X_iconst kX5_albumsThatAre_2 (by decide +kernel)
theorem kX5_albumsThatAre_3 : aCode iX5_albumsThatAre 3 = some (.istore_n 3, 1) := by decide +kernel
theorem sX5_albumsThatAre_3 {d : Nat} {σ : aS} {Q : aQ} {l0 l1 l2 lo : Option Value} {x : Int32} {lt : aL} {st : List Value} : aX d iX5_albumsThatAre 3 (l0 :: l1 :: l2 :: lo :: lt) (.int x :: st) σ Q ↔ aX d iX5_albumsThatAre 4 (l0 :: l1 :: aclr l2 :: some (.int x) :: lt) (st) σ Q := X_istoren kX5_albumsThatAre_3 (by simp only [List.length_cons]; omega)
theorem kX5_albumsThatAre_4 : aCode iX5_albumsThatAre 4 = some (.iload_n 3, 1) := by decide +kernel
theorem sX5_albumsThatAre_4 {d : Nat} {σ : aS} {Q : aQ} {l0 l1 l2 : Option Value} {x : Int32} {lt : aL} {st : List Value} : aX d iX5_albumsThatAre 4 (l0 :: l1 :: l2 :: some (.int x) :: lt) (st) σ Q ↔ aX d iX5_albumsThatAre 5 (l0 :: l1 :: l2 :: some (.int x) :: lt) (.int x :: st) σ Q := X_iloadn kX5_albumsThatAre_4 rfl
theorem kX5_albumsThatAre_5 : aCode iX5_albumsThatAre 5 = some (.aload_n 0, 1) := by decide +kernel
theorem sX5_albumsThatAre_5 {d : Nat} {σ : aS} {Q : aQ} {x : Nat} {lt : aL} {st : List Value} : aX d iX5_albumsThatAre 5 (some (.ref x) :: lt) (st) σ Q ↔ aX d iX5_albumsThatAre 6 (some (.ref x) :: lt) (.ref x :: st) σ Q := X_aloadn kX5_albumsThatAre_5 rfl rfl
theorem kX5_albumsThatAre_6 : aCode iX5_albumsThatAre 6 = some (.getfield 39, 3) := by decide +kernel
theorem sX5_albumsThatAre_6 {d : Nat} {σ : aS} {Q : aQ} {a : Nat} {ls : aL} {st : List Value} : aX d iX5_albumsThatAre 6 (ls) (.ref a :: st) σ Q ↔ ∃ v, aFld σ a 5 5 = some v ∧ aX d iX5_albumsThatAre 9 (ls) (v :: st) σ Q := X_getf (w := 79) kX5_albumsThatAre_6 (by decide +kernel)
theorem kX5_albumsThatAre_9 : aCode iX5_albumsThatAre 9 = some (.if_icmp .ge 33, 3) := by decide +kernel
theorem sX5_albumsThatAre_9 {d : Nat} {σ : aS} {Q : aQ} {x y : Int32} {ls : aL} {st : List Value} : aX d iX5_albumsThatAre 9 (ls) (.int y :: .int x :: st) σ Q ↔ (if y ≤ x then aX d iX5_albumsThatAre 42 (ls) (st) σ Q else aX d iX5_albumsThatAre 12 (ls) (st) σ Q) := by rw [X_icmp kX5_albumsThatAre_9 (t := 42) (by decide)]; simp only [aCmp_ge]
theorem kX5_albumsThatAre_12 : aCode iX5_albumsThatAre 12 = some (.aload_n 0, 1) := by decide +kernel
theorem sX5_albumsThatAre_12 {d : Nat} {σ : aS} {Q : aQ} {x : Nat} {lt : aL} {st : List Value} : aX d iX5_albumsThatAre 12 (some (.ref x) :: lt) (st) σ Q ↔ aX d iX5_albumsThatAre 13 (some (.ref x) :: lt) (.ref x :: st) σ Q := X_aloadn kX5_albumsThatAre_12 rfl rfl
theorem kX5_albumsThatAre_13 : aCode iX5_albumsThatAre 13 = some (.iload_n 3, 1) := by decide +kernel
theorem sX5_albumsThatAre_13 {d : Nat} {σ : aS} {Q : aQ} {l0 l1 l2 : Option Value} {x : Int32} {lt : aL} {st : List Value} : aX d iX5_albumsThatAre 13 (l0 :: l1 :: l2 :: some (.int x) :: lt) (st) σ Q ↔ aX d iX5_albumsThatAre 14 (l0 :: l1 :: l2 :: some (.int x) :: lt) (.int x :: st) σ Q := X_iloadn kX5_albumsThatAre_13 rfl
theorem kX5_albumsThatAre_14 : aCode iX5_albumsThatAre 14 = some (.invokevirtual 79, 3) := by decide +kernel
theorem sX5_albumsThatAre_14 {d : Nat} {σ : aS} {Q : aQ} {b : Nat} {p0 : Int32} {ls : aL} : aX (d + 1) iX5_albumsThatAre 14 (ls) (.int p0 :: .ref b :: []) σ Q ↔ aIs σ b 5 ∧ aX d iX5_albumAt 0 [some (.ref b), some (.int p0)] [] σ (fun r τ => aX (d + 1) iX5_albumsThatAre 17 (ls) (aret r ([])) τ Q) := X_invv (N := 1) (As := [.int p0]) (w := 281) kX5_albumsThatAre_14 (by decide +kernel) (by decide +kernel) rfl rfl (by simp only [List.length_cons, List.length_nil]; omega) (by simp only [List.length_cons, List.length_nil]; omega) (by decide +kernel) rfl (Nat.le_of_ble_eq_true rfl)
theorem kX5_albumsThatAre_17 : aCode iX5_albumsThatAre 17 = some (.astore 4, 2) := by decide +kernel
theorem sX5_albumsThatAre_17 {d : Nat} {σ : aS} {Q : aQ} {l0 l1 l2 l3 lo : Option Value} {x : Nat} {lt : aL} {st : List Value} : aX d iX5_albumsThatAre 17 (l0 :: l1 :: l2 :: l3 :: lo :: lt) (.ref x :: st) σ Q ↔ aX d iX5_albumsThatAre 19 (l0 :: l1 :: l2 :: aclr l3 :: some (.ref x) :: lt) (st) σ Q := X_astore kX5_albumsThatAre_17 (by simp only [List.length_cons]; omega) rfl
theorem sX5_albumsThatAre_17n {d : Nat} {σ : aS} {Q : aQ} {l0 l1 l2 l3 lo : Option Value} {lt : aL} {st : List Value} : aX d iX5_albumsThatAre 17 (l0 :: l1 :: l2 :: l3 :: lo :: lt) (.null :: st) σ Q ↔ aX d iX5_albumsThatAre 19 (l0 :: l1 :: l2 :: aclr l3 :: some (.null) :: lt) (st) σ Q := X_astore kX5_albumsThatAre_17 (by simp only [List.length_cons]; omega) rfl
theorem kX5_albumsThatAre_19 : aCode iX5_albumsThatAre 19 = some (.aload 4, 2) := by decide +kernel
theorem sX5_albumsThatAre_19 {d : Nat} {σ : aS} {Q : aQ} {l0 l1 l2 l3 : Option Value} {x : Nat} {lt : aL} {st : List Value} : aX d iX5_albumsThatAre 19 (l0 :: l1 :: l2 :: l3 :: some (.ref x) :: lt) (st) σ Q ↔ aX d iX5_albumsThatAre 21 (l0 :: l1 :: l2 :: l3 :: some (.ref x) :: lt) (.ref x :: st) σ Q := X_aload kX5_albumsThatAre_19 rfl rfl
theorem sX5_albumsThatAre_19n {d : Nat} {σ : aS} {Q : aQ} {l0 l1 l2 l3 : Option Value} {lt : aL} {st : List Value} : aX d iX5_albumsThatAre 19 (l0 :: l1 :: l2 :: l3 :: some .null :: lt) (st) σ Q ↔ aX d iX5_albumsThatAre 21 (l0 :: l1 :: l2 :: l3 :: some .null :: lt) (.null :: st) σ Q := X_aload kX5_albumsThatAre_19 rfl rfl
theorem kX5_albumsThatAre_21 : aCode iX5_albumsThatAre 21 = some (.ifnull 15, 3) := by decide +kernel
theorem sX5_albumsThatAre_21 {d : Nat} {σ : aS} {Q : aQ} {x : Nat} {ls : aL} {st : List Value} : aX d iX5_albumsThatAre 21 (ls) (.ref x :: st) σ Q ↔ aX d iX5_albumsThatAre 24 (ls) (st) σ Q := X_ifnull kX5_albumsThatAre_21 (t := 36) (by decide)
theorem sX5_albumsThatAre_21n {d : Nat} {σ : aS} {Q : aQ} {ls : aL} {st : List Value} : aX d iX5_albumsThatAre 21 (ls) (.null :: st) σ Q ↔ aX d iX5_albumsThatAre 36 (ls) (st) σ Q := X_ifnullN kX5_albumsThatAre_21 (t := 36) (by decide)
theorem kX5_albumsThatAre_24 : aCode iX5_albumsThatAre 24 = some (.aload 4, 2) := by decide +kernel
theorem sX5_albumsThatAre_24 {d : Nat} {σ : aS} {Q : aQ} {l0 l1 l2 l3 : Option Value} {x : Nat} {lt : aL} {st : List Value} : aX d iX5_albumsThatAre 24 (l0 :: l1 :: l2 :: l3 :: some (.ref x) :: lt) (st) σ Q ↔ aX d iX5_albumsThatAre 26 (l0 :: l1 :: l2 :: l3 :: some (.ref x) :: lt) (.ref x :: st) σ Q := X_aload kX5_albumsThatAre_24 rfl rfl
theorem sX5_albumsThatAre_24n {d : Nat} {σ : aS} {Q : aQ} {l0 l1 l2 l3 : Option Value} {lt : aL} {st : List Value} : aX d iX5_albumsThatAre 24 (l0 :: l1 :: l2 :: l3 :: some .null :: lt) (st) σ Q ↔ aX d iX5_albumsThatAre 26 (l0 :: l1 :: l2 :: l3 :: some .null :: lt) (.null :: st) σ Q := X_aload kX5_albumsThatAre_24 rfl rfl
theorem kX5_albumsThatAre_26 : aCode iX5_albumsThatAre 26 = some (.getfield 139, 3) := by decide +kernel
theorem sX5_albumsThatAre_26 {d : Nat} {σ : aS} {Q : aQ} {a : Nat} {ls : aL} {st : List Value} : aX d iX5_albumsThatAre 26 (ls) (.ref a :: st) σ Q ↔ ∃ v, aFld σ a 0 4 = some v ∧ aX d iX5_albumsThatAre 29 (ls) (v :: st) σ Q := X_getf (w := 48) kX5_albumsThatAre_26 (by decide +kernel)
theorem kX5_albumsThatAre_29 : aCode iX5_albumsThatAre 29 = some (.iload_n 1, 1) := by decide +kernel
theorem sX5_albumsThatAre_29 {d : Nat} {σ : aS} {Q : aQ} {l0 : Option Value} {x : Int32} {lt : aL} {st : List Value} : aX d iX5_albumsThatAre 29 (l0 :: some (.int x) :: lt) (st) σ Q ↔ aX d iX5_albumsThatAre 30 (l0 :: some (.int x) :: lt) (.int x :: st) σ Q := X_iloadn kX5_albumsThatAre_29 rfl
theorem kX5_albumsThatAre_30 : aCode iX5_albumsThatAre 30 = some (.if_icmp .ne 6, 3) := by decide +kernel
theorem sX5_albumsThatAre_30 {d : Nat} {σ : aS} {Q : aQ} {x y : Int32} {ls : aL} {st : List Value} : aX d iX5_albumsThatAre 30 (ls) (.int y :: .int x :: st) σ Q ↔ (if ¬ x = y then aX d iX5_albumsThatAre 36 (ls) (st) σ Q else aX d iX5_albumsThatAre 33 (ls) (st) σ Q) := by rw [X_icmp kX5_albumsThatAre_30 (t := 36) (by decide)]; simp only [aCmp_ne]
theorem kX5_albumsThatAre_33 : aCode iX5_albumsThatAre 33 = some (.iinc 2 1, 3) := by decide +kernel
theorem sX5_albumsThatAre_33 {d : Nat} {σ : aS} {Q : aQ} {l0 l1 : Option Value} {x : Int32} {lt : aL} {st : List Value} : aX d iX5_albumsThatAre 33 (l0 :: l1 :: some (.int x) :: lt) (st) σ Q ↔ aX d iX5_albumsThatAre 36 (l0 :: aclr l1 :: some (.int (x + nI 1)) :: lt) (st) σ Q := X_iinc kX5_albumsThatAre_33 rfl (by decide +kernel)
theorem kX5_albumsThatAre_36 : aCode iX5_albumsThatAre 36 = some (.iinc 3 1, 3) := by decide +kernel
theorem sX5_albumsThatAre_36 {d : Nat} {σ : aS} {Q : aQ} {l0 l1 l2 : Option Value} {x : Int32} {lt : aL} {st : List Value} : aX d iX5_albumsThatAre 36 (l0 :: l1 :: l2 :: some (.int x) :: lt) (st) σ Q ↔ aX d iX5_albumsThatAre 39 (l0 :: l1 :: aclr l2 :: some (.int (x + nI 1)) :: lt) (st) σ Q := X_iinc kX5_albumsThatAre_36 rfl (by decide +kernel)
theorem kX5_albumsThatAre_39 : aCode iX5_albumsThatAre 39 = some (.goto (-35), 3) := by decide +kernel
theorem sX5_albumsThatAre_39 {d : Nat} {σ : aS} {Q : aQ} {ls : aL} {st : List Value} : aX d iX5_albumsThatAre 39 (ls) (st) σ Q ↔ aX d iX5_albumsThatAre 4 (ls) (st) σ Q := X_goto kX5_albumsThatAre_39 (by decide)
theorem kX5_albumsThatAre_42 : aCode iX5_albumsThatAre 42 = some (.iload_n 2, 1) := by decide +kernel
theorem sX5_albumsThatAre_42 {d : Nat} {σ : aS} {Q : aQ} {l0 l1 : Option Value} {x : Int32} {lt : aL} {st : List Value} : aX d iX5_albumsThatAre 42 (l0 :: l1 :: some (.int x) :: lt) (st) σ Q ↔ aX d iX5_albumsThatAre 43 (l0 :: l1 :: some (.int x) :: lt) (.int x :: st) σ Q := X_iloadn kX5_albumsThatAre_42 rfl
theorem kX5_albumsThatAre_43 : aCode iX5_albumsThatAre 43 = some (.ireturn, 1) := by decide +kernel
theorem sX5_albumsThatAre_43 {d : Nat} {σ : aS} {Q : aQ} {v : Int32} {ls : aL} : aX d iX5_albumsThatAre 43 (ls) ([.int v]) σ Q ↔ Q (some (.int v)) σ := X_iret kX5_albumsThatAre_43 (by decide +kernel)
theorem kX5_pagesBy_0 : aCode iX5_pagesBy 0 = some (.iconst 0, 1) := by decide +kernel
theorem sX5_pagesBy_0 {d : Nat} {σ : aS} {Q : aQ} {ls : aL} {st : List Value} : aX d iX5_pagesBy 0 (ls) (st) σ Q ↔ aX d iX5_pagesBy 1 (ls) (.int (nI 0) :: st) σ Q := X_iconst kX5_pagesBy_0 (by decide +kernel)
theorem kX5_pagesBy_1 : aCode iX5_pagesBy 1 = some (.istore_n 2, 1) := by decide +kernel
theorem sX5_pagesBy_1 {d : Nat} {σ : aS} {Q : aQ} {l0 l1 lo : Option Value} {x : Int32} {lt : aL} {st : List Value} : aX d iX5_pagesBy 1 (l0 :: l1 :: lo :: lt) (.int x :: st) σ Q ↔ aX d iX5_pagesBy 2 (l0 :: aclr l1 :: some (.int x) :: lt) (st) σ Q := X_istoren kX5_pagesBy_1 (by simp only [List.length_cons]; omega)
theorem kX5_pagesBy_2 : aCode iX5_pagesBy 2 = some (.iconst 0, 1) := by decide +kernel
theorem sX5_pagesBy_2 {d : Nat} {σ : aS} {Q : aQ} {ls : aL} {st : List Value} : aX d iX5_pagesBy 2 (ls) (st) σ Q ↔ aX d iX5_pagesBy 3 (ls) (.int (nI 0) :: st) σ Q := X_iconst kX5_pagesBy_2 (by decide +kernel)
theorem kX5_pagesBy_3 : aCode iX5_pagesBy 3 = some (.istore_n 3, 1) := by decide +kernel
theorem sX5_pagesBy_3 {d : Nat} {σ : aS} {Q : aQ} {l0 l1 l2 lo : Option Value} {x : Int32} {lt : aL} {st : List Value} : aX d iX5_pagesBy 3 (l0 :: l1 :: l2 :: lo :: lt) (.int x :: st) σ Q ↔ aX d iX5_pagesBy 4 (l0 :: l1 :: aclr l2 :: some (.int x) :: lt) (st) σ Q := X_istoren kX5_pagesBy_3 (by simp only [List.length_cons]; omega)
theorem kX5_pagesBy_4 : aCode iX5_pagesBy 4 = some (.iload_n 3, 1) := by decide +kernel
theorem sX5_pagesBy_4 {d : Nat} {σ : aS} {Q : aQ} {l0 l1 l2 : Option Value} {x : Int32} {lt : aL} {st : List Value} : aX d iX5_pagesBy 4 (l0 :: l1 :: l2 :: some (.int x) :: lt) (st) σ Q ↔ aX d iX5_pagesBy 5 (l0 :: l1 :: l2 :: some (.int x) :: lt) (.int x :: st) σ Q := X_iloadn kX5_pagesBy_4 rfl
theorem kX5_pagesBy_5 : aCode iX5_pagesBy 5 = some (.aload_n 0, 1) := by decide +kernel
theorem sX5_pagesBy_5 {d : Nat} {σ : aS} {Q : aQ} {x : Nat} {lt : aL} {st : List Value} : aX d iX5_pagesBy 5 (some (.ref x) :: lt) (st) σ Q ↔ aX d iX5_pagesBy 6 (some (.ref x) :: lt) (.ref x :: st) σ Q := X_aloadn kX5_pagesBy_5 rfl rfl
theorem kX5_pagesBy_6 : aCode iX5_pagesBy 6 = some (.getfield 39, 3) := by decide +kernel
theorem sX5_pagesBy_6 {d : Nat} {σ : aS} {Q : aQ} {a : Nat} {ls : aL} {st : List Value} : aX d iX5_pagesBy 6 (ls) (.ref a :: st) σ Q ↔ ∃ v, aFld σ a 5 5 = some v ∧ aX d iX5_pagesBy 9 (ls) (v :: st) σ Q := X_getf (w := 79) kX5_pagesBy_6 (by decide +kernel)
theorem kX5_pagesBy_9 : aCode iX5_pagesBy 9 = some (.if_icmp .ge 36, 3) := by decide +kernel
theorem sX5_pagesBy_9 {d : Nat} {σ : aS} {Q : aQ} {x y : Int32} {ls : aL} {st : List Value} : aX d iX5_pagesBy 9 (ls) (.int y :: .int x :: st) σ Q ↔ (if y ≤ x then aX d iX5_pagesBy 45 (ls) (st) σ Q else aX d iX5_pagesBy 12 (ls) (st) σ Q) := by rw [X_icmp kX5_pagesBy_9 (t := 45) (by decide)]; simp only [aCmp_ge]
theorem kX5_pagesBy_12 : aCode iX5_pagesBy 12 = some (.aload_n 0, 1) := by decide +kernel
theorem sX5_pagesBy_12 {d : Nat} {σ : aS} {Q : aQ} {x : Nat} {lt : aL} {st : List Value} : aX d iX5_pagesBy 12 (some (.ref x) :: lt) (st) σ Q ↔ aX d iX5_pagesBy 13 (some (.ref x) :: lt) (.ref x :: st) σ Q := X_aloadn kX5_pagesBy_12 rfl rfl
theorem kX5_pagesBy_13 : aCode iX5_pagesBy 13 = some (.iload_n 3, 1) := by decide +kernel
theorem sX5_pagesBy_13 {d : Nat} {σ : aS} {Q : aQ} {l0 l1 l2 : Option Value} {x : Int32} {lt : aL} {st : List Value} : aX d iX5_pagesBy 13 (l0 :: l1 :: l2 :: some (.int x) :: lt) (st) σ Q ↔ aX d iX5_pagesBy 14 (l0 :: l1 :: l2 :: some (.int x) :: lt) (.int x :: st) σ Q := X_iloadn kX5_pagesBy_13 rfl
theorem kX5_pagesBy_14 : aCode iX5_pagesBy 14 = some (.invokevirtual 79, 3) := by decide +kernel
theorem sX5_pagesBy_14 {d : Nat} {σ : aS} {Q : aQ} {b : Nat} {p0 : Int32} {ls : aL} : aX (d + 1) iX5_pagesBy 14 (ls) (.int p0 :: .ref b :: []) σ Q ↔ aIs σ b 5 ∧ aX d iX5_albumAt 0 [some (.ref b), some (.int p0)] [] σ (fun r τ => aX (d + 1) iX5_pagesBy 17 (ls) (aret r ([])) τ Q) := X_invv (N := 1) (As := [.int p0]) (w := 281) kX5_pagesBy_14 (by decide +kernel) (by decide +kernel) rfl rfl (by simp only [List.length_cons, List.length_nil]; omega) (by simp only [List.length_cons, List.length_nil]; omega) (by decide +kernel) rfl (Nat.le_of_ble_eq_true rfl)
theorem kX5_pagesBy_17 : aCode iX5_pagesBy 17 = some (.astore 4, 2) := by decide +kernel
theorem sX5_pagesBy_17 {d : Nat} {σ : aS} {Q : aQ} {l0 l1 l2 l3 lo : Option Value} {x : Nat} {lt : aL} {st : List Value} : aX d iX5_pagesBy 17 (l0 :: l1 :: l2 :: l3 :: lo :: lt) (.ref x :: st) σ Q ↔ aX d iX5_pagesBy 19 (l0 :: l1 :: l2 :: aclr l3 :: some (.ref x) :: lt) (st) σ Q := X_astore kX5_pagesBy_17 (by simp only [List.length_cons]; omega) rfl
theorem sX5_pagesBy_17n {d : Nat} {σ : aS} {Q : aQ} {l0 l1 l2 l3 lo : Option Value} {lt : aL} {st : List Value} : aX d iX5_pagesBy 17 (l0 :: l1 :: l2 :: l3 :: lo :: lt) (.null :: st) σ Q ↔ aX d iX5_pagesBy 19 (l0 :: l1 :: l2 :: aclr l3 :: some (.null) :: lt) (st) σ Q := X_astore kX5_pagesBy_17 (by simp only [List.length_cons]; omega) rfl
theorem kX5_pagesBy_19 : aCode iX5_pagesBy 19 = some (.aload 4, 2) := by decide +kernel
theorem sX5_pagesBy_19 {d : Nat} {σ : aS} {Q : aQ} {l0 l1 l2 l3 : Option Value} {x : Nat} {lt : aL} {st : List Value} : aX d iX5_pagesBy 19 (l0 :: l1 :: l2 :: l3 :: some (.ref x) :: lt) (st) σ Q ↔ aX d iX5_pagesBy 21 (l0 :: l1 :: l2 :: l3 :: some (.ref x) :: lt) (.ref x :: st) σ Q := X_aload kX5_pagesBy_19 rfl rfl
theorem sX5_pagesBy_19n {d : Nat} {σ : aS} {Q : aQ} {l0 l1 l2 l3 : Option Value} {lt : aL} {st : List Value} : aX d iX5_pagesBy 19 (l0 :: l1 :: l2 :: l3 :: some .null :: lt) (st) σ Q ↔ aX d iX5_pagesBy 21 (l0 :: l1 :: l2 :: l3 :: some .null :: lt) (.null :: st) σ Q := X_aload kX5_pagesBy_19 rfl rfl
theorem kX5_pagesBy_21 : aCode iX5_pagesBy 21 = some (.ifnull 18, 3) := by decide +kernel
theorem sX5_pagesBy_21 {d : Nat} {σ : aS} {Q : aQ} {x : Nat} {ls : aL} {st : List Value} : aX d iX5_pagesBy 21 (ls) (.ref x :: st) σ Q ↔ aX d iX5_pagesBy 24 (ls) (st) σ Q := X_ifnull kX5_pagesBy_21 (t := 39) (by decide)
theorem sX5_pagesBy_21n {d : Nat} {σ : aS} {Q : aQ} {ls : aL} {st : List Value} : aX d iX5_pagesBy 21 (ls) (.null :: st) σ Q ↔ aX d iX5_pagesBy 39 (ls) (st) σ Q := X_ifnullN kX5_pagesBy_21 (t := 39) (by decide)
theorem kX5_pagesBy_24 : aCode iX5_pagesBy 24 = some (.aload 4, 2) := by decide +kernel
theorem sX5_pagesBy_24 {d : Nat} {σ : aS} {Q : aQ} {l0 l1 l2 l3 : Option Value} {x : Nat} {lt : aL} {st : List Value} : aX d iX5_pagesBy 24 (l0 :: l1 :: l2 :: l3 :: some (.ref x) :: lt) (st) σ Q ↔ aX d iX5_pagesBy 26 (l0 :: l1 :: l2 :: l3 :: some (.ref x) :: lt) (.ref x :: st) σ Q := X_aload kX5_pagesBy_24 rfl rfl
theorem sX5_pagesBy_24n {d : Nat} {σ : aS} {Q : aQ} {l0 l1 l2 l3 : Option Value} {lt : aL} {st : List Value} : aX d iX5_pagesBy 24 (l0 :: l1 :: l2 :: l3 :: some .null :: lt) (st) σ Q ↔ aX d iX5_pagesBy 26 (l0 :: l1 :: l2 :: l3 :: some .null :: lt) (.null :: st) σ Q := X_aload kX5_pagesBy_24 rfl rfl
theorem kX5_pagesBy_26 : aCode iX5_pagesBy 26 = some (.invokevirtual 129, 3) := by decide +kernel
theorem sX5_pagesBy_26 {d : Nat} {σ : aS} {Q : aQ} {b : Nat} {ls : aL} : aX (d + 1) iX5_pagesBy 26 (ls) (.ref b :: []) σ Q ↔ aIs σ b 0 ∧ aX d iX0_seatSet 0 [some (.ref b), none, none] [] σ (fun r τ => aX (d + 1) iX5_pagesBy 29 (ls) (aret r ([])) τ Q) := X_invv (N := 0) (As := []) (w := 326) kX5_pagesBy_26 (by decide +kernel) (by decide +kernel) rfl rfl (by simp only [List.length_cons, List.length_nil]; omega) (by simp only [List.length_cons, List.length_nil]; omega) (by decide +kernel) rfl (Nat.le_of_ble_eq_true rfl)
theorem kX5_pagesBy_29 : aCode iX5_pagesBy 29 = some (.iconst 1, 1) := by decide +kernel
theorem sX5_pagesBy_29 {d : Nat} {σ : aS} {Q : aQ} {ls : aL} {st : List Value} : aX d iX5_pagesBy 29 (ls) (st) σ Q ↔ aX d iX5_pagesBy 30 (ls) (.int (nI 1) :: st) σ Q := X_iconst kX5_pagesBy_29 (by decide +kernel)
theorem kX5_pagesBy_30 : aCode iX5_pagesBy 30 = some (.iload_n 1, 1) := by decide +kernel
theorem sX5_pagesBy_30 {d : Nat} {σ : aS} {Q : aQ} {l0 : Option Value} {x : Int32} {lt : aL} {st : List Value} : aX d iX5_pagesBy 30 (l0 :: some (.int x) :: lt) (st) σ Q ↔ aX d iX5_pagesBy 31 (l0 :: some (.int x) :: lt) (.int x :: st) σ Q := X_iloadn kX5_pagesBy_30 rfl
theorem kX5_pagesBy_31 : aCode iX5_pagesBy 31 = some (.ishl, 1) := by decide +kernel
theorem sX5_pagesBy_31 {d : Nat} {σ : aS} {Q : aQ} {x y : Int32} {ls : aL} {st : List Value} : aX d iX5_pagesBy 31 (ls) (.int y :: .int x :: st) σ Q ↔ aX d iX5_pagesBy 32 (ls) (.int (x <<< (y &&& 31)) :: st) σ Q := X_ishl kX5_pagesBy_31
theorem kX5_pagesBy_32 : aCode iX5_pagesBy 32 = some (.iand, 1) := by decide +kernel
theorem sX5_pagesBy_32 {d : Nat} {σ : aS} {Q : aQ} {x y : Int32} {ls : aL} {st : List Value} : aX d iX5_pagesBy 32 (ls) (.int y :: .int x :: st) σ Q ↔ aX d iX5_pagesBy 33 (ls) (.int (x &&& y) :: st) σ Q := X_iand kX5_pagesBy_32
theorem kX5_pagesBy_33 : aCode iX5_pagesBy 33 = some (.ifCond .eq 6, 3) := by decide +kernel
theorem sX5_pagesBy_33 {d : Nat} {σ : aS} {Q : aQ} {x : Int32} {ls : aL} {st : List Value} : aX d iX5_pagesBy 33 (ls) (.int x :: st) σ Q ↔ (if x = nI 0 then aX d iX5_pagesBy 39 (ls) (st) σ Q else aX d iX5_pagesBy 36 (ls) (st) σ Q) := by rw [X_if kX5_pagesBy_33 (t := 39) (by decide)]; simp only [aCmp_eq]
theorem kX5_pagesBy_36 : aCode iX5_pagesBy 36 = some (.iinc 2 1, 3) := by decide +kernel
theorem sX5_pagesBy_36 {d : Nat} {σ : aS} {Q : aQ} {l0 l1 : Option Value} {x : Int32} {lt : aL} {st : List Value} : aX d iX5_pagesBy 36 (l0 :: l1 :: some (.int x) :: lt) (st) σ Q ↔ aX d iX5_pagesBy 39 (l0 :: aclr l1 :: some (.int (x + nI 1)) :: lt) (st) σ Q := X_iinc kX5_pagesBy_36 rfl (by decide +kernel)
theorem kX5_pagesBy_39 : aCode iX5_pagesBy 39 = some (.iinc 3 1, 3) := by decide +kernel
theorem sX5_pagesBy_39 {d : Nat} {σ : aS} {Q : aQ} {l0 l1 l2 : Option Value} {x : Int32} {lt : aL} {st : List Value} : aX d iX5_pagesBy 39 (l0 :: l1 :: l2 :: some (.int x) :: lt) (st) σ Q ↔ aX d iX5_pagesBy 42 (l0 :: l1 :: aclr l2 :: some (.int (x + nI 1)) :: lt) (st) σ Q := X_iinc kX5_pagesBy_39 rfl (by decide +kernel)
theorem kX5_pagesBy_42 : aCode iX5_pagesBy 42 = some (.goto (-38), 3) := by decide +kernel
theorem sX5_pagesBy_42 {d : Nat} {σ : aS} {Q : aQ} {ls : aL} {st : List Value} : aX d iX5_pagesBy 42 (ls) (st) σ Q ↔ aX d iX5_pagesBy 4 (ls) (st) σ Q := X_goto kX5_pagesBy_42 (by decide)
theorem kX5_pagesBy_45 : aCode iX5_pagesBy 45 = some (.iload_n 2, 1) := by decide +kernel
theorem sX5_pagesBy_45 {d : Nat} {σ : aS} {Q : aQ} {l0 l1 : Option Value} {x : Int32} {lt : aL} {st : List Value} : aX d iX5_pagesBy 45 (l0 :: l1 :: some (.int x) :: lt) (st) σ Q ↔ aX d iX5_pagesBy 46 (l0 :: l1 :: some (.int x) :: lt) (.int x :: st) σ Q := X_iloadn kX5_pagesBy_45 rfl
theorem kX5_pagesBy_46 : aCode iX5_pagesBy 46 = some (.ireturn, 1) := by decide +kernel
theorem sX5_pagesBy_46 {d : Nat} {σ : aS} {Q : aQ} {v : Int32} {ls : aL} : aX d iX5_pagesBy 46 (ls) ([.int v]) σ Q ↔ Q (some (.int v)) σ := X_iret kX5_pagesBy_46 (by decide +kernel)
theorem kX5_allPoints_0 : aCode iX5_allPoints 0 = some (.iconst 0, 1) := by decide +kernel
theorem sX5_allPoints_0 {d : Nat} {σ : aS} {Q : aQ} {ls : aL} {st : List Value} : aX d iX5_allPoints 0 (ls) (st) σ Q ↔ aX d iX5_allPoints 1 (ls) (.int (nI 0) :: st) σ Q := X_iconst kX5_allPoints_0 (by decide +kernel)
theorem kX5_allPoints_1 : aCode iX5_allPoints 1 = some (.istore_n 1, 1) := by decide +kernel
theorem sX5_allPoints_1 {d : Nat} {σ : aS} {Q : aQ} {l0 lo : Option Value} {x : Int32} {lt : aL} {st : List Value} : aX d iX5_allPoints 1 (l0 :: lo :: lt) (.int x :: st) σ Q ↔ aX d iX5_allPoints 2 (aclr l0 :: some (.int x) :: lt) (st) σ Q := X_istoren kX5_allPoints_1 (by simp only [List.length_cons]; omega)
theorem kX5_allPoints_2 : aCode iX5_allPoints 2 = some (.iconst 0, 1) := by decide +kernel
theorem sX5_allPoints_2 {d : Nat} {σ : aS} {Q : aQ} {ls : aL} {st : List Value} : aX d iX5_allPoints 2 (ls) (st) σ Q ↔ aX d iX5_allPoints 3 (ls) (.int (nI 0) :: st) σ Q := X_iconst kX5_allPoints_2 (by decide +kernel)
theorem kX5_allPoints_3 : aCode iX5_allPoints 3 = some (.istore_n 2, 1) := by decide +kernel
theorem sX5_allPoints_3 {d : Nat} {σ : aS} {Q : aQ} {l0 l1 lo : Option Value} {x : Int32} {lt : aL} {st : List Value} : aX d iX5_allPoints 3 (l0 :: l1 :: lo :: lt) (.int x :: st) σ Q ↔ aX d iX5_allPoints 4 (l0 :: aclr l1 :: some (.int x) :: lt) (st) σ Q := X_istoren kX5_allPoints_3 (by simp only [List.length_cons]; omega)
theorem kX5_allPoints_4 : aCode iX5_allPoints 4 = some (.iload_n 2, 1) := by decide +kernel
theorem sX5_allPoints_4 {d : Nat} {σ : aS} {Q : aQ} {l0 l1 : Option Value} {x : Int32} {lt : aL} {st : List Value} : aX d iX5_allPoints 4 (l0 :: l1 :: some (.int x) :: lt) (st) σ Q ↔ aX d iX5_allPoints 5 (l0 :: l1 :: some (.int x) :: lt) (.int x :: st) σ Q := X_iloadn kX5_allPoints_4 rfl
theorem kX5_allPoints_5 : aCode iX5_allPoints 5 = some (.aload_n 0, 1) := by decide +kernel
theorem sX5_allPoints_5 {d : Nat} {σ : aS} {Q : aQ} {x : Nat} {lt : aL} {st : List Value} : aX d iX5_allPoints 5 (some (.ref x) :: lt) (st) σ Q ↔ aX d iX5_allPoints 6 (some (.ref x) :: lt) (.ref x :: st) σ Q := X_aloadn kX5_allPoints_5 rfl rfl
theorem kX5_allPoints_6 : aCode iX5_allPoints 6 = some (.getfield 18, 3) := by decide +kernel
theorem sX5_allPoints_6 {d : Nat} {σ : aS} {Q : aQ} {a : Nat} {ls : aL} {st : List Value} : aX d iX5_allPoints 6 (ls) (.ref a :: st) σ Q ↔ ∃ v, aFld σ a 5 2 = some v ∧ aX d iX5_allPoints 9 (ls) (v :: st) σ Q := X_getf (w := 73) kX5_allPoints_6 (by decide +kernel)
theorem kX5_allPoints_9 : aCode iX5_allPoints 9 = some (.arraylength, 1) := by decide +kernel
theorem sX5_allPoints_9 {d : Nat} {σ : aS} {Q : aQ} {a : Nat} {ls : aL} {st : List Value} : aX d iX5_allPoints 9 (ls) (.ref a :: st) σ Q ↔ ∃ m, aLn σ a = some m ∧ aX d iX5_allPoints 10 (ls) (.int (nI m) :: st) σ Q := X_alen kX5_allPoints_9
theorem kX5_allPoints_10 : aCode iX5_allPoints 10 = some (.if_icmp .ge 18, 3) := by decide +kernel
theorem sX5_allPoints_10 {d : Nat} {σ : aS} {Q : aQ} {x y : Int32} {ls : aL} {st : List Value} : aX d iX5_allPoints 10 (ls) (.int y :: .int x :: st) σ Q ↔ (if y ≤ x then aX d iX5_allPoints 28 (ls) (st) σ Q else aX d iX5_allPoints 13 (ls) (st) σ Q) := by rw [X_icmp kX5_allPoints_10 (t := 28) (by decide)]; simp only [aCmp_ge]
theorem kX5_allPoints_13 : aCode iX5_allPoints 13 = some (.iload_n 1, 1) := by decide +kernel
theorem sX5_allPoints_13 {d : Nat} {σ : aS} {Q : aQ} {l0 : Option Value} {x : Int32} {lt : aL} {st : List Value} : aX d iX5_allPoints 13 (l0 :: some (.int x) :: lt) (st) σ Q ↔ aX d iX5_allPoints 14 (l0 :: some (.int x) :: lt) (.int x :: st) σ Q := X_iloadn kX5_allPoints_13 rfl
theorem kX5_allPoints_14 : aCode iX5_allPoints 14 = some (.aload_n 0, 1) := by decide +kernel
theorem sX5_allPoints_14 {d : Nat} {σ : aS} {Q : aQ} {x : Nat} {lt : aL} {st : List Value} : aX d iX5_allPoints 14 (some (.ref x) :: lt) (st) σ Q ↔ aX d iX5_allPoints 15 (some (.ref x) :: lt) (.ref x :: st) σ Q := X_aloadn kX5_allPoints_14 rfl rfl
theorem kX5_allPoints_15 : aCode iX5_allPoints 15 = some (.getfield 18, 3) := by decide +kernel
theorem sX5_allPoints_15 {d : Nat} {σ : aS} {Q : aQ} {a : Nat} {ls : aL} {st : List Value} : aX d iX5_allPoints 15 (ls) (.ref a :: st) σ Q ↔ ∃ v, aFld σ a 5 2 = some v ∧ aX d iX5_allPoints 18 (ls) (v :: st) σ Q := X_getf (w := 73) kX5_allPoints_15 (by decide +kernel)
theorem kX5_allPoints_18 : aCode iX5_allPoints 18 = some (.iload_n 2, 1) := by decide +kernel
theorem sX5_allPoints_18 {d : Nat} {σ : aS} {Q : aQ} {l0 l1 : Option Value} {x : Int32} {lt : aL} {st : List Value} : aX d iX5_allPoints 18 (l0 :: l1 :: some (.int x) :: lt) (st) σ Q ↔ aX d iX5_allPoints 19 (l0 :: l1 :: some (.int x) :: lt) (.int x :: st) σ Q := X_iloadn kX5_allPoints_18 rfl
theorem kX5_allPoints_19 : aCode iX5_allPoints 19 = some (.iaload, 1) := by decide +kernel
theorem sX5_allPoints_19 {d : Nat} {σ : aS} {Q : aQ} {a : Nat} {i : Int32} {ls : aL} {st : List Value} : aX d iX5_allPoints 19 (ls) (.int i :: .ref a :: st) σ Q ↔ ∃ x, aRowR σ a = some x ∧ vp_in i x.1 ∧ aX d iX5_allPoints 20 (ls) (.int (x.2 i.toNatClampNeg) :: st) σ Q := X_iaload kX5_allPoints_19
theorem kX5_allPoints_20 : aCode iX5_allPoints 20 = some (.iadd, 1) := by decide +kernel
theorem sX5_allPoints_20 {d : Nat} {σ : aS} {Q : aQ} {x y : Int32} {ls : aL} {st : List Value} : aX d iX5_allPoints 20 (ls) (.int y :: .int x :: st) σ Q ↔ aX d iX5_allPoints 21 (ls) (.int (x + y) :: st) σ Q := X_iadd kX5_allPoints_20
theorem kX5_allPoints_21 : aCode iX5_allPoints 21 = some (.istore_n 1, 1) := by decide +kernel
theorem sX5_allPoints_21 {d : Nat} {σ : aS} {Q : aQ} {l0 lo : Option Value} {x : Int32} {lt : aL} {st : List Value} : aX d iX5_allPoints 21 (l0 :: lo :: lt) (.int x :: st) σ Q ↔ aX d iX5_allPoints 22 (aclr l0 :: some (.int x) :: lt) (st) σ Q := X_istoren kX5_allPoints_21 (by simp only [List.length_cons]; omega)
theorem kX5_allPoints_22 : aCode iX5_allPoints 22 = some (.iinc 2 1, 3) := by decide +kernel
theorem sX5_allPoints_22 {d : Nat} {σ : aS} {Q : aQ} {l0 l1 : Option Value} {x : Int32} {lt : aL} {st : List Value} : aX d iX5_allPoints 22 (l0 :: l1 :: some (.int x) :: lt) (st) σ Q ↔ aX d iX5_allPoints 25 (l0 :: aclr l1 :: some (.int (x + nI 1)) :: lt) (st) σ Q := X_iinc kX5_allPoints_22 rfl (by decide +kernel)
theorem kX5_allPoints_25 : aCode iX5_allPoints 25 = some (.goto (-21), 3) := by decide +kernel
theorem sX5_allPoints_25 {d : Nat} {σ : aS} {Q : aQ} {ls : aL} {st : List Value} : aX d iX5_allPoints 25 (ls) (st) σ Q ↔ aX d iX5_allPoints 4 (ls) (st) σ Q := X_goto kX5_allPoints_25 (by decide)
theorem kX5_allPoints_28 : aCode iX5_allPoints 28 = some (.iload_n 1, 1) := by decide +kernel
theorem sX5_allPoints_28 {d : Nat} {σ : aS} {Q : aQ} {l0 : Option Value} {x : Int32} {lt : aL} {st : List Value} : aX d iX5_allPoints 28 (l0 :: some (.int x) :: lt) (st) σ Q ↔ aX d iX5_allPoints 29 (l0 :: some (.int x) :: lt) (.int x :: st) σ Q := X_iloadn kX5_allPoints_28 rfl
theorem kX5_allPoints_29 : aCode iX5_allPoints 29 = some (.ireturn, 1) := by decide +kernel
theorem sX5_allPoints_29 {d : Nat} {σ : aS} {Q : aQ} {v : Int32} {ls : aL} : aX d iX5_allPoints 29 (ls) ([.int v]) σ Q ↔ Q (some (.int v)) σ := X_iret kX5_allPoints_29 (by decide +kernel)
