theorem kX7_init_0 : aCode iX7_init 0 = some (.aload_n 0, 1) := by decide +kernel
theorem sX7_init_0 {d : Nat} {σ : aS} {Q : aQ} {x : Nat} {lt : aL} {st : List Value} : aX d iX7_init 0 (some (.ref x) :: lt) (st) σ Q ↔ aX d iX7_init 1 (some (.ref x) :: lt) (.ref x :: st) σ Q := X_aloadn kX7_init_0 rfl rfl
theorem kX7_init_1 : aCode iX7_init 1 = some (.invokespecial 1, 3) := by decide +kernel
theorem sX7_init_1 {d : Nat} {σ : aS} {Q : aQ} {b : Nat} {ls : aL} : aX d iX7_init 1 (ls) (.ref b :: []) σ Q ↔ aX d iX7_init 4 (ls) ([]) σ Q := X_obj (t := 999) (w := 649) kX7_init_1 (by decide +kernel) (by simp only [List.length_cons, List.length_nil]; omega)
theorem kX7_init_4 : aCode iX7_init 4 = some (.aload_n 0, 1) := by decide +kernel
theorem sX7_init_4 {d : Nat} {σ : aS} {Q : aQ} {x : Nat} {lt : aL} {st : List Value} : aX d iX7_init 4 (some (.ref x) :: lt) (st) σ Q ↔ aX d iX7_init 5 (some (.ref x) :: lt) (.ref x :: st) σ Q := X_aloadn kX7_init_4 rfl rfl
theorem kX7_init_5 : aCode iX7_init 5 = some (.sipush 371, 3) := by decide +kernel
theorem sX7_init_5 {d : Nat} {σ : aS} {Q : aQ} {ls : aL} {st : List Value} : aX d iX7_init 5 (ls) (st) σ Q ↔ aX d iX7_init 8 (ls) (.int (nI 371) :: st) σ Q := X_sipush kX7_init_5 (by decide +kernel)
theorem kX7_init_8 : aCode iX7_init 8 = some (.newarray .int, 2) := by decide +kernel
theorem sX7_init_8 {d : Nat} {σ : aS} {Q : aQ} {m : Nat} {ls : aL} {st : List Value} (hm : m ≤ 1000000) : aX d iX7_init 8 (ls) (.int (nI m) :: st) σ Q ↔ aX d iX7_init 10 (ls) (.ref σ.2.1 :: st) (anew σ (eI m (fun _ => 0)) m) Q := X_newa kX7_init_8 hm
theorem kX7_init_10 : aCode iX7_init 10 = some (.putfield 7, 3) := by decide +kernel
theorem sX7_init_10 {d : Nat} {σ : aS} {Q : aQ} {x : Nat} {a : Nat} {ls : aL} {st : List Value} : aX d iX7_init 10 (ls) (.ref x :: .ref a :: st) σ Q ↔ ∃ fs, aFds σ a 7 = some fs ∧ 0 < fs.length ∧ aX d iX7_init 13 (ls) (st) (aput σ a (eO 7 (fs.set 0 (.ref x)))) Q := X_putf (w := 650) kX7_init_10 (by decide +kernel) (aFit_R (by decide +kernel)) (by decide +kernel)
theorem kX7_init_13 : aCode iX7_init 13 = some (.aload_n 0, 1) := by decide +kernel
theorem sX7_init_13 {d : Nat} {σ : aS} {Q : aQ} {x : Nat} {lt : aL} {st : List Value} : aX d iX7_init 13 (some (.ref x) :: lt) (st) σ Q ↔ aX d iX7_init 14 (some (.ref x) :: lt) (.ref x :: st) σ Q := X_aloadn kX7_init_13 rfl rfl
theorem kX7_init_14 : aCode iX7_init 14 = some (.sipush 371, 3) := by decide +kernel
theorem sX7_init_14 {d : Nat} {σ : aS} {Q : aQ} {ls : aL} {st : List Value} : aX d iX7_init 14 (ls) (st) σ Q ↔ aX d iX7_init 17 (ls) (.int (nI 371) :: st) σ Q := X_sipush kX7_init_14 (by decide +kernel)
theorem kX7_init_17 : aCode iX7_init 17 = some (.newarray .int, 2) := by decide +kernel
theorem sX7_init_17 {d : Nat} {σ : aS} {Q : aQ} {m : Nat} {ls : aL} {st : List Value} (hm : m ≤ 1000000) : aX d iX7_init 17 (ls) (.int (nI m) :: st) σ Q ↔ aX d iX7_init 19 (ls) (.ref σ.2.1 :: st) (anew σ (eI m (fun _ => 0)) m) Q := X_newa kX7_init_17 hm
theorem kX7_init_19 : aCode iX7_init 19 = some (.putfield 13, 3) := by decide +kernel
theorem sX7_init_19 {d : Nat} {σ : aS} {Q : aQ} {x : Nat} {a : Nat} {ls : aL} {st : List Value} : aX d iX7_init 19 (ls) (.ref x :: .ref a :: st) σ Q ↔ ∃ fs, aFds σ a 7 = some fs ∧ 1 < fs.length ∧ aX d iX7_init 22 (ls) (st) (aput σ a (eO 7 (fs.set 1 (.ref x)))) Q := X_putf (w := 651) kX7_init_19 (by decide +kernel) (aFit_R (by decide +kernel)) (by decide +kernel)
theorem kX7_init_22 : aCode iX7_init 22 = some (.aload_n 0, 1) := by decide +kernel
theorem sX7_init_22 {d : Nat} {σ : aS} {Q : aQ} {x : Nat} {lt : aL} {st : List Value} : aX d iX7_init 22 (some (.ref x) :: lt) (st) σ Q ↔ aX d iX7_init 23 (some (.ref x) :: lt) (.ref x :: st) σ Q := X_aloadn kX7_init_22 rfl rfl
theorem kX7_init_23 : aCode iX7_init 23 = some (.sipush 2226, 3) := by decide +kernel
theorem sX7_init_23 {d : Nat} {σ : aS} {Q : aQ} {ls : aL} {st : List Value} : aX d iX7_init 23 (ls) (st) σ Q ↔ aX d iX7_init 26 (ls) (.int (nI 2226) :: st) σ Q := X_sipush kX7_init_23 (by decide +kernel)
theorem kX7_init_26 : aCode iX7_init 26 = some (.newarray .int, 2) := by decide +kernel
theorem sX7_init_26 {d : Nat} {σ : aS} {Q : aQ} {m : Nat} {ls : aL} {st : List Value} (hm : m ≤ 1000000) : aX d iX7_init 26 (ls) (.int (nI m) :: st) σ Q ↔ aX d iX7_init 28 (ls) (.ref σ.2.1 :: st) (anew σ (eI m (fun _ => 0)) m) Q := X_newa kX7_init_26 hm
theorem kX7_init_28 : aCode iX7_init 28 = some (.putfield 16, 3) := by decide +kernel
theorem sX7_init_28 {d : Nat} {σ : aS} {Q : aQ} {x : Nat} {a : Nat} {ls : aL} {st : List Value} : aX d iX7_init 28 (ls) (.ref x :: .ref a :: st) σ Q ↔ ∃ fs, aFds σ a 7 = some fs ∧ 2 < fs.length ∧ aX d iX7_init 31 (ls) (st) (aput σ a (eO 7 (fs.set 2 (.ref x)))) Q := X_putf (w := 652) kX7_init_28 (by decide +kernel) (aFit_R (by decide +kernel)) (by decide +kernel)
theorem kX7_init_31 : aCode iX7_init 31 = some (.aload_n 0, 1) := by decide +kernel
theorem sX7_init_31 {d : Nat} {σ : aS} {Q : aQ} {x : Nat} {lt : aL} {st : List Value} : aX d iX7_init 31 (some (.ref x) :: lt) (st) σ Q ↔ aX d iX7_init 32 (some (.ref x) :: lt) (.ref x :: st) σ Q := X_aloadn kX7_init_31 rfl rfl
theorem kX7_init_32 : aCode iX7_init 32 = some (.sipush 742, 3) := by decide +kernel
theorem sX7_init_32 {d : Nat} {σ : aS} {Q : aQ} {ls : aL} {st : List Value} : aX d iX7_init 32 (ls) (st) σ Q ↔ aX d iX7_init 35 (ls) (.int (nI 742) :: st) σ Q := X_sipush kX7_init_32 (by decide +kernel)
theorem kX7_init_35 : aCode iX7_init 35 = some (.newarray .int, 2) := by decide +kernel
theorem sX7_init_35 {d : Nat} {σ : aS} {Q : aQ} {m : Nat} {ls : aL} {st : List Value} (hm : m ≤ 1000000) : aX d iX7_init 35 (ls) (.int (nI m) :: st) σ Q ↔ aX d iX7_init 37 (ls) (.ref σ.2.1 :: st) (anew σ (eI m (fun _ => 0)) m) Q := X_newa kX7_init_35 hm
theorem kX7_init_37 : aCode iX7_init 37 = some (.putfield 19, 3) := by decide +kernel
theorem sX7_init_37 {d : Nat} {σ : aS} {Q : aQ} {x : Nat} {a : Nat} {ls : aL} {st : List Value} : aX d iX7_init 37 (ls) (.ref x :: .ref a :: st) σ Q ↔ ∃ fs, aFds σ a 7 = some fs ∧ 4 < fs.length ∧ aX d iX7_init 40 (ls) (st) (aput σ a (eO 7 (fs.set 4 (.ref x)))) Q := X_putf (w := 654) kX7_init_37 (by decide +kernel) (aFit_R (by decide +kernel)) (by decide +kernel)
theorem kX7_init_40 : aCode iX7_init 40 = some (.aload_n 0, 1) := by decide +kernel
theorem sX7_init_40 {d : Nat} {σ : aS} {Q : aQ} {x : Nat} {lt : aL} {st : List Value} : aX d iX7_init 40 (some (.ref x) :: lt) (st) σ Q ↔ aX d iX7_init 41 (some (.ref x) :: lt) (.ref x :: st) σ Q := X_aloadn kX7_init_40 rfl rfl
theorem kX7_init_41 : aCode iX7_init 41 = some (.iconst 2, 1) := by decide +kernel
theorem sX7_init_41 {d : Nat} {σ : aS} {Q : aQ} {ls : aL} {st : List Value} : aX d iX7_init 41 (ls) (st) σ Q ↔ aX d iX7_init 42 (ls) (.int (nI 2) :: st) σ Q := X_iconst kX7_init_41 (by decide +kernel)
theorem kX7_init_42 : aCode iX7_init 42 = some (.newarray .int, 2) := by decide +kernel
theorem sX7_init_42 {d : Nat} {σ : aS} {Q : aQ} {m : Nat} {ls : aL} {st : List Value} (hm : m ≤ 1000000) : aX d iX7_init 42 (ls) (.int (nI m) :: st) σ Q ↔ aX d iX7_init 44 (ls) (.ref σ.2.1 :: st) (anew σ (eI m (fun _ => 0)) m) Q := X_newa kX7_init_42 hm
theorem kX7_init_44 : aCode iX7_init 44 = some (.putfield 22, 3) := by decide +kernel
theorem sX7_init_44 {d : Nat} {σ : aS} {Q : aQ} {x : Nat} {a : Nat} {ls : aL} {st : List Value} : aX d iX7_init 44 (ls) (.ref x :: .ref a :: st) σ Q ↔ ∃ fs, aFds σ a 7 = some fs ∧ 5 < fs.length ∧ aX d iX7_init 47 (ls) (st) (aput σ a (eO 7 (fs.set 5 (.ref x)))) Q := X_putf (w := 655) kX7_init_44 (by decide +kernel) (aFit_R (by decide +kernel)) (by decide +kernel)
theorem kX7_init_47 : aCode iX7_init 47 = some (.aload_n 0, 1) := by decide +kernel
theorem sX7_init_47 {d : Nat} {σ : aS} {Q : aQ} {x : Nat} {lt : aL} {st : List Value} : aX d iX7_init 47 (some (.ref x) :: lt) (st) σ Q ↔ aX d iX7_init 48 (some (.ref x) :: lt) (.ref x :: st) σ Q := X_aloadn kX7_init_47 rfl rfl
theorem kX7_init_48 : aCode iX7_init 48 = some (.bipush 80, 2) := by decide +kernel
theorem sX7_init_48 {d : Nat} {σ : aS} {Q : aQ} {ls : aL} {st : List Value} : aX d iX7_init 48 (ls) (st) σ Q ↔ aX d iX7_init 50 (ls) (.int (nI 80) :: st) σ Q := X_bipush kX7_init_48 (by decide +kernel)
theorem kX7_init_50 : aCode iX7_init 50 = some (.newarray .int, 2) := by decide +kernel
theorem sX7_init_50 {d : Nat} {σ : aS} {Q : aQ} {m : Nat} {ls : aL} {st : List Value} (hm : m ≤ 1000000) : aX d iX7_init 50 (ls) (.int (nI m) :: st) σ Q ↔ aX d iX7_init 52 (ls) (.ref σ.2.1 :: st) (anew σ (eI m (fun _ => 0)) m) Q := X_newa kX7_init_50 hm
theorem kX7_init_52 : aCode iX7_init 52 = some (.putfield 25, 3) := by decide +kernel
theorem sX7_init_52 {d : Nat} {σ : aS} {Q : aQ} {x : Nat} {a : Nat} {ls : aL} {st : List Value} : aX d iX7_init 52 (ls) (.ref x :: .ref a :: st) σ Q ↔ ∃ fs, aFds σ a 7 = some fs ∧ 6 < fs.length ∧ aX d iX7_init 55 (ls) (st) (aput σ a (eO 7 (fs.set 6 (.ref x)))) Q := X_putf (w := 656) kX7_init_52 (by decide +kernel) (aFit_R (by decide +kernel)) (by decide +kernel)
theorem kX7_init_55 : aCode iX7_init 55 = some (.iconst 0, 1) := by decide +kernel
theorem sX7_init_55 {d : Nat} {σ : aS} {Q : aQ} {ls : aL} {st : List Value} : aX d iX7_init 55 (ls) (st) σ Q ↔ aX d iX7_init 56 (ls) (.int (nI 0) :: st) σ Q := X_iconst kX7_init_55 (by decide +kernel)
theorem kX7_init_56 : aCode iX7_init 56 = some (.istore_n 1, 1) := by decide +kernel
theorem sX7_init_56 {d : Nat} {σ : aS} {Q : aQ} {l0 lo : Option Value} {x : Int32} {lt : aL} {st : List Value} : aX d iX7_init 56 (l0 :: lo :: lt) (.int x :: st) σ Q ↔ aX d iX7_init 57 (aclr l0 :: some (.int x) :: lt) (st) σ Q := X_istoren kX7_init_56 (by simp only [List.length_cons]; omega)
theorem kX7_init_57 : aCode iX7_init 57 = some (.iload_n 1, 1) := by decide +kernel
theorem sX7_init_57 {d : Nat} {σ : aS} {Q : aQ} {l0 : Option Value} {x : Int32} {lt : aL} {st : List Value} : aX d iX7_init 57 (l0 :: some (.int x) :: lt) (st) σ Q ↔ aX d iX7_init 58 (l0 :: some (.int x) :: lt) (.int x :: st) σ Q := X_iloadn kX7_init_57 rfl
theorem kX7_init_58 : aCode iX7_init 58 = some (.bipush 16, 2) := by decide +kernel
theorem sX7_init_58 {d : Nat} {σ : aS} {Q : aQ} {ls : aL} {st : List Value} : aX d iX7_init 58 (ls) (st) σ Q ↔ aX d iX7_init 60 (ls) (.int (nI 16) :: st) σ Q := X_bipush kX7_init_58 (by decide +kernel)
theorem kX7_init_60 : aCode iX7_init 60 = some (.if_icmp .ge 34, 3) := by decide +kernel
theorem sX7_init_60 {d : Nat} {σ : aS} {Q : aQ} {x y : Int32} {ls : aL} {st : List Value} : aX d iX7_init 60 (ls) (.int y :: .int x :: st) σ Q ↔ (if y ≤ x then aX d iX7_init 94 (ls) (st) σ Q else aX d iX7_init 63 (ls) (st) σ Q) := by rw [X_icmp kX7_init_60 (t := 94) (by decide)]; simp only [aCmp_ge]
theorem kX7_init_63 : aCode iX7_init 63 = some (.aload_n 0, 1) := by decide +kernel
theorem sX7_init_63 {d : Nat} {σ : aS} {Q : aQ} {x : Nat} {lt : aL} {st : List Value} : aX d iX7_init 63 (some (.ref x) :: lt) (st) σ Q ↔ aX d iX7_init 64 (some (.ref x) :: lt) (.ref x :: st) σ Q := X_aloadn kX7_init_63 rfl rfl
theorem kX7_init_64 : aCode iX7_init 64 = some (.getfield 7, 3) := by decide +kernel
theorem sX7_init_64 {d : Nat} {σ : aS} {Q : aQ} {a : Nat} {ls : aL} {st : List Value} : aX d iX7_init 64 (ls) (.ref a :: st) σ Q ↔ ∃ v, aFld σ a 7 0 = some v ∧ aX d iX7_init 67 (ls) (v :: st) σ Q := X_getf (w := 650) kX7_init_64 (by decide +kernel)
theorem kX7_init_67 : aCode iX7_init 67 = some (.iconst 0, 1) := by decide +kernel
theorem sX7_init_67 {d : Nat} {σ : aS} {Q : aQ} {ls : aL} {st : List Value} : aX d iX7_init 67 (ls) (st) σ Q ↔ aX d iX7_init 68 (ls) (.int (nI 0) :: st) σ Q := X_iconst kX7_init_67 (by decide +kernel)
theorem kX7_init_68 : aCode iX7_init 68 = some (.iload_n 1, 1) := by decide +kernel
theorem sX7_init_68 {d : Nat} {σ : aS} {Q : aQ} {l0 : Option Value} {x : Int32} {lt : aL} {st : List Value} : aX d iX7_init 68 (l0 :: some (.int x) :: lt) (st) σ Q ↔ aX d iX7_init 69 (l0 :: some (.int x) :: lt) (.int x :: st) σ Q := X_iloadn kX7_init_68 rfl
theorem kX7_init_69 : aCode iX7_init 69 = some (.iadd, 1) := by decide +kernel
theorem sX7_init_69 {d : Nat} {σ : aS} {Q : aQ} {x y : Int32} {ls : aL} {st : List Value} : aX d iX7_init 69 (ls) (.int y :: .int x :: st) σ Q ↔ aX d iX7_init 70 (ls) (.int (x + y) :: st) σ Q := X_iadd kX7_init_69
theorem kX7_init_70 : aCode iX7_init 70 = some (.iload_n 1, 1) := by decide +kernel
theorem sX7_init_70 {d : Nat} {σ : aS} {Q : aQ} {l0 : Option Value} {x : Int32} {lt : aL} {st : List Value} : aX d iX7_init 70 (l0 :: some (.int x) :: lt) (st) σ Q ↔ aX d iX7_init 71 (l0 :: some (.int x) :: lt) (.int x :: st) σ Q := X_iloadn kX7_init_70 rfl
theorem kX7_init_71 : aCode iX7_init 71 = some (.iload_n 1, 1) := by decide +kernel
theorem sX7_init_71 {d : Nat} {σ : aS} {Q : aQ} {l0 : Option Value} {x : Int32} {lt : aL} {st : List Value} : aX d iX7_init 71 (l0 :: some (.int x) :: lt) (st) σ Q ↔ aX d iX7_init 72 (l0 :: some (.int x) :: lt) (.int x :: st) σ Q := X_iloadn kX7_init_71 rfl
theorem kX7_init_72 : aCode iX7_init 72 = some (.imul, 1) := by decide +kernel
theorem sX7_init_72 {d : Nat} {σ : aS} {Q : aQ} {x y : Int32} {ls : aL} {st : List Value} : aX d iX7_init 72 (ls) (.int y :: .int x :: st) σ Q ↔ aX d iX7_init 73 (ls) (.int (x * y) :: st) σ Q := X_imul kX7_init_72
theorem kX7_init_73 : aCode iX7_init 73 = some (.bipush 37, 2) := by decide +kernel
theorem sX7_init_73 {d : Nat} {σ : aS} {Q : aQ} {ls : aL} {st : List Value} : aX d iX7_init 73 (ls) (st) σ Q ↔ aX d iX7_init 75 (ls) (.int (nI 37) :: st) σ Q := X_bipush kX7_init_73 (by decide +kernel)
theorem kX7_init_75 : aCode iX7_init 75 = some (.imul, 1) := by decide +kernel
theorem sX7_init_75 {d : Nat} {σ : aS} {Q : aQ} {x y : Int32} {ls : aL} {st : List Value} : aX d iX7_init 75 (ls) (.int y :: .int x :: st) σ Q ↔ aX d iX7_init 76 (ls) (.int (x * y) :: st) σ Q := X_imul kX7_init_75
theorem kX7_init_76 : aCode iX7_init 76 = some (.iload_n 1, 1) := by decide +kernel
theorem sX7_init_76 {d : Nat} {σ : aS} {Q : aQ} {l0 : Option Value} {x : Int32} {lt : aL} {st : List Value} : aX d iX7_init 76 (l0 :: some (.int x) :: lt) (st) σ Q ↔ aX d iX7_init 77 (l0 :: some (.int x) :: lt) (.int x :: st) σ Q := X_iloadn kX7_init_76 rfl
theorem kX7_init_77 : aCode iX7_init 77 = some (.bipush 113, 2) := by decide +kernel
theorem sX7_init_77 {d : Nat} {σ : aS} {Q : aQ} {ls : aL} {st : List Value} : aX d iX7_init 77 (ls) (st) σ Q ↔ aX d iX7_init 79 (ls) (.int (nI 113) :: st) σ Q := X_bipush kX7_init_77 (by decide +kernel)
theorem kX7_init_79 : aCode iX7_init 79 = some (.imul, 1) := by decide +kernel
theorem sX7_init_79 {d : Nat} {σ : aS} {Q : aQ} {x y : Int32} {ls : aL} {st : List Value} : aX d iX7_init 79 (ls) (.int y :: .int x :: st) σ Q ↔ aX d iX7_init 80 (ls) (.int (x * y) :: st) σ Q := X_imul kX7_init_79
theorem kX7_init_80 : aCode iX7_init 80 = some (.iadd, 1) := by decide +kernel
theorem sX7_init_80 {d : Nat} {σ : aS} {Q : aQ} {x y : Int32} {ls : aL} {st : List Value} : aX d iX7_init 80 (ls) (.int y :: .int x :: st) σ Q ↔ aX d iX7_init 81 (ls) (.int (x + y) :: st) σ Q := X_iadd kX7_init_80
theorem kX7_init_81 : aCode iX7_init 81 = some (.iconst 5, 1) := by decide +kernel
theorem sX7_init_81 {d : Nat} {σ : aS} {Q : aQ} {ls : aL} {st : List Value} : aX d iX7_init 81 (ls) (st) σ Q ↔ aX d iX7_init 82 (ls) (.int (nI 5) :: st) σ Q := X_iconst kX7_init_81 (by decide +kernel)
theorem kX7_init_82 : aCode iX7_init 82 = some (.iadd, 1) := by decide +kernel
theorem sX7_init_82 {d : Nat} {σ : aS} {Q : aQ} {x y : Int32} {ls : aL} {st : List Value} : aX d iX7_init 82 (ls) (.int y :: .int x :: st) σ Q ↔ aX d iX7_init 83 (ls) (.int (x + y) :: st) σ Q := X_iadd kX7_init_82
theorem kX7_init_83 : aCode iX7_init 83 = some (.sipush 4096, 3) := by decide +kernel
theorem sX7_init_83 {d : Nat} {σ : aS} {Q : aQ} {ls : aL} {st : List Value} : aX d iX7_init 83 (ls) (st) σ Q ↔ aX d iX7_init 86 (ls) (.int (nI 4096) :: st) σ Q := X_sipush kX7_init_83 (by decide +kernel)
theorem kX7_init_86 : aCode iX7_init 86 = some (.irem, 1) := by decide +kernel
theorem sX7_init_86 {d : Nat} {σ : aS} {Q : aQ} {x y : Int32} {ls : aL} {st : List Value} : aX d iX7_init 86 (ls) (.int y :: .int x :: st) σ Q ↔ ¬ y = nI 0 ∧ aX d iX7_init 87 (ls) (.int (x - x / y * y) :: st) σ Q := X_irem kX7_init_86
theorem kX7_init_87 : aCode iX7_init 87 = some (.iastore, 1) := by decide +kernel
theorem sX7_init_87 {d : Nat} {σ : aS} {Q : aQ} {a : Nat} {i v : Int32} {ls : aL} {st : List Value} : aX d iX7_init 87 (ls) (.int v :: .int i :: .ref a :: st) σ Q ↔ ∃ x, aRow σ a = some x ∧ vp_in i x.1 ∧ aX d iX7_init 88 (ls) (st) (aput σ a (eI x.1 (upd x.2 i.toNatClampNeg v))) Q := X_iastore kX7_init_87
theorem kX7_init_88 : aCode iX7_init 88 = some (.iinc 1 1, 3) := by decide +kernel
theorem sX7_init_88 {d : Nat} {σ : aS} {Q : aQ} {l0 : Option Value} {x : Int32} {lt : aL} {st : List Value} : aX d iX7_init 88 (l0 :: some (.int x) :: lt) (st) σ Q ↔ aX d iX7_init 91 (aclr l0 :: some (.int (x + nI 1)) :: lt) (st) σ Q := X_iinc kX7_init_88 rfl (by decide +kernel)
theorem kX7_init_91 : aCode iX7_init 91 = some (.goto (-34), 3) := by decide +kernel
theorem sX7_init_91 {d : Nat} {σ : aS} {Q : aQ} {ls : aL} {st : List Value} : aX d iX7_init 91 (ls) (st) σ Q ↔ aX d iX7_init 57 (ls) (st) σ Q := X_goto kX7_init_91 (by decide)
theorem kX7_init_94 : aCode iX7_init 94 = some (.iconst 0, 1) := by decide +kernel
theorem sX7_init_94 {d : Nat} {σ : aS} {Q : aQ} {ls : aL} {st : List Value} : aX d iX7_init 94 (ls) (st) σ Q ↔ aX d iX7_init 95 (ls) (.int (nI 0) :: st) σ Q := X_iconst kX7_init_94 (by decide +kernel)
theorem kX7_init_95 : aCode iX7_init 95 = some (.istore_n 1, 1) := by decide +kernel
theorem sX7_init_95 {d : Nat} {σ : aS} {Q : aQ} {l0 lo : Option Value} {x : Int32} {lt : aL} {st : List Value} : aX d iX7_init 95 (l0 :: lo :: lt) (.int x :: st) σ Q ↔ aX d iX7_init 96 (aclr l0 :: some (.int x) :: lt) (st) σ Q := X_istoren kX7_init_95 (by simp only [List.length_cons]; omega)
theorem kX7_init_96 : aCode iX7_init 96 = some (.iload_n 1, 1) := by decide +kernel
theorem sX7_init_96 {d : Nat} {σ : aS} {Q : aQ} {l0 : Option Value} {x : Int32} {lt : aL} {st : List Value} : aX d iX7_init 96 (l0 :: some (.int x) :: lt) (st) σ Q ↔ aX d iX7_init 97 (l0 :: some (.int x) :: lt) (.int x :: st) σ Q := X_iloadn kX7_init_96 rfl
theorem kX7_init_97 : aCode iX7_init 97 = some (.bipush 8, 2) := by decide +kernel
theorem sX7_init_97 {d : Nat} {σ : aS} {Q : aQ} {ls : aL} {st : List Value} : aX d iX7_init 97 (ls) (st) σ Q ↔ aX d iX7_init 99 (ls) (.int (nI 8) :: st) σ Q := X_bipush kX7_init_97 (by decide +kernel)
theorem kX7_init_99 : aCode iX7_init 99 = some (.if_icmp .ge 21, 3) := by decide +kernel
theorem sX7_init_99 {d : Nat} {σ : aS} {Q : aQ} {x y : Int32} {ls : aL} {st : List Value} : aX d iX7_init 99 (ls) (.int y :: .int x :: st) σ Q ↔ (if y ≤ x then aX d iX7_init 120 (ls) (st) σ Q else aX d iX7_init 102 (ls) (st) σ Q) := by rw [X_icmp kX7_init_99 (t := 120) (by decide)]; simp only [aCmp_ge]
theorem kX7_init_102 : aCode iX7_init 102 = some (.aload_n 0, 1) := by decide +kernel
theorem sX7_init_102 {d : Nat} {σ : aS} {Q : aQ} {x : Nat} {lt : aL} {st : List Value} : aX d iX7_init 102 (some (.ref x) :: lt) (st) σ Q ↔ aX d iX7_init 103 (some (.ref x) :: lt) (.ref x :: st) σ Q := X_aloadn kX7_init_102 rfl rfl
theorem kX7_init_103 : aCode iX7_init 103 = some (.getfield 7, 3) := by decide +kernel
theorem sX7_init_103 {d : Nat} {σ : aS} {Q : aQ} {a : Nat} {ls : aL} {st : List Value} : aX d iX7_init 103 (ls) (.ref a :: st) σ Q ↔ ∃ v, aFld σ a 7 0 = some v ∧ aX d iX7_init 106 (ls) (v :: st) σ Q := X_getf (w := 650) kX7_init_103 (by decide +kernel)
theorem kX7_init_106 : aCode iX7_init 106 = some (.bipush 17, 2) := by decide +kernel
theorem sX7_init_106 {d : Nat} {σ : aS} {Q : aQ} {ls : aL} {st : List Value} : aX d iX7_init 106 (ls) (st) σ Q ↔ aX d iX7_init 108 (ls) (.int (nI 17) :: st) σ Q := X_bipush kX7_init_106 (by decide +kernel)
theorem kX7_init_108 : aCode iX7_init 108 = some (.iload_n 1, 1) := by decide +kernel
theorem sX7_init_108 {d : Nat} {σ : aS} {Q : aQ} {l0 : Option Value} {x : Int32} {lt : aL} {st : List Value} : aX d iX7_init 108 (l0 :: some (.int x) :: lt) (st) σ Q ↔ aX d iX7_init 109 (l0 :: some (.int x) :: lt) (.int x :: st) σ Q := X_iloadn kX7_init_108 rfl
theorem kX7_init_109 : aCode iX7_init 109 = some (.iadd, 1) := by decide +kernel
theorem sX7_init_109 {d : Nat} {σ : aS} {Q : aQ} {x y : Int32} {ls : aL} {st : List Value} : aX d iX7_init 109 (ls) (.int y :: .int x :: st) σ Q ↔ aX d iX7_init 110 (ls) (.int (x + y) :: st) σ Q := X_iadd kX7_init_109
theorem kX7_init_110 : aCode iX7_init 110 = some (.sipush 4095, 3) := by decide +kernel
theorem sX7_init_110 {d : Nat} {σ : aS} {Q : aQ} {ls : aL} {st : List Value} : aX d iX7_init 110 (ls) (st) σ Q ↔ aX d iX7_init 113 (ls) (.int (nI 4095) :: st) σ Q := X_sipush kX7_init_110 (by decide +kernel)
theorem kX7_init_113 : aCode iX7_init 113 = some (.iastore, 1) := by decide +kernel
theorem sX7_init_113 {d : Nat} {σ : aS} {Q : aQ} {a : Nat} {i v : Int32} {ls : aL} {st : List Value} : aX d iX7_init 113 (ls) (.int v :: .int i :: .ref a :: st) σ Q ↔ ∃ x, aRow σ a = some x ∧ vp_in i x.1 ∧ aX d iX7_init 114 (ls) (st) (aput σ a (eI x.1 (upd x.2 i.toNatClampNeg v))) Q := X_iastore kX7_init_113
theorem kX7_init_114 : aCode iX7_init 114 = some (.iinc 1 1, 3) := by decide +kernel
theorem sX7_init_114 {d : Nat} {σ : aS} {Q : aQ} {l0 : Option Value} {x : Int32} {lt : aL} {st : List Value} : aX d iX7_init 114 (l0 :: some (.int x) :: lt) (st) σ Q ↔ aX d iX7_init 117 (aclr l0 :: some (.int (x + nI 1)) :: lt) (st) σ Q := X_iinc kX7_init_114 rfl (by decide +kernel)
theorem kX7_init_117 : aCode iX7_init 117 = some (.goto (-21), 3) := by decide +kernel
theorem sX7_init_117 {d : Nat} {σ : aS} {Q : aQ} {ls : aL} {st : List Value} : aX d iX7_init 117 (ls) (st) σ Q ↔ aX d iX7_init 96 (ls) (st) σ Q := X_goto kX7_init_117 (by decide)
theorem kX7_init_120 : aCode iX7_init 120 = some (.return_, 1) := by decide +kernel
theorem sX7_init_120 {d : Nat} {σ : aS} {Q : aQ} {ls : aL} : aX d iX7_init 120 (ls) ([]) σ Q ↔ Q none σ := X_vret kX7_init_120 (by decide +kernel)
theorem kX7_moves_0 : aCode iX7_moves 0 = some (.iconst 0, 1) := by decide +kernel
theorem sX7_moves_0 {d : Nat} {σ : aS} {Q : aQ} {ls : aL} {st : List Value} : aX d iX7_moves 0 (ls) (st) σ Q ↔ aX d iX7_moves 1 (ls) (.int (nI 0) :: st) σ Q := X_iconst kX7_moves_0 (by decide +kernel)
theorem kX7_moves_1 : aCode iX7_moves 1 = some (.istore 4, 2) := by decide +kernel
theorem sX7_moves_1 {d : Nat} {σ : aS} {Q : aQ} {l0 l1 l2 l3 lo : Option Value} {x : Int32} {lt : aL} {st : List Value} : aX d iX7_moves 1 (l0 :: l1 :: l2 :: l3 :: lo :: lt) (.int x :: st) σ Q ↔ aX d iX7_moves 3 (l0 :: l1 :: l2 :: aclr l3 :: some (.int x) :: lt) (st) σ Q := X_istore kX7_moves_1 (by simp only [List.length_cons]; omega)
theorem kX7_moves_3 : aCode iX7_moves 3 = some (.iload 4, 2) := by decide +kernel
theorem sX7_moves_3 {d : Nat} {σ : aS} {Q : aQ} {l0 l1 l2 l3 : Option Value} {x : Int32} {lt : aL} {st : List Value} : aX d iX7_moves 3 (l0 :: l1 :: l2 :: l3 :: some (.int x) :: lt) (st) σ Q ↔ aX d iX7_moves 5 (l0 :: l1 :: l2 :: l3 :: some (.int x) :: lt) (.int x :: st) σ Q := X_iload kX7_moves_3 rfl
theorem kX7_moves_5 : aCode iX7_moves 5 = some (.sipush 371, 3) := by decide +kernel
theorem sX7_moves_5 {d : Nat} {σ : aS} {Q : aQ} {ls : aL} {st : List Value} : aX d iX7_moves 5 (ls) (st) σ Q ↔ aX d iX7_moves 8 (ls) (.int (nI 371) :: st) σ Q := X_sipush kX7_moves_5 (by decide +kernel)
theorem kX7_moves_8 : aCode iX7_moves 8 = some (.if_icmp .ge 21, 3) := by decide +kernel
theorem sX7_moves_8 {d : Nat} {σ : aS} {Q : aQ} {x y : Int32} {ls : aL} {st : List Value} : aX d iX7_moves 8 (ls) (.int y :: .int x :: st) σ Q ↔ (if y ≤ x then aX d iX7_moves 29 (ls) (st) σ Q else aX d iX7_moves 11 (ls) (st) σ Q) := by rw [X_icmp kX7_moves_8 (t := 29) (by decide)]; simp only [aCmp_ge]
theorem kX7_moves_11 : aCode iX7_moves 11 = some (.aload_n 2, 1) := by decide +kernel
theorem sX7_moves_11 {d : Nat} {σ : aS} {Q : aQ} {l0 l1 : Option Value} {x : Nat} {lt : aL} {st : List Value} : aX d iX7_moves 11 (l0 :: l1 :: some (.ref x) :: lt) (st) σ Q ↔ aX d iX7_moves 12 (l0 :: l1 :: some (.ref x) :: lt) (.ref x :: st) σ Q := X_aloadn kX7_moves_11 rfl rfl
theorem sX7_moves_11n {d : Nat} {σ : aS} {Q : aQ} {l0 l1 : Option Value} {lt : aL} {st : List Value} : aX d iX7_moves 11 (l0 :: l1 :: some .null :: lt) (st) σ Q ↔ aX d iX7_moves 12 (l0 :: l1 :: some .null :: lt) (.null :: st) σ Q := X_aloadn kX7_moves_11 rfl rfl
theorem kX7_moves_12 : aCode iX7_moves 12 = some (.iload_n 3, 1) := by decide +kernel
theorem sX7_moves_12 {d : Nat} {σ : aS} {Q : aQ} {l0 l1 l2 : Option Value} {x : Int32} {lt : aL} {st : List Value} : aX d iX7_moves 12 (l0 :: l1 :: l2 :: some (.int x) :: lt) (st) σ Q ↔ aX d iX7_moves 13 (l0 :: l1 :: l2 :: some (.int x) :: lt) (.int x :: st) σ Q := X_iloadn kX7_moves_12 rfl
theorem kX7_moves_13 : aCode iX7_moves 13 = some (.iload 4, 2) := by decide +kernel
theorem sX7_moves_13 {d : Nat} {σ : aS} {Q : aQ} {l0 l1 l2 l3 : Option Value} {x : Int32} {lt : aL} {st : List Value} : aX d iX7_moves 13 (l0 :: l1 :: l2 :: l3 :: some (.int x) :: lt) (st) σ Q ↔ aX d iX7_moves 15 (l0 :: l1 :: l2 :: l3 :: some (.int x) :: lt) (.int x :: st) σ Q := X_iload kX7_moves_13 rfl
theorem kX7_moves_15 : aCode iX7_moves 15 = some (.iadd, 1) := by decide +kernel
theorem sX7_moves_15 {d : Nat} {σ : aS} {Q : aQ} {x y : Int32} {ls : aL} {st : List Value} : aX d iX7_moves 15 (ls) (.int y :: .int x :: st) σ Q ↔ aX d iX7_moves 16 (ls) (.int (x + y) :: st) σ Q := X_iadd kX7_moves_15
theorem kX7_moves_16 : aCode iX7_moves 16 = some (.aload_n 0, 1) := by decide +kernel
theorem sX7_moves_16 {d : Nat} {σ : aS} {Q : aQ} {x : Nat} {lt : aL} {st : List Value} : aX d iX7_moves 16 (some (.ref x) :: lt) (st) σ Q ↔ aX d iX7_moves 17 (some (.ref x) :: lt) (.ref x :: st) σ Q := X_aloadn kX7_moves_16 rfl rfl
theorem kX7_moves_17 : aCode iX7_moves 17 = some (.iload_n 1, 1) := by decide +kernel
theorem sX7_moves_17 {d : Nat} {σ : aS} {Q : aQ} {l0 : Option Value} {x : Int32} {lt : aL} {st : List Value} : aX d iX7_moves 17 (l0 :: some (.int x) :: lt) (st) σ Q ↔ aX d iX7_moves 18 (l0 :: some (.int x) :: lt) (.int x :: st) σ Q := X_iloadn kX7_moves_17 rfl
theorem kX7_moves_18 : aCode iX7_moves 18 = some (.iload 4, 2) := by decide +kernel
theorem sX7_moves_18 {d : Nat} {σ : aS} {Q : aQ} {l0 l1 l2 l3 : Option Value} {x : Int32} {lt : aL} {st : List Value} : aX d iX7_moves 18 (l0 :: l1 :: l2 :: l3 :: some (.int x) :: lt) (st) σ Q ↔ aX d iX7_moves 20 (l0 :: l1 :: l2 :: l3 :: some (.int x) :: lt) (.int x :: st) σ Q := X_iload kX7_moves_18 rfl
theorem kX7_moves_20 : aCode iX7_moves 20 = some (.iadd, 1) := by decide +kernel
theorem sX7_moves_20 {d : Nat} {σ : aS} {Q : aQ} {x y : Int32} {ls : aL} {st : List Value} : aX d iX7_moves 20 (ls) (.int y :: .int x :: st) σ Q ↔ aX d iX7_moves 21 (ls) (.int (x + y) :: st) σ Q := X_iadd kX7_moves_20
theorem kX7_moves_21 : aCode iX7_moves 21 = some (.iaload, 1) := by decide +kernel
theorem sX7_moves_21 {d : Nat} {σ : aS} {Q : aQ} {a : Nat} {i : Int32} {ls : aL} {st : List Value} : aX d iX7_moves 21 (ls) (.int i :: .ref a :: st) σ Q ↔ ∃ x, aRowR σ a = some x ∧ vp_in i x.1 ∧ aX d iX7_moves 22 (ls) (.int (x.2 i.toNatClampNeg) :: st) σ Q := X_iaload kX7_moves_21
theorem kX7_moves_22 : aCode iX7_moves 22 = some (.iastore, 1) := by decide +kernel
theorem sX7_moves_22 {d : Nat} {σ : aS} {Q : aQ} {a : Nat} {i v : Int32} {ls : aL} {st : List Value} : aX d iX7_moves 22 (ls) (.int v :: .int i :: .ref a :: st) σ Q ↔ ∃ x, aRow σ a = some x ∧ vp_in i x.1 ∧ aX d iX7_moves 23 (ls) (st) (aput σ a (eI x.1 (upd x.2 i.toNatClampNeg v))) Q := X_iastore kX7_moves_22
theorem kX7_moves_23 : aCode iX7_moves 23 = some (.iinc 4 1, 3) := by decide +kernel
theorem sX7_moves_23 {d : Nat} {σ : aS} {Q : aQ} {l0 l1 l2 l3 : Option Value} {x : Int32} {lt : aL} {st : List Value} : aX d iX7_moves 23 (l0 :: l1 :: l2 :: l3 :: some (.int x) :: lt) (st) σ Q ↔ aX d iX7_moves 26 (l0 :: l1 :: l2 :: aclr l3 :: some (.int (x + nI 1)) :: lt) (st) σ Q := X_iinc kX7_moves_23 rfl (by decide +kernel)
theorem kX7_moves_26 : aCode iX7_moves 26 = some (.goto (-23), 3) := by decide +kernel
theorem sX7_moves_26 {d : Nat} {σ : aS} {Q : aQ} {ls : aL} {st : List Value} : aX d iX7_moves 26 (ls) (st) σ Q ↔ aX d iX7_moves 3 (ls) (st) σ Q := X_goto kX7_moves_26 (by decide)
theorem kX7_moves_29 : aCode iX7_moves 29 = some (.return_, 1) := by decide +kernel
theorem sX7_moves_29 {d : Nat} {σ : aS} {Q : aQ} {ls : aL} : aX d iX7_moves 29 (ls) ([]) σ Q ↔ Q none σ := X_vret kX7_moves_29 (by decide +kernel)
theorem kX7_within_0 : aCode iX7_within 0 = some (.iload_n 0, 1) := by decide +kernel
theorem sX7_within_0 {d : Nat} {σ : aS} {Q : aQ} {x : Int32} {lt : aL} {st : List Value} : aX d iX7_within 0 (some (.int x) :: lt) (st) σ Q ↔ aX d iX7_within 1 (some (.int x) :: lt) (.int x :: st) σ Q := X_iloadn kX7_within_0 rfl
theorem kX7_within_1 : aCode iX7_within 1 = some (.iload_n 1, 1) := by decide +kernel
theorem sX7_within_1 {d : Nat} {σ : aS} {Q : aQ} {l0 : Option Value} {x : Int32} {lt : aL} {st : List Value} : aX d iX7_within 1 (l0 :: some (.int x) :: lt) (st) σ Q ↔ aX d iX7_within 2 (l0 :: some (.int x) :: lt) (.int x :: st) σ Q := X_iloadn kX7_within_1 rfl
theorem kX7_within_2 : aCode iX7_within 2 = some (.if_icmp .lt 12, 3) := by decide +kernel
theorem sX7_within_2 {d : Nat} {σ : aS} {Q : aQ} {x y : Int32} {ls : aL} {st : List Value} : aX d iX7_within 2 (ls) (.int y :: .int x :: st) σ Q ↔ (if x < y then aX d iX7_within 14 (ls) (st) σ Q else aX d iX7_within 5 (ls) (st) σ Q) := by rw [X_icmp kX7_within_2 (t := 14) (by decide)]; simp only [aCmp_lt]
theorem kX7_within_5 : aCode iX7_within 5 = some (.iload_n 0, 1) := by decide +kernel
theorem sX7_within_5 {d : Nat} {σ : aS} {Q : aQ} {x : Int32} {lt : aL} {st : List Value} : aX d iX7_within 5 (some (.int x) :: lt) (st) σ Q ↔ aX d iX7_within 6 (some (.int x) :: lt) (.int x :: st) σ Q := X_iloadn kX7_within_5 rfl
theorem kX7_within_6 : aCode iX7_within 6 = some (.iload_n 2, 1) := by decide +kernel
theorem sX7_within_6 {d : Nat} {σ : aS} {Q : aQ} {l0 l1 : Option Value} {x : Int32} {lt : aL} {st : List Value} : aX d iX7_within 6 (l0 :: l1 :: some (.int x) :: lt) (st) σ Q ↔ aX d iX7_within 7 (l0 :: l1 :: some (.int x) :: lt) (.int x :: st) σ Q := X_iloadn kX7_within_6 rfl
theorem kX7_within_7 : aCode iX7_within 7 = some (.if_icmp .gt 7, 3) := by decide +kernel
theorem sX7_within_7 {d : Nat} {σ : aS} {Q : aQ} {x y : Int32} {ls : aL} {st : List Value} : aX d iX7_within 7 (ls) (.int y :: .int x :: st) σ Q ↔ (if y < x then aX d iX7_within 14 (ls) (st) σ Q else aX d iX7_within 10 (ls) (st) σ Q) := by rw [X_icmp kX7_within_7 (t := 14) (by decide)]; simp only [aCmp_gt]
theorem kX7_within_10 : aCode iX7_within 10 = some (.iconst 1, 1) := by decide +kernel
theorem sX7_within_10 {d : Nat} {σ : aS} {Q : aQ} {ls : aL} {st : List Value} : aX d iX7_within 10 (ls) (st) σ Q ↔ aX d iX7_within 11 (ls) (.int (nI 1) :: st) σ Q := X_iconst kX7_within_10 (by decide +kernel)
theorem kX7_within_11 : aCode iX7_within 11 = some (.goto 4, 3) := by decide +kernel
theorem sX7_within_11 {d : Nat} {σ : aS} {Q : aQ} {ls : aL} {st : List Value} : aX d iX7_within 11 (ls) (st) σ Q ↔ aX d iX7_within 15 (ls) (st) σ Q := X_goto kX7_within_11 (by decide)
theorem kX7_within_14 : aCode iX7_within 14 = some (.iconst 0, 1) := by decide +kernel
theorem sX7_within_14 {d : Nat} {σ : aS} {Q : aQ} {ls : aL} {st : List Value} : aX d iX7_within 14 (ls) (st) σ Q ↔ aX d iX7_within 15 (ls) (.int (nI 0) :: st) σ Q := X_iconst kX7_within_14 (by decide +kernel)
theorem kX7_within_15 : aCode iX7_within 15 = some (.ireturn, 1) := by decide +kernel
theorem sX7_within_15 {d : Nat} {σ : aS} {Q : aQ} {v : Int32} {ls : aL} : aX d iX7_within 15 (ls) ([.int v]) σ Q ↔ (narrow .boolean (.int v) = .int v ∧ Q (some (.int v)) σ) := X_zret kX7_within_15 (by decide +kernel)
theorem kX7_record_0 : aCode iX7_record 0 = some (.aload_n 0, 1) := by decide +kernel
theorem sX7_record_0 {d : Nat} {σ : aS} {Q : aQ} {x : Nat} {lt : aL} {st : List Value} : aX d iX7_record 0 (some (.ref x) :: lt) (st) σ Q ↔ aX d iX7_record 1 (some (.ref x) :: lt) (.ref x :: st) σ Q := X_aloadn kX7_record_0 rfl rfl
theorem kX7_record_1 : aCode iX7_record 1 = some (.getfield 28, 3) := by decide +kernel
theorem sX7_record_1 {d : Nat} {σ : aS} {Q : aQ} {a : Nat} {ls : aL} {st : List Value} : aX d iX7_record 1 (ls) (.ref a :: st) σ Q ↔ ∃ v, aFld σ a 7 3 = some v ∧ aX d iX7_record 4 (ls) (v :: st) σ Q := X_getf (w := 653) kX7_record_1 (by decide +kernel)
theorem kX7_record_4 : aCode iX7_record 4 = some (.bipush 6, 2) := by decide +kernel
theorem sX7_record_4 {d : Nat} {σ : aS} {Q : aQ} {ls : aL} {st : List Value} : aX d iX7_record 4 (ls) (st) σ Q ↔ aX d iX7_record 6 (ls) (.int (nI 6) :: st) σ Q := X_bipush kX7_record_4 (by decide +kernel)
theorem kX7_record_6 : aCode iX7_record 6 = some (.if_icmp .ne 44, 3) := by decide +kernel
theorem sX7_record_6 {d : Nat} {σ : aS} {Q : aQ} {x y : Int32} {ls : aL} {st : List Value} : aX d iX7_record 6 (ls) (.int y :: .int x :: st) σ Q ↔ (if ¬ x = y then aX d iX7_record 50 (ls) (st) σ Q else aX d iX7_record 9 (ls) (st) σ Q) := by rw [X_icmp kX7_record_6 (t := 50) (by decide)]; simp only [aCmp_ne]
theorem kX7_record_9 : aCode iX7_record 9 = some (.iconst 0, 1) := by decide +kernel
theorem sX7_record_9 {d : Nat} {σ : aS} {Q : aQ} {ls : aL} {st : List Value} : aX d iX7_record 9 (ls) (st) σ Q ↔ aX d iX7_record 10 (ls) (.int (nI 0) :: st) σ Q := X_iconst kX7_record_9 (by decide +kernel)
theorem kX7_record_10 : aCode iX7_record 10 = some (.istore_n 1, 1) := by decide +kernel
theorem sX7_record_10 {d : Nat} {σ : aS} {Q : aQ} {l0 lo : Option Value} {x : Int32} {lt : aL} {st : List Value} : aX d iX7_record 10 (l0 :: lo :: lt) (.int x :: st) σ Q ↔ aX d iX7_record 11 (aclr l0 :: some (.int x) :: lt) (st) σ Q := X_istoren kX7_record_10 (by simp only [List.length_cons]; omega)
theorem kX7_record_11 : aCode iX7_record 11 = some (.iload_n 1, 1) := by decide +kernel
theorem sX7_record_11 {d : Nat} {σ : aS} {Q : aQ} {l0 : Option Value} {x : Int32} {lt : aL} {st : List Value} : aX d iX7_record 11 (l0 :: some (.int x) :: lt) (st) σ Q ↔ aX d iX7_record 12 (l0 :: some (.int x) :: lt) (.int x :: st) σ Q := X_iloadn kX7_record_11 rfl
theorem kX7_record_12 : aCode iX7_record 12 = some (.sipush 1855, 3) := by decide +kernel
theorem sX7_record_12 {d : Nat} {σ : aS} {Q : aQ} {ls : aL} {st : List Value} : aX d iX7_record 12 (ls) (st) σ Q ↔ aX d iX7_record 15 (ls) (.int (nI 1855) :: st) σ Q := X_sipush kX7_record_12 (by decide +kernel)
theorem kX7_record_15 : aCode iX7_record 15 = some (.if_icmp .ge 25, 3) := by decide +kernel
theorem sX7_record_15 {d : Nat} {σ : aS} {Q : aQ} {x y : Int32} {ls : aL} {st : List Value} : aX d iX7_record 15 (ls) (.int y :: .int x :: st) σ Q ↔ (if y ≤ x then aX d iX7_record 40 (ls) (st) σ Q else aX d iX7_record 18 (ls) (st) σ Q) := by rw [X_icmp kX7_record_15 (t := 40) (by decide)]; simp only [aCmp_ge]
theorem kX7_record_18 : aCode iX7_record 18 = some (.aload_n 0, 1) := by decide +kernel
theorem sX7_record_18 {d : Nat} {σ : aS} {Q : aQ} {x : Nat} {lt : aL} {st : List Value} : aX d iX7_record 18 (some (.ref x) :: lt) (st) σ Q ↔ aX d iX7_record 19 (some (.ref x) :: lt) (.ref x :: st) σ Q := X_aloadn kX7_record_18 rfl rfl
theorem kX7_record_19 : aCode iX7_record 19 = some (.getfield 16, 3) := by decide +kernel
theorem sX7_record_19 {d : Nat} {σ : aS} {Q : aQ} {a : Nat} {ls : aL} {st : List Value} : aX d iX7_record 19 (ls) (.ref a :: st) σ Q ↔ ∃ v, aFld σ a 7 2 = some v ∧ aX d iX7_record 22 (ls) (v :: st) σ Q := X_getf (w := 652) kX7_record_19 (by decide +kernel)
theorem kX7_record_22 : aCode iX7_record 22 = some (.iload_n 1, 1) := by decide +kernel
theorem sX7_record_22 {d : Nat} {σ : aS} {Q : aQ} {l0 : Option Value} {x : Int32} {lt : aL} {st : List Value} : aX d iX7_record 22 (l0 :: some (.int x) :: lt) (st) σ Q ↔ aX d iX7_record 23 (l0 :: some (.int x) :: lt) (.int x :: st) σ Q := X_iloadn kX7_record_22 rfl
theorem kX7_record_23 : aCode iX7_record 23 = some (.aload_n 0, 1) := by decide +kernel
theorem sX7_record_23 {d : Nat} {σ : aS} {Q : aQ} {x : Nat} {lt : aL} {st : List Value} : aX d iX7_record 23 (some (.ref x) :: lt) (st) σ Q ↔ aX d iX7_record 24 (some (.ref x) :: lt) (.ref x :: st) σ Q := X_aloadn kX7_record_23 rfl rfl
theorem kX7_record_24 : aCode iX7_record 24 = some (.getfield 16, 3) := by decide +kernel
theorem sX7_record_24 {d : Nat} {σ : aS} {Q : aQ} {a : Nat} {ls : aL} {st : List Value} : aX d iX7_record 24 (ls) (.ref a :: st) σ Q ↔ ∃ v, aFld σ a 7 2 = some v ∧ aX d iX7_record 27 (ls) (v :: st) σ Q := X_getf (w := 652) kX7_record_24 (by decide +kernel)
theorem kX7_record_27 : aCode iX7_record 27 = some (.iload_n 1, 1) := by decide +kernel
theorem sX7_record_27 {d : Nat} {σ : aS} {Q : aQ} {l0 : Option Value} {x : Int32} {lt : aL} {st : List Value} : aX d iX7_record 27 (l0 :: some (.int x) :: lt) (st) σ Q ↔ aX d iX7_record 28 (l0 :: some (.int x) :: lt) (.int x :: st) σ Q := X_iloadn kX7_record_27 rfl
theorem kX7_record_28 : aCode iX7_record 28 = some (.sipush 371, 3) := by decide +kernel
theorem sX7_record_28 {d : Nat} {σ : aS} {Q : aQ} {ls : aL} {st : List Value} : aX d iX7_record 28 (ls) (st) σ Q ↔ aX d iX7_record 31 (ls) (.int (nI 371) :: st) σ Q := X_sipush kX7_record_28 (by decide +kernel)
theorem kX7_record_31 : aCode iX7_record 31 = some (.iadd, 1) := by decide +kernel
theorem sX7_record_31 {d : Nat} {σ : aS} {Q : aQ} {x y : Int32} {ls : aL} {st : List Value} : aX d iX7_record 31 (ls) (.int y :: .int x :: st) σ Q ↔ aX d iX7_record 32 (ls) (.int (x + y) :: st) σ Q := X_iadd kX7_record_31
theorem kX7_record_32 : aCode iX7_record 32 = some (.iaload, 1) := by decide +kernel
theorem sX7_record_32 {d : Nat} {σ : aS} {Q : aQ} {a : Nat} {i : Int32} {ls : aL} {st : List Value} : aX d iX7_record 32 (ls) (.int i :: .ref a :: st) σ Q ↔ ∃ x, aRowR σ a = some x ∧ vp_in i x.1 ∧ aX d iX7_record 33 (ls) (.int (x.2 i.toNatClampNeg) :: st) σ Q := X_iaload kX7_record_32
theorem kX7_record_33 : aCode iX7_record 33 = some (.iastore, 1) := by decide +kernel
theorem sX7_record_33 {d : Nat} {σ : aS} {Q : aQ} {a : Nat} {i v : Int32} {ls : aL} {st : List Value} : aX d iX7_record 33 (ls) (.int v :: .int i :: .ref a :: st) σ Q ↔ ∃ x, aRow σ a = some x ∧ vp_in i x.1 ∧ aX d iX7_record 34 (ls) (st) (aput σ a (eI x.1 (upd x.2 i.toNatClampNeg v))) Q := X_iastore kX7_record_33
theorem kX7_record_34 : aCode iX7_record 34 = some (.iinc 1 1, 3) := by decide +kernel
theorem sX7_record_34 {d : Nat} {σ : aS} {Q : aQ} {l0 : Option Value} {x : Int32} {lt : aL} {st : List Value} : aX d iX7_record 34 (l0 :: some (.int x) :: lt) (st) σ Q ↔ aX d iX7_record 37 (aclr l0 :: some (.int (x + nI 1)) :: lt) (st) σ Q := X_iinc kX7_record_34 rfl (by decide +kernel)
theorem kX7_record_37 : aCode iX7_record 37 = some (.goto (-26), 3) := by decide +kernel
theorem sX7_record_37 {d : Nat} {σ : aS} {Q : aQ} {ls : aL} {st : List Value} : aX d iX7_record 37 (ls) (st) σ Q ↔ aX d iX7_record 11 (ls) (st) σ Q := X_goto kX7_record_37 (by decide)
theorem kX7_record_40 : aCode iX7_record 40 = some (.aload_n 0, 1) := by decide +kernel
theorem sX7_record_40 {d : Nat} {σ : aS} {Q : aQ} {x : Nat} {lt : aL} {st : List Value} : aX d iX7_record 40 (some (.ref x) :: lt) (st) σ Q ↔ aX d iX7_record 41 (some (.ref x) :: lt) (.ref x :: st) σ Q := X_aloadn kX7_record_40 rfl rfl
theorem kX7_record_41 : aCode iX7_record 41 = some (.dup, 1) := by decide +kernel
theorem sX7_record_41 {d : Nat} {σ : aS} {Q : aQ} {x : Nat} {ls : aL} {st : List Value} : aX d iX7_record 41 (ls) (.ref x :: st) σ Q ↔ aX d iX7_record 42 (ls) (.ref x :: .ref x :: st) σ Q := X_dup kX7_record_41 rfl
theorem sX7_record_41i {d : Nat} {σ : aS} {Q : aQ} {x : Int32} {ls : aL} {st : List Value} : aX d iX7_record 41 (ls) (.int x :: st) σ Q ↔ aX d iX7_record 42 (ls) (.int x :: .int x :: st) σ Q := X_dup kX7_record_41 rfl
theorem kX7_record_42 : aCode iX7_record 42 = some (.getfield 28, 3) := by decide +kernel
theorem sX7_record_42 {d : Nat} {σ : aS} {Q : aQ} {a : Nat} {ls : aL} {st : List Value} : aX d iX7_record 42 (ls) (.ref a :: st) σ Q ↔ ∃ v, aFld σ a 7 3 = some v ∧ aX d iX7_record 45 (ls) (v :: st) σ Q := X_getf (w := 653) kX7_record_42 (by decide +kernel)
theorem kX7_record_45 : aCode iX7_record 45 = some (.iconst 1, 1) := by decide +kernel
theorem sX7_record_45 {d : Nat} {σ : aS} {Q : aQ} {ls : aL} {st : List Value} : aX d iX7_record 45 (ls) (st) σ Q ↔ aX d iX7_record 46 (ls) (.int (nI 1) :: st) σ Q := X_iconst kX7_record_45 (by decide +kernel)
theorem kX7_record_46 : aCode iX7_record 46 = some (.isub, 1) := by decide +kernel
theorem sX7_record_46 {d : Nat} {σ : aS} {Q : aQ} {x y : Int32} {ls : aL} {st : List Value} : aX d iX7_record 46 (ls) (.int y :: .int x :: st) σ Q ↔ aX d iX7_record 47 (ls) (.int (x - y) :: st) σ Q := X_isub kX7_record_46
theorem kX7_record_47 : aCode iX7_record 47 = some (.putfield 28, 3) := by decide +kernel
theorem sX7_record_47 {d : Nat} {σ : aS} {Q : aQ} {x : Int32} {a : Nat} {ls : aL} {st : List Value} : aX d iX7_record 47 (ls) (.int x :: .ref a :: st) σ Q ↔ ∃ fs, aFds σ a 7 = some fs ∧ 3 < fs.length ∧ aX d iX7_record 50 (ls) (st) (aput σ a (eO 7 (fs.set 3 (.int x)))) Q := X_putf (w := 653) kX7_record_47 (by decide +kernel) (aFit_I (by decide +kernel)) (by decide +kernel)
theorem kX7_record_50 : aCode iX7_record 50 = some (.aload_n 0, 1) := by decide +kernel
theorem sX7_record_50 {d : Nat} {σ : aS} {Q : aQ} {x : Nat} {lt : aL} {st : List Value} : aX d iX7_record 50 (some (.ref x) :: lt) (st) σ Q ↔ aX d iX7_record 51 (some (.ref x) :: lt) (.ref x :: st) σ Q := X_aloadn kX7_record_50 rfl rfl
theorem kX7_record_51 : aCode iX7_record 51 = some (.getfield 7, 3) := by decide +kernel
theorem sX7_record_51 {d : Nat} {σ : aS} {Q : aQ} {a : Nat} {ls : aL} {st : List Value} : aX d iX7_record 51 (ls) (.ref a :: st) σ Q ↔ ∃ v, aFld σ a 7 0 = some v ∧ aX d iX7_record 54 (ls) (v :: st) σ Q := X_getf (w := 650) kX7_record_51 (by decide +kernel)
theorem kX7_record_54 : aCode iX7_record 54 = some (.iconst 0, 1) := by decide +kernel
theorem sX7_record_54 {d : Nat} {σ : aS} {Q : aQ} {ls : aL} {st : List Value} : aX d iX7_record 54 (ls) (st) σ Q ↔ aX d iX7_record 55 (ls) (.int (nI 0) :: st) σ Q := X_iconst kX7_record_54 (by decide +kernel)
theorem kX7_record_55 : aCode iX7_record 55 = some (.aload_n 0, 1) := by decide +kernel
theorem sX7_record_55 {d : Nat} {σ : aS} {Q : aQ} {x : Nat} {lt : aL} {st : List Value} : aX d iX7_record 55 (some (.ref x) :: lt) (st) σ Q ↔ aX d iX7_record 56 (some (.ref x) :: lt) (.ref x :: st) σ Q := X_aloadn kX7_record_55 rfl rfl
theorem kX7_record_56 : aCode iX7_record 56 = some (.getfield 16, 3) := by decide +kernel
theorem sX7_record_56 {d : Nat} {σ : aS} {Q : aQ} {a : Nat} {ls : aL} {st : List Value} : aX d iX7_record 56 (ls) (.ref a :: st) σ Q ↔ ∃ v, aFld σ a 7 2 = some v ∧ aX d iX7_record 59 (ls) (v :: st) σ Q := X_getf (w := 652) kX7_record_56 (by decide +kernel)
theorem kX7_record_59 : aCode iX7_record 59 = some (.aload_n 0, 1) := by decide +kernel
theorem sX7_record_59 {d : Nat} {σ : aS} {Q : aQ} {x : Nat} {lt : aL} {st : List Value} : aX d iX7_record 59 (some (.ref x) :: lt) (st) σ Q ↔ aX d iX7_record 60 (some (.ref x) :: lt) (.ref x :: st) σ Q := X_aloadn kX7_record_59 rfl rfl
theorem kX7_record_60 : aCode iX7_record 60 = some (.getfield 28, 3) := by decide +kernel
theorem sX7_record_60 {d : Nat} {σ : aS} {Q : aQ} {a : Nat} {ls : aL} {st : List Value} : aX d iX7_record 60 (ls) (.ref a :: st) σ Q ↔ ∃ v, aFld σ a 7 3 = some v ∧ aX d iX7_record 63 (ls) (v :: st) σ Q := X_getf (w := 653) kX7_record_60 (by decide +kernel)
theorem kX7_record_63 : aCode iX7_record 63 = some (.sipush 371, 3) := by decide +kernel
theorem sX7_record_63 {d : Nat} {σ : aS} {Q : aQ} {ls : aL} {st : List Value} : aX d iX7_record 63 (ls) (st) σ Q ↔ aX d iX7_record 66 (ls) (.int (nI 371) :: st) σ Q := X_sipush kX7_record_63 (by decide +kernel)
theorem kX7_record_66 : aCode iX7_record 66 = some (.imul, 1) := by decide +kernel
theorem sX7_record_66 {d : Nat} {σ : aS} {Q : aQ} {x y : Int32} {ls : aL} {st : List Value} : aX d iX7_record 66 (ls) (.int y :: .int x :: st) σ Q ↔ aX d iX7_record 67 (ls) (.int (x * y) :: st) σ Q := X_imul kX7_record_66
theorem kX7_record_67 : aCode iX7_record 67 = some (.invokestatic 32, 3) := by decide +kernel
theorem sX7_record_67 {d : Nat} {σ : aS} {Q : aQ} {p0 : Nat} {p1 : Int32} {p2 : Nat} {p3 : Int32} {ls : aL} : aX (d + 1) iX7_record 67 (ls) (.int p3 :: .ref p2 :: .int p1 :: .ref p0 :: []) σ Q ↔ aX d iX7_moves 0 [some (.ref p0), some (.int p1), some (.ref p2), some (.int p3), none] [] σ (fun r τ => aX (d + 1) iX7_record 70 (ls) (aret r ([])) τ Q) := X_invs (N := 4) (As := [.int p3, .ref p2, .int p1, .ref p0]) (k := 1) (w := 701) kX7_record_67 (by decide +kernel) (by decide) (by decide +kernel) rfl rfl (by simp only [List.length_cons, List.length_nil]; omega) (by simp only [List.length_cons, List.length_nil]; omega) rfl (Nat.le_of_ble_eq_true rfl)
theorem kX7_record_70 : aCode iX7_record 70 = some (.aload_n 0, 1) := by decide +kernel
theorem sX7_record_70 {d : Nat} {σ : aS} {Q : aQ} {x : Nat} {lt : aL} {st : List Value} : aX d iX7_record 70 (some (.ref x) :: lt) (st) σ Q ↔ aX d iX7_record 71 (some (.ref x) :: lt) (.ref x :: st) σ Q := X_aloadn kX7_record_70 rfl rfl
theorem kX7_record_71 : aCode iX7_record 71 = some (.dup, 1) := by decide +kernel
theorem sX7_record_71 {d : Nat} {σ : aS} {Q : aQ} {x : Nat} {ls : aL} {st : List Value} : aX d iX7_record 71 (ls) (.ref x :: st) σ Q ↔ aX d iX7_record 72 (ls) (.ref x :: .ref x :: st) σ Q := X_dup kX7_record_71 rfl
theorem sX7_record_71i {d : Nat} {σ : aS} {Q : aQ} {x : Int32} {ls : aL} {st : List Value} : aX d iX7_record 71 (ls) (.int x :: st) σ Q ↔ aX d iX7_record 72 (ls) (.int x :: .int x :: st) σ Q := X_dup kX7_record_71 rfl
theorem kX7_record_72 : aCode iX7_record 72 = some (.getfield 28, 3) := by decide +kernel
theorem sX7_record_72 {d : Nat} {σ : aS} {Q : aQ} {a : Nat} {ls : aL} {st : List Value} : aX d iX7_record 72 (ls) (.ref a :: st) σ Q ↔ ∃ v, aFld σ a 7 3 = some v ∧ aX d iX7_record 75 (ls) (v :: st) σ Q := X_getf (w := 653) kX7_record_72 (by decide +kernel)
theorem kX7_record_75 : aCode iX7_record 75 = some (.iconst 1, 1) := by decide +kernel
theorem sX7_record_75 {d : Nat} {σ : aS} {Q : aQ} {ls : aL} {st : List Value} : aX d iX7_record 75 (ls) (st) σ Q ↔ aX d iX7_record 76 (ls) (.int (nI 1) :: st) σ Q := X_iconst kX7_record_75 (by decide +kernel)
theorem kX7_record_76 : aCode iX7_record 76 = some (.iadd, 1) := by decide +kernel
theorem sX7_record_76 {d : Nat} {σ : aS} {Q : aQ} {x y : Int32} {ls : aL} {st : List Value} : aX d iX7_record 76 (ls) (.int y :: .int x :: st) σ Q ↔ aX d iX7_record 77 (ls) (.int (x + y) :: st) σ Q := X_iadd kX7_record_76
theorem kX7_record_77 : aCode iX7_record 77 = some (.putfield 28, 3) := by decide +kernel
theorem sX7_record_77 {d : Nat} {σ : aS} {Q : aQ} {x : Int32} {a : Nat} {ls : aL} {st : List Value} : aX d iX7_record 77 (ls) (.int x :: .ref a :: st) σ Q ↔ ∃ fs, aFds σ a 7 = some fs ∧ 3 < fs.length ∧ aX d iX7_record 80 (ls) (st) (aput σ a (eO 7 (fs.set 3 (.int x)))) Q := X_putf (w := 653) kX7_record_77 (by decide +kernel) (aFit_I (by decide +kernel)) (by decide +kernel)
theorem kX7_record_80 : aCode iX7_record 80 = some (.return_, 1) := by decide +kernel
theorem sX7_record_80 {d : Nat} {σ : aS} {Q : aQ} {ls : aL} : aX d iX7_record 80 (ls) ([]) σ Q ↔ Q none σ := X_vret kX7_record_80 (by decide +kernel)
theorem kX7_bits_0 : aCode iX7_bits 0 = some (.iconst 0, 1) := by decide +kernel
theorem sX7_bits_0 {d : Nat} {σ : aS} {Q : aQ} {ls : aL} {st : List Value} : aX d iX7_bits 0 (ls) (st) σ Q ↔ aX d iX7_bits 1 (ls) (.int (nI 0) :: st) σ Q := X_iconst kX7_bits_0 (by decide +kernel)
theorem kX7_bits_1 : aCode iX7_bits 1 = some (.istore_n 1, 1) := by decide +kernel
theorem sX7_bits_1 {d : Nat} {σ : aS} {Q : aQ} {l0 lo : Option Value} {x : Int32} {lt : aL} {st : List Value} : aX d iX7_bits 1 (l0 :: lo :: lt) (.int x :: st) σ Q ↔ aX d iX7_bits 2 (aclr l0 :: some (.int x) :: lt) (st) σ Q := X_istoren kX7_bits_1 (by simp only [List.length_cons]; omega)
theorem kX7_bits_2 : aCode iX7_bits 2 = some (.iconst 0, 1) := by decide +kernel
theorem sX7_bits_2 {d : Nat} {σ : aS} {Q : aQ} {ls : aL} {st : List Value} : aX d iX7_bits 2 (ls) (st) σ Q ↔ aX d iX7_bits 3 (ls) (.int (nI 0) :: st) σ Q := X_iconst kX7_bits_2 (by decide +kernel)
theorem kX7_bits_3 : aCode iX7_bits 3 = some (.istore_n 2, 1) := by decide +kernel
theorem sX7_bits_3 {d : Nat} {σ : aS} {Q : aQ} {l0 l1 lo : Option Value} {x : Int32} {lt : aL} {st : List Value} : aX d iX7_bits 3 (l0 :: l1 :: lo :: lt) (.int x :: st) σ Q ↔ aX d iX7_bits 4 (l0 :: aclr l1 :: some (.int x) :: lt) (st) σ Q := X_istoren kX7_bits_3 (by simp only [List.length_cons]; omega)
theorem kX7_bits_4 : aCode iX7_bits 4 = some (.iload_n 2, 1) := by decide +kernel
theorem sX7_bits_4 {d : Nat} {σ : aS} {Q : aQ} {l0 l1 : Option Value} {x : Int32} {lt : aL} {st : List Value} : aX d iX7_bits 4 (l0 :: l1 :: some (.int x) :: lt) (st) σ Q ↔ aX d iX7_bits 5 (l0 :: l1 :: some (.int x) :: lt) (.int x :: st) σ Q := X_iloadn kX7_bits_4 rfl
theorem kX7_bits_5 : aCode iX7_bits 5 = some (.bipush 12, 2) := by decide +kernel
theorem sX7_bits_5 {d : Nat} {σ : aS} {Q : aQ} {ls : aL} {st : List Value} : aX d iX7_bits 5 (ls) (st) σ Q ↔ aX d iX7_bits 7 (ls) (.int (nI 12) :: st) σ Q := X_bipush kX7_bits_5 (by decide +kernel)
theorem kX7_bits_7 : aCode iX7_bits 7 = some (.if_icmp .ge 17, 3) := by decide +kernel
theorem sX7_bits_7 {d : Nat} {σ : aS} {Q : aQ} {x y : Int32} {ls : aL} {st : List Value} : aX d iX7_bits 7 (ls) (.int y :: .int x :: st) σ Q ↔ (if y ≤ x then aX d iX7_bits 24 (ls) (st) σ Q else aX d iX7_bits 10 (ls) (st) σ Q) := by rw [X_icmp kX7_bits_7 (t := 24) (by decide)]; simp only [aCmp_ge]
theorem kX7_bits_10 : aCode iX7_bits 10 = some (.iload_n 1, 1) := by decide +kernel
theorem sX7_bits_10 {d : Nat} {σ : aS} {Q : aQ} {l0 : Option Value} {x : Int32} {lt : aL} {st : List Value} : aX d iX7_bits 10 (l0 :: some (.int x) :: lt) (st) σ Q ↔ aX d iX7_bits 11 (l0 :: some (.int x) :: lt) (.int x :: st) σ Q := X_iloadn kX7_bits_10 rfl
theorem kX7_bits_11 : aCode iX7_bits 11 = some (.iload_n 0, 1) := by decide +kernel
theorem sX7_bits_11 {d : Nat} {σ : aS} {Q : aQ} {x : Int32} {lt : aL} {st : List Value} : aX d iX7_bits 11 (some (.int x) :: lt) (st) σ Q ↔ aX d iX7_bits 12 (some (.int x) :: lt) (.int x :: st) σ Q := X_iloadn kX7_bits_11 rfl
theorem kX7_bits_12 : aCode iX7_bits 12 = some (.iload_n 2, 1) := by decide +kernel
theorem sX7_bits_12 {d : Nat} {σ : aS} {Q : aQ} {l0 l1 : Option Value} {x : Int32} {lt : aL} {st : List Value} : aX d iX7_bits 12 (l0 :: l1 :: some (.int x) :: lt) (st) σ Q ↔ aX d iX7_bits 13 (l0 :: l1 :: some (.int x) :: lt) (.int x :: st) σ Q := X_iloadn kX7_bits_12 rfl
theorem kX7_bits_13 : aCode iX7_bits 13 = some (.ishr, 1) := by decide +kernel
theorem sX7_bits_13 {d : Nat} {σ : aS} {Q : aQ} {x y : Int32} {ls : aL} {st : List Value} : aX d iX7_bits 13 (ls) (.int y :: .int x :: st) σ Q ↔ aX d iX7_bits 14 (ls) (.int (x >>> (y &&& 31)) :: st) σ Q := X_ishr kX7_bits_13
theorem kX7_bits_14 : aCode iX7_bits 14 = some (.iconst 1, 1) := by decide +kernel
theorem sX7_bits_14 {d : Nat} {σ : aS} {Q : aQ} {ls : aL} {st : List Value} : aX d iX7_bits 14 (ls) (st) σ Q ↔ aX d iX7_bits 15 (ls) (.int (nI 1) :: st) σ Q := X_iconst kX7_bits_14 (by decide +kernel)
theorem kX7_bits_15 : aCode iX7_bits 15 = some (.iand, 1) := by decide +kernel
theorem sX7_bits_15 {d : Nat} {σ : aS} {Q : aQ} {x y : Int32} {ls : aL} {st : List Value} : aX d iX7_bits 15 (ls) (.int y :: .int x :: st) σ Q ↔ aX d iX7_bits 16 (ls) (.int (x &&& y) :: st) σ Q := X_iand kX7_bits_15
theorem kX7_bits_16 : aCode iX7_bits 16 = some (.iadd, 1) := by decide +kernel
theorem sX7_bits_16 {d : Nat} {σ : aS} {Q : aQ} {x y : Int32} {ls : aL} {st : List Value} : aX d iX7_bits 16 (ls) (.int y :: .int x :: st) σ Q ↔ aX d iX7_bits 17 (ls) (.int (x + y) :: st) σ Q := X_iadd kX7_bits_16
theorem kX7_bits_17 : aCode iX7_bits 17 = some (.istore_n 1, 1) := by decide +kernel
theorem sX7_bits_17 {d : Nat} {σ : aS} {Q : aQ} {l0 lo : Option Value} {x : Int32} {lt : aL} {st : List Value} : aX d iX7_bits 17 (l0 :: lo :: lt) (.int x :: st) σ Q ↔ aX d iX7_bits 18 (aclr l0 :: some (.int x) :: lt) (st) σ Q := X_istoren kX7_bits_17 (by simp only [List.length_cons]; omega)
theorem kX7_bits_18 : aCode iX7_bits 18 = some (.iinc 2 1, 3) := by decide +kernel
theorem sX7_bits_18 {d : Nat} {σ : aS} {Q : aQ} {l0 l1 : Option Value} {x : Int32} {lt : aL} {st : List Value} : aX d iX7_bits 18 (l0 :: l1 :: some (.int x) :: lt) (st) σ Q ↔ aX d iX7_bits 21 (l0 :: aclr l1 :: some (.int (x + nI 1)) :: lt) (st) σ Q := X_iinc kX7_bits_18 rfl (by decide +kernel)
theorem kX7_bits_21 : aCode iX7_bits 21 = some (.goto (-17), 3) := by decide +kernel
theorem sX7_bits_21 {d : Nat} {σ : aS} {Q : aQ} {ls : aL} {st : List Value} : aX d iX7_bits 21 (ls) (st) σ Q ↔ aX d iX7_bits 4 (ls) (st) σ Q := X_goto kX7_bits_21 (by decide)
theorem kX7_bits_24 : aCode iX7_bits 24 = some (.iload_n 1, 1) := by decide +kernel
theorem sX7_bits_24 {d : Nat} {σ : aS} {Q : aQ} {l0 : Option Value} {x : Int32} {lt : aL} {st : List Value} : aX d iX7_bits 24 (l0 :: some (.int x) :: lt) (st) σ Q ↔ aX d iX7_bits 25 (l0 :: some (.int x) :: lt) (.int x :: st) σ Q := X_iloadn kX7_bits_24 rfl
theorem kX7_bits_25 : aCode iX7_bits 25 = some (.ireturn, 1) := by decide +kernel
theorem sX7_bits_25 {d : Nat} {σ : aS} {Q : aQ} {v : Int32} {ls : aL} : aX d iX7_bits 25 (ls) ([.int v]) σ Q ↔ Q (some (.int v)) σ := X_iret kX7_bits_25 (by decide +kernel)
theorem kX7_isWord_0 : aCode iX7_isWord 0 = some (.iload_n 0, 1) := by decide +kernel
theorem sX7_isWord_0 {d : Nat} {σ : aS} {Q : aQ} {x : Int32} {lt : aL} {st : List Value} : aX d iX7_isWord 0 (some (.int x) :: lt) (st) σ Q ↔ aX d iX7_isWord 1 (some (.int x) :: lt) (.int x :: st) σ Q := X_iloadn kX7_isWord_0 rfl
theorem kX7_isWord_1 : aCode iX7_isWord 1 = some (.iconst 0, 1) := by decide +kernel
theorem sX7_isWord_1 {d : Nat} {σ : aS} {Q : aQ} {ls : aL} {st : List Value} : aX d iX7_isWord 1 (ls) (st) σ Q ↔ aX d iX7_isWord 2 (ls) (.int (nI 0) :: st) σ Q := X_iconst kX7_isWord_1 (by decide +kernel)
theorem kX7_isWord_2 : aCode iX7_isWord 2 = some (.bipush 15, 2) := by decide +kernel
theorem sX7_isWord_2 {d : Nat} {σ : aS} {Q : aQ} {ls : aL} {st : List Value} : aX d iX7_isWord 2 (ls) (st) σ Q ↔ aX d iX7_isWord 4 (ls) (.int (nI 15) :: st) σ Q := X_bipush kX7_isWord_2 (by decide +kernel)
theorem kX7_isWord_4 : aCode iX7_isWord 4 = some (.invokestatic 36, 3) := by decide +kernel
theorem sX7_isWord_4 {d : Nat} {σ : aS} {Q : aQ} {p0 : Int32} {p1 : Int32} {p2 : Int32} {ls : aL} : aX (d + 1) iX7_isWord 4 (ls) (.int p2 :: .int p1 :: .int p0 :: []) σ Q ↔ aX d iX7_within 0 [some (.int p0), some (.int p1), some (.int p2)] [] σ (fun r τ => aX (d + 1) iX7_isWord 7 (ls) (aret r ([])) τ Q) := X_invs (N := 3) (As := [.int p2, .int p1, .int p0]) (k := 1) (w := 694) kX7_isWord_4 (by decide +kernel) (by decide) (by decide +kernel) rfl rfl (by simp only [List.length_cons, List.length_nil]; omega) (by simp only [List.length_cons, List.length_nil]; omega) rfl (Nat.le_of_ble_eq_true rfl)
theorem kX7_isWord_7 : aCode iX7_isWord 7 = some (.ireturn, 1) := by decide +kernel
theorem sX7_isWord_7 {d : Nat} {σ : aS} {Q : aQ} {v : Int32} {ls : aL} : aX d iX7_isWord 7 (ls) ([.int v]) σ Q ↔ (narrow .boolean (.int v) = .int v ∧ Q (some (.int v)) σ) := X_zret kX7_isWord_7 (by decide +kernel)
theorem kX7_isSeat_0 : aCode iX7_isSeat 0 = some (.iload_n 0, 1) := by decide +kernel
theorem sX7_isSeat_0 {d : Nat} {σ : aS} {Q : aQ} {x : Int32} {lt : aL} {st : List Value} : aX d iX7_isSeat 0 (some (.int x) :: lt) (st) σ Q ↔ aX d iX7_isSeat 1 (some (.int x) :: lt) (.int x :: st) σ Q := X_iloadn kX7_isSeat_0 rfl
theorem kX7_isSeat_1 : aCode iX7_isSeat 1 = some (.iconst 0, 1) := by decide +kernel
theorem sX7_isSeat_1 {d : Nat} {σ : aS} {Q : aQ} {ls : aL} {st : List Value} : aX d iX7_isSeat 1 (ls) (st) σ Q ↔ aX d iX7_isSeat 2 (ls) (.int (nI 0) :: st) σ Q := X_iconst kX7_isSeat_1 (by decide +kernel)
theorem kX7_isSeat_2 : aCode iX7_isSeat 2 = some (.bipush 7, 2) := by decide +kernel
theorem sX7_isSeat_2 {d : Nat} {σ : aS} {Q : aQ} {ls : aL} {st : List Value} : aX d iX7_isSeat 2 (ls) (st) σ Q ↔ aX d iX7_isSeat 4 (ls) (.int (nI 7) :: st) σ Q := X_bipush kX7_isSeat_2 (by decide +kernel)
theorem kX7_isSeat_4 : aCode iX7_isSeat 4 = some (.invokestatic 36, 3) := by decide +kernel
theorem sX7_isSeat_4 {d : Nat} {σ : aS} {Q : aQ} {p0 : Int32} {p1 : Int32} {p2 : Int32} {ls : aL} : aX (d + 1) iX7_isSeat 4 (ls) (.int p2 :: .int p1 :: .int p0 :: []) σ Q ↔ aX d iX7_within 0 [some (.int p0), some (.int p1), some (.int p2)] [] σ (fun r τ => aX (d + 1) iX7_isSeat 7 (ls) (aret r ([])) τ Q) := X_invs (N := 3) (As := [.int p2, .int p1, .int p0]) (k := 1) (w := 694) kX7_isSeat_4 (by decide +kernel) (by decide) (by decide +kernel) rfl rfl (by simp only [List.length_cons, List.length_nil]; omega) (by simp only [List.length_cons, List.length_nil]; omega) rfl (Nat.le_of_ble_eq_true rfl)
theorem kX7_isSeat_7 : aCode iX7_isSeat 7 = some (.ireturn, 1) := by decide +kernel
theorem sX7_isSeat_7 {d : Nat} {σ : aS} {Q : aQ} {v : Int32} {ls : aL} : aX d iX7_isSeat 7 (ls) ([.int v]) σ Q ↔ (narrow .boolean (.int v) = .int v ∧ Q (some (.int v)) σ) := X_zret kX7_isSeat_7 (by decide +kernel)
theorem kX7_isTaken_0 : aCode iX7_isTaken 0 = some (.aload_n 0, 1) := by decide +kernel
theorem sX7_isTaken_0 {d : Nat} {σ : aS} {Q : aQ} {x : Nat} {lt : aL} {st : List Value} : aX d iX7_isTaken 0 (some (.ref x) :: lt) (st) σ Q ↔ aX d iX7_isTaken 1 (some (.ref x) :: lt) (.ref x :: st) σ Q := X_aloadn kX7_isTaken_0 rfl rfl
theorem kX7_isTaken_1 : aCode iX7_isTaken 1 = some (.getfield 7, 3) := by decide +kernel
theorem sX7_isTaken_1 {d : Nat} {σ : aS} {Q : aQ} {a : Nat} {ls : aL} {st : List Value} : aX d iX7_isTaken 1 (ls) (.ref a :: st) σ Q ↔ ∃ v, aFld σ a 7 0 = some v ∧ aX d iX7_isTaken 4 (ls) (v :: st) σ Q := X_getf (w := 650) kX7_isTaken_1 (by decide +kernel)
theorem kX7_isTaken_4 : aCode iX7_isTaken 4 = some (.bipush 16, 2) := by decide +kernel
theorem sX7_isTaken_4 {d : Nat} {σ : aS} {Q : aQ} {ls : aL} {st : List Value} : aX d iX7_isTaken 4 (ls) (st) σ Q ↔ aX d iX7_isTaken 6 (ls) (.int (nI 16) :: st) σ Q := X_bipush kX7_isTaken_4 (by decide +kernel)
theorem kX7_isTaken_6 : aCode iX7_isTaken 6 = some (.iaload, 1) := by decide +kernel
theorem sX7_isTaken_6 {d : Nat} {σ : aS} {Q : aQ} {a : Nat} {i : Int32} {ls : aL} {st : List Value} : aX d iX7_isTaken 6 (ls) (.int i :: .ref a :: st) σ Q ↔ ∃ x, aRowR σ a = some x ∧ vp_in i x.1 ∧ aX d iX7_isTaken 7 (ls) (.int (x.2 i.toNatClampNeg) :: st) σ Q := X_iaload kX7_isTaken_6
theorem kX7_isTaken_7 : aCode iX7_isTaken 7 = some (.iload_n 1, 1) := by decide +kernel
theorem sX7_isTaken_7 {d : Nat} {σ : aS} {Q : aQ} {l0 : Option Value} {x : Int32} {lt : aL} {st : List Value} : aX d iX7_isTaken 7 (l0 :: some (.int x) :: lt) (st) σ Q ↔ aX d iX7_isTaken 8 (l0 :: some (.int x) :: lt) (.int x :: st) σ Q := X_iloadn kX7_isTaken_7 rfl
theorem kX7_isTaken_8 : aCode iX7_isTaken 8 = some (.ishr, 1) := by decide +kernel
theorem sX7_isTaken_8 {d : Nat} {σ : aS} {Q : aQ} {x y : Int32} {ls : aL} {st : List Value} : aX d iX7_isTaken 8 (ls) (.int y :: .int x :: st) σ Q ↔ aX d iX7_isTaken 9 (ls) (.int (x >>> (y &&& 31)) :: st) σ Q := X_ishr kX7_isTaken_8
theorem kX7_isTaken_9 : aCode iX7_isTaken 9 = some (.iconst 1, 1) := by decide +kernel
theorem sX7_isTaken_9 {d : Nat} {σ : aS} {Q : aQ} {ls : aL} {st : List Value} : aX d iX7_isTaken 9 (ls) (st) σ Q ↔ aX d iX7_isTaken 10 (ls) (.int (nI 1) :: st) σ Q := X_iconst kX7_isTaken_9 (by decide +kernel)
theorem kX7_isTaken_10 : aCode iX7_isTaken 10 = some (.iand, 1) := by decide +kernel
theorem sX7_isTaken_10 {d : Nat} {σ : aS} {Q : aQ} {x y : Int32} {ls : aL} {st : List Value} : aX d iX7_isTaken 10 (ls) (.int y :: .int x :: st) σ Q ↔ aX d iX7_isTaken 11 (ls) (.int (x &&& y) :: st) σ Q := X_iand kX7_isTaken_10
theorem kX7_isTaken_11 : aCode iX7_isTaken 11 = some (.iconst 1, 1) := by decide +kernel
theorem sX7_isTaken_11 {d : Nat} {σ : aS} {Q : aQ} {ls : aL} {st : List Value} : aX d iX7_isTaken 11 (ls) (st) σ Q ↔ aX d iX7_isTaken 12 (ls) (.int (nI 1) :: st) σ Q := X_iconst kX7_isTaken_11 (by decide +kernel)
theorem kX7_isTaken_12 : aCode iX7_isTaken 12 = some (.if_icmp .ne 7, 3) := by decide +kernel
theorem sX7_isTaken_12 {d : Nat} {σ : aS} {Q : aQ} {x y : Int32} {ls : aL} {st : List Value} : aX d iX7_isTaken 12 (ls) (.int y :: .int x :: st) σ Q ↔ (if ¬ x = y then aX d iX7_isTaken 19 (ls) (st) σ Q else aX d iX7_isTaken 15 (ls) (st) σ Q) := by rw [X_icmp kX7_isTaken_12 (t := 19) (by decide)]; simp only [aCmp_ne]
theorem kX7_isTaken_15 : aCode iX7_isTaken 15 = some (.iconst 1, 1) := by decide +kernel
theorem sX7_isTaken_15 {d : Nat} {σ : aS} {Q : aQ} {ls : aL} {st : List Value} : aX d iX7_isTaken 15 (ls) (st) σ Q ↔ aX d iX7_isTaken 16 (ls) (.int (nI 1) :: st) σ Q := X_iconst kX7_isTaken_15 (by decide +kernel)
theorem kX7_isTaken_16 : aCode iX7_isTaken 16 = some (.goto 4, 3) := by decide +kernel
theorem sX7_isTaken_16 {d : Nat} {σ : aS} {Q : aQ} {ls : aL} {st : List Value} : aX d iX7_isTaken 16 (ls) (st) σ Q ↔ aX d iX7_isTaken 20 (ls) (st) σ Q := X_goto kX7_isTaken_16 (by decide)
theorem kX7_isTaken_19 : aCode iX7_isTaken 19 = some (.iconst 0, 1) := by decide +kernel
theorem sX7_isTaken_19 {d : Nat} {σ : aS} {Q : aQ} {ls : aL} {st : List Value} : aX d iX7_isTaken 19 (ls) (st) σ Q ↔ aX d iX7_isTaken 20 (ls) (.int (nI 0) :: st) σ Q := X_iconst kX7_isTaken_19 (by decide +kernel)
theorem kX7_isTaken_20 : aCode iX7_isTaken 20 = some (.ireturn, 1) := by decide +kernel
theorem sX7_isTaken_20 {d : Nat} {σ : aS} {Q : aQ} {v : Int32} {ls : aL} : aX d iX7_isTaken 20 (ls) ([.int v]) σ Q ↔ (narrow .boolean (.int v) = .int v ∧ Q (some (.int v)) σ) := X_zret kX7_isTaken_20 (by decide +kernel)
theorem kX7_isAlbum_0 : aCode iX7_isAlbum 0 = some (.iload_n 1, 1) := by decide +kernel
theorem sX7_isAlbum_0 {d : Nat} {σ : aS} {Q : aQ} {l0 : Option Value} {x : Int32} {lt : aL} {st : List Value} : aX d iX7_isAlbum 0 (l0 :: some (.int x) :: lt) (st) σ Q ↔ aX d iX7_isAlbum 1 (l0 :: some (.int x) :: lt) (.int x :: st) σ Q := X_iloadn kX7_isAlbum_0 rfl
theorem kX7_isAlbum_1 : aCode iX7_isAlbum 1 = some (.iconst 0, 1) := by decide +kernel
theorem sX7_isAlbum_1 {d : Nat} {σ : aS} {Q : aQ} {ls : aL} {st : List Value} : aX d iX7_isAlbum 1 (ls) (st) σ Q ↔ aX d iX7_isAlbum 2 (ls) (.int (nI 0) :: st) σ Q := X_iconst kX7_isAlbum_1 (by decide +kernel)
theorem kX7_isAlbum_2 : aCode iX7_isAlbum 2 = some (.aload_n 0, 1) := by decide +kernel
theorem sX7_isAlbum_2 {d : Nat} {σ : aS} {Q : aQ} {x : Nat} {lt : aL} {st : List Value} : aX d iX7_isAlbum 2 (some (.ref x) :: lt) (st) σ Q ↔ aX d iX7_isAlbum 3 (some (.ref x) :: lt) (.ref x :: st) σ Q := X_aloadn kX7_isAlbum_2 rfl rfl
theorem kX7_isAlbum_3 : aCode iX7_isAlbum 3 = some (.getfield 7, 3) := by decide +kernel
theorem sX7_isAlbum_3 {d : Nat} {σ : aS} {Q : aQ} {a : Nat} {ls : aL} {st : List Value} : aX d iX7_isAlbum 3 (ls) (.ref a :: st) σ Q ↔ ∃ v, aFld σ a 7 0 = some v ∧ aX d iX7_isAlbum 6 (ls) (v :: st) σ Q := X_getf (w := 650) kX7_isAlbum_3 (by decide +kernel)
theorem kX7_isAlbum_6 : aCode iX7_isAlbum 6 = some (.bipush 34, 2) := by decide +kernel
theorem sX7_isAlbum_6 {d : Nat} {σ : aS} {Q : aQ} {ls : aL} {st : List Value} : aX d iX7_isAlbum 6 (ls) (st) σ Q ↔ aX d iX7_isAlbum 8 (ls) (.int (nI 34) :: st) σ Q := X_bipush kX7_isAlbum_6 (by decide +kernel)
theorem kX7_isAlbum_8 : aCode iX7_isAlbum 8 = some (.iaload, 1) := by decide +kernel
theorem sX7_isAlbum_8 {d : Nat} {σ : aS} {Q : aQ} {a : Nat} {i : Int32} {ls : aL} {st : List Value} : aX d iX7_isAlbum 8 (ls) (.int i :: .ref a :: st) σ Q ↔ ∃ x, aRowR σ a = some x ∧ vp_in i x.1 ∧ aX d iX7_isAlbum 9 (ls) (.int (x.2 i.toNatClampNeg) :: st) σ Q := X_iaload kX7_isAlbum_8
theorem kX7_isAlbum_9 : aCode iX7_isAlbum 9 = some (.iconst 1, 1) := by decide +kernel
theorem sX7_isAlbum_9 {d : Nat} {σ : aS} {Q : aQ} {ls : aL} {st : List Value} : aX d iX7_isAlbum 9 (ls) (st) σ Q ↔ aX d iX7_isAlbum 10 (ls) (.int (nI 1) :: st) σ Q := X_iconst kX7_isAlbum_9 (by decide +kernel)
theorem kX7_isAlbum_10 : aCode iX7_isAlbum 10 = some (.isub, 1) := by decide +kernel
theorem sX7_isAlbum_10 {d : Nat} {σ : aS} {Q : aQ} {x y : Int32} {ls : aL} {st : List Value} : aX d iX7_isAlbum 10 (ls) (.int y :: .int x :: st) σ Q ↔ aX d iX7_isAlbum 11 (ls) (.int (x - y) :: st) σ Q := X_isub kX7_isAlbum_10
theorem kX7_isAlbum_11 : aCode iX7_isAlbum 11 = some (.invokestatic 36, 3) := by decide +kernel
theorem sX7_isAlbum_11 {d : Nat} {σ : aS} {Q : aQ} {p0 : Int32} {p1 : Int32} {p2 : Int32} {ls : aL} : aX (d + 1) iX7_isAlbum 11 (ls) (.int p2 :: .int p1 :: .int p0 :: []) σ Q ↔ aX d iX7_within 0 [some (.int p0), some (.int p1), some (.int p2)] [] σ (fun r τ => aX (d + 1) iX7_isAlbum 14 (ls) (aret r ([])) τ Q) := X_invs (N := 3) (As := [.int p2, .int p1, .int p0]) (k := 1) (w := 694) kX7_isAlbum_11 (by decide +kernel) (by decide) (by decide +kernel) rfl rfl (by simp only [List.length_cons, List.length_nil]; omega) (by simp only [List.length_cons, List.length_nil]; omega) rfl (Nat.le_of_ble_eq_true rfl)
theorem kX7_isAlbum_14 : aCode iX7_isAlbum 14 = some (.ireturn, 1) := by decide +kernel
theorem sX7_isAlbum_14 {d : Nat} {σ : aS} {Q : aQ} {v : Int32} {ls : aL} : aX d iX7_isAlbum 14 (ls) ([.int v]) σ Q ↔ (narrow .boolean (.int v) = .int v ∧ Q (some (.int v)) σ) := X_zret kX7_isAlbum_14 (by decide +kernel)
theorem kX7_part_0 : aCode iX7_part 0 = some (.aload_n 0, 1) := by decide +kernel
theorem sX7_part_0 {d : Nat} {σ : aS} {Q : aQ} {x : Nat} {lt : aL} {st : List Value} : aX d iX7_part 0 (some (.ref x) :: lt) (st) σ Q ↔ aX d iX7_part 1 (some (.ref x) :: lt) (.ref x :: st) σ Q := X_aloadn kX7_part_0 rfl rfl
theorem kX7_part_1 : aCode iX7_part 1 = some (.getfield 7, 3) := by decide +kernel
theorem sX7_part_1 {d : Nat} {σ : aS} {Q : aQ} {a : Nat} {ls : aL} {st : List Value} : aX d iX7_part 1 (ls) (.ref a :: st) σ Q ↔ ∃ v, aFld σ a 7 0 = some v ∧ aX d iX7_part 4 (ls) (v :: st) σ Q := X_getf (w := 650) kX7_part_1 (by decide +kernel)
theorem kX7_part_4 : aCode iX7_part 4 = some (.bipush 35, 2) := by decide +kernel
theorem sX7_part_4 {d : Nat} {σ : aS} {Q : aQ} {ls : aL} {st : List Value} : aX d iX7_part 4 (ls) (st) σ Q ↔ aX d iX7_part 6 (ls) (.int (nI 35) :: st) σ Q := X_bipush kX7_part_4 (by decide +kernel)
theorem kX7_part_6 : aCode iX7_part 6 = some (.bipush 28, 2) := by decide +kernel
theorem sX7_part_6 {d : Nat} {σ : aS} {Q : aQ} {ls : aL} {st : List Value} : aX d iX7_part 6 (ls) (st) σ Q ↔ aX d iX7_part 8 (ls) (.int (nI 28) :: st) σ Q := X_bipush kX7_part_6 (by decide +kernel)
theorem kX7_part_8 : aCode iX7_part 8 = some (.iload_n 1, 1) := by decide +kernel
theorem sX7_part_8 {d : Nat} {σ : aS} {Q : aQ} {l0 : Option Value} {x : Int32} {lt : aL} {st : List Value} : aX d iX7_part 8 (l0 :: some (.int x) :: lt) (st) σ Q ↔ aX d iX7_part 9 (l0 :: some (.int x) :: lt) (.int x :: st) σ Q := X_iloadn kX7_part_8 rfl
theorem kX7_part_9 : aCode iX7_part 9 = some (.imul, 1) := by decide +kernel
theorem sX7_part_9 {d : Nat} {σ : aS} {Q : aQ} {x y : Int32} {ls : aL} {st : List Value} : aX d iX7_part 9 (ls) (.int y :: .int x :: st) σ Q ↔ aX d iX7_part 10 (ls) (.int (x * y) :: st) σ Q := X_imul kX7_part_9
theorem kX7_part_10 : aCode iX7_part 10 = some (.iadd, 1) := by decide +kernel
theorem sX7_part_10 {d : Nat} {σ : aS} {Q : aQ} {x y : Int32} {ls : aL} {st : List Value} : aX d iX7_part 10 (ls) (.int y :: .int x :: st) σ Q ↔ aX d iX7_part 11 (ls) (.int (x + y) :: st) σ Q := X_iadd kX7_part_10
theorem kX7_part_11 : aCode iX7_part 11 = some (.iload_n 2, 1) := by decide +kernel
theorem sX7_part_11 {d : Nat} {σ : aS} {Q : aQ} {l0 l1 : Option Value} {x : Int32} {lt : aL} {st : List Value} : aX d iX7_part 11 (l0 :: l1 :: some (.int x) :: lt) (st) σ Q ↔ aX d iX7_part 12 (l0 :: l1 :: some (.int x) :: lt) (.int x :: st) σ Q := X_iloadn kX7_part_11 rfl
theorem kX7_part_12 : aCode iX7_part 12 = some (.iadd, 1) := by decide +kernel
theorem sX7_part_12 {d : Nat} {σ : aS} {Q : aQ} {x y : Int32} {ls : aL} {st : List Value} : aX d iX7_part 12 (ls) (.int y :: .int x :: st) σ Q ↔ aX d iX7_part 13 (ls) (.int (x + y) :: st) σ Q := X_iadd kX7_part_12
theorem kX7_part_13 : aCode iX7_part 13 = some (.iaload, 1) := by decide +kernel
theorem sX7_part_13 {d : Nat} {σ : aS} {Q : aQ} {a : Nat} {i : Int32} {ls : aL} {st : List Value} : aX d iX7_part 13 (ls) (.int i :: .ref a :: st) σ Q ↔ ∃ x, aRowR σ a = some x ∧ vp_in i x.1 ∧ aX d iX7_part 14 (ls) (.int (x.2 i.toNatClampNeg) :: st) σ Q := X_iaload kX7_part_13
theorem kX7_part_14 : aCode iX7_part 14 = some (.ireturn, 1) := by decide +kernel
theorem sX7_part_14 {d : Nat} {σ : aS} {Q : aQ} {v : Int32} {ls : aL} : aX d iX7_part 14 (ls) ([.int v]) σ Q ↔ Q (some (.int v)) σ := X_iret kX7_part_14 (by decide +kernel)
theorem kX7_setPart_0 : aCode iX7_setPart 0 = some (.aload_n 0, 1) := by decide +kernel
theorem sX7_setPart_0 {d : Nat} {σ : aS} {Q : aQ} {x : Nat} {lt : aL} {st : List Value} : aX d iX7_setPart 0 (some (.ref x) :: lt) (st) σ Q ↔ aX d iX7_setPart 1 (some (.ref x) :: lt) (.ref x :: st) σ Q := X_aloadn kX7_setPart_0 rfl rfl
theorem kX7_setPart_1 : aCode iX7_setPart 1 = some (.getfield 7, 3) := by decide +kernel
theorem sX7_setPart_1 {d : Nat} {σ : aS} {Q : aQ} {a : Nat} {ls : aL} {st : List Value} : aX d iX7_setPart 1 (ls) (.ref a :: st) σ Q ↔ ∃ v, aFld σ a 7 0 = some v ∧ aX d iX7_setPart 4 (ls) (v :: st) σ Q := X_getf (w := 650) kX7_setPart_1 (by decide +kernel)
theorem kX7_setPart_4 : aCode iX7_setPart 4 = some (.bipush 35, 2) := by decide +kernel
theorem sX7_setPart_4 {d : Nat} {σ : aS} {Q : aQ} {ls : aL} {st : List Value} : aX d iX7_setPart 4 (ls) (st) σ Q ↔ aX d iX7_setPart 6 (ls) (.int (nI 35) :: st) σ Q := X_bipush kX7_setPart_4 (by decide +kernel)
theorem kX7_setPart_6 : aCode iX7_setPart 6 = some (.bipush 28, 2) := by decide +kernel
theorem sX7_setPart_6 {d : Nat} {σ : aS} {Q : aQ} {ls : aL} {st : List Value} : aX d iX7_setPart 6 (ls) (st) σ Q ↔ aX d iX7_setPart 8 (ls) (.int (nI 28) :: st) σ Q := X_bipush kX7_setPart_6 (by decide +kernel)
theorem kX7_setPart_8 : aCode iX7_setPart 8 = some (.iload_n 1, 1) := by decide +kernel
theorem sX7_setPart_8 {d : Nat} {σ : aS} {Q : aQ} {l0 : Option Value} {x : Int32} {lt : aL} {st : List Value} : aX d iX7_setPart 8 (l0 :: some (.int x) :: lt) (st) σ Q ↔ aX d iX7_setPart 9 (l0 :: some (.int x) :: lt) (.int x :: st) σ Q := X_iloadn kX7_setPart_8 rfl
theorem kX7_setPart_9 : aCode iX7_setPart 9 = some (.imul, 1) := by decide +kernel
theorem sX7_setPart_9 {d : Nat} {σ : aS} {Q : aQ} {x y : Int32} {ls : aL} {st : List Value} : aX d iX7_setPart 9 (ls) (.int y :: .int x :: st) σ Q ↔ aX d iX7_setPart 10 (ls) (.int (x * y) :: st) σ Q := X_imul kX7_setPart_9
theorem kX7_setPart_10 : aCode iX7_setPart 10 = some (.iadd, 1) := by decide +kernel
theorem sX7_setPart_10 {d : Nat} {σ : aS} {Q : aQ} {x y : Int32} {ls : aL} {st : List Value} : aX d iX7_setPart 10 (ls) (.int y :: .int x :: st) σ Q ↔ aX d iX7_setPart 11 (ls) (.int (x + y) :: st) σ Q := X_iadd kX7_setPart_10
theorem kX7_setPart_11 : aCode iX7_setPart 11 = some (.iload_n 2, 1) := by decide +kernel
theorem sX7_setPart_11 {d : Nat} {σ : aS} {Q : aQ} {l0 l1 : Option Value} {x : Int32} {lt : aL} {st : List Value} : aX d iX7_setPart 11 (l0 :: l1 :: some (.int x) :: lt) (st) σ Q ↔ aX d iX7_setPart 12 (l0 :: l1 :: some (.int x) :: lt) (.int x :: st) σ Q := X_iloadn kX7_setPart_11 rfl
theorem kX7_setPart_12 : aCode iX7_setPart 12 = some (.iadd, 1) := by decide +kernel
theorem sX7_setPart_12 {d : Nat} {σ : aS} {Q : aQ} {x y : Int32} {ls : aL} {st : List Value} : aX d iX7_setPart 12 (ls) (.int y :: .int x :: st) σ Q ↔ aX d iX7_setPart 13 (ls) (.int (x + y) :: st) σ Q := X_iadd kX7_setPart_12
theorem kX7_setPart_13 : aCode iX7_setPart 13 = some (.iload_n 3, 1) := by decide +kernel
theorem sX7_setPart_13 {d : Nat} {σ : aS} {Q : aQ} {l0 l1 l2 : Option Value} {x : Int32} {lt : aL} {st : List Value} : aX d iX7_setPart 13 (l0 :: l1 :: l2 :: some (.int x) :: lt) (st) σ Q ↔ aX d iX7_setPart 14 (l0 :: l1 :: l2 :: some (.int x) :: lt) (.int x :: st) σ Q := X_iloadn kX7_setPart_13 rfl
theorem kX7_setPart_14 : aCode iX7_setPart 14 = some (.iastore, 1) := by decide +kernel
theorem sX7_setPart_14 {d : Nat} {σ : aS} {Q : aQ} {a : Nat} {i v : Int32} {ls : aL} {st : List Value} : aX d iX7_setPart 14 (ls) (.int v :: .int i :: .ref a :: st) σ Q ↔ ∃ x, aRow σ a = some x ∧ vp_in i x.1 ∧ aX d iX7_setPart 15 (ls) (st) (aput σ a (eI x.1 (upd x.2 i.toNatClampNeg v))) Q := X_iastore kX7_setPart_14
theorem kX7_setPart_15 : aCode iX7_setPart 15 = some (.return_, 1) := by decide +kernel
theorem sX7_setPart_15 {d : Nat} {σ : aS} {Q : aQ} {ls : aL} : aX d iX7_setPart 15 (ls) ([]) σ Q ↔ Q none σ := X_vret kX7_setPart_15 (by decide +kernel)
theorem kX7_pagePart_0 : aCode iX7_pagePart 0 = some (.aload_n 0, 1) := by decide +kernel
theorem sX7_pagePart_0 {d : Nat} {σ : aS} {Q : aQ} {x : Nat} {lt : aL} {st : List Value} : aX d iX7_pagePart 0 (some (.ref x) :: lt) (st) σ Q ↔ aX d iX7_pagePart 1 (some (.ref x) :: lt) (.ref x :: st) σ Q := X_aloadn kX7_pagePart_0 rfl rfl
theorem kX7_pagePart_1 : aCode iX7_pagePart 1 = some (.iload_n 1, 1) := by decide +kernel
theorem sX7_pagePart_1 {d : Nat} {σ : aS} {Q : aQ} {l0 : Option Value} {x : Int32} {lt : aL} {st : List Value} : aX d iX7_pagePart 1 (l0 :: some (.int x) :: lt) (st) σ Q ↔ aX d iX7_pagePart 2 (l0 :: some (.int x) :: lt) (.int x :: st) σ Q := X_iloadn kX7_pagePart_1 rfl
theorem kX7_pagePart_2 : aCode iX7_pagePart 2 = some (.iconst 4, 1) := by decide +kernel
theorem sX7_pagePart_2 {d : Nat} {σ : aS} {Q : aQ} {ls : aL} {st : List Value} : aX d iX7_pagePart 2 (ls) (st) σ Q ↔ aX d iX7_pagePart 3 (ls) (.int (nI 4) :: st) σ Q := X_iconst kX7_pagePart_2 (by decide +kernel)
theorem kX7_pagePart_3 : aCode iX7_pagePart 3 = some (.iconst 3, 1) := by decide +kernel
theorem sX7_pagePart_3 {d : Nat} {σ : aS} {Q : aQ} {ls : aL} {st : List Value} : aX d iX7_pagePart 3 (ls) (st) σ Q ↔ aX d iX7_pagePart 4 (ls) (.int (nI 3) :: st) σ Q := X_iconst kX7_pagePart_3 (by decide +kernel)
theorem kX7_pagePart_4 : aCode iX7_pagePart 4 = some (.iload_n 2, 1) := by decide +kernel
theorem sX7_pagePart_4 {d : Nat} {σ : aS} {Q : aQ} {l0 l1 : Option Value} {x : Int32} {lt : aL} {st : List Value} : aX d iX7_pagePart 4 (l0 :: l1 :: some (.int x) :: lt) (st) σ Q ↔ aX d iX7_pagePart 5 (l0 :: l1 :: some (.int x) :: lt) (.int x :: st) σ Q := X_iloadn kX7_pagePart_4 rfl
theorem kX7_pagePart_5 : aCode iX7_pagePart 5 = some (.imul, 1) := by decide +kernel
theorem sX7_pagePart_5 {d : Nat} {σ : aS} {Q : aQ} {x y : Int32} {ls : aL} {st : List Value} : aX d iX7_pagePart 5 (ls) (.int y :: .int x :: st) σ Q ↔ aX d iX7_pagePart 6 (ls) (.int (x * y) :: st) σ Q := X_imul kX7_pagePart_5
theorem kX7_pagePart_6 : aCode iX7_pagePart 6 = some (.iadd, 1) := by decide +kernel
theorem sX7_pagePart_6 {d : Nat} {σ : aS} {Q : aQ} {x y : Int32} {ls : aL} {st : List Value} : aX d iX7_pagePart 6 (ls) (.int y :: .int x :: st) σ Q ↔ aX d iX7_pagePart 7 (ls) (.int (x + y) :: st) σ Q := X_iadd kX7_pagePart_6
theorem kX7_pagePart_7 : aCode iX7_pagePart 7 = some (.iload_n 3, 1) := by decide +kernel
theorem sX7_pagePart_7 {d : Nat} {σ : aS} {Q : aQ} {l0 l1 l2 : Option Value} {x : Int32} {lt : aL} {st : List Value} : aX d iX7_pagePart 7 (l0 :: l1 :: l2 :: some (.int x) :: lt) (st) σ Q ↔ aX d iX7_pagePart 8 (l0 :: l1 :: l2 :: some (.int x) :: lt) (.int x :: st) σ Q := X_iloadn kX7_pagePart_7 rfl
theorem kX7_pagePart_8 : aCode iX7_pagePart 8 = some (.iadd, 1) := by decide +kernel
theorem sX7_pagePart_8 {d : Nat} {σ : aS} {Q : aQ} {x y : Int32} {ls : aL} {st : List Value} : aX d iX7_pagePart 8 (ls) (.int y :: .int x :: st) σ Q ↔ aX d iX7_pagePart 9 (ls) (.int (x + y) :: st) σ Q := X_iadd kX7_pagePart_8
theorem kX7_pagePart_9 : aCode iX7_pagePart 9 = some (.invokevirtual 40, 3) := by decide +kernel
theorem sX7_pagePart_9 {d : Nat} {σ : aS} {Q : aQ} {b : Nat} {p0 : Int32} {p1 : Int32} {ls : aL} : aX (d + 1) iX7_pagePart 9 (ls) (.int p1 :: .int p0 :: .ref b :: []) σ Q ↔ aIs σ b 7 ∧ aX d iX7_part 0 [some (.ref b), some (.int p0), some (.int p1)] [] σ (fun r τ => aX (d + 1) iX7_pagePart 12 (ls) (aret r ([])) τ Q) := X_invv (N := 2) (As := [.int p1, .int p0]) (w := 750) kX7_pagePart_9 (by decide +kernel) (by decide +kernel) rfl rfl (by simp only [List.length_cons, List.length_nil]; omega) (by simp only [List.length_cons, List.length_nil]; omega) (by decide +kernel) rfl (Nat.le_of_ble_eq_true rfl)
theorem kX7_pagePart_12 : aCode iX7_pagePart 12 = some (.ireturn, 1) := by decide +kernel
theorem sX7_pagePart_12 {d : Nat} {σ : aS} {Q : aQ} {v : Int32} {ls : aL} : aX d iX7_pagePart 12 (ls) ([.int v]) σ Q ↔ Q (some (.int v)) σ := X_iret kX7_pagePart_12 (by decide +kernel)
theorem kX7_putPage_0 : aCode iX7_putPage 0 = some (.aload_n 0, 1) := by decide +kernel
theorem sX7_putPage_0 {d : Nat} {σ : aS} {Q : aQ} {x : Nat} {lt : aL} {st : List Value} : aX d iX7_putPage 0 (some (.ref x) :: lt) (st) σ Q ↔ aX d iX7_putPage 1 (some (.ref x) :: lt) (.ref x :: st) σ Q := X_aloadn kX7_putPage_0 rfl rfl
theorem kX7_putPage_1 : aCode iX7_putPage 1 = some (.iload_n 1, 1) := by decide +kernel
theorem sX7_putPage_1 {d : Nat} {σ : aS} {Q : aQ} {l0 : Option Value} {x : Int32} {lt : aL} {st : List Value} : aX d iX7_putPage 1 (l0 :: some (.int x) :: lt) (st) σ Q ↔ aX d iX7_putPage 2 (l0 :: some (.int x) :: lt) (.int x :: st) σ Q := X_iloadn kX7_putPage_1 rfl
theorem kX7_putPage_2 : aCode iX7_putPage 2 = some (.iconst 1, 1) := by decide +kernel
theorem sX7_putPage_2 {d : Nat} {σ : aS} {Q : aQ} {ls : aL} {st : List Value} : aX d iX7_putPage 2 (ls) (st) σ Q ↔ aX d iX7_putPage 3 (ls) (.int (nI 1) :: st) σ Q := X_iconst kX7_putPage_2 (by decide +kernel)
theorem kX7_putPage_3 : aCode iX7_putPage 3 = some (.invokevirtual 40, 3) := by decide +kernel
theorem sX7_putPage_3 {d : Nat} {σ : aS} {Q : aQ} {b : Nat} {p0 : Int32} {p1 : Int32} {ls : aL} : aX (d + 1) iX7_putPage 3 (ls) (.int p1 :: .int p0 :: .ref b :: []) σ Q ↔ aIs σ b 7 ∧ aX d iX7_part 0 [some (.ref b), some (.int p0), some (.int p1)] [] σ (fun r τ => aX (d + 1) iX7_putPage 6 (ls) (aret r ([])) τ Q) := X_invv (N := 2) (As := [.int p1, .int p0]) (w := 750) kX7_putPage_3 (by decide +kernel) (by decide +kernel) rfl rfl (by simp only [List.length_cons, List.length_nil]; omega) (by simp only [List.length_cons, List.length_nil]; omega) (by decide +kernel) rfl (Nat.le_of_ble_eq_true rfl)
theorem kX7_putPage_6 : aCode iX7_putPage 6 = some (.istore 5, 2) := by decide +kernel
theorem sX7_putPage_6 {d : Nat} {σ : aS} {Q : aQ} {l0 l1 l2 l3 l4 lo : Option Value} {x : Int32} {lt : aL} {st : List Value} : aX d iX7_putPage 6 (l0 :: l1 :: l2 :: l3 :: l4 :: lo :: lt) (.int x :: st) σ Q ↔ aX d iX7_putPage 8 (l0 :: l1 :: l2 :: l3 :: aclr l4 :: some (.int x) :: lt) (st) σ Q := X_istore kX7_putPage_6 (by simp only [List.length_cons]; omega)
theorem kX7_putPage_8 : aCode iX7_putPage 8 = some (.aload_n 0, 1) := by decide +kernel
theorem sX7_putPage_8 {d : Nat} {σ : aS} {Q : aQ} {x : Nat} {lt : aL} {st : List Value} : aX d iX7_putPage 8 (some (.ref x) :: lt) (st) σ Q ↔ aX d iX7_putPage 9 (some (.ref x) :: lt) (.ref x :: st) σ Q := X_aloadn kX7_putPage_8 rfl rfl
theorem kX7_putPage_9 : aCode iX7_putPage 9 = some (.iload_n 1, 1) := by decide +kernel
theorem sX7_putPage_9 {d : Nat} {σ : aS} {Q : aQ} {l0 : Option Value} {x : Int32} {lt : aL} {st : List Value} : aX d iX7_putPage 9 (l0 :: some (.int x) :: lt) (st) σ Q ↔ aX d iX7_putPage 10 (l0 :: some (.int x) :: lt) (.int x :: st) σ Q := X_iloadn kX7_putPage_9 rfl
theorem kX7_putPage_10 : aCode iX7_putPage 10 = some (.iconst 4, 1) := by decide +kernel
theorem sX7_putPage_10 {d : Nat} {σ : aS} {Q : aQ} {ls : aL} {st : List Value} : aX d iX7_putPage 10 (ls) (st) σ Q ↔ aX d iX7_putPage 11 (ls) (.int (nI 4) :: st) σ Q := X_iconst kX7_putPage_10 (by decide +kernel)
theorem kX7_putPage_11 : aCode iX7_putPage 11 = some (.iconst 3, 1) := by decide +kernel
theorem sX7_putPage_11 {d : Nat} {σ : aS} {Q : aQ} {ls : aL} {st : List Value} : aX d iX7_putPage 11 (ls) (st) σ Q ↔ aX d iX7_putPage 12 (ls) (.int (nI 3) :: st) σ Q := X_iconst kX7_putPage_11 (by decide +kernel)
theorem kX7_putPage_12 : aCode iX7_putPage 12 = some (.iload 5, 2) := by decide +kernel
theorem sX7_putPage_12 {d : Nat} {σ : aS} {Q : aQ} {l0 l1 l2 l3 l4 : Option Value} {x : Int32} {lt : aL} {st : List Value} : aX d iX7_putPage 12 (l0 :: l1 :: l2 :: l3 :: l4 :: some (.int x) :: lt) (st) σ Q ↔ aX d iX7_putPage 14 (l0 :: l1 :: l2 :: l3 :: l4 :: some (.int x) :: lt) (.int x :: st) σ Q := X_iload kX7_putPage_12 rfl
theorem kX7_putPage_14 : aCode iX7_putPage 14 = some (.imul, 1) := by decide +kernel
theorem sX7_putPage_14 {d : Nat} {σ : aS} {Q : aQ} {x y : Int32} {ls : aL} {st : List Value} : aX d iX7_putPage 14 (ls) (.int y :: .int x :: st) σ Q ↔ aX d iX7_putPage 15 (ls) (.int (x * y) :: st) σ Q := X_imul kX7_putPage_14
theorem kX7_putPage_15 : aCode iX7_putPage 15 = some (.iadd, 1) := by decide +kernel
theorem sX7_putPage_15 {d : Nat} {σ : aS} {Q : aQ} {x y : Int32} {ls : aL} {st : List Value} : aX d iX7_putPage 15 (ls) (.int y :: .int x :: st) σ Q ↔ aX d iX7_putPage 16 (ls) (.int (x + y) :: st) σ Q := X_iadd kX7_putPage_15
theorem kX7_putPage_16 : aCode iX7_putPage 16 = some (.iconst 0, 1) := by decide +kernel
theorem sX7_putPage_16 {d : Nat} {σ : aS} {Q : aQ} {ls : aL} {st : List Value} : aX d iX7_putPage 16 (ls) (st) σ Q ↔ aX d iX7_putPage 17 (ls) (.int (nI 0) :: st) σ Q := X_iconst kX7_putPage_16 (by decide +kernel)
theorem kX7_putPage_17 : aCode iX7_putPage 17 = some (.iadd, 1) := by decide +kernel
theorem sX7_putPage_17 {d : Nat} {σ : aS} {Q : aQ} {x y : Int32} {ls : aL} {st : List Value} : aX d iX7_putPage 17 (ls) (.int y :: .int x :: st) σ Q ↔ aX d iX7_putPage 18 (ls) (.int (x + y) :: st) σ Q := X_iadd kX7_putPage_17
theorem kX7_putPage_18 : aCode iX7_putPage 18 = some (.iload_n 2, 1) := by decide +kernel
theorem sX7_putPage_18 {d : Nat} {σ : aS} {Q : aQ} {l0 l1 : Option Value} {x : Int32} {lt : aL} {st : List Value} : aX d iX7_putPage 18 (l0 :: l1 :: some (.int x) :: lt) (st) σ Q ↔ aX d iX7_putPage 19 (l0 :: l1 :: some (.int x) :: lt) (.int x :: st) σ Q := X_iloadn kX7_putPage_18 rfl
theorem kX7_putPage_19 : aCode iX7_putPage 19 = some (.invokevirtual 44, 3) := by decide +kernel
theorem sX7_putPage_19 {d : Nat} {σ : aS} {Q : aQ} {b : Nat} {p0 : Int32} {p1 : Int32} {p2 : Int32} {ls : aL} : aX (d + 1) iX7_putPage 19 (ls) (.int p2 :: .int p1 :: .int p0 :: .ref b :: []) σ Q ↔ aIs σ b 7 ∧ aX d iX7_setPart 0 [some (.ref b), some (.int p0), some (.int p1), some (.int p2)] [] σ (fun r τ => aX (d + 1) iX7_putPage 22 (ls) (aret r ([])) τ Q) := X_invv (N := 3) (As := [.int p2, .int p1, .int p0]) (w := 766) kX7_putPage_19 (by decide +kernel) (by decide +kernel) rfl rfl (by simp only [List.length_cons, List.length_nil]; omega) (by simp only [List.length_cons, List.length_nil]; omega) (by decide +kernel) rfl (Nat.le_of_ble_eq_true rfl)
theorem kX7_putPage_22 : aCode iX7_putPage 22 = some (.aload_n 0, 1) := by decide +kernel
theorem sX7_putPage_22 {d : Nat} {σ : aS} {Q : aQ} {x : Nat} {lt : aL} {st : List Value} : aX d iX7_putPage 22 (some (.ref x) :: lt) (st) σ Q ↔ aX d iX7_putPage 23 (some (.ref x) :: lt) (.ref x :: st) σ Q := X_aloadn kX7_putPage_22 rfl rfl
theorem kX7_putPage_23 : aCode iX7_putPage 23 = some (.iload_n 1, 1) := by decide +kernel
theorem sX7_putPage_23 {d : Nat} {σ : aS} {Q : aQ} {l0 : Option Value} {x : Int32} {lt : aL} {st : List Value} : aX d iX7_putPage 23 (l0 :: some (.int x) :: lt) (st) σ Q ↔ aX d iX7_putPage 24 (l0 :: some (.int x) :: lt) (.int x :: st) σ Q := X_iloadn kX7_putPage_23 rfl
theorem kX7_putPage_24 : aCode iX7_putPage 24 = some (.iconst 4, 1) := by decide +kernel
theorem sX7_putPage_24 {d : Nat} {σ : aS} {Q : aQ} {ls : aL} {st : List Value} : aX d iX7_putPage 24 (ls) (st) σ Q ↔ aX d iX7_putPage 25 (ls) (.int (nI 4) :: st) σ Q := X_iconst kX7_putPage_24 (by decide +kernel)
theorem kX7_putPage_25 : aCode iX7_putPage 25 = some (.iconst 3, 1) := by decide +kernel
theorem sX7_putPage_25 {d : Nat} {σ : aS} {Q : aQ} {ls : aL} {st : List Value} : aX d iX7_putPage 25 (ls) (st) σ Q ↔ aX d iX7_putPage 26 (ls) (.int (nI 3) :: st) σ Q := X_iconst kX7_putPage_25 (by decide +kernel)
theorem kX7_putPage_26 : aCode iX7_putPage 26 = some (.iload 5, 2) := by decide +kernel
theorem sX7_putPage_26 {d : Nat} {σ : aS} {Q : aQ} {l0 l1 l2 l3 l4 : Option Value} {x : Int32} {lt : aL} {st : List Value} : aX d iX7_putPage 26 (l0 :: l1 :: l2 :: l3 :: l4 :: some (.int x) :: lt) (st) σ Q ↔ aX d iX7_putPage 28 (l0 :: l1 :: l2 :: l3 :: l4 :: some (.int x) :: lt) (.int x :: st) σ Q := X_iload kX7_putPage_26 rfl
theorem kX7_putPage_28 : aCode iX7_putPage 28 = some (.imul, 1) := by decide +kernel
theorem sX7_putPage_28 {d : Nat} {σ : aS} {Q : aQ} {x y : Int32} {ls : aL} {st : List Value} : aX d iX7_putPage 28 (ls) (.int y :: .int x :: st) σ Q ↔ aX d iX7_putPage 29 (ls) (.int (x * y) :: st) σ Q := X_imul kX7_putPage_28
theorem kX7_putPage_29 : aCode iX7_putPage 29 = some (.iadd, 1) := by decide +kernel
theorem sX7_putPage_29 {d : Nat} {σ : aS} {Q : aQ} {x y : Int32} {ls : aL} {st : List Value} : aX d iX7_putPage 29 (ls) (.int y :: .int x :: st) σ Q ↔ aX d iX7_putPage 30 (ls) (.int (x + y) :: st) σ Q := X_iadd kX7_putPage_29
theorem kX7_putPage_30 : aCode iX7_putPage 30 = some (.iconst 1, 1) := by decide +kernel
theorem sX7_putPage_30 {d : Nat} {σ : aS} {Q : aQ} {ls : aL} {st : List Value} : aX d iX7_putPage 30 (ls) (st) σ Q ↔ aX d iX7_putPage 31 (ls) (.int (nI 1) :: st) σ Q := X_iconst kX7_putPage_30 (by decide +kernel)
theorem kX7_putPage_31 : aCode iX7_putPage 31 = some (.iadd, 1) := by decide +kernel
theorem sX7_putPage_31 {d : Nat} {σ : aS} {Q : aQ} {x y : Int32} {ls : aL} {st : List Value} : aX d iX7_putPage 31 (ls) (.int y :: .int x :: st) σ Q ↔ aX d iX7_putPage 32 (ls) (.int (x + y) :: st) σ Q := X_iadd kX7_putPage_31
theorem kX7_putPage_32 : aCode iX7_putPage 32 = some (.iload_n 3, 1) := by decide +kernel
theorem sX7_putPage_32 {d : Nat} {σ : aS} {Q : aQ} {l0 l1 l2 : Option Value} {x : Int32} {lt : aL} {st : List Value} : aX d iX7_putPage 32 (l0 :: l1 :: l2 :: some (.int x) :: lt) (st) σ Q ↔ aX d iX7_putPage 33 (l0 :: l1 :: l2 :: some (.int x) :: lt) (.int x :: st) σ Q := X_iloadn kX7_putPage_32 rfl
theorem kX7_putPage_33 : aCode iX7_putPage 33 = some (.invokevirtual 44, 3) := by decide +kernel
theorem sX7_putPage_33 {d : Nat} {σ : aS} {Q : aQ} {b : Nat} {p0 : Int32} {p1 : Int32} {p2 : Int32} {ls : aL} : aX (d + 1) iX7_putPage 33 (ls) (.int p2 :: .int p1 :: .int p0 :: .ref b :: []) σ Q ↔ aIs σ b 7 ∧ aX d iX7_setPart 0 [some (.ref b), some (.int p0), some (.int p1), some (.int p2)] [] σ (fun r τ => aX (d + 1) iX7_putPage 36 (ls) (aret r ([])) τ Q) := X_invv (N := 3) (As := [.int p2, .int p1, .int p0]) (w := 766) kX7_putPage_33 (by decide +kernel) (by decide +kernel) rfl rfl (by simp only [List.length_cons, List.length_nil]; omega) (by simp only [List.length_cons, List.length_nil]; omega) (by decide +kernel) rfl (Nat.le_of_ble_eq_true rfl)
theorem kX7_putPage_36 : aCode iX7_putPage 36 = some (.aload_n 0, 1) := by decide +kernel
theorem sX7_putPage_36 {d : Nat} {σ : aS} {Q : aQ} {x : Nat} {lt : aL} {st : List Value} : aX d iX7_putPage 36 (some (.ref x) :: lt) (st) σ Q ↔ aX d iX7_putPage 37 (some (.ref x) :: lt) (.ref x :: st) σ Q := X_aloadn kX7_putPage_36 rfl rfl
theorem kX7_putPage_37 : aCode iX7_putPage 37 = some (.iload_n 1, 1) := by decide +kernel
theorem sX7_putPage_37 {d : Nat} {σ : aS} {Q : aQ} {l0 : Option Value} {x : Int32} {lt : aL} {st : List Value} : aX d iX7_putPage 37 (l0 :: some (.int x) :: lt) (st) σ Q ↔ aX d iX7_putPage 38 (l0 :: some (.int x) :: lt) (.int x :: st) σ Q := X_iloadn kX7_putPage_37 rfl
theorem kX7_putPage_38 : aCode iX7_putPage 38 = some (.iconst 4, 1) := by decide +kernel
theorem sX7_putPage_38 {d : Nat} {σ : aS} {Q : aQ} {ls : aL} {st : List Value} : aX d iX7_putPage 38 (ls) (st) σ Q ↔ aX d iX7_putPage 39 (ls) (.int (nI 4) :: st) σ Q := X_iconst kX7_putPage_38 (by decide +kernel)
theorem kX7_putPage_39 : aCode iX7_putPage 39 = some (.iconst 3, 1) := by decide +kernel
theorem sX7_putPage_39 {d : Nat} {σ : aS} {Q : aQ} {ls : aL} {st : List Value} : aX d iX7_putPage 39 (ls) (st) σ Q ↔ aX d iX7_putPage 40 (ls) (.int (nI 3) :: st) σ Q := X_iconst kX7_putPage_39 (by decide +kernel)
theorem kX7_putPage_40 : aCode iX7_putPage 40 = some (.iload 5, 2) := by decide +kernel
theorem sX7_putPage_40 {d : Nat} {σ : aS} {Q : aQ} {l0 l1 l2 l3 l4 : Option Value} {x : Int32} {lt : aL} {st : List Value} : aX d iX7_putPage 40 (l0 :: l1 :: l2 :: l3 :: l4 :: some (.int x) :: lt) (st) σ Q ↔ aX d iX7_putPage 42 (l0 :: l1 :: l2 :: l3 :: l4 :: some (.int x) :: lt) (.int x :: st) σ Q := X_iload kX7_putPage_40 rfl
theorem kX7_putPage_42 : aCode iX7_putPage 42 = some (.imul, 1) := by decide +kernel
theorem sX7_putPage_42 {d : Nat} {σ : aS} {Q : aQ} {x y : Int32} {ls : aL} {st : List Value} : aX d iX7_putPage 42 (ls) (.int y :: .int x :: st) σ Q ↔ aX d iX7_putPage 43 (ls) (.int (x * y) :: st) σ Q := X_imul kX7_putPage_42
theorem kX7_putPage_43 : aCode iX7_putPage 43 = some (.iadd, 1) := by decide +kernel
theorem sX7_putPage_43 {d : Nat} {σ : aS} {Q : aQ} {x y : Int32} {ls : aL} {st : List Value} : aX d iX7_putPage 43 (ls) (.int y :: .int x :: st) σ Q ↔ aX d iX7_putPage 44 (ls) (.int (x + y) :: st) σ Q := X_iadd kX7_putPage_43
theorem kX7_putPage_44 : aCode iX7_putPage 44 = some (.iconst 2, 1) := by decide +kernel
theorem sX7_putPage_44 {d : Nat} {σ : aS} {Q : aQ} {ls : aL} {st : List Value} : aX d iX7_putPage 44 (ls) (st) σ Q ↔ aX d iX7_putPage 45 (ls) (.int (nI 2) :: st) σ Q := X_iconst kX7_putPage_44 (by decide +kernel)
theorem kX7_putPage_45 : aCode iX7_putPage 45 = some (.iadd, 1) := by decide +kernel
theorem sX7_putPage_45 {d : Nat} {σ : aS} {Q : aQ} {x y : Int32} {ls : aL} {st : List Value} : aX d iX7_putPage 45 (ls) (.int y :: .int x :: st) σ Q ↔ aX d iX7_putPage 46 (ls) (.int (x + y) :: st) σ Q := X_iadd kX7_putPage_45
theorem kX7_putPage_46 : aCode iX7_putPage 46 = some (.iload 4, 2) := by decide +kernel
theorem sX7_putPage_46 {d : Nat} {σ : aS} {Q : aQ} {l0 l1 l2 l3 : Option Value} {x : Int32} {lt : aL} {st : List Value} : aX d iX7_putPage 46 (l0 :: l1 :: l2 :: l3 :: some (.int x) :: lt) (st) σ Q ↔ aX d iX7_putPage 48 (l0 :: l1 :: l2 :: l3 :: some (.int x) :: lt) (.int x :: st) σ Q := X_iload kX7_putPage_46 rfl
theorem kX7_putPage_48 : aCode iX7_putPage 48 = some (.invokevirtual 44, 3) := by decide +kernel
theorem sX7_putPage_48 {d : Nat} {σ : aS} {Q : aQ} {b : Nat} {p0 : Int32} {p1 : Int32} {p2 : Int32} {ls : aL} : aX (d + 1) iX7_putPage 48 (ls) (.int p2 :: .int p1 :: .int p0 :: .ref b :: []) σ Q ↔ aIs σ b 7 ∧ aX d iX7_setPart 0 [some (.ref b), some (.int p0), some (.int p1), some (.int p2)] [] σ (fun r τ => aX (d + 1) iX7_putPage 51 (ls) (aret r ([])) τ Q) := X_invv (N := 3) (As := [.int p2, .int p1, .int p0]) (w := 766) kX7_putPage_48 (by decide +kernel) (by decide +kernel) rfl rfl (by simp only [List.length_cons, List.length_nil]; omega) (by simp only [List.length_cons, List.length_nil]; omega) (by decide +kernel) rfl (Nat.le_of_ble_eq_true rfl)
theorem kX7_putPage_51 : aCode iX7_putPage 51 = some (.aload_n 0, 1) := by decide +kernel
theorem sX7_putPage_51 {d : Nat} {σ : aS} {Q : aQ} {x : Nat} {lt : aL} {st : List Value} : aX d iX7_putPage 51 (some (.ref x) :: lt) (st) σ Q ↔ aX d iX7_putPage 52 (some (.ref x) :: lt) (.ref x :: st) σ Q := X_aloadn kX7_putPage_51 rfl rfl
theorem kX7_putPage_52 : aCode iX7_putPage 52 = some (.iload_n 1, 1) := by decide +kernel
theorem sX7_putPage_52 {d : Nat} {σ : aS} {Q : aQ} {l0 : Option Value} {x : Int32} {lt : aL} {st : List Value} : aX d iX7_putPage 52 (l0 :: some (.int x) :: lt) (st) σ Q ↔ aX d iX7_putPage 53 (l0 :: some (.int x) :: lt) (.int x :: st) σ Q := X_iloadn kX7_putPage_52 rfl
theorem kX7_putPage_53 : aCode iX7_putPage 53 = some (.iconst 1, 1) := by decide +kernel
theorem sX7_putPage_53 {d : Nat} {σ : aS} {Q : aQ} {ls : aL} {st : List Value} : aX d iX7_putPage 53 (ls) (st) σ Q ↔ aX d iX7_putPage 54 (ls) (.int (nI 1) :: st) σ Q := X_iconst kX7_putPage_53 (by decide +kernel)
theorem kX7_putPage_54 : aCode iX7_putPage 54 = some (.iload 5, 2) := by decide +kernel
theorem sX7_putPage_54 {d : Nat} {σ : aS} {Q : aQ} {l0 l1 l2 l3 l4 : Option Value} {x : Int32} {lt : aL} {st : List Value} : aX d iX7_putPage 54 (l0 :: l1 :: l2 :: l3 :: l4 :: some (.int x) :: lt) (st) σ Q ↔ aX d iX7_putPage 56 (l0 :: l1 :: l2 :: l3 :: l4 :: some (.int x) :: lt) (.int x :: st) σ Q := X_iload kX7_putPage_54 rfl
theorem kX7_putPage_56 : aCode iX7_putPage 56 = some (.iconst 1, 1) := by decide +kernel
theorem sX7_putPage_56 {d : Nat} {σ : aS} {Q : aQ} {ls : aL} {st : List Value} : aX d iX7_putPage 56 (ls) (st) σ Q ↔ aX d iX7_putPage 57 (ls) (.int (nI 1) :: st) σ Q := X_iconst kX7_putPage_56 (by decide +kernel)
theorem kX7_putPage_57 : aCode iX7_putPage 57 = some (.iadd, 1) := by decide +kernel
theorem sX7_putPage_57 {d : Nat} {σ : aS} {Q : aQ} {x y : Int32} {ls : aL} {st : List Value} : aX d iX7_putPage 57 (ls) (.int y :: .int x :: st) σ Q ↔ aX d iX7_putPage 58 (ls) (.int (x + y) :: st) σ Q := X_iadd kX7_putPage_57
theorem kX7_putPage_58 : aCode iX7_putPage 58 = some (.invokevirtual 44, 3) := by decide +kernel
theorem sX7_putPage_58 {d : Nat} {σ : aS} {Q : aQ} {b : Nat} {p0 : Int32} {p1 : Int32} {p2 : Int32} {ls : aL} : aX (d + 1) iX7_putPage 58 (ls) (.int p2 :: .int p1 :: .int p0 :: .ref b :: []) σ Q ↔ aIs σ b 7 ∧ aX d iX7_setPart 0 [some (.ref b), some (.int p0), some (.int p1), some (.int p2)] [] σ (fun r τ => aX (d + 1) iX7_putPage 61 (ls) (aret r ([])) τ Q) := X_invv (N := 3) (As := [.int p2, .int p1, .int p0]) (w := 766) kX7_putPage_58 (by decide +kernel) (by decide +kernel) rfl rfl (by simp only [List.length_cons, List.length_nil]; omega) (by simp only [List.length_cons, List.length_nil]; omega) (by decide +kernel) rfl (Nat.le_of_ble_eq_true rfl)
theorem kX7_putPage_61 : aCode iX7_putPage 61 = some (.return_, 1) := by decide +kernel
theorem sX7_putPage_61 {d : Nat} {σ : aS} {Q : aQ} {ls : aL} : aX d iX7_putPage 61 (ls) ([]) σ Q ↔ Q none σ := X_vret kX7_putPage_61 (by decide +kernel)
theorem kX7_lastPage_0 : aCode iX7_lastPage 0 = some (.aload_n 0, 1) := by decide +kernel
theorem sX7_lastPage_0 {d : Nat} {σ : aS} {Q : aQ} {x : Nat} {lt : aL} {st : List Value} : aX d iX7_lastPage 0 (some (.ref x) :: lt) (st) σ Q ↔ aX d iX7_lastPage 1 (some (.ref x) :: lt) (.ref x :: st) σ Q := X_aloadn kX7_lastPage_0 rfl rfl
theorem kX7_lastPage_1 : aCode iX7_lastPage 1 = some (.iload_n 1, 1) := by decide +kernel
theorem sX7_lastPage_1 {d : Nat} {σ : aS} {Q : aQ} {l0 : Option Value} {x : Int32} {lt : aL} {st : List Value} : aX d iX7_lastPage 1 (l0 :: some (.int x) :: lt) (st) σ Q ↔ aX d iX7_lastPage 2 (l0 :: some (.int x) :: lt) (.int x :: st) σ Q := X_iloadn kX7_lastPage_1 rfl
theorem kX7_lastPage_2 : aCode iX7_lastPage 2 = some (.iconst 1, 1) := by decide +kernel
theorem sX7_lastPage_2 {d : Nat} {σ : aS} {Q : aQ} {ls : aL} {st : List Value} : aX d iX7_lastPage 2 (ls) (st) σ Q ↔ aX d iX7_lastPage 3 (ls) (.int (nI 1) :: st) σ Q := X_iconst kX7_lastPage_2 (by decide +kernel)
theorem kX7_lastPage_3 : aCode iX7_lastPage 3 = some (.invokevirtual 40, 3) := by decide +kernel
theorem sX7_lastPage_3 {d : Nat} {σ : aS} {Q : aQ} {b : Nat} {p0 : Int32} {p1 : Int32} {ls : aL} : aX (d + 1) iX7_lastPage 3 (ls) (.int p1 :: .int p0 :: .ref b :: []) σ Q ↔ aIs σ b 7 ∧ aX d iX7_part 0 [some (.ref b), some (.int p0), some (.int p1)] [] σ (fun r τ => aX (d + 1) iX7_lastPage 6 (ls) (aret r ([])) τ Q) := X_invv (N := 2) (As := [.int p1, .int p0]) (w := 750) kX7_lastPage_3 (by decide +kernel) (by decide +kernel) rfl rfl (by simp only [List.length_cons, List.length_nil]; omega) (by simp only [List.length_cons, List.length_nil]; omega) (by decide +kernel) rfl (Nat.le_of_ble_eq_true rfl)
theorem kX7_lastPage_6 : aCode iX7_lastPage 6 = some (.iconst 1, 1) := by decide +kernel
theorem sX7_lastPage_6 {d : Nat} {σ : aS} {Q : aQ} {ls : aL} {st : List Value} : aX d iX7_lastPage 6 (ls) (st) σ Q ↔ aX d iX7_lastPage 7 (ls) (.int (nI 1) :: st) σ Q := X_iconst kX7_lastPage_6 (by decide +kernel)
theorem kX7_lastPage_7 : aCode iX7_lastPage 7 = some (.isub, 1) := by decide +kernel
theorem sX7_lastPage_7 {d : Nat} {σ : aS} {Q : aQ} {x y : Int32} {ls : aL} {st : List Value} : aX d iX7_lastPage 7 (ls) (.int y :: .int x :: st) σ Q ↔ aX d iX7_lastPage 8 (ls) (.int (x - y) :: st) σ Q := X_isub kX7_lastPage_7
theorem kX7_lastPage_8 : aCode iX7_lastPage 8 = some (.ireturn, 1) := by decide +kernel
theorem sX7_lastPage_8 {d : Nat} {σ : aS} {Q : aQ} {v : Int32} {ls : aL} : aX d iX7_lastPage 8 (ls) ([.int v]) σ Q ↔ Q (some (.int v)) σ := X_iret kX7_lastPage_8 (by decide +kernel)
theorem kX7_lastWordPage_0 : aCode iX7_lastWordPage 0 = some (.aload_n 0, 1) := by decide +kernel
theorem sX7_lastWordPage_0 {d : Nat} {σ : aS} {Q : aQ} {x : Nat} {lt : aL} {st : List Value} : aX d iX7_lastWordPage 0 (some (.ref x) :: lt) (st) σ Q ↔ aX d iX7_lastWordPage 1 (some (.ref x) :: lt) (.ref x :: st) σ Q := X_aloadn kX7_lastWordPage_0 rfl rfl
theorem kX7_lastWordPage_1 : aCode iX7_lastWordPage 1 = some (.iload_n 1, 1) := by decide +kernel
theorem sX7_lastWordPage_1 {d : Nat} {σ : aS} {Q : aQ} {l0 : Option Value} {x : Int32} {lt : aL} {st : List Value} : aX d iX7_lastWordPage 1 (l0 :: some (.int x) :: lt) (st) σ Q ↔ aX d iX7_lastWordPage 2 (l0 :: some (.int x) :: lt) (.int x :: st) σ Q := X_iloadn kX7_lastWordPage_1 rfl
theorem kX7_lastWordPage_2 : aCode iX7_lastWordPage 2 = some (.invokevirtual 48, 3) := by decide +kernel
theorem sX7_lastWordPage_2 {d : Nat} {σ : aS} {Q : aQ} {b : Nat} {p0 : Int32} {ls : aL} : aX (d + 1) iX7_lastWordPage 2 (ls) (.int p0 :: .ref b :: []) σ Q ↔ aIs σ b 7 ∧ aX d iX7_lastPage 0 [some (.ref b), some (.int p0)] [] σ (fun r τ => aX (d + 1) iX7_lastWordPage 5 (ls) (aret r ([])) τ Q) := X_invv (N := 1) (As := [.int p0]) (w := 802) kX7_lastWordPage_2 (by decide +kernel) (by decide +kernel) rfl rfl (by simp only [List.length_cons, List.length_nil]; omega) (by simp only [List.length_cons, List.length_nil]; omega) (by decide +kernel) rfl (Nat.le_of_ble_eq_true rfl)
theorem kX7_lastWordPage_5 : aCode iX7_lastWordPage 5 = some (.iconst 2, 1) := by decide +kernel
theorem sX7_lastWordPage_5 {d : Nat} {σ : aS} {Q : aQ} {ls : aL} {st : List Value} : aX d iX7_lastWordPage 5 (ls) (st) σ Q ↔ aX d iX7_lastWordPage 6 (ls) (.int (nI 2) :: st) σ Q := X_iconst kX7_lastWordPage_5 (by decide +kernel)
theorem kX7_lastWordPage_6 : aCode iX7_lastWordPage 6 = some (.idiv, 1) := by decide +kernel
theorem sX7_lastWordPage_6 {d : Nat} {σ : aS} {Q : aQ} {x y : Int32} {ls : aL} {st : List Value} : aX d iX7_lastWordPage 6 (ls) (.int y :: .int x :: st) σ Q ↔ ¬ y = nI 0 ∧ aX d iX7_lastWordPage 7 (ls) (.int (x / y) :: st) σ Q := X_idiv kX7_lastWordPage_6
theorem kX7_lastWordPage_7 : aCode iX7_lastWordPage 7 = some (.iconst 2, 1) := by decide +kernel
theorem sX7_lastWordPage_7 {d : Nat} {σ : aS} {Q : aQ} {ls : aL} {st : List Value} : aX d iX7_lastWordPage 7 (ls) (st) σ Q ↔ aX d iX7_lastWordPage 8 (ls) (.int (nI 2) :: st) σ Q := X_iconst kX7_lastWordPage_7 (by decide +kernel)
theorem kX7_lastWordPage_8 : aCode iX7_lastWordPage 8 = some (.imul, 1) := by decide +kernel
theorem sX7_lastWordPage_8 {d : Nat} {σ : aS} {Q : aQ} {x y : Int32} {ls : aL} {st : List Value} : aX d iX7_lastWordPage 8 (ls) (.int y :: .int x :: st) σ Q ↔ aX d iX7_lastWordPage 9 (ls) (.int (x * y) :: st) σ Q := X_imul kX7_lastWordPage_8
theorem kX7_lastWordPage_9 : aCode iX7_lastWordPage 9 = some (.ireturn, 1) := by decide +kernel
theorem sX7_lastWordPage_9 {d : Nat} {σ : aS} {Q : aQ} {v : Int32} {ls : aL} : aX d iX7_lastWordPage 9 (ls) ([.int v]) σ Q ↔ Q (some (.int v)) σ := X_iret kX7_lastWordPage_9 (by decide +kernel)
theorem kX7_lastWord_0 : aCode iX7_lastWord 0 = some (.aload_n 0, 1) := by decide +kernel
theorem sX7_lastWord_0 {d : Nat} {σ : aS} {Q : aQ} {x : Nat} {lt : aL} {st : List Value} : aX d iX7_lastWord 0 (some (.ref x) :: lt) (st) σ Q ↔ aX d iX7_lastWord 1 (some (.ref x) :: lt) (.ref x :: st) σ Q := X_aloadn kX7_lastWord_0 rfl rfl
theorem kX7_lastWord_1 : aCode iX7_lastWord 1 = some (.iload_n 1, 1) := by decide +kernel
theorem sX7_lastWord_1 {d : Nat} {σ : aS} {Q : aQ} {l0 : Option Value} {x : Int32} {lt : aL} {st : List Value} : aX d iX7_lastWord 1 (l0 :: some (.int x) :: lt) (st) σ Q ↔ aX d iX7_lastWord 2 (l0 :: some (.int x) :: lt) (.int x :: st) σ Q := X_iloadn kX7_lastWord_1 rfl
theorem kX7_lastWord_2 : aCode iX7_lastWord 2 = some (.aload_n 0, 1) := by decide +kernel
theorem sX7_lastWord_2 {d : Nat} {σ : aS} {Q : aQ} {x : Nat} {lt : aL} {st : List Value} : aX d iX7_lastWord 2 (some (.ref x) :: lt) (st) σ Q ↔ aX d iX7_lastWord 3 (some (.ref x) :: lt) (.ref x :: st) σ Q := X_aloadn kX7_lastWord_2 rfl rfl
theorem kX7_lastWord_3 : aCode iX7_lastWord 3 = some (.iload_n 1, 1) := by decide +kernel
theorem sX7_lastWord_3 {d : Nat} {σ : aS} {Q : aQ} {l0 : Option Value} {x : Int32} {lt : aL} {st : List Value} : aX d iX7_lastWord 3 (l0 :: some (.int x) :: lt) (st) σ Q ↔ aX d iX7_lastWord 4 (l0 :: some (.int x) :: lt) (.int x :: st) σ Q := X_iloadn kX7_lastWord_3 rfl
theorem kX7_lastWord_4 : aCode iX7_lastWord 4 = some (.invokevirtual 52, 3) := by decide +kernel
theorem sX7_lastWord_4 {d : Nat} {σ : aS} {Q : aQ} {b : Nat} {p0 : Int32} {v0 v1 : Value} {ls : aL} : aX (d + 1) iX7_lastWord 4 (ls) (.int p0 :: .ref b :: v0 :: v1 :: []) σ Q ↔ aIs σ b 7 ∧ aX d iX7_lastWordPage 0 [some (.ref b), some (.int p0)] [] σ (fun r τ => aX (d + 1) iX7_lastWord 7 (ls) (aret r (v0 :: v1 :: [])) τ Q) := X_invv (N := 1) (As := [.int p0]) (w := 822) kX7_lastWord_4 (by decide +kernel) (by decide +kernel) rfl rfl (by simp only [List.length_cons, List.length_nil]; omega) (by simp only [List.length_cons, List.length_nil]; omega) (by decide +kernel) rfl (Nat.le_of_ble_eq_true rfl)
theorem kX7_lastWord_7 : aCode iX7_lastWord 7 = some (.iconst 1, 1) := by decide +kernel
theorem sX7_lastWord_7 {d : Nat} {σ : aS} {Q : aQ} {ls : aL} {st : List Value} : aX d iX7_lastWord 7 (ls) (st) σ Q ↔ aX d iX7_lastWord 8 (ls) (.int (nI 1) :: st) σ Q := X_iconst kX7_lastWord_7 (by decide +kernel)
theorem kX7_lastWord_8 : aCode iX7_lastWord 8 = some (.invokevirtual 55, 3) := by decide +kernel
theorem sX7_lastWord_8 {d : Nat} {σ : aS} {Q : aQ} {b : Nat} {p0 : Int32} {p1 : Int32} {p2 : Int32} {ls : aL} : aX (d + 1) iX7_lastWord 8 (ls) (.int p2 :: .int p1 :: .int p0 :: .ref b :: []) σ Q ↔ aIs σ b 7 ∧ aX d iX7_pagePart 0 [some (.ref b), some (.int p0), some (.int p1), some (.int p2)] [] σ (fun r τ => aX (d + 1) iX7_lastWord 11 (ls) (aret r ([])) τ Q) := X_invv (N := 3) (As := [.int p2, .int p1, .int p0]) (w := 806) kX7_lastWord_8 (by decide +kernel) (by decide +kernel) rfl rfl (by simp only [List.length_cons, List.length_nil]; omega) (by simp only [List.length_cons, List.length_nil]; omega) (by decide +kernel) rfl (Nat.le_of_ble_eq_true rfl)
theorem kX7_lastWord_11 : aCode iX7_lastWord 11 = some (.ireturn, 1) := by decide +kernel
theorem sX7_lastWord_11 {d : Nat} {σ : aS} {Q : aQ} {v : Int32} {ls : aL} : aX d iX7_lastWord 11 (ls) ([.int v]) σ Q ↔ Q (some (.int v)) σ := X_iret kX7_lastWord_11 (by decide +kernel)
theorem kX7_firstWord_0 : aCode iX7_firstWord 0 = some (.aload_n 0, 1) := by decide +kernel
theorem sX7_firstWord_0 {d : Nat} {σ : aS} {Q : aQ} {x : Nat} {lt : aL} {st : List Value} : aX d iX7_firstWord 0 (some (.ref x) :: lt) (st) σ Q ↔ aX d iX7_firstWord 1 (some (.ref x) :: lt) (.ref x :: st) σ Q := X_aloadn kX7_firstWord_0 rfl rfl
theorem kX7_firstWord_1 : aCode iX7_firstWord 1 = some (.iload_n 1, 1) := by decide +kernel
theorem sX7_firstWord_1 {d : Nat} {σ : aS} {Q : aQ} {l0 : Option Value} {x : Int32} {lt : aL} {st : List Value} : aX d iX7_firstWord 1 (l0 :: some (.int x) :: lt) (st) σ Q ↔ aX d iX7_firstWord 2 (l0 :: some (.int x) :: lt) (.int x :: st) σ Q := X_iloadn kX7_firstWord_1 rfl
theorem kX7_firstWord_2 : aCode iX7_firstWord 2 = some (.iconst 0, 1) := by decide +kernel
theorem sX7_firstWord_2 {d : Nat} {σ : aS} {Q : aQ} {ls : aL} {st : List Value} : aX d iX7_firstWord 2 (ls) (st) σ Q ↔ aX d iX7_firstWord 3 (ls) (.int (nI 0) :: st) σ Q := X_iconst kX7_firstWord_2 (by decide +kernel)
theorem kX7_firstWord_3 : aCode iX7_firstWord 3 = some (.iconst 1, 1) := by decide +kernel
theorem sX7_firstWord_3 {d : Nat} {σ : aS} {Q : aQ} {ls : aL} {st : List Value} : aX d iX7_firstWord 3 (ls) (st) σ Q ↔ aX d iX7_firstWord 4 (ls) (.int (nI 1) :: st) σ Q := X_iconst kX7_firstWord_3 (by decide +kernel)
theorem kX7_firstWord_4 : aCode iX7_firstWord 4 = some (.invokevirtual 55, 3) := by decide +kernel
theorem sX7_firstWord_4 {d : Nat} {σ : aS} {Q : aQ} {b : Nat} {p0 : Int32} {p1 : Int32} {p2 : Int32} {ls : aL} : aX (d + 1) iX7_firstWord 4 (ls) (.int p2 :: .int p1 :: .int p0 :: .ref b :: []) σ Q ↔ aIs σ b 7 ∧ aX d iX7_pagePart 0 [some (.ref b), some (.int p0), some (.int p1), some (.int p2)] [] σ (fun r τ => aX (d + 1) iX7_firstWord 7 (ls) (aret r ([])) τ Q) := X_invv (N := 3) (As := [.int p2, .int p1, .int p0]) (w := 806) kX7_firstWord_4 (by decide +kernel) (by decide +kernel) rfl rfl (by simp only [List.length_cons, List.length_nil]; omega) (by simp only [List.length_cons, List.length_nil]; omega) (by decide +kernel) rfl (Nat.le_of_ble_eq_true rfl)
theorem kX7_firstWord_7 : aCode iX7_firstWord 7 = some (.ireturn, 1) := by decide +kernel
theorem sX7_firstWord_7 {d : Nat} {σ : aS} {Q : aQ} {v : Int32} {ls : aL} : aX d iX7_firstWord 7 (ls) ([.int v]) σ Q ↔ Q (some (.int v)) σ := X_iret kX7_firstWord_7 (by decide +kernel)
theorem kX7_seatsOf_0 : aCode iX7_seatsOf 0 = some (.iconst 0, 1) := by decide +kernel
theorem sX7_seatsOf_0 {d : Nat} {σ : aS} {Q : aQ} {ls : aL} {st : List Value} : aX d iX7_seatsOf 0 (ls) (st) σ Q ↔ aX d iX7_seatsOf 1 (ls) (.int (nI 0) :: st) σ Q := X_iconst kX7_seatsOf_0 (by decide +kernel)
theorem kX7_seatsOf_1 : aCode iX7_seatsOf 1 = some (.istore_n 2, 1) := by decide +kernel
theorem sX7_seatsOf_1 {d : Nat} {σ : aS} {Q : aQ} {l0 l1 lo : Option Value} {x : Int32} {lt : aL} {st : List Value} : aX d iX7_seatsOf 1 (l0 :: l1 :: lo :: lt) (.int x :: st) σ Q ↔ aX d iX7_seatsOf 2 (l0 :: aclr l1 :: some (.int x) :: lt) (st) σ Q := X_istoren kX7_seatsOf_1 (by simp only [List.length_cons]; omega)
theorem kX7_seatsOf_2 : aCode iX7_seatsOf 2 = some (.iconst 0, 1) := by decide +kernel
theorem sX7_seatsOf_2 {d : Nat} {σ : aS} {Q : aQ} {ls : aL} {st : List Value} : aX d iX7_seatsOf 2 (ls) (st) σ Q ↔ aX d iX7_seatsOf 3 (ls) (.int (nI 0) :: st) σ Q := X_iconst kX7_seatsOf_2 (by decide +kernel)
theorem kX7_seatsOf_3 : aCode iX7_seatsOf 3 = some (.istore_n 3, 1) := by decide +kernel
theorem sX7_seatsOf_3 {d : Nat} {σ : aS} {Q : aQ} {l0 l1 l2 lo : Option Value} {x : Int32} {lt : aL} {st : List Value} : aX d iX7_seatsOf 3 (l0 :: l1 :: l2 :: lo :: lt) (.int x :: st) σ Q ↔ aX d iX7_seatsOf 4 (l0 :: l1 :: aclr l2 :: some (.int x) :: lt) (st) σ Q := X_istoren kX7_seatsOf_3 (by simp only [List.length_cons]; omega)
theorem kX7_seatsOf_4 : aCode iX7_seatsOf 4 = some (.iload_n 3, 1) := by decide +kernel
theorem sX7_seatsOf_4 {d : Nat} {σ : aS} {Q : aQ} {l0 l1 l2 : Option Value} {x : Int32} {lt : aL} {st : List Value} : aX d iX7_seatsOf 4 (l0 :: l1 :: l2 :: some (.int x) :: lt) (st) σ Q ↔ aX d iX7_seatsOf 5 (l0 :: l1 :: l2 :: some (.int x) :: lt) (.int x :: st) σ Q := X_iloadn kX7_seatsOf_4 rfl
theorem kX7_seatsOf_5 : aCode iX7_seatsOf 5 = some (.aload_n 0, 1) := by decide +kernel
theorem sX7_seatsOf_5 {d : Nat} {σ : aS} {Q : aQ} {x : Nat} {lt : aL} {st : List Value} : aX d iX7_seatsOf 5 (some (.ref x) :: lt) (st) σ Q ↔ aX d iX7_seatsOf 6 (some (.ref x) :: lt) (.ref x :: st) σ Q := X_aloadn kX7_seatsOf_5 rfl rfl
theorem kX7_seatsOf_6 : aCode iX7_seatsOf 6 = some (.iload_n 1, 1) := by decide +kernel
theorem sX7_seatsOf_6 {d : Nat} {σ : aS} {Q : aQ} {l0 : Option Value} {x : Int32} {lt : aL} {st : List Value} : aX d iX7_seatsOf 6 (l0 :: some (.int x) :: lt) (st) σ Q ↔ aX d iX7_seatsOf 7 (l0 :: some (.int x) :: lt) (.int x :: st) σ Q := X_iloadn kX7_seatsOf_6 rfl
theorem kX7_seatsOf_7 : aCode iX7_seatsOf 7 = some (.iconst 1, 1) := by decide +kernel
theorem sX7_seatsOf_7 {d : Nat} {σ : aS} {Q : aQ} {ls : aL} {st : List Value} : aX d iX7_seatsOf 7 (ls) (st) σ Q ↔ aX d iX7_seatsOf 8 (ls) (.int (nI 1) :: st) σ Q := X_iconst kX7_seatsOf_7 (by decide +kernel)
theorem kX7_seatsOf_8 : aCode iX7_seatsOf 8 = some (.invokevirtual 40, 3) := by decide +kernel
theorem sX7_seatsOf_8 {d : Nat} {σ : aS} {Q : aQ} {b : Nat} {p0 : Int32} {p1 : Int32} {v0 : Value} {ls : aL} : aX (d + 1) iX7_seatsOf 8 (ls) (.int p1 :: .int p0 :: .ref b :: v0 :: []) σ Q ↔ aIs σ b 7 ∧ aX d iX7_part 0 [some (.ref b), some (.int p0), some (.int p1)] [] σ (fun r τ => aX (d + 1) iX7_seatsOf 11 (ls) (aret r (v0 :: [])) τ Q) := X_invv (N := 2) (As := [.int p1, .int p0]) (w := 750) kX7_seatsOf_8 (by decide +kernel) (by decide +kernel) rfl rfl (by simp only [List.length_cons, List.length_nil]; omega) (by simp only [List.length_cons, List.length_nil]; omega) (by decide +kernel) rfl (Nat.le_of_ble_eq_true rfl)
theorem kX7_seatsOf_11 : aCode iX7_seatsOf 11 = some (.if_icmp .ge 21, 3) := by decide +kernel
theorem sX7_seatsOf_11 {d : Nat} {σ : aS} {Q : aQ} {x y : Int32} {ls : aL} {st : List Value} : aX d iX7_seatsOf 11 (ls) (.int y :: .int x :: st) σ Q ↔ (if y ≤ x then aX d iX7_seatsOf 32 (ls) (st) σ Q else aX d iX7_seatsOf 14 (ls) (st) σ Q) := by rw [X_icmp kX7_seatsOf_11 (t := 32) (by decide)]; simp only [aCmp_ge]
theorem kX7_seatsOf_14 : aCode iX7_seatsOf 14 = some (.iload_n 2, 1) := by decide +kernel
theorem sX7_seatsOf_14 {d : Nat} {σ : aS} {Q : aQ} {l0 l1 : Option Value} {x : Int32} {lt : aL} {st : List Value} : aX d iX7_seatsOf 14 (l0 :: l1 :: some (.int x) :: lt) (st) σ Q ↔ aX d iX7_seatsOf 15 (l0 :: l1 :: some (.int x) :: lt) (.int x :: st) σ Q := X_iloadn kX7_seatsOf_14 rfl
theorem kX7_seatsOf_15 : aCode iX7_seatsOf 15 = some (.iconst 1, 1) := by decide +kernel
theorem sX7_seatsOf_15 {d : Nat} {σ : aS} {Q : aQ} {ls : aL} {st : List Value} : aX d iX7_seatsOf 15 (ls) (st) σ Q ↔ aX d iX7_seatsOf 16 (ls) (.int (nI 1) :: st) σ Q := X_iconst kX7_seatsOf_15 (by decide +kernel)
theorem kX7_seatsOf_16 : aCode iX7_seatsOf 16 = some (.aload_n 0, 1) := by decide +kernel
theorem sX7_seatsOf_16 {d : Nat} {σ : aS} {Q : aQ} {x : Nat} {lt : aL} {st : List Value} : aX d iX7_seatsOf 16 (some (.ref x) :: lt) (st) σ Q ↔ aX d iX7_seatsOf 17 (some (.ref x) :: lt) (.ref x :: st) σ Q := X_aloadn kX7_seatsOf_16 rfl rfl
theorem kX7_seatsOf_17 : aCode iX7_seatsOf 17 = some (.iload_n 1, 1) := by decide +kernel
theorem sX7_seatsOf_17 {d : Nat} {σ : aS} {Q : aQ} {l0 : Option Value} {x : Int32} {lt : aL} {st : List Value} : aX d iX7_seatsOf 17 (l0 :: some (.int x) :: lt) (st) σ Q ↔ aX d iX7_seatsOf 18 (l0 :: some (.int x) :: lt) (.int x :: st) σ Q := X_iloadn kX7_seatsOf_17 rfl
theorem kX7_seatsOf_18 : aCode iX7_seatsOf 18 = some (.iload_n 3, 1) := by decide +kernel
theorem sX7_seatsOf_18 {d : Nat} {σ : aS} {Q : aQ} {l0 l1 l2 : Option Value} {x : Int32} {lt : aL} {st : List Value} : aX d iX7_seatsOf 18 (l0 :: l1 :: l2 :: some (.int x) :: lt) (st) σ Q ↔ aX d iX7_seatsOf 19 (l0 :: l1 :: l2 :: some (.int x) :: lt) (.int x :: st) σ Q := X_iloadn kX7_seatsOf_18 rfl
theorem kX7_seatsOf_19 : aCode iX7_seatsOf 19 = some (.iconst 0, 1) := by decide +kernel
theorem sX7_seatsOf_19 {d : Nat} {σ : aS} {Q : aQ} {ls : aL} {st : List Value} : aX d iX7_seatsOf 19 (ls) (st) σ Q ↔ aX d iX7_seatsOf 20 (ls) (.int (nI 0) :: st) σ Q := X_iconst kX7_seatsOf_19 (by decide +kernel)
theorem kX7_seatsOf_20 : aCode iX7_seatsOf 20 = some (.invokevirtual 55, 3) := by decide +kernel
theorem sX7_seatsOf_20 {d : Nat} {σ : aS} {Q : aQ} {b : Nat} {p0 : Int32} {p1 : Int32} {p2 : Int32} {v0 v1 : Value} {ls : aL} : aX (d + 1) iX7_seatsOf 20 (ls) (.int p2 :: .int p1 :: .int p0 :: .ref b :: v0 :: v1 :: []) σ Q ↔ aIs σ b 7 ∧ aX d iX7_pagePart 0 [some (.ref b), some (.int p0), some (.int p1), some (.int p2)] [] σ (fun r τ => aX (d + 1) iX7_seatsOf 23 (ls) (aret r (v0 :: v1 :: [])) τ Q) := X_invv (N := 3) (As := [.int p2, .int p1, .int p0]) (w := 806) kX7_seatsOf_20 (by decide +kernel) (by decide +kernel) rfl rfl (by simp only [List.length_cons, List.length_nil]; omega) (by simp only [List.length_cons, List.length_nil]; omega) (by decide +kernel) rfl (Nat.le_of_ble_eq_true rfl)
theorem kX7_seatsOf_23 : aCode iX7_seatsOf 23 = some (.ishl, 1) := by decide +kernel
theorem sX7_seatsOf_23 {d : Nat} {σ : aS} {Q : aQ} {x y : Int32} {ls : aL} {st : List Value} : aX d iX7_seatsOf 23 (ls) (.int y :: .int x :: st) σ Q ↔ aX d iX7_seatsOf 24 (ls) (.int (x <<< (y &&& 31)) :: st) σ Q := X_ishl kX7_seatsOf_23
theorem kX7_seatsOf_24 : aCode iX7_seatsOf 24 = some (.ior, 1) := by decide +kernel
theorem sX7_seatsOf_24 {d : Nat} {σ : aS} {Q : aQ} {x y : Int32} {ls : aL} {st : List Value} : aX d iX7_seatsOf 24 (ls) (.int y :: .int x :: st) σ Q ↔ aX d iX7_seatsOf 25 (ls) (.int (x ||| y) :: st) σ Q := X_ior kX7_seatsOf_24
theorem kX7_seatsOf_25 : aCode iX7_seatsOf 25 = some (.istore_n 2, 1) := by decide +kernel
theorem sX7_seatsOf_25 {d : Nat} {σ : aS} {Q : aQ} {l0 l1 lo : Option Value} {x : Int32} {lt : aL} {st : List Value} : aX d iX7_seatsOf 25 (l0 :: l1 :: lo :: lt) (.int x :: st) σ Q ↔ aX d iX7_seatsOf 26 (l0 :: aclr l1 :: some (.int x) :: lt) (st) σ Q := X_istoren kX7_seatsOf_25 (by simp only [List.length_cons]; omega)
theorem kX7_seatsOf_26 : aCode iX7_seatsOf 26 = some (.iinc 3 1, 3) := by decide +kernel
theorem sX7_seatsOf_26 {d : Nat} {σ : aS} {Q : aQ} {l0 l1 l2 : Option Value} {x : Int32} {lt : aL} {st : List Value} : aX d iX7_seatsOf 26 (l0 :: l1 :: l2 :: some (.int x) :: lt) (st) σ Q ↔ aX d iX7_seatsOf 29 (l0 :: l1 :: aclr l2 :: some (.int (x + nI 1)) :: lt) (st) σ Q := X_iinc kX7_seatsOf_26 rfl (by decide +kernel)
theorem kX7_seatsOf_29 : aCode iX7_seatsOf 29 = some (.goto (-25), 3) := by decide +kernel
theorem sX7_seatsOf_29 {d : Nat} {σ : aS} {Q : aQ} {ls : aL} {st : List Value} : aX d iX7_seatsOf 29 (ls) (st) σ Q ↔ aX d iX7_seatsOf 4 (ls) (st) σ Q := X_goto kX7_seatsOf_29 (by decide)
theorem kX7_seatsOf_32 : aCode iX7_seatsOf 32 = some (.iload_n 2, 1) := by decide +kernel
theorem sX7_seatsOf_32 {d : Nat} {σ : aS} {Q : aQ} {l0 l1 : Option Value} {x : Int32} {lt : aL} {st : List Value} : aX d iX7_seatsOf 32 (l0 :: l1 :: some (.int x) :: lt) (st) σ Q ↔ aX d iX7_seatsOf 33 (l0 :: l1 :: some (.int x) :: lt) (.int x :: st) σ Q := X_iloadn kX7_seatsOf_32 rfl
theorem kX7_seatsOf_33 : aCode iX7_seatsOf 33 = some (.ireturn, 1) := by decide +kernel
theorem sX7_seatsOf_33 {d : Nat} {σ : aS} {Q : aQ} {v : Int32} {ls : aL} : aX d iX7_seatsOf 33 (ls) ([.int v]) σ Q ↔ Q (some (.int v)) σ := X_iret kX7_seatsOf_33 (by decide +kernel)
theorem kX7_goesRound_0 : aCode iX7_goesRound 0 = some (.aload_n 0, 1) := by decide +kernel
theorem sX7_goesRound_0 {d : Nat} {σ : aS} {Q : aQ} {x : Nat} {lt : aL} {st : List Value} : aX d iX7_goesRound 0 (some (.ref x) :: lt) (st) σ Q ↔ aX d iX7_goesRound 1 (some (.ref x) :: lt) (.ref x :: st) σ Q := X_aloadn kX7_goesRound_0 rfl rfl
theorem kX7_goesRound_1 : aCode iX7_goesRound 1 = some (.iload_n 1, 1) := by decide +kernel
theorem sX7_goesRound_1 {d : Nat} {σ : aS} {Q : aQ} {l0 : Option Value} {x : Int32} {lt : aL} {st : List Value} : aX d iX7_goesRound 1 (l0 :: some (.int x) :: lt) (st) σ Q ↔ aX d iX7_goesRound 2 (l0 :: some (.int x) :: lt) (.int x :: st) σ Q := X_iloadn kX7_goesRound_1 rfl
theorem kX7_goesRound_2 : aCode iX7_goesRound 2 = some (.iconst 2, 1) := by decide +kernel
theorem sX7_goesRound_2 {d : Nat} {σ : aS} {Q : aQ} {ls : aL} {st : List Value} : aX d iX7_goesRound 2 (ls) (st) σ Q ↔ aX d iX7_goesRound 3 (ls) (.int (nI 2) :: st) σ Q := X_iconst kX7_goesRound_2 (by decide +kernel)
theorem kX7_goesRound_3 : aCode iX7_goesRound 3 = some (.invokevirtual 40, 3) := by decide +kernel
theorem sX7_goesRound_3 {d : Nat} {σ : aS} {Q : aQ} {b : Nat} {p0 : Int32} {p1 : Int32} {ls : aL} : aX (d + 1) iX7_goesRound 3 (ls) (.int p1 :: .int p0 :: .ref b :: []) σ Q ↔ aIs σ b 7 ∧ aX d iX7_part 0 [some (.ref b), some (.int p0), some (.int p1)] [] σ (fun r τ => aX (d + 1) iX7_goesRound 6 (ls) (aret r ([])) τ Q) := X_invv (N := 2) (As := [.int p1, .int p0]) (w := 750) kX7_goesRound_3 (by decide +kernel) (by decide +kernel) rfl rfl (by simp only [List.length_cons, List.length_nil]; omega) (by simp only [List.length_cons, List.length_nil]; omega) (by decide +kernel) rfl (Nat.le_of_ble_eq_true rfl)
theorem kX7_goesRound_6 : aCode iX7_goesRound 6 = some (.ifCond .ne 7, 3) := by decide +kernel
theorem sX7_goesRound_6 {d : Nat} {σ : aS} {Q : aQ} {x : Int32} {ls : aL} {st : List Value} : aX d iX7_goesRound 6 (ls) (.int x :: st) σ Q ↔ (if ¬ x = nI 0 then aX d iX7_goesRound 13 (ls) (st) σ Q else aX d iX7_goesRound 9 (ls) (st) σ Q) := by rw [X_if kX7_goesRound_6 (t := 13) (by decide)]; simp only [aCmp_ne]
theorem kX7_goesRound_9 : aCode iX7_goesRound 9 = some (.iconst 1, 1) := by decide +kernel
theorem sX7_goesRound_9 {d : Nat} {σ : aS} {Q : aQ} {ls : aL} {st : List Value} : aX d iX7_goesRound 9 (ls) (st) σ Q ↔ aX d iX7_goesRound 10 (ls) (.int (nI 1) :: st) σ Q := X_iconst kX7_goesRound_9 (by decide +kernel)
theorem kX7_goesRound_10 : aCode iX7_goesRound 10 = some (.goto 4, 3) := by decide +kernel
theorem sX7_goesRound_10 {d : Nat} {σ : aS} {Q : aQ} {ls : aL} {st : List Value} : aX d iX7_goesRound 10 (ls) (st) σ Q ↔ aX d iX7_goesRound 14 (ls) (st) σ Q := X_goto kX7_goesRound_10 (by decide)
theorem kX7_goesRound_13 : aCode iX7_goesRound 13 = some (.iconst 0, 1) := by decide +kernel
theorem sX7_goesRound_13 {d : Nat} {σ : aS} {Q : aQ} {ls : aL} {st : List Value} : aX d iX7_goesRound 13 (ls) (st) σ Q ↔ aX d iX7_goesRound 14 (ls) (.int (nI 0) :: st) σ Q := X_iconst kX7_goesRound_13 (by decide +kernel)
theorem kX7_goesRound_14 : aCode iX7_goesRound 14 = some (.ireturn, 1) := by decide +kernel
theorem sX7_goesRound_14 {d : Nat} {σ : aS} {Q : aQ} {v : Int32} {ls : aL} : aX d iX7_goesRound 14 (ls) ([.int v]) σ Q ↔ (narrow .boolean (.int v) = .int v ∧ Q (some (.int v)) σ) := X_zret kX7_goesRound_14 (by decide +kernel)
theorem kX7_albumOf_0 : aCode iX7_albumOf 0 = some (.bipush (-6), 2) := by decide +kernel
theorem sX7_albumOf_0 {d : Nat} {σ : aS} {Q : aQ} {ls : aL} {st : List Value} : aX d iX7_albumOf 0 (ls) (st) σ Q ↔ aX d iX7_albumOf 2 (ls) (.int ((-6)) :: st) σ Q := X_bipush kX7_albumOf_0 (by decide +kernel)
theorem kX7_albumOf_2 : aCode iX7_albumOf 2 = some (.istore_n 2, 1) := by decide +kernel
theorem sX7_albumOf_2 {d : Nat} {σ : aS} {Q : aQ} {l0 l1 lo : Option Value} {x : Int32} {lt : aL} {st : List Value} : aX d iX7_albumOf 2 (l0 :: l1 :: lo :: lt) (.int x :: st) σ Q ↔ aX d iX7_albumOf 3 (l0 :: aclr l1 :: some (.int x) :: lt) (st) σ Q := X_istoren kX7_albumOf_2 (by simp only [List.length_cons]; omega)
theorem kX7_albumOf_3 : aCode iX7_albumOf 3 = some (.iconst 0, 1) := by decide +kernel
theorem sX7_albumOf_3 {d : Nat} {σ : aS} {Q : aQ} {ls : aL} {st : List Value} : aX d iX7_albumOf 3 (ls) (st) σ Q ↔ aX d iX7_albumOf 4 (ls) (.int (nI 0) :: st) σ Q := X_iconst kX7_albumOf_3 (by decide +kernel)
theorem kX7_albumOf_4 : aCode iX7_albumOf 4 = some (.istore_n 3, 1) := by decide +kernel
theorem sX7_albumOf_4 {d : Nat} {σ : aS} {Q : aQ} {l0 l1 l2 lo : Option Value} {x : Int32} {lt : aL} {st : List Value} : aX d iX7_albumOf 4 (l0 :: l1 :: l2 :: lo :: lt) (.int x :: st) σ Q ↔ aX d iX7_albumOf 5 (l0 :: l1 :: aclr l2 :: some (.int x) :: lt) (st) σ Q := X_istoren kX7_albumOf_4 (by simp only [List.length_cons]; omega)
theorem kX7_albumOf_5 : aCode iX7_albumOf 5 = some (.iload_n 3, 1) := by decide +kernel
theorem sX7_albumOf_5 {d : Nat} {σ : aS} {Q : aQ} {l0 l1 l2 : Option Value} {x : Int32} {lt : aL} {st : List Value} : aX d iX7_albumOf 5 (l0 :: l1 :: l2 :: some (.int x) :: lt) (st) σ Q ↔ aX d iX7_albumOf 6 (l0 :: l1 :: l2 :: some (.int x) :: lt) (.int x :: st) σ Q := X_iloadn kX7_albumOf_5 rfl
theorem kX7_albumOf_6 : aCode iX7_albumOf 6 = some (.aload_n 0, 1) := by decide +kernel
theorem sX7_albumOf_6 {d : Nat} {σ : aS} {Q : aQ} {x : Nat} {lt : aL} {st : List Value} : aX d iX7_albumOf 6 (some (.ref x) :: lt) (st) σ Q ↔ aX d iX7_albumOf 7 (some (.ref x) :: lt) (.ref x :: st) σ Q := X_aloadn kX7_albumOf_6 rfl rfl
theorem kX7_albumOf_7 : aCode iX7_albumOf 7 = some (.getfield 7, 3) := by decide +kernel
theorem sX7_albumOf_7 {d : Nat} {σ : aS} {Q : aQ} {a : Nat} {ls : aL} {st : List Value} : aX d iX7_albumOf 7 (ls) (.ref a :: st) σ Q ↔ ∃ v, aFld σ a 7 0 = some v ∧ aX d iX7_albumOf 10 (ls) (v :: st) σ Q := X_getf (w := 650) kX7_albumOf_7 (by decide +kernel)
theorem kX7_albumOf_10 : aCode iX7_albumOf 10 = some (.bipush 34, 2) := by decide +kernel
theorem sX7_albumOf_10 {d : Nat} {σ : aS} {Q : aQ} {ls : aL} {st : List Value} : aX d iX7_albumOf 10 (ls) (st) σ Q ↔ aX d iX7_albumOf 12 (ls) (.int (nI 34) :: st) σ Q := X_bipush kX7_albumOf_10 (by decide +kernel)
theorem kX7_albumOf_12 : aCode iX7_albumOf 12 = some (.iaload, 1) := by decide +kernel
theorem sX7_albumOf_12 {d : Nat} {σ : aS} {Q : aQ} {a : Nat} {i : Int32} {ls : aL} {st : List Value} : aX d iX7_albumOf 12 (ls) (.int i :: .ref a :: st) σ Q ↔ ∃ x, aRowR σ a = some x ∧ vp_in i x.1 ∧ aX d iX7_albumOf 13 (ls) (.int (x.2 i.toNatClampNeg) :: st) σ Q := X_iaload kX7_albumOf_12
theorem kX7_albumOf_13 : aCode iX7_albumOf 13 = some (.if_icmp .ge 33, 3) := by decide +kernel
theorem sX7_albumOf_13 {d : Nat} {σ : aS} {Q : aQ} {x y : Int32} {ls : aL} {st : List Value} : aX d iX7_albumOf 13 (ls) (.int y :: .int x :: st) σ Q ↔ (if y ≤ x then aX d iX7_albumOf 46 (ls) (st) σ Q else aX d iX7_albumOf 16 (ls) (st) σ Q) := by rw [X_icmp kX7_albumOf_13 (t := 46) (by decide)]; simp only [aCmp_ge]
theorem kX7_albumOf_16 : aCode iX7_albumOf 16 = some (.aload_n 0, 1) := by decide +kernel
theorem sX7_albumOf_16 {d : Nat} {σ : aS} {Q : aQ} {x : Nat} {lt : aL} {st : List Value} : aX d iX7_albumOf 16 (some (.ref x) :: lt) (st) σ Q ↔ aX d iX7_albumOf 17 (some (.ref x) :: lt) (.ref x :: st) σ Q := X_aloadn kX7_albumOf_16 rfl rfl
theorem kX7_albumOf_17 : aCode iX7_albumOf 17 = some (.iload_n 3, 1) := by decide +kernel
theorem sX7_albumOf_17 {d : Nat} {σ : aS} {Q : aQ} {l0 l1 l2 : Option Value} {x : Int32} {lt : aL} {st : List Value} : aX d iX7_albumOf 17 (l0 :: l1 :: l2 :: some (.int x) :: lt) (st) σ Q ↔ aX d iX7_albumOf 18 (l0 :: l1 :: l2 :: some (.int x) :: lt) (.int x :: st) σ Q := X_iloadn kX7_albumOf_17 rfl
theorem kX7_albumOf_18 : aCode iX7_albumOf 18 = some (.iconst 0, 1) := by decide +kernel
theorem sX7_albumOf_18 {d : Nat} {σ : aS} {Q : aQ} {ls : aL} {st : List Value} : aX d iX7_albumOf 18 (ls) (st) σ Q ↔ aX d iX7_albumOf 19 (ls) (.int (nI 0) :: st) σ Q := X_iconst kX7_albumOf_18 (by decide +kernel)
theorem kX7_albumOf_19 : aCode iX7_albumOf 19 = some (.invokevirtual 40, 3) := by decide +kernel
theorem sX7_albumOf_19 {d : Nat} {σ : aS} {Q : aQ} {b : Nat} {p0 : Int32} {p1 : Int32} {ls : aL} : aX (d + 1) iX7_albumOf 19 (ls) (.int p1 :: .int p0 :: .ref b :: []) σ Q ↔ aIs σ b 7 ∧ aX d iX7_part 0 [some (.ref b), some (.int p0), some (.int p1)] [] σ (fun r τ => aX (d + 1) iX7_albumOf 22 (ls) (aret r ([])) τ Q) := X_invv (N := 2) (As := [.int p1, .int p0]) (w := 750) kX7_albumOf_19 (by decide +kernel) (by decide +kernel) rfl rfl (by simp only [List.length_cons, List.length_nil]; omega) (by simp only [List.length_cons, List.length_nil]; omega) (by decide +kernel) rfl (Nat.le_of_ble_eq_true rfl)
theorem kX7_albumOf_22 : aCode iX7_albumOf 22 = some (.iload_n 1, 1) := by decide +kernel
theorem sX7_albumOf_22 {d : Nat} {σ : aS} {Q : aQ} {l0 : Option Value} {x : Int32} {lt : aL} {st : List Value} : aX d iX7_albumOf 22 (l0 :: some (.int x) :: lt) (st) σ Q ↔ aX d iX7_albumOf 23 (l0 :: some (.int x) :: lt) (.int x :: st) σ Q := X_iloadn kX7_albumOf_22 rfl
theorem kX7_albumOf_23 : aCode iX7_albumOf 23 = some (.if_icmp .ne 15, 3) := by decide +kernel
theorem sX7_albumOf_23 {d : Nat} {σ : aS} {Q : aQ} {x y : Int32} {ls : aL} {st : List Value} : aX d iX7_albumOf 23 (ls) (.int y :: .int x :: st) σ Q ↔ (if ¬ x = y then aX d iX7_albumOf 38 (ls) (st) σ Q else aX d iX7_albumOf 26 (ls) (st) σ Q) := by rw [X_icmp kX7_albumOf_23 (t := 38) (by decide)]; simp only [aCmp_ne]
theorem kX7_albumOf_26 : aCode iX7_albumOf 26 = some (.aload_n 0, 1) := by decide +kernel
theorem sX7_albumOf_26 {d : Nat} {σ : aS} {Q : aQ} {x : Nat} {lt : aL} {st : List Value} : aX d iX7_albumOf 26 (some (.ref x) :: lt) (st) σ Q ↔ aX d iX7_albumOf 27 (some (.ref x) :: lt) (.ref x :: st) σ Q := X_aloadn kX7_albumOf_26 rfl rfl
theorem kX7_albumOf_27 : aCode iX7_albumOf 27 = some (.iload_n 3, 1) := by decide +kernel
theorem sX7_albumOf_27 {d : Nat} {σ : aS} {Q : aQ} {l0 l1 l2 : Option Value} {x : Int32} {lt : aL} {st : List Value} : aX d iX7_albumOf 27 (l0 :: l1 :: l2 :: some (.int x) :: lt) (st) σ Q ↔ aX d iX7_albumOf 28 (l0 :: l1 :: l2 :: some (.int x) :: lt) (.int x :: st) σ Q := X_iloadn kX7_albumOf_27 rfl
theorem kX7_albumOf_28 : aCode iX7_albumOf 28 = some (.invokevirtual 59, 3) := by decide +kernel
theorem sX7_albumOf_28 {d : Nat} {σ : aS} {Q : aQ} {b : Nat} {p0 : Int32} {ls : aL} : aX (d + 1) iX7_albumOf 28 (ls) (.int p0 :: .ref b :: []) σ Q ↔ aIs σ b 7 ∧ aX d iX7_goesRound 0 [some (.ref b), some (.int p0)] [] σ (fun r τ => aX (d + 1) iX7_albumOf 31 (ls) (aret r ([])) τ Q) := X_invv (N := 1) (As := [.int p0]) (w := 754) kX7_albumOf_28 (by decide +kernel) (by decide +kernel) rfl rfl (by simp only [List.length_cons, List.length_nil]; omega) (by simp only [List.length_cons, List.length_nil]; omega) (by decide +kernel) rfl (Nat.le_of_ble_eq_true rfl)
theorem kX7_albumOf_31 : aCode iX7_albumOf 31 = some (.ifCond .eq 7, 3) := by decide +kernel
theorem sX7_albumOf_31 {d : Nat} {σ : aS} {Q : aQ} {x : Int32} {ls : aL} {st : List Value} : aX d iX7_albumOf 31 (ls) (.int x :: st) σ Q ↔ (if x = nI 0 then aX d iX7_albumOf 38 (ls) (st) σ Q else aX d iX7_albumOf 34 (ls) (st) σ Q) := by rw [X_if kX7_albumOf_31 (t := 38) (by decide)]; simp only [aCmp_eq]
theorem kX7_albumOf_34 : aCode iX7_albumOf 34 = some (.iload_n 3, 1) := by decide +kernel
theorem sX7_albumOf_34 {d : Nat} {σ : aS} {Q : aQ} {l0 l1 l2 : Option Value} {x : Int32} {lt : aL} {st : List Value} : aX d iX7_albumOf 34 (l0 :: l1 :: l2 :: some (.int x) :: lt) (st) σ Q ↔ aX d iX7_albumOf 35 (l0 :: l1 :: l2 :: some (.int x) :: lt) (.int x :: st) σ Q := X_iloadn kX7_albumOf_34 rfl
theorem kX7_albumOf_35 : aCode iX7_albumOf 35 = some (.goto 4, 3) := by decide +kernel
theorem sX7_albumOf_35 {d : Nat} {σ : aS} {Q : aQ} {ls : aL} {st : List Value} : aX d iX7_albumOf 35 (ls) (st) σ Q ↔ aX d iX7_albumOf 39 (ls) (st) σ Q := X_goto kX7_albumOf_35 (by decide)
theorem kX7_albumOf_38 : aCode iX7_albumOf 38 = some (.iload_n 2, 1) := by decide +kernel
theorem sX7_albumOf_38 {d : Nat} {σ : aS} {Q : aQ} {l0 l1 : Option Value} {x : Int32} {lt : aL} {st : List Value} : aX d iX7_albumOf 38 (l0 :: l1 :: some (.int x) :: lt) (st) σ Q ↔ aX d iX7_albumOf 39 (l0 :: l1 :: some (.int x) :: lt) (.int x :: st) σ Q := X_iloadn kX7_albumOf_38 rfl
theorem kX7_albumOf_39 : aCode iX7_albumOf 39 = some (.istore_n 2, 1) := by decide +kernel
theorem sX7_albumOf_39 {d : Nat} {σ : aS} {Q : aQ} {l0 l1 lo : Option Value} {x : Int32} {lt : aL} {st : List Value} : aX d iX7_albumOf 39 (l0 :: l1 :: lo :: lt) (.int x :: st) σ Q ↔ aX d iX7_albumOf 40 (l0 :: aclr l1 :: some (.int x) :: lt) (st) σ Q := X_istoren kX7_albumOf_39 (by simp only [List.length_cons]; omega)
theorem kX7_albumOf_40 : aCode iX7_albumOf 40 = some (.iinc 3 1, 3) := by decide +kernel
theorem sX7_albumOf_40 {d : Nat} {σ : aS} {Q : aQ} {l0 l1 l2 : Option Value} {x : Int32} {lt : aL} {st : List Value} : aX d iX7_albumOf 40 (l0 :: l1 :: l2 :: some (.int x) :: lt) (st) σ Q ↔ aX d iX7_albumOf 43 (l0 :: l1 :: aclr l2 :: some (.int (x + nI 1)) :: lt) (st) σ Q := X_iinc kX7_albumOf_40 rfl (by decide +kernel)
theorem kX7_albumOf_43 : aCode iX7_albumOf 43 = some (.goto (-38), 3) := by decide +kernel
theorem sX7_albumOf_43 {d : Nat} {σ : aS} {Q : aQ} {ls : aL} {st : List Value} : aX d iX7_albumOf 43 (ls) (st) σ Q ↔ aX d iX7_albumOf 5 (ls) (st) σ Q := X_goto kX7_albumOf_43 (by decide)
theorem kX7_albumOf_46 : aCode iX7_albumOf 46 = some (.iload_n 2, 1) := by decide +kernel
theorem sX7_albumOf_46 {d : Nat} {σ : aS} {Q : aQ} {l0 l1 : Option Value} {x : Int32} {lt : aL} {st : List Value} : aX d iX7_albumOf 46 (l0 :: l1 :: some (.int x) :: lt) (st) σ Q ↔ aX d iX7_albumOf 47 (l0 :: l1 :: some (.int x) :: lt) (.int x :: st) σ Q := X_iloadn kX7_albumOf_46 rfl
theorem kX7_albumOf_47 : aCode iX7_albumOf 47 = some (.ireturn, 1) := by decide +kernel
theorem sX7_albumOf_47 {d : Nat} {σ : aS} {Q : aQ} {v : Int32} {ls : aL} : aX d iX7_albumOf 47 (ls) ([.int v]) σ Q ↔ Q (some (.int v)) σ := X_iret kX7_albumOf_47 (by decide +kernel)
theorem kX7_withHow_0 : aCode iX7_withHow 0 = some (.iconst 0, 1) := by decide +kernel
theorem sX7_withHow_0 {d : Nat} {σ : aS} {Q : aQ} {ls : aL} {st : List Value} : aX d iX7_withHow 0 (ls) (st) σ Q ↔ aX d iX7_withHow 1 (ls) (.int (nI 0) :: st) σ Q := X_iconst kX7_withHow_0 (by decide +kernel)
theorem kX7_withHow_1 : aCode iX7_withHow 1 = some (.istore_n 2, 1) := by decide +kernel
theorem sX7_withHow_1 {d : Nat} {σ : aS} {Q : aQ} {l0 l1 lo : Option Value} {x : Int32} {lt : aL} {st : List Value} : aX d iX7_withHow 1 (l0 :: l1 :: lo :: lt) (.int x :: st) σ Q ↔ aX d iX7_withHow 2 (l0 :: aclr l1 :: some (.int x) :: lt) (st) σ Q := X_istoren kX7_withHow_1 (by simp only [List.length_cons]; omega)
theorem kX7_withHow_2 : aCode iX7_withHow 2 = some (.iconst 0, 1) := by decide +kernel
theorem sX7_withHow_2 {d : Nat} {σ : aS} {Q : aQ} {ls : aL} {st : List Value} : aX d iX7_withHow 2 (ls) (st) σ Q ↔ aX d iX7_withHow 3 (ls) (.int (nI 0) :: st) σ Q := X_iconst kX7_withHow_2 (by decide +kernel)
theorem kX7_withHow_3 : aCode iX7_withHow 3 = some (.istore_n 3, 1) := by decide +kernel
theorem sX7_withHow_3 {d : Nat} {σ : aS} {Q : aQ} {l0 l1 l2 lo : Option Value} {x : Int32} {lt : aL} {st : List Value} : aX d iX7_withHow 3 (l0 :: l1 :: l2 :: lo :: lt) (.int x :: st) σ Q ↔ aX d iX7_withHow 4 (l0 :: l1 :: aclr l2 :: some (.int x) :: lt) (st) σ Q := X_istoren kX7_withHow_3 (by simp only [List.length_cons]; omega)
theorem kX7_withHow_4 : aCode iX7_withHow 4 = some (.iload_n 3, 1) := by decide +kernel
theorem sX7_withHow_4 {d : Nat} {σ : aS} {Q : aQ} {l0 l1 l2 : Option Value} {x : Int32} {lt : aL} {st : List Value} : aX d iX7_withHow 4 (l0 :: l1 :: l2 :: some (.int x) :: lt) (st) σ Q ↔ aX d iX7_withHow 5 (l0 :: l1 :: l2 :: some (.int x) :: lt) (.int x :: st) σ Q := X_iloadn kX7_withHow_4 rfl
theorem kX7_withHow_5 : aCode iX7_withHow 5 = some (.aload_n 0, 1) := by decide +kernel
theorem sX7_withHow_5 {d : Nat} {σ : aS} {Q : aQ} {x : Nat} {lt : aL} {st : List Value} : aX d iX7_withHow 5 (some (.ref x) :: lt) (st) σ Q ↔ aX d iX7_withHow 6 (some (.ref x) :: lt) (.ref x :: st) σ Q := X_aloadn kX7_withHow_5 rfl rfl
theorem kX7_withHow_6 : aCode iX7_withHow 6 = some (.getfield 7, 3) := by decide +kernel
theorem sX7_withHow_6 {d : Nat} {σ : aS} {Q : aQ} {a : Nat} {ls : aL} {st : List Value} : aX d iX7_withHow 6 (ls) (.ref a :: st) σ Q ↔ ∃ v, aFld σ a 7 0 = some v ∧ aX d iX7_withHow 9 (ls) (v :: st) σ Q := X_getf (w := 650) kX7_withHow_6 (by decide +kernel)
theorem kX7_withHow_9 : aCode iX7_withHow 9 = some (.bipush 34, 2) := by decide +kernel
theorem sX7_withHow_9 {d : Nat} {σ : aS} {Q : aQ} {ls : aL} {st : List Value} : aX d iX7_withHow 9 (ls) (st) σ Q ↔ aX d iX7_withHow 11 (ls) (.int (nI 34) :: st) σ Q := X_bipush kX7_withHow_9 (by decide +kernel)
theorem kX7_withHow_11 : aCode iX7_withHow 11 = some (.iaload, 1) := by decide +kernel
theorem sX7_withHow_11 {d : Nat} {σ : aS} {Q : aQ} {a : Nat} {i : Int32} {ls : aL} {st : List Value} : aX d iX7_withHow 11 (ls) (.int i :: .ref a :: st) σ Q ↔ ∃ x, aRowR σ a = some x ∧ vp_in i x.1 ∧ aX d iX7_withHow 12 (ls) (.int (x.2 i.toNatClampNeg) :: st) σ Q := X_iaload kX7_withHow_11
theorem kX7_withHow_12 : aCode iX7_withHow 12 = some (.if_icmp .ge 27, 3) := by decide +kernel
theorem sX7_withHow_12 {d : Nat} {σ : aS} {Q : aQ} {x y : Int32} {ls : aL} {st : List Value} : aX d iX7_withHow 12 (ls) (.int y :: .int x :: st) σ Q ↔ (if y ≤ x then aX d iX7_withHow 39 (ls) (st) σ Q else aX d iX7_withHow 15 (ls) (st) σ Q) := by rw [X_icmp kX7_withHow_12 (t := 39) (by decide)]; simp only [aCmp_ge]
theorem kX7_withHow_15 : aCode iX7_withHow 15 = some (.iload_n 2, 1) := by decide +kernel
theorem sX7_withHow_15 {d : Nat} {σ : aS} {Q : aQ} {l0 l1 : Option Value} {x : Int32} {lt : aL} {st : List Value} : aX d iX7_withHow 15 (l0 :: l1 :: some (.int x) :: lt) (st) σ Q ↔ aX d iX7_withHow 16 (l0 :: l1 :: some (.int x) :: lt) (.int x :: st) σ Q := X_iloadn kX7_withHow_15 rfl
theorem kX7_withHow_16 : aCode iX7_withHow 16 = some (.aload_n 0, 1) := by decide +kernel
theorem sX7_withHow_16 {d : Nat} {σ : aS} {Q : aQ} {x : Nat} {lt : aL} {st : List Value} : aX d iX7_withHow 16 (some (.ref x) :: lt) (st) σ Q ↔ aX d iX7_withHow 17 (some (.ref x) :: lt) (.ref x :: st) σ Q := X_aloadn kX7_withHow_16 rfl rfl
theorem kX7_withHow_17 : aCode iX7_withHow 17 = some (.iload_n 3, 1) := by decide +kernel
theorem sX7_withHow_17 {d : Nat} {σ : aS} {Q : aQ} {l0 l1 l2 : Option Value} {x : Int32} {lt : aL} {st : List Value} : aX d iX7_withHow 17 (l0 :: l1 :: l2 :: some (.int x) :: lt) (st) σ Q ↔ aX d iX7_withHow 18 (l0 :: l1 :: l2 :: some (.int x) :: lt) (.int x :: st) σ Q := X_iloadn kX7_withHow_17 rfl
theorem kX7_withHow_18 : aCode iX7_withHow 18 = some (.iconst 2, 1) := by decide +kernel
theorem sX7_withHow_18 {d : Nat} {σ : aS} {Q : aQ} {ls : aL} {st : List Value} : aX d iX7_withHow 18 (ls) (st) σ Q ↔ aX d iX7_withHow 19 (ls) (.int (nI 2) :: st) σ Q := X_iconst kX7_withHow_18 (by decide +kernel)
theorem kX7_withHow_19 : aCode iX7_withHow 19 = some (.invokevirtual 40, 3) := by decide +kernel
theorem sX7_withHow_19 {d : Nat} {σ : aS} {Q : aQ} {b : Nat} {p0 : Int32} {p1 : Int32} {v0 : Value} {ls : aL} : aX (d + 1) iX7_withHow 19 (ls) (.int p1 :: .int p0 :: .ref b :: v0 :: []) σ Q ↔ aIs σ b 7 ∧ aX d iX7_part 0 [some (.ref b), some (.int p0), some (.int p1)] [] σ (fun r τ => aX (d + 1) iX7_withHow 22 (ls) (aret r (v0 :: [])) τ Q) := X_invv (N := 2) (As := [.int p1, .int p0]) (w := 750) kX7_withHow_19 (by decide +kernel) (by decide +kernel) rfl rfl (by simp only [List.length_cons, List.length_nil]; omega) (by simp only [List.length_cons, List.length_nil]; omega) (by decide +kernel) rfl (Nat.le_of_ble_eq_true rfl)
theorem kX7_withHow_22 : aCode iX7_withHow 22 = some (.iload_n 1, 1) := by decide +kernel
theorem sX7_withHow_22 {d : Nat} {σ : aS} {Q : aQ} {l0 : Option Value} {x : Int32} {lt : aL} {st : List Value} : aX d iX7_withHow 22 (l0 :: some (.int x) :: lt) (st) σ Q ↔ aX d iX7_withHow 23 (l0 :: some (.int x) :: lt) (.int x :: st) σ Q := X_iloadn kX7_withHow_22 rfl
theorem kX7_withHow_23 : aCode iX7_withHow 23 = some (.if_icmp .ne 7, 3) := by decide +kernel
theorem sX7_withHow_23 {d : Nat} {σ : aS} {Q : aQ} {x y : Int32} {ls : aL} {st : List Value} : aX d iX7_withHow 23 (ls) (.int y :: .int x :: st) σ Q ↔ (if ¬ x = y then aX d iX7_withHow 30 (ls) (st) σ Q else aX d iX7_withHow 26 (ls) (st) σ Q) := by rw [X_icmp kX7_withHow_23 (t := 30) (by decide)]; simp only [aCmp_ne]
theorem kX7_withHow_26 : aCode iX7_withHow 26 = some (.iconst 1, 1) := by decide +kernel
theorem sX7_withHow_26 {d : Nat} {σ : aS} {Q : aQ} {ls : aL} {st : List Value} : aX d iX7_withHow 26 (ls) (st) σ Q ↔ aX d iX7_withHow 27 (ls) (.int (nI 1) :: st) σ Q := X_iconst kX7_withHow_26 (by decide +kernel)
theorem kX7_withHow_27 : aCode iX7_withHow 27 = some (.goto 4, 3) := by decide +kernel
theorem sX7_withHow_27 {d : Nat} {σ : aS} {Q : aQ} {ls : aL} {st : List Value} : aX d iX7_withHow 27 (ls) (st) σ Q ↔ aX d iX7_withHow 31 (ls) (st) σ Q := X_goto kX7_withHow_27 (by decide)
theorem kX7_withHow_30 : aCode iX7_withHow 30 = some (.iconst 0, 1) := by decide +kernel
theorem sX7_withHow_30 {d : Nat} {σ : aS} {Q : aQ} {ls : aL} {st : List Value} : aX d iX7_withHow 30 (ls) (st) σ Q ↔ aX d iX7_withHow 31 (ls) (.int (nI 0) :: st) σ Q := X_iconst kX7_withHow_30 (by decide +kernel)
theorem kX7_withHow_31 : aCode iX7_withHow 31 = some (.iadd, 1) := by decide +kernel
theorem sX7_withHow_31 {d : Nat} {σ : aS} {Q : aQ} {x y : Int32} {ls : aL} {st : List Value} : aX d iX7_withHow 31 (ls) (.int y :: .int x :: st) σ Q ↔ aX d iX7_withHow 32 (ls) (.int (x + y) :: st) σ Q := X_iadd kX7_withHow_31
theorem kX7_withHow_32 : aCode iX7_withHow 32 = some (.istore_n 2, 1) := by decide +kernel
theorem sX7_withHow_32 {d : Nat} {σ : aS} {Q : aQ} {l0 l1 lo : Option Value} {x : Int32} {lt : aL} {st : List Value} : aX d iX7_withHow 32 (l0 :: l1 :: lo :: lt) (.int x :: st) σ Q ↔ aX d iX7_withHow 33 (l0 :: aclr l1 :: some (.int x) :: lt) (st) σ Q := X_istoren kX7_withHow_32 (by simp only [List.length_cons]; omega)
theorem kX7_withHow_33 : aCode iX7_withHow 33 = some (.iinc 3 1, 3) := by decide +kernel
theorem sX7_withHow_33 {d : Nat} {σ : aS} {Q : aQ} {l0 l1 l2 : Option Value} {x : Int32} {lt : aL} {st : List Value} : aX d iX7_withHow 33 (l0 :: l1 :: l2 :: some (.int x) :: lt) (st) σ Q ↔ aX d iX7_withHow 36 (l0 :: l1 :: aclr l2 :: some (.int (x + nI 1)) :: lt) (st) σ Q := X_iinc kX7_withHow_33 rfl (by decide +kernel)
theorem kX7_withHow_36 : aCode iX7_withHow 36 = some (.goto (-32), 3) := by decide +kernel
theorem sX7_withHow_36 {d : Nat} {σ : aS} {Q : aQ} {ls : aL} {st : List Value} : aX d iX7_withHow 36 (ls) (st) σ Q ↔ aX d iX7_withHow 4 (ls) (st) σ Q := X_goto kX7_withHow_36 (by decide)
theorem kX7_withHow_39 : aCode iX7_withHow 39 = some (.iload_n 2, 1) := by decide +kernel
theorem sX7_withHow_39 {d : Nat} {σ : aS} {Q : aQ} {l0 l1 : Option Value} {x : Int32} {lt : aL} {st : List Value} : aX d iX7_withHow 39 (l0 :: l1 :: some (.int x) :: lt) (st) σ Q ↔ aX d iX7_withHow 40 (l0 :: l1 :: some (.int x) :: lt) (.int x :: st) σ Q := X_iloadn kX7_withHow_39 rfl
theorem kX7_withHow_40 : aCode iX7_withHow 40 = some (.ireturn, 1) := by decide +kernel
theorem sX7_withHow_40 {d : Nat} {σ : aS} {Q : aQ} {v : Int32} {ls : aL} : aX d iX7_withHow 40 (ls) ([.int v]) σ Q ↔ Q (some (.int v)) σ := X_iret kX7_withHow_40 (by decide +kernel)
theorem kX7_guessed_0 : aCode iX7_guessed 0 = some (.iconst 0, 1) := by decide +kernel
theorem sX7_guessed_0 {d : Nat} {σ : aS} {Q : aQ} {ls : aL} {st : List Value} : aX d iX7_guessed 0 (ls) (st) σ Q ↔ aX d iX7_guessed 1 (ls) (.int (nI 0) :: st) σ Q := X_iconst kX7_guessed_0 (by decide +kernel)
theorem kX7_guessed_1 : aCode iX7_guessed 1 = some (.istore_n 2, 1) := by decide +kernel
theorem sX7_guessed_1 {d : Nat} {σ : aS} {Q : aQ} {l0 l1 lo : Option Value} {x : Int32} {lt : aL} {st : List Value} : aX d iX7_guessed 1 (l0 :: l1 :: lo :: lt) (.int x :: st) σ Q ↔ aX d iX7_guessed 2 (l0 :: aclr l1 :: some (.int x) :: lt) (st) σ Q := X_istoren kX7_guessed_1 (by simp only [List.length_cons]; omega)
theorem kX7_guessed_2 : aCode iX7_guessed 2 = some (.iconst 1, 1) := by decide +kernel
theorem sX7_guessed_2 {d : Nat} {σ : aS} {Q : aQ} {ls : aL} {st : List Value} : aX d iX7_guessed 2 (ls) (st) σ Q ↔ aX d iX7_guessed 3 (ls) (.int (nI 1) :: st) σ Q := X_iconst kX7_guessed_2 (by decide +kernel)
theorem kX7_guessed_3 : aCode iX7_guessed 3 = some (.istore_n 3, 1) := by decide +kernel
theorem sX7_guessed_3 {d : Nat} {σ : aS} {Q : aQ} {l0 l1 l2 lo : Option Value} {x : Int32} {lt : aL} {st : List Value} : aX d iX7_guessed 3 (l0 :: l1 :: l2 :: lo :: lt) (.int x :: st) σ Q ↔ aX d iX7_guessed 4 (l0 :: l1 :: aclr l2 :: some (.int x) :: lt) (st) σ Q := X_istoren kX7_guessed_3 (by simp only [List.length_cons]; omega)
theorem kX7_guessed_4 : aCode iX7_guessed 4 = some (.iload_n 3, 1) := by decide +kernel
theorem sX7_guessed_4 {d : Nat} {σ : aS} {Q : aQ} {l0 l1 l2 : Option Value} {x : Int32} {lt : aL} {st : List Value} : aX d iX7_guessed 4 (l0 :: l1 :: l2 :: some (.int x) :: lt) (st) σ Q ↔ aX d iX7_guessed 5 (l0 :: l1 :: l2 :: some (.int x) :: lt) (.int x :: st) σ Q := X_iloadn kX7_guessed_4 rfl
theorem kX7_guessed_5 : aCode iX7_guessed 5 = some (.bipush 16, 2) := by decide +kernel
theorem sX7_guessed_5 {d : Nat} {σ : aS} {Q : aQ} {ls : aL} {st : List Value} : aX d iX7_guessed 5 (ls) (st) σ Q ↔ aX d iX7_guessed 7 (ls) (.int (nI 16) :: st) σ Q := X_bipush kX7_guessed_5 (by decide +kernel)
theorem kX7_guessed_7 : aCode iX7_guessed 7 = some (.if_icmp .ge 44, 3) := by decide +kernel
theorem sX7_guessed_7 {d : Nat} {σ : aS} {Q : aQ} {x y : Int32} {ls : aL} {st : List Value} : aX d iX7_guessed 7 (ls) (.int y :: .int x :: st) σ Q ↔ (if y ≤ x then aX d iX7_guessed 51 (ls) (st) σ Q else aX d iX7_guessed 10 (ls) (st) σ Q) := by rw [X_icmp kX7_guessed_7 (t := 51) (by decide)]; simp only [aCmp_ge]
theorem kX7_guessed_10 : aCode iX7_guessed 10 = some (.aload_n 0, 1) := by decide +kernel
theorem sX7_guessed_10 {d : Nat} {σ : aS} {Q : aQ} {x : Nat} {lt : aL} {st : List Value} : aX d iX7_guessed 10 (some (.ref x) :: lt) (st) σ Q ↔ aX d iX7_guessed 11 (some (.ref x) :: lt) (.ref x :: st) σ Q := X_aloadn kX7_guessed_10 rfl rfl
theorem kX7_guessed_11 : aCode iX7_guessed 11 = some (.getfield 7, 3) := by decide +kernel
theorem sX7_guessed_11 {d : Nat} {σ : aS} {Q : aQ} {a : Nat} {ls : aL} {st : List Value} : aX d iX7_guessed 11 (ls) (.ref a :: st) σ Q ↔ ∃ v, aFld σ a 7 0 = some v ∧ aX d iX7_guessed 14 (ls) (v :: st) σ Q := X_getf (w := 650) kX7_guessed_11 (by decide +kernel)
theorem kX7_guessed_14 : aCode iX7_guessed 14 = some (.iconst 0, 1) := by decide +kernel
theorem sX7_guessed_14 {d : Nat} {σ : aS} {Q : aQ} {ls : aL} {st : List Value} : aX d iX7_guessed 14 (ls) (st) σ Q ↔ aX d iX7_guessed 15 (ls) (.int (nI 0) :: st) σ Q := X_iconst kX7_guessed_14 (by decide +kernel)
theorem kX7_guessed_15 : aCode iX7_guessed 15 = some (.iload_n 3, 1) := by decide +kernel
theorem sX7_guessed_15 {d : Nat} {σ : aS} {Q : aQ} {l0 l1 l2 : Option Value} {x : Int32} {lt : aL} {st : List Value} : aX d iX7_guessed 15 (l0 :: l1 :: l2 :: some (.int x) :: lt) (st) σ Q ↔ aX d iX7_guessed 16 (l0 :: l1 :: l2 :: some (.int x) :: lt) (.int x :: st) σ Q := X_iloadn kX7_guessed_15 rfl
theorem kX7_guessed_16 : aCode iX7_guessed 16 = some (.iadd, 1) := by decide +kernel
theorem sX7_guessed_16 {d : Nat} {σ : aS} {Q : aQ} {x y : Int32} {ls : aL} {st : List Value} : aX d iX7_guessed 16 (ls) (.int y :: .int x :: st) σ Q ↔ aX d iX7_guessed 17 (ls) (.int (x + y) :: st) σ Q := X_iadd kX7_guessed_16
theorem kX7_guessed_17 : aCode iX7_guessed 17 = some (.iaload, 1) := by decide +kernel
theorem sX7_guessed_17 {d : Nat} {σ : aS} {Q : aQ} {a : Nat} {i : Int32} {ls : aL} {st : List Value} : aX d iX7_guessed 17 (ls) (.int i :: .ref a :: st) σ Q ↔ ∃ x, aRowR σ a = some x ∧ vp_in i x.1 ∧ aX d iX7_guessed 18 (ls) (.int (x.2 i.toNatClampNeg) :: st) σ Q := X_iaload kX7_guessed_17
theorem kX7_guessed_18 : aCode iX7_guessed 18 = some (.iload_n 1, 1) := by decide +kernel
theorem sX7_guessed_18 {d : Nat} {σ : aS} {Q : aQ} {l0 : Option Value} {x : Int32} {lt : aL} {st : List Value} : aX d iX7_guessed 18 (l0 :: some (.int x) :: lt) (st) σ Q ↔ aX d iX7_guessed 19 (l0 :: some (.int x) :: lt) (.int x :: st) σ Q := X_iloadn kX7_guessed_18 rfl
theorem kX7_guessed_19 : aCode iX7_guessed 19 = some (.ixor, 1) := by decide +kernel
theorem sX7_guessed_19 {d : Nat} {σ : aS} {Q : aQ} {x y : Int32} {ls : aL} {st : List Value} : aX d iX7_guessed 19 (ls) (.int y :: .int x :: st) σ Q ↔ aX d iX7_guessed 20 (ls) (.int (x ^^^ y) :: st) σ Q := X_ixor kX7_guessed_19
theorem kX7_guessed_20 : aCode iX7_guessed 20 = some (.invokestatic 63, 3) := by decide +kernel
theorem sX7_guessed_20 {d : Nat} {σ : aS} {Q : aQ} {p0 : Int32} {ls : aL} : aX (d + 1) iX7_guessed 20 (ls) (.int p0 :: []) σ Q ↔ aX d iX7_bits 0 [some (.int p0), none, none] [] σ (fun r τ => aX (d + 1) iX7_guessed 23 (ls) (aret r ([])) τ Q) := X_invs (N := 1) (As := [.int p0]) (k := 1) (w := 719) kX7_guessed_20 (by decide +kernel) (by decide) (by decide +kernel) rfl rfl (by simp only [List.length_cons, List.length_nil]; omega) (by simp only [List.length_cons, List.length_nil]; omega) rfl (Nat.le_of_ble_eq_true rfl)
theorem kX7_guessed_23 : aCode iX7_guessed 23 = some (.aload_n 0, 1) := by decide +kernel
theorem sX7_guessed_23 {d : Nat} {σ : aS} {Q : aQ} {x : Nat} {lt : aL} {st : List Value} : aX d iX7_guessed 23 (some (.ref x) :: lt) (st) σ Q ↔ aX d iX7_guessed 24 (some (.ref x) :: lt) (.ref x :: st) σ Q := X_aloadn kX7_guessed_23 rfl rfl
theorem kX7_guessed_24 : aCode iX7_guessed 24 = some (.getfield 7, 3) := by decide +kernel
theorem sX7_guessed_24 {d : Nat} {σ : aS} {Q : aQ} {a : Nat} {ls : aL} {st : List Value} : aX d iX7_guessed 24 (ls) (.ref a :: st) σ Q ↔ ∃ v, aFld σ a 7 0 = some v ∧ aX d iX7_guessed 27 (ls) (v :: st) σ Q := X_getf (w := 650) kX7_guessed_24 (by decide +kernel)
theorem kX7_guessed_27 : aCode iX7_guessed 27 = some (.iconst 0, 1) := by decide +kernel
theorem sX7_guessed_27 {d : Nat} {σ : aS} {Q : aQ} {ls : aL} {st : List Value} : aX d iX7_guessed 27 (ls) (st) σ Q ↔ aX d iX7_guessed 28 (ls) (.int (nI 0) :: st) σ Q := X_iconst kX7_guessed_27 (by decide +kernel)
theorem kX7_guessed_28 : aCode iX7_guessed 28 = some (.iload_n 2, 1) := by decide +kernel
theorem sX7_guessed_28 {d : Nat} {σ : aS} {Q : aQ} {l0 l1 : Option Value} {x : Int32} {lt : aL} {st : List Value} : aX d iX7_guessed 28 (l0 :: l1 :: some (.int x) :: lt) (st) σ Q ↔ aX d iX7_guessed 29 (l0 :: l1 :: some (.int x) :: lt) (.int x :: st) σ Q := X_iloadn kX7_guessed_28 rfl
theorem kX7_guessed_29 : aCode iX7_guessed 29 = some (.iadd, 1) := by decide +kernel
theorem sX7_guessed_29 {d : Nat} {σ : aS} {Q : aQ} {x y : Int32} {ls : aL} {st : List Value} : aX d iX7_guessed 29 (ls) (.int y :: .int x :: st) σ Q ↔ aX d iX7_guessed 30 (ls) (.int (x + y) :: st) σ Q := X_iadd kX7_guessed_29
theorem kX7_guessed_30 : aCode iX7_guessed 30 = some (.iaload, 1) := by decide +kernel
theorem sX7_guessed_30 {d : Nat} {σ : aS} {Q : aQ} {a : Nat} {i : Int32} {ls : aL} {st : List Value} : aX d iX7_guessed 30 (ls) (.int i :: .ref a :: st) σ Q ↔ ∃ x, aRowR σ a = some x ∧ vp_in i x.1 ∧ aX d iX7_guessed 31 (ls) (.int (x.2 i.toNatClampNeg) :: st) σ Q := X_iaload kX7_guessed_30
theorem kX7_guessed_31 : aCode iX7_guessed 31 = some (.iload_n 1, 1) := by decide +kernel
theorem sX7_guessed_31 {d : Nat} {σ : aS} {Q : aQ} {l0 : Option Value} {x : Int32} {lt : aL} {st : List Value} : aX d iX7_guessed 31 (l0 :: some (.int x) :: lt) (st) σ Q ↔ aX d iX7_guessed 32 (l0 :: some (.int x) :: lt) (.int x :: st) σ Q := X_iloadn kX7_guessed_31 rfl
theorem kX7_guessed_32 : aCode iX7_guessed 32 = some (.ixor, 1) := by decide +kernel
theorem sX7_guessed_32 {d : Nat} {σ : aS} {Q : aQ} {x y : Int32} {ls : aL} {st : List Value} : aX d iX7_guessed 32 (ls) (.int y :: .int x :: st) σ Q ↔ aX d iX7_guessed 33 (ls) (.int (x ^^^ y) :: st) σ Q := X_ixor kX7_guessed_32
theorem kX7_guessed_33 : aCode iX7_guessed 33 = some (.invokestatic 63, 3) := by decide +kernel
theorem sX7_guessed_33 {d : Nat} {σ : aS} {Q : aQ} {p0 : Int32} {v0 : Value} {ls : aL} : aX (d + 1) iX7_guessed 33 (ls) (.int p0 :: v0 :: []) σ Q ↔ aX d iX7_bits 0 [some (.int p0), none, none] [] σ (fun r τ => aX (d + 1) iX7_guessed 36 (ls) (aret r (v0 :: [])) τ Q) := X_invs (N := 1) (As := [.int p0]) (k := 1) (w := 719) kX7_guessed_33 (by decide +kernel) (by decide) (by decide +kernel) rfl rfl (by simp only [List.length_cons, List.length_nil]; omega) (by simp only [List.length_cons, List.length_nil]; omega) rfl (Nat.le_of_ble_eq_true rfl)
theorem kX7_guessed_36 : aCode iX7_guessed 36 = some (.if_icmp .ge 7, 3) := by decide +kernel
theorem sX7_guessed_36 {d : Nat} {σ : aS} {Q : aQ} {x y : Int32} {ls : aL} {st : List Value} : aX d iX7_guessed 36 (ls) (.int y :: .int x :: st) σ Q ↔ (if y ≤ x then aX d iX7_guessed 43 (ls) (st) σ Q else aX d iX7_guessed 39 (ls) (st) σ Q) := by rw [X_icmp kX7_guessed_36 (t := 43) (by decide)]; simp only [aCmp_ge]
theorem kX7_guessed_39 : aCode iX7_guessed 39 = some (.iload_n 3, 1) := by decide +kernel
theorem sX7_guessed_39 {d : Nat} {σ : aS} {Q : aQ} {l0 l1 l2 : Option Value} {x : Int32} {lt : aL} {st : List Value} : aX d iX7_guessed 39 (l0 :: l1 :: l2 :: some (.int x) :: lt) (st) σ Q ↔ aX d iX7_guessed 40 (l0 :: l1 :: l2 :: some (.int x) :: lt) (.int x :: st) σ Q := X_iloadn kX7_guessed_39 rfl
theorem kX7_guessed_40 : aCode iX7_guessed 40 = some (.goto 4, 3) := by decide +kernel
theorem sX7_guessed_40 {d : Nat} {σ : aS} {Q : aQ} {ls : aL} {st : List Value} : aX d iX7_guessed 40 (ls) (st) σ Q ↔ aX d iX7_guessed 44 (ls) (st) σ Q := X_goto kX7_guessed_40 (by decide)
theorem kX7_guessed_43 : aCode iX7_guessed 43 = some (.iload_n 2, 1) := by decide +kernel
theorem sX7_guessed_43 {d : Nat} {σ : aS} {Q : aQ} {l0 l1 : Option Value} {x : Int32} {lt : aL} {st : List Value} : aX d iX7_guessed 43 (l0 :: l1 :: some (.int x) :: lt) (st) σ Q ↔ aX d iX7_guessed 44 (l0 :: l1 :: some (.int x) :: lt) (.int x :: st) σ Q := X_iloadn kX7_guessed_43 rfl
theorem kX7_guessed_44 : aCode iX7_guessed 44 = some (.istore_n 2, 1) := by decide +kernel
theorem sX7_guessed_44 {d : Nat} {σ : aS} {Q : aQ} {l0 l1 lo : Option Value} {x : Int32} {lt : aL} {st : List Value} : aX d iX7_guessed 44 (l0 :: l1 :: lo :: lt) (.int x :: st) σ Q ↔ aX d iX7_guessed 45 (l0 :: aclr l1 :: some (.int x) :: lt) (st) σ Q := X_istoren kX7_guessed_44 (by simp only [List.length_cons]; omega)
theorem kX7_guessed_45 : aCode iX7_guessed 45 = some (.iinc 3 1, 3) := by decide +kernel
theorem sX7_guessed_45 {d : Nat} {σ : aS} {Q : aQ} {l0 l1 l2 : Option Value} {x : Int32} {lt : aL} {st : List Value} : aX d iX7_guessed 45 (l0 :: l1 :: l2 :: some (.int x) :: lt) (st) σ Q ↔ aX d iX7_guessed 48 (l0 :: l1 :: aclr l2 :: some (.int (x + nI 1)) :: lt) (st) σ Q := X_iinc kX7_guessed_45 rfl (by decide +kernel)
theorem kX7_guessed_48 : aCode iX7_guessed 48 = some (.goto (-44), 3) := by decide +kernel
theorem sX7_guessed_48 {d : Nat} {σ : aS} {Q : aQ} {ls : aL} {st : List Value} : aX d iX7_guessed 48 (ls) (st) σ Q ↔ aX d iX7_guessed 4 (ls) (st) σ Q := X_goto kX7_guessed_48 (by decide)
theorem kX7_guessed_51 : aCode iX7_guessed 51 = some (.iload_n 2, 1) := by decide +kernel
theorem sX7_guessed_51 {d : Nat} {σ : aS} {Q : aQ} {l0 l1 : Option Value} {x : Int32} {lt : aL} {st : List Value} : aX d iX7_guessed 51 (l0 :: l1 :: some (.int x) :: lt) (st) σ Q ↔ aX d iX7_guessed 52 (l0 :: l1 :: some (.int x) :: lt) (.int x :: st) σ Q := X_iloadn kX7_guessed_51 rfl
theorem kX7_guessed_52 : aCode iX7_guessed 52 = some (.ireturn, 1) := by decide +kernel
theorem sX7_guessed_52 {d : Nat} {σ : aS} {Q : aQ} {v : Int32} {ls : aL} : aX d iX7_guessed 52 (ls) ([.int v]) σ Q ↔ Q (some (.int v)) σ := X_iret kX7_guessed_52 (by decide +kernel)
theorem kX7_nextSeat_0 : aCode iX7_nextSeat 0 = some (.aload_n 0, 1) := by decide +kernel
theorem sX7_nextSeat_0 {d : Nat} {σ : aS} {Q : aQ} {x : Nat} {lt : aL} {st : List Value} : aX d iX7_nextSeat 0 (some (.ref x) :: lt) (st) σ Q ↔ aX d iX7_nextSeat 1 (some (.ref x) :: lt) (.ref x :: st) σ Q := X_aloadn kX7_nextSeat_0 rfl rfl
theorem kX7_nextSeat_1 : aCode iX7_nextSeat 1 = some (.iload_n 1, 1) := by decide +kernel
theorem sX7_nextSeat_1 {d : Nat} {σ : aS} {Q : aQ} {l0 : Option Value} {x : Int32} {lt : aL} {st : List Value} : aX d iX7_nextSeat 1 (l0 :: some (.int x) :: lt) (st) σ Q ↔ aX d iX7_nextSeat 2 (l0 :: some (.int x) :: lt) (.int x :: st) σ Q := X_iloadn kX7_nextSeat_1 rfl
theorem kX7_nextSeat_2 : aCode iX7_nextSeat 2 = some (.aload_n 0, 1) := by decide +kernel
theorem sX7_nextSeat_2 {d : Nat} {σ : aS} {Q : aQ} {x : Nat} {lt : aL} {st : List Value} : aX d iX7_nextSeat 2 (some (.ref x) :: lt) (st) σ Q ↔ aX d iX7_nextSeat 3 (some (.ref x) :: lt) (.ref x :: st) σ Q := X_aloadn kX7_nextSeat_2 rfl rfl
theorem kX7_nextSeat_3 : aCode iX7_nextSeat 3 = some (.iload_n 1, 1) := by decide +kernel
theorem sX7_nextSeat_3 {d : Nat} {σ : aS} {Q : aQ} {l0 : Option Value} {x : Int32} {lt : aL} {st : List Value} : aX d iX7_nextSeat 3 (l0 :: some (.int x) :: lt) (st) σ Q ↔ aX d iX7_nextSeat 4 (l0 :: some (.int x) :: lt) (.int x :: st) σ Q := X_iloadn kX7_nextSeat_3 rfl
theorem kX7_nextSeat_4 : aCode iX7_nextSeat 4 = some (.invokevirtual 48, 3) := by decide +kernel
theorem sX7_nextSeat_4 {d : Nat} {σ : aS} {Q : aQ} {b : Nat} {p0 : Int32} {v0 v1 : Value} {ls : aL} : aX (d + 1) iX7_nextSeat 4 (ls) (.int p0 :: .ref b :: v0 :: v1 :: []) σ Q ↔ aIs σ b 7 ∧ aX d iX7_lastPage 0 [some (.ref b), some (.int p0)] [] σ (fun r τ => aX (d + 1) iX7_nextSeat 7 (ls) (aret r (v0 :: v1 :: [])) τ Q) := X_invv (N := 1) (As := [.int p0]) (w := 802) kX7_nextSeat_4 (by decide +kernel) (by decide +kernel) rfl rfl (by simp only [List.length_cons, List.length_nil]; omega) (by simp only [List.length_cons, List.length_nil]; omega) (by decide +kernel) rfl (Nat.le_of_ble_eq_true rfl)
theorem kX7_nextSeat_7 : aCode iX7_nextSeat 7 = some (.iconst 0, 1) := by decide +kernel
theorem sX7_nextSeat_7 {d : Nat} {σ : aS} {Q : aQ} {ls : aL} {st : List Value} : aX d iX7_nextSeat 7 (ls) (st) σ Q ↔ aX d iX7_nextSeat 8 (ls) (.int (nI 0) :: st) σ Q := X_iconst kX7_nextSeat_7 (by decide +kernel)
theorem kX7_nextSeat_8 : aCode iX7_nextSeat 8 = some (.invokevirtual 55, 3) := by decide +kernel
theorem sX7_nextSeat_8 {d : Nat} {σ : aS} {Q : aQ} {b : Nat} {p0 : Int32} {p1 : Int32} {p2 : Int32} {ls : aL} : aX (d + 1) iX7_nextSeat 8 (ls) (.int p2 :: .int p1 :: .int p0 :: .ref b :: []) σ Q ↔ aIs σ b 7 ∧ aX d iX7_pagePart 0 [some (.ref b), some (.int p0), some (.int p1), some (.int p2)] [] σ (fun r τ => aX (d + 1) iX7_nextSeat 11 (ls) (aret r ([])) τ Q) := X_invv (N := 3) (As := [.int p2, .int p1, .int p0]) (w := 806) kX7_nextSeat_8 (by decide +kernel) (by decide +kernel) rfl rfl (by simp only [List.length_cons, List.length_nil]; omega) (by simp only [List.length_cons, List.length_nil]; omega) (by decide +kernel) rfl (Nat.le_of_ble_eq_true rfl)
theorem kX7_nextSeat_11 : aCode iX7_nextSeat 11 = some (.istore_n 2, 1) := by decide +kernel
theorem sX7_nextSeat_11 {d : Nat} {σ : aS} {Q : aQ} {l0 l1 lo : Option Value} {x : Int32} {lt : aL} {st : List Value} : aX d iX7_nextSeat 11 (l0 :: l1 :: lo :: lt) (.int x :: st) σ Q ↔ aX d iX7_nextSeat 12 (l0 :: aclr l1 :: some (.int x) :: lt) (st) σ Q := X_istoren kX7_nextSeat_11 (by simp only [List.length_cons]; omega)
theorem kX7_nextSeat_12 : aCode iX7_nextSeat 12 = some (.aload_n 0, 1) := by decide +kernel
theorem sX7_nextSeat_12 {d : Nat} {σ : aS} {Q : aQ} {x : Nat} {lt : aL} {st : List Value} : aX d iX7_nextSeat 12 (some (.ref x) :: lt) (st) σ Q ↔ aX d iX7_nextSeat 13 (some (.ref x) :: lt) (.ref x :: st) σ Q := X_aloadn kX7_nextSeat_12 rfl rfl
theorem kX7_nextSeat_13 : aCode iX7_nextSeat 13 = some (.iload_n 1, 1) := by decide +kernel
theorem sX7_nextSeat_13 {d : Nat} {σ : aS} {Q : aQ} {l0 : Option Value} {x : Int32} {lt : aL} {st : List Value} : aX d iX7_nextSeat 13 (l0 :: some (.int x) :: lt) (st) σ Q ↔ aX d iX7_nextSeat 14 (l0 :: some (.int x) :: lt) (.int x :: st) σ Q := X_iloadn kX7_nextSeat_13 rfl
theorem kX7_nextSeat_14 : aCode iX7_nextSeat 14 = some (.invokevirtual 66, 3) := by decide +kernel
theorem sX7_nextSeat_14 {d : Nat} {σ : aS} {Q : aQ} {b : Nat} {p0 : Int32} {ls : aL} : aX (d + 1) iX7_nextSeat 14 (ls) (.int p0 :: .ref b :: []) σ Q ↔ aIs σ b 7 ∧ aX d iX7_seatsOf 0 [some (.ref b), some (.int p0), none, none] [] σ (fun r τ => aX (d + 1) iX7_nextSeat 17 (ls) (aret r ([])) τ Q) := X_invv (N := 1) (As := [.int p0]) (w := 810) kX7_nextSeat_14 (by decide +kernel) (by decide +kernel) rfl rfl (by simp only [List.length_cons, List.length_nil]; omega) (by simp only [List.length_cons, List.length_nil]; omega) (by decide +kernel) rfl (Nat.le_of_ble_eq_true rfl)
theorem kX7_nextSeat_17 : aCode iX7_nextSeat 17 = some (.istore_n 3, 1) := by decide +kernel
theorem sX7_nextSeat_17 {d : Nat} {σ : aS} {Q : aQ} {l0 l1 l2 lo : Option Value} {x : Int32} {lt : aL} {st : List Value} : aX d iX7_nextSeat 17 (l0 :: l1 :: l2 :: lo :: lt) (.int x :: st) σ Q ↔ aX d iX7_nextSeat 18 (l0 :: l1 :: aclr l2 :: some (.int x) :: lt) (st) σ Q := X_istoren kX7_nextSeat_17 (by simp only [List.length_cons]; omega)
theorem kX7_nextSeat_18 : aCode iX7_nextSeat 18 = some (.bipush (-6), 2) := by decide +kernel
theorem sX7_nextSeat_18 {d : Nat} {σ : aS} {Q : aQ} {ls : aL} {st : List Value} : aX d iX7_nextSeat 18 (ls) (st) σ Q ↔ aX d iX7_nextSeat 20 (ls) (.int ((-6)) :: st) σ Q := X_bipush kX7_nextSeat_18 (by decide +kernel)
theorem kX7_nextSeat_20 : aCode iX7_nextSeat 20 = some (.istore 4, 2) := by decide +kernel
theorem sX7_nextSeat_20 {d : Nat} {σ : aS} {Q : aQ} {l0 l1 l2 l3 lo : Option Value} {x : Int32} {lt : aL} {st : List Value} : aX d iX7_nextSeat 20 (l0 :: l1 :: l2 :: l3 :: lo :: lt) (.int x :: st) σ Q ↔ aX d iX7_nextSeat 22 (l0 :: l1 :: l2 :: aclr l3 :: some (.int x) :: lt) (st) σ Q := X_istore kX7_nextSeat_20 (by simp only [List.length_cons]; omega)
theorem kX7_nextSeat_22 : aCode iX7_nextSeat 22 = some (.bipush 8, 2) := by decide +kernel
theorem sX7_nextSeat_22 {d : Nat} {σ : aS} {Q : aQ} {ls : aL} {st : List Value} : aX d iX7_nextSeat 22 (ls) (st) σ Q ↔ aX d iX7_nextSeat 24 (ls) (.int (nI 8) :: st) σ Q := X_bipush kX7_nextSeat_22 (by decide +kernel)
theorem kX7_nextSeat_24 : aCode iX7_nextSeat 24 = some (.istore 5, 2) := by decide +kernel
theorem sX7_nextSeat_24 {d : Nat} {σ : aS} {Q : aQ} {l0 l1 l2 l3 l4 lo : Option Value} {x : Int32} {lt : aL} {st : List Value} : aX d iX7_nextSeat 24 (l0 :: l1 :: l2 :: l3 :: l4 :: lo :: lt) (.int x :: st) σ Q ↔ aX d iX7_nextSeat 26 (l0 :: l1 :: l2 :: l3 :: aclr l4 :: some (.int x) :: lt) (st) σ Q := X_istore kX7_nextSeat_24 (by simp only [List.length_cons]; omega)
theorem kX7_nextSeat_26 : aCode iX7_nextSeat 26 = some (.iload 5, 2) := by decide +kernel
theorem sX7_nextSeat_26 {d : Nat} {σ : aS} {Q : aQ} {l0 l1 l2 l3 l4 : Option Value} {x : Int32} {lt : aL} {st : List Value} : aX d iX7_nextSeat 26 (l0 :: l1 :: l2 :: l3 :: l4 :: some (.int x) :: lt) (st) σ Q ↔ aX d iX7_nextSeat 28 (l0 :: l1 :: l2 :: l3 :: l4 :: some (.int x) :: lt) (.int x :: st) σ Q := X_iload kX7_nextSeat_26 rfl
theorem kX7_nextSeat_28 : aCode iX7_nextSeat 28 = some (.ifCond .le 45, 3) := by decide +kernel
theorem sX7_nextSeat_28 {d : Nat} {σ : aS} {Q : aQ} {x : Int32} {ls : aL} {st : List Value} : aX d iX7_nextSeat 28 (ls) (.int x :: st) σ Q ↔ (if x ≤ nI 0 then aX d iX7_nextSeat 73 (ls) (st) σ Q else aX d iX7_nextSeat 31 (ls) (st) σ Q) := by rw [X_if kX7_nextSeat_28 (t := 73) (by decide)]; simp only [aCmp_le]
theorem kX7_nextSeat_31 : aCode iX7_nextSeat 31 = some (.iload_n 2, 1) := by decide +kernel
theorem sX7_nextSeat_31 {d : Nat} {σ : aS} {Q : aQ} {l0 l1 : Option Value} {x : Int32} {lt : aL} {st : List Value} : aX d iX7_nextSeat 31 (l0 :: l1 :: some (.int x) :: lt) (st) σ Q ↔ aX d iX7_nextSeat 32 (l0 :: l1 :: some (.int x) :: lt) (.int x :: st) σ Q := X_iloadn kX7_nextSeat_31 rfl
theorem kX7_nextSeat_32 : aCode iX7_nextSeat 32 = some (.iload 5, 2) := by decide +kernel
theorem sX7_nextSeat_32 {d : Nat} {σ : aS} {Q : aQ} {l0 l1 l2 l3 l4 : Option Value} {x : Int32} {lt : aL} {st : List Value} : aX d iX7_nextSeat 32 (l0 :: l1 :: l2 :: l3 :: l4 :: some (.int x) :: lt) (st) σ Q ↔ aX d iX7_nextSeat 34 (l0 :: l1 :: l2 :: l3 :: l4 :: some (.int x) :: lt) (.int x :: st) σ Q := X_iload kX7_nextSeat_32 rfl
theorem kX7_nextSeat_34 : aCode iX7_nextSeat 34 = some (.iadd, 1) := by decide +kernel
theorem sX7_nextSeat_34 {d : Nat} {σ : aS} {Q : aQ} {x y : Int32} {ls : aL} {st : List Value} : aX d iX7_nextSeat 34 (ls) (.int y :: .int x :: st) σ Q ↔ aX d iX7_nextSeat 35 (ls) (.int (x + y) :: st) σ Q := X_iadd kX7_nextSeat_34
theorem kX7_nextSeat_35 : aCode iX7_nextSeat 35 = some (.bipush 8, 2) := by decide +kernel
theorem sX7_nextSeat_35 {d : Nat} {σ : aS} {Q : aQ} {ls : aL} {st : List Value} : aX d iX7_nextSeat 35 (ls) (st) σ Q ↔ aX d iX7_nextSeat 37 (ls) (.int (nI 8) :: st) σ Q := X_bipush kX7_nextSeat_35 (by decide +kernel)
theorem kX7_nextSeat_37 : aCode iX7_nextSeat 37 = some (.irem, 1) := by decide +kernel
theorem sX7_nextSeat_37 {d : Nat} {σ : aS} {Q : aQ} {x y : Int32} {ls : aL} {st : List Value} : aX d iX7_nextSeat 37 (ls) (.int y :: .int x :: st) σ Q ↔ ¬ y = nI 0 ∧ aX d iX7_nextSeat 38 (ls) (.int (x - x / y * y) :: st) σ Q := X_irem kX7_nextSeat_37
theorem kX7_nextSeat_38 : aCode iX7_nextSeat 38 = some (.istore 6, 2) := by decide +kernel
theorem sX7_nextSeat_38 {d : Nat} {σ : aS} {Q : aQ} {l0 l1 l2 l3 l4 l5 lo : Option Value} {x : Int32} {lt : aL} {st : List Value} : aX d iX7_nextSeat 38 (l0 :: l1 :: l2 :: l3 :: l4 :: l5 :: lo :: lt) (.int x :: st) σ Q ↔ aX d iX7_nextSeat 40 (l0 :: l1 :: l2 :: l3 :: l4 :: aclr l5 :: some (.int x) :: lt) (st) σ Q := X_istore kX7_nextSeat_38 (by simp only [List.length_cons]; omega)
theorem kX7_nextSeat_40 : aCode iX7_nextSeat 40 = some (.aload_n 0, 1) := by decide +kernel
theorem sX7_nextSeat_40 {d : Nat} {σ : aS} {Q : aQ} {x : Nat} {lt : aL} {st : List Value} : aX d iX7_nextSeat 40 (some (.ref x) :: lt) (st) σ Q ↔ aX d iX7_nextSeat 41 (some (.ref x) :: lt) (.ref x :: st) σ Q := X_aloadn kX7_nextSeat_40 rfl rfl
theorem kX7_nextSeat_41 : aCode iX7_nextSeat 41 = some (.iload 6, 2) := by decide +kernel
theorem sX7_nextSeat_41 {d : Nat} {σ : aS} {Q : aQ} {l0 l1 l2 l3 l4 l5 : Option Value} {x : Int32} {lt : aL} {st : List Value} : aX d iX7_nextSeat 41 (l0 :: l1 :: l2 :: l3 :: l4 :: l5 :: some (.int x) :: lt) (st) σ Q ↔ aX d iX7_nextSeat 43 (l0 :: l1 :: l2 :: l3 :: l4 :: l5 :: some (.int x) :: lt) (.int x :: st) σ Q := X_iload kX7_nextSeat_41 rfl
theorem kX7_nextSeat_43 : aCode iX7_nextSeat 43 = some (.invokevirtual 69, 3) := by decide +kernel
theorem sX7_nextSeat_43 {d : Nat} {σ : aS} {Q : aQ} {b : Nat} {p0 : Int32} {ls : aL} : aX (d + 1) iX7_nextSeat 43 (ls) (.int p0 :: .ref b :: []) σ Q ↔ aIs σ b 7 ∧ aX d iX7_isTaken 0 [some (.ref b), some (.int p0)] [] σ (fun r τ => aX (d + 1) iX7_nextSeat 46 (ls) (aret r ([])) τ Q) := X_invv (N := 1) (As := [.int p0]) (w := 730) kX7_nextSeat_43 (by decide +kernel) (by decide +kernel) rfl rfl (by simp only [List.length_cons, List.length_nil]; omega) (by simp only [List.length_cons, List.length_nil]; omega) (by decide +kernel) rfl (Nat.le_of_ble_eq_true rfl)
theorem kX7_nextSeat_46 : aCode iX7_nextSeat 46 = some (.ifCond .eq 17, 3) := by decide +kernel
theorem sX7_nextSeat_46 {d : Nat} {σ : aS} {Q : aQ} {x : Int32} {ls : aL} {st : List Value} : aX d iX7_nextSeat 46 (ls) (.int x :: st) σ Q ↔ (if x = nI 0 then aX d iX7_nextSeat 63 (ls) (st) σ Q else aX d iX7_nextSeat 49 (ls) (st) σ Q) := by rw [X_if kX7_nextSeat_46 (t := 63) (by decide)]; simp only [aCmp_eq]
theorem kX7_nextSeat_49 : aCode iX7_nextSeat 49 = some (.iload_n 3, 1) := by decide +kernel
theorem sX7_nextSeat_49 {d : Nat} {σ : aS} {Q : aQ} {l0 l1 l2 : Option Value} {x : Int32} {lt : aL} {st : List Value} : aX d iX7_nextSeat 49 (l0 :: l1 :: l2 :: some (.int x) :: lt) (st) σ Q ↔ aX d iX7_nextSeat 50 (l0 :: l1 :: l2 :: some (.int x) :: lt) (.int x :: st) σ Q := X_iloadn kX7_nextSeat_49 rfl
theorem kX7_nextSeat_50 : aCode iX7_nextSeat 50 = some (.iload 6, 2) := by decide +kernel
theorem sX7_nextSeat_50 {d : Nat} {σ : aS} {Q : aQ} {l0 l1 l2 l3 l4 l5 : Option Value} {x : Int32} {lt : aL} {st : List Value} : aX d iX7_nextSeat 50 (l0 :: l1 :: l2 :: l3 :: l4 :: l5 :: some (.int x) :: lt) (st) σ Q ↔ aX d iX7_nextSeat 52 (l0 :: l1 :: l2 :: l3 :: l4 :: l5 :: some (.int x) :: lt) (.int x :: st) σ Q := X_iload kX7_nextSeat_50 rfl
theorem kX7_nextSeat_52 : aCode iX7_nextSeat 52 = some (.ishr, 1) := by decide +kernel
theorem sX7_nextSeat_52 {d : Nat} {σ : aS} {Q : aQ} {x y : Int32} {ls : aL} {st : List Value} : aX d iX7_nextSeat 52 (ls) (.int y :: .int x :: st) σ Q ↔ aX d iX7_nextSeat 53 (ls) (.int (x >>> (y &&& 31)) :: st) σ Q := X_ishr kX7_nextSeat_52
theorem kX7_nextSeat_53 : aCode iX7_nextSeat 53 = some (.iconst 1, 1) := by decide +kernel
theorem sX7_nextSeat_53 {d : Nat} {σ : aS} {Q : aQ} {ls : aL} {st : List Value} : aX d iX7_nextSeat 53 (ls) (st) σ Q ↔ aX d iX7_nextSeat 54 (ls) (.int (nI 1) :: st) σ Q := X_iconst kX7_nextSeat_53 (by decide +kernel)
theorem kX7_nextSeat_54 : aCode iX7_nextSeat 54 = some (.iand, 1) := by decide +kernel
theorem sX7_nextSeat_54 {d : Nat} {σ : aS} {Q : aQ} {x y : Int32} {ls : aL} {st : List Value} : aX d iX7_nextSeat 54 (ls) (.int y :: .int x :: st) σ Q ↔ aX d iX7_nextSeat 55 (ls) (.int (x &&& y) :: st) σ Q := X_iand kX7_nextSeat_54
theorem kX7_nextSeat_55 : aCode iX7_nextSeat 55 = some (.ifCond .ne 8, 3) := by decide +kernel
theorem sX7_nextSeat_55 {d : Nat} {σ : aS} {Q : aQ} {x : Int32} {ls : aL} {st : List Value} : aX d iX7_nextSeat 55 (ls) (.int x :: st) σ Q ↔ (if ¬ x = nI 0 then aX d iX7_nextSeat 63 (ls) (st) σ Q else aX d iX7_nextSeat 58 (ls) (st) σ Q) := by rw [X_if kX7_nextSeat_55 (t := 63) (by decide)]; simp only [aCmp_ne]
theorem kX7_nextSeat_58 : aCode iX7_nextSeat 58 = some (.iload 6, 2) := by decide +kernel
theorem sX7_nextSeat_58 {d : Nat} {σ : aS} {Q : aQ} {l0 l1 l2 l3 l4 l5 : Option Value} {x : Int32} {lt : aL} {st : List Value} : aX d iX7_nextSeat 58 (l0 :: l1 :: l2 :: l3 :: l4 :: l5 :: some (.int x) :: lt) (st) σ Q ↔ aX d iX7_nextSeat 60 (l0 :: l1 :: l2 :: l3 :: l4 :: l5 :: some (.int x) :: lt) (.int x :: st) σ Q := X_iload kX7_nextSeat_58 rfl
theorem kX7_nextSeat_60 : aCode iX7_nextSeat 60 = some (.goto 5, 3) := by decide +kernel
theorem sX7_nextSeat_60 {d : Nat} {σ : aS} {Q : aQ} {ls : aL} {st : List Value} : aX d iX7_nextSeat 60 (ls) (st) σ Q ↔ aX d iX7_nextSeat 65 (ls) (st) σ Q := X_goto kX7_nextSeat_60 (by decide)
theorem kX7_nextSeat_63 : aCode iX7_nextSeat 63 = some (.iload 4, 2) := by decide +kernel
theorem sX7_nextSeat_63 {d : Nat} {σ : aS} {Q : aQ} {l0 l1 l2 l3 : Option Value} {x : Int32} {lt : aL} {st : List Value} : aX d iX7_nextSeat 63 (l0 :: l1 :: l2 :: l3 :: some (.int x) :: lt) (st) σ Q ↔ aX d iX7_nextSeat 65 (l0 :: l1 :: l2 :: l3 :: some (.int x) :: lt) (.int x :: st) σ Q := X_iload kX7_nextSeat_63 rfl
theorem kX7_nextSeat_65 : aCode iX7_nextSeat 65 = some (.istore 4, 2) := by decide +kernel
theorem sX7_nextSeat_65 {d : Nat} {σ : aS} {Q : aQ} {l0 l1 l2 l3 lo : Option Value} {x : Int32} {lt : aL} {st : List Value} : aX d iX7_nextSeat 65 (l0 :: l1 :: l2 :: l3 :: lo :: lt) (.int x :: st) σ Q ↔ aX d iX7_nextSeat 67 (l0 :: l1 :: l2 :: aclr l3 :: some (.int x) :: lt) (st) σ Q := X_istore kX7_nextSeat_65 (by simp only [List.length_cons]; omega)
theorem kX7_nextSeat_67 : aCode iX7_nextSeat 67 = some (.iinc 5 (-1), 3) := by decide +kernel
theorem sX7_nextSeat_67 {d : Nat} {σ : aS} {Q : aQ} {l0 l1 l2 l3 l4 : Option Value} {x : Int32} {lt : aL} {st : List Value} : aX d iX7_nextSeat 67 (l0 :: l1 :: l2 :: l3 :: l4 :: some (.int x) :: lt) (st) σ Q ↔ aX d iX7_nextSeat 70 (l0 :: l1 :: l2 :: l3 :: aclr l4 :: some (.int (x + (-1))) :: lt) (st) σ Q := X_iinc kX7_nextSeat_67 rfl (by decide +kernel)
theorem kX7_nextSeat_70 : aCode iX7_nextSeat 70 = some (.goto (-44), 3) := by decide +kernel
theorem sX7_nextSeat_70 {d : Nat} {σ : aS} {Q : aQ} {ls : aL} {st : List Value} : aX d iX7_nextSeat 70 (ls) (st) σ Q ↔ aX d iX7_nextSeat 26 (ls) (st) σ Q := X_goto kX7_nextSeat_70 (by decide)
theorem kX7_nextSeat_73 : aCode iX7_nextSeat 73 = some (.iload 4, 2) := by decide +kernel
theorem sX7_nextSeat_73 {d : Nat} {σ : aS} {Q : aQ} {l0 l1 l2 l3 : Option Value} {x : Int32} {lt : aL} {st : List Value} : aX d iX7_nextSeat 73 (l0 :: l1 :: l2 :: l3 :: some (.int x) :: lt) (st) σ Q ↔ aX d iX7_nextSeat 75 (l0 :: l1 :: l2 :: l3 :: some (.int x) :: lt) (.int x :: st) σ Q := X_iload kX7_nextSeat_73 rfl
theorem kX7_nextSeat_75 : aCode iX7_nextSeat 75 = some (.ireturn, 1) := by decide +kernel
theorem sX7_nextSeat_75 {d : Nat} {σ : aS} {Q : aQ} {v : Int32} {ls : aL} : aX d iX7_nextSeat 75 (ls) ([.int v]) σ Q ↔ Q (some (.int v)) σ := X_iret kX7_nextSeat_75 (by decide +kernel)
theorem kX7_scores_0 : aCode iX7_scores 0 = some (.aload_n 0, 1) := by decide +kernel
theorem sX7_scores_0 {d : Nat} {σ : aS} {Q : aQ} {x : Nat} {lt : aL} {st : List Value} : aX d iX7_scores 0 (some (.ref x) :: lt) (st) σ Q ↔ aX d iX7_scores 1 (some (.ref x) :: lt) (.ref x :: st) σ Q := X_aloadn kX7_scores_0 rfl rfl
theorem kX7_scores_1 : aCode iX7_scores 1 = some (.getfield 7, 3) := by decide +kernel
theorem sX7_scores_1 {d : Nat} {σ : aS} {Q : aQ} {a : Nat} {ls : aL} {st : List Value} : aX d iX7_scores 1 (ls) (.ref a :: st) σ Q ↔ ∃ v, aFld σ a 7 0 = some v ∧ aX d iX7_scores 4 (ls) (v :: st) σ Q := X_getf (w := 650) kX7_scores_1 (by decide +kernel)
theorem kX7_scores_4 : aCode iX7_scores 4 = some (.bipush 25, 2) := by decide +kernel
theorem sX7_scores_4 {d : Nat} {σ : aS} {Q : aQ} {ls : aL} {st : List Value} : aX d iX7_scores 4 (ls) (st) σ Q ↔ aX d iX7_scores 6 (ls) (.int (nI 25) :: st) σ Q := X_bipush kX7_scores_4 (by decide +kernel)
theorem kX7_scores_6 : aCode iX7_scores 6 = some (.iload_n 1, 1) := by decide +kernel
theorem sX7_scores_6 {d : Nat} {σ : aS} {Q : aQ} {l0 : Option Value} {x : Int32} {lt : aL} {st : List Value} : aX d iX7_scores 6 (l0 :: some (.int x) :: lt) (st) σ Q ↔ aX d iX7_scores 7 (l0 :: some (.int x) :: lt) (.int x :: st) σ Q := X_iloadn kX7_scores_6 rfl
theorem kX7_scores_7 : aCode iX7_scores 7 = some (.iadd, 1) := by decide +kernel
theorem sX7_scores_7 {d : Nat} {σ : aS} {Q : aQ} {x y : Int32} {ls : aL} {st : List Value} : aX d iX7_scores 7 (ls) (.int y :: .int x :: st) σ Q ↔ aX d iX7_scores 8 (ls) (.int (x + y) :: st) σ Q := X_iadd kX7_scores_7
theorem kX7_scores_8 : aCode iX7_scores 8 = some (.dup2, 1) := by decide +kernel
theorem sX7_scores_8 {d : Nat} {σ : aS} {Q : aQ} {y : Int32} {x : Nat} {ls : aL} {st : List Value} : aX d iX7_scores 8 (ls) (.int y :: .ref x :: st) σ Q ↔ aX d iX7_scores 9 (ls) (.int y :: .ref x :: .int y :: .ref x :: st) σ Q := X_dup2 kX7_scores_8 ⟨rfl, rfl⟩
theorem kX7_scores_9 : aCode iX7_scores 9 = some (.iaload, 1) := by decide +kernel
theorem sX7_scores_9 {d : Nat} {σ : aS} {Q : aQ} {a : Nat} {i : Int32} {ls : aL} {st : List Value} : aX d iX7_scores 9 (ls) (.int i :: .ref a :: st) σ Q ↔ ∃ x, aRowR σ a = some x ∧ vp_in i x.1 ∧ aX d iX7_scores 10 (ls) (.int (x.2 i.toNatClampNeg) :: st) σ Q := X_iaload kX7_scores_9
theorem kX7_scores_10 : aCode iX7_scores 10 = some (.iload_n 2, 1) := by decide +kernel
theorem sX7_scores_10 {d : Nat} {σ : aS} {Q : aQ} {l0 l1 : Option Value} {x : Int32} {lt : aL} {st : List Value} : aX d iX7_scores 10 (l0 :: l1 :: some (.int x) :: lt) (st) σ Q ↔ aX d iX7_scores 11 (l0 :: l1 :: some (.int x) :: lt) (.int x :: st) σ Q := X_iloadn kX7_scores_10 rfl
theorem kX7_scores_11 : aCode iX7_scores 11 = some (.iadd, 1) := by decide +kernel
theorem sX7_scores_11 {d : Nat} {σ : aS} {Q : aQ} {x y : Int32} {ls : aL} {st : List Value} : aX d iX7_scores 11 (ls) (.int y :: .int x :: st) σ Q ↔ aX d iX7_scores 12 (ls) (.int (x + y) :: st) σ Q := X_iadd kX7_scores_11
theorem kX7_scores_12 : aCode iX7_scores 12 = some (.iastore, 1) := by decide +kernel
theorem sX7_scores_12 {d : Nat} {σ : aS} {Q : aQ} {a : Nat} {i v : Int32} {ls : aL} {st : List Value} : aX d iX7_scores 12 (ls) (.int v :: .int i :: .ref a :: st) σ Q ↔ ∃ x, aRow σ a = some x ∧ vp_in i x.1 ∧ aX d iX7_scores 13 (ls) (st) (aput σ a (eI x.1 (upd x.2 i.toNatClampNeg v))) Q := X_iastore kX7_scores_12
theorem kX7_scores_13 : aCode iX7_scores 13 = some (.return_, 1) := by decide +kernel
theorem sX7_scores_13 {d : Nat} {σ : aS} {Q : aQ} {ls : aL} : aX d iX7_scores 13 (ls) ([]) σ Q ↔ Q none σ := X_vret kX7_scores_13 (by decide +kernel)
theorem kX7_comesHome_0 : aCode iX7_comesHome 0 = some (.aload_n 0, 1) := by decide +kernel
theorem sX7_comesHome_0 {d : Nat} {σ : aS} {Q : aQ} {x : Nat} {lt : aL} {st : List Value} : aX d iX7_comesHome 0 (some (.ref x) :: lt) (st) σ Q ↔ aX d iX7_comesHome 1 (some (.ref x) :: lt) (.ref x :: st) σ Q := X_aloadn kX7_comesHome_0 rfl rfl
theorem kX7_comesHome_1 : aCode iX7_comesHome 1 = some (.iload_n 1, 1) := by decide +kernel
theorem sX7_comesHome_1 {d : Nat} {σ : aS} {Q : aQ} {l0 : Option Value} {x : Int32} {lt : aL} {st : List Value} : aX d iX7_comesHome 1 (l0 :: some (.int x) :: lt) (st) σ Q ↔ aX d iX7_comesHome 2 (l0 :: some (.int x) :: lt) (.int x :: st) σ Q := X_iloadn kX7_comesHome_1 rfl
theorem kX7_comesHome_2 : aCode iX7_comesHome 2 = some (.iconst 2, 1) := by decide +kernel
theorem sX7_comesHome_2 {d : Nat} {σ : aS} {Q : aQ} {ls : aL} {st : List Value} : aX d iX7_comesHome 2 (ls) (st) σ Q ↔ aX d iX7_comesHome 3 (ls) (.int (nI 2) :: st) σ Q := X_iconst kX7_comesHome_2 (by decide +kernel)
theorem kX7_comesHome_3 : aCode iX7_comesHome 3 = some (.aload_n 0, 1) := by decide +kernel
theorem sX7_comesHome_3 {d : Nat} {σ : aS} {Q : aQ} {x : Nat} {lt : aL} {st : List Value} : aX d iX7_comesHome 3 (some (.ref x) :: lt) (st) σ Q ↔ aX d iX7_comesHome 4 (some (.ref x) :: lt) (.ref x :: st) σ Q := X_aloadn kX7_comesHome_3 rfl rfl
theorem kX7_comesHome_4 : aCode iX7_comesHome 4 = some (.aload_n 0, 1) := by decide +kernel
theorem sX7_comesHome_4 {d : Nat} {σ : aS} {Q : aQ} {x : Nat} {lt : aL} {st : List Value} : aX d iX7_comesHome 4 (some (.ref x) :: lt) (st) σ Q ↔ aX d iX7_comesHome 5 (some (.ref x) :: lt) (.ref x :: st) σ Q := X_aloadn kX7_comesHome_4 rfl rfl
theorem kX7_comesHome_5 : aCode iX7_comesHome 5 = some (.iload_n 1, 1) := by decide +kernel
theorem sX7_comesHome_5 {d : Nat} {σ : aS} {Q : aQ} {l0 : Option Value} {x : Int32} {lt : aL} {st : List Value} : aX d iX7_comesHome 5 (l0 :: some (.int x) :: lt) (st) σ Q ↔ aX d iX7_comesHome 6 (l0 :: some (.int x) :: lt) (.int x :: st) σ Q := X_iloadn kX7_comesHome_5 rfl
theorem kX7_comesHome_6 : aCode iX7_comesHome 6 = some (.iconst 0, 1) := by decide +kernel
theorem sX7_comesHome_6 {d : Nat} {σ : aS} {Q : aQ} {ls : aL} {st : List Value} : aX d iX7_comesHome 6 (ls) (st) σ Q ↔ aX d iX7_comesHome 7 (ls) (.int (nI 0) :: st) σ Q := X_iconst kX7_comesHome_6 (by decide +kernel)
theorem kX7_comesHome_7 : aCode iX7_comesHome 7 = some (.invokevirtual 40, 3) := by decide +kernel
theorem sX7_comesHome_7 {d : Nat} {σ : aS} {Q : aQ} {b : Nat} {p0 : Int32} {p1 : Int32} {v0 v1 v2 v3 : Value} {ls : aL} : aX (d + 1) iX7_comesHome 7 (ls) (.int p1 :: .int p0 :: .ref b :: v0 :: v1 :: v2 :: v3 :: []) σ Q ↔ aIs σ b 7 ∧ aX d iX7_part 0 [some (.ref b), some (.int p0), some (.int p1)] [] σ (fun r τ => aX (d + 1) iX7_comesHome 10 (ls) (aret r (v0 :: v1 :: v2 :: v3 :: [])) τ Q) := X_invv (N := 2) (As := [.int p1, .int p0]) (w := 750) kX7_comesHome_7 (by decide +kernel) (by decide +kernel) rfl rfl (by simp only [List.length_cons, List.length_nil]; omega) (by simp only [List.length_cons, List.length_nil]; omega) (by decide +kernel) rfl (Nat.le_of_ble_eq_true rfl)
theorem kX7_comesHome_10 : aCode iX7_comesHome 10 = some (.invokevirtual 69, 3) := by decide +kernel
theorem sX7_comesHome_10 {d : Nat} {σ : aS} {Q : aQ} {b : Nat} {p0 : Int32} {v0 v1 v2 : Value} {ls : aL} : aX (d + 1) iX7_comesHome 10 (ls) (.int p0 :: .ref b :: v0 :: v1 :: v2 :: []) σ Q ↔ aIs σ b 7 ∧ aX d iX7_isTaken 0 [some (.ref b), some (.int p0)] [] σ (fun r τ => aX (d + 1) iX7_comesHome 13 (ls) (aret r (v0 :: v1 :: v2 :: [])) τ Q) := X_invv (N := 1) (As := [.int p0]) (w := 730) kX7_comesHome_10 (by decide +kernel) (by decide +kernel) rfl rfl (by simp only [List.length_cons, List.length_nil]; omega) (by simp only [List.length_cons, List.length_nil]; omega) (by decide +kernel) rfl (Nat.le_of_ble_eq_true rfl)
theorem kX7_comesHome_13 : aCode iX7_comesHome 13 = some (.ifCond .eq 7, 3) := by decide +kernel
theorem sX7_comesHome_13 {d : Nat} {σ : aS} {Q : aQ} {x : Int32} {ls : aL} {st : List Value} : aX d iX7_comesHome 13 (ls) (.int x :: st) σ Q ↔ (if x = nI 0 then aX d iX7_comesHome 20 (ls) (st) σ Q else aX d iX7_comesHome 16 (ls) (st) σ Q) := by rw [X_if kX7_comesHome_13 (t := 20) (by decide)]; simp only [aCmp_eq]
theorem kX7_comesHome_16 : aCode iX7_comesHome 16 = some (.iconst 1, 1) := by decide +kernel
theorem sX7_comesHome_16 {d : Nat} {σ : aS} {Q : aQ} {ls : aL} {st : List Value} : aX d iX7_comesHome 16 (ls) (st) σ Q ↔ aX d iX7_comesHome 17 (ls) (.int (nI 1) :: st) σ Q := X_iconst kX7_comesHome_16 (by decide +kernel)
theorem kX7_comesHome_17 : aCode iX7_comesHome 17 = some (.goto 4, 3) := by decide +kernel
theorem sX7_comesHome_17 {d : Nat} {σ : aS} {Q : aQ} {ls : aL} {st : List Value} : aX d iX7_comesHome 17 (ls) (st) σ Q ↔ aX d iX7_comesHome 21 (ls) (st) σ Q := X_goto kX7_comesHome_17 (by decide)
theorem kX7_comesHome_20 : aCode iX7_comesHome 20 = some (.iconst 2, 1) := by decide +kernel
theorem sX7_comesHome_20 {d : Nat} {σ : aS} {Q : aQ} {ls : aL} {st : List Value} : aX d iX7_comesHome 20 (ls) (st) σ Q ↔ aX d iX7_comesHome 21 (ls) (.int (nI 2) :: st) σ Q := X_iconst kX7_comesHome_20 (by decide +kernel)
theorem kX7_comesHome_21 : aCode iX7_comesHome 21 = some (.invokevirtual 44, 3) := by decide +kernel
theorem sX7_comesHome_21 {d : Nat} {σ : aS} {Q : aQ} {b : Nat} {p0 : Int32} {p1 : Int32} {p2 : Int32} {ls : aL} : aX (d + 1) iX7_comesHome 21 (ls) (.int p2 :: .int p1 :: .int p0 :: .ref b :: []) σ Q ↔ aIs σ b 7 ∧ aX d iX7_setPart 0 [some (.ref b), some (.int p0), some (.int p1), some (.int p2)] [] σ (fun r τ => aX (d + 1) iX7_comesHome 24 (ls) (aret r ([])) τ Q) := X_invv (N := 3) (As := [.int p2, .int p1, .int p0]) (w := 766) kX7_comesHome_21 (by decide +kernel) (by decide +kernel) rfl rfl (by simp only [List.length_cons, List.length_nil]; omega) (by simp only [List.length_cons, List.length_nil]; omega) (by decide +kernel) rfl (Nat.le_of_ble_eq_true rfl)
theorem kX7_comesHome_24 : aCode iX7_comesHome 24 = some (.aload_n 0, 1) := by decide +kernel
theorem sX7_comesHome_24 {d : Nat} {σ : aS} {Q : aQ} {x : Nat} {lt : aL} {st : List Value} : aX d iX7_comesHome 24 (some (.ref x) :: lt) (st) σ Q ↔ aX d iX7_comesHome 25 (some (.ref x) :: lt) (.ref x :: st) σ Q := X_aloadn kX7_comesHome_24 rfl rfl
theorem kX7_comesHome_25 : aCode iX7_comesHome 25 = some (.iload_n 1, 1) := by decide +kernel
theorem sX7_comesHome_25 {d : Nat} {σ : aS} {Q : aQ} {l0 : Option Value} {x : Int32} {lt : aL} {st : List Value} : aX d iX7_comesHome 25 (l0 :: some (.int x) :: lt) (st) σ Q ↔ aX d iX7_comesHome 26 (l0 :: some (.int x) :: lt) (.int x :: st) σ Q := X_iloadn kX7_comesHome_25 rfl
theorem kX7_comesHome_26 : aCode iX7_comesHome 26 = some (.iconst 2, 1) := by decide +kernel
theorem sX7_comesHome_26 {d : Nat} {σ : aS} {Q : aQ} {ls : aL} {st : List Value} : aX d iX7_comesHome 26 (ls) (st) σ Q ↔ aX d iX7_comesHome 27 (ls) (.int (nI 2) :: st) σ Q := X_iconst kX7_comesHome_26 (by decide +kernel)
theorem kX7_comesHome_27 : aCode iX7_comesHome 27 = some (.invokevirtual 40, 3) := by decide +kernel
theorem sX7_comesHome_27 {d : Nat} {σ : aS} {Q : aQ} {b : Nat} {p0 : Int32} {p1 : Int32} {ls : aL} : aX (d + 1) iX7_comesHome 27 (ls) (.int p1 :: .int p0 :: .ref b :: []) σ Q ↔ aIs σ b 7 ∧ aX d iX7_part 0 [some (.ref b), some (.int p0), some (.int p1)] [] σ (fun r τ => aX (d + 1) iX7_comesHome 30 (ls) (aret r ([])) τ Q) := X_invv (N := 2) (As := [.int p1, .int p0]) (w := 750) kX7_comesHome_27 (by decide +kernel) (by decide +kernel) rfl rfl (by simp only [List.length_cons, List.length_nil]; omega) (by simp only [List.length_cons, List.length_nil]; omega) (by decide +kernel) rfl (Nat.le_of_ble_eq_true rfl)
theorem kX7_comesHome_30 : aCode iX7_comesHome 30 = some (.iconst 1, 1) := by decide +kernel
theorem sX7_comesHome_30 {d : Nat} {σ : aS} {Q : aQ} {ls : aL} {st : List Value} : aX d iX7_comesHome 30 (ls) (st) σ Q ↔ aX d iX7_comesHome 31 (ls) (.int (nI 1) :: st) σ Q := X_iconst kX7_comesHome_30 (by decide +kernel)
theorem kX7_comesHome_31 : aCode iX7_comesHome 31 = some (.if_icmp .ne 37, 3) := by decide +kernel
theorem sX7_comesHome_31 {d : Nat} {σ : aS} {Q : aQ} {x y : Int32} {ls : aL} {st : List Value} : aX d iX7_comesHome 31 (ls) (.int y :: .int x :: st) σ Q ↔ (if ¬ x = y then aX d iX7_comesHome 68 (ls) (st) σ Q else aX d iX7_comesHome 34 (ls) (st) σ Q) := by rw [X_icmp kX7_comesHome_31 (t := 68) (by decide)]; simp only [aCmp_ne]
theorem kX7_comesHome_34 : aCode iX7_comesHome 34 = some (.aload_n 0, 1) := by decide +kernel
theorem sX7_comesHome_34 {d : Nat} {σ : aS} {Q : aQ} {x : Nat} {lt : aL} {st : List Value} : aX d iX7_comesHome 34 (some (.ref x) :: lt) (st) σ Q ↔ aX d iX7_comesHome 35 (some (.ref x) :: lt) (.ref x :: st) σ Q := X_aloadn kX7_comesHome_34 rfl rfl
theorem kX7_comesHome_35 : aCode iX7_comesHome 35 = some (.iload_n 1, 1) := by decide +kernel
theorem sX7_comesHome_35 {d : Nat} {σ : aS} {Q : aQ} {l0 : Option Value} {x : Int32} {lt : aL} {st : List Value} : aX d iX7_comesHome 35 (l0 :: some (.int x) :: lt) (st) σ Q ↔ aX d iX7_comesHome 36 (l0 :: some (.int x) :: lt) (.int x :: st) σ Q := X_iloadn kX7_comesHome_35 rfl
theorem kX7_comesHome_36 : aCode iX7_comesHome 36 = some (.invokevirtual 72, 3) := by decide +kernel
theorem sX7_comesHome_36 {d : Nat} {σ : aS} {Q : aQ} {b : Nat} {p0 : Int32} {ls : aL} : aX (d + 1) iX7_comesHome 36 (ls) (.int p0 :: .ref b :: []) σ Q ↔ aIs σ b 7 ∧ aX d iX7_lastWord 0 [some (.ref b), some (.int p0)] [] σ (fun r τ => aX (d + 1) iX7_comesHome 39 (ls) (aret r ([])) τ Q) := X_invv (N := 1) (As := [.int p0]) (w := 818) kX7_comesHome_36 (by decide +kernel) (by decide +kernel) rfl rfl (by simp only [List.length_cons, List.length_nil]; omega) (by simp only [List.length_cons, List.length_nil]; omega) (by decide +kernel) rfl (Nat.le_of_ble_eq_true rfl)
theorem kX7_comesHome_39 : aCode iX7_comesHome 39 = some (.aload_n 0, 1) := by decide +kernel
theorem sX7_comesHome_39 {d : Nat} {σ : aS} {Q : aQ} {x : Nat} {lt : aL} {st : List Value} : aX d iX7_comesHome 39 (some (.ref x) :: lt) (st) σ Q ↔ aX d iX7_comesHome 40 (some (.ref x) :: lt) (.ref x :: st) σ Q := X_aloadn kX7_comesHome_39 rfl rfl
theorem kX7_comesHome_40 : aCode iX7_comesHome 40 = some (.iload_n 1, 1) := by decide +kernel
theorem sX7_comesHome_40 {d : Nat} {σ : aS} {Q : aQ} {l0 : Option Value} {x : Int32} {lt : aL} {st : List Value} : aX d iX7_comesHome 40 (l0 :: some (.int x) :: lt) (st) σ Q ↔ aX d iX7_comesHome 41 (l0 :: some (.int x) :: lt) (.int x :: st) σ Q := X_iloadn kX7_comesHome_40 rfl
theorem kX7_comesHome_41 : aCode iX7_comesHome 41 = some (.invokevirtual 75, 3) := by decide +kernel
theorem sX7_comesHome_41 {d : Nat} {σ : aS} {Q : aQ} {b : Nat} {p0 : Int32} {v0 : Value} {ls : aL} : aX (d + 1) iX7_comesHome 41 (ls) (.int p0 :: .ref b :: v0 :: []) σ Q ↔ aIs σ b 7 ∧ aX d iX7_firstWord 0 [some (.ref b), some (.int p0)] [] σ (fun r τ => aX (d + 1) iX7_comesHome 44 (ls) (aret r (v0 :: [])) τ Q) := X_invv (N := 1) (As := [.int p0]) (w := 826) kX7_comesHome_41 (by decide +kernel) (by decide +kernel) rfl rfl (by simp only [List.length_cons, List.length_nil]; omega) (by simp only [List.length_cons, List.length_nil]; omega) (by decide +kernel) rfl (Nat.le_of_ble_eq_true rfl)
theorem kX7_comesHome_44 : aCode iX7_comesHome 44 = some (.if_icmp .ne 24, 3) := by decide +kernel
theorem sX7_comesHome_44 {d : Nat} {σ : aS} {Q : aQ} {x y : Int32} {ls : aL} {st : List Value} : aX d iX7_comesHome 44 (ls) (.int y :: .int x :: st) σ Q ↔ (if ¬ x = y then aX d iX7_comesHome 68 (ls) (st) σ Q else aX d iX7_comesHome 47 (ls) (st) σ Q) := by rw [X_icmp kX7_comesHome_44 (t := 68) (by decide)]; simp only [aCmp_ne]
theorem kX7_comesHome_47 : aCode iX7_comesHome 47 = some (.aload_n 0, 1) := by decide +kernel
theorem sX7_comesHome_47 {d : Nat} {σ : aS} {Q : aQ} {x : Nat} {lt : aL} {st : List Value} : aX d iX7_comesHome 47 (some (.ref x) :: lt) (st) σ Q ↔ aX d iX7_comesHome 48 (some (.ref x) :: lt) (.ref x :: st) σ Q := X_aloadn kX7_comesHome_47 rfl rfl
theorem kX7_comesHome_48 : aCode iX7_comesHome 48 = some (.iload_n 1, 1) := by decide +kernel
theorem sX7_comesHome_48 {d : Nat} {σ : aS} {Q : aQ} {l0 : Option Value} {x : Int32} {lt : aL} {st : List Value} : aX d iX7_comesHome 48 (l0 :: some (.int x) :: lt) (st) σ Q ↔ aX d iX7_comesHome 49 (l0 :: some (.int x) :: lt) (.int x :: st) σ Q := X_iloadn kX7_comesHome_48 rfl
theorem kX7_comesHome_49 : aCode iX7_comesHome 49 = some (.iconst 1, 1) := by decide +kernel
theorem sX7_comesHome_49 {d : Nat} {σ : aS} {Q : aQ} {ls : aL} {st : List Value} : aX d iX7_comesHome 49 (ls) (st) σ Q ↔ aX d iX7_comesHome 50 (ls) (.int (nI 1) :: st) σ Q := X_iconst kX7_comesHome_49 (by decide +kernel)
theorem kX7_comesHome_50 : aCode iX7_comesHome 50 = some (.invokevirtual 40, 3) := by decide +kernel
theorem sX7_comesHome_50 {d : Nat} {σ : aS} {Q : aQ} {b : Nat} {p0 : Int32} {p1 : Int32} {ls : aL} : aX (d + 1) iX7_comesHome 50 (ls) (.int p1 :: .int p0 :: .ref b :: []) σ Q ↔ aIs σ b 7 ∧ aX d iX7_part 0 [some (.ref b), some (.int p0), some (.int p1)] [] σ (fun r τ => aX (d + 1) iX7_comesHome 53 (ls) (aret r ([])) τ Q) := X_invv (N := 2) (As := [.int p1, .int p0]) (w := 750) kX7_comesHome_50 (by decide +kernel) (by decide +kernel) rfl rfl (by simp only [List.length_cons, List.length_nil]; omega) (by simp only [List.length_cons, List.length_nil]; omega) (by decide +kernel) rfl (Nat.le_of_ble_eq_true rfl)
theorem kX7_comesHome_53 : aCode iX7_comesHome 53 = some (.iconst 2, 1) := by decide +kernel
theorem sX7_comesHome_53 {d : Nat} {σ : aS} {Q : aQ} {ls : aL} {st : List Value} : aX d iX7_comesHome 53 (ls) (st) σ Q ↔ aX d iX7_comesHome 54 (ls) (.int (nI 2) :: st) σ Q := X_iconst kX7_comesHome_53 (by decide +kernel)
theorem kX7_comesHome_54 : aCode iX7_comesHome 54 = some (.if_icmp .le 14, 3) := by decide +kernel
theorem sX7_comesHome_54 {d : Nat} {σ : aS} {Q : aQ} {x y : Int32} {ls : aL} {st : List Value} : aX d iX7_comesHome 54 (ls) (.int y :: .int x :: st) σ Q ↔ (if x ≤ y then aX d iX7_comesHome 68 (ls) (st) σ Q else aX d iX7_comesHome 57 (ls) (st) σ Q) := by rw [X_icmp kX7_comesHome_54 (t := 68) (by decide)]; simp only [aCmp_le]
theorem kX7_comesHome_57 : aCode iX7_comesHome 57 = some (.aload_n 0, 1) := by decide +kernel
theorem sX7_comesHome_57 {d : Nat} {σ : aS} {Q : aQ} {x : Nat} {lt : aL} {st : List Value} : aX d iX7_comesHome 57 (some (.ref x) :: lt) (st) σ Q ↔ aX d iX7_comesHome 58 (some (.ref x) :: lt) (.ref x :: st) σ Q := X_aloadn kX7_comesHome_57 rfl rfl
theorem kX7_comesHome_58 : aCode iX7_comesHome 58 = some (.aload_n 0, 1) := by decide +kernel
theorem sX7_comesHome_58 {d : Nat} {σ : aS} {Q : aQ} {x : Nat} {lt : aL} {st : List Value} : aX d iX7_comesHome 58 (some (.ref x) :: lt) (st) σ Q ↔ aX d iX7_comesHome 59 (some (.ref x) :: lt) (.ref x :: st) σ Q := X_aloadn kX7_comesHome_58 rfl rfl
theorem kX7_comesHome_59 : aCode iX7_comesHome 59 = some (.iload_n 1, 1) := by decide +kernel
theorem sX7_comesHome_59 {d : Nat} {σ : aS} {Q : aQ} {l0 : Option Value} {x : Int32} {lt : aL} {st : List Value} : aX d iX7_comesHome 59 (l0 :: some (.int x) :: lt) (st) σ Q ↔ aX d iX7_comesHome 60 (l0 :: some (.int x) :: lt) (.int x :: st) σ Q := X_iloadn kX7_comesHome_59 rfl
theorem kX7_comesHome_60 : aCode iX7_comesHome 60 = some (.iconst 0, 1) := by decide +kernel
theorem sX7_comesHome_60 {d : Nat} {σ : aS} {Q : aQ} {ls : aL} {st : List Value} : aX d iX7_comesHome 60 (ls) (st) σ Q ↔ aX d iX7_comesHome 61 (ls) (.int (nI 0) :: st) σ Q := X_iconst kX7_comesHome_60 (by decide +kernel)
theorem kX7_comesHome_61 : aCode iX7_comesHome 61 = some (.invokevirtual 40, 3) := by decide +kernel
theorem sX7_comesHome_61 {d : Nat} {σ : aS} {Q : aQ} {b : Nat} {p0 : Int32} {p1 : Int32} {v0 : Value} {ls : aL} : aX (d + 1) iX7_comesHome 61 (ls) (.int p1 :: .int p0 :: .ref b :: v0 :: []) σ Q ↔ aIs σ b 7 ∧ aX d iX7_part 0 [some (.ref b), some (.int p0), some (.int p1)] [] σ (fun r τ => aX (d + 1) iX7_comesHome 64 (ls) (aret r (v0 :: [])) τ Q) := X_invv (N := 2) (As := [.int p1, .int p0]) (w := 750) kX7_comesHome_61 (by decide +kernel) (by decide +kernel) rfl rfl (by simp only [List.length_cons, List.length_nil]; omega) (by simp only [List.length_cons, List.length_nil]; omega) (by decide +kernel) rfl (Nat.le_of_ble_eq_true rfl)
theorem kX7_comesHome_64 : aCode iX7_comesHome 64 = some (.iconst 2, 1) := by decide +kernel
theorem sX7_comesHome_64 {d : Nat} {σ : aS} {Q : aQ} {ls : aL} {st : List Value} : aX d iX7_comesHome 64 (ls) (st) σ Q ↔ aX d iX7_comesHome 65 (ls) (.int (nI 2) :: st) σ Q := X_iconst kX7_comesHome_64 (by decide +kernel)
theorem kX7_comesHome_65 : aCode iX7_comesHome 65 = some (.invokevirtual 78, 3) := by decide +kernel
theorem sX7_comesHome_65 {d : Nat} {σ : aS} {Q : aQ} {b : Nat} {p0 : Int32} {p1 : Int32} {ls : aL} : aX (d + 1) iX7_comesHome 65 (ls) (.int p1 :: .int p0 :: .ref b :: []) σ Q ↔ aIs σ b 7 ∧ aX d iX7_scores 0 [some (.ref b), some (.int p0), some (.int p1)] [] σ (fun r τ => aX (d + 1) iX7_comesHome 68 (ls) (aret r ([])) τ Q) := X_invv (N := 2) (As := [.int p1, .int p0]) (w := 830) kX7_comesHome_65 (by decide +kernel) (by decide +kernel) rfl rfl (by simp only [List.length_cons, List.length_nil]; omega) (by simp only [List.length_cons, List.length_nil]; omega) (by decide +kernel) rfl (Nat.le_of_ble_eq_true rfl)
theorem kX7_comesHome_68 : aCode iX7_comesHome 68 = some (.return_, 1) := by decide +kernel
theorem sX7_comesHome_68 {d : Nat} {σ : aS} {Q : aQ} {ls : aL} : aX d iX7_comesHome 68 (ls) ([]) σ Q ↔ Q none σ := X_vret kX7_comesHome_68 (by decide +kernel)
theorem kX7_goesTo_0 : aCode iX7_goesTo 0 = some (.aload_n 0, 1) := by decide +kernel
theorem sX7_goesTo_0 {d : Nat} {σ : aS} {Q : aQ} {x : Nat} {lt : aL} {st : List Value} : aX d iX7_goesTo 0 (some (.ref x) :: lt) (st) σ Q ↔ aX d iX7_goesTo 1 (some (.ref x) :: lt) (.ref x :: st) σ Q := X_aloadn kX7_goesTo_0 rfl rfl
theorem kX7_goesTo_1 : aCode iX7_goesTo 1 = some (.iload_n 1, 1) := by decide +kernel
theorem sX7_goesTo_1 {d : Nat} {σ : aS} {Q : aQ} {l0 : Option Value} {x : Int32} {lt : aL} {st : List Value} : aX d iX7_goesTo 1 (l0 :: some (.int x) :: lt) (st) σ Q ↔ aX d iX7_goesTo 2 (l0 :: some (.int x) :: lt) (.int x :: st) σ Q := X_iloadn kX7_goesTo_1 rfl
theorem kX7_goesTo_2 : aCode iX7_goesTo 2 = some (.iconst 1, 1) := by decide +kernel
theorem sX7_goesTo_2 {d : Nat} {σ : aS} {Q : aQ} {ls : aL} {st : List Value} : aX d iX7_goesTo 2 (ls) (st) σ Q ↔ aX d iX7_goesTo 3 (ls) (.int (nI 1) :: st) σ Q := X_iconst kX7_goesTo_2 (by decide +kernel)
theorem kX7_goesTo_3 : aCode iX7_goesTo 3 = some (.invokevirtual 40, 3) := by decide +kernel
theorem sX7_goesTo_3 {d : Nat} {σ : aS} {Q : aQ} {b : Nat} {p0 : Int32} {p1 : Int32} {ls : aL} : aX (d + 1) iX7_goesTo 3 (ls) (.int p1 :: .int p0 :: .ref b :: []) σ Q ↔ aIs σ b 7 ∧ aX d iX7_part 0 [some (.ref b), some (.int p0), some (.int p1)] [] σ (fun r τ => aX (d + 1) iX7_goesTo 6 (ls) (aret r ([])) τ Q) := X_invv (N := 2) (As := [.int p1, .int p0]) (w := 750) kX7_goesTo_3 (by decide +kernel) (by decide +kernel) rfl rfl (by simp only [List.length_cons, List.length_nil]; omega) (by simp only [List.length_cons, List.length_nil]; omega) (by decide +kernel) rfl (Nat.le_of_ble_eq_true rfl)
theorem kX7_goesTo_6 : aCode iX7_goesTo 6 = some (.istore_n 3, 1) := by decide +kernel
theorem sX7_goesTo_6 {d : Nat} {σ : aS} {Q : aQ} {l0 l1 l2 lo : Option Value} {x : Int32} {lt : aL} {st : List Value} : aX d iX7_goesTo 6 (l0 :: l1 :: l2 :: lo :: lt) (.int x :: st) σ Q ↔ aX d iX7_goesTo 7 (l0 :: l1 :: aclr l2 :: some (.int x) :: lt) (st) σ Q := X_istoren kX7_goesTo_6 (by simp only [List.length_cons]; omega)
theorem kX7_goesTo_7 : aCode iX7_goesTo 7 = some (.aload_n 0, 1) := by decide +kernel
theorem sX7_goesTo_7 {d : Nat} {σ : aS} {Q : aQ} {x : Nat} {lt : aL} {st : List Value} : aX d iX7_goesTo 7 (some (.ref x) :: lt) (st) σ Q ↔ aX d iX7_goesTo 8 (some (.ref x) :: lt) (.ref x :: st) σ Q := X_aloadn kX7_goesTo_7 rfl rfl
theorem kX7_goesTo_8 : aCode iX7_goesTo 8 = some (.iload_n 1, 1) := by decide +kernel
theorem sX7_goesTo_8 {d : Nat} {σ : aS} {Q : aQ} {l0 : Option Value} {x : Int32} {lt : aL} {st : List Value} : aX d iX7_goesTo 8 (l0 :: some (.int x) :: lt) (st) σ Q ↔ aX d iX7_goesTo 9 (l0 :: some (.int x) :: lt) (.int x :: st) σ Q := X_iloadn kX7_goesTo_8 rfl
theorem kX7_goesTo_9 : aCode iX7_goesTo 9 = some (.iload_n 3, 1) := by decide +kernel
theorem sX7_goesTo_9 {d : Nat} {σ : aS} {Q : aQ} {l0 l1 l2 : Option Value} {x : Int32} {lt : aL} {st : List Value} : aX d iX7_goesTo 9 (l0 :: l1 :: l2 :: some (.int x) :: lt) (st) σ Q ↔ aX d iX7_goesTo 10 (l0 :: l1 :: l2 :: some (.int x) :: lt) (.int x :: st) σ Q := X_iloadn kX7_goesTo_9 rfl
theorem kX7_goesTo_10 : aCode iX7_goesTo 10 = some (.iconst 1, 1) := by decide +kernel
theorem sX7_goesTo_10 {d : Nat} {σ : aS} {Q : aQ} {ls : aL} {st : List Value} : aX d iX7_goesTo 10 (ls) (st) σ Q ↔ aX d iX7_goesTo 11 (ls) (.int (nI 1) :: st) σ Q := X_iconst kX7_goesTo_10 (by decide +kernel)
theorem kX7_goesTo_11 : aCode iX7_goesTo 11 = some (.isub, 1) := by decide +kernel
theorem sX7_goesTo_11 {d : Nat} {σ : aS} {Q : aQ} {x y : Int32} {ls : aL} {st : List Value} : aX d iX7_goesTo 11 (ls) (.int y :: .int x :: st) σ Q ↔ aX d iX7_goesTo 12 (ls) (.int (x - y) :: st) σ Q := X_isub kX7_goesTo_11
theorem kX7_goesTo_12 : aCode iX7_goesTo 12 = some (.iconst 1, 1) := by decide +kernel
theorem sX7_goesTo_12 {d : Nat} {σ : aS} {Q : aQ} {ls : aL} {st : List Value} : aX d iX7_goesTo 12 (ls) (st) σ Q ↔ aX d iX7_goesTo 13 (ls) (.int (nI 1) :: st) σ Q := X_iconst kX7_goesTo_12 (by decide +kernel)
theorem kX7_goesTo_13 : aCode iX7_goesTo 13 = some (.invokevirtual 55, 3) := by decide +kernel
theorem sX7_goesTo_13 {d : Nat} {σ : aS} {Q : aQ} {b : Nat} {p0 : Int32} {p1 : Int32} {p2 : Int32} {ls : aL} : aX (d + 1) iX7_goesTo 13 (ls) (.int p2 :: .int p1 :: .int p0 :: .ref b :: []) σ Q ↔ aIs σ b 7 ∧ aX d iX7_pagePart 0 [some (.ref b), some (.int p0), some (.int p1), some (.int p2)] [] σ (fun r τ => aX (d + 1) iX7_goesTo 16 (ls) (aret r ([])) τ Q) := X_invv (N := 3) (As := [.int p2, .int p1, .int p0]) (w := 806) kX7_goesTo_13 (by decide +kernel) (by decide +kernel) rfl rfl (by simp only [List.length_cons, List.length_nil]; omega) (by simp only [List.length_cons, List.length_nil]; omega) (by decide +kernel) rfl (Nat.le_of_ble_eq_true rfl)
theorem kX7_goesTo_16 : aCode iX7_goesTo 16 = some (.istore 4, 2) := by decide +kernel
theorem sX7_goesTo_16 {d : Nat} {σ : aS} {Q : aQ} {l0 l1 l2 l3 lo : Option Value} {x : Int32} {lt : aL} {st : List Value} : aX d iX7_goesTo 16 (l0 :: l1 :: l2 :: l3 :: lo :: lt) (.int x :: st) σ Q ↔ aX d iX7_goesTo 18 (l0 :: l1 :: l2 :: aclr l3 :: some (.int x) :: lt) (st) σ Q := X_istore kX7_goesTo_16 (by simp only [List.length_cons]; omega)
theorem kX7_goesTo_18 : aCode iX7_goesTo 18 = some (.aload_n 0, 1) := by decide +kernel
theorem sX7_goesTo_18 {d : Nat} {σ : aS} {Q : aQ} {x : Nat} {lt : aL} {st : List Value} : aX d iX7_goesTo 18 (some (.ref x) :: lt) (st) σ Q ↔ aX d iX7_goesTo 19 (some (.ref x) :: lt) (.ref x :: st) σ Q := X_aloadn kX7_goesTo_18 rfl rfl
theorem kX7_goesTo_19 : aCode iX7_goesTo 19 = some (.iload_n 1, 1) := by decide +kernel
theorem sX7_goesTo_19 {d : Nat} {σ : aS} {Q : aQ} {l0 : Option Value} {x : Int32} {lt : aL} {st : List Value} : aX d iX7_goesTo 19 (l0 :: some (.int x) :: lt) (st) σ Q ↔ aX d iX7_goesTo 20 (l0 :: some (.int x) :: lt) (.int x :: st) σ Q := X_iloadn kX7_goesTo_19 rfl
theorem kX7_goesTo_20 : aCode iX7_goesTo 20 = some (.iconst 3, 1) := by decide +kernel
theorem sX7_goesTo_20 {d : Nat} {σ : aS} {Q : aQ} {ls : aL} {st : List Value} : aX d iX7_goesTo 20 (ls) (st) σ Q ↔ aX d iX7_goesTo 21 (ls) (.int (nI 3) :: st) σ Q := X_iconst kX7_goesTo_20 (by decide +kernel)
theorem kX7_goesTo_21 : aCode iX7_goesTo 21 = some (.invokevirtual 40, 3) := by decide +kernel
theorem sX7_goesTo_21 {d : Nat} {σ : aS} {Q : aQ} {b : Nat} {p0 : Int32} {p1 : Int32} {ls : aL} : aX (d + 1) iX7_goesTo 21 (ls) (.int p1 :: .int p0 :: .ref b :: []) σ Q ↔ aIs σ b 7 ∧ aX d iX7_part 0 [some (.ref b), some (.int p0), some (.int p1)] [] σ (fun r τ => aX (d + 1) iX7_goesTo 24 (ls) (aret r ([])) τ Q) := X_invv (N := 2) (As := [.int p1, .int p0]) (w := 750) kX7_goesTo_21 (by decide +kernel) (by decide +kernel) rfl rfl (by simp only [List.length_cons, List.length_nil]; omega) (by simp only [List.length_cons, List.length_nil]; omega) (by decide +kernel) rfl (Nat.le_of_ble_eq_true rfl)
theorem kX7_goesTo_24 : aCode iX7_goesTo 24 = some (.istore 5, 2) := by decide +kernel
theorem sX7_goesTo_24 {d : Nat} {σ : aS} {Q : aQ} {l0 l1 l2 l3 l4 lo : Option Value} {x : Int32} {lt : aL} {st : List Value} : aX d iX7_goesTo 24 (l0 :: l1 :: l2 :: l3 :: l4 :: lo :: lt) (.int x :: st) σ Q ↔ aX d iX7_goesTo 26 (l0 :: l1 :: l2 :: l3 :: aclr l4 :: some (.int x) :: lt) (st) σ Q := X_istore kX7_goesTo_24 (by simp only [List.length_cons]; omega)
theorem kX7_goesTo_26 : aCode iX7_goesTo 26 = some (.iload_n 3, 1) := by decide +kernel
theorem sX7_goesTo_26 {d : Nat} {σ : aS} {Q : aQ} {l0 l1 l2 : Option Value} {x : Int32} {lt : aL} {st : List Value} : aX d iX7_goesTo 26 (l0 :: l1 :: l2 :: some (.int x) :: lt) (st) σ Q ↔ aX d iX7_goesTo 27 (l0 :: l1 :: l2 :: some (.int x) :: lt) (.int x :: st) σ Q := X_iloadn kX7_goesTo_26 rfl
theorem kX7_goesTo_27 : aCode iX7_goesTo 27 = some (.iconst 2, 1) := by decide +kernel
theorem sX7_goesTo_27 {d : Nat} {σ : aS} {Q : aQ} {ls : aL} {st : List Value} : aX d iX7_goesTo 27 (ls) (st) σ Q ↔ aX d iX7_goesTo 28 (ls) (.int (nI 2) :: st) σ Q := X_iconst kX7_goesTo_27 (by decide +kernel)
theorem kX7_goesTo_28 : aCode iX7_goesTo 28 = some (.irem, 1) := by decide +kernel
theorem sX7_goesTo_28 {d : Nat} {σ : aS} {Q : aQ} {x y : Int32} {ls : aL} {st : List Value} : aX d iX7_goesTo 28 (ls) (.int y :: .int x :: st) σ Q ↔ ¬ y = nI 0 ∧ aX d iX7_goesTo 29 (ls) (.int (x - x / y * y) :: st) σ Q := X_irem kX7_goesTo_28
theorem kX7_goesTo_29 : aCode iX7_goesTo 29 = some (.ifCond .ne 7, 3) := by decide +kernel
theorem sX7_goesTo_29 {d : Nat} {σ : aS} {Q : aQ} {x : Int32} {ls : aL} {st : List Value} : aX d iX7_goesTo 29 (ls) (.int x :: st) σ Q ↔ (if ¬ x = nI 0 then aX d iX7_goesTo 36 (ls) (st) σ Q else aX d iX7_goesTo 32 (ls) (st) σ Q) := by rw [X_if kX7_goesTo_29 (t := 36) (by decide)]; simp only [aCmp_ne]
theorem kX7_goesTo_32 : aCode iX7_goesTo 32 = some (.iconst 1, 1) := by decide +kernel
theorem sX7_goesTo_32 {d : Nat} {σ : aS} {Q : aQ} {ls : aL} {st : List Value} : aX d iX7_goesTo 32 (ls) (st) σ Q ↔ aX d iX7_goesTo 33 (ls) (.int (nI 1) :: st) σ Q := X_iconst kX7_goesTo_32 (by decide +kernel)
theorem kX7_goesTo_33 : aCode iX7_goesTo 33 = some (.goto 4, 3) := by decide +kernel
theorem sX7_goesTo_33 {d : Nat} {σ : aS} {Q : aQ} {ls : aL} {st : List Value} : aX d iX7_goesTo 33 (ls) (st) σ Q ↔ aX d iX7_goesTo 37 (ls) (st) σ Q := X_goto kX7_goesTo_33 (by decide)
theorem kX7_goesTo_36 : aCode iX7_goesTo 36 = some (.iconst 0, 1) := by decide +kernel
theorem sX7_goesTo_36 {d : Nat} {σ : aS} {Q : aQ} {ls : aL} {st : List Value} : aX d iX7_goesTo 36 (ls) (st) σ Q ↔ aX d iX7_goesTo 37 (ls) (.int (nI 0) :: st) σ Q := X_iconst kX7_goesTo_36 (by decide +kernel)
theorem kX7_goesTo_37 : aCode iX7_goesTo 37 = some (.istore 6, 2) := by decide +kernel
theorem sX7_goesTo_37 {d : Nat} {σ : aS} {Q : aQ} {l0 l1 l2 l3 l4 l5 lo : Option Value} {x : Int32} {lt : aL} {st : List Value} : aX d iX7_goesTo 37 (l0 :: l1 :: l2 :: l3 :: l4 :: l5 :: lo :: lt) (.int x :: st) σ Q ↔ aX d iX7_goesTo 39 (l0 :: l1 :: l2 :: l3 :: l4 :: aclr l5 :: some (.int x) :: lt) (st) σ Q := X_istore kX7_goesTo_37 (by simp only [List.length_cons]; omega)
theorem kX7_goesTo_39 : aCode iX7_goesTo 39 = some (.iload 6, 2) := by decide +kernel
theorem sX7_goesTo_39 {d : Nat} {σ : aS} {Q : aQ} {l0 l1 l2 l3 l4 l5 : Option Value} {x : Int32} {lt : aL} {st : List Value} : aX d iX7_goesTo 39 (l0 :: l1 :: l2 :: l3 :: l4 :: l5 :: some (.int x) :: lt) (st) σ Q ↔ aX d iX7_goesTo 41 (l0 :: l1 :: l2 :: l3 :: l4 :: l5 :: some (.int x) :: lt) (.int x :: st) σ Q := X_iload kX7_goesTo_39 rfl
theorem kX7_goesTo_41 : aCode iX7_goesTo 41 = some (.ifCond .eq 12, 3) := by decide +kernel
theorem sX7_goesTo_41 {d : Nat} {σ : aS} {Q : aQ} {x : Int32} {ls : aL} {st : List Value} : aX d iX7_goesTo 41 (ls) (.int x :: st) σ Q ↔ (if x = nI 0 then aX d iX7_goesTo 53 (ls) (st) σ Q else aX d iX7_goesTo 44 (ls) (st) σ Q) := by rw [X_if kX7_goesTo_41 (t := 53) (by decide)]; simp only [aCmp_eq]
theorem kX7_goesTo_44 : aCode iX7_goesTo 44 = some (.aload_n 0, 1) := by decide +kernel
theorem sX7_goesTo_44 {d : Nat} {σ : aS} {Q : aQ} {x : Nat} {lt : aL} {st : List Value} : aX d iX7_goesTo 44 (some (.ref x) :: lt) (st) σ Q ↔ aX d iX7_goesTo 45 (some (.ref x) :: lt) (.ref x :: st) σ Q := X_aloadn kX7_goesTo_44 rfl rfl
theorem kX7_goesTo_45 : aCode iX7_goesTo 45 = some (.iload 4, 2) := by decide +kernel
theorem sX7_goesTo_45 {d : Nat} {σ : aS} {Q : aQ} {l0 l1 l2 l3 : Option Value} {x : Int32} {lt : aL} {st : List Value} : aX d iX7_goesTo 45 (l0 :: l1 :: l2 :: l3 :: some (.int x) :: lt) (st) σ Q ↔ aX d iX7_goesTo 47 (l0 :: l1 :: l2 :: l3 :: some (.int x) :: lt) (.int x :: st) σ Q := X_iload kX7_goesTo_45 rfl
theorem kX7_goesTo_47 : aCode iX7_goesTo 47 = some (.invokevirtual 82, 3) := by decide +kernel
theorem sX7_goesTo_47 {d : Nat} {σ : aS} {Q : aQ} {b : Nat} {p0 : Int32} {ls : aL} : aX (d + 1) iX7_goesTo 47 (ls) (.int p0 :: .ref b :: []) σ Q ↔ aIs σ b 7 ∧ aX d iX7_guessed 0 [some (.ref b), some (.int p0), none, none] [] σ (fun r τ => aX (d + 1) iX7_goesTo 50 (ls) (aret r ([])) τ Q) := X_invv (N := 1) (As := [.int p0]) (w := 838) kX7_goesTo_47 (by decide +kernel) (by decide +kernel) rfl rfl (by simp only [List.length_cons, List.length_nil]; omega) (by simp only [List.length_cons, List.length_nil]; omega) (by decide +kernel) rfl (Nat.le_of_ble_eq_true rfl)
theorem kX7_goesTo_50 : aCode iX7_goesTo 50 = some (.goto 22, 3) := by decide +kernel
theorem sX7_goesTo_50 {d : Nat} {σ : aS} {Q : aQ} {ls : aL} {st : List Value} : aX d iX7_goesTo 50 (ls) (st) σ Q ↔ aX d iX7_goesTo 72 (ls) (st) σ Q := X_goto kX7_goesTo_50 (by decide)
theorem kX7_goesTo_53 : aCode iX7_goesTo 53 = some (.aload_n 0, 1) := by decide +kernel
theorem sX7_goesTo_53 {d : Nat} {σ : aS} {Q : aQ} {x : Nat} {lt : aL} {st : List Value} : aX d iX7_goesTo 53 (some (.ref x) :: lt) (st) σ Q ↔ aX d iX7_goesTo 54 (some (.ref x) :: lt) (.ref x :: st) σ Q := X_aloadn kX7_goesTo_53 rfl rfl
theorem kX7_goesTo_54 : aCode iX7_goesTo 54 = some (.getfield 7, 3) := by decide +kernel
theorem sX7_goesTo_54 {d : Nat} {σ : aS} {Q : aQ} {a : Nat} {ls : aL} {st : List Value} : aX d iX7_goesTo 54 (ls) (.ref a :: st) σ Q ↔ ∃ v, aFld σ a 7 0 = some v ∧ aX d iX7_goesTo 57 (ls) (v :: st) σ Q := X_getf (w := 650) kX7_goesTo_54 (by decide +kernel)
theorem kX7_goesTo_57 : aCode iX7_goesTo 57 = some (.iconst 0, 1) := by decide +kernel
theorem sX7_goesTo_57 {d : Nat} {σ : aS} {Q : aQ} {ls : aL} {st : List Value} : aX d iX7_goesTo 57 (ls) (st) σ Q ↔ aX d iX7_goesTo 58 (ls) (.int (nI 0) :: st) σ Q := X_iconst kX7_goesTo_57 (by decide +kernel)
theorem kX7_goesTo_58 : aCode iX7_goesTo 58 = some (.iload 4, 2) := by decide +kernel
theorem sX7_goesTo_58 {d : Nat} {σ : aS} {Q : aQ} {l0 l1 l2 l3 : Option Value} {x : Int32} {lt : aL} {st : List Value} : aX d iX7_goesTo 58 (l0 :: l1 :: l2 :: l3 :: some (.int x) :: lt) (st) σ Q ↔ aX d iX7_goesTo 60 (l0 :: l1 :: l2 :: l3 :: some (.int x) :: lt) (.int x :: st) σ Q := X_iload kX7_goesTo_58 rfl
theorem kX7_goesTo_60 : aCode iX7_goesTo 60 = some (.iadd, 1) := by decide +kernel
theorem sX7_goesTo_60 {d : Nat} {σ : aS} {Q : aQ} {x y : Int32} {ls : aL} {st : List Value} : aX d iX7_goesTo 60 (ls) (.int y :: .int x :: st) σ Q ↔ aX d iX7_goesTo 61 (ls) (.int (x + y) :: st) σ Q := X_iadd kX7_goesTo_60
theorem kX7_goesTo_61 : aCode iX7_goesTo 61 = some (.iaload, 1) := by decide +kernel
theorem sX7_goesTo_61 {d : Nat} {σ : aS} {Q : aQ} {a : Nat} {i : Int32} {ls : aL} {st : List Value} : aX d iX7_goesTo 61 (ls) (.int i :: .ref a :: st) σ Q ↔ ∃ x, aRowR σ a = some x ∧ vp_in i x.1 ∧ aX d iX7_goesTo 62 (ls) (.int (x.2 i.toNatClampNeg) :: st) σ Q := X_iaload kX7_goesTo_61
theorem kX7_goesTo_62 : aCode iX7_goesTo 62 = some (.aload_n 0, 1) := by decide +kernel
theorem sX7_goesTo_62 {d : Nat} {σ : aS} {Q : aQ} {x : Nat} {lt : aL} {st : List Value} : aX d iX7_goesTo 62 (some (.ref x) :: lt) (st) σ Q ↔ aX d iX7_goesTo 63 (some (.ref x) :: lt) (.ref x :: st) σ Q := X_aloadn kX7_goesTo_62 rfl rfl
theorem kX7_goesTo_63 : aCode iX7_goesTo 63 = some (.getfield 7, 3) := by decide +kernel
theorem sX7_goesTo_63 {d : Nat} {σ : aS} {Q : aQ} {a : Nat} {ls : aL} {st : List Value} : aX d iX7_goesTo 63 (ls) (.ref a :: st) σ Q ↔ ∃ v, aFld σ a 7 0 = some v ∧ aX d iX7_goesTo 66 (ls) (v :: st) σ Q := X_getf (w := 650) kX7_goesTo_63 (by decide +kernel)
theorem kX7_goesTo_66 : aCode iX7_goesTo 66 = some (.bipush 17, 2) := by decide +kernel
theorem sX7_goesTo_66 {d : Nat} {σ : aS} {Q : aQ} {ls : aL} {st : List Value} : aX d iX7_goesTo 66 (ls) (st) σ Q ↔ aX d iX7_goesTo 68 (ls) (.int (nI 17) :: st) σ Q := X_bipush kX7_goesTo_66 (by decide +kernel)
theorem kX7_goesTo_68 : aCode iX7_goesTo 68 = some (.iload_n 2, 1) := by decide +kernel
theorem sX7_goesTo_68 {d : Nat} {σ : aS} {Q : aQ} {l0 l1 : Option Value} {x : Int32} {lt : aL} {st : List Value} : aX d iX7_goesTo 68 (l0 :: l1 :: some (.int x) :: lt) (st) σ Q ↔ aX d iX7_goesTo 69 (l0 :: l1 :: some (.int x) :: lt) (.int x :: st) σ Q := X_iloadn kX7_goesTo_68 rfl
theorem kX7_goesTo_69 : aCode iX7_goesTo 69 = some (.iadd, 1) := by decide +kernel
theorem sX7_goesTo_69 {d : Nat} {σ : aS} {Q : aQ} {x y : Int32} {ls : aL} {st : List Value} : aX d iX7_goesTo 69 (ls) (.int y :: .int x :: st) σ Q ↔ aX d iX7_goesTo 70 (ls) (.int (x + y) :: st) σ Q := X_iadd kX7_goesTo_69
theorem kX7_goesTo_70 : aCode iX7_goesTo 70 = some (.iaload, 1) := by decide +kernel
theorem sX7_goesTo_70 {d : Nat} {σ : aS} {Q : aQ} {a : Nat} {i : Int32} {ls : aL} {st : List Value} : aX d iX7_goesTo 70 (ls) (.int i :: .ref a :: st) σ Q ↔ ∃ x, aRowR σ a = some x ∧ vp_in i x.1 ∧ aX d iX7_goesTo 71 (ls) (.int (x.2 i.toNatClampNeg) :: st) σ Q := X_iaload kX7_goesTo_70
theorem kX7_goesTo_71 : aCode iX7_goesTo 71 = some (.iand, 1) := by decide +kernel
theorem sX7_goesTo_71 {d : Nat} {σ : aS} {Q : aQ} {x y : Int32} {ls : aL} {st : List Value} : aX d iX7_goesTo 71 (ls) (.int y :: .int x :: st) σ Q ↔ aX d iX7_goesTo 72 (ls) (.int (x &&& y) :: st) σ Q := X_iand kX7_goesTo_71
theorem kX7_goesTo_72 : aCode iX7_goesTo 72 = some (.istore 7, 2) := by decide +kernel
theorem sX7_goesTo_72 {d : Nat} {σ : aS} {Q : aQ} {l0 l1 l2 l3 l4 l5 l6 lo : Option Value} {x : Int32} {lt : aL} {st : List Value} : aX d iX7_goesTo 72 (l0 :: l1 :: l2 :: l3 :: l4 :: l5 :: l6 :: lo :: lt) (.int x :: st) σ Q ↔ aX d iX7_goesTo 74 (l0 :: l1 :: l2 :: l3 :: l4 :: l5 :: aclr l6 :: some (.int x) :: lt) (st) σ Q := X_istore kX7_goesTo_72 (by simp only [List.length_cons]; omega)
theorem kX7_goesTo_74 : aCode iX7_goesTo 74 = some (.aload_n 0, 1) := by decide +kernel
theorem sX7_goesTo_74 {d : Nat} {σ : aS} {Q : aQ} {x : Nat} {lt : aL} {st : List Value} : aX d iX7_goesTo 74 (some (.ref x) :: lt) (st) σ Q ↔ aX d iX7_goesTo 75 (some (.ref x) :: lt) (.ref x :: st) σ Q := X_aloadn kX7_goesTo_74 rfl rfl
theorem kX7_goesTo_75 : aCode iX7_goesTo 75 = some (.iload_n 1, 1) := by decide +kernel
theorem sX7_goesTo_75 {d : Nat} {σ : aS} {Q : aQ} {l0 : Option Value} {x : Int32} {lt : aL} {st : List Value} : aX d iX7_goesTo 75 (l0 :: some (.int x) :: lt) (st) σ Q ↔ aX d iX7_goesTo 76 (l0 :: some (.int x) :: lt) (.int x :: st) σ Q := X_iloadn kX7_goesTo_75 rfl
theorem kX7_goesTo_76 : aCode iX7_goesTo 76 = some (.iload_n 2, 1) := by decide +kernel
theorem sX7_goesTo_76 {d : Nat} {σ : aS} {Q : aQ} {l0 l1 : Option Value} {x : Int32} {lt : aL} {st : List Value} : aX d iX7_goesTo 76 (l0 :: l1 :: some (.int x) :: lt) (st) σ Q ↔ aX d iX7_goesTo 77 (l0 :: l1 :: some (.int x) :: lt) (.int x :: st) σ Q := X_iloadn kX7_goesTo_76 rfl
theorem kX7_goesTo_77 : aCode iX7_goesTo 77 = some (.iload 5, 2) := by decide +kernel
theorem sX7_goesTo_77 {d : Nat} {σ : aS} {Q : aQ} {l0 l1 l2 l3 l4 : Option Value} {x : Int32} {lt : aL} {st : List Value} : aX d iX7_goesTo 77 (l0 :: l1 :: l2 :: l3 :: l4 :: some (.int x) :: lt) (st) σ Q ↔ aX d iX7_goesTo 79 (l0 :: l1 :: l2 :: l3 :: l4 :: some (.int x) :: lt) (.int x :: st) σ Q := X_iload kX7_goesTo_77 rfl
theorem kX7_goesTo_79 : aCode iX7_goesTo 79 = some (.bipush (-6), 2) := by decide +kernel
theorem sX7_goesTo_79 {d : Nat} {σ : aS} {Q : aQ} {ls : aL} {st : List Value} : aX d iX7_goesTo 79 (ls) (st) σ Q ↔ aX d iX7_goesTo 81 (ls) (.int ((-6)) :: st) σ Q := X_bipush kX7_goesTo_79 (by decide +kernel)
theorem kX7_goesTo_81 : aCode iX7_goesTo 81 = some (.if_icmp .ne 8, 3) := by decide +kernel
theorem sX7_goesTo_81 {d : Nat} {σ : aS} {Q : aQ} {x y : Int32} {ls : aL} {st : List Value} : aX d iX7_goesTo 81 (ls) (.int y :: .int x :: st) σ Q ↔ (if ¬ x = y then aX d iX7_goesTo 89 (ls) (st) σ Q else aX d iX7_goesTo 84 (ls) (st) σ Q) := by rw [X_icmp kX7_goesTo_81 (t := 89) (by decide)]; simp only [aCmp_ne]
theorem kX7_goesTo_84 : aCode iX7_goesTo 84 = some (.iload 7, 2) := by decide +kernel
theorem sX7_goesTo_84 {d : Nat} {σ : aS} {Q : aQ} {l0 l1 l2 l3 l4 l5 l6 : Option Value} {x : Int32} {lt : aL} {st : List Value} : aX d iX7_goesTo 84 (l0 :: l1 :: l2 :: l3 :: l4 :: l5 :: l6 :: some (.int x) :: lt) (st) σ Q ↔ aX d iX7_goesTo 86 (l0 :: l1 :: l2 :: l3 :: l4 :: l5 :: l6 :: some (.int x) :: lt) (.int x :: st) σ Q := X_iload kX7_goesTo_84 rfl
theorem kX7_goesTo_86 : aCode iX7_goesTo 86 = some (.goto 5, 3) := by decide +kernel
theorem sX7_goesTo_86 {d : Nat} {σ : aS} {Q : aQ} {ls : aL} {st : List Value} : aX d iX7_goesTo 86 (ls) (st) σ Q ↔ aX d iX7_goesTo 91 (ls) (st) σ Q := X_goto kX7_goesTo_86 (by decide)
theorem kX7_goesTo_89 : aCode iX7_goesTo 89 = some (.iload 5, 2) := by decide +kernel
theorem sX7_goesTo_89 {d : Nat} {σ : aS} {Q : aQ} {l0 l1 l2 l3 l4 : Option Value} {x : Int32} {lt : aL} {st : List Value} : aX d iX7_goesTo 89 (l0 :: l1 :: l2 :: l3 :: l4 :: some (.int x) :: lt) (st) σ Q ↔ aX d iX7_goesTo 91 (l0 :: l1 :: l2 :: l3 :: l4 :: some (.int x) :: lt) (.int x :: st) σ Q := X_iload kX7_goesTo_89 rfl
theorem kX7_goesTo_91 : aCode iX7_goesTo 91 = some (.iload 5, 2) := by decide +kernel
theorem sX7_goesTo_91 {d : Nat} {σ : aS} {Q : aQ} {l0 l1 l2 l3 l4 : Option Value} {x : Int32} {lt : aL} {st : List Value} : aX d iX7_goesTo 91 (l0 :: l1 :: l2 :: l3 :: l4 :: some (.int x) :: lt) (st) σ Q ↔ aX d iX7_goesTo 93 (l0 :: l1 :: l2 :: l3 :: l4 :: some (.int x) :: lt) (.int x :: st) σ Q := X_iload kX7_goesTo_91 rfl
theorem kX7_goesTo_93 : aCode iX7_goesTo 93 = some (.bipush (-6), 2) := by decide +kernel
theorem sX7_goesTo_93 {d : Nat} {σ : aS} {Q : aQ} {ls : aL} {st : List Value} : aX d iX7_goesTo 93 (ls) (st) σ Q ↔ aX d iX7_goesTo 95 (ls) (.int ((-6)) :: st) σ Q := X_bipush kX7_goesTo_93 (by decide +kernel)
theorem kX7_goesTo_95 : aCode iX7_goesTo 95 = some (.if_icmp .ne 7, 3) := by decide +kernel
theorem sX7_goesTo_95 {d : Nat} {σ : aS} {Q : aQ} {x y : Int32} {ls : aL} {st : List Value} : aX d iX7_goesTo 95 (ls) (.int y :: .int x :: st) σ Q ↔ (if ¬ x = y then aX d iX7_goesTo 102 (ls) (st) σ Q else aX d iX7_goesTo 98 (ls) (st) σ Q) := by rw [X_icmp kX7_goesTo_95 (t := 102) (by decide)]; simp only [aCmp_ne]
theorem kX7_goesTo_98 : aCode iX7_goesTo 98 = some (.iconst 0, 1) := by decide +kernel
theorem sX7_goesTo_98 {d : Nat} {σ : aS} {Q : aQ} {ls : aL} {st : List Value} : aX d iX7_goesTo 98 (ls) (st) σ Q ↔ aX d iX7_goesTo 99 (ls) (.int (nI 0) :: st) σ Q := X_iconst kX7_goesTo_98 (by decide +kernel)
theorem kX7_goesTo_99 : aCode iX7_goesTo 99 = some (.goto 4, 3) := by decide +kernel
theorem sX7_goesTo_99 {d : Nat} {σ : aS} {Q : aQ} {ls : aL} {st : List Value} : aX d iX7_goesTo 99 (ls) (st) σ Q ↔ aX d iX7_goesTo 103 (ls) (st) σ Q := X_goto kX7_goesTo_99 (by decide)
theorem kX7_goesTo_102 : aCode iX7_goesTo 102 = some (.iconst 1, 1) := by decide +kernel
theorem sX7_goesTo_102 {d : Nat} {σ : aS} {Q : aQ} {ls : aL} {st : List Value} : aX d iX7_goesTo 102 (ls) (st) σ Q ↔ aX d iX7_goesTo 103 (ls) (.int (nI 1) :: st) σ Q := X_iconst kX7_goesTo_102 (by decide +kernel)
theorem kX7_goesTo_103 : aCode iX7_goesTo 103 = some (.invokevirtual 85, 3) := by decide +kernel
theorem sX7_goesTo_103 {d : Nat} {σ : aS} {Q : aQ} {b : Nat} {p0 : Int32} {p1 : Int32} {p2 : Int32} {p3 : Int32} {ls : aL} : aX (d + 1) iX7_goesTo 103 (ls) (.int p3 :: .int p2 :: .int p1 :: .int p0 :: .ref b :: []) σ Q ↔ aIs σ b 7 ∧ aX d iX7_putPage 0 [some (.ref b), some (.int p0), some (.int p1), some (.int p2), some (.int p3), none] [] σ (fun r τ => aX (d + 1) iX7_goesTo 106 (ls) (aret r ([])) τ Q) := X_invv (N := 4) (As := [.int p3, .int p2, .int p1, .int p0]) (w := 770) kX7_goesTo_103 (by decide +kernel) (by decide +kernel) rfl rfl (by simp only [List.length_cons, List.length_nil]; omega) (by simp only [List.length_cons, List.length_nil]; omega) (by decide +kernel) rfl (Nat.le_of_ble_eq_true rfl)
theorem kX7_goesTo_106 : aCode iX7_goesTo 106 = some (.aload_n 0, 1) := by decide +kernel
theorem sX7_goesTo_106 {d : Nat} {σ : aS} {Q : aQ} {x : Nat} {lt : aL} {st : List Value} : aX d iX7_goesTo 106 (some (.ref x) :: lt) (st) σ Q ↔ aX d iX7_goesTo 107 (some (.ref x) :: lt) (.ref x :: st) σ Q := X_aloadn kX7_goesTo_106 rfl rfl
theorem kX7_goesTo_107 : aCode iX7_goesTo 107 = some (.iload_n 1, 1) := by decide +kernel
theorem sX7_goesTo_107 {d : Nat} {σ : aS} {Q : aQ} {l0 : Option Value} {x : Int32} {lt : aL} {st : List Value} : aX d iX7_goesTo 107 (l0 :: some (.int x) :: lt) (st) σ Q ↔ aX d iX7_goesTo 108 (l0 :: some (.int x) :: lt) (.int x :: st) σ Q := X_iloadn kX7_goesTo_107 rfl
theorem kX7_goesTo_108 : aCode iX7_goesTo 108 = some (.iconst 3, 1) := by decide +kernel
theorem sX7_goesTo_108 {d : Nat} {σ : aS} {Q : aQ} {ls : aL} {st : List Value} : aX d iX7_goesTo 108 (ls) (st) σ Q ↔ aX d iX7_goesTo 109 (ls) (.int (nI 3) :: st) σ Q := X_iconst kX7_goesTo_108 (by decide +kernel)
theorem kX7_goesTo_109 : aCode iX7_goesTo 109 = some (.bipush (-6), 2) := by decide +kernel
theorem sX7_goesTo_109 {d : Nat} {σ : aS} {Q : aQ} {ls : aL} {st : List Value} : aX d iX7_goesTo 109 (ls) (st) σ Q ↔ aX d iX7_goesTo 111 (ls) (.int ((-6)) :: st) σ Q := X_bipush kX7_goesTo_109 (by decide +kernel)
theorem kX7_goesTo_111 : aCode iX7_goesTo 111 = some (.invokevirtual 44, 3) := by decide +kernel
theorem sX7_goesTo_111 {d : Nat} {σ : aS} {Q : aQ} {b : Nat} {p0 : Int32} {p1 : Int32} {p2 : Int32} {ls : aL} : aX (d + 1) iX7_goesTo 111 (ls) (.int p2 :: .int p1 :: .int p0 :: .ref b :: []) σ Q ↔ aIs σ b 7 ∧ aX d iX7_setPart 0 [some (.ref b), some (.int p0), some (.int p1), some (.int p2)] [] σ (fun r τ => aX (d + 1) iX7_goesTo 114 (ls) (aret r ([])) τ Q) := X_invv (N := 3) (As := [.int p2, .int p1, .int p0]) (w := 766) kX7_goesTo_111 (by decide +kernel) (by decide +kernel) rfl rfl (by simp only [List.length_cons, List.length_nil]; omega) (by simp only [List.length_cons, List.length_nil]; omega) (by decide +kernel) rfl (Nat.le_of_ble_eq_true rfl)
theorem kX7_goesTo_114 : aCode iX7_goesTo 114 = some (.iload 6, 2) := by decide +kernel
theorem sX7_goesTo_114 {d : Nat} {σ : aS} {Q : aQ} {l0 l1 l2 l3 l4 l5 : Option Value} {x : Int32} {lt : aL} {st : List Value} : aX d iX7_goesTo 114 (l0 :: l1 :: l2 :: l3 :: l4 :: l5 :: some (.int x) :: lt) (st) σ Q ↔ aX d iX7_goesTo 116 (l0 :: l1 :: l2 :: l3 :: l4 :: l5 :: some (.int x) :: lt) (.int x :: st) σ Q := X_iload kX7_goesTo_114 rfl
theorem kX7_goesTo_116 : aCode iX7_goesTo 116 = some (.ifCond .eq 42, 3) := by decide +kernel
theorem sX7_goesTo_116 {d : Nat} {σ : aS} {Q : aQ} {x : Int32} {ls : aL} {st : List Value} : aX d iX7_goesTo 116 (ls) (.int x :: st) σ Q ↔ (if x = nI 0 then aX d iX7_goesTo 158 (ls) (st) σ Q else aX d iX7_goesTo 119 (ls) (st) σ Q) := by rw [X_if kX7_goesTo_116 (t := 158) (by decide)]; simp only [aCmp_eq]
theorem kX7_goesTo_119 : aCode iX7_goesTo 119 = some (.aload_n 0, 1) := by decide +kernel
theorem sX7_goesTo_119 {d : Nat} {σ : aS} {Q : aQ} {x : Nat} {lt : aL} {st : List Value} : aX d iX7_goesTo 119 (some (.ref x) :: lt) (st) σ Q ↔ aX d iX7_goesTo 120 (some (.ref x) :: lt) (.ref x :: st) σ Q := X_aloadn kX7_goesTo_119 rfl rfl
theorem kX7_goesTo_120 : aCode iX7_goesTo 120 = some (.iload_n 1, 1) := by decide +kernel
theorem sX7_goesTo_120 {d : Nat} {σ : aS} {Q : aQ} {l0 : Option Value} {x : Int32} {lt : aL} {st : List Value} : aX d iX7_goesTo 120 (l0 :: some (.int x) :: lt) (st) σ Q ↔ aX d iX7_goesTo 121 (l0 :: some (.int x) :: lt) (.int x :: st) σ Q := X_iloadn kX7_goesTo_120 rfl
theorem kX7_goesTo_121 : aCode iX7_goesTo 121 = some (.iload_n 3, 1) := by decide +kernel
theorem sX7_goesTo_121 {d : Nat} {σ : aS} {Q : aQ} {l0 l1 l2 : Option Value} {x : Int32} {lt : aL} {st : List Value} : aX d iX7_goesTo 121 (l0 :: l1 :: l2 :: some (.int x) :: lt) (st) σ Q ↔ aX d iX7_goesTo 122 (l0 :: l1 :: l2 :: some (.int x) :: lt) (.int x :: st) σ Q := X_iloadn kX7_goesTo_121 rfl
theorem kX7_goesTo_122 : aCode iX7_goesTo 122 = some (.iconst 1, 1) := by decide +kernel
theorem sX7_goesTo_122 {d : Nat} {σ : aS} {Q : aQ} {ls : aL} {st : List Value} : aX d iX7_goesTo 122 (ls) (st) σ Q ↔ aX d iX7_goesTo 123 (ls) (.int (nI 1) :: st) σ Q := X_iconst kX7_goesTo_122 (by decide +kernel)
theorem kX7_goesTo_123 : aCode iX7_goesTo 123 = some (.invokevirtual 55, 3) := by decide +kernel
theorem sX7_goesTo_123 {d : Nat} {σ : aS} {Q : aQ} {b : Nat} {p0 : Int32} {p1 : Int32} {p2 : Int32} {ls : aL} : aX (d + 1) iX7_goesTo 123 (ls) (.int p2 :: .int p1 :: .int p0 :: .ref b :: []) σ Q ↔ aIs σ b 7 ∧ aX d iX7_pagePart 0 [some (.ref b), some (.int p0), some (.int p1), some (.int p2)] [] σ (fun r τ => aX (d + 1) iX7_goesTo 126 (ls) (aret r ([])) τ Q) := X_invv (N := 3) (As := [.int p2, .int p1, .int p0]) (w := 806) kX7_goesTo_123 (by decide +kernel) (by decide +kernel) rfl rfl (by simp only [List.length_cons, List.length_nil]; omega) (by simp only [List.length_cons, List.length_nil]; omega) (by decide +kernel) rfl (Nat.le_of_ble_eq_true rfl)
theorem kX7_goesTo_126 : aCode iX7_goesTo 126 = some (.aload_n 0, 1) := by decide +kernel
theorem sX7_goesTo_126 {d : Nat} {σ : aS} {Q : aQ} {x : Nat} {lt : aL} {st : List Value} : aX d iX7_goesTo 126 (some (.ref x) :: lt) (st) σ Q ↔ aX d iX7_goesTo 127 (some (.ref x) :: lt) (.ref x :: st) σ Q := X_aloadn kX7_goesTo_126 rfl rfl
theorem kX7_goesTo_127 : aCode iX7_goesTo 127 = some (.iload_n 1, 1) := by decide +kernel
theorem sX7_goesTo_127 {d : Nat} {σ : aS} {Q : aQ} {l0 : Option Value} {x : Int32} {lt : aL} {st : List Value} : aX d iX7_goesTo 127 (l0 :: some (.int x) :: lt) (st) σ Q ↔ aX d iX7_goesTo 128 (l0 :: some (.int x) :: lt) (.int x :: st) σ Q := X_iloadn kX7_goesTo_127 rfl
theorem kX7_goesTo_128 : aCode iX7_goesTo 128 = some (.iload_n 3, 1) := by decide +kernel
theorem sX7_goesTo_128 {d : Nat} {σ : aS} {Q : aQ} {l0 l1 l2 : Option Value} {x : Int32} {lt : aL} {st : List Value} : aX d iX7_goesTo 128 (l0 :: l1 :: l2 :: some (.int x) :: lt) (st) σ Q ↔ aX d iX7_goesTo 129 (l0 :: l1 :: l2 :: some (.int x) :: lt) (.int x :: st) σ Q := X_iloadn kX7_goesTo_128 rfl
theorem kX7_goesTo_129 : aCode iX7_goesTo 129 = some (.iconst 2, 1) := by decide +kernel
theorem sX7_goesTo_129 {d : Nat} {σ : aS} {Q : aQ} {ls : aL} {st : List Value} : aX d iX7_goesTo 129 (ls) (st) σ Q ↔ aX d iX7_goesTo 130 (ls) (.int (nI 2) :: st) σ Q := X_iconst kX7_goesTo_129 (by decide +kernel)
theorem kX7_goesTo_130 : aCode iX7_goesTo 130 = some (.isub, 1) := by decide +kernel
theorem sX7_goesTo_130 {d : Nat} {σ : aS} {Q : aQ} {x y : Int32} {ls : aL} {st : List Value} : aX d iX7_goesTo 130 (ls) (.int y :: .int x :: st) σ Q ↔ aX d iX7_goesTo 131 (ls) (.int (x - y) :: st) σ Q := X_isub kX7_goesTo_130
theorem kX7_goesTo_131 : aCode iX7_goesTo 131 = some (.iconst 1, 1) := by decide +kernel
theorem sX7_goesTo_131 {d : Nat} {σ : aS} {Q : aQ} {ls : aL} {st : List Value} : aX d iX7_goesTo 131 (ls) (st) σ Q ↔ aX d iX7_goesTo 132 (ls) (.int (nI 1) :: st) σ Q := X_iconst kX7_goesTo_131 (by decide +kernel)
theorem kX7_goesTo_132 : aCode iX7_goesTo 132 = some (.invokevirtual 55, 3) := by decide +kernel
theorem sX7_goesTo_132 {d : Nat} {σ : aS} {Q : aQ} {b : Nat} {p0 : Int32} {p1 : Int32} {p2 : Int32} {v0 : Value} {ls : aL} : aX (d + 1) iX7_goesTo 132 (ls) (.int p2 :: .int p1 :: .int p0 :: .ref b :: v0 :: []) σ Q ↔ aIs σ b 7 ∧ aX d iX7_pagePart 0 [some (.ref b), some (.int p0), some (.int p1), some (.int p2)] [] σ (fun r τ => aX (d + 1) iX7_goesTo 135 (ls) (aret r (v0 :: [])) τ Q) := X_invv (N := 3) (As := [.int p2, .int p1, .int p0]) (w := 806) kX7_goesTo_132 (by decide +kernel) (by decide +kernel) rfl rfl (by simp only [List.length_cons, List.length_nil]; omega) (by simp only [List.length_cons, List.length_nil]; omega) (by decide +kernel) rfl (Nat.le_of_ble_eq_true rfl)
theorem kX7_goesTo_135 : aCode iX7_goesTo 135 = some (.if_icmp .ne 23, 3) := by decide +kernel
theorem sX7_goesTo_135 {d : Nat} {σ : aS} {Q : aQ} {x y : Int32} {ls : aL} {st : List Value} : aX d iX7_goesTo 135 (ls) (.int y :: .int x :: st) σ Q ↔ (if ¬ x = y then aX d iX7_goesTo 158 (ls) (st) σ Q else aX d iX7_goesTo 138 (ls) (st) σ Q) := by rw [X_icmp kX7_goesTo_135 (t := 158) (by decide)]; simp only [aCmp_ne]
theorem kX7_goesTo_138 : aCode iX7_goesTo 138 = some (.aload_n 0, 1) := by decide +kernel
theorem sX7_goesTo_138 {d : Nat} {σ : aS} {Q : aQ} {x : Nat} {lt : aL} {st : List Value} : aX d iX7_goesTo 138 (some (.ref x) :: lt) (st) σ Q ↔ aX d iX7_goesTo 139 (some (.ref x) :: lt) (.ref x :: st) σ Q := X_aloadn kX7_goesTo_138 rfl rfl
theorem kX7_goesTo_139 : aCode iX7_goesTo 139 = some (.aload_n 0, 1) := by decide +kernel
theorem sX7_goesTo_139 {d : Nat} {σ : aS} {Q : aQ} {x : Nat} {lt : aL} {st : List Value} : aX d iX7_goesTo 139 (some (.ref x) :: lt) (st) σ Q ↔ aX d iX7_goesTo 140 (some (.ref x) :: lt) (.ref x :: st) σ Q := X_aloadn kX7_goesTo_139 rfl rfl
theorem kX7_goesTo_140 : aCode iX7_goesTo 140 = some (.iload_n 1, 1) := by decide +kernel
theorem sX7_goesTo_140 {d : Nat} {σ : aS} {Q : aQ} {l0 : Option Value} {x : Int32} {lt : aL} {st : List Value} : aX d iX7_goesTo 140 (l0 :: some (.int x) :: lt) (st) σ Q ↔ aX d iX7_goesTo 141 (l0 :: some (.int x) :: lt) (.int x :: st) σ Q := X_iloadn kX7_goesTo_140 rfl
theorem kX7_goesTo_141 : aCode iX7_goesTo 141 = some (.iload_n 3, 1) := by decide +kernel
theorem sX7_goesTo_141 {d : Nat} {σ : aS} {Q : aQ} {l0 l1 l2 : Option Value} {x : Int32} {lt : aL} {st : List Value} : aX d iX7_goesTo 141 (l0 :: l1 :: l2 :: some (.int x) :: lt) (st) σ Q ↔ aX d iX7_goesTo 142 (l0 :: l1 :: l2 :: some (.int x) :: lt) (.int x :: st) σ Q := X_iloadn kX7_goesTo_141 rfl
theorem kX7_goesTo_142 : aCode iX7_goesTo 142 = some (.iconst 1, 1) := by decide +kernel
theorem sX7_goesTo_142 {d : Nat} {σ : aS} {Q : aQ} {ls : aL} {st : List Value} : aX d iX7_goesTo 142 (ls) (st) σ Q ↔ aX d iX7_goesTo 143 (ls) (.int (nI 1) :: st) σ Q := X_iconst kX7_goesTo_142 (by decide +kernel)
theorem kX7_goesTo_143 : aCode iX7_goesTo 143 = some (.isub, 1) := by decide +kernel
theorem sX7_goesTo_143 {d : Nat} {σ : aS} {Q : aQ} {x y : Int32} {ls : aL} {st : List Value} : aX d iX7_goesTo 143 (ls) (.int y :: .int x :: st) σ Q ↔ aX d iX7_goesTo 144 (ls) (.int (x - y) :: st) σ Q := X_isub kX7_goesTo_143
theorem kX7_goesTo_144 : aCode iX7_goesTo 144 = some (.iconst 0, 1) := by decide +kernel
theorem sX7_goesTo_144 {d : Nat} {σ : aS} {Q : aQ} {ls : aL} {st : List Value} : aX d iX7_goesTo 144 (ls) (st) σ Q ↔ aX d iX7_goesTo 145 (ls) (.int (nI 0) :: st) σ Q := X_iconst kX7_goesTo_144 (by decide +kernel)
theorem kX7_goesTo_145 : aCode iX7_goesTo 145 = some (.invokevirtual 55, 3) := by decide +kernel
theorem sX7_goesTo_145 {d : Nat} {σ : aS} {Q : aQ} {b : Nat} {p0 : Int32} {p1 : Int32} {p2 : Int32} {v0 : Value} {ls : aL} : aX (d + 1) iX7_goesTo 145 (ls) (.int p2 :: .int p1 :: .int p0 :: .ref b :: v0 :: []) σ Q ↔ aIs σ b 7 ∧ aX d iX7_pagePart 0 [some (.ref b), some (.int p0), some (.int p1), some (.int p2)] [] σ (fun r τ => aX (d + 1) iX7_goesTo 148 (ls) (aret r (v0 :: [])) τ Q) := X_invv (N := 3) (As := [.int p2, .int p1, .int p0]) (w := 806) kX7_goesTo_145 (by decide +kernel) (by decide +kernel) rfl rfl (by simp only [List.length_cons, List.length_nil]; omega) (by simp only [List.length_cons, List.length_nil]; omega) (by decide +kernel) rfl (Nat.le_of_ble_eq_true rfl)
theorem kX7_goesTo_148 : aCode iX7_goesTo 148 = some (.iconst 1, 1) := by decide +kernel
theorem sX7_goesTo_148 {d : Nat} {σ : aS} {Q : aQ} {ls : aL} {st : List Value} : aX d iX7_goesTo 148 (ls) (st) σ Q ↔ aX d iX7_goesTo 149 (ls) (.int (nI 1) :: st) σ Q := X_iconst kX7_goesTo_148 (by decide +kernel)
theorem kX7_goesTo_149 : aCode iX7_goesTo 149 = some (.invokevirtual 78, 3) := by decide +kernel
theorem sX7_goesTo_149 {d : Nat} {σ : aS} {Q : aQ} {b : Nat} {p0 : Int32} {p1 : Int32} {ls : aL} : aX (d + 1) iX7_goesTo 149 (ls) (.int p1 :: .int p0 :: .ref b :: []) σ Q ↔ aIs σ b 7 ∧ aX d iX7_scores 0 [some (.ref b), some (.int p0), some (.int p1)] [] σ (fun r τ => aX (d + 1) iX7_goesTo 152 (ls) (aret r ([])) τ Q) := X_invv (N := 2) (As := [.int p1, .int p0]) (w := 830) kX7_goesTo_149 (by decide +kernel) (by decide +kernel) rfl rfl (by simp only [List.length_cons, List.length_nil]; omega) (by simp only [List.length_cons, List.length_nil]; omega) (by decide +kernel) rfl (Nat.le_of_ble_eq_true rfl)
theorem kX7_goesTo_152 : aCode iX7_goesTo 152 = some (.aload_n 0, 1) := by decide +kernel
theorem sX7_goesTo_152 {d : Nat} {σ : aS} {Q : aQ} {x : Nat} {lt : aL} {st : List Value} : aX d iX7_goesTo 152 (some (.ref x) :: lt) (st) σ Q ↔ aX d iX7_goesTo 153 (some (.ref x) :: lt) (.ref x :: st) σ Q := X_aloadn kX7_goesTo_152 rfl rfl
theorem kX7_goesTo_153 : aCode iX7_goesTo 153 = some (.iload_n 2, 1) := by decide +kernel
theorem sX7_goesTo_153 {d : Nat} {σ : aS} {Q : aQ} {l0 l1 : Option Value} {x : Int32} {lt : aL} {st : List Value} : aX d iX7_goesTo 153 (l0 :: l1 :: some (.int x) :: lt) (st) σ Q ↔ aX d iX7_goesTo 154 (l0 :: l1 :: some (.int x) :: lt) (.int x :: st) σ Q := X_iloadn kX7_goesTo_153 rfl
theorem kX7_goesTo_154 : aCode iX7_goesTo 154 = some (.iconst 1, 1) := by decide +kernel
theorem sX7_goesTo_154 {d : Nat} {σ : aS} {Q : aQ} {ls : aL} {st : List Value} : aX d iX7_goesTo 154 (ls) (st) σ Q ↔ aX d iX7_goesTo 155 (ls) (.int (nI 1) :: st) σ Q := X_iconst kX7_goesTo_154 (by decide +kernel)
theorem kX7_goesTo_155 : aCode iX7_goesTo 155 = some (.invokevirtual 78, 3) := by decide +kernel
theorem sX7_goesTo_155 {d : Nat} {σ : aS} {Q : aQ} {b : Nat} {p0 : Int32} {p1 : Int32} {ls : aL} : aX (d + 1) iX7_goesTo 155 (ls) (.int p1 :: .int p0 :: .ref b :: []) σ Q ↔ aIs σ b 7 ∧ aX d iX7_scores 0 [some (.ref b), some (.int p0), some (.int p1)] [] σ (fun r τ => aX (d + 1) iX7_goesTo 158 (ls) (aret r ([])) τ Q) := X_invv (N := 2) (As := [.int p1, .int p0]) (w := 830) kX7_goesTo_155 (by decide +kernel) (by decide +kernel) rfl rfl (by simp only [List.length_cons, List.length_nil]; omega) (by simp only [List.length_cons, List.length_nil]; omega) (by decide +kernel) rfl (Nat.le_of_ble_eq_true rfl)
theorem kX7_goesTo_158 : aCode iX7_goesTo 158 = some (.return_, 1) := by decide +kernel
theorem sX7_goesTo_158 {d : Nat} {σ : aS} {Q : aQ} {ls : aL} : aX d iX7_goesTo 158 (ls) ([]) σ Q ↔ Q none σ := X_vret kX7_goesTo_158 (by decide +kernel)
theorem kX7_makesRound_0 : aCode iX7_makesRound 0 = some (.aload_n 0, 1) := by decide +kernel
theorem sX7_makesRound_0 {d : Nat} {σ : aS} {Q : aQ} {x : Nat} {lt : aL} {st : List Value} : aX d iX7_makesRound 0 (some (.ref x) :: lt) (st) σ Q ↔ aX d iX7_makesRound 1 (some (.ref x) :: lt) (.ref x :: st) σ Q := X_aloadn kX7_makesRound_0 rfl rfl
theorem kX7_makesRound_1 : aCode iX7_makesRound 1 = some (.getfield 7, 3) := by decide +kernel
theorem sX7_makesRound_1 {d : Nat} {σ : aS} {Q : aQ} {a : Nat} {ls : aL} {st : List Value} : aX d iX7_makesRound 1 (ls) (.ref a :: st) σ Q ↔ ∃ v, aFld σ a 7 0 = some v ∧ aX d iX7_makesRound 4 (ls) (v :: st) σ Q := X_getf (w := 650) kX7_makesRound_1 (by decide +kernel)
theorem kX7_makesRound_4 : aCode iX7_makesRound 4 = some (.bipush 33, 2) := by decide +kernel
theorem sX7_makesRound_4 {d : Nat} {σ : aS} {Q : aQ} {ls : aL} {st : List Value} : aX d iX7_makesRound 4 (ls) (st) σ Q ↔ aX d iX7_makesRound 6 (ls) (.int (nI 33) :: st) σ Q := X_bipush kX7_makesRound_4 (by decide +kernel)
theorem kX7_makesRound_6 : aCode iX7_makesRound 6 = some (.dup2, 1) := by decide +kernel
theorem sX7_makesRound_6 {d : Nat} {σ : aS} {Q : aQ} {y : Int32} {x : Nat} {ls : aL} {st : List Value} : aX d iX7_makesRound 6 (ls) (.int y :: .ref x :: st) σ Q ↔ aX d iX7_makesRound 7 (ls) (.int y :: .ref x :: .int y :: .ref x :: st) σ Q := X_dup2 kX7_makesRound_6 ⟨rfl, rfl⟩
theorem kX7_makesRound_7 : aCode iX7_makesRound 7 = some (.iaload, 1) := by decide +kernel
theorem sX7_makesRound_7 {d : Nat} {σ : aS} {Q : aQ} {a : Nat} {i : Int32} {ls : aL} {st : List Value} : aX d iX7_makesRound 7 (ls) (.int i :: .ref a :: st) σ Q ↔ ∃ x, aRowR σ a = some x ∧ vp_in i x.1 ∧ aX d iX7_makesRound 8 (ls) (.int (x.2 i.toNatClampNeg) :: st) σ Q := X_iaload kX7_makesRound_7
theorem kX7_makesRound_8 : aCode iX7_makesRound 8 = some (.iconst 1, 1) := by decide +kernel
theorem sX7_makesRound_8 {d : Nat} {σ : aS} {Q : aQ} {ls : aL} {st : List Value} : aX d iX7_makesRound 8 (ls) (st) σ Q ↔ aX d iX7_makesRound 9 (ls) (.int (nI 1) :: st) σ Q := X_iconst kX7_makesRound_8 (by decide +kernel)
theorem kX7_makesRound_9 : aCode iX7_makesRound 9 = some (.iadd, 1) := by decide +kernel
theorem sX7_makesRound_9 {d : Nat} {σ : aS} {Q : aQ} {x y : Int32} {ls : aL} {st : List Value} : aX d iX7_makesRound 9 (ls) (.int y :: .int x :: st) σ Q ↔ aX d iX7_makesRound 10 (ls) (.int (x + y) :: st) σ Q := X_iadd kX7_makesRound_9
theorem kX7_makesRound_10 : aCode iX7_makesRound 10 = some (.iastore, 1) := by decide +kernel
theorem sX7_makesRound_10 {d : Nat} {σ : aS} {Q : aQ} {a : Nat} {i v : Int32} {ls : aL} {st : List Value} : aX d iX7_makesRound 10 (ls) (.int v :: .int i :: .ref a :: st) σ Q ↔ ∃ x, aRow σ a = some x ∧ vp_in i x.1 ∧ aX d iX7_makesRound 11 (ls) (st) (aput σ a (eI x.1 (upd x.2 i.toNatClampNeg v))) Q := X_iastore kX7_makesRound_10
theorem kX7_makesRound_11 : aCode iX7_makesRound 11 = some (.iconst 0, 1) := by decide +kernel
theorem sX7_makesRound_11 {d : Nat} {σ : aS} {Q : aQ} {ls : aL} {st : List Value} : aX d iX7_makesRound 11 (ls) (st) σ Q ↔ aX d iX7_makesRound 12 (ls) (.int (nI 0) :: st) σ Q := X_iconst kX7_makesRound_11 (by decide +kernel)
theorem kX7_makesRound_12 : aCode iX7_makesRound 12 = some (.istore_n 1, 1) := by decide +kernel
theorem sX7_makesRound_12 {d : Nat} {σ : aS} {Q : aQ} {l0 lo : Option Value} {x : Int32} {lt : aL} {st : List Value} : aX d iX7_makesRound 12 (l0 :: lo :: lt) (.int x :: st) σ Q ↔ aX d iX7_makesRound 13 (aclr l0 :: some (.int x) :: lt) (st) σ Q := X_istoren kX7_makesRound_12 (by simp only [List.length_cons]; omega)
theorem kX7_makesRound_13 : aCode iX7_makesRound 13 = some (.iload_n 1, 1) := by decide +kernel
theorem sX7_makesRound_13 {d : Nat} {σ : aS} {Q : aQ} {l0 : Option Value} {x : Int32} {lt : aL} {st : List Value} : aX d iX7_makesRound 13 (l0 :: some (.int x) :: lt) (st) σ Q ↔ aX d iX7_makesRound 14 (l0 :: some (.int x) :: lt) (.int x :: st) σ Q := X_iloadn kX7_makesRound_13 rfl
theorem kX7_makesRound_14 : aCode iX7_makesRound 14 = some (.aload_n 0, 1) := by decide +kernel
theorem sX7_makesRound_14 {d : Nat} {σ : aS} {Q : aQ} {x : Nat} {lt : aL} {st : List Value} : aX d iX7_makesRound 14 (some (.ref x) :: lt) (st) σ Q ↔ aX d iX7_makesRound 15 (some (.ref x) :: lt) (.ref x :: st) σ Q := X_aloadn kX7_makesRound_14 rfl rfl
theorem kX7_makesRound_15 : aCode iX7_makesRound 15 = some (.getfield 7, 3) := by decide +kernel
theorem sX7_makesRound_15 {d : Nat} {σ : aS} {Q : aQ} {a : Nat} {ls : aL} {st : List Value} : aX d iX7_makesRound 15 (ls) (.ref a :: st) σ Q ↔ ∃ v, aFld σ a 7 0 = some v ∧ aX d iX7_makesRound 18 (ls) (v :: st) σ Q := X_getf (w := 650) kX7_makesRound_15 (by decide +kernel)
theorem kX7_makesRound_18 : aCode iX7_makesRound 18 = some (.bipush 34, 2) := by decide +kernel
theorem sX7_makesRound_18 {d : Nat} {σ : aS} {Q : aQ} {ls : aL} {st : List Value} : aX d iX7_makesRound 18 (ls) (st) σ Q ↔ aX d iX7_makesRound 20 (ls) (.int (nI 34) :: st) σ Q := X_bipush kX7_makesRound_18 (by decide +kernel)
theorem kX7_makesRound_20 : aCode iX7_makesRound 20 = some (.iaload, 1) := by decide +kernel
theorem sX7_makesRound_20 {d : Nat} {σ : aS} {Q : aQ} {a : Nat} {i : Int32} {ls : aL} {st : List Value} : aX d iX7_makesRound 20 (ls) (.int i :: .ref a :: st) σ Q ↔ ∃ x, aRowR σ a = some x ∧ vp_in i x.1 ∧ aX d iX7_makesRound 21 (ls) (.int (x.2 i.toNatClampNeg) :: st) σ Q := X_iaload kX7_makesRound_20
theorem kX7_makesRound_21 : aCode iX7_makesRound 21 = some (.if_icmp .ge 43, 3) := by decide +kernel
theorem sX7_makesRound_21 {d : Nat} {σ : aS} {Q : aQ} {x y : Int32} {ls : aL} {st : List Value} : aX d iX7_makesRound 21 (ls) (.int y :: .int x :: st) σ Q ↔ (if y ≤ x then aX d iX7_makesRound 64 (ls) (st) σ Q else aX d iX7_makesRound 24 (ls) (st) σ Q) := by rw [X_icmp kX7_makesRound_21 (t := 64) (by decide)]; simp only [aCmp_ge]
theorem kX7_makesRound_24 : aCode iX7_makesRound 24 = some (.aload_n 0, 1) := by decide +kernel
theorem sX7_makesRound_24 {d : Nat} {σ : aS} {Q : aQ} {x : Nat} {lt : aL} {st : List Value} : aX d iX7_makesRound 24 (some (.ref x) :: lt) (st) σ Q ↔ aX d iX7_makesRound 25 (some (.ref x) :: lt) (.ref x :: st) σ Q := X_aloadn kX7_makesRound_24 rfl rfl
theorem kX7_makesRound_25 : aCode iX7_makesRound 25 = some (.iload_n 1, 1) := by decide +kernel
theorem sX7_makesRound_25 {d : Nat} {σ : aS} {Q : aQ} {l0 : Option Value} {x : Int32} {lt : aL} {st : List Value} : aX d iX7_makesRound 25 (l0 :: some (.int x) :: lt) (st) σ Q ↔ aX d iX7_makesRound 26 (l0 :: some (.int x) :: lt) (.int x :: st) σ Q := X_iloadn kX7_makesRound_25 rfl
theorem kX7_makesRound_26 : aCode iX7_makesRound 26 = some (.invokevirtual 59, 3) := by decide +kernel
theorem sX7_makesRound_26 {d : Nat} {σ : aS} {Q : aQ} {b : Nat} {p0 : Int32} {ls : aL} : aX (d + 1) iX7_makesRound 26 (ls) (.int p0 :: .ref b :: []) σ Q ↔ aIs σ b 7 ∧ aX d iX7_goesRound 0 [some (.ref b), some (.int p0)] [] σ (fun r τ => aX (d + 1) iX7_makesRound 29 (ls) (aret r ([])) τ Q) := X_invv (N := 1) (As := [.int p0]) (w := 754) kX7_makesRound_26 (by decide +kernel) (by decide +kernel) rfl rfl (by simp only [List.length_cons, List.length_nil]; omega) (by simp only [List.length_cons, List.length_nil]; omega) (by decide +kernel) rfl (Nat.le_of_ble_eq_true rfl)
theorem kX7_makesRound_29 : aCode iX7_makesRound 29 = some (.ifCond .eq 29, 3) := by decide +kernel
theorem sX7_makesRound_29 {d : Nat} {σ : aS} {Q : aQ} {x : Int32} {ls : aL} {st : List Value} : aX d iX7_makesRound 29 (ls) (.int x :: st) σ Q ↔ (if x = nI 0 then aX d iX7_makesRound 58 (ls) (st) σ Q else aX d iX7_makesRound 32 (ls) (st) σ Q) := by rw [X_if kX7_makesRound_29 (t := 58) (by decide)]; simp only [aCmp_eq]
theorem kX7_makesRound_32 : aCode iX7_makesRound 32 = some (.aload_n 0, 1) := by decide +kernel
theorem sX7_makesRound_32 {d : Nat} {σ : aS} {Q : aQ} {x : Nat} {lt : aL} {st : List Value} : aX d iX7_makesRound 32 (some (.ref x) :: lt) (st) σ Q ↔ aX d iX7_makesRound 33 (some (.ref x) :: lt) (.ref x :: st) σ Q := X_aloadn kX7_makesRound_32 rfl rfl
theorem kX7_makesRound_33 : aCode iX7_makesRound 33 = some (.iload_n 1, 1) := by decide +kernel
theorem sX7_makesRound_33 {d : Nat} {σ : aS} {Q : aQ} {l0 : Option Value} {x : Int32} {lt : aL} {st : List Value} : aX d iX7_makesRound 33 (l0 :: some (.int x) :: lt) (st) σ Q ↔ aX d iX7_makesRound 34 (l0 :: some (.int x) :: lt) (.int x :: st) σ Q := X_iloadn kX7_makesRound_33 rfl
theorem kX7_makesRound_34 : aCode iX7_makesRound 34 = some (.invokevirtual 89, 3) := by decide +kernel
theorem sX7_makesRound_34 {d : Nat} {σ : aS} {Q : aQ} {b : Nat} {p0 : Int32} {ls : aL} : aX (d + 1) iX7_makesRound 34 (ls) (.int p0 :: .ref b :: []) σ Q ↔ aIs σ b 7 ∧ aX d iX7_nextSeat 0 [some (.ref b), some (.int p0), none, none, none, none, none] [] σ (fun r τ => aX (d + 1) iX7_makesRound 37 (ls) (aret r ([])) τ Q) := X_invv (N := 1) (As := [.int p0]) (w := 798) kX7_makesRound_34 (by decide +kernel) (by decide +kernel) rfl rfl (by simp only [List.length_cons, List.length_nil]; omega) (by simp only [List.length_cons, List.length_nil]; omega) (by decide +kernel) rfl (Nat.le_of_ble_eq_true rfl)
theorem kX7_makesRound_37 : aCode iX7_makesRound 37 = some (.istore_n 2, 1) := by decide +kernel
theorem sX7_makesRound_37 {d : Nat} {σ : aS} {Q : aQ} {l0 l1 lo : Option Value} {x : Int32} {lt : aL} {st : List Value} : aX d iX7_makesRound 37 (l0 :: l1 :: lo :: lt) (.int x :: st) σ Q ↔ aX d iX7_makesRound 38 (l0 :: aclr l1 :: some (.int x) :: lt) (st) σ Q := X_istoren kX7_makesRound_37 (by simp only [List.length_cons]; omega)
theorem kX7_makesRound_38 : aCode iX7_makesRound 38 = some (.iload_n 2, 1) := by decide +kernel
theorem sX7_makesRound_38 {d : Nat} {σ : aS} {Q : aQ} {l0 l1 : Option Value} {x : Int32} {lt : aL} {st : List Value} : aX d iX7_makesRound 38 (l0 :: l1 :: some (.int x) :: lt) (st) σ Q ↔ aX d iX7_makesRound 39 (l0 :: l1 :: some (.int x) :: lt) (.int x :: st) σ Q := X_iloadn kX7_makesRound_38 rfl
theorem kX7_makesRound_39 : aCode iX7_makesRound 39 = some (.bipush (-6), 2) := by decide +kernel
theorem sX7_makesRound_39 {d : Nat} {σ : aS} {Q : aQ} {ls : aL} {st : List Value} : aX d iX7_makesRound 39 (ls) (st) σ Q ↔ aX d iX7_makesRound 41 (ls) (.int ((-6)) :: st) σ Q := X_bipush kX7_makesRound_39 (by decide +kernel)
theorem kX7_makesRound_41 : aCode iX7_makesRound 41 = some (.if_icmp .ne 11, 3) := by decide +kernel
theorem sX7_makesRound_41 {d : Nat} {σ : aS} {Q : aQ} {x y : Int32} {ls : aL} {st : List Value} : aX d iX7_makesRound 41 (ls) (.int y :: .int x :: st) σ Q ↔ (if ¬ x = y then aX d iX7_makesRound 52 (ls) (st) σ Q else aX d iX7_makesRound 44 (ls) (st) σ Q) := by rw [X_icmp kX7_makesRound_41 (t := 52) (by decide)]; simp only [aCmp_ne]
theorem kX7_makesRound_44 : aCode iX7_makesRound 44 = some (.aload_n 0, 1) := by decide +kernel
theorem sX7_makesRound_44 {d : Nat} {σ : aS} {Q : aQ} {x : Nat} {lt : aL} {st : List Value} : aX d iX7_makesRound 44 (some (.ref x) :: lt) (st) σ Q ↔ aX d iX7_makesRound 45 (some (.ref x) :: lt) (.ref x :: st) σ Q := X_aloadn kX7_makesRound_44 rfl rfl
theorem kX7_makesRound_45 : aCode iX7_makesRound 45 = some (.iload_n 1, 1) := by decide +kernel
theorem sX7_makesRound_45 {d : Nat} {σ : aS} {Q : aQ} {l0 : Option Value} {x : Int32} {lt : aL} {st : List Value} : aX d iX7_makesRound 45 (l0 :: some (.int x) :: lt) (st) σ Q ↔ aX d iX7_makesRound 46 (l0 :: some (.int x) :: lt) (.int x :: st) σ Q := X_iloadn kX7_makesRound_45 rfl
theorem kX7_makesRound_46 : aCode iX7_makesRound 46 = some (.invokevirtual 92, 3) := by decide +kernel
theorem sX7_makesRound_46 {d : Nat} {σ : aS} {Q : aQ} {b : Nat} {p0 : Int32} {ls : aL} : aX (d + 1) iX7_makesRound 46 (ls) (.int p0 :: .ref b :: []) σ Q ↔ aIs σ b 7 ∧ aX d iX7_comesHome 0 [some (.ref b), some (.int p0)] [] σ (fun r τ => aX (d + 1) iX7_makesRound 49 (ls) (aret r ([])) τ Q) := X_invv (N := 1) (As := [.int p0]) (w := 814) kX7_makesRound_46 (by decide +kernel) (by decide +kernel) rfl rfl (by simp only [List.length_cons, List.length_nil]; omega) (by simp only [List.length_cons, List.length_nil]; omega) (by decide +kernel) rfl (Nat.le_of_ble_eq_true rfl)
theorem kX7_makesRound_49 : aCode iX7_makesRound 49 = some (.goto 9, 3) := by decide +kernel
theorem sX7_makesRound_49 {d : Nat} {σ : aS} {Q : aQ} {ls : aL} {st : List Value} : aX d iX7_makesRound 49 (ls) (st) σ Q ↔ aX d iX7_makesRound 58 (ls) (st) σ Q := X_goto kX7_makesRound_49 (by decide)
theorem kX7_makesRound_52 : aCode iX7_makesRound 52 = some (.aload_n 0, 1) := by decide +kernel
theorem sX7_makesRound_52 {d : Nat} {σ : aS} {Q : aQ} {x : Nat} {lt : aL} {st : List Value} : aX d iX7_makesRound 52 (some (.ref x) :: lt) (st) σ Q ↔ aX d iX7_makesRound 53 (some (.ref x) :: lt) (.ref x :: st) σ Q := X_aloadn kX7_makesRound_52 rfl rfl
theorem kX7_makesRound_53 : aCode iX7_makesRound 53 = some (.iload_n 1, 1) := by decide +kernel
theorem sX7_makesRound_53 {d : Nat} {σ : aS} {Q : aQ} {l0 : Option Value} {x : Int32} {lt : aL} {st : List Value} : aX d iX7_makesRound 53 (l0 :: some (.int x) :: lt) (st) σ Q ↔ aX d iX7_makesRound 54 (l0 :: some (.int x) :: lt) (.int x :: st) σ Q := X_iloadn kX7_makesRound_53 rfl
theorem kX7_makesRound_54 : aCode iX7_makesRound 54 = some (.iload_n 2, 1) := by decide +kernel
theorem sX7_makesRound_54 {d : Nat} {σ : aS} {Q : aQ} {l0 l1 : Option Value} {x : Int32} {lt : aL} {st : List Value} : aX d iX7_makesRound 54 (l0 :: l1 :: some (.int x) :: lt) (st) σ Q ↔ aX d iX7_makesRound 55 (l0 :: l1 :: some (.int x) :: lt) (.int x :: st) σ Q := X_iloadn kX7_makesRound_54 rfl
theorem kX7_makesRound_55 : aCode iX7_makesRound 55 = some (.invokevirtual 96, 3) := by decide +kernel
theorem sX7_makesRound_55 {d : Nat} {σ : aS} {Q : aQ} {b : Nat} {p0 : Int32} {p1 : Int32} {ls : aL} : aX (d + 1) iX7_makesRound 55 (ls) (.int p1 :: .int p0 :: .ref b :: []) σ Q ↔ aIs σ b 7 ∧ aX d iX7_goesTo 0 [some (.ref b), some (.int p0), some (.int p1), none, none, none, none, none] [] σ (fun r τ => aX (d + 1) iX7_makesRound 58 (ls) (aret r ([])) τ Q) := X_invv (N := 2) (As := [.int p1, .int p0]) (w := 834) kX7_makesRound_55 (by decide +kernel) (by decide +kernel) rfl rfl (by simp only [List.length_cons, List.length_nil]; omega) (by simp only [List.length_cons, List.length_nil]; omega) (by decide +kernel) rfl (Nat.le_of_ble_eq_true rfl)
theorem kX7_makesRound_58 : aCode iX7_makesRound 58 = some (.iinc 1 1, 3) := by decide +kernel
theorem sX7_makesRound_58 {d : Nat} {σ : aS} {Q : aQ} {l0 : Option Value} {x : Int32} {lt : aL} {st : List Value} : aX d iX7_makesRound 58 (l0 :: some (.int x) :: lt) (st) σ Q ↔ aX d iX7_makesRound 61 (aclr l0 :: some (.int (x + nI 1)) :: lt) (st) σ Q := X_iinc kX7_makesRound_58 rfl (by decide +kernel)
theorem kX7_makesRound_61 : aCode iX7_makesRound 61 = some (.goto (-48), 3) := by decide +kernel
theorem sX7_makesRound_61 {d : Nat} {σ : aS} {Q : aQ} {ls : aL} {st : List Value} : aX d iX7_makesRound 61 (ls) (st) σ Q ↔ aX d iX7_makesRound 13 (ls) (st) σ Q := X_goto kX7_makesRound_61 (by decide)
theorem kX7_makesRound_64 : aCode iX7_makesRound 64 = some (.return_, 1) := by decide +kernel
theorem sX7_makesRound_64 {d : Nat} {σ : aS} {Q : aQ} {ls : aL} : aX d iX7_makesRound 64 (ls) ([]) σ Q ↔ Q none σ := X_vret kX7_makesRound_64 (by decide +kernel)
theorem kX7_teach_0 : aCode iX7_teach 0 = some (.iload_n 1, 1) := by decide +kernel
theorem sX7_teach_0 {d : Nat} {σ : aS} {Q : aQ} {l0 : Option Value} {x : Int32} {lt : aL} {st : List Value} : aX d iX7_teach 0 (l0 :: some (.int x) :: lt) (st) σ Q ↔ aX d iX7_teach 1 (l0 :: some (.int x) :: lt) (.int x :: st) σ Q := X_iloadn kX7_teach_0 rfl
theorem kX7_teach_1 : aCode iX7_teach 1 = some (.invokestatic 99, 3) := by decide +kernel
theorem sX7_teach_1 {d : Nat} {σ : aS} {Q : aQ} {p0 : Int32} {ls : aL} : aX (d + 1) iX7_teach 1 (ls) (.int p0 :: []) σ Q ↔ aX d iX7_isWord 0 [some (.int p0)] [] σ (fun r τ => aX (d + 1) iX7_teach 4 (ls) (aret r ([])) τ Q) := X_invs (N := 1) (As := [.int p0]) (k := 1) (w := 691) kX7_teach_1 (by decide +kernel) (by decide) (by decide +kernel) rfl rfl (by simp only [List.length_cons, List.length_nil]; omega) (by simp only [List.length_cons, List.length_nil]; omega) rfl (Nat.le_of_ble_eq_true rfl)
theorem kX7_teach_4 : aCode iX7_teach 4 = some (.ifCond .eq 14, 3) := by decide +kernel
theorem sX7_teach_4 {d : Nat} {σ : aS} {Q : aQ} {x : Int32} {ls : aL} {st : List Value} : aX d iX7_teach 4 (ls) (.int x :: st) σ Q ↔ (if x = nI 0 then aX d iX7_teach 18 (ls) (st) σ Q else aX d iX7_teach 7 (ls) (st) σ Q) := by rw [X_if kX7_teach_4 (t := 18) (by decide)]; simp only [aCmp_eq]
theorem kX7_teach_7 : aCode iX7_teach 7 = some (.iload_n 2, 1) := by decide +kernel
theorem sX7_teach_7 {d : Nat} {σ : aS} {Q : aQ} {l0 l1 : Option Value} {x : Int32} {lt : aL} {st : List Value} : aX d iX7_teach 7 (l0 :: l1 :: some (.int x) :: lt) (st) σ Q ↔ aX d iX7_teach 8 (l0 :: l1 :: some (.int x) :: lt) (.int x :: st) σ Q := X_iloadn kX7_teach_7 rfl
theorem kX7_teach_8 : aCode iX7_teach 8 = some (.iconst 0, 1) := by decide +kernel
theorem sX7_teach_8 {d : Nat} {σ : aS} {Q : aQ} {ls : aL} {st : List Value} : aX d iX7_teach 8 (ls) (st) σ Q ↔ aX d iX7_teach 9 (ls) (.int (nI 0) :: st) σ Q := X_iconst kX7_teach_8 (by decide +kernel)
theorem kX7_teach_9 : aCode iX7_teach 9 = some (.sipush 4095, 3) := by decide +kernel
theorem sX7_teach_9 {d : Nat} {σ : aS} {Q : aQ} {ls : aL} {st : List Value} : aX d iX7_teach 9 (ls) (st) σ Q ↔ aX d iX7_teach 12 (ls) (.int (nI 4095) :: st) σ Q := X_sipush kX7_teach_9 (by decide +kernel)
theorem kX7_teach_12 : aCode iX7_teach 12 = some (.invokestatic 36, 3) := by decide +kernel
theorem sX7_teach_12 {d : Nat} {σ : aS} {Q : aQ} {p0 : Int32} {p1 : Int32} {p2 : Int32} {ls : aL} : aX (d + 1) iX7_teach 12 (ls) (.int p2 :: .int p1 :: .int p0 :: []) σ Q ↔ aX d iX7_within 0 [some (.int p0), some (.int p1), some (.int p2)] [] σ (fun r τ => aX (d + 1) iX7_teach 15 (ls) (aret r ([])) τ Q) := X_invs (N := 3) (As := [.int p2, .int p1, .int p0]) (k := 1) (w := 694) kX7_teach_12 (by decide +kernel) (by decide) (by decide +kernel) rfl rfl (by simp only [List.length_cons, List.length_nil]; omega) (by simp only [List.length_cons, List.length_nil]; omega) rfl (Nat.le_of_ble_eq_true rfl)
theorem kX7_teach_15 : aCode iX7_teach 15 = some (.ifCond .ne 17, 3) := by decide +kernel
theorem sX7_teach_15 {d : Nat} {σ : aS} {Q : aQ} {x : Int32} {ls : aL} {st : List Value} : aX d iX7_teach 15 (ls) (.int x :: st) σ Q ↔ (if ¬ x = nI 0 then aX d iX7_teach 32 (ls) (st) σ Q else aX d iX7_teach 18 (ls) (st) σ Q) := by rw [X_if kX7_teach_15 (t := 32) (by decide)]; simp only [aCmp_ne]
theorem kX7_teach_18 : aCode iX7_teach 18 = some (.iload_n 1, 1) := by decide +kernel
theorem sX7_teach_18 {d : Nat} {σ : aS} {Q : aQ} {l0 : Option Value} {x : Int32} {lt : aL} {st : List Value} : aX d iX7_teach 18 (l0 :: some (.int x) :: lt) (st) σ Q ↔ aX d iX7_teach 19 (l0 :: some (.int x) :: lt) (.int x :: st) σ Q := X_iloadn kX7_teach_18 rfl
theorem kX7_teach_19 : aCode iX7_teach 19 = some (.invokestatic 99, 3) := by decide +kernel
theorem sX7_teach_19 {d : Nat} {σ : aS} {Q : aQ} {p0 : Int32} {ls : aL} : aX (d + 1) iX7_teach 19 (ls) (.int p0 :: []) σ Q ↔ aX d iX7_isWord 0 [some (.int p0)] [] σ (fun r τ => aX (d + 1) iX7_teach 22 (ls) (aret r ([])) τ Q) := X_invs (N := 1) (As := [.int p0]) (k := 1) (w := 691) kX7_teach_19 (by decide +kernel) (by decide) (by decide +kernel) rfl rfl (by simp only [List.length_cons, List.length_nil]; omega) (by simp only [List.length_cons, List.length_nil]; omega) rfl (Nat.le_of_ble_eq_true rfl)
theorem kX7_teach_22 : aCode iX7_teach 22 = some (.ifCond .eq 8, 3) := by decide +kernel
theorem sX7_teach_22 {d : Nat} {σ : aS} {Q : aQ} {x : Int32} {ls : aL} {st : List Value} : aX d iX7_teach 22 (ls) (.int x :: st) σ Q ↔ (if x = nI 0 then aX d iX7_teach 30 (ls) (st) σ Q else aX d iX7_teach 25 (ls) (st) σ Q) := by rw [X_if kX7_teach_22 (t := 30) (by decide)]; simp only [aCmp_eq]
theorem kX7_teach_25 : aCode iX7_teach 25 = some (.bipush (-2), 2) := by decide +kernel
theorem sX7_teach_25 {d : Nat} {σ : aS} {Q : aQ} {ls : aL} {st : List Value} : aX d iX7_teach 25 (ls) (st) σ Q ↔ aX d iX7_teach 27 (ls) (.int ((-2)) :: st) σ Q := X_bipush kX7_teach_25 (by decide +kernel)
theorem kX7_teach_27 : aCode iX7_teach 27 = some (.goto 4, 3) := by decide +kernel
theorem sX7_teach_27 {d : Nat} {σ : aS} {Q : aQ} {ls : aL} {st : List Value} : aX d iX7_teach 27 (ls) (st) σ Q ↔ aX d iX7_teach 31 (ls) (st) σ Q := X_goto kX7_teach_27 (by decide)
theorem kX7_teach_30 : aCode iX7_teach 30 = some (.iconst (-1), 1) := by decide +kernel
theorem sX7_teach_30 {d : Nat} {σ : aS} {Q : aQ} {ls : aL} {st : List Value} : aX d iX7_teach 30 (ls) (st) σ Q ↔ aX d iX7_teach 31 (ls) (.int ((-1)) :: st) σ Q := X_iconst kX7_teach_30 (by decide +kernel)
theorem kX7_teach_31 : aCode iX7_teach 31 = some (.ireturn, 1) := by decide +kernel
theorem sX7_teach_31 {d : Nat} {σ : aS} {Q : aQ} {v : Int32} {ls : aL} : aX d iX7_teach 31 (ls) ([.int v]) σ Q ↔ Q (some (.int v)) σ := X_iret kX7_teach_31 (by decide +kernel)
theorem kX7_teach_32 : aCode iX7_teach 32 = some (.aload_n 0, 1) := by decide +kernel
theorem sX7_teach_32 {d : Nat} {σ : aS} {Q : aQ} {x : Nat} {lt : aL} {st : List Value} : aX d iX7_teach 32 (some (.ref x) :: lt) (st) σ Q ↔ aX d iX7_teach 33 (some (.ref x) :: lt) (.ref x :: st) σ Q := X_aloadn kX7_teach_32 rfl rfl
theorem kX7_teach_33 : aCode iX7_teach 33 = some (.invokevirtual 102, 3) := by decide +kernel
theorem sX7_teach_33 {d : Nat} {σ : aS} {Q : aQ} {b : Nat} {ls : aL} : aX (d + 1) iX7_teach 33 (ls) (.ref b :: []) σ Q ↔ aIs σ b 7 ∧ aX d iX7_record 0 [some (.ref b), none] [] σ (fun r τ => aX (d + 1) iX7_teach 36 (ls) (aret r ([])) τ Q) := X_invv (N := 0) (As := []) (w := 697) kX7_teach_33 (by decide +kernel) (by decide +kernel) rfl rfl (by simp only [List.length_cons, List.length_nil]; omega) (by simp only [List.length_cons, List.length_nil]; omega) (by decide +kernel) rfl (Nat.le_of_ble_eq_true rfl)
theorem kX7_teach_36 : aCode iX7_teach 36 = some (.aload_n 0, 1) := by decide +kernel
theorem sX7_teach_36 {d : Nat} {σ : aS} {Q : aQ} {x : Nat} {lt : aL} {st : List Value} : aX d iX7_teach 36 (some (.ref x) :: lt) (st) σ Q ↔ aX d iX7_teach 37 (some (.ref x) :: lt) (.ref x :: st) σ Q := X_aloadn kX7_teach_36 rfl rfl
theorem kX7_teach_37 : aCode iX7_teach 37 = some (.getfield 7, 3) := by decide +kernel
theorem sX7_teach_37 {d : Nat} {σ : aS} {Q : aQ} {a : Nat} {ls : aL} {st : List Value} : aX d iX7_teach 37 (ls) (.ref a :: st) σ Q ↔ ∃ v, aFld σ a 7 0 = some v ∧ aX d iX7_teach 40 (ls) (v :: st) σ Q := X_getf (w := 650) kX7_teach_37 (by decide +kernel)
theorem kX7_teach_40 : aCode iX7_teach 40 = some (.iconst 0, 1) := by decide +kernel
theorem sX7_teach_40 {d : Nat} {σ : aS} {Q : aQ} {ls : aL} {st : List Value} : aX d iX7_teach 40 (ls) (st) σ Q ↔ aX d iX7_teach 41 (ls) (.int (nI 0) :: st) σ Q := X_iconst kX7_teach_40 (by decide +kernel)
theorem kX7_teach_41 : aCode iX7_teach 41 = some (.iload_n 1, 1) := by decide +kernel
theorem sX7_teach_41 {d : Nat} {σ : aS} {Q : aQ} {l0 : Option Value} {x : Int32} {lt : aL} {st : List Value} : aX d iX7_teach 41 (l0 :: some (.int x) :: lt) (st) σ Q ↔ aX d iX7_teach 42 (l0 :: some (.int x) :: lt) (.int x :: st) σ Q := X_iloadn kX7_teach_41 rfl
theorem kX7_teach_42 : aCode iX7_teach 42 = some (.iadd, 1) := by decide +kernel
theorem sX7_teach_42 {d : Nat} {σ : aS} {Q : aQ} {x y : Int32} {ls : aL} {st : List Value} : aX d iX7_teach 42 (ls) (.int y :: .int x :: st) σ Q ↔ aX d iX7_teach 43 (ls) (.int (x + y) :: st) σ Q := X_iadd kX7_teach_42
theorem kX7_teach_43 : aCode iX7_teach 43 = some (.iaload, 1) := by decide +kernel
theorem sX7_teach_43 {d : Nat} {σ : aS} {Q : aQ} {a : Nat} {i : Int32} {ls : aL} {st : List Value} : aX d iX7_teach 43 (ls) (.int i :: .ref a :: st) σ Q ↔ ∃ x, aRowR σ a = some x ∧ vp_in i x.1 ∧ aX d iX7_teach 44 (ls) (.int (x.2 i.toNatClampNeg) :: st) σ Q := X_iaload kX7_teach_43
theorem kX7_teach_44 : aCode iX7_teach 44 = some (.istore_n 3, 1) := by decide +kernel
theorem sX7_teach_44 {d : Nat} {σ : aS} {Q : aQ} {l0 l1 l2 lo : Option Value} {x : Int32} {lt : aL} {st : List Value} : aX d iX7_teach 44 (l0 :: l1 :: l2 :: lo :: lt) (.int x :: st) σ Q ↔ aX d iX7_teach 45 (l0 :: l1 :: aclr l2 :: some (.int x) :: lt) (st) σ Q := X_istoren kX7_teach_44 (by simp only [List.length_cons]; omega)
theorem kX7_teach_45 : aCode iX7_teach 45 = some (.aload_n 0, 1) := by decide +kernel
theorem sX7_teach_45 {d : Nat} {σ : aS} {Q : aQ} {x : Nat} {lt : aL} {st : List Value} : aX d iX7_teach 45 (some (.ref x) :: lt) (st) σ Q ↔ aX d iX7_teach 46 (some (.ref x) :: lt) (.ref x :: st) σ Q := X_aloadn kX7_teach_45 rfl rfl
theorem kX7_teach_46 : aCode iX7_teach 46 = some (.getfield 7, 3) := by decide +kernel
theorem sX7_teach_46 {d : Nat} {σ : aS} {Q : aQ} {a : Nat} {ls : aL} {st : List Value} : aX d iX7_teach 46 (ls) (.ref a :: st) σ Q ↔ ∃ v, aFld σ a 7 0 = some v ∧ aX d iX7_teach 49 (ls) (v :: st) σ Q := X_getf (w := 650) kX7_teach_46 (by decide +kernel)
theorem kX7_teach_49 : aCode iX7_teach 49 = some (.iconst 0, 1) := by decide +kernel
theorem sX7_teach_49 {d : Nat} {σ : aS} {Q : aQ} {ls : aL} {st : List Value} : aX d iX7_teach 49 (ls) (st) σ Q ↔ aX d iX7_teach 50 (ls) (.int (nI 0) :: st) σ Q := X_iconst kX7_teach_49 (by decide +kernel)
theorem kX7_teach_50 : aCode iX7_teach 50 = some (.iload_n 1, 1) := by decide +kernel
theorem sX7_teach_50 {d : Nat} {σ : aS} {Q : aQ} {l0 : Option Value} {x : Int32} {lt : aL} {st : List Value} : aX d iX7_teach 50 (l0 :: some (.int x) :: lt) (st) σ Q ↔ aX d iX7_teach 51 (l0 :: some (.int x) :: lt) (.int x :: st) σ Q := X_iloadn kX7_teach_50 rfl
theorem kX7_teach_51 : aCode iX7_teach 51 = some (.iadd, 1) := by decide +kernel
theorem sX7_teach_51 {d : Nat} {σ : aS} {Q : aQ} {x y : Int32} {ls : aL} {st : List Value} : aX d iX7_teach 51 (ls) (.int y :: .int x :: st) σ Q ↔ aX d iX7_teach 52 (ls) (.int (x + y) :: st) σ Q := X_iadd kX7_teach_51
theorem kX7_teach_52 : aCode iX7_teach 52 = some (.iload_n 2, 1) := by decide +kernel
theorem sX7_teach_52 {d : Nat} {σ : aS} {Q : aQ} {l0 l1 : Option Value} {x : Int32} {lt : aL} {st : List Value} : aX d iX7_teach 52 (l0 :: l1 :: some (.int x) :: lt) (st) σ Q ↔ aX d iX7_teach 53 (l0 :: l1 :: some (.int x) :: lt) (.int x :: st) σ Q := X_iloadn kX7_teach_52 rfl
theorem kX7_teach_53 : aCode iX7_teach 53 = some (.iastore, 1) := by decide +kernel
theorem sX7_teach_53 {d : Nat} {σ : aS} {Q : aQ} {a : Nat} {i v : Int32} {ls : aL} {st : List Value} : aX d iX7_teach 53 (ls) (.int v :: .int i :: .ref a :: st) σ Q ↔ ∃ x, aRow σ a = some x ∧ vp_in i x.1 ∧ aX d iX7_teach 54 (ls) (st) (aput σ a (eI x.1 (upd x.2 i.toNatClampNeg v))) Q := X_iastore kX7_teach_53
theorem kX7_teach_54 : aCode iX7_teach 54 = some (.iload_n 3, 1) := by decide +kernel
theorem sX7_teach_54 {d : Nat} {σ : aS} {Q : aQ} {l0 l1 l2 : Option Value} {x : Int32} {lt : aL} {st : List Value} : aX d iX7_teach 54 (l0 :: l1 :: l2 :: some (.int x) :: lt) (st) σ Q ↔ aX d iX7_teach 55 (l0 :: l1 :: l2 :: some (.int x) :: lt) (.int x :: st) σ Q := X_iloadn kX7_teach_54 rfl
theorem kX7_teach_55 : aCode iX7_teach 55 = some (.ireturn, 1) := by decide +kernel
theorem sX7_teach_55 {d : Nat} {σ : aS} {Q : aQ} {v : Int32} {ls : aL} : aX d iX7_teach 55 (ls) ([.int v]) σ Q ↔ Q (some (.int v)) σ := X_iret kX7_teach_55 (by decide +kernel)
theorem kX7_whyNotSat_0 : aCode iX7_whyNotSat 0 = some (.iload_n 1, 1) := by decide +kernel
theorem sX7_whyNotSat_0 {d : Nat} {σ : aS} {Q : aQ} {l0 : Option Value} {x : Int32} {lt : aL} {st : List Value} : aX d iX7_whyNotSat 0 (l0 :: some (.int x) :: lt) (st) σ Q ↔ aX d iX7_whyNotSat 1 (l0 :: some (.int x) :: lt) (.int x :: st) σ Q := X_iloadn kX7_whyNotSat_0 rfl
theorem kX7_whyNotSat_1 : aCode iX7_whyNotSat 1 = some (.invokestatic 105, 3) := by decide +kernel
theorem sX7_whyNotSat_1 {d : Nat} {σ : aS} {Q : aQ} {p0 : Int32} {ls : aL} : aX (d + 1) iX7_whyNotSat 1 (ls) (.int p0 :: []) σ Q ↔ aX d iX7_isSeat 0 [some (.int p0)] [] σ (fun r τ => aX (d + 1) iX7_whyNotSat 4 (ls) (aret r ([])) τ Q) := X_invs (N := 1) (As := [.int p0]) (k := 1) (w := 712) kX7_whyNotSat_1 (by decide +kernel) (by decide) (by decide +kernel) rfl rfl (by simp only [List.length_cons, List.length_nil]; omega) (by simp only [List.length_cons, List.length_nil]; omega) rfl (Nat.le_of_ble_eq_true rfl)
theorem kX7_whyNotSat_4 : aCode iX7_whyNotSat 4 = some (.ifCond .ne 7, 3) := by decide +kernel
theorem sX7_whyNotSat_4 {d : Nat} {σ : aS} {Q : aQ} {x : Int32} {ls : aL} {st : List Value} : aX d iX7_whyNotSat 4 (ls) (.int x :: st) σ Q ↔ (if ¬ x = nI 0 then aX d iX7_whyNotSat 11 (ls) (st) σ Q else aX d iX7_whyNotSat 7 (ls) (st) σ Q) := by rw [X_if kX7_whyNotSat_4 (t := 11) (by decide)]; simp only [aCmp_ne]
theorem kX7_whyNotSat_7 : aCode iX7_whyNotSat 7 = some (.iconst (-1), 1) := by decide +kernel
theorem sX7_whyNotSat_7 {d : Nat} {σ : aS} {Q : aQ} {ls : aL} {st : List Value} : aX d iX7_whyNotSat 7 (ls) (st) σ Q ↔ aX d iX7_whyNotSat 8 (ls) (.int ((-1)) :: st) σ Q := X_iconst kX7_whyNotSat_7 (by decide +kernel)
theorem kX7_whyNotSat_8 : aCode iX7_whyNotSat 8 = some (.goto 26, 3) := by decide +kernel
theorem sX7_whyNotSat_8 {d : Nat} {σ : aS} {Q : aQ} {ls : aL} {st : List Value} : aX d iX7_whyNotSat 8 (ls) (st) σ Q ↔ aX d iX7_whyNotSat 34 (ls) (st) σ Q := X_goto kX7_whyNotSat_8 (by decide)
theorem kX7_whyNotSat_11 : aCode iX7_whyNotSat 11 = some (.iload_n 2, 1) := by decide +kernel
theorem sX7_whyNotSat_11 {d : Nat} {σ : aS} {Q : aQ} {l0 l1 : Option Value} {x : Int32} {lt : aL} {st : List Value} : aX d iX7_whyNotSat 11 (l0 :: l1 :: some (.int x) :: lt) (st) σ Q ↔ aX d iX7_whyNotSat 12 (l0 :: l1 :: some (.int x) :: lt) (.int x :: st) σ Q := X_iloadn kX7_whyNotSat_11 rfl
theorem kX7_whyNotSat_12 : aCode iX7_whyNotSat 12 = some (.bipush (-6), 2) := by decide +kernel
theorem sX7_whyNotSat_12 {d : Nat} {σ : aS} {Q : aQ} {ls : aL} {st : List Value} : aX d iX7_whyNotSat 12 (ls) (st) σ Q ↔ aX d iX7_whyNotSat 14 (ls) (.int ((-6)) :: st) σ Q := X_bipush kX7_whyNotSat_12 (by decide +kernel)
theorem kX7_whyNotSat_14 : aCode iX7_whyNotSat 14 = some (.if_icmp .eq 14, 3) := by decide +kernel
theorem sX7_whyNotSat_14 {d : Nat} {σ : aS} {Q : aQ} {x y : Int32} {ls : aL} {st : List Value} : aX d iX7_whyNotSat 14 (ls) (.int y :: .int x :: st) σ Q ↔ (if x = y then aX d iX7_whyNotSat 28 (ls) (st) σ Q else aX d iX7_whyNotSat 17 (ls) (st) σ Q) := by rw [X_icmp kX7_whyNotSat_14 (t := 28) (by decide)]; simp only [aCmp_eq]
theorem kX7_whyNotSat_17 : aCode iX7_whyNotSat 17 = some (.iload_n 2, 1) := by decide +kernel
theorem sX7_whyNotSat_17 {d : Nat} {σ : aS} {Q : aQ} {l0 l1 : Option Value} {x : Int32} {lt : aL} {st : List Value} : aX d iX7_whyNotSat 17 (l0 :: l1 :: some (.int x) :: lt) (st) σ Q ↔ aX d iX7_whyNotSat 18 (l0 :: l1 :: some (.int x) :: lt) (.int x :: st) σ Q := X_iloadn kX7_whyNotSat_17 rfl
theorem kX7_whyNotSat_18 : aCode iX7_whyNotSat 18 = some (.iconst 0, 1) := by decide +kernel
theorem sX7_whyNotSat_18 {d : Nat} {σ : aS} {Q : aQ} {ls : aL} {st : List Value} : aX d iX7_whyNotSat 18 (ls) (st) σ Q ↔ aX d iX7_whyNotSat 19 (ls) (.int (nI 0) :: st) σ Q := X_iconst kX7_whyNotSat_18 (by decide +kernel)
theorem kX7_whyNotSat_19 : aCode iX7_whyNotSat 19 = some (.sipush 4095, 3) := by decide +kernel
theorem sX7_whyNotSat_19 {d : Nat} {σ : aS} {Q : aQ} {ls : aL} {st : List Value} : aX d iX7_whyNotSat 19 (ls) (st) σ Q ↔ aX d iX7_whyNotSat 22 (ls) (.int (nI 4095) :: st) σ Q := X_sipush kX7_whyNotSat_19 (by decide +kernel)
theorem kX7_whyNotSat_22 : aCode iX7_whyNotSat 22 = some (.invokestatic 36, 3) := by decide +kernel
theorem sX7_whyNotSat_22 {d : Nat} {σ : aS} {Q : aQ} {p0 : Int32} {p1 : Int32} {p2 : Int32} {ls : aL} : aX (d + 1) iX7_whyNotSat 22 (ls) (.int p2 :: .int p1 :: .int p0 :: []) σ Q ↔ aX d iX7_within 0 [some (.int p0), some (.int p1), some (.int p2)] [] σ (fun r τ => aX (d + 1) iX7_whyNotSat 25 (ls) (aret r ([])) τ Q) := X_invs (N := 3) (As := [.int p2, .int p1, .int p0]) (k := 1) (w := 694) kX7_whyNotSat_22 (by decide +kernel) (by decide) (by decide +kernel) rfl rfl (by simp only [List.length_cons, List.length_nil]; omega) (by simp only [List.length_cons, List.length_nil]; omega) rfl (Nat.le_of_ble_eq_true rfl)
theorem kX7_whyNotSat_25 : aCode iX7_whyNotSat 25 = some (.ifCond .eq 7, 3) := by decide +kernel
theorem sX7_whyNotSat_25 {d : Nat} {σ : aS} {Q : aQ} {x : Int32} {ls : aL} {st : List Value} : aX d iX7_whyNotSat 25 (ls) (.int x :: st) σ Q ↔ (if x = nI 0 then aX d iX7_whyNotSat 32 (ls) (st) σ Q else aX d iX7_whyNotSat 28 (ls) (st) σ Q) := by rw [X_if kX7_whyNotSat_25 (t := 32) (by decide)]; simp only [aCmp_eq]
theorem kX7_whyNotSat_28 : aCode iX7_whyNotSat 28 = some (.iconst 0, 1) := by decide +kernel
theorem sX7_whyNotSat_28 {d : Nat} {σ : aS} {Q : aQ} {ls : aL} {st : List Value} : aX d iX7_whyNotSat 28 (ls) (st) σ Q ↔ aX d iX7_whyNotSat 29 (ls) (.int (nI 0) :: st) σ Q := X_iconst kX7_whyNotSat_28 (by decide +kernel)
theorem kX7_whyNotSat_29 : aCode iX7_whyNotSat 29 = some (.goto 5, 3) := by decide +kernel
theorem sX7_whyNotSat_29 {d : Nat} {σ : aS} {Q : aQ} {ls : aL} {st : List Value} : aX d iX7_whyNotSat 29 (ls) (st) σ Q ↔ aX d iX7_whyNotSat 34 (ls) (st) σ Q := X_goto kX7_whyNotSat_29 (by decide)
theorem kX7_whyNotSat_32 : aCode iX7_whyNotSat 32 = some (.bipush (-2), 2) := by decide +kernel
theorem sX7_whyNotSat_32 {d : Nat} {σ : aS} {Q : aQ} {ls : aL} {st : List Value} : aX d iX7_whyNotSat 32 (ls) (st) σ Q ↔ aX d iX7_whyNotSat 34 (ls) (.int ((-2)) :: st) σ Q := X_bipush kX7_whyNotSat_32 (by decide +kernel)
theorem kX7_whyNotSat_34 : aCode iX7_whyNotSat 34 = some (.ireturn, 1) := by decide +kernel
theorem sX7_whyNotSat_34 {d : Nat} {σ : aS} {Q : aQ} {v : Int32} {ls : aL} : aX d iX7_whyNotSat 34 (ls) ([.int v]) σ Q ↔ Q (some (.int v)) σ := X_iret kX7_whyNotSat_34 (by decide +kernel)
theorem kX7_sat_0 : aCode iX7_sat 0 = some (.aload_n 0, 1) := by decide +kernel
theorem sX7_sat_0 {d : Nat} {σ : aS} {Q : aQ} {x : Nat} {lt : aL} {st : List Value} : aX d iX7_sat 0 (some (.ref x) :: lt) (st) σ Q ↔ aX d iX7_sat 1 (some (.ref x) :: lt) (.ref x :: st) σ Q := X_aloadn kX7_sat_0 rfl rfl
theorem kX7_sat_1 : aCode iX7_sat 1 = some (.getfield 7, 3) := by decide +kernel
theorem sX7_sat_1 {d : Nat} {σ : aS} {Q : aQ} {a : Nat} {ls : aL} {st : List Value} : aX d iX7_sat 1 (ls) (.ref a :: st) σ Q ↔ ∃ v, aFld σ a 7 0 = some v ∧ aX d iX7_sat 4 (ls) (v :: st) σ Q := X_getf (w := 650) kX7_sat_1 (by decide +kernel)
theorem kX7_sat_4 : aCode iX7_sat 4 = some (.bipush 16, 2) := by decide +kernel
theorem sX7_sat_4 {d : Nat} {σ : aS} {Q : aQ} {ls : aL} {st : List Value} : aX d iX7_sat 4 (ls) (st) σ Q ↔ aX d iX7_sat 6 (ls) (.int (nI 16) :: st) σ Q := X_bipush kX7_sat_4 (by decide +kernel)
theorem kX7_sat_6 : aCode iX7_sat 6 = some (.dup2, 1) := by decide +kernel
theorem sX7_sat_6 {d : Nat} {σ : aS} {Q : aQ} {y : Int32} {x : Nat} {ls : aL} {st : List Value} : aX d iX7_sat 6 (ls) (.int y :: .ref x :: st) σ Q ↔ aX d iX7_sat 7 (ls) (.int y :: .ref x :: .int y :: .ref x :: st) σ Q := X_dup2 kX7_sat_6 ⟨rfl, rfl⟩
theorem kX7_sat_7 : aCode iX7_sat 7 = some (.iaload, 1) := by decide +kernel
theorem sX7_sat_7 {d : Nat} {σ : aS} {Q : aQ} {a : Nat} {i : Int32} {ls : aL} {st : List Value} : aX d iX7_sat 7 (ls) (.int i :: .ref a :: st) σ Q ↔ ∃ x, aRowR σ a = some x ∧ vp_in i x.1 ∧ aX d iX7_sat 8 (ls) (.int (x.2 i.toNatClampNeg) :: st) σ Q := X_iaload kX7_sat_7
theorem kX7_sat_8 : aCode iX7_sat 8 = some (.iconst 1, 1) := by decide +kernel
theorem sX7_sat_8 {d : Nat} {σ : aS} {Q : aQ} {ls : aL} {st : List Value} : aX d iX7_sat 8 (ls) (st) σ Q ↔ aX d iX7_sat 9 (ls) (.int (nI 1) :: st) σ Q := X_iconst kX7_sat_8 (by decide +kernel)
theorem kX7_sat_9 : aCode iX7_sat 9 = some (.iload_n 1, 1) := by decide +kernel
theorem sX7_sat_9 {d : Nat} {σ : aS} {Q : aQ} {l0 : Option Value} {x : Int32} {lt : aL} {st : List Value} : aX d iX7_sat 9 (l0 :: some (.int x) :: lt) (st) σ Q ↔ aX d iX7_sat 10 (l0 :: some (.int x) :: lt) (.int x :: st) σ Q := X_iloadn kX7_sat_9 rfl
theorem kX7_sat_10 : aCode iX7_sat 10 = some (.ishl, 1) := by decide +kernel
theorem sX7_sat_10 {d : Nat} {σ : aS} {Q : aQ} {x y : Int32} {ls : aL} {st : List Value} : aX d iX7_sat 10 (ls) (.int y :: .int x :: st) σ Q ↔ aX d iX7_sat 11 (ls) (.int (x <<< (y &&& 31)) :: st) σ Q := X_ishl kX7_sat_10
theorem kX7_sat_11 : aCode iX7_sat 11 = some (.ior, 1) := by decide +kernel
theorem sX7_sat_11 {d : Nat} {σ : aS} {Q : aQ} {x y : Int32} {ls : aL} {st : List Value} : aX d iX7_sat 11 (ls) (.int y :: .int x :: st) σ Q ↔ aX d iX7_sat 12 (ls) (.int (x ||| y) :: st) σ Q := X_ior kX7_sat_11
theorem kX7_sat_12 : aCode iX7_sat 12 = some (.iastore, 1) := by decide +kernel
theorem sX7_sat_12 {d : Nat} {σ : aS} {Q : aQ} {a : Nat} {i v : Int32} {ls : aL} {st : List Value} : aX d iX7_sat 12 (ls) (.int v :: .int i :: .ref a :: st) σ Q ↔ ∃ x, aRow σ a = some x ∧ vp_in i x.1 ∧ aX d iX7_sat 13 (ls) (st) (aput σ a (eI x.1 (upd x.2 i.toNatClampNeg v))) Q := X_iastore kX7_sat_12
theorem kX7_sat_13 : aCode iX7_sat 13 = some (.aload_n 0, 1) := by decide +kernel
theorem sX7_sat_13 {d : Nat} {σ : aS} {Q : aQ} {x : Nat} {lt : aL} {st : List Value} : aX d iX7_sat 13 (some (.ref x) :: lt) (st) σ Q ↔ aX d iX7_sat 14 (some (.ref x) :: lt) (.ref x :: st) σ Q := X_aloadn kX7_sat_13 rfl rfl
theorem kX7_sat_14 : aCode iX7_sat 14 = some (.getfield 7, 3) := by decide +kernel
theorem sX7_sat_14 {d : Nat} {σ : aS} {Q : aQ} {a : Nat} {ls : aL} {st : List Value} : aX d iX7_sat 14 (ls) (.ref a :: st) σ Q ↔ ∃ v, aFld σ a 7 0 = some v ∧ aX d iX7_sat 17 (ls) (v :: st) σ Q := X_getf (w := 650) kX7_sat_14 (by decide +kernel)
theorem kX7_sat_17 : aCode iX7_sat 17 = some (.bipush 17, 2) := by decide +kernel
theorem sX7_sat_17 {d : Nat} {σ : aS} {Q : aQ} {ls : aL} {st : List Value} : aX d iX7_sat 17 (ls) (st) σ Q ↔ aX d iX7_sat 19 (ls) (.int (nI 17) :: st) σ Q := X_bipush kX7_sat_17 (by decide +kernel)
theorem kX7_sat_19 : aCode iX7_sat 19 = some (.iload_n 1, 1) := by decide +kernel
theorem sX7_sat_19 {d : Nat} {σ : aS} {Q : aQ} {l0 : Option Value} {x : Int32} {lt : aL} {st : List Value} : aX d iX7_sat 19 (l0 :: some (.int x) :: lt) (st) σ Q ↔ aX d iX7_sat 20 (l0 :: some (.int x) :: lt) (.int x :: st) σ Q := X_iloadn kX7_sat_19 rfl
theorem kX7_sat_20 : aCode iX7_sat 20 = some (.iadd, 1) := by decide +kernel
theorem sX7_sat_20 {d : Nat} {σ : aS} {Q : aQ} {x y : Int32} {ls : aL} {st : List Value} : aX d iX7_sat 20 (ls) (.int y :: .int x :: st) σ Q ↔ aX d iX7_sat 21 (ls) (.int (x + y) :: st) σ Q := X_iadd kX7_sat_20
theorem kX7_sat_21 : aCode iX7_sat 21 = some (.iload_n 2, 1) := by decide +kernel
theorem sX7_sat_21 {d : Nat} {σ : aS} {Q : aQ} {l0 l1 : Option Value} {x : Int32} {lt : aL} {st : List Value} : aX d iX7_sat 21 (l0 :: l1 :: some (.int x) :: lt) (st) σ Q ↔ aX d iX7_sat 22 (l0 :: l1 :: some (.int x) :: lt) (.int x :: st) σ Q := X_iloadn kX7_sat_21 rfl
theorem kX7_sat_22 : aCode iX7_sat 22 = some (.bipush (-6), 2) := by decide +kernel
theorem sX7_sat_22 {d : Nat} {σ : aS} {Q : aQ} {ls : aL} {st : List Value} : aX d iX7_sat 22 (ls) (st) σ Q ↔ aX d iX7_sat 24 (ls) (.int ((-6)) :: st) σ Q := X_bipush kX7_sat_22 (by decide +kernel)
theorem kX7_sat_24 : aCode iX7_sat 24 = some (.if_icmp .ne 15, 3) := by decide +kernel
theorem sX7_sat_24 {d : Nat} {σ : aS} {Q : aQ} {x y : Int32} {ls : aL} {st : List Value} : aX d iX7_sat 24 (ls) (.int y :: .int x :: st) σ Q ↔ (if ¬ x = y then aX d iX7_sat 39 (ls) (st) σ Q else aX d iX7_sat 27 (ls) (st) σ Q) := by rw [X_icmp kX7_sat_24 (t := 39) (by decide)]; simp only [aCmp_ne]
theorem kX7_sat_27 : aCode iX7_sat 27 = some (.aload_n 0, 1) := by decide +kernel
theorem sX7_sat_27 {d : Nat} {σ : aS} {Q : aQ} {x : Nat} {lt : aL} {st : List Value} : aX d iX7_sat 27 (some (.ref x) :: lt) (st) σ Q ↔ aX d iX7_sat 28 (some (.ref x) :: lt) (.ref x :: st) σ Q := X_aloadn kX7_sat_27 rfl rfl
theorem kX7_sat_28 : aCode iX7_sat 28 = some (.getfield 7, 3) := by decide +kernel
theorem sX7_sat_28 {d : Nat} {σ : aS} {Q : aQ} {a : Nat} {ls : aL} {st : List Value} : aX d iX7_sat 28 (ls) (.ref a :: st) σ Q ↔ ∃ v, aFld σ a 7 0 = some v ∧ aX d iX7_sat 31 (ls) (v :: st) σ Q := X_getf (w := 650) kX7_sat_28 (by decide +kernel)
theorem kX7_sat_31 : aCode iX7_sat 31 = some (.bipush 17, 2) := by decide +kernel
theorem sX7_sat_31 {d : Nat} {σ : aS} {Q : aQ} {ls : aL} {st : List Value} : aX d iX7_sat 31 (ls) (st) σ Q ↔ aX d iX7_sat 33 (ls) (.int (nI 17) :: st) σ Q := X_bipush kX7_sat_31 (by decide +kernel)
theorem kX7_sat_33 : aCode iX7_sat 33 = some (.iload_n 1, 1) := by decide +kernel
theorem sX7_sat_33 {d : Nat} {σ : aS} {Q : aQ} {l0 : Option Value} {x : Int32} {lt : aL} {st : List Value} : aX d iX7_sat 33 (l0 :: some (.int x) :: lt) (st) σ Q ↔ aX d iX7_sat 34 (l0 :: some (.int x) :: lt) (.int x :: st) σ Q := X_iloadn kX7_sat_33 rfl
theorem kX7_sat_34 : aCode iX7_sat 34 = some (.iadd, 1) := by decide +kernel
theorem sX7_sat_34 {d : Nat} {σ : aS} {Q : aQ} {x y : Int32} {ls : aL} {st : List Value} : aX d iX7_sat 34 (ls) (.int y :: .int x :: st) σ Q ↔ aX d iX7_sat 35 (ls) (.int (x + y) :: st) σ Q := X_iadd kX7_sat_34
theorem kX7_sat_35 : aCode iX7_sat 35 = some (.iaload, 1) := by decide +kernel
theorem sX7_sat_35 {d : Nat} {σ : aS} {Q : aQ} {a : Nat} {i : Int32} {ls : aL} {st : List Value} : aX d iX7_sat 35 (ls) (.int i :: .ref a :: st) σ Q ↔ ∃ x, aRowR σ a = some x ∧ vp_in i x.1 ∧ aX d iX7_sat 36 (ls) (.int (x.2 i.toNatClampNeg) :: st) σ Q := X_iaload kX7_sat_35
theorem kX7_sat_36 : aCode iX7_sat 36 = some (.goto 4, 3) := by decide +kernel
theorem sX7_sat_36 {d : Nat} {σ : aS} {Q : aQ} {ls : aL} {st : List Value} : aX d iX7_sat 36 (ls) (st) σ Q ↔ aX d iX7_sat 40 (ls) (st) σ Q := X_goto kX7_sat_36 (by decide)
theorem kX7_sat_39 : aCode iX7_sat 39 = some (.iload_n 2, 1) := by decide +kernel
theorem sX7_sat_39 {d : Nat} {σ : aS} {Q : aQ} {l0 l1 : Option Value} {x : Int32} {lt : aL} {st : List Value} : aX d iX7_sat 39 (l0 :: l1 :: some (.int x) :: lt) (st) σ Q ↔ aX d iX7_sat 40 (l0 :: l1 :: some (.int x) :: lt) (.int x :: st) σ Q := X_iloadn kX7_sat_39 rfl
theorem kX7_sat_40 : aCode iX7_sat 40 = some (.iastore, 1) := by decide +kernel
theorem sX7_sat_40 {d : Nat} {σ : aS} {Q : aQ} {a : Nat} {i v : Int32} {ls : aL} {st : List Value} : aX d iX7_sat 40 (ls) (.int v :: .int i :: .ref a :: st) σ Q ↔ ∃ x, aRow σ a = some x ∧ vp_in i x.1 ∧ aX d iX7_sat 41 (ls) (st) (aput σ a (eI x.1 (upd x.2 i.toNatClampNeg v))) Q := X_iastore kX7_sat_40
theorem kX7_sat_41 : aCode iX7_sat 41 = some (.aload_n 0, 1) := by decide +kernel
theorem sX7_sat_41 {d : Nat} {σ : aS} {Q : aQ} {x : Nat} {lt : aL} {st : List Value} : aX d iX7_sat 41 (some (.ref x) :: lt) (st) σ Q ↔ aX d iX7_sat 42 (some (.ref x) :: lt) (.ref x :: st) σ Q := X_aloadn kX7_sat_41 rfl rfl
theorem kX7_sat_42 : aCode iX7_sat 42 = some (.getfield 7, 3) := by decide +kernel
theorem sX7_sat_42 {d : Nat} {σ : aS} {Q : aQ} {a : Nat} {ls : aL} {st : List Value} : aX d iX7_sat 42 (ls) (.ref a :: st) σ Q ↔ ∃ v, aFld σ a 7 0 = some v ∧ aX d iX7_sat 45 (ls) (v :: st) σ Q := X_getf (w := 650) kX7_sat_42 (by decide +kernel)
theorem kX7_sat_45 : aCode iX7_sat 45 = some (.bipush 16, 2) := by decide +kernel
theorem sX7_sat_45 {d : Nat} {σ : aS} {Q : aQ} {ls : aL} {st : List Value} : aX d iX7_sat 45 (ls) (st) σ Q ↔ aX d iX7_sat 47 (ls) (.int (nI 16) :: st) σ Q := X_bipush kX7_sat_45 (by decide +kernel)
theorem kX7_sat_47 : aCode iX7_sat 47 = some (.iaload, 1) := by decide +kernel
theorem sX7_sat_47 {d : Nat} {σ : aS} {Q : aQ} {a : Nat} {i : Int32} {ls : aL} {st : List Value} : aX d iX7_sat 47 (ls) (.int i :: .ref a :: st) σ Q ↔ ∃ x, aRowR σ a = some x ∧ vp_in i x.1 ∧ aX d iX7_sat 48 (ls) (.int (x.2 i.toNatClampNeg) :: st) σ Q := X_iaload kX7_sat_47
theorem kX7_sat_48 : aCode iX7_sat 48 = some (.invokestatic 63, 3) := by decide +kernel
theorem sX7_sat_48 {d : Nat} {σ : aS} {Q : aQ} {p0 : Int32} {ls : aL} : aX (d + 1) iX7_sat 48 (ls) (.int p0 :: []) σ Q ↔ aX d iX7_bits 0 [some (.int p0), none, none] [] σ (fun r τ => aX (d + 1) iX7_sat 51 (ls) (aret r ([])) τ Q) := X_invs (N := 1) (As := [.int p0]) (k := 1) (w := 719) kX7_sat_48 (by decide +kernel) (by decide) (by decide +kernel) rfl rfl (by simp only [List.length_cons, List.length_nil]; omega) (by simp only [List.length_cons, List.length_nil]; omega) rfl (Nat.le_of_ble_eq_true rfl)
theorem kX7_sat_51 : aCode iX7_sat 51 = some (.ireturn, 1) := by decide +kernel
theorem sX7_sat_51 {d : Nat} {σ : aS} {Q : aQ} {v : Int32} {ls : aL} : aX d iX7_sat 51 (ls) ([.int v]) σ Q ↔ Q (some (.int v)) σ := X_iret kX7_sat_51 (by decide +kernel)
theorem kX7_sit_0 : aCode iX7_sit 0 = some (.aload_n 0, 1) := by decide +kernel
theorem sX7_sit_0 {d : Nat} {σ : aS} {Q : aQ} {x : Nat} {lt : aL} {st : List Value} : aX d iX7_sit 0 (some (.ref x) :: lt) (st) σ Q ↔ aX d iX7_sit 1 (some (.ref x) :: lt) (.ref x :: st) σ Q := X_aloadn kX7_sit_0 rfl rfl
theorem kX7_sit_1 : aCode iX7_sit 1 = some (.iload_n 1, 1) := by decide +kernel
theorem sX7_sit_1 {d : Nat} {σ : aS} {Q : aQ} {l0 : Option Value} {x : Int32} {lt : aL} {st : List Value} : aX d iX7_sit 1 (l0 :: some (.int x) :: lt) (st) σ Q ↔ aX d iX7_sit 2 (l0 :: some (.int x) :: lt) (.int x :: st) σ Q := X_iloadn kX7_sit_1 rfl
theorem kX7_sit_2 : aCode iX7_sit 2 = some (.iload_n 2, 1) := by decide +kernel
theorem sX7_sit_2 {d : Nat} {σ : aS} {Q : aQ} {l0 l1 : Option Value} {x : Int32} {lt : aL} {st : List Value} : aX d iX7_sit 2 (l0 :: l1 :: some (.int x) :: lt) (st) σ Q ↔ aX d iX7_sit 3 (l0 :: l1 :: some (.int x) :: lt) (.int x :: st) σ Q := X_iloadn kX7_sit_2 rfl
theorem kX7_sit_3 : aCode iX7_sit 3 = some (.invokevirtual 108, 3) := by decide +kernel
theorem sX7_sit_3 {d : Nat} {σ : aS} {Q : aQ} {b : Nat} {p0 : Int32} {p1 : Int32} {ls : aL} : aX (d + 1) iX7_sit 3 (ls) (.int p1 :: .int p0 :: .ref b :: []) σ Q ↔ aIs σ b 7 ∧ aX d iX7_whyNotSat 0 [some (.ref b), some (.int p0), some (.int p1)] [] σ (fun r τ => aX (d + 1) iX7_sit 6 (ls) (aret r ([])) τ Q) := X_invv (N := 2) (As := [.int p1, .int p0]) (w := 708) kX7_sit_3 (by decide +kernel) (by decide +kernel) rfl rfl (by simp only [List.length_cons, List.length_nil]; omega) (by simp only [List.length_cons, List.length_nil]; omega) (by decide +kernel) rfl (Nat.le_of_ble_eq_true rfl)
theorem kX7_sit_6 : aCode iX7_sit 6 = some (.istore_n 3, 1) := by decide +kernel
theorem sX7_sit_6 {d : Nat} {σ : aS} {Q : aQ} {l0 l1 l2 lo : Option Value} {x : Int32} {lt : aL} {st : List Value} : aX d iX7_sit 6 (l0 :: l1 :: l2 :: lo :: lt) (.int x :: st) σ Q ↔ aX d iX7_sit 7 (l0 :: l1 :: aclr l2 :: some (.int x) :: lt) (st) σ Q := X_istoren kX7_sit_6 (by simp only [List.length_cons]; omega)
theorem kX7_sit_7 : aCode iX7_sit 7 = some (.iload_n 3, 1) := by decide +kernel
theorem sX7_sit_7 {d : Nat} {σ : aS} {Q : aQ} {l0 l1 l2 : Option Value} {x : Int32} {lt : aL} {st : List Value} : aX d iX7_sit 7 (l0 :: l1 :: l2 :: some (.int x) :: lt) (st) σ Q ↔ aX d iX7_sit 8 (l0 :: l1 :: l2 :: some (.int x) :: lt) (.int x :: st) σ Q := X_iloadn kX7_sit_7 rfl
theorem kX7_sit_8 : aCode iX7_sit 8 = some (.ifCond .ge 5, 3) := by decide +kernel
theorem sX7_sit_8 {d : Nat} {σ : aS} {Q : aQ} {x : Int32} {ls : aL} {st : List Value} : aX d iX7_sit 8 (ls) (.int x :: st) σ Q ↔ (if nI 0 ≤ x then aX d iX7_sit 13 (ls) (st) σ Q else aX d iX7_sit 11 (ls) (st) σ Q) := by rw [X_if kX7_sit_8 (t := 13) (by decide)]; simp only [aCmp_ge]
theorem kX7_sit_11 : aCode iX7_sit 11 = some (.iload_n 3, 1) := by decide +kernel
theorem sX7_sit_11 {d : Nat} {σ : aS} {Q : aQ} {l0 l1 l2 : Option Value} {x : Int32} {lt : aL} {st : List Value} : aX d iX7_sit 11 (l0 :: l1 :: l2 :: some (.int x) :: lt) (st) σ Q ↔ aX d iX7_sit 12 (l0 :: l1 :: l2 :: some (.int x) :: lt) (.int x :: st) σ Q := X_iloadn kX7_sit_11 rfl
theorem kX7_sit_12 : aCode iX7_sit 12 = some (.ireturn, 1) := by decide +kernel
theorem sX7_sit_12 {d : Nat} {σ : aS} {Q : aQ} {v : Int32} {ls : aL} : aX d iX7_sit 12 (ls) ([.int v]) σ Q ↔ Q (some (.int v)) σ := X_iret kX7_sit_12 (by decide +kernel)
theorem kX7_sit_13 : aCode iX7_sit 13 = some (.aload_n 0, 1) := by decide +kernel
theorem sX7_sit_13 {d : Nat} {σ : aS} {Q : aQ} {x : Nat} {lt : aL} {st : List Value} : aX d iX7_sit 13 (some (.ref x) :: lt) (st) σ Q ↔ aX d iX7_sit 14 (some (.ref x) :: lt) (.ref x :: st) σ Q := X_aloadn kX7_sit_13 rfl rfl
theorem kX7_sit_14 : aCode iX7_sit 14 = some (.invokevirtual 102, 3) := by decide +kernel
theorem sX7_sit_14 {d : Nat} {σ : aS} {Q : aQ} {b : Nat} {ls : aL} : aX (d + 1) iX7_sit 14 (ls) (.ref b :: []) σ Q ↔ aIs σ b 7 ∧ aX d iX7_record 0 [some (.ref b), none] [] σ (fun r τ => aX (d + 1) iX7_sit 17 (ls) (aret r ([])) τ Q) := X_invv (N := 0) (As := []) (w := 697) kX7_sit_14 (by decide +kernel) (by decide +kernel) rfl rfl (by simp only [List.length_cons, List.length_nil]; omega) (by simp only [List.length_cons, List.length_nil]; omega) (by decide +kernel) rfl (Nat.le_of_ble_eq_true rfl)
theorem kX7_sit_17 : aCode iX7_sit 17 = some (.aload_n 0, 1) := by decide +kernel
theorem sX7_sit_17 {d : Nat} {σ : aS} {Q : aQ} {x : Nat} {lt : aL} {st : List Value} : aX d iX7_sit 17 (some (.ref x) :: lt) (st) σ Q ↔ aX d iX7_sit 18 (some (.ref x) :: lt) (.ref x :: st) σ Q := X_aloadn kX7_sit_17 rfl rfl
theorem kX7_sit_18 : aCode iX7_sit 18 = some (.iload_n 1, 1) := by decide +kernel
theorem sX7_sit_18 {d : Nat} {σ : aS} {Q : aQ} {l0 : Option Value} {x : Int32} {lt : aL} {st : List Value} : aX d iX7_sit 18 (l0 :: some (.int x) :: lt) (st) σ Q ↔ aX d iX7_sit 19 (l0 :: some (.int x) :: lt) (.int x :: st) σ Q := X_iloadn kX7_sit_18 rfl
theorem kX7_sit_19 : aCode iX7_sit 19 = some (.iload_n 2, 1) := by decide +kernel
theorem sX7_sit_19 {d : Nat} {σ : aS} {Q : aQ} {l0 l1 : Option Value} {x : Int32} {lt : aL} {st : List Value} : aX d iX7_sit 19 (l0 :: l1 :: some (.int x) :: lt) (st) σ Q ↔ aX d iX7_sit 20 (l0 :: l1 :: some (.int x) :: lt) (.int x :: st) σ Q := X_iloadn kX7_sit_19 rfl
theorem kX7_sit_20 : aCode iX7_sit 20 = some (.invokevirtual 111, 3) := by decide +kernel
theorem sX7_sit_20 {d : Nat} {σ : aS} {Q : aQ} {b : Nat} {p0 : Int32} {p1 : Int32} {ls : aL} : aX (d + 1) iX7_sit 20 (ls) (.int p1 :: .int p0 :: .ref b :: []) σ Q ↔ aIs σ b 7 ∧ aX d iX7_sat 0 [some (.ref b), some (.int p0), some (.int p1)] [] σ (fun r τ => aX (d + 1) iX7_sit 23 (ls) (aret r ([])) τ Q) := X_invv (N := 2) (As := [.int p1, .int p0]) (w := 715) kX7_sit_20 (by decide +kernel) (by decide +kernel) rfl rfl (by simp only [List.length_cons, List.length_nil]; omega) (by simp only [List.length_cons, List.length_nil]; omega) (by decide +kernel) rfl (Nat.le_of_ble_eq_true rfl)
theorem kX7_sit_23 : aCode iX7_sit 23 = some (.ireturn, 1) := by decide +kernel
theorem sX7_sit_23 {d : Nat} {σ : aS} {Q : aQ} {v : Int32} {ls : aL} : aX d iX7_sit 23 (ls) ([.int v]) σ Q ↔ Q (some (.int v)) σ := X_iret kX7_sit_23 (by decide +kernel)
theorem kX7_whyNotLeft_0 : aCode iX7_whyNotLeft 0 = some (.iload_n 1, 1) := by decide +kernel
theorem sX7_whyNotLeft_0 {d : Nat} {σ : aS} {Q : aQ} {l0 : Option Value} {x : Int32} {lt : aL} {st : List Value} : aX d iX7_whyNotLeft 0 (l0 :: some (.int x) :: lt) (st) σ Q ↔ aX d iX7_whyNotLeft 1 (l0 :: some (.int x) :: lt) (.int x :: st) σ Q := X_iloadn kX7_whyNotLeft_0 rfl
theorem kX7_whyNotLeft_1 : aCode iX7_whyNotLeft 1 = some (.invokestatic 105, 3) := by decide +kernel
theorem sX7_whyNotLeft_1 {d : Nat} {σ : aS} {Q : aQ} {p0 : Int32} {ls : aL} : aX (d + 1) iX7_whyNotLeft 1 (ls) (.int p0 :: []) σ Q ↔ aX d iX7_isSeat 0 [some (.int p0)] [] σ (fun r τ => aX (d + 1) iX7_whyNotLeft 4 (ls) (aret r ([])) τ Q) := X_invs (N := 1) (As := [.int p0]) (k := 1) (w := 712) kX7_whyNotLeft_1 (by decide +kernel) (by decide) (by decide +kernel) rfl rfl (by simp only [List.length_cons, List.length_nil]; omega) (by simp only [List.length_cons, List.length_nil]; omega) rfl (Nat.le_of_ble_eq_true rfl)
theorem kX7_whyNotLeft_4 : aCode iX7_whyNotLeft 4 = some (.ifCond .ne 7, 3) := by decide +kernel
theorem sX7_whyNotLeft_4 {d : Nat} {σ : aS} {Q : aQ} {x : Int32} {ls : aL} {st : List Value} : aX d iX7_whyNotLeft 4 (ls) (.int x :: st) σ Q ↔ (if ¬ x = nI 0 then aX d iX7_whyNotLeft 11 (ls) (st) σ Q else aX d iX7_whyNotLeft 7 (ls) (st) σ Q) := by rw [X_if kX7_whyNotLeft_4 (t := 11) (by decide)]; simp only [aCmp_ne]
theorem kX7_whyNotLeft_7 : aCode iX7_whyNotLeft 7 = some (.iconst (-1), 1) := by decide +kernel
theorem sX7_whyNotLeft_7 {d : Nat} {σ : aS} {Q : aQ} {ls : aL} {st : List Value} : aX d iX7_whyNotLeft 7 (ls) (st) σ Q ↔ aX d iX7_whyNotLeft 8 (ls) (.int ((-1)) :: st) σ Q := X_iconst kX7_whyNotLeft_7 (by decide +kernel)
theorem kX7_whyNotLeft_8 : aCode iX7_whyNotLeft 8 = some (.goto 17, 3) := by decide +kernel
theorem sX7_whyNotLeft_8 {d : Nat} {σ : aS} {Q : aQ} {ls : aL} {st : List Value} : aX d iX7_whyNotLeft 8 (ls) (st) σ Q ↔ aX d iX7_whyNotLeft 25 (ls) (st) σ Q := X_goto kX7_whyNotLeft_8 (by decide)
theorem kX7_whyNotLeft_11 : aCode iX7_whyNotLeft 11 = some (.aload_n 0, 1) := by decide +kernel
theorem sX7_whyNotLeft_11 {d : Nat} {σ : aS} {Q : aQ} {x : Nat} {lt : aL} {st : List Value} : aX d iX7_whyNotLeft 11 (some (.ref x) :: lt) (st) σ Q ↔ aX d iX7_whyNotLeft 12 (some (.ref x) :: lt) (.ref x :: st) σ Q := X_aloadn kX7_whyNotLeft_11 rfl rfl
theorem kX7_whyNotLeft_12 : aCode iX7_whyNotLeft 12 = some (.iload_n 1, 1) := by decide +kernel
theorem sX7_whyNotLeft_12 {d : Nat} {σ : aS} {Q : aQ} {l0 : Option Value} {x : Int32} {lt : aL} {st : List Value} : aX d iX7_whyNotLeft 12 (l0 :: some (.int x) :: lt) (st) σ Q ↔ aX d iX7_whyNotLeft 13 (l0 :: some (.int x) :: lt) (.int x :: st) σ Q := X_iloadn kX7_whyNotLeft_12 rfl
theorem kX7_whyNotLeft_13 : aCode iX7_whyNotLeft 13 = some (.invokevirtual 69, 3) := by decide +kernel
theorem sX7_whyNotLeft_13 {d : Nat} {σ : aS} {Q : aQ} {b : Nat} {p0 : Int32} {ls : aL} : aX (d + 1) iX7_whyNotLeft 13 (ls) (.int p0 :: .ref b :: []) σ Q ↔ aIs σ b 7 ∧ aX d iX7_isTaken 0 [some (.ref b), some (.int p0)] [] σ (fun r τ => aX (d + 1) iX7_whyNotLeft 16 (ls) (aret r ([])) τ Q) := X_invv (N := 1) (As := [.int p0]) (w := 730) kX7_whyNotLeft_13 (by decide +kernel) (by decide +kernel) rfl rfl (by simp only [List.length_cons, List.length_nil]; omega) (by simp only [List.length_cons, List.length_nil]; omega) (by decide +kernel) rfl (Nat.le_of_ble_eq_true rfl)
theorem kX7_whyNotLeft_16 : aCode iX7_whyNotLeft 16 = some (.ifCond .eq 7, 3) := by decide +kernel
theorem sX7_whyNotLeft_16 {d : Nat} {σ : aS} {Q : aQ} {x : Int32} {ls : aL} {st : List Value} : aX d iX7_whyNotLeft 16 (ls) (.int x :: st) σ Q ↔ (if x = nI 0 then aX d iX7_whyNotLeft 23 (ls) (st) σ Q else aX d iX7_whyNotLeft 19 (ls) (st) σ Q) := by rw [X_if kX7_whyNotLeft_16 (t := 23) (by decide)]; simp only [aCmp_eq]
theorem kX7_whyNotLeft_19 : aCode iX7_whyNotLeft 19 = some (.iconst 0, 1) := by decide +kernel
theorem sX7_whyNotLeft_19 {d : Nat} {σ : aS} {Q : aQ} {ls : aL} {st : List Value} : aX d iX7_whyNotLeft 19 (ls) (st) σ Q ↔ aX d iX7_whyNotLeft 20 (ls) (.int (nI 0) :: st) σ Q := X_iconst kX7_whyNotLeft_19 (by decide +kernel)
theorem kX7_whyNotLeft_20 : aCode iX7_whyNotLeft 20 = some (.goto 5, 3) := by decide +kernel
theorem sX7_whyNotLeft_20 {d : Nat} {σ : aS} {Q : aQ} {ls : aL} {st : List Value} : aX d iX7_whyNotLeft 20 (ls) (st) σ Q ↔ aX d iX7_whyNotLeft 25 (ls) (st) σ Q := X_goto kX7_whyNotLeft_20 (by decide)
theorem kX7_whyNotLeft_23 : aCode iX7_whyNotLeft 23 = some (.bipush (-5), 2) := by decide +kernel
theorem sX7_whyNotLeft_23 {d : Nat} {σ : aS} {Q : aQ} {ls : aL} {st : List Value} : aX d iX7_whyNotLeft 23 (ls) (st) σ Q ↔ aX d iX7_whyNotLeft 25 (ls) (.int ((-5)) :: st) σ Q := X_bipush kX7_whyNotLeft_23 (by decide +kernel)
theorem kX7_whyNotLeft_25 : aCode iX7_whyNotLeft 25 = some (.ireturn, 1) := by decide +kernel
theorem sX7_whyNotLeft_25 {d : Nat} {σ : aS} {Q : aQ} {v : Int32} {ls : aL} : aX d iX7_whyNotLeft 25 (ls) ([.int v]) σ Q ↔ Q (some (.int v)) σ := X_iret kX7_whyNotLeft_25 (by decide +kernel)
theorem kX7_left_0 : aCode iX7_left 0 = some (.aload_n 0, 1) := by decide +kernel
theorem sX7_left_0 {d : Nat} {σ : aS} {Q : aQ} {x : Nat} {lt : aL} {st : List Value} : aX d iX7_left 0 (some (.ref x) :: lt) (st) σ Q ↔ aX d iX7_left 1 (some (.ref x) :: lt) (.ref x :: st) σ Q := X_aloadn kX7_left_0 rfl rfl
theorem kX7_left_1 : aCode iX7_left 1 = some (.getfield 7, 3) := by decide +kernel
theorem sX7_left_1 {d : Nat} {σ : aS} {Q : aQ} {a : Nat} {ls : aL} {st : List Value} : aX d iX7_left 1 (ls) (.ref a :: st) σ Q ↔ ∃ v, aFld σ a 7 0 = some v ∧ aX d iX7_left 4 (ls) (v :: st) σ Q := X_getf (w := 650) kX7_left_1 (by decide +kernel)
theorem kX7_left_4 : aCode iX7_left 4 = some (.bipush 16, 2) := by decide +kernel
theorem sX7_left_4 {d : Nat} {σ : aS} {Q : aQ} {ls : aL} {st : List Value} : aX d iX7_left 4 (ls) (st) σ Q ↔ aX d iX7_left 6 (ls) (.int (nI 16) :: st) σ Q := X_bipush kX7_left_4 (by decide +kernel)
theorem kX7_left_6 : aCode iX7_left 6 = some (.dup2, 1) := by decide +kernel
theorem sX7_left_6 {d : Nat} {σ : aS} {Q : aQ} {y : Int32} {x : Nat} {ls : aL} {st : List Value} : aX d iX7_left 6 (ls) (.int y :: .ref x :: st) σ Q ↔ aX d iX7_left 7 (ls) (.int y :: .ref x :: .int y :: .ref x :: st) σ Q := X_dup2 kX7_left_6 ⟨rfl, rfl⟩
theorem kX7_left_7 : aCode iX7_left 7 = some (.iaload, 1) := by decide +kernel
theorem sX7_left_7 {d : Nat} {σ : aS} {Q : aQ} {a : Nat} {i : Int32} {ls : aL} {st : List Value} : aX d iX7_left 7 (ls) (.int i :: .ref a :: st) σ Q ↔ ∃ x, aRowR σ a = some x ∧ vp_in i x.1 ∧ aX d iX7_left 8 (ls) (.int (x.2 i.toNatClampNeg) :: st) σ Q := X_iaload kX7_left_7
theorem kX7_left_8 : aCode iX7_left 8 = some (.iconst 1, 1) := by decide +kernel
theorem sX7_left_8 {d : Nat} {σ : aS} {Q : aQ} {ls : aL} {st : List Value} : aX d iX7_left 8 (ls) (st) σ Q ↔ aX d iX7_left 9 (ls) (.int (nI 1) :: st) σ Q := X_iconst kX7_left_8 (by decide +kernel)
theorem kX7_left_9 : aCode iX7_left 9 = some (.iload_n 1, 1) := by decide +kernel
theorem sX7_left_9 {d : Nat} {σ : aS} {Q : aQ} {l0 : Option Value} {x : Int32} {lt : aL} {st : List Value} : aX d iX7_left 9 (l0 :: some (.int x) :: lt) (st) σ Q ↔ aX d iX7_left 10 (l0 :: some (.int x) :: lt) (.int x :: st) σ Q := X_iloadn kX7_left_9 rfl
theorem kX7_left_10 : aCode iX7_left 10 = some (.ishl, 1) := by decide +kernel
theorem sX7_left_10 {d : Nat} {σ : aS} {Q : aQ} {x y : Int32} {ls : aL} {st : List Value} : aX d iX7_left 10 (ls) (.int y :: .int x :: st) σ Q ↔ aX d iX7_left 11 (ls) (.int (x <<< (y &&& 31)) :: st) σ Q := X_ishl kX7_left_10
theorem kX7_left_11 : aCode iX7_left 11 = some (.iconst (-1), 1) := by decide +kernel
theorem sX7_left_11 {d : Nat} {σ : aS} {Q : aQ} {ls : aL} {st : List Value} : aX d iX7_left 11 (ls) (st) σ Q ↔ aX d iX7_left 12 (ls) (.int ((-1)) :: st) σ Q := X_iconst kX7_left_11 (by decide +kernel)
theorem kX7_left_12 : aCode iX7_left 12 = some (.ixor, 1) := by decide +kernel
theorem sX7_left_12 {d : Nat} {σ : aS} {Q : aQ} {x y : Int32} {ls : aL} {st : List Value} : aX d iX7_left 12 (ls) (.int y :: .int x :: st) σ Q ↔ aX d iX7_left 13 (ls) (.int (x ^^^ y) :: st) σ Q := X_ixor kX7_left_12
theorem kX7_left_13 : aCode iX7_left 13 = some (.iand, 1) := by decide +kernel
theorem sX7_left_13 {d : Nat} {σ : aS} {Q : aQ} {x y : Int32} {ls : aL} {st : List Value} : aX d iX7_left 13 (ls) (.int y :: .int x :: st) σ Q ↔ aX d iX7_left 14 (ls) (.int (x &&& y) :: st) σ Q := X_iand kX7_left_13
theorem kX7_left_14 : aCode iX7_left 14 = some (.iastore, 1) := by decide +kernel
theorem sX7_left_14 {d : Nat} {σ : aS} {Q : aQ} {a : Nat} {i v : Int32} {ls : aL} {st : List Value} : aX d iX7_left 14 (ls) (.int v :: .int i :: .ref a :: st) σ Q ↔ ∃ x, aRow σ a = some x ∧ vp_in i x.1 ∧ aX d iX7_left 15 (ls) (st) (aput σ a (eI x.1 (upd x.2 i.toNatClampNeg v))) Q := X_iastore kX7_left_14
theorem kX7_left_15 : aCode iX7_left 15 = some (.aload_n 0, 1) := by decide +kernel
theorem sX7_left_15 {d : Nat} {σ : aS} {Q : aQ} {x : Nat} {lt : aL} {st : List Value} : aX d iX7_left 15 (some (.ref x) :: lt) (st) σ Q ↔ aX d iX7_left 16 (some (.ref x) :: lt) (.ref x :: st) σ Q := X_aloadn kX7_left_15 rfl rfl
theorem kX7_left_16 : aCode iX7_left 16 = some (.getfield 7, 3) := by decide +kernel
theorem sX7_left_16 {d : Nat} {σ : aS} {Q : aQ} {a : Nat} {ls : aL} {st : List Value} : aX d iX7_left 16 (ls) (.ref a :: st) σ Q ↔ ∃ v, aFld σ a 7 0 = some v ∧ aX d iX7_left 19 (ls) (v :: st) σ Q := X_getf (w := 650) kX7_left_16 (by decide +kernel)
theorem kX7_left_19 : aCode iX7_left 19 = some (.bipush 16, 2) := by decide +kernel
theorem sX7_left_19 {d : Nat} {σ : aS} {Q : aQ} {ls : aL} {st : List Value} : aX d iX7_left 19 (ls) (st) σ Q ↔ aX d iX7_left 21 (ls) (.int (nI 16) :: st) σ Q := X_bipush kX7_left_19 (by decide +kernel)
theorem kX7_left_21 : aCode iX7_left 21 = some (.iaload, 1) := by decide +kernel
theorem sX7_left_21 {d : Nat} {σ : aS} {Q : aQ} {a : Nat} {i : Int32} {ls : aL} {st : List Value} : aX d iX7_left 21 (ls) (.int i :: .ref a :: st) σ Q ↔ ∃ x, aRowR σ a = some x ∧ vp_in i x.1 ∧ aX d iX7_left 22 (ls) (.int (x.2 i.toNatClampNeg) :: st) σ Q := X_iaload kX7_left_21
theorem kX7_left_22 : aCode iX7_left 22 = some (.invokestatic 63, 3) := by decide +kernel
theorem sX7_left_22 {d : Nat} {σ : aS} {Q : aQ} {p0 : Int32} {ls : aL} : aX (d + 1) iX7_left 22 (ls) (.int p0 :: []) σ Q ↔ aX d iX7_bits 0 [some (.int p0), none, none] [] σ (fun r τ => aX (d + 1) iX7_left 25 (ls) (aret r ([])) τ Q) := X_invs (N := 1) (As := [.int p0]) (k := 1) (w := 719) kX7_left_22 (by decide +kernel) (by decide) (by decide +kernel) rfl rfl (by simp only [List.length_cons, List.length_nil]; omega) (by simp only [List.length_cons, List.length_nil]; omega) rfl (Nat.le_of_ble_eq_true rfl)
theorem kX7_left_25 : aCode iX7_left 25 = some (.ireturn, 1) := by decide +kernel
theorem sX7_left_25 {d : Nat} {σ : aS} {Q : aQ} {v : Int32} {ls : aL} : aX d iX7_left 25 (ls) ([.int v]) σ Q ↔ Q (some (.int v)) σ := X_iret kX7_left_25 (by decide +kernel)
theorem kX7_leave_0 : aCode iX7_leave 0 = some (.aload_n 0, 1) := by decide +kernel
theorem sX7_leave_0 {d : Nat} {σ : aS} {Q : aQ} {x : Nat} {lt : aL} {st : List Value} : aX d iX7_leave 0 (some (.ref x) :: lt) (st) σ Q ↔ aX d iX7_leave 1 (some (.ref x) :: lt) (.ref x :: st) σ Q := X_aloadn kX7_leave_0 rfl rfl
theorem kX7_leave_1 : aCode iX7_leave 1 = some (.iload_n 1, 1) := by decide +kernel
theorem sX7_leave_1 {d : Nat} {σ : aS} {Q : aQ} {l0 : Option Value} {x : Int32} {lt : aL} {st : List Value} : aX d iX7_leave 1 (l0 :: some (.int x) :: lt) (st) σ Q ↔ aX d iX7_leave 2 (l0 :: some (.int x) :: lt) (.int x :: st) σ Q := X_iloadn kX7_leave_1 rfl
theorem kX7_leave_2 : aCode iX7_leave 2 = some (.invokevirtual 114, 3) := by decide +kernel
theorem sX7_leave_2 {d : Nat} {σ : aS} {Q : aQ} {b : Nat} {p0 : Int32} {ls : aL} : aX (d + 1) iX7_leave 2 (ls) (.int p0 :: .ref b :: []) σ Q ↔ aIs σ b 7 ∧ aX d iX7_whyNotLeft 0 [some (.ref b), some (.int p0)] [] σ (fun r τ => aX (d + 1) iX7_leave 5 (ls) (aret r ([])) τ Q) := X_invv (N := 1) (As := [.int p0]) (w := 726) kX7_leave_2 (by decide +kernel) (by decide +kernel) rfl rfl (by simp only [List.length_cons, List.length_nil]; omega) (by simp only [List.length_cons, List.length_nil]; omega) (by decide +kernel) rfl (Nat.le_of_ble_eq_true rfl)
theorem kX7_leave_5 : aCode iX7_leave 5 = some (.istore_n 2, 1) := by decide +kernel
theorem sX7_leave_5 {d : Nat} {σ : aS} {Q : aQ} {l0 l1 lo : Option Value} {x : Int32} {lt : aL} {st : List Value} : aX d iX7_leave 5 (l0 :: l1 :: lo :: lt) (.int x :: st) σ Q ↔ aX d iX7_leave 6 (l0 :: aclr l1 :: some (.int x) :: lt) (st) σ Q := X_istoren kX7_leave_5 (by simp only [List.length_cons]; omega)
theorem kX7_leave_6 : aCode iX7_leave 6 = some (.iload_n 2, 1) := by decide +kernel
theorem sX7_leave_6 {d : Nat} {σ : aS} {Q : aQ} {l0 l1 : Option Value} {x : Int32} {lt : aL} {st : List Value} : aX d iX7_leave 6 (l0 :: l1 :: some (.int x) :: lt) (st) σ Q ↔ aX d iX7_leave 7 (l0 :: l1 :: some (.int x) :: lt) (.int x :: st) σ Q := X_iloadn kX7_leave_6 rfl
theorem kX7_leave_7 : aCode iX7_leave 7 = some (.ifCond .ge 5, 3) := by decide +kernel
theorem sX7_leave_7 {d : Nat} {σ : aS} {Q : aQ} {x : Int32} {ls : aL} {st : List Value} : aX d iX7_leave 7 (ls) (.int x :: st) σ Q ↔ (if nI 0 ≤ x then aX d iX7_leave 12 (ls) (st) σ Q else aX d iX7_leave 10 (ls) (st) σ Q) := by rw [X_if kX7_leave_7 (t := 12) (by decide)]; simp only [aCmp_ge]
theorem kX7_leave_10 : aCode iX7_leave 10 = some (.iload_n 2, 1) := by decide +kernel
theorem sX7_leave_10 {d : Nat} {σ : aS} {Q : aQ} {l0 l1 : Option Value} {x : Int32} {lt : aL} {st : List Value} : aX d iX7_leave 10 (l0 :: l1 :: some (.int x) :: lt) (st) σ Q ↔ aX d iX7_leave 11 (l0 :: l1 :: some (.int x) :: lt) (.int x :: st) σ Q := X_iloadn kX7_leave_10 rfl
theorem kX7_leave_11 : aCode iX7_leave 11 = some (.ireturn, 1) := by decide +kernel
theorem sX7_leave_11 {d : Nat} {σ : aS} {Q : aQ} {v : Int32} {ls : aL} : aX d iX7_leave 11 (ls) ([.int v]) σ Q ↔ Q (some (.int v)) σ := X_iret kX7_leave_11 (by decide +kernel)
theorem kX7_leave_12 : aCode iX7_leave 12 = some (.aload_n 0, 1) := by decide +kernel
theorem sX7_leave_12 {d : Nat} {σ : aS} {Q : aQ} {x : Nat} {lt : aL} {st : List Value} : aX d iX7_leave 12 (some (.ref x) :: lt) (st) σ Q ↔ aX d iX7_leave 13 (some (.ref x) :: lt) (.ref x :: st) σ Q := X_aloadn kX7_leave_12 rfl rfl
theorem kX7_leave_13 : aCode iX7_leave 13 = some (.invokevirtual 102, 3) := by decide +kernel
theorem sX7_leave_13 {d : Nat} {σ : aS} {Q : aQ} {b : Nat} {ls : aL} : aX (d + 1) iX7_leave 13 (ls) (.ref b :: []) σ Q ↔ aIs σ b 7 ∧ aX d iX7_record 0 [some (.ref b), none] [] σ (fun r τ => aX (d + 1) iX7_leave 16 (ls) (aret r ([])) τ Q) := X_invv (N := 0) (As := []) (w := 697) kX7_leave_13 (by decide +kernel) (by decide +kernel) rfl rfl (by simp only [List.length_cons, List.length_nil]; omega) (by simp only [List.length_cons, List.length_nil]; omega) (by decide +kernel) rfl (Nat.le_of_ble_eq_true rfl)
theorem kX7_leave_16 : aCode iX7_leave 16 = some (.aload_n 0, 1) := by decide +kernel
theorem sX7_leave_16 {d : Nat} {σ : aS} {Q : aQ} {x : Nat} {lt : aL} {st : List Value} : aX d iX7_leave 16 (some (.ref x) :: lt) (st) σ Q ↔ aX d iX7_leave 17 (some (.ref x) :: lt) (.ref x :: st) σ Q := X_aloadn kX7_leave_16 rfl rfl
theorem kX7_leave_17 : aCode iX7_leave 17 = some (.iload_n 1, 1) := by decide +kernel
theorem sX7_leave_17 {d : Nat} {σ : aS} {Q : aQ} {l0 : Option Value} {x : Int32} {lt : aL} {st : List Value} : aX d iX7_leave 17 (l0 :: some (.int x) :: lt) (st) σ Q ↔ aX d iX7_leave 18 (l0 :: some (.int x) :: lt) (.int x :: st) σ Q := X_iloadn kX7_leave_17 rfl
theorem kX7_leave_18 : aCode iX7_leave 18 = some (.invokevirtual 117, 3) := by decide +kernel
theorem sX7_leave_18 {d : Nat} {σ : aS} {Q : aQ} {b : Nat} {p0 : Int32} {ls : aL} : aX (d + 1) iX7_leave 18 (ls) (.int p0 :: .ref b :: []) σ Q ↔ aIs σ b 7 ∧ aX d iX7_left 0 [some (.ref b), some (.int p0)] [] σ (fun r τ => aX (d + 1) iX7_leave 21 (ls) (aret r ([])) τ Q) := X_invv (N := 1) (As := [.int p0]) (w := 734) kX7_leave_18 (by decide +kernel) (by decide +kernel) rfl rfl (by simp only [List.length_cons, List.length_nil]; omega) (by simp only [List.length_cons, List.length_nil]; omega) (by decide +kernel) rfl (Nat.le_of_ble_eq_true rfl)
theorem kX7_leave_21 : aCode iX7_leave 21 = some (.ireturn, 1) := by decide +kernel
theorem sX7_leave_21 {d : Nat} {σ : aS} {Q : aQ} {v : Int32} {ls : aL} : aX d iX7_leave 21 (ls) ([.int v]) σ Q ↔ Q (some (.int v)) σ := X_iret kX7_leave_21 (by decide +kernel)
theorem kX7_whyNotBegun_0 : aCode iX7_whyNotBegun 0 = some (.iload_n 1, 1) := by decide +kernel
theorem sX7_whyNotBegun_0 {d : Nat} {σ : aS} {Q : aQ} {l0 : Option Value} {x : Int32} {lt : aL} {st : List Value} : aX d iX7_whyNotBegun 0 (l0 :: some (.int x) :: lt) (st) σ Q ↔ aX d iX7_whyNotBegun 1 (l0 :: some (.int x) :: lt) (.int x :: st) σ Q := X_iloadn kX7_whyNotBegun_0 rfl
theorem kX7_whyNotBegun_1 : aCode iX7_whyNotBegun 1 = some (.invokestatic 105, 3) := by decide +kernel
theorem sX7_whyNotBegun_1 {d : Nat} {σ : aS} {Q : aQ} {p0 : Int32} {ls : aL} : aX (d + 1) iX7_whyNotBegun 1 (ls) (.int p0 :: []) σ Q ↔ aX d iX7_isSeat 0 [some (.int p0)] [] σ (fun r τ => aX (d + 1) iX7_whyNotBegun 4 (ls) (aret r ([])) τ Q) := X_invs (N := 1) (As := [.int p0]) (k := 1) (w := 712) kX7_whyNotBegun_1 (by decide +kernel) (by decide) (by decide +kernel) rfl rfl (by simp only [List.length_cons, List.length_nil]; omega) (by simp only [List.length_cons, List.length_nil]; omega) rfl (Nat.le_of_ble_eq_true rfl)
theorem kX7_whyNotBegun_4 : aCode iX7_whyNotBegun 4 = some (.ifCond .eq 10, 3) := by decide +kernel
theorem sX7_whyNotBegun_4 {d : Nat} {σ : aS} {Q : aQ} {x : Int32} {ls : aL} {st : List Value} : aX d iX7_whyNotBegun 4 (ls) (.int x :: st) σ Q ↔ (if x = nI 0 then aX d iX7_whyNotBegun 14 (ls) (st) σ Q else aX d iX7_whyNotBegun 7 (ls) (st) σ Q) := by rw [X_if kX7_whyNotBegun_4 (t := 14) (by decide)]; simp only [aCmp_eq]
theorem kX7_whyNotBegun_7 : aCode iX7_whyNotBegun 7 = some (.iload_n 2, 1) := by decide +kernel
theorem sX7_whyNotBegun_7 {d : Nat} {σ : aS} {Q : aQ} {l0 l1 : Option Value} {x : Int32} {lt : aL} {st : List Value} : aX d iX7_whyNotBegun 7 (l0 :: l1 :: some (.int x) :: lt) (st) σ Q ↔ aX d iX7_whyNotBegun 8 (l0 :: l1 :: some (.int x) :: lt) (.int x :: st) σ Q := X_iloadn kX7_whyNotBegun_7 rfl
theorem kX7_whyNotBegun_8 : aCode iX7_whyNotBegun 8 = some (.invokestatic 99, 3) := by decide +kernel
theorem sX7_whyNotBegun_8 {d : Nat} {σ : aS} {Q : aQ} {p0 : Int32} {ls : aL} : aX (d + 1) iX7_whyNotBegun 8 (ls) (.int p0 :: []) σ Q ↔ aX d iX7_isWord 0 [some (.int p0)] [] σ (fun r τ => aX (d + 1) iX7_whyNotBegun 11 (ls) (aret r ([])) τ Q) := X_invs (N := 1) (As := [.int p0]) (k := 1) (w := 691) kX7_whyNotBegun_8 (by decide +kernel) (by decide) (by decide +kernel) rfl rfl (by simp only [List.length_cons, List.length_nil]; omega) (by simp only [List.length_cons, List.length_nil]; omega) rfl (Nat.le_of_ble_eq_true rfl)
theorem kX7_whyNotBegun_11 : aCode iX7_whyNotBegun 11 = some (.ifCond .ne 5, 3) := by decide +kernel
theorem sX7_whyNotBegun_11 {d : Nat} {σ : aS} {Q : aQ} {x : Int32} {ls : aL} {st : List Value} : aX d iX7_whyNotBegun 11 (ls) (.int x :: st) σ Q ↔ (if ¬ x = nI 0 then aX d iX7_whyNotBegun 16 (ls) (st) σ Q else aX d iX7_whyNotBegun 14 (ls) (st) σ Q) := by rw [X_if kX7_whyNotBegun_11 (t := 16) (by decide)]; simp only [aCmp_ne]
theorem kX7_whyNotBegun_14 : aCode iX7_whyNotBegun 14 = some (.iconst (-1), 1) := by decide +kernel
theorem sX7_whyNotBegun_14 {d : Nat} {σ : aS} {Q : aQ} {ls : aL} {st : List Value} : aX d iX7_whyNotBegun 14 (ls) (st) σ Q ↔ aX d iX7_whyNotBegun 15 (ls) (.int ((-1)) :: st) σ Q := X_iconst kX7_whyNotBegun_14 (by decide +kernel)
theorem kX7_whyNotBegun_15 : aCode iX7_whyNotBegun 15 = some (.ireturn, 1) := by decide +kernel
theorem sX7_whyNotBegun_15 {d : Nat} {σ : aS} {Q : aQ} {v : Int32} {ls : aL} : aX d iX7_whyNotBegun 15 (ls) ([.int v]) σ Q ↔ Q (some (.int v)) σ := X_iret kX7_whyNotBegun_15 (by decide +kernel)
theorem kX7_whyNotBegun_16 : aCode iX7_whyNotBegun 16 = some (.aload_n 0, 1) := by decide +kernel
theorem sX7_whyNotBegun_16 {d : Nat} {σ : aS} {Q : aQ} {x : Nat} {lt : aL} {st : List Value} : aX d iX7_whyNotBegun 16 (some (.ref x) :: lt) (st) σ Q ↔ aX d iX7_whyNotBegun 17 (some (.ref x) :: lt) (.ref x :: st) σ Q := X_aloadn kX7_whyNotBegun_16 rfl rfl
theorem kX7_whyNotBegun_17 : aCode iX7_whyNotBegun 17 = some (.getfield 7, 3) := by decide +kernel
theorem sX7_whyNotBegun_17 {d : Nat} {σ : aS} {Q : aQ} {a : Nat} {ls : aL} {st : List Value} : aX d iX7_whyNotBegun 17 (ls) (.ref a :: st) σ Q ↔ ∃ v, aFld σ a 7 0 = some v ∧ aX d iX7_whyNotBegun 20 (ls) (v :: st) σ Q := X_getf (w := 650) kX7_whyNotBegun_17 (by decide +kernel)
theorem kX7_whyNotBegun_20 : aCode iX7_whyNotBegun 20 = some (.bipush 34, 2) := by decide +kernel
theorem sX7_whyNotBegun_20 {d : Nat} {σ : aS} {Q : aQ} {ls : aL} {st : List Value} : aX d iX7_whyNotBegun 20 (ls) (st) σ Q ↔ aX d iX7_whyNotBegun 22 (ls) (.int (nI 34) :: st) σ Q := X_bipush kX7_whyNotBegun_20 (by decide +kernel)
theorem kX7_whyNotBegun_22 : aCode iX7_whyNotBegun 22 = some (.iaload, 1) := by decide +kernel
theorem sX7_whyNotBegun_22 {d : Nat} {σ : aS} {Q : aQ} {a : Nat} {i : Int32} {ls : aL} {st : List Value} : aX d iX7_whyNotBegun 22 (ls) (.int i :: .ref a :: st) σ Q ↔ ∃ x, aRowR σ a = some x ∧ vp_in i x.1 ∧ aX d iX7_whyNotBegun 23 (ls) (.int (x.2 i.toNatClampNeg) :: st) σ Q := X_iaload kX7_whyNotBegun_22
theorem kX7_whyNotBegun_23 : aCode iX7_whyNotBegun 23 = some (.bipush 12, 2) := by decide +kernel
theorem sX7_whyNotBegun_23 {d : Nat} {σ : aS} {Q : aQ} {ls : aL} {st : List Value} : aX d iX7_whyNotBegun 23 (ls) (st) σ Q ↔ aX d iX7_whyNotBegun 25 (ls) (.int (nI 12) :: st) σ Q := X_bipush kX7_whyNotBegun_23 (by decide +kernel)
theorem kX7_whyNotBegun_25 : aCode iX7_whyNotBegun 25 = some (.if_icmp .ne 8, 3) := by decide +kernel
theorem sX7_whyNotBegun_25 {d : Nat} {σ : aS} {Q : aQ} {x y : Int32} {ls : aL} {st : List Value} : aX d iX7_whyNotBegun 25 (ls) (.int y :: .int x :: st) σ Q ↔ (if ¬ x = y then aX d iX7_whyNotBegun 33 (ls) (st) σ Q else aX d iX7_whyNotBegun 28 (ls) (st) σ Q) := by rw [X_icmp kX7_whyNotBegun_25 (t := 33) (by decide)]; simp only [aCmp_ne]
theorem kX7_whyNotBegun_28 : aCode iX7_whyNotBegun 28 = some (.bipush (-4), 2) := by decide +kernel
theorem sX7_whyNotBegun_28 {d : Nat} {σ : aS} {Q : aQ} {ls : aL} {st : List Value} : aX d iX7_whyNotBegun 28 (ls) (st) σ Q ↔ aX d iX7_whyNotBegun 30 (ls) (.int ((-4)) :: st) σ Q := X_bipush kX7_whyNotBegun_28 (by decide +kernel)
theorem kX7_whyNotBegun_30 : aCode iX7_whyNotBegun 30 = some (.goto 27, 3) := by decide +kernel
theorem sX7_whyNotBegun_30 {d : Nat} {σ : aS} {Q : aQ} {ls : aL} {st : List Value} : aX d iX7_whyNotBegun 30 (ls) (st) σ Q ↔ aX d iX7_whyNotBegun 57 (ls) (st) σ Q := X_goto kX7_whyNotBegun_30 (by decide)
theorem kX7_whyNotBegun_33 : aCode iX7_whyNotBegun 33 = some (.aload_n 0, 1) := by decide +kernel
theorem sX7_whyNotBegun_33 {d : Nat} {σ : aS} {Q : aQ} {x : Nat} {lt : aL} {st : List Value} : aX d iX7_whyNotBegun 33 (some (.ref x) :: lt) (st) σ Q ↔ aX d iX7_whyNotBegun 34 (some (.ref x) :: lt) (.ref x :: st) σ Q := X_aloadn kX7_whyNotBegun_33 rfl rfl
theorem kX7_whyNotBegun_34 : aCode iX7_whyNotBegun 34 = some (.iload_n 1, 1) := by decide +kernel
theorem sX7_whyNotBegun_34 {d : Nat} {σ : aS} {Q : aQ} {l0 : Option Value} {x : Int32} {lt : aL} {st : List Value} : aX d iX7_whyNotBegun 34 (l0 :: some (.int x) :: lt) (st) σ Q ↔ aX d iX7_whyNotBegun 35 (l0 :: some (.int x) :: lt) (.int x :: st) σ Q := X_iloadn kX7_whyNotBegun_34 rfl
theorem kX7_whyNotBegun_35 : aCode iX7_whyNotBegun 35 = some (.invokevirtual 69, 3) := by decide +kernel
theorem sX7_whyNotBegun_35 {d : Nat} {σ : aS} {Q : aQ} {b : Nat} {p0 : Int32} {ls : aL} : aX (d + 1) iX7_whyNotBegun 35 (ls) (.int p0 :: .ref b :: []) σ Q ↔ aIs σ b 7 ∧ aX d iX7_isTaken 0 [some (.ref b), some (.int p0)] [] σ (fun r τ => aX (d + 1) iX7_whyNotBegun 38 (ls) (aret r ([])) τ Q) := X_invv (N := 1) (As := [.int p0]) (w := 730) kX7_whyNotBegun_35 (by decide +kernel) (by decide +kernel) rfl rfl (by simp only [List.length_cons, List.length_nil]; omega) (by simp only [List.length_cons, List.length_nil]; omega) (by decide +kernel) rfl (Nat.le_of_ble_eq_true rfl)
theorem kX7_whyNotBegun_38 : aCode iX7_whyNotBegun 38 = some (.ifCond .eq 17, 3) := by decide +kernel
theorem sX7_whyNotBegun_38 {d : Nat} {σ : aS} {Q : aQ} {x : Int32} {ls : aL} {st : List Value} : aX d iX7_whyNotBegun 38 (ls) (.int x :: st) σ Q ↔ (if x = nI 0 then aX d iX7_whyNotBegun 55 (ls) (st) σ Q else aX d iX7_whyNotBegun 41 (ls) (st) σ Q) := by rw [X_if kX7_whyNotBegun_38 (t := 55) (by decide)]; simp only [aCmp_eq]
theorem kX7_whyNotBegun_41 : aCode iX7_whyNotBegun 41 = some (.aload_n 0, 1) := by decide +kernel
theorem sX7_whyNotBegun_41 {d : Nat} {σ : aS} {Q : aQ} {x : Nat} {lt : aL} {st : List Value} : aX d iX7_whyNotBegun 41 (some (.ref x) :: lt) (st) σ Q ↔ aX d iX7_whyNotBegun 42 (some (.ref x) :: lt) (.ref x :: st) σ Q := X_aloadn kX7_whyNotBegun_41 rfl rfl
theorem kX7_whyNotBegun_42 : aCode iX7_whyNotBegun 42 = some (.iload_n 1, 1) := by decide +kernel
theorem sX7_whyNotBegun_42 {d : Nat} {σ : aS} {Q : aQ} {l0 : Option Value} {x : Int32} {lt : aL} {st : List Value} : aX d iX7_whyNotBegun 42 (l0 :: some (.int x) :: lt) (st) σ Q ↔ aX d iX7_whyNotBegun 43 (l0 :: some (.int x) :: lt) (.int x :: st) σ Q := X_iloadn kX7_whyNotBegun_42 rfl
theorem kX7_whyNotBegun_43 : aCode iX7_whyNotBegun 43 = some (.invokevirtual 120, 3) := by decide +kernel
theorem sX7_whyNotBegun_43 {d : Nat} {σ : aS} {Q : aQ} {b : Nat} {p0 : Int32} {ls : aL} : aX (d + 1) iX7_whyNotBegun 43 (ls) (.int p0 :: .ref b :: []) σ Q ↔ aIs σ b 7 ∧ aX d iX7_albumOf 0 [some (.ref b), some (.int p0), none, none] [] σ (fun r τ => aX (d + 1) iX7_whyNotBegun 46 (ls) (aret r ([])) τ Q) := X_invv (N := 1) (As := [.int p0]) (w := 746) kX7_whyNotBegun_43 (by decide +kernel) (by decide +kernel) rfl rfl (by simp only [List.length_cons, List.length_nil]; omega) (by simp only [List.length_cons, List.length_nil]; omega) (by decide +kernel) rfl (Nat.le_of_ble_eq_true rfl)
theorem kX7_whyNotBegun_46 : aCode iX7_whyNotBegun 46 = some (.bipush (-6), 2) := by decide +kernel
theorem sX7_whyNotBegun_46 {d : Nat} {σ : aS} {Q : aQ} {ls : aL} {st : List Value} : aX d iX7_whyNotBegun 46 (ls) (st) σ Q ↔ aX d iX7_whyNotBegun 48 (ls) (.int ((-6)) :: st) σ Q := X_bipush kX7_whyNotBegun_46 (by decide +kernel)
theorem kX7_whyNotBegun_48 : aCode iX7_whyNotBegun 48 = some (.if_icmp .ne 7, 3) := by decide +kernel
theorem sX7_whyNotBegun_48 {d : Nat} {σ : aS} {Q : aQ} {x y : Int32} {ls : aL} {st : List Value} : aX d iX7_whyNotBegun 48 (ls) (.int y :: .int x :: st) σ Q ↔ (if ¬ x = y then aX d iX7_whyNotBegun 55 (ls) (st) σ Q else aX d iX7_whyNotBegun 51 (ls) (st) σ Q) := by rw [X_icmp kX7_whyNotBegun_48 (t := 55) (by decide)]; simp only [aCmp_ne]
theorem kX7_whyNotBegun_51 : aCode iX7_whyNotBegun 51 = some (.iconst 0, 1) := by decide +kernel
theorem sX7_whyNotBegun_51 {d : Nat} {σ : aS} {Q : aQ} {ls : aL} {st : List Value} : aX d iX7_whyNotBegun 51 (ls) (st) σ Q ↔ aX d iX7_whyNotBegun 52 (ls) (.int (nI 0) :: st) σ Q := X_iconst kX7_whyNotBegun_51 (by decide +kernel)
theorem kX7_whyNotBegun_52 : aCode iX7_whyNotBegun 52 = some (.goto 5, 3) := by decide +kernel
theorem sX7_whyNotBegun_52 {d : Nat} {σ : aS} {Q : aQ} {ls : aL} {st : List Value} : aX d iX7_whyNotBegun 52 (ls) (st) σ Q ↔ aX d iX7_whyNotBegun 57 (ls) (st) σ Q := X_goto kX7_whyNotBegun_52 (by decide)
theorem kX7_whyNotBegun_55 : aCode iX7_whyNotBegun 55 = some (.bipush (-5), 2) := by decide +kernel
theorem sX7_whyNotBegun_55 {d : Nat} {σ : aS} {Q : aQ} {ls : aL} {st : List Value} : aX d iX7_whyNotBegun 55 (ls) (st) σ Q ↔ aX d iX7_whyNotBegun 57 (ls) (.int ((-5)) :: st) σ Q := X_bipush kX7_whyNotBegun_55 (by decide +kernel)
theorem kX7_whyNotBegun_57 : aCode iX7_whyNotBegun 57 = some (.ireturn, 1) := by decide +kernel
theorem sX7_whyNotBegun_57 {d : Nat} {σ : aS} {Q : aQ} {v : Int32} {ls : aL} : aX d iX7_whyNotBegun 57 (ls) ([.int v]) σ Q ↔ Q (some (.int v)) σ := X_iret kX7_whyNotBegun_57 (by decide +kernel)
theorem kX7_clearAlbum_0 : aCode iX7_clearAlbum 0 = some (.iconst 0, 1) := by decide +kernel
theorem sX7_clearAlbum_0 {d : Nat} {σ : aS} {Q : aQ} {ls : aL} {st : List Value} : aX d iX7_clearAlbum 0 (ls) (st) σ Q ↔ aX d iX7_clearAlbum 1 (ls) (.int (nI 0) :: st) σ Q := X_iconst kX7_clearAlbum_0 (by decide +kernel)
theorem kX7_clearAlbum_1 : aCode iX7_clearAlbum 1 = some (.istore_n 2, 1) := by decide +kernel
theorem sX7_clearAlbum_1 {d : Nat} {σ : aS} {Q : aQ} {l0 l1 lo : Option Value} {x : Int32} {lt : aL} {st : List Value} : aX d iX7_clearAlbum 1 (l0 :: l1 :: lo :: lt) (.int x :: st) σ Q ↔ aX d iX7_clearAlbum 2 (l0 :: aclr l1 :: some (.int x) :: lt) (st) σ Q := X_istoren kX7_clearAlbum_1 (by simp only [List.length_cons]; omega)
theorem kX7_clearAlbum_2 : aCode iX7_clearAlbum 2 = some (.iload_n 2, 1) := by decide +kernel
theorem sX7_clearAlbum_2 {d : Nat} {σ : aS} {Q : aQ} {l0 l1 : Option Value} {x : Int32} {lt : aL} {st : List Value} : aX d iX7_clearAlbum 2 (l0 :: l1 :: some (.int x) :: lt) (st) σ Q ↔ aX d iX7_clearAlbum 3 (l0 :: l1 :: some (.int x) :: lt) (.int x :: st) σ Q := X_iloadn kX7_clearAlbum_2 rfl
theorem kX7_clearAlbum_3 : aCode iX7_clearAlbum 3 = some (.bipush 28, 2) := by decide +kernel
theorem sX7_clearAlbum_3 {d : Nat} {σ : aS} {Q : aQ} {ls : aL} {st : List Value} : aX d iX7_clearAlbum 3 (ls) (st) σ Q ↔ aX d iX7_clearAlbum 5 (ls) (.int (nI 28) :: st) σ Q := X_bipush kX7_clearAlbum_3 (by decide +kernel)
theorem kX7_clearAlbum_5 : aCode iX7_clearAlbum 5 = some (.if_icmp .ge 16, 3) := by decide +kernel
theorem sX7_clearAlbum_5 {d : Nat} {σ : aS} {Q : aQ} {x y : Int32} {ls : aL} {st : List Value} : aX d iX7_clearAlbum 5 (ls) (.int y :: .int x :: st) σ Q ↔ (if y ≤ x then aX d iX7_clearAlbum 21 (ls) (st) σ Q else aX d iX7_clearAlbum 8 (ls) (st) σ Q) := by rw [X_icmp kX7_clearAlbum_5 (t := 21) (by decide)]; simp only [aCmp_ge]
theorem kX7_clearAlbum_8 : aCode iX7_clearAlbum 8 = some (.aload_n 0, 1) := by decide +kernel
theorem sX7_clearAlbum_8 {d : Nat} {σ : aS} {Q : aQ} {x : Nat} {lt : aL} {st : List Value} : aX d iX7_clearAlbum 8 (some (.ref x) :: lt) (st) σ Q ↔ aX d iX7_clearAlbum 9 (some (.ref x) :: lt) (.ref x :: st) σ Q := X_aloadn kX7_clearAlbum_8 rfl rfl
theorem kX7_clearAlbum_9 : aCode iX7_clearAlbum 9 = some (.iload_n 1, 1) := by decide +kernel
theorem sX7_clearAlbum_9 {d : Nat} {σ : aS} {Q : aQ} {l0 : Option Value} {x : Int32} {lt : aL} {st : List Value} : aX d iX7_clearAlbum 9 (l0 :: some (.int x) :: lt) (st) σ Q ↔ aX d iX7_clearAlbum 10 (l0 :: some (.int x) :: lt) (.int x :: st) σ Q := X_iloadn kX7_clearAlbum_9 rfl
theorem kX7_clearAlbum_10 : aCode iX7_clearAlbum 10 = some (.iload_n 2, 1) := by decide +kernel
theorem sX7_clearAlbum_10 {d : Nat} {σ : aS} {Q : aQ} {l0 l1 : Option Value} {x : Int32} {lt : aL} {st : List Value} : aX d iX7_clearAlbum 10 (l0 :: l1 :: some (.int x) :: lt) (st) σ Q ↔ aX d iX7_clearAlbum 11 (l0 :: l1 :: some (.int x) :: lt) (.int x :: st) σ Q := X_iloadn kX7_clearAlbum_10 rfl
theorem kX7_clearAlbum_11 : aCode iX7_clearAlbum 11 = some (.iconst 0, 1) := by decide +kernel
theorem sX7_clearAlbum_11 {d : Nat} {σ : aS} {Q : aQ} {ls : aL} {st : List Value} : aX d iX7_clearAlbum 11 (ls) (st) σ Q ↔ aX d iX7_clearAlbum 12 (ls) (.int (nI 0) :: st) σ Q := X_iconst kX7_clearAlbum_11 (by decide +kernel)
theorem kX7_clearAlbum_12 : aCode iX7_clearAlbum 12 = some (.invokevirtual 44, 3) := by decide +kernel
theorem sX7_clearAlbum_12 {d : Nat} {σ : aS} {Q : aQ} {b : Nat} {p0 : Int32} {p1 : Int32} {p2 : Int32} {ls : aL} : aX (d + 1) iX7_clearAlbum 12 (ls) (.int p2 :: .int p1 :: .int p0 :: .ref b :: []) σ Q ↔ aIs σ b 7 ∧ aX d iX7_setPart 0 [some (.ref b), some (.int p0), some (.int p1), some (.int p2)] [] σ (fun r τ => aX (d + 1) iX7_clearAlbum 15 (ls) (aret r ([])) τ Q) := X_invv (N := 3) (As := [.int p2, .int p1, .int p0]) (w := 766) kX7_clearAlbum_12 (by decide +kernel) (by decide +kernel) rfl rfl (by simp only [List.length_cons, List.length_nil]; omega) (by simp only [List.length_cons, List.length_nil]; omega) (by decide +kernel) rfl (Nat.le_of_ble_eq_true rfl)
theorem kX7_clearAlbum_15 : aCode iX7_clearAlbum 15 = some (.iinc 2 1, 3) := by decide +kernel
theorem sX7_clearAlbum_15 {d : Nat} {σ : aS} {Q : aQ} {l0 l1 : Option Value} {x : Int32} {lt : aL} {st : List Value} : aX d iX7_clearAlbum 15 (l0 :: l1 :: some (.int x) :: lt) (st) σ Q ↔ aX d iX7_clearAlbum 18 (l0 :: aclr l1 :: some (.int (x + nI 1)) :: lt) (st) σ Q := X_iinc kX7_clearAlbum_15 rfl (by decide +kernel)
theorem kX7_clearAlbum_18 : aCode iX7_clearAlbum 18 = some (.goto (-16), 3) := by decide +kernel
theorem sX7_clearAlbum_18 {d : Nat} {σ : aS} {Q : aQ} {ls : aL} {st : List Value} : aX d iX7_clearAlbum 18 (ls) (st) σ Q ↔ aX d iX7_clearAlbum 2 (ls) (st) σ Q := X_goto kX7_clearAlbum_18 (by decide)
theorem kX7_clearAlbum_21 : aCode iX7_clearAlbum 21 = some (.aload_n 0, 1) := by decide +kernel
theorem sX7_clearAlbum_21 {d : Nat} {σ : aS} {Q : aQ} {x : Nat} {lt : aL} {st : List Value} : aX d iX7_clearAlbum 21 (some (.ref x) :: lt) (st) σ Q ↔ aX d iX7_clearAlbum 22 (some (.ref x) :: lt) (.ref x :: st) σ Q := X_aloadn kX7_clearAlbum_21 rfl rfl
theorem kX7_clearAlbum_22 : aCode iX7_clearAlbum 22 = some (.iload_n 1, 1) := by decide +kernel
theorem sX7_clearAlbum_22 {d : Nat} {σ : aS} {Q : aQ} {l0 : Option Value} {x : Int32} {lt : aL} {st : List Value} : aX d iX7_clearAlbum 22 (l0 :: some (.int x) :: lt) (st) σ Q ↔ aX d iX7_clearAlbum 23 (l0 :: some (.int x) :: lt) (.int x :: st) σ Q := X_iloadn kX7_clearAlbum_22 rfl
theorem kX7_clearAlbum_23 : aCode iX7_clearAlbum 23 = some (.iconst 3, 1) := by decide +kernel
theorem sX7_clearAlbum_23 {d : Nat} {σ : aS} {Q : aQ} {ls : aL} {st : List Value} : aX d iX7_clearAlbum 23 (ls) (st) σ Q ↔ aX d iX7_clearAlbum 24 (ls) (.int (nI 3) :: st) σ Q := X_iconst kX7_clearAlbum_23 (by decide +kernel)
theorem kX7_clearAlbum_24 : aCode iX7_clearAlbum 24 = some (.bipush (-6), 2) := by decide +kernel
theorem sX7_clearAlbum_24 {d : Nat} {σ : aS} {Q : aQ} {ls : aL} {st : List Value} : aX d iX7_clearAlbum 24 (ls) (st) σ Q ↔ aX d iX7_clearAlbum 26 (ls) (.int ((-6)) :: st) σ Q := X_bipush kX7_clearAlbum_24 (by decide +kernel)
theorem kX7_clearAlbum_26 : aCode iX7_clearAlbum 26 = some (.invokevirtual 44, 3) := by decide +kernel
theorem sX7_clearAlbum_26 {d : Nat} {σ : aS} {Q : aQ} {b : Nat} {p0 : Int32} {p1 : Int32} {p2 : Int32} {ls : aL} : aX (d + 1) iX7_clearAlbum 26 (ls) (.int p2 :: .int p1 :: .int p0 :: .ref b :: []) σ Q ↔ aIs σ b 7 ∧ aX d iX7_setPart 0 [some (.ref b), some (.int p0), some (.int p1), some (.int p2)] [] σ (fun r τ => aX (d + 1) iX7_clearAlbum 29 (ls) (aret r ([])) τ Q) := X_invv (N := 3) (As := [.int p2, .int p1, .int p0]) (w := 766) kX7_clearAlbum_26 (by decide +kernel) (by decide +kernel) rfl rfl (by simp only [List.length_cons, List.length_nil]; omega) (by simp only [List.length_cons, List.length_nil]; omega) (by decide +kernel) rfl (Nat.le_of_ble_eq_true rfl)
theorem kX7_clearAlbum_29 : aCode iX7_clearAlbum 29 = some (.return_, 1) := by decide +kernel
theorem sX7_clearAlbum_29 {d : Nat} {σ : aS} {Q : aQ} {ls : aL} : aX d iX7_clearAlbum 29 (ls) ([]) σ Q ↔ Q none σ := X_vret kX7_clearAlbum_29 (by decide +kernel)
theorem kX7_begun_0 : aCode iX7_begun 0 = some (.aload_n 0, 1) := by decide +kernel
theorem sX7_begun_0 {d : Nat} {σ : aS} {Q : aQ} {x : Nat} {lt : aL} {st : List Value} : aX d iX7_begun 0 (some (.ref x) :: lt) (st) σ Q ↔ aX d iX7_begun 1 (some (.ref x) :: lt) (.ref x :: st) σ Q := X_aloadn kX7_begun_0 rfl rfl
theorem kX7_begun_1 : aCode iX7_begun 1 = some (.getfield 7, 3) := by decide +kernel
theorem sX7_begun_1 {d : Nat} {σ : aS} {Q : aQ} {a : Nat} {ls : aL} {st : List Value} : aX d iX7_begun 1 (ls) (.ref a :: st) σ Q ↔ ∃ v, aFld σ a 7 0 = some v ∧ aX d iX7_begun 4 (ls) (v :: st) σ Q := X_getf (w := 650) kX7_begun_1 (by decide +kernel)
theorem kX7_begun_4 : aCode iX7_begun 4 = some (.bipush 34, 2) := by decide +kernel
theorem sX7_begun_4 {d : Nat} {σ : aS} {Q : aQ} {ls : aL} {st : List Value} : aX d iX7_begun 4 (ls) (st) σ Q ↔ aX d iX7_begun 6 (ls) (.int (nI 34) :: st) σ Q := X_bipush kX7_begun_4 (by decide +kernel)
theorem kX7_begun_6 : aCode iX7_begun 6 = some (.iaload, 1) := by decide +kernel
theorem sX7_begun_6 {d : Nat} {σ : aS} {Q : aQ} {a : Nat} {i : Int32} {ls : aL} {st : List Value} : aX d iX7_begun 6 (ls) (.int i :: .ref a :: st) σ Q ↔ ∃ x, aRowR σ a = some x ∧ vp_in i x.1 ∧ aX d iX7_begun 7 (ls) (.int (x.2 i.toNatClampNeg) :: st) σ Q := X_iaload kX7_begun_6
theorem kX7_begun_7 : aCode iX7_begun 7 = some (.istore_n 3, 1) := by decide +kernel
theorem sX7_begun_7 {d : Nat} {σ : aS} {Q : aQ} {l0 l1 l2 lo : Option Value} {x : Int32} {lt : aL} {st : List Value} : aX d iX7_begun 7 (l0 :: l1 :: l2 :: lo :: lt) (.int x :: st) σ Q ↔ aX d iX7_begun 8 (l0 :: l1 :: aclr l2 :: some (.int x) :: lt) (st) σ Q := X_istoren kX7_begun_7 (by simp only [List.length_cons]; omega)
theorem kX7_begun_8 : aCode iX7_begun 8 = some (.aload_n 0, 1) := by decide +kernel
theorem sX7_begun_8 {d : Nat} {σ : aS} {Q : aQ} {x : Nat} {lt : aL} {st : List Value} : aX d iX7_begun 8 (some (.ref x) :: lt) (st) σ Q ↔ aX d iX7_begun 9 (some (.ref x) :: lt) (.ref x :: st) σ Q := X_aloadn kX7_begun_8 rfl rfl
theorem kX7_begun_9 : aCode iX7_begun 9 = some (.iload_n 3, 1) := by decide +kernel
theorem sX7_begun_9 {d : Nat} {σ : aS} {Q : aQ} {l0 l1 l2 : Option Value} {x : Int32} {lt : aL} {st : List Value} : aX d iX7_begun 9 (l0 :: l1 :: l2 :: some (.int x) :: lt) (st) σ Q ↔ aX d iX7_begun 10 (l0 :: l1 :: l2 :: some (.int x) :: lt) (.int x :: st) σ Q := X_iloadn kX7_begun_9 rfl
theorem kX7_begun_10 : aCode iX7_begun 10 = some (.invokevirtual 123, 3) := by decide +kernel
theorem sX7_begun_10 {d : Nat} {σ : aS} {Q : aQ} {b : Nat} {p0 : Int32} {ls : aL} : aX (d + 1) iX7_begun 10 (ls) (.int p0 :: .ref b :: []) σ Q ↔ aIs σ b 7 ∧ aX d iX7_clearAlbum 0 [some (.ref b), some (.int p0), none] [] σ (fun r τ => aX (d + 1) iX7_begun 13 (ls) (aret r ([])) τ Q) := X_invv (N := 1) (As := [.int p0]) (w := 762) kX7_begun_10 (by decide +kernel) (by decide +kernel) rfl rfl (by simp only [List.length_cons, List.length_nil]; omega) (by simp only [List.length_cons, List.length_nil]; omega) (by decide +kernel) rfl (Nat.le_of_ble_eq_true rfl)
theorem kX7_begun_13 : aCode iX7_begun 13 = some (.aload_n 0, 1) := by decide +kernel
theorem sX7_begun_13 {d : Nat} {σ : aS} {Q : aQ} {x : Nat} {lt : aL} {st : List Value} : aX d iX7_begun 13 (some (.ref x) :: lt) (st) σ Q ↔ aX d iX7_begun 14 (some (.ref x) :: lt) (.ref x :: st) σ Q := X_aloadn kX7_begun_13 rfl rfl
theorem kX7_begun_14 : aCode iX7_begun 14 = some (.iload_n 3, 1) := by decide +kernel
theorem sX7_begun_14 {d : Nat} {σ : aS} {Q : aQ} {l0 l1 l2 : Option Value} {x : Int32} {lt : aL} {st : List Value} : aX d iX7_begun 14 (l0 :: l1 :: l2 :: some (.int x) :: lt) (st) σ Q ↔ aX d iX7_begun 15 (l0 :: l1 :: l2 :: some (.int x) :: lt) (.int x :: st) σ Q := X_iloadn kX7_begun_14 rfl
theorem kX7_begun_15 : aCode iX7_begun 15 = some (.iconst 0, 1) := by decide +kernel
theorem sX7_begun_15 {d : Nat} {σ : aS} {Q : aQ} {ls : aL} {st : List Value} : aX d iX7_begun 15 (ls) (st) σ Q ↔ aX d iX7_begun 16 (ls) (.int (nI 0) :: st) σ Q := X_iconst kX7_begun_15 (by decide +kernel)
theorem kX7_begun_16 : aCode iX7_begun 16 = some (.iload_n 1, 1) := by decide +kernel
theorem sX7_begun_16 {d : Nat} {σ : aS} {Q : aQ} {l0 : Option Value} {x : Int32} {lt : aL} {st : List Value} : aX d iX7_begun 16 (l0 :: some (.int x) :: lt) (st) σ Q ↔ aX d iX7_begun 17 (l0 :: some (.int x) :: lt) (.int x :: st) σ Q := X_iloadn kX7_begun_16 rfl
theorem kX7_begun_17 : aCode iX7_begun 17 = some (.invokevirtual 44, 3) := by decide +kernel
theorem sX7_begun_17 {d : Nat} {σ : aS} {Q : aQ} {b : Nat} {p0 : Int32} {p1 : Int32} {p2 : Int32} {ls : aL} : aX (d + 1) iX7_begun 17 (ls) (.int p2 :: .int p1 :: .int p0 :: .ref b :: []) σ Q ↔ aIs σ b 7 ∧ aX d iX7_setPart 0 [some (.ref b), some (.int p0), some (.int p1), some (.int p2)] [] σ (fun r τ => aX (d + 1) iX7_begun 20 (ls) (aret r ([])) τ Q) := X_invv (N := 3) (As := [.int p2, .int p1, .int p0]) (w := 766) kX7_begun_17 (by decide +kernel) (by decide +kernel) rfl rfl (by simp only [List.length_cons, List.length_nil]; omega) (by simp only [List.length_cons, List.length_nil]; omega) (by decide +kernel) rfl (Nat.le_of_ble_eq_true rfl)
theorem kX7_begun_20 : aCode iX7_begun 20 = some (.aload_n 0, 1) := by decide +kernel
theorem sX7_begun_20 {d : Nat} {σ : aS} {Q : aQ} {x : Nat} {lt : aL} {st : List Value} : aX d iX7_begun 20 (some (.ref x) :: lt) (st) σ Q ↔ aX d iX7_begun 21 (some (.ref x) :: lt) (.ref x :: st) σ Q := X_aloadn kX7_begun_20 rfl rfl
theorem kX7_begun_21 : aCode iX7_begun 21 = some (.iload_n 3, 1) := by decide +kernel
theorem sX7_begun_21 {d : Nat} {σ : aS} {Q : aQ} {l0 l1 l2 : Option Value} {x : Int32} {lt : aL} {st : List Value} : aX d iX7_begun 21 (l0 :: l1 :: l2 :: some (.int x) :: lt) (st) σ Q ↔ aX d iX7_begun 22 (l0 :: l1 :: l2 :: some (.int x) :: lt) (.int x :: st) σ Q := X_iloadn kX7_begun_21 rfl
theorem kX7_begun_22 : aCode iX7_begun 22 = some (.iload_n 1, 1) := by decide +kernel
theorem sX7_begun_22 {d : Nat} {σ : aS} {Q : aQ} {l0 : Option Value} {x : Int32} {lt : aL} {st : List Value} : aX d iX7_begun 22 (l0 :: some (.int x) :: lt) (st) σ Q ↔ aX d iX7_begun 23 (l0 :: some (.int x) :: lt) (.int x :: st) σ Q := X_iloadn kX7_begun_22 rfl
theorem kX7_begun_23 : aCode iX7_begun 23 = some (.iload_n 2, 1) := by decide +kernel
theorem sX7_begun_23 {d : Nat} {σ : aS} {Q : aQ} {l0 l1 : Option Value} {x : Int32} {lt : aL} {st : List Value} : aX d iX7_begun 23 (l0 :: l1 :: some (.int x) :: lt) (st) σ Q ↔ aX d iX7_begun 24 (l0 :: l1 :: some (.int x) :: lt) (.int x :: st) σ Q := X_iloadn kX7_begun_23 rfl
theorem kX7_begun_24 : aCode iX7_begun 24 = some (.iconst 0, 1) := by decide +kernel
theorem sX7_begun_24 {d : Nat} {σ : aS} {Q : aQ} {ls : aL} {st : List Value} : aX d iX7_begun 24 (ls) (st) σ Q ↔ aX d iX7_begun 25 (ls) (.int (nI 0) :: st) σ Q := X_iconst kX7_begun_24 (by decide +kernel)
theorem kX7_begun_25 : aCode iX7_begun 25 = some (.invokevirtual 85, 3) := by decide +kernel
theorem sX7_begun_25 {d : Nat} {σ : aS} {Q : aQ} {b : Nat} {p0 : Int32} {p1 : Int32} {p2 : Int32} {p3 : Int32} {ls : aL} : aX (d + 1) iX7_begun 25 (ls) (.int p3 :: .int p2 :: .int p1 :: .int p0 :: .ref b :: []) σ Q ↔ aIs σ b 7 ∧ aX d iX7_putPage 0 [some (.ref b), some (.int p0), some (.int p1), some (.int p2), some (.int p3), none] [] σ (fun r τ => aX (d + 1) iX7_begun 28 (ls) (aret r ([])) τ Q) := X_invv (N := 4) (As := [.int p3, .int p2, .int p1, .int p0]) (w := 770) kX7_begun_25 (by decide +kernel) (by decide +kernel) rfl rfl (by simp only [List.length_cons, List.length_nil]; omega) (by simp only [List.length_cons, List.length_nil]; omega) (by decide +kernel) rfl (Nat.le_of_ble_eq_true rfl)
theorem kX7_begun_28 : aCode iX7_begun 28 = some (.aload_n 0, 1) := by decide +kernel
theorem sX7_begun_28 {d : Nat} {σ : aS} {Q : aQ} {x : Nat} {lt : aL} {st : List Value} : aX d iX7_begun 28 (some (.ref x) :: lt) (st) σ Q ↔ aX d iX7_begun 29 (some (.ref x) :: lt) (.ref x :: st) σ Q := X_aloadn kX7_begun_28 rfl rfl
theorem kX7_begun_29 : aCode iX7_begun 29 = some (.getfield 7, 3) := by decide +kernel
theorem sX7_begun_29 {d : Nat} {σ : aS} {Q : aQ} {a : Nat} {ls : aL} {st : List Value} : aX d iX7_begun 29 (ls) (.ref a :: st) σ Q ↔ ∃ v, aFld σ a 7 0 = some v ∧ aX d iX7_begun 32 (ls) (v :: st) σ Q := X_getf (w := 650) kX7_begun_29 (by decide +kernel)
theorem kX7_begun_32 : aCode iX7_begun 32 = some (.bipush 34, 2) := by decide +kernel
theorem sX7_begun_32 {d : Nat} {σ : aS} {Q : aQ} {ls : aL} {st : List Value} : aX d iX7_begun 32 (ls) (st) σ Q ↔ aX d iX7_begun 34 (ls) (.int (nI 34) :: st) σ Q := X_bipush kX7_begun_32 (by decide +kernel)
theorem kX7_begun_34 : aCode iX7_begun 34 = some (.dup2, 1) := by decide +kernel
theorem sX7_begun_34 {d : Nat} {σ : aS} {Q : aQ} {y : Int32} {x : Nat} {ls : aL} {st : List Value} : aX d iX7_begun 34 (ls) (.int y :: .ref x :: st) σ Q ↔ aX d iX7_begun 35 (ls) (.int y :: .ref x :: .int y :: .ref x :: st) σ Q := X_dup2 kX7_begun_34 ⟨rfl, rfl⟩
theorem kX7_begun_35 : aCode iX7_begun 35 = some (.iaload, 1) := by decide +kernel
theorem sX7_begun_35 {d : Nat} {σ : aS} {Q : aQ} {a : Nat} {i : Int32} {ls : aL} {st : List Value} : aX d iX7_begun 35 (ls) (.int i :: .ref a :: st) σ Q ↔ ∃ x, aRowR σ a = some x ∧ vp_in i x.1 ∧ aX d iX7_begun 36 (ls) (.int (x.2 i.toNatClampNeg) :: st) σ Q := X_iaload kX7_begun_35
theorem kX7_begun_36 : aCode iX7_begun 36 = some (.iconst 1, 1) := by decide +kernel
theorem sX7_begun_36 {d : Nat} {σ : aS} {Q : aQ} {ls : aL} {st : List Value} : aX d iX7_begun 36 (ls) (st) σ Q ↔ aX d iX7_begun 37 (ls) (.int (nI 1) :: st) σ Q := X_iconst kX7_begun_36 (by decide +kernel)
theorem kX7_begun_37 : aCode iX7_begun 37 = some (.iadd, 1) := by decide +kernel
theorem sX7_begun_37 {d : Nat} {σ : aS} {Q : aQ} {x y : Int32} {ls : aL} {st : List Value} : aX d iX7_begun 37 (ls) (.int y :: .int x :: st) σ Q ↔ aX d iX7_begun 38 (ls) (.int (x + y) :: st) σ Q := X_iadd kX7_begun_37
theorem kX7_begun_38 : aCode iX7_begun 38 = some (.iastore, 1) := by decide +kernel
theorem sX7_begun_38 {d : Nat} {σ : aS} {Q : aQ} {a : Nat} {i v : Int32} {ls : aL} {st : List Value} : aX d iX7_begun 38 (ls) (.int v :: .int i :: .ref a :: st) σ Q ↔ ∃ x, aRow σ a = some x ∧ vp_in i x.1 ∧ aX d iX7_begun 39 (ls) (st) (aput σ a (eI x.1 (upd x.2 i.toNatClampNeg v))) Q := X_iastore kX7_begun_38
theorem kX7_begun_39 : aCode iX7_begun 39 = some (.iload_n 3, 1) := by decide +kernel
theorem sX7_begun_39 {d : Nat} {σ : aS} {Q : aQ} {l0 l1 l2 : Option Value} {x : Int32} {lt : aL} {st : List Value} : aX d iX7_begun 39 (l0 :: l1 :: l2 :: some (.int x) :: lt) (st) σ Q ↔ aX d iX7_begun 40 (l0 :: l1 :: l2 :: some (.int x) :: lt) (.int x :: st) σ Q := X_iloadn kX7_begun_39 rfl
theorem kX7_begun_40 : aCode iX7_begun 40 = some (.ireturn, 1) := by decide +kernel
theorem sX7_begun_40 {d : Nat} {σ : aS} {Q : aQ} {v : Int32} {ls : aL} : aX d iX7_begun 40 (ls) ([.int v]) σ Q ↔ Q (some (.int v)) σ := X_iret kX7_begun_40 (by decide +kernel)
theorem kX7_begin_0 : aCode iX7_begin 0 = some (.aload_n 0, 1) := by decide +kernel
theorem sX7_begin_0 {d : Nat} {σ : aS} {Q : aQ} {x : Nat} {lt : aL} {st : List Value} : aX d iX7_begin 0 (some (.ref x) :: lt) (st) σ Q ↔ aX d iX7_begin 1 (some (.ref x) :: lt) (.ref x :: st) σ Q := X_aloadn kX7_begin_0 rfl rfl
theorem kX7_begin_1 : aCode iX7_begin 1 = some (.iload_n 1, 1) := by decide +kernel
theorem sX7_begin_1 {d : Nat} {σ : aS} {Q : aQ} {l0 : Option Value} {x : Int32} {lt : aL} {st : List Value} : aX d iX7_begin 1 (l0 :: some (.int x) :: lt) (st) σ Q ↔ aX d iX7_begin 2 (l0 :: some (.int x) :: lt) (.int x :: st) σ Q := X_iloadn kX7_begin_1 rfl
theorem kX7_begin_2 : aCode iX7_begin 2 = some (.iload_n 2, 1) := by decide +kernel
theorem sX7_begin_2 {d : Nat} {σ : aS} {Q : aQ} {l0 l1 : Option Value} {x : Int32} {lt : aL} {st : List Value} : aX d iX7_begin 2 (l0 :: l1 :: some (.int x) :: lt) (st) σ Q ↔ aX d iX7_begin 3 (l0 :: l1 :: some (.int x) :: lt) (.int x :: st) σ Q := X_iloadn kX7_begin_2 rfl
theorem kX7_begin_3 : aCode iX7_begin 3 = some (.invokevirtual 126, 3) := by decide +kernel
theorem sX7_begin_3 {d : Nat} {σ : aS} {Q : aQ} {b : Nat} {p0 : Int32} {p1 : Int32} {ls : aL} : aX (d + 1) iX7_begin 3 (ls) (.int p1 :: .int p0 :: .ref b :: []) σ Q ↔ aIs σ b 7 ∧ aX d iX7_whyNotBegun 0 [some (.ref b), some (.int p0), some (.int p1)] [] σ (fun r τ => aX (d + 1) iX7_begin 6 (ls) (aret r ([])) τ Q) := X_invv (N := 2) (As := [.int p1, .int p0]) (w := 742) kX7_begin_3 (by decide +kernel) (by decide +kernel) rfl rfl (by simp only [List.length_cons, List.length_nil]; omega) (by simp only [List.length_cons, List.length_nil]; omega) (by decide +kernel) rfl (Nat.le_of_ble_eq_true rfl)
theorem kX7_begin_6 : aCode iX7_begin 6 = some (.istore_n 3, 1) := by decide +kernel
theorem sX7_begin_6 {d : Nat} {σ : aS} {Q : aQ} {l0 l1 l2 lo : Option Value} {x : Int32} {lt : aL} {st : List Value} : aX d iX7_begin 6 (l0 :: l1 :: l2 :: lo :: lt) (.int x :: st) σ Q ↔ aX d iX7_begin 7 (l0 :: l1 :: aclr l2 :: some (.int x) :: lt) (st) σ Q := X_istoren kX7_begin_6 (by simp only [List.length_cons]; omega)
theorem kX7_begin_7 : aCode iX7_begin 7 = some (.iload_n 3, 1) := by decide +kernel
theorem sX7_begin_7 {d : Nat} {σ : aS} {Q : aQ} {l0 l1 l2 : Option Value} {x : Int32} {lt : aL} {st : List Value} : aX d iX7_begin 7 (l0 :: l1 :: l2 :: some (.int x) :: lt) (st) σ Q ↔ aX d iX7_begin 8 (l0 :: l1 :: l2 :: some (.int x) :: lt) (.int x :: st) σ Q := X_iloadn kX7_begin_7 rfl
theorem kX7_begin_8 : aCode iX7_begin 8 = some (.ifCond .ge 5, 3) := by decide +kernel
theorem sX7_begin_8 {d : Nat} {σ : aS} {Q : aQ} {x : Int32} {ls : aL} {st : List Value} : aX d iX7_begin 8 (ls) (.int x :: st) σ Q ↔ (if nI 0 ≤ x then aX d iX7_begin 13 (ls) (st) σ Q else aX d iX7_begin 11 (ls) (st) σ Q) := by rw [X_if kX7_begin_8 (t := 13) (by decide)]; simp only [aCmp_ge]
theorem kX7_begin_11 : aCode iX7_begin 11 = some (.iload_n 3, 1) := by decide +kernel
theorem sX7_begin_11 {d : Nat} {σ : aS} {Q : aQ} {l0 l1 l2 : Option Value} {x : Int32} {lt : aL} {st : List Value} : aX d iX7_begin 11 (l0 :: l1 :: l2 :: some (.int x) :: lt) (st) σ Q ↔ aX d iX7_begin 12 (l0 :: l1 :: l2 :: some (.int x) :: lt) (.int x :: st) σ Q := X_iloadn kX7_begin_11 rfl
theorem kX7_begin_12 : aCode iX7_begin 12 = some (.ireturn, 1) := by decide +kernel
theorem sX7_begin_12 {d : Nat} {σ : aS} {Q : aQ} {v : Int32} {ls : aL} : aX d iX7_begin 12 (ls) ([.int v]) σ Q ↔ Q (some (.int v)) σ := X_iret kX7_begin_12 (by decide +kernel)
theorem kX7_begin_13 : aCode iX7_begin 13 = some (.aload_n 0, 1) := by decide +kernel
theorem sX7_begin_13 {d : Nat} {σ : aS} {Q : aQ} {x : Nat} {lt : aL} {st : List Value} : aX d iX7_begin 13 (some (.ref x) :: lt) (st) σ Q ↔ aX d iX7_begin 14 (some (.ref x) :: lt) (.ref x :: st) σ Q := X_aloadn kX7_begin_13 rfl rfl
theorem kX7_begin_14 : aCode iX7_begin 14 = some (.invokevirtual 102, 3) := by decide +kernel
theorem sX7_begin_14 {d : Nat} {σ : aS} {Q : aQ} {b : Nat} {ls : aL} : aX (d + 1) iX7_begin 14 (ls) (.ref b :: []) σ Q ↔ aIs σ b 7 ∧ aX d iX7_record 0 [some (.ref b), none] [] σ (fun r τ => aX (d + 1) iX7_begin 17 (ls) (aret r ([])) τ Q) := X_invv (N := 0) (As := []) (w := 697) kX7_begin_14 (by decide +kernel) (by decide +kernel) rfl rfl (by simp only [List.length_cons, List.length_nil]; omega) (by simp only [List.length_cons, List.length_nil]; omega) (by decide +kernel) rfl (Nat.le_of_ble_eq_true rfl)
theorem kX7_begin_17 : aCode iX7_begin 17 = some (.aload_n 0, 1) := by decide +kernel
theorem sX7_begin_17 {d : Nat} {σ : aS} {Q : aQ} {x : Nat} {lt : aL} {st : List Value} : aX d iX7_begin 17 (some (.ref x) :: lt) (st) σ Q ↔ aX d iX7_begin 18 (some (.ref x) :: lt) (.ref x :: st) σ Q := X_aloadn kX7_begin_17 rfl rfl
theorem kX7_begin_18 : aCode iX7_begin 18 = some (.iload_n 1, 1) := by decide +kernel
theorem sX7_begin_18 {d : Nat} {σ : aS} {Q : aQ} {l0 : Option Value} {x : Int32} {lt : aL} {st : List Value} : aX d iX7_begin 18 (l0 :: some (.int x) :: lt) (st) σ Q ↔ aX d iX7_begin 19 (l0 :: some (.int x) :: lt) (.int x :: st) σ Q := X_iloadn kX7_begin_18 rfl
theorem kX7_begin_19 : aCode iX7_begin 19 = some (.iload_n 2, 1) := by decide +kernel
theorem sX7_begin_19 {d : Nat} {σ : aS} {Q : aQ} {l0 l1 : Option Value} {x : Int32} {lt : aL} {st : List Value} : aX d iX7_begin 19 (l0 :: l1 :: some (.int x) :: lt) (st) σ Q ↔ aX d iX7_begin 20 (l0 :: l1 :: some (.int x) :: lt) (.int x :: st) σ Q := X_iloadn kX7_begin_19 rfl
theorem kX7_begin_20 : aCode iX7_begin 20 = some (.invokevirtual 129, 3) := by decide +kernel
theorem sX7_begin_20 {d : Nat} {σ : aS} {Q : aQ} {b : Nat} {p0 : Int32} {p1 : Int32} {ls : aL} : aX (d + 1) iX7_begin 20 (ls) (.int p1 :: .int p0 :: .ref b :: []) σ Q ↔ aIs σ b 7 ∧ aX d iX7_begun 0 [some (.ref b), some (.int p0), some (.int p1), none] [] σ (fun r τ => aX (d + 1) iX7_begin 23 (ls) (aret r ([])) τ Q) := X_invv (N := 2) (As := [.int p1, .int p0]) (w := 758) kX7_begin_20 (by decide +kernel) (by decide +kernel) rfl rfl (by simp only [List.length_cons, List.length_nil]; omega) (by simp only [List.length_cons, List.length_nil]; omega) (by decide +kernel) rfl (Nat.le_of_ble_eq_true rfl)
theorem kX7_begin_23 : aCode iX7_begin 23 = some (.ireturn, 1) := by decide +kernel
theorem sX7_begin_23 {d : Nat} {σ : aS} {Q : aQ} {v : Int32} {ls : aL} : aX d iX7_begin 23 (ls) ([.int v]) σ Q ↔ Q (some (.int v)) σ := X_iret kX7_begin_23 (by decide +kernel)
theorem kX7_whyNotTold_0 : aCode iX7_whyNotTold 0 = some (.aload_n 0, 1) := by decide +kernel
theorem sX7_whyNotTold_0 {d : Nat} {σ : aS} {Q : aQ} {x : Nat} {lt : aL} {st : List Value} : aX d iX7_whyNotTold 0 (some (.ref x) :: lt) (st) σ Q ↔ aX d iX7_whyNotTold 1 (some (.ref x) :: lt) (.ref x :: st) σ Q := X_aloadn kX7_whyNotTold_0 rfl rfl
theorem kX7_whyNotTold_1 : aCode iX7_whyNotTold 1 = some (.iload_n 1, 1) := by decide +kernel
theorem sX7_whyNotTold_1 {d : Nat} {σ : aS} {Q : aQ} {l0 : Option Value} {x : Int32} {lt : aL} {st : List Value} : aX d iX7_whyNotTold 1 (l0 :: some (.int x) :: lt) (st) σ Q ↔ aX d iX7_whyNotTold 2 (l0 :: some (.int x) :: lt) (.int x :: st) σ Q := X_iloadn kX7_whyNotTold_1 rfl
theorem kX7_whyNotTold_2 : aCode iX7_whyNotTold 2 = some (.invokevirtual 132, 3) := by decide +kernel
theorem sX7_whyNotTold_2 {d : Nat} {σ : aS} {Q : aQ} {b : Nat} {p0 : Int32} {ls : aL} : aX (d + 1) iX7_whyNotTold 2 (ls) (.int p0 :: .ref b :: []) σ Q ↔ aIs σ b 7 ∧ aX d iX7_isAlbum 0 [some (.ref b), some (.int p0)] [] σ (fun r τ => aX (d + 1) iX7_whyNotTold 5 (ls) (aret r ([])) τ Q) := X_invv (N := 1) (As := [.int p0]) (w := 782) kX7_whyNotTold_2 (by decide +kernel) (by decide +kernel) rfl rfl (by simp only [List.length_cons, List.length_nil]; omega) (by simp only [List.length_cons, List.length_nil]; omega) (by decide +kernel) rfl (Nat.le_of_ble_eq_true rfl)
theorem kX7_whyNotTold_5 : aCode iX7_whyNotTold 5 = some (.ifCond .ne 5, 3) := by decide +kernel
theorem sX7_whyNotTold_5 {d : Nat} {σ : aS} {Q : aQ} {x : Int32} {ls : aL} {st : List Value} : aX d iX7_whyNotTold 5 (ls) (.int x :: st) σ Q ↔ (if ¬ x = nI 0 then aX d iX7_whyNotTold 10 (ls) (st) σ Q else aX d iX7_whyNotTold 8 (ls) (st) σ Q) := by rw [X_if kX7_whyNotTold_5 (t := 10) (by decide)]; simp only [aCmp_ne]
theorem kX7_whyNotTold_8 : aCode iX7_whyNotTold 8 = some (.iconst (-1), 1) := by decide +kernel
theorem sX7_whyNotTold_8 {d : Nat} {σ : aS} {Q : aQ} {ls : aL} {st : List Value} : aX d iX7_whyNotTold 8 (ls) (st) σ Q ↔ aX d iX7_whyNotTold 9 (ls) (.int ((-1)) :: st) σ Q := X_iconst kX7_whyNotTold_8 (by decide +kernel)
theorem kX7_whyNotTold_9 : aCode iX7_whyNotTold 9 = some (.ireturn, 1) := by decide +kernel
theorem sX7_whyNotTold_9 {d : Nat} {σ : aS} {Q : aQ} {v : Int32} {ls : aL} : aX d iX7_whyNotTold 9 (ls) ([.int v]) σ Q ↔ Q (some (.int v)) σ := X_iret kX7_whyNotTold_9 (by decide +kernel)
theorem kX7_whyNotTold_10 : aCode iX7_whyNotTold 10 = some (.aload_n 0, 1) := by decide +kernel
theorem sX7_whyNotTold_10 {d : Nat} {σ : aS} {Q : aQ} {x : Nat} {lt : aL} {st : List Value} : aX d iX7_whyNotTold 10 (some (.ref x) :: lt) (st) σ Q ↔ aX d iX7_whyNotTold 11 (some (.ref x) :: lt) (.ref x :: st) σ Q := X_aloadn kX7_whyNotTold_10 rfl rfl
theorem kX7_whyNotTold_11 : aCode iX7_whyNotTold 11 = some (.iload_n 1, 1) := by decide +kernel
theorem sX7_whyNotTold_11 {d : Nat} {σ : aS} {Q : aQ} {l0 : Option Value} {x : Int32} {lt : aL} {st : List Value} : aX d iX7_whyNotTold 11 (l0 :: some (.int x) :: lt) (st) σ Q ↔ aX d iX7_whyNotTold 12 (l0 :: some (.int x) :: lt) (.int x :: st) σ Q := X_iloadn kX7_whyNotTold_11 rfl
theorem kX7_whyNotTold_12 : aCode iX7_whyNotTold 12 = some (.iconst 1, 1) := by decide +kernel
theorem sX7_whyNotTold_12 {d : Nat} {σ : aS} {Q : aQ} {ls : aL} {st : List Value} : aX d iX7_whyNotTold 12 (ls) (st) σ Q ↔ aX d iX7_whyNotTold 13 (ls) (.int (nI 1) :: st) σ Q := X_iconst kX7_whyNotTold_12 (by decide +kernel)
theorem kX7_whyNotTold_13 : aCode iX7_whyNotTold 13 = some (.invokevirtual 40, 3) := by decide +kernel
theorem sX7_whyNotTold_13 {d : Nat} {σ : aS} {Q : aQ} {b : Nat} {p0 : Int32} {p1 : Int32} {ls : aL} : aX (d + 1) iX7_whyNotTold 13 (ls) (.int p1 :: .int p0 :: .ref b :: []) σ Q ↔ aIs σ b 7 ∧ aX d iX7_part 0 [some (.ref b), some (.int p0), some (.int p1)] [] σ (fun r τ => aX (d + 1) iX7_whyNotTold 16 (ls) (aret r ([])) τ Q) := X_invv (N := 2) (As := [.int p1, .int p0]) (w := 750) kX7_whyNotTold_13 (by decide +kernel) (by decide +kernel) rfl rfl (by simp only [List.length_cons, List.length_nil]; omega) (by simp only [List.length_cons, List.length_nil]; omega) (by decide +kernel) rfl (Nat.le_of_ble_eq_true rfl)
theorem kX7_whyNotTold_16 : aCode iX7_whyNotTold 16 = some (.iconst 2, 1) := by decide +kernel
theorem sX7_whyNotTold_16 {d : Nat} {σ : aS} {Q : aQ} {ls : aL} {st : List Value} : aX d iX7_whyNotTold 16 (ls) (st) σ Q ↔ aX d iX7_whyNotTold 17 (ls) (.int (nI 2) :: st) σ Q := X_iconst kX7_whyNotTold_16 (by decide +kernel)
theorem kX7_whyNotTold_17 : aCode iX7_whyNotTold 17 = some (.irem, 1) := by decide +kernel
theorem sX7_whyNotTold_17 {d : Nat} {σ : aS} {Q : aQ} {x y : Int32} {ls : aL} {st : List Value} : aX d iX7_whyNotTold 17 (ls) (.int y :: .int x :: st) σ Q ↔ ¬ y = nI 0 ∧ aX d iX7_whyNotTold 18 (ls) (.int (x - x / y * y) :: st) σ Q := X_irem kX7_whyNotTold_17
theorem kX7_whyNotTold_18 : aCode iX7_whyNotTold 18 = some (.ifCond .ne 7, 3) := by decide +kernel
theorem sX7_whyNotTold_18 {d : Nat} {σ : aS} {Q : aQ} {x : Int32} {ls : aL} {st : List Value} : aX d iX7_whyNotTold 18 (ls) (.int x :: st) σ Q ↔ (if ¬ x = nI 0 then aX d iX7_whyNotTold 25 (ls) (st) σ Q else aX d iX7_whyNotTold 21 (ls) (st) σ Q) := by rw [X_if kX7_whyNotTold_18 (t := 25) (by decide)]; simp only [aCmp_ne]
theorem kX7_whyNotTold_21 : aCode iX7_whyNotTold 21 = some (.iconst 1, 1) := by decide +kernel
theorem sX7_whyNotTold_21 {d : Nat} {σ : aS} {Q : aQ} {ls : aL} {st : List Value} : aX d iX7_whyNotTold 21 (ls) (st) σ Q ↔ aX d iX7_whyNotTold 22 (ls) (.int (nI 1) :: st) σ Q := X_iconst kX7_whyNotTold_21 (by decide +kernel)
theorem kX7_whyNotTold_22 : aCode iX7_whyNotTold 22 = some (.goto 4, 3) := by decide +kernel
theorem sX7_whyNotTold_22 {d : Nat} {σ : aS} {Q : aQ} {ls : aL} {st : List Value} : aX d iX7_whyNotTold 22 (ls) (st) σ Q ↔ aX d iX7_whyNotTold 26 (ls) (st) σ Q := X_goto kX7_whyNotTold_22 (by decide)
theorem kX7_whyNotTold_25 : aCode iX7_whyNotTold 25 = some (.iconst 0, 1) := by decide +kernel
theorem sX7_whyNotTold_25 {d : Nat} {σ : aS} {Q : aQ} {ls : aL} {st : List Value} : aX d iX7_whyNotTold 25 (ls) (st) σ Q ↔ aX d iX7_whyNotTold 26 (ls) (.int (nI 0) :: st) σ Q := X_iconst kX7_whyNotTold_25 (by decide +kernel)
theorem kX7_whyNotTold_26 : aCode iX7_whyNotTold 26 = some (.istore_n 3, 1) := by decide +kernel
theorem sX7_whyNotTold_26 {d : Nat} {σ : aS} {Q : aQ} {l0 l1 l2 lo : Option Value} {x : Int32} {lt : aL} {st : List Value} : aX d iX7_whyNotTold 26 (l0 :: l1 :: l2 :: lo :: lt) (.int x :: st) σ Q ↔ aX d iX7_whyNotTold 27 (l0 :: l1 :: aclr l2 :: some (.int x) :: lt) (st) σ Q := X_istoren kX7_whyNotTold_26 (by simp only [List.length_cons]; omega)
theorem kX7_whyNotTold_27 : aCode iX7_whyNotTold 27 = some (.iload_n 2, 1) := by decide +kernel
theorem sX7_whyNotTold_27 {d : Nat} {σ : aS} {Q : aQ} {l0 l1 : Option Value} {x : Int32} {lt : aL} {st : List Value} : aX d iX7_whyNotTold 27 (l0 :: l1 :: some (.int x) :: lt) (st) σ Q ↔ aX d iX7_whyNotTold 28 (l0 :: l1 :: some (.int x) :: lt) (.int x :: st) σ Q := X_iloadn kX7_whyNotTold_27 rfl
theorem kX7_whyNotTold_28 : aCode iX7_whyNotTold 28 = some (.iconst 0, 1) := by decide +kernel
theorem sX7_whyNotTold_28 {d : Nat} {σ : aS} {Q : aQ} {ls : aL} {st : List Value} : aX d iX7_whyNotTold 28 (ls) (st) σ Q ↔ aX d iX7_whyNotTold 29 (ls) (.int (nI 0) :: st) σ Q := X_iconst kX7_whyNotTold_28 (by decide +kernel)
theorem kX7_whyNotTold_29 : aCode iX7_whyNotTold 29 = some (.iload_n 3, 1) := by decide +kernel
theorem sX7_whyNotTold_29 {d : Nat} {σ : aS} {Q : aQ} {l0 l1 l2 : Option Value} {x : Int32} {lt : aL} {st : List Value} : aX d iX7_whyNotTold 29 (l0 :: l1 :: l2 :: some (.int x) :: lt) (st) σ Q ↔ aX d iX7_whyNotTold 30 (l0 :: l1 :: l2 :: some (.int x) :: lt) (.int x :: st) σ Q := X_iloadn kX7_whyNotTold_29 rfl
theorem kX7_whyNotTold_30 : aCode iX7_whyNotTold 30 = some (.ifCond .eq 8, 3) := by decide +kernel
theorem sX7_whyNotTold_30 {d : Nat} {σ : aS} {Q : aQ} {x : Int32} {ls : aL} {st : List Value} : aX d iX7_whyNotTold 30 (ls) (.int x :: st) σ Q ↔ (if x = nI 0 then aX d iX7_whyNotTold 38 (ls) (st) σ Q else aX d iX7_whyNotTold 33 (ls) (st) σ Q) := by rw [X_if kX7_whyNotTold_30 (t := 38) (by decide)]; simp only [aCmp_eq]
theorem kX7_whyNotTold_33 : aCode iX7_whyNotTold 33 = some (.bipush 15, 2) := by decide +kernel
theorem sX7_whyNotTold_33 {d : Nat} {σ : aS} {Q : aQ} {ls : aL} {st : List Value} : aX d iX7_whyNotTold 33 (ls) (st) σ Q ↔ aX d iX7_whyNotTold 35 (ls) (.int (nI 15) :: st) σ Q := X_bipush kX7_whyNotTold_33 (by decide +kernel)
theorem kX7_whyNotTold_35 : aCode iX7_whyNotTold 35 = some (.goto 6, 3) := by decide +kernel
theorem sX7_whyNotTold_35 {d : Nat} {σ : aS} {Q : aQ} {ls : aL} {st : List Value} : aX d iX7_whyNotTold 35 (ls) (st) σ Q ↔ aX d iX7_whyNotTold 41 (ls) (st) σ Q := X_goto kX7_whyNotTold_35 (by decide)
theorem kX7_whyNotTold_38 : aCode iX7_whyNotTold 38 = some (.sipush 4095, 3) := by decide +kernel
theorem sX7_whyNotTold_38 {d : Nat} {σ : aS} {Q : aQ} {ls : aL} {st : List Value} : aX d iX7_whyNotTold 38 (ls) (st) σ Q ↔ aX d iX7_whyNotTold 41 (ls) (.int (nI 4095) :: st) σ Q := X_sipush kX7_whyNotTold_38 (by decide +kernel)
theorem kX7_whyNotTold_41 : aCode iX7_whyNotTold 41 = some (.invokestatic 36, 3) := by decide +kernel
theorem sX7_whyNotTold_41 {d : Nat} {σ : aS} {Q : aQ} {p0 : Int32} {p1 : Int32} {p2 : Int32} {ls : aL} : aX (d + 1) iX7_whyNotTold 41 (ls) (.int p2 :: .int p1 :: .int p0 :: []) σ Q ↔ aX d iX7_within 0 [some (.int p0), some (.int p1), some (.int p2)] [] σ (fun r τ => aX (d + 1) iX7_whyNotTold 44 (ls) (aret r ([])) τ Q) := X_invs (N := 3) (As := [.int p2, .int p1, .int p0]) (k := 1) (w := 694) kX7_whyNotTold_41 (by decide +kernel) (by decide) (by decide +kernel) rfl rfl (by simp only [List.length_cons, List.length_nil]; omega) (by simp only [List.length_cons, List.length_nil]; omega) rfl (Nat.le_of_ble_eq_true rfl)
theorem kX7_whyNotTold_44 : aCode iX7_whyNotTold 44 = some (.ifCond .ne 8, 3) := by decide +kernel
theorem sX7_whyNotTold_44 {d : Nat} {σ : aS} {Q : aQ} {x : Int32} {ls : aL} {st : List Value} : aX d iX7_whyNotTold 44 (ls) (.int x :: st) σ Q ↔ (if ¬ x = nI 0 then aX d iX7_whyNotTold 52 (ls) (st) σ Q else aX d iX7_whyNotTold 47 (ls) (st) σ Q) := by rw [X_if kX7_whyNotTold_44 (t := 52) (by decide)]; simp only [aCmp_ne]
theorem kX7_whyNotTold_47 : aCode iX7_whyNotTold 47 = some (.bipush (-2), 2) := by decide +kernel
theorem sX7_whyNotTold_47 {d : Nat} {σ : aS} {Q : aQ} {ls : aL} {st : List Value} : aX d iX7_whyNotTold 47 (ls) (st) σ Q ↔ aX d iX7_whyNotTold 49 (ls) (.int ((-2)) :: st) σ Q := X_bipush kX7_whyNotTold_47 (by decide +kernel)
theorem kX7_whyNotTold_49 : aCode iX7_whyNotTold 49 = some (.goto 17, 3) := by decide +kernel
theorem sX7_whyNotTold_49 {d : Nat} {σ : aS} {Q : aQ} {ls : aL} {st : List Value} : aX d iX7_whyNotTold 49 (ls) (st) σ Q ↔ aX d iX7_whyNotTold 66 (ls) (st) σ Q := X_goto kX7_whyNotTold_49 (by decide)
theorem kX7_whyNotTold_52 : aCode iX7_whyNotTold 52 = some (.aload_n 0, 1) := by decide +kernel
theorem sX7_whyNotTold_52 {d : Nat} {σ : aS} {Q : aQ} {x : Nat} {lt : aL} {st : List Value} : aX d iX7_whyNotTold 52 (some (.ref x) :: lt) (st) σ Q ↔ aX d iX7_whyNotTold 53 (some (.ref x) :: lt) (.ref x :: st) σ Q := X_aloadn kX7_whyNotTold_52 rfl rfl
theorem kX7_whyNotTold_53 : aCode iX7_whyNotTold 53 = some (.iload_n 1, 1) := by decide +kernel
theorem sX7_whyNotTold_53 {d : Nat} {σ : aS} {Q : aQ} {l0 : Option Value} {x : Int32} {lt : aL} {st : List Value} : aX d iX7_whyNotTold 53 (l0 :: some (.int x) :: lt) (st) σ Q ↔ aX d iX7_whyNotTold 54 (l0 :: some (.int x) :: lt) (.int x :: st) σ Q := X_iloadn kX7_whyNotTold_53 rfl
theorem kX7_whyNotTold_54 : aCode iX7_whyNotTold 54 = some (.invokevirtual 59, 3) := by decide +kernel
theorem sX7_whyNotTold_54 {d : Nat} {σ : aS} {Q : aQ} {b : Nat} {p0 : Int32} {ls : aL} : aX (d + 1) iX7_whyNotTold 54 (ls) (.int p0 :: .ref b :: []) σ Q ↔ aIs σ b 7 ∧ aX d iX7_goesRound 0 [some (.ref b), some (.int p0)] [] σ (fun r τ => aX (d + 1) iX7_whyNotTold 57 (ls) (aret r ([])) τ Q) := X_invv (N := 1) (As := [.int p0]) (w := 754) kX7_whyNotTold_54 (by decide +kernel) (by decide +kernel) rfl rfl (by simp only [List.length_cons, List.length_nil]; omega) (by simp only [List.length_cons, List.length_nil]; omega) (by decide +kernel) rfl (Nat.le_of_ble_eq_true rfl)
theorem kX7_whyNotTold_57 : aCode iX7_whyNotTold 57 = some (.ifCond .eq 7, 3) := by decide +kernel
theorem sX7_whyNotTold_57 {d : Nat} {σ : aS} {Q : aQ} {x : Int32} {ls : aL} {st : List Value} : aX d iX7_whyNotTold 57 (ls) (.int x :: st) σ Q ↔ (if x = nI 0 then aX d iX7_whyNotTold 64 (ls) (st) σ Q else aX d iX7_whyNotTold 60 (ls) (st) σ Q) := by rw [X_if kX7_whyNotTold_57 (t := 64) (by decide)]; simp only [aCmp_eq]
theorem kX7_whyNotTold_60 : aCode iX7_whyNotTold 60 = some (.iconst 0, 1) := by decide +kernel
theorem sX7_whyNotTold_60 {d : Nat} {σ : aS} {Q : aQ} {ls : aL} {st : List Value} : aX d iX7_whyNotTold 60 (ls) (st) σ Q ↔ aX d iX7_whyNotTold 61 (ls) (.int (nI 0) :: st) σ Q := X_iconst kX7_whyNotTold_60 (by decide +kernel)
theorem kX7_whyNotTold_61 : aCode iX7_whyNotTold 61 = some (.goto 5, 3) := by decide +kernel
theorem sX7_whyNotTold_61 {d : Nat} {σ : aS} {Q : aQ} {ls : aL} {st : List Value} : aX d iX7_whyNotTold 61 (ls) (st) σ Q ↔ aX d iX7_whyNotTold 66 (ls) (st) σ Q := X_goto kX7_whyNotTold_61 (by decide)
theorem kX7_whyNotTold_64 : aCode iX7_whyNotTold 64 = some (.bipush (-5), 2) := by decide +kernel
theorem sX7_whyNotTold_64 {d : Nat} {σ : aS} {Q : aQ} {ls : aL} {st : List Value} : aX d iX7_whyNotTold 64 (ls) (st) σ Q ↔ aX d iX7_whyNotTold 66 (ls) (.int ((-5)) :: st) σ Q := X_bipush kX7_whyNotTold_64 (by decide +kernel)
theorem kX7_whyNotTold_66 : aCode iX7_whyNotTold 66 = some (.ireturn, 1) := by decide +kernel
theorem sX7_whyNotTold_66 {d : Nat} {σ : aS} {Q : aQ} {v : Int32} {ls : aL} : aX d iX7_whyNotTold 66 (ls) ([.int v]) σ Q ↔ Q (some (.int v)) σ := X_iret kX7_whyNotTold_66 (by decide +kernel)
theorem kX7_tells_0 : aCode iX7_tells 0 = some (.aload_n 0, 1) := by decide +kernel
theorem sX7_tells_0 {d : Nat} {σ : aS} {Q : aQ} {x : Nat} {lt : aL} {st : List Value} : aX d iX7_tells 0 (some (.ref x) :: lt) (st) σ Q ↔ aX d iX7_tells 1 (some (.ref x) :: lt) (.ref x :: st) σ Q := X_aloadn kX7_tells_0 rfl rfl
theorem kX7_tells_1 : aCode iX7_tells 1 = some (.iload_n 1, 1) := by decide +kernel
theorem sX7_tells_1 {d : Nat} {σ : aS} {Q : aQ} {l0 : Option Value} {x : Int32} {lt : aL} {st : List Value} : aX d iX7_tells 1 (l0 :: some (.int x) :: lt) (st) σ Q ↔ aX d iX7_tells 2 (l0 :: some (.int x) :: lt) (.int x :: st) σ Q := X_iloadn kX7_tells_1 rfl
theorem kX7_tells_2 : aCode iX7_tells 2 = some (.iconst 3, 1) := by decide +kernel
theorem sX7_tells_2 {d : Nat} {σ : aS} {Q : aQ} {ls : aL} {st : List Value} : aX d iX7_tells 2 (ls) (st) σ Q ↔ aX d iX7_tells 3 (ls) (.int (nI 3) :: st) σ Q := X_iconst kX7_tells_2 (by decide +kernel)
theorem kX7_tells_3 : aCode iX7_tells 3 = some (.invokevirtual 40, 3) := by decide +kernel
theorem sX7_tells_3 {d : Nat} {σ : aS} {Q : aQ} {b : Nat} {p0 : Int32} {p1 : Int32} {ls : aL} : aX (d + 1) iX7_tells 3 (ls) (.int p1 :: .int p0 :: .ref b :: []) σ Q ↔ aIs σ b 7 ∧ aX d iX7_part 0 [some (.ref b), some (.int p0), some (.int p1)] [] σ (fun r τ => aX (d + 1) iX7_tells 6 (ls) (aret r ([])) τ Q) := X_invv (N := 2) (As := [.int p1, .int p0]) (w := 750) kX7_tells_3 (by decide +kernel) (by decide +kernel) rfl rfl (by simp only [List.length_cons, List.length_nil]; omega) (by simp only [List.length_cons, List.length_nil]; omega) (by decide +kernel) rfl (Nat.le_of_ble_eq_true rfl)
theorem kX7_tells_6 : aCode iX7_tells 6 = some (.bipush (-6), 2) := by decide +kernel
theorem sX7_tells_6 {d : Nat} {σ : aS} {Q : aQ} {ls : aL} {st : List Value} : aX d iX7_tells 6 (ls) (st) σ Q ↔ aX d iX7_tells 8 (ls) (.int ((-6)) :: st) σ Q := X_bipush kX7_tells_6 (by decide +kernel)
theorem kX7_tells_8 : aCode iX7_tells 8 = some (.if_icmp .ne 7, 3) := by decide +kernel
theorem sX7_tells_8 {d : Nat} {σ : aS} {Q : aQ} {x y : Int32} {ls : aL} {st : List Value} : aX d iX7_tells 8 (ls) (.int y :: .int x :: st) σ Q ↔ (if ¬ x = y then aX d iX7_tells 15 (ls) (st) σ Q else aX d iX7_tells 11 (ls) (st) σ Q) := by rw [X_icmp kX7_tells_8 (t := 15) (by decide)]; simp only [aCmp_ne]
theorem kX7_tells_11 : aCode iX7_tells 11 = some (.iconst 0, 1) := by decide +kernel
theorem sX7_tells_11 {d : Nat} {σ : aS} {Q : aQ} {ls : aL} {st : List Value} : aX d iX7_tells 11 (ls) (st) σ Q ↔ aX d iX7_tells 12 (ls) (.int (nI 0) :: st) σ Q := X_iconst kX7_tells_11 (by decide +kernel)
theorem kX7_tells_12 : aCode iX7_tells 12 = some (.goto 4, 3) := by decide +kernel
theorem sX7_tells_12 {d : Nat} {σ : aS} {Q : aQ} {ls : aL} {st : List Value} : aX d iX7_tells 12 (ls) (st) σ Q ↔ aX d iX7_tells 16 (ls) (st) σ Q := X_goto kX7_tells_12 (by decide)
theorem kX7_tells_15 : aCode iX7_tells 15 = some (.iconst 1, 1) := by decide +kernel
theorem sX7_tells_15 {d : Nat} {σ : aS} {Q : aQ} {ls : aL} {st : List Value} : aX d iX7_tells 15 (ls) (st) σ Q ↔ aX d iX7_tells 16 (ls) (.int (nI 1) :: st) σ Q := X_iconst kX7_tells_15 (by decide +kernel)
theorem kX7_tells_16 : aCode iX7_tells 16 = some (.istore_n 3, 1) := by decide +kernel
theorem sX7_tells_16 {d : Nat} {σ : aS} {Q : aQ} {l0 l1 l2 lo : Option Value} {x : Int32} {lt : aL} {st : List Value} : aX d iX7_tells 16 (l0 :: l1 :: l2 :: lo :: lt) (.int x :: st) σ Q ↔ aX d iX7_tells 17 (l0 :: l1 :: aclr l2 :: some (.int x) :: lt) (st) σ Q := X_istoren kX7_tells_16 (by simp only [List.length_cons]; omega)
theorem kX7_tells_17 : aCode iX7_tells 17 = some (.aload_n 0, 1) := by decide +kernel
theorem sX7_tells_17 {d : Nat} {σ : aS} {Q : aQ} {x : Nat} {lt : aL} {st : List Value} : aX d iX7_tells 17 (some (.ref x) :: lt) (st) σ Q ↔ aX d iX7_tells 18 (some (.ref x) :: lt) (.ref x :: st) σ Q := X_aloadn kX7_tells_17 rfl rfl
theorem kX7_tells_18 : aCode iX7_tells 18 = some (.iload_n 1, 1) := by decide +kernel
theorem sX7_tells_18 {d : Nat} {σ : aS} {Q : aQ} {l0 : Option Value} {x : Int32} {lt : aL} {st : List Value} : aX d iX7_tells 18 (l0 :: some (.int x) :: lt) (st) σ Q ↔ aX d iX7_tells 19 (l0 :: some (.int x) :: lt) (.int x :: st) σ Q := X_iloadn kX7_tells_18 rfl
theorem kX7_tells_19 : aCode iX7_tells 19 = some (.iconst 3, 1) := by decide +kernel
theorem sX7_tells_19 {d : Nat} {σ : aS} {Q : aQ} {ls : aL} {st : List Value} : aX d iX7_tells 19 (ls) (st) σ Q ↔ aX d iX7_tells 20 (ls) (.int (nI 3) :: st) σ Q := X_iconst kX7_tells_19 (by decide +kernel)
theorem kX7_tells_20 : aCode iX7_tells 20 = some (.iload_n 2, 1) := by decide +kernel
theorem sX7_tells_20 {d : Nat} {σ : aS} {Q : aQ} {l0 l1 : Option Value} {x : Int32} {lt : aL} {st : List Value} : aX d iX7_tells 20 (l0 :: l1 :: some (.int x) :: lt) (st) σ Q ↔ aX d iX7_tells 21 (l0 :: l1 :: some (.int x) :: lt) (.int x :: st) σ Q := X_iloadn kX7_tells_20 rfl
theorem kX7_tells_21 : aCode iX7_tells 21 = some (.invokevirtual 44, 3) := by decide +kernel
theorem sX7_tells_21 {d : Nat} {σ : aS} {Q : aQ} {b : Nat} {p0 : Int32} {p1 : Int32} {p2 : Int32} {ls : aL} : aX (d + 1) iX7_tells 21 (ls) (.int p2 :: .int p1 :: .int p0 :: .ref b :: []) σ Q ↔ aIs σ b 7 ∧ aX d iX7_setPart 0 [some (.ref b), some (.int p0), some (.int p1), some (.int p2)] [] σ (fun r τ => aX (d + 1) iX7_tells 24 (ls) (aret r ([])) τ Q) := X_invv (N := 3) (As := [.int p2, .int p1, .int p0]) (w := 766) kX7_tells_21 (by decide +kernel) (by decide +kernel) rfl rfl (by simp only [List.length_cons, List.length_nil]; omega) (by simp only [List.length_cons, List.length_nil]; omega) (by decide +kernel) rfl (Nat.le_of_ble_eq_true rfl)
theorem kX7_tells_24 : aCode iX7_tells 24 = some (.iload_n 3, 1) := by decide +kernel
theorem sX7_tells_24 {d : Nat} {σ : aS} {Q : aQ} {l0 l1 l2 : Option Value} {x : Int32} {lt : aL} {st : List Value} : aX d iX7_tells 24 (l0 :: l1 :: l2 :: some (.int x) :: lt) (st) σ Q ↔ aX d iX7_tells 25 (l0 :: l1 :: l2 :: some (.int x) :: lt) (.int x :: st) σ Q := X_iloadn kX7_tells_24 rfl
theorem kX7_tells_25 : aCode iX7_tells 25 = some (.ireturn, 1) := by decide +kernel
theorem sX7_tells_25 {d : Nat} {σ : aS} {Q : aQ} {v : Int32} {ls : aL} : aX d iX7_tells 25 (ls) ([.int v]) σ Q ↔ Q (some (.int v)) σ := X_iret kX7_tells_25 (by decide +kernel)
theorem kX7_tell_0 : aCode iX7_tell 0 = some (.aload_n 0, 1) := by decide +kernel
theorem sX7_tell_0 {d : Nat} {σ : aS} {Q : aQ} {x : Nat} {lt : aL} {st : List Value} : aX d iX7_tell 0 (some (.ref x) :: lt) (st) σ Q ↔ aX d iX7_tell 1 (some (.ref x) :: lt) (.ref x :: st) σ Q := X_aloadn kX7_tell_0 rfl rfl
theorem kX7_tell_1 : aCode iX7_tell 1 = some (.iload_n 1, 1) := by decide +kernel
theorem sX7_tell_1 {d : Nat} {σ : aS} {Q : aQ} {l0 : Option Value} {x : Int32} {lt : aL} {st : List Value} : aX d iX7_tell 1 (l0 :: some (.int x) :: lt) (st) σ Q ↔ aX d iX7_tell 2 (l0 :: some (.int x) :: lt) (.int x :: st) σ Q := X_iloadn kX7_tell_1 rfl
theorem kX7_tell_2 : aCode iX7_tell 2 = some (.iload_n 2, 1) := by decide +kernel
theorem sX7_tell_2 {d : Nat} {σ : aS} {Q : aQ} {l0 l1 : Option Value} {x : Int32} {lt : aL} {st : List Value} : aX d iX7_tell 2 (l0 :: l1 :: some (.int x) :: lt) (st) σ Q ↔ aX d iX7_tell 3 (l0 :: l1 :: some (.int x) :: lt) (.int x :: st) σ Q := X_iloadn kX7_tell_2 rfl
theorem kX7_tell_3 : aCode iX7_tell 3 = some (.invokevirtual 135, 3) := by decide +kernel
theorem sX7_tell_3 {d : Nat} {σ : aS} {Q : aQ} {b : Nat} {p0 : Int32} {p1 : Int32} {ls : aL} : aX (d + 1) iX7_tell 3 (ls) (.int p1 :: .int p0 :: .ref b :: []) σ Q ↔ aIs σ b 7 ∧ aX d iX7_whyNotTold 0 [some (.ref b), some (.int p0), some (.int p1), none] [] σ (fun r τ => aX (d + 1) iX7_tell 6 (ls) (aret r ([])) τ Q) := X_invv (N := 2) (As := [.int p1, .int p0]) (w := 778) kX7_tell_3 (by decide +kernel) (by decide +kernel) rfl rfl (by simp only [List.length_cons, List.length_nil]; omega) (by simp only [List.length_cons, List.length_nil]; omega) (by decide +kernel) rfl (Nat.le_of_ble_eq_true rfl)
theorem kX7_tell_6 : aCode iX7_tell 6 = some (.istore_n 3, 1) := by decide +kernel
theorem sX7_tell_6 {d : Nat} {σ : aS} {Q : aQ} {l0 l1 l2 lo : Option Value} {x : Int32} {lt : aL} {st : List Value} : aX d iX7_tell 6 (l0 :: l1 :: l2 :: lo :: lt) (.int x :: st) σ Q ↔ aX d iX7_tell 7 (l0 :: l1 :: aclr l2 :: some (.int x) :: lt) (st) σ Q := X_istoren kX7_tell_6 (by simp only [List.length_cons]; omega)
theorem kX7_tell_7 : aCode iX7_tell 7 = some (.iload_n 3, 1) := by decide +kernel
theorem sX7_tell_7 {d : Nat} {σ : aS} {Q : aQ} {l0 l1 l2 : Option Value} {x : Int32} {lt : aL} {st : List Value} : aX d iX7_tell 7 (l0 :: l1 :: l2 :: some (.int x) :: lt) (st) σ Q ↔ aX d iX7_tell 8 (l0 :: l1 :: l2 :: some (.int x) :: lt) (.int x :: st) σ Q := X_iloadn kX7_tell_7 rfl
theorem kX7_tell_8 : aCode iX7_tell 8 = some (.ifCond .ge 5, 3) := by decide +kernel
theorem sX7_tell_8 {d : Nat} {σ : aS} {Q : aQ} {x : Int32} {ls : aL} {st : List Value} : aX d iX7_tell 8 (ls) (.int x :: st) σ Q ↔ (if nI 0 ≤ x then aX d iX7_tell 13 (ls) (st) σ Q else aX d iX7_tell 11 (ls) (st) σ Q) := by rw [X_if kX7_tell_8 (t := 13) (by decide)]; simp only [aCmp_ge]
theorem kX7_tell_11 : aCode iX7_tell 11 = some (.iload_n 3, 1) := by decide +kernel
theorem sX7_tell_11 {d : Nat} {σ : aS} {Q : aQ} {l0 l1 l2 : Option Value} {x : Int32} {lt : aL} {st : List Value} : aX d iX7_tell 11 (l0 :: l1 :: l2 :: some (.int x) :: lt) (st) σ Q ↔ aX d iX7_tell 12 (l0 :: l1 :: l2 :: some (.int x) :: lt) (.int x :: st) σ Q := X_iloadn kX7_tell_11 rfl
theorem kX7_tell_12 : aCode iX7_tell 12 = some (.ireturn, 1) := by decide +kernel
theorem sX7_tell_12 {d : Nat} {σ : aS} {Q : aQ} {v : Int32} {ls : aL} : aX d iX7_tell 12 (ls) ([.int v]) σ Q ↔ Q (some (.int v)) σ := X_iret kX7_tell_12 (by decide +kernel)
theorem kX7_tell_13 : aCode iX7_tell 13 = some (.aload_n 0, 1) := by decide +kernel
theorem sX7_tell_13 {d : Nat} {σ : aS} {Q : aQ} {x : Nat} {lt : aL} {st : List Value} : aX d iX7_tell 13 (some (.ref x) :: lt) (st) σ Q ↔ aX d iX7_tell 14 (some (.ref x) :: lt) (.ref x :: st) σ Q := X_aloadn kX7_tell_13 rfl rfl
theorem kX7_tell_14 : aCode iX7_tell 14 = some (.invokevirtual 102, 3) := by decide +kernel
theorem sX7_tell_14 {d : Nat} {σ : aS} {Q : aQ} {b : Nat} {ls : aL} : aX (d + 1) iX7_tell 14 (ls) (.ref b :: []) σ Q ↔ aIs σ b 7 ∧ aX d iX7_record 0 [some (.ref b), none] [] σ (fun r τ => aX (d + 1) iX7_tell 17 (ls) (aret r ([])) τ Q) := X_invv (N := 0) (As := []) (w := 697) kX7_tell_14 (by decide +kernel) (by decide +kernel) rfl rfl (by simp only [List.length_cons, List.length_nil]; omega) (by simp only [List.length_cons, List.length_nil]; omega) (by decide +kernel) rfl (Nat.le_of_ble_eq_true rfl)
theorem kX7_tell_17 : aCode iX7_tell 17 = some (.aload_n 0, 1) := by decide +kernel
theorem sX7_tell_17 {d : Nat} {σ : aS} {Q : aQ} {x : Nat} {lt : aL} {st : List Value} : aX d iX7_tell 17 (some (.ref x) :: lt) (st) σ Q ↔ aX d iX7_tell 18 (some (.ref x) :: lt) (.ref x :: st) σ Q := X_aloadn kX7_tell_17 rfl rfl
theorem kX7_tell_18 : aCode iX7_tell 18 = some (.iload_n 1, 1) := by decide +kernel
theorem sX7_tell_18 {d : Nat} {σ : aS} {Q : aQ} {l0 : Option Value} {x : Int32} {lt : aL} {st : List Value} : aX d iX7_tell 18 (l0 :: some (.int x) :: lt) (st) σ Q ↔ aX d iX7_tell 19 (l0 :: some (.int x) :: lt) (.int x :: st) σ Q := X_iloadn kX7_tell_18 rfl
theorem kX7_tell_19 : aCode iX7_tell 19 = some (.iload_n 2, 1) := by decide +kernel
theorem sX7_tell_19 {d : Nat} {σ : aS} {Q : aQ} {l0 l1 : Option Value} {x : Int32} {lt : aL} {st : List Value} : aX d iX7_tell 19 (l0 :: l1 :: some (.int x) :: lt) (st) σ Q ↔ aX d iX7_tell 20 (l0 :: l1 :: some (.int x) :: lt) (.int x :: st) σ Q := X_iloadn kX7_tell_19 rfl
theorem kX7_tell_20 : aCode iX7_tell 20 = some (.invokevirtual 138, 3) := by decide +kernel
theorem sX7_tell_20 {d : Nat} {σ : aS} {Q : aQ} {b : Nat} {p0 : Int32} {p1 : Int32} {ls : aL} : aX (d + 1) iX7_tell 20 (ls) (.int p1 :: .int p0 :: .ref b :: []) σ Q ↔ aIs σ b 7 ∧ aX d iX7_tells 0 [some (.ref b), some (.int p0), some (.int p1), none] [] σ (fun r τ => aX (d + 1) iX7_tell 23 (ls) (aret r ([])) τ Q) := X_invv (N := 2) (As := [.int p1, .int p0]) (w := 786) kX7_tell_20 (by decide +kernel) (by decide +kernel) rfl rfl (by simp only [List.length_cons, List.length_nil]; omega) (by simp only [List.length_cons, List.length_nil]; omega) (by decide +kernel) rfl (Nat.le_of_ble_eq_true rfl)
theorem kX7_tell_23 : aCode iX7_tell 23 = some (.ireturn, 1) := by decide +kernel
theorem sX7_tell_23 {d : Nat} {σ : aS} {Q : aQ} {v : Int32} {ls : aL} : aX d iX7_tell 23 (ls) ([.int v]) σ Q ↔ Q (some (.int v)) σ := X_iret kX7_tell_23 (by decide +kernel)
theorem kX7_round_0 : aCode iX7_round 0 = some (.aload_n 0, 1) := by decide +kernel
theorem sX7_round_0 {d : Nat} {σ : aS} {Q : aQ} {x : Nat} {lt : aL} {st : List Value} : aX d iX7_round 0 (some (.ref x) :: lt) (st) σ Q ↔ aX d iX7_round 1 (some (.ref x) :: lt) (.ref x :: st) σ Q := X_aloadn kX7_round_0 rfl rfl
theorem kX7_round_1 : aCode iX7_round 1 = some (.invokevirtual 102, 3) := by decide +kernel
theorem sX7_round_1 {d : Nat} {σ : aS} {Q : aQ} {b : Nat} {ls : aL} : aX (d + 1) iX7_round 1 (ls) (.ref b :: []) σ Q ↔ aIs σ b 7 ∧ aX d iX7_record 0 [some (.ref b), none] [] σ (fun r τ => aX (d + 1) iX7_round 4 (ls) (aret r ([])) τ Q) := X_invv (N := 0) (As := []) (w := 697) kX7_round_1 (by decide +kernel) (by decide +kernel) rfl rfl (by simp only [List.length_cons, List.length_nil]; omega) (by simp only [List.length_cons, List.length_nil]; omega) (by decide +kernel) rfl (Nat.le_of_ble_eq_true rfl)
theorem kX7_round_4 : aCode iX7_round 4 = some (.aload_n 0, 1) := by decide +kernel
theorem sX7_round_4 {d : Nat} {σ : aS} {Q : aQ} {x : Nat} {lt : aL} {st : List Value} : aX d iX7_round 4 (some (.ref x) :: lt) (st) σ Q ↔ aX d iX7_round 5 (some (.ref x) :: lt) (.ref x :: st) σ Q := X_aloadn kX7_round_4 rfl rfl
theorem kX7_round_5 : aCode iX7_round 5 = some (.invokevirtual 141, 3) := by decide +kernel
theorem sX7_round_5 {d : Nat} {σ : aS} {Q : aQ} {b : Nat} {ls : aL} : aX (d + 1) iX7_round 5 (ls) (.ref b :: []) σ Q ↔ aIs σ b 7 ∧ aX d iX7_makesRound 0 [some (.ref b), none, none] [] σ (fun r τ => aX (d + 1) iX7_round 8 (ls) (aret r ([])) τ Q) := X_invv (N := 0) (As := []) (w := 794) kX7_round_5 (by decide +kernel) (by decide +kernel) rfl rfl (by simp only [List.length_cons, List.length_nil]; omega) (by simp only [List.length_cons, List.length_nil]; omega) (by decide +kernel) rfl (Nat.le_of_ble_eq_true rfl)
theorem kX7_round_8 : aCode iX7_round 8 = some (.aload_n 0, 1) := by decide +kernel
theorem sX7_round_8 {d : Nat} {σ : aS} {Q : aQ} {x : Nat} {lt : aL} {st : List Value} : aX d iX7_round 8 (some (.ref x) :: lt) (st) σ Q ↔ aX d iX7_round 9 (some (.ref x) :: lt) (.ref x :: st) σ Q := X_aloadn kX7_round_8 rfl rfl
theorem kX7_round_9 : aCode iX7_round 9 = some (.iconst 0, 1) := by decide +kernel
theorem sX7_round_9 {d : Nat} {σ : aS} {Q : aQ} {ls : aL} {st : List Value} : aX d iX7_round 9 (ls) (st) σ Q ↔ aX d iX7_round 10 (ls) (.int (nI 0) :: st) σ Q := X_iconst kX7_round_9 (by decide +kernel)
theorem kX7_round_10 : aCode iX7_round 10 = some (.invokevirtual 144, 3) := by decide +kernel
theorem sX7_round_10 {d : Nat} {σ : aS} {Q : aQ} {b : Nat} {p0 : Int32} {ls : aL} : aX (d + 1) iX7_round 10 (ls) (.int p0 :: .ref b :: []) σ Q ↔ aIs σ b 7 ∧ aX d iX7_withHow 0 [some (.ref b), some (.int p0), none, none] [] σ (fun r τ => aX (d + 1) iX7_round 13 (ls) (aret r ([])) τ Q) := X_invv (N := 1) (As := [.int p0]) (w := 842) kX7_round_10 (by decide +kernel) (by decide +kernel) rfl rfl (by simp only [List.length_cons, List.length_nil]; omega) (by simp only [List.length_cons, List.length_nil]; omega) (by decide +kernel) rfl (Nat.le_of_ble_eq_true rfl)
theorem kX7_round_13 : aCode iX7_round 13 = some (.ireturn, 1) := by decide +kernel
theorem sX7_round_13 {d : Nat} {σ : aS} {Q : aQ} {v : Int32} {ls : aL} : aX d iX7_round 13 (ls) ([.int v]) σ Q ↔ Q (some (.int v)) σ := X_iret kX7_round_13 (by decide +kernel)
theorem kX7_cleared_0 : aCode iX7_cleared 0 = some (.iconst 0, 1) := by decide +kernel
theorem sX7_cleared_0 {d : Nat} {σ : aS} {Q : aQ} {ls : aL} {st : List Value} : aX d iX7_cleared 0 (ls) (st) σ Q ↔ aX d iX7_cleared 1 (ls) (.int (nI 0) :: st) σ Q := X_iconst kX7_cleared_0 (by decide +kernel)
theorem kX7_cleared_1 : aCode iX7_cleared 1 = some (.istore_n 1, 1) := by decide +kernel
theorem sX7_cleared_1 {d : Nat} {σ : aS} {Q : aQ} {l0 lo : Option Value} {x : Int32} {lt : aL} {st : List Value} : aX d iX7_cleared 1 (l0 :: lo :: lt) (.int x :: st) σ Q ↔ aX d iX7_cleared 2 (aclr l0 :: some (.int x) :: lt) (st) σ Q := X_istoren kX7_cleared_1 (by simp only [List.length_cons]; omega)
theorem kX7_cleared_2 : aCode iX7_cleared 2 = some (.iconst 0, 1) := by decide +kernel
theorem sX7_cleared_2 {d : Nat} {σ : aS} {Q : aQ} {ls : aL} {st : List Value} : aX d iX7_cleared 2 (ls) (st) σ Q ↔ aX d iX7_cleared 3 (ls) (.int (nI 0) :: st) σ Q := X_iconst kX7_cleared_2 (by decide +kernel)
theorem kX7_cleared_3 : aCode iX7_cleared 3 = some (.istore_n 2, 1) := by decide +kernel
theorem sX7_cleared_3 {d : Nat} {σ : aS} {Q : aQ} {l0 l1 lo : Option Value} {x : Int32} {lt : aL} {st : List Value} : aX d iX7_cleared 3 (l0 :: l1 :: lo :: lt) (.int x :: st) σ Q ↔ aX d iX7_cleared 4 (l0 :: aclr l1 :: some (.int x) :: lt) (st) σ Q := X_istoren kX7_cleared_3 (by simp only [List.length_cons]; omega)
theorem kX7_cleared_4 : aCode iX7_cleared 4 = some (.iload_n 2, 1) := by decide +kernel
theorem sX7_cleared_4 {d : Nat} {σ : aS} {Q : aQ} {l0 l1 : Option Value} {x : Int32} {lt : aL} {st : List Value} : aX d iX7_cleared 4 (l0 :: l1 :: some (.int x) :: lt) (st) σ Q ↔ aX d iX7_cleared 5 (l0 :: l1 :: some (.int x) :: lt) (.int x :: st) σ Q := X_iloadn kX7_cleared_4 rfl
theorem kX7_cleared_5 : aCode iX7_cleared 5 = some (.aload_n 0, 1) := by decide +kernel
theorem sX7_cleared_5 {d : Nat} {σ : aS} {Q : aQ} {x : Nat} {lt : aL} {st : List Value} : aX d iX7_cleared 5 (some (.ref x) :: lt) (st) σ Q ↔ aX d iX7_cleared 6 (some (.ref x) :: lt) (.ref x :: st) σ Q := X_aloadn kX7_cleared_5 rfl rfl
theorem kX7_cleared_6 : aCode iX7_cleared 6 = some (.getfield 7, 3) := by decide +kernel
theorem sX7_cleared_6 {d : Nat} {σ : aS} {Q : aQ} {a : Nat} {ls : aL} {st : List Value} : aX d iX7_cleared 6 (ls) (.ref a :: st) σ Q ↔ ∃ v, aFld σ a 7 0 = some v ∧ aX d iX7_cleared 9 (ls) (v :: st) σ Q := X_getf (w := 650) kX7_cleared_6 (by decide +kernel)
theorem kX7_cleared_9 : aCode iX7_cleared 9 = some (.bipush 34, 2) := by decide +kernel
theorem sX7_cleared_9 {d : Nat} {σ : aS} {Q : aQ} {ls : aL} {st : List Value} : aX d iX7_cleared 9 (ls) (st) σ Q ↔ aX d iX7_cleared 11 (ls) (.int (nI 34) :: st) σ Q := X_bipush kX7_cleared_9 (by decide +kernel)
theorem kX7_cleared_11 : aCode iX7_cleared 11 = some (.iaload, 1) := by decide +kernel
theorem sX7_cleared_11 {d : Nat} {σ : aS} {Q : aQ} {a : Nat} {i : Int32} {ls : aL} {st : List Value} : aX d iX7_cleared 11 (ls) (.int i :: .ref a :: st) σ Q ↔ ∃ x, aRowR σ a = some x ∧ vp_in i x.1 ∧ aX d iX7_cleared 12 (ls) (.int (x.2 i.toNatClampNeg) :: st) σ Q := X_iaload kX7_cleared_11
theorem kX7_cleared_12 : aCode iX7_cleared 12 = some (.if_icmp .ge 46, 3) := by decide +kernel
theorem sX7_cleared_12 {d : Nat} {σ : aS} {Q : aQ} {x y : Int32} {ls : aL} {st : List Value} : aX d iX7_cleared 12 (ls) (.int y :: .int x :: st) σ Q ↔ (if y ≤ x then aX d iX7_cleared 58 (ls) (st) σ Q else aX d iX7_cleared 15 (ls) (st) σ Q) := by rw [X_icmp kX7_cleared_12 (t := 58) (by decide)]; simp only [aCmp_ge]
theorem kX7_cleared_15 : aCode iX7_cleared 15 = some (.aload_n 0, 1) := by decide +kernel
theorem sX7_cleared_15 {d : Nat} {σ : aS} {Q : aQ} {x : Nat} {lt : aL} {st : List Value} : aX d iX7_cleared 15 (some (.ref x) :: lt) (st) σ Q ↔ aX d iX7_cleared 16 (some (.ref x) :: lt) (.ref x :: st) σ Q := X_aloadn kX7_cleared_15 rfl rfl
theorem kX7_cleared_16 : aCode iX7_cleared 16 = some (.iload_n 2, 1) := by decide +kernel
theorem sX7_cleared_16 {d : Nat} {σ : aS} {Q : aQ} {l0 l1 : Option Value} {x : Int32} {lt : aL} {st : List Value} : aX d iX7_cleared 16 (l0 :: l1 :: some (.int x) :: lt) (st) σ Q ↔ aX d iX7_cleared 17 (l0 :: l1 :: some (.int x) :: lt) (.int x :: st) σ Q := X_iloadn kX7_cleared_16 rfl
theorem kX7_cleared_17 : aCode iX7_cleared 17 = some (.invokevirtual 59, 3) := by decide +kernel
theorem sX7_cleared_17 {d : Nat} {σ : aS} {Q : aQ} {b : Nat} {p0 : Int32} {ls : aL} : aX (d + 1) iX7_cleared 17 (ls) (.int p0 :: .ref b :: []) σ Q ↔ aIs σ b 7 ∧ aX d iX7_goesRound 0 [some (.ref b), some (.int p0)] [] σ (fun r τ => aX (d + 1) iX7_cleared 20 (ls) (aret r ([])) τ Q) := X_invv (N := 1) (As := [.int p0]) (w := 754) kX7_cleared_17 (by decide +kernel) (by decide +kernel) rfl rfl (by simp only [List.length_cons, List.length_nil]; omega) (by simp only [List.length_cons, List.length_nil]; omega) (by decide +kernel) rfl (Nat.le_of_ble_eq_true rfl)
theorem kX7_cleared_20 : aCode iX7_cleared 20 = some (.ifCond .eq 32, 3) := by decide +kernel
theorem sX7_cleared_20 {d : Nat} {σ : aS} {Q : aQ} {x : Int32} {ls : aL} {st : List Value} : aX d iX7_cleared 20 (ls) (.int x :: st) σ Q ↔ (if x = nI 0 then aX d iX7_cleared 52 (ls) (st) σ Q else aX d iX7_cleared 23 (ls) (st) σ Q) := by rw [X_if kX7_cleared_20 (t := 52) (by decide)]; simp only [aCmp_eq]
theorem kX7_cleared_23 : aCode iX7_cleared 23 = some (.iconst 0, 1) := by decide +kernel
theorem sX7_cleared_23 {d : Nat} {σ : aS} {Q : aQ} {ls : aL} {st : List Value} : aX d iX7_cleared 23 (ls) (st) σ Q ↔ aX d iX7_cleared 24 (ls) (.int (nI 0) :: st) σ Q := X_iconst kX7_cleared_23 (by decide +kernel)
theorem kX7_cleared_24 : aCode iX7_cleared 24 = some (.istore_n 3, 1) := by decide +kernel
theorem sX7_cleared_24 {d : Nat} {σ : aS} {Q : aQ} {l0 l1 l2 lo : Option Value} {x : Int32} {lt : aL} {st : List Value} : aX d iX7_cleared 24 (l0 :: l1 :: l2 :: lo :: lt) (.int x :: st) σ Q ↔ aX d iX7_cleared 25 (l0 :: l1 :: aclr l2 :: some (.int x) :: lt) (st) σ Q := X_istoren kX7_cleared_24 (by simp only [List.length_cons]; omega)
theorem kX7_cleared_25 : aCode iX7_cleared 25 = some (.iload_n 3, 1) := by decide +kernel
theorem sX7_cleared_25 {d : Nat} {σ : aS} {Q : aQ} {l0 l1 l2 : Option Value} {x : Int32} {lt : aL} {st : List Value} : aX d iX7_cleared 25 (l0 :: l1 :: l2 :: some (.int x) :: lt) (st) σ Q ↔ aX d iX7_cleared 26 (l0 :: l1 :: l2 :: some (.int x) :: lt) (.int x :: st) σ Q := X_iloadn kX7_cleared_25 rfl
theorem kX7_cleared_26 : aCode iX7_cleared 26 = some (.bipush 28, 2) := by decide +kernel
theorem sX7_cleared_26 {d : Nat} {σ : aS} {Q : aQ} {ls : aL} {st : List Value} : aX d iX7_cleared 26 (ls) (st) σ Q ↔ aX d iX7_cleared 28 (ls) (.int (nI 28) :: st) σ Q := X_bipush kX7_cleared_26 (by decide +kernel)
theorem kX7_cleared_28 : aCode iX7_cleared 28 = some (.if_icmp .ge 21, 3) := by decide +kernel
theorem sX7_cleared_28 {d : Nat} {σ : aS} {Q : aQ} {x y : Int32} {ls : aL} {st : List Value} : aX d iX7_cleared 28 (ls) (.int y :: .int x :: st) σ Q ↔ (if y ≤ x then aX d iX7_cleared 49 (ls) (st) σ Q else aX d iX7_cleared 31 (ls) (st) σ Q) := by rw [X_icmp kX7_cleared_28 (t := 49) (by decide)]; simp only [aCmp_ge]
theorem kX7_cleared_31 : aCode iX7_cleared 31 = some (.aload_n 0, 1) := by decide +kernel
theorem sX7_cleared_31 {d : Nat} {σ : aS} {Q : aQ} {x : Nat} {lt : aL} {st : List Value} : aX d iX7_cleared 31 (some (.ref x) :: lt) (st) σ Q ↔ aX d iX7_cleared 32 (some (.ref x) :: lt) (.ref x :: st) σ Q := X_aloadn kX7_cleared_31 rfl rfl
theorem kX7_cleared_32 : aCode iX7_cleared 32 = some (.iload_n 1, 1) := by decide +kernel
theorem sX7_cleared_32 {d : Nat} {σ : aS} {Q : aQ} {l0 : Option Value} {x : Int32} {lt : aL} {st : List Value} : aX d iX7_cleared 32 (l0 :: some (.int x) :: lt) (st) σ Q ↔ aX d iX7_cleared 33 (l0 :: some (.int x) :: lt) (.int x :: st) σ Q := X_iloadn kX7_cleared_32 rfl
theorem kX7_cleared_33 : aCode iX7_cleared 33 = some (.iload_n 3, 1) := by decide +kernel
theorem sX7_cleared_33 {d : Nat} {σ : aS} {Q : aQ} {l0 l1 l2 : Option Value} {x : Int32} {lt : aL} {st : List Value} : aX d iX7_cleared 33 (l0 :: l1 :: l2 :: some (.int x) :: lt) (st) σ Q ↔ aX d iX7_cleared 34 (l0 :: l1 :: l2 :: some (.int x) :: lt) (.int x :: st) σ Q := X_iloadn kX7_cleared_33 rfl
theorem kX7_cleared_34 : aCode iX7_cleared 34 = some (.aload_n 0, 1) := by decide +kernel
theorem sX7_cleared_34 {d : Nat} {σ : aS} {Q : aQ} {x : Nat} {lt : aL} {st : List Value} : aX d iX7_cleared 34 (some (.ref x) :: lt) (st) σ Q ↔ aX d iX7_cleared 35 (some (.ref x) :: lt) (.ref x :: st) σ Q := X_aloadn kX7_cleared_34 rfl rfl
theorem kX7_cleared_35 : aCode iX7_cleared 35 = some (.iload_n 2, 1) := by decide +kernel
theorem sX7_cleared_35 {d : Nat} {σ : aS} {Q : aQ} {l0 l1 : Option Value} {x : Int32} {lt : aL} {st : List Value} : aX d iX7_cleared 35 (l0 :: l1 :: some (.int x) :: lt) (st) σ Q ↔ aX d iX7_cleared 36 (l0 :: l1 :: some (.int x) :: lt) (.int x :: st) σ Q := X_iloadn kX7_cleared_35 rfl
theorem kX7_cleared_36 : aCode iX7_cleared 36 = some (.iload_n 3, 1) := by decide +kernel
theorem sX7_cleared_36 {d : Nat} {σ : aS} {Q : aQ} {l0 l1 l2 : Option Value} {x : Int32} {lt : aL} {st : List Value} : aX d iX7_cleared 36 (l0 :: l1 :: l2 :: some (.int x) :: lt) (st) σ Q ↔ aX d iX7_cleared 37 (l0 :: l1 :: l2 :: some (.int x) :: lt) (.int x :: st) σ Q := X_iloadn kX7_cleared_36 rfl
theorem kX7_cleared_37 : aCode iX7_cleared 37 = some (.invokevirtual 40, 3) := by decide +kernel
theorem sX7_cleared_37 {d : Nat} {σ : aS} {Q : aQ} {b : Nat} {p0 : Int32} {p1 : Int32} {v0 v1 v2 : Value} {ls : aL} : aX (d + 1) iX7_cleared 37 (ls) (.int p1 :: .int p0 :: .ref b :: v0 :: v1 :: v2 :: []) σ Q ↔ aIs σ b 7 ∧ aX d iX7_part 0 [some (.ref b), some (.int p0), some (.int p1)] [] σ (fun r τ => aX (d + 1) iX7_cleared 40 (ls) (aret r (v0 :: v1 :: v2 :: [])) τ Q) := X_invv (N := 2) (As := [.int p1, .int p0]) (w := 750) kX7_cleared_37 (by decide +kernel) (by decide +kernel) rfl rfl (by simp only [List.length_cons, List.length_nil]; omega) (by simp only [List.length_cons, List.length_nil]; omega) (by decide +kernel) rfl (Nat.le_of_ble_eq_true rfl)
theorem kX7_cleared_40 : aCode iX7_cleared 40 = some (.invokevirtual 44, 3) := by decide +kernel
theorem sX7_cleared_40 {d : Nat} {σ : aS} {Q : aQ} {b : Nat} {p0 : Int32} {p1 : Int32} {p2 : Int32} {ls : aL} : aX (d + 1) iX7_cleared 40 (ls) (.int p2 :: .int p1 :: .int p0 :: .ref b :: []) σ Q ↔ aIs σ b 7 ∧ aX d iX7_setPart 0 [some (.ref b), some (.int p0), some (.int p1), some (.int p2)] [] σ (fun r τ => aX (d + 1) iX7_cleared 43 (ls) (aret r ([])) τ Q) := X_invv (N := 3) (As := [.int p2, .int p1, .int p0]) (w := 766) kX7_cleared_40 (by decide +kernel) (by decide +kernel) rfl rfl (by simp only [List.length_cons, List.length_nil]; omega) (by simp only [List.length_cons, List.length_nil]; omega) (by decide +kernel) rfl (Nat.le_of_ble_eq_true rfl)
theorem kX7_cleared_43 : aCode iX7_cleared 43 = some (.iinc 3 1, 3) := by decide +kernel
theorem sX7_cleared_43 {d : Nat} {σ : aS} {Q : aQ} {l0 l1 l2 : Option Value} {x : Int32} {lt : aL} {st : List Value} : aX d iX7_cleared 43 (l0 :: l1 :: l2 :: some (.int x) :: lt) (st) σ Q ↔ aX d iX7_cleared 46 (l0 :: l1 :: aclr l2 :: some (.int (x + nI 1)) :: lt) (st) σ Q := X_iinc kX7_cleared_43 rfl (by decide +kernel)
theorem kX7_cleared_46 : aCode iX7_cleared 46 = some (.goto (-21), 3) := by decide +kernel
theorem sX7_cleared_46 {d : Nat} {σ : aS} {Q : aQ} {ls : aL} {st : List Value} : aX d iX7_cleared 46 (ls) (st) σ Q ↔ aX d iX7_cleared 25 (ls) (st) σ Q := X_goto kX7_cleared_46 (by decide)
theorem kX7_cleared_49 : aCode iX7_cleared 49 = some (.iinc 1 1, 3) := by decide +kernel
theorem sX7_cleared_49 {d : Nat} {σ : aS} {Q : aQ} {l0 : Option Value} {x : Int32} {lt : aL} {st : List Value} : aX d iX7_cleared 49 (l0 :: some (.int x) :: lt) (st) σ Q ↔ aX d iX7_cleared 52 (aclr l0 :: some (.int (x + nI 1)) :: lt) (st) σ Q := X_iinc kX7_cleared_49 rfl (by decide +kernel)
theorem kX7_cleared_52 : aCode iX7_cleared 52 = some (.iinc 2 1, 3) := by decide +kernel
theorem sX7_cleared_52 {d : Nat} {σ : aS} {Q : aQ} {l0 l1 : Option Value} {x : Int32} {lt : aL} {st : List Value} : aX d iX7_cleared 52 (l0 :: l1 :: some (.int x) :: lt) (st) σ Q ↔ aX d iX7_cleared 55 (l0 :: aclr l1 :: some (.int (x + nI 1)) :: lt) (st) σ Q := X_iinc kX7_cleared_52 rfl (by decide +kernel)
theorem kX7_cleared_55 : aCode iX7_cleared 55 = some (.goto (-51), 3) := by decide +kernel
theorem sX7_cleared_55 {d : Nat} {σ : aS} {Q : aQ} {ls : aL} {st : List Value} : aX d iX7_cleared 55 (ls) (st) σ Q ↔ aX d iX7_cleared 4 (ls) (st) σ Q := X_goto kX7_cleared_55 (by decide)
theorem kX7_cleared_58 : aCode iX7_cleared 58 = some (.aload_n 0, 1) := by decide +kernel
theorem sX7_cleared_58 {d : Nat} {σ : aS} {Q : aQ} {x : Nat} {lt : aL} {st : List Value} : aX d iX7_cleared 58 (some (.ref x) :: lt) (st) σ Q ↔ aX d iX7_cleared 59 (some (.ref x) :: lt) (.ref x :: st) σ Q := X_aloadn kX7_cleared_58 rfl rfl
theorem kX7_cleared_59 : aCode iX7_cleared 59 = some (.getfield 7, 3) := by decide +kernel
theorem sX7_cleared_59 {d : Nat} {σ : aS} {Q : aQ} {a : Nat} {ls : aL} {st : List Value} : aX d iX7_cleared 59 (ls) (.ref a :: st) σ Q ↔ ∃ v, aFld σ a 7 0 = some v ∧ aX d iX7_cleared 62 (ls) (v :: st) σ Q := X_getf (w := 650) kX7_cleared_59 (by decide +kernel)
theorem kX7_cleared_62 : aCode iX7_cleared 62 = some (.bipush 34, 2) := by decide +kernel
theorem sX7_cleared_62 {d : Nat} {σ : aS} {Q : aQ} {ls : aL} {st : List Value} : aX d iX7_cleared 62 (ls) (st) σ Q ↔ aX d iX7_cleared 64 (ls) (.int (nI 34) :: st) σ Q := X_bipush kX7_cleared_62 (by decide +kernel)
theorem kX7_cleared_64 : aCode iX7_cleared 64 = some (.iaload, 1) := by decide +kernel
theorem sX7_cleared_64 {d : Nat} {σ : aS} {Q : aQ} {a : Nat} {i : Int32} {ls : aL} {st : List Value} : aX d iX7_cleared 64 (ls) (.int i :: .ref a :: st) σ Q ↔ ∃ x, aRowR σ a = some x ∧ vp_in i x.1 ∧ aX d iX7_cleared 65 (ls) (.int (x.2 i.toNatClampNeg) :: st) σ Q := X_iaload kX7_cleared_64
theorem kX7_cleared_65 : aCode iX7_cleared 65 = some (.iload_n 1, 1) := by decide +kernel
theorem sX7_cleared_65 {d : Nat} {σ : aS} {Q : aQ} {l0 : Option Value} {x : Int32} {lt : aL} {st : List Value} : aX d iX7_cleared 65 (l0 :: some (.int x) :: lt) (st) σ Q ↔ aX d iX7_cleared 66 (l0 :: some (.int x) :: lt) (.int x :: st) σ Q := X_iloadn kX7_cleared_65 rfl
theorem kX7_cleared_66 : aCode iX7_cleared 66 = some (.isub, 1) := by decide +kernel
theorem sX7_cleared_66 {d : Nat} {σ : aS} {Q : aQ} {x y : Int32} {ls : aL} {st : List Value} : aX d iX7_cleared 66 (ls) (.int y :: .int x :: st) σ Q ↔ aX d iX7_cleared 67 (ls) (.int (x - y) :: st) σ Q := X_isub kX7_cleared_66
theorem kX7_cleared_67 : aCode iX7_cleared 67 = some (.istore_n 2, 1) := by decide +kernel
theorem sX7_cleared_67 {d : Nat} {σ : aS} {Q : aQ} {l0 l1 lo : Option Value} {x : Int32} {lt : aL} {st : List Value} : aX d iX7_cleared 67 (l0 :: l1 :: lo :: lt) (.int x :: st) σ Q ↔ aX d iX7_cleared 68 (l0 :: aclr l1 :: some (.int x) :: lt) (st) σ Q := X_istoren kX7_cleared_67 (by simp only [List.length_cons]; omega)
theorem kX7_cleared_68 : aCode iX7_cleared 68 = some (.aload_n 0, 1) := by decide +kernel
theorem sX7_cleared_68 {d : Nat} {σ : aS} {Q : aQ} {x : Nat} {lt : aL} {st : List Value} : aX d iX7_cleared 68 (some (.ref x) :: lt) (st) σ Q ↔ aX d iX7_cleared 69 (some (.ref x) :: lt) (.ref x :: st) σ Q := X_aloadn kX7_cleared_68 rfl rfl
theorem kX7_cleared_69 : aCode iX7_cleared 69 = some (.getfield 7, 3) := by decide +kernel
theorem sX7_cleared_69 {d : Nat} {σ : aS} {Q : aQ} {a : Nat} {ls : aL} {st : List Value} : aX d iX7_cleared 69 (ls) (.ref a :: st) σ Q ↔ ∃ v, aFld σ a 7 0 = some v ∧ aX d iX7_cleared 72 (ls) (v :: st) σ Q := X_getf (w := 650) kX7_cleared_69 (by decide +kernel)
theorem kX7_cleared_72 : aCode iX7_cleared 72 = some (.bipush 34, 2) := by decide +kernel
theorem sX7_cleared_72 {d : Nat} {σ : aS} {Q : aQ} {ls : aL} {st : List Value} : aX d iX7_cleared 72 (ls) (st) σ Q ↔ aX d iX7_cleared 74 (ls) (.int (nI 34) :: st) σ Q := X_bipush kX7_cleared_72 (by decide +kernel)
theorem kX7_cleared_74 : aCode iX7_cleared 74 = some (.iload_n 1, 1) := by decide +kernel
theorem sX7_cleared_74 {d : Nat} {σ : aS} {Q : aQ} {l0 : Option Value} {x : Int32} {lt : aL} {st : List Value} : aX d iX7_cleared 74 (l0 :: some (.int x) :: lt) (st) σ Q ↔ aX d iX7_cleared 75 (l0 :: some (.int x) :: lt) (.int x :: st) σ Q := X_iloadn kX7_cleared_74 rfl
theorem kX7_cleared_75 : aCode iX7_cleared 75 = some (.iastore, 1) := by decide +kernel
theorem sX7_cleared_75 {d : Nat} {σ : aS} {Q : aQ} {a : Nat} {i v : Int32} {ls : aL} {st : List Value} : aX d iX7_cleared 75 (ls) (.int v :: .int i :: .ref a :: st) σ Q ↔ ∃ x, aRow σ a = some x ∧ vp_in i x.1 ∧ aX d iX7_cleared 76 (ls) (st) (aput σ a (eI x.1 (upd x.2 i.toNatClampNeg v))) Q := X_iastore kX7_cleared_75
theorem kX7_cleared_76 : aCode iX7_cleared 76 = some (.iload_n 2, 1) := by decide +kernel
theorem sX7_cleared_76 {d : Nat} {σ : aS} {Q : aQ} {l0 l1 : Option Value} {x : Int32} {lt : aL} {st : List Value} : aX d iX7_cleared 76 (l0 :: l1 :: some (.int x) :: lt) (st) σ Q ↔ aX d iX7_cleared 77 (l0 :: l1 :: some (.int x) :: lt) (.int x :: st) σ Q := X_iloadn kX7_cleared_76 rfl
theorem kX7_cleared_77 : aCode iX7_cleared 77 = some (.ireturn, 1) := by decide +kernel
theorem sX7_cleared_77 {d : Nat} {σ : aS} {Q : aQ} {v : Int32} {ls : aL} : aX d iX7_cleared 77 (ls) ([.int v]) σ Q ↔ Q (some (.int v)) σ := X_iret kX7_cleared_77 (by decide +kernel)
theorem kX7_clear_0 : aCode iX7_clear 0 = some (.aload_n 0, 1) := by decide +kernel
theorem sX7_clear_0 {d : Nat} {σ : aS} {Q : aQ} {x : Nat} {lt : aL} {st : List Value} : aX d iX7_clear 0 (some (.ref x) :: lt) (st) σ Q ↔ aX d iX7_clear 1 (some (.ref x) :: lt) (.ref x :: st) σ Q := X_aloadn kX7_clear_0 rfl rfl
theorem kX7_clear_1 : aCode iX7_clear 1 = some (.invokevirtual 102, 3) := by decide +kernel
theorem sX7_clear_1 {d : Nat} {σ : aS} {Q : aQ} {b : Nat} {ls : aL} : aX (d + 1) iX7_clear 1 (ls) (.ref b :: []) σ Q ↔ aIs σ b 7 ∧ aX d iX7_record 0 [some (.ref b), none] [] σ (fun r τ => aX (d + 1) iX7_clear 4 (ls) (aret r ([])) τ Q) := X_invv (N := 0) (As := []) (w := 697) kX7_clear_1 (by decide +kernel) (by decide +kernel) rfl rfl (by simp only [List.length_cons, List.length_nil]; omega) (by simp only [List.length_cons, List.length_nil]; omega) (by decide +kernel) rfl (Nat.le_of_ble_eq_true rfl)
theorem kX7_clear_4 : aCode iX7_clear 4 = some (.aload_n 0, 1) := by decide +kernel
theorem sX7_clear_4 {d : Nat} {σ : aS} {Q : aQ} {x : Nat} {lt : aL} {st : List Value} : aX d iX7_clear 4 (some (.ref x) :: lt) (st) σ Q ↔ aX d iX7_clear 5 (some (.ref x) :: lt) (.ref x :: st) σ Q := X_aloadn kX7_clear_4 rfl rfl
theorem kX7_clear_5 : aCode iX7_clear 5 = some (.invokevirtual 147, 3) := by decide +kernel
theorem sX7_clear_5 {d : Nat} {σ : aS} {Q : aQ} {b : Nat} {ls : aL} : aX (d + 1) iX7_clear 5 (ls) (.ref b :: []) σ Q ↔ aIs σ b 7 ∧ aX d iX7_cleared 0 [some (.ref b), none, none, none] [] σ (fun r τ => aX (d + 1) iX7_clear 8 (ls) (aret r ([])) τ Q) := X_invv (N := 0) (As := []) (w := 850) kX7_clear_5 (by decide +kernel) (by decide +kernel) rfl rfl (by simp only [List.length_cons, List.length_nil]; omega) (by simp only [List.length_cons, List.length_nil]; omega) (by decide +kernel) rfl (Nat.le_of_ble_eq_true rfl)
theorem kX7_clear_8 : aCode iX7_clear 8 = some (.ireturn, 1) := by decide +kernel
theorem sX7_clear_8 {d : Nat} {σ : aS} {Q : aQ} {v : Int32} {ls : aL} : aX d iX7_clear 8 (ls) ([.int v]) σ Q ↔ Q (some (.int v)) σ := X_iret kX7_clear_8 (by decide +kernel)
theorem kX7_changed_0 : aCode iX7_changed 0 = some (.iconst 0, 1) := by decide +kernel
theorem sX7_changed_0 {d : Nat} {σ : aS} {Q : aQ} {ls : aL} {st : List Value} : aX d iX7_changed 0 (ls) (st) σ Q ↔ aX d iX7_changed 1 (ls) (.int (nI 0) :: st) σ Q := X_iconst kX7_changed_0 (by decide +kernel)
theorem kX7_changed_1 : aCode iX7_changed 1 = some (.istore_n 2, 1) := by decide +kernel
theorem sX7_changed_1 {d : Nat} {σ : aS} {Q : aQ} {l0 l1 lo : Option Value} {x : Int32} {lt : aL} {st : List Value} : aX d iX7_changed 1 (l0 :: l1 :: lo :: lt) (.int x :: st) σ Q ↔ aX d iX7_changed 2 (l0 :: aclr l1 :: some (.int x) :: lt) (st) σ Q := X_istoren kX7_changed_1 (by simp only [List.length_cons]; omega)
theorem kX7_changed_2 : aCode iX7_changed 2 = some (.iconst 2, 1) := by decide +kernel
theorem sX7_changed_2 {d : Nat} {σ : aS} {Q : aQ} {ls : aL} {st : List Value} : aX d iX7_changed 2 (ls) (st) σ Q ↔ aX d iX7_changed 3 (ls) (.int (nI 2) :: st) σ Q := X_iconst kX7_changed_2 (by decide +kernel)
theorem kX7_changed_3 : aCode iX7_changed 3 = some (.istore_n 3, 1) := by decide +kernel
theorem sX7_changed_3 {d : Nat} {σ : aS} {Q : aQ} {l0 l1 l2 lo : Option Value} {x : Int32} {lt : aL} {st : List Value} : aX d iX7_changed 3 (l0 :: l1 :: l2 :: lo :: lt) (.int x :: st) σ Q ↔ aX d iX7_changed 4 (l0 :: l1 :: aclr l2 :: some (.int x) :: lt) (st) σ Q := X_istoren kX7_changed_3 (by simp only [List.length_cons]; omega)
theorem kX7_changed_4 : aCode iX7_changed 4 = some (.iload_n 3, 1) := by decide +kernel
theorem sX7_changed_4 {d : Nat} {σ : aS} {Q : aQ} {l0 l1 l2 : Option Value} {x : Int32} {lt : aL} {st : List Value} : aX d iX7_changed 4 (l0 :: l1 :: l2 :: some (.int x) :: lt) (st) σ Q ↔ aX d iX7_changed 5 (l0 :: l1 :: l2 :: some (.int x) :: lt) (.int x :: st) σ Q := X_iloadn kX7_changed_4 rfl
theorem kX7_changed_5 : aCode iX7_changed 5 = some (.aload_n 0, 1) := by decide +kernel
theorem sX7_changed_5 {d : Nat} {σ : aS} {Q : aQ} {x : Nat} {lt : aL} {st : List Value} : aX d iX7_changed 5 (some (.ref x) :: lt) (st) σ Q ↔ aX d iX7_changed 6 (some (.ref x) :: lt) (.ref x :: st) σ Q := X_aloadn kX7_changed_5 rfl rfl
theorem kX7_changed_6 : aCode iX7_changed 6 = some (.iload_n 1, 1) := by decide +kernel
theorem sX7_changed_6 {d : Nat} {σ : aS} {Q : aQ} {l0 : Option Value} {x : Int32} {lt : aL} {st : List Value} : aX d iX7_changed 6 (l0 :: some (.int x) :: lt) (st) σ Q ↔ aX d iX7_changed 7 (l0 :: some (.int x) :: lt) (.int x :: st) σ Q := X_iloadn kX7_changed_6 rfl
theorem kX7_changed_7 : aCode iX7_changed 7 = some (.iconst 1, 1) := by decide +kernel
theorem sX7_changed_7 {d : Nat} {σ : aS} {Q : aQ} {ls : aL} {st : List Value} : aX d iX7_changed 7 (ls) (st) σ Q ↔ aX d iX7_changed 8 (ls) (.int (nI 1) :: st) σ Q := X_iconst kX7_changed_7 (by decide +kernel)
theorem kX7_changed_8 : aCode iX7_changed 8 = some (.invokevirtual 40, 3) := by decide +kernel
theorem sX7_changed_8 {d : Nat} {σ : aS} {Q : aQ} {b : Nat} {p0 : Int32} {p1 : Int32} {v0 : Value} {ls : aL} : aX (d + 1) iX7_changed 8 (ls) (.int p1 :: .int p0 :: .ref b :: v0 :: []) σ Q ↔ aIs σ b 7 ∧ aX d iX7_part 0 [some (.ref b), some (.int p0), some (.int p1)] [] σ (fun r τ => aX (d + 1) iX7_changed 11 (ls) (aret r (v0 :: [])) τ Q) := X_invv (N := 2) (As := [.int p1, .int p0]) (w := 750) kX7_changed_8 (by decide +kernel) (by decide +kernel) rfl rfl (by simp only [List.length_cons, List.length_nil]; omega) (by simp only [List.length_cons, List.length_nil]; omega) (by decide +kernel) rfl (Nat.le_of_ble_eq_true rfl)
theorem kX7_changed_11 : aCode iX7_changed 11 = some (.if_icmp .ge 36, 3) := by decide +kernel
theorem sX7_changed_11 {d : Nat} {σ : aS} {Q : aQ} {x y : Int32} {ls : aL} {st : List Value} : aX d iX7_changed 11 (ls) (.int y :: .int x :: st) σ Q ↔ (if y ≤ x then aX d iX7_changed 47 (ls) (st) σ Q else aX d iX7_changed 14 (ls) (st) σ Q) := by rw [X_icmp kX7_changed_11 (t := 47) (by decide)]; simp only [aCmp_ge]
theorem kX7_changed_14 : aCode iX7_changed 14 = some (.iload_n 2, 1) := by decide +kernel
theorem sX7_changed_14 {d : Nat} {σ : aS} {Q : aQ} {l0 l1 : Option Value} {x : Int32} {lt : aL} {st : List Value} : aX d iX7_changed 14 (l0 :: l1 :: some (.int x) :: lt) (st) σ Q ↔ aX d iX7_changed 15 (l0 :: l1 :: some (.int x) :: lt) (.int x :: st) σ Q := X_iloadn kX7_changed_14 rfl
theorem kX7_changed_15 : aCode iX7_changed 15 = some (.aload_n 0, 1) := by decide +kernel
theorem sX7_changed_15 {d : Nat} {σ : aS} {Q : aQ} {x : Nat} {lt : aL} {st : List Value} : aX d iX7_changed 15 (some (.ref x) :: lt) (st) σ Q ↔ aX d iX7_changed 16 (some (.ref x) :: lt) (.ref x :: st) σ Q := X_aloadn kX7_changed_15 rfl rfl
theorem kX7_changed_16 : aCode iX7_changed 16 = some (.iload_n 1, 1) := by decide +kernel
theorem sX7_changed_16 {d : Nat} {σ : aS} {Q : aQ} {l0 : Option Value} {x : Int32} {lt : aL} {st : List Value} : aX d iX7_changed 16 (l0 :: some (.int x) :: lt) (st) σ Q ↔ aX d iX7_changed 17 (l0 :: some (.int x) :: lt) (.int x :: st) σ Q := X_iloadn kX7_changed_16 rfl
theorem kX7_changed_17 : aCode iX7_changed 17 = some (.iload_n 3, 1) := by decide +kernel
theorem sX7_changed_17 {d : Nat} {σ : aS} {Q : aQ} {l0 l1 l2 : Option Value} {x : Int32} {lt : aL} {st : List Value} : aX d iX7_changed 17 (l0 :: l1 :: l2 :: some (.int x) :: lt) (st) σ Q ↔ aX d iX7_changed 18 (l0 :: l1 :: l2 :: some (.int x) :: lt) (.int x :: st) σ Q := X_iloadn kX7_changed_17 rfl
theorem kX7_changed_18 : aCode iX7_changed 18 = some (.iconst 1, 1) := by decide +kernel
theorem sX7_changed_18 {d : Nat} {σ : aS} {Q : aQ} {ls : aL} {st : List Value} : aX d iX7_changed 18 (ls) (st) σ Q ↔ aX d iX7_changed 19 (ls) (.int (nI 1) :: st) σ Q := X_iconst kX7_changed_18 (by decide +kernel)
theorem kX7_changed_19 : aCode iX7_changed 19 = some (.invokevirtual 55, 3) := by decide +kernel
theorem sX7_changed_19 {d : Nat} {σ : aS} {Q : aQ} {b : Nat} {p0 : Int32} {p1 : Int32} {p2 : Int32} {v0 : Value} {ls : aL} : aX (d + 1) iX7_changed 19 (ls) (.int p2 :: .int p1 :: .int p0 :: .ref b :: v0 :: []) σ Q ↔ aIs σ b 7 ∧ aX d iX7_pagePart 0 [some (.ref b), some (.int p0), some (.int p1), some (.int p2)] [] σ (fun r τ => aX (d + 1) iX7_changed 22 (ls) (aret r (v0 :: [])) τ Q) := X_invv (N := 3) (As := [.int p2, .int p1, .int p0]) (w := 806) kX7_changed_19 (by decide +kernel) (by decide +kernel) rfl rfl (by simp only [List.length_cons, List.length_nil]; omega) (by simp only [List.length_cons, List.length_nil]; omega) (by decide +kernel) rfl (Nat.le_of_ble_eq_true rfl)
theorem kX7_changed_22 : aCode iX7_changed 22 = some (.aload_n 0, 1) := by decide +kernel
theorem sX7_changed_22 {d : Nat} {σ : aS} {Q : aQ} {x : Nat} {lt : aL} {st : List Value} : aX d iX7_changed 22 (some (.ref x) :: lt) (st) σ Q ↔ aX d iX7_changed 23 (some (.ref x) :: lt) (.ref x :: st) σ Q := X_aloadn kX7_changed_22 rfl rfl
theorem kX7_changed_23 : aCode iX7_changed 23 = some (.iload_n 1, 1) := by decide +kernel
theorem sX7_changed_23 {d : Nat} {σ : aS} {Q : aQ} {l0 : Option Value} {x : Int32} {lt : aL} {st : List Value} : aX d iX7_changed 23 (l0 :: some (.int x) :: lt) (st) σ Q ↔ aX d iX7_changed 24 (l0 :: some (.int x) :: lt) (.int x :: st) σ Q := X_iloadn kX7_changed_23 rfl
theorem kX7_changed_24 : aCode iX7_changed 24 = some (.iload_n 3, 1) := by decide +kernel
theorem sX7_changed_24 {d : Nat} {σ : aS} {Q : aQ} {l0 l1 l2 : Option Value} {x : Int32} {lt : aL} {st : List Value} : aX d iX7_changed 24 (l0 :: l1 :: l2 :: some (.int x) :: lt) (st) σ Q ↔ aX d iX7_changed 25 (l0 :: l1 :: l2 :: some (.int x) :: lt) (.int x :: st) σ Q := X_iloadn kX7_changed_24 rfl
theorem kX7_changed_25 : aCode iX7_changed 25 = some (.iconst 2, 1) := by decide +kernel
theorem sX7_changed_25 {d : Nat} {σ : aS} {Q : aQ} {ls : aL} {st : List Value} : aX d iX7_changed 25 (ls) (st) σ Q ↔ aX d iX7_changed 26 (ls) (.int (nI 2) :: st) σ Q := X_iconst kX7_changed_25 (by decide +kernel)
theorem kX7_changed_26 : aCode iX7_changed 26 = some (.isub, 1) := by decide +kernel
theorem sX7_changed_26 {d : Nat} {σ : aS} {Q : aQ} {x y : Int32} {ls : aL} {st : List Value} : aX d iX7_changed 26 (ls) (.int y :: .int x :: st) σ Q ↔ aX d iX7_changed 27 (ls) (.int (x - y) :: st) σ Q := X_isub kX7_changed_26
theorem kX7_changed_27 : aCode iX7_changed 27 = some (.iconst 1, 1) := by decide +kernel
theorem sX7_changed_27 {d : Nat} {σ : aS} {Q : aQ} {ls : aL} {st : List Value} : aX d iX7_changed 27 (ls) (st) σ Q ↔ aX d iX7_changed 28 (ls) (.int (nI 1) :: st) σ Q := X_iconst kX7_changed_27 (by decide +kernel)
theorem kX7_changed_28 : aCode iX7_changed 28 = some (.invokevirtual 55, 3) := by decide +kernel
theorem sX7_changed_28 {d : Nat} {σ : aS} {Q : aQ} {b : Nat} {p0 : Int32} {p1 : Int32} {p2 : Int32} {v0 v1 : Value} {ls : aL} : aX (d + 1) iX7_changed 28 (ls) (.int p2 :: .int p1 :: .int p0 :: .ref b :: v0 :: v1 :: []) σ Q ↔ aIs σ b 7 ∧ aX d iX7_pagePart 0 [some (.ref b), some (.int p0), some (.int p1), some (.int p2)] [] σ (fun r τ => aX (d + 1) iX7_changed 31 (ls) (aret r (v0 :: v1 :: [])) τ Q) := X_invv (N := 3) (As := [.int p2, .int p1, .int p0]) (w := 806) kX7_changed_28 (by decide +kernel) (by decide +kernel) rfl rfl (by simp only [List.length_cons, List.length_nil]; omega) (by simp only [List.length_cons, List.length_nil]; omega) (by decide +kernel) rfl (Nat.le_of_ble_eq_true rfl)
theorem kX7_changed_31 : aCode iX7_changed 31 = some (.if_icmp .ne 7, 3) := by decide +kernel
theorem sX7_changed_31 {d : Nat} {σ : aS} {Q : aQ} {x y : Int32} {ls : aL} {st : List Value} : aX d iX7_changed 31 (ls) (.int y :: .int x :: st) σ Q ↔ (if ¬ x = y then aX d iX7_changed 38 (ls) (st) σ Q else aX d iX7_changed 34 (ls) (st) σ Q) := by rw [X_icmp kX7_changed_31 (t := 38) (by decide)]; simp only [aCmp_ne]
theorem kX7_changed_34 : aCode iX7_changed 34 = some (.iconst 0, 1) := by decide +kernel
theorem sX7_changed_34 {d : Nat} {σ : aS} {Q : aQ} {ls : aL} {st : List Value} : aX d iX7_changed 34 (ls) (st) σ Q ↔ aX d iX7_changed 35 (ls) (.int (nI 0) :: st) σ Q := X_iconst kX7_changed_34 (by decide +kernel)
theorem kX7_changed_35 : aCode iX7_changed 35 = some (.goto 4, 3) := by decide +kernel
theorem sX7_changed_35 {d : Nat} {σ : aS} {Q : aQ} {ls : aL} {st : List Value} : aX d iX7_changed 35 (ls) (st) σ Q ↔ aX d iX7_changed 39 (ls) (st) σ Q := X_goto kX7_changed_35 (by decide)
theorem kX7_changed_38 : aCode iX7_changed 38 = some (.iconst 1, 1) := by decide +kernel
theorem sX7_changed_38 {d : Nat} {σ : aS} {Q : aQ} {ls : aL} {st : List Value} : aX d iX7_changed 38 (ls) (st) σ Q ↔ aX d iX7_changed 39 (ls) (.int (nI 1) :: st) σ Q := X_iconst kX7_changed_38 (by decide +kernel)
theorem kX7_changed_39 : aCode iX7_changed 39 = some (.iadd, 1) := by decide +kernel
theorem sX7_changed_39 {d : Nat} {σ : aS} {Q : aQ} {x y : Int32} {ls : aL} {st : List Value} : aX d iX7_changed 39 (ls) (.int y :: .int x :: st) σ Q ↔ aX d iX7_changed 40 (ls) (.int (x + y) :: st) σ Q := X_iadd kX7_changed_39
theorem kX7_changed_40 : aCode iX7_changed 40 = some (.istore_n 2, 1) := by decide +kernel
theorem sX7_changed_40 {d : Nat} {σ : aS} {Q : aQ} {l0 l1 lo : Option Value} {x : Int32} {lt : aL} {st : List Value} : aX d iX7_changed 40 (l0 :: l1 :: lo :: lt) (.int x :: st) σ Q ↔ aX d iX7_changed 41 (l0 :: aclr l1 :: some (.int x) :: lt) (st) σ Q := X_istoren kX7_changed_40 (by simp only [List.length_cons]; omega)
theorem kX7_changed_41 : aCode iX7_changed 41 = some (.iinc 3 2, 3) := by decide +kernel
theorem sX7_changed_41 {d : Nat} {σ : aS} {Q : aQ} {l0 l1 l2 : Option Value} {x : Int32} {lt : aL} {st : List Value} : aX d iX7_changed 41 (l0 :: l1 :: l2 :: some (.int x) :: lt) (st) σ Q ↔ aX d iX7_changed 44 (l0 :: l1 :: aclr l2 :: some (.int (x + nI 2)) :: lt) (st) σ Q := X_iinc kX7_changed_41 rfl (by decide +kernel)
theorem kX7_changed_44 : aCode iX7_changed 44 = some (.goto (-40), 3) := by decide +kernel
theorem sX7_changed_44 {d : Nat} {σ : aS} {Q : aQ} {ls : aL} {st : List Value} : aX d iX7_changed 44 (ls) (st) σ Q ↔ aX d iX7_changed 4 (ls) (st) σ Q := X_goto kX7_changed_44 (by decide)
theorem kX7_changed_47 : aCode iX7_changed 47 = some (.iload_n 2, 1) := by decide +kernel
theorem sX7_changed_47 {d : Nat} {σ : aS} {Q : aQ} {l0 l1 : Option Value} {x : Int32} {lt : aL} {st : List Value} : aX d iX7_changed 47 (l0 :: l1 :: some (.int x) :: lt) (st) σ Q ↔ aX d iX7_changed 48 (l0 :: l1 :: some (.int x) :: lt) (.int x :: st) σ Q := X_iloadn kX7_changed_47 rfl
theorem kX7_changed_48 : aCode iX7_changed 48 = some (.ireturn, 1) := by decide +kernel
theorem sX7_changed_48 {d : Nat} {σ : aS} {Q : aQ} {v : Int32} {ls : aL} : aX d iX7_changed 48 (ls) ([.int v]) σ Q ↔ Q (some (.int v)) σ := X_iret kX7_changed_48 (by decide +kernel)
theorem kX7_apart_0 : aCode iX7_apart 0 = some (.aload_n 0, 1) := by decide +kernel
theorem sX7_apart_0 {d : Nat} {σ : aS} {Q : aQ} {x : Nat} {lt : aL} {st : List Value} : aX d iX7_apart 0 (some (.ref x) :: lt) (st) σ Q ↔ aX d iX7_apart 1 (some (.ref x) :: lt) (.ref x :: st) σ Q := X_aloadn kX7_apart_0 rfl rfl
theorem kX7_apart_1 : aCode iX7_apart 1 = some (.getfield 7, 3) := by decide +kernel
theorem sX7_apart_1 {d : Nat} {σ : aS} {Q : aQ} {a : Nat} {ls : aL} {st : List Value} : aX d iX7_apart 1 (ls) (.ref a :: st) σ Q ↔ ∃ v, aFld σ a 7 0 = some v ∧ aX d iX7_apart 4 (ls) (v :: st) σ Q := X_getf (w := 650) kX7_apart_1 (by decide +kernel)
theorem kX7_apart_4 : aCode iX7_apart 4 = some (.iconst 0, 1) := by decide +kernel
theorem sX7_apart_4 {d : Nat} {σ : aS} {Q : aQ} {ls : aL} {st : List Value} : aX d iX7_apart 4 (ls) (st) σ Q ↔ aX d iX7_apart 5 (ls) (.int (nI 0) :: st) σ Q := X_iconst kX7_apart_4 (by decide +kernel)
theorem kX7_apart_5 : aCode iX7_apart 5 = some (.iload_n 1, 1) := by decide +kernel
theorem sX7_apart_5 {d : Nat} {σ : aS} {Q : aQ} {l0 : Option Value} {x : Int32} {lt : aL} {st : List Value} : aX d iX7_apart 5 (l0 :: some (.int x) :: lt) (st) σ Q ↔ aX d iX7_apart 6 (l0 :: some (.int x) :: lt) (.int x :: st) σ Q := X_iloadn kX7_apart_5 rfl
theorem kX7_apart_6 : aCode iX7_apart 6 = some (.iadd, 1) := by decide +kernel
theorem sX7_apart_6 {d : Nat} {σ : aS} {Q : aQ} {x y : Int32} {ls : aL} {st : List Value} : aX d iX7_apart 6 (ls) (.int y :: .int x :: st) σ Q ↔ aX d iX7_apart 7 (ls) (.int (x + y) :: st) σ Q := X_iadd kX7_apart_6
theorem kX7_apart_7 : aCode iX7_apart 7 = some (.iaload, 1) := by decide +kernel
theorem sX7_apart_7 {d : Nat} {σ : aS} {Q : aQ} {a : Nat} {i : Int32} {ls : aL} {st : List Value} : aX d iX7_apart 7 (ls) (.int i :: .ref a :: st) σ Q ↔ ∃ x, aRowR σ a = some x ∧ vp_in i x.1 ∧ aX d iX7_apart 8 (ls) (.int (x.2 i.toNatClampNeg) :: st) σ Q := X_iaload kX7_apart_7
theorem kX7_apart_8 : aCode iX7_apart 8 = some (.aload_n 0, 1) := by decide +kernel
theorem sX7_apart_8 {d : Nat} {σ : aS} {Q : aQ} {x : Nat} {lt : aL} {st : List Value} : aX d iX7_apart 8 (some (.ref x) :: lt) (st) σ Q ↔ aX d iX7_apart 9 (some (.ref x) :: lt) (.ref x :: st) σ Q := X_aloadn kX7_apart_8 rfl rfl
theorem kX7_apart_9 : aCode iX7_apart 9 = some (.getfield 7, 3) := by decide +kernel
theorem sX7_apart_9 {d : Nat} {σ : aS} {Q : aQ} {a : Nat} {ls : aL} {st : List Value} : aX d iX7_apart 9 (ls) (.ref a :: st) σ Q ↔ ∃ v, aFld σ a 7 0 = some v ∧ aX d iX7_apart 12 (ls) (v :: st) σ Q := X_getf (w := 650) kX7_apart_9 (by decide +kernel)
theorem kX7_apart_12 : aCode iX7_apart 12 = some (.iconst 0, 1) := by decide +kernel
theorem sX7_apart_12 {d : Nat} {σ : aS} {Q : aQ} {ls : aL} {st : List Value} : aX d iX7_apart 12 (ls) (st) σ Q ↔ aX d iX7_apart 13 (ls) (.int (nI 0) :: st) σ Q := X_iconst kX7_apart_12 (by decide +kernel)
theorem kX7_apart_13 : aCode iX7_apart 13 = some (.iload_n 2, 1) := by decide +kernel
theorem sX7_apart_13 {d : Nat} {σ : aS} {Q : aQ} {l0 l1 : Option Value} {x : Int32} {lt : aL} {st : List Value} : aX d iX7_apart 13 (l0 :: l1 :: some (.int x) :: lt) (st) σ Q ↔ aX d iX7_apart 14 (l0 :: l1 :: some (.int x) :: lt) (.int x :: st) σ Q := X_iloadn kX7_apart_13 rfl
theorem kX7_apart_14 : aCode iX7_apart 14 = some (.iadd, 1) := by decide +kernel
theorem sX7_apart_14 {d : Nat} {σ : aS} {Q : aQ} {x y : Int32} {ls : aL} {st : List Value} : aX d iX7_apart 14 (ls) (.int y :: .int x :: st) σ Q ↔ aX d iX7_apart 15 (ls) (.int (x + y) :: st) σ Q := X_iadd kX7_apart_14
theorem kX7_apart_15 : aCode iX7_apart 15 = some (.iaload, 1) := by decide +kernel
theorem sX7_apart_15 {d : Nat} {σ : aS} {Q : aQ} {a : Nat} {i : Int32} {ls : aL} {st : List Value} : aX d iX7_apart 15 (ls) (.int i :: .ref a :: st) σ Q ↔ ∃ x, aRowR σ a = some x ∧ vp_in i x.1 ∧ aX d iX7_apart 16 (ls) (.int (x.2 i.toNatClampNeg) :: st) σ Q := X_iaload kX7_apart_15
theorem kX7_apart_16 : aCode iX7_apart 16 = some (.ixor, 1) := by decide +kernel
theorem sX7_apart_16 {d : Nat} {σ : aS} {Q : aQ} {x y : Int32} {ls : aL} {st : List Value} : aX d iX7_apart 16 (ls) (.int y :: .int x :: st) σ Q ↔ aX d iX7_apart 17 (ls) (.int (x ^^^ y) :: st) σ Q := X_ixor kX7_apart_16
theorem kX7_apart_17 : aCode iX7_apart 17 = some (.invokestatic 63, 3) := by decide +kernel
theorem sX7_apart_17 {d : Nat} {σ : aS} {Q : aQ} {p0 : Int32} {ls : aL} : aX (d + 1) iX7_apart 17 (ls) (.int p0 :: []) σ Q ↔ aX d iX7_bits 0 [some (.int p0), none, none] [] σ (fun r τ => aX (d + 1) iX7_apart 20 (ls) (aret r ([])) τ Q) := X_invs (N := 1) (As := [.int p0]) (k := 1) (w := 719) kX7_apart_17 (by decide +kernel) (by decide) (by decide +kernel) rfl rfl (by simp only [List.length_cons, List.length_nil]; omega) (by simp only [List.length_cons, List.length_nil]; omega) rfl (Nat.le_of_ble_eq_true rfl)
theorem kX7_apart_20 : aCode iX7_apart 20 = some (.ireturn, 1) := by decide +kernel
theorem sX7_apart_20 {d : Nat} {σ : aS} {Q : aQ} {v : Int32} {ls : aL} : aX d iX7_apart 20 (ls) ([.int v]) σ Q ↔ Q (some (.int v)) σ := X_iret kX7_apart_20 (by decide +kernel)
theorem kX7_of_0 : aCode iX7_of 0 = some (.aload_n 0, 1) := by decide +kernel
theorem sX7_of_0 {d : Nat} {σ : aS} {Q : aQ} {x : Nat} {lt : aL} {st : List Value} : aX d iX7_of 0 (some (.ref x) :: lt) (st) σ Q ↔ aX d iX7_of 1 (some (.ref x) :: lt) (.ref x :: st) σ Q := X_aloadn kX7_of_0 rfl rfl
theorem kX7_of_1 : aCode iX7_of 1 = some (.iload_n 1, 1) := by decide +kernel
theorem sX7_of_1 {d : Nat} {σ : aS} {Q : aQ} {l0 : Option Value} {x : Int32} {lt : aL} {st : List Value} : aX d iX7_of 1 (l0 :: some (.int x) :: lt) (st) σ Q ↔ aX d iX7_of 2 (l0 :: some (.int x) :: lt) (.int x :: st) σ Q := X_iloadn kX7_of_1 rfl
theorem kX7_of_2 : aCode iX7_of 2 = some (.invokevirtual 132, 3) := by decide +kernel
theorem sX7_of_2 {d : Nat} {σ : aS} {Q : aQ} {b : Nat} {p0 : Int32} {ls : aL} : aX (d + 1) iX7_of 2 (ls) (.int p0 :: .ref b :: []) σ Q ↔ aIs σ b 7 ∧ aX d iX7_isAlbum 0 [some (.ref b), some (.int p0)] [] σ (fun r τ => aX (d + 1) iX7_of 5 (ls) (aret r ([])) τ Q) := X_invv (N := 1) (As := [.int p0]) (w := 782) kX7_of_2 (by decide +kernel) (by decide +kernel) rfl rfl (by simp only [List.length_cons, List.length_nil]; omega) (by simp only [List.length_cons, List.length_nil]; omega) (by decide +kernel) rfl (Nat.le_of_ble_eq_true rfl)
theorem kX7_of_5 : aCode iX7_of 5 = some (.ifCond .ne 5, 3) := by decide +kernel
theorem sX7_of_5 {d : Nat} {σ : aS} {Q : aQ} {x : Int32} {ls : aL} {st : List Value} : aX d iX7_of 5 (ls) (.int x :: st) σ Q ↔ (if ¬ x = nI 0 then aX d iX7_of 10 (ls) (st) σ Q else aX d iX7_of 8 (ls) (st) σ Q) := by rw [X_if kX7_of_5 (t := 10) (by decide)]; simp only [aCmp_ne]
theorem kX7_of_8 : aCode iX7_of 8 = some (.iconst (-1), 1) := by decide +kernel
theorem sX7_of_8 {d : Nat} {σ : aS} {Q : aQ} {ls : aL} {st : List Value} : aX d iX7_of 8 (ls) (st) σ Q ↔ aX d iX7_of 9 (ls) (.int ((-1)) :: st) σ Q := X_iconst kX7_of_8 (by decide +kernel)
theorem kX7_of_9 : aCode iX7_of 9 = some (.ireturn, 1) := by decide +kernel
theorem sX7_of_9 {d : Nat} {σ : aS} {Q : aQ} {v : Int32} {ls : aL} : aX d iX7_of 9 (ls) ([.int v]) σ Q ↔ Q (some (.int v)) σ := X_iret kX7_of_9 (by decide +kernel)
theorem kX7_of_10 : aCode iX7_of 10 = some (.iload_n 2, 1) := by decide +kernel
theorem sX7_of_10 {d : Nat} {σ : aS} {Q : aQ} {l0 l1 : Option Value} {x : Int32} {lt : aL} {st : List Value} : aX d iX7_of 10 (l0 :: l1 :: some (.int x) :: lt) (st) σ Q ↔ aX d iX7_of 11 (l0 :: l1 :: some (.int x) :: lt) (.int x :: st) σ Q := X_iloadn kX7_of_10 rfl
theorem kX7_of_11 : aCode iX7_of 11 = some (.tableswitch 122 0 8 #[49, 56, 63, 75, 82, 88, 94, 101, 107], 49) := by decide +kernel
theorem sX7_of_11_0 {d : Nat} {σ : aS} {Q : aQ} {ls : aL} {st : List Value} : aX d iX7_of 11 (ls) (.int (nI 0) :: st) σ Q ↔ aX d iX7_of 60 (ls) (st) σ Q := X_tsw kX7_of_11 ⟨49, by decide +kernel, by decide⟩
theorem sX7_of_11_1 {d : Nat} {σ : aS} {Q : aQ} {ls : aL} {st : List Value} : aX d iX7_of 11 (ls) (.int (nI 1) :: st) σ Q ↔ aX d iX7_of 67 (ls) (st) σ Q := X_tsw kX7_of_11 ⟨56, by decide +kernel, by decide⟩
theorem sX7_of_11_2 {d : Nat} {σ : aS} {Q : aQ} {ls : aL} {st : List Value} : aX d iX7_of 11 (ls) (.int (nI 2) :: st) σ Q ↔ aX d iX7_of 74 (ls) (st) σ Q := X_tsw kX7_of_11 ⟨63, by decide +kernel, by decide⟩
theorem sX7_of_11_3 {d : Nat} {σ : aS} {Q : aQ} {ls : aL} {st : List Value} : aX d iX7_of 11 (ls) (.int (nI 3) :: st) σ Q ↔ aX d iX7_of 86 (ls) (st) σ Q := X_tsw kX7_of_11 ⟨75, by decide +kernel, by decide⟩
theorem sX7_of_11_4 {d : Nat} {σ : aS} {Q : aQ} {ls : aL} {st : List Value} : aX d iX7_of 11 (ls) (.int (nI 4) :: st) σ Q ↔ aX d iX7_of 93 (ls) (st) σ Q := X_tsw kX7_of_11 ⟨82, by decide +kernel, by decide⟩
theorem sX7_of_11_5 {d : Nat} {σ : aS} {Q : aQ} {ls : aL} {st : List Value} : aX d iX7_of 11 (ls) (.int (nI 5) :: st) σ Q ↔ aX d iX7_of 99 (ls) (st) σ Q := X_tsw kX7_of_11 ⟨88, by decide +kernel, by decide⟩
theorem sX7_of_11_6 {d : Nat} {σ : aS} {Q : aQ} {ls : aL} {st : List Value} : aX d iX7_of 11 (ls) (.int (nI 6) :: st) σ Q ↔ aX d iX7_of 105 (ls) (st) σ Q := X_tsw kX7_of_11 ⟨94, by decide +kernel, by decide⟩
theorem sX7_of_11_7 {d : Nat} {σ : aS} {Q : aQ} {ls : aL} {st : List Value} : aX d iX7_of 11 (ls) (.int (nI 7) :: st) σ Q ↔ aX d iX7_of 112 (ls) (st) σ Q := X_tsw kX7_of_11 ⟨101, by decide +kernel, by decide⟩
theorem sX7_of_11_8 {d : Nat} {σ : aS} {Q : aQ} {ls : aL} {st : List Value} : aX d iX7_of 11 (ls) (.int (nI 8) :: st) σ Q ↔ aX d iX7_of 118 (ls) (st) σ Q := X_tsw kX7_of_11 ⟨107, by decide +kernel, by decide⟩
theorem sX7_of_11_d {d : Nat} {σ : aS} {Q : aQ} {x : Int32} {ls : aL} {st : List Value} (h0 : ¬ x = nI 0) (h1 : ¬ x = nI 1) (h2 : ¬ x = nI 2) (h3 : ¬ x = nI 3) (h4 : ¬ x = nI 4) (h5 : ¬ x = nI 5) (h6 : ¬ x = nI 6) (h7 : ¬ x = nI 7) (h8 : ¬ x = nI 8) : aX d iX7_of 11 (ls) (.int x :: st) σ Q ↔ aX d iX7_of 133 (ls) (st) σ Q := by
  have g0 : ¬ x.toInt = 0 := fun z => h0 (Int32.toInt_inj.mp (z.trans (by decide +kernel)))
  have g1 : ¬ x.toInt = 1 := fun z => h1 (Int32.toInt_inj.mp (z.trans (by decide +kernel)))
  have g2 : ¬ x.toInt = 2 := fun z => h2 (Int32.toInt_inj.mp (z.trans (by decide +kernel)))
  have g3 : ¬ x.toInt = 3 := fun z => h3 (Int32.toInt_inj.mp (z.trans (by decide +kernel)))
  have g4 : ¬ x.toInt = 4 := fun z => h4 (Int32.toInt_inj.mp (z.trans (by decide +kernel)))
  have g5 : ¬ x.toInt = 5 := fun z => h5 (Int32.toInt_inj.mp (z.trans (by decide +kernel)))
  have g6 : ¬ x.toInt = 6 := fun z => h6 (Int32.toInt_inj.mp (z.trans (by decide +kernel)))
  have g7 : ¬ x.toInt = 7 := fun z => h7 (Int32.toInt_inj.mp (z.trans (by decide +kernel)))
  have g8 : ¬ x.toInt = 8 := fun z => h8 (Int32.toInt_inj.mp (z.trans (by decide +kernel)))
  exact X_tsw kX7_of_11 ⟨122, if_pos (by omega), by decide⟩
theorem kX7_of_60 : aCode iX7_of 60 = some (.aload_n 0, 1) := by decide +kernel
theorem sX7_of_60 {d : Nat} {σ : aS} {Q : aQ} {x : Nat} {lt : aL} {st : List Value} : aX d iX7_of 60 (some (.ref x) :: lt) (st) σ Q ↔ aX d iX7_of 61 (some (.ref x) :: lt) (.ref x :: st) σ Q := X_aloadn kX7_of_60 rfl rfl
theorem kX7_of_61 : aCode iX7_of 61 = some (.iload_n 1, 1) := by decide +kernel
theorem sX7_of_61 {d : Nat} {σ : aS} {Q : aQ} {l0 : Option Value} {x : Int32} {lt : aL} {st : List Value} : aX d iX7_of 61 (l0 :: some (.int x) :: lt) (st) σ Q ↔ aX d iX7_of 62 (l0 :: some (.int x) :: lt) (.int x :: st) σ Q := X_iloadn kX7_of_61 rfl
theorem kX7_of_62 : aCode iX7_of 62 = some (.iconst 0, 1) := by decide +kernel
theorem sX7_of_62 {d : Nat} {σ : aS} {Q : aQ} {ls : aL} {st : List Value} : aX d iX7_of 62 (ls) (st) σ Q ↔ aX d iX7_of 63 (ls) (.int (nI 0) :: st) σ Q := X_iconst kX7_of_62 (by decide +kernel)
theorem kX7_of_63 : aCode iX7_of 63 = some (.invokevirtual 40, 3) := by decide +kernel
theorem sX7_of_63 {d : Nat} {σ : aS} {Q : aQ} {b : Nat} {p0 : Int32} {p1 : Int32} {ls : aL} : aX (d + 1) iX7_of 63 (ls) (.int p1 :: .int p0 :: .ref b :: []) σ Q ↔ aIs σ b 7 ∧ aX d iX7_part 0 [some (.ref b), some (.int p0), some (.int p1)] [] σ (fun r τ => aX (d + 1) iX7_of 66 (ls) (aret r ([])) τ Q) := X_invv (N := 2) (As := [.int p1, .int p0]) (w := 750) kX7_of_63 (by decide +kernel) (by decide +kernel) rfl rfl (by simp only [List.length_cons, List.length_nil]; omega) (by simp only [List.length_cons, List.length_nil]; omega) (by decide +kernel) rfl (Nat.le_of_ble_eq_true rfl)
theorem kX7_of_66 : aCode iX7_of 66 = some (.ireturn, 1) := by decide +kernel
theorem sX7_of_66 {d : Nat} {σ : aS} {Q : aQ} {v : Int32} {ls : aL} : aX d iX7_of 66 (ls) ([.int v]) σ Q ↔ Q (some (.int v)) σ := X_iret kX7_of_66 (by decide +kernel)
theorem kX7_of_67 : aCode iX7_of 67 = some (.aload_n 0, 1) := by decide +kernel
theorem sX7_of_67 {d : Nat} {σ : aS} {Q : aQ} {x : Nat} {lt : aL} {st : List Value} : aX d iX7_of 67 (some (.ref x) :: lt) (st) σ Q ↔ aX d iX7_of 68 (some (.ref x) :: lt) (.ref x :: st) σ Q := X_aloadn kX7_of_67 rfl rfl
theorem kX7_of_68 : aCode iX7_of 68 = some (.iload_n 1, 1) := by decide +kernel
theorem sX7_of_68 {d : Nat} {σ : aS} {Q : aQ} {l0 : Option Value} {x : Int32} {lt : aL} {st : List Value} : aX d iX7_of 68 (l0 :: some (.int x) :: lt) (st) σ Q ↔ aX d iX7_of 69 (l0 :: some (.int x) :: lt) (.int x :: st) σ Q := X_iloadn kX7_of_68 rfl
theorem kX7_of_69 : aCode iX7_of 69 = some (.iconst 1, 1) := by decide +kernel
theorem sX7_of_69 {d : Nat} {σ : aS} {Q : aQ} {ls : aL} {st : List Value} : aX d iX7_of 69 (ls) (st) σ Q ↔ aX d iX7_of 70 (ls) (.int (nI 1) :: st) σ Q := X_iconst kX7_of_69 (by decide +kernel)
theorem kX7_of_70 : aCode iX7_of 70 = some (.invokevirtual 40, 3) := by decide +kernel
theorem sX7_of_70 {d : Nat} {σ : aS} {Q : aQ} {b : Nat} {p0 : Int32} {p1 : Int32} {ls : aL} : aX (d + 1) iX7_of 70 (ls) (.int p1 :: .int p0 :: .ref b :: []) σ Q ↔ aIs σ b 7 ∧ aX d iX7_part 0 [some (.ref b), some (.int p0), some (.int p1)] [] σ (fun r τ => aX (d + 1) iX7_of 73 (ls) (aret r ([])) τ Q) := X_invv (N := 2) (As := [.int p1, .int p0]) (w := 750) kX7_of_70 (by decide +kernel) (by decide +kernel) rfl rfl (by simp only [List.length_cons, List.length_nil]; omega) (by simp only [List.length_cons, List.length_nil]; omega) (by decide +kernel) rfl (Nat.le_of_ble_eq_true rfl)
theorem kX7_of_73 : aCode iX7_of 73 = some (.ireturn, 1) := by decide +kernel
theorem sX7_of_73 {d : Nat} {σ : aS} {Q : aQ} {v : Int32} {ls : aL} : aX d iX7_of 73 (ls) ([.int v]) σ Q ↔ Q (some (.int v)) σ := X_iret kX7_of_73 (by decide +kernel)
theorem kX7_of_74 : aCode iX7_of 74 = some (.aload_n 0, 1) := by decide +kernel
theorem sX7_of_74 {d : Nat} {σ : aS} {Q : aQ} {x : Nat} {lt : aL} {st : List Value} : aX d iX7_of 74 (some (.ref x) :: lt) (st) σ Q ↔ aX d iX7_of 75 (some (.ref x) :: lt) (.ref x :: st) σ Q := X_aloadn kX7_of_74 rfl rfl
theorem kX7_of_75 : aCode iX7_of 75 = some (.iload_n 1, 1) := by decide +kernel
theorem sX7_of_75 {d : Nat} {σ : aS} {Q : aQ} {l0 : Option Value} {x : Int32} {lt : aL} {st : List Value} : aX d iX7_of 75 (l0 :: some (.int x) :: lt) (st) σ Q ↔ aX d iX7_of 76 (l0 :: some (.int x) :: lt) (.int x :: st) σ Q := X_iloadn kX7_of_75 rfl
theorem kX7_of_76 : aCode iX7_of 76 = some (.aload_n 0, 1) := by decide +kernel
theorem sX7_of_76 {d : Nat} {σ : aS} {Q : aQ} {x : Nat} {lt : aL} {st : List Value} : aX d iX7_of 76 (some (.ref x) :: lt) (st) σ Q ↔ aX d iX7_of 77 (some (.ref x) :: lt) (.ref x :: st) σ Q := X_aloadn kX7_of_76 rfl rfl
theorem kX7_of_77 : aCode iX7_of 77 = some (.iload_n 1, 1) := by decide +kernel
theorem sX7_of_77 {d : Nat} {σ : aS} {Q : aQ} {l0 : Option Value} {x : Int32} {lt : aL} {st : List Value} : aX d iX7_of 77 (l0 :: some (.int x) :: lt) (st) σ Q ↔ aX d iX7_of 78 (l0 :: some (.int x) :: lt) (.int x :: st) σ Q := X_iloadn kX7_of_77 rfl
theorem kX7_of_78 : aCode iX7_of 78 = some (.invokevirtual 48, 3) := by decide +kernel
theorem sX7_of_78 {d : Nat} {σ : aS} {Q : aQ} {b : Nat} {p0 : Int32} {v0 v1 : Value} {ls : aL} : aX (d + 1) iX7_of 78 (ls) (.int p0 :: .ref b :: v0 :: v1 :: []) σ Q ↔ aIs σ b 7 ∧ aX d iX7_lastPage 0 [some (.ref b), some (.int p0)] [] σ (fun r τ => aX (d + 1) iX7_of 81 (ls) (aret r (v0 :: v1 :: [])) τ Q) := X_invv (N := 1) (As := [.int p0]) (w := 802) kX7_of_78 (by decide +kernel) (by decide +kernel) rfl rfl (by simp only [List.length_cons, List.length_nil]; omega) (by simp only [List.length_cons, List.length_nil]; omega) (by decide +kernel) rfl (Nat.le_of_ble_eq_true rfl)
theorem kX7_of_81 : aCode iX7_of 81 = some (.iconst 0, 1) := by decide +kernel
theorem sX7_of_81 {d : Nat} {σ : aS} {Q : aQ} {ls : aL} {st : List Value} : aX d iX7_of 81 (ls) (st) σ Q ↔ aX d iX7_of 82 (ls) (.int (nI 0) :: st) σ Q := X_iconst kX7_of_81 (by decide +kernel)
theorem kX7_of_82 : aCode iX7_of 82 = some (.invokevirtual 55, 3) := by decide +kernel
theorem sX7_of_82 {d : Nat} {σ : aS} {Q : aQ} {b : Nat} {p0 : Int32} {p1 : Int32} {p2 : Int32} {ls : aL} : aX (d + 1) iX7_of 82 (ls) (.int p2 :: .int p1 :: .int p0 :: .ref b :: []) σ Q ↔ aIs σ b 7 ∧ aX d iX7_pagePart 0 [some (.ref b), some (.int p0), some (.int p1), some (.int p2)] [] σ (fun r τ => aX (d + 1) iX7_of 85 (ls) (aret r ([])) τ Q) := X_invv (N := 3) (As := [.int p2, .int p1, .int p0]) (w := 806) kX7_of_82 (by decide +kernel) (by decide +kernel) rfl rfl (by simp only [List.length_cons, List.length_nil]; omega) (by simp only [List.length_cons, List.length_nil]; omega) (by decide +kernel) rfl (Nat.le_of_ble_eq_true rfl)
theorem kX7_of_85 : aCode iX7_of 85 = some (.ireturn, 1) := by decide +kernel
theorem sX7_of_85 {d : Nat} {σ : aS} {Q : aQ} {v : Int32} {ls : aL} : aX d iX7_of 85 (ls) ([.int v]) σ Q ↔ Q (some (.int v)) σ := X_iret kX7_of_85 (by decide +kernel)
theorem kX7_of_86 : aCode iX7_of 86 = some (.aload_n 0, 1) := by decide +kernel
theorem sX7_of_86 {d : Nat} {σ : aS} {Q : aQ} {x : Nat} {lt : aL} {st : List Value} : aX d iX7_of 86 (some (.ref x) :: lt) (st) σ Q ↔ aX d iX7_of 87 (some (.ref x) :: lt) (.ref x :: st) σ Q := X_aloadn kX7_of_86 rfl rfl
theorem kX7_of_87 : aCode iX7_of 87 = some (.iload_n 1, 1) := by decide +kernel
theorem sX7_of_87 {d : Nat} {σ : aS} {Q : aQ} {l0 : Option Value} {x : Int32} {lt : aL} {st : List Value} : aX d iX7_of 87 (l0 :: some (.int x) :: lt) (st) σ Q ↔ aX d iX7_of 88 (l0 :: some (.int x) :: lt) (.int x :: st) σ Q := X_iloadn kX7_of_87 rfl
theorem kX7_of_88 : aCode iX7_of 88 = some (.iconst 2, 1) := by decide +kernel
theorem sX7_of_88 {d : Nat} {σ : aS} {Q : aQ} {ls : aL} {st : List Value} : aX d iX7_of 88 (ls) (st) σ Q ↔ aX d iX7_of 89 (ls) (.int (nI 2) :: st) σ Q := X_iconst kX7_of_88 (by decide +kernel)
theorem kX7_of_89 : aCode iX7_of 89 = some (.invokevirtual 40, 3) := by decide +kernel
theorem sX7_of_89 {d : Nat} {σ : aS} {Q : aQ} {b : Nat} {p0 : Int32} {p1 : Int32} {ls : aL} : aX (d + 1) iX7_of 89 (ls) (.int p1 :: .int p0 :: .ref b :: []) σ Q ↔ aIs σ b 7 ∧ aX d iX7_part 0 [some (.ref b), some (.int p0), some (.int p1)] [] σ (fun r τ => aX (d + 1) iX7_of 92 (ls) (aret r ([])) τ Q) := X_invv (N := 2) (As := [.int p1, .int p0]) (w := 750) kX7_of_89 (by decide +kernel) (by decide +kernel) rfl rfl (by simp only [List.length_cons, List.length_nil]; omega) (by simp only [List.length_cons, List.length_nil]; omega) (by decide +kernel) rfl (Nat.le_of_ble_eq_true rfl)
theorem kX7_of_92 : aCode iX7_of 92 = some (.ireturn, 1) := by decide +kernel
theorem sX7_of_92 {d : Nat} {σ : aS} {Q : aQ} {v : Int32} {ls : aL} : aX d iX7_of 92 (ls) ([.int v]) σ Q ↔ Q (some (.int v)) σ := X_iret kX7_of_92 (by decide +kernel)
theorem kX7_of_93 : aCode iX7_of 93 = some (.aload_n 0, 1) := by decide +kernel
theorem sX7_of_93 {d : Nat} {σ : aS} {Q : aQ} {x : Nat} {lt : aL} {st : List Value} : aX d iX7_of 93 (some (.ref x) :: lt) (st) σ Q ↔ aX d iX7_of 94 (some (.ref x) :: lt) (.ref x :: st) σ Q := X_aloadn kX7_of_93 rfl rfl
theorem kX7_of_94 : aCode iX7_of 94 = some (.iload_n 1, 1) := by decide +kernel
theorem sX7_of_94 {d : Nat} {σ : aS} {Q : aQ} {l0 : Option Value} {x : Int32} {lt : aL} {st : List Value} : aX d iX7_of 94 (l0 :: some (.int x) :: lt) (st) σ Q ↔ aX d iX7_of 95 (l0 :: some (.int x) :: lt) (.int x :: st) σ Q := X_iloadn kX7_of_94 rfl
theorem kX7_of_95 : aCode iX7_of 95 = some (.invokevirtual 72, 3) := by decide +kernel
theorem sX7_of_95 {d : Nat} {σ : aS} {Q : aQ} {b : Nat} {p0 : Int32} {ls : aL} : aX (d + 1) iX7_of 95 (ls) (.int p0 :: .ref b :: []) σ Q ↔ aIs σ b 7 ∧ aX d iX7_lastWord 0 [some (.ref b), some (.int p0)] [] σ (fun r τ => aX (d + 1) iX7_of 98 (ls) (aret r ([])) τ Q) := X_invv (N := 1) (As := [.int p0]) (w := 818) kX7_of_95 (by decide +kernel) (by decide +kernel) rfl rfl (by simp only [List.length_cons, List.length_nil]; omega) (by simp only [List.length_cons, List.length_nil]; omega) (by decide +kernel) rfl (Nat.le_of_ble_eq_true rfl)
theorem kX7_of_98 : aCode iX7_of 98 = some (.ireturn, 1) := by decide +kernel
theorem sX7_of_98 {d : Nat} {σ : aS} {Q : aQ} {v : Int32} {ls : aL} : aX d iX7_of 98 (ls) ([.int v]) σ Q ↔ Q (some (.int v)) σ := X_iret kX7_of_98 (by decide +kernel)
theorem kX7_of_99 : aCode iX7_of 99 = some (.aload_n 0, 1) := by decide +kernel
theorem sX7_of_99 {d : Nat} {σ : aS} {Q : aQ} {x : Nat} {lt : aL} {st : List Value} : aX d iX7_of 99 (some (.ref x) :: lt) (st) σ Q ↔ aX d iX7_of 100 (some (.ref x) :: lt) (.ref x :: st) σ Q := X_aloadn kX7_of_99 rfl rfl
theorem kX7_of_100 : aCode iX7_of 100 = some (.iload_n 1, 1) := by decide +kernel
theorem sX7_of_100 {d : Nat} {σ : aS} {Q : aQ} {l0 : Option Value} {x : Int32} {lt : aL} {st : List Value} : aX d iX7_of 100 (l0 :: some (.int x) :: lt) (st) σ Q ↔ aX d iX7_of 101 (l0 :: some (.int x) :: lt) (.int x :: st) σ Q := X_iloadn kX7_of_100 rfl
theorem kX7_of_101 : aCode iX7_of 101 = some (.invokevirtual 151, 3) := by decide +kernel
theorem sX7_of_101 {d : Nat} {σ : aS} {Q : aQ} {b : Nat} {p0 : Int32} {ls : aL} : aX (d + 1) iX7_of 101 (ls) (.int p0 :: .ref b :: []) σ Q ↔ aIs σ b 7 ∧ aX d iX7_changed 0 [some (.ref b), some (.int p0), none, none] [] σ (fun r τ => aX (d + 1) iX7_of 104 (ls) (aret r ([])) τ Q) := X_invv (N := 1) (As := [.int p0]) (w := 858) kX7_of_101 (by decide +kernel) (by decide +kernel) rfl rfl (by simp only [List.length_cons, List.length_nil]; omega) (by simp only [List.length_cons, List.length_nil]; omega) (by decide +kernel) rfl (Nat.le_of_ble_eq_true rfl)
theorem kX7_of_104 : aCode iX7_of 104 = some (.ireturn, 1) := by decide +kernel
theorem sX7_of_104 {d : Nat} {σ : aS} {Q : aQ} {v : Int32} {ls : aL} : aX d iX7_of 104 (ls) ([.int v]) σ Q ↔ Q (some (.int v)) σ := X_iret kX7_of_104 (by decide +kernel)
theorem kX7_of_105 : aCode iX7_of 105 = some (.aload_n 0, 1) := by decide +kernel
theorem sX7_of_105 {d : Nat} {σ : aS} {Q : aQ} {x : Nat} {lt : aL} {st : List Value} : aX d iX7_of 105 (some (.ref x) :: lt) (st) σ Q ↔ aX d iX7_of 106 (some (.ref x) :: lt) (.ref x :: st) σ Q := X_aloadn kX7_of_105 rfl rfl
theorem kX7_of_106 : aCode iX7_of 106 = some (.iload_n 1, 1) := by decide +kernel
theorem sX7_of_106 {d : Nat} {σ : aS} {Q : aQ} {l0 : Option Value} {x : Int32} {lt : aL} {st : List Value} : aX d iX7_of 106 (l0 :: some (.int x) :: lt) (st) σ Q ↔ aX d iX7_of 107 (l0 :: some (.int x) :: lt) (.int x :: st) σ Q := X_iloadn kX7_of_106 rfl
theorem kX7_of_107 : aCode iX7_of 107 = some (.iconst 3, 1) := by decide +kernel
theorem sX7_of_107 {d : Nat} {σ : aS} {Q : aQ} {ls : aL} {st : List Value} : aX d iX7_of 107 (ls) (st) σ Q ↔ aX d iX7_of 108 (ls) (.int (nI 3) :: st) σ Q := X_iconst kX7_of_107 (by decide +kernel)
theorem kX7_of_108 : aCode iX7_of 108 = some (.invokevirtual 40, 3) := by decide +kernel
theorem sX7_of_108 {d : Nat} {σ : aS} {Q : aQ} {b : Nat} {p0 : Int32} {p1 : Int32} {ls : aL} : aX (d + 1) iX7_of 108 (ls) (.int p1 :: .int p0 :: .ref b :: []) σ Q ↔ aIs σ b 7 ∧ aX d iX7_part 0 [some (.ref b), some (.int p0), some (.int p1)] [] σ (fun r τ => aX (d + 1) iX7_of 111 (ls) (aret r ([])) τ Q) := X_invv (N := 2) (As := [.int p1, .int p0]) (w := 750) kX7_of_108 (by decide +kernel) (by decide +kernel) rfl rfl (by simp only [List.length_cons, List.length_nil]; omega) (by simp only [List.length_cons, List.length_nil]; omega) (by decide +kernel) rfl (Nat.le_of_ble_eq_true rfl)
theorem kX7_of_111 : aCode iX7_of 111 = some (.ireturn, 1) := by decide +kernel
theorem sX7_of_111 {d : Nat} {σ : aS} {Q : aQ} {v : Int32} {ls : aL} : aX d iX7_of 111 (ls) ([.int v]) σ Q ↔ Q (some (.int v)) σ := X_iret kX7_of_111 (by decide +kernel)
theorem kX7_of_112 : aCode iX7_of 112 = some (.aload_n 0, 1) := by decide +kernel
theorem sX7_of_112 {d : Nat} {σ : aS} {Q : aQ} {x : Nat} {lt : aL} {st : List Value} : aX d iX7_of 112 (some (.ref x) :: lt) (st) σ Q ↔ aX d iX7_of 113 (some (.ref x) :: lt) (.ref x :: st) σ Q := X_aloadn kX7_of_112 rfl rfl
theorem kX7_of_113 : aCode iX7_of 113 = some (.iload_n 1, 1) := by decide +kernel
theorem sX7_of_113 {d : Nat} {σ : aS} {Q : aQ} {l0 : Option Value} {x : Int32} {lt : aL} {st : List Value} : aX d iX7_of 113 (l0 :: some (.int x) :: lt) (st) σ Q ↔ aX d iX7_of 114 (l0 :: some (.int x) :: lt) (.int x :: st) σ Q := X_iloadn kX7_of_113 rfl
theorem kX7_of_114 : aCode iX7_of 114 = some (.invokevirtual 66, 3) := by decide +kernel
theorem sX7_of_114 {d : Nat} {σ : aS} {Q : aQ} {b : Nat} {p0 : Int32} {ls : aL} : aX (d + 1) iX7_of 114 (ls) (.int p0 :: .ref b :: []) σ Q ↔ aIs σ b 7 ∧ aX d iX7_seatsOf 0 [some (.ref b), some (.int p0), none, none] [] σ (fun r τ => aX (d + 1) iX7_of 117 (ls) (aret r ([])) τ Q) := X_invv (N := 1) (As := [.int p0]) (w := 810) kX7_of_114 (by decide +kernel) (by decide +kernel) rfl rfl (by simp only [List.length_cons, List.length_nil]; omega) (by simp only [List.length_cons, List.length_nil]; omega) (by decide +kernel) rfl (Nat.le_of_ble_eq_true rfl)
theorem kX7_of_117 : aCode iX7_of 117 = some (.ireturn, 1) := by decide +kernel
theorem sX7_of_117 {d : Nat} {σ : aS} {Q : aQ} {v : Int32} {ls : aL} : aX d iX7_of 117 (ls) ([.int v]) σ Q ↔ Q (some (.int v)) σ := X_iret kX7_of_117 (by decide +kernel)
theorem kX7_of_118 : aCode iX7_of 118 = some (.aload_n 0, 1) := by decide +kernel
theorem sX7_of_118 {d : Nat} {σ : aS} {Q : aQ} {x : Nat} {lt : aL} {st : List Value} : aX d iX7_of 118 (some (.ref x) :: lt) (st) σ Q ↔ aX d iX7_of 119 (some (.ref x) :: lt) (.ref x :: st) σ Q := X_aloadn kX7_of_118 rfl rfl
theorem kX7_of_119 : aCode iX7_of 119 = some (.aload_n 0, 1) := by decide +kernel
theorem sX7_of_119 {d : Nat} {σ : aS} {Q : aQ} {x : Nat} {lt : aL} {st : List Value} : aX d iX7_of 119 (some (.ref x) :: lt) (st) σ Q ↔ aX d iX7_of 120 (some (.ref x) :: lt) (.ref x :: st) σ Q := X_aloadn kX7_of_119 rfl rfl
theorem kX7_of_120 : aCode iX7_of 120 = some (.iload_n 1, 1) := by decide +kernel
theorem sX7_of_120 {d : Nat} {σ : aS} {Q : aQ} {l0 : Option Value} {x : Int32} {lt : aL} {st : List Value} : aX d iX7_of 120 (l0 :: some (.int x) :: lt) (st) σ Q ↔ aX d iX7_of 121 (l0 :: some (.int x) :: lt) (.int x :: st) σ Q := X_iloadn kX7_of_120 rfl
theorem kX7_of_121 : aCode iX7_of 121 = some (.invokevirtual 72, 3) := by decide +kernel
theorem sX7_of_121 {d : Nat} {σ : aS} {Q : aQ} {b : Nat} {p0 : Int32} {v0 : Value} {ls : aL} : aX (d + 1) iX7_of 121 (ls) (.int p0 :: .ref b :: v0 :: []) σ Q ↔ aIs σ b 7 ∧ aX d iX7_lastWord 0 [some (.ref b), some (.int p0)] [] σ (fun r τ => aX (d + 1) iX7_of 124 (ls) (aret r (v0 :: [])) τ Q) := X_invv (N := 1) (As := [.int p0]) (w := 818) kX7_of_121 (by decide +kernel) (by decide +kernel) rfl rfl (by simp only [List.length_cons, List.length_nil]; omega) (by simp only [List.length_cons, List.length_nil]; omega) (by decide +kernel) rfl (Nat.le_of_ble_eq_true rfl)
theorem kX7_of_124 : aCode iX7_of 124 = some (.aload_n 0, 1) := by decide +kernel
theorem sX7_of_124 {d : Nat} {σ : aS} {Q : aQ} {x : Nat} {lt : aL} {st : List Value} : aX d iX7_of 124 (some (.ref x) :: lt) (st) σ Q ↔ aX d iX7_of 125 (some (.ref x) :: lt) (.ref x :: st) σ Q := X_aloadn kX7_of_124 rfl rfl
theorem kX7_of_125 : aCode iX7_of 125 = some (.iload_n 1, 1) := by decide +kernel
theorem sX7_of_125 {d : Nat} {σ : aS} {Q : aQ} {l0 : Option Value} {x : Int32} {lt : aL} {st : List Value} : aX d iX7_of 125 (l0 :: some (.int x) :: lt) (st) σ Q ↔ aX d iX7_of 126 (l0 :: some (.int x) :: lt) (.int x :: st) σ Q := X_iloadn kX7_of_125 rfl
theorem kX7_of_126 : aCode iX7_of 126 = some (.invokevirtual 75, 3) := by decide +kernel
theorem sX7_of_126 {d : Nat} {σ : aS} {Q : aQ} {b : Nat} {p0 : Int32} {v0 v1 : Value} {ls : aL} : aX (d + 1) iX7_of 126 (ls) (.int p0 :: .ref b :: v0 :: v1 :: []) σ Q ↔ aIs σ b 7 ∧ aX d iX7_firstWord 0 [some (.ref b), some (.int p0)] [] σ (fun r τ => aX (d + 1) iX7_of 129 (ls) (aret r (v0 :: v1 :: [])) τ Q) := X_invv (N := 1) (As := [.int p0]) (w := 826) kX7_of_126 (by decide +kernel) (by decide +kernel) rfl rfl (by simp only [List.length_cons, List.length_nil]; omega) (by simp only [List.length_cons, List.length_nil]; omega) (by decide +kernel) rfl (Nat.le_of_ble_eq_true rfl)
theorem kX7_of_129 : aCode iX7_of 129 = some (.invokevirtual 154, 3) := by decide +kernel
theorem sX7_of_129 {d : Nat} {σ : aS} {Q : aQ} {b : Nat} {p0 : Int32} {p1 : Int32} {ls : aL} : aX (d + 1) iX7_of 129 (ls) (.int p1 :: .int p0 :: .ref b :: []) σ Q ↔ aIs σ b 7 ∧ aX d iX7_apart 0 [some (.ref b), some (.int p0), some (.int p1)] [] σ (fun r τ => aX (d + 1) iX7_of 132 (ls) (aret r ([])) τ Q) := X_invv (N := 2) (As := [.int p1, .int p0]) (w := 862) kX7_of_129 (by decide +kernel) (by decide +kernel) rfl rfl (by simp only [List.length_cons, List.length_nil]; omega) (by simp only [List.length_cons, List.length_nil]; omega) (by decide +kernel) rfl (Nat.le_of_ble_eq_true rfl)
theorem kX7_of_132 : aCode iX7_of 132 = some (.ireturn, 1) := by decide +kernel
theorem sX7_of_132 {d : Nat} {σ : aS} {Q : aQ} {v : Int32} {ls : aL} : aX d iX7_of 132 (ls) ([.int v]) σ Q ↔ Q (some (.int v)) σ := X_iret kX7_of_132 (by decide +kernel)
theorem kX7_of_133 : aCode iX7_of 133 = some (.bipush (-2), 2) := by decide +kernel
theorem sX7_of_133 {d : Nat} {σ : aS} {Q : aQ} {ls : aL} {st : List Value} : aX d iX7_of 133 (ls) (st) σ Q ↔ aX d iX7_of 135 (ls) (.int ((-2)) :: st) σ Q := X_bipush kX7_of_133 (by decide +kernel)
theorem kX7_of_135 : aCode iX7_of 135 = some (.ireturn, 1) := by decide +kernel
theorem sX7_of_135 {d : Nat} {σ : aS} {Q : aQ} {v : Int32} {ls : aL} : aX d iX7_of 135 (ls) ([.int v]) σ Q ↔ Q (some (.int v)) σ := X_iret kX7_of_135 (by decide +kernel)
theorem kX7_page_0 : aCode iX7_page 0 = some (.aload_n 0, 1) := by decide +kernel
theorem sX7_page_0 {d : Nat} {σ : aS} {Q : aQ} {x : Nat} {lt : aL} {st : List Value} : aX d iX7_page 0 (some (.ref x) :: lt) (st) σ Q ↔ aX d iX7_page 1 (some (.ref x) :: lt) (.ref x :: st) σ Q := X_aloadn kX7_page_0 rfl rfl
theorem kX7_page_1 : aCode iX7_page 1 = some (.iload_n 1, 1) := by decide +kernel
theorem sX7_page_1 {d : Nat} {σ : aS} {Q : aQ} {l0 : Option Value} {x : Int32} {lt : aL} {st : List Value} : aX d iX7_page 1 (l0 :: some (.int x) :: lt) (st) σ Q ↔ aX d iX7_page 2 (l0 :: some (.int x) :: lt) (.int x :: st) σ Q := X_iloadn kX7_page_1 rfl
theorem kX7_page_2 : aCode iX7_page 2 = some (.invokevirtual 132, 3) := by decide +kernel
theorem sX7_page_2 {d : Nat} {σ : aS} {Q : aQ} {b : Nat} {p0 : Int32} {ls : aL} : aX (d + 1) iX7_page 2 (ls) (.int p0 :: .ref b :: []) σ Q ↔ aIs σ b 7 ∧ aX d iX7_isAlbum 0 [some (.ref b), some (.int p0)] [] σ (fun r τ => aX (d + 1) iX7_page 5 (ls) (aret r ([])) τ Q) := X_invv (N := 1) (As := [.int p0]) (w := 782) kX7_page_2 (by decide +kernel) (by decide +kernel) rfl rfl (by simp only [List.length_cons, List.length_nil]; omega) (by simp only [List.length_cons, List.length_nil]; omega) (by decide +kernel) rfl (Nat.le_of_ble_eq_true rfl)
theorem kX7_page_5 : aCode iX7_page 5 = some (.ifCond .eq 16, 3) := by decide +kernel
theorem sX7_page_5 {d : Nat} {σ : aS} {Q : aQ} {x : Int32} {ls : aL} {st : List Value} : aX d iX7_page 5 (ls) (.int x :: st) σ Q ↔ (if x = nI 0 then aX d iX7_page 21 (ls) (st) σ Q else aX d iX7_page 8 (ls) (st) σ Q) := by rw [X_if kX7_page_5 (t := 21) (by decide)]; simp only [aCmp_eq]
theorem kX7_page_8 : aCode iX7_page 8 = some (.iload_n 2, 1) := by decide +kernel
theorem sX7_page_8 {d : Nat} {σ : aS} {Q : aQ} {l0 l1 : Option Value} {x : Int32} {lt : aL} {st : List Value} : aX d iX7_page 8 (l0 :: l1 :: some (.int x) :: lt) (st) σ Q ↔ aX d iX7_page 9 (l0 :: l1 :: some (.int x) :: lt) (.int x :: st) σ Q := X_iloadn kX7_page_8 rfl
theorem kX7_page_9 : aCode iX7_page 9 = some (.iconst 0, 1) := by decide +kernel
theorem sX7_page_9 {d : Nat} {σ : aS} {Q : aQ} {ls : aL} {st : List Value} : aX d iX7_page 9 (ls) (st) σ Q ↔ aX d iX7_page 10 (ls) (.int (nI 0) :: st) σ Q := X_iconst kX7_page_9 (by decide +kernel)
theorem kX7_page_10 : aCode iX7_page 10 = some (.aload_n 0, 1) := by decide +kernel
theorem sX7_page_10 {d : Nat} {σ : aS} {Q : aQ} {x : Nat} {lt : aL} {st : List Value} : aX d iX7_page 10 (some (.ref x) :: lt) (st) σ Q ↔ aX d iX7_page 11 (some (.ref x) :: lt) (.ref x :: st) σ Q := X_aloadn kX7_page_10 rfl rfl
theorem kX7_page_11 : aCode iX7_page 11 = some (.iload_n 1, 1) := by decide +kernel
theorem sX7_page_11 {d : Nat} {σ : aS} {Q : aQ} {l0 : Option Value} {x : Int32} {lt : aL} {st : List Value} : aX d iX7_page 11 (l0 :: some (.int x) :: lt) (st) σ Q ↔ aX d iX7_page 12 (l0 :: some (.int x) :: lt) (.int x :: st) σ Q := X_iloadn kX7_page_11 rfl
theorem kX7_page_12 : aCode iX7_page 12 = some (.invokevirtual 48, 3) := by decide +kernel
theorem sX7_page_12 {d : Nat} {σ : aS} {Q : aQ} {b : Nat} {p0 : Int32} {v0 v1 : Value} {ls : aL} : aX (d + 1) iX7_page 12 (ls) (.int p0 :: .ref b :: v0 :: v1 :: []) σ Q ↔ aIs σ b 7 ∧ aX d iX7_lastPage 0 [some (.ref b), some (.int p0)] [] σ (fun r τ => aX (d + 1) iX7_page 15 (ls) (aret r (v0 :: v1 :: [])) τ Q) := X_invv (N := 1) (As := [.int p0]) (w := 802) kX7_page_12 (by decide +kernel) (by decide +kernel) rfl rfl (by simp only [List.length_cons, List.length_nil]; omega) (by simp only [List.length_cons, List.length_nil]; omega) (by decide +kernel) rfl (Nat.le_of_ble_eq_true rfl)
theorem kX7_page_15 : aCode iX7_page 15 = some (.invokestatic 36, 3) := by decide +kernel
theorem sX7_page_15 {d : Nat} {σ : aS} {Q : aQ} {p0 : Int32} {p1 : Int32} {p2 : Int32} {ls : aL} : aX (d + 1) iX7_page 15 (ls) (.int p2 :: .int p1 :: .int p0 :: []) σ Q ↔ aX d iX7_within 0 [some (.int p0), some (.int p1), some (.int p2)] [] σ (fun r τ => aX (d + 1) iX7_page 18 (ls) (aret r ([])) τ Q) := X_invs (N := 3) (As := [.int p2, .int p1, .int p0]) (k := 1) (w := 694) kX7_page_15 (by decide +kernel) (by decide) (by decide +kernel) rfl rfl (by simp only [List.length_cons, List.length_nil]; omega) (by simp only [List.length_cons, List.length_nil]; omega) rfl (Nat.le_of_ble_eq_true rfl)
theorem kX7_page_18 : aCode iX7_page 18 = some (.ifCond .ne 5, 3) := by decide +kernel
theorem sX7_page_18 {d : Nat} {σ : aS} {Q : aQ} {x : Int32} {ls : aL} {st : List Value} : aX d iX7_page 18 (ls) (.int x :: st) σ Q ↔ (if ¬ x = nI 0 then aX d iX7_page 23 (ls) (st) σ Q else aX d iX7_page 21 (ls) (st) σ Q) := by rw [X_if kX7_page_18 (t := 23) (by decide)]; simp only [aCmp_ne]
theorem kX7_page_21 : aCode iX7_page 21 = some (.iconst (-1), 1) := by decide +kernel
theorem sX7_page_21 {d : Nat} {σ : aS} {Q : aQ} {ls : aL} {st : List Value} : aX d iX7_page 21 (ls) (st) σ Q ↔ aX d iX7_page 22 (ls) (.int ((-1)) :: st) σ Q := X_iconst kX7_page_21 (by decide +kernel)
theorem kX7_page_22 : aCode iX7_page 22 = some (.ireturn, 1) := by decide +kernel
theorem sX7_page_22 {d : Nat} {σ : aS} {Q : aQ} {v : Int32} {ls : aL} : aX d iX7_page 22 (ls) ([.int v]) σ Q ↔ Q (some (.int v)) σ := X_iret kX7_page_22 (by decide +kernel)
theorem kX7_page_23 : aCode iX7_page 23 = some (.iload_n 3, 1) := by decide +kernel
theorem sX7_page_23 {d : Nat} {σ : aS} {Q : aQ} {l0 l1 l2 : Option Value} {x : Int32} {lt : aL} {st : List Value} : aX d iX7_page 23 (l0 :: l1 :: l2 :: some (.int x) :: lt) (st) σ Q ↔ aX d iX7_page 24 (l0 :: l1 :: l2 :: some (.int x) :: lt) (.int x :: st) σ Q := X_iloadn kX7_page_23 rfl
theorem kX7_page_24 : aCode iX7_page 24 = some (.iconst 0, 1) := by decide +kernel
theorem sX7_page_24 {d : Nat} {σ : aS} {Q : aQ} {ls : aL} {st : List Value} : aX d iX7_page 24 (ls) (st) σ Q ↔ aX d iX7_page 25 (ls) (.int (nI 0) :: st) σ Q := X_iconst kX7_page_24 (by decide +kernel)
theorem kX7_page_25 : aCode iX7_page 25 = some (.iconst 2, 1) := by decide +kernel
theorem sX7_page_25 {d : Nat} {σ : aS} {Q : aQ} {ls : aL} {st : List Value} : aX d iX7_page 25 (ls) (st) σ Q ↔ aX d iX7_page 26 (ls) (.int (nI 2) :: st) σ Q := X_iconst kX7_page_25 (by decide +kernel)
theorem kX7_page_26 : aCode iX7_page 26 = some (.invokestatic 36, 3) := by decide +kernel
theorem sX7_page_26 {d : Nat} {σ : aS} {Q : aQ} {p0 : Int32} {p1 : Int32} {p2 : Int32} {ls : aL} : aX (d + 1) iX7_page 26 (ls) (.int p2 :: .int p1 :: .int p0 :: []) σ Q ↔ aX d iX7_within 0 [some (.int p0), some (.int p1), some (.int p2)] [] σ (fun r τ => aX (d + 1) iX7_page 29 (ls) (aret r ([])) τ Q) := X_invs (N := 3) (As := [.int p2, .int p1, .int p0]) (k := 1) (w := 694) kX7_page_26 (by decide +kernel) (by decide) (by decide +kernel) rfl rfl (by simp only [List.length_cons, List.length_nil]; omega) (by simp only [List.length_cons, List.length_nil]; omega) rfl (Nat.le_of_ble_eq_true rfl)
theorem kX7_page_29 : aCode iX7_page 29 = some (.ifCond .eq 13, 3) := by decide +kernel
theorem sX7_page_29 {d : Nat} {σ : aS} {Q : aQ} {x : Int32} {ls : aL} {st : List Value} : aX d iX7_page 29 (ls) (.int x :: st) σ Q ↔ (if x = nI 0 then aX d iX7_page 42 (ls) (st) σ Q else aX d iX7_page 32 (ls) (st) σ Q) := by rw [X_if kX7_page_29 (t := 42) (by decide)]; simp only [aCmp_eq]
theorem kX7_page_32 : aCode iX7_page 32 = some (.aload_n 0, 1) := by decide +kernel
theorem sX7_page_32 {d : Nat} {σ : aS} {Q : aQ} {x : Nat} {lt : aL} {st : List Value} : aX d iX7_page 32 (some (.ref x) :: lt) (st) σ Q ↔ aX d iX7_page 33 (some (.ref x) :: lt) (.ref x :: st) σ Q := X_aloadn kX7_page_32 rfl rfl
theorem kX7_page_33 : aCode iX7_page 33 = some (.iload_n 1, 1) := by decide +kernel
theorem sX7_page_33 {d : Nat} {σ : aS} {Q : aQ} {l0 : Option Value} {x : Int32} {lt : aL} {st : List Value} : aX d iX7_page 33 (l0 :: some (.int x) :: lt) (st) σ Q ↔ aX d iX7_page 34 (l0 :: some (.int x) :: lt) (.int x :: st) σ Q := X_iloadn kX7_page_33 rfl
theorem kX7_page_34 : aCode iX7_page 34 = some (.iload_n 2, 1) := by decide +kernel
theorem sX7_page_34 {d : Nat} {σ : aS} {Q : aQ} {l0 l1 : Option Value} {x : Int32} {lt : aL} {st : List Value} : aX d iX7_page 34 (l0 :: l1 :: some (.int x) :: lt) (st) σ Q ↔ aX d iX7_page 35 (l0 :: l1 :: some (.int x) :: lt) (.int x :: st) σ Q := X_iloadn kX7_page_34 rfl
theorem kX7_page_35 : aCode iX7_page 35 = some (.iload_n 3, 1) := by decide +kernel
theorem sX7_page_35 {d : Nat} {σ : aS} {Q : aQ} {l0 l1 l2 : Option Value} {x : Int32} {lt : aL} {st : List Value} : aX d iX7_page 35 (l0 :: l1 :: l2 :: some (.int x) :: lt) (st) σ Q ↔ aX d iX7_page 36 (l0 :: l1 :: l2 :: some (.int x) :: lt) (.int x :: st) σ Q := X_iloadn kX7_page_35 rfl
theorem kX7_page_36 : aCode iX7_page 36 = some (.invokevirtual 55, 3) := by decide +kernel
theorem sX7_page_36 {d : Nat} {σ : aS} {Q : aQ} {b : Nat} {p0 : Int32} {p1 : Int32} {p2 : Int32} {ls : aL} : aX (d + 1) iX7_page 36 (ls) (.int p2 :: .int p1 :: .int p0 :: .ref b :: []) σ Q ↔ aIs σ b 7 ∧ aX d iX7_pagePart 0 [some (.ref b), some (.int p0), some (.int p1), some (.int p2)] [] σ (fun r τ => aX (d + 1) iX7_page 39 (ls) (aret r ([])) τ Q) := X_invv (N := 3) (As := [.int p2, .int p1, .int p0]) (w := 806) kX7_page_36 (by decide +kernel) (by decide +kernel) rfl rfl (by simp only [List.length_cons, List.length_nil]; omega) (by simp only [List.length_cons, List.length_nil]; omega) (by decide +kernel) rfl (Nat.le_of_ble_eq_true rfl)
theorem kX7_page_39 : aCode iX7_page 39 = some (.goto 5, 3) := by decide +kernel
theorem sX7_page_39 {d : Nat} {σ : aS} {Q : aQ} {ls : aL} {st : List Value} : aX d iX7_page 39 (ls) (st) σ Q ↔ aX d iX7_page 44 (ls) (st) σ Q := X_goto kX7_page_39 (by decide)
theorem kX7_page_42 : aCode iX7_page 42 = some (.bipush (-2), 2) := by decide +kernel
theorem sX7_page_42 {d : Nat} {σ : aS} {Q : aQ} {ls : aL} {st : List Value} : aX d iX7_page 42 (ls) (st) σ Q ↔ aX d iX7_page 44 (ls) (.int ((-2)) :: st) σ Q := X_bipush kX7_page_42 (by decide +kernel)
theorem kX7_page_44 : aCode iX7_page 44 = some (.ireturn, 1) := by decide +kernel
theorem sX7_page_44 {d : Nat} {σ : aS} {Q : aQ} {v : Int32} {ls : aL} : aX d iX7_page 44 (ls) ([.int v]) σ Q ↔ Q (some (.int v)) σ := X_iret kX7_page_44 (by decide +kernel)
theorem kX7_pagesBy_0 : aCode iX7_pagesBy 0 = some (.iconst 0, 1) := by decide +kernel
theorem sX7_pagesBy_0 {d : Nat} {σ : aS} {Q : aQ} {ls : aL} {st : List Value} : aX d iX7_pagesBy 0 (ls) (st) σ Q ↔ aX d iX7_pagesBy 1 (ls) (.int (nI 0) :: st) σ Q := X_iconst kX7_pagesBy_0 (by decide +kernel)
theorem kX7_pagesBy_1 : aCode iX7_pagesBy 1 = some (.istore_n 2, 1) := by decide +kernel
theorem sX7_pagesBy_1 {d : Nat} {σ : aS} {Q : aQ} {l0 l1 lo : Option Value} {x : Int32} {lt : aL} {st : List Value} : aX d iX7_pagesBy 1 (l0 :: l1 :: lo :: lt) (.int x :: st) σ Q ↔ aX d iX7_pagesBy 2 (l0 :: aclr l1 :: some (.int x) :: lt) (st) σ Q := X_istoren kX7_pagesBy_1 (by simp only [List.length_cons]; omega)
theorem kX7_pagesBy_2 : aCode iX7_pagesBy 2 = some (.iconst 0, 1) := by decide +kernel
theorem sX7_pagesBy_2 {d : Nat} {σ : aS} {Q : aQ} {ls : aL} {st : List Value} : aX d iX7_pagesBy 2 (ls) (st) σ Q ↔ aX d iX7_pagesBy 3 (ls) (.int (nI 0) :: st) σ Q := X_iconst kX7_pagesBy_2 (by decide +kernel)
theorem kX7_pagesBy_3 : aCode iX7_pagesBy 3 = some (.istore_n 3, 1) := by decide +kernel
theorem sX7_pagesBy_3 {d : Nat} {σ : aS} {Q : aQ} {l0 l1 l2 lo : Option Value} {x : Int32} {lt : aL} {st : List Value} : aX d iX7_pagesBy 3 (l0 :: l1 :: l2 :: lo :: lt) (.int x :: st) σ Q ↔ aX d iX7_pagesBy 4 (l0 :: l1 :: aclr l2 :: some (.int x) :: lt) (st) σ Q := X_istoren kX7_pagesBy_3 (by simp only [List.length_cons]; omega)
theorem kX7_pagesBy_4 : aCode iX7_pagesBy 4 = some (.iload_n 3, 1) := by decide +kernel
theorem sX7_pagesBy_4 {d : Nat} {σ : aS} {Q : aQ} {l0 l1 l2 : Option Value} {x : Int32} {lt : aL} {st : List Value} : aX d iX7_pagesBy 4 (l0 :: l1 :: l2 :: some (.int x) :: lt) (st) σ Q ↔ aX d iX7_pagesBy 5 (l0 :: l1 :: l2 :: some (.int x) :: lt) (.int x :: st) σ Q := X_iloadn kX7_pagesBy_4 rfl
theorem kX7_pagesBy_5 : aCode iX7_pagesBy 5 = some (.aload_n 0, 1) := by decide +kernel
theorem sX7_pagesBy_5 {d : Nat} {σ : aS} {Q : aQ} {x : Nat} {lt : aL} {st : List Value} : aX d iX7_pagesBy 5 (some (.ref x) :: lt) (st) σ Q ↔ aX d iX7_pagesBy 6 (some (.ref x) :: lt) (.ref x :: st) σ Q := X_aloadn kX7_pagesBy_5 rfl rfl
theorem kX7_pagesBy_6 : aCode iX7_pagesBy 6 = some (.getfield 7, 3) := by decide +kernel
theorem sX7_pagesBy_6 {d : Nat} {σ : aS} {Q : aQ} {a : Nat} {ls : aL} {st : List Value} : aX d iX7_pagesBy 6 (ls) (.ref a :: st) σ Q ↔ ∃ v, aFld σ a 7 0 = some v ∧ aX d iX7_pagesBy 9 (ls) (v :: st) σ Q := X_getf (w := 650) kX7_pagesBy_6 (by decide +kernel)
theorem kX7_pagesBy_9 : aCode iX7_pagesBy 9 = some (.bipush 34, 2) := by decide +kernel
theorem sX7_pagesBy_9 {d : Nat} {σ : aS} {Q : aQ} {ls : aL} {st : List Value} : aX d iX7_pagesBy 9 (ls) (st) σ Q ↔ aX d iX7_pagesBy 11 (ls) (.int (nI 34) :: st) σ Q := X_bipush kX7_pagesBy_9 (by decide +kernel)
theorem kX7_pagesBy_11 : aCode iX7_pagesBy 11 = some (.iaload, 1) := by decide +kernel
theorem sX7_pagesBy_11 {d : Nat} {σ : aS} {Q : aQ} {a : Nat} {i : Int32} {ls : aL} {st : List Value} : aX d iX7_pagesBy 11 (ls) (.int i :: .ref a :: st) σ Q ↔ ∃ x, aRowR σ a = some x ∧ vp_in i x.1 ∧ aX d iX7_pagesBy 12 (ls) (.int (x.2 i.toNatClampNeg) :: st) σ Q := X_iaload kX7_pagesBy_11
theorem kX7_pagesBy_12 : aCode iX7_pagesBy 12 = some (.if_icmp .ge 21, 3) := by decide +kernel
theorem sX7_pagesBy_12 {d : Nat} {σ : aS} {Q : aQ} {x y : Int32} {ls : aL} {st : List Value} : aX d iX7_pagesBy 12 (ls) (.int y :: .int x :: st) σ Q ↔ (if y ≤ x then aX d iX7_pagesBy 33 (ls) (st) σ Q else aX d iX7_pagesBy 15 (ls) (st) σ Q) := by rw [X_icmp kX7_pagesBy_12 (t := 33) (by decide)]; simp only [aCmp_ge]
theorem kX7_pagesBy_15 : aCode iX7_pagesBy 15 = some (.iload_n 2, 1) := by decide +kernel
theorem sX7_pagesBy_15 {d : Nat} {σ : aS} {Q : aQ} {l0 l1 : Option Value} {x : Int32} {lt : aL} {st : List Value} : aX d iX7_pagesBy 15 (l0 :: l1 :: some (.int x) :: lt) (st) σ Q ↔ aX d iX7_pagesBy 16 (l0 :: l1 :: some (.int x) :: lt) (.int x :: st) σ Q := X_iloadn kX7_pagesBy_15 rfl
theorem kX7_pagesBy_16 : aCode iX7_pagesBy 16 = some (.aload_n 0, 1) := by decide +kernel
theorem sX7_pagesBy_16 {d : Nat} {σ : aS} {Q : aQ} {x : Nat} {lt : aL} {st : List Value} : aX d iX7_pagesBy 16 (some (.ref x) :: lt) (st) σ Q ↔ aX d iX7_pagesBy 17 (some (.ref x) :: lt) (.ref x :: st) σ Q := X_aloadn kX7_pagesBy_16 rfl rfl
theorem kX7_pagesBy_17 : aCode iX7_pagesBy 17 = some (.iload_n 3, 1) := by decide +kernel
theorem sX7_pagesBy_17 {d : Nat} {σ : aS} {Q : aQ} {l0 l1 l2 : Option Value} {x : Int32} {lt : aL} {st : List Value} : aX d iX7_pagesBy 17 (l0 :: l1 :: l2 :: some (.int x) :: lt) (st) σ Q ↔ aX d iX7_pagesBy 18 (l0 :: l1 :: l2 :: some (.int x) :: lt) (.int x :: st) σ Q := X_iloadn kX7_pagesBy_17 rfl
theorem kX7_pagesBy_18 : aCode iX7_pagesBy 18 = some (.invokevirtual 66, 3) := by decide +kernel
theorem sX7_pagesBy_18 {d : Nat} {σ : aS} {Q : aQ} {b : Nat} {p0 : Int32} {v0 : Value} {ls : aL} : aX (d + 1) iX7_pagesBy 18 (ls) (.int p0 :: .ref b :: v0 :: []) σ Q ↔ aIs σ b 7 ∧ aX d iX7_seatsOf 0 [some (.ref b), some (.int p0), none, none] [] σ (fun r τ => aX (d + 1) iX7_pagesBy 21 (ls) (aret r (v0 :: [])) τ Q) := X_invv (N := 1) (As := [.int p0]) (w := 810) kX7_pagesBy_18 (by decide +kernel) (by decide +kernel) rfl rfl (by simp only [List.length_cons, List.length_nil]; omega) (by simp only [List.length_cons, List.length_nil]; omega) (by decide +kernel) rfl (Nat.le_of_ble_eq_true rfl)
theorem kX7_pagesBy_21 : aCode iX7_pagesBy 21 = some (.iload_n 1, 1) := by decide +kernel
theorem sX7_pagesBy_21 {d : Nat} {σ : aS} {Q : aQ} {l0 : Option Value} {x : Int32} {lt : aL} {st : List Value} : aX d iX7_pagesBy 21 (l0 :: some (.int x) :: lt) (st) σ Q ↔ aX d iX7_pagesBy 22 (l0 :: some (.int x) :: lt) (.int x :: st) σ Q := X_iloadn kX7_pagesBy_21 rfl
theorem kX7_pagesBy_22 : aCode iX7_pagesBy 22 = some (.ishr, 1) := by decide +kernel
theorem sX7_pagesBy_22 {d : Nat} {σ : aS} {Q : aQ} {x y : Int32} {ls : aL} {st : List Value} : aX d iX7_pagesBy 22 (ls) (.int y :: .int x :: st) σ Q ↔ aX d iX7_pagesBy 23 (ls) (.int (x >>> (y &&& 31)) :: st) σ Q := X_ishr kX7_pagesBy_22
theorem kX7_pagesBy_23 : aCode iX7_pagesBy 23 = some (.iconst 1, 1) := by decide +kernel
theorem sX7_pagesBy_23 {d : Nat} {σ : aS} {Q : aQ} {ls : aL} {st : List Value} : aX d iX7_pagesBy 23 (ls) (st) σ Q ↔ aX d iX7_pagesBy 24 (ls) (.int (nI 1) :: st) σ Q := X_iconst kX7_pagesBy_23 (by decide +kernel)
theorem kX7_pagesBy_24 : aCode iX7_pagesBy 24 = some (.iand, 1) := by decide +kernel
theorem sX7_pagesBy_24 {d : Nat} {σ : aS} {Q : aQ} {x y : Int32} {ls : aL} {st : List Value} : aX d iX7_pagesBy 24 (ls) (.int y :: .int x :: st) σ Q ↔ aX d iX7_pagesBy 25 (ls) (.int (x &&& y) :: st) σ Q := X_iand kX7_pagesBy_24
theorem kX7_pagesBy_25 : aCode iX7_pagesBy 25 = some (.iadd, 1) := by decide +kernel
theorem sX7_pagesBy_25 {d : Nat} {σ : aS} {Q : aQ} {x y : Int32} {ls : aL} {st : List Value} : aX d iX7_pagesBy 25 (ls) (.int y :: .int x :: st) σ Q ↔ aX d iX7_pagesBy 26 (ls) (.int (x + y) :: st) σ Q := X_iadd kX7_pagesBy_25
theorem kX7_pagesBy_26 : aCode iX7_pagesBy 26 = some (.istore_n 2, 1) := by decide +kernel
theorem sX7_pagesBy_26 {d : Nat} {σ : aS} {Q : aQ} {l0 l1 lo : Option Value} {x : Int32} {lt : aL} {st : List Value} : aX d iX7_pagesBy 26 (l0 :: l1 :: lo :: lt) (.int x :: st) σ Q ↔ aX d iX7_pagesBy 27 (l0 :: aclr l1 :: some (.int x) :: lt) (st) σ Q := X_istoren kX7_pagesBy_26 (by simp only [List.length_cons]; omega)
theorem kX7_pagesBy_27 : aCode iX7_pagesBy 27 = some (.iinc 3 1, 3) := by decide +kernel
theorem sX7_pagesBy_27 {d : Nat} {σ : aS} {Q : aQ} {l0 l1 l2 : Option Value} {x : Int32} {lt : aL} {st : List Value} : aX d iX7_pagesBy 27 (l0 :: l1 :: l2 :: some (.int x) :: lt) (st) σ Q ↔ aX d iX7_pagesBy 30 (l0 :: l1 :: aclr l2 :: some (.int (x + nI 1)) :: lt) (st) σ Q := X_iinc kX7_pagesBy_27 rfl (by decide +kernel)
theorem kX7_pagesBy_30 : aCode iX7_pagesBy 30 = some (.goto (-26), 3) := by decide +kernel
theorem sX7_pagesBy_30 {d : Nat} {σ : aS} {Q : aQ} {ls : aL} {st : List Value} : aX d iX7_pagesBy 30 (ls) (st) σ Q ↔ aX d iX7_pagesBy 4 (ls) (st) σ Q := X_goto kX7_pagesBy_30 (by decide)
theorem kX7_pagesBy_33 : aCode iX7_pagesBy 33 = some (.iload_n 2, 1) := by decide +kernel
theorem sX7_pagesBy_33 {d : Nat} {σ : aS} {Q : aQ} {l0 l1 : Option Value} {x : Int32} {lt : aL} {st : List Value} : aX d iX7_pagesBy 33 (l0 :: l1 :: some (.int x) :: lt) (st) σ Q ↔ aX d iX7_pagesBy 34 (l0 :: l1 :: some (.int x) :: lt) (.int x :: st) σ Q := X_iloadn kX7_pagesBy_33 rfl
theorem kX7_pagesBy_34 : aCode iX7_pagesBy 34 = some (.ireturn, 1) := by decide +kernel
theorem sX7_pagesBy_34 {d : Nat} {σ : aS} {Q : aQ} {v : Int32} {ls : aL} : aX d iX7_pagesBy 34 (ls) ([.int v]) σ Q ↔ Q (some (.int v)) σ := X_iret kX7_pagesBy_34 (by decide +kernel)
theorem kX7_seat_0 : aCode iX7_seat 0 = some (.iload_n 1, 1) := by decide +kernel
theorem sX7_seat_0 {d : Nat} {σ : aS} {Q : aQ} {l0 : Option Value} {x : Int32} {lt : aL} {st : List Value} : aX d iX7_seat 0 (l0 :: some (.int x) :: lt) (st) σ Q ↔ aX d iX7_seat 1 (l0 :: some (.int x) :: lt) (.int x :: st) σ Q := X_iloadn kX7_seat_0 rfl
theorem kX7_seat_1 : aCode iX7_seat 1 = some (.invokestatic 105, 3) := by decide +kernel
theorem sX7_seat_1 {d : Nat} {σ : aS} {Q : aQ} {p0 : Int32} {ls : aL} : aX (d + 1) iX7_seat 1 (ls) (.int p0 :: []) σ Q ↔ aX d iX7_isSeat 0 [some (.int p0)] [] σ (fun r τ => aX (d + 1) iX7_seat 4 (ls) (aret r ([])) τ Q) := X_invs (N := 1) (As := [.int p0]) (k := 1) (w := 712) kX7_seat_1 (by decide +kernel) (by decide) (by decide +kernel) rfl rfl (by simp only [List.length_cons, List.length_nil]; omega) (by simp only [List.length_cons, List.length_nil]; omega) rfl (Nat.le_of_ble_eq_true rfl)
theorem kX7_seat_4 : aCode iX7_seat 4 = some (.ifCond .ne 5, 3) := by decide +kernel
theorem sX7_seat_4 {d : Nat} {σ : aS} {Q : aQ} {x : Int32} {ls : aL} {st : List Value} : aX d iX7_seat 4 (ls) (.int x :: st) σ Q ↔ (if ¬ x = nI 0 then aX d iX7_seat 9 (ls) (st) σ Q else aX d iX7_seat 7 (ls) (st) σ Q) := by rw [X_if kX7_seat_4 (t := 9) (by decide)]; simp only [aCmp_ne]
theorem kX7_seat_7 : aCode iX7_seat 7 = some (.iconst (-1), 1) := by decide +kernel
theorem sX7_seat_7 {d : Nat} {σ : aS} {Q : aQ} {ls : aL} {st : List Value} : aX d iX7_seat 7 (ls) (st) σ Q ↔ aX d iX7_seat 8 (ls) (.int ((-1)) :: st) σ Q := X_iconst kX7_seat_7 (by decide +kernel)
theorem kX7_seat_8 : aCode iX7_seat 8 = some (.ireturn, 1) := by decide +kernel
theorem sX7_seat_8 {d : Nat} {σ : aS} {Q : aQ} {v : Int32} {ls : aL} : aX d iX7_seat 8 (ls) ([.int v]) σ Q ↔ Q (some (.int v)) σ := X_iret kX7_seat_8 (by decide +kernel)
theorem kX7_seat_9 : aCode iX7_seat 9 = some (.iload_n 2, 1) := by decide +kernel
theorem sX7_seat_9 {d : Nat} {σ : aS} {Q : aQ} {l0 l1 : Option Value} {x : Int32} {lt : aL} {st : List Value} : aX d iX7_seat 9 (l0 :: l1 :: some (.int x) :: lt) (st) σ Q ↔ aX d iX7_seat 10 (l0 :: l1 :: some (.int x) :: lt) (.int x :: st) σ Q := X_iloadn kX7_seat_9 rfl
theorem kX7_seat_10 : aCode iX7_seat 10 = some (.tableswitch 80 0 4 #[34, 48, 58, 68, 74], 34) := by decide +kernel
theorem sX7_seat_10_0 {d : Nat} {σ : aS} {Q : aQ} {ls : aL} {st : List Value} : aX d iX7_seat 10 (ls) (.int (nI 0) :: st) σ Q ↔ aX d iX7_seat 44 (ls) (st) σ Q := X_tsw kX7_seat_10 ⟨34, by decide +kernel, by decide⟩
theorem sX7_seat_10_1 {d : Nat} {σ : aS} {Q : aQ} {ls : aL} {st : List Value} : aX d iX7_seat 10 (ls) (.int (nI 1) :: st) σ Q ↔ aX d iX7_seat 58 (ls) (st) σ Q := X_tsw kX7_seat_10 ⟨48, by decide +kernel, by decide⟩
theorem sX7_seat_10_2 {d : Nat} {σ : aS} {Q : aQ} {ls : aL} {st : List Value} : aX d iX7_seat 10 (ls) (.int (nI 2) :: st) σ Q ↔ aX d iX7_seat 68 (ls) (st) σ Q := X_tsw kX7_seat_10 ⟨58, by decide +kernel, by decide⟩
theorem sX7_seat_10_3 {d : Nat} {σ : aS} {Q : aQ} {ls : aL} {st : List Value} : aX d iX7_seat 10 (ls) (.int (nI 3) :: st) σ Q ↔ aX d iX7_seat 78 (ls) (st) σ Q := X_tsw kX7_seat_10 ⟨68, by decide +kernel, by decide⟩
theorem sX7_seat_10_4 {d : Nat} {σ : aS} {Q : aQ} {ls : aL} {st : List Value} : aX d iX7_seat 10 (ls) (.int (nI 4) :: st) σ Q ↔ aX d iX7_seat 84 (ls) (st) σ Q := X_tsw kX7_seat_10 ⟨74, by decide +kernel, by decide⟩
theorem sX7_seat_10_d {d : Nat} {σ : aS} {Q : aQ} {x : Int32} {ls : aL} {st : List Value} (h0 : ¬ x = nI 0) (h1 : ¬ x = nI 1) (h2 : ¬ x = nI 2) (h3 : ¬ x = nI 3) (h4 : ¬ x = nI 4) : aX d iX7_seat 10 (ls) (.int x :: st) σ Q ↔ aX d iX7_seat 90 (ls) (st) σ Q := by
  have g0 : ¬ x.toInt = 0 := fun z => h0 (Int32.toInt_inj.mp (z.trans (by decide +kernel)))
  have g1 : ¬ x.toInt = 1 := fun z => h1 (Int32.toInt_inj.mp (z.trans (by decide +kernel)))
  have g2 : ¬ x.toInt = 2 := fun z => h2 (Int32.toInt_inj.mp (z.trans (by decide +kernel)))
  have g3 : ¬ x.toInt = 3 := fun z => h3 (Int32.toInt_inj.mp (z.trans (by decide +kernel)))
  have g4 : ¬ x.toInt = 4 := fun z => h4 (Int32.toInt_inj.mp (z.trans (by decide +kernel)))
  exact X_tsw kX7_seat_10 ⟨80, if_pos (by omega), by decide⟩
theorem kX7_seat_44 : aCode iX7_seat 44 = some (.aload_n 0, 1) := by decide +kernel
theorem sX7_seat_44 {d : Nat} {σ : aS} {Q : aQ} {x : Nat} {lt : aL} {st : List Value} : aX d iX7_seat 44 (some (.ref x) :: lt) (st) σ Q ↔ aX d iX7_seat 45 (some (.ref x) :: lt) (.ref x :: st) σ Q := X_aloadn kX7_seat_44 rfl rfl
theorem kX7_seat_45 : aCode iX7_seat 45 = some (.iload_n 1, 1) := by decide +kernel
theorem sX7_seat_45 {d : Nat} {σ : aS} {Q : aQ} {l0 : Option Value} {x : Int32} {lt : aL} {st : List Value} : aX d iX7_seat 45 (l0 :: some (.int x) :: lt) (st) σ Q ↔ aX d iX7_seat 46 (l0 :: some (.int x) :: lt) (.int x :: st) σ Q := X_iloadn kX7_seat_45 rfl
theorem kX7_seat_46 : aCode iX7_seat 46 = some (.invokevirtual 69, 3) := by decide +kernel
theorem sX7_seat_46 {d : Nat} {σ : aS} {Q : aQ} {b : Nat} {p0 : Int32} {ls : aL} : aX (d + 1) iX7_seat 46 (ls) (.int p0 :: .ref b :: []) σ Q ↔ aIs σ b 7 ∧ aX d iX7_isTaken 0 [some (.ref b), some (.int p0)] [] σ (fun r τ => aX (d + 1) iX7_seat 49 (ls) (aret r ([])) τ Q) := X_invv (N := 1) (As := [.int p0]) (w := 730) kX7_seat_46 (by decide +kernel) (by decide +kernel) rfl rfl (by simp only [List.length_cons, List.length_nil]; omega) (by simp only [List.length_cons, List.length_nil]; omega) (by decide +kernel) rfl (Nat.le_of_ble_eq_true rfl)
theorem kX7_seat_49 : aCode iX7_seat 49 = some (.ifCond .eq 7, 3) := by decide +kernel
theorem sX7_seat_49 {d : Nat} {σ : aS} {Q : aQ} {x : Int32} {ls : aL} {st : List Value} : aX d iX7_seat 49 (ls) (.int x :: st) σ Q ↔ (if x = nI 0 then aX d iX7_seat 56 (ls) (st) σ Q else aX d iX7_seat 52 (ls) (st) σ Q) := by rw [X_if kX7_seat_49 (t := 56) (by decide)]; simp only [aCmp_eq]
theorem kX7_seat_52 : aCode iX7_seat 52 = some (.iconst 1, 1) := by decide +kernel
theorem sX7_seat_52 {d : Nat} {σ : aS} {Q : aQ} {ls : aL} {st : List Value} : aX d iX7_seat 52 (ls) (st) σ Q ↔ aX d iX7_seat 53 (ls) (.int (nI 1) :: st) σ Q := X_iconst kX7_seat_52 (by decide +kernel)
theorem kX7_seat_53 : aCode iX7_seat 53 = some (.goto 4, 3) := by decide +kernel
theorem sX7_seat_53 {d : Nat} {σ : aS} {Q : aQ} {ls : aL} {st : List Value} : aX d iX7_seat 53 (ls) (st) σ Q ↔ aX d iX7_seat 57 (ls) (st) σ Q := X_goto kX7_seat_53 (by decide)
theorem kX7_seat_56 : aCode iX7_seat 56 = some (.iconst 0, 1) := by decide +kernel
theorem sX7_seat_56 {d : Nat} {σ : aS} {Q : aQ} {ls : aL} {st : List Value} : aX d iX7_seat 56 (ls) (st) σ Q ↔ aX d iX7_seat 57 (ls) (.int (nI 0) :: st) σ Q := X_iconst kX7_seat_56 (by decide +kernel)
theorem kX7_seat_57 : aCode iX7_seat 57 = some (.ireturn, 1) := by decide +kernel
theorem sX7_seat_57 {d : Nat} {σ : aS} {Q : aQ} {v : Int32} {ls : aL} : aX d iX7_seat 57 (ls) ([.int v]) σ Q ↔ Q (some (.int v)) σ := X_iret kX7_seat_57 (by decide +kernel)
theorem kX7_seat_58 : aCode iX7_seat 58 = some (.aload_n 0, 1) := by decide +kernel
theorem sX7_seat_58 {d : Nat} {σ : aS} {Q : aQ} {x : Nat} {lt : aL} {st : List Value} : aX d iX7_seat 58 (some (.ref x) :: lt) (st) σ Q ↔ aX d iX7_seat 59 (some (.ref x) :: lt) (.ref x :: st) σ Q := X_aloadn kX7_seat_58 rfl rfl
theorem kX7_seat_59 : aCode iX7_seat 59 = some (.getfield 7, 3) := by decide +kernel
theorem sX7_seat_59 {d : Nat} {σ : aS} {Q : aQ} {a : Nat} {ls : aL} {st : List Value} : aX d iX7_seat 59 (ls) (.ref a :: st) σ Q ↔ ∃ v, aFld σ a 7 0 = some v ∧ aX d iX7_seat 62 (ls) (v :: st) σ Q := X_getf (w := 650) kX7_seat_59 (by decide +kernel)
theorem kX7_seat_62 : aCode iX7_seat 62 = some (.bipush 17, 2) := by decide +kernel
theorem sX7_seat_62 {d : Nat} {σ : aS} {Q : aQ} {ls : aL} {st : List Value} : aX d iX7_seat 62 (ls) (st) σ Q ↔ aX d iX7_seat 64 (ls) (.int (nI 17) :: st) σ Q := X_bipush kX7_seat_62 (by decide +kernel)
theorem kX7_seat_64 : aCode iX7_seat 64 = some (.iload_n 1, 1) := by decide +kernel
theorem sX7_seat_64 {d : Nat} {σ : aS} {Q : aQ} {l0 : Option Value} {x : Int32} {lt : aL} {st : List Value} : aX d iX7_seat 64 (l0 :: some (.int x) :: lt) (st) σ Q ↔ aX d iX7_seat 65 (l0 :: some (.int x) :: lt) (.int x :: st) σ Q := X_iloadn kX7_seat_64 rfl
theorem kX7_seat_65 : aCode iX7_seat 65 = some (.iadd, 1) := by decide +kernel
theorem sX7_seat_65 {d : Nat} {σ : aS} {Q : aQ} {x y : Int32} {ls : aL} {st : List Value} : aX d iX7_seat 65 (ls) (.int y :: .int x :: st) σ Q ↔ aX d iX7_seat 66 (ls) (.int (x + y) :: st) σ Q := X_iadd kX7_seat_65
theorem kX7_seat_66 : aCode iX7_seat 66 = some (.iaload, 1) := by decide +kernel
theorem sX7_seat_66 {d : Nat} {σ : aS} {Q : aQ} {a : Nat} {i : Int32} {ls : aL} {st : List Value} : aX d iX7_seat 66 (ls) (.int i :: .ref a :: st) σ Q ↔ ∃ x, aRowR σ a = some x ∧ vp_in i x.1 ∧ aX d iX7_seat 67 (ls) (.int (x.2 i.toNatClampNeg) :: st) σ Q := X_iaload kX7_seat_66
theorem kX7_seat_67 : aCode iX7_seat 67 = some (.ireturn, 1) := by decide +kernel
theorem sX7_seat_67 {d : Nat} {σ : aS} {Q : aQ} {v : Int32} {ls : aL} : aX d iX7_seat 67 (ls) ([.int v]) σ Q ↔ Q (some (.int v)) σ := X_iret kX7_seat_67 (by decide +kernel)
theorem kX7_seat_68 : aCode iX7_seat 68 = some (.aload_n 0, 1) := by decide +kernel
theorem sX7_seat_68 {d : Nat} {σ : aS} {Q : aQ} {x : Nat} {lt : aL} {st : List Value} : aX d iX7_seat 68 (some (.ref x) :: lt) (st) σ Q ↔ aX d iX7_seat 69 (some (.ref x) :: lt) (.ref x :: st) σ Q := X_aloadn kX7_seat_68 rfl rfl
theorem kX7_seat_69 : aCode iX7_seat 69 = some (.getfield 7, 3) := by decide +kernel
theorem sX7_seat_69 {d : Nat} {σ : aS} {Q : aQ} {a : Nat} {ls : aL} {st : List Value} : aX d iX7_seat 69 (ls) (.ref a :: st) σ Q ↔ ∃ v, aFld σ a 7 0 = some v ∧ aX d iX7_seat 72 (ls) (v :: st) σ Q := X_getf (w := 650) kX7_seat_69 (by decide +kernel)
theorem kX7_seat_72 : aCode iX7_seat 72 = some (.bipush 25, 2) := by decide +kernel
theorem sX7_seat_72 {d : Nat} {σ : aS} {Q : aQ} {ls : aL} {st : List Value} : aX d iX7_seat 72 (ls) (st) σ Q ↔ aX d iX7_seat 74 (ls) (.int (nI 25) :: st) σ Q := X_bipush kX7_seat_72 (by decide +kernel)
theorem kX7_seat_74 : aCode iX7_seat 74 = some (.iload_n 1, 1) := by decide +kernel
theorem sX7_seat_74 {d : Nat} {σ : aS} {Q : aQ} {l0 : Option Value} {x : Int32} {lt : aL} {st : List Value} : aX d iX7_seat 74 (l0 :: some (.int x) :: lt) (st) σ Q ↔ aX d iX7_seat 75 (l0 :: some (.int x) :: lt) (.int x :: st) σ Q := X_iloadn kX7_seat_74 rfl
theorem kX7_seat_75 : aCode iX7_seat 75 = some (.iadd, 1) := by decide +kernel
theorem sX7_seat_75 {d : Nat} {σ : aS} {Q : aQ} {x y : Int32} {ls : aL} {st : List Value} : aX d iX7_seat 75 (ls) (.int y :: .int x :: st) σ Q ↔ aX d iX7_seat 76 (ls) (.int (x + y) :: st) σ Q := X_iadd kX7_seat_75
theorem kX7_seat_76 : aCode iX7_seat 76 = some (.iaload, 1) := by decide +kernel
theorem sX7_seat_76 {d : Nat} {σ : aS} {Q : aQ} {a : Nat} {i : Int32} {ls : aL} {st : List Value} : aX d iX7_seat 76 (ls) (.int i :: .ref a :: st) σ Q ↔ ∃ x, aRowR σ a = some x ∧ vp_in i x.1 ∧ aX d iX7_seat 77 (ls) (.int (x.2 i.toNatClampNeg) :: st) σ Q := X_iaload kX7_seat_76
theorem kX7_seat_77 : aCode iX7_seat 77 = some (.ireturn, 1) := by decide +kernel
theorem sX7_seat_77 {d : Nat} {σ : aS} {Q : aQ} {v : Int32} {ls : aL} : aX d iX7_seat 77 (ls) ([.int v]) σ Q ↔ Q (some (.int v)) σ := X_iret kX7_seat_77 (by decide +kernel)
theorem kX7_seat_78 : aCode iX7_seat 78 = some (.aload_n 0, 1) := by decide +kernel
theorem sX7_seat_78 {d : Nat} {σ : aS} {Q : aQ} {x : Nat} {lt : aL} {st : List Value} : aX d iX7_seat 78 (some (.ref x) :: lt) (st) σ Q ↔ aX d iX7_seat 79 (some (.ref x) :: lt) (.ref x :: st) σ Q := X_aloadn kX7_seat_78 rfl rfl
theorem kX7_seat_79 : aCode iX7_seat 79 = some (.iload_n 1, 1) := by decide +kernel
theorem sX7_seat_79 {d : Nat} {σ : aS} {Q : aQ} {l0 : Option Value} {x : Int32} {lt : aL} {st : List Value} : aX d iX7_seat 79 (l0 :: some (.int x) :: lt) (st) σ Q ↔ aX d iX7_seat 80 (l0 :: some (.int x) :: lt) (.int x :: st) σ Q := X_iloadn kX7_seat_79 rfl
theorem kX7_seat_80 : aCode iX7_seat 80 = some (.invokevirtual 120, 3) := by decide +kernel
theorem sX7_seat_80 {d : Nat} {σ : aS} {Q : aQ} {b : Nat} {p0 : Int32} {ls : aL} : aX (d + 1) iX7_seat 80 (ls) (.int p0 :: .ref b :: []) σ Q ↔ aIs σ b 7 ∧ aX d iX7_albumOf 0 [some (.ref b), some (.int p0), none, none] [] σ (fun r τ => aX (d + 1) iX7_seat 83 (ls) (aret r ([])) τ Q) := X_invv (N := 1) (As := [.int p0]) (w := 746) kX7_seat_80 (by decide +kernel) (by decide +kernel) rfl rfl (by simp only [List.length_cons, List.length_nil]; omega) (by simp only [List.length_cons, List.length_nil]; omega) (by decide +kernel) rfl (Nat.le_of_ble_eq_true rfl)
theorem kX7_seat_83 : aCode iX7_seat 83 = some (.ireturn, 1) := by decide +kernel
theorem sX7_seat_83 {d : Nat} {σ : aS} {Q : aQ} {v : Int32} {ls : aL} : aX d iX7_seat 83 (ls) ([.int v]) σ Q ↔ Q (some (.int v)) σ := X_iret kX7_seat_83 (by decide +kernel)
theorem kX7_seat_84 : aCode iX7_seat 84 = some (.aload_n 0, 1) := by decide +kernel
theorem sX7_seat_84 {d : Nat} {σ : aS} {Q : aQ} {x : Nat} {lt : aL} {st : List Value} : aX d iX7_seat 84 (some (.ref x) :: lt) (st) σ Q ↔ aX d iX7_seat 85 (some (.ref x) :: lt) (.ref x :: st) σ Q := X_aloadn kX7_seat_84 rfl rfl
theorem kX7_seat_85 : aCode iX7_seat 85 = some (.iload_n 1, 1) := by decide +kernel
theorem sX7_seat_85 {d : Nat} {σ : aS} {Q : aQ} {l0 : Option Value} {x : Int32} {lt : aL} {st : List Value} : aX d iX7_seat 85 (l0 :: some (.int x) :: lt) (st) σ Q ↔ aX d iX7_seat 86 (l0 :: some (.int x) :: lt) (.int x :: st) σ Q := X_iloadn kX7_seat_85 rfl
theorem kX7_seat_86 : aCode iX7_seat 86 = some (.invokevirtual 157, 3) := by decide +kernel
theorem sX7_seat_86 {d : Nat} {σ : aS} {Q : aQ} {b : Nat} {p0 : Int32} {ls : aL} : aX (d + 1) iX7_seat 86 (ls) (.int p0 :: .ref b :: []) σ Q ↔ aIs σ b 7 ∧ aX d iX7_pagesBy 0 [some (.ref b), some (.int p0), none, none] [] σ (fun r τ => aX (d + 1) iX7_seat 89 (ls) (aret r ([])) τ Q) := X_invv (N := 1) (As := [.int p0]) (w := 874) kX7_seat_86 (by decide +kernel) (by decide +kernel) rfl rfl (by simp only [List.length_cons, List.length_nil]; omega) (by simp only [List.length_cons, List.length_nil]; omega) (by decide +kernel) rfl (Nat.le_of_ble_eq_true rfl)
theorem kX7_seat_89 : aCode iX7_seat 89 = some (.ireturn, 1) := by decide +kernel
theorem sX7_seat_89 {d : Nat} {σ : aS} {Q : aQ} {v : Int32} {ls : aL} : aX d iX7_seat 89 (ls) ([.int v]) σ Q ↔ Q (some (.int v)) σ := X_iret kX7_seat_89 (by decide +kernel)
theorem kX7_seat_90 : aCode iX7_seat 90 = some (.bipush (-2), 2) := by decide +kernel
theorem sX7_seat_90 {d : Nat} {σ : aS} {Q : aQ} {ls : aL} {st : List Value} : aX d iX7_seat 90 (ls) (st) σ Q ↔ aX d iX7_seat 92 (ls) (.int ((-2)) :: st) σ Q := X_bipush kX7_seat_90 (by decide +kernel)
theorem kX7_seat_92 : aCode iX7_seat 92 = some (.ireturn, 1) := by decide +kernel
theorem sX7_seat_92 {d : Nat} {σ : aS} {Q : aQ} {v : Int32} {ls : aL} : aX d iX7_seat 92 (ls) ([.int v]) σ Q ↔ Q (some (.int v)) σ := X_iret kX7_seat_92 (by decide +kernel)
theorem kX7_word_0 : aCode iX7_word 0 = some (.iload_n 1, 1) := by decide +kernel
theorem sX7_word_0 {d : Nat} {σ : aS} {Q : aQ} {l0 : Option Value} {x : Int32} {lt : aL} {st : List Value} : aX d iX7_word 0 (l0 :: some (.int x) :: lt) (st) σ Q ↔ aX d iX7_word 1 (l0 :: some (.int x) :: lt) (.int x :: st) σ Q := X_iloadn kX7_word_0 rfl
theorem kX7_word_1 : aCode iX7_word 1 = some (.invokestatic 99, 3) := by decide +kernel
theorem sX7_word_1 {d : Nat} {σ : aS} {Q : aQ} {p0 : Int32} {ls : aL} : aX (d + 1) iX7_word 1 (ls) (.int p0 :: []) σ Q ↔ aX d iX7_isWord 0 [some (.int p0)] [] σ (fun r τ => aX (d + 1) iX7_word 4 (ls) (aret r ([])) τ Q) := X_invs (N := 1) (As := [.int p0]) (k := 1) (w := 691) kX7_word_1 (by decide +kernel) (by decide) (by decide +kernel) rfl rfl (by simp only [List.length_cons, List.length_nil]; omega) (by simp only [List.length_cons, List.length_nil]; omega) rfl (Nat.le_of_ble_eq_true rfl)
theorem kX7_word_4 : aCode iX7_word 4 = some (.ifCond .eq 14, 3) := by decide +kernel
theorem sX7_word_4 {d : Nat} {σ : aS} {Q : aQ} {x : Int32} {ls : aL} {st : List Value} : aX d iX7_word 4 (ls) (.int x :: st) σ Q ↔ (if x = nI 0 then aX d iX7_word 18 (ls) (st) σ Q else aX d iX7_word 7 (ls) (st) σ Q) := by rw [X_if kX7_word_4 (t := 18) (by decide)]; simp only [aCmp_eq]
theorem kX7_word_7 : aCode iX7_word 7 = some (.aload_n 0, 1) := by decide +kernel
theorem sX7_word_7 {d : Nat} {σ : aS} {Q : aQ} {x : Nat} {lt : aL} {st : List Value} : aX d iX7_word 7 (some (.ref x) :: lt) (st) σ Q ↔ aX d iX7_word 8 (some (.ref x) :: lt) (.ref x :: st) σ Q := X_aloadn kX7_word_7 rfl rfl
theorem kX7_word_8 : aCode iX7_word 8 = some (.getfield 7, 3) := by decide +kernel
theorem sX7_word_8 {d : Nat} {σ : aS} {Q : aQ} {a : Nat} {ls : aL} {st : List Value} : aX d iX7_word 8 (ls) (.ref a :: st) σ Q ↔ ∃ v, aFld σ a 7 0 = some v ∧ aX d iX7_word 11 (ls) (v :: st) σ Q := X_getf (w := 650) kX7_word_8 (by decide +kernel)
theorem kX7_word_11 : aCode iX7_word 11 = some (.iconst 0, 1) := by decide +kernel
theorem sX7_word_11 {d : Nat} {σ : aS} {Q : aQ} {ls : aL} {st : List Value} : aX d iX7_word 11 (ls) (st) σ Q ↔ aX d iX7_word 12 (ls) (.int (nI 0) :: st) σ Q := X_iconst kX7_word_11 (by decide +kernel)
theorem kX7_word_12 : aCode iX7_word 12 = some (.iload_n 1, 1) := by decide +kernel
theorem sX7_word_12 {d : Nat} {σ : aS} {Q : aQ} {l0 : Option Value} {x : Int32} {lt : aL} {st : List Value} : aX d iX7_word 12 (l0 :: some (.int x) :: lt) (st) σ Q ↔ aX d iX7_word 13 (l0 :: some (.int x) :: lt) (.int x :: st) σ Q := X_iloadn kX7_word_12 rfl
theorem kX7_word_13 : aCode iX7_word 13 = some (.iadd, 1) := by decide +kernel
theorem sX7_word_13 {d : Nat} {σ : aS} {Q : aQ} {x y : Int32} {ls : aL} {st : List Value} : aX d iX7_word 13 (ls) (.int y :: .int x :: st) σ Q ↔ aX d iX7_word 14 (ls) (.int (x + y) :: st) σ Q := X_iadd kX7_word_13
theorem kX7_word_14 : aCode iX7_word 14 = some (.iaload, 1) := by decide +kernel
theorem sX7_word_14 {d : Nat} {σ : aS} {Q : aQ} {a : Nat} {i : Int32} {ls : aL} {st : List Value} : aX d iX7_word 14 (ls) (.int i :: .ref a :: st) σ Q ↔ ∃ x, aRowR σ a = some x ∧ vp_in i x.1 ∧ aX d iX7_word 15 (ls) (.int (x.2 i.toNatClampNeg) :: st) σ Q := X_iaload kX7_word_14
theorem kX7_word_15 : aCode iX7_word 15 = some (.goto 4, 3) := by decide +kernel
theorem sX7_word_15 {d : Nat} {σ : aS} {Q : aQ} {ls : aL} {st : List Value} : aX d iX7_word 15 (ls) (st) σ Q ↔ aX d iX7_word 19 (ls) (st) σ Q := X_goto kX7_word_15 (by decide)
theorem kX7_word_18 : aCode iX7_word 18 = some (.iconst (-1), 1) := by decide +kernel
theorem sX7_word_18 {d : Nat} {σ : aS} {Q : aQ} {ls : aL} {st : List Value} : aX d iX7_word 18 (ls) (st) σ Q ↔ aX d iX7_word 19 (ls) (.int ((-1)) :: st) σ Q := X_iconst kX7_word_18 (by decide +kernel)
theorem kX7_word_19 : aCode iX7_word 19 = some (.ireturn, 1) := by decide +kernel
theorem sX7_word_19 {d : Nat} {σ : aS} {Q : aQ} {v : Int32} {ls : aL} : aX d iX7_word 19 (ls) ([.int v]) σ Q ↔ Q (some (.int v)) σ := X_iret kX7_word_19 (by decide +kernel)
theorem kX7_allPoints_0 : aCode iX7_allPoints 0 = some (.iconst 0, 1) := by decide +kernel
theorem sX7_allPoints_0 {d : Nat} {σ : aS} {Q : aQ} {ls : aL} {st : List Value} : aX d iX7_allPoints 0 (ls) (st) σ Q ↔ aX d iX7_allPoints 1 (ls) (.int (nI 0) :: st) σ Q := X_iconst kX7_allPoints_0 (by decide +kernel)
theorem kX7_allPoints_1 : aCode iX7_allPoints 1 = some (.istore_n 1, 1) := by decide +kernel
theorem sX7_allPoints_1 {d : Nat} {σ : aS} {Q : aQ} {l0 lo : Option Value} {x : Int32} {lt : aL} {st : List Value} : aX d iX7_allPoints 1 (l0 :: lo :: lt) (.int x :: st) σ Q ↔ aX d iX7_allPoints 2 (aclr l0 :: some (.int x) :: lt) (st) σ Q := X_istoren kX7_allPoints_1 (by simp only [List.length_cons]; omega)
theorem kX7_allPoints_2 : aCode iX7_allPoints 2 = some (.iconst 0, 1) := by decide +kernel
theorem sX7_allPoints_2 {d : Nat} {σ : aS} {Q : aQ} {ls : aL} {st : List Value} : aX d iX7_allPoints 2 (ls) (st) σ Q ↔ aX d iX7_allPoints 3 (ls) (.int (nI 0) :: st) σ Q := X_iconst kX7_allPoints_2 (by decide +kernel)
theorem kX7_allPoints_3 : aCode iX7_allPoints 3 = some (.istore_n 2, 1) := by decide +kernel
theorem sX7_allPoints_3 {d : Nat} {σ : aS} {Q : aQ} {l0 l1 lo : Option Value} {x : Int32} {lt : aL} {st : List Value} : aX d iX7_allPoints 3 (l0 :: l1 :: lo :: lt) (.int x :: st) σ Q ↔ aX d iX7_allPoints 4 (l0 :: aclr l1 :: some (.int x) :: lt) (st) σ Q := X_istoren kX7_allPoints_3 (by simp only [List.length_cons]; omega)
theorem kX7_allPoints_4 : aCode iX7_allPoints 4 = some (.iload_n 2, 1) := by decide +kernel
theorem sX7_allPoints_4 {d : Nat} {σ : aS} {Q : aQ} {l0 l1 : Option Value} {x : Int32} {lt : aL} {st : List Value} : aX d iX7_allPoints 4 (l0 :: l1 :: some (.int x) :: lt) (st) σ Q ↔ aX d iX7_allPoints 5 (l0 :: l1 :: some (.int x) :: lt) (.int x :: st) σ Q := X_iloadn kX7_allPoints_4 rfl
theorem kX7_allPoints_5 : aCode iX7_allPoints 5 = some (.bipush 8, 2) := by decide +kernel
theorem sX7_allPoints_5 {d : Nat} {σ : aS} {Q : aQ} {ls : aL} {st : List Value} : aX d iX7_allPoints 5 (ls) (st) σ Q ↔ aX d iX7_allPoints 7 (ls) (.int (nI 8) :: st) σ Q := X_bipush kX7_allPoints_5 (by decide +kernel)
theorem kX7_allPoints_7 : aCode iX7_allPoints 7 = some (.if_icmp .ge 21, 3) := by decide +kernel
theorem sX7_allPoints_7 {d : Nat} {σ : aS} {Q : aQ} {x y : Int32} {ls : aL} {st : List Value} : aX d iX7_allPoints 7 (ls) (.int y :: .int x :: st) σ Q ↔ (if y ≤ x then aX d iX7_allPoints 28 (ls) (st) σ Q else aX d iX7_allPoints 10 (ls) (st) σ Q) := by rw [X_icmp kX7_allPoints_7 (t := 28) (by decide)]; simp only [aCmp_ge]
theorem kX7_allPoints_10 : aCode iX7_allPoints 10 = some (.iload_n 1, 1) := by decide +kernel
theorem sX7_allPoints_10 {d : Nat} {σ : aS} {Q : aQ} {l0 : Option Value} {x : Int32} {lt : aL} {st : List Value} : aX d iX7_allPoints 10 (l0 :: some (.int x) :: lt) (st) σ Q ↔ aX d iX7_allPoints 11 (l0 :: some (.int x) :: lt) (.int x :: st) σ Q := X_iloadn kX7_allPoints_10 rfl
theorem kX7_allPoints_11 : aCode iX7_allPoints 11 = some (.aload_n 0, 1) := by decide +kernel
theorem sX7_allPoints_11 {d : Nat} {σ : aS} {Q : aQ} {x : Nat} {lt : aL} {st : List Value} : aX d iX7_allPoints 11 (some (.ref x) :: lt) (st) σ Q ↔ aX d iX7_allPoints 12 (some (.ref x) :: lt) (.ref x :: st) σ Q := X_aloadn kX7_allPoints_11 rfl rfl
theorem kX7_allPoints_12 : aCode iX7_allPoints 12 = some (.getfield 7, 3) := by decide +kernel
theorem sX7_allPoints_12 {d : Nat} {σ : aS} {Q : aQ} {a : Nat} {ls : aL} {st : List Value} : aX d iX7_allPoints 12 (ls) (.ref a :: st) σ Q ↔ ∃ v, aFld σ a 7 0 = some v ∧ aX d iX7_allPoints 15 (ls) (v :: st) σ Q := X_getf (w := 650) kX7_allPoints_12 (by decide +kernel)
theorem kX7_allPoints_15 : aCode iX7_allPoints 15 = some (.bipush 25, 2) := by decide +kernel
theorem sX7_allPoints_15 {d : Nat} {σ : aS} {Q : aQ} {ls : aL} {st : List Value} : aX d iX7_allPoints 15 (ls) (st) σ Q ↔ aX d iX7_allPoints 17 (ls) (.int (nI 25) :: st) σ Q := X_bipush kX7_allPoints_15 (by decide +kernel)
theorem kX7_allPoints_17 : aCode iX7_allPoints 17 = some (.iload_n 2, 1) := by decide +kernel
theorem sX7_allPoints_17 {d : Nat} {σ : aS} {Q : aQ} {l0 l1 : Option Value} {x : Int32} {lt : aL} {st : List Value} : aX d iX7_allPoints 17 (l0 :: l1 :: some (.int x) :: lt) (st) σ Q ↔ aX d iX7_allPoints 18 (l0 :: l1 :: some (.int x) :: lt) (.int x :: st) σ Q := X_iloadn kX7_allPoints_17 rfl
theorem kX7_allPoints_18 : aCode iX7_allPoints 18 = some (.iadd, 1) := by decide +kernel
theorem sX7_allPoints_18 {d : Nat} {σ : aS} {Q : aQ} {x y : Int32} {ls : aL} {st : List Value} : aX d iX7_allPoints 18 (ls) (.int y :: .int x :: st) σ Q ↔ aX d iX7_allPoints 19 (ls) (.int (x + y) :: st) σ Q := X_iadd kX7_allPoints_18
theorem kX7_allPoints_19 : aCode iX7_allPoints 19 = some (.iaload, 1) := by decide +kernel
theorem sX7_allPoints_19 {d : Nat} {σ : aS} {Q : aQ} {a : Nat} {i : Int32} {ls : aL} {st : List Value} : aX d iX7_allPoints 19 (ls) (.int i :: .ref a :: st) σ Q ↔ ∃ x, aRowR σ a = some x ∧ vp_in i x.1 ∧ aX d iX7_allPoints 20 (ls) (.int (x.2 i.toNatClampNeg) :: st) σ Q := X_iaload kX7_allPoints_19
theorem kX7_allPoints_20 : aCode iX7_allPoints 20 = some (.iadd, 1) := by decide +kernel
theorem sX7_allPoints_20 {d : Nat} {σ : aS} {Q : aQ} {x y : Int32} {ls : aL} {st : List Value} : aX d iX7_allPoints 20 (ls) (.int y :: .int x :: st) σ Q ↔ aX d iX7_allPoints 21 (ls) (.int (x + y) :: st) σ Q := X_iadd kX7_allPoints_20
theorem kX7_allPoints_21 : aCode iX7_allPoints 21 = some (.istore_n 1, 1) := by decide +kernel
theorem sX7_allPoints_21 {d : Nat} {σ : aS} {Q : aQ} {l0 lo : Option Value} {x : Int32} {lt : aL} {st : List Value} : aX d iX7_allPoints 21 (l0 :: lo :: lt) (.int x :: st) σ Q ↔ aX d iX7_allPoints 22 (aclr l0 :: some (.int x) :: lt) (st) σ Q := X_istoren kX7_allPoints_21 (by simp only [List.length_cons]; omega)
theorem kX7_allPoints_22 : aCode iX7_allPoints 22 = some (.iinc 2 1, 3) := by decide +kernel
theorem sX7_allPoints_22 {d : Nat} {σ : aS} {Q : aQ} {l0 l1 : Option Value} {x : Int32} {lt : aL} {st : List Value} : aX d iX7_allPoints 22 (l0 :: l1 :: some (.int x) :: lt) (st) σ Q ↔ aX d iX7_allPoints 25 (l0 :: aclr l1 :: some (.int (x + nI 1)) :: lt) (st) σ Q := X_iinc kX7_allPoints_22 rfl (by decide +kernel)
theorem kX7_allPoints_25 : aCode iX7_allPoints 25 = some (.goto (-21), 3) := by decide +kernel
theorem sX7_allPoints_25 {d : Nat} {σ : aS} {Q : aQ} {ls : aL} {st : List Value} : aX d iX7_allPoints 25 (ls) (st) σ Q ↔ aX d iX7_allPoints 4 (ls) (st) σ Q := X_goto kX7_allPoints_25 (by decide)
theorem kX7_allPoints_28 : aCode iX7_allPoints 28 = some (.iload_n 1, 1) := by decide +kernel
theorem sX7_allPoints_28 {d : Nat} {σ : aS} {Q : aQ} {l0 : Option Value} {x : Int32} {lt : aL} {st : List Value} : aX d iX7_allPoints 28 (l0 :: some (.int x) :: lt) (st) σ Q ↔ aX d iX7_allPoints 29 (l0 :: some (.int x) :: lt) (.int x :: st) σ Q := X_iloadn kX7_allPoints_28 rfl
theorem kX7_allPoints_29 : aCode iX7_allPoints 29 = some (.ireturn, 1) := by decide +kernel
theorem sX7_allPoints_29 {d : Nat} {σ : aS} {Q : aQ} {v : Int32} {ls : aL} : aX d iX7_allPoints 29 (ls) ([.int v]) σ Q ↔ Q (some (.int v)) σ := X_iret kX7_allPoints_29 (by decide +kernel)
theorem kX7_count_0 : aCode iX7_count 0 = some (.iload_n 1, 1) := by decide +kernel
theorem sX7_count_0 {d : Nat} {σ : aS} {Q : aQ} {l0 : Option Value} {x : Int32} {lt : aL} {st : List Value} : aX d iX7_count 0 (l0 :: some (.int x) :: lt) (st) σ Q ↔ aX d iX7_count 1 (l0 :: some (.int x) :: lt) (.int x :: st) σ Q := X_iloadn kX7_count_0 rfl
theorem kX7_count_1 : aCode iX7_count 1 = some (.tableswitch 98 0 8 #[51, 59, 67, 67, 67, 75, 83, 88, 93], 51) := by decide +kernel
theorem sX7_count_1_0 {d : Nat} {σ : aS} {Q : aQ} {ls : aL} {st : List Value} : aX d iX7_count 1 (ls) (.int (nI 0) :: st) σ Q ↔ aX d iX7_count 52 (ls) (st) σ Q := X_tsw kX7_count_1 ⟨51, by decide +kernel, by decide⟩
theorem sX7_count_1_1 {d : Nat} {σ : aS} {Q : aQ} {ls : aL} {st : List Value} : aX d iX7_count 1 (ls) (.int (nI 1) :: st) σ Q ↔ aX d iX7_count 60 (ls) (st) σ Q := X_tsw kX7_count_1 ⟨59, by decide +kernel, by decide⟩
theorem sX7_count_1_2 {d : Nat} {σ : aS} {Q : aQ} {ls : aL} {st : List Value} : aX d iX7_count 1 (ls) (.int (nI 2) :: st) σ Q ↔ aX d iX7_count 68 (ls) (st) σ Q := X_tsw kX7_count_1 ⟨67, by decide +kernel, by decide⟩
theorem sX7_count_1_3 {d : Nat} {σ : aS} {Q : aQ} {ls : aL} {st : List Value} : aX d iX7_count 1 (ls) (.int (nI 3) :: st) σ Q ↔ aX d iX7_count 68 (ls) (st) σ Q := X_tsw kX7_count_1 ⟨67, by decide +kernel, by decide⟩
theorem sX7_count_1_4 {d : Nat} {σ : aS} {Q : aQ} {ls : aL} {st : List Value} : aX d iX7_count 1 (ls) (.int (nI 4) :: st) σ Q ↔ aX d iX7_count 68 (ls) (st) σ Q := X_tsw kX7_count_1 ⟨67, by decide +kernel, by decide⟩
theorem sX7_count_1_5 {d : Nat} {σ : aS} {Q : aQ} {ls : aL} {st : List Value} : aX d iX7_count 1 (ls) (.int (nI 5) :: st) σ Q ↔ aX d iX7_count 76 (ls) (st) σ Q := X_tsw kX7_count_1 ⟨75, by decide +kernel, by decide⟩
theorem sX7_count_1_6 {d : Nat} {σ : aS} {Q : aQ} {ls : aL} {st : List Value} : aX d iX7_count 1 (ls) (.int (nI 6) :: st) σ Q ↔ aX d iX7_count 84 (ls) (st) σ Q := X_tsw kX7_count_1 ⟨83, by decide +kernel, by decide⟩
theorem sX7_count_1_7 {d : Nat} {σ : aS} {Q : aQ} {ls : aL} {st : List Value} : aX d iX7_count 1 (ls) (.int (nI 7) :: st) σ Q ↔ aX d iX7_count 89 (ls) (st) σ Q := X_tsw kX7_count_1 ⟨88, by decide +kernel, by decide⟩
theorem sX7_count_1_8 {d : Nat} {σ : aS} {Q : aQ} {ls : aL} {st : List Value} : aX d iX7_count 1 (ls) (.int (nI 8) :: st) σ Q ↔ aX d iX7_count 94 (ls) (st) σ Q := X_tsw kX7_count_1 ⟨93, by decide +kernel, by decide⟩
theorem sX7_count_1_d {d : Nat} {σ : aS} {Q : aQ} {x : Int32} {ls : aL} {st : List Value} (h0 : ¬ x = nI 0) (h1 : ¬ x = nI 1) (h2 : ¬ x = nI 2) (h3 : ¬ x = nI 3) (h4 : ¬ x = nI 4) (h5 : ¬ x = nI 5) (h6 : ¬ x = nI 6) (h7 : ¬ x = nI 7) (h8 : ¬ x = nI 8) : aX d iX7_count 1 (ls) (.int x :: st) σ Q ↔ aX d iX7_count 99 (ls) (st) σ Q := by
  have g0 : ¬ x.toInt = 0 := fun z => h0 (Int32.toInt_inj.mp (z.trans (by decide +kernel)))
  have g1 : ¬ x.toInt = 1 := fun z => h1 (Int32.toInt_inj.mp (z.trans (by decide +kernel)))
  have g2 : ¬ x.toInt = 2 := fun z => h2 (Int32.toInt_inj.mp (z.trans (by decide +kernel)))
  have g3 : ¬ x.toInt = 3 := fun z => h3 (Int32.toInt_inj.mp (z.trans (by decide +kernel)))
  have g4 : ¬ x.toInt = 4 := fun z => h4 (Int32.toInt_inj.mp (z.trans (by decide +kernel)))
  have g5 : ¬ x.toInt = 5 := fun z => h5 (Int32.toInt_inj.mp (z.trans (by decide +kernel)))
  have g6 : ¬ x.toInt = 6 := fun z => h6 (Int32.toInt_inj.mp (z.trans (by decide +kernel)))
  have g7 : ¬ x.toInt = 7 := fun z => h7 (Int32.toInt_inj.mp (z.trans (by decide +kernel)))
  have g8 : ¬ x.toInt = 8 := fun z => h8 (Int32.toInt_inj.mp (z.trans (by decide +kernel)))
  exact X_tsw kX7_count_1 ⟨98, if_pos (by omega), by decide⟩
theorem kX7_count_52 : aCode iX7_count 52 = some (.aload_n 0, 1) := by decide +kernel
theorem sX7_count_52 {d : Nat} {σ : aS} {Q : aQ} {x : Nat} {lt : aL} {st : List Value} : aX d iX7_count 52 (some (.ref x) :: lt) (st) σ Q ↔ aX d iX7_count 53 (some (.ref x) :: lt) (.ref x :: st) σ Q := X_aloadn kX7_count_52 rfl rfl
theorem kX7_count_53 : aCode iX7_count 53 = some (.getfield 7, 3) := by decide +kernel
theorem sX7_count_53 {d : Nat} {σ : aS} {Q : aQ} {a : Nat} {ls : aL} {st : List Value} : aX d iX7_count 53 (ls) (.ref a :: st) σ Q ↔ ∃ v, aFld σ a 7 0 = some v ∧ aX d iX7_count 56 (ls) (v :: st) σ Q := X_getf (w := 650) kX7_count_53 (by decide +kernel)
theorem kX7_count_56 : aCode iX7_count 56 = some (.bipush 16, 2) := by decide +kernel
theorem sX7_count_56 {d : Nat} {σ : aS} {Q : aQ} {ls : aL} {st : List Value} : aX d iX7_count 56 (ls) (st) σ Q ↔ aX d iX7_count 58 (ls) (.int (nI 16) :: st) σ Q := X_bipush kX7_count_56 (by decide +kernel)
theorem kX7_count_58 : aCode iX7_count 58 = some (.iaload, 1) := by decide +kernel
theorem sX7_count_58 {d : Nat} {σ : aS} {Q : aQ} {a : Nat} {i : Int32} {ls : aL} {st : List Value} : aX d iX7_count 58 (ls) (.int i :: .ref a :: st) σ Q ↔ ∃ x, aRowR σ a = some x ∧ vp_in i x.1 ∧ aX d iX7_count 59 (ls) (.int (x.2 i.toNatClampNeg) :: st) σ Q := X_iaload kX7_count_58
theorem kX7_count_59 : aCode iX7_count 59 = some (.ireturn, 1) := by decide +kernel
theorem sX7_count_59 {d : Nat} {σ : aS} {Q : aQ} {v : Int32} {ls : aL} : aX d iX7_count 59 (ls) ([.int v]) σ Q ↔ Q (some (.int v)) σ := X_iret kX7_count_59 (by decide +kernel)
theorem kX7_count_60 : aCode iX7_count 60 = some (.aload_n 0, 1) := by decide +kernel
theorem sX7_count_60 {d : Nat} {σ : aS} {Q : aQ} {x : Nat} {lt : aL} {st : List Value} : aX d iX7_count 60 (some (.ref x) :: lt) (st) σ Q ↔ aX d iX7_count 61 (some (.ref x) :: lt) (.ref x :: st) σ Q := X_aloadn kX7_count_60 rfl rfl
theorem kX7_count_61 : aCode iX7_count 61 = some (.getfield 7, 3) := by decide +kernel
theorem sX7_count_61 {d : Nat} {σ : aS} {Q : aQ} {a : Nat} {ls : aL} {st : List Value} : aX d iX7_count 61 (ls) (.ref a :: st) σ Q ↔ ∃ v, aFld σ a 7 0 = some v ∧ aX d iX7_count 64 (ls) (v :: st) σ Q := X_getf (w := 650) kX7_count_61 (by decide +kernel)
theorem kX7_count_64 : aCode iX7_count 64 = some (.bipush 34, 2) := by decide +kernel
theorem sX7_count_64 {d : Nat} {σ : aS} {Q : aQ} {ls : aL} {st : List Value} : aX d iX7_count 64 (ls) (st) σ Q ↔ aX d iX7_count 66 (ls) (.int (nI 34) :: st) σ Q := X_bipush kX7_count_64 (by decide +kernel)
theorem kX7_count_66 : aCode iX7_count 66 = some (.iaload, 1) := by decide +kernel
theorem sX7_count_66 {d : Nat} {σ : aS} {Q : aQ} {a : Nat} {i : Int32} {ls : aL} {st : List Value} : aX d iX7_count 66 (ls) (.int i :: .ref a :: st) σ Q ↔ ∃ x, aRowR σ a = some x ∧ vp_in i x.1 ∧ aX d iX7_count 67 (ls) (.int (x.2 i.toNatClampNeg) :: st) σ Q := X_iaload kX7_count_66
theorem kX7_count_67 : aCode iX7_count 67 = some (.ireturn, 1) := by decide +kernel
theorem sX7_count_67 {d : Nat} {σ : aS} {Q : aQ} {v : Int32} {ls : aL} : aX d iX7_count 67 (ls) ([.int v]) σ Q ↔ Q (some (.int v)) σ := X_iret kX7_count_67 (by decide +kernel)
theorem kX7_count_68 : aCode iX7_count 68 = some (.aload_n 0, 1) := by decide +kernel
theorem sX7_count_68 {d : Nat} {σ : aS} {Q : aQ} {x : Nat} {lt : aL} {st : List Value} : aX d iX7_count 68 (some (.ref x) :: lt) (st) σ Q ↔ aX d iX7_count 69 (some (.ref x) :: lt) (.ref x :: st) σ Q := X_aloadn kX7_count_68 rfl rfl
theorem kX7_count_69 : aCode iX7_count 69 = some (.iload_n 1, 1) := by decide +kernel
theorem sX7_count_69 {d : Nat} {σ : aS} {Q : aQ} {l0 : Option Value} {x : Int32} {lt : aL} {st : List Value} : aX d iX7_count 69 (l0 :: some (.int x) :: lt) (st) σ Q ↔ aX d iX7_count 70 (l0 :: some (.int x) :: lt) (.int x :: st) σ Q := X_iloadn kX7_count_69 rfl
theorem kX7_count_70 : aCode iX7_count 70 = some (.iconst 2, 1) := by decide +kernel
theorem sX7_count_70 {d : Nat} {σ : aS} {Q : aQ} {ls : aL} {st : List Value} : aX d iX7_count 70 (ls) (st) σ Q ↔ aX d iX7_count 71 (ls) (.int (nI 2) :: st) σ Q := X_iconst kX7_count_70 (by decide +kernel)
theorem kX7_count_71 : aCode iX7_count 71 = some (.isub, 1) := by decide +kernel
theorem sX7_count_71 {d : Nat} {σ : aS} {Q : aQ} {x y : Int32} {ls : aL} {st : List Value} : aX d iX7_count 71 (ls) (.int y :: .int x :: st) σ Q ↔ aX d iX7_count 72 (ls) (.int (x - y) :: st) σ Q := X_isub kX7_count_71
theorem kX7_count_72 : aCode iX7_count 72 = some (.invokevirtual 144, 3) := by decide +kernel
theorem sX7_count_72 {d : Nat} {σ : aS} {Q : aQ} {b : Nat} {p0 : Int32} {ls : aL} : aX (d + 1) iX7_count 72 (ls) (.int p0 :: .ref b :: []) σ Q ↔ aIs σ b 7 ∧ aX d iX7_withHow 0 [some (.ref b), some (.int p0), none, none] [] σ (fun r τ => aX (d + 1) iX7_count 75 (ls) (aret r ([])) τ Q) := X_invv (N := 1) (As := [.int p0]) (w := 842) kX7_count_72 (by decide +kernel) (by decide +kernel) rfl rfl (by simp only [List.length_cons, List.length_nil]; omega) (by simp only [List.length_cons, List.length_nil]; omega) (by decide +kernel) rfl (Nat.le_of_ble_eq_true rfl)
theorem kX7_count_75 : aCode iX7_count 75 = some (.ireturn, 1) := by decide +kernel
theorem sX7_count_75 {d : Nat} {σ : aS} {Q : aQ} {v : Int32} {ls : aL} : aX d iX7_count 75 (ls) ([.int v]) σ Q ↔ Q (some (.int v)) σ := X_iret kX7_count_75 (by decide +kernel)
theorem kX7_count_76 : aCode iX7_count 76 = some (.aload_n 0, 1) := by decide +kernel
theorem sX7_count_76 {d : Nat} {σ : aS} {Q : aQ} {x : Nat} {lt : aL} {st : List Value} : aX d iX7_count 76 (some (.ref x) :: lt) (st) σ Q ↔ aX d iX7_count 77 (some (.ref x) :: lt) (.ref x :: st) σ Q := X_aloadn kX7_count_76 rfl rfl
theorem kX7_count_77 : aCode iX7_count 77 = some (.getfield 7, 3) := by decide +kernel
theorem sX7_count_77 {d : Nat} {σ : aS} {Q : aQ} {a : Nat} {ls : aL} {st : List Value} : aX d iX7_count 77 (ls) (.ref a :: st) σ Q ↔ ∃ v, aFld σ a 7 0 = some v ∧ aX d iX7_count 80 (ls) (v :: st) σ Q := X_getf (w := 650) kX7_count_77 (by decide +kernel)
theorem kX7_count_80 : aCode iX7_count 80 = some (.bipush 33, 2) := by decide +kernel
theorem sX7_count_80 {d : Nat} {σ : aS} {Q : aQ} {ls : aL} {st : List Value} : aX d iX7_count 80 (ls) (st) σ Q ↔ aX d iX7_count 82 (ls) (.int (nI 33) :: st) σ Q := X_bipush kX7_count_80 (by decide +kernel)
theorem kX7_count_82 : aCode iX7_count 82 = some (.iaload, 1) := by decide +kernel
theorem sX7_count_82 {d : Nat} {σ : aS} {Q : aQ} {a : Nat} {i : Int32} {ls : aL} {st : List Value} : aX d iX7_count 82 (ls) (.int i :: .ref a :: st) σ Q ↔ ∃ x, aRowR σ a = some x ∧ vp_in i x.1 ∧ aX d iX7_count 83 (ls) (.int (x.2 i.toNatClampNeg) :: st) σ Q := X_iaload kX7_count_82
theorem kX7_count_83 : aCode iX7_count 83 = some (.ireturn, 1) := by decide +kernel
theorem sX7_count_83 {d : Nat} {σ : aS} {Q : aQ} {v : Int32} {ls : aL} : aX d iX7_count 83 (ls) ([.int v]) σ Q ↔ Q (some (.int v)) σ := X_iret kX7_count_83 (by decide +kernel)
theorem kX7_count_84 : aCode iX7_count 84 = some (.aload_n 0, 1) := by decide +kernel
theorem sX7_count_84 {d : Nat} {σ : aS} {Q : aQ} {x : Nat} {lt : aL} {st : List Value} : aX d iX7_count 84 (some (.ref x) :: lt) (st) σ Q ↔ aX d iX7_count 85 (some (.ref x) :: lt) (.ref x :: st) σ Q := X_aloadn kX7_count_84 rfl rfl
theorem kX7_count_85 : aCode iX7_count 85 = some (.invokevirtual 160, 3) := by decide +kernel
theorem sX7_count_85 {d : Nat} {σ : aS} {Q : aQ} {b : Nat} {ls : aL} : aX (d + 1) iX7_count 85 (ls) (.ref b :: []) σ Q ↔ aIs σ b 7 ∧ aX d iX7_allPoints 0 [some (.ref b), none, none] [] σ (fun r τ => aX (d + 1) iX7_count 88 (ls) (aret r ([])) τ Q) := X_invv (N := 0) (As := []) (w := 886) kX7_count_85 (by decide +kernel) (by decide +kernel) rfl rfl (by simp only [List.length_cons, List.length_nil]; omega) (by simp only [List.length_cons, List.length_nil]; omega) (by decide +kernel) rfl (Nat.le_of_ble_eq_true rfl)
theorem kX7_count_88 : aCode iX7_count 88 = some (.ireturn, 1) := by decide +kernel
theorem sX7_count_88 {d : Nat} {σ : aS} {Q : aQ} {v : Int32} {ls : aL} : aX d iX7_count 88 (ls) ([.int v]) σ Q ↔ Q (some (.int v)) σ := X_iret kX7_count_88 (by decide +kernel)
theorem kX7_count_89 : aCode iX7_count 89 = some (.aload_n 0, 1) := by decide +kernel
theorem sX7_count_89 {d : Nat} {σ : aS} {Q : aQ} {x : Nat} {lt : aL} {st : List Value} : aX d iX7_count 89 (some (.ref x) :: lt) (st) σ Q ↔ aX d iX7_count 90 (some (.ref x) :: lt) (.ref x :: st) σ Q := X_aloadn kX7_count_89 rfl rfl
theorem kX7_count_90 : aCode iX7_count 90 = some (.getfield 163, 3) := by decide +kernel
theorem sX7_count_90 {d : Nat} {σ : aS} {Q : aQ} {a : Nat} {ls : aL} {st : List Value} : aX d iX7_count 90 (ls) (.ref a :: st) σ Q ↔ ∃ v, aFld σ a 7 7 = some v ∧ aX d iX7_count 93 (ls) (v :: st) σ Q := X_getf (w := 657) kX7_count_90 (by decide +kernel)
theorem kX7_count_93 : aCode iX7_count 93 = some (.ireturn, 1) := by decide +kernel
theorem sX7_count_93 {d : Nat} {σ : aS} {Q : aQ} {v : Int32} {ls : aL} : aX d iX7_count 93 (ls) ([.int v]) σ Q ↔ Q (some (.int v)) σ := X_iret kX7_count_93 (by decide +kernel)
theorem kX7_count_94 : aCode iX7_count 94 = some (.aload_n 0, 1) := by decide +kernel
theorem sX7_count_94 {d : Nat} {σ : aS} {Q : aQ} {x : Nat} {lt : aL} {st : List Value} : aX d iX7_count 94 (some (.ref x) :: lt) (st) σ Q ↔ aX d iX7_count 95 (some (.ref x) :: lt) (.ref x :: st) σ Q := X_aloadn kX7_count_94 rfl rfl
theorem kX7_count_95 : aCode iX7_count 95 = some (.getfield 28, 3) := by decide +kernel
theorem sX7_count_95 {d : Nat} {σ : aS} {Q : aQ} {a : Nat} {ls : aL} {st : List Value} : aX d iX7_count 95 (ls) (.ref a :: st) σ Q ↔ ∃ v, aFld σ a 7 3 = some v ∧ aX d iX7_count 98 (ls) (v :: st) σ Q := X_getf (w := 653) kX7_count_95 (by decide +kernel)
theorem kX7_count_98 : aCode iX7_count 98 = some (.ireturn, 1) := by decide +kernel
theorem sX7_count_98 {d : Nat} {σ : aS} {Q : aQ} {v : Int32} {ls : aL} : aX d iX7_count 98 (ls) ([.int v]) σ Q ↔ Q (some (.int v)) σ := X_iret kX7_count_98 (by decide +kernel)
theorem kX7_count_99 : aCode iX7_count 99 = some (.bipush (-2), 2) := by decide +kernel
theorem sX7_count_99 {d : Nat} {σ : aS} {Q : aQ} {ls : aL} {st : List Value} : aX d iX7_count 99 (ls) (st) σ Q ↔ aX d iX7_count 101 (ls) (.int ((-2)) :: st) σ Q := X_bipush kX7_count_99 (by decide +kernel)
theorem kX7_count_101 : aCode iX7_count 101 = some (.ireturn, 1) := by decide +kernel
theorem sX7_count_101 {d : Nat} {σ : aS} {Q : aQ} {v : Int32} {ls : aL} : aX d iX7_count 101 (ls) ([.int v]) σ Q ↔ Q (some (.int v)) σ := X_iret kX7_count_101 (by decide +kernel)
theorem kX7_guess_0 : aCode iX7_guess 0 = some (.iload_n 1, 1) := by decide +kernel
theorem sX7_guess_0 {d : Nat} {σ : aS} {Q : aQ} {l0 : Option Value} {x : Int32} {lt : aL} {st : List Value} : aX d iX7_guess 0 (l0 :: some (.int x) :: lt) (st) σ Q ↔ aX d iX7_guess 1 (l0 :: some (.int x) :: lt) (.int x :: st) σ Q := X_iloadn kX7_guess_0 rfl
theorem kX7_guess_1 : aCode iX7_guess 1 = some (.iconst 0, 1) := by decide +kernel
theorem sX7_guess_1 {d : Nat} {σ : aS} {Q : aQ} {ls : aL} {st : List Value} : aX d iX7_guess 1 (ls) (st) σ Q ↔ aX d iX7_guess 2 (ls) (.int (nI 0) :: st) σ Q := X_iconst kX7_guess_1 (by decide +kernel)
theorem kX7_guess_2 : aCode iX7_guess 2 = some (.sipush 4095, 3) := by decide +kernel
theorem sX7_guess_2 {d : Nat} {σ : aS} {Q : aQ} {ls : aL} {st : List Value} : aX d iX7_guess 2 (ls) (st) σ Q ↔ aX d iX7_guess 5 (ls) (.int (nI 4095) :: st) σ Q := X_sipush kX7_guess_2 (by decide +kernel)
theorem kX7_guess_5 : aCode iX7_guess 5 = some (.invokestatic 36, 3) := by decide +kernel
theorem sX7_guess_5 {d : Nat} {σ : aS} {Q : aQ} {p0 : Int32} {p1 : Int32} {p2 : Int32} {ls : aL} : aX (d + 1) iX7_guess 5 (ls) (.int p2 :: .int p1 :: .int p0 :: []) σ Q ↔ aX d iX7_within 0 [some (.int p0), some (.int p1), some (.int p2)] [] σ (fun r τ => aX (d + 1) iX7_guess 8 (ls) (aret r ([])) τ Q) := X_invs (N := 3) (As := [.int p2, .int p1, .int p0]) (k := 1) (w := 694) kX7_guess_5 (by decide +kernel) (by decide) (by decide +kernel) rfl rfl (by simp only [List.length_cons, List.length_nil]; omega) (by simp only [List.length_cons, List.length_nil]; omega) rfl (Nat.le_of_ble_eq_true rfl)
theorem kX7_guess_8 : aCode iX7_guess 8 = some (.ifCond .eq 11, 3) := by decide +kernel
theorem sX7_guess_8 {d : Nat} {σ : aS} {Q : aQ} {x : Int32} {ls : aL} {st : List Value} : aX d iX7_guess 8 (ls) (.int x :: st) σ Q ↔ (if x = nI 0 then aX d iX7_guess 19 (ls) (st) σ Q else aX d iX7_guess 11 (ls) (st) σ Q) := by rw [X_if kX7_guess_8 (t := 19) (by decide)]; simp only [aCmp_eq]
theorem kX7_guess_11 : aCode iX7_guess 11 = some (.aload_n 0, 1) := by decide +kernel
theorem sX7_guess_11 {d : Nat} {σ : aS} {Q : aQ} {x : Nat} {lt : aL} {st : List Value} : aX d iX7_guess 11 (some (.ref x) :: lt) (st) σ Q ↔ aX d iX7_guess 12 (some (.ref x) :: lt) (.ref x :: st) σ Q := X_aloadn kX7_guess_11 rfl rfl
theorem kX7_guess_12 : aCode iX7_guess 12 = some (.iload_n 1, 1) := by decide +kernel
theorem sX7_guess_12 {d : Nat} {σ : aS} {Q : aQ} {l0 : Option Value} {x : Int32} {lt : aL} {st : List Value} : aX d iX7_guess 12 (l0 :: some (.int x) :: lt) (st) σ Q ↔ aX d iX7_guess 13 (l0 :: some (.int x) :: lt) (.int x :: st) σ Q := X_iloadn kX7_guess_12 rfl
theorem kX7_guess_13 : aCode iX7_guess 13 = some (.invokevirtual 82, 3) := by decide +kernel
theorem sX7_guess_13 {d : Nat} {σ : aS} {Q : aQ} {b : Nat} {p0 : Int32} {ls : aL} : aX (d + 1) iX7_guess 13 (ls) (.int p0 :: .ref b :: []) σ Q ↔ aIs σ b 7 ∧ aX d iX7_guessed 0 [some (.ref b), some (.int p0), none, none] [] σ (fun r τ => aX (d + 1) iX7_guess 16 (ls) (aret r ([])) τ Q) := X_invv (N := 1) (As := [.int p0]) (w := 838) kX7_guess_13 (by decide +kernel) (by decide +kernel) rfl rfl (by simp only [List.length_cons, List.length_nil]; omega) (by simp only [List.length_cons, List.length_nil]; omega) (by decide +kernel) rfl (Nat.le_of_ble_eq_true rfl)
theorem kX7_guess_16 : aCode iX7_guess 16 = some (.goto 5, 3) := by decide +kernel
theorem sX7_guess_16 {d : Nat} {σ : aS} {Q : aQ} {ls : aL} {st : List Value} : aX d iX7_guess 16 (ls) (st) σ Q ↔ aX d iX7_guess 21 (ls) (st) σ Q := X_goto kX7_guess_16 (by decide)
theorem kX7_guess_19 : aCode iX7_guess 19 = some (.bipush (-2), 2) := by decide +kernel
theorem sX7_guess_19 {d : Nat} {σ : aS} {Q : aQ} {ls : aL} {st : List Value} : aX d iX7_guess 19 (ls) (st) σ Q ↔ aX d iX7_guess 21 (ls) (.int ((-2)) :: st) σ Q := X_bipush kX7_guess_19 (by decide +kernel)
theorem kX7_guess_21 : aCode iX7_guess 21 = some (.ireturn, 1) := by decide +kernel
theorem sX7_guess_21 {d : Nat} {σ : aS} {Q : aQ} {v : Int32} {ls : aL} : aX d iX7_guess 21 (ls) ([.int v]) σ Q ↔ Q (some (.int v)) σ := X_iret kX7_guess_21 (by decide +kernel)
theorem kX7_foretold_0 : aCode iX7_foretold 0 = some (.aload_n 0, 1) := by decide +kernel
theorem sX7_foretold_0 {d : Nat} {σ : aS} {Q : aQ} {x : Nat} {lt : aL} {st : List Value} : aX d iX7_foretold 0 (some (.ref x) :: lt) (st) σ Q ↔ aX d iX7_foretold 1 (some (.ref x) :: lt) (.ref x :: st) σ Q := X_aloadn kX7_foretold_0 rfl rfl
theorem kX7_foretold_1 : aCode iX7_foretold 1 = some (.iload_n 1, 1) := by decide +kernel
theorem sX7_foretold_1 {d : Nat} {σ : aS} {Q : aQ} {l0 : Option Value} {x : Int32} {lt : aL} {st : List Value} : aX d iX7_foretold 1 (l0 :: some (.int x) :: lt) (st) σ Q ↔ aX d iX7_foretold 2 (l0 :: some (.int x) :: lt) (.int x :: st) σ Q := X_iloadn kX7_foretold_1 rfl
theorem kX7_foretold_2 : aCode iX7_foretold 2 = some (.invokevirtual 132, 3) := by decide +kernel
theorem sX7_foretold_2 {d : Nat} {σ : aS} {Q : aQ} {b : Nat} {p0 : Int32} {ls : aL} : aX (d + 1) iX7_foretold 2 (ls) (.int p0 :: .ref b :: []) σ Q ↔ aIs σ b 7 ∧ aX d iX7_isAlbum 0 [some (.ref b), some (.int p0)] [] σ (fun r τ => aX (d + 1) iX7_foretold 5 (ls) (aret r ([])) τ Q) := X_invv (N := 1) (As := [.int p0]) (w := 782) kX7_foretold_2 (by decide +kernel) (by decide +kernel) rfl rfl (by simp only [List.length_cons, List.length_nil]; omega) (by simp only [List.length_cons, List.length_nil]; omega) (by decide +kernel) rfl (Nat.le_of_ble_eq_true rfl)
theorem kX7_foretold_5 : aCode iX7_foretold 5 = some (.ifCond .eq 12, 3) := by decide +kernel
theorem sX7_foretold_5 {d : Nat} {σ : aS} {Q : aQ} {x : Int32} {ls : aL} {st : List Value} : aX d iX7_foretold 5 (ls) (.int x :: st) σ Q ↔ (if x = nI 0 then aX d iX7_foretold 17 (ls) (st) σ Q else aX d iX7_foretold 8 (ls) (st) σ Q) := by rw [X_if kX7_foretold_5 (t := 17) (by decide)]; simp only [aCmp_eq]
theorem kX7_foretold_8 : aCode iX7_foretold 8 = some (.iload_n 2, 1) := by decide +kernel
theorem sX7_foretold_8 {d : Nat} {σ : aS} {Q : aQ} {l0 l1 : Option Value} {x : Int32} {lt : aL} {st : List Value} : aX d iX7_foretold 8 (l0 :: l1 :: some (.int x) :: lt) (st) σ Q ↔ aX d iX7_foretold 9 (l0 :: l1 :: some (.int x) :: lt) (.int x :: st) σ Q := X_iloadn kX7_foretold_8 rfl
theorem kX7_foretold_9 : aCode iX7_foretold 9 = some (.iconst 0, 1) := by decide +kernel
theorem sX7_foretold_9 {d : Nat} {σ : aS} {Q : aQ} {ls : aL} {st : List Value} : aX d iX7_foretold 9 (ls) (st) σ Q ↔ aX d iX7_foretold 10 (ls) (.int (nI 0) :: st) σ Q := X_iconst kX7_foretold_9 (by decide +kernel)
theorem kX7_foretold_10 : aCode iX7_foretold 10 = some (.iconst 3, 1) := by decide +kernel
theorem sX7_foretold_10 {d : Nat} {σ : aS} {Q : aQ} {ls : aL} {st : List Value} : aX d iX7_foretold 10 (ls) (st) σ Q ↔ aX d iX7_foretold 11 (ls) (.int (nI 3) :: st) σ Q := X_iconst kX7_foretold_10 (by decide +kernel)
theorem kX7_foretold_11 : aCode iX7_foretold 11 = some (.invokestatic 36, 3) := by decide +kernel
theorem sX7_foretold_11 {d : Nat} {σ : aS} {Q : aQ} {p0 : Int32} {p1 : Int32} {p2 : Int32} {ls : aL} : aX (d + 1) iX7_foretold 11 (ls) (.int p2 :: .int p1 :: .int p0 :: []) σ Q ↔ aX d iX7_within 0 [some (.int p0), some (.int p1), some (.int p2)] [] σ (fun r τ => aX (d + 1) iX7_foretold 14 (ls) (aret r ([])) τ Q) := X_invs (N := 3) (As := [.int p2, .int p1, .int p0]) (k := 1) (w := 694) kX7_foretold_11 (by decide +kernel) (by decide) (by decide +kernel) rfl rfl (by simp only [List.length_cons, List.length_nil]; omega) (by simp only [List.length_cons, List.length_nil]; omega) rfl (Nat.le_of_ble_eq_true rfl)
theorem kX7_foretold_14 : aCode iX7_foretold 14 = some (.ifCond .ne 18, 3) := by decide +kernel
theorem sX7_foretold_14 {d : Nat} {σ : aS} {Q : aQ} {x : Int32} {ls : aL} {st : List Value} : aX d iX7_foretold 14 (ls) (.int x :: st) σ Q ↔ (if ¬ x = nI 0 then aX d iX7_foretold 32 (ls) (st) σ Q else aX d iX7_foretold 17 (ls) (st) σ Q) := by rw [X_if kX7_foretold_14 (t := 32) (by decide)]; simp only [aCmp_ne]
theorem kX7_foretold_17 : aCode iX7_foretold 17 = some (.aload_n 0, 1) := by decide +kernel
theorem sX7_foretold_17 {d : Nat} {σ : aS} {Q : aQ} {x : Nat} {lt : aL} {st : List Value} : aX d iX7_foretold 17 (some (.ref x) :: lt) (st) σ Q ↔ aX d iX7_foretold 18 (some (.ref x) :: lt) (.ref x :: st) σ Q := X_aloadn kX7_foretold_17 rfl rfl
theorem kX7_foretold_18 : aCode iX7_foretold 18 = some (.iload_n 1, 1) := by decide +kernel
theorem sX7_foretold_18 {d : Nat} {σ : aS} {Q : aQ} {l0 : Option Value} {x : Int32} {lt : aL} {st : List Value} : aX d iX7_foretold 18 (l0 :: some (.int x) :: lt) (st) σ Q ↔ aX d iX7_foretold 19 (l0 :: some (.int x) :: lt) (.int x :: st) σ Q := X_iloadn kX7_foretold_18 rfl
theorem kX7_foretold_19 : aCode iX7_foretold 19 = some (.invokevirtual 132, 3) := by decide +kernel
theorem sX7_foretold_19 {d : Nat} {σ : aS} {Q : aQ} {b : Nat} {p0 : Int32} {ls : aL} : aX (d + 1) iX7_foretold 19 (ls) (.int p0 :: .ref b :: []) σ Q ↔ aIs σ b 7 ∧ aX d iX7_isAlbum 0 [some (.ref b), some (.int p0)] [] σ (fun r τ => aX (d + 1) iX7_foretold 22 (ls) (aret r ([])) τ Q) := X_invv (N := 1) (As := [.int p0]) (w := 782) kX7_foretold_19 (by decide +kernel) (by decide +kernel) rfl rfl (by simp only [List.length_cons, List.length_nil]; omega) (by simp only [List.length_cons, List.length_nil]; omega) (by decide +kernel) rfl (Nat.le_of_ble_eq_true rfl)
theorem kX7_foretold_22 : aCode iX7_foretold 22 = some (.ifCond .eq 8, 3) := by decide +kernel
theorem sX7_foretold_22 {d : Nat} {σ : aS} {Q : aQ} {x : Int32} {ls : aL} {st : List Value} : aX d iX7_foretold 22 (ls) (.int x :: st) σ Q ↔ (if x = nI 0 then aX d iX7_foretold 30 (ls) (st) σ Q else aX d iX7_foretold 25 (ls) (st) σ Q) := by rw [X_if kX7_foretold_22 (t := 30) (by decide)]; simp only [aCmp_eq]
theorem kX7_foretold_25 : aCode iX7_foretold 25 = some (.bipush (-2), 2) := by decide +kernel
theorem sX7_foretold_25 {d : Nat} {σ : aS} {Q : aQ} {ls : aL} {st : List Value} : aX d iX7_foretold 25 (ls) (st) σ Q ↔ aX d iX7_foretold 27 (ls) (.int ((-2)) :: st) σ Q := X_bipush kX7_foretold_25 (by decide +kernel)
theorem kX7_foretold_27 : aCode iX7_foretold 27 = some (.goto 4, 3) := by decide +kernel
theorem sX7_foretold_27 {d : Nat} {σ : aS} {Q : aQ} {ls : aL} {st : List Value} : aX d iX7_foretold 27 (ls) (st) σ Q ↔ aX d iX7_foretold 31 (ls) (st) σ Q := X_goto kX7_foretold_27 (by decide)
theorem kX7_foretold_30 : aCode iX7_foretold 30 = some (.iconst (-1), 1) := by decide +kernel
theorem sX7_foretold_30 {d : Nat} {σ : aS} {Q : aQ} {ls : aL} {st : List Value} : aX d iX7_foretold 30 (ls) (st) σ Q ↔ aX d iX7_foretold 31 (ls) (.int ((-1)) :: st) σ Q := X_iconst kX7_foretold_30 (by decide +kernel)
theorem kX7_foretold_31 : aCode iX7_foretold 31 = some (.ireturn, 1) := by decide +kernel
theorem sX7_foretold_31 {d : Nat} {σ : aS} {Q : aQ} {v : Int32} {ls : aL} : aX d iX7_foretold 31 (ls) ([.int v]) σ Q ↔ Q (some (.int v)) σ := X_iret kX7_foretold_31 (by decide +kernel)
theorem kX7_foretold_32 : aCode iX7_foretold 32 = some (.aload_n 0, 1) := by decide +kernel
theorem sX7_foretold_32 {d : Nat} {σ : aS} {Q : aQ} {x : Nat} {lt : aL} {st : List Value} : aX d iX7_foretold 32 (some (.ref x) :: lt) (st) σ Q ↔ aX d iX7_foretold 33 (some (.ref x) :: lt) (.ref x :: st) σ Q := X_aloadn kX7_foretold_32 rfl rfl
theorem kX7_foretold_33 : aCode iX7_foretold 33 = some (.getfield 7, 3) := by decide +kernel
theorem sX7_foretold_33 {d : Nat} {σ : aS} {Q : aQ} {a : Nat} {ls : aL} {st : List Value} : aX d iX7_foretold 33 (ls) (.ref a :: st) σ Q ↔ ∃ v, aFld σ a 7 0 = some v ∧ aX d iX7_foretold 36 (ls) (v :: st) σ Q := X_getf (w := 650) kX7_foretold_33 (by decide +kernel)
theorem kX7_foretold_36 : aCode iX7_foretold 36 = some (.iconst 0, 1) := by decide +kernel
theorem sX7_foretold_36 {d : Nat} {σ : aS} {Q : aQ} {ls : aL} {st : List Value} : aX d iX7_foretold 36 (ls) (st) σ Q ↔ aX d iX7_foretold 37 (ls) (.int (nI 0) :: st) σ Q := X_iconst kX7_foretold_36 (by decide +kernel)
theorem kX7_foretold_37 : aCode iX7_foretold 37 = some (.aload_n 0, 1) := by decide +kernel
theorem sX7_foretold_37 {d : Nat} {σ : aS} {Q : aQ} {x : Nat} {lt : aL} {st : List Value} : aX d iX7_foretold 37 (some (.ref x) :: lt) (st) σ Q ↔ aX d iX7_foretold 38 (some (.ref x) :: lt) (.ref x :: st) σ Q := X_aloadn kX7_foretold_37 rfl rfl
theorem kX7_foretold_38 : aCode iX7_foretold 38 = some (.getfield 13, 3) := by decide +kernel
theorem sX7_foretold_38 {d : Nat} {σ : aS} {Q : aQ} {a : Nat} {ls : aL} {st : List Value} : aX d iX7_foretold 38 (ls) (.ref a :: st) σ Q ↔ ∃ v, aFld σ a 7 1 = some v ∧ aX d iX7_foretold 41 (ls) (v :: st) σ Q := X_getf (w := 651) kX7_foretold_38 (by decide +kernel)
theorem kX7_foretold_41 : aCode iX7_foretold 41 = some (.iconst 0, 1) := by decide +kernel
theorem sX7_foretold_41 {d : Nat} {σ : aS} {Q : aQ} {ls : aL} {st : List Value} : aX d iX7_foretold 41 (ls) (st) σ Q ↔ aX d iX7_foretold 42 (ls) (.int (nI 0) :: st) σ Q := X_iconst kX7_foretold_41 (by decide +kernel)
theorem kX7_foretold_42 : aCode iX7_foretold 42 = some (.invokestatic 32, 3) := by decide +kernel
theorem sX7_foretold_42 {d : Nat} {σ : aS} {Q : aQ} {p0 : Nat} {p1 : Int32} {p2 : Nat} {p3 : Int32} {ls : aL} : aX (d + 1) iX7_foretold 42 (ls) (.int p3 :: .ref p2 :: .int p1 :: .ref p0 :: []) σ Q ↔ aX d iX7_moves 0 [some (.ref p0), some (.int p1), some (.ref p2), some (.int p3), none] [] σ (fun r τ => aX (d + 1) iX7_foretold 45 (ls) (aret r ([])) τ Q) := X_invs (N := 4) (As := [.int p3, .ref p2, .int p1, .ref p0]) (k := 1) (w := 701) kX7_foretold_42 (by decide +kernel) (by decide) (by decide +kernel) rfl rfl (by simp only [List.length_cons, List.length_nil]; omega) (by simp only [List.length_cons, List.length_nil]; omega) rfl (Nat.le_of_ble_eq_true rfl)
theorem kX7_foretold_45 : aCode iX7_foretold 45 = some (.iconst 0, 1) := by decide +kernel
theorem sX7_foretold_45 {d : Nat} {σ : aS} {Q : aQ} {ls : aL} {st : List Value} : aX d iX7_foretold 45 (ls) (st) σ Q ↔ aX d iX7_foretold 46 (ls) (.int (nI 0) :: st) σ Q := X_iconst kX7_foretold_45 (by decide +kernel)
theorem kX7_foretold_46 : aCode iX7_foretold 46 = some (.istore_n 3, 1) := by decide +kernel
theorem sX7_foretold_46 {d : Nat} {σ : aS} {Q : aQ} {l0 l1 l2 lo : Option Value} {x : Int32} {lt : aL} {st : List Value} : aX d iX7_foretold 46 (l0 :: l1 :: l2 :: lo :: lt) (.int x :: st) σ Q ↔ aX d iX7_foretold 47 (l0 :: l1 :: aclr l2 :: some (.int x) :: lt) (st) σ Q := X_istoren kX7_foretold_46 (by simp only [List.length_cons]; omega)
theorem kX7_foretold_47 : aCode iX7_foretold 47 = some (.aload_n 0, 1) := by decide +kernel
theorem sX7_foretold_47 {d : Nat} {σ : aS} {Q : aQ} {x : Nat} {lt : aL} {st : List Value} : aX d iX7_foretold 47 (some (.ref x) :: lt) (st) σ Q ↔ aX d iX7_foretold 48 (some (.ref x) :: lt) (.ref x :: st) σ Q := X_aloadn kX7_foretold_47 rfl rfl
theorem kX7_foretold_48 : aCode iX7_foretold 48 = some (.iload_n 1, 1) := by decide +kernel
theorem sX7_foretold_48 {d : Nat} {σ : aS} {Q : aQ} {l0 : Option Value} {x : Int32} {lt : aL} {st : List Value} : aX d iX7_foretold 48 (l0 :: some (.int x) :: lt) (st) σ Q ↔ aX d iX7_foretold 49 (l0 :: some (.int x) :: lt) (.int x :: st) σ Q := X_iloadn kX7_foretold_48 rfl
theorem kX7_foretold_49 : aCode iX7_foretold 49 = some (.invokevirtual 59, 3) := by decide +kernel
theorem sX7_foretold_49 {d : Nat} {σ : aS} {Q : aQ} {b : Nat} {p0 : Int32} {ls : aL} : aX (d + 1) iX7_foretold 49 (ls) (.int p0 :: .ref b :: []) σ Q ↔ aIs σ b 7 ∧ aX d iX7_goesRound 0 [some (.ref b), some (.int p0)] [] σ (fun r τ => aX (d + 1) iX7_foretold 52 (ls) (aret r ([])) τ Q) := X_invv (N := 1) (As := [.int p0]) (w := 754) kX7_foretold_49 (by decide +kernel) (by decide +kernel) rfl rfl (by simp only [List.length_cons, List.length_nil]; omega) (by simp only [List.length_cons, List.length_nil]; omega) (by decide +kernel) rfl (Nat.le_of_ble_eq_true rfl)
theorem kX7_foretold_52 : aCode iX7_foretold 52 = some (.ifCond .eq 13, 3) := by decide +kernel
theorem sX7_foretold_52 {d : Nat} {σ : aS} {Q : aQ} {x : Int32} {ls : aL} {st : List Value} : aX d iX7_foretold 52 (ls) (.int x :: st) σ Q ↔ (if x = nI 0 then aX d iX7_foretold 65 (ls) (st) σ Q else aX d iX7_foretold 55 (ls) (st) σ Q) := by rw [X_if kX7_foretold_52 (t := 65) (by decide)]; simp only [aCmp_eq]
theorem kX7_foretold_55 : aCode iX7_foretold 55 = some (.aload_n 0, 1) := by decide +kernel
theorem sX7_foretold_55 {d : Nat} {σ : aS} {Q : aQ} {x : Nat} {lt : aL} {st : List Value} : aX d iX7_foretold 55 (some (.ref x) :: lt) (st) σ Q ↔ aX d iX7_foretold 56 (some (.ref x) :: lt) (.ref x :: st) σ Q := X_aloadn kX7_foretold_55 rfl rfl
theorem kX7_foretold_56 : aCode iX7_foretold 56 = some (.invokevirtual 141, 3) := by decide +kernel
theorem sX7_foretold_56 {d : Nat} {σ : aS} {Q : aQ} {b : Nat} {ls : aL} : aX (d + 1) iX7_foretold 56 (ls) (.ref b :: []) σ Q ↔ aIs σ b 7 ∧ aX d iX7_makesRound 0 [some (.ref b), none, none] [] σ (fun r τ => aX (d + 1) iX7_foretold 59 (ls) (aret r ([])) τ Q) := X_invv (N := 0) (As := []) (w := 794) kX7_foretold_56 (by decide +kernel) (by decide +kernel) rfl rfl (by simp only [List.length_cons, List.length_nil]; omega) (by simp only [List.length_cons, List.length_nil]; omega) (by decide +kernel) rfl (Nat.le_of_ble_eq_true rfl)
theorem kX7_foretold_59 : aCode iX7_foretold 59 = some (.iinc 3 1, 3) := by decide +kernel
theorem sX7_foretold_59 {d : Nat} {σ : aS} {Q : aQ} {l0 l1 l2 : Option Value} {x : Int32} {lt : aL} {st : List Value} : aX d iX7_foretold 59 (l0 :: l1 :: l2 :: some (.int x) :: lt) (st) σ Q ↔ aX d iX7_foretold 62 (l0 :: l1 :: aclr l2 :: some (.int (x + nI 1)) :: lt) (st) σ Q := X_iinc kX7_foretold_59 rfl (by decide +kernel)
theorem kX7_foretold_62 : aCode iX7_foretold 62 = some (.goto (-15), 3) := by decide +kernel
theorem sX7_foretold_62 {d : Nat} {σ : aS} {Q : aQ} {ls : aL} {st : List Value} : aX d iX7_foretold 62 (ls) (st) σ Q ↔ aX d iX7_foretold 47 (ls) (st) σ Q := X_goto kX7_foretold_62 (by decide)
theorem kX7_foretold_65 : aCode iX7_foretold 65 = some (.iload_n 2, 1) := by decide +kernel
theorem sX7_foretold_65 {d : Nat} {σ : aS} {Q : aQ} {l0 l1 : Option Value} {x : Int32} {lt : aL} {st : List Value} : aX d iX7_foretold 65 (l0 :: l1 :: some (.int x) :: lt) (st) σ Q ↔ aX d iX7_foretold 66 (l0 :: l1 :: some (.int x) :: lt) (.int x :: st) σ Q := X_iloadn kX7_foretold_65 rfl
theorem kX7_foretold_66 : aCode iX7_foretold 66 = some (.ifCond .ne 11, 3) := by decide +kernel
theorem sX7_foretold_66 {d : Nat} {σ : aS} {Q : aQ} {x : Int32} {ls : aL} {st : List Value} : aX d iX7_foretold 66 (ls) (.int x :: st) σ Q ↔ (if ¬ x = nI 0 then aX d iX7_foretold 77 (ls) (st) σ Q else aX d iX7_foretold 69 (ls) (st) σ Q) := by rw [X_if kX7_foretold_66 (t := 77) (by decide)]; simp only [aCmp_ne]
theorem kX7_foretold_69 : aCode iX7_foretold 69 = some (.aload_n 0, 1) := by decide +kernel
theorem sX7_foretold_69 {d : Nat} {σ : aS} {Q : aQ} {x : Nat} {lt : aL} {st : List Value} : aX d iX7_foretold 69 (some (.ref x) :: lt) (st) σ Q ↔ aX d iX7_foretold 70 (some (.ref x) :: lt) (.ref x :: st) σ Q := X_aloadn kX7_foretold_69 rfl rfl
theorem kX7_foretold_70 : aCode iX7_foretold 70 = some (.iload_n 1, 1) := by decide +kernel
theorem sX7_foretold_70 {d : Nat} {σ : aS} {Q : aQ} {l0 : Option Value} {x : Int32} {lt : aL} {st : List Value} : aX d iX7_foretold 70 (l0 :: some (.int x) :: lt) (st) σ Q ↔ aX d iX7_foretold 71 (l0 :: some (.int x) :: lt) (.int x :: st) σ Q := X_iloadn kX7_foretold_70 rfl
theorem kX7_foretold_71 : aCode iX7_foretold 71 = some (.invokevirtual 72, 3) := by decide +kernel
theorem sX7_foretold_71 {d : Nat} {σ : aS} {Q : aQ} {b : Nat} {p0 : Int32} {ls : aL} : aX (d + 1) iX7_foretold 71 (ls) (.int p0 :: .ref b :: []) σ Q ↔ aIs σ b 7 ∧ aX d iX7_lastWord 0 [some (.ref b), some (.int p0)] [] σ (fun r τ => aX (d + 1) iX7_foretold 74 (ls) (aret r ([])) τ Q) := X_invv (N := 1) (As := [.int p0]) (w := 818) kX7_foretold_71 (by decide +kernel) (by decide +kernel) rfl rfl (by simp only [List.length_cons, List.length_nil]; omega) (by simp only [List.length_cons, List.length_nil]; omega) (by decide +kernel) rfl (Nat.le_of_ble_eq_true rfl)
theorem kX7_foretold_74 : aCode iX7_foretold 74 = some (.goto 32, 3) := by decide +kernel
theorem sX7_foretold_74 {d : Nat} {σ : aS} {Q : aQ} {ls : aL} {st : List Value} : aX d iX7_foretold 74 (ls) (st) σ Q ↔ aX d iX7_foretold 106 (ls) (st) σ Q := X_goto kX7_foretold_74 (by decide)
theorem kX7_foretold_77 : aCode iX7_foretold 77 = some (.iload_n 2, 1) := by decide +kernel
theorem sX7_foretold_77 {d : Nat} {σ : aS} {Q : aQ} {l0 l1 : Option Value} {x : Int32} {lt : aL} {st : List Value} : aX d iX7_foretold 77 (l0 :: l1 :: some (.int x) :: lt) (st) σ Q ↔ aX d iX7_foretold 78 (l0 :: l1 :: some (.int x) :: lt) (.int x :: st) σ Q := X_iloadn kX7_foretold_77 rfl
theorem kX7_foretold_78 : aCode iX7_foretold 78 = some (.iconst 1, 1) := by decide +kernel
theorem sX7_foretold_78 {d : Nat} {σ : aS} {Q : aQ} {ls : aL} {st : List Value} : aX d iX7_foretold 78 (ls) (st) σ Q ↔ aX d iX7_foretold 79 (ls) (.int (nI 1) :: st) σ Q := X_iconst kX7_foretold_78 (by decide +kernel)
theorem kX7_foretold_79 : aCode iX7_foretold 79 = some (.if_icmp .ne 12, 3) := by decide +kernel
theorem sX7_foretold_79 {d : Nat} {σ : aS} {Q : aQ} {x y : Int32} {ls : aL} {st : List Value} : aX d iX7_foretold 79 (ls) (.int y :: .int x :: st) σ Q ↔ (if ¬ x = y then aX d iX7_foretold 91 (ls) (st) σ Q else aX d iX7_foretold 82 (ls) (st) σ Q) := by rw [X_icmp kX7_foretold_79 (t := 91) (by decide)]; simp only [aCmp_ne]
theorem kX7_foretold_82 : aCode iX7_foretold 82 = some (.aload_n 0, 1) := by decide +kernel
theorem sX7_foretold_82 {d : Nat} {σ : aS} {Q : aQ} {x : Nat} {lt : aL} {st : List Value} : aX d iX7_foretold 82 (some (.ref x) :: lt) (st) σ Q ↔ aX d iX7_foretold 83 (some (.ref x) :: lt) (.ref x :: st) σ Q := X_aloadn kX7_foretold_82 rfl rfl
theorem kX7_foretold_83 : aCode iX7_foretold 83 = some (.iload_n 1, 1) := by decide +kernel
theorem sX7_foretold_83 {d : Nat} {σ : aS} {Q : aQ} {l0 : Option Value} {x : Int32} {lt : aL} {st : List Value} : aX d iX7_foretold 83 (l0 :: some (.int x) :: lt) (st) σ Q ↔ aX d iX7_foretold 84 (l0 :: some (.int x) :: lt) (.int x :: st) σ Q := X_iloadn kX7_foretold_83 rfl
theorem kX7_foretold_84 : aCode iX7_foretold 84 = some (.iconst 1, 1) := by decide +kernel
theorem sX7_foretold_84 {d : Nat} {σ : aS} {Q : aQ} {ls : aL} {st : List Value} : aX d iX7_foretold 84 (ls) (st) σ Q ↔ aX d iX7_foretold 85 (ls) (.int (nI 1) :: st) σ Q := X_iconst kX7_foretold_84 (by decide +kernel)
theorem kX7_foretold_85 : aCode iX7_foretold 85 = some (.invokevirtual 40, 3) := by decide +kernel
theorem sX7_foretold_85 {d : Nat} {σ : aS} {Q : aQ} {b : Nat} {p0 : Int32} {p1 : Int32} {ls : aL} : aX (d + 1) iX7_foretold 85 (ls) (.int p1 :: .int p0 :: .ref b :: []) σ Q ↔ aIs σ b 7 ∧ aX d iX7_part 0 [some (.ref b), some (.int p0), some (.int p1)] [] σ (fun r τ => aX (d + 1) iX7_foretold 88 (ls) (aret r ([])) τ Q) := X_invv (N := 2) (As := [.int p1, .int p0]) (w := 750) kX7_foretold_85 (by decide +kernel) (by decide +kernel) rfl rfl (by simp only [List.length_cons, List.length_nil]; omega) (by simp only [List.length_cons, List.length_nil]; omega) (by decide +kernel) rfl (Nat.le_of_ble_eq_true rfl)
theorem kX7_foretold_88 : aCode iX7_foretold 88 = some (.goto 18, 3) := by decide +kernel
theorem sX7_foretold_88 {d : Nat} {σ : aS} {Q : aQ} {ls : aL} {st : List Value} : aX d iX7_foretold 88 (ls) (st) σ Q ↔ aX d iX7_foretold 106 (ls) (st) σ Q := X_goto kX7_foretold_88 (by decide)
theorem kX7_foretold_91 : aCode iX7_foretold 91 = some (.iload_n 2, 1) := by decide +kernel
theorem sX7_foretold_91 {d : Nat} {σ : aS} {Q : aQ} {l0 l1 : Option Value} {x : Int32} {lt : aL} {st : List Value} : aX d iX7_foretold 91 (l0 :: l1 :: some (.int x) :: lt) (st) σ Q ↔ aX d iX7_foretold 92 (l0 :: l1 :: some (.int x) :: lt) (.int x :: st) σ Q := X_iloadn kX7_foretold_91 rfl
theorem kX7_foretold_92 : aCode iX7_foretold 92 = some (.iconst 2, 1) := by decide +kernel
theorem sX7_foretold_92 {d : Nat} {σ : aS} {Q : aQ} {ls : aL} {st : List Value} : aX d iX7_foretold 92 (ls) (st) σ Q ↔ aX d iX7_foretold 93 (ls) (.int (nI 2) :: st) σ Q := X_iconst kX7_foretold_92 (by decide +kernel)
theorem kX7_foretold_93 : aCode iX7_foretold 93 = some (.if_icmp .ne 7, 3) := by decide +kernel
theorem sX7_foretold_93 {d : Nat} {σ : aS} {Q : aQ} {x y : Int32} {ls : aL} {st : List Value} : aX d iX7_foretold 93 (ls) (.int y :: .int x :: st) σ Q ↔ (if ¬ x = y then aX d iX7_foretold 100 (ls) (st) σ Q else aX d iX7_foretold 96 (ls) (st) σ Q) := by rw [X_icmp kX7_foretold_93 (t := 100) (by decide)]; simp only [aCmp_ne]
theorem kX7_foretold_96 : aCode iX7_foretold 96 = some (.iload_n 3, 1) := by decide +kernel
theorem sX7_foretold_96 {d : Nat} {σ : aS} {Q : aQ} {l0 l1 l2 : Option Value} {x : Int32} {lt : aL} {st : List Value} : aX d iX7_foretold 96 (l0 :: l1 :: l2 :: some (.int x) :: lt) (st) σ Q ↔ aX d iX7_foretold 97 (l0 :: l1 :: l2 :: some (.int x) :: lt) (.int x :: st) σ Q := X_iloadn kX7_foretold_96 rfl
theorem kX7_foretold_97 : aCode iX7_foretold 97 = some (.goto 9, 3) := by decide +kernel
theorem sX7_foretold_97 {d : Nat} {σ : aS} {Q : aQ} {ls : aL} {st : List Value} : aX d iX7_foretold 97 (ls) (st) σ Q ↔ aX d iX7_foretold 106 (ls) (st) σ Q := X_goto kX7_foretold_97 (by decide)
theorem kX7_foretold_100 : aCode iX7_foretold 100 = some (.aload_n 0, 1) := by decide +kernel
theorem sX7_foretold_100 {d : Nat} {σ : aS} {Q : aQ} {x : Nat} {lt : aL} {st : List Value} : aX d iX7_foretold 100 (some (.ref x) :: lt) (st) σ Q ↔ aX d iX7_foretold 101 (some (.ref x) :: lt) (.ref x :: st) σ Q := X_aloadn kX7_foretold_100 rfl rfl
theorem kX7_foretold_101 : aCode iX7_foretold 101 = some (.iload_n 1, 1) := by decide +kernel
theorem sX7_foretold_101 {d : Nat} {σ : aS} {Q : aQ} {l0 : Option Value} {x : Int32} {lt : aL} {st : List Value} : aX d iX7_foretold 101 (l0 :: some (.int x) :: lt) (st) σ Q ↔ aX d iX7_foretold 102 (l0 :: some (.int x) :: lt) (.int x :: st) σ Q := X_iloadn kX7_foretold_101 rfl
theorem kX7_foretold_102 : aCode iX7_foretold 102 = some (.iconst 2, 1) := by decide +kernel
theorem sX7_foretold_102 {d : Nat} {σ : aS} {Q : aQ} {ls : aL} {st : List Value} : aX d iX7_foretold 102 (ls) (st) σ Q ↔ aX d iX7_foretold 103 (ls) (.int (nI 2) :: st) σ Q := X_iconst kX7_foretold_102 (by decide +kernel)
theorem kX7_foretold_103 : aCode iX7_foretold 103 = some (.invokevirtual 40, 3) := by decide +kernel
theorem sX7_foretold_103 {d : Nat} {σ : aS} {Q : aQ} {b : Nat} {p0 : Int32} {p1 : Int32} {ls : aL} : aX (d + 1) iX7_foretold 103 (ls) (.int p1 :: .int p0 :: .ref b :: []) σ Q ↔ aIs σ b 7 ∧ aX d iX7_part 0 [some (.ref b), some (.int p0), some (.int p1)] [] σ (fun r τ => aX (d + 1) iX7_foretold 106 (ls) (aret r ([])) τ Q) := X_invv (N := 2) (As := [.int p1, .int p0]) (w := 750) kX7_foretold_103 (by decide +kernel) (by decide +kernel) rfl rfl (by simp only [List.length_cons, List.length_nil]; omega) (by simp only [List.length_cons, List.length_nil]; omega) (by decide +kernel) rfl (Nat.le_of_ble_eq_true rfl)
theorem kX7_foretold_106 : aCode iX7_foretold 106 = some (.istore 4, 2) := by decide +kernel
theorem sX7_foretold_106 {d : Nat} {σ : aS} {Q : aQ} {l0 l1 l2 l3 lo : Option Value} {x : Int32} {lt : aL} {st : List Value} : aX d iX7_foretold 106 (l0 :: l1 :: l2 :: l3 :: lo :: lt) (.int x :: st) σ Q ↔ aX d iX7_foretold 108 (l0 :: l1 :: l2 :: aclr l3 :: some (.int x) :: lt) (st) σ Q := X_istore kX7_foretold_106 (by simp only [List.length_cons]; omega)
theorem kX7_foretold_108 : aCode iX7_foretold 108 = some (.aload_n 0, 1) := by decide +kernel
theorem sX7_foretold_108 {d : Nat} {σ : aS} {Q : aQ} {x : Nat} {lt : aL} {st : List Value} : aX d iX7_foretold 108 (some (.ref x) :: lt) (st) σ Q ↔ aX d iX7_foretold 109 (some (.ref x) :: lt) (.ref x :: st) σ Q := X_aloadn kX7_foretold_108 rfl rfl
theorem kX7_foretold_109 : aCode iX7_foretold 109 = some (.getfield 13, 3) := by decide +kernel
theorem sX7_foretold_109 {d : Nat} {σ : aS} {Q : aQ} {a : Nat} {ls : aL} {st : List Value} : aX d iX7_foretold 109 (ls) (.ref a :: st) σ Q ↔ ∃ v, aFld σ a 7 1 = some v ∧ aX d iX7_foretold 112 (ls) (v :: st) σ Q := X_getf (w := 651) kX7_foretold_109 (by decide +kernel)
theorem kX7_foretold_112 : aCode iX7_foretold 112 = some (.iconst 0, 1) := by decide +kernel
theorem sX7_foretold_112 {d : Nat} {σ : aS} {Q : aQ} {ls : aL} {st : List Value} : aX d iX7_foretold 112 (ls) (st) σ Q ↔ aX d iX7_foretold 113 (ls) (.int (nI 0) :: st) σ Q := X_iconst kX7_foretold_112 (by decide +kernel)
theorem kX7_foretold_113 : aCode iX7_foretold 113 = some (.aload_n 0, 1) := by decide +kernel
theorem sX7_foretold_113 {d : Nat} {σ : aS} {Q : aQ} {x : Nat} {lt : aL} {st : List Value} : aX d iX7_foretold 113 (some (.ref x) :: lt) (st) σ Q ↔ aX d iX7_foretold 114 (some (.ref x) :: lt) (.ref x :: st) σ Q := X_aloadn kX7_foretold_113 rfl rfl
theorem kX7_foretold_114 : aCode iX7_foretold 114 = some (.getfield 7, 3) := by decide +kernel
theorem sX7_foretold_114 {d : Nat} {σ : aS} {Q : aQ} {a : Nat} {ls : aL} {st : List Value} : aX d iX7_foretold 114 (ls) (.ref a :: st) σ Q ↔ ∃ v, aFld σ a 7 0 = some v ∧ aX d iX7_foretold 117 (ls) (v :: st) σ Q := X_getf (w := 650) kX7_foretold_114 (by decide +kernel)
theorem kX7_foretold_117 : aCode iX7_foretold 117 = some (.iconst 0, 1) := by decide +kernel
theorem sX7_foretold_117 {d : Nat} {σ : aS} {Q : aQ} {ls : aL} {st : List Value} : aX d iX7_foretold 117 (ls) (st) σ Q ↔ aX d iX7_foretold 118 (ls) (.int (nI 0) :: st) σ Q := X_iconst kX7_foretold_117 (by decide +kernel)
theorem kX7_foretold_118 : aCode iX7_foretold 118 = some (.invokestatic 32, 3) := by decide +kernel
theorem sX7_foretold_118 {d : Nat} {σ : aS} {Q : aQ} {p0 : Nat} {p1 : Int32} {p2 : Nat} {p3 : Int32} {ls : aL} : aX (d + 1) iX7_foretold 118 (ls) (.int p3 :: .ref p2 :: .int p1 :: .ref p0 :: []) σ Q ↔ aX d iX7_moves 0 [some (.ref p0), some (.int p1), some (.ref p2), some (.int p3), none] [] σ (fun r τ => aX (d + 1) iX7_foretold 121 (ls) (aret r ([])) τ Q) := X_invs (N := 4) (As := [.int p3, .ref p2, .int p1, .ref p0]) (k := 1) (w := 701) kX7_foretold_118 (by decide +kernel) (by decide) (by decide +kernel) rfl rfl (by simp only [List.length_cons, List.length_nil]; omega) (by simp only [List.length_cons, List.length_nil]; omega) rfl (Nat.le_of_ble_eq_true rfl)
theorem kX7_foretold_121 : aCode iX7_foretold 121 = some (.iload 4, 2) := by decide +kernel
theorem sX7_foretold_121 {d : Nat} {σ : aS} {Q : aQ} {l0 l1 l2 l3 : Option Value} {x : Int32} {lt : aL} {st : List Value} : aX d iX7_foretold 121 (l0 :: l1 :: l2 :: l3 :: some (.int x) :: lt) (st) σ Q ↔ aX d iX7_foretold 123 (l0 :: l1 :: l2 :: l3 :: some (.int x) :: lt) (.int x :: st) σ Q := X_iload kX7_foretold_121 rfl
theorem kX7_foretold_123 : aCode iX7_foretold 123 = some (.ireturn, 1) := by decide +kernel
theorem sX7_foretold_123 {d : Nat} {σ : aS} {Q : aQ} {v : Int32} {ls : aL} : aX d iX7_foretold 123 (ls) ([.int v]) σ Q ↔ Q (some (.int v)) σ := X_iret kX7_foretold_123 (by decide +kernel)
theorem kX7_differsWith_0 : aCode iX7_differsWith 0 = some (.aload_n 0, 1) := by decide +kernel
theorem sX7_differsWith_0 {d : Nat} {σ : aS} {Q : aQ} {x : Nat} {lt : aL} {st : List Value} : aX d iX7_differsWith 0 (some (.ref x) :: lt) (st) σ Q ↔ aX d iX7_differsWith 1 (some (.ref x) :: lt) (.ref x :: st) σ Q := X_aloadn kX7_differsWith_0 rfl rfl
theorem kX7_differsWith_1 : aCode iX7_differsWith 1 = some (.getfield 7, 3) := by decide +kernel
theorem sX7_differsWith_1 {d : Nat} {σ : aS} {Q : aQ} {a : Nat} {ls : aL} {st : List Value} : aX d iX7_differsWith 1 (ls) (.ref a :: st) σ Q ↔ ∃ v, aFld σ a 7 0 = some v ∧ aX d iX7_differsWith 4 (ls) (v :: st) σ Q := X_getf (w := 650) kX7_differsWith_1 (by decide +kernel)
theorem kX7_differsWith_4 : aCode iX7_differsWith 4 = some (.bipush 34, 2) := by decide +kernel
theorem sX7_differsWith_4 {d : Nat} {σ : aS} {Q : aQ} {ls : aL} {st : List Value} : aX d iX7_differsWith 4 (ls) (st) σ Q ↔ aX d iX7_differsWith 6 (ls) (.int (nI 34) :: st) σ Q := X_bipush kX7_differsWith_4 (by decide +kernel)
theorem kX7_differsWith_6 : aCode iX7_differsWith 6 = some (.iconst 0, 1) := by decide +kernel
theorem sX7_differsWith_6 {d : Nat} {σ : aS} {Q : aQ} {ls : aL} {st : List Value} : aX d iX7_differsWith 6 (ls) (st) σ Q ↔ aX d iX7_differsWith 7 (ls) (.int (nI 0) :: st) σ Q := X_iconst kX7_differsWith_6 (by decide +kernel)
theorem kX7_differsWith_7 : aCode iX7_differsWith 7 = some (.iastore, 1) := by decide +kernel
theorem sX7_differsWith_7 {d : Nat} {σ : aS} {Q : aQ} {a : Nat} {i v : Int32} {ls : aL} {st : List Value} : aX d iX7_differsWith 7 (ls) (.int v :: .int i :: .ref a :: st) σ Q ↔ ∃ x, aRow σ a = some x ∧ vp_in i x.1 ∧ aX d iX7_differsWith 8 (ls) (st) (aput σ a (eI x.1 (upd x.2 i.toNatClampNeg v))) Q := X_iastore kX7_differsWith_7
theorem kX7_differsWith_8 : aCode iX7_differsWith 8 = some (.aload_n 0, 1) := by decide +kernel
theorem sX7_differsWith_8 {d : Nat} {σ : aS} {Q : aQ} {x : Nat} {lt : aL} {st : List Value} : aX d iX7_differsWith 8 (some (.ref x) :: lt) (st) σ Q ↔ aX d iX7_differsWith 9 (some (.ref x) :: lt) (.ref x :: st) σ Q := X_aloadn kX7_differsWith_8 rfl rfl
theorem kX7_differsWith_9 : aCode iX7_differsWith 9 = some (.iload_n 1, 1) := by decide +kernel
theorem sX7_differsWith_9 {d : Nat} {σ : aS} {Q : aQ} {l0 : Option Value} {x : Int32} {lt : aL} {st : List Value} : aX d iX7_differsWith 9 (l0 :: some (.int x) :: lt) (st) σ Q ↔ aX d iX7_differsWith 10 (l0 :: some (.int x) :: lt) (.int x :: st) σ Q := X_iloadn kX7_differsWith_9 rfl
theorem kX7_differsWith_10 : aCode iX7_differsWith 10 = some (.iload_n 2, 1) := by decide +kernel
theorem sX7_differsWith_10 {d : Nat} {σ : aS} {Q : aQ} {l0 l1 : Option Value} {x : Int32} {lt : aL} {st : List Value} : aX d iX7_differsWith 10 (l0 :: l1 :: some (.int x) :: lt) (st) σ Q ↔ aX d iX7_differsWith 11 (l0 :: l1 :: some (.int x) :: lt) (.int x :: st) σ Q := X_iloadn kX7_differsWith_10 rfl
theorem kX7_differsWith_11 : aCode iX7_differsWith 11 = some (.invokevirtual 129, 3) := by decide +kernel
theorem sX7_differsWith_11 {d : Nat} {σ : aS} {Q : aQ} {b : Nat} {p0 : Int32} {p1 : Int32} {ls : aL} : aX (d + 1) iX7_differsWith 11 (ls) (.int p1 :: .int p0 :: .ref b :: []) σ Q ↔ aIs σ b 7 ∧ aX d iX7_begun 0 [some (.ref b), some (.int p0), some (.int p1), none] [] σ (fun r τ => aX (d + 1) iX7_differsWith 14 (ls) (aret r ([])) τ Q) := X_invv (N := 2) (As := [.int p1, .int p0]) (w := 758) kX7_differsWith_11 (by decide +kernel) (by decide +kernel) rfl rfl (by simp only [List.length_cons, List.length_nil]; omega) (by simp only [List.length_cons, List.length_nil]; omega) (by decide +kernel) rfl (Nat.le_of_ble_eq_true rfl)
theorem kX7_differsWith_14 : aCode iX7_differsWith 14 = some (.istore_n 3, 1) := by decide +kernel
theorem sX7_differsWith_14 {d : Nat} {σ : aS} {Q : aQ} {l0 l1 l2 lo : Option Value} {x : Int32} {lt : aL} {st : List Value} : aX d iX7_differsWith 14 (l0 :: l1 :: l2 :: lo :: lt) (.int x :: st) σ Q ↔ aX d iX7_differsWith 15 (l0 :: l1 :: aclr l2 :: some (.int x) :: lt) (st) σ Q := X_istoren kX7_differsWith_14 (by simp only [List.length_cons]; omega)
theorem kX7_differsWith_15 : aCode iX7_differsWith 15 = some (.aload_n 0, 1) := by decide +kernel
theorem sX7_differsWith_15 {d : Nat} {σ : aS} {Q : aQ} {x : Nat} {lt : aL} {st : List Value} : aX d iX7_differsWith 15 (some (.ref x) :: lt) (st) σ Q ↔ aX d iX7_differsWith 16 (some (.ref x) :: lt) (.ref x :: st) σ Q := X_aloadn kX7_differsWith_15 rfl rfl
theorem kX7_differsWith_16 : aCode iX7_differsWith 16 = some (.iload_n 3, 1) := by decide +kernel
theorem sX7_differsWith_16 {d : Nat} {σ : aS} {Q : aQ} {l0 l1 l2 : Option Value} {x : Int32} {lt : aL} {st : List Value} : aX d iX7_differsWith 16 (l0 :: l1 :: l2 :: some (.int x) :: lt) (st) σ Q ↔ aX d iX7_differsWith 17 (l0 :: l1 :: l2 :: some (.int x) :: lt) (.int x :: st) σ Q := X_iloadn kX7_differsWith_16 rfl
theorem kX7_differsWith_17 : aCode iX7_differsWith 17 = some (.invokevirtual 59, 3) := by decide +kernel
theorem sX7_differsWith_17 {d : Nat} {σ : aS} {Q : aQ} {b : Nat} {p0 : Int32} {ls : aL} : aX (d + 1) iX7_differsWith 17 (ls) (.int p0 :: .ref b :: []) σ Q ↔ aIs σ b 7 ∧ aX d iX7_goesRound 0 [some (.ref b), some (.int p0)] [] σ (fun r τ => aX (d + 1) iX7_differsWith 20 (ls) (aret r ([])) τ Q) := X_invv (N := 1) (As := [.int p0]) (w := 754) kX7_differsWith_17 (by decide +kernel) (by decide +kernel) rfl rfl (by simp only [List.length_cons, List.length_nil]; omega) (by simp only [List.length_cons, List.length_nil]; omega) (by decide +kernel) rfl (Nat.le_of_ble_eq_true rfl)
theorem kX7_differsWith_20 : aCode iX7_differsWith 20 = some (.ifCond .eq 10, 3) := by decide +kernel
theorem sX7_differsWith_20 {d : Nat} {σ : aS} {Q : aQ} {x : Int32} {ls : aL} {st : List Value} : aX d iX7_differsWith 20 (ls) (.int x :: st) σ Q ↔ (if x = nI 0 then aX d iX7_differsWith 30 (ls) (st) σ Q else aX d iX7_differsWith 23 (ls) (st) σ Q) := by rw [X_if kX7_differsWith_20 (t := 30) (by decide)]; simp only [aCmp_eq]
theorem kX7_differsWith_23 : aCode iX7_differsWith 23 = some (.aload_n 0, 1) := by decide +kernel
theorem sX7_differsWith_23 {d : Nat} {σ : aS} {Q : aQ} {x : Nat} {lt : aL} {st : List Value} : aX d iX7_differsWith 23 (some (.ref x) :: lt) (st) σ Q ↔ aX d iX7_differsWith 24 (some (.ref x) :: lt) (.ref x :: st) σ Q := X_aloadn kX7_differsWith_23 rfl rfl
theorem kX7_differsWith_24 : aCode iX7_differsWith 24 = some (.invokevirtual 141, 3) := by decide +kernel
theorem sX7_differsWith_24 {d : Nat} {σ : aS} {Q : aQ} {b : Nat} {ls : aL} : aX (d + 1) iX7_differsWith 24 (ls) (.ref b :: []) σ Q ↔ aIs σ b 7 ∧ aX d iX7_makesRound 0 [some (.ref b), none, none] [] σ (fun r τ => aX (d + 1) iX7_differsWith 27 (ls) (aret r ([])) τ Q) := X_invv (N := 0) (As := []) (w := 794) kX7_differsWith_24 (by decide +kernel) (by decide +kernel) rfl rfl (by simp only [List.length_cons, List.length_nil]; omega) (by simp only [List.length_cons, List.length_nil]; omega) (by decide +kernel) rfl (Nat.le_of_ble_eq_true rfl)
theorem kX7_differsWith_27 : aCode iX7_differsWith 27 = some (.goto (-12), 3) := by decide +kernel
theorem sX7_differsWith_27 {d : Nat} {σ : aS} {Q : aQ} {ls : aL} {st : List Value} : aX d iX7_differsWith 27 (ls) (st) σ Q ↔ aX d iX7_differsWith 15 (ls) (st) σ Q := X_goto kX7_differsWith_27 (by decide)
theorem kX7_differsWith_30 : aCode iX7_differsWith 30 = some (.aload_n 0, 1) := by decide +kernel
theorem sX7_differsWith_30 {d : Nat} {σ : aS} {Q : aQ} {x : Nat} {lt : aL} {st : List Value} : aX d iX7_differsWith 30 (some (.ref x) :: lt) (st) σ Q ↔ aX d iX7_differsWith 31 (some (.ref x) :: lt) (.ref x :: st) σ Q := X_aloadn kX7_differsWith_30 rfl rfl
theorem kX7_differsWith_31 : aCode iX7_differsWith 31 = some (.aload_n 0, 1) := by decide +kernel
theorem sX7_differsWith_31 {d : Nat} {σ : aS} {Q : aQ} {x : Nat} {lt : aL} {st : List Value} : aX d iX7_differsWith 31 (some (.ref x) :: lt) (st) σ Q ↔ aX d iX7_differsWith 32 (some (.ref x) :: lt) (.ref x :: st) σ Q := X_aloadn kX7_differsWith_31 rfl rfl
theorem kX7_differsWith_32 : aCode iX7_differsWith 32 = some (.iload_n 3, 1) := by decide +kernel
theorem sX7_differsWith_32 {d : Nat} {σ : aS} {Q : aQ} {l0 l1 l2 : Option Value} {x : Int32} {lt : aL} {st : List Value} : aX d iX7_differsWith 32 (l0 :: l1 :: l2 :: some (.int x) :: lt) (st) σ Q ↔ aX d iX7_differsWith 33 (l0 :: l1 :: l2 :: some (.int x) :: lt) (.int x :: st) σ Q := X_iloadn kX7_differsWith_32 rfl
theorem kX7_differsWith_33 : aCode iX7_differsWith 33 = some (.invokevirtual 72, 3) := by decide +kernel
theorem sX7_differsWith_33 {d : Nat} {σ : aS} {Q : aQ} {b : Nat} {p0 : Int32} {v0 : Value} {ls : aL} : aX (d + 1) iX7_differsWith 33 (ls) (.int p0 :: .ref b :: v0 :: []) σ Q ↔ aIs σ b 7 ∧ aX d iX7_lastWord 0 [some (.ref b), some (.int p0)] [] σ (fun r τ => aX (d + 1) iX7_differsWith 36 (ls) (aret r (v0 :: [])) τ Q) := X_invv (N := 1) (As := [.int p0]) (w := 818) kX7_differsWith_33 (by decide +kernel) (by decide +kernel) rfl rfl (by simp only [List.length_cons, List.length_nil]; omega) (by simp only [List.length_cons, List.length_nil]; omega) (by decide +kernel) rfl (Nat.le_of_ble_eq_true rfl)
theorem kX7_differsWith_36 : aCode iX7_differsWith 36 = some (.iload_n 2, 1) := by decide +kernel
theorem sX7_differsWith_36 {d : Nat} {σ : aS} {Q : aQ} {l0 l1 : Option Value} {x : Int32} {lt : aL} {st : List Value} : aX d iX7_differsWith 36 (l0 :: l1 :: some (.int x) :: lt) (st) σ Q ↔ aX d iX7_differsWith 37 (l0 :: l1 :: some (.int x) :: lt) (.int x :: st) σ Q := X_iloadn kX7_differsWith_36 rfl
theorem kX7_differsWith_37 : aCode iX7_differsWith 37 = some (.invokevirtual 154, 3) := by decide +kernel
theorem sX7_differsWith_37 {d : Nat} {σ : aS} {Q : aQ} {b : Nat} {p0 : Int32} {p1 : Int32} {ls : aL} : aX (d + 1) iX7_differsWith 37 (ls) (.int p1 :: .int p0 :: .ref b :: []) σ Q ↔ aIs σ b 7 ∧ aX d iX7_apart 0 [some (.ref b), some (.int p0), some (.int p1)] [] σ (fun r τ => aX (d + 1) iX7_differsWith 40 (ls) (aret r ([])) τ Q) := X_invv (N := 2) (As := [.int p1, .int p0]) (w := 862) kX7_differsWith_37 (by decide +kernel) (by decide +kernel) rfl rfl (by simp only [List.length_cons, List.length_nil]; omega) (by simp only [List.length_cons, List.length_nil]; omega) (by decide +kernel) rfl (Nat.le_of_ble_eq_true rfl)
theorem kX7_differsWith_40 : aCode iX7_differsWith 40 = some (.ireturn, 1) := by decide +kernel
theorem sX7_differsWith_40 {d : Nat} {σ : aS} {Q : aQ} {v : Int32} {ls : aL} : aX d iX7_differsWith 40 (ls) ([.int v]) σ Q ↔ Q (some (.int v)) σ := X_iret kX7_differsWith_40 (by decide +kernel)
theorem kX7_bestWord_0 : aCode iX7_bestWord 0 = some (.iload_n 1, 1) := by decide +kernel
theorem sX7_bestWord_0 {d : Nat} {σ : aS} {Q : aQ} {l0 : Option Value} {x : Int32} {lt : aL} {st : List Value} : aX d iX7_bestWord 0 (l0 :: some (.int x) :: lt) (st) σ Q ↔ aX d iX7_bestWord 1 (l0 :: some (.int x) :: lt) (.int x :: st) σ Q := X_iloadn kX7_bestWord_0 rfl
theorem kX7_bestWord_1 : aCode iX7_bestWord 1 = some (.invokestatic 105, 3) := by decide +kernel
theorem sX7_bestWord_1 {d : Nat} {σ : aS} {Q : aQ} {p0 : Int32} {ls : aL} : aX (d + 1) iX7_bestWord 1 (ls) (.int p0 :: []) σ Q ↔ aX d iX7_isSeat 0 [some (.int p0)] [] σ (fun r τ => aX (d + 1) iX7_bestWord 4 (ls) (aret r ([])) τ Q) := X_invs (N := 1) (As := [.int p0]) (k := 1) (w := 712) kX7_bestWord_1 (by decide +kernel) (by decide) (by decide +kernel) rfl rfl (by simp only [List.length_cons, List.length_nil]; omega) (by simp only [List.length_cons, List.length_nil]; omega) rfl (Nat.le_of_ble_eq_true rfl)
theorem kX7_bestWord_4 : aCode iX7_bestWord 4 = some (.ifCond .eq 12, 3) := by decide +kernel
theorem sX7_bestWord_4 {d : Nat} {σ : aS} {Q : aQ} {x : Int32} {ls : aL} {st : List Value} : aX d iX7_bestWord 4 (ls) (.int x :: st) σ Q ↔ (if x = nI 0 then aX d iX7_bestWord 16 (ls) (st) σ Q else aX d iX7_bestWord 7 (ls) (st) σ Q) := by rw [X_if kX7_bestWord_4 (t := 16) (by decide)]; simp only [aCmp_eq]
theorem kX7_bestWord_7 : aCode iX7_bestWord 7 = some (.iload_n 2, 1) := by decide +kernel
theorem sX7_bestWord_7 {d : Nat} {σ : aS} {Q : aQ} {l0 l1 : Option Value} {x : Int32} {lt : aL} {st : List Value} : aX d iX7_bestWord 7 (l0 :: l1 :: some (.int x) :: lt) (st) σ Q ↔ aX d iX7_bestWord 8 (l0 :: l1 :: some (.int x) :: lt) (.int x :: st) σ Q := X_iloadn kX7_bestWord_7 rfl
theorem kX7_bestWord_8 : aCode iX7_bestWord 8 = some (.iconst 0, 1) := by decide +kernel
theorem sX7_bestWord_8 {d : Nat} {σ : aS} {Q : aQ} {ls : aL} {st : List Value} : aX d iX7_bestWord 8 (ls) (st) σ Q ↔ aX d iX7_bestWord 9 (ls) (.int (nI 0) :: st) σ Q := X_iconst kX7_bestWord_8 (by decide +kernel)
theorem kX7_bestWord_9 : aCode iX7_bestWord 9 = some (.iconst 1, 1) := by decide +kernel
theorem sX7_bestWord_9 {d : Nat} {σ : aS} {Q : aQ} {ls : aL} {st : List Value} : aX d iX7_bestWord 9 (ls) (st) σ Q ↔ aX d iX7_bestWord 10 (ls) (.int (nI 1) :: st) σ Q := X_iconst kX7_bestWord_9 (by decide +kernel)
theorem kX7_bestWord_10 : aCode iX7_bestWord 10 = some (.invokestatic 36, 3) := by decide +kernel
theorem sX7_bestWord_10 {d : Nat} {σ : aS} {Q : aQ} {p0 : Int32} {p1 : Int32} {p2 : Int32} {ls : aL} : aX (d + 1) iX7_bestWord 10 (ls) (.int p2 :: .int p1 :: .int p0 :: []) σ Q ↔ aX d iX7_within 0 [some (.int p0), some (.int p1), some (.int p2)] [] σ (fun r τ => aX (d + 1) iX7_bestWord 13 (ls) (aret r ([])) τ Q) := X_invs (N := 3) (As := [.int p2, .int p1, .int p0]) (k := 1) (w := 694) kX7_bestWord_10 (by decide +kernel) (by decide) (by decide +kernel) rfl rfl (by simp only [List.length_cons, List.length_nil]; omega) (by simp only [List.length_cons, List.length_nil]; omega) rfl (Nat.le_of_ble_eq_true rfl)
theorem kX7_bestWord_13 : aCode iX7_bestWord 13 = some (.ifCond .ne 17, 3) := by decide +kernel
theorem sX7_bestWord_13 {d : Nat} {σ : aS} {Q : aQ} {x : Int32} {ls : aL} {st : List Value} : aX d iX7_bestWord 13 (ls) (.int x :: st) σ Q ↔ (if ¬ x = nI 0 then aX d iX7_bestWord 30 (ls) (st) σ Q else aX d iX7_bestWord 16 (ls) (st) σ Q) := by rw [X_if kX7_bestWord_13 (t := 30) (by decide)]; simp only [aCmp_ne]
theorem kX7_bestWord_16 : aCode iX7_bestWord 16 = some (.iload_n 1, 1) := by decide +kernel
theorem sX7_bestWord_16 {d : Nat} {σ : aS} {Q : aQ} {l0 : Option Value} {x : Int32} {lt : aL} {st : List Value} : aX d iX7_bestWord 16 (l0 :: some (.int x) :: lt) (st) σ Q ↔ aX d iX7_bestWord 17 (l0 :: some (.int x) :: lt) (.int x :: st) σ Q := X_iloadn kX7_bestWord_16 rfl
theorem kX7_bestWord_17 : aCode iX7_bestWord 17 = some (.invokestatic 105, 3) := by decide +kernel
theorem sX7_bestWord_17 {d : Nat} {σ : aS} {Q : aQ} {p0 : Int32} {ls : aL} : aX (d + 1) iX7_bestWord 17 (ls) (.int p0 :: []) σ Q ↔ aX d iX7_isSeat 0 [some (.int p0)] [] σ (fun r τ => aX (d + 1) iX7_bestWord 20 (ls) (aret r ([])) τ Q) := X_invs (N := 1) (As := [.int p0]) (k := 1) (w := 712) kX7_bestWord_17 (by decide +kernel) (by decide) (by decide +kernel) rfl rfl (by simp only [List.length_cons, List.length_nil]; omega) (by simp only [List.length_cons, List.length_nil]; omega) rfl (Nat.le_of_ble_eq_true rfl)
theorem kX7_bestWord_20 : aCode iX7_bestWord 20 = some (.ifCond .eq 8, 3) := by decide +kernel
theorem sX7_bestWord_20 {d : Nat} {σ : aS} {Q : aQ} {x : Int32} {ls : aL} {st : List Value} : aX d iX7_bestWord 20 (ls) (.int x :: st) σ Q ↔ (if x = nI 0 then aX d iX7_bestWord 28 (ls) (st) σ Q else aX d iX7_bestWord 23 (ls) (st) σ Q) := by rw [X_if kX7_bestWord_20 (t := 28) (by decide)]; simp only [aCmp_eq]
theorem kX7_bestWord_23 : aCode iX7_bestWord 23 = some (.bipush (-2), 2) := by decide +kernel
theorem sX7_bestWord_23 {d : Nat} {σ : aS} {Q : aQ} {ls : aL} {st : List Value} : aX d iX7_bestWord 23 (ls) (st) σ Q ↔ aX d iX7_bestWord 25 (ls) (.int ((-2)) :: st) σ Q := X_bipush kX7_bestWord_23 (by decide +kernel)
theorem kX7_bestWord_25 : aCode iX7_bestWord 25 = some (.goto 4, 3) := by decide +kernel
theorem sX7_bestWord_25 {d : Nat} {σ : aS} {Q : aQ} {ls : aL} {st : List Value} : aX d iX7_bestWord 25 (ls) (st) σ Q ↔ aX d iX7_bestWord 29 (ls) (st) σ Q := X_goto kX7_bestWord_25 (by decide)
theorem kX7_bestWord_28 : aCode iX7_bestWord 28 = some (.iconst (-1), 1) := by decide +kernel
theorem sX7_bestWord_28 {d : Nat} {σ : aS} {Q : aQ} {ls : aL} {st : List Value} : aX d iX7_bestWord 28 (ls) (st) σ Q ↔ aX d iX7_bestWord 29 (ls) (.int ((-1)) :: st) σ Q := X_iconst kX7_bestWord_28 (by decide +kernel)
theorem kX7_bestWord_29 : aCode iX7_bestWord 29 = some (.ireturn, 1) := by decide +kernel
theorem sX7_bestWord_29 {d : Nat} {σ : aS} {Q : aQ} {v : Int32} {ls : aL} : aX d iX7_bestWord 29 (ls) ([.int v]) σ Q ↔ Q (some (.int v)) σ := X_iret kX7_bestWord_29 (by decide +kernel)
theorem kX7_bestWord_30 : aCode iX7_bestWord 30 = some (.aload_n 0, 1) := by decide +kernel
theorem sX7_bestWord_30 {d : Nat} {σ : aS} {Q : aQ} {x : Nat} {lt : aL} {st : List Value} : aX d iX7_bestWord 30 (some (.ref x) :: lt) (st) σ Q ↔ aX d iX7_bestWord 31 (some (.ref x) :: lt) (.ref x :: st) σ Q := X_aloadn kX7_bestWord_30 rfl rfl
theorem kX7_bestWord_31 : aCode iX7_bestWord 31 = some (.iload_n 1, 1) := by decide +kernel
theorem sX7_bestWord_31 {d : Nat} {σ : aS} {Q : aQ} {l0 : Option Value} {x : Int32} {lt : aL} {st : List Value} : aX d iX7_bestWord 31 (l0 :: some (.int x) :: lt) (st) σ Q ↔ aX d iX7_bestWord 32 (l0 :: some (.int x) :: lt) (.int x :: st) σ Q := X_iloadn kX7_bestWord_31 rfl
theorem kX7_bestWord_32 : aCode iX7_bestWord 32 = some (.invokevirtual 69, 3) := by decide +kernel
theorem sX7_bestWord_32 {d : Nat} {σ : aS} {Q : aQ} {b : Nat} {p0 : Int32} {ls : aL} : aX (d + 1) iX7_bestWord 32 (ls) (.int p0 :: .ref b :: []) σ Q ↔ aIs σ b 7 ∧ aX d iX7_isTaken 0 [some (.ref b), some (.int p0)] [] σ (fun r τ => aX (d + 1) iX7_bestWord 35 (ls) (aret r ([])) τ Q) := X_invv (N := 1) (As := [.int p0]) (w := 730) kX7_bestWord_32 (by decide +kernel) (by decide +kernel) rfl rfl (by simp only [List.length_cons, List.length_nil]; omega) (by simp only [List.length_cons, List.length_nil]; omega) (by decide +kernel) rfl (Nat.le_of_ble_eq_true rfl)
theorem kX7_bestWord_35 : aCode iX7_bestWord 35 = some (.ifCond .ne 6, 3) := by decide +kernel
theorem sX7_bestWord_35 {d : Nat} {σ : aS} {Q : aQ} {x : Int32} {ls : aL} {st : List Value} : aX d iX7_bestWord 35 (ls) (.int x :: st) σ Q ↔ (if ¬ x = nI 0 then aX d iX7_bestWord 41 (ls) (st) σ Q else aX d iX7_bestWord 38 (ls) (st) σ Q) := by rw [X_if kX7_bestWord_35 (t := 41) (by decide)]; simp only [aCmp_ne]
theorem kX7_bestWord_38 : aCode iX7_bestWord 38 = some (.bipush (-5), 2) := by decide +kernel
theorem sX7_bestWord_38 {d : Nat} {σ : aS} {Q : aQ} {ls : aL} {st : List Value} : aX d iX7_bestWord 38 (ls) (st) σ Q ↔ aX d iX7_bestWord 40 (ls) (.int ((-5)) :: st) σ Q := X_bipush kX7_bestWord_38 (by decide +kernel)
theorem kX7_bestWord_40 : aCode iX7_bestWord 40 = some (.ireturn, 1) := by decide +kernel
theorem sX7_bestWord_40 {d : Nat} {σ : aS} {Q : aQ} {v : Int32} {ls : aL} : aX d iX7_bestWord 40 (ls) ([.int v]) σ Q ↔ Q (some (.int v)) σ := X_iret kX7_bestWord_40 (by decide +kernel)
theorem kX7_bestWord_41 : aCode iX7_bestWord 41 = some (.aload_n 0, 1) := by decide +kernel
theorem sX7_bestWord_41 {d : Nat} {σ : aS} {Q : aQ} {x : Nat} {lt : aL} {st : List Value} : aX d iX7_bestWord 41 (some (.ref x) :: lt) (st) σ Q ↔ aX d iX7_bestWord 42 (some (.ref x) :: lt) (.ref x :: st) σ Q := X_aloadn kX7_bestWord_41 rfl rfl
theorem kX7_bestWord_42 : aCode iX7_bestWord 42 = some (.getfield 7, 3) := by decide +kernel
theorem sX7_bestWord_42 {d : Nat} {σ : aS} {Q : aQ} {a : Nat} {ls : aL} {st : List Value} : aX d iX7_bestWord 42 (ls) (.ref a :: st) σ Q ↔ ∃ v, aFld σ a 7 0 = some v ∧ aX d iX7_bestWord 45 (ls) (v :: st) σ Q := X_getf (w := 650) kX7_bestWord_42 (by decide +kernel)
theorem kX7_bestWord_45 : aCode iX7_bestWord 45 = some (.iconst 0, 1) := by decide +kernel
theorem sX7_bestWord_45 {d : Nat} {σ : aS} {Q : aQ} {ls : aL} {st : List Value} : aX d iX7_bestWord 45 (ls) (st) σ Q ↔ aX d iX7_bestWord 46 (ls) (.int (nI 0) :: st) σ Q := X_iconst kX7_bestWord_45 (by decide +kernel)
theorem kX7_bestWord_46 : aCode iX7_bestWord 46 = some (.aload_n 0, 1) := by decide +kernel
theorem sX7_bestWord_46 {d : Nat} {σ : aS} {Q : aQ} {x : Nat} {lt : aL} {st : List Value} : aX d iX7_bestWord 46 (some (.ref x) :: lt) (st) σ Q ↔ aX d iX7_bestWord 47 (some (.ref x) :: lt) (.ref x :: st) σ Q := X_aloadn kX7_bestWord_46 rfl rfl
theorem kX7_bestWord_47 : aCode iX7_bestWord 47 = some (.getfield 13, 3) := by decide +kernel
theorem sX7_bestWord_47 {d : Nat} {σ : aS} {Q : aQ} {a : Nat} {ls : aL} {st : List Value} : aX d iX7_bestWord 47 (ls) (.ref a :: st) σ Q ↔ ∃ v, aFld σ a 7 1 = some v ∧ aX d iX7_bestWord 50 (ls) (v :: st) σ Q := X_getf (w := 651) kX7_bestWord_47 (by decide +kernel)
theorem kX7_bestWord_50 : aCode iX7_bestWord 50 = some (.iconst 0, 1) := by decide +kernel
theorem sX7_bestWord_50 {d : Nat} {σ : aS} {Q : aQ} {ls : aL} {st : List Value} : aX d iX7_bestWord 50 (ls) (st) σ Q ↔ aX d iX7_bestWord 51 (ls) (.int (nI 0) :: st) σ Q := X_iconst kX7_bestWord_50 (by decide +kernel)
theorem kX7_bestWord_51 : aCode iX7_bestWord 51 = some (.invokestatic 32, 3) := by decide +kernel
theorem sX7_bestWord_51 {d : Nat} {σ : aS} {Q : aQ} {p0 : Nat} {p1 : Int32} {p2 : Nat} {p3 : Int32} {ls : aL} : aX (d + 1) iX7_bestWord 51 (ls) (.int p3 :: .ref p2 :: .int p1 :: .ref p0 :: []) σ Q ↔ aX d iX7_moves 0 [some (.ref p0), some (.int p1), some (.ref p2), some (.int p3), none] [] σ (fun r τ => aX (d + 1) iX7_bestWord 54 (ls) (aret r ([])) τ Q) := X_invs (N := 4) (As := [.int p3, .ref p2, .int p1, .ref p0]) (k := 1) (w := 701) kX7_bestWord_51 (by decide +kernel) (by decide) (by decide +kernel) rfl rfl (by simp only [List.length_cons, List.length_nil]; omega) (by simp only [List.length_cons, List.length_nil]; omega) rfl (Nat.le_of_ble_eq_true rfl)
theorem kX7_bestWord_54 : aCode iX7_bestWord 54 = some (.bipush (-6), 2) := by decide +kernel
theorem sX7_bestWord_54 {d : Nat} {σ : aS} {Q : aQ} {ls : aL} {st : List Value} : aX d iX7_bestWord 54 (ls) (st) σ Q ↔ aX d iX7_bestWord 56 (ls) (.int ((-6)) :: st) σ Q := X_bipush kX7_bestWord_54 (by decide +kernel)
theorem kX7_bestWord_56 : aCode iX7_bestWord 56 = some (.istore_n 3, 1) := by decide +kernel
theorem sX7_bestWord_56 {d : Nat} {σ : aS} {Q : aQ} {l0 l1 l2 lo : Option Value} {x : Int32} {lt : aL} {st : List Value} : aX d iX7_bestWord 56 (l0 :: l1 :: l2 :: lo :: lt) (.int x :: st) σ Q ↔ aX d iX7_bestWord 57 (l0 :: l1 :: aclr l2 :: some (.int x) :: lt) (st) σ Q := X_istoren kX7_bestWord_56 (by simp only [List.length_cons]; omega)
theorem kX7_bestWord_57 : aCode iX7_bestWord 57 = some (.bipush 13, 2) := by decide +kernel
theorem sX7_bestWord_57 {d : Nat} {σ : aS} {Q : aQ} {ls : aL} {st : List Value} : aX d iX7_bestWord 57 (ls) (st) σ Q ↔ aX d iX7_bestWord 59 (ls) (.int (nI 13) :: st) σ Q := X_bipush kX7_bestWord_57 (by decide +kernel)
theorem kX7_bestWord_59 : aCode iX7_bestWord 59 = some (.istore 4, 2) := by decide +kernel
theorem sX7_bestWord_59 {d : Nat} {σ : aS} {Q : aQ} {l0 l1 l2 l3 lo : Option Value} {x : Int32} {lt : aL} {st : List Value} : aX d iX7_bestWord 59 (l0 :: l1 :: l2 :: l3 :: lo :: lt) (.int x :: st) σ Q ↔ aX d iX7_bestWord 61 (l0 :: l1 :: l2 :: aclr l3 :: some (.int x) :: lt) (st) σ Q := X_istore kX7_bestWord_59 (by simp only [List.length_cons]; omega)
theorem kX7_bestWord_61 : aCode iX7_bestWord 61 = some (.iconst 0, 1) := by decide +kernel
theorem sX7_bestWord_61 {d : Nat} {σ : aS} {Q : aQ} {ls : aL} {st : List Value} : aX d iX7_bestWord 61 (ls) (st) σ Q ↔ aX d iX7_bestWord 62 (ls) (.int (nI 0) :: st) σ Q := X_iconst kX7_bestWord_61 (by decide +kernel)
theorem kX7_bestWord_62 : aCode iX7_bestWord 62 = some (.istore 5, 2) := by decide +kernel
theorem sX7_bestWord_62 {d : Nat} {σ : aS} {Q : aQ} {l0 l1 l2 l3 l4 lo : Option Value} {x : Int32} {lt : aL} {st : List Value} : aX d iX7_bestWord 62 (l0 :: l1 :: l2 :: l3 :: l4 :: lo :: lt) (.int x :: st) σ Q ↔ aX d iX7_bestWord 64 (l0 :: l1 :: l2 :: l3 :: aclr l4 :: some (.int x) :: lt) (st) σ Q := X_istore kX7_bestWord_62 (by simp only [List.length_cons]; omega)
theorem kX7_bestWord_64 : aCode iX7_bestWord 64 = some (.iload 5, 2) := by decide +kernel
theorem sX7_bestWord_64 {d : Nat} {σ : aS} {Q : aQ} {l0 l1 l2 l3 l4 : Option Value} {x : Int32} {lt : aL} {st : List Value} : aX d iX7_bestWord 64 (l0 :: l1 :: l2 :: l3 :: l4 :: some (.int x) :: lt) (st) σ Q ↔ aX d iX7_bestWord 66 (l0 :: l1 :: l2 :: l3 :: l4 :: some (.int x) :: lt) (.int x :: st) σ Q := X_iload kX7_bestWord_64 rfl
theorem kX7_bestWord_66 : aCode iX7_bestWord 66 = some (.bipush 16, 2) := by decide +kernel
theorem sX7_bestWord_66 {d : Nat} {σ : aS} {Q : aQ} {ls : aL} {st : List Value} : aX d iX7_bestWord 66 (ls) (st) σ Q ↔ aX d iX7_bestWord 68 (ls) (.int (nI 16) :: st) σ Q := X_bipush kX7_bestWord_66 (by decide +kernel)
theorem kX7_bestWord_68 : aCode iX7_bestWord 68 = some (.if_icmp .ge 48, 3) := by decide +kernel
theorem sX7_bestWord_68 {d : Nat} {σ : aS} {Q : aQ} {x y : Int32} {ls : aL} {st : List Value} : aX d iX7_bestWord 68 (ls) (.int y :: .int x :: st) σ Q ↔ (if y ≤ x then aX d iX7_bestWord 116 (ls) (st) σ Q else aX d iX7_bestWord 71 (ls) (st) σ Q) := by rw [X_icmp kX7_bestWord_68 (t := 116) (by decide)]; simp only [aCmp_ge]
theorem kX7_bestWord_71 : aCode iX7_bestWord 71 = some (.aload_n 0, 1) := by decide +kernel
theorem sX7_bestWord_71 {d : Nat} {σ : aS} {Q : aQ} {x : Nat} {lt : aL} {st : List Value} : aX d iX7_bestWord 71 (some (.ref x) :: lt) (st) σ Q ↔ aX d iX7_bestWord 72 (some (.ref x) :: lt) (.ref x :: st) σ Q := X_aloadn kX7_bestWord_71 rfl rfl
theorem kX7_bestWord_72 : aCode iX7_bestWord 72 = some (.iload_n 1, 1) := by decide +kernel
theorem sX7_bestWord_72 {d : Nat} {σ : aS} {Q : aQ} {l0 : Option Value} {x : Int32} {lt : aL} {st : List Value} : aX d iX7_bestWord 72 (l0 :: some (.int x) :: lt) (st) σ Q ↔ aX d iX7_bestWord 73 (l0 :: some (.int x) :: lt) (.int x :: st) σ Q := X_iloadn kX7_bestWord_72 rfl
theorem kX7_bestWord_73 : aCode iX7_bestWord 73 = some (.iload 5, 2) := by decide +kernel
theorem sX7_bestWord_73 {d : Nat} {σ : aS} {Q : aQ} {l0 l1 l2 l3 l4 : Option Value} {x : Int32} {lt : aL} {st : List Value} : aX d iX7_bestWord 73 (l0 :: l1 :: l2 :: l3 :: l4 :: some (.int x) :: lt) (st) σ Q ↔ aX d iX7_bestWord 75 (l0 :: l1 :: l2 :: l3 :: l4 :: some (.int x) :: lt) (.int x :: st) σ Q := X_iload kX7_bestWord_73 rfl
theorem kX7_bestWord_75 : aCode iX7_bestWord 75 = some (.invokevirtual 166, 3) := by decide +kernel
theorem sX7_bestWord_75 {d : Nat} {σ : aS} {Q : aQ} {b : Nat} {p0 : Int32} {p1 : Int32} {ls : aL} : aX (d + 1) iX7_bestWord 75 (ls) (.int p1 :: .int p0 :: .ref b :: []) σ Q ↔ aIs σ b 7 ∧ aX d iX7_differsWith 0 [some (.ref b), some (.int p0), some (.int p1), none] [] σ (fun r τ => aX (d + 1) iX7_bestWord 78 (ls) (aret r ([])) τ Q) := X_invv (N := 2) (As := [.int p1, .int p0]) (w := 902) kX7_bestWord_75 (by decide +kernel) (by decide +kernel) rfl rfl (by simp only [List.length_cons, List.length_nil]; omega) (by simp only [List.length_cons, List.length_nil]; omega) (by decide +kernel) rfl (Nat.le_of_ble_eq_true rfl)
theorem kX7_bestWord_78 : aCode iX7_bestWord 78 = some (.istore 6, 2) := by decide +kernel
theorem sX7_bestWord_78 {d : Nat} {σ : aS} {Q : aQ} {l0 l1 l2 l3 l4 l5 lo : Option Value} {x : Int32} {lt : aL} {st : List Value} : aX d iX7_bestWord 78 (l0 :: l1 :: l2 :: l3 :: l4 :: l5 :: lo :: lt) (.int x :: st) σ Q ↔ aX d iX7_bestWord 80 (l0 :: l1 :: l2 :: l3 :: l4 :: aclr l5 :: some (.int x) :: lt) (st) σ Q := X_istore kX7_bestWord_78 (by simp only [List.length_cons]; omega)
theorem kX7_bestWord_80 : aCode iX7_bestWord 80 = some (.iload 6, 2) := by decide +kernel
theorem sX7_bestWord_80 {d : Nat} {σ : aS} {Q : aQ} {l0 l1 l2 l3 l4 l5 : Option Value} {x : Int32} {lt : aL} {st : List Value} : aX d iX7_bestWord 80 (l0 :: l1 :: l2 :: l3 :: l4 :: l5 :: some (.int x) :: lt) (st) σ Q ↔ aX d iX7_bestWord 82 (l0 :: l1 :: l2 :: l3 :: l4 :: l5 :: some (.int x) :: lt) (.int x :: st) σ Q := X_iload kX7_bestWord_80 rfl
theorem kX7_bestWord_82 : aCode iX7_bestWord 82 = some (.iload 4, 2) := by decide +kernel
theorem sX7_bestWord_82 {d : Nat} {σ : aS} {Q : aQ} {l0 l1 l2 l3 : Option Value} {x : Int32} {lt : aL} {st : List Value} : aX d iX7_bestWord 82 (l0 :: l1 :: l2 :: l3 :: some (.int x) :: lt) (st) σ Q ↔ aX d iX7_bestWord 84 (l0 :: l1 :: l2 :: l3 :: some (.int x) :: lt) (.int x :: st) σ Q := X_iload kX7_bestWord_82 rfl
theorem kX7_bestWord_84 : aCode iX7_bestWord 84 = some (.if_icmp .ge 8, 3) := by decide +kernel
theorem sX7_bestWord_84 {d : Nat} {σ : aS} {Q : aQ} {x y : Int32} {ls : aL} {st : List Value} : aX d iX7_bestWord 84 (ls) (.int y :: .int x :: st) σ Q ↔ (if y ≤ x then aX d iX7_bestWord 92 (ls) (st) σ Q else aX d iX7_bestWord 87 (ls) (st) σ Q) := by rw [X_icmp kX7_bestWord_84 (t := 92) (by decide)]; simp only [aCmp_ge]
theorem kX7_bestWord_87 : aCode iX7_bestWord 87 = some (.iload 5, 2) := by decide +kernel
theorem sX7_bestWord_87 {d : Nat} {σ : aS} {Q : aQ} {l0 l1 l2 l3 l4 : Option Value} {x : Int32} {lt : aL} {st : List Value} : aX d iX7_bestWord 87 (l0 :: l1 :: l2 :: l3 :: l4 :: some (.int x) :: lt) (st) σ Q ↔ aX d iX7_bestWord 89 (l0 :: l1 :: l2 :: l3 :: l4 :: some (.int x) :: lt) (.int x :: st) σ Q := X_iload kX7_bestWord_87 rfl
theorem kX7_bestWord_89 : aCode iX7_bestWord 89 = some (.goto 4, 3) := by decide +kernel
theorem sX7_bestWord_89 {d : Nat} {σ : aS} {Q : aQ} {ls : aL} {st : List Value} : aX d iX7_bestWord 89 (ls) (st) σ Q ↔ aX d iX7_bestWord 93 (ls) (st) σ Q := X_goto kX7_bestWord_89 (by decide)
theorem kX7_bestWord_92 : aCode iX7_bestWord 92 = some (.iload_n 3, 1) := by decide +kernel
theorem sX7_bestWord_92 {d : Nat} {σ : aS} {Q : aQ} {l0 l1 l2 : Option Value} {x : Int32} {lt : aL} {st : List Value} : aX d iX7_bestWord 92 (l0 :: l1 :: l2 :: some (.int x) :: lt) (st) σ Q ↔ aX d iX7_bestWord 93 (l0 :: l1 :: l2 :: some (.int x) :: lt) (.int x :: st) σ Q := X_iloadn kX7_bestWord_92 rfl
theorem kX7_bestWord_93 : aCode iX7_bestWord 93 = some (.istore_n 3, 1) := by decide +kernel
theorem sX7_bestWord_93 {d : Nat} {σ : aS} {Q : aQ} {l0 l1 l2 lo : Option Value} {x : Int32} {lt : aL} {st : List Value} : aX d iX7_bestWord 93 (l0 :: l1 :: l2 :: lo :: lt) (.int x :: st) σ Q ↔ aX d iX7_bestWord 94 (l0 :: l1 :: aclr l2 :: some (.int x) :: lt) (st) σ Q := X_istoren kX7_bestWord_93 (by simp only [List.length_cons]; omega)
theorem kX7_bestWord_94 : aCode iX7_bestWord 94 = some (.iload 6, 2) := by decide +kernel
theorem sX7_bestWord_94 {d : Nat} {σ : aS} {Q : aQ} {l0 l1 l2 l3 l4 l5 : Option Value} {x : Int32} {lt : aL} {st : List Value} : aX d iX7_bestWord 94 (l0 :: l1 :: l2 :: l3 :: l4 :: l5 :: some (.int x) :: lt) (st) σ Q ↔ aX d iX7_bestWord 96 (l0 :: l1 :: l2 :: l3 :: l4 :: l5 :: some (.int x) :: lt) (.int x :: st) σ Q := X_iload kX7_bestWord_94 rfl
theorem kX7_bestWord_96 : aCode iX7_bestWord 96 = some (.iload 4, 2) := by decide +kernel
theorem sX7_bestWord_96 {d : Nat} {σ : aS} {Q : aQ} {l0 l1 l2 l3 : Option Value} {x : Int32} {lt : aL} {st : List Value} : aX d iX7_bestWord 96 (l0 :: l1 :: l2 :: l3 :: some (.int x) :: lt) (st) σ Q ↔ aX d iX7_bestWord 98 (l0 :: l1 :: l2 :: l3 :: some (.int x) :: lt) (.int x :: st) σ Q := X_iload kX7_bestWord_96 rfl
theorem kX7_bestWord_98 : aCode iX7_bestWord 98 = some (.if_icmp .ge 8, 3) := by decide +kernel
theorem sX7_bestWord_98 {d : Nat} {σ : aS} {Q : aQ} {x y : Int32} {ls : aL} {st : List Value} : aX d iX7_bestWord 98 (ls) (.int y :: .int x :: st) σ Q ↔ (if y ≤ x then aX d iX7_bestWord 106 (ls) (st) σ Q else aX d iX7_bestWord 101 (ls) (st) σ Q) := by rw [X_icmp kX7_bestWord_98 (t := 106) (by decide)]; simp only [aCmp_ge]
theorem kX7_bestWord_101 : aCode iX7_bestWord 101 = some (.iload 6, 2) := by decide +kernel
theorem sX7_bestWord_101 {d : Nat} {σ : aS} {Q : aQ} {l0 l1 l2 l3 l4 l5 : Option Value} {x : Int32} {lt : aL} {st : List Value} : aX d iX7_bestWord 101 (l0 :: l1 :: l2 :: l3 :: l4 :: l5 :: some (.int x) :: lt) (st) σ Q ↔ aX d iX7_bestWord 103 (l0 :: l1 :: l2 :: l3 :: l4 :: l5 :: some (.int x) :: lt) (.int x :: st) σ Q := X_iload kX7_bestWord_101 rfl
theorem kX7_bestWord_103 : aCode iX7_bestWord 103 = some (.goto 5, 3) := by decide +kernel
theorem sX7_bestWord_103 {d : Nat} {σ : aS} {Q : aQ} {ls : aL} {st : List Value} : aX d iX7_bestWord 103 (ls) (st) σ Q ↔ aX d iX7_bestWord 108 (ls) (st) σ Q := X_goto kX7_bestWord_103 (by decide)
theorem kX7_bestWord_106 : aCode iX7_bestWord 106 = some (.iload 4, 2) := by decide +kernel
theorem sX7_bestWord_106 {d : Nat} {σ : aS} {Q : aQ} {l0 l1 l2 l3 : Option Value} {x : Int32} {lt : aL} {st : List Value} : aX d iX7_bestWord 106 (l0 :: l1 :: l2 :: l3 :: some (.int x) :: lt) (st) σ Q ↔ aX d iX7_bestWord 108 (l0 :: l1 :: l2 :: l3 :: some (.int x) :: lt) (.int x :: st) σ Q := X_iload kX7_bestWord_106 rfl
theorem kX7_bestWord_108 : aCode iX7_bestWord 108 = some (.istore 4, 2) := by decide +kernel
theorem sX7_bestWord_108 {d : Nat} {σ : aS} {Q : aQ} {l0 l1 l2 l3 lo : Option Value} {x : Int32} {lt : aL} {st : List Value} : aX d iX7_bestWord 108 (l0 :: l1 :: l2 :: l3 :: lo :: lt) (.int x :: st) σ Q ↔ aX d iX7_bestWord 110 (l0 :: l1 :: l2 :: aclr l3 :: some (.int x) :: lt) (st) σ Q := X_istore kX7_bestWord_108 (by simp only [List.length_cons]; omega)
theorem kX7_bestWord_110 : aCode iX7_bestWord 110 = some (.iinc 5 1, 3) := by decide +kernel
theorem sX7_bestWord_110 {d : Nat} {σ : aS} {Q : aQ} {l0 l1 l2 l3 l4 : Option Value} {x : Int32} {lt : aL} {st : List Value} : aX d iX7_bestWord 110 (l0 :: l1 :: l2 :: l3 :: l4 :: some (.int x) :: lt) (st) σ Q ↔ aX d iX7_bestWord 113 (l0 :: l1 :: l2 :: l3 :: aclr l4 :: some (.int (x + nI 1)) :: lt) (st) σ Q := X_iinc kX7_bestWord_110 rfl (by decide +kernel)
theorem kX7_bestWord_113 : aCode iX7_bestWord 113 = some (.goto (-49), 3) := by decide +kernel
theorem sX7_bestWord_113 {d : Nat} {σ : aS} {Q : aQ} {ls : aL} {st : List Value} : aX d iX7_bestWord 113 (ls) (st) σ Q ↔ aX d iX7_bestWord 64 (ls) (st) σ Q := X_goto kX7_bestWord_113 (by decide)
theorem kX7_bestWord_116 : aCode iX7_bestWord 116 = some (.aload_n 0, 1) := by decide +kernel
theorem sX7_bestWord_116 {d : Nat} {σ : aS} {Q : aQ} {x : Nat} {lt : aL} {st : List Value} : aX d iX7_bestWord 116 (some (.ref x) :: lt) (st) σ Q ↔ aX d iX7_bestWord 117 (some (.ref x) :: lt) (.ref x :: st) σ Q := X_aloadn kX7_bestWord_116 rfl rfl
theorem kX7_bestWord_117 : aCode iX7_bestWord 117 = some (.getfield 13, 3) := by decide +kernel
theorem sX7_bestWord_117 {d : Nat} {σ : aS} {Q : aQ} {a : Nat} {ls : aL} {st : List Value} : aX d iX7_bestWord 117 (ls) (.ref a :: st) σ Q ↔ ∃ v, aFld σ a 7 1 = some v ∧ aX d iX7_bestWord 120 (ls) (v :: st) σ Q := X_getf (w := 651) kX7_bestWord_117 (by decide +kernel)
theorem kX7_bestWord_120 : aCode iX7_bestWord 120 = some (.iconst 0, 1) := by decide +kernel
theorem sX7_bestWord_120 {d : Nat} {σ : aS} {Q : aQ} {ls : aL} {st : List Value} : aX d iX7_bestWord 120 (ls) (st) σ Q ↔ aX d iX7_bestWord 121 (ls) (.int (nI 0) :: st) σ Q := X_iconst kX7_bestWord_120 (by decide +kernel)
theorem kX7_bestWord_121 : aCode iX7_bestWord 121 = some (.aload_n 0, 1) := by decide +kernel
theorem sX7_bestWord_121 {d : Nat} {σ : aS} {Q : aQ} {x : Nat} {lt : aL} {st : List Value} : aX d iX7_bestWord 121 (some (.ref x) :: lt) (st) σ Q ↔ aX d iX7_bestWord 122 (some (.ref x) :: lt) (.ref x :: st) σ Q := X_aloadn kX7_bestWord_121 rfl rfl
theorem kX7_bestWord_122 : aCode iX7_bestWord 122 = some (.getfield 7, 3) := by decide +kernel
theorem sX7_bestWord_122 {d : Nat} {σ : aS} {Q : aQ} {a : Nat} {ls : aL} {st : List Value} : aX d iX7_bestWord 122 (ls) (.ref a :: st) σ Q ↔ ∃ v, aFld σ a 7 0 = some v ∧ aX d iX7_bestWord 125 (ls) (v :: st) σ Q := X_getf (w := 650) kX7_bestWord_122 (by decide +kernel)
theorem kX7_bestWord_125 : aCode iX7_bestWord 125 = some (.iconst 0, 1) := by decide +kernel
theorem sX7_bestWord_125 {d : Nat} {σ : aS} {Q : aQ} {ls : aL} {st : List Value} : aX d iX7_bestWord 125 (ls) (st) σ Q ↔ aX d iX7_bestWord 126 (ls) (.int (nI 0) :: st) σ Q := X_iconst kX7_bestWord_125 (by decide +kernel)
theorem kX7_bestWord_126 : aCode iX7_bestWord 126 = some (.invokestatic 32, 3) := by decide +kernel
theorem sX7_bestWord_126 {d : Nat} {σ : aS} {Q : aQ} {p0 : Nat} {p1 : Int32} {p2 : Nat} {p3 : Int32} {ls : aL} : aX (d + 1) iX7_bestWord 126 (ls) (.int p3 :: .ref p2 :: .int p1 :: .ref p0 :: []) σ Q ↔ aX d iX7_moves 0 [some (.ref p0), some (.int p1), some (.ref p2), some (.int p3), none] [] σ (fun r τ => aX (d + 1) iX7_bestWord 129 (ls) (aret r ([])) τ Q) := X_invs (N := 4) (As := [.int p3, .ref p2, .int p1, .ref p0]) (k := 1) (w := 701) kX7_bestWord_126 (by decide +kernel) (by decide) (by decide +kernel) rfl rfl (by simp only [List.length_cons, List.length_nil]; omega) (by simp only [List.length_cons, List.length_nil]; omega) rfl (Nat.le_of_ble_eq_true rfl)
theorem kX7_bestWord_129 : aCode iX7_bestWord 129 = some (.iload_n 2, 1) := by decide +kernel
theorem sX7_bestWord_129 {d : Nat} {σ : aS} {Q : aQ} {l0 l1 : Option Value} {x : Int32} {lt : aL} {st : List Value} : aX d iX7_bestWord 129 (l0 :: l1 :: some (.int x) :: lt) (st) σ Q ↔ aX d iX7_bestWord 130 (l0 :: l1 :: some (.int x) :: lt) (.int x :: st) σ Q := X_iloadn kX7_bestWord_129 rfl
theorem kX7_bestWord_130 : aCode iX7_bestWord 130 = some (.ifCond .ne 7, 3) := by decide +kernel
theorem sX7_bestWord_130 {d : Nat} {σ : aS} {Q : aQ} {x : Int32} {ls : aL} {st : List Value} : aX d iX7_bestWord 130 (ls) (.int x :: st) σ Q ↔ (if ¬ x = nI 0 then aX d iX7_bestWord 137 (ls) (st) σ Q else aX d iX7_bestWord 133 (ls) (st) σ Q) := by rw [X_if kX7_bestWord_130 (t := 137) (by decide)]; simp only [aCmp_ne]
theorem kX7_bestWord_133 : aCode iX7_bestWord 133 = some (.iload_n 3, 1) := by decide +kernel
theorem sX7_bestWord_133 {d : Nat} {σ : aS} {Q : aQ} {l0 l1 l2 : Option Value} {x : Int32} {lt : aL} {st : List Value} : aX d iX7_bestWord 133 (l0 :: l1 :: l2 :: some (.int x) :: lt) (st) σ Q ↔ aX d iX7_bestWord 134 (l0 :: l1 :: l2 :: some (.int x) :: lt) (.int x :: st) σ Q := X_iloadn kX7_bestWord_133 rfl
theorem kX7_bestWord_134 : aCode iX7_bestWord 134 = some (.goto 5, 3) := by decide +kernel
theorem sX7_bestWord_134 {d : Nat} {σ : aS} {Q : aQ} {ls : aL} {st : List Value} : aX d iX7_bestWord 134 (ls) (st) σ Q ↔ aX d iX7_bestWord 139 (ls) (st) σ Q := X_goto kX7_bestWord_134 (by decide)
theorem kX7_bestWord_137 : aCode iX7_bestWord 137 = some (.iload 4, 2) := by decide +kernel
theorem sX7_bestWord_137 {d : Nat} {σ : aS} {Q : aQ} {l0 l1 l2 l3 : Option Value} {x : Int32} {lt : aL} {st : List Value} : aX d iX7_bestWord 137 (l0 :: l1 :: l2 :: l3 :: some (.int x) :: lt) (st) σ Q ↔ aX d iX7_bestWord 139 (l0 :: l1 :: l2 :: l3 :: some (.int x) :: lt) (.int x :: st) σ Q := X_iload kX7_bestWord_137 rfl
theorem kX7_bestWord_139 : aCode iX7_bestWord 139 = some (.ireturn, 1) := by decide +kernel
theorem sX7_bestWord_139 {d : Nat} {σ : aS} {Q : aQ} {v : Int32} {ls : aL} : aX d iX7_bestWord 139 (ls) ([.int v]) σ Q ↔ Q (some (.int v)) σ := X_iret kX7_bestWord_139 (by decide +kernel)
theorem kX7_pointsThen_0 : aCode iX7_pointsThen 0 = some (.iload_n 1, 1) := by decide +kernel
theorem sX7_pointsThen_0 {d : Nat} {σ : aS} {Q : aQ} {l0 : Option Value} {x : Int32} {lt : aL} {st : List Value} : aX d iX7_pointsThen 0 (l0 :: some (.int x) :: lt) (st) σ Q ↔ aX d iX7_pointsThen 1 (l0 :: some (.int x) :: lt) (.int x :: st) σ Q := X_iloadn kX7_pointsThen_0 rfl
theorem kX7_pointsThen_1 : aCode iX7_pointsThen 1 = some (.invokestatic 105, 3) := by decide +kernel
theorem sX7_pointsThen_1 {d : Nat} {σ : aS} {Q : aQ} {p0 : Int32} {ls : aL} : aX (d + 1) iX7_pointsThen 1 (ls) (.int p0 :: []) σ Q ↔ aX d iX7_isSeat 0 [some (.int p0)] [] σ (fun r τ => aX (d + 1) iX7_pointsThen 4 (ls) (aret r ([])) τ Q) := X_invs (N := 1) (As := [.int p0]) (k := 1) (w := 712) kX7_pointsThen_1 (by decide +kernel) (by decide) (by decide +kernel) rfl rfl (by simp only [List.length_cons, List.length_nil]; omega) (by simp only [List.length_cons, List.length_nil]; omega) rfl (Nat.le_of_ble_eq_true rfl)
theorem kX7_pointsThen_4 : aCode iX7_pointsThen 4 = some (.ifCond .ne 5, 3) := by decide +kernel
theorem sX7_pointsThen_4 {d : Nat} {σ : aS} {Q : aQ} {x : Int32} {ls : aL} {st : List Value} : aX d iX7_pointsThen 4 (ls) (.int x :: st) σ Q ↔ (if ¬ x = nI 0 then aX d iX7_pointsThen 9 (ls) (st) σ Q else aX d iX7_pointsThen 7 (ls) (st) σ Q) := by rw [X_if kX7_pointsThen_4 (t := 9) (by decide)]; simp only [aCmp_ne]
theorem kX7_pointsThen_7 : aCode iX7_pointsThen 7 = some (.iconst (-1), 1) := by decide +kernel
theorem sX7_pointsThen_7 {d : Nat} {σ : aS} {Q : aQ} {ls : aL} {st : List Value} : aX d iX7_pointsThen 7 (ls) (st) σ Q ↔ aX d iX7_pointsThen 8 (ls) (.int ((-1)) :: st) σ Q := X_iconst kX7_pointsThen_7 (by decide +kernel)
theorem kX7_pointsThen_8 : aCode iX7_pointsThen 8 = some (.ireturn, 1) := by decide +kernel
theorem sX7_pointsThen_8 {d : Nat} {σ : aS} {Q : aQ} {v : Int32} {ls : aL} : aX d iX7_pointsThen 8 (ls) ([.int v]) σ Q ↔ Q (some (.int v)) σ := X_iret kX7_pointsThen_8 (by decide +kernel)
theorem kX7_pointsThen_9 : aCode iX7_pointsThen 9 = some (.aload_n 0, 1) := by decide +kernel
theorem sX7_pointsThen_9 {d : Nat} {σ : aS} {Q : aQ} {x : Nat} {lt : aL} {st : List Value} : aX d iX7_pointsThen 9 (some (.ref x) :: lt) (st) σ Q ↔ aX d iX7_pointsThen 10 (some (.ref x) :: lt) (.ref x :: st) σ Q := X_aloadn kX7_pointsThen_9 rfl rfl
theorem kX7_pointsThen_10 : aCode iX7_pointsThen 10 = some (.getfield 7, 3) := by decide +kernel
theorem sX7_pointsThen_10 {d : Nat} {σ : aS} {Q : aQ} {a : Nat} {ls : aL} {st : List Value} : aX d iX7_pointsThen 10 (ls) (.ref a :: st) σ Q ↔ ∃ v, aFld σ a 7 0 = some v ∧ aX d iX7_pointsThen 13 (ls) (v :: st) σ Q := X_getf (w := 650) kX7_pointsThen_10 (by decide +kernel)
theorem kX7_pointsThen_13 : aCode iX7_pointsThen 13 = some (.iconst 0, 1) := by decide +kernel
theorem sX7_pointsThen_13 {d : Nat} {σ : aS} {Q : aQ} {ls : aL} {st : List Value} : aX d iX7_pointsThen 13 (ls) (st) σ Q ↔ aX d iX7_pointsThen 14 (ls) (.int (nI 0) :: st) σ Q := X_iconst kX7_pointsThen_13 (by decide +kernel)
theorem kX7_pointsThen_14 : aCode iX7_pointsThen 14 = some (.aload_n 0, 1) := by decide +kernel
theorem sX7_pointsThen_14 {d : Nat} {σ : aS} {Q : aQ} {x : Nat} {lt : aL} {st : List Value} : aX d iX7_pointsThen 14 (some (.ref x) :: lt) (st) σ Q ↔ aX d iX7_pointsThen 15 (some (.ref x) :: lt) (.ref x :: st) σ Q := X_aloadn kX7_pointsThen_14 rfl rfl
theorem kX7_pointsThen_15 : aCode iX7_pointsThen 15 = some (.getfield 13, 3) := by decide +kernel
theorem sX7_pointsThen_15 {d : Nat} {σ : aS} {Q : aQ} {a : Nat} {ls : aL} {st : List Value} : aX d iX7_pointsThen 15 (ls) (.ref a :: st) σ Q ↔ ∃ v, aFld σ a 7 1 = some v ∧ aX d iX7_pointsThen 18 (ls) (v :: st) σ Q := X_getf (w := 651) kX7_pointsThen_15 (by decide +kernel)
theorem kX7_pointsThen_18 : aCode iX7_pointsThen 18 = some (.iconst 0, 1) := by decide +kernel
theorem sX7_pointsThen_18 {d : Nat} {σ : aS} {Q : aQ} {ls : aL} {st : List Value} : aX d iX7_pointsThen 18 (ls) (st) σ Q ↔ aX d iX7_pointsThen 19 (ls) (.int (nI 0) :: st) σ Q := X_iconst kX7_pointsThen_18 (by decide +kernel)
theorem kX7_pointsThen_19 : aCode iX7_pointsThen 19 = some (.invokestatic 32, 3) := by decide +kernel
theorem sX7_pointsThen_19 {d : Nat} {σ : aS} {Q : aQ} {p0 : Nat} {p1 : Int32} {p2 : Nat} {p3 : Int32} {ls : aL} : aX (d + 1) iX7_pointsThen 19 (ls) (.int p3 :: .ref p2 :: .int p1 :: .ref p0 :: []) σ Q ↔ aX d iX7_moves 0 [some (.ref p0), some (.int p1), some (.ref p2), some (.int p3), none] [] σ (fun r τ => aX (d + 1) iX7_pointsThen 22 (ls) (aret r ([])) τ Q) := X_invs (N := 4) (As := [.int p3, .ref p2, .int p1, .ref p0]) (k := 1) (w := 701) kX7_pointsThen_19 (by decide +kernel) (by decide) (by decide +kernel) rfl rfl (by simp only [List.length_cons, List.length_nil]; omega) (by simp only [List.length_cons, List.length_nil]; omega) rfl (Nat.le_of_ble_eq_true rfl)
theorem kX7_pointsThen_22 : aCode iX7_pointsThen 22 = some (.aload_n 0, 1) := by decide +kernel
theorem sX7_pointsThen_22 {d : Nat} {σ : aS} {Q : aQ} {x : Nat} {lt : aL} {st : List Value} : aX d iX7_pointsThen 22 (some (.ref x) :: lt) (st) σ Q ↔ aX d iX7_pointsThen 23 (some (.ref x) :: lt) (.ref x :: st) σ Q := X_aloadn kX7_pointsThen_22 rfl rfl
theorem kX7_pointsThen_23 : aCode iX7_pointsThen 23 = some (.iconst 0, 1) := by decide +kernel
theorem sX7_pointsThen_23 {d : Nat} {σ : aS} {Q : aQ} {ls : aL} {st : List Value} : aX d iX7_pointsThen 23 (ls) (st) σ Q ↔ aX d iX7_pointsThen 24 (ls) (.int (nI 0) :: st) σ Q := X_iconst kX7_pointsThen_23 (by decide +kernel)
theorem kX7_pointsThen_24 : aCode iX7_pointsThen 24 = some (.invokevirtual 144, 3) := by decide +kernel
theorem sX7_pointsThen_24 {d : Nat} {σ : aS} {Q : aQ} {b : Nat} {p0 : Int32} {ls : aL} : aX (d + 1) iX7_pointsThen 24 (ls) (.int p0 :: .ref b :: []) σ Q ↔ aIs σ b 7 ∧ aX d iX7_withHow 0 [some (.ref b), some (.int p0), none, none] [] σ (fun r τ => aX (d + 1) iX7_pointsThen 27 (ls) (aret r ([])) τ Q) := X_invv (N := 1) (As := [.int p0]) (w := 842) kX7_pointsThen_24 (by decide +kernel) (by decide +kernel) rfl rfl (by simp only [List.length_cons, List.length_nil]; omega) (by simp only [List.length_cons, List.length_nil]; omega) (by decide +kernel) rfl (Nat.le_of_ble_eq_true rfl)
theorem kX7_pointsThen_27 : aCode iX7_pointsThen 27 = some (.ifCond .le 10, 3) := by decide +kernel
theorem sX7_pointsThen_27 {d : Nat} {σ : aS} {Q : aQ} {x : Int32} {ls : aL} {st : List Value} : aX d iX7_pointsThen 27 (ls) (.int x :: st) σ Q ↔ (if x ≤ nI 0 then aX d iX7_pointsThen 37 (ls) (st) σ Q else aX d iX7_pointsThen 30 (ls) (st) σ Q) := by rw [X_if kX7_pointsThen_27 (t := 37) (by decide)]; simp only [aCmp_le]
theorem kX7_pointsThen_30 : aCode iX7_pointsThen 30 = some (.aload_n 0, 1) := by decide +kernel
theorem sX7_pointsThen_30 {d : Nat} {σ : aS} {Q : aQ} {x : Nat} {lt : aL} {st : List Value} : aX d iX7_pointsThen 30 (some (.ref x) :: lt) (st) σ Q ↔ aX d iX7_pointsThen 31 (some (.ref x) :: lt) (.ref x :: st) σ Q := X_aloadn kX7_pointsThen_30 rfl rfl
theorem kX7_pointsThen_31 : aCode iX7_pointsThen 31 = some (.invokevirtual 141, 3) := by decide +kernel
theorem sX7_pointsThen_31 {d : Nat} {σ : aS} {Q : aQ} {b : Nat} {ls : aL} : aX (d + 1) iX7_pointsThen 31 (ls) (.ref b :: []) σ Q ↔ aIs σ b 7 ∧ aX d iX7_makesRound 0 [some (.ref b), none, none] [] σ (fun r τ => aX (d + 1) iX7_pointsThen 34 (ls) (aret r ([])) τ Q) := X_invv (N := 0) (As := []) (w := 794) kX7_pointsThen_31 (by decide +kernel) (by decide +kernel) rfl rfl (by simp only [List.length_cons, List.length_nil]; omega) (by simp only [List.length_cons, List.length_nil]; omega) (by decide +kernel) rfl (Nat.le_of_ble_eq_true rfl)
theorem kX7_pointsThen_34 : aCode iX7_pointsThen 34 = some (.goto (-12), 3) := by decide +kernel
theorem sX7_pointsThen_34 {d : Nat} {σ : aS} {Q : aQ} {ls : aL} {st : List Value} : aX d iX7_pointsThen 34 (ls) (st) σ Q ↔ aX d iX7_pointsThen 22 (ls) (st) σ Q := X_goto kX7_pointsThen_34 (by decide)
theorem kX7_pointsThen_37 : aCode iX7_pointsThen 37 = some (.aload_n 0, 1) := by decide +kernel
theorem sX7_pointsThen_37 {d : Nat} {σ : aS} {Q : aQ} {x : Nat} {lt : aL} {st : List Value} : aX d iX7_pointsThen 37 (some (.ref x) :: lt) (st) σ Q ↔ aX d iX7_pointsThen 38 (some (.ref x) :: lt) (.ref x :: st) σ Q := X_aloadn kX7_pointsThen_37 rfl rfl
theorem kX7_pointsThen_38 : aCode iX7_pointsThen 38 = some (.getfield 7, 3) := by decide +kernel
theorem sX7_pointsThen_38 {d : Nat} {σ : aS} {Q : aQ} {a : Nat} {ls : aL} {st : List Value} : aX d iX7_pointsThen 38 (ls) (.ref a :: st) σ Q ↔ ∃ v, aFld σ a 7 0 = some v ∧ aX d iX7_pointsThen 41 (ls) (v :: st) σ Q := X_getf (w := 650) kX7_pointsThen_38 (by decide +kernel)
theorem kX7_pointsThen_41 : aCode iX7_pointsThen 41 = some (.bipush 25, 2) := by decide +kernel
theorem sX7_pointsThen_41 {d : Nat} {σ : aS} {Q : aQ} {ls : aL} {st : List Value} : aX d iX7_pointsThen 41 (ls) (st) σ Q ↔ aX d iX7_pointsThen 43 (ls) (.int (nI 25) :: st) σ Q := X_bipush kX7_pointsThen_41 (by decide +kernel)
theorem kX7_pointsThen_43 : aCode iX7_pointsThen 43 = some (.iload_n 1, 1) := by decide +kernel
theorem sX7_pointsThen_43 {d : Nat} {σ : aS} {Q : aQ} {l0 : Option Value} {x : Int32} {lt : aL} {st : List Value} : aX d iX7_pointsThen 43 (l0 :: some (.int x) :: lt) (st) σ Q ↔ aX d iX7_pointsThen 44 (l0 :: some (.int x) :: lt) (.int x :: st) σ Q := X_iloadn kX7_pointsThen_43 rfl
theorem kX7_pointsThen_44 : aCode iX7_pointsThen 44 = some (.iadd, 1) := by decide +kernel
theorem sX7_pointsThen_44 {d : Nat} {σ : aS} {Q : aQ} {x y : Int32} {ls : aL} {st : List Value} : aX d iX7_pointsThen 44 (ls) (.int y :: .int x :: st) σ Q ↔ aX d iX7_pointsThen 45 (ls) (.int (x + y) :: st) σ Q := X_iadd kX7_pointsThen_44
theorem kX7_pointsThen_45 : aCode iX7_pointsThen 45 = some (.iaload, 1) := by decide +kernel
theorem sX7_pointsThen_45 {d : Nat} {σ : aS} {Q : aQ} {a : Nat} {i : Int32} {ls : aL} {st : List Value} : aX d iX7_pointsThen 45 (ls) (.int i :: .ref a :: st) σ Q ↔ ∃ x, aRowR σ a = some x ∧ vp_in i x.1 ∧ aX d iX7_pointsThen 46 (ls) (.int (x.2 i.toNatClampNeg) :: st) σ Q := X_iaload kX7_pointsThen_45
theorem kX7_pointsThen_46 : aCode iX7_pointsThen 46 = some (.istore_n 2, 1) := by decide +kernel
theorem sX7_pointsThen_46 {d : Nat} {σ : aS} {Q : aQ} {l0 l1 lo : Option Value} {x : Int32} {lt : aL} {st : List Value} : aX d iX7_pointsThen 46 (l0 :: l1 :: lo :: lt) (.int x :: st) σ Q ↔ aX d iX7_pointsThen 47 (l0 :: aclr l1 :: some (.int x) :: lt) (st) σ Q := X_istoren kX7_pointsThen_46 (by simp only [List.length_cons]; omega)
theorem kX7_pointsThen_47 : aCode iX7_pointsThen 47 = some (.aload_n 0, 1) := by decide +kernel
theorem sX7_pointsThen_47 {d : Nat} {σ : aS} {Q : aQ} {x : Nat} {lt : aL} {st : List Value} : aX d iX7_pointsThen 47 (some (.ref x) :: lt) (st) σ Q ↔ aX d iX7_pointsThen 48 (some (.ref x) :: lt) (.ref x :: st) σ Q := X_aloadn kX7_pointsThen_47 rfl rfl
theorem kX7_pointsThen_48 : aCode iX7_pointsThen 48 = some (.getfield 13, 3) := by decide +kernel
theorem sX7_pointsThen_48 {d : Nat} {σ : aS} {Q : aQ} {a : Nat} {ls : aL} {st : List Value} : aX d iX7_pointsThen 48 (ls) (.ref a :: st) σ Q ↔ ∃ v, aFld σ a 7 1 = some v ∧ aX d iX7_pointsThen 51 (ls) (v :: st) σ Q := X_getf (w := 651) kX7_pointsThen_48 (by decide +kernel)
theorem kX7_pointsThen_51 : aCode iX7_pointsThen 51 = some (.iconst 0, 1) := by decide +kernel
theorem sX7_pointsThen_51 {d : Nat} {σ : aS} {Q : aQ} {ls : aL} {st : List Value} : aX d iX7_pointsThen 51 (ls) (st) σ Q ↔ aX d iX7_pointsThen 52 (ls) (.int (nI 0) :: st) σ Q := X_iconst kX7_pointsThen_51 (by decide +kernel)
theorem kX7_pointsThen_52 : aCode iX7_pointsThen 52 = some (.aload_n 0, 1) := by decide +kernel
theorem sX7_pointsThen_52 {d : Nat} {σ : aS} {Q : aQ} {x : Nat} {lt : aL} {st : List Value} : aX d iX7_pointsThen 52 (some (.ref x) :: lt) (st) σ Q ↔ aX d iX7_pointsThen 53 (some (.ref x) :: lt) (.ref x :: st) σ Q := X_aloadn kX7_pointsThen_52 rfl rfl
theorem kX7_pointsThen_53 : aCode iX7_pointsThen 53 = some (.getfield 7, 3) := by decide +kernel
theorem sX7_pointsThen_53 {d : Nat} {σ : aS} {Q : aQ} {a : Nat} {ls : aL} {st : List Value} : aX d iX7_pointsThen 53 (ls) (.ref a :: st) σ Q ↔ ∃ v, aFld σ a 7 0 = some v ∧ aX d iX7_pointsThen 56 (ls) (v :: st) σ Q := X_getf (w := 650) kX7_pointsThen_53 (by decide +kernel)
theorem kX7_pointsThen_56 : aCode iX7_pointsThen 56 = some (.iconst 0, 1) := by decide +kernel
theorem sX7_pointsThen_56 {d : Nat} {σ : aS} {Q : aQ} {ls : aL} {st : List Value} : aX d iX7_pointsThen 56 (ls) (st) σ Q ↔ aX d iX7_pointsThen 57 (ls) (.int (nI 0) :: st) σ Q := X_iconst kX7_pointsThen_56 (by decide +kernel)
theorem kX7_pointsThen_57 : aCode iX7_pointsThen 57 = some (.invokestatic 32, 3) := by decide +kernel
theorem sX7_pointsThen_57 {d : Nat} {σ : aS} {Q : aQ} {p0 : Nat} {p1 : Int32} {p2 : Nat} {p3 : Int32} {ls : aL} : aX (d + 1) iX7_pointsThen 57 (ls) (.int p3 :: .ref p2 :: .int p1 :: .ref p0 :: []) σ Q ↔ aX d iX7_moves 0 [some (.ref p0), some (.int p1), some (.ref p2), some (.int p3), none] [] σ (fun r τ => aX (d + 1) iX7_pointsThen 60 (ls) (aret r ([])) τ Q) := X_invs (N := 4) (As := [.int p3, .ref p2, .int p1, .ref p0]) (k := 1) (w := 701) kX7_pointsThen_57 (by decide +kernel) (by decide) (by decide +kernel) rfl rfl (by simp only [List.length_cons, List.length_nil]; omega) (by simp only [List.length_cons, List.length_nil]; omega) rfl (Nat.le_of_ble_eq_true rfl)
theorem kX7_pointsThen_60 : aCode iX7_pointsThen 60 = some (.iload_n 2, 1) := by decide +kernel
theorem sX7_pointsThen_60 {d : Nat} {σ : aS} {Q : aQ} {l0 l1 : Option Value} {x : Int32} {lt : aL} {st : List Value} : aX d iX7_pointsThen 60 (l0 :: l1 :: some (.int x) :: lt) (st) σ Q ↔ aX d iX7_pointsThen 61 (l0 :: l1 :: some (.int x) :: lt) (.int x :: st) σ Q := X_iloadn kX7_pointsThen_60 rfl
theorem kX7_pointsThen_61 : aCode iX7_pointsThen 61 = some (.ireturn, 1) := by decide +kernel
theorem sX7_pointsThen_61 {d : Nat} {σ : aS} {Q : aQ} {v : Int32} {ls : aL} : aX d iX7_pointsThen 61 (ls) ([.int v]) σ Q ↔ Q (some (.int v)) σ := X_iret kX7_pointsThen_61 (by decide +kernel)
theorem kX7_put_0 : aCode iX7_put 0 = some (.iconst 0, 1) := by decide +kernel
theorem sX7_put_0 {d : Nat} {σ : aS} {Q : aQ} {ls : aL} {st : List Value} : aX d iX7_put 0 (ls) (st) σ Q ↔ aX d iX7_put 1 (ls) (.int (nI 0) :: st) σ Q := X_iconst kX7_put_0 (by decide +kernel)
theorem kX7_put_1 : aCode iX7_put 1 = some (.istore_n 3, 1) := by decide +kernel
theorem sX7_put_1 {d : Nat} {σ : aS} {Q : aQ} {l0 l1 l2 lo : Option Value} {x : Int32} {lt : aL} {st : List Value} : aX d iX7_put 1 (l0 :: l1 :: l2 :: lo :: lt) (.int x :: st) σ Q ↔ aX d iX7_put 2 (l0 :: l1 :: aclr l2 :: some (.int x) :: lt) (st) σ Q := X_istoren kX7_put_1 (by simp only [List.length_cons]; omega)
theorem kX7_put_2 : aCode iX7_put 2 = some (.lload_n 1, 1) := by decide +kernel
theorem sX7_put_2 {d : Nat} {σ : aS} {Q : aQ} {l0 : Option Value} {x : Int64} {lt : aL} {st : List Value} : aX d iX7_put 2 (l0 :: some (.long x) :: lt) (st) σ Q ↔ aX d iX7_put 3 (l0 :: some (.long x) :: lt) (.long x :: st) σ Q := X_lloadn kX7_put_2 rfl
theorem kX7_put_3 : aCode iX7_put 3 = some (.lstore 4, 2) := by decide +kernel
theorem sX7_put_3 {d : Nat} {σ : aS} {Q : aQ} {l0 l1 l2 l3 lo lp : Option Value} {x : Int64} {lt : aL} {st : List Value} : aX d iX7_put 3 (l0 :: l1 :: l2 :: l3 :: lo :: lp :: lt) (.long x :: st) σ Q ↔ aX d iX7_put 5 (l0 :: l1 :: l2 :: aclr l3 :: some (.long x) :: none :: lt) (st) σ Q := X_lstore kX7_put_3 (by simp only [List.length_cons]; omega)
theorem kX7_put_5 : aCode iX7_put 5 = some (.iconst 1, 1) := by decide +kernel
theorem sX7_put_5 {d : Nat} {σ : aS} {Q : aQ} {ls : aL} {st : List Value} : aX d iX7_put 5 (ls) (st) σ Q ↔ aX d iX7_put 6 (ls) (.int (nI 1) :: st) σ Q := X_iconst kX7_put_5 (by decide +kernel)
theorem kX7_put_6 : aCode iX7_put 6 = some (.istore 6, 2) := by decide +kernel
theorem sX7_put_6 {d : Nat} {σ : aS} {Q : aQ} {l0 l1 l2 l3 l4 l5 lo : Option Value} {x : Int32} {lt : aL} {st : List Value} : aX d iX7_put 6 (l0 :: l1 :: l2 :: l3 :: l4 :: l5 :: lo :: lt) (.int x :: st) σ Q ↔ aX d iX7_put 8 (l0 :: l1 :: l2 :: l3 :: l4 :: aclr l5 :: some (.int x) :: lt) (st) σ Q := X_istore kX7_put_6 (by simp only [List.length_cons]; omega)
theorem kX7_put_8 : aCode iX7_put 8 = some (.iload_n 3, 1) := by decide +kernel
theorem sX7_put_8 {d : Nat} {σ : aS} {Q : aQ} {l0 l1 l2 : Option Value} {x : Int32} {lt : aL} {st : List Value} : aX d iX7_put 8 (l0 :: l1 :: l2 :: some (.int x) :: lt) (st) σ Q ↔ aX d iX7_put 9 (l0 :: l1 :: l2 :: some (.int x) :: lt) (.int x :: st) σ Q := X_iloadn kX7_put_8 rfl
theorem kX7_put_9 : aCode iX7_put 9 = some (.bipush 8, 2) := by decide +kernel
theorem sX7_put_9 {d : Nat} {σ : aS} {Q : aQ} {ls : aL} {st : List Value} : aX d iX7_put 9 (ls) (st) σ Q ↔ aX d iX7_put 11 (ls) (.int (nI 8) :: st) σ Q := X_bipush kX7_put_9 (by decide +kernel)
theorem kX7_put_11 : aCode iX7_put 11 = some (.if_icmp .ge 56, 3) := by decide +kernel
theorem sX7_put_11 {d : Nat} {σ : aS} {Q : aQ} {x y : Int32} {ls : aL} {st : List Value} : aX d iX7_put 11 (ls) (.int y :: .int x :: st) σ Q ↔ (if y ≤ x then aX d iX7_put 67 (ls) (st) σ Q else aX d iX7_put 14 (ls) (st) σ Q) := by rw [X_icmp kX7_put_11 (t := 67) (by decide)]; simp only [aCmp_ge]
theorem kX7_put_14 : aCode iX7_put 14 = some (.lload 4, 2) := by decide +kernel
theorem sX7_put_14 {d : Nat} {σ : aS} {Q : aQ} {l0 l1 l2 l3 : Option Value} {x : Int64} {lt : aL} {st : List Value} : aX d iX7_put 14 (l0 :: l1 :: l2 :: l3 :: some (.long x) :: lt) (st) σ Q ↔ aX d iX7_put 16 (l0 :: l1 :: l2 :: l3 :: some (.long x) :: lt) (.long x :: st) σ Q := X_lload kX7_put_14 rfl
theorem kX7_put_16 : aCode iX7_put 16 = some (.ldc2_w 169, 3) := by decide +kernel
theorem sX7_put_16 {d : Nat} {σ : aS} {Q : aQ} {ls : aL} {st : List Value} : aX d iX7_put 16 (ls) (st) σ Q ↔ aX d iX7_put 19 (ls) (.long (lN 255) :: st) σ Q := X_ldc2 (w := 914) kX7_put_16 (by decide +kernel)
theorem kX7_put_19 : aCode iX7_put 19 = some (.land, 1) := by decide +kernel
theorem sX7_put_19 {d : Nat} {σ : aS} {Q : aQ} {x y : Int64} {ls : aL} {st : List Value} : aX d iX7_put 19 (ls) (.long y :: .long x :: st) σ Q ↔ aX d iX7_put 20 (ls) (.long (x &&& y) :: st) σ Q := X_land kX7_put_19
theorem kX7_put_20 : aCode iX7_put 20 = some (.lconst 0, 1) := by decide +kernel
theorem sX7_put_20 {d : Nat} {σ : aS} {Q : aQ} {ls : aL} {st : List Value} : aX d iX7_put 20 (ls) (st) σ Q ↔ aX d iX7_put 21 (ls) (.long (lN 0) :: st) σ Q := X_lconst kX7_put_20 (by decide +kernel)
theorem kX7_put_21 : aCode iX7_put 21 = some (.lcmp, 1) := by decide +kernel
theorem sX7_put_21 {d : Nat} {σ : aS} {Q : aQ} {x y : Int64} {ls : aL} {st : List Value} : aX d iX7_put 21 (ls) (.long y :: .long x :: st) σ Q ↔ aX d iX7_put 22 (ls) (.int (lg_cmp x y) :: st) σ Q := X_lcmp kX7_put_21
theorem kX7_put_22 : aCode iX7_put 22 = some (.ifCond .eq 45, 3) := by decide +kernel
theorem sX7_put_22 {d : Nat} {σ : aS} {Q : aQ} {x : Int32} {ls : aL} {st : List Value} : aX d iX7_put 22 (ls) (.int x :: st) σ Q ↔ (if x = nI 0 then aX d iX7_put 67 (ls) (st) σ Q else aX d iX7_put 25 (ls) (st) σ Q) := by rw [X_if kX7_put_22 (t := 67) (by decide)]; simp only [aCmp_eq]
theorem kX7_put_25 : aCode iX7_put 25 = some (.iload 6, 2) := by decide +kernel
theorem sX7_put_25 {d : Nat} {σ : aS} {Q : aQ} {l0 l1 l2 l3 l4 l5 : Option Value} {x : Int32} {lt : aL} {st : List Value} : aX d iX7_put 25 (l0 :: l1 :: l2 :: l3 :: l4 :: l5 :: some (.int x) :: lt) (st) σ Q ↔ aX d iX7_put 27 (l0 :: l1 :: l2 :: l3 :: l4 :: l5 :: some (.int x) :: lt) (.int x :: st) σ Q := X_iload kX7_put_25 rfl
theorem kX7_put_27 : aCode iX7_put 27 = some (.ifCond .eq 24, 3) := by decide +kernel
theorem sX7_put_27 {d : Nat} {σ : aS} {Q : aQ} {x : Int32} {ls : aL} {st : List Value} : aX d iX7_put 27 (ls) (.int x :: st) σ Q ↔ (if x = nI 0 then aX d iX7_put 51 (ls) (st) σ Q else aX d iX7_put 30 (ls) (st) σ Q) := by rw [X_if kX7_put_27 (t := 51) (by decide)]; simp only [aCmp_eq]
theorem kX7_put_30 : aCode iX7_put 30 = some (.lload 4, 2) := by decide +kernel
theorem sX7_put_30 {d : Nat} {σ : aS} {Q : aQ} {l0 l1 l2 l3 : Option Value} {x : Int64} {lt : aL} {st : List Value} : aX d iX7_put 30 (l0 :: l1 :: l2 :: l3 :: some (.long x) :: lt) (st) σ Q ↔ aX d iX7_put 32 (l0 :: l1 :: l2 :: l3 :: some (.long x) :: lt) (.long x :: st) σ Q := X_lload kX7_put_30 rfl
theorem kX7_put_32 : aCode iX7_put 32 = some (.ldc2_w 169, 3) := by decide +kernel
theorem sX7_put_32 {d : Nat} {σ : aS} {Q : aQ} {ls : aL} {st : List Value} : aX d iX7_put 32 (ls) (st) σ Q ↔ aX d iX7_put 35 (ls) (.long (lN 255) :: st) σ Q := X_ldc2 (w := 914) kX7_put_32 (by decide +kernel)
theorem kX7_put_35 : aCode iX7_put 35 = some (.land, 1) := by decide +kernel
theorem sX7_put_35 {d : Nat} {σ : aS} {Q : aQ} {x y : Int64} {ls : aL} {st : List Value} : aX d iX7_put 35 (ls) (.long y :: .long x :: st) σ Q ↔ aX d iX7_put 36 (ls) (.long (x &&& y) :: st) σ Q := X_land kX7_put_35
theorem kX7_put_36 : aCode iX7_put 36 = some (.l2i, 1) := by decide +kernel
theorem sX7_put_36 {d : Nat} {σ : aS} {Q : aQ} {x : Int64} {ls : aL} {st : List Value} : aX d iX7_put 36 (ls) (.long x :: st) σ Q ↔ aX d iX7_put 37 (ls) (.int x.toInt32 :: st) σ Q := X_l2i kX7_put_36
theorem kX7_put_37 : aCode iX7_put 37 = some (.bipush 33, 2) := by decide +kernel
theorem sX7_put_37 {d : Nat} {σ : aS} {Q : aQ} {ls : aL} {st : List Value} : aX d iX7_put 37 (ls) (st) σ Q ↔ aX d iX7_put 39 (ls) (.int (nI 33) :: st) σ Q := X_bipush kX7_put_37 (by decide +kernel)
theorem kX7_put_39 : aCode iX7_put 39 = some (.bipush 126, 2) := by decide +kernel
theorem sX7_put_39 {d : Nat} {σ : aS} {Q : aQ} {ls : aL} {st : List Value} : aX d iX7_put 39 (ls) (st) σ Q ↔ aX d iX7_put 41 (ls) (.int (nI 126) :: st) σ Q := X_bipush kX7_put_39 (by decide +kernel)
theorem kX7_put_41 : aCode iX7_put 41 = some (.invokestatic 36, 3) := by decide +kernel
theorem sX7_put_41 {d : Nat} {σ : aS} {Q : aQ} {p0 : Int32} {p1 : Int32} {p2 : Int32} {ls : aL} : aX (d + 1) iX7_put 41 (ls) (.int p2 :: .int p1 :: .int p0 :: []) σ Q ↔ aX d iX7_within 0 [some (.int p0), some (.int p1), some (.int p2)] [] σ (fun r τ => aX (d + 1) iX7_put 44 (ls) (aret r ([])) τ Q) := X_invs (N := 3) (As := [.int p2, .int p1, .int p0]) (k := 1) (w := 694) kX7_put_41 (by decide +kernel) (by decide) (by decide +kernel) rfl rfl (by simp only [List.length_cons, List.length_nil]; omega) (by simp only [List.length_cons, List.length_nil]; omega) rfl (Nat.le_of_ble_eq_true rfl)
theorem kX7_put_44 : aCode iX7_put 44 = some (.ifCond .eq 7, 3) := by decide +kernel
theorem sX7_put_44 {d : Nat} {σ : aS} {Q : aQ} {x : Int32} {ls : aL} {st : List Value} : aX d iX7_put 44 (ls) (.int x :: st) σ Q ↔ (if x = nI 0 then aX d iX7_put 51 (ls) (st) σ Q else aX d iX7_put 47 (ls) (st) σ Q) := by rw [X_if kX7_put_44 (t := 51) (by decide)]; simp only [aCmp_eq]
theorem kX7_put_47 : aCode iX7_put 47 = some (.iconst 1, 1) := by decide +kernel
theorem sX7_put_47 {d : Nat} {σ : aS} {Q : aQ} {ls : aL} {st : List Value} : aX d iX7_put 47 (ls) (st) σ Q ↔ aX d iX7_put 48 (ls) (.int (nI 1) :: st) σ Q := X_iconst kX7_put_47 (by decide +kernel)
theorem kX7_put_48 : aCode iX7_put 48 = some (.goto 4, 3) := by decide +kernel
theorem sX7_put_48 {d : Nat} {σ : aS} {Q : aQ} {ls : aL} {st : List Value} : aX d iX7_put 48 (ls) (st) σ Q ↔ aX d iX7_put 52 (ls) (st) σ Q := X_goto kX7_put_48 (by decide)
theorem kX7_put_51 : aCode iX7_put 51 = some (.iconst 0, 1) := by decide +kernel
theorem sX7_put_51 {d : Nat} {σ : aS} {Q : aQ} {ls : aL} {st : List Value} : aX d iX7_put 51 (ls) (st) σ Q ↔ aX d iX7_put 52 (ls) (.int (nI 0) :: st) σ Q := X_iconst kX7_put_51 (by decide +kernel)
theorem kX7_put_52 : aCode iX7_put 52 = some (.istore 6, 2) := by decide +kernel
theorem sX7_put_52 {d : Nat} {σ : aS} {Q : aQ} {l0 l1 l2 l3 l4 l5 lo : Option Value} {x : Int32} {lt : aL} {st : List Value} : aX d iX7_put 52 (l0 :: l1 :: l2 :: l3 :: l4 :: l5 :: lo :: lt) (.int x :: st) σ Q ↔ aX d iX7_put 54 (l0 :: l1 :: l2 :: l3 :: l4 :: aclr l5 :: some (.int x) :: lt) (st) σ Q := X_istore kX7_put_52 (by simp only [List.length_cons]; omega)
theorem kX7_put_54 : aCode iX7_put 54 = some (.lload 4, 2) := by decide +kernel
theorem sX7_put_54 {d : Nat} {σ : aS} {Q : aQ} {l0 l1 l2 l3 : Option Value} {x : Int64} {lt : aL} {st : List Value} : aX d iX7_put 54 (l0 :: l1 :: l2 :: l3 :: some (.long x) :: lt) (st) σ Q ↔ aX d iX7_put 56 (l0 :: l1 :: l2 :: l3 :: some (.long x) :: lt) (.long x :: st) σ Q := X_lload kX7_put_54 rfl
theorem kX7_put_56 : aCode iX7_put 56 = some (.bipush 8, 2) := by decide +kernel
theorem sX7_put_56 {d : Nat} {σ : aS} {Q : aQ} {ls : aL} {st : List Value} : aX d iX7_put 56 (ls) (st) σ Q ↔ aX d iX7_put 58 (ls) (.int (nI 8) :: st) σ Q := X_bipush kX7_put_56 (by decide +kernel)
theorem kX7_put_58 : aCode iX7_put 58 = some (.lushr, 1) := by decide +kernel
theorem sX7_put_58 {d : Nat} {σ : aS} {Q : aQ} {x : Int64} {y : Int32} {ls : aL} {st : List Value} : aX d iX7_put 58 (ls) (.int y :: .long x :: st) σ Q ↔ aX d iX7_put 59 (ls) (.long ((x.toUInt64 >>> (y.toInt64.toUInt64 &&& Int64.toUInt64 63)).toInt64) :: st) σ Q := X_lushr kX7_put_58
theorem kX7_put_59 : aCode iX7_put 59 = some (.lstore 4, 2) := by decide +kernel
theorem sX7_put_59 {d : Nat} {σ : aS} {Q : aQ} {l0 l1 l2 l3 lo lp : Option Value} {x : Int64} {lt : aL} {st : List Value} : aX d iX7_put 59 (l0 :: l1 :: l2 :: l3 :: lo :: lp :: lt) (.long x :: st) σ Q ↔ aX d iX7_put 61 (l0 :: l1 :: l2 :: aclr l3 :: some (.long x) :: none :: lt) (st) σ Q := X_lstore kX7_put_59 (by simp only [List.length_cons]; omega)
theorem kX7_put_61 : aCode iX7_put 61 = some (.iinc 3 1, 3) := by decide +kernel
theorem sX7_put_61 {d : Nat} {σ : aS} {Q : aQ} {l0 l1 l2 : Option Value} {x : Int32} {lt : aL} {st : List Value} : aX d iX7_put 61 (l0 :: l1 :: l2 :: some (.int x) :: lt) (st) σ Q ↔ aX d iX7_put 64 (l0 :: l1 :: aclr l2 :: some (.int (x + nI 1)) :: lt) (st) σ Q := X_iinc kX7_put_61 rfl (by decide +kernel)
theorem kX7_put_64 : aCode iX7_put 64 = some (.goto (-56), 3) := by decide +kernel
theorem sX7_put_64 {d : Nat} {σ : aS} {Q : aQ} {ls : aL} {st : List Value} : aX d iX7_put 64 (ls) (st) σ Q ↔ aX d iX7_put 8 (ls) (st) σ Q := X_goto kX7_put_64 (by decide)
theorem kX7_put_67 : aCode iX7_put 67 = some (.iload_n 3, 1) := by decide +kernel
theorem sX7_put_67 {d : Nat} {σ : aS} {Q : aQ} {l0 l1 l2 : Option Value} {x : Int32} {lt : aL} {st : List Value} : aX d iX7_put 67 (l0 :: l1 :: l2 :: some (.int x) :: lt) (st) σ Q ↔ aX d iX7_put 68 (l0 :: l1 :: l2 :: some (.int x) :: lt) (.int x :: st) σ Q := X_iloadn kX7_put_67 rfl
theorem kX7_put_68 : aCode iX7_put 68 = some (.ifCond .eq 15, 3) := by decide +kernel
theorem sX7_put_68 {d : Nat} {σ : aS} {Q : aQ} {x : Int32} {ls : aL} {st : List Value} : aX d iX7_put 68 (ls) (.int x :: st) σ Q ↔ (if x = nI 0 then aX d iX7_put 83 (ls) (st) σ Q else aX d iX7_put 71 (ls) (st) σ Q) := by rw [X_if kX7_put_68 (t := 83) (by decide)]; simp only [aCmp_eq]
theorem kX7_put_71 : aCode iX7_put 71 = some (.iload 6, 2) := by decide +kernel
theorem sX7_put_71 {d : Nat} {σ : aS} {Q : aQ} {l0 l1 l2 l3 l4 l5 : Option Value} {x : Int32} {lt : aL} {st : List Value} : aX d iX7_put 71 (l0 :: l1 :: l2 :: l3 :: l4 :: l5 :: some (.int x) :: lt) (st) σ Q ↔ aX d iX7_put 73 (l0 :: l1 :: l2 :: l3 :: l4 :: l5 :: some (.int x) :: lt) (.int x :: st) σ Q := X_iload kX7_put_71 rfl
theorem kX7_put_73 : aCode iX7_put 73 = some (.ifCond .eq 10, 3) := by decide +kernel
theorem sX7_put_73 {d : Nat} {σ : aS} {Q : aQ} {x : Int32} {ls : aL} {st : List Value} : aX d iX7_put 73 (ls) (.int x :: st) σ Q ↔ (if x = nI 0 then aX d iX7_put 83 (ls) (st) σ Q else aX d iX7_put 76 (ls) (st) σ Q) := by rw [X_if kX7_put_73 (t := 83) (by decide)]; simp only [aCmp_eq]
theorem kX7_put_76 : aCode iX7_put 76 = some (.lload 4, 2) := by decide +kernel
theorem sX7_put_76 {d : Nat} {σ : aS} {Q : aQ} {l0 l1 l2 l3 : Option Value} {x : Int64} {lt : aL} {st : List Value} : aX d iX7_put 76 (l0 :: l1 :: l2 :: l3 :: some (.long x) :: lt) (st) σ Q ↔ aX d iX7_put 78 (l0 :: l1 :: l2 :: l3 :: some (.long x) :: lt) (.long x :: st) σ Q := X_lload kX7_put_76 rfl
theorem kX7_put_78 : aCode iX7_put 78 = some (.lconst 0, 1) := by decide +kernel
theorem sX7_put_78 {d : Nat} {σ : aS} {Q : aQ} {ls : aL} {st : List Value} : aX d iX7_put 78 (ls) (st) σ Q ↔ aX d iX7_put 79 (ls) (.long (lN 0) :: st) σ Q := X_lconst kX7_put_78 (by decide +kernel)
theorem kX7_put_79 : aCode iX7_put 79 = some (.lcmp, 1) := by decide +kernel
theorem sX7_put_79 {d : Nat} {σ : aS} {Q : aQ} {x y : Int64} {ls : aL} {st : List Value} : aX d iX7_put 79 (ls) (.long y :: .long x :: st) σ Q ↔ aX d iX7_put 80 (ls) (.int (lg_cmp x y) :: st) σ Q := X_lcmp kX7_put_79
theorem kX7_put_80 : aCode iX7_put 80 = some (.ifCond .eq 6, 3) := by decide +kernel
theorem sX7_put_80 {d : Nat} {σ : aS} {Q : aQ} {x : Int32} {ls : aL} {st : List Value} : aX d iX7_put 80 (ls) (.int x :: st) σ Q ↔ (if x = nI 0 then aX d iX7_put 86 (ls) (st) σ Q else aX d iX7_put 83 (ls) (st) σ Q) := by rw [X_if kX7_put_80 (t := 86) (by decide)]; simp only [aCmp_eq]
theorem kX7_put_83 : aCode iX7_put 83 = some (.bipush (-2), 2) := by decide +kernel
theorem sX7_put_83 {d : Nat} {σ : aS} {Q : aQ} {ls : aL} {st : List Value} : aX d iX7_put 83 (ls) (st) σ Q ↔ aX d iX7_put 85 (ls) (.int ((-2)) :: st) σ Q := X_bipush kX7_put_83 (by decide +kernel)
theorem kX7_put_85 : aCode iX7_put 85 = some (.ireturn, 1) := by decide +kernel
theorem sX7_put_85 {d : Nat} {σ : aS} {Q : aQ} {v : Int32} {ls : aL} : aX d iX7_put 85 (ls) ([.int v]) σ Q ↔ Q (some (.int v)) σ := X_iret kX7_put_85 (by decide +kernel)
theorem kX7_put_86 : aCode iX7_put 86 = some (.aload_n 0, 1) := by decide +kernel
theorem sX7_put_86 {d : Nat} {σ : aS} {Q : aQ} {x : Nat} {lt : aL} {st : List Value} : aX d iX7_put 86 (some (.ref x) :: lt) (st) σ Q ↔ aX d iX7_put 87 (some (.ref x) :: lt) (.ref x :: st) σ Q := X_aloadn kX7_put_86 rfl rfl
theorem kX7_put_87 : aCode iX7_put 87 = some (.getfield 163, 3) := by decide +kernel
theorem sX7_put_87 {d : Nat} {σ : aS} {Q : aQ} {a : Nat} {ls : aL} {st : List Value} : aX d iX7_put 87 (ls) (.ref a :: st) σ Q ↔ ∃ v, aFld σ a 7 7 = some v ∧ aX d iX7_put 90 (ls) (v :: st) σ Q := X_getf (w := 657) kX7_put_87 (by decide +kernel)
theorem kX7_put_90 : aCode iX7_put 90 = some (.iload_n 3, 1) := by decide +kernel
theorem sX7_put_90 {d : Nat} {σ : aS} {Q : aQ} {l0 l1 l2 : Option Value} {x : Int32} {lt : aL} {st : List Value} : aX d iX7_put 90 (l0 :: l1 :: l2 :: some (.int x) :: lt) (st) σ Q ↔ aX d iX7_put 91 (l0 :: l1 :: l2 :: some (.int x) :: lt) (.int x :: st) σ Q := X_iloadn kX7_put_90 rfl
theorem kX7_put_91 : aCode iX7_put 91 = some (.iadd, 1) := by decide +kernel
theorem sX7_put_91 {d : Nat} {σ : aS} {Q : aQ} {x y : Int32} {ls : aL} {st : List Value} : aX d iX7_put 91 (ls) (.int y :: .int x :: st) σ Q ↔ aX d iX7_put 92 (ls) (.int (x + y) :: st) σ Q := X_iadd kX7_put_91
theorem kX7_put_92 : aCode iX7_put 92 = some (.bipush 80, 2) := by decide +kernel
theorem sX7_put_92 {d : Nat} {σ : aS} {Q : aQ} {ls : aL} {st : List Value} : aX d iX7_put 92 (ls) (st) σ Q ↔ aX d iX7_put 94 (ls) (.int (nI 80) :: st) σ Q := X_bipush kX7_put_92 (by decide +kernel)
theorem kX7_put_94 : aCode iX7_put 94 = some (.if_icmp .le 6, 3) := by decide +kernel
theorem sX7_put_94 {d : Nat} {σ : aS} {Q : aQ} {x y : Int32} {ls : aL} {st : List Value} : aX d iX7_put 94 (ls) (.int y :: .int x :: st) σ Q ↔ (if x ≤ y then aX d iX7_put 100 (ls) (st) σ Q else aX d iX7_put 97 (ls) (st) σ Q) := by rw [X_icmp kX7_put_94 (t := 100) (by decide)]; simp only [aCmp_le]
theorem kX7_put_97 : aCode iX7_put 97 = some (.bipush (-4), 2) := by decide +kernel
theorem sX7_put_97 {d : Nat} {σ : aS} {Q : aQ} {ls : aL} {st : List Value} : aX d iX7_put 97 (ls) (st) σ Q ↔ aX d iX7_put 99 (ls) (.int ((-4)) :: st) σ Q := X_bipush kX7_put_97 (by decide +kernel)
theorem kX7_put_99 : aCode iX7_put 99 = some (.ireturn, 1) := by decide +kernel
theorem sX7_put_99 {d : Nat} {σ : aS} {Q : aQ} {v : Int32} {ls : aL} : aX d iX7_put 99 (ls) ([.int v]) σ Q ↔ Q (some (.int v)) σ := X_iret kX7_put_99 (by decide +kernel)
theorem kX7_put_100 : aCode iX7_put 100 = some (.iload_n 3, 1) := by decide +kernel
theorem sX7_put_100 {d : Nat} {σ : aS} {Q : aQ} {l0 l1 l2 : Option Value} {x : Int32} {lt : aL} {st : List Value} : aX d iX7_put 100 (l0 :: l1 :: l2 :: some (.int x) :: lt) (st) σ Q ↔ aX d iX7_put 101 (l0 :: l1 :: l2 :: some (.int x) :: lt) (.int x :: st) σ Q := X_iloadn kX7_put_100 rfl
theorem kX7_put_101 : aCode iX7_put 101 = some (.iconst 1, 1) := by decide +kernel
theorem sX7_put_101 {d : Nat} {σ : aS} {Q : aQ} {ls : aL} {st : List Value} : aX d iX7_put 101 (ls) (st) σ Q ↔ aX d iX7_put 102 (ls) (.int (nI 1) :: st) σ Q := X_iconst kX7_put_101 (by decide +kernel)
theorem kX7_put_102 : aCode iX7_put 102 = some (.isub, 1) := by decide +kernel
theorem sX7_put_102 {d : Nat} {σ : aS} {Q : aQ} {x y : Int32} {ls : aL} {st : List Value} : aX d iX7_put 102 (ls) (.int y :: .int x :: st) σ Q ↔ aX d iX7_put 103 (ls) (.int (x - y) :: st) σ Q := X_isub kX7_put_102
theorem kX7_put_103 : aCode iX7_put 103 = some (.istore 7, 2) := by decide +kernel
theorem sX7_put_103 {d : Nat} {σ : aS} {Q : aQ} {l0 l1 l2 l3 l4 l5 l6 lo : Option Value} {x : Int32} {lt : aL} {st : List Value} : aX d iX7_put 103 (l0 :: l1 :: l2 :: l3 :: l4 :: l5 :: l6 :: lo :: lt) (.int x :: st) σ Q ↔ aX d iX7_put 105 (l0 :: l1 :: l2 :: l3 :: l4 :: l5 :: aclr l6 :: some (.int x) :: lt) (st) σ Q := X_istore kX7_put_103 (by simp only [List.length_cons]; omega)
theorem kX7_put_105 : aCode iX7_put 105 = some (.iload 7, 2) := by decide +kernel
theorem sX7_put_105 {d : Nat} {σ : aS} {Q : aQ} {l0 l1 l2 l3 l4 l5 l6 : Option Value} {x : Int32} {lt : aL} {st : List Value} : aX d iX7_put 105 (l0 :: l1 :: l2 :: l3 :: l4 :: l5 :: l6 :: some (.int x) :: lt) (st) σ Q ↔ aX d iX7_put 107 (l0 :: l1 :: l2 :: l3 :: l4 :: l5 :: l6 :: some (.int x) :: lt) (.int x :: st) σ Q := X_iload kX7_put_105 rfl
theorem kX7_put_107 : aCode iX7_put 107 = some (.ifCond .lt 40, 3) := by decide +kernel
theorem sX7_put_107 {d : Nat} {σ : aS} {Q : aQ} {x : Int32} {ls : aL} {st : List Value} : aX d iX7_put 107 (ls) (.int x :: st) σ Q ↔ (if x < nI 0 then aX d iX7_put 147 (ls) (st) σ Q else aX d iX7_put 110 (ls) (st) σ Q) := by rw [X_if kX7_put_107 (t := 147) (by decide)]; simp only [aCmp_lt]
theorem kX7_put_110 : aCode iX7_put 110 = some (.aload_n 0, 1) := by decide +kernel
theorem sX7_put_110 {d : Nat} {σ : aS} {Q : aQ} {x : Nat} {lt : aL} {st : List Value} : aX d iX7_put 110 (some (.ref x) :: lt) (st) σ Q ↔ aX d iX7_put 111 (some (.ref x) :: lt) (.ref x :: st) σ Q := X_aloadn kX7_put_110 rfl rfl
theorem kX7_put_111 : aCode iX7_put 111 = some (.getfield 25, 3) := by decide +kernel
theorem sX7_put_111 {d : Nat} {σ : aS} {Q : aQ} {a : Nat} {ls : aL} {st : List Value} : aX d iX7_put 111 (ls) (.ref a :: st) σ Q ↔ ∃ v, aFld σ a 7 6 = some v ∧ aX d iX7_put 114 (ls) (v :: st) σ Q := X_getf (w := 656) kX7_put_111 (by decide +kernel)
theorem kX7_put_114 : aCode iX7_put 114 = some (.aload_n 0, 1) := by decide +kernel
theorem sX7_put_114 {d : Nat} {σ : aS} {Q : aQ} {x : Nat} {lt : aL} {st : List Value} : aX d iX7_put 114 (some (.ref x) :: lt) (st) σ Q ↔ aX d iX7_put 115 (some (.ref x) :: lt) (.ref x :: st) σ Q := X_aloadn kX7_put_114 rfl rfl
theorem kX7_put_115 : aCode iX7_put 115 = some (.getfield 163, 3) := by decide +kernel
theorem sX7_put_115 {d : Nat} {σ : aS} {Q : aQ} {a : Nat} {ls : aL} {st : List Value} : aX d iX7_put 115 (ls) (.ref a :: st) σ Q ↔ ∃ v, aFld σ a 7 7 = some v ∧ aX d iX7_put 118 (ls) (v :: st) σ Q := X_getf (w := 657) kX7_put_115 (by decide +kernel)
theorem kX7_put_118 : aCode iX7_put 118 = some (.lload_n 1, 1) := by decide +kernel
theorem sX7_put_118 {d : Nat} {σ : aS} {Q : aQ} {l0 : Option Value} {x : Int64} {lt : aL} {st : List Value} : aX d iX7_put 118 (l0 :: some (.long x) :: lt) (st) σ Q ↔ aX d iX7_put 119 (l0 :: some (.long x) :: lt) (.long x :: st) σ Q := X_lloadn kX7_put_118 rfl
theorem kX7_put_119 : aCode iX7_put 119 = some (.bipush 8, 2) := by decide +kernel
theorem sX7_put_119 {d : Nat} {σ : aS} {Q : aQ} {ls : aL} {st : List Value} : aX d iX7_put 119 (ls) (st) σ Q ↔ aX d iX7_put 121 (ls) (.int (nI 8) :: st) σ Q := X_bipush kX7_put_119 (by decide +kernel)
theorem kX7_put_121 : aCode iX7_put 121 = some (.iload 7, 2) := by decide +kernel
theorem sX7_put_121 {d : Nat} {σ : aS} {Q : aQ} {l0 l1 l2 l3 l4 l5 l6 : Option Value} {x : Int32} {lt : aL} {st : List Value} : aX d iX7_put 121 (l0 :: l1 :: l2 :: l3 :: l4 :: l5 :: l6 :: some (.int x) :: lt) (st) σ Q ↔ aX d iX7_put 123 (l0 :: l1 :: l2 :: l3 :: l4 :: l5 :: l6 :: some (.int x) :: lt) (.int x :: st) σ Q := X_iload kX7_put_121 rfl
theorem kX7_put_123 : aCode iX7_put 123 = some (.imul, 1) := by decide +kernel
theorem sX7_put_123 {d : Nat} {σ : aS} {Q : aQ} {x y : Int32} {ls : aL} {st : List Value} : aX d iX7_put 123 (ls) (.int y :: .int x :: st) σ Q ↔ aX d iX7_put 124 (ls) (.int (x * y) :: st) σ Q := X_imul kX7_put_123
theorem kX7_put_124 : aCode iX7_put 124 = some (.lushr, 1) := by decide +kernel
theorem sX7_put_124 {d : Nat} {σ : aS} {Q : aQ} {x : Int64} {y : Int32} {ls : aL} {st : List Value} : aX d iX7_put 124 (ls) (.int y :: .long x :: st) σ Q ↔ aX d iX7_put 125 (ls) (.long ((x.toUInt64 >>> (y.toInt64.toUInt64 &&& Int64.toUInt64 63)).toInt64) :: st) σ Q := X_lushr kX7_put_124
theorem kX7_put_125 : aCode iX7_put 125 = some (.ldc2_w 169, 3) := by decide +kernel
theorem sX7_put_125 {d : Nat} {σ : aS} {Q : aQ} {ls : aL} {st : List Value} : aX d iX7_put 125 (ls) (st) σ Q ↔ aX d iX7_put 128 (ls) (.long (lN 255) :: st) σ Q := X_ldc2 (w := 914) kX7_put_125 (by decide +kernel)
theorem kX7_put_128 : aCode iX7_put 128 = some (.land, 1) := by decide +kernel
theorem sX7_put_128 {d : Nat} {σ : aS} {Q : aQ} {x y : Int64} {ls : aL} {st : List Value} : aX d iX7_put 128 (ls) (.long y :: .long x :: st) σ Q ↔ aX d iX7_put 129 (ls) (.long (x &&& y) :: st) σ Q := X_land kX7_put_128
theorem kX7_put_129 : aCode iX7_put 129 = some (.l2i, 1) := by decide +kernel
theorem sX7_put_129 {d : Nat} {σ : aS} {Q : aQ} {x : Int64} {ls : aL} {st : List Value} : aX d iX7_put 129 (ls) (.long x :: st) σ Q ↔ aX d iX7_put 130 (ls) (.int x.toInt32 :: st) σ Q := X_l2i kX7_put_129
theorem kX7_put_130 : aCode iX7_put 130 = some (.iastore, 1) := by decide +kernel
theorem sX7_put_130 {d : Nat} {σ : aS} {Q : aQ} {a : Nat} {i v : Int32} {ls : aL} {st : List Value} : aX d iX7_put 130 (ls) (.int v :: .int i :: .ref a :: st) σ Q ↔ ∃ x, aRow σ a = some x ∧ vp_in i x.1 ∧ aX d iX7_put 131 (ls) (st) (aput σ a (eI x.1 (upd x.2 i.toNatClampNeg v))) Q := X_iastore kX7_put_130
theorem kX7_put_131 : aCode iX7_put 131 = some (.aload_n 0, 1) := by decide +kernel
theorem sX7_put_131 {d : Nat} {σ : aS} {Q : aQ} {x : Nat} {lt : aL} {st : List Value} : aX d iX7_put 131 (some (.ref x) :: lt) (st) σ Q ↔ aX d iX7_put 132 (some (.ref x) :: lt) (.ref x :: st) σ Q := X_aloadn kX7_put_131 rfl rfl
theorem kX7_put_132 : aCode iX7_put 132 = some (.dup, 1) := by decide +kernel
theorem sX7_put_132 {d : Nat} {σ : aS} {Q : aQ} {x : Nat} {ls : aL} {st : List Value} : aX d iX7_put 132 (ls) (.ref x :: st) σ Q ↔ aX d iX7_put 133 (ls) (.ref x :: .ref x :: st) σ Q := X_dup kX7_put_132 rfl
theorem sX7_put_132i {d : Nat} {σ : aS} {Q : aQ} {x : Int32} {ls : aL} {st : List Value} : aX d iX7_put 132 (ls) (.int x :: st) σ Q ↔ aX d iX7_put 133 (ls) (.int x :: .int x :: st) σ Q := X_dup kX7_put_132 rfl
theorem kX7_put_133 : aCode iX7_put 133 = some (.getfield 163, 3) := by decide +kernel
theorem sX7_put_133 {d : Nat} {σ : aS} {Q : aQ} {a : Nat} {ls : aL} {st : List Value} : aX d iX7_put 133 (ls) (.ref a :: st) σ Q ↔ ∃ v, aFld σ a 7 7 = some v ∧ aX d iX7_put 136 (ls) (v :: st) σ Q := X_getf (w := 657) kX7_put_133 (by decide +kernel)
theorem kX7_put_136 : aCode iX7_put 136 = some (.iconst 1, 1) := by decide +kernel
theorem sX7_put_136 {d : Nat} {σ : aS} {Q : aQ} {ls : aL} {st : List Value} : aX d iX7_put 136 (ls) (st) σ Q ↔ aX d iX7_put 137 (ls) (.int (nI 1) :: st) σ Q := X_iconst kX7_put_136 (by decide +kernel)
theorem kX7_put_137 : aCode iX7_put 137 = some (.iadd, 1) := by decide +kernel
theorem sX7_put_137 {d : Nat} {σ : aS} {Q : aQ} {x y : Int32} {ls : aL} {st : List Value} : aX d iX7_put 137 (ls) (.int y :: .int x :: st) σ Q ↔ aX d iX7_put 138 (ls) (.int (x + y) :: st) σ Q := X_iadd kX7_put_137
theorem kX7_put_138 : aCode iX7_put 138 = some (.putfield 163, 3) := by decide +kernel
theorem sX7_put_138 {d : Nat} {σ : aS} {Q : aQ} {x : Int32} {a : Nat} {ls : aL} {st : List Value} : aX d iX7_put 138 (ls) (.int x :: .ref a :: st) σ Q ↔ ∃ fs, aFds σ a 7 = some fs ∧ 7 < fs.length ∧ aX d iX7_put 141 (ls) (st) (aput σ a (eO 7 (fs.set 7 (.int x)))) Q := X_putf (w := 657) kX7_put_138 (by decide +kernel) (aFit_I (by decide +kernel)) (by decide +kernel)
theorem kX7_put_141 : aCode iX7_put 141 = some (.iinc 7 (-1), 3) := by decide +kernel
theorem sX7_put_141 {d : Nat} {σ : aS} {Q : aQ} {l0 l1 l2 l3 l4 l5 l6 : Option Value} {x : Int32} {lt : aL} {st : List Value} : aX d iX7_put 141 (l0 :: l1 :: l2 :: l3 :: l4 :: l5 :: l6 :: some (.int x) :: lt) (st) σ Q ↔ aX d iX7_put 144 (l0 :: l1 :: l2 :: l3 :: l4 :: l5 :: aclr l6 :: some (.int (x + (-1))) :: lt) (st) σ Q := X_iinc kX7_put_141 rfl (by decide +kernel)
theorem kX7_put_144 : aCode iX7_put 144 = some (.goto (-39), 3) := by decide +kernel
theorem sX7_put_144 {d : Nat} {σ : aS} {Q : aQ} {ls : aL} {st : List Value} : aX d iX7_put 144 (ls) (st) σ Q ↔ aX d iX7_put 105 (ls) (st) σ Q := X_goto kX7_put_144 (by decide)
theorem kX7_put_147 : aCode iX7_put 147 = some (.aload_n 0, 1) := by decide +kernel
theorem sX7_put_147 {d : Nat} {σ : aS} {Q : aQ} {x : Nat} {lt : aL} {st : List Value} : aX d iX7_put 147 (some (.ref x) :: lt) (st) σ Q ↔ aX d iX7_put 148 (some (.ref x) :: lt) (.ref x :: st) σ Q := X_aloadn kX7_put_147 rfl rfl
theorem kX7_put_148 : aCode iX7_put 148 = some (.getfield 163, 3) := by decide +kernel
theorem sX7_put_148 {d : Nat} {σ : aS} {Q : aQ} {a : Nat} {ls : aL} {st : List Value} : aX d iX7_put 148 (ls) (.ref a :: st) σ Q ↔ ∃ v, aFld σ a 7 7 = some v ∧ aX d iX7_put 151 (ls) (v :: st) σ Q := X_getf (w := 657) kX7_put_148 (by decide +kernel)
theorem kX7_put_151 : aCode iX7_put 151 = some (.ireturn, 1) := by decide +kernel
theorem sX7_put_151 {d : Nat} {σ : aS} {Q : aQ} {v : Int32} {ls : aL} : aX d iX7_put 151 (ls) ([.int v]) σ Q ↔ Q (some (.int v)) σ := X_iret kX7_put_151 (by decide +kernel)
theorem kX7_wipe_0 : aCode iX7_wipe 0 = some (.aload_n 0, 1) := by decide +kernel
theorem sX7_wipe_0 {d : Nat} {σ : aS} {Q : aQ} {x : Nat} {lt : aL} {st : List Value} : aX d iX7_wipe 0 (some (.ref x) :: lt) (st) σ Q ↔ aX d iX7_wipe 1 (some (.ref x) :: lt) (.ref x :: st) σ Q := X_aloadn kX7_wipe_0 rfl rfl
theorem kX7_wipe_1 : aCode iX7_wipe 1 = some (.getfield 163, 3) := by decide +kernel
theorem sX7_wipe_1 {d : Nat} {σ : aS} {Q : aQ} {a : Nat} {ls : aL} {st : List Value} : aX d iX7_wipe 1 (ls) (.ref a :: st) σ Q ↔ ∃ v, aFld σ a 7 7 = some v ∧ aX d iX7_wipe 4 (ls) (v :: st) σ Q := X_getf (w := 657) kX7_wipe_1 (by decide +kernel)
theorem kX7_wipe_4 : aCode iX7_wipe 4 = some (.istore_n 1, 1) := by decide +kernel
theorem sX7_wipe_4 {d : Nat} {σ : aS} {Q : aQ} {l0 lo : Option Value} {x : Int32} {lt : aL} {st : List Value} : aX d iX7_wipe 4 (l0 :: lo :: lt) (.int x :: st) σ Q ↔ aX d iX7_wipe 5 (aclr l0 :: some (.int x) :: lt) (st) σ Q := X_istoren kX7_wipe_4 (by simp only [List.length_cons]; omega)
theorem kX7_wipe_5 : aCode iX7_wipe 5 = some (.aload_n 0, 1) := by decide +kernel
theorem sX7_wipe_5 {d : Nat} {σ : aS} {Q : aQ} {x : Nat} {lt : aL} {st : List Value} : aX d iX7_wipe 5 (some (.ref x) :: lt) (st) σ Q ↔ aX d iX7_wipe 6 (some (.ref x) :: lt) (.ref x :: st) σ Q := X_aloadn kX7_wipe_5 rfl rfl
theorem kX7_wipe_6 : aCode iX7_wipe 6 = some (.iconst 0, 1) := by decide +kernel
theorem sX7_wipe_6 {d : Nat} {σ : aS} {Q : aQ} {ls : aL} {st : List Value} : aX d iX7_wipe 6 (ls) (st) σ Q ↔ aX d iX7_wipe 7 (ls) (.int (nI 0) :: st) σ Q := X_iconst kX7_wipe_6 (by decide +kernel)
theorem kX7_wipe_7 : aCode iX7_wipe 7 = some (.putfield 163, 3) := by decide +kernel
theorem sX7_wipe_7 {d : Nat} {σ : aS} {Q : aQ} {x : Int32} {a : Nat} {ls : aL} {st : List Value} : aX d iX7_wipe 7 (ls) (.int x :: .ref a :: st) σ Q ↔ ∃ fs, aFds σ a 7 = some fs ∧ 7 < fs.length ∧ aX d iX7_wipe 10 (ls) (st) (aput σ a (eO 7 (fs.set 7 (.int x)))) Q := X_putf (w := 657) kX7_wipe_7 (by decide +kernel) (aFit_I (by decide +kernel)) (by decide +kernel)
theorem kX7_wipe_10 : aCode iX7_wipe 10 = some (.iload_n 1, 1) := by decide +kernel
theorem sX7_wipe_10 {d : Nat} {σ : aS} {Q : aQ} {l0 : Option Value} {x : Int32} {lt : aL} {st : List Value} : aX d iX7_wipe 10 (l0 :: some (.int x) :: lt) (st) σ Q ↔ aX d iX7_wipe 11 (l0 :: some (.int x) :: lt) (.int x :: st) σ Q := X_iloadn kX7_wipe_10 rfl
theorem kX7_wipe_11 : aCode iX7_wipe 11 = some (.ireturn, 1) := by decide +kernel
theorem sX7_wipe_11 {d : Nat} {σ : aS} {Q : aQ} {v : Int32} {ls : aL} : aX d iX7_wipe 11 (ls) ([.int v]) σ Q ↔ Q (some (.int v)) σ := X_iret kX7_wipe_11 (by decide +kernel)
theorem kX7_character_0 : aCode iX7_character 0 = some (.iload_n 1, 1) := by decide +kernel
theorem sX7_character_0 {d : Nat} {σ : aS} {Q : aQ} {l0 : Option Value} {x : Int32} {lt : aL} {st : List Value} : aX d iX7_character 0 (l0 :: some (.int x) :: lt) (st) σ Q ↔ aX d iX7_character 1 (l0 :: some (.int x) :: lt) (.int x :: st) σ Q := X_iloadn kX7_character_0 rfl
theorem kX7_character_1 : aCode iX7_character 1 = some (.aload_n 0, 1) := by decide +kernel
theorem sX7_character_1 {d : Nat} {σ : aS} {Q : aQ} {x : Nat} {lt : aL} {st : List Value} : aX d iX7_character 1 (some (.ref x) :: lt) (st) σ Q ↔ aX d iX7_character 2 (some (.ref x) :: lt) (.ref x :: st) σ Q := X_aloadn kX7_character_1 rfl rfl
theorem kX7_character_2 : aCode iX7_character 2 = some (.getfield 163, 3) := by decide +kernel
theorem sX7_character_2 {d : Nat} {σ : aS} {Q : aQ} {a : Nat} {ls : aL} {st : List Value} : aX d iX7_character 2 (ls) (.ref a :: st) σ Q ↔ ∃ v, aFld σ a 7 7 = some v ∧ aX d iX7_character 5 (ls) (v :: st) σ Q := X_getf (w := 657) kX7_character_2 (by decide +kernel)
theorem kX7_character_5 : aCode iX7_character 5 = some (.if_icmp .ge 12, 3) := by decide +kernel
theorem sX7_character_5 {d : Nat} {σ : aS} {Q : aQ} {x y : Int32} {ls : aL} {st : List Value} : aX d iX7_character 5 (ls) (.int y :: .int x :: st) σ Q ↔ (if y ≤ x then aX d iX7_character 17 (ls) (st) σ Q else aX d iX7_character 8 (ls) (st) σ Q) := by rw [X_icmp kX7_character_5 (t := 17) (by decide)]; simp only [aCmp_ge]
theorem kX7_character_8 : aCode iX7_character 8 = some (.aload_n 0, 1) := by decide +kernel
theorem sX7_character_8 {d : Nat} {σ : aS} {Q : aQ} {x : Nat} {lt : aL} {st : List Value} : aX d iX7_character 8 (some (.ref x) :: lt) (st) σ Q ↔ aX d iX7_character 9 (some (.ref x) :: lt) (.ref x :: st) σ Q := X_aloadn kX7_character_8 rfl rfl
theorem kX7_character_9 : aCode iX7_character 9 = some (.getfield 25, 3) := by decide +kernel
theorem sX7_character_9 {d : Nat} {σ : aS} {Q : aQ} {a : Nat} {ls : aL} {st : List Value} : aX d iX7_character 9 (ls) (.ref a :: st) σ Q ↔ ∃ v, aFld σ a 7 6 = some v ∧ aX d iX7_character 12 (ls) (v :: st) σ Q := X_getf (w := 656) kX7_character_9 (by decide +kernel)
theorem kX7_character_12 : aCode iX7_character 12 = some (.iload_n 1, 1) := by decide +kernel
theorem sX7_character_12 {d : Nat} {σ : aS} {Q : aQ} {l0 : Option Value} {x : Int32} {lt : aL} {st : List Value} : aX d iX7_character 12 (l0 :: some (.int x) :: lt) (st) σ Q ↔ aX d iX7_character 13 (l0 :: some (.int x) :: lt) (.int x :: st) σ Q := X_iloadn kX7_character_12 rfl
theorem kX7_character_13 : aCode iX7_character 13 = some (.iaload, 1) := by decide +kernel
theorem sX7_character_13 {d : Nat} {σ : aS} {Q : aQ} {a : Nat} {i : Int32} {ls : aL} {st : List Value} : aX d iX7_character 13 (ls) (.int i :: .ref a :: st) σ Q ↔ ∃ x, aRowR σ a = some x ∧ vp_in i x.1 ∧ aX d iX7_character 14 (ls) (.int (x.2 i.toNatClampNeg) :: st) σ Q := X_iaload kX7_character_13
theorem kX7_character_14 : aCode iX7_character 14 = some (.goto 4, 3) := by decide +kernel
theorem sX7_character_14 {d : Nat} {σ : aS} {Q : aQ} {ls : aL} {st : List Value} : aX d iX7_character 14 (ls) (st) σ Q ↔ aX d iX7_character 18 (ls) (st) σ Q := X_goto kX7_character_14 (by decide)
theorem kX7_character_17 : aCode iX7_character 17 = some (.iconst (-1), 1) := by decide +kernel
theorem sX7_character_17 {d : Nat} {σ : aS} {Q : aQ} {ls : aL} {st : List Value} : aX d iX7_character 17 (ls) (st) σ Q ↔ aX d iX7_character 18 (ls) (.int ((-1)) :: st) σ Q := X_iconst kX7_character_17 (by decide +kernel)
theorem kX7_character_18 : aCode iX7_character 18 = some (.ireturn, 1) := by decide +kernel
theorem sX7_character_18 {d : Nat} {σ : aS} {Q : aQ} {v : Int32} {ls : aL} : aX d iX7_character 18 (ls) ([.int v]) σ Q ↔ Q (some (.int v)) σ := X_iret kX7_character_18 (by decide +kernel)
theorem kX7_isNext_0 : aCode iX7_isNext 0 = some (.aload_n 0, 1) := by decide +kernel
theorem sX7_isNext_0 {d : Nat} {σ : aS} {Q : aQ} {x : Nat} {lt : aL} {st : List Value} : aX d iX7_isNext 0 (some (.ref x) :: lt) (st) σ Q ↔ aX d iX7_isNext 1 (some (.ref x) :: lt) (.ref x :: st) σ Q := X_aloadn kX7_isNext_0 rfl rfl
theorem kX7_isNext_1 : aCode iX7_isNext 1 = some (.aload_n 0, 1) := by decide +kernel
theorem sX7_isNext_1 {d : Nat} {σ : aS} {Q : aQ} {x : Nat} {lt : aL} {st : List Value} : aX d iX7_isNext 1 (some (.ref x) :: lt) (st) σ Q ↔ aX d iX7_isNext 2 (some (.ref x) :: lt) (.ref x :: st) σ Q := X_aloadn kX7_isNext_1 rfl rfl
theorem kX7_isNext_2 : aCode iX7_isNext 2 = some (.getfield 171, 3) := by decide +kernel
theorem sX7_isNext_2 {d : Nat} {σ : aS} {Q : aQ} {a : Nat} {ls : aL} {st : List Value} : aX d iX7_isNext 2 (ls) (.ref a :: st) σ Q ↔ ∃ v, aFld σ a 7 8 = some v ∧ aX d iX7_isNext 5 (ls) (v :: st) σ Q := X_getf (w := 658) kX7_isNext_2 (by decide +kernel)
theorem kX7_isNext_5 : aCode iX7_isNext 5 = some (.invokevirtual 174, 3) := by decide +kernel
theorem sX7_isNext_5 {d : Nat} {σ : aS} {Q : aQ} {b : Nat} {p0 : Int32} {ls : aL} : aX (d + 1) iX7_isNext 5 (ls) (.int p0 :: .ref b :: []) σ Q ↔ aIs σ b 7 ∧ aX d iX7_character 0 [some (.ref b), some (.int p0)] [] σ (fun r τ => aX (d + 1) iX7_isNext 8 (ls) (aret r ([])) τ Q) := X_invv (N := 1) (As := [.int p0]) (w := 931) kX7_isNext_5 (by decide +kernel) (by decide +kernel) rfl rfl (by simp only [List.length_cons, List.length_nil]; omega) (by simp only [List.length_cons, List.length_nil]; omega) (by decide +kernel) rfl (Nat.le_of_ble_eq_true rfl)
theorem kX7_isNext_8 : aCode iX7_isNext 8 = some (.iload_n 1, 1) := by decide +kernel
theorem sX7_isNext_8 {d : Nat} {σ : aS} {Q : aQ} {l0 : Option Value} {x : Int32} {lt : aL} {st : List Value} : aX d iX7_isNext 8 (l0 :: some (.int x) :: lt) (st) σ Q ↔ aX d iX7_isNext 9 (l0 :: some (.int x) :: lt) (.int x :: st) σ Q := X_iloadn kX7_isNext_8 rfl
theorem kX7_isNext_9 : aCode iX7_isNext 9 = some (.if_icmp .ne 7, 3) := by decide +kernel
theorem sX7_isNext_9 {d : Nat} {σ : aS} {Q : aQ} {x y : Int32} {ls : aL} {st : List Value} : aX d iX7_isNext 9 (ls) (.int y :: .int x :: st) σ Q ↔ (if ¬ x = y then aX d iX7_isNext 16 (ls) (st) σ Q else aX d iX7_isNext 12 (ls) (st) σ Q) := by rw [X_icmp kX7_isNext_9 (t := 16) (by decide)]; simp only [aCmp_ne]
theorem kX7_isNext_12 : aCode iX7_isNext 12 = some (.iconst 1, 1) := by decide +kernel
theorem sX7_isNext_12 {d : Nat} {σ : aS} {Q : aQ} {ls : aL} {st : List Value} : aX d iX7_isNext 12 (ls) (st) σ Q ↔ aX d iX7_isNext 13 (ls) (.int (nI 1) :: st) σ Q := X_iconst kX7_isNext_12 (by decide +kernel)
theorem kX7_isNext_13 : aCode iX7_isNext 13 = some (.goto 4, 3) := by decide +kernel
theorem sX7_isNext_13 {d : Nat} {σ : aS} {Q : aQ} {ls : aL} {st : List Value} : aX d iX7_isNext 13 (ls) (st) σ Q ↔ aX d iX7_isNext 17 (ls) (st) σ Q := X_goto kX7_isNext_13 (by decide)
theorem kX7_isNext_16 : aCode iX7_isNext 16 = some (.iconst 0, 1) := by decide +kernel
theorem sX7_isNext_16 {d : Nat} {σ : aS} {Q : aQ} {ls : aL} {st : List Value} : aX d iX7_isNext 16 (ls) (st) σ Q ↔ aX d iX7_isNext 17 (ls) (.int (nI 0) :: st) σ Q := X_iconst kX7_isNext_16 (by decide +kernel)
theorem kX7_isNext_17 : aCode iX7_isNext 17 = some (.istore_n 2, 1) := by decide +kernel
theorem sX7_isNext_17 {d : Nat} {σ : aS} {Q : aQ} {l0 l1 lo : Option Value} {x : Int32} {lt : aL} {st : List Value} : aX d iX7_isNext 17 (l0 :: l1 :: lo :: lt) (.int x :: st) σ Q ↔ aX d iX7_isNext 18 (l0 :: aclr l1 :: some (.int x) :: lt) (st) σ Q := X_istoren kX7_isNext_17 (by simp only [List.length_cons]; omega)
theorem kX7_isNext_18 : aCode iX7_isNext 18 = some (.aload_n 0, 1) := by decide +kernel
theorem sX7_isNext_18 {d : Nat} {σ : aS} {Q : aQ} {x : Nat} {lt : aL} {st : List Value} : aX d iX7_isNext 18 (some (.ref x) :: lt) (st) σ Q ↔ aX d iX7_isNext 19 (some (.ref x) :: lt) (.ref x :: st) σ Q := X_aloadn kX7_isNext_18 rfl rfl
theorem kX7_isNext_19 : aCode iX7_isNext 19 = some (.dup, 1) := by decide +kernel
theorem sX7_isNext_19 {d : Nat} {σ : aS} {Q : aQ} {x : Nat} {ls : aL} {st : List Value} : aX d iX7_isNext 19 (ls) (.ref x :: st) σ Q ↔ aX d iX7_isNext 20 (ls) (.ref x :: .ref x :: st) σ Q := X_dup kX7_isNext_19 rfl
theorem sX7_isNext_19i {d : Nat} {σ : aS} {Q : aQ} {x : Int32} {ls : aL} {st : List Value} : aX d iX7_isNext 19 (ls) (.int x :: st) σ Q ↔ aX d iX7_isNext 20 (ls) (.int x :: .int x :: st) σ Q := X_dup kX7_isNext_19 rfl
theorem kX7_isNext_20 : aCode iX7_isNext 20 = some (.getfield 171, 3) := by decide +kernel
theorem sX7_isNext_20 {d : Nat} {σ : aS} {Q : aQ} {a : Nat} {ls : aL} {st : List Value} : aX d iX7_isNext 20 (ls) (.ref a :: st) σ Q ↔ ∃ v, aFld σ a 7 8 = some v ∧ aX d iX7_isNext 23 (ls) (v :: st) σ Q := X_getf (w := 658) kX7_isNext_20 (by decide +kernel)
theorem kX7_isNext_23 : aCode iX7_isNext 23 = some (.iload_n 2, 1) := by decide +kernel
theorem sX7_isNext_23 {d : Nat} {σ : aS} {Q : aQ} {l0 l1 : Option Value} {x : Int32} {lt : aL} {st : List Value} : aX d iX7_isNext 23 (l0 :: l1 :: some (.int x) :: lt) (st) σ Q ↔ aX d iX7_isNext 24 (l0 :: l1 :: some (.int x) :: lt) (.int x :: st) σ Q := X_iloadn kX7_isNext_23 rfl
theorem kX7_isNext_24 : aCode iX7_isNext 24 = some (.ifCond .eq 7, 3) := by decide +kernel
theorem sX7_isNext_24 {d : Nat} {σ : aS} {Q : aQ} {x : Int32} {ls : aL} {st : List Value} : aX d iX7_isNext 24 (ls) (.int x :: st) σ Q ↔ (if x = nI 0 then aX d iX7_isNext 31 (ls) (st) σ Q else aX d iX7_isNext 27 (ls) (st) σ Q) := by rw [X_if kX7_isNext_24 (t := 31) (by decide)]; simp only [aCmp_eq]
theorem kX7_isNext_27 : aCode iX7_isNext 27 = some (.iconst 1, 1) := by decide +kernel
theorem sX7_isNext_27 {d : Nat} {σ : aS} {Q : aQ} {ls : aL} {st : List Value} : aX d iX7_isNext 27 (ls) (st) σ Q ↔ aX d iX7_isNext 28 (ls) (.int (nI 1) :: st) σ Q := X_iconst kX7_isNext_27 (by decide +kernel)
theorem kX7_isNext_28 : aCode iX7_isNext 28 = some (.goto 4, 3) := by decide +kernel
theorem sX7_isNext_28 {d : Nat} {σ : aS} {Q : aQ} {ls : aL} {st : List Value} : aX d iX7_isNext 28 (ls) (st) σ Q ↔ aX d iX7_isNext 32 (ls) (st) σ Q := X_goto kX7_isNext_28 (by decide)
theorem kX7_isNext_31 : aCode iX7_isNext 31 = some (.iconst 0, 1) := by decide +kernel
theorem sX7_isNext_31 {d : Nat} {σ : aS} {Q : aQ} {ls : aL} {st : List Value} : aX d iX7_isNext 31 (ls) (st) σ Q ↔ aX d iX7_isNext 32 (ls) (.int (nI 0) :: st) σ Q := X_iconst kX7_isNext_31 (by decide +kernel)
theorem kX7_isNext_32 : aCode iX7_isNext 32 = some (.iadd, 1) := by decide +kernel
theorem sX7_isNext_32 {d : Nat} {σ : aS} {Q : aQ} {x y : Int32} {ls : aL} {st : List Value} : aX d iX7_isNext 32 (ls) (.int y :: .int x :: st) σ Q ↔ aX d iX7_isNext 33 (ls) (.int (x + y) :: st) σ Q := X_iadd kX7_isNext_32
theorem kX7_isNext_33 : aCode iX7_isNext 33 = some (.putfield 171, 3) := by decide +kernel
theorem sX7_isNext_33 {d : Nat} {σ : aS} {Q : aQ} {x : Int32} {a : Nat} {ls : aL} {st : List Value} : aX d iX7_isNext 33 (ls) (.int x :: .ref a :: st) σ Q ↔ ∃ fs, aFds σ a 7 = some fs ∧ 8 < fs.length ∧ aX d iX7_isNext 36 (ls) (st) (aput σ a (eO 7 (fs.set 8 (.int x)))) Q := X_putf (w := 658) kX7_isNext_33 (by decide +kernel) (aFit_I (by decide +kernel)) (by decide +kernel)
theorem kX7_isNext_36 : aCode iX7_isNext 36 = some (.iload_n 2, 1) := by decide +kernel
theorem sX7_isNext_36 {d : Nat} {σ : aS} {Q : aQ} {l0 l1 : Option Value} {x : Int32} {lt : aL} {st : List Value} : aX d iX7_isNext 36 (l0 :: l1 :: some (.int x) :: lt) (st) σ Q ↔ aX d iX7_isNext 37 (l0 :: l1 :: some (.int x) :: lt) (.int x :: st) σ Q := X_iloadn kX7_isNext_36 rfl
theorem kX7_isNext_37 : aCode iX7_isNext 37 = some (.ireturn, 1) := by decide +kernel
theorem sX7_isNext_37 {d : Nat} {σ : aS} {Q : aQ} {v : Int32} {ls : aL} : aX d iX7_isNext 37 (ls) ([.int v]) σ Q ↔ (narrow .boolean (.int v) = .int v ∧ Q (some (.int v)) σ) := X_zret kX7_isNext_37 (by decide +kernel)
theorem kX7_takeDigit_0 : aCode iX7_takeDigit 0 = some (.aload_n 0, 1) := by decide +kernel
theorem sX7_takeDigit_0 {d : Nat} {σ : aS} {Q : aQ} {x : Nat} {lt : aL} {st : List Value} : aX d iX7_takeDigit 0 (some (.ref x) :: lt) (st) σ Q ↔ aX d iX7_takeDigit 1 (some (.ref x) :: lt) (.ref x :: st) σ Q := X_aloadn kX7_takeDigit_0 rfl rfl
theorem kX7_takeDigit_1 : aCode iX7_takeDigit 1 = some (.aload_n 0, 1) := by decide +kernel
theorem sX7_takeDigit_1 {d : Nat} {σ : aS} {Q : aQ} {x : Nat} {lt : aL} {st : List Value} : aX d iX7_takeDigit 1 (some (.ref x) :: lt) (st) σ Q ↔ aX d iX7_takeDigit 2 (some (.ref x) :: lt) (.ref x :: st) σ Q := X_aloadn kX7_takeDigit_1 rfl rfl
theorem kX7_takeDigit_2 : aCode iX7_takeDigit 2 = some (.getfield 171, 3) := by decide +kernel
theorem sX7_takeDigit_2 {d : Nat} {σ : aS} {Q : aQ} {a : Nat} {ls : aL} {st : List Value} : aX d iX7_takeDigit 2 (ls) (.ref a :: st) σ Q ↔ ∃ v, aFld σ a 7 8 = some v ∧ aX d iX7_takeDigit 5 (ls) (v :: st) σ Q := X_getf (w := 658) kX7_takeDigit_2 (by decide +kernel)
theorem kX7_takeDigit_5 : aCode iX7_takeDigit 5 = some (.invokevirtual 174, 3) := by decide +kernel
theorem sX7_takeDigit_5 {d : Nat} {σ : aS} {Q : aQ} {b : Nat} {p0 : Int32} {ls : aL} : aX (d + 1) iX7_takeDigit 5 (ls) (.int p0 :: .ref b :: []) σ Q ↔ aIs σ b 7 ∧ aX d iX7_character 0 [some (.ref b), some (.int p0)] [] σ (fun r τ => aX (d + 1) iX7_takeDigit 8 (ls) (aret r ([])) τ Q) := X_invv (N := 1) (As := [.int p0]) (w := 931) kX7_takeDigit_5 (by decide +kernel) (by decide +kernel) rfl rfl (by simp only [List.length_cons, List.length_nil]; omega) (by simp only [List.length_cons, List.length_nil]; omega) (by decide +kernel) rfl (Nat.le_of_ble_eq_true rfl)
theorem kX7_takeDigit_8 : aCode iX7_takeDigit 8 = some (.bipush 48, 2) := by decide +kernel
theorem sX7_takeDigit_8 {d : Nat} {σ : aS} {Q : aQ} {ls : aL} {st : List Value} : aX d iX7_takeDigit 8 (ls) (st) σ Q ↔ aX d iX7_takeDigit 10 (ls) (.int (nI 48) :: st) σ Q := X_bipush kX7_takeDigit_8 (by decide +kernel)
theorem kX7_takeDigit_10 : aCode iX7_takeDigit 10 = some (.isub, 1) := by decide +kernel
theorem sX7_takeDigit_10 {d : Nat} {σ : aS} {Q : aQ} {x y : Int32} {ls : aL} {st : List Value} : aX d iX7_takeDigit 10 (ls) (.int y :: .int x :: st) σ Q ↔ aX d iX7_takeDigit 11 (ls) (.int (x - y) :: st) σ Q := X_isub kX7_takeDigit_10
theorem kX7_takeDigit_11 : aCode iX7_takeDigit 11 = some (.istore_n 3, 1) := by decide +kernel
theorem sX7_takeDigit_11 {d : Nat} {σ : aS} {Q : aQ} {l0 l1 l2 lo : Option Value} {x : Int32} {lt : aL} {st : List Value} : aX d iX7_takeDigit 11 (l0 :: l1 :: l2 :: lo :: lt) (.int x :: st) σ Q ↔ aX d iX7_takeDigit 12 (l0 :: l1 :: aclr l2 :: some (.int x) :: lt) (st) σ Q := X_istoren kX7_takeDigit_11 (by simp only [List.length_cons]; omega)
theorem kX7_takeDigit_12 : aCode iX7_takeDigit 12 = some (.iload_n 3, 1) := by decide +kernel
theorem sX7_takeDigit_12 {d : Nat} {σ : aS} {Q : aQ} {l0 l1 l2 : Option Value} {x : Int32} {lt : aL} {st : List Value} : aX d iX7_takeDigit 12 (l0 :: l1 :: l2 :: some (.int x) :: lt) (st) σ Q ↔ aX d iX7_takeDigit 13 (l0 :: l1 :: l2 :: some (.int x) :: lt) (.int x :: st) σ Q := X_iloadn kX7_takeDigit_12 rfl
theorem kX7_takeDigit_13 : aCode iX7_takeDigit 13 = some (.iload_n 1, 1) := by decide +kernel
theorem sX7_takeDigit_13 {d : Nat} {σ : aS} {Q : aQ} {l0 : Option Value} {x : Int32} {lt : aL} {st : List Value} : aX d iX7_takeDigit 13 (l0 :: some (.int x) :: lt) (st) σ Q ↔ aX d iX7_takeDigit 14 (l0 :: some (.int x) :: lt) (.int x :: st) σ Q := X_iloadn kX7_takeDigit_13 rfl
theorem kX7_takeDigit_14 : aCode iX7_takeDigit 14 = some (.iload_n 2, 1) := by decide +kernel
theorem sX7_takeDigit_14 {d : Nat} {σ : aS} {Q : aQ} {l0 l1 : Option Value} {x : Int32} {lt : aL} {st : List Value} : aX d iX7_takeDigit 14 (l0 :: l1 :: some (.int x) :: lt) (st) σ Q ↔ aX d iX7_takeDigit 15 (l0 :: l1 :: some (.int x) :: lt) (.int x :: st) σ Q := X_iloadn kX7_takeDigit_14 rfl
theorem kX7_takeDigit_15 : aCode iX7_takeDigit 15 = some (.invokestatic 36, 3) := by decide +kernel
theorem sX7_takeDigit_15 {d : Nat} {σ : aS} {Q : aQ} {p0 : Int32} {p1 : Int32} {p2 : Int32} {ls : aL} : aX (d + 1) iX7_takeDigit 15 (ls) (.int p2 :: .int p1 :: .int p0 :: []) σ Q ↔ aX d iX7_within 0 [some (.int p0), some (.int p1), some (.int p2)] [] σ (fun r τ => aX (d + 1) iX7_takeDigit 18 (ls) (aret r ([])) τ Q) := X_invs (N := 3) (As := [.int p2, .int p1, .int p0]) (k := 1) (w := 694) kX7_takeDigit_15 (by decide +kernel) (by decide) (by decide +kernel) rfl rfl (by simp only [List.length_cons, List.length_nil]; omega) (by simp only [List.length_cons, List.length_nil]; omega) rfl (Nat.le_of_ble_eq_true rfl)
theorem kX7_takeDigit_18 : aCode iX7_takeDigit 18 = some (.ifCond .ne 5, 3) := by decide +kernel
theorem sX7_takeDigit_18 {d : Nat} {σ : aS} {Q : aQ} {x : Int32} {ls : aL} {st : List Value} : aX d iX7_takeDigit 18 (ls) (.int x :: st) σ Q ↔ (if ¬ x = nI 0 then aX d iX7_takeDigit 23 (ls) (st) σ Q else aX d iX7_takeDigit 21 (ls) (st) σ Q) := by rw [X_if kX7_takeDigit_18 (t := 23) (by decide)]; simp only [aCmp_ne]
theorem kX7_takeDigit_21 : aCode iX7_takeDigit 21 = some (.iconst (-1), 1) := by decide +kernel
theorem sX7_takeDigit_21 {d : Nat} {σ : aS} {Q : aQ} {ls : aL} {st : List Value} : aX d iX7_takeDigit 21 (ls) (st) σ Q ↔ aX d iX7_takeDigit 22 (ls) (.int ((-1)) :: st) σ Q := X_iconst kX7_takeDigit_21 (by decide +kernel)
theorem kX7_takeDigit_22 : aCode iX7_takeDigit 22 = some (.ireturn, 1) := by decide +kernel
theorem sX7_takeDigit_22 {d : Nat} {σ : aS} {Q : aQ} {v : Int32} {ls : aL} : aX d iX7_takeDigit 22 (ls) ([.int v]) σ Q ↔ Q (some (.int v)) σ := X_iret kX7_takeDigit_22 (by decide +kernel)
theorem kX7_takeDigit_23 : aCode iX7_takeDigit 23 = some (.aload_n 0, 1) := by decide +kernel
theorem sX7_takeDigit_23 {d : Nat} {σ : aS} {Q : aQ} {x : Nat} {lt : aL} {st : List Value} : aX d iX7_takeDigit 23 (some (.ref x) :: lt) (st) σ Q ↔ aX d iX7_takeDigit 24 (some (.ref x) :: lt) (.ref x :: st) σ Q := X_aloadn kX7_takeDigit_23 rfl rfl
theorem kX7_takeDigit_24 : aCode iX7_takeDigit 24 = some (.dup, 1) := by decide +kernel
theorem sX7_takeDigit_24 {d : Nat} {σ : aS} {Q : aQ} {x : Nat} {ls : aL} {st : List Value} : aX d iX7_takeDigit 24 (ls) (.ref x :: st) σ Q ↔ aX d iX7_takeDigit 25 (ls) (.ref x :: .ref x :: st) σ Q := X_dup kX7_takeDigit_24 rfl
theorem sX7_takeDigit_24i {d : Nat} {σ : aS} {Q : aQ} {x : Int32} {ls : aL} {st : List Value} : aX d iX7_takeDigit 24 (ls) (.int x :: st) σ Q ↔ aX d iX7_takeDigit 25 (ls) (.int x :: .int x :: st) σ Q := X_dup kX7_takeDigit_24 rfl
theorem kX7_takeDigit_25 : aCode iX7_takeDigit 25 = some (.getfield 171, 3) := by decide +kernel
theorem sX7_takeDigit_25 {d : Nat} {σ : aS} {Q : aQ} {a : Nat} {ls : aL} {st : List Value} : aX d iX7_takeDigit 25 (ls) (.ref a :: st) σ Q ↔ ∃ v, aFld σ a 7 8 = some v ∧ aX d iX7_takeDigit 28 (ls) (v :: st) σ Q := X_getf (w := 658) kX7_takeDigit_25 (by decide +kernel)
theorem kX7_takeDigit_28 : aCode iX7_takeDigit 28 = some (.iconst 1, 1) := by decide +kernel
theorem sX7_takeDigit_28 {d : Nat} {σ : aS} {Q : aQ} {ls : aL} {st : List Value} : aX d iX7_takeDigit 28 (ls) (st) σ Q ↔ aX d iX7_takeDigit 29 (ls) (.int (nI 1) :: st) σ Q := X_iconst kX7_takeDigit_28 (by decide +kernel)
theorem kX7_takeDigit_29 : aCode iX7_takeDigit 29 = some (.iadd, 1) := by decide +kernel
theorem sX7_takeDigit_29 {d : Nat} {σ : aS} {Q : aQ} {x y : Int32} {ls : aL} {st : List Value} : aX d iX7_takeDigit 29 (ls) (.int y :: .int x :: st) σ Q ↔ aX d iX7_takeDigit 30 (ls) (.int (x + y) :: st) σ Q := X_iadd kX7_takeDigit_29
theorem kX7_takeDigit_30 : aCode iX7_takeDigit 30 = some (.putfield 171, 3) := by decide +kernel
theorem sX7_takeDigit_30 {d : Nat} {σ : aS} {Q : aQ} {x : Int32} {a : Nat} {ls : aL} {st : List Value} : aX d iX7_takeDigit 30 (ls) (.int x :: .ref a :: st) σ Q ↔ ∃ fs, aFds σ a 7 = some fs ∧ 8 < fs.length ∧ aX d iX7_takeDigit 33 (ls) (st) (aput σ a (eO 7 (fs.set 8 (.int x)))) Q := X_putf (w := 658) kX7_takeDigit_30 (by decide +kernel) (aFit_I (by decide +kernel)) (by decide +kernel)
theorem kX7_takeDigit_33 : aCode iX7_takeDigit 33 = some (.iload_n 3, 1) := by decide +kernel
theorem sX7_takeDigit_33 {d : Nat} {σ : aS} {Q : aQ} {l0 l1 l2 : Option Value} {x : Int32} {lt : aL} {st : List Value} : aX d iX7_takeDigit 33 (l0 :: l1 :: l2 :: some (.int x) :: lt) (st) σ Q ↔ aX d iX7_takeDigit 34 (l0 :: l1 :: l2 :: some (.int x) :: lt) (.int x :: st) σ Q := X_iloadn kX7_takeDigit_33 rfl
theorem kX7_takeDigit_34 : aCode iX7_takeDigit 34 = some (.ireturn, 1) := by decide +kernel
theorem sX7_takeDigit_34 {d : Nat} {σ : aS} {Q : aQ} {v : Int32} {ls : aL} : aX d iX7_takeDigit 34 (ls) ([.int v]) σ Q ↔ Q (some (.int v)) σ := X_iret kX7_takeDigit_34 (by decide +kernel)
theorem kX7_takeNumber_0 : aCode iX7_takeNumber 0 = some (.aload_n 0, 1) := by decide +kernel
theorem sX7_takeNumber_0 {d : Nat} {σ : aS} {Q : aQ} {x : Nat} {lt : aL} {st : List Value} : aX d iX7_takeNumber 0 (some (.ref x) :: lt) (st) σ Q ↔ aX d iX7_takeNumber 1 (some (.ref x) :: lt) (.ref x :: st) σ Q := X_aloadn kX7_takeNumber_0 rfl rfl
theorem kX7_takeNumber_1 : aCode iX7_takeNumber 1 = some (.iconst 0, 1) := by decide +kernel
theorem sX7_takeNumber_1 {d : Nat} {σ : aS} {Q : aQ} {ls : aL} {st : List Value} : aX d iX7_takeNumber 1 (ls) (st) σ Q ↔ aX d iX7_takeNumber 2 (ls) (.int (nI 0) :: st) σ Q := X_iconst kX7_takeNumber_1 (by decide +kernel)
theorem kX7_takeNumber_2 : aCode iX7_takeNumber 2 = some (.bipush 9, 2) := by decide +kernel
theorem sX7_takeNumber_2 {d : Nat} {σ : aS} {Q : aQ} {ls : aL} {st : List Value} : aX d iX7_takeNumber 2 (ls) (st) σ Q ↔ aX d iX7_takeNumber 4 (ls) (.int (nI 9) :: st) σ Q := X_bipush kX7_takeNumber_2 (by decide +kernel)
theorem kX7_takeNumber_4 : aCode iX7_takeNumber 4 = some (.invokevirtual 177, 3) := by decide +kernel
theorem sX7_takeNumber_4 {d : Nat} {σ : aS} {Q : aQ} {b : Nat} {p0 : Int32} {p1 : Int32} {ls : aL} : aX (d + 1) iX7_takeNumber 4 (ls) (.int p1 :: .int p0 :: .ref b :: []) σ Q ↔ aIs σ b 7 ∧ aX d iX7_takeDigit 0 [some (.ref b), some (.int p0), some (.int p1), none] [] σ (fun r τ => aX (d + 1) iX7_takeNumber 7 (ls) (aret r ([])) τ Q) := X_invv (N := 2) (As := [.int p1, .int p0]) (w := 935) kX7_takeNumber_4 (by decide +kernel) (by decide +kernel) rfl rfl (by simp only [List.length_cons, List.length_nil]; omega) (by simp only [List.length_cons, List.length_nil]; omega) (by decide +kernel) rfl (Nat.le_of_ble_eq_true rfl)
theorem kX7_takeNumber_7 : aCode iX7_takeNumber 7 = some (.istore_n 1, 1) := by decide +kernel
theorem sX7_takeNumber_7 {d : Nat} {σ : aS} {Q : aQ} {l0 lo : Option Value} {x : Int32} {lt : aL} {st : List Value} : aX d iX7_takeNumber 7 (l0 :: lo :: lt) (.int x :: st) σ Q ↔ aX d iX7_takeNumber 8 (aclr l0 :: some (.int x) :: lt) (st) σ Q := X_istoren kX7_takeNumber_7 (by simp only [List.length_cons]; omega)
theorem kX7_takeNumber_8 : aCode iX7_takeNumber 8 = some (.iload_n 1, 1) := by decide +kernel
theorem sX7_takeNumber_8 {d : Nat} {σ : aS} {Q : aQ} {l0 : Option Value} {x : Int32} {lt : aL} {st : List Value} : aX d iX7_takeNumber 8 (l0 :: some (.int x) :: lt) (st) σ Q ↔ aX d iX7_takeNumber 9 (l0 :: some (.int x) :: lt) (.int x :: st) σ Q := X_iloadn kX7_takeNumber_8 rfl
theorem kX7_takeNumber_9 : aCode iX7_takeNumber 9 = some (.ifCond .le 44, 3) := by decide +kernel
theorem sX7_takeNumber_9 {d : Nat} {σ : aS} {Q : aQ} {x : Int32} {ls : aL} {st : List Value} : aX d iX7_takeNumber 9 (ls) (.int x :: st) σ Q ↔ (if x ≤ nI 0 then aX d iX7_takeNumber 53 (ls) (st) σ Q else aX d iX7_takeNumber 12 (ls) (st) σ Q) := by rw [X_if kX7_takeNumber_9 (t := 53) (by decide)]; simp only [aCmp_le]
theorem kX7_takeNumber_12 : aCode iX7_takeNumber 12 = some (.iload_n 1, 1) := by decide +kernel
theorem sX7_takeNumber_12 {d : Nat} {σ : aS} {Q : aQ} {l0 : Option Value} {x : Int32} {lt : aL} {st : List Value} : aX d iX7_takeNumber 12 (l0 :: some (.int x) :: lt) (st) σ Q ↔ aX d iX7_takeNumber 13 (l0 :: some (.int x) :: lt) (.int x :: st) σ Q := X_iloadn kX7_takeNumber_12 rfl
theorem kX7_takeNumber_13 : aCode iX7_takeNumber 13 = some (.sipush 1000, 3) := by decide +kernel
theorem sX7_takeNumber_13 {d : Nat} {σ : aS} {Q : aQ} {ls : aL} {st : List Value} : aX d iX7_takeNumber 13 (ls) (st) σ Q ↔ aX d iX7_takeNumber 16 (ls) (.int (nI 1000) :: st) σ Q := X_sipush kX7_takeNumber_13 (by decide +kernel)
theorem kX7_takeNumber_16 : aCode iX7_takeNumber 16 = some (.if_icmp .ge 37, 3) := by decide +kernel
theorem sX7_takeNumber_16 {d : Nat} {σ : aS} {Q : aQ} {x y : Int32} {ls : aL} {st : List Value} : aX d iX7_takeNumber 16 (ls) (.int y :: .int x :: st) σ Q ↔ (if y ≤ x then aX d iX7_takeNumber 53 (ls) (st) σ Q else aX d iX7_takeNumber 19 (ls) (st) σ Q) := by rw [X_icmp kX7_takeNumber_16 (t := 53) (by decide)]; simp only [aCmp_ge]
theorem kX7_takeNumber_19 : aCode iX7_takeNumber 19 = some (.aload_n 0, 1) := by decide +kernel
theorem sX7_takeNumber_19 {d : Nat} {σ : aS} {Q : aQ} {x : Nat} {lt : aL} {st : List Value} : aX d iX7_takeNumber 19 (some (.ref x) :: lt) (st) σ Q ↔ aX d iX7_takeNumber 20 (some (.ref x) :: lt) (.ref x :: st) σ Q := X_aloadn kX7_takeNumber_19 rfl rfl
theorem kX7_takeNumber_20 : aCode iX7_takeNumber 20 = some (.aload_n 0, 1) := by decide +kernel
theorem sX7_takeNumber_20 {d : Nat} {σ : aS} {Q : aQ} {x : Nat} {lt : aL} {st : List Value} : aX d iX7_takeNumber 20 (some (.ref x) :: lt) (st) σ Q ↔ aX d iX7_takeNumber 21 (some (.ref x) :: lt) (.ref x :: st) σ Q := X_aloadn kX7_takeNumber_20 rfl rfl
theorem kX7_takeNumber_21 : aCode iX7_takeNumber 21 = some (.getfield 171, 3) := by decide +kernel
theorem sX7_takeNumber_21 {d : Nat} {σ : aS} {Q : aQ} {a : Nat} {ls : aL} {st : List Value} : aX d iX7_takeNumber 21 (ls) (.ref a :: st) σ Q ↔ ∃ v, aFld σ a 7 8 = some v ∧ aX d iX7_takeNumber 24 (ls) (v :: st) σ Q := X_getf (w := 658) kX7_takeNumber_21 (by decide +kernel)
theorem kX7_takeNumber_24 : aCode iX7_takeNumber 24 = some (.invokevirtual 174, 3) := by decide +kernel
theorem sX7_takeNumber_24 {d : Nat} {σ : aS} {Q : aQ} {b : Nat} {p0 : Int32} {ls : aL} : aX (d + 1) iX7_takeNumber 24 (ls) (.int p0 :: .ref b :: []) σ Q ↔ aIs σ b 7 ∧ aX d iX7_character 0 [some (.ref b), some (.int p0)] [] σ (fun r τ => aX (d + 1) iX7_takeNumber 27 (ls) (aret r ([])) τ Q) := X_invv (N := 1) (As := [.int p0]) (w := 931) kX7_takeNumber_24 (by decide +kernel) (by decide +kernel) rfl rfl (by simp only [List.length_cons, List.length_nil]; omega) (by simp only [List.length_cons, List.length_nil]; omega) (by decide +kernel) rfl (Nat.le_of_ble_eq_true rfl)
theorem kX7_takeNumber_27 : aCode iX7_takeNumber 27 = some (.bipush 48, 2) := by decide +kernel
theorem sX7_takeNumber_27 {d : Nat} {σ : aS} {Q : aQ} {ls : aL} {st : List Value} : aX d iX7_takeNumber 27 (ls) (st) σ Q ↔ aX d iX7_takeNumber 29 (ls) (.int (nI 48) :: st) σ Q := X_bipush kX7_takeNumber_27 (by decide +kernel)
theorem kX7_takeNumber_29 : aCode iX7_takeNumber 29 = some (.bipush 57, 2) := by decide +kernel
theorem sX7_takeNumber_29 {d : Nat} {σ : aS} {Q : aQ} {ls : aL} {st : List Value} : aX d iX7_takeNumber 29 (ls) (st) σ Q ↔ aX d iX7_takeNumber 31 (ls) (.int (nI 57) :: st) σ Q := X_bipush kX7_takeNumber_29 (by decide +kernel)
theorem kX7_takeNumber_31 : aCode iX7_takeNumber 31 = some (.invokestatic 36, 3) := by decide +kernel
theorem sX7_takeNumber_31 {d : Nat} {σ : aS} {Q : aQ} {p0 : Int32} {p1 : Int32} {p2 : Int32} {ls : aL} : aX (d + 1) iX7_takeNumber 31 (ls) (.int p2 :: .int p1 :: .int p0 :: []) σ Q ↔ aX d iX7_within 0 [some (.int p0), some (.int p1), some (.int p2)] [] σ (fun r τ => aX (d + 1) iX7_takeNumber 34 (ls) (aret r ([])) τ Q) := X_invs (N := 3) (As := [.int p2, .int p1, .int p0]) (k := 1) (w := 694) kX7_takeNumber_31 (by decide +kernel) (by decide) (by decide +kernel) rfl rfl (by simp only [List.length_cons, List.length_nil]; omega) (by simp only [List.length_cons, List.length_nil]; omega) rfl (Nat.le_of_ble_eq_true rfl)
theorem kX7_takeNumber_34 : aCode iX7_takeNumber 34 = some (.ifCond .eq 19, 3) := by decide +kernel
theorem sX7_takeNumber_34 {d : Nat} {σ : aS} {Q : aQ} {x : Int32} {ls : aL} {st : List Value} : aX d iX7_takeNumber 34 (ls) (.int x :: st) σ Q ↔ (if x = nI 0 then aX d iX7_takeNumber 53 (ls) (st) σ Q else aX d iX7_takeNumber 37 (ls) (st) σ Q) := by rw [X_if kX7_takeNumber_34 (t := 53) (by decide)]; simp only [aCmp_eq]
theorem kX7_takeNumber_37 : aCode iX7_takeNumber 37 = some (.bipush 10, 2) := by decide +kernel
theorem sX7_takeNumber_37 {d : Nat} {σ : aS} {Q : aQ} {ls : aL} {st : List Value} : aX d iX7_takeNumber 37 (ls) (st) σ Q ↔ aX d iX7_takeNumber 39 (ls) (.int (nI 10) :: st) σ Q := X_bipush kX7_takeNumber_37 (by decide +kernel)
theorem kX7_takeNumber_39 : aCode iX7_takeNumber 39 = some (.iload_n 1, 1) := by decide +kernel
theorem sX7_takeNumber_39 {d : Nat} {σ : aS} {Q : aQ} {l0 : Option Value} {x : Int32} {lt : aL} {st : List Value} : aX d iX7_takeNumber 39 (l0 :: some (.int x) :: lt) (st) σ Q ↔ aX d iX7_takeNumber 40 (l0 :: some (.int x) :: lt) (.int x :: st) σ Q := X_iloadn kX7_takeNumber_39 rfl
theorem kX7_takeNumber_40 : aCode iX7_takeNumber 40 = some (.imul, 1) := by decide +kernel
theorem sX7_takeNumber_40 {d : Nat} {σ : aS} {Q : aQ} {x y : Int32} {ls : aL} {st : List Value} : aX d iX7_takeNumber 40 (ls) (.int y :: .int x :: st) σ Q ↔ aX d iX7_takeNumber 41 (ls) (.int (x * y) :: st) σ Q := X_imul kX7_takeNumber_40
theorem kX7_takeNumber_41 : aCode iX7_takeNumber 41 = some (.aload_n 0, 1) := by decide +kernel
theorem sX7_takeNumber_41 {d : Nat} {σ : aS} {Q : aQ} {x : Nat} {lt : aL} {st : List Value} : aX d iX7_takeNumber 41 (some (.ref x) :: lt) (st) σ Q ↔ aX d iX7_takeNumber 42 (some (.ref x) :: lt) (.ref x :: st) σ Q := X_aloadn kX7_takeNumber_41 rfl rfl
theorem kX7_takeNumber_42 : aCode iX7_takeNumber 42 = some (.iconst 0, 1) := by decide +kernel
theorem sX7_takeNumber_42 {d : Nat} {σ : aS} {Q : aQ} {ls : aL} {st : List Value} : aX d iX7_takeNumber 42 (ls) (st) σ Q ↔ aX d iX7_takeNumber 43 (ls) (.int (nI 0) :: st) σ Q := X_iconst kX7_takeNumber_42 (by decide +kernel)
theorem kX7_takeNumber_43 : aCode iX7_takeNumber 43 = some (.bipush 9, 2) := by decide +kernel
theorem sX7_takeNumber_43 {d : Nat} {σ : aS} {Q : aQ} {ls : aL} {st : List Value} : aX d iX7_takeNumber 43 (ls) (st) σ Q ↔ aX d iX7_takeNumber 45 (ls) (.int (nI 9) :: st) σ Q := X_bipush kX7_takeNumber_43 (by decide +kernel)
theorem kX7_takeNumber_45 : aCode iX7_takeNumber 45 = some (.invokevirtual 177, 3) := by decide +kernel
theorem sX7_takeNumber_45 {d : Nat} {σ : aS} {Q : aQ} {b : Nat} {p0 : Int32} {p1 : Int32} {v0 : Value} {ls : aL} : aX (d + 1) iX7_takeNumber 45 (ls) (.int p1 :: .int p0 :: .ref b :: v0 :: []) σ Q ↔ aIs σ b 7 ∧ aX d iX7_takeDigit 0 [some (.ref b), some (.int p0), some (.int p1), none] [] σ (fun r τ => aX (d + 1) iX7_takeNumber 48 (ls) (aret r (v0 :: [])) τ Q) := X_invv (N := 2) (As := [.int p1, .int p0]) (w := 935) kX7_takeNumber_45 (by decide +kernel) (by decide +kernel) rfl rfl (by simp only [List.length_cons, List.length_nil]; omega) (by simp only [List.length_cons, List.length_nil]; omega) (by decide +kernel) rfl (Nat.le_of_ble_eq_true rfl)
theorem kX7_takeNumber_48 : aCode iX7_takeNumber 48 = some (.iadd, 1) := by decide +kernel
theorem sX7_takeNumber_48 {d : Nat} {σ : aS} {Q : aQ} {x y : Int32} {ls : aL} {st : List Value} : aX d iX7_takeNumber 48 (ls) (.int y :: .int x :: st) σ Q ↔ aX d iX7_takeNumber 49 (ls) (.int (x + y) :: st) σ Q := X_iadd kX7_takeNumber_48
theorem kX7_takeNumber_49 : aCode iX7_takeNumber 49 = some (.istore_n 1, 1) := by decide +kernel
theorem sX7_takeNumber_49 {d : Nat} {σ : aS} {Q : aQ} {l0 lo : Option Value} {x : Int32} {lt : aL} {st : List Value} : aX d iX7_takeNumber 49 (l0 :: lo :: lt) (.int x :: st) σ Q ↔ aX d iX7_takeNumber 50 (aclr l0 :: some (.int x) :: lt) (st) σ Q := X_istoren kX7_takeNumber_49 (by simp only [List.length_cons]; omega)
theorem kX7_takeNumber_50 : aCode iX7_takeNumber 50 = some (.goto (-42), 3) := by decide +kernel
theorem sX7_takeNumber_50 {d : Nat} {σ : aS} {Q : aQ} {ls : aL} {st : List Value} : aX d iX7_takeNumber 50 (ls) (st) σ Q ↔ aX d iX7_takeNumber 8 (ls) (st) σ Q := X_goto kX7_takeNumber_50 (by decide)
theorem kX7_takeNumber_53 : aCode iX7_takeNumber 53 = some (.iload_n 1, 1) := by decide +kernel
theorem sX7_takeNumber_53 {d : Nat} {σ : aS} {Q : aQ} {l0 : Option Value} {x : Int32} {lt : aL} {st : List Value} : aX d iX7_takeNumber 53 (l0 :: some (.int x) :: lt) (st) σ Q ↔ aX d iX7_takeNumber 54 (l0 :: some (.int x) :: lt) (.int x :: st) σ Q := X_iloadn kX7_takeNumber_53 rfl
theorem kX7_takeNumber_54 : aCode iX7_takeNumber 54 = some (.ireturn, 1) := by decide +kernel
theorem sX7_takeNumber_54 {d : Nat} {σ : aS} {Q : aQ} {v : Int32} {ls : aL} : aX d iX7_takeNumber 54 (ls) ([.int v]) σ Q ↔ Q (some (.int v)) σ := X_iret kX7_takeNumber_54 (by decide +kernel)
theorem kX7_readsOrder_0 : aCode iX7_readsOrder 0 = some (.aload_n 0, 1) := by decide +kernel
theorem sX7_readsOrder_0 {d : Nat} {σ : aS} {Q : aQ} {x : Nat} {lt : aL} {st : List Value} : aX d iX7_readsOrder 0 (some (.ref x) :: lt) (st) σ Q ↔ aX d iX7_readsOrder 1 (some (.ref x) :: lt) (.ref x :: st) σ Q := X_aloadn kX7_readsOrder_0 rfl rfl
theorem kX7_readsOrder_1 : aCode iX7_readsOrder 1 = some (.aload_n 0, 1) := by decide +kernel
theorem sX7_readsOrder_1 {d : Nat} {σ : aS} {Q : aQ} {x : Nat} {lt : aL} {st : List Value} : aX d iX7_readsOrder 1 (some (.ref x) :: lt) (st) σ Q ↔ aX d iX7_readsOrder 2 (some (.ref x) :: lt) (.ref x :: st) σ Q := X_aloadn kX7_readsOrder_1 rfl rfl
theorem kX7_readsOrder_2 : aCode iX7_readsOrder 2 = some (.aload_n 0, 1) := by decide +kernel
theorem sX7_readsOrder_2 {d : Nat} {σ : aS} {Q : aQ} {x : Nat} {lt : aL} {st : List Value} : aX d iX7_readsOrder 2 (some (.ref x) :: lt) (st) σ Q ↔ aX d iX7_readsOrder 3 (some (.ref x) :: lt) (.ref x :: st) σ Q := X_aloadn kX7_readsOrder_2 rfl rfl
theorem kX7_readsOrder_3 : aCode iX7_readsOrder 3 = some (.getfield 171, 3) := by decide +kernel
theorem sX7_readsOrder_3 {d : Nat} {σ : aS} {Q : aQ} {a : Nat} {ls : aL} {st : List Value} : aX d iX7_readsOrder 3 (ls) (.ref a :: st) σ Q ↔ ∃ v, aFld σ a 7 8 = some v ∧ aX d iX7_readsOrder 6 (ls) (v :: st) σ Q := X_getf (w := 658) kX7_readsOrder_3 (by decide +kernel)
theorem kX7_readsOrder_6 : aCode iX7_readsOrder 6 = some (.invokevirtual 174, 3) := by decide +kernel
theorem sX7_readsOrder_6 {d : Nat} {σ : aS} {Q : aQ} {b : Nat} {p0 : Int32} {v0 : Value} {ls : aL} : aX (d + 1) iX7_readsOrder 6 (ls) (.int p0 :: .ref b :: v0 :: []) σ Q ↔ aIs σ b 7 ∧ aX d iX7_character 0 [some (.ref b), some (.int p0)] [] σ (fun r τ => aX (d + 1) iX7_readsOrder 9 (ls) (aret r (v0 :: [])) τ Q) := X_invv (N := 1) (As := [.int p0]) (w := 931) kX7_readsOrder_6 (by decide +kernel) (by decide +kernel) rfl rfl (by simp only [List.length_cons, List.length_nil]; omega) (by simp only [List.length_cons, List.length_nil]; omega) (by decide +kernel) rfl (Nat.le_of_ble_eq_true rfl)
theorem kX7_readsOrder_9 : aCode iX7_readsOrder 9 = some (.putfield 180, 3) := by decide +kernel
theorem sX7_readsOrder_9 {d : Nat} {σ : aS} {Q : aQ} {x : Int32} {a : Nat} {ls : aL} {st : List Value} : aX d iX7_readsOrder 9 (ls) (.int x :: .ref a :: st) σ Q ↔ ∃ fs, aFds σ a 7 = some fs ∧ 9 < fs.length ∧ aX d iX7_readsOrder 12 (ls) (st) (aput σ a (eO 7 (fs.set 9 (.int x)))) Q := X_putf (w := 659) kX7_readsOrder_9 (by decide +kernel) (aFit_I (by decide +kernel)) (by decide +kernel)
theorem kX7_readsOrder_12 : aCode iX7_readsOrder 12 = some (.aload_n 0, 1) := by decide +kernel
theorem sX7_readsOrder_12 {d : Nat} {σ : aS} {Q : aQ} {x : Nat} {lt : aL} {st : List Value} : aX d iX7_readsOrder 12 (some (.ref x) :: lt) (st) σ Q ↔ aX d iX7_readsOrder 13 (some (.ref x) :: lt) (.ref x :: st) σ Q := X_aloadn kX7_readsOrder_12 rfl rfl
theorem kX7_readsOrder_13 : aCode iX7_readsOrder 13 = some (.dup, 1) := by decide +kernel
theorem sX7_readsOrder_13 {d : Nat} {σ : aS} {Q : aQ} {x : Nat} {ls : aL} {st : List Value} : aX d iX7_readsOrder 13 (ls) (.ref x :: st) σ Q ↔ aX d iX7_readsOrder 14 (ls) (.ref x :: .ref x :: st) σ Q := X_dup kX7_readsOrder_13 rfl
theorem sX7_readsOrder_13i {d : Nat} {σ : aS} {Q : aQ} {x : Int32} {ls : aL} {st : List Value} : aX d iX7_readsOrder 13 (ls) (.int x :: st) σ Q ↔ aX d iX7_readsOrder 14 (ls) (.int x :: .int x :: st) σ Q := X_dup kX7_readsOrder_13 rfl
theorem kX7_readsOrder_14 : aCode iX7_readsOrder 14 = some (.getfield 171, 3) := by decide +kernel
theorem sX7_readsOrder_14 {d : Nat} {σ : aS} {Q : aQ} {a : Nat} {ls : aL} {st : List Value} : aX d iX7_readsOrder 14 (ls) (.ref a :: st) σ Q ↔ ∃ v, aFld σ a 7 8 = some v ∧ aX d iX7_readsOrder 17 (ls) (v :: st) σ Q := X_getf (w := 658) kX7_readsOrder_14 (by decide +kernel)
theorem kX7_readsOrder_17 : aCode iX7_readsOrder 17 = some (.iconst 1, 1) := by decide +kernel
theorem sX7_readsOrder_17 {d : Nat} {σ : aS} {Q : aQ} {ls : aL} {st : List Value} : aX d iX7_readsOrder 17 (ls) (st) σ Q ↔ aX d iX7_readsOrder 18 (ls) (.int (nI 1) :: st) σ Q := X_iconst kX7_readsOrder_17 (by decide +kernel)
theorem kX7_readsOrder_18 : aCode iX7_readsOrder 18 = some (.iadd, 1) := by decide +kernel
theorem sX7_readsOrder_18 {d : Nat} {σ : aS} {Q : aQ} {x y : Int32} {ls : aL} {st : List Value} : aX d iX7_readsOrder 18 (ls) (.int y :: .int x :: st) σ Q ↔ aX d iX7_readsOrder 19 (ls) (.int (x + y) :: st) σ Q := X_iadd kX7_readsOrder_18
theorem kX7_readsOrder_19 : aCode iX7_readsOrder 19 = some (.putfield 171, 3) := by decide +kernel
theorem sX7_readsOrder_19 {d : Nat} {σ : aS} {Q : aQ} {x : Int32} {a : Nat} {ls : aL} {st : List Value} : aX d iX7_readsOrder 19 (ls) (.int x :: .ref a :: st) σ Q ↔ ∃ fs, aFds σ a 7 = some fs ∧ 8 < fs.length ∧ aX d iX7_readsOrder 22 (ls) (st) (aput σ a (eO 7 (fs.set 8 (.int x)))) Q := X_putf (w := 658) kX7_readsOrder_19 (by decide +kernel) (aFit_I (by decide +kernel)) (by decide +kernel)
theorem kX7_readsOrder_22 : aCode iX7_readsOrder 22 = some (.aload_n 0, 1) := by decide +kernel
theorem sX7_readsOrder_22 {d : Nat} {σ : aS} {Q : aQ} {x : Nat} {lt : aL} {st : List Value} : aX d iX7_readsOrder 22 (some (.ref x) :: lt) (st) σ Q ↔ aX d iX7_readsOrder 23 (some (.ref x) :: lt) (.ref x :: st) σ Q := X_aloadn kX7_readsOrder_22 rfl rfl
theorem kX7_readsOrder_23 : aCode iX7_readsOrder 23 = some (.getfield 180, 3) := by decide +kernel
theorem sX7_readsOrder_23 {d : Nat} {σ : aS} {Q : aQ} {a : Nat} {ls : aL} {st : List Value} : aX d iX7_readsOrder 23 (ls) (.ref a :: st) σ Q ↔ ∃ v, aFld σ a 7 9 = some v ∧ aX d iX7_readsOrder 26 (ls) (v :: st) σ Q := X_getf (w := 659) kX7_readsOrder_23 (by decide +kernel)
theorem kX7_readsOrder_26 : aCode iX7_readsOrder 26 = some (.lookupswitch 278 #[(43, 58), (45, 119), (98, 143), (99, 276), (114, 195), (116, 227)], 58) := by decide +kernel
theorem sX7_readsOrder_26_43 {d : Nat} {σ : aS} {Q : aQ} {ls : aL} {st : List Value} : aX d iX7_readsOrder 26 (ls) (.int (nI 43) :: st) σ Q ↔ aX d iX7_readsOrder 84 (ls) (st) σ Q := X_lsw kX7_readsOrder_26 (by decide +kernel) (by decide +kernel)
theorem sX7_readsOrder_26_45 {d : Nat} {σ : aS} {Q : aQ} {ls : aL} {st : List Value} : aX d iX7_readsOrder 26 (ls) (.int (nI 45) :: st) σ Q ↔ aX d iX7_readsOrder 145 (ls) (st) σ Q := X_lsw kX7_readsOrder_26 (by decide +kernel) (by decide +kernel)
theorem sX7_readsOrder_26_98 {d : Nat} {σ : aS} {Q : aQ} {ls : aL} {st : List Value} : aX d iX7_readsOrder 26 (ls) (.int (nI 98) :: st) σ Q ↔ aX d iX7_readsOrder 169 (ls) (st) σ Q := X_lsw kX7_readsOrder_26 (by decide +kernel) (by decide +kernel)
theorem sX7_readsOrder_26_99 {d : Nat} {σ : aS} {Q : aQ} {ls : aL} {st : List Value} : aX d iX7_readsOrder 26 (ls) (.int (nI 99) :: st) σ Q ↔ aX d iX7_readsOrder 302 (ls) (st) σ Q := X_lsw kX7_readsOrder_26 (by decide +kernel) (by decide +kernel)
theorem sX7_readsOrder_26_114 {d : Nat} {σ : aS} {Q : aQ} {ls : aL} {st : List Value} : aX d iX7_readsOrder 26 (ls) (.int (nI 114) :: st) σ Q ↔ aX d iX7_readsOrder 221 (ls) (st) σ Q := X_lsw kX7_readsOrder_26 (by decide +kernel) (by decide +kernel)
theorem sX7_readsOrder_26_116 {d : Nat} {σ : aS} {Q : aQ} {ls : aL} {st : List Value} : aX d iX7_readsOrder 26 (ls) (.int (nI 116) :: st) σ Q ↔ aX d iX7_readsOrder 253 (ls) (st) σ Q := X_lsw kX7_readsOrder_26 (by decide +kernel) (by decide +kernel)
theorem sX7_readsOrder_26_d {d : Nat} {σ : aS} {Q : aQ} {x : Int32} {ls : aL} {st : List Value} (h0 : ¬ x = nI 43) (h1 : ¬ x = nI 45) (h2 : ¬ x = nI 98) (h3 : ¬ x = nI 99) (h4 : ¬ x = nI 114) (h5 : ¬ x = nI 116) : aX d iX7_readsOrder 26 (ls) (.int x :: st) σ Q ↔ aX d iX7_readsOrder 304 (ls) (st) σ Q := by
  have g0 : ¬ (43 : Int) = x.toInt := fun z => h0 (Int32.toInt_inj.mp (z.symm.trans (by decide +kernel)))
  have g1 : ¬ (45 : Int) = x.toInt := fun z => h1 (Int32.toInt_inj.mp (z.symm.trans (by decide +kernel)))
  have g2 : ¬ (98 : Int) = x.toInt := fun z => h2 (Int32.toInt_inj.mp (z.symm.trans (by decide +kernel)))
  have g3 : ¬ (99 : Int) = x.toInt := fun z => h3 (Int32.toInt_inj.mp (z.symm.trans (by decide +kernel)))
  have g4 : ¬ (114 : Int) = x.toInt := fun z => h4 (Int32.toInt_inj.mp (z.symm.trans (by decide +kernel)))
  have g5 : ¬ (116 : Int) = x.toInt := fun z => h5 (Int32.toInt_inj.mp (z.symm.trans (by decide +kernel)))
  refine X_lsw kX7_readsOrder_26 (by decide +kernel) ?_
  simp only [Op.lookupswitch.offset_cons, g0, g1, g2, g3, g4, g5, if_false]
  rfl
theorem kX7_readsOrder_84 : aCode iX7_readsOrder 84 = some (.aload_n 0, 1) := by decide +kernel
theorem sX7_readsOrder_84 {d : Nat} {σ : aS} {Q : aQ} {x : Nat} {lt : aL} {st : List Value} : aX d iX7_readsOrder 84 (some (.ref x) :: lt) (st) σ Q ↔ aX d iX7_readsOrder 85 (some (.ref x) :: lt) (.ref x :: st) σ Q := X_aloadn kX7_readsOrder_84 rfl rfl
theorem kX7_readsOrder_85 : aCode iX7_readsOrder 85 = some (.aload_n 0, 1) := by decide +kernel
theorem sX7_readsOrder_85 {d : Nat} {σ : aS} {Q : aQ} {x : Nat} {lt : aL} {st : List Value} : aX d iX7_readsOrder 85 (some (.ref x) :: lt) (st) σ Q ↔ aX d iX7_readsOrder 86 (some (.ref x) :: lt) (.ref x :: st) σ Q := X_aloadn kX7_readsOrder_85 rfl rfl
theorem kX7_readsOrder_86 : aCode iX7_readsOrder 86 = some (.iconst 0, 1) := by decide +kernel
theorem sX7_readsOrder_86 {d : Nat} {σ : aS} {Q : aQ} {ls : aL} {st : List Value} : aX d iX7_readsOrder 86 (ls) (st) σ Q ↔ aX d iX7_readsOrder 87 (ls) (.int (nI 0) :: st) σ Q := X_iconst kX7_readsOrder_86 (by decide +kernel)
theorem kX7_readsOrder_87 : aCode iX7_readsOrder 87 = some (.bipush 7, 2) := by decide +kernel
theorem sX7_readsOrder_87 {d : Nat} {σ : aS} {Q : aQ} {ls : aL} {st : List Value} : aX d iX7_readsOrder 87 (ls) (st) σ Q ↔ aX d iX7_readsOrder 89 (ls) (.int (nI 7) :: st) σ Q := X_bipush kX7_readsOrder_87 (by decide +kernel)
theorem kX7_readsOrder_89 : aCode iX7_readsOrder 89 = some (.invokevirtual 177, 3) := by decide +kernel
theorem sX7_readsOrder_89 {d : Nat} {σ : aS} {Q : aQ} {b : Nat} {p0 : Int32} {p1 : Int32} {v0 : Value} {ls : aL} : aX (d + 1) iX7_readsOrder 89 (ls) (.int p1 :: .int p0 :: .ref b :: v0 :: []) σ Q ↔ aIs σ b 7 ∧ aX d iX7_takeDigit 0 [some (.ref b), some (.int p0), some (.int p1), none] [] σ (fun r τ => aX (d + 1) iX7_readsOrder 92 (ls) (aret r (v0 :: [])) τ Q) := X_invv (N := 2) (As := [.int p1, .int p0]) (w := 935) kX7_readsOrder_89 (by decide +kernel) (by decide +kernel) rfl rfl (by simp only [List.length_cons, List.length_nil]; omega) (by simp only [List.length_cons, List.length_nil]; omega) (by decide +kernel) rfl (Nat.le_of_ble_eq_true rfl)
theorem kX7_readsOrder_92 : aCode iX7_readsOrder 92 = some (.putfield 183, 3) := by decide +kernel
theorem sX7_readsOrder_92 {d : Nat} {σ : aS} {Q : aQ} {x : Int32} {a : Nat} {ls : aL} {st : List Value} : aX d iX7_readsOrder 92 (ls) (.int x :: .ref a :: st) σ Q ↔ ∃ fs, aFds σ a 7 = some fs ∧ 10 < fs.length ∧ aX d iX7_readsOrder 95 (ls) (st) (aput σ a (eO 7 (fs.set 10 (.int x)))) Q := X_putf (w := 660) kX7_readsOrder_92 (by decide +kernel) (aFit_I (by decide +kernel)) (by decide +kernel)
theorem kX7_readsOrder_95 : aCode iX7_readsOrder 95 = some (.aload_n 0, 1) := by decide +kernel
theorem sX7_readsOrder_95 {d : Nat} {σ : aS} {Q : aQ} {x : Nat} {lt : aL} {st : List Value} : aX d iX7_readsOrder 95 (some (.ref x) :: lt) (st) σ Q ↔ aX d iX7_readsOrder 96 (some (.ref x) :: lt) (.ref x :: st) σ Q := X_aloadn kX7_readsOrder_95 rfl rfl
theorem kX7_readsOrder_96 : aCode iX7_readsOrder 96 = some (.aload_n 0, 1) := by decide +kernel
theorem sX7_readsOrder_96 {d : Nat} {σ : aS} {Q : aQ} {x : Nat} {lt : aL} {st : List Value} : aX d iX7_readsOrder 96 (some (.ref x) :: lt) (st) σ Q ↔ aX d iX7_readsOrder 97 (some (.ref x) :: lt) (.ref x :: st) σ Q := X_aloadn kX7_readsOrder_96 rfl rfl
theorem kX7_readsOrder_97 : aCode iX7_readsOrder 97 = some (.getfield 183, 3) := by decide +kernel
theorem sX7_readsOrder_97 {d : Nat} {σ : aS} {Q : aQ} {a : Nat} {ls : aL} {st : List Value} : aX d iX7_readsOrder 97 (ls) (.ref a :: st) σ Q ↔ ∃ v, aFld σ a 7 10 = some v ∧ aX d iX7_readsOrder 100 (ls) (v :: st) σ Q := X_getf (w := 660) kX7_readsOrder_97 (by decide +kernel)
theorem kX7_readsOrder_100 : aCode iX7_readsOrder 100 = some (.ifCond .lt 19, 3) := by decide +kernel
theorem sX7_readsOrder_100 {d : Nat} {σ : aS} {Q : aQ} {x : Int32} {ls : aL} {st : List Value} : aX d iX7_readsOrder 100 (ls) (.int x :: st) σ Q ↔ (if x < nI 0 then aX d iX7_readsOrder 119 (ls) (st) σ Q else aX d iX7_readsOrder 103 (ls) (st) σ Q) := by rw [X_if kX7_readsOrder_100 (t := 119) (by decide)]; simp only [aCmp_lt]
theorem kX7_readsOrder_103 : aCode iX7_readsOrder 103 = some (.aload_n 0, 1) := by decide +kernel
theorem sX7_readsOrder_103 {d : Nat} {σ : aS} {Q : aQ} {x : Nat} {lt : aL} {st : List Value} : aX d iX7_readsOrder 103 (some (.ref x) :: lt) (st) σ Q ↔ aX d iX7_readsOrder 104 (some (.ref x) :: lt) (.ref x :: st) σ Q := X_aloadn kX7_readsOrder_103 rfl rfl
theorem kX7_readsOrder_104 : aCode iX7_readsOrder 104 = some (.bipush 61, 2) := by decide +kernel
theorem sX7_readsOrder_104 {d : Nat} {σ : aS} {Q : aQ} {ls : aL} {st : List Value} : aX d iX7_readsOrder 104 (ls) (st) σ Q ↔ aX d iX7_readsOrder 106 (ls) (.int (nI 61) :: st) σ Q := X_bipush kX7_readsOrder_104 (by decide +kernel)
theorem kX7_readsOrder_106 : aCode iX7_readsOrder 106 = some (.invokevirtual 186, 3) := by decide +kernel
theorem sX7_readsOrder_106 {d : Nat} {σ : aS} {Q : aQ} {b : Nat} {p0 : Int32} {v0 : Value} {ls : aL} : aX (d + 1) iX7_readsOrder 106 (ls) (.int p0 :: .ref b :: v0 :: []) σ Q ↔ aIs σ b 7 ∧ aX d iX7_isNext 0 [some (.ref b), some (.int p0), none] [] σ (fun r τ => aX (d + 1) iX7_readsOrder 109 (ls) (aret r (v0 :: [])) τ Q) := X_invv (N := 1) (As := [.int p0]) (w := 939) kX7_readsOrder_106 (by decide +kernel) (by decide +kernel) rfl rfl (by simp only [List.length_cons, List.length_nil]; omega) (by simp only [List.length_cons, List.length_nil]; omega) (by decide +kernel) rfl (Nat.le_of_ble_eq_true rfl)
theorem kX7_readsOrder_109 : aCode iX7_readsOrder 109 = some (.ifCond .eq 10, 3) := by decide +kernel
theorem sX7_readsOrder_109 {d : Nat} {σ : aS} {Q : aQ} {x : Int32} {ls : aL} {st : List Value} : aX d iX7_readsOrder 109 (ls) (.int x :: st) σ Q ↔ (if x = nI 0 then aX d iX7_readsOrder 119 (ls) (st) σ Q else aX d iX7_readsOrder 112 (ls) (st) σ Q) := by rw [X_if kX7_readsOrder_109 (t := 119) (by decide)]; simp only [aCmp_eq]
theorem kX7_readsOrder_112 : aCode iX7_readsOrder 112 = some (.aload_n 0, 1) := by decide +kernel
theorem sX7_readsOrder_112 {d : Nat} {σ : aS} {Q : aQ} {x : Nat} {lt : aL} {st : List Value} : aX d iX7_readsOrder 112 (some (.ref x) :: lt) (st) σ Q ↔ aX d iX7_readsOrder 113 (some (.ref x) :: lt) (.ref x :: st) σ Q := X_aloadn kX7_readsOrder_112 rfl rfl
theorem kX7_readsOrder_113 : aCode iX7_readsOrder 113 = some (.invokevirtual 189, 3) := by decide +kernel
theorem sX7_readsOrder_113 {d : Nat} {σ : aS} {Q : aQ} {b : Nat} {v0 : Value} {ls : aL} : aX (d + 1) iX7_readsOrder 113 (ls) (.ref b :: v0 :: []) σ Q ↔ aIs σ b 7 ∧ aX d iX7_takeNumber 0 [some (.ref b), none] [] σ (fun r τ => aX (d + 1) iX7_readsOrder 116 (ls) (aret r (v0 :: [])) τ Q) := X_invv (N := 0) (As := []) (w := 943) kX7_readsOrder_113 (by decide +kernel) (by decide +kernel) rfl rfl (by simp only [List.length_cons, List.length_nil]; omega) (by simp only [List.length_cons, List.length_nil]; omega) (by decide +kernel) rfl (Nat.le_of_ble_eq_true rfl)
theorem kX7_readsOrder_116 : aCode iX7_readsOrder 116 = some (.goto 5, 3) := by decide +kernel
theorem sX7_readsOrder_116 {d : Nat} {σ : aS} {Q : aQ} {ls : aL} {st : List Value} : aX d iX7_readsOrder 116 (ls) (st) σ Q ↔ aX d iX7_readsOrder 121 (ls) (st) σ Q := X_goto kX7_readsOrder_116 (by decide)
theorem kX7_readsOrder_119 : aCode iX7_readsOrder 119 = some (.bipush (-6), 2) := by decide +kernel
theorem sX7_readsOrder_119 {d : Nat} {σ : aS} {Q : aQ} {ls : aL} {st : List Value} : aX d iX7_readsOrder 119 (ls) (st) σ Q ↔ aX d iX7_readsOrder 121 (ls) (.int ((-6)) :: st) σ Q := X_bipush kX7_readsOrder_119 (by decide +kernel)
theorem kX7_readsOrder_121 : aCode iX7_readsOrder 121 = some (.putfield 192, 3) := by decide +kernel
theorem sX7_readsOrder_121 {d : Nat} {σ : aS} {Q : aQ} {x : Int32} {a : Nat} {ls : aL} {st : List Value} : aX d iX7_readsOrder 121 (ls) (.int x :: .ref a :: st) σ Q ↔ ∃ fs, aFds σ a 7 = some fs ∧ 11 < fs.length ∧ aX d iX7_readsOrder 124 (ls) (st) (aput σ a (eO 7 (fs.set 11 (.int x)))) Q := X_putf (w := 661) kX7_readsOrder_121 (by decide +kernel) (aFit_I (by decide +kernel)) (by decide +kernel)
theorem kX7_readsOrder_124 : aCode iX7_readsOrder 124 = some (.aload_n 0, 1) := by decide +kernel
theorem sX7_readsOrder_124 {d : Nat} {σ : aS} {Q : aQ} {x : Nat} {lt : aL} {st : List Value} : aX d iX7_readsOrder 124 (some (.ref x) :: lt) (st) σ Q ↔ aX d iX7_readsOrder 125 (some (.ref x) :: lt) (.ref x :: st) σ Q := X_aloadn kX7_readsOrder_124 rfl rfl
theorem kX7_readsOrder_125 : aCode iX7_readsOrder 125 = some (.getfield 183, 3) := by decide +kernel
theorem sX7_readsOrder_125 {d : Nat} {σ : aS} {Q : aQ} {a : Nat} {ls : aL} {st : List Value} : aX d iX7_readsOrder 125 (ls) (.ref a :: st) σ Q ↔ ∃ v, aFld σ a 7 10 = some v ∧ aX d iX7_readsOrder 128 (ls) (v :: st) σ Q := X_getf (w := 660) kX7_readsOrder_125 (by decide +kernel)
theorem kX7_readsOrder_128 : aCode iX7_readsOrder 128 = some (.ifCond .lt 15, 3) := by decide +kernel
theorem sX7_readsOrder_128 {d : Nat} {σ : aS} {Q : aQ} {x : Int32} {ls : aL} {st : List Value} : aX d iX7_readsOrder 128 (ls) (.int x :: st) σ Q ↔ (if x < nI 0 then aX d iX7_readsOrder 143 (ls) (st) σ Q else aX d iX7_readsOrder 131 (ls) (st) σ Q) := by rw [X_if kX7_readsOrder_128 (t := 143) (by decide)]; simp only [aCmp_lt]
theorem kX7_readsOrder_131 : aCode iX7_readsOrder 131 = some (.aload_n 0, 1) := by decide +kernel
theorem sX7_readsOrder_131 {d : Nat} {σ : aS} {Q : aQ} {x : Nat} {lt : aL} {st : List Value} : aX d iX7_readsOrder 131 (some (.ref x) :: lt) (st) σ Q ↔ aX d iX7_readsOrder 132 (some (.ref x) :: lt) (.ref x :: st) σ Q := X_aloadn kX7_readsOrder_131 rfl rfl
theorem kX7_readsOrder_132 : aCode iX7_readsOrder 132 = some (.getfield 192, 3) := by decide +kernel
theorem sX7_readsOrder_132 {d : Nat} {σ : aS} {Q : aQ} {a : Nat} {ls : aL} {st : List Value} : aX d iX7_readsOrder 132 (ls) (.ref a :: st) σ Q ↔ ∃ v, aFld σ a 7 11 = some v ∧ aX d iX7_readsOrder 135 (ls) (v :: st) σ Q := X_getf (w := 661) kX7_readsOrder_132 (by decide +kernel)
theorem kX7_readsOrder_135 : aCode iX7_readsOrder 135 = some (.iconst (-1), 1) := by decide +kernel
theorem sX7_readsOrder_135 {d : Nat} {σ : aS} {Q : aQ} {ls : aL} {st : List Value} : aX d iX7_readsOrder 135 (ls) (st) σ Q ↔ aX d iX7_readsOrder 136 (ls) (.int ((-1)) :: st) σ Q := X_iconst kX7_readsOrder_135 (by decide +kernel)
theorem kX7_readsOrder_136 : aCode iX7_readsOrder 136 = some (.if_icmp .eq 7, 3) := by decide +kernel
theorem sX7_readsOrder_136 {d : Nat} {σ : aS} {Q : aQ} {x y : Int32} {ls : aL} {st : List Value} : aX d iX7_readsOrder 136 (ls) (.int y :: .int x :: st) σ Q ↔ (if x = y then aX d iX7_readsOrder 143 (ls) (st) σ Q else aX d iX7_readsOrder 139 (ls) (st) σ Q) := by rw [X_icmp kX7_readsOrder_136 (t := 143) (by decide)]; simp only [aCmp_eq]
theorem kX7_readsOrder_139 : aCode iX7_readsOrder 139 = some (.iconst 1, 1) := by decide +kernel
theorem sX7_readsOrder_139 {d : Nat} {σ : aS} {Q : aQ} {ls : aL} {st : List Value} : aX d iX7_readsOrder 139 (ls) (st) σ Q ↔ aX d iX7_readsOrder 140 (ls) (.int (nI 1) :: st) σ Q := X_iconst kX7_readsOrder_139 (by decide +kernel)
theorem kX7_readsOrder_140 : aCode iX7_readsOrder 140 = some (.goto 4, 3) := by decide +kernel
theorem sX7_readsOrder_140 {d : Nat} {σ : aS} {Q : aQ} {ls : aL} {st : List Value} : aX d iX7_readsOrder 140 (ls) (st) σ Q ↔ aX d iX7_readsOrder 144 (ls) (st) σ Q := X_goto kX7_readsOrder_140 (by decide)
theorem kX7_readsOrder_143 : aCode iX7_readsOrder 143 = some (.iconst 0, 1) := by decide +kernel
theorem sX7_readsOrder_143 {d : Nat} {σ : aS} {Q : aQ} {ls : aL} {st : List Value} : aX d iX7_readsOrder 143 (ls) (st) σ Q ↔ aX d iX7_readsOrder 144 (ls) (.int (nI 0) :: st) σ Q := X_iconst kX7_readsOrder_143 (by decide +kernel)
theorem kX7_readsOrder_144 : aCode iX7_readsOrder 144 = some (.ireturn, 1) := by decide +kernel
theorem sX7_readsOrder_144 {d : Nat} {σ : aS} {Q : aQ} {v : Int32} {ls : aL} : aX d iX7_readsOrder 144 (ls) ([.int v]) σ Q ↔ (narrow .boolean (.int v) = .int v ∧ Q (some (.int v)) σ) := X_zret kX7_readsOrder_144 (by decide +kernel)
theorem kX7_readsOrder_145 : aCode iX7_readsOrder 145 = some (.aload_n 0, 1) := by decide +kernel
theorem sX7_readsOrder_145 {d : Nat} {σ : aS} {Q : aQ} {x : Nat} {lt : aL} {st : List Value} : aX d iX7_readsOrder 145 (some (.ref x) :: lt) (st) σ Q ↔ aX d iX7_readsOrder 146 (some (.ref x) :: lt) (.ref x :: st) σ Q := X_aloadn kX7_readsOrder_145 rfl rfl
theorem kX7_readsOrder_146 : aCode iX7_readsOrder 146 = some (.aload_n 0, 1) := by decide +kernel
theorem sX7_readsOrder_146 {d : Nat} {σ : aS} {Q : aQ} {x : Nat} {lt : aL} {st : List Value} : aX d iX7_readsOrder 146 (some (.ref x) :: lt) (st) σ Q ↔ aX d iX7_readsOrder 147 (some (.ref x) :: lt) (.ref x :: st) σ Q := X_aloadn kX7_readsOrder_146 rfl rfl
theorem kX7_readsOrder_147 : aCode iX7_readsOrder 147 = some (.iconst 0, 1) := by decide +kernel
theorem sX7_readsOrder_147 {d : Nat} {σ : aS} {Q : aQ} {ls : aL} {st : List Value} : aX d iX7_readsOrder 147 (ls) (st) σ Q ↔ aX d iX7_readsOrder 148 (ls) (.int (nI 0) :: st) σ Q := X_iconst kX7_readsOrder_147 (by decide +kernel)
theorem kX7_readsOrder_148 : aCode iX7_readsOrder 148 = some (.bipush 7, 2) := by decide +kernel
theorem sX7_readsOrder_148 {d : Nat} {σ : aS} {Q : aQ} {ls : aL} {st : List Value} : aX d iX7_readsOrder 148 (ls) (st) σ Q ↔ aX d iX7_readsOrder 150 (ls) (.int (nI 7) :: st) σ Q := X_bipush kX7_readsOrder_148 (by decide +kernel)
theorem kX7_readsOrder_150 : aCode iX7_readsOrder 150 = some (.invokevirtual 177, 3) := by decide +kernel
theorem sX7_readsOrder_150 {d : Nat} {σ : aS} {Q : aQ} {b : Nat} {p0 : Int32} {p1 : Int32} {v0 : Value} {ls : aL} : aX (d + 1) iX7_readsOrder 150 (ls) (.int p1 :: .int p0 :: .ref b :: v0 :: []) σ Q ↔ aIs σ b 7 ∧ aX d iX7_takeDigit 0 [some (.ref b), some (.int p0), some (.int p1), none] [] σ (fun r τ => aX (d + 1) iX7_readsOrder 153 (ls) (aret r (v0 :: [])) τ Q) := X_invv (N := 2) (As := [.int p1, .int p0]) (w := 935) kX7_readsOrder_150 (by decide +kernel) (by decide +kernel) rfl rfl (by simp only [List.length_cons, List.length_nil]; omega) (by simp only [List.length_cons, List.length_nil]; omega) (by decide +kernel) rfl (Nat.le_of_ble_eq_true rfl)
theorem kX7_readsOrder_153 : aCode iX7_readsOrder 153 = some (.putfield 183, 3) := by decide +kernel
theorem sX7_readsOrder_153 {d : Nat} {σ : aS} {Q : aQ} {x : Int32} {a : Nat} {ls : aL} {st : List Value} : aX d iX7_readsOrder 153 (ls) (.int x :: .ref a :: st) σ Q ↔ ∃ fs, aFds σ a 7 = some fs ∧ 10 < fs.length ∧ aX d iX7_readsOrder 156 (ls) (st) (aput σ a (eO 7 (fs.set 10 (.int x)))) Q := X_putf (w := 660) kX7_readsOrder_153 (by decide +kernel) (aFit_I (by decide +kernel)) (by decide +kernel)
theorem kX7_readsOrder_156 : aCode iX7_readsOrder 156 = some (.aload_n 0, 1) := by decide +kernel
theorem sX7_readsOrder_156 {d : Nat} {σ : aS} {Q : aQ} {x : Nat} {lt : aL} {st : List Value} : aX d iX7_readsOrder 156 (some (.ref x) :: lt) (st) σ Q ↔ aX d iX7_readsOrder 157 (some (.ref x) :: lt) (.ref x :: st) σ Q := X_aloadn kX7_readsOrder_156 rfl rfl
theorem kX7_readsOrder_157 : aCode iX7_readsOrder 157 = some (.getfield 183, 3) := by decide +kernel
theorem sX7_readsOrder_157 {d : Nat} {σ : aS} {Q : aQ} {a : Nat} {ls : aL} {st : List Value} : aX d iX7_readsOrder 157 (ls) (.ref a :: st) σ Q ↔ ∃ v, aFld σ a 7 10 = some v ∧ aX d iX7_readsOrder 160 (ls) (v :: st) σ Q := X_getf (w := 660) kX7_readsOrder_157 (by decide +kernel)
theorem kX7_readsOrder_160 : aCode iX7_readsOrder 160 = some (.ifCond .lt 7, 3) := by decide +kernel
theorem sX7_readsOrder_160 {d : Nat} {σ : aS} {Q : aQ} {x : Int32} {ls : aL} {st : List Value} : aX d iX7_readsOrder 160 (ls) (.int x :: st) σ Q ↔ (if x < nI 0 then aX d iX7_readsOrder 167 (ls) (st) σ Q else aX d iX7_readsOrder 163 (ls) (st) σ Q) := by rw [X_if kX7_readsOrder_160 (t := 167) (by decide)]; simp only [aCmp_lt]
theorem kX7_readsOrder_163 : aCode iX7_readsOrder 163 = some (.iconst 1, 1) := by decide +kernel
theorem sX7_readsOrder_163 {d : Nat} {σ : aS} {Q : aQ} {ls : aL} {st : List Value} : aX d iX7_readsOrder 163 (ls) (st) σ Q ↔ aX d iX7_readsOrder 164 (ls) (.int (nI 1) :: st) σ Q := X_iconst kX7_readsOrder_163 (by decide +kernel)
theorem kX7_readsOrder_164 : aCode iX7_readsOrder 164 = some (.goto 4, 3) := by decide +kernel
theorem sX7_readsOrder_164 {d : Nat} {σ : aS} {Q : aQ} {ls : aL} {st : List Value} : aX d iX7_readsOrder 164 (ls) (st) σ Q ↔ aX d iX7_readsOrder 168 (ls) (st) σ Q := X_goto kX7_readsOrder_164 (by decide)
theorem kX7_readsOrder_167 : aCode iX7_readsOrder 167 = some (.iconst 0, 1) := by decide +kernel
theorem sX7_readsOrder_167 {d : Nat} {σ : aS} {Q : aQ} {ls : aL} {st : List Value} : aX d iX7_readsOrder 167 (ls) (st) σ Q ↔ aX d iX7_readsOrder 168 (ls) (.int (nI 0) :: st) σ Q := X_iconst kX7_readsOrder_167 (by decide +kernel)
theorem kX7_readsOrder_168 : aCode iX7_readsOrder 168 = some (.ireturn, 1) := by decide +kernel
theorem sX7_readsOrder_168 {d : Nat} {σ : aS} {Q : aQ} {v : Int32} {ls : aL} : aX d iX7_readsOrder 168 (ls) ([.int v]) σ Q ↔ (narrow .boolean (.int v) = .int v ∧ Q (some (.int v)) σ) := X_zret kX7_readsOrder_168 (by decide +kernel)
theorem kX7_readsOrder_169 : aCode iX7_readsOrder 169 = some (.aload_n 0, 1) := by decide +kernel
theorem sX7_readsOrder_169 {d : Nat} {σ : aS} {Q : aQ} {x : Nat} {lt : aL} {st : List Value} : aX d iX7_readsOrder 169 (some (.ref x) :: lt) (st) σ Q ↔ aX d iX7_readsOrder 170 (some (.ref x) :: lt) (.ref x :: st) σ Q := X_aloadn kX7_readsOrder_169 rfl rfl
theorem kX7_readsOrder_170 : aCode iX7_readsOrder 170 = some (.aload_n 0, 1) := by decide +kernel
theorem sX7_readsOrder_170 {d : Nat} {σ : aS} {Q : aQ} {x : Nat} {lt : aL} {st : List Value} : aX d iX7_readsOrder 170 (some (.ref x) :: lt) (st) σ Q ↔ aX d iX7_readsOrder 171 (some (.ref x) :: lt) (.ref x :: st) σ Q := X_aloadn kX7_readsOrder_170 rfl rfl
theorem kX7_readsOrder_171 : aCode iX7_readsOrder 171 = some (.iconst 0, 1) := by decide +kernel
theorem sX7_readsOrder_171 {d : Nat} {σ : aS} {Q : aQ} {ls : aL} {st : List Value} : aX d iX7_readsOrder 171 (ls) (st) σ Q ↔ aX d iX7_readsOrder 172 (ls) (.int (nI 0) :: st) σ Q := X_iconst kX7_readsOrder_171 (by decide +kernel)
theorem kX7_readsOrder_172 : aCode iX7_readsOrder 172 = some (.bipush 7, 2) := by decide +kernel
theorem sX7_readsOrder_172 {d : Nat} {σ : aS} {Q : aQ} {ls : aL} {st : List Value} : aX d iX7_readsOrder 172 (ls) (st) σ Q ↔ aX d iX7_readsOrder 174 (ls) (.int (nI 7) :: st) σ Q := X_bipush kX7_readsOrder_172 (by decide +kernel)
theorem kX7_readsOrder_174 : aCode iX7_readsOrder 174 = some (.invokevirtual 177, 3) := by decide +kernel
theorem sX7_readsOrder_174 {d : Nat} {σ : aS} {Q : aQ} {b : Nat} {p0 : Int32} {p1 : Int32} {v0 : Value} {ls : aL} : aX (d + 1) iX7_readsOrder 174 (ls) (.int p1 :: .int p0 :: .ref b :: v0 :: []) σ Q ↔ aIs σ b 7 ∧ aX d iX7_takeDigit 0 [some (.ref b), some (.int p0), some (.int p1), none] [] σ (fun r τ => aX (d + 1) iX7_readsOrder 177 (ls) (aret r (v0 :: [])) τ Q) := X_invv (N := 2) (As := [.int p1, .int p0]) (w := 935) kX7_readsOrder_174 (by decide +kernel) (by decide +kernel) rfl rfl (by simp only [List.length_cons, List.length_nil]; omega) (by simp only [List.length_cons, List.length_nil]; omega) (by decide +kernel) rfl (Nat.le_of_ble_eq_true rfl)
theorem kX7_readsOrder_177 : aCode iX7_readsOrder 177 = some (.putfield 183, 3) := by decide +kernel
theorem sX7_readsOrder_177 {d : Nat} {σ : aS} {Q : aQ} {x : Int32} {a : Nat} {ls : aL} {st : List Value} : aX d iX7_readsOrder 177 (ls) (.int x :: .ref a :: st) σ Q ↔ ∃ fs, aFds σ a 7 = some fs ∧ 10 < fs.length ∧ aX d iX7_readsOrder 180 (ls) (st) (aput σ a (eO 7 (fs.set 10 (.int x)))) Q := X_putf (w := 660) kX7_readsOrder_177 (by decide +kernel) (aFit_I (by decide +kernel)) (by decide +kernel)
theorem kX7_readsOrder_180 : aCode iX7_readsOrder 180 = some (.aload_n 0, 1) := by decide +kernel
theorem sX7_readsOrder_180 {d : Nat} {σ : aS} {Q : aQ} {x : Nat} {lt : aL} {st : List Value} : aX d iX7_readsOrder 180 (some (.ref x) :: lt) (st) σ Q ↔ aX d iX7_readsOrder 181 (some (.ref x) :: lt) (.ref x :: st) σ Q := X_aloadn kX7_readsOrder_180 rfl rfl
theorem kX7_readsOrder_181 : aCode iX7_readsOrder 181 = some (.aload_n 0, 1) := by decide +kernel
theorem sX7_readsOrder_181 {d : Nat} {σ : aS} {Q : aQ} {x : Nat} {lt : aL} {st : List Value} : aX d iX7_readsOrder 181 (some (.ref x) :: lt) (st) σ Q ↔ aX d iX7_readsOrder 182 (some (.ref x) :: lt) (.ref x :: st) σ Q := X_aloadn kX7_readsOrder_181 rfl rfl
theorem kX7_readsOrder_182 : aCode iX7_readsOrder 182 = some (.getfield 183, 3) := by decide +kernel
theorem sX7_readsOrder_182 {d : Nat} {σ : aS} {Q : aQ} {a : Nat} {ls : aL} {st : List Value} : aX d iX7_readsOrder 182 (ls) (.ref a :: st) σ Q ↔ ∃ v, aFld σ a 7 10 = some v ∧ aX d iX7_readsOrder 185 (ls) (v :: st) σ Q := X_getf (w := 660) kX7_readsOrder_182 (by decide +kernel)
theorem kX7_readsOrder_185 : aCode iX7_readsOrder 185 = some (.ifCond .lt 19, 3) := by decide +kernel
theorem sX7_readsOrder_185 {d : Nat} {σ : aS} {Q : aQ} {x : Int32} {ls : aL} {st : List Value} : aX d iX7_readsOrder 185 (ls) (.int x :: st) σ Q ↔ (if x < nI 0 then aX d iX7_readsOrder 204 (ls) (st) σ Q else aX d iX7_readsOrder 188 (ls) (st) σ Q) := by rw [X_if kX7_readsOrder_185 (t := 204) (by decide)]; simp only [aCmp_lt]
theorem kX7_readsOrder_188 : aCode iX7_readsOrder 188 = some (.aload_n 0, 1) := by decide +kernel
theorem sX7_readsOrder_188 {d : Nat} {σ : aS} {Q : aQ} {x : Nat} {lt : aL} {st : List Value} : aX d iX7_readsOrder 188 (some (.ref x) :: lt) (st) σ Q ↔ aX d iX7_readsOrder 189 (some (.ref x) :: lt) (.ref x :: st) σ Q := X_aloadn kX7_readsOrder_188 rfl rfl
theorem kX7_readsOrder_189 : aCode iX7_readsOrder 189 = some (.bipush 61, 2) := by decide +kernel
theorem sX7_readsOrder_189 {d : Nat} {σ : aS} {Q : aQ} {ls : aL} {st : List Value} : aX d iX7_readsOrder 189 (ls) (st) σ Q ↔ aX d iX7_readsOrder 191 (ls) (.int (nI 61) :: st) σ Q := X_bipush kX7_readsOrder_189 (by decide +kernel)
theorem kX7_readsOrder_191 : aCode iX7_readsOrder 191 = some (.invokevirtual 186, 3) := by decide +kernel
theorem sX7_readsOrder_191 {d : Nat} {σ : aS} {Q : aQ} {b : Nat} {p0 : Int32} {v0 : Value} {ls : aL} : aX (d + 1) iX7_readsOrder 191 (ls) (.int p0 :: .ref b :: v0 :: []) σ Q ↔ aIs σ b 7 ∧ aX d iX7_isNext 0 [some (.ref b), some (.int p0), none] [] σ (fun r τ => aX (d + 1) iX7_readsOrder 194 (ls) (aret r (v0 :: [])) τ Q) := X_invv (N := 1) (As := [.int p0]) (w := 939) kX7_readsOrder_191 (by decide +kernel) (by decide +kernel) rfl rfl (by simp only [List.length_cons, List.length_nil]; omega) (by simp only [List.length_cons, List.length_nil]; omega) (by decide +kernel) rfl (Nat.le_of_ble_eq_true rfl)
theorem kX7_readsOrder_194 : aCode iX7_readsOrder 194 = some (.ifCond .eq 10, 3) := by decide +kernel
theorem sX7_readsOrder_194 {d : Nat} {σ : aS} {Q : aQ} {x : Int32} {ls : aL} {st : List Value} : aX d iX7_readsOrder 194 (ls) (.int x :: st) σ Q ↔ (if x = nI 0 then aX d iX7_readsOrder 204 (ls) (st) σ Q else aX d iX7_readsOrder 197 (ls) (st) σ Q) := by rw [X_if kX7_readsOrder_194 (t := 204) (by decide)]; simp only [aCmp_eq]
theorem kX7_readsOrder_197 : aCode iX7_readsOrder 197 = some (.aload_n 0, 1) := by decide +kernel
theorem sX7_readsOrder_197 {d : Nat} {σ : aS} {Q : aQ} {x : Nat} {lt : aL} {st : List Value} : aX d iX7_readsOrder 197 (some (.ref x) :: lt) (st) σ Q ↔ aX d iX7_readsOrder 198 (some (.ref x) :: lt) (.ref x :: st) σ Q := X_aloadn kX7_readsOrder_197 rfl rfl
theorem kX7_readsOrder_198 : aCode iX7_readsOrder 198 = some (.invokevirtual 189, 3) := by decide +kernel
theorem sX7_readsOrder_198 {d : Nat} {σ : aS} {Q : aQ} {b : Nat} {v0 : Value} {ls : aL} : aX (d + 1) iX7_readsOrder 198 (ls) (.ref b :: v0 :: []) σ Q ↔ aIs σ b 7 ∧ aX d iX7_takeNumber 0 [some (.ref b), none] [] σ (fun r τ => aX (d + 1) iX7_readsOrder 201 (ls) (aret r (v0 :: [])) τ Q) := X_invv (N := 0) (As := []) (w := 943) kX7_readsOrder_198 (by decide +kernel) (by decide +kernel) rfl rfl (by simp only [List.length_cons, List.length_nil]; omega) (by simp only [List.length_cons, List.length_nil]; omega) (by decide +kernel) rfl (Nat.le_of_ble_eq_true rfl)
theorem kX7_readsOrder_201 : aCode iX7_readsOrder 201 = some (.goto 4, 3) := by decide +kernel
theorem sX7_readsOrder_201 {d : Nat} {σ : aS} {Q : aQ} {ls : aL} {st : List Value} : aX d iX7_readsOrder 201 (ls) (st) σ Q ↔ aX d iX7_readsOrder 205 (ls) (st) σ Q := X_goto kX7_readsOrder_201 (by decide)
theorem kX7_readsOrder_204 : aCode iX7_readsOrder 204 = some (.iconst (-1), 1) := by decide +kernel
theorem sX7_readsOrder_204 {d : Nat} {σ : aS} {Q : aQ} {ls : aL} {st : List Value} : aX d iX7_readsOrder 204 (ls) (st) σ Q ↔ aX d iX7_readsOrder 205 (ls) (.int ((-1)) :: st) σ Q := X_iconst kX7_readsOrder_204 (by decide +kernel)
theorem kX7_readsOrder_205 : aCode iX7_readsOrder 205 = some (.putfield 192, 3) := by decide +kernel
theorem sX7_readsOrder_205 {d : Nat} {σ : aS} {Q : aQ} {x : Int32} {a : Nat} {ls : aL} {st : List Value} : aX d iX7_readsOrder 205 (ls) (.int x :: .ref a :: st) σ Q ↔ ∃ fs, aFds σ a 7 = some fs ∧ 11 < fs.length ∧ aX d iX7_readsOrder 208 (ls) (st) (aput σ a (eO 7 (fs.set 11 (.int x)))) Q := X_putf (w := 661) kX7_readsOrder_205 (by decide +kernel) (aFit_I (by decide +kernel)) (by decide +kernel)
theorem kX7_readsOrder_208 : aCode iX7_readsOrder 208 = some (.aload_n 0, 1) := by decide +kernel
theorem sX7_readsOrder_208 {d : Nat} {σ : aS} {Q : aQ} {x : Nat} {lt : aL} {st : List Value} : aX d iX7_readsOrder 208 (some (.ref x) :: lt) (st) σ Q ↔ aX d iX7_readsOrder 209 (some (.ref x) :: lt) (.ref x :: st) σ Q := X_aloadn kX7_readsOrder_208 rfl rfl
theorem kX7_readsOrder_209 : aCode iX7_readsOrder 209 = some (.getfield 192, 3) := by decide +kernel
theorem sX7_readsOrder_209 {d : Nat} {σ : aS} {Q : aQ} {a : Nat} {ls : aL} {st : List Value} : aX d iX7_readsOrder 209 (ls) (.ref a :: st) σ Q ↔ ∃ v, aFld σ a 7 11 = some v ∧ aX d iX7_readsOrder 212 (ls) (v :: st) σ Q := X_getf (w := 661) kX7_readsOrder_209 (by decide +kernel)
theorem kX7_readsOrder_212 : aCode iX7_readsOrder 212 = some (.ifCond .lt 7, 3) := by decide +kernel
theorem sX7_readsOrder_212 {d : Nat} {σ : aS} {Q : aQ} {x : Int32} {ls : aL} {st : List Value} : aX d iX7_readsOrder 212 (ls) (.int x :: st) σ Q ↔ (if x < nI 0 then aX d iX7_readsOrder 219 (ls) (st) σ Q else aX d iX7_readsOrder 215 (ls) (st) σ Q) := by rw [X_if kX7_readsOrder_212 (t := 219) (by decide)]; simp only [aCmp_lt]
theorem kX7_readsOrder_215 : aCode iX7_readsOrder 215 = some (.iconst 1, 1) := by decide +kernel
theorem sX7_readsOrder_215 {d : Nat} {σ : aS} {Q : aQ} {ls : aL} {st : List Value} : aX d iX7_readsOrder 215 (ls) (st) σ Q ↔ aX d iX7_readsOrder 216 (ls) (.int (nI 1) :: st) σ Q := X_iconst kX7_readsOrder_215 (by decide +kernel)
theorem kX7_readsOrder_216 : aCode iX7_readsOrder 216 = some (.goto 4, 3) := by decide +kernel
theorem sX7_readsOrder_216 {d : Nat} {σ : aS} {Q : aQ} {ls : aL} {st : List Value} : aX d iX7_readsOrder 216 (ls) (st) σ Q ↔ aX d iX7_readsOrder 220 (ls) (st) σ Q := X_goto kX7_readsOrder_216 (by decide)
theorem kX7_readsOrder_219 : aCode iX7_readsOrder 219 = some (.iconst 0, 1) := by decide +kernel
theorem sX7_readsOrder_219 {d : Nat} {σ : aS} {Q : aQ} {ls : aL} {st : List Value} : aX d iX7_readsOrder 219 (ls) (st) σ Q ↔ aX d iX7_readsOrder 220 (ls) (.int (nI 0) :: st) σ Q := X_iconst kX7_readsOrder_219 (by decide +kernel)
theorem kX7_readsOrder_220 : aCode iX7_readsOrder 220 = some (.ireturn, 1) := by decide +kernel
theorem sX7_readsOrder_220 {d : Nat} {σ : aS} {Q : aQ} {v : Int32} {ls : aL} : aX d iX7_readsOrder 220 (ls) ([.int v]) σ Q ↔ (narrow .boolean (.int v) = .int v ∧ Q (some (.int v)) σ) := X_zret kX7_readsOrder_220 (by decide +kernel)
theorem kX7_readsOrder_221 : aCode iX7_readsOrder 221 = some (.aload_n 0, 1) := by decide +kernel
theorem sX7_readsOrder_221 {d : Nat} {σ : aS} {Q : aQ} {x : Nat} {lt : aL} {st : List Value} : aX d iX7_readsOrder 221 (some (.ref x) :: lt) (st) σ Q ↔ aX d iX7_readsOrder 222 (some (.ref x) :: lt) (.ref x :: st) σ Q := X_aloadn kX7_readsOrder_221 rfl rfl
theorem kX7_readsOrder_222 : aCode iX7_readsOrder 222 = some (.aload_n 0, 1) := by decide +kernel
theorem sX7_readsOrder_222 {d : Nat} {σ : aS} {Q : aQ} {x : Nat} {lt : aL} {st : List Value} : aX d iX7_readsOrder 222 (some (.ref x) :: lt) (st) σ Q ↔ aX d iX7_readsOrder 223 (some (.ref x) :: lt) (.ref x :: st) σ Q := X_aloadn kX7_readsOrder_222 rfl rfl
theorem kX7_readsOrder_223 : aCode iX7_readsOrder 223 = some (.iconst 1, 1) := by decide +kernel
theorem sX7_readsOrder_223 {d : Nat} {σ : aS} {Q : aQ} {ls : aL} {st : List Value} : aX d iX7_readsOrder 223 (ls) (st) σ Q ↔ aX d iX7_readsOrder 224 (ls) (.int (nI 1) :: st) σ Q := X_iconst kX7_readsOrder_223 (by decide +kernel)
theorem kX7_readsOrder_224 : aCode iX7_readsOrder 224 = some (.bipush 9, 2) := by decide +kernel
theorem sX7_readsOrder_224 {d : Nat} {σ : aS} {Q : aQ} {ls : aL} {st : List Value} : aX d iX7_readsOrder 224 (ls) (st) σ Q ↔ aX d iX7_readsOrder 226 (ls) (.int (nI 9) :: st) σ Q := X_bipush kX7_readsOrder_224 (by decide +kernel)
theorem kX7_readsOrder_226 : aCode iX7_readsOrder 226 = some (.invokevirtual 177, 3) := by decide +kernel
theorem sX7_readsOrder_226 {d : Nat} {σ : aS} {Q : aQ} {b : Nat} {p0 : Int32} {p1 : Int32} {v0 : Value} {ls : aL} : aX (d + 1) iX7_readsOrder 226 (ls) (.int p1 :: .int p0 :: .ref b :: v0 :: []) σ Q ↔ aIs σ b 7 ∧ aX d iX7_takeDigit 0 [some (.ref b), some (.int p0), some (.int p1), none] [] σ (fun r τ => aX (d + 1) iX7_readsOrder 229 (ls) (aret r (v0 :: [])) τ Q) := X_invv (N := 2) (As := [.int p1, .int p0]) (w := 935) kX7_readsOrder_226 (by decide +kernel) (by decide +kernel) rfl rfl (by simp only [List.length_cons, List.length_nil]; omega) (by simp only [List.length_cons, List.length_nil]; omega) (by decide +kernel) rfl (Nat.le_of_ble_eq_true rfl)
theorem kX7_readsOrder_229 : aCode iX7_readsOrder 229 = some (.putfield 183, 3) := by decide +kernel
theorem sX7_readsOrder_229 {d : Nat} {σ : aS} {Q : aQ} {x : Int32} {a : Nat} {ls : aL} {st : List Value} : aX d iX7_readsOrder 229 (ls) (.int x :: .ref a :: st) σ Q ↔ ∃ fs, aFds σ a 7 = some fs ∧ 10 < fs.length ∧ aX d iX7_readsOrder 232 (ls) (st) (aput σ a (eO 7 (fs.set 10 (.int x)))) Q := X_putf (w := 660) kX7_readsOrder_229 (by decide +kernel) (aFit_I (by decide +kernel)) (by decide +kernel)
theorem kX7_readsOrder_232 : aCode iX7_readsOrder 232 = some (.aload_n 0, 1) := by decide +kernel
theorem sX7_readsOrder_232 {d : Nat} {σ : aS} {Q : aQ} {x : Nat} {lt : aL} {st : List Value} : aX d iX7_readsOrder 232 (some (.ref x) :: lt) (st) σ Q ↔ aX d iX7_readsOrder 233 (some (.ref x) :: lt) (.ref x :: st) σ Q := X_aloadn kX7_readsOrder_232 rfl rfl
theorem kX7_readsOrder_233 : aCode iX7_readsOrder 233 = some (.aload_n 0, 1) := by decide +kernel
theorem sX7_readsOrder_233 {d : Nat} {σ : aS} {Q : aQ} {x : Nat} {lt : aL} {st : List Value} : aX d iX7_readsOrder 233 (some (.ref x) :: lt) (st) σ Q ↔ aX d iX7_readsOrder 234 (some (.ref x) :: lt) (.ref x :: st) σ Q := X_aloadn kX7_readsOrder_233 rfl rfl
theorem kX7_readsOrder_234 : aCode iX7_readsOrder 234 = some (.getfield 183, 3) := by decide +kernel
theorem sX7_readsOrder_234 {d : Nat} {σ : aS} {Q : aQ} {a : Nat} {ls : aL} {st : List Value} : aX d iX7_readsOrder 234 (ls) (.ref a :: st) σ Q ↔ ∃ v, aFld σ a 7 10 = some v ∧ aX d iX7_readsOrder 237 (ls) (v :: st) σ Q := X_getf (w := 660) kX7_readsOrder_234 (by decide +kernel)
theorem kX7_readsOrder_237 : aCode iX7_readsOrder 237 = some (.ifCond .ge 7, 3) := by decide +kernel
theorem sX7_readsOrder_237 {d : Nat} {σ : aS} {Q : aQ} {x : Int32} {ls : aL} {st : List Value} : aX d iX7_readsOrder 237 (ls) (.int x :: st) σ Q ↔ (if nI 0 ≤ x then aX d iX7_readsOrder 244 (ls) (st) σ Q else aX d iX7_readsOrder 240 (ls) (st) σ Q) := by rw [X_if kX7_readsOrder_237 (t := 244) (by decide)]; simp only [aCmp_ge]
theorem kX7_readsOrder_240 : aCode iX7_readsOrder 240 = some (.iconst 1, 1) := by decide +kernel
theorem sX7_readsOrder_240 {d : Nat} {σ : aS} {Q : aQ} {ls : aL} {st : List Value} : aX d iX7_readsOrder 240 (ls) (st) σ Q ↔ aX d iX7_readsOrder 241 (ls) (.int (nI 1) :: st) σ Q := X_iconst kX7_readsOrder_240 (by decide +kernel)
theorem kX7_readsOrder_241 : aCode iX7_readsOrder 241 = some (.goto 7, 3) := by decide +kernel
theorem sX7_readsOrder_241 {d : Nat} {σ : aS} {Q : aQ} {ls : aL} {st : List Value} : aX d iX7_readsOrder 241 (ls) (st) σ Q ↔ aX d iX7_readsOrder 248 (ls) (st) σ Q := X_goto kX7_readsOrder_241 (by decide)
theorem kX7_readsOrder_244 : aCode iX7_readsOrder 244 = some (.aload_n 0, 1) := by decide +kernel
theorem sX7_readsOrder_244 {d : Nat} {σ : aS} {Q : aQ} {x : Nat} {lt : aL} {st : List Value} : aX d iX7_readsOrder 244 (some (.ref x) :: lt) (st) σ Q ↔ aX d iX7_readsOrder 245 (some (.ref x) :: lt) (.ref x :: st) σ Q := X_aloadn kX7_readsOrder_244 rfl rfl
theorem kX7_readsOrder_245 : aCode iX7_readsOrder 245 = some (.getfield 183, 3) := by decide +kernel
theorem sX7_readsOrder_245 {d : Nat} {σ : aS} {Q : aQ} {a : Nat} {ls : aL} {st : List Value} : aX d iX7_readsOrder 245 (ls) (.ref a :: st) σ Q ↔ ∃ v, aFld σ a 7 10 = some v ∧ aX d iX7_readsOrder 248 (ls) (v :: st) σ Q := X_getf (w := 660) kX7_readsOrder_245 (by decide +kernel)
theorem kX7_readsOrder_248 : aCode iX7_readsOrder 248 = some (.putfield 183, 3) := by decide +kernel
theorem sX7_readsOrder_248 {d : Nat} {σ : aS} {Q : aQ} {x : Int32} {a : Nat} {ls : aL} {st : List Value} : aX d iX7_readsOrder 248 (ls) (.int x :: .ref a :: st) σ Q ↔ ∃ fs, aFds σ a 7 = some fs ∧ 10 < fs.length ∧ aX d iX7_readsOrder 251 (ls) (st) (aput σ a (eO 7 (fs.set 10 (.int x)))) Q := X_putf (w := 660) kX7_readsOrder_248 (by decide +kernel) (aFit_I (by decide +kernel)) (by decide +kernel)
theorem kX7_readsOrder_251 : aCode iX7_readsOrder 251 = some (.iconst 1, 1) := by decide +kernel
theorem sX7_readsOrder_251 {d : Nat} {σ : aS} {Q : aQ} {ls : aL} {st : List Value} : aX d iX7_readsOrder 251 (ls) (st) σ Q ↔ aX d iX7_readsOrder 252 (ls) (.int (nI 1) :: st) σ Q := X_iconst kX7_readsOrder_251 (by decide +kernel)
theorem kX7_readsOrder_252 : aCode iX7_readsOrder 252 = some (.ireturn, 1) := by decide +kernel
theorem sX7_readsOrder_252 {d : Nat} {σ : aS} {Q : aQ} {v : Int32} {ls : aL} : aX d iX7_readsOrder 252 (ls) ([.int v]) σ Q ↔ (narrow .boolean (.int v) = .int v ∧ Q (some (.int v)) σ) := X_zret kX7_readsOrder_252 (by decide +kernel)
theorem kX7_readsOrder_253 : aCode iX7_readsOrder 253 = some (.aload_n 0, 1) := by decide +kernel
theorem sX7_readsOrder_253 {d : Nat} {σ : aS} {Q : aQ} {x : Nat} {lt : aL} {st : List Value} : aX d iX7_readsOrder 253 (some (.ref x) :: lt) (st) σ Q ↔ aX d iX7_readsOrder 254 (some (.ref x) :: lt) (.ref x :: st) σ Q := X_aloadn kX7_readsOrder_253 rfl rfl
theorem kX7_readsOrder_254 : aCode iX7_readsOrder 254 = some (.aload_n 0, 1) := by decide +kernel
theorem sX7_readsOrder_254 {d : Nat} {σ : aS} {Q : aQ} {x : Nat} {lt : aL} {st : List Value} : aX d iX7_readsOrder 254 (some (.ref x) :: lt) (st) σ Q ↔ aX d iX7_readsOrder 255 (some (.ref x) :: lt) (.ref x :: st) σ Q := X_aloadn kX7_readsOrder_254 rfl rfl
theorem kX7_readsOrder_255 : aCode iX7_readsOrder 255 = some (.invokevirtual 189, 3) := by decide +kernel
theorem sX7_readsOrder_255 {d : Nat} {σ : aS} {Q : aQ} {b : Nat} {v0 : Value} {ls : aL} : aX (d + 1) iX7_readsOrder 255 (ls) (.ref b :: v0 :: []) σ Q ↔ aIs σ b 7 ∧ aX d iX7_takeNumber 0 [some (.ref b), none] [] σ (fun r τ => aX (d + 1) iX7_readsOrder 258 (ls) (aret r (v0 :: [])) τ Q) := X_invv (N := 0) (As := []) (w := 943) kX7_readsOrder_255 (by decide +kernel) (by decide +kernel) rfl rfl (by simp only [List.length_cons, List.length_nil]; omega) (by simp only [List.length_cons, List.length_nil]; omega) (by decide +kernel) rfl (Nat.le_of_ble_eq_true rfl)
theorem kX7_readsOrder_258 : aCode iX7_readsOrder 258 = some (.putfield 183, 3) := by decide +kernel
theorem sX7_readsOrder_258 {d : Nat} {σ : aS} {Q : aQ} {x : Int32} {a : Nat} {ls : aL} {st : List Value} : aX d iX7_readsOrder 258 (ls) (.int x :: .ref a :: st) σ Q ↔ ∃ fs, aFds σ a 7 = some fs ∧ 10 < fs.length ∧ aX d iX7_readsOrder 261 (ls) (st) (aput σ a (eO 7 (fs.set 10 (.int x)))) Q := X_putf (w := 660) kX7_readsOrder_258 (by decide +kernel) (aFit_I (by decide +kernel)) (by decide +kernel)
theorem kX7_readsOrder_261 : aCode iX7_readsOrder 261 = some (.aload_n 0, 1) := by decide +kernel
theorem sX7_readsOrder_261 {d : Nat} {σ : aS} {Q : aQ} {x : Nat} {lt : aL} {st : List Value} : aX d iX7_readsOrder 261 (some (.ref x) :: lt) (st) σ Q ↔ aX d iX7_readsOrder 262 (some (.ref x) :: lt) (.ref x :: st) σ Q := X_aloadn kX7_readsOrder_261 rfl rfl
theorem kX7_readsOrder_262 : aCode iX7_readsOrder 262 = some (.aload_n 0, 1) := by decide +kernel
theorem sX7_readsOrder_262 {d : Nat} {σ : aS} {Q : aQ} {x : Nat} {lt : aL} {st : List Value} : aX d iX7_readsOrder 262 (some (.ref x) :: lt) (st) σ Q ↔ aX d iX7_readsOrder 263 (some (.ref x) :: lt) (.ref x :: st) σ Q := X_aloadn kX7_readsOrder_262 rfl rfl
theorem kX7_readsOrder_263 : aCode iX7_readsOrder 263 = some (.getfield 183, 3) := by decide +kernel
theorem sX7_readsOrder_263 {d : Nat} {σ : aS} {Q : aQ} {a : Nat} {ls : aL} {st : List Value} : aX d iX7_readsOrder 263 (ls) (.ref a :: st) σ Q ↔ ∃ v, aFld σ a 7 10 = some v ∧ aX d iX7_readsOrder 266 (ls) (v :: st) σ Q := X_getf (w := 660) kX7_readsOrder_263 (by decide +kernel)
theorem kX7_readsOrder_266 : aCode iX7_readsOrder 266 = some (.ifCond .lt 19, 3) := by decide +kernel
theorem sX7_readsOrder_266 {d : Nat} {σ : aS} {Q : aQ} {x : Int32} {ls : aL} {st : List Value} : aX d iX7_readsOrder 266 (ls) (.int x :: st) σ Q ↔ (if x < nI 0 then aX d iX7_readsOrder 285 (ls) (st) σ Q else aX d iX7_readsOrder 269 (ls) (st) σ Q) := by rw [X_if kX7_readsOrder_266 (t := 285) (by decide)]; simp only [aCmp_lt]
theorem kX7_readsOrder_269 : aCode iX7_readsOrder 269 = some (.aload_n 0, 1) := by decide +kernel
theorem sX7_readsOrder_269 {d : Nat} {σ : aS} {Q : aQ} {x : Nat} {lt : aL} {st : List Value} : aX d iX7_readsOrder 269 (some (.ref x) :: lt) (st) σ Q ↔ aX d iX7_readsOrder 270 (some (.ref x) :: lt) (.ref x :: st) σ Q := X_aloadn kX7_readsOrder_269 rfl rfl
theorem kX7_readsOrder_270 : aCode iX7_readsOrder 270 = some (.bipush 61, 2) := by decide +kernel
theorem sX7_readsOrder_270 {d : Nat} {σ : aS} {Q : aQ} {ls : aL} {st : List Value} : aX d iX7_readsOrder 270 (ls) (st) σ Q ↔ aX d iX7_readsOrder 272 (ls) (.int (nI 61) :: st) σ Q := X_bipush kX7_readsOrder_270 (by decide +kernel)
theorem kX7_readsOrder_272 : aCode iX7_readsOrder 272 = some (.invokevirtual 186, 3) := by decide +kernel
theorem sX7_readsOrder_272 {d : Nat} {σ : aS} {Q : aQ} {b : Nat} {p0 : Int32} {v0 : Value} {ls : aL} : aX (d + 1) iX7_readsOrder 272 (ls) (.int p0 :: .ref b :: v0 :: []) σ Q ↔ aIs σ b 7 ∧ aX d iX7_isNext 0 [some (.ref b), some (.int p0), none] [] σ (fun r τ => aX (d + 1) iX7_readsOrder 275 (ls) (aret r (v0 :: [])) τ Q) := X_invv (N := 1) (As := [.int p0]) (w := 939) kX7_readsOrder_272 (by decide +kernel) (by decide +kernel) rfl rfl (by simp only [List.length_cons, List.length_nil]; omega) (by simp only [List.length_cons, List.length_nil]; omega) (by decide +kernel) rfl (Nat.le_of_ble_eq_true rfl)
theorem kX7_readsOrder_275 : aCode iX7_readsOrder 275 = some (.ifCond .eq 10, 3) := by decide +kernel
theorem sX7_readsOrder_275 {d : Nat} {σ : aS} {Q : aQ} {x : Int32} {ls : aL} {st : List Value} : aX d iX7_readsOrder 275 (ls) (.int x :: st) σ Q ↔ (if x = nI 0 then aX d iX7_readsOrder 285 (ls) (st) σ Q else aX d iX7_readsOrder 278 (ls) (st) σ Q) := by rw [X_if kX7_readsOrder_275 (t := 285) (by decide)]; simp only [aCmp_eq]
theorem kX7_readsOrder_278 : aCode iX7_readsOrder 278 = some (.aload_n 0, 1) := by decide +kernel
theorem sX7_readsOrder_278 {d : Nat} {σ : aS} {Q : aQ} {x : Nat} {lt : aL} {st : List Value} : aX d iX7_readsOrder 278 (some (.ref x) :: lt) (st) σ Q ↔ aX d iX7_readsOrder 279 (some (.ref x) :: lt) (.ref x :: st) σ Q := X_aloadn kX7_readsOrder_278 rfl rfl
theorem kX7_readsOrder_279 : aCode iX7_readsOrder 279 = some (.invokevirtual 189, 3) := by decide +kernel
theorem sX7_readsOrder_279 {d : Nat} {σ : aS} {Q : aQ} {b : Nat} {v0 : Value} {ls : aL} : aX (d + 1) iX7_readsOrder 279 (ls) (.ref b :: v0 :: []) σ Q ↔ aIs σ b 7 ∧ aX d iX7_takeNumber 0 [some (.ref b), none] [] σ (fun r τ => aX (d + 1) iX7_readsOrder 282 (ls) (aret r (v0 :: [])) τ Q) := X_invv (N := 0) (As := []) (w := 943) kX7_readsOrder_279 (by decide +kernel) (by decide +kernel) rfl rfl (by simp only [List.length_cons, List.length_nil]; omega) (by simp only [List.length_cons, List.length_nil]; omega) (by decide +kernel) rfl (Nat.le_of_ble_eq_true rfl)
theorem kX7_readsOrder_282 : aCode iX7_readsOrder 282 = some (.goto 4, 3) := by decide +kernel
theorem sX7_readsOrder_282 {d : Nat} {σ : aS} {Q : aQ} {ls : aL} {st : List Value} : aX d iX7_readsOrder 282 (ls) (st) σ Q ↔ aX d iX7_readsOrder 286 (ls) (st) σ Q := X_goto kX7_readsOrder_282 (by decide)
theorem kX7_readsOrder_285 : aCode iX7_readsOrder 285 = some (.iconst (-1), 1) := by decide +kernel
theorem sX7_readsOrder_285 {d : Nat} {σ : aS} {Q : aQ} {ls : aL} {st : List Value} : aX d iX7_readsOrder 285 (ls) (st) σ Q ↔ aX d iX7_readsOrder 286 (ls) (.int ((-1)) :: st) σ Q := X_iconst kX7_readsOrder_285 (by decide +kernel)
theorem kX7_readsOrder_286 : aCode iX7_readsOrder 286 = some (.putfield 192, 3) := by decide +kernel
theorem sX7_readsOrder_286 {d : Nat} {σ : aS} {Q : aQ} {x : Int32} {a : Nat} {ls : aL} {st : List Value} : aX d iX7_readsOrder 286 (ls) (.int x :: .ref a :: st) σ Q ↔ ∃ fs, aFds σ a 7 = some fs ∧ 11 < fs.length ∧ aX d iX7_readsOrder 289 (ls) (st) (aput σ a (eO 7 (fs.set 11 (.int x)))) Q := X_putf (w := 661) kX7_readsOrder_286 (by decide +kernel) (aFit_I (by decide +kernel)) (by decide +kernel)
theorem kX7_readsOrder_289 : aCode iX7_readsOrder 289 = some (.aload_n 0, 1) := by decide +kernel
theorem sX7_readsOrder_289 {d : Nat} {σ : aS} {Q : aQ} {x : Nat} {lt : aL} {st : List Value} : aX d iX7_readsOrder 289 (some (.ref x) :: lt) (st) σ Q ↔ aX d iX7_readsOrder 290 (some (.ref x) :: lt) (.ref x :: st) σ Q := X_aloadn kX7_readsOrder_289 rfl rfl
theorem kX7_readsOrder_290 : aCode iX7_readsOrder 290 = some (.getfield 192, 3) := by decide +kernel
theorem sX7_readsOrder_290 {d : Nat} {σ : aS} {Q : aQ} {a : Nat} {ls : aL} {st : List Value} : aX d iX7_readsOrder 290 (ls) (.ref a :: st) σ Q ↔ ∃ v, aFld σ a 7 11 = some v ∧ aX d iX7_readsOrder 293 (ls) (v :: st) σ Q := X_getf (w := 661) kX7_readsOrder_290 (by decide +kernel)
theorem kX7_readsOrder_293 : aCode iX7_readsOrder 293 = some (.ifCond .lt 7, 3) := by decide +kernel
theorem sX7_readsOrder_293 {d : Nat} {σ : aS} {Q : aQ} {x : Int32} {ls : aL} {st : List Value} : aX d iX7_readsOrder 293 (ls) (.int x :: st) σ Q ↔ (if x < nI 0 then aX d iX7_readsOrder 300 (ls) (st) σ Q else aX d iX7_readsOrder 296 (ls) (st) σ Q) := by rw [X_if kX7_readsOrder_293 (t := 300) (by decide)]; simp only [aCmp_lt]
theorem kX7_readsOrder_296 : aCode iX7_readsOrder 296 = some (.iconst 1, 1) := by decide +kernel
theorem sX7_readsOrder_296 {d : Nat} {σ : aS} {Q : aQ} {ls : aL} {st : List Value} : aX d iX7_readsOrder 296 (ls) (st) σ Q ↔ aX d iX7_readsOrder 297 (ls) (.int (nI 1) :: st) σ Q := X_iconst kX7_readsOrder_296 (by decide +kernel)
theorem kX7_readsOrder_297 : aCode iX7_readsOrder 297 = some (.goto 4, 3) := by decide +kernel
theorem sX7_readsOrder_297 {d : Nat} {σ : aS} {Q : aQ} {ls : aL} {st : List Value} : aX d iX7_readsOrder 297 (ls) (st) σ Q ↔ aX d iX7_readsOrder 301 (ls) (st) σ Q := X_goto kX7_readsOrder_297 (by decide)
theorem kX7_readsOrder_300 : aCode iX7_readsOrder 300 = some (.iconst 0, 1) := by decide +kernel
theorem sX7_readsOrder_300 {d : Nat} {σ : aS} {Q : aQ} {ls : aL} {st : List Value} : aX d iX7_readsOrder 300 (ls) (st) σ Q ↔ aX d iX7_readsOrder 301 (ls) (.int (nI 0) :: st) σ Q := X_iconst kX7_readsOrder_300 (by decide +kernel)
theorem kX7_readsOrder_301 : aCode iX7_readsOrder 301 = some (.ireturn, 1) := by decide +kernel
theorem sX7_readsOrder_301 {d : Nat} {σ : aS} {Q : aQ} {v : Int32} {ls : aL} : aX d iX7_readsOrder 301 (ls) ([.int v]) σ Q ↔ (narrow .boolean (.int v) = .int v ∧ Q (some (.int v)) σ) := X_zret kX7_readsOrder_301 (by decide +kernel)
theorem kX7_readsOrder_302 : aCode iX7_readsOrder 302 = some (.iconst 1, 1) := by decide +kernel
theorem sX7_readsOrder_302 {d : Nat} {σ : aS} {Q : aQ} {ls : aL} {st : List Value} : aX d iX7_readsOrder 302 (ls) (st) σ Q ↔ aX d iX7_readsOrder 303 (ls) (.int (nI 1) :: st) σ Q := X_iconst kX7_readsOrder_302 (by decide +kernel)
theorem kX7_readsOrder_303 : aCode iX7_readsOrder 303 = some (.ireturn, 1) := by decide +kernel
theorem sX7_readsOrder_303 {d : Nat} {σ : aS} {Q : aQ} {v : Int32} {ls : aL} : aX d iX7_readsOrder 303 (ls) ([.int v]) σ Q ↔ (narrow .boolean (.int v) = .int v ∧ Q (some (.int v)) σ) := X_zret kX7_readsOrder_303 (by decide +kernel)
theorem kX7_readsOrder_304 : aCode iX7_readsOrder 304 = some (.aload_n 0, 1) := by decide +kernel
theorem sX7_readsOrder_304 {d : Nat} {σ : aS} {Q : aQ} {x : Nat} {lt : aL} {st : List Value} : aX d iX7_readsOrder 304 (some (.ref x) :: lt) (st) σ Q ↔ aX d iX7_readsOrder 305 (some (.ref x) :: lt) (.ref x :: st) σ Q := X_aloadn kX7_readsOrder_304 rfl rfl
theorem kX7_readsOrder_305 : aCode iX7_readsOrder 305 = some (.dup, 1) := by decide +kernel
theorem sX7_readsOrder_305 {d : Nat} {σ : aS} {Q : aQ} {x : Nat} {ls : aL} {st : List Value} : aX d iX7_readsOrder 305 (ls) (.ref x :: st) σ Q ↔ aX d iX7_readsOrder 306 (ls) (.ref x :: .ref x :: st) σ Q := X_dup kX7_readsOrder_305 rfl
theorem sX7_readsOrder_305i {d : Nat} {σ : aS} {Q : aQ} {x : Int32} {ls : aL} {st : List Value} : aX d iX7_readsOrder 305 (ls) (.int x :: st) σ Q ↔ aX d iX7_readsOrder 306 (ls) (.int x :: .int x :: st) σ Q := X_dup kX7_readsOrder_305 rfl
theorem kX7_readsOrder_306 : aCode iX7_readsOrder 306 = some (.getfield 171, 3) := by decide +kernel
theorem sX7_readsOrder_306 {d : Nat} {σ : aS} {Q : aQ} {a : Nat} {ls : aL} {st : List Value} : aX d iX7_readsOrder 306 (ls) (.ref a :: st) σ Q ↔ ∃ v, aFld σ a 7 8 = some v ∧ aX d iX7_readsOrder 309 (ls) (v :: st) σ Q := X_getf (w := 658) kX7_readsOrder_306 (by decide +kernel)
theorem kX7_readsOrder_309 : aCode iX7_readsOrder 309 = some (.iconst 1, 1) := by decide +kernel
theorem sX7_readsOrder_309 {d : Nat} {σ : aS} {Q : aQ} {ls : aL} {st : List Value} : aX d iX7_readsOrder 309 (ls) (st) σ Q ↔ aX d iX7_readsOrder 310 (ls) (.int (nI 1) :: st) σ Q := X_iconst kX7_readsOrder_309 (by decide +kernel)
theorem kX7_readsOrder_310 : aCode iX7_readsOrder 310 = some (.isub, 1) := by decide +kernel
theorem sX7_readsOrder_310 {d : Nat} {σ : aS} {Q : aQ} {x y : Int32} {ls : aL} {st : List Value} : aX d iX7_readsOrder 310 (ls) (.int y :: .int x :: st) σ Q ↔ aX d iX7_readsOrder 311 (ls) (.int (x - y) :: st) σ Q := X_isub kX7_readsOrder_310
theorem kX7_readsOrder_311 : aCode iX7_readsOrder 311 = some (.putfield 171, 3) := by decide +kernel
theorem sX7_readsOrder_311 {d : Nat} {σ : aS} {Q : aQ} {x : Int32} {a : Nat} {ls : aL} {st : List Value} : aX d iX7_readsOrder 311 (ls) (.int x :: .ref a :: st) σ Q ↔ ∃ fs, aFds σ a 7 = some fs ∧ 8 < fs.length ∧ aX d iX7_readsOrder 314 (ls) (st) (aput σ a (eO 7 (fs.set 8 (.int x)))) Q := X_putf (w := 658) kX7_readsOrder_311 (by decide +kernel) (aFit_I (by decide +kernel)) (by decide +kernel)
theorem kX7_readsOrder_314 : aCode iX7_readsOrder 314 = some (.iconst 0, 1) := by decide +kernel
theorem sX7_readsOrder_314 {d : Nat} {σ : aS} {Q : aQ} {ls : aL} {st : List Value} : aX d iX7_readsOrder 314 (ls) (st) σ Q ↔ aX d iX7_readsOrder 315 (ls) (.int (nI 0) :: st) σ Q := X_iconst kX7_readsOrder_314 (by decide +kernel)
theorem kX7_readsOrder_315 : aCode iX7_readsOrder 315 = some (.ireturn, 1) := by decide +kernel
theorem sX7_readsOrder_315 {d : Nat} {σ : aS} {Q : aQ} {v : Int32} {ls : aL} : aX d iX7_readsOrder 315 (ls) ([.int v]) σ Q ↔ (narrow .boolean (.int v) = .int v ∧ Q (some (.int v)) σ) := X_zret kX7_readsOrder_315 (by decide +kernel)
theorem kX7_findFault_0 : aCode iX7_findFault 0 = some (.aload_n 0, 1) := by decide +kernel
theorem sX7_findFault_0 {d : Nat} {σ : aS} {Q : aQ} {x : Nat} {lt : aL} {st : List Value} : aX d iX7_findFault 0 (some (.ref x) :: lt) (st) σ Q ↔ aX d iX7_findFault 1 (some (.ref x) :: lt) (.ref x :: st) σ Q := X_aloadn kX7_findFault_0 rfl rfl
theorem kX7_findFault_1 : aCode iX7_findFault 1 = some (.iconst 0, 1) := by decide +kernel
theorem sX7_findFault_1 {d : Nat} {σ : aS} {Q : aQ} {ls : aL} {st : List Value} : aX d iX7_findFault 1 (ls) (st) σ Q ↔ aX d iX7_findFault 2 (ls) (.int (nI 0) :: st) σ Q := X_iconst kX7_findFault_1 (by decide +kernel)
theorem kX7_findFault_2 : aCode iX7_findFault 2 = some (.putfield 171, 3) := by decide +kernel
theorem sX7_findFault_2 {d : Nat} {σ : aS} {Q : aQ} {x : Int32} {a : Nat} {ls : aL} {st : List Value} : aX d iX7_findFault 2 (ls) (.int x :: .ref a :: st) σ Q ↔ ∃ fs, aFds σ a 7 = some fs ∧ 8 < fs.length ∧ aX d iX7_findFault 5 (ls) (st) (aput σ a (eO 7 (fs.set 8 (.int x)))) Q := X_putf (w := 658) kX7_findFault_2 (by decide +kernel) (aFit_I (by decide +kernel)) (by decide +kernel)
theorem kX7_findFault_5 : aCode iX7_findFault 5 = some (.aload_n 0, 1) := by decide +kernel
theorem sX7_findFault_5 {d : Nat} {σ : aS} {Q : aQ} {x : Nat} {lt : aL} {st : List Value} : aX d iX7_findFault 5 (some (.ref x) :: lt) (st) σ Q ↔ aX d iX7_findFault 6 (some (.ref x) :: lt) (.ref x :: st) σ Q := X_aloadn kX7_findFault_5 rfl rfl
theorem kX7_findFault_6 : aCode iX7_findFault 6 = some (.invokevirtual 195, 3) := by decide +kernel
theorem sX7_findFault_6 {d : Nat} {σ : aS} {Q : aQ} {b : Nat} {ls : aL} : aX (d + 1) iX7_findFault 6 (ls) (.ref b :: []) σ Q ↔ aIs σ b 7 ∧ aX d iX7_readsOrder 0 [some (.ref b)] [] σ (fun r τ => aX (d + 1) iX7_findFault 9 (ls) (aret r ([])) τ Q) := X_invv (N := 0) (As := []) (w := 927) kX7_findFault_6 (by decide +kernel) (by decide +kernel) rfl rfl (by simp only [List.length_cons, List.length_nil]; omega) (by simp only [List.length_cons, List.length_nil]; omega) (by decide +kernel) rfl (Nat.le_of_ble_eq_true rfl)
theorem kX7_findFault_9 : aCode iX7_findFault 9 = some (.ifCond .ne 8, 3) := by decide +kernel
theorem sX7_findFault_9 {d : Nat} {σ : aS} {Q : aQ} {x : Int32} {ls : aL} {st : List Value} : aX d iX7_findFault 9 (ls) (.int x :: st) σ Q ↔ (if ¬ x = nI 0 then aX d iX7_findFault 17 (ls) (st) σ Q else aX d iX7_findFault 12 (ls) (st) σ Q) := by rw [X_if kX7_findFault_9 (t := 17) (by decide)]; simp only [aCmp_ne]
theorem kX7_findFault_12 : aCode iX7_findFault 12 = some (.aload_n 0, 1) := by decide +kernel
theorem sX7_findFault_12 {d : Nat} {σ : aS} {Q : aQ} {x : Nat} {lt : aL} {st : List Value} : aX d iX7_findFault 12 (some (.ref x) :: lt) (st) σ Q ↔ aX d iX7_findFault 13 (some (.ref x) :: lt) (.ref x :: st) σ Q := X_aloadn kX7_findFault_12 rfl rfl
theorem kX7_findFault_13 : aCode iX7_findFault 13 = some (.getfield 171, 3) := by decide +kernel
theorem sX7_findFault_13 {d : Nat} {σ : aS} {Q : aQ} {a : Nat} {ls : aL} {st : List Value} : aX d iX7_findFault 13 (ls) (.ref a :: st) σ Q ↔ ∃ v, aFld σ a 7 8 = some v ∧ aX d iX7_findFault 16 (ls) (v :: st) σ Q := X_getf (w := 658) kX7_findFault_13 (by decide +kernel)
theorem kX7_findFault_16 : aCode iX7_findFault 16 = some (.ireturn, 1) := by decide +kernel
theorem sX7_findFault_16 {d : Nat} {σ : aS} {Q : aQ} {v : Int32} {ls : aL} : aX d iX7_findFault 16 (ls) ([.int v]) σ Q ↔ Q (some (.int v)) σ := X_iret kX7_findFault_16 (by decide +kernel)
theorem kX7_findFault_17 : aCode iX7_findFault 17 = some (.aload_n 0, 1) := by decide +kernel
theorem sX7_findFault_17 {d : Nat} {σ : aS} {Q : aQ} {x : Nat} {lt : aL} {st : List Value} : aX d iX7_findFault 17 (some (.ref x) :: lt) (st) σ Q ↔ aX d iX7_findFault 18 (some (.ref x) :: lt) (.ref x :: st) σ Q := X_aloadn kX7_findFault_17 rfl rfl
theorem kX7_findFault_18 : aCode iX7_findFault 18 = some (.getfield 171, 3) := by decide +kernel
theorem sX7_findFault_18 {d : Nat} {σ : aS} {Q : aQ} {a : Nat} {ls : aL} {st : List Value} : aX d iX7_findFault 18 (ls) (.ref a :: st) σ Q ↔ ∃ v, aFld σ a 7 8 = some v ∧ aX d iX7_findFault 21 (ls) (v :: st) σ Q := X_getf (w := 658) kX7_findFault_18 (by decide +kernel)
theorem kX7_findFault_21 : aCode iX7_findFault 21 = some (.aload_n 0, 1) := by decide +kernel
theorem sX7_findFault_21 {d : Nat} {σ : aS} {Q : aQ} {x : Nat} {lt : aL} {st : List Value} : aX d iX7_findFault 21 (some (.ref x) :: lt) (st) σ Q ↔ aX d iX7_findFault 22 (some (.ref x) :: lt) (.ref x :: st) σ Q := X_aloadn kX7_findFault_21 rfl rfl
theorem kX7_findFault_22 : aCode iX7_findFault 22 = some (.getfield 163, 3) := by decide +kernel
theorem sX7_findFault_22 {d : Nat} {σ : aS} {Q : aQ} {a : Nat} {ls : aL} {st : List Value} : aX d iX7_findFault 22 (ls) (.ref a :: st) σ Q ↔ ∃ v, aFld σ a 7 7 = some v ∧ aX d iX7_findFault 25 (ls) (v :: st) σ Q := X_getf (w := 657) kX7_findFault_22 (by decide +kernel)
theorem kX7_findFault_25 : aCode iX7_findFault 25 = some (.if_icmp .ne 6, 3) := by decide +kernel
theorem sX7_findFault_25 {d : Nat} {σ : aS} {Q : aQ} {x y : Int32} {ls : aL} {st : List Value} : aX d iX7_findFault 25 (ls) (.int y :: .int x :: st) σ Q ↔ (if ¬ x = y then aX d iX7_findFault 31 (ls) (st) σ Q else aX d iX7_findFault 28 (ls) (st) σ Q) := by rw [X_icmp kX7_findFault_25 (t := 31) (by decide)]; simp only [aCmp_ne]
theorem kX7_findFault_28 : aCode iX7_findFault 28 = some (.bipush (-6), 2) := by decide +kernel
theorem sX7_findFault_28 {d : Nat} {σ : aS} {Q : aQ} {ls : aL} {st : List Value} : aX d iX7_findFault 28 (ls) (st) σ Q ↔ aX d iX7_findFault 30 (ls) (.int ((-6)) :: st) σ Q := X_bipush kX7_findFault_28 (by decide +kernel)
theorem kX7_findFault_30 : aCode iX7_findFault 30 = some (.ireturn, 1) := by decide +kernel
theorem sX7_findFault_30 {d : Nat} {σ : aS} {Q : aQ} {v : Int32} {ls : aL} : aX d iX7_findFault 30 (ls) ([.int v]) σ Q ↔ Q (some (.int v)) σ := X_iret kX7_findFault_30 (by decide +kernel)
theorem kX7_findFault_31 : aCode iX7_findFault 31 = some (.aload_n 0, 1) := by decide +kernel
theorem sX7_findFault_31 {d : Nat} {σ : aS} {Q : aQ} {x : Nat} {lt : aL} {st : List Value} : aX d iX7_findFault 31 (some (.ref x) :: lt) (st) σ Q ↔ aX d iX7_findFault 32 (some (.ref x) :: lt) (.ref x :: st) σ Q := X_aloadn kX7_findFault_31 rfl rfl
theorem kX7_findFault_32 : aCode iX7_findFault 32 = some (.bipush 59, 2) := by decide +kernel
theorem sX7_findFault_32 {d : Nat} {σ : aS} {Q : aQ} {ls : aL} {st : List Value} : aX d iX7_findFault 32 (ls) (st) σ Q ↔ aX d iX7_findFault 34 (ls) (.int (nI 59) :: st) σ Q := X_bipush kX7_findFault_32 (by decide +kernel)
theorem kX7_findFault_34 : aCode iX7_findFault 34 = some (.invokevirtual 186, 3) := by decide +kernel
theorem sX7_findFault_34 {d : Nat} {σ : aS} {Q : aQ} {b : Nat} {p0 : Int32} {ls : aL} : aX (d + 1) iX7_findFault 34 (ls) (.int p0 :: .ref b :: []) σ Q ↔ aIs σ b 7 ∧ aX d iX7_isNext 0 [some (.ref b), some (.int p0), none] [] σ (fun r τ => aX (d + 1) iX7_findFault 37 (ls) (aret r ([])) τ Q) := X_invv (N := 1) (As := [.int p0]) (w := 939) kX7_findFault_34 (by decide +kernel) (by decide +kernel) rfl rfl (by simp only [List.length_cons, List.length_nil]; omega) (by simp only [List.length_cons, List.length_nil]; omega) (by decide +kernel) rfl (Nat.le_of_ble_eq_true rfl)
theorem kX7_findFault_37 : aCode iX7_findFault 37 = some (.ifCond .ne (-32), 3) := by decide +kernel
theorem sX7_findFault_37 {d : Nat} {σ : aS} {Q : aQ} {x : Int32} {ls : aL} {st : List Value} : aX d iX7_findFault 37 (ls) (.int x :: st) σ Q ↔ (if ¬ x = nI 0 then aX d iX7_findFault 5 (ls) (st) σ Q else aX d iX7_findFault 40 (ls) (st) σ Q) := by rw [X_if kX7_findFault_37 (t := 5) (by decide)]; simp only [aCmp_ne]
theorem kX7_findFault_40 : aCode iX7_findFault 40 = some (.aload_n 0, 1) := by decide +kernel
theorem sX7_findFault_40 {d : Nat} {σ : aS} {Q : aQ} {x : Nat} {lt : aL} {st : List Value} : aX d iX7_findFault 40 (some (.ref x) :: lt) (st) σ Q ↔ aX d iX7_findFault 41 (some (.ref x) :: lt) (.ref x :: st) σ Q := X_aloadn kX7_findFault_40 rfl rfl
theorem kX7_findFault_41 : aCode iX7_findFault 41 = some (.getfield 171, 3) := by decide +kernel
theorem sX7_findFault_41 {d : Nat} {σ : aS} {Q : aQ} {a : Nat} {ls : aL} {st : List Value} : aX d iX7_findFault 41 (ls) (.ref a :: st) σ Q ↔ ∃ v, aFld σ a 7 8 = some v ∧ aX d iX7_findFault 44 (ls) (v :: st) σ Q := X_getf (w := 658) kX7_findFault_41 (by decide +kernel)
theorem kX7_findFault_44 : aCode iX7_findFault 44 = some (.ireturn, 1) := by decide +kernel
theorem sX7_findFault_44 {d : Nat} {σ : aS} {Q : aQ} {v : Int32} {ls : aL} : aX d iX7_findFault 44 (ls) ([.int v]) σ Q ↔ Q (some (.int v)) σ := X_iret kX7_findFault_44 (by decide +kernel)
theorem kX7_fault_0 : aCode iX7_fault 0 = some (.aload_n 0, 1) := by decide +kernel
theorem sX7_fault_0 {d : Nat} {σ : aS} {Q : aQ} {x : Nat} {lt : aL} {st : List Value} : aX d iX7_fault 0 (some (.ref x) :: lt) (st) σ Q ↔ aX d iX7_fault 1 (some (.ref x) :: lt) (.ref x :: st) σ Q := X_aloadn kX7_fault_0 rfl rfl
theorem kX7_fault_1 : aCode iX7_fault 1 = some (.invokevirtual 199, 3) := by decide +kernel
theorem sX7_fault_1 {d : Nat} {σ : aS} {Q : aQ} {b : Nat} {ls : aL} : aX (d + 1) iX7_fault 1 (ls) (.ref b :: []) σ Q ↔ aIs σ b 7 ∧ aX d iX7_findFault 0 [some (.ref b)] [] σ (fun r τ => aX (d + 1) iX7_fault 4 (ls) (aret r ([])) τ Q) := X_invv (N := 0) (As := []) (w := 923) kX7_fault_1 (by decide +kernel) (by decide +kernel) rfl rfl (by simp only [List.length_cons, List.length_nil]; omega) (by simp only [List.length_cons, List.length_nil]; omega) (by decide +kernel) rfl (Nat.le_of_ble_eq_true rfl)
theorem kX7_fault_4 : aCode iX7_fault 4 = some (.ireturn, 1) := by decide +kernel
theorem sX7_fault_4 {d : Nat} {σ : aS} {Q : aQ} {v : Int32} {ls : aL} : aX d iX7_fault 4 (ls) ([.int v]) σ Q ↔ Q (some (.int v)) σ := X_iret kX7_fault_4 (by decide +kernel)
theorem kX7_whyNotDone_0 : aCode iX7_whyNotDone 0 = some (.aload_n 0, 1) := by decide +kernel
theorem sX7_whyNotDone_0 {d : Nat} {σ : aS} {Q : aQ} {x : Nat} {lt : aL} {st : List Value} : aX d iX7_whyNotDone 0 (some (.ref x) :: lt) (st) σ Q ↔ aX d iX7_whyNotDone 1 (some (.ref x) :: lt) (.ref x :: st) σ Q := X_aloadn kX7_whyNotDone_0 rfl rfl
theorem kX7_whyNotDone_1 : aCode iX7_whyNotDone 1 = some (.getfield 180, 3) := by decide +kernel
theorem sX7_whyNotDone_1 {d : Nat} {σ : aS} {Q : aQ} {a : Nat} {ls : aL} {st : List Value} : aX d iX7_whyNotDone 1 (ls) (.ref a :: st) σ Q ↔ ∃ v, aFld σ a 7 9 = some v ∧ aX d iX7_whyNotDone 4 (ls) (v :: st) σ Q := X_getf (w := 659) kX7_whyNotDone_1 (by decide +kernel)
theorem kX7_whyNotDone_4 : aCode iX7_whyNotDone 4 = some (.lookupswitch 92 #[(43, 44), (45, 57), (98, 66), (116, 79)], 44) := by decide +kernel
theorem sX7_whyNotDone_4_43 {d : Nat} {σ : aS} {Q : aQ} {ls : aL} {st : List Value} : aX d iX7_whyNotDone 4 (ls) (.int (nI 43) :: st) σ Q ↔ aX d iX7_whyNotDone 48 (ls) (st) σ Q := X_lsw kX7_whyNotDone_4 (by decide +kernel) (by decide +kernel)
theorem sX7_whyNotDone_4_45 {d : Nat} {σ : aS} {Q : aQ} {ls : aL} {st : List Value} : aX d iX7_whyNotDone 4 (ls) (.int (nI 45) :: st) σ Q ↔ aX d iX7_whyNotDone 61 (ls) (st) σ Q := X_lsw kX7_whyNotDone_4 (by decide +kernel) (by decide +kernel)
theorem sX7_whyNotDone_4_98 {d : Nat} {σ : aS} {Q : aQ} {ls : aL} {st : List Value} : aX d iX7_whyNotDone 4 (ls) (.int (nI 98) :: st) σ Q ↔ aX d iX7_whyNotDone 70 (ls) (st) σ Q := X_lsw kX7_whyNotDone_4 (by decide +kernel) (by decide +kernel)
theorem sX7_whyNotDone_4_116 {d : Nat} {σ : aS} {Q : aQ} {ls : aL} {st : List Value} : aX d iX7_whyNotDone 4 (ls) (.int (nI 116) :: st) σ Q ↔ aX d iX7_whyNotDone 83 (ls) (st) σ Q := X_lsw kX7_whyNotDone_4 (by decide +kernel) (by decide +kernel)
theorem sX7_whyNotDone_4_d {d : Nat} {σ : aS} {Q : aQ} {x : Int32} {ls : aL} {st : List Value} (h0 : ¬ x = nI 43) (h1 : ¬ x = nI 45) (h2 : ¬ x = nI 98) (h3 : ¬ x = nI 116) : aX d iX7_whyNotDone 4 (ls) (.int x :: st) σ Q ↔ aX d iX7_whyNotDone 96 (ls) (st) σ Q := by
  have g0 : ¬ (43 : Int) = x.toInt := fun z => h0 (Int32.toInt_inj.mp (z.symm.trans (by decide +kernel)))
  have g1 : ¬ (45 : Int) = x.toInt := fun z => h1 (Int32.toInt_inj.mp (z.symm.trans (by decide +kernel)))
  have g2 : ¬ (98 : Int) = x.toInt := fun z => h2 (Int32.toInt_inj.mp (z.symm.trans (by decide +kernel)))
  have g3 : ¬ (116 : Int) = x.toInt := fun z => h3 (Int32.toInt_inj.mp (z.symm.trans (by decide +kernel)))
  refine X_lsw kX7_whyNotDone_4 (by decide +kernel) ?_
  simp only [Op.lookupswitch.offset_cons, g0, g1, g2, g3, if_false]
  rfl
theorem kX7_whyNotDone_48 : aCode iX7_whyNotDone 48 = some (.aload_n 0, 1) := by decide +kernel
theorem sX7_whyNotDone_48 {d : Nat} {σ : aS} {Q : aQ} {x : Nat} {lt : aL} {st : List Value} : aX d iX7_whyNotDone 48 (some (.ref x) :: lt) (st) σ Q ↔ aX d iX7_whyNotDone 49 (some (.ref x) :: lt) (.ref x :: st) σ Q := X_aloadn kX7_whyNotDone_48 rfl rfl
theorem kX7_whyNotDone_49 : aCode iX7_whyNotDone 49 = some (.aload_n 0, 1) := by decide +kernel
theorem sX7_whyNotDone_49 {d : Nat} {σ : aS} {Q : aQ} {x : Nat} {lt : aL} {st : List Value} : aX d iX7_whyNotDone 49 (some (.ref x) :: lt) (st) σ Q ↔ aX d iX7_whyNotDone 50 (some (.ref x) :: lt) (.ref x :: st) σ Q := X_aloadn kX7_whyNotDone_49 rfl rfl
theorem kX7_whyNotDone_50 : aCode iX7_whyNotDone 50 = some (.getfield 183, 3) := by decide +kernel
theorem sX7_whyNotDone_50 {d : Nat} {σ : aS} {Q : aQ} {a : Nat} {ls : aL} {st : List Value} : aX d iX7_whyNotDone 50 (ls) (.ref a :: st) σ Q ↔ ∃ v, aFld σ a 7 10 = some v ∧ aX d iX7_whyNotDone 53 (ls) (v :: st) σ Q := X_getf (w := 660) kX7_whyNotDone_50 (by decide +kernel)
theorem kX7_whyNotDone_53 : aCode iX7_whyNotDone 53 = some (.aload_n 0, 1) := by decide +kernel
theorem sX7_whyNotDone_53 {d : Nat} {σ : aS} {Q : aQ} {x : Nat} {lt : aL} {st : List Value} : aX d iX7_whyNotDone 53 (some (.ref x) :: lt) (st) σ Q ↔ aX d iX7_whyNotDone 54 (some (.ref x) :: lt) (.ref x :: st) σ Q := X_aloadn kX7_whyNotDone_53 rfl rfl
theorem kX7_whyNotDone_54 : aCode iX7_whyNotDone 54 = some (.getfield 192, 3) := by decide +kernel
theorem sX7_whyNotDone_54 {d : Nat} {σ : aS} {Q : aQ} {a : Nat} {ls : aL} {st : List Value} : aX d iX7_whyNotDone 54 (ls) (.ref a :: st) σ Q ↔ ∃ v, aFld σ a 7 11 = some v ∧ aX d iX7_whyNotDone 57 (ls) (v :: st) σ Q := X_getf (w := 661) kX7_whyNotDone_54 (by decide +kernel)
theorem kX7_whyNotDone_57 : aCode iX7_whyNotDone 57 = some (.invokevirtual 108, 3) := by decide +kernel
theorem sX7_whyNotDone_57 {d : Nat} {σ : aS} {Q : aQ} {b : Nat} {p0 : Int32} {p1 : Int32} {ls : aL} : aX (d + 1) iX7_whyNotDone 57 (ls) (.int p1 :: .int p0 :: .ref b :: []) σ Q ↔ aIs σ b 7 ∧ aX d iX7_whyNotSat 0 [some (.ref b), some (.int p0), some (.int p1)] [] σ (fun r τ => aX (d + 1) iX7_whyNotDone 60 (ls) (aret r ([])) τ Q) := X_invv (N := 2) (As := [.int p1, .int p0]) (w := 708) kX7_whyNotDone_57 (by decide +kernel) (by decide +kernel) rfl rfl (by simp only [List.length_cons, List.length_nil]; omega) (by simp only [List.length_cons, List.length_nil]; omega) (by decide +kernel) rfl (Nat.le_of_ble_eq_true rfl)
theorem kX7_whyNotDone_60 : aCode iX7_whyNotDone 60 = some (.ireturn, 1) := by decide +kernel
theorem sX7_whyNotDone_60 {d : Nat} {σ : aS} {Q : aQ} {v : Int32} {ls : aL} : aX d iX7_whyNotDone 60 (ls) ([.int v]) σ Q ↔ Q (some (.int v)) σ := X_iret kX7_whyNotDone_60 (by decide +kernel)
theorem kX7_whyNotDone_61 : aCode iX7_whyNotDone 61 = some (.aload_n 0, 1) := by decide +kernel
theorem sX7_whyNotDone_61 {d : Nat} {σ : aS} {Q : aQ} {x : Nat} {lt : aL} {st : List Value} : aX d iX7_whyNotDone 61 (some (.ref x) :: lt) (st) σ Q ↔ aX d iX7_whyNotDone 62 (some (.ref x) :: lt) (.ref x :: st) σ Q := X_aloadn kX7_whyNotDone_61 rfl rfl
theorem kX7_whyNotDone_62 : aCode iX7_whyNotDone 62 = some (.aload_n 0, 1) := by decide +kernel
theorem sX7_whyNotDone_62 {d : Nat} {σ : aS} {Q : aQ} {x : Nat} {lt : aL} {st : List Value} : aX d iX7_whyNotDone 62 (some (.ref x) :: lt) (st) σ Q ↔ aX d iX7_whyNotDone 63 (some (.ref x) :: lt) (.ref x :: st) σ Q := X_aloadn kX7_whyNotDone_62 rfl rfl
theorem kX7_whyNotDone_63 : aCode iX7_whyNotDone 63 = some (.getfield 183, 3) := by decide +kernel
theorem sX7_whyNotDone_63 {d : Nat} {σ : aS} {Q : aQ} {a : Nat} {ls : aL} {st : List Value} : aX d iX7_whyNotDone 63 (ls) (.ref a :: st) σ Q ↔ ∃ v, aFld σ a 7 10 = some v ∧ aX d iX7_whyNotDone 66 (ls) (v :: st) σ Q := X_getf (w := 660) kX7_whyNotDone_63 (by decide +kernel)
theorem kX7_whyNotDone_66 : aCode iX7_whyNotDone 66 = some (.invokevirtual 114, 3) := by decide +kernel
theorem sX7_whyNotDone_66 {d : Nat} {σ : aS} {Q : aQ} {b : Nat} {p0 : Int32} {ls : aL} : aX (d + 1) iX7_whyNotDone 66 (ls) (.int p0 :: .ref b :: []) σ Q ↔ aIs σ b 7 ∧ aX d iX7_whyNotLeft 0 [some (.ref b), some (.int p0)] [] σ (fun r τ => aX (d + 1) iX7_whyNotDone 69 (ls) (aret r ([])) τ Q) := X_invv (N := 1) (As := [.int p0]) (w := 726) kX7_whyNotDone_66 (by decide +kernel) (by decide +kernel) rfl rfl (by simp only [List.length_cons, List.length_nil]; omega) (by simp only [List.length_cons, List.length_nil]; omega) (by decide +kernel) rfl (Nat.le_of_ble_eq_true rfl)
theorem kX7_whyNotDone_69 : aCode iX7_whyNotDone 69 = some (.ireturn, 1) := by decide +kernel
theorem sX7_whyNotDone_69 {d : Nat} {σ : aS} {Q : aQ} {v : Int32} {ls : aL} : aX d iX7_whyNotDone 69 (ls) ([.int v]) σ Q ↔ Q (some (.int v)) σ := X_iret kX7_whyNotDone_69 (by decide +kernel)
theorem kX7_whyNotDone_70 : aCode iX7_whyNotDone 70 = some (.aload_n 0, 1) := by decide +kernel
theorem sX7_whyNotDone_70 {d : Nat} {σ : aS} {Q : aQ} {x : Nat} {lt : aL} {st : List Value} : aX d iX7_whyNotDone 70 (some (.ref x) :: lt) (st) σ Q ↔ aX d iX7_whyNotDone 71 (some (.ref x) :: lt) (.ref x :: st) σ Q := X_aloadn kX7_whyNotDone_70 rfl rfl
theorem kX7_whyNotDone_71 : aCode iX7_whyNotDone 71 = some (.aload_n 0, 1) := by decide +kernel
theorem sX7_whyNotDone_71 {d : Nat} {σ : aS} {Q : aQ} {x : Nat} {lt : aL} {st : List Value} : aX d iX7_whyNotDone 71 (some (.ref x) :: lt) (st) σ Q ↔ aX d iX7_whyNotDone 72 (some (.ref x) :: lt) (.ref x :: st) σ Q := X_aloadn kX7_whyNotDone_71 rfl rfl
theorem kX7_whyNotDone_72 : aCode iX7_whyNotDone 72 = some (.getfield 183, 3) := by decide +kernel
theorem sX7_whyNotDone_72 {d : Nat} {σ : aS} {Q : aQ} {a : Nat} {ls : aL} {st : List Value} : aX d iX7_whyNotDone 72 (ls) (.ref a :: st) σ Q ↔ ∃ v, aFld σ a 7 10 = some v ∧ aX d iX7_whyNotDone 75 (ls) (v :: st) σ Q := X_getf (w := 660) kX7_whyNotDone_72 (by decide +kernel)
theorem kX7_whyNotDone_75 : aCode iX7_whyNotDone 75 = some (.aload_n 0, 1) := by decide +kernel
theorem sX7_whyNotDone_75 {d : Nat} {σ : aS} {Q : aQ} {x : Nat} {lt : aL} {st : List Value} : aX d iX7_whyNotDone 75 (some (.ref x) :: lt) (st) σ Q ↔ aX d iX7_whyNotDone 76 (some (.ref x) :: lt) (.ref x :: st) σ Q := X_aloadn kX7_whyNotDone_75 rfl rfl
theorem kX7_whyNotDone_76 : aCode iX7_whyNotDone 76 = some (.getfield 192, 3) := by decide +kernel
theorem sX7_whyNotDone_76 {d : Nat} {σ : aS} {Q : aQ} {a : Nat} {ls : aL} {st : List Value} : aX d iX7_whyNotDone 76 (ls) (.ref a :: st) σ Q ↔ ∃ v, aFld σ a 7 11 = some v ∧ aX d iX7_whyNotDone 79 (ls) (v :: st) σ Q := X_getf (w := 661) kX7_whyNotDone_76 (by decide +kernel)
theorem kX7_whyNotDone_79 : aCode iX7_whyNotDone 79 = some (.invokevirtual 126, 3) := by decide +kernel
theorem sX7_whyNotDone_79 {d : Nat} {σ : aS} {Q : aQ} {b : Nat} {p0 : Int32} {p1 : Int32} {ls : aL} : aX (d + 1) iX7_whyNotDone 79 (ls) (.int p1 :: .int p0 :: .ref b :: []) σ Q ↔ aIs σ b 7 ∧ aX d iX7_whyNotBegun 0 [some (.ref b), some (.int p0), some (.int p1)] [] σ (fun r τ => aX (d + 1) iX7_whyNotDone 82 (ls) (aret r ([])) τ Q) := X_invv (N := 2) (As := [.int p1, .int p0]) (w := 742) kX7_whyNotDone_79 (by decide +kernel) (by decide +kernel) rfl rfl (by simp only [List.length_cons, List.length_nil]; omega) (by simp only [List.length_cons, List.length_nil]; omega) (by decide +kernel) rfl (Nat.le_of_ble_eq_true rfl)
theorem kX7_whyNotDone_82 : aCode iX7_whyNotDone 82 = some (.ireturn, 1) := by decide +kernel
theorem sX7_whyNotDone_82 {d : Nat} {σ : aS} {Q : aQ} {v : Int32} {ls : aL} : aX d iX7_whyNotDone 82 (ls) ([.int v]) σ Q ↔ Q (some (.int v)) σ := X_iret kX7_whyNotDone_82 (by decide +kernel)
theorem kX7_whyNotDone_83 : aCode iX7_whyNotDone 83 = some (.aload_n 0, 1) := by decide +kernel
theorem sX7_whyNotDone_83 {d : Nat} {σ : aS} {Q : aQ} {x : Nat} {lt : aL} {st : List Value} : aX d iX7_whyNotDone 83 (some (.ref x) :: lt) (st) σ Q ↔ aX d iX7_whyNotDone 84 (some (.ref x) :: lt) (.ref x :: st) σ Q := X_aloadn kX7_whyNotDone_83 rfl rfl
theorem kX7_whyNotDone_84 : aCode iX7_whyNotDone 84 = some (.aload_n 0, 1) := by decide +kernel
theorem sX7_whyNotDone_84 {d : Nat} {σ : aS} {Q : aQ} {x : Nat} {lt : aL} {st : List Value} : aX d iX7_whyNotDone 84 (some (.ref x) :: lt) (st) σ Q ↔ aX d iX7_whyNotDone 85 (some (.ref x) :: lt) (.ref x :: st) σ Q := X_aloadn kX7_whyNotDone_84 rfl rfl
theorem kX7_whyNotDone_85 : aCode iX7_whyNotDone 85 = some (.getfield 183, 3) := by decide +kernel
theorem sX7_whyNotDone_85 {d : Nat} {σ : aS} {Q : aQ} {a : Nat} {ls : aL} {st : List Value} : aX d iX7_whyNotDone 85 (ls) (.ref a :: st) σ Q ↔ ∃ v, aFld σ a 7 10 = some v ∧ aX d iX7_whyNotDone 88 (ls) (v :: st) σ Q := X_getf (w := 660) kX7_whyNotDone_85 (by decide +kernel)
theorem kX7_whyNotDone_88 : aCode iX7_whyNotDone 88 = some (.aload_n 0, 1) := by decide +kernel
theorem sX7_whyNotDone_88 {d : Nat} {σ : aS} {Q : aQ} {x : Nat} {lt : aL} {st : List Value} : aX d iX7_whyNotDone 88 (some (.ref x) :: lt) (st) σ Q ↔ aX d iX7_whyNotDone 89 (some (.ref x) :: lt) (.ref x :: st) σ Q := X_aloadn kX7_whyNotDone_88 rfl rfl
theorem kX7_whyNotDone_89 : aCode iX7_whyNotDone 89 = some (.getfield 192, 3) := by decide +kernel
theorem sX7_whyNotDone_89 {d : Nat} {σ : aS} {Q : aQ} {a : Nat} {ls : aL} {st : List Value} : aX d iX7_whyNotDone 89 (ls) (.ref a :: st) σ Q ↔ ∃ v, aFld σ a 7 11 = some v ∧ aX d iX7_whyNotDone 92 (ls) (v :: st) σ Q := X_getf (w := 661) kX7_whyNotDone_89 (by decide +kernel)
theorem kX7_whyNotDone_92 : aCode iX7_whyNotDone 92 = some (.invokevirtual 135, 3) := by decide +kernel
theorem sX7_whyNotDone_92 {d : Nat} {σ : aS} {Q : aQ} {b : Nat} {p0 : Int32} {p1 : Int32} {ls : aL} : aX (d + 1) iX7_whyNotDone 92 (ls) (.int p1 :: .int p0 :: .ref b :: []) σ Q ↔ aIs σ b 7 ∧ aX d iX7_whyNotTold 0 [some (.ref b), some (.int p0), some (.int p1), none] [] σ (fun r τ => aX (d + 1) iX7_whyNotDone 95 (ls) (aret r ([])) τ Q) := X_invv (N := 2) (As := [.int p1, .int p0]) (w := 778) kX7_whyNotDone_92 (by decide +kernel) (by decide +kernel) rfl rfl (by simp only [List.length_cons, List.length_nil]; omega) (by simp only [List.length_cons, List.length_nil]; omega) (by decide +kernel) rfl (Nat.le_of_ble_eq_true rfl)
theorem kX7_whyNotDone_95 : aCode iX7_whyNotDone 95 = some (.ireturn, 1) := by decide +kernel
theorem sX7_whyNotDone_95 {d : Nat} {σ : aS} {Q : aQ} {v : Int32} {ls : aL} : aX d iX7_whyNotDone 95 (ls) ([.int v]) σ Q ↔ Q (some (.int v)) σ := X_iret kX7_whyNotDone_95 (by decide +kernel)
theorem kX7_whyNotDone_96 : aCode iX7_whyNotDone 96 = some (.iconst 0, 1) := by decide +kernel
theorem sX7_whyNotDone_96 {d : Nat} {σ : aS} {Q : aQ} {ls : aL} {st : List Value} : aX d iX7_whyNotDone 96 (ls) (st) σ Q ↔ aX d iX7_whyNotDone 97 (ls) (.int (nI 0) :: st) σ Q := X_iconst kX7_whyNotDone_96 (by decide +kernel)
theorem kX7_whyNotDone_97 : aCode iX7_whyNotDone 97 = some (.ireturn, 1) := by decide +kernel
theorem sX7_whyNotDone_97 {d : Nat} {σ : aS} {Q : aQ} {v : Int32} {ls : aL} : aX d iX7_whyNotDone 97 (ls) ([.int v]) σ Q ↔ Q (some (.int v)) σ := X_iret kX7_whyNotDone_97 (by decide +kernel)
theorem kX7_does_0 : aCode iX7_does 0 = some (.aload_n 0, 1) := by decide +kernel
theorem sX7_does_0 {d : Nat} {σ : aS} {Q : aQ} {x : Nat} {lt : aL} {st : List Value} : aX d iX7_does 0 (some (.ref x) :: lt) (st) σ Q ↔ aX d iX7_does 1 (some (.ref x) :: lt) (.ref x :: st) σ Q := X_aloadn kX7_does_0 rfl rfl
theorem kX7_does_1 : aCode iX7_does 1 = some (.getfield 180, 3) := by decide +kernel
theorem sX7_does_1 {d : Nat} {σ : aS} {Q : aQ} {a : Nat} {ls : aL} {st : List Value} : aX d iX7_does 1 (ls) (.ref a :: st) σ Q ↔ ∃ v, aFld σ a 7 9 = some v ∧ aX d iX7_does 4 (ls) (v :: st) σ Q := X_getf (w := 659) kX7_does_1 (by decide +kernel)
theorem kX7_does_4 : aCode iX7_does 4 = some (.lookupswitch 135 #[(43, 52), (45, 68), (98, 80), (114, 112), (116, 96)], 52) := by decide +kernel
theorem sX7_does_4_43 {d : Nat} {σ : aS} {Q : aQ} {ls : aL} {st : List Value} : aX d iX7_does 4 (ls) (.int (nI 43) :: st) σ Q ↔ aX d iX7_does 56 (ls) (st) σ Q := X_lsw kX7_does_4 (by decide +kernel) (by decide +kernel)
theorem sX7_does_4_45 {d : Nat} {σ : aS} {Q : aQ} {ls : aL} {st : List Value} : aX d iX7_does 4 (ls) (.int (nI 45) :: st) σ Q ↔ aX d iX7_does 72 (ls) (st) σ Q := X_lsw kX7_does_4 (by decide +kernel) (by decide +kernel)
theorem sX7_does_4_98 {d : Nat} {σ : aS} {Q : aQ} {ls : aL} {st : List Value} : aX d iX7_does 4 (ls) (.int (nI 98) :: st) σ Q ↔ aX d iX7_does 84 (ls) (st) σ Q := X_lsw kX7_does_4 (by decide +kernel) (by decide +kernel)
theorem sX7_does_4_114 {d : Nat} {σ : aS} {Q : aQ} {ls : aL} {st : List Value} : aX d iX7_does 4 (ls) (.int (nI 114) :: st) σ Q ↔ aX d iX7_does 116 (ls) (st) σ Q := X_lsw kX7_does_4 (by decide +kernel) (by decide +kernel)
theorem sX7_does_4_116 {d : Nat} {σ : aS} {Q : aQ} {ls : aL} {st : List Value} : aX d iX7_does 4 (ls) (.int (nI 116) :: st) σ Q ↔ aX d iX7_does 100 (ls) (st) σ Q := X_lsw kX7_does_4 (by decide +kernel) (by decide +kernel)
theorem sX7_does_4_d {d : Nat} {σ : aS} {Q : aQ} {x : Int32} {ls : aL} {st : List Value} (h0 : ¬ x = nI 43) (h1 : ¬ x = nI 45) (h2 : ¬ x = nI 98) (h3 : ¬ x = nI 114) (h4 : ¬ x = nI 116) : aX d iX7_does 4 (ls) (.int x :: st) σ Q ↔ aX d iX7_does 139 (ls) (st) σ Q := by
  have g0 : ¬ (43 : Int) = x.toInt := fun z => h0 (Int32.toInt_inj.mp (z.symm.trans (by decide +kernel)))
  have g1 : ¬ (45 : Int) = x.toInt := fun z => h1 (Int32.toInt_inj.mp (z.symm.trans (by decide +kernel)))
  have g2 : ¬ (98 : Int) = x.toInt := fun z => h2 (Int32.toInt_inj.mp (z.symm.trans (by decide +kernel)))
  have g3 : ¬ (114 : Int) = x.toInt := fun z => h3 (Int32.toInt_inj.mp (z.symm.trans (by decide +kernel)))
  have g4 : ¬ (116 : Int) = x.toInt := fun z => h4 (Int32.toInt_inj.mp (z.symm.trans (by decide +kernel)))
  refine X_lsw kX7_does_4 (by decide +kernel) ?_
  simp only [Op.lookupswitch.offset_cons, g0, g1, g2, g3, g4, if_false]
  rfl
theorem kX7_does_56 : aCode iX7_does 56 = some (.aload_n 0, 1) := by decide +kernel
theorem sX7_does_56 {d : Nat} {σ : aS} {Q : aQ} {x : Nat} {lt : aL} {st : List Value} : aX d iX7_does 56 (some (.ref x) :: lt) (st) σ Q ↔ aX d iX7_does 57 (some (.ref x) :: lt) (.ref x :: st) σ Q := X_aloadn kX7_does_56 rfl rfl
theorem kX7_does_57 : aCode iX7_does 57 = some (.aload_n 0, 1) := by decide +kernel
theorem sX7_does_57 {d : Nat} {σ : aS} {Q : aQ} {x : Nat} {lt : aL} {st : List Value} : aX d iX7_does 57 (some (.ref x) :: lt) (st) σ Q ↔ aX d iX7_does 58 (some (.ref x) :: lt) (.ref x :: st) σ Q := X_aloadn kX7_does_57 rfl rfl
theorem kX7_does_58 : aCode iX7_does 58 = some (.getfield 183, 3) := by decide +kernel
theorem sX7_does_58 {d : Nat} {σ : aS} {Q : aQ} {a : Nat} {ls : aL} {st : List Value} : aX d iX7_does 58 (ls) (.ref a :: st) σ Q ↔ ∃ v, aFld σ a 7 10 = some v ∧ aX d iX7_does 61 (ls) (v :: st) σ Q := X_getf (w := 660) kX7_does_58 (by decide +kernel)
theorem kX7_does_61 : aCode iX7_does 61 = some (.aload_n 0, 1) := by decide +kernel
theorem sX7_does_61 {d : Nat} {σ : aS} {Q : aQ} {x : Nat} {lt : aL} {st : List Value} : aX d iX7_does 61 (some (.ref x) :: lt) (st) σ Q ↔ aX d iX7_does 62 (some (.ref x) :: lt) (.ref x :: st) σ Q := X_aloadn kX7_does_61 rfl rfl
theorem kX7_does_62 : aCode iX7_does 62 = some (.getfield 192, 3) := by decide +kernel
theorem sX7_does_62 {d : Nat} {σ : aS} {Q : aQ} {a : Nat} {ls : aL} {st : List Value} : aX d iX7_does 62 (ls) (.ref a :: st) σ Q ↔ ∃ v, aFld σ a 7 11 = some v ∧ aX d iX7_does 65 (ls) (v :: st) σ Q := X_getf (w := 661) kX7_does_62 (by decide +kernel)
theorem kX7_does_65 : aCode iX7_does 65 = some (.invokevirtual 111, 3) := by decide +kernel
theorem sX7_does_65 {d : Nat} {σ : aS} {Q : aQ} {b : Nat} {p0 : Int32} {p1 : Int32} {ls : aL} : aX (d + 1) iX7_does 65 (ls) (.int p1 :: .int p0 :: .ref b :: []) σ Q ↔ aIs σ b 7 ∧ aX d iX7_sat 0 [some (.ref b), some (.int p0), some (.int p1)] [] σ (fun r τ => aX (d + 1) iX7_does 68 (ls) (aret r ([])) τ Q) := X_invv (N := 2) (As := [.int p1, .int p0]) (w := 715) kX7_does_65 (by decide +kernel) (by decide +kernel) rfl rfl (by simp only [List.length_cons, List.length_nil]; omega) (by simp only [List.length_cons, List.length_nil]; omega) (by decide +kernel) rfl (Nat.le_of_ble_eq_true rfl)
theorem kX7_does_68 : aCode iX7_does 68 = some (.pop, 1) := by decide +kernel
theorem sX7_does_68 {d : Nat} {σ : aS} {Q : aQ} {x : Nat} {ls : aL} {st : List Value} : aX d iX7_does 68 (ls) (.ref x :: st) σ Q ↔ aX d iX7_does 69 (ls) (st) σ Q := X_pop kX7_does_68 rfl
theorem sX7_does_68i {d : Nat} {σ : aS} {Q : aQ} {x : Int32} {ls : aL} {st : List Value} : aX d iX7_does 68 (ls) (.int x :: st) σ Q ↔ aX d iX7_does 69 (ls) (st) σ Q := X_pop kX7_does_68 rfl
theorem kX7_does_69 : aCode iX7_does 69 = some (.goto 75, 3) := by decide +kernel
theorem sX7_does_69 {d : Nat} {σ : aS} {Q : aQ} {ls : aL} {st : List Value} : aX d iX7_does 69 (ls) (st) σ Q ↔ aX d iX7_does 144 (ls) (st) σ Q := X_goto kX7_does_69 (by decide)
theorem kX7_does_72 : aCode iX7_does 72 = some (.aload_n 0, 1) := by decide +kernel
theorem sX7_does_72 {d : Nat} {σ : aS} {Q : aQ} {x : Nat} {lt : aL} {st : List Value} : aX d iX7_does 72 (some (.ref x) :: lt) (st) σ Q ↔ aX d iX7_does 73 (some (.ref x) :: lt) (.ref x :: st) σ Q := X_aloadn kX7_does_72 rfl rfl
theorem kX7_does_73 : aCode iX7_does 73 = some (.aload_n 0, 1) := by decide +kernel
theorem sX7_does_73 {d : Nat} {σ : aS} {Q : aQ} {x : Nat} {lt : aL} {st : List Value} : aX d iX7_does 73 (some (.ref x) :: lt) (st) σ Q ↔ aX d iX7_does 74 (some (.ref x) :: lt) (.ref x :: st) σ Q := X_aloadn kX7_does_73 rfl rfl
theorem kX7_does_74 : aCode iX7_does 74 = some (.getfield 183, 3) := by decide +kernel
theorem sX7_does_74 {d : Nat} {σ : aS} {Q : aQ} {a : Nat} {ls : aL} {st : List Value} : aX d iX7_does 74 (ls) (.ref a :: st) σ Q ↔ ∃ v, aFld σ a 7 10 = some v ∧ aX d iX7_does 77 (ls) (v :: st) σ Q := X_getf (w := 660) kX7_does_74 (by decide +kernel)
theorem kX7_does_77 : aCode iX7_does 77 = some (.invokevirtual 117, 3) := by decide +kernel
theorem sX7_does_77 {d : Nat} {σ : aS} {Q : aQ} {b : Nat} {p0 : Int32} {ls : aL} : aX (d + 1) iX7_does 77 (ls) (.int p0 :: .ref b :: []) σ Q ↔ aIs σ b 7 ∧ aX d iX7_left 0 [some (.ref b), some (.int p0)] [] σ (fun r τ => aX (d + 1) iX7_does 80 (ls) (aret r ([])) τ Q) := X_invv (N := 1) (As := [.int p0]) (w := 734) kX7_does_77 (by decide +kernel) (by decide +kernel) rfl rfl (by simp only [List.length_cons, List.length_nil]; omega) (by simp only [List.length_cons, List.length_nil]; omega) (by decide +kernel) rfl (Nat.le_of_ble_eq_true rfl)
theorem kX7_does_80 : aCode iX7_does 80 = some (.pop, 1) := by decide +kernel
theorem sX7_does_80 {d : Nat} {σ : aS} {Q : aQ} {x : Nat} {ls : aL} {st : List Value} : aX d iX7_does 80 (ls) (.ref x :: st) σ Q ↔ aX d iX7_does 81 (ls) (st) σ Q := X_pop kX7_does_80 rfl
theorem sX7_does_80i {d : Nat} {σ : aS} {Q : aQ} {x : Int32} {ls : aL} {st : List Value} : aX d iX7_does 80 (ls) (.int x :: st) σ Q ↔ aX d iX7_does 81 (ls) (st) σ Q := X_pop kX7_does_80 rfl
theorem kX7_does_81 : aCode iX7_does 81 = some (.goto 63, 3) := by decide +kernel
theorem sX7_does_81 {d : Nat} {σ : aS} {Q : aQ} {ls : aL} {st : List Value} : aX d iX7_does 81 (ls) (st) σ Q ↔ aX d iX7_does 144 (ls) (st) σ Q := X_goto kX7_does_81 (by decide)
theorem kX7_does_84 : aCode iX7_does 84 = some (.aload_n 0, 1) := by decide +kernel
theorem sX7_does_84 {d : Nat} {σ : aS} {Q : aQ} {x : Nat} {lt : aL} {st : List Value} : aX d iX7_does 84 (some (.ref x) :: lt) (st) σ Q ↔ aX d iX7_does 85 (some (.ref x) :: lt) (.ref x :: st) σ Q := X_aloadn kX7_does_84 rfl rfl
theorem kX7_does_85 : aCode iX7_does 85 = some (.aload_n 0, 1) := by decide +kernel
theorem sX7_does_85 {d : Nat} {σ : aS} {Q : aQ} {x : Nat} {lt : aL} {st : List Value} : aX d iX7_does 85 (some (.ref x) :: lt) (st) σ Q ↔ aX d iX7_does 86 (some (.ref x) :: lt) (.ref x :: st) σ Q := X_aloadn kX7_does_85 rfl rfl
theorem kX7_does_86 : aCode iX7_does 86 = some (.getfield 183, 3) := by decide +kernel
theorem sX7_does_86 {d : Nat} {σ : aS} {Q : aQ} {a : Nat} {ls : aL} {st : List Value} : aX d iX7_does 86 (ls) (.ref a :: st) σ Q ↔ ∃ v, aFld σ a 7 10 = some v ∧ aX d iX7_does 89 (ls) (v :: st) σ Q := X_getf (w := 660) kX7_does_86 (by decide +kernel)
theorem kX7_does_89 : aCode iX7_does 89 = some (.aload_n 0, 1) := by decide +kernel
theorem sX7_does_89 {d : Nat} {σ : aS} {Q : aQ} {x : Nat} {lt : aL} {st : List Value} : aX d iX7_does 89 (some (.ref x) :: lt) (st) σ Q ↔ aX d iX7_does 90 (some (.ref x) :: lt) (.ref x :: st) σ Q := X_aloadn kX7_does_89 rfl rfl
theorem kX7_does_90 : aCode iX7_does 90 = some (.getfield 192, 3) := by decide +kernel
theorem sX7_does_90 {d : Nat} {σ : aS} {Q : aQ} {a : Nat} {ls : aL} {st : List Value} : aX d iX7_does 90 (ls) (.ref a :: st) σ Q ↔ ∃ v, aFld σ a 7 11 = some v ∧ aX d iX7_does 93 (ls) (v :: st) σ Q := X_getf (w := 661) kX7_does_90 (by decide +kernel)
theorem kX7_does_93 : aCode iX7_does 93 = some (.invokevirtual 129, 3) := by decide +kernel
theorem sX7_does_93 {d : Nat} {σ : aS} {Q : aQ} {b : Nat} {p0 : Int32} {p1 : Int32} {ls : aL} : aX (d + 1) iX7_does 93 (ls) (.int p1 :: .int p0 :: .ref b :: []) σ Q ↔ aIs σ b 7 ∧ aX d iX7_begun 0 [some (.ref b), some (.int p0), some (.int p1), none] [] σ (fun r τ => aX (d + 1) iX7_does 96 (ls) (aret r ([])) τ Q) := X_invv (N := 2) (As := [.int p1, .int p0]) (w := 758) kX7_does_93 (by decide +kernel) (by decide +kernel) rfl rfl (by simp only [List.length_cons, List.length_nil]; omega) (by simp only [List.length_cons, List.length_nil]; omega) (by decide +kernel) rfl (Nat.le_of_ble_eq_true rfl)
theorem kX7_does_96 : aCode iX7_does 96 = some (.pop, 1) := by decide +kernel
theorem sX7_does_96 {d : Nat} {σ : aS} {Q : aQ} {x : Nat} {ls : aL} {st : List Value} : aX d iX7_does 96 (ls) (.ref x :: st) σ Q ↔ aX d iX7_does 97 (ls) (st) σ Q := X_pop kX7_does_96 rfl
theorem sX7_does_96i {d : Nat} {σ : aS} {Q : aQ} {x : Int32} {ls : aL} {st : List Value} : aX d iX7_does 96 (ls) (.int x :: st) σ Q ↔ aX d iX7_does 97 (ls) (st) σ Q := X_pop kX7_does_96 rfl
theorem kX7_does_97 : aCode iX7_does 97 = some (.goto 47, 3) := by decide +kernel
theorem sX7_does_97 {d : Nat} {σ : aS} {Q : aQ} {ls : aL} {st : List Value} : aX d iX7_does 97 (ls) (st) σ Q ↔ aX d iX7_does 144 (ls) (st) σ Q := X_goto kX7_does_97 (by decide)
theorem kX7_does_100 : aCode iX7_does 100 = some (.aload_n 0, 1) := by decide +kernel
theorem sX7_does_100 {d : Nat} {σ : aS} {Q : aQ} {x : Nat} {lt : aL} {st : List Value} : aX d iX7_does 100 (some (.ref x) :: lt) (st) σ Q ↔ aX d iX7_does 101 (some (.ref x) :: lt) (.ref x :: st) σ Q := X_aloadn kX7_does_100 rfl rfl
theorem kX7_does_101 : aCode iX7_does 101 = some (.aload_n 0, 1) := by decide +kernel
theorem sX7_does_101 {d : Nat} {σ : aS} {Q : aQ} {x : Nat} {lt : aL} {st : List Value} : aX d iX7_does 101 (some (.ref x) :: lt) (st) σ Q ↔ aX d iX7_does 102 (some (.ref x) :: lt) (.ref x :: st) σ Q := X_aloadn kX7_does_101 rfl rfl
theorem kX7_does_102 : aCode iX7_does 102 = some (.getfield 183, 3) := by decide +kernel
theorem sX7_does_102 {d : Nat} {σ : aS} {Q : aQ} {a : Nat} {ls : aL} {st : List Value} : aX d iX7_does 102 (ls) (.ref a :: st) σ Q ↔ ∃ v, aFld σ a 7 10 = some v ∧ aX d iX7_does 105 (ls) (v :: st) σ Q := X_getf (w := 660) kX7_does_102 (by decide +kernel)
theorem kX7_does_105 : aCode iX7_does 105 = some (.aload_n 0, 1) := by decide +kernel
theorem sX7_does_105 {d : Nat} {σ : aS} {Q : aQ} {x : Nat} {lt : aL} {st : List Value} : aX d iX7_does 105 (some (.ref x) :: lt) (st) σ Q ↔ aX d iX7_does 106 (some (.ref x) :: lt) (.ref x :: st) σ Q := X_aloadn kX7_does_105 rfl rfl
theorem kX7_does_106 : aCode iX7_does 106 = some (.getfield 192, 3) := by decide +kernel
theorem sX7_does_106 {d : Nat} {σ : aS} {Q : aQ} {a : Nat} {ls : aL} {st : List Value} : aX d iX7_does 106 (ls) (.ref a :: st) σ Q ↔ ∃ v, aFld σ a 7 11 = some v ∧ aX d iX7_does 109 (ls) (v :: st) σ Q := X_getf (w := 661) kX7_does_106 (by decide +kernel)
theorem kX7_does_109 : aCode iX7_does 109 = some (.invokevirtual 138, 3) := by decide +kernel
theorem sX7_does_109 {d : Nat} {σ : aS} {Q : aQ} {b : Nat} {p0 : Int32} {p1 : Int32} {ls : aL} : aX (d + 1) iX7_does 109 (ls) (.int p1 :: .int p0 :: .ref b :: []) σ Q ↔ aIs σ b 7 ∧ aX d iX7_tells 0 [some (.ref b), some (.int p0), some (.int p1), none] [] σ (fun r τ => aX (d + 1) iX7_does 112 (ls) (aret r ([])) τ Q) := X_invv (N := 2) (As := [.int p1, .int p0]) (w := 786) kX7_does_109 (by decide +kernel) (by decide +kernel) rfl rfl (by simp only [List.length_cons, List.length_nil]; omega) (by simp only [List.length_cons, List.length_nil]; omega) (by decide +kernel) rfl (Nat.le_of_ble_eq_true rfl)
theorem kX7_does_112 : aCode iX7_does 112 = some (.pop, 1) := by decide +kernel
theorem sX7_does_112 {d : Nat} {σ : aS} {Q : aQ} {x : Nat} {ls : aL} {st : List Value} : aX d iX7_does 112 (ls) (.ref x :: st) σ Q ↔ aX d iX7_does 113 (ls) (st) σ Q := X_pop kX7_does_112 rfl
theorem sX7_does_112i {d : Nat} {σ : aS} {Q : aQ} {x : Int32} {ls : aL} {st : List Value} : aX d iX7_does 112 (ls) (.int x :: st) σ Q ↔ aX d iX7_does 113 (ls) (st) σ Q := X_pop kX7_does_112 rfl
theorem kX7_does_113 : aCode iX7_does 113 = some (.goto 31, 3) := by decide +kernel
theorem sX7_does_113 {d : Nat} {σ : aS} {Q : aQ} {ls : aL} {st : List Value} : aX d iX7_does 113 (ls) (st) σ Q ↔ aX d iX7_does 144 (ls) (st) σ Q := X_goto kX7_does_113 (by decide)
theorem kX7_does_116 : aCode iX7_does 116 = some (.iconst 0, 1) := by decide +kernel
theorem sX7_does_116 {d : Nat} {σ : aS} {Q : aQ} {ls : aL} {st : List Value} : aX d iX7_does 116 (ls) (st) σ Q ↔ aX d iX7_does 117 (ls) (.int (nI 0) :: st) σ Q := X_iconst kX7_does_116 (by decide +kernel)
theorem kX7_does_117 : aCode iX7_does 117 = some (.istore_n 1, 1) := by decide +kernel
theorem sX7_does_117 {d : Nat} {σ : aS} {Q : aQ} {l0 lo : Option Value} {x : Int32} {lt : aL} {st : List Value} : aX d iX7_does 117 (l0 :: lo :: lt) (.int x :: st) σ Q ↔ aX d iX7_does 118 (aclr l0 :: some (.int x) :: lt) (st) σ Q := X_istoren kX7_does_117 (by simp only [List.length_cons]; omega)
theorem kX7_does_118 : aCode iX7_does 118 = some (.iload_n 1, 1) := by decide +kernel
theorem sX7_does_118 {d : Nat} {σ : aS} {Q : aQ} {l0 : Option Value} {x : Int32} {lt : aL} {st : List Value} : aX d iX7_does 118 (l0 :: some (.int x) :: lt) (st) σ Q ↔ aX d iX7_does 119 (l0 :: some (.int x) :: lt) (.int x :: st) σ Q := X_iloadn kX7_does_118 rfl
theorem kX7_does_119 : aCode iX7_does 119 = some (.aload_n 0, 1) := by decide +kernel
theorem sX7_does_119 {d : Nat} {σ : aS} {Q : aQ} {x : Nat} {lt : aL} {st : List Value} : aX d iX7_does 119 (some (.ref x) :: lt) (st) σ Q ↔ aX d iX7_does 120 (some (.ref x) :: lt) (.ref x :: st) σ Q := X_aloadn kX7_does_119 rfl rfl
theorem kX7_does_120 : aCode iX7_does 120 = some (.getfield 183, 3) := by decide +kernel
theorem sX7_does_120 {d : Nat} {σ : aS} {Q : aQ} {a : Nat} {ls : aL} {st : List Value} : aX d iX7_does 120 (ls) (.ref a :: st) σ Q ↔ ∃ v, aFld σ a 7 10 = some v ∧ aX d iX7_does 123 (ls) (v :: st) σ Q := X_getf (w := 660) kX7_does_120 (by decide +kernel)
theorem kX7_does_123 : aCode iX7_does 123 = some (.if_icmp .ge 13, 3) := by decide +kernel
theorem sX7_does_123 {d : Nat} {σ : aS} {Q : aQ} {x y : Int32} {ls : aL} {st : List Value} : aX d iX7_does 123 (ls) (.int y :: .int x :: st) σ Q ↔ (if y ≤ x then aX d iX7_does 136 (ls) (st) σ Q else aX d iX7_does 126 (ls) (st) σ Q) := by rw [X_icmp kX7_does_123 (t := 136) (by decide)]; simp only [aCmp_ge]
theorem kX7_does_126 : aCode iX7_does 126 = some (.aload_n 0, 1) := by decide +kernel
theorem sX7_does_126 {d : Nat} {σ : aS} {Q : aQ} {x : Nat} {lt : aL} {st : List Value} : aX d iX7_does 126 (some (.ref x) :: lt) (st) σ Q ↔ aX d iX7_does 127 (some (.ref x) :: lt) (.ref x :: st) σ Q := X_aloadn kX7_does_126 rfl rfl
theorem kX7_does_127 : aCode iX7_does 127 = some (.invokevirtual 141, 3) := by decide +kernel
theorem sX7_does_127 {d : Nat} {σ : aS} {Q : aQ} {b : Nat} {ls : aL} : aX (d + 1) iX7_does 127 (ls) (.ref b :: []) σ Q ↔ aIs σ b 7 ∧ aX d iX7_makesRound 0 [some (.ref b), none, none] [] σ (fun r τ => aX (d + 1) iX7_does 130 (ls) (aret r ([])) τ Q) := X_invv (N := 0) (As := []) (w := 794) kX7_does_127 (by decide +kernel) (by decide +kernel) rfl rfl (by simp only [List.length_cons, List.length_nil]; omega) (by simp only [List.length_cons, List.length_nil]; omega) (by decide +kernel) rfl (Nat.le_of_ble_eq_true rfl)
theorem kX7_does_130 : aCode iX7_does 130 = some (.iinc 1 1, 3) := by decide +kernel
theorem sX7_does_130 {d : Nat} {σ : aS} {Q : aQ} {l0 : Option Value} {x : Int32} {lt : aL} {st : List Value} : aX d iX7_does 130 (l0 :: some (.int x) :: lt) (st) σ Q ↔ aX d iX7_does 133 (aclr l0 :: some (.int (x + nI 1)) :: lt) (st) σ Q := X_iinc kX7_does_130 rfl (by decide +kernel)
theorem kX7_does_133 : aCode iX7_does 133 = some (.goto (-15), 3) := by decide +kernel
theorem sX7_does_133 {d : Nat} {σ : aS} {Q : aQ} {ls : aL} {st : List Value} : aX d iX7_does 133 (ls) (st) σ Q ↔ aX d iX7_does 118 (ls) (st) σ Q := X_goto kX7_does_133 (by decide)
theorem kX7_does_136 : aCode iX7_does 136 = some (.goto 8, 3) := by decide +kernel
theorem sX7_does_136 {d : Nat} {σ : aS} {Q : aQ} {ls : aL} {st : List Value} : aX d iX7_does 136 (ls) (st) σ Q ↔ aX d iX7_does 144 (ls) (st) σ Q := X_goto kX7_does_136 (by decide)
theorem kX7_does_139 : aCode iX7_does 139 = some (.aload_n 0, 1) := by decide +kernel
theorem sX7_does_139 {d : Nat} {σ : aS} {Q : aQ} {x : Nat} {lt : aL} {st : List Value} : aX d iX7_does 139 (some (.ref x) :: lt) (st) σ Q ↔ aX d iX7_does 140 (some (.ref x) :: lt) (.ref x :: st) σ Q := X_aloadn kX7_does_139 rfl rfl
theorem kX7_does_140 : aCode iX7_does 140 = some (.invokevirtual 147, 3) := by decide +kernel
theorem sX7_does_140 {d : Nat} {σ : aS} {Q : aQ} {b : Nat} {ls : aL} : aX (d + 1) iX7_does 140 (ls) (.ref b :: []) σ Q ↔ aIs σ b 7 ∧ aX d iX7_cleared 0 [some (.ref b), none, none, none] [] σ (fun r τ => aX (d + 1) iX7_does 143 (ls) (aret r ([])) τ Q) := X_invv (N := 0) (As := []) (w := 850) kX7_does_140 (by decide +kernel) (by decide +kernel) rfl rfl (by simp only [List.length_cons, List.length_nil]; omega) (by simp only [List.length_cons, List.length_nil]; omega) (by decide +kernel) rfl (Nat.le_of_ble_eq_true rfl)
theorem kX7_does_143 : aCode iX7_does 143 = some (.pop, 1) := by decide +kernel
theorem sX7_does_143 {d : Nat} {σ : aS} {Q : aQ} {x : Nat} {ls : aL} {st : List Value} : aX d iX7_does 143 (ls) (.ref x :: st) σ Q ↔ aX d iX7_does 144 (ls) (st) σ Q := X_pop kX7_does_143 rfl
theorem sX7_does_143i {d : Nat} {σ : aS} {Q : aQ} {x : Int32} {ls : aL} {st : List Value} : aX d iX7_does 143 (ls) (.int x :: st) σ Q ↔ aX d iX7_does 144 (ls) (st) σ Q := X_pop kX7_does_143 rfl
theorem kX7_does_144 : aCode iX7_does 144 = some (.return_, 1) := by decide +kernel
theorem sX7_does_144 {d : Nat} {σ : aS} {Q : aQ} {ls : aL} : aX d iX7_does 144 (ls) ([]) σ Q ↔ Q none σ := X_vret kX7_does_144 (by decide +kernel)
theorem kX7_carryOut_0 : aCode iX7_carryOut 0 = some (.aload_n 0, 1) := by decide +kernel
theorem sX7_carryOut_0 {d : Nat} {σ : aS} {Q : aQ} {x : Nat} {lt : aL} {st : List Value} : aX d iX7_carryOut 0 (some (.ref x) :: lt) (st) σ Q ↔ aX d iX7_carryOut 1 (some (.ref x) :: lt) (.ref x :: st) σ Q := X_aloadn kX7_carryOut_0 rfl rfl
theorem kX7_carryOut_1 : aCode iX7_carryOut 1 = some (.invokevirtual 199, 3) := by decide +kernel
theorem sX7_carryOut_1 {d : Nat} {σ : aS} {Q : aQ} {b : Nat} {ls : aL} : aX (d + 1) iX7_carryOut 1 (ls) (.ref b :: []) σ Q ↔ aIs σ b 7 ∧ aX d iX7_findFault 0 [some (.ref b)] [] σ (fun r τ => aX (d + 1) iX7_carryOut 4 (ls) (aret r ([])) τ Q) := X_invv (N := 0) (As := []) (w := 923) kX7_carryOut_1 (by decide +kernel) (by decide +kernel) rfl rfl (by simp only [List.length_cons, List.length_nil]; omega) (by simp only [List.length_cons, List.length_nil]; omega) (by decide +kernel) rfl (Nat.le_of_ble_eq_true rfl)
theorem kX7_carryOut_4 : aCode iX7_carryOut 4 = some (.bipush (-6), 2) := by decide +kernel
theorem sX7_carryOut_4 {d : Nat} {σ : aS} {Q : aQ} {ls : aL} {st : List Value} : aX d iX7_carryOut 4 (ls) (st) σ Q ↔ aX d iX7_carryOut 6 (ls) (.int ((-6)) :: st) σ Q := X_bipush kX7_carryOut_4 (by decide +kernel)
theorem kX7_carryOut_6 : aCode iX7_carryOut 6 = some (.if_icmp .eq 6, 3) := by decide +kernel
theorem sX7_carryOut_6 {d : Nat} {σ : aS} {Q : aQ} {x y : Int32} {ls : aL} {st : List Value} : aX d iX7_carryOut 6 (ls) (.int y :: .int x :: st) σ Q ↔ (if x = y then aX d iX7_carryOut 12 (ls) (st) σ Q else aX d iX7_carryOut 9 (ls) (st) σ Q) := by rw [X_icmp kX7_carryOut_6 (t := 12) (by decide)]; simp only [aCmp_eq]
theorem kX7_carryOut_9 : aCode iX7_carryOut 9 = some (.bipush (-3), 2) := by decide +kernel
theorem sX7_carryOut_9 {d : Nat} {σ : aS} {Q : aQ} {ls : aL} {st : List Value} : aX d iX7_carryOut 9 (ls) (st) σ Q ↔ aX d iX7_carryOut 11 (ls) (.int ((-3)) :: st) σ Q := X_bipush kX7_carryOut_9 (by decide +kernel)
theorem kX7_carryOut_11 : aCode iX7_carryOut 11 = some (.ireturn, 1) := by decide +kernel
theorem sX7_carryOut_11 {d : Nat} {σ : aS} {Q : aQ} {v : Int32} {ls : aL} : aX d iX7_carryOut 11 (ls) ([.int v]) σ Q ↔ Q (some (.int v)) σ := X_iret kX7_carryOut_11 (by decide +kernel)
theorem kX7_carryOut_12 : aCode iX7_carryOut 12 = some (.aload_n 0, 1) := by decide +kernel
theorem sX7_carryOut_12 {d : Nat} {σ : aS} {Q : aQ} {x : Nat} {lt : aL} {st : List Value} : aX d iX7_carryOut 12 (some (.ref x) :: lt) (st) σ Q ↔ aX d iX7_carryOut 13 (some (.ref x) :: lt) (.ref x :: st) σ Q := X_aloadn kX7_carryOut_12 rfl rfl
theorem kX7_carryOut_13 : aCode iX7_carryOut 13 = some (.invokevirtual 102, 3) := by decide +kernel
theorem sX7_carryOut_13 {d : Nat} {σ : aS} {Q : aQ} {b : Nat} {ls : aL} : aX (d + 1) iX7_carryOut 13 (ls) (.ref b :: []) σ Q ↔ aIs σ b 7 ∧ aX d iX7_record 0 [some (.ref b), none] [] σ (fun r τ => aX (d + 1) iX7_carryOut 16 (ls) (aret r ([])) τ Q) := X_invv (N := 0) (As := []) (w := 697) kX7_carryOut_13 (by decide +kernel) (by decide +kernel) rfl rfl (by simp only [List.length_cons, List.length_nil]; omega) (by simp only [List.length_cons, List.length_nil]; omega) (by decide +kernel) rfl (Nat.le_of_ble_eq_true rfl)
theorem kX7_carryOut_16 : aCode iX7_carryOut 16 = some (.iconst 0, 1) := by decide +kernel
theorem sX7_carryOut_16 {d : Nat} {σ : aS} {Q : aQ} {ls : aL} {st : List Value} : aX d iX7_carryOut 16 (ls) (st) σ Q ↔ aX d iX7_carryOut 17 (ls) (.int (nI 0) :: st) σ Q := X_iconst kX7_carryOut_16 (by decide +kernel)
theorem kX7_carryOut_17 : aCode iX7_carryOut 17 = some (.istore_n 1, 1) := by decide +kernel
theorem sX7_carryOut_17 {d : Nat} {σ : aS} {Q : aQ} {l0 lo : Option Value} {x : Int32} {lt : aL} {st : List Value} : aX d iX7_carryOut 17 (l0 :: lo :: lt) (.int x :: st) σ Q ↔ aX d iX7_carryOut 18 (aclr l0 :: some (.int x) :: lt) (st) σ Q := X_istoren kX7_carryOut_17 (by simp only [List.length_cons]; omega)
theorem kX7_carryOut_18 : aCode iX7_carryOut 18 = some (.aload_n 0, 1) := by decide +kernel
theorem sX7_carryOut_18 {d : Nat} {σ : aS} {Q : aQ} {x : Nat} {lt : aL} {st : List Value} : aX d iX7_carryOut 18 (some (.ref x) :: lt) (st) σ Q ↔ aX d iX7_carryOut 19 (some (.ref x) :: lt) (.ref x :: st) σ Q := X_aloadn kX7_carryOut_18 rfl rfl
theorem kX7_carryOut_19 : aCode iX7_carryOut 19 = some (.iconst 0, 1) := by decide +kernel
theorem sX7_carryOut_19 {d : Nat} {σ : aS} {Q : aQ} {ls : aL} {st : List Value} : aX d iX7_carryOut 19 (ls) (st) σ Q ↔ aX d iX7_carryOut 20 (ls) (.int (nI 0) :: st) σ Q := X_iconst kX7_carryOut_19 (by decide +kernel)
theorem kX7_carryOut_20 : aCode iX7_carryOut 20 = some (.putfield 171, 3) := by decide +kernel
theorem sX7_carryOut_20 {d : Nat} {σ : aS} {Q : aQ} {x : Int32} {a : Nat} {ls : aL} {st : List Value} : aX d iX7_carryOut 20 (ls) (.int x :: .ref a :: st) σ Q ↔ ∃ fs, aFds σ a 7 = some fs ∧ 8 < fs.length ∧ aX d iX7_carryOut 23 (ls) (st) (aput σ a (eO 7 (fs.set 8 (.int x)))) Q := X_putf (w := 658) kX7_carryOut_20 (by decide +kernel) (aFit_I (by decide +kernel)) (by decide +kernel)
theorem kX7_carryOut_23 : aCode iX7_carryOut 23 = some (.iconst 1, 1) := by decide +kernel
theorem sX7_carryOut_23 {d : Nat} {σ : aS} {Q : aQ} {ls : aL} {st : List Value} : aX d iX7_carryOut 23 (ls) (st) σ Q ↔ aX d iX7_carryOut 24 (ls) (.int (nI 1) :: st) σ Q := X_iconst kX7_carryOut_23 (by decide +kernel)
theorem kX7_carryOut_24 : aCode iX7_carryOut 24 = some (.istore_n 2, 1) := by decide +kernel
theorem sX7_carryOut_24 {d : Nat} {σ : aS} {Q : aQ} {l0 l1 lo : Option Value} {x : Int32} {lt : aL} {st : List Value} : aX d iX7_carryOut 24 (l0 :: l1 :: lo :: lt) (.int x :: st) σ Q ↔ aX d iX7_carryOut 25 (l0 :: aclr l1 :: some (.int x) :: lt) (st) σ Q := X_istoren kX7_carryOut_24 (by simp only [List.length_cons]; omega)
theorem kX7_carryOut_25 : aCode iX7_carryOut 25 = some (.iload_n 2, 1) := by decide +kernel
theorem sX7_carryOut_25 {d : Nat} {σ : aS} {Q : aQ} {l0 l1 : Option Value} {x : Int32} {lt : aL} {st : List Value} : aX d iX7_carryOut 25 (l0 :: l1 :: some (.int x) :: lt) (st) σ Q ↔ aX d iX7_carryOut 26 (l0 :: l1 :: some (.int x) :: lt) (.int x :: st) σ Q := X_iloadn kX7_carryOut_25 rfl
theorem kX7_carryOut_26 : aCode iX7_carryOut 26 = some (.ifCond .eq 53, 3) := by decide +kernel
theorem sX7_carryOut_26 {d : Nat} {σ : aS} {Q : aQ} {x : Int32} {ls : aL} {st : List Value} : aX d iX7_carryOut 26 (ls) (.int x :: st) σ Q ↔ (if x = nI 0 then aX d iX7_carryOut 79 (ls) (st) σ Q else aX d iX7_carryOut 29 (ls) (st) σ Q) := by rw [X_if kX7_carryOut_26 (t := 79) (by decide)]; simp only [aCmp_eq]
theorem kX7_carryOut_29 : aCode iX7_carryOut 29 = some (.aload_n 0, 1) := by decide +kernel
theorem sX7_carryOut_29 {d : Nat} {σ : aS} {Q : aQ} {x : Nat} {lt : aL} {st : List Value} : aX d iX7_carryOut 29 (some (.ref x) :: lt) (st) σ Q ↔ aX d iX7_carryOut 30 (some (.ref x) :: lt) (.ref x :: st) σ Q := X_aloadn kX7_carryOut_29 rfl rfl
theorem kX7_carryOut_30 : aCode iX7_carryOut 30 = some (.getfield 171, 3) := by decide +kernel
theorem sX7_carryOut_30 {d : Nat} {σ : aS} {Q : aQ} {a : Nat} {ls : aL} {st : List Value} : aX d iX7_carryOut 30 (ls) (.ref a :: st) σ Q ↔ ∃ v, aFld σ a 7 8 = some v ∧ aX d iX7_carryOut 33 (ls) (v :: st) σ Q := X_getf (w := 658) kX7_carryOut_30 (by decide +kernel)
theorem kX7_carryOut_33 : aCode iX7_carryOut 33 = some (.aload_n 0, 1) := by decide +kernel
theorem sX7_carryOut_33 {d : Nat} {σ : aS} {Q : aQ} {x : Nat} {lt : aL} {st : List Value} : aX d iX7_carryOut 33 (some (.ref x) :: lt) (st) σ Q ↔ aX d iX7_carryOut 34 (some (.ref x) :: lt) (.ref x :: st) σ Q := X_aloadn kX7_carryOut_33 rfl rfl
theorem kX7_carryOut_34 : aCode iX7_carryOut 34 = some (.getfield 163, 3) := by decide +kernel
theorem sX7_carryOut_34 {d : Nat} {σ : aS} {Q : aQ} {a : Nat} {ls : aL} {st : List Value} : aX d iX7_carryOut 34 (ls) (.ref a :: st) σ Q ↔ ∃ v, aFld σ a 7 7 = some v ∧ aX d iX7_carryOut 37 (ls) (v :: st) σ Q := X_getf (w := 657) kX7_carryOut_34 (by decide +kernel)
theorem kX7_carryOut_37 : aCode iX7_carryOut 37 = some (.if_icmp .ge 42, 3) := by decide +kernel
theorem sX7_carryOut_37 {d : Nat} {σ : aS} {Q : aQ} {x y : Int32} {ls : aL} {st : List Value} : aX d iX7_carryOut 37 (ls) (.int y :: .int x :: st) σ Q ↔ (if y ≤ x then aX d iX7_carryOut 79 (ls) (st) σ Q else aX d iX7_carryOut 40 (ls) (st) σ Q) := by rw [X_icmp kX7_carryOut_37 (t := 79) (by decide)]; simp only [aCmp_ge]
theorem kX7_carryOut_40 : aCode iX7_carryOut 40 = some (.aload_n 0, 1) := by decide +kernel
theorem sX7_carryOut_40 {d : Nat} {σ : aS} {Q : aQ} {x : Nat} {lt : aL} {st : List Value} : aX d iX7_carryOut 40 (some (.ref x) :: lt) (st) σ Q ↔ aX d iX7_carryOut 41 (some (.ref x) :: lt) (.ref x :: st) σ Q := X_aloadn kX7_carryOut_40 rfl rfl
theorem kX7_carryOut_41 : aCode iX7_carryOut 41 = some (.invokevirtual 195, 3) := by decide +kernel
theorem sX7_carryOut_41 {d : Nat} {σ : aS} {Q : aQ} {b : Nat} {ls : aL} : aX (d + 1) iX7_carryOut 41 (ls) (.ref b :: []) σ Q ↔ aIs σ b 7 ∧ aX d iX7_readsOrder 0 [some (.ref b)] [] σ (fun r τ => aX (d + 1) iX7_carryOut 44 (ls) (aret r ([])) τ Q) := X_invv (N := 0) (As := []) (w := 927) kX7_carryOut_41 (by decide +kernel) (by decide +kernel) rfl rfl (by simp only [List.length_cons, List.length_nil]; omega) (by simp only [List.length_cons, List.length_nil]; omega) (by decide +kernel) rfl (Nat.le_of_ble_eq_true rfl)
theorem kX7_carryOut_44 : aCode iX7_carryOut 44 = some (.pop, 1) := by decide +kernel
theorem sX7_carryOut_44 {d : Nat} {σ : aS} {Q : aQ} {x : Nat} {ls : aL} {st : List Value} : aX d iX7_carryOut 44 (ls) (.ref x :: st) σ Q ↔ aX d iX7_carryOut 45 (ls) (st) σ Q := X_pop kX7_carryOut_44 rfl
theorem sX7_carryOut_44i {d : Nat} {σ : aS} {Q : aQ} {x : Int32} {ls : aL} {st : List Value} : aX d iX7_carryOut 44 (ls) (.int x :: st) σ Q ↔ aX d iX7_carryOut 45 (ls) (st) σ Q := X_pop kX7_carryOut_44 rfl
theorem kX7_carryOut_45 : aCode iX7_carryOut 45 = some (.aload_n 0, 1) := by decide +kernel
theorem sX7_carryOut_45 {d : Nat} {σ : aS} {Q : aQ} {x : Nat} {lt : aL} {st : List Value} : aX d iX7_carryOut 45 (some (.ref x) :: lt) (st) σ Q ↔ aX d iX7_carryOut 46 (some (.ref x) :: lt) (.ref x :: st) σ Q := X_aloadn kX7_carryOut_45 rfl rfl
theorem kX7_carryOut_46 : aCode iX7_carryOut 46 = some (.bipush 59, 2) := by decide +kernel
theorem sX7_carryOut_46 {d : Nat} {σ : aS} {Q : aQ} {ls : aL} {st : List Value} : aX d iX7_carryOut 46 (ls) (st) σ Q ↔ aX d iX7_carryOut 48 (ls) (.int (nI 59) :: st) σ Q := X_bipush kX7_carryOut_46 (by decide +kernel)
theorem kX7_carryOut_48 : aCode iX7_carryOut 48 = some (.invokevirtual 186, 3) := by decide +kernel
theorem sX7_carryOut_48 {d : Nat} {σ : aS} {Q : aQ} {b : Nat} {p0 : Int32} {ls : aL} : aX (d + 1) iX7_carryOut 48 (ls) (.int p0 :: .ref b :: []) σ Q ↔ aIs σ b 7 ∧ aX d iX7_isNext 0 [some (.ref b), some (.int p0), none] [] σ (fun r τ => aX (d + 1) iX7_carryOut 51 (ls) (aret r ([])) τ Q) := X_invv (N := 1) (As := [.int p0]) (w := 939) kX7_carryOut_48 (by decide +kernel) (by decide +kernel) rfl rfl (by simp only [List.length_cons, List.length_nil]; omega) (by simp only [List.length_cons, List.length_nil]; omega) (by decide +kernel) rfl (Nat.le_of_ble_eq_true rfl)
theorem kX7_carryOut_51 : aCode iX7_carryOut 51 = some (.pop, 1) := by decide +kernel
theorem sX7_carryOut_51 {d : Nat} {σ : aS} {Q : aQ} {x : Nat} {ls : aL} {st : List Value} : aX d iX7_carryOut 51 (ls) (.ref x :: st) σ Q ↔ aX d iX7_carryOut 52 (ls) (st) σ Q := X_pop kX7_carryOut_51 rfl
theorem sX7_carryOut_51i {d : Nat} {σ : aS} {Q : aQ} {x : Int32} {ls : aL} {st : List Value} : aX d iX7_carryOut 51 (ls) (.int x :: st) σ Q ↔ aX d iX7_carryOut 52 (ls) (st) σ Q := X_pop kX7_carryOut_51 rfl
theorem kX7_carryOut_52 : aCode iX7_carryOut 52 = some (.aload_n 0, 1) := by decide +kernel
theorem sX7_carryOut_52 {d : Nat} {σ : aS} {Q : aQ} {x : Nat} {lt : aL} {st : List Value} : aX d iX7_carryOut 52 (some (.ref x) :: lt) (st) σ Q ↔ aX d iX7_carryOut 53 (some (.ref x) :: lt) (.ref x :: st) σ Q := X_aloadn kX7_carryOut_52 rfl rfl
theorem kX7_carryOut_53 : aCode iX7_carryOut 53 = some (.invokevirtual 202, 3) := by decide +kernel
theorem sX7_carryOut_53 {d : Nat} {σ : aS} {Q : aQ} {b : Nat} {ls : aL} : aX (d + 1) iX7_carryOut 53 (ls) (.ref b :: []) σ Q ↔ aIs σ b 7 ∧ aX d iX7_whyNotDone 0 [some (.ref b)] [] σ (fun r τ => aX (d + 1) iX7_carryOut 56 (ls) (aret r ([])) τ Q) := X_invv (N := 0) (As := []) (w := 951) kX7_carryOut_53 (by decide +kernel) (by decide +kernel) rfl rfl (by simp only [List.length_cons, List.length_nil]; omega) (by simp only [List.length_cons, List.length_nil]; omega) (by decide +kernel) rfl (Nat.le_of_ble_eq_true rfl)
theorem kX7_carryOut_56 : aCode iX7_carryOut 56 = some (.ifCond .ne 7, 3) := by decide +kernel
theorem sX7_carryOut_56 {d : Nat} {σ : aS} {Q : aQ} {x : Int32} {ls : aL} {st : List Value} : aX d iX7_carryOut 56 (ls) (.int x :: st) σ Q ↔ (if ¬ x = nI 0 then aX d iX7_carryOut 63 (ls) (st) σ Q else aX d iX7_carryOut 59 (ls) (st) σ Q) := by rw [X_if kX7_carryOut_56 (t := 63) (by decide)]; simp only [aCmp_ne]
theorem kX7_carryOut_59 : aCode iX7_carryOut 59 = some (.iconst 1, 1) := by decide +kernel
theorem sX7_carryOut_59 {d : Nat} {σ : aS} {Q : aQ} {ls : aL} {st : List Value} : aX d iX7_carryOut 59 (ls) (st) σ Q ↔ aX d iX7_carryOut 60 (ls) (.int (nI 1) :: st) σ Q := X_iconst kX7_carryOut_59 (by decide +kernel)
theorem kX7_carryOut_60 : aCode iX7_carryOut 60 = some (.goto 4, 3) := by decide +kernel
theorem sX7_carryOut_60 {d : Nat} {σ : aS} {Q : aQ} {ls : aL} {st : List Value} : aX d iX7_carryOut 60 (ls) (st) σ Q ↔ aX d iX7_carryOut 64 (ls) (st) σ Q := X_goto kX7_carryOut_60 (by decide)
theorem kX7_carryOut_63 : aCode iX7_carryOut 63 = some (.iconst 0, 1) := by decide +kernel
theorem sX7_carryOut_63 {d : Nat} {σ : aS} {Q : aQ} {ls : aL} {st : List Value} : aX d iX7_carryOut 63 (ls) (st) σ Q ↔ aX d iX7_carryOut 64 (ls) (.int (nI 0) :: st) σ Q := X_iconst kX7_carryOut_63 (by decide +kernel)
theorem kX7_carryOut_64 : aCode iX7_carryOut 64 = some (.istore_n 2, 1) := by decide +kernel
theorem sX7_carryOut_64 {d : Nat} {σ : aS} {Q : aQ} {l0 l1 lo : Option Value} {x : Int32} {lt : aL} {st : List Value} : aX d iX7_carryOut 64 (l0 :: l1 :: lo :: lt) (.int x :: st) σ Q ↔ aX d iX7_carryOut 65 (l0 :: aclr l1 :: some (.int x) :: lt) (st) σ Q := X_istoren kX7_carryOut_64 (by simp only [List.length_cons]; omega)
theorem kX7_carryOut_65 : aCode iX7_carryOut 65 = some (.iload_n 2, 1) := by decide +kernel
theorem sX7_carryOut_65 {d : Nat} {σ : aS} {Q : aQ} {l0 l1 : Option Value} {x : Int32} {lt : aL} {st : List Value} : aX d iX7_carryOut 65 (l0 :: l1 :: some (.int x) :: lt) (st) σ Q ↔ aX d iX7_carryOut 66 (l0 :: l1 :: some (.int x) :: lt) (.int x :: st) σ Q := X_iloadn kX7_carryOut_65 rfl
theorem kX7_carryOut_66 : aCode iX7_carryOut 66 = some (.ifCond .eq (-41), 3) := by decide +kernel
theorem sX7_carryOut_66 {d : Nat} {σ : aS} {Q : aQ} {x : Int32} {ls : aL} {st : List Value} : aX d iX7_carryOut 66 (ls) (.int x :: st) σ Q ↔ (if x = nI 0 then aX d iX7_carryOut 25 (ls) (st) σ Q else aX d iX7_carryOut 69 (ls) (st) σ Q) := by rw [X_if kX7_carryOut_66 (t := 25) (by decide)]; simp only [aCmp_eq]
theorem kX7_carryOut_69 : aCode iX7_carryOut 69 = some (.aload_n 0, 1) := by decide +kernel
theorem sX7_carryOut_69 {d : Nat} {σ : aS} {Q : aQ} {x : Nat} {lt : aL} {st : List Value} : aX d iX7_carryOut 69 (some (.ref x) :: lt) (st) σ Q ↔ aX d iX7_carryOut 70 (some (.ref x) :: lt) (.ref x :: st) σ Q := X_aloadn kX7_carryOut_69 rfl rfl
theorem kX7_carryOut_70 : aCode iX7_carryOut 70 = some (.invokevirtual 205, 3) := by decide +kernel
theorem sX7_carryOut_70 {d : Nat} {σ : aS} {Q : aQ} {b : Nat} {ls : aL} : aX (d + 1) iX7_carryOut 70 (ls) (.ref b :: []) σ Q ↔ aIs σ b 7 ∧ aX d iX7_does 0 [some (.ref b), none] [] σ (fun r τ => aX (d + 1) iX7_carryOut 73 (ls) (aret r ([])) τ Q) := X_invv (N := 0) (As := []) (w := 955) kX7_carryOut_70 (by decide +kernel) (by decide +kernel) rfl rfl (by simp only [List.length_cons, List.length_nil]; omega) (by simp only [List.length_cons, List.length_nil]; omega) (by decide +kernel) rfl (Nat.le_of_ble_eq_true rfl)
theorem kX7_carryOut_73 : aCode iX7_carryOut 73 = some (.iinc 1 1, 3) := by decide +kernel
theorem sX7_carryOut_73 {d : Nat} {σ : aS} {Q : aQ} {l0 : Option Value} {x : Int32} {lt : aL} {st : List Value} : aX d iX7_carryOut 73 (l0 :: some (.int x) :: lt) (st) σ Q ↔ aX d iX7_carryOut 76 (aclr l0 :: some (.int (x + nI 1)) :: lt) (st) σ Q := X_iinc kX7_carryOut_73 rfl (by decide +kernel)
theorem kX7_carryOut_76 : aCode iX7_carryOut 76 = some (.goto (-51), 3) := by decide +kernel
theorem sX7_carryOut_76 {d : Nat} {σ : aS} {Q : aQ} {ls : aL} {st : List Value} : aX d iX7_carryOut 76 (ls) (st) σ Q ↔ aX d iX7_carryOut 25 (ls) (st) σ Q := X_goto kX7_carryOut_76 (by decide)
theorem kX7_carryOut_79 : aCode iX7_carryOut 79 = some (.aload_n 0, 1) := by decide +kernel
theorem sX7_carryOut_79 {d : Nat} {σ : aS} {Q : aQ} {x : Nat} {lt : aL} {st : List Value} : aX d iX7_carryOut 79 (some (.ref x) :: lt) (st) σ Q ↔ aX d iX7_carryOut 80 (some (.ref x) :: lt) (.ref x :: st) σ Q := X_aloadn kX7_carryOut_79 rfl rfl
theorem kX7_carryOut_80 : aCode iX7_carryOut 80 = some (.iconst 0, 1) := by decide +kernel
theorem sX7_carryOut_80 {d : Nat} {σ : aS} {Q : aQ} {ls : aL} {st : List Value} : aX d iX7_carryOut 80 (ls) (st) σ Q ↔ aX d iX7_carryOut 81 (ls) (.int (nI 0) :: st) σ Q := X_iconst kX7_carryOut_80 (by decide +kernel)
theorem kX7_carryOut_81 : aCode iX7_carryOut 81 = some (.putfield 163, 3) := by decide +kernel
theorem sX7_carryOut_81 {d : Nat} {σ : aS} {Q : aQ} {x : Int32} {a : Nat} {ls : aL} {st : List Value} : aX d iX7_carryOut 81 (ls) (.int x :: .ref a :: st) σ Q ↔ ∃ fs, aFds σ a 7 = some fs ∧ 7 < fs.length ∧ aX d iX7_carryOut 84 (ls) (st) (aput σ a (eO 7 (fs.set 7 (.int x)))) Q := X_putf (w := 657) kX7_carryOut_81 (by decide +kernel) (aFit_I (by decide +kernel)) (by decide +kernel)
theorem kX7_carryOut_84 : aCode iX7_carryOut 84 = some (.iload_n 1, 1) := by decide +kernel
theorem sX7_carryOut_84 {d : Nat} {σ : aS} {Q : aQ} {l0 : Option Value} {x : Int32} {lt : aL} {st : List Value} : aX d iX7_carryOut 84 (l0 :: some (.int x) :: lt) (st) σ Q ↔ aX d iX7_carryOut 85 (l0 :: some (.int x) :: lt) (.int x :: st) σ Q := X_iloadn kX7_carryOut_84 rfl
theorem kX7_carryOut_85 : aCode iX7_carryOut 85 = some (.ireturn, 1) := by decide +kernel
theorem sX7_carryOut_85 {d : Nat} {σ : aS} {Q : aQ} {v : Int32} {ls : aL} : aX d iX7_carryOut 85 (ls) ([.int v]) σ Q ↔ Q (some (.int v)) σ := X_iret kX7_carryOut_85 (by decide +kernel)
theorem kX7_undo_0 : aCode iX7_undo 0 = some (.aload_n 0, 1) := by decide +kernel
theorem sX7_undo_0 {d : Nat} {σ : aS} {Q : aQ} {x : Nat} {lt : aL} {st : List Value} : aX d iX7_undo 0 (some (.ref x) :: lt) (st) σ Q ↔ aX d iX7_undo 1 (some (.ref x) :: lt) (.ref x :: st) σ Q := X_aloadn kX7_undo_0 rfl rfl
theorem kX7_undo_1 : aCode iX7_undo 1 = some (.getfield 28, 3) := by decide +kernel
theorem sX7_undo_1 {d : Nat} {σ : aS} {Q : aQ} {a : Nat} {ls : aL} {st : List Value} : aX d iX7_undo 1 (ls) (.ref a :: st) σ Q ↔ ∃ v, aFld σ a 7 3 = some v ∧ aX d iX7_undo 4 (ls) (v :: st) σ Q := X_getf (w := 653) kX7_undo_1 (by decide +kernel)
theorem kX7_undo_4 : aCode iX7_undo 4 = some (.ifCond .ne 6, 3) := by decide +kernel
theorem sX7_undo_4 {d : Nat} {σ : aS} {Q : aQ} {x : Int32} {ls : aL} {st : List Value} : aX d iX7_undo 4 (ls) (.int x :: st) σ Q ↔ (if ¬ x = nI 0 then aX d iX7_undo 10 (ls) (st) σ Q else aX d iX7_undo 7 (ls) (st) σ Q) := by rw [X_if kX7_undo_4 (t := 10) (by decide)]; simp only [aCmp_ne]
theorem kX7_undo_7 : aCode iX7_undo 7 = some (.bipush (-5), 2) := by decide +kernel
theorem sX7_undo_7 {d : Nat} {σ : aS} {Q : aQ} {ls : aL} {st : List Value} : aX d iX7_undo 7 (ls) (st) σ Q ↔ aX d iX7_undo 9 (ls) (.int ((-5)) :: st) σ Q := X_bipush kX7_undo_7 (by decide +kernel)
theorem kX7_undo_9 : aCode iX7_undo 9 = some (.ireturn, 1) := by decide +kernel
theorem sX7_undo_9 {d : Nat} {σ : aS} {Q : aQ} {v : Int32} {ls : aL} : aX d iX7_undo 9 (ls) ([.int v]) σ Q ↔ Q (some (.int v)) σ := X_iret kX7_undo_9 (by decide +kernel)
theorem kX7_undo_10 : aCode iX7_undo 10 = some (.aload_n 0, 1) := by decide +kernel
theorem sX7_undo_10 {d : Nat} {σ : aS} {Q : aQ} {x : Nat} {lt : aL} {st : List Value} : aX d iX7_undo 10 (some (.ref x) :: lt) (st) σ Q ↔ aX d iX7_undo 11 (some (.ref x) :: lt) (.ref x :: st) σ Q := X_aloadn kX7_undo_10 rfl rfl
theorem kX7_undo_11 : aCode iX7_undo 11 = some (.dup, 1) := by decide +kernel
theorem sX7_undo_11 {d : Nat} {σ : aS} {Q : aQ} {x : Nat} {ls : aL} {st : List Value} : aX d iX7_undo 11 (ls) (.ref x :: st) σ Q ↔ aX d iX7_undo 12 (ls) (.ref x :: .ref x :: st) σ Q := X_dup kX7_undo_11 rfl
theorem sX7_undo_11i {d : Nat} {σ : aS} {Q : aQ} {x : Int32} {ls : aL} {st : List Value} : aX d iX7_undo 11 (ls) (.int x :: st) σ Q ↔ aX d iX7_undo 12 (ls) (.int x :: .int x :: st) σ Q := X_dup kX7_undo_11 rfl
theorem kX7_undo_12 : aCode iX7_undo 12 = some (.getfield 28, 3) := by decide +kernel
theorem sX7_undo_12 {d : Nat} {σ : aS} {Q : aQ} {a : Nat} {ls : aL} {st : List Value} : aX d iX7_undo 12 (ls) (.ref a :: st) σ Q ↔ ∃ v, aFld σ a 7 3 = some v ∧ aX d iX7_undo 15 (ls) (v :: st) σ Q := X_getf (w := 653) kX7_undo_12 (by decide +kernel)
theorem kX7_undo_15 : aCode iX7_undo 15 = some (.iconst 1, 1) := by decide +kernel
theorem sX7_undo_15 {d : Nat} {σ : aS} {Q : aQ} {ls : aL} {st : List Value} : aX d iX7_undo 15 (ls) (st) σ Q ↔ aX d iX7_undo 16 (ls) (.int (nI 1) :: st) σ Q := X_iconst kX7_undo_15 (by decide +kernel)
theorem kX7_undo_16 : aCode iX7_undo 16 = some (.isub, 1) := by decide +kernel
theorem sX7_undo_16 {d : Nat} {σ : aS} {Q : aQ} {x y : Int32} {ls : aL} {st : List Value} : aX d iX7_undo 16 (ls) (.int y :: .int x :: st) σ Q ↔ aX d iX7_undo 17 (ls) (.int (x - y) :: st) σ Q := X_isub kX7_undo_16
theorem kX7_undo_17 : aCode iX7_undo 17 = some (.putfield 28, 3) := by decide +kernel
theorem sX7_undo_17 {d : Nat} {σ : aS} {Q : aQ} {x : Int32} {a : Nat} {ls : aL} {st : List Value} : aX d iX7_undo 17 (ls) (.int x :: .ref a :: st) σ Q ↔ ∃ fs, aFds σ a 7 = some fs ∧ 3 < fs.length ∧ aX d iX7_undo 20 (ls) (st) (aput σ a (eO 7 (fs.set 3 (.int x)))) Q := X_putf (w := 653) kX7_undo_17 (by decide +kernel) (aFit_I (by decide +kernel)) (by decide +kernel)
theorem kX7_undo_20 : aCode iX7_undo 20 = some (.aload_n 0, 1) := by decide +kernel
theorem sX7_undo_20 {d : Nat} {σ : aS} {Q : aQ} {x : Nat} {lt : aL} {st : List Value} : aX d iX7_undo 20 (some (.ref x) :: lt) (st) σ Q ↔ aX d iX7_undo 21 (some (.ref x) :: lt) (.ref x :: st) σ Q := X_aloadn kX7_undo_20 rfl rfl
theorem kX7_undo_21 : aCode iX7_undo 21 = some (.getfield 16, 3) := by decide +kernel
theorem sX7_undo_21 {d : Nat} {σ : aS} {Q : aQ} {a : Nat} {ls : aL} {st : List Value} : aX d iX7_undo 21 (ls) (.ref a :: st) σ Q ↔ ∃ v, aFld σ a 7 2 = some v ∧ aX d iX7_undo 24 (ls) (v :: st) σ Q := X_getf (w := 652) kX7_undo_21 (by decide +kernel)
theorem kX7_undo_24 : aCode iX7_undo 24 = some (.aload_n 0, 1) := by decide +kernel
theorem sX7_undo_24 {d : Nat} {σ : aS} {Q : aQ} {x : Nat} {lt : aL} {st : List Value} : aX d iX7_undo 24 (some (.ref x) :: lt) (st) σ Q ↔ aX d iX7_undo 25 (some (.ref x) :: lt) (.ref x :: st) σ Q := X_aloadn kX7_undo_24 rfl rfl
theorem kX7_undo_25 : aCode iX7_undo 25 = some (.getfield 28, 3) := by decide +kernel
theorem sX7_undo_25 {d : Nat} {σ : aS} {Q : aQ} {a : Nat} {ls : aL} {st : List Value} : aX d iX7_undo 25 (ls) (.ref a :: st) σ Q ↔ ∃ v, aFld σ a 7 3 = some v ∧ aX d iX7_undo 28 (ls) (v :: st) σ Q := X_getf (w := 653) kX7_undo_25 (by decide +kernel)
theorem kX7_undo_28 : aCode iX7_undo 28 = some (.sipush 371, 3) := by decide +kernel
theorem sX7_undo_28 {d : Nat} {σ : aS} {Q : aQ} {ls : aL} {st : List Value} : aX d iX7_undo 28 (ls) (st) σ Q ↔ aX d iX7_undo 31 (ls) (.int (nI 371) :: st) σ Q := X_sipush kX7_undo_28 (by decide +kernel)
theorem kX7_undo_31 : aCode iX7_undo 31 = some (.imul, 1) := by decide +kernel
theorem sX7_undo_31 {d : Nat} {σ : aS} {Q : aQ} {x y : Int32} {ls : aL} {st : List Value} : aX d iX7_undo 31 (ls) (.int y :: .int x :: st) σ Q ↔ aX d iX7_undo 32 (ls) (.int (x * y) :: st) σ Q := X_imul kX7_undo_31
theorem kX7_undo_32 : aCode iX7_undo 32 = some (.aload_n 0, 1) := by decide +kernel
theorem sX7_undo_32 {d : Nat} {σ : aS} {Q : aQ} {x : Nat} {lt : aL} {st : List Value} : aX d iX7_undo 32 (some (.ref x) :: lt) (st) σ Q ↔ aX d iX7_undo 33 (some (.ref x) :: lt) (.ref x :: st) σ Q := X_aloadn kX7_undo_32 rfl rfl
theorem kX7_undo_33 : aCode iX7_undo 33 = some (.getfield 7, 3) := by decide +kernel
theorem sX7_undo_33 {d : Nat} {σ : aS} {Q : aQ} {a : Nat} {ls : aL} {st : List Value} : aX d iX7_undo 33 (ls) (.ref a :: st) σ Q ↔ ∃ v, aFld σ a 7 0 = some v ∧ aX d iX7_undo 36 (ls) (v :: st) σ Q := X_getf (w := 650) kX7_undo_33 (by decide +kernel)
theorem kX7_undo_36 : aCode iX7_undo 36 = some (.iconst 0, 1) := by decide +kernel
theorem sX7_undo_36 {d : Nat} {σ : aS} {Q : aQ} {ls : aL} {st : List Value} : aX d iX7_undo 36 (ls) (st) σ Q ↔ aX d iX7_undo 37 (ls) (.int (nI 0) :: st) σ Q := X_iconst kX7_undo_36 (by decide +kernel)
theorem kX7_undo_37 : aCode iX7_undo 37 = some (.invokestatic 32, 3) := by decide +kernel
theorem sX7_undo_37 {d : Nat} {σ : aS} {Q : aQ} {p0 : Nat} {p1 : Int32} {p2 : Nat} {p3 : Int32} {ls : aL} : aX (d + 1) iX7_undo 37 (ls) (.int p3 :: .ref p2 :: .int p1 :: .ref p0 :: []) σ Q ↔ aX d iX7_moves 0 [some (.ref p0), some (.int p1), some (.ref p2), some (.int p3), none] [] σ (fun r τ => aX (d + 1) iX7_undo 40 (ls) (aret r ([])) τ Q) := X_invs (N := 4) (As := [.int p3, .ref p2, .int p1, .ref p0]) (k := 1) (w := 701) kX7_undo_37 (by decide +kernel) (by decide) (by decide +kernel) rfl rfl (by simp only [List.length_cons, List.length_nil]; omega) (by simp only [List.length_cons, List.length_nil]; omega) rfl (Nat.le_of_ble_eq_true rfl)
theorem kX7_undo_40 : aCode iX7_undo 40 = some (.aload_n 0, 1) := by decide +kernel
theorem sX7_undo_40 {d : Nat} {σ : aS} {Q : aQ} {x : Nat} {lt : aL} {st : List Value} : aX d iX7_undo 40 (some (.ref x) :: lt) (st) σ Q ↔ aX d iX7_undo 41 (some (.ref x) :: lt) (.ref x :: st) σ Q := X_aloadn kX7_undo_40 rfl rfl
theorem kX7_undo_41 : aCode iX7_undo 41 = some (.getfield 28, 3) := by decide +kernel
theorem sX7_undo_41 {d : Nat} {σ : aS} {Q : aQ} {a : Nat} {ls : aL} {st : List Value} : aX d iX7_undo 41 (ls) (.ref a :: st) σ Q ↔ ∃ v, aFld σ a 7 3 = some v ∧ aX d iX7_undo 44 (ls) (v :: st) σ Q := X_getf (w := 653) kX7_undo_41 (by decide +kernel)
theorem kX7_undo_44 : aCode iX7_undo 44 = some (.ireturn, 1) := by decide +kernel
theorem sX7_undo_44 {d : Nat} {σ : aS} {Q : aQ} {v : Int32} {ls : aL} : aX d iX7_undo 44 (ls) ([.int v]) σ Q ↔ Q (some (.int v)) σ := X_iret kX7_undo_44 (by decide +kernel)
theorem kX7_save_0 : aCode iX7_save 0 = some (.iload_n 1, 1) := by decide +kernel
theorem sX7_save_0 {d : Nat} {σ : aS} {Q : aQ} {l0 : Option Value} {x : Int32} {lt : aL} {st : List Value} : aX d iX7_save 0 (l0 :: some (.int x) :: lt) (st) σ Q ↔ aX d iX7_save 1 (l0 :: some (.int x) :: lt) (.int x :: st) σ Q := X_iloadn kX7_save_0 rfl
theorem kX7_save_1 : aCode iX7_save 1 = some (.iconst 0, 1) := by decide +kernel
theorem sX7_save_1 {d : Nat} {σ : aS} {Q : aQ} {ls : aL} {st : List Value} : aX d iX7_save 1 (ls) (st) σ Q ↔ aX d iX7_save 2 (ls) (.int (nI 0) :: st) σ Q := X_iconst kX7_save_1 (by decide +kernel)
theorem kX7_save_2 : aCode iX7_save 2 = some (.iconst 1, 1) := by decide +kernel
theorem sX7_save_2 {d : Nat} {σ : aS} {Q : aQ} {ls : aL} {st : List Value} : aX d iX7_save 2 (ls) (st) σ Q ↔ aX d iX7_save 3 (ls) (.int (nI 1) :: st) σ Q := X_iconst kX7_save_2 (by decide +kernel)
theorem kX7_save_3 : aCode iX7_save 3 = some (.invokestatic 36, 3) := by decide +kernel
theorem sX7_save_3 {d : Nat} {σ : aS} {Q : aQ} {p0 : Int32} {p1 : Int32} {p2 : Int32} {ls : aL} : aX (d + 1) iX7_save 3 (ls) (.int p2 :: .int p1 :: .int p0 :: []) σ Q ↔ aX d iX7_within 0 [some (.int p0), some (.int p1), some (.int p2)] [] σ (fun r τ => aX (d + 1) iX7_save 6 (ls) (aret r ([])) τ Q) := X_invs (N := 3) (As := [.int p2, .int p1, .int p0]) (k := 1) (w := 694) kX7_save_3 (by decide +kernel) (by decide) (by decide +kernel) rfl rfl (by simp only [List.length_cons, List.length_nil]; omega) (by simp only [List.length_cons, List.length_nil]; omega) rfl (Nat.le_of_ble_eq_true rfl)
theorem kX7_save_6 : aCode iX7_save 6 = some (.ifCond .ne 6, 3) := by decide +kernel
theorem sX7_save_6 {d : Nat} {σ : aS} {Q : aQ} {x : Int32} {ls : aL} {st : List Value} : aX d iX7_save 6 (ls) (.int x :: st) σ Q ↔ (if ¬ x = nI 0 then aX d iX7_save 12 (ls) (st) σ Q else aX d iX7_save 9 (ls) (st) σ Q) := by rw [X_if kX7_save_6 (t := 12) (by decide)]; simp only [aCmp_ne]
theorem kX7_save_9 : aCode iX7_save 9 = some (.bipush (-2), 2) := by decide +kernel
theorem sX7_save_9 {d : Nat} {σ : aS} {Q : aQ} {ls : aL} {st : List Value} : aX d iX7_save 9 (ls) (st) σ Q ↔ aX d iX7_save 11 (ls) (.int ((-2)) :: st) σ Q := X_bipush kX7_save_9 (by decide +kernel)
theorem kX7_save_11 : aCode iX7_save 11 = some (.ireturn, 1) := by decide +kernel
theorem sX7_save_11 {d : Nat} {σ : aS} {Q : aQ} {v : Int32} {ls : aL} : aX d iX7_save 11 (ls) ([.int v]) σ Q ↔ Q (some (.int v)) σ := X_iret kX7_save_11 (by decide +kernel)
theorem kX7_save_12 : aCode iX7_save 12 = some (.aload_n 0, 1) := by decide +kernel
theorem sX7_save_12 {d : Nat} {σ : aS} {Q : aQ} {x : Nat} {lt : aL} {st : List Value} : aX d iX7_save 12 (some (.ref x) :: lt) (st) σ Q ↔ aX d iX7_save 13 (some (.ref x) :: lt) (.ref x :: st) σ Q := X_aloadn kX7_save_12 rfl rfl
theorem kX7_save_13 : aCode iX7_save 13 = some (.getfield 7, 3) := by decide +kernel
theorem sX7_save_13 {d : Nat} {σ : aS} {Q : aQ} {a : Nat} {ls : aL} {st : List Value} : aX d iX7_save 13 (ls) (.ref a :: st) σ Q ↔ ∃ v, aFld σ a 7 0 = some v ∧ aX d iX7_save 16 (ls) (v :: st) σ Q := X_getf (w := 650) kX7_save_13 (by decide +kernel)
theorem kX7_save_16 : aCode iX7_save 16 = some (.iconst 0, 1) := by decide +kernel
theorem sX7_save_16 {d : Nat} {σ : aS} {Q : aQ} {ls : aL} {st : List Value} : aX d iX7_save 16 (ls) (st) σ Q ↔ aX d iX7_save 17 (ls) (.int (nI 0) :: st) σ Q := X_iconst kX7_save_16 (by decide +kernel)
theorem kX7_save_17 : aCode iX7_save 17 = some (.aload_n 0, 1) := by decide +kernel
theorem sX7_save_17 {d : Nat} {σ : aS} {Q : aQ} {x : Nat} {lt : aL} {st : List Value} : aX d iX7_save 17 (some (.ref x) :: lt) (st) σ Q ↔ aX d iX7_save 18 (some (.ref x) :: lt) (.ref x :: st) σ Q := X_aloadn kX7_save_17 rfl rfl
theorem kX7_save_18 : aCode iX7_save 18 = some (.getfield 19, 3) := by decide +kernel
theorem sX7_save_18 {d : Nat} {σ : aS} {Q : aQ} {a : Nat} {ls : aL} {st : List Value} : aX d iX7_save 18 (ls) (.ref a :: st) σ Q ↔ ∃ v, aFld σ a 7 4 = some v ∧ aX d iX7_save 21 (ls) (v :: st) σ Q := X_getf (w := 654) kX7_save_18 (by decide +kernel)
theorem kX7_save_21 : aCode iX7_save 21 = some (.sipush 371, 3) := by decide +kernel
theorem sX7_save_21 {d : Nat} {σ : aS} {Q : aQ} {ls : aL} {st : List Value} : aX d iX7_save 21 (ls) (st) σ Q ↔ aX d iX7_save 24 (ls) (.int (nI 371) :: st) σ Q := X_sipush kX7_save_21 (by decide +kernel)
theorem kX7_save_24 : aCode iX7_save 24 = some (.iload_n 1, 1) := by decide +kernel
theorem sX7_save_24 {d : Nat} {σ : aS} {Q : aQ} {l0 : Option Value} {x : Int32} {lt : aL} {st : List Value} : aX d iX7_save 24 (l0 :: some (.int x) :: lt) (st) σ Q ↔ aX d iX7_save 25 (l0 :: some (.int x) :: lt) (.int x :: st) σ Q := X_iloadn kX7_save_24 rfl
theorem kX7_save_25 : aCode iX7_save 25 = some (.imul, 1) := by decide +kernel
theorem sX7_save_25 {d : Nat} {σ : aS} {Q : aQ} {x y : Int32} {ls : aL} {st : List Value} : aX d iX7_save 25 (ls) (.int y :: .int x :: st) σ Q ↔ aX d iX7_save 26 (ls) (.int (x * y) :: st) σ Q := X_imul kX7_save_25
theorem kX7_save_26 : aCode iX7_save 26 = some (.invokestatic 32, 3) := by decide +kernel
theorem sX7_save_26 {d : Nat} {σ : aS} {Q : aQ} {p0 : Nat} {p1 : Int32} {p2 : Nat} {p3 : Int32} {ls : aL} : aX (d + 1) iX7_save 26 (ls) (.int p3 :: .ref p2 :: .int p1 :: .ref p0 :: []) σ Q ↔ aX d iX7_moves 0 [some (.ref p0), some (.int p1), some (.ref p2), some (.int p3), none] [] σ (fun r τ => aX (d + 1) iX7_save 29 (ls) (aret r ([])) τ Q) := X_invs (N := 4) (As := [.int p3, .ref p2, .int p1, .ref p0]) (k := 1) (w := 701) kX7_save_26 (by decide +kernel) (by decide) (by decide +kernel) rfl rfl (by simp only [List.length_cons, List.length_nil]; omega) (by simp only [List.length_cons, List.length_nil]; omega) rfl (Nat.le_of_ble_eq_true rfl)
theorem kX7_save_29 : aCode iX7_save 29 = some (.aload_n 0, 1) := by decide +kernel
theorem sX7_save_29 {d : Nat} {σ : aS} {Q : aQ} {x : Nat} {lt : aL} {st : List Value} : aX d iX7_save 29 (some (.ref x) :: lt) (st) σ Q ↔ aX d iX7_save 30 (some (.ref x) :: lt) (.ref x :: st) σ Q := X_aloadn kX7_save_29 rfl rfl
theorem kX7_save_30 : aCode iX7_save 30 = some (.getfield 22, 3) := by decide +kernel
theorem sX7_save_30 {d : Nat} {σ : aS} {Q : aQ} {a : Nat} {ls : aL} {st : List Value} : aX d iX7_save 30 (ls) (.ref a :: st) σ Q ↔ ∃ v, aFld σ a 7 5 = some v ∧ aX d iX7_save 33 (ls) (v :: st) σ Q := X_getf (w := 655) kX7_save_30 (by decide +kernel)
theorem kX7_save_33 : aCode iX7_save 33 = some (.iload_n 1, 1) := by decide +kernel
theorem sX7_save_33 {d : Nat} {σ : aS} {Q : aQ} {l0 : Option Value} {x : Int32} {lt : aL} {st : List Value} : aX d iX7_save 33 (l0 :: some (.int x) :: lt) (st) σ Q ↔ aX d iX7_save 34 (l0 :: some (.int x) :: lt) (.int x :: st) σ Q := X_iloadn kX7_save_33 rfl
theorem kX7_save_34 : aCode iX7_save 34 = some (.iconst 1, 1) := by decide +kernel
theorem sX7_save_34 {d : Nat} {σ : aS} {Q : aQ} {ls : aL} {st : List Value} : aX d iX7_save 34 (ls) (st) σ Q ↔ aX d iX7_save 35 (ls) (.int (nI 1) :: st) σ Q := X_iconst kX7_save_34 (by decide +kernel)
theorem kX7_save_35 : aCode iX7_save 35 = some (.iastore, 1) := by decide +kernel
theorem sX7_save_35 {d : Nat} {σ : aS} {Q : aQ} {a : Nat} {i v : Int32} {ls : aL} {st : List Value} : aX d iX7_save 35 (ls) (.int v :: .int i :: .ref a :: st) σ Q ↔ ∃ x, aRow σ a = some x ∧ vp_in i x.1 ∧ aX d iX7_save 36 (ls) (st) (aput σ a (eI x.1 (upd x.2 i.toNatClampNeg v))) Q := X_iastore kX7_save_35
theorem kX7_save_36 : aCode iX7_save 36 = some (.aload_n 0, 1) := by decide +kernel
theorem sX7_save_36 {d : Nat} {σ : aS} {Q : aQ} {x : Nat} {lt : aL} {st : List Value} : aX d iX7_save 36 (some (.ref x) :: lt) (st) σ Q ↔ aX d iX7_save 37 (some (.ref x) :: lt) (.ref x :: st) σ Q := X_aloadn kX7_save_36 rfl rfl
theorem kX7_save_37 : aCode iX7_save 37 = some (.getfield 7, 3) := by decide +kernel
theorem sX7_save_37 {d : Nat} {σ : aS} {Q : aQ} {a : Nat} {ls : aL} {st : List Value} : aX d iX7_save 37 (ls) (.ref a :: st) σ Q ↔ ∃ v, aFld σ a 7 0 = some v ∧ aX d iX7_save 40 (ls) (v :: st) σ Q := X_getf (w := 650) kX7_save_37 (by decide +kernel)
theorem kX7_save_40 : aCode iX7_save 40 = some (.bipush 34, 2) := by decide +kernel
theorem sX7_save_40 {d : Nat} {σ : aS} {Q : aQ} {ls : aL} {st : List Value} : aX d iX7_save 40 (ls) (st) σ Q ↔ aX d iX7_save 42 (ls) (.int (nI 34) :: st) σ Q := X_bipush kX7_save_40 (by decide +kernel)
theorem kX7_save_42 : aCode iX7_save 42 = some (.iaload, 1) := by decide +kernel
theorem sX7_save_42 {d : Nat} {σ : aS} {Q : aQ} {a : Nat} {i : Int32} {ls : aL} {st : List Value} : aX d iX7_save 42 (ls) (.int i :: .ref a :: st) σ Q ↔ ∃ x, aRowR σ a = some x ∧ vp_in i x.1 ∧ aX d iX7_save 43 (ls) (.int (x.2 i.toNatClampNeg) :: st) σ Q := X_iaload kX7_save_42
theorem kX7_save_43 : aCode iX7_save 43 = some (.ireturn, 1) := by decide +kernel
theorem sX7_save_43 {d : Nat} {σ : aS} {Q : aQ} {v : Int32} {ls : aL} : aX d iX7_save 43 (ls) ([.int v]) σ Q ↔ Q (some (.int v)) σ := X_iret kX7_save_43 (by decide +kernel)
theorem kX7_restore_0 : aCode iX7_restore 0 = some (.iload_n 1, 1) := by decide +kernel
theorem sX7_restore_0 {d : Nat} {σ : aS} {Q : aQ} {l0 : Option Value} {x : Int32} {lt : aL} {st : List Value} : aX d iX7_restore 0 (l0 :: some (.int x) :: lt) (st) σ Q ↔ aX d iX7_restore 1 (l0 :: some (.int x) :: lt) (.int x :: st) σ Q := X_iloadn kX7_restore_0 rfl
theorem kX7_restore_1 : aCode iX7_restore 1 = some (.iconst 0, 1) := by decide +kernel
theorem sX7_restore_1 {d : Nat} {σ : aS} {Q : aQ} {ls : aL} {st : List Value} : aX d iX7_restore 1 (ls) (st) σ Q ↔ aX d iX7_restore 2 (ls) (.int (nI 0) :: st) σ Q := X_iconst kX7_restore_1 (by decide +kernel)
theorem kX7_restore_2 : aCode iX7_restore 2 = some (.iconst 1, 1) := by decide +kernel
theorem sX7_restore_2 {d : Nat} {σ : aS} {Q : aQ} {ls : aL} {st : List Value} : aX d iX7_restore 2 (ls) (st) σ Q ↔ aX d iX7_restore 3 (ls) (.int (nI 1) :: st) σ Q := X_iconst kX7_restore_2 (by decide +kernel)
theorem kX7_restore_3 : aCode iX7_restore 3 = some (.invokestatic 36, 3) := by decide +kernel
theorem sX7_restore_3 {d : Nat} {σ : aS} {Q : aQ} {p0 : Int32} {p1 : Int32} {p2 : Int32} {ls : aL} : aX (d + 1) iX7_restore 3 (ls) (.int p2 :: .int p1 :: .int p0 :: []) σ Q ↔ aX d iX7_within 0 [some (.int p0), some (.int p1), some (.int p2)] [] σ (fun r τ => aX (d + 1) iX7_restore 6 (ls) (aret r ([])) τ Q) := X_invs (N := 3) (As := [.int p2, .int p1, .int p0]) (k := 1) (w := 694) kX7_restore_3 (by decide +kernel) (by decide) (by decide +kernel) rfl rfl (by simp only [List.length_cons, List.length_nil]; omega) (by simp only [List.length_cons, List.length_nil]; omega) rfl (Nat.le_of_ble_eq_true rfl)
theorem kX7_restore_6 : aCode iX7_restore 6 = some (.ifCond .ne 6, 3) := by decide +kernel
theorem sX7_restore_6 {d : Nat} {σ : aS} {Q : aQ} {x : Int32} {ls : aL} {st : List Value} : aX d iX7_restore 6 (ls) (.int x :: st) σ Q ↔ (if ¬ x = nI 0 then aX d iX7_restore 12 (ls) (st) σ Q else aX d iX7_restore 9 (ls) (st) σ Q) := by rw [X_if kX7_restore_6 (t := 12) (by decide)]; simp only [aCmp_ne]
theorem kX7_restore_9 : aCode iX7_restore 9 = some (.bipush (-2), 2) := by decide +kernel
theorem sX7_restore_9 {d : Nat} {σ : aS} {Q : aQ} {ls : aL} {st : List Value} : aX d iX7_restore 9 (ls) (st) σ Q ↔ aX d iX7_restore 11 (ls) (.int ((-2)) :: st) σ Q := X_bipush kX7_restore_9 (by decide +kernel)
theorem kX7_restore_11 : aCode iX7_restore 11 = some (.ireturn, 1) := by decide +kernel
theorem sX7_restore_11 {d : Nat} {σ : aS} {Q : aQ} {v : Int32} {ls : aL} : aX d iX7_restore 11 (ls) ([.int v]) σ Q ↔ Q (some (.int v)) σ := X_iret kX7_restore_11 (by decide +kernel)
theorem kX7_restore_12 : aCode iX7_restore 12 = some (.aload_n 0, 1) := by decide +kernel
theorem sX7_restore_12 {d : Nat} {σ : aS} {Q : aQ} {x : Nat} {lt : aL} {st : List Value} : aX d iX7_restore 12 (some (.ref x) :: lt) (st) σ Q ↔ aX d iX7_restore 13 (some (.ref x) :: lt) (.ref x :: st) σ Q := X_aloadn kX7_restore_12 rfl rfl
theorem kX7_restore_13 : aCode iX7_restore 13 = some (.getfield 22, 3) := by decide +kernel
theorem sX7_restore_13 {d : Nat} {σ : aS} {Q : aQ} {a : Nat} {ls : aL} {st : List Value} : aX d iX7_restore 13 (ls) (.ref a :: st) σ Q ↔ ∃ v, aFld σ a 7 5 = some v ∧ aX d iX7_restore 16 (ls) (v :: st) σ Q := X_getf (w := 655) kX7_restore_13 (by decide +kernel)
theorem kX7_restore_16 : aCode iX7_restore 16 = some (.iload_n 1, 1) := by decide +kernel
theorem sX7_restore_16 {d : Nat} {σ : aS} {Q : aQ} {l0 : Option Value} {x : Int32} {lt : aL} {st : List Value} : aX d iX7_restore 16 (l0 :: some (.int x) :: lt) (st) σ Q ↔ aX d iX7_restore 17 (l0 :: some (.int x) :: lt) (.int x :: st) σ Q := X_iloadn kX7_restore_16 rfl
theorem kX7_restore_17 : aCode iX7_restore 17 = some (.iaload, 1) := by decide +kernel
theorem sX7_restore_17 {d : Nat} {σ : aS} {Q : aQ} {a : Nat} {i : Int32} {ls : aL} {st : List Value} : aX d iX7_restore 17 (ls) (.int i :: .ref a :: st) σ Q ↔ ∃ x, aRowR σ a = some x ∧ vp_in i x.1 ∧ aX d iX7_restore 18 (ls) (.int (x.2 i.toNatClampNeg) :: st) σ Q := X_iaload kX7_restore_17
theorem kX7_restore_18 : aCode iX7_restore 18 = some (.ifCond .ne 6, 3) := by decide +kernel
theorem sX7_restore_18 {d : Nat} {σ : aS} {Q : aQ} {x : Int32} {ls : aL} {st : List Value} : aX d iX7_restore 18 (ls) (.int x :: st) σ Q ↔ (if ¬ x = nI 0 then aX d iX7_restore 24 (ls) (st) σ Q else aX d iX7_restore 21 (ls) (st) σ Q) := by rw [X_if kX7_restore_18 (t := 24) (by decide)]; simp only [aCmp_ne]
theorem kX7_restore_21 : aCode iX7_restore 21 = some (.bipush (-5), 2) := by decide +kernel
theorem sX7_restore_21 {d : Nat} {σ : aS} {Q : aQ} {ls : aL} {st : List Value} : aX d iX7_restore 21 (ls) (st) σ Q ↔ aX d iX7_restore 23 (ls) (.int ((-5)) :: st) σ Q := X_bipush kX7_restore_21 (by decide +kernel)
theorem kX7_restore_23 : aCode iX7_restore 23 = some (.ireturn, 1) := by decide +kernel
theorem sX7_restore_23 {d : Nat} {σ : aS} {Q : aQ} {v : Int32} {ls : aL} : aX d iX7_restore 23 (ls) ([.int v]) σ Q ↔ Q (some (.int v)) σ := X_iret kX7_restore_23 (by decide +kernel)
theorem kX7_restore_24 : aCode iX7_restore 24 = some (.aload_n 0, 1) := by decide +kernel
theorem sX7_restore_24 {d : Nat} {σ : aS} {Q : aQ} {x : Nat} {lt : aL} {st : List Value} : aX d iX7_restore 24 (some (.ref x) :: lt) (st) σ Q ↔ aX d iX7_restore 25 (some (.ref x) :: lt) (.ref x :: st) σ Q := X_aloadn kX7_restore_24 rfl rfl
theorem kX7_restore_25 : aCode iX7_restore 25 = some (.invokevirtual 102, 3) := by decide +kernel
theorem sX7_restore_25 {d : Nat} {σ : aS} {Q : aQ} {b : Nat} {ls : aL} : aX (d + 1) iX7_restore 25 (ls) (.ref b :: []) σ Q ↔ aIs σ b 7 ∧ aX d iX7_record 0 [some (.ref b), none] [] σ (fun r τ => aX (d + 1) iX7_restore 28 (ls) (aret r ([])) τ Q) := X_invv (N := 0) (As := []) (w := 697) kX7_restore_25 (by decide +kernel) (by decide +kernel) rfl rfl (by simp only [List.length_cons, List.length_nil]; omega) (by simp only [List.length_cons, List.length_nil]; omega) (by decide +kernel) rfl (Nat.le_of_ble_eq_true rfl)
theorem kX7_restore_28 : aCode iX7_restore 28 = some (.aload_n 0, 1) := by decide +kernel
theorem sX7_restore_28 {d : Nat} {σ : aS} {Q : aQ} {x : Nat} {lt : aL} {st : List Value} : aX d iX7_restore 28 (some (.ref x) :: lt) (st) σ Q ↔ aX d iX7_restore 29 (some (.ref x) :: lt) (.ref x :: st) σ Q := X_aloadn kX7_restore_28 rfl rfl
theorem kX7_restore_29 : aCode iX7_restore 29 = some (.getfield 19, 3) := by decide +kernel
theorem sX7_restore_29 {d : Nat} {σ : aS} {Q : aQ} {a : Nat} {ls : aL} {st : List Value} : aX d iX7_restore 29 (ls) (.ref a :: st) σ Q ↔ ∃ v, aFld σ a 7 4 = some v ∧ aX d iX7_restore 32 (ls) (v :: st) σ Q := X_getf (w := 654) kX7_restore_29 (by decide +kernel)
theorem kX7_restore_32 : aCode iX7_restore 32 = some (.sipush 371, 3) := by decide +kernel
theorem sX7_restore_32 {d : Nat} {σ : aS} {Q : aQ} {ls : aL} {st : List Value} : aX d iX7_restore 32 (ls) (st) σ Q ↔ aX d iX7_restore 35 (ls) (.int (nI 371) :: st) σ Q := X_sipush kX7_restore_32 (by decide +kernel)
theorem kX7_restore_35 : aCode iX7_restore 35 = some (.iload_n 1, 1) := by decide +kernel
theorem sX7_restore_35 {d : Nat} {σ : aS} {Q : aQ} {l0 : Option Value} {x : Int32} {lt : aL} {st : List Value} : aX d iX7_restore 35 (l0 :: some (.int x) :: lt) (st) σ Q ↔ aX d iX7_restore 36 (l0 :: some (.int x) :: lt) (.int x :: st) σ Q := X_iloadn kX7_restore_35 rfl
theorem kX7_restore_36 : aCode iX7_restore 36 = some (.imul, 1) := by decide +kernel
theorem sX7_restore_36 {d : Nat} {σ : aS} {Q : aQ} {x y : Int32} {ls : aL} {st : List Value} : aX d iX7_restore 36 (ls) (.int y :: .int x :: st) σ Q ↔ aX d iX7_restore 37 (ls) (.int (x * y) :: st) σ Q := X_imul kX7_restore_36
theorem kX7_restore_37 : aCode iX7_restore 37 = some (.aload_n 0, 1) := by decide +kernel
theorem sX7_restore_37 {d : Nat} {σ : aS} {Q : aQ} {x : Nat} {lt : aL} {st : List Value} : aX d iX7_restore 37 (some (.ref x) :: lt) (st) σ Q ↔ aX d iX7_restore 38 (some (.ref x) :: lt) (.ref x :: st) σ Q := X_aloadn kX7_restore_37 rfl rfl
theorem kX7_restore_38 : aCode iX7_restore 38 = some (.getfield 7, 3) := by decide +kernel
theorem sX7_restore_38 {d : Nat} {σ : aS} {Q : aQ} {a : Nat} {ls : aL} {st : List Value} : aX d iX7_restore 38 (ls) (.ref a :: st) σ Q ↔ ∃ v, aFld σ a 7 0 = some v ∧ aX d iX7_restore 41 (ls) (v :: st) σ Q := X_getf (w := 650) kX7_restore_38 (by decide +kernel)
theorem kX7_restore_41 : aCode iX7_restore 41 = some (.iconst 0, 1) := by decide +kernel
theorem sX7_restore_41 {d : Nat} {σ : aS} {Q : aQ} {ls : aL} {st : List Value} : aX d iX7_restore 41 (ls) (st) σ Q ↔ aX d iX7_restore 42 (ls) (.int (nI 0) :: st) σ Q := X_iconst kX7_restore_41 (by decide +kernel)
theorem kX7_restore_42 : aCode iX7_restore 42 = some (.invokestatic 32, 3) := by decide +kernel
theorem sX7_restore_42 {d : Nat} {σ : aS} {Q : aQ} {p0 : Nat} {p1 : Int32} {p2 : Nat} {p3 : Int32} {ls : aL} : aX (d + 1) iX7_restore 42 (ls) (.int p3 :: .ref p2 :: .int p1 :: .ref p0 :: []) σ Q ↔ aX d iX7_moves 0 [some (.ref p0), some (.int p1), some (.ref p2), some (.int p3), none] [] σ (fun r τ => aX (d + 1) iX7_restore 45 (ls) (aret r ([])) τ Q) := X_invs (N := 4) (As := [.int p3, .ref p2, .int p1, .ref p0]) (k := 1) (w := 701) kX7_restore_42 (by decide +kernel) (by decide) (by decide +kernel) rfl rfl (by simp only [List.length_cons, List.length_nil]; omega) (by simp only [List.length_cons, List.length_nil]; omega) rfl (Nat.le_of_ble_eq_true rfl)
theorem kX7_restore_45 : aCode iX7_restore 45 = some (.aload_n 0, 1) := by decide +kernel
theorem sX7_restore_45 {d : Nat} {σ : aS} {Q : aQ} {x : Nat} {lt : aL} {st : List Value} : aX d iX7_restore 45 (some (.ref x) :: lt) (st) σ Q ↔ aX d iX7_restore 46 (some (.ref x) :: lt) (.ref x :: st) σ Q := X_aloadn kX7_restore_45 rfl rfl
theorem kX7_restore_46 : aCode iX7_restore 46 = some (.getfield 7, 3) := by decide +kernel
theorem sX7_restore_46 {d : Nat} {σ : aS} {Q : aQ} {a : Nat} {ls : aL} {st : List Value} : aX d iX7_restore 46 (ls) (.ref a :: st) σ Q ↔ ∃ v, aFld σ a 7 0 = some v ∧ aX d iX7_restore 49 (ls) (v :: st) σ Q := X_getf (w := 650) kX7_restore_46 (by decide +kernel)
theorem kX7_restore_49 : aCode iX7_restore 49 = some (.bipush 34, 2) := by decide +kernel
theorem sX7_restore_49 {d : Nat} {σ : aS} {Q : aQ} {ls : aL} {st : List Value} : aX d iX7_restore 49 (ls) (st) σ Q ↔ aX d iX7_restore 51 (ls) (.int (nI 34) :: st) σ Q := X_bipush kX7_restore_49 (by decide +kernel)
theorem kX7_restore_51 : aCode iX7_restore 51 = some (.iaload, 1) := by decide +kernel
theorem sX7_restore_51 {d : Nat} {σ : aS} {Q : aQ} {a : Nat} {i : Int32} {ls : aL} {st : List Value} : aX d iX7_restore 51 (ls) (.int i :: .ref a :: st) σ Q ↔ ∃ x, aRowR σ a = some x ∧ vp_in i x.1 ∧ aX d iX7_restore 52 (ls) (.int (x.2 i.toNatClampNeg) :: st) σ Q := X_iaload kX7_restore_51
theorem kX7_restore_52 : aCode iX7_restore 52 = some (.ireturn, 1) := by decide +kernel
theorem sX7_restore_52 {d : Nat} {σ : aS} {Q : aQ} {v : Int32} {ls : aL} : aX d iX7_restore 52 (ls) ([.int v]) σ Q ↔ Q (some (.int v)) σ := X_iret kX7_restore_52 (by decide +kernel)
