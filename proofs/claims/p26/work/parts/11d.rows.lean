theorem kL_cell_0 : aCode iL_cell 0 = some (.iload_n 1, 1) := by decide +kernel
theorem sL_cell_0 {d : Nat} {σ : aS} {Q : aQ} {l0 : Option Value} {x : Int32} {lt : aL} {st : List Value} : aX d iL_cell 0 (l0 :: some (.int x) :: lt) (st) σ Q ↔ aX d iL_cell 1 (l0 :: some (.int x) :: lt) (.int x :: st) σ Q := X_iloadn kL_cell_0 rfl
theorem kL_cell_1 : aCode iL_cell 1 = some (.aload_n 0, 1) := by decide +kernel
theorem sL_cell_1 {d : Nat} {σ : aS} {Q : aQ} {x : Nat} {lt : aL} {st : List Value} : aX d iL_cell 1 (some (.ref x) :: lt) (st) σ Q ↔ aX d iL_cell 2 (some (.ref x) :: lt) (.ref x :: st) σ Q := X_aloadn kL_cell_1 rfl rfl
theorem kL_cell_2 : aCode iL_cell 2 = some (.arraylength, 1) := by decide +kernel
theorem sL_cell_2 {d : Nat} {σ : aS} {Q : aQ} {a : Nat} {ls : aL} {st : List Value} : aX d iL_cell 2 (ls) (.ref a :: st) σ Q ↔ ∃ m, aLn σ a = some m ∧ aX d iL_cell 3 (ls) (.int (nI m) :: st) σ Q := X_alen kL_cell_2
theorem kL_cell_3 : aCode iL_cell 3 = some (.if_icmp .ge 9, 3) := by decide +kernel
theorem sL_cell_3 {d : Nat} {σ : aS} {Q : aQ} {x y : Int32} {ls : aL} {st : List Value} : aX d iL_cell 3 (ls) (.int y :: .int x :: st) σ Q ↔ (if y ≤ x then aX d iL_cell 12 (ls) (st) σ Q else aX d iL_cell 6 (ls) (st) σ Q) := by rw [X_icmp kL_cell_3 (t := 12) (by decide)]; simp only [aCmp_ge]
theorem kL_cell_6 : aCode iL_cell 6 = some (.aload_n 0, 1) := by decide +kernel
theorem sL_cell_6 {d : Nat} {σ : aS} {Q : aQ} {x : Nat} {lt : aL} {st : List Value} : aX d iL_cell 6 (some (.ref x) :: lt) (st) σ Q ↔ aX d iL_cell 7 (some (.ref x) :: lt) (.ref x :: st) σ Q := X_aloadn kL_cell_6 rfl rfl
theorem kL_cell_7 : aCode iL_cell 7 = some (.iload_n 1, 1) := by decide +kernel
theorem sL_cell_7 {d : Nat} {σ : aS} {Q : aQ} {l0 : Option Value} {x : Int32} {lt : aL} {st : List Value} : aX d iL_cell 7 (l0 :: some (.int x) :: lt) (st) σ Q ↔ aX d iL_cell 8 (l0 :: some (.int x) :: lt) (.int x :: st) σ Q := X_iloadn kL_cell_7 rfl
theorem kL_cell_8 : aCode iL_cell 8 = some (.iaload, 1) := by decide +kernel
theorem sL_cell_8 {d : Nat} {σ : aS} {Q : aQ} {a : Nat} {i : Int32} {ls : aL} {st : List Value} : aX d iL_cell 8 (ls) (.int i :: .ref a :: st) σ Q ↔ ∃ x, aRowR σ a = some x ∧ vp_in i x.1 ∧ aX d iL_cell 9 (ls) (.int (x.2 i.toNatClampNeg) :: st) σ Q := X_iaload kL_cell_8
theorem kL_cell_9 : aCode iL_cell 9 = some (.goto 12, 3) := by decide +kernel
theorem sL_cell_9 {d : Nat} {σ : aS} {Q : aQ} {ls : aL} {st : List Value} : aX d iL_cell 9 (ls) (st) σ Q ↔ aX d iL_cell 21 (ls) (st) σ Q := X_goto kL_cell_9 (by decide)
theorem kL_cell_12 : aCode iL_cell 12 = some (.ldc 7, 2) := by decide +kernel
theorem sL_cell_12 {d : Nat} {σ : aS} {Q : aQ} {ls : aL} {st : List Value} : aX d iL_cell 12 (ls) (st) σ Q ↔ aX d iL_cell 14 (ls) (.int 991911289 :: st) σ Q := X_ldc (w := 392) kL_cell_12 (by decide +kernel)
theorem kL_cell_14 : aCode iL_cell 14 = some (.iload_n 1, 1) := by decide +kernel
theorem sL_cell_14 {d : Nat} {σ : aS} {Q : aQ} {l0 : Option Value} {x : Int32} {lt : aL} {st : List Value} : aX d iL_cell 14 (l0 :: some (.int x) :: lt) (st) σ Q ↔ aX d iL_cell 15 (l0 :: some (.int x) :: lt) (.int x :: st) σ Q := X_iloadn kL_cell_14 rfl
theorem kL_cell_15 : aCode iL_cell 15 = some (.iconst 1, 1) := by decide +kernel
theorem sL_cell_15 {d : Nat} {σ : aS} {Q : aQ} {ls : aL} {st : List Value} : aX d iL_cell 15 (ls) (st) σ Q ↔ aX d iL_cell 16 (ls) (.int (nI 1) :: st) σ Q := X_iconst kL_cell_15 (by decide +kernel)
theorem kL_cell_16 : aCode iL_cell 16 = some (.iadd, 1) := by decide +kernel
theorem sL_cell_16 {d : Nat} {σ : aS} {Q : aQ} {x y : Int32} {ls : aL} {st : List Value} : aX d iL_cell 16 (ls) (.int y :: .int x :: st) σ Q ↔ aX d iL_cell 17 (ls) (.int (x + y) :: st) σ Q := X_iadd kL_cell_16
theorem kL_cell_17 : aCode iL_cell 17 = some (.imul, 1) := by decide +kernel
theorem sL_cell_17 {d : Nat} {σ : aS} {Q : aQ} {x y : Int32} {ls : aL} {st : List Value} : aX d iL_cell 17 (ls) (.int y :: .int x :: st) σ Q ↔ aX d iL_cell 18 (ls) (.int (x * y) :: st) σ Q := X_imul kL_cell_17
theorem kL_cell_18 : aCode iL_cell 18 = some (.ldc 8, 2) := by decide +kernel
theorem sL_cell_18 {d : Nat} {σ : aS} {Q : aQ} {ls : aL} {st : List Value} : aX d iL_cell 18 (ls) (st) σ Q ↔ aX d iL_cell 20 (ls) (.int 748579405 :: st) σ Q := X_ldc (w := 393) kL_cell_18 (by decide +kernel)
theorem kL_cell_20 : aCode iL_cell 20 = some (.iadd, 1) := by decide +kernel
theorem sL_cell_20 {d : Nat} {σ : aS} {Q : aQ} {x y : Int32} {ls : aL} {st : List Value} : aX d iL_cell 20 (ls) (.int y :: .int x :: st) σ Q ↔ aX d iL_cell 21 (ls) (.int (x + y) :: st) σ Q := X_iadd kL_cell_20
theorem kL_cell_21 : aCode iL_cell 21 = some (.ireturn, 1) := by decide +kernel
theorem sL_cell_21 {d : Nat} {σ : aS} {Q : aQ} {v : Int32} {ls : aL} : aX d iL_cell 21 (ls) ([.int v]) σ Q ↔ Q (some (.int v)) σ := X_iret kL_cell_21 (by decide +kernel)
theorem kL_low_0 : aCode iL_low 0 = some (.iload_n 0, 1) := by decide +kernel
theorem sL_low_0 {d : Nat} {σ : aS} {Q : aQ} {x : Int32} {lt : aL} {st : List Value} : aX d iL_low 0 (some (.int x) :: lt) (st) σ Q ↔ aX d iL_low 1 (some (.int x) :: lt) (.int x :: st) σ Q := X_iloadn kL_low_0 rfl
theorem kL_low_1 : aCode iL_low 1 = some (.ldc 9, 2) := by decide +kernel
theorem sL_low_1 {d : Nat} {σ : aS} {Q : aQ} {ls : aL} {st : List Value} : aX d iL_low 1 (ls) (st) σ Q ↔ aX d iL_low 3 (ls) (.int 2147483647 :: st) σ Q := X_ldc (w := 397) kL_low_1 (by decide +kernel)
theorem kL_low_3 : aCode iL_low 3 = some (.iand, 1) := by decide +kernel
theorem sL_low_3 {d : Nat} {σ : aS} {Q : aQ} {x y : Int32} {ls : aL} {st : List Value} : aX d iL_low 3 (ls) (.int y :: .int x :: st) σ Q ↔ aX d iL_low 4 (ls) (.int (x &&& y) :: st) σ Q := X_iand kL_low_3
theorem kL_low_4 : aCode iL_low 4 = some (.iload_n 1, 1) := by decide +kernel
theorem sL_low_4 {d : Nat} {σ : aS} {Q : aQ} {l0 : Option Value} {x : Int32} {lt : aL} {st : List Value} : aX d iL_low 4 (l0 :: some (.int x) :: lt) (st) σ Q ↔ aX d iL_low 5 (l0 :: some (.int x) :: lt) (.int x :: st) σ Q := X_iloadn kL_low_4 rfl
theorem kL_low_5 : aCode iL_low 5 = some (.irem, 1) := by decide +kernel
theorem sL_low_5 {d : Nat} {σ : aS} {Q : aQ} {x y : Int32} {ls : aL} {st : List Value} : aX d iL_low 5 (ls) (.int y :: .int x :: st) σ Q ↔ ¬ y = nI 0 ∧ aX d iL_low 6 (ls) (.int (x - x / y * y) :: st) σ Q := X_irem kL_low_5
theorem kL_low_6 : aCode iL_low 6 = some (.ireturn, 1) := by decide +kernel
theorem sL_low_6 {d : Nat} {σ : aS} {Q : aQ} {v : Int32} {ls : aL} : aX d iL_low 6 (ls) ([.int v]) σ Q ↔ Q (some (.int v)) σ := X_iret kL_low_6 (by decide +kernel)
theorem kL_bits_0 : aCode iL_bits 0 = some (.iconst 0, 1) := by decide +kernel
theorem sL_bits_0 {d : Nat} {σ : aS} {Q : aQ} {ls : aL} {st : List Value} : aX d iL_bits 0 (ls) (st) σ Q ↔ aX d iL_bits 1 (ls) (.int (nI 0) :: st) σ Q := X_iconst kL_bits_0 (by decide +kernel)
theorem kL_bits_1 : aCode iL_bits 1 = some (.istore_n 1, 1) := by decide +kernel
theorem sL_bits_1 {d : Nat} {σ : aS} {Q : aQ} {l0 lo : Option Value} {x : Int32} {lt : aL} {st : List Value} : aX d iL_bits 1 (l0 :: lo :: lt) (.int x :: st) σ Q ↔ aX d iL_bits 2 (aclr l0 :: some (.int x) :: lt) (st) σ Q := X_istoren kL_bits_1 (by simp only [List.length_cons]; omega)
theorem kL_bits_2 : aCode iL_bits 2 = some (.iload_n 0, 1) := by decide +kernel
theorem sL_bits_2 {d : Nat} {σ : aS} {Q : aQ} {x : Int32} {lt : aL} {st : List Value} : aX d iL_bits 2 (some (.int x) :: lt) (st) σ Q ↔ aX d iL_bits 3 (some (.int x) :: lt) (.int x :: st) σ Q := X_iloadn kL_bits_2 rfl
theorem kL_bits_3 : aCode iL_bits 3 = some (.istore_n 2, 1) := by decide +kernel
theorem sL_bits_3 {d : Nat} {σ : aS} {Q : aQ} {l0 l1 lo : Option Value} {x : Int32} {lt : aL} {st : List Value} : aX d iL_bits 3 (l0 :: l1 :: lo :: lt) (.int x :: st) σ Q ↔ aX d iL_bits 4 (l0 :: aclr l1 :: some (.int x) :: lt) (st) σ Q := X_istoren kL_bits_3 (by simp only [List.length_cons]; omega)
theorem kL_bits_4 : aCode iL_bits 4 = some (.iload_n 2, 1) := by decide +kernel
theorem sL_bits_4 {d : Nat} {σ : aS} {Q : aQ} {l0 l1 : Option Value} {x : Int32} {lt : aL} {st : List Value} : aX d iL_bits 4 (l0 :: l1 :: some (.int x) :: lt) (st) σ Q ↔ aX d iL_bits 5 (l0 :: l1 :: some (.int x) :: lt) (.int x :: st) σ Q := X_iloadn kL_bits_4 rfl
theorem kL_bits_5 : aCode iL_bits 5 = some (.ifCond .eq 15, 3) := by decide +kernel
theorem sL_bits_5 {d : Nat} {σ : aS} {Q : aQ} {x : Int32} {ls : aL} {st : List Value} : aX d iL_bits 5 (ls) (.int x :: st) σ Q ↔ (if x = nI 0 then aX d iL_bits 20 (ls) (st) σ Q else aX d iL_bits 8 (ls) (st) σ Q) := by rw [X_if kL_bits_5 (t := 20) (by decide)]; simp only [aCmp_eq]
theorem kL_bits_8 : aCode iL_bits 8 = some (.iinc 1 1, 3) := by decide +kernel
theorem sL_bits_8 {d : Nat} {σ : aS} {Q : aQ} {l0 : Option Value} {x : Int32} {lt : aL} {st : List Value} : aX d iL_bits 8 (l0 :: some (.int x) :: lt) (st) σ Q ↔ aX d iL_bits 11 (aclr l0 :: some (.int (x + nI 1)) :: lt) (st) σ Q := X_iinc kL_bits_8 rfl (by decide +kernel)
theorem kL_bits_11 : aCode iL_bits 11 = some (.iload_n 2, 1) := by decide +kernel
theorem sL_bits_11 {d : Nat} {σ : aS} {Q : aQ} {l0 l1 : Option Value} {x : Int32} {lt : aL} {st : List Value} : aX d iL_bits 11 (l0 :: l1 :: some (.int x) :: lt) (st) σ Q ↔ aX d iL_bits 12 (l0 :: l1 :: some (.int x) :: lt) (.int x :: st) σ Q := X_iloadn kL_bits_11 rfl
theorem kL_bits_12 : aCode iL_bits 12 = some (.iload_n 2, 1) := by decide +kernel
theorem sL_bits_12 {d : Nat} {σ : aS} {Q : aQ} {l0 l1 : Option Value} {x : Int32} {lt : aL} {st : List Value} : aX d iL_bits 12 (l0 :: l1 :: some (.int x) :: lt) (st) σ Q ↔ aX d iL_bits 13 (l0 :: l1 :: some (.int x) :: lt) (.int x :: st) σ Q := X_iloadn kL_bits_12 rfl
theorem kL_bits_13 : aCode iL_bits 13 = some (.iconst 1, 1) := by decide +kernel
theorem sL_bits_13 {d : Nat} {σ : aS} {Q : aQ} {ls : aL} {st : List Value} : aX d iL_bits 13 (ls) (st) σ Q ↔ aX d iL_bits 14 (ls) (.int (nI 1) :: st) σ Q := X_iconst kL_bits_13 (by decide +kernel)
theorem kL_bits_14 : aCode iL_bits 14 = some (.isub, 1) := by decide +kernel
theorem sL_bits_14 {d : Nat} {σ : aS} {Q : aQ} {x y : Int32} {ls : aL} {st : List Value} : aX d iL_bits 14 (ls) (.int y :: .int x :: st) σ Q ↔ aX d iL_bits 15 (ls) (.int (x - y) :: st) σ Q := X_isub kL_bits_14
theorem kL_bits_15 : aCode iL_bits 15 = some (.iand, 1) := by decide +kernel
theorem sL_bits_15 {d : Nat} {σ : aS} {Q : aQ} {x y : Int32} {ls : aL} {st : List Value} : aX d iL_bits 15 (ls) (.int y :: .int x :: st) σ Q ↔ aX d iL_bits 16 (ls) (.int (x &&& y) :: st) σ Q := X_iand kL_bits_15
theorem kL_bits_16 : aCode iL_bits 16 = some (.istore_n 2, 1) := by decide +kernel
theorem sL_bits_16 {d : Nat} {σ : aS} {Q : aQ} {l0 l1 lo : Option Value} {x : Int32} {lt : aL} {st : List Value} : aX d iL_bits 16 (l0 :: l1 :: lo :: lt) (.int x :: st) σ Q ↔ aX d iL_bits 17 (l0 :: aclr l1 :: some (.int x) :: lt) (st) σ Q := X_istoren kL_bits_16 (by simp only [List.length_cons]; omega)
theorem kL_bits_17 : aCode iL_bits 17 = some (.goto (-13), 3) := by decide +kernel
theorem sL_bits_17 {d : Nat} {σ : aS} {Q : aQ} {ls : aL} {st : List Value} : aX d iL_bits 17 (ls) (st) σ Q ↔ aX d iL_bits 4 (ls) (st) σ Q := X_goto kL_bits_17 (by decide)
theorem kL_bits_20 : aCode iL_bits 20 = some (.iload_n 1, 1) := by decide +kernel
theorem sL_bits_20 {d : Nat} {σ : aS} {Q : aQ} {l0 : Option Value} {x : Int32} {lt : aL} {st : List Value} : aX d iL_bits 20 (l0 :: some (.int x) :: lt) (st) σ Q ↔ aX d iL_bits 21 (l0 :: some (.int x) :: lt) (.int x :: st) σ Q := X_iloadn kL_bits_20 rfl
theorem kL_bits_21 : aCode iL_bits 21 = some (.ireturn, 1) := by decide +kernel
theorem sL_bits_21 {d : Nat} {σ : aS} {Q : aQ} {v : Int32} {ls : aL} : aX d iL_bits 21 (ls) ([.int v]) σ Q ↔ Q (some (.int v)) σ := X_iret kL_bits_21 (by decide +kernel)
theorem kL_seat_0 : aCode iL_seat 0 = some (.iload_n 0, 1) := by decide +kernel
theorem sL_seat_0 {d : Nat} {σ : aS} {Q : aQ} {x : Int32} {lt : aL} {st : List Value} : aX d iL_seat 0 (some (.int x) :: lt) (st) σ Q ↔ aX d iL_seat 1 (some (.int x) :: lt) (.int x :: st) σ Q := X_iloadn kL_seat_0 rfl
theorem kL_seat_1 : aCode iL_seat 1 = some (.sipush 10000, 3) := by decide +kernel
theorem sL_seat_1 {d : Nat} {σ : aS} {Q : aQ} {ls : aL} {st : List Value} : aX d iL_seat 1 (ls) (st) σ Q ↔ aX d iL_seat 4 (ls) (.int (nI 10000) :: st) σ Q := X_sipush kL_seat_1 (by decide +kernel)
theorem kL_seat_4 : aCode iL_seat 4 = some (.idiv, 1) := by decide +kernel
theorem sL_seat_4 {d : Nat} {σ : aS} {Q : aQ} {x y : Int32} {ls : aL} {st : List Value} : aX d iL_seat 4 (ls) (.int y :: .int x :: st) σ Q ↔ ¬ y = nI 0 ∧ aX d iL_seat 5 (ls) (.int (x / y) :: st) σ Q := X_idiv kL_seat_4
theorem kL_seat_5 : aCode iL_seat 5 = some (.ireturn, 1) := by decide +kernel
theorem sL_seat_5 {d : Nat} {σ : aS} {Q : aQ} {v : Int32} {ls : aL} : aX d iL_seat 5 (ls) ([.int v]) σ Q ↔ Q (some (.int v)) σ := X_iret kL_seat_5 (by decide +kernel)
theorem kL_what_0 : aCode iL_what 0 = some (.iload_n 0, 1) := by decide +kernel
theorem sL_what_0 {d : Nat} {σ : aS} {Q : aQ} {x : Int32} {lt : aL} {st : List Value} : aX d iL_what 0 (some (.int x) :: lt) (st) σ Q ↔ aX d iL_what 1 (some (.int x) :: lt) (.int x :: st) σ Q := X_iloadn kL_what_0 rfl
theorem kL_what_1 : aCode iL_what 1 = some (.sipush 5000, 3) := by decide +kernel
theorem sL_what_1 {d : Nat} {σ : aS} {Q : aQ} {ls : aL} {st : List Value} : aX d iL_what 1 (ls) (st) σ Q ↔ aX d iL_what 4 (ls) (.int (nI 5000) :: st) σ Q := X_sipush kL_what_1 (by decide +kernel)
theorem kL_what_4 : aCode iL_what 4 = some (.irem, 1) := by decide +kernel
theorem sL_what_4 {d : Nat} {σ : aS} {Q : aQ} {x y : Int32} {ls : aL} {st : List Value} : aX d iL_what 4 (ls) (.int y :: .int x :: st) σ Q ↔ ¬ y = nI 0 ∧ aX d iL_what 5 (ls) (.int (x - x / y * y) :: st) σ Q := X_irem kL_what_4
theorem kL_what_5 : aCode iL_what 5 = some (.ireturn, 1) := by decide +kernel
theorem sL_what_5 {d : Nat} {σ : aS} {Q : aQ} {v : Int32} {ls : aL} : aX d iL_what 5 (ls) ([.int v]) σ Q ↔ Q (some (.int v)) σ := X_iret kL_what_5 (by decide +kernel)
theorem kL_guess_0 : aCode iL_guess 0 = some (.bipush 15, 2) := by decide +kernel
theorem sL_guess_0 {d : Nat} {σ : aS} {Q : aQ} {ls : aL} {st : List Value} : aX d iL_guess 0 (ls) (st) σ Q ↔ aX d iL_guess 2 (ls) (.int (nI 15) :: st) σ Q := X_bipush kL_guess_0 (by decide +kernel)
theorem kL_guess_2 : aCode iL_guess 2 = some (.istore_n 2, 1) := by decide +kernel
theorem sL_guess_2 {d : Nat} {σ : aS} {Q : aQ} {l0 l1 lo : Option Value} {x : Int32} {lt : aL} {st : List Value} : aX d iL_guess 2 (l0 :: l1 :: lo :: lt) (.int x :: st) σ Q ↔ aX d iL_guess 3 (l0 :: aclr l1 :: some (.int x) :: lt) (st) σ Q := X_istoren kL_guess_2 (by simp only [List.length_cons]; omega)
theorem kL_guess_3 : aCode iL_guess 3 = some (.bipush 14, 2) := by decide +kernel
theorem sL_guess_3 {d : Nat} {σ : aS} {Q : aQ} {ls : aL} {st : List Value} : aX d iL_guess 3 (ls) (st) σ Q ↔ aX d iL_guess 5 (ls) (.int (nI 14) :: st) σ Q := X_bipush kL_guess_3 (by decide +kernel)
theorem kL_guess_5 : aCode iL_guess 5 = some (.istore_n 3, 1) := by decide +kernel
theorem sL_guess_5 {d : Nat} {σ : aS} {Q : aQ} {l0 l1 l2 lo : Option Value} {x : Int32} {lt : aL} {st : List Value} : aX d iL_guess 5 (l0 :: l1 :: l2 :: lo :: lt) (.int x :: st) σ Q ↔ aX d iL_guess 6 (l0 :: l1 :: aclr l2 :: some (.int x) :: lt) (st) σ Q := X_istoren kL_guess_5 (by simp only [List.length_cons]; omega)
theorem kL_guess_6 : aCode iL_guess 6 = some (.iload_n 3, 1) := by decide +kernel
theorem sL_guess_6 {d : Nat} {σ : aS} {Q : aQ} {l0 l1 l2 : Option Value} {x : Int32} {lt : aL} {st : List Value} : aX d iL_guess 6 (l0 :: l1 :: l2 :: some (.int x) :: lt) (st) σ Q ↔ aX d iL_guess 7 (l0 :: l1 :: l2 :: some (.int x) :: lt) (.int x :: st) σ Q := X_iloadn kL_guess_6 rfl
theorem kL_guess_7 : aCode iL_guess 7 = some (.ifCond .lt 34, 3) := by decide +kernel
theorem sL_guess_7 {d : Nat} {σ : aS} {Q : aQ} {x : Int32} {ls : aL} {st : List Value} : aX d iL_guess 7 (ls) (.int x :: st) σ Q ↔ (if x < nI 0 then aX d iL_guess 41 (ls) (st) σ Q else aX d iL_guess 10 (ls) (st) σ Q) := by rw [X_if kL_guess_7 (t := 41) (by decide)]; simp only [aCmp_lt]
theorem kL_guess_10 : aCode iL_guess 10 = some (.aload_n 1, 1) := by decide +kernel
theorem sL_guess_10 {d : Nat} {σ : aS} {Q : aQ} {l0 : Option Value} {x : Nat} {lt : aL} {st : List Value} : aX d iL_guess 10 (l0 :: some (.ref x) :: lt) (st) σ Q ↔ aX d iL_guess 11 (l0 :: some (.ref x) :: lt) (.ref x :: st) σ Q := X_aloadn kL_guess_10 rfl rfl
theorem sL_guess_10n {d : Nat} {σ : aS} {Q : aQ} {l0 : Option Value} {lt : aL} {st : List Value} : aX d iL_guess 10 (l0 :: some .null :: lt) (st) σ Q ↔ aX d iL_guess 11 (l0 :: some .null :: lt) (.null :: st) σ Q := X_aloadn kL_guess_10 rfl rfl
theorem kL_guess_11 : aCode iL_guess 11 = some (.iload_n 3, 1) := by decide +kernel
theorem sL_guess_11 {d : Nat} {σ : aS} {Q : aQ} {l0 l1 l2 : Option Value} {x : Int32} {lt : aL} {st : List Value} : aX d iL_guess 11 (l0 :: l1 :: l2 :: some (.int x) :: lt) (st) σ Q ↔ aX d iL_guess 12 (l0 :: l1 :: l2 :: some (.int x) :: lt) (.int x :: st) σ Q := X_iloadn kL_guess_11 rfl
theorem kL_guess_12 : aCode iL_guess 12 = some (.iaload, 1) := by decide +kernel
theorem sL_guess_12 {d : Nat} {σ : aS} {Q : aQ} {a : Nat} {i : Int32} {ls : aL} {st : List Value} : aX d iL_guess 12 (ls) (.int i :: .ref a :: st) σ Q ↔ ∃ x, aRowR σ a = some x ∧ vp_in i x.1 ∧ aX d iL_guess 13 (ls) (.int (x.2 i.toNatClampNeg) :: st) σ Q := X_iaload kL_guess_12
theorem kL_guess_13 : aCode iL_guess 13 = some (.iload_n 0, 1) := by decide +kernel
theorem sL_guess_13 {d : Nat} {σ : aS} {Q : aQ} {x : Int32} {lt : aL} {st : List Value} : aX d iL_guess 13 (some (.int x) :: lt) (st) σ Q ↔ aX d iL_guess 14 (some (.int x) :: lt) (.int x :: st) σ Q := X_iloadn kL_guess_13 rfl
theorem kL_guess_14 : aCode iL_guess 14 = some (.ixor, 1) := by decide +kernel
theorem sL_guess_14 {d : Nat} {σ : aS} {Q : aQ} {x y : Int32} {ls : aL} {st : List Value} : aX d iL_guess 14 (ls) (.int y :: .int x :: st) σ Q ↔ aX d iL_guess 15 (ls) (.int (x ^^^ y) :: st) σ Q := X_ixor kL_guess_14
theorem kL_guess_15 : aCode iL_guess 15 = some (.invokestatic 10, 3) := by decide +kernel
theorem sL_guess_15 {d : Nat} {σ : aS} {Q : aQ} {p0 : Int32} {ls : aL} : aX (d + 1) iL_guess 15 (ls) (.int p0 :: []) σ Q ↔ aX d iL_bits 0 [some (.int p0), none, none] [] σ (fun r τ => aX (d + 1) iL_guess 18 (ls) (aret r ([])) τ Q) := X_invs (N := 1) (As := [.int p0]) (k := 1) (w := 398) kL_guess_15 (by decide +kernel) (by decide) (by decide +kernel) rfl rfl (by simp only [List.length_cons, List.length_nil]; omega) (by simp only [List.length_cons, List.length_nil]; omega) rfl (Nat.le_of_ble_eq_true rfl)
theorem kL_guess_18 : aCode iL_guess 18 = some (.aload_n 1, 1) := by decide +kernel
theorem sL_guess_18 {d : Nat} {σ : aS} {Q : aQ} {l0 : Option Value} {x : Nat} {lt : aL} {st : List Value} : aX d iL_guess 18 (l0 :: some (.ref x) :: lt) (st) σ Q ↔ aX d iL_guess 19 (l0 :: some (.ref x) :: lt) (.ref x :: st) σ Q := X_aloadn kL_guess_18 rfl rfl
theorem sL_guess_18n {d : Nat} {σ : aS} {Q : aQ} {l0 : Option Value} {lt : aL} {st : List Value} : aX d iL_guess 18 (l0 :: some .null :: lt) (st) σ Q ↔ aX d iL_guess 19 (l0 :: some .null :: lt) (.null :: st) σ Q := X_aloadn kL_guess_18 rfl rfl
theorem kL_guess_19 : aCode iL_guess 19 = some (.iload_n 2, 1) := by decide +kernel
theorem sL_guess_19 {d : Nat} {σ : aS} {Q : aQ} {l0 l1 : Option Value} {x : Int32} {lt : aL} {st : List Value} : aX d iL_guess 19 (l0 :: l1 :: some (.int x) :: lt) (st) σ Q ↔ aX d iL_guess 20 (l0 :: l1 :: some (.int x) :: lt) (.int x :: st) σ Q := X_iloadn kL_guess_19 rfl
theorem kL_guess_20 : aCode iL_guess 20 = some (.iaload, 1) := by decide +kernel
theorem sL_guess_20 {d : Nat} {σ : aS} {Q : aQ} {a : Nat} {i : Int32} {ls : aL} {st : List Value} : aX d iL_guess 20 (ls) (.int i :: .ref a :: st) σ Q ↔ ∃ x, aRowR σ a = some x ∧ vp_in i x.1 ∧ aX d iL_guess 21 (ls) (.int (x.2 i.toNatClampNeg) :: st) σ Q := X_iaload kL_guess_20
theorem kL_guess_21 : aCode iL_guess 21 = some (.iload_n 0, 1) := by decide +kernel
theorem sL_guess_21 {d : Nat} {σ : aS} {Q : aQ} {x : Int32} {lt : aL} {st : List Value} : aX d iL_guess 21 (some (.int x) :: lt) (st) σ Q ↔ aX d iL_guess 22 (some (.int x) :: lt) (.int x :: st) σ Q := X_iloadn kL_guess_21 rfl
theorem kL_guess_22 : aCode iL_guess 22 = some (.ixor, 1) := by decide +kernel
theorem sL_guess_22 {d : Nat} {σ : aS} {Q : aQ} {x y : Int32} {ls : aL} {st : List Value} : aX d iL_guess 22 (ls) (.int y :: .int x :: st) σ Q ↔ aX d iL_guess 23 (ls) (.int (x ^^^ y) :: st) σ Q := X_ixor kL_guess_22
theorem kL_guess_23 : aCode iL_guess 23 = some (.invokestatic 10, 3) := by decide +kernel
theorem sL_guess_23 {d : Nat} {σ : aS} {Q : aQ} {p0 : Int32} {v0 : Value} {ls : aL} : aX (d + 1) iL_guess 23 (ls) (.int p0 :: v0 :: []) σ Q ↔ aX d iL_bits 0 [some (.int p0), none, none] [] σ (fun r τ => aX (d + 1) iL_guess 26 (ls) (aret r (v0 :: [])) τ Q) := X_invs (N := 1) (As := [.int p0]) (k := 1) (w := 398) kL_guess_23 (by decide +kernel) (by decide) (by decide +kernel) rfl rfl (by simp only [List.length_cons, List.length_nil]; omega) (by simp only [List.length_cons, List.length_nil]; omega) rfl (Nat.le_of_ble_eq_true rfl)
theorem kL_guess_26 : aCode iL_guess 26 = some (.if_icmp .gt 7, 3) := by decide +kernel
theorem sL_guess_26 {d : Nat} {σ : aS} {Q : aQ} {x y : Int32} {ls : aL} {st : List Value} : aX d iL_guess 26 (ls) (.int y :: .int x :: st) σ Q ↔ (if y < x then aX d iL_guess 33 (ls) (st) σ Q else aX d iL_guess 29 (ls) (st) σ Q) := by rw [X_icmp kL_guess_26 (t := 33) (by decide)]; simp only [aCmp_gt]
theorem kL_guess_29 : aCode iL_guess 29 = some (.iload_n 3, 1) := by decide +kernel
theorem sL_guess_29 {d : Nat} {σ : aS} {Q : aQ} {l0 l1 l2 : Option Value} {x : Int32} {lt : aL} {st : List Value} : aX d iL_guess 29 (l0 :: l1 :: l2 :: some (.int x) :: lt) (st) σ Q ↔ aX d iL_guess 30 (l0 :: l1 :: l2 :: some (.int x) :: lt) (.int x :: st) σ Q := X_iloadn kL_guess_29 rfl
theorem kL_guess_30 : aCode iL_guess 30 = some (.goto 4, 3) := by decide +kernel
theorem sL_guess_30 {d : Nat} {σ : aS} {Q : aQ} {ls : aL} {st : List Value} : aX d iL_guess 30 (ls) (st) σ Q ↔ aX d iL_guess 34 (ls) (st) σ Q := X_goto kL_guess_30 (by decide)
theorem kL_guess_33 : aCode iL_guess 33 = some (.iload_n 2, 1) := by decide +kernel
theorem sL_guess_33 {d : Nat} {σ : aS} {Q : aQ} {l0 l1 : Option Value} {x : Int32} {lt : aL} {st : List Value} : aX d iL_guess 33 (l0 :: l1 :: some (.int x) :: lt) (st) σ Q ↔ aX d iL_guess 34 (l0 :: l1 :: some (.int x) :: lt) (.int x :: st) σ Q := X_iloadn kL_guess_33 rfl
theorem kL_guess_34 : aCode iL_guess 34 = some (.istore_n 2, 1) := by decide +kernel
theorem sL_guess_34 {d : Nat} {σ : aS} {Q : aQ} {l0 l1 lo : Option Value} {x : Int32} {lt : aL} {st : List Value} : aX d iL_guess 34 (l0 :: l1 :: lo :: lt) (.int x :: st) σ Q ↔ aX d iL_guess 35 (l0 :: aclr l1 :: some (.int x) :: lt) (st) σ Q := X_istoren kL_guess_34 (by simp only [List.length_cons]; omega)
theorem kL_guess_35 : aCode iL_guess 35 = some (.iinc 3 (-1), 3) := by decide +kernel
theorem sL_guess_35 {d : Nat} {σ : aS} {Q : aQ} {l0 l1 l2 : Option Value} {x : Int32} {lt : aL} {st : List Value} : aX d iL_guess 35 (l0 :: l1 :: l2 :: some (.int x) :: lt) (st) σ Q ↔ aX d iL_guess 38 (l0 :: l1 :: aclr l2 :: some (.int (x + (-1))) :: lt) (st) σ Q := X_iinc kL_guess_35 rfl (by decide +kernel)
theorem kL_guess_38 : aCode iL_guess 38 = some (.goto (-32), 3) := by decide +kernel
theorem sL_guess_38 {d : Nat} {σ : aS} {Q : aQ} {ls : aL} {st : List Value} : aX d iL_guess 38 (ls) (st) σ Q ↔ aX d iL_guess 6 (ls) (st) σ Q := X_goto kL_guess_38 (by decide)
theorem kL_guess_41 : aCode iL_guess 41 = some (.iload_n 2, 1) := by decide +kernel
theorem sL_guess_41 {d : Nat} {σ : aS} {Q : aQ} {l0 l1 : Option Value} {x : Int32} {lt : aL} {st : List Value} : aX d iL_guess 41 (l0 :: l1 :: some (.int x) :: lt) (st) σ Q ↔ aX d iL_guess 42 (l0 :: l1 :: some (.int x) :: lt) (.int x :: st) σ Q := X_iloadn kL_guess_41 rfl
theorem kL_guess_42 : aCode iL_guess 42 = some (.ireturn, 1) := by decide +kernel
theorem sL_guess_42 {d : Nat} {σ : aS} {Q : aQ} {v : Int32} {ls : aL} : aX d iL_guess 42 (ls) ([.int v]) σ Q ↔ Q (some (.int v)) σ := X_iret kL_guess_42 (by decide +kernel)
theorem kL_has_0 : aCode iL_has 0 = some (.iconst 0, 1) := by decide +kernel
theorem sL_has_0 {d : Nat} {σ : aS} {Q : aQ} {ls : aL} {st : List Value} : aX d iL_has 0 (ls) (st) σ Q ↔ aX d iL_has 1 (ls) (.int (nI 0) :: st) σ Q := X_iconst kL_has_0 (by decide +kernel)
theorem kL_has_1 : aCode iL_has 1 = some (.istore 4, 2) := by decide +kernel
theorem sL_has_1 {d : Nat} {σ : aS} {Q : aQ} {l0 l1 l2 l3 lo : Option Value} {x : Int32} {lt : aL} {st : List Value} : aX d iL_has 1 (l0 :: l1 :: l2 :: l3 :: lo :: lt) (.int x :: st) σ Q ↔ aX d iL_has 3 (l0 :: l1 :: l2 :: aclr l3 :: some (.int x) :: lt) (st) σ Q := X_istore kL_has_1 (by simp only [List.length_cons]; omega)
theorem kL_has_3 : aCode iL_has 3 = some (.iload 4, 2) := by decide +kernel
theorem sL_has_3 {d : Nat} {σ : aS} {Q : aQ} {l0 l1 l2 l3 : Option Value} {x : Int32} {lt : aL} {st : List Value} : aX d iL_has 3 (l0 :: l1 :: l2 :: l3 :: some (.int x) :: lt) (st) σ Q ↔ aX d iL_has 5 (l0 :: l1 :: l2 :: l3 :: some (.int x) :: lt) (.int x :: st) σ Q := X_iload kL_has_3 rfl
theorem kL_has_5 : aCode iL_has 5 = some (.aload_n 2, 1) := by decide +kernel
theorem sL_has_5 {d : Nat} {σ : aS} {Q : aQ} {l0 l1 : Option Value} {x : Nat} {lt : aL} {st : List Value} : aX d iL_has 5 (l0 :: l1 :: some (.ref x) :: lt) (st) σ Q ↔ aX d iL_has 6 (l0 :: l1 :: some (.ref x) :: lt) (.ref x :: st) σ Q := X_aloadn kL_has_5 rfl rfl
theorem sL_has_5n {d : Nat} {σ : aS} {Q : aQ} {l0 l1 : Option Value} {lt : aL} {st : List Value} : aX d iL_has 5 (l0 :: l1 :: some .null :: lt) (st) σ Q ↔ aX d iL_has 6 (l0 :: l1 :: some .null :: lt) (.null :: st) σ Q := X_aloadn kL_has_5 rfl rfl
theorem kL_has_6 : aCode iL_has 6 = some (.iconst 4, 1) := by decide +kernel
theorem sL_has_6 {d : Nat} {σ : aS} {Q : aQ} {ls : aL} {st : List Value} : aX d iL_has 6 (ls) (st) σ Q ↔ aX d iL_has 7 (ls) (.int (nI 4) :: st) σ Q := X_iconst kL_has_6 (by decide +kernel)
theorem kL_has_7 : aCode iL_has 7 = some (.iload_n 0, 1) := by decide +kernel
theorem sL_has_7 {d : Nat} {σ : aS} {Q : aQ} {x : Int32} {lt : aL} {st : List Value} : aX d iL_has 7 (some (.int x) :: lt) (st) σ Q ↔ aX d iL_has 8 (some (.int x) :: lt) (.int x :: st) σ Q := X_iloadn kL_has_7 rfl
theorem kL_has_8 : aCode iL_has 8 = some (.imul, 1) := by decide +kernel
theorem sL_has_8 {d : Nat} {σ : aS} {Q : aQ} {x y : Int32} {ls : aL} {st : List Value} : aX d iL_has 8 (ls) (.int y :: .int x :: st) σ Q ↔ aX d iL_has 9 (ls) (.int (x * y) :: st) σ Q := X_imul kL_has_8
theorem kL_has_9 : aCode iL_has 9 = some (.iconst 1, 1) := by decide +kernel
theorem sL_has_9 {d : Nat} {σ : aS} {Q : aQ} {ls : aL} {st : List Value} : aX d iL_has 9 (ls) (st) σ Q ↔ aX d iL_has 10 (ls) (.int (nI 1) :: st) σ Q := X_iconst kL_has_9 (by decide +kernel)
theorem kL_has_10 : aCode iL_has 10 = some (.iadd, 1) := by decide +kernel
theorem sL_has_10 {d : Nat} {σ : aS} {Q : aQ} {x y : Int32} {ls : aL} {st : List Value} : aX d iL_has 10 (ls) (.int y :: .int x :: st) σ Q ↔ aX d iL_has 11 (ls) (.int (x + y) :: st) σ Q := X_iadd kL_has_10
theorem kL_has_11 : aCode iL_has 11 = some (.iaload, 1) := by decide +kernel
theorem sL_has_11 {d : Nat} {σ : aS} {Q : aQ} {a : Nat} {i : Int32} {ls : aL} {st : List Value} : aX d iL_has 11 (ls) (.int i :: .ref a :: st) σ Q ↔ ∃ x, aRowR σ a = some x ∧ vp_in i x.1 ∧ aX d iL_has 12 (ls) (.int (x.2 i.toNatClampNeg) :: st) σ Q := X_iaload kL_has_11
theorem kL_has_12 : aCode iL_has 12 = some (.if_icmp .ge 27, 3) := by decide +kernel
theorem sL_has_12 {d : Nat} {σ : aS} {Q : aQ} {x y : Int32} {ls : aL} {st : List Value} : aX d iL_has 12 (ls) (.int y :: .int x :: st) σ Q ↔ (if y ≤ x then aX d iL_has 39 (ls) (st) σ Q else aX d iL_has 15 (ls) (st) σ Q) := by rw [X_icmp kL_has_12 (t := 39) (by decide)]; simp only [aCmp_ge]
theorem kL_has_15 : aCode iL_has 15 = some (.aload_n 3, 1) := by decide +kernel
theorem sL_has_15 {d : Nat} {σ : aS} {Q : aQ} {l0 l1 l2 : Option Value} {x : Nat} {lt : aL} {st : List Value} : aX d iL_has 15 (l0 :: l1 :: l2 :: some (.ref x) :: lt) (st) σ Q ↔ aX d iL_has 16 (l0 :: l1 :: l2 :: some (.ref x) :: lt) (.ref x :: st) σ Q := X_aloadn kL_has_15 rfl rfl
theorem sL_has_15n {d : Nat} {σ : aS} {Q : aQ} {l0 l1 l2 : Option Value} {lt : aL} {st : List Value} : aX d iL_has 15 (l0 :: l1 :: l2 :: some .null :: lt) (st) σ Q ↔ aX d iL_has 16 (l0 :: l1 :: l2 :: some .null :: lt) (.null :: st) σ Q := X_aloadn kL_has_15 rfl rfl
theorem kL_has_16 : aCode iL_has 16 = some (.bipush 8, 2) := by decide +kernel
theorem sL_has_16 {d : Nat} {σ : aS} {Q : aQ} {ls : aL} {st : List Value} : aX d iL_has 16 (ls) (st) σ Q ↔ aX d iL_has 18 (ls) (.int (nI 8) :: st) σ Q := X_bipush kL_has_16 (by decide +kernel)
theorem kL_has_18 : aCode iL_has 18 = some (.iload_n 0, 1) := by decide +kernel
theorem sL_has_18 {d : Nat} {σ : aS} {Q : aQ} {x : Int32} {lt : aL} {st : List Value} : aX d iL_has 18 (some (.int x) :: lt) (st) σ Q ↔ aX d iL_has 19 (some (.int x) :: lt) (.int x :: st) σ Q := X_iloadn kL_has_18 rfl
theorem kL_has_19 : aCode iL_has 19 = some (.imul, 1) := by decide +kernel
theorem sL_has_19 {d : Nat} {σ : aS} {Q : aQ} {x y : Int32} {ls : aL} {st : List Value} : aX d iL_has 19 (ls) (.int y :: .int x :: st) σ Q ↔ aX d iL_has 20 (ls) (.int (x * y) :: st) σ Q := X_imul kL_has_19
theorem kL_has_20 : aCode iL_has 20 = some (.iload 4, 2) := by decide +kernel
theorem sL_has_20 {d : Nat} {σ : aS} {Q : aQ} {l0 l1 l2 l3 : Option Value} {x : Int32} {lt : aL} {st : List Value} : aX d iL_has 20 (l0 :: l1 :: l2 :: l3 :: some (.int x) :: lt) (st) σ Q ↔ aX d iL_has 22 (l0 :: l1 :: l2 :: l3 :: some (.int x) :: lt) (.int x :: st) σ Q := X_iload kL_has_20 rfl
theorem kL_has_22 : aCode iL_has 22 = some (.iadd, 1) := by decide +kernel
theorem sL_has_22 {d : Nat} {σ : aS} {Q : aQ} {x y : Int32} {ls : aL} {st : List Value} : aX d iL_has 22 (ls) (.int y :: .int x :: st) σ Q ↔ aX d iL_has 23 (ls) (.int (x + y) :: st) σ Q := X_iadd kL_has_22
theorem kL_has_23 : aCode iL_has 23 = some (.iaload, 1) := by decide +kernel
theorem sL_has_23 {d : Nat} {σ : aS} {Q : aQ} {a : Nat} {i : Int32} {ls : aL} {st : List Value} : aX d iL_has 23 (ls) (.int i :: .ref a :: st) σ Q ↔ ∃ x, aRowR σ a = some x ∧ vp_in i x.1 ∧ aX d iL_has 24 (ls) (.int (x.2 i.toNatClampNeg) :: st) σ Q := X_iaload kL_has_23
theorem kL_has_24 : aCode iL_has 24 = some (.invokestatic 16, 3) := by decide +kernel
theorem sL_has_24 {d : Nat} {σ : aS} {Q : aQ} {p0 : Int32} {ls : aL} : aX (d + 1) iL_has 24 (ls) (.int p0 :: []) σ Q ↔ aX d iL_seat 0 [some (.int p0)] [] σ (fun r τ => aX (d + 1) iL_has 27 (ls) (aret r ([])) τ Q) := X_invs (N := 1) (As := [.int p0]) (k := 1) (w := 404) kL_has_24 (by decide +kernel) (by decide) (by decide +kernel) rfl rfl (by simp only [List.length_cons, List.length_nil]; omega) (by simp only [List.length_cons, List.length_nil]; omega) rfl (Nat.le_of_ble_eq_true rfl)
theorem kL_has_27 : aCode iL_has 27 = some (.iload_n 1, 1) := by decide +kernel
theorem sL_has_27 {d : Nat} {σ : aS} {Q : aQ} {l0 : Option Value} {x : Int32} {lt : aL} {st : List Value} : aX d iL_has 27 (l0 :: some (.int x) :: lt) (st) σ Q ↔ aX d iL_has 28 (l0 :: some (.int x) :: lt) (.int x :: st) σ Q := X_iloadn kL_has_27 rfl
theorem kL_has_28 : aCode iL_has 28 = some (.if_icmp .ne 5, 3) := by decide +kernel
theorem sL_has_28 {d : Nat} {σ : aS} {Q : aQ} {x y : Int32} {ls : aL} {st : List Value} : aX d iL_has 28 (ls) (.int y :: .int x :: st) σ Q ↔ (if ¬ x = y then aX d iL_has 33 (ls) (st) σ Q else aX d iL_has 31 (ls) (st) σ Q) := by rw [X_icmp kL_has_28 (t := 33) (by decide)]; simp only [aCmp_ne]
theorem kL_has_31 : aCode iL_has 31 = some (.iconst 1, 1) := by decide +kernel
theorem sL_has_31 {d : Nat} {σ : aS} {Q : aQ} {ls : aL} {st : List Value} : aX d iL_has 31 (ls) (st) σ Q ↔ aX d iL_has 32 (ls) (.int (nI 1) :: st) σ Q := X_iconst kL_has_31 (by decide +kernel)
theorem kL_has_32 : aCode iL_has 32 = some (.ireturn, 1) := by decide +kernel
theorem sL_has_32 {d : Nat} {σ : aS} {Q : aQ} {v : Int32} {ls : aL} : aX d iL_has 32 (ls) ([.int v]) σ Q ↔ (narrow .boolean (.int v) = .int v ∧ Q (some (.int v)) σ) := X_zret kL_has_32 (by decide +kernel)
theorem kL_has_33 : aCode iL_has 33 = some (.iinc 4 1, 3) := by decide +kernel
theorem sL_has_33 {d : Nat} {σ : aS} {Q : aQ} {l0 l1 l2 l3 : Option Value} {x : Int32} {lt : aL} {st : List Value} : aX d iL_has 33 (l0 :: l1 :: l2 :: l3 :: some (.int x) :: lt) (st) σ Q ↔ aX d iL_has 36 (l0 :: l1 :: l2 :: aclr l3 :: some (.int (x + nI 1)) :: lt) (st) σ Q := X_iinc kL_has_33 rfl (by decide +kernel)
theorem kL_has_36 : aCode iL_has 36 = some (.goto (-33), 3) := by decide +kernel
theorem sL_has_36 {d : Nat} {σ : aS} {Q : aQ} {ls : aL} {st : List Value} : aX d iL_has 36 (ls) (st) σ Q ↔ aX d iL_has 3 (ls) (st) σ Q := X_goto kL_has_36 (by decide)
theorem kL_has_39 : aCode iL_has 39 = some (.iconst 0, 1) := by decide +kernel
theorem sL_has_39 {d : Nat} {σ : aS} {Q : aQ} {ls : aL} {st : List Value} : aX d iL_has 39 (ls) (st) σ Q ↔ aX d iL_has 40 (ls) (.int (nI 0) :: st) σ Q := X_iconst kL_has_39 (by decide +kernel)
theorem kL_has_40 : aCode iL_has 40 = some (.ireturn, 1) := by decide +kernel
theorem sL_has_40 {d : Nat} {σ : aS} {Q : aQ} {v : Int32} {ls : aL} : aX d iL_has 40 (ls) ([.int v]) σ Q ↔ (narrow .boolean (.int v) = .int v ∧ Q (some (.int v)) σ) := X_zret kL_has_40 (by decide +kernel)
theorem kL_round_0 : aCode iL_round 0 = some (.aload 5, 2) := by decide +kernel
theorem sL_round_0 {d : Nat} {σ : aS} {Q : aQ} {l0 l1 l2 l3 l4 : Option Value} {x : Nat} {lt : aL} {st : List Value} : aX d iL_round 0 (l0 :: l1 :: l2 :: l3 :: l4 :: some (.ref x) :: lt) (st) σ Q ↔ aX d iL_round 2 (l0 :: l1 :: l2 :: l3 :: l4 :: some (.ref x) :: lt) (.ref x :: st) σ Q := X_aload kL_round_0 rfl rfl
theorem sL_round_0n {d : Nat} {σ : aS} {Q : aQ} {l0 l1 l2 l3 l4 : Option Value} {lt : aL} {st : List Value} : aX d iL_round 0 (l0 :: l1 :: l2 :: l3 :: l4 :: some .null :: lt) (st) σ Q ↔ aX d iL_round 2 (l0 :: l1 :: l2 :: l3 :: l4 :: some .null :: lt) (.null :: st) σ Q := X_aload kL_round_0 rfl rfl
theorem kL_round_2 : aCode iL_round 2 = some (.iconst 4, 1) := by decide +kernel
theorem sL_round_2 {d : Nat} {σ : aS} {Q : aQ} {ls : aL} {st : List Value} : aX d iL_round 2 (ls) (st) σ Q ↔ aX d iL_round 3 (ls) (.int (nI 4) :: st) σ Q := X_iconst kL_round_2 (by decide +kernel)
theorem kL_round_3 : aCode iL_round 3 = some (.iload_n 0, 1) := by decide +kernel
theorem sL_round_3 {d : Nat} {σ : aS} {Q : aQ} {x : Int32} {lt : aL} {st : List Value} : aX d iL_round 3 (some (.int x) :: lt) (st) σ Q ↔ aX d iL_round 4 (some (.int x) :: lt) (.int x :: st) σ Q := X_iloadn kL_round_3 rfl
theorem kL_round_4 : aCode iL_round 4 = some (.imul, 1) := by decide +kernel
theorem sL_round_4 {d : Nat} {σ : aS} {Q : aQ} {x y : Int32} {ls : aL} {st : List Value} : aX d iL_round 4 (ls) (.int y :: .int x :: st) σ Q ↔ aX d iL_round 5 (ls) (.int (x * y) :: st) σ Q := X_imul kL_round_4
theorem kL_round_5 : aCode iL_round 5 = some (.iconst 1, 1) := by decide +kernel
theorem sL_round_5 {d : Nat} {σ : aS} {Q : aQ} {ls : aL} {st : List Value} : aX d iL_round 5 (ls) (st) σ Q ↔ aX d iL_round 6 (ls) (.int (nI 1) :: st) σ Q := X_iconst kL_round_5 (by decide +kernel)
theorem kL_round_6 : aCode iL_round 6 = some (.iadd, 1) := by decide +kernel
theorem sL_round_6 {d : Nat} {σ : aS} {Q : aQ} {x y : Int32} {ls : aL} {st : List Value} : aX d iL_round 6 (ls) (.int y :: .int x :: st) σ Q ↔ aX d iL_round 7 (ls) (.int (x + y) :: st) σ Q := X_iadd kL_round_6
theorem kL_round_7 : aCode iL_round 7 = some (.iaload, 1) := by decide +kernel
theorem sL_round_7 {d : Nat} {σ : aS} {Q : aQ} {a : Nat} {i : Int32} {ls : aL} {st : List Value} : aX d iL_round 7 (ls) (.int i :: .ref a :: st) σ Q ↔ ∃ x, aRowR σ a = some x ∧ vp_in i x.1 ∧ aX d iL_round 8 (ls) (.int (x.2 i.toNatClampNeg) :: st) σ Q := X_iaload kL_round_7
theorem kL_round_8 : aCode iL_round 8 = some (.istore 7, 2) := by decide +kernel
theorem sL_round_8 {d : Nat} {σ : aS} {Q : aQ} {l0 l1 l2 l3 l4 l5 l6 lo : Option Value} {x : Int32} {lt : aL} {st : List Value} : aX d iL_round 8 (l0 :: l1 :: l2 :: l3 :: l4 :: l5 :: l6 :: lo :: lt) (.int x :: st) σ Q ↔ aX d iL_round 10 (l0 :: l1 :: l2 :: l3 :: l4 :: l5 :: aclr l6 :: some (.int x) :: lt) (st) σ Q := X_istore kL_round_8 (by simp only [List.length_cons]; omega)
theorem kL_round_10 : aCode iL_round 10 = some (.aload 5, 2) := by decide +kernel
theorem sL_round_10 {d : Nat} {σ : aS} {Q : aQ} {l0 l1 l2 l3 l4 : Option Value} {x : Nat} {lt : aL} {st : List Value} : aX d iL_round 10 (l0 :: l1 :: l2 :: l3 :: l4 :: some (.ref x) :: lt) (st) σ Q ↔ aX d iL_round 12 (l0 :: l1 :: l2 :: l3 :: l4 :: some (.ref x) :: lt) (.ref x :: st) σ Q := X_aload kL_round_10 rfl rfl
theorem sL_round_10n {d : Nat} {σ : aS} {Q : aQ} {l0 l1 l2 l3 l4 : Option Value} {lt : aL} {st : List Value} : aX d iL_round 10 (l0 :: l1 :: l2 :: l3 :: l4 :: some .null :: lt) (st) σ Q ↔ aX d iL_round 12 (l0 :: l1 :: l2 :: l3 :: l4 :: some .null :: lt) (.null :: st) σ Q := X_aload kL_round_10 rfl rfl
theorem kL_round_12 : aCode iL_round 12 = some (.iconst 4, 1) := by decide +kernel
theorem sL_round_12 {d : Nat} {σ : aS} {Q : aQ} {ls : aL} {st : List Value} : aX d iL_round 12 (ls) (st) σ Q ↔ aX d iL_round 13 (ls) (.int (nI 4) :: st) σ Q := X_iconst kL_round_12 (by decide +kernel)
theorem kL_round_13 : aCode iL_round 13 = some (.iload_n 0, 1) := by decide +kernel
theorem sL_round_13 {d : Nat} {σ : aS} {Q : aQ} {x : Int32} {lt : aL} {st : List Value} : aX d iL_round 13 (some (.int x) :: lt) (st) σ Q ↔ aX d iL_round 14 (some (.int x) :: lt) (.int x :: st) σ Q := X_iloadn kL_round_13 rfl
theorem kL_round_14 : aCode iL_round 14 = some (.imul, 1) := by decide +kernel
theorem sL_round_14 {d : Nat} {σ : aS} {Q : aQ} {x y : Int32} {ls : aL} {st : List Value} : aX d iL_round 14 (ls) (.int y :: .int x :: st) σ Q ↔ aX d iL_round 15 (ls) (.int (x * y) :: st) σ Q := X_imul kL_round_14
theorem kL_round_15 : aCode iL_round 15 = some (.iconst 2, 1) := by decide +kernel
theorem sL_round_15 {d : Nat} {σ : aS} {Q : aQ} {ls : aL} {st : List Value} : aX d iL_round 15 (ls) (st) σ Q ↔ aX d iL_round 16 (ls) (.int (nI 2) :: st) σ Q := X_iconst kL_round_15 (by decide +kernel)
theorem kL_round_16 : aCode iL_round 16 = some (.iadd, 1) := by decide +kernel
theorem sL_round_16 {d : Nat} {σ : aS} {Q : aQ} {x y : Int32} {ls : aL} {st : List Value} : aX d iL_round 16 (ls) (.int y :: .int x :: st) σ Q ↔ aX d iL_round 17 (ls) (.int (x + y) :: st) σ Q := X_iadd kL_round_16
theorem kL_round_17 : aCode iL_round 17 = some (.iaload, 1) := by decide +kernel
theorem sL_round_17 {d : Nat} {σ : aS} {Q : aQ} {a : Nat} {i : Int32} {ls : aL} {st : List Value} : aX d iL_round 17 (ls) (.int i :: .ref a :: st) σ Q ↔ ∃ x, aRowR σ a = some x ∧ vp_in i x.1 ∧ aX d iL_round 18 (ls) (.int (x.2 i.toNatClampNeg) :: st) σ Q := X_iaload kL_round_17
theorem kL_round_18 : aCode iL_round 18 = some (.ifCond .eq 4, 3) := by decide +kernel
theorem sL_round_18 {d : Nat} {σ : aS} {Q : aQ} {x : Int32} {ls : aL} {st : List Value} : aX d iL_round 18 (ls) (.int x :: st) σ Q ↔ (if x = nI 0 then aX d iL_round 22 (ls) (st) σ Q else aX d iL_round 21 (ls) (st) σ Q) := by rw [X_if kL_round_18 (t := 22) (by decide)]; simp only [aCmp_eq]
theorem kL_round_21 : aCode iL_round 21 = some (.return_, 1) := by decide +kernel
theorem sL_round_21 {d : Nat} {σ : aS} {Q : aQ} {ls : aL} : aX d iL_round 21 (ls) ([]) σ Q ↔ Q none σ := X_vret kL_round_21 (by decide +kernel)
theorem kL_round_22 : aCode iL_round 22 = some (.aload 6, 2) := by decide +kernel
theorem sL_round_22 {d : Nat} {σ : aS} {Q : aQ} {l0 l1 l2 l3 l4 l5 : Option Value} {x : Nat} {lt : aL} {st : List Value} : aX d iL_round 22 (l0 :: l1 :: l2 :: l3 :: l4 :: l5 :: some (.ref x) :: lt) (st) σ Q ↔ aX d iL_round 24 (l0 :: l1 :: l2 :: l3 :: l4 :: l5 :: some (.ref x) :: lt) (.ref x :: st) σ Q := X_aload kL_round_22 rfl rfl
theorem sL_round_22n {d : Nat} {σ : aS} {Q : aQ} {l0 l1 l2 l3 l4 l5 : Option Value} {lt : aL} {st : List Value} : aX d iL_round 22 (l0 :: l1 :: l2 :: l3 :: l4 :: l5 :: some .null :: lt) (st) σ Q ↔ aX d iL_round 24 (l0 :: l1 :: l2 :: l3 :: l4 :: l5 :: some .null :: lt) (.null :: st) σ Q := X_aload kL_round_22 rfl rfl
theorem kL_round_24 : aCode iL_round 24 = some (.bipush 8, 2) := by decide +kernel
theorem sL_round_24 {d : Nat} {σ : aS} {Q : aQ} {ls : aL} {st : List Value} : aX d iL_round 24 (ls) (st) σ Q ↔ aX d iL_round 26 (ls) (.int (nI 8) :: st) σ Q := X_bipush kL_round_24 (by decide +kernel)
theorem kL_round_26 : aCode iL_round 26 = some (.iload_n 0, 1) := by decide +kernel
theorem sL_round_26 {d : Nat} {σ : aS} {Q : aQ} {x : Int32} {lt : aL} {st : List Value} : aX d iL_round 26 (some (.int x) :: lt) (st) σ Q ↔ aX d iL_round 27 (some (.int x) :: lt) (.int x :: st) σ Q := X_iloadn kL_round_26 rfl
theorem kL_round_27 : aCode iL_round 27 = some (.imul, 1) := by decide +kernel
theorem sL_round_27 {d : Nat} {σ : aS} {Q : aQ} {x y : Int32} {ls : aL} {st : List Value} : aX d iL_round 27 (ls) (.int y :: .int x :: st) σ Q ↔ aX d iL_round 28 (ls) (.int (x * y) :: st) σ Q := X_imul kL_round_27
theorem kL_round_28 : aCode iL_round 28 = some (.iload 7, 2) := by decide +kernel
theorem sL_round_28 {d : Nat} {σ : aS} {Q : aQ} {l0 l1 l2 l3 l4 l5 l6 : Option Value} {x : Int32} {lt : aL} {st : List Value} : aX d iL_round 28 (l0 :: l1 :: l2 :: l3 :: l4 :: l5 :: l6 :: some (.int x) :: lt) (st) σ Q ↔ aX d iL_round 30 (l0 :: l1 :: l2 :: l3 :: l4 :: l5 :: l6 :: some (.int x) :: lt) (.int x :: st) σ Q := X_iload kL_round_28 rfl
theorem kL_round_30 : aCode iL_round 30 = some (.iadd, 1) := by decide +kernel
theorem sL_round_30 {d : Nat} {σ : aS} {Q : aQ} {x y : Int32} {ls : aL} {st : List Value} : aX d iL_round 30 (ls) (.int y :: .int x :: st) σ Q ↔ aX d iL_round 31 (ls) (.int (x + y) :: st) σ Q := X_iadd kL_round_30
theorem kL_round_31 : aCode iL_round 31 = some (.iconst 1, 1) := by decide +kernel
theorem sL_round_31 {d : Nat} {σ : aS} {Q : aQ} {ls : aL} {st : List Value} : aX d iL_round 31 (ls) (st) σ Q ↔ aX d iL_round 32 (ls) (.int (nI 1) :: st) σ Q := X_iconst kL_round_31 (by decide +kernel)
theorem kL_round_32 : aCode iL_round 32 = some (.isub, 1) := by decide +kernel
theorem sL_round_32 {d : Nat} {σ : aS} {Q : aQ} {x y : Int32} {ls : aL} {st : List Value} : aX d iL_round 32 (ls) (.int y :: .int x :: st) σ Q ↔ aX d iL_round 33 (ls) (.int (x - y) :: st) σ Q := X_isub kL_round_32
theorem kL_round_33 : aCode iL_round 33 = some (.iaload, 1) := by decide +kernel
theorem sL_round_33 {d : Nat} {σ : aS} {Q : aQ} {a : Nat} {i : Int32} {ls : aL} {st : List Value} : aX d iL_round 33 (ls) (.int i :: .ref a :: st) σ Q ↔ ∃ x, aRowR σ a = some x ∧ vp_in i x.1 ∧ aX d iL_round 34 (ls) (.int (x.2 i.toNatClampNeg) :: st) σ Q := X_iaload kL_round_33
theorem kL_round_34 : aCode iL_round 34 = some (.istore 8, 2) := by decide +kernel
theorem sL_round_34 {d : Nat} {σ : aS} {Q : aQ} {l0 l1 l2 l3 l4 l5 l6 l7 lo : Option Value} {x : Int32} {lt : aL} {st : List Value} : aX d iL_round 34 (l0 :: l1 :: l2 :: l3 :: l4 :: l5 :: l6 :: l7 :: lo :: lt) (.int x :: st) σ Q ↔ aX d iL_round 36 (l0 :: l1 :: l2 :: l3 :: l4 :: l5 :: l6 :: aclr l7 :: some (.int x) :: lt) (st) σ Q := X_istore kL_round_34 (by simp only [List.length_cons]; omega)
theorem kL_round_36 : aCode iL_round 36 = some (.iconst (-1), 1) := by decide +kernel
theorem sL_round_36 {d : Nat} {σ : aS} {Q : aQ} {ls : aL} {st : List Value} : aX d iL_round 36 (ls) (st) σ Q ↔ aX d iL_round 37 (ls) (.int ((-1)) :: st) σ Q := X_iconst kL_round_36 (by decide +kernel)
theorem kL_round_37 : aCode iL_round 37 = some (.istore 9, 2) := by decide +kernel
theorem sL_round_37 {d : Nat} {σ : aS} {Q : aQ} {l0 l1 l2 l3 l4 l5 l6 l7 l8 lo : Option Value} {x : Int32} {lt : aL} {st : List Value} : aX d iL_round 37 (l0 :: l1 :: l2 :: l3 :: l4 :: l5 :: l6 :: l7 :: l8 :: lo :: lt) (.int x :: st) σ Q ↔ aX d iL_round 39 (l0 :: l1 :: l2 :: l3 :: l4 :: l5 :: l6 :: l7 :: aclr l8 :: some (.int x) :: lt) (st) σ Q := X_istore kL_round_37 (by simp only [List.length_cons]; omega)
theorem kL_round_39 : aCode iL_round 39 = some (.iconst 1, 1) := by decide +kernel
theorem sL_round_39 {d : Nat} {σ : aS} {Q : aQ} {ls : aL} {st : List Value} : aX d iL_round 39 (ls) (st) σ Q ↔ aX d iL_round 40 (ls) (.int (nI 1) :: st) σ Q := X_iconst kL_round_39 (by decide +kernel)
theorem kL_round_40 : aCode iL_round 40 = some (.istore 10, 2) := by decide +kernel
theorem sL_round_40 {d : Nat} {σ : aS} {Q : aQ} {l0 l1 l2 l3 l4 l5 l6 l7 l8 l9 lo : Option Value} {x : Int32} {lt : aL} {st : List Value} : aX d iL_round 40 (l0 :: l1 :: l2 :: l3 :: l4 :: l5 :: l6 :: l7 :: l8 :: l9 :: lo :: lt) (.int x :: st) σ Q ↔ aX d iL_round 42 (l0 :: l1 :: l2 :: l3 :: l4 :: l5 :: l6 :: l7 :: l8 :: aclr l9 :: some (.int x) :: lt) (st) σ Q := X_istore kL_round_40 (by simp only [List.length_cons]; omega)
theorem kL_round_42 : aCode iL_round 42 = some (.iload 10, 2) := by decide +kernel
theorem sL_round_42 {d : Nat} {σ : aS} {Q : aQ} {l0 l1 l2 l3 l4 l5 l6 l7 l8 l9 : Option Value} {x : Int32} {lt : aL} {st : List Value} : aX d iL_round 42 (l0 :: l1 :: l2 :: l3 :: l4 :: l5 :: l6 :: l7 :: l8 :: l9 :: some (.int x) :: lt) (st) σ Q ↔ aX d iL_round 44 (l0 :: l1 :: l2 :: l3 :: l4 :: l5 :: l6 :: l7 :: l8 :: l9 :: some (.int x) :: lt) (.int x :: st) σ Q := X_iload kL_round_42 rfl
theorem kL_round_44 : aCode iL_round 44 = some (.bipush 9, 2) := by decide +kernel
theorem sL_round_44 {d : Nat} {σ : aS} {Q : aQ} {ls : aL} {st : List Value} : aX d iL_round 44 (ls) (st) σ Q ↔ aX d iL_round 46 (ls) (.int (nI 9) :: st) σ Q := X_bipush kL_round_44 (by decide +kernel)
theorem kL_round_46 : aCode iL_round 46 = some (.if_icmp .ge 60, 3) := by decide +kernel
theorem sL_round_46 {d : Nat} {σ : aS} {Q : aQ} {x y : Int32} {ls : aL} {st : List Value} : aX d iL_round 46 (ls) (.int y :: .int x :: st) σ Q ↔ (if y ≤ x then aX d iL_round 106 (ls) (st) σ Q else aX d iL_round 49 (ls) (st) σ Q) := by rw [X_icmp kL_round_46 (t := 106) (by decide)]; simp only [aCmp_ge]
theorem kL_round_49 : aCode iL_round 49 = some (.iload 9, 2) := by decide +kernel
theorem sL_round_49 {d : Nat} {σ : aS} {Q : aQ} {l0 l1 l2 l3 l4 l5 l6 l7 l8 : Option Value} {x : Int32} {lt : aL} {st : List Value} : aX d iL_round 49 (l0 :: l1 :: l2 :: l3 :: l4 :: l5 :: l6 :: l7 :: l8 :: some (.int x) :: lt) (st) σ Q ↔ aX d iL_round 51 (l0 :: l1 :: l2 :: l3 :: l4 :: l5 :: l6 :: l7 :: l8 :: some (.int x) :: lt) (.int x :: st) σ Q := X_iload kL_round_49 rfl
theorem kL_round_51 : aCode iL_round 51 = some (.ifCond .ge 55, 3) := by decide +kernel
theorem sL_round_51 {d : Nat} {σ : aS} {Q : aQ} {x : Int32} {ls : aL} {st : List Value} : aX d iL_round 51 (ls) (.int x :: st) σ Q ↔ (if nI 0 ≤ x then aX d iL_round 106 (ls) (st) σ Q else aX d iL_round 54 (ls) (st) σ Q) := by rw [X_if kL_round_51 (t := 106) (by decide)]; simp only [aCmp_ge]
theorem kL_round_54 : aCode iL_round 54 = some (.iload 8, 2) := by decide +kernel
theorem sL_round_54 {d : Nat} {σ : aS} {Q : aQ} {l0 l1 l2 l3 l4 l5 l6 l7 : Option Value} {x : Int32} {lt : aL} {st : List Value} : aX d iL_round 54 (l0 :: l1 :: l2 :: l3 :: l4 :: l5 :: l6 :: l7 :: some (.int x) :: lt) (st) σ Q ↔ aX d iL_round 56 (l0 :: l1 :: l2 :: l3 :: l4 :: l5 :: l6 :: l7 :: some (.int x) :: lt) (.int x :: st) σ Q := X_iload kL_round_54 rfl
theorem kL_round_56 : aCode iL_round 56 = some (.invokestatic 16, 3) := by decide +kernel
theorem sL_round_56 {d : Nat} {σ : aS} {Q : aQ} {p0 : Int32} {ls : aL} : aX (d + 1) iL_round 56 (ls) (.int p0 :: []) σ Q ↔ aX d iL_seat 0 [some (.int p0)] [] σ (fun r τ => aX (d + 1) iL_round 59 (ls) (aret r ([])) τ Q) := X_invs (N := 1) (As := [.int p0]) (k := 1) (w := 404) kL_round_56 (by decide +kernel) (by decide) (by decide +kernel) rfl rfl (by simp only [List.length_cons, List.length_nil]; omega) (by simp only [List.length_cons, List.length_nil]; omega) rfl (Nat.le_of_ble_eq_true rfl)
theorem kL_round_59 : aCode iL_round 59 = some (.iload 10, 2) := by decide +kernel
theorem sL_round_59 {d : Nat} {σ : aS} {Q : aQ} {l0 l1 l2 l3 l4 l5 l6 l7 l8 l9 : Option Value} {x : Int32} {lt : aL} {st : List Value} : aX d iL_round 59 (l0 :: l1 :: l2 :: l3 :: l4 :: l5 :: l6 :: l7 :: l8 :: l9 :: some (.int x) :: lt) (st) σ Q ↔ aX d iL_round 61 (l0 :: l1 :: l2 :: l3 :: l4 :: l5 :: l6 :: l7 :: l8 :: l9 :: some (.int x) :: lt) (.int x :: st) σ Q := X_iload kL_round_59 rfl
theorem kL_round_61 : aCode iL_round 61 = some (.iadd, 1) := by decide +kernel
theorem sL_round_61 {d : Nat} {σ : aS} {Q : aQ} {x y : Int32} {ls : aL} {st : List Value} : aX d iL_round 61 (ls) (.int y :: .int x :: st) σ Q ↔ aX d iL_round 62 (ls) (.int (x + y) :: st) σ Q := X_iadd kL_round_61
theorem kL_round_62 : aCode iL_round 62 = some (.bipush 8, 2) := by decide +kernel
theorem sL_round_62 {d : Nat} {σ : aS} {Q : aQ} {ls : aL} {st : List Value} : aX d iL_round 62 (ls) (st) σ Q ↔ aX d iL_round 64 (ls) (.int (nI 8) :: st) σ Q := X_bipush kL_round_62 (by decide +kernel)
theorem kL_round_64 : aCode iL_round 64 = some (.irem, 1) := by decide +kernel
theorem sL_round_64 {d : Nat} {σ : aS} {Q : aQ} {x y : Int32} {ls : aL} {st : List Value} : aX d iL_round 64 (ls) (.int y :: .int x :: st) σ Q ↔ ¬ y = nI 0 ∧ aX d iL_round 65 (ls) (.int (x - x / y * y) :: st) σ Q := X_irem kL_round_64
theorem kL_round_65 : aCode iL_round 65 = some (.istore 11, 2) := by decide +kernel
theorem sL_round_65 {d : Nat} {σ : aS} {Q : aQ} {l0 l1 l2 l3 l4 l5 l6 l7 l8 l9 l10 lo : Option Value} {x : Int32} {lt : aL} {st : List Value} : aX d iL_round 65 (l0 :: l1 :: l2 :: l3 :: l4 :: l5 :: l6 :: l7 :: l8 :: l9 :: l10 :: lo :: lt) (.int x :: st) σ Q ↔ aX d iL_round 67 (l0 :: l1 :: l2 :: l3 :: l4 :: l5 :: l6 :: l7 :: l8 :: l9 :: aclr l10 :: some (.int x) :: lt) (st) σ Q := X_istore kL_round_65 (by simp only [List.length_cons]; omega)
theorem kL_round_67 : aCode iL_round 67 = some (.aload_n 1, 1) := by decide +kernel
theorem sL_round_67 {d : Nat} {σ : aS} {Q : aQ} {l0 : Option Value} {x : Nat} {lt : aL} {st : List Value} : aX d iL_round 67 (l0 :: some (.ref x) :: lt) (st) σ Q ↔ aX d iL_round 68 (l0 :: some (.ref x) :: lt) (.ref x :: st) σ Q := X_aloadn kL_round_67 rfl rfl
theorem sL_round_67n {d : Nat} {σ : aS} {Q : aQ} {l0 : Option Value} {lt : aL} {st : List Value} : aX d iL_round 67 (l0 :: some .null :: lt) (st) σ Q ↔ aX d iL_round 68 (l0 :: some .null :: lt) (.null :: st) σ Q := X_aloadn kL_round_67 rfl rfl
theorem kL_round_68 : aCode iL_round 68 = some (.iconst 0, 1) := by decide +kernel
theorem sL_round_68 {d : Nat} {σ : aS} {Q : aQ} {ls : aL} {st : List Value} : aX d iL_round 68 (ls) (st) σ Q ↔ aX d iL_round 69 (ls) (.int (nI 0) :: st) σ Q := X_iconst kL_round_68 (by decide +kernel)
theorem kL_round_69 : aCode iL_round 69 = some (.iaload, 1) := by decide +kernel
theorem sL_round_69 {d : Nat} {σ : aS} {Q : aQ} {a : Nat} {i : Int32} {ls : aL} {st : List Value} : aX d iL_round 69 (ls) (.int i :: .ref a :: st) σ Q ↔ ∃ x, aRowR σ a = some x ∧ vp_in i x.1 ∧ aX d iL_round 70 (ls) (.int (x.2 i.toNatClampNeg) :: st) σ Q := X_iaload kL_round_69
theorem kL_round_70 : aCode iL_round 70 = some (.iload 11, 2) := by decide +kernel
theorem sL_round_70 {d : Nat} {σ : aS} {Q : aQ} {l0 l1 l2 l3 l4 l5 l6 l7 l8 l9 l10 : Option Value} {x : Int32} {lt : aL} {st : List Value} : aX d iL_round 70 (l0 :: l1 :: l2 :: l3 :: l4 :: l5 :: l6 :: l7 :: l8 :: l9 :: l10 :: some (.int x) :: lt) (st) σ Q ↔ aX d iL_round 72 (l0 :: l1 :: l2 :: l3 :: l4 :: l5 :: l6 :: l7 :: l8 :: l9 :: l10 :: some (.int x) :: lt) (.int x :: st) σ Q := X_iload kL_round_70 rfl
theorem kL_round_72 : aCode iL_round 72 = some (.ishr, 1) := by decide +kernel
theorem sL_round_72 {d : Nat} {σ : aS} {Q : aQ} {x y : Int32} {ls : aL} {st : List Value} : aX d iL_round 72 (ls) (.int y :: .int x :: st) σ Q ↔ aX d iL_round 73 (ls) (.int (x >>> (y &&& 31)) :: st) σ Q := X_ishr kL_round_72
theorem kL_round_73 : aCode iL_round 73 = some (.iconst 1, 1) := by decide +kernel
theorem sL_round_73 {d : Nat} {σ : aS} {Q : aQ} {ls : aL} {st : List Value} : aX d iL_round 73 (ls) (st) σ Q ↔ aX d iL_round 74 (ls) (.int (nI 1) :: st) σ Q := X_iconst kL_round_73 (by decide +kernel)
theorem kL_round_74 : aCode iL_round 74 = some (.iand, 1) := by decide +kernel
theorem sL_round_74 {d : Nat} {σ : aS} {Q : aQ} {x y : Int32} {ls : aL} {st : List Value} : aX d iL_round 74 (ls) (.int y :: .int x :: st) σ Q ↔ aX d iL_round 75 (ls) (.int (x &&& y) :: st) σ Q := X_iand kL_round_74
theorem kL_round_75 : aCode iL_round 75 = some (.iconst 1, 1) := by decide +kernel
theorem sL_round_75 {d : Nat} {σ : aS} {Q : aQ} {ls : aL} {st : List Value} : aX d iL_round 75 (ls) (st) σ Q ↔ aX d iL_round 76 (ls) (.int (nI 1) :: st) σ Q := X_iconst kL_round_75 (by decide +kernel)
theorem kL_round_76 : aCode iL_round 76 = some (.if_icmp .ne 21, 3) := by decide +kernel
theorem sL_round_76 {d : Nat} {σ : aS} {Q : aQ} {x y : Int32} {ls : aL} {st : List Value} : aX d iL_round 76 (ls) (.int y :: .int x :: st) σ Q ↔ (if ¬ x = y then aX d iL_round 97 (ls) (st) σ Q else aX d iL_round 79 (ls) (st) σ Q) := by rw [X_icmp kL_round_76 (t := 97) (by decide)]; simp only [aCmp_ne]
theorem kL_round_79 : aCode iL_round 79 = some (.iload_n 0, 1) := by decide +kernel
theorem sL_round_79 {d : Nat} {σ : aS} {Q : aQ} {x : Int32} {lt : aL} {st : List Value} : aX d iL_round 79 (some (.int x) :: lt) (st) σ Q ↔ aX d iL_round 80 (some (.int x) :: lt) (.int x :: st) σ Q := X_iloadn kL_round_79 rfl
theorem kL_round_80 : aCode iL_round 80 = some (.iload 11, 2) := by decide +kernel
theorem sL_round_80 {d : Nat} {σ : aS} {Q : aQ} {l0 l1 l2 l3 l4 l5 l6 l7 l8 l9 l10 : Option Value} {x : Int32} {lt : aL} {st : List Value} : aX d iL_round 80 (l0 :: l1 :: l2 :: l3 :: l4 :: l5 :: l6 :: l7 :: l8 :: l9 :: l10 :: some (.int x) :: lt) (st) σ Q ↔ aX d iL_round 82 (l0 :: l1 :: l2 :: l3 :: l4 :: l5 :: l6 :: l7 :: l8 :: l9 :: l10 :: some (.int x) :: lt) (.int x :: st) σ Q := X_iload kL_round_80 rfl
theorem kL_round_82 : aCode iL_round 82 = some (.aload 5, 2) := by decide +kernel
theorem sL_round_82 {d : Nat} {σ : aS} {Q : aQ} {l0 l1 l2 l3 l4 : Option Value} {x : Nat} {lt : aL} {st : List Value} : aX d iL_round 82 (l0 :: l1 :: l2 :: l3 :: l4 :: some (.ref x) :: lt) (st) σ Q ↔ aX d iL_round 84 (l0 :: l1 :: l2 :: l3 :: l4 :: some (.ref x) :: lt) (.ref x :: st) σ Q := X_aload kL_round_82 rfl rfl
theorem sL_round_82n {d : Nat} {σ : aS} {Q : aQ} {l0 l1 l2 l3 l4 : Option Value} {lt : aL} {st : List Value} : aX d iL_round 82 (l0 :: l1 :: l2 :: l3 :: l4 :: some .null :: lt) (st) σ Q ↔ aX d iL_round 84 (l0 :: l1 :: l2 :: l3 :: l4 :: some .null :: lt) (.null :: st) σ Q := X_aload kL_round_82 rfl rfl
theorem kL_round_84 : aCode iL_round 84 = some (.aload 6, 2) := by decide +kernel
theorem sL_round_84 {d : Nat} {σ : aS} {Q : aQ} {l0 l1 l2 l3 l4 l5 : Option Value} {x : Nat} {lt : aL} {st : List Value} : aX d iL_round 84 (l0 :: l1 :: l2 :: l3 :: l4 :: l5 :: some (.ref x) :: lt) (st) σ Q ↔ aX d iL_round 86 (l0 :: l1 :: l2 :: l3 :: l4 :: l5 :: some (.ref x) :: lt) (.ref x :: st) σ Q := X_aload kL_round_84 rfl rfl
theorem sL_round_84n {d : Nat} {σ : aS} {Q : aQ} {l0 l1 l2 l3 l4 l5 : Option Value} {lt : aL} {st : List Value} : aX d iL_round 84 (l0 :: l1 :: l2 :: l3 :: l4 :: l5 :: some .null :: lt) (st) σ Q ↔ aX d iL_round 86 (l0 :: l1 :: l2 :: l3 :: l4 :: l5 :: some .null :: lt) (.null :: st) σ Q := X_aload kL_round_84 rfl rfl
theorem kL_round_86 : aCode iL_round 86 = some (.invokestatic 19, 3) := by decide +kernel
theorem sL_round_86 {d : Nat} {σ : aS} {Q : aQ} {p0 : Int32} {p1 : Int32} {p2 : Nat} {p3 : Nat} {ls : aL} : aX (d + 1) iL_round 86 (ls) (.ref p3 :: .ref p2 :: .int p1 :: .int p0 :: []) σ Q ↔ aX d iL_has 0 [some (.int p0), some (.int p1), some (.ref p2), some (.ref p3), none] [] σ (fun r τ => aX (d + 1) iL_round 89 (ls) (aret r ([])) τ Q) := X_invs (N := 4) (As := [.ref p3, .ref p2, .int p1, .int p0]) (k := 1) (w := 407) kL_round_86 (by decide +kernel) (by decide) (by decide +kernel) rfl rfl (by simp only [List.length_cons, List.length_nil]; omega) (by simp only [List.length_cons, List.length_nil]; omega) rfl (Nat.le_of_ble_eq_true rfl)
theorem kL_round_89 : aCode iL_round 89 = some (.ifCond .ne 8, 3) := by decide +kernel
theorem sL_round_89 {d : Nat} {σ : aS} {Q : aQ} {x : Int32} {ls : aL} {st : List Value} : aX d iL_round 89 (ls) (.int x :: st) σ Q ↔ (if ¬ x = nI 0 then aX d iL_round 97 (ls) (st) σ Q else aX d iL_round 92 (ls) (st) σ Q) := by rw [X_if kL_round_89 (t := 97) (by decide)]; simp only [aCmp_ne]
theorem kL_round_92 : aCode iL_round 92 = some (.iload 11, 2) := by decide +kernel
theorem sL_round_92 {d : Nat} {σ : aS} {Q : aQ} {l0 l1 l2 l3 l4 l5 l6 l7 l8 l9 l10 : Option Value} {x : Int32} {lt : aL} {st : List Value} : aX d iL_round 92 (l0 :: l1 :: l2 :: l3 :: l4 :: l5 :: l6 :: l7 :: l8 :: l9 :: l10 :: some (.int x) :: lt) (st) σ Q ↔ aX d iL_round 94 (l0 :: l1 :: l2 :: l3 :: l4 :: l5 :: l6 :: l7 :: l8 :: l9 :: l10 :: some (.int x) :: lt) (.int x :: st) σ Q := X_iload kL_round_92 rfl
theorem kL_round_94 : aCode iL_round 94 = some (.goto 4, 3) := by decide +kernel
theorem sL_round_94 {d : Nat} {σ : aS} {Q : aQ} {ls : aL} {st : List Value} : aX d iL_round 94 (ls) (st) σ Q ↔ aX d iL_round 98 (ls) (st) σ Q := X_goto kL_round_94 (by decide)
theorem kL_round_97 : aCode iL_round 97 = some (.iconst (-1), 1) := by decide +kernel
theorem sL_round_97 {d : Nat} {σ : aS} {Q : aQ} {ls : aL} {st : List Value} : aX d iL_round 97 (ls) (st) σ Q ↔ aX d iL_round 98 (ls) (.int ((-1)) :: st) σ Q := X_iconst kL_round_97 (by decide +kernel)
theorem kL_round_98 : aCode iL_round 98 = some (.istore 9, 2) := by decide +kernel
theorem sL_round_98 {d : Nat} {σ : aS} {Q : aQ} {l0 l1 l2 l3 l4 l5 l6 l7 l8 lo : Option Value} {x : Int32} {lt : aL} {st : List Value} : aX d iL_round 98 (l0 :: l1 :: l2 :: l3 :: l4 :: l5 :: l6 :: l7 :: l8 :: lo :: lt) (.int x :: st) σ Q ↔ aX d iL_round 100 (l0 :: l1 :: l2 :: l3 :: l4 :: l5 :: l6 :: l7 :: aclr l8 :: some (.int x) :: lt) (st) σ Q := X_istore kL_round_98 (by simp only [List.length_cons]; omega)
theorem kL_round_100 : aCode iL_round 100 = some (.iinc 10 1, 3) := by decide +kernel
theorem sL_round_100 {d : Nat} {σ : aS} {Q : aQ} {l0 l1 l2 l3 l4 l5 l6 l7 l8 l9 : Option Value} {x : Int32} {lt : aL} {st : List Value} : aX d iL_round 100 (l0 :: l1 :: l2 :: l3 :: l4 :: l5 :: l6 :: l7 :: l8 :: l9 :: some (.int x) :: lt) (st) σ Q ↔ aX d iL_round 103 (l0 :: l1 :: l2 :: l3 :: l4 :: l5 :: l6 :: l7 :: l8 :: aclr l9 :: some (.int (x + nI 1)) :: lt) (st) σ Q := X_iinc kL_round_100 rfl (by decide +kernel)
theorem kL_round_103 : aCode iL_round 103 = some (.goto (-61), 3) := by decide +kernel
theorem sL_round_103 {d : Nat} {σ : aS} {Q : aQ} {ls : aL} {st : List Value} : aX d iL_round 103 (ls) (st) σ Q ↔ aX d iL_round 42 (ls) (st) σ Q := X_goto kL_round_103 (by decide)
theorem kL_round_106 : aCode iL_round 106 = some (.iload 9, 2) := by decide +kernel
theorem sL_round_106 {d : Nat} {σ : aS} {Q : aQ} {l0 l1 l2 l3 l4 l5 l6 l7 l8 : Option Value} {x : Int32} {lt : aL} {st : List Value} : aX d iL_round 106 (l0 :: l1 :: l2 :: l3 :: l4 :: l5 :: l6 :: l7 :: l8 :: some (.int x) :: lt) (st) σ Q ↔ aX d iL_round 108 (l0 :: l1 :: l2 :: l3 :: l4 :: l5 :: l6 :: l7 :: l8 :: some (.int x) :: lt) (.int x :: st) σ Q := X_iload kL_round_106 rfl
theorem kL_round_108 : aCode iL_round 108 = some (.ifCond .ge 108, 3) := by decide +kernel
theorem sL_round_108 {d : Nat} {σ : aS} {Q : aQ} {x : Int32} {ls : aL} {st : List Value} : aX d iL_round 108 (ls) (.int x :: st) σ Q ↔ (if nI 0 ≤ x then aX d iL_round 216 (ls) (st) σ Q else aX d iL_round 111 (ls) (st) σ Q) := by rw [X_if kL_round_108 (t := 216) (by decide)]; simp only [aCmp_ge]
theorem kL_round_111 : aCode iL_round 111 = some (.aload_n 1, 1) := by decide +kernel
theorem sL_round_111 {d : Nat} {σ : aS} {Q : aQ} {l0 : Option Value} {x : Nat} {lt : aL} {st : List Value} : aX d iL_round 111 (l0 :: some (.ref x) :: lt) (st) σ Q ↔ aX d iL_round 112 (l0 :: some (.ref x) :: lt) (.ref x :: st) σ Q := X_aloadn kL_round_111 rfl rfl
theorem sL_round_111n {d : Nat} {σ : aS} {Q : aQ} {l0 : Option Value} {lt : aL} {st : List Value} : aX d iL_round 111 (l0 :: some .null :: lt) (st) σ Q ↔ aX d iL_round 112 (l0 :: some .null :: lt) (.null :: st) σ Q := X_aloadn kL_round_111 rfl rfl
theorem kL_round_112 : aCode iL_round 112 = some (.iconst 0, 1) := by decide +kernel
theorem sL_round_112 {d : Nat} {σ : aS} {Q : aQ} {ls : aL} {st : List Value} : aX d iL_round 112 (ls) (st) σ Q ↔ aX d iL_round 113 (ls) (.int (nI 0) :: st) σ Q := X_iconst kL_round_112 (by decide +kernel)
theorem kL_round_113 : aCode iL_round 113 = some (.iaload, 1) := by decide +kernel
theorem sL_round_113 {d : Nat} {σ : aS} {Q : aQ} {a : Nat} {i : Int32} {ls : aL} {st : List Value} : aX d iL_round 113 (ls) (.int i :: .ref a :: st) σ Q ↔ ∃ x, aRowR σ a = some x ∧ vp_in i x.1 ∧ aX d iL_round 114 (ls) (.int (x.2 i.toNatClampNeg) :: st) σ Q := X_iaload kL_round_113
theorem kL_round_114 : aCode iL_round 114 = some (.aload 5, 2) := by decide +kernel
theorem sL_round_114 {d : Nat} {σ : aS} {Q : aQ} {l0 l1 l2 l3 l4 : Option Value} {x : Nat} {lt : aL} {st : List Value} : aX d iL_round 114 (l0 :: l1 :: l2 :: l3 :: l4 :: some (.ref x) :: lt) (st) σ Q ↔ aX d iL_round 116 (l0 :: l1 :: l2 :: l3 :: l4 :: some (.ref x) :: lt) (.ref x :: st) σ Q := X_aload kL_round_114 rfl rfl
theorem sL_round_114n {d : Nat} {σ : aS} {Q : aQ} {l0 l1 l2 l3 l4 : Option Value} {lt : aL} {st : List Value} : aX d iL_round 114 (l0 :: l1 :: l2 :: l3 :: l4 :: some .null :: lt) (st) σ Q ↔ aX d iL_round 116 (l0 :: l1 :: l2 :: l3 :: l4 :: some .null :: lt) (.null :: st) σ Q := X_aload kL_round_114 rfl rfl
theorem kL_round_116 : aCode iL_round 116 = some (.iconst 4, 1) := by decide +kernel
theorem sL_round_116 {d : Nat} {σ : aS} {Q : aQ} {ls : aL} {st : List Value} : aX d iL_round 116 (ls) (st) σ Q ↔ aX d iL_round 117 (ls) (.int (nI 4) :: st) σ Q := X_iconst kL_round_116 (by decide +kernel)
theorem kL_round_117 : aCode iL_round 117 = some (.iload_n 0, 1) := by decide +kernel
theorem sL_round_117 {d : Nat} {σ : aS} {Q : aQ} {x : Int32} {lt : aL} {st : List Value} : aX d iL_round 117 (some (.int x) :: lt) (st) σ Q ↔ aX d iL_round 118 (some (.int x) :: lt) (.int x :: st) σ Q := X_iloadn kL_round_117 rfl
theorem kL_round_118 : aCode iL_round 118 = some (.imul, 1) := by decide +kernel
theorem sL_round_118 {d : Nat} {σ : aS} {Q : aQ} {x y : Int32} {ls : aL} {st : List Value} : aX d iL_round 118 (ls) (.int y :: .int x :: st) σ Q ↔ aX d iL_round 119 (ls) (.int (x * y) :: st) σ Q := X_imul kL_round_118
theorem kL_round_119 : aCode iL_round 119 = some (.iaload, 1) := by decide +kernel
theorem sL_round_119 {d : Nat} {σ : aS} {Q : aQ} {a : Nat} {i : Int32} {ls : aL} {st : List Value} : aX d iL_round 119 (ls) (.int i :: .ref a :: st) σ Q ↔ ∃ x, aRowR σ a = some x ∧ vp_in i x.1 ∧ aX d iL_round 120 (ls) (.int (x.2 i.toNatClampNeg) :: st) σ Q := X_iaload kL_round_119
theorem kL_round_120 : aCode iL_round 120 = some (.ishr, 1) := by decide +kernel
theorem sL_round_120 {d : Nat} {σ : aS} {Q : aQ} {x y : Int32} {ls : aL} {st : List Value} : aX d iL_round 120 (ls) (.int y :: .int x :: st) σ Q ↔ aX d iL_round 121 (ls) (.int (x >>> (y &&& 31)) :: st) σ Q := X_ishr kL_round_120
theorem kL_round_121 : aCode iL_round 121 = some (.iconst 1, 1) := by decide +kernel
theorem sL_round_121 {d : Nat} {σ : aS} {Q : aQ} {ls : aL} {st : List Value} : aX d iL_round 121 (ls) (st) σ Q ↔ aX d iL_round 122 (ls) (.int (nI 1) :: st) σ Q := X_iconst kL_round_121 (by decide +kernel)
theorem kL_round_122 : aCode iL_round 122 = some (.iand, 1) := by decide +kernel
theorem sL_round_122 {d : Nat} {σ : aS} {Q : aQ} {x y : Int32} {ls : aL} {st : List Value} : aX d iL_round 122 (ls) (.int y :: .int x :: st) σ Q ↔ aX d iL_round 123 (ls) (.int (x &&& y) :: st) σ Q := X_iand kL_round_122
theorem kL_round_123 : aCode iL_round 123 = some (.iconst 1, 1) := by decide +kernel
theorem sL_round_123 {d : Nat} {σ : aS} {Q : aQ} {ls : aL} {st : List Value} : aX d iL_round 123 (ls) (st) σ Q ↔ aX d iL_round 124 (ls) (.int (nI 1) :: st) σ Q := X_iconst kL_round_123 (by decide +kernel)
theorem kL_round_124 : aCode iL_round 124 = some (.if_icmp .ne 7, 3) := by decide +kernel
theorem sL_round_124 {d : Nat} {σ : aS} {Q : aQ} {x y : Int32} {ls : aL} {st : List Value} : aX d iL_round 124 (ls) (.int y :: .int x :: st) σ Q ↔ (if ¬ x = y then aX d iL_round 131 (ls) (st) σ Q else aX d iL_round 127 (ls) (st) σ Q) := by rw [X_icmp kL_round_124 (t := 131) (by decide)]; simp only [aCmp_ne]
theorem kL_round_127 : aCode iL_round 127 = some (.iconst 1, 1) := by decide +kernel
theorem sL_round_127 {d : Nat} {σ : aS} {Q : aQ} {ls : aL} {st : List Value} : aX d iL_round 127 (ls) (st) σ Q ↔ aX d iL_round 128 (ls) (.int (nI 1) :: st) σ Q := X_iconst kL_round_127 (by decide +kernel)
theorem kL_round_128 : aCode iL_round 128 = some (.goto 4, 3) := by decide +kernel
theorem sL_round_128 {d : Nat} {σ : aS} {Q : aQ} {ls : aL} {st : List Value} : aX d iL_round 128 (ls) (st) σ Q ↔ aX d iL_round 132 (ls) (st) σ Q := X_goto kL_round_128 (by decide)
theorem kL_round_131 : aCode iL_round 131 = some (.iconst 0, 1) := by decide +kernel
theorem sL_round_131 {d : Nat} {σ : aS} {Q : aQ} {ls : aL} {st : List Value} : aX d iL_round 131 (ls) (st) σ Q ↔ aX d iL_round 132 (ls) (.int (nI 0) :: st) σ Q := X_iconst kL_round_131 (by decide +kernel)
theorem kL_round_132 : aCode iL_round 132 = some (.istore 10, 2) := by decide +kernel
theorem sL_round_132 {d : Nat} {σ : aS} {Q : aQ} {l0 l1 l2 l3 l4 l5 l6 l7 l8 l9 lo : Option Value} {x : Int32} {lt : aL} {st : List Value} : aX d iL_round 132 (l0 :: l1 :: l2 :: l3 :: l4 :: l5 :: l6 :: l7 :: l8 :: l9 :: lo :: lt) (.int x :: st) σ Q ↔ aX d iL_round 134 (l0 :: l1 :: l2 :: l3 :: l4 :: l5 :: l6 :: l7 :: l8 :: aclr l9 :: some (.int x) :: lt) (st) σ Q := X_istore kL_round_132 (by simp only [List.length_cons]; omega)
theorem kL_round_134 : aCode iL_round 134 = some (.aload 5, 2) := by decide +kernel
theorem sL_round_134 {d : Nat} {σ : aS} {Q : aQ} {l0 l1 l2 l3 l4 : Option Value} {x : Nat} {lt : aL} {st : List Value} : aX d iL_round 134 (l0 :: l1 :: l2 :: l3 :: l4 :: some (.ref x) :: lt) (st) σ Q ↔ aX d iL_round 136 (l0 :: l1 :: l2 :: l3 :: l4 :: some (.ref x) :: lt) (.ref x :: st) σ Q := X_aload kL_round_134 rfl rfl
theorem sL_round_134n {d : Nat} {σ : aS} {Q : aQ} {l0 l1 l2 l3 l4 : Option Value} {lt : aL} {st : List Value} : aX d iL_round 134 (l0 :: l1 :: l2 :: l3 :: l4 :: some .null :: lt) (st) σ Q ↔ aX d iL_round 136 (l0 :: l1 :: l2 :: l3 :: l4 :: some .null :: lt) (.null :: st) σ Q := X_aload kL_round_134 rfl rfl
theorem kL_round_136 : aCode iL_round 136 = some (.iconst 4, 1) := by decide +kernel
theorem sL_round_136 {d : Nat} {σ : aS} {Q : aQ} {ls : aL} {st : List Value} : aX d iL_round 136 (ls) (st) σ Q ↔ aX d iL_round 137 (ls) (.int (nI 4) :: st) σ Q := X_iconst kL_round_136 (by decide +kernel)
theorem kL_round_137 : aCode iL_round 137 = some (.iload_n 0, 1) := by decide +kernel
theorem sL_round_137 {d : Nat} {σ : aS} {Q : aQ} {x : Int32} {lt : aL} {st : List Value} : aX d iL_round 137 (some (.int x) :: lt) (st) σ Q ↔ aX d iL_round 138 (some (.int x) :: lt) (.int x :: st) σ Q := X_iloadn kL_round_137 rfl
theorem kL_round_138 : aCode iL_round 138 = some (.imul, 1) := by decide +kernel
theorem sL_round_138 {d : Nat} {σ : aS} {Q : aQ} {x y : Int32} {ls : aL} {st : List Value} : aX d iL_round 138 (ls) (.int y :: .int x :: st) σ Q ↔ aX d iL_round 139 (ls) (.int (x * y) :: st) σ Q := X_imul kL_round_138
theorem kL_round_139 : aCode iL_round 139 = some (.iconst 2, 1) := by decide +kernel
theorem sL_round_139 {d : Nat} {σ : aS} {Q : aQ} {ls : aL} {st : List Value} : aX d iL_round 139 (ls) (st) σ Q ↔ aX d iL_round 140 (ls) (.int (nI 2) :: st) σ Q := X_iconst kL_round_139 (by decide +kernel)
theorem kL_round_140 : aCode iL_round 140 = some (.iadd, 1) := by decide +kernel
theorem sL_round_140 {d : Nat} {σ : aS} {Q : aQ} {x y : Int32} {ls : aL} {st : List Value} : aX d iL_round 140 (ls) (.int y :: .int x :: st) σ Q ↔ aX d iL_round 141 (ls) (.int (x + y) :: st) σ Q := X_iadd kL_round_140
theorem kL_round_141 : aCode iL_round 141 = some (.iload 10, 2) := by decide +kernel
theorem sL_round_141 {d : Nat} {σ : aS} {Q : aQ} {l0 l1 l2 l3 l4 l5 l6 l7 l8 l9 : Option Value} {x : Int32} {lt : aL} {st : List Value} : aX d iL_round 141 (l0 :: l1 :: l2 :: l3 :: l4 :: l5 :: l6 :: l7 :: l8 :: l9 :: some (.int x) :: lt) (st) σ Q ↔ aX d iL_round 143 (l0 :: l1 :: l2 :: l3 :: l4 :: l5 :: l6 :: l7 :: l8 :: l9 :: some (.int x) :: lt) (.int x :: st) σ Q := X_iload kL_round_141 rfl
theorem kL_round_143 : aCode iL_round 143 = some (.ifCond .eq 7, 3) := by decide +kernel
theorem sL_round_143 {d : Nat} {σ : aS} {Q : aQ} {x : Int32} {ls : aL} {st : List Value} : aX d iL_round 143 (ls) (.int x :: st) σ Q ↔ (if x = nI 0 then aX d iL_round 150 (ls) (st) σ Q else aX d iL_round 146 (ls) (st) σ Q) := by rw [X_if kL_round_143 (t := 150) (by decide)]; simp only [aCmp_eq]
theorem kL_round_146 : aCode iL_round 146 = some (.iconst 1, 1) := by decide +kernel
theorem sL_round_146 {d : Nat} {σ : aS} {Q : aQ} {ls : aL} {st : List Value} : aX d iL_round 146 (ls) (st) σ Q ↔ aX d iL_round 147 (ls) (.int (nI 1) :: st) σ Q := X_iconst kL_round_146 (by decide +kernel)
theorem kL_round_147 : aCode iL_round 147 = some (.goto 4, 3) := by decide +kernel
theorem sL_round_147 {d : Nat} {σ : aS} {Q : aQ} {ls : aL} {st : List Value} : aX d iL_round 147 (ls) (st) σ Q ↔ aX d iL_round 151 (ls) (st) σ Q := X_goto kL_round_147 (by decide)
theorem kL_round_150 : aCode iL_round 150 = some (.iconst 2, 1) := by decide +kernel
theorem sL_round_150 {d : Nat} {σ : aS} {Q : aQ} {ls : aL} {st : List Value} : aX d iL_round 150 (ls) (st) σ Q ↔ aX d iL_round 151 (ls) (.int (nI 2) :: st) σ Q := X_iconst kL_round_150 (by decide +kernel)
theorem kL_round_151 : aCode iL_round 151 = some (.iastore, 1) := by decide +kernel
theorem sL_round_151 {d : Nat} {σ : aS} {Q : aQ} {a : Nat} {i v : Int32} {ls : aL} {st : List Value} : aX d iL_round 151 (ls) (.int v :: .int i :: .ref a :: st) σ Q ↔ ∃ x, aRow σ a = some x ∧ vp_in i x.1 ∧ aX d iL_round 152 (ls) (st) (aput σ a (eI x.1 (upd x.2 i.toNatClampNeg v))) Q := X_iastore kL_round_151
theorem kL_round_152 : aCode iL_round 152 = some (.aload 6, 2) := by decide +kernel
theorem sL_round_152 {d : Nat} {σ : aS} {Q : aQ} {l0 l1 l2 l3 l4 l5 : Option Value} {x : Nat} {lt : aL} {st : List Value} : aX d iL_round 152 (l0 :: l1 :: l2 :: l3 :: l4 :: l5 :: some (.ref x) :: lt) (st) σ Q ↔ aX d iL_round 154 (l0 :: l1 :: l2 :: l3 :: l4 :: l5 :: some (.ref x) :: lt) (.ref x :: st) σ Q := X_aload kL_round_152 rfl rfl
theorem sL_round_152n {d : Nat} {σ : aS} {Q : aQ} {l0 l1 l2 l3 l4 l5 : Option Value} {lt : aL} {st : List Value} : aX d iL_round 152 (l0 :: l1 :: l2 :: l3 :: l4 :: l5 :: some .null :: lt) (st) σ Q ↔ aX d iL_round 154 (l0 :: l1 :: l2 :: l3 :: l4 :: l5 :: some .null :: lt) (.null :: st) σ Q := X_aload kL_round_152 rfl rfl
theorem kL_round_154 : aCode iL_round 154 = some (.bipush 8, 2) := by decide +kernel
theorem sL_round_154 {d : Nat} {σ : aS} {Q : aQ} {ls : aL} {st : List Value} : aX d iL_round 154 (ls) (st) σ Q ↔ aX d iL_round 156 (ls) (.int (nI 8) :: st) σ Q := X_bipush kL_round_154 (by decide +kernel)
theorem kL_round_156 : aCode iL_round 156 = some (.iload_n 0, 1) := by decide +kernel
theorem sL_round_156 {d : Nat} {σ : aS} {Q : aQ} {x : Int32} {lt : aL} {st : List Value} : aX d iL_round 156 (some (.int x) :: lt) (st) σ Q ↔ aX d iL_round 157 (some (.int x) :: lt) (.int x :: st) σ Q := X_iloadn kL_round_156 rfl
theorem kL_round_157 : aCode iL_round 157 = some (.imul, 1) := by decide +kernel
theorem sL_round_157 {d : Nat} {σ : aS} {Q : aQ} {x y : Int32} {ls : aL} {st : List Value} : aX d iL_round 157 (ls) (.int y :: .int x :: st) σ Q ↔ aX d iL_round 158 (ls) (.int (x * y) :: st) σ Q := X_imul kL_round_157
theorem kL_round_158 : aCode iL_round 158 = some (.iload 7, 2) := by decide +kernel
theorem sL_round_158 {d : Nat} {σ : aS} {Q : aQ} {l0 l1 l2 l3 l4 l5 l6 : Option Value} {x : Int32} {lt : aL} {st : List Value} : aX d iL_round 158 (l0 :: l1 :: l2 :: l3 :: l4 :: l5 :: l6 :: some (.int x) :: lt) (st) σ Q ↔ aX d iL_round 160 (l0 :: l1 :: l2 :: l3 :: l4 :: l5 :: l6 :: some (.int x) :: lt) (.int x :: st) σ Q := X_iload kL_round_158 rfl
theorem kL_round_160 : aCode iL_round 160 = some (.iconst 1, 1) := by decide +kernel
theorem sL_round_160 {d : Nat} {σ : aS} {Q : aQ} {ls : aL} {st : List Value} : aX d iL_round 160 (ls) (st) σ Q ↔ aX d iL_round 161 (ls) (.int (nI 1) :: st) σ Q := X_iconst kL_round_160 (by decide +kernel)
theorem kL_round_161 : aCode iL_round 161 = some (.isub, 1) := by decide +kernel
theorem sL_round_161 {d : Nat} {σ : aS} {Q : aQ} {x y : Int32} {ls : aL} {st : List Value} : aX d iL_round 161 (ls) (.int y :: .int x :: st) σ Q ↔ aX d iL_round 162 (ls) (.int (x - y) :: st) σ Q := X_isub kL_round_161
theorem kL_round_162 : aCode iL_round 162 = some (.iload 7, 2) := by decide +kernel
theorem sL_round_162 {d : Nat} {σ : aS} {Q : aQ} {l0 l1 l2 l3 l4 l5 l6 : Option Value} {x : Int32} {lt : aL} {st : List Value} : aX d iL_round 162 (l0 :: l1 :: l2 :: l3 :: l4 :: l5 :: l6 :: some (.int x) :: lt) (st) σ Q ↔ aX d iL_round 164 (l0 :: l1 :: l2 :: l3 :: l4 :: l5 :: l6 :: some (.int x) :: lt) (.int x :: st) σ Q := X_iload kL_round_162 rfl
theorem kL_round_164 : aCode iL_round 164 = some (.iconst 1, 1) := by decide +kernel
theorem sL_round_164 {d : Nat} {σ : aS} {Q : aQ} {ls : aL} {st : List Value} : aX d iL_round 164 (ls) (st) σ Q ↔ aX d iL_round 165 (ls) (.int (nI 1) :: st) σ Q := X_iconst kL_round_164 (by decide +kernel)
theorem kL_round_165 : aCode iL_round 165 = some (.isub, 1) := by decide +kernel
theorem sL_round_165 {d : Nat} {σ : aS} {Q : aQ} {x y : Int32} {ls : aL} {st : List Value} : aX d iL_round 165 (ls) (.int y :: .int x :: st) σ Q ↔ aX d iL_round 166 (ls) (.int (x - y) :: st) σ Q := X_isub kL_round_165
theorem kL_round_166 : aCode iL_round 166 = some (.iconst 2, 1) := by decide +kernel
theorem sL_round_166 {d : Nat} {σ : aS} {Q : aQ} {ls : aL} {st : List Value} : aX d iL_round 166 (ls) (st) σ Q ↔ aX d iL_round 167 (ls) (.int (nI 2) :: st) σ Q := X_iconst kL_round_166 (by decide +kernel)
theorem kL_round_167 : aCode iL_round 167 = some (.irem, 1) := by decide +kernel
theorem sL_round_167 {d : Nat} {σ : aS} {Q : aQ} {x y : Int32} {ls : aL} {st : List Value} : aX d iL_round 167 (ls) (.int y :: .int x :: st) σ Q ↔ ¬ y = nI 0 ∧ aX d iL_round 168 (ls) (.int (x - x / y * y) :: st) σ Q := X_irem kL_round_167
theorem kL_round_168 : aCode iL_round 168 = some (.isub, 1) := by decide +kernel
theorem sL_round_168 {d : Nat} {σ : aS} {Q : aQ} {x y : Int32} {ls : aL} {st : List Value} : aX d iL_round 168 (ls) (.int y :: .int x :: st) σ Q ↔ aX d iL_round 169 (ls) (.int (x - y) :: st) σ Q := X_isub kL_round_168
theorem kL_round_169 : aCode iL_round 169 = some (.iadd, 1) := by decide +kernel
theorem sL_round_169 {d : Nat} {σ : aS} {Q : aQ} {x y : Int32} {ls : aL} {st : List Value} : aX d iL_round 169 (ls) (.int y :: .int x :: st) σ Q ↔ aX d iL_round 170 (ls) (.int (x + y) :: st) σ Q := X_iadd kL_round_169
theorem kL_round_170 : aCode iL_round 170 = some (.iaload, 1) := by decide +kernel
theorem sL_round_170 {d : Nat} {σ : aS} {Q : aQ} {a : Nat} {i : Int32} {ls : aL} {st : List Value} : aX d iL_round 170 (ls) (.int i :: .ref a :: st) σ Q ↔ ∃ x, aRowR σ a = some x ∧ vp_in i x.1 ∧ aX d iL_round 171 (ls) (.int (x.2 i.toNatClampNeg) :: st) σ Q := X_iaload kL_round_170
theorem kL_round_171 : aCode iL_round 171 = some (.invokestatic 23, 3) := by decide +kernel
theorem sL_round_171 {d : Nat} {σ : aS} {Q : aQ} {p0 : Int32} {ls : aL} : aX (d + 1) iL_round 171 (ls) (.int p0 :: []) σ Q ↔ aX d iL_what 0 [some (.int p0)] [] σ (fun r τ => aX (d + 1) iL_round 174 (ls) (aret r ([])) τ Q) := X_invs (N := 1) (As := [.int p0]) (k := 1) (w := 410) kL_round_171 (by decide +kernel) (by decide) (by decide +kernel) rfl rfl (by simp only [List.length_cons, List.length_nil]; omega) (by simp only [List.length_cons, List.length_nil]; omega) rfl (Nat.le_of_ble_eq_true rfl)
theorem kL_round_174 : aCode iL_round 174 = some (.istore 11, 2) := by decide +kernel
theorem sL_round_174 {d : Nat} {σ : aS} {Q : aQ} {l0 l1 l2 l3 l4 l5 l6 l7 l8 l9 l10 lo : Option Value} {x : Int32} {lt : aL} {st : List Value} : aX d iL_round 174 (l0 :: l1 :: l2 :: l3 :: l4 :: l5 :: l6 :: l7 :: l8 :: l9 :: l10 :: lo :: lt) (.int x :: st) σ Q ↔ aX d iL_round 176 (l0 :: l1 :: l2 :: l3 :: l4 :: l5 :: l6 :: l7 :: l8 :: l9 :: aclr l10 :: some (.int x) :: lt) (st) σ Q := X_istore kL_round_174 (by simp only [List.length_cons]; omega)
theorem kL_round_176 : aCode iL_round 176 = some (.iload 10, 2) := by decide +kernel
theorem sL_round_176 {d : Nat} {σ : aS} {Q : aQ} {l0 l1 l2 l3 l4 l5 l6 l7 l8 l9 : Option Value} {x : Int32} {lt : aL} {st : List Value} : aX d iL_round 176 (l0 :: l1 :: l2 :: l3 :: l4 :: l5 :: l6 :: l7 :: l8 :: l9 :: some (.int x) :: lt) (st) σ Q ↔ aX d iL_round 178 (l0 :: l1 :: l2 :: l3 :: l4 :: l5 :: l6 :: l7 :: l8 :: l9 :: some (.int x) :: lt) (.int x :: st) σ Q := X_iload kL_round_176 rfl
theorem kL_round_178 : aCode iL_round 178 = some (.ifCond .eq 37, 3) := by decide +kernel
theorem sL_round_178 {d : Nat} {σ : aS} {Q : aQ} {x : Int32} {ls : aL} {st : List Value} : aX d iL_round 178 (ls) (.int x :: st) σ Q ↔ (if x = nI 0 then aX d iL_round 215 (ls) (st) σ Q else aX d iL_round 181 (ls) (st) σ Q) := by rw [X_if kL_round_178 (t := 215) (by decide)]; simp only [aCmp_eq]
theorem kL_round_181 : aCode iL_round 181 = some (.iload 7, 2) := by decide +kernel
theorem sL_round_181 {d : Nat} {σ : aS} {Q : aQ} {l0 l1 l2 l3 l4 l5 l6 : Option Value} {x : Int32} {lt : aL} {st : List Value} : aX d iL_round 181 (l0 :: l1 :: l2 :: l3 :: l4 :: l5 :: l6 :: some (.int x) :: lt) (st) σ Q ↔ aX d iL_round 183 (l0 :: l1 :: l2 :: l3 :: l4 :: l5 :: l6 :: some (.int x) :: lt) (.int x :: st) σ Q := X_iload kL_round_181 rfl
theorem kL_round_183 : aCode iL_round 183 = some (.iconst 2, 1) := by decide +kernel
theorem sL_round_183 {d : Nat} {σ : aS} {Q : aQ} {ls : aL} {st : List Value} : aX d iL_round 183 (ls) (st) σ Q ↔ aX d iL_round 184 (ls) (.int (nI 2) :: st) σ Q := X_iconst kL_round_183 (by decide +kernel)
theorem kL_round_184 : aCode iL_round 184 = some (.if_icmp .le 31, 3) := by decide +kernel
theorem sL_round_184 {d : Nat} {σ : aS} {Q : aQ} {x y : Int32} {ls : aL} {st : List Value} : aX d iL_round 184 (ls) (.int y :: .int x :: st) σ Q ↔ (if x ≤ y then aX d iL_round 215 (ls) (st) σ Q else aX d iL_round 187 (ls) (st) σ Q) := by rw [X_icmp kL_round_184 (t := 215) (by decide)]; simp only [aCmp_le]
theorem kL_round_187 : aCode iL_round 187 = some (.iload 11, 2) := by decide +kernel
theorem sL_round_187 {d : Nat} {σ : aS} {Q : aQ} {l0 l1 l2 l3 l4 l5 l6 l7 l8 l9 l10 : Option Value} {x : Int32} {lt : aL} {st : List Value} : aX d iL_round 187 (l0 :: l1 :: l2 :: l3 :: l4 :: l5 :: l6 :: l7 :: l8 :: l9 :: l10 :: some (.int x) :: lt) (st) σ Q ↔ aX d iL_round 189 (l0 :: l1 :: l2 :: l3 :: l4 :: l5 :: l6 :: l7 :: l8 :: l9 :: l10 :: some (.int x) :: lt) (.int x :: st) σ Q := X_iload kL_round_187 rfl
theorem kL_round_189 : aCode iL_round 189 = some (.aload 6, 2) := by decide +kernel
theorem sL_round_189 {d : Nat} {σ : aS} {Q : aQ} {l0 l1 l2 l3 l4 l5 : Option Value} {x : Nat} {lt : aL} {st : List Value} : aX d iL_round 189 (l0 :: l1 :: l2 :: l3 :: l4 :: l5 :: some (.ref x) :: lt) (st) σ Q ↔ aX d iL_round 191 (l0 :: l1 :: l2 :: l3 :: l4 :: l5 :: some (.ref x) :: lt) (.ref x :: st) σ Q := X_aload kL_round_189 rfl rfl
theorem sL_round_189n {d : Nat} {σ : aS} {Q : aQ} {l0 l1 l2 l3 l4 l5 : Option Value} {lt : aL} {st : List Value} : aX d iL_round 189 (l0 :: l1 :: l2 :: l3 :: l4 :: l5 :: some .null :: lt) (st) σ Q ↔ aX d iL_round 191 (l0 :: l1 :: l2 :: l3 :: l4 :: l5 :: some .null :: lt) (.null :: st) σ Q := X_aload kL_round_189 rfl rfl
theorem kL_round_191 : aCode iL_round 191 = some (.bipush 8, 2) := by decide +kernel
theorem sL_round_191 {d : Nat} {σ : aS} {Q : aQ} {ls : aL} {st : List Value} : aX d iL_round 191 (ls) (st) σ Q ↔ aX d iL_round 193 (ls) (.int (nI 8) :: st) σ Q := X_bipush kL_round_191 (by decide +kernel)
theorem kL_round_193 : aCode iL_round 193 = some (.iload_n 0, 1) := by decide +kernel
theorem sL_round_193 {d : Nat} {σ : aS} {Q : aQ} {x : Int32} {lt : aL} {st : List Value} : aX d iL_round 193 (some (.int x) :: lt) (st) σ Q ↔ aX d iL_round 194 (some (.int x) :: lt) (.int x :: st) σ Q := X_iloadn kL_round_193 rfl
theorem kL_round_194 : aCode iL_round 194 = some (.imul, 1) := by decide +kernel
theorem sL_round_194 {d : Nat} {σ : aS} {Q : aQ} {x y : Int32} {ls : aL} {st : List Value} : aX d iL_round 194 (ls) (.int y :: .int x :: st) σ Q ↔ aX d iL_round 195 (ls) (.int (x * y) :: st) σ Q := X_imul kL_round_194
theorem kL_round_195 : aCode iL_round 195 = some (.iaload, 1) := by decide +kernel
theorem sL_round_195 {d : Nat} {σ : aS} {Q : aQ} {a : Nat} {i : Int32} {ls : aL} {st : List Value} : aX d iL_round 195 (ls) (.int i :: .ref a :: st) σ Q ↔ ∃ x, aRowR σ a = some x ∧ vp_in i x.1 ∧ aX d iL_round 196 (ls) (.int (x.2 i.toNatClampNeg) :: st) σ Q := X_iaload kL_round_195
theorem kL_round_196 : aCode iL_round 196 = some (.invokestatic 23, 3) := by decide +kernel
theorem sL_round_196 {d : Nat} {σ : aS} {Q : aQ} {p0 : Int32} {v0 : Value} {ls : aL} : aX (d + 1) iL_round 196 (ls) (.int p0 :: v0 :: []) σ Q ↔ aX d iL_what 0 [some (.int p0)] [] σ (fun r τ => aX (d + 1) iL_round 199 (ls) (aret r (v0 :: [])) τ Q) := X_invs (N := 1) (As := [.int p0]) (k := 1) (w := 410) kL_round_196 (by decide +kernel) (by decide) (by decide +kernel) rfl rfl (by simp only [List.length_cons, List.length_nil]; omega) (by simp only [List.length_cons, List.length_nil]; omega) rfl (Nat.le_of_ble_eq_true rfl)
theorem kL_round_199 : aCode iL_round 199 = some (.if_icmp .ne 16, 3) := by decide +kernel
theorem sL_round_199 {d : Nat} {σ : aS} {Q : aQ} {x y : Int32} {ls : aL} {st : List Value} : aX d iL_round 199 (ls) (.int y :: .int x :: st) σ Q ↔ (if ¬ x = y then aX d iL_round 215 (ls) (st) σ Q else aX d iL_round 202 (ls) (st) σ Q) := by rw [X_icmp kL_round_199 (t := 215) (by decide)]; simp only [aCmp_ne]
theorem kL_round_202 : aCode iL_round 202 = some (.aload 4, 2) := by decide +kernel
theorem sL_round_202 {d : Nat} {σ : aS} {Q : aQ} {l0 l1 l2 l3 : Option Value} {x : Nat} {lt : aL} {st : List Value} : aX d iL_round 202 (l0 :: l1 :: l2 :: l3 :: some (.ref x) :: lt) (st) σ Q ↔ aX d iL_round 204 (l0 :: l1 :: l2 :: l3 :: some (.ref x) :: lt) (.ref x :: st) σ Q := X_aload kL_round_202 rfl rfl
theorem sL_round_202n {d : Nat} {σ : aS} {Q : aQ} {l0 l1 l2 l3 : Option Value} {lt : aL} {st : List Value} : aX d iL_round 202 (l0 :: l1 :: l2 :: l3 :: some .null :: lt) (st) σ Q ↔ aX d iL_round 204 (l0 :: l1 :: l2 :: l3 :: some .null :: lt) (.null :: st) σ Q := X_aload kL_round_202 rfl rfl
theorem kL_round_204 : aCode iL_round 204 = some (.aload 5, 2) := by decide +kernel
theorem sL_round_204 {d : Nat} {σ : aS} {Q : aQ} {l0 l1 l2 l3 l4 : Option Value} {x : Nat} {lt : aL} {st : List Value} : aX d iL_round 204 (l0 :: l1 :: l2 :: l3 :: l4 :: some (.ref x) :: lt) (st) σ Q ↔ aX d iL_round 206 (l0 :: l1 :: l2 :: l3 :: l4 :: some (.ref x) :: lt) (.ref x :: st) σ Q := X_aload kL_round_204 rfl rfl
theorem sL_round_204n {d : Nat} {σ : aS} {Q : aQ} {l0 l1 l2 l3 l4 : Option Value} {lt : aL} {st : List Value} : aX d iL_round 204 (l0 :: l1 :: l2 :: l3 :: l4 :: some .null :: lt) (st) σ Q ↔ aX d iL_round 206 (l0 :: l1 :: l2 :: l3 :: l4 :: some .null :: lt) (.null :: st) σ Q := X_aload kL_round_204 rfl rfl
theorem kL_round_206 : aCode iL_round 206 = some (.iconst 4, 1) := by decide +kernel
theorem sL_round_206 {d : Nat} {σ : aS} {Q : aQ} {ls : aL} {st : List Value} : aX d iL_round 206 (ls) (st) σ Q ↔ aX d iL_round 207 (ls) (.int (nI 4) :: st) σ Q := X_iconst kL_round_206 (by decide +kernel)
theorem kL_round_207 : aCode iL_round 207 = some (.iload_n 0, 1) := by decide +kernel
theorem sL_round_207 {d : Nat} {σ : aS} {Q : aQ} {x : Int32} {lt : aL} {st : List Value} : aX d iL_round 207 (some (.int x) :: lt) (st) σ Q ↔ aX d iL_round 208 (some (.int x) :: lt) (.int x :: st) σ Q := X_iloadn kL_round_207 rfl
theorem kL_round_208 : aCode iL_round 208 = some (.imul, 1) := by decide +kernel
theorem sL_round_208 {d : Nat} {σ : aS} {Q : aQ} {x y : Int32} {ls : aL} {st : List Value} : aX d iL_round 208 (ls) (.int y :: .int x :: st) σ Q ↔ aX d iL_round 209 (ls) (.int (x * y) :: st) σ Q := X_imul kL_round_208
theorem kL_round_209 : aCode iL_round 209 = some (.iaload, 1) := by decide +kernel
theorem sL_round_209 {d : Nat} {σ : aS} {Q : aQ} {a : Nat} {i : Int32} {ls : aL} {st : List Value} : aX d iL_round 209 (ls) (.int i :: .ref a :: st) σ Q ↔ ∃ x, aRowR σ a = some x ∧ vp_in i x.1 ∧ aX d iL_round 210 (ls) (.int (x.2 i.toNatClampNeg) :: st) σ Q := X_iaload kL_round_209
theorem kL_round_210 : aCode iL_round 210 = some (.dup2, 1) := by decide +kernel
theorem sL_round_210 {d : Nat} {σ : aS} {Q : aQ} {y : Int32} {x : Nat} {ls : aL} {st : List Value} : aX d iL_round 210 (ls) (.int y :: .ref x :: st) σ Q ↔ aX d iL_round 211 (ls) (.int y :: .ref x :: .int y :: .ref x :: st) σ Q := X_dup2 kL_round_210 ⟨rfl, rfl⟩
theorem kL_round_211 : aCode iL_round 211 = some (.iaload, 1) := by decide +kernel
theorem sL_round_211 {d : Nat} {σ : aS} {Q : aQ} {a : Nat} {i : Int32} {ls : aL} {st : List Value} : aX d iL_round 211 (ls) (.int i :: .ref a :: st) σ Q ↔ ∃ x, aRowR σ a = some x ∧ vp_in i x.1 ∧ aX d iL_round 212 (ls) (.int (x.2 i.toNatClampNeg) :: st) σ Q := X_iaload kL_round_211
theorem kL_round_212 : aCode iL_round 212 = some (.iconst 2, 1) := by decide +kernel
theorem sL_round_212 {d : Nat} {σ : aS} {Q : aQ} {ls : aL} {st : List Value} : aX d iL_round 212 (ls) (st) σ Q ↔ aX d iL_round 213 (ls) (.int (nI 2) :: st) σ Q := X_iconst kL_round_212 (by decide +kernel)
theorem kL_round_213 : aCode iL_round 213 = some (.iadd, 1) := by decide +kernel
theorem sL_round_213 {d : Nat} {σ : aS} {Q : aQ} {x y : Int32} {ls : aL} {st : List Value} : aX d iL_round 213 (ls) (.int y :: .int x :: st) σ Q ↔ aX d iL_round 214 (ls) (.int (x + y) :: st) σ Q := X_iadd kL_round_213
theorem kL_round_214 : aCode iL_round 214 = some (.iastore, 1) := by decide +kernel
theorem sL_round_214 {d : Nat} {σ : aS} {Q : aQ} {a : Nat} {i v : Int32} {ls : aL} {st : List Value} : aX d iL_round 214 (ls) (.int v :: .int i :: .ref a :: st) σ Q ↔ ∃ x, aRow σ a = some x ∧ vp_in i x.1 ∧ aX d iL_round 215 (ls) (st) (aput σ a (eI x.1 (upd x.2 i.toNatClampNeg v))) Q := X_iastore kL_round_214
theorem kL_round_215 : aCode iL_round 215 = some (.return_, 1) := by decide +kernel
theorem sL_round_215 {d : Nat} {σ : aS} {Q : aQ} {ls : aL} : aX d iL_round 215 (ls) ([]) σ Q ↔ Q none σ := X_vret kL_round_215 (by decide +kernel)
theorem kL_round_216 : aCode iL_round 216 = some (.aload 5, 2) := by decide +kernel
theorem sL_round_216 {d : Nat} {σ : aS} {Q : aQ} {l0 l1 l2 l3 l4 : Option Value} {x : Nat} {lt : aL} {st : List Value} : aX d iL_round 216 (l0 :: l1 :: l2 :: l3 :: l4 :: some (.ref x) :: lt) (st) σ Q ↔ aX d iL_round 218 (l0 :: l1 :: l2 :: l3 :: l4 :: some (.ref x) :: lt) (.ref x :: st) σ Q := X_aload kL_round_216 rfl rfl
theorem sL_round_216n {d : Nat} {σ : aS} {Q : aQ} {l0 l1 l2 l3 l4 : Option Value} {lt : aL} {st : List Value} : aX d iL_round 216 (l0 :: l1 :: l2 :: l3 :: l4 :: some .null :: lt) (st) σ Q ↔ aX d iL_round 218 (l0 :: l1 :: l2 :: l3 :: l4 :: some .null :: lt) (.null :: st) σ Q := X_aload kL_round_216 rfl rfl
theorem kL_round_218 : aCode iL_round 218 = some (.iconst 4, 1) := by decide +kernel
theorem sL_round_218 {d : Nat} {σ : aS} {Q : aQ} {ls : aL} {st : List Value} : aX d iL_round 218 (ls) (st) σ Q ↔ aX d iL_round 219 (ls) (.int (nI 4) :: st) σ Q := X_iconst kL_round_218 (by decide +kernel)
theorem kL_round_219 : aCode iL_round 219 = some (.iload_n 0, 1) := by decide +kernel
theorem sL_round_219 {d : Nat} {σ : aS} {Q : aQ} {x : Int32} {lt : aL} {st : List Value} : aX d iL_round 219 (some (.int x) :: lt) (st) σ Q ↔ aX d iL_round 220 (some (.int x) :: lt) (.int x :: st) σ Q := X_iloadn kL_round_219 rfl
theorem kL_round_220 : aCode iL_round 220 = some (.imul, 1) := by decide +kernel
theorem sL_round_220 {d : Nat} {σ : aS} {Q : aQ} {x y : Int32} {ls : aL} {st : List Value} : aX d iL_round 220 (ls) (.int y :: .int x :: st) σ Q ↔ aX d iL_round 221 (ls) (.int (x * y) :: st) σ Q := X_imul kL_round_220
theorem kL_round_221 : aCode iL_round 221 = some (.iconst 3, 1) := by decide +kernel
theorem sL_round_221 {d : Nat} {σ : aS} {Q : aQ} {ls : aL} {st : List Value} : aX d iL_round 221 (ls) (st) σ Q ↔ aX d iL_round 222 (ls) (.int (nI 3) :: st) σ Q := X_iconst kL_round_221 (by decide +kernel)
theorem kL_round_222 : aCode iL_round 222 = some (.iadd, 1) := by decide +kernel
theorem sL_round_222 {d : Nat} {σ : aS} {Q : aQ} {x y : Int32} {ls : aL} {st : List Value} : aX d iL_round 222 (ls) (.int y :: .int x :: st) σ Q ↔ aX d iL_round 223 (ls) (.int (x + y) :: st) σ Q := X_iadd kL_round_222
theorem kL_round_223 : aCode iL_round 223 = some (.iaload, 1) := by decide +kernel
theorem sL_round_223 {d : Nat} {σ : aS} {Q : aQ} {a : Nat} {i : Int32} {ls : aL} {st : List Value} : aX d iL_round 223 (ls) (.int i :: .ref a :: st) σ Q ↔ ∃ x, aRowR σ a = some x ∧ vp_in i x.1 ∧ aX d iL_round 224 (ls) (.int (x.2 i.toNatClampNeg) :: st) σ Q := X_iaload kL_round_223
theorem kL_round_224 : aCode iL_round 224 = some (.istore 10, 2) := by decide +kernel
theorem sL_round_224 {d : Nat} {σ : aS} {Q : aQ} {l0 l1 l2 l3 l4 l5 l6 l7 l8 l9 lo : Option Value} {x : Int32} {lt : aL} {st : List Value} : aX d iL_round 224 (l0 :: l1 :: l2 :: l3 :: l4 :: l5 :: l6 :: l7 :: l8 :: l9 :: lo :: lt) (.int x :: st) σ Q ↔ aX d iL_round 226 (l0 :: l1 :: l2 :: l3 :: l4 :: l5 :: l6 :: l7 :: l8 :: aclr l9 :: some (.int x) :: lt) (st) σ Q := X_istore kL_round_224 (by simp only [List.length_cons]; omega)
theorem kL_round_226 : aCode iL_round 226 = some (.iload 7, 2) := by decide +kernel
theorem sL_round_226 {d : Nat} {σ : aS} {Q : aQ} {l0 l1 l2 l3 l4 l5 l6 : Option Value} {x : Int32} {lt : aL} {st : List Value} : aX d iL_round 226 (l0 :: l1 :: l2 :: l3 :: l4 :: l5 :: l6 :: some (.int x) :: lt) (st) σ Q ↔ aX d iL_round 228 (l0 :: l1 :: l2 :: l3 :: l4 :: l5 :: l6 :: some (.int x) :: lt) (.int x :: st) σ Q := X_iload kL_round_226 rfl
theorem kL_round_228 : aCode iL_round 228 = some (.iconst 2, 1) := by decide +kernel
theorem sL_round_228 {d : Nat} {σ : aS} {Q : aQ} {ls : aL} {st : List Value} : aX d iL_round 228 (ls) (st) σ Q ↔ aX d iL_round 229 (ls) (.int (nI 2) :: st) σ Q := X_iconst kL_round_228 (by decide +kernel)
theorem kL_round_229 : aCode iL_round 229 = some (.irem, 1) := by decide +kernel
theorem sL_round_229 {d : Nat} {σ : aS} {Q : aQ} {x y : Int32} {ls : aL} {st : List Value} : aX d iL_round 229 (ls) (.int y :: .int x :: st) σ Q ↔ ¬ y = nI 0 ∧ aX d iL_round 230 (ls) (.int (x - x / y * y) :: st) σ Q := X_irem kL_round_229
theorem kL_round_230 : aCode iL_round 230 = some (.iconst 1, 1) := by decide +kernel
theorem sL_round_230 {d : Nat} {σ : aS} {Q : aQ} {ls : aL} {st : List Value} : aX d iL_round 230 (ls) (st) σ Q ↔ aX d iL_round 231 (ls) (.int (nI 1) :: st) σ Q := X_iconst kL_round_230 (by decide +kernel)
theorem kL_round_231 : aCode iL_round 231 = some (.if_icmp .ne 18, 3) := by decide +kernel
theorem sL_round_231 {d : Nat} {σ : aS} {Q : aQ} {x y : Int32} {ls : aL} {st : List Value} : aX d iL_round 231 (ls) (.int y :: .int x :: st) σ Q ↔ (if ¬ x = y then aX d iL_round 249 (ls) (st) σ Q else aX d iL_round 234 (ls) (st) σ Q) := by rw [X_icmp kL_round_231 (t := 249) (by decide)]; simp only [aCmp_ne]
theorem kL_round_234 : aCode iL_round 234 = some (.aload_n 2, 1) := by decide +kernel
theorem sL_round_234 {d : Nat} {σ : aS} {Q : aQ} {l0 l1 : Option Value} {x : Nat} {lt : aL} {st : List Value} : aX d iL_round 234 (l0 :: l1 :: some (.ref x) :: lt) (st) σ Q ↔ aX d iL_round 235 (l0 :: l1 :: some (.ref x) :: lt) (.ref x :: st) σ Q := X_aloadn kL_round_234 rfl rfl
theorem sL_round_234n {d : Nat} {σ : aS} {Q : aQ} {l0 l1 : Option Value} {lt : aL} {st : List Value} : aX d iL_round 234 (l0 :: l1 :: some .null :: lt) (st) σ Q ↔ aX d iL_round 235 (l0 :: l1 :: some .null :: lt) (.null :: st) σ Q := X_aloadn kL_round_234 rfl rfl
theorem kL_round_235 : aCode iL_round 235 = some (.iload 8, 2) := by decide +kernel
theorem sL_round_235 {d : Nat} {σ : aS} {Q : aQ} {l0 l1 l2 l3 l4 l5 l6 l7 : Option Value} {x : Int32} {lt : aL} {st : List Value} : aX d iL_round 235 (l0 :: l1 :: l2 :: l3 :: l4 :: l5 :: l6 :: l7 :: some (.int x) :: lt) (st) σ Q ↔ aX d iL_round 237 (l0 :: l1 :: l2 :: l3 :: l4 :: l5 :: l6 :: l7 :: some (.int x) :: lt) (.int x :: st) σ Q := X_iload kL_round_235 rfl
theorem kL_round_237 : aCode iL_round 237 = some (.invokestatic 23, 3) := by decide +kernel
theorem sL_round_237 {d : Nat} {σ : aS} {Q : aQ} {p0 : Int32} {v0 : Value} {ls : aL} : aX (d + 1) iL_round 237 (ls) (.int p0 :: v0 :: []) σ Q ↔ aX d iL_what 0 [some (.int p0)] [] σ (fun r τ => aX (d + 1) iL_round 240 (ls) (aret r (v0 :: [])) τ Q) := X_invs (N := 1) (As := [.int p0]) (k := 1) (w := 410) kL_round_237 (by decide +kernel) (by decide) (by decide +kernel) rfl rfl (by simp only [List.length_cons, List.length_nil]; omega) (by simp only [List.length_cons, List.length_nil]; omega) rfl (Nat.le_of_ble_eq_true rfl)
theorem kL_round_240 : aCode iL_round 240 = some (.iaload, 1) := by decide +kernel
theorem sL_round_240 {d : Nat} {σ : aS} {Q : aQ} {a : Nat} {i : Int32} {ls : aL} {st : List Value} : aX d iL_round 240 (ls) (.int i :: .ref a :: st) σ Q ↔ ∃ x, aRowR σ a = some x ∧ vp_in i x.1 ∧ aX d iL_round 241 (ls) (.int (x.2 i.toNatClampNeg) :: st) σ Q := X_iaload kL_round_240
theorem kL_round_241 : aCode iL_round 241 = some (.aload_n 3, 1) := by decide +kernel
theorem sL_round_241 {d : Nat} {σ : aS} {Q : aQ} {l0 l1 l2 : Option Value} {x : Nat} {lt : aL} {st : List Value} : aX d iL_round 241 (l0 :: l1 :: l2 :: some (.ref x) :: lt) (st) σ Q ↔ aX d iL_round 242 (l0 :: l1 :: l2 :: some (.ref x) :: lt) (.ref x :: st) σ Q := X_aloadn kL_round_241 rfl rfl
theorem sL_round_241n {d : Nat} {σ : aS} {Q : aQ} {l0 l1 l2 : Option Value} {lt : aL} {st : List Value} : aX d iL_round 241 (l0 :: l1 :: l2 :: some .null :: lt) (st) σ Q ↔ aX d iL_round 242 (l0 :: l1 :: l2 :: some .null :: lt) (.null :: st) σ Q := X_aloadn kL_round_241 rfl rfl
theorem kL_round_242 : aCode iL_round 242 = some (.iload 9, 2) := by decide +kernel
theorem sL_round_242 {d : Nat} {σ : aS} {Q : aQ} {l0 l1 l2 l3 l4 l5 l6 l7 l8 : Option Value} {x : Int32} {lt : aL} {st : List Value} : aX d iL_round 242 (l0 :: l1 :: l2 :: l3 :: l4 :: l5 :: l6 :: l7 :: l8 :: some (.int x) :: lt) (st) σ Q ↔ aX d iL_round 244 (l0 :: l1 :: l2 :: l3 :: l4 :: l5 :: l6 :: l7 :: l8 :: some (.int x) :: lt) (.int x :: st) σ Q := X_iload kL_round_242 rfl
theorem kL_round_244 : aCode iL_round 244 = some (.iaload, 1) := by decide +kernel
theorem sL_round_244 {d : Nat} {σ : aS} {Q : aQ} {a : Nat} {i : Int32} {ls : aL} {st : List Value} : aX d iL_round 244 (ls) (.int i :: .ref a :: st) σ Q ↔ ∃ x, aRowR σ a = some x ∧ vp_in i x.1 ∧ aX d iL_round 245 (ls) (.int (x.2 i.toNatClampNeg) :: st) σ Q := X_iaload kL_round_244
theorem kL_round_245 : aCode iL_round 245 = some (.iand, 1) := by decide +kernel
theorem sL_round_245 {d : Nat} {σ : aS} {Q : aQ} {x y : Int32} {ls : aL} {st : List Value} : aX d iL_round 245 (ls) (.int y :: .int x :: st) σ Q ↔ aX d iL_round 246 (ls) (.int (x &&& y) :: st) σ Q := X_iand kL_round_245
theorem kL_round_246 : aCode iL_round 246 = some (.goto 12, 3) := by decide +kernel
theorem sL_round_246 {d : Nat} {σ : aS} {Q : aQ} {ls : aL} {st : List Value} : aX d iL_round 246 (ls) (st) σ Q ↔ aX d iL_round 258 (ls) (st) σ Q := X_goto kL_round_246 (by decide)
theorem kL_round_249 : aCode iL_round 249 = some (.iload 8, 2) := by decide +kernel
theorem sL_round_249 {d : Nat} {σ : aS} {Q : aQ} {l0 l1 l2 l3 l4 l5 l6 l7 : Option Value} {x : Int32} {lt : aL} {st : List Value} : aX d iL_round 249 (l0 :: l1 :: l2 :: l3 :: l4 :: l5 :: l6 :: l7 :: some (.int x) :: lt) (st) σ Q ↔ aX d iL_round 251 (l0 :: l1 :: l2 :: l3 :: l4 :: l5 :: l6 :: l7 :: some (.int x) :: lt) (.int x :: st) σ Q := X_iload kL_round_249 rfl
theorem kL_round_251 : aCode iL_round 251 = some (.invokestatic 23, 3) := by decide +kernel
theorem sL_round_251 {d : Nat} {σ : aS} {Q : aQ} {p0 : Int32} {ls : aL} : aX (d + 1) iL_round 251 (ls) (.int p0 :: []) σ Q ↔ aX d iL_what 0 [some (.int p0)] [] σ (fun r τ => aX (d + 1) iL_round 254 (ls) (aret r ([])) τ Q) := X_invs (N := 1) (As := [.int p0]) (k := 1) (w := 410) kL_round_251 (by decide +kernel) (by decide) (by decide +kernel) rfl rfl (by simp only [List.length_cons, List.length_nil]; omega) (by simp only [List.length_cons, List.length_nil]; omega) rfl (Nat.le_of_ble_eq_true rfl)
theorem kL_round_254 : aCode iL_round 254 = some (.aload_n 2, 1) := by decide +kernel
theorem sL_round_254 {d : Nat} {σ : aS} {Q : aQ} {l0 l1 : Option Value} {x : Nat} {lt : aL} {st : List Value} : aX d iL_round 254 (l0 :: l1 :: some (.ref x) :: lt) (st) σ Q ↔ aX d iL_round 255 (l0 :: l1 :: some (.ref x) :: lt) (.ref x :: st) σ Q := X_aloadn kL_round_254 rfl rfl
theorem sL_round_254n {d : Nat} {σ : aS} {Q : aQ} {l0 l1 : Option Value} {lt : aL} {st : List Value} : aX d iL_round 254 (l0 :: l1 :: some .null :: lt) (st) σ Q ↔ aX d iL_round 255 (l0 :: l1 :: some .null :: lt) (.null :: st) σ Q := X_aloadn kL_round_254 rfl rfl
theorem kL_round_255 : aCode iL_round 255 = some (.invokestatic 26, 3) := by decide +kernel
theorem sL_round_255 {d : Nat} {σ : aS} {Q : aQ} {p0 : Int32} {p1 : Nat} {ls : aL} : aX (d + 1) iL_round 255 (ls) (.ref p1 :: .int p0 :: []) σ Q ↔ aX d iL_guess 0 [some (.int p0), some (.ref p1), none, none] [] σ (fun r τ => aX (d + 1) iL_round 258 (ls) (aret r ([])) τ Q) := X_invs (N := 2) (As := [.ref p1, .int p0]) (k := 1) (w := 413) kL_round_255 (by decide +kernel) (by decide) (by decide +kernel) rfl rfl (by simp only [List.length_cons, List.length_nil]; omega) (by simp only [List.length_cons, List.length_nil]; omega) rfl (Nat.le_of_ble_eq_true rfl)
theorem kL_round_258 : aCode iL_round 258 = some (.istore 11, 2) := by decide +kernel
theorem sL_round_258 {d : Nat} {σ : aS} {Q : aQ} {l0 l1 l2 l3 l4 l5 l6 l7 l8 l9 l10 lo : Option Value} {x : Int32} {lt : aL} {st : List Value} : aX d iL_round 258 (l0 :: l1 :: l2 :: l3 :: l4 :: l5 :: l6 :: l7 :: l8 :: l9 :: l10 :: lo :: lt) (.int x :: st) σ Q ↔ aX d iL_round 260 (l0 :: l1 :: l2 :: l3 :: l4 :: l5 :: l6 :: l7 :: l8 :: l9 :: aclr l10 :: some (.int x) :: lt) (st) σ Q := X_istore kL_round_258 (by simp only [List.length_cons]; omega)
theorem kL_round_260 : aCode iL_round 260 = some (.aload 6, 2) := by decide +kernel
theorem sL_round_260 {d : Nat} {σ : aS} {Q : aQ} {l0 l1 l2 l3 l4 l5 : Option Value} {x : Nat} {lt : aL} {st : List Value} : aX d iL_round 260 (l0 :: l1 :: l2 :: l3 :: l4 :: l5 :: some (.ref x) :: lt) (st) σ Q ↔ aX d iL_round 262 (l0 :: l1 :: l2 :: l3 :: l4 :: l5 :: some (.ref x) :: lt) (.ref x :: st) σ Q := X_aload kL_round_260 rfl rfl
theorem sL_round_260n {d : Nat} {σ : aS} {Q : aQ} {l0 l1 l2 l3 l4 l5 : Option Value} {lt : aL} {st : List Value} : aX d iL_round 260 (l0 :: l1 :: l2 :: l3 :: l4 :: l5 :: some .null :: lt) (st) σ Q ↔ aX d iL_round 262 (l0 :: l1 :: l2 :: l3 :: l4 :: l5 :: some .null :: lt) (.null :: st) σ Q := X_aload kL_round_260 rfl rfl
theorem kL_round_262 : aCode iL_round 262 = some (.bipush 8, 2) := by decide +kernel
theorem sL_round_262 {d : Nat} {σ : aS} {Q : aQ} {ls : aL} {st : List Value} : aX d iL_round 262 (ls) (st) σ Q ↔ aX d iL_round 264 (ls) (.int (nI 8) :: st) σ Q := X_bipush kL_round_262 (by decide +kernel)
theorem kL_round_264 : aCode iL_round 264 = some (.iload_n 0, 1) := by decide +kernel
theorem sL_round_264 {d : Nat} {σ : aS} {Q : aQ} {x : Int32} {lt : aL} {st : List Value} : aX d iL_round 264 (some (.int x) :: lt) (st) σ Q ↔ aX d iL_round 265 (some (.int x) :: lt) (.int x :: st) σ Q := X_iloadn kL_round_264 rfl
theorem kL_round_265 : aCode iL_round 265 = some (.imul, 1) := by decide +kernel
theorem sL_round_265 {d : Nat} {σ : aS} {Q : aQ} {x y : Int32} {ls : aL} {st : List Value} : aX d iL_round 265 (ls) (.int y :: .int x :: st) σ Q ↔ aX d iL_round 266 (ls) (.int (x * y) :: st) σ Q := X_imul kL_round_265
theorem kL_round_266 : aCode iL_round 266 = some (.iload 7, 2) := by decide +kernel
theorem sL_round_266 {d : Nat} {σ : aS} {Q : aQ} {l0 l1 l2 l3 l4 l5 l6 : Option Value} {x : Int32} {lt : aL} {st : List Value} : aX d iL_round 266 (l0 :: l1 :: l2 :: l3 :: l4 :: l5 :: l6 :: some (.int x) :: lt) (st) σ Q ↔ aX d iL_round 268 (l0 :: l1 :: l2 :: l3 :: l4 :: l5 :: l6 :: some (.int x) :: lt) (.int x :: st) σ Q := X_iload kL_round_266 rfl
theorem kL_round_268 : aCode iL_round 268 = some (.iadd, 1) := by decide +kernel
theorem sL_round_268 {d : Nat} {σ : aS} {Q : aQ} {x y : Int32} {ls : aL} {st : List Value} : aX d iL_round 268 (ls) (.int y :: .int x :: st) σ Q ↔ aX d iL_round 269 (ls) (.int (x + y) :: st) σ Q := X_iadd kL_round_268
theorem kL_round_269 : aCode iL_round 269 = some (.sipush 10000, 3) := by decide +kernel
theorem sL_round_269 {d : Nat} {σ : aS} {Q : aQ} {ls : aL} {st : List Value} : aX d iL_round 269 (ls) (st) σ Q ↔ aX d iL_round 272 (ls) (.int (nI 10000) :: st) σ Q := X_sipush kL_round_269 (by decide +kernel)
theorem kL_round_272 : aCode iL_round 272 = some (.iload 9, 2) := by decide +kernel
theorem sL_round_272 {d : Nat} {σ : aS} {Q : aQ} {l0 l1 l2 l3 l4 l5 l6 l7 l8 : Option Value} {x : Int32} {lt : aL} {st : List Value} : aX d iL_round 272 (l0 :: l1 :: l2 :: l3 :: l4 :: l5 :: l6 :: l7 :: l8 :: some (.int x) :: lt) (st) σ Q ↔ aX d iL_round 274 (l0 :: l1 :: l2 :: l3 :: l4 :: l5 :: l6 :: l7 :: l8 :: some (.int x) :: lt) (.int x :: st) σ Q := X_iload kL_round_272 rfl
theorem kL_round_274 : aCode iL_round 274 = some (.imul, 1) := by decide +kernel
theorem sL_round_274 {d : Nat} {σ : aS} {Q : aQ} {x y : Int32} {ls : aL} {st : List Value} : aX d iL_round 274 (ls) (.int y :: .int x :: st) σ Q ↔ aX d iL_round 275 (ls) (.int (x * y) :: st) σ Q := X_imul kL_round_274
theorem kL_round_275 : aCode iL_round 275 = some (.iload 10, 2) := by decide +kernel
theorem sL_round_275 {d : Nat} {σ : aS} {Q : aQ} {l0 l1 l2 l3 l4 l5 l6 l7 l8 l9 : Option Value} {x : Int32} {lt : aL} {st : List Value} : aX d iL_round 275 (l0 :: l1 :: l2 :: l3 :: l4 :: l5 :: l6 :: l7 :: l8 :: l9 :: some (.int x) :: lt) (st) σ Q ↔ aX d iL_round 277 (l0 :: l1 :: l2 :: l3 :: l4 :: l5 :: l6 :: l7 :: l8 :: l9 :: some (.int x) :: lt) (.int x :: st) σ Q := X_iload kL_round_275 rfl
theorem kL_round_277 : aCode iL_round 277 = some (.ifCond .ge 8, 3) := by decide +kernel
theorem sL_round_277 {d : Nat} {σ : aS} {Q : aQ} {x : Int32} {ls : aL} {st : List Value} : aX d iL_round 277 (ls) (.int x :: st) σ Q ↔ (if nI 0 ≤ x then aX d iL_round 285 (ls) (st) σ Q else aX d iL_round 280 (ls) (st) σ Q) := by rw [X_if kL_round_277 (t := 285) (by decide)]; simp only [aCmp_ge]
theorem kL_round_280 : aCode iL_round 280 = some (.iload 11, 2) := by decide +kernel
theorem sL_round_280 {d : Nat} {σ : aS} {Q : aQ} {l0 l1 l2 l3 l4 l5 l6 l7 l8 l9 l10 : Option Value} {x : Int32} {lt : aL} {st : List Value} : aX d iL_round 280 (l0 :: l1 :: l2 :: l3 :: l4 :: l5 :: l6 :: l7 :: l8 :: l9 :: l10 :: some (.int x) :: lt) (st) σ Q ↔ aX d iL_round 282 (l0 :: l1 :: l2 :: l3 :: l4 :: l5 :: l6 :: l7 :: l8 :: l9 :: l10 :: some (.int x) :: lt) (.int x :: st) σ Q := X_iload kL_round_280 rfl
theorem kL_round_282 : aCode iL_round 282 = some (.goto 9, 3) := by decide +kernel
theorem sL_round_282 {d : Nat} {σ : aS} {Q : aQ} {ls : aL} {st : List Value} : aX d iL_round 282 (ls) (st) σ Q ↔ aX d iL_round 291 (ls) (st) σ Q := X_goto kL_round_282 (by decide)
theorem kL_round_285 : aCode iL_round 285 = some (.sipush 5000, 3) := by decide +kernel
theorem sL_round_285 {d : Nat} {σ : aS} {Q : aQ} {ls : aL} {st : List Value} : aX d iL_round 285 (ls) (st) σ Q ↔ aX d iL_round 288 (ls) (.int (nI 5000) :: st) σ Q := X_sipush kL_round_285 (by decide +kernel)
theorem kL_round_288 : aCode iL_round 288 = some (.iload 10, 2) := by decide +kernel
theorem sL_round_288 {d : Nat} {σ : aS} {Q : aQ} {l0 l1 l2 l3 l4 l5 l6 l7 l8 l9 : Option Value} {x : Int32} {lt : aL} {st : List Value} : aX d iL_round 288 (l0 :: l1 :: l2 :: l3 :: l4 :: l5 :: l6 :: l7 :: l8 :: l9 :: some (.int x) :: lt) (st) σ Q ↔ aX d iL_round 290 (l0 :: l1 :: l2 :: l3 :: l4 :: l5 :: l6 :: l7 :: l8 :: l9 :: some (.int x) :: lt) (.int x :: st) σ Q := X_iload kL_round_288 rfl
theorem kL_round_290 : aCode iL_round 290 = some (.iadd, 1) := by decide +kernel
theorem sL_round_290 {d : Nat} {σ : aS} {Q : aQ} {x y : Int32} {ls : aL} {st : List Value} : aX d iL_round 290 (ls) (.int y :: .int x :: st) σ Q ↔ aX d iL_round 291 (ls) (.int (x + y) :: st) σ Q := X_iadd kL_round_290
theorem kL_round_291 : aCode iL_round 291 = some (.iadd, 1) := by decide +kernel
theorem sL_round_291 {d : Nat} {σ : aS} {Q : aQ} {x y : Int32} {ls : aL} {st : List Value} : aX d iL_round 291 (ls) (.int y :: .int x :: st) σ Q ↔ aX d iL_round 292 (ls) (.int (x + y) :: st) σ Q := X_iadd kL_round_291
theorem kL_round_292 : aCode iL_round 292 = some (.iastore, 1) := by decide +kernel
theorem sL_round_292 {d : Nat} {σ : aS} {Q : aQ} {a : Nat} {i v : Int32} {ls : aL} {st : List Value} : aX d iL_round 292 (ls) (.int v :: .int i :: .ref a :: st) σ Q ↔ ∃ x, aRow σ a = some x ∧ vp_in i x.1 ∧ aX d iL_round 293 (ls) (st) (aput σ a (eI x.1 (upd x.2 i.toNatClampNeg v))) Q := X_iastore kL_round_292
theorem kL_round_293 : aCode iL_round 293 = some (.aload 5, 2) := by decide +kernel
theorem sL_round_293 {d : Nat} {σ : aS} {Q : aQ} {l0 l1 l2 l3 l4 : Option Value} {x : Nat} {lt : aL} {st : List Value} : aX d iL_round 293 (l0 :: l1 :: l2 :: l3 :: l4 :: some (.ref x) :: lt) (st) σ Q ↔ aX d iL_round 295 (l0 :: l1 :: l2 :: l3 :: l4 :: some (.ref x) :: lt) (.ref x :: st) σ Q := X_aload kL_round_293 rfl rfl
theorem sL_round_293n {d : Nat} {σ : aS} {Q : aQ} {l0 l1 l2 l3 l4 : Option Value} {lt : aL} {st : List Value} : aX d iL_round 293 (l0 :: l1 :: l2 :: l3 :: l4 :: some .null :: lt) (st) σ Q ↔ aX d iL_round 295 (l0 :: l1 :: l2 :: l3 :: l4 :: some .null :: lt) (.null :: st) σ Q := X_aload kL_round_293 rfl rfl
theorem kL_round_295 : aCode iL_round 295 = some (.iconst 4, 1) := by decide +kernel
theorem sL_round_295 {d : Nat} {σ : aS} {Q : aQ} {ls : aL} {st : List Value} : aX d iL_round 295 (ls) (st) σ Q ↔ aX d iL_round 296 (ls) (.int (nI 4) :: st) σ Q := X_iconst kL_round_295 (by decide +kernel)
theorem kL_round_296 : aCode iL_round 296 = some (.iload_n 0, 1) := by decide +kernel
theorem sL_round_296 {d : Nat} {σ : aS} {Q : aQ} {x : Int32} {lt : aL} {st : List Value} : aX d iL_round 296 (some (.int x) :: lt) (st) σ Q ↔ aX d iL_round 297 (some (.int x) :: lt) (.int x :: st) σ Q := X_iloadn kL_round_296 rfl
theorem kL_round_297 : aCode iL_round 297 = some (.imul, 1) := by decide +kernel
theorem sL_round_297 {d : Nat} {σ : aS} {Q : aQ} {x y : Int32} {ls : aL} {st : List Value} : aX d iL_round 297 (ls) (.int y :: .int x :: st) σ Q ↔ aX d iL_round 298 (ls) (.int (x * y) :: st) σ Q := X_imul kL_round_297
theorem kL_round_298 : aCode iL_round 298 = some (.iconst 1, 1) := by decide +kernel
theorem sL_round_298 {d : Nat} {σ : aS} {Q : aQ} {ls : aL} {st : List Value} : aX d iL_round 298 (ls) (st) σ Q ↔ aX d iL_round 299 (ls) (.int (nI 1) :: st) σ Q := X_iconst kL_round_298 (by decide +kernel)
theorem kL_round_299 : aCode iL_round 299 = some (.iadd, 1) := by decide +kernel
theorem sL_round_299 {d : Nat} {σ : aS} {Q : aQ} {x y : Int32} {ls : aL} {st : List Value} : aX d iL_round 299 (ls) (.int y :: .int x :: st) σ Q ↔ aX d iL_round 300 (ls) (.int (x + y) :: st) σ Q := X_iadd kL_round_299
theorem kL_round_300 : aCode iL_round 300 = some (.dup2, 1) := by decide +kernel
theorem sL_round_300 {d : Nat} {σ : aS} {Q : aQ} {y : Int32} {x : Nat} {ls : aL} {st : List Value} : aX d iL_round 300 (ls) (.int y :: .ref x :: st) σ Q ↔ aX d iL_round 301 (ls) (.int y :: .ref x :: .int y :: .ref x :: st) σ Q := X_dup2 kL_round_300 ⟨rfl, rfl⟩
theorem kL_round_301 : aCode iL_round 301 = some (.iaload, 1) := by decide +kernel
theorem sL_round_301 {d : Nat} {σ : aS} {Q : aQ} {a : Nat} {i : Int32} {ls : aL} {st : List Value} : aX d iL_round 301 (ls) (.int i :: .ref a :: st) σ Q ↔ ∃ x, aRowR σ a = some x ∧ vp_in i x.1 ∧ aX d iL_round 302 (ls) (.int (x.2 i.toNatClampNeg) :: st) σ Q := X_iaload kL_round_301
theorem kL_round_302 : aCode iL_round 302 = some (.iconst 1, 1) := by decide +kernel
theorem sL_round_302 {d : Nat} {σ : aS} {Q : aQ} {ls : aL} {st : List Value} : aX d iL_round 302 (ls) (st) σ Q ↔ aX d iL_round 303 (ls) (.int (nI 1) :: st) σ Q := X_iconst kL_round_302 (by decide +kernel)
theorem kL_round_303 : aCode iL_round 303 = some (.iadd, 1) := by decide +kernel
theorem sL_round_303 {d : Nat} {σ : aS} {Q : aQ} {x y : Int32} {ls : aL} {st : List Value} : aX d iL_round 303 (ls) (.int y :: .int x :: st) σ Q ↔ aX d iL_round 304 (ls) (.int (x + y) :: st) σ Q := X_iadd kL_round_303
theorem kL_round_304 : aCode iL_round 304 = some (.iastore, 1) := by decide +kernel
theorem sL_round_304 {d : Nat} {σ : aS} {Q : aQ} {a : Nat} {i v : Int32} {ls : aL} {st : List Value} : aX d iL_round 304 (ls) (.int v :: .int i :: .ref a :: st) σ Q ↔ ∃ x, aRow σ a = some x ∧ vp_in i x.1 ∧ aX d iL_round 305 (ls) (st) (aput σ a (eI x.1 (upd x.2 i.toNatClampNeg v))) Q := X_iastore kL_round_304
theorem kL_round_305 : aCode iL_round 305 = some (.aload 5, 2) := by decide +kernel
theorem sL_round_305 {d : Nat} {σ : aS} {Q : aQ} {l0 l1 l2 l3 l4 : Option Value} {x : Nat} {lt : aL} {st : List Value} : aX d iL_round 305 (l0 :: l1 :: l2 :: l3 :: l4 :: some (.ref x) :: lt) (st) σ Q ↔ aX d iL_round 307 (l0 :: l1 :: l2 :: l3 :: l4 :: some (.ref x) :: lt) (.ref x :: st) σ Q := X_aload kL_round_305 rfl rfl
theorem sL_round_305n {d : Nat} {σ : aS} {Q : aQ} {l0 l1 l2 l3 l4 : Option Value} {lt : aL} {st : List Value} : aX d iL_round 305 (l0 :: l1 :: l2 :: l3 :: l4 :: some .null :: lt) (st) σ Q ↔ aX d iL_round 307 (l0 :: l1 :: l2 :: l3 :: l4 :: some .null :: lt) (.null :: st) σ Q := X_aload kL_round_305 rfl rfl
theorem kL_round_307 : aCode iL_round 307 = some (.iconst 4, 1) := by decide +kernel
theorem sL_round_307 {d : Nat} {σ : aS} {Q : aQ} {ls : aL} {st : List Value} : aX d iL_round 307 (ls) (st) σ Q ↔ aX d iL_round 308 (ls) (.int (nI 4) :: st) σ Q := X_iconst kL_round_307 (by decide +kernel)
theorem kL_round_308 : aCode iL_round 308 = some (.iload_n 0, 1) := by decide +kernel
theorem sL_round_308 {d : Nat} {σ : aS} {Q : aQ} {x : Int32} {lt : aL} {st : List Value} : aX d iL_round 308 (some (.int x) :: lt) (st) σ Q ↔ aX d iL_round 309 (some (.int x) :: lt) (.int x :: st) σ Q := X_iloadn kL_round_308 rfl
theorem kL_round_309 : aCode iL_round 309 = some (.imul, 1) := by decide +kernel
theorem sL_round_309 {d : Nat} {σ : aS} {Q : aQ} {x y : Int32} {ls : aL} {st : List Value} : aX d iL_round 309 (ls) (.int y :: .int x :: st) σ Q ↔ aX d iL_round 310 (ls) (.int (x * y) :: st) σ Q := X_imul kL_round_309
theorem kL_round_310 : aCode iL_round 310 = some (.iconst 3, 1) := by decide +kernel
theorem sL_round_310 {d : Nat} {σ : aS} {Q : aQ} {ls : aL} {st : List Value} : aX d iL_round 310 (ls) (st) σ Q ↔ aX d iL_round 311 (ls) (.int (nI 3) :: st) σ Q := X_iconst kL_round_310 (by decide +kernel)
theorem kL_round_311 : aCode iL_round 311 = some (.iadd, 1) := by decide +kernel
theorem sL_round_311 {d : Nat} {σ : aS} {Q : aQ} {x y : Int32} {ls : aL} {st : List Value} : aX d iL_round 311 (ls) (.int y :: .int x :: st) σ Q ↔ aX d iL_round 312 (ls) (.int (x + y) :: st) σ Q := X_iadd kL_round_311
theorem kL_round_312 : aCode iL_round 312 = some (.bipush (-6), 2) := by decide +kernel
theorem sL_round_312 {d : Nat} {σ : aS} {Q : aQ} {ls : aL} {st : List Value} : aX d iL_round 312 (ls) (st) σ Q ↔ aX d iL_round 314 (ls) (.int ((-6)) :: st) σ Q := X_bipush kL_round_312 (by decide +kernel)
theorem kL_round_314 : aCode iL_round 314 = some (.iastore, 1) := by decide +kernel
theorem sL_round_314 {d : Nat} {σ : aS} {Q : aQ} {a : Nat} {i v : Int32} {ls : aL} {st : List Value} : aX d iL_round 314 (ls) (.int v :: .int i :: .ref a :: st) σ Q ↔ ∃ x, aRow σ a = some x ∧ vp_in i x.1 ∧ aX d iL_round 315 (ls) (st) (aput σ a (eI x.1 (upd x.2 i.toNatClampNeg v))) Q := X_iastore kL_round_314
theorem kL_round_315 : aCode iL_round 315 = some (.iload 7, 2) := by decide +kernel
theorem sL_round_315 {d : Nat} {σ : aS} {Q : aQ} {l0 l1 l2 l3 l4 l5 l6 : Option Value} {x : Int32} {lt : aL} {st : List Value} : aX d iL_round 315 (l0 :: l1 :: l2 :: l3 :: l4 :: l5 :: l6 :: some (.int x) :: lt) (st) σ Q ↔ aX d iL_round 317 (l0 :: l1 :: l2 :: l3 :: l4 :: l5 :: l6 :: some (.int x) :: lt) (.int x :: st) σ Q := X_iload kL_round_315 rfl
theorem kL_round_317 : aCode iL_round 317 = some (.iconst 2, 1) := by decide +kernel
theorem sL_round_317 {d : Nat} {σ : aS} {Q : aQ} {ls : aL} {st : List Value} : aX d iL_round 317 (ls) (st) σ Q ↔ aX d iL_round 318 (ls) (.int (nI 2) :: st) σ Q := X_iconst kL_round_317 (by decide +kernel)
theorem kL_round_318 : aCode iL_round 318 = some (.irem, 1) := by decide +kernel
theorem sL_round_318 {d : Nat} {σ : aS} {Q : aQ} {x y : Int32} {ls : aL} {st : List Value} : aX d iL_round 318 (ls) (.int y :: .int x :: st) σ Q ↔ ¬ y = nI 0 ∧ aX d iL_round 319 (ls) (.int (x - x / y * y) :: st) σ Q := X_irem kL_round_318
theorem kL_round_319 : aCode iL_round 319 = some (.ifCond .ne 55, 3) := by decide +kernel
theorem sL_round_319 {d : Nat} {σ : aS} {Q : aQ} {x : Int32} {ls : aL} {st : List Value} : aX d iL_round 319 (ls) (.int x :: st) σ Q ↔ (if ¬ x = nI 0 then aX d iL_round 374 (ls) (st) σ Q else aX d iL_round 322 (ls) (st) σ Q) := by rw [X_if kL_round_319 (t := 374) (by decide)]; simp only [aCmp_ne]
theorem kL_round_322 : aCode iL_round 322 = some (.aload 6, 2) := by decide +kernel
theorem sL_round_322 {d : Nat} {σ : aS} {Q : aQ} {l0 l1 l2 l3 l4 l5 : Option Value} {x : Nat} {lt : aL} {st : List Value} : aX d iL_round 322 (l0 :: l1 :: l2 :: l3 :: l4 :: l5 :: some (.ref x) :: lt) (st) σ Q ↔ aX d iL_round 324 (l0 :: l1 :: l2 :: l3 :: l4 :: l5 :: some (.ref x) :: lt) (.ref x :: st) σ Q := X_aload kL_round_322 rfl rfl
theorem sL_round_322n {d : Nat} {σ : aS} {Q : aQ} {l0 l1 l2 l3 l4 l5 : Option Value} {lt : aL} {st : List Value} : aX d iL_round 322 (l0 :: l1 :: l2 :: l3 :: l4 :: l5 :: some .null :: lt) (st) σ Q ↔ aX d iL_round 324 (l0 :: l1 :: l2 :: l3 :: l4 :: l5 :: some .null :: lt) (.null :: st) σ Q := X_aload kL_round_322 rfl rfl
theorem kL_round_324 : aCode iL_round 324 = some (.bipush 8, 2) := by decide +kernel
theorem sL_round_324 {d : Nat} {σ : aS} {Q : aQ} {ls : aL} {st : List Value} : aX d iL_round 324 (ls) (st) σ Q ↔ aX d iL_round 326 (ls) (.int (nI 8) :: st) σ Q := X_bipush kL_round_324 (by decide +kernel)
theorem kL_round_326 : aCode iL_round 326 = some (.iload_n 0, 1) := by decide +kernel
theorem sL_round_326 {d : Nat} {σ : aS} {Q : aQ} {x : Int32} {lt : aL} {st : List Value} : aX d iL_round 326 (some (.int x) :: lt) (st) σ Q ↔ aX d iL_round 327 (some (.int x) :: lt) (.int x :: st) σ Q := X_iloadn kL_round_326 rfl
theorem kL_round_327 : aCode iL_round 327 = some (.imul, 1) := by decide +kernel
theorem sL_round_327 {d : Nat} {σ : aS} {Q : aQ} {x y : Int32} {ls : aL} {st : List Value} : aX d iL_round 327 (ls) (.int y :: .int x :: st) σ Q ↔ aX d iL_round 328 (ls) (.int (x * y) :: st) σ Q := X_imul kL_round_327
theorem kL_round_328 : aCode iL_round 328 = some (.iload 7, 2) := by decide +kernel
theorem sL_round_328 {d : Nat} {σ : aS} {Q : aQ} {l0 l1 l2 l3 l4 l5 l6 : Option Value} {x : Int32} {lt : aL} {st : List Value} : aX d iL_round 328 (l0 :: l1 :: l2 :: l3 :: l4 :: l5 :: l6 :: some (.int x) :: lt) (st) σ Q ↔ aX d iL_round 330 (l0 :: l1 :: l2 :: l3 :: l4 :: l5 :: l6 :: some (.int x) :: lt) (.int x :: st) σ Q := X_iload kL_round_328 rfl
theorem kL_round_330 : aCode iL_round 330 = some (.iadd, 1) := by decide +kernel
theorem sL_round_330 {d : Nat} {σ : aS} {Q : aQ} {x y : Int32} {ls : aL} {st : List Value} : aX d iL_round 330 (ls) (.int y :: .int x :: st) σ Q ↔ aX d iL_round 331 (ls) (.int (x + y) :: st) σ Q := X_iadd kL_round_330
theorem kL_round_331 : aCode iL_round 331 = some (.iaload, 1) := by decide +kernel
theorem sL_round_331 {d : Nat} {σ : aS} {Q : aQ} {a : Nat} {i : Int32} {ls : aL} {st : List Value} : aX d iL_round 331 (ls) (.int i :: .ref a :: st) σ Q ↔ ∃ x, aRowR σ a = some x ∧ vp_in i x.1 ∧ aX d iL_round 332 (ls) (.int (x.2 i.toNatClampNeg) :: st) σ Q := X_iaload kL_round_331
theorem kL_round_332 : aCode iL_round 332 = some (.invokestatic 23, 3) := by decide +kernel
theorem sL_round_332 {d : Nat} {σ : aS} {Q : aQ} {p0 : Int32} {ls : aL} : aX (d + 1) iL_round 332 (ls) (.int p0 :: []) σ Q ↔ aX d iL_what 0 [some (.int p0)] [] σ (fun r τ => aX (d + 1) iL_round 335 (ls) (aret r ([])) τ Q) := X_invs (N := 1) (As := [.int p0]) (k := 1) (w := 410) kL_round_332 (by decide +kernel) (by decide) (by decide +kernel) rfl rfl (by simp only [List.length_cons, List.length_nil]; omega) (by simp only [List.length_cons, List.length_nil]; omega) rfl (Nat.le_of_ble_eq_true rfl)
theorem kL_round_335 : aCode iL_round 335 = some (.aload 6, 2) := by decide +kernel
theorem sL_round_335 {d : Nat} {σ : aS} {Q : aQ} {l0 l1 l2 l3 l4 l5 : Option Value} {x : Nat} {lt : aL} {st : List Value} : aX d iL_round 335 (l0 :: l1 :: l2 :: l3 :: l4 :: l5 :: some (.ref x) :: lt) (st) σ Q ↔ aX d iL_round 337 (l0 :: l1 :: l2 :: l3 :: l4 :: l5 :: some (.ref x) :: lt) (.ref x :: st) σ Q := X_aload kL_round_335 rfl rfl
theorem sL_round_335n {d : Nat} {σ : aS} {Q : aQ} {l0 l1 l2 l3 l4 l5 : Option Value} {lt : aL} {st : List Value} : aX d iL_round 335 (l0 :: l1 :: l2 :: l3 :: l4 :: l5 :: some .null :: lt) (st) σ Q ↔ aX d iL_round 337 (l0 :: l1 :: l2 :: l3 :: l4 :: l5 :: some .null :: lt) (.null :: st) σ Q := X_aload kL_round_335 rfl rfl
theorem kL_round_337 : aCode iL_round 337 = some (.bipush 8, 2) := by decide +kernel
theorem sL_round_337 {d : Nat} {σ : aS} {Q : aQ} {ls : aL} {st : List Value} : aX d iL_round 337 (ls) (st) σ Q ↔ aX d iL_round 339 (ls) (.int (nI 8) :: st) σ Q := X_bipush kL_round_337 (by decide +kernel)
theorem kL_round_339 : aCode iL_round 339 = some (.iload_n 0, 1) := by decide +kernel
theorem sL_round_339 {d : Nat} {σ : aS} {Q : aQ} {x : Int32} {lt : aL} {st : List Value} : aX d iL_round 339 (some (.int x) :: lt) (st) σ Q ↔ aX d iL_round 340 (some (.int x) :: lt) (.int x :: st) σ Q := X_iloadn kL_round_339 rfl
theorem kL_round_340 : aCode iL_round 340 = some (.imul, 1) := by decide +kernel
theorem sL_round_340 {d : Nat} {σ : aS} {Q : aQ} {x y : Int32} {ls : aL} {st : List Value} : aX d iL_round 340 (ls) (.int y :: .int x :: st) σ Q ↔ aX d iL_round 341 (ls) (.int (x * y) :: st) σ Q := X_imul kL_round_340
theorem kL_round_341 : aCode iL_round 341 = some (.iload 7, 2) := by decide +kernel
theorem sL_round_341 {d : Nat} {σ : aS} {Q : aQ} {l0 l1 l2 l3 l4 l5 l6 : Option Value} {x : Int32} {lt : aL} {st : List Value} : aX d iL_round 341 (l0 :: l1 :: l2 :: l3 :: l4 :: l5 :: l6 :: some (.int x) :: lt) (st) σ Q ↔ aX d iL_round 343 (l0 :: l1 :: l2 :: l3 :: l4 :: l5 :: l6 :: some (.int x) :: lt) (.int x :: st) σ Q := X_iload kL_round_341 rfl
theorem kL_round_343 : aCode iL_round 343 = some (.iadd, 1) := by decide +kernel
theorem sL_round_343 {d : Nat} {σ : aS} {Q : aQ} {x y : Int32} {ls : aL} {st : List Value} : aX d iL_round 343 (ls) (.int y :: .int x :: st) σ Q ↔ aX d iL_round 344 (ls) (.int (x + y) :: st) σ Q := X_iadd kL_round_343
theorem kL_round_344 : aCode iL_round 344 = some (.iconst 2, 1) := by decide +kernel
theorem sL_round_344 {d : Nat} {σ : aS} {Q : aQ} {ls : aL} {st : List Value} : aX d iL_round 344 (ls) (st) σ Q ↔ aX d iL_round 345 (ls) (.int (nI 2) :: st) σ Q := X_iconst kL_round_344 (by decide +kernel)
theorem kL_round_345 : aCode iL_round 345 = some (.isub, 1) := by decide +kernel
theorem sL_round_345 {d : Nat} {σ : aS} {Q : aQ} {x y : Int32} {ls : aL} {st : List Value} : aX d iL_round 345 (ls) (.int y :: .int x :: st) σ Q ↔ aX d iL_round 346 (ls) (.int (x - y) :: st) σ Q := X_isub kL_round_345
theorem kL_round_346 : aCode iL_round 346 = some (.iaload, 1) := by decide +kernel
theorem sL_round_346 {d : Nat} {σ : aS} {Q : aQ} {a : Nat} {i : Int32} {ls : aL} {st : List Value} : aX d iL_round 346 (ls) (.int i :: .ref a :: st) σ Q ↔ ∃ x, aRowR σ a = some x ∧ vp_in i x.1 ∧ aX d iL_round 347 (ls) (.int (x.2 i.toNatClampNeg) :: st) σ Q := X_iaload kL_round_346
theorem kL_round_347 : aCode iL_round 347 = some (.invokestatic 23, 3) := by decide +kernel
theorem sL_round_347 {d : Nat} {σ : aS} {Q : aQ} {p0 : Int32} {v0 : Value} {ls : aL} : aX (d + 1) iL_round 347 (ls) (.int p0 :: v0 :: []) σ Q ↔ aX d iL_what 0 [some (.int p0)] [] σ (fun r τ => aX (d + 1) iL_round 350 (ls) (aret r (v0 :: [])) τ Q) := X_invs (N := 1) (As := [.int p0]) (k := 1) (w := 410) kL_round_347 (by decide +kernel) (by decide) (by decide +kernel) rfl rfl (by simp only [List.length_cons, List.length_nil]; omega) (by simp only [List.length_cons, List.length_nil]; omega) rfl (Nat.le_of_ble_eq_true rfl)
theorem kL_round_350 : aCode iL_round 350 = some (.if_icmp .ne 24, 3) := by decide +kernel
theorem sL_round_350 {d : Nat} {σ : aS} {Q : aQ} {x y : Int32} {ls : aL} {st : List Value} : aX d iL_round 350 (ls) (.int y :: .int x :: st) σ Q ↔ (if ¬ x = y then aX d iL_round 374 (ls) (st) σ Q else aX d iL_round 353 (ls) (st) σ Q) := by rw [X_icmp kL_round_350 (t := 374) (by decide)]; simp only [aCmp_ne]
theorem kL_round_353 : aCode iL_round 353 = some (.aload 4, 2) := by decide +kernel
theorem sL_round_353 {d : Nat} {σ : aS} {Q : aQ} {l0 l1 l2 l3 : Option Value} {x : Nat} {lt : aL} {st : List Value} : aX d iL_round 353 (l0 :: l1 :: l2 :: l3 :: some (.ref x) :: lt) (st) σ Q ↔ aX d iL_round 355 (l0 :: l1 :: l2 :: l3 :: some (.ref x) :: lt) (.ref x :: st) σ Q := X_aload kL_round_353 rfl rfl
theorem sL_round_353n {d : Nat} {σ : aS} {Q : aQ} {l0 l1 l2 l3 : Option Value} {lt : aL} {st : List Value} : aX d iL_round 353 (l0 :: l1 :: l2 :: l3 :: some .null :: lt) (st) σ Q ↔ aX d iL_round 355 (l0 :: l1 :: l2 :: l3 :: some .null :: lt) (.null :: st) σ Q := X_aload kL_round_353 rfl rfl
theorem kL_round_355 : aCode iL_round 355 = some (.iload 8, 2) := by decide +kernel
theorem sL_round_355 {d : Nat} {σ : aS} {Q : aQ} {l0 l1 l2 l3 l4 l5 l6 l7 : Option Value} {x : Int32} {lt : aL} {st : List Value} : aX d iL_round 355 (l0 :: l1 :: l2 :: l3 :: l4 :: l5 :: l6 :: l7 :: some (.int x) :: lt) (st) σ Q ↔ aX d iL_round 357 (l0 :: l1 :: l2 :: l3 :: l4 :: l5 :: l6 :: l7 :: some (.int x) :: lt) (.int x :: st) σ Q := X_iload kL_round_355 rfl
theorem kL_round_357 : aCode iL_round 357 = some (.invokestatic 16, 3) := by decide +kernel
theorem sL_round_357 {d : Nat} {σ : aS} {Q : aQ} {p0 : Int32} {v0 : Value} {ls : aL} : aX (d + 1) iL_round 357 (ls) (.int p0 :: v0 :: []) σ Q ↔ aX d iL_seat 0 [some (.int p0)] [] σ (fun r τ => aX (d + 1) iL_round 360 (ls) (aret r (v0 :: [])) τ Q) := X_invs (N := 1) (As := [.int p0]) (k := 1) (w := 404) kL_round_357 (by decide +kernel) (by decide) (by decide +kernel) rfl rfl (by simp only [List.length_cons, List.length_nil]; omega) (by simp only [List.length_cons, List.length_nil]; omega) rfl (Nat.le_of_ble_eq_true rfl)
theorem kL_round_360 : aCode iL_round 360 = some (.dup2, 1) := by decide +kernel
theorem sL_round_360 {d : Nat} {σ : aS} {Q : aQ} {y : Int32} {x : Nat} {ls : aL} {st : List Value} : aX d iL_round 360 (ls) (.int y :: .ref x :: st) σ Q ↔ aX d iL_round 361 (ls) (.int y :: .ref x :: .int y :: .ref x :: st) σ Q := X_dup2 kL_round_360 ⟨rfl, rfl⟩
theorem kL_round_361 : aCode iL_round 361 = some (.iaload, 1) := by decide +kernel
theorem sL_round_361 {d : Nat} {σ : aS} {Q : aQ} {a : Nat} {i : Int32} {ls : aL} {st : List Value} : aX d iL_round 361 (ls) (.int i :: .ref a :: st) σ Q ↔ ∃ x, aRowR σ a = some x ∧ vp_in i x.1 ∧ aX d iL_round 362 (ls) (.int (x.2 i.toNatClampNeg) :: st) σ Q := X_iaload kL_round_361
theorem kL_round_362 : aCode iL_round 362 = some (.iconst 1, 1) := by decide +kernel
theorem sL_round_362 {d : Nat} {σ : aS} {Q : aQ} {ls : aL} {st : List Value} : aX d iL_round 362 (ls) (st) σ Q ↔ aX d iL_round 363 (ls) (.int (nI 1) :: st) σ Q := X_iconst kL_round_362 (by decide +kernel)
theorem kL_round_363 : aCode iL_round 363 = some (.iadd, 1) := by decide +kernel
theorem sL_round_363 {d : Nat} {σ : aS} {Q : aQ} {x y : Int32} {ls : aL} {st : List Value} : aX d iL_round 363 (ls) (.int y :: .int x :: st) σ Q ↔ aX d iL_round 364 (ls) (.int (x + y) :: st) σ Q := X_iadd kL_round_363
theorem kL_round_364 : aCode iL_round 364 = some (.iastore, 1) := by decide +kernel
theorem sL_round_364 {d : Nat} {σ : aS} {Q : aQ} {a : Nat} {i v : Int32} {ls : aL} {st : List Value} : aX d iL_round 364 (ls) (.int v :: .int i :: .ref a :: st) σ Q ↔ ∃ x, aRow σ a = some x ∧ vp_in i x.1 ∧ aX d iL_round 365 (ls) (st) (aput σ a (eI x.1 (upd x.2 i.toNatClampNeg v))) Q := X_iastore kL_round_364
theorem kL_round_365 : aCode iL_round 365 = some (.aload 4, 2) := by decide +kernel
theorem sL_round_365 {d : Nat} {σ : aS} {Q : aQ} {l0 l1 l2 l3 : Option Value} {x : Nat} {lt : aL} {st : List Value} : aX d iL_round 365 (l0 :: l1 :: l2 :: l3 :: some (.ref x) :: lt) (st) σ Q ↔ aX d iL_round 367 (l0 :: l1 :: l2 :: l3 :: some (.ref x) :: lt) (.ref x :: st) σ Q := X_aload kL_round_365 rfl rfl
theorem sL_round_365n {d : Nat} {σ : aS} {Q : aQ} {l0 l1 l2 l3 : Option Value} {lt : aL} {st : List Value} : aX d iL_round 365 (l0 :: l1 :: l2 :: l3 :: some .null :: lt) (st) σ Q ↔ aX d iL_round 367 (l0 :: l1 :: l2 :: l3 :: some .null :: lt) (.null :: st) σ Q := X_aload kL_round_365 rfl rfl
theorem kL_round_367 : aCode iL_round 367 = some (.iload 9, 2) := by decide +kernel
theorem sL_round_367 {d : Nat} {σ : aS} {Q : aQ} {l0 l1 l2 l3 l4 l5 l6 l7 l8 : Option Value} {x : Int32} {lt : aL} {st : List Value} : aX d iL_round 367 (l0 :: l1 :: l2 :: l3 :: l4 :: l5 :: l6 :: l7 :: l8 :: some (.int x) :: lt) (st) σ Q ↔ aX d iL_round 369 (l0 :: l1 :: l2 :: l3 :: l4 :: l5 :: l6 :: l7 :: l8 :: some (.int x) :: lt) (.int x :: st) σ Q := X_iload kL_round_367 rfl
theorem kL_round_369 : aCode iL_round 369 = some (.dup2, 1) := by decide +kernel
theorem sL_round_369 {d : Nat} {σ : aS} {Q : aQ} {y : Int32} {x : Nat} {ls : aL} {st : List Value} : aX d iL_round 369 (ls) (.int y :: .ref x :: st) σ Q ↔ aX d iL_round 370 (ls) (.int y :: .ref x :: .int y :: .ref x :: st) σ Q := X_dup2 kL_round_369 ⟨rfl, rfl⟩
theorem kL_round_370 : aCode iL_round 370 = some (.iaload, 1) := by decide +kernel
theorem sL_round_370 {d : Nat} {σ : aS} {Q : aQ} {a : Nat} {i : Int32} {ls : aL} {st : List Value} : aX d iL_round 370 (ls) (.int i :: .ref a :: st) σ Q ↔ ∃ x, aRowR σ a = some x ∧ vp_in i x.1 ∧ aX d iL_round 371 (ls) (.int (x.2 i.toNatClampNeg) :: st) σ Q := X_iaload kL_round_370
theorem kL_round_371 : aCode iL_round 371 = some (.iconst 1, 1) := by decide +kernel
theorem sL_round_371 {d : Nat} {σ : aS} {Q : aQ} {ls : aL} {st : List Value} : aX d iL_round 371 (ls) (st) σ Q ↔ aX d iL_round 372 (ls) (.int (nI 1) :: st) σ Q := X_iconst kL_round_371 (by decide +kernel)
theorem kL_round_372 : aCode iL_round 372 = some (.iadd, 1) := by decide +kernel
theorem sL_round_372 {d : Nat} {σ : aS} {Q : aQ} {x y : Int32} {ls : aL} {st : List Value} : aX d iL_round 372 (ls) (.int y :: .int x :: st) σ Q ↔ aX d iL_round 373 (ls) (.int (x + y) :: st) σ Q := X_iadd kL_round_372
theorem kL_round_373 : aCode iL_round 373 = some (.iastore, 1) := by decide +kernel
theorem sL_round_373 {d : Nat} {σ : aS} {Q : aQ} {a : Nat} {i v : Int32} {ls : aL} {st : List Value} : aX d iL_round 373 (ls) (.int v :: .int i :: .ref a :: st) σ Q ↔ ∃ x, aRow σ a = some x ∧ vp_in i x.1 ∧ aX d iL_round 374 (ls) (st) (aput σ a (eI x.1 (upd x.2 i.toNatClampNeg v))) Q := X_iastore kL_round_373
theorem kL_round_374 : aCode iL_round 374 = some (.return_, 1) := by decide +kernel
theorem sL_round_374 {d : Nat} {σ : aS} {Q : aQ} {ls : aL} : aX d iL_round 374 (ls) ([]) σ Q ↔ Q none σ := X_vret kL_round_374 (by decide +kernel)
