theorem kL_law_0 : aCode iL_law 0 = some (.new 7, 3) := by decide +kernel
theorem sL_law_0 {d : Nat} {σ : aS} {Q : aQ} {ls : aL} {st : List Value} : aX d iL_law 0 (ls) (st) σ Q ↔ aX d iL_law 3 (ls) (.ref σ.2.1 :: st) (anew σ (eO 6 [.null, .null, .null, .null, .null]) 5) Q := X_new (w := (71, 72, 60)) kL_law_0 (by decide +kernel) (by decide +kernel) (by decide +kernel)
theorem kL_law_3 : aCode iL_law 3 = some (.dup, 1) := by decide +kernel
theorem sL_law_3 {d : Nat} {σ : aS} {Q : aQ} {x : Nat} {ls : aL} {st : List Value} : aX d iL_law 3 (ls) (.ref x :: st) σ Q ↔ aX d iL_law 4 (ls) (.ref x :: .ref x :: st) σ Q := X_dup kL_law_3 rfl
theorem sL_law_3i {d : Nat} {σ : aS} {Q : aQ} {x : Int32} {ls : aL} {st : List Value} : aX d iL_law 3 (ls) (.int x :: st) σ Q ↔ aX d iL_law 4 (ls) (.int x :: .int x :: st) σ Q := X_dup kL_law_3 rfl
theorem kL_law_4 : aCode iL_law 4 = some (.invokespecial 9, 3) := by decide +kernel
theorem sL_law_4 {d : Nat} {σ : aS} {Q : aQ} {b : Nat} {v0 : Value} {ls : aL} : aX (d + 1) iL_law 4 (ls) (.ref b :: v0 :: []) σ Q ↔ aIs σ b 6 ∧ aX d iX6_init 0 [some (.ref b), none] [] σ (fun r τ => aX (d + 1) iL_law 7 (ls) (aret r (v0 :: [])) τ Q) := X_invi (N := 0) (As := []) (k := 2) (w := 73) kL_law_4 (by decide +kernel) (by decide) (by decide +kernel) rfl rfl (by simp only [List.length_cons, List.length_nil]; omega) (by simp only [List.length_cons, List.length_nil]; omega) (by decide +kernel) rfl (Nat.le_of_ble_eq_true rfl)
theorem kL_law_7 : aCode iL_law 7 = some (.astore_n 1, 1) := by decide +kernel
theorem sL_law_7 {d : Nat} {σ : aS} {Q : aQ} {l0 lo : Option Value} {x : Nat} {lt : aL} {st : List Value} : aX d iL_law 7 (l0 :: lo :: lt) (.ref x :: st) σ Q ↔ aX d iL_law 8 (aclr l0 :: some (.ref x) :: lt) (st) σ Q := X_astoren kL_law_7 (by simp only [List.length_cons]; omega) rfl
theorem sL_law_7n {d : Nat} {σ : aS} {Q : aQ} {l0 lo : Option Value} {lt : aL} {st : List Value} : aX d iL_law 7 (l0 :: lo :: lt) (.null :: st) σ Q ↔ aX d iL_law 8 (aclr l0 :: some (.null) :: lt) (st) σ Q := X_astoren kL_law_7 (by simp only [List.length_cons]; omega) rfl
theorem kL_law_8 : aCode iL_law 8 = some (.new 10, 3) := by decide +kernel
theorem sL_law_8 {d : Nat} {σ : aS} {Q : aQ} {ls : aL} {st : List Value} : aX d iL_law 8 (ls) (st) σ Q ↔ aX d iL_law 11 (ls) (.ref σ.2.1 :: st) (anew σ (eO 7 [.null, .null, .null, .int 0, .null, .null, .null, .int 0, .int 0, .int 0, .int 0, .int 0]) 12) Q := X_new (w := (644, 645, 67)) kL_law_8 (by decide +kernel) (by decide +kernel) (by decide +kernel)
theorem kL_law_11 : aCode iL_law 11 = some (.dup, 1) := by decide +kernel
theorem sL_law_11 {d : Nat} {σ : aS} {Q : aQ} {x : Nat} {ls : aL} {st : List Value} : aX d iL_law 11 (ls) (.ref x :: st) σ Q ↔ aX d iL_law 12 (ls) (.ref x :: .ref x :: st) σ Q := X_dup kL_law_11 rfl
theorem sL_law_11i {d : Nat} {σ : aS} {Q : aQ} {x : Int32} {ls : aL} {st : List Value} : aX d iL_law 11 (ls) (.int x :: st) σ Q ↔ aX d iL_law 12 (ls) (.int x :: .int x :: st) σ Q := X_dup kL_law_11 rfl
theorem kL_law_12 : aCode iL_law 12 = some (.invokespecial 12, 3) := by decide +kernel
theorem sL_law_12 {d : Nat} {σ : aS} {Q : aQ} {b : Nat} {v0 : Value} {ls : aL} : aX (d + 1) iL_law 12 (ls) (.ref b :: v0 :: []) σ Q ↔ aIs σ b 7 ∧ aX d iX7_init 0 [some (.ref b), none] [] σ (fun r τ => aX (d + 1) iL_law 15 (ls) (aret r (v0 :: [])) τ Q) := X_invi (N := 0) (As := []) (k := 2) (w := 646) kL_law_12 (by decide +kernel) (by decide) (by decide +kernel) rfl rfl (by simp only [List.length_cons, List.length_nil]; omega) (by simp only [List.length_cons, List.length_nil]; omega) (by decide +kernel) rfl (Nat.le_of_ble_eq_true rfl)
theorem kL_law_15 : aCode iL_law 15 = some (.astore_n 2, 1) := by decide +kernel
theorem sL_law_15 {d : Nat} {σ : aS} {Q : aQ} {l0 l1 lo : Option Value} {x : Nat} {lt : aL} {st : List Value} : aX d iL_law 15 (l0 :: l1 :: lo :: lt) (.ref x :: st) σ Q ↔ aX d iL_law 16 (l0 :: aclr l1 :: some (.ref x) :: lt) (st) σ Q := X_astoren kL_law_15 (by simp only [List.length_cons]; omega) rfl
theorem sL_law_15n {d : Nat} {σ : aS} {Q : aQ} {l0 l1 lo : Option Value} {lt : aL} {st : List Value} : aX d iL_law 15 (l0 :: l1 :: lo :: lt) (.null :: st) σ Q ↔ aX d iL_law 16 (l0 :: aclr l1 :: some (.null) :: lt) (st) σ Q := X_astoren kL_law_15 (by simp only [List.length_cons]; omega) rfl
theorem kL_law_16 : aCode iL_law 16 = some (.iconst 0, 1) := by decide +kernel
theorem sL_law_16 {d : Nat} {σ : aS} {Q : aQ} {ls : aL} {st : List Value} : aX d iL_law 16 (ls) (st) σ Q ↔ aX d iL_law 17 (ls) (.int (nI 0) :: st) σ Q := X_iconst kL_law_16 (by decide +kernel)
theorem kL_law_17 : aCode iL_law 17 = some (.istore_n 3, 1) := by decide +kernel
theorem sL_law_17 {d : Nat} {σ : aS} {Q : aQ} {l0 l1 l2 lo : Option Value} {x : Int32} {lt : aL} {st : List Value} : aX d iL_law 17 (l0 :: l1 :: l2 :: lo :: lt) (.int x :: st) σ Q ↔ aX d iL_law 18 (l0 :: l1 :: aclr l2 :: some (.int x) :: lt) (st) σ Q := X_istoren kL_law_17 (by simp only [List.length_cons]; omega)
theorem kL_law_18 : aCode iL_law 18 = some (.iload_n 3, 1) := by decide +kernel
theorem sL_law_18 {d : Nat} {σ : aS} {Q : aQ} {l0 l1 l2 : Option Value} {x : Int32} {lt : aL} {st : List Value} : aX d iL_law 18 (l0 :: l1 :: l2 :: some (.int x) :: lt) (st) σ Q ↔ aX d iL_law 19 (l0 :: l1 :: l2 :: some (.int x) :: lt) (.int x :: st) σ Q := X_iloadn kL_law_18 rfl
theorem kL_law_19 : aCode iL_law 19 = some (.aload_n 0, 1) := by decide +kernel
theorem sL_law_19 {d : Nat} {σ : aS} {Q : aQ} {x : Nat} {lt : aL} {st : List Value} : aX d iL_law 19 (some (.ref x) :: lt) (st) σ Q ↔ aX d iL_law 20 (some (.ref x) :: lt) (.ref x :: st) σ Q := X_aloadn kL_law_19 rfl rfl
theorem kL_law_20 : aCode iL_law 20 = some (.arraylength, 1) := by decide +kernel
theorem sL_law_20 {d : Nat} {σ : aS} {Q : aQ} {a : Nat} {ls : aL} {st : List Value} : aX d iL_law 20 (ls) (.ref a :: st) σ Q ↔ ∃ m, aLn σ a = some m ∧ aX d iL_law 21 (ls) (.int (nI m) :: st) σ Q := X_alen kL_law_20
theorem kL_law_21 : aCode iL_law 21 = some (.iconst 4, 1) := by decide +kernel
theorem sL_law_21 {d : Nat} {σ : aS} {Q : aQ} {ls : aL} {st : List Value} : aX d iL_law 21 (ls) (st) σ Q ↔ aX d iL_law 22 (ls) (.int (nI 4) :: st) σ Q := X_iconst kL_law_21 (by decide +kernel)
theorem kL_law_22 : aCode iL_law 22 = some (.isub, 1) := by decide +kernel
theorem sL_law_22 {d : Nat} {σ : aS} {Q : aQ} {x y : Int32} {ls : aL} {st : List Value} : aX d iL_law 22 (ls) (.int y :: .int x :: st) σ Q ↔ aX d iL_law 23 (ls) (.int (x - y) :: st) σ Q := X_isub kL_law_22
theorem kL_law_23 : aCode iL_law 23 = some (.if_icmp .gt 722, 3) := by decide +kernel
theorem sL_law_23 {d : Nat} {σ : aS} {Q : aQ} {x y : Int32} {ls : aL} {st : List Value} : aX d iL_law 23 (ls) (.int y :: .int x :: st) σ Q ↔ (if y < x then aX d iL_law 745 (ls) (st) σ Q else aX d iL_law 26 (ls) (st) σ Q) := by rw [X_icmp kL_law_23 (t := 745) (by decide)]; simp only [aCmp_gt]
theorem kL_law_26 : aCode iL_law 26 = some (.aload_n 0, 1) := by decide +kernel
theorem sL_law_26 {d : Nat} {σ : aS} {Q : aQ} {x : Nat} {lt : aL} {st : List Value} : aX d iL_law 26 (some (.ref x) :: lt) (st) σ Q ↔ aX d iL_law 27 (some (.ref x) :: lt) (.ref x :: st) σ Q := X_aloadn kL_law_26 rfl rfl
theorem kL_law_27 : aCode iL_law 27 = some (.iload_n 3, 1) := by decide +kernel
theorem sL_law_27 {d : Nat} {σ : aS} {Q : aQ} {l0 l1 l2 : Option Value} {x : Int32} {lt : aL} {st : List Value} : aX d iL_law 27 (l0 :: l1 :: l2 :: some (.int x) :: lt) (st) σ Q ↔ aX d iL_law 28 (l0 :: l1 :: l2 :: some (.int x) :: lt) (.int x :: st) σ Q := X_iloadn kL_law_27 rfl
theorem kL_law_28 : aCode iL_law 28 = some (.iaload, 1) := by decide +kernel
theorem sL_law_28 {d : Nat} {σ : aS} {Q : aQ} {a : Nat} {i : Int32} {ls : aL} {st : List Value} : aX d iL_law 28 (ls) (.int i :: .ref a :: st) σ Q ↔ ∃ x, aRowR σ a = some x ∧ vp_in i x.1 ∧ aX d iL_law 29 (ls) (.int (x.2 i.toNatClampNeg) :: st) σ Q := X_iaload kL_law_28
theorem kL_law_29 : aCode iL_law 29 = some (.bipush 31, 2) := by decide +kernel
theorem sL_law_29 {d : Nat} {σ : aS} {Q : aQ} {ls : aL} {st : List Value} : aX d iL_law 29 (ls) (st) σ Q ↔ aX d iL_law 31 (ls) (.int (nI 31) :: st) σ Q := X_bipush kL_law_29 (by decide +kernel)
theorem kL_law_31 : aCode iL_law 31 = some (.iand, 1) := by decide +kernel
theorem sL_law_31 {d : Nat} {σ : aS} {Q : aQ} {x y : Int32} {ls : aL} {st : List Value} : aX d iL_law 31 (ls) (.int y :: .int x :: st) σ Q ↔ aX d iL_law 32 (ls) (.int (x &&& y) :: st) σ Q := X_iand kL_law_31
theorem kL_law_32 : aCode iL_law 32 = some (.tableswitch 707 0 22 #[108, 141, 174, 197, 230, 263, 276, 289, 322, 365, 398, 421, 444, 467, 500, 533, 556, 609, 622, 635, 648, 661, 684], 108) := by decide +kernel
theorem sL_law_32_0 {d : Nat} {σ : aS} {Q : aQ} {ls : aL} {st : List Value} : aX d iL_law 32 (ls) (.int (nI 0) :: st) σ Q ↔ aX d iL_law 140 (ls) (st) σ Q := X_tsw kL_law_32 ⟨108, by decide +kernel, by decide⟩
theorem sL_law_32_1 {d : Nat} {σ : aS} {Q : aQ} {ls : aL} {st : List Value} : aX d iL_law 32 (ls) (.int (nI 1) :: st) σ Q ↔ aX d iL_law 173 (ls) (st) σ Q := X_tsw kL_law_32 ⟨141, by decide +kernel, by decide⟩
theorem sL_law_32_2 {d : Nat} {σ : aS} {Q : aQ} {ls : aL} {st : List Value} : aX d iL_law 32 (ls) (.int (nI 2) :: st) σ Q ↔ aX d iL_law 206 (ls) (st) σ Q := X_tsw kL_law_32 ⟨174, by decide +kernel, by decide⟩
theorem sL_law_32_3 {d : Nat} {σ : aS} {Q : aQ} {ls : aL} {st : List Value} : aX d iL_law 32 (ls) (.int (nI 3) :: st) σ Q ↔ aX d iL_law 229 (ls) (st) σ Q := X_tsw kL_law_32 ⟨197, by decide +kernel, by decide⟩
theorem sL_law_32_4 {d : Nat} {σ : aS} {Q : aQ} {ls : aL} {st : List Value} : aX d iL_law 32 (ls) (.int (nI 4) :: st) σ Q ↔ aX d iL_law 262 (ls) (st) σ Q := X_tsw kL_law_32 ⟨230, by decide +kernel, by decide⟩
theorem sL_law_32_5 {d : Nat} {σ : aS} {Q : aQ} {ls : aL} {st : List Value} : aX d iL_law 32 (ls) (.int (nI 5) :: st) σ Q ↔ aX d iL_law 295 (ls) (st) σ Q := X_tsw kL_law_32 ⟨263, by decide +kernel, by decide⟩
theorem sL_law_32_6 {d : Nat} {σ : aS} {Q : aQ} {ls : aL} {st : List Value} : aX d iL_law 32 (ls) (.int (nI 6) :: st) σ Q ↔ aX d iL_law 308 (ls) (st) σ Q := X_tsw kL_law_32 ⟨276, by decide +kernel, by decide⟩
theorem sL_law_32_7 {d : Nat} {σ : aS} {Q : aQ} {ls : aL} {st : List Value} : aX d iL_law 32 (ls) (.int (nI 7) :: st) σ Q ↔ aX d iL_law 321 (ls) (st) σ Q := X_tsw kL_law_32 ⟨289, by decide +kernel, by decide⟩
theorem sL_law_32_8 {d : Nat} {σ : aS} {Q : aQ} {ls : aL} {st : List Value} : aX d iL_law 32 (ls) (.int (nI 8) :: st) σ Q ↔ aX d iL_law 354 (ls) (st) σ Q := X_tsw kL_law_32 ⟨322, by decide +kernel, by decide⟩
theorem sL_law_32_9 {d : Nat} {σ : aS} {Q : aQ} {ls : aL} {st : List Value} : aX d iL_law 32 (ls) (.int (nI 9) :: st) σ Q ↔ aX d iL_law 397 (ls) (st) σ Q := X_tsw kL_law_32 ⟨365, by decide +kernel, by decide⟩
theorem sL_law_32_10 {d : Nat} {σ : aS} {Q : aQ} {ls : aL} {st : List Value} : aX d iL_law 32 (ls) (.int (nI 10) :: st) σ Q ↔ aX d iL_law 430 (ls) (st) σ Q := X_tsw kL_law_32 ⟨398, by decide +kernel, by decide⟩
theorem sL_law_32_11 {d : Nat} {σ : aS} {Q : aQ} {ls : aL} {st : List Value} : aX d iL_law 32 (ls) (.int (nI 11) :: st) σ Q ↔ aX d iL_law 453 (ls) (st) σ Q := X_tsw kL_law_32 ⟨421, by decide +kernel, by decide⟩
theorem sL_law_32_12 {d : Nat} {σ : aS} {Q : aQ} {ls : aL} {st : List Value} : aX d iL_law 32 (ls) (.int (nI 12) :: st) σ Q ↔ aX d iL_law 476 (ls) (st) σ Q := X_tsw kL_law_32 ⟨444, by decide +kernel, by decide⟩
theorem sL_law_32_13 {d : Nat} {σ : aS} {Q : aQ} {ls : aL} {st : List Value} : aX d iL_law 32 (ls) (.int (nI 13) :: st) σ Q ↔ aX d iL_law 499 (ls) (st) σ Q := X_tsw kL_law_32 ⟨467, by decide +kernel, by decide⟩
theorem sL_law_32_14 {d : Nat} {σ : aS} {Q : aQ} {ls : aL} {st : List Value} : aX d iL_law 32 (ls) (.int (nI 14) :: st) σ Q ↔ aX d iL_law 532 (ls) (st) σ Q := X_tsw kL_law_32 ⟨500, by decide +kernel, by decide⟩
theorem sL_law_32_15 {d : Nat} {σ : aS} {Q : aQ} {ls : aL} {st : List Value} : aX d iL_law 32 (ls) (.int (nI 15) :: st) σ Q ↔ aX d iL_law 565 (ls) (st) σ Q := X_tsw kL_law_32 ⟨533, by decide +kernel, by decide⟩
theorem sL_law_32_16 {d : Nat} {σ : aS} {Q : aQ} {ls : aL} {st : List Value} : aX d iL_law 32 (ls) (.int (nI 16) :: st) σ Q ↔ aX d iL_law 588 (ls) (st) σ Q := X_tsw kL_law_32 ⟨556, by decide +kernel, by decide⟩
theorem sL_law_32_17 {d : Nat} {σ : aS} {Q : aQ} {ls : aL} {st : List Value} : aX d iL_law 32 (ls) (.int (nI 17) :: st) σ Q ↔ aX d iL_law 641 (ls) (st) σ Q := X_tsw kL_law_32 ⟨609, by decide +kernel, by decide⟩
theorem sL_law_32_18 {d : Nat} {σ : aS} {Q : aQ} {ls : aL} {st : List Value} : aX d iL_law 32 (ls) (.int (nI 18) :: st) σ Q ↔ aX d iL_law 654 (ls) (st) σ Q := X_tsw kL_law_32 ⟨622, by decide +kernel, by decide⟩
theorem sL_law_32_19 {d : Nat} {σ : aS} {Q : aQ} {ls : aL} {st : List Value} : aX d iL_law 32 (ls) (.int (nI 19) :: st) σ Q ↔ aX d iL_law 667 (ls) (st) σ Q := X_tsw kL_law_32 ⟨635, by decide +kernel, by decide⟩
theorem sL_law_32_20 {d : Nat} {σ : aS} {Q : aQ} {ls : aL} {st : List Value} : aX d iL_law 32 (ls) (.int (nI 20) :: st) σ Q ↔ aX d iL_law 680 (ls) (st) σ Q := X_tsw kL_law_32 ⟨648, by decide +kernel, by decide⟩
theorem sL_law_32_21 {d : Nat} {σ : aS} {Q : aQ} {ls : aL} {st : List Value} : aX d iL_law 32 (ls) (.int (nI 21) :: st) σ Q ↔ aX d iL_law 693 (ls) (st) σ Q := X_tsw kL_law_32 ⟨661, by decide +kernel, by decide⟩
theorem sL_law_32_22 {d : Nat} {σ : aS} {Q : aQ} {ls : aL} {st : List Value} : aX d iL_law 32 (ls) (.int (nI 22) :: st) σ Q ↔ aX d iL_law 716 (ls) (st) σ Q := X_tsw kL_law_32 ⟨684, by decide +kernel, by decide⟩
theorem sL_law_32_d {d : Nat} {σ : aS} {Q : aQ} {x : Int32} {ls : aL} {st : List Value} (h0 : ¬ x = nI 0) (h1 : ¬ x = nI 1) (h2 : ¬ x = nI 2) (h3 : ¬ x = nI 3) (h4 : ¬ x = nI 4) (h5 : ¬ x = nI 5) (h6 : ¬ x = nI 6) (h7 : ¬ x = nI 7) (h8 : ¬ x = nI 8) (h9 : ¬ x = nI 9) (h10 : ¬ x = nI 10) (h11 : ¬ x = nI 11) (h12 : ¬ x = nI 12) (h13 : ¬ x = nI 13) (h14 : ¬ x = nI 14) (h15 : ¬ x = nI 15) (h16 : ¬ x = nI 16) (h17 : ¬ x = nI 17) (h18 : ¬ x = nI 18) (h19 : ¬ x = nI 19) (h20 : ¬ x = nI 20) (h21 : ¬ x = nI 21) (h22 : ¬ x = nI 22) : aX d iL_law 32 (ls) (.int x :: st) σ Q ↔ aX d iL_law 739 (ls) (st) σ Q := by
  have g0 : ¬ x.toInt = 0 := fun z => h0 (Int32.toInt_inj.mp (z.trans (by decide +kernel)))
  have g1 : ¬ x.toInt = 1 := fun z => h1 (Int32.toInt_inj.mp (z.trans (by decide +kernel)))
  have g2 : ¬ x.toInt = 2 := fun z => h2 (Int32.toInt_inj.mp (z.trans (by decide +kernel)))
  have g3 : ¬ x.toInt = 3 := fun z => h3 (Int32.toInt_inj.mp (z.trans (by decide +kernel)))
  have g4 : ¬ x.toInt = 4 := fun z => h4 (Int32.toInt_inj.mp (z.trans (by decide +kernel)))
  have g5 : ¬ x.toInt = 5 := fun z => h5 (Int32.toInt_inj.mp (z.trans (by decide +kernel)))
  have g6 : ¬ x.toInt = 6 := fun z => h6 (Int32.toInt_inj.mp (z.trans (by decide +kernel)))
  have g7 : ¬ x.toInt = 7 := fun z => h7 (Int32.toInt_inj.mp (z.trans (by decide +kernel)))
  have g8 : ¬ x.toInt = 8 := fun z => h8 (Int32.toInt_inj.mp (z.trans (by decide +kernel)))
  have g9 : ¬ x.toInt = 9 := fun z => h9 (Int32.toInt_inj.mp (z.trans (by decide +kernel)))
  have g10 : ¬ x.toInt = 10 := fun z => h10 (Int32.toInt_inj.mp (z.trans (by decide +kernel)))
  have g11 : ¬ x.toInt = 11 := fun z => h11 (Int32.toInt_inj.mp (z.trans (by decide +kernel)))
  have g12 : ¬ x.toInt = 12 := fun z => h12 (Int32.toInt_inj.mp (z.trans (by decide +kernel)))
  have g13 : ¬ x.toInt = 13 := fun z => h13 (Int32.toInt_inj.mp (z.trans (by decide +kernel)))
  have g14 : ¬ x.toInt = 14 := fun z => h14 (Int32.toInt_inj.mp (z.trans (by decide +kernel)))
  have g15 : ¬ x.toInt = 15 := fun z => h15 (Int32.toInt_inj.mp (z.trans (by decide +kernel)))
  have g16 : ¬ x.toInt = 16 := fun z => h16 (Int32.toInt_inj.mp (z.trans (by decide +kernel)))
  have g17 : ¬ x.toInt = 17 := fun z => h17 (Int32.toInt_inj.mp (z.trans (by decide +kernel)))
  have g18 : ¬ x.toInt = 18 := fun z => h18 (Int32.toInt_inj.mp (z.trans (by decide +kernel)))
  have g19 : ¬ x.toInt = 19 := fun z => h19 (Int32.toInt_inj.mp (z.trans (by decide +kernel)))
  have g20 : ¬ x.toInt = 20 := fun z => h20 (Int32.toInt_inj.mp (z.trans (by decide +kernel)))
  have g21 : ¬ x.toInt = 21 := fun z => h21 (Int32.toInt_inj.mp (z.trans (by decide +kernel)))
  have g22 : ¬ x.toInt = 22 := fun z => h22 (Int32.toInt_inj.mp (z.trans (by decide +kernel)))
  exact X_tsw kL_law_32 ⟨707, if_pos (by omega), by decide⟩
theorem kL_law_140 : aCode iL_law 140 = some (.aload_n 1, 1) := by decide +kernel
theorem sL_law_140 {d : Nat} {σ : aS} {Q : aQ} {l0 : Option Value} {x : Nat} {lt : aL} {st : List Value} : aX d iL_law 140 (l0 :: some (.ref x) :: lt) (st) σ Q ↔ aX d iL_law 141 (l0 :: some (.ref x) :: lt) (.ref x :: st) σ Q := X_aloadn kL_law_140 rfl rfl
theorem sL_law_140n {d : Nat} {σ : aS} {Q : aQ} {l0 : Option Value} {lt : aL} {st : List Value} : aX d iL_law 140 (l0 :: some .null :: lt) (st) σ Q ↔ aX d iL_law 141 (l0 :: some .null :: lt) (.null :: st) σ Q := X_aloadn kL_law_140 rfl rfl
theorem kL_law_141 : aCode iL_law 141 = some (.aload_n 0, 1) := by decide +kernel
theorem sL_law_141 {d : Nat} {σ : aS} {Q : aQ} {x : Nat} {lt : aL} {st : List Value} : aX d iL_law 141 (some (.ref x) :: lt) (st) σ Q ↔ aX d iL_law 142 (some (.ref x) :: lt) (.ref x :: st) σ Q := X_aloadn kL_law_141 rfl rfl
theorem kL_law_142 : aCode iL_law 142 = some (.iload_n 3, 1) := by decide +kernel
theorem sL_law_142 {d : Nat} {σ : aS} {Q : aQ} {l0 l1 l2 : Option Value} {x : Int32} {lt : aL} {st : List Value} : aX d iL_law 142 (l0 :: l1 :: l2 :: some (.int x) :: lt) (st) σ Q ↔ aX d iL_law 143 (l0 :: l1 :: l2 :: some (.int x) :: lt) (.int x :: st) σ Q := X_iloadn kL_law_142 rfl
theorem kL_law_143 : aCode iL_law 143 = some (.iconst 1, 1) := by decide +kernel
theorem sL_law_143 {d : Nat} {σ : aS} {Q : aQ} {ls : aL} {st : List Value} : aX d iL_law 143 (ls) (st) σ Q ↔ aX d iL_law 144 (ls) (.int (nI 1) :: st) σ Q := X_iconst kL_law_143 (by decide +kernel)
theorem kL_law_144 : aCode iL_law 144 = some (.iadd, 1) := by decide +kernel
theorem sL_law_144 {d : Nat} {σ : aS} {Q : aQ} {x y : Int32} {ls : aL} {st : List Value} : aX d iL_law 144 (ls) (.int y :: .int x :: st) σ Q ↔ aX d iL_law 145 (ls) (.int (x + y) :: st) σ Q := X_iadd kL_law_144
theorem kL_law_145 : aCode iL_law 145 = some (.iaload, 1) := by decide +kernel
theorem sL_law_145 {d : Nat} {σ : aS} {Q : aQ} {a : Nat} {i : Int32} {ls : aL} {st : List Value} : aX d iL_law 145 (ls) (.int i :: .ref a :: st) σ Q ↔ ∃ x, aRowR σ a = some x ∧ vp_in i x.1 ∧ aX d iL_law 146 (ls) (.int (x.2 i.toNatClampNeg) :: st) σ Q := X_iaload kL_law_145
theorem kL_law_146 : aCode iL_law 146 = some (.aload_n 0, 1) := by decide +kernel
theorem sL_law_146 {d : Nat} {σ : aS} {Q : aQ} {x : Nat} {lt : aL} {st : List Value} : aX d iL_law 146 (some (.ref x) :: lt) (st) σ Q ↔ aX d iL_law 147 (some (.ref x) :: lt) (.ref x :: st) σ Q := X_aloadn kL_law_146 rfl rfl
theorem kL_law_147 : aCode iL_law 147 = some (.iload_n 3, 1) := by decide +kernel
theorem sL_law_147 {d : Nat} {σ : aS} {Q : aQ} {l0 l1 l2 : Option Value} {x : Int32} {lt : aL} {st : List Value} : aX d iL_law 147 (l0 :: l1 :: l2 :: some (.int x) :: lt) (st) σ Q ↔ aX d iL_law 148 (l0 :: l1 :: l2 :: some (.int x) :: lt) (.int x :: st) σ Q := X_iloadn kL_law_147 rfl
theorem kL_law_148 : aCode iL_law 148 = some (.iconst 2, 1) := by decide +kernel
theorem sL_law_148 {d : Nat} {σ : aS} {Q : aQ} {ls : aL} {st : List Value} : aX d iL_law 148 (ls) (st) σ Q ↔ aX d iL_law 149 (ls) (.int (nI 2) :: st) σ Q := X_iconst kL_law_148 (by decide +kernel)
theorem kL_law_149 : aCode iL_law 149 = some (.iadd, 1) := by decide +kernel
theorem sL_law_149 {d : Nat} {σ : aS} {Q : aQ} {x y : Int32} {ls : aL} {st : List Value} : aX d iL_law 149 (ls) (.int y :: .int x :: st) σ Q ↔ aX d iL_law 150 (ls) (.int (x + y) :: st) σ Q := X_iadd kL_law_149
theorem kL_law_150 : aCode iL_law 150 = some (.iaload, 1) := by decide +kernel
theorem sL_law_150 {d : Nat} {σ : aS} {Q : aQ} {a : Nat} {i : Int32} {ls : aL} {st : List Value} : aX d iL_law 150 (ls) (.int i :: .ref a :: st) σ Q ↔ ∃ x, aRowR σ a = some x ∧ vp_in i x.1 ∧ aX d iL_law 151 (ls) (.int (x.2 i.toNatClampNeg) :: st) σ Q := X_iaload kL_law_150
theorem kL_law_151 : aCode iL_law 151 = some (.invokevirtual 13, 3) := by decide +kernel
theorem sL_law_151 {d : Nat} {σ : aS} {Q : aQ} {b : Nat} {p0 : Int32} {p1 : Int32} {ls : aL} : aX (d + 1) iL_law 151 (ls) (.int p1 :: .int p0 :: .ref b :: []) σ Q ↔ aIs σ b 6 ∧ aX d iX6_teach 0 [some (.ref b), some (.int p0), some (.int p1)] [] σ (fun r τ => aX (d + 1) iL_law 154 (ls) (aret r ([])) τ Q) := X_invv (N := 2) (As := [.int p1, .int p0]) (w := 256) kL_law_151 (by decide +kernel) (by decide +kernel) rfl rfl (by simp only [List.length_cons, List.length_nil]; omega) (by simp only [List.length_cons, List.length_nil]; omega) (by decide +kernel) rfl (Nat.le_of_ble_eq_true rfl)
theorem kL_law_154 : aCode iL_law 154 = some (.aload_n 2, 1) := by decide +kernel
theorem sL_law_154 {d : Nat} {σ : aS} {Q : aQ} {l0 l1 : Option Value} {x : Nat} {lt : aL} {st : List Value} : aX d iL_law 154 (l0 :: l1 :: some (.ref x) :: lt) (st) σ Q ↔ aX d iL_law 155 (l0 :: l1 :: some (.ref x) :: lt) (.ref x :: st) σ Q := X_aloadn kL_law_154 rfl rfl
theorem sL_law_154n {d : Nat} {σ : aS} {Q : aQ} {l0 l1 : Option Value} {lt : aL} {st : List Value} : aX d iL_law 154 (l0 :: l1 :: some .null :: lt) (st) σ Q ↔ aX d iL_law 155 (l0 :: l1 :: some .null :: lt) (.null :: st) σ Q := X_aloadn kL_law_154 rfl rfl
theorem kL_law_155 : aCode iL_law 155 = some (.aload_n 0, 1) := by decide +kernel
theorem sL_law_155 {d : Nat} {σ : aS} {Q : aQ} {x : Nat} {lt : aL} {st : List Value} : aX d iL_law 155 (some (.ref x) :: lt) (st) σ Q ↔ aX d iL_law 156 (some (.ref x) :: lt) (.ref x :: st) σ Q := X_aloadn kL_law_155 rfl rfl
theorem kL_law_156 : aCode iL_law 156 = some (.iload_n 3, 1) := by decide +kernel
theorem sL_law_156 {d : Nat} {σ : aS} {Q : aQ} {l0 l1 l2 : Option Value} {x : Int32} {lt : aL} {st : List Value} : aX d iL_law 156 (l0 :: l1 :: l2 :: some (.int x) :: lt) (st) σ Q ↔ aX d iL_law 157 (l0 :: l1 :: l2 :: some (.int x) :: lt) (.int x :: st) σ Q := X_iloadn kL_law_156 rfl
theorem kL_law_157 : aCode iL_law 157 = some (.iconst 1, 1) := by decide +kernel
theorem sL_law_157 {d : Nat} {σ : aS} {Q : aQ} {ls : aL} {st : List Value} : aX d iL_law 157 (ls) (st) σ Q ↔ aX d iL_law 158 (ls) (.int (nI 1) :: st) σ Q := X_iconst kL_law_157 (by decide +kernel)
theorem kL_law_158 : aCode iL_law 158 = some (.iadd, 1) := by decide +kernel
theorem sL_law_158 {d : Nat} {σ : aS} {Q : aQ} {x y : Int32} {ls : aL} {st : List Value} : aX d iL_law 158 (ls) (.int y :: .int x :: st) σ Q ↔ aX d iL_law 159 (ls) (.int (x + y) :: st) σ Q := X_iadd kL_law_158
theorem kL_law_159 : aCode iL_law 159 = some (.iaload, 1) := by decide +kernel
theorem sL_law_159 {d : Nat} {σ : aS} {Q : aQ} {a : Nat} {i : Int32} {ls : aL} {st : List Value} : aX d iL_law 159 (ls) (.int i :: .ref a :: st) σ Q ↔ ∃ x, aRowR σ a = some x ∧ vp_in i x.1 ∧ aX d iL_law 160 (ls) (.int (x.2 i.toNatClampNeg) :: st) σ Q := X_iaload kL_law_159
theorem kL_law_160 : aCode iL_law 160 = some (.aload_n 0, 1) := by decide +kernel
theorem sL_law_160 {d : Nat} {σ : aS} {Q : aQ} {x : Nat} {lt : aL} {st : List Value} : aX d iL_law 160 (some (.ref x) :: lt) (st) σ Q ↔ aX d iL_law 161 (some (.ref x) :: lt) (.ref x :: st) σ Q := X_aloadn kL_law_160 rfl rfl
theorem kL_law_161 : aCode iL_law 161 = some (.iload_n 3, 1) := by decide +kernel
theorem sL_law_161 {d : Nat} {σ : aS} {Q : aQ} {l0 l1 l2 : Option Value} {x : Int32} {lt : aL} {st : List Value} : aX d iL_law 161 (l0 :: l1 :: l2 :: some (.int x) :: lt) (st) σ Q ↔ aX d iL_law 162 (l0 :: l1 :: l2 :: some (.int x) :: lt) (.int x :: st) σ Q := X_iloadn kL_law_161 rfl
theorem kL_law_162 : aCode iL_law 162 = some (.iconst 2, 1) := by decide +kernel
theorem sL_law_162 {d : Nat} {σ : aS} {Q : aQ} {ls : aL} {st : List Value} : aX d iL_law 162 (ls) (st) σ Q ↔ aX d iL_law 163 (ls) (.int (nI 2) :: st) σ Q := X_iconst kL_law_162 (by decide +kernel)
theorem kL_law_163 : aCode iL_law 163 = some (.iadd, 1) := by decide +kernel
theorem sL_law_163 {d : Nat} {σ : aS} {Q : aQ} {x y : Int32} {ls : aL} {st : List Value} : aX d iL_law 163 (ls) (.int y :: .int x :: st) σ Q ↔ aX d iL_law 164 (ls) (.int (x + y) :: st) σ Q := X_iadd kL_law_163
theorem kL_law_164 : aCode iL_law 164 = some (.iaload, 1) := by decide +kernel
theorem sL_law_164 {d : Nat} {σ : aS} {Q : aQ} {a : Nat} {i : Int32} {ls : aL} {st : List Value} : aX d iL_law 164 (ls) (.int i :: .ref a :: st) σ Q ↔ ∃ x, aRowR σ a = some x ∧ vp_in i x.1 ∧ aX d iL_law 165 (ls) (.int (x.2 i.toNatClampNeg) :: st) σ Q := X_iaload kL_law_164
theorem kL_law_165 : aCode iL_law 165 = some (.invokevirtual 17, 3) := by decide +kernel
theorem sL_law_165 {d : Nat} {σ : aS} {Q : aQ} {b : Nat} {p0 : Int32} {p1 : Int32} {v0 : Value} {ls : aL} : aX (d + 1) iL_law 165 (ls) (.int p1 :: .int p0 :: .ref b :: v0 :: []) σ Q ↔ aIs σ b 7 ∧ aX d iX7_teach 0 [some (.ref b), some (.int p0), some (.int p1), none] [] σ (fun r τ => aX (d + 1) iL_law 168 (ls) (aret r (v0 :: [])) τ Q) := X_invv (N := 2) (As := [.int p1, .int p0]) (w := 687) kL_law_165 (by decide +kernel) (by decide +kernel) rfl rfl (by simp only [List.length_cons, List.length_nil]; omega) (by simp only [List.length_cons, List.length_nil]; omega) (by decide +kernel) rfl (Nat.le_of_ble_eq_true rfl)
theorem kL_law_168 : aCode iL_law 168 = some (.if_icmp .eq 571, 3) := by decide +kernel
theorem sL_law_168 {d : Nat} {σ : aS} {Q : aQ} {x y : Int32} {ls : aL} {st : List Value} : aX d iL_law 168 (ls) (.int y :: .int x :: st) σ Q ↔ (if x = y then aX d iL_law 739 (ls) (st) σ Q else aX d iL_law 171 (ls) (st) σ Q) := by rw [X_icmp kL_law_168 (t := 739) (by decide)]; simp only [aCmp_eq]
theorem kL_law_171 : aCode iL_law 171 = some (.iconst 0, 1) := by decide +kernel
theorem sL_law_171 {d : Nat} {σ : aS} {Q : aQ} {ls : aL} {st : List Value} : aX d iL_law 171 (ls) (st) σ Q ↔ aX d iL_law 172 (ls) (.int (nI 0) :: st) σ Q := X_iconst kL_law_171 (by decide +kernel)
theorem kL_law_172 : aCode iL_law 172 = some (.ireturn, 1) := by decide +kernel
theorem sL_law_172 {d : Nat} {σ : aS} {Q : aQ} {v : Int32} {ls : aL} : aX d iL_law 172 (ls) ([.int v]) σ Q ↔ (narrow .boolean (.int v) = .int v ∧ Q (some (.int v)) σ) := X_zret kL_law_172 (by decide +kernel)
theorem kL_law_173 : aCode iL_law 173 = some (.aload_n 1, 1) := by decide +kernel
theorem sL_law_173 {d : Nat} {σ : aS} {Q : aQ} {l0 : Option Value} {x : Nat} {lt : aL} {st : List Value} : aX d iL_law 173 (l0 :: some (.ref x) :: lt) (st) σ Q ↔ aX d iL_law 174 (l0 :: some (.ref x) :: lt) (.ref x :: st) σ Q := X_aloadn kL_law_173 rfl rfl
theorem sL_law_173n {d : Nat} {σ : aS} {Q : aQ} {l0 : Option Value} {lt : aL} {st : List Value} : aX d iL_law 173 (l0 :: some .null :: lt) (st) σ Q ↔ aX d iL_law 174 (l0 :: some .null :: lt) (.null :: st) σ Q := X_aloadn kL_law_173 rfl rfl
theorem kL_law_174 : aCode iL_law 174 = some (.aload_n 0, 1) := by decide +kernel
theorem sL_law_174 {d : Nat} {σ : aS} {Q : aQ} {x : Nat} {lt : aL} {st : List Value} : aX d iL_law 174 (some (.ref x) :: lt) (st) σ Q ↔ aX d iL_law 175 (some (.ref x) :: lt) (.ref x :: st) σ Q := X_aloadn kL_law_174 rfl rfl
theorem kL_law_175 : aCode iL_law 175 = some (.iload_n 3, 1) := by decide +kernel
theorem sL_law_175 {d : Nat} {σ : aS} {Q : aQ} {l0 l1 l2 : Option Value} {x : Int32} {lt : aL} {st : List Value} : aX d iL_law 175 (l0 :: l1 :: l2 :: some (.int x) :: lt) (st) σ Q ↔ aX d iL_law 176 (l0 :: l1 :: l2 :: some (.int x) :: lt) (.int x :: st) σ Q := X_iloadn kL_law_175 rfl
theorem kL_law_176 : aCode iL_law 176 = some (.iconst 1, 1) := by decide +kernel
theorem sL_law_176 {d : Nat} {σ : aS} {Q : aQ} {ls : aL} {st : List Value} : aX d iL_law 176 (ls) (st) σ Q ↔ aX d iL_law 177 (ls) (.int (nI 1) :: st) σ Q := X_iconst kL_law_176 (by decide +kernel)
theorem kL_law_177 : aCode iL_law 177 = some (.iadd, 1) := by decide +kernel
theorem sL_law_177 {d : Nat} {σ : aS} {Q : aQ} {x y : Int32} {ls : aL} {st : List Value} : aX d iL_law 177 (ls) (.int y :: .int x :: st) σ Q ↔ aX d iL_law 178 (ls) (.int (x + y) :: st) σ Q := X_iadd kL_law_177
theorem kL_law_178 : aCode iL_law 178 = some (.iaload, 1) := by decide +kernel
theorem sL_law_178 {d : Nat} {σ : aS} {Q : aQ} {a : Nat} {i : Int32} {ls : aL} {st : List Value} : aX d iL_law 178 (ls) (.int i :: .ref a :: st) σ Q ↔ ∃ x, aRowR σ a = some x ∧ vp_in i x.1 ∧ aX d iL_law 179 (ls) (.int (x.2 i.toNatClampNeg) :: st) σ Q := X_iaload kL_law_178
theorem kL_law_179 : aCode iL_law 179 = some (.aload_n 0, 1) := by decide +kernel
theorem sL_law_179 {d : Nat} {σ : aS} {Q : aQ} {x : Nat} {lt : aL} {st : List Value} : aX d iL_law 179 (some (.ref x) :: lt) (st) σ Q ↔ aX d iL_law 180 (some (.ref x) :: lt) (.ref x :: st) σ Q := X_aloadn kL_law_179 rfl rfl
theorem kL_law_180 : aCode iL_law 180 = some (.iload_n 3, 1) := by decide +kernel
theorem sL_law_180 {d : Nat} {σ : aS} {Q : aQ} {l0 l1 l2 : Option Value} {x : Int32} {lt : aL} {st : List Value} : aX d iL_law 180 (l0 :: l1 :: l2 :: some (.int x) :: lt) (st) σ Q ↔ aX d iL_law 181 (l0 :: l1 :: l2 :: some (.int x) :: lt) (.int x :: st) σ Q := X_iloadn kL_law_180 rfl
theorem kL_law_181 : aCode iL_law 181 = some (.iconst 2, 1) := by decide +kernel
theorem sL_law_181 {d : Nat} {σ : aS} {Q : aQ} {ls : aL} {st : List Value} : aX d iL_law 181 (ls) (st) σ Q ↔ aX d iL_law 182 (ls) (.int (nI 2) :: st) σ Q := X_iconst kL_law_181 (by decide +kernel)
theorem kL_law_182 : aCode iL_law 182 = some (.iadd, 1) := by decide +kernel
theorem sL_law_182 {d : Nat} {σ : aS} {Q : aQ} {x y : Int32} {ls : aL} {st : List Value} : aX d iL_law 182 (ls) (.int y :: .int x :: st) σ Q ↔ aX d iL_law 183 (ls) (.int (x + y) :: st) σ Q := X_iadd kL_law_182
theorem kL_law_183 : aCode iL_law 183 = some (.iaload, 1) := by decide +kernel
theorem sL_law_183 {d : Nat} {σ : aS} {Q : aQ} {a : Nat} {i : Int32} {ls : aL} {st : List Value} : aX d iL_law 183 (ls) (.int i :: .ref a :: st) σ Q ↔ ∃ x, aRowR σ a = some x ∧ vp_in i x.1 ∧ aX d iL_law 184 (ls) (.int (x.2 i.toNatClampNeg) :: st) σ Q := X_iaload kL_law_183
theorem kL_law_184 : aCode iL_law 184 = some (.invokevirtual 18, 3) := by decide +kernel
theorem sL_law_184 {d : Nat} {σ : aS} {Q : aQ} {b : Nat} {p0 : Int32} {p1 : Int32} {ls : aL} : aX (d + 1) iL_law 184 (ls) (.int p1 :: .int p0 :: .ref b :: []) σ Q ↔ aIs σ b 6 ∧ aX d iX6_sit 0 [some (.ref b), some (.int p0), some (.int p1)] [] σ (fun r τ => aX (d + 1) iL_law 187 (ls) (aret r ([])) τ Q) := X_invv (N := 2) (As := [.int p1, .int p0]) (w := 307) kL_law_184 (by decide +kernel) (by decide +kernel) rfl rfl (by simp only [List.length_cons, List.length_nil]; omega) (by simp only [List.length_cons, List.length_nil]; omega) (by decide +kernel) rfl (Nat.le_of_ble_eq_true rfl)
theorem kL_law_187 : aCode iL_law 187 = some (.aload_n 2, 1) := by decide +kernel
theorem sL_law_187 {d : Nat} {σ : aS} {Q : aQ} {l0 l1 : Option Value} {x : Nat} {lt : aL} {st : List Value} : aX d iL_law 187 (l0 :: l1 :: some (.ref x) :: lt) (st) σ Q ↔ aX d iL_law 188 (l0 :: l1 :: some (.ref x) :: lt) (.ref x :: st) σ Q := X_aloadn kL_law_187 rfl rfl
theorem sL_law_187n {d : Nat} {σ : aS} {Q : aQ} {l0 l1 : Option Value} {lt : aL} {st : List Value} : aX d iL_law 187 (l0 :: l1 :: some .null :: lt) (st) σ Q ↔ aX d iL_law 188 (l0 :: l1 :: some .null :: lt) (.null :: st) σ Q := X_aloadn kL_law_187 rfl rfl
theorem kL_law_188 : aCode iL_law 188 = some (.aload_n 0, 1) := by decide +kernel
theorem sL_law_188 {d : Nat} {σ : aS} {Q : aQ} {x : Nat} {lt : aL} {st : List Value} : aX d iL_law 188 (some (.ref x) :: lt) (st) σ Q ↔ aX d iL_law 189 (some (.ref x) :: lt) (.ref x :: st) σ Q := X_aloadn kL_law_188 rfl rfl
theorem kL_law_189 : aCode iL_law 189 = some (.iload_n 3, 1) := by decide +kernel
theorem sL_law_189 {d : Nat} {σ : aS} {Q : aQ} {l0 l1 l2 : Option Value} {x : Int32} {lt : aL} {st : List Value} : aX d iL_law 189 (l0 :: l1 :: l2 :: some (.int x) :: lt) (st) σ Q ↔ aX d iL_law 190 (l0 :: l1 :: l2 :: some (.int x) :: lt) (.int x :: st) σ Q := X_iloadn kL_law_189 rfl
theorem kL_law_190 : aCode iL_law 190 = some (.iconst 1, 1) := by decide +kernel
theorem sL_law_190 {d : Nat} {σ : aS} {Q : aQ} {ls : aL} {st : List Value} : aX d iL_law 190 (ls) (st) σ Q ↔ aX d iL_law 191 (ls) (.int (nI 1) :: st) σ Q := X_iconst kL_law_190 (by decide +kernel)
theorem kL_law_191 : aCode iL_law 191 = some (.iadd, 1) := by decide +kernel
theorem sL_law_191 {d : Nat} {σ : aS} {Q : aQ} {x y : Int32} {ls : aL} {st : List Value} : aX d iL_law 191 (ls) (.int y :: .int x :: st) σ Q ↔ aX d iL_law 192 (ls) (.int (x + y) :: st) σ Q := X_iadd kL_law_191
theorem kL_law_192 : aCode iL_law 192 = some (.iaload, 1) := by decide +kernel
theorem sL_law_192 {d : Nat} {σ : aS} {Q : aQ} {a : Nat} {i : Int32} {ls : aL} {st : List Value} : aX d iL_law 192 (ls) (.int i :: .ref a :: st) σ Q ↔ ∃ x, aRowR σ a = some x ∧ vp_in i x.1 ∧ aX d iL_law 193 (ls) (.int (x.2 i.toNatClampNeg) :: st) σ Q := X_iaload kL_law_192
theorem kL_law_193 : aCode iL_law 193 = some (.aload_n 0, 1) := by decide +kernel
theorem sL_law_193 {d : Nat} {σ : aS} {Q : aQ} {x : Nat} {lt : aL} {st : List Value} : aX d iL_law 193 (some (.ref x) :: lt) (st) σ Q ↔ aX d iL_law 194 (some (.ref x) :: lt) (.ref x :: st) σ Q := X_aloadn kL_law_193 rfl rfl
theorem kL_law_194 : aCode iL_law 194 = some (.iload_n 3, 1) := by decide +kernel
theorem sL_law_194 {d : Nat} {σ : aS} {Q : aQ} {l0 l1 l2 : Option Value} {x : Int32} {lt : aL} {st : List Value} : aX d iL_law 194 (l0 :: l1 :: l2 :: some (.int x) :: lt) (st) σ Q ↔ aX d iL_law 195 (l0 :: l1 :: l2 :: some (.int x) :: lt) (.int x :: st) σ Q := X_iloadn kL_law_194 rfl
theorem kL_law_195 : aCode iL_law 195 = some (.iconst 2, 1) := by decide +kernel
theorem sL_law_195 {d : Nat} {σ : aS} {Q : aQ} {ls : aL} {st : List Value} : aX d iL_law 195 (ls) (st) σ Q ↔ aX d iL_law 196 (ls) (.int (nI 2) :: st) σ Q := X_iconst kL_law_195 (by decide +kernel)
theorem kL_law_196 : aCode iL_law 196 = some (.iadd, 1) := by decide +kernel
theorem sL_law_196 {d : Nat} {σ : aS} {Q : aQ} {x y : Int32} {ls : aL} {st : List Value} : aX d iL_law 196 (ls) (.int y :: .int x :: st) σ Q ↔ aX d iL_law 197 (ls) (.int (x + y) :: st) σ Q := X_iadd kL_law_196
theorem kL_law_197 : aCode iL_law 197 = some (.iaload, 1) := by decide +kernel
theorem sL_law_197 {d : Nat} {σ : aS} {Q : aQ} {a : Nat} {i : Int32} {ls : aL} {st : List Value} : aX d iL_law 197 (ls) (.int i :: .ref a :: st) σ Q ↔ ∃ x, aRowR σ a = some x ∧ vp_in i x.1 ∧ aX d iL_law 198 (ls) (.int (x.2 i.toNatClampNeg) :: st) σ Q := X_iaload kL_law_197
theorem kL_law_198 : aCode iL_law 198 = some (.invokevirtual 21, 3) := by decide +kernel
theorem sL_law_198 {d : Nat} {σ : aS} {Q : aQ} {b : Nat} {p0 : Int32} {p1 : Int32} {v0 : Value} {ls : aL} : aX (d + 1) iL_law 198 (ls) (.int p1 :: .int p0 :: .ref b :: v0 :: []) σ Q ↔ aIs σ b 7 ∧ aX d iX7_sit 0 [some (.ref b), some (.int p0), some (.int p1), none] [] σ (fun r τ => aX (d + 1) iL_law 201 (ls) (aret r (v0 :: [])) τ Q) := X_invv (N := 2) (As := [.int p1, .int p0]) (w := 704) kL_law_198 (by decide +kernel) (by decide +kernel) rfl rfl (by simp only [List.length_cons, List.length_nil]; omega) (by simp only [List.length_cons, List.length_nil]; omega) (by decide +kernel) rfl (Nat.le_of_ble_eq_true rfl)
theorem kL_law_201 : aCode iL_law 201 = some (.if_icmp .eq 538, 3) := by decide +kernel
theorem sL_law_201 {d : Nat} {σ : aS} {Q : aQ} {x y : Int32} {ls : aL} {st : List Value} : aX d iL_law 201 (ls) (.int y :: .int x :: st) σ Q ↔ (if x = y then aX d iL_law 739 (ls) (st) σ Q else aX d iL_law 204 (ls) (st) σ Q) := by rw [X_icmp kL_law_201 (t := 739) (by decide)]; simp only [aCmp_eq]
theorem kL_law_204 : aCode iL_law 204 = some (.iconst 0, 1) := by decide +kernel
theorem sL_law_204 {d : Nat} {σ : aS} {Q : aQ} {ls : aL} {st : List Value} : aX d iL_law 204 (ls) (st) σ Q ↔ aX d iL_law 205 (ls) (.int (nI 0) :: st) σ Q := X_iconst kL_law_204 (by decide +kernel)
theorem kL_law_205 : aCode iL_law 205 = some (.ireturn, 1) := by decide +kernel
theorem sL_law_205 {d : Nat} {σ : aS} {Q : aQ} {v : Int32} {ls : aL} : aX d iL_law 205 (ls) ([.int v]) σ Q ↔ (narrow .boolean (.int v) = .int v ∧ Q (some (.int v)) σ) := X_zret kL_law_205 (by decide +kernel)
theorem kL_law_206 : aCode iL_law 206 = some (.aload_n 1, 1) := by decide +kernel
theorem sL_law_206 {d : Nat} {σ : aS} {Q : aQ} {l0 : Option Value} {x : Nat} {lt : aL} {st : List Value} : aX d iL_law 206 (l0 :: some (.ref x) :: lt) (st) σ Q ↔ aX d iL_law 207 (l0 :: some (.ref x) :: lt) (.ref x :: st) σ Q := X_aloadn kL_law_206 rfl rfl
theorem sL_law_206n {d : Nat} {σ : aS} {Q : aQ} {l0 : Option Value} {lt : aL} {st : List Value} : aX d iL_law 206 (l0 :: some .null :: lt) (st) σ Q ↔ aX d iL_law 207 (l0 :: some .null :: lt) (.null :: st) σ Q := X_aloadn kL_law_206 rfl rfl
theorem kL_law_207 : aCode iL_law 207 = some (.aload_n 0, 1) := by decide +kernel
theorem sL_law_207 {d : Nat} {σ : aS} {Q : aQ} {x : Nat} {lt : aL} {st : List Value} : aX d iL_law 207 (some (.ref x) :: lt) (st) σ Q ↔ aX d iL_law 208 (some (.ref x) :: lt) (.ref x :: st) σ Q := X_aloadn kL_law_207 rfl rfl
theorem kL_law_208 : aCode iL_law 208 = some (.iload_n 3, 1) := by decide +kernel
theorem sL_law_208 {d : Nat} {σ : aS} {Q : aQ} {l0 l1 l2 : Option Value} {x : Int32} {lt : aL} {st : List Value} : aX d iL_law 208 (l0 :: l1 :: l2 :: some (.int x) :: lt) (st) σ Q ↔ aX d iL_law 209 (l0 :: l1 :: l2 :: some (.int x) :: lt) (.int x :: st) σ Q := X_iloadn kL_law_208 rfl
theorem kL_law_209 : aCode iL_law 209 = some (.iconst 1, 1) := by decide +kernel
theorem sL_law_209 {d : Nat} {σ : aS} {Q : aQ} {ls : aL} {st : List Value} : aX d iL_law 209 (ls) (st) σ Q ↔ aX d iL_law 210 (ls) (.int (nI 1) :: st) σ Q := X_iconst kL_law_209 (by decide +kernel)
theorem kL_law_210 : aCode iL_law 210 = some (.iadd, 1) := by decide +kernel
theorem sL_law_210 {d : Nat} {σ : aS} {Q : aQ} {x y : Int32} {ls : aL} {st : List Value} : aX d iL_law 210 (ls) (.int y :: .int x :: st) σ Q ↔ aX d iL_law 211 (ls) (.int (x + y) :: st) σ Q := X_iadd kL_law_210
theorem kL_law_211 : aCode iL_law 211 = some (.iaload, 1) := by decide +kernel
theorem sL_law_211 {d : Nat} {σ : aS} {Q : aQ} {a : Nat} {i : Int32} {ls : aL} {st : List Value} : aX d iL_law 211 (ls) (.int i :: .ref a :: st) σ Q ↔ ∃ x, aRowR σ a = some x ∧ vp_in i x.1 ∧ aX d iL_law 212 (ls) (.int (x.2 i.toNatClampNeg) :: st) σ Q := X_iaload kL_law_211
theorem kL_law_212 : aCode iL_law 212 = some (.invokevirtual 22, 3) := by decide +kernel
theorem sL_law_212 {d : Nat} {σ : aS} {Q : aQ} {b : Nat} {p0 : Int32} {ls : aL} : aX (d + 1) iL_law 212 (ls) (.int p0 :: .ref b :: []) σ Q ↔ aIs σ b 6 ∧ aX d iX6_leave 0 [some (.ref b), some (.int p0)] [] σ (fun r τ => aX (d + 1) iL_law 215 (ls) (aret r ([])) τ Q) := X_invv (N := 1) (As := [.int p0]) (w := 321) kL_law_212 (by decide +kernel) (by decide +kernel) rfl rfl (by simp only [List.length_cons, List.length_nil]; omega) (by simp only [List.length_cons, List.length_nil]; omega) (by decide +kernel) rfl (Nat.le_of_ble_eq_true rfl)
theorem kL_law_215 : aCode iL_law 215 = some (.aload_n 2, 1) := by decide +kernel
theorem sL_law_215 {d : Nat} {σ : aS} {Q : aQ} {l0 l1 : Option Value} {x : Nat} {lt : aL} {st : List Value} : aX d iL_law 215 (l0 :: l1 :: some (.ref x) :: lt) (st) σ Q ↔ aX d iL_law 216 (l0 :: l1 :: some (.ref x) :: lt) (.ref x :: st) σ Q := X_aloadn kL_law_215 rfl rfl
theorem sL_law_215n {d : Nat} {σ : aS} {Q : aQ} {l0 l1 : Option Value} {lt : aL} {st : List Value} : aX d iL_law 215 (l0 :: l1 :: some .null :: lt) (st) σ Q ↔ aX d iL_law 216 (l0 :: l1 :: some .null :: lt) (.null :: st) σ Q := X_aloadn kL_law_215 rfl rfl
theorem kL_law_216 : aCode iL_law 216 = some (.aload_n 0, 1) := by decide +kernel
theorem sL_law_216 {d : Nat} {σ : aS} {Q : aQ} {x : Nat} {lt : aL} {st : List Value} : aX d iL_law 216 (some (.ref x) :: lt) (st) σ Q ↔ aX d iL_law 217 (some (.ref x) :: lt) (.ref x :: st) σ Q := X_aloadn kL_law_216 rfl rfl
theorem kL_law_217 : aCode iL_law 217 = some (.iload_n 3, 1) := by decide +kernel
theorem sL_law_217 {d : Nat} {σ : aS} {Q : aQ} {l0 l1 l2 : Option Value} {x : Int32} {lt : aL} {st : List Value} : aX d iL_law 217 (l0 :: l1 :: l2 :: some (.int x) :: lt) (st) σ Q ↔ aX d iL_law 218 (l0 :: l1 :: l2 :: some (.int x) :: lt) (.int x :: st) σ Q := X_iloadn kL_law_217 rfl
theorem kL_law_218 : aCode iL_law 218 = some (.iconst 1, 1) := by decide +kernel
theorem sL_law_218 {d : Nat} {σ : aS} {Q : aQ} {ls : aL} {st : List Value} : aX d iL_law 218 (ls) (st) σ Q ↔ aX d iL_law 219 (ls) (.int (nI 1) :: st) σ Q := X_iconst kL_law_218 (by decide +kernel)
theorem kL_law_219 : aCode iL_law 219 = some (.iadd, 1) := by decide +kernel
theorem sL_law_219 {d : Nat} {σ : aS} {Q : aQ} {x y : Int32} {ls : aL} {st : List Value} : aX d iL_law 219 (ls) (.int y :: .int x :: st) σ Q ↔ aX d iL_law 220 (ls) (.int (x + y) :: st) σ Q := X_iadd kL_law_219
theorem kL_law_220 : aCode iL_law 220 = some (.iaload, 1) := by decide +kernel
theorem sL_law_220 {d : Nat} {σ : aS} {Q : aQ} {a : Nat} {i : Int32} {ls : aL} {st : List Value} : aX d iL_law 220 (ls) (.int i :: .ref a :: st) σ Q ↔ ∃ x, aRowR σ a = some x ∧ vp_in i x.1 ∧ aX d iL_law 221 (ls) (.int (x.2 i.toNatClampNeg) :: st) σ Q := X_iaload kL_law_220
theorem kL_law_221 : aCode iL_law 221 = some (.invokevirtual 26, 3) := by decide +kernel
theorem sL_law_221 {d : Nat} {σ : aS} {Q : aQ} {b : Nat} {p0 : Int32} {v0 : Value} {ls : aL} : aX (d + 1) iL_law 221 (ls) (.int p0 :: .ref b :: v0 :: []) σ Q ↔ aIs σ b 7 ∧ aX d iX7_leave 0 [some (.ref b), some (.int p0), none] [] σ (fun r τ => aX (d + 1) iL_law 224 (ls) (aret r (v0 :: [])) τ Q) := X_invv (N := 1) (As := [.int p0]) (w := 722) kL_law_221 (by decide +kernel) (by decide +kernel) rfl rfl (by simp only [List.length_cons, List.length_nil]; omega) (by simp only [List.length_cons, List.length_nil]; omega) (by decide +kernel) rfl (Nat.le_of_ble_eq_true rfl)
theorem kL_law_224 : aCode iL_law 224 = some (.if_icmp .eq 515, 3) := by decide +kernel
theorem sL_law_224 {d : Nat} {σ : aS} {Q : aQ} {x y : Int32} {ls : aL} {st : List Value} : aX d iL_law 224 (ls) (.int y :: .int x :: st) σ Q ↔ (if x = y then aX d iL_law 739 (ls) (st) σ Q else aX d iL_law 227 (ls) (st) σ Q) := by rw [X_icmp kL_law_224 (t := 739) (by decide)]; simp only [aCmp_eq]
theorem kL_law_227 : aCode iL_law 227 = some (.iconst 0, 1) := by decide +kernel
theorem sL_law_227 {d : Nat} {σ : aS} {Q : aQ} {ls : aL} {st : List Value} : aX d iL_law 227 (ls) (st) σ Q ↔ aX d iL_law 228 (ls) (.int (nI 0) :: st) σ Q := X_iconst kL_law_227 (by decide +kernel)
theorem kL_law_228 : aCode iL_law 228 = some (.ireturn, 1) := by decide +kernel
theorem sL_law_228 {d : Nat} {σ : aS} {Q : aQ} {v : Int32} {ls : aL} : aX d iL_law 228 (ls) ([.int v]) σ Q ↔ (narrow .boolean (.int v) = .int v ∧ Q (some (.int v)) σ) := X_zret kL_law_228 (by decide +kernel)
theorem kL_law_229 : aCode iL_law 229 = some (.aload_n 1, 1) := by decide +kernel
theorem sL_law_229 {d : Nat} {σ : aS} {Q : aQ} {l0 : Option Value} {x : Nat} {lt : aL} {st : List Value} : aX d iL_law 229 (l0 :: some (.ref x) :: lt) (st) σ Q ↔ aX d iL_law 230 (l0 :: some (.ref x) :: lt) (.ref x :: st) σ Q := X_aloadn kL_law_229 rfl rfl
theorem sL_law_229n {d : Nat} {σ : aS} {Q : aQ} {l0 : Option Value} {lt : aL} {st : List Value} : aX d iL_law 229 (l0 :: some .null :: lt) (st) σ Q ↔ aX d iL_law 230 (l0 :: some .null :: lt) (.null :: st) σ Q := X_aloadn kL_law_229 rfl rfl
theorem kL_law_230 : aCode iL_law 230 = some (.aload_n 0, 1) := by decide +kernel
theorem sL_law_230 {d : Nat} {σ : aS} {Q : aQ} {x : Nat} {lt : aL} {st : List Value} : aX d iL_law 230 (some (.ref x) :: lt) (st) σ Q ↔ aX d iL_law 231 (some (.ref x) :: lt) (.ref x :: st) σ Q := X_aloadn kL_law_230 rfl rfl
theorem kL_law_231 : aCode iL_law 231 = some (.iload_n 3, 1) := by decide +kernel
theorem sL_law_231 {d : Nat} {σ : aS} {Q : aQ} {l0 l1 l2 : Option Value} {x : Int32} {lt : aL} {st : List Value} : aX d iL_law 231 (l0 :: l1 :: l2 :: some (.int x) :: lt) (st) σ Q ↔ aX d iL_law 232 (l0 :: l1 :: l2 :: some (.int x) :: lt) (.int x :: st) σ Q := X_iloadn kL_law_231 rfl
theorem kL_law_232 : aCode iL_law 232 = some (.iconst 1, 1) := by decide +kernel
theorem sL_law_232 {d : Nat} {σ : aS} {Q : aQ} {ls : aL} {st : List Value} : aX d iL_law 232 (ls) (st) σ Q ↔ aX d iL_law 233 (ls) (.int (nI 1) :: st) σ Q := X_iconst kL_law_232 (by decide +kernel)
theorem kL_law_233 : aCode iL_law 233 = some (.iadd, 1) := by decide +kernel
theorem sL_law_233 {d : Nat} {σ : aS} {Q : aQ} {x y : Int32} {ls : aL} {st : List Value} : aX d iL_law 233 (ls) (.int y :: .int x :: st) σ Q ↔ aX d iL_law 234 (ls) (.int (x + y) :: st) σ Q := X_iadd kL_law_233
theorem kL_law_234 : aCode iL_law 234 = some (.iaload, 1) := by decide +kernel
theorem sL_law_234 {d : Nat} {σ : aS} {Q : aQ} {a : Nat} {i : Int32} {ls : aL} {st : List Value} : aX d iL_law 234 (ls) (.int i :: .ref a :: st) σ Q ↔ ∃ x, aRowR σ a = some x ∧ vp_in i x.1 ∧ aX d iL_law 235 (ls) (.int (x.2 i.toNatClampNeg) :: st) σ Q := X_iaload kL_law_234
theorem kL_law_235 : aCode iL_law 235 = some (.aload_n 0, 1) := by decide +kernel
theorem sL_law_235 {d : Nat} {σ : aS} {Q : aQ} {x : Nat} {lt : aL} {st : List Value} : aX d iL_law 235 (some (.ref x) :: lt) (st) σ Q ↔ aX d iL_law 236 (some (.ref x) :: lt) (.ref x :: st) σ Q := X_aloadn kL_law_235 rfl rfl
theorem kL_law_236 : aCode iL_law 236 = some (.iload_n 3, 1) := by decide +kernel
theorem sL_law_236 {d : Nat} {σ : aS} {Q : aQ} {l0 l1 l2 : Option Value} {x : Int32} {lt : aL} {st : List Value} : aX d iL_law 236 (l0 :: l1 :: l2 :: some (.int x) :: lt) (st) σ Q ↔ aX d iL_law 237 (l0 :: l1 :: l2 :: some (.int x) :: lt) (.int x :: st) σ Q := X_iloadn kL_law_236 rfl
theorem kL_law_237 : aCode iL_law 237 = some (.iconst 2, 1) := by decide +kernel
theorem sL_law_237 {d : Nat} {σ : aS} {Q : aQ} {ls : aL} {st : List Value} : aX d iL_law 237 (ls) (st) σ Q ↔ aX d iL_law 238 (ls) (.int (nI 2) :: st) σ Q := X_iconst kL_law_237 (by decide +kernel)
theorem kL_law_238 : aCode iL_law 238 = some (.iadd, 1) := by decide +kernel
theorem sL_law_238 {d : Nat} {σ : aS} {Q : aQ} {x y : Int32} {ls : aL} {st : List Value} : aX d iL_law 238 (ls) (.int y :: .int x :: st) σ Q ↔ aX d iL_law 239 (ls) (.int (x + y) :: st) σ Q := X_iadd kL_law_238
theorem kL_law_239 : aCode iL_law 239 = some (.iaload, 1) := by decide +kernel
theorem sL_law_239 {d : Nat} {σ : aS} {Q : aQ} {a : Nat} {i : Int32} {ls : aL} {st : List Value} : aX d iL_law 239 (ls) (.int i :: .ref a :: st) σ Q ↔ ∃ x, aRowR σ a = some x ∧ vp_in i x.1 ∧ aX d iL_law 240 (ls) (.int (x.2 i.toNatClampNeg) :: st) σ Q := X_iaload kL_law_239
theorem kL_law_240 : aCode iL_law 240 = some (.invokevirtual 27, 3) := by decide +kernel
theorem sL_law_240 {d : Nat} {σ : aS} {Q : aQ} {b : Nat} {p0 : Int32} {p1 : Int32} {ls : aL} : aX (d + 1) iL_law 240 (ls) (.int p1 :: .int p0 :: .ref b :: []) σ Q ↔ aIs σ b 6 ∧ aX d iX6_begin 0 [some (.ref b), some (.int p0), some (.int p1)] [] σ (fun r τ => aX (d + 1) iL_law 243 (ls) (aret r ([])) τ Q) := X_invv (N := 2) (As := [.int p1, .int p0]) (w := 333) kL_law_240 (by decide +kernel) (by decide +kernel) rfl rfl (by simp only [List.length_cons, List.length_nil]; omega) (by simp only [List.length_cons, List.length_nil]; omega) (by decide +kernel) rfl (Nat.le_of_ble_eq_true rfl)
theorem kL_law_243 : aCode iL_law 243 = some (.aload_n 2, 1) := by decide +kernel
theorem sL_law_243 {d : Nat} {σ : aS} {Q : aQ} {l0 l1 : Option Value} {x : Nat} {lt : aL} {st : List Value} : aX d iL_law 243 (l0 :: l1 :: some (.ref x) :: lt) (st) σ Q ↔ aX d iL_law 244 (l0 :: l1 :: some (.ref x) :: lt) (.ref x :: st) σ Q := X_aloadn kL_law_243 rfl rfl
theorem sL_law_243n {d : Nat} {σ : aS} {Q : aQ} {l0 l1 : Option Value} {lt : aL} {st : List Value} : aX d iL_law 243 (l0 :: l1 :: some .null :: lt) (st) σ Q ↔ aX d iL_law 244 (l0 :: l1 :: some .null :: lt) (.null :: st) σ Q := X_aloadn kL_law_243 rfl rfl
theorem kL_law_244 : aCode iL_law 244 = some (.aload_n 0, 1) := by decide +kernel
theorem sL_law_244 {d : Nat} {σ : aS} {Q : aQ} {x : Nat} {lt : aL} {st : List Value} : aX d iL_law 244 (some (.ref x) :: lt) (st) σ Q ↔ aX d iL_law 245 (some (.ref x) :: lt) (.ref x :: st) σ Q := X_aloadn kL_law_244 rfl rfl
theorem kL_law_245 : aCode iL_law 245 = some (.iload_n 3, 1) := by decide +kernel
theorem sL_law_245 {d : Nat} {σ : aS} {Q : aQ} {l0 l1 l2 : Option Value} {x : Int32} {lt : aL} {st : List Value} : aX d iL_law 245 (l0 :: l1 :: l2 :: some (.int x) :: lt) (st) σ Q ↔ aX d iL_law 246 (l0 :: l1 :: l2 :: some (.int x) :: lt) (.int x :: st) σ Q := X_iloadn kL_law_245 rfl
theorem kL_law_246 : aCode iL_law 246 = some (.iconst 1, 1) := by decide +kernel
theorem sL_law_246 {d : Nat} {σ : aS} {Q : aQ} {ls : aL} {st : List Value} : aX d iL_law 246 (ls) (st) σ Q ↔ aX d iL_law 247 (ls) (.int (nI 1) :: st) σ Q := X_iconst kL_law_246 (by decide +kernel)
theorem kL_law_247 : aCode iL_law 247 = some (.iadd, 1) := by decide +kernel
theorem sL_law_247 {d : Nat} {σ : aS} {Q : aQ} {x y : Int32} {ls : aL} {st : List Value} : aX d iL_law 247 (ls) (.int y :: .int x :: st) σ Q ↔ aX d iL_law 248 (ls) (.int (x + y) :: st) σ Q := X_iadd kL_law_247
theorem kL_law_248 : aCode iL_law 248 = some (.iaload, 1) := by decide +kernel
theorem sL_law_248 {d : Nat} {σ : aS} {Q : aQ} {a : Nat} {i : Int32} {ls : aL} {st : List Value} : aX d iL_law 248 (ls) (.int i :: .ref a :: st) σ Q ↔ ∃ x, aRowR σ a = some x ∧ vp_in i x.1 ∧ aX d iL_law 249 (ls) (.int (x.2 i.toNatClampNeg) :: st) σ Q := X_iaload kL_law_248
theorem kL_law_249 : aCode iL_law 249 = some (.aload_n 0, 1) := by decide +kernel
theorem sL_law_249 {d : Nat} {σ : aS} {Q : aQ} {x : Nat} {lt : aL} {st : List Value} : aX d iL_law 249 (some (.ref x) :: lt) (st) σ Q ↔ aX d iL_law 250 (some (.ref x) :: lt) (.ref x :: st) σ Q := X_aloadn kL_law_249 rfl rfl
theorem kL_law_250 : aCode iL_law 250 = some (.iload_n 3, 1) := by decide +kernel
theorem sL_law_250 {d : Nat} {σ : aS} {Q : aQ} {l0 l1 l2 : Option Value} {x : Int32} {lt : aL} {st : List Value} : aX d iL_law 250 (l0 :: l1 :: l2 :: some (.int x) :: lt) (st) σ Q ↔ aX d iL_law 251 (l0 :: l1 :: l2 :: some (.int x) :: lt) (.int x :: st) σ Q := X_iloadn kL_law_250 rfl
theorem kL_law_251 : aCode iL_law 251 = some (.iconst 2, 1) := by decide +kernel
theorem sL_law_251 {d : Nat} {σ : aS} {Q : aQ} {ls : aL} {st : List Value} : aX d iL_law 251 (ls) (st) σ Q ↔ aX d iL_law 252 (ls) (.int (nI 2) :: st) σ Q := X_iconst kL_law_251 (by decide +kernel)
theorem kL_law_252 : aCode iL_law 252 = some (.iadd, 1) := by decide +kernel
theorem sL_law_252 {d : Nat} {σ : aS} {Q : aQ} {x y : Int32} {ls : aL} {st : List Value} : aX d iL_law 252 (ls) (.int y :: .int x :: st) σ Q ↔ aX d iL_law 253 (ls) (.int (x + y) :: st) σ Q := X_iadd kL_law_252
theorem kL_law_253 : aCode iL_law 253 = some (.iaload, 1) := by decide +kernel
theorem sL_law_253 {d : Nat} {σ : aS} {Q : aQ} {a : Nat} {i : Int32} {ls : aL} {st : List Value} : aX d iL_law 253 (ls) (.int i :: .ref a :: st) σ Q ↔ ∃ x, aRowR σ a = some x ∧ vp_in i x.1 ∧ aX d iL_law 254 (ls) (.int (x.2 i.toNatClampNeg) :: st) σ Q := X_iaload kL_law_253
theorem kL_law_254 : aCode iL_law 254 = some (.invokevirtual 30, 3) := by decide +kernel
theorem sL_law_254 {d : Nat} {σ : aS} {Q : aQ} {b : Nat} {p0 : Int32} {p1 : Int32} {v0 : Value} {ls : aL} : aX (d + 1) iL_law 254 (ls) (.int p1 :: .int p0 :: .ref b :: v0 :: []) σ Q ↔ aIs σ b 7 ∧ aX d iX7_begin 0 [some (.ref b), some (.int p0), some (.int p1), none] [] σ (fun r τ => aX (d + 1) iL_law 257 (ls) (aret r (v0 :: [])) τ Q) := X_invv (N := 2) (As := [.int p1, .int p0]) (w := 738) kL_law_254 (by decide +kernel) (by decide +kernel) rfl rfl (by simp only [List.length_cons, List.length_nil]; omega) (by simp only [List.length_cons, List.length_nil]; omega) (by decide +kernel) rfl (Nat.le_of_ble_eq_true rfl)
theorem kL_law_257 : aCode iL_law 257 = some (.if_icmp .eq 482, 3) := by decide +kernel
theorem sL_law_257 {d : Nat} {σ : aS} {Q : aQ} {x y : Int32} {ls : aL} {st : List Value} : aX d iL_law 257 (ls) (.int y :: .int x :: st) σ Q ↔ (if x = y then aX d iL_law 739 (ls) (st) σ Q else aX d iL_law 260 (ls) (st) σ Q) := by rw [X_icmp kL_law_257 (t := 739) (by decide)]; simp only [aCmp_eq]
theorem kL_law_260 : aCode iL_law 260 = some (.iconst 0, 1) := by decide +kernel
theorem sL_law_260 {d : Nat} {σ : aS} {Q : aQ} {ls : aL} {st : List Value} : aX d iL_law 260 (ls) (st) σ Q ↔ aX d iL_law 261 (ls) (.int (nI 0) :: st) σ Q := X_iconst kL_law_260 (by decide +kernel)
theorem kL_law_261 : aCode iL_law 261 = some (.ireturn, 1) := by decide +kernel
theorem sL_law_261 {d : Nat} {σ : aS} {Q : aQ} {v : Int32} {ls : aL} : aX d iL_law 261 (ls) ([.int v]) σ Q ↔ (narrow .boolean (.int v) = .int v ∧ Q (some (.int v)) σ) := X_zret kL_law_261 (by decide +kernel)
theorem kL_law_262 : aCode iL_law 262 = some (.aload_n 1, 1) := by decide +kernel
theorem sL_law_262 {d : Nat} {σ : aS} {Q : aQ} {l0 : Option Value} {x : Nat} {lt : aL} {st : List Value} : aX d iL_law 262 (l0 :: some (.ref x) :: lt) (st) σ Q ↔ aX d iL_law 263 (l0 :: some (.ref x) :: lt) (.ref x :: st) σ Q := X_aloadn kL_law_262 rfl rfl
theorem sL_law_262n {d : Nat} {σ : aS} {Q : aQ} {l0 : Option Value} {lt : aL} {st : List Value} : aX d iL_law 262 (l0 :: some .null :: lt) (st) σ Q ↔ aX d iL_law 263 (l0 :: some .null :: lt) (.null :: st) σ Q := X_aloadn kL_law_262 rfl rfl
theorem kL_law_263 : aCode iL_law 263 = some (.aload_n 0, 1) := by decide +kernel
theorem sL_law_263 {d : Nat} {σ : aS} {Q : aQ} {x : Nat} {lt : aL} {st : List Value} : aX d iL_law 263 (some (.ref x) :: lt) (st) σ Q ↔ aX d iL_law 264 (some (.ref x) :: lt) (.ref x :: st) σ Q := X_aloadn kL_law_263 rfl rfl
theorem kL_law_264 : aCode iL_law 264 = some (.iload_n 3, 1) := by decide +kernel
theorem sL_law_264 {d : Nat} {σ : aS} {Q : aQ} {l0 l1 l2 : Option Value} {x : Int32} {lt : aL} {st : List Value} : aX d iL_law 264 (l0 :: l1 :: l2 :: some (.int x) :: lt) (st) σ Q ↔ aX d iL_law 265 (l0 :: l1 :: l2 :: some (.int x) :: lt) (.int x :: st) σ Q := X_iloadn kL_law_264 rfl
theorem kL_law_265 : aCode iL_law 265 = some (.iconst 1, 1) := by decide +kernel
theorem sL_law_265 {d : Nat} {σ : aS} {Q : aQ} {ls : aL} {st : List Value} : aX d iL_law 265 (ls) (st) σ Q ↔ aX d iL_law 266 (ls) (.int (nI 1) :: st) σ Q := X_iconst kL_law_265 (by decide +kernel)
theorem kL_law_266 : aCode iL_law 266 = some (.iadd, 1) := by decide +kernel
theorem sL_law_266 {d : Nat} {σ : aS} {Q : aQ} {x y : Int32} {ls : aL} {st : List Value} : aX d iL_law 266 (ls) (.int y :: .int x :: st) σ Q ↔ aX d iL_law 267 (ls) (.int (x + y) :: st) σ Q := X_iadd kL_law_266
theorem kL_law_267 : aCode iL_law 267 = some (.iaload, 1) := by decide +kernel
theorem sL_law_267 {d : Nat} {σ : aS} {Q : aQ} {a : Nat} {i : Int32} {ls : aL} {st : List Value} : aX d iL_law 267 (ls) (.int i :: .ref a :: st) σ Q ↔ ∃ x, aRowR σ a = some x ∧ vp_in i x.1 ∧ aX d iL_law 268 (ls) (.int (x.2 i.toNatClampNeg) :: st) σ Q := X_iaload kL_law_267
theorem kL_law_268 : aCode iL_law 268 = some (.aload_n 0, 1) := by decide +kernel
theorem sL_law_268 {d : Nat} {σ : aS} {Q : aQ} {x : Nat} {lt : aL} {st : List Value} : aX d iL_law 268 (some (.ref x) :: lt) (st) σ Q ↔ aX d iL_law 269 (some (.ref x) :: lt) (.ref x :: st) σ Q := X_aloadn kL_law_268 rfl rfl
theorem kL_law_269 : aCode iL_law 269 = some (.iload_n 3, 1) := by decide +kernel
theorem sL_law_269 {d : Nat} {σ : aS} {Q : aQ} {l0 l1 l2 : Option Value} {x : Int32} {lt : aL} {st : List Value} : aX d iL_law 269 (l0 :: l1 :: l2 :: some (.int x) :: lt) (st) σ Q ↔ aX d iL_law 270 (l0 :: l1 :: l2 :: some (.int x) :: lt) (.int x :: st) σ Q := X_iloadn kL_law_269 rfl
theorem kL_law_270 : aCode iL_law 270 = some (.iconst 2, 1) := by decide +kernel
theorem sL_law_270 {d : Nat} {σ : aS} {Q : aQ} {ls : aL} {st : List Value} : aX d iL_law 270 (ls) (st) σ Q ↔ aX d iL_law 271 (ls) (.int (nI 2) :: st) σ Q := X_iconst kL_law_270 (by decide +kernel)
theorem kL_law_271 : aCode iL_law 271 = some (.iadd, 1) := by decide +kernel
theorem sL_law_271 {d : Nat} {σ : aS} {Q : aQ} {x y : Int32} {ls : aL} {st : List Value} : aX d iL_law 271 (ls) (.int y :: .int x :: st) σ Q ↔ aX d iL_law 272 (ls) (.int (x + y) :: st) σ Q := X_iadd kL_law_271
theorem kL_law_272 : aCode iL_law 272 = some (.iaload, 1) := by decide +kernel
theorem sL_law_272 {d : Nat} {σ : aS} {Q : aQ} {a : Nat} {i : Int32} {ls : aL} {st : List Value} : aX d iL_law 272 (ls) (.int i :: .ref a :: st) σ Q ↔ ∃ x, aRowR σ a = some x ∧ vp_in i x.1 ∧ aX d iL_law 273 (ls) (.int (x.2 i.toNatClampNeg) :: st) σ Q := X_iaload kL_law_272
theorem kL_law_273 : aCode iL_law 273 = some (.invokevirtual 31, 3) := by decide +kernel
theorem sL_law_273 {d : Nat} {σ : aS} {Q : aQ} {b : Nat} {p0 : Int32} {p1 : Int32} {ls : aL} : aX (d + 1) iL_law 273 (ls) (.int p1 :: .int p0 :: .ref b :: []) σ Q ↔ aIs σ b 6 ∧ aX d iX6_tell 0 [some (.ref b), some (.int p0), some (.int p1)] [] σ (fun r τ => aX (d + 1) iL_law 276 (ls) (aret r ([])) τ Q) := X_invv (N := 2) (As := [.int p1, .int p0]) (w := 362) kL_law_273 (by decide +kernel) (by decide +kernel) rfl rfl (by simp only [List.length_cons, List.length_nil]; omega) (by simp only [List.length_cons, List.length_nil]; omega) (by decide +kernel) rfl (Nat.le_of_ble_eq_true rfl)
theorem kL_law_276 : aCode iL_law 276 = some (.aload_n 2, 1) := by decide +kernel
theorem sL_law_276 {d : Nat} {σ : aS} {Q : aQ} {l0 l1 : Option Value} {x : Nat} {lt : aL} {st : List Value} : aX d iL_law 276 (l0 :: l1 :: some (.ref x) :: lt) (st) σ Q ↔ aX d iL_law 277 (l0 :: l1 :: some (.ref x) :: lt) (.ref x :: st) σ Q := X_aloadn kL_law_276 rfl rfl
theorem sL_law_276n {d : Nat} {σ : aS} {Q : aQ} {l0 l1 : Option Value} {lt : aL} {st : List Value} : aX d iL_law 276 (l0 :: l1 :: some .null :: lt) (st) σ Q ↔ aX d iL_law 277 (l0 :: l1 :: some .null :: lt) (.null :: st) σ Q := X_aloadn kL_law_276 rfl rfl
theorem kL_law_277 : aCode iL_law 277 = some (.aload_n 0, 1) := by decide +kernel
theorem sL_law_277 {d : Nat} {σ : aS} {Q : aQ} {x : Nat} {lt : aL} {st : List Value} : aX d iL_law 277 (some (.ref x) :: lt) (st) σ Q ↔ aX d iL_law 278 (some (.ref x) :: lt) (.ref x :: st) σ Q := X_aloadn kL_law_277 rfl rfl
theorem kL_law_278 : aCode iL_law 278 = some (.iload_n 3, 1) := by decide +kernel
theorem sL_law_278 {d : Nat} {σ : aS} {Q : aQ} {l0 l1 l2 : Option Value} {x : Int32} {lt : aL} {st : List Value} : aX d iL_law 278 (l0 :: l1 :: l2 :: some (.int x) :: lt) (st) σ Q ↔ aX d iL_law 279 (l0 :: l1 :: l2 :: some (.int x) :: lt) (.int x :: st) σ Q := X_iloadn kL_law_278 rfl
theorem kL_law_279 : aCode iL_law 279 = some (.iconst 1, 1) := by decide +kernel
theorem sL_law_279 {d : Nat} {σ : aS} {Q : aQ} {ls : aL} {st : List Value} : aX d iL_law 279 (ls) (st) σ Q ↔ aX d iL_law 280 (ls) (.int (nI 1) :: st) σ Q := X_iconst kL_law_279 (by decide +kernel)
theorem kL_law_280 : aCode iL_law 280 = some (.iadd, 1) := by decide +kernel
theorem sL_law_280 {d : Nat} {σ : aS} {Q : aQ} {x y : Int32} {ls : aL} {st : List Value} : aX d iL_law 280 (ls) (.int y :: .int x :: st) σ Q ↔ aX d iL_law 281 (ls) (.int (x + y) :: st) σ Q := X_iadd kL_law_280
theorem kL_law_281 : aCode iL_law 281 = some (.iaload, 1) := by decide +kernel
theorem sL_law_281 {d : Nat} {σ : aS} {Q : aQ} {a : Nat} {i : Int32} {ls : aL} {st : List Value} : aX d iL_law 281 (ls) (.int i :: .ref a :: st) σ Q ↔ ∃ x, aRowR σ a = some x ∧ vp_in i x.1 ∧ aX d iL_law 282 (ls) (.int (x.2 i.toNatClampNeg) :: st) σ Q := X_iaload kL_law_281
theorem kL_law_282 : aCode iL_law 282 = some (.aload_n 0, 1) := by decide +kernel
theorem sL_law_282 {d : Nat} {σ : aS} {Q : aQ} {x : Nat} {lt : aL} {st : List Value} : aX d iL_law 282 (some (.ref x) :: lt) (st) σ Q ↔ aX d iL_law 283 (some (.ref x) :: lt) (.ref x :: st) σ Q := X_aloadn kL_law_282 rfl rfl
theorem kL_law_283 : aCode iL_law 283 = some (.iload_n 3, 1) := by decide +kernel
theorem sL_law_283 {d : Nat} {σ : aS} {Q : aQ} {l0 l1 l2 : Option Value} {x : Int32} {lt : aL} {st : List Value} : aX d iL_law 283 (l0 :: l1 :: l2 :: some (.int x) :: lt) (st) σ Q ↔ aX d iL_law 284 (l0 :: l1 :: l2 :: some (.int x) :: lt) (.int x :: st) σ Q := X_iloadn kL_law_283 rfl
theorem kL_law_284 : aCode iL_law 284 = some (.iconst 2, 1) := by decide +kernel
theorem sL_law_284 {d : Nat} {σ : aS} {Q : aQ} {ls : aL} {st : List Value} : aX d iL_law 284 (ls) (st) σ Q ↔ aX d iL_law 285 (ls) (.int (nI 2) :: st) σ Q := X_iconst kL_law_284 (by decide +kernel)
theorem kL_law_285 : aCode iL_law 285 = some (.iadd, 1) := by decide +kernel
theorem sL_law_285 {d : Nat} {σ : aS} {Q : aQ} {x y : Int32} {ls : aL} {st : List Value} : aX d iL_law 285 (ls) (.int y :: .int x :: st) σ Q ↔ aX d iL_law 286 (ls) (.int (x + y) :: st) σ Q := X_iadd kL_law_285
theorem kL_law_286 : aCode iL_law 286 = some (.iaload, 1) := by decide +kernel
theorem sL_law_286 {d : Nat} {σ : aS} {Q : aQ} {a : Nat} {i : Int32} {ls : aL} {st : List Value} : aX d iL_law 286 (ls) (.int i :: .ref a :: st) σ Q ↔ ∃ x, aRowR σ a = some x ∧ vp_in i x.1 ∧ aX d iL_law 287 (ls) (.int (x.2 i.toNatClampNeg) :: st) σ Q := X_iaload kL_law_286
theorem kL_law_287 : aCode iL_law 287 = some (.invokevirtual 34, 3) := by decide +kernel
theorem sL_law_287 {d : Nat} {σ : aS} {Q : aQ} {b : Nat} {p0 : Int32} {p1 : Int32} {v0 : Value} {ls : aL} : aX (d + 1) iL_law 287 (ls) (.int p1 :: .int p0 :: .ref b :: v0 :: []) σ Q ↔ aIs σ b 7 ∧ aX d iX7_tell 0 [some (.ref b), some (.int p0), some (.int p1), none] [] σ (fun r τ => aX (d + 1) iL_law 290 (ls) (aret r (v0 :: [])) τ Q) := X_invv (N := 2) (As := [.int p1, .int p0]) (w := 774) kL_law_287 (by decide +kernel) (by decide +kernel) rfl rfl (by simp only [List.length_cons, List.length_nil]; omega) (by simp only [List.length_cons, List.length_nil]; omega) (by decide +kernel) rfl (Nat.le_of_ble_eq_true rfl)
theorem kL_law_290 : aCode iL_law 290 = some (.if_icmp .eq 449, 3) := by decide +kernel
theorem sL_law_290 {d : Nat} {σ : aS} {Q : aQ} {x y : Int32} {ls : aL} {st : List Value} : aX d iL_law 290 (ls) (.int y :: .int x :: st) σ Q ↔ (if x = y then aX d iL_law 739 (ls) (st) σ Q else aX d iL_law 293 (ls) (st) σ Q) := by rw [X_icmp kL_law_290 (t := 739) (by decide)]; simp only [aCmp_eq]
theorem kL_law_293 : aCode iL_law 293 = some (.iconst 0, 1) := by decide +kernel
theorem sL_law_293 {d : Nat} {σ : aS} {Q : aQ} {ls : aL} {st : List Value} : aX d iL_law 293 (ls) (st) σ Q ↔ aX d iL_law 294 (ls) (.int (nI 0) :: st) σ Q := X_iconst kL_law_293 (by decide +kernel)
theorem kL_law_294 : aCode iL_law 294 = some (.ireturn, 1) := by decide +kernel
theorem sL_law_294 {d : Nat} {σ : aS} {Q : aQ} {v : Int32} {ls : aL} : aX d iL_law 294 (ls) ([.int v]) σ Q ↔ (narrow .boolean (.int v) = .int v ∧ Q (some (.int v)) σ) := X_zret kL_law_294 (by decide +kernel)
theorem kL_law_295 : aCode iL_law 295 = some (.aload_n 1, 1) := by decide +kernel
theorem sL_law_295 {d : Nat} {σ : aS} {Q : aQ} {l0 : Option Value} {x : Nat} {lt : aL} {st : List Value} : aX d iL_law 295 (l0 :: some (.ref x) :: lt) (st) σ Q ↔ aX d iL_law 296 (l0 :: some (.ref x) :: lt) (.ref x :: st) σ Q := X_aloadn kL_law_295 rfl rfl
theorem sL_law_295n {d : Nat} {σ : aS} {Q : aQ} {l0 : Option Value} {lt : aL} {st : List Value} : aX d iL_law 295 (l0 :: some .null :: lt) (st) σ Q ↔ aX d iL_law 296 (l0 :: some .null :: lt) (.null :: st) σ Q := X_aloadn kL_law_295 rfl rfl
theorem kL_law_296 : aCode iL_law 296 = some (.invokevirtual 35, 3) := by decide +kernel
theorem sL_law_296 {d : Nat} {σ : aS} {Q : aQ} {b : Nat} {ls : aL} : aX (d + 1) iL_law 296 (ls) (.ref b :: []) σ Q ↔ aIs σ b 6 ∧ aX d iX6_round 0 [some (.ref b)] [] σ (fun r τ => aX (d + 1) iL_law 299 (ls) (aret r ([])) τ Q) := X_invv (N := 0) (As := []) (w := 374) kL_law_296 (by decide +kernel) (by decide +kernel) rfl rfl (by simp only [List.length_cons, List.length_nil]; omega) (by simp only [List.length_cons, List.length_nil]; omega) (by decide +kernel) rfl (Nat.le_of_ble_eq_true rfl)
theorem kL_law_299 : aCode iL_law 299 = some (.aload_n 2, 1) := by decide +kernel
theorem sL_law_299 {d : Nat} {σ : aS} {Q : aQ} {l0 l1 : Option Value} {x : Nat} {lt : aL} {st : List Value} : aX d iL_law 299 (l0 :: l1 :: some (.ref x) :: lt) (st) σ Q ↔ aX d iL_law 300 (l0 :: l1 :: some (.ref x) :: lt) (.ref x :: st) σ Q := X_aloadn kL_law_299 rfl rfl
theorem sL_law_299n {d : Nat} {σ : aS} {Q : aQ} {l0 l1 : Option Value} {lt : aL} {st : List Value} : aX d iL_law 299 (l0 :: l1 :: some .null :: lt) (st) σ Q ↔ aX d iL_law 300 (l0 :: l1 :: some .null :: lt) (.null :: st) σ Q := X_aloadn kL_law_299 rfl rfl
theorem kL_law_300 : aCode iL_law 300 = some (.invokevirtual 39, 3) := by decide +kernel
theorem sL_law_300 {d : Nat} {σ : aS} {Q : aQ} {b : Nat} {v0 : Value} {ls : aL} : aX (d + 1) iL_law 300 (ls) (.ref b :: v0 :: []) σ Q ↔ aIs σ b 7 ∧ aX d iX7_round 0 [some (.ref b)] [] σ (fun r τ => aX (d + 1) iL_law 303 (ls) (aret r (v0 :: [])) τ Q) := X_invv (N := 0) (As := []) (w := 790) kL_law_300 (by decide +kernel) (by decide +kernel) rfl rfl (by simp only [List.length_cons, List.length_nil]; omega) (by simp only [List.length_cons, List.length_nil]; omega) (by decide +kernel) rfl (Nat.le_of_ble_eq_true rfl)
theorem kL_law_303 : aCode iL_law 303 = some (.if_icmp .eq 436, 3) := by decide +kernel
theorem sL_law_303 {d : Nat} {σ : aS} {Q : aQ} {x y : Int32} {ls : aL} {st : List Value} : aX d iL_law 303 (ls) (.int y :: .int x :: st) σ Q ↔ (if x = y then aX d iL_law 739 (ls) (st) σ Q else aX d iL_law 306 (ls) (st) σ Q) := by rw [X_icmp kL_law_303 (t := 739) (by decide)]; simp only [aCmp_eq]
theorem kL_law_306 : aCode iL_law 306 = some (.iconst 0, 1) := by decide +kernel
theorem sL_law_306 {d : Nat} {σ : aS} {Q : aQ} {ls : aL} {st : List Value} : aX d iL_law 306 (ls) (st) σ Q ↔ aX d iL_law 307 (ls) (.int (nI 0) :: st) σ Q := X_iconst kL_law_306 (by decide +kernel)
theorem kL_law_307 : aCode iL_law 307 = some (.ireturn, 1) := by decide +kernel
theorem sL_law_307 {d : Nat} {σ : aS} {Q : aQ} {v : Int32} {ls : aL} : aX d iL_law 307 (ls) ([.int v]) σ Q ↔ (narrow .boolean (.int v) = .int v ∧ Q (some (.int v)) σ) := X_zret kL_law_307 (by decide +kernel)
theorem kL_law_308 : aCode iL_law 308 = some (.aload_n 1, 1) := by decide +kernel
theorem sL_law_308 {d : Nat} {σ : aS} {Q : aQ} {l0 : Option Value} {x : Nat} {lt : aL} {st : List Value} : aX d iL_law 308 (l0 :: some (.ref x) :: lt) (st) σ Q ↔ aX d iL_law 309 (l0 :: some (.ref x) :: lt) (.ref x :: st) σ Q := X_aloadn kL_law_308 rfl rfl
theorem sL_law_308n {d : Nat} {σ : aS} {Q : aQ} {l0 : Option Value} {lt : aL} {st : List Value} : aX d iL_law 308 (l0 :: some .null :: lt) (st) σ Q ↔ aX d iL_law 309 (l0 :: some .null :: lt) (.null :: st) σ Q := X_aloadn kL_law_308 rfl rfl
theorem kL_law_309 : aCode iL_law 309 = some (.invokevirtual 40, 3) := by decide +kernel
theorem sL_law_309 {d : Nat} {σ : aS} {Q : aQ} {b : Nat} {ls : aL} : aX (d + 1) iL_law 309 (ls) (.ref b :: []) σ Q ↔ aIs σ b 6 ∧ aX d iX6_clear 0 [some (.ref b)] [] σ (fun r τ => aX (d + 1) iL_law 312 (ls) (aret r ([])) τ Q) := X_invv (N := 0) (As := []) (w := 445) kL_law_309 (by decide +kernel) (by decide +kernel) rfl rfl (by simp only [List.length_cons, List.length_nil]; omega) (by simp only [List.length_cons, List.length_nil]; omega) (by decide +kernel) rfl (Nat.le_of_ble_eq_true rfl)
theorem kL_law_312 : aCode iL_law 312 = some (.aload_n 2, 1) := by decide +kernel
theorem sL_law_312 {d : Nat} {σ : aS} {Q : aQ} {l0 l1 : Option Value} {x : Nat} {lt : aL} {st : List Value} : aX d iL_law 312 (l0 :: l1 :: some (.ref x) :: lt) (st) σ Q ↔ aX d iL_law 313 (l0 :: l1 :: some (.ref x) :: lt) (.ref x :: st) σ Q := X_aloadn kL_law_312 rfl rfl
theorem sL_law_312n {d : Nat} {σ : aS} {Q : aQ} {l0 l1 : Option Value} {lt : aL} {st : List Value} : aX d iL_law 312 (l0 :: l1 :: some .null :: lt) (st) σ Q ↔ aX d iL_law 313 (l0 :: l1 :: some .null :: lt) (.null :: st) σ Q := X_aloadn kL_law_312 rfl rfl
theorem kL_law_313 : aCode iL_law 313 = some (.invokevirtual 43, 3) := by decide +kernel
theorem sL_law_313 {d : Nat} {σ : aS} {Q : aQ} {b : Nat} {v0 : Value} {ls : aL} : aX (d + 1) iL_law 313 (ls) (.ref b :: v0 :: []) σ Q ↔ aIs σ b 7 ∧ aX d iX7_clear 0 [some (.ref b)] [] σ (fun r τ => aX (d + 1) iL_law 316 (ls) (aret r (v0 :: [])) τ Q) := X_invv (N := 0) (As := []) (w := 846) kL_law_313 (by decide +kernel) (by decide +kernel) rfl rfl (by simp only [List.length_cons, List.length_nil]; omega) (by simp only [List.length_cons, List.length_nil]; omega) (by decide +kernel) rfl (Nat.le_of_ble_eq_true rfl)
theorem kL_law_316 : aCode iL_law 316 = some (.if_icmp .eq 423, 3) := by decide +kernel
theorem sL_law_316 {d : Nat} {σ : aS} {Q : aQ} {x y : Int32} {ls : aL} {st : List Value} : aX d iL_law 316 (ls) (.int y :: .int x :: st) σ Q ↔ (if x = y then aX d iL_law 739 (ls) (st) σ Q else aX d iL_law 319 (ls) (st) σ Q) := by rw [X_icmp kL_law_316 (t := 739) (by decide)]; simp only [aCmp_eq]
theorem kL_law_319 : aCode iL_law 319 = some (.iconst 0, 1) := by decide +kernel
theorem sL_law_319 {d : Nat} {σ : aS} {Q : aQ} {ls : aL} {st : List Value} : aX d iL_law 319 (ls) (st) σ Q ↔ aX d iL_law 320 (ls) (.int (nI 0) :: st) σ Q := X_iconst kL_law_319 (by decide +kernel)
theorem kL_law_320 : aCode iL_law 320 = some (.ireturn, 1) := by decide +kernel
theorem sL_law_320 {d : Nat} {σ : aS} {Q : aQ} {v : Int32} {ls : aL} : aX d iL_law 320 (ls) ([.int v]) σ Q ↔ (narrow .boolean (.int v) = .int v ∧ Q (some (.int v)) σ) := X_zret kL_law_320 (by decide +kernel)
theorem kL_law_321 : aCode iL_law 321 = some (.aload_n 1, 1) := by decide +kernel
theorem sL_law_321 {d : Nat} {σ : aS} {Q : aQ} {l0 : Option Value} {x : Nat} {lt : aL} {st : List Value} : aX d iL_law 321 (l0 :: some (.ref x) :: lt) (st) σ Q ↔ aX d iL_law 322 (l0 :: some (.ref x) :: lt) (.ref x :: st) σ Q := X_aloadn kL_law_321 rfl rfl
theorem sL_law_321n {d : Nat} {σ : aS} {Q : aQ} {l0 : Option Value} {lt : aL} {st : List Value} : aX d iL_law 321 (l0 :: some .null :: lt) (st) σ Q ↔ aX d iL_law 322 (l0 :: some .null :: lt) (.null :: st) σ Q := X_aloadn kL_law_321 rfl rfl
theorem kL_law_322 : aCode iL_law 322 = some (.aload_n 0, 1) := by decide +kernel
theorem sL_law_322 {d : Nat} {σ : aS} {Q : aQ} {x : Nat} {lt : aL} {st : List Value} : aX d iL_law 322 (some (.ref x) :: lt) (st) σ Q ↔ aX d iL_law 323 (some (.ref x) :: lt) (.ref x :: st) σ Q := X_aloadn kL_law_322 rfl rfl
theorem kL_law_323 : aCode iL_law 323 = some (.iload_n 3, 1) := by decide +kernel
theorem sL_law_323 {d : Nat} {σ : aS} {Q : aQ} {l0 l1 l2 : Option Value} {x : Int32} {lt : aL} {st : List Value} : aX d iL_law 323 (l0 :: l1 :: l2 :: some (.int x) :: lt) (st) σ Q ↔ aX d iL_law 324 (l0 :: l1 :: l2 :: some (.int x) :: lt) (.int x :: st) σ Q := X_iloadn kL_law_323 rfl
theorem kL_law_324 : aCode iL_law 324 = some (.iconst 1, 1) := by decide +kernel
theorem sL_law_324 {d : Nat} {σ : aS} {Q : aQ} {ls : aL} {st : List Value} : aX d iL_law 324 (ls) (st) σ Q ↔ aX d iL_law 325 (ls) (.int (nI 1) :: st) σ Q := X_iconst kL_law_324 (by decide +kernel)
theorem kL_law_325 : aCode iL_law 325 = some (.iadd, 1) := by decide +kernel
theorem sL_law_325 {d : Nat} {σ : aS} {Q : aQ} {x y : Int32} {ls : aL} {st : List Value} : aX d iL_law 325 (ls) (.int y :: .int x :: st) σ Q ↔ aX d iL_law 326 (ls) (.int (x + y) :: st) σ Q := X_iadd kL_law_325
theorem kL_law_326 : aCode iL_law 326 = some (.iaload, 1) := by decide +kernel
theorem sL_law_326 {d : Nat} {σ : aS} {Q : aQ} {a : Nat} {i : Int32} {ls : aL} {st : List Value} : aX d iL_law 326 (ls) (.int i :: .ref a :: st) σ Q ↔ ∃ x, aRowR σ a = some x ∧ vp_in i x.1 ∧ aX d iL_law 327 (ls) (.int (x.2 i.toNatClampNeg) :: st) σ Q := X_iaload kL_law_326
theorem kL_law_327 : aCode iL_law 327 = some (.aload_n 0, 1) := by decide +kernel
theorem sL_law_327 {d : Nat} {σ : aS} {Q : aQ} {x : Nat} {lt : aL} {st : List Value} : aX d iL_law 327 (some (.ref x) :: lt) (st) σ Q ↔ aX d iL_law 328 (some (.ref x) :: lt) (.ref x :: st) σ Q := X_aloadn kL_law_327 rfl rfl
theorem kL_law_328 : aCode iL_law 328 = some (.iload_n 3, 1) := by decide +kernel
theorem sL_law_328 {d : Nat} {σ : aS} {Q : aQ} {l0 l1 l2 : Option Value} {x : Int32} {lt : aL} {st : List Value} : aX d iL_law 328 (l0 :: l1 :: l2 :: some (.int x) :: lt) (st) σ Q ↔ aX d iL_law 329 (l0 :: l1 :: l2 :: some (.int x) :: lt) (.int x :: st) σ Q := X_iloadn kL_law_328 rfl
theorem kL_law_329 : aCode iL_law 329 = some (.iconst 2, 1) := by decide +kernel
theorem sL_law_329 {d : Nat} {σ : aS} {Q : aQ} {ls : aL} {st : List Value} : aX d iL_law 329 (ls) (st) σ Q ↔ aX d iL_law 330 (ls) (.int (nI 2) :: st) σ Q := X_iconst kL_law_329 (by decide +kernel)
theorem kL_law_330 : aCode iL_law 330 = some (.iadd, 1) := by decide +kernel
theorem sL_law_330 {d : Nat} {σ : aS} {Q : aQ} {x y : Int32} {ls : aL} {st : List Value} : aX d iL_law 330 (ls) (.int y :: .int x :: st) σ Q ↔ aX d iL_law 331 (ls) (.int (x + y) :: st) σ Q := X_iadd kL_law_330
theorem kL_law_331 : aCode iL_law 331 = some (.iaload, 1) := by decide +kernel
theorem sL_law_331 {d : Nat} {σ : aS} {Q : aQ} {a : Nat} {i : Int32} {ls : aL} {st : List Value} : aX d iL_law 331 (ls) (.int i :: .ref a :: st) σ Q ↔ ∃ x, aRowR σ a = some x ∧ vp_in i x.1 ∧ aX d iL_law 332 (ls) (.int (x.2 i.toNatClampNeg) :: st) σ Q := X_iaload kL_law_331
theorem kL_law_332 : aCode iL_law 332 = some (.invokevirtual 44, 3) := by decide +kernel
theorem sL_law_332 {d : Nat} {σ : aS} {Q : aQ} {b : Nat} {p0 : Int32} {p1 : Int32} {ls : aL} : aX (d + 1) iL_law 332 (ls) (.int p1 :: .int p0 :: .ref b :: []) σ Q ↔ aIs σ b 6 ∧ aX d iX6_of 0 [some (.ref b), some (.int p0), some (.int p1), none] [] σ (fun r τ => aX (d + 1) iL_law 335 (ls) (aret r ([])) τ Q) := X_invv (N := 2) (As := [.int p1, .int p0]) (w := 453) kL_law_332 (by decide +kernel) (by decide +kernel) rfl rfl (by simp only [List.length_cons, List.length_nil]; omega) (by simp only [List.length_cons, List.length_nil]; omega) (by decide +kernel) rfl (Nat.le_of_ble_eq_true rfl)
theorem kL_law_335 : aCode iL_law 335 = some (.aload_n 2, 1) := by decide +kernel
theorem sL_law_335 {d : Nat} {σ : aS} {Q : aQ} {l0 l1 : Option Value} {x : Nat} {lt : aL} {st : List Value} : aX d iL_law 335 (l0 :: l1 :: some (.ref x) :: lt) (st) σ Q ↔ aX d iL_law 336 (l0 :: l1 :: some (.ref x) :: lt) (.ref x :: st) σ Q := X_aloadn kL_law_335 rfl rfl
theorem sL_law_335n {d : Nat} {σ : aS} {Q : aQ} {l0 l1 : Option Value} {lt : aL} {st : List Value} : aX d iL_law 335 (l0 :: l1 :: some .null :: lt) (st) σ Q ↔ aX d iL_law 336 (l0 :: l1 :: some .null :: lt) (.null :: st) σ Q := X_aloadn kL_law_335 rfl rfl
theorem kL_law_336 : aCode iL_law 336 = some (.aload_n 0, 1) := by decide +kernel
theorem sL_law_336 {d : Nat} {σ : aS} {Q : aQ} {x : Nat} {lt : aL} {st : List Value} : aX d iL_law 336 (some (.ref x) :: lt) (st) σ Q ↔ aX d iL_law 337 (some (.ref x) :: lt) (.ref x :: st) σ Q := X_aloadn kL_law_336 rfl rfl
theorem kL_law_337 : aCode iL_law 337 = some (.iload_n 3, 1) := by decide +kernel
theorem sL_law_337 {d : Nat} {σ : aS} {Q : aQ} {l0 l1 l2 : Option Value} {x : Int32} {lt : aL} {st : List Value} : aX d iL_law 337 (l0 :: l1 :: l2 :: some (.int x) :: lt) (st) σ Q ↔ aX d iL_law 338 (l0 :: l1 :: l2 :: some (.int x) :: lt) (.int x :: st) σ Q := X_iloadn kL_law_337 rfl
theorem kL_law_338 : aCode iL_law 338 = some (.iconst 1, 1) := by decide +kernel
theorem sL_law_338 {d : Nat} {σ : aS} {Q : aQ} {ls : aL} {st : List Value} : aX d iL_law 338 (ls) (st) σ Q ↔ aX d iL_law 339 (ls) (.int (nI 1) :: st) σ Q := X_iconst kL_law_338 (by decide +kernel)
theorem kL_law_339 : aCode iL_law 339 = some (.iadd, 1) := by decide +kernel
theorem sL_law_339 {d : Nat} {σ : aS} {Q : aQ} {x y : Int32} {ls : aL} {st : List Value} : aX d iL_law 339 (ls) (.int y :: .int x :: st) σ Q ↔ aX d iL_law 340 (ls) (.int (x + y) :: st) σ Q := X_iadd kL_law_339
theorem kL_law_340 : aCode iL_law 340 = some (.iaload, 1) := by decide +kernel
theorem sL_law_340 {d : Nat} {σ : aS} {Q : aQ} {a : Nat} {i : Int32} {ls : aL} {st : List Value} : aX d iL_law 340 (ls) (.int i :: .ref a :: st) σ Q ↔ ∃ x, aRowR σ a = some x ∧ vp_in i x.1 ∧ aX d iL_law 341 (ls) (.int (x.2 i.toNatClampNeg) :: st) σ Q := X_iaload kL_law_340
theorem kL_law_341 : aCode iL_law 341 = some (.aload_n 0, 1) := by decide +kernel
theorem sL_law_341 {d : Nat} {σ : aS} {Q : aQ} {x : Nat} {lt : aL} {st : List Value} : aX d iL_law 341 (some (.ref x) :: lt) (st) σ Q ↔ aX d iL_law 342 (some (.ref x) :: lt) (.ref x :: st) σ Q := X_aloadn kL_law_341 rfl rfl
theorem kL_law_342 : aCode iL_law 342 = some (.iload_n 3, 1) := by decide +kernel
theorem sL_law_342 {d : Nat} {σ : aS} {Q : aQ} {l0 l1 l2 : Option Value} {x : Int32} {lt : aL} {st : List Value} : aX d iL_law 342 (l0 :: l1 :: l2 :: some (.int x) :: lt) (st) σ Q ↔ aX d iL_law 343 (l0 :: l1 :: l2 :: some (.int x) :: lt) (.int x :: st) σ Q := X_iloadn kL_law_342 rfl
theorem kL_law_343 : aCode iL_law 343 = some (.iconst 2, 1) := by decide +kernel
theorem sL_law_343 {d : Nat} {σ : aS} {Q : aQ} {ls : aL} {st : List Value} : aX d iL_law 343 (ls) (st) σ Q ↔ aX d iL_law 344 (ls) (.int (nI 2) :: st) σ Q := X_iconst kL_law_343 (by decide +kernel)
theorem kL_law_344 : aCode iL_law 344 = some (.iadd, 1) := by decide +kernel
theorem sL_law_344 {d : Nat} {σ : aS} {Q : aQ} {x y : Int32} {ls : aL} {st : List Value} : aX d iL_law 344 (ls) (.int y :: .int x :: st) σ Q ↔ aX d iL_law 345 (ls) (.int (x + y) :: st) σ Q := X_iadd kL_law_344
theorem kL_law_345 : aCode iL_law 345 = some (.iaload, 1) := by decide +kernel
theorem sL_law_345 {d : Nat} {σ : aS} {Q : aQ} {a : Nat} {i : Int32} {ls : aL} {st : List Value} : aX d iL_law 345 (ls) (.int i :: .ref a :: st) σ Q ↔ ∃ x, aRowR σ a = some x ∧ vp_in i x.1 ∧ aX d iL_law 346 (ls) (.int (x.2 i.toNatClampNeg) :: st) σ Q := X_iaload kL_law_345
theorem kL_law_346 : aCode iL_law 346 = some (.invokevirtual 47, 3) := by decide +kernel
theorem sL_law_346 {d : Nat} {σ : aS} {Q : aQ} {b : Nat} {p0 : Int32} {p1 : Int32} {v0 : Value} {ls : aL} : aX (d + 1) iL_law 346 (ls) (.int p1 :: .int p0 :: .ref b :: v0 :: []) σ Q ↔ aIs σ b 7 ∧ aX d iX7_of 0 [some (.ref b), some (.int p0), some (.int p1)] [] σ (fun r τ => aX (d + 1) iL_law 349 (ls) (aret r (v0 :: [])) τ Q) := X_invv (N := 2) (As := [.int p1, .int p0]) (w := 854) kL_law_346 (by decide +kernel) (by decide +kernel) rfl rfl (by simp only [List.length_cons, List.length_nil]; omega) (by simp only [List.length_cons, List.length_nil]; omega) (by decide +kernel) rfl (Nat.le_of_ble_eq_true rfl)
theorem kL_law_349 : aCode iL_law 349 = some (.if_icmp .eq 390, 3) := by decide +kernel
theorem sL_law_349 {d : Nat} {σ : aS} {Q : aQ} {x y : Int32} {ls : aL} {st : List Value} : aX d iL_law 349 (ls) (.int y :: .int x :: st) σ Q ↔ (if x = y then aX d iL_law 739 (ls) (st) σ Q else aX d iL_law 352 (ls) (st) σ Q) := by rw [X_icmp kL_law_349 (t := 739) (by decide)]; simp only [aCmp_eq]
theorem kL_law_352 : aCode iL_law 352 = some (.iconst 0, 1) := by decide +kernel
theorem sL_law_352 {d : Nat} {σ : aS} {Q : aQ} {ls : aL} {st : List Value} : aX d iL_law 352 (ls) (st) σ Q ↔ aX d iL_law 353 (ls) (.int (nI 0) :: st) σ Q := X_iconst kL_law_352 (by decide +kernel)
theorem kL_law_353 : aCode iL_law 353 = some (.ireturn, 1) := by decide +kernel
theorem sL_law_353 {d : Nat} {σ : aS} {Q : aQ} {v : Int32} {ls : aL} : aX d iL_law 353 (ls) ([.int v]) σ Q ↔ (narrow .boolean (.int v) = .int v ∧ Q (some (.int v)) σ) := X_zret kL_law_353 (by decide +kernel)
theorem kL_law_354 : aCode iL_law 354 = some (.aload_n 1, 1) := by decide +kernel
theorem sL_law_354 {d : Nat} {σ : aS} {Q : aQ} {l0 : Option Value} {x : Nat} {lt : aL} {st : List Value} : aX d iL_law 354 (l0 :: some (.ref x) :: lt) (st) σ Q ↔ aX d iL_law 355 (l0 :: some (.ref x) :: lt) (.ref x :: st) σ Q := X_aloadn kL_law_354 rfl rfl
theorem sL_law_354n {d : Nat} {σ : aS} {Q : aQ} {l0 : Option Value} {lt : aL} {st : List Value} : aX d iL_law 354 (l0 :: some .null :: lt) (st) σ Q ↔ aX d iL_law 355 (l0 :: some .null :: lt) (.null :: st) σ Q := X_aloadn kL_law_354 rfl rfl
theorem kL_law_355 : aCode iL_law 355 = some (.aload_n 0, 1) := by decide +kernel
theorem sL_law_355 {d : Nat} {σ : aS} {Q : aQ} {x : Nat} {lt : aL} {st : List Value} : aX d iL_law 355 (some (.ref x) :: lt) (st) σ Q ↔ aX d iL_law 356 (some (.ref x) :: lt) (.ref x :: st) σ Q := X_aloadn kL_law_355 rfl rfl
theorem kL_law_356 : aCode iL_law 356 = some (.iload_n 3, 1) := by decide +kernel
theorem sL_law_356 {d : Nat} {σ : aS} {Q : aQ} {l0 l1 l2 : Option Value} {x : Int32} {lt : aL} {st : List Value} : aX d iL_law 356 (l0 :: l1 :: l2 :: some (.int x) :: lt) (st) σ Q ↔ aX d iL_law 357 (l0 :: l1 :: l2 :: some (.int x) :: lt) (.int x :: st) σ Q := X_iloadn kL_law_356 rfl
theorem kL_law_357 : aCode iL_law 357 = some (.iconst 1, 1) := by decide +kernel
theorem sL_law_357 {d : Nat} {σ : aS} {Q : aQ} {ls : aL} {st : List Value} : aX d iL_law 357 (ls) (st) σ Q ↔ aX d iL_law 358 (ls) (.int (nI 1) :: st) σ Q := X_iconst kL_law_357 (by decide +kernel)
theorem kL_law_358 : aCode iL_law 358 = some (.iadd, 1) := by decide +kernel
theorem sL_law_358 {d : Nat} {σ : aS} {Q : aQ} {x y : Int32} {ls : aL} {st : List Value} : aX d iL_law 358 (ls) (.int y :: .int x :: st) σ Q ↔ aX d iL_law 359 (ls) (.int (x + y) :: st) σ Q := X_iadd kL_law_358
theorem kL_law_359 : aCode iL_law 359 = some (.iaload, 1) := by decide +kernel
theorem sL_law_359 {d : Nat} {σ : aS} {Q : aQ} {a : Nat} {i : Int32} {ls : aL} {st : List Value} : aX d iL_law 359 (ls) (.int i :: .ref a :: st) σ Q ↔ ∃ x, aRowR σ a = some x ∧ vp_in i x.1 ∧ aX d iL_law 360 (ls) (.int (x.2 i.toNatClampNeg) :: st) σ Q := X_iaload kL_law_359
theorem kL_law_360 : aCode iL_law 360 = some (.aload_n 0, 1) := by decide +kernel
theorem sL_law_360 {d : Nat} {σ : aS} {Q : aQ} {x : Nat} {lt : aL} {st : List Value} : aX d iL_law 360 (some (.ref x) :: lt) (st) σ Q ↔ aX d iL_law 361 (some (.ref x) :: lt) (.ref x :: st) σ Q := X_aloadn kL_law_360 rfl rfl
theorem kL_law_361 : aCode iL_law 361 = some (.iload_n 3, 1) := by decide +kernel
theorem sL_law_361 {d : Nat} {σ : aS} {Q : aQ} {l0 l1 l2 : Option Value} {x : Int32} {lt : aL} {st : List Value} : aX d iL_law 361 (l0 :: l1 :: l2 :: some (.int x) :: lt) (st) σ Q ↔ aX d iL_law 362 (l0 :: l1 :: l2 :: some (.int x) :: lt) (.int x :: st) σ Q := X_iloadn kL_law_361 rfl
theorem kL_law_362 : aCode iL_law 362 = some (.iconst 2, 1) := by decide +kernel
theorem sL_law_362 {d : Nat} {σ : aS} {Q : aQ} {ls : aL} {st : List Value} : aX d iL_law 362 (ls) (st) σ Q ↔ aX d iL_law 363 (ls) (.int (nI 2) :: st) σ Q := X_iconst kL_law_362 (by decide +kernel)
theorem kL_law_363 : aCode iL_law 363 = some (.iadd, 1) := by decide +kernel
theorem sL_law_363 {d : Nat} {σ : aS} {Q : aQ} {x y : Int32} {ls : aL} {st : List Value} : aX d iL_law 363 (ls) (.int y :: .int x :: st) σ Q ↔ aX d iL_law 364 (ls) (.int (x + y) :: st) σ Q := X_iadd kL_law_363
theorem kL_law_364 : aCode iL_law 364 = some (.iaload, 1) := by decide +kernel
theorem sL_law_364 {d : Nat} {σ : aS} {Q : aQ} {a : Nat} {i : Int32} {ls : aL} {st : List Value} : aX d iL_law 364 (ls) (.int i :: .ref a :: st) σ Q ↔ ∃ x, aRowR σ a = some x ∧ vp_in i x.1 ∧ aX d iL_law 365 (ls) (.int (x.2 i.toNatClampNeg) :: st) σ Q := X_iaload kL_law_364
theorem kL_law_365 : aCode iL_law 365 = some (.aload_n 0, 1) := by decide +kernel
theorem sL_law_365 {d : Nat} {σ : aS} {Q : aQ} {x : Nat} {lt : aL} {st : List Value} : aX d iL_law 365 (some (.ref x) :: lt) (st) σ Q ↔ aX d iL_law 366 (some (.ref x) :: lt) (.ref x :: st) σ Q := X_aloadn kL_law_365 rfl rfl
theorem kL_law_366 : aCode iL_law 366 = some (.iload_n 3, 1) := by decide +kernel
theorem sL_law_366 {d : Nat} {σ : aS} {Q : aQ} {l0 l1 l2 : Option Value} {x : Int32} {lt : aL} {st : List Value} : aX d iL_law 366 (l0 :: l1 :: l2 :: some (.int x) :: lt) (st) σ Q ↔ aX d iL_law 367 (l0 :: l1 :: l2 :: some (.int x) :: lt) (.int x :: st) σ Q := X_iloadn kL_law_366 rfl
theorem kL_law_367 : aCode iL_law 367 = some (.iconst 3, 1) := by decide +kernel
theorem sL_law_367 {d : Nat} {σ : aS} {Q : aQ} {ls : aL} {st : List Value} : aX d iL_law 367 (ls) (st) σ Q ↔ aX d iL_law 368 (ls) (.int (nI 3) :: st) σ Q := X_iconst kL_law_367 (by decide +kernel)
theorem kL_law_368 : aCode iL_law 368 = some (.iadd, 1) := by decide +kernel
theorem sL_law_368 {d : Nat} {σ : aS} {Q : aQ} {x y : Int32} {ls : aL} {st : List Value} : aX d iL_law 368 (ls) (.int y :: .int x :: st) σ Q ↔ aX d iL_law 369 (ls) (.int (x + y) :: st) σ Q := X_iadd kL_law_368
theorem kL_law_369 : aCode iL_law 369 = some (.iaload, 1) := by decide +kernel
theorem sL_law_369 {d : Nat} {σ : aS} {Q : aQ} {a : Nat} {i : Int32} {ls : aL} {st : List Value} : aX d iL_law 369 (ls) (.int i :: .ref a :: st) σ Q ↔ ∃ x, aRowR σ a = some x ∧ vp_in i x.1 ∧ aX d iL_law 370 (ls) (.int (x.2 i.toNatClampNeg) :: st) σ Q := X_iaload kL_law_369
theorem kL_law_370 : aCode iL_law 370 = some (.invokevirtual 48, 3) := by decide +kernel
theorem sL_law_370 {d : Nat} {σ : aS} {Q : aQ} {b : Nat} {p0 : Int32} {p1 : Int32} {p2 : Int32} {ls : aL} : aX (d + 1) iL_law 370 (ls) (.int p2 :: .int p1 :: .int p0 :: .ref b :: []) σ Q ↔ aIs σ b 6 ∧ aX d iX6_page 0 [some (.ref b), some (.int p0), some (.int p1), some (.int p2), none] [] σ (fun r τ => aX (d + 1) iL_law 373 (ls) (aret r ([])) τ Q) := X_invv (N := 3) (As := [.int p2, .int p1, .int p0]) (w := 470) kL_law_370 (by decide +kernel) (by decide +kernel) rfl rfl (by simp only [List.length_cons, List.length_nil]; omega) (by simp only [List.length_cons, List.length_nil]; omega) (by decide +kernel) rfl (Nat.le_of_ble_eq_true rfl)
theorem kL_law_373 : aCode iL_law 373 = some (.aload_n 2, 1) := by decide +kernel
theorem sL_law_373 {d : Nat} {σ : aS} {Q : aQ} {l0 l1 : Option Value} {x : Nat} {lt : aL} {st : List Value} : aX d iL_law 373 (l0 :: l1 :: some (.ref x) :: lt) (st) σ Q ↔ aX d iL_law 374 (l0 :: l1 :: some (.ref x) :: lt) (.ref x :: st) σ Q := X_aloadn kL_law_373 rfl rfl
theorem sL_law_373n {d : Nat} {σ : aS} {Q : aQ} {l0 l1 : Option Value} {lt : aL} {st : List Value} : aX d iL_law 373 (l0 :: l1 :: some .null :: lt) (st) σ Q ↔ aX d iL_law 374 (l0 :: l1 :: some .null :: lt) (.null :: st) σ Q := X_aloadn kL_law_373 rfl rfl
theorem kL_law_374 : aCode iL_law 374 = some (.aload_n 0, 1) := by decide +kernel
theorem sL_law_374 {d : Nat} {σ : aS} {Q : aQ} {x : Nat} {lt : aL} {st : List Value} : aX d iL_law 374 (some (.ref x) :: lt) (st) σ Q ↔ aX d iL_law 375 (some (.ref x) :: lt) (.ref x :: st) σ Q := X_aloadn kL_law_374 rfl rfl
theorem kL_law_375 : aCode iL_law 375 = some (.iload_n 3, 1) := by decide +kernel
theorem sL_law_375 {d : Nat} {σ : aS} {Q : aQ} {l0 l1 l2 : Option Value} {x : Int32} {lt : aL} {st : List Value} : aX d iL_law 375 (l0 :: l1 :: l2 :: some (.int x) :: lt) (st) σ Q ↔ aX d iL_law 376 (l0 :: l1 :: l2 :: some (.int x) :: lt) (.int x :: st) σ Q := X_iloadn kL_law_375 rfl
theorem kL_law_376 : aCode iL_law 376 = some (.iconst 1, 1) := by decide +kernel
theorem sL_law_376 {d : Nat} {σ : aS} {Q : aQ} {ls : aL} {st : List Value} : aX d iL_law 376 (ls) (st) σ Q ↔ aX d iL_law 377 (ls) (.int (nI 1) :: st) σ Q := X_iconst kL_law_376 (by decide +kernel)
theorem kL_law_377 : aCode iL_law 377 = some (.iadd, 1) := by decide +kernel
theorem sL_law_377 {d : Nat} {σ : aS} {Q : aQ} {x y : Int32} {ls : aL} {st : List Value} : aX d iL_law 377 (ls) (.int y :: .int x :: st) σ Q ↔ aX d iL_law 378 (ls) (.int (x + y) :: st) σ Q := X_iadd kL_law_377
theorem kL_law_378 : aCode iL_law 378 = some (.iaload, 1) := by decide +kernel
theorem sL_law_378 {d : Nat} {σ : aS} {Q : aQ} {a : Nat} {i : Int32} {ls : aL} {st : List Value} : aX d iL_law 378 (ls) (.int i :: .ref a :: st) σ Q ↔ ∃ x, aRowR σ a = some x ∧ vp_in i x.1 ∧ aX d iL_law 379 (ls) (.int (x.2 i.toNatClampNeg) :: st) σ Q := X_iaload kL_law_378
theorem kL_law_379 : aCode iL_law 379 = some (.aload_n 0, 1) := by decide +kernel
theorem sL_law_379 {d : Nat} {σ : aS} {Q : aQ} {x : Nat} {lt : aL} {st : List Value} : aX d iL_law 379 (some (.ref x) :: lt) (st) σ Q ↔ aX d iL_law 380 (some (.ref x) :: lt) (.ref x :: st) σ Q := X_aloadn kL_law_379 rfl rfl
theorem kL_law_380 : aCode iL_law 380 = some (.iload_n 3, 1) := by decide +kernel
theorem sL_law_380 {d : Nat} {σ : aS} {Q : aQ} {l0 l1 l2 : Option Value} {x : Int32} {lt : aL} {st : List Value} : aX d iL_law 380 (l0 :: l1 :: l2 :: some (.int x) :: lt) (st) σ Q ↔ aX d iL_law 381 (l0 :: l1 :: l2 :: some (.int x) :: lt) (.int x :: st) σ Q := X_iloadn kL_law_380 rfl
theorem kL_law_381 : aCode iL_law 381 = some (.iconst 2, 1) := by decide +kernel
theorem sL_law_381 {d : Nat} {σ : aS} {Q : aQ} {ls : aL} {st : List Value} : aX d iL_law 381 (ls) (st) σ Q ↔ aX d iL_law 382 (ls) (.int (nI 2) :: st) σ Q := X_iconst kL_law_381 (by decide +kernel)
theorem kL_law_382 : aCode iL_law 382 = some (.iadd, 1) := by decide +kernel
theorem sL_law_382 {d : Nat} {σ : aS} {Q : aQ} {x y : Int32} {ls : aL} {st : List Value} : aX d iL_law 382 (ls) (.int y :: .int x :: st) σ Q ↔ aX d iL_law 383 (ls) (.int (x + y) :: st) σ Q := X_iadd kL_law_382
theorem kL_law_383 : aCode iL_law 383 = some (.iaload, 1) := by decide +kernel
theorem sL_law_383 {d : Nat} {σ : aS} {Q : aQ} {a : Nat} {i : Int32} {ls : aL} {st : List Value} : aX d iL_law 383 (ls) (.int i :: .ref a :: st) σ Q ↔ ∃ x, aRowR σ a = some x ∧ vp_in i x.1 ∧ aX d iL_law 384 (ls) (.int (x.2 i.toNatClampNeg) :: st) σ Q := X_iaload kL_law_383
theorem kL_law_384 : aCode iL_law 384 = some (.aload_n 0, 1) := by decide +kernel
theorem sL_law_384 {d : Nat} {σ : aS} {Q : aQ} {x : Nat} {lt : aL} {st : List Value} : aX d iL_law 384 (some (.ref x) :: lt) (st) σ Q ↔ aX d iL_law 385 (some (.ref x) :: lt) (.ref x :: st) σ Q := X_aloadn kL_law_384 rfl rfl
theorem kL_law_385 : aCode iL_law 385 = some (.iload_n 3, 1) := by decide +kernel
theorem sL_law_385 {d : Nat} {σ : aS} {Q : aQ} {l0 l1 l2 : Option Value} {x : Int32} {lt : aL} {st : List Value} : aX d iL_law 385 (l0 :: l1 :: l2 :: some (.int x) :: lt) (st) σ Q ↔ aX d iL_law 386 (l0 :: l1 :: l2 :: some (.int x) :: lt) (.int x :: st) σ Q := X_iloadn kL_law_385 rfl
theorem kL_law_386 : aCode iL_law 386 = some (.iconst 3, 1) := by decide +kernel
theorem sL_law_386 {d : Nat} {σ : aS} {Q : aQ} {ls : aL} {st : List Value} : aX d iL_law 386 (ls) (st) σ Q ↔ aX d iL_law 387 (ls) (.int (nI 3) :: st) σ Q := X_iconst kL_law_386 (by decide +kernel)
theorem kL_law_387 : aCode iL_law 387 = some (.iadd, 1) := by decide +kernel
theorem sL_law_387 {d : Nat} {σ : aS} {Q : aQ} {x y : Int32} {ls : aL} {st : List Value} : aX d iL_law 387 (ls) (.int y :: .int x :: st) σ Q ↔ aX d iL_law 388 (ls) (.int (x + y) :: st) σ Q := X_iadd kL_law_387
theorem kL_law_388 : aCode iL_law 388 = some (.iaload, 1) := by decide +kernel
theorem sL_law_388 {d : Nat} {σ : aS} {Q : aQ} {a : Nat} {i : Int32} {ls : aL} {st : List Value} : aX d iL_law 388 (ls) (.int i :: .ref a :: st) σ Q ↔ ∃ x, aRowR σ a = some x ∧ vp_in i x.1 ∧ aX d iL_law 389 (ls) (.int (x.2 i.toNatClampNeg) :: st) σ Q := X_iaload kL_law_388
theorem kL_law_389 : aCode iL_law 389 = some (.invokevirtual 52, 3) := by decide +kernel
theorem sL_law_389 {d : Nat} {σ : aS} {Q : aQ} {b : Nat} {p0 : Int32} {p1 : Int32} {p2 : Int32} {v0 : Value} {ls : aL} : aX (d + 1) iL_law 389 (ls) (.int p2 :: .int p1 :: .int p0 :: .ref b :: v0 :: []) σ Q ↔ aIs σ b 7 ∧ aX d iX7_page 0 [some (.ref b), some (.int p0), some (.int p1), some (.int p2)] [] σ (fun r τ => aX (d + 1) iL_law 392 (ls) (aret r (v0 :: [])) τ Q) := X_invv (N := 3) (As := [.int p2, .int p1, .int p0]) (w := 866) kL_law_389 (by decide +kernel) (by decide +kernel) rfl rfl (by simp only [List.length_cons, List.length_nil]; omega) (by simp only [List.length_cons, List.length_nil]; omega) (by decide +kernel) rfl (Nat.le_of_ble_eq_true rfl)
theorem kL_law_392 : aCode iL_law 392 = some (.if_icmp .eq 347, 3) := by decide +kernel
theorem sL_law_392 {d : Nat} {σ : aS} {Q : aQ} {x y : Int32} {ls : aL} {st : List Value} : aX d iL_law 392 (ls) (.int y :: .int x :: st) σ Q ↔ (if x = y then aX d iL_law 739 (ls) (st) σ Q else aX d iL_law 395 (ls) (st) σ Q) := by rw [X_icmp kL_law_392 (t := 739) (by decide)]; simp only [aCmp_eq]
theorem kL_law_395 : aCode iL_law 395 = some (.iconst 0, 1) := by decide +kernel
theorem sL_law_395 {d : Nat} {σ : aS} {Q : aQ} {ls : aL} {st : List Value} : aX d iL_law 395 (ls) (st) σ Q ↔ aX d iL_law 396 (ls) (.int (nI 0) :: st) σ Q := X_iconst kL_law_395 (by decide +kernel)
theorem kL_law_396 : aCode iL_law 396 = some (.ireturn, 1) := by decide +kernel
theorem sL_law_396 {d : Nat} {σ : aS} {Q : aQ} {v : Int32} {ls : aL} : aX d iL_law 396 (ls) ([.int v]) σ Q ↔ (narrow .boolean (.int v) = .int v ∧ Q (some (.int v)) σ) := X_zret kL_law_396 (by decide +kernel)
theorem kL_law_397 : aCode iL_law 397 = some (.aload_n 1, 1) := by decide +kernel
theorem sL_law_397 {d : Nat} {σ : aS} {Q : aQ} {l0 : Option Value} {x : Nat} {lt : aL} {st : List Value} : aX d iL_law 397 (l0 :: some (.ref x) :: lt) (st) σ Q ↔ aX d iL_law 398 (l0 :: some (.ref x) :: lt) (.ref x :: st) σ Q := X_aloadn kL_law_397 rfl rfl
theorem sL_law_397n {d : Nat} {σ : aS} {Q : aQ} {l0 : Option Value} {lt : aL} {st : List Value} : aX d iL_law 397 (l0 :: some .null :: lt) (st) σ Q ↔ aX d iL_law 398 (l0 :: some .null :: lt) (.null :: st) σ Q := X_aloadn kL_law_397 rfl rfl
theorem kL_law_398 : aCode iL_law 398 = some (.aload_n 0, 1) := by decide +kernel
theorem sL_law_398 {d : Nat} {σ : aS} {Q : aQ} {x : Nat} {lt : aL} {st : List Value} : aX d iL_law 398 (some (.ref x) :: lt) (st) σ Q ↔ aX d iL_law 399 (some (.ref x) :: lt) (.ref x :: st) σ Q := X_aloadn kL_law_398 rfl rfl
theorem kL_law_399 : aCode iL_law 399 = some (.iload_n 3, 1) := by decide +kernel
theorem sL_law_399 {d : Nat} {σ : aS} {Q : aQ} {l0 l1 l2 : Option Value} {x : Int32} {lt : aL} {st : List Value} : aX d iL_law 399 (l0 :: l1 :: l2 :: some (.int x) :: lt) (st) σ Q ↔ aX d iL_law 400 (l0 :: l1 :: l2 :: some (.int x) :: lt) (.int x :: st) σ Q := X_iloadn kL_law_399 rfl
theorem kL_law_400 : aCode iL_law 400 = some (.iconst 1, 1) := by decide +kernel
theorem sL_law_400 {d : Nat} {σ : aS} {Q : aQ} {ls : aL} {st : List Value} : aX d iL_law 400 (ls) (st) σ Q ↔ aX d iL_law 401 (ls) (.int (nI 1) :: st) σ Q := X_iconst kL_law_400 (by decide +kernel)
theorem kL_law_401 : aCode iL_law 401 = some (.iadd, 1) := by decide +kernel
theorem sL_law_401 {d : Nat} {σ : aS} {Q : aQ} {x y : Int32} {ls : aL} {st : List Value} : aX d iL_law 401 (ls) (.int y :: .int x :: st) σ Q ↔ aX d iL_law 402 (ls) (.int (x + y) :: st) σ Q := X_iadd kL_law_401
theorem kL_law_402 : aCode iL_law 402 = some (.iaload, 1) := by decide +kernel
theorem sL_law_402 {d : Nat} {σ : aS} {Q : aQ} {a : Nat} {i : Int32} {ls : aL} {st : List Value} : aX d iL_law 402 (ls) (.int i :: .ref a :: st) σ Q ↔ ∃ x, aRowR σ a = some x ∧ vp_in i x.1 ∧ aX d iL_law 403 (ls) (.int (x.2 i.toNatClampNeg) :: st) σ Q := X_iaload kL_law_402
theorem kL_law_403 : aCode iL_law 403 = some (.aload_n 0, 1) := by decide +kernel
theorem sL_law_403 {d : Nat} {σ : aS} {Q : aQ} {x : Nat} {lt : aL} {st : List Value} : aX d iL_law 403 (some (.ref x) :: lt) (st) σ Q ↔ aX d iL_law 404 (some (.ref x) :: lt) (.ref x :: st) σ Q := X_aloadn kL_law_403 rfl rfl
theorem kL_law_404 : aCode iL_law 404 = some (.iload_n 3, 1) := by decide +kernel
theorem sL_law_404 {d : Nat} {σ : aS} {Q : aQ} {l0 l1 l2 : Option Value} {x : Int32} {lt : aL} {st : List Value} : aX d iL_law 404 (l0 :: l1 :: l2 :: some (.int x) :: lt) (st) σ Q ↔ aX d iL_law 405 (l0 :: l1 :: l2 :: some (.int x) :: lt) (.int x :: st) σ Q := X_iloadn kL_law_404 rfl
theorem kL_law_405 : aCode iL_law 405 = some (.iconst 2, 1) := by decide +kernel
theorem sL_law_405 {d : Nat} {σ : aS} {Q : aQ} {ls : aL} {st : List Value} : aX d iL_law 405 (ls) (st) σ Q ↔ aX d iL_law 406 (ls) (.int (nI 2) :: st) σ Q := X_iconst kL_law_405 (by decide +kernel)
theorem kL_law_406 : aCode iL_law 406 = some (.iadd, 1) := by decide +kernel
theorem sL_law_406 {d : Nat} {σ : aS} {Q : aQ} {x y : Int32} {ls : aL} {st : List Value} : aX d iL_law 406 (ls) (.int y :: .int x :: st) σ Q ↔ aX d iL_law 407 (ls) (.int (x + y) :: st) σ Q := X_iadd kL_law_406
theorem kL_law_407 : aCode iL_law 407 = some (.iaload, 1) := by decide +kernel
theorem sL_law_407 {d : Nat} {σ : aS} {Q : aQ} {a : Nat} {i : Int32} {ls : aL} {st : List Value} : aX d iL_law 407 (ls) (.int i :: .ref a :: st) σ Q ↔ ∃ x, aRowR σ a = some x ∧ vp_in i x.1 ∧ aX d iL_law 408 (ls) (.int (x.2 i.toNatClampNeg) :: st) σ Q := X_iaload kL_law_407
theorem kL_law_408 : aCode iL_law 408 = some (.invokevirtual 53, 3) := by decide +kernel
theorem sL_law_408 {d : Nat} {σ : aS} {Q : aQ} {b : Nat} {p0 : Int32} {p1 : Int32} {ls : aL} : aX (d + 1) iL_law 408 (ls) (.int p1 :: .int p0 :: .ref b :: []) σ Q ↔ aIs σ b 6 ∧ aX d iX6_seat 0 [some (.ref b), some (.int p0), some (.int p1)] [] σ (fun r τ => aX (d + 1) iL_law 411 (ls) (aret r ([])) τ Q) := X_invv (N := 2) (As := [.int p1, .int p0]) (w := 481) kL_law_408 (by decide +kernel) (by decide +kernel) rfl rfl (by simp only [List.length_cons, List.length_nil]; omega) (by simp only [List.length_cons, List.length_nil]; omega) (by decide +kernel) rfl (Nat.le_of_ble_eq_true rfl)
theorem kL_law_411 : aCode iL_law 411 = some (.aload_n 2, 1) := by decide +kernel
theorem sL_law_411 {d : Nat} {σ : aS} {Q : aQ} {l0 l1 : Option Value} {x : Nat} {lt : aL} {st : List Value} : aX d iL_law 411 (l0 :: l1 :: some (.ref x) :: lt) (st) σ Q ↔ aX d iL_law 412 (l0 :: l1 :: some (.ref x) :: lt) (.ref x :: st) σ Q := X_aloadn kL_law_411 rfl rfl
theorem sL_law_411n {d : Nat} {σ : aS} {Q : aQ} {l0 l1 : Option Value} {lt : aL} {st : List Value} : aX d iL_law 411 (l0 :: l1 :: some .null :: lt) (st) σ Q ↔ aX d iL_law 412 (l0 :: l1 :: some .null :: lt) (.null :: st) σ Q := X_aloadn kL_law_411 rfl rfl
theorem kL_law_412 : aCode iL_law 412 = some (.aload_n 0, 1) := by decide +kernel
theorem sL_law_412 {d : Nat} {σ : aS} {Q : aQ} {x : Nat} {lt : aL} {st : List Value} : aX d iL_law 412 (some (.ref x) :: lt) (st) σ Q ↔ aX d iL_law 413 (some (.ref x) :: lt) (.ref x :: st) σ Q := X_aloadn kL_law_412 rfl rfl
theorem kL_law_413 : aCode iL_law 413 = some (.iload_n 3, 1) := by decide +kernel
theorem sL_law_413 {d : Nat} {σ : aS} {Q : aQ} {l0 l1 l2 : Option Value} {x : Int32} {lt : aL} {st : List Value} : aX d iL_law 413 (l0 :: l1 :: l2 :: some (.int x) :: lt) (st) σ Q ↔ aX d iL_law 414 (l0 :: l1 :: l2 :: some (.int x) :: lt) (.int x :: st) σ Q := X_iloadn kL_law_413 rfl
theorem kL_law_414 : aCode iL_law 414 = some (.iconst 1, 1) := by decide +kernel
theorem sL_law_414 {d : Nat} {σ : aS} {Q : aQ} {ls : aL} {st : List Value} : aX d iL_law 414 (ls) (st) σ Q ↔ aX d iL_law 415 (ls) (.int (nI 1) :: st) σ Q := X_iconst kL_law_414 (by decide +kernel)
theorem kL_law_415 : aCode iL_law 415 = some (.iadd, 1) := by decide +kernel
theorem sL_law_415 {d : Nat} {σ : aS} {Q : aQ} {x y : Int32} {ls : aL} {st : List Value} : aX d iL_law 415 (ls) (.int y :: .int x :: st) σ Q ↔ aX d iL_law 416 (ls) (.int (x + y) :: st) σ Q := X_iadd kL_law_415
theorem kL_law_416 : aCode iL_law 416 = some (.iaload, 1) := by decide +kernel
theorem sL_law_416 {d : Nat} {σ : aS} {Q : aQ} {a : Nat} {i : Int32} {ls : aL} {st : List Value} : aX d iL_law 416 (ls) (.int i :: .ref a :: st) σ Q ↔ ∃ x, aRowR σ a = some x ∧ vp_in i x.1 ∧ aX d iL_law 417 (ls) (.int (x.2 i.toNatClampNeg) :: st) σ Q := X_iaload kL_law_416
theorem kL_law_417 : aCode iL_law 417 = some (.aload_n 0, 1) := by decide +kernel
theorem sL_law_417 {d : Nat} {σ : aS} {Q : aQ} {x : Nat} {lt : aL} {st : List Value} : aX d iL_law 417 (some (.ref x) :: lt) (st) σ Q ↔ aX d iL_law 418 (some (.ref x) :: lt) (.ref x :: st) σ Q := X_aloadn kL_law_417 rfl rfl
theorem kL_law_418 : aCode iL_law 418 = some (.iload_n 3, 1) := by decide +kernel
theorem sL_law_418 {d : Nat} {σ : aS} {Q : aQ} {l0 l1 l2 : Option Value} {x : Int32} {lt : aL} {st : List Value} : aX d iL_law 418 (l0 :: l1 :: l2 :: some (.int x) :: lt) (st) σ Q ↔ aX d iL_law 419 (l0 :: l1 :: l2 :: some (.int x) :: lt) (.int x :: st) σ Q := X_iloadn kL_law_418 rfl
theorem kL_law_419 : aCode iL_law 419 = some (.iconst 2, 1) := by decide +kernel
theorem sL_law_419 {d : Nat} {σ : aS} {Q : aQ} {ls : aL} {st : List Value} : aX d iL_law 419 (ls) (st) σ Q ↔ aX d iL_law 420 (ls) (.int (nI 2) :: st) σ Q := X_iconst kL_law_419 (by decide +kernel)
theorem kL_law_420 : aCode iL_law 420 = some (.iadd, 1) := by decide +kernel
theorem sL_law_420 {d : Nat} {σ : aS} {Q : aQ} {x y : Int32} {ls : aL} {st : List Value} : aX d iL_law 420 (ls) (.int y :: .int x :: st) σ Q ↔ aX d iL_law 421 (ls) (.int (x + y) :: st) σ Q := X_iadd kL_law_420
theorem kL_law_421 : aCode iL_law 421 = some (.iaload, 1) := by decide +kernel
theorem sL_law_421 {d : Nat} {σ : aS} {Q : aQ} {a : Nat} {i : Int32} {ls : aL} {st : List Value} : aX d iL_law 421 (ls) (.int i :: .ref a :: st) σ Q ↔ ∃ x, aRowR σ a = some x ∧ vp_in i x.1 ∧ aX d iL_law 422 (ls) (.int (x.2 i.toNatClampNeg) :: st) σ Q := X_iaload kL_law_421
theorem kL_law_422 : aCode iL_law 422 = some (.invokevirtual 56, 3) := by decide +kernel
theorem sL_law_422 {d : Nat} {σ : aS} {Q : aQ} {b : Nat} {p0 : Int32} {p1 : Int32} {v0 : Value} {ls : aL} : aX (d + 1) iL_law 422 (ls) (.int p1 :: .int p0 :: .ref b :: v0 :: []) σ Q ↔ aIs σ b 7 ∧ aX d iX7_seat 0 [some (.ref b), some (.int p0), some (.int p1)] [] σ (fun r τ => aX (d + 1) iL_law 425 (ls) (aret r (v0 :: [])) τ Q) := X_invv (N := 2) (As := [.int p1, .int p0]) (w := 870) kL_law_422 (by decide +kernel) (by decide +kernel) rfl rfl (by simp only [List.length_cons, List.length_nil]; omega) (by simp only [List.length_cons, List.length_nil]; omega) (by decide +kernel) rfl (Nat.le_of_ble_eq_true rfl)
theorem kL_law_425 : aCode iL_law 425 = some (.if_icmp .eq 314, 3) := by decide +kernel
theorem sL_law_425 {d : Nat} {σ : aS} {Q : aQ} {x y : Int32} {ls : aL} {st : List Value} : aX d iL_law 425 (ls) (.int y :: .int x :: st) σ Q ↔ (if x = y then aX d iL_law 739 (ls) (st) σ Q else aX d iL_law 428 (ls) (st) σ Q) := by rw [X_icmp kL_law_425 (t := 739) (by decide)]; simp only [aCmp_eq]
theorem kL_law_428 : aCode iL_law 428 = some (.iconst 0, 1) := by decide +kernel
theorem sL_law_428 {d : Nat} {σ : aS} {Q : aQ} {ls : aL} {st : List Value} : aX d iL_law 428 (ls) (st) σ Q ↔ aX d iL_law 429 (ls) (.int (nI 0) :: st) σ Q := X_iconst kL_law_428 (by decide +kernel)
theorem kL_law_429 : aCode iL_law 429 = some (.ireturn, 1) := by decide +kernel
theorem sL_law_429 {d : Nat} {σ : aS} {Q : aQ} {v : Int32} {ls : aL} : aX d iL_law 429 (ls) ([.int v]) σ Q ↔ (narrow .boolean (.int v) = .int v ∧ Q (some (.int v)) σ) := X_zret kL_law_429 (by decide +kernel)
theorem kL_law_430 : aCode iL_law 430 = some (.aload_n 1, 1) := by decide +kernel
theorem sL_law_430 {d : Nat} {σ : aS} {Q : aQ} {l0 : Option Value} {x : Nat} {lt : aL} {st : List Value} : aX d iL_law 430 (l0 :: some (.ref x) :: lt) (st) σ Q ↔ aX d iL_law 431 (l0 :: some (.ref x) :: lt) (.ref x :: st) σ Q := X_aloadn kL_law_430 rfl rfl
theorem sL_law_430n {d : Nat} {σ : aS} {Q : aQ} {l0 : Option Value} {lt : aL} {st : List Value} : aX d iL_law 430 (l0 :: some .null :: lt) (st) σ Q ↔ aX d iL_law 431 (l0 :: some .null :: lt) (.null :: st) σ Q := X_aloadn kL_law_430 rfl rfl
theorem kL_law_431 : aCode iL_law 431 = some (.aload_n 0, 1) := by decide +kernel
theorem sL_law_431 {d : Nat} {σ : aS} {Q : aQ} {x : Nat} {lt : aL} {st : List Value} : aX d iL_law 431 (some (.ref x) :: lt) (st) σ Q ↔ aX d iL_law 432 (some (.ref x) :: lt) (.ref x :: st) σ Q := X_aloadn kL_law_431 rfl rfl
theorem kL_law_432 : aCode iL_law 432 = some (.iload_n 3, 1) := by decide +kernel
theorem sL_law_432 {d : Nat} {σ : aS} {Q : aQ} {l0 l1 l2 : Option Value} {x : Int32} {lt : aL} {st : List Value} : aX d iL_law 432 (l0 :: l1 :: l2 :: some (.int x) :: lt) (st) σ Q ↔ aX d iL_law 433 (l0 :: l1 :: l2 :: some (.int x) :: lt) (.int x :: st) σ Q := X_iloadn kL_law_432 rfl
theorem kL_law_433 : aCode iL_law 433 = some (.iconst 1, 1) := by decide +kernel
theorem sL_law_433 {d : Nat} {σ : aS} {Q : aQ} {ls : aL} {st : List Value} : aX d iL_law 433 (ls) (st) σ Q ↔ aX d iL_law 434 (ls) (.int (nI 1) :: st) σ Q := X_iconst kL_law_433 (by decide +kernel)
theorem kL_law_434 : aCode iL_law 434 = some (.iadd, 1) := by decide +kernel
theorem sL_law_434 {d : Nat} {σ : aS} {Q : aQ} {x y : Int32} {ls : aL} {st : List Value} : aX d iL_law 434 (ls) (.int y :: .int x :: st) σ Q ↔ aX d iL_law 435 (ls) (.int (x + y) :: st) σ Q := X_iadd kL_law_434
theorem kL_law_435 : aCode iL_law 435 = some (.iaload, 1) := by decide +kernel
theorem sL_law_435 {d : Nat} {σ : aS} {Q : aQ} {a : Nat} {i : Int32} {ls : aL} {st : List Value} : aX d iL_law 435 (ls) (.int i :: .ref a :: st) σ Q ↔ ∃ x, aRowR σ a = some x ∧ vp_in i x.1 ∧ aX d iL_law 436 (ls) (.int (x.2 i.toNatClampNeg) :: st) σ Q := X_iaload kL_law_435
theorem kL_law_436 : aCode iL_law 436 = some (.invokevirtual 57, 3) := by decide +kernel
theorem sL_law_436 {d : Nat} {σ : aS} {Q : aQ} {b : Nat} {p0 : Int32} {ls : aL} : aX (d + 1) iL_law 436 (ls) (.int p0 :: .ref b :: []) σ Q ↔ aIs σ b 6 ∧ aX d iX6_word 0 [some (.ref b), some (.int p0)] [] σ (fun r τ => aX (d + 1) iL_law 439 (ls) (aret r ([])) τ Q) := X_invv (N := 1) (As := [.int p0]) (w := 492) kL_law_436 (by decide +kernel) (by decide +kernel) rfl rfl (by simp only [List.length_cons, List.length_nil]; omega) (by simp only [List.length_cons, List.length_nil]; omega) (by decide +kernel) rfl (Nat.le_of_ble_eq_true rfl)
theorem kL_law_439 : aCode iL_law 439 = some (.aload_n 2, 1) := by decide +kernel
theorem sL_law_439 {d : Nat} {σ : aS} {Q : aQ} {l0 l1 : Option Value} {x : Nat} {lt : aL} {st : List Value} : aX d iL_law 439 (l0 :: l1 :: some (.ref x) :: lt) (st) σ Q ↔ aX d iL_law 440 (l0 :: l1 :: some (.ref x) :: lt) (.ref x :: st) σ Q := X_aloadn kL_law_439 rfl rfl
theorem sL_law_439n {d : Nat} {σ : aS} {Q : aQ} {l0 l1 : Option Value} {lt : aL} {st : List Value} : aX d iL_law 439 (l0 :: l1 :: some .null :: lt) (st) σ Q ↔ aX d iL_law 440 (l0 :: l1 :: some .null :: lt) (.null :: st) σ Q := X_aloadn kL_law_439 rfl rfl
theorem kL_law_440 : aCode iL_law 440 = some (.aload_n 0, 1) := by decide +kernel
theorem sL_law_440 {d : Nat} {σ : aS} {Q : aQ} {x : Nat} {lt : aL} {st : List Value} : aX d iL_law 440 (some (.ref x) :: lt) (st) σ Q ↔ aX d iL_law 441 (some (.ref x) :: lt) (.ref x :: st) σ Q := X_aloadn kL_law_440 rfl rfl
theorem kL_law_441 : aCode iL_law 441 = some (.iload_n 3, 1) := by decide +kernel
theorem sL_law_441 {d : Nat} {σ : aS} {Q : aQ} {l0 l1 l2 : Option Value} {x : Int32} {lt : aL} {st : List Value} : aX d iL_law 441 (l0 :: l1 :: l2 :: some (.int x) :: lt) (st) σ Q ↔ aX d iL_law 442 (l0 :: l1 :: l2 :: some (.int x) :: lt) (.int x :: st) σ Q := X_iloadn kL_law_441 rfl
theorem kL_law_442 : aCode iL_law 442 = some (.iconst 1, 1) := by decide +kernel
theorem sL_law_442 {d : Nat} {σ : aS} {Q : aQ} {ls : aL} {st : List Value} : aX d iL_law 442 (ls) (st) σ Q ↔ aX d iL_law 443 (ls) (.int (nI 1) :: st) σ Q := X_iconst kL_law_442 (by decide +kernel)
theorem kL_law_443 : aCode iL_law 443 = some (.iadd, 1) := by decide +kernel
theorem sL_law_443 {d : Nat} {σ : aS} {Q : aQ} {x y : Int32} {ls : aL} {st : List Value} : aX d iL_law 443 (ls) (.int y :: .int x :: st) σ Q ↔ aX d iL_law 444 (ls) (.int (x + y) :: st) σ Q := X_iadd kL_law_443
theorem kL_law_444 : aCode iL_law 444 = some (.iaload, 1) := by decide +kernel
theorem sL_law_444 {d : Nat} {σ : aS} {Q : aQ} {a : Nat} {i : Int32} {ls : aL} {st : List Value} : aX d iL_law 444 (ls) (.int i :: .ref a :: st) σ Q ↔ ∃ x, aRowR σ a = some x ∧ vp_in i x.1 ∧ aX d iL_law 445 (ls) (.int (x.2 i.toNatClampNeg) :: st) σ Q := X_iaload kL_law_444
theorem kL_law_445 : aCode iL_law 445 = some (.invokevirtual 60, 3) := by decide +kernel
theorem sL_law_445 {d : Nat} {σ : aS} {Q : aQ} {b : Nat} {p0 : Int32} {v0 : Value} {ls : aL} : aX (d + 1) iL_law 445 (ls) (.int p0 :: .ref b :: v0 :: []) σ Q ↔ aIs σ b 7 ∧ aX d iX7_word 0 [some (.ref b), some (.int p0)] [] σ (fun r τ => aX (d + 1) iL_law 448 (ls) (aret r (v0 :: [])) τ Q) := X_invv (N := 1) (As := [.int p0]) (w := 878) kL_law_445 (by decide +kernel) (by decide +kernel) rfl rfl (by simp only [List.length_cons, List.length_nil]; omega) (by simp only [List.length_cons, List.length_nil]; omega) (by decide +kernel) rfl (Nat.le_of_ble_eq_true rfl)
theorem kL_law_448 : aCode iL_law 448 = some (.if_icmp .eq 291, 3) := by decide +kernel
theorem sL_law_448 {d : Nat} {σ : aS} {Q : aQ} {x y : Int32} {ls : aL} {st : List Value} : aX d iL_law 448 (ls) (.int y :: .int x :: st) σ Q ↔ (if x = y then aX d iL_law 739 (ls) (st) σ Q else aX d iL_law 451 (ls) (st) σ Q) := by rw [X_icmp kL_law_448 (t := 739) (by decide)]; simp only [aCmp_eq]
theorem kL_law_451 : aCode iL_law 451 = some (.iconst 0, 1) := by decide +kernel
theorem sL_law_451 {d : Nat} {σ : aS} {Q : aQ} {ls : aL} {st : List Value} : aX d iL_law 451 (ls) (st) σ Q ↔ aX d iL_law 452 (ls) (.int (nI 0) :: st) σ Q := X_iconst kL_law_451 (by decide +kernel)
theorem kL_law_452 : aCode iL_law 452 = some (.ireturn, 1) := by decide +kernel
theorem sL_law_452 {d : Nat} {σ : aS} {Q : aQ} {v : Int32} {ls : aL} : aX d iL_law 452 (ls) ([.int v]) σ Q ↔ (narrow .boolean (.int v) = .int v ∧ Q (some (.int v)) σ) := X_zret kL_law_452 (by decide +kernel)
theorem kL_law_453 : aCode iL_law 453 = some (.aload_n 1, 1) := by decide +kernel
theorem sL_law_453 {d : Nat} {σ : aS} {Q : aQ} {l0 : Option Value} {x : Nat} {lt : aL} {st : List Value} : aX d iL_law 453 (l0 :: some (.ref x) :: lt) (st) σ Q ↔ aX d iL_law 454 (l0 :: some (.ref x) :: lt) (.ref x :: st) σ Q := X_aloadn kL_law_453 rfl rfl
theorem sL_law_453n {d : Nat} {σ : aS} {Q : aQ} {l0 : Option Value} {lt : aL} {st : List Value} : aX d iL_law 453 (l0 :: some .null :: lt) (st) σ Q ↔ aX d iL_law 454 (l0 :: some .null :: lt) (.null :: st) σ Q := X_aloadn kL_law_453 rfl rfl
theorem kL_law_454 : aCode iL_law 454 = some (.aload_n 0, 1) := by decide +kernel
theorem sL_law_454 {d : Nat} {σ : aS} {Q : aQ} {x : Nat} {lt : aL} {st : List Value} : aX d iL_law 454 (some (.ref x) :: lt) (st) σ Q ↔ aX d iL_law 455 (some (.ref x) :: lt) (.ref x :: st) σ Q := X_aloadn kL_law_454 rfl rfl
theorem kL_law_455 : aCode iL_law 455 = some (.iload_n 3, 1) := by decide +kernel
theorem sL_law_455 {d : Nat} {σ : aS} {Q : aQ} {l0 l1 l2 : Option Value} {x : Int32} {lt : aL} {st : List Value} : aX d iL_law 455 (l0 :: l1 :: l2 :: some (.int x) :: lt) (st) σ Q ↔ aX d iL_law 456 (l0 :: l1 :: l2 :: some (.int x) :: lt) (.int x :: st) σ Q := X_iloadn kL_law_455 rfl
theorem kL_law_456 : aCode iL_law 456 = some (.iconst 1, 1) := by decide +kernel
theorem sL_law_456 {d : Nat} {σ : aS} {Q : aQ} {ls : aL} {st : List Value} : aX d iL_law 456 (ls) (st) σ Q ↔ aX d iL_law 457 (ls) (.int (nI 1) :: st) σ Q := X_iconst kL_law_456 (by decide +kernel)
theorem kL_law_457 : aCode iL_law 457 = some (.iadd, 1) := by decide +kernel
theorem sL_law_457 {d : Nat} {σ : aS} {Q : aQ} {x y : Int32} {ls : aL} {st : List Value} : aX d iL_law 457 (ls) (.int y :: .int x :: st) σ Q ↔ aX d iL_law 458 (ls) (.int (x + y) :: st) σ Q := X_iadd kL_law_457
theorem kL_law_458 : aCode iL_law 458 = some (.iaload, 1) := by decide +kernel
theorem sL_law_458 {d : Nat} {σ : aS} {Q : aQ} {a : Nat} {i : Int32} {ls : aL} {st : List Value} : aX d iL_law 458 (ls) (.int i :: .ref a :: st) σ Q ↔ ∃ x, aRowR σ a = some x ∧ vp_in i x.1 ∧ aX d iL_law 459 (ls) (.int (x.2 i.toNatClampNeg) :: st) σ Q := X_iaload kL_law_458
theorem kL_law_459 : aCode iL_law 459 = some (.invokevirtual 61, 3) := by decide +kernel
theorem sL_law_459 {d : Nat} {σ : aS} {Q : aQ} {b : Nat} {p0 : Int32} {ls : aL} : aX (d + 1) iL_law 459 (ls) (.int p0 :: .ref b :: []) σ Q ↔ aIs σ b 6 ∧ aX d iX6_count 0 [some (.ref b), some (.int p0)] [] σ (fun r τ => aX (d + 1) iL_law 462 (ls) (aret r ([])) τ Q) := X_invv (N := 1) (As := [.int p0]) (w := 496) kL_law_459 (by decide +kernel) (by decide +kernel) rfl rfl (by simp only [List.length_cons, List.length_nil]; omega) (by simp only [List.length_cons, List.length_nil]; omega) (by decide +kernel) rfl (Nat.le_of_ble_eq_true rfl)
theorem kL_law_462 : aCode iL_law 462 = some (.aload_n 2, 1) := by decide +kernel
theorem sL_law_462 {d : Nat} {σ : aS} {Q : aQ} {l0 l1 : Option Value} {x : Nat} {lt : aL} {st : List Value} : aX d iL_law 462 (l0 :: l1 :: some (.ref x) :: lt) (st) σ Q ↔ aX d iL_law 463 (l0 :: l1 :: some (.ref x) :: lt) (.ref x :: st) σ Q := X_aloadn kL_law_462 rfl rfl
theorem sL_law_462n {d : Nat} {σ : aS} {Q : aQ} {l0 l1 : Option Value} {lt : aL} {st : List Value} : aX d iL_law 462 (l0 :: l1 :: some .null :: lt) (st) σ Q ↔ aX d iL_law 463 (l0 :: l1 :: some .null :: lt) (.null :: st) σ Q := X_aloadn kL_law_462 rfl rfl
theorem kL_law_463 : aCode iL_law 463 = some (.aload_n 0, 1) := by decide +kernel
theorem sL_law_463 {d : Nat} {σ : aS} {Q : aQ} {x : Nat} {lt : aL} {st : List Value} : aX d iL_law 463 (some (.ref x) :: lt) (st) σ Q ↔ aX d iL_law 464 (some (.ref x) :: lt) (.ref x :: st) σ Q := X_aloadn kL_law_463 rfl rfl
theorem kL_law_464 : aCode iL_law 464 = some (.iload_n 3, 1) := by decide +kernel
theorem sL_law_464 {d : Nat} {σ : aS} {Q : aQ} {l0 l1 l2 : Option Value} {x : Int32} {lt : aL} {st : List Value} : aX d iL_law 464 (l0 :: l1 :: l2 :: some (.int x) :: lt) (st) σ Q ↔ aX d iL_law 465 (l0 :: l1 :: l2 :: some (.int x) :: lt) (.int x :: st) σ Q := X_iloadn kL_law_464 rfl
theorem kL_law_465 : aCode iL_law 465 = some (.iconst 1, 1) := by decide +kernel
theorem sL_law_465 {d : Nat} {σ : aS} {Q : aQ} {ls : aL} {st : List Value} : aX d iL_law 465 (ls) (st) σ Q ↔ aX d iL_law 466 (ls) (.int (nI 1) :: st) σ Q := X_iconst kL_law_465 (by decide +kernel)
theorem kL_law_466 : aCode iL_law 466 = some (.iadd, 1) := by decide +kernel
theorem sL_law_466 {d : Nat} {σ : aS} {Q : aQ} {x y : Int32} {ls : aL} {st : List Value} : aX d iL_law 466 (ls) (.int y :: .int x :: st) σ Q ↔ aX d iL_law 467 (ls) (.int (x + y) :: st) σ Q := X_iadd kL_law_466
theorem kL_law_467 : aCode iL_law 467 = some (.iaload, 1) := by decide +kernel
theorem sL_law_467 {d : Nat} {σ : aS} {Q : aQ} {a : Nat} {i : Int32} {ls : aL} {st : List Value} : aX d iL_law 467 (ls) (.int i :: .ref a :: st) σ Q ↔ ∃ x, aRowR σ a = some x ∧ vp_in i x.1 ∧ aX d iL_law 468 (ls) (.int (x.2 i.toNatClampNeg) :: st) σ Q := X_iaload kL_law_467
theorem kL_law_468 : aCode iL_law 468 = some (.invokevirtual 64, 3) := by decide +kernel
theorem sL_law_468 {d : Nat} {σ : aS} {Q : aQ} {b : Nat} {p0 : Int32} {v0 : Value} {ls : aL} : aX (d + 1) iL_law 468 (ls) (.int p0 :: .ref b :: v0 :: []) σ Q ↔ aIs σ b 7 ∧ aX d iX7_count 0 [some (.ref b), some (.int p0)] [] σ (fun r τ => aX (d + 1) iL_law 471 (ls) (aret r (v0 :: [])) τ Q) := X_invv (N := 1) (As := [.int p0]) (w := 882) kL_law_468 (by decide +kernel) (by decide +kernel) rfl rfl (by simp only [List.length_cons, List.length_nil]; omega) (by simp only [List.length_cons, List.length_nil]; omega) (by decide +kernel) rfl (Nat.le_of_ble_eq_true rfl)
theorem kL_law_471 : aCode iL_law 471 = some (.if_icmp .eq 268, 3) := by decide +kernel
theorem sL_law_471 {d : Nat} {σ : aS} {Q : aQ} {x y : Int32} {ls : aL} {st : List Value} : aX d iL_law 471 (ls) (.int y :: .int x :: st) σ Q ↔ (if x = y then aX d iL_law 739 (ls) (st) σ Q else aX d iL_law 474 (ls) (st) σ Q) := by rw [X_icmp kL_law_471 (t := 739) (by decide)]; simp only [aCmp_eq]
theorem kL_law_474 : aCode iL_law 474 = some (.iconst 0, 1) := by decide +kernel
theorem sL_law_474 {d : Nat} {σ : aS} {Q : aQ} {ls : aL} {st : List Value} : aX d iL_law 474 (ls) (st) σ Q ↔ aX d iL_law 475 (ls) (.int (nI 0) :: st) σ Q := X_iconst kL_law_474 (by decide +kernel)
theorem kL_law_475 : aCode iL_law 475 = some (.ireturn, 1) := by decide +kernel
theorem sL_law_475 {d : Nat} {σ : aS} {Q : aQ} {v : Int32} {ls : aL} : aX d iL_law 475 (ls) ([.int v]) σ Q ↔ (narrow .boolean (.int v) = .int v ∧ Q (some (.int v)) σ) := X_zret kL_law_475 (by decide +kernel)
theorem kL_law_476 : aCode iL_law 476 = some (.aload_n 1, 1) := by decide +kernel
theorem sL_law_476 {d : Nat} {σ : aS} {Q : aQ} {l0 : Option Value} {x : Nat} {lt : aL} {st : List Value} : aX d iL_law 476 (l0 :: some (.ref x) :: lt) (st) σ Q ↔ aX d iL_law 477 (l0 :: some (.ref x) :: lt) (.ref x :: st) σ Q := X_aloadn kL_law_476 rfl rfl
theorem sL_law_476n {d : Nat} {σ : aS} {Q : aQ} {l0 : Option Value} {lt : aL} {st : List Value} : aX d iL_law 476 (l0 :: some .null :: lt) (st) σ Q ↔ aX d iL_law 477 (l0 :: some .null :: lt) (.null :: st) σ Q := X_aloadn kL_law_476 rfl rfl
theorem kL_law_477 : aCode iL_law 477 = some (.aload_n 0, 1) := by decide +kernel
theorem sL_law_477 {d : Nat} {σ : aS} {Q : aQ} {x : Nat} {lt : aL} {st : List Value} : aX d iL_law 477 (some (.ref x) :: lt) (st) σ Q ↔ aX d iL_law 478 (some (.ref x) :: lt) (.ref x :: st) σ Q := X_aloadn kL_law_477 rfl rfl
theorem kL_law_478 : aCode iL_law 478 = some (.iload_n 3, 1) := by decide +kernel
theorem sL_law_478 {d : Nat} {σ : aS} {Q : aQ} {l0 l1 l2 : Option Value} {x : Int32} {lt : aL} {st : List Value} : aX d iL_law 478 (l0 :: l1 :: l2 :: some (.int x) :: lt) (st) σ Q ↔ aX d iL_law 479 (l0 :: l1 :: l2 :: some (.int x) :: lt) (.int x :: st) σ Q := X_iloadn kL_law_478 rfl
theorem kL_law_479 : aCode iL_law 479 = some (.iconst 1, 1) := by decide +kernel
theorem sL_law_479 {d : Nat} {σ : aS} {Q : aQ} {ls : aL} {st : List Value} : aX d iL_law 479 (ls) (st) σ Q ↔ aX d iL_law 480 (ls) (.int (nI 1) :: st) σ Q := X_iconst kL_law_479 (by decide +kernel)
theorem kL_law_480 : aCode iL_law 480 = some (.iadd, 1) := by decide +kernel
theorem sL_law_480 {d : Nat} {σ : aS} {Q : aQ} {x y : Int32} {ls : aL} {st : List Value} : aX d iL_law 480 (ls) (.int y :: .int x :: st) σ Q ↔ aX d iL_law 481 (ls) (.int (x + y) :: st) σ Q := X_iadd kL_law_480
theorem kL_law_481 : aCode iL_law 481 = some (.iaload, 1) := by decide +kernel
theorem sL_law_481 {d : Nat} {σ : aS} {Q : aQ} {a : Nat} {i : Int32} {ls : aL} {st : List Value} : aX d iL_law 481 (ls) (.int i :: .ref a :: st) σ Q ↔ ∃ x, aRowR σ a = some x ∧ vp_in i x.1 ∧ aX d iL_law 482 (ls) (.int (x.2 i.toNatClampNeg) :: st) σ Q := X_iaload kL_law_481
theorem kL_law_482 : aCode iL_law 482 = some (.invokevirtual 65, 3) := by decide +kernel
theorem sL_law_482 {d : Nat} {σ : aS} {Q : aQ} {b : Nat} {p0 : Int32} {ls : aL} : aX (d + 1) iL_law 482 (ls) (.int p0 :: .ref b :: []) σ Q ↔ aIs σ b 6 ∧ aX d iX6_guess 0 [some (.ref b), some (.int p0)] [] σ (fun r τ => aX (d + 1) iL_law 485 (ls) (aret r ([])) τ Q) := X_invv (N := 1) (As := [.int p0]) (w := 505) kL_law_482 (by decide +kernel) (by decide +kernel) rfl rfl (by simp only [List.length_cons, List.length_nil]; omega) (by simp only [List.length_cons, List.length_nil]; omega) (by decide +kernel) rfl (Nat.le_of_ble_eq_true rfl)
theorem kL_law_485 : aCode iL_law 485 = some (.aload_n 2, 1) := by decide +kernel
theorem sL_law_485 {d : Nat} {σ : aS} {Q : aQ} {l0 l1 : Option Value} {x : Nat} {lt : aL} {st : List Value} : aX d iL_law 485 (l0 :: l1 :: some (.ref x) :: lt) (st) σ Q ↔ aX d iL_law 486 (l0 :: l1 :: some (.ref x) :: lt) (.ref x :: st) σ Q := X_aloadn kL_law_485 rfl rfl
theorem sL_law_485n {d : Nat} {σ : aS} {Q : aQ} {l0 l1 : Option Value} {lt : aL} {st : List Value} : aX d iL_law 485 (l0 :: l1 :: some .null :: lt) (st) σ Q ↔ aX d iL_law 486 (l0 :: l1 :: some .null :: lt) (.null :: st) σ Q := X_aloadn kL_law_485 rfl rfl
theorem kL_law_486 : aCode iL_law 486 = some (.aload_n 0, 1) := by decide +kernel
theorem sL_law_486 {d : Nat} {σ : aS} {Q : aQ} {x : Nat} {lt : aL} {st : List Value} : aX d iL_law 486 (some (.ref x) :: lt) (st) σ Q ↔ aX d iL_law 487 (some (.ref x) :: lt) (.ref x :: st) σ Q := X_aloadn kL_law_486 rfl rfl
theorem kL_law_487 : aCode iL_law 487 = some (.iload_n 3, 1) := by decide +kernel
theorem sL_law_487 {d : Nat} {σ : aS} {Q : aQ} {l0 l1 l2 : Option Value} {x : Int32} {lt : aL} {st : List Value} : aX d iL_law 487 (l0 :: l1 :: l2 :: some (.int x) :: lt) (st) σ Q ↔ aX d iL_law 488 (l0 :: l1 :: l2 :: some (.int x) :: lt) (.int x :: st) σ Q := X_iloadn kL_law_487 rfl
theorem kL_law_488 : aCode iL_law 488 = some (.iconst 1, 1) := by decide +kernel
theorem sL_law_488 {d : Nat} {σ : aS} {Q : aQ} {ls : aL} {st : List Value} : aX d iL_law 488 (ls) (st) σ Q ↔ aX d iL_law 489 (ls) (.int (nI 1) :: st) σ Q := X_iconst kL_law_488 (by decide +kernel)
theorem kL_law_489 : aCode iL_law 489 = some (.iadd, 1) := by decide +kernel
theorem sL_law_489 {d : Nat} {σ : aS} {Q : aQ} {x y : Int32} {ls : aL} {st : List Value} : aX d iL_law 489 (ls) (.int y :: .int x :: st) σ Q ↔ aX d iL_law 490 (ls) (.int (x + y) :: st) σ Q := X_iadd kL_law_489
theorem kL_law_490 : aCode iL_law 490 = some (.iaload, 1) := by decide +kernel
theorem sL_law_490 {d : Nat} {σ : aS} {Q : aQ} {a : Nat} {i : Int32} {ls : aL} {st : List Value} : aX d iL_law 490 (ls) (.int i :: .ref a :: st) σ Q ↔ ∃ x, aRowR σ a = some x ∧ vp_in i x.1 ∧ aX d iL_law 491 (ls) (.int (x.2 i.toNatClampNeg) :: st) σ Q := X_iaload kL_law_490
theorem kL_law_491 : aCode iL_law 491 = some (.invokevirtual 68, 3) := by decide +kernel
theorem sL_law_491 {d : Nat} {σ : aS} {Q : aQ} {b : Nat} {p0 : Int32} {v0 : Value} {ls : aL} : aX (d + 1) iL_law 491 (ls) (.int p0 :: .ref b :: v0 :: []) σ Q ↔ aIs σ b 7 ∧ aX d iX7_guess 0 [some (.ref b), some (.int p0)] [] σ (fun r τ => aX (d + 1) iL_law 494 (ls) (aret r (v0 :: [])) τ Q) := X_invv (N := 1) (As := [.int p0]) (w := 890) kL_law_491 (by decide +kernel) (by decide +kernel) rfl rfl (by simp only [List.length_cons, List.length_nil]; omega) (by simp only [List.length_cons, List.length_nil]; omega) (by decide +kernel) rfl (Nat.le_of_ble_eq_true rfl)
theorem kL_law_494 : aCode iL_law 494 = some (.if_icmp .eq 245, 3) := by decide +kernel
theorem sL_law_494 {d : Nat} {σ : aS} {Q : aQ} {x y : Int32} {ls : aL} {st : List Value} : aX d iL_law 494 (ls) (.int y :: .int x :: st) σ Q ↔ (if x = y then aX d iL_law 739 (ls) (st) σ Q else aX d iL_law 497 (ls) (st) σ Q) := by rw [X_icmp kL_law_494 (t := 739) (by decide)]; simp only [aCmp_eq]
theorem kL_law_497 : aCode iL_law 497 = some (.iconst 0, 1) := by decide +kernel
theorem sL_law_497 {d : Nat} {σ : aS} {Q : aQ} {ls : aL} {st : List Value} : aX d iL_law 497 (ls) (st) σ Q ↔ aX d iL_law 498 (ls) (.int (nI 0) :: st) σ Q := X_iconst kL_law_497 (by decide +kernel)
theorem kL_law_498 : aCode iL_law 498 = some (.ireturn, 1) := by decide +kernel
theorem sL_law_498 {d : Nat} {σ : aS} {Q : aQ} {v : Int32} {ls : aL} : aX d iL_law 498 (ls) ([.int v]) σ Q ↔ (narrow .boolean (.int v) = .int v ∧ Q (some (.int v)) σ) := X_zret kL_law_498 (by decide +kernel)
theorem kL_law_499 : aCode iL_law 499 = some (.aload_n 1, 1) := by decide +kernel
theorem sL_law_499 {d : Nat} {σ : aS} {Q : aQ} {l0 : Option Value} {x : Nat} {lt : aL} {st : List Value} : aX d iL_law 499 (l0 :: some (.ref x) :: lt) (st) σ Q ↔ aX d iL_law 500 (l0 :: some (.ref x) :: lt) (.ref x :: st) σ Q := X_aloadn kL_law_499 rfl rfl
theorem sL_law_499n {d : Nat} {σ : aS} {Q : aQ} {l0 : Option Value} {lt : aL} {st : List Value} : aX d iL_law 499 (l0 :: some .null :: lt) (st) σ Q ↔ aX d iL_law 500 (l0 :: some .null :: lt) (.null :: st) σ Q := X_aloadn kL_law_499 rfl rfl
theorem kL_law_500 : aCode iL_law 500 = some (.aload_n 0, 1) := by decide +kernel
theorem sL_law_500 {d : Nat} {σ : aS} {Q : aQ} {x : Nat} {lt : aL} {st : List Value} : aX d iL_law 500 (some (.ref x) :: lt) (st) σ Q ↔ aX d iL_law 501 (some (.ref x) :: lt) (.ref x :: st) σ Q := X_aloadn kL_law_500 rfl rfl
theorem kL_law_501 : aCode iL_law 501 = some (.iload_n 3, 1) := by decide +kernel
theorem sL_law_501 {d : Nat} {σ : aS} {Q : aQ} {l0 l1 l2 : Option Value} {x : Int32} {lt : aL} {st : List Value} : aX d iL_law 501 (l0 :: l1 :: l2 :: some (.int x) :: lt) (st) σ Q ↔ aX d iL_law 502 (l0 :: l1 :: l2 :: some (.int x) :: lt) (.int x :: st) σ Q := X_iloadn kL_law_501 rfl
theorem kL_law_502 : aCode iL_law 502 = some (.iconst 1, 1) := by decide +kernel
theorem sL_law_502 {d : Nat} {σ : aS} {Q : aQ} {ls : aL} {st : List Value} : aX d iL_law 502 (ls) (st) σ Q ↔ aX d iL_law 503 (ls) (.int (nI 1) :: st) σ Q := X_iconst kL_law_502 (by decide +kernel)
theorem kL_law_503 : aCode iL_law 503 = some (.iadd, 1) := by decide +kernel
theorem sL_law_503 {d : Nat} {σ : aS} {Q : aQ} {x y : Int32} {ls : aL} {st : List Value} : aX d iL_law 503 (ls) (.int y :: .int x :: st) σ Q ↔ aX d iL_law 504 (ls) (.int (x + y) :: st) σ Q := X_iadd kL_law_503
theorem kL_law_504 : aCode iL_law 504 = some (.iaload, 1) := by decide +kernel
theorem sL_law_504 {d : Nat} {σ : aS} {Q : aQ} {a : Nat} {i : Int32} {ls : aL} {st : List Value} : aX d iL_law 504 (ls) (.int i :: .ref a :: st) σ Q ↔ ∃ x, aRowR σ a = some x ∧ vp_in i x.1 ∧ aX d iL_law 505 (ls) (.int (x.2 i.toNatClampNeg) :: st) σ Q := X_iaload kL_law_504
theorem kL_law_505 : aCode iL_law 505 = some (.aload_n 0, 1) := by decide +kernel
theorem sL_law_505 {d : Nat} {σ : aS} {Q : aQ} {x : Nat} {lt : aL} {st : List Value} : aX d iL_law 505 (some (.ref x) :: lt) (st) σ Q ↔ aX d iL_law 506 (some (.ref x) :: lt) (.ref x :: st) σ Q := X_aloadn kL_law_505 rfl rfl
theorem kL_law_506 : aCode iL_law 506 = some (.iload_n 3, 1) := by decide +kernel
theorem sL_law_506 {d : Nat} {σ : aS} {Q : aQ} {l0 l1 l2 : Option Value} {x : Int32} {lt : aL} {st : List Value} : aX d iL_law 506 (l0 :: l1 :: l2 :: some (.int x) :: lt) (st) σ Q ↔ aX d iL_law 507 (l0 :: l1 :: l2 :: some (.int x) :: lt) (.int x :: st) σ Q := X_iloadn kL_law_506 rfl
theorem kL_law_507 : aCode iL_law 507 = some (.iconst 2, 1) := by decide +kernel
theorem sL_law_507 {d : Nat} {σ : aS} {Q : aQ} {ls : aL} {st : List Value} : aX d iL_law 507 (ls) (st) σ Q ↔ aX d iL_law 508 (ls) (.int (nI 2) :: st) σ Q := X_iconst kL_law_507 (by decide +kernel)
theorem kL_law_508 : aCode iL_law 508 = some (.iadd, 1) := by decide +kernel
theorem sL_law_508 {d : Nat} {σ : aS} {Q : aQ} {x y : Int32} {ls : aL} {st : List Value} : aX d iL_law 508 (ls) (.int y :: .int x :: st) σ Q ↔ aX d iL_law 509 (ls) (.int (x + y) :: st) σ Q := X_iadd kL_law_508
theorem kL_law_509 : aCode iL_law 509 = some (.iaload, 1) := by decide +kernel
theorem sL_law_509 {d : Nat} {σ : aS} {Q : aQ} {a : Nat} {i : Int32} {ls : aL} {st : List Value} : aX d iL_law 509 (ls) (.int i :: .ref a :: st) σ Q ↔ ∃ x, aRowR σ a = some x ∧ vp_in i x.1 ∧ aX d iL_law 510 (ls) (.int (x.2 i.toNatClampNeg) :: st) σ Q := X_iaload kL_law_509
theorem kL_law_510 : aCode iL_law 510 = some (.invokevirtual 69, 3) := by decide +kernel
theorem sL_law_510 {d : Nat} {σ : aS} {Q : aQ} {b : Nat} {p0 : Int32} {p1 : Int32} {ls : aL} : aX (d + 1) iL_law 510 (ls) (.int p1 :: .int p0 :: .ref b :: []) σ Q ↔ aIs σ b 6 ∧ aX d iX6_foretold 0 [some (.ref b), some (.int p0), some (.int p1), none] [] σ (fun r τ => aX (d + 1) iL_law 513 (ls) (aret r ([])) τ Q) := X_invv (N := 2) (As := [.int p1, .int p0]) (w := 510) kL_law_510 (by decide +kernel) (by decide +kernel) rfl rfl (by simp only [List.length_cons, List.length_nil]; omega) (by simp only [List.length_cons, List.length_nil]; omega) (by decide +kernel) rfl (Nat.le_of_ble_eq_true rfl)
theorem kL_law_513 : aCode iL_law 513 = some (.aload_n 2, 1) := by decide +kernel
theorem sL_law_513 {d : Nat} {σ : aS} {Q : aQ} {l0 l1 : Option Value} {x : Nat} {lt : aL} {st : List Value} : aX d iL_law 513 (l0 :: l1 :: some (.ref x) :: lt) (st) σ Q ↔ aX d iL_law 514 (l0 :: l1 :: some (.ref x) :: lt) (.ref x :: st) σ Q := X_aloadn kL_law_513 rfl rfl
theorem sL_law_513n {d : Nat} {σ : aS} {Q : aQ} {l0 l1 : Option Value} {lt : aL} {st : List Value} : aX d iL_law 513 (l0 :: l1 :: some .null :: lt) (st) σ Q ↔ aX d iL_law 514 (l0 :: l1 :: some .null :: lt) (.null :: st) σ Q := X_aloadn kL_law_513 rfl rfl
theorem kL_law_514 : aCode iL_law 514 = some (.aload_n 0, 1) := by decide +kernel
theorem sL_law_514 {d : Nat} {σ : aS} {Q : aQ} {x : Nat} {lt : aL} {st : List Value} : aX d iL_law 514 (some (.ref x) :: lt) (st) σ Q ↔ aX d iL_law 515 (some (.ref x) :: lt) (.ref x :: st) σ Q := X_aloadn kL_law_514 rfl rfl
theorem kL_law_515 : aCode iL_law 515 = some (.iload_n 3, 1) := by decide +kernel
theorem sL_law_515 {d : Nat} {σ : aS} {Q : aQ} {l0 l1 l2 : Option Value} {x : Int32} {lt : aL} {st : List Value} : aX d iL_law 515 (l0 :: l1 :: l2 :: some (.int x) :: lt) (st) σ Q ↔ aX d iL_law 516 (l0 :: l1 :: l2 :: some (.int x) :: lt) (.int x :: st) σ Q := X_iloadn kL_law_515 rfl
theorem kL_law_516 : aCode iL_law 516 = some (.iconst 1, 1) := by decide +kernel
theorem sL_law_516 {d : Nat} {σ : aS} {Q : aQ} {ls : aL} {st : List Value} : aX d iL_law 516 (ls) (st) σ Q ↔ aX d iL_law 517 (ls) (.int (nI 1) :: st) σ Q := X_iconst kL_law_516 (by decide +kernel)
theorem kL_law_517 : aCode iL_law 517 = some (.iadd, 1) := by decide +kernel
theorem sL_law_517 {d : Nat} {σ : aS} {Q : aQ} {x y : Int32} {ls : aL} {st : List Value} : aX d iL_law 517 (ls) (.int y :: .int x :: st) σ Q ↔ aX d iL_law 518 (ls) (.int (x + y) :: st) σ Q := X_iadd kL_law_517
theorem kL_law_518 : aCode iL_law 518 = some (.iaload, 1) := by decide +kernel
theorem sL_law_518 {d : Nat} {σ : aS} {Q : aQ} {a : Nat} {i : Int32} {ls : aL} {st : List Value} : aX d iL_law 518 (ls) (.int i :: .ref a :: st) σ Q ↔ ∃ x, aRowR σ a = some x ∧ vp_in i x.1 ∧ aX d iL_law 519 (ls) (.int (x.2 i.toNatClampNeg) :: st) σ Q := X_iaload kL_law_518
theorem kL_law_519 : aCode iL_law 519 = some (.aload_n 0, 1) := by decide +kernel
theorem sL_law_519 {d : Nat} {σ : aS} {Q : aQ} {x : Nat} {lt : aL} {st : List Value} : aX d iL_law 519 (some (.ref x) :: lt) (st) σ Q ↔ aX d iL_law 520 (some (.ref x) :: lt) (.ref x :: st) σ Q := X_aloadn kL_law_519 rfl rfl
theorem kL_law_520 : aCode iL_law 520 = some (.iload_n 3, 1) := by decide +kernel
theorem sL_law_520 {d : Nat} {σ : aS} {Q : aQ} {l0 l1 l2 : Option Value} {x : Int32} {lt : aL} {st : List Value} : aX d iL_law 520 (l0 :: l1 :: l2 :: some (.int x) :: lt) (st) σ Q ↔ aX d iL_law 521 (l0 :: l1 :: l2 :: some (.int x) :: lt) (.int x :: st) σ Q := X_iloadn kL_law_520 rfl
theorem kL_law_521 : aCode iL_law 521 = some (.iconst 2, 1) := by decide +kernel
theorem sL_law_521 {d : Nat} {σ : aS} {Q : aQ} {ls : aL} {st : List Value} : aX d iL_law 521 (ls) (st) σ Q ↔ aX d iL_law 522 (ls) (.int (nI 2) :: st) σ Q := X_iconst kL_law_521 (by decide +kernel)
theorem kL_law_522 : aCode iL_law 522 = some (.iadd, 1) := by decide +kernel
theorem sL_law_522 {d : Nat} {σ : aS} {Q : aQ} {x y : Int32} {ls : aL} {st : List Value} : aX d iL_law 522 (ls) (.int y :: .int x :: st) σ Q ↔ aX d iL_law 523 (ls) (.int (x + y) :: st) σ Q := X_iadd kL_law_522
theorem kL_law_523 : aCode iL_law 523 = some (.iaload, 1) := by decide +kernel
theorem sL_law_523 {d : Nat} {σ : aS} {Q : aQ} {a : Nat} {i : Int32} {ls : aL} {st : List Value} : aX d iL_law 523 (ls) (.int i :: .ref a :: st) σ Q ↔ ∃ x, aRowR σ a = some x ∧ vp_in i x.1 ∧ aX d iL_law 524 (ls) (.int (x.2 i.toNatClampNeg) :: st) σ Q := X_iaload kL_law_523
theorem kL_law_524 : aCode iL_law 524 = some (.invokevirtual 72, 3) := by decide +kernel
theorem sL_law_524 {d : Nat} {σ : aS} {Q : aQ} {b : Nat} {p0 : Int32} {p1 : Int32} {v0 : Value} {ls : aL} : aX (d + 1) iL_law 524 (ls) (.int p1 :: .int p0 :: .ref b :: v0 :: []) σ Q ↔ aIs σ b 7 ∧ aX d iX7_foretold 0 [some (.ref b), some (.int p0), some (.int p1), none, none] [] σ (fun r τ => aX (d + 1) iL_law 527 (ls) (aret r (v0 :: [])) τ Q) := X_invv (N := 2) (As := [.int p1, .int p0]) (w := 894) kL_law_524 (by decide +kernel) (by decide +kernel) rfl rfl (by simp only [List.length_cons, List.length_nil]; omega) (by simp only [List.length_cons, List.length_nil]; omega) (by decide +kernel) rfl (Nat.le_of_ble_eq_true rfl)
theorem kL_law_527 : aCode iL_law 527 = some (.if_icmp .eq 212, 3) := by decide +kernel
theorem sL_law_527 {d : Nat} {σ : aS} {Q : aQ} {x y : Int32} {ls : aL} {st : List Value} : aX d iL_law 527 (ls) (.int y :: .int x :: st) σ Q ↔ (if x = y then aX d iL_law 739 (ls) (st) σ Q else aX d iL_law 530 (ls) (st) σ Q) := by rw [X_icmp kL_law_527 (t := 739) (by decide)]; simp only [aCmp_eq]
theorem kL_law_530 : aCode iL_law 530 = some (.iconst 0, 1) := by decide +kernel
theorem sL_law_530 {d : Nat} {σ : aS} {Q : aQ} {ls : aL} {st : List Value} : aX d iL_law 530 (ls) (st) σ Q ↔ aX d iL_law 531 (ls) (.int (nI 0) :: st) σ Q := X_iconst kL_law_530 (by decide +kernel)
theorem kL_law_531 : aCode iL_law 531 = some (.ireturn, 1) := by decide +kernel
theorem sL_law_531 {d : Nat} {σ : aS} {Q : aQ} {v : Int32} {ls : aL} : aX d iL_law 531 (ls) ([.int v]) σ Q ↔ (narrow .boolean (.int v) = .int v ∧ Q (some (.int v)) σ) := X_zret kL_law_531 (by decide +kernel)
theorem kL_law_532 : aCode iL_law 532 = some (.aload_n 1, 1) := by decide +kernel
theorem sL_law_532 {d : Nat} {σ : aS} {Q : aQ} {l0 : Option Value} {x : Nat} {lt : aL} {st : List Value} : aX d iL_law 532 (l0 :: some (.ref x) :: lt) (st) σ Q ↔ aX d iL_law 533 (l0 :: some (.ref x) :: lt) (.ref x :: st) σ Q := X_aloadn kL_law_532 rfl rfl
theorem sL_law_532n {d : Nat} {σ : aS} {Q : aQ} {l0 : Option Value} {lt : aL} {st : List Value} : aX d iL_law 532 (l0 :: some .null :: lt) (st) σ Q ↔ aX d iL_law 533 (l0 :: some .null :: lt) (.null :: st) σ Q := X_aloadn kL_law_532 rfl rfl
theorem kL_law_533 : aCode iL_law 533 = some (.aload_n 0, 1) := by decide +kernel
theorem sL_law_533 {d : Nat} {σ : aS} {Q : aQ} {x : Nat} {lt : aL} {st : List Value} : aX d iL_law 533 (some (.ref x) :: lt) (st) σ Q ↔ aX d iL_law 534 (some (.ref x) :: lt) (.ref x :: st) σ Q := X_aloadn kL_law_533 rfl rfl
theorem kL_law_534 : aCode iL_law 534 = some (.iload_n 3, 1) := by decide +kernel
theorem sL_law_534 {d : Nat} {σ : aS} {Q : aQ} {l0 l1 l2 : Option Value} {x : Int32} {lt : aL} {st : List Value} : aX d iL_law 534 (l0 :: l1 :: l2 :: some (.int x) :: lt) (st) σ Q ↔ aX d iL_law 535 (l0 :: l1 :: l2 :: some (.int x) :: lt) (.int x :: st) σ Q := X_iloadn kL_law_534 rfl
theorem kL_law_535 : aCode iL_law 535 = some (.iconst 1, 1) := by decide +kernel
theorem sL_law_535 {d : Nat} {σ : aS} {Q : aQ} {ls : aL} {st : List Value} : aX d iL_law 535 (ls) (st) σ Q ↔ aX d iL_law 536 (ls) (.int (nI 1) :: st) σ Q := X_iconst kL_law_535 (by decide +kernel)
theorem kL_law_536 : aCode iL_law 536 = some (.iadd, 1) := by decide +kernel
theorem sL_law_536 {d : Nat} {σ : aS} {Q : aQ} {x y : Int32} {ls : aL} {st : List Value} : aX d iL_law 536 (ls) (.int y :: .int x :: st) σ Q ↔ aX d iL_law 537 (ls) (.int (x + y) :: st) σ Q := X_iadd kL_law_536
theorem kL_law_537 : aCode iL_law 537 = some (.iaload, 1) := by decide +kernel
theorem sL_law_537 {d : Nat} {σ : aS} {Q : aQ} {a : Nat} {i : Int32} {ls : aL} {st : List Value} : aX d iL_law 537 (ls) (.int i :: .ref a :: st) σ Q ↔ ∃ x, aRowR σ a = some x ∧ vp_in i x.1 ∧ aX d iL_law 538 (ls) (.int (x.2 i.toNatClampNeg) :: st) σ Q := X_iaload kL_law_537
theorem kL_law_538 : aCode iL_law 538 = some (.aload_n 0, 1) := by decide +kernel
theorem sL_law_538 {d : Nat} {σ : aS} {Q : aQ} {x : Nat} {lt : aL} {st : List Value} : aX d iL_law 538 (some (.ref x) :: lt) (st) σ Q ↔ aX d iL_law 539 (some (.ref x) :: lt) (.ref x :: st) σ Q := X_aloadn kL_law_538 rfl rfl
theorem kL_law_539 : aCode iL_law 539 = some (.iload_n 3, 1) := by decide +kernel
theorem sL_law_539 {d : Nat} {σ : aS} {Q : aQ} {l0 l1 l2 : Option Value} {x : Int32} {lt : aL} {st : List Value} : aX d iL_law 539 (l0 :: l1 :: l2 :: some (.int x) :: lt) (st) σ Q ↔ aX d iL_law 540 (l0 :: l1 :: l2 :: some (.int x) :: lt) (.int x :: st) σ Q := X_iloadn kL_law_539 rfl
theorem kL_law_540 : aCode iL_law 540 = some (.iconst 2, 1) := by decide +kernel
theorem sL_law_540 {d : Nat} {σ : aS} {Q : aQ} {ls : aL} {st : List Value} : aX d iL_law 540 (ls) (st) σ Q ↔ aX d iL_law 541 (ls) (.int (nI 2) :: st) σ Q := X_iconst kL_law_540 (by decide +kernel)
theorem kL_law_541 : aCode iL_law 541 = some (.iadd, 1) := by decide +kernel
theorem sL_law_541 {d : Nat} {σ : aS} {Q : aQ} {x y : Int32} {ls : aL} {st : List Value} : aX d iL_law 541 (ls) (.int y :: .int x :: st) σ Q ↔ aX d iL_law 542 (ls) (.int (x + y) :: st) σ Q := X_iadd kL_law_541
theorem kL_law_542 : aCode iL_law 542 = some (.iaload, 1) := by decide +kernel
theorem sL_law_542 {d : Nat} {σ : aS} {Q : aQ} {a : Nat} {i : Int32} {ls : aL} {st : List Value} : aX d iL_law 542 (ls) (.int i :: .ref a :: st) σ Q ↔ ∃ x, aRowR σ a = some x ∧ vp_in i x.1 ∧ aX d iL_law 543 (ls) (.int (x.2 i.toNatClampNeg) :: st) σ Q := X_iaload kL_law_542
theorem kL_law_543 : aCode iL_law 543 = some (.invokevirtual 73, 3) := by decide +kernel
theorem sL_law_543 {d : Nat} {σ : aS} {Q : aQ} {b : Nat} {p0 : Int32} {p1 : Int32} {ls : aL} : aX (d + 1) iL_law 543 (ls) (.int p1 :: .int p0 :: .ref b :: []) σ Q ↔ aIs σ b 6 ∧ aX d iX6_bestWord 0 [some (.ref b), some (.int p0), some (.int p1), none, none, none, none] [] σ (fun r τ => aX (d + 1) iL_law 546 (ls) (aret r ([])) τ Q) := X_invv (N := 2) (As := [.int p1, .int p0]) (w := 525) kL_law_543 (by decide +kernel) (by decide +kernel) rfl rfl (by simp only [List.length_cons, List.length_nil]; omega) (by simp only [List.length_cons, List.length_nil]; omega) (by decide +kernel) rfl (Nat.le_of_ble_eq_true rfl)
theorem kL_law_546 : aCode iL_law 546 = some (.aload_n 2, 1) := by decide +kernel
theorem sL_law_546 {d : Nat} {σ : aS} {Q : aQ} {l0 l1 : Option Value} {x : Nat} {lt : aL} {st : List Value} : aX d iL_law 546 (l0 :: l1 :: some (.ref x) :: lt) (st) σ Q ↔ aX d iL_law 547 (l0 :: l1 :: some (.ref x) :: lt) (.ref x :: st) σ Q := X_aloadn kL_law_546 rfl rfl
theorem sL_law_546n {d : Nat} {σ : aS} {Q : aQ} {l0 l1 : Option Value} {lt : aL} {st : List Value} : aX d iL_law 546 (l0 :: l1 :: some .null :: lt) (st) σ Q ↔ aX d iL_law 547 (l0 :: l1 :: some .null :: lt) (.null :: st) σ Q := X_aloadn kL_law_546 rfl rfl
theorem kL_law_547 : aCode iL_law 547 = some (.aload_n 0, 1) := by decide +kernel
theorem sL_law_547 {d : Nat} {σ : aS} {Q : aQ} {x : Nat} {lt : aL} {st : List Value} : aX d iL_law 547 (some (.ref x) :: lt) (st) σ Q ↔ aX d iL_law 548 (some (.ref x) :: lt) (.ref x :: st) σ Q := X_aloadn kL_law_547 rfl rfl
theorem kL_law_548 : aCode iL_law 548 = some (.iload_n 3, 1) := by decide +kernel
theorem sL_law_548 {d : Nat} {σ : aS} {Q : aQ} {l0 l1 l2 : Option Value} {x : Int32} {lt : aL} {st : List Value} : aX d iL_law 548 (l0 :: l1 :: l2 :: some (.int x) :: lt) (st) σ Q ↔ aX d iL_law 549 (l0 :: l1 :: l2 :: some (.int x) :: lt) (.int x :: st) σ Q := X_iloadn kL_law_548 rfl
theorem kL_law_549 : aCode iL_law 549 = some (.iconst 1, 1) := by decide +kernel
theorem sL_law_549 {d : Nat} {σ : aS} {Q : aQ} {ls : aL} {st : List Value} : aX d iL_law 549 (ls) (st) σ Q ↔ aX d iL_law 550 (ls) (.int (nI 1) :: st) σ Q := X_iconst kL_law_549 (by decide +kernel)
theorem kL_law_550 : aCode iL_law 550 = some (.iadd, 1) := by decide +kernel
theorem sL_law_550 {d : Nat} {σ : aS} {Q : aQ} {x y : Int32} {ls : aL} {st : List Value} : aX d iL_law 550 (ls) (.int y :: .int x :: st) σ Q ↔ aX d iL_law 551 (ls) (.int (x + y) :: st) σ Q := X_iadd kL_law_550
theorem kL_law_551 : aCode iL_law 551 = some (.iaload, 1) := by decide +kernel
theorem sL_law_551 {d : Nat} {σ : aS} {Q : aQ} {a : Nat} {i : Int32} {ls : aL} {st : List Value} : aX d iL_law 551 (ls) (.int i :: .ref a :: st) σ Q ↔ ∃ x, aRowR σ a = some x ∧ vp_in i x.1 ∧ aX d iL_law 552 (ls) (.int (x.2 i.toNatClampNeg) :: st) σ Q := X_iaload kL_law_551
theorem kL_law_552 : aCode iL_law 552 = some (.aload_n 0, 1) := by decide +kernel
theorem sL_law_552 {d : Nat} {σ : aS} {Q : aQ} {x : Nat} {lt : aL} {st : List Value} : aX d iL_law 552 (some (.ref x) :: lt) (st) σ Q ↔ aX d iL_law 553 (some (.ref x) :: lt) (.ref x :: st) σ Q := X_aloadn kL_law_552 rfl rfl
theorem kL_law_553 : aCode iL_law 553 = some (.iload_n 3, 1) := by decide +kernel
theorem sL_law_553 {d : Nat} {σ : aS} {Q : aQ} {l0 l1 l2 : Option Value} {x : Int32} {lt : aL} {st : List Value} : aX d iL_law 553 (l0 :: l1 :: l2 :: some (.int x) :: lt) (st) σ Q ↔ aX d iL_law 554 (l0 :: l1 :: l2 :: some (.int x) :: lt) (.int x :: st) σ Q := X_iloadn kL_law_553 rfl
theorem kL_law_554 : aCode iL_law 554 = some (.iconst 2, 1) := by decide +kernel
theorem sL_law_554 {d : Nat} {σ : aS} {Q : aQ} {ls : aL} {st : List Value} : aX d iL_law 554 (ls) (st) σ Q ↔ aX d iL_law 555 (ls) (.int (nI 2) :: st) σ Q := X_iconst kL_law_554 (by decide +kernel)
theorem kL_law_555 : aCode iL_law 555 = some (.iadd, 1) := by decide +kernel
theorem sL_law_555 {d : Nat} {σ : aS} {Q : aQ} {x y : Int32} {ls : aL} {st : List Value} : aX d iL_law 555 (ls) (.int y :: .int x :: st) σ Q ↔ aX d iL_law 556 (ls) (.int (x + y) :: st) σ Q := X_iadd kL_law_555
theorem kL_law_556 : aCode iL_law 556 = some (.iaload, 1) := by decide +kernel
theorem sL_law_556 {d : Nat} {σ : aS} {Q : aQ} {a : Nat} {i : Int32} {ls : aL} {st : List Value} : aX d iL_law 556 (ls) (.int i :: .ref a :: st) σ Q ↔ ∃ x, aRowR σ a = some x ∧ vp_in i x.1 ∧ aX d iL_law 557 (ls) (.int (x.2 i.toNatClampNeg) :: st) σ Q := X_iaload kL_law_556
theorem kL_law_557 : aCode iL_law 557 = some (.invokevirtual 76, 3) := by decide +kernel
theorem sL_law_557 {d : Nat} {σ : aS} {Q : aQ} {b : Nat} {p0 : Int32} {p1 : Int32} {v0 : Value} {ls : aL} : aX (d + 1) iL_law 557 (ls) (.int p1 :: .int p0 :: .ref b :: v0 :: []) σ Q ↔ aIs σ b 7 ∧ aX d iX7_bestWord 0 [some (.ref b), some (.int p0), some (.int p1), none, none, none, none] [] σ (fun r τ => aX (d + 1) iL_law 560 (ls) (aret r (v0 :: [])) τ Q) := X_invv (N := 2) (As := [.int p1, .int p0]) (w := 898) kL_law_557 (by decide +kernel) (by decide +kernel) rfl rfl (by simp only [List.length_cons, List.length_nil]; omega) (by simp only [List.length_cons, List.length_nil]; omega) (by decide +kernel) rfl (Nat.le_of_ble_eq_true rfl)
theorem kL_law_560 : aCode iL_law 560 = some (.if_icmp .eq 179, 3) := by decide +kernel
theorem sL_law_560 {d : Nat} {σ : aS} {Q : aQ} {x y : Int32} {ls : aL} {st : List Value} : aX d iL_law 560 (ls) (.int y :: .int x :: st) σ Q ↔ (if x = y then aX d iL_law 739 (ls) (st) σ Q else aX d iL_law 563 (ls) (st) σ Q) := by rw [X_icmp kL_law_560 (t := 739) (by decide)]; simp only [aCmp_eq]
theorem kL_law_563 : aCode iL_law 563 = some (.iconst 0, 1) := by decide +kernel
theorem sL_law_563 {d : Nat} {σ : aS} {Q : aQ} {ls : aL} {st : List Value} : aX d iL_law 563 (ls) (st) σ Q ↔ aX d iL_law 564 (ls) (.int (nI 0) :: st) σ Q := X_iconst kL_law_563 (by decide +kernel)
theorem kL_law_564 : aCode iL_law 564 = some (.ireturn, 1) := by decide +kernel
theorem sL_law_564 {d : Nat} {σ : aS} {Q : aQ} {v : Int32} {ls : aL} : aX d iL_law 564 (ls) ([.int v]) σ Q ↔ (narrow .boolean (.int v) = .int v ∧ Q (some (.int v)) σ) := X_zret kL_law_564 (by decide +kernel)
theorem kL_law_565 : aCode iL_law 565 = some (.aload_n 1, 1) := by decide +kernel
theorem sL_law_565 {d : Nat} {σ : aS} {Q : aQ} {l0 : Option Value} {x : Nat} {lt : aL} {st : List Value} : aX d iL_law 565 (l0 :: some (.ref x) :: lt) (st) σ Q ↔ aX d iL_law 566 (l0 :: some (.ref x) :: lt) (.ref x :: st) σ Q := X_aloadn kL_law_565 rfl rfl
theorem sL_law_565n {d : Nat} {σ : aS} {Q : aQ} {l0 : Option Value} {lt : aL} {st : List Value} : aX d iL_law 565 (l0 :: some .null :: lt) (st) σ Q ↔ aX d iL_law 566 (l0 :: some .null :: lt) (.null :: st) σ Q := X_aloadn kL_law_565 rfl rfl
theorem kL_law_566 : aCode iL_law 566 = some (.aload_n 0, 1) := by decide +kernel
theorem sL_law_566 {d : Nat} {σ : aS} {Q : aQ} {x : Nat} {lt : aL} {st : List Value} : aX d iL_law 566 (some (.ref x) :: lt) (st) σ Q ↔ aX d iL_law 567 (some (.ref x) :: lt) (.ref x :: st) σ Q := X_aloadn kL_law_566 rfl rfl
theorem kL_law_567 : aCode iL_law 567 = some (.iload_n 3, 1) := by decide +kernel
theorem sL_law_567 {d : Nat} {σ : aS} {Q : aQ} {l0 l1 l2 : Option Value} {x : Int32} {lt : aL} {st : List Value} : aX d iL_law 567 (l0 :: l1 :: l2 :: some (.int x) :: lt) (st) σ Q ↔ aX d iL_law 568 (l0 :: l1 :: l2 :: some (.int x) :: lt) (.int x :: st) σ Q := X_iloadn kL_law_567 rfl
theorem kL_law_568 : aCode iL_law 568 = some (.iconst 1, 1) := by decide +kernel
theorem sL_law_568 {d : Nat} {σ : aS} {Q : aQ} {ls : aL} {st : List Value} : aX d iL_law 568 (ls) (st) σ Q ↔ aX d iL_law 569 (ls) (.int (nI 1) :: st) σ Q := X_iconst kL_law_568 (by decide +kernel)
theorem kL_law_569 : aCode iL_law 569 = some (.iadd, 1) := by decide +kernel
theorem sL_law_569 {d : Nat} {σ : aS} {Q : aQ} {x y : Int32} {ls : aL} {st : List Value} : aX d iL_law 569 (ls) (.int y :: .int x :: st) σ Q ↔ aX d iL_law 570 (ls) (.int (x + y) :: st) σ Q := X_iadd kL_law_569
theorem kL_law_570 : aCode iL_law 570 = some (.iaload, 1) := by decide +kernel
theorem sL_law_570 {d : Nat} {σ : aS} {Q : aQ} {a : Nat} {i : Int32} {ls : aL} {st : List Value} : aX d iL_law 570 (ls) (.int i :: .ref a :: st) σ Q ↔ ∃ x, aRowR σ a = some x ∧ vp_in i x.1 ∧ aX d iL_law 571 (ls) (.int (x.2 i.toNatClampNeg) :: st) σ Q := X_iaload kL_law_570
theorem kL_law_571 : aCode iL_law 571 = some (.invokevirtual 77, 3) := by decide +kernel
theorem sL_law_571 {d : Nat} {σ : aS} {Q : aQ} {b : Nat} {p0 : Int32} {ls : aL} : aX (d + 1) iL_law 571 (ls) (.int p0 :: .ref b :: []) σ Q ↔ aIs σ b 6 ∧ aX d iX6_pointsThen 0 [some (.ref b), some (.int p0)] [] σ (fun r τ => aX (d + 1) iL_law 574 (ls) (aret r ([])) τ Q) := X_invv (N := 1) (As := [.int p0]) (w := 537) kL_law_571 (by decide +kernel) (by decide +kernel) rfl rfl (by simp only [List.length_cons, List.length_nil]; omega) (by simp only [List.length_cons, List.length_nil]; omega) (by decide +kernel) rfl (Nat.le_of_ble_eq_true rfl)
theorem kL_law_574 : aCode iL_law 574 = some (.aload_n 2, 1) := by decide +kernel
theorem sL_law_574 {d : Nat} {σ : aS} {Q : aQ} {l0 l1 : Option Value} {x : Nat} {lt : aL} {st : List Value} : aX d iL_law 574 (l0 :: l1 :: some (.ref x) :: lt) (st) σ Q ↔ aX d iL_law 575 (l0 :: l1 :: some (.ref x) :: lt) (.ref x :: st) σ Q := X_aloadn kL_law_574 rfl rfl
theorem sL_law_574n {d : Nat} {σ : aS} {Q : aQ} {l0 l1 : Option Value} {lt : aL} {st : List Value} : aX d iL_law 574 (l0 :: l1 :: some .null :: lt) (st) σ Q ↔ aX d iL_law 575 (l0 :: l1 :: some .null :: lt) (.null :: st) σ Q := X_aloadn kL_law_574 rfl rfl
theorem kL_law_575 : aCode iL_law 575 = some (.aload_n 0, 1) := by decide +kernel
theorem sL_law_575 {d : Nat} {σ : aS} {Q : aQ} {x : Nat} {lt : aL} {st : List Value} : aX d iL_law 575 (some (.ref x) :: lt) (st) σ Q ↔ aX d iL_law 576 (some (.ref x) :: lt) (.ref x :: st) σ Q := X_aloadn kL_law_575 rfl rfl
theorem kL_law_576 : aCode iL_law 576 = some (.iload_n 3, 1) := by decide +kernel
theorem sL_law_576 {d : Nat} {σ : aS} {Q : aQ} {l0 l1 l2 : Option Value} {x : Int32} {lt : aL} {st : List Value} : aX d iL_law 576 (l0 :: l1 :: l2 :: some (.int x) :: lt) (st) σ Q ↔ aX d iL_law 577 (l0 :: l1 :: l2 :: some (.int x) :: lt) (.int x :: st) σ Q := X_iloadn kL_law_576 rfl
theorem kL_law_577 : aCode iL_law 577 = some (.iconst 1, 1) := by decide +kernel
theorem sL_law_577 {d : Nat} {σ : aS} {Q : aQ} {ls : aL} {st : List Value} : aX d iL_law 577 (ls) (st) σ Q ↔ aX d iL_law 578 (ls) (.int (nI 1) :: st) σ Q := X_iconst kL_law_577 (by decide +kernel)
theorem kL_law_578 : aCode iL_law 578 = some (.iadd, 1) := by decide +kernel
theorem sL_law_578 {d : Nat} {σ : aS} {Q : aQ} {x y : Int32} {ls : aL} {st : List Value} : aX d iL_law 578 (ls) (.int y :: .int x :: st) σ Q ↔ aX d iL_law 579 (ls) (.int (x + y) :: st) σ Q := X_iadd kL_law_578
theorem kL_law_579 : aCode iL_law 579 = some (.iaload, 1) := by decide +kernel
theorem sL_law_579 {d : Nat} {σ : aS} {Q : aQ} {a : Nat} {i : Int32} {ls : aL} {st : List Value} : aX d iL_law 579 (ls) (.int i :: .ref a :: st) σ Q ↔ ∃ x, aRowR σ a = some x ∧ vp_in i x.1 ∧ aX d iL_law 580 (ls) (.int (x.2 i.toNatClampNeg) :: st) σ Q := X_iaload kL_law_579
theorem kL_law_580 : aCode iL_law 580 = some (.invokevirtual 80, 3) := by decide +kernel
theorem sL_law_580 {d : Nat} {σ : aS} {Q : aQ} {b : Nat} {p0 : Int32} {v0 : Value} {ls : aL} : aX (d + 1) iL_law 580 (ls) (.int p0 :: .ref b :: v0 :: []) σ Q ↔ aIs σ b 7 ∧ aX d iX7_pointsThen 0 [some (.ref b), some (.int p0), none] [] σ (fun r τ => aX (d + 1) iL_law 583 (ls) (aret r (v0 :: [])) τ Q) := X_invv (N := 1) (As := [.int p0]) (w := 906) kL_law_580 (by decide +kernel) (by decide +kernel) rfl rfl (by simp only [List.length_cons, List.length_nil]; omega) (by simp only [List.length_cons, List.length_nil]; omega) (by decide +kernel) rfl (Nat.le_of_ble_eq_true rfl)
theorem kL_law_583 : aCode iL_law 583 = some (.if_icmp .eq 156, 3) := by decide +kernel
theorem sL_law_583 {d : Nat} {σ : aS} {Q : aQ} {x y : Int32} {ls : aL} {st : List Value} : aX d iL_law 583 (ls) (.int y :: .int x :: st) σ Q ↔ (if x = y then aX d iL_law 739 (ls) (st) σ Q else aX d iL_law 586 (ls) (st) σ Q) := by rw [X_icmp kL_law_583 (t := 739) (by decide)]; simp only [aCmp_eq]
theorem kL_law_586 : aCode iL_law 586 = some (.iconst 0, 1) := by decide +kernel
theorem sL_law_586 {d : Nat} {σ : aS} {Q : aQ} {ls : aL} {st : List Value} : aX d iL_law 586 (ls) (st) σ Q ↔ aX d iL_law 587 (ls) (.int (nI 0) :: st) σ Q := X_iconst kL_law_586 (by decide +kernel)
theorem kL_law_587 : aCode iL_law 587 = some (.ireturn, 1) := by decide +kernel
theorem sL_law_587 {d : Nat} {σ : aS} {Q : aQ} {v : Int32} {ls : aL} : aX d iL_law 587 (ls) ([.int v]) σ Q ↔ (narrow .boolean (.int v) = .int v ∧ Q (some (.int v)) σ) := X_zret kL_law_587 (by decide +kernel)
theorem kL_law_588 : aCode iL_law 588 = some (.aload_n 1, 1) := by decide +kernel
theorem sL_law_588 {d : Nat} {σ : aS} {Q : aQ} {l0 : Option Value} {x : Nat} {lt : aL} {st : List Value} : aX d iL_law 588 (l0 :: some (.ref x) :: lt) (st) σ Q ↔ aX d iL_law 589 (l0 :: some (.ref x) :: lt) (.ref x :: st) σ Q := X_aloadn kL_law_588 rfl rfl
theorem sL_law_588n {d : Nat} {σ : aS} {Q : aQ} {l0 : Option Value} {lt : aL} {st : List Value} : aX d iL_law 588 (l0 :: some .null :: lt) (st) σ Q ↔ aX d iL_law 589 (l0 :: some .null :: lt) (.null :: st) σ Q := X_aloadn kL_law_588 rfl rfl
theorem kL_law_589 : aCode iL_law 589 = some (.aload_n 0, 1) := by decide +kernel
theorem sL_law_589 {d : Nat} {σ : aS} {Q : aQ} {x : Nat} {lt : aL} {st : List Value} : aX d iL_law 589 (some (.ref x) :: lt) (st) σ Q ↔ aX d iL_law 590 (some (.ref x) :: lt) (.ref x :: st) σ Q := X_aloadn kL_law_589 rfl rfl
theorem kL_law_590 : aCode iL_law 590 = some (.iload_n 3, 1) := by decide +kernel
theorem sL_law_590 {d : Nat} {σ : aS} {Q : aQ} {l0 l1 l2 : Option Value} {x : Int32} {lt : aL} {st : List Value} : aX d iL_law 590 (l0 :: l1 :: l2 :: some (.int x) :: lt) (st) σ Q ↔ aX d iL_law 591 (l0 :: l1 :: l2 :: some (.int x) :: lt) (.int x :: st) σ Q := X_iloadn kL_law_590 rfl
theorem kL_law_591 : aCode iL_law 591 = some (.iconst 1, 1) := by decide +kernel
theorem sL_law_591 {d : Nat} {σ : aS} {Q : aQ} {ls : aL} {st : List Value} : aX d iL_law 591 (ls) (st) σ Q ↔ aX d iL_law 592 (ls) (.int (nI 1) :: st) σ Q := X_iconst kL_law_591 (by decide +kernel)
theorem kL_law_592 : aCode iL_law 592 = some (.iadd, 1) := by decide +kernel
theorem sL_law_592 {d : Nat} {σ : aS} {Q : aQ} {x y : Int32} {ls : aL} {st : List Value} : aX d iL_law 592 (ls) (.int y :: .int x :: st) σ Q ↔ aX d iL_law 593 (ls) (.int (x + y) :: st) σ Q := X_iadd kL_law_592
theorem kL_law_593 : aCode iL_law 593 = some (.iaload, 1) := by decide +kernel
theorem sL_law_593 {d : Nat} {σ : aS} {Q : aQ} {a : Nat} {i : Int32} {ls : aL} {st : List Value} : aX d iL_law 593 (ls) (.int i :: .ref a :: st) σ Q ↔ ∃ x, aRowR σ a = some x ∧ vp_in i x.1 ∧ aX d iL_law 594 (ls) (.int (x.2 i.toNatClampNeg) :: st) σ Q := X_iaload kL_law_593
theorem kL_law_594 : aCode iL_law 594 = some (.i2l, 1) := by decide +kernel
theorem sL_law_594 {d : Nat} {σ : aS} {Q : aQ} {x : Int32} {ls : aL} {st : List Value} : aX d iL_law 594 (ls) (.int x :: st) σ Q ↔ aX d iL_law 595 (ls) (.long x.toInt64 :: st) σ Q := X_i2l kL_law_594
theorem kL_law_595 : aCode iL_law 595 = some (.bipush 32, 2) := by decide +kernel
theorem sL_law_595 {d : Nat} {σ : aS} {Q : aQ} {ls : aL} {st : List Value} : aX d iL_law 595 (ls) (st) σ Q ↔ aX d iL_law 597 (ls) (.int (nI 32) :: st) σ Q := X_bipush kL_law_595 (by decide +kernel)
theorem kL_law_597 : aCode iL_law 597 = some (.lshl, 1) := by decide +kernel
theorem sL_law_597 {d : Nat} {σ : aS} {Q : aQ} {x : Int64} {y : Int32} {ls : aL} {st : List Value} : aX d iL_law 597 (ls) (.int y :: .long x :: st) σ Q ↔ aX d iL_law 598 (ls) (.long (x <<< (y.toInt64 &&& 63)) :: st) σ Q := X_lshl kL_law_597
theorem kL_law_598 : aCode iL_law 598 = some (.aload_n 0, 1) := by decide +kernel
theorem sL_law_598 {d : Nat} {σ : aS} {Q : aQ} {x : Nat} {lt : aL} {st : List Value} : aX d iL_law 598 (some (.ref x) :: lt) (st) σ Q ↔ aX d iL_law 599 (some (.ref x) :: lt) (.ref x :: st) σ Q := X_aloadn kL_law_598 rfl rfl
theorem kL_law_599 : aCode iL_law 599 = some (.iload_n 3, 1) := by decide +kernel
theorem sL_law_599 {d : Nat} {σ : aS} {Q : aQ} {l0 l1 l2 : Option Value} {x : Int32} {lt : aL} {st : List Value} : aX d iL_law 599 (l0 :: l1 :: l2 :: some (.int x) :: lt) (st) σ Q ↔ aX d iL_law 600 (l0 :: l1 :: l2 :: some (.int x) :: lt) (.int x :: st) σ Q := X_iloadn kL_law_599 rfl
theorem kL_law_600 : aCode iL_law 600 = some (.iconst 2, 1) := by decide +kernel
theorem sL_law_600 {d : Nat} {σ : aS} {Q : aQ} {ls : aL} {st : List Value} : aX d iL_law 600 (ls) (st) σ Q ↔ aX d iL_law 601 (ls) (.int (nI 2) :: st) σ Q := X_iconst kL_law_600 (by decide +kernel)
theorem kL_law_601 : aCode iL_law 601 = some (.iadd, 1) := by decide +kernel
theorem sL_law_601 {d : Nat} {σ : aS} {Q : aQ} {x y : Int32} {ls : aL} {st : List Value} : aX d iL_law 601 (ls) (.int y :: .int x :: st) σ Q ↔ aX d iL_law 602 (ls) (.int (x + y) :: st) σ Q := X_iadd kL_law_601
theorem kL_law_602 : aCode iL_law 602 = some (.iaload, 1) := by decide +kernel
theorem sL_law_602 {d : Nat} {σ : aS} {Q : aQ} {a : Nat} {i : Int32} {ls : aL} {st : List Value} : aX d iL_law 602 (ls) (.int i :: .ref a :: st) σ Q ↔ ∃ x, aRowR σ a = some x ∧ vp_in i x.1 ∧ aX d iL_law 603 (ls) (.int (x.2 i.toNatClampNeg) :: st) σ Q := X_iaload kL_law_602
theorem kL_law_603 : aCode iL_law 603 = some (.i2l, 1) := by decide +kernel
theorem sL_law_603 {d : Nat} {σ : aS} {Q : aQ} {x : Int32} {ls : aL} {st : List Value} : aX d iL_law 603 (ls) (.int x :: st) σ Q ↔ aX d iL_law 604 (ls) (.long x.toInt64 :: st) σ Q := X_i2l kL_law_603
theorem kL_law_604 : aCode iL_law 604 = some (.ldc2_w 81, 3) := by decide +kernel
theorem sL_law_604 {d : Nat} {σ : aS} {Q : aQ} {ls : aL} {st : List Value} : aX d iL_law 604 (ls) (st) σ Q ↔ aX d iL_law 607 (ls) (.long (lN 4294967295) :: st) σ Q := X_ldc2 (w := 971) kL_law_604 (by decide +kernel)
theorem kL_law_607 : aCode iL_law 607 = some (.land, 1) := by decide +kernel
theorem sL_law_607 {d : Nat} {σ : aS} {Q : aQ} {x y : Int64} {ls : aL} {st : List Value} : aX d iL_law 607 (ls) (.long y :: .long x :: st) σ Q ↔ aX d iL_law 608 (ls) (.long (x &&& y) :: st) σ Q := X_land kL_law_607
theorem kL_law_608 : aCode iL_law 608 = some (.lor, 1) := by decide +kernel
theorem sL_law_608 {d : Nat} {σ : aS} {Q : aQ} {x y : Int64} {ls : aL} {st : List Value} : aX d iL_law 608 (ls) (.long y :: .long x :: st) σ Q ↔ aX d iL_law 609 (ls) (.long (x ||| y) :: st) σ Q := X_lor kL_law_608
theorem kL_law_609 : aCode iL_law 609 = some (.invokevirtual 83, 3) := by decide +kernel
theorem sL_law_609 {d : Nat} {σ : aS} {Q : aQ} {b : Nat} {p0 : Int64} {ls : aL} : aX (d + 1) iL_law 609 (ls) (.long p0 :: .ref b :: []) σ Q ↔ aIs σ b 6 ∧ aX d iX6_put 0 [some (.ref b), some (.long p0), none] [] σ (fun r τ => aX (d + 1) iL_law 612 (ls) (aret r ([])) τ Q) := X_invv (N := 1) (As := [.long p0]) (w := 547) kL_law_609 (by decide +kernel) (by decide +kernel) rfl rfl (by simp only [List.length_cons, List.length_nil]; omega) (by simp only [List.length_cons, List.length_nil]; omega) (by decide +kernel) rfl (Nat.le_of_ble_eq_true rfl)
theorem kL_law_612 : aCode iL_law 612 = some (.aload_n 2, 1) := by decide +kernel
theorem sL_law_612 {d : Nat} {σ : aS} {Q : aQ} {l0 l1 : Option Value} {x : Nat} {lt : aL} {st : List Value} : aX d iL_law 612 (l0 :: l1 :: some (.ref x) :: lt) (st) σ Q ↔ aX d iL_law 613 (l0 :: l1 :: some (.ref x) :: lt) (.ref x :: st) σ Q := X_aloadn kL_law_612 rfl rfl
theorem sL_law_612n {d : Nat} {σ : aS} {Q : aQ} {l0 l1 : Option Value} {lt : aL} {st : List Value} : aX d iL_law 612 (l0 :: l1 :: some .null :: lt) (st) σ Q ↔ aX d iL_law 613 (l0 :: l1 :: some .null :: lt) (.null :: st) σ Q := X_aloadn kL_law_612 rfl rfl
theorem kL_law_613 : aCode iL_law 613 = some (.aload_n 0, 1) := by decide +kernel
theorem sL_law_613 {d : Nat} {σ : aS} {Q : aQ} {x : Nat} {lt : aL} {st : List Value} : aX d iL_law 613 (some (.ref x) :: lt) (st) σ Q ↔ aX d iL_law 614 (some (.ref x) :: lt) (.ref x :: st) σ Q := X_aloadn kL_law_613 rfl rfl
theorem kL_law_614 : aCode iL_law 614 = some (.iload_n 3, 1) := by decide +kernel
theorem sL_law_614 {d : Nat} {σ : aS} {Q : aQ} {l0 l1 l2 : Option Value} {x : Int32} {lt : aL} {st : List Value} : aX d iL_law 614 (l0 :: l1 :: l2 :: some (.int x) :: lt) (st) σ Q ↔ aX d iL_law 615 (l0 :: l1 :: l2 :: some (.int x) :: lt) (.int x :: st) σ Q := X_iloadn kL_law_614 rfl
theorem kL_law_615 : aCode iL_law 615 = some (.iconst 1, 1) := by decide +kernel
theorem sL_law_615 {d : Nat} {σ : aS} {Q : aQ} {ls : aL} {st : List Value} : aX d iL_law 615 (ls) (st) σ Q ↔ aX d iL_law 616 (ls) (.int (nI 1) :: st) σ Q := X_iconst kL_law_615 (by decide +kernel)
theorem kL_law_616 : aCode iL_law 616 = some (.iadd, 1) := by decide +kernel
theorem sL_law_616 {d : Nat} {σ : aS} {Q : aQ} {x y : Int32} {ls : aL} {st : List Value} : aX d iL_law 616 (ls) (.int y :: .int x :: st) σ Q ↔ aX d iL_law 617 (ls) (.int (x + y) :: st) σ Q := X_iadd kL_law_616
theorem kL_law_617 : aCode iL_law 617 = some (.iaload, 1) := by decide +kernel
theorem sL_law_617 {d : Nat} {σ : aS} {Q : aQ} {a : Nat} {i : Int32} {ls : aL} {st : List Value} : aX d iL_law 617 (ls) (.int i :: .ref a :: st) σ Q ↔ ∃ x, aRowR σ a = some x ∧ vp_in i x.1 ∧ aX d iL_law 618 (ls) (.int (x.2 i.toNatClampNeg) :: st) σ Q := X_iaload kL_law_617
theorem kL_law_618 : aCode iL_law 618 = some (.i2l, 1) := by decide +kernel
theorem sL_law_618 {d : Nat} {σ : aS} {Q : aQ} {x : Int32} {ls : aL} {st : List Value} : aX d iL_law 618 (ls) (.int x :: st) σ Q ↔ aX d iL_law 619 (ls) (.long x.toInt64 :: st) σ Q := X_i2l kL_law_618
theorem kL_law_619 : aCode iL_law 619 = some (.bipush 32, 2) := by decide +kernel
theorem sL_law_619 {d : Nat} {σ : aS} {Q : aQ} {ls : aL} {st : List Value} : aX d iL_law 619 (ls) (st) σ Q ↔ aX d iL_law 621 (ls) (.int (nI 32) :: st) σ Q := X_bipush kL_law_619 (by decide +kernel)
theorem kL_law_621 : aCode iL_law 621 = some (.lshl, 1) := by decide +kernel
theorem sL_law_621 {d : Nat} {σ : aS} {Q : aQ} {x : Int64} {y : Int32} {ls : aL} {st : List Value} : aX d iL_law 621 (ls) (.int y :: .long x :: st) σ Q ↔ aX d iL_law 622 (ls) (.long (x <<< (y.toInt64 &&& 63)) :: st) σ Q := X_lshl kL_law_621
theorem kL_law_622 : aCode iL_law 622 = some (.aload_n 0, 1) := by decide +kernel
theorem sL_law_622 {d : Nat} {σ : aS} {Q : aQ} {x : Nat} {lt : aL} {st : List Value} : aX d iL_law 622 (some (.ref x) :: lt) (st) σ Q ↔ aX d iL_law 623 (some (.ref x) :: lt) (.ref x :: st) σ Q := X_aloadn kL_law_622 rfl rfl
theorem kL_law_623 : aCode iL_law 623 = some (.iload_n 3, 1) := by decide +kernel
theorem sL_law_623 {d : Nat} {σ : aS} {Q : aQ} {l0 l1 l2 : Option Value} {x : Int32} {lt : aL} {st : List Value} : aX d iL_law 623 (l0 :: l1 :: l2 :: some (.int x) :: lt) (st) σ Q ↔ aX d iL_law 624 (l0 :: l1 :: l2 :: some (.int x) :: lt) (.int x :: st) σ Q := X_iloadn kL_law_623 rfl
theorem kL_law_624 : aCode iL_law 624 = some (.iconst 2, 1) := by decide +kernel
theorem sL_law_624 {d : Nat} {σ : aS} {Q : aQ} {ls : aL} {st : List Value} : aX d iL_law 624 (ls) (st) σ Q ↔ aX d iL_law 625 (ls) (.int (nI 2) :: st) σ Q := X_iconst kL_law_624 (by decide +kernel)
theorem kL_law_625 : aCode iL_law 625 = some (.iadd, 1) := by decide +kernel
theorem sL_law_625 {d : Nat} {σ : aS} {Q : aQ} {x y : Int32} {ls : aL} {st : List Value} : aX d iL_law 625 (ls) (.int y :: .int x :: st) σ Q ↔ aX d iL_law 626 (ls) (.int (x + y) :: st) σ Q := X_iadd kL_law_625
theorem kL_law_626 : aCode iL_law 626 = some (.iaload, 1) := by decide +kernel
theorem sL_law_626 {d : Nat} {σ : aS} {Q : aQ} {a : Nat} {i : Int32} {ls : aL} {st : List Value} : aX d iL_law 626 (ls) (.int i :: .ref a :: st) σ Q ↔ ∃ x, aRowR σ a = some x ∧ vp_in i x.1 ∧ aX d iL_law 627 (ls) (.int (x.2 i.toNatClampNeg) :: st) σ Q := X_iaload kL_law_626
theorem kL_law_627 : aCode iL_law 627 = some (.i2l, 1) := by decide +kernel
theorem sL_law_627 {d : Nat} {σ : aS} {Q : aQ} {x : Int32} {ls : aL} {st : List Value} : aX d iL_law 627 (ls) (.int x :: st) σ Q ↔ aX d iL_law 628 (ls) (.long x.toInt64 :: st) σ Q := X_i2l kL_law_627
theorem kL_law_628 : aCode iL_law 628 = some (.ldc2_w 81, 3) := by decide +kernel
theorem sL_law_628 {d : Nat} {σ : aS} {Q : aQ} {ls : aL} {st : List Value} : aX d iL_law 628 (ls) (st) σ Q ↔ aX d iL_law 631 (ls) (.long (lN 4294967295) :: st) σ Q := X_ldc2 (w := 971) kL_law_628 (by decide +kernel)
theorem kL_law_631 : aCode iL_law 631 = some (.land, 1) := by decide +kernel
theorem sL_law_631 {d : Nat} {σ : aS} {Q : aQ} {x y : Int64} {ls : aL} {st : List Value} : aX d iL_law 631 (ls) (.long y :: .long x :: st) σ Q ↔ aX d iL_law 632 (ls) (.long (x &&& y) :: st) σ Q := X_land kL_law_631
theorem kL_law_632 : aCode iL_law 632 = some (.lor, 1) := by decide +kernel
theorem sL_law_632 {d : Nat} {σ : aS} {Q : aQ} {x y : Int64} {ls : aL} {st : List Value} : aX d iL_law 632 (ls) (.long y :: .long x :: st) σ Q ↔ aX d iL_law 633 (ls) (.long (x ||| y) :: st) σ Q := X_lor kL_law_632
theorem kL_law_633 : aCode iL_law 633 = some (.invokevirtual 87, 3) := by decide +kernel
theorem sL_law_633 {d : Nat} {σ : aS} {Q : aQ} {b : Nat} {p0 : Int64} {v0 : Value} {ls : aL} : aX (d + 1) iL_law 633 (ls) (.long p0 :: .ref b :: v0 :: []) σ Q ↔ aIs σ b 7 ∧ aX d iX7_put 0 [some (.ref b), some (.long p0), none, none, none, none, none, none] [] σ (fun r τ => aX (d + 1) iL_law 636 (ls) (aret r (v0 :: [])) τ Q) := X_invv (N := 1) (As := [.long p0]) (w := 910) kL_law_633 (by decide +kernel) (by decide +kernel) rfl rfl (by simp only [List.length_cons, List.length_nil]; omega) (by simp only [List.length_cons, List.length_nil]; omega) (by decide +kernel) rfl (Nat.le_of_ble_eq_true rfl)
theorem kL_law_636 : aCode iL_law 636 = some (.if_icmp .eq 103, 3) := by decide +kernel
theorem sL_law_636 {d : Nat} {σ : aS} {Q : aQ} {x y : Int32} {ls : aL} {st : List Value} : aX d iL_law 636 (ls) (.int y :: .int x :: st) σ Q ↔ (if x = y then aX d iL_law 739 (ls) (st) σ Q else aX d iL_law 639 (ls) (st) σ Q) := by rw [X_icmp kL_law_636 (t := 739) (by decide)]; simp only [aCmp_eq]
theorem kL_law_639 : aCode iL_law 639 = some (.iconst 0, 1) := by decide +kernel
theorem sL_law_639 {d : Nat} {σ : aS} {Q : aQ} {ls : aL} {st : List Value} : aX d iL_law 639 (ls) (st) σ Q ↔ aX d iL_law 640 (ls) (.int (nI 0) :: st) σ Q := X_iconst kL_law_639 (by decide +kernel)
theorem kL_law_640 : aCode iL_law 640 = some (.ireturn, 1) := by decide +kernel
theorem sL_law_640 {d : Nat} {σ : aS} {Q : aQ} {v : Int32} {ls : aL} : aX d iL_law 640 (ls) ([.int v]) σ Q ↔ (narrow .boolean (.int v) = .int v ∧ Q (some (.int v)) σ) := X_zret kL_law_640 (by decide +kernel)
theorem kL_law_641 : aCode iL_law 641 = some (.aload_n 1, 1) := by decide +kernel
theorem sL_law_641 {d : Nat} {σ : aS} {Q : aQ} {l0 : Option Value} {x : Nat} {lt : aL} {st : List Value} : aX d iL_law 641 (l0 :: some (.ref x) :: lt) (st) σ Q ↔ aX d iL_law 642 (l0 :: some (.ref x) :: lt) (.ref x :: st) σ Q := X_aloadn kL_law_641 rfl rfl
theorem sL_law_641n {d : Nat} {σ : aS} {Q : aQ} {l0 : Option Value} {lt : aL} {st : List Value} : aX d iL_law 641 (l0 :: some .null :: lt) (st) σ Q ↔ aX d iL_law 642 (l0 :: some .null :: lt) (.null :: st) σ Q := X_aloadn kL_law_641 rfl rfl
theorem kL_law_642 : aCode iL_law 642 = some (.invokevirtual 88, 3) := by decide +kernel
theorem sL_law_642 {d : Nat} {σ : aS} {Q : aQ} {b : Nat} {ls : aL} : aX (d + 1) iL_law 642 (ls) (.ref b :: []) σ Q ↔ aIs σ b 6 ∧ aX d iX6_wipe 0 [some (.ref b)] [] σ (fun r τ => aX (d + 1) iL_law 645 (ls) (aret r ([])) τ Q) := X_invv (N := 0) (As := []) (w := 560) kL_law_642 (by decide +kernel) (by decide +kernel) rfl rfl (by simp only [List.length_cons, List.length_nil]; omega) (by simp only [List.length_cons, List.length_nil]; omega) (by decide +kernel) rfl (Nat.le_of_ble_eq_true rfl)
theorem kL_law_645 : aCode iL_law 645 = some (.aload_n 2, 1) := by decide +kernel
theorem sL_law_645 {d : Nat} {σ : aS} {Q : aQ} {l0 l1 : Option Value} {x : Nat} {lt : aL} {st : List Value} : aX d iL_law 645 (l0 :: l1 :: some (.ref x) :: lt) (st) σ Q ↔ aX d iL_law 646 (l0 :: l1 :: some (.ref x) :: lt) (.ref x :: st) σ Q := X_aloadn kL_law_645 rfl rfl
theorem sL_law_645n {d : Nat} {σ : aS} {Q : aQ} {l0 l1 : Option Value} {lt : aL} {st : List Value} : aX d iL_law 645 (l0 :: l1 :: some .null :: lt) (st) σ Q ↔ aX d iL_law 646 (l0 :: l1 :: some .null :: lt) (.null :: st) σ Q := X_aloadn kL_law_645 rfl rfl
theorem kL_law_646 : aCode iL_law 646 = some (.invokevirtual 91, 3) := by decide +kernel
theorem sL_law_646 {d : Nat} {σ : aS} {Q : aQ} {b : Nat} {v0 : Value} {ls : aL} : aX (d + 1) iL_law 646 (ls) (.ref b :: v0 :: []) σ Q ↔ aIs σ b 7 ∧ aX d iX7_wipe 0 [some (.ref b), none] [] σ (fun r τ => aX (d + 1) iL_law 649 (ls) (aret r (v0 :: [])) τ Q) := X_invv (N := 0) (As := []) (w := 915) kL_law_646 (by decide +kernel) (by decide +kernel) rfl rfl (by simp only [List.length_cons, List.length_nil]; omega) (by simp only [List.length_cons, List.length_nil]; omega) (by decide +kernel) rfl (Nat.le_of_ble_eq_true rfl)
theorem kL_law_649 : aCode iL_law 649 = some (.if_icmp .eq 90, 3) := by decide +kernel
theorem sL_law_649 {d : Nat} {σ : aS} {Q : aQ} {x y : Int32} {ls : aL} {st : List Value} : aX d iL_law 649 (ls) (.int y :: .int x :: st) σ Q ↔ (if x = y then aX d iL_law 739 (ls) (st) σ Q else aX d iL_law 652 (ls) (st) σ Q) := by rw [X_icmp kL_law_649 (t := 739) (by decide)]; simp only [aCmp_eq]
theorem kL_law_652 : aCode iL_law 652 = some (.iconst 0, 1) := by decide +kernel
theorem sL_law_652 {d : Nat} {σ : aS} {Q : aQ} {ls : aL} {st : List Value} : aX d iL_law 652 (ls) (st) σ Q ↔ aX d iL_law 653 (ls) (.int (nI 0) :: st) σ Q := X_iconst kL_law_652 (by decide +kernel)
theorem kL_law_653 : aCode iL_law 653 = some (.ireturn, 1) := by decide +kernel
theorem sL_law_653 {d : Nat} {σ : aS} {Q : aQ} {v : Int32} {ls : aL} : aX d iL_law 653 (ls) ([.int v]) σ Q ↔ (narrow .boolean (.int v) = .int v ∧ Q (some (.int v)) σ) := X_zret kL_law_653 (by decide +kernel)
theorem kL_law_654 : aCode iL_law 654 = some (.aload_n 1, 1) := by decide +kernel
theorem sL_law_654 {d : Nat} {σ : aS} {Q : aQ} {l0 : Option Value} {x : Nat} {lt : aL} {st : List Value} : aX d iL_law 654 (l0 :: some (.ref x) :: lt) (st) σ Q ↔ aX d iL_law 655 (l0 :: some (.ref x) :: lt) (.ref x :: st) σ Q := X_aloadn kL_law_654 rfl rfl
theorem sL_law_654n {d : Nat} {σ : aS} {Q : aQ} {l0 : Option Value} {lt : aL} {st : List Value} : aX d iL_law 654 (l0 :: some .null :: lt) (st) σ Q ↔ aX d iL_law 655 (l0 :: some .null :: lt) (.null :: st) σ Q := X_aloadn kL_law_654 rfl rfl
theorem kL_law_655 : aCode iL_law 655 = some (.invokevirtual 92, 3) := by decide +kernel
theorem sL_law_655 {d : Nat} {σ : aS} {Q : aQ} {b : Nat} {ls : aL} : aX (d + 1) iL_law 655 (ls) (.ref b :: []) σ Q ↔ aIs σ b 6 ∧ aX d iX6_fault 0 [some (.ref b)] [] σ (fun r τ => aX (d + 1) iL_law 658 (ls) (aret r ([])) τ Q) := X_invv (N := 0) (As := []) (w := 568) kL_law_655 (by decide +kernel) (by decide +kernel) rfl rfl (by simp only [List.length_cons, List.length_nil]; omega) (by simp only [List.length_cons, List.length_nil]; omega) (by decide +kernel) rfl (Nat.le_of_ble_eq_true rfl)
theorem kL_law_658 : aCode iL_law 658 = some (.aload_n 2, 1) := by decide +kernel
theorem sL_law_658 {d : Nat} {σ : aS} {Q : aQ} {l0 l1 : Option Value} {x : Nat} {lt : aL} {st : List Value} : aX d iL_law 658 (l0 :: l1 :: some (.ref x) :: lt) (st) σ Q ↔ aX d iL_law 659 (l0 :: l1 :: some (.ref x) :: lt) (.ref x :: st) σ Q := X_aloadn kL_law_658 rfl rfl
theorem sL_law_658n {d : Nat} {σ : aS} {Q : aQ} {l0 l1 : Option Value} {lt : aL} {st : List Value} : aX d iL_law 658 (l0 :: l1 :: some .null :: lt) (st) σ Q ↔ aX d iL_law 659 (l0 :: l1 :: some .null :: lt) (.null :: st) σ Q := X_aloadn kL_law_658 rfl rfl
theorem kL_law_659 : aCode iL_law 659 = some (.invokevirtual 95, 3) := by decide +kernel
theorem sL_law_659 {d : Nat} {σ : aS} {Q : aQ} {b : Nat} {v0 : Value} {ls : aL} : aX (d + 1) iL_law 659 (ls) (.ref b :: v0 :: []) σ Q ↔ aIs σ b 7 ∧ aX d iX7_fault 0 [some (.ref b)] [] σ (fun r τ => aX (d + 1) iL_law 662 (ls) (aret r (v0 :: [])) τ Q) := X_invv (N := 0) (As := []) (w := 919) kL_law_659 (by decide +kernel) (by decide +kernel) rfl rfl (by simp only [List.length_cons, List.length_nil]; omega) (by simp only [List.length_cons, List.length_nil]; omega) (by decide +kernel) rfl (Nat.le_of_ble_eq_true rfl)
theorem kL_law_662 : aCode iL_law 662 = some (.if_icmp .eq 77, 3) := by decide +kernel
theorem sL_law_662 {d : Nat} {σ : aS} {Q : aQ} {x y : Int32} {ls : aL} {st : List Value} : aX d iL_law 662 (ls) (.int y :: .int x :: st) σ Q ↔ (if x = y then aX d iL_law 739 (ls) (st) σ Q else aX d iL_law 665 (ls) (st) σ Q) := by rw [X_icmp kL_law_662 (t := 739) (by decide)]; simp only [aCmp_eq]
theorem kL_law_665 : aCode iL_law 665 = some (.iconst 0, 1) := by decide +kernel
theorem sL_law_665 {d : Nat} {σ : aS} {Q : aQ} {ls : aL} {st : List Value} : aX d iL_law 665 (ls) (st) σ Q ↔ aX d iL_law 666 (ls) (.int (nI 0) :: st) σ Q := X_iconst kL_law_665 (by decide +kernel)
theorem kL_law_666 : aCode iL_law 666 = some (.ireturn, 1) := by decide +kernel
theorem sL_law_666 {d : Nat} {σ : aS} {Q : aQ} {v : Int32} {ls : aL} : aX d iL_law 666 (ls) ([.int v]) σ Q ↔ (narrow .boolean (.int v) = .int v ∧ Q (some (.int v)) σ) := X_zret kL_law_666 (by decide +kernel)
theorem kL_law_667 : aCode iL_law 667 = some (.aload_n 1, 1) := by decide +kernel
theorem sL_law_667 {d : Nat} {σ : aS} {Q : aQ} {l0 : Option Value} {x : Nat} {lt : aL} {st : List Value} : aX d iL_law 667 (l0 :: some (.ref x) :: lt) (st) σ Q ↔ aX d iL_law 668 (l0 :: some (.ref x) :: lt) (.ref x :: st) σ Q := X_aloadn kL_law_667 rfl rfl
theorem sL_law_667n {d : Nat} {σ : aS} {Q : aQ} {l0 : Option Value} {lt : aL} {st : List Value} : aX d iL_law 667 (l0 :: some .null :: lt) (st) σ Q ↔ aX d iL_law 668 (l0 :: some .null :: lt) (.null :: st) σ Q := X_aloadn kL_law_667 rfl rfl
theorem kL_law_668 : aCode iL_law 668 = some (.invokevirtual 96, 3) := by decide +kernel
theorem sL_law_668 {d : Nat} {σ : aS} {Q : aQ} {b : Nat} {ls : aL} : aX (d + 1) iL_law 668 (ls) (.ref b :: []) σ Q ↔ aIs σ b 6 ∧ aX d iX6_carryOut 0 [some (.ref b), none] [] σ (fun r τ => aX (d + 1) iL_law 671 (ls) (aret r ([])) τ Q) := X_invv (N := 0) (As := []) (w := 613) kL_law_668 (by decide +kernel) (by decide +kernel) rfl rfl (by simp only [List.length_cons, List.length_nil]; omega) (by simp only [List.length_cons, List.length_nil]; omega) (by decide +kernel) rfl (Nat.le_of_ble_eq_true rfl)
theorem kL_law_671 : aCode iL_law 671 = some (.aload_n 2, 1) := by decide +kernel
theorem sL_law_671 {d : Nat} {σ : aS} {Q : aQ} {l0 l1 : Option Value} {x : Nat} {lt : aL} {st : List Value} : aX d iL_law 671 (l0 :: l1 :: some (.ref x) :: lt) (st) σ Q ↔ aX d iL_law 672 (l0 :: l1 :: some (.ref x) :: lt) (.ref x :: st) σ Q := X_aloadn kL_law_671 rfl rfl
theorem sL_law_671n {d : Nat} {σ : aS} {Q : aQ} {l0 l1 : Option Value} {lt : aL} {st : List Value} : aX d iL_law 671 (l0 :: l1 :: some .null :: lt) (st) σ Q ↔ aX d iL_law 672 (l0 :: l1 :: some .null :: lt) (.null :: st) σ Q := X_aloadn kL_law_671 rfl rfl
theorem kL_law_672 : aCode iL_law 672 = some (.invokevirtual 99, 3) := by decide +kernel
theorem sL_law_672 {d : Nat} {σ : aS} {Q : aQ} {b : Nat} {v0 : Value} {ls : aL} : aX (d + 1) iL_law 672 (ls) (.ref b :: v0 :: []) σ Q ↔ aIs σ b 7 ∧ aX d iX7_carryOut 0 [some (.ref b), none, none] [] σ (fun r τ => aX (d + 1) iL_law 675 (ls) (aret r (v0 :: [])) τ Q) := X_invv (N := 0) (As := []) (w := 947) kL_law_672 (by decide +kernel) (by decide +kernel) rfl rfl (by simp only [List.length_cons, List.length_nil]; omega) (by simp only [List.length_cons, List.length_nil]; omega) (by decide +kernel) rfl (Nat.le_of_ble_eq_true rfl)
theorem kL_law_675 : aCode iL_law 675 = some (.if_icmp .eq 64, 3) := by decide +kernel
theorem sL_law_675 {d : Nat} {σ : aS} {Q : aQ} {x y : Int32} {ls : aL} {st : List Value} : aX d iL_law 675 (ls) (.int y :: .int x :: st) σ Q ↔ (if x = y then aX d iL_law 739 (ls) (st) σ Q else aX d iL_law 678 (ls) (st) σ Q) := by rw [X_icmp kL_law_675 (t := 739) (by decide)]; simp only [aCmp_eq]
theorem kL_law_678 : aCode iL_law 678 = some (.iconst 0, 1) := by decide +kernel
theorem sL_law_678 {d : Nat} {σ : aS} {Q : aQ} {ls : aL} {st : List Value} : aX d iL_law 678 (ls) (st) σ Q ↔ aX d iL_law 679 (ls) (.int (nI 0) :: st) σ Q := X_iconst kL_law_678 (by decide +kernel)
theorem kL_law_679 : aCode iL_law 679 = some (.ireturn, 1) := by decide +kernel
theorem sL_law_679 {d : Nat} {σ : aS} {Q : aQ} {v : Int32} {ls : aL} : aX d iL_law 679 (ls) ([.int v]) σ Q ↔ (narrow .boolean (.int v) = .int v ∧ Q (some (.int v)) σ) := X_zret kL_law_679 (by decide +kernel)
theorem kL_law_680 : aCode iL_law 680 = some (.aload_n 1, 1) := by decide +kernel
theorem sL_law_680 {d : Nat} {σ : aS} {Q : aQ} {l0 : Option Value} {x : Nat} {lt : aL} {st : List Value} : aX d iL_law 680 (l0 :: some (.ref x) :: lt) (st) σ Q ↔ aX d iL_law 681 (l0 :: some (.ref x) :: lt) (.ref x :: st) σ Q := X_aloadn kL_law_680 rfl rfl
theorem sL_law_680n {d : Nat} {σ : aS} {Q : aQ} {l0 : Option Value} {lt : aL} {st : List Value} : aX d iL_law 680 (l0 :: some .null :: lt) (st) σ Q ↔ aX d iL_law 681 (l0 :: some .null :: lt) (.null :: st) σ Q := X_aloadn kL_law_680 rfl rfl
theorem kL_law_681 : aCode iL_law 681 = some (.invokevirtual 100, 3) := by decide +kernel
theorem sL_law_681 {d : Nat} {σ : aS} {Q : aQ} {b : Nat} {ls : aL} : aX (d + 1) iL_law 681 (ls) (.ref b :: []) σ Q ↔ aIs σ b 6 ∧ aX d iX6_undo 0 [some (.ref b)] [] σ (fun r τ => aX (d + 1) iL_law 684 (ls) (aret r ([])) τ Q) := X_invv (N := 0) (As := []) (w := 623) kL_law_681 (by decide +kernel) (by decide +kernel) rfl rfl (by simp only [List.length_cons, List.length_nil]; omega) (by simp only [List.length_cons, List.length_nil]; omega) (by decide +kernel) rfl (Nat.le_of_ble_eq_true rfl)
theorem kL_law_684 : aCode iL_law 684 = some (.aload_n 2, 1) := by decide +kernel
theorem sL_law_684 {d : Nat} {σ : aS} {Q : aQ} {l0 l1 : Option Value} {x : Nat} {lt : aL} {st : List Value} : aX d iL_law 684 (l0 :: l1 :: some (.ref x) :: lt) (st) σ Q ↔ aX d iL_law 685 (l0 :: l1 :: some (.ref x) :: lt) (.ref x :: st) σ Q := X_aloadn kL_law_684 rfl rfl
theorem sL_law_684n {d : Nat} {σ : aS} {Q : aQ} {l0 l1 : Option Value} {lt : aL} {st : List Value} : aX d iL_law 684 (l0 :: l1 :: some .null :: lt) (st) σ Q ↔ aX d iL_law 685 (l0 :: l1 :: some .null :: lt) (.null :: st) σ Q := X_aloadn kL_law_684 rfl rfl
theorem kL_law_685 : aCode iL_law 685 = some (.invokevirtual 103, 3) := by decide +kernel
theorem sL_law_685 {d : Nat} {σ : aS} {Q : aQ} {b : Nat} {v0 : Value} {ls : aL} : aX (d + 1) iL_law 685 (ls) (.ref b :: v0 :: []) σ Q ↔ aIs σ b 7 ∧ aX d iX7_undo 0 [some (.ref b)] [] σ (fun r τ => aX (d + 1) iL_law 688 (ls) (aret r (v0 :: [])) τ Q) := X_invv (N := 0) (As := []) (w := 959) kL_law_685 (by decide +kernel) (by decide +kernel) rfl rfl (by simp only [List.length_cons, List.length_nil]; omega) (by simp only [List.length_cons, List.length_nil]; omega) (by decide +kernel) rfl (Nat.le_of_ble_eq_true rfl)
theorem kL_law_688 : aCode iL_law 688 = some (.if_icmp .eq 51, 3) := by decide +kernel
theorem sL_law_688 {d : Nat} {σ : aS} {Q : aQ} {x y : Int32} {ls : aL} {st : List Value} : aX d iL_law 688 (ls) (.int y :: .int x :: st) σ Q ↔ (if x = y then aX d iL_law 739 (ls) (st) σ Q else aX d iL_law 691 (ls) (st) σ Q) := by rw [X_icmp kL_law_688 (t := 739) (by decide)]; simp only [aCmp_eq]
theorem kL_law_691 : aCode iL_law 691 = some (.iconst 0, 1) := by decide +kernel
theorem sL_law_691 {d : Nat} {σ : aS} {Q : aQ} {ls : aL} {st : List Value} : aX d iL_law 691 (ls) (st) σ Q ↔ aX d iL_law 692 (ls) (.int (nI 0) :: st) σ Q := X_iconst kL_law_691 (by decide +kernel)
theorem kL_law_692 : aCode iL_law 692 = some (.ireturn, 1) := by decide +kernel
theorem sL_law_692 {d : Nat} {σ : aS} {Q : aQ} {v : Int32} {ls : aL} : aX d iL_law 692 (ls) ([.int v]) σ Q ↔ (narrow .boolean (.int v) = .int v ∧ Q (some (.int v)) σ) := X_zret kL_law_692 (by decide +kernel)
theorem kL_law_693 : aCode iL_law 693 = some (.aload_n 1, 1) := by decide +kernel
theorem sL_law_693 {d : Nat} {σ : aS} {Q : aQ} {l0 : Option Value} {x : Nat} {lt : aL} {st : List Value} : aX d iL_law 693 (l0 :: some (.ref x) :: lt) (st) σ Q ↔ aX d iL_law 694 (l0 :: some (.ref x) :: lt) (.ref x :: st) σ Q := X_aloadn kL_law_693 rfl rfl
theorem sL_law_693n {d : Nat} {σ : aS} {Q : aQ} {l0 : Option Value} {lt : aL} {st : List Value} : aX d iL_law 693 (l0 :: some .null :: lt) (st) σ Q ↔ aX d iL_law 694 (l0 :: some .null :: lt) (.null :: st) σ Q := X_aloadn kL_law_693 rfl rfl
theorem kL_law_694 : aCode iL_law 694 = some (.aload_n 0, 1) := by decide +kernel
theorem sL_law_694 {d : Nat} {σ : aS} {Q : aQ} {x : Nat} {lt : aL} {st : List Value} : aX d iL_law 694 (some (.ref x) :: lt) (st) σ Q ↔ aX d iL_law 695 (some (.ref x) :: lt) (.ref x :: st) σ Q := X_aloadn kL_law_694 rfl rfl
theorem kL_law_695 : aCode iL_law 695 = some (.iload_n 3, 1) := by decide +kernel
theorem sL_law_695 {d : Nat} {σ : aS} {Q : aQ} {l0 l1 l2 : Option Value} {x : Int32} {lt : aL} {st : List Value} : aX d iL_law 695 (l0 :: l1 :: l2 :: some (.int x) :: lt) (st) σ Q ↔ aX d iL_law 696 (l0 :: l1 :: l2 :: some (.int x) :: lt) (.int x :: st) σ Q := X_iloadn kL_law_695 rfl
theorem kL_law_696 : aCode iL_law 696 = some (.iconst 1, 1) := by decide +kernel
theorem sL_law_696 {d : Nat} {σ : aS} {Q : aQ} {ls : aL} {st : List Value} : aX d iL_law 696 (ls) (st) σ Q ↔ aX d iL_law 697 (ls) (.int (nI 1) :: st) σ Q := X_iconst kL_law_696 (by decide +kernel)
theorem kL_law_697 : aCode iL_law 697 = some (.iadd, 1) := by decide +kernel
theorem sL_law_697 {d : Nat} {σ : aS} {Q : aQ} {x y : Int32} {ls : aL} {st : List Value} : aX d iL_law 697 (ls) (.int y :: .int x :: st) σ Q ↔ aX d iL_law 698 (ls) (.int (x + y) :: st) σ Q := X_iadd kL_law_697
theorem kL_law_698 : aCode iL_law 698 = some (.iaload, 1) := by decide +kernel
theorem sL_law_698 {d : Nat} {σ : aS} {Q : aQ} {a : Nat} {i : Int32} {ls : aL} {st : List Value} : aX d iL_law 698 (ls) (.int i :: .ref a :: st) σ Q ↔ ∃ x, aRowR σ a = some x ∧ vp_in i x.1 ∧ aX d iL_law 699 (ls) (.int (x.2 i.toNatClampNeg) :: st) σ Q := X_iaload kL_law_698
theorem kL_law_699 : aCode iL_law 699 = some (.invokevirtual 104, 3) := by decide +kernel
theorem sL_law_699 {d : Nat} {σ : aS} {Q : aQ} {b : Nat} {p0 : Int32} {ls : aL} : aX (d + 1) iL_law 699 (ls) (.int p0 :: .ref b :: []) σ Q ↔ aIs σ b 6 ∧ aX d iX6_save 0 [some (.ref b), some (.int p0), none] [] σ (fun r τ => aX (d + 1) iL_law 702 (ls) (aret r ([])) τ Q) := X_invv (N := 1) (As := [.int p0]) (w := 631) kL_law_699 (by decide +kernel) (by decide +kernel) rfl rfl (by simp only [List.length_cons, List.length_nil]; omega) (by simp only [List.length_cons, List.length_nil]; omega) (by decide +kernel) rfl (Nat.le_of_ble_eq_true rfl)
theorem kL_law_702 : aCode iL_law 702 = some (.aload_n 2, 1) := by decide +kernel
theorem sL_law_702 {d : Nat} {σ : aS} {Q : aQ} {l0 l1 : Option Value} {x : Nat} {lt : aL} {st : List Value} : aX d iL_law 702 (l0 :: l1 :: some (.ref x) :: lt) (st) σ Q ↔ aX d iL_law 703 (l0 :: l1 :: some (.ref x) :: lt) (.ref x :: st) σ Q := X_aloadn kL_law_702 rfl rfl
theorem sL_law_702n {d : Nat} {σ : aS} {Q : aQ} {l0 l1 : Option Value} {lt : aL} {st : List Value} : aX d iL_law 702 (l0 :: l1 :: some .null :: lt) (st) σ Q ↔ aX d iL_law 703 (l0 :: l1 :: some .null :: lt) (.null :: st) σ Q := X_aloadn kL_law_702 rfl rfl
theorem kL_law_703 : aCode iL_law 703 = some (.aload_n 0, 1) := by decide +kernel
theorem sL_law_703 {d : Nat} {σ : aS} {Q : aQ} {x : Nat} {lt : aL} {st : List Value} : aX d iL_law 703 (some (.ref x) :: lt) (st) σ Q ↔ aX d iL_law 704 (some (.ref x) :: lt) (.ref x :: st) σ Q := X_aloadn kL_law_703 rfl rfl
theorem kL_law_704 : aCode iL_law 704 = some (.iload_n 3, 1) := by decide +kernel
theorem sL_law_704 {d : Nat} {σ : aS} {Q : aQ} {l0 l1 l2 : Option Value} {x : Int32} {lt : aL} {st : List Value} : aX d iL_law 704 (l0 :: l1 :: l2 :: some (.int x) :: lt) (st) σ Q ↔ aX d iL_law 705 (l0 :: l1 :: l2 :: some (.int x) :: lt) (.int x :: st) σ Q := X_iloadn kL_law_704 rfl
theorem kL_law_705 : aCode iL_law 705 = some (.iconst 1, 1) := by decide +kernel
theorem sL_law_705 {d : Nat} {σ : aS} {Q : aQ} {ls : aL} {st : List Value} : aX d iL_law 705 (ls) (st) σ Q ↔ aX d iL_law 706 (ls) (.int (nI 1) :: st) σ Q := X_iconst kL_law_705 (by decide +kernel)
theorem kL_law_706 : aCode iL_law 706 = some (.iadd, 1) := by decide +kernel
theorem sL_law_706 {d : Nat} {σ : aS} {Q : aQ} {x y : Int32} {ls : aL} {st : List Value} : aX d iL_law 706 (ls) (.int y :: .int x :: st) σ Q ↔ aX d iL_law 707 (ls) (.int (x + y) :: st) σ Q := X_iadd kL_law_706
theorem kL_law_707 : aCode iL_law 707 = some (.iaload, 1) := by decide +kernel
theorem sL_law_707 {d : Nat} {σ : aS} {Q : aQ} {a : Nat} {i : Int32} {ls : aL} {st : List Value} : aX d iL_law 707 (ls) (.int i :: .ref a :: st) σ Q ↔ ∃ x, aRowR σ a = some x ∧ vp_in i x.1 ∧ aX d iL_law 708 (ls) (.int (x.2 i.toNatClampNeg) :: st) σ Q := X_iaload kL_law_707
theorem kL_law_708 : aCode iL_law 708 = some (.invokevirtual 107, 3) := by decide +kernel
theorem sL_law_708 {d : Nat} {σ : aS} {Q : aQ} {b : Nat} {p0 : Int32} {v0 : Value} {ls : aL} : aX (d + 1) iL_law 708 (ls) (.int p0 :: .ref b :: v0 :: []) σ Q ↔ aIs σ b 7 ∧ aX d iX7_save 0 [some (.ref b), some (.int p0)] [] σ (fun r τ => aX (d + 1) iL_law 711 (ls) (aret r (v0 :: [])) τ Q) := X_invv (N := 1) (As := [.int p0]) (w := 963) kL_law_708 (by decide +kernel) (by decide +kernel) rfl rfl (by simp only [List.length_cons, List.length_nil]; omega) (by simp only [List.length_cons, List.length_nil]; omega) (by decide +kernel) rfl (Nat.le_of_ble_eq_true rfl)
theorem kL_law_711 : aCode iL_law 711 = some (.if_icmp .eq 28, 3) := by decide +kernel
theorem sL_law_711 {d : Nat} {σ : aS} {Q : aQ} {x y : Int32} {ls : aL} {st : List Value} : aX d iL_law 711 (ls) (.int y :: .int x :: st) σ Q ↔ (if x = y then aX d iL_law 739 (ls) (st) σ Q else aX d iL_law 714 (ls) (st) σ Q) := by rw [X_icmp kL_law_711 (t := 739) (by decide)]; simp only [aCmp_eq]
theorem kL_law_714 : aCode iL_law 714 = some (.iconst 0, 1) := by decide +kernel
theorem sL_law_714 {d : Nat} {σ : aS} {Q : aQ} {ls : aL} {st : List Value} : aX d iL_law 714 (ls) (st) σ Q ↔ aX d iL_law 715 (ls) (.int (nI 0) :: st) σ Q := X_iconst kL_law_714 (by decide +kernel)
theorem kL_law_715 : aCode iL_law 715 = some (.ireturn, 1) := by decide +kernel
theorem sL_law_715 {d : Nat} {σ : aS} {Q : aQ} {v : Int32} {ls : aL} : aX d iL_law 715 (ls) ([.int v]) σ Q ↔ (narrow .boolean (.int v) = .int v ∧ Q (some (.int v)) σ) := X_zret kL_law_715 (by decide +kernel)
theorem kL_law_716 : aCode iL_law 716 = some (.aload_n 1, 1) := by decide +kernel
theorem sL_law_716 {d : Nat} {σ : aS} {Q : aQ} {l0 : Option Value} {x : Nat} {lt : aL} {st : List Value} : aX d iL_law 716 (l0 :: some (.ref x) :: lt) (st) σ Q ↔ aX d iL_law 717 (l0 :: some (.ref x) :: lt) (.ref x :: st) σ Q := X_aloadn kL_law_716 rfl rfl
theorem sL_law_716n {d : Nat} {σ : aS} {Q : aQ} {l0 : Option Value} {lt : aL} {st : List Value} : aX d iL_law 716 (l0 :: some .null :: lt) (st) σ Q ↔ aX d iL_law 717 (l0 :: some .null :: lt) (.null :: st) σ Q := X_aloadn kL_law_716 rfl rfl
theorem kL_law_717 : aCode iL_law 717 = some (.aload_n 0, 1) := by decide +kernel
theorem sL_law_717 {d : Nat} {σ : aS} {Q : aQ} {x : Nat} {lt : aL} {st : List Value} : aX d iL_law 717 (some (.ref x) :: lt) (st) σ Q ↔ aX d iL_law 718 (some (.ref x) :: lt) (.ref x :: st) σ Q := X_aloadn kL_law_717 rfl rfl
theorem kL_law_718 : aCode iL_law 718 = some (.iload_n 3, 1) := by decide +kernel
theorem sL_law_718 {d : Nat} {σ : aS} {Q : aQ} {l0 l1 l2 : Option Value} {x : Int32} {lt : aL} {st : List Value} : aX d iL_law 718 (l0 :: l1 :: l2 :: some (.int x) :: lt) (st) σ Q ↔ aX d iL_law 719 (l0 :: l1 :: l2 :: some (.int x) :: lt) (.int x :: st) σ Q := X_iloadn kL_law_718 rfl
theorem kL_law_719 : aCode iL_law 719 = some (.iconst 1, 1) := by decide +kernel
theorem sL_law_719 {d : Nat} {σ : aS} {Q : aQ} {ls : aL} {st : List Value} : aX d iL_law 719 (ls) (st) σ Q ↔ aX d iL_law 720 (ls) (.int (nI 1) :: st) σ Q := X_iconst kL_law_719 (by decide +kernel)
theorem kL_law_720 : aCode iL_law 720 = some (.iadd, 1) := by decide +kernel
theorem sL_law_720 {d : Nat} {σ : aS} {Q : aQ} {x y : Int32} {ls : aL} {st : List Value} : aX d iL_law 720 (ls) (.int y :: .int x :: st) σ Q ↔ aX d iL_law 721 (ls) (.int (x + y) :: st) σ Q := X_iadd kL_law_720
theorem kL_law_721 : aCode iL_law 721 = some (.iaload, 1) := by decide +kernel
theorem sL_law_721 {d : Nat} {σ : aS} {Q : aQ} {a : Nat} {i : Int32} {ls : aL} {st : List Value} : aX d iL_law 721 (ls) (.int i :: .ref a :: st) σ Q ↔ ∃ x, aRowR σ a = some x ∧ vp_in i x.1 ∧ aX d iL_law 722 (ls) (.int (x.2 i.toNatClampNeg) :: st) σ Q := X_iaload kL_law_721
theorem kL_law_722 : aCode iL_law 722 = some (.invokevirtual 108, 3) := by decide +kernel
theorem sL_law_722 {d : Nat} {σ : aS} {Q : aQ} {b : Nat} {p0 : Int32} {ls : aL} : aX (d + 1) iL_law 722 (ls) (.int p0 :: .ref b :: []) σ Q ↔ aIs σ b 6 ∧ aX d iX6_restore 0 [some (.ref b), some (.int p0), none] [] σ (fun r τ => aX (d + 1) iL_law 725 (ls) (aret r ([])) τ Q) := X_invv (N := 1) (As := [.int p0]) (w := 640) kL_law_722 (by decide +kernel) (by decide +kernel) rfl rfl (by simp only [List.length_cons, List.length_nil]; omega) (by simp only [List.length_cons, List.length_nil]; omega) (by decide +kernel) rfl (Nat.le_of_ble_eq_true rfl)
theorem kL_law_725 : aCode iL_law 725 = some (.aload_n 2, 1) := by decide +kernel
theorem sL_law_725 {d : Nat} {σ : aS} {Q : aQ} {l0 l1 : Option Value} {x : Nat} {lt : aL} {st : List Value} : aX d iL_law 725 (l0 :: l1 :: some (.ref x) :: lt) (st) σ Q ↔ aX d iL_law 726 (l0 :: l1 :: some (.ref x) :: lt) (.ref x :: st) σ Q := X_aloadn kL_law_725 rfl rfl
theorem sL_law_725n {d : Nat} {σ : aS} {Q : aQ} {l0 l1 : Option Value} {lt : aL} {st : List Value} : aX d iL_law 725 (l0 :: l1 :: some .null :: lt) (st) σ Q ↔ aX d iL_law 726 (l0 :: l1 :: some .null :: lt) (.null :: st) σ Q := X_aloadn kL_law_725 rfl rfl
theorem kL_law_726 : aCode iL_law 726 = some (.aload_n 0, 1) := by decide +kernel
theorem sL_law_726 {d : Nat} {σ : aS} {Q : aQ} {x : Nat} {lt : aL} {st : List Value} : aX d iL_law 726 (some (.ref x) :: lt) (st) σ Q ↔ aX d iL_law 727 (some (.ref x) :: lt) (.ref x :: st) σ Q := X_aloadn kL_law_726 rfl rfl
theorem kL_law_727 : aCode iL_law 727 = some (.iload_n 3, 1) := by decide +kernel
theorem sL_law_727 {d : Nat} {σ : aS} {Q : aQ} {l0 l1 l2 : Option Value} {x : Int32} {lt : aL} {st : List Value} : aX d iL_law 727 (l0 :: l1 :: l2 :: some (.int x) :: lt) (st) σ Q ↔ aX d iL_law 728 (l0 :: l1 :: l2 :: some (.int x) :: lt) (.int x :: st) σ Q := X_iloadn kL_law_727 rfl
theorem kL_law_728 : aCode iL_law 728 = some (.iconst 1, 1) := by decide +kernel
theorem sL_law_728 {d : Nat} {σ : aS} {Q : aQ} {ls : aL} {st : List Value} : aX d iL_law 728 (ls) (st) σ Q ↔ aX d iL_law 729 (ls) (.int (nI 1) :: st) σ Q := X_iconst kL_law_728 (by decide +kernel)
theorem kL_law_729 : aCode iL_law 729 = some (.iadd, 1) := by decide +kernel
theorem sL_law_729 {d : Nat} {σ : aS} {Q : aQ} {x y : Int32} {ls : aL} {st : List Value} : aX d iL_law 729 (ls) (.int y :: .int x :: st) σ Q ↔ aX d iL_law 730 (ls) (.int (x + y) :: st) σ Q := X_iadd kL_law_729
theorem kL_law_730 : aCode iL_law 730 = some (.iaload, 1) := by decide +kernel
theorem sL_law_730 {d : Nat} {σ : aS} {Q : aQ} {a : Nat} {i : Int32} {ls : aL} {st : List Value} : aX d iL_law 730 (ls) (.int i :: .ref a :: st) σ Q ↔ ∃ x, aRowR σ a = some x ∧ vp_in i x.1 ∧ aX d iL_law 731 (ls) (.int (x.2 i.toNatClampNeg) :: st) σ Q := X_iaload kL_law_730
theorem kL_law_731 : aCode iL_law 731 = some (.invokevirtual 111, 3) := by decide +kernel
theorem sL_law_731 {d : Nat} {σ : aS} {Q : aQ} {b : Nat} {p0 : Int32} {v0 : Value} {ls : aL} : aX (d + 1) iL_law 731 (ls) (.int p0 :: .ref b :: v0 :: []) σ Q ↔ aIs σ b 7 ∧ aX d iX7_restore 0 [some (.ref b), some (.int p0)] [] σ (fun r τ => aX (d + 1) iL_law 734 (ls) (aret r (v0 :: [])) τ Q) := X_invv (N := 1) (As := [.int p0]) (w := 967) kL_law_731 (by decide +kernel) (by decide +kernel) rfl rfl (by simp only [List.length_cons, List.length_nil]; omega) (by simp only [List.length_cons, List.length_nil]; omega) (by decide +kernel) rfl (Nat.le_of_ble_eq_true rfl)
theorem kL_law_734 : aCode iL_law 734 = some (.if_icmp .eq 5, 3) := by decide +kernel
theorem sL_law_734 {d : Nat} {σ : aS} {Q : aQ} {x y : Int32} {ls : aL} {st : List Value} : aX d iL_law 734 (ls) (.int y :: .int x :: st) σ Q ↔ (if x = y then aX d iL_law 739 (ls) (st) σ Q else aX d iL_law 737 (ls) (st) σ Q) := by rw [X_icmp kL_law_734 (t := 739) (by decide)]; simp only [aCmp_eq]
theorem kL_law_737 : aCode iL_law 737 = some (.iconst 0, 1) := by decide +kernel
theorem sL_law_737 {d : Nat} {σ : aS} {Q : aQ} {ls : aL} {st : List Value} : aX d iL_law 737 (ls) (st) σ Q ↔ aX d iL_law 738 (ls) (.int (nI 0) :: st) σ Q := X_iconst kL_law_737 (by decide +kernel)
theorem kL_law_738 : aCode iL_law 738 = some (.ireturn, 1) := by decide +kernel
theorem sL_law_738 {d : Nat} {σ : aS} {Q : aQ} {v : Int32} {ls : aL} : aX d iL_law 738 (ls) ([.int v]) σ Q ↔ (narrow .boolean (.int v) = .int v ∧ Q (some (.int v)) σ) := X_zret kL_law_738 (by decide +kernel)
theorem kL_law_739 : aCode iL_law 739 = some (.iinc 3 4, 3) := by decide +kernel
theorem sL_law_739 {d : Nat} {σ : aS} {Q : aQ} {l0 l1 l2 : Option Value} {x : Int32} {lt : aL} {st : List Value} : aX d iL_law 739 (l0 :: l1 :: l2 :: some (.int x) :: lt) (st) σ Q ↔ aX d iL_law 742 (l0 :: l1 :: aclr l2 :: some (.int (x + nI 4)) :: lt) (st) σ Q := X_iinc kL_law_739 rfl (by decide +kernel)
theorem kL_law_742 : aCode iL_law 742 = some (.goto (-724), 3) := by decide +kernel
theorem sL_law_742 {d : Nat} {σ : aS} {Q : aQ} {ls : aL} {st : List Value} : aX d iL_law 742 (ls) (st) σ Q ↔ aX d iL_law 18 (ls) (st) σ Q := X_goto kL_law_742 (by decide)
theorem kL_law_745 : aCode iL_law 745 = some (.iconst 1, 1) := by decide +kernel
theorem sL_law_745 {d : Nat} {σ : aS} {Q : aQ} {ls : aL} {st : List Value} : aX d iL_law 745 (ls) (st) σ Q ↔ aX d iL_law 746 (ls) (.int (nI 1) :: st) σ Q := X_iconst kL_law_745 (by decide +kernel)
theorem kL_law_746 : aCode iL_law 746 = some (.ireturn, 1) := by decide +kernel
theorem sL_law_746 {d : Nat} {σ : aS} {Q : aQ} {v : Int32} {ls : aL} : aX d iL_law 746 (ls) ([.int v]) σ Q ↔ (narrow .boolean (.int v) = .int v ∧ Q (some (.int v)) σ) := X_zret kL_law_746 (by decide +kernel)
