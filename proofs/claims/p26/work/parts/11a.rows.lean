def iX0_init : Nat := 0
def iX0_start : Nat := 1
def iX0_addPage : Nat := 2
def iX0_addToldPage : Nat := 3
def iX0_copyFrom : Nat := 4
def iX0_goesRound : Nat := 5
def iX0_seatOf : Nat := 6
def iX0_markOf : Nat := 7
def iX0_wasTold : Nat := 8
def iX0_liesAt : Nat := 9
def iX0_endsWithWord : Nat := 10
def iX0_firstWord : Nat := 11
def iX0_lastWord : Nat := 12
def iX0_hasFoundWordAgain : Nat := 13
def iX0_wordChanges : Nat := 14
def iX0_seatSet : Nat := 15
def iX1_init : Nat := 16
def iX1_follow : Nat := 17
def iX1_followAll : Nat := 18
def iX1_differenceAtHome : Nat := 19
def iX1_playToEnd : Nat := 20
def iX2_init : Nat := 21
def iX2_stateAt : Nat := 22
def iX2_prepare : Nat := 23
def iX2_recordUnlessError : Nat := 24
def iX3_init : Nat := 25
def iX4_init : Nat := 26
def iX5_init : Nat := 27
def iX5_copyFrom : Nat := 28
def iX5_placeAt : Nat := 29
def iX5_albumAt : Nat := 30
def iX5_isTaken : Nat := 31
def iX5_changeFeatures : Nat := 32
def iX5_sitDown : Nat := 33
def iX5_standUp : Nat := 34
def iX5_beginAlbum : Nat := 35
def iX5_tellPage : Nat := 36
def iX5_makeRound : Nat := 37
def iX5_clearEnded : Nat := 38
def iX5_passOn : Nat := 39
def iX5_nextSeat : Nat := 40
def iX5_end : Nat := 41
def iX5_pageBy : Nat := 42
def iX5_mostLike : Nat := 43
def iX5_difference : Nat := 44
def iX5_albumGoingRoundOf : Nat := 45
def iX5_albumsThatAre : Nat := 46
def iX5_pagesBy : Nat := 47
def iX5_allPoints : Nat := 48
def iX6_init : Nat := 49
def iX6_teach : Nat := 50
def iX6_sit : Nat := 51
def iX6_leave : Nat := 52
def iX6_begin : Nat := 53
def iX6_tell : Nat := 54
def iX6_round : Nat := 55
def iX6_clear : Nat := 56
def iX6_of : Nat := 57
def iX6_page : Nat := 58
def iX6_seat : Nat := 59
def iX6_word : Nat := 60
def iX6_count : Nat := 61
def iX6_guess : Nat := 62
def iX6_foretold : Nat := 63
def iX6_bestWord : Nat := 64
def iX6_pointsThen : Nat := 65
def iX6_isBelow : Nat := 66
def iX6_valueAt : Nat := 67
def iX6_setAt : Nat := 68
def iX6_addAt : Nat := 69
def iX6_copyRow : Nat := 70
def iJ6_bitCount_0f7a4 : Nat := 71
def iL_cell : Nat := 72
def iL_low : Nat := 73
def iL_bits : Nat := 74
def iL_seat : Nat := 75
def iL_what : Nat := 76
def iL_guess : Nat := 77
def iL_has : Nat := 78
def iL_round : Nat := 79
def iL_same : Nat := 80
def iL_would : Nat := 81
def iL_law : Nat := 82
theorem kX0_init_0 : aCode iX0_init 0 = some (.aload_n 0, 1) := by decide +kernel
theorem sX0_init_0 {d : Nat} {σ : aS} {Q : aQ} {x : Nat} {lt : aL} {st : List Value} : aX d iX0_init 0 (some (.ref x) :: lt) (st) σ Q ↔ aX d iX0_init 1 (some (.ref x) :: lt) (.ref x :: st) σ Q := X_aloadn kX0_init_0 rfl rfl
theorem kX0_init_1 : aCode iX0_init 1 = some (.invokespecial 3, 3) := by decide +kernel
theorem sX0_init_1 {d : Nat} {σ : aS} {Q : aQ} {b : Nat} {ls : aL} : aX d iX0_init 1 (ls) (.ref b :: []) σ Q ↔ aX d iX0_init 4 (ls) ([]) σ Q := X_obj (t := 999) (w := 37) kX0_init_1 (by decide +kernel) (by simp only [List.length_cons, List.length_nil]; omega)
theorem kX0_init_4 : aCode iX0_init 4 = some (.aload_n 0, 1) := by decide +kernel
theorem sX0_init_4 {d : Nat} {σ : aS} {Q : aQ} {x : Nat} {lt : aL} {st : List Value} : aX d iX0_init 4 (some (.ref x) :: lt) (st) σ Q ↔ aX d iX0_init 5 (some (.ref x) :: lt) (.ref x :: st) σ Q := X_aloadn kX0_init_4 rfl rfl
theorem kX0_init_5 : aCode iX0_init 5 = some (.bipush 8, 2) := by decide +kernel
theorem sX0_init_5 {d : Nat} {σ : aS} {Q : aQ} {ls : aL} {st : List Value} : aX d iX0_init 5 (ls) (st) σ Q ↔ aX d iX0_init 7 (ls) (.int (nI 8) :: st) σ Q := X_bipush kX0_init_5 (by decide +kernel)
theorem kX0_init_7 : aCode iX0_init 7 = some (.newarray .int, 2) := by decide +kernel
theorem sX0_init_7 {d : Nat} {σ : aS} {Q : aQ} {m : Nat} {ls : aL} {st : List Value} (hm : m ≤ 1000000) : aX d iX0_init 7 (ls) (.int (nI m) :: st) σ Q ↔ aX d iX0_init 9 (ls) (.ref σ.2.1 :: st) (anew σ (eI m (fun _ => 0)) m) Q := X_newa kX0_init_7 hm
theorem kX0_init_9 : aCode iX0_init 9 = some (.putfield 9, 3) := by decide +kernel
theorem sX0_init_9 {d : Nat} {σ : aS} {Q : aQ} {x : Nat} {a : Nat} {ls : aL} {st : List Value} : aX d iX0_init 9 (ls) (.ref x :: .ref a :: st) σ Q ↔ ∃ fs, aFds σ a 0 = some fs ∧ 0 < fs.length ∧ aX d iX0_init 12 (ls) (st) (aput σ a (eO 0 (fs.set 0 (.ref x)))) Q := X_putf (w := 38) kX0_init_9 (by decide +kernel) (aFit_R (by decide +kernel)) (by decide +kernel)
theorem kX0_init_12 : aCode iX0_init 12 = some (.aload_n 0, 1) := by decide +kernel
theorem sX0_init_12 {d : Nat} {σ : aS} {Q : aQ} {x : Nat} {lt : aL} {st : List Value} : aX d iX0_init 12 (some (.ref x) :: lt) (st) σ Q ↔ aX d iX0_init 13 (some (.ref x) :: lt) (.ref x :: st) σ Q := X_aloadn kX0_init_12 rfl rfl
theorem kX0_init_13 : aCode iX0_init 13 = some (.bipush 8, 2) := by decide +kernel
theorem sX0_init_13 {d : Nat} {σ : aS} {Q : aQ} {ls : aL} {st : List Value} : aX d iX0_init 13 (ls) (st) σ Q ↔ aX d iX0_init 15 (ls) (.int (nI 8) :: st) σ Q := X_bipush kX0_init_13 (by decide +kernel)
theorem kX0_init_15 : aCode iX0_init 15 = some (.newarray .int, 2) := by decide +kernel
theorem sX0_init_15 {d : Nat} {σ : aS} {Q : aQ} {m : Nat} {ls : aL} {st : List Value} (hm : m ≤ 1000000) : aX d iX0_init 15 (ls) (.int (nI m) :: st) σ Q ↔ aX d iX0_init 17 (ls) (.ref σ.2.1 :: st) (anew σ (eI m (fun _ => 0)) m) Q := X_newa kX0_init_15 hm
theorem kX0_init_17 : aCode iX0_init 17 = some (.putfield 15, 3) := by decide +kernel
theorem sX0_init_17 {d : Nat} {σ : aS} {Q : aQ} {x : Nat} {a : Nat} {ls : aL} {st : List Value} : aX d iX0_init 17 (ls) (.ref x :: .ref a :: st) σ Q ↔ ∃ fs, aFds σ a 0 = some fs ∧ 1 < fs.length ∧ aX d iX0_init 20 (ls) (st) (aput σ a (eO 0 (fs.set 1 (.ref x)))) Q := X_putf (w := 39) kX0_init_17 (by decide +kernel) (aFit_R (by decide +kernel)) (by decide +kernel)
theorem kX0_init_20 : aCode iX0_init 20 = some (.aload_n 0, 1) := by decide +kernel
theorem sX0_init_20 {d : Nat} {σ : aS} {Q : aQ} {x : Nat} {lt : aL} {st : List Value} : aX d iX0_init 20 (some (.ref x) :: lt) (st) σ Q ↔ aX d iX0_init 21 (some (.ref x) :: lt) (.ref x :: st) σ Q := X_aloadn kX0_init_20 rfl rfl
theorem kX0_init_21 : aCode iX0_init 21 = some (.bipush (-6), 2) := by decide +kernel
theorem sX0_init_21 {d : Nat} {σ : aS} {Q : aQ} {ls : aL} {st : List Value} : aX d iX0_init 21 (ls) (st) σ Q ↔ aX d iX0_init 23 (ls) (.int ((-6)) :: st) σ Q := X_bipush kX0_init_21 (by decide +kernel)
theorem kX0_init_23 : aCode iX0_init 23 = some (.putfield 18, 3) := by decide +kernel
theorem sX0_init_23 {d : Nat} {σ : aS} {Q : aQ} {x : Int32} {a : Nat} {ls : aL} {st : List Value} : aX d iX0_init 23 (ls) (.int x :: .ref a :: st) σ Q ↔ ∃ fs, aFds σ a 0 = some fs ∧ 5 < fs.length ∧ aX d iX0_init 26 (ls) (st) (aput σ a (eO 0 (fs.set 5 (.int x)))) Q := X_putf (w := 49) kX0_init_23 (by decide +kernel) (aFit_I (by decide +kernel)) (by decide +kernel)
theorem kX0_init_26 : aCode iX0_init 26 = some (.return_, 1) := by decide +kernel
theorem sX0_init_26 {d : Nat} {σ : aS} {Q : aQ} {ls : aL} : aX d iX0_init 26 (ls) ([]) σ Q ↔ Q none σ := X_vret kX0_init_26 (by decide +kernel)
theorem kX0_start_0 : aCode iX0_start 0 = some (.aload_n 0, 1) := by decide +kernel
theorem sX0_start_0 {d : Nat} {σ : aS} {Q : aQ} {x : Nat} {lt : aL} {st : List Value} : aX d iX0_start 0 (some (.ref x) :: lt) (st) σ Q ↔ aX d iX0_start 1 (some (.ref x) :: lt) (.ref x :: st) σ Q := X_aloadn kX0_start_0 rfl rfl
theorem kX0_start_1 : aCode iX0_start 1 = some (.iload_n 1, 1) := by decide +kernel
theorem sX0_start_1 {d : Nat} {σ : aS} {Q : aQ} {l0 : Option Value} {x : Int32} {lt : aL} {st : List Value} : aX d iX0_start 1 (l0 :: some (.int x) :: lt) (st) σ Q ↔ aX d iX0_start 2 (l0 :: some (.int x) :: lt) (.int x :: st) σ Q := X_iloadn kX0_start_1 rfl
theorem kX0_start_2 : aCode iX0_start 2 = some (.putfield 22, 3) := by decide +kernel
theorem sX0_start_2 {d : Nat} {σ : aS} {Q : aQ} {x : Int32} {a : Nat} {ls : aL} {st : List Value} : aX d iX0_start 2 (ls) (.int x :: .ref a :: st) σ Q ↔ ∃ fs, aFds σ a 0 = some fs ∧ 2 < fs.length ∧ aX d iX0_start 5 (ls) (st) (aput σ a (eO 0 (fs.set 2 (.int x)))) Q := X_putf (w := 40) kX0_start_2 (by decide +kernel) (aFit_I (by decide +kernel)) (by decide +kernel)
theorem kX0_start_5 : aCode iX0_start 5 = some (.aload_n 0, 1) := by decide +kernel
theorem sX0_start_5 {d : Nat} {σ : aS} {Q : aQ} {x : Nat} {lt : aL} {st : List Value} : aX d iX0_start 5 (some (.ref x) :: lt) (st) σ Q ↔ aX d iX0_start 6 (some (.ref x) :: lt) (.ref x :: st) σ Q := X_aloadn kX0_start_5 rfl rfl
theorem kX0_start_6 : aCode iX0_start 6 = some (.iconst 0, 1) := by decide +kernel
theorem sX0_start_6 {d : Nat} {σ : aS} {Q : aQ} {ls : aL} {st : List Value} : aX d iX0_start 6 (ls) (st) σ Q ↔ aX d iX0_start 7 (ls) (.int (nI 0) :: st) σ Q := X_iconst kX0_start_6 (by decide +kernel)
theorem kX0_start_7 : aCode iX0_start 7 = some (.putfield 25, 3) := by decide +kernel
theorem sX0_start_7 {d : Nat} {σ : aS} {Q : aQ} {x : Int32} {a : Nat} {ls : aL} {st : List Value} : aX d iX0_start 7 (ls) (.int x :: .ref a :: st) σ Q ↔ ∃ fs, aFds σ a 0 = some fs ∧ 3 < fs.length ∧ aX d iX0_start 10 (ls) (st) (aput σ a (eO 0 (fs.set 3 (.int x)))) Q := X_putf (w := 43) kX0_start_7 (by decide +kernel) (aFit_I (by decide +kernel)) (by decide +kernel)
theorem kX0_start_10 : aCode iX0_start 10 = some (.aload_n 0, 1) := by decide +kernel
theorem sX0_start_10 {d : Nat} {σ : aS} {Q : aQ} {x : Nat} {lt : aL} {st : List Value} : aX d iX0_start 10 (some (.ref x) :: lt) (st) σ Q ↔ aX d iX0_start 11 (some (.ref x) :: lt) (.ref x :: st) σ Q := X_aloadn kX0_start_10 rfl rfl
theorem kX0_start_11 : aCode iX0_start 11 = some (.iconst 0, 1) := by decide +kernel
theorem sX0_start_11 {d : Nat} {σ : aS} {Q : aQ} {ls : aL} {st : List Value} : aX d iX0_start 11 (ls) (st) σ Q ↔ aX d iX0_start 12 (ls) (.int (nI 0) :: st) σ Q := X_iconst kX0_start_11 (by decide +kernel)
theorem kX0_start_12 : aCode iX0_start 12 = some (.putfield 28, 3) := by decide +kernel
theorem sX0_start_12 {d : Nat} {σ : aS} {Q : aQ} {x : Int32} {a : Nat} {ls : aL} {st : List Value} : aX d iX0_start 12 (ls) (.int x :: .ref a :: st) σ Q ↔ ∃ fs, aFds σ a 0 = some fs ∧ 4 < fs.length ∧ aX d iX0_start 15 (ls) (st) (aput σ a (eO 0 (fs.set 4 (.int x)))) Q := X_putf (w := 46) kX0_start_12 (by decide +kernel) (aFit_I (by decide +kernel)) (by decide +kernel)
theorem kX0_start_15 : aCode iX0_start 15 = some (.aload_n 0, 1) := by decide +kernel
theorem sX0_start_15 {d : Nat} {σ : aS} {Q : aQ} {x : Nat} {lt : aL} {st : List Value} : aX d iX0_start 15 (some (.ref x) :: lt) (st) σ Q ↔ aX d iX0_start 16 (some (.ref x) :: lt) (.ref x :: st) σ Q := X_aloadn kX0_start_15 rfl rfl
theorem kX0_start_16 : aCode iX0_start 16 = some (.bipush (-6), 2) := by decide +kernel
theorem sX0_start_16 {d : Nat} {σ : aS} {Q : aQ} {ls : aL} {st : List Value} : aX d iX0_start 16 (ls) (st) σ Q ↔ aX d iX0_start 18 (ls) (.int ((-6)) :: st) σ Q := X_bipush kX0_start_16 (by decide +kernel)
theorem kX0_start_18 : aCode iX0_start 18 = some (.putfield 18, 3) := by decide +kernel
theorem sX0_start_18 {d : Nat} {σ : aS} {Q : aQ} {x : Int32} {a : Nat} {ls : aL} {st : List Value} : aX d iX0_start 18 (ls) (.int x :: .ref a :: st) σ Q ↔ ∃ fs, aFds σ a 0 = some fs ∧ 5 < fs.length ∧ aX d iX0_start 21 (ls) (st) (aput σ a (eO 0 (fs.set 5 (.int x)))) Q := X_putf (w := 49) kX0_start_18 (by decide +kernel) (aFit_I (by decide +kernel)) (by decide +kernel)
theorem kX0_start_21 : aCode iX0_start 21 = some (.aload_n 0, 1) := by decide +kernel
theorem sX0_start_21 {d : Nat} {σ : aS} {Q : aQ} {x : Nat} {lt : aL} {st : List Value} : aX d iX0_start 21 (some (.ref x) :: lt) (st) σ Q ↔ aX d iX0_start 22 (some (.ref x) :: lt) (.ref x :: st) σ Q := X_aloadn kX0_start_21 rfl rfl
theorem kX0_start_22 : aCode iX0_start 22 = some (.iconst 0, 1) := by decide +kernel
theorem sX0_start_22 {d : Nat} {σ : aS} {Q : aQ} {ls : aL} {st : List Value} : aX d iX0_start 22 (ls) (st) σ Q ↔ aX d iX0_start 23 (ls) (.int (nI 0) :: st) σ Q := X_iconst kX0_start_22 (by decide +kernel)
theorem kX0_start_23 : aCode iX0_start 23 = some (.putfield 31, 3) := by decide +kernel
theorem sX0_start_23 {d : Nat} {σ : aS} {Q : aQ} {x : Int32} {a : Nat} {ls : aL} {st : List Value} : aX d iX0_start 23 (ls) (.int x :: .ref a :: st) σ Q ↔ ∃ fs, aFds σ a 0 = some fs ∧ 6 < fs.length ∧ aX d iX0_start 26 (ls) (st) (aput σ a (eO 0 (fs.set 6 (.int x)))) Q := X_putf (w := 52) kX0_start_23 (by decide +kernel) (aFit_I (by decide +kernel)) (by decide +kernel)
theorem kX0_start_26 : aCode iX0_start 26 = some (.aload_n 0, 1) := by decide +kernel
theorem sX0_start_26 {d : Nat} {σ : aS} {Q : aQ} {x : Nat} {lt : aL} {st : List Value} : aX d iX0_start 26 (some (.ref x) :: lt) (st) σ Q ↔ aX d iX0_start 27 (some (.ref x) :: lt) (.ref x :: st) σ Q := X_aloadn kX0_start_26 rfl rfl
theorem kX0_start_27 : aCode iX0_start 27 = some (.iload_n 1, 1) := by decide +kernel
theorem sX0_start_27 {d : Nat} {σ : aS} {Q : aQ} {l0 : Option Value} {x : Int32} {lt : aL} {st : List Value} : aX d iX0_start 27 (l0 :: some (.int x) :: lt) (st) σ Q ↔ aX d iX0_start 28 (l0 :: some (.int x) :: lt) (.int x :: st) σ Q := X_iloadn kX0_start_27 rfl
theorem kX0_start_28 : aCode iX0_start 28 = some (.iload_n 2, 1) := by decide +kernel
theorem sX0_start_28 {d : Nat} {σ : aS} {Q : aQ} {l0 l1 : Option Value} {x : Int32} {lt : aL} {st : List Value} : aX d iX0_start 28 (l0 :: l1 :: some (.int x) :: lt) (st) σ Q ↔ aX d iX0_start 29 (l0 :: l1 :: some (.int x) :: lt) (.int x :: st) σ Q := X_iloadn kX0_start_28 rfl
theorem kX0_start_29 : aCode iX0_start 29 = some (.invokevirtual 34, 3) := by decide +kernel
theorem sX0_start_29 {d : Nat} {σ : aS} {Q : aQ} {b : Nat} {p0 : Int32} {p1 : Int32} {ls : aL} : aX (d + 1) iX0_start 29 (ls) (.int p1 :: .int p0 :: .ref b :: []) σ Q ↔ aIs σ b 0 ∧ aX d iX0_addPage 0 [some (.ref b), some (.int p0), some (.int p1)] [] σ (fun r τ => aX (d + 1) iX0_start 32 (ls) (aret r ([])) τ Q) := X_invv (N := 2) (As := [.int p1, .int p0]) (w := 293) kX0_start_29 (by decide +kernel) (by decide +kernel) rfl rfl (by simp only [List.length_cons, List.length_nil]; omega) (by simp only [List.length_cons, List.length_nil]; omega) (by decide +kernel) rfl (Nat.le_of_ble_eq_true rfl)
theorem kX0_start_32 : aCode iX0_start 32 = some (.return_, 1) := by decide +kernel
theorem sX0_start_32 {d : Nat} {σ : aS} {Q : aQ} {ls : aL} : aX d iX0_start 32 (ls) ([]) σ Q ↔ Q none σ := X_vret kX0_start_32 (by decide +kernel)
theorem kX0_addPage_0 : aCode iX0_addPage 0 = some (.aload_n 0, 1) := by decide +kernel
theorem sX0_addPage_0 {d : Nat} {σ : aS} {Q : aQ} {x : Nat} {lt : aL} {st : List Value} : aX d iX0_addPage 0 (some (.ref x) :: lt) (st) σ Q ↔ aX d iX0_addPage 1 (some (.ref x) :: lt) (.ref x :: st) σ Q := X_aloadn kX0_addPage_0 rfl rfl
theorem kX0_addPage_1 : aCode iX0_addPage 1 = some (.getfield 25, 3) := by decide +kernel
theorem sX0_addPage_1 {d : Nat} {σ : aS} {Q : aQ} {a : Nat} {ls : aL} {st : List Value} : aX d iX0_addPage 1 (ls) (.ref a :: st) σ Q ↔ ∃ v, aFld σ a 0 3 = some v ∧ aX d iX0_addPage 4 (ls) (v :: st) σ Q := X_getf (w := 43) kX0_addPage_1 (by decide +kernel)
theorem kX0_addPage_4 : aCode iX0_addPage 4 = some (.bipush 8, 2) := by decide +kernel
theorem sX0_addPage_4 {d : Nat} {σ : aS} {Q : aQ} {ls : aL} {st : List Value} : aX d iX0_addPage 4 (ls) (st) σ Q ↔ aX d iX0_addPage 6 (ls) (.int (nI 8) :: st) σ Q := X_bipush kX0_addPage_4 (by decide +kernel)
theorem kX0_addPage_6 : aCode iX0_addPage 6 = some (.if_icmp .ge 37, 3) := by decide +kernel
theorem sX0_addPage_6 {d : Nat} {σ : aS} {Q : aQ} {x y : Int32} {ls : aL} {st : List Value} : aX d iX0_addPage 6 (ls) (.int y :: .int x :: st) σ Q ↔ (if y ≤ x then aX d iX0_addPage 43 (ls) (st) σ Q else aX d iX0_addPage 9 (ls) (st) σ Q) := by rw [X_icmp kX0_addPage_6 (t := 43) (by decide)]; simp only [aCmp_ge]
theorem kX0_addPage_9 : aCode iX0_addPage 9 = some (.aload_n 0, 1) := by decide +kernel
theorem sX0_addPage_9 {d : Nat} {σ : aS} {Q : aQ} {x : Nat} {lt : aL} {st : List Value} : aX d iX0_addPage 9 (some (.ref x) :: lt) (st) σ Q ↔ aX d iX0_addPage 10 (some (.ref x) :: lt) (.ref x :: st) σ Q := X_aloadn kX0_addPage_9 rfl rfl
theorem kX0_addPage_10 : aCode iX0_addPage 10 = some (.getfield 9, 3) := by decide +kernel
theorem sX0_addPage_10 {d : Nat} {σ : aS} {Q : aQ} {a : Nat} {ls : aL} {st : List Value} : aX d iX0_addPage 10 (ls) (.ref a :: st) σ Q ↔ ∃ v, aFld σ a 0 0 = some v ∧ aX d iX0_addPage 13 (ls) (v :: st) σ Q := X_getf (w := 38) kX0_addPage_10 (by decide +kernel)
theorem kX0_addPage_13 : aCode iX0_addPage 13 = some (.aload_n 0, 1) := by decide +kernel
theorem sX0_addPage_13 {d : Nat} {σ : aS} {Q : aQ} {x : Nat} {lt : aL} {st : List Value} : aX d iX0_addPage 13 (some (.ref x) :: lt) (st) σ Q ↔ aX d iX0_addPage 14 (some (.ref x) :: lt) (.ref x :: st) σ Q := X_aloadn kX0_addPage_13 rfl rfl
theorem kX0_addPage_14 : aCode iX0_addPage 14 = some (.getfield 25, 3) := by decide +kernel
theorem sX0_addPage_14 {d : Nat} {σ : aS} {Q : aQ} {a : Nat} {ls : aL} {st : List Value} : aX d iX0_addPage 14 (ls) (.ref a :: st) σ Q ↔ ∃ v, aFld σ a 0 3 = some v ∧ aX d iX0_addPage 17 (ls) (v :: st) σ Q := X_getf (w := 43) kX0_addPage_14 (by decide +kernel)
theorem kX0_addPage_17 : aCode iX0_addPage 17 = some (.iload_n 1, 1) := by decide +kernel
theorem sX0_addPage_17 {d : Nat} {σ : aS} {Q : aQ} {l0 : Option Value} {x : Int32} {lt : aL} {st : List Value} : aX d iX0_addPage 17 (l0 :: some (.int x) :: lt) (st) σ Q ↔ aX d iX0_addPage 18 (l0 :: some (.int x) :: lt) (.int x :: st) σ Q := X_iloadn kX0_addPage_17 rfl
theorem kX0_addPage_18 : aCode iX0_addPage 18 = some (.invokestatic 38, 3) := by decide +kernel
theorem sX0_addPage_18 {d : Nat} {σ : aS} {Q : aQ} {p0 : Nat} {p1 : Int32} {p2 : Int32} {ls : aL} : aX (d + 1) iX0_addPage 18 (ls) (.int p2 :: .int p1 :: .ref p0 :: []) σ Q ↔ aX d iX6_setAt 0 [some (.ref p0), some (.int p1), some (.int p2)] [] σ (fun r τ => aX (d + 1) iX0_addPage 21 (ls) (aret r ([])) τ Q) := X_invs (N := 3) (As := [.int p2, .int p1, .ref p0]) (k := 4) (w := 297) kX0_addPage_18 (by decide +kernel) (by decide) (by decide +kernel) rfl rfl (by simp only [List.length_cons, List.length_nil]; omega) (by simp only [List.length_cons, List.length_nil]; omega) rfl (Nat.le_of_ble_eq_true rfl)
theorem kX0_addPage_21 : aCode iX0_addPage 21 = some (.aload_n 0, 1) := by decide +kernel
theorem sX0_addPage_21 {d : Nat} {σ : aS} {Q : aQ} {x : Nat} {lt : aL} {st : List Value} : aX d iX0_addPage 21 (some (.ref x) :: lt) (st) σ Q ↔ aX d iX0_addPage 22 (some (.ref x) :: lt) (.ref x :: st) σ Q := X_aloadn kX0_addPage_21 rfl rfl
theorem kX0_addPage_22 : aCode iX0_addPage 22 = some (.getfield 15, 3) := by decide +kernel
theorem sX0_addPage_22 {d : Nat} {σ : aS} {Q : aQ} {a : Nat} {ls : aL} {st : List Value} : aX d iX0_addPage 22 (ls) (.ref a :: st) σ Q ↔ ∃ v, aFld σ a 0 1 = some v ∧ aX d iX0_addPage 25 (ls) (v :: st) σ Q := X_getf (w := 39) kX0_addPage_22 (by decide +kernel)
theorem kX0_addPage_25 : aCode iX0_addPage 25 = some (.aload_n 0, 1) := by decide +kernel
theorem sX0_addPage_25 {d : Nat} {σ : aS} {Q : aQ} {x : Nat} {lt : aL} {st : List Value} : aX d iX0_addPage 25 (some (.ref x) :: lt) (st) σ Q ↔ aX d iX0_addPage 26 (some (.ref x) :: lt) (.ref x :: st) σ Q := X_aloadn kX0_addPage_25 rfl rfl
theorem kX0_addPage_26 : aCode iX0_addPage 26 = some (.getfield 25, 3) := by decide +kernel
theorem sX0_addPage_26 {d : Nat} {σ : aS} {Q : aQ} {a : Nat} {ls : aL} {st : List Value} : aX d iX0_addPage 26 (ls) (.ref a :: st) σ Q ↔ ∃ v, aFld σ a 0 3 = some v ∧ aX d iX0_addPage 29 (ls) (v :: st) σ Q := X_getf (w := 43) kX0_addPage_26 (by decide +kernel)
theorem kX0_addPage_29 : aCode iX0_addPage 29 = some (.iload_n 2, 1) := by decide +kernel
theorem sX0_addPage_29 {d : Nat} {σ : aS} {Q : aQ} {l0 l1 : Option Value} {x : Int32} {lt : aL} {st : List Value} : aX d iX0_addPage 29 (l0 :: l1 :: some (.int x) :: lt) (st) σ Q ↔ aX d iX0_addPage 30 (l0 :: l1 :: some (.int x) :: lt) (.int x :: st) σ Q := X_iloadn kX0_addPage_29 rfl
theorem kX0_addPage_30 : aCode iX0_addPage 30 = some (.invokestatic 38, 3) := by decide +kernel
theorem sX0_addPage_30 {d : Nat} {σ : aS} {Q : aQ} {p0 : Nat} {p1 : Int32} {p2 : Int32} {ls : aL} : aX (d + 1) iX0_addPage 30 (ls) (.int p2 :: .int p1 :: .ref p0 :: []) σ Q ↔ aX d iX6_setAt 0 [some (.ref p0), some (.int p1), some (.int p2)] [] σ (fun r τ => aX (d + 1) iX0_addPage 33 (ls) (aret r ([])) τ Q) := X_invs (N := 3) (As := [.int p2, .int p1, .ref p0]) (k := 4) (w := 297) kX0_addPage_30 (by decide +kernel) (by decide) (by decide +kernel) rfl rfl (by simp only [List.length_cons, List.length_nil]; omega) (by simp only [List.length_cons, List.length_nil]; omega) rfl (Nat.le_of_ble_eq_true rfl)
theorem kX0_addPage_33 : aCode iX0_addPage 33 = some (.aload_n 0, 1) := by decide +kernel
theorem sX0_addPage_33 {d : Nat} {σ : aS} {Q : aQ} {x : Nat} {lt : aL} {st : List Value} : aX d iX0_addPage 33 (some (.ref x) :: lt) (st) σ Q ↔ aX d iX0_addPage 34 (some (.ref x) :: lt) (.ref x :: st) σ Q := X_aloadn kX0_addPage_33 rfl rfl
theorem kX0_addPage_34 : aCode iX0_addPage 34 = some (.dup, 1) := by decide +kernel
theorem sX0_addPage_34 {d : Nat} {σ : aS} {Q : aQ} {x : Nat} {ls : aL} {st : List Value} : aX d iX0_addPage 34 (ls) (.ref x :: st) σ Q ↔ aX d iX0_addPage 35 (ls) (.ref x :: .ref x :: st) σ Q := X_dup kX0_addPage_34 rfl
theorem sX0_addPage_34i {d : Nat} {σ : aS} {Q : aQ} {x : Int32} {ls : aL} {st : List Value} : aX d iX0_addPage 34 (ls) (.int x :: st) σ Q ↔ aX d iX0_addPage 35 (ls) (.int x :: .int x :: st) σ Q := X_dup kX0_addPage_34 rfl
theorem kX0_addPage_35 : aCode iX0_addPage 35 = some (.getfield 25, 3) := by decide +kernel
theorem sX0_addPage_35 {d : Nat} {σ : aS} {Q : aQ} {a : Nat} {ls : aL} {st : List Value} : aX d iX0_addPage 35 (ls) (.ref a :: st) σ Q ↔ ∃ v, aFld σ a 0 3 = some v ∧ aX d iX0_addPage 38 (ls) (v :: st) σ Q := X_getf (w := 43) kX0_addPage_35 (by decide +kernel)
theorem kX0_addPage_38 : aCode iX0_addPage 38 = some (.iconst 1, 1) := by decide +kernel
theorem sX0_addPage_38 {d : Nat} {σ : aS} {Q : aQ} {ls : aL} {st : List Value} : aX d iX0_addPage 38 (ls) (st) σ Q ↔ aX d iX0_addPage 39 (ls) (.int (nI 1) :: st) σ Q := X_iconst kX0_addPage_38 (by decide +kernel)
theorem kX0_addPage_39 : aCode iX0_addPage 39 = some (.iadd, 1) := by decide +kernel
theorem sX0_addPage_39 {d : Nat} {σ : aS} {Q : aQ} {x y : Int32} {ls : aL} {st : List Value} : aX d iX0_addPage 39 (ls) (.int y :: .int x :: st) σ Q ↔ aX d iX0_addPage 40 (ls) (.int (x + y) :: st) σ Q := X_iadd kX0_addPage_39
theorem kX0_addPage_40 : aCode iX0_addPage 40 = some (.putfield 25, 3) := by decide +kernel
theorem sX0_addPage_40 {d : Nat} {σ : aS} {Q : aQ} {x : Int32} {a : Nat} {ls : aL} {st : List Value} : aX d iX0_addPage 40 (ls) (.int x :: .ref a :: st) σ Q ↔ ∃ fs, aFds σ a 0 = some fs ∧ 3 < fs.length ∧ aX d iX0_addPage 43 (ls) (st) (aput σ a (eO 0 (fs.set 3 (.int x)))) Q := X_putf (w := 43) kX0_addPage_40 (by decide +kernel) (aFit_I (by decide +kernel)) (by decide +kernel)
theorem kX0_addPage_43 : aCode iX0_addPage 43 = some (.return_, 1) := by decide +kernel
theorem sX0_addPage_43 {d : Nat} {σ : aS} {Q : aQ} {ls : aL} : aX d iX0_addPage 43 (ls) ([]) σ Q ↔ Q none σ := X_vret kX0_addPage_43 (by decide +kernel)
theorem kX0_addToldPage_0 : aCode iX0_addToldPage 0 = some (.aload_n 0, 1) := by decide +kernel
theorem sX0_addToldPage_0 {d : Nat} {σ : aS} {Q : aQ} {x : Nat} {lt : aL} {st : List Value} : aX d iX0_addToldPage 0 (some (.ref x) :: lt) (st) σ Q ↔ aX d iX0_addToldPage 1 (some (.ref x) :: lt) (.ref x :: st) σ Q := X_aloadn kX0_addToldPage_0 rfl rfl
theorem kX0_addToldPage_1 : aCode iX0_addToldPage 1 = some (.dup, 1) := by decide +kernel
theorem sX0_addToldPage_1 {d : Nat} {σ : aS} {Q : aQ} {x : Nat} {ls : aL} {st : List Value} : aX d iX0_addToldPage 1 (ls) (.ref x :: st) σ Q ↔ aX d iX0_addToldPage 2 (ls) (.ref x :: .ref x :: st) σ Q := X_dup kX0_addToldPage_1 rfl
theorem sX0_addToldPage_1i {d : Nat} {σ : aS} {Q : aQ} {x : Int32} {ls : aL} {st : List Value} : aX d iX0_addToldPage 1 (ls) (.int x :: st) σ Q ↔ aX d iX0_addToldPage 2 (ls) (.int x :: .int x :: st) σ Q := X_dup kX0_addToldPage_1 rfl
theorem kX0_addToldPage_2 : aCode iX0_addToldPage 2 = some (.getfield 31, 3) := by decide +kernel
theorem sX0_addToldPage_2 {d : Nat} {σ : aS} {Q : aQ} {a : Nat} {ls : aL} {st : List Value} : aX d iX0_addToldPage 2 (ls) (.ref a :: st) σ Q ↔ ∃ v, aFld σ a 0 6 = some v ∧ aX d iX0_addToldPage 5 (ls) (v :: st) σ Q := X_getf (w := 52) kX0_addToldPage_2 (by decide +kernel)
theorem kX0_addToldPage_5 : aCode iX0_addToldPage 5 = some (.iconst 1, 1) := by decide +kernel
theorem sX0_addToldPage_5 {d : Nat} {σ : aS} {Q : aQ} {ls : aL} {st : List Value} : aX d iX0_addToldPage 5 (ls) (st) σ Q ↔ aX d iX0_addToldPage 6 (ls) (.int (nI 1) :: st) σ Q := X_iconst kX0_addToldPage_5 (by decide +kernel)
theorem kX0_addToldPage_6 : aCode iX0_addToldPage 6 = some (.aload_n 0, 1) := by decide +kernel
theorem sX0_addToldPage_6 {d : Nat} {σ : aS} {Q : aQ} {x : Nat} {lt : aL} {st : List Value} : aX d iX0_addToldPage 6 (some (.ref x) :: lt) (st) σ Q ↔ aX d iX0_addToldPage 7 (some (.ref x) :: lt) (.ref x :: st) σ Q := X_aloadn kX0_addToldPage_6 rfl rfl
theorem kX0_addToldPage_7 : aCode iX0_addToldPage 7 = some (.getfield 25, 3) := by decide +kernel
theorem sX0_addToldPage_7 {d : Nat} {σ : aS} {Q : aQ} {a : Nat} {ls : aL} {st : List Value} : aX d iX0_addToldPage 7 (ls) (.ref a :: st) σ Q ↔ ∃ v, aFld σ a 0 3 = some v ∧ aX d iX0_addToldPage 10 (ls) (v :: st) σ Q := X_getf (w := 43) kX0_addToldPage_7 (by decide +kernel)
theorem kX0_addToldPage_10 : aCode iX0_addToldPage 10 = some (.ishl, 1) := by decide +kernel
theorem sX0_addToldPage_10 {d : Nat} {σ : aS} {Q : aQ} {x y : Int32} {ls : aL} {st : List Value} : aX d iX0_addToldPage 10 (ls) (.int y :: .int x :: st) σ Q ↔ aX d iX0_addToldPage 11 (ls) (.int (x <<< (y &&& 31)) :: st) σ Q := X_ishl kX0_addToldPage_10
theorem kX0_addToldPage_11 : aCode iX0_addToldPage 11 = some (.ior, 1) := by decide +kernel
theorem sX0_addToldPage_11 {d : Nat} {σ : aS} {Q : aQ} {x y : Int32} {ls : aL} {st : List Value} : aX d iX0_addToldPage 11 (ls) (.int y :: .int x :: st) σ Q ↔ aX d iX0_addToldPage 12 (ls) (.int (x ||| y) :: st) σ Q := X_ior kX0_addToldPage_11
theorem kX0_addToldPage_12 : aCode iX0_addToldPage 12 = some (.putfield 31, 3) := by decide +kernel
theorem sX0_addToldPage_12 {d : Nat} {σ : aS} {Q : aQ} {x : Int32} {a : Nat} {ls : aL} {st : List Value} : aX d iX0_addToldPage 12 (ls) (.int x :: .ref a :: st) σ Q ↔ ∃ fs, aFds σ a 0 = some fs ∧ 6 < fs.length ∧ aX d iX0_addToldPage 15 (ls) (st) (aput σ a (eO 0 (fs.set 6 (.int x)))) Q := X_putf (w := 52) kX0_addToldPage_12 (by decide +kernel) (aFit_I (by decide +kernel)) (by decide +kernel)
theorem kX0_addToldPage_15 : aCode iX0_addToldPage 15 = some (.aload_n 0, 1) := by decide +kernel
theorem sX0_addToldPage_15 {d : Nat} {σ : aS} {Q : aQ} {x : Nat} {lt : aL} {st : List Value} : aX d iX0_addToldPage 15 (some (.ref x) :: lt) (st) σ Q ↔ aX d iX0_addToldPage 16 (some (.ref x) :: lt) (.ref x :: st) σ Q := X_aloadn kX0_addToldPage_15 rfl rfl
theorem kX0_addToldPage_16 : aCode iX0_addToldPage 16 = some (.iload_n 1, 1) := by decide +kernel
theorem sX0_addToldPage_16 {d : Nat} {σ : aS} {Q : aQ} {l0 : Option Value} {x : Int32} {lt : aL} {st : List Value} : aX d iX0_addToldPage 16 (l0 :: some (.int x) :: lt) (st) σ Q ↔ aX d iX0_addToldPage 17 (l0 :: some (.int x) :: lt) (.int x :: st) σ Q := X_iloadn kX0_addToldPage_16 rfl
theorem kX0_addToldPage_17 : aCode iX0_addToldPage 17 = some (.aload_n 0, 1) := by decide +kernel
theorem sX0_addToldPage_17 {d : Nat} {σ : aS} {Q : aQ} {x : Nat} {lt : aL} {st : List Value} : aX d iX0_addToldPage 17 (some (.ref x) :: lt) (st) σ Q ↔ aX d iX0_addToldPage 18 (some (.ref x) :: lt) (.ref x :: st) σ Q := X_aloadn kX0_addToldPage_17 rfl rfl
theorem kX0_addToldPage_18 : aCode iX0_addToldPage 18 = some (.getfield 18, 3) := by decide +kernel
theorem sX0_addToldPage_18 {d : Nat} {σ : aS} {Q : aQ} {a : Nat} {ls : aL} {st : List Value} : aX d iX0_addToldPage 18 (ls) (.ref a :: st) σ Q ↔ ∃ v, aFld σ a 0 5 = some v ∧ aX d iX0_addToldPage 21 (ls) (v :: st) σ Q := X_getf (w := 49) kX0_addToldPage_18 (by decide +kernel)
theorem kX0_addToldPage_21 : aCode iX0_addToldPage 21 = some (.invokevirtual 34, 3) := by decide +kernel
theorem sX0_addToldPage_21 {d : Nat} {σ : aS} {Q : aQ} {b : Nat} {p0 : Int32} {p1 : Int32} {ls : aL} : aX (d + 1) iX0_addToldPage 21 (ls) (.int p1 :: .int p0 :: .ref b :: []) σ Q ↔ aIs σ b 0 ∧ aX d iX0_addPage 0 [some (.ref b), some (.int p0), some (.int p1)] [] σ (fun r τ => aX (d + 1) iX0_addToldPage 24 (ls) (aret r ([])) τ Q) := X_invv (N := 2) (As := [.int p1, .int p0]) (w := 293) kX0_addToldPage_21 (by decide +kernel) (by decide +kernel) rfl rfl (by simp only [List.length_cons, List.length_nil]; omega) (by simp only [List.length_cons, List.length_nil]; omega) (by decide +kernel) rfl (Nat.le_of_ble_eq_true rfl)
theorem kX0_addToldPage_24 : aCode iX0_addToldPage 24 = some (.aload_n 0, 1) := by decide +kernel
theorem sX0_addToldPage_24 {d : Nat} {σ : aS} {Q : aQ} {x : Nat} {lt : aL} {st : List Value} : aX d iX0_addToldPage 24 (some (.ref x) :: lt) (st) σ Q ↔ aX d iX0_addToldPage 25 (some (.ref x) :: lt) (.ref x :: st) σ Q := X_aloadn kX0_addToldPage_24 rfl rfl
theorem kX0_addToldPage_25 : aCode iX0_addToldPage 25 = some (.bipush (-6), 2) := by decide +kernel
theorem sX0_addToldPage_25 {d : Nat} {σ : aS} {Q : aQ} {ls : aL} {st : List Value} : aX d iX0_addToldPage 25 (ls) (st) σ Q ↔ aX d iX0_addToldPage 27 (ls) (.int ((-6)) :: st) σ Q := X_bipush kX0_addToldPage_25 (by decide +kernel)
theorem kX0_addToldPage_27 : aCode iX0_addToldPage 27 = some (.putfield 18, 3) := by decide +kernel
theorem sX0_addToldPage_27 {d : Nat} {σ : aS} {Q : aQ} {x : Int32} {a : Nat} {ls : aL} {st : List Value} : aX d iX0_addToldPage 27 (ls) (.int x :: .ref a :: st) σ Q ↔ ∃ fs, aFds σ a 0 = some fs ∧ 5 < fs.length ∧ aX d iX0_addToldPage 30 (ls) (st) (aput σ a (eO 0 (fs.set 5 (.int x)))) Q := X_putf (w := 49) kX0_addToldPage_27 (by decide +kernel) (aFit_I (by decide +kernel)) (by decide +kernel)
theorem kX0_addToldPage_30 : aCode iX0_addToldPage 30 = some (.return_, 1) := by decide +kernel
theorem sX0_addToldPage_30 {d : Nat} {σ : aS} {Q : aQ} {ls : aL} : aX d iX0_addToldPage 30 (ls) ([]) σ Q ↔ Q none σ := X_vret kX0_addToldPage_30 (by decide +kernel)
theorem kX0_copyFrom_0 : aCode iX0_copyFrom 0 = some (.aload_n 1, 1) := by decide +kernel
theorem sX0_copyFrom_0 {d : Nat} {σ : aS} {Q : aQ} {l0 : Option Value} {x : Nat} {lt : aL} {st : List Value} : aX d iX0_copyFrom 0 (l0 :: some (.ref x) :: lt) (st) σ Q ↔ aX d iX0_copyFrom 1 (l0 :: some (.ref x) :: lt) (.ref x :: st) σ Q := X_aloadn kX0_copyFrom_0 rfl rfl
theorem sX0_copyFrom_0n {d : Nat} {σ : aS} {Q : aQ} {l0 : Option Value} {lt : aL} {st : List Value} : aX d iX0_copyFrom 0 (l0 :: some .null :: lt) (st) σ Q ↔ aX d iX0_copyFrom 1 (l0 :: some .null :: lt) (.null :: st) σ Q := X_aloadn kX0_copyFrom_0 rfl rfl
theorem kX0_copyFrom_1 : aCode iX0_copyFrom 1 = some (.getfield 9, 3) := by decide +kernel
theorem sX0_copyFrom_1 {d : Nat} {σ : aS} {Q : aQ} {a : Nat} {ls : aL} {st : List Value} : aX d iX0_copyFrom 1 (ls) (.ref a :: st) σ Q ↔ ∃ v, aFld σ a 0 0 = some v ∧ aX d iX0_copyFrom 4 (ls) (v :: st) σ Q := X_getf (w := 38) kX0_copyFrom_1 (by decide +kernel)
theorem kX0_copyFrom_4 : aCode iX0_copyFrom 4 = some (.aload_n 0, 1) := by decide +kernel
theorem sX0_copyFrom_4 {d : Nat} {σ : aS} {Q : aQ} {x : Nat} {lt : aL} {st : List Value} : aX d iX0_copyFrom 4 (some (.ref x) :: lt) (st) σ Q ↔ aX d iX0_copyFrom 5 (some (.ref x) :: lt) (.ref x :: st) σ Q := X_aloadn kX0_copyFrom_4 rfl rfl
theorem kX0_copyFrom_5 : aCode iX0_copyFrom 5 = some (.getfield 9, 3) := by decide +kernel
theorem sX0_copyFrom_5 {d : Nat} {σ : aS} {Q : aQ} {a : Nat} {ls : aL} {st : List Value} : aX d iX0_copyFrom 5 (ls) (.ref a :: st) σ Q ↔ ∃ v, aFld σ a 0 0 = some v ∧ aX d iX0_copyFrom 8 (ls) (v :: st) σ Q := X_getf (w := 38) kX0_copyFrom_5 (by decide +kernel)
theorem kX0_copyFrom_8 : aCode iX0_copyFrom 8 = some (.invokestatic 42, 3) := by decide +kernel
theorem sX0_copyFrom_8 {d : Nat} {σ : aS} {Q : aQ} {p0 : Nat} {p1 : Nat} {ls : aL} : aX (d + 1) iX0_copyFrom 8 (ls) (.ref p1 :: .ref p0 :: []) σ Q ↔ aX d iX6_copyRow 0 [some (.ref p0), some (.ref p1)] [] σ (fun r τ => aX (d + 1) iX0_copyFrom 11 (ls) (aret r ([])) τ Q) := X_invs (N := 2) (As := [.ref p1, .ref p0]) (k := 4) (w := 225) kX0_copyFrom_8 (by decide +kernel) (by decide) (by decide +kernel) rfl rfl (by simp only [List.length_cons, List.length_nil]; omega) (by simp only [List.length_cons, List.length_nil]; omega) rfl (Nat.le_of_ble_eq_true rfl)
theorem kX0_copyFrom_11 : aCode iX0_copyFrom 11 = some (.aload_n 1, 1) := by decide +kernel
theorem sX0_copyFrom_11 {d : Nat} {σ : aS} {Q : aQ} {l0 : Option Value} {x : Nat} {lt : aL} {st : List Value} : aX d iX0_copyFrom 11 (l0 :: some (.ref x) :: lt) (st) σ Q ↔ aX d iX0_copyFrom 12 (l0 :: some (.ref x) :: lt) (.ref x :: st) σ Q := X_aloadn kX0_copyFrom_11 rfl rfl
theorem sX0_copyFrom_11n {d : Nat} {σ : aS} {Q : aQ} {l0 : Option Value} {lt : aL} {st : List Value} : aX d iX0_copyFrom 11 (l0 :: some .null :: lt) (st) σ Q ↔ aX d iX0_copyFrom 12 (l0 :: some .null :: lt) (.null :: st) σ Q := X_aloadn kX0_copyFrom_11 rfl rfl
theorem kX0_copyFrom_12 : aCode iX0_copyFrom 12 = some (.getfield 15, 3) := by decide +kernel
theorem sX0_copyFrom_12 {d : Nat} {σ : aS} {Q : aQ} {a : Nat} {ls : aL} {st : List Value} : aX d iX0_copyFrom 12 (ls) (.ref a :: st) σ Q ↔ ∃ v, aFld σ a 0 1 = some v ∧ aX d iX0_copyFrom 15 (ls) (v :: st) σ Q := X_getf (w := 39) kX0_copyFrom_12 (by decide +kernel)
theorem kX0_copyFrom_15 : aCode iX0_copyFrom 15 = some (.aload_n 0, 1) := by decide +kernel
theorem sX0_copyFrom_15 {d : Nat} {σ : aS} {Q : aQ} {x : Nat} {lt : aL} {st : List Value} : aX d iX0_copyFrom 15 (some (.ref x) :: lt) (st) σ Q ↔ aX d iX0_copyFrom 16 (some (.ref x) :: lt) (.ref x :: st) σ Q := X_aloadn kX0_copyFrom_15 rfl rfl
theorem kX0_copyFrom_16 : aCode iX0_copyFrom 16 = some (.getfield 15, 3) := by decide +kernel
theorem sX0_copyFrom_16 {d : Nat} {σ : aS} {Q : aQ} {a : Nat} {ls : aL} {st : List Value} : aX d iX0_copyFrom 16 (ls) (.ref a :: st) σ Q ↔ ∃ v, aFld σ a 0 1 = some v ∧ aX d iX0_copyFrom 19 (ls) (v :: st) σ Q := X_getf (w := 39) kX0_copyFrom_16 (by decide +kernel)
theorem kX0_copyFrom_19 : aCode iX0_copyFrom 19 = some (.invokestatic 42, 3) := by decide +kernel
theorem sX0_copyFrom_19 {d : Nat} {σ : aS} {Q : aQ} {p0 : Nat} {p1 : Nat} {ls : aL} : aX (d + 1) iX0_copyFrom 19 (ls) (.ref p1 :: .ref p0 :: []) σ Q ↔ aX d iX6_copyRow 0 [some (.ref p0), some (.ref p1)] [] σ (fun r τ => aX (d + 1) iX0_copyFrom 22 (ls) (aret r ([])) τ Q) := X_invs (N := 2) (As := [.ref p1, .ref p0]) (k := 4) (w := 225) kX0_copyFrom_19 (by decide +kernel) (by decide) (by decide +kernel) rfl rfl (by simp only [List.length_cons, List.length_nil]; omega) (by simp only [List.length_cons, List.length_nil]; omega) rfl (Nat.le_of_ble_eq_true rfl)
theorem kX0_copyFrom_22 : aCode iX0_copyFrom 22 = some (.aload_n 0, 1) := by decide +kernel
theorem sX0_copyFrom_22 {d : Nat} {σ : aS} {Q : aQ} {x : Nat} {lt : aL} {st : List Value} : aX d iX0_copyFrom 22 (some (.ref x) :: lt) (st) σ Q ↔ aX d iX0_copyFrom 23 (some (.ref x) :: lt) (.ref x :: st) σ Q := X_aloadn kX0_copyFrom_22 rfl rfl
theorem kX0_copyFrom_23 : aCode iX0_copyFrom 23 = some (.aload_n 1, 1) := by decide +kernel
theorem sX0_copyFrom_23 {d : Nat} {σ : aS} {Q : aQ} {l0 : Option Value} {x : Nat} {lt : aL} {st : List Value} : aX d iX0_copyFrom 23 (l0 :: some (.ref x) :: lt) (st) σ Q ↔ aX d iX0_copyFrom 24 (l0 :: some (.ref x) :: lt) (.ref x :: st) σ Q := X_aloadn kX0_copyFrom_23 rfl rfl
theorem sX0_copyFrom_23n {d : Nat} {σ : aS} {Q : aQ} {l0 : Option Value} {lt : aL} {st : List Value} : aX d iX0_copyFrom 23 (l0 :: some .null :: lt) (st) σ Q ↔ aX d iX0_copyFrom 24 (l0 :: some .null :: lt) (.null :: st) σ Q := X_aloadn kX0_copyFrom_23 rfl rfl
theorem kX0_copyFrom_24 : aCode iX0_copyFrom 24 = some (.getfield 22, 3) := by decide +kernel
theorem sX0_copyFrom_24 {d : Nat} {σ : aS} {Q : aQ} {a : Nat} {ls : aL} {st : List Value} : aX d iX0_copyFrom 24 (ls) (.ref a :: st) σ Q ↔ ∃ v, aFld σ a 0 2 = some v ∧ aX d iX0_copyFrom 27 (ls) (v :: st) σ Q := X_getf (w := 40) kX0_copyFrom_24 (by decide +kernel)
theorem kX0_copyFrom_27 : aCode iX0_copyFrom 27 = some (.putfield 22, 3) := by decide +kernel
theorem sX0_copyFrom_27 {d : Nat} {σ : aS} {Q : aQ} {x : Int32} {a : Nat} {ls : aL} {st : List Value} : aX d iX0_copyFrom 27 (ls) (.int x :: .ref a :: st) σ Q ↔ ∃ fs, aFds σ a 0 = some fs ∧ 2 < fs.length ∧ aX d iX0_copyFrom 30 (ls) (st) (aput σ a (eO 0 (fs.set 2 (.int x)))) Q := X_putf (w := 40) kX0_copyFrom_27 (by decide +kernel) (aFit_I (by decide +kernel)) (by decide +kernel)
theorem kX0_copyFrom_30 : aCode iX0_copyFrom 30 = some (.aload_n 0, 1) := by decide +kernel
theorem sX0_copyFrom_30 {d : Nat} {σ : aS} {Q : aQ} {x : Nat} {lt : aL} {st : List Value} : aX d iX0_copyFrom 30 (some (.ref x) :: lt) (st) σ Q ↔ aX d iX0_copyFrom 31 (some (.ref x) :: lt) (.ref x :: st) σ Q := X_aloadn kX0_copyFrom_30 rfl rfl
theorem kX0_copyFrom_31 : aCode iX0_copyFrom 31 = some (.aload_n 1, 1) := by decide +kernel
theorem sX0_copyFrom_31 {d : Nat} {σ : aS} {Q : aQ} {l0 : Option Value} {x : Nat} {lt : aL} {st : List Value} : aX d iX0_copyFrom 31 (l0 :: some (.ref x) :: lt) (st) σ Q ↔ aX d iX0_copyFrom 32 (l0 :: some (.ref x) :: lt) (.ref x :: st) σ Q := X_aloadn kX0_copyFrom_31 rfl rfl
theorem sX0_copyFrom_31n {d : Nat} {σ : aS} {Q : aQ} {l0 : Option Value} {lt : aL} {st : List Value} : aX d iX0_copyFrom 31 (l0 :: some .null :: lt) (st) σ Q ↔ aX d iX0_copyFrom 32 (l0 :: some .null :: lt) (.null :: st) σ Q := X_aloadn kX0_copyFrom_31 rfl rfl
theorem kX0_copyFrom_32 : aCode iX0_copyFrom 32 = some (.getfield 25, 3) := by decide +kernel
theorem sX0_copyFrom_32 {d : Nat} {σ : aS} {Q : aQ} {a : Nat} {ls : aL} {st : List Value} : aX d iX0_copyFrom 32 (ls) (.ref a :: st) σ Q ↔ ∃ v, aFld σ a 0 3 = some v ∧ aX d iX0_copyFrom 35 (ls) (v :: st) σ Q := X_getf (w := 43) kX0_copyFrom_32 (by decide +kernel)
theorem kX0_copyFrom_35 : aCode iX0_copyFrom 35 = some (.putfield 25, 3) := by decide +kernel
theorem sX0_copyFrom_35 {d : Nat} {σ : aS} {Q : aQ} {x : Int32} {a : Nat} {ls : aL} {st : List Value} : aX d iX0_copyFrom 35 (ls) (.int x :: .ref a :: st) σ Q ↔ ∃ fs, aFds σ a 0 = some fs ∧ 3 < fs.length ∧ aX d iX0_copyFrom 38 (ls) (st) (aput σ a (eO 0 (fs.set 3 (.int x)))) Q := X_putf (w := 43) kX0_copyFrom_35 (by decide +kernel) (aFit_I (by decide +kernel)) (by decide +kernel)
theorem kX0_copyFrom_38 : aCode iX0_copyFrom 38 = some (.aload_n 0, 1) := by decide +kernel
theorem sX0_copyFrom_38 {d : Nat} {σ : aS} {Q : aQ} {x : Nat} {lt : aL} {st : List Value} : aX d iX0_copyFrom 38 (some (.ref x) :: lt) (st) σ Q ↔ aX d iX0_copyFrom 39 (some (.ref x) :: lt) (.ref x :: st) σ Q := X_aloadn kX0_copyFrom_38 rfl rfl
theorem kX0_copyFrom_39 : aCode iX0_copyFrom 39 = some (.aload_n 1, 1) := by decide +kernel
theorem sX0_copyFrom_39 {d : Nat} {σ : aS} {Q : aQ} {l0 : Option Value} {x : Nat} {lt : aL} {st : List Value} : aX d iX0_copyFrom 39 (l0 :: some (.ref x) :: lt) (st) σ Q ↔ aX d iX0_copyFrom 40 (l0 :: some (.ref x) :: lt) (.ref x :: st) σ Q := X_aloadn kX0_copyFrom_39 rfl rfl
theorem sX0_copyFrom_39n {d : Nat} {σ : aS} {Q : aQ} {l0 : Option Value} {lt : aL} {st : List Value} : aX d iX0_copyFrom 39 (l0 :: some .null :: lt) (st) σ Q ↔ aX d iX0_copyFrom 40 (l0 :: some .null :: lt) (.null :: st) σ Q := X_aloadn kX0_copyFrom_39 rfl rfl
theorem kX0_copyFrom_40 : aCode iX0_copyFrom 40 = some (.getfield 28, 3) := by decide +kernel
theorem sX0_copyFrom_40 {d : Nat} {σ : aS} {Q : aQ} {a : Nat} {ls : aL} {st : List Value} : aX d iX0_copyFrom 40 (ls) (.ref a :: st) σ Q ↔ ∃ v, aFld σ a 0 4 = some v ∧ aX d iX0_copyFrom 43 (ls) (v :: st) σ Q := X_getf (w := 46) kX0_copyFrom_40 (by decide +kernel)
theorem kX0_copyFrom_43 : aCode iX0_copyFrom 43 = some (.putfield 28, 3) := by decide +kernel
theorem sX0_copyFrom_43 {d : Nat} {σ : aS} {Q : aQ} {x : Int32} {a : Nat} {ls : aL} {st : List Value} : aX d iX0_copyFrom 43 (ls) (.int x :: .ref a :: st) σ Q ↔ ∃ fs, aFds σ a 0 = some fs ∧ 4 < fs.length ∧ aX d iX0_copyFrom 46 (ls) (st) (aput σ a (eO 0 (fs.set 4 (.int x)))) Q := X_putf (w := 46) kX0_copyFrom_43 (by decide +kernel) (aFit_I (by decide +kernel)) (by decide +kernel)
theorem kX0_copyFrom_46 : aCode iX0_copyFrom 46 = some (.aload_n 0, 1) := by decide +kernel
theorem sX0_copyFrom_46 {d : Nat} {σ : aS} {Q : aQ} {x : Nat} {lt : aL} {st : List Value} : aX d iX0_copyFrom 46 (some (.ref x) :: lt) (st) σ Q ↔ aX d iX0_copyFrom 47 (some (.ref x) :: lt) (.ref x :: st) σ Q := X_aloadn kX0_copyFrom_46 rfl rfl
theorem kX0_copyFrom_47 : aCode iX0_copyFrom 47 = some (.aload_n 1, 1) := by decide +kernel
theorem sX0_copyFrom_47 {d : Nat} {σ : aS} {Q : aQ} {l0 : Option Value} {x : Nat} {lt : aL} {st : List Value} : aX d iX0_copyFrom 47 (l0 :: some (.ref x) :: lt) (st) σ Q ↔ aX d iX0_copyFrom 48 (l0 :: some (.ref x) :: lt) (.ref x :: st) σ Q := X_aloadn kX0_copyFrom_47 rfl rfl
theorem sX0_copyFrom_47n {d : Nat} {σ : aS} {Q : aQ} {l0 : Option Value} {lt : aL} {st : List Value} : aX d iX0_copyFrom 47 (l0 :: some .null :: lt) (st) σ Q ↔ aX d iX0_copyFrom 48 (l0 :: some .null :: lt) (.null :: st) σ Q := X_aloadn kX0_copyFrom_47 rfl rfl
theorem kX0_copyFrom_48 : aCode iX0_copyFrom 48 = some (.getfield 18, 3) := by decide +kernel
theorem sX0_copyFrom_48 {d : Nat} {σ : aS} {Q : aQ} {a : Nat} {ls : aL} {st : List Value} : aX d iX0_copyFrom 48 (ls) (.ref a :: st) σ Q ↔ ∃ v, aFld σ a 0 5 = some v ∧ aX d iX0_copyFrom 51 (ls) (v :: st) σ Q := X_getf (w := 49) kX0_copyFrom_48 (by decide +kernel)
theorem kX0_copyFrom_51 : aCode iX0_copyFrom 51 = some (.putfield 18, 3) := by decide +kernel
theorem sX0_copyFrom_51 {d : Nat} {σ : aS} {Q : aQ} {x : Int32} {a : Nat} {ls : aL} {st : List Value} : aX d iX0_copyFrom 51 (ls) (.int x :: .ref a :: st) σ Q ↔ ∃ fs, aFds σ a 0 = some fs ∧ 5 < fs.length ∧ aX d iX0_copyFrom 54 (ls) (st) (aput σ a (eO 0 (fs.set 5 (.int x)))) Q := X_putf (w := 49) kX0_copyFrom_51 (by decide +kernel) (aFit_I (by decide +kernel)) (by decide +kernel)
theorem kX0_copyFrom_54 : aCode iX0_copyFrom 54 = some (.aload_n 0, 1) := by decide +kernel
theorem sX0_copyFrom_54 {d : Nat} {σ : aS} {Q : aQ} {x : Nat} {lt : aL} {st : List Value} : aX d iX0_copyFrom 54 (some (.ref x) :: lt) (st) σ Q ↔ aX d iX0_copyFrom 55 (some (.ref x) :: lt) (.ref x :: st) σ Q := X_aloadn kX0_copyFrom_54 rfl rfl
theorem kX0_copyFrom_55 : aCode iX0_copyFrom 55 = some (.aload_n 1, 1) := by decide +kernel
theorem sX0_copyFrom_55 {d : Nat} {σ : aS} {Q : aQ} {l0 : Option Value} {x : Nat} {lt : aL} {st : List Value} : aX d iX0_copyFrom 55 (l0 :: some (.ref x) :: lt) (st) σ Q ↔ aX d iX0_copyFrom 56 (l0 :: some (.ref x) :: lt) (.ref x :: st) σ Q := X_aloadn kX0_copyFrom_55 rfl rfl
theorem sX0_copyFrom_55n {d : Nat} {σ : aS} {Q : aQ} {l0 : Option Value} {lt : aL} {st : List Value} : aX d iX0_copyFrom 55 (l0 :: some .null :: lt) (st) σ Q ↔ aX d iX0_copyFrom 56 (l0 :: some .null :: lt) (.null :: st) σ Q := X_aloadn kX0_copyFrom_55 rfl rfl
theorem kX0_copyFrom_56 : aCode iX0_copyFrom 56 = some (.getfield 31, 3) := by decide +kernel
theorem sX0_copyFrom_56 {d : Nat} {σ : aS} {Q : aQ} {a : Nat} {ls : aL} {st : List Value} : aX d iX0_copyFrom 56 (ls) (.ref a :: st) σ Q ↔ ∃ v, aFld σ a 0 6 = some v ∧ aX d iX0_copyFrom 59 (ls) (v :: st) σ Q := X_getf (w := 52) kX0_copyFrom_56 (by decide +kernel)
theorem kX0_copyFrom_59 : aCode iX0_copyFrom 59 = some (.putfield 31, 3) := by decide +kernel
theorem sX0_copyFrom_59 {d : Nat} {σ : aS} {Q : aQ} {x : Int32} {a : Nat} {ls : aL} {st : List Value} : aX d iX0_copyFrom 59 (ls) (.int x :: .ref a :: st) σ Q ↔ ∃ fs, aFds σ a 0 = some fs ∧ 6 < fs.length ∧ aX d iX0_copyFrom 62 (ls) (st) (aput σ a (eO 0 (fs.set 6 (.int x)))) Q := X_putf (w := 52) kX0_copyFrom_59 (by decide +kernel) (aFit_I (by decide +kernel)) (by decide +kernel)
theorem kX0_copyFrom_62 : aCode iX0_copyFrom 62 = some (.return_, 1) := by decide +kernel
theorem sX0_copyFrom_62 {d : Nat} {σ : aS} {Q : aQ} {ls : aL} : aX d iX0_copyFrom 62 (ls) ([]) σ Q ↔ Q none σ := X_vret kX0_copyFrom_62 (by decide +kernel)
theorem kX0_goesRound_0 : aCode iX0_goesRound 0 = some (.aload_n 0, 1) := by decide +kernel
theorem sX0_goesRound_0 {d : Nat} {σ : aS} {Q : aQ} {x : Nat} {lt : aL} {st : List Value} : aX d iX0_goesRound 0 (some (.ref x) :: lt) (st) σ Q ↔ aX d iX0_goesRound 1 (some (.ref x) :: lt) (.ref x :: st) σ Q := X_aloadn kX0_goesRound_0 rfl rfl
theorem kX0_goesRound_1 : aCode iX0_goesRound 1 = some (.getfield 28, 3) := by decide +kernel
theorem sX0_goesRound_1 {d : Nat} {σ : aS} {Q : aQ} {a : Nat} {ls : aL} {st : List Value} : aX d iX0_goesRound 1 (ls) (.ref a :: st) σ Q ↔ ∃ v, aFld σ a 0 4 = some v ∧ aX d iX0_goesRound 4 (ls) (v :: st) σ Q := X_getf (w := 46) kX0_goesRound_1 (by decide +kernel)
theorem kX0_goesRound_4 : aCode iX0_goesRound 4 = some (.ifCond .ne 7, 3) := by decide +kernel
theorem sX0_goesRound_4 {d : Nat} {σ : aS} {Q : aQ} {x : Int32} {ls : aL} {st : List Value} : aX d iX0_goesRound 4 (ls) (.int x :: st) σ Q ↔ (if ¬ x = nI 0 then aX d iX0_goesRound 11 (ls) (st) σ Q else aX d iX0_goesRound 7 (ls) (st) σ Q) := by rw [X_if kX0_goesRound_4 (t := 11) (by decide)]; simp only [aCmp_ne]
theorem kX0_goesRound_7 : aCode iX0_goesRound 7 = some (.iconst 1, 1) := by decide +kernel
theorem sX0_goesRound_7 {d : Nat} {σ : aS} {Q : aQ} {ls : aL} {st : List Value} : aX d iX0_goesRound 7 (ls) (st) σ Q ↔ aX d iX0_goesRound 8 (ls) (.int (nI 1) :: st) σ Q := X_iconst kX0_goesRound_7 (by decide +kernel)
theorem kX0_goesRound_8 : aCode iX0_goesRound 8 = some (.goto 4, 3) := by decide +kernel
theorem sX0_goesRound_8 {d : Nat} {σ : aS} {Q : aQ} {ls : aL} {st : List Value} : aX d iX0_goesRound 8 (ls) (st) σ Q ↔ aX d iX0_goesRound 12 (ls) (st) σ Q := X_goto kX0_goesRound_8 (by decide)
theorem kX0_goesRound_11 : aCode iX0_goesRound 11 = some (.iconst 0, 1) := by decide +kernel
theorem sX0_goesRound_11 {d : Nat} {σ : aS} {Q : aQ} {ls : aL} {st : List Value} : aX d iX0_goesRound 11 (ls) (st) σ Q ↔ aX d iX0_goesRound 12 (ls) (.int (nI 0) :: st) σ Q := X_iconst kX0_goesRound_11 (by decide +kernel)
theorem kX0_goesRound_12 : aCode iX0_goesRound 12 = some (.ireturn, 1) := by decide +kernel
theorem sX0_goesRound_12 {d : Nat} {σ : aS} {Q : aQ} {v : Int32} {ls : aL} : aX d iX0_goesRound 12 (ls) ([.int v]) σ Q ↔ (narrow .boolean (.int v) = .int v ∧ Q (some (.int v)) σ) := X_zret kX0_goesRound_12 (by decide +kernel)
theorem kX0_seatOf_0 : aCode iX0_seatOf 0 = some (.aload_n 0, 1) := by decide +kernel
theorem sX0_seatOf_0 {d : Nat} {σ : aS} {Q : aQ} {x : Nat} {lt : aL} {st : List Value} : aX d iX0_seatOf 0 (some (.ref x) :: lt) (st) σ Q ↔ aX d iX0_seatOf 1 (some (.ref x) :: lt) (.ref x :: st) σ Q := X_aloadn kX0_seatOf_0 rfl rfl
theorem kX0_seatOf_1 : aCode iX0_seatOf 1 = some (.getfield 9, 3) := by decide +kernel
theorem sX0_seatOf_1 {d : Nat} {σ : aS} {Q : aQ} {a : Nat} {ls : aL} {st : List Value} : aX d iX0_seatOf 1 (ls) (.ref a :: st) σ Q ↔ ∃ v, aFld σ a 0 0 = some v ∧ aX d iX0_seatOf 4 (ls) (v :: st) σ Q := X_getf (w := 38) kX0_seatOf_1 (by decide +kernel)
theorem kX0_seatOf_4 : aCode iX0_seatOf 4 = some (.iload_n 1, 1) := by decide +kernel
theorem sX0_seatOf_4 {d : Nat} {σ : aS} {Q : aQ} {l0 : Option Value} {x : Int32} {lt : aL} {st : List Value} : aX d iX0_seatOf 4 (l0 :: some (.int x) :: lt) (st) σ Q ↔ aX d iX0_seatOf 5 (l0 :: some (.int x) :: lt) (.int x :: st) σ Q := X_iloadn kX0_seatOf_4 rfl
theorem kX0_seatOf_5 : aCode iX0_seatOf 5 = some (.invokestatic 46, 3) := by decide +kernel
theorem sX0_seatOf_5 {d : Nat} {σ : aS} {Q : aQ} {p0 : Nat} {p1 : Int32} {ls : aL} : aX (d + 1) iX0_seatOf 5 (ls) (.int p1 :: .ref p0 :: []) σ Q ↔ aX d iX6_valueAt 0 [some (.ref p0), some (.int p1)] [] σ (fun r τ => aX (d + 1) iX0_seatOf 8 (ls) (aret r ([])) τ Q) := X_invs (N := 2) (As := [.int p1, .ref p0]) (k := 4) (w := 330) kX0_seatOf_5 (by decide +kernel) (by decide) (by decide +kernel) rfl rfl (by simp only [List.length_cons, List.length_nil]; omega) (by simp only [List.length_cons, List.length_nil]; omega) rfl (Nat.le_of_ble_eq_true rfl)
theorem kX0_seatOf_8 : aCode iX0_seatOf 8 = some (.ireturn, 1) := by decide +kernel
theorem sX0_seatOf_8 {d : Nat} {σ : aS} {Q : aQ} {v : Int32} {ls : aL} : aX d iX0_seatOf 8 (ls) ([.int v]) σ Q ↔ Q (some (.int v)) σ := X_iret kX0_seatOf_8 (by decide +kernel)
theorem kX0_markOf_0 : aCode iX0_markOf 0 = some (.aload_n 0, 1) := by decide +kernel
theorem sX0_markOf_0 {d : Nat} {σ : aS} {Q : aQ} {x : Nat} {lt : aL} {st : List Value} : aX d iX0_markOf 0 (some (.ref x) :: lt) (st) σ Q ↔ aX d iX0_markOf 1 (some (.ref x) :: lt) (.ref x :: st) σ Q := X_aloadn kX0_markOf_0 rfl rfl
theorem kX0_markOf_1 : aCode iX0_markOf 1 = some (.getfield 15, 3) := by decide +kernel
theorem sX0_markOf_1 {d : Nat} {σ : aS} {Q : aQ} {a : Nat} {ls : aL} {st : List Value} : aX d iX0_markOf 1 (ls) (.ref a :: st) σ Q ↔ ∃ v, aFld σ a 0 1 = some v ∧ aX d iX0_markOf 4 (ls) (v :: st) σ Q := X_getf (w := 39) kX0_markOf_1 (by decide +kernel)
theorem kX0_markOf_4 : aCode iX0_markOf 4 = some (.iload_n 1, 1) := by decide +kernel
theorem sX0_markOf_4 {d : Nat} {σ : aS} {Q : aQ} {l0 : Option Value} {x : Int32} {lt : aL} {st : List Value} : aX d iX0_markOf 4 (l0 :: some (.int x) :: lt) (st) σ Q ↔ aX d iX0_markOf 5 (l0 :: some (.int x) :: lt) (.int x :: st) σ Q := X_iloadn kX0_markOf_4 rfl
theorem kX0_markOf_5 : aCode iX0_markOf 5 = some (.invokestatic 46, 3) := by decide +kernel
theorem sX0_markOf_5 {d : Nat} {σ : aS} {Q : aQ} {p0 : Nat} {p1 : Int32} {ls : aL} : aX (d + 1) iX0_markOf 5 (ls) (.int p1 :: .ref p0 :: []) σ Q ↔ aX d iX6_valueAt 0 [some (.ref p0), some (.int p1)] [] σ (fun r τ => aX (d + 1) iX0_markOf 8 (ls) (aret r ([])) τ Q) := X_invs (N := 2) (As := [.int p1, .ref p0]) (k := 4) (w := 330) kX0_markOf_5 (by decide +kernel) (by decide) (by decide +kernel) rfl rfl (by simp only [List.length_cons, List.length_nil]; omega) (by simp only [List.length_cons, List.length_nil]; omega) rfl (Nat.le_of_ble_eq_true rfl)
theorem kX0_markOf_8 : aCode iX0_markOf 8 = some (.ireturn, 1) := by decide +kernel
theorem sX0_markOf_8 {d : Nat} {σ : aS} {Q : aQ} {v : Int32} {ls : aL} : aX d iX0_markOf 8 (ls) ([.int v]) σ Q ↔ Q (some (.int v)) σ := X_iret kX0_markOf_8 (by decide +kernel)
theorem kX0_wasTold_0 : aCode iX0_wasTold 0 = some (.aload_n 0, 1) := by decide +kernel
theorem sX0_wasTold_0 {d : Nat} {σ : aS} {Q : aQ} {x : Nat} {lt : aL} {st : List Value} : aX d iX0_wasTold 0 (some (.ref x) :: lt) (st) σ Q ↔ aX d iX0_wasTold 1 (some (.ref x) :: lt) (.ref x :: st) σ Q := X_aloadn kX0_wasTold_0 rfl rfl
theorem kX0_wasTold_1 : aCode iX0_wasTold 1 = some (.getfield 31, 3) := by decide +kernel
theorem sX0_wasTold_1 {d : Nat} {σ : aS} {Q : aQ} {a : Nat} {ls : aL} {st : List Value} : aX d iX0_wasTold 1 (ls) (.ref a :: st) σ Q ↔ ∃ v, aFld σ a 0 6 = some v ∧ aX d iX0_wasTold 4 (ls) (v :: st) σ Q := X_getf (w := 52) kX0_wasTold_1 (by decide +kernel)
theorem kX0_wasTold_4 : aCode iX0_wasTold 4 = some (.iconst 1, 1) := by decide +kernel
theorem sX0_wasTold_4 {d : Nat} {σ : aS} {Q : aQ} {ls : aL} {st : List Value} : aX d iX0_wasTold 4 (ls) (st) σ Q ↔ aX d iX0_wasTold 5 (ls) (.int (nI 1) :: st) σ Q := X_iconst kX0_wasTold_4 (by decide +kernel)
theorem kX0_wasTold_5 : aCode iX0_wasTold 5 = some (.iload_n 1, 1) := by decide +kernel
theorem sX0_wasTold_5 {d : Nat} {σ : aS} {Q : aQ} {l0 : Option Value} {x : Int32} {lt : aL} {st : List Value} : aX d iX0_wasTold 5 (l0 :: some (.int x) :: lt) (st) σ Q ↔ aX d iX0_wasTold 6 (l0 :: some (.int x) :: lt) (.int x :: st) σ Q := X_iloadn kX0_wasTold_5 rfl
theorem kX0_wasTold_6 : aCode iX0_wasTold 6 = some (.ishl, 1) := by decide +kernel
theorem sX0_wasTold_6 {d : Nat} {σ : aS} {Q : aQ} {x y : Int32} {ls : aL} {st : List Value} : aX d iX0_wasTold 6 (ls) (.int y :: .int x :: st) σ Q ↔ aX d iX0_wasTold 7 (ls) (.int (x <<< (y &&& 31)) :: st) σ Q := X_ishl kX0_wasTold_6
theorem kX0_wasTold_7 : aCode iX0_wasTold 7 = some (.iand, 1) := by decide +kernel
theorem sX0_wasTold_7 {d : Nat} {σ : aS} {Q : aQ} {x y : Int32} {ls : aL} {st : List Value} : aX d iX0_wasTold 7 (ls) (.int y :: .int x :: st) σ Q ↔ aX d iX0_wasTold 8 (ls) (.int (x &&& y) :: st) σ Q := X_iand kX0_wasTold_7
theorem kX0_wasTold_8 : aCode iX0_wasTold 8 = some (.ifCond .eq 7, 3) := by decide +kernel
theorem sX0_wasTold_8 {d : Nat} {σ : aS} {Q : aQ} {x : Int32} {ls : aL} {st : List Value} : aX d iX0_wasTold 8 (ls) (.int x :: st) σ Q ↔ (if x = nI 0 then aX d iX0_wasTold 15 (ls) (st) σ Q else aX d iX0_wasTold 11 (ls) (st) σ Q) := by rw [X_if kX0_wasTold_8 (t := 15) (by decide)]; simp only [aCmp_eq]
theorem kX0_wasTold_11 : aCode iX0_wasTold 11 = some (.iconst 1, 1) := by decide +kernel
theorem sX0_wasTold_11 {d : Nat} {σ : aS} {Q : aQ} {ls : aL} {st : List Value} : aX d iX0_wasTold 11 (ls) (st) σ Q ↔ aX d iX0_wasTold 12 (ls) (.int (nI 1) :: st) σ Q := X_iconst kX0_wasTold_11 (by decide +kernel)
theorem kX0_wasTold_12 : aCode iX0_wasTold 12 = some (.goto 4, 3) := by decide +kernel
theorem sX0_wasTold_12 {d : Nat} {σ : aS} {Q : aQ} {ls : aL} {st : List Value} : aX d iX0_wasTold 12 (ls) (st) σ Q ↔ aX d iX0_wasTold 16 (ls) (st) σ Q := X_goto kX0_wasTold_12 (by decide)
theorem kX0_wasTold_15 : aCode iX0_wasTold 15 = some (.iconst 0, 1) := by decide +kernel
theorem sX0_wasTold_15 {d : Nat} {σ : aS} {Q : aQ} {ls : aL} {st : List Value} : aX d iX0_wasTold 15 (ls) (st) σ Q ↔ aX d iX0_wasTold 16 (ls) (.int (nI 0) :: st) σ Q := X_iconst kX0_wasTold_15 (by decide +kernel)
theorem kX0_wasTold_16 : aCode iX0_wasTold 16 = some (.ireturn, 1) := by decide +kernel
theorem sX0_wasTold_16 {d : Nat} {σ : aS} {Q : aQ} {v : Int32} {ls : aL} : aX d iX0_wasTold 16 (ls) ([.int v]) σ Q ↔ (narrow .boolean (.int v) = .int v ∧ Q (some (.int v)) σ) := X_zret kX0_wasTold_16 (by decide +kernel)
theorem kX0_liesAt_0 : aCode iX0_liesAt 0 = some (.aload_n 0, 1) := by decide +kernel
theorem sX0_liesAt_0 {d : Nat} {σ : aS} {Q : aQ} {x : Nat} {lt : aL} {st : List Value} : aX d iX0_liesAt 0 (some (.ref x) :: lt) (st) σ Q ↔ aX d iX0_liesAt 1 (some (.ref x) :: lt) (.ref x :: st) σ Q := X_aloadn kX0_liesAt_0 rfl rfl
theorem kX0_liesAt_1 : aCode iX0_liesAt 1 = some (.getfield 9, 3) := by decide +kernel
theorem sX0_liesAt_1 {d : Nat} {σ : aS} {Q : aQ} {a : Nat} {ls : aL} {st : List Value} : aX d iX0_liesAt 1 (ls) (.ref a :: st) σ Q ↔ ∃ v, aFld σ a 0 0 = some v ∧ aX d iX0_liesAt 4 (ls) (v :: st) σ Q := X_getf (w := 38) kX0_liesAt_1 (by decide +kernel)
theorem kX0_liesAt_4 : aCode iX0_liesAt 4 = some (.aload_n 0, 1) := by decide +kernel
theorem sX0_liesAt_4 {d : Nat} {σ : aS} {Q : aQ} {x : Nat} {lt : aL} {st : List Value} : aX d iX0_liesAt 4 (some (.ref x) :: lt) (st) σ Q ↔ aX d iX0_liesAt 5 (some (.ref x) :: lt) (.ref x :: st) σ Q := X_aloadn kX0_liesAt_4 rfl rfl
theorem kX0_liesAt_5 : aCode iX0_liesAt 5 = some (.getfield 25, 3) := by decide +kernel
theorem sX0_liesAt_5 {d : Nat} {σ : aS} {Q : aQ} {a : Nat} {ls : aL} {st : List Value} : aX d iX0_liesAt 5 (ls) (.ref a :: st) σ Q ↔ ∃ v, aFld σ a 0 3 = some v ∧ aX d iX0_liesAt 8 (ls) (v :: st) σ Q := X_getf (w := 43) kX0_liesAt_5 (by decide +kernel)
theorem kX0_liesAt_8 : aCode iX0_liesAt 8 = some (.iconst 1, 1) := by decide +kernel
theorem sX0_liesAt_8 {d : Nat} {σ : aS} {Q : aQ} {ls : aL} {st : List Value} : aX d iX0_liesAt 8 (ls) (st) σ Q ↔ aX d iX0_liesAt 9 (ls) (.int (nI 1) :: st) σ Q := X_iconst kX0_liesAt_8 (by decide +kernel)
theorem kX0_liesAt_9 : aCode iX0_liesAt 9 = some (.isub, 1) := by decide +kernel
theorem sX0_liesAt_9 {d : Nat} {σ : aS} {Q : aQ} {x y : Int32} {ls : aL} {st : List Value} : aX d iX0_liesAt 9 (ls) (.int y :: .int x :: st) σ Q ↔ aX d iX0_liesAt 10 (ls) (.int (x - y) :: st) σ Q := X_isub kX0_liesAt_9
theorem kX0_liesAt_10 : aCode iX0_liesAt 10 = some (.invokestatic 46, 3) := by decide +kernel
theorem sX0_liesAt_10 {d : Nat} {σ : aS} {Q : aQ} {p0 : Nat} {p1 : Int32} {ls : aL} : aX (d + 1) iX0_liesAt 10 (ls) (.int p1 :: .ref p0 :: []) σ Q ↔ aX d iX6_valueAt 0 [some (.ref p0), some (.int p1)] [] σ (fun r τ => aX (d + 1) iX0_liesAt 13 (ls) (aret r ([])) τ Q) := X_invs (N := 2) (As := [.int p1, .ref p0]) (k := 4) (w := 330) kX0_liesAt_10 (by decide +kernel) (by decide) (by decide +kernel) rfl rfl (by simp only [List.length_cons, List.length_nil]; omega) (by simp only [List.length_cons, List.length_nil]; omega) rfl (Nat.le_of_ble_eq_true rfl)
theorem kX0_liesAt_13 : aCode iX0_liesAt 13 = some (.ireturn, 1) := by decide +kernel
theorem sX0_liesAt_13 {d : Nat} {σ : aS} {Q : aQ} {v : Int32} {ls : aL} : aX d iX0_liesAt 13 (ls) ([.int v]) σ Q ↔ Q (some (.int v)) σ := X_iret kX0_liesAt_13 (by decide +kernel)
theorem kX0_endsWithWord_0 : aCode iX0_endsWithWord 0 = some (.aload_n 0, 1) := by decide +kernel
theorem sX0_endsWithWord_0 {d : Nat} {σ : aS} {Q : aQ} {x : Nat} {lt : aL} {st : List Value} : aX d iX0_endsWithWord 0 (some (.ref x) :: lt) (st) σ Q ↔ aX d iX0_endsWithWord 1 (some (.ref x) :: lt) (.ref x :: st) σ Q := X_aloadn kX0_endsWithWord_0 rfl rfl
theorem kX0_endsWithWord_1 : aCode iX0_endsWithWord 1 = some (.getfield 25, 3) := by decide +kernel
theorem sX0_endsWithWord_1 {d : Nat} {σ : aS} {Q : aQ} {a : Nat} {ls : aL} {st : List Value} : aX d iX0_endsWithWord 1 (ls) (.ref a :: st) σ Q ↔ ∃ v, aFld σ a 0 3 = some v ∧ aX d iX0_endsWithWord 4 (ls) (v :: st) σ Q := X_getf (w := 43) kX0_endsWithWord_1 (by decide +kernel)
theorem kX0_endsWithWord_4 : aCode iX0_endsWithWord 4 = some (.iconst 1, 1) := by decide +kernel
theorem sX0_endsWithWord_4 {d : Nat} {σ : aS} {Q : aQ} {ls : aL} {st : List Value} : aX d iX0_endsWithWord 4 (ls) (st) σ Q ↔ aX d iX0_endsWithWord 5 (ls) (.int (nI 1) :: st) σ Q := X_iconst kX0_endsWithWord_4 (by decide +kernel)
theorem kX0_endsWithWord_5 : aCode iX0_endsWithWord 5 = some (.iand, 1) := by decide +kernel
theorem sX0_endsWithWord_5 {d : Nat} {σ : aS} {Q : aQ} {x y : Int32} {ls : aL} {st : List Value} : aX d iX0_endsWithWord 5 (ls) (.int y :: .int x :: st) σ Q ↔ aX d iX0_endsWithWord 6 (ls) (.int (x &&& y) :: st) σ Q := X_iand kX0_endsWithWord_5
theorem kX0_endsWithWord_6 : aCode iX0_endsWithWord 6 = some (.iconst 1, 1) := by decide +kernel
theorem sX0_endsWithWord_6 {d : Nat} {σ : aS} {Q : aQ} {ls : aL} {st : List Value} : aX d iX0_endsWithWord 6 (ls) (st) σ Q ↔ aX d iX0_endsWithWord 7 (ls) (.int (nI 1) :: st) σ Q := X_iconst kX0_endsWithWord_6 (by decide +kernel)
theorem kX0_endsWithWord_7 : aCode iX0_endsWithWord 7 = some (.if_icmp .ne 7, 3) := by decide +kernel
theorem sX0_endsWithWord_7 {d : Nat} {σ : aS} {Q : aQ} {x y : Int32} {ls : aL} {st : List Value} : aX d iX0_endsWithWord 7 (ls) (.int y :: .int x :: st) σ Q ↔ (if ¬ x = y then aX d iX0_endsWithWord 14 (ls) (st) σ Q else aX d iX0_endsWithWord 10 (ls) (st) σ Q) := by rw [X_icmp kX0_endsWithWord_7 (t := 14) (by decide)]; simp only [aCmp_ne]
theorem kX0_endsWithWord_10 : aCode iX0_endsWithWord 10 = some (.iconst 1, 1) := by decide +kernel
theorem sX0_endsWithWord_10 {d : Nat} {σ : aS} {Q : aQ} {ls : aL} {st : List Value} : aX d iX0_endsWithWord 10 (ls) (st) σ Q ↔ aX d iX0_endsWithWord 11 (ls) (.int (nI 1) :: st) σ Q := X_iconst kX0_endsWithWord_10 (by decide +kernel)
theorem kX0_endsWithWord_11 : aCode iX0_endsWithWord 11 = some (.goto 4, 3) := by decide +kernel
theorem sX0_endsWithWord_11 {d : Nat} {σ : aS} {Q : aQ} {ls : aL} {st : List Value} : aX d iX0_endsWithWord 11 (ls) (st) σ Q ↔ aX d iX0_endsWithWord 15 (ls) (st) σ Q := X_goto kX0_endsWithWord_11 (by decide)
theorem kX0_endsWithWord_14 : aCode iX0_endsWithWord 14 = some (.iconst 0, 1) := by decide +kernel
theorem sX0_endsWithWord_14 {d : Nat} {σ : aS} {Q : aQ} {ls : aL} {st : List Value} : aX d iX0_endsWithWord 14 (ls) (st) σ Q ↔ aX d iX0_endsWithWord 15 (ls) (.int (nI 0) :: st) σ Q := X_iconst kX0_endsWithWord_14 (by decide +kernel)
theorem kX0_endsWithWord_15 : aCode iX0_endsWithWord 15 = some (.ireturn, 1) := by decide +kernel
theorem sX0_endsWithWord_15 {d : Nat} {σ : aS} {Q : aQ} {v : Int32} {ls : aL} : aX d iX0_endsWithWord 15 (ls) ([.int v]) σ Q ↔ (narrow .boolean (.int v) = .int v ∧ Q (some (.int v)) σ) := X_zret kX0_endsWithWord_15 (by decide +kernel)
theorem kX0_firstWord_0 : aCode iX0_firstWord 0 = some (.aload_n 0, 1) := by decide +kernel
theorem sX0_firstWord_0 {d : Nat} {σ : aS} {Q : aQ} {x : Nat} {lt : aL} {st : List Value} : aX d iX0_firstWord 0 (some (.ref x) :: lt) (st) σ Q ↔ aX d iX0_firstWord 1 (some (.ref x) :: lt) (.ref x :: st) σ Q := X_aloadn kX0_firstWord_0 rfl rfl
theorem kX0_firstWord_1 : aCode iX0_firstWord 1 = some (.getfield 15, 3) := by decide +kernel
theorem sX0_firstWord_1 {d : Nat} {σ : aS} {Q : aQ} {a : Nat} {ls : aL} {st : List Value} : aX d iX0_firstWord 1 (ls) (.ref a :: st) σ Q ↔ ∃ v, aFld σ a 0 1 = some v ∧ aX d iX0_firstWord 4 (ls) (v :: st) σ Q := X_getf (w := 39) kX0_firstWord_1 (by decide +kernel)
theorem kX0_firstWord_4 : aCode iX0_firstWord 4 = some (.iconst 0, 1) := by decide +kernel
theorem sX0_firstWord_4 {d : Nat} {σ : aS} {Q : aQ} {ls : aL} {st : List Value} : aX d iX0_firstWord 4 (ls) (st) σ Q ↔ aX d iX0_firstWord 5 (ls) (.int (nI 0) :: st) σ Q := X_iconst kX0_firstWord_4 (by decide +kernel)
theorem kX0_firstWord_5 : aCode iX0_firstWord 5 = some (.invokestatic 46, 3) := by decide +kernel
theorem sX0_firstWord_5 {d : Nat} {σ : aS} {Q : aQ} {p0 : Nat} {p1 : Int32} {ls : aL} : aX (d + 1) iX0_firstWord 5 (ls) (.int p1 :: .ref p0 :: []) σ Q ↔ aX d iX6_valueAt 0 [some (.ref p0), some (.int p1)] [] σ (fun r τ => aX (d + 1) iX0_firstWord 8 (ls) (aret r ([])) τ Q) := X_invs (N := 2) (As := [.int p1, .ref p0]) (k := 4) (w := 330) kX0_firstWord_5 (by decide +kernel) (by decide) (by decide +kernel) rfl rfl (by simp only [List.length_cons, List.length_nil]; omega) (by simp only [List.length_cons, List.length_nil]; omega) rfl (Nat.le_of_ble_eq_true rfl)
theorem kX0_firstWord_8 : aCode iX0_firstWord 8 = some (.ireturn, 1) := by decide +kernel
theorem sX0_firstWord_8 {d : Nat} {σ : aS} {Q : aQ} {v : Int32} {ls : aL} : aX d iX0_firstWord 8 (ls) ([.int v]) σ Q ↔ Q (some (.int v)) σ := X_iret kX0_firstWord_8 (by decide +kernel)
theorem kX0_lastWord_0 : aCode iX0_lastWord 0 = some (.aload_n 0, 1) := by decide +kernel
theorem sX0_lastWord_0 {d : Nat} {σ : aS} {Q : aQ} {x : Nat} {lt : aL} {st : List Value} : aX d iX0_lastWord 0 (some (.ref x) :: lt) (st) σ Q ↔ aX d iX0_lastWord 1 (some (.ref x) :: lt) (.ref x :: st) σ Q := X_aloadn kX0_lastWord_0 rfl rfl
theorem kX0_lastWord_1 : aCode iX0_lastWord 1 = some (.getfield 15, 3) := by decide +kernel
theorem sX0_lastWord_1 {d : Nat} {σ : aS} {Q : aQ} {a : Nat} {ls : aL} {st : List Value} : aX d iX0_lastWord 1 (ls) (.ref a :: st) σ Q ↔ ∃ v, aFld σ a 0 1 = some v ∧ aX d iX0_lastWord 4 (ls) (v :: st) σ Q := X_getf (w := 39) kX0_lastWord_1 (by decide +kernel)
theorem kX0_lastWord_4 : aCode iX0_lastWord 4 = some (.aload_n 0, 1) := by decide +kernel
theorem sX0_lastWord_4 {d : Nat} {σ : aS} {Q : aQ} {x : Nat} {lt : aL} {st : List Value} : aX d iX0_lastWord 4 (some (.ref x) :: lt) (st) σ Q ↔ aX d iX0_lastWord 5 (some (.ref x) :: lt) (.ref x :: st) σ Q := X_aloadn kX0_lastWord_4 rfl rfl
theorem kX0_lastWord_5 : aCode iX0_lastWord 5 = some (.invokevirtual 50, 3) := by decide +kernel
theorem sX0_lastWord_5 {d : Nat} {σ : aS} {Q : aQ} {b : Nat} {v0 : Value} {ls : aL} : aX (d + 1) iX0_lastWord 5 (ls) (.ref b :: v0 :: []) σ Q ↔ aIs σ b 0 ∧ aX d iX0_endsWithWord 0 [some (.ref b)] [] σ (fun r τ => aX (d + 1) iX0_lastWord 8 (ls) (aret r (v0 :: [])) τ Q) := X_invv (N := 0) (As := []) (w := 343) kX0_lastWord_5 (by decide +kernel) (by decide +kernel) rfl rfl (by simp only [List.length_cons, List.length_nil]; omega) (by simp only [List.length_cons, List.length_nil]; omega) (by decide +kernel) rfl (Nat.le_of_ble_eq_true rfl)
theorem kX0_lastWord_8 : aCode iX0_lastWord 8 = some (.ifCond .eq 12, 3) := by decide +kernel
theorem sX0_lastWord_8 {d : Nat} {σ : aS} {Q : aQ} {x : Int32} {ls : aL} {st : List Value} : aX d iX0_lastWord 8 (ls) (.int x :: st) σ Q ↔ (if x = nI 0 then aX d iX0_lastWord 20 (ls) (st) σ Q else aX d iX0_lastWord 11 (ls) (st) σ Q) := by rw [X_if kX0_lastWord_8 (t := 20) (by decide)]; simp only [aCmp_eq]
theorem kX0_lastWord_11 : aCode iX0_lastWord 11 = some (.aload_n 0, 1) := by decide +kernel
theorem sX0_lastWord_11 {d : Nat} {σ : aS} {Q : aQ} {x : Nat} {lt : aL} {st : List Value} : aX d iX0_lastWord 11 (some (.ref x) :: lt) (st) σ Q ↔ aX d iX0_lastWord 12 (some (.ref x) :: lt) (.ref x :: st) σ Q := X_aloadn kX0_lastWord_11 rfl rfl
theorem kX0_lastWord_12 : aCode iX0_lastWord 12 = some (.getfield 25, 3) := by decide +kernel
theorem sX0_lastWord_12 {d : Nat} {σ : aS} {Q : aQ} {a : Nat} {ls : aL} {st : List Value} : aX d iX0_lastWord 12 (ls) (.ref a :: st) σ Q ↔ ∃ v, aFld σ a 0 3 = some v ∧ aX d iX0_lastWord 15 (ls) (v :: st) σ Q := X_getf (w := 43) kX0_lastWord_12 (by decide +kernel)
theorem kX0_lastWord_15 : aCode iX0_lastWord 15 = some (.iconst 1, 1) := by decide +kernel
theorem sX0_lastWord_15 {d : Nat} {σ : aS} {Q : aQ} {ls : aL} {st : List Value} : aX d iX0_lastWord 15 (ls) (st) σ Q ↔ aX d iX0_lastWord 16 (ls) (.int (nI 1) :: st) σ Q := X_iconst kX0_lastWord_15 (by decide +kernel)
theorem kX0_lastWord_16 : aCode iX0_lastWord 16 = some (.isub, 1) := by decide +kernel
theorem sX0_lastWord_16 {d : Nat} {σ : aS} {Q : aQ} {x y : Int32} {ls : aL} {st : List Value} : aX d iX0_lastWord 16 (ls) (.int y :: .int x :: st) σ Q ↔ aX d iX0_lastWord 17 (ls) (.int (x - y) :: st) σ Q := X_isub kX0_lastWord_16
theorem kX0_lastWord_17 : aCode iX0_lastWord 17 = some (.goto 9, 3) := by decide +kernel
theorem sX0_lastWord_17 {d : Nat} {σ : aS} {Q : aQ} {ls : aL} {st : List Value} : aX d iX0_lastWord 17 (ls) (st) σ Q ↔ aX d iX0_lastWord 26 (ls) (st) σ Q := X_goto kX0_lastWord_17 (by decide)
theorem kX0_lastWord_20 : aCode iX0_lastWord 20 = some (.aload_n 0, 1) := by decide +kernel
theorem sX0_lastWord_20 {d : Nat} {σ : aS} {Q : aQ} {x : Nat} {lt : aL} {st : List Value} : aX d iX0_lastWord 20 (some (.ref x) :: lt) (st) σ Q ↔ aX d iX0_lastWord 21 (some (.ref x) :: lt) (.ref x :: st) σ Q := X_aloadn kX0_lastWord_20 rfl rfl
theorem kX0_lastWord_21 : aCode iX0_lastWord 21 = some (.getfield 25, 3) := by decide +kernel
theorem sX0_lastWord_21 {d : Nat} {σ : aS} {Q : aQ} {a : Nat} {ls : aL} {st : List Value} : aX d iX0_lastWord 21 (ls) (.ref a :: st) σ Q ↔ ∃ v, aFld σ a 0 3 = some v ∧ aX d iX0_lastWord 24 (ls) (v :: st) σ Q := X_getf (w := 43) kX0_lastWord_21 (by decide +kernel)
theorem kX0_lastWord_24 : aCode iX0_lastWord 24 = some (.iconst 2, 1) := by decide +kernel
theorem sX0_lastWord_24 {d : Nat} {σ : aS} {Q : aQ} {ls : aL} {st : List Value} : aX d iX0_lastWord 24 (ls) (st) σ Q ↔ aX d iX0_lastWord 25 (ls) (.int (nI 2) :: st) σ Q := X_iconst kX0_lastWord_24 (by decide +kernel)
theorem kX0_lastWord_25 : aCode iX0_lastWord 25 = some (.isub, 1) := by decide +kernel
theorem sX0_lastWord_25 {d : Nat} {σ : aS} {Q : aQ} {x y : Int32} {ls : aL} {st : List Value} : aX d iX0_lastWord 25 (ls) (.int y :: .int x :: st) σ Q ↔ aX d iX0_lastWord 26 (ls) (.int (x - y) :: st) σ Q := X_isub kX0_lastWord_25
theorem kX0_lastWord_26 : aCode iX0_lastWord 26 = some (.invokestatic 46, 3) := by decide +kernel
theorem sX0_lastWord_26 {d : Nat} {σ : aS} {Q : aQ} {p0 : Nat} {p1 : Int32} {ls : aL} : aX (d + 1) iX0_lastWord 26 (ls) (.int p1 :: .ref p0 :: []) σ Q ↔ aX d iX6_valueAt 0 [some (.ref p0), some (.int p1)] [] σ (fun r τ => aX (d + 1) iX0_lastWord 29 (ls) (aret r ([])) τ Q) := X_invs (N := 2) (As := [.int p1, .ref p0]) (k := 4) (w := 330) kX0_lastWord_26 (by decide +kernel) (by decide) (by decide +kernel) rfl rfl (by simp only [List.length_cons, List.length_nil]; omega) (by simp only [List.length_cons, List.length_nil]; omega) rfl (Nat.le_of_ble_eq_true rfl)
theorem kX0_lastWord_29 : aCode iX0_lastWord 29 = some (.ireturn, 1) := by decide +kernel
theorem sX0_lastWord_29 {d : Nat} {σ : aS} {Q : aQ} {v : Int32} {ls : aL} : aX d iX0_lastWord 29 (ls) ([.int v]) σ Q ↔ Q (some (.int v)) σ := X_iret kX0_lastWord_29 (by decide +kernel)
theorem kX0_hasFoundWordAgain_0 : aCode iX0_hasFoundWordAgain 0 = some (.aload_n 0, 1) := by decide +kernel
theorem sX0_hasFoundWordAgain_0 {d : Nat} {σ : aS} {Q : aQ} {x : Nat} {lt : aL} {st : List Value} : aX d iX0_hasFoundWordAgain 0 (some (.ref x) :: lt) (st) σ Q ↔ aX d iX0_hasFoundWordAgain 1 (some (.ref x) :: lt) (.ref x :: st) σ Q := X_aloadn kX0_hasFoundWordAgain_0 rfl rfl
theorem kX0_hasFoundWordAgain_1 : aCode iX0_hasFoundWordAgain 1 = some (.getfield 25, 3) := by decide +kernel
theorem sX0_hasFoundWordAgain_1 {d : Nat} {σ : aS} {Q : aQ} {a : Nat} {ls : aL} {st : List Value} : aX d iX0_hasFoundWordAgain 1 (ls) (.ref a :: st) σ Q ↔ ∃ v, aFld σ a 0 3 = some v ∧ aX d iX0_hasFoundWordAgain 4 (ls) (v :: st) σ Q := X_getf (w := 43) kX0_hasFoundWordAgain_1 (by decide +kernel)
theorem kX0_hasFoundWordAgain_4 : aCode iX0_hasFoundWordAgain 4 = some (.iconst 3, 1) := by decide +kernel
theorem sX0_hasFoundWordAgain_4 {d : Nat} {σ : aS} {Q : aQ} {ls : aL} {st : List Value} : aX d iX0_hasFoundWordAgain 4 (ls) (st) σ Q ↔ aX d iX0_hasFoundWordAgain 5 (ls) (.int (nI 3) :: st) σ Q := X_iconst kX0_hasFoundWordAgain_4 (by decide +kernel)
theorem kX0_hasFoundWordAgain_5 : aCode iX0_hasFoundWordAgain 5 = some (.if_icmp .lt 37, 3) := by decide +kernel
theorem sX0_hasFoundWordAgain_5 {d : Nat} {σ : aS} {Q : aQ} {x y : Int32} {ls : aL} {st : List Value} : aX d iX0_hasFoundWordAgain 5 (ls) (.int y :: .int x :: st) σ Q ↔ (if x < y then aX d iX0_hasFoundWordAgain 42 (ls) (st) σ Q else aX d iX0_hasFoundWordAgain 8 (ls) (st) σ Q) := by rw [X_icmp kX0_hasFoundWordAgain_5 (t := 42) (by decide)]; simp only [aCmp_lt]
theorem kX0_hasFoundWordAgain_8 : aCode iX0_hasFoundWordAgain 8 = some (.aload_n 0, 1) := by decide +kernel
theorem sX0_hasFoundWordAgain_8 {d : Nat} {σ : aS} {Q : aQ} {x : Nat} {lt : aL} {st : List Value} : aX d iX0_hasFoundWordAgain 8 (some (.ref x) :: lt) (st) σ Q ↔ aX d iX0_hasFoundWordAgain 9 (some (.ref x) :: lt) (.ref x :: st) σ Q := X_aloadn kX0_hasFoundWordAgain_8 rfl rfl
theorem kX0_hasFoundWordAgain_9 : aCode iX0_hasFoundWordAgain 9 = some (.invokevirtual 50, 3) := by decide +kernel
theorem sX0_hasFoundWordAgain_9 {d : Nat} {σ : aS} {Q : aQ} {b : Nat} {ls : aL} : aX (d + 1) iX0_hasFoundWordAgain 9 (ls) (.ref b :: []) σ Q ↔ aIs σ b 0 ∧ aX d iX0_endsWithWord 0 [some (.ref b)] [] σ (fun r τ => aX (d + 1) iX0_hasFoundWordAgain 12 (ls) (aret r ([])) τ Q) := X_invv (N := 0) (As := []) (w := 343) kX0_hasFoundWordAgain_9 (by decide +kernel) (by decide +kernel) rfl rfl (by simp only [List.length_cons, List.length_nil]; omega) (by simp only [List.length_cons, List.length_nil]; omega) (by decide +kernel) rfl (Nat.le_of_ble_eq_true rfl)
theorem kX0_hasFoundWordAgain_12 : aCode iX0_hasFoundWordAgain 12 = some (.ifCond .eq 30, 3) := by decide +kernel
theorem sX0_hasFoundWordAgain_12 {d : Nat} {σ : aS} {Q : aQ} {x : Int32} {ls : aL} {st : List Value} : aX d iX0_hasFoundWordAgain 12 (ls) (.int x :: st) σ Q ↔ (if x = nI 0 then aX d iX0_hasFoundWordAgain 42 (ls) (st) σ Q else aX d iX0_hasFoundWordAgain 15 (ls) (st) σ Q) := by rw [X_if kX0_hasFoundWordAgain_12 (t := 42) (by decide)]; simp only [aCmp_eq]
theorem kX0_hasFoundWordAgain_15 : aCode iX0_hasFoundWordAgain 15 = some (.aload_n 0, 1) := by decide +kernel
theorem sX0_hasFoundWordAgain_15 {d : Nat} {σ : aS} {Q : aQ} {x : Nat} {lt : aL} {st : List Value} : aX d iX0_hasFoundWordAgain 15 (some (.ref x) :: lt) (st) σ Q ↔ aX d iX0_hasFoundWordAgain 16 (some (.ref x) :: lt) (.ref x :: st) σ Q := X_aloadn kX0_hasFoundWordAgain_15 rfl rfl
theorem kX0_hasFoundWordAgain_16 : aCode iX0_hasFoundWordAgain 16 = some (.aload_n 0, 1) := by decide +kernel
theorem sX0_hasFoundWordAgain_16 {d : Nat} {σ : aS} {Q : aQ} {x : Nat} {lt : aL} {st : List Value} : aX d iX0_hasFoundWordAgain 16 (some (.ref x) :: lt) (st) σ Q ↔ aX d iX0_hasFoundWordAgain 17 (some (.ref x) :: lt) (.ref x :: st) σ Q := X_aloadn kX0_hasFoundWordAgain_16 rfl rfl
theorem kX0_hasFoundWordAgain_17 : aCode iX0_hasFoundWordAgain 17 = some (.getfield 25, 3) := by decide +kernel
theorem sX0_hasFoundWordAgain_17 {d : Nat} {σ : aS} {Q : aQ} {a : Nat} {ls : aL} {st : List Value} : aX d iX0_hasFoundWordAgain 17 (ls) (.ref a :: st) σ Q ↔ ∃ v, aFld σ a 0 3 = some v ∧ aX d iX0_hasFoundWordAgain 20 (ls) (v :: st) σ Q := X_getf (w := 43) kX0_hasFoundWordAgain_17 (by decide +kernel)
theorem kX0_hasFoundWordAgain_20 : aCode iX0_hasFoundWordAgain 20 = some (.iconst 1, 1) := by decide +kernel
theorem sX0_hasFoundWordAgain_20 {d : Nat} {σ : aS} {Q : aQ} {ls : aL} {st : List Value} : aX d iX0_hasFoundWordAgain 20 (ls) (st) σ Q ↔ aX d iX0_hasFoundWordAgain 21 (ls) (.int (nI 1) :: st) σ Q := X_iconst kX0_hasFoundWordAgain_20 (by decide +kernel)
theorem kX0_hasFoundWordAgain_21 : aCode iX0_hasFoundWordAgain 21 = some (.isub, 1) := by decide +kernel
theorem sX0_hasFoundWordAgain_21 {d : Nat} {σ : aS} {Q : aQ} {x y : Int32} {ls : aL} {st : List Value} : aX d iX0_hasFoundWordAgain 21 (ls) (.int y :: .int x :: st) σ Q ↔ aX d iX0_hasFoundWordAgain 22 (ls) (.int (x - y) :: st) σ Q := X_isub kX0_hasFoundWordAgain_21
theorem kX0_hasFoundWordAgain_22 : aCode iX0_hasFoundWordAgain 22 = some (.invokevirtual 54, 3) := by decide +kernel
theorem sX0_hasFoundWordAgain_22 {d : Nat} {σ : aS} {Q : aQ} {b : Nat} {p0 : Int32} {ls : aL} : aX (d + 1) iX0_hasFoundWordAgain 22 (ls) (.int p0 :: .ref b :: []) σ Q ↔ aIs σ b 0 ∧ aX d iX0_markOf 0 [some (.ref b), some (.int p0)] [] σ (fun r τ => aX (d + 1) iX0_hasFoundWordAgain 25 (ls) (aret r ([])) τ Q) := X_invv (N := 1) (As := [.int p0]) (w := 372) kX0_hasFoundWordAgain_22 (by decide +kernel) (by decide +kernel) rfl rfl (by simp only [List.length_cons, List.length_nil]; omega) (by simp only [List.length_cons, List.length_nil]; omega) (by decide +kernel) rfl (Nat.le_of_ble_eq_true rfl)
theorem kX0_hasFoundWordAgain_25 : aCode iX0_hasFoundWordAgain 25 = some (.aload_n 0, 1) := by decide +kernel
theorem sX0_hasFoundWordAgain_25 {d : Nat} {σ : aS} {Q : aQ} {x : Nat} {lt : aL} {st : List Value} : aX d iX0_hasFoundWordAgain 25 (some (.ref x) :: lt) (st) σ Q ↔ aX d iX0_hasFoundWordAgain 26 (some (.ref x) :: lt) (.ref x :: st) σ Q := X_aloadn kX0_hasFoundWordAgain_25 rfl rfl
theorem kX0_hasFoundWordAgain_26 : aCode iX0_hasFoundWordAgain 26 = some (.aload_n 0, 1) := by decide +kernel
theorem sX0_hasFoundWordAgain_26 {d : Nat} {σ : aS} {Q : aQ} {x : Nat} {lt : aL} {st : List Value} : aX d iX0_hasFoundWordAgain 26 (some (.ref x) :: lt) (st) σ Q ↔ aX d iX0_hasFoundWordAgain 27 (some (.ref x) :: lt) (.ref x :: st) σ Q := X_aloadn kX0_hasFoundWordAgain_26 rfl rfl
theorem kX0_hasFoundWordAgain_27 : aCode iX0_hasFoundWordAgain 27 = some (.getfield 25, 3) := by decide +kernel
theorem sX0_hasFoundWordAgain_27 {d : Nat} {σ : aS} {Q : aQ} {a : Nat} {ls : aL} {st : List Value} : aX d iX0_hasFoundWordAgain 27 (ls) (.ref a :: st) σ Q ↔ ∃ v, aFld σ a 0 3 = some v ∧ aX d iX0_hasFoundWordAgain 30 (ls) (v :: st) σ Q := X_getf (w := 43) kX0_hasFoundWordAgain_27 (by decide +kernel)
theorem kX0_hasFoundWordAgain_30 : aCode iX0_hasFoundWordAgain 30 = some (.iconst 3, 1) := by decide +kernel
theorem sX0_hasFoundWordAgain_30 {d : Nat} {σ : aS} {Q : aQ} {ls : aL} {st : List Value} : aX d iX0_hasFoundWordAgain 30 (ls) (st) σ Q ↔ aX d iX0_hasFoundWordAgain 31 (ls) (.int (nI 3) :: st) σ Q := X_iconst kX0_hasFoundWordAgain_30 (by decide +kernel)
theorem kX0_hasFoundWordAgain_31 : aCode iX0_hasFoundWordAgain 31 = some (.isub, 1) := by decide +kernel
theorem sX0_hasFoundWordAgain_31 {d : Nat} {σ : aS} {Q : aQ} {x y : Int32} {ls : aL} {st : List Value} : aX d iX0_hasFoundWordAgain 31 (ls) (.int y :: .int x :: st) σ Q ↔ aX d iX0_hasFoundWordAgain 32 (ls) (.int (x - y) :: st) σ Q := X_isub kX0_hasFoundWordAgain_31
theorem kX0_hasFoundWordAgain_32 : aCode iX0_hasFoundWordAgain 32 = some (.invokevirtual 54, 3) := by decide +kernel
theorem sX0_hasFoundWordAgain_32 {d : Nat} {σ : aS} {Q : aQ} {b : Nat} {p0 : Int32} {v0 : Value} {ls : aL} : aX (d + 1) iX0_hasFoundWordAgain 32 (ls) (.int p0 :: .ref b :: v0 :: []) σ Q ↔ aIs σ b 0 ∧ aX d iX0_markOf 0 [some (.ref b), some (.int p0)] [] σ (fun r τ => aX (d + 1) iX0_hasFoundWordAgain 35 (ls) (aret r (v0 :: [])) τ Q) := X_invv (N := 1) (As := [.int p0]) (w := 372) kX0_hasFoundWordAgain_32 (by decide +kernel) (by decide +kernel) rfl rfl (by simp only [List.length_cons, List.length_nil]; omega) (by simp only [List.length_cons, List.length_nil]; omega) (by decide +kernel) rfl (Nat.le_of_ble_eq_true rfl)
theorem kX0_hasFoundWordAgain_35 : aCode iX0_hasFoundWordAgain 35 = some (.if_icmp .ne 7, 3) := by decide +kernel
theorem sX0_hasFoundWordAgain_35 {d : Nat} {σ : aS} {Q : aQ} {x y : Int32} {ls : aL} {st : List Value} : aX d iX0_hasFoundWordAgain 35 (ls) (.int y :: .int x :: st) σ Q ↔ (if ¬ x = y then aX d iX0_hasFoundWordAgain 42 (ls) (st) σ Q else aX d iX0_hasFoundWordAgain 38 (ls) (st) σ Q) := by rw [X_icmp kX0_hasFoundWordAgain_35 (t := 42) (by decide)]; simp only [aCmp_ne]
theorem kX0_hasFoundWordAgain_38 : aCode iX0_hasFoundWordAgain 38 = some (.iconst 1, 1) := by decide +kernel
theorem sX0_hasFoundWordAgain_38 {d : Nat} {σ : aS} {Q : aQ} {ls : aL} {st : List Value} : aX d iX0_hasFoundWordAgain 38 (ls) (st) σ Q ↔ aX d iX0_hasFoundWordAgain 39 (ls) (.int (nI 1) :: st) σ Q := X_iconst kX0_hasFoundWordAgain_38 (by decide +kernel)
theorem kX0_hasFoundWordAgain_39 : aCode iX0_hasFoundWordAgain 39 = some (.goto 4, 3) := by decide +kernel
theorem sX0_hasFoundWordAgain_39 {d : Nat} {σ : aS} {Q : aQ} {ls : aL} {st : List Value} : aX d iX0_hasFoundWordAgain 39 (ls) (st) σ Q ↔ aX d iX0_hasFoundWordAgain 43 (ls) (st) σ Q := X_goto kX0_hasFoundWordAgain_39 (by decide)
theorem kX0_hasFoundWordAgain_42 : aCode iX0_hasFoundWordAgain 42 = some (.iconst 0, 1) := by decide +kernel
theorem sX0_hasFoundWordAgain_42 {d : Nat} {σ : aS} {Q : aQ} {ls : aL} {st : List Value} : aX d iX0_hasFoundWordAgain 42 (ls) (st) σ Q ↔ aX d iX0_hasFoundWordAgain 43 (ls) (.int (nI 0) :: st) σ Q := X_iconst kX0_hasFoundWordAgain_42 (by decide +kernel)
theorem kX0_hasFoundWordAgain_43 : aCode iX0_hasFoundWordAgain 43 = some (.ireturn, 1) := by decide +kernel
theorem sX0_hasFoundWordAgain_43 {d : Nat} {σ : aS} {Q : aQ} {v : Int32} {ls : aL} : aX d iX0_hasFoundWordAgain 43 (ls) ([.int v]) σ Q ↔ (narrow .boolean (.int v) = .int v ∧ Q (some (.int v)) σ) := X_zret kX0_hasFoundWordAgain_43 (by decide +kernel)
theorem kX0_wordChanges_0 : aCode iX0_wordChanges 0 = some (.iconst 0, 1) := by decide +kernel
theorem sX0_wordChanges_0 {d : Nat} {σ : aS} {Q : aQ} {ls : aL} {st : List Value} : aX d iX0_wordChanges 0 (ls) (st) σ Q ↔ aX d iX0_wordChanges 1 (ls) (.int (nI 0) :: st) σ Q := X_iconst kX0_wordChanges_0 (by decide +kernel)
theorem kX0_wordChanges_1 : aCode iX0_wordChanges 1 = some (.istore_n 1, 1) := by decide +kernel
theorem sX0_wordChanges_1 {d : Nat} {σ : aS} {Q : aQ} {l0 lo : Option Value} {x : Int32} {lt : aL} {st : List Value} : aX d iX0_wordChanges 1 (l0 :: lo :: lt) (.int x :: st) σ Q ↔ aX d iX0_wordChanges 2 (aclr l0 :: some (.int x) :: lt) (st) σ Q := X_istoren kX0_wordChanges_1 (by simp only [List.length_cons]; omega)
theorem kX0_wordChanges_2 : aCode iX0_wordChanges 2 = some (.iconst 2, 1) := by decide +kernel
theorem sX0_wordChanges_2 {d : Nat} {σ : aS} {Q : aQ} {ls : aL} {st : List Value} : aX d iX0_wordChanges 2 (ls) (st) σ Q ↔ aX d iX0_wordChanges 3 (ls) (.int (nI 2) :: st) σ Q := X_iconst kX0_wordChanges_2 (by decide +kernel)
theorem kX0_wordChanges_3 : aCode iX0_wordChanges 3 = some (.istore_n 2, 1) := by decide +kernel
theorem sX0_wordChanges_3 {d : Nat} {σ : aS} {Q : aQ} {l0 l1 lo : Option Value} {x : Int32} {lt : aL} {st : List Value} : aX d iX0_wordChanges 3 (l0 :: l1 :: lo :: lt) (.int x :: st) σ Q ↔ aX d iX0_wordChanges 4 (l0 :: aclr l1 :: some (.int x) :: lt) (st) σ Q := X_istoren kX0_wordChanges_3 (by simp only [List.length_cons]; omega)
theorem kX0_wordChanges_4 : aCode iX0_wordChanges 4 = some (.iload_n 2, 1) := by decide +kernel
theorem sX0_wordChanges_4 {d : Nat} {σ : aS} {Q : aQ} {l0 l1 : Option Value} {x : Int32} {lt : aL} {st : List Value} : aX d iX0_wordChanges 4 (l0 :: l1 :: some (.int x) :: lt) (st) σ Q ↔ aX d iX0_wordChanges 5 (l0 :: l1 :: some (.int x) :: lt) (.int x :: st) σ Q := X_iloadn kX0_wordChanges_4 rfl
theorem kX0_wordChanges_5 : aCode iX0_wordChanges 5 = some (.aload_n 0, 1) := by decide +kernel
theorem sX0_wordChanges_5 {d : Nat} {σ : aS} {Q : aQ} {x : Nat} {lt : aL} {st : List Value} : aX d iX0_wordChanges 5 (some (.ref x) :: lt) (st) σ Q ↔ aX d iX0_wordChanges 6 (some (.ref x) :: lt) (.ref x :: st) σ Q := X_aloadn kX0_wordChanges_5 rfl rfl
theorem kX0_wordChanges_6 : aCode iX0_wordChanges 6 = some (.getfield 25, 3) := by decide +kernel
theorem sX0_wordChanges_6 {d : Nat} {σ : aS} {Q : aQ} {a : Nat} {ls : aL} {st : List Value} : aX d iX0_wordChanges 6 (ls) (.ref a :: st) σ Q ↔ ∃ v, aFld σ a 0 3 = some v ∧ aX d iX0_wordChanges 9 (ls) (v :: st) σ Q := X_getf (w := 43) kX0_wordChanges_6 (by decide +kernel)
theorem kX0_wordChanges_9 : aCode iX0_wordChanges 9 = some (.if_icmp .ge 27, 3) := by decide +kernel
theorem sX0_wordChanges_9 {d : Nat} {σ : aS} {Q : aQ} {x y : Int32} {ls : aL} {st : List Value} : aX d iX0_wordChanges 9 (ls) (.int y :: .int x :: st) σ Q ↔ (if y ≤ x then aX d iX0_wordChanges 36 (ls) (st) σ Q else aX d iX0_wordChanges 12 (ls) (st) σ Q) := by rw [X_icmp kX0_wordChanges_9 (t := 36) (by decide)]; simp only [aCmp_ge]
theorem kX0_wordChanges_12 : aCode iX0_wordChanges 12 = some (.aload_n 0, 1) := by decide +kernel
theorem sX0_wordChanges_12 {d : Nat} {σ : aS} {Q : aQ} {x : Nat} {lt : aL} {st : List Value} : aX d iX0_wordChanges 12 (some (.ref x) :: lt) (st) σ Q ↔ aX d iX0_wordChanges 13 (some (.ref x) :: lt) (.ref x :: st) σ Q := X_aloadn kX0_wordChanges_12 rfl rfl
theorem kX0_wordChanges_13 : aCode iX0_wordChanges 13 = some (.iload_n 2, 1) := by decide +kernel
theorem sX0_wordChanges_13 {d : Nat} {σ : aS} {Q : aQ} {l0 l1 : Option Value} {x : Int32} {lt : aL} {st : List Value} : aX d iX0_wordChanges 13 (l0 :: l1 :: some (.int x) :: lt) (st) σ Q ↔ aX d iX0_wordChanges 14 (l0 :: l1 :: some (.int x) :: lt) (.int x :: st) σ Q := X_iloadn kX0_wordChanges_13 rfl
theorem kX0_wordChanges_14 : aCode iX0_wordChanges 14 = some (.invokevirtual 54, 3) := by decide +kernel
theorem sX0_wordChanges_14 {d : Nat} {σ : aS} {Q : aQ} {b : Nat} {p0 : Int32} {ls : aL} : aX (d + 1) iX0_wordChanges 14 (ls) (.int p0 :: .ref b :: []) σ Q ↔ aIs σ b 0 ∧ aX d iX0_markOf 0 [some (.ref b), some (.int p0)] [] σ (fun r τ => aX (d + 1) iX0_wordChanges 17 (ls) (aret r ([])) τ Q) := X_invv (N := 1) (As := [.int p0]) (w := 372) kX0_wordChanges_14 (by decide +kernel) (by decide +kernel) rfl rfl (by simp only [List.length_cons, List.length_nil]; omega) (by simp only [List.length_cons, List.length_nil]; omega) (by decide +kernel) rfl (Nat.le_of_ble_eq_true rfl)
theorem kX0_wordChanges_17 : aCode iX0_wordChanges 17 = some (.aload_n 0, 1) := by decide +kernel
theorem sX0_wordChanges_17 {d : Nat} {σ : aS} {Q : aQ} {x : Nat} {lt : aL} {st : List Value} : aX d iX0_wordChanges 17 (some (.ref x) :: lt) (st) σ Q ↔ aX d iX0_wordChanges 18 (some (.ref x) :: lt) (.ref x :: st) σ Q := X_aloadn kX0_wordChanges_17 rfl rfl
theorem kX0_wordChanges_18 : aCode iX0_wordChanges 18 = some (.iload_n 2, 1) := by decide +kernel
theorem sX0_wordChanges_18 {d : Nat} {σ : aS} {Q : aQ} {l0 l1 : Option Value} {x : Int32} {lt : aL} {st : List Value} : aX d iX0_wordChanges 18 (l0 :: l1 :: some (.int x) :: lt) (st) σ Q ↔ aX d iX0_wordChanges 19 (l0 :: l1 :: some (.int x) :: lt) (.int x :: st) σ Q := X_iloadn kX0_wordChanges_18 rfl
theorem kX0_wordChanges_19 : aCode iX0_wordChanges 19 = some (.iconst 2, 1) := by decide +kernel
theorem sX0_wordChanges_19 {d : Nat} {σ : aS} {Q : aQ} {ls : aL} {st : List Value} : aX d iX0_wordChanges 19 (ls) (st) σ Q ↔ aX d iX0_wordChanges 20 (ls) (.int (nI 2) :: st) σ Q := X_iconst kX0_wordChanges_19 (by decide +kernel)
theorem kX0_wordChanges_20 : aCode iX0_wordChanges 20 = some (.isub, 1) := by decide +kernel
theorem sX0_wordChanges_20 {d : Nat} {σ : aS} {Q : aQ} {x y : Int32} {ls : aL} {st : List Value} : aX d iX0_wordChanges 20 (ls) (.int y :: .int x :: st) σ Q ↔ aX d iX0_wordChanges 21 (ls) (.int (x - y) :: st) σ Q := X_isub kX0_wordChanges_20
theorem kX0_wordChanges_21 : aCode iX0_wordChanges 21 = some (.invokevirtual 54, 3) := by decide +kernel
theorem sX0_wordChanges_21 {d : Nat} {σ : aS} {Q : aQ} {b : Nat} {p0 : Int32} {v0 : Value} {ls : aL} : aX (d + 1) iX0_wordChanges 21 (ls) (.int p0 :: .ref b :: v0 :: []) σ Q ↔ aIs σ b 0 ∧ aX d iX0_markOf 0 [some (.ref b), some (.int p0)] [] σ (fun r τ => aX (d + 1) iX0_wordChanges 24 (ls) (aret r (v0 :: [])) τ Q) := X_invv (N := 1) (As := [.int p0]) (w := 372) kX0_wordChanges_21 (by decide +kernel) (by decide +kernel) rfl rfl (by simp only [List.length_cons, List.length_nil]; omega) (by simp only [List.length_cons, List.length_nil]; omega) (by decide +kernel) rfl (Nat.le_of_ble_eq_true rfl)
theorem kX0_wordChanges_24 : aCode iX0_wordChanges 24 = some (.if_icmp .eq 6, 3) := by decide +kernel
theorem sX0_wordChanges_24 {d : Nat} {σ : aS} {Q : aQ} {x y : Int32} {ls : aL} {st : List Value} : aX d iX0_wordChanges 24 (ls) (.int y :: .int x :: st) σ Q ↔ (if x = y then aX d iX0_wordChanges 30 (ls) (st) σ Q else aX d iX0_wordChanges 27 (ls) (st) σ Q) := by rw [X_icmp kX0_wordChanges_24 (t := 30) (by decide)]; simp only [aCmp_eq]
theorem kX0_wordChanges_27 : aCode iX0_wordChanges 27 = some (.iinc 1 1, 3) := by decide +kernel
theorem sX0_wordChanges_27 {d : Nat} {σ : aS} {Q : aQ} {l0 : Option Value} {x : Int32} {lt : aL} {st : List Value} : aX d iX0_wordChanges 27 (l0 :: some (.int x) :: lt) (st) σ Q ↔ aX d iX0_wordChanges 30 (aclr l0 :: some (.int (x + nI 1)) :: lt) (st) σ Q := X_iinc kX0_wordChanges_27 rfl (by decide +kernel)
theorem kX0_wordChanges_30 : aCode iX0_wordChanges 30 = some (.iinc 2 2, 3) := by decide +kernel
theorem sX0_wordChanges_30 {d : Nat} {σ : aS} {Q : aQ} {l0 l1 : Option Value} {x : Int32} {lt : aL} {st : List Value} : aX d iX0_wordChanges 30 (l0 :: l1 :: some (.int x) :: lt) (st) σ Q ↔ aX d iX0_wordChanges 33 (l0 :: aclr l1 :: some (.int (x + nI 2)) :: lt) (st) σ Q := X_iinc kX0_wordChanges_30 rfl (by decide +kernel)
theorem kX0_wordChanges_33 : aCode iX0_wordChanges 33 = some (.goto (-29), 3) := by decide +kernel
theorem sX0_wordChanges_33 {d : Nat} {σ : aS} {Q : aQ} {ls : aL} {st : List Value} : aX d iX0_wordChanges 33 (ls) (st) σ Q ↔ aX d iX0_wordChanges 4 (ls) (st) σ Q := X_goto kX0_wordChanges_33 (by decide)
theorem kX0_wordChanges_36 : aCode iX0_wordChanges 36 = some (.iload_n 1, 1) := by decide +kernel
theorem sX0_wordChanges_36 {d : Nat} {σ : aS} {Q : aQ} {l0 : Option Value} {x : Int32} {lt : aL} {st : List Value} : aX d iX0_wordChanges 36 (l0 :: some (.int x) :: lt) (st) σ Q ↔ aX d iX0_wordChanges 37 (l0 :: some (.int x) :: lt) (.int x :: st) σ Q := X_iloadn kX0_wordChanges_36 rfl
theorem kX0_wordChanges_37 : aCode iX0_wordChanges 37 = some (.ireturn, 1) := by decide +kernel
theorem sX0_wordChanges_37 {d : Nat} {σ : aS} {Q : aQ} {v : Int32} {ls : aL} : aX d iX0_wordChanges 37 (ls) ([.int v]) σ Q ↔ Q (some (.int v)) σ := X_iret kX0_wordChanges_37 (by decide +kernel)
theorem kX0_seatSet_0 : aCode iX0_seatSet 0 = some (.iconst 0, 1) := by decide +kernel
theorem sX0_seatSet_0 {d : Nat} {σ : aS} {Q : aQ} {ls : aL} {st : List Value} : aX d iX0_seatSet 0 (ls) (st) σ Q ↔ aX d iX0_seatSet 1 (ls) (.int (nI 0) :: st) σ Q := X_iconst kX0_seatSet_0 (by decide +kernel)
theorem kX0_seatSet_1 : aCode iX0_seatSet 1 = some (.istore_n 1, 1) := by decide +kernel
theorem sX0_seatSet_1 {d : Nat} {σ : aS} {Q : aQ} {l0 lo : Option Value} {x : Int32} {lt : aL} {st : List Value} : aX d iX0_seatSet 1 (l0 :: lo :: lt) (.int x :: st) σ Q ↔ aX d iX0_seatSet 2 (aclr l0 :: some (.int x) :: lt) (st) σ Q := X_istoren kX0_seatSet_1 (by simp only [List.length_cons]; omega)
theorem kX0_seatSet_2 : aCode iX0_seatSet 2 = some (.iconst 0, 1) := by decide +kernel
theorem sX0_seatSet_2 {d : Nat} {σ : aS} {Q : aQ} {ls : aL} {st : List Value} : aX d iX0_seatSet 2 (ls) (st) σ Q ↔ aX d iX0_seatSet 3 (ls) (.int (nI 0) :: st) σ Q := X_iconst kX0_seatSet_2 (by decide +kernel)
theorem kX0_seatSet_3 : aCode iX0_seatSet 3 = some (.istore_n 2, 1) := by decide +kernel
theorem sX0_seatSet_3 {d : Nat} {σ : aS} {Q : aQ} {l0 l1 lo : Option Value} {x : Int32} {lt : aL} {st : List Value} : aX d iX0_seatSet 3 (l0 :: l1 :: lo :: lt) (.int x :: st) σ Q ↔ aX d iX0_seatSet 4 (l0 :: aclr l1 :: some (.int x) :: lt) (st) σ Q := X_istoren kX0_seatSet_3 (by simp only [List.length_cons]; omega)
theorem kX0_seatSet_4 : aCode iX0_seatSet 4 = some (.iload_n 2, 1) := by decide +kernel
theorem sX0_seatSet_4 {d : Nat} {σ : aS} {Q : aQ} {l0 l1 : Option Value} {x : Int32} {lt : aL} {st : List Value} : aX d iX0_seatSet 4 (l0 :: l1 :: some (.int x) :: lt) (st) σ Q ↔ aX d iX0_seatSet 5 (l0 :: l1 :: some (.int x) :: lt) (.int x :: st) σ Q := X_iloadn kX0_seatSet_4 rfl
theorem kX0_seatSet_5 : aCode iX0_seatSet 5 = some (.aload_n 0, 1) := by decide +kernel
theorem sX0_seatSet_5 {d : Nat} {σ : aS} {Q : aQ} {x : Nat} {lt : aL} {st : List Value} : aX d iX0_seatSet 5 (some (.ref x) :: lt) (st) σ Q ↔ aX d iX0_seatSet 6 (some (.ref x) :: lt) (.ref x :: st) σ Q := X_aloadn kX0_seatSet_5 rfl rfl
theorem kX0_seatSet_6 : aCode iX0_seatSet 6 = some (.getfield 25, 3) := by decide +kernel
theorem sX0_seatSet_6 {d : Nat} {σ : aS} {Q : aQ} {a : Nat} {ls : aL} {st : List Value} : aX d iX0_seatSet 6 (ls) (.ref a :: st) σ Q ↔ ∃ v, aFld σ a 0 3 = some v ∧ aX d iX0_seatSet 9 (ls) (v :: st) σ Q := X_getf (w := 43) kX0_seatSet_6 (by decide +kernel)
theorem kX0_seatSet_9 : aCode iX0_seatSet 9 = some (.if_icmp .ge 22, 3) := by decide +kernel
theorem sX0_seatSet_9 {d : Nat} {σ : aS} {Q : aQ} {x y : Int32} {ls : aL} {st : List Value} : aX d iX0_seatSet 9 (ls) (.int y :: .int x :: st) σ Q ↔ (if y ≤ x then aX d iX0_seatSet 31 (ls) (st) σ Q else aX d iX0_seatSet 12 (ls) (st) σ Q) := by rw [X_icmp kX0_seatSet_9 (t := 31) (by decide)]; simp only [aCmp_ge]
theorem kX0_seatSet_12 : aCode iX0_seatSet 12 = some (.iload_n 1, 1) := by decide +kernel
theorem sX0_seatSet_12 {d : Nat} {σ : aS} {Q : aQ} {l0 : Option Value} {x : Int32} {lt : aL} {st : List Value} : aX d iX0_seatSet 12 (l0 :: some (.int x) :: lt) (st) σ Q ↔ aX d iX0_seatSet 13 (l0 :: some (.int x) :: lt) (.int x :: st) σ Q := X_iloadn kX0_seatSet_12 rfl
theorem kX0_seatSet_13 : aCode iX0_seatSet 13 = some (.iconst 1, 1) := by decide +kernel
theorem sX0_seatSet_13 {d : Nat} {σ : aS} {Q : aQ} {ls : aL} {st : List Value} : aX d iX0_seatSet 13 (ls) (st) σ Q ↔ aX d iX0_seatSet 14 (ls) (.int (nI 1) :: st) σ Q := X_iconst kX0_seatSet_13 (by decide +kernel)
theorem kX0_seatSet_14 : aCode iX0_seatSet 14 = some (.aload_n 0, 1) := by decide +kernel
theorem sX0_seatSet_14 {d : Nat} {σ : aS} {Q : aQ} {x : Nat} {lt : aL} {st : List Value} : aX d iX0_seatSet 14 (some (.ref x) :: lt) (st) σ Q ↔ aX d iX0_seatSet 15 (some (.ref x) :: lt) (.ref x :: st) σ Q := X_aloadn kX0_seatSet_14 rfl rfl
theorem kX0_seatSet_15 : aCode iX0_seatSet 15 = some (.getfield 9, 3) := by decide +kernel
theorem sX0_seatSet_15 {d : Nat} {σ : aS} {Q : aQ} {a : Nat} {ls : aL} {st : List Value} : aX d iX0_seatSet 15 (ls) (.ref a :: st) σ Q ↔ ∃ v, aFld σ a 0 0 = some v ∧ aX d iX0_seatSet 18 (ls) (v :: st) σ Q := X_getf (w := 38) kX0_seatSet_15 (by decide +kernel)
theorem kX0_seatSet_18 : aCode iX0_seatSet 18 = some (.iload_n 2, 1) := by decide +kernel
theorem sX0_seatSet_18 {d : Nat} {σ : aS} {Q : aQ} {l0 l1 : Option Value} {x : Int32} {lt : aL} {st : List Value} : aX d iX0_seatSet 18 (l0 :: l1 :: some (.int x) :: lt) (st) σ Q ↔ aX d iX0_seatSet 19 (l0 :: l1 :: some (.int x) :: lt) (.int x :: st) σ Q := X_iloadn kX0_seatSet_18 rfl
theorem kX0_seatSet_19 : aCode iX0_seatSet 19 = some (.invokestatic 46, 3) := by decide +kernel
theorem sX0_seatSet_19 {d : Nat} {σ : aS} {Q : aQ} {p0 : Nat} {p1 : Int32} {v0 v1 : Value} {ls : aL} : aX (d + 1) iX0_seatSet 19 (ls) (.int p1 :: .ref p0 :: v0 :: v1 :: []) σ Q ↔ aX d iX6_valueAt 0 [some (.ref p0), some (.int p1)] [] σ (fun r τ => aX (d + 1) iX0_seatSet 22 (ls) (aret r (v0 :: v1 :: [])) τ Q) := X_invs (N := 2) (As := [.int p1, .ref p0]) (k := 4) (w := 330) kX0_seatSet_19 (by decide +kernel) (by decide) (by decide +kernel) rfl rfl (by simp only [List.length_cons, List.length_nil]; omega) (by simp only [List.length_cons, List.length_nil]; omega) rfl (Nat.le_of_ble_eq_true rfl)
theorem kX0_seatSet_22 : aCode iX0_seatSet 22 = some (.ishl, 1) := by decide +kernel
theorem sX0_seatSet_22 {d : Nat} {σ : aS} {Q : aQ} {x y : Int32} {ls : aL} {st : List Value} : aX d iX0_seatSet 22 (ls) (.int y :: .int x :: st) σ Q ↔ aX d iX0_seatSet 23 (ls) (.int (x <<< (y &&& 31)) :: st) σ Q := X_ishl kX0_seatSet_22
theorem kX0_seatSet_23 : aCode iX0_seatSet 23 = some (.ior, 1) := by decide +kernel
theorem sX0_seatSet_23 {d : Nat} {σ : aS} {Q : aQ} {x y : Int32} {ls : aL} {st : List Value} : aX d iX0_seatSet 23 (ls) (.int y :: .int x :: st) σ Q ↔ aX d iX0_seatSet 24 (ls) (.int (x ||| y) :: st) σ Q := X_ior kX0_seatSet_23
theorem kX0_seatSet_24 : aCode iX0_seatSet 24 = some (.istore_n 1, 1) := by decide +kernel
theorem sX0_seatSet_24 {d : Nat} {σ : aS} {Q : aQ} {l0 lo : Option Value} {x : Int32} {lt : aL} {st : List Value} : aX d iX0_seatSet 24 (l0 :: lo :: lt) (.int x :: st) σ Q ↔ aX d iX0_seatSet 25 (aclr l0 :: some (.int x) :: lt) (st) σ Q := X_istoren kX0_seatSet_24 (by simp only [List.length_cons]; omega)
theorem kX0_seatSet_25 : aCode iX0_seatSet 25 = some (.iinc 2 1, 3) := by decide +kernel
theorem sX0_seatSet_25 {d : Nat} {σ : aS} {Q : aQ} {l0 l1 : Option Value} {x : Int32} {lt : aL} {st : List Value} : aX d iX0_seatSet 25 (l0 :: l1 :: some (.int x) :: lt) (st) σ Q ↔ aX d iX0_seatSet 28 (l0 :: aclr l1 :: some (.int (x + nI 1)) :: lt) (st) σ Q := X_iinc kX0_seatSet_25 rfl (by decide +kernel)
theorem kX0_seatSet_28 : aCode iX0_seatSet 28 = some (.goto (-24), 3) := by decide +kernel
theorem sX0_seatSet_28 {d : Nat} {σ : aS} {Q : aQ} {ls : aL} {st : List Value} : aX d iX0_seatSet 28 (ls) (st) σ Q ↔ aX d iX0_seatSet 4 (ls) (st) σ Q := X_goto kX0_seatSet_28 (by decide)
theorem kX0_seatSet_31 : aCode iX0_seatSet 31 = some (.iload_n 1, 1) := by decide +kernel
theorem sX0_seatSet_31 {d : Nat} {σ : aS} {Q : aQ} {l0 : Option Value} {x : Int32} {lt : aL} {st : List Value} : aX d iX0_seatSet 31 (l0 :: some (.int x) :: lt) (st) σ Q ↔ aX d iX0_seatSet 32 (l0 :: some (.int x) :: lt) (.int x :: st) σ Q := X_iloadn kX0_seatSet_31 rfl
theorem kX0_seatSet_32 : aCode iX0_seatSet 32 = some (.ireturn, 1) := by decide +kernel
theorem sX0_seatSet_32 {d : Nat} {σ : aS} {Q : aQ} {v : Int32} {ls : aL} : aX d iX0_seatSet 32 (ls) ([.int v]) σ Q ↔ Q (some (.int v)) σ := X_iret kX0_seatSet_32 (by decide +kernel)
theorem kX1_init_0 : aCode iX1_init 0 = some (.aload_n 0, 1) := by decide +kernel
theorem sX1_init_0 {d : Nat} {σ : aS} {Q : aQ} {x : Nat} {lt : aL} {st : List Value} : aX d iX1_init 0 (some (.ref x) :: lt) (st) σ Q ↔ aX d iX1_init 1 (some (.ref x) :: lt) (.ref x :: st) σ Q := X_aloadn kX1_init_0 rfl rfl
theorem kX1_init_1 : aCode iX1_init 1 = some (.invokespecial 3, 3) := by decide +kernel
theorem sX1_init_1 {d : Nat} {σ : aS} {Q : aQ} {b : Nat} {ls : aL} : aX d iX1_init 1 (ls) (.ref b :: []) σ Q ↔ aX d iX1_init 4 (ls) ([]) σ Q := X_obj (t := 999) (w := 104) kX1_init_1 (by decide +kernel) (by simp only [List.length_cons, List.length_nil]; omega)
theorem kX1_init_4 : aCode iX1_init 4 = some (.aload_n 0, 1) := by decide +kernel
theorem sX1_init_4 {d : Nat} {σ : aS} {Q : aQ} {x : Nat} {lt : aL} {st : List Value} : aX d iX1_init 4 (some (.ref x) :: lt) (st) σ Q ↔ aX d iX1_init 5 (some (.ref x) :: lt) (.ref x :: st) σ Q := X_aloadn kX1_init_4 rfl rfl
theorem kX1_init_5 : aCode iX1_init 5 = some (.new 9, 3) := by decide +kernel
theorem sX1_init_5 {d : Nat} {σ : aS} {Q : aQ} {ls : aL} {st : List Value} : aX d iX1_init 5 (ls) (st) σ Q ↔ aX d iX1_init 8 (ls) (.ref σ.2.1 :: st) (anew σ (eO 0 [.null, .null, .int 0, .int 0, .int 0, .int 0, .int 0]) 7) Q := X_new (w := (105, 33, 9)) kX1_init_5 (by decide +kernel) (by decide +kernel) (by decide +kernel)
theorem kX1_init_8 : aCode iX1_init 8 = some (.dup, 1) := by decide +kernel
theorem sX1_init_8 {d : Nat} {σ : aS} {Q : aQ} {x : Nat} {ls : aL} {st : List Value} : aX d iX1_init 8 (ls) (.ref x :: st) σ Q ↔ aX d iX1_init 9 (ls) (.ref x :: .ref x :: st) σ Q := X_dup kX1_init_8 rfl
theorem sX1_init_8i {d : Nat} {σ : aS} {Q : aQ} {x : Int32} {ls : aL} {st : List Value} : aX d iX1_init 8 (ls) (.int x :: st) σ Q ↔ aX d iX1_init 9 (ls) (.int x :: .int x :: st) σ Q := X_dup kX1_init_8 rfl
theorem kX1_init_9 : aCode iX1_init 9 = some (.invokespecial 11, 3) := by decide +kernel
theorem sX1_init_9 {d : Nat} {σ : aS} {Q : aQ} {b : Nat} {v0 v1 : Value} {ls : aL} : aX (d + 1) iX1_init 9 (ls) (.ref b :: v0 :: v1 :: []) σ Q ↔ aIs σ b 0 ∧ aX d iX0_init 0 [some (.ref b)] [] σ (fun r τ => aX (d + 1) iX1_init 12 (ls) (aret r (v0 :: v1 :: [])) τ Q) := X_invi (N := 0) (As := []) (k := 3) (w := 106) kX1_init_9 (by decide +kernel) (by decide) (by decide +kernel) rfl rfl (by simp only [List.length_cons, List.length_nil]; omega) (by simp only [List.length_cons, List.length_nil]; omega) (by decide +kernel) rfl (Nat.le_of_ble_eq_true rfl)
theorem kX1_init_12 : aCode iX1_init 12 = some (.putfield 12, 3) := by decide +kernel
theorem sX1_init_12 {d : Nat} {σ : aS} {Q : aQ} {x : Nat} {a : Nat} {ls : aL} {st : List Value} : aX d iX1_init 12 (ls) (.ref x :: .ref a :: st) σ Q ↔ ∃ fs, aFds σ a 1 = some fs ∧ 0 < fs.length ∧ aX d iX1_init 15 (ls) (st) (aput σ a (eO 1 (fs.set 0 (.ref x)))) Q := X_putf (w := 107) kX1_init_12 (by decide +kernel) (aFit_R (by decide +kernel)) (by decide +kernel)
theorem kX1_init_15 : aCode iX1_init 15 = some (.aload_n 0, 1) := by decide +kernel
theorem sX1_init_15 {d : Nat} {σ : aS} {Q : aQ} {x : Nat} {lt : aL} {st : List Value} : aX d iX1_init 15 (some (.ref x) :: lt) (st) σ Q ↔ aX d iX1_init 16 (some (.ref x) :: lt) (.ref x :: st) σ Q := X_aloadn kX1_init_15 rfl rfl
theorem kX1_init_16 : aCode iX1_init 16 = some (.bipush 8, 2) := by decide +kernel
theorem sX1_init_16 {d : Nat} {σ : aS} {Q : aQ} {ls : aL} {st : List Value} : aX d iX1_init 16 (ls) (st) σ Q ↔ aX d iX1_init 18 (ls) (.int (nI 8) :: st) σ Q := X_bipush kX1_init_16 (by decide +kernel)
theorem kX1_init_18 : aCode iX1_init 18 = some (.newarray .int, 2) := by decide +kernel
theorem sX1_init_18 {d : Nat} {σ : aS} {Q : aQ} {m : Nat} {ls : aL} {st : List Value} (hm : m ≤ 1000000) : aX d iX1_init 18 (ls) (.int (nI m) :: st) σ Q ↔ aX d iX1_init 20 (ls) (.ref σ.2.1 :: st) (anew σ (eI m (fun _ => 0)) m) Q := X_newa kX1_init_18 hm
theorem kX1_init_20 : aCode iX1_init 20 = some (.putfield 18, 3) := by decide +kernel
theorem sX1_init_20 {d : Nat} {σ : aS} {Q : aQ} {x : Nat} {a : Nat} {ls : aL} {st : List Value} : aX d iX1_init 20 (ls) (.ref x :: .ref a :: st) σ Q ↔ ∃ fs, aFds σ a 1 = some fs ∧ 1 < fs.length ∧ aX d iX1_init 23 (ls) (st) (aput σ a (eO 1 (fs.set 1 (.ref x)))) Q := X_putf (w := 109) kX1_init_20 (by decide +kernel) (aFit_R (by decide +kernel)) (by decide +kernel)
theorem kX1_init_23 : aCode iX1_init 23 = some (.return_, 1) := by decide +kernel
theorem sX1_init_23 {d : Nat} {σ : aS} {Q : aQ} {ls : aL} : aX d iX1_init 23 (ls) ([]) σ Q ↔ Q none σ := X_vret kX1_init_23 (by decide +kernel)
theorem kX1_follow_0 : aCode iX1_follow 0 = some (.aload_n 0, 1) := by decide +kernel
theorem sX1_follow_0 {d : Nat} {σ : aS} {Q : aQ} {x : Nat} {lt : aL} {st : List Value} : aX d iX1_follow 0 (some (.ref x) :: lt) (st) σ Q ↔ aX d iX1_follow 1 (some (.ref x) :: lt) (.ref x :: st) σ Q := X_aloadn kX1_follow_0 rfl rfl
theorem kX1_follow_1 : aCode iX1_follow 1 = some (.getfield 12, 3) := by decide +kernel
theorem sX1_follow_1 {d : Nat} {σ : aS} {Q : aQ} {a : Nat} {ls : aL} {st : List Value} : aX d iX1_follow 1 (ls) (.ref a :: st) σ Q ↔ ∃ v, aFld σ a 1 0 = some v ∧ aX d iX1_follow 4 (ls) (v :: st) σ Q := X_getf (w := 107) kX1_follow_1 (by decide +kernel)
theorem kX1_follow_4 : aCode iX1_follow 4 = some (.aload_n 2, 1) := by decide +kernel
theorem sX1_follow_4 {d : Nat} {σ : aS} {Q : aQ} {l0 l1 : Option Value} {x : Nat} {lt : aL} {st : List Value} : aX d iX1_follow 4 (l0 :: l1 :: some (.ref x) :: lt) (st) σ Q ↔ aX d iX1_follow 5 (l0 :: l1 :: some (.ref x) :: lt) (.ref x :: st) σ Q := X_aloadn kX1_follow_4 rfl rfl
theorem sX1_follow_4n {d : Nat} {σ : aS} {Q : aQ} {l0 l1 : Option Value} {lt : aL} {st : List Value} : aX d iX1_follow 4 (l0 :: l1 :: some .null :: lt) (st) σ Q ↔ aX d iX1_follow 5 (l0 :: l1 :: some .null :: lt) (.null :: st) σ Q := X_aloadn kX1_follow_4 rfl rfl
theorem kX1_follow_5 : aCode iX1_follow 5 = some (.invokevirtual 22, 3) := by decide +kernel
theorem sX1_follow_5 {d : Nat} {σ : aS} {Q : aQ} {b : Nat} {p0 : Nat} {ls : aL} : aX (d + 1) iX1_follow 5 (ls) (.ref p0 :: .ref b :: []) σ Q ↔ aIs σ b 0 ∧ aX d iX0_copyFrom 0 [some (.ref b), some (.ref p0)] [] σ (fun r τ => aX (d + 1) iX1_follow 8 (ls) (aret r ([])) τ Q) := X_invv (N := 1) (As := [.ref p0]) (w := 482) kX1_follow_5 (by decide +kernel) (by decide +kernel) rfl rfl (by simp only [List.length_cons, List.length_nil]; omega) (by simp only [List.length_cons, List.length_nil]; omega) (by decide +kernel) rfl (Nat.le_of_ble_eq_true rfl)
theorem kX1_follow_8 : aCode iX1_follow 8 = some (.aload_n 0, 1) := by decide +kernel
theorem sX1_follow_8 {d : Nat} {σ : aS} {Q : aQ} {x : Nat} {lt : aL} {st : List Value} : aX d iX1_follow 8 (some (.ref x) :: lt) (st) σ Q ↔ aX d iX1_follow 9 (some (.ref x) :: lt) (.ref x :: st) σ Q := X_aloadn kX1_follow_8 rfl rfl
theorem kX1_follow_9 : aCode iX1_follow 9 = some (.aload_n 1, 1) := by decide +kernel
theorem sX1_follow_9 {d : Nat} {σ : aS} {Q : aQ} {l0 : Option Value} {x : Nat} {lt : aL} {st : List Value} : aX d iX1_follow 9 (l0 :: some (.ref x) :: lt) (st) σ Q ↔ aX d iX1_follow 10 (l0 :: some (.ref x) :: lt) (.ref x :: st) σ Q := X_aloadn kX1_follow_9 rfl rfl
theorem sX1_follow_9n {d : Nat} {σ : aS} {Q : aQ} {l0 : Option Value} {lt : aL} {st : List Value} : aX d iX1_follow 9 (l0 :: some .null :: lt) (st) σ Q ↔ aX d iX1_follow 10 (l0 :: some .null :: lt) (.null :: st) σ Q := X_aloadn kX1_follow_9 rfl rfl
theorem kX1_follow_10 : aCode iX1_follow 10 = some (.invokevirtual 26, 3) := by decide +kernel
theorem sX1_follow_10 {d : Nat} {σ : aS} {Q : aQ} {b : Nat} {p0 : Nat} {ls : aL} : aX (d + 1) iX1_follow 10 (ls) (.ref p0 :: .ref b :: []) σ Q ↔ aIs σ b 1 ∧ aX d iX1_playToEnd 0 [some (.ref b), some (.ref p0)] [] σ (fun r τ => aX (d + 1) iX1_follow 13 (ls) (aret r ([])) τ Q) := X_invv (N := 1) (As := [.ref p0]) (w := 483) kX1_follow_10 (by decide +kernel) (by decide +kernel) rfl rfl (by simp only [List.length_cons, List.length_nil]; omega) (by simp only [List.length_cons, List.length_nil]; omega) (by decide +kernel) rfl (Nat.le_of_ble_eq_true rfl)
theorem kX1_follow_13 : aCode iX1_follow 13 = some (.return_, 1) := by decide +kernel
theorem sX1_follow_13 {d : Nat} {σ : aS} {Q : aQ} {ls : aL} : aX d iX1_follow 13 (ls) ([]) σ Q ↔ Q none σ := X_vret kX1_follow_13 (by decide +kernel)
theorem kX1_followAll_0 : aCode iX1_followAll 0 = some (.aload_n 1, 1) := by decide +kernel
theorem sX1_followAll_0 {d : Nat} {σ : aS} {Q : aQ} {l0 : Option Value} {x : Nat} {lt : aL} {st : List Value} : aX d iX1_followAll 0 (l0 :: some (.ref x) :: lt) (st) σ Q ↔ aX d iX1_followAll 1 (l0 :: some (.ref x) :: lt) (.ref x :: st) σ Q := X_aloadn kX1_followAll_0 rfl rfl
theorem sX1_followAll_0n {d : Nat} {σ : aS} {Q : aQ} {l0 : Option Value} {lt : aL} {st : List Value} : aX d iX1_followAll 0 (l0 :: some .null :: lt) (st) σ Q ↔ aX d iX1_followAll 1 (l0 :: some .null :: lt) (.null :: st) σ Q := X_aloadn kX1_followAll_0 rfl rfl
theorem kX1_followAll_1 : aCode iX1_followAll 1 = some (.getfield 30, 3) := by decide +kernel
theorem sX1_followAll_1 {d : Nat} {σ : aS} {Q : aQ} {a : Nat} {ls : aL} {st : List Value} : aX d iX1_followAll 1 (ls) (.ref a :: st) σ Q ↔ ∃ v, aFld σ a 5 2 = some v ∧ aX d iX1_followAll 4 (ls) (v :: st) σ Q := X_getf (w := 74) kX1_followAll_1 (by decide +kernel)
theorem kX1_followAll_4 : aCode iX1_followAll 4 = some (.aload_n 0, 1) := by decide +kernel
theorem sX1_followAll_4 {d : Nat} {σ : aS} {Q : aQ} {x : Nat} {lt : aL} {st : List Value} : aX d iX1_followAll 4 (some (.ref x) :: lt) (st) σ Q ↔ aX d iX1_followAll 5 (some (.ref x) :: lt) (.ref x :: st) σ Q := X_aloadn kX1_followAll_4 rfl rfl
theorem kX1_followAll_5 : aCode iX1_followAll 5 = some (.getfield 18, 3) := by decide +kernel
theorem sX1_followAll_5 {d : Nat} {σ : aS} {Q : aQ} {a : Nat} {ls : aL} {st : List Value} : aX d iX1_followAll 5 (ls) (.ref a :: st) σ Q ↔ ∃ v, aFld σ a 1 1 = some v ∧ aX d iX1_followAll 8 (ls) (v :: st) σ Q := X_getf (w := 109) kX1_followAll_5 (by decide +kernel)
theorem kX1_followAll_8 : aCode iX1_followAll 8 = some (.invokestatic 33, 3) := by decide +kernel
theorem sX1_followAll_8 {d : Nat} {σ : aS} {Q : aQ} {p0 : Nat} {p1 : Nat} {ls : aL} : aX (d + 1) iX1_followAll 8 (ls) (.ref p1 :: .ref p0 :: []) σ Q ↔ aX d iX6_copyRow 0 [some (.ref p0), some (.ref p1)] [] σ (fun r τ => aX (d + 1) iX1_followAll 11 (ls) (aret r ([])) τ Q) := X_invs (N := 2) (As := [.ref p1, .ref p0]) (k := 4) (w := 497) kX1_followAll_8 (by decide +kernel) (by decide) (by decide +kernel) rfl rfl (by simp only [List.length_cons, List.length_nil]; omega) (by simp only [List.length_cons, List.length_nil]; omega) rfl (Nat.le_of_ble_eq_true rfl)
theorem kX1_followAll_11 : aCode iX1_followAll 11 = some (.iconst 0, 1) := by decide +kernel
theorem sX1_followAll_11 {d : Nat} {σ : aS} {Q : aQ} {ls : aL} {st : List Value} : aX d iX1_followAll 11 (ls) (st) σ Q ↔ aX d iX1_followAll 12 (ls) (.int (nI 0) :: st) σ Q := X_iconst kX1_followAll_11 (by decide +kernel)
theorem kX1_followAll_12 : aCode iX1_followAll 12 = some (.istore_n 2, 1) := by decide +kernel
theorem sX1_followAll_12 {d : Nat} {σ : aS} {Q : aQ} {l0 l1 lo : Option Value} {x : Int32} {lt : aL} {st : List Value} : aX d iX1_followAll 12 (l0 :: l1 :: lo :: lt) (.int x :: st) σ Q ↔ aX d iX1_followAll 13 (l0 :: aclr l1 :: some (.int x) :: lt) (st) σ Q := X_istoren kX1_followAll_12 (by simp only [List.length_cons]; omega)
theorem kX1_followAll_13 : aCode iX1_followAll 13 = some (.iload_n 2, 1) := by decide +kernel
theorem sX1_followAll_13 {d : Nat} {σ : aS} {Q : aQ} {l0 l1 : Option Value} {x : Int32} {lt : aL} {st : List Value} : aX d iX1_followAll 13 (l0 :: l1 :: some (.int x) :: lt) (st) σ Q ↔ aX d iX1_followAll 14 (l0 :: l1 :: some (.int x) :: lt) (.int x :: st) σ Q := X_iloadn kX1_followAll_13 rfl
theorem kX1_followAll_14 : aCode iX1_followAll 14 = some (.aload_n 1, 1) := by decide +kernel
theorem sX1_followAll_14 {d : Nat} {σ : aS} {Q : aQ} {l0 : Option Value} {x : Nat} {lt : aL} {st : List Value} : aX d iX1_followAll 14 (l0 :: some (.ref x) :: lt) (st) σ Q ↔ aX d iX1_followAll 15 (l0 :: some (.ref x) :: lt) (.ref x :: st) σ Q := X_aloadn kX1_followAll_14 rfl rfl
theorem sX1_followAll_14n {d : Nat} {σ : aS} {Q : aQ} {l0 : Option Value} {lt : aL} {st : List Value} : aX d iX1_followAll 14 (l0 :: some .null :: lt) (st) σ Q ↔ aX d iX1_followAll 15 (l0 :: some .null :: lt) (.null :: st) σ Q := X_aloadn kX1_followAll_14 rfl rfl
theorem kX1_followAll_15 : aCode iX1_followAll 15 = some (.getfield 37, 3) := by decide +kernel
theorem sX1_followAll_15 {d : Nat} {σ : aS} {Q : aQ} {a : Nat} {ls : aL} {st : List Value} : aX d iX1_followAll 15 (ls) (.ref a :: st) σ Q ↔ ∃ v, aFld σ a 5 5 = some v ∧ aX d iX1_followAll 18 (ls) (v :: st) σ Q := X_getf (w := 80) kX1_followAll_15 (by decide +kernel)
theorem kX1_followAll_18 : aCode iX1_followAll 18 = some (.if_icmp .ge 32, 3) := by decide +kernel
theorem sX1_followAll_18 {d : Nat} {σ : aS} {Q : aQ} {x y : Int32} {ls : aL} {st : List Value} : aX d iX1_followAll 18 (ls) (.int y :: .int x :: st) σ Q ↔ (if y ≤ x then aX d iX1_followAll 50 (ls) (st) σ Q else aX d iX1_followAll 21 (ls) (st) σ Q) := by rw [X_icmp kX1_followAll_18 (t := 50) (by decide)]; simp only [aCmp_ge]
theorem kX1_followAll_21 : aCode iX1_followAll 21 = some (.aload_n 1, 1) := by decide +kernel
theorem sX1_followAll_21 {d : Nat} {σ : aS} {Q : aQ} {l0 : Option Value} {x : Nat} {lt : aL} {st : List Value} : aX d iX1_followAll 21 (l0 :: some (.ref x) :: lt) (st) σ Q ↔ aX d iX1_followAll 22 (l0 :: some (.ref x) :: lt) (.ref x :: st) σ Q := X_aloadn kX1_followAll_21 rfl rfl
theorem sX1_followAll_21n {d : Nat} {σ : aS} {Q : aQ} {l0 : Option Value} {lt : aL} {st : List Value} : aX d iX1_followAll 21 (l0 :: some .null :: lt) (st) σ Q ↔ aX d iX1_followAll 22 (l0 :: some .null :: lt) (.null :: st) σ Q := X_aloadn kX1_followAll_21 rfl rfl
theorem kX1_followAll_22 : aCode iX1_followAll 22 = some (.iload_n 2, 1) := by decide +kernel
theorem sX1_followAll_22 {d : Nat} {σ : aS} {Q : aQ} {l0 l1 : Option Value} {x : Int32} {lt : aL} {st : List Value} : aX d iX1_followAll 22 (l0 :: l1 :: some (.int x) :: lt) (st) σ Q ↔ aX d iX1_followAll 23 (l0 :: l1 :: some (.int x) :: lt) (.int x :: st) σ Q := X_iloadn kX1_followAll_22 rfl
theorem kX1_followAll_23 : aCode iX1_followAll 23 = some (.invokevirtual 41, 3) := by decide +kernel
theorem sX1_followAll_23 {d : Nat} {σ : aS} {Q : aQ} {b : Nat} {p0 : Int32} {ls : aL} : aX (d + 1) iX1_followAll 23 (ls) (.int p0 :: .ref b :: []) σ Q ↔ aIs σ b 5 ∧ aX d iX5_albumAt 0 [some (.ref b), some (.int p0)] [] σ (fun r τ => aX (d + 1) iX1_followAll 26 (ls) (aret r ([])) τ Q) := X_invv (N := 1) (As := [.int p0]) (w := 498) kX1_followAll_23 (by decide +kernel) (by decide +kernel) rfl rfl (by simp only [List.length_cons, List.length_nil]; omega) (by simp only [List.length_cons, List.length_nil]; omega) (by decide +kernel) rfl (Nat.le_of_ble_eq_true rfl)
theorem kX1_followAll_26 : aCode iX1_followAll 26 = some (.astore_n 3, 1) := by decide +kernel
theorem sX1_followAll_26 {d : Nat} {σ : aS} {Q : aQ} {l0 l1 l2 lo : Option Value} {x : Nat} {lt : aL} {st : List Value} : aX d iX1_followAll 26 (l0 :: l1 :: l2 :: lo :: lt) (.ref x :: st) σ Q ↔ aX d iX1_followAll 27 (l0 :: l1 :: aclr l2 :: some (.ref x) :: lt) (st) σ Q := X_astoren kX1_followAll_26 (by simp only [List.length_cons]; omega) rfl
theorem sX1_followAll_26n {d : Nat} {σ : aS} {Q : aQ} {l0 l1 l2 lo : Option Value} {lt : aL} {st : List Value} : aX d iX1_followAll 26 (l0 :: l1 :: l2 :: lo :: lt) (.null :: st) σ Q ↔ aX d iX1_followAll 27 (l0 :: l1 :: aclr l2 :: some (.null) :: lt) (st) σ Q := X_astoren kX1_followAll_26 (by simp only [List.length_cons]; omega) rfl
theorem kX1_followAll_27 : aCode iX1_followAll 27 = some (.aload_n 3, 1) := by decide +kernel
theorem sX1_followAll_27 {d : Nat} {σ : aS} {Q : aQ} {l0 l1 l2 : Option Value} {x : Nat} {lt : aL} {st : List Value} : aX d iX1_followAll 27 (l0 :: l1 :: l2 :: some (.ref x) :: lt) (st) σ Q ↔ aX d iX1_followAll 28 (l0 :: l1 :: l2 :: some (.ref x) :: lt) (.ref x :: st) σ Q := X_aloadn kX1_followAll_27 rfl rfl
theorem sX1_followAll_27n {d : Nat} {σ : aS} {Q : aQ} {l0 l1 l2 : Option Value} {lt : aL} {st : List Value} : aX d iX1_followAll 27 (l0 :: l1 :: l2 :: some .null :: lt) (st) σ Q ↔ aX d iX1_followAll 28 (l0 :: l1 :: l2 :: some .null :: lt) (.null :: st) σ Q := X_aloadn kX1_followAll_27 rfl rfl
theorem kX1_followAll_28 : aCode iX1_followAll 28 = some (.ifnull 16, 3) := by decide +kernel
theorem sX1_followAll_28 {d : Nat} {σ : aS} {Q : aQ} {x : Nat} {ls : aL} {st : List Value} : aX d iX1_followAll 28 (ls) (.ref x :: st) σ Q ↔ aX d iX1_followAll 31 (ls) (st) σ Q := X_ifnull kX1_followAll_28 (t := 44) (by decide)
theorem sX1_followAll_28n {d : Nat} {σ : aS} {Q : aQ} {ls : aL} {st : List Value} : aX d iX1_followAll 28 (ls) (.null :: st) σ Q ↔ aX d iX1_followAll 44 (ls) (st) σ Q := X_ifnullN kX1_followAll_28 (t := 44) (by decide)
theorem kX1_followAll_31 : aCode iX1_followAll 31 = some (.aload_n 0, 1) := by decide +kernel
theorem sX1_followAll_31 {d : Nat} {σ : aS} {Q : aQ} {x : Nat} {lt : aL} {st : List Value} : aX d iX1_followAll 31 (some (.ref x) :: lt) (st) σ Q ↔ aX d iX1_followAll 32 (some (.ref x) :: lt) (.ref x :: st) σ Q := X_aloadn kX1_followAll_31 rfl rfl
theorem kX1_followAll_32 : aCode iX1_followAll 32 = some (.getfield 12, 3) := by decide +kernel
theorem sX1_followAll_32 {d : Nat} {σ : aS} {Q : aQ} {a : Nat} {ls : aL} {st : List Value} : aX d iX1_followAll 32 (ls) (.ref a :: st) σ Q ↔ ∃ v, aFld σ a 1 0 = some v ∧ aX d iX1_followAll 35 (ls) (v :: st) σ Q := X_getf (w := 107) kX1_followAll_32 (by decide +kernel)
theorem kX1_followAll_35 : aCode iX1_followAll 35 = some (.aload_n 3, 1) := by decide +kernel
theorem sX1_followAll_35 {d : Nat} {σ : aS} {Q : aQ} {l0 l1 l2 : Option Value} {x : Nat} {lt : aL} {st : List Value} : aX d iX1_followAll 35 (l0 :: l1 :: l2 :: some (.ref x) :: lt) (st) σ Q ↔ aX d iX1_followAll 36 (l0 :: l1 :: l2 :: some (.ref x) :: lt) (.ref x :: st) σ Q := X_aloadn kX1_followAll_35 rfl rfl
theorem sX1_followAll_35n {d : Nat} {σ : aS} {Q : aQ} {l0 l1 l2 : Option Value} {lt : aL} {st : List Value} : aX d iX1_followAll 35 (l0 :: l1 :: l2 :: some .null :: lt) (st) σ Q ↔ aX d iX1_followAll 36 (l0 :: l1 :: l2 :: some .null :: lt) (.null :: st) σ Q := X_aloadn kX1_followAll_35 rfl rfl
theorem kX1_followAll_36 : aCode iX1_followAll 36 = some (.invokevirtual 22, 3) := by decide +kernel
theorem sX1_followAll_36 {d : Nat} {σ : aS} {Q : aQ} {b : Nat} {p0 : Nat} {ls : aL} : aX (d + 1) iX1_followAll 36 (ls) (.ref p0 :: .ref b :: []) σ Q ↔ aIs σ b 0 ∧ aX d iX0_copyFrom 0 [some (.ref b), some (.ref p0)] [] σ (fun r τ => aX (d + 1) iX1_followAll 39 (ls) (aret r ([])) τ Q) := X_invv (N := 1) (As := [.ref p0]) (w := 482) kX1_followAll_36 (by decide +kernel) (by decide +kernel) rfl rfl (by simp only [List.length_cons, List.length_nil]; omega) (by simp only [List.length_cons, List.length_nil]; omega) (by decide +kernel) rfl (Nat.le_of_ble_eq_true rfl)
theorem kX1_followAll_39 : aCode iX1_followAll 39 = some (.aload_n 0, 1) := by decide +kernel
theorem sX1_followAll_39 {d : Nat} {σ : aS} {Q : aQ} {x : Nat} {lt : aL} {st : List Value} : aX d iX1_followAll 39 (some (.ref x) :: lt) (st) σ Q ↔ aX d iX1_followAll 40 (some (.ref x) :: lt) (.ref x :: st) σ Q := X_aloadn kX1_followAll_39 rfl rfl
theorem kX1_followAll_40 : aCode iX1_followAll 40 = some (.aload_n 1, 1) := by decide +kernel
theorem sX1_followAll_40 {d : Nat} {σ : aS} {Q : aQ} {l0 : Option Value} {x : Nat} {lt : aL} {st : List Value} : aX d iX1_followAll 40 (l0 :: some (.ref x) :: lt) (st) σ Q ↔ aX d iX1_followAll 41 (l0 :: some (.ref x) :: lt) (.ref x :: st) σ Q := X_aloadn kX1_followAll_40 rfl rfl
theorem sX1_followAll_40n {d : Nat} {σ : aS} {Q : aQ} {l0 : Option Value} {lt : aL} {st : List Value} : aX d iX1_followAll 40 (l0 :: some .null :: lt) (st) σ Q ↔ aX d iX1_followAll 41 (l0 :: some .null :: lt) (.null :: st) σ Q := X_aloadn kX1_followAll_40 rfl rfl
theorem kX1_followAll_41 : aCode iX1_followAll 41 = some (.invokevirtual 26, 3) := by decide +kernel
theorem sX1_followAll_41 {d : Nat} {σ : aS} {Q : aQ} {b : Nat} {p0 : Nat} {ls : aL} : aX (d + 1) iX1_followAll 41 (ls) (.ref p0 :: .ref b :: []) σ Q ↔ aIs σ b 1 ∧ aX d iX1_playToEnd 0 [some (.ref b), some (.ref p0)] [] σ (fun r τ => aX (d + 1) iX1_followAll 44 (ls) (aret r ([])) τ Q) := X_invv (N := 1) (As := [.ref p0]) (w := 483) kX1_followAll_41 (by decide +kernel) (by decide +kernel) rfl rfl (by simp only [List.length_cons, List.length_nil]; omega) (by simp only [List.length_cons, List.length_nil]; omega) (by decide +kernel) rfl (Nat.le_of_ble_eq_true rfl)
theorem kX1_followAll_44 : aCode iX1_followAll 44 = some (.iinc 2 1, 3) := by decide +kernel
theorem sX1_followAll_44 {d : Nat} {σ : aS} {Q : aQ} {l0 l1 : Option Value} {x : Int32} {lt : aL} {st : List Value} : aX d iX1_followAll 44 (l0 :: l1 :: some (.int x) :: lt) (st) σ Q ↔ aX d iX1_followAll 47 (l0 :: aclr l1 :: some (.int (x + nI 1)) :: lt) (st) σ Q := X_iinc kX1_followAll_44 rfl (by decide +kernel)
theorem kX1_followAll_47 : aCode iX1_followAll 47 = some (.goto (-34), 3) := by decide +kernel
theorem sX1_followAll_47 {d : Nat} {σ : aS} {Q : aQ} {ls : aL} {st : List Value} : aX d iX1_followAll 47 (ls) (st) σ Q ↔ aX d iX1_followAll 13 (ls) (st) σ Q := X_goto kX1_followAll_47 (by decide)
theorem kX1_followAll_50 : aCode iX1_followAll 50 = some (.return_, 1) := by decide +kernel
theorem sX1_followAll_50 {d : Nat} {σ : aS} {Q : aQ} {ls : aL} : aX d iX1_followAll 50 (ls) ([]) σ Q ↔ Q none σ := X_vret kX1_followAll_50 (by decide +kernel)
theorem kX1_differenceAtHome_0 : aCode iX1_differenceAtHome 0 = some (.aload_n 0, 1) := by decide +kernel
theorem sX1_differenceAtHome_0 {d : Nat} {σ : aS} {Q : aQ} {x : Nat} {lt : aL} {st : List Value} : aX d iX1_differenceAtHome 0 (some (.ref x) :: lt) (st) σ Q ↔ aX d iX1_differenceAtHome 1 (some (.ref x) :: lt) (.ref x :: st) σ Q := X_aloadn kX1_differenceAtHome_0 rfl rfl
theorem kX1_differenceAtHome_1 : aCode iX1_differenceAtHome 1 = some (.getfield 12, 3) := by decide +kernel
theorem sX1_differenceAtHome_1 {d : Nat} {σ : aS} {Q : aQ} {a : Nat} {ls : aL} {st : List Value} : aX d iX1_differenceAtHome 1 (ls) (.ref a :: st) σ Q ↔ ∃ v, aFld σ a 1 0 = some v ∧ aX d iX1_differenceAtHome 4 (ls) (v :: st) σ Q := X_getf (w := 107) kX1_differenceAtHome_1 (by decide +kernel)
theorem kX1_differenceAtHome_4 : aCode iX1_differenceAtHome 4 = some (.iload_n 2, 1) := by decide +kernel
theorem sX1_differenceAtHome_4 {d : Nat} {σ : aS} {Q : aQ} {l0 l1 : Option Value} {x : Int32} {lt : aL} {st : List Value} : aX d iX1_differenceAtHome 4 (l0 :: l1 :: some (.int x) :: lt) (st) σ Q ↔ aX d iX1_differenceAtHome 5 (l0 :: l1 :: some (.int x) :: lt) (.int x :: st) σ Q := X_iloadn kX1_differenceAtHome_4 rfl
theorem kX1_differenceAtHome_5 : aCode iX1_differenceAtHome 5 = some (.iload_n 3, 1) := by decide +kernel
theorem sX1_differenceAtHome_5 {d : Nat} {σ : aS} {Q : aQ} {l0 l1 l2 : Option Value} {x : Int32} {lt : aL} {st : List Value} : aX d iX1_differenceAtHome 5 (l0 :: l1 :: l2 :: some (.int x) :: lt) (st) σ Q ↔ aX d iX1_differenceAtHome 6 (l0 :: l1 :: l2 :: some (.int x) :: lt) (.int x :: st) σ Q := X_iloadn kX1_differenceAtHome_5 rfl
theorem kX1_differenceAtHome_6 : aCode iX1_differenceAtHome 6 = some (.invokevirtual 45, 3) := by decide +kernel
theorem sX1_differenceAtHome_6 {d : Nat} {σ : aS} {Q : aQ} {b : Nat} {p0 : Int32} {p1 : Int32} {ls : aL} : aX (d + 1) iX1_differenceAtHome 6 (ls) (.int p1 :: .int p0 :: .ref b :: []) σ Q ↔ aIs σ b 0 ∧ aX d iX0_start 0 [some (.ref b), some (.int p0), some (.int p1)] [] σ (fun r τ => aX (d + 1) iX1_differenceAtHome 9 (ls) (aret r ([])) τ Q) := X_invv (N := 2) (As := [.int p1, .int p0]) (w := 512) kX1_differenceAtHome_6 (by decide +kernel) (by decide +kernel) rfl rfl (by simp only [List.length_cons, List.length_nil]; omega) (by simp only [List.length_cons, List.length_nil]; omega) (by decide +kernel) rfl (Nat.le_of_ble_eq_true rfl)
theorem kX1_differenceAtHome_9 : aCode iX1_differenceAtHome 9 = some (.aload_n 0, 1) := by decide +kernel
theorem sX1_differenceAtHome_9 {d : Nat} {σ : aS} {Q : aQ} {x : Nat} {lt : aL} {st : List Value} : aX d iX1_differenceAtHome 9 (some (.ref x) :: lt) (st) σ Q ↔ aX d iX1_differenceAtHome 10 (some (.ref x) :: lt) (.ref x :: st) σ Q := X_aloadn kX1_differenceAtHome_9 rfl rfl
theorem kX1_differenceAtHome_10 : aCode iX1_differenceAtHome 10 = some (.aload_n 1, 1) := by decide +kernel
theorem sX1_differenceAtHome_10 {d : Nat} {σ : aS} {Q : aQ} {l0 : Option Value} {x : Nat} {lt : aL} {st : List Value} : aX d iX1_differenceAtHome 10 (l0 :: some (.ref x) :: lt) (st) σ Q ↔ aX d iX1_differenceAtHome 11 (l0 :: some (.ref x) :: lt) (.ref x :: st) σ Q := X_aloadn kX1_differenceAtHome_10 rfl rfl
theorem sX1_differenceAtHome_10n {d : Nat} {σ : aS} {Q : aQ} {l0 : Option Value} {lt : aL} {st : List Value} : aX d iX1_differenceAtHome 10 (l0 :: some .null :: lt) (st) σ Q ↔ aX d iX1_differenceAtHome 11 (l0 :: some .null :: lt) (.null :: st) σ Q := X_aloadn kX1_differenceAtHome_10 rfl rfl
theorem kX1_differenceAtHome_11 : aCode iX1_differenceAtHome 11 = some (.invokevirtual 26, 3) := by decide +kernel
theorem sX1_differenceAtHome_11 {d : Nat} {σ : aS} {Q : aQ} {b : Nat} {p0 : Nat} {ls : aL} : aX (d + 1) iX1_differenceAtHome 11 (ls) (.ref p0 :: .ref b :: []) σ Q ↔ aIs σ b 1 ∧ aX d iX1_playToEnd 0 [some (.ref b), some (.ref p0)] [] σ (fun r τ => aX (d + 1) iX1_differenceAtHome 14 (ls) (aret r ([])) τ Q) := X_invv (N := 1) (As := [.ref p0]) (w := 483) kX1_differenceAtHome_11 (by decide +kernel) (by decide +kernel) rfl rfl (by simp only [List.length_cons, List.length_nil]; omega) (by simp only [List.length_cons, List.length_nil]; omega) (by decide +kernel) rfl (Nat.le_of_ble_eq_true rfl)
theorem kX1_differenceAtHome_14 : aCode iX1_differenceAtHome 14 = some (.aload_n 1, 1) := by decide +kernel
theorem sX1_differenceAtHome_14 {d : Nat} {σ : aS} {Q : aQ} {l0 : Option Value} {x : Nat} {lt : aL} {st : List Value} : aX d iX1_differenceAtHome 14 (l0 :: some (.ref x) :: lt) (st) σ Q ↔ aX d iX1_differenceAtHome 15 (l0 :: some (.ref x) :: lt) (.ref x :: st) σ Q := X_aloadn kX1_differenceAtHome_14 rfl rfl
theorem sX1_differenceAtHome_14n {d : Nat} {σ : aS} {Q : aQ} {l0 : Option Value} {lt : aL} {st : List Value} : aX d iX1_differenceAtHome 14 (l0 :: some .null :: lt) (st) σ Q ↔ aX d iX1_differenceAtHome 15 (l0 :: some .null :: lt) (.null :: st) σ Q := X_aloadn kX1_differenceAtHome_14 rfl rfl
theorem kX1_differenceAtHome_15 : aCode iX1_differenceAtHome 15 = some (.aload_n 0, 1) := by decide +kernel
theorem sX1_differenceAtHome_15 {d : Nat} {σ : aS} {Q : aQ} {x : Nat} {lt : aL} {st : List Value} : aX d iX1_differenceAtHome 15 (some (.ref x) :: lt) (st) σ Q ↔ aX d iX1_differenceAtHome 16 (some (.ref x) :: lt) (.ref x :: st) σ Q := X_aloadn kX1_differenceAtHome_15 rfl rfl
theorem kX1_differenceAtHome_16 : aCode iX1_differenceAtHome 16 = some (.getfield 12, 3) := by decide +kernel
theorem sX1_differenceAtHome_16 {d : Nat} {σ : aS} {Q : aQ} {a : Nat} {ls : aL} {st : List Value} : aX d iX1_differenceAtHome 16 (ls) (.ref a :: st) σ Q ↔ ∃ v, aFld σ a 1 0 = some v ∧ aX d iX1_differenceAtHome 19 (ls) (v :: st) σ Q := X_getf (w := 107) kX1_differenceAtHome_16 (by decide +kernel)
theorem kX1_differenceAtHome_19 : aCode iX1_differenceAtHome 19 = some (.invokevirtual 49, 3) := by decide +kernel
theorem sX1_differenceAtHome_19 {d : Nat} {σ : aS} {Q : aQ} {b : Nat} {v0 : Value} {ls : aL} : aX (d + 1) iX1_differenceAtHome 19 (ls) (.ref b :: v0 :: []) σ Q ↔ aIs σ b 0 ∧ aX d iX0_firstWord 0 [some (.ref b)] [] σ (fun r τ => aX (d + 1) iX1_differenceAtHome 22 (ls) (aret r (v0 :: [])) τ Q) := X_invv (N := 0) (As := []) (w := 513) kX1_differenceAtHome_19 (by decide +kernel) (by decide +kernel) rfl rfl (by simp only [List.length_cons, List.length_nil]; omega) (by simp only [List.length_cons, List.length_nil]; omega) (by decide +kernel) rfl (Nat.le_of_ble_eq_true rfl)
theorem kX1_differenceAtHome_22 : aCode iX1_differenceAtHome 22 = some (.aload_n 0, 1) := by decide +kernel
theorem sX1_differenceAtHome_22 {d : Nat} {σ : aS} {Q : aQ} {x : Nat} {lt : aL} {st : List Value} : aX d iX1_differenceAtHome 22 (some (.ref x) :: lt) (st) σ Q ↔ aX d iX1_differenceAtHome 23 (some (.ref x) :: lt) (.ref x :: st) σ Q := X_aloadn kX1_differenceAtHome_22 rfl rfl
theorem kX1_differenceAtHome_23 : aCode iX1_differenceAtHome 23 = some (.getfield 12, 3) := by decide +kernel
theorem sX1_differenceAtHome_23 {d : Nat} {σ : aS} {Q : aQ} {a : Nat} {ls : aL} {st : List Value} : aX d iX1_differenceAtHome 23 (ls) (.ref a :: st) σ Q ↔ ∃ v, aFld σ a 1 0 = some v ∧ aX d iX1_differenceAtHome 26 (ls) (v :: st) σ Q := X_getf (w := 107) kX1_differenceAtHome_23 (by decide +kernel)
theorem kX1_differenceAtHome_26 : aCode iX1_differenceAtHome 26 = some (.invokevirtual 53, 3) := by decide +kernel
theorem sX1_differenceAtHome_26 {d : Nat} {σ : aS} {Q : aQ} {b : Nat} {v0 v1 : Value} {ls : aL} : aX (d + 1) iX1_differenceAtHome 26 (ls) (.ref b :: v0 :: v1 :: []) σ Q ↔ aIs σ b 0 ∧ aX d iX0_lastWord 0 [some (.ref b)] [] σ (fun r τ => aX (d + 1) iX1_differenceAtHome 29 (ls) (aret r (v0 :: v1 :: [])) τ Q) := X_invv (N := 0) (As := []) (w := 514) kX1_differenceAtHome_26 (by decide +kernel) (by decide +kernel) rfl rfl (by simp only [List.length_cons, List.length_nil]; omega) (by simp only [List.length_cons, List.length_nil]; omega) (by decide +kernel) rfl (Nat.le_of_ble_eq_true rfl)
theorem kX1_differenceAtHome_29 : aCode iX1_differenceAtHome 29 = some (.invokevirtual 56, 3) := by decide +kernel
theorem sX1_differenceAtHome_29 {d : Nat} {σ : aS} {Q : aQ} {b : Nat} {p0 : Int32} {p1 : Int32} {ls : aL} : aX (d + 1) iX1_differenceAtHome 29 (ls) (.int p1 :: .int p0 :: .ref b :: []) σ Q ↔ aIs σ b 5 ∧ aX d iX5_difference 0 [some (.ref b), some (.int p0), some (.int p1)] [] σ (fun r τ => aX (d + 1) iX1_differenceAtHome 32 (ls) (aret r ([])) τ Q) := X_invv (N := 2) (As := [.int p1, .int p0]) (w := 515) kX1_differenceAtHome_29 (by decide +kernel) (by decide +kernel) rfl rfl (by simp only [List.length_cons, List.length_nil]; omega) (by simp only [List.length_cons, List.length_nil]; omega) (by decide +kernel) rfl (Nat.le_of_ble_eq_true rfl)
theorem kX1_differenceAtHome_32 : aCode iX1_differenceAtHome 32 = some (.ireturn, 1) := by decide +kernel
theorem sX1_differenceAtHome_32 {d : Nat} {σ : aS} {Q : aQ} {v : Int32} {ls : aL} : aX d iX1_differenceAtHome 32 (ls) ([.int v]) σ Q ↔ Q (some (.int v)) σ := X_iret kX1_differenceAtHome_32 (by decide +kernel)
theorem kX1_playToEnd_0 : aCode iX1_playToEnd 0 = some (.aload_n 0, 1) := by decide +kernel
theorem sX1_playToEnd_0 {d : Nat} {σ : aS} {Q : aQ} {x : Nat} {lt : aL} {st : List Value} : aX d iX1_playToEnd 0 (some (.ref x) :: lt) (st) σ Q ↔ aX d iX1_playToEnd 1 (some (.ref x) :: lt) (.ref x :: st) σ Q := X_aloadn kX1_playToEnd_0 rfl rfl
theorem kX1_playToEnd_1 : aCode iX1_playToEnd 1 = some (.iconst 0, 1) := by decide +kernel
theorem sX1_playToEnd_1 {d : Nat} {σ : aS} {Q : aQ} {ls : aL} {st : List Value} : aX d iX1_playToEnd 1 (ls) (st) σ Q ↔ aX d iX1_playToEnd 2 (ls) (.int (nI 0) :: st) σ Q := X_iconst kX1_playToEnd_1 (by decide +kernel)
theorem kX1_playToEnd_2 : aCode iX1_playToEnd 2 = some (.putfield 60, 3) := by decide +kernel
theorem sX1_playToEnd_2 {d : Nat} {σ : aS} {Q : aQ} {x : Int32} {a : Nat} {ls : aL} {st : List Value} : aX d iX1_playToEnd 2 (ls) (.int x :: .ref a :: st) σ Q ↔ ∃ fs, aFds σ a 1 = some fs ∧ 2 < fs.length ∧ aX d iX1_playToEnd 5 (ls) (st) (aput σ a (eO 1 (fs.set 2 (.int x)))) Q := X_putf (w := 111) kX1_playToEnd_2 (by decide +kernel) (aFit_I (by decide +kernel)) (by decide +kernel)
theorem kX1_playToEnd_5 : aCode iX1_playToEnd 5 = some (.aload_n 0, 1) := by decide +kernel
theorem sX1_playToEnd_5 {d : Nat} {σ : aS} {Q : aQ} {x : Nat} {lt : aL} {st : List Value} : aX d iX1_playToEnd 5 (some (.ref x) :: lt) (st) σ Q ↔ aX d iX1_playToEnd 6 (some (.ref x) :: lt) (.ref x :: st) σ Q := X_aloadn kX1_playToEnd_5 rfl rfl
theorem kX1_playToEnd_6 : aCode iX1_playToEnd 6 = some (.getfield 60, 3) := by decide +kernel
theorem sX1_playToEnd_6 {d : Nat} {σ : aS} {Q : aQ} {a : Nat} {ls : aL} {st : List Value} : aX d iX1_playToEnd 6 (ls) (.ref a :: st) σ Q ↔ ∃ v, aFld σ a 1 2 = some v ∧ aX d iX1_playToEnd 9 (ls) (v :: st) σ Q := X_getf (w := 111) kX1_playToEnd_6 (by decide +kernel)
theorem kX1_playToEnd_9 : aCode iX1_playToEnd 9 = some (.bipush 8, 2) := by decide +kernel
theorem sX1_playToEnd_9 {d : Nat} {σ : aS} {Q : aQ} {ls : aL} {st : List Value} : aX d iX1_playToEnd 9 (ls) (st) σ Q ↔ aX d iX1_playToEnd 11 (ls) (.int (nI 8) :: st) σ Q := X_bipush kX1_playToEnd_9 (by decide +kernel)
theorem kX1_playToEnd_11 : aCode iX1_playToEnd 11 = some (.if_icmp .gt 38, 3) := by decide +kernel
theorem sX1_playToEnd_11 {d : Nat} {σ : aS} {Q : aQ} {x y : Int32} {ls : aL} {st : List Value} : aX d iX1_playToEnd 11 (ls) (.int y :: .int x :: st) σ Q ↔ (if y < x then aX d iX1_playToEnd 49 (ls) (st) σ Q else aX d iX1_playToEnd 14 (ls) (st) σ Q) := by rw [X_icmp kX1_playToEnd_11 (t := 49) (by decide)]; simp only [aCmp_gt]
theorem kX1_playToEnd_14 : aCode iX1_playToEnd 14 = some (.aload_n 0, 1) := by decide +kernel
theorem sX1_playToEnd_14 {d : Nat} {σ : aS} {Q : aQ} {x : Nat} {lt : aL} {st : List Value} : aX d iX1_playToEnd 14 (some (.ref x) :: lt) (st) σ Q ↔ aX d iX1_playToEnd 15 (some (.ref x) :: lt) (.ref x :: st) σ Q := X_aloadn kX1_playToEnd_14 rfl rfl
theorem kX1_playToEnd_15 : aCode iX1_playToEnd 15 = some (.getfield 12, 3) := by decide +kernel
theorem sX1_playToEnd_15 {d : Nat} {σ : aS} {Q : aQ} {a : Nat} {ls : aL} {st : List Value} : aX d iX1_playToEnd 15 (ls) (.ref a :: st) σ Q ↔ ∃ v, aFld σ a 1 0 = some v ∧ aX d iX1_playToEnd 18 (ls) (v :: st) σ Q := X_getf (w := 107) kX1_playToEnd_15 (by decide +kernel)
theorem kX1_playToEnd_18 : aCode iX1_playToEnd 18 = some (.invokevirtual 63, 3) := by decide +kernel
theorem sX1_playToEnd_18 {d : Nat} {σ : aS} {Q : aQ} {b : Nat} {ls : aL} : aX (d + 1) iX1_playToEnd 18 (ls) (.ref b :: []) σ Q ↔ aIs σ b 0 ∧ aX d iX0_goesRound 0 [some (.ref b)] [] σ (fun r τ => aX (d + 1) iX1_playToEnd 21 (ls) (aret r ([])) τ Q) := X_invv (N := 0) (As := []) (w := 487) kX1_playToEnd_18 (by decide +kernel) (by decide +kernel) rfl rfl (by simp only [List.length_cons, List.length_nil]; omega) (by simp only [List.length_cons, List.length_nil]; omega) (by decide +kernel) rfl (Nat.le_of_ble_eq_true rfl)
theorem kX1_playToEnd_21 : aCode iX1_playToEnd 21 = some (.ifCond .eq 28, 3) := by decide +kernel
theorem sX1_playToEnd_21 {d : Nat} {σ : aS} {Q : aQ} {x : Int32} {ls : aL} {st : List Value} : aX d iX1_playToEnd 21 (ls) (.int x :: st) σ Q ↔ (if x = nI 0 then aX d iX1_playToEnd 49 (ls) (st) σ Q else aX d iX1_playToEnd 24 (ls) (st) σ Q) := by rw [X_if kX1_playToEnd_21 (t := 49) (by decide)]; simp only [aCmp_eq]
theorem kX1_playToEnd_24 : aCode iX1_playToEnd 24 = some (.aload_n 1, 1) := by decide +kernel
theorem sX1_playToEnd_24 {d : Nat} {σ : aS} {Q : aQ} {l0 : Option Value} {x : Nat} {lt : aL} {st : List Value} : aX d iX1_playToEnd 24 (l0 :: some (.ref x) :: lt) (st) σ Q ↔ aX d iX1_playToEnd 25 (l0 :: some (.ref x) :: lt) (.ref x :: st) σ Q := X_aloadn kX1_playToEnd_24 rfl rfl
theorem sX1_playToEnd_24n {d : Nat} {σ : aS} {Q : aQ} {l0 : Option Value} {lt : aL} {st : List Value} : aX d iX1_playToEnd 24 (l0 :: some .null :: lt) (st) σ Q ↔ aX d iX1_playToEnd 25 (l0 :: some .null :: lt) (.null :: st) σ Q := X_aloadn kX1_playToEnd_24 rfl rfl
theorem kX1_playToEnd_25 : aCode iX1_playToEnd 25 = some (.aload_n 0, 1) := by decide +kernel
theorem sX1_playToEnd_25 {d : Nat} {σ : aS} {Q : aQ} {x : Nat} {lt : aL} {st : List Value} : aX d iX1_playToEnd 25 (some (.ref x) :: lt) (st) σ Q ↔ aX d iX1_playToEnd 26 (some (.ref x) :: lt) (.ref x :: st) σ Q := X_aloadn kX1_playToEnd_25 rfl rfl
theorem kX1_playToEnd_26 : aCode iX1_playToEnd 26 = some (.getfield 12, 3) := by decide +kernel
theorem sX1_playToEnd_26 {d : Nat} {σ : aS} {Q : aQ} {a : Nat} {ls : aL} {st : List Value} : aX d iX1_playToEnd 26 (ls) (.ref a :: st) σ Q ↔ ∃ v, aFld σ a 1 0 = some v ∧ aX d iX1_playToEnd 29 (ls) (v :: st) σ Q := X_getf (w := 107) kX1_playToEnd_26 (by decide +kernel)
theorem kX1_playToEnd_29 : aCode iX1_playToEnd 29 = some (.aload_n 0, 1) := by decide +kernel
theorem sX1_playToEnd_29 {d : Nat} {σ : aS} {Q : aQ} {x : Nat} {lt : aL} {st : List Value} : aX d iX1_playToEnd 29 (some (.ref x) :: lt) (st) σ Q ↔ aX d iX1_playToEnd 30 (some (.ref x) :: lt) (.ref x :: st) σ Q := X_aloadn kX1_playToEnd_29 rfl rfl
theorem kX1_playToEnd_30 : aCode iX1_playToEnd 30 = some (.getfield 18, 3) := by decide +kernel
theorem sX1_playToEnd_30 {d : Nat} {σ : aS} {Q : aQ} {a : Nat} {ls : aL} {st : List Value} : aX d iX1_playToEnd 30 (ls) (.ref a :: st) σ Q ↔ ∃ v, aFld σ a 1 1 = some v ∧ aX d iX1_playToEnd 33 (ls) (v :: st) σ Q := X_getf (w := 109) kX1_playToEnd_30 (by decide +kernel)
theorem kX1_playToEnd_33 : aCode iX1_playToEnd 33 = some (.invokevirtual 67, 3) := by decide +kernel
theorem sX1_playToEnd_33 {d : Nat} {σ : aS} {Q : aQ} {b : Nat} {p0 : Nat} {p1 : Nat} {ls : aL} : aX (d + 1) iX1_playToEnd 33 (ls) (.ref p1 :: .ref p0 :: .ref b :: []) σ Q ↔ aIs σ b 5 ∧ aX d iX5_passOn 0 [some (.ref b), some (.ref p0), some (.ref p1), none] [] σ (fun r τ => aX (d + 1) iX1_playToEnd 36 (ls) (aret r ([])) τ Q) := X_invv (N := 2) (As := [.ref p1, .ref p0]) (w := 488) kX1_playToEnd_33 (by decide +kernel) (by decide +kernel) rfl rfl (by simp only [List.length_cons, List.length_nil]; omega) (by simp only [List.length_cons, List.length_nil]; omega) (by decide +kernel) rfl (Nat.le_of_ble_eq_true rfl)
theorem kX1_playToEnd_36 : aCode iX1_playToEnd 36 = some (.aload_n 0, 1) := by decide +kernel
theorem sX1_playToEnd_36 {d : Nat} {σ : aS} {Q : aQ} {x : Nat} {lt : aL} {st : List Value} : aX d iX1_playToEnd 36 (some (.ref x) :: lt) (st) σ Q ↔ aX d iX1_playToEnd 37 (some (.ref x) :: lt) (.ref x :: st) σ Q := X_aloadn kX1_playToEnd_36 rfl rfl
theorem kX1_playToEnd_37 : aCode iX1_playToEnd 37 = some (.dup, 1) := by decide +kernel
theorem sX1_playToEnd_37 {d : Nat} {σ : aS} {Q : aQ} {x : Nat} {ls : aL} {st : List Value} : aX d iX1_playToEnd 37 (ls) (.ref x :: st) σ Q ↔ aX d iX1_playToEnd 38 (ls) (.ref x :: .ref x :: st) σ Q := X_dup kX1_playToEnd_37 rfl
theorem sX1_playToEnd_37i {d : Nat} {σ : aS} {Q : aQ} {x : Int32} {ls : aL} {st : List Value} : aX d iX1_playToEnd 37 (ls) (.int x :: st) σ Q ↔ aX d iX1_playToEnd 38 (ls) (.int x :: .int x :: st) σ Q := X_dup kX1_playToEnd_37 rfl
theorem kX1_playToEnd_38 : aCode iX1_playToEnd 38 = some (.getfield 60, 3) := by decide +kernel
theorem sX1_playToEnd_38 {d : Nat} {σ : aS} {Q : aQ} {a : Nat} {ls : aL} {st : List Value} : aX d iX1_playToEnd 38 (ls) (.ref a :: st) σ Q ↔ ∃ v, aFld σ a 1 2 = some v ∧ aX d iX1_playToEnd 41 (ls) (v :: st) σ Q := X_getf (w := 111) kX1_playToEnd_38 (by decide +kernel)
theorem kX1_playToEnd_41 : aCode iX1_playToEnd 41 = some (.iconst 1, 1) := by decide +kernel
theorem sX1_playToEnd_41 {d : Nat} {σ : aS} {Q : aQ} {ls : aL} {st : List Value} : aX d iX1_playToEnd 41 (ls) (st) σ Q ↔ aX d iX1_playToEnd 42 (ls) (.int (nI 1) :: st) σ Q := X_iconst kX1_playToEnd_41 (by decide +kernel)
theorem kX1_playToEnd_42 : aCode iX1_playToEnd 42 = some (.iadd, 1) := by decide +kernel
theorem sX1_playToEnd_42 {d : Nat} {σ : aS} {Q : aQ} {x y : Int32} {ls : aL} {st : List Value} : aX d iX1_playToEnd 42 (ls) (.int y :: .int x :: st) σ Q ↔ aX d iX1_playToEnd 43 (ls) (.int (x + y) :: st) σ Q := X_iadd kX1_playToEnd_42
theorem kX1_playToEnd_43 : aCode iX1_playToEnd 43 = some (.putfield 60, 3) := by decide +kernel
theorem sX1_playToEnd_43 {d : Nat} {σ : aS} {Q : aQ} {x : Int32} {a : Nat} {ls : aL} {st : List Value} : aX d iX1_playToEnd 43 (ls) (.int x :: .ref a :: st) σ Q ↔ ∃ fs, aFds σ a 1 = some fs ∧ 2 < fs.length ∧ aX d iX1_playToEnd 46 (ls) (st) (aput σ a (eO 1 (fs.set 2 (.int x)))) Q := X_putf (w := 111) kX1_playToEnd_43 (by decide +kernel) (aFit_I (by decide +kernel)) (by decide +kernel)
theorem kX1_playToEnd_46 : aCode iX1_playToEnd 46 = some (.goto (-41), 3) := by decide +kernel
theorem sX1_playToEnd_46 {d : Nat} {σ : aS} {Q : aQ} {ls : aL} {st : List Value} : aX d iX1_playToEnd 46 (ls) (st) σ Q ↔ aX d iX1_playToEnd 5 (ls) (st) σ Q := X_goto kX1_playToEnd_46 (by decide)
theorem kX1_playToEnd_49 : aCode iX1_playToEnd 49 = some (.return_, 1) := by decide +kernel
theorem sX1_playToEnd_49 {d : Nat} {σ : aS} {Q : aQ} {ls : aL} : aX d iX1_playToEnd 49 (ls) ([]) σ Q ↔ Q none σ := X_vret kX1_playToEnd_49 (by decide +kernel)
theorem kX2_init_0 : aCode iX2_init 0 = some (.aload_n 0, 1) := by decide +kernel
theorem sX2_init_0 {d : Nat} {σ : aS} {Q : aQ} {x : Nat} {lt : aL} {st : List Value} : aX d iX2_init 0 (some (.ref x) :: lt) (st) σ Q ↔ aX d iX2_init 1 (some (.ref x) :: lt) (.ref x :: st) σ Q := X_aloadn kX2_init_0 rfl rfl
theorem kX2_init_1 : aCode iX2_init 1 = some (.invokespecial 3, 3) := by decide +kernel
theorem sX2_init_1 {d : Nat} {σ : aS} {Q : aQ} {b : Nat} {ls : aL} : aX d iX2_init 1 (ls) (.ref b :: []) σ Q ↔ aX d iX2_init 4 (ls) ([]) σ Q := X_obj (t := 999) (w := 125) kX2_init_1 (by decide +kernel) (by simp only [List.length_cons, List.length_nil]; omega)
theorem kX2_init_4 : aCode iX2_init 4 = some (.aload_n 0, 1) := by decide +kernel
theorem sX2_init_4 {d : Nat} {σ : aS} {Q : aQ} {x : Nat} {lt : aL} {st : List Value} : aX d iX2_init 4 (some (.ref x) :: lt) (st) σ Q ↔ aX d iX2_init 5 (some (.ref x) :: lt) (.ref x :: st) σ Q := X_aloadn kX2_init_4 rfl rfl
theorem kX2_init_5 : aCode iX2_init 5 = some (.bipush 7, 2) := by decide +kernel
theorem sX2_init_5 {d : Nat} {σ : aS} {Q : aQ} {ls : aL} {st : List Value} : aX d iX2_init 5 (ls) (st) σ Q ↔ aX d iX2_init 7 (ls) (.int (nI 7) :: st) σ Q := X_bipush kX2_init_5 (by decide +kernel)
theorem kX2_init_7 : aCode iX2_init 7 = some (.anewarray 9, 3) := by decide +kernel
theorem sX2_init_7 {d : Nat} {σ : aS} {Q : aQ} {m : Nat} {ls : aL} {st : List Value} (hm : m ≤ 1000000) : aX d iX2_init 7 (ls) (.int (nI m) :: st) σ Q ↔ aX d iX2_init 10 (ls) (.ref σ.2.1 :: st) (anew σ (eQ 2 m (fun _ => none)) m) Q := X_anew (ci := 5) (w := (126, 26, 8)) kX2_init_7 (by decide +kernel) hm rfl
theorem kX2_init_10 : aCode iX2_init 10 = some (.putfield 11, 3) := by decide +kernel
theorem sX2_init_10 {d : Nat} {σ : aS} {Q : aQ} {x : Nat} {a : Nat} {ls : aL} {st : List Value} : aX d iX2_init 10 (ls) (.ref x :: .ref a :: st) σ Q ↔ ∃ fs, aFds σ a 2 = some fs ∧ 0 < fs.length ∧ aX d iX2_init 13 (ls) (st) (aput σ a (eO 2 (fs.set 0 (.ref x)))) Q := X_putf (w := 129) kX2_init_10 (by decide +kernel) (aFit_R (by decide +kernel)) (by decide +kernel)
theorem kX2_init_13 : aCode iX2_init 13 = some (.iconst 0, 1) := by decide +kernel
theorem sX2_init_13 {d : Nat} {σ : aS} {Q : aQ} {ls : aL} {st : List Value} : aX d iX2_init 13 (ls) (st) σ Q ↔ aX d iX2_init 14 (ls) (.int (nI 0) :: st) σ Q := X_iconst kX2_init_13 (by decide +kernel)
theorem kX2_init_14 : aCode iX2_init 14 = some (.istore_n 1, 1) := by decide +kernel
theorem sX2_init_14 {d : Nat} {σ : aS} {Q : aQ} {l0 lo : Option Value} {x : Int32} {lt : aL} {st : List Value} : aX d iX2_init 14 (l0 :: lo :: lt) (.int x :: st) σ Q ↔ aX d iX2_init 15 (aclr l0 :: some (.int x) :: lt) (st) σ Q := X_istoren kX2_init_14 (by simp only [List.length_cons]; omega)
theorem kX2_init_15 : aCode iX2_init 15 = some (.iload_n 1, 1) := by decide +kernel
theorem sX2_init_15 {d : Nat} {σ : aS} {Q : aQ} {l0 : Option Value} {x : Int32} {lt : aL} {st : List Value} : aX d iX2_init 15 (l0 :: some (.int x) :: lt) (st) σ Q ↔ aX d iX2_init 16 (l0 :: some (.int x) :: lt) (.int x :: st) σ Q := X_iloadn kX2_init_15 rfl
theorem kX2_init_16 : aCode iX2_init 16 = some (.aload_n 0, 1) := by decide +kernel
theorem sX2_init_16 {d : Nat} {σ : aS} {Q : aQ} {x : Nat} {lt : aL} {st : List Value} : aX d iX2_init 16 (some (.ref x) :: lt) (st) σ Q ↔ aX d iX2_init 17 (some (.ref x) :: lt) (.ref x :: st) σ Q := X_aloadn kX2_init_16 rfl rfl
theorem kX2_init_17 : aCode iX2_init 17 = some (.getfield 11, 3) := by decide +kernel
theorem sX2_init_17 {d : Nat} {σ : aS} {Q : aQ} {a : Nat} {ls : aL} {st : List Value} : aX d iX2_init 17 (ls) (.ref a :: st) σ Q ↔ ∃ v, aFld σ a 2 0 = some v ∧ aX d iX2_init 20 (ls) (v :: st) σ Q := X_getf (w := 129) kX2_init_17 (by decide +kernel)
theorem kX2_init_20 : aCode iX2_init 20 = some (.arraylength, 1) := by decide +kernel
theorem sX2_init_20 {d : Nat} {σ : aS} {Q : aQ} {a : Nat} {ls : aL} {st : List Value} : aX d iX2_init 20 (ls) (.ref a :: st) σ Q ↔ ∃ m, aLn σ a = some m ∧ aX d iX2_init 21 (ls) (.int (nI m) :: st) σ Q := X_alen kX2_init_20
theorem kX2_init_21 : aCode iX2_init 21 = some (.if_icmp .ge 22, 3) := by decide +kernel
theorem sX2_init_21 {d : Nat} {σ : aS} {Q : aQ} {x y : Int32} {ls : aL} {st : List Value} : aX d iX2_init 21 (ls) (.int y :: .int x :: st) σ Q ↔ (if y ≤ x then aX d iX2_init 43 (ls) (st) σ Q else aX d iX2_init 24 (ls) (st) σ Q) := by rw [X_icmp kX2_init_21 (t := 43) (by decide)]; simp only [aCmp_ge]
theorem kX2_init_24 : aCode iX2_init 24 = some (.aload_n 0, 1) := by decide +kernel
theorem sX2_init_24 {d : Nat} {σ : aS} {Q : aQ} {x : Nat} {lt : aL} {st : List Value} : aX d iX2_init 24 (some (.ref x) :: lt) (st) σ Q ↔ aX d iX2_init 25 (some (.ref x) :: lt) (.ref x :: st) σ Q := X_aloadn kX2_init_24 rfl rfl
theorem kX2_init_25 : aCode iX2_init 25 = some (.getfield 11, 3) := by decide +kernel
theorem sX2_init_25 {d : Nat} {σ : aS} {Q : aQ} {a : Nat} {ls : aL} {st : List Value} : aX d iX2_init 25 (ls) (.ref a :: st) σ Q ↔ ∃ v, aFld σ a 2 0 = some v ∧ aX d iX2_init 28 (ls) (v :: st) σ Q := X_getf (w := 129) kX2_init_25 (by decide +kernel)
theorem kX2_init_28 : aCode iX2_init 28 = some (.iload_n 1, 1) := by decide +kernel
theorem sX2_init_28 {d : Nat} {σ : aS} {Q : aQ} {l0 : Option Value} {x : Int32} {lt : aL} {st : List Value} : aX d iX2_init 28 (l0 :: some (.int x) :: lt) (st) σ Q ↔ aX d iX2_init 29 (l0 :: some (.int x) :: lt) (.int x :: st) σ Q := X_iloadn kX2_init_28 rfl
theorem kX2_init_29 : aCode iX2_init 29 = some (.new 9, 3) := by decide +kernel
theorem sX2_init_29 {d : Nat} {σ : aS} {Q : aQ} {ls : aL} {st : List Value} : aX d iX2_init 29 (ls) (st) σ Q ↔ aX d iX2_init 32 (ls) (.ref σ.2.1 :: st) (anew σ (eO 5 [.null, .null, .null, .null, .int 0, .int 0, .int 0]) 7) Q := X_new (w := (126, 26, 8)) kX2_init_29 (by decide +kernel) (by decide +kernel) (by decide +kernel)
theorem kX2_init_32 : aCode iX2_init 32 = some (.dup, 1) := by decide +kernel
theorem sX2_init_32 {d : Nat} {σ : aS} {Q : aQ} {x : Nat} {ls : aL} {st : List Value} : aX d iX2_init 32 (ls) (.ref x :: st) σ Q ↔ aX d iX2_init 33 (ls) (.ref x :: .ref x :: st) σ Q := X_dup kX2_init_32 rfl
theorem sX2_init_32i {d : Nat} {σ : aS} {Q : aQ} {x : Int32} {ls : aL} {st : List Value} : aX d iX2_init 32 (ls) (.int x :: st) σ Q ↔ aX d iX2_init 33 (ls) (.int x :: .int x :: st) σ Q := X_dup kX2_init_32 rfl
theorem kX2_init_33 : aCode iX2_init 33 = some (.invokespecial 17, 3) := by decide +kernel
theorem sX2_init_33 {d : Nat} {σ : aS} {Q : aQ} {b : Nat} {v0 v1 v2 : Value} {ls : aL} : aX (d + 1) iX2_init 33 (ls) (.ref b :: v0 :: v1 :: v2 :: []) σ Q ↔ aIs σ b 5 ∧ aX d iX5_init 0 [some (.ref b), none] [] σ (fun r τ => aX (d + 1) iX2_init 36 (ls) (aret r (v0 :: v1 :: v2 :: [])) τ Q) := X_invi (N := 0) (As := []) (k := 2) (w := 128) kX2_init_33 (by decide +kernel) (by decide) (by decide +kernel) rfl rfl (by simp only [List.length_cons, List.length_nil]; omega) (by simp only [List.length_cons, List.length_nil]; omega) (by decide +kernel) rfl (Nat.le_of_ble_eq_true rfl)
theorem kX2_init_36 : aCode iX2_init 36 = some (.aastore, 1) := by decide +kernel
theorem sX2_init_36 {d : Nat} {σ : aS} {Q : aQ} {a v : Nat} {i : Int32} {j m ci : Nat} {f : Nat → Option Nat} {fs : List Value} {ls : aL} {st : List Value} (ha : σ.1 a = some (eQ j m f)) (hv : σ.1 v = some (eO ci fs)) (hi : vp_in i m) (hj : aQj ci = j ∧ aQc j = ci) : aX d iX2_init 36 (ls) (.ref v :: .int i :: .ref a :: st) σ Q ↔ aX d iX2_init 37 (ls) (st) (aput σ a (eQ j m (va_up f i.toNatClampNeg (some v)))) Q := X_aastore kX2_init_36 ha hv hi hj
theorem kX2_init_37 : aCode iX2_init 37 = some (.iinc 1 1, 3) := by decide +kernel
theorem sX2_init_37 {d : Nat} {σ : aS} {Q : aQ} {l0 : Option Value} {x : Int32} {lt : aL} {st : List Value} : aX d iX2_init 37 (l0 :: some (.int x) :: lt) (st) σ Q ↔ aX d iX2_init 40 (aclr l0 :: some (.int (x + nI 1)) :: lt) (st) σ Q := X_iinc kX2_init_37 rfl (by decide +kernel)
theorem kX2_init_40 : aCode iX2_init 40 = some (.goto (-25), 3) := by decide +kernel
theorem sX2_init_40 {d : Nat} {σ : aS} {Q : aQ} {ls : aL} {st : List Value} : aX d iX2_init 40 (ls) (st) σ Q ↔ aX d iX2_init 15 (ls) (st) σ Q := X_goto kX2_init_40 (by decide)
theorem kX2_init_43 : aCode iX2_init 43 = some (.return_, 1) := by decide +kernel
theorem sX2_init_43 {d : Nat} {σ : aS} {Q : aQ} {ls : aL} : aX d iX2_init 43 (ls) ([]) σ Q ↔ Q none σ := X_vret kX2_init_43 (by decide +kernel)
theorem kX2_stateAt_0 : aCode iX2_stateAt 0 = some (.aload_n 0, 1) := by decide +kernel
theorem sX2_stateAt_0 {d : Nat} {σ : aS} {Q : aQ} {x : Nat} {lt : aL} {st : List Value} : aX d iX2_stateAt 0 (some (.ref x) :: lt) (st) σ Q ↔ aX d iX2_stateAt 1 (some (.ref x) :: lt) (.ref x :: st) σ Q := X_aloadn kX2_stateAt_0 rfl rfl
theorem kX2_stateAt_1 : aCode iX2_stateAt 1 = some (.getfield 18, 3) := by decide +kernel
theorem sX2_stateAt_1 {d : Nat} {σ : aS} {Q : aQ} {a : Nat} {ls : aL} {st : List Value} : aX d iX2_stateAt 1 (ls) (.ref a :: st) σ Q ↔ ∃ v, aFld σ a 2 1 = some v ∧ aX d iX2_stateAt 4 (ls) (v :: st) σ Q := X_getf (w := 130) kX2_stateAt_1 (by decide +kernel)
theorem kX2_stateAt_4 : aCode iX2_stateAt 4 = some (.iload_n 1, 1) := by decide +kernel
theorem sX2_stateAt_4 {d : Nat} {σ : aS} {Q : aQ} {l0 : Option Value} {x : Int32} {lt : aL} {st : List Value} : aX d iX2_stateAt 4 (l0 :: some (.int x) :: lt) (st) σ Q ↔ aX d iX2_stateAt 5 (l0 :: some (.int x) :: lt) (.int x :: st) σ Q := X_iloadn kX2_stateAt_4 rfl
theorem kX2_stateAt_5 : aCode iX2_stateAt 5 = some (.iadd, 1) := by decide +kernel
theorem sX2_stateAt_5 {d : Nat} {σ : aS} {Q : aQ} {x y : Int32} {ls : aL} {st : List Value} : aX d iX2_stateAt 5 (ls) (.int y :: .int x :: st) σ Q ↔ aX d iX2_stateAt 6 (ls) (.int (x + y) :: st) σ Q := X_iadd kX2_stateAt_5
theorem kX2_stateAt_6 : aCode iX2_stateAt 6 = some (.istore_n 2, 1) := by decide +kernel
theorem sX2_stateAt_6 {d : Nat} {σ : aS} {Q : aQ} {l0 l1 lo : Option Value} {x : Int32} {lt : aL} {st : List Value} : aX d iX2_stateAt 6 (l0 :: l1 :: lo :: lt) (.int x :: st) σ Q ↔ aX d iX2_stateAt 7 (l0 :: aclr l1 :: some (.int x) :: lt) (st) σ Q := X_istoren kX2_stateAt_6 (by simp only [List.length_cons]; omega)
theorem kX2_stateAt_7 : aCode iX2_stateAt 7 = some (.iload_n 2, 1) := by decide +kernel
theorem sX2_stateAt_7 {d : Nat} {σ : aS} {Q : aQ} {l0 l1 : Option Value} {x : Int32} {lt : aL} {st : List Value} : aX d iX2_stateAt 7 (l0 :: l1 :: some (.int x) :: lt) (st) σ Q ↔ aX d iX2_stateAt 8 (l0 :: l1 :: some (.int x) :: lt) (.int x :: st) σ Q := X_iloadn kX2_stateAt_7 rfl
theorem kX2_stateAt_8 : aCode iX2_stateAt 8 = some (.aload_n 0, 1) := by decide +kernel
theorem sX2_stateAt_8 {d : Nat} {σ : aS} {Q : aQ} {x : Nat} {lt : aL} {st : List Value} : aX d iX2_stateAt 8 (some (.ref x) :: lt) (st) σ Q ↔ aX d iX2_stateAt 9 (some (.ref x) :: lt) (.ref x :: st) σ Q := X_aloadn kX2_stateAt_8 rfl rfl
theorem kX2_stateAt_9 : aCode iX2_stateAt 9 = some (.getfield 11, 3) := by decide +kernel
theorem sX2_stateAt_9 {d : Nat} {σ : aS} {Q : aQ} {a : Nat} {ls : aL} {st : List Value} : aX d iX2_stateAt 9 (ls) (.ref a :: st) σ Q ↔ ∃ v, aFld σ a 2 0 = some v ∧ aX d iX2_stateAt 12 (ls) (v :: st) σ Q := X_getf (w := 129) kX2_stateAt_9 (by decide +kernel)
theorem kX2_stateAt_12 : aCode iX2_stateAt 12 = some (.arraylength, 1) := by decide +kernel
theorem sX2_stateAt_12 {d : Nat} {σ : aS} {Q : aQ} {a : Nat} {ls : aL} {st : List Value} : aX d iX2_stateAt 12 (ls) (.ref a :: st) σ Q ↔ ∃ m, aLn σ a = some m ∧ aX d iX2_stateAt 13 (ls) (.int (nI m) :: st) σ Q := X_alen kX2_stateAt_12
theorem kX2_stateAt_13 : aCode iX2_stateAt 13 = some (.if_icmp .lt 11, 3) := by decide +kernel
theorem sX2_stateAt_13 {d : Nat} {σ : aS} {Q : aQ} {x y : Int32} {ls : aL} {st : List Value} : aX d iX2_stateAt 13 (ls) (.int y :: .int x :: st) σ Q ↔ (if x < y then aX d iX2_stateAt 24 (ls) (st) σ Q else aX d iX2_stateAt 16 (ls) (st) σ Q) := by rw [X_icmp kX2_stateAt_13 (t := 24) (by decide)]; simp only [aCmp_lt]
theorem kX2_stateAt_16 : aCode iX2_stateAt 16 = some (.iload_n 2, 1) := by decide +kernel
theorem sX2_stateAt_16 {d : Nat} {σ : aS} {Q : aQ} {l0 l1 : Option Value} {x : Int32} {lt : aL} {st : List Value} : aX d iX2_stateAt 16 (l0 :: l1 :: some (.int x) :: lt) (st) σ Q ↔ aX d iX2_stateAt 17 (l0 :: l1 :: some (.int x) :: lt) (.int x :: st) σ Q := X_iloadn kX2_stateAt_16 rfl
theorem kX2_stateAt_17 : aCode iX2_stateAt 17 = some (.aload_n 0, 1) := by decide +kernel
theorem sX2_stateAt_17 {d : Nat} {σ : aS} {Q : aQ} {x : Nat} {lt : aL} {st : List Value} : aX d iX2_stateAt 17 (some (.ref x) :: lt) (st) σ Q ↔ aX d iX2_stateAt 18 (some (.ref x) :: lt) (.ref x :: st) σ Q := X_aloadn kX2_stateAt_17 rfl rfl
theorem kX2_stateAt_18 : aCode iX2_stateAt 18 = some (.getfield 11, 3) := by decide +kernel
theorem sX2_stateAt_18 {d : Nat} {σ : aS} {Q : aQ} {a : Nat} {ls : aL} {st : List Value} : aX d iX2_stateAt 18 (ls) (.ref a :: st) σ Q ↔ ∃ v, aFld σ a 2 0 = some v ∧ aX d iX2_stateAt 21 (ls) (v :: st) σ Q := X_getf (w := 129) kX2_stateAt_18 (by decide +kernel)
theorem kX2_stateAt_21 : aCode iX2_stateAt 21 = some (.arraylength, 1) := by decide +kernel
theorem sX2_stateAt_21 {d : Nat} {σ : aS} {Q : aQ} {a : Nat} {ls : aL} {st : List Value} : aX d iX2_stateAt 21 (ls) (.ref a :: st) σ Q ↔ ∃ m, aLn σ a = some m ∧ aX d iX2_stateAt 22 (ls) (.int (nI m) :: st) σ Q := X_alen kX2_stateAt_21
theorem kX2_stateAt_22 : aCode iX2_stateAt 22 = some (.isub, 1) := by decide +kernel
theorem sX2_stateAt_22 {d : Nat} {σ : aS} {Q : aQ} {x y : Int32} {ls : aL} {st : List Value} : aX d iX2_stateAt 22 (ls) (.int y :: .int x :: st) σ Q ↔ aX d iX2_stateAt 23 (ls) (.int (x - y) :: st) σ Q := X_isub kX2_stateAt_22
theorem kX2_stateAt_23 : aCode iX2_stateAt 23 = some (.istore_n 2, 1) := by decide +kernel
theorem sX2_stateAt_23 {d : Nat} {σ : aS} {Q : aQ} {l0 l1 lo : Option Value} {x : Int32} {lt : aL} {st : List Value} : aX d iX2_stateAt 23 (l0 :: l1 :: lo :: lt) (.int x :: st) σ Q ↔ aX d iX2_stateAt 24 (l0 :: aclr l1 :: some (.int x) :: lt) (st) σ Q := X_istoren kX2_stateAt_23 (by simp only [List.length_cons]; omega)
theorem kX2_stateAt_24 : aCode iX2_stateAt 24 = some (.iload_n 2, 1) := by decide +kernel
theorem sX2_stateAt_24 {d : Nat} {σ : aS} {Q : aQ} {l0 l1 : Option Value} {x : Int32} {lt : aL} {st : List Value} : aX d iX2_stateAt 24 (l0 :: l1 :: some (.int x) :: lt) (st) σ Q ↔ aX d iX2_stateAt 25 (l0 :: l1 :: some (.int x) :: lt) (.int x :: st) σ Q := X_iloadn kX2_stateAt_24 rfl
theorem kX2_stateAt_25 : aCode iX2_stateAt 25 = some (.ifCond .lt 21, 3) := by decide +kernel
theorem sX2_stateAt_25 {d : Nat} {σ : aS} {Q : aQ} {x : Int32} {ls : aL} {st : List Value} : aX d iX2_stateAt 25 (ls) (.int x :: st) σ Q ↔ (if x < nI 0 then aX d iX2_stateAt 46 (ls) (st) σ Q else aX d iX2_stateAt 28 (ls) (st) σ Q) := by rw [X_if kX2_stateAt_25 (t := 46) (by decide)]; simp only [aCmp_lt]
theorem kX2_stateAt_28 : aCode iX2_stateAt 28 = some (.iload_n 2, 1) := by decide +kernel
theorem sX2_stateAt_28 {d : Nat} {σ : aS} {Q : aQ} {l0 l1 : Option Value} {x : Int32} {lt : aL} {st : List Value} : aX d iX2_stateAt 28 (l0 :: l1 :: some (.int x) :: lt) (st) σ Q ↔ aX d iX2_stateAt 29 (l0 :: l1 :: some (.int x) :: lt) (.int x :: st) σ Q := X_iloadn kX2_stateAt_28 rfl
theorem kX2_stateAt_29 : aCode iX2_stateAt 29 = some (.aload_n 0, 1) := by decide +kernel
theorem sX2_stateAt_29 {d : Nat} {σ : aS} {Q : aQ} {x : Nat} {lt : aL} {st : List Value} : aX d iX2_stateAt 29 (some (.ref x) :: lt) (st) σ Q ↔ aX d iX2_stateAt 30 (some (.ref x) :: lt) (.ref x :: st) σ Q := X_aloadn kX2_stateAt_29 rfl rfl
theorem kX2_stateAt_30 : aCode iX2_stateAt 30 = some (.getfield 11, 3) := by decide +kernel
theorem sX2_stateAt_30 {d : Nat} {σ : aS} {Q : aQ} {a : Nat} {ls : aL} {st : List Value} : aX d iX2_stateAt 30 (ls) (.ref a :: st) σ Q ↔ ∃ v, aFld σ a 2 0 = some v ∧ aX d iX2_stateAt 33 (ls) (v :: st) σ Q := X_getf (w := 129) kX2_stateAt_30 (by decide +kernel)
theorem kX2_stateAt_33 : aCode iX2_stateAt 33 = some (.arraylength, 1) := by decide +kernel
theorem sX2_stateAt_33 {d : Nat} {σ : aS} {Q : aQ} {a : Nat} {ls : aL} {st : List Value} : aX d iX2_stateAt 33 (ls) (.ref a :: st) σ Q ↔ ∃ m, aLn σ a = some m ∧ aX d iX2_stateAt 34 (ls) (.int (nI m) :: st) σ Q := X_alen kX2_stateAt_33
theorem kX2_stateAt_34 : aCode iX2_stateAt 34 = some (.if_icmp .ge 12, 3) := by decide +kernel
theorem sX2_stateAt_34 {d : Nat} {σ : aS} {Q : aQ} {x y : Int32} {ls : aL} {st : List Value} : aX d iX2_stateAt 34 (ls) (.int y :: .int x :: st) σ Q ↔ (if y ≤ x then aX d iX2_stateAt 46 (ls) (st) σ Q else aX d iX2_stateAt 37 (ls) (st) σ Q) := by rw [X_icmp kX2_stateAt_34 (t := 46) (by decide)]; simp only [aCmp_ge]
theorem kX2_stateAt_37 : aCode iX2_stateAt 37 = some (.aload_n 0, 1) := by decide +kernel
theorem sX2_stateAt_37 {d : Nat} {σ : aS} {Q : aQ} {x : Nat} {lt : aL} {st : List Value} : aX d iX2_stateAt 37 (some (.ref x) :: lt) (st) σ Q ↔ aX d iX2_stateAt 38 (some (.ref x) :: lt) (.ref x :: st) σ Q := X_aloadn kX2_stateAt_37 rfl rfl
theorem kX2_stateAt_38 : aCode iX2_stateAt 38 = some (.getfield 11, 3) := by decide +kernel
theorem sX2_stateAt_38 {d : Nat} {σ : aS} {Q : aQ} {a : Nat} {ls : aL} {st : List Value} : aX d iX2_stateAt 38 (ls) (.ref a :: st) σ Q ↔ ∃ v, aFld σ a 2 0 = some v ∧ aX d iX2_stateAt 41 (ls) (v :: st) σ Q := X_getf (w := 129) kX2_stateAt_38 (by decide +kernel)
theorem kX2_stateAt_41 : aCode iX2_stateAt 41 = some (.iload_n 2, 1) := by decide +kernel
theorem sX2_stateAt_41 {d : Nat} {σ : aS} {Q : aQ} {l0 l1 : Option Value} {x : Int32} {lt : aL} {st : List Value} : aX d iX2_stateAt 41 (l0 :: l1 :: some (.int x) :: lt) (st) σ Q ↔ aX d iX2_stateAt 42 (l0 :: l1 :: some (.int x) :: lt) (.int x :: st) σ Q := X_iloadn kX2_stateAt_41 rfl
theorem kX2_stateAt_42 : aCode iX2_stateAt 42 = some (.aaload, 1) := by decide +kernel
theorem sX2_stateAt_42 {d : Nat} {σ : aS} {Q : aQ} {a : Nat} {i : Int32} {ls : aL} {st : List Value} : aX d iX2_stateAt 42 (ls) (.int i :: .ref a :: st) σ Q ↔ ∃ x, aRefs σ a = some x ∧ vp_in i x.2.1 ∧ aX d iX2_stateAt 43 (ls) (va_rf (x.2.2 i.toNatClampNeg) :: st) σ Q := X_aaload kX2_stateAt_42
theorem kX2_stateAt_43 : aCode iX2_stateAt 43 = some (.goto 4, 3) := by decide +kernel
theorem sX2_stateAt_43 {d : Nat} {σ : aS} {Q : aQ} {ls : aL} {st : List Value} : aX d iX2_stateAt 43 (ls) (st) σ Q ↔ aX d iX2_stateAt 47 (ls) (st) σ Q := X_goto kX2_stateAt_43 (by decide)
theorem kX2_stateAt_46 : aCode iX2_stateAt 46 = some (.aconst_null, 1) := by decide +kernel
theorem sX2_stateAt_46 {d : Nat} {σ : aS} {Q : aQ} {ls : aL} {st : List Value} : aX d iX2_stateAt 46 (ls) (st) σ Q ↔ aX d iX2_stateAt 47 (ls) (.null :: st) σ Q := X_null kX2_stateAt_46
theorem kX2_stateAt_47 : aCode iX2_stateAt 47 = some (.areturn, 1) := by decide +kernel
theorem sX2_stateAt_47 {d : Nat} {σ : aS} {Q : aQ} {x : Nat} {ls : aL} : aX d iX2_stateAt 47 (ls) ([.ref x]) σ Q ↔ Q (some (.ref x)) σ := X_aret (nm := "DoodleAlbums$Table") kX2_stateAt_47 (by decide +kernel) rfl
theorem sX2_stateAt_47n {d : Nat} {σ : aS} {Q : aQ} {ls : aL} : aX d iX2_stateAt 47 (ls) ([.null]) σ Q ↔ Q (some .null) σ := X_aret (nm := "DoodleAlbums$Table") kX2_stateAt_47 (by decide +kernel) rfl
theorem kX2_prepare_0 : aCode iX2_prepare 0 = some (.aload_n 0, 1) := by decide +kernel
theorem sX2_prepare_0 {d : Nat} {σ : aS} {Q : aQ} {x : Nat} {lt : aL} {st : List Value} : aX d iX2_prepare 0 (some (.ref x) :: lt) (st) σ Q ↔ aX d iX2_prepare 1 (some (.ref x) :: lt) (.ref x :: st) σ Q := X_aloadn kX2_prepare_0 rfl rfl
theorem kX2_prepare_1 : aCode iX2_prepare 1 = some (.aload_n 0, 1) := by decide +kernel
theorem sX2_prepare_1 {d : Nat} {σ : aS} {Q : aQ} {x : Nat} {lt : aL} {st : List Value} : aX d iX2_prepare 1 (some (.ref x) :: lt) (st) σ Q ↔ aX d iX2_prepare 2 (some (.ref x) :: lt) (.ref x :: st) σ Q := X_aloadn kX2_prepare_1 rfl rfl
theorem kX2_prepare_2 : aCode iX2_prepare 2 = some (.getfield 22, 3) := by decide +kernel
theorem sX2_prepare_2 {d : Nat} {σ : aS} {Q : aQ} {a : Nat} {ls : aL} {st : List Value} : aX d iX2_prepare 2 (ls) (.ref a :: st) σ Q ↔ ∃ v, aFld σ a 2 2 = some v ∧ aX d iX2_prepare 5 (ls) (v :: st) σ Q := X_getf (w := 131) kX2_prepare_2 (by decide +kernel)
theorem kX2_prepare_5 : aCode iX2_prepare 5 = some (.invokevirtual 25, 3) := by decide +kernel
theorem sX2_prepare_5 {d : Nat} {σ : aS} {Q : aQ} {b : Nat} {p0 : Int32} {ls : aL} : aX (d + 1) iX2_prepare 5 (ls) (.int p0 :: .ref b :: []) σ Q ↔ aIs σ b 2 ∧ aX d iX2_stateAt 0 [some (.ref b), some (.int p0), none] [] σ (fun r τ => aX (d + 1) iX2_prepare 8 (ls) (aret r ([])) τ Q) := X_invv (N := 1) (As := [.int p0]) (w := 200) kX2_prepare_5 (by decide +kernel) (by decide +kernel) rfl rfl (by simp only [List.length_cons, List.length_nil]; omega) (by simp only [List.length_cons, List.length_nil]; omega) (by decide +kernel) rfl (Nat.le_of_ble_eq_true rfl)
theorem kX2_prepare_8 : aCode iX2_prepare 8 = some (.astore_n 2, 1) := by decide +kernel
theorem sX2_prepare_8 {d : Nat} {σ : aS} {Q : aQ} {l0 l1 lo : Option Value} {x : Nat} {lt : aL} {st : List Value} : aX d iX2_prepare 8 (l0 :: l1 :: lo :: lt) (.ref x :: st) σ Q ↔ aX d iX2_prepare 9 (l0 :: aclr l1 :: some (.ref x) :: lt) (st) σ Q := X_astoren kX2_prepare_8 (by simp only [List.length_cons]; omega) rfl
theorem sX2_prepare_8n {d : Nat} {σ : aS} {Q : aQ} {l0 l1 lo : Option Value} {lt : aL} {st : List Value} : aX d iX2_prepare 8 (l0 :: l1 :: lo :: lt) (.null :: st) σ Q ↔ aX d iX2_prepare 9 (l0 :: aclr l1 :: some (.null) :: lt) (st) σ Q := X_astoren kX2_prepare_8 (by simp only [List.length_cons]; omega) rfl
theorem kX2_prepare_9 : aCode iX2_prepare 9 = some (.aload_n 2, 1) := by decide +kernel
theorem sX2_prepare_9 {d : Nat} {σ : aS} {Q : aQ} {l0 l1 : Option Value} {x : Nat} {lt : aL} {st : List Value} : aX d iX2_prepare 9 (l0 :: l1 :: some (.ref x) :: lt) (st) σ Q ↔ aX d iX2_prepare 10 (l0 :: l1 :: some (.ref x) :: lt) (.ref x :: st) σ Q := X_aloadn kX2_prepare_9 rfl rfl
theorem sX2_prepare_9n {d : Nat} {σ : aS} {Q : aQ} {l0 l1 : Option Value} {lt : aL} {st : List Value} : aX d iX2_prepare 9 (l0 :: l1 :: some .null :: lt) (st) σ Q ↔ aX d iX2_prepare 10 (l0 :: l1 :: some .null :: lt) (.null :: st) σ Q := X_aloadn kX2_prepare_9 rfl rfl
theorem kX2_prepare_10 : aCode iX2_prepare 10 = some (.ifnull 8, 3) := by decide +kernel
theorem sX2_prepare_10 {d : Nat} {σ : aS} {Q : aQ} {x : Nat} {ls : aL} {st : List Value} : aX d iX2_prepare 10 (ls) (.ref x :: st) σ Q ↔ aX d iX2_prepare 13 (ls) (st) σ Q := X_ifnull kX2_prepare_10 (t := 18) (by decide)
theorem sX2_prepare_10n {d : Nat} {σ : aS} {Q : aQ} {ls : aL} {st : List Value} : aX d iX2_prepare 10 (ls) (.null :: st) σ Q ↔ aX d iX2_prepare 18 (ls) (st) σ Q := X_ifnullN kX2_prepare_10 (t := 18) (by decide)
theorem kX2_prepare_13 : aCode iX2_prepare 13 = some (.aload_n 2, 1) := by decide +kernel
theorem sX2_prepare_13 {d : Nat} {σ : aS} {Q : aQ} {l0 l1 : Option Value} {x : Nat} {lt : aL} {st : List Value} : aX d iX2_prepare 13 (l0 :: l1 :: some (.ref x) :: lt) (st) σ Q ↔ aX d iX2_prepare 14 (l0 :: l1 :: some (.ref x) :: lt) (.ref x :: st) σ Q := X_aloadn kX2_prepare_13 rfl rfl
theorem sX2_prepare_13n {d : Nat} {σ : aS} {Q : aQ} {l0 l1 : Option Value} {lt : aL} {st : List Value} : aX d iX2_prepare 13 (l0 :: l1 :: some .null :: lt) (st) σ Q ↔ aX d iX2_prepare 14 (l0 :: l1 :: some .null :: lt) (.null :: st) σ Q := X_aloadn kX2_prepare_13 rfl rfl
theorem kX2_prepare_14 : aCode iX2_prepare 14 = some (.aload_n 1, 1) := by decide +kernel
theorem sX2_prepare_14 {d : Nat} {σ : aS} {Q : aQ} {l0 : Option Value} {x : Nat} {lt : aL} {st : List Value} : aX d iX2_prepare 14 (l0 :: some (.ref x) :: lt) (st) σ Q ↔ aX d iX2_prepare 15 (l0 :: some (.ref x) :: lt) (.ref x :: st) σ Q := X_aloadn kX2_prepare_14 rfl rfl
theorem sX2_prepare_14n {d : Nat} {σ : aS} {Q : aQ} {l0 : Option Value} {lt : aL} {st : List Value} : aX d iX2_prepare 14 (l0 :: some .null :: lt) (st) σ Q ↔ aX d iX2_prepare 15 (l0 :: some .null :: lt) (.null :: st) σ Q := X_aloadn kX2_prepare_14 rfl rfl
theorem kX2_prepare_15 : aCode iX2_prepare 15 = some (.invokevirtual 29, 3) := by decide +kernel
theorem sX2_prepare_15 {d : Nat} {σ : aS} {Q : aQ} {b : Nat} {p0 : Nat} {ls : aL} : aX (d + 1) iX2_prepare 15 (ls) (.ref p0 :: .ref b :: []) σ Q ↔ aIs σ b 5 ∧ aX d iX5_copyFrom 0 [some (.ref b), some (.ref p0), none, none, none] [] σ (fun r τ => aX (d + 1) iX2_prepare 18 (ls) (aret r ([])) τ Q) := X_invv (N := 1) (As := [.ref p0]) (w := 204) kX2_prepare_15 (by decide +kernel) (by decide +kernel) rfl rfl (by simp only [List.length_cons, List.length_nil]; omega) (by simp only [List.length_cons, List.length_nil]; omega) (by decide +kernel) rfl (Nat.le_of_ble_eq_true rfl)
theorem kX2_prepare_18 : aCode iX2_prepare 18 = some (.return_, 1) := by decide +kernel
theorem sX2_prepare_18 {d : Nat} {σ : aS} {Q : aQ} {ls : aL} : aX d iX2_prepare 18 (ls) ([]) σ Q ↔ Q none σ := X_vret kX2_prepare_18 (by decide +kernel)
theorem kX2_recordUnlessError_0 : aCode iX2_recordUnlessError 0 = some (.iload_n 1, 1) := by decide +kernel
theorem sX2_recordUnlessError_0 {d : Nat} {σ : aS} {Q : aQ} {l0 : Option Value} {x : Int32} {lt : aL} {st : List Value} : aX d iX2_recordUnlessError 0 (l0 :: some (.int x) :: lt) (st) σ Q ↔ aX d iX2_recordUnlessError 1 (l0 :: some (.int x) :: lt) (.int x :: st) σ Q := X_iloadn kX2_recordUnlessError_0 rfl
theorem kX2_recordUnlessError_1 : aCode iX2_recordUnlessError 1 = some (.ifCond .lt 53, 3) := by decide +kernel
theorem sX2_recordUnlessError_1 {d : Nat} {σ : aS} {Q : aQ} {x : Int32} {ls : aL} {st : List Value} : aX d iX2_recordUnlessError 1 (ls) (.int x :: st) σ Q ↔ (if x < nI 0 then aX d iX2_recordUnlessError 54 (ls) (st) σ Q else aX d iX2_recordUnlessError 4 (ls) (st) σ Q) := by rw [X_if kX2_recordUnlessError_1 (t := 54) (by decide)]; simp only [aCmp_lt]
theorem kX2_recordUnlessError_4 : aCode iX2_recordUnlessError 4 = some (.aload_n 0, 1) := by decide +kernel
theorem sX2_recordUnlessError_4 {d : Nat} {σ : aS} {Q : aQ} {x : Nat} {lt : aL} {st : List Value} : aX d iX2_recordUnlessError 4 (some (.ref x) :: lt) (st) σ Q ↔ aX d iX2_recordUnlessError 5 (some (.ref x) :: lt) (.ref x :: st) σ Q := X_aloadn kX2_recordUnlessError_4 rfl rfl
theorem kX2_recordUnlessError_5 : aCode iX2_recordUnlessError 5 = some (.getfield 22, 3) := by decide +kernel
theorem sX2_recordUnlessError_5 {d : Nat} {σ : aS} {Q : aQ} {a : Nat} {ls : aL} {st : List Value} : aX d iX2_recordUnlessError 5 (ls) (.ref a :: st) σ Q ↔ ∃ v, aFld σ a 2 2 = some v ∧ aX d iX2_recordUnlessError 8 (ls) (v :: st) σ Q := X_getf (w := 131) kX2_recordUnlessError_5 (by decide +kernel)
theorem kX2_recordUnlessError_8 : aCode iX2_recordUnlessError 8 = some (.bipush 6, 2) := by decide +kernel
theorem sX2_recordUnlessError_8 {d : Nat} {σ : aS} {Q : aQ} {ls : aL} {st : List Value} : aX d iX2_recordUnlessError 8 (ls) (st) σ Q ↔ aX d iX2_recordUnlessError 10 (ls) (.int (nI 6) :: st) σ Q := X_bipush kX2_recordUnlessError_8 (by decide +kernel)
theorem kX2_recordUnlessError_10 : aCode iX2_recordUnlessError 10 = some (.if_icmp .ge 16, 3) := by decide +kernel
theorem sX2_recordUnlessError_10 {d : Nat} {σ : aS} {Q : aQ} {x y : Int32} {ls : aL} {st : List Value} : aX d iX2_recordUnlessError 10 (ls) (.int y :: .int x :: st) σ Q ↔ (if y ≤ x then aX d iX2_recordUnlessError 26 (ls) (st) σ Q else aX d iX2_recordUnlessError 13 (ls) (st) σ Q) := by rw [X_icmp kX2_recordUnlessError_10 (t := 26) (by decide)]; simp only [aCmp_ge]
theorem kX2_recordUnlessError_13 : aCode iX2_recordUnlessError 13 = some (.aload_n 0, 1) := by decide +kernel
theorem sX2_recordUnlessError_13 {d : Nat} {σ : aS} {Q : aQ} {x : Nat} {lt : aL} {st : List Value} : aX d iX2_recordUnlessError 13 (some (.ref x) :: lt) (st) σ Q ↔ aX d iX2_recordUnlessError 14 (some (.ref x) :: lt) (.ref x :: st) σ Q := X_aloadn kX2_recordUnlessError_13 rfl rfl
theorem kX2_recordUnlessError_14 : aCode iX2_recordUnlessError 14 = some (.dup, 1) := by decide +kernel
theorem sX2_recordUnlessError_14 {d : Nat} {σ : aS} {Q : aQ} {x : Nat} {ls : aL} {st : List Value} : aX d iX2_recordUnlessError 14 (ls) (.ref x :: st) σ Q ↔ aX d iX2_recordUnlessError 15 (ls) (.ref x :: .ref x :: st) σ Q := X_dup kX2_recordUnlessError_14 rfl
theorem sX2_recordUnlessError_14i {d : Nat} {σ : aS} {Q : aQ} {x : Int32} {ls : aL} {st : List Value} : aX d iX2_recordUnlessError 14 (ls) (.int x :: st) σ Q ↔ aX d iX2_recordUnlessError 15 (ls) (.int x :: .int x :: st) σ Q := X_dup kX2_recordUnlessError_14 rfl
theorem kX2_recordUnlessError_15 : aCode iX2_recordUnlessError 15 = some (.getfield 22, 3) := by decide +kernel
theorem sX2_recordUnlessError_15 {d : Nat} {σ : aS} {Q : aQ} {a : Nat} {ls : aL} {st : List Value} : aX d iX2_recordUnlessError 15 (ls) (.ref a :: st) σ Q ↔ ∃ v, aFld σ a 2 2 = some v ∧ aX d iX2_recordUnlessError 18 (ls) (v :: st) σ Q := X_getf (w := 131) kX2_recordUnlessError_15 (by decide +kernel)
theorem kX2_recordUnlessError_18 : aCode iX2_recordUnlessError 18 = some (.iconst 1, 1) := by decide +kernel
theorem sX2_recordUnlessError_18 {d : Nat} {σ : aS} {Q : aQ} {ls : aL} {st : List Value} : aX d iX2_recordUnlessError 18 (ls) (st) σ Q ↔ aX d iX2_recordUnlessError 19 (ls) (.int (nI 1) :: st) σ Q := X_iconst kX2_recordUnlessError_18 (by decide +kernel)
theorem kX2_recordUnlessError_19 : aCode iX2_recordUnlessError 19 = some (.iadd, 1) := by decide +kernel
theorem sX2_recordUnlessError_19 {d : Nat} {σ : aS} {Q : aQ} {x y : Int32} {ls : aL} {st : List Value} : aX d iX2_recordUnlessError 19 (ls) (.int y :: .int x :: st) σ Q ↔ aX d iX2_recordUnlessError 20 (ls) (.int (x + y) :: st) σ Q := X_iadd kX2_recordUnlessError_19
theorem kX2_recordUnlessError_20 : aCode iX2_recordUnlessError 20 = some (.putfield 22, 3) := by decide +kernel
theorem sX2_recordUnlessError_20 {d : Nat} {σ : aS} {Q : aQ} {x : Int32} {a : Nat} {ls : aL} {st : List Value} : aX d iX2_recordUnlessError 20 (ls) (.int x :: .ref a :: st) σ Q ↔ ∃ fs, aFds σ a 2 = some fs ∧ 2 < fs.length ∧ aX d iX2_recordUnlessError 23 (ls) (st) (aput σ a (eO 2 (fs.set 2 (.int x)))) Q := X_putf (w := 131) kX2_recordUnlessError_20 (by decide +kernel) (aFit_I (by decide +kernel)) (by decide +kernel)
theorem kX2_recordUnlessError_23 : aCode iX2_recordUnlessError 23 = some (.goto 31, 3) := by decide +kernel
theorem sX2_recordUnlessError_23 {d : Nat} {σ : aS} {Q : aQ} {ls : aL} {st : List Value} : aX d iX2_recordUnlessError 23 (ls) (st) σ Q ↔ aX d iX2_recordUnlessError 54 (ls) (st) σ Q := X_goto kX2_recordUnlessError_23 (by decide)
theorem kX2_recordUnlessError_26 : aCode iX2_recordUnlessError 26 = some (.aload_n 0, 1) := by decide +kernel
theorem sX2_recordUnlessError_26 {d : Nat} {σ : aS} {Q : aQ} {x : Nat} {lt : aL} {st : List Value} : aX d iX2_recordUnlessError 26 (some (.ref x) :: lt) (st) σ Q ↔ aX d iX2_recordUnlessError 27 (some (.ref x) :: lt) (.ref x :: st) σ Q := X_aloadn kX2_recordUnlessError_26 rfl rfl
theorem kX2_recordUnlessError_27 : aCode iX2_recordUnlessError 27 = some (.aload_n 0, 1) := by decide +kernel
theorem sX2_recordUnlessError_27 {d : Nat} {σ : aS} {Q : aQ} {x : Nat} {lt : aL} {st : List Value} : aX d iX2_recordUnlessError 27 (some (.ref x) :: lt) (st) σ Q ↔ aX d iX2_recordUnlessError 28 (some (.ref x) :: lt) (.ref x :: st) σ Q := X_aloadn kX2_recordUnlessError_27 rfl rfl
theorem kX2_recordUnlessError_28 : aCode iX2_recordUnlessError 28 = some (.getfield 18, 3) := by decide +kernel
theorem sX2_recordUnlessError_28 {d : Nat} {σ : aS} {Q : aQ} {a : Nat} {ls : aL} {st : List Value} : aX d iX2_recordUnlessError 28 (ls) (.ref a :: st) σ Q ↔ ∃ v, aFld σ a 2 1 = some v ∧ aX d iX2_recordUnlessError 31 (ls) (v :: st) σ Q := X_getf (w := 130) kX2_recordUnlessError_28 (by decide +kernel)
theorem kX2_recordUnlessError_31 : aCode iX2_recordUnlessError 31 = some (.iconst 1, 1) := by decide +kernel
theorem sX2_recordUnlessError_31 {d : Nat} {σ : aS} {Q : aQ} {ls : aL} {st : List Value} : aX d iX2_recordUnlessError 31 (ls) (st) σ Q ↔ aX d iX2_recordUnlessError 32 (ls) (.int (nI 1) :: st) σ Q := X_iconst kX2_recordUnlessError_31 (by decide +kernel)
theorem kX2_recordUnlessError_32 : aCode iX2_recordUnlessError 32 = some (.iadd, 1) := by decide +kernel
theorem sX2_recordUnlessError_32 {d : Nat} {σ : aS} {Q : aQ} {x y : Int32} {ls : aL} {st : List Value} : aX d iX2_recordUnlessError 32 (ls) (.int y :: .int x :: st) σ Q ↔ aX d iX2_recordUnlessError 33 (ls) (.int (x + y) :: st) σ Q := X_iadd kX2_recordUnlessError_32
theorem kX2_recordUnlessError_33 : aCode iX2_recordUnlessError 33 = some (.aload_n 0, 1) := by decide +kernel
theorem sX2_recordUnlessError_33 {d : Nat} {σ : aS} {Q : aQ} {x : Nat} {lt : aL} {st : List Value} : aX d iX2_recordUnlessError 33 (some (.ref x) :: lt) (st) σ Q ↔ aX d iX2_recordUnlessError 34 (some (.ref x) :: lt) (.ref x :: st) σ Q := X_aloadn kX2_recordUnlessError_33 rfl rfl
theorem kX2_recordUnlessError_34 : aCode iX2_recordUnlessError 34 = some (.getfield 11, 3) := by decide +kernel
theorem sX2_recordUnlessError_34 {d : Nat} {σ : aS} {Q : aQ} {a : Nat} {ls : aL} {st : List Value} : aX d iX2_recordUnlessError 34 (ls) (.ref a :: st) σ Q ↔ ∃ v, aFld σ a 2 0 = some v ∧ aX d iX2_recordUnlessError 37 (ls) (v :: st) σ Q := X_getf (w := 129) kX2_recordUnlessError_34 (by decide +kernel)
theorem kX2_recordUnlessError_37 : aCode iX2_recordUnlessError 37 = some (.arraylength, 1) := by decide +kernel
theorem sX2_recordUnlessError_37 {d : Nat} {σ : aS} {Q : aQ} {a : Nat} {ls : aL} {st : List Value} : aX d iX2_recordUnlessError 37 (ls) (.ref a :: st) σ Q ↔ ∃ m, aLn σ a = some m ∧ aX d iX2_recordUnlessError 38 (ls) (.int (nI m) :: st) σ Q := X_alen kX2_recordUnlessError_37
theorem kX2_recordUnlessError_38 : aCode iX2_recordUnlessError 38 = some (.if_icmp .ge 12, 3) := by decide +kernel
theorem sX2_recordUnlessError_38 {d : Nat} {σ : aS} {Q : aQ} {x y : Int32} {ls : aL} {st : List Value} : aX d iX2_recordUnlessError 38 (ls) (.int y :: .int x :: st) σ Q ↔ (if y ≤ x then aX d iX2_recordUnlessError 50 (ls) (st) σ Q else aX d iX2_recordUnlessError 41 (ls) (st) σ Q) := by rw [X_icmp kX2_recordUnlessError_38 (t := 50) (by decide)]; simp only [aCmp_ge]
theorem kX2_recordUnlessError_41 : aCode iX2_recordUnlessError 41 = some (.aload_n 0, 1) := by decide +kernel
theorem sX2_recordUnlessError_41 {d : Nat} {σ : aS} {Q : aQ} {x : Nat} {lt : aL} {st : List Value} : aX d iX2_recordUnlessError 41 (some (.ref x) :: lt) (st) σ Q ↔ aX d iX2_recordUnlessError 42 (some (.ref x) :: lt) (.ref x :: st) σ Q := X_aloadn kX2_recordUnlessError_41 rfl rfl
theorem kX2_recordUnlessError_42 : aCode iX2_recordUnlessError 42 = some (.getfield 18, 3) := by decide +kernel
theorem sX2_recordUnlessError_42 {d : Nat} {σ : aS} {Q : aQ} {a : Nat} {ls : aL} {st : List Value} : aX d iX2_recordUnlessError 42 (ls) (.ref a :: st) σ Q ↔ ∃ v, aFld σ a 2 1 = some v ∧ aX d iX2_recordUnlessError 45 (ls) (v :: st) σ Q := X_getf (w := 130) kX2_recordUnlessError_42 (by decide +kernel)
theorem kX2_recordUnlessError_45 : aCode iX2_recordUnlessError 45 = some (.iconst 1, 1) := by decide +kernel
theorem sX2_recordUnlessError_45 {d : Nat} {σ : aS} {Q : aQ} {ls : aL} {st : List Value} : aX d iX2_recordUnlessError 45 (ls) (st) σ Q ↔ aX d iX2_recordUnlessError 46 (ls) (.int (nI 1) :: st) σ Q := X_iconst kX2_recordUnlessError_45 (by decide +kernel)
theorem kX2_recordUnlessError_46 : aCode iX2_recordUnlessError 46 = some (.iadd, 1) := by decide +kernel
theorem sX2_recordUnlessError_46 {d : Nat} {σ : aS} {Q : aQ} {x y : Int32} {ls : aL} {st : List Value} : aX d iX2_recordUnlessError 46 (ls) (.int y :: .int x :: st) σ Q ↔ aX d iX2_recordUnlessError 47 (ls) (.int (x + y) :: st) σ Q := X_iadd kX2_recordUnlessError_46
theorem kX2_recordUnlessError_47 : aCode iX2_recordUnlessError 47 = some (.goto 4, 3) := by decide +kernel
theorem sX2_recordUnlessError_47 {d : Nat} {σ : aS} {Q : aQ} {ls : aL} {st : List Value} : aX d iX2_recordUnlessError 47 (ls) (st) σ Q ↔ aX d iX2_recordUnlessError 51 (ls) (st) σ Q := X_goto kX2_recordUnlessError_47 (by decide)
theorem kX2_recordUnlessError_50 : aCode iX2_recordUnlessError 50 = some (.iconst 0, 1) := by decide +kernel
theorem sX2_recordUnlessError_50 {d : Nat} {σ : aS} {Q : aQ} {ls : aL} {st : List Value} : aX d iX2_recordUnlessError 50 (ls) (st) σ Q ↔ aX d iX2_recordUnlessError 51 (ls) (.int (nI 0) :: st) σ Q := X_iconst kX2_recordUnlessError_50 (by decide +kernel)
theorem kX2_recordUnlessError_51 : aCode iX2_recordUnlessError 51 = some (.putfield 18, 3) := by decide +kernel
theorem sX2_recordUnlessError_51 {d : Nat} {σ : aS} {Q : aQ} {x : Int32} {a : Nat} {ls : aL} {st : List Value} : aX d iX2_recordUnlessError 51 (ls) (.int x :: .ref a :: st) σ Q ↔ ∃ fs, aFds σ a 2 = some fs ∧ 1 < fs.length ∧ aX d iX2_recordUnlessError 54 (ls) (st) (aput σ a (eO 2 (fs.set 1 (.int x)))) Q := X_putf (w := 130) kX2_recordUnlessError_51 (by decide +kernel) (aFit_I (by decide +kernel)) (by decide +kernel)
theorem kX2_recordUnlessError_54 : aCode iX2_recordUnlessError 54 = some (.iload_n 1, 1) := by decide +kernel
theorem sX2_recordUnlessError_54 {d : Nat} {σ : aS} {Q : aQ} {l0 : Option Value} {x : Int32} {lt : aL} {st : List Value} : aX d iX2_recordUnlessError 54 (l0 :: some (.int x) :: lt) (st) σ Q ↔ aX d iX2_recordUnlessError 55 (l0 :: some (.int x) :: lt) (.int x :: st) σ Q := X_iloadn kX2_recordUnlessError_54 rfl
theorem kX2_recordUnlessError_55 : aCode iX2_recordUnlessError 55 = some (.ireturn, 1) := by decide +kernel
theorem sX2_recordUnlessError_55 {d : Nat} {σ : aS} {Q : aQ} {v : Int32} {ls : aL} : aX d iX2_recordUnlessError 55 (ls) ([.int v]) σ Q ↔ Q (some (.int v)) σ := X_iret kX2_recordUnlessError_55 (by decide +kernel)
theorem kX3_init_0 : aCode iX3_init 0 = some (.aload_n 0, 1) := by decide +kernel
theorem sX3_init_0 {d : Nat} {σ : aS} {Q : aQ} {x : Nat} {lt : aL} {st : List Value} : aX d iX3_init 0 (some (.ref x) :: lt) (st) σ Q ↔ aX d iX3_init 1 (some (.ref x) :: lt) (.ref x :: st) σ Q := X_aloadn kX3_init_0 rfl rfl
theorem kX3_init_1 : aCode iX3_init 1 = some (.invokespecial 3, 3) := by decide +kernel
theorem sX3_init_1 {d : Nat} {σ : aS} {Q : aQ} {b : Nat} {ls : aL} : aX d iX3_init 1 (ls) (.ref b :: []) σ Q ↔ aX d iX3_init 4 (ls) ([]) σ Q := X_obj (t := 999) (w := 147) kX3_init_1 (by decide +kernel) (by simp only [List.length_cons, List.length_nil]; omega)
theorem kX3_init_4 : aCode iX3_init 4 = some (.aload_n 0, 1) := by decide +kernel
theorem sX3_init_4 {d : Nat} {σ : aS} {Q : aQ} {x : Nat} {lt : aL} {st : List Value} : aX d iX3_init 4 (some (.ref x) :: lt) (st) σ Q ↔ aX d iX3_init 5 (some (.ref x) :: lt) (.ref x :: st) σ Q := X_aloadn kX3_init_4 rfl rfl
theorem kX3_init_5 : aCode iX3_init 5 = some (.bipush 80, 2) := by decide +kernel
theorem sX3_init_5 {d : Nat} {σ : aS} {Q : aQ} {ls : aL} {st : List Value} : aX d iX3_init 5 (ls) (st) σ Q ↔ aX d iX3_init 7 (ls) (.int (nI 80) :: st) σ Q := X_bipush kX3_init_5 (by decide +kernel)
theorem kX3_init_7 : aCode iX3_init 7 = some (.newarray .int, 2) := by decide +kernel
theorem sX3_init_7 {d : Nat} {σ : aS} {Q : aQ} {m : Nat} {ls : aL} {st : List Value} (hm : m ≤ 1000000) : aX d iX3_init 7 (ls) (.int (nI m) :: st) σ Q ↔ aX d iX3_init 9 (ls) (.ref σ.2.1 :: st) (anew σ (eI m (fun _ => 0)) m) Q := X_newa kX3_init_7 hm
theorem kX3_init_9 : aCode iX3_init 9 = some (.putfield 9, 3) := by decide +kernel
theorem sX3_init_9 {d : Nat} {σ : aS} {Q : aQ} {x : Nat} {a : Nat} {ls : aL} {st : List Value} : aX d iX3_init 9 (ls) (.ref x :: .ref a :: st) σ Q ↔ ∃ fs, aFds σ a 3 = some fs ∧ 0 < fs.length ∧ aX d iX3_init 12 (ls) (st) (aput σ a (eO 3 (fs.set 0 (.ref x)))) Q := X_putf (w := 148) kX3_init_9 (by decide +kernel) (aFit_R (by decide +kernel)) (by decide +kernel)
theorem kX3_init_12 : aCode iX3_init 12 = some (.return_, 1) := by decide +kernel
theorem sX3_init_12 {d : Nat} {σ : aS} {Q : aQ} {ls : aL} : aX d iX3_init 12 (ls) ([]) σ Q ↔ Q none σ := X_vret kX3_init_12 (by decide +kernel)
theorem kX4_init_0 : aCode iX4_init 0 = some (.aload_n 0, 1) := by decide +kernel
theorem sX4_init_0 {d : Nat} {σ : aS} {Q : aQ} {x : Nat} {lt : aL} {st : List Value} : aX d iX4_init 0 (some (.ref x) :: lt) (st) σ Q ↔ aX d iX4_init 1 (some (.ref x) :: lt) (.ref x :: st) σ Q := X_aloadn kX4_init_0 rfl rfl
theorem kX4_init_1 : aCode iX4_init 1 = some (.invokespecial 1, 3) := by decide +kernel
theorem sX4_init_1 {d : Nat} {σ : aS} {Q : aQ} {b : Nat} {ls : aL} : aX d iX4_init 1 (ls) (.ref b :: []) σ Q ↔ aX d iX4_init 4 (ls) ([]) σ Q := X_obj (t := 999) (w := 167) kX4_init_1 (by decide +kernel) (by simp only [List.length_cons, List.length_nil]; omega)
theorem kX4_init_4 : aCode iX4_init 4 = some (.aload_n 0, 1) := by decide +kernel
theorem sX4_init_4 {d : Nat} {σ : aS} {Q : aQ} {x : Nat} {lt : aL} {st : List Value} : aX d iX4_init 4 (some (.ref x) :: lt) (st) σ Q ↔ aX d iX4_init 5 (some (.ref x) :: lt) (.ref x :: st) σ Q := X_aloadn kX4_init_4 rfl rfl
theorem kX4_init_5 : aCode iX4_init 5 = some (.new 7, 3) := by decide +kernel
theorem sX4_init_5 {d : Nat} {σ : aS} {Q : aQ} {ls : aL} {st : List Value} : aX d iX4_init 5 (ls) (st) σ Q ↔ aX d iX4_init 8 (ls) (.ref σ.2.1 :: st) (anew σ (eO 5 [.null, .null, .null, .null, .int 0, .int 0, .int 0]) 7) Q := X_new (w := (168, 26, 8)) kX4_init_5 (by decide +kernel) (by decide +kernel) (by decide +kernel)
theorem kX4_init_8 : aCode iX4_init 8 = some (.dup, 1) := by decide +kernel
theorem sX4_init_8 {d : Nat} {σ : aS} {Q : aQ} {x : Nat} {ls : aL} {st : List Value} : aX d iX4_init 8 (ls) (.ref x :: st) σ Q ↔ aX d iX4_init 9 (ls) (.ref x :: .ref x :: st) σ Q := X_dup kX4_init_8 rfl
theorem sX4_init_8i {d : Nat} {σ : aS} {Q : aQ} {x : Int32} {ls : aL} {st : List Value} : aX d iX4_init 8 (ls) (.int x :: st) σ Q ↔ aX d iX4_init 9 (ls) (.int x :: .int x :: st) σ Q := X_dup kX4_init_8 rfl
theorem kX4_init_9 : aCode iX4_init 9 = some (.invokespecial 9, 3) := by decide +kernel
theorem sX4_init_9 {d : Nat} {σ : aS} {Q : aQ} {b : Nat} {v0 v1 : Value} {ls : aL} : aX (d + 1) iX4_init 9 (ls) (.ref b :: v0 :: v1 :: []) σ Q ↔ aIs σ b 5 ∧ aX d iX5_init 0 [some (.ref b), none] [] σ (fun r τ => aX (d + 1) iX4_init 12 (ls) (aret r (v0 :: v1 :: [])) τ Q) := X_invi (N := 0) (As := []) (k := 2) (w := 169) kX4_init_9 (by decide +kernel) (by decide) (by decide +kernel) rfl rfl (by simp only [List.length_cons, List.length_nil]; omega) (by simp only [List.length_cons, List.length_nil]; omega) (by decide +kernel) rfl (Nat.le_of_ble_eq_true rfl)
theorem kX4_init_12 : aCode iX4_init 12 = some (.putfield 10, 3) := by decide +kernel
theorem sX4_init_12 {d : Nat} {σ : aS} {Q : aQ} {x : Nat} {a : Nat} {ls : aL} {st : List Value} : aX d iX4_init 12 (ls) (.ref x :: .ref a :: st) σ Q ↔ ∃ fs, aFds σ a 4 = some fs ∧ 0 < fs.length ∧ aX d iX4_init 15 (ls) (st) (aput σ a (eO 4 (fs.set 0 (.ref x)))) Q := X_putf (w := 170) kX4_init_12 (by decide +kernel) (aFit_R (by decide +kernel)) (by decide +kernel)
theorem kX4_init_15 : aCode iX4_init 15 = some (.return_, 1) := by decide +kernel
theorem sX4_init_15 {d : Nat} {σ : aS} {Q : aQ} {ls : aL} : aX d iX4_init 15 (ls) ([]) σ Q ↔ Q none σ := X_vret kX4_init_15 (by decide +kernel)
