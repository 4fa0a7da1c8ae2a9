def iX0_init : Nat := 0
def iX0_start : Nat := 1
def iX0_addPage : Nat := 2
def iX0_addToldPage : Nat := 3
def iX0_copyFrom : Nat := 4
def iX0_goesRound : Nat := 5
def iX0_seatOf : Nat := 6
def iX0_markOf : Nat := 7
def iX0_wasTold : Nat := 8
def iX0_liesAt : Nat := 9
def iX0_endsWithWord : Nat := 10
def iX0_firstWord : Nat := 11
def iX0_lastWord : Nat := 12
def iX0_hasFoundWordAgain : Nat := 13
def iX0_wordChanges : Nat := 14
def iX0_seatSet : Nat := 15
def iX1_init : Nat := 16
def iX1_follow : Nat := 17
def iX1_followAll : Nat := 18
def iX1_differenceAtHome : Nat := 19
def iX1_playToEnd : Nat := 20
def iX2_init : Nat := 21
def iX2_stateAt : Nat := 22
def iX2_prepare : Nat := 23
def iX2_recordUnlessError : Nat := 24
def iX2_takeBack : Nat := 25
def iX3_init : Nat := 26
def iX3_append : Nat := 27
def iX3_signsIn : Nat := 28
def iX3_empty : Nat := 29
def iX3_findFault : Nat := 30
def iX3_startReading : Nat := 31
def iX3_readNext : Nat := 32
def iX3_readOrder : Nat := 33
def iX3_readSeat : Nat := 34
def iX3_readRounds : Nat := 35
def iX3_readNumber : Nat := 36
def iX3_take : Nat := 37
def iX3_digitHere : Nat := 38
def iX3_signHere : Nat := 39
def iX4_init : Nat := 40
def iX5_init : Nat := 41
def iX5_copyFrom : Nat := 42
def iX5_placeAt : Nat := 43
def iX5_albumAt : Nat := 44
def iX5_isTaken : Nat := 45
def iX5_changeFeatures : Nat := 46
def iX5_sitDown : Nat := 47
def iX5_standUp : Nat := 48
def iX5_beginAlbum : Nat := 49
def iX5_tellPage : Nat := 50
def iX5_makeRound : Nat := 51
def iX5_clearEnded : Nat := 52
def iX5_passOn : Nat := 53
def iX5_nextSeat : Nat := 54
def iX5_end : Nat := 55
def iX5_pageBy : Nat := 56
def iX5_mostLike : Nat := 57
def iX5_difference : Nat := 58
def iX5_albumGoingRoundOf : Nat := 59
def iX5_albumsThatAre : Nat := 60
def iX5_pagesBy : Nat := 61
def iX5_allPoints : Nat := 62
def iX6_init : Nat := 63
def iX6_teach : Nat := 64
def iX6_sit : Nat := 65
def iX6_leave : Nat := 66
def iX6_begin : Nat := 67
def iX6_tell : Nat := 68
def iX6_round : Nat := 69
def iX6_clear : Nat := 70
def iX6_of : Nat := 71
def iX6_page : Nat := 72
def iX6_seat : Nat := 73
def iX6_word : Nat := 74
def iX6_count : Nat := 75
def iX6_guess : Nat := 76
def iX6_foretold : Nat := 77
def iX6_bestWord : Nat := 78
def iX6_pointsThen : Nat := 79
def iX6_put : Nat := 80
def iX6_wipe : Nat := 81
def iX6_fault : Nat := 82
def iX6_carryOut : Nat := 83
def iX6_undo : Nat := 84
def iX6_save : Nat := 85
def iX6_restore : Nat := 86
def iX6_carryOutOrder : Nat := 87
def iX6_slotAt : Nat := 88
def iX6_isBelow : Nat := 89
def iX6_valueAt : Nat := 90
def iX6_setAt : Nat := 91
def iX6_addAt : Nat := 92
def iX6_copyRow : Nat := 93
def iX7_init : Nat := 94
def iX7_moves : Nat := 95
def iX7_within : Nat := 96
def iX7_record : Nat := 97
def iX7_bits : Nat := 98
def iX7_isWord : Nat := 99
def iX7_isSeat : Nat := 100
def iX7_isTaken : Nat := 101
def iX7_isAlbum : Nat := 102
def iX7_part : Nat := 103
def iX7_setPart : Nat := 104
def iX7_pagePart : Nat := 105
def iX7_putPage : Nat := 106
def iX7_lastPage : Nat := 107
def iX7_lastWordPage : Nat := 108
def iX7_lastWord : Nat := 109
def iX7_firstWord : Nat := 110
def iX7_seatsOf : Nat := 111
def iX7_goesRound : Nat := 112
def iX7_albumOf : Nat := 113
def iX7_withHow : Nat := 114
def iX7_guessed : Nat := 115
def iX7_nextSeat : Nat := 116
def iX7_scores : Nat := 117
def iX7_comesHome : Nat := 118
def iX7_goesTo : Nat := 119
def iX7_makesRound : Nat := 120
def iX7_teach : Nat := 121
def iX7_whyNotSat : Nat := 122
def iX7_sat : Nat := 123
def iX7_sit : Nat := 124
def iX7_whyNotLeft : Nat := 125
def iX7_left : Nat := 126
def iX7_leave : Nat := 127
def iX7_whyNotBegun : Nat := 128
def iX7_clearAlbum : Nat := 129
def iX7_begun : Nat := 130
def iX7_begin : Nat := 131
def iX7_whyNotTold : Nat := 132
def iX7_tells : Nat := 133
def iX7_tell : Nat := 134
def iX7_round : Nat := 135
def iX7_cleared : Nat := 136
def iX7_clear : Nat := 137
def iX7_changed : Nat := 138
def iX7_apart : Nat := 139
def iX7_of : Nat := 140
def iX7_page : Nat := 141
def iX7_pagesBy : Nat := 142
def iX7_seat : Nat := 143
def iX7_word : Nat := 144
def iX7_allPoints : Nat := 145
def iX7_count : Nat := 146
def iX7_guess : Nat := 147
def iX7_foretold : Nat := 148
def iX7_differsWith : Nat := 149
def iX7_bestWord : Nat := 150
def iX7_pointsThen : Nat := 151
def iX7_put : Nat := 152
def iX7_wipe : Nat := 153
def iX7_character : Nat := 154
def iX7_isNext : Nat := 155
def iX7_takeDigit : Nat := 156
def iX7_takeNumber : Nat := 157
def iX7_readsOrder : Nat := 158
def iX7_findFault : Nat := 159
def iX7_fault : Nat := 160
def iX7_whyNotDone : Nat := 161
def iX7_does : Nat := 162
def iX7_carryOut : Nat := 163
def iX7_undo : Nat := 164
def iX7_save : Nat := 165
def iX7_restore : Nat := 166
def iJ6_bitCount_0f7a4 : Nat := 167
def iL_law : Nat := 168
theorem kX0_init_0 : aCode iX0_init 0 = some (.aload_n 0, 1) := by decide +kernel
theorem sX0_init_0 {d : Nat} {σ : aS} {Q : aQ} {x : Nat} {lt : aL} {st : List Value} : aX d iX0_init 0 (some (.ref x) :: lt) (st) σ Q ↔ aX d iX0_init 1 (some (.ref x) :: lt) (.ref x :: st) σ Q := X_aloadn kX0_init_0 rfl rfl
theorem kX0_init_1 : aCode iX0_init 1 = some (.invokespecial 3, 3) := by decide +kernel
theorem sX0_init_1 {d : Nat} {σ : aS} {Q : aQ} {b : Nat} {ls : aL} : aX d iX0_init 1 (ls) (.ref b :: []) σ Q ↔ aX d iX0_init 4 (ls) ([]) σ Q := X_obj (t := 999) (w := 91) kX0_init_1 (by decide +kernel) (by simp only [List.length_cons, List.length_nil]; omega)
theorem kX0_init_4 : aCode iX0_init 4 = some (.aload_n 0, 1) := by decide +kernel
theorem sX0_init_4 {d : Nat} {σ : aS} {Q : aQ} {x : Nat} {lt : aL} {st : List Value} : aX d iX0_init 4 (some (.ref x) :: lt) (st) σ Q ↔ aX d iX0_init 5 (some (.ref x) :: lt) (.ref x :: st) σ Q := X_aloadn kX0_init_4 rfl rfl
theorem kX0_init_5 : aCode iX0_init 5 = some (.bipush 8, 2) := by decide +kernel
theorem sX0_init_5 {d : Nat} {σ : aS} {Q : aQ} {ls : aL} {st : List Value} : aX d iX0_init 5 (ls) (st) σ Q ↔ aX d iX0_init 7 (ls) (.int (nI 8) :: st) σ Q := X_bipush kX0_init_5 (by decide +kernel)
theorem kX0_init_7 : aCode iX0_init 7 = some (.newarray .int, 2) := by decide +kernel
theorem sX0_init_7 {d : Nat} {σ : aS} {Q : aQ} {m : Nat} {ls : aL} {st : List Value} (hm : m ≤ 1000000) : aX d iX0_init 7 (ls) (.int (nI m) :: st) σ Q ↔ aX d iX0_init 9 (ls) (.ref σ.2.1 :: st) (anew σ (eI m (fun _ => 0)) m) Q := X_newa kX0_init_7 hm
theorem kX0_init_9 : aCode iX0_init 9 = some (.putfield 9, 3) := by decide +kernel
theorem sX0_init_9 {d : Nat} {σ : aS} {Q : aQ} {x : Nat} {a : Nat} {ls : aL} {st : List Value} : aX d iX0_init 9 (ls) (.ref x :: .ref a :: st) σ Q ↔ ∃ fs, aFds σ a 0 = some fs ∧ 0 < fs.length ∧ aX d iX0_init 12 (ls) (st) (aput σ a (eO 0 (fs.set 0 (.ref x)))) Q := X_putf (w := 92) kX0_init_9 (by decide +kernel) (aFit_R (by decide +kernel)) (by decide +kernel)
theorem kX0_init_12 : aCode iX0_init 12 = some (.aload_n 0, 1) := by decide +kernel
theorem sX0_init_12 {d : Nat} {σ : aS} {Q : aQ} {x : Nat} {lt : aL} {st : List Value} : aX d iX0_init 12 (some (.ref x) :: lt) (st) σ Q ↔ aX d iX0_init 13 (some (.ref x) :: lt) (.ref x :: st) σ Q := X_aloadn kX0_init_12 rfl rfl
theorem kX0_init_13 : aCode iX0_init 13 = some (.bipush 8, 2) := by decide +kernel
theorem sX0_init_13 {d : Nat} {σ : aS} {Q : aQ} {ls : aL} {st : List Value} : aX d iX0_init 13 (ls) (st) σ Q ↔ aX d iX0_init 15 (ls) (.int (nI 8) :: st) σ Q := X_bipush kX0_init_13 (by decide +kernel)
theorem kX0_init_15 : aCode iX0_init 15 = some (.newarray .int, 2) := by decide +kernel
theorem sX0_init_15 {d : Nat} {σ : aS} {Q : aQ} {m : Nat} {ls : aL} {st : List Value} (hm : m ≤ 1000000) : aX d iX0_init 15 (ls) (.int (nI m) :: st) σ Q ↔ aX d iX0_init 17 (ls) (.ref σ.2.1 :: st) (anew σ (eI m (fun _ => 0)) m) Q := X_newa kX0_init_15 hm
theorem kX0_init_17 : aCode iX0_init 17 = some (.putfield 15, 3) := by decide +kernel
theorem sX0_init_17 {d : Nat} {σ : aS} {Q : aQ} {x : Nat} {a : Nat} {ls : aL} {st : List Value} : aX d iX0_init 17 (ls) (.ref x :: .ref a :: st) σ Q ↔ ∃ fs, aFds σ a 0 = some fs ∧ 1 < fs.length ∧ aX d iX0_init 20 (ls) (st) (aput σ a (eO 0 (fs.set 1 (.ref x)))) Q := X_putf (w := 93) kX0_init_17 (by decide +kernel) (aFit_R (by decide +kernel)) (by decide +kernel)
theorem kX0_init_20 : aCode iX0_init 20 = some (.aload_n 0, 1) := by decide +kernel
theorem sX0_init_20 {d : Nat} {σ : aS} {Q : aQ} {x : Nat} {lt : aL} {st : List Value} : aX d iX0_init 20 (some (.ref x) :: lt) (st) σ Q ↔ aX d iX0_init 21 (some (.ref x) :: lt) (.ref x :: st) σ Q := X_aloadn kX0_init_20 rfl rfl
theorem kX0_init_21 : aCode iX0_init 21 = some (.bipush (-6), 2) := by decide +kernel
theorem sX0_init_21 {d : Nat} {σ : aS} {Q : aQ} {ls : aL} {st : List Value} : aX d iX0_init 21 (ls) (st) σ Q ↔ aX d iX0_init 23 (ls) (.int ((-6)) :: st) σ Q := X_bipush kX0_init_21 (by decide +kernel)
theorem kX0_init_23 : aCode iX0_init 23 = some (.putfield 18, 3) := by decide +kernel
theorem sX0_init_23 {d : Nat} {σ : aS} {Q : aQ} {x : Int32} {a : Nat} {ls : aL} {st : List Value} : aX d iX0_init 23 (ls) (.int x :: .ref a :: st) σ Q ↔ ∃ fs, aFds σ a 0 = some fs ∧ 5 < fs.length ∧ aX d iX0_init 26 (ls) (st) (aput σ a (eO 0 (fs.set 5 (.int x)))) Q := X_putf (w := 103) kX0_init_23 (by decide +kernel) (aFit_I (by decide +kernel)) (by decide +kernel)
theorem kX0_init_26 : aCode iX0_init 26 = some (.return_, 1) := by decide +kernel
theorem sX0_init_26 {d : Nat} {σ : aS} {Q : aQ} {ls : aL} : aX d iX0_init 26 (ls) ([]) σ Q ↔ Q none σ := X_vret kX0_init_26 (by decide +kernel)
theorem kX0_start_0 : aCode iX0_start 0 = some (.aload_n 0, 1) := by decide +kernel
theorem sX0_start_0 {d : Nat} {σ : aS} {Q : aQ} {x : Nat} {lt : aL} {st : List Value} : aX d iX0_start 0 (some (.ref x) :: lt) (st) σ Q ↔ aX d iX0_start 1 (some (.ref x) :: lt) (.ref x :: st) σ Q := X_aloadn kX0_start_0 rfl rfl
theorem kX0_start_1 : aCode iX0_start 1 = some (.iload_n 1, 1) := by decide +kernel
theorem sX0_start_1 {d : Nat} {σ : aS} {Q : aQ} {l0 : Option Value} {x : Int32} {lt : aL} {st : List Value} : aX d iX0_start 1 (l0 :: some (.int x) :: lt) (st) σ Q ↔ aX d iX0_start 2 (l0 :: some (.int x) :: lt) (.int x :: st) σ Q := X_iloadn kX0_start_1 rfl
theorem kX0_start_2 : aCode iX0_start 2 = some (.putfield 22, 3) := by decide +kernel
theorem sX0_start_2 {d : Nat} {σ : aS} {Q : aQ} {x : Int32} {a : Nat} {ls : aL} {st : List Value} : aX d iX0_start 2 (ls) (.int x :: .ref a :: st) σ Q ↔ ∃ fs, aFds σ a 0 = some fs ∧ 2 < fs.length ∧ aX d iX0_start 5 (ls) (st) (aput σ a (eO 0 (fs.set 2 (.int x)))) Q := X_putf (w := 94) kX0_start_2 (by decide +kernel) (aFit_I (by decide +kernel)) (by decide +kernel)
theorem kX0_start_5 : aCode iX0_start 5 = some (.aload_n 0, 1) := by decide +kernel
theorem sX0_start_5 {d : Nat} {σ : aS} {Q : aQ} {x : Nat} {lt : aL} {st : List Value} : aX d iX0_start 5 (some (.ref x) :: lt) (st) σ Q ↔ aX d iX0_start 6 (some (.ref x) :: lt) (.ref x :: st) σ Q := X_aloadn kX0_start_5 rfl rfl
theorem kX0_start_6 : aCode iX0_start 6 = some (.iconst 0, 1) := by decide +kernel
theorem sX0_start_6 {d : Nat} {σ : aS} {Q : aQ} {ls : aL} {st : List Value} : aX d iX0_start 6 (ls) (st) σ Q ↔ aX d iX0_start 7 (ls) (.int (nI 0) :: st) σ Q := X_iconst kX0_start_6 (by decide +kernel)
theorem kX0_start_7 : aCode iX0_start 7 = some (.putfield 25, 3) := by decide +kernel
theorem sX0_start_7 {d : Nat} {σ : aS} {Q : aQ} {x : Int32} {a : Nat} {ls : aL} {st : List Value} : aX d iX0_start 7 (ls) (.int x :: .ref a :: st) σ Q ↔ ∃ fs, aFds σ a 0 = some fs ∧ 3 < fs.length ∧ aX d iX0_start 10 (ls) (st) (aput σ a (eO 0 (fs.set 3 (.int x)))) Q := X_putf (w := 97) kX0_start_7 (by decide +kernel) (aFit_I (by decide +kernel)) (by decide +kernel)
theorem kX0_start_10 : aCode iX0_start 10 = some (.aload_n 0, 1) := by decide +kernel
theorem sX0_start_10 {d : Nat} {σ : aS} {Q : aQ} {x : Nat} {lt : aL} {st : List Value} : aX d iX0_start 10 (some (.ref x) :: lt) (st) σ Q ↔ aX d iX0_start 11 (some (.ref x) :: lt) (.ref x :: st) σ Q := X_aloadn kX0_start_10 rfl rfl
theorem kX0_start_11 : aCode iX0_start 11 = some (.iconst 0, 1) := by decide +kernel
theorem sX0_start_11 {d : Nat} {σ : aS} {Q : aQ} {ls : aL} {st : List Value} : aX d iX0_start 11 (ls) (st) σ Q ↔ aX d iX0_start 12 (ls) (.int (nI 0) :: st) σ Q := X_iconst kX0_start_11 (by decide +kernel)
theorem kX0_start_12 : aCode iX0_start 12 = some (.putfield 28, 3) := by decide +kernel
theorem sX0_start_12 {d : Nat} {σ : aS} {Q : aQ} {x : Int32} {a : Nat} {ls : aL} {st : List Value} : aX d iX0_start 12 (ls) (.int x :: .ref a :: st) σ Q ↔ ∃ fs, aFds σ a 0 = some fs ∧ 4 < fs.length ∧ aX d iX0_start 15 (ls) (st) (aput σ a (eO 0 (fs.set 4 (.int x)))) Q := X_putf (w := 100) kX0_start_12 (by decide +kernel) (aFit_I (by decide +kernel)) (by decide +kernel)
theorem kX0_start_15 : aCode iX0_start 15 = some (.aload_n 0, 1) := by decide +kernel
theorem sX0_start_15 {d : Nat} {σ : aS} {Q : aQ} {x : Nat} {lt : aL} {st : List Value} : aX d iX0_start 15 (some (.ref x) :: lt) (st) σ Q ↔ aX d iX0_start 16 (some (.ref x) :: lt) (.ref x :: st) σ Q := X_aloadn kX0_start_15 rfl rfl
theorem kX0_start_16 : aCode iX0_start 16 = some (.bipush (-6), 2) := by decide +kernel
theorem sX0_start_16 {d : Nat} {σ : aS} {Q : aQ} {ls : aL} {st : List Value} : aX d iX0_start 16 (ls) (st) σ Q ↔ aX d iX0_start 18 (ls) (.int ((-6)) :: st) σ Q := X_bipush kX0_start_16 (by decide +kernel)
theorem kX0_start_18 : aCode iX0_start 18 = some (.putfield 18, 3) := by decide +kernel
theorem sX0_start_18 {d : Nat} {σ : aS} {Q : aQ} {x : Int32} {a : Nat} {ls : aL} {st : List Value} : aX d iX0_start 18 (ls) (.int x :: .ref a :: st) σ Q ↔ ∃ fs, aFds σ a 0 = some fs ∧ 5 < fs.length ∧ aX d iX0_start 21 (ls) (st) (aput σ a (eO 0 (fs.set 5 (.int x)))) Q := X_putf (w := 103) kX0_start_18 (by decide +kernel) (aFit_I (by decide +kernel)) (by decide +kernel)
theorem kX0_start_21 : aCode iX0_start 21 = some (.aload_n 0, 1) := by decide +kernel
theorem sX0_start_21 {d : Nat} {σ : aS} {Q : aQ} {x : Nat} {lt : aL} {st : List Value} : aX d iX0_start 21 (some (.ref x) :: lt) (st) σ Q ↔ aX d iX0_start 22 (some (.ref x) :: lt) (.ref x :: st) σ Q := X_aloadn kX0_start_21 rfl rfl
theorem kX0_start_22 : aCode iX0_start 22 = some (.iconst 0, 1) := by decide +kernel
theorem sX0_start_22 {d : Nat} {σ : aS} {Q : aQ} {ls : aL} {st : List Value} : aX d iX0_start 22 (ls) (st) σ Q ↔ aX d iX0_start 23 (ls) (.int (nI 0) :: st) σ Q := X_iconst kX0_start_22 (by decide +kernel)
theorem kX0_start_23 : aCode iX0_start 23 = some (.putfield 31, 3) := by decide +kernel
theorem sX0_start_23 {d : Nat} {σ : aS} {Q : aQ} {x : Int32} {a : Nat} {ls : aL} {st : List Value} : aX d iX0_start 23 (ls) (.int x :: .ref a :: st) σ Q ↔ ∃ fs, aFds σ a 0 = some fs ∧ 6 < fs.length ∧ aX d iX0_start 26 (ls) (st) (aput σ a (eO 0 (fs.set 6 (.int x)))) Q := X_putf (w := 106) kX0_start_23 (by decide +kernel) (aFit_I (by decide +kernel)) (by decide +kernel)
theorem kX0_start_26 : aCode iX0_start 26 = some (.aload_n 0, 1) := by decide +kernel
theorem sX0_start_26 {d : Nat} {σ : aS} {Q : aQ} {x : Nat} {lt : aL} {st : List Value} : aX d iX0_start 26 (some (.ref x) :: lt) (st) σ Q ↔ aX d iX0_start 27 (some (.ref x) :: lt) (.ref x :: st) σ Q := X_aloadn kX0_start_26 rfl rfl
theorem kX0_start_27 : aCode iX0_start 27 = some (.iload_n 1, 1) := by decide +kernel
theorem sX0_start_27 {d : Nat} {σ : aS} {Q : aQ} {l0 : Option Value} {x : Int32} {lt : aL} {st : List Value} : aX d iX0_start 27 (l0 :: some (.int x) :: lt) (st) σ Q ↔ aX d iX0_start 28 (l0 :: some (.int x) :: lt) (.int x :: st) σ Q := X_iloadn kX0_start_27 rfl
theorem kX0_start_28 : aCode iX0_start 28 = some (.iload_n 2, 1) := by decide +kernel
theorem sX0_start_28 {d : Nat} {σ : aS} {Q : aQ} {l0 l1 : Option Value} {x : Int32} {lt : aL} {st : List Value} : aX d iX0_start 28 (l0 :: l1 :: some (.int x) :: lt) (st) σ Q ↔ aX d iX0_start 29 (l0 :: l1 :: some (.int x) :: lt) (.int x :: st) σ Q := X_iloadn kX0_start_28 rfl
theorem kX0_start_29 : aCode iX0_start 29 = some (.invokevirtual 34, 3) := by decide +kernel
theorem sX0_start_29 {d : Nat} {σ : aS} {Q : aQ} {b : Nat} {p0 : Int32} {p1 : Int32} {ls : aL} : aX (d + 1) iX0_start 29 (ls) (.int p1 :: .int p0 :: .ref b :: []) σ Q ↔ aIs σ b 0 ∧ aX d iX0_addPage 0 [some (.ref b), some (.int p0), some (.int p1)] [] σ (fun r τ => aX (d + 1) iX0_start 32 (ls) (aret r ([])) τ Q) := X_invv (N := 2) (As := [.int p1, .int p0]) (w := 357) kX0_start_29 (by decide +kernel) (by decide +kernel) rfl rfl (by simp only [List.length_cons, List.length_nil]; omega) (by simp only [List.length_cons, List.length_nil]; omega) (by decide +kernel) rfl (Nat.le_of_ble_eq_true rfl)
theorem kX0_start_32 : aCode iX0_start 32 = some (.return_, 1) := by decide +kernel
theorem sX0_start_32 {d : Nat} {σ : aS} {Q : aQ} {ls : aL} : aX d iX0_start 32 (ls) ([]) σ Q ↔ Q none σ := X_vret kX0_start_32 (by decide +kernel)
theorem kX0_addPage_0 : aCode iX0_addPage 0 = some (.aload_n 0, 1) := by decide +kernel
theorem sX0_addPage_0 {d : Nat} {σ : aS} {Q : aQ} {x : Nat} {lt : aL} {st : List Value} : aX d iX0_addPage 0 (some (.ref x) :: lt) (st) σ Q ↔ aX d iX0_addPage 1 (some (.ref x) :: lt) (.ref x :: st) σ Q := X_aloadn kX0_addPage_0 rfl rfl
theorem kX0_addPage_1 : aCode iX0_addPage 1 = some (.getfield 25, 3) := by decide +kernel
theorem sX0_addPage_1 {d : Nat} {σ : aS} {Q : aQ} {a : Nat} {ls : aL} {st : List Value} : aX d iX0_addPage 1 (ls) (.ref a :: st) σ Q ↔ ∃ v, aFld σ a 0 3 = some v ∧ aX d iX0_addPage 4 (ls) (v :: st) σ Q := X_getf (w := 97) kX0_addPage_1 (by decide +kernel)
theorem kX0_addPage_4 : aCode iX0_addPage 4 = some (.bipush 8, 2) := by decide +kernel
theorem sX0_addPage_4 {d : Nat} {σ : aS} {Q : aQ} {ls : aL} {st : List Value} : aX d iX0_addPage 4 (ls) (st) σ Q ↔ aX d iX0_addPage 6 (ls) (.int (nI 8) :: st) σ Q := X_bipush kX0_addPage_4 (by decide +kernel)
theorem kX0_addPage_6 : aCode iX0_addPage 6 = some (.if_icmp .ge 37, 3) := by decide +kernel
theorem sX0_addPage_6 {d : Nat} {σ : aS} {Q : aQ} {x y : Int32} {ls : aL} {st : List Value} : aX d iX0_addPage 6 (ls) (.int y :: .int x :: st) σ Q ↔ (if y ≤ x then aX d iX0_addPage 43 (ls) (st) σ Q else aX d iX0_addPage 9 (ls) (st) σ Q) := by rw [X_icmp kX0_addPage_6 (t := 43) (by decide)]; simp only [aCmp_ge]
theorem kX0_addPage_9 : aCode iX0_addPage 9 = some (.aload_n 0, 1) := by decide +kernel
theorem sX0_addPage_9 {d : Nat} {σ : aS} {Q : aQ} {x : Nat} {lt : aL} {st : List Value} : aX d iX0_addPage 9 (some (.ref x) :: lt) (st) σ Q ↔ aX d iX0_addPage 10 (some (.ref x) :: lt) (.ref x :: st) σ Q := X_aloadn kX0_addPage_9 rfl rfl
theorem kX0_addPage_10 : aCode iX0_addPage 10 = some (.getfield 9, 3) := by decide +kernel
theorem sX0_addPage_10 {d : Nat} {σ : aS} {Q : aQ} {a : Nat} {ls : aL} {st : List Value} : aX d iX0_addPage 10 (ls) (.ref a :: st) σ Q ↔ ∃ v, aFld σ a 0 0 = some v ∧ aX d iX0_addPage 13 (ls) (v :: st) σ Q := X_getf (w := 92) kX0_addPage_10 (by decide +kernel)
theorem kX0_addPage_13 : aCode iX0_addPage 13 = some (.aload_n 0, 1) := by decide +kernel
theorem sX0_addPage_13 {d : Nat} {σ : aS} {Q : aQ} {x : Nat} {lt : aL} {st : List Value} : aX d iX0_addPage 13 (some (.ref x) :: lt) (st) σ Q ↔ aX d iX0_addPage 14 (some (.ref x) :: lt) (.ref x :: st) σ Q := X_aloadn kX0_addPage_13 rfl rfl
theorem kX0_addPage_14 : aCode iX0_addPage 14 = some (.getfield 25, 3) := by decide +kernel
theorem sX0_addPage_14 {d : Nat} {σ : aS} {Q : aQ} {a : Nat} {ls : aL} {st : List Value} : aX d iX0_addPage 14 (ls) (.ref a :: st) σ Q ↔ ∃ v, aFld σ a 0 3 = some v ∧ aX d iX0_addPage 17 (ls) (v :: st) σ Q := X_getf (w := 97) kX0_addPage_14 (by decide +kernel)
theorem kX0_addPage_17 : aCode iX0_addPage 17 = some (.iload_n 1, 1) := by decide +kernel
theorem sX0_addPage_17 {d : Nat} {σ : aS} {Q : aQ} {l0 : Option Value} {x : Int32} {lt : aL} {st : List Value} : aX d iX0_addPage 17 (l0 :: some (.int x) :: lt) (st) σ Q ↔ aX d iX0_addPage 18 (l0 :: some (.int x) :: lt) (.int x :: st) σ Q := X_iloadn kX0_addPage_17 rfl
theorem kX0_addPage_18 : aCode iX0_addPage 18 = some (.invokestatic 38, 3) := by decide +kernel
theorem sX0_addPage_18 {d : Nat} {σ : aS} {Q : aQ} {p0 : Nat} {p1 : Int32} {p2 : Int32} {ls : aL} : aX (d + 1) iX0_addPage 18 (ls) (.int p2 :: .int p1 :: .ref p0 :: []) σ Q ↔ aX d iX6_setAt 0 [some (.ref p0), some (.int p1), some (.int p2)] [] σ (fun r τ => aX (d + 1) iX0_addPage 21 (ls) (aret r ([])) τ Q) := X_invs (N := 3) (As := [.int p2, .int p1, .ref p0]) (k := 4) (w := 361) kX0_addPage_18 (by decide +kernel) (by decide) (by decide +kernel) rfl rfl (by simp only [List.length_cons, List.length_nil]; omega) (by simp only [List.length_cons, List.length_nil]; omega) rfl (Nat.le_of_ble_eq_true rfl)
theorem kX0_addPage_21 : aCode iX0_addPage 21 = some (.aload_n 0, 1) := by decide +kernel
theorem sX0_addPage_21 {d : Nat} {σ : aS} {Q : aQ} {x : Nat} {lt : aL} {st : List Value} : aX d iX0_addPage 21 (some (.ref x) :: lt) (st) σ Q ↔ aX d iX0_addPage 22 (some (.ref x) :: lt) (.ref x :: st) σ Q := X_aloadn kX0_addPage_21 rfl rfl
theorem kX0_addPage_22 : aCode iX0_addPage 22 = some (.getfield 15, 3) := by decide +kernel
theorem sX0_addPage_22 {d : Nat} {σ : aS} {Q : aQ} {a : Nat} {ls : aL} {st : List Value} : aX d iX0_addPage 22 (ls) (.ref a :: st) σ Q ↔ ∃ v, aFld σ a 0 1 = some v ∧ aX d iX0_addPage 25 (ls) (v :: st) σ Q := X_getf (w := 93) kX0_addPage_22 (by decide +kernel)
theorem kX0_addPage_25 : aCode iX0_addPage 25 = some (.aload_n 0, 1) := by decide +kernel
theorem sX0_addPage_25 {d : Nat} {σ : aS} {Q : aQ} {x : Nat} {lt : aL} {st : List Value} : aX d iX0_addPage 25 (some (.ref x) :: lt) (st) σ Q ↔ aX d iX0_addPage 26 (some (.ref x) :: lt) (.ref x :: st) σ Q := X_aloadn kX0_addPage_25 rfl rfl
theorem kX0_addPage_26 : aCode iX0_addPage 26 = some (.getfield 25, 3) := by decide +kernel
theorem sX0_addPage_26 {d : Nat} {σ : aS} {Q : aQ} {a : Nat} {ls : aL} {st : List Value} : aX d iX0_addPage 26 (ls) (.ref a :: st) σ Q ↔ ∃ v, aFld σ a 0 3 = some v ∧ aX d iX0_addPage 29 (ls) (v :: st) σ Q := X_getf (w := 97) kX0_addPage_26 (by decide +kernel)
theorem kX0_addPage_29 : aCode iX0_addPage 29 = some (.iload_n 2, 1) := by decide +kernel
theorem sX0_addPage_29 {d : Nat} {σ : aS} {Q : aQ} {l0 l1 : Option Value} {x : Int32} {lt : aL} {st : List Value} : aX d iX0_addPage 29 (l0 :: l1 :: some (.int x) :: lt) (st) σ Q ↔ aX d iX0_addPage 30 (l0 :: l1 :: some (.int x) :: lt) (.int x :: st) σ Q := X_iloadn kX0_addPage_29 rfl
theorem kX0_addPage_30 : aCode iX0_addPage 30 = some (.invokestatic 38, 3) := by decide +kernel
theorem sX0_addPage_30 {d : Nat} {σ : aS} {Q : aQ} {p0 : Nat} {p1 : Int32} {p2 : Int32} {ls : aL} : aX (d + 1) iX0_addPage 30 (ls) (.int p2 :: .int p1 :: .ref p0 :: []) σ Q ↔ aX d iX6_setAt 0 [some (.ref p0), some (.int p1), some (.int p2)] [] σ (fun r τ => aX (d + 1) iX0_addPage 33 (ls) (aret r ([])) τ Q) := X_invs (N := 3) (As := [.int p2, .int p1, .ref p0]) (k := 4) (w := 361) kX0_addPage_30 (by decide +kernel) (by decide) (by decide +kernel) rfl rfl (by simp only [List.length_cons, List.length_nil]; omega) (by simp only [List.length_cons, List.length_nil]; omega) rfl (Nat.le_of_ble_eq_true rfl)
theorem kX0_addPage_33 : aCode iX0_addPage 33 = some (.aload_n 0, 1) := by decide +kernel
theorem sX0_addPage_33 {d : Nat} {σ : aS} {Q : aQ} {x : Nat} {lt : aL} {st : List Value} : aX d iX0_addPage 33 (some (.ref x) :: lt) (st) σ Q ↔ aX d iX0_addPage 34 (some (.ref x) :: lt) (.ref x :: st) σ Q := X_aloadn kX0_addPage_33 rfl rfl
theorem kX0_addPage_34 : aCode iX0_addPage 34 = some (.dup, 1) := by decide +kernel
theorem sX0_addPage_34 {d : Nat} {σ : aS} {Q : aQ} {x : Nat} {ls : aL} {st : List Value} : aX d iX0_addPage 34 (ls) (.ref x :: st) σ Q ↔ aX d iX0_addPage 35 (ls) (.ref x :: .ref x :: st) σ Q := X_dup kX0_addPage_34 rfl
theorem sX0_addPage_34i {d : Nat} {σ : aS} {Q : aQ} {x : Int32} {ls : aL} {st : List Value} : aX d iX0_addPage 34 (ls) (.int x :: st) σ Q ↔ aX d iX0_addPage 35 (ls) (.int x :: .int x :: st) σ Q := X_dup kX0_addPage_34 rfl
theorem kX0_addPage_35 : aCode iX0_addPage 35 = some (.getfield 25, 3) := by decide +kernel
theorem sX0_addPage_35 {d : Nat} {σ : aS} {Q : aQ} {a : Nat} {ls : aL} {st : List Value} : aX d iX0_addPage 35 (ls) (.ref a :: st) σ Q ↔ ∃ v, aFld σ a 0 3 = some v ∧ aX d iX0_addPage 38 (ls) (v :: st) σ Q := X_getf (w := 97) kX0_addPage_35 (by decide +kernel)
theorem kX0_addPage_38 : aCode iX0_addPage 38 = some (.iconst 1, 1) := by decide +kernel
theorem sX0_addPage_38 {d : Nat} {σ : aS} {Q : aQ} {ls : aL} {st : List Value} : aX d iX0_addPage 38 (ls) (st) σ Q ↔ aX d iX0_addPage 39 (ls) (.int (nI 1) :: st) σ Q := X_iconst kX0_addPage_38 (by decide +kernel)
theorem kX0_addPage_39 : aCode iX0_addPage 39 = some (.iadd, 1) := by decide +kernel
theorem sX0_addPage_39 {d : Nat} {σ : aS} {Q : aQ} {x y : Int32} {ls : aL} {st : List Value} : aX d iX0_addPage 39 (ls) (.int y :: .int x :: st) σ Q ↔ aX d iX0_addPage 40 (ls) (.int (x + y) :: st) σ Q := X_iadd kX0_addPage_39
theorem kX0_addPage_40 : aCode iX0_addPage 40 = some (.putfield 25, 3) := by decide +kernel
theorem sX0_addPage_40 {d : Nat} {σ : aS} {Q : aQ} {x : Int32} {a : Nat} {ls : aL} {st : List Value} : aX d iX0_addPage 40 (ls) (.int x :: .ref a :: st) σ Q ↔ ∃ fs, aFds σ a 0 = some fs ∧ 3 < fs.length ∧ aX d iX0_addPage 43 (ls) (st) (aput σ a (eO 0 (fs.set 3 (.int x)))) Q := X_putf (w := 97) kX0_addPage_40 (by decide +kernel) (aFit_I (by decide +kernel)) (by decide +kernel)
theorem kX0_addPage_43 : aCode iX0_addPage 43 = some (.return_, 1) := by decide +kernel
theorem sX0_addPage_43 {d : Nat} {σ : aS} {Q : aQ} {ls : aL} : aX d iX0_addPage 43 (ls) ([]) σ Q ↔ Q none σ := X_vret kX0_addPage_43 (by decide +kernel)
theorem kX0_addToldPage_0 : aCode iX0_addToldPage 0 = some (.aload_n 0, 1) := by decide +kernel
theorem sX0_addToldPage_0 {d : Nat} {σ : aS} {Q : aQ} {x : Nat} {lt : aL} {st : List Value} : aX d iX0_addToldPage 0 (some (.ref x) :: lt) (st) σ Q ↔ aX d iX0_addToldPage 1 (some (.ref x) :: lt) (.ref x :: st) σ Q := X_aloadn kX0_addToldPage_0 rfl rfl
theorem kX0_addToldPage_1 : aCode iX0_addToldPage 1 = some (.dup, 1) := by decide +kernel
theorem sX0_addToldPage_1 {d : Nat} {σ : aS} {Q : aQ} {x : Nat} {ls : aL} {st : List Value} : aX d iX0_addToldPage 1 (ls) (.ref x :: st) σ Q ↔ aX d iX0_addToldPage 2 (ls) (.ref x :: .ref x :: st) σ Q := X_dup kX0_addToldPage_1 rfl
theorem sX0_addToldPage_1i {d : Nat} {σ : aS} {Q : aQ} {x : Int32} {ls : aL} {st : List Value} : aX d iX0_addToldPage 1 (ls) (.int x :: st) σ Q ↔ aX d iX0_addToldPage 2 (ls) (.int x :: .int x :: st) σ Q := X_dup kX0_addToldPage_1 rfl
theorem kX0_addToldPage_2 : aCode iX0_addToldPage 2 = some (.getfield 31, 3) := by decide +kernel
theorem sX0_addToldPage_2 {d : Nat} {σ : aS} {Q : aQ} {a : Nat} {ls : aL} {st : List Value} : aX d iX0_addToldPage 2 (ls) (.ref a :: st) σ Q ↔ ∃ v, aFld σ a 0 6 = some v ∧ aX d iX0_addToldPage 5 (ls) (v :: st) σ Q := X_getf (w := 106) kX0_addToldPage_2 (by decide +kernel)
theorem kX0_addToldPage_5 : aCode iX0_addToldPage 5 = some (.iconst 1, 1) := by decide +kernel
theorem sX0_addToldPage_5 {d : Nat} {σ : aS} {Q : aQ} {ls : aL} {st : List Value} : aX d iX0_addToldPage 5 (ls) (st) σ Q ↔ aX d iX0_addToldPage 6 (ls) (.int (nI 1) :: st) σ Q := X_iconst kX0_addToldPage_5 (by decide +kernel)
theorem kX0_addToldPage_6 : aCode iX0_addToldPage 6 = some (.aload_n 0, 1) := by decide +kernel
theorem sX0_addToldPage_6 {d : Nat} {σ : aS} {Q : aQ} {x : Nat} {lt : aL} {st : List Value} : aX d iX0_addToldPage 6 (some (.ref x) :: lt) (st) σ Q ↔ aX d iX0_addToldPage 7 (some (.ref x) :: lt) (.ref x :: st) σ Q := X_aloadn kX0_addToldPage_6 rfl rfl
theorem kX0_addToldPage_7 : aCode iX0_addToldPage 7 = some (.getfield 25, 3) := by decide +kernel
theorem sX0_addToldPage_7 {d : Nat} {σ : aS} {Q : aQ} {a : Nat} {ls : aL} {st : List Value} : aX d iX0_addToldPage 7 (ls) (.ref a :: st) σ Q ↔ ∃ v, aFld σ a 0 3 = some v ∧ aX d iX0_addToldPage 10 (ls) (v :: st) σ Q := X_getf (w := 97) kX0_addToldPage_7 (by decide +kernel)
theorem kX0_addToldPage_10 : aCode iX0_addToldPage 10 = some (.ishl, 1) := by decide +kernel
theorem sX0_addToldPage_10 {d : Nat} {σ : aS} {Q : aQ} {x y : Int32} {ls : aL} {st : List Value} : aX d iX0_addToldPage 10 (ls) (.int y :: .int x :: st) σ Q ↔ aX d iX0_addToldPage 11 (ls) (.int (x <<< (y &&& 31)) :: st) σ Q := X_ishl kX0_addToldPage_10
theorem kX0_addToldPage_11 : aCode iX0_addToldPage 11 = some (.ior, 1) := by decide +kernel
theorem sX0_addToldPage_11 {d : Nat} {σ : aS} {Q : aQ} {x y : Int32} {ls : aL} {st : List Value} : aX d iX0_addToldPage 11 (ls) (.int y :: .int x :: st) σ Q ↔ aX d iX0_addToldPage 12 (ls) (.int (x ||| y) :: st) σ Q := X_ior kX0_addToldPage_11
theorem kX0_addToldPage_12 : aCode iX0_addToldPage 12 = some (.putfield 31, 3) := by decide +kernel
theorem sX0_addToldPage_12 {d : Nat} {σ : aS} {Q : aQ} {x : Int32} {a : Nat} {ls : aL} {st : List Value} : aX d iX0_addToldPage 12 (ls) (.int x :: .ref a :: st) σ Q ↔ ∃ fs, aFds σ a 0 = some fs ∧ 6 < fs.length ∧ aX d iX0_addToldPage 15 (ls) (st) (aput σ a (eO 0 (fs.set 6 (.int x)))) Q := X_putf (w := 106) kX0_addToldPage_12 (by decide +kernel) (aFit_I (by decide +kernel)) (by decide +kernel)
theorem kX0_addToldPage_15 : aCode iX0_addToldPage 15 = some (.aload_n 0, 1) := by decide +kernel
theorem sX0_addToldPage_15 {d : Nat} {σ : aS} {Q : aQ} {x : Nat} {lt : aL} {st : List Value} : aX d iX0_addToldPage 15 (some (.ref x) :: lt) (st) σ Q ↔ aX d iX0_addToldPage 16 (some (.ref x) :: lt) (.ref x :: st) σ Q := X_aloadn kX0_addToldPage_15 rfl rfl
theorem kX0_addToldPage_16 : aCode iX0_addToldPage 16 = some (.iload_n 1, 1) := by decide +kernel
theorem sX0_addToldPage_16 {d : Nat} {σ : aS} {Q : aQ} {l0 : Option Value} {x : Int32} {lt : aL} {st : List Value} : aX d iX0_addToldPage 16 (l0 :: some (.int x) :: lt) (st) σ Q ↔ aX d iX0_addToldPage 17 (l0 :: some (.int x) :: lt) (.int x :: st) σ Q := X_iloadn kX0_addToldPage_16 rfl
theorem kX0_addToldPage_17 : aCode iX0_addToldPage 17 = some (.aload_n 0, 1) := by decide +kernel
theorem sX0_addToldPage_17 {d : Nat} {σ : aS} {Q : aQ} {x : Nat} {lt : aL} {st : List Value} : aX d iX0_addToldPage 17 (some (.ref x) :: lt) (st) σ Q ↔ aX d iX0_addToldPage 18 (some (.ref x) :: lt) (.ref x :: st) σ Q := X_aloadn kX0_addToldPage_17 rfl rfl
theorem kX0_addToldPage_18 : aCode iX0_addToldPage 18 = some (.getfield 18, 3) := by decide +kernel
theorem sX0_addToldPage_18 {d : Nat} {σ : aS} {Q : aQ} {a : Nat} {ls : aL} {st : List Value} : aX d iX0_addToldPage 18 (ls) (.ref a :: st) σ Q ↔ ∃ v, aFld σ a 0 5 = some v ∧ aX d iX0_addToldPage 21 (ls) (v :: st) σ Q := X_getf (w := 103) kX0_addToldPage_18 (by decide +kernel)
theorem kX0_addToldPage_21 : aCode iX0_addToldPage 21 = some (.invokevirtual 34, 3) := by decide +kernel
theorem sX0_addToldPage_21 {d : Nat} {σ : aS} {Q : aQ} {b : Nat} {p0 : Int32} {p1 : Int32} {ls : aL} : aX (d + 1) iX0_addToldPage 21 (ls) (.int p1 :: .int p0 :: .ref b :: []) σ Q ↔ aIs σ b 0 ∧ aX d iX0_addPage 0 [some (.ref b), some (.int p0), some (.int p1)] [] σ (fun r τ => aX (d + 1) iX0_addToldPage 24 (ls) (aret r ([])) τ Q) := X_invv (N := 2) (As := [.int p1, .int p0]) (w := 357) kX0_addToldPage_21 (by decide +kernel) (by decide +kernel) rfl rfl (by simp only [List.length_cons, List.length_nil]; omega) (by simp only [List.length_cons, List.length_nil]; omega) (by decide +kernel) rfl (Nat.le_of_ble_eq_true rfl)
theorem kX0_addToldPage_24 : aCode iX0_addToldPage 24 = some (.aload_n 0, 1) := by decide +kernel
theorem sX0_addToldPage_24 {d : Nat} {σ : aS} {Q : aQ} {x : Nat} {lt : aL} {st : List Value} : aX d iX0_addToldPage 24 (some (.ref x) :: lt) (st) σ Q ↔ aX d iX0_addToldPage 25 (some (.ref x) :: lt) (.ref x :: st) σ Q := X_aloadn kX0_addToldPage_24 rfl rfl
theorem kX0_addToldPage_25 : aCode iX0_addToldPage 25 = some (.bipush (-6), 2) := by decide +kernel
theorem sX0_addToldPage_25 {d : Nat} {σ : aS} {Q : aQ} {ls : aL} {st : List Value} : aX d iX0_addToldPage 25 (ls) (st) σ Q ↔ aX d iX0_addToldPage 27 (ls) (.int ((-6)) :: st) σ Q := X_bipush kX0_addToldPage_25 (by decide +kernel)
theorem kX0_addToldPage_27 : aCode iX0_addToldPage 27 = some (.putfield 18, 3) := by decide +kernel
theorem sX0_addToldPage_27 {d : Nat} {σ : aS} {Q : aQ} {x : Int32} {a : Nat} {ls : aL} {st : List Value} : aX d iX0_addToldPage 27 (ls) (.int x :: .ref a :: st) σ Q ↔ ∃ fs, aFds σ a 0 = some fs ∧ 5 < fs.length ∧ aX d iX0_addToldPage 30 (ls) (st) (aput σ a (eO 0 (fs.set 5 (.int x)))) Q := X_putf (w := 103) kX0_addToldPage_27 (by decide +kernel) (aFit_I (by decide +kernel)) (by decide +kernel)
theorem kX0_addToldPage_30 : aCode iX0_addToldPage 30 = some (.return_, 1) := by decide +kernel
theorem sX0_addToldPage_30 {d : Nat} {σ : aS} {Q : aQ} {ls : aL} : aX d iX0_addToldPage 30 (ls) ([]) σ Q ↔ Q none σ := X_vret kX0_addToldPage_30 (by decide +kernel)
theorem kX0_copyFrom_0 : aCode iX0_copyFrom 0 = some (.aload_n 1, 1) := by decide +kernel
theorem sX0_copyFrom_0 {d : Nat} {σ : aS} {Q : aQ} {l0 : Option Value} {x : Nat} {lt : aL} {st : List Value} : aX d iX0_copyFrom 0 (l0 :: some (.ref x) :: lt) (st) σ Q ↔ aX d iX0_copyFrom 1 (l0 :: some (.ref x) :: lt) (.ref x :: st) σ Q := X_aloadn kX0_copyFrom_0 rfl rfl
theorem sX0_copyFrom_0n {d : Nat} {σ : aS} {Q : aQ} {l0 : Option Value} {lt : aL} {st : List Value} : aX d iX0_copyFrom 0 (l0 :: some .null :: lt) (st) σ Q ↔ aX d iX0_copyFrom 1 (l0 :: some .null :: lt) (.null :: st) σ Q := X_aloadn kX0_copyFrom_0 rfl rfl
theorem kX0_copyFrom_1 : aCode iX0_copyFrom 1 = some (.getfield 9, 3) := by decide +kernel
theorem sX0_copyFrom_1 {d : Nat} {σ : aS} {Q : aQ} {a : Nat} {ls : aL} {st : List Value} : aX d iX0_copyFrom 1 (ls) (.ref a :: st) σ Q ↔ ∃ v, aFld σ a 0 0 = some v ∧ aX d iX0_copyFrom 4 (ls) (v :: st) σ Q := X_getf (w := 92) kX0_copyFrom_1 (by decide +kernel)
theorem kX0_copyFrom_4 : aCode iX0_copyFrom 4 = some (.aload_n 0, 1) := by decide +kernel
theorem sX0_copyFrom_4 {d : Nat} {σ : aS} {Q : aQ} {x : Nat} {lt : aL} {st : List Value} : aX d iX0_copyFrom 4 (some (.ref x) :: lt) (st) σ Q ↔ aX d iX0_copyFrom 5 (some (.ref x) :: lt) (.ref x :: st) σ Q := X_aloadn kX0_copyFrom_4 rfl rfl
theorem kX0_copyFrom_5 : aCode iX0_copyFrom 5 = some (.getfield 9, 3) := by decide +kernel
theorem sX0_copyFrom_5 {d : Nat} {σ : aS} {Q : aQ} {a : Nat} {ls : aL} {st : List Value} : aX d iX0_copyFrom 5 (ls) (.ref a :: st) σ Q ↔ ∃ v, aFld σ a 0 0 = some v ∧ aX d iX0_copyFrom 8 (ls) (v :: st) σ Q := X_getf (w := 92) kX0_copyFrom_5 (by decide +kernel)
theorem kX0_copyFrom_8 : aCode iX0_copyFrom 8 = some (.invokestatic 42, 3) := by decide +kernel
theorem sX0_copyFrom_8 {d : Nat} {σ : aS} {Q : aQ} {p0 : Nat} {p1 : Nat} {ls : aL} : aX (d + 1) iX0_copyFrom 8 (ls) (.ref p1 :: .ref p0 :: []) σ Q ↔ aX d iX6_copyRow 0 [some (.ref p0), some (.ref p1)] [] σ (fun r τ => aX (d + 1) iX0_copyFrom 11 (ls) (aret r ([])) τ Q) := X_invs (N := 2) (As := [.ref p1, .ref p0]) (k := 4) (w := 289) kX0_copyFrom_8 (by decide +kernel) (by decide) (by decide +kernel) rfl rfl (by simp only [List.length_cons, List.length_nil]; omega) (by simp only [List.length_cons, List.length_nil]; omega) rfl (Nat.le_of_ble_eq_true rfl)
theorem kX0_copyFrom_11 : aCode iX0_copyFrom 11 = some (.aload_n 1, 1) := by decide +kernel
theorem sX0_copyFrom_11 {d : Nat} {σ : aS} {Q : aQ} {l0 : Option Value} {x : Nat} {lt : aL} {st : List Value} : aX d iX0_copyFrom 11 (l0 :: some (.ref x) :: lt) (st) σ Q ↔ aX d iX0_copyFrom 12 (l0 :: some (.ref x) :: lt) (.ref x :: st) σ Q := X_aloadn kX0_copyFrom_11 rfl rfl
theorem sX0_copyFrom_11n {d : Nat} {σ : aS} {Q : aQ} {l0 : Option Value} {lt : aL} {st : List Value} : aX d iX0_copyFrom 11 (l0 :: some .null :: lt) (st) σ Q ↔ aX d iX0_copyFrom 12 (l0 :: some .null :: lt) (.null :: st) σ Q := X_aloadn kX0_copyFrom_11 rfl rfl
theorem kX0_copyFrom_12 : aCode iX0_copyFrom 12 = some (.getfield 15, 3) := by decide +kernel
theorem sX0_copyFrom_12 {d : Nat} {σ : aS} {Q : aQ} {a : Nat} {ls : aL} {st : List Value} : aX d iX0_copyFrom 12 (ls) (.ref a :: st) σ Q ↔ ∃ v, aFld σ a 0 1 = some v ∧ aX d iX0_copyFrom 15 (ls) (v :: st) σ Q := X_getf (w := 93) kX0_copyFrom_12 (by decide +kernel)
theorem kX0_copyFrom_15 : aCode iX0_copyFrom 15 = some (.aload_n 0, 1) := by decide +kernel
theorem sX0_copyFrom_15 {d : Nat} {σ : aS} {Q : aQ} {x : Nat} {lt : aL} {st : List Value} : aX d iX0_copyFrom 15 (some (.ref x) :: lt) (st) σ Q ↔ aX d iX0_copyFrom 16 (some (.ref x) :: lt) (.ref x :: st) σ Q := X_aloadn kX0_copyFrom_15 rfl rfl
theorem kX0_copyFrom_16 : aCode iX0_copyFrom 16 = some (.getfield 15, 3) := by decide +kernel
theorem sX0_copyFrom_16 {d : Nat} {σ : aS} {Q : aQ} {a : Nat} {ls : aL} {st : List Value} : aX d iX0_copyFrom 16 (ls) (.ref a :: st) σ Q ↔ ∃ v, aFld σ a 0 1 = some v ∧ aX d iX0_copyFrom 19 (ls) (v :: st) σ Q := X_getf (w := 93) kX0_copyFrom_16 (by decide +kernel)
theorem kX0_copyFrom_19 : aCode iX0_copyFrom 19 = some (.invokestatic 42, 3) := by decide +kernel
theorem sX0_copyFrom_19 {d : Nat} {σ : aS} {Q : aQ} {p0 : Nat} {p1 : Nat} {ls : aL} : aX (d + 1) iX0_copyFrom 19 (ls) (.ref p1 :: .ref p0 :: []) σ Q ↔ aX d iX6_copyRow 0 [some (.ref p0), some (.ref p1)] [] σ (fun r τ => aX (d + 1) iX0_copyFrom 22 (ls) (aret r ([])) τ Q) := X_invs (N := 2) (As := [.ref p1, .ref p0]) (k := 4) (w := 289) kX0_copyFrom_19 (by decide +kernel) (by decide) (by decide +kernel) rfl rfl (by simp only [List.length_cons, List.length_nil]; omega) (by simp only [List.length_cons, List.length_nil]; omega) rfl (Nat.le_of_ble_eq_true rfl)
theorem kX0_copyFrom_22 : aCode iX0_copyFrom 22 = some (.aload_n 0, 1) := by decide +kernel
theorem sX0_copyFrom_22 {d : Nat} {σ : aS} {Q : aQ} {x : Nat} {lt : aL} {st : List Value} : aX d iX0_copyFrom 22 (some (.ref x) :: lt) (st) σ Q ↔ aX d iX0_copyFrom 23 (some (.ref x) :: lt) (.ref x :: st) σ Q := X_aloadn kX0_copyFrom_22 rfl rfl
theorem kX0_copyFrom_23 : aCode iX0_copyFrom 23 = some (.aload_n 1, 1) := by decide +kernel
theorem sX0_copyFrom_23 {d : Nat} {σ : aS} {Q : aQ} {l0 : Option Value} {x : Nat} {lt : aL} {st : List Value} : aX d iX0_copyFrom 23 (l0 :: some (.ref x) :: lt) (st) σ Q ↔ aX d iX0_copyFrom 24 (l0 :: some (.ref x) :: lt) (.ref x :: st) σ Q := X_aloadn kX0_copyFrom_23 rfl rfl
theorem sX0_copyFrom_23n {d : Nat} {σ : aS} {Q : aQ} {l0 : Option Value} {lt : aL} {st : List Value} : aX d iX0_copyFrom 23 (l0 :: some .null :: lt) (st) σ Q ↔ aX d iX0_copyFrom 24 (l0 :: some .null :: lt) (.null :: st) σ Q := X_aloadn kX0_copyFrom_23 rfl rfl
theorem kX0_copyFrom_24 : aCode iX0_copyFrom 24 = some (.getfield 22, 3) := by decide +kernel
theorem sX0_copyFrom_24 {d : Nat} {σ : aS} {Q : aQ} {a : Nat} {ls : aL} {st : List Value} : aX d iX0_copyFrom 24 (ls) (.ref a :: st) σ Q ↔ ∃ v, aFld σ a 0 2 = some v ∧ aX d iX0_copyFrom 27 (ls) (v :: st) σ Q := X_getf (w := 94) kX0_copyFrom_24 (by decide +kernel)
theorem kX0_copyFrom_27 : aCode iX0_copyFrom 27 = some (.putfield 22, 3) := by decide +kernel
theorem sX0_copyFrom_27 {d : Nat} {σ : aS} {Q : aQ} {x : Int32} {a : Nat} {ls : aL} {st : List Value} : aX d iX0_copyFrom 27 (ls) (.int x :: .ref a :: st) σ Q ↔ ∃ fs, aFds σ a 0 = some fs ∧ 2 < fs.length ∧ aX d iX0_copyFrom 30 (ls) (st) (aput σ a (eO 0 (fs.set 2 (.int x)))) Q := X_putf (w := 94) kX0_copyFrom_27 (by decide +kernel) (aFit_I (by decide +kernel)) (by decide +kernel)
theorem kX0_copyFrom_30 : aCode iX0_copyFrom 30 = some (.aload_n 0, 1) := by decide +kernel
theorem sX0_copyFrom_30 {d : Nat} {σ : aS} {Q : aQ} {x : Nat} {lt : aL} {st : List Value} : aX d iX0_copyFrom 30 (some (.ref x) :: lt) (st) σ Q ↔ aX d iX0_copyFrom 31 (some (.ref x) :: lt) (.ref x :: st) σ Q := X_aloadn kX0_copyFrom_30 rfl rfl
theorem kX0_copyFrom_31 : aCode iX0_copyFrom 31 = some (.aload_n 1, 1) := by decide +kernel
theorem sX0_copyFrom_31 {d : Nat} {σ : aS} {Q : aQ} {l0 : Option Value} {x : Nat} {lt : aL} {st : List Value} : aX d iX0_copyFrom 31 (l0 :: some (.ref x) :: lt) (st) σ Q ↔ aX d iX0_copyFrom 32 (l0 :: some (.ref x) :: lt) (.ref x :: st) σ Q := X_aloadn kX0_copyFrom_31 rfl rfl
theorem sX0_copyFrom_31n {d : Nat} {σ : aS} {Q : aQ} {l0 : Option Value} {lt : aL} {st : List Value} : aX d iX0_copyFrom 31 (l0 :: some .null :: lt) (st) σ Q ↔ aX d iX0_copyFrom 32 (l0 :: some .null :: lt) (.null :: st) σ Q := X_aloadn kX0_copyFrom_31 rfl rfl
theorem kX0_copyFrom_32 : aCode iX0_copyFrom 32 = some (.getfield 25, 3) := by decide +kernel
theorem sX0_copyFrom_32 {d : Nat} {σ : aS} {Q : aQ} {a : Nat} {ls : aL} {st : List Value} : aX d iX0_copyFrom 32 (ls) (.ref a :: st) σ Q ↔ ∃ v, aFld σ a 0 3 = some v ∧ aX d iX0_copyFrom 35 (ls) (v :: st) σ Q := X_getf (w := 97) kX0_copyFrom_32 (by decide +kernel)
theorem kX0_copyFrom_35 : aCode iX0_copyFrom 35 = some (.putfield 25, 3) := by decide +kernel
theorem sX0_copyFrom_35 {d : Nat} {σ : aS} {Q : aQ} {x : Int32} {a : Nat} {ls : aL} {st : List Value} : aX d iX0_copyFrom 35 (ls) (.int x :: .ref a :: st) σ Q ↔ ∃ fs, aFds σ a 0 = some fs ∧ 3 < fs.length ∧ aX d iX0_copyFrom 38 (ls) (st) (aput σ a (eO 0 (fs.set 3 (.int x)))) Q := X_putf (w := 97) kX0_copyFrom_35 (by decide +kernel) (aFit_I (by decide +kernel)) (by decide +kernel)
theorem kX0_copyFrom_38 : aCode iX0_copyFrom 38 = some (.aload_n 0, 1) := by decide +kernel
theorem sX0_copyFrom_38 {d : Nat} {σ : aS} {Q : aQ} {x : Nat} {lt : aL} {st : List Value} : aX d iX0_copyFrom 38 (some (.ref x) :: lt) (st) σ Q ↔ aX d iX0_copyFrom 39 (some (.ref x) :: lt) (.ref x :: st) σ Q := X_aloadn kX0_copyFrom_38 rfl rfl
theorem kX0_copyFrom_39 : aCode iX0_copyFrom 39 = some (.aload_n 1, 1) := by decide +kernel
theorem sX0_copyFrom_39 {d : Nat} {σ : aS} {Q : aQ} {l0 : Option Value} {x : Nat} {lt : aL} {st : List Value} : aX d iX0_copyFrom 39 (l0 :: some (.ref x) :: lt) (st) σ Q ↔ aX d iX0_copyFrom 40 (l0 :: some (.ref x) :: lt) (.ref x :: st) σ Q := X_aloadn kX0_copyFrom_39 rfl rfl
theorem sX0_copyFrom_39n {d : Nat} {σ : aS} {Q : aQ} {l0 : Option Value} {lt : aL} {st : List Value} : aX d iX0_copyFrom 39 (l0 :: some .null :: lt) (st) σ Q ↔ aX d iX0_copyFrom 40 (l0 :: some .null :: lt) (.null :: st) σ Q := X_aloadn kX0_copyFrom_39 rfl rfl
theorem kX0_copyFrom_40 : aCode iX0_copyFrom 40 = some (.getfield 28, 3) := by decide +kernel
theorem sX0_copyFrom_40 {d : Nat} {σ : aS} {Q : aQ} {a : Nat} {ls : aL} {st : List Value} : aX d iX0_copyFrom 40 (ls) (.ref a :: st) σ Q ↔ ∃ v, aFld σ a 0 4 = some v ∧ aX d iX0_copyFrom 43 (ls) (v :: st) σ Q := X_getf (w := 100) kX0_copyFrom_40 (by decide +kernel)
theorem kX0_copyFrom_43 : aCode iX0_copyFrom 43 = some (.putfield 28, 3) := by decide +kernel
theorem sX0_copyFrom_43 {d : Nat} {σ : aS} {Q : aQ} {x : Int32} {a : Nat} {ls : aL} {st : List Value} : aX d iX0_copyFrom 43 (ls) (.int x :: .ref a :: st) σ Q ↔ ∃ fs, aFds σ a 0 = some fs ∧ 4 < fs.length ∧ aX d iX0_copyFrom 46 (ls) (st) (aput σ a (eO 0 (fs.set 4 (.int x)))) Q := X_putf (w := 100) kX0_copyFrom_43 (by decide +kernel) (aFit_I (by decide +kernel)) (by decide +kernel)
theorem kX0_copyFrom_46 : aCode iX0_copyFrom 46 = some (.aload_n 0, 1) := by decide +kernel
theorem sX0_copyFrom_46 {d : Nat} {σ : aS} {Q : aQ} {x : Nat} {lt : aL} {st : List Value} : aX d iX0_copyFrom 46 (some (.ref x) :: lt) (st) σ Q ↔ aX d iX0_copyFrom 47 (some (.ref x) :: lt) (.ref x :: st) σ Q := X_aloadn kX0_copyFrom_46 rfl rfl
theorem kX0_copyFrom_47 : aCode iX0_copyFrom 47 = some (.aload_n 1, 1) := by decide +kernel
theorem sX0_copyFrom_47 {d : Nat} {σ : aS} {Q : aQ} {l0 : Option Value} {x : Nat} {lt : aL} {st : List Value} : aX d iX0_copyFrom 47 (l0 :: some (.ref x) :: lt) (st) σ Q ↔ aX d iX0_copyFrom 48 (l0 :: some (.ref x) :: lt) (.ref x :: st) σ Q := X_aloadn kX0_copyFrom_47 rfl rfl
theorem sX0_copyFrom_47n {d : Nat} {σ : aS} {Q : aQ} {l0 : Option Value} {lt : aL} {st : List Value} : aX d iX0_copyFrom 47 (l0 :: some .null :: lt) (st) σ Q ↔ aX d iX0_copyFrom 48 (l0 :: some .null :: lt) (.null :: st) σ Q := X_aloadn kX0_copyFrom_47 rfl rfl
theorem kX0_copyFrom_48 : aCode iX0_copyFrom 48 = some (.getfield 18, 3) := by decide +kernel
theorem sX0_copyFrom_48 {d : Nat} {σ : aS} {Q : aQ} {a : Nat} {ls : aL} {st : List Value} : aX d iX0_copyFrom 48 (ls) (.ref a :: st) σ Q ↔ ∃ v, aFld σ a 0 5 = some v ∧ aX d iX0_copyFrom 51 (ls) (v :: st) σ Q := X_getf (w := 103) kX0_copyFrom_48 (by decide +kernel)
theorem kX0_copyFrom_51 : aCode iX0_copyFrom 51 = some (.putfield 18, 3) := by decide +kernel
theorem sX0_copyFrom_51 {d : Nat} {σ : aS} {Q : aQ} {x : Int32} {a : Nat} {ls : aL} {st : List Value} : aX d iX0_copyFrom 51 (ls) (.int x :: .ref a :: st) σ Q ↔ ∃ fs, aFds σ a 0 = some fs ∧ 5 < fs.length ∧ aX d iX0_copyFrom 54 (ls) (st) (aput σ a (eO 0 (fs.set 5 (.int x)))) Q := X_putf (w := 103) kX0_copyFrom_51 (by decide +kernel) (aFit_I (by decide +kernel)) (by decide +kernel)
theorem kX0_copyFrom_54 : aCode iX0_copyFrom 54 = some (.aload_n 0, 1) := by decide +kernel
theorem sX0_copyFrom_54 {d : Nat} {σ : aS} {Q : aQ} {x : Nat} {lt : aL} {st : List Value} : aX d iX0_copyFrom 54 (some (.ref x) :: lt) (st) σ Q ↔ aX d iX0_copyFrom 55 (some (.ref x) :: lt) (.ref x :: st) σ Q := X_aloadn kX0_copyFrom_54 rfl rfl
theorem kX0_copyFrom_55 : aCode iX0_copyFrom 55 = some (.aload_n 1, 1) := by decide +kernel
theorem sX0_copyFrom_55 {d : Nat} {σ : aS} {Q : aQ} {l0 : Option Value} {x : Nat} {lt : aL} {st : List Value} : aX d iX0_copyFrom 55 (l0 :: some (.ref x) :: lt) (st) σ Q ↔ aX d iX0_copyFrom 56 (l0 :: some (.ref x) :: lt) (.ref x :: st) σ Q := X_aloadn kX0_copyFrom_55 rfl rfl
theorem sX0_copyFrom_55n {d : Nat} {σ : aS} {Q : aQ} {l0 : Option Value} {lt : aL} {st : List Value} : aX d iX0_copyFrom 55 (l0 :: some .null :: lt) (st) σ Q ↔ aX d iX0_copyFrom 56 (l0 :: some .null :: lt) (.null :: st) σ Q := X_aloadn kX0_copyFrom_55 rfl rfl
theorem kX0_copyFrom_56 : aCode iX0_copyFrom 56 = some (.getfield 31, 3) := by decide +kernel
theorem sX0_copyFrom_56 {d : Nat} {σ : aS} {Q : aQ} {a : Nat} {ls : aL} {st : List Value} : aX d iX0_copyFrom 56 (ls) (.ref a :: st) σ Q ↔ ∃ v, aFld σ a 0 6 = some v ∧ aX d iX0_copyFrom 59 (ls) (v :: st) σ Q := X_getf (w := 106) kX0_copyFrom_56 (by decide +kernel)
theorem kX0_copyFrom_59 : aCode iX0_copyFrom 59 = some (.putfield 31, 3) := by decide +kernel
theorem sX0_copyFrom_59 {d : Nat} {σ : aS} {Q : aQ} {x : Int32} {a : Nat} {ls : aL} {st : List Value} : aX d iX0_copyFrom 59 (ls) (.int x :: .ref a :: st) σ Q ↔ ∃ fs, aFds σ a 0 = some fs ∧ 6 < fs.length ∧ aX d iX0_copyFrom 62 (ls) (st) (aput σ a (eO 0 (fs.set 6 (.int x)))) Q := X_putf (w := 106) kX0_copyFrom_59 (by decide +kernel) (aFit_I (by decide +kernel)) (by decide +kernel)
theorem kX0_copyFrom_62 : aCode iX0_copyFrom 62 = some (.return_, 1) := by decide +kernel
theorem sX0_copyFrom_62 {d : Nat} {σ : aS} {Q : aQ} {ls : aL} : aX d iX0_copyFrom 62 (ls) ([]) σ Q ↔ Q none σ := X_vret kX0_copyFrom_62 (by decide +kernel)
theorem kX0_goesRound_0 : aCode iX0_goesRound 0 = some (.aload_n 0, 1) := by decide +kernel
theorem sX0_goesRound_0 {d : Nat} {σ : aS} {Q : aQ} {x : Nat} {lt : aL} {st : List Value} : aX d iX0_goesRound 0 (some (.ref x) :: lt) (st) σ Q ↔ aX d iX0_goesRound 1 (some (.ref x) :: lt) (.ref x :: st) σ Q := X_aloadn kX0_goesRound_0 rfl rfl
theorem kX0_goesRound_1 : aCode iX0_goesRound 1 = some (.getfield 28, 3) := by decide +kernel
theorem sX0_goesRound_1 {d : Nat} {σ : aS} {Q : aQ} {a : Nat} {ls : aL} {st : List Value} : aX d iX0_goesRound 1 (ls) (.ref a :: st) σ Q ↔ ∃ v, aFld σ a 0 4 = some v ∧ aX d iX0_goesRound 4 (ls) (v :: st) σ Q := X_getf (w := 100) kX0_goesRound_1 (by decide +kernel)
theorem kX0_goesRound_4 : aCode iX0_goesRound 4 = some (.ifCond .ne 7, 3) := by decide +kernel
theorem sX0_goesRound_4 {d : Nat} {σ : aS} {Q : aQ} {x : Int32} {ls : aL} {st : List Value} : aX d iX0_goesRound 4 (ls) (.int x :: st) σ Q ↔ (if ¬ x = nI 0 then aX d iX0_goesRound 11 (ls) (st) σ Q else aX d iX0_goesRound 7 (ls) (st) σ Q) := by rw [X_if kX0_goesRound_4 (t := 11) (by decide)]; simp only [aCmp_ne]
theorem kX0_goesRound_7 : aCode iX0_goesRound 7 = some (.iconst 1, 1) := by decide +kernel
theorem sX0_goesRound_7 {d : Nat} {σ : aS} {Q : aQ} {ls : aL} {st : List Value} : aX d iX0_goesRound 7 (ls) (st) σ Q ↔ aX d iX0_goesRound 8 (ls) (.int (nI 1) :: st) σ Q := X_iconst kX0_goesRound_7 (by decide +kernel)
theorem kX0_goesRound_8 : aCode iX0_goesRound 8 = some (.goto 4, 3) := by decide +kernel
theorem sX0_goesRound_8 {d : Nat} {σ : aS} {Q : aQ} {ls : aL} {st : List Value} : aX d iX0_goesRound 8 (ls) (st) σ Q ↔ aX d iX0_goesRound 12 (ls) (st) σ Q := X_goto kX0_goesRound_8 (by decide)
theorem kX0_goesRound_11 : aCode iX0_goesRound 11 = some (.iconst 0, 1) := by decide +kernel
theorem sX0_goesRound_11 {d : Nat} {σ : aS} {Q : aQ} {ls : aL} {st : List Value} : aX d iX0_goesRound 11 (ls) (st) σ Q ↔ aX d iX0_goesRound 12 (ls) (.int (nI 0) :: st) σ Q := X_iconst kX0_goesRound_11 (by decide +kernel)
theorem kX0_goesRound_12 : aCode iX0_goesRound 12 = some (.ireturn, 1) := by decide +kernel
theorem sX0_goesRound_12 {d : Nat} {σ : aS} {Q : aQ} {v : Int32} {ls : aL} : aX d iX0_goesRound 12 (ls) ([.int v]) σ Q ↔ (narrow .boolean (.int v) = .int v ∧ Q (some (.int v)) σ) := X_zret kX0_goesRound_12 (by decide +kernel)
theorem kX0_seatOf_0 : aCode iX0_seatOf 0 = some (.aload_n 0, 1) := by decide +kernel
theorem sX0_seatOf_0 {d : Nat} {σ : aS} {Q : aQ} {x : Nat} {lt : aL} {st : List Value} : aX d iX0_seatOf 0 (some (.ref x) :: lt) (st) σ Q ↔ aX d iX0_seatOf 1 (some (.ref x) :: lt) (.ref x :: st) σ Q := X_aloadn kX0_seatOf_0 rfl rfl
theorem kX0_seatOf_1 : aCode iX0_seatOf 1 = some (.getfield 9, 3) := by decide +kernel
theorem sX0_seatOf_1 {d : Nat} {σ : aS} {Q : aQ} {a : Nat} {ls : aL} {st : List Value} : aX d iX0_seatOf 1 (ls) (.ref a :: st) σ Q ↔ ∃ v, aFld σ a 0 0 = some v ∧ aX d iX0_seatOf 4 (ls) (v :: st) σ Q := X_getf (w := 92) kX0_seatOf_1 (by decide +kernel)
theorem kX0_seatOf_4 : aCode iX0_seatOf 4 = some (.iload_n 1, 1) := by decide +kernel
theorem sX0_seatOf_4 {d : Nat} {σ : aS} {Q : aQ} {l0 : Option Value} {x : Int32} {lt : aL} {st : List Value} : aX d iX0_seatOf 4 (l0 :: some (.int x) :: lt) (st) σ Q ↔ aX d iX0_seatOf 5 (l0 :: some (.int x) :: lt) (.int x :: st) σ Q := X_iloadn kX0_seatOf_4 rfl
theorem kX0_seatOf_5 : aCode iX0_seatOf 5 = some (.invokestatic 46, 3) := by decide +kernel
theorem sX0_seatOf_5 {d : Nat} {σ : aS} {Q : aQ} {p0 : Nat} {p1 : Int32} {ls : aL} : aX (d + 1) iX0_seatOf 5 (ls) (.int p1 :: .ref p0 :: []) σ Q ↔ aX d iX6_valueAt 0 [some (.ref p0), some (.int p1)] [] σ (fun r τ => aX (d + 1) iX0_seatOf 8 (ls) (aret r ([])) τ Q) := X_invs (N := 2) (As := [.int p1, .ref p0]) (k := 4) (w := 394) kX0_seatOf_5 (by decide +kernel) (by decide) (by decide +kernel) rfl rfl (by simp only [List.length_cons, List.length_nil]; omega) (by simp only [List.length_cons, List.length_nil]; omega) rfl (Nat.le_of_ble_eq_true rfl)
theorem kX0_seatOf_8 : aCode iX0_seatOf 8 = some (.ireturn, 1) := by decide +kernel
theorem sX0_seatOf_8 {d : Nat} {σ : aS} {Q : aQ} {v : Int32} {ls : aL} : aX d iX0_seatOf 8 (ls) ([.int v]) σ Q ↔ Q (some (.int v)) σ := X_iret kX0_seatOf_8 (by decide +kernel)
theorem kX0_markOf_0 : aCode iX0_markOf 0 = some (.aload_n 0, 1) := by decide +kernel
theorem sX0_markOf_0 {d : Nat} {σ : aS} {Q : aQ} {x : Nat} {lt : aL} {st : List Value} : aX d iX0_markOf 0 (some (.ref x) :: lt) (st) σ Q ↔ aX d iX0_markOf 1 (some (.ref x) :: lt) (.ref x :: st) σ Q := X_aloadn kX0_markOf_0 rfl rfl
theorem kX0_markOf_1 : aCode iX0_markOf 1 = some (.getfield 15, 3) := by decide +kernel
theorem sX0_markOf_1 {d : Nat} {σ : aS} {Q : aQ} {a : Nat} {ls : aL} {st : List Value} : aX d iX0_markOf 1 (ls) (.ref a :: st) σ Q ↔ ∃ v, aFld σ a 0 1 = some v ∧ aX d iX0_markOf 4 (ls) (v :: st) σ Q := X_getf (w := 93) kX0_markOf_1 (by decide +kernel)
theorem kX0_markOf_4 : aCode iX0_markOf 4 = some (.iload_n 1, 1) := by decide +kernel
theorem sX0_markOf_4 {d : Nat} {σ : aS} {Q : aQ} {l0 : Option Value} {x : Int32} {lt : aL} {st : List Value} : aX d iX0_markOf 4 (l0 :: some (.int x) :: lt) (st) σ Q ↔ aX d iX0_markOf 5 (l0 :: some (.int x) :: lt) (.int x :: st) σ Q := X_iloadn kX0_markOf_4 rfl
theorem kX0_markOf_5 : aCode iX0_markOf 5 = some (.invokestatic 46, 3) := by decide +kernel
theorem sX0_markOf_5 {d : Nat} {σ : aS} {Q : aQ} {p0 : Nat} {p1 : Int32} {ls : aL} : aX (d + 1) iX0_markOf 5 (ls) (.int p1 :: .ref p0 :: []) σ Q ↔ aX d iX6_valueAt 0 [some (.ref p0), some (.int p1)] [] σ (fun r τ => aX (d + 1) iX0_markOf 8 (ls) (aret r ([])) τ Q) := X_invs (N := 2) (As := [.int p1, .ref p0]) (k := 4) (w := 394) kX0_markOf_5 (by decide +kernel) (by decide) (by decide +kernel) rfl rfl (by simp only [List.length_cons, List.length_nil]; omega) (by simp only [List.length_cons, List.length_nil]; omega) rfl (Nat.le_of_ble_eq_true rfl)
theorem kX0_markOf_8 : aCode iX0_markOf 8 = some (.ireturn, 1) := by decide +kernel
theorem sX0_markOf_8 {d : Nat} {σ : aS} {Q : aQ} {v : Int32} {ls : aL} : aX d iX0_markOf 8 (ls) ([.int v]) σ Q ↔ Q (some (.int v)) σ := X_iret kX0_markOf_8 (by decide +kernel)
theorem kX0_wasTold_0 : aCode iX0_wasTold 0 = some (.aload_n 0, 1) := by decide +kernel
theorem sX0_wasTold_0 {d : Nat} {σ : aS} {Q : aQ} {x : Nat} {lt : aL} {st : List Value} : aX d iX0_wasTold 0 (some (.ref x) :: lt) (st) σ Q ↔ aX d iX0_wasTold 1 (some (.ref x) :: lt) (.ref x :: st) σ Q := X_aloadn kX0_wasTold_0 rfl rfl
theorem kX0_wasTold_1 : aCode iX0_wasTold 1 = some (.getfield 31, 3) := by decide +kernel
theorem sX0_wasTold_1 {d : Nat} {σ : aS} {Q : aQ} {a : Nat} {ls : aL} {st : List Value} : aX d iX0_wasTold 1 (ls) (.ref a :: st) σ Q ↔ ∃ v, aFld σ a 0 6 = some v ∧ aX d iX0_wasTold 4 (ls) (v :: st) σ Q := X_getf (w := 106) kX0_wasTold_1 (by decide +kernel)
theorem kX0_wasTold_4 : aCode iX0_wasTold 4 = some (.iconst 1, 1) := by decide +kernel
theorem sX0_wasTold_4 {d : Nat} {σ : aS} {Q : aQ} {ls : aL} {st : List Value} : aX d iX0_wasTold 4 (ls) (st) σ Q ↔ aX d iX0_wasTold 5 (ls) (.int (nI 1) :: st) σ Q := X_iconst kX0_wasTold_4 (by decide +kernel)
theorem kX0_wasTold_5 : aCode iX0_wasTold 5 = some (.iload_n 1, 1) := by decide +kernel
theorem sX0_wasTold_5 {d : Nat} {σ : aS} {Q : aQ} {l0 : Option Value} {x : Int32} {lt : aL} {st : List Value} : aX d iX0_wasTold 5 (l0 :: some (.int x) :: lt) (st) σ Q ↔ aX d iX0_wasTold 6 (l0 :: some (.int x) :: lt) (.int x :: st) σ Q := X_iloadn kX0_wasTold_5 rfl
theorem kX0_wasTold_6 : aCode iX0_wasTold 6 = some (.ishl, 1) := by decide +kernel
theorem sX0_wasTold_6 {d : Nat} {σ : aS} {Q : aQ} {x y : Int32} {ls : aL} {st : List Value} : aX d iX0_wasTold 6 (ls) (.int y :: .int x :: st) σ Q ↔ aX d iX0_wasTold 7 (ls) (.int (x <<< (y &&& 31)) :: st) σ Q := X_ishl kX0_wasTold_6
theorem kX0_wasTold_7 : aCode iX0_wasTold 7 = some (.iand, 1) := by decide +kernel
theorem sX0_wasTold_7 {d : Nat} {σ : aS} {Q : aQ} {x y : Int32} {ls : aL} {st : List Value} : aX d iX0_wasTold 7 (ls) (.int y :: .int x :: st) σ Q ↔ aX d iX0_wasTold 8 (ls) (.int (x &&& y) :: st) σ Q := X_iand kX0_wasTold_7
theorem kX0_wasTold_8 : aCode iX0_wasTold 8 = some (.ifCond .eq 7, 3) := by decide +kernel
theorem sX0_wasTold_8 {d : Nat} {σ : aS} {Q : aQ} {x : Int32} {ls : aL} {st : List Value} : aX d iX0_wasTold 8 (ls) (.int x :: st) σ Q ↔ (if x = nI 0 then aX d iX0_wasTold 15 (ls) (st) σ Q else aX d iX0_wasTold 11 (ls) (st) σ Q) := by rw [X_if kX0_wasTold_8 (t := 15) (by decide)]; simp only [aCmp_eq]
theorem kX0_wasTold_11 : aCode iX0_wasTold 11 = some (.iconst 1, 1) := by decide +kernel
theorem sX0_wasTold_11 {d : Nat} {σ : aS} {Q : aQ} {ls : aL} {st : List Value} : aX d iX0_wasTold 11 (ls) (st) σ Q ↔ aX d iX0_wasTold 12 (ls) (.int (nI 1) :: st) σ Q := X_iconst kX0_wasTold_11 (by decide +kernel)
theorem kX0_wasTold_12 : aCode iX0_wasTold 12 = some (.goto 4, 3) := by decide +kernel
theorem sX0_wasTold_12 {d : Nat} {σ : aS} {Q : aQ} {ls : aL} {st : List Value} : aX d iX0_wasTold 12 (ls) (st) σ Q ↔ aX d iX0_wasTold 16 (ls) (st) σ Q := X_goto kX0_wasTold_12 (by decide)
theorem kX0_wasTold_15 : aCode iX0_wasTold 15 = some (.iconst 0, 1) := by decide +kernel
theorem sX0_wasTold_15 {d : Nat} {σ : aS} {Q : aQ} {ls : aL} {st : List Value} : aX d iX0_wasTold 15 (ls) (st) σ Q ↔ aX d iX0_wasTold 16 (ls) (.int (nI 0) :: st) σ Q := X_iconst kX0_wasTold_15 (by decide +kernel)
theorem kX0_wasTold_16 : aCode iX0_wasTold 16 = some (.ireturn, 1) := by decide +kernel
theorem sX0_wasTold_16 {d : Nat} {σ : aS} {Q : aQ} {v : Int32} {ls : aL} : aX d iX0_wasTold 16 (ls) ([.int v]) σ Q ↔ (narrow .boolean (.int v) = .int v ∧ Q (some (.int v)) σ) := X_zret kX0_wasTold_16 (by decide +kernel)
theorem kX0_liesAt_0 : aCode iX0_liesAt 0 = some (.aload_n 0, 1) := by decide +kernel
theorem sX0_liesAt_0 {d : Nat} {σ : aS} {Q : aQ} {x : Nat} {lt : aL} {st : List Value} : aX d iX0_liesAt 0 (some (.ref x) :: lt) (st) σ Q ↔ aX d iX0_liesAt 1 (some (.ref x) :: lt) (.ref x :: st) σ Q := X_aloadn kX0_liesAt_0 rfl rfl
theorem kX0_liesAt_1 : aCode iX0_liesAt 1 = some (.getfield 9, 3) := by decide +kernel
theorem sX0_liesAt_1 {d : Nat} {σ : aS} {Q : aQ} {a : Nat} {ls : aL} {st : List Value} : aX d iX0_liesAt 1 (ls) (.ref a :: st) σ Q ↔ ∃ v, aFld σ a 0 0 = some v ∧ aX d iX0_liesAt 4 (ls) (v :: st) σ Q := X_getf (w := 92) kX0_liesAt_1 (by decide +kernel)
theorem kX0_liesAt_4 : aCode iX0_liesAt 4 = some (.aload_n 0, 1) := by decide +kernel
theorem sX0_liesAt_4 {d : Nat} {σ : aS} {Q : aQ} {x : Nat} {lt : aL} {st : List Value} : aX d iX0_liesAt 4 (some (.ref x) :: lt) (st) σ Q ↔ aX d iX0_liesAt 5 (some (.ref x) :: lt) (.ref x :: st) σ Q := X_aloadn kX0_liesAt_4 rfl rfl
theorem kX0_liesAt_5 : aCode iX0_liesAt 5 = some (.getfield 25, 3) := by decide +kernel
theorem sX0_liesAt_5 {d : Nat} {σ : aS} {Q : aQ} {a : Nat} {ls : aL} {st : List Value} : aX d iX0_liesAt 5 (ls) (.ref a :: st) σ Q ↔ ∃ v, aFld σ a 0 3 = some v ∧ aX d iX0_liesAt 8 (ls) (v :: st) σ Q := X_getf (w := 97) kX0_liesAt_5 (by decide +kernel)
theorem kX0_liesAt_8 : aCode iX0_liesAt 8 = some (.iconst 1, 1) := by decide +kernel
theorem sX0_liesAt_8 {d : Nat} {σ : aS} {Q : aQ} {ls : aL} {st : List Value} : aX d iX0_liesAt 8 (ls) (st) σ Q ↔ aX d iX0_liesAt 9 (ls) (.int (nI 1) :: st) σ Q := X_iconst kX0_liesAt_8 (by decide +kernel)
theorem kX0_liesAt_9 : aCode iX0_liesAt 9 = some (.isub, 1) := by decide +kernel
theorem sX0_liesAt_9 {d : Nat} {σ : aS} {Q : aQ} {x y : Int32} {ls : aL} {st : List Value} : aX d iX0_liesAt 9 (ls) (.int y :: .int x :: st) σ Q ↔ aX d iX0_liesAt 10 (ls) (.int (x - y) :: st) σ Q := X_isub kX0_liesAt_9
theorem kX0_liesAt_10 : aCode iX0_liesAt 10 = some (.invokestatic 46, 3) := by decide +kernel
theorem sX0_liesAt_10 {d : Nat} {σ : aS} {Q : aQ} {p0 : Nat} {p1 : Int32} {ls : aL} : aX (d + 1) iX0_liesAt 10 (ls) (.int p1 :: .ref p0 :: []) σ Q ↔ aX d iX6_valueAt 0 [some (.ref p0), some (.int p1)] [] σ (fun r τ => aX (d + 1) iX0_liesAt 13 (ls) (aret r ([])) τ Q) := X_invs (N := 2) (As := [.int p1, .ref p0]) (k := 4) (w := 394) kX0_liesAt_10 (by decide +kernel) (by decide) (by decide +kernel) rfl rfl (by simp only [List.length_cons, List.length_nil]; omega) (by simp only [List.length_cons, List.length_nil]; omega) rfl (Nat.le_of_ble_eq_true rfl)
theorem kX0_liesAt_13 : aCode iX0_liesAt 13 = some (.ireturn, 1) := by decide +kernel
theorem sX0_liesAt_13 {d : Nat} {σ : aS} {Q : aQ} {v : Int32} {ls : aL} : aX d iX0_liesAt 13 (ls) ([.int v]) σ Q ↔ Q (some (.int v)) σ := X_iret kX0_liesAt_13 (by decide +kernel)
theorem kX0_endsWithWord_0 : aCode iX0_endsWithWord 0 = some (.aload_n 0, 1) := by decide +kernel
theorem sX0_endsWithWord_0 {d : Nat} {σ : aS} {Q : aQ} {x : Nat} {lt : aL} {st : List Value} : aX d iX0_endsWithWord 0 (some (.ref x) :: lt) (st) σ Q ↔ aX d iX0_endsWithWord 1 (some (.ref x) :: lt) (.ref x :: st) σ Q := X_aloadn kX0_endsWithWord_0 rfl rfl
theorem kX0_endsWithWord_1 : aCode iX0_endsWithWord 1 = some (.getfield 25, 3) := by decide +kernel
theorem sX0_endsWithWord_1 {d : Nat} {σ : aS} {Q : aQ} {a : Nat} {ls : aL} {st : List Value} : aX d iX0_endsWithWord 1 (ls) (.ref a :: st) σ Q ↔ ∃ v, aFld σ a 0 3 = some v ∧ aX d iX0_endsWithWord 4 (ls) (v :: st) σ Q := X_getf (w := 97) kX0_endsWithWord_1 (by decide +kernel)
theorem kX0_endsWithWord_4 : aCode iX0_endsWithWord 4 = some (.iconst 1, 1) := by decide +kernel
theorem sX0_endsWithWord_4 {d : Nat} {σ : aS} {Q : aQ} {ls : aL} {st : List Value} : aX d iX0_endsWithWord 4 (ls) (st) σ Q ↔ aX d iX0_endsWithWord 5 (ls) (.int (nI 1) :: st) σ Q := X_iconst kX0_endsWithWord_4 (by decide +kernel)
theorem kX0_endsWithWord_5 : aCode iX0_endsWithWord 5 = some (.iand, 1) := by decide +kernel
theorem sX0_endsWithWord_5 {d : Nat} {σ : aS} {Q : aQ} {x y : Int32} {ls : aL} {st : List Value} : aX d iX0_endsWithWord 5 (ls) (.int y :: .int x :: st) σ Q ↔ aX d iX0_endsWithWord 6 (ls) (.int (x &&& y) :: st) σ Q := X_iand kX0_endsWithWord_5
theorem kX0_endsWithWord_6 : aCode iX0_endsWithWord 6 = some (.iconst 1, 1) := by decide +kernel
theorem sX0_endsWithWord_6 {d : Nat} {σ : aS} {Q : aQ} {ls : aL} {st : List Value} : aX d iX0_endsWithWord 6 (ls) (st) σ Q ↔ aX d iX0_endsWithWord 7 (ls) (.int (nI 1) :: st) σ Q := X_iconst kX0_endsWithWord_6 (by decide +kernel)
theorem kX0_endsWithWord_7 : aCode iX0_endsWithWord 7 = some (.if_icmp .ne 7, 3) := by decide +kernel
theorem sX0_endsWithWord_7 {d : Nat} {σ : aS} {Q : aQ} {x y : Int32} {ls : aL} {st : List Value} : aX d iX0_endsWithWord 7 (ls) (.int y :: .int x :: st) σ Q ↔ (if ¬ x = y then aX d iX0_endsWithWord 14 (ls) (st) σ Q else aX d iX0_endsWithWord 10 (ls) (st) σ Q) := by rw [X_icmp kX0_endsWithWord_7 (t := 14) (by decide)]; simp only [aCmp_ne]
theorem kX0_endsWithWord_10 : aCode iX0_endsWithWord 10 = some (.iconst 1, 1) := by decide +kernel
theorem sX0_endsWithWord_10 {d : Nat} {σ : aS} {Q : aQ} {ls : aL} {st : List Value} : aX d iX0_endsWithWord 10 (ls) (st) σ Q ↔ aX d iX0_endsWithWord 11 (ls) (.int (nI 1) :: st) σ Q := X_iconst kX0_endsWithWord_10 (by decide +kernel)
theorem kX0_endsWithWord_11 : aCode iX0_endsWithWord 11 = some (.goto 4, 3) := by decide +kernel
theorem sX0_endsWithWord_11 {d : Nat} {σ : aS} {Q : aQ} {ls : aL} {st : List Value} : aX d iX0_endsWithWord 11 (ls) (st) σ Q ↔ aX d iX0_endsWithWord 15 (ls) (st) σ Q := X_goto kX0_endsWithWord_11 (by decide)
theorem kX0_endsWithWord_14 : aCode iX0_endsWithWord 14 = some (.iconst 0, 1) := by decide +kernel
theorem sX0_endsWithWord_14 {d : Nat} {σ : aS} {Q : aQ} {ls : aL} {st : List Value} : aX d iX0_endsWithWord 14 (ls) (st) σ Q ↔ aX d iX0_endsWithWord 15 (ls) (.int (nI 0) :: st) σ Q := X_iconst kX0_endsWithWord_14 (by decide +kernel)
theorem kX0_endsWithWord_15 : aCode iX0_endsWithWord 15 = some (.ireturn, 1) := by decide +kernel
theorem sX0_endsWithWord_15 {d : Nat} {σ : aS} {Q : aQ} {v : Int32} {ls : aL} : aX d iX0_endsWithWord 15 (ls) ([.int v]) σ Q ↔ (narrow .boolean (.int v) = .int v ∧ Q (some (.int v)) σ) := X_zret kX0_endsWithWord_15 (by decide +kernel)
theorem kX0_firstWord_0 : aCode iX0_firstWord 0 = some (.aload_n 0, 1) := by decide +kernel
theorem sX0_firstWord_0 {d : Nat} {σ : aS} {Q : aQ} {x : Nat} {lt : aL} {st : List Value} : aX d iX0_firstWord 0 (some (.ref x) :: lt) (st) σ Q ↔ aX d iX0_firstWord 1 (some (.ref x) :: lt) (.ref x :: st) σ Q := X_aloadn kX0_firstWord_0 rfl rfl
theorem kX0_firstWord_1 : aCode iX0_firstWord 1 = some (.getfield 15, 3) := by decide +kernel
theorem sX0_firstWord_1 {d : Nat} {σ : aS} {Q : aQ} {a : Nat} {ls : aL} {st : List Value} : aX d iX0_firstWord 1 (ls) (.ref a :: st) σ Q ↔ ∃ v, aFld σ a 0 1 = some v ∧ aX d iX0_firstWord 4 (ls) (v :: st) σ Q := X_getf (w := 93) kX0_firstWord_1 (by decide +kernel)
theorem kX0_firstWord_4 : aCode iX0_firstWord 4 = some (.iconst 0, 1) := by decide +kernel
theorem sX0_firstWord_4 {d : Nat} {σ : aS} {Q : aQ} {ls : aL} {st : List Value} : aX d iX0_firstWord 4 (ls) (st) σ Q ↔ aX d iX0_firstWord 5 (ls) (.int (nI 0) :: st) σ Q := X_iconst kX0_firstWord_4 (by decide +kernel)
theorem kX0_firstWord_5 : aCode iX0_firstWord 5 = some (.invokestatic 46, 3) := by decide +kernel
theorem sX0_firstWord_5 {d : Nat} {σ : aS} {Q : aQ} {p0 : Nat} {p1 : Int32} {ls : aL} : aX (d + 1) iX0_firstWord 5 (ls) (.int p1 :: .ref p0 :: []) σ Q ↔ aX d iX6_valueAt 0 [some (.ref p0), some (.int p1)] [] σ (fun r τ => aX (d + 1) iX0_firstWord 8 (ls) (aret r ([])) τ Q) := X_invs (N := 2) (As := [.int p1, .ref p0]) (k := 4) (w := 394) kX0_firstWord_5 (by decide +kernel) (by decide) (by decide +kernel) rfl rfl (by simp only [List.length_cons, List.length_nil]; omega) (by simp only [List.length_cons, List.length_nil]; omega) rfl (Nat.le_of_ble_eq_true rfl)
theorem kX0_firstWord_8 : aCode iX0_firstWord 8 = some (.ireturn, 1) := by decide +kernel
theorem sX0_firstWord_8 {d : Nat} {σ : aS} {Q : aQ} {v : Int32} {ls : aL} : aX d iX0_firstWord 8 (ls) ([.int v]) σ Q ↔ Q (some (.int v)) σ := X_iret kX0_firstWord_8 (by decide +kernel)
theorem kX0_lastWord_0 : aCode iX0_lastWord 0 = some (.aload_n 0, 1) := by decide +kernel
theorem sX0_lastWord_0 {d : Nat} {σ : aS} {Q : aQ} {x : Nat} {lt : aL} {st : List Value} : aX d iX0_lastWord 0 (some (.ref x) :: lt) (st) σ Q ↔ aX d iX0_lastWord 1 (some (.ref x) :: lt) (.ref x :: st) σ Q := X_aloadn kX0_lastWord_0 rfl rfl
theorem kX0_lastWord_1 : aCode iX0_lastWord 1 = some (.getfield 15, 3) := by decide +kernel
theorem sX0_lastWord_1 {d : Nat} {σ : aS} {Q : aQ} {a : Nat} {ls : aL} {st : List Value} : aX d iX0_lastWord 1 (ls) (.ref a :: st) σ Q ↔ ∃ v, aFld σ a 0 1 = some v ∧ aX d iX0_lastWord 4 (ls) (v :: st) σ Q := X_getf (w := 93) kX0_lastWord_1 (by decide +kernel)
theorem kX0_lastWord_4 : aCode iX0_lastWord 4 = some (.aload_n 0, 1) := by decide +kernel
theorem sX0_lastWord_4 {d : Nat} {σ : aS} {Q : aQ} {x : Nat} {lt : aL} {st : List Value} : aX d iX0_lastWord 4 (some (.ref x) :: lt) (st) σ Q ↔ aX d iX0_lastWord 5 (some (.ref x) :: lt) (.ref x :: st) σ Q := X_aloadn kX0_lastWord_4 rfl rfl
theorem kX0_lastWord_5 : aCode iX0_lastWord 5 = some (.invokevirtual 50, 3) := by decide +kernel
theorem sX0_lastWord_5 {d : Nat} {σ : aS} {Q : aQ} {b : Nat} {v0 : Value} {ls : aL} : aX (d + 1) iX0_lastWord 5 (ls) (.ref b :: v0 :: []) σ Q ↔ aIs σ b 0 ∧ aX d iX0_endsWithWord 0 [some (.ref b)] [] σ (fun r τ => aX (d + 1) iX0_lastWord 8 (ls) (aret r (v0 :: [])) τ Q) := X_invv (N := 0) (As := []) (w := 407) kX0_lastWord_5 (by decide +kernel) (by decide +kernel) rfl rfl (by simp only [List.length_cons, List.length_nil]; omega) (by simp only [List.length_cons, List.length_nil]; omega) (by decide +kernel) rfl (Nat.le_of_ble_eq_true rfl)
theorem kX0_lastWord_8 : aCode iX0_lastWord 8 = some (.ifCond .eq 12, 3) := by decide +kernel
theorem sX0_lastWord_8 {d : Nat} {σ : aS} {Q : aQ} {x : Int32} {ls : aL} {st : List Value} : aX d iX0_lastWord 8 (ls) (.int x :: st) σ Q ↔ (if x = nI 0 then aX d iX0_lastWord 20 (ls) (st) σ Q else aX d iX0_lastWord 11 (ls) (st) σ Q) := by rw [X_if kX0_lastWord_8 (t := 20) (by decide)]; simp only [aCmp_eq]
theorem kX0_lastWord_11 : aCode iX0_lastWord 11 = some (.aload_n 0, 1) := by decide +kernel
theorem sX0_lastWord_11 {d : Nat} {σ : aS} {Q : aQ} {x : Nat} {lt : aL} {st : List Value} : aX d iX0_lastWord 11 (some (.ref x) :: lt) (st) σ Q ↔ aX d iX0_lastWord 12 (some (.ref x) :: lt) (.ref x :: st) σ Q := X_aloadn kX0_lastWord_11 rfl rfl
theorem kX0_lastWord_12 : aCode iX0_lastWord 12 = some (.getfield 25, 3) := by decide +kernel
theorem sX0_lastWord_12 {d : Nat} {σ : aS} {Q : aQ} {a : Nat} {ls : aL} {st : List Value} : aX d iX0_lastWord 12 (ls) (.ref a :: st) σ Q ↔ ∃ v, aFld σ a 0 3 = some v ∧ aX d iX0_lastWord 15 (ls) (v :: st) σ Q := X_getf (w := 97) kX0_lastWord_12 (by decide +kernel)
theorem kX0_lastWord_15 : aCode iX0_lastWord 15 = some (.iconst 1, 1) := by decide +kernel
theorem sX0_lastWord_15 {d : Nat} {σ : aS} {Q : aQ} {ls : aL} {st : List Value} : aX d iX0_lastWord 15 (ls) (st) σ Q ↔ aX d iX0_lastWord 16 (ls) (.int (nI 1) :: st) σ Q := X_iconst kX0_lastWord_15 (by decide +kernel)
theorem kX0_lastWord_16 : aCode iX0_lastWord 16 = some (.isub, 1) := by decide +kernel
theorem sX0_lastWord_16 {d : Nat} {σ : aS} {Q : aQ} {x y : Int32} {ls : aL} {st : List Value} : aX d iX0_lastWord 16 (ls) (.int y :: .int x :: st) σ Q ↔ aX d iX0_lastWord 17 (ls) (.int (x - y) :: st) σ Q := X_isub kX0_lastWord_16
theorem kX0_lastWord_17 : aCode iX0_lastWord 17 = some (.goto 9, 3) := by decide +kernel
theorem sX0_lastWord_17 {d : Nat} {σ : aS} {Q : aQ} {ls : aL} {st : List Value} : aX d iX0_lastWord 17 (ls) (st) σ Q ↔ aX d iX0_lastWord 26 (ls) (st) σ Q := X_goto kX0_lastWord_17 (by decide)
theorem kX0_lastWord_20 : aCode iX0_lastWord 20 = some (.aload_n 0, 1) := by decide +kernel
theorem sX0_lastWord_20 {d : Nat} {σ : aS} {Q : aQ} {x : Nat} {lt : aL} {st : List Value} : aX d iX0_lastWord 20 (some (.ref x) :: lt) (st) σ Q ↔ aX d iX0_lastWord 21 (some (.ref x) :: lt) (.ref x :: st) σ Q := X_aloadn kX0_lastWord_20 rfl rfl
theorem kX0_lastWord_21 : aCode iX0_lastWord 21 = some (.getfield 25, 3) := by decide +kernel
theorem sX0_lastWord_21 {d : Nat} {σ : aS} {Q : aQ} {a : Nat} {ls : aL} {st : List Value} : aX d iX0_lastWord 21 (ls) (.ref a :: st) σ Q ↔ ∃ v, aFld σ a 0 3 = some v ∧ aX d iX0_lastWord 24 (ls) (v :: st) σ Q := X_getf (w := 97) kX0_lastWord_21 (by decide +kernel)
theorem kX0_lastWord_24 : aCode iX0_lastWord 24 = some (.iconst 2, 1) := by decide +kernel
theorem sX0_lastWord_24 {d : Nat} {σ : aS} {Q : aQ} {ls : aL} {st : List Value} : aX d iX0_lastWord 24 (ls) (st) σ Q ↔ aX d iX0_lastWord 25 (ls) (.int (nI 2) :: st) σ Q := X_iconst kX0_lastWord_24 (by decide +kernel)
theorem kX0_lastWord_25 : aCode iX0_lastWord 25 = some (.isub, 1) := by decide +kernel
theorem sX0_lastWord_25 {d : Nat} {σ : aS} {Q : aQ} {x y : Int32} {ls : aL} {st : List Value} : aX d iX0_lastWord 25 (ls) (.int y :: .int x :: st) σ Q ↔ aX d iX0_lastWord 26 (ls) (.int (x - y) :: st) σ Q := X_isub kX0_lastWord_25
theorem kX0_lastWord_26 : aCode iX0_lastWord 26 = some (.invokestatic 46, 3) := by decide +kernel
theorem sX0_lastWord_26 {d : Nat} {σ : aS} {Q : aQ} {p0 : Nat} {p1 : Int32} {ls : aL} : aX (d + 1) iX0_lastWord 26 (ls) (.int p1 :: .ref p0 :: []) σ Q ↔ aX d iX6_valueAt 0 [some (.ref p0), some (.int p1)] [] σ (fun r τ => aX (d + 1) iX0_lastWord 29 (ls) (aret r ([])) τ Q) := X_invs (N := 2) (As := [.int p1, .ref p0]) (k := 4) (w := 394) kX0_lastWord_26 (by decide +kernel) (by decide) (by decide +kernel) rfl rfl (by simp only [List.length_cons, List.length_nil]; omega) (by simp only [List.length_cons, List.length_nil]; omega) rfl (Nat.le_of_ble_eq_true rfl)
theorem kX0_lastWord_29 : aCode iX0_lastWord 29 = some (.ireturn, 1) := by decide +kernel
theorem sX0_lastWord_29 {d : Nat} {σ : aS} {Q : aQ} {v : Int32} {ls : aL} : aX d iX0_lastWord 29 (ls) ([.int v]) σ Q ↔ Q (some (.int v)) σ := X_iret kX0_lastWord_29 (by decide +kernel)
theorem kX0_hasFoundWordAgain_0 : aCode iX0_hasFoundWordAgain 0 = some (.aload_n 0, 1) := by decide +kernel
theorem sX0_hasFoundWordAgain_0 {d : Nat} {σ : aS} {Q : aQ} {x : Nat} {lt : aL} {st : List Value} : aX d iX0_hasFoundWordAgain 0 (some (.ref x) :: lt) (st) σ Q ↔ aX d iX0_hasFoundWordAgain 1 (some (.ref x) :: lt) (.ref x :: st) σ Q := X_aloadn kX0_hasFoundWordAgain_0 rfl rfl
theorem kX0_hasFoundWordAgain_1 : aCode iX0_hasFoundWordAgain 1 = some (.getfield 25, 3) := by decide +kernel
theorem sX0_hasFoundWordAgain_1 {d : Nat} {σ : aS} {Q : aQ} {a : Nat} {ls : aL} {st : List Value} : aX d iX0_hasFoundWordAgain 1 (ls) (.ref a :: st) σ Q ↔ ∃ v, aFld σ a 0 3 = some v ∧ aX d iX0_hasFoundWordAgain 4 (ls) (v :: st) σ Q := X_getf (w := 97) kX0_hasFoundWordAgain_1 (by decide +kernel)
theorem kX0_hasFoundWordAgain_4 : aCode iX0_hasFoundWordAgain 4 = some (.iconst 3, 1) := by decide +kernel
theorem sX0_hasFoundWordAgain_4 {d : Nat} {σ : aS} {Q : aQ} {ls : aL} {st : List Value} : aX d iX0_hasFoundWordAgain 4 (ls) (st) σ Q ↔ aX d iX0_hasFoundWordAgain 5 (ls) (.int (nI 3) :: st) σ Q := X_iconst kX0_hasFoundWordAgain_4 (by decide +kernel)
theorem kX0_hasFoundWordAgain_5 : aCode iX0_hasFoundWordAgain 5 = some (.if_icmp .lt 37, 3) := by decide +kernel
theorem sX0_hasFoundWordAgain_5 {d : Nat} {σ : aS} {Q : aQ} {x y : Int32} {ls : aL} {st : List Value} : aX d iX0_hasFoundWordAgain 5 (ls) (.int y :: .int x :: st) σ Q ↔ (if x < y then aX d iX0_hasFoundWordAgain 42 (ls) (st) σ Q else aX d iX0_hasFoundWordAgain 8 (ls) (st) σ Q) := by rw [X_icmp kX0_hasFoundWordAgain_5 (t := 42) (by decide)]; simp only [aCmp_lt]
theorem kX0_hasFoundWordAgain_8 : aCode iX0_hasFoundWordAgain 8 = some (.aload_n 0, 1) := by decide +kernel
theorem sX0_hasFoundWordAgain_8 {d : Nat} {σ : aS} {Q : aQ} {x : Nat} {lt : aL} {st : List Value} : aX d iX0_hasFoundWordAgain 8 (some (.ref x) :: lt) (st) σ Q ↔ aX d iX0_hasFoundWordAgain 9 (some (.ref x) :: lt) (.ref x :: st) σ Q := X_aloadn kX0_hasFoundWordAgain_8 rfl rfl
theorem kX0_hasFoundWordAgain_9 : aCode iX0_hasFoundWordAgain 9 = some (.invokevirtual 50, 3) := by decide +kernel
theorem sX0_hasFoundWordAgain_9 {d : Nat} {σ : aS} {Q : aQ} {b : Nat} {ls : aL} : aX (d + 1) iX0_hasFoundWordAgain 9 (ls) (.ref b :: []) σ Q ↔ aIs σ b 0 ∧ aX d iX0_endsWithWord 0 [some (.ref b)] [] σ (fun r τ => aX (d + 1) iX0_hasFoundWordAgain 12 (ls) (aret r ([])) τ Q) := X_invv (N := 0) (As := []) (w := 407) kX0_hasFoundWordAgain_9 (by decide +kernel) (by decide +kernel) rfl rfl (by simp only [List.length_cons, List.length_nil]; omega) (by simp only [List.length_cons, List.length_nil]; omega) (by decide +kernel) rfl (Nat.le_of_ble_eq_true rfl)
theorem kX0_hasFoundWordAgain_12 : aCode iX0_hasFoundWordAgain 12 = some (.ifCond .eq 30, 3) := by decide +kernel
theorem sX0_hasFoundWordAgain_12 {d : Nat} {σ : aS} {Q : aQ} {x : Int32} {ls : aL} {st : List Value} : aX d iX0_hasFoundWordAgain 12 (ls) (.int x :: st) σ Q ↔ (if x = nI 0 then aX d iX0_hasFoundWordAgain 42 (ls) (st) σ Q else aX d iX0_hasFoundWordAgain 15 (ls) (st) σ Q) := by rw [X_if kX0_hasFoundWordAgain_12 (t := 42) (by decide)]; simp only [aCmp_eq]
theorem kX0_hasFoundWordAgain_15 : aCode iX0_hasFoundWordAgain 15 = some (.aload_n 0, 1) := by decide +kernel
theorem sX0_hasFoundWordAgain_15 {d : Nat} {σ : aS} {Q : aQ} {x : Nat} {lt : aL} {st : List Value} : aX d iX0_hasFoundWordAgain 15 (some (.ref x) :: lt) (st) σ Q ↔ aX d iX0_hasFoundWordAgain 16 (some (.ref x) :: lt) (.ref x :: st) σ Q := X_aloadn kX0_hasFoundWordAgain_15 rfl rfl
theorem kX0_hasFoundWordAgain_16 : aCode iX0_hasFoundWordAgain 16 = some (.aload_n 0, 1) := by decide +kernel
theorem sX0_hasFoundWordAgain_16 {d : Nat} {σ : aS} {Q : aQ} {x : Nat} {lt : aL} {st : List Value} : aX d iX0_hasFoundWordAgain 16 (some (.ref x) :: lt) (st) σ Q ↔ aX d iX0_hasFoundWordAgain 17 (some (.ref x) :: lt) (.ref x :: st) σ Q := X_aloadn kX0_hasFoundWordAgain_16 rfl rfl
theorem kX0_hasFoundWordAgain_17 : aCode iX0_hasFoundWordAgain 17 = some (.getfield 25, 3) := by decide +kernel
theorem sX0_hasFoundWordAgain_17 {d : Nat} {σ : aS} {Q : aQ} {a : Nat} {ls : aL} {st : List Value} : aX d iX0_hasFoundWordAgain 17 (ls) (.ref a :: st) σ Q ↔ ∃ v, aFld σ a 0 3 = some v ∧ aX d iX0_hasFoundWordAgain 20 (ls) (v :: st) σ Q := X_getf (w := 97) kX0_hasFoundWordAgain_17 (by decide +kernel)
theorem kX0_hasFoundWordAgain_20 : aCode iX0_hasFoundWordAgain 20 = some (.iconst 1, 1) := by decide +kernel
theorem sX0_hasFoundWordAgain_20 {d : Nat} {σ : aS} {Q : aQ} {ls : aL} {st : List Value} : aX d iX0_hasFoundWordAgain 20 (ls) (st) σ Q ↔ aX d iX0_hasFoundWordAgain 21 (ls) (.int (nI 1) :: st) σ Q := X_iconst kX0_hasFoundWordAgain_20 (by decide +kernel)
theorem kX0_hasFoundWordAgain_21 : aCode iX0_hasFoundWordAgain 21 = some (.isub, 1) := by decide +kernel
theorem sX0_hasFoundWordAgain_21 {d : Nat} {σ : aS} {Q : aQ} {x y : Int32} {ls : aL} {st : List Value} : aX d iX0_hasFoundWordAgain 21 (ls) (.int y :: .int x :: st) σ Q ↔ aX d iX0_hasFoundWordAgain 22 (ls) (.int (x - y) :: st) σ Q := X_isub kX0_hasFoundWordAgain_21
theorem kX0_hasFoundWordAgain_22 : aCode iX0_hasFoundWordAgain 22 = some (.invokevirtual 54, 3) := by decide +kernel
theorem sX0_hasFoundWordAgain_22 {d : Nat} {σ : aS} {Q : aQ} {b : Nat} {p0 : Int32} {ls : aL} : aX (d + 1) iX0_hasFoundWordAgain 22 (ls) (.int p0 :: .ref b :: []) σ Q ↔ aIs σ b 0 ∧ aX d iX0_markOf 0 [some (.ref b), some (.int p0)] [] σ (fun r τ => aX (d + 1) iX0_hasFoundWordAgain 25 (ls) (aret r ([])) τ Q) := X_invv (N := 1) (As := [.int p0]) (w := 436) kX0_hasFoundWordAgain_22 (by decide +kernel) (by decide +kernel) rfl rfl (by simp only [List.length_cons, List.length_nil]; omega) (by simp only [List.length_cons, List.length_nil]; omega) (by decide +kernel) rfl (Nat.le_of_ble_eq_true rfl)
theorem kX0_hasFoundWordAgain_25 : aCode iX0_hasFoundWordAgain 25 = some (.aload_n 0, 1) := by decide +kernel
theorem sX0_hasFoundWordAgain_25 {d : Nat} {σ : aS} {Q : aQ} {x : Nat} {lt : aL} {st : List Value} : aX d iX0_hasFoundWordAgain 25 (some (.ref x) :: lt) (st) σ Q ↔ aX d iX0_hasFoundWordAgain 26 (some (.ref x) :: lt) (.ref x :: st) σ Q := X_aloadn kX0_hasFoundWordAgain_25 rfl rfl
theorem kX0_hasFoundWordAgain_26 : aCode iX0_hasFoundWordAgain 26 = some (.aload_n 0, 1) := by decide +kernel
theorem sX0_hasFoundWordAgain_26 {d : Nat} {σ : aS} {Q : aQ} {x : Nat} {lt : aL} {st : List Value} : aX d iX0_hasFoundWordAgain 26 (some (.ref x) :: lt) (st) σ Q ↔ aX d iX0_hasFoundWordAgain 27 (some (.ref x) :: lt) (.ref x :: st) σ Q := X_aloadn kX0_hasFoundWordAgain_26 rfl rfl
theorem kX0_hasFoundWordAgain_27 : aCode iX0_hasFoundWordAgain 27 = some (.getfield 25, 3) := by decide +kernel
theorem sX0_hasFoundWordAgain_27 {d : Nat} {σ : aS} {Q : aQ} {a : Nat} {ls : aL} {st : List Value} : aX d iX0_hasFoundWordAgain 27 (ls) (.ref a :: st) σ Q ↔ ∃ v, aFld σ a 0 3 = some v ∧ aX d iX0_hasFoundWordAgain 30 (ls) (v :: st) σ Q := X_getf (w := 97) kX0_hasFoundWordAgain_27 (by decide +kernel)
theorem kX0_hasFoundWordAgain_30 : aCode iX0_hasFoundWordAgain 30 = some (.iconst 3, 1) := by decide +kernel
theorem sX0_hasFoundWordAgain_30 {d : Nat} {σ : aS} {Q : aQ} {ls : aL} {st : List Value} : aX d iX0_hasFoundWordAgain 30 (ls) (st) σ Q ↔ aX d iX0_hasFoundWordAgain 31 (ls) (.int (nI 3) :: st) σ Q := X_iconst kX0_hasFoundWordAgain_30 (by decide +kernel)
theorem kX0_hasFoundWordAgain_31 : aCode iX0_hasFoundWordAgain 31 = some (.isub, 1) := by decide +kernel
theorem sX0_hasFoundWordAgain_31 {d : Nat} {σ : aS} {Q : aQ} {x y : Int32} {ls : aL} {st : List Value} : aX d iX0_hasFoundWordAgain 31 (ls) (.int y :: .int x :: st) σ Q ↔ aX d iX0_hasFoundWordAgain 32 (ls) (.int (x - y) :: st) σ Q := X_isub kX0_hasFoundWordAgain_31
theorem kX0_hasFoundWordAgain_32 : aCode iX0_hasFoundWordAgain 32 = some (.invokevirtual 54, 3) := by decide +kernel
theorem sX0_hasFoundWordAgain_32 {d : Nat} {σ : aS} {Q : aQ} {b : Nat} {p0 : Int32} {v0 : Value} {ls : aL} : aX (d + 1) iX0_hasFoundWordAgain 32 (ls) (.int p0 :: .ref b :: v0 :: []) σ Q ↔ aIs σ b 0 ∧ aX d iX0_markOf 0 [some (.ref b), some (.int p0)] [] σ (fun r τ => aX (d + 1) iX0_hasFoundWordAgain 35 (ls) (aret r (v0 :: [])) τ Q) := X_invv (N := 1) (As := [.int p0]) (w := 436) kX0_hasFoundWordAgain_32 (by decide +kernel) (by decide +kernel) rfl rfl (by simp only [List.length_cons, List.length_nil]; omega) (by simp only [List.length_cons, List.length_nil]; omega) (by decide +kernel) rfl (Nat.le_of_ble_eq_true rfl)
theorem kX0_hasFoundWordAgain_35 : aCode iX0_hasFoundWordAgain 35 = some (.if_icmp .ne 7, 3) := by decide +kernel
theorem sX0_hasFoundWordAgain_35 {d : Nat} {σ : aS} {Q : aQ} {x y : Int32} {ls : aL} {st : List Value} : aX d iX0_hasFoundWordAgain 35 (ls) (.int y :: .int x :: st) σ Q ↔ (if ¬ x = y then aX d iX0_hasFoundWordAgain 42 (ls) (st) σ Q else aX d iX0_hasFoundWordAgain 38 (ls) (st) σ Q) := by rw [X_icmp kX0_hasFoundWordAgain_35 (t := 42) (by decide)]; simp only [aCmp_ne]
theorem kX0_hasFoundWordAgain_38 : aCode iX0_hasFoundWordAgain 38 = some (.iconst 1, 1) := by decide +kernel
theorem sX0_hasFoundWordAgain_38 {d : Nat} {σ : aS} {Q : aQ} {ls : aL} {st : List Value} : aX d iX0_hasFoundWordAgain 38 (ls) (st) σ Q ↔ aX d iX0_hasFoundWordAgain 39 (ls) (.int (nI 1) :: st) σ Q := X_iconst kX0_hasFoundWordAgain_38 (by decide +kernel)
theorem kX0_hasFoundWordAgain_39 : aCode iX0_hasFoundWordAgain 39 = some (.goto 4, 3) := by decide +kernel
theorem sX0_hasFoundWordAgain_39 {d : Nat} {σ : aS} {Q : aQ} {ls : aL} {st : List Value} : aX d iX0_hasFoundWordAgain 39 (ls) (st) σ Q ↔ aX d iX0_hasFoundWordAgain 43 (ls) (st) σ Q := X_goto kX0_hasFoundWordAgain_39 (by decide)
theorem kX0_hasFoundWordAgain_42 : aCode iX0_hasFoundWordAgain 42 = some (.iconst 0, 1) := by decide +kernel
theorem sX0_hasFoundWordAgain_42 {d : Nat} {σ : aS} {Q : aQ} {ls : aL} {st : List Value} : aX d iX0_hasFoundWordAgain 42 (ls) (st) σ Q ↔ aX d iX0_hasFoundWordAgain 43 (ls) (.int (nI 0) :: st) σ Q := X_iconst kX0_hasFoundWordAgain_42 (by decide +kernel)
theorem kX0_hasFoundWordAgain_43 : aCode iX0_hasFoundWordAgain 43 = some (.ireturn, 1) := by decide +kernel
theorem sX0_hasFoundWordAgain_43 {d : Nat} {σ : aS} {Q : aQ} {v : Int32} {ls : aL} : aX d iX0_hasFoundWordAgain 43 (ls) ([.int v]) σ Q ↔ (narrow .boolean (.int v) = .int v ∧ Q (some (.int v)) σ) := X_zret kX0_hasFoundWordAgain_43 (by decide +kernel)
theorem kX0_wordChanges_0 : aCode iX0_wordChanges 0 = some (.iconst 0, 1) := by decide +kernel
theorem sX0_wordChanges_0 {d : Nat} {σ : aS} {Q : aQ} {ls : aL} {st : List Value} : aX d iX0_wordChanges 0 (ls) (st) σ Q ↔ aX d iX0_wordChanges 1 (ls) (.int (nI 0) :: st) σ Q := X_iconst kX0_wordChanges_0 (by decide +kernel)
theorem kX0_wordChanges_1 : aCode iX0_wordChanges 1 = some (.istore_n 1, 1) := by decide +kernel
theorem sX0_wordChanges_1 {d : Nat} {σ : aS} {Q : aQ} {l0 lo : Option Value} {x : Int32} {lt : aL} {st : List Value} : aX d iX0_wordChanges 1 (l0 :: lo :: lt) (.int x :: st) σ Q ↔ aX d iX0_wordChanges 2 (aclr l0 :: some (.int x) :: lt) (st) σ Q := X_istoren kX0_wordChanges_1 (by simp only [List.length_cons]; omega)
theorem kX0_wordChanges_2 : aCode iX0_wordChanges 2 = some (.iconst 2, 1) := by decide +kernel
theorem sX0_wordChanges_2 {d : Nat} {σ : aS} {Q : aQ} {ls : aL} {st : List Value} : aX d iX0_wordChanges 2 (ls) (st) σ Q ↔ aX d iX0_wordChanges 3 (ls) (.int (nI 2) :: st) σ Q := X_iconst kX0_wordChanges_2 (by decide +kernel)
theorem kX0_wordChanges_3 : aCode iX0_wordChanges 3 = some (.istore_n 2, 1) := by decide +kernel
theorem sX0_wordChanges_3 {d : Nat} {σ : aS} {Q : aQ} {l0 l1 lo : Option Value} {x : Int32} {lt : aL} {st : List Value} : aX d iX0_wordChanges 3 (l0 :: l1 :: lo :: lt) (.int x :: st) σ Q ↔ aX d iX0_wordChanges 4 (l0 :: aclr l1 :: some (.int x) :: lt) (st) σ Q := X_istoren kX0_wordChanges_3 (by simp only [List.length_cons]; omega)
theorem kX0_wordChanges_4 : aCode iX0_wordChanges 4 = some (.iload_n 2, 1) := by decide +kernel
theorem sX0_wordChanges_4 {d : Nat} {σ : aS} {Q : aQ} {l0 l1 : Option Value} {x : Int32} {lt : aL} {st : List Value} : aX d iX0_wordChanges 4 (l0 :: l1 :: some (.int x) :: lt) (st) σ Q ↔ aX d iX0_wordChanges 5 (l0 :: l1 :: some (.int x) :: lt) (.int x :: st) σ Q := X_iloadn kX0_wordChanges_4 rfl
theorem kX0_wordChanges_5 : aCode iX0_wordChanges 5 = some (.aload_n 0, 1) := by decide +kernel
theorem sX0_wordChanges_5 {d : Nat} {σ : aS} {Q : aQ} {x : Nat} {lt : aL} {st : List Value} : aX d iX0_wordChanges 5 (some (.ref x) :: lt) (st) σ Q ↔ aX d iX0_wordChanges 6 (some (.ref x) :: lt) (.ref x :: st) σ Q := X_aloadn kX0_wordChanges_5 rfl rfl
theorem kX0_wordChanges_6 : aCode iX0_wordChanges 6 = some (.getfield 25, 3) := by decide +kernel
theorem sX0_wordChanges_6 {d : Nat} {σ : aS} {Q : aQ} {a : Nat} {ls : aL} {st : List Value} : aX d iX0_wordChanges 6 (ls) (.ref a :: st) σ Q ↔ ∃ v, aFld σ a 0 3 = some v ∧ aX d iX0_wordChanges 9 (ls) (v :: st) σ Q := X_getf (w := 97) kX0_wordChanges_6 (by decide +kernel)
theorem kX0_wordChanges_9 : aCode iX0_wordChanges 9 = some (.if_icmp .ge 27, 3) := by decide +kernel
theorem sX0_wordChanges_9 {d : Nat} {σ : aS} {Q : aQ} {x y : Int32} {ls : aL} {st : List Value} : aX d iX0_wordChanges 9 (ls) (.int y :: .int x :: st) σ Q ↔ (if y ≤ x then aX d iX0_wordChanges 36 (ls) (st) σ Q else aX d iX0_wordChanges 12 (ls) (st) σ Q) := by rw [X_icmp kX0_wordChanges_9 (t := 36) (by decide)]; simp only [aCmp_ge]
theorem kX0_wordChanges_12 : aCode iX0_wordChanges 12 = some (.aload_n 0, 1) := by decide +kernel
theorem sX0_wordChanges_12 {d : Nat} {σ : aS} {Q : aQ} {x : Nat} {lt : aL} {st : List Value} : aX d iX0_wordChanges 12 (some (.ref x) :: lt) (st) σ Q ↔ aX d iX0_wordChanges 13 (some (.ref x) :: lt) (.ref x :: st) σ Q := X_aloadn kX0_wordChanges_12 rfl rfl
theorem kX0_wordChanges_13 : aCode iX0_wordChanges 13 = some (.iload_n 2, 1) := by decide +kernel
theorem sX0_wordChanges_13 {d : Nat} {σ : aS} {Q : aQ} {l0 l1 : Option Value} {x : Int32} {lt : aL} {st : List Value} : aX d iX0_wordChanges 13 (l0 :: l1 :: some (.int x) :: lt) (st) σ Q ↔ aX d iX0_wordChanges 14 (l0 :: l1 :: some (.int x) :: lt) (.int x :: st) σ Q := X_iloadn kX0_wordChanges_13 rfl
theorem kX0_wordChanges_14 : aCode iX0_wordChanges 14 = some (.invokevirtual 54, 3) := by decide +kernel
theorem sX0_wordChanges_14 {d : Nat} {σ : aS} {Q : aQ} {b : Nat} {p0 : Int32} {ls : aL} : aX (d + 1) iX0_wordChanges 14 (ls) (.int p0 :: .ref b :: []) σ Q ↔ aIs σ b 0 ∧ aX d iX0_markOf 0 [some (.ref b), some (.int p0)] [] σ (fun r τ => aX (d + 1) iX0_wordChanges 17 (ls) (aret r ([])) τ Q) := X_invv (N := 1) (As := [.int p0]) (w := 436) kX0_wordChanges_14 (by decide +kernel) (by decide +kernel) rfl rfl (by simp only [List.length_cons, List.length_nil]; omega) (by simp only [List.length_cons, List.length_nil]; omega) (by decide +kernel) rfl (Nat.le_of_ble_eq_true rfl)
theorem kX0_wordChanges_17 : aCode iX0_wordChanges 17 = some (.aload_n 0, 1) := by decide +kernel
theorem sX0_wordChanges_17 {d : Nat} {σ : aS} {Q : aQ} {x : Nat} {lt : aL} {st : List Value} : aX d iX0_wordChanges 17 (some (.ref x) :: lt) (st) σ Q ↔ aX d iX0_wordChanges 18 (some (.ref x) :: lt) (.ref x :: st) σ Q := X_aloadn kX0_wordChanges_17 rfl rfl
theorem kX0_wordChanges_18 : aCode iX0_wordChanges 18 = some (.iload_n 2, 1) := by decide +kernel
theorem sX0_wordChanges_18 {d : Nat} {σ : aS} {Q : aQ} {l0 l1 : Option Value} {x : Int32} {lt : aL} {st : List Value} : aX d iX0_wordChanges 18 (l0 :: l1 :: some (.int x) :: lt) (st) σ Q ↔ aX d iX0_wordChanges 19 (l0 :: l1 :: some (.int x) :: lt) (.int x :: st) σ Q := X_iloadn kX0_wordChanges_18 rfl
theorem kX0_wordChanges_19 : aCode iX0_wordChanges 19 = some (.iconst 2, 1) := by decide +kernel
theorem sX0_wordChanges_19 {d : Nat} {σ : aS} {Q : aQ} {ls : aL} {st : List Value} : aX d iX0_wordChanges 19 (ls) (st) σ Q ↔ aX d iX0_wordChanges 20 (ls) (.int (nI 2) :: st) σ Q := X_iconst kX0_wordChanges_19 (by decide +kernel)
theorem kX0_wordChanges_20 : aCode iX0_wordChanges 20 = some (.isub, 1) := by decide +kernel
theorem sX0_wordChanges_20 {d : Nat} {σ : aS} {Q : aQ} {x y : Int32} {ls : aL} {st : List Value} : aX d iX0_wordChanges 20 (ls) (.int y :: .int x :: st) σ Q ↔ aX d iX0_wordChanges 21 (ls) (.int (x - y) :: st) σ Q := X_isub kX0_wordChanges_20
theorem kX0_wordChanges_21 : aCode iX0_wordChanges 21 = some (.invokevirtual 54, 3) := by decide +kernel
theorem sX0_wordChanges_21 {d : Nat} {σ : aS} {Q : aQ} {b : Nat} {p0 : Int32} {v0 : Value} {ls : aL} : aX (d + 1) iX0_wordChanges 21 (ls) (.int p0 :: .ref b :: v0 :: []) σ Q ↔ aIs σ b 0 ∧ aX d iX0_markOf 0 [some (.ref b), some (.int p0)] [] σ (fun r τ => aX (d + 1) iX0_wordChanges 24 (ls) (aret r (v0 :: [])) τ Q) := X_invv (N := 1) (As := [.int p0]) (w := 436) kX0_wordChanges_21 (by decide +kernel) (by decide +kernel) rfl rfl (by simp only [List.length_cons, List.length_nil]; omega) (by simp only [List.length_cons, List.length_nil]; omega) (by decide +kernel) rfl (Nat.le_of_ble_eq_true rfl)
theorem kX0_wordChanges_24 : aCode iX0_wordChanges 24 = some (.if_icmp .eq 6, 3) := by decide +kernel
theorem sX0_wordChanges_24 {d : Nat} {σ : aS} {Q : aQ} {x y : Int32} {ls : aL} {st : List Value} : aX d iX0_wordChanges 24 (ls) (.int y :: .int x :: st) σ Q ↔ (if x = y then aX d iX0_wordChanges 30 (ls) (st) σ Q else aX d iX0_wordChanges 27 (ls) (st) σ Q) := by rw [X_icmp kX0_wordChanges_24 (t := 30) (by decide)]; simp only [aCmp_eq]
theorem kX0_wordChanges_27 : aCode iX0_wordChanges 27 = some (.iinc 1 1, 3) := by decide +kernel
theorem sX0_wordChanges_27 {d : Nat} {σ : aS} {Q : aQ} {l0 : Option Value} {x : Int32} {lt : aL} {st : List Value} : aX d iX0_wordChanges 27 (l0 :: some (.int x) :: lt) (st) σ Q ↔ aX d iX0_wordChanges 30 (aclr l0 :: some (.int (x + nI 1)) :: lt) (st) σ Q := X_iinc kX0_wordChanges_27 rfl (by decide +kernel)
theorem kX0_wordChanges_30 : aCode iX0_wordChanges 30 = some (.iinc 2 2, 3) := by decide +kernel
theorem sX0_wordChanges_30 {d : Nat} {σ : aS} {Q : aQ} {l0 l1 : Option Value} {x : Int32} {lt : aL} {st : List Value} : aX d iX0_wordChanges 30 (l0 :: l1 :: some (.int x) :: lt) (st) σ Q ↔ aX d iX0_wordChanges 33 (l0 :: aclr l1 :: some (.int (x + nI 2)) :: lt) (st) σ Q := X_iinc kX0_wordChanges_30 rfl (by decide +kernel)
theorem kX0_wordChanges_33 : aCode iX0_wordChanges 33 = some (.goto (-29), 3) := by decide +kernel
theorem sX0_wordChanges_33 {d : Nat} {σ : aS} {Q : aQ} {ls : aL} {st : List Value} : aX d iX0_wordChanges 33 (ls) (st) σ Q ↔ aX d iX0_wordChanges 4 (ls) (st) σ Q := X_goto kX0_wordChanges_33 (by decide)
theorem kX0_wordChanges_36 : aCode iX0_wordChanges 36 = some (.iload_n 1, 1) := by decide +kernel
theorem sX0_wordChanges_36 {d : Nat} {σ : aS} {Q : aQ} {l0 : Option Value} {x : Int32} {lt : aL} {st : List Value} : aX d iX0_wordChanges 36 (l0 :: some (.int x) :: lt) (st) σ Q ↔ aX d iX0_wordChanges 37 (l0 :: some (.int x) :: lt) (.int x :: st) σ Q := X_iloadn kX0_wordChanges_36 rfl
theorem kX0_wordChanges_37 : aCode iX0_wordChanges 37 = some (.ireturn, 1) := by decide +kernel
theorem sX0_wordChanges_37 {d : Nat} {σ : aS} {Q : aQ} {v : Int32} {ls : aL} : aX d iX0_wordChanges 37 (ls) ([.int v]) σ Q ↔ Q (some (.int v)) σ := X_iret kX0_wordChanges_37 (by decide +kernel)
theorem kX0_seatSet_0 : aCode iX0_seatSet 0 = some (.iconst 0, 1) := by decide +kernel
theorem sX0_seatSet_0 {d : Nat} {σ : aS} {Q : aQ} {ls : aL} {st : List Value} : aX d iX0_seatSet 0 (ls) (st) σ Q ↔ aX d iX0_seatSet 1 (ls) (.int (nI 0) :: st) σ Q := X_iconst kX0_seatSet_0 (by decide +kernel)
theorem kX0_seatSet_1 : aCode iX0_seatSet 1 = some (.istore_n 1, 1) := by decide +kernel
theorem sX0_seatSet_1 {d : Nat} {σ : aS} {Q : aQ} {l0 lo : Option Value} {x : Int32} {lt : aL} {st : List Value} : aX d iX0_seatSet 1 (l0 :: lo :: lt) (.int x :: st) σ Q ↔ aX d iX0_seatSet 2 (aclr l0 :: some (.int x) :: lt) (st) σ Q := X_istoren kX0_seatSet_1 (by simp only [List.length_cons]; omega)
theorem kX0_seatSet_2 : aCode iX0_seatSet 2 = some (.iconst 0, 1) := by decide +kernel
theorem sX0_seatSet_2 {d : Nat} {σ : aS} {Q : aQ} {ls : aL} {st : List Value} : aX d iX0_seatSet 2 (ls) (st) σ Q ↔ aX d iX0_seatSet 3 (ls) (.int (nI 0) :: st) σ Q := X_iconst kX0_seatSet_2 (by decide +kernel)
theorem kX0_seatSet_3 : aCode iX0_seatSet 3 = some (.istore_n 2, 1) := by decide +kernel
theorem sX0_seatSet_3 {d : Nat} {σ : aS} {Q : aQ} {l0 l1 lo : Option Value} {x : Int32} {lt : aL} {st : List Value} : aX d iX0_seatSet 3 (l0 :: l1 :: lo :: lt) (.int x :: st) σ Q ↔ aX d iX0_seatSet 4 (l0 :: aclr l1 :: some (.int x) :: lt) (st) σ Q := X_istoren kX0_seatSet_3 (by simp only [List.length_cons]; omega)
theorem kX0_seatSet_4 : aCode iX0_seatSet 4 = some (.iload_n 2, 1) := by decide +kernel
theorem sX0_seatSet_4 {d : Nat} {σ : aS} {Q : aQ} {l0 l1 : Option Value} {x : Int32} {lt : aL} {st : List Value} : aX d iX0_seatSet 4 (l0 :: l1 :: some (.int x) :: lt) (st) σ Q ↔ aX d iX0_seatSet 5 (l0 :: l1 :: some (.int x) :: lt) (.int x :: st) σ Q := X_iloadn kX0_seatSet_4 rfl
theorem kX0_seatSet_5 : aCode iX0_seatSet 5 = some (.aload_n 0, 1) := by decide +kernel
theorem sX0_seatSet_5 {d : Nat} {σ : aS} {Q : aQ} {x : Nat} {lt : aL} {st : List Value} : aX d iX0_seatSet 5 (some (.ref x) :: lt) (st) σ Q ↔ aX d iX0_seatSet 6 (some (.ref x) :: lt) (.ref x :: st) σ Q := X_aloadn kX0_seatSet_5 rfl rfl
theorem kX0_seatSet_6 : aCode iX0_seatSet 6 = some (.getfield 25, 3) := by decide +kernel
theorem sX0_seatSet_6 {d : Nat} {σ : aS} {Q : aQ} {a : Nat} {ls : aL} {st : List Value} : aX d iX0_seatSet 6 (ls) (.ref a :: st) σ Q ↔ ∃ v, aFld σ a 0 3 = some v ∧ aX d iX0_seatSet 9 (ls) (v :: st) σ Q := X_getf (w := 97) kX0_seatSet_6 (by decide +kernel)
theorem kX0_seatSet_9 : aCode iX0_seatSet 9 = some (.if_icmp .ge 22, 3) := by decide +kernel
theorem sX0_seatSet_9 {d : Nat} {σ : aS} {Q : aQ} {x y : Int32} {ls : aL} {st : List Value} : aX d iX0_seatSet 9 (ls) (.int y :: .int x :: st) σ Q ↔ (if y ≤ x then aX d iX0_seatSet 31 (ls) (st) σ Q else aX d iX0_seatSet 12 (ls) (st) σ Q) := by rw [X_icmp kX0_seatSet_9 (t := 31) (by decide)]; simp only [aCmp_ge]
theorem kX0_seatSet_12 : aCode iX0_seatSet 12 = some (.iload_n 1, 1) := by decide +kernel
theorem sX0_seatSet_12 {d : Nat} {σ : aS} {Q : aQ} {l0 : Option Value} {x : Int32} {lt : aL} {st : List Value} : aX d iX0_seatSet 12 (l0 :: some (.int x) :: lt) (st) σ Q ↔ aX d iX0_seatSet 13 (l0 :: some (.int x) :: lt) (.int x :: st) σ Q := X_iloadn kX0_seatSet_12 rfl
theorem kX0_seatSet_13 : aCode iX0_seatSet 13 = some (.iconst 1, 1) := by decide +kernel
theorem sX0_seatSet_13 {d : Nat} {σ : aS} {Q : aQ} {ls : aL} {st : List Value} : aX d iX0_seatSet 13 (ls) (st) σ Q ↔ aX d iX0_seatSet 14 (ls) (.int (nI 1) :: st) σ Q := X_iconst kX0_seatSet_13 (by decide +kernel)
theorem kX0_seatSet_14 : aCode iX0_seatSet 14 = some (.aload_n 0, 1) := by decide +kernel
theorem sX0_seatSet_14 {d : Nat} {σ : aS} {Q : aQ} {x : Nat} {lt : aL} {st : List Value} : aX d iX0_seatSet 14 (some (.ref x) :: lt) (st) σ Q ↔ aX d iX0_seatSet 15 (some (.ref x) :: lt) (.ref x :: st) σ Q := X_aloadn kX0_seatSet_14 rfl rfl
theorem kX0_seatSet_15 : aCode iX0_seatSet 15 = some (.getfield 9, 3) := by decide +kernel
theorem sX0_seatSet_15 {d : Nat} {σ : aS} {Q : aQ} {a : Nat} {ls : aL} {st : List Value} : aX d iX0_seatSet 15 (ls) (.ref a :: st) σ Q ↔ ∃ v, aFld σ a 0 0 = some v ∧ aX d iX0_seatSet 18 (ls) (v :: st) σ Q := X_getf (w := 92) kX0_seatSet_15 (by decide +kernel)
theorem kX0_seatSet_18 : aCode iX0_seatSet 18 = some (.iload_n 2, 1) := by decide +kernel
theorem sX0_seatSet_18 {d : Nat} {σ : aS} {Q : aQ} {l0 l1 : Option Value} {x : Int32} {lt : aL} {st : List Value} : aX d iX0_seatSet 18 (l0 :: l1 :: some (.int x) :: lt) (st) σ Q ↔ aX d iX0_seatSet 19 (l0 :: l1 :: some (.int x) :: lt) (.int x :: st) σ Q := X_iloadn kX0_seatSet_18 rfl
theorem kX0_seatSet_19 : aCode iX0_seatSet 19 = some (.invokestatic 46, 3) := by decide +kernel
theorem sX0_seatSet_19 {d : Nat} {σ : aS} {Q : aQ} {p0 : Nat} {p1 : Int32} {v0 v1 : Value} {ls : aL} : aX (d + 1) iX0_seatSet 19 (ls) (.int p1 :: .ref p0 :: v0 :: v1 :: []) σ Q ↔ aX d iX6_valueAt 0 [some (.ref p0), some (.int p1)] [] σ (fun r τ => aX (d + 1) iX0_seatSet 22 (ls) (aret r (v0 :: v1 :: [])) τ Q) := X_invs (N := 2) (As := [.int p1, .ref p0]) (k := 4) (w := 394) kX0_seatSet_19 (by decide +kernel) (by decide) (by decide +kernel) rfl rfl (by simp only [List.length_cons, List.length_nil]; omega) (by simp only [List.length_cons, List.length_nil]; omega) rfl (Nat.le_of_ble_eq_true rfl)
theorem kX0_seatSet_22 : aCode iX0_seatSet 22 = some (.ishl, 1) := by decide +kernel
theorem sX0_seatSet_22 {d : Nat} {σ : aS} {Q : aQ} {x y : Int32} {ls : aL} {st : List Value} : aX d iX0_seatSet 22 (ls) (.int y :: .int x :: st) σ Q ↔ aX d iX0_seatSet 23 (ls) (.int (x <<< (y &&& 31)) :: st) σ Q := X_ishl kX0_seatSet_22
theorem kX0_seatSet_23 : aCode iX0_seatSet 23 = some (.ior, 1) := by decide +kernel
theorem sX0_seatSet_23 {d : Nat} {σ : aS} {Q : aQ} {x y : Int32} {ls : aL} {st : List Value} : aX d iX0_seatSet 23 (ls) (.int y :: .int x :: st) σ Q ↔ aX d iX0_seatSet 24 (ls) (.int (x ||| y) :: st) σ Q := X_ior kX0_seatSet_23
theorem kX0_seatSet_24 : aCode iX0_seatSet 24 = some (.istore_n 1, 1) := by decide +kernel
theorem sX0_seatSet_24 {d : Nat} {σ : aS} {Q : aQ} {l0 lo : Option Value} {x : Int32} {lt : aL} {st : List Value} : aX d iX0_seatSet 24 (l0 :: lo :: lt) (.int x :: st) σ Q ↔ aX d iX0_seatSet 25 (aclr l0 :: some (.int x) :: lt) (st) σ Q := X_istoren kX0_seatSet_24 (by simp only [List.length_cons]; omega)
theorem kX0_seatSet_25 : aCode iX0_seatSet 25 = some (.iinc 2 1, 3) := by decide +kernel
theorem sX0_seatSet_25 {d : Nat} {σ : aS} {Q : aQ} {l0 l1 : Option Value} {x : Int32} {lt : aL} {st : List Value} : aX d iX0_seatSet 25 (l0 :: l1 :: some (.int x) :: lt) (st) σ Q ↔ aX d iX0_seatSet 28 (l0 :: aclr l1 :: some (.int (x + nI 1)) :: lt) (st) σ Q := X_iinc kX0_seatSet_25 rfl (by decide +kernel)
theorem kX0_seatSet_28 : aCode iX0_seatSet 28 = some (.goto (-24), 3) := by decide +kernel
theorem sX0_seatSet_28 {d : Nat} {σ : aS} {Q : aQ} {ls : aL} {st : List Value} : aX d iX0_seatSet 28 (ls) (st) σ Q ↔ aX d iX0_seatSet 4 (ls) (st) σ Q := X_goto kX0_seatSet_28 (by decide)
theorem kX0_seatSet_31 : aCode iX0_seatSet 31 = some (.iload_n 1, 1) := by decide +kernel
theorem sX0_seatSet_31 {d : Nat} {σ : aS} {Q : aQ} {l0 : Option Value} {x : Int32} {lt : aL} {st : List Value} : aX d iX0_seatSet 31 (l0 :: some (.int x) :: lt) (st) σ Q ↔ aX d iX0_seatSet 32 (l0 :: some (.int x) :: lt) (.int x :: st) σ Q := X_iloadn kX0_seatSet_31 rfl
theorem kX0_seatSet_32 : aCode iX0_seatSet 32 = some (.ireturn, 1) := by decide +kernel
theorem sX0_seatSet_32 {d : Nat} {σ : aS} {Q : aQ} {v : Int32} {ls : aL} : aX d iX0_seatSet 32 (ls) ([.int v]) σ Q ↔ Q (some (.int v)) σ := X_iret kX0_seatSet_32 (by decide +kernel)
theorem kX1_init_0 : aCode iX1_init 0 = some (.aload_n 0, 1) := by decide +kernel
theorem sX1_init_0 {d : Nat} {σ : aS} {Q : aQ} {x : Nat} {lt : aL} {st : List Value} : aX d iX1_init 0 (some (.ref x) :: lt) (st) σ Q ↔ aX d iX1_init 1 (some (.ref x) :: lt) (.ref x :: st) σ Q := X_aloadn kX1_init_0 rfl rfl
theorem kX1_init_1 : aCode iX1_init 1 = some (.invokespecial 3, 3) := by decide +kernel
theorem sX1_init_1 {d : Nat} {σ : aS} {Q : aQ} {b : Nat} {ls : aL} : aX d iX1_init 1 (ls) (.ref b :: []) σ Q ↔ aX d iX1_init 4 (ls) ([]) σ Q := X_obj (t := 999) (w := 158) kX1_init_1 (by decide +kernel) (by simp only [List.length_cons, List.length_nil]; omega)
theorem kX1_init_4 : aCode iX1_init 4 = some (.aload_n 0, 1) := by decide +kernel
theorem sX1_init_4 {d : Nat} {σ : aS} {Q : aQ} {x : Nat} {lt : aL} {st : List Value} : aX d iX1_init 4 (some (.ref x) :: lt) (st) σ Q ↔ aX d iX1_init 5 (some (.ref x) :: lt) (.ref x :: st) σ Q := X_aloadn kX1_init_4 rfl rfl
theorem kX1_init_5 : aCode iX1_init 5 = some (.new 9, 3) := by decide +kernel
theorem sX1_init_5 {d : Nat} {σ : aS} {Q : aQ} {ls : aL} {st : List Value} : aX d iX1_init 5 (ls) (st) σ Q ↔ aX d iX1_init 8 (ls) (.ref σ.2.1 :: st) (anew σ (eO 0 [.null, .null, .int 0, .int 0, .int 0, .int 0, .int 0]) 7) Q := X_new (w := (159, 87, 62)) kX1_init_5 (by decide +kernel) (by decide +kernel) (by decide +kernel)
theorem kX1_init_8 : aCode iX1_init 8 = some (.dup, 1) := by decide +kernel
theorem sX1_init_8 {d : Nat} {σ : aS} {Q : aQ} {x : Nat} {ls : aL} {st : List Value} : aX d iX1_init 8 (ls) (.ref x :: st) σ Q ↔ aX d iX1_init 9 (ls) (.ref x :: .ref x :: st) σ Q := X_dup kX1_init_8 rfl
theorem sX1_init_8i {d : Nat} {σ : aS} {Q : aQ} {x : Int32} {ls : aL} {st : List Value} : aX d iX1_init 8 (ls) (.int x :: st) σ Q ↔ aX d iX1_init 9 (ls) (.int x :: .int x :: st) σ Q := X_dup kX1_init_8 rfl
theorem kX1_init_9 : aCode iX1_init 9 = some (.invokespecial 11, 3) := by decide +kernel
theorem sX1_init_9 {d : Nat} {σ : aS} {Q : aQ} {b : Nat} {v0 v1 : Value} {ls : aL} : aX (d + 1) iX1_init 9 (ls) (.ref b :: v0 :: v1 :: []) σ Q ↔ aIs σ b 0 ∧ aX d iX0_init 0 [some (.ref b)] [] σ (fun r τ => aX (d + 1) iX1_init 12 (ls) (aret r (v0 :: v1 :: [])) τ Q) := X_invi (N := 0) (As := []) (k := 3) (w := 160) kX1_init_9 (by decide +kernel) (by decide) (by decide +kernel) rfl rfl (by simp only [List.length_cons, List.length_nil]; omega) (by simp only [List.length_cons, List.length_nil]; omega) (by decide +kernel) rfl (Nat.le_of_ble_eq_true rfl)
theorem kX1_init_12 : aCode iX1_init 12 = some (.putfield 12, 3) := by decide +kernel
theorem sX1_init_12 {d : Nat} {σ : aS} {Q : aQ} {x : Nat} {a : Nat} {ls : aL} {st : List Value} : aX d iX1_init 12 (ls) (.ref x :: .ref a :: st) σ Q ↔ ∃ fs, aFds σ a 1 = some fs ∧ 0 < fs.length ∧ aX d iX1_init 15 (ls) (st) (aput σ a (eO 1 (fs.set 0 (.ref x)))) Q := X_putf (w := 161) kX1_init_12 (by decide +kernel) (aFit_R (by decide +kernel)) (by decide +kernel)
theorem kX1_init_15 : aCode iX1_init 15 = some (.aload_n 0, 1) := by decide +kernel
theorem sX1_init_15 {d : Nat} {σ : aS} {Q : aQ} {x : Nat} {lt : aL} {st : List Value} : aX d iX1_init 15 (some (.ref x) :: lt) (st) σ Q ↔ aX d iX1_init 16 (some (.ref x) :: lt) (.ref x :: st) σ Q := X_aloadn kX1_init_15 rfl rfl
theorem kX1_init_16 : aCode iX1_init 16 = some (.bipush 8, 2) := by decide +kernel
theorem sX1_init_16 {d : Nat} {σ : aS} {Q : aQ} {ls : aL} {st : List Value} : aX d iX1_init 16 (ls) (st) σ Q ↔ aX d iX1_init 18 (ls) (.int (nI 8) :: st) σ Q := X_bipush kX1_init_16 (by decide +kernel)
theorem kX1_init_18 : aCode iX1_init 18 = some (.newarray .int, 2) := by decide +kernel
theorem sX1_init_18 {d : Nat} {σ : aS} {Q : aQ} {m : Nat} {ls : aL} {st : List Value} (hm : m ≤ 1000000) : aX d iX1_init 18 (ls) (.int (nI m) :: st) σ Q ↔ aX d iX1_init 20 (ls) (.ref σ.2.1 :: st) (anew σ (eI m (fun _ => 0)) m) Q := X_newa kX1_init_18 hm
theorem kX1_init_20 : aCode iX1_init 20 = some (.putfield 18, 3) := by decide +kernel
theorem sX1_init_20 {d : Nat} {σ : aS} {Q : aQ} {x : Nat} {a : Nat} {ls : aL} {st : List Value} : aX d iX1_init 20 (ls) (.ref x :: .ref a :: st) σ Q ↔ ∃ fs, aFds σ a 1 = some fs ∧ 1 < fs.length ∧ aX d iX1_init 23 (ls) (st) (aput σ a (eO 1 (fs.set 1 (.ref x)))) Q := X_putf (w := 163) kX1_init_20 (by decide +kernel) (aFit_R (by decide +kernel)) (by decide +kernel)
theorem kX1_init_23 : aCode iX1_init 23 = some (.return_, 1) := by decide +kernel
theorem sX1_init_23 {d : Nat} {σ : aS} {Q : aQ} {ls : aL} : aX d iX1_init 23 (ls) ([]) σ Q ↔ Q none σ := X_vret kX1_init_23 (by decide +kernel)
theorem kX1_follow_0 : aCode iX1_follow 0 = some (.aload_n 0, 1) := by decide +kernel
theorem sX1_follow_0 {d : Nat} {σ : aS} {Q : aQ} {x : Nat} {lt : aL} {st : List Value} : aX d iX1_follow 0 (some (.ref x) :: lt) (st) σ Q ↔ aX d iX1_follow 1 (some (.ref x) :: lt) (.ref x :: st) σ Q := X_aloadn kX1_follow_0 rfl rfl
theorem kX1_follow_1 : aCode iX1_follow 1 = some (.getfield 12, 3) := by decide +kernel
theorem sX1_follow_1 {d : Nat} {σ : aS} {Q : aQ} {a : Nat} {ls : aL} {st : List Value} : aX d iX1_follow 1 (ls) (.ref a :: st) σ Q ↔ ∃ v, aFld σ a 1 0 = some v ∧ aX d iX1_follow 4 (ls) (v :: st) σ Q := X_getf (w := 161) kX1_follow_1 (by decide +kernel)
theorem kX1_follow_4 : aCode iX1_follow 4 = some (.aload_n 2, 1) := by decide +kernel
theorem sX1_follow_4 {d : Nat} {σ : aS} {Q : aQ} {l0 l1 : Option Value} {x : Nat} {lt : aL} {st : List Value} : aX d iX1_follow 4 (l0 :: l1 :: some (.ref x) :: lt) (st) σ Q ↔ aX d iX1_follow 5 (l0 :: l1 :: some (.ref x) :: lt) (.ref x :: st) σ Q := X_aloadn kX1_follow_4 rfl rfl
theorem sX1_follow_4n {d : Nat} {σ : aS} {Q : aQ} {l0 l1 : Option Value} {lt : aL} {st : List Value} : aX d iX1_follow 4 (l0 :: l1 :: some .null :: lt) (st) σ Q ↔ aX d iX1_follow 5 (l0 :: l1 :: some .null :: lt) (.null :: st) σ Q := X_aloadn kX1_follow_4 rfl rfl
theorem kX1_follow_5 : aCode iX1_follow 5 = some (.invokevirtual 22, 3) := by decide +kernel
theorem sX1_follow_5 {d : Nat} {σ : aS} {Q : aQ} {b : Nat} {p0 : Nat} {ls : aL} : aX (d + 1) iX1_follow 5 (ls) (.ref p0 :: .ref b :: []) σ Q ↔ aIs σ b 0 ∧ aX d iX0_copyFrom 0 [some (.ref b), some (.ref p0)] [] σ (fun r τ => aX (d + 1) iX1_follow 8 (ls) (aret r ([])) τ Q) := X_invv (N := 1) (As := [.ref p0]) (w := 518) kX1_follow_5 (by decide +kernel) (by decide +kernel) rfl rfl (by simp only [List.length_cons, List.length_nil]; omega) (by simp only [List.length_cons, List.length_nil]; omega) (by decide +kernel) rfl (Nat.le_of_ble_eq_true rfl)
theorem kX1_follow_8 : aCode iX1_follow 8 = some (.aload_n 0, 1) := by decide +kernel
theorem sX1_follow_8 {d : Nat} {σ : aS} {Q : aQ} {x : Nat} {lt : aL} {st : List Value} : aX d iX1_follow 8 (some (.ref x) :: lt) (st) σ Q ↔ aX d iX1_follow 9 (some (.ref x) :: lt) (.ref x :: st) σ Q := X_aloadn kX1_follow_8 rfl rfl
theorem kX1_follow_9 : aCode iX1_follow 9 = some (.aload_n 1, 1) := by decide +kernel
theorem sX1_follow_9 {d : Nat} {σ : aS} {Q : aQ} {l0 : Option Value} {x : Nat} {lt : aL} {st : List Value} : aX d iX1_follow 9 (l0 :: some (.ref x) :: lt) (st) σ Q ↔ aX d iX1_follow 10 (l0 :: some (.ref x) :: lt) (.ref x :: st) σ Q := X_aloadn kX1_follow_9 rfl rfl
theorem sX1_follow_9n {d : Nat} {σ : aS} {Q : aQ} {l0 : Option Value} {lt : aL} {st : List Value} : aX d iX1_follow 9 (l0 :: some .null :: lt) (st) σ Q ↔ aX d iX1_follow 10 (l0 :: some .null :: lt) (.null :: st) σ Q := X_aloadn kX1_follow_9 rfl rfl
theorem kX1_follow_10 : aCode iX1_follow 10 = some (.invokevirtual 26, 3) := by decide +kernel
theorem sX1_follow_10 {d : Nat} {σ : aS} {Q : aQ} {b : Nat} {p0 : Nat} {ls : aL} : aX (d + 1) iX1_follow 10 (ls) (.ref p0 :: .ref b :: []) σ Q ↔ aIs σ b 1 ∧ aX d iX1_playToEnd 0 [some (.ref b), some (.ref p0)] [] σ (fun r τ => aX (d + 1) iX1_follow 13 (ls) (aret r ([])) τ Q) := X_invv (N := 1) (As := [.ref p0]) (w := 519) kX1_follow_10 (by decide +kernel) (by decide +kernel) rfl rfl (by simp only [List.length_cons, List.length_nil]; omega) (by simp only [List.length_cons, List.length_nil]; omega) (by decide +kernel) rfl (Nat.le_of_ble_eq_true rfl)
theorem kX1_follow_13 : aCode iX1_follow 13 = some (.return_, 1) := by decide +kernel
theorem sX1_follow_13 {d : Nat} {σ : aS} {Q : aQ} {ls : aL} : aX d iX1_follow 13 (ls) ([]) σ Q ↔ Q none σ := X_vret kX1_follow_13 (by decide +kernel)
theorem kX1_followAll_0 : aCode iX1_followAll 0 = some (.aload_n 1, 1) := by decide +kernel
theorem sX1_followAll_0 {d : Nat} {σ : aS} {Q : aQ} {l0 : Option Value} {x : Nat} {lt : aL} {st : List Value} : aX d iX1_followAll 0 (l0 :: some (.ref x) :: lt) (st) σ Q ↔ aX d iX1_followAll 1 (l0 :: some (.ref x) :: lt) (.ref x :: st) σ Q := X_aloadn kX1_followAll_0 rfl rfl
theorem sX1_followAll_0n {d : Nat} {σ : aS} {Q : aQ} {l0 : Option Value} {lt : aL} {st : List Value} : aX d iX1_followAll 0 (l0 :: some .null :: lt) (st) σ Q ↔ aX d iX1_followAll 1 (l0 :: some .null :: lt) (.null :: st) σ Q := X_aloadn kX1_followAll_0 rfl rfl
theorem kX1_followAll_1 : aCode iX1_followAll 1 = some (.getfield 30, 3) := by decide +kernel
theorem sX1_followAll_1 {d : Nat} {σ : aS} {Q : aQ} {a : Nat} {ls : aL} {st : List Value} : aX d iX1_followAll 1 (ls) (.ref a :: st) σ Q ↔ ∃ v, aFld σ a 5 2 = some v ∧ aX d iX1_followAll 4 (ls) (v :: st) σ Q := X_getf (w := 128) kX1_followAll_1 (by decide +kernel)
theorem kX1_followAll_4 : aCode iX1_followAll 4 = some (.aload_n 0, 1) := by decide +kernel
theorem sX1_followAll_4 {d : Nat} {σ : aS} {Q : aQ} {x : Nat} {lt : aL} {st : List Value} : aX d iX1_followAll 4 (some (.ref x) :: lt) (st) σ Q ↔ aX d iX1_followAll 5 (some (.ref x) :: lt) (.ref x :: st) σ Q := X_aloadn kX1_followAll_4 rfl rfl
theorem kX1_followAll_5 : aCode iX1_followAll 5 = some (.getfield 18, 3) := by decide +kernel
theorem sX1_followAll_5 {d : Nat} {σ : aS} {Q : aQ} {a : Nat} {ls : aL} {st : List Value} : aX d iX1_followAll 5 (ls) (.ref a :: st) σ Q ↔ ∃ v, aFld σ a 1 1 = some v ∧ aX d iX1_followAll 8 (ls) (v :: st) σ Q := X_getf (w := 163) kX1_followAll_5 (by decide +kernel)
theorem kX1_followAll_8 : aCode iX1_followAll 8 = some (.invokestatic 33, 3) := by decide +kernel
theorem sX1_followAll_8 {d : Nat} {σ : aS} {Q : aQ} {p0 : Nat} {p1 : Nat} {ls : aL} : aX (d + 1) iX1_followAll 8 (ls) (.ref p1 :: .ref p0 :: []) σ Q ↔ aX d iX6_copyRow 0 [some (.ref p0), some (.ref p1)] [] σ (fun r τ => aX (d + 1) iX1_followAll 11 (ls) (aret r ([])) τ Q) := X_invs (N := 2) (As := [.ref p1, .ref p0]) (k := 4) (w := 545) kX1_followAll_8 (by decide +kernel) (by decide) (by decide +kernel) rfl rfl (by simp only [List.length_cons, List.length_nil]; omega) (by simp only [List.length_cons, List.length_nil]; omega) rfl (Nat.le_of_ble_eq_true rfl)
theorem kX1_followAll_11 : aCode iX1_followAll 11 = some (.iconst 0, 1) := by decide +kernel
theorem sX1_followAll_11 {d : Nat} {σ : aS} {Q : aQ} {ls : aL} {st : List Value} : aX d iX1_followAll 11 (ls) (st) σ Q ↔ aX d iX1_followAll 12 (ls) (.int (nI 0) :: st) σ Q := X_iconst kX1_followAll_11 (by decide +kernel)
theorem kX1_followAll_12 : aCode iX1_followAll 12 = some (.istore_n 2, 1) := by decide +kernel
theorem sX1_followAll_12 {d : Nat} {σ : aS} {Q : aQ} {l0 l1 lo : Option Value} {x : Int32} {lt : aL} {st : List Value} : aX d iX1_followAll 12 (l0 :: l1 :: lo :: lt) (.int x :: st) σ Q ↔ aX d iX1_followAll 13 (l0 :: aclr l1 :: some (.int x) :: lt) (st) σ Q := X_istoren kX1_followAll_12 (by simp only [List.length_cons]; omega)
theorem kX1_followAll_13 : aCode iX1_followAll 13 = some (.iload_n 2, 1) := by decide +kernel
theorem sX1_followAll_13 {d : Nat} {σ : aS} {Q : aQ} {l0 l1 : Option Value} {x : Int32} {lt : aL} {st : List Value} : aX d iX1_followAll 13 (l0 :: l1 :: some (.int x) :: lt) (st) σ Q ↔ aX d iX1_followAll 14 (l0 :: l1 :: some (.int x) :: lt) (.int x :: st) σ Q := X_iloadn kX1_followAll_13 rfl
theorem kX1_followAll_14 : aCode iX1_followAll 14 = some (.aload_n 1, 1) := by decide +kernel
theorem sX1_followAll_14 {d : Nat} {σ : aS} {Q : aQ} {l0 : Option Value} {x : Nat} {lt : aL} {st : List Value} : aX d iX1_followAll 14 (l0 :: some (.ref x) :: lt) (st) σ Q ↔ aX d iX1_followAll 15 (l0 :: some (.ref x) :: lt) (.ref x :: st) σ Q := X_aloadn kX1_followAll_14 rfl rfl
theorem sX1_followAll_14n {d : Nat} {σ : aS} {Q : aQ} {l0 : Option Value} {lt : aL} {st : List Value} : aX d iX1_followAll 14 (l0 :: some .null :: lt) (st) σ Q ↔ aX d iX1_followAll 15 (l0 :: some .null :: lt) (.null :: st) σ Q := X_aloadn kX1_followAll_14 rfl rfl
theorem kX1_followAll_15 : aCode iX1_followAll 15 = some (.getfield 37, 3) := by decide +kernel
theorem sX1_followAll_15 {d : Nat} {σ : aS} {Q : aQ} {a : Nat} {ls : aL} {st : List Value} : aX d iX1_followAll 15 (ls) (.ref a :: st) σ Q ↔ ∃ v, aFld σ a 5 5 = some v ∧ aX d iX1_followAll 18 (ls) (v :: st) σ Q := X_getf (w := 134) kX1_followAll_15 (by decide +kernel)
theorem kX1_followAll_18 : aCode iX1_followAll 18 = some (.if_icmp .ge 32, 3) := by decide +kernel
theorem sX1_followAll_18 {d : Nat} {σ : aS} {Q : aQ} {x y : Int32} {ls : aL} {st : List Value} : aX d iX1_followAll 18 (ls) (.int y :: .int x :: st) σ Q ↔ (if y ≤ x then aX d iX1_followAll 50 (ls) (st) σ Q else aX d iX1_followAll 21 (ls) (st) σ Q) := by rw [X_icmp kX1_followAll_18 (t := 50) (by decide)]; simp only [aCmp_ge]
theorem kX1_followAll_21 : aCode iX1_followAll 21 = some (.aload_n 1, 1) := by decide +kernel
theorem sX1_followAll_21 {d : Nat} {σ : aS} {Q : aQ} {l0 : Option Value} {x : Nat} {lt : aL} {st : List Value} : aX d iX1_followAll 21 (l0 :: some (.ref x) :: lt) (st) σ Q ↔ aX d iX1_followAll 22 (l0 :: some (.ref x) :: lt) (.ref x :: st) σ Q := X_aloadn kX1_followAll_21 rfl rfl
theorem sX1_followAll_21n {d : Nat} {σ : aS} {Q : aQ} {l0 : Option Value} {lt : aL} {st : List Value} : aX d iX1_followAll 21 (l0 :: some .null :: lt) (st) σ Q ↔ aX d iX1_followAll 22 (l0 :: some .null :: lt) (.null :: st) σ Q := X_aloadn kX1_followAll_21 rfl rfl
theorem kX1_followAll_22 : aCode iX1_followAll 22 = some (.iload_n 2, 1) := by decide +kernel
theorem sX1_followAll_22 {d : Nat} {σ : aS} {Q : aQ} {l0 l1 : Option Value} {x : Int32} {lt : aL} {st : List Value} : aX d iX1_followAll 22 (l0 :: l1 :: some (.int x) :: lt) (st) σ Q ↔ aX d iX1_followAll 23 (l0 :: l1 :: some (.int x) :: lt) (.int x :: st) σ Q := X_iloadn kX1_followAll_22 rfl
theorem kX1_followAll_23 : aCode iX1_followAll 23 = some (.invokevirtual 41, 3) := by decide +kernel
theorem sX1_followAll_23 {d : Nat} {σ : aS} {Q : aQ} {b : Nat} {p0 : Int32} {ls : aL} : aX (d + 1) iX1_followAll 23 (ls) (.int p0 :: .ref b :: []) σ Q ↔ aIs σ b 5 ∧ aX d iX5_albumAt 0 [some (.ref b), some (.int p0)] [] σ (fun r τ => aX (d + 1) iX1_followAll 26 (ls) (aret r ([])) τ Q) := X_invv (N := 1) (As := [.int p0]) (w := 546) kX1_followAll_23 (by decide +kernel) (by decide +kernel) rfl rfl (by simp only [List.length_cons, List.length_nil]; omega) (by simp only [List.length_cons, List.length_nil]; omega) (by decide +kernel) rfl (Nat.le_of_ble_eq_true rfl)
theorem kX1_followAll_26 : aCode iX1_followAll 26 = some (.astore_n 3, 1) := by decide +kernel
theorem sX1_followAll_26 {d : Nat} {σ : aS} {Q : aQ} {l0 l1 l2 lo : Option Value} {x : Nat} {lt : aL} {st : List Value} : aX d iX1_followAll 26 (l0 :: l1 :: l2 :: lo :: lt) (.ref x :: st) σ Q ↔ aX d iX1_followAll 27 (l0 :: l1 :: aclr l2 :: some (.ref x) :: lt) (st) σ Q := X_astoren kX1_followAll_26 (by simp only [List.length_cons]; omega) rfl
theorem sX1_followAll_26n {d : Nat} {σ : aS} {Q : aQ} {l0 l1 l2 lo : Option Value} {lt : aL} {st : List Value} : aX d iX1_followAll 26 (l0 :: l1 :: l2 :: lo :: lt) (.null :: st) σ Q ↔ aX d iX1_followAll 27 (l0 :: l1 :: aclr l2 :: some (.null) :: lt) (st) σ Q := X_astoren kX1_followAll_26 (by simp only [List.length_cons]; omega) rfl
theorem kX1_followAll_27 : aCode iX1_followAll 27 = some (.aload_n 3, 1) := by decide +kernel
theorem sX1_followAll_27 {d : Nat} {σ : aS} {Q : aQ} {l0 l1 l2 : Option Value} {x : Nat} {lt : aL} {st : List Value} : aX d iX1_followAll 27 (l0 :: l1 :: l2 :: some (.ref x) :: lt) (st) σ Q ↔ aX d iX1_followAll 28 (l0 :: l1 :: l2 :: some (.ref x) :: lt) (.ref x :: st) σ Q := X_aloadn kX1_followAll_27 rfl rfl
theorem sX1_followAll_27n {d : Nat} {σ : aS} {Q : aQ} {l0 l1 l2 : Option Value} {lt : aL} {st : List Value} : aX d iX1_followAll 27 (l0 :: l1 :: l2 :: some .null :: lt) (st) σ Q ↔ aX d iX1_followAll 28 (l0 :: l1 :: l2 :: some .null :: lt) (.null :: st) σ Q := X_aloadn kX1_followAll_27 rfl rfl
theorem kX1_followAll_28 : aCode iX1_followAll 28 = some (.ifnull 16, 3) := by decide +kernel
theorem sX1_followAll_28 {d : Nat} {σ : aS} {Q : aQ} {x : Nat} {ls : aL} {st : List Value} : aX d iX1_followAll 28 (ls) (.ref x :: st) σ Q ↔ aX d iX1_followAll 31 (ls) (st) σ Q := X_ifnull kX1_followAll_28 (t := 44) (by decide)
theorem sX1_followAll_28n {d : Nat} {σ : aS} {Q : aQ} {ls : aL} {st : List Value} : aX d iX1_followAll 28 (ls) (.null :: st) σ Q ↔ aX d iX1_followAll 44 (ls) (st) σ Q := X_ifnullN kX1_followAll_28 (t := 44) (by decide)
theorem kX1_followAll_31 : aCode iX1_followAll 31 = some (.aload_n 0, 1) := by decide +kernel
theorem sX1_followAll_31 {d : Nat} {σ : aS} {Q : aQ} {x : Nat} {lt : aL} {st : List Value} : aX d iX1_followAll 31 (some (.ref x) :: lt) (st) σ Q ↔ aX d iX1_followAll 32 (some (.ref x) :: lt) (.ref x :: st) σ Q := X_aloadn kX1_followAll_31 rfl rfl
theorem kX1_followAll_32 : aCode iX1_followAll 32 = some (.getfield 12, 3) := by decide +kernel
theorem sX1_followAll_32 {d : Nat} {σ : aS} {Q : aQ} {a : Nat} {ls : aL} {st : List Value} : aX d iX1_followAll 32 (ls) (.ref a :: st) σ Q ↔ ∃ v, aFld σ a 1 0 = some v ∧ aX d iX1_followAll 35 (ls) (v :: st) σ Q := X_getf (w := 161) kX1_followAll_32 (by decide +kernel)
theorem kX1_followAll_35 : aCode iX1_followAll 35 = some (.aload_n 3, 1) := by decide +kernel
theorem sX1_followAll_35 {d : Nat} {σ : aS} {Q : aQ} {l0 l1 l2 : Option Value} {x : Nat} {lt : aL} {st : List Value} : aX d iX1_followAll 35 (l0 :: l1 :: l2 :: some (.ref x) :: lt) (st) σ Q ↔ aX d iX1_followAll 36 (l0 :: l1 :: l2 :: some (.ref x) :: lt) (.ref x :: st) σ Q := X_aloadn kX1_followAll_35 rfl rfl
theorem sX1_followAll_35n {d : Nat} {σ : aS} {Q : aQ} {l0 l1 l2 : Option Value} {lt : aL} {st : List Value} : aX d iX1_followAll 35 (l0 :: l1 :: l2 :: some .null :: lt) (st) σ Q ↔ aX d iX1_followAll 36 (l0 :: l1 :: l2 :: some .null :: lt) (.null :: st) σ Q := X_aloadn kX1_followAll_35 rfl rfl
theorem kX1_followAll_36 : aCode iX1_followAll 36 = some (.invokevirtual 22, 3) := by decide +kernel
theorem sX1_followAll_36 {d : Nat} {σ : aS} {Q : aQ} {b : Nat} {p0 : Nat} {ls : aL} : aX (d + 1) iX1_followAll 36 (ls) (.ref p0 :: .ref b :: []) σ Q ↔ aIs σ b 0 ∧ aX d iX0_copyFrom 0 [some (.ref b), some (.ref p0)] [] σ (fun r τ => aX (d + 1) iX1_followAll 39 (ls) (aret r ([])) τ Q) := X_invv (N := 1) (As := [.ref p0]) (w := 518) kX1_followAll_36 (by decide +kernel) (by decide +kernel) rfl rfl (by simp only [List.length_cons, List.length_nil]; omega) (by simp only [List.length_cons, List.length_nil]; omega) (by decide +kernel) rfl (Nat.le_of_ble_eq_true rfl)
theorem kX1_followAll_39 : aCode iX1_followAll 39 = some (.aload_n 0, 1) := by decide +kernel
theorem sX1_followAll_39 {d : Nat} {σ : aS} {Q : aQ} {x : Nat} {lt : aL} {st : List Value} : aX d iX1_followAll 39 (some (.ref x) :: lt) (st) σ Q ↔ aX d iX1_followAll 40 (some (.ref x) :: lt) (.ref x :: st) σ Q := X_aloadn kX1_followAll_39 rfl rfl
theorem kX1_followAll_40 : aCode iX1_followAll 40 = some (.aload_n 1, 1) := by decide +kernel
theorem sX1_followAll_40 {d : Nat} {σ : aS} {Q : aQ} {l0 : Option Value} {x : Nat} {lt : aL} {st : List Value} : aX d iX1_followAll 40 (l0 :: some (.ref x) :: lt) (st) σ Q ↔ aX d iX1_followAll 41 (l0 :: some (.ref x) :: lt) (.ref x :: st) σ Q := X_aloadn kX1_followAll_40 rfl rfl
theorem sX1_followAll_40n {d : Nat} {σ : aS} {Q : aQ} {l0 : Option Value} {lt : aL} {st : List Value} : aX d iX1_followAll 40 (l0 :: some .null :: lt) (st) σ Q ↔ aX d iX1_followAll 41 (l0 :: some .null :: lt) (.null :: st) σ Q := X_aloadn kX1_followAll_40 rfl rfl
theorem kX1_followAll_41 : aCode iX1_followAll 41 = some (.invokevirtual 26, 3) := by decide +kernel
theorem sX1_followAll_41 {d : Nat} {σ : aS} {Q : aQ} {b : Nat} {p0 : Nat} {ls : aL} : aX (d + 1) iX1_followAll 41 (ls) (.ref p0 :: .ref b :: []) σ Q ↔ aIs σ b 1 ∧ aX d iX1_playToEnd 0 [some (.ref b), some (.ref p0)] [] σ (fun r τ => aX (d + 1) iX1_followAll 44 (ls) (aret r ([])) τ Q) := X_invv (N := 1) (As := [.ref p0]) (w := 519) kX1_followAll_41 (by decide +kernel) (by decide +kernel) rfl rfl (by simp only [List.length_cons, List.length_nil]; omega) (by simp only [List.length_cons, List.length_nil]; omega) (by decide +kernel) rfl (Nat.le_of_ble_eq_true rfl)
theorem kX1_followAll_44 : aCode iX1_followAll 44 = some (.iinc 2 1, 3) := by decide +kernel
theorem sX1_followAll_44 {d : Nat} {σ : aS} {Q : aQ} {l0 l1 : Option Value} {x : Int32} {lt : aL} {st : List Value} : aX d iX1_followAll 44 (l0 :: l1 :: some (.int x) :: lt) (st) σ Q ↔ aX d iX1_followAll 47 (l0 :: aclr l1 :: some (.int (x + nI 1)) :: lt) (st) σ Q := X_iinc kX1_followAll_44 rfl (by decide +kernel)
theorem kX1_followAll_47 : aCode iX1_followAll 47 = some (.goto (-34), 3) := by decide +kernel
theorem sX1_followAll_47 {d : Nat} {σ : aS} {Q : aQ} {ls : aL} {st : List Value} : aX d iX1_followAll 47 (ls) (st) σ Q ↔ aX d iX1_followAll 13 (ls) (st) σ Q := X_goto kX1_followAll_47 (by decide)
theorem kX1_followAll_50 : aCode iX1_followAll 50 = some (.return_, 1) := by decide +kernel
theorem sX1_followAll_50 {d : Nat} {σ : aS} {Q : aQ} {ls : aL} : aX d iX1_followAll 50 (ls) ([]) σ Q ↔ Q none σ := X_vret kX1_followAll_50 (by decide +kernel)
theorem kX1_differenceAtHome_0 : aCode iX1_differenceAtHome 0 = some (.aload_n 0, 1) := by decide +kernel
theorem sX1_differenceAtHome_0 {d : Nat} {σ : aS} {Q : aQ} {x : Nat} {lt : aL} {st : List Value} : aX d iX1_differenceAtHome 0 (some (.ref x) :: lt) (st) σ Q ↔ aX d iX1_differenceAtHome 1 (some (.ref x) :: lt) (.ref x :: st) σ Q := X_aloadn kX1_differenceAtHome_0 rfl rfl
theorem kX1_differenceAtHome_1 : aCode iX1_differenceAtHome 1 = some (.getfield 12, 3) := by decide +kernel
theorem sX1_differenceAtHome_1 {d : Nat} {σ : aS} {Q : aQ} {a : Nat} {ls : aL} {st : List Value} : aX d iX1_differenceAtHome 1 (ls) (.ref a :: st) σ Q ↔ ∃ v, aFld σ a 1 0 = some v ∧ aX d iX1_differenceAtHome 4 (ls) (v :: st) σ Q := X_getf (w := 161) kX1_differenceAtHome_1 (by decide +kernel)
theorem kX1_differenceAtHome_4 : aCode iX1_differenceAtHome 4 = some (.iload_n 2, 1) := by decide +kernel
theorem sX1_differenceAtHome_4 {d : Nat} {σ : aS} {Q : aQ} {l0 l1 : Option Value} {x : Int32} {lt : aL} {st : List Value} : aX d iX1_differenceAtHome 4 (l0 :: l1 :: some (.int x) :: lt) (st) σ Q ↔ aX d iX1_differenceAtHome 5 (l0 :: l1 :: some (.int x) :: lt) (.int x :: st) σ Q := X_iloadn kX1_differenceAtHome_4 rfl
theorem kX1_differenceAtHome_5 : aCode iX1_differenceAtHome 5 = some (.iload_n 3, 1) := by decide +kernel
theorem sX1_differenceAtHome_5 {d : Nat} {σ : aS} {Q : aQ} {l0 l1 l2 : Option Value} {x : Int32} {lt : aL} {st : List Value} : aX d iX1_differenceAtHome 5 (l0 :: l1 :: l2 :: some (.int x) :: lt) (st) σ Q ↔ aX d iX1_differenceAtHome 6 (l0 :: l1 :: l2 :: some (.int x) :: lt) (.int x :: st) σ Q := X_iloadn kX1_differenceAtHome_5 rfl
theorem kX1_differenceAtHome_6 : aCode iX1_differenceAtHome 6 = some (.invokevirtual 45, 3) := by decide +kernel
theorem sX1_differenceAtHome_6 {d : Nat} {σ : aS} {Q : aQ} {b : Nat} {p0 : Int32} {p1 : Int32} {ls : aL} : aX (d + 1) iX1_differenceAtHome 6 (ls) (.int p1 :: .int p0 :: .ref b :: []) σ Q ↔ aIs σ b 0 ∧ aX d iX0_start 0 [some (.ref b), some (.int p0), some (.int p1)] [] σ (fun r τ => aX (d + 1) iX1_differenceAtHome 9 (ls) (aret r ([])) τ Q) := X_invv (N := 2) (As := [.int p1, .int p0]) (w := 533) kX1_differenceAtHome_6 (by decide +kernel) (by decide +kernel) rfl rfl (by simp only [List.length_cons, List.length_nil]; omega) (by simp only [List.length_cons, List.length_nil]; omega) (by decide +kernel) rfl (Nat.le_of_ble_eq_true rfl)
theorem kX1_differenceAtHome_9 : aCode iX1_differenceAtHome 9 = some (.aload_n 0, 1) := by decide +kernel
theorem sX1_differenceAtHome_9 {d : Nat} {σ : aS} {Q : aQ} {x : Nat} {lt : aL} {st : List Value} : aX d iX1_differenceAtHome 9 (some (.ref x) :: lt) (st) σ Q ↔ aX d iX1_differenceAtHome 10 (some (.ref x) :: lt) (.ref x :: st) σ Q := X_aloadn kX1_differenceAtHome_9 rfl rfl
theorem kX1_differenceAtHome_10 : aCode iX1_differenceAtHome 10 = some (.aload_n 1, 1) := by decide +kernel
theorem sX1_differenceAtHome_10 {d : Nat} {σ : aS} {Q : aQ} {l0 : Option Value} {x : Nat} {lt : aL} {st : List Value} : aX d iX1_differenceAtHome 10 (l0 :: some (.ref x) :: lt) (st) σ Q ↔ aX d iX1_differenceAtHome 11 (l0 :: some (.ref x) :: lt) (.ref x :: st) σ Q := X_aloadn kX1_differenceAtHome_10 rfl rfl
theorem sX1_differenceAtHome_10n {d : Nat} {σ : aS} {Q : aQ} {l0 : Option Value} {lt : aL} {st : List Value} : aX d iX1_differenceAtHome 10 (l0 :: some .null :: lt) (st) σ Q ↔ aX d iX1_differenceAtHome 11 (l0 :: some .null :: lt) (.null :: st) σ Q := X_aloadn kX1_differenceAtHome_10 rfl rfl
theorem kX1_differenceAtHome_11 : aCode iX1_differenceAtHome 11 = some (.invokevirtual 26, 3) := by decide +kernel
theorem sX1_differenceAtHome_11 {d : Nat} {σ : aS} {Q : aQ} {b : Nat} {p0 : Nat} {ls : aL} : aX (d + 1) iX1_differenceAtHome 11 (ls) (.ref p0 :: .ref b :: []) σ Q ↔ aIs σ b 1 ∧ aX d iX1_playToEnd 0 [some (.ref b), some (.ref p0)] [] σ (fun r τ => aX (d + 1) iX1_differenceAtHome 14 (ls) (aret r ([])) τ Q) := X_invv (N := 1) (As := [.ref p0]) (w := 519) kX1_differenceAtHome_11 (by decide +kernel) (by decide +kernel) rfl rfl (by simp only [List.length_cons, List.length_nil]; omega) (by simp only [List.length_cons, List.length_nil]; omega) (by decide +kernel) rfl (Nat.le_of_ble_eq_true rfl)
theorem kX1_differenceAtHome_14 : aCode iX1_differenceAtHome 14 = some (.aload_n 1, 1) := by decide +kernel
theorem sX1_differenceAtHome_14 {d : Nat} {σ : aS} {Q : aQ} {l0 : Option Value} {x : Nat} {lt : aL} {st : List Value} : aX d iX1_differenceAtHome 14 (l0 :: some (.ref x) :: lt) (st) σ Q ↔ aX d iX1_differenceAtHome 15 (l0 :: some (.ref x) :: lt) (.ref x :: st) σ Q := X_aloadn kX1_differenceAtHome_14 rfl rfl
theorem sX1_differenceAtHome_14n {d : Nat} {σ : aS} {Q : aQ} {l0 : Option Value} {lt : aL} {st : List Value} : aX d iX1_differenceAtHome 14 (l0 :: some .null :: lt) (st) σ Q ↔ aX d iX1_differenceAtHome 15 (l0 :: some .null :: lt) (.null :: st) σ Q := X_aloadn kX1_differenceAtHome_14 rfl rfl
theorem kX1_differenceAtHome_15 : aCode iX1_differenceAtHome 15 = some (.aload_n 0, 1) := by decide +kernel
theorem sX1_differenceAtHome_15 {d : Nat} {σ : aS} {Q : aQ} {x : Nat} {lt : aL} {st : List Value} : aX d iX1_differenceAtHome 15 (some (.ref x) :: lt) (st) σ Q ↔ aX d iX1_differenceAtHome 16 (some (.ref x) :: lt) (.ref x :: st) σ Q := X_aloadn kX1_differenceAtHome_15 rfl rfl
theorem kX1_differenceAtHome_16 : aCode iX1_differenceAtHome 16 = some (.getfield 12, 3) := by decide +kernel
theorem sX1_differenceAtHome_16 {d : Nat} {σ : aS} {Q : aQ} {a : Nat} {ls : aL} {st : List Value} : aX d iX1_differenceAtHome 16 (ls) (.ref a :: st) σ Q ↔ ∃ v, aFld σ a 1 0 = some v ∧ aX d iX1_differenceAtHome 19 (ls) (v :: st) σ Q := X_getf (w := 161) kX1_differenceAtHome_16 (by decide +kernel)
theorem kX1_differenceAtHome_19 : aCode iX1_differenceAtHome 19 = some (.invokevirtual 49, 3) := by decide +kernel
theorem sX1_differenceAtHome_19 {d : Nat} {σ : aS} {Q : aQ} {b : Nat} {v0 : Value} {ls : aL} : aX (d + 1) iX1_differenceAtHome 19 (ls) (.ref b :: v0 :: []) σ Q ↔ aIs σ b 0 ∧ aX d iX0_firstWord 0 [some (.ref b)] [] σ (fun r τ => aX (d + 1) iX1_differenceAtHome 22 (ls) (aret r (v0 :: [])) τ Q) := X_invv (N := 0) (As := []) (w := 534) kX1_differenceAtHome_19 (by decide +kernel) (by decide +kernel) rfl rfl (by simp only [List.length_cons, List.length_nil]; omega) (by simp only [List.length_cons, List.length_nil]; omega) (by decide +kernel) rfl (Nat.le_of_ble_eq_true rfl)
theorem kX1_differenceAtHome_22 : aCode iX1_differenceAtHome 22 = some (.aload_n 0, 1) := by decide +kernel
theorem sX1_differenceAtHome_22 {d : Nat} {σ : aS} {Q : aQ} {x : Nat} {lt : aL} {st : List Value} : aX d iX1_differenceAtHome 22 (some (.ref x) :: lt) (st) σ Q ↔ aX d iX1_differenceAtHome 23 (some (.ref x) :: lt) (.ref x :: st) σ Q := X_aloadn kX1_differenceAtHome_22 rfl rfl
theorem kX1_differenceAtHome_23 : aCode iX1_differenceAtHome 23 = some (.getfield 12, 3) := by decide +kernel
theorem sX1_differenceAtHome_23 {d : Nat} {σ : aS} {Q : aQ} {a : Nat} {ls : aL} {st : List Value} : aX d iX1_differenceAtHome 23 (ls) (.ref a :: st) σ Q ↔ ∃ v, aFld σ a 1 0 = some v ∧ aX d iX1_differenceAtHome 26 (ls) (v :: st) σ Q := X_getf (w := 161) kX1_differenceAtHome_23 (by decide +kernel)
theorem kX1_differenceAtHome_26 : aCode iX1_differenceAtHome 26 = some (.invokevirtual 53, 3) := by decide +kernel
theorem sX1_differenceAtHome_26 {d : Nat} {σ : aS} {Q : aQ} {b : Nat} {v0 v1 : Value} {ls : aL} : aX (d + 1) iX1_differenceAtHome 26 (ls) (.ref b :: v0 :: v1 :: []) σ Q ↔ aIs σ b 0 ∧ aX d iX0_lastWord 0 [some (.ref b)] [] σ (fun r τ => aX (d + 1) iX1_differenceAtHome 29 (ls) (aret r (v0 :: v1 :: [])) τ Q) := X_invv (N := 0) (As := []) (w := 535) kX1_differenceAtHome_26 (by decide +kernel) (by decide +kernel) rfl rfl (by simp only [List.length_cons, List.length_nil]; omega) (by simp only [List.length_cons, List.length_nil]; omega) (by decide +kernel) rfl (Nat.le_of_ble_eq_true rfl)
theorem kX1_differenceAtHome_29 : aCode iX1_differenceAtHome 29 = some (.invokevirtual 56, 3) := by decide +kernel
theorem sX1_differenceAtHome_29 {d : Nat} {σ : aS} {Q : aQ} {b : Nat} {p0 : Int32} {p1 : Int32} {ls : aL} : aX (d + 1) iX1_differenceAtHome 29 (ls) (.int p1 :: .int p0 :: .ref b :: []) σ Q ↔ aIs σ b 5 ∧ aX d iX5_difference 0 [some (.ref b), some (.int p0), some (.int p1)] [] σ (fun r τ => aX (d + 1) iX1_differenceAtHome 32 (ls) (aret r ([])) τ Q) := X_invv (N := 2) (As := [.int p1, .int p0]) (w := 536) kX1_differenceAtHome_29 (by decide +kernel) (by decide +kernel) rfl rfl (by simp only [List.length_cons, List.length_nil]; omega) (by simp only [List.length_cons, List.length_nil]; omega) (by decide +kernel) rfl (Nat.le_of_ble_eq_true rfl)
theorem kX1_differenceAtHome_32 : aCode iX1_differenceAtHome 32 = some (.ireturn, 1) := by decide +kernel
theorem sX1_differenceAtHome_32 {d : Nat} {σ : aS} {Q : aQ} {v : Int32} {ls : aL} : aX d iX1_differenceAtHome 32 (ls) ([.int v]) σ Q ↔ Q (some (.int v)) σ := X_iret kX1_differenceAtHome_32 (by decide +kernel)
theorem kX1_playToEnd_0 : aCode iX1_playToEnd 0 = some (.aload_n 0, 1) := by decide +kernel
theorem sX1_playToEnd_0 {d : Nat} {σ : aS} {Q : aQ} {x : Nat} {lt : aL} {st : List Value} : aX d iX1_playToEnd 0 (some (.ref x) :: lt) (st) σ Q ↔ aX d iX1_playToEnd 1 (some (.ref x) :: lt) (.ref x :: st) σ Q := X_aloadn kX1_playToEnd_0 rfl rfl
theorem kX1_playToEnd_1 : aCode iX1_playToEnd 1 = some (.iconst 0, 1) := by decide +kernel
theorem sX1_playToEnd_1 {d : Nat} {σ : aS} {Q : aQ} {ls : aL} {st : List Value} : aX d iX1_playToEnd 1 (ls) (st) σ Q ↔ aX d iX1_playToEnd 2 (ls) (.int (nI 0) :: st) σ Q := X_iconst kX1_playToEnd_1 (by decide +kernel)
theorem kX1_playToEnd_2 : aCode iX1_playToEnd 2 = some (.putfield 60, 3) := by decide +kernel
theorem sX1_playToEnd_2 {d : Nat} {σ : aS} {Q : aQ} {x : Int32} {a : Nat} {ls : aL} {st : List Value} : aX d iX1_playToEnd 2 (ls) (.int x :: .ref a :: st) σ Q ↔ ∃ fs, aFds σ a 1 = some fs ∧ 2 < fs.length ∧ aX d iX1_playToEnd 5 (ls) (st) (aput σ a (eO 1 (fs.set 2 (.int x)))) Q := X_putf (w := 165) kX1_playToEnd_2 (by decide +kernel) (aFit_I (by decide +kernel)) (by decide +kernel)
theorem kX1_playToEnd_5 : aCode iX1_playToEnd 5 = some (.aload_n 0, 1) := by decide +kernel
theorem sX1_playToEnd_5 {d : Nat} {σ : aS} {Q : aQ} {x : Nat} {lt : aL} {st : List Value} : aX d iX1_playToEnd 5 (some (.ref x) :: lt) (st) σ Q ↔ aX d iX1_playToEnd 6 (some (.ref x) :: lt) (.ref x :: st) σ Q := X_aloadn kX1_playToEnd_5 rfl rfl
theorem kX1_playToEnd_6 : aCode iX1_playToEnd 6 = some (.getfield 60, 3) := by decide +kernel
theorem sX1_playToEnd_6 {d : Nat} {σ : aS} {Q : aQ} {a : Nat} {ls : aL} {st : List Value} : aX d iX1_playToEnd 6 (ls) (.ref a :: st) σ Q ↔ ∃ v, aFld σ a 1 2 = some v ∧ aX d iX1_playToEnd 9 (ls) (v :: st) σ Q := X_getf (w := 165) kX1_playToEnd_6 (by decide +kernel)
theorem kX1_playToEnd_9 : aCode iX1_playToEnd 9 = some (.bipush 8, 2) := by decide +kernel
theorem sX1_playToEnd_9 {d : Nat} {σ : aS} {Q : aQ} {ls : aL} {st : List Value} : aX d iX1_playToEnd 9 (ls) (st) σ Q ↔ aX d iX1_playToEnd 11 (ls) (.int (nI 8) :: st) σ Q := X_bipush kX1_playToEnd_9 (by decide +kernel)
theorem kX1_playToEnd_11 : aCode iX1_playToEnd 11 = some (.if_icmp .gt 38, 3) := by decide +kernel
theorem sX1_playToEnd_11 {d : Nat} {σ : aS} {Q : aQ} {x y : Int32} {ls : aL} {st : List Value} : aX d iX1_playToEnd 11 (ls) (.int y :: .int x :: st) σ Q ↔ (if y < x then aX d iX1_playToEnd 49 (ls) (st) σ Q else aX d iX1_playToEnd 14 (ls) (st) σ Q) := by rw [X_icmp kX1_playToEnd_11 (t := 49) (by decide)]; simp only [aCmp_gt]
theorem kX1_playToEnd_14 : aCode iX1_playToEnd 14 = some (.aload_n 0, 1) := by decide +kernel
theorem sX1_playToEnd_14 {d : Nat} {σ : aS} {Q : aQ} {x : Nat} {lt : aL} {st : List Value} : aX d iX1_playToEnd 14 (some (.ref x) :: lt) (st) σ Q ↔ aX d iX1_playToEnd 15 (some (.ref x) :: lt) (.ref x :: st) σ Q := X_aloadn kX1_playToEnd_14 rfl rfl
theorem kX1_playToEnd_15 : aCode iX1_playToEnd 15 = some (.getfield 12, 3) := by decide +kernel
theorem sX1_playToEnd_15 {d : Nat} {σ : aS} {Q : aQ} {a : Nat} {ls : aL} {st : List Value} : aX d iX1_playToEnd 15 (ls) (.ref a :: st) σ Q ↔ ∃ v, aFld σ a 1 0 = some v ∧ aX d iX1_playToEnd 18 (ls) (v :: st) σ Q := X_getf (w := 161) kX1_playToEnd_15 (by decide +kernel)
theorem kX1_playToEnd_18 : aCode iX1_playToEnd 18 = some (.invokevirtual 63, 3) := by decide +kernel
theorem sX1_playToEnd_18 {d : Nat} {σ : aS} {Q : aQ} {b : Nat} {ls : aL} : aX (d + 1) iX1_playToEnd 18 (ls) (.ref b :: []) σ Q ↔ aIs σ b 0 ∧ aX d iX0_goesRound 0 [some (.ref b)] [] σ (fun r τ => aX (d + 1) iX1_playToEnd 21 (ls) (aret r ([])) τ Q) := X_invv (N := 0) (As := []) (w := 523) kX1_playToEnd_18 (by decide +kernel) (by decide +kernel) rfl rfl (by simp only [List.length_cons, List.length_nil]; omega) (by simp only [List.length_cons, List.length_nil]; omega) (by decide +kernel) rfl (Nat.le_of_ble_eq_true rfl)
theorem kX1_playToEnd_21 : aCode iX1_playToEnd 21 = some (.ifCond .eq 28, 3) := by decide +kernel
theorem sX1_playToEnd_21 {d : Nat} {σ : aS} {Q : aQ} {x : Int32} {ls : aL} {st : List Value} : aX d iX1_playToEnd 21 (ls) (.int x :: st) σ Q ↔ (if x = nI 0 then aX d iX1_playToEnd 49 (ls) (st) σ Q else aX d iX1_playToEnd 24 (ls) (st) σ Q) := by rw [X_if kX1_playToEnd_21 (t := 49) (by decide)]; simp only [aCmp_eq]
theorem kX1_playToEnd_24 : aCode iX1_playToEnd 24 = some (.aload_n 1, 1) := by decide +kernel
theorem sX1_playToEnd_24 {d : Nat} {σ : aS} {Q : aQ} {l0 : Option Value} {x : Nat} {lt : aL} {st : List Value} : aX d iX1_playToEnd 24 (l0 :: some (.ref x) :: lt) (st) σ Q ↔ aX d iX1_playToEnd 25 (l0 :: some (.ref x) :: lt) (.ref x :: st) σ Q := X_aloadn kX1_playToEnd_24 rfl rfl
theorem sX1_playToEnd_24n {d : Nat} {σ : aS} {Q : aQ} {l0 : Option Value} {lt : aL} {st : List Value} : aX d iX1_playToEnd 24 (l0 :: some .null :: lt) (st) σ Q ↔ aX d iX1_playToEnd 25 (l0 :: some .null :: lt) (.null :: st) σ Q := X_aloadn kX1_playToEnd_24 rfl rfl
theorem kX1_playToEnd_25 : aCode iX1_playToEnd 25 = some (.aload_n 0, 1) := by decide +kernel
theorem sX1_playToEnd_25 {d : Nat} {σ : aS} {Q : aQ} {x : Nat} {lt : aL} {st : List Value} : aX d iX1_playToEnd 25 (some (.ref x) :: lt) (st) σ Q ↔ aX d iX1_playToEnd 26 (some (.ref x) :: lt) (.ref x :: st) σ Q := X_aloadn kX1_playToEnd_25 rfl rfl
theorem kX1_playToEnd_26 : aCode iX1_playToEnd 26 = some (.getfield 12, 3) := by decide +kernel
theorem sX1_playToEnd_26 {d : Nat} {σ : aS} {Q : aQ} {a : Nat} {ls : aL} {st : List Value} : aX d iX1_playToEnd 26 (ls) (.ref a :: st) σ Q ↔ ∃ v, aFld σ a 1 0 = some v ∧ aX d iX1_playToEnd 29 (ls) (v :: st) σ Q := X_getf (w := 161) kX1_playToEnd_26 (by decide +kernel)
theorem kX1_playToEnd_29 : aCode iX1_playToEnd 29 = some (.aload_n 0, 1) := by decide +kernel
theorem sX1_playToEnd_29 {d : Nat} {σ : aS} {Q : aQ} {x : Nat} {lt : aL} {st : List Value} : aX d iX1_playToEnd 29 (some (.ref x) :: lt) (st) σ Q ↔ aX d iX1_playToEnd 30 (some (.ref x) :: lt) (.ref x :: st) σ Q := X_aloadn kX1_playToEnd_29 rfl rfl
theorem kX1_playToEnd_30 : aCode iX1_playToEnd 30 = some (.getfield 18, 3) := by decide +kernel
theorem sX1_playToEnd_30 {d : Nat} {σ : aS} {Q : aQ} {a : Nat} {ls : aL} {st : List Value} : aX d iX1_playToEnd 30 (ls) (.ref a :: st) σ Q ↔ ∃ v, aFld σ a 1 1 = some v ∧ aX d iX1_playToEnd 33 (ls) (v :: st) σ Q := X_getf (w := 163) kX1_playToEnd_30 (by decide +kernel)
theorem kX1_playToEnd_33 : aCode iX1_playToEnd 33 = some (.invokevirtual 67, 3) := by decide +kernel
theorem sX1_playToEnd_33 {d : Nat} {σ : aS} {Q : aQ} {b : Nat} {p0 : Nat} {p1 : Nat} {ls : aL} : aX (d + 1) iX1_playToEnd 33 (ls) (.ref p1 :: .ref p0 :: .ref b :: []) σ Q ↔ aIs σ b 5 ∧ aX d iX5_passOn 0 [some (.ref b), some (.ref p0), some (.ref p1), none] [] σ (fun r τ => aX (d + 1) iX1_playToEnd 36 (ls) (aret r ([])) τ Q) := X_invv (N := 2) (As := [.ref p1, .ref p0]) (w := 524) kX1_playToEnd_33 (by decide +kernel) (by decide +kernel) rfl rfl (by simp only [List.length_cons, List.length_nil]; omega) (by simp only [List.length_cons, List.length_nil]; omega) (by decide +kernel) rfl (Nat.le_of_ble_eq_true rfl)
theorem kX1_playToEnd_36 : aCode iX1_playToEnd 36 = some (.aload_n 0, 1) := by decide +kernel
theorem sX1_playToEnd_36 {d : Nat} {σ : aS} {Q : aQ} {x : Nat} {lt : aL} {st : List Value} : aX d iX1_playToEnd 36 (some (.ref x) :: lt) (st) σ Q ↔ aX d iX1_playToEnd 37 (some (.ref x) :: lt) (.ref x :: st) σ Q := X_aloadn kX1_playToEnd_36 rfl rfl
theorem kX1_playToEnd_37 : aCode iX1_playToEnd 37 = some (.dup, 1) := by decide +kernel
theorem sX1_playToEnd_37 {d : Nat} {σ : aS} {Q : aQ} {x : Nat} {ls : aL} {st : List Value} : aX d iX1_playToEnd 37 (ls) (.ref x :: st) σ Q ↔ aX d iX1_playToEnd 38 (ls) (.ref x :: .ref x :: st) σ Q := X_dup kX1_playToEnd_37 rfl
theorem sX1_playToEnd_37i {d : Nat} {σ : aS} {Q : aQ} {x : Int32} {ls : aL} {st : List Value} : aX d iX1_playToEnd 37 (ls) (.int x :: st) σ Q ↔ aX d iX1_playToEnd 38 (ls) (.int x :: .int x :: st) σ Q := X_dup kX1_playToEnd_37 rfl
theorem kX1_playToEnd_38 : aCode iX1_playToEnd 38 = some (.getfield 60, 3) := by decide +kernel
theorem sX1_playToEnd_38 {d : Nat} {σ : aS} {Q : aQ} {a : Nat} {ls : aL} {st : List Value} : aX d iX1_playToEnd 38 (ls) (.ref a :: st) σ Q ↔ ∃ v, aFld σ a 1 2 = some v ∧ aX d iX1_playToEnd 41 (ls) (v :: st) σ Q := X_getf (w := 165) kX1_playToEnd_38 (by decide +kernel)
theorem kX1_playToEnd_41 : aCode iX1_playToEnd 41 = some (.iconst 1, 1) := by decide +kernel
theorem sX1_playToEnd_41 {d : Nat} {σ : aS} {Q : aQ} {ls : aL} {st : List Value} : aX d iX1_playToEnd 41 (ls) (st) σ Q ↔ aX d iX1_playToEnd 42 (ls) (.int (nI 1) :: st) σ Q := X_iconst kX1_playToEnd_41 (by decide +kernel)
theorem kX1_playToEnd_42 : aCode iX1_playToEnd 42 = some (.iadd, 1) := by decide +kernel
theorem sX1_playToEnd_42 {d : Nat} {σ : aS} {Q : aQ} {x y : Int32} {ls : aL} {st : List Value} : aX d iX1_playToEnd 42 (ls) (.int y :: .int x :: st) σ Q ↔ aX d iX1_playToEnd 43 (ls) (.int (x + y) :: st) σ Q := X_iadd kX1_playToEnd_42
theorem kX1_playToEnd_43 : aCode iX1_playToEnd 43 = some (.putfield 60, 3) := by decide +kernel
theorem sX1_playToEnd_43 {d : Nat} {σ : aS} {Q : aQ} {x : Int32} {a : Nat} {ls : aL} {st : List Value} : aX d iX1_playToEnd 43 (ls) (.int x :: .ref a :: st) σ Q ↔ ∃ fs, aFds σ a 1 = some fs ∧ 2 < fs.length ∧ aX d iX1_playToEnd 46 (ls) (st) (aput σ a (eO 1 (fs.set 2 (.int x)))) Q := X_putf (w := 165) kX1_playToEnd_43 (by decide +kernel) (aFit_I (by decide +kernel)) (by decide +kernel)
theorem kX1_playToEnd_46 : aCode iX1_playToEnd 46 = some (.goto (-41), 3) := by decide +kernel
theorem sX1_playToEnd_46 {d : Nat} {σ : aS} {Q : aQ} {ls : aL} {st : List Value} : aX d iX1_playToEnd 46 (ls) (st) σ Q ↔ aX d iX1_playToEnd 5 (ls) (st) σ Q := X_goto kX1_playToEnd_46 (by decide)
theorem kX1_playToEnd_49 : aCode iX1_playToEnd 49 = some (.return_, 1) := by decide +kernel
theorem sX1_playToEnd_49 {d : Nat} {σ : aS} {Q : aQ} {ls : aL} : aX d iX1_playToEnd 49 (ls) ([]) σ Q ↔ Q none σ := X_vret kX1_playToEnd_49 (by decide +kernel)
theorem kX2_init_0 : aCode iX2_init 0 = some (.aload_n 0, 1) := by decide +kernel
theorem sX2_init_0 {d : Nat} {σ : aS} {Q : aQ} {x : Nat} {lt : aL} {st : List Value} : aX d iX2_init 0 (some (.ref x) :: lt) (st) σ Q ↔ aX d iX2_init 1 (some (.ref x) :: lt) (.ref x :: st) σ Q := X_aloadn kX2_init_0 rfl rfl
theorem kX2_init_1 : aCode iX2_init 1 = some (.invokespecial 3, 3) := by decide +kernel
theorem sX2_init_1 {d : Nat} {σ : aS} {Q : aQ} {b : Nat} {ls : aL} : aX d iX2_init 1 (ls) (.ref b :: []) σ Q ↔ aX d iX2_init 4 (ls) ([]) σ Q := X_obj (t := 999) (w := 179) kX2_init_1 (by decide +kernel) (by simp only [List.length_cons, List.length_nil]; omega)
theorem kX2_init_4 : aCode iX2_init 4 = some (.aload_n 0, 1) := by decide +kernel
theorem sX2_init_4 {d : Nat} {σ : aS} {Q : aQ} {x : Nat} {lt : aL} {st : List Value} : aX d iX2_init 4 (some (.ref x) :: lt) (st) σ Q ↔ aX d iX2_init 5 (some (.ref x) :: lt) (.ref x :: st) σ Q := X_aloadn kX2_init_4 rfl rfl
theorem kX2_init_5 : aCode iX2_init 5 = some (.bipush 7, 2) := by decide +kernel
theorem sX2_init_5 {d : Nat} {σ : aS} {Q : aQ} {ls : aL} {st : List Value} : aX d iX2_init 5 (ls) (st) σ Q ↔ aX d iX2_init 7 (ls) (.int (nI 7) :: st) σ Q := X_bipush kX2_init_5 (by decide +kernel)
theorem kX2_init_7 : aCode iX2_init 7 = some (.anewarray 9, 3) := by decide +kernel
theorem sX2_init_7 {d : Nat} {σ : aS} {Q : aQ} {m : Nat} {ls : aL} {st : List Value} (hm : m ≤ 1000000) : aX d iX2_init 7 (ls) (.int (nI m) :: st) σ Q ↔ aX d iX2_init 10 (ls) (.ref σ.2.1 :: st) (anew σ (eQ 2 m (fun _ => none)) m) Q := X_anew (ci := 5) (w := (180, 80, 61)) kX2_init_7 (by decide +kernel) hm rfl
theorem kX2_init_10 : aCode iX2_init 10 = some (.putfield 11, 3) := by decide +kernel
theorem sX2_init_10 {d : Nat} {σ : aS} {Q : aQ} {x : Nat} {a : Nat} {ls : aL} {st : List Value} : aX d iX2_init 10 (ls) (.ref x :: .ref a :: st) σ Q ↔ ∃ fs, aFds σ a 2 = some fs ∧ 0 < fs.length ∧ aX d iX2_init 13 (ls) (st) (aput σ a (eO 2 (fs.set 0 (.ref x)))) Q := X_putf (w := 183) kX2_init_10 (by decide +kernel) (aFit_R (by decide +kernel)) (by decide +kernel)
theorem kX2_init_13 : aCode iX2_init 13 = some (.iconst 0, 1) := by decide +kernel
theorem sX2_init_13 {d : Nat} {σ : aS} {Q : aQ} {ls : aL} {st : List Value} : aX d iX2_init 13 (ls) (st) σ Q ↔ aX d iX2_init 14 (ls) (.int (nI 0) :: st) σ Q := X_iconst kX2_init_13 (by decide +kernel)
theorem kX2_init_14 : aCode iX2_init 14 = some (.istore_n 1, 1) := by decide +kernel
theorem sX2_init_14 {d : Nat} {σ : aS} {Q : aQ} {l0 lo : Option Value} {x : Int32} {lt : aL} {st : List Value} : aX d iX2_init 14 (l0 :: lo :: lt) (.int x :: st) σ Q ↔ aX d iX2_init 15 (aclr l0 :: some (.int x) :: lt) (st) σ Q := X_istoren kX2_init_14 (by simp only [List.length_cons]; omega)
theorem kX2_init_15 : aCode iX2_init 15 = some (.iload_n 1, 1) := by decide +kernel
theorem sX2_init_15 {d : Nat} {σ : aS} {Q : aQ} {l0 : Option Value} {x : Int32} {lt : aL} {st : List Value} : aX d iX2_init 15 (l0 :: some (.int x) :: lt) (st) σ Q ↔ aX d iX2_init 16 (l0 :: some (.int x) :: lt) (.int x :: st) σ Q := X_iloadn kX2_init_15 rfl
theorem kX2_init_16 : aCode iX2_init 16 = some (.aload_n 0, 1) := by decide +kernel
theorem sX2_init_16 {d : Nat} {σ : aS} {Q : aQ} {x : Nat} {lt : aL} {st : List Value} : aX d iX2_init 16 (some (.ref x) :: lt) (st) σ Q ↔ aX d iX2_init 17 (some (.ref x) :: lt) (.ref x :: st) σ Q := X_aloadn kX2_init_16 rfl rfl
theorem kX2_init_17 : aCode iX2_init 17 = some (.getfield 11, 3) := by decide +kernel
theorem sX2_init_17 {d : Nat} {σ : aS} {Q : aQ} {a : Nat} {ls : aL} {st : List Value} : aX d iX2_init 17 (ls) (.ref a :: st) σ Q ↔ ∃ v, aFld σ a 2 0 = some v ∧ aX d iX2_init 20 (ls) (v :: st) σ Q := X_getf (w := 183) kX2_init_17 (by decide +kernel)
theorem kX2_init_20 : aCode iX2_init 20 = some (.arraylength, 1) := by decide +kernel
theorem sX2_init_20 {d : Nat} {σ : aS} {Q : aQ} {a : Nat} {ls : aL} {st : List Value} : aX d iX2_init 20 (ls) (.ref a :: st) σ Q ↔ ∃ m, aLn σ a = some m ∧ aX d iX2_init 21 (ls) (.int (nI m) :: st) σ Q := X_alen kX2_init_20
theorem kX2_init_21 : aCode iX2_init 21 = some (.if_icmp .ge 22, 3) := by decide +kernel
theorem sX2_init_21 {d : Nat} {σ : aS} {Q : aQ} {x y : Int32} {ls : aL} {st : List Value} : aX d iX2_init 21 (ls) (.int y :: .int x :: st) σ Q ↔ (if y ≤ x then aX d iX2_init 43 (ls) (st) σ Q else aX d iX2_init 24 (ls) (st) σ Q) := by rw [X_icmp kX2_init_21 (t := 43) (by decide)]; simp only [aCmp_ge]
theorem kX2_init_24 : aCode iX2_init 24 = some (.aload_n 0, 1) := by decide +kernel
theorem sX2_init_24 {d : Nat} {σ : aS} {Q : aQ} {x : Nat} {lt : aL} {st : List Value} : aX d iX2_init 24 (some (.ref x) :: lt) (st) σ Q ↔ aX d iX2_init 25 (some (.ref x) :: lt) (.ref x :: st) σ Q := X_aloadn kX2_init_24 rfl rfl
theorem kX2_init_25 : aCode iX2_init 25 = some (.getfield 11, 3) := by decide +kernel
theorem sX2_init_25 {d : Nat} {σ : aS} {Q : aQ} {a : Nat} {ls : aL} {st : List Value} : aX d iX2_init 25 (ls) (.ref a :: st) σ Q ↔ ∃ v, aFld σ a 2 0 = some v ∧ aX d iX2_init 28 (ls) (v :: st) σ Q := X_getf (w := 183) kX2_init_25 (by decide +kernel)
theorem kX2_init_28 : aCode iX2_init 28 = some (.iload_n 1, 1) := by decide +kernel
theorem sX2_init_28 {d : Nat} {σ : aS} {Q : aQ} {l0 : Option Value} {x : Int32} {lt : aL} {st : List Value} : aX d iX2_init 28 (l0 :: some (.int x) :: lt) (st) σ Q ↔ aX d iX2_init 29 (l0 :: some (.int x) :: lt) (.int x :: st) σ Q := X_iloadn kX2_init_28 rfl
theorem kX2_init_29 : aCode iX2_init 29 = some (.new 9, 3) := by decide +kernel
theorem sX2_init_29 {d : Nat} {σ : aS} {Q : aQ} {ls : aL} {st : List Value} : aX d iX2_init 29 (ls) (st) σ Q ↔ aX d iX2_init 32 (ls) (.ref σ.2.1 :: st) (anew σ (eO 5 [.null, .null, .null, .null, .int 0, .int 0, .int 0]) 7) Q := X_new (w := (180, 80, 61)) kX2_init_29 (by decide +kernel) (by decide +kernel) (by decide +kernel)
theorem kX2_init_32 : aCode iX2_init 32 = some (.dup, 1) := by decide +kernel
theorem sX2_init_32 {d : Nat} {σ : aS} {Q : aQ} {x : Nat} {ls : aL} {st : List Value} : aX d iX2_init 32 (ls) (.ref x :: st) σ Q ↔ aX d iX2_init 33 (ls) (.ref x :: .ref x :: st) σ Q := X_dup kX2_init_32 rfl
theorem sX2_init_32i {d : Nat} {σ : aS} {Q : aQ} {x : Int32} {ls : aL} {st : List Value} : aX d iX2_init 32 (ls) (.int x :: st) σ Q ↔ aX d iX2_init 33 (ls) (.int x :: .int x :: st) σ Q := X_dup kX2_init_32 rfl
theorem kX2_init_33 : aCode iX2_init 33 = some (.invokespecial 17, 3) := by decide +kernel
theorem sX2_init_33 {d : Nat} {σ : aS} {Q : aQ} {b : Nat} {v0 v1 v2 : Value} {ls : aL} : aX (d + 1) iX2_init 33 (ls) (.ref b :: v0 :: v1 :: v2 :: []) σ Q ↔ aIs σ b 5 ∧ aX d iX5_init 0 [some (.ref b), none] [] σ (fun r τ => aX (d + 1) iX2_init 36 (ls) (aret r (v0 :: v1 :: v2 :: [])) τ Q) := X_invi (N := 0) (As := []) (k := 2) (w := 182) kX2_init_33 (by decide +kernel) (by decide) (by decide +kernel) rfl rfl (by simp only [List.length_cons, List.length_nil]; omega) (by simp only [List.length_cons, List.length_nil]; omega) (by decide +kernel) rfl (Nat.le_of_ble_eq_true rfl)
theorem kX2_init_36 : aCode iX2_init 36 = some (.aastore, 1) := by decide +kernel
theorem sX2_init_36 {d : Nat} {σ : aS} {Q : aQ} {a v : Nat} {i : Int32} {j m ci : Nat} {f : Nat → Option Nat} {fs : List Value} {ls : aL} {st : List Value} (ha : σ.1 a = some (eQ j m f)) (hv : σ.1 v = some (eO ci fs)) (hi : vp_in i m) (hj : aQj ci = j ∧ aQc j = ci) : aX d iX2_init 36 (ls) (.ref v :: .int i :: .ref a :: st) σ Q ↔ aX d iX2_init 37 (ls) (st) (aput σ a (eQ j m (va_up f i.toNatClampNeg (some v)))) Q := X_aastore kX2_init_36 ha hv hi hj
theorem kX2_init_37 : aCode iX2_init 37 = some (.iinc 1 1, 3) := by decide +kernel
theorem sX2_init_37 {d : Nat} {σ : aS} {Q : aQ} {l0 : Option Value} {x : Int32} {lt : aL} {st : List Value} : aX d iX2_init 37 (l0 :: some (.int x) :: lt) (st) σ Q ↔ aX d iX2_init 40 (aclr l0 :: some (.int (x + nI 1)) :: lt) (st) σ Q := X_iinc kX2_init_37 rfl (by decide +kernel)
theorem kX2_init_40 : aCode iX2_init 40 = some (.goto (-25), 3) := by decide +kernel
theorem sX2_init_40 {d : Nat} {σ : aS} {Q : aQ} {ls : aL} {st : List Value} : aX d iX2_init 40 (ls) (st) σ Q ↔ aX d iX2_init 15 (ls) (st) σ Q := X_goto kX2_init_40 (by decide)
theorem kX2_init_43 : aCode iX2_init 43 = some (.return_, 1) := by decide +kernel
theorem sX2_init_43 {d : Nat} {σ : aS} {Q : aQ} {ls : aL} : aX d iX2_init 43 (ls) ([]) σ Q ↔ Q none σ := X_vret kX2_init_43 (by decide +kernel)
theorem kX2_stateAt_0 : aCode iX2_stateAt 0 = some (.aload_n 0, 1) := by decide +kernel
theorem sX2_stateAt_0 {d : Nat} {σ : aS} {Q : aQ} {x : Nat} {lt : aL} {st : List Value} : aX d iX2_stateAt 0 (some (.ref x) :: lt) (st) σ Q ↔ aX d iX2_stateAt 1 (some (.ref x) :: lt) (.ref x :: st) σ Q := X_aloadn kX2_stateAt_0 rfl rfl
theorem kX2_stateAt_1 : aCode iX2_stateAt 1 = some (.getfield 18, 3) := by decide +kernel
theorem sX2_stateAt_1 {d : Nat} {σ : aS} {Q : aQ} {a : Nat} {ls : aL} {st : List Value} : aX d iX2_stateAt 1 (ls) (.ref a :: st) σ Q ↔ ∃ v, aFld σ a 2 1 = some v ∧ aX d iX2_stateAt 4 (ls) (v :: st) σ Q := X_getf (w := 184) kX2_stateAt_1 (by decide +kernel)
theorem kX2_stateAt_4 : aCode iX2_stateAt 4 = some (.iload_n 1, 1) := by decide +kernel
theorem sX2_stateAt_4 {d : Nat} {σ : aS} {Q : aQ} {l0 : Option Value} {x : Int32} {lt : aL} {st : List Value} : aX d iX2_stateAt 4 (l0 :: some (.int x) :: lt) (st) σ Q ↔ aX d iX2_stateAt 5 (l0 :: some (.int x) :: lt) (.int x :: st) σ Q := X_iloadn kX2_stateAt_4 rfl
theorem kX2_stateAt_5 : aCode iX2_stateAt 5 = some (.iadd, 1) := by decide +kernel
theorem sX2_stateAt_5 {d : Nat} {σ : aS} {Q : aQ} {x y : Int32} {ls : aL} {st : List Value} : aX d iX2_stateAt 5 (ls) (.int y :: .int x :: st) σ Q ↔ aX d iX2_stateAt 6 (ls) (.int (x + y) :: st) σ Q := X_iadd kX2_stateAt_5
theorem kX2_stateAt_6 : aCode iX2_stateAt 6 = some (.istore_n 2, 1) := by decide +kernel
theorem sX2_stateAt_6 {d : Nat} {σ : aS} {Q : aQ} {l0 l1 lo : Option Value} {x : Int32} {lt : aL} {st : List Value} : aX d iX2_stateAt 6 (l0 :: l1 :: lo :: lt) (.int x :: st) σ Q ↔ aX d iX2_stateAt 7 (l0 :: aclr l1 :: some (.int x) :: lt) (st) σ Q := X_istoren kX2_stateAt_6 (by simp only [List.length_cons]; omega)
theorem kX2_stateAt_7 : aCode iX2_stateAt 7 = some (.iload_n 2, 1) := by decide +kernel
theorem sX2_stateAt_7 {d : Nat} {σ : aS} {Q : aQ} {l0 l1 : Option Value} {x : Int32} {lt : aL} {st : List Value} : aX d iX2_stateAt 7 (l0 :: l1 :: some (.int x) :: lt) (st) σ Q ↔ aX d iX2_stateAt 8 (l0 :: l1 :: some (.int x) :: lt) (.int x :: st) σ Q := X_iloadn kX2_stateAt_7 rfl
theorem kX2_stateAt_8 : aCode iX2_stateAt 8 = some (.aload_n 0, 1) := by decide +kernel
theorem sX2_stateAt_8 {d : Nat} {σ : aS} {Q : aQ} {x : Nat} {lt : aL} {st : List Value} : aX d iX2_stateAt 8 (some (.ref x) :: lt) (st) σ Q ↔ aX d iX2_stateAt 9 (some (.ref x) :: lt) (.ref x :: st) σ Q := X_aloadn kX2_stateAt_8 rfl rfl
theorem kX2_stateAt_9 : aCode iX2_stateAt 9 = some (.getfield 11, 3) := by decide +kernel
theorem sX2_stateAt_9 {d : Nat} {σ : aS} {Q : aQ} {a : Nat} {ls : aL} {st : List Value} : aX d iX2_stateAt 9 (ls) (.ref a :: st) σ Q ↔ ∃ v, aFld σ a 2 0 = some v ∧ aX d iX2_stateAt 12 (ls) (v :: st) σ Q := X_getf (w := 183) kX2_stateAt_9 (by decide +kernel)
theorem kX2_stateAt_12 : aCode iX2_stateAt 12 = some (.arraylength, 1) := by decide +kernel
theorem sX2_stateAt_12 {d : Nat} {σ : aS} {Q : aQ} {a : Nat} {ls : aL} {st : List Value} : aX d iX2_stateAt 12 (ls) (.ref a :: st) σ Q ↔ ∃ m, aLn σ a = some m ∧ aX d iX2_stateAt 13 (ls) (.int (nI m) :: st) σ Q := X_alen kX2_stateAt_12
theorem kX2_stateAt_13 : aCode iX2_stateAt 13 = some (.if_icmp .lt 11, 3) := by decide +kernel
theorem sX2_stateAt_13 {d : Nat} {σ : aS} {Q : aQ} {x y : Int32} {ls : aL} {st : List Value} : aX d iX2_stateAt 13 (ls) (.int y :: .int x :: st) σ Q ↔ (if x < y then aX d iX2_stateAt 24 (ls) (st) σ Q else aX d iX2_stateAt 16 (ls) (st) σ Q) := by rw [X_icmp kX2_stateAt_13 (t := 24) (by decide)]; simp only [aCmp_lt]
theorem kX2_stateAt_16 : aCode iX2_stateAt 16 = some (.iload_n 2, 1) := by decide +kernel
theorem sX2_stateAt_16 {d : Nat} {σ : aS} {Q : aQ} {l0 l1 : Option Value} {x : Int32} {lt : aL} {st : List Value} : aX d iX2_stateAt 16 (l0 :: l1 :: some (.int x) :: lt) (st) σ Q ↔ aX d iX2_stateAt 17 (l0 :: l1 :: some (.int x) :: lt) (.int x :: st) σ Q := X_iloadn kX2_stateAt_16 rfl
theorem kX2_stateAt_17 : aCode iX2_stateAt 17 = some (.aload_n 0, 1) := by decide +kernel
theorem sX2_stateAt_17 {d : Nat} {σ : aS} {Q : aQ} {x : Nat} {lt : aL} {st : List Value} : aX d iX2_stateAt 17 (some (.ref x) :: lt) (st) σ Q ↔ aX d iX2_stateAt 18 (some (.ref x) :: lt) (.ref x :: st) σ Q := X_aloadn kX2_stateAt_17 rfl rfl
theorem kX2_stateAt_18 : aCode iX2_stateAt 18 = some (.getfield 11, 3) := by decide +kernel
theorem sX2_stateAt_18 {d : Nat} {σ : aS} {Q : aQ} {a : Nat} {ls : aL} {st : List Value} : aX d iX2_stateAt 18 (ls) (.ref a :: st) σ Q ↔ ∃ v, aFld σ a 2 0 = some v ∧ aX d iX2_stateAt 21 (ls) (v :: st) σ Q := X_getf (w := 183) kX2_stateAt_18 (by decide +kernel)
theorem kX2_stateAt_21 : aCode iX2_stateAt 21 = some (.arraylength, 1) := by decide +kernel
theorem sX2_stateAt_21 {d : Nat} {σ : aS} {Q : aQ} {a : Nat} {ls : aL} {st : List Value} : aX d iX2_stateAt 21 (ls) (.ref a :: st) σ Q ↔ ∃ m, aLn σ a = some m ∧ aX d iX2_stateAt 22 (ls) (.int (nI m) :: st) σ Q := X_alen kX2_stateAt_21
theorem kX2_stateAt_22 : aCode iX2_stateAt 22 = some (.isub, 1) := by decide +kernel
theorem sX2_stateAt_22 {d : Nat} {σ : aS} {Q : aQ} {x y : Int32} {ls : aL} {st : List Value} : aX d iX2_stateAt 22 (ls) (.int y :: .int x :: st) σ Q ↔ aX d iX2_stateAt 23 (ls) (.int (x - y) :: st) σ Q := X_isub kX2_stateAt_22
theorem kX2_stateAt_23 : aCode iX2_stateAt 23 = some (.istore_n 2, 1) := by decide +kernel
theorem sX2_stateAt_23 {d : Nat} {σ : aS} {Q : aQ} {l0 l1 lo : Option Value} {x : Int32} {lt : aL} {st : List Value} : aX d iX2_stateAt 23 (l0 :: l1 :: lo :: lt) (.int x :: st) σ Q ↔ aX d iX2_stateAt 24 (l0 :: aclr l1 :: some (.int x) :: lt) (st) σ Q := X_istoren kX2_stateAt_23 (by simp only [List.length_cons]; omega)
theorem kX2_stateAt_24 : aCode iX2_stateAt 24 = some (.iload_n 2, 1) := by decide +kernel
theorem sX2_stateAt_24 {d : Nat} {σ : aS} {Q : aQ} {l0 l1 : Option Value} {x : Int32} {lt : aL} {st : List Value} : aX d iX2_stateAt 24 (l0 :: l1 :: some (.int x) :: lt) (st) σ Q ↔ aX d iX2_stateAt 25 (l0 :: l1 :: some (.int x) :: lt) (.int x :: st) σ Q := X_iloadn kX2_stateAt_24 rfl
theorem kX2_stateAt_25 : aCode iX2_stateAt 25 = some (.ifCond .lt 21, 3) := by decide +kernel
theorem sX2_stateAt_25 {d : Nat} {σ : aS} {Q : aQ} {x : Int32} {ls : aL} {st : List Value} : aX d iX2_stateAt 25 (ls) (.int x :: st) σ Q ↔ (if x < nI 0 then aX d iX2_stateAt 46 (ls) (st) σ Q else aX d iX2_stateAt 28 (ls) (st) σ Q) := by rw [X_if kX2_stateAt_25 (t := 46) (by decide)]; simp only [aCmp_lt]
theorem kX2_stateAt_28 : aCode iX2_stateAt 28 = some (.iload_n 2, 1) := by decide +kernel
theorem sX2_stateAt_28 {d : Nat} {σ : aS} {Q : aQ} {l0 l1 : Option Value} {x : Int32} {lt : aL} {st : List Value} : aX d iX2_stateAt 28 (l0 :: l1 :: some (.int x) :: lt) (st) σ Q ↔ aX d iX2_stateAt 29 (l0 :: l1 :: some (.int x) :: lt) (.int x :: st) σ Q := X_iloadn kX2_stateAt_28 rfl
theorem kX2_stateAt_29 : aCode iX2_stateAt 29 = some (.aload_n 0, 1) := by decide +kernel
theorem sX2_stateAt_29 {d : Nat} {σ : aS} {Q : aQ} {x : Nat} {lt : aL} {st : List Value} : aX d iX2_stateAt 29 (some (.ref x) :: lt) (st) σ Q ↔ aX d iX2_stateAt 30 (some (.ref x) :: lt) (.ref x :: st) σ Q := X_aloadn kX2_stateAt_29 rfl rfl
theorem kX2_stateAt_30 : aCode iX2_stateAt 30 = some (.getfield 11, 3) := by decide +kernel
theorem sX2_stateAt_30 {d : Nat} {σ : aS} {Q : aQ} {a : Nat} {ls : aL} {st : List Value} : aX d iX2_stateAt 30 (ls) (.ref a :: st) σ Q ↔ ∃ v, aFld σ a 2 0 = some v ∧ aX d iX2_stateAt 33 (ls) (v :: st) σ Q := X_getf (w := 183) kX2_stateAt_30 (by decide +kernel)
theorem kX2_stateAt_33 : aCode iX2_stateAt 33 = some (.arraylength, 1) := by decide +kernel
theorem sX2_stateAt_33 {d : Nat} {σ : aS} {Q : aQ} {a : Nat} {ls : aL} {st : List Value} : aX d iX2_stateAt 33 (ls) (.ref a :: st) σ Q ↔ ∃ m, aLn σ a = some m ∧ aX d iX2_stateAt 34 (ls) (.int (nI m) :: st) σ Q := X_alen kX2_stateAt_33
theorem kX2_stateAt_34 : aCode iX2_stateAt 34 = some (.if_icmp .ge 12, 3) := by decide +kernel
theorem sX2_stateAt_34 {d : Nat} {σ : aS} {Q : aQ} {x y : Int32} {ls : aL} {st : List Value} : aX d iX2_stateAt 34 (ls) (.int y :: .int x :: st) σ Q ↔ (if y ≤ x then aX d iX2_stateAt 46 (ls) (st) σ Q else aX d iX2_stateAt 37 (ls) (st) σ Q) := by rw [X_icmp kX2_stateAt_34 (t := 46) (by decide)]; simp only [aCmp_ge]
theorem kX2_stateAt_37 : aCode iX2_stateAt 37 = some (.aload_n 0, 1) := by decide +kernel
theorem sX2_stateAt_37 {d : Nat} {σ : aS} {Q : aQ} {x : Nat} {lt : aL} {st : List Value} : aX d iX2_stateAt 37 (some (.ref x) :: lt) (st) σ Q ↔ aX d iX2_stateAt 38 (some (.ref x) :: lt) (.ref x :: st) σ Q := X_aloadn kX2_stateAt_37 rfl rfl
theorem kX2_stateAt_38 : aCode iX2_stateAt 38 = some (.getfield 11, 3) := by decide +kernel
theorem sX2_stateAt_38 {d : Nat} {σ : aS} {Q : aQ} {a : Nat} {ls : aL} {st : List Value} : aX d iX2_stateAt 38 (ls) (.ref a :: st) σ Q ↔ ∃ v, aFld σ a 2 0 = some v ∧ aX d iX2_stateAt 41 (ls) (v :: st) σ Q := X_getf (w := 183) kX2_stateAt_38 (by decide +kernel)
theorem kX2_stateAt_41 : aCode iX2_stateAt 41 = some (.iload_n 2, 1) := by decide +kernel
theorem sX2_stateAt_41 {d : Nat} {σ : aS} {Q : aQ} {l0 l1 : Option Value} {x : Int32} {lt : aL} {st : List Value} : aX d iX2_stateAt 41 (l0 :: l1 :: some (.int x) :: lt) (st) σ Q ↔ aX d iX2_stateAt 42 (l0 :: l1 :: some (.int x) :: lt) (.int x :: st) σ Q := X_iloadn kX2_stateAt_41 rfl
theorem kX2_stateAt_42 : aCode iX2_stateAt 42 = some (.aaload, 1) := by decide +kernel
theorem sX2_stateAt_42 {d : Nat} {σ : aS} {Q : aQ} {a : Nat} {i : Int32} {ls : aL} {st : List Value} : aX d iX2_stateAt 42 (ls) (.int i :: .ref a :: st) σ Q ↔ ∃ x, aRefs σ a = some x ∧ vp_in i x.2.1 ∧ aX d iX2_stateAt 43 (ls) (va_rf (x.2.2 i.toNatClampNeg) :: st) σ Q := X_aaload kX2_stateAt_42
theorem kX2_stateAt_43 : aCode iX2_stateAt 43 = some (.goto 4, 3) := by decide +kernel
theorem sX2_stateAt_43 {d : Nat} {σ : aS} {Q : aQ} {ls : aL} {st : List Value} : aX d iX2_stateAt 43 (ls) (st) σ Q ↔ aX d iX2_stateAt 47 (ls) (st) σ Q := X_goto kX2_stateAt_43 (by decide)
theorem kX2_stateAt_46 : aCode iX2_stateAt 46 = some (.aconst_null, 1) := by decide +kernel
theorem sX2_stateAt_46 {d : Nat} {σ : aS} {Q : aQ} {ls : aL} {st : List Value} : aX d iX2_stateAt 46 (ls) (st) σ Q ↔ aX d iX2_stateAt 47 (ls) (.null :: st) σ Q := X_null kX2_stateAt_46
theorem kX2_stateAt_47 : aCode iX2_stateAt 47 = some (.areturn, 1) := by decide +kernel
theorem sX2_stateAt_47 {d : Nat} {σ : aS} {Q : aQ} {x : Nat} {ls : aL} : aX d iX2_stateAt 47 (ls) ([.ref x]) σ Q ↔ Q (some (.ref x)) σ := X_aret (nm := "DoodleAlbums$Table") kX2_stateAt_47 (by decide +kernel) rfl
theorem sX2_stateAt_47n {d : Nat} {σ : aS} {Q : aQ} {ls : aL} : aX d iX2_stateAt 47 (ls) ([.null]) σ Q ↔ Q (some .null) σ := X_aret (nm := "DoodleAlbums$Table") kX2_stateAt_47 (by decide +kernel) rfl
theorem kX2_prepare_0 : aCode iX2_prepare 0 = some (.aload_n 0, 1) := by decide +kernel
theorem sX2_prepare_0 {d : Nat} {σ : aS} {Q : aQ} {x : Nat} {lt : aL} {st : List Value} : aX d iX2_prepare 0 (some (.ref x) :: lt) (st) σ Q ↔ aX d iX2_prepare 1 (some (.ref x) :: lt) (.ref x :: st) σ Q := X_aloadn kX2_prepare_0 rfl rfl
theorem kX2_prepare_1 : aCode iX2_prepare 1 = some (.aload_n 0, 1) := by decide +kernel
theorem sX2_prepare_1 {d : Nat} {σ : aS} {Q : aQ} {x : Nat} {lt : aL} {st : List Value} : aX d iX2_prepare 1 (some (.ref x) :: lt) (st) σ Q ↔ aX d iX2_prepare 2 (some (.ref x) :: lt) (.ref x :: st) σ Q := X_aloadn kX2_prepare_1 rfl rfl
theorem kX2_prepare_2 : aCode iX2_prepare 2 = some (.getfield 22, 3) := by decide +kernel
theorem sX2_prepare_2 {d : Nat} {σ : aS} {Q : aQ} {a : Nat} {ls : aL} {st : List Value} : aX d iX2_prepare 2 (ls) (.ref a :: st) σ Q ↔ ∃ v, aFld σ a 2 2 = some v ∧ aX d iX2_prepare 5 (ls) (v :: st) σ Q := X_getf (w := 185) kX2_prepare_2 (by decide +kernel)
theorem kX2_prepare_5 : aCode iX2_prepare 5 = some (.invokevirtual 25, 3) := by decide +kernel
theorem sX2_prepare_5 {d : Nat} {σ : aS} {Q : aQ} {b : Nat} {p0 : Int32} {ls : aL} : aX (d + 1) iX2_prepare 5 (ls) (.int p0 :: .ref b :: []) σ Q ↔ aIs σ b 2 ∧ aX d iX2_stateAt 0 [some (.ref b), some (.int p0), none] [] σ (fun r τ => aX (d + 1) iX2_prepare 8 (ls) (aret r ([])) τ Q) := X_invv (N := 1) (As := [.int p0]) (w := 264) kX2_prepare_5 (by decide +kernel) (by decide +kernel) rfl rfl (by simp only [List.length_cons, List.length_nil]; omega) (by simp only [List.length_cons, List.length_nil]; omega) (by decide +kernel) rfl (Nat.le_of_ble_eq_true rfl)
theorem kX2_prepare_8 : aCode iX2_prepare 8 = some (.astore_n 2, 1) := by decide +kernel
theorem sX2_prepare_8 {d : Nat} {σ : aS} {Q : aQ} {l0 l1 lo : Option Value} {x : Nat} {lt : aL} {st : List Value} : aX d iX2_prepare 8 (l0 :: l1 :: lo :: lt) (.ref x :: st) σ Q ↔ aX d iX2_prepare 9 (l0 :: aclr l1 :: some (.ref x) :: lt) (st) σ Q := X_astoren kX2_prepare_8 (by simp only [List.length_cons]; omega) rfl
theorem sX2_prepare_8n {d : Nat} {σ : aS} {Q : aQ} {l0 l1 lo : Option Value} {lt : aL} {st : List Value} : aX d iX2_prepare 8 (l0 :: l1 :: lo :: lt) (.null :: st) σ Q ↔ aX d iX2_prepare 9 (l0 :: aclr l1 :: some (.null) :: lt) (st) σ Q := X_astoren kX2_prepare_8 (by simp only [List.length_cons]; omega) rfl
theorem kX2_prepare_9 : aCode iX2_prepare 9 = some (.aload_n 2, 1) := by decide +kernel
theorem sX2_prepare_9 {d : Nat} {σ : aS} {Q : aQ} {l0 l1 : Option Value} {x : Nat} {lt : aL} {st : List Value} : aX d iX2_prepare 9 (l0 :: l1 :: some (.ref x) :: lt) (st) σ Q ↔ aX d iX2_prepare 10 (l0 :: l1 :: some (.ref x) :: lt) (.ref x :: st) σ Q := X_aloadn kX2_prepare_9 rfl rfl
theorem sX2_prepare_9n {d : Nat} {σ : aS} {Q : aQ} {l0 l1 : Option Value} {lt : aL} {st : List Value} : aX d iX2_prepare 9 (l0 :: l1 :: some .null :: lt) (st) σ Q ↔ aX d iX2_prepare 10 (l0 :: l1 :: some .null :: lt) (.null :: st) σ Q := X_aloadn kX2_prepare_9 rfl rfl
theorem kX2_prepare_10 : aCode iX2_prepare 10 = some (.ifnull 8, 3) := by decide +kernel
theorem sX2_prepare_10 {d : Nat} {σ : aS} {Q : aQ} {x : Nat} {ls : aL} {st : List Value} : aX d iX2_prepare 10 (ls) (.ref x :: st) σ Q ↔ aX d iX2_prepare 13 (ls) (st) σ Q := X_ifnull kX2_prepare_10 (t := 18) (by decide)
theorem sX2_prepare_10n {d : Nat} {σ : aS} {Q : aQ} {ls : aL} {st : List Value} : aX d iX2_prepare 10 (ls) (.null :: st) σ Q ↔ aX d iX2_prepare 18 (ls) (st) σ Q := X_ifnullN kX2_prepare_10 (t := 18) (by decide)
theorem kX2_prepare_13 : aCode iX2_prepare 13 = some (.aload_n 2, 1) := by decide +kernel
theorem sX2_prepare_13 {d : Nat} {σ : aS} {Q : aQ} {l0 l1 : Option Value} {x : Nat} {lt : aL} {st : List Value} : aX d iX2_prepare 13 (l0 :: l1 :: some (.ref x) :: lt) (st) σ Q ↔ aX d iX2_prepare 14 (l0 :: l1 :: some (.ref x) :: lt) (.ref x :: st) σ Q := X_aloadn kX2_prepare_13 rfl rfl
theorem sX2_prepare_13n {d : Nat} {σ : aS} {Q : aQ} {l0 l1 : Option Value} {lt : aL} {st : List Value} : aX d iX2_prepare 13 (l0 :: l1 :: some .null :: lt) (st) σ Q ↔ aX d iX2_prepare 14 (l0 :: l1 :: some .null :: lt) (.null :: st) σ Q := X_aloadn kX2_prepare_13 rfl rfl
theorem kX2_prepare_14 : aCode iX2_prepare 14 = some (.aload_n 1, 1) := by decide +kernel
theorem sX2_prepare_14 {d : Nat} {σ : aS} {Q : aQ} {l0 : Option Value} {x : Nat} {lt : aL} {st : List Value} : aX d iX2_prepare 14 (l0 :: some (.ref x) :: lt) (st) σ Q ↔ aX d iX2_prepare 15 (l0 :: some (.ref x) :: lt) (.ref x :: st) σ Q := X_aloadn kX2_prepare_14 rfl rfl
theorem sX2_prepare_14n {d : Nat} {σ : aS} {Q : aQ} {l0 : Option Value} {lt : aL} {st : List Value} : aX d iX2_prepare 14 (l0 :: some .null :: lt) (st) σ Q ↔ aX d iX2_prepare 15 (l0 :: some .null :: lt) (.null :: st) σ Q := X_aloadn kX2_prepare_14 rfl rfl
theorem kX2_prepare_15 : aCode iX2_prepare 15 = some (.invokevirtual 29, 3) := by decide +kernel
theorem sX2_prepare_15 {d : Nat} {σ : aS} {Q : aQ} {b : Nat} {p0 : Nat} {ls : aL} : aX (d + 1) iX2_prepare 15 (ls) (.ref p0 :: .ref b :: []) σ Q ↔ aIs σ b 5 ∧ aX d iX5_copyFrom 0 [some (.ref b), some (.ref p0), none, none, none] [] σ (fun r τ => aX (d + 1) iX2_prepare 18 (ls) (aret r ([])) τ Q) := X_invv (N := 1) (As := [.ref p0]) (w := 268) kX2_prepare_15 (by decide +kernel) (by decide +kernel) rfl rfl (by simp only [List.length_cons, List.length_nil]; omega) (by simp only [List.length_cons, List.length_nil]; omega) (by decide +kernel) rfl (Nat.le_of_ble_eq_true rfl)
theorem kX2_prepare_18 : aCode iX2_prepare 18 = some (.return_, 1) := by decide +kernel
theorem sX2_prepare_18 {d : Nat} {σ : aS} {Q : aQ} {ls : aL} : aX d iX2_prepare 18 (ls) ([]) σ Q ↔ Q none σ := X_vret kX2_prepare_18 (by decide +kernel)
theorem kX2_recordUnlessError_0 : aCode iX2_recordUnlessError 0 = some (.iload_n 1, 1) := by decide +kernel
theorem sX2_recordUnlessError_0 {d : Nat} {σ : aS} {Q : aQ} {l0 : Option Value} {x : Int32} {lt : aL} {st : List Value} : aX d iX2_recordUnlessError 0 (l0 :: some (.int x) :: lt) (st) σ Q ↔ aX d iX2_recordUnlessError 1 (l0 :: some (.int x) :: lt) (.int x :: st) σ Q := X_iloadn kX2_recordUnlessError_0 rfl
theorem kX2_recordUnlessError_1 : aCode iX2_recordUnlessError 1 = some (.ifCond .lt 53, 3) := by decide +kernel
theorem sX2_recordUnlessError_1 {d : Nat} {σ : aS} {Q : aQ} {x : Int32} {ls : aL} {st : List Value} : aX d iX2_recordUnlessError 1 (ls) (.int x :: st) σ Q ↔ (if x < nI 0 then aX d iX2_recordUnlessError 54 (ls) (st) σ Q else aX d iX2_recordUnlessError 4 (ls) (st) σ Q) := by rw [X_if kX2_recordUnlessError_1 (t := 54) (by decide)]; simp only [aCmp_lt]
theorem kX2_recordUnlessError_4 : aCode iX2_recordUnlessError 4 = some (.aload_n 0, 1) := by decide +kernel
theorem sX2_recordUnlessError_4 {d : Nat} {σ : aS} {Q : aQ} {x : Nat} {lt : aL} {st : List Value} : aX d iX2_recordUnlessError 4 (some (.ref x) :: lt) (st) σ Q ↔ aX d iX2_recordUnlessError 5 (some (.ref x) :: lt) (.ref x :: st) σ Q := X_aloadn kX2_recordUnlessError_4 rfl rfl
theorem kX2_recordUnlessError_5 : aCode iX2_recordUnlessError 5 = some (.getfield 22, 3) := by decide +kernel
theorem sX2_recordUnlessError_5 {d : Nat} {σ : aS} {Q : aQ} {a : Nat} {ls : aL} {st : List Value} : aX d iX2_recordUnlessError 5 (ls) (.ref a :: st) σ Q ↔ ∃ v, aFld σ a 2 2 = some v ∧ aX d iX2_recordUnlessError 8 (ls) (v :: st) σ Q := X_getf (w := 185) kX2_recordUnlessError_5 (by decide +kernel)
theorem kX2_recordUnlessError_8 : aCode iX2_recordUnlessError 8 = some (.bipush 6, 2) := by decide +kernel
theorem sX2_recordUnlessError_8 {d : Nat} {σ : aS} {Q : aQ} {ls : aL} {st : List Value} : aX d iX2_recordUnlessError 8 (ls) (st) σ Q ↔ aX d iX2_recordUnlessError 10 (ls) (.int (nI 6) :: st) σ Q := X_bipush kX2_recordUnlessError_8 (by decide +kernel)
theorem kX2_recordUnlessError_10 : aCode iX2_recordUnlessError 10 = some (.if_icmp .ge 16, 3) := by decide +kernel
theorem sX2_recordUnlessError_10 {d : Nat} {σ : aS} {Q : aQ} {x y : Int32} {ls : aL} {st : List Value} : aX d iX2_recordUnlessError 10 (ls) (.int y :: .int x :: st) σ Q ↔ (if y ≤ x then aX d iX2_recordUnlessError 26 (ls) (st) σ Q else aX d iX2_recordUnlessError 13 (ls) (st) σ Q) := by rw [X_icmp kX2_recordUnlessError_10 (t := 26) (by decide)]; simp only [aCmp_ge]
theorem kX2_recordUnlessError_13 : aCode iX2_recordUnlessError 13 = some (.aload_n 0, 1) := by decide +kernel
theorem sX2_recordUnlessError_13 {d : Nat} {σ : aS} {Q : aQ} {x : Nat} {lt : aL} {st : List Value} : aX d iX2_recordUnlessError 13 (some (.ref x) :: lt) (st) σ Q ↔ aX d iX2_recordUnlessError 14 (some (.ref x) :: lt) (.ref x :: st) σ Q := X_aloadn kX2_recordUnlessError_13 rfl rfl
theorem kX2_recordUnlessError_14 : aCode iX2_recordUnlessError 14 = some (.dup, 1) := by decide +kernel
theorem sX2_recordUnlessError_14 {d : Nat} {σ : aS} {Q : aQ} {x : Nat} {ls : aL} {st : List Value} : aX d iX2_recordUnlessError 14 (ls) (.ref x :: st) σ Q ↔ aX d iX2_recordUnlessError 15 (ls) (.ref x :: .ref x :: st) σ Q := X_dup kX2_recordUnlessError_14 rfl
theorem sX2_recordUnlessError_14i {d : Nat} {σ : aS} {Q : aQ} {x : Int32} {ls : aL} {st : List Value} : aX d iX2_recordUnlessError 14 (ls) (.int x :: st) σ Q ↔ aX d iX2_recordUnlessError 15 (ls) (.int x :: .int x :: st) σ Q := X_dup kX2_recordUnlessError_14 rfl
theorem kX2_recordUnlessError_15 : aCode iX2_recordUnlessError 15 = some (.getfield 22, 3) := by decide +kernel
theorem sX2_recordUnlessError_15 {d : Nat} {σ : aS} {Q : aQ} {a : Nat} {ls : aL} {st : List Value} : aX d iX2_recordUnlessError 15 (ls) (.ref a :: st) σ Q ↔ ∃ v, aFld σ a 2 2 = some v ∧ aX d iX2_recordUnlessError 18 (ls) (v :: st) σ Q := X_getf (w := 185) kX2_recordUnlessError_15 (by decide +kernel)
theorem kX2_recordUnlessError_18 : aCode iX2_recordUnlessError 18 = some (.iconst 1, 1) := by decide +kernel
theorem sX2_recordUnlessError_18 {d : Nat} {σ : aS} {Q : aQ} {ls : aL} {st : List Value} : aX d iX2_recordUnlessError 18 (ls) (st) σ Q ↔ aX d iX2_recordUnlessError 19 (ls) (.int (nI 1) :: st) σ Q := X_iconst kX2_recordUnlessError_18 (by decide +kernel)
theorem kX2_recordUnlessError_19 : aCode iX2_recordUnlessError 19 = some (.iadd, 1) := by decide +kernel
theorem sX2_recordUnlessError_19 {d : Nat} {σ : aS} {Q : aQ} {x y : Int32} {ls : aL} {st : List Value} : aX d iX2_recordUnlessError 19 (ls) (.int y :: .int x :: st) σ Q ↔ aX d iX2_recordUnlessError 20 (ls) (.int (x + y) :: st) σ Q := X_iadd kX2_recordUnlessError_19
theorem kX2_recordUnlessError_20 : aCode iX2_recordUnlessError 20 = some (.putfield 22, 3) := by decide +kernel
theorem sX2_recordUnlessError_20 {d : Nat} {σ : aS} {Q : aQ} {x : Int32} {a : Nat} {ls : aL} {st : List Value} : aX d iX2_recordUnlessError 20 (ls) (.int x :: .ref a :: st) σ Q ↔ ∃ fs, aFds σ a 2 = some fs ∧ 2 < fs.length ∧ aX d iX2_recordUnlessError 23 (ls) (st) (aput σ a (eO 2 (fs.set 2 (.int x)))) Q := X_putf (w := 185) kX2_recordUnlessError_20 (by decide +kernel) (aFit_I (by decide +kernel)) (by decide +kernel)
theorem kX2_recordUnlessError_23 : aCode iX2_recordUnlessError 23 = some (.goto 31, 3) := by decide +kernel
theorem sX2_recordUnlessError_23 {d : Nat} {σ : aS} {Q : aQ} {ls : aL} {st : List Value} : aX d iX2_recordUnlessError 23 (ls) (st) σ Q ↔ aX d iX2_recordUnlessError 54 (ls) (st) σ Q := X_goto kX2_recordUnlessError_23 (by decide)
theorem kX2_recordUnlessError_26 : aCode iX2_recordUnlessError 26 = some (.aload_n 0, 1) := by decide +kernel
theorem sX2_recordUnlessError_26 {d : Nat} {σ : aS} {Q : aQ} {x : Nat} {lt : aL} {st : List Value} : aX d iX2_recordUnlessError 26 (some (.ref x) :: lt) (st) σ Q ↔ aX d iX2_recordUnlessError 27 (some (.ref x) :: lt) (.ref x :: st) σ Q := X_aloadn kX2_recordUnlessError_26 rfl rfl
theorem kX2_recordUnlessError_27 : aCode iX2_recordUnlessError 27 = some (.aload_n 0, 1) := by decide +kernel
theorem sX2_recordUnlessError_27 {d : Nat} {σ : aS} {Q : aQ} {x : Nat} {lt : aL} {st : List Value} : aX d iX2_recordUnlessError 27 (some (.ref x) :: lt) (st) σ Q ↔ aX d iX2_recordUnlessError 28 (some (.ref x) :: lt) (.ref x :: st) σ Q := X_aloadn kX2_recordUnlessError_27 rfl rfl
theorem kX2_recordUnlessError_28 : aCode iX2_recordUnlessError 28 = some (.getfield 18, 3) := by decide +kernel
theorem sX2_recordUnlessError_28 {d : Nat} {σ : aS} {Q : aQ} {a : Nat} {ls : aL} {st : List Value} : aX d iX2_recordUnlessError 28 (ls) (.ref a :: st) σ Q ↔ ∃ v, aFld σ a 2 1 = some v ∧ aX d iX2_recordUnlessError 31 (ls) (v :: st) σ Q := X_getf (w := 184) kX2_recordUnlessError_28 (by decide +kernel)
theorem kX2_recordUnlessError_31 : aCode iX2_recordUnlessError 31 = some (.iconst 1, 1) := by decide +kernel
theorem sX2_recordUnlessError_31 {d : Nat} {σ : aS} {Q : aQ} {ls : aL} {st : List Value} : aX d iX2_recordUnlessError 31 (ls) (st) σ Q ↔ aX d iX2_recordUnlessError 32 (ls) (.int (nI 1) :: st) σ Q := X_iconst kX2_recordUnlessError_31 (by decide +kernel)
theorem kX2_recordUnlessError_32 : aCode iX2_recordUnlessError 32 = some (.iadd, 1) := by decide +kernel
theorem sX2_recordUnlessError_32 {d : Nat} {σ : aS} {Q : aQ} {x y : Int32} {ls : aL} {st : List Value} : aX d iX2_recordUnlessError 32 (ls) (.int y :: .int x :: st) σ Q ↔ aX d iX2_recordUnlessError 33 (ls) (.int (x + y) :: st) σ Q := X_iadd kX2_recordUnlessError_32
theorem kX2_recordUnlessError_33 : aCode iX2_recordUnlessError 33 = some (.aload_n 0, 1) := by decide +kernel
theorem sX2_recordUnlessError_33 {d : Nat} {σ : aS} {Q : aQ} {x : Nat} {lt : aL} {st : List Value} : aX d iX2_recordUnlessError 33 (some (.ref x) :: lt) (st) σ Q ↔ aX d iX2_recordUnlessError 34 (some (.ref x) :: lt) (.ref x :: st) σ Q := X_aloadn kX2_recordUnlessError_33 rfl rfl
theorem kX2_recordUnlessError_34 : aCode iX2_recordUnlessError 34 = some (.getfield 11, 3) := by decide +kernel
theorem sX2_recordUnlessError_34 {d : Nat} {σ : aS} {Q : aQ} {a : Nat} {ls : aL} {st : List Value} : aX d iX2_recordUnlessError 34 (ls) (.ref a :: st) σ Q ↔ ∃ v, aFld σ a 2 0 = some v ∧ aX d iX2_recordUnlessError 37 (ls) (v :: st) σ Q := X_getf (w := 183) kX2_recordUnlessError_34 (by decide +kernel)
theorem kX2_recordUnlessError_37 : aCode iX2_recordUnlessError 37 = some (.arraylength, 1) := by decide +kernel
theorem sX2_recordUnlessError_37 {d : Nat} {σ : aS} {Q : aQ} {a : Nat} {ls : aL} {st : List Value} : aX d iX2_recordUnlessError 37 (ls) (.ref a :: st) σ Q ↔ ∃ m, aLn σ a = some m ∧ aX d iX2_recordUnlessError 38 (ls) (.int (nI m) :: st) σ Q := X_alen kX2_recordUnlessError_37
theorem kX2_recordUnlessError_38 : aCode iX2_recordUnlessError 38 = some (.if_icmp .ge 12, 3) := by decide +kernel
theorem sX2_recordUnlessError_38 {d : Nat} {σ : aS} {Q : aQ} {x y : Int32} {ls : aL} {st : List Value} : aX d iX2_recordUnlessError 38 (ls) (.int y :: .int x :: st) σ Q ↔ (if y ≤ x then aX d iX2_recordUnlessError 50 (ls) (st) σ Q else aX d iX2_recordUnlessError 41 (ls) (st) σ Q) := by rw [X_icmp kX2_recordUnlessError_38 (t := 50) (by decide)]; simp only [aCmp_ge]
theorem kX2_recordUnlessError_41 : aCode iX2_recordUnlessError 41 = some (.aload_n 0, 1) := by decide +kernel
theorem sX2_recordUnlessError_41 {d : Nat} {σ : aS} {Q : aQ} {x : Nat} {lt : aL} {st : List Value} : aX d iX2_recordUnlessError 41 (some (.ref x) :: lt) (st) σ Q ↔ aX d iX2_recordUnlessError 42 (some (.ref x) :: lt) (.ref x :: st) σ Q := X_aloadn kX2_recordUnlessError_41 rfl rfl
theorem kX2_recordUnlessError_42 : aCode iX2_recordUnlessError 42 = some (.getfield 18, 3) := by decide +kernel
theorem sX2_recordUnlessError_42 {d : Nat} {σ : aS} {Q : aQ} {a : Nat} {ls : aL} {st : List Value} : aX d iX2_recordUnlessError 42 (ls) (.ref a :: st) σ Q ↔ ∃ v, aFld σ a 2 1 = some v ∧ aX d iX2_recordUnlessError 45 (ls) (v :: st) σ Q := X_getf (w := 184) kX2_recordUnlessError_42 (by decide +kernel)
theorem kX2_recordUnlessError_45 : aCode iX2_recordUnlessError 45 = some (.iconst 1, 1) := by decide +kernel
theorem sX2_recordUnlessError_45 {d : Nat} {σ : aS} {Q : aQ} {ls : aL} {st : List Value} : aX d iX2_recordUnlessError 45 (ls) (st) σ Q ↔ aX d iX2_recordUnlessError 46 (ls) (.int (nI 1) :: st) σ Q := X_iconst kX2_recordUnlessError_45 (by decide +kernel)
theorem kX2_recordUnlessError_46 : aCode iX2_recordUnlessError 46 = some (.iadd, 1) := by decide +kernel
theorem sX2_recordUnlessError_46 {d : Nat} {σ : aS} {Q : aQ} {x y : Int32} {ls : aL} {st : List Value} : aX d iX2_recordUnlessError 46 (ls) (.int y :: .int x :: st) σ Q ↔ aX d iX2_recordUnlessError 47 (ls) (.int (x + y) :: st) σ Q := X_iadd kX2_recordUnlessError_46
theorem kX2_recordUnlessError_47 : aCode iX2_recordUnlessError 47 = some (.goto 4, 3) := by decide +kernel
theorem sX2_recordUnlessError_47 {d : Nat} {σ : aS} {Q : aQ} {ls : aL} {st : List Value} : aX d iX2_recordUnlessError 47 (ls) (st) σ Q ↔ aX d iX2_recordUnlessError 51 (ls) (st) σ Q := X_goto kX2_recordUnlessError_47 (by decide)
theorem kX2_recordUnlessError_50 : aCode iX2_recordUnlessError 50 = some (.iconst 0, 1) := by decide +kernel
theorem sX2_recordUnlessError_50 {d : Nat} {σ : aS} {Q : aQ} {ls : aL} {st : List Value} : aX d iX2_recordUnlessError 50 (ls) (st) σ Q ↔ aX d iX2_recordUnlessError 51 (ls) (.int (nI 0) :: st) σ Q := X_iconst kX2_recordUnlessError_50 (by decide +kernel)
theorem kX2_recordUnlessError_51 : aCode iX2_recordUnlessError 51 = some (.putfield 18, 3) := by decide +kernel
theorem sX2_recordUnlessError_51 {d : Nat} {σ : aS} {Q : aQ} {x : Int32} {a : Nat} {ls : aL} {st : List Value} : aX d iX2_recordUnlessError 51 (ls) (.int x :: .ref a :: st) σ Q ↔ ∃ fs, aFds σ a 2 = some fs ∧ 1 < fs.length ∧ aX d iX2_recordUnlessError 54 (ls) (st) (aput σ a (eO 2 (fs.set 1 (.int x)))) Q := X_putf (w := 184) kX2_recordUnlessError_51 (by decide +kernel) (aFit_I (by decide +kernel)) (by decide +kernel)
theorem kX2_recordUnlessError_54 : aCode iX2_recordUnlessError 54 = some (.iload_n 1, 1) := by decide +kernel
theorem sX2_recordUnlessError_54 {d : Nat} {σ : aS} {Q : aQ} {l0 : Option Value} {x : Int32} {lt : aL} {st : List Value} : aX d iX2_recordUnlessError 54 (l0 :: some (.int x) :: lt) (st) σ Q ↔ aX d iX2_recordUnlessError 55 (l0 :: some (.int x) :: lt) (.int x :: st) σ Q := X_iloadn kX2_recordUnlessError_54 rfl
theorem kX2_recordUnlessError_55 : aCode iX2_recordUnlessError 55 = some (.ireturn, 1) := by decide +kernel
theorem sX2_recordUnlessError_55 {d : Nat} {σ : aS} {Q : aQ} {v : Int32} {ls : aL} : aX d iX2_recordUnlessError 55 (ls) ([.int v]) σ Q ↔ Q (some (.int v)) σ := X_iret kX2_recordUnlessError_55 (by decide +kernel)
theorem kX2_takeBack_0 : aCode iX2_takeBack 0 = some (.aload_n 0, 1) := by decide +kernel
theorem sX2_takeBack_0 {d : Nat} {σ : aS} {Q : aQ} {x : Nat} {lt : aL} {st : List Value} : aX d iX2_takeBack 0 (some (.ref x) :: lt) (st) σ Q ↔ aX d iX2_takeBack 1 (some (.ref x) :: lt) (.ref x :: st) σ Q := X_aloadn kX2_takeBack_0 rfl rfl
theorem kX2_takeBack_1 : aCode iX2_takeBack 1 = some (.getfield 22, 3) := by decide +kernel
theorem sX2_takeBack_1 {d : Nat} {σ : aS} {Q : aQ} {a : Nat} {ls : aL} {st : List Value} : aX d iX2_takeBack 1 (ls) (.ref a :: st) σ Q ↔ ∃ v, aFld σ a 2 2 = some v ∧ aX d iX2_takeBack 4 (ls) (v :: st) σ Q := X_getf (w := 185) kX2_takeBack_1 (by decide +kernel)
theorem kX2_takeBack_4 : aCode iX2_takeBack 4 = some (.ifCond .le 16, 3) := by decide +kernel
theorem sX2_takeBack_4 {d : Nat} {σ : aS} {Q : aQ} {x : Int32} {ls : aL} {st : List Value} : aX d iX2_takeBack 4 (ls) (.int x :: st) σ Q ↔ (if x ≤ nI 0 then aX d iX2_takeBack 20 (ls) (st) σ Q else aX d iX2_takeBack 7 (ls) (st) σ Q) := by rw [X_if kX2_takeBack_4 (t := 20) (by decide)]; simp only [aCmp_le]
theorem kX2_takeBack_7 : aCode iX2_takeBack 7 = some (.aload_n 0, 1) := by decide +kernel
theorem sX2_takeBack_7 {d : Nat} {σ : aS} {Q : aQ} {x : Nat} {lt : aL} {st : List Value} : aX d iX2_takeBack 7 (some (.ref x) :: lt) (st) σ Q ↔ aX d iX2_takeBack 8 (some (.ref x) :: lt) (.ref x :: st) σ Q := X_aloadn kX2_takeBack_7 rfl rfl
theorem kX2_takeBack_8 : aCode iX2_takeBack 8 = some (.aload_n 0, 1) := by decide +kernel
theorem sX2_takeBack_8 {d : Nat} {σ : aS} {Q : aQ} {x : Nat} {lt : aL} {st : List Value} : aX d iX2_takeBack 8 (some (.ref x) :: lt) (st) σ Q ↔ aX d iX2_takeBack 9 (some (.ref x) :: lt) (.ref x :: st) σ Q := X_aloadn kX2_takeBack_8 rfl rfl
theorem kX2_takeBack_9 : aCode iX2_takeBack 9 = some (.getfield 22, 3) := by decide +kernel
theorem sX2_takeBack_9 {d : Nat} {σ : aS} {Q : aQ} {a : Nat} {ls : aL} {st : List Value} : aX d iX2_takeBack 9 (ls) (.ref a :: st) σ Q ↔ ∃ v, aFld σ a 2 2 = some v ∧ aX d iX2_takeBack 12 (ls) (v :: st) σ Q := X_getf (w := 185) kX2_takeBack_9 (by decide +kernel)
theorem kX2_takeBack_12 : aCode iX2_takeBack 12 = some (.iconst 1, 1) := by decide +kernel
theorem sX2_takeBack_12 {d : Nat} {σ : aS} {Q : aQ} {ls : aL} {st : List Value} : aX d iX2_takeBack 12 (ls) (st) σ Q ↔ aX d iX2_takeBack 13 (ls) (.int (nI 1) :: st) σ Q := X_iconst kX2_takeBack_12 (by decide +kernel)
theorem kX2_takeBack_13 : aCode iX2_takeBack 13 = some (.isub, 1) := by decide +kernel
theorem sX2_takeBack_13 {d : Nat} {σ : aS} {Q : aQ} {x y : Int32} {ls : aL} {st : List Value} : aX d iX2_takeBack 13 (ls) (.int y :: .int x :: st) σ Q ↔ aX d iX2_takeBack 14 (ls) (.int (x - y) :: st) σ Q := X_isub kX2_takeBack_13
theorem kX2_takeBack_14 : aCode iX2_takeBack 14 = some (.invokevirtual 25, 3) := by decide +kernel
theorem sX2_takeBack_14 {d : Nat} {σ : aS} {Q : aQ} {b : Nat} {p0 : Int32} {ls : aL} : aX (d + 1) iX2_takeBack 14 (ls) (.int p0 :: .ref b :: []) σ Q ↔ aIs σ b 2 ∧ aX d iX2_stateAt 0 [some (.ref b), some (.int p0), none] [] σ (fun r τ => aX (d + 1) iX2_takeBack 17 (ls) (aret r ([])) τ Q) := X_invv (N := 1) (As := [.int p0]) (w := 264) kX2_takeBack_14 (by decide +kernel) (by decide +kernel) rfl rfl (by simp only [List.length_cons, List.length_nil]; omega) (by simp only [List.length_cons, List.length_nil]; omega) (by decide +kernel) rfl (Nat.le_of_ble_eq_true rfl)
theorem kX2_takeBack_17 : aCode iX2_takeBack 17 = some (.goto 4, 3) := by decide +kernel
theorem sX2_takeBack_17 {d : Nat} {σ : aS} {Q : aQ} {ls : aL} {st : List Value} : aX d iX2_takeBack 17 (ls) (st) σ Q ↔ aX d iX2_takeBack 21 (ls) (st) σ Q := X_goto kX2_takeBack_17 (by decide)
theorem kX2_takeBack_20 : aCode iX2_takeBack 20 = some (.aconst_null, 1) := by decide +kernel
theorem sX2_takeBack_20 {d : Nat} {σ : aS} {Q : aQ} {ls : aL} {st : List Value} : aX d iX2_takeBack 20 (ls) (st) σ Q ↔ aX d iX2_takeBack 21 (ls) (.null :: st) σ Q := X_null kX2_takeBack_20
theorem kX2_takeBack_21 : aCode iX2_takeBack 21 = some (.astore_n 2, 1) := by decide +kernel
theorem sX2_takeBack_21 {d : Nat} {σ : aS} {Q : aQ} {l0 l1 lo : Option Value} {x : Nat} {lt : aL} {st : List Value} : aX d iX2_takeBack 21 (l0 :: l1 :: lo :: lt) (.ref x :: st) σ Q ↔ aX d iX2_takeBack 22 (l0 :: aclr l1 :: some (.ref x) :: lt) (st) σ Q := X_astoren kX2_takeBack_21 (by simp only [List.length_cons]; omega) rfl
theorem sX2_takeBack_21n {d : Nat} {σ : aS} {Q : aQ} {l0 l1 lo : Option Value} {lt : aL} {st : List Value} : aX d iX2_takeBack 21 (l0 :: l1 :: lo :: lt) (.null :: st) σ Q ↔ aX d iX2_takeBack 22 (l0 :: aclr l1 :: some (.null) :: lt) (st) σ Q := X_astoren kX2_takeBack_21 (by simp only [List.length_cons]; omega) rfl
theorem kX2_takeBack_22 : aCode iX2_takeBack 22 = some (.aload_n 2, 1) := by decide +kernel
theorem sX2_takeBack_22 {d : Nat} {σ : aS} {Q : aQ} {l0 l1 : Option Value} {x : Nat} {lt : aL} {st : List Value} : aX d iX2_takeBack 22 (l0 :: l1 :: some (.ref x) :: lt) (st) σ Q ↔ aX d iX2_takeBack 23 (l0 :: l1 :: some (.ref x) :: lt) (.ref x :: st) σ Q := X_aloadn kX2_takeBack_22 rfl rfl
theorem sX2_takeBack_22n {d : Nat} {σ : aS} {Q : aQ} {l0 l1 : Option Value} {lt : aL} {st : List Value} : aX d iX2_takeBack 22 (l0 :: l1 :: some .null :: lt) (st) σ Q ↔ aX d iX2_takeBack 23 (l0 :: l1 :: some .null :: lt) (.null :: st) σ Q := X_aloadn kX2_takeBack_22 rfl rfl
theorem kX2_takeBack_23 : aCode iX2_takeBack 23 = some (.ifnonnull 6, 3) := by decide +kernel
theorem sX2_takeBack_23 {d : Nat} {σ : aS} {Q : aQ} {x : Nat} {ls : aL} {st : List Value} : aX d iX2_takeBack 23 (ls) (.ref x :: st) σ Q ↔ aX d iX2_takeBack 29 (ls) (st) σ Q := X_ifnonnull kX2_takeBack_23 (t := 29) (by decide)
theorem sX2_takeBack_23n {d : Nat} {σ : aS} {Q : aQ} {ls : aL} {st : List Value} : aX d iX2_takeBack 23 (ls) (.null :: st) σ Q ↔ aX d iX2_takeBack 26 (ls) (st) σ Q := X_ifnonnullN kX2_takeBack_23 (t := 29) (by decide)
theorem kX2_takeBack_26 : aCode iX2_takeBack 26 = some (.bipush (-5), 2) := by decide +kernel
theorem sX2_takeBack_26 {d : Nat} {σ : aS} {Q : aQ} {ls : aL} {st : List Value} : aX d iX2_takeBack 26 (ls) (st) σ Q ↔ aX d iX2_takeBack 28 (ls) (.int ((-5)) :: st) σ Q := X_bipush kX2_takeBack_26 (by decide +kernel)
theorem kX2_takeBack_28 : aCode iX2_takeBack 28 = some (.ireturn, 1) := by decide +kernel
theorem sX2_takeBack_28 {d : Nat} {σ : aS} {Q : aQ} {v : Int32} {ls : aL} : aX d iX2_takeBack 28 (ls) ([.int v]) σ Q ↔ Q (some (.int v)) σ := X_iret kX2_takeBack_28 (by decide +kernel)
theorem kX2_takeBack_29 : aCode iX2_takeBack 29 = some (.aload_n 1, 1) := by decide +kernel
theorem sX2_takeBack_29 {d : Nat} {σ : aS} {Q : aQ} {l0 : Option Value} {x : Nat} {lt : aL} {st : List Value} : aX d iX2_takeBack 29 (l0 :: some (.ref x) :: lt) (st) σ Q ↔ aX d iX2_takeBack 30 (l0 :: some (.ref x) :: lt) (.ref x :: st) σ Q := X_aloadn kX2_takeBack_29 rfl rfl
theorem sX2_takeBack_29n {d : Nat} {σ : aS} {Q : aQ} {l0 : Option Value} {lt : aL} {st : List Value} : aX d iX2_takeBack 29 (l0 :: some .null :: lt) (st) σ Q ↔ aX d iX2_takeBack 30 (l0 :: some .null :: lt) (.null :: st) σ Q := X_aloadn kX2_takeBack_29 rfl rfl
theorem kX2_takeBack_30 : aCode iX2_takeBack 30 = some (.aload_n 2, 1) := by decide +kernel
theorem sX2_takeBack_30 {d : Nat} {σ : aS} {Q : aQ} {l0 l1 : Option Value} {x : Nat} {lt : aL} {st : List Value} : aX d iX2_takeBack 30 (l0 :: l1 :: some (.ref x) :: lt) (st) σ Q ↔ aX d iX2_takeBack 31 (l0 :: l1 :: some (.ref x) :: lt) (.ref x :: st) σ Q := X_aloadn kX2_takeBack_30 rfl rfl
theorem sX2_takeBack_30n {d : Nat} {σ : aS} {Q : aQ} {l0 l1 : Option Value} {lt : aL} {st : List Value} : aX d iX2_takeBack 30 (l0 :: l1 :: some .null :: lt) (st) σ Q ↔ aX d iX2_takeBack 31 (l0 :: l1 :: some .null :: lt) (.null :: st) σ Q := X_aloadn kX2_takeBack_30 rfl rfl
theorem kX2_takeBack_31 : aCode iX2_takeBack 31 = some (.invokevirtual 29, 3) := by decide +kernel
theorem sX2_takeBack_31 {d : Nat} {σ : aS} {Q : aQ} {b : Nat} {p0 : Nat} {ls : aL} : aX (d + 1) iX2_takeBack 31 (ls) (.ref p0 :: .ref b :: []) σ Q ↔ aIs σ b 5 ∧ aX d iX5_copyFrom 0 [some (.ref b), some (.ref p0), none, none, none] [] σ (fun r τ => aX (d + 1) iX2_takeBack 34 (ls) (aret r ([])) τ Q) := X_invv (N := 1) (As := [.ref p0]) (w := 268) kX2_takeBack_31 (by decide +kernel) (by decide +kernel) rfl rfl (by simp only [List.length_cons, List.length_nil]; omega) (by simp only [List.length_cons, List.length_nil]; omega) (by decide +kernel) rfl (Nat.le_of_ble_eq_true rfl)
theorem kX2_takeBack_34 : aCode iX2_takeBack 34 = some (.aload_n 0, 1) := by decide +kernel
theorem sX2_takeBack_34 {d : Nat} {σ : aS} {Q : aQ} {x : Nat} {lt : aL} {st : List Value} : aX d iX2_takeBack 34 (some (.ref x) :: lt) (st) σ Q ↔ aX d iX2_takeBack 35 (some (.ref x) :: lt) (.ref x :: st) σ Q := X_aloadn kX2_takeBack_34 rfl rfl
theorem kX2_takeBack_35 : aCode iX2_takeBack 35 = some (.dup, 1) := by decide +kernel
theorem sX2_takeBack_35 {d : Nat} {σ : aS} {Q : aQ} {x : Nat} {ls : aL} {st : List Value} : aX d iX2_takeBack 35 (ls) (.ref x :: st) σ Q ↔ aX d iX2_takeBack 36 (ls) (.ref x :: .ref x :: st) σ Q := X_dup kX2_takeBack_35 rfl
theorem sX2_takeBack_35i {d : Nat} {σ : aS} {Q : aQ} {x : Int32} {ls : aL} {st : List Value} : aX d iX2_takeBack 35 (ls) (.int x :: st) σ Q ↔ aX d iX2_takeBack 36 (ls) (.int x :: .int x :: st) σ Q := X_dup kX2_takeBack_35 rfl
theorem kX2_takeBack_36 : aCode iX2_takeBack 36 = some (.getfield 22, 3) := by decide +kernel
theorem sX2_takeBack_36 {d : Nat} {σ : aS} {Q : aQ} {a : Nat} {ls : aL} {st : List Value} : aX d iX2_takeBack 36 (ls) (.ref a :: st) σ Q ↔ ∃ v, aFld σ a 2 2 = some v ∧ aX d iX2_takeBack 39 (ls) (v :: st) σ Q := X_getf (w := 185) kX2_takeBack_36 (by decide +kernel)
theorem kX2_takeBack_39 : aCode iX2_takeBack 39 = some (.iconst 1, 1) := by decide +kernel
theorem sX2_takeBack_39 {d : Nat} {σ : aS} {Q : aQ} {ls : aL} {st : List Value} : aX d iX2_takeBack 39 (ls) (st) σ Q ↔ aX d iX2_takeBack 40 (ls) (.int (nI 1) :: st) σ Q := X_iconst kX2_takeBack_39 (by decide +kernel)
theorem kX2_takeBack_40 : aCode iX2_takeBack 40 = some (.isub, 1) := by decide +kernel
theorem sX2_takeBack_40 {d : Nat} {σ : aS} {Q : aQ} {x y : Int32} {ls : aL} {st : List Value} : aX d iX2_takeBack 40 (ls) (.int y :: .int x :: st) σ Q ↔ aX d iX2_takeBack 41 (ls) (.int (x - y) :: st) σ Q := X_isub kX2_takeBack_40
theorem kX2_takeBack_41 : aCode iX2_takeBack 41 = some (.putfield 22, 3) := by decide +kernel
theorem sX2_takeBack_41 {d : Nat} {σ : aS} {Q : aQ} {x : Int32} {a : Nat} {ls : aL} {st : List Value} : aX d iX2_takeBack 41 (ls) (.int x :: .ref a :: st) σ Q ↔ ∃ fs, aFds σ a 2 = some fs ∧ 2 < fs.length ∧ aX d iX2_takeBack 44 (ls) (st) (aput σ a (eO 2 (fs.set 2 (.int x)))) Q := X_putf (w := 185) kX2_takeBack_41 (by decide +kernel) (aFit_I (by decide +kernel)) (by decide +kernel)
theorem kX2_takeBack_44 : aCode iX2_takeBack 44 = some (.aload_n 0, 1) := by decide +kernel
theorem sX2_takeBack_44 {d : Nat} {σ : aS} {Q : aQ} {x : Nat} {lt : aL} {st : List Value} : aX d iX2_takeBack 44 (some (.ref x) :: lt) (st) σ Q ↔ aX d iX2_takeBack 45 (some (.ref x) :: lt) (.ref x :: st) σ Q := X_aloadn kX2_takeBack_44 rfl rfl
theorem kX2_takeBack_45 : aCode iX2_takeBack 45 = some (.getfield 22, 3) := by decide +kernel
theorem sX2_takeBack_45 {d : Nat} {σ : aS} {Q : aQ} {a : Nat} {ls : aL} {st : List Value} : aX d iX2_takeBack 45 (ls) (.ref a :: st) σ Q ↔ ∃ v, aFld σ a 2 2 = some v ∧ aX d iX2_takeBack 48 (ls) (v :: st) σ Q := X_getf (w := 185) kX2_takeBack_45 (by decide +kernel)
theorem kX2_takeBack_48 : aCode iX2_takeBack 48 = some (.ireturn, 1) := by decide +kernel
theorem sX2_takeBack_48 {d : Nat} {σ : aS} {Q : aQ} {v : Int32} {ls : aL} : aX d iX2_takeBack 48 (ls) ([.int v]) σ Q ↔ Q (some (.int v)) σ := X_iret kX2_takeBack_48 (by decide +kernel)
theorem kX3_init_0 : aCode iX3_init 0 = some (.aload_n 0, 1) := by decide +kernel
theorem sX3_init_0 {d : Nat} {σ : aS} {Q : aQ} {x : Nat} {lt : aL} {st : List Value} : aX d iX3_init 0 (some (.ref x) :: lt) (st) σ Q ↔ aX d iX3_init 1 (some (.ref x) :: lt) (.ref x :: st) σ Q := X_aloadn kX3_init_0 rfl rfl
theorem kX3_init_1 : aCode iX3_init 1 = some (.invokespecial 3, 3) := by decide +kernel
theorem sX3_init_1 {d : Nat} {σ : aS} {Q : aQ} {b : Nat} {ls : aL} : aX d iX3_init 1 (ls) (.ref b :: []) σ Q ↔ aX d iX3_init 4 (ls) ([]) σ Q := X_obj (t := 999) (w := 201) kX3_init_1 (by decide +kernel) (by simp only [List.length_cons, List.length_nil]; omega)
theorem kX3_init_4 : aCode iX3_init 4 = some (.aload_n 0, 1) := by decide +kernel
theorem sX3_init_4 {d : Nat} {σ : aS} {Q : aQ} {x : Nat} {lt : aL} {st : List Value} : aX d iX3_init 4 (some (.ref x) :: lt) (st) σ Q ↔ aX d iX3_init 5 (some (.ref x) :: lt) (.ref x :: st) σ Q := X_aloadn kX3_init_4 rfl rfl
theorem kX3_init_5 : aCode iX3_init 5 = some (.bipush 80, 2) := by decide +kernel
theorem sX3_init_5 {d : Nat} {σ : aS} {Q : aQ} {ls : aL} {st : List Value} : aX d iX3_init 5 (ls) (st) σ Q ↔ aX d iX3_init 7 (ls) (.int (nI 80) :: st) σ Q := X_bipush kX3_init_5 (by decide +kernel)
theorem kX3_init_7 : aCode iX3_init 7 = some (.newarray .int, 2) := by decide +kernel
theorem sX3_init_7 {d : Nat} {σ : aS} {Q : aQ} {m : Nat} {ls : aL} {st : List Value} (hm : m ≤ 1000000) : aX d iX3_init 7 (ls) (.int (nI m) :: st) σ Q ↔ aX d iX3_init 9 (ls) (.ref σ.2.1 :: st) (anew σ (eI m (fun _ => 0)) m) Q := X_newa kX3_init_7 hm
theorem kX3_init_9 : aCode iX3_init 9 = some (.putfield 9, 3) := by decide +kernel
theorem sX3_init_9 {d : Nat} {σ : aS} {Q : aQ} {x : Nat} {a : Nat} {ls : aL} {st : List Value} : aX d iX3_init 9 (ls) (.ref x :: .ref a :: st) σ Q ↔ ∃ fs, aFds σ a 3 = some fs ∧ 0 < fs.length ∧ aX d iX3_init 12 (ls) (st) (aput σ a (eO 3 (fs.set 0 (.ref x)))) Q := X_putf (w := 202) kX3_init_9 (by decide +kernel) (aFit_R (by decide +kernel)) (by decide +kernel)
theorem kX3_init_12 : aCode iX3_init 12 = some (.return_, 1) := by decide +kernel
theorem sX3_init_12 {d : Nat} {σ : aS} {Q : aQ} {ls : aL} : aX d iX3_init 12 (ls) ([]) σ Q ↔ Q none σ := X_vret kX3_init_12 (by decide +kernel)
theorem kX3_append_0 : aCode iX3_append 0 = some (.lload_n 1, 1) := by decide +kernel
theorem sX3_append_0 {d : Nat} {σ : aS} {Q : aQ} {l0 : Option Value} {x : Int64} {lt : aL} {st : List Value} : aX d iX3_append 0 (l0 :: some (.long x) :: lt) (st) σ Q ↔ aX d iX3_append 1 (l0 :: some (.long x) :: lt) (.long x :: st) σ Q := X_lloadn kX3_append_0 rfl
theorem kX3_append_1 : aCode iX3_append 1 = some (.invokestatic 15, 3) := by decide +kernel
theorem sX3_append_1 {d : Nat} {σ : aS} {Q : aQ} {p0 : Int64} {ls : aL} : aX (d + 1) iX3_append 1 (ls) (.long p0 :: []) σ Q ↔ aX d iX3_signsIn 0 [some (.long p0), none, none, none, none, none] [] σ (fun r τ => aX (d + 1) iX3_append 4 (ls) (aret r ([])) τ Q) := X_invs (N := 1) (As := [.long p0]) (k := 1) (w := 555) kX3_append_1 (by decide +kernel) (by decide) (by decide +kernel) rfl rfl (by simp only [List.length_cons, List.length_nil]; omega) (by simp only [List.length_cons, List.length_nil]; omega) rfl (Nat.le_of_ble_eq_true rfl)
theorem kX3_append_4 : aCode iX3_append 4 = some (.istore_n 3, 1) := by decide +kernel
theorem sX3_append_4 {d : Nat} {σ : aS} {Q : aQ} {l0 l1 l2 lo : Option Value} {x : Int32} {lt : aL} {st : List Value} : aX d iX3_append 4 (l0 :: l1 :: l2 :: lo :: lt) (.int x :: st) σ Q ↔ aX d iX3_append 5 (l0 :: l1 :: aclr l2 :: some (.int x) :: lt) (st) σ Q := X_istoren kX3_append_4 (by simp only [List.length_cons]; omega)
theorem kX3_append_5 : aCode iX3_append 5 = some (.iload_n 3, 1) := by decide +kernel
theorem sX3_append_5 {d : Nat} {σ : aS} {Q : aQ} {l0 l1 l2 : Option Value} {x : Int32} {lt : aL} {st : List Value} : aX d iX3_append 5 (l0 :: l1 :: l2 :: some (.int x) :: lt) (st) σ Q ↔ aX d iX3_append 6 (l0 :: l1 :: l2 :: some (.int x) :: lt) (.int x :: st) σ Q := X_iloadn kX3_append_5 rfl
theorem kX3_append_6 : aCode iX3_append 6 = some (.ifCond .ne 6, 3) := by decide +kernel
theorem sX3_append_6 {d : Nat} {σ : aS} {Q : aQ} {x : Int32} {ls : aL} {st : List Value} : aX d iX3_append 6 (ls) (.int x :: st) σ Q ↔ (if ¬ x = nI 0 then aX d iX3_append 12 (ls) (st) σ Q else aX d iX3_append 9 (ls) (st) σ Q) := by rw [X_if kX3_append_6 (t := 12) (by decide)]; simp only [aCmp_ne]
theorem kX3_append_9 : aCode iX3_append 9 = some (.bipush (-2), 2) := by decide +kernel
theorem sX3_append_9 {d : Nat} {σ : aS} {Q : aQ} {ls : aL} {st : List Value} : aX d iX3_append 9 (ls) (st) σ Q ↔ aX d iX3_append 11 (ls) (.int ((-2)) :: st) σ Q := X_bipush kX3_append_9 (by decide +kernel)
theorem kX3_append_11 : aCode iX3_append 11 = some (.ireturn, 1) := by decide +kernel
theorem sX3_append_11 {d : Nat} {σ : aS} {Q : aQ} {v : Int32} {ls : aL} : aX d iX3_append 11 (ls) ([.int v]) σ Q ↔ Q (some (.int v)) σ := X_iret kX3_append_11 (by decide +kernel)
theorem kX3_append_12 : aCode iX3_append 12 = some (.aload_n 0, 1) := by decide +kernel
theorem sX3_append_12 {d : Nat} {σ : aS} {Q : aQ} {x : Nat} {lt : aL} {st : List Value} : aX d iX3_append 12 (some (.ref x) :: lt) (st) σ Q ↔ aX d iX3_append 13 (some (.ref x) :: lt) (.ref x :: st) σ Q := X_aloadn kX3_append_12 rfl rfl
theorem kX3_append_13 : aCode iX3_append 13 = some (.getfield 19, 3) := by decide +kernel
theorem sX3_append_13 {d : Nat} {σ : aS} {Q : aQ} {a : Nat} {ls : aL} {st : List Value} : aX d iX3_append 13 (ls) (.ref a :: st) σ Q ↔ ∃ v, aFld σ a 3 1 = some v ∧ aX d iX3_append 16 (ls) (v :: st) σ Q := X_getf (w := 203) kX3_append_13 (by decide +kernel)
theorem kX3_append_16 : aCode iX3_append 16 = some (.iload_n 3, 1) := by decide +kernel
theorem sX3_append_16 {d : Nat} {σ : aS} {Q : aQ} {l0 l1 l2 : Option Value} {x : Int32} {lt : aL} {st : List Value} : aX d iX3_append 16 (l0 :: l1 :: l2 :: some (.int x) :: lt) (st) σ Q ↔ aX d iX3_append 17 (l0 :: l1 :: l2 :: some (.int x) :: lt) (.int x :: st) σ Q := X_iloadn kX3_append_16 rfl
theorem kX3_append_17 : aCode iX3_append 17 = some (.iadd, 1) := by decide +kernel
theorem sX3_append_17 {d : Nat} {σ : aS} {Q : aQ} {x y : Int32} {ls : aL} {st : List Value} : aX d iX3_append 17 (ls) (.int y :: .int x :: st) σ Q ↔ aX d iX3_append 18 (ls) (.int (x + y) :: st) σ Q := X_iadd kX3_append_17
theorem kX3_append_18 : aCode iX3_append 18 = some (.bipush 80, 2) := by decide +kernel
theorem sX3_append_18 {d : Nat} {σ : aS} {Q : aQ} {ls : aL} {st : List Value} : aX d iX3_append 18 (ls) (st) σ Q ↔ aX d iX3_append 20 (ls) (.int (nI 80) :: st) σ Q := X_bipush kX3_append_18 (by decide +kernel)
theorem kX3_append_20 : aCode iX3_append 20 = some (.if_icmp .le 6, 3) := by decide +kernel
theorem sX3_append_20 {d : Nat} {σ : aS} {Q : aQ} {x y : Int32} {ls : aL} {st : List Value} : aX d iX3_append 20 (ls) (.int y :: .int x :: st) σ Q ↔ (if x ≤ y then aX d iX3_append 26 (ls) (st) σ Q else aX d iX3_append 23 (ls) (st) σ Q) := by rw [X_icmp kX3_append_20 (t := 26) (by decide)]; simp only [aCmp_le]
theorem kX3_append_23 : aCode iX3_append 23 = some (.bipush (-4), 2) := by decide +kernel
theorem sX3_append_23 {d : Nat} {σ : aS} {Q : aQ} {ls : aL} {st : List Value} : aX d iX3_append 23 (ls) (st) σ Q ↔ aX d iX3_append 25 (ls) (.int ((-4)) :: st) σ Q := X_bipush kX3_append_23 (by decide +kernel)
theorem kX3_append_25 : aCode iX3_append 25 = some (.ireturn, 1) := by decide +kernel
theorem sX3_append_25 {d : Nat} {σ : aS} {Q : aQ} {v : Int32} {ls : aL} : aX d iX3_append 25 (ls) ([.int v]) σ Q ↔ Q (some (.int v)) σ := X_iret kX3_append_25 (by decide +kernel)
theorem kX3_append_26 : aCode iX3_append 26 = some (.lload_n 1, 1) := by decide +kernel
theorem sX3_append_26 {d : Nat} {σ : aS} {Q : aQ} {l0 : Option Value} {x : Int64} {lt : aL} {st : List Value} : aX d iX3_append 26 (l0 :: some (.long x) :: lt) (st) σ Q ↔ aX d iX3_append 27 (l0 :: some (.long x) :: lt) (.long x :: st) σ Q := X_lloadn kX3_append_26 rfl
theorem kX3_append_27 : aCode iX3_append 27 = some (.lstore 4, 2) := by decide +kernel
theorem sX3_append_27 {d : Nat} {σ : aS} {Q : aQ} {l0 l1 l2 l3 lo lp : Option Value} {x : Int64} {lt : aL} {st : List Value} : aX d iX3_append 27 (l0 :: l1 :: l2 :: l3 :: lo :: lp :: lt) (.long x :: st) σ Q ↔ aX d iX3_append 29 (l0 :: l1 :: l2 :: aclr l3 :: some (.long x) :: none :: lt) (st) σ Q := X_lstore kX3_append_27 (by simp only [List.length_cons]; omega)
theorem kX3_append_29 : aCode iX3_append 29 = some (.iconst 1, 1) := by decide +kernel
theorem sX3_append_29 {d : Nat} {σ : aS} {Q : aQ} {ls : aL} {st : List Value} : aX d iX3_append 29 (ls) (st) σ Q ↔ aX d iX3_append 30 (ls) (.int (nI 1) :: st) σ Q := X_iconst kX3_append_29 (by decide +kernel)
theorem kX3_append_30 : aCode iX3_append 30 = some (.istore 6, 2) := by decide +kernel
theorem sX3_append_30 {d : Nat} {σ : aS} {Q : aQ} {l0 l1 l2 l3 l4 l5 lo : Option Value} {x : Int32} {lt : aL} {st : List Value} : aX d iX3_append 30 (l0 :: l1 :: l2 :: l3 :: l4 :: l5 :: lo :: lt) (.int x :: st) σ Q ↔ aX d iX3_append 32 (l0 :: l1 :: l2 :: l3 :: l4 :: aclr l5 :: some (.int x) :: lt) (st) σ Q := X_istore kX3_append_30 (by simp only [List.length_cons]; omega)
theorem kX3_append_32 : aCode iX3_append 32 = some (.iload 6, 2) := by decide +kernel
theorem sX3_append_32 {d : Nat} {σ : aS} {Q : aQ} {l0 l1 l2 l3 l4 l5 : Option Value} {x : Int32} {lt : aL} {st : List Value} : aX d iX3_append 32 (l0 :: l1 :: l2 :: l3 :: l4 :: l5 :: some (.int x) :: lt) (st) σ Q ↔ aX d iX3_append 34 (l0 :: l1 :: l2 :: l3 :: l4 :: l5 :: some (.int x) :: lt) (.int x :: st) σ Q := X_iload kX3_append_32 rfl
theorem kX3_append_34 : aCode iX3_append 34 = some (.iload_n 3, 1) := by decide +kernel
theorem sX3_append_34 {d : Nat} {σ : aS} {Q : aQ} {l0 l1 l2 : Option Value} {x : Int32} {lt : aL} {st : List Value} : aX d iX3_append 34 (l0 :: l1 :: l2 :: some (.int x) :: lt) (st) σ Q ↔ aX d iX3_append 35 (l0 :: l1 :: l2 :: some (.int x) :: lt) (.int x :: st) σ Q := X_iloadn kX3_append_34 rfl
theorem kX3_append_35 : aCode iX3_append 35 = some (.if_icmp .gt 39, 3) := by decide +kernel
theorem sX3_append_35 {d : Nat} {σ : aS} {Q : aQ} {x y : Int32} {ls : aL} {st : List Value} : aX d iX3_append 35 (ls) (.int y :: .int x :: st) σ Q ↔ (if y < x then aX d iX3_append 74 (ls) (st) σ Q else aX d iX3_append 38 (ls) (st) σ Q) := by rw [X_icmp kX3_append_35 (t := 74) (by decide)]; simp only [aCmp_gt]
theorem kX3_append_38 : aCode iX3_append 38 = some (.aload_n 0, 1) := by decide +kernel
theorem sX3_append_38 {d : Nat} {σ : aS} {Q : aQ} {x : Nat} {lt : aL} {st : List Value} : aX d iX3_append 38 (some (.ref x) :: lt) (st) σ Q ↔ aX d iX3_append 39 (some (.ref x) :: lt) (.ref x :: st) σ Q := X_aloadn kX3_append_38 rfl rfl
theorem kX3_append_39 : aCode iX3_append 39 = some (.getfield 9, 3) := by decide +kernel
theorem sX3_append_39 {d : Nat} {σ : aS} {Q : aQ} {a : Nat} {ls : aL} {st : List Value} : aX d iX3_append 39 (ls) (.ref a :: st) σ Q ↔ ∃ v, aFld σ a 3 0 = some v ∧ aX d iX3_append 42 (ls) (v :: st) σ Q := X_getf (w := 202) kX3_append_39 (by decide +kernel)
theorem kX3_append_42 : aCode iX3_append 42 = some (.aload_n 0, 1) := by decide +kernel
theorem sX3_append_42 {d : Nat} {σ : aS} {Q : aQ} {x : Nat} {lt : aL} {st : List Value} : aX d iX3_append 42 (some (.ref x) :: lt) (st) σ Q ↔ aX d iX3_append 43 (some (.ref x) :: lt) (.ref x :: st) σ Q := X_aloadn kX3_append_42 rfl rfl
theorem kX3_append_43 : aCode iX3_append 43 = some (.getfield 19, 3) := by decide +kernel
theorem sX3_append_43 {d : Nat} {σ : aS} {Q : aQ} {a : Nat} {ls : aL} {st : List Value} : aX d iX3_append 43 (ls) (.ref a :: st) σ Q ↔ ∃ v, aFld σ a 3 1 = some v ∧ aX d iX3_append 46 (ls) (v :: st) σ Q := X_getf (w := 203) kX3_append_43 (by decide +kernel)
theorem kX3_append_46 : aCode iX3_append 46 = some (.iload_n 3, 1) := by decide +kernel
theorem sX3_append_46 {d : Nat} {σ : aS} {Q : aQ} {l0 l1 l2 : Option Value} {x : Int32} {lt : aL} {st : List Value} : aX d iX3_append 46 (l0 :: l1 :: l2 :: some (.int x) :: lt) (st) σ Q ↔ aX d iX3_append 47 (l0 :: l1 :: l2 :: some (.int x) :: lt) (.int x :: st) σ Q := X_iloadn kX3_append_46 rfl
theorem kX3_append_47 : aCode iX3_append 47 = some (.iadd, 1) := by decide +kernel
theorem sX3_append_47 {d : Nat} {σ : aS} {Q : aQ} {x y : Int32} {ls : aL} {st : List Value} : aX d iX3_append 47 (ls) (.int y :: .int x :: st) σ Q ↔ aX d iX3_append 48 (ls) (.int (x + y) :: st) σ Q := X_iadd kX3_append_47
theorem kX3_append_48 : aCode iX3_append 48 = some (.iload 6, 2) := by decide +kernel
theorem sX3_append_48 {d : Nat} {σ : aS} {Q : aQ} {l0 l1 l2 l3 l4 l5 : Option Value} {x : Int32} {lt : aL} {st : List Value} : aX d iX3_append 48 (l0 :: l1 :: l2 :: l3 :: l4 :: l5 :: some (.int x) :: lt) (st) σ Q ↔ aX d iX3_append 50 (l0 :: l1 :: l2 :: l3 :: l4 :: l5 :: some (.int x) :: lt) (.int x :: st) σ Q := X_iload kX3_append_48 rfl
theorem kX3_append_50 : aCode iX3_append 50 = some (.isub, 1) := by decide +kernel
theorem sX3_append_50 {d : Nat} {σ : aS} {Q : aQ} {x y : Int32} {ls : aL} {st : List Value} : aX d iX3_append 50 (ls) (.int y :: .int x :: st) σ Q ↔ aX d iX3_append 51 (ls) (.int (x - y) :: st) σ Q := X_isub kX3_append_50
theorem kX3_append_51 : aCode iX3_append 51 = some (.lload 4, 2) := by decide +kernel
theorem sX3_append_51 {d : Nat} {σ : aS} {Q : aQ} {l0 l1 l2 l3 : Option Value} {x : Int64} {lt : aL} {st : List Value} : aX d iX3_append 51 (l0 :: l1 :: l2 :: l3 :: some (.long x) :: lt) (st) σ Q ↔ aX d iX3_append 53 (l0 :: l1 :: l2 :: l3 :: some (.long x) :: lt) (.long x :: st) σ Q := X_lload kX3_append_51 rfl
theorem kX3_append_53 : aCode iX3_append 53 = some (.ldc2_w 23, 3) := by decide +kernel
theorem sX3_append_53 {d : Nat} {σ : aS} {Q : aQ} {ls : aL} {st : List Value} : aX d iX3_append 53 (ls) (st) σ Q ↔ aX d iX3_append 56 (ls) (.long (lN 255) :: st) σ Q := X_ldc2 (w := 558) kX3_append_53 (by decide +kernel)
theorem kX3_append_56 : aCode iX3_append 56 = some (.land, 1) := by decide +kernel
theorem sX3_append_56 {d : Nat} {σ : aS} {Q : aQ} {x y : Int64} {ls : aL} {st : List Value} : aX d iX3_append 56 (ls) (.long y :: .long x :: st) σ Q ↔ aX d iX3_append 57 (ls) (.long (x &&& y) :: st) σ Q := X_land kX3_append_56
theorem kX3_append_57 : aCode iX3_append 57 = some (.l2i, 1) := by decide +kernel
theorem sX3_append_57 {d : Nat} {σ : aS} {Q : aQ} {x : Int64} {ls : aL} {st : List Value} : aX d iX3_append 57 (ls) (.long x :: st) σ Q ↔ aX d iX3_append 58 (ls) (.int x.toInt32 :: st) σ Q := X_l2i kX3_append_57
theorem kX3_append_58 : aCode iX3_append 58 = some (.invokestatic 25, 3) := by decide +kernel
theorem sX3_append_58 {d : Nat} {σ : aS} {Q : aQ} {p0 : Nat} {p1 : Int32} {p2 : Int32} {ls : aL} : aX (d + 1) iX3_append 58 (ls) (.int p2 :: .int p1 :: .ref p0 :: []) σ Q ↔ aX d iX6_setAt 0 [some (.ref p0), some (.int p1), some (.int p2)] [] σ (fun r τ => aX (d + 1) iX3_append 61 (ls) (aret r ([])) τ Q) := X_invs (N := 3) (As := [.int p2, .int p1, .ref p0]) (k := 4) (w := 559) kX3_append_58 (by decide +kernel) (by decide) (by decide +kernel) rfl rfl (by simp only [List.length_cons, List.length_nil]; omega) (by simp only [List.length_cons, List.length_nil]; omega) rfl (Nat.le_of_ble_eq_true rfl)
theorem kX3_append_61 : aCode iX3_append 61 = some (.lload 4, 2) := by decide +kernel
theorem sX3_append_61 {d : Nat} {σ : aS} {Q : aQ} {l0 l1 l2 l3 : Option Value} {x : Int64} {lt : aL} {st : List Value} : aX d iX3_append 61 (l0 :: l1 :: l2 :: l3 :: some (.long x) :: lt) (st) σ Q ↔ aX d iX3_append 63 (l0 :: l1 :: l2 :: l3 :: some (.long x) :: lt) (.long x :: st) σ Q := X_lload kX3_append_61 rfl
theorem kX3_append_63 : aCode iX3_append 63 = some (.bipush 8, 2) := by decide +kernel
theorem sX3_append_63 {d : Nat} {σ : aS} {Q : aQ} {ls : aL} {st : List Value} : aX d iX3_append 63 (ls) (st) σ Q ↔ aX d iX3_append 65 (ls) (.int (nI 8) :: st) σ Q := X_bipush kX3_append_63 (by decide +kernel)
theorem kX3_append_65 : aCode iX3_append 65 = some (.lushr, 1) := by decide +kernel
theorem sX3_append_65 {d : Nat} {σ : aS} {Q : aQ} {x : Int64} {y : Int32} {ls : aL} {st : List Value} : aX d iX3_append 65 (ls) (.int y :: .long x :: st) σ Q ↔ aX d iX3_append 66 (ls) (.long ((x.toUInt64 >>> (y.toInt64.toUInt64 &&& Int64.toUInt64 63)).toInt64) :: st) σ Q := X_lushr kX3_append_65
theorem kX3_append_66 : aCode iX3_append 66 = some (.lstore 4, 2) := by decide +kernel
theorem sX3_append_66 {d : Nat} {σ : aS} {Q : aQ} {l0 l1 l2 l3 lo lp : Option Value} {x : Int64} {lt : aL} {st : List Value} : aX d iX3_append 66 (l0 :: l1 :: l2 :: l3 :: lo :: lp :: lt) (.long x :: st) σ Q ↔ aX d iX3_append 68 (l0 :: l1 :: l2 :: aclr l3 :: some (.long x) :: none :: lt) (st) σ Q := X_lstore kX3_append_66 (by simp only [List.length_cons]; omega)
theorem kX3_append_68 : aCode iX3_append 68 = some (.iinc 6 1, 3) := by decide +kernel
theorem sX3_append_68 {d : Nat} {σ : aS} {Q : aQ} {l0 l1 l2 l3 l4 l5 : Option Value} {x : Int32} {lt : aL} {st : List Value} : aX d iX3_append 68 (l0 :: l1 :: l2 :: l3 :: l4 :: l5 :: some (.int x) :: lt) (st) σ Q ↔ aX d iX3_append 71 (l0 :: l1 :: l2 :: l3 :: l4 :: aclr l5 :: some (.int (x + nI 1)) :: lt) (st) σ Q := X_iinc kX3_append_68 rfl (by decide +kernel)
theorem kX3_append_71 : aCode iX3_append 71 = some (.goto (-39), 3) := by decide +kernel
theorem sX3_append_71 {d : Nat} {σ : aS} {Q : aQ} {ls : aL} {st : List Value} : aX d iX3_append 71 (ls) (st) σ Q ↔ aX d iX3_append 32 (ls) (st) σ Q := X_goto kX3_append_71 (by decide)
theorem kX3_append_74 : aCode iX3_append 74 = some (.aload_n 0, 1) := by decide +kernel
theorem sX3_append_74 {d : Nat} {σ : aS} {Q : aQ} {x : Nat} {lt : aL} {st : List Value} : aX d iX3_append 74 (some (.ref x) :: lt) (st) σ Q ↔ aX d iX3_append 75 (some (.ref x) :: lt) (.ref x :: st) σ Q := X_aloadn kX3_append_74 rfl rfl
theorem kX3_append_75 : aCode iX3_append 75 = some (.dup, 1) := by decide +kernel
theorem sX3_append_75 {d : Nat} {σ : aS} {Q : aQ} {x : Nat} {ls : aL} {st : List Value} : aX d iX3_append 75 (ls) (.ref x :: st) σ Q ↔ aX d iX3_append 76 (ls) (.ref x :: .ref x :: st) σ Q := X_dup kX3_append_75 rfl
theorem sX3_append_75i {d : Nat} {σ : aS} {Q : aQ} {x : Int32} {ls : aL} {st : List Value} : aX d iX3_append 75 (ls) (.int x :: st) σ Q ↔ aX d iX3_append 76 (ls) (.int x :: .int x :: st) σ Q := X_dup kX3_append_75 rfl
theorem kX3_append_76 : aCode iX3_append 76 = some (.getfield 19, 3) := by decide +kernel
theorem sX3_append_76 {d : Nat} {σ : aS} {Q : aQ} {a : Nat} {ls : aL} {st : List Value} : aX d iX3_append 76 (ls) (.ref a :: st) σ Q ↔ ∃ v, aFld σ a 3 1 = some v ∧ aX d iX3_append 79 (ls) (v :: st) σ Q := X_getf (w := 203) kX3_append_76 (by decide +kernel)
theorem kX3_append_79 : aCode iX3_append 79 = some (.iload_n 3, 1) := by decide +kernel
theorem sX3_append_79 {d : Nat} {σ : aS} {Q : aQ} {l0 l1 l2 : Option Value} {x : Int32} {lt : aL} {st : List Value} : aX d iX3_append 79 (l0 :: l1 :: l2 :: some (.int x) :: lt) (st) σ Q ↔ aX d iX3_append 80 (l0 :: l1 :: l2 :: some (.int x) :: lt) (.int x :: st) σ Q := X_iloadn kX3_append_79 rfl
theorem kX3_append_80 : aCode iX3_append 80 = some (.iadd, 1) := by decide +kernel
theorem sX3_append_80 {d : Nat} {σ : aS} {Q : aQ} {x y : Int32} {ls : aL} {st : List Value} : aX d iX3_append 80 (ls) (.int y :: .int x :: st) σ Q ↔ aX d iX3_append 81 (ls) (.int (x + y) :: st) σ Q := X_iadd kX3_append_80
theorem kX3_append_81 : aCode iX3_append 81 = some (.putfield 19, 3) := by decide +kernel
theorem sX3_append_81 {d : Nat} {σ : aS} {Q : aQ} {x : Int32} {a : Nat} {ls : aL} {st : List Value} : aX d iX3_append 81 (ls) (.int x :: .ref a :: st) σ Q ↔ ∃ fs, aFds σ a 3 = some fs ∧ 1 < fs.length ∧ aX d iX3_append 84 (ls) (st) (aput σ a (eO 3 (fs.set 1 (.int x)))) Q := X_putf (w := 203) kX3_append_81 (by decide +kernel) (aFit_I (by decide +kernel)) (by decide +kernel)
theorem kX3_append_84 : aCode iX3_append 84 = some (.aload_n 0, 1) := by decide +kernel
theorem sX3_append_84 {d : Nat} {σ : aS} {Q : aQ} {x : Nat} {lt : aL} {st : List Value} : aX d iX3_append 84 (some (.ref x) :: lt) (st) σ Q ↔ aX d iX3_append 85 (some (.ref x) :: lt) (.ref x :: st) σ Q := X_aloadn kX3_append_84 rfl rfl
theorem kX3_append_85 : aCode iX3_append 85 = some (.getfield 19, 3) := by decide +kernel
theorem sX3_append_85 {d : Nat} {σ : aS} {Q : aQ} {a : Nat} {ls : aL} {st : List Value} : aX d iX3_append 85 (ls) (.ref a :: st) σ Q ↔ ∃ v, aFld σ a 3 1 = some v ∧ aX d iX3_append 88 (ls) (v :: st) σ Q := X_getf (w := 203) kX3_append_85 (by decide +kernel)
theorem kX3_append_88 : aCode iX3_append 88 = some (.ireturn, 1) := by decide +kernel
theorem sX3_append_88 {d : Nat} {σ : aS} {Q : aQ} {v : Int32} {ls : aL} : aX d iX3_append 88 (ls) ([.int v]) σ Q ↔ Q (some (.int v)) σ := X_iret kX3_append_88 (by decide +kernel)
theorem kX3_signsIn_0 : aCode iX3_signsIn 0 = some (.lload_n 0, 1) := by decide +kernel
theorem sX3_signsIn_0 {d : Nat} {σ : aS} {Q : aQ} {x : Int64} {lt : aL} {st : List Value} : aX d iX3_signsIn 0 (some (.long x) :: lt) (st) σ Q ↔ aX d iX3_signsIn 1 (some (.long x) :: lt) (.long x :: st) σ Q := X_lloadn kX3_signsIn_0 rfl
theorem kX3_signsIn_1 : aCode iX3_signsIn 1 = some (.lstore_n 2, 1) := by decide +kernel
theorem sX3_signsIn_1 {d : Nat} {σ : aS} {Q : aQ} {l0 l1 lo lp : Option Value} {x : Int64} {lt : aL} {st : List Value} : aX d iX3_signsIn 1 (l0 :: l1 :: lo :: lp :: lt) (.long x :: st) σ Q ↔ aX d iX3_signsIn 2 (l0 :: aclr l1 :: some (.long x) :: none :: lt) (st) σ Q := X_lstoren kX3_signsIn_1 (by simp only [List.length_cons]; omega)
theorem kX3_signsIn_2 : aCode iX3_signsIn 2 = some (.iconst 0, 1) := by decide +kernel
theorem sX3_signsIn_2 {d : Nat} {σ : aS} {Q : aQ} {ls : aL} {st : List Value} : aX d iX3_signsIn 2 (ls) (st) σ Q ↔ aX d iX3_signsIn 3 (ls) (.int (nI 0) :: st) σ Q := X_iconst kX3_signsIn_2 (by decide +kernel)
theorem kX3_signsIn_3 : aCode iX3_signsIn 3 = some (.istore 4, 2) := by decide +kernel
theorem sX3_signsIn_3 {d : Nat} {σ : aS} {Q : aQ} {l0 l1 l2 l3 lo : Option Value} {x : Int32} {lt : aL} {st : List Value} : aX d iX3_signsIn 3 (l0 :: l1 :: l2 :: l3 :: lo :: lt) (.int x :: st) σ Q ↔ aX d iX3_signsIn 5 (l0 :: l1 :: l2 :: aclr l3 :: some (.int x) :: lt) (st) σ Q := X_istore kX3_signsIn_3 (by simp only [List.length_cons]; omega)
theorem kX3_signsIn_5 : aCode iX3_signsIn 5 = some (.iload 4, 2) := by decide +kernel
theorem sX3_signsIn_5 {d : Nat} {σ : aS} {Q : aQ} {l0 l1 l2 l3 : Option Value} {x : Int32} {lt : aL} {st : List Value} : aX d iX3_signsIn 5 (l0 :: l1 :: l2 :: l3 :: some (.int x) :: lt) (st) σ Q ↔ aX d iX3_signsIn 7 (l0 :: l1 :: l2 :: l3 :: some (.int x) :: lt) (.int x :: st) σ Q := X_iload kX3_signsIn_5 rfl
theorem kX3_signsIn_7 : aCode iX3_signsIn 7 = some (.bipush 8, 2) := by decide +kernel
theorem sX3_signsIn_7 {d : Nat} {σ : aS} {Q : aQ} {ls : aL} {st : List Value} : aX d iX3_signsIn 7 (ls) (st) σ Q ↔ aX d iX3_signsIn 9 (ls) (.int (nI 8) :: st) σ Q := X_bipush kX3_signsIn_7 (by decide +kernel)
theorem kX3_signsIn_9 : aCode iX3_signsIn 9 = some (.if_icmp .ge 44, 3) := by decide +kernel
theorem sX3_signsIn_9 {d : Nat} {σ : aS} {Q : aQ} {x y : Int32} {ls : aL} {st : List Value} : aX d iX3_signsIn 9 (ls) (.int y :: .int x :: st) σ Q ↔ (if y ≤ x then aX d iX3_signsIn 53 (ls) (st) σ Q else aX d iX3_signsIn 12 (ls) (st) σ Q) := by rw [X_icmp kX3_signsIn_9 (t := 53) (by decide)]; simp only [aCmp_ge]
theorem kX3_signsIn_12 : aCode iX3_signsIn 12 = some (.lload_n 2, 1) := by decide +kernel
theorem sX3_signsIn_12 {d : Nat} {σ : aS} {Q : aQ} {l0 l1 : Option Value} {x : Int64} {lt : aL} {st : List Value} : aX d iX3_signsIn 12 (l0 :: l1 :: some (.long x) :: lt) (st) σ Q ↔ aX d iX3_signsIn 13 (l0 :: l1 :: some (.long x) :: lt) (.long x :: st) σ Q := X_lloadn kX3_signsIn_12 rfl
theorem kX3_signsIn_13 : aCode iX3_signsIn 13 = some (.lconst 0, 1) := by decide +kernel
theorem sX3_signsIn_13 {d : Nat} {σ : aS} {Q : aQ} {ls : aL} {st : List Value} : aX d iX3_signsIn 13 (ls) (st) σ Q ↔ aX d iX3_signsIn 14 (ls) (.long (lN 0) :: st) σ Q := X_lconst kX3_signsIn_13 (by decide +kernel)
theorem kX3_signsIn_14 : aCode iX3_signsIn 14 = some (.lcmp, 1) := by decide +kernel
theorem sX3_signsIn_14 {d : Nat} {σ : aS} {Q : aQ} {x y : Int64} {ls : aL} {st : List Value} : aX d iX3_signsIn 14 (ls) (.long y :: .long x :: st) σ Q ↔ aX d iX3_signsIn 15 (ls) (.int (lg_cmp x y) :: st) σ Q := X_lcmp kX3_signsIn_14
theorem kX3_signsIn_15 : aCode iX3_signsIn 15 = some (.ifCond .eq 38, 3) := by decide +kernel
theorem sX3_signsIn_15 {d : Nat} {σ : aS} {Q : aQ} {x : Int32} {ls : aL} {st : List Value} : aX d iX3_signsIn 15 (ls) (.int x :: st) σ Q ↔ (if x = nI 0 then aX d iX3_signsIn 53 (ls) (st) σ Q else aX d iX3_signsIn 18 (ls) (st) σ Q) := by rw [X_if kX3_signsIn_15 (t := 53) (by decide)]; simp only [aCmp_eq]
theorem kX3_signsIn_18 : aCode iX3_signsIn 18 = some (.lload_n 2, 1) := by decide +kernel
theorem sX3_signsIn_18 {d : Nat} {σ : aS} {Q : aQ} {l0 l1 : Option Value} {x : Int64} {lt : aL} {st : List Value} : aX d iX3_signsIn 18 (l0 :: l1 :: some (.long x) :: lt) (st) σ Q ↔ aX d iX3_signsIn 19 (l0 :: l1 :: some (.long x) :: lt) (.long x :: st) σ Q := X_lloadn kX3_signsIn_18 rfl
theorem kX3_signsIn_19 : aCode iX3_signsIn 19 = some (.ldc2_w 23, 3) := by decide +kernel
theorem sX3_signsIn_19 {d : Nat} {σ : aS} {Q : aQ} {ls : aL} {st : List Value} : aX d iX3_signsIn 19 (ls) (st) σ Q ↔ aX d iX3_signsIn 22 (ls) (.long (lN 255) :: st) σ Q := X_ldc2 (w := 558) kX3_signsIn_19 (by decide +kernel)
theorem kX3_signsIn_22 : aCode iX3_signsIn 22 = some (.land, 1) := by decide +kernel
theorem sX3_signsIn_22 {d : Nat} {σ : aS} {Q : aQ} {x y : Int64} {ls : aL} {st : List Value} : aX d iX3_signsIn 22 (ls) (.long y :: .long x :: st) σ Q ↔ aX d iX3_signsIn 23 (ls) (.long (x &&& y) :: st) σ Q := X_land kX3_signsIn_22
theorem kX3_signsIn_23 : aCode iX3_signsIn 23 = some (.l2i, 1) := by decide +kernel
theorem sX3_signsIn_23 {d : Nat} {σ : aS} {Q : aQ} {x : Int64} {ls : aL} {st : List Value} : aX d iX3_signsIn 23 (ls) (.long x :: st) σ Q ↔ aX d iX3_signsIn 24 (ls) (.int x.toInt32 :: st) σ Q := X_l2i kX3_signsIn_23
theorem kX3_signsIn_24 : aCode iX3_signsIn 24 = some (.istore 5, 2) := by decide +kernel
theorem sX3_signsIn_24 {d : Nat} {σ : aS} {Q : aQ} {l0 l1 l2 l3 l4 lo : Option Value} {x : Int32} {lt : aL} {st : List Value} : aX d iX3_signsIn 24 (l0 :: l1 :: l2 :: l3 :: l4 :: lo :: lt) (.int x :: st) σ Q ↔ aX d iX3_signsIn 26 (l0 :: l1 :: l2 :: l3 :: aclr l4 :: some (.int x) :: lt) (st) σ Q := X_istore kX3_signsIn_24 (by simp only [List.length_cons]; omega)
theorem kX3_signsIn_26 : aCode iX3_signsIn 26 = some (.iload 5, 2) := by decide +kernel
theorem sX3_signsIn_26 {d : Nat} {σ : aS} {Q : aQ} {l0 l1 l2 l3 l4 : Option Value} {x : Int32} {lt : aL} {st : List Value} : aX d iX3_signsIn 26 (l0 :: l1 :: l2 :: l3 :: l4 :: some (.int x) :: lt) (st) σ Q ↔ aX d iX3_signsIn 28 (l0 :: l1 :: l2 :: l3 :: l4 :: some (.int x) :: lt) (.int x :: st) σ Q := X_iload kX3_signsIn_26 rfl
theorem kX3_signsIn_28 : aCode iX3_signsIn 28 = some (.bipush 33, 2) := by decide +kernel
theorem sX3_signsIn_28 {d : Nat} {σ : aS} {Q : aQ} {ls : aL} {st : List Value} : aX d iX3_signsIn 28 (ls) (st) σ Q ↔ aX d iX3_signsIn 30 (ls) (.int (nI 33) :: st) σ Q := X_bipush kX3_signsIn_28 (by decide +kernel)
theorem kX3_signsIn_30 : aCode iX3_signsIn 30 = some (.if_icmp .lt 10, 3) := by decide +kernel
theorem sX3_signsIn_30 {d : Nat} {σ : aS} {Q : aQ} {x y : Int32} {ls : aL} {st : List Value} : aX d iX3_signsIn 30 (ls) (.int y :: .int x :: st) σ Q ↔ (if x < y then aX d iX3_signsIn 40 (ls) (st) σ Q else aX d iX3_signsIn 33 (ls) (st) σ Q) := by rw [X_icmp kX3_signsIn_30 (t := 40) (by decide)]; simp only [aCmp_lt]
theorem kX3_signsIn_33 : aCode iX3_signsIn 33 = some (.iload 5, 2) := by decide +kernel
theorem sX3_signsIn_33 {d : Nat} {σ : aS} {Q : aQ} {l0 l1 l2 l3 l4 : Option Value} {x : Int32} {lt : aL} {st : List Value} : aX d iX3_signsIn 33 (l0 :: l1 :: l2 :: l3 :: l4 :: some (.int x) :: lt) (st) σ Q ↔ aX d iX3_signsIn 35 (l0 :: l1 :: l2 :: l3 :: l4 :: some (.int x) :: lt) (.int x :: st) σ Q := X_iload kX3_signsIn_33 rfl
theorem kX3_signsIn_35 : aCode iX3_signsIn 35 = some (.bipush 126, 2) := by decide +kernel
theorem sX3_signsIn_35 {d : Nat} {σ : aS} {Q : aQ} {ls : aL} {st : List Value} : aX d iX3_signsIn 35 (ls) (st) σ Q ↔ aX d iX3_signsIn 37 (ls) (.int (nI 126) :: st) σ Q := X_bipush kX3_signsIn_35 (by decide +kernel)
theorem kX3_signsIn_37 : aCode iX3_signsIn 37 = some (.if_icmp .le 5, 3) := by decide +kernel
theorem sX3_signsIn_37 {d : Nat} {σ : aS} {Q : aQ} {x y : Int32} {ls : aL} {st : List Value} : aX d iX3_signsIn 37 (ls) (.int y :: .int x :: st) σ Q ↔ (if x ≤ y then aX d iX3_signsIn 42 (ls) (st) σ Q else aX d iX3_signsIn 40 (ls) (st) σ Q) := by rw [X_icmp kX3_signsIn_37 (t := 42) (by decide)]; simp only [aCmp_le]
theorem kX3_signsIn_40 : aCode iX3_signsIn 40 = some (.iconst 0, 1) := by decide +kernel
theorem sX3_signsIn_40 {d : Nat} {σ : aS} {Q : aQ} {ls : aL} {st : List Value} : aX d iX3_signsIn 40 (ls) (st) σ Q ↔ aX d iX3_signsIn 41 (ls) (.int (nI 0) :: st) σ Q := X_iconst kX3_signsIn_40 (by decide +kernel)
theorem kX3_signsIn_41 : aCode iX3_signsIn 41 = some (.ireturn, 1) := by decide +kernel
theorem sX3_signsIn_41 {d : Nat} {σ : aS} {Q : aQ} {v : Int32} {ls : aL} : aX d iX3_signsIn 41 (ls) ([.int v]) σ Q ↔ Q (some (.int v)) σ := X_iret kX3_signsIn_41 (by decide +kernel)
theorem kX3_signsIn_42 : aCode iX3_signsIn 42 = some (.iinc 4 1, 3) := by decide +kernel
theorem sX3_signsIn_42 {d : Nat} {σ : aS} {Q : aQ} {l0 l1 l2 l3 : Option Value} {x : Int32} {lt : aL} {st : List Value} : aX d iX3_signsIn 42 (l0 :: l1 :: l2 :: l3 :: some (.int x) :: lt) (st) σ Q ↔ aX d iX3_signsIn 45 (l0 :: l1 :: l2 :: aclr l3 :: some (.int (x + nI 1)) :: lt) (st) σ Q := X_iinc kX3_signsIn_42 rfl (by decide +kernel)
theorem kX3_signsIn_45 : aCode iX3_signsIn 45 = some (.lload_n 2, 1) := by decide +kernel
theorem sX3_signsIn_45 {d : Nat} {σ : aS} {Q : aQ} {l0 l1 : Option Value} {x : Int64} {lt : aL} {st : List Value} : aX d iX3_signsIn 45 (l0 :: l1 :: some (.long x) :: lt) (st) σ Q ↔ aX d iX3_signsIn 46 (l0 :: l1 :: some (.long x) :: lt) (.long x :: st) σ Q := X_lloadn kX3_signsIn_45 rfl
theorem kX3_signsIn_46 : aCode iX3_signsIn 46 = some (.bipush 8, 2) := by decide +kernel
theorem sX3_signsIn_46 {d : Nat} {σ : aS} {Q : aQ} {ls : aL} {st : List Value} : aX d iX3_signsIn 46 (ls) (st) σ Q ↔ aX d iX3_signsIn 48 (ls) (.int (nI 8) :: st) σ Q := X_bipush kX3_signsIn_46 (by decide +kernel)
theorem kX3_signsIn_48 : aCode iX3_signsIn 48 = some (.lushr, 1) := by decide +kernel
theorem sX3_signsIn_48 {d : Nat} {σ : aS} {Q : aQ} {x : Int64} {y : Int32} {ls : aL} {st : List Value} : aX d iX3_signsIn 48 (ls) (.int y :: .long x :: st) σ Q ↔ aX d iX3_signsIn 49 (ls) (.long ((x.toUInt64 >>> (y.toInt64.toUInt64 &&& Int64.toUInt64 63)).toInt64) :: st) σ Q := X_lushr kX3_signsIn_48
theorem kX3_signsIn_49 : aCode iX3_signsIn 49 = some (.lstore_n 2, 1) := by decide +kernel
theorem sX3_signsIn_49 {d : Nat} {σ : aS} {Q : aQ} {l0 l1 lo lp : Option Value} {x : Int64} {lt : aL} {st : List Value} : aX d iX3_signsIn 49 (l0 :: l1 :: lo :: lp :: lt) (.long x :: st) σ Q ↔ aX d iX3_signsIn 50 (l0 :: aclr l1 :: some (.long x) :: none :: lt) (st) σ Q := X_lstoren kX3_signsIn_49 (by simp only [List.length_cons]; omega)
theorem kX3_signsIn_50 : aCode iX3_signsIn 50 = some (.goto (-45), 3) := by decide +kernel
theorem sX3_signsIn_50 {d : Nat} {σ : aS} {Q : aQ} {ls : aL} {st : List Value} : aX d iX3_signsIn 50 (ls) (st) σ Q ↔ aX d iX3_signsIn 5 (ls) (st) σ Q := X_goto kX3_signsIn_50 (by decide)
theorem kX3_signsIn_53 : aCode iX3_signsIn 53 = some (.iload 4, 2) := by decide +kernel
theorem sX3_signsIn_53 {d : Nat} {σ : aS} {Q : aQ} {l0 l1 l2 l3 : Option Value} {x : Int32} {lt : aL} {st : List Value} : aX d iX3_signsIn 53 (l0 :: l1 :: l2 :: l3 :: some (.int x) :: lt) (st) σ Q ↔ aX d iX3_signsIn 55 (l0 :: l1 :: l2 :: l3 :: some (.int x) :: lt) (.int x :: st) σ Q := X_iload kX3_signsIn_53 rfl
theorem kX3_signsIn_55 : aCode iX3_signsIn 55 = some (.ireturn, 1) := by decide +kernel
theorem sX3_signsIn_55 {d : Nat} {σ : aS} {Q : aQ} {v : Int32} {ls : aL} : aX d iX3_signsIn 55 (ls) ([.int v]) σ Q ↔ Q (some (.int v)) σ := X_iret kX3_signsIn_55 (by decide +kernel)
theorem kX3_empty_0 : aCode iX3_empty 0 = some (.aload_n 0, 1) := by decide +kernel
theorem sX3_empty_0 {d : Nat} {σ : aS} {Q : aQ} {x : Nat} {lt : aL} {st : List Value} : aX d iX3_empty 0 (some (.ref x) :: lt) (st) σ Q ↔ aX d iX3_empty 1 (some (.ref x) :: lt) (.ref x :: st) σ Q := X_aloadn kX3_empty_0 rfl rfl
theorem kX3_empty_1 : aCode iX3_empty 1 = some (.getfield 19, 3) := by decide +kernel
theorem sX3_empty_1 {d : Nat} {σ : aS} {Q : aQ} {a : Nat} {ls : aL} {st : List Value} : aX d iX3_empty 1 (ls) (.ref a :: st) σ Q ↔ ∃ v, aFld σ a 3 1 = some v ∧ aX d iX3_empty 4 (ls) (v :: st) σ Q := X_getf (w := 203) kX3_empty_1 (by decide +kernel)
theorem kX3_empty_4 : aCode iX3_empty 4 = some (.istore_n 1, 1) := by decide +kernel
theorem sX3_empty_4 {d : Nat} {σ : aS} {Q : aQ} {l0 lo : Option Value} {x : Int32} {lt : aL} {st : List Value} : aX d iX3_empty 4 (l0 :: lo :: lt) (.int x :: st) σ Q ↔ aX d iX3_empty 5 (aclr l0 :: some (.int x) :: lt) (st) σ Q := X_istoren kX3_empty_4 (by simp only [List.length_cons]; omega)
theorem kX3_empty_5 : aCode iX3_empty 5 = some (.aload_n 0, 1) := by decide +kernel
theorem sX3_empty_5 {d : Nat} {σ : aS} {Q : aQ} {x : Nat} {lt : aL} {st : List Value} : aX d iX3_empty 5 (some (.ref x) :: lt) (st) σ Q ↔ aX d iX3_empty 6 (some (.ref x) :: lt) (.ref x :: st) σ Q := X_aloadn kX3_empty_5 rfl rfl
theorem kX3_empty_6 : aCode iX3_empty 6 = some (.iconst 0, 1) := by decide +kernel
theorem sX3_empty_6 {d : Nat} {σ : aS} {Q : aQ} {ls : aL} {st : List Value} : aX d iX3_empty 6 (ls) (st) σ Q ↔ aX d iX3_empty 7 (ls) (.int (nI 0) :: st) σ Q := X_iconst kX3_empty_6 (by decide +kernel)
theorem kX3_empty_7 : aCode iX3_empty 7 = some (.putfield 19, 3) := by decide +kernel
theorem sX3_empty_7 {d : Nat} {σ : aS} {Q : aQ} {x : Int32} {a : Nat} {ls : aL} {st : List Value} : aX d iX3_empty 7 (ls) (.int x :: .ref a :: st) σ Q ↔ ∃ fs, aFds σ a 3 = some fs ∧ 1 < fs.length ∧ aX d iX3_empty 10 (ls) (st) (aput σ a (eO 3 (fs.set 1 (.int x)))) Q := X_putf (w := 203) kX3_empty_7 (by decide +kernel) (aFit_I (by decide +kernel)) (by decide +kernel)
theorem kX3_empty_10 : aCode iX3_empty 10 = some (.iload_n 1, 1) := by decide +kernel
theorem sX3_empty_10 {d : Nat} {σ : aS} {Q : aQ} {l0 : Option Value} {x : Int32} {lt : aL} {st : List Value} : aX d iX3_empty 10 (l0 :: some (.int x) :: lt) (st) σ Q ↔ aX d iX3_empty 11 (l0 :: some (.int x) :: lt) (.int x :: st) σ Q := X_iloadn kX3_empty_10 rfl
theorem kX3_empty_11 : aCode iX3_empty 11 = some (.ireturn, 1) := by decide +kernel
theorem sX3_empty_11 {d : Nat} {σ : aS} {Q : aQ} {v : Int32} {ls : aL} : aX d iX3_empty 11 (ls) ([.int v]) σ Q ↔ Q (some (.int v)) σ := X_iret kX3_empty_11 (by decide +kernel)
theorem kX3_findFault_0 : aCode iX3_findFault 0 = some (.aload_n 0, 1) := by decide +kernel
theorem sX3_findFault_0 {d : Nat} {σ : aS} {Q : aQ} {x : Nat} {lt : aL} {st : List Value} : aX d iX3_findFault 0 (some (.ref x) :: lt) (st) σ Q ↔ aX d iX3_findFault 1 (some (.ref x) :: lt) (.ref x :: st) σ Q := X_aloadn kX3_findFault_0 rfl rfl
theorem kX3_findFault_1 : aCode iX3_findFault 1 = some (.invokevirtual 29, 3) := by decide +kernel
theorem sX3_findFault_1 {d : Nat} {σ : aS} {Q : aQ} {b : Nat} {ls : aL} : aX (d + 1) iX3_findFault 1 (ls) (.ref b :: []) σ Q ↔ aIs σ b 3 ∧ aX d iX3_startReading 0 [some (.ref b)] [] σ (fun r τ => aX (d + 1) iX3_findFault 4 (ls) (aret r ([])) τ Q) := X_invv (N := 0) (As := []) (w := 576) kX3_findFault_1 (by decide +kernel) (by decide +kernel) rfl rfl (by simp only [List.length_cons, List.length_nil]; omega) (by simp only [List.length_cons, List.length_nil]; omega) (by decide +kernel) rfl (Nat.le_of_ble_eq_true rfl)
theorem kX3_findFault_4 : aCode iX3_findFault 4 = some (.iconst 0, 1) := by decide +kernel
theorem sX3_findFault_4 {d : Nat} {σ : aS} {Q : aQ} {ls : aL} {st : List Value} : aX d iX3_findFault 4 (ls) (st) σ Q ↔ aX d iX3_findFault 5 (ls) (.int (nI 0) :: st) σ Q := X_iconst kX3_findFault_4 (by decide +kernel)
theorem kX3_findFault_5 : aCode iX3_findFault 5 = some (.istore_n 1, 1) := by decide +kernel
theorem sX3_findFault_5 {d : Nat} {σ : aS} {Q : aQ} {l0 lo : Option Value} {x : Int32} {lt : aL} {st : List Value} : aX d iX3_findFault 5 (l0 :: lo :: lt) (.int x :: st) σ Q ↔ aX d iX3_findFault 6 (aclr l0 :: some (.int x) :: lt) (st) σ Q := X_istoren kX3_findFault_5 (by simp only [List.length_cons]; omega)
theorem kX3_findFault_6 : aCode iX3_findFault 6 = some (.iload_n 1, 1) := by decide +kernel
theorem sX3_findFault_6 {d : Nat} {σ : aS} {Q : aQ} {l0 : Option Value} {x : Int32} {lt : aL} {st : List Value} : aX d iX3_findFault 6 (l0 :: some (.int x) :: lt) (st) σ Q ↔ aX d iX3_findFault 7 (l0 :: some (.int x) :: lt) (.int x :: st) σ Q := X_iloadn kX3_findFault_6 rfl
theorem kX3_findFault_7 : aCode iX3_findFault 7 = some (.bipush 80, 2) := by decide +kernel
theorem sX3_findFault_7 {d : Nat} {σ : aS} {Q : aQ} {ls : aL} {st : List Value} : aX d iX3_findFault 7 (ls) (st) σ Q ↔ aX d iX3_findFault 9 (ls) (.int (nI 80) :: st) σ Q := X_bipush kX3_findFault_7 (by decide +kernel)
theorem kX3_findFault_9 : aCode iX3_findFault 9 = some (.if_icmp .ge 30, 3) := by decide +kernel
theorem sX3_findFault_9 {d : Nat} {σ : aS} {Q : aQ} {x y : Int32} {ls : aL} {st : List Value} : aX d iX3_findFault 9 (ls) (.int y :: .int x :: st) σ Q ↔ (if y ≤ x then aX d iX3_findFault 39 (ls) (st) σ Q else aX d iX3_findFault 12 (ls) (st) σ Q) := by rw [X_icmp kX3_findFault_9 (t := 39) (by decide)]; simp only [aCmp_ge]
theorem kX3_findFault_12 : aCode iX3_findFault 12 = some (.aload_n 0, 1) := by decide +kernel
theorem sX3_findFault_12 {d : Nat} {σ : aS} {Q : aQ} {x : Nat} {lt : aL} {st : List Value} : aX d iX3_findFault 12 (some (.ref x) :: lt) (st) σ Q ↔ aX d iX3_findFault 13 (some (.ref x) :: lt) (.ref x :: st) σ Q := X_aloadn kX3_findFault_12 rfl rfl
theorem kX3_findFault_13 : aCode iX3_findFault 13 = some (.invokevirtual 32, 3) := by decide +kernel
theorem sX3_findFault_13 {d : Nat} {σ : aS} {Q : aQ} {b : Nat} {ls : aL} : aX (d + 1) iX3_findFault 13 (ls) (.ref b :: []) σ Q ↔ aIs σ b 3 ∧ aX d iX3_readNext 0 [some (.ref b)] [] σ (fun r τ => aX (d + 1) iX3_findFault 16 (ls) (aret r ([])) τ Q) := X_invv (N := 0) (As := []) (w := 580) kX3_findFault_13 (by decide +kernel) (by decide +kernel) rfl rfl (by simp only [List.length_cons, List.length_nil]; omega) (by simp only [List.length_cons, List.length_nil]; omega) (by decide +kernel) rfl (Nat.le_of_ble_eq_true rfl)
theorem kX3_findFault_16 : aCode iX3_findFault 16 = some (.ifCond .eq 23, 3) := by decide +kernel
theorem sX3_findFault_16 {d : Nat} {σ : aS} {Q : aQ} {x : Int32} {ls : aL} {st : List Value} : aX d iX3_findFault 16 (ls) (.int x :: st) σ Q ↔ (if x = nI 0 then aX d iX3_findFault 39 (ls) (st) σ Q else aX d iX3_findFault 19 (ls) (st) σ Q) := by rw [X_if kX3_findFault_16 (t := 39) (by decide)]; simp only [aCmp_eq]
theorem kX3_findFault_19 : aCode iX3_findFault 19 = some (.aload_n 0, 1) := by decide +kernel
theorem sX3_findFault_19 {d : Nat} {σ : aS} {Q : aQ} {x : Nat} {lt : aL} {st : List Value} : aX d iX3_findFault 19 (some (.ref x) :: lt) (st) σ Q ↔ aX d iX3_findFault 20 (some (.ref x) :: lt) (.ref x :: st) σ Q := X_aloadn kX3_findFault_19 rfl rfl
theorem kX3_findFault_20 : aCode iX3_findFault 20 = some (.getfield 36, 3) := by decide +kernel
theorem sX3_findFault_20 {d : Nat} {σ : aS} {Q : aQ} {a : Nat} {ls : aL} {st : List Value} : aX d iX3_findFault 20 (ls) (.ref a :: st) σ Q ↔ ∃ v, aFld σ a 3 2 = some v ∧ aX d iX3_findFault 23 (ls) (v :: st) σ Q := X_getf (w := 205) kX3_findFault_20 (by decide +kernel)
theorem kX3_findFault_23 : aCode iX3_findFault 23 = some (.aload_n 0, 1) := by decide +kernel
theorem sX3_findFault_23 {d : Nat} {σ : aS} {Q : aQ} {x : Nat} {lt : aL} {st : List Value} : aX d iX3_findFault 23 (some (.ref x) :: lt) (st) σ Q ↔ aX d iX3_findFault 24 (some (.ref x) :: lt) (.ref x :: st) σ Q := X_aloadn kX3_findFault_23 rfl rfl
theorem kX3_findFault_24 : aCode iX3_findFault 24 = some (.getfield 19, 3) := by decide +kernel
theorem sX3_findFault_24 {d : Nat} {σ : aS} {Q : aQ} {a : Nat} {ls : aL} {st : List Value} : aX d iX3_findFault 24 (ls) (.ref a :: st) σ Q ↔ ∃ v, aFld σ a 3 1 = some v ∧ aX d iX3_findFault 27 (ls) (v :: st) σ Q := X_getf (w := 203) kX3_findFault_24 (by decide +kernel)
theorem kX3_findFault_27 : aCode iX3_findFault 27 = some (.if_icmp .lt 6, 3) := by decide +kernel
theorem sX3_findFault_27 {d : Nat} {σ : aS} {Q : aQ} {x y : Int32} {ls : aL} {st : List Value} : aX d iX3_findFault 27 (ls) (.int y :: .int x :: st) σ Q ↔ (if x < y then aX d iX3_findFault 33 (ls) (st) σ Q else aX d iX3_findFault 30 (ls) (st) σ Q) := by rw [X_icmp kX3_findFault_27 (t := 33) (by decide)]; simp only [aCmp_lt]
theorem kX3_findFault_30 : aCode iX3_findFault 30 = some (.bipush (-6), 2) := by decide +kernel
theorem sX3_findFault_30 {d : Nat} {σ : aS} {Q : aQ} {ls : aL} {st : List Value} : aX d iX3_findFault 30 (ls) (st) σ Q ↔ aX d iX3_findFault 32 (ls) (.int ((-6)) :: st) σ Q := X_bipush kX3_findFault_30 (by decide +kernel)
theorem kX3_findFault_32 : aCode iX3_findFault 32 = some (.ireturn, 1) := by decide +kernel
theorem sX3_findFault_32 {d : Nat} {σ : aS} {Q : aQ} {v : Int32} {ls : aL} : aX d iX3_findFault 32 (ls) ([.int v]) σ Q ↔ Q (some (.int v)) σ := X_iret kX3_findFault_32 (by decide +kernel)
theorem kX3_findFault_33 : aCode iX3_findFault 33 = some (.iinc 1 1, 3) := by decide +kernel
theorem sX3_findFault_33 {d : Nat} {σ : aS} {Q : aQ} {l0 : Option Value} {x : Int32} {lt : aL} {st : List Value} : aX d iX3_findFault 33 (l0 :: some (.int x) :: lt) (st) σ Q ↔ aX d iX3_findFault 36 (aclr l0 :: some (.int (x + nI 1)) :: lt) (st) σ Q := X_iinc kX3_findFault_33 rfl (by decide +kernel)
theorem kX3_findFault_36 : aCode iX3_findFault 36 = some (.goto (-30), 3) := by decide +kernel
theorem sX3_findFault_36 {d : Nat} {σ : aS} {Q : aQ} {ls : aL} {st : List Value} : aX d iX3_findFault 36 (ls) (st) σ Q ↔ aX d iX3_findFault 6 (ls) (st) σ Q := X_goto kX3_findFault_36 (by decide)
theorem kX3_findFault_39 : aCode iX3_findFault 39 = some (.aload_n 0, 1) := by decide +kernel
theorem sX3_findFault_39 {d : Nat} {σ : aS} {Q : aQ} {x : Nat} {lt : aL} {st : List Value} : aX d iX3_findFault 39 (some (.ref x) :: lt) (st) σ Q ↔ aX d iX3_findFault 40 (some (.ref x) :: lt) (.ref x :: st) σ Q := X_aloadn kX3_findFault_39 rfl rfl
theorem kX3_findFault_40 : aCode iX3_findFault 40 = some (.getfield 36, 3) := by decide +kernel
theorem sX3_findFault_40 {d : Nat} {σ : aS} {Q : aQ} {a : Nat} {ls : aL} {st : List Value} : aX d iX3_findFault 40 (ls) (.ref a :: st) σ Q ↔ ∃ v, aFld σ a 3 2 = some v ∧ aX d iX3_findFault 43 (ls) (v :: st) σ Q := X_getf (w := 205) kX3_findFault_40 (by decide +kernel)
theorem kX3_findFault_43 : aCode iX3_findFault 43 = some (.ireturn, 1) := by decide +kernel
theorem sX3_findFault_43 {d : Nat} {σ : aS} {Q : aQ} {v : Int32} {ls : aL} : aX d iX3_findFault 43 (ls) ([.int v]) σ Q ↔ Q (some (.int v)) σ := X_iret kX3_findFault_43 (by decide +kernel)
theorem kX3_startReading_0 : aCode iX3_startReading 0 = some (.aload_n 0, 1) := by decide +kernel
theorem sX3_startReading_0 {d : Nat} {σ : aS} {Q : aQ} {x : Nat} {lt : aL} {st : List Value} : aX d iX3_startReading 0 (some (.ref x) :: lt) (st) σ Q ↔ aX d iX3_startReading 1 (some (.ref x) :: lt) (.ref x :: st) σ Q := X_aloadn kX3_startReading_0 rfl rfl
theorem kX3_startReading_1 : aCode iX3_startReading 1 = some (.iconst 0, 1) := by decide +kernel
theorem sX3_startReading_1 {d : Nat} {σ : aS} {Q : aQ} {ls : aL} {st : List Value} : aX d iX3_startReading 1 (ls) (st) σ Q ↔ aX d iX3_startReading 2 (ls) (.int (nI 0) :: st) σ Q := X_iconst kX3_startReading_1 (by decide +kernel)
theorem kX3_startReading_2 : aCode iX3_startReading 2 = some (.putfield 36, 3) := by decide +kernel
theorem sX3_startReading_2 {d : Nat} {σ : aS} {Q : aQ} {x : Int32} {a : Nat} {ls : aL} {st : List Value} : aX d iX3_startReading 2 (ls) (.int x :: .ref a :: st) σ Q ↔ ∃ fs, aFds σ a 3 = some fs ∧ 2 < fs.length ∧ aX d iX3_startReading 5 (ls) (st) (aput σ a (eO 3 (fs.set 2 (.int x)))) Q := X_putf (w := 205) kX3_startReading_2 (by decide +kernel) (aFit_I (by decide +kernel)) (by decide +kernel)
theorem kX3_startReading_5 : aCode iX3_startReading 5 = some (.return_, 1) := by decide +kernel
theorem sX3_startReading_5 {d : Nat} {σ : aS} {Q : aQ} {ls : aL} : aX d iX3_startReading 5 (ls) ([]) σ Q ↔ Q none σ := X_vret kX3_startReading_5 (by decide +kernel)
theorem kX3_readNext_0 : aCode iX3_readNext 0 = some (.aload_n 0, 1) := by decide +kernel
theorem sX3_readNext_0 {d : Nat} {σ : aS} {Q : aQ} {x : Nat} {lt : aL} {st : List Value} : aX d iX3_readNext 0 (some (.ref x) :: lt) (st) σ Q ↔ aX d iX3_readNext 1 (some (.ref x) :: lt) (.ref x :: st) σ Q := X_aloadn kX3_readNext_0 rfl rfl
theorem kX3_readNext_1 : aCode iX3_readNext 1 = some (.getfield 36, 3) := by decide +kernel
theorem sX3_readNext_1 {d : Nat} {σ : aS} {Q : aQ} {a : Nat} {ls : aL} {st : List Value} : aX d iX3_readNext 1 (ls) (.ref a :: st) σ Q ↔ ∃ v, aFld σ a 3 2 = some v ∧ aX d iX3_readNext 4 (ls) (v :: st) σ Q := X_getf (w := 205) kX3_readNext_1 (by decide +kernel)
theorem kX3_readNext_4 : aCode iX3_readNext 4 = some (.ifCond .eq 12, 3) := by decide +kernel
theorem sX3_readNext_4 {d : Nat} {σ : aS} {Q : aQ} {x : Int32} {ls : aL} {st : List Value} : aX d iX3_readNext 4 (ls) (.int x :: st) σ Q ↔ (if x = nI 0 then aX d iX3_readNext 16 (ls) (st) σ Q else aX d iX3_readNext 7 (ls) (st) σ Q) := by rw [X_if kX3_readNext_4 (t := 16) (by decide)]; simp only [aCmp_eq]
theorem kX3_readNext_7 : aCode iX3_readNext 7 = some (.aload_n 0, 1) := by decide +kernel
theorem sX3_readNext_7 {d : Nat} {σ : aS} {Q : aQ} {x : Nat} {lt : aL} {st : List Value} : aX d iX3_readNext 7 (some (.ref x) :: lt) (st) σ Q ↔ aX d iX3_readNext 8 (some (.ref x) :: lt) (.ref x :: st) σ Q := X_aloadn kX3_readNext_7 rfl rfl
theorem kX3_readNext_8 : aCode iX3_readNext 8 = some (.bipush 59, 2) := by decide +kernel
theorem sX3_readNext_8 {d : Nat} {σ : aS} {Q : aQ} {ls : aL} {st : List Value} : aX d iX3_readNext 8 (ls) (st) σ Q ↔ aX d iX3_readNext 10 (ls) (.int (nI 59) :: st) σ Q := X_bipush kX3_readNext_8 (by decide +kernel)
theorem kX3_readNext_10 : aCode iX3_readNext 10 = some (.invokevirtual 39, 3) := by decide +kernel
theorem sX3_readNext_10 {d : Nat} {σ : aS} {Q : aQ} {b : Nat} {p0 : Int32} {ls : aL} : aX (d + 1) iX3_readNext 10 (ls) (.int p0 :: .ref b :: []) σ Q ↔ aIs σ b 3 ∧ aX d iX3_take 0 [some (.ref b), some (.int p0)] [] σ (fun r τ => aX (d + 1) iX3_readNext 13 (ls) (aret r ([])) τ Q) := X_invv (N := 1) (As := [.int p0]) (w := 584) kX3_readNext_10 (by decide +kernel) (by decide +kernel) rfl rfl (by simp only [List.length_cons, List.length_nil]; omega) (by simp only [List.length_cons, List.length_nil]; omega) (by decide +kernel) rfl (Nat.le_of_ble_eq_true rfl)
theorem kX3_readNext_13 : aCode iX3_readNext 13 = some (.ifCond .eq 14, 3) := by decide +kernel
theorem sX3_readNext_13 {d : Nat} {σ : aS} {Q : aQ} {x : Int32} {ls : aL} {st : List Value} : aX d iX3_readNext 13 (ls) (.int x :: st) σ Q ↔ (if x = nI 0 then aX d iX3_readNext 27 (ls) (st) σ Q else aX d iX3_readNext 16 (ls) (st) σ Q) := by rw [X_if kX3_readNext_13 (t := 27) (by decide)]; simp only [aCmp_eq]
theorem kX3_readNext_16 : aCode iX3_readNext 16 = some (.aload_n 0, 1) := by decide +kernel
theorem sX3_readNext_16 {d : Nat} {σ : aS} {Q : aQ} {x : Nat} {lt : aL} {st : List Value} : aX d iX3_readNext 16 (some (.ref x) :: lt) (st) σ Q ↔ aX d iX3_readNext 17 (some (.ref x) :: lt) (.ref x :: st) σ Q := X_aloadn kX3_readNext_16 rfl rfl
theorem kX3_readNext_17 : aCode iX3_readNext 17 = some (.invokevirtual 43, 3) := by decide +kernel
theorem sX3_readNext_17 {d : Nat} {σ : aS} {Q : aQ} {b : Nat} {ls : aL} : aX (d + 1) iX3_readNext 17 (ls) (.ref b :: []) σ Q ↔ aIs σ b 3 ∧ aX d iX3_readOrder 0 [some (.ref b)] [] σ (fun r τ => aX (d + 1) iX3_readNext 20 (ls) (aret r ([])) τ Q) := X_invv (N := 0) (As := []) (w := 592) kX3_readNext_17 (by decide +kernel) (by decide +kernel) rfl rfl (by simp only [List.length_cons, List.length_nil]; omega) (by simp only [List.length_cons, List.length_nil]; omega) (by decide +kernel) rfl (Nat.le_of_ble_eq_true rfl)
theorem kX3_readNext_20 : aCode iX3_readNext 20 = some (.ifCond .eq 7, 3) := by decide +kernel
theorem sX3_readNext_20 {d : Nat} {σ : aS} {Q : aQ} {x : Int32} {ls : aL} {st : List Value} : aX d iX3_readNext 20 (ls) (.int x :: st) σ Q ↔ (if x = nI 0 then aX d iX3_readNext 27 (ls) (st) σ Q else aX d iX3_readNext 23 (ls) (st) σ Q) := by rw [X_if kX3_readNext_20 (t := 27) (by decide)]; simp only [aCmp_eq]
theorem kX3_readNext_23 : aCode iX3_readNext 23 = some (.iconst 1, 1) := by decide +kernel
theorem sX3_readNext_23 {d : Nat} {σ : aS} {Q : aQ} {ls : aL} {st : List Value} : aX d iX3_readNext 23 (ls) (st) σ Q ↔ aX d iX3_readNext 24 (ls) (.int (nI 1) :: st) σ Q := X_iconst kX3_readNext_23 (by decide +kernel)
theorem kX3_readNext_24 : aCode iX3_readNext 24 = some (.goto 4, 3) := by decide +kernel
theorem sX3_readNext_24 {d : Nat} {σ : aS} {Q : aQ} {ls : aL} {st : List Value} : aX d iX3_readNext 24 (ls) (st) σ Q ↔ aX d iX3_readNext 28 (ls) (st) σ Q := X_goto kX3_readNext_24 (by decide)
theorem kX3_readNext_27 : aCode iX3_readNext 27 = some (.iconst 0, 1) := by decide +kernel
theorem sX3_readNext_27 {d : Nat} {σ : aS} {Q : aQ} {ls : aL} {st : List Value} : aX d iX3_readNext 27 (ls) (st) σ Q ↔ aX d iX3_readNext 28 (ls) (.int (nI 0) :: st) σ Q := X_iconst kX3_readNext_27 (by decide +kernel)
theorem kX3_readNext_28 : aCode iX3_readNext 28 = some (.ireturn, 1) := by decide +kernel
theorem sX3_readNext_28 {d : Nat} {σ : aS} {Q : aQ} {v : Int32} {ls : aL} : aX d iX3_readNext 28 (ls) ([.int v]) σ Q ↔ (narrow .boolean (.int v) = .int v ∧ Q (some (.int v)) σ) := X_zret kX3_readNext_28 (by decide +kernel)
theorem kX3_readOrder_0 : aCode iX3_readOrder 0 = some (.aload_n 0, 1) := by decide +kernel
theorem sX3_readOrder_0 {d : Nat} {σ : aS} {Q : aQ} {x : Nat} {lt : aL} {st : List Value} : aX d iX3_readOrder 0 (some (.ref x) :: lt) (st) σ Q ↔ aX d iX3_readOrder 1 (some (.ref x) :: lt) (.ref x :: st) σ Q := X_aloadn kX3_readOrder_0 rfl rfl
theorem kX3_readOrder_1 : aCode iX3_readOrder 1 = some (.aload_n 0, 1) := by decide +kernel
theorem sX3_readOrder_1 {d : Nat} {σ : aS} {Q : aQ} {x : Nat} {lt : aL} {st : List Value} : aX d iX3_readOrder 1 (some (.ref x) :: lt) (st) σ Q ↔ aX d iX3_readOrder 2 (some (.ref x) :: lt) (.ref x :: st) σ Q := X_aloadn kX3_readOrder_1 rfl rfl
theorem kX3_readOrder_2 : aCode iX3_readOrder 2 = some (.invokevirtual 46, 3) := by decide +kernel
theorem sX3_readOrder_2 {d : Nat} {σ : aS} {Q : aQ} {b : Nat} {v0 : Value} {ls : aL} : aX (d + 1) iX3_readOrder 2 (ls) (.ref b :: v0 :: []) σ Q ↔ aIs σ b 3 ∧ aX d iX3_signHere 0 [some (.ref b)] [] σ (fun r τ => aX (d + 1) iX3_readOrder 5 (ls) (aret r (v0 :: [])) τ Q) := X_invv (N := 0) (As := []) (w := 588) kX3_readOrder_2 (by decide +kernel) (by decide +kernel) rfl rfl (by simp only [List.length_cons, List.length_nil]; omega) (by simp only [List.length_cons, List.length_nil]; omega) (by decide +kernel) rfl (Nat.le_of_ble_eq_true rfl)
theorem kX3_readOrder_5 : aCode iX3_readOrder 5 = some (.putfield 50, 3) := by decide +kernel
theorem sX3_readOrder_5 {d : Nat} {σ : aS} {Q : aQ} {x : Int32} {a : Nat} {ls : aL} {st : List Value} : aX d iX3_readOrder 5 (ls) (.int x :: .ref a :: st) σ Q ↔ ∃ fs, aFds σ a 3 = some fs ∧ 3 < fs.length ∧ aX d iX3_readOrder 8 (ls) (st) (aput σ a (eO 3 (fs.set 3 (.int x)))) Q := X_putf (w := 206) kX3_readOrder_5 (by decide +kernel) (aFit_I (by decide +kernel)) (by decide +kernel)
theorem kX3_readOrder_8 : aCode iX3_readOrder 8 = some (.aload_n 0, 1) := by decide +kernel
theorem sX3_readOrder_8 {d : Nat} {σ : aS} {Q : aQ} {x : Nat} {lt : aL} {st : List Value} : aX d iX3_readOrder 8 (some (.ref x) :: lt) (st) σ Q ↔ aX d iX3_readOrder 9 (some (.ref x) :: lt) (.ref x :: st) σ Q := X_aloadn kX3_readOrder_8 rfl rfl
theorem kX3_readOrder_9 : aCode iX3_readOrder 9 = some (.bipush (-6), 2) := by decide +kernel
theorem sX3_readOrder_9 {d : Nat} {σ : aS} {Q : aQ} {ls : aL} {st : List Value} : aX d iX3_readOrder 9 (ls) (st) σ Q ↔ aX d iX3_readOrder 11 (ls) (.int ((-6)) :: st) σ Q := X_bipush kX3_readOrder_9 (by decide +kernel)
theorem kX3_readOrder_11 : aCode iX3_readOrder 11 = some (.putfield 53, 3) := by decide +kernel
theorem sX3_readOrder_11 {d : Nat} {σ : aS} {Q : aQ} {x : Int32} {a : Nat} {ls : aL} {st : List Value} : aX d iX3_readOrder 11 (ls) (.int x :: .ref a :: st) σ Q ↔ ∃ fs, aFds σ a 3 = some fs ∧ 5 < fs.length ∧ aX d iX3_readOrder 14 (ls) (st) (aput σ a (eO 3 (fs.set 5 (.int x)))) Q := X_putf (w := 210) kX3_readOrder_11 (by decide +kernel) (aFit_I (by decide +kernel)) (by decide +kernel)
theorem kX3_readOrder_14 : aCode iX3_readOrder 14 = some (.aload_n 0, 1) := by decide +kernel
theorem sX3_readOrder_14 {d : Nat} {σ : aS} {Q : aQ} {x : Nat} {lt : aL} {st : List Value} : aX d iX3_readOrder 14 (some (.ref x) :: lt) (st) σ Q ↔ aX d iX3_readOrder 15 (some (.ref x) :: lt) (.ref x :: st) σ Q := X_aloadn kX3_readOrder_14 rfl rfl
theorem kX3_readOrder_15 : aCode iX3_readOrder 15 = some (.getfield 50, 3) := by decide +kernel
theorem sX3_readOrder_15 {d : Nat} {σ : aS} {Q : aQ} {a : Nat} {ls : aL} {st : List Value} : aX d iX3_readOrder 15 (ls) (.ref a :: st) σ Q ↔ ∃ v, aFld σ a 3 3 = some v ∧ aX d iX3_readOrder 18 (ls) (v :: st) σ Q := X_getf (w := 206) kX3_readOrder_15 (by decide +kernel)
theorem kX3_readOrder_18 : aCode iX3_readOrder 18 = some (.lookupswitch 228 #[(43, 58), (45, 97), (98, 112), (99, 216), (114, 151), (116, 167)], 58) := by decide +kernel
theorem sX3_readOrder_18_43 {d : Nat} {σ : aS} {Q : aQ} {ls : aL} {st : List Value} : aX d iX3_readOrder 18 (ls) (.int (nI 43) :: st) σ Q ↔ aX d iX3_readOrder 76 (ls) (st) σ Q := X_lsw kX3_readOrder_18 (by decide +kernel) (by decide +kernel)
theorem sX3_readOrder_18_45 {d : Nat} {σ : aS} {Q : aQ} {ls : aL} {st : List Value} : aX d iX3_readOrder 18 (ls) (.int (nI 45) :: st) σ Q ↔ aX d iX3_readOrder 115 (ls) (st) σ Q := X_lsw kX3_readOrder_18 (by decide +kernel) (by decide +kernel)
theorem sX3_readOrder_18_98 {d : Nat} {σ : aS} {Q : aQ} {ls : aL} {st : List Value} : aX d iX3_readOrder 18 (ls) (.int (nI 98) :: st) σ Q ↔ aX d iX3_readOrder 130 (ls) (st) σ Q := X_lsw kX3_readOrder_18 (by decide +kernel) (by decide +kernel)
theorem sX3_readOrder_18_99 {d : Nat} {σ : aS} {Q : aQ} {ls : aL} {st : List Value} : aX d iX3_readOrder 18 (ls) (.int (nI 99) :: st) σ Q ↔ aX d iX3_readOrder 234 (ls) (st) σ Q := X_lsw kX3_readOrder_18 (by decide +kernel) (by decide +kernel)
theorem sX3_readOrder_18_114 {d : Nat} {σ : aS} {Q : aQ} {ls : aL} {st : List Value} : aX d iX3_readOrder 18 (ls) (.int (nI 114) :: st) σ Q ↔ aX d iX3_readOrder 169 (ls) (st) σ Q := X_lsw kX3_readOrder_18 (by decide +kernel) (by decide +kernel)
theorem sX3_readOrder_18_116 {d : Nat} {σ : aS} {Q : aQ} {ls : aL} {st : List Value} : aX d iX3_readOrder 18 (ls) (.int (nI 116) :: st) σ Q ↔ aX d iX3_readOrder 185 (ls) (st) σ Q := X_lsw kX3_readOrder_18 (by decide +kernel) (by decide +kernel)
theorem sX3_readOrder_18_d {d : Nat} {σ : aS} {Q : aQ} {x : Int32} {ls : aL} {st : List Value} (h0 : ¬ x = nI 43) (h1 : ¬ x = nI 45) (h2 : ¬ x = nI 98) (h3 : ¬ x = nI 99) (h4 : ¬ x = nI 114) (h5 : ¬ x = nI 116) : aX d iX3_readOrder 18 (ls) (.int x :: st) σ Q ↔ aX d iX3_readOrder 246 (ls) (st) σ Q := by
  have g0 : ¬ (43 : Int) = x.toInt := fun z => h0 (Int32.toInt_inj.mp (z.symm.trans (by decide +kernel)))
  have g1 : ¬ (45 : Int) = x.toInt := fun z => h1 (Int32.toInt_inj.mp (z.symm.trans (by decide +kernel)))
  have g2 : ¬ (98 : Int) = x.toInt := fun z => h2 (Int32.toInt_inj.mp (z.symm.trans (by decide +kernel)))
  have g3 : ¬ (99 : Int) = x.toInt := fun z => h3 (Int32.toInt_inj.mp (z.symm.trans (by decide +kernel)))
  have g4 : ¬ (114 : Int) = x.toInt := fun z => h4 (Int32.toInt_inj.mp (z.symm.trans (by decide +kernel)))
  have g5 : ¬ (116 : Int) = x.toInt := fun z => h5 (Int32.toInt_inj.mp (z.symm.trans (by decide +kernel)))
  refine X_lsw kX3_readOrder_18 (by decide +kernel) ?_
  simp only [Op.lookupswitch.offset_cons, g0, g1, g2, g3, g4, g5, if_false]
  rfl
theorem kX3_readOrder_76 : aCode iX3_readOrder 76 = some (.aload_n 0, 1) := by decide +kernel
theorem sX3_readOrder_76 {d : Nat} {σ : aS} {Q : aQ} {x : Nat} {lt : aL} {st : List Value} : aX d iX3_readOrder 76 (some (.ref x) :: lt) (st) σ Q ↔ aX d iX3_readOrder 77 (some (.ref x) :: lt) (.ref x :: st) σ Q := X_aloadn kX3_readOrder_76 rfl rfl
theorem kX3_readOrder_77 : aCode iX3_readOrder 77 = some (.dup, 1) := by decide +kernel
theorem sX3_readOrder_77 {d : Nat} {σ : aS} {Q : aQ} {x : Nat} {ls : aL} {st : List Value} : aX d iX3_readOrder 77 (ls) (.ref x :: st) σ Q ↔ aX d iX3_readOrder 78 (ls) (.ref x :: .ref x :: st) σ Q := X_dup kX3_readOrder_77 rfl
theorem sX3_readOrder_77i {d : Nat} {σ : aS} {Q : aQ} {x : Int32} {ls : aL} {st : List Value} : aX d iX3_readOrder 77 (ls) (.int x :: st) σ Q ↔ aX d iX3_readOrder 78 (ls) (.int x :: .int x :: st) σ Q := X_dup kX3_readOrder_77 rfl
theorem kX3_readOrder_78 : aCode iX3_readOrder 78 = some (.getfield 36, 3) := by decide +kernel
theorem sX3_readOrder_78 {d : Nat} {σ : aS} {Q : aQ} {a : Nat} {ls : aL} {st : List Value} : aX d iX3_readOrder 78 (ls) (.ref a :: st) σ Q ↔ ∃ v, aFld σ a 3 2 = some v ∧ aX d iX3_readOrder 81 (ls) (v :: st) σ Q := X_getf (w := 205) kX3_readOrder_78 (by decide +kernel)
theorem kX3_readOrder_81 : aCode iX3_readOrder 81 = some (.iconst 1, 1) := by decide +kernel
theorem sX3_readOrder_81 {d : Nat} {σ : aS} {Q : aQ} {ls : aL} {st : List Value} : aX d iX3_readOrder 81 (ls) (st) σ Q ↔ aX d iX3_readOrder 82 (ls) (.int (nI 1) :: st) σ Q := X_iconst kX3_readOrder_81 (by decide +kernel)
theorem kX3_readOrder_82 : aCode iX3_readOrder 82 = some (.iadd, 1) := by decide +kernel
theorem sX3_readOrder_82 {d : Nat} {σ : aS} {Q : aQ} {x y : Int32} {ls : aL} {st : List Value} : aX d iX3_readOrder 82 (ls) (.int y :: .int x :: st) σ Q ↔ aX d iX3_readOrder 83 (ls) (.int (x + y) :: st) σ Q := X_iadd kX3_readOrder_82
theorem kX3_readOrder_83 : aCode iX3_readOrder 83 = some (.putfield 36, 3) := by decide +kernel
theorem sX3_readOrder_83 {d : Nat} {σ : aS} {Q : aQ} {x : Int32} {a : Nat} {ls : aL} {st : List Value} : aX d iX3_readOrder 83 (ls) (.int x :: .ref a :: st) σ Q ↔ ∃ fs, aFds σ a 3 = some fs ∧ 2 < fs.length ∧ aX d iX3_readOrder 86 (ls) (st) (aput σ a (eO 3 (fs.set 2 (.int x)))) Q := X_putf (w := 205) kX3_readOrder_83 (by decide +kernel) (aFit_I (by decide +kernel)) (by decide +kernel)
theorem kX3_readOrder_86 : aCode iX3_readOrder 86 = some (.aload_n 0, 1) := by decide +kernel
theorem sX3_readOrder_86 {d : Nat} {σ : aS} {Q : aQ} {x : Nat} {lt : aL} {st : List Value} : aX d iX3_readOrder 86 (some (.ref x) :: lt) (st) σ Q ↔ aX d iX3_readOrder 87 (some (.ref x) :: lt) (.ref x :: st) σ Q := X_aloadn kX3_readOrder_86 rfl rfl
theorem kX3_readOrder_87 : aCode iX3_readOrder 87 = some (.invokevirtual 56, 3) := by decide +kernel
theorem sX3_readOrder_87 {d : Nat} {σ : aS} {Q : aQ} {b : Nat} {ls : aL} : aX (d + 1) iX3_readOrder 87 (ls) (.ref b :: []) σ Q ↔ aIs σ b 3 ∧ aX d iX3_readSeat 0 [some (.ref b), none] [] σ (fun r τ => aX (d + 1) iX3_readOrder 90 (ls) (aret r ([])) τ Q) := X_invv (N := 0) (As := []) (w := 596) kX3_readOrder_87 (by decide +kernel) (by decide +kernel) rfl rfl (by simp only [List.length_cons, List.length_nil]; omega) (by simp only [List.length_cons, List.length_nil]; omega) (by decide +kernel) rfl (Nat.le_of_ble_eq_true rfl)
theorem kX3_readOrder_90 : aCode iX3_readOrder 90 = some (.ifCond .eq 23, 3) := by decide +kernel
theorem sX3_readOrder_90 {d : Nat} {σ : aS} {Q : aQ} {x : Int32} {ls : aL} {st : List Value} : aX d iX3_readOrder 90 (ls) (.int x :: st) σ Q ↔ (if x = nI 0 then aX d iX3_readOrder 113 (ls) (st) σ Q else aX d iX3_readOrder 93 (ls) (st) σ Q) := by rw [X_if kX3_readOrder_90 (t := 113) (by decide)]; simp only [aCmp_eq]
theorem kX3_readOrder_93 : aCode iX3_readOrder 93 = some (.aload_n 0, 1) := by decide +kernel
theorem sX3_readOrder_93 {d : Nat} {σ : aS} {Q : aQ} {x : Nat} {lt : aL} {st : List Value} : aX d iX3_readOrder 93 (some (.ref x) :: lt) (st) σ Q ↔ aX d iX3_readOrder 94 (some (.ref x) :: lt) (.ref x :: st) σ Q := X_aloadn kX3_readOrder_93 rfl rfl
theorem kX3_readOrder_94 : aCode iX3_readOrder 94 = some (.bipush 61, 2) := by decide +kernel
theorem sX3_readOrder_94 {d : Nat} {σ : aS} {Q : aQ} {ls : aL} {st : List Value} : aX d iX3_readOrder 94 (ls) (st) σ Q ↔ aX d iX3_readOrder 96 (ls) (.int (nI 61) :: st) σ Q := X_bipush kX3_readOrder_94 (by decide +kernel)
theorem kX3_readOrder_96 : aCode iX3_readOrder 96 = some (.invokevirtual 39, 3) := by decide +kernel
theorem sX3_readOrder_96 {d : Nat} {σ : aS} {Q : aQ} {b : Nat} {p0 : Int32} {ls : aL} : aX (d + 1) iX3_readOrder 96 (ls) (.int p0 :: .ref b :: []) σ Q ↔ aIs σ b 3 ∧ aX d iX3_take 0 [some (.ref b), some (.int p0)] [] σ (fun r τ => aX (d + 1) iX3_readOrder 99 (ls) (aret r ([])) τ Q) := X_invv (N := 1) (As := [.int p0]) (w := 584) kX3_readOrder_96 (by decide +kernel) (by decide +kernel) rfl rfl (by simp only [List.length_cons, List.length_nil]; omega) (by simp only [List.length_cons, List.length_nil]; omega) (by decide +kernel) rfl (Nat.le_of_ble_eq_true rfl)
theorem kX3_readOrder_99 : aCode iX3_readOrder 99 = some (.ifCond .eq 10, 3) := by decide +kernel
theorem sX3_readOrder_99 {d : Nat} {σ : aS} {Q : aQ} {x : Int32} {ls : aL} {st : List Value} : aX d iX3_readOrder 99 (ls) (.int x :: st) σ Q ↔ (if x = nI 0 then aX d iX3_readOrder 109 (ls) (st) σ Q else aX d iX3_readOrder 102 (ls) (st) σ Q) := by rw [X_if kX3_readOrder_99 (t := 109) (by decide)]; simp only [aCmp_eq]
theorem kX3_readOrder_102 : aCode iX3_readOrder 102 = some (.aload_n 0, 1) := by decide +kernel
theorem sX3_readOrder_102 {d : Nat} {σ : aS} {Q : aQ} {x : Nat} {lt : aL} {st : List Value} : aX d iX3_readOrder 102 (some (.ref x) :: lt) (st) σ Q ↔ aX d iX3_readOrder 103 (some (.ref x) :: lt) (.ref x :: st) σ Q := X_aloadn kX3_readOrder_102 rfl rfl
theorem kX3_readOrder_103 : aCode iX3_readOrder 103 = some (.invokevirtual 59, 3) := by decide +kernel
theorem sX3_readOrder_103 {d : Nat} {σ : aS} {Q : aQ} {b : Nat} {ls : aL} : aX (d + 1) iX3_readOrder 103 (ls) (.ref b :: []) σ Q ↔ aIs σ b 3 ∧ aX d iX3_readNumber 0 [some (.ref b), none, none] [] σ (fun r τ => aX (d + 1) iX3_readOrder 106 (ls) (aret r ([])) τ Q) := X_invv (N := 0) (As := []) (w := 605) kX3_readOrder_103 (by decide +kernel) (by decide +kernel) rfl rfl (by simp only [List.length_cons, List.length_nil]; omega) (by simp only [List.length_cons, List.length_nil]; omega) (by decide +kernel) rfl (Nat.le_of_ble_eq_true rfl)
theorem kX3_readOrder_106 : aCode iX3_readOrder 106 = some (.ifCond .eq 7, 3) := by decide +kernel
theorem sX3_readOrder_106 {d : Nat} {σ : aS} {Q : aQ} {x : Int32} {ls : aL} {st : List Value} : aX d iX3_readOrder 106 (ls) (.int x :: st) σ Q ↔ (if x = nI 0 then aX d iX3_readOrder 113 (ls) (st) σ Q else aX d iX3_readOrder 109 (ls) (st) σ Q) := by rw [X_if kX3_readOrder_106 (t := 113) (by decide)]; simp only [aCmp_eq]
theorem kX3_readOrder_109 : aCode iX3_readOrder 109 = some (.iconst 1, 1) := by decide +kernel
theorem sX3_readOrder_109 {d : Nat} {σ : aS} {Q : aQ} {ls : aL} {st : List Value} : aX d iX3_readOrder 109 (ls) (st) σ Q ↔ aX d iX3_readOrder 110 (ls) (.int (nI 1) :: st) σ Q := X_iconst kX3_readOrder_109 (by decide +kernel)
theorem kX3_readOrder_110 : aCode iX3_readOrder 110 = some (.goto 4, 3) := by decide +kernel
theorem sX3_readOrder_110 {d : Nat} {σ : aS} {Q : aQ} {ls : aL} {st : List Value} : aX d iX3_readOrder 110 (ls) (st) σ Q ↔ aX d iX3_readOrder 114 (ls) (st) σ Q := X_goto kX3_readOrder_110 (by decide)
theorem kX3_readOrder_113 : aCode iX3_readOrder 113 = some (.iconst 0, 1) := by decide +kernel
theorem sX3_readOrder_113 {d : Nat} {σ : aS} {Q : aQ} {ls : aL} {st : List Value} : aX d iX3_readOrder 113 (ls) (st) σ Q ↔ aX d iX3_readOrder 114 (ls) (.int (nI 0) :: st) σ Q := X_iconst kX3_readOrder_113 (by decide +kernel)
theorem kX3_readOrder_114 : aCode iX3_readOrder 114 = some (.ireturn, 1) := by decide +kernel
theorem sX3_readOrder_114 {d : Nat} {σ : aS} {Q : aQ} {v : Int32} {ls : aL} : aX d iX3_readOrder 114 (ls) ([.int v]) σ Q ↔ (narrow .boolean (.int v) = .int v ∧ Q (some (.int v)) σ) := X_zret kX3_readOrder_114 (by decide +kernel)
theorem kX3_readOrder_115 : aCode iX3_readOrder 115 = some (.aload_n 0, 1) := by decide +kernel
theorem sX3_readOrder_115 {d : Nat} {σ : aS} {Q : aQ} {x : Nat} {lt : aL} {st : List Value} : aX d iX3_readOrder 115 (some (.ref x) :: lt) (st) σ Q ↔ aX d iX3_readOrder 116 (some (.ref x) :: lt) (.ref x :: st) σ Q := X_aloadn kX3_readOrder_115 rfl rfl
theorem kX3_readOrder_116 : aCode iX3_readOrder 116 = some (.dup, 1) := by decide +kernel
theorem sX3_readOrder_116 {d : Nat} {σ : aS} {Q : aQ} {x : Nat} {ls : aL} {st : List Value} : aX d iX3_readOrder 116 (ls) (.ref x :: st) σ Q ↔ aX d iX3_readOrder 117 (ls) (.ref x :: .ref x :: st) σ Q := X_dup kX3_readOrder_116 rfl
theorem sX3_readOrder_116i {d : Nat} {σ : aS} {Q : aQ} {x : Int32} {ls : aL} {st : List Value} : aX d iX3_readOrder 116 (ls) (.int x :: st) σ Q ↔ aX d iX3_readOrder 117 (ls) (.int x :: .int x :: st) σ Q := X_dup kX3_readOrder_116 rfl
theorem kX3_readOrder_117 : aCode iX3_readOrder 117 = some (.getfield 36, 3) := by decide +kernel
theorem sX3_readOrder_117 {d : Nat} {σ : aS} {Q : aQ} {a : Nat} {ls : aL} {st : List Value} : aX d iX3_readOrder 117 (ls) (.ref a :: st) σ Q ↔ ∃ v, aFld σ a 3 2 = some v ∧ aX d iX3_readOrder 120 (ls) (v :: st) σ Q := X_getf (w := 205) kX3_readOrder_117 (by decide +kernel)
theorem kX3_readOrder_120 : aCode iX3_readOrder 120 = some (.iconst 1, 1) := by decide +kernel
theorem sX3_readOrder_120 {d : Nat} {σ : aS} {Q : aQ} {ls : aL} {st : List Value} : aX d iX3_readOrder 120 (ls) (st) σ Q ↔ aX d iX3_readOrder 121 (ls) (.int (nI 1) :: st) σ Q := X_iconst kX3_readOrder_120 (by decide +kernel)
theorem kX3_readOrder_121 : aCode iX3_readOrder 121 = some (.iadd, 1) := by decide +kernel
theorem sX3_readOrder_121 {d : Nat} {σ : aS} {Q : aQ} {x y : Int32} {ls : aL} {st : List Value} : aX d iX3_readOrder 121 (ls) (.int y :: .int x :: st) σ Q ↔ aX d iX3_readOrder 122 (ls) (.int (x + y) :: st) σ Q := X_iadd kX3_readOrder_121
theorem kX3_readOrder_122 : aCode iX3_readOrder 122 = some (.putfield 36, 3) := by decide +kernel
theorem sX3_readOrder_122 {d : Nat} {σ : aS} {Q : aQ} {x : Int32} {a : Nat} {ls : aL} {st : List Value} : aX d iX3_readOrder 122 (ls) (.int x :: .ref a :: st) σ Q ↔ ∃ fs, aFds σ a 3 = some fs ∧ 2 < fs.length ∧ aX d iX3_readOrder 125 (ls) (st) (aput σ a (eO 3 (fs.set 2 (.int x)))) Q := X_putf (w := 205) kX3_readOrder_122 (by decide +kernel) (aFit_I (by decide +kernel)) (by decide +kernel)
theorem kX3_readOrder_125 : aCode iX3_readOrder 125 = some (.aload_n 0, 1) := by decide +kernel
theorem sX3_readOrder_125 {d : Nat} {σ : aS} {Q : aQ} {x : Nat} {lt : aL} {st : List Value} : aX d iX3_readOrder 125 (some (.ref x) :: lt) (st) σ Q ↔ aX d iX3_readOrder 126 (some (.ref x) :: lt) (.ref x :: st) σ Q := X_aloadn kX3_readOrder_125 rfl rfl
theorem kX3_readOrder_126 : aCode iX3_readOrder 126 = some (.invokevirtual 56, 3) := by decide +kernel
theorem sX3_readOrder_126 {d : Nat} {σ : aS} {Q : aQ} {b : Nat} {ls : aL} : aX (d + 1) iX3_readOrder 126 (ls) (.ref b :: []) σ Q ↔ aIs σ b 3 ∧ aX d iX3_readSeat 0 [some (.ref b), none] [] σ (fun r τ => aX (d + 1) iX3_readOrder 129 (ls) (aret r ([])) τ Q) := X_invv (N := 0) (As := []) (w := 596) kX3_readOrder_126 (by decide +kernel) (by decide +kernel) rfl rfl (by simp only [List.length_cons, List.length_nil]; omega) (by simp only [List.length_cons, List.length_nil]; omega) (by decide +kernel) rfl (Nat.le_of_ble_eq_true rfl)
theorem kX3_readOrder_129 : aCode iX3_readOrder 129 = some (.ireturn, 1) := by decide +kernel
theorem sX3_readOrder_129 {d : Nat} {σ : aS} {Q : aQ} {v : Int32} {ls : aL} : aX d iX3_readOrder 129 (ls) ([.int v]) σ Q ↔ (narrow .boolean (.int v) = .int v ∧ Q (some (.int v)) σ) := X_zret kX3_readOrder_129 (by decide +kernel)
theorem kX3_readOrder_130 : aCode iX3_readOrder 130 = some (.aload_n 0, 1) := by decide +kernel
theorem sX3_readOrder_130 {d : Nat} {σ : aS} {Q : aQ} {x : Nat} {lt : aL} {st : List Value} : aX d iX3_readOrder 130 (some (.ref x) :: lt) (st) σ Q ↔ aX d iX3_readOrder 131 (some (.ref x) :: lt) (.ref x :: st) σ Q := X_aloadn kX3_readOrder_130 rfl rfl
theorem kX3_readOrder_131 : aCode iX3_readOrder 131 = some (.dup, 1) := by decide +kernel
theorem sX3_readOrder_131 {d : Nat} {σ : aS} {Q : aQ} {x : Nat} {ls : aL} {st : List Value} : aX d iX3_readOrder 131 (ls) (.ref x :: st) σ Q ↔ aX d iX3_readOrder 132 (ls) (.ref x :: .ref x :: st) σ Q := X_dup kX3_readOrder_131 rfl
theorem sX3_readOrder_131i {d : Nat} {σ : aS} {Q : aQ} {x : Int32} {ls : aL} {st : List Value} : aX d iX3_readOrder 131 (ls) (.int x :: st) σ Q ↔ aX d iX3_readOrder 132 (ls) (.int x :: .int x :: st) σ Q := X_dup kX3_readOrder_131 rfl
theorem kX3_readOrder_132 : aCode iX3_readOrder 132 = some (.getfield 36, 3) := by decide +kernel
theorem sX3_readOrder_132 {d : Nat} {σ : aS} {Q : aQ} {a : Nat} {ls : aL} {st : List Value} : aX d iX3_readOrder 132 (ls) (.ref a :: st) σ Q ↔ ∃ v, aFld σ a 3 2 = some v ∧ aX d iX3_readOrder 135 (ls) (v :: st) σ Q := X_getf (w := 205) kX3_readOrder_132 (by decide +kernel)
theorem kX3_readOrder_135 : aCode iX3_readOrder 135 = some (.iconst 1, 1) := by decide +kernel
theorem sX3_readOrder_135 {d : Nat} {σ : aS} {Q : aQ} {ls : aL} {st : List Value} : aX d iX3_readOrder 135 (ls) (st) σ Q ↔ aX d iX3_readOrder 136 (ls) (.int (nI 1) :: st) σ Q := X_iconst kX3_readOrder_135 (by decide +kernel)
theorem kX3_readOrder_136 : aCode iX3_readOrder 136 = some (.iadd, 1) := by decide +kernel
theorem sX3_readOrder_136 {d : Nat} {σ : aS} {Q : aQ} {x y : Int32} {ls : aL} {st : List Value} : aX d iX3_readOrder 136 (ls) (.int y :: .int x :: st) σ Q ↔ aX d iX3_readOrder 137 (ls) (.int (x + y) :: st) σ Q := X_iadd kX3_readOrder_136
theorem kX3_readOrder_137 : aCode iX3_readOrder 137 = some (.putfield 36, 3) := by decide +kernel
theorem sX3_readOrder_137 {d : Nat} {σ : aS} {Q : aQ} {x : Int32} {a : Nat} {ls : aL} {st : List Value} : aX d iX3_readOrder 137 (ls) (.int x :: .ref a :: st) σ Q ↔ ∃ fs, aFds σ a 3 = some fs ∧ 2 < fs.length ∧ aX d iX3_readOrder 140 (ls) (st) (aput σ a (eO 3 (fs.set 2 (.int x)))) Q := X_putf (w := 205) kX3_readOrder_137 (by decide +kernel) (aFit_I (by decide +kernel)) (by decide +kernel)
theorem kX3_readOrder_140 : aCode iX3_readOrder 140 = some (.aload_n 0, 1) := by decide +kernel
theorem sX3_readOrder_140 {d : Nat} {σ : aS} {Q : aQ} {x : Nat} {lt : aL} {st : List Value} : aX d iX3_readOrder 140 (some (.ref x) :: lt) (st) σ Q ↔ aX d iX3_readOrder 141 (some (.ref x) :: lt) (.ref x :: st) σ Q := X_aloadn kX3_readOrder_140 rfl rfl
theorem kX3_readOrder_141 : aCode iX3_readOrder 141 = some (.invokevirtual 56, 3) := by decide +kernel
theorem sX3_readOrder_141 {d : Nat} {σ : aS} {Q : aQ} {b : Nat} {ls : aL} : aX (d + 1) iX3_readOrder 141 (ls) (.ref b :: []) σ Q ↔ aIs σ b 3 ∧ aX d iX3_readSeat 0 [some (.ref b), none] [] σ (fun r τ => aX (d + 1) iX3_readOrder 144 (ls) (aret r ([])) τ Q) := X_invv (N := 0) (As := []) (w := 596) kX3_readOrder_141 (by decide +kernel) (by decide +kernel) rfl rfl (by simp only [List.length_cons, List.length_nil]; omega) (by simp only [List.length_cons, List.length_nil]; omega) (by decide +kernel) rfl (Nat.le_of_ble_eq_true rfl)
theorem kX3_readOrder_144 : aCode iX3_readOrder 144 = some (.ifCond .eq 23, 3) := by decide +kernel
theorem sX3_readOrder_144 {d : Nat} {σ : aS} {Q : aQ} {x : Int32} {ls : aL} {st : List Value} : aX d iX3_readOrder 144 (ls) (.int x :: st) σ Q ↔ (if x = nI 0 then aX d iX3_readOrder 167 (ls) (st) σ Q else aX d iX3_readOrder 147 (ls) (st) σ Q) := by rw [X_if kX3_readOrder_144 (t := 167) (by decide)]; simp only [aCmp_eq]
theorem kX3_readOrder_147 : aCode iX3_readOrder 147 = some (.aload_n 0, 1) := by decide +kernel
theorem sX3_readOrder_147 {d : Nat} {σ : aS} {Q : aQ} {x : Nat} {lt : aL} {st : List Value} : aX d iX3_readOrder 147 (some (.ref x) :: lt) (st) σ Q ↔ aX d iX3_readOrder 148 (some (.ref x) :: lt) (.ref x :: st) σ Q := X_aloadn kX3_readOrder_147 rfl rfl
theorem kX3_readOrder_148 : aCode iX3_readOrder 148 = some (.bipush 61, 2) := by decide +kernel
theorem sX3_readOrder_148 {d : Nat} {σ : aS} {Q : aQ} {ls : aL} {st : List Value} : aX d iX3_readOrder 148 (ls) (st) σ Q ↔ aX d iX3_readOrder 150 (ls) (.int (nI 61) :: st) σ Q := X_bipush kX3_readOrder_148 (by decide +kernel)
theorem kX3_readOrder_150 : aCode iX3_readOrder 150 = some (.invokevirtual 39, 3) := by decide +kernel
theorem sX3_readOrder_150 {d : Nat} {σ : aS} {Q : aQ} {b : Nat} {p0 : Int32} {ls : aL} : aX (d + 1) iX3_readOrder 150 (ls) (.int p0 :: .ref b :: []) σ Q ↔ aIs σ b 3 ∧ aX d iX3_take 0 [some (.ref b), some (.int p0)] [] σ (fun r τ => aX (d + 1) iX3_readOrder 153 (ls) (aret r ([])) τ Q) := X_invv (N := 1) (As := [.int p0]) (w := 584) kX3_readOrder_150 (by decide +kernel) (by decide +kernel) rfl rfl (by simp only [List.length_cons, List.length_nil]; omega) (by simp only [List.length_cons, List.length_nil]; omega) (by decide +kernel) rfl (Nat.le_of_ble_eq_true rfl)
theorem kX3_readOrder_153 : aCode iX3_readOrder 153 = some (.ifCond .eq 14, 3) := by decide +kernel
theorem sX3_readOrder_153 {d : Nat} {σ : aS} {Q : aQ} {x : Int32} {ls : aL} {st : List Value} : aX d iX3_readOrder 153 (ls) (.int x :: st) σ Q ↔ (if x = nI 0 then aX d iX3_readOrder 167 (ls) (st) σ Q else aX d iX3_readOrder 156 (ls) (st) σ Q) := by rw [X_if kX3_readOrder_153 (t := 167) (by decide)]; simp only [aCmp_eq]
theorem kX3_readOrder_156 : aCode iX3_readOrder 156 = some (.aload_n 0, 1) := by decide +kernel
theorem sX3_readOrder_156 {d : Nat} {σ : aS} {Q : aQ} {x : Nat} {lt : aL} {st : List Value} : aX d iX3_readOrder 156 (some (.ref x) :: lt) (st) σ Q ↔ aX d iX3_readOrder 157 (some (.ref x) :: lt) (.ref x :: st) σ Q := X_aloadn kX3_readOrder_156 rfl rfl
theorem kX3_readOrder_157 : aCode iX3_readOrder 157 = some (.invokevirtual 59, 3) := by decide +kernel
theorem sX3_readOrder_157 {d : Nat} {σ : aS} {Q : aQ} {b : Nat} {ls : aL} : aX (d + 1) iX3_readOrder 157 (ls) (.ref b :: []) σ Q ↔ aIs σ b 3 ∧ aX d iX3_readNumber 0 [some (.ref b), none, none] [] σ (fun r τ => aX (d + 1) iX3_readOrder 160 (ls) (aret r ([])) τ Q) := X_invv (N := 0) (As := []) (w := 605) kX3_readOrder_157 (by decide +kernel) (by decide +kernel) rfl rfl (by simp only [List.length_cons, List.length_nil]; omega) (by simp only [List.length_cons, List.length_nil]; omega) (by decide +kernel) rfl (Nat.le_of_ble_eq_true rfl)
theorem kX3_readOrder_160 : aCode iX3_readOrder 160 = some (.ifCond .eq 7, 3) := by decide +kernel
theorem sX3_readOrder_160 {d : Nat} {σ : aS} {Q : aQ} {x : Int32} {ls : aL} {st : List Value} : aX d iX3_readOrder 160 (ls) (.int x :: st) σ Q ↔ (if x = nI 0 then aX d iX3_readOrder 167 (ls) (st) σ Q else aX d iX3_readOrder 163 (ls) (st) σ Q) := by rw [X_if kX3_readOrder_160 (t := 167) (by decide)]; simp only [aCmp_eq]
theorem kX3_readOrder_163 : aCode iX3_readOrder 163 = some (.iconst 1, 1) := by decide +kernel
theorem sX3_readOrder_163 {d : Nat} {σ : aS} {Q : aQ} {ls : aL} {st : List Value} : aX d iX3_readOrder 163 (ls) (st) σ Q ↔ aX d iX3_readOrder 164 (ls) (.int (nI 1) :: st) σ Q := X_iconst kX3_readOrder_163 (by decide +kernel)
theorem kX3_readOrder_164 : aCode iX3_readOrder 164 = some (.goto 4, 3) := by decide +kernel
theorem sX3_readOrder_164 {d : Nat} {σ : aS} {Q : aQ} {ls : aL} {st : List Value} : aX d iX3_readOrder 164 (ls) (st) σ Q ↔ aX d iX3_readOrder 168 (ls) (st) σ Q := X_goto kX3_readOrder_164 (by decide)
theorem kX3_readOrder_167 : aCode iX3_readOrder 167 = some (.iconst 0, 1) := by decide +kernel
theorem sX3_readOrder_167 {d : Nat} {σ : aS} {Q : aQ} {ls : aL} {st : List Value} : aX d iX3_readOrder 167 (ls) (st) σ Q ↔ aX d iX3_readOrder 168 (ls) (.int (nI 0) :: st) σ Q := X_iconst kX3_readOrder_167 (by decide +kernel)
theorem kX3_readOrder_168 : aCode iX3_readOrder 168 = some (.ireturn, 1) := by decide +kernel
theorem sX3_readOrder_168 {d : Nat} {σ : aS} {Q : aQ} {v : Int32} {ls : aL} : aX d iX3_readOrder 168 (ls) ([.int v]) σ Q ↔ (narrow .boolean (.int v) = .int v ∧ Q (some (.int v)) σ) := X_zret kX3_readOrder_168 (by decide +kernel)
theorem kX3_readOrder_169 : aCode iX3_readOrder 169 = some (.aload_n 0, 1) := by decide +kernel
theorem sX3_readOrder_169 {d : Nat} {σ : aS} {Q : aQ} {x : Nat} {lt : aL} {st : List Value} : aX d iX3_readOrder 169 (some (.ref x) :: lt) (st) σ Q ↔ aX d iX3_readOrder 170 (some (.ref x) :: lt) (.ref x :: st) σ Q := X_aloadn kX3_readOrder_169 rfl rfl
theorem kX3_readOrder_170 : aCode iX3_readOrder 170 = some (.dup, 1) := by decide +kernel
theorem sX3_readOrder_170 {d : Nat} {σ : aS} {Q : aQ} {x : Nat} {ls : aL} {st : List Value} : aX d iX3_readOrder 170 (ls) (.ref x :: st) σ Q ↔ aX d iX3_readOrder 171 (ls) (.ref x :: .ref x :: st) σ Q := X_dup kX3_readOrder_170 rfl
theorem sX3_readOrder_170i {d : Nat} {σ : aS} {Q : aQ} {x : Int32} {ls : aL} {st : List Value} : aX d iX3_readOrder 170 (ls) (.int x :: st) σ Q ↔ aX d iX3_readOrder 171 (ls) (.int x :: .int x :: st) σ Q := X_dup kX3_readOrder_170 rfl
theorem kX3_readOrder_171 : aCode iX3_readOrder 171 = some (.getfield 36, 3) := by decide +kernel
theorem sX3_readOrder_171 {d : Nat} {σ : aS} {Q : aQ} {a : Nat} {ls : aL} {st : List Value} : aX d iX3_readOrder 171 (ls) (.ref a :: st) σ Q ↔ ∃ v, aFld σ a 3 2 = some v ∧ aX d iX3_readOrder 174 (ls) (v :: st) σ Q := X_getf (w := 205) kX3_readOrder_171 (by decide +kernel)
theorem kX3_readOrder_174 : aCode iX3_readOrder 174 = some (.iconst 1, 1) := by decide +kernel
theorem sX3_readOrder_174 {d : Nat} {σ : aS} {Q : aQ} {ls : aL} {st : List Value} : aX d iX3_readOrder 174 (ls) (st) σ Q ↔ aX d iX3_readOrder 175 (ls) (.int (nI 1) :: st) σ Q := X_iconst kX3_readOrder_174 (by decide +kernel)
theorem kX3_readOrder_175 : aCode iX3_readOrder 175 = some (.iadd, 1) := by decide +kernel
theorem sX3_readOrder_175 {d : Nat} {σ : aS} {Q : aQ} {x y : Int32} {ls : aL} {st : List Value} : aX d iX3_readOrder 175 (ls) (.int y :: .int x :: st) σ Q ↔ aX d iX3_readOrder 176 (ls) (.int (x + y) :: st) σ Q := X_iadd kX3_readOrder_175
theorem kX3_readOrder_176 : aCode iX3_readOrder 176 = some (.putfield 36, 3) := by decide +kernel
theorem sX3_readOrder_176 {d : Nat} {σ : aS} {Q : aQ} {x : Int32} {a : Nat} {ls : aL} {st : List Value} : aX d iX3_readOrder 176 (ls) (.int x :: .ref a :: st) σ Q ↔ ∃ fs, aFds σ a 3 = some fs ∧ 2 < fs.length ∧ aX d iX3_readOrder 179 (ls) (st) (aput σ a (eO 3 (fs.set 2 (.int x)))) Q := X_putf (w := 205) kX3_readOrder_176 (by decide +kernel) (aFit_I (by decide +kernel)) (by decide +kernel)
theorem kX3_readOrder_179 : aCode iX3_readOrder 179 = some (.aload_n 0, 1) := by decide +kernel
theorem sX3_readOrder_179 {d : Nat} {σ : aS} {Q : aQ} {x : Nat} {lt : aL} {st : List Value} : aX d iX3_readOrder 179 (some (.ref x) :: lt) (st) σ Q ↔ aX d iX3_readOrder 180 (some (.ref x) :: lt) (.ref x :: st) σ Q := X_aloadn kX3_readOrder_179 rfl rfl
theorem kX3_readOrder_180 : aCode iX3_readOrder 180 = some (.invokevirtual 62, 3) := by decide +kernel
theorem sX3_readOrder_180 {d : Nat} {σ : aS} {Q : aQ} {b : Nat} {ls : aL} : aX (d + 1) iX3_readOrder 180 (ls) (.ref b :: []) σ Q ↔ aIs σ b 3 ∧ aX d iX3_readRounds 0 [some (.ref b), none] [] σ (fun r τ => aX (d + 1) iX3_readOrder 183 (ls) (aret r ([])) τ Q) := X_invv (N := 0) (As := []) (w := 609) kX3_readOrder_180 (by decide +kernel) (by decide +kernel) rfl rfl (by simp only [List.length_cons, List.length_nil]; omega) (by simp only [List.length_cons, List.length_nil]; omega) (by decide +kernel) rfl (Nat.le_of_ble_eq_true rfl)
theorem kX3_readOrder_183 : aCode iX3_readOrder 183 = some (.iconst 1, 1) := by decide +kernel
theorem sX3_readOrder_183 {d : Nat} {σ : aS} {Q : aQ} {ls : aL} {st : List Value} : aX d iX3_readOrder 183 (ls) (st) σ Q ↔ aX d iX3_readOrder 184 (ls) (.int (nI 1) :: st) σ Q := X_iconst kX3_readOrder_183 (by decide +kernel)
theorem kX3_readOrder_184 : aCode iX3_readOrder 184 = some (.ireturn, 1) := by decide +kernel
theorem sX3_readOrder_184 {d : Nat} {σ : aS} {Q : aQ} {v : Int32} {ls : aL} : aX d iX3_readOrder 184 (ls) ([.int v]) σ Q ↔ (narrow .boolean (.int v) = .int v ∧ Q (some (.int v)) σ) := X_zret kX3_readOrder_184 (by decide +kernel)
theorem kX3_readOrder_185 : aCode iX3_readOrder 185 = some (.aload_n 0, 1) := by decide +kernel
theorem sX3_readOrder_185 {d : Nat} {σ : aS} {Q : aQ} {x : Nat} {lt : aL} {st : List Value} : aX d iX3_readOrder 185 (some (.ref x) :: lt) (st) σ Q ↔ aX d iX3_readOrder 186 (some (.ref x) :: lt) (.ref x :: st) σ Q := X_aloadn kX3_readOrder_185 rfl rfl
theorem kX3_readOrder_186 : aCode iX3_readOrder 186 = some (.dup, 1) := by decide +kernel
theorem sX3_readOrder_186 {d : Nat} {σ : aS} {Q : aQ} {x : Nat} {ls : aL} {st : List Value} : aX d iX3_readOrder 186 (ls) (.ref x :: st) σ Q ↔ aX d iX3_readOrder 187 (ls) (.ref x :: .ref x :: st) σ Q := X_dup kX3_readOrder_186 rfl
theorem sX3_readOrder_186i {d : Nat} {σ : aS} {Q : aQ} {x : Int32} {ls : aL} {st : List Value} : aX d iX3_readOrder 186 (ls) (.int x :: st) σ Q ↔ aX d iX3_readOrder 187 (ls) (.int x :: .int x :: st) σ Q := X_dup kX3_readOrder_186 rfl
theorem kX3_readOrder_187 : aCode iX3_readOrder 187 = some (.getfield 36, 3) := by decide +kernel
theorem sX3_readOrder_187 {d : Nat} {σ : aS} {Q : aQ} {a : Nat} {ls : aL} {st : List Value} : aX d iX3_readOrder 187 (ls) (.ref a :: st) σ Q ↔ ∃ v, aFld σ a 3 2 = some v ∧ aX d iX3_readOrder 190 (ls) (v :: st) σ Q := X_getf (w := 205) kX3_readOrder_187 (by decide +kernel)
theorem kX3_readOrder_190 : aCode iX3_readOrder 190 = some (.iconst 1, 1) := by decide +kernel
theorem sX3_readOrder_190 {d : Nat} {σ : aS} {Q : aQ} {ls : aL} {st : List Value} : aX d iX3_readOrder 190 (ls) (st) σ Q ↔ aX d iX3_readOrder 191 (ls) (.int (nI 1) :: st) σ Q := X_iconst kX3_readOrder_190 (by decide +kernel)
theorem kX3_readOrder_191 : aCode iX3_readOrder 191 = some (.iadd, 1) := by decide +kernel
theorem sX3_readOrder_191 {d : Nat} {σ : aS} {Q : aQ} {x y : Int32} {ls : aL} {st : List Value} : aX d iX3_readOrder 191 (ls) (.int y :: .int x :: st) σ Q ↔ aX d iX3_readOrder 192 (ls) (.int (x + y) :: st) σ Q := X_iadd kX3_readOrder_191
theorem kX3_readOrder_192 : aCode iX3_readOrder 192 = some (.putfield 36, 3) := by decide +kernel
theorem sX3_readOrder_192 {d : Nat} {σ : aS} {Q : aQ} {x : Int32} {a : Nat} {ls : aL} {st : List Value} : aX d iX3_readOrder 192 (ls) (.int x :: .ref a :: st) σ Q ↔ ∃ fs, aFds σ a 3 = some fs ∧ 2 < fs.length ∧ aX d iX3_readOrder 195 (ls) (st) (aput σ a (eO 3 (fs.set 2 (.int x)))) Q := X_putf (w := 205) kX3_readOrder_192 (by decide +kernel) (aFit_I (by decide +kernel)) (by decide +kernel)
theorem kX3_readOrder_195 : aCode iX3_readOrder 195 = some (.aload_n 0, 1) := by decide +kernel
theorem sX3_readOrder_195 {d : Nat} {σ : aS} {Q : aQ} {x : Nat} {lt : aL} {st : List Value} : aX d iX3_readOrder 195 (some (.ref x) :: lt) (st) σ Q ↔ aX d iX3_readOrder 196 (some (.ref x) :: lt) (.ref x :: st) σ Q := X_aloadn kX3_readOrder_195 rfl rfl
theorem kX3_readOrder_196 : aCode iX3_readOrder 196 = some (.invokevirtual 59, 3) := by decide +kernel
theorem sX3_readOrder_196 {d : Nat} {σ : aS} {Q : aQ} {b : Nat} {ls : aL} : aX (d + 1) iX3_readOrder 196 (ls) (.ref b :: []) σ Q ↔ aIs σ b 3 ∧ aX d iX3_readNumber 0 [some (.ref b), none, none] [] σ (fun r τ => aX (d + 1) iX3_readOrder 199 (ls) (aret r ([])) τ Q) := X_invv (N := 0) (As := []) (w := 605) kX3_readOrder_196 (by decide +kernel) (by decide +kernel) rfl rfl (by simp only [List.length_cons, List.length_nil]; omega) (by simp only [List.length_cons, List.length_nil]; omega) (by decide +kernel) rfl (Nat.le_of_ble_eq_true rfl)
theorem kX3_readOrder_199 : aCode iX3_readOrder 199 = some (.ifCond .ne 5, 3) := by decide +kernel
theorem sX3_readOrder_199 {d : Nat} {σ : aS} {Q : aQ} {x : Int32} {ls : aL} {st : List Value} : aX d iX3_readOrder 199 (ls) (.int x :: st) σ Q ↔ (if ¬ x = nI 0 then aX d iX3_readOrder 204 (ls) (st) σ Q else aX d iX3_readOrder 202 (ls) (st) σ Q) := by rw [X_if kX3_readOrder_199 (t := 204) (by decide)]; simp only [aCmp_ne]
theorem kX3_readOrder_202 : aCode iX3_readOrder 202 = some (.iconst 0, 1) := by decide +kernel
theorem sX3_readOrder_202 {d : Nat} {σ : aS} {Q : aQ} {ls : aL} {st : List Value} : aX d iX3_readOrder 202 (ls) (st) σ Q ↔ aX d iX3_readOrder 203 (ls) (.int (nI 0) :: st) σ Q := X_iconst kX3_readOrder_202 (by decide +kernel)
theorem kX3_readOrder_203 : aCode iX3_readOrder 203 = some (.ireturn, 1) := by decide +kernel
theorem sX3_readOrder_203 {d : Nat} {σ : aS} {Q : aQ} {v : Int32} {ls : aL} : aX d iX3_readOrder 203 (ls) ([.int v]) σ Q ↔ (narrow .boolean (.int v) = .int v ∧ Q (some (.int v)) σ) := X_zret kX3_readOrder_203 (by decide +kernel)
theorem kX3_readOrder_204 : aCode iX3_readOrder 204 = some (.aload_n 0, 1) := by decide +kernel
theorem sX3_readOrder_204 {d : Nat} {σ : aS} {Q : aQ} {x : Nat} {lt : aL} {st : List Value} : aX d iX3_readOrder 204 (some (.ref x) :: lt) (st) σ Q ↔ aX d iX3_readOrder 205 (some (.ref x) :: lt) (.ref x :: st) σ Q := X_aloadn kX3_readOrder_204 rfl rfl
theorem kX3_readOrder_205 : aCode iX3_readOrder 205 = some (.aload_n 0, 1) := by decide +kernel
theorem sX3_readOrder_205 {d : Nat} {σ : aS} {Q : aQ} {x : Nat} {lt : aL} {st : List Value} : aX d iX3_readOrder 205 (some (.ref x) :: lt) (st) σ Q ↔ aX d iX3_readOrder 206 (some (.ref x) :: lt) (.ref x :: st) σ Q := X_aloadn kX3_readOrder_205 rfl rfl
theorem kX3_readOrder_206 : aCode iX3_readOrder 206 = some (.getfield 53, 3) := by decide +kernel
theorem sX3_readOrder_206 {d : Nat} {σ : aS} {Q : aQ} {a : Nat} {ls : aL} {st : List Value} : aX d iX3_readOrder 206 (ls) (.ref a :: st) σ Q ↔ ∃ v, aFld σ a 3 5 = some v ∧ aX d iX3_readOrder 209 (ls) (v :: st) σ Q := X_getf (w := 210) kX3_readOrder_206 (by decide +kernel)
theorem kX3_readOrder_209 : aCode iX3_readOrder 209 = some (.putfield 65, 3) := by decide +kernel
theorem sX3_readOrder_209 {d : Nat} {σ : aS} {Q : aQ} {x : Int32} {a : Nat} {ls : aL} {st : List Value} : aX d iX3_readOrder 209 (ls) (.int x :: .ref a :: st) σ Q ↔ ∃ fs, aFds σ a 3 = some fs ∧ 4 < fs.length ∧ aX d iX3_readOrder 212 (ls) (st) (aput σ a (eO 3 (fs.set 4 (.int x)))) Q := X_putf (w := 208) kX3_readOrder_209 (by decide +kernel) (aFit_I (by decide +kernel)) (by decide +kernel)
theorem kX3_readOrder_212 : aCode iX3_readOrder 212 = some (.aload_n 0, 1) := by decide +kernel
theorem sX3_readOrder_212 {d : Nat} {σ : aS} {Q : aQ} {x : Nat} {lt : aL} {st : List Value} : aX d iX3_readOrder 212 (some (.ref x) :: lt) (st) σ Q ↔ aX d iX3_readOrder 213 (some (.ref x) :: lt) (.ref x :: st) σ Q := X_aloadn kX3_readOrder_212 rfl rfl
theorem kX3_readOrder_213 : aCode iX3_readOrder 213 = some (.bipush 61, 2) := by decide +kernel
theorem sX3_readOrder_213 {d : Nat} {σ : aS} {Q : aQ} {ls : aL} {st : List Value} : aX d iX3_readOrder 213 (ls) (st) σ Q ↔ aX d iX3_readOrder 215 (ls) (.int (nI 61) :: st) σ Q := X_bipush kX3_readOrder_213 (by decide +kernel)
theorem kX3_readOrder_215 : aCode iX3_readOrder 215 = some (.invokevirtual 39, 3) := by decide +kernel
theorem sX3_readOrder_215 {d : Nat} {σ : aS} {Q : aQ} {b : Nat} {p0 : Int32} {ls : aL} : aX (d + 1) iX3_readOrder 215 (ls) (.int p0 :: .ref b :: []) σ Q ↔ aIs σ b 3 ∧ aX d iX3_take 0 [some (.ref b), some (.int p0)] [] σ (fun r τ => aX (d + 1) iX3_readOrder 218 (ls) (aret r ([])) τ Q) := X_invv (N := 1) (As := [.int p0]) (w := 584) kX3_readOrder_215 (by decide +kernel) (by decide +kernel) rfl rfl (by simp only [List.length_cons, List.length_nil]; omega) (by simp only [List.length_cons, List.length_nil]; omega) (by decide +kernel) rfl (Nat.le_of_ble_eq_true rfl)
theorem kX3_readOrder_218 : aCode iX3_readOrder 218 = some (.ifCond .eq 14, 3) := by decide +kernel
theorem sX3_readOrder_218 {d : Nat} {σ : aS} {Q : aQ} {x : Int32} {ls : aL} {st : List Value} : aX d iX3_readOrder 218 (ls) (.int x :: st) σ Q ↔ (if x = nI 0 then aX d iX3_readOrder 232 (ls) (st) σ Q else aX d iX3_readOrder 221 (ls) (st) σ Q) := by rw [X_if kX3_readOrder_218 (t := 232) (by decide)]; simp only [aCmp_eq]
theorem kX3_readOrder_221 : aCode iX3_readOrder 221 = some (.aload_n 0, 1) := by decide +kernel
theorem sX3_readOrder_221 {d : Nat} {σ : aS} {Q : aQ} {x : Nat} {lt : aL} {st : List Value} : aX d iX3_readOrder 221 (some (.ref x) :: lt) (st) σ Q ↔ aX d iX3_readOrder 222 (some (.ref x) :: lt) (.ref x :: st) σ Q := X_aloadn kX3_readOrder_221 rfl rfl
theorem kX3_readOrder_222 : aCode iX3_readOrder 222 = some (.invokevirtual 59, 3) := by decide +kernel
theorem sX3_readOrder_222 {d : Nat} {σ : aS} {Q : aQ} {b : Nat} {ls : aL} : aX (d + 1) iX3_readOrder 222 (ls) (.ref b :: []) σ Q ↔ aIs σ b 3 ∧ aX d iX3_readNumber 0 [some (.ref b), none, none] [] σ (fun r τ => aX (d + 1) iX3_readOrder 225 (ls) (aret r ([])) τ Q) := X_invv (N := 0) (As := []) (w := 605) kX3_readOrder_222 (by decide +kernel) (by decide +kernel) rfl rfl (by simp only [List.length_cons, List.length_nil]; omega) (by simp only [List.length_cons, List.length_nil]; omega) (by decide +kernel) rfl (Nat.le_of_ble_eq_true rfl)
theorem kX3_readOrder_225 : aCode iX3_readOrder 225 = some (.ifCond .eq 7, 3) := by decide +kernel
theorem sX3_readOrder_225 {d : Nat} {σ : aS} {Q : aQ} {x : Int32} {ls : aL} {st : List Value} : aX d iX3_readOrder 225 (ls) (.int x :: st) σ Q ↔ (if x = nI 0 then aX d iX3_readOrder 232 (ls) (st) σ Q else aX d iX3_readOrder 228 (ls) (st) σ Q) := by rw [X_if kX3_readOrder_225 (t := 232) (by decide)]; simp only [aCmp_eq]
theorem kX3_readOrder_228 : aCode iX3_readOrder 228 = some (.iconst 1, 1) := by decide +kernel
theorem sX3_readOrder_228 {d : Nat} {σ : aS} {Q : aQ} {ls : aL} {st : List Value} : aX d iX3_readOrder 228 (ls) (st) σ Q ↔ aX d iX3_readOrder 229 (ls) (.int (nI 1) :: st) σ Q := X_iconst kX3_readOrder_228 (by decide +kernel)
theorem kX3_readOrder_229 : aCode iX3_readOrder 229 = some (.goto 4, 3) := by decide +kernel
theorem sX3_readOrder_229 {d : Nat} {σ : aS} {Q : aQ} {ls : aL} {st : List Value} : aX d iX3_readOrder 229 (ls) (st) σ Q ↔ aX d iX3_readOrder 233 (ls) (st) σ Q := X_goto kX3_readOrder_229 (by decide)
theorem kX3_readOrder_232 : aCode iX3_readOrder 232 = some (.iconst 0, 1) := by decide +kernel
theorem sX3_readOrder_232 {d : Nat} {σ : aS} {Q : aQ} {ls : aL} {st : List Value} : aX d iX3_readOrder 232 (ls) (st) σ Q ↔ aX d iX3_readOrder 233 (ls) (.int (nI 0) :: st) σ Q := X_iconst kX3_readOrder_232 (by decide +kernel)
theorem kX3_readOrder_233 : aCode iX3_readOrder 233 = some (.ireturn, 1) := by decide +kernel
theorem sX3_readOrder_233 {d : Nat} {σ : aS} {Q : aQ} {v : Int32} {ls : aL} : aX d iX3_readOrder 233 (ls) ([.int v]) σ Q ↔ (narrow .boolean (.int v) = .int v ∧ Q (some (.int v)) σ) := X_zret kX3_readOrder_233 (by decide +kernel)
theorem kX3_readOrder_234 : aCode iX3_readOrder 234 = some (.aload_n 0, 1) := by decide +kernel
theorem sX3_readOrder_234 {d : Nat} {σ : aS} {Q : aQ} {x : Nat} {lt : aL} {st : List Value} : aX d iX3_readOrder 234 (some (.ref x) :: lt) (st) σ Q ↔ aX d iX3_readOrder 235 (some (.ref x) :: lt) (.ref x :: st) σ Q := X_aloadn kX3_readOrder_234 rfl rfl
theorem kX3_readOrder_235 : aCode iX3_readOrder 235 = some (.dup, 1) := by decide +kernel
theorem sX3_readOrder_235 {d : Nat} {σ : aS} {Q : aQ} {x : Nat} {ls : aL} {st : List Value} : aX d iX3_readOrder 235 (ls) (.ref x :: st) σ Q ↔ aX d iX3_readOrder 236 (ls) (.ref x :: .ref x :: st) σ Q := X_dup kX3_readOrder_235 rfl
theorem sX3_readOrder_235i {d : Nat} {σ : aS} {Q : aQ} {x : Int32} {ls : aL} {st : List Value} : aX d iX3_readOrder 235 (ls) (.int x :: st) σ Q ↔ aX d iX3_readOrder 236 (ls) (.int x :: .int x :: st) σ Q := X_dup kX3_readOrder_235 rfl
theorem kX3_readOrder_236 : aCode iX3_readOrder 236 = some (.getfield 36, 3) := by decide +kernel
theorem sX3_readOrder_236 {d : Nat} {σ : aS} {Q : aQ} {a : Nat} {ls : aL} {st : List Value} : aX d iX3_readOrder 236 (ls) (.ref a :: st) σ Q ↔ ∃ v, aFld σ a 3 2 = some v ∧ aX d iX3_readOrder 239 (ls) (v :: st) σ Q := X_getf (w := 205) kX3_readOrder_236 (by decide +kernel)
theorem kX3_readOrder_239 : aCode iX3_readOrder 239 = some (.iconst 1, 1) := by decide +kernel
theorem sX3_readOrder_239 {d : Nat} {σ : aS} {Q : aQ} {ls : aL} {st : List Value} : aX d iX3_readOrder 239 (ls) (st) σ Q ↔ aX d iX3_readOrder 240 (ls) (.int (nI 1) :: st) σ Q := X_iconst kX3_readOrder_239 (by decide +kernel)
theorem kX3_readOrder_240 : aCode iX3_readOrder 240 = some (.iadd, 1) := by decide +kernel
theorem sX3_readOrder_240 {d : Nat} {σ : aS} {Q : aQ} {x y : Int32} {ls : aL} {st : List Value} : aX d iX3_readOrder 240 (ls) (.int y :: .int x :: st) σ Q ↔ aX d iX3_readOrder 241 (ls) (.int (x + y) :: st) σ Q := X_iadd kX3_readOrder_240
theorem kX3_readOrder_241 : aCode iX3_readOrder 241 = some (.putfield 36, 3) := by decide +kernel
theorem sX3_readOrder_241 {d : Nat} {σ : aS} {Q : aQ} {x : Int32} {a : Nat} {ls : aL} {st : List Value} : aX d iX3_readOrder 241 (ls) (.int x :: .ref a :: st) σ Q ↔ ∃ fs, aFds σ a 3 = some fs ∧ 2 < fs.length ∧ aX d iX3_readOrder 244 (ls) (st) (aput σ a (eO 3 (fs.set 2 (.int x)))) Q := X_putf (w := 205) kX3_readOrder_241 (by decide +kernel) (aFit_I (by decide +kernel)) (by decide +kernel)
theorem kX3_readOrder_244 : aCode iX3_readOrder 244 = some (.iconst 1, 1) := by decide +kernel
theorem sX3_readOrder_244 {d : Nat} {σ : aS} {Q : aQ} {ls : aL} {st : List Value} : aX d iX3_readOrder 244 (ls) (st) σ Q ↔ aX d iX3_readOrder 245 (ls) (.int (nI 1) :: st) σ Q := X_iconst kX3_readOrder_244 (by decide +kernel)
theorem kX3_readOrder_245 : aCode iX3_readOrder 245 = some (.ireturn, 1) := by decide +kernel
theorem sX3_readOrder_245 {d : Nat} {σ : aS} {Q : aQ} {v : Int32} {ls : aL} : aX d iX3_readOrder 245 (ls) ([.int v]) σ Q ↔ (narrow .boolean (.int v) = .int v ∧ Q (some (.int v)) σ) := X_zret kX3_readOrder_245 (by decide +kernel)
theorem kX3_readOrder_246 : aCode iX3_readOrder 246 = some (.iconst 0, 1) := by decide +kernel
theorem sX3_readOrder_246 {d : Nat} {σ : aS} {Q : aQ} {ls : aL} {st : List Value} : aX d iX3_readOrder 246 (ls) (st) σ Q ↔ aX d iX3_readOrder 247 (ls) (.int (nI 0) :: st) σ Q := X_iconst kX3_readOrder_246 (by decide +kernel)
theorem kX3_readOrder_247 : aCode iX3_readOrder 247 = some (.ireturn, 1) := by decide +kernel
theorem sX3_readOrder_247 {d : Nat} {σ : aS} {Q : aQ} {v : Int32} {ls : aL} : aX d iX3_readOrder 247 (ls) ([.int v]) σ Q ↔ (narrow .boolean (.int v) = .int v ∧ Q (some (.int v)) σ) := X_zret kX3_readOrder_247 (by decide +kernel)
theorem kX3_readSeat_0 : aCode iX3_readSeat 0 = some (.aload_n 0, 1) := by decide +kernel
theorem sX3_readSeat_0 {d : Nat} {σ : aS} {Q : aQ} {x : Nat} {lt : aL} {st : List Value} : aX d iX3_readSeat 0 (some (.ref x) :: lt) (st) σ Q ↔ aX d iX3_readSeat 1 (some (.ref x) :: lt) (.ref x :: st) σ Q := X_aloadn kX3_readSeat_0 rfl rfl
theorem kX3_readSeat_1 : aCode iX3_readSeat 1 = some (.invokevirtual 68, 3) := by decide +kernel
theorem sX3_readSeat_1 {d : Nat} {σ : aS} {Q : aQ} {b : Nat} {ls : aL} : aX (d + 1) iX3_readSeat 1 (ls) (.ref b :: []) σ Q ↔ aIs σ b 3 ∧ aX d iX3_digitHere 0 [some (.ref b), none] [] σ (fun r τ => aX (d + 1) iX3_readSeat 4 (ls) (aret r ([])) τ Q) := X_invv (N := 0) (As := []) (w := 600) kX3_readSeat_1 (by decide +kernel) (by decide +kernel) rfl rfl (by simp only [List.length_cons, List.length_nil]; omega) (by simp only [List.length_cons, List.length_nil]; omega) (by decide +kernel) rfl (Nat.le_of_ble_eq_true rfl)
theorem kX3_readSeat_4 : aCode iX3_readSeat 4 = some (.istore_n 1, 1) := by decide +kernel
theorem sX3_readSeat_4 {d : Nat} {σ : aS} {Q : aQ} {l0 lo : Option Value} {x : Int32} {lt : aL} {st : List Value} : aX d iX3_readSeat 4 (l0 :: lo :: lt) (.int x :: st) σ Q ↔ aX d iX3_readSeat 5 (aclr l0 :: some (.int x) :: lt) (st) σ Q := X_istoren kX3_readSeat_4 (by simp only [List.length_cons]; omega)
theorem kX3_readSeat_5 : aCode iX3_readSeat 5 = some (.iload_n 1, 1) := by decide +kernel
theorem sX3_readSeat_5 {d : Nat} {σ : aS} {Q : aQ} {l0 : Option Value} {x : Int32} {lt : aL} {st : List Value} : aX d iX3_readSeat 5 (l0 :: some (.int x) :: lt) (st) σ Q ↔ aX d iX3_readSeat 6 (l0 :: some (.int x) :: lt) (.int x :: st) σ Q := X_iloadn kX3_readSeat_5 rfl
theorem kX3_readSeat_6 : aCode iX3_readSeat 6 = some (.bipush 8, 2) := by decide +kernel
theorem sX3_readSeat_6 {d : Nat} {σ : aS} {Q : aQ} {ls : aL} {st : List Value} : aX d iX3_readSeat 6 (ls) (st) σ Q ↔ aX d iX3_readSeat 8 (ls) (.int (nI 8) :: st) σ Q := X_bipush kX3_readSeat_6 (by decide +kernel)
theorem kX3_readSeat_8 : aCode iX3_readSeat 8 = some (.invokestatic 71, 3) := by decide +kernel
theorem sX3_readSeat_8 {d : Nat} {σ : aS} {Q : aQ} {p0 : Int32} {p1 : Int32} {ls : aL} : aX (d + 1) iX3_readSeat 8 (ls) (.int p1 :: .int p0 :: []) σ Q ↔ aX d iX6_isBelow 0 [some (.int p0), some (.int p1)] [] σ (fun r τ => aX (d + 1) iX3_readSeat 11 (ls) (aret r ([])) τ Q) := X_invs (N := 2) (As := [.int p1, .int p0]) (k := 4) (w := 604) kX3_readSeat_8 (by decide +kernel) (by decide) (by decide +kernel) rfl rfl (by simp only [List.length_cons, List.length_nil]; omega) (by simp only [List.length_cons, List.length_nil]; omega) rfl (Nat.le_of_ble_eq_true rfl)
theorem kX3_readSeat_11 : aCode iX3_readSeat 11 = some (.ifCond .ne 5, 3) := by decide +kernel
theorem sX3_readSeat_11 {d : Nat} {σ : aS} {Q : aQ} {x : Int32} {ls : aL} {st : List Value} : aX d iX3_readSeat 11 (ls) (.int x :: st) σ Q ↔ (if ¬ x = nI 0 then aX d iX3_readSeat 16 (ls) (st) σ Q else aX d iX3_readSeat 14 (ls) (st) σ Q) := by rw [X_if kX3_readSeat_11 (t := 16) (by decide)]; simp only [aCmp_ne]
theorem kX3_readSeat_14 : aCode iX3_readSeat 14 = some (.iconst 0, 1) := by decide +kernel
theorem sX3_readSeat_14 {d : Nat} {σ : aS} {Q : aQ} {ls : aL} {st : List Value} : aX d iX3_readSeat 14 (ls) (st) σ Q ↔ aX d iX3_readSeat 15 (ls) (.int (nI 0) :: st) σ Q := X_iconst kX3_readSeat_14 (by decide +kernel)
theorem kX3_readSeat_15 : aCode iX3_readSeat 15 = some (.ireturn, 1) := by decide +kernel
theorem sX3_readSeat_15 {d : Nat} {σ : aS} {Q : aQ} {v : Int32} {ls : aL} : aX d iX3_readSeat 15 (ls) ([.int v]) σ Q ↔ (narrow .boolean (.int v) = .int v ∧ Q (some (.int v)) σ) := X_zret kX3_readSeat_15 (by decide +kernel)
theorem kX3_readSeat_16 : aCode iX3_readSeat 16 = some (.aload_n 0, 1) := by decide +kernel
theorem sX3_readSeat_16 {d : Nat} {σ : aS} {Q : aQ} {x : Nat} {lt : aL} {st : List Value} : aX d iX3_readSeat 16 (some (.ref x) :: lt) (st) σ Q ↔ aX d iX3_readSeat 17 (some (.ref x) :: lt) (.ref x :: st) σ Q := X_aloadn kX3_readSeat_16 rfl rfl
theorem kX3_readSeat_17 : aCode iX3_readSeat 17 = some (.iload_n 1, 1) := by decide +kernel
theorem sX3_readSeat_17 {d : Nat} {σ : aS} {Q : aQ} {l0 : Option Value} {x : Int32} {lt : aL} {st : List Value} : aX d iX3_readSeat 17 (l0 :: some (.int x) :: lt) (st) σ Q ↔ aX d iX3_readSeat 18 (l0 :: some (.int x) :: lt) (.int x :: st) σ Q := X_iloadn kX3_readSeat_17 rfl
theorem kX3_readSeat_18 : aCode iX3_readSeat 18 = some (.putfield 65, 3) := by decide +kernel
theorem sX3_readSeat_18 {d : Nat} {σ : aS} {Q : aQ} {x : Int32} {a : Nat} {ls : aL} {st : List Value} : aX d iX3_readSeat 18 (ls) (.int x :: .ref a :: st) σ Q ↔ ∃ fs, aFds σ a 3 = some fs ∧ 4 < fs.length ∧ aX d iX3_readSeat 21 (ls) (st) (aput σ a (eO 3 (fs.set 4 (.int x)))) Q := X_putf (w := 208) kX3_readSeat_18 (by decide +kernel) (aFit_I (by decide +kernel)) (by decide +kernel)
theorem kX3_readSeat_21 : aCode iX3_readSeat 21 = some (.aload_n 0, 1) := by decide +kernel
theorem sX3_readSeat_21 {d : Nat} {σ : aS} {Q : aQ} {x : Nat} {lt : aL} {st : List Value} : aX d iX3_readSeat 21 (some (.ref x) :: lt) (st) σ Q ↔ aX d iX3_readSeat 22 (some (.ref x) :: lt) (.ref x :: st) σ Q := X_aloadn kX3_readSeat_21 rfl rfl
theorem kX3_readSeat_22 : aCode iX3_readSeat 22 = some (.dup, 1) := by decide +kernel
theorem sX3_readSeat_22 {d : Nat} {σ : aS} {Q : aQ} {x : Nat} {ls : aL} {st : List Value} : aX d iX3_readSeat 22 (ls) (.ref x :: st) σ Q ↔ aX d iX3_readSeat 23 (ls) (.ref x :: .ref x :: st) σ Q := X_dup kX3_readSeat_22 rfl
theorem sX3_readSeat_22i {d : Nat} {σ : aS} {Q : aQ} {x : Int32} {ls : aL} {st : List Value} : aX d iX3_readSeat 22 (ls) (.int x :: st) σ Q ↔ aX d iX3_readSeat 23 (ls) (.int x :: .int x :: st) σ Q := X_dup kX3_readSeat_22 rfl
theorem kX3_readSeat_23 : aCode iX3_readSeat 23 = some (.getfield 36, 3) := by decide +kernel
theorem sX3_readSeat_23 {d : Nat} {σ : aS} {Q : aQ} {a : Nat} {ls : aL} {st : List Value} : aX d iX3_readSeat 23 (ls) (.ref a :: st) σ Q ↔ ∃ v, aFld σ a 3 2 = some v ∧ aX d iX3_readSeat 26 (ls) (v :: st) σ Q := X_getf (w := 205) kX3_readSeat_23 (by decide +kernel)
theorem kX3_readSeat_26 : aCode iX3_readSeat 26 = some (.iconst 1, 1) := by decide +kernel
theorem sX3_readSeat_26 {d : Nat} {σ : aS} {Q : aQ} {ls : aL} {st : List Value} : aX d iX3_readSeat 26 (ls) (st) σ Q ↔ aX d iX3_readSeat 27 (ls) (.int (nI 1) :: st) σ Q := X_iconst kX3_readSeat_26 (by decide +kernel)
theorem kX3_readSeat_27 : aCode iX3_readSeat 27 = some (.iadd, 1) := by decide +kernel
theorem sX3_readSeat_27 {d : Nat} {σ : aS} {Q : aQ} {x y : Int32} {ls : aL} {st : List Value} : aX d iX3_readSeat 27 (ls) (.int y :: .int x :: st) σ Q ↔ aX d iX3_readSeat 28 (ls) (.int (x + y) :: st) σ Q := X_iadd kX3_readSeat_27
theorem kX3_readSeat_28 : aCode iX3_readSeat 28 = some (.putfield 36, 3) := by decide +kernel
theorem sX3_readSeat_28 {d : Nat} {σ : aS} {Q : aQ} {x : Int32} {a : Nat} {ls : aL} {st : List Value} : aX d iX3_readSeat 28 (ls) (.int x :: .ref a :: st) σ Q ↔ ∃ fs, aFds σ a 3 = some fs ∧ 2 < fs.length ∧ aX d iX3_readSeat 31 (ls) (st) (aput σ a (eO 3 (fs.set 2 (.int x)))) Q := X_putf (w := 205) kX3_readSeat_28 (by decide +kernel) (aFit_I (by decide +kernel)) (by decide +kernel)
theorem kX3_readSeat_31 : aCode iX3_readSeat 31 = some (.iconst 1, 1) := by decide +kernel
theorem sX3_readSeat_31 {d : Nat} {σ : aS} {Q : aQ} {ls : aL} {st : List Value} : aX d iX3_readSeat 31 (ls) (st) σ Q ↔ aX d iX3_readSeat 32 (ls) (.int (nI 1) :: st) σ Q := X_iconst kX3_readSeat_31 (by decide +kernel)
theorem kX3_readSeat_32 : aCode iX3_readSeat 32 = some (.ireturn, 1) := by decide +kernel
theorem sX3_readSeat_32 {d : Nat} {σ : aS} {Q : aQ} {v : Int32} {ls : aL} : aX d iX3_readSeat 32 (ls) ([.int v]) σ Q ↔ (narrow .boolean (.int v) = .int v ∧ Q (some (.int v)) σ) := X_zret kX3_readSeat_32 (by decide +kernel)
theorem kX3_readRounds_0 : aCode iX3_readRounds 0 = some (.aload_n 0, 1) := by decide +kernel
theorem sX3_readRounds_0 {d : Nat} {σ : aS} {Q : aQ} {x : Nat} {lt : aL} {st : List Value} : aX d iX3_readRounds 0 (some (.ref x) :: lt) (st) σ Q ↔ aX d iX3_readRounds 1 (some (.ref x) :: lt) (.ref x :: st) σ Q := X_aloadn kX3_readRounds_0 rfl rfl
theorem kX3_readRounds_1 : aCode iX3_readRounds 1 = some (.invokevirtual 68, 3) := by decide +kernel
theorem sX3_readRounds_1 {d : Nat} {σ : aS} {Q : aQ} {b : Nat} {ls : aL} : aX (d + 1) iX3_readRounds 1 (ls) (.ref b :: []) σ Q ↔ aIs σ b 3 ∧ aX d iX3_digitHere 0 [some (.ref b), none] [] σ (fun r τ => aX (d + 1) iX3_readRounds 4 (ls) (aret r ([])) τ Q) := X_invv (N := 0) (As := []) (w := 600) kX3_readRounds_1 (by decide +kernel) (by decide +kernel) rfl rfl (by simp only [List.length_cons, List.length_nil]; omega) (by simp only [List.length_cons, List.length_nil]; omega) (by decide +kernel) rfl (Nat.le_of_ble_eq_true rfl)
theorem kX3_readRounds_4 : aCode iX3_readRounds 4 = some (.istore_n 1, 1) := by decide +kernel
theorem sX3_readRounds_4 {d : Nat} {σ : aS} {Q : aQ} {l0 lo : Option Value} {x : Int32} {lt : aL} {st : List Value} : aX d iX3_readRounds 4 (l0 :: lo :: lt) (.int x :: st) σ Q ↔ aX d iX3_readRounds 5 (aclr l0 :: some (.int x) :: lt) (st) σ Q := X_istoren kX3_readRounds_4 (by simp only [List.length_cons]; omega)
theorem kX3_readRounds_5 : aCode iX3_readRounds 5 = some (.aload_n 0, 1) := by decide +kernel
theorem sX3_readRounds_5 {d : Nat} {σ : aS} {Q : aQ} {x : Nat} {lt : aL} {st : List Value} : aX d iX3_readRounds 5 (some (.ref x) :: lt) (st) σ Q ↔ aX d iX3_readRounds 6 (some (.ref x) :: lt) (.ref x :: st) σ Q := X_aloadn kX3_readRounds_5 rfl rfl
theorem kX3_readRounds_6 : aCode iX3_readRounds 6 = some (.iconst 1, 1) := by decide +kernel
theorem sX3_readRounds_6 {d : Nat} {σ : aS} {Q : aQ} {ls : aL} {st : List Value} : aX d iX3_readRounds 6 (ls) (st) σ Q ↔ aX d iX3_readRounds 7 (ls) (.int (nI 1) :: st) σ Q := X_iconst kX3_readRounds_6 (by decide +kernel)
theorem kX3_readRounds_7 : aCode iX3_readRounds 7 = some (.putfield 65, 3) := by decide +kernel
theorem sX3_readRounds_7 {d : Nat} {σ : aS} {Q : aQ} {x : Int32} {a : Nat} {ls : aL} {st : List Value} : aX d iX3_readRounds 7 (ls) (.int x :: .ref a :: st) σ Q ↔ ∃ fs, aFds σ a 3 = some fs ∧ 4 < fs.length ∧ aX d iX3_readRounds 10 (ls) (st) (aput σ a (eO 3 (fs.set 4 (.int x)))) Q := X_putf (w := 208) kX3_readRounds_7 (by decide +kernel) (aFit_I (by decide +kernel)) (by decide +kernel)
theorem kX3_readRounds_10 : aCode iX3_readRounds 10 = some (.iload_n 1, 1) := by decide +kernel
theorem sX3_readRounds_10 {d : Nat} {σ : aS} {Q : aQ} {l0 : Option Value} {x : Int32} {lt : aL} {st : List Value} : aX d iX3_readRounds 10 (l0 :: some (.int x) :: lt) (st) σ Q ↔ aX d iX3_readRounds 11 (l0 :: some (.int x) :: lt) (.int x :: st) σ Q := X_iloadn kX3_readRounds_10 rfl
theorem kX3_readRounds_11 : aCode iX3_readRounds 11 = some (.ifCond .le 18, 3) := by decide +kernel
theorem sX3_readRounds_11 {d : Nat} {σ : aS} {Q : aQ} {x : Int32} {ls : aL} {st : List Value} : aX d iX3_readRounds 11 (ls) (.int x :: st) σ Q ↔ (if x ≤ nI 0 then aX d iX3_readRounds 29 (ls) (st) σ Q else aX d iX3_readRounds 14 (ls) (st) σ Q) := by rw [X_if kX3_readRounds_11 (t := 29) (by decide)]; simp only [aCmp_le]
theorem kX3_readRounds_14 : aCode iX3_readRounds 14 = some (.aload_n 0, 1) := by decide +kernel
theorem sX3_readRounds_14 {d : Nat} {σ : aS} {Q : aQ} {x : Nat} {lt : aL} {st : List Value} : aX d iX3_readRounds 14 (some (.ref x) :: lt) (st) σ Q ↔ aX d iX3_readRounds 15 (some (.ref x) :: lt) (.ref x :: st) σ Q := X_aloadn kX3_readRounds_14 rfl rfl
theorem kX3_readRounds_15 : aCode iX3_readRounds 15 = some (.iload_n 1, 1) := by decide +kernel
theorem sX3_readRounds_15 {d : Nat} {σ : aS} {Q : aQ} {l0 : Option Value} {x : Int32} {lt : aL} {st : List Value} : aX d iX3_readRounds 15 (l0 :: some (.int x) :: lt) (st) σ Q ↔ aX d iX3_readRounds 16 (l0 :: some (.int x) :: lt) (.int x :: st) σ Q := X_iloadn kX3_readRounds_15 rfl
theorem kX3_readRounds_16 : aCode iX3_readRounds 16 = some (.putfield 65, 3) := by decide +kernel
theorem sX3_readRounds_16 {d : Nat} {σ : aS} {Q : aQ} {x : Int32} {a : Nat} {ls : aL} {st : List Value} : aX d iX3_readRounds 16 (ls) (.int x :: .ref a :: st) σ Q ↔ ∃ fs, aFds σ a 3 = some fs ∧ 4 < fs.length ∧ aX d iX3_readRounds 19 (ls) (st) (aput σ a (eO 3 (fs.set 4 (.int x)))) Q := X_putf (w := 208) kX3_readRounds_16 (by decide +kernel) (aFit_I (by decide +kernel)) (by decide +kernel)
theorem kX3_readRounds_19 : aCode iX3_readRounds 19 = some (.aload_n 0, 1) := by decide +kernel
theorem sX3_readRounds_19 {d : Nat} {σ : aS} {Q : aQ} {x : Nat} {lt : aL} {st : List Value} : aX d iX3_readRounds 19 (some (.ref x) :: lt) (st) σ Q ↔ aX d iX3_readRounds 20 (some (.ref x) :: lt) (.ref x :: st) σ Q := X_aloadn kX3_readRounds_19 rfl rfl
theorem kX3_readRounds_20 : aCode iX3_readRounds 20 = some (.dup, 1) := by decide +kernel
theorem sX3_readRounds_20 {d : Nat} {σ : aS} {Q : aQ} {x : Nat} {ls : aL} {st : List Value} : aX d iX3_readRounds 20 (ls) (.ref x :: st) σ Q ↔ aX d iX3_readRounds 21 (ls) (.ref x :: .ref x :: st) σ Q := X_dup kX3_readRounds_20 rfl
theorem sX3_readRounds_20i {d : Nat} {σ : aS} {Q : aQ} {x : Int32} {ls : aL} {st : List Value} : aX d iX3_readRounds 20 (ls) (.int x :: st) σ Q ↔ aX d iX3_readRounds 21 (ls) (.int x :: .int x :: st) σ Q := X_dup kX3_readRounds_20 rfl
theorem kX3_readRounds_21 : aCode iX3_readRounds 21 = some (.getfield 36, 3) := by decide +kernel
theorem sX3_readRounds_21 {d : Nat} {σ : aS} {Q : aQ} {a : Nat} {ls : aL} {st : List Value} : aX d iX3_readRounds 21 (ls) (.ref a :: st) σ Q ↔ ∃ v, aFld σ a 3 2 = some v ∧ aX d iX3_readRounds 24 (ls) (v :: st) σ Q := X_getf (w := 205) kX3_readRounds_21 (by decide +kernel)
theorem kX3_readRounds_24 : aCode iX3_readRounds 24 = some (.iconst 1, 1) := by decide +kernel
theorem sX3_readRounds_24 {d : Nat} {σ : aS} {Q : aQ} {ls : aL} {st : List Value} : aX d iX3_readRounds 24 (ls) (st) σ Q ↔ aX d iX3_readRounds 25 (ls) (.int (nI 1) :: st) σ Q := X_iconst kX3_readRounds_24 (by decide +kernel)
theorem kX3_readRounds_25 : aCode iX3_readRounds 25 = some (.iadd, 1) := by decide +kernel
theorem sX3_readRounds_25 {d : Nat} {σ : aS} {Q : aQ} {x y : Int32} {ls : aL} {st : List Value} : aX d iX3_readRounds 25 (ls) (.int y :: .int x :: st) σ Q ↔ aX d iX3_readRounds 26 (ls) (.int (x + y) :: st) σ Q := X_iadd kX3_readRounds_25
theorem kX3_readRounds_26 : aCode iX3_readRounds 26 = some (.putfield 36, 3) := by decide +kernel
theorem sX3_readRounds_26 {d : Nat} {σ : aS} {Q : aQ} {x : Int32} {a : Nat} {ls : aL} {st : List Value} : aX d iX3_readRounds 26 (ls) (.int x :: .ref a :: st) σ Q ↔ ∃ fs, aFds σ a 3 = some fs ∧ 2 < fs.length ∧ aX d iX3_readRounds 29 (ls) (st) (aput σ a (eO 3 (fs.set 2 (.int x)))) Q := X_putf (w := 205) kX3_readRounds_26 (by decide +kernel) (aFit_I (by decide +kernel)) (by decide +kernel)
theorem kX3_readRounds_29 : aCode iX3_readRounds 29 = some (.return_, 1) := by decide +kernel
theorem sX3_readRounds_29 {d : Nat} {σ : aS} {Q : aQ} {ls : aL} : aX d iX3_readRounds 29 (ls) ([]) σ Q ↔ Q none σ := X_vret kX3_readRounds_29 (by decide +kernel)
theorem kX3_readNumber_0 : aCode iX3_readNumber 0 = some (.aload_n 0, 1) := by decide +kernel
theorem sX3_readNumber_0 {d : Nat} {σ : aS} {Q : aQ} {x : Nat} {lt : aL} {st : List Value} : aX d iX3_readNumber 0 (some (.ref x) :: lt) (st) σ Q ↔ aX d iX3_readNumber 1 (some (.ref x) :: lt) (.ref x :: st) σ Q := X_aloadn kX3_readNumber_0 rfl rfl
theorem kX3_readNumber_1 : aCode iX3_readNumber 1 = some (.invokevirtual 68, 3) := by decide +kernel
theorem sX3_readNumber_1 {d : Nat} {σ : aS} {Q : aQ} {b : Nat} {ls : aL} : aX (d + 1) iX3_readNumber 1 (ls) (.ref b :: []) σ Q ↔ aIs σ b 3 ∧ aX d iX3_digitHere 0 [some (.ref b), none] [] σ (fun r τ => aX (d + 1) iX3_readNumber 4 (ls) (aret r ([])) τ Q) := X_invv (N := 0) (As := []) (w := 600) kX3_readNumber_1 (by decide +kernel) (by decide +kernel) rfl rfl (by simp only [List.length_cons, List.length_nil]; omega) (by simp only [List.length_cons, List.length_nil]; omega) (by decide +kernel) rfl (Nat.le_of_ble_eq_true rfl)
theorem kX3_readNumber_4 : aCode iX3_readNumber 4 = some (.istore_n 1, 1) := by decide +kernel
theorem sX3_readNumber_4 {d : Nat} {σ : aS} {Q : aQ} {l0 lo : Option Value} {x : Int32} {lt : aL} {st : List Value} : aX d iX3_readNumber 4 (l0 :: lo :: lt) (.int x :: st) σ Q ↔ aX d iX3_readNumber 5 (aclr l0 :: some (.int x) :: lt) (st) σ Q := X_istoren kX3_readNumber_4 (by simp only [List.length_cons]; omega)
theorem kX3_readNumber_5 : aCode iX3_readNumber 5 = some (.iload_n 1, 1) := by decide +kernel
theorem sX3_readNumber_5 {d : Nat} {σ : aS} {Q : aQ} {l0 : Option Value} {x : Int32} {lt : aL} {st : List Value} : aX d iX3_readNumber 5 (l0 :: some (.int x) :: lt) (st) σ Q ↔ aX d iX3_readNumber 6 (l0 :: some (.int x) :: lt) (.int x :: st) σ Q := X_iloadn kX3_readNumber_5 rfl
theorem kX3_readNumber_6 : aCode iX3_readNumber 6 = some (.bipush (-6), 2) := by decide +kernel
theorem sX3_readNumber_6 {d : Nat} {σ : aS} {Q : aQ} {ls : aL} {st : List Value} : aX d iX3_readNumber 6 (ls) (st) σ Q ↔ aX d iX3_readNumber 8 (ls) (.int ((-6)) :: st) σ Q := X_bipush kX3_readNumber_6 (by decide +kernel)
theorem kX3_readNumber_8 : aCode iX3_readNumber 8 = some (.if_icmp .ne 5, 3) := by decide +kernel
theorem sX3_readNumber_8 {d : Nat} {σ : aS} {Q : aQ} {x y : Int32} {ls : aL} {st : List Value} : aX d iX3_readNumber 8 (ls) (.int y :: .int x :: st) σ Q ↔ (if ¬ x = y then aX d iX3_readNumber 13 (ls) (st) σ Q else aX d iX3_readNumber 11 (ls) (st) σ Q) := by rw [X_icmp kX3_readNumber_8 (t := 13) (by decide)]; simp only [aCmp_ne]
theorem kX3_readNumber_11 : aCode iX3_readNumber 11 = some (.iconst 0, 1) := by decide +kernel
theorem sX3_readNumber_11 {d : Nat} {σ : aS} {Q : aQ} {ls : aL} {st : List Value} : aX d iX3_readNumber 11 (ls) (st) σ Q ↔ aX d iX3_readNumber 12 (ls) (.int (nI 0) :: st) σ Q := X_iconst kX3_readNumber_11 (by decide +kernel)
theorem kX3_readNumber_12 : aCode iX3_readNumber 12 = some (.ireturn, 1) := by decide +kernel
theorem sX3_readNumber_12 {d : Nat} {σ : aS} {Q : aQ} {v : Int32} {ls : aL} : aX d iX3_readNumber 12 (ls) ([.int v]) σ Q ↔ (narrow .boolean (.int v) = .int v ∧ Q (some (.int v)) σ) := X_zret kX3_readNumber_12 (by decide +kernel)
theorem kX3_readNumber_13 : aCode iX3_readNumber 13 = some (.aload_n 0, 1) := by decide +kernel
theorem sX3_readNumber_13 {d : Nat} {σ : aS} {Q : aQ} {x : Nat} {lt : aL} {st : List Value} : aX d iX3_readNumber 13 (some (.ref x) :: lt) (st) σ Q ↔ aX d iX3_readNumber 14 (some (.ref x) :: lt) (.ref x :: st) σ Q := X_aloadn kX3_readNumber_13 rfl rfl
theorem kX3_readNumber_14 : aCode iX3_readNumber 14 = some (.iload_n 1, 1) := by decide +kernel
theorem sX3_readNumber_14 {d : Nat} {σ : aS} {Q : aQ} {l0 : Option Value} {x : Int32} {lt : aL} {st : List Value} : aX d iX3_readNumber 14 (l0 :: some (.int x) :: lt) (st) σ Q ↔ aX d iX3_readNumber 15 (l0 :: some (.int x) :: lt) (.int x :: st) σ Q := X_iloadn kX3_readNumber_14 rfl
theorem kX3_readNumber_15 : aCode iX3_readNumber 15 = some (.putfield 53, 3) := by decide +kernel
theorem sX3_readNumber_15 {d : Nat} {σ : aS} {Q : aQ} {x : Int32} {a : Nat} {ls : aL} {st : List Value} : aX d iX3_readNumber 15 (ls) (.int x :: .ref a :: st) σ Q ↔ ∃ fs, aFds σ a 3 = some fs ∧ 5 < fs.length ∧ aX d iX3_readNumber 18 (ls) (st) (aput σ a (eO 3 (fs.set 5 (.int x)))) Q := X_putf (w := 210) kX3_readNumber_15 (by decide +kernel) (aFit_I (by decide +kernel)) (by decide +kernel)
theorem kX3_readNumber_18 : aCode iX3_readNumber 18 = some (.aload_n 0, 1) := by decide +kernel
theorem sX3_readNumber_18 {d : Nat} {σ : aS} {Q : aQ} {x : Nat} {lt : aL} {st : List Value} : aX d iX3_readNumber 18 (some (.ref x) :: lt) (st) σ Q ↔ aX d iX3_readNumber 19 (some (.ref x) :: lt) (.ref x :: st) σ Q := X_aloadn kX3_readNumber_18 rfl rfl
theorem kX3_readNumber_19 : aCode iX3_readNumber 19 = some (.dup, 1) := by decide +kernel
theorem sX3_readNumber_19 {d : Nat} {σ : aS} {Q : aQ} {x : Nat} {ls : aL} {st : List Value} : aX d iX3_readNumber 19 (ls) (.ref x :: st) σ Q ↔ aX d iX3_readNumber 20 (ls) (.ref x :: .ref x :: st) σ Q := X_dup kX3_readNumber_19 rfl
theorem sX3_readNumber_19i {d : Nat} {σ : aS} {Q : aQ} {x : Int32} {ls : aL} {st : List Value} : aX d iX3_readNumber 19 (ls) (.int x :: st) σ Q ↔ aX d iX3_readNumber 20 (ls) (.int x :: .int x :: st) σ Q := X_dup kX3_readNumber_19 rfl
theorem kX3_readNumber_20 : aCode iX3_readNumber 20 = some (.getfield 36, 3) := by decide +kernel
theorem sX3_readNumber_20 {d : Nat} {σ : aS} {Q : aQ} {a : Nat} {ls : aL} {st : List Value} : aX d iX3_readNumber 20 (ls) (.ref a :: st) σ Q ↔ ∃ v, aFld σ a 3 2 = some v ∧ aX d iX3_readNumber 23 (ls) (v :: st) σ Q := X_getf (w := 205) kX3_readNumber_20 (by decide +kernel)
theorem kX3_readNumber_23 : aCode iX3_readNumber 23 = some (.iconst 1, 1) := by decide +kernel
theorem sX3_readNumber_23 {d : Nat} {σ : aS} {Q : aQ} {ls : aL} {st : List Value} : aX d iX3_readNumber 23 (ls) (st) σ Q ↔ aX d iX3_readNumber 24 (ls) (.int (nI 1) :: st) σ Q := X_iconst kX3_readNumber_23 (by decide +kernel)
theorem kX3_readNumber_24 : aCode iX3_readNumber 24 = some (.iadd, 1) := by decide +kernel
theorem sX3_readNumber_24 {d : Nat} {σ : aS} {Q : aQ} {x y : Int32} {ls : aL} {st : List Value} : aX d iX3_readNumber 24 (ls) (.int y :: .int x :: st) σ Q ↔ aX d iX3_readNumber 25 (ls) (.int (x + y) :: st) σ Q := X_iadd kX3_readNumber_24
theorem kX3_readNumber_25 : aCode iX3_readNumber 25 = some (.putfield 36, 3) := by decide +kernel
theorem sX3_readNumber_25 {d : Nat} {σ : aS} {Q : aQ} {x : Int32} {a : Nat} {ls : aL} {st : List Value} : aX d iX3_readNumber 25 (ls) (.int x :: .ref a :: st) σ Q ↔ ∃ fs, aFds σ a 3 = some fs ∧ 2 < fs.length ∧ aX d iX3_readNumber 28 (ls) (st) (aput σ a (eO 3 (fs.set 2 (.int x)))) Q := X_putf (w := 205) kX3_readNumber_25 (by decide +kernel) (aFit_I (by decide +kernel)) (by decide +kernel)
theorem kX3_readNumber_28 : aCode iX3_readNumber 28 = some (.iconst 1, 1) := by decide +kernel
theorem sX3_readNumber_28 {d : Nat} {σ : aS} {Q : aQ} {ls : aL} {st : List Value} : aX d iX3_readNumber 28 (ls) (st) σ Q ↔ aX d iX3_readNumber 29 (ls) (.int (nI 1) :: st) σ Q := X_iconst kX3_readNumber_28 (by decide +kernel)
theorem kX3_readNumber_29 : aCode iX3_readNumber 29 = some (.istore_n 2, 1) := by decide +kernel
theorem sX3_readNumber_29 {d : Nat} {σ : aS} {Q : aQ} {l0 l1 lo : Option Value} {x : Int32} {lt : aL} {st : List Value} : aX d iX3_readNumber 29 (l0 :: l1 :: lo :: lt) (.int x :: st) σ Q ↔ aX d iX3_readNumber 30 (l0 :: aclr l1 :: some (.int x) :: lt) (st) σ Q := X_istoren kX3_readNumber_29 (by simp only [List.length_cons]; omega)
theorem kX3_readNumber_30 : aCode iX3_readNumber 30 = some (.iload_n 2, 1) := by decide +kernel
theorem sX3_readNumber_30 {d : Nat} {σ : aS} {Q : aQ} {l0 l1 : Option Value} {x : Int32} {lt : aL} {st : List Value} : aX d iX3_readNumber 30 (l0 :: l1 :: some (.int x) :: lt) (st) σ Q ↔ aX d iX3_readNumber 31 (l0 :: l1 :: some (.int x) :: lt) (.int x :: st) σ Q := X_iloadn kX3_readNumber_30 rfl
theorem kX3_readNumber_31 : aCode iX3_readNumber 31 = some (.iconst 4, 1) := by decide +kernel
theorem sX3_readNumber_31 {d : Nat} {σ : aS} {Q : aQ} {ls : aL} {st : List Value} : aX d iX3_readNumber 31 (ls) (st) σ Q ↔ aX d iX3_readNumber 32 (ls) (.int (nI 4) :: st) σ Q := X_iconst kX3_readNumber_31 (by decide +kernel)
theorem kX3_readNumber_32 : aCode iX3_readNumber 32 = some (.if_icmp .ge 51, 3) := by decide +kernel
theorem sX3_readNumber_32 {d : Nat} {σ : aS} {Q : aQ} {x y : Int32} {ls : aL} {st : List Value} : aX d iX3_readNumber 32 (ls) (.int y :: .int x :: st) σ Q ↔ (if y ≤ x then aX d iX3_readNumber 83 (ls) (st) σ Q else aX d iX3_readNumber 35 (ls) (st) σ Q) := by rw [X_icmp kX3_readNumber_32 (t := 83) (by decide)]; simp only [aCmp_ge]
theorem kX3_readNumber_35 : aCode iX3_readNumber 35 = some (.aload_n 0, 1) := by decide +kernel
theorem sX3_readNumber_35 {d : Nat} {σ : aS} {Q : aQ} {x : Nat} {lt : aL} {st : List Value} : aX d iX3_readNumber 35 (some (.ref x) :: lt) (st) σ Q ↔ aX d iX3_readNumber 36 (some (.ref x) :: lt) (.ref x :: st) σ Q := X_aloadn kX3_readNumber_35 rfl rfl
theorem kX3_readNumber_36 : aCode iX3_readNumber 36 = some (.getfield 53, 3) := by decide +kernel
theorem sX3_readNumber_36 {d : Nat} {σ : aS} {Q : aQ} {a : Nat} {ls : aL} {st : List Value} : aX d iX3_readNumber 36 (ls) (.ref a :: st) σ Q ↔ ∃ v, aFld σ a 3 5 = some v ∧ aX d iX3_readNumber 39 (ls) (v :: st) σ Q := X_getf (w := 210) kX3_readNumber_36 (by decide +kernel)
theorem kX3_readNumber_39 : aCode iX3_readNumber 39 = some (.ifCond .eq 44, 3) := by decide +kernel
theorem sX3_readNumber_39 {d : Nat} {σ : aS} {Q : aQ} {x : Int32} {ls : aL} {st : List Value} : aX d iX3_readNumber 39 (ls) (.int x :: st) σ Q ↔ (if x = nI 0 then aX d iX3_readNumber 83 (ls) (st) σ Q else aX d iX3_readNumber 42 (ls) (st) σ Q) := by rw [X_if kX3_readNumber_39 (t := 83) (by decide)]; simp only [aCmp_eq]
theorem kX3_readNumber_42 : aCode iX3_readNumber 42 = some (.aload_n 0, 1) := by decide +kernel
theorem sX3_readNumber_42 {d : Nat} {σ : aS} {Q : aQ} {x : Nat} {lt : aL} {st : List Value} : aX d iX3_readNumber 42 (some (.ref x) :: lt) (st) σ Q ↔ aX d iX3_readNumber 43 (some (.ref x) :: lt) (.ref x :: st) σ Q := X_aloadn kX3_readNumber_42 rfl rfl
theorem kX3_readNumber_43 : aCode iX3_readNumber 43 = some (.invokevirtual 68, 3) := by decide +kernel
theorem sX3_readNumber_43 {d : Nat} {σ : aS} {Q : aQ} {b : Nat} {ls : aL} : aX (d + 1) iX3_readNumber 43 (ls) (.ref b :: []) σ Q ↔ aIs σ b 3 ∧ aX d iX3_digitHere 0 [some (.ref b), none] [] σ (fun r τ => aX (d + 1) iX3_readNumber 46 (ls) (aret r ([])) τ Q) := X_invv (N := 0) (As := []) (w := 600) kX3_readNumber_43 (by decide +kernel) (by decide +kernel) rfl rfl (by simp only [List.length_cons, List.length_nil]; omega) (by simp only [List.length_cons, List.length_nil]; omega) (by decide +kernel) rfl (Nat.le_of_ble_eq_true rfl)
theorem kX3_readNumber_46 : aCode iX3_readNumber 46 = some (.bipush (-6), 2) := by decide +kernel
theorem sX3_readNumber_46 {d : Nat} {σ : aS} {Q : aQ} {ls : aL} {st : List Value} : aX d iX3_readNumber 46 (ls) (st) σ Q ↔ aX d iX3_readNumber 48 (ls) (.int ((-6)) :: st) σ Q := X_bipush kX3_readNumber_46 (by decide +kernel)
theorem kX3_readNumber_48 : aCode iX3_readNumber 48 = some (.if_icmp .eq 35, 3) := by decide +kernel
theorem sX3_readNumber_48 {d : Nat} {σ : aS} {Q : aQ} {x y : Int32} {ls : aL} {st : List Value} : aX d iX3_readNumber 48 (ls) (.int y :: .int x :: st) σ Q ↔ (if x = y then aX d iX3_readNumber 83 (ls) (st) σ Q else aX d iX3_readNumber 51 (ls) (st) σ Q) := by rw [X_icmp kX3_readNumber_48 (t := 83) (by decide)]; simp only [aCmp_eq]
theorem kX3_readNumber_51 : aCode iX3_readNumber 51 = some (.aload_n 0, 1) := by decide +kernel
theorem sX3_readNumber_51 {d : Nat} {σ : aS} {Q : aQ} {x : Nat} {lt : aL} {st : List Value} : aX d iX3_readNumber 51 (some (.ref x) :: lt) (st) σ Q ↔ aX d iX3_readNumber 52 (some (.ref x) :: lt) (.ref x :: st) σ Q := X_aloadn kX3_readNumber_51 rfl rfl
theorem kX3_readNumber_52 : aCode iX3_readNumber 52 = some (.aload_n 0, 1) := by decide +kernel
theorem sX3_readNumber_52 {d : Nat} {σ : aS} {Q : aQ} {x : Nat} {lt : aL} {st : List Value} : aX d iX3_readNumber 52 (some (.ref x) :: lt) (st) σ Q ↔ aX d iX3_readNumber 53 (some (.ref x) :: lt) (.ref x :: st) σ Q := X_aloadn kX3_readNumber_52 rfl rfl
theorem kX3_readNumber_53 : aCode iX3_readNumber 53 = some (.getfield 53, 3) := by decide +kernel
theorem sX3_readNumber_53 {d : Nat} {σ : aS} {Q : aQ} {a : Nat} {ls : aL} {st : List Value} : aX d iX3_readNumber 53 (ls) (.ref a :: st) σ Q ↔ ∃ v, aFld σ a 3 5 = some v ∧ aX d iX3_readNumber 56 (ls) (v :: st) σ Q := X_getf (w := 210) kX3_readNumber_53 (by decide +kernel)
theorem kX3_readNumber_56 : aCode iX3_readNumber 56 = some (.bipush 10, 2) := by decide +kernel
theorem sX3_readNumber_56 {d : Nat} {σ : aS} {Q : aQ} {ls : aL} {st : List Value} : aX d iX3_readNumber 56 (ls) (st) σ Q ↔ aX d iX3_readNumber 58 (ls) (.int (nI 10) :: st) σ Q := X_bipush kX3_readNumber_56 (by decide +kernel)
theorem kX3_readNumber_58 : aCode iX3_readNumber 58 = some (.imul, 1) := by decide +kernel
theorem sX3_readNumber_58 {d : Nat} {σ : aS} {Q : aQ} {x y : Int32} {ls : aL} {st : List Value} : aX d iX3_readNumber 58 (ls) (.int y :: .int x :: st) σ Q ↔ aX d iX3_readNumber 59 (ls) (.int (x * y) :: st) σ Q := X_imul kX3_readNumber_58
theorem kX3_readNumber_59 : aCode iX3_readNumber 59 = some (.aload_n 0, 1) := by decide +kernel
theorem sX3_readNumber_59 {d : Nat} {σ : aS} {Q : aQ} {x : Nat} {lt : aL} {st : List Value} : aX d iX3_readNumber 59 (some (.ref x) :: lt) (st) σ Q ↔ aX d iX3_readNumber 60 (some (.ref x) :: lt) (.ref x :: st) σ Q := X_aloadn kX3_readNumber_59 rfl rfl
theorem kX3_readNumber_60 : aCode iX3_readNumber 60 = some (.invokevirtual 68, 3) := by decide +kernel
theorem sX3_readNumber_60 {d : Nat} {σ : aS} {Q : aQ} {b : Nat} {v0 v1 : Value} {ls : aL} : aX (d + 1) iX3_readNumber 60 (ls) (.ref b :: v0 :: v1 :: []) σ Q ↔ aIs σ b 3 ∧ aX d iX3_digitHere 0 [some (.ref b), none] [] σ (fun r τ => aX (d + 1) iX3_readNumber 63 (ls) (aret r (v0 :: v1 :: [])) τ Q) := X_invv (N := 0) (As := []) (w := 600) kX3_readNumber_60 (by decide +kernel) (by decide +kernel) rfl rfl (by simp only [List.length_cons, List.length_nil]; omega) (by simp only [List.length_cons, List.length_nil]; omega) (by decide +kernel) rfl (Nat.le_of_ble_eq_true rfl)
theorem kX3_readNumber_63 : aCode iX3_readNumber 63 = some (.iadd, 1) := by decide +kernel
theorem sX3_readNumber_63 {d : Nat} {σ : aS} {Q : aQ} {x y : Int32} {ls : aL} {st : List Value} : aX d iX3_readNumber 63 (ls) (.int y :: .int x :: st) σ Q ↔ aX d iX3_readNumber 64 (ls) (.int (x + y) :: st) σ Q := X_iadd kX3_readNumber_63
theorem kX3_readNumber_64 : aCode iX3_readNumber 64 = some (.putfield 53, 3) := by decide +kernel
theorem sX3_readNumber_64 {d : Nat} {σ : aS} {Q : aQ} {x : Int32} {a : Nat} {ls : aL} {st : List Value} : aX d iX3_readNumber 64 (ls) (.int x :: .ref a :: st) σ Q ↔ ∃ fs, aFds σ a 3 = some fs ∧ 5 < fs.length ∧ aX d iX3_readNumber 67 (ls) (st) (aput σ a (eO 3 (fs.set 5 (.int x)))) Q := X_putf (w := 210) kX3_readNumber_64 (by decide +kernel) (aFit_I (by decide +kernel)) (by decide +kernel)
theorem kX3_readNumber_67 : aCode iX3_readNumber 67 = some (.aload_n 0, 1) := by decide +kernel
theorem sX3_readNumber_67 {d : Nat} {σ : aS} {Q : aQ} {x : Nat} {lt : aL} {st : List Value} : aX d iX3_readNumber 67 (some (.ref x) :: lt) (st) σ Q ↔ aX d iX3_readNumber 68 (some (.ref x) :: lt) (.ref x :: st) σ Q := X_aloadn kX3_readNumber_67 rfl rfl
theorem kX3_readNumber_68 : aCode iX3_readNumber 68 = some (.dup, 1) := by decide +kernel
theorem sX3_readNumber_68 {d : Nat} {σ : aS} {Q : aQ} {x : Nat} {ls : aL} {st : List Value} : aX d iX3_readNumber 68 (ls) (.ref x :: st) σ Q ↔ aX d iX3_readNumber 69 (ls) (.ref x :: .ref x :: st) σ Q := X_dup kX3_readNumber_68 rfl
theorem sX3_readNumber_68i {d : Nat} {σ : aS} {Q : aQ} {x : Int32} {ls : aL} {st : List Value} : aX d iX3_readNumber 68 (ls) (.int x :: st) σ Q ↔ aX d iX3_readNumber 69 (ls) (.int x :: .int x :: st) σ Q := X_dup kX3_readNumber_68 rfl
theorem kX3_readNumber_69 : aCode iX3_readNumber 69 = some (.getfield 36, 3) := by decide +kernel
theorem sX3_readNumber_69 {d : Nat} {σ : aS} {Q : aQ} {a : Nat} {ls : aL} {st : List Value} : aX d iX3_readNumber 69 (ls) (.ref a :: st) σ Q ↔ ∃ v, aFld σ a 3 2 = some v ∧ aX d iX3_readNumber 72 (ls) (v :: st) σ Q := X_getf (w := 205) kX3_readNumber_69 (by decide +kernel)
theorem kX3_readNumber_72 : aCode iX3_readNumber 72 = some (.iconst 1, 1) := by decide +kernel
theorem sX3_readNumber_72 {d : Nat} {σ : aS} {Q : aQ} {ls : aL} {st : List Value} : aX d iX3_readNumber 72 (ls) (st) σ Q ↔ aX d iX3_readNumber 73 (ls) (.int (nI 1) :: st) σ Q := X_iconst kX3_readNumber_72 (by decide +kernel)
theorem kX3_readNumber_73 : aCode iX3_readNumber 73 = some (.iadd, 1) := by decide +kernel
theorem sX3_readNumber_73 {d : Nat} {σ : aS} {Q : aQ} {x y : Int32} {ls : aL} {st : List Value} : aX d iX3_readNumber 73 (ls) (.int y :: .int x :: st) σ Q ↔ aX d iX3_readNumber 74 (ls) (.int (x + y) :: st) σ Q := X_iadd kX3_readNumber_73
theorem kX3_readNumber_74 : aCode iX3_readNumber 74 = some (.putfield 36, 3) := by decide +kernel
theorem sX3_readNumber_74 {d : Nat} {σ : aS} {Q : aQ} {x : Int32} {a : Nat} {ls : aL} {st : List Value} : aX d iX3_readNumber 74 (ls) (.int x :: .ref a :: st) σ Q ↔ ∃ fs, aFds σ a 3 = some fs ∧ 2 < fs.length ∧ aX d iX3_readNumber 77 (ls) (st) (aput σ a (eO 3 (fs.set 2 (.int x)))) Q := X_putf (w := 205) kX3_readNumber_74 (by decide +kernel) (aFit_I (by decide +kernel)) (by decide +kernel)
theorem kX3_readNumber_77 : aCode iX3_readNumber 77 = some (.iinc 2 1, 3) := by decide +kernel
theorem sX3_readNumber_77 {d : Nat} {σ : aS} {Q : aQ} {l0 l1 : Option Value} {x : Int32} {lt : aL} {st : List Value} : aX d iX3_readNumber 77 (l0 :: l1 :: some (.int x) :: lt) (st) σ Q ↔ aX d iX3_readNumber 80 (l0 :: aclr l1 :: some (.int (x + nI 1)) :: lt) (st) σ Q := X_iinc kX3_readNumber_77 rfl (by decide +kernel)
theorem kX3_readNumber_80 : aCode iX3_readNumber 80 = some (.goto (-50), 3) := by decide +kernel
theorem sX3_readNumber_80 {d : Nat} {σ : aS} {Q : aQ} {ls : aL} {st : List Value} : aX d iX3_readNumber 80 (ls) (st) σ Q ↔ aX d iX3_readNumber 30 (ls) (st) σ Q := X_goto kX3_readNumber_80 (by decide)
theorem kX3_readNumber_83 : aCode iX3_readNumber 83 = some (.iconst 1, 1) := by decide +kernel
theorem sX3_readNumber_83 {d : Nat} {σ : aS} {Q : aQ} {ls : aL} {st : List Value} : aX d iX3_readNumber 83 (ls) (st) σ Q ↔ aX d iX3_readNumber 84 (ls) (.int (nI 1) :: st) σ Q := X_iconst kX3_readNumber_83 (by decide +kernel)
theorem kX3_readNumber_84 : aCode iX3_readNumber 84 = some (.ireturn, 1) := by decide +kernel
theorem sX3_readNumber_84 {d : Nat} {σ : aS} {Q : aQ} {v : Int32} {ls : aL} : aX d iX3_readNumber 84 (ls) ([.int v]) σ Q ↔ (narrow .boolean (.int v) = .int v ∧ Q (some (.int v)) σ) := X_zret kX3_readNumber_84 (by decide +kernel)
theorem kX3_take_0 : aCode iX3_take 0 = some (.aload_n 0, 1) := by decide +kernel
theorem sX3_take_0 {d : Nat} {σ : aS} {Q : aQ} {x : Nat} {lt : aL} {st : List Value} : aX d iX3_take 0 (some (.ref x) :: lt) (st) σ Q ↔ aX d iX3_take 1 (some (.ref x) :: lt) (.ref x :: st) σ Q := X_aloadn kX3_take_0 rfl rfl
theorem kX3_take_1 : aCode iX3_take 1 = some (.invokevirtual 46, 3) := by decide +kernel
theorem sX3_take_1 {d : Nat} {σ : aS} {Q : aQ} {b : Nat} {ls : aL} : aX (d + 1) iX3_take 1 (ls) (.ref b :: []) σ Q ↔ aIs σ b 3 ∧ aX d iX3_signHere 0 [some (.ref b)] [] σ (fun r τ => aX (d + 1) iX3_take 4 (ls) (aret r ([])) τ Q) := X_invv (N := 0) (As := []) (w := 588) kX3_take_1 (by decide +kernel) (by decide +kernel) rfl rfl (by simp only [List.length_cons, List.length_nil]; omega) (by simp only [List.length_cons, List.length_nil]; omega) (by decide +kernel) rfl (Nat.le_of_ble_eq_true rfl)
theorem kX3_take_4 : aCode iX3_take 4 = some (.iload_n 1, 1) := by decide +kernel
theorem sX3_take_4 {d : Nat} {σ : aS} {Q : aQ} {l0 : Option Value} {x : Int32} {lt : aL} {st : List Value} : aX d iX3_take 4 (l0 :: some (.int x) :: lt) (st) σ Q ↔ aX d iX3_take 5 (l0 :: some (.int x) :: lt) (.int x :: st) σ Q := X_iloadn kX3_take_4 rfl
theorem kX3_take_5 : aCode iX3_take 5 = some (.if_icmp .eq 5, 3) := by decide +kernel
theorem sX3_take_5 {d : Nat} {σ : aS} {Q : aQ} {x y : Int32} {ls : aL} {st : List Value} : aX d iX3_take 5 (ls) (.int y :: .int x :: st) σ Q ↔ (if x = y then aX d iX3_take 10 (ls) (st) σ Q else aX d iX3_take 8 (ls) (st) σ Q) := by rw [X_icmp kX3_take_5 (t := 10) (by decide)]; simp only [aCmp_eq]
theorem kX3_take_8 : aCode iX3_take 8 = some (.iconst 0, 1) := by decide +kernel
theorem sX3_take_8 {d : Nat} {σ : aS} {Q : aQ} {ls : aL} {st : List Value} : aX d iX3_take 8 (ls) (st) σ Q ↔ aX d iX3_take 9 (ls) (.int (nI 0) :: st) σ Q := X_iconst kX3_take_8 (by decide +kernel)
theorem kX3_take_9 : aCode iX3_take 9 = some (.ireturn, 1) := by decide +kernel
theorem sX3_take_9 {d : Nat} {σ : aS} {Q : aQ} {v : Int32} {ls : aL} : aX d iX3_take 9 (ls) ([.int v]) σ Q ↔ (narrow .boolean (.int v) = .int v ∧ Q (some (.int v)) σ) := X_zret kX3_take_9 (by decide +kernel)
theorem kX3_take_10 : aCode iX3_take 10 = some (.aload_n 0, 1) := by decide +kernel
theorem sX3_take_10 {d : Nat} {σ : aS} {Q : aQ} {x : Nat} {lt : aL} {st : List Value} : aX d iX3_take 10 (some (.ref x) :: lt) (st) σ Q ↔ aX d iX3_take 11 (some (.ref x) :: lt) (.ref x :: st) σ Q := X_aloadn kX3_take_10 rfl rfl
theorem kX3_take_11 : aCode iX3_take 11 = some (.dup, 1) := by decide +kernel
theorem sX3_take_11 {d : Nat} {σ : aS} {Q : aQ} {x : Nat} {ls : aL} {st : List Value} : aX d iX3_take 11 (ls) (.ref x :: st) σ Q ↔ aX d iX3_take 12 (ls) (.ref x :: .ref x :: st) σ Q := X_dup kX3_take_11 rfl
theorem sX3_take_11i {d : Nat} {σ : aS} {Q : aQ} {x : Int32} {ls : aL} {st : List Value} : aX d iX3_take 11 (ls) (.int x :: st) σ Q ↔ aX d iX3_take 12 (ls) (.int x :: .int x :: st) σ Q := X_dup kX3_take_11 rfl
theorem kX3_take_12 : aCode iX3_take 12 = some (.getfield 36, 3) := by decide +kernel
theorem sX3_take_12 {d : Nat} {σ : aS} {Q : aQ} {a : Nat} {ls : aL} {st : List Value} : aX d iX3_take 12 (ls) (.ref a :: st) σ Q ↔ ∃ v, aFld σ a 3 2 = some v ∧ aX d iX3_take 15 (ls) (v :: st) σ Q := X_getf (w := 205) kX3_take_12 (by decide +kernel)
theorem kX3_take_15 : aCode iX3_take 15 = some (.iconst 1, 1) := by decide +kernel
theorem sX3_take_15 {d : Nat} {σ : aS} {Q : aQ} {ls : aL} {st : List Value} : aX d iX3_take 15 (ls) (st) σ Q ↔ aX d iX3_take 16 (ls) (.int (nI 1) :: st) σ Q := X_iconst kX3_take_15 (by decide +kernel)
theorem kX3_take_16 : aCode iX3_take 16 = some (.iadd, 1) := by decide +kernel
theorem sX3_take_16 {d : Nat} {σ : aS} {Q : aQ} {x y : Int32} {ls : aL} {st : List Value} : aX d iX3_take 16 (ls) (.int y :: .int x :: st) σ Q ↔ aX d iX3_take 17 (ls) (.int (x + y) :: st) σ Q := X_iadd kX3_take_16
theorem kX3_take_17 : aCode iX3_take 17 = some (.putfield 36, 3) := by decide +kernel
theorem sX3_take_17 {d : Nat} {σ : aS} {Q : aQ} {x : Int32} {a : Nat} {ls : aL} {st : List Value} : aX d iX3_take 17 (ls) (.int x :: .ref a :: st) σ Q ↔ ∃ fs, aFds σ a 3 = some fs ∧ 2 < fs.length ∧ aX d iX3_take 20 (ls) (st) (aput σ a (eO 3 (fs.set 2 (.int x)))) Q := X_putf (w := 205) kX3_take_17 (by decide +kernel) (aFit_I (by decide +kernel)) (by decide +kernel)
theorem kX3_take_20 : aCode iX3_take 20 = some (.iconst 1, 1) := by decide +kernel
theorem sX3_take_20 {d : Nat} {σ : aS} {Q : aQ} {ls : aL} {st : List Value} : aX d iX3_take 20 (ls) (st) σ Q ↔ aX d iX3_take 21 (ls) (.int (nI 1) :: st) σ Q := X_iconst kX3_take_20 (by decide +kernel)
theorem kX3_take_21 : aCode iX3_take 21 = some (.ireturn, 1) := by decide +kernel
theorem sX3_take_21 {d : Nat} {σ : aS} {Q : aQ} {v : Int32} {ls : aL} : aX d iX3_take 21 (ls) ([.int v]) σ Q ↔ (narrow .boolean (.int v) = .int v ∧ Q (some (.int v)) σ) := X_zret kX3_take_21 (by decide +kernel)
theorem kX3_digitHere_0 : aCode iX3_digitHere 0 = some (.aload_n 0, 1) := by decide +kernel
theorem sX3_digitHere_0 {d : Nat} {σ : aS} {Q : aQ} {x : Nat} {lt : aL} {st : List Value} : aX d iX3_digitHere 0 (some (.ref x) :: lt) (st) σ Q ↔ aX d iX3_digitHere 1 (some (.ref x) :: lt) (.ref x :: st) σ Q := X_aloadn kX3_digitHere_0 rfl rfl
theorem kX3_digitHere_1 : aCode iX3_digitHere 1 = some (.invokevirtual 46, 3) := by decide +kernel
theorem sX3_digitHere_1 {d : Nat} {σ : aS} {Q : aQ} {b : Nat} {ls : aL} : aX (d + 1) iX3_digitHere 1 (ls) (.ref b :: []) σ Q ↔ aIs σ b 3 ∧ aX d iX3_signHere 0 [some (.ref b)] [] σ (fun r τ => aX (d + 1) iX3_digitHere 4 (ls) (aret r ([])) τ Q) := X_invv (N := 0) (As := []) (w := 588) kX3_digitHere_1 (by decide +kernel) (by decide +kernel) rfl rfl (by simp only [List.length_cons, List.length_nil]; omega) (by simp only [List.length_cons, List.length_nil]; omega) (by decide +kernel) rfl (Nat.le_of_ble_eq_true rfl)
theorem kX3_digitHere_4 : aCode iX3_digitHere 4 = some (.istore_n 1, 1) := by decide +kernel
theorem sX3_digitHere_4 {d : Nat} {σ : aS} {Q : aQ} {l0 lo : Option Value} {x : Int32} {lt : aL} {st : List Value} : aX d iX3_digitHere 4 (l0 :: lo :: lt) (.int x :: st) σ Q ↔ aX d iX3_digitHere 5 (aclr l0 :: some (.int x) :: lt) (st) σ Q := X_istoren kX3_digitHere_4 (by simp only [List.length_cons]; omega)
theorem kX3_digitHere_5 : aCode iX3_digitHere 5 = some (.iload_n 1, 1) := by decide +kernel
theorem sX3_digitHere_5 {d : Nat} {σ : aS} {Q : aQ} {l0 : Option Value} {x : Int32} {lt : aL} {st : List Value} : aX d iX3_digitHere 5 (l0 :: some (.int x) :: lt) (st) σ Q ↔ aX d iX3_digitHere 6 (l0 :: some (.int x) :: lt) (.int x :: st) σ Q := X_iloadn kX3_digitHere_5 rfl
theorem kX3_digitHere_6 : aCode iX3_digitHere 6 = some (.bipush 48, 2) := by decide +kernel
theorem sX3_digitHere_6 {d : Nat} {σ : aS} {Q : aQ} {ls : aL} {st : List Value} : aX d iX3_digitHere 6 (ls) (st) σ Q ↔ aX d iX3_digitHere 8 (ls) (.int (nI 48) :: st) σ Q := X_bipush kX3_digitHere_6 (by decide +kernel)
theorem kX3_digitHere_8 : aCode iX3_digitHere 8 = some (.if_icmp .lt 16, 3) := by decide +kernel
theorem sX3_digitHere_8 {d : Nat} {σ : aS} {Q : aQ} {x y : Int32} {ls : aL} {st : List Value} : aX d iX3_digitHere 8 (ls) (.int y :: .int x :: st) σ Q ↔ (if x < y then aX d iX3_digitHere 24 (ls) (st) σ Q else aX d iX3_digitHere 11 (ls) (st) σ Q) := by rw [X_icmp kX3_digitHere_8 (t := 24) (by decide)]; simp only [aCmp_lt]
theorem kX3_digitHere_11 : aCode iX3_digitHere 11 = some (.iload_n 1, 1) := by decide +kernel
theorem sX3_digitHere_11 {d : Nat} {σ : aS} {Q : aQ} {l0 : Option Value} {x : Int32} {lt : aL} {st : List Value} : aX d iX3_digitHere 11 (l0 :: some (.int x) :: lt) (st) σ Q ↔ aX d iX3_digitHere 12 (l0 :: some (.int x) :: lt) (.int x :: st) σ Q := X_iloadn kX3_digitHere_11 rfl
theorem kX3_digitHere_12 : aCode iX3_digitHere 12 = some (.bipush 57, 2) := by decide +kernel
theorem sX3_digitHere_12 {d : Nat} {σ : aS} {Q : aQ} {ls : aL} {st : List Value} : aX d iX3_digitHere 12 (ls) (st) σ Q ↔ aX d iX3_digitHere 14 (ls) (.int (nI 57) :: st) σ Q := X_bipush kX3_digitHere_12 (by decide +kernel)
theorem kX3_digitHere_14 : aCode iX3_digitHere 14 = some (.if_icmp .gt 10, 3) := by decide +kernel
theorem sX3_digitHere_14 {d : Nat} {σ : aS} {Q : aQ} {x y : Int32} {ls : aL} {st : List Value} : aX d iX3_digitHere 14 (ls) (.int y :: .int x :: st) σ Q ↔ (if y < x then aX d iX3_digitHere 24 (ls) (st) σ Q else aX d iX3_digitHere 17 (ls) (st) σ Q) := by rw [X_icmp kX3_digitHere_14 (t := 24) (by decide)]; simp only [aCmp_gt]
theorem kX3_digitHere_17 : aCode iX3_digitHere 17 = some (.iload_n 1, 1) := by decide +kernel
theorem sX3_digitHere_17 {d : Nat} {σ : aS} {Q : aQ} {l0 : Option Value} {x : Int32} {lt : aL} {st : List Value} : aX d iX3_digitHere 17 (l0 :: some (.int x) :: lt) (st) σ Q ↔ aX d iX3_digitHere 18 (l0 :: some (.int x) :: lt) (.int x :: st) σ Q := X_iloadn kX3_digitHere_17 rfl
theorem kX3_digitHere_18 : aCode iX3_digitHere 18 = some (.bipush 48, 2) := by decide +kernel
theorem sX3_digitHere_18 {d : Nat} {σ : aS} {Q : aQ} {ls : aL} {st : List Value} : aX d iX3_digitHere 18 (ls) (st) σ Q ↔ aX d iX3_digitHere 20 (ls) (.int (nI 48) :: st) σ Q := X_bipush kX3_digitHere_18 (by decide +kernel)
theorem kX3_digitHere_20 : aCode iX3_digitHere 20 = some (.isub, 1) := by decide +kernel
theorem sX3_digitHere_20 {d : Nat} {σ : aS} {Q : aQ} {x y : Int32} {ls : aL} {st : List Value} : aX d iX3_digitHere 20 (ls) (.int y :: .int x :: st) σ Q ↔ aX d iX3_digitHere 21 (ls) (.int (x - y) :: st) σ Q := X_isub kX3_digitHere_20
theorem kX3_digitHere_21 : aCode iX3_digitHere 21 = some (.goto 5, 3) := by decide +kernel
theorem sX3_digitHere_21 {d : Nat} {σ : aS} {Q : aQ} {ls : aL} {st : List Value} : aX d iX3_digitHere 21 (ls) (st) σ Q ↔ aX d iX3_digitHere 26 (ls) (st) σ Q := X_goto kX3_digitHere_21 (by decide)
theorem kX3_digitHere_24 : aCode iX3_digitHere 24 = some (.bipush (-6), 2) := by decide +kernel
theorem sX3_digitHere_24 {d : Nat} {σ : aS} {Q : aQ} {ls : aL} {st : List Value} : aX d iX3_digitHere 24 (ls) (st) σ Q ↔ aX d iX3_digitHere 26 (ls) (.int ((-6)) :: st) σ Q := X_bipush kX3_digitHere_24 (by decide +kernel)
theorem kX3_digitHere_26 : aCode iX3_digitHere 26 = some (.ireturn, 1) := by decide +kernel
theorem sX3_digitHere_26 {d : Nat} {σ : aS} {Q : aQ} {v : Int32} {ls : aL} : aX d iX3_digitHere 26 (ls) ([.int v]) σ Q ↔ Q (some (.int v)) σ := X_iret kX3_digitHere_26 (by decide +kernel)
theorem kX3_signHere_0 : aCode iX3_signHere 0 = some (.aload_n 0, 1) := by decide +kernel
theorem sX3_signHere_0 {d : Nat} {σ : aS} {Q : aQ} {x : Nat} {lt : aL} {st : List Value} : aX d iX3_signHere 0 (some (.ref x) :: lt) (st) σ Q ↔ aX d iX3_signHere 1 (some (.ref x) :: lt) (.ref x :: st) σ Q := X_aloadn kX3_signHere_0 rfl rfl
theorem kX3_signHere_1 : aCode iX3_signHere 1 = some (.getfield 36, 3) := by decide +kernel
theorem sX3_signHere_1 {d : Nat} {σ : aS} {Q : aQ} {a : Nat} {ls : aL} {st : List Value} : aX d iX3_signHere 1 (ls) (.ref a :: st) σ Q ↔ ∃ v, aFld σ a 3 2 = some v ∧ aX d iX3_signHere 4 (ls) (v :: st) σ Q := X_getf (w := 205) kX3_signHere_1 (by decide +kernel)
theorem kX3_signHere_4 : aCode iX3_signHere 4 = some (.ifCond .lt 38, 3) := by decide +kernel
theorem sX3_signHere_4 {d : Nat} {σ : aS} {Q : aQ} {x : Int32} {ls : aL} {st : List Value} : aX d iX3_signHere 4 (ls) (.int x :: st) σ Q ↔ (if x < nI 0 then aX d iX3_signHere 42 (ls) (st) σ Q else aX d iX3_signHere 7 (ls) (st) σ Q) := by rw [X_if kX3_signHere_4 (t := 42) (by decide)]; simp only [aCmp_lt]
theorem kX3_signHere_7 : aCode iX3_signHere 7 = some (.aload_n 0, 1) := by decide +kernel
theorem sX3_signHere_7 {d : Nat} {σ : aS} {Q : aQ} {x : Nat} {lt : aL} {st : List Value} : aX d iX3_signHere 7 (some (.ref x) :: lt) (st) σ Q ↔ aX d iX3_signHere 8 (some (.ref x) :: lt) (.ref x :: st) σ Q := X_aloadn kX3_signHere_7 rfl rfl
theorem kX3_signHere_8 : aCode iX3_signHere 8 = some (.getfield 36, 3) := by decide +kernel
theorem sX3_signHere_8 {d : Nat} {σ : aS} {Q : aQ} {a : Nat} {ls : aL} {st : List Value} : aX d iX3_signHere 8 (ls) (.ref a :: st) σ Q ↔ ∃ v, aFld σ a 3 2 = some v ∧ aX d iX3_signHere 11 (ls) (v :: st) σ Q := X_getf (w := 205) kX3_signHere_8 (by decide +kernel)
theorem kX3_signHere_11 : aCode iX3_signHere 11 = some (.aload_n 0, 1) := by decide +kernel
theorem sX3_signHere_11 {d : Nat} {σ : aS} {Q : aQ} {x : Nat} {lt : aL} {st : List Value} : aX d iX3_signHere 11 (some (.ref x) :: lt) (st) σ Q ↔ aX d iX3_signHere 12 (some (.ref x) :: lt) (.ref x :: st) σ Q := X_aloadn kX3_signHere_11 rfl rfl
theorem kX3_signHere_12 : aCode iX3_signHere 12 = some (.getfield 19, 3) := by decide +kernel
theorem sX3_signHere_12 {d : Nat} {σ : aS} {Q : aQ} {a : Nat} {ls : aL} {st : List Value} : aX d iX3_signHere 12 (ls) (.ref a :: st) σ Q ↔ ∃ v, aFld σ a 3 1 = some v ∧ aX d iX3_signHere 15 (ls) (v :: st) σ Q := X_getf (w := 203) kX3_signHere_12 (by decide +kernel)
theorem kX3_signHere_15 : aCode iX3_signHere 15 = some (.if_icmp .ge 27, 3) := by decide +kernel
theorem sX3_signHere_15 {d : Nat} {σ : aS} {Q : aQ} {x y : Int32} {ls : aL} {st : List Value} : aX d iX3_signHere 15 (ls) (.int y :: .int x :: st) σ Q ↔ (if y ≤ x then aX d iX3_signHere 42 (ls) (st) σ Q else aX d iX3_signHere 18 (ls) (st) σ Q) := by rw [X_icmp kX3_signHere_15 (t := 42) (by decide)]; simp only [aCmp_ge]
theorem kX3_signHere_18 : aCode iX3_signHere 18 = some (.aload_n 0, 1) := by decide +kernel
theorem sX3_signHere_18 {d : Nat} {σ : aS} {Q : aQ} {x : Nat} {lt : aL} {st : List Value} : aX d iX3_signHere 18 (some (.ref x) :: lt) (st) σ Q ↔ aX d iX3_signHere 19 (some (.ref x) :: lt) (.ref x :: st) σ Q := X_aloadn kX3_signHere_18 rfl rfl
theorem kX3_signHere_19 : aCode iX3_signHere 19 = some (.getfield 36, 3) := by decide +kernel
theorem sX3_signHere_19 {d : Nat} {σ : aS} {Q : aQ} {a : Nat} {ls : aL} {st : List Value} : aX d iX3_signHere 19 (ls) (.ref a :: st) σ Q ↔ ∃ v, aFld σ a 3 2 = some v ∧ aX d iX3_signHere 22 (ls) (v :: st) σ Q := X_getf (w := 205) kX3_signHere_19 (by decide +kernel)
theorem kX3_signHere_22 : aCode iX3_signHere 22 = some (.aload_n 0, 1) := by decide +kernel
theorem sX3_signHere_22 {d : Nat} {σ : aS} {Q : aQ} {x : Nat} {lt : aL} {st : List Value} : aX d iX3_signHere 22 (some (.ref x) :: lt) (st) σ Q ↔ aX d iX3_signHere 23 (some (.ref x) :: lt) (.ref x :: st) σ Q := X_aloadn kX3_signHere_22 rfl rfl
theorem kX3_signHere_23 : aCode iX3_signHere 23 = some (.getfield 9, 3) := by decide +kernel
theorem sX3_signHere_23 {d : Nat} {σ : aS} {Q : aQ} {a : Nat} {ls : aL} {st : List Value} : aX d iX3_signHere 23 (ls) (.ref a :: st) σ Q ↔ ∃ v, aFld σ a 3 0 = some v ∧ aX d iX3_signHere 26 (ls) (v :: st) σ Q := X_getf (w := 202) kX3_signHere_23 (by decide +kernel)
theorem kX3_signHere_26 : aCode iX3_signHere 26 = some (.arraylength, 1) := by decide +kernel
theorem sX3_signHere_26 {d : Nat} {σ : aS} {Q : aQ} {a : Nat} {ls : aL} {st : List Value} : aX d iX3_signHere 26 (ls) (.ref a :: st) σ Q ↔ ∃ m, aLn σ a = some m ∧ aX d iX3_signHere 27 (ls) (.int (nI m) :: st) σ Q := X_alen kX3_signHere_26
theorem kX3_signHere_27 : aCode iX3_signHere 27 = some (.if_icmp .ge 15, 3) := by decide +kernel
theorem sX3_signHere_27 {d : Nat} {σ : aS} {Q : aQ} {x y : Int32} {ls : aL} {st : List Value} : aX d iX3_signHere 27 (ls) (.int y :: .int x :: st) σ Q ↔ (if y ≤ x then aX d iX3_signHere 42 (ls) (st) σ Q else aX d iX3_signHere 30 (ls) (st) σ Q) := by rw [X_icmp kX3_signHere_27 (t := 42) (by decide)]; simp only [aCmp_ge]
theorem kX3_signHere_30 : aCode iX3_signHere 30 = some (.aload_n 0, 1) := by decide +kernel
theorem sX3_signHere_30 {d : Nat} {σ : aS} {Q : aQ} {x : Nat} {lt : aL} {st : List Value} : aX d iX3_signHere 30 (some (.ref x) :: lt) (st) σ Q ↔ aX d iX3_signHere 31 (some (.ref x) :: lt) (.ref x :: st) σ Q := X_aloadn kX3_signHere_30 rfl rfl
theorem kX3_signHere_31 : aCode iX3_signHere 31 = some (.getfield 9, 3) := by decide +kernel
theorem sX3_signHere_31 {d : Nat} {σ : aS} {Q : aQ} {a : Nat} {ls : aL} {st : List Value} : aX d iX3_signHere 31 (ls) (.ref a :: st) σ Q ↔ ∃ v, aFld σ a 3 0 = some v ∧ aX d iX3_signHere 34 (ls) (v :: st) σ Q := X_getf (w := 202) kX3_signHere_31 (by decide +kernel)
theorem kX3_signHere_34 : aCode iX3_signHere 34 = some (.aload_n 0, 1) := by decide +kernel
theorem sX3_signHere_34 {d : Nat} {σ : aS} {Q : aQ} {x : Nat} {lt : aL} {st : List Value} : aX d iX3_signHere 34 (some (.ref x) :: lt) (st) σ Q ↔ aX d iX3_signHere 35 (some (.ref x) :: lt) (.ref x :: st) σ Q := X_aloadn kX3_signHere_34 rfl rfl
theorem kX3_signHere_35 : aCode iX3_signHere 35 = some (.getfield 36, 3) := by decide +kernel
theorem sX3_signHere_35 {d : Nat} {σ : aS} {Q : aQ} {a : Nat} {ls : aL} {st : List Value} : aX d iX3_signHere 35 (ls) (.ref a :: st) σ Q ↔ ∃ v, aFld σ a 3 2 = some v ∧ aX d iX3_signHere 38 (ls) (v :: st) σ Q := X_getf (w := 205) kX3_signHere_35 (by decide +kernel)
theorem kX3_signHere_38 : aCode iX3_signHere 38 = some (.iaload, 1) := by decide +kernel
theorem sX3_signHere_38 {d : Nat} {σ : aS} {Q : aQ} {a : Nat} {i : Int32} {ls : aL} {st : List Value} : aX d iX3_signHere 38 (ls) (.int i :: .ref a :: st) σ Q ↔ ∃ x, aRowR σ a = some x ∧ vp_in i x.1 ∧ aX d iX3_signHere 39 (ls) (.int (x.2 i.toNatClampNeg) :: st) σ Q := X_iaload kX3_signHere_38
theorem kX3_signHere_39 : aCode iX3_signHere 39 = some (.goto 4, 3) := by decide +kernel
theorem sX3_signHere_39 {d : Nat} {σ : aS} {Q : aQ} {ls : aL} {st : List Value} : aX d iX3_signHere 39 (ls) (st) σ Q ↔ aX d iX3_signHere 43 (ls) (st) σ Q := X_goto kX3_signHere_39 (by decide)
theorem kX3_signHere_42 : aCode iX3_signHere 42 = some (.iconst 0, 1) := by decide +kernel
theorem sX3_signHere_42 {d : Nat} {σ : aS} {Q : aQ} {ls : aL} {st : List Value} : aX d iX3_signHere 42 (ls) (st) σ Q ↔ aX d iX3_signHere 43 (ls) (.int (nI 0) :: st) σ Q := X_iconst kX3_signHere_42 (by decide +kernel)
theorem kX3_signHere_43 : aCode iX3_signHere 43 = some (.ireturn, 1) := by decide +kernel
theorem sX3_signHere_43 {d : Nat} {σ : aS} {Q : aQ} {v : Int32} {ls : aL} : aX d iX3_signHere 43 (ls) ([.int v]) σ Q ↔ Q (some (.int v)) σ := X_iret kX3_signHere_43 (by decide +kernel)
theorem kX4_init_0 : aCode iX4_init 0 = some (.aload_n 0, 1) := by decide +kernel
theorem sX4_init_0 {d : Nat} {σ : aS} {Q : aQ} {x : Nat} {lt : aL} {st : List Value} : aX d iX4_init 0 (some (.ref x) :: lt) (st) σ Q ↔ aX d iX4_init 1 (some (.ref x) :: lt) (.ref x :: st) σ Q := X_aloadn kX4_init_0 rfl rfl
theorem kX4_init_1 : aCode iX4_init 1 = some (.invokespecial 1, 3) := by decide +kernel
theorem sX4_init_1 {d : Nat} {σ : aS} {Q : aQ} {b : Nat} {ls : aL} : aX d iX4_init 1 (ls) (.ref b :: []) σ Q ↔ aX d iX4_init 4 (ls) ([]) σ Q := X_obj (t := 999) (w := 229) kX4_init_1 (by decide +kernel) (by simp only [List.length_cons, List.length_nil]; omega)
theorem kX4_init_4 : aCode iX4_init 4 = some (.aload_n 0, 1) := by decide +kernel
theorem sX4_init_4 {d : Nat} {σ : aS} {Q : aQ} {x : Nat} {lt : aL} {st : List Value} : aX d iX4_init 4 (some (.ref x) :: lt) (st) σ Q ↔ aX d iX4_init 5 (some (.ref x) :: lt) (.ref x :: st) σ Q := X_aloadn kX4_init_4 rfl rfl
theorem kX4_init_5 : aCode iX4_init 5 = some (.new 7, 3) := by decide +kernel
theorem sX4_init_5 {d : Nat} {σ : aS} {Q : aQ} {ls : aL} {st : List Value} : aX d iX4_init 5 (ls) (st) σ Q ↔ aX d iX4_init 8 (ls) (.ref σ.2.1 :: st) (anew σ (eO 5 [.null, .null, .null, .null, .int 0, .int 0, .int 0]) 7) Q := X_new (w := (230, 80, 61)) kX4_init_5 (by decide +kernel) (by decide +kernel) (by decide +kernel)
theorem kX4_init_8 : aCode iX4_init 8 = some (.dup, 1) := by decide +kernel
theorem sX4_init_8 {d : Nat} {σ : aS} {Q : aQ} {x : Nat} {ls : aL} {st : List Value} : aX d iX4_init 8 (ls) (.ref x :: st) σ Q ↔ aX d iX4_init 9 (ls) (.ref x :: .ref x :: st) σ Q := X_dup kX4_init_8 rfl
theorem sX4_init_8i {d : Nat} {σ : aS} {Q : aQ} {x : Int32} {ls : aL} {st : List Value} : aX d iX4_init 8 (ls) (.int x :: st) σ Q ↔ aX d iX4_init 9 (ls) (.int x :: .int x :: st) σ Q := X_dup kX4_init_8 rfl
theorem kX4_init_9 : aCode iX4_init 9 = some (.invokespecial 9, 3) := by decide +kernel
theorem sX4_init_9 {d : Nat} {σ : aS} {Q : aQ} {b : Nat} {v0 v1 : Value} {ls : aL} : aX (d + 1) iX4_init 9 (ls) (.ref b :: v0 :: v1 :: []) σ Q ↔ aIs σ b 5 ∧ aX d iX5_init 0 [some (.ref b), none] [] σ (fun r τ => aX (d + 1) iX4_init 12 (ls) (aret r (v0 :: v1 :: [])) τ Q) := X_invi (N := 0) (As := []) (k := 2) (w := 231) kX4_init_9 (by decide +kernel) (by decide) (by decide +kernel) rfl rfl (by simp only [List.length_cons, List.length_nil]; omega) (by simp only [List.length_cons, List.length_nil]; omega) (by decide +kernel) rfl (Nat.le_of_ble_eq_true rfl)
theorem kX4_init_12 : aCode iX4_init 12 = some (.putfield 10, 3) := by decide +kernel
theorem sX4_init_12 {d : Nat} {σ : aS} {Q : aQ} {x : Nat} {a : Nat} {ls : aL} {st : List Value} : aX d iX4_init 12 (ls) (.ref x :: .ref a :: st) σ Q ↔ ∃ fs, aFds σ a 4 = some fs ∧ 0 < fs.length ∧ aX d iX4_init 15 (ls) (st) (aput σ a (eO 4 (fs.set 0 (.ref x)))) Q := X_putf (w := 232) kX4_init_12 (by decide +kernel) (aFit_R (by decide +kernel)) (by decide +kernel)
theorem kX4_init_15 : aCode iX4_init 15 = some (.return_, 1) := by decide +kernel
theorem sX4_init_15 {d : Nat} {σ : aS} {Q : aQ} {ls : aL} : aX d iX4_init 15 (ls) ([]) σ Q ↔ Q none σ := X_vret kX4_init_15 (by decide +kernel)
