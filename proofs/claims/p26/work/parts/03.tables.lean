/-- a method: name, code, locals, answer, the number of its own file, arguments (without the receiver), 0 by receiver, 1 without, 2 a constructor; where its words stand in lw_tbl -/
abbrev aMeth : Type := MethodName × ByteArray × Nat × Option FieldType × Nat × Nat × Nat × List Nat
def aMeths : List aMeth := [(yX0_init, cX0_init, 1, none, 0, 0, 2, [36, 35, 0, 9]),
  (yX0_start, cX0_start, 3, none, 0, 2, 0, [292, 290, 291, 9]),
  (yX0_addPage, cX0_addPage, 3, none, 0, 2, 0, [296, 294, 295, 9]),
  (yX0_addToldPage, cX0_addToldPage, 2, none, 0, 1, 0, [354, 352, 353, 9]),
  (yX0_copyFrom, cX0_copyFrom, 2, none, 0, 1, 0, [224, 222, 223, 9]),
  (yX0_goesRound, cX0_goesRound, 1, (some .boolean), 0, 0, 0, [288, 286, 287, 9]),
  (yX0_seatOf, cX0_seatOf, 2, (some .int), 0, 1, 0, [376, 374, 375, 9]),
  (yX0_markOf, cX0_markOf, 2, (some .int), 0, 1, 0, [362, 360, 361, 9]),
  (yX0_wasTold, cX0_wasTold, 2, (some .boolean), 0, 1, 0, [430, 428, 429, 9]),
  (yX0_liesAt, cX0_liesAt, 1, (some .int), 0, 0, 0, [334, 332, 333, 9]),
  (yX0_endsWithWord, cX0_endsWithWord, 1, (some .boolean), 0, 0, 0, [309, 307, 308, 9]),
  (yX0_firstWord, cX0_firstWord, 1, (some .int), 0, 0, 0, [347, 345, 346, 9]),
  (yX0_lastWord, cX0_lastWord, 1, (some .int), 0, 0, 0, [342, 340, 341, 9]),
  (yX0_hasFoundWordAgain, cX0_hasFoundWordAgain, 1, (some .boolean), 0, 0, 0, [371, 369, 370, 9]),
  (yX0_wordChanges, cX0_wordChanges, 3, (some .int), 0, 0, 0, [440, 438, 439, 9]),
  (yX0_seatSet, cX0_seatSet, 3, (some .int), 0, 0, 0, [329, 327, 328, 9]),
  (yX1_init, cX1_init, 1, none, 1, 0, 2, [103, 102, 0, 10]),
  (yX1_follow, cX1_follow, 3, none, 1, 2, 0, [481, 479, 480, 10]),
  (yX1_followAll, cX1_followAll, 4, none, 1, 1, 0, [496, 494, 495, 10]),
  (yX1_differenceAtHome, cX1_differenceAtHome, 4, (some .int), 1, 3, 0, [511, 509, 510, 10]),
  (yX1_playToEnd, cX1_playToEnd, 2, none, 1, 1, 0, [486, 485, 5, 10]),
  (yX2_init, cX2_init, 2, none, 2, 0, 2, [124, 123, 0, 11]),
  (yX2_stateAt, cX2_stateAt, 3, (some (.object "DoodleAlbums$Table")), 2, 1, 0, [203, 202, 0, 11]),
  (yX2_prepare, cX2_prepare, 3, none, 2, 1, 0, [199, 197, 198, 11]),
  (yX2_recordUnlessError, cX2_recordUnlessError, 2, (some .int), 2, 1, 0, [242, 240, 241, 11]),
  (yX3_init, cX3_init, 1, none, 3, 0, 2, [146, 145, 0, 12]),
  (yX4_init, cX4_init, 1, none, 4, 0, 2, [166, 165, 0, 13]),
  (yX5_init, cX5_init, 2, none, 5, 0, 2, [29, 28, 0, 8]),
  (yX5_copyFrom, cX5_copyFrom, 5, none, 5, 1, 0, [207, 205, 206, 8]),
  (yX5_placeAt, cX5_placeAt, 2, (some (.object "DoodleAlbums$Album")), 5, 1, 0, [220, 219, 1, 8]),
  (yX5_albumAt, cX5_albumAt, 2, (some (.object "DoodleAlbums$Album")), 5, 1, 0, [284, 282, 283, 8]),
  (yX5_isTaken, cX5_isTaken, 2, (some .boolean), 5, 1, 0, [268, 266, 267, 8]),
  (yX5_changeFeatures, cX5_changeFeatures, 4, (some .int), 5, 2, 0, [229, 227, 228, 8]),
  (yX5_sitDown, cX5_sitDown, 3, (some .int), 5, 2, 0, [250, 248, 249, 8]),
  (yX5_standUp, cX5_standUp, 2, (some .int), 5, 1, 0, [264, 262, 263, 8]),
  (yX5_beginAlbum, cX5_beginAlbum, 4, (some .int), 5, 2, 0, [276, 274, 275, 8]),
  (yX5_tellPage, cX5_tellPage, 5, (some .int), 5, 2, 0, [305, 303, 304, 8]),
  (yX5_makeRound, cX5_makeRound, 3, (some .int), 5, 0, 0, [317, 315, 316, 8]),
  (yX5_clearEnded, cX5_clearEnded, 5, (some .int), 5, 0, 0, [388, 386, 387, 8]),
  (yX5_passOn, cX5_passOn, 4, none, 5, 2, 0, [321, 319, 320, 8]),
  (yX5_nextSeat, cX5_nextSeat, 5, (some .int), 5, 1, 0, [325, 324, 2, 8]),
  (yX5_end, cX5_end, 3, none, 5, 2, 0, [338, 337, 3, 8]),
  (yX5_pageBy, cX5_pageBy, 4, (some .int), 5, 2, 0, [358, 357, 4, 8]),
  (yX5_mostLike, cX5_mostLike, 6, (some .int), 5, 1, 0, [366, 364, 365, 8]),
  (yX5_difference, cX5_difference, 3, (some .int), 5, 2, 0, [446, 444, 445, 8]),
  (yX5_albumGoingRoundOf, cX5_albumGoingRoundOf, 4, (some .int), 5, 1, 0, [280, 278, 279, 8]),
  (yX5_albumsThatAre, cX5_albumsThatAre, 5, (some .int), 5, 1, 0, [380, 378, 379, 8]),
  (yX5_pagesBy, cX5_pagesBy, 5, (some .int), 5, 1, 0, [457, 455, 456, 8]),
  (yX5_allPoints, cX5_allPoints, 3, (some .int), 5, 0, 0, [470, 468, 469, 8]),
  (yX6_init, cX6_init, 2, none, 6, 0, 2, [21, 20, 0, 7]),
  (yX6_teach, cX6_teach, 3, (some .int), 6, 2, 0, [195, 193, 194, 7]),
  (yX6_sit, cX6_sit, 3, (some .int), 6, 2, 0, [246, 244, 245, 7]),
  (yX6_leave, cX6_leave, 2, (some .int), 6, 1, 0, [260, 258, 259, 7]),
  (yX6_begin, cX6_begin, 3, (some .int), 6, 2, 0, [272, 270, 271, 7]),
  (yX6_tell, cX6_tell, 3, (some .int), 6, 2, 0, [301, 299, 300, 7]),
  (yX6_round, cX6_round, 1, (some .int), 6, 0, 0, [313, 311, 312, 7]),
  (yX6_clear, cX6_clear, 1, (some .int), 6, 0, 0, [384, 382, 383, 7]),
  (yX6_of, cX6_of, 4, (some .int), 6, 2, 0, [434, 432, 433, 7]),
  (yX6_page, cX6_page, 5, (some .int), 6, 3, 0, [422, 420, 421, 7]),
  (yX6_seat, cX6_seat, 3, (some .int), 6, 2, 0, [450, 448, 449, 7]),
  (yX6_word, cX6_word, 2, (some .int), 6, 1, 0, [461, 459, 460, 7]),
  (yX6_count, cX6_count, 2, (some .int), 6, 1, 0, [465, 463, 464, 7]),
  (yX6_guess, cX6_guess, 2, (some .int), 6, 1, 0, [502, 500, 501, 7]),
  (yX6_foretold, cX6_foretold, 4, (some .int), 6, 2, 0, [477, 475, 476, 7]),
  (yX6_bestWord, cX6_bestWord, 7, (some .int), 6, 2, 0, [507, 505, 506, 7]),
  (yX6_pointsThen, cX6_pointsThen, 2, (some .int), 6, 1, 0, [492, 490, 491, 7]),
  (yX6_isBelow, cX6_isBelow, 2, (some .boolean), 6, 2, 1, [232, 231, 0, 7]),
  (yX6_valueAt, cX6_valueAt, 2, (some .int), 6, 2, 1, [235, 234, 0, 7]),
  (yX6_setAt, cX6_setAt, 3, none, 6, 3, 1, [238, 237, 0, 7]),
  (yX6_addAt, cX6_addAt, 3, none, 6, 3, 1, [350, 349, 0, 7]),
  (yX6_copyRow, cX6_copyRow, 2, none, 6, 2, 1, [210, 209, 0, 7]),
  (yJ6_bitCount_0f7a4, cJ6_bitCount_0f7a4, 1, (some .int), 8, 1, 1, [253, 252, 0, 16]),
  (yL_cell, cL_cell, 2, (some .int), 11, 2, 1, [391, 390, 0, 6]),
  (yL_low, cL_low, 2, (some .int), 11, 2, 1, [396, 395, 0, 6]),
  (yL_bits, cL_bits, 3, (some .int), 11, 1, 1, [400, 399, 0, 6]),
  (yL_seat, cL_seat, 1, (some .int), 11, 1, 1, [406, 405, 0, 6]),
  (yL_what, cL_what, 1, (some .int), 11, 1, 1, [412, 411, 0, 6]),
  (yL_guess, cL_guess, 4, (some .int), 11, 2, 1, [415, 414, 0, 6]),
  (yL_has, cL_has, 5, (some .boolean), 11, 4, 1, [409, 408, 0, 6]),
  (yL_round, cL_round, 12, none, 11, 7, 1, [403, 402, 0, 6]),
  (yL_same, cL_same, 17, (some .boolean), 11, 7, 1, [418, 417, 0, 6]),
  (yL_would, cL_would, 18, (some .boolean), 11, 11, 1, [473, 472, 0, 6]),
  (yL_law, cL_law, 20, ret, 11, 1, 0, [0, 0, 0, 0])]
def aCodes : List (List (Nat × Instr × Nat)) := [aCode_0, aCode_1, aCode_2, aCode_3, aCode_4, aCode_5, aCode_6, aCode_7, aCode_8, aCode_9, aCode_10, aCode_11, aCode_12, aCode_13, aCode_14, aCode_15, aCode_16, aCode_17, aCode_18, aCode_19, aCode_20, aCode_21, aCode_22, aCode_23, aCode_24, aCode_25, aCode_26, aCode_27, aCode_28, aCode_29, aCode_30, aCode_31, aCode_32, aCode_33, aCode_34, aCode_35, aCode_36, aCode_37, aCode_38, aCode_39, aCode_40, aCode_41, aCode_42, aCode_43, aCode_44, aCode_45, aCode_46, aCode_47, aCode_48, aCode_49, aCode_50, aCode_51, aCode_52, aCode_53, aCode_54, aCode_55, aCode_56, aCode_57, aCode_58, aCode_59, aCode_60, aCode_61, aCode_62, aCode_63, aCode_64, aCode_65, aCode_66, aCode_67, aCode_68, aCode_69, aCode_70, aCode_71, aCode_72, aCode_73, aCode_74, aCode_75, aCode_76, aCode_77, aCode_78, aCode_79, aCode_80, aCode_81, aCode_82]
def aDecs : List aMeth → List (List (Nat × Instr × Nat)) → Prop
  | m :: ms, c :: cs => (∀ q ∈ c, decode m.2.1 q.1 = .ok q.2 ∧ aLenOK q.2.1 q.2.2 = true) ∧ aDecs ms cs
  | _, _ => True
theorem aDecs_at : ∀ (ms : List aMeth) (cs : List (List (Nat × Instr × Nat))) (i : Nat) (m : aMeth) (c : List (Nat × Instr × Nat)), aDecs ms cs → ms[i]? = some m → cs[i]? = some c → ∀ q ∈ c, decode m.2.1 q.1 = .ok q.2 ∧ aLenOK q.2.1 q.2.2 = true
  | [], _, _, _, _, _, h, _ => by simp at h
  | _ :: _, [], _, _, _, _, _, h => by simp at h
  | m0 :: ms, c0 :: cs, 0, m, c, h, h1, h2 => by
    rw [List.getElem?_cons_zero] at h1 h2
    cases h1; cases h2
    exact h.1
  | m0 :: ms, c0 :: cs, i + 1, m, c, h, h1, h2 => by
    rw [List.getElem?_cons_succ] at h1 h2
    exact aDecs_at ms cs i m c h.2 h1 h2
set_option maxRecDepth 100000 in
theorem aDecs_ok : aDecs aMeths aCodes := ⟨aDec_0, aDec_1, aDec_2, aDec_3, aDec_4, aDec_5, aDec_6, aDec_7, aDec_8, aDec_9, aDec_10, aDec_11, aDec_12, aDec_13, aDec_14, aDec_15, aDec_16, aDec_17, aDec_18, aDec_19, aDec_20, aDec_21, aDec_22, aDec_23, aDec_24, aDec_25, aDec_26, aDec_27, aDec_28, aDec_29, aDec_30, aDec_31, aDec_32, aDec_33, aDec_34, aDec_35, aDec_36, aDec_37, aDec_38, aDec_39, aDec_40, aDec_41, aDec_42, aDec_43, aDec_44, aDec_45, aDec_46, aDec_47, aDec_48, aDec_49, aDec_50, aDec_51, aDec_52, aDec_53, aDec_54, aDec_55, aDec_56, aDec_57, aDec_58, aDec_59, aDec_60, aDec_61, aDec_62, aDec_63, aDec_64, aDec_65, aDec_66, aDec_67, aDec_68, aDec_69, aDec_70, aDec_71, aDec_72, aDec_73, aDec_74, aDec_75, aDec_76, aDec_77, aDec_78, aDec_79, aDec_80, aDec_81, aDec_82, trivial⟩
def aTbl : List Cond := lw_tbl.filter goodWord
theorem aTbl_in {i : Nat} {w : Cond} (h : lw_tbl[i]? = some w) (g : goodWord w = true) : w ∈ aTbl := List.mem_filter.mpr ⟨List.mem_of_getElem? h, g⟩
def aMOK (t : aMeth) : Prop := lw_tbl[t.2.2.2.2.2.2.2.getD 0 0]? = some (Cond.code t.1 t.2.1 t.2.2.1 t.2.2.2.1) ∧ goodWord (Cond.code t.1 t.2.1 t.2.2.1 t.2.2.2.1) = true ∧
  (if t.2.2.2.2.2.2.1 = 1 then lw_tbl[t.2.2.2.2.2.2.2.getD 1 0]? = some (Cond.static t.1) ∧ goodWord (Cond.static t.1) = true else lw_tbl[t.2.2.2.2.2.2.2.getD 1 0]? = some (Cond.instanceMethod t.1) ∧ goodWord (Cond.instanceMethod t.1) = true) ∧
  (t.2.2.2.2.2.2.1 = 0 → lw_tbl[t.2.2.2.2.2.2.2.getD 2 0]? = some (Cond.selects t.1.cls t.1 t.1) ∧ goodWord (Cond.selects t.1.cls t.1 t.1) = true) ∧
  (t.2.2.2.2.2.2.1 = 2 → t.1.name = "<init>" ∧ t.2.2.2.1 = none) ∧
  (lw_tbl[t.2.2.2.2.2.2.2.getD 3 0]? = some (Cond.initialized t.1.cls) ∧ goodWord (Cond.initialized t.1.cls) = true) ∧ (t.2.2.2.2.1 < 7 → plainName t.1.cls = true) ∧ t.1.cls ≠ "java/lang/invoke/MethodHandle" ∧ t.1.cls ≠ "java/lang/invoke/VarHandle" ∧ (parseMethodDescriptor t.1.desc).map (fun d => d.parameters.length) = some t.2.2.2.2.2.1 ∧ t.2.2.1 ≤ 18
theorem aMOK_of (t : aMeth) (p : Nat → Cond) (h : aMOK t) : aMOK t := h
def aMethsC : List aMeth := aMeths.take 82
set_option maxRecDepth 100000 in
set_option maxRecDepth 100000 in
theorem aMc_0 : lw_tbl[36]? = some (Cond.code yX0_init cX0_init 1 none) := rfl
set_option maxRecDepth 100000 in
theorem aMc_1 : lw_tbl[292]? = some (Cond.code yX0_start cX0_start 3 none) := rfl
set_option maxRecDepth 100000 in
theorem aMc_2 : lw_tbl[296]? = some (Cond.code yX0_addPage cX0_addPage 3 none) := rfl
set_option maxRecDepth 100000 in
theorem aMc_3 : lw_tbl[354]? = some (Cond.code yX0_addToldPage cX0_addToldPage 2 none) := rfl
set_option maxRecDepth 100000 in
theorem aMc_4 : lw_tbl[224]? = some (Cond.code yX0_copyFrom cX0_copyFrom 2 none) := rfl
set_option maxRecDepth 100000 in
theorem aMc_5 : lw_tbl[288]? = some (Cond.code yX0_goesRound cX0_goesRound 1 (some .boolean)) := rfl
set_option maxRecDepth 100000 in
theorem aMc_6 : lw_tbl[376]? = some (Cond.code yX0_seatOf cX0_seatOf 2 (some .int)) := rfl
set_option maxRecDepth 100000 in
theorem aMc_7 : lw_tbl[362]? = some (Cond.code yX0_markOf cX0_markOf 2 (some .int)) := rfl
set_option maxRecDepth 100000 in
theorem aMc_8 : lw_tbl[430]? = some (Cond.code yX0_wasTold cX0_wasTold 2 (some .boolean)) := rfl
set_option maxRecDepth 100000 in
theorem aMc_9 : lw_tbl[334]? = some (Cond.code yX0_liesAt cX0_liesAt 1 (some .int)) := rfl
set_option maxRecDepth 100000 in
theorem aMc_10 : lw_tbl[309]? = some (Cond.code yX0_endsWithWord cX0_endsWithWord 1 (some .boolean)) := rfl
set_option maxRecDepth 100000 in
theorem aMc_11 : lw_tbl[347]? = some (Cond.code yX0_firstWord cX0_firstWord 1 (some .int)) := rfl
set_option maxRecDepth 100000 in
theorem aMc_12 : lw_tbl[342]? = some (Cond.code yX0_lastWord cX0_lastWord 1 (some .int)) := rfl
set_option maxRecDepth 100000 in
theorem aMc_13 : lw_tbl[371]? = some (Cond.code yX0_hasFoundWordAgain cX0_hasFoundWordAgain 1 (some .boolean)) := rfl
set_option maxRecDepth 100000 in
theorem aMc_14 : lw_tbl[440]? = some (Cond.code yX0_wordChanges cX0_wordChanges 3 (some .int)) := rfl
set_option maxRecDepth 100000 in
theorem aMc_15 : lw_tbl[329]? = some (Cond.code yX0_seatSet cX0_seatSet 3 (some .int)) := rfl
set_option maxRecDepth 100000 in
theorem aMc_16 : lw_tbl[103]? = some (Cond.code yX1_init cX1_init 1 none) := rfl
set_option maxRecDepth 100000 in
theorem aMc_17 : lw_tbl[481]? = some (Cond.code yX1_follow cX1_follow 3 none) := rfl
set_option maxRecDepth 100000 in
theorem aMc_18 : lw_tbl[496]? = some (Cond.code yX1_followAll cX1_followAll 4 none) := rfl
set_option maxRecDepth 100000 in
theorem aMc_19 : lw_tbl[511]? = some (Cond.code yX1_differenceAtHome cX1_differenceAtHome 4 (some .int)) := rfl
set_option maxRecDepth 100000 in
theorem aMc_20 : lw_tbl[486]? = some (Cond.code yX1_playToEnd cX1_playToEnd 2 none) := rfl
set_option maxRecDepth 100000 in
theorem aMc_21 : lw_tbl[124]? = some (Cond.code yX2_init cX2_init 2 none) := rfl
set_option maxRecDepth 100000 in
theorem aMc_22 : lw_tbl[203]? = some (Cond.code yX2_stateAt cX2_stateAt 3 (some (.object "DoodleAlbums$Table"))) := rfl
set_option maxRecDepth 100000 in
theorem aMc_23 : lw_tbl[199]? = some (Cond.code yX2_prepare cX2_prepare 3 none) := rfl
set_option maxRecDepth 100000 in
theorem aMc_24 : lw_tbl[242]? = some (Cond.code yX2_recordUnlessError cX2_recordUnlessError 2 (some .int)) := rfl
set_option maxRecDepth 100000 in
theorem aMc_25 : lw_tbl[146]? = some (Cond.code yX3_init cX3_init 1 none) := rfl
set_option maxRecDepth 100000 in
theorem aMc_26 : lw_tbl[166]? = some (Cond.code yX4_init cX4_init 1 none) := rfl
set_option maxRecDepth 100000 in
theorem aMc_27 : lw_tbl[29]? = some (Cond.code yX5_init cX5_init 2 none) := rfl
set_option maxRecDepth 100000 in
theorem aMc_28 : lw_tbl[207]? = some (Cond.code yX5_copyFrom cX5_copyFrom 5 none) := rfl
set_option maxRecDepth 100000 in
theorem aMc_29 : lw_tbl[220]? = some (Cond.code yX5_placeAt cX5_placeAt 2 (some (.object "DoodleAlbums$Album"))) := rfl
set_option maxRecDepth 100000 in
theorem aMc_30 : lw_tbl[284]? = some (Cond.code yX5_albumAt cX5_albumAt 2 (some (.object "DoodleAlbums$Album"))) := rfl
set_option maxRecDepth 100000 in
theorem aMc_31 : lw_tbl[268]? = some (Cond.code yX5_isTaken cX5_isTaken 2 (some .boolean)) := rfl
set_option maxRecDepth 100000 in
theorem aMc_32 : lw_tbl[229]? = some (Cond.code yX5_changeFeatures cX5_changeFeatures 4 (some .int)) := rfl
set_option maxRecDepth 100000 in
theorem aMc_33 : lw_tbl[250]? = some (Cond.code yX5_sitDown cX5_sitDown 3 (some .int)) := rfl
set_option maxRecDepth 100000 in
theorem aMc_34 : lw_tbl[264]? = some (Cond.code yX5_standUp cX5_standUp 2 (some .int)) := rfl
set_option maxRecDepth 100000 in
theorem aMc_35 : lw_tbl[276]? = some (Cond.code yX5_beginAlbum cX5_beginAlbum 4 (some .int)) := rfl
set_option maxRecDepth 100000 in
theorem aMc_36 : lw_tbl[305]? = some (Cond.code yX5_tellPage cX5_tellPage 5 (some .int)) := rfl
set_option maxRecDepth 100000 in
theorem aMc_37 : lw_tbl[317]? = some (Cond.code yX5_makeRound cX5_makeRound 3 (some .int)) := rfl
set_option maxRecDepth 100000 in
theorem aMc_38 : lw_tbl[388]? = some (Cond.code yX5_clearEnded cX5_clearEnded 5 (some .int)) := rfl
set_option maxRecDepth 100000 in
theorem aMc_39 : lw_tbl[321]? = some (Cond.code yX5_passOn cX5_passOn 4 none) := rfl
set_option maxRecDepth 100000 in
theorem aMc_40 : lw_tbl[325]? = some (Cond.code yX5_nextSeat cX5_nextSeat 5 (some .int)) := rfl
set_option maxRecDepth 100000 in
theorem aMc_41 : lw_tbl[338]? = some (Cond.code yX5_end cX5_end 3 none) := rfl
set_option maxRecDepth 100000 in
theorem aMc_42 : lw_tbl[358]? = some (Cond.code yX5_pageBy cX5_pageBy 4 (some .int)) := rfl
set_option maxRecDepth 100000 in
theorem aMc_43 : lw_tbl[366]? = some (Cond.code yX5_mostLike cX5_mostLike 6 (some .int)) := rfl
set_option maxRecDepth 100000 in
theorem aMc_44 : lw_tbl[446]? = some (Cond.code yX5_difference cX5_difference 3 (some .int)) := rfl
set_option maxRecDepth 100000 in
theorem aMc_45 : lw_tbl[280]? = some (Cond.code yX5_albumGoingRoundOf cX5_albumGoingRoundOf 4 (some .int)) := rfl
set_option maxRecDepth 100000 in
theorem aMc_46 : lw_tbl[380]? = some (Cond.code yX5_albumsThatAre cX5_albumsThatAre 5 (some .int)) := rfl
set_option maxRecDepth 100000 in
theorem aMc_47 : lw_tbl[457]? = some (Cond.code yX5_pagesBy cX5_pagesBy 5 (some .int)) := rfl
set_option maxRecDepth 100000 in
theorem aMc_48 : lw_tbl[470]? = some (Cond.code yX5_allPoints cX5_allPoints 3 (some .int)) := rfl
set_option maxRecDepth 100000 in
theorem aMc_49 : lw_tbl[21]? = some (Cond.code yX6_init cX6_init 2 none) := rfl
set_option maxRecDepth 100000 in
theorem aMc_50 : lw_tbl[195]? = some (Cond.code yX6_teach cX6_teach 3 (some .int)) := rfl
set_option maxRecDepth 100000 in
theorem aMc_51 : lw_tbl[246]? = some (Cond.code yX6_sit cX6_sit 3 (some .int)) := rfl
set_option maxRecDepth 100000 in
theorem aMc_52 : lw_tbl[260]? = some (Cond.code yX6_leave cX6_leave 2 (some .int)) := rfl
set_option maxRecDepth 100000 in
theorem aMc_53 : lw_tbl[272]? = some (Cond.code yX6_begin cX6_begin 3 (some .int)) := rfl
set_option maxRecDepth 100000 in
theorem aMc_54 : lw_tbl[301]? = some (Cond.code yX6_tell cX6_tell 3 (some .int)) := rfl
set_option maxRecDepth 100000 in
theorem aMc_55 : lw_tbl[313]? = some (Cond.code yX6_round cX6_round 1 (some .int)) := rfl
set_option maxRecDepth 100000 in
theorem aMc_56 : lw_tbl[384]? = some (Cond.code yX6_clear cX6_clear 1 (some .int)) := rfl
set_option maxRecDepth 100000 in
theorem aMc_57 : lw_tbl[434]? = some (Cond.code yX6_of cX6_of 4 (some .int)) := rfl
set_option maxRecDepth 100000 in
theorem aMc_58 : lw_tbl[422]? = some (Cond.code yX6_page cX6_page 5 (some .int)) := rfl
set_option maxRecDepth 100000 in
theorem aMc_59 : lw_tbl[450]? = some (Cond.code yX6_seat cX6_seat 3 (some .int)) := rfl
set_option maxRecDepth 100000 in
theorem aMc_60 : lw_tbl[461]? = some (Cond.code yX6_word cX6_word 2 (some .int)) := rfl
set_option maxRecDepth 100000 in
theorem aMc_61 : lw_tbl[465]? = some (Cond.code yX6_count cX6_count 2 (some .int)) := rfl
set_option maxRecDepth 100000 in
theorem aMc_62 : lw_tbl[502]? = some (Cond.code yX6_guess cX6_guess 2 (some .int)) := rfl
set_option maxRecDepth 100000 in
theorem aMc_63 : lw_tbl[477]? = some (Cond.code yX6_foretold cX6_foretold 4 (some .int)) := rfl
set_option maxRecDepth 100000 in
theorem aMc_64 : lw_tbl[507]? = some (Cond.code yX6_bestWord cX6_bestWord 7 (some .int)) := rfl
set_option maxRecDepth 100000 in
theorem aMc_65 : lw_tbl[492]? = some (Cond.code yX6_pointsThen cX6_pointsThen 2 (some .int)) := rfl
set_option maxRecDepth 100000 in
theorem aMc_66 : lw_tbl[232]? = some (Cond.code yX6_isBelow cX6_isBelow 2 (some .boolean)) := rfl
set_option maxRecDepth 100000 in
theorem aMc_67 : lw_tbl[235]? = some (Cond.code yX6_valueAt cX6_valueAt 2 (some .int)) := rfl
set_option maxRecDepth 100000 in
theorem aMc_68 : lw_tbl[238]? = some (Cond.code yX6_setAt cX6_setAt 3 none) := rfl
set_option maxRecDepth 100000 in
theorem aMc_69 : lw_tbl[350]? = some (Cond.code yX6_addAt cX6_addAt 3 none) := rfl
set_option maxRecDepth 100000 in
theorem aMc_70 : lw_tbl[210]? = some (Cond.code yX6_copyRow cX6_copyRow 2 none) := rfl
set_option maxRecDepth 100000 in
theorem aMc_71 : lw_tbl[253]? = some (Cond.code yJ6_bitCount_0f7a4 cJ6_bitCount_0f7a4 1 (some .int)) := rfl
set_option maxRecDepth 100000 in
theorem aMc_72 : lw_tbl[391]? = some (Cond.code yL_cell cL_cell 2 (some .int)) := rfl
set_option maxRecDepth 100000 in
theorem aMc_73 : lw_tbl[396]? = some (Cond.code yL_low cL_low 2 (some .int)) := rfl
set_option maxRecDepth 100000 in
theorem aMc_74 : lw_tbl[400]? = some (Cond.code yL_bits cL_bits 3 (some .int)) := rfl
set_option maxRecDepth 100000 in
theorem aMc_75 : lw_tbl[406]? = some (Cond.code yL_seat cL_seat 1 (some .int)) := rfl
set_option maxRecDepth 100000 in
theorem aMc_76 : lw_tbl[412]? = some (Cond.code yL_what cL_what 1 (some .int)) := rfl
set_option maxRecDepth 100000 in
theorem aMc_77 : lw_tbl[415]? = some (Cond.code yL_guess cL_guess 4 (some .int)) := rfl
set_option maxRecDepth 100000 in
theorem aMc_78 : lw_tbl[409]? = some (Cond.code yL_has cL_has 5 (some .boolean)) := rfl
set_option maxRecDepth 100000 in
theorem aMc_79 : lw_tbl[403]? = some (Cond.code yL_round cL_round 12 none) := rfl
set_option maxRecDepth 100000 in
theorem aMc_80 : lw_tbl[418]? = some (Cond.code yL_same cL_same 17 (some .boolean)) := rfl
set_option maxRecDepth 100000 in
theorem aMc_81 : lw_tbl[473]? = some (Cond.code yL_would cL_would 18 (some .boolean)) := rfl
def aCodesIn : List aMeth → Prop
  | t :: ms => lw_tbl[t.2.2.2.2.2.2.2.getD 0 0]? = some (Cond.code t.1 t.2.1 t.2.2.1 t.2.2.2.1) ∧ aCodesIn ms
  | [] => True
theorem aCodesIn_at : ∀ (ms : List aMeth), aCodesIn ms → ∀ t ∈ ms, lw_tbl[t.2.2.2.2.2.2.2.getD 0 0]? = some (Cond.code t.1 t.2.1 t.2.2.1 t.2.2.2.1)
  | [], _, t, h => absurd h List.not_mem_nil
  | m :: ms, h, t, ht => by
    rcases List.mem_cons.mp ht with rfl | ht
    · exact h.1
    · exact aCodesIn_at ms h.2 t ht
set_option maxRecDepth 100000 in
theorem aMs_ok1 : ∀ t ∈ aMethsC, lw_tbl[t.2.2.2.2.2.2.2.getD 0 0]? = some (Cond.code t.1 t.2.1 t.2.2.1 t.2.2.2.1) := aCodesIn_at _ ⟨aMc_0, aMc_1, aMc_2, aMc_3, aMc_4, aMc_5, aMc_6, aMc_7, aMc_8, aMc_9, aMc_10, aMc_11, aMc_12, aMc_13, aMc_14, aMc_15, aMc_16, aMc_17, aMc_18, aMc_19, aMc_20, aMc_21, aMc_22, aMc_23, aMc_24, aMc_25, aMc_26, aMc_27, aMc_28, aMc_29, aMc_30, aMc_31, aMc_32, aMc_33, aMc_34, aMc_35, aMc_36, aMc_37, aMc_38, aMc_39, aMc_40, aMc_41, aMc_42, aMc_43, aMc_44, aMc_45, aMc_46, aMc_47, aMc_48, aMc_49, aMc_50, aMc_51, aMc_52, aMc_53, aMc_54, aMc_55, aMc_56, aMc_57, aMc_58, aMc_59, aMc_60, aMc_61, aMc_62, aMc_63, aMc_64, aMc_65, aMc_66, aMc_67, aMc_68, aMc_69, aMc_70, aMc_71, aMc_72, aMc_73, aMc_74, aMc_75, aMc_76, aMc_77, aMc_78, aMc_79, aMc_80, aMc_81, trivial⟩
set_option maxRecDepth 100000 in
theorem aMs_ok2 : ∀ t ∈ aMethsC, goodWord (Cond.code t.1 t.2.1 t.2.2.1 t.2.2.2.1) = true := by decide +kernel
set_option maxRecDepth 100000 in
theorem aMs_ok3 : ∀ t ∈ aMethsC, (if t.2.2.2.2.2.2.1 = 1 then lw_tbl[t.2.2.2.2.2.2.2.getD 1 0]? = some (Cond.static t.1) ∧ goodWord (Cond.static t.1) = true else lw_tbl[t.2.2.2.2.2.2.2.getD 1 0]? = some (Cond.instanceMethod t.1) ∧ goodWord (Cond.instanceMethod t.1) = true) := by decide +kernel
set_option maxRecDepth 100000 in
theorem aMs_ok4 : ∀ t ∈ aMethsC, (t.2.2.2.2.2.2.1 = 0 → lw_tbl[t.2.2.2.2.2.2.2.getD 2 0]? = some (Cond.selects t.1.cls t.1 t.1) ∧ goodWord (Cond.selects t.1.cls t.1 t.1) = true) := by decide +kernel
set_option maxRecDepth 100000 in
theorem aMs_ok5 : ∀ t ∈ aMethsC, (t.2.2.2.2.2.2.1 = 2 → t.1.name = "<init>" ∧ t.2.2.2.1 = none) := by decide +kernel
set_option maxRecDepth 100000 in
theorem aMs_ok6 : ∀ t ∈ aMethsC, (lw_tbl[t.2.2.2.2.2.2.2.getD 3 0]? = some (Cond.initialized t.1.cls) ∧ goodWord (Cond.initialized t.1.cls) = true) := by decide +kernel
set_option maxRecDepth 100000 in
theorem aMs_ok7 : ∀ t ∈ aMethsC, t.2.2.2.2.1 < 7 → plainName t.1.cls = true := by decide +kernel
set_option maxRecDepth 100000 in
theorem aMs_ok8 : ∀ t ∈ aMethsC, t.1.cls ≠ "java/lang/invoke/MethodHandle" ∧ t.1.cls ≠ "java/lang/invoke/VarHandle" := by decide +kernel
set_option maxRecDepth 100000 in
theorem aMs_ok9 : ∀ t ∈ aMethsC, (parseMethodDescriptor t.1.desc).map (fun d => d.parameters.length) = some t.2.2.2.2.2.1 := by decide +kernel
set_option maxRecDepth 100000 in
theorem aMs_ok10 : ∀ t ∈ aMethsC, t.2.2.1 ≤ 18 := by decide +kernel
theorem aMs_ok : ∀ t ∈ aMethsC, aMOK t := fun t h => ⟨aMs_ok1 t h, aMs_ok2 t h, aMs_ok3 t h, aMs_ok4 t h, aMs_ok5 t h, aMs_ok6 t h, aMs_ok7 t h, (aMs_ok8 t h).1, (aMs_ok8 t h).2, aMs_ok9 t h, aMs_ok10 t h⟩
def aCn : List String := [RX0, RX1, RX2, RX3, RX4, RX5, RX6, RX7, RJ6, RJ9, RJ10, RL]
def aClass (i : Nat) : String := aCn.getD i ""
def lF : List (Nat × Nat × Nat × Nat × Nat) := [(0, 9, 0, 0, 38), (0, 15, 0, 1, 39), (0, 22, 0, 2, 40), (6, 79, 0, 2, 41), (5, 136, 0, 2, 42), (0, 25, 0, 3, 43), (6, 85, 0, 3, 44), (5, 120, 0, 3, 45), (0, 28, 0, 4, 46), (6, 91, 0, 4, 47), (5, 139, 0, 4, 48), (0, 18, 0, 5, 49), (6, 100, 0, 5, 50), (5, 89, 0, 5, 51), (0, 31, 0, 6, 52), (5, 9, 5, 0, 69), (6, 146, 5, 0, 70), (5, 15, 5, 1, 71), (6, 129, 5, 1, 72), (5, 18, 5, 2, 73), (1, 30, 5, 2, 74), (6, 137, 5, 2, 75), (5, 23, 5, 3, 76), (5, 32, 5, 4, 77), (6, 149, 5, 4, 78), (5, 39, 5, 5, 79), (1, 37, 5, 5, 80), (6, 152, 5, 5, 81), (5, 36, 5, 6, 82), (6, 158, 5, 6, 83), (1, 12, 1, 0, 107), (6, 175, 1, 0, 108), (1, 18, 1, 1, 109), (6, 187, 1, 1, 110), (1, 60, 1, 2, 111), (6, 179, 1, 2, 112), (2, 11, 2, 0, 129), (2, 18, 2, 1, 130), (2, 22, 2, 2, 131), (6, 167, 2, 2, 132), (3, 9, 3, 0, 148), (6, 164, 3, 1, 149), (4, 10, 4, 0, 170), (6, 12, 6, 0, 176), (6, 19, 6, 1, 177), (6, 26, 6, 2, 178), (6, 32, 6, 3, 179), (6, 39, 6, 4, 180)]
def lM : List (Nat × Nat × Nat × Nat × Nat) := [(11, 66, 49, 2, 19), (6, 3, 999, 5, 22), (6, 11, 27, 2, 27), (5, 3, 999, 5, 30), (5, 27, 0, 3, 34), (0, 3, 999, 5, 37), (6, 18, 16, 3, 101), (1, 3, 999, 5, 104), (1, 11, 0, 3, 106), (6, 25, 21, 2, 122), (2, 3, 999, 5, 125), (2, 17, 27, 2, 128), (6, 38, 25, 3, 144), (3, 3, 999, 5, 147), (6, 43, 26, 3, 164), (4, 1, 999, 5, 167), (4, 9, 27, 2, 169), (11, 83, 50, 0, 192), (6, 44, 23, 0, 196), (2, 25, 22, 0, 200), (2, 29, 28, 0, 204), (5, 28, 70, 4, 208), (6, 234, 999, 7, 211), (6, 239, 999, 6, 214), (5, 42, 29, 0, 217), (5, 46, 4, 0, 221), (0, 42, 70, 4, 225), (6, 48, 32, 0, 226), (5, 50, 66, 4, 230), (5, 54, 67, 4, 233), (5, 58, 68, 4, 236), (6, 52, 24, 0, 239), (11, 71, 51, 0, 243), (6, 56, 33, 0, 247), (5, 62, 71, 1, 251), (11, 74, 52, 0, 257), (6, 59, 34, 0, 261), (5, 68, 31, 0, 265), (11, 77, 53, 0, 269), (6, 62, 35, 0, 273), (5, 72, 45, 0, 277), (5, 79, 30, 0, 281), (5, 86, 5, 0, 285), (5, 75, 1, 0, 289), (0, 34, 2, 0, 293), (0, 38, 68, 4, 297), (11, 80, 54, 0, 298), (6, 65, 36, 0, 302), (5, 82, 10, 0, 306), (11, 90, 55, 0, 310), (6, 68, 37, 0, 314), (5, 92, 39, 0, 318), (5, 99, 40, 0, 322), (5, 129, 15, 0, 326), (0, 46, 67, 4, 330), (5, 133, 9, 0, 331), (5, 103, 41, 0, 335), (5, 142, 12, 0, 339), (0, 50, 10, 0, 343), (5, 145, 11, 0, 344), (5, 126, 69, 4, 348), (5, 106, 3, 0, 351), (5, 110, 42, 0, 355), (5, 148, 7, 0, 359), (5, 151, 43, 0, 363), (5, 114, 2, 0, 367), (5, 117, 13, 0, 368), (0, 54, 7, 0, 372), (5, 123, 6, 0, 373), (5, 96, 46, 0, 377), (11, 86, 56, 0, 381), (6, 72, 38, 0, 385), (11, 67, 72, 1, 389), (11, 58, 73, 1, 394), (11, 10, 74, 1, 398), (11, 48, 79, 1, 401), (11, 16, 75, 1, 404), (11, 19, 78, 1, 407), (11, 23, 76, 1, 410), (11, 26, 77, 1, 413), (11, 92, 80, 1, 416), (11, 30, 58, 0, 419), (6, 75, 30, 0, 423), (6, 112, 66, 1, 424), (6, 116, 6, 0, 425), (6, 119, 7, 0, 426), (6, 122, 8, 0, 427), (11, 36, 57, 0, 431), (6, 88, 9, 0, 435), (6, 94, 12, 0, 436), (6, 97, 14, 0, 437), (6, 103, 15, 0, 441), (6, 106, 11, 0, 442), (6, 109, 44, 0, 443), (11, 40, 59, 0, 447), (6, 126, 31, 0, 451), (6, 133, 67, 1, 452), (6, 140, 45, 0, 453), (6, 143, 47, 0, 454), (11, 42, 60, 0, 458), (11, 45, 61, 0, 462), (6, 155, 46, 0, 466), (6, 161, 48, 0, 467), (11, 96, 81, 1, 471), (11, 52, 63, 0, 474), (6, 171, 17, 0, 478), (1, 22, 4, 0, 482), (1, 26, 20, 0, 483), (1, 63, 5, 0, 487), (1, 67, 39, 0, 488), (11, 55, 65, 0, 489), (6, 184, 18, 0, 493), (1, 33, 70, 4, 497), (1, 41, 30, 0, 498), (11, 61, 62, 0, 499), (6, 168, 43, 0, 503), (11, 63, 64, 0, 504), (6, 180, 19, 0, 508), (1, 45, 1, 0, 512), (1, 49, 11, 0, 513), (1, 53, 12, 0, 514), (1, 56, 44, 0, 515)]
def lC : List (Nat × Nat × Nat × Nat × Nat × Nat) := [(11, 31, 6, 17, 18, 7), (6, 9, 5, 25, 26, 8), (5, 21, 0, 31, 33, 9), (6, 16, 1, 99, 100, 10), (1, 9, 0, 105, 33, 9), (6, 23, 2, 120, 121, 11), (2, 9, 5, 126, 26, 8), (6, 30, 4, 140, 163, 13), (6, 36, 3, 142, 143, 12), (4, 7, 5, 168, 26, 8)]
def lI : List (Nat × Nat × Int32 × Nat) := [(8, 265, 1431655765, 254), (8, 266, 858993459, 255), (8, 267, 252645135, 256), (11, 7, 991911289, 392), (11, 8, 748579405, 393), (11, 9, 2147483647, 397)]
def lJ : List (Nat × Nat × Int64 × Nat) := []
def aNw (i : Nat) : vw_C := vwCl.getD i ("", TX0, 0)
def aName (t : Nat) : MethodName := (aMeths.getD t (yL_law, cL_law, 0, none, 0, 0, 0, [])).1
def lFOK (q : Nat × Nat × Nat × Nat × Nat) : Prop := lw_tbl[q.2.2.2.2]? = some (Cond.fieldLink (aClass q.1) q.2.1 ((aNw q.2.2.1).2.1 q.2.2.2.1).1 ((aNw q.2.2.1).2.1 q.2.2.2.1).2.1 ((aNw q.2.2.1).2.1 q.2.2.2.1).2.2.1) ∧ goodWord (Cond.fieldLink (aClass q.1) q.2.1 ((aNw q.2.2.1).2.1 q.2.2.2.1).1 ((aNw q.2.2.1).2.1 q.2.2.2.1).2.1 ((aNw q.2.2.1).2.1 q.2.2.2.1).2.2.1) = true ∧ q.2.2.1 < 7 ∧ q.2.2.2.1 < (aNw q.2.2.1).2.2
def lMOK (q : Nat × Nat × Nat × Nat × Nat) : Prop := (q.2.2.2.1 = 0 ∨ q.2.2.2.1 = 1 ∨ q.2.2.2.1 = 2 → lw_tbl[q.2.2.2.2]? = some (Cond.methodLink (aClass q.1) q.2.1 (aName q.2.2.1)) ∧ goodWord (Cond.methodLink (aClass q.1) q.2.1 (aName q.2.2.1)) = true) ∧ (q.2.2.2.1 = 3 ∨ q.2.2.2.1 = 4 → lw_tbl[q.2.2.2.2]? = some (Cond.methodLinkNest (aClass q.1) q.2.1 (aName q.2.2.1) RX6)) ∧ (q.2.2.2.1 = 5 → lw_tbl[q.2.2.2.2]? = some (Cond.methodLink (aClass q.1) q.2.1 objectInit) ∧ goodWord (Cond.methodLink (aClass q.1) q.2.1 objectInit) = true) ∧ (q.2.2.2.1 = 6 → lw_tbl[q.2.2.2.2]? = some (Cond.methodLink (aClass q.1) q.2.1 arraycopyName) ∧ goodWord (Cond.methodLink (aClass q.1) q.2.1 arraycopyName) = true) ∧ (q.2.2.2.1 = 7 → lw_tbl[q.2.2.2.2]? = some (Cond.methodLink (aClass q.1) q.2.1 Lib.Math.min.name) ∧ goodWord (Cond.methodLink (aClass q.1) q.2.1 Lib.Math.min.name) = true) ∧ q.2.2.2.1 < 8 ∧ (q.2.2.2.1 < 5 → q.2.2.1 < 82 ∧ (aMeths.getD q.2.2.1 (yL_law, cL_law, 0, none, 0, 0, 0, [])).2.2.2.2.2.2.1 = (if q.2.2.2.1 = 3 then 2 else if q.2.2.2.1 = 4 then 1 else q.2.2.2.1))
def lCOK (q : Nat × Nat × Nat × Nat × Nat × Nat) : Prop := lw_tbl[q.2.2.2.1]? = some (Cond.classLink (aClass q.1) q.2.1 (aNw q.2.2.1).1) ∧ goodWord (Cond.classLink (aClass q.1) q.2.1 (aNw q.2.2.1).1) = true ∧ lw_tbl[q.2.2.2.2.1]? = some (Cond.instantiable (aNw q.2.2.1).1 (aNw q.2.2.1).2.2) ∧ goodWord (Cond.instantiable (aNw q.2.2.1).1 (aNw q.2.2.1).2.2) = true ∧ lw_tbl[q.2.2.2.2.2]? = some (Cond.initialized (aNw q.2.2.1).1) ∧ goodWord (Cond.initialized (aNw q.2.2.1).1) = true ∧ q.2.2.1 < 7
def lIOK (q : Nat × Nat × Int32 × Nat) : Prop := lw_tbl[q.2.2.2]? = some (Cond.constant (aClass q.1) q.2.1 q.2.2.1) ∧ goodWord (Cond.constant (aClass q.1) q.2.1 q.2.2.1) = true
def lJOK (q : Nat × Nat × Int64 × Nat) : Prop := lw_tbl[q.2.2.2]? = some (Cond.constantLong (aClass q.1) q.2.1 q.2.2.1) ∧ goodWord (Cond.constantLong (aClass q.1) q.2.1 q.2.2.1) = true
set_option maxRecDepth 100000 in
theorem lF_ok : ∀ q ∈ lF, lFOK q := by
  unfold lFOK
  decide +kernel
set_option maxRecDepth 100000 in
theorem lM_ok : ∀ q ∈ lM, lMOK q := by
  unfold lMOK
  decide +kernel
set_option maxRecDepth 100000 in
theorem lC_ok : ∀ q ∈ lC, lCOK q := by
  unfold lCOK
  decide +kernel
set_option maxRecDepth 100000 in
theorem lI_ok : ∀ q ∈ lI, lIOK q := by
  unfold lIOK
  decide +kernel
set_option maxRecDepth 100000 in
theorem lJ_ok : ∀ q ∈ lJ, lJOK q := by
  unfold lJOK
  decide +kernel
theorem aW_objI : lw_tbl[23]? = some (Cond.instanceMethod objectInit) ∧ goodWord (Cond.instanceMethod objectInit) = true := by decide +kernel
theorem aW_objC : lw_tbl[24]? = some (Cond.code objectInit ⟨#[0xb1]⟩ 1 none) ∧ goodWord (Cond.code objectInit ⟨#[0xb1]⟩ 1 none) = true := by decide +kernel
theorem aW_acN : lw_tbl[216]? = some (Cond.native arraycopyName) ∧ goodWord (Cond.native arraycopyName) = true := by decide +kernel
theorem aW_acS : lw_tbl[215]? = some (Cond.static arraycopyName) ∧ goodWord (Cond.static arraycopyName) = true := by decide +kernel
theorem aW_acI : lw_tbl[15]? = some (Cond.initialized "java/lang/System") ∧ goodWord (Cond.initialized "java/lang/System") = true := by decide +kernel
theorem aW_arr : lw_tbl[68]? = some (Cond.arrayClass .int) ∧ goodWord (Cond.arrayClass .int) = true := by decide +kernel
theorem aW_mmS : lw_tbl[212]? = some (Cond.static Lib.Math.min.name) ∧ goodWord (Cond.static Lib.Math.min.name) = true := by decide +kernel
theorem aW_mmI : lw_tbl[14]? = some (Cond.initialized "java/lang/Math") ∧ goodWord (Cond.initialized "java/lang/Math") = true := by decide +kernel
theorem aW_mmC : lw_tbl[213]? = some (Cond.code Lib.Math.min.name Lib.Math.min.code 2 (some .int)) ∧ goodWord (Cond.code Lib.Math.min.name Lib.Math.min.code 2 (some .int)) = true := by decide +kernel
theorem aW_ao1 : lw_tbl[32]? = some (Cond.arrayOver (.object RX0)) := by decide +kernel
theorem aW_ao2 : lw_tbl[127]? = some (Cond.arrayOver (.object RX5)) := by decide +kernel
theorem aW_ao3 : lw_tbl[141]? = some (Cond.arrayOver (.object RX4)) := by decide +kernel
theorem aW_lay : ∀ q ∈ vwCl, ∀ w ∈ u_ws q.1 q.2.1 q.2.2, goodWord w = true ∧ w ∈ lw_tbl := by decide +kernel
theorem aW_inst : ∀ q ∈ vwCl, Cond.instantiable q.1 q.2.2 ∈ aTbl := by decide +kernel
