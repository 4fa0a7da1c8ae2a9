/-- a method: name, code, locals, answer, the number of its own file, arguments (without the receiver), 0 by receiver, 1 without, 2 a constructor; where its words stand in lw_tbl -/
abbrev aMeth : Type := MethodName × ByteArray × Nat × Option FieldType × Nat × Nat × Nat × List Nat
def aMeths : List aMeth := [(yX0_init, cX0_init, 1, none, 0, 0, 2, [90, 89, 0, 62]),
  (yX0_start, cX0_start, 3, none, 0, 2, 0, [356, 354, 355, 62]),
  (yX0_addPage, cX0_addPage, 3, none, 0, 2, 0, [360, 358, 359, 62]),
  (yX0_addToldPage, cX0_addToldPage, 2, none, 0, 1, 0, [418, 416, 417, 62]),
  (yX0_copyFrom, cX0_copyFrom, 2, none, 0, 1, 0, [288, 286, 287, 62]),
  (yX0_goesRound, cX0_goesRound, 1, (some .boolean), 0, 0, 0, [352, 350, 351, 62]),
  (yX0_seatOf, cX0_seatOf, 2, (some .int), 0, 1, 0, [440, 438, 439, 62]),
  (yX0_markOf, cX0_markOf, 2, (some .int), 0, 1, 0, [426, 424, 425, 62]),
  (yX0_wasTold, cX0_wasTold, 2, (some .boolean), 0, 1, 0, [480, 478, 479, 62]),
  (yX0_liesAt, cX0_liesAt, 1, (some .int), 0, 0, 0, [398, 396, 397, 62]),
  (yX0_endsWithWord, cX0_endsWithWord, 1, (some .boolean), 0, 0, 0, [373, 371, 372, 62]),
  (yX0_firstWord, cX0_firstWord, 1, (some .int), 0, 0, 0, [411, 409, 410, 62]),
  (yX0_lastWord, cX0_lastWord, 1, (some .int), 0, 0, 0, [406, 404, 405, 62]),
  (yX0_hasFoundWordAgain, cX0_hasFoundWordAgain, 1, (some .boolean), 0, 0, 0, [435, 433, 434, 62]),
  (yX0_wordChanges, cX0_wordChanges, 3, (some .int), 0, 0, 0, [463, 461, 462, 62]),
  (yX0_seatSet, cX0_seatSet, 3, (some .int), 0, 0, 0, [393, 391, 392, 62]),
  (yX1_init, cX1_init, 1, none, 1, 0, 2, [157, 156, 0, 63]),
  (yX1_follow, cX1_follow, 3, none, 1, 2, 0, [517, 515, 516, 63]),
  (yX1_followAll, cX1_followAll, 4, none, 1, 1, 0, [544, 542, 543, 63]),
  (yX1_differenceAtHome, cX1_differenceAtHome, 4, (some .int), 1, 3, 0, [532, 530, 531, 63]),
  (yX1_playToEnd, cX1_playToEnd, 2, none, 1, 1, 0, [522, 521, 5, 63]),
  (yX2_init, cX2_init, 2, none, 2, 0, 2, [178, 177, 0, 64]),
  (yX2_stateAt, cX2_stateAt, 3, (some (.object "DoodleAlbums$Table")), 2, 1, 0, [267, 266, 0, 64]),
  (yX2_prepare, cX2_prepare, 3, none, 2, 1, 0, [263, 261, 262, 64]),
  (yX2_recordUnlessError, cX2_recordUnlessError, 2, (some .int), 2, 1, 0, [306, 304, 305, 64]),
  (yX2_takeBack, cX2_takeBack, 3, (some .int), 2, 1, 0, [630, 628, 629, 64]),
  (yX3_init, cX3_init, 1, none, 3, 0, 2, [200, 199, 0, 65]),
  (yX3_append, cX3_append, 7, (some .int), 3, 1, 0, [554, 552, 553, 65]),
  (yX3_signsIn, cX3_signsIn, 6, (some .int), 3, 1, 1, [557, 556, 0, 65]),
  (yX3_empty, cX3_empty, 2, (some .int), 3, 0, 0, [567, 565, 566, 65]),
  (yX3_findFault, cX3_findFault, 2, (some .int), 3, 0, 0, [575, 573, 574, 65]),
  (yX3_startReading, cX3_startReading, 1, none, 3, 0, 0, [579, 577, 578, 65]),
  (yX3_readNext, cX3_readNext, 1, (some .boolean), 3, 0, 0, [583, 581, 582, 65]),
  (yX3_readOrder, cX3_readOrder, 1, (some .boolean), 3, 0, 0, [595, 594, 8, 65]),
  (yX3_readSeat, cX3_readSeat, 2, (some .boolean), 3, 0, 0, [599, 598, 9, 65]),
  (yX3_readRounds, cX3_readRounds, 2, none, 3, 0, 0, [612, 611, 12, 65]),
  (yX3_readNumber, cX3_readNumber, 3, (some .boolean), 3, 0, 0, [608, 607, 11, 65]),
  (yX3_take, cX3_take, 2, (some .boolean), 3, 1, 0, [587, 586, 6, 65]),
  (yX3_digitHere, cX3_digitHere, 2, (some .int), 3, 0, 0, [603, 602, 10, 65]),
  (yX3_signHere, cX3_signHere, 1, (some .int), 3, 0, 0, [591, 590, 7, 65]),
  (yX4_init, cX4_init, 1, none, 4, 0, 2, [228, 227, 0, 66]),
  (yX5_init, cX5_init, 2, none, 5, 0, 2, [83, 82, 0, 61]),
  (yX5_copyFrom, cX5_copyFrom, 5, none, 5, 1, 0, [271, 269, 270, 61]),
  (yX5_placeAt, cX5_placeAt, 2, (some (.object "DoodleAlbums$Album")), 5, 1, 0, [284, 283, 1, 61]),
  (yX5_albumAt, cX5_albumAt, 2, (some (.object "DoodleAlbums$Album")), 5, 1, 0, [348, 346, 347, 61]),
  (yX5_isTaken, cX5_isTaken, 2, (some .boolean), 5, 1, 0, [332, 330, 331, 61]),
  (yX5_changeFeatures, cX5_changeFeatures, 4, (some .int), 5, 2, 0, [293, 291, 292, 61]),
  (yX5_sitDown, cX5_sitDown, 3, (some .int), 5, 2, 0, [314, 312, 313, 61]),
  (yX5_standUp, cX5_standUp, 2, (some .int), 5, 1, 0, [328, 326, 327, 61]),
  (yX5_beginAlbum, cX5_beginAlbum, 4, (some .int), 5, 2, 0, [340, 338, 339, 61]),
  (yX5_tellPage, cX5_tellPage, 5, (some .int), 5, 2, 0, [369, 367, 368, 61]),
  (yX5_makeRound, cX5_makeRound, 3, (some .int), 5, 0, 0, [381, 379, 380, 61]),
  (yX5_clearEnded, cX5_clearEnded, 5, (some .int), 5, 0, 0, [452, 450, 451, 61]),
  (yX5_passOn, cX5_passOn, 4, none, 5, 2, 0, [385, 383, 384, 61]),
  (yX5_nextSeat, cX5_nextSeat, 5, (some .int), 5, 1, 0, [389, 388, 2, 61]),
  (yX5_end, cX5_end, 3, none, 5, 2, 0, [402, 401, 3, 61]),
  (yX5_pageBy, cX5_pageBy, 4, (some .int), 5, 2, 0, [422, 421, 4, 61]),
  (yX5_mostLike, cX5_mostLike, 6, (some .int), 5, 1, 0, [430, 428, 429, 61]),
  (yX5_difference, cX5_difference, 3, (some .int), 5, 2, 0, [469, 467, 468, 61]),
  (yX5_albumGoingRoundOf, cX5_albumGoingRoundOf, 4, (some .int), 5, 1, 0, [344, 342, 343, 61]),
  (yX5_albumsThatAre, cX5_albumsThatAre, 5, (some .int), 5, 1, 0, [444, 442, 443, 61]),
  (yX5_pagesBy, cX5_pagesBy, 5, (some .int), 5, 1, 0, [491, 489, 490, 61]),
  (yX5_allPoints, cX5_allPoints, 3, (some .int), 5, 0, 0, [504, 502, 503, 61]),
  (yX6_init, cX6_init, 2, none, 6, 0, 2, [75, 74, 0, 60]),
  (yX6_teach, cX6_teach, 3, (some .int), 6, 2, 0, [259, 257, 258, 60]),
  (yX6_sit, cX6_sit, 3, (some .int), 6, 2, 0, [310, 308, 309, 60]),
  (yX6_leave, cX6_leave, 2, (some .int), 6, 1, 0, [324, 322, 323, 60]),
  (yX6_begin, cX6_begin, 3, (some .int), 6, 2, 0, [336, 334, 335, 60]),
  (yX6_tell, cX6_tell, 3, (some .int), 6, 2, 0, [365, 363, 364, 60]),
  (yX6_round, cX6_round, 1, (some .int), 6, 0, 0, [377, 375, 376, 60]),
  (yX6_clear, cX6_clear, 1, (some .int), 6, 0, 0, [448, 446, 447, 60]),
  (yX6_of, cX6_of, 4, (some .int), 6, 2, 0, [456, 454, 455, 60]),
  (yX6_page, cX6_page, 5, (some .int), 6, 3, 0, [473, 471, 472, 60]),
  (yX6_seat, cX6_seat, 3, (some .int), 6, 2, 0, [484, 482, 483, 60]),
  (yX6_word, cX6_word, 2, (some .int), 6, 1, 0, [495, 493, 494, 60]),
  (yX6_count, cX6_count, 2, (some .int), 6, 1, 0, [499, 497, 498, 60]),
  (yX6_guess, cX6_guess, 2, (some .int), 6, 1, 0, [508, 506, 507, 60]),
  (yX6_foretold, cX6_foretold, 4, (some .int), 6, 2, 0, [513, 511, 512, 60]),
  (yX6_bestWord, cX6_bestWord, 7, (some .int), 6, 2, 0, [528, 526, 527, 60]),
  (yX6_pointsThen, cX6_pointsThen, 2, (some .int), 6, 1, 0, [540, 538, 539, 60]),
  (yX6_put, cX6_put, 3, (some .int), 6, 1, 0, [550, 548, 549, 60]),
  (yX6_wipe, cX6_wipe, 1, (some .int), 6, 0, 0, [563, 561, 562, 60]),
  (yX6_fault, cX6_fault, 1, (some .int), 6, 0, 0, [571, 569, 570, 60]),
  (yX6_carryOut, cX6_carryOut, 2, (some .int), 6, 0, 0, [616, 614, 615, 60]),
  (yX6_undo, cX6_undo, 1, (some .int), 6, 0, 0, [626, 624, 625, 60]),
  (yX6_save, cX6_save, 3, (some .int), 6, 1, 0, [634, 632, 633, 60]),
  (yX6_restore, cX6_restore, 3, (some .int), 6, 1, 0, [643, 641, 642, 60]),
  (yX6_carryOutOrder, cX6_carryOutOrder, 2, (some .int), 6, 0, 0, [622, 621, 13, 60]),
  (yX6_slotAt, cX6_slotAt, 2, (some (.object "DoodleAlbums$Slot")), 6, 1, 0, [638, 637, 14, 60]),
  (yX6_isBelow, cX6_isBelow, 2, (some .boolean), 6, 2, 1, [296, 295, 0, 60]),
  (yX6_valueAt, cX6_valueAt, 2, (some .int), 6, 2, 1, [299, 298, 0, 60]),
  (yX6_setAt, cX6_setAt, 3, none, 6, 3, 1, [302, 301, 0, 60]),
  (yX6_addAt, cX6_addAt, 3, none, 6, 3, 1, [414, 413, 0, 60]),
  (yX6_copyRow, cX6_copyRow, 2, none, 6, 2, 1, [274, 273, 0, 60]),
  (yX7_init, cX7_init, 2, none, 7, 0, 2, [648, 647, 0, 67]),
  (yX7_moves, cX7_moves, 5, none, 7, 4, 1, [703, 702, 0, 67]),
  (yX7_within, cX7_within, 3, (some .boolean), 7, 3, 1, [696, 695, 0, 67]),
  (yX7_record, cX7_record, 2, none, 7, 0, 0, [700, 699, 15, 67]),
  (yX7_bits, cX7_bits, 3, (some .int), 7, 1, 1, [721, 720, 0, 67]),
  (yX7_isWord, cX7_isWord, 1, (some .boolean), 7, 1, 1, [693, 692, 0, 67]),
  (yX7_isSeat, cX7_isSeat, 1, (some .boolean), 7, 1, 1, [714, 713, 0, 67]),
  (yX7_isTaken, cX7_isTaken, 2, (some .boolean), 7, 1, 0, [733, 732, 19, 67]),
  (yX7_isAlbum, cX7_isAlbum, 2, (some .boolean), 7, 1, 0, [785, 784, 30, 67]),
  (yX7_part, cX7_part, 3, (some .int), 7, 2, 0, [753, 752, 23, 67]),
  (yX7_setPart, cX7_setPart, 4, none, 7, 3, 0, [769, 768, 27, 67]),
  (yX7_pagePart, cX7_pagePart, 4, (some .int), 7, 3, 0, [809, 808, 35, 67]),
  (yX7_putPage, cX7_putPage, 6, none, 7, 4, 0, [773, 772, 28, 67]),
  (yX7_lastPage, cX7_lastPage, 2, (some .int), 7, 1, 0, [805, 804, 34, 67]),
  (yX7_lastWordPage, cX7_lastWordPage, 2, (some .int), 7, 1, 0, [825, 824, 39, 67]),
  (yX7_lastWord, cX7_lastWord, 2, (some .int), 7, 1, 0, [821, 820, 38, 67]),
  (yX7_firstWord, cX7_firstWord, 2, (some .int), 7, 1, 0, [829, 828, 40, 67]),
  (yX7_seatsOf, cX7_seatsOf, 4, (some .int), 7, 1, 0, [813, 812, 36, 67]),
  (yX7_goesRound, cX7_goesRound, 2, (some .boolean), 7, 1, 0, [757, 756, 24, 67]),
  (yX7_albumOf, cX7_albumOf, 4, (some .int), 7, 1, 0, [749, 748, 22, 67]),
  (yX7_withHow, cX7_withHow, 4, (some .int), 7, 1, 0, [845, 844, 44, 67]),
  (yX7_guessed, cX7_guessed, 4, (some .int), 7, 1, 0, [841, 840, 43, 67]),
  (yX7_nextSeat, cX7_nextSeat, 7, (some .int), 7, 1, 0, [801, 800, 33, 67]),
  (yX7_scores, cX7_scores, 3, none, 7, 2, 0, [833, 832, 41, 67]),
  (yX7_comesHome, cX7_comesHome, 2, none, 7, 1, 0, [817, 816, 37, 67]),
  (yX7_goesTo, cX7_goesTo, 8, none, 7, 2, 0, [837, 836, 42, 67]),
  (yX7_makesRound, cX7_makesRound, 3, none, 7, 0, 0, [797, 796, 32, 67]),
  (yX7_teach, cX7_teach, 4, (some .int), 7, 2, 0, [690, 688, 689, 67]),
  (yX7_whyNotSat, cX7_whyNotSat, 3, (some .int), 7, 2, 0, [711, 710, 16, 67]),
  (yX7_sat, cX7_sat, 3, (some .int), 7, 2, 0, [718, 717, 17, 67]),
  (yX7_sit, cX7_sit, 4, (some .int), 7, 2, 0, [707, 705, 706, 67]),
  (yX7_whyNotLeft, cX7_whyNotLeft, 2, (some .int), 7, 1, 0, [729, 728, 18, 67]),
  (yX7_left, cX7_left, 2, (some .int), 7, 1, 0, [737, 736, 20, 67]),
  (yX7_leave, cX7_leave, 3, (some .int), 7, 1, 0, [725, 723, 724, 67]),
  (yX7_whyNotBegun, cX7_whyNotBegun, 3, (some .int), 7, 2, 0, [745, 744, 21, 67]),
  (yX7_clearAlbum, cX7_clearAlbum, 3, none, 7, 1, 0, [765, 764, 26, 67]),
  (yX7_begun, cX7_begun, 4, (some .int), 7, 2, 0, [761, 760, 25, 67]),
  (yX7_begin, cX7_begin, 4, (some .int), 7, 2, 0, [741, 739, 740, 67]),
  (yX7_whyNotTold, cX7_whyNotTold, 4, (some .int), 7, 2, 0, [781, 780, 29, 67]),
  (yX7_tells, cX7_tells, 4, (some .int), 7, 2, 0, [789, 788, 31, 67]),
  (yX7_tell, cX7_tell, 4, (some .int), 7, 2, 0, [777, 775, 776, 67]),
  (yX7_round, cX7_round, 1, (some .int), 7, 0, 0, [793, 791, 792, 67]),
  (yX7_cleared, cX7_cleared, 4, (some .int), 7, 0, 0, [853, 852, 45, 67]),
  (yX7_clear, cX7_clear, 1, (some .int), 7, 0, 0, [849, 847, 848, 67]),
  (yX7_changed, cX7_changed, 4, (some .int), 7, 1, 0, [861, 860, 46, 67]),
  (yX7_apart, cX7_apart, 3, (some .int), 7, 2, 0, [865, 864, 47, 67]),
  (yX7_of, cX7_of, 3, (some .int), 7, 2, 0, [857, 855, 856, 67]),
  (yX7_page, cX7_page, 4, (some .int), 7, 3, 0, [869, 867, 868, 67]),
  (yX7_pagesBy, cX7_pagesBy, 4, (some .int), 7, 1, 0, [877, 876, 48, 67]),
  (yX7_seat, cX7_seat, 3, (some .int), 7, 2, 0, [873, 871, 872, 67]),
  (yX7_word, cX7_word, 2, (some .int), 7, 1, 0, [881, 879, 880, 67]),
  (yX7_allPoints, cX7_allPoints, 3, (some .int), 7, 0, 0, [889, 888, 49, 67]),
  (yX7_count, cX7_count, 2, (some .int), 7, 1, 0, [885, 883, 884, 67]),
  (yX7_guess, cX7_guess, 2, (some .int), 7, 1, 0, [893, 891, 892, 67]),
  (yX7_foretold, cX7_foretold, 5, (some .int), 7, 2, 0, [897, 895, 896, 67]),
  (yX7_differsWith, cX7_differsWith, 4, (some .int), 7, 2, 0, [905, 904, 50, 67]),
  (yX7_bestWord, cX7_bestWord, 7, (some .int), 7, 2, 0, [901, 899, 900, 67]),
  (yX7_pointsThen, cX7_pointsThen, 3, (some .int), 7, 1, 0, [909, 907, 908, 67]),
  (yX7_put, cX7_put, 8, (some .int), 7, 1, 0, [913, 911, 912, 67]),
  (yX7_wipe, cX7_wipe, 2, (some .int), 7, 0, 0, [918, 916, 917, 67]),
  (yX7_character, cX7_character, 2, (some .int), 7, 1, 0, [934, 933, 53, 67]),
  (yX7_isNext, cX7_isNext, 3, (some .boolean), 7, 1, 0, [942, 941, 55, 67]),
  (yX7_takeDigit, cX7_takeDigit, 4, (some .int), 7, 2, 0, [938, 937, 54, 67]),
  (yX7_takeNumber, cX7_takeNumber, 2, (some .int), 7, 0, 0, [946, 945, 56, 67]),
  (yX7_readsOrder, cX7_readsOrder, 1, (some .boolean), 7, 0, 0, [930, 929, 52, 67]),
  (yX7_findFault, cX7_findFault, 1, (some .int), 7, 0, 0, [926, 925, 51, 67]),
  (yX7_fault, cX7_fault, 1, (some .int), 7, 0, 0, [922, 920, 921, 67]),
  (yX7_whyNotDone, cX7_whyNotDone, 1, (some .int), 7, 0, 0, [954, 953, 57, 67]),
  (yX7_does, cX7_does, 2, none, 7, 0, 0, [958, 957, 58, 67]),
  (yX7_carryOut, cX7_carryOut, 3, (some .int), 7, 0, 0, [950, 948, 949, 67]),
  (yX7_undo, cX7_undo, 1, (some .int), 7, 0, 0, [962, 960, 961, 67]),
  (yX7_save, cX7_save, 2, (some .int), 7, 1, 0, [966, 964, 965, 67]),
  (yX7_restore, cX7_restore, 2, (some .int), 7, 1, 0, [970, 968, 969, 67]),
  (yJ6_bitCount_0f7a4, cJ6_bitCount_0f7a4, 1, (some .int), 8, 1, 1, [317, 316, 0, 70]),
  (yL_law, cL_law, 4, ret, 11, 1, 0, [0, 0, 0, 0])]
def aCodes : List (List (Nat × Instr × Nat)) := [aCode_0, aCode_1, aCode_2, aCode_3, aCode_4, aCode_5, aCode_6, aCode_7, aCode_8, aCode_9, aCode_10, aCode_11, aCode_12, aCode_13, aCode_14, aCode_15, aCode_16, aCode_17, aCode_18, aCode_19, aCode_20, aCode_21, aCode_22, aCode_23, aCode_24, aCode_25, aCode_26, aCode_27, aCode_28, aCode_29, aCode_30, aCode_31, aCode_32, aCode_33, aCode_34, aCode_35, aCode_36, aCode_37, aCode_38, aCode_39, aCode_40, aCode_41, aCode_42, aCode_43, aCode_44, aCode_45, aCode_46, aCode_47, aCode_48, aCode_49, aCode_50, aCode_51, aCode_52, aCode_53, aCode_54, aCode_55, aCode_56, aCode_57, aCode_58, aCode_59, aCode_60, aCode_61, aCode_62, aCode_63, aCode_64, aCode_65, aCode_66, aCode_67, aCode_68, aCode_69, aCode_70, aCode_71, aCode_72, aCode_73, aCode_74, aCode_75, aCode_76, aCode_77, aCode_78, aCode_79, aCode_80, aCode_81, aCode_82, aCode_83, aCode_84, aCode_85, aCode_86, aCode_87, aCode_88, aCode_89, aCode_90, aCode_91, aCode_92, aCode_93, aCode_94, aCode_95, aCode_96, aCode_97, aCode_98, aCode_99, aCode_100, aCode_101, aCode_102, aCode_103, aCode_104, aCode_105, aCode_106, aCode_107, aCode_108, aCode_109, aCode_110, aCode_111, aCode_112, aCode_113, aCode_114, aCode_115, aCode_116, aCode_117, aCode_118, aCode_119, aCode_120, aCode_121, aCode_122, aCode_123, aCode_124, aCode_125, aCode_126, aCode_127, aCode_128, aCode_129, aCode_130, aCode_131, aCode_132, aCode_133, aCode_134, aCode_135, aCode_136, aCode_137, aCode_138, aCode_139, aCode_140, aCode_141, aCode_142, aCode_143, aCode_144, aCode_145, aCode_146, aCode_147, aCode_148, aCode_149, aCode_150, aCode_151, aCode_152, aCode_153, aCode_154, aCode_155, aCode_156, aCode_157, aCode_158, aCode_159, aCode_160, aCode_161, aCode_162, aCode_163, aCode_164, aCode_165, aCode_166, aCode_167, aCode_168]
def aDecs : List aMeth → List (List (Nat × Instr × Nat)) → Prop
  | m :: ms, c :: cs => (∀ q ∈ c, decode m.2.1 q.1 = .ok q.2 ∧ aLenOK q.2.1 q.2.2 = true) ∧ aDecs ms cs
  | _, _ => True
theorem aDecs_at : ∀ (ms : List aMeth) (cs : List (List (Nat × Instr × Nat))) (i : Nat) (m : aMeth) (c : List (Nat × Instr × Nat)), aDecs ms cs → ms[i]? = some m → cs[i]? = some c → ∀ q ∈ c, decode m.2.1 q.1 = .ok q.2 ∧ aLenOK q.2.1 q.2.2 = true
  | [], _, _, _, _, _, h, _ => by simp at h
  | _ :: _, [], _, _, _, _, _, h => by simp at h
  | m0 :: ms, c0 :: cs, 0, m, c, h, h1, h2 => by
    rw [List.getElem?_cons_zero] at h1 h2
    cases h1; cases h2
    exact h.1
  | m0 :: ms, c0 :: cs, i + 1, m, c, h, h1, h2 => by
    rw [List.getElem?_cons_succ] at h1 h2
    exact aDecs_at ms cs i m c h.2 h1 h2
set_option maxRecDepth 100000 in
theorem aDecs_ok : aDecs aMeths aCodes := ⟨aDec_0, aDec_1, aDec_2, aDec_3, aDec_4, aDec_5, aDec_6, aDec_7, aDec_8, aDec_9, aDec_10, aDec_11, aDec_12, aDec_13, aDec_14, aDec_15, aDec_16, aDec_17, aDec_18, aDec_19, aDec_20, aDec_21, aDec_22, aDec_23, aDec_24, aDec_25, aDec_26, aDec_27, aDec_28, aDec_29, aDec_30, aDec_31, aDec_32, aDec_33, aDec_34, aDec_35, aDec_36, aDec_37, aDec_38, aDec_39, aDec_40, aDec_41, aDec_42, aDec_43, aDec_44, aDec_45, aDec_46, aDec_47, aDec_48, aDec_49, aDec_50, aDec_51, aDec_52, aDec_53, aDec_54, aDec_55, aDec_56, aDec_57, aDec_58, aDec_59, aDec_60, aDec_61, aDec_62, aDec_63, aDec_64, aDec_65, aDec_66, aDec_67, aDec_68, aDec_69, aDec_70, aDec_71, aDec_72, aDec_73, aDec_74, aDec_75, aDec_76, aDec_77, aDec_78, aDec_79, aDec_80, aDec_81, aDec_82, aDec_83, aDec_84, aDec_85, aDec_86, aDec_87, aDec_88, aDec_89, aDec_90, aDec_91, aDec_92, aDec_93, aDec_94, aDec_95, aDec_96, aDec_97, aDec_98, aDec_99, aDec_100, aDec_101, aDec_102, aDec_103, aDec_104, aDec_105, aDec_106, aDec_107, aDec_108, aDec_109, aDec_110, aDec_111, aDec_112, aDec_113, aDec_114, aDec_115, aDec_116, aDec_117, aDec_118, aDec_119, aDec_120, aDec_121, aDec_122, aDec_123, aDec_124, aDec_125, aDec_126, aDec_127, aDec_128, aDec_129, aDec_130, aDec_131, aDec_132, aDec_133, aDec_134, aDec_135, aDec_136, aDec_137, aDec_138, aDec_139, aDec_140, aDec_141, aDec_142, aDec_143, aDec_144, aDec_145, aDec_146, aDec_147, aDec_148, aDec_149, aDec_150, aDec_151, aDec_152, aDec_153, aDec_154, aDec_155, aDec_156, aDec_157, aDec_158, aDec_159, aDec_160, aDec_161, aDec_162, aDec_163, aDec_164, aDec_165, aDec_166, aDec_167, aDec_168, trivial⟩
def aTbl : List Cond := lw_tbl.filter goodWord
theorem aTbl_in {i : Nat} {w : Cond} (h : lw_tbl[i]? = some w) (g : goodWord w = true) : w ∈ aTbl := List.mem_filter.mpr ⟨List.mem_of_getElem? h, g⟩
def aMOK (t : aMeth) : Prop := lw_tbl[t.2.2.2.2.2.2.2.getD 0 0]? = some (Cond.code t.1 t.2.1 t.2.2.1 t.2.2.2.1) ∧ goodWord (Cond.code t.1 t.2.1 t.2.2.1 t.2.2.2.1) = true ∧
  (if t.2.2.2.2.2.2.1 = 1 then lw_tbl[t.2.2.2.2.2.2.2.getD 1 0]? = some (Cond.static t.1) ∧ goodWord (Cond.static t.1) = true else lw_tbl[t.2.2.2.2.2.2.2.getD 1 0]? = some (Cond.instanceMethod t.1) ∧ goodWord (Cond.instanceMethod t.1) = true) ∧
  (t.2.2.2.2.2.2.1 = 0 → lw_tbl[t.2.2.2.2.2.2.2.getD 2 0]? = some (Cond.selects t.1.cls t.1 t.1) ∧ goodWord (Cond.selects t.1.cls t.1 t.1) = true) ∧
  (t.2.2.2.2.2.2.1 = 2 → t.1.name = "<init>" ∧ t.2.2.2.1 = none) ∧
  (lw_tbl[t.2.2.2.2.2.2.2.getD 3 0]? = some (Cond.initialized t.1.cls) ∧ goodWord (Cond.initialized t.1.cls) = true) ∧ (t.2.2.2.2.1 < 8 → plainName t.1.cls = true) ∧ t.1.cls ≠ "java/lang/invoke/MethodHandle" ∧ t.1.cls ≠ "java/lang/invoke/VarHandle" ∧ (parseMethodDescriptor t.1.desc).map (fun d => d.parameters.length) = some t.2.2.2.2.2.1 ∧ t.2.2.1 ≤ 16
theorem aMOK_of (t : aMeth) (p : Nat → Cond) (h : aMOK t) : aMOK t := h
def aMethsC : List aMeth := aMeths.take 168
set_option maxRecDepth 100000 in
set_option maxRecDepth 100000 in
theorem aMc_0 : lw_tbl[90]? = some (Cond.code yX0_init cX0_init 1 none) := rfl
set_option maxRecDepth 100000 in
theorem aMc_1 : lw_tbl[356]? = some (Cond.code yX0_start cX0_start 3 none) := rfl
set_option maxRecDepth 100000 in
theorem aMc_2 : lw_tbl[360]? = some (Cond.code yX0_addPage cX0_addPage 3 none) := rfl
set_option maxRecDepth 100000 in
theorem aMc_3 : lw_tbl[418]? = some (Cond.code yX0_addToldPage cX0_addToldPage 2 none) := rfl
set_option maxRecDepth 100000 in
theorem aMc_4 : lw_tbl[288]? = some (Cond.code yX0_copyFrom cX0_copyFrom 2 none) := rfl
set_option maxRecDepth 100000 in
theorem aMc_5 : lw_tbl[352]? = some (Cond.code yX0_goesRound cX0_goesRound 1 (some .boolean)) := rfl
set_option maxRecDepth 100000 in
theorem aMc_6 : lw_tbl[440]? = some (Cond.code yX0_seatOf cX0_seatOf 2 (some .int)) := rfl
set_option maxRecDepth 100000 in
theorem aMc_7 : lw_tbl[426]? = some (Cond.code yX0_markOf cX0_markOf 2 (some .int)) := rfl
set_option maxRecDepth 100000 in
theorem aMc_8 : lw_tbl[480]? = some (Cond.code yX0_wasTold cX0_wasTold 2 (some .boolean)) := rfl
set_option maxRecDepth 100000 in
theorem aMc_9 : lw_tbl[398]? = some (Cond.code yX0_liesAt cX0_liesAt 1 (some .int)) := rfl
set_option maxRecDepth 100000 in
theorem aMc_10 : lw_tbl[373]? = some (Cond.code yX0_endsWithWord cX0_endsWithWord 1 (some .boolean)) := rfl
set_option maxRecDepth 100000 in
theorem aMc_11 : lw_tbl[411]? = some (Cond.code yX0_firstWord cX0_firstWord 1 (some .int)) := rfl
set_option maxRecDepth 100000 in
theorem aMc_12 : lw_tbl[406]? = some (Cond.code yX0_lastWord cX0_lastWord 1 (some .int)) := rfl
set_option maxRecDepth 100000 in
theorem aMc_13 : lw_tbl[435]? = some (Cond.code yX0_hasFoundWordAgain cX0_hasFoundWordAgain 1 (some .boolean)) := rfl
set_option maxRecDepth 100000 in
theorem aMc_14 : lw_tbl[463]? = some (Cond.code yX0_wordChanges cX0_wordChanges 3 (some .int)) := rfl
set_option maxRecDepth 100000 in
theorem aMc_15 : lw_tbl[393]? = some (Cond.code yX0_seatSet cX0_seatSet 3 (some .int)) := rfl
set_option maxRecDepth 100000 in
theorem aMc_16 : lw_tbl[157]? = some (Cond.code yX1_init cX1_init 1 none) := rfl
set_option maxRecDepth 100000 in
theorem aMc_17 : lw_tbl[517]? = some (Cond.code yX1_follow cX1_follow 3 none) := rfl
set_option maxRecDepth 100000 in
theorem aMc_18 : lw_tbl[544]? = some (Cond.code yX1_followAll cX1_followAll 4 none) := rfl
set_option maxRecDepth 100000 in
theorem aMc_19 : lw_tbl[532]? = some (Cond.code yX1_differenceAtHome cX1_differenceAtHome 4 (some .int)) := rfl
set_option maxRecDepth 100000 in
theorem aMc_20 : lw_tbl[522]? = some (Cond.code yX1_playToEnd cX1_playToEnd 2 none) := rfl
set_option maxRecDepth 100000 in
theorem aMc_21 : lw_tbl[178]? = some (Cond.code yX2_init cX2_init 2 none) := rfl
set_option maxRecDepth 100000 in
theorem aMc_22 : lw_tbl[267]? = some (Cond.code yX2_stateAt cX2_stateAt 3 (some (.object "DoodleAlbums$Table"))) := rfl
set_option maxRecDepth 100000 in
theorem aMc_23 : lw_tbl[263]? = some (Cond.code yX2_prepare cX2_prepare 3 none) := rfl
set_option maxRecDepth 100000 in
theorem aMc_24 : lw_tbl[306]? = some (Cond.code yX2_recordUnlessError cX2_recordUnlessError 2 (some .int)) := rfl
set_option maxRecDepth 100000 in
theorem aMc_25 : lw_tbl[630]? = some (Cond.code yX2_takeBack cX2_takeBack 3 (some .int)) := rfl
set_option maxRecDepth 100000 in
theorem aMc_26 : lw_tbl[200]? = some (Cond.code yX3_init cX3_init 1 none) := rfl
set_option maxRecDepth 100000 in
theorem aMc_27 : lw_tbl[554]? = some (Cond.code yX3_append cX3_append 7 (some .int)) := rfl
set_option maxRecDepth 100000 in
theorem aMc_28 : lw_tbl[557]? = some (Cond.code yX3_signsIn cX3_signsIn 6 (some .int)) := rfl
set_option maxRecDepth 100000 in
theorem aMc_29 : lw_tbl[567]? = some (Cond.code yX3_empty cX3_empty 2 (some .int)) := rfl
set_option maxRecDepth 100000 in
theorem aMc_30 : lw_tbl[575]? = some (Cond.code yX3_findFault cX3_findFault 2 (some .int)) := rfl
set_option maxRecDepth 100000 in
theorem aMc_31 : lw_tbl[579]? = some (Cond.code yX3_startReading cX3_startReading 1 none) := rfl
set_option maxRecDepth 100000 in
theorem aMc_32 : lw_tbl[583]? = some (Cond.code yX3_readNext cX3_readNext 1 (some .boolean)) := rfl
set_option maxRecDepth 100000 in
theorem aMc_33 : lw_tbl[595]? = some (Cond.code yX3_readOrder cX3_readOrder 1 (some .boolean)) := rfl
set_option maxRecDepth 100000 in
theorem aMc_34 : lw_tbl[599]? = some (Cond.code yX3_readSeat cX3_readSeat 2 (some .boolean)) := rfl
set_option maxRecDepth 100000 in
theorem aMc_35 : lw_tbl[612]? = some (Cond.code yX3_readRounds cX3_readRounds 2 none) := rfl
set_option maxRecDepth 100000 in
theorem aMc_36 : lw_tbl[608]? = some (Cond.code yX3_readNumber cX3_readNumber 3 (some .boolean)) := rfl
set_option maxRecDepth 100000 in
theorem aMc_37 : lw_tbl[587]? = some (Cond.code yX3_take cX3_take 2 (some .boolean)) := rfl
set_option maxRecDepth 100000 in
theorem aMc_38 : lw_tbl[603]? = some (Cond.code yX3_digitHere cX3_digitHere 2 (some .int)) := rfl
set_option maxRecDepth 100000 in
theorem aMc_39 : lw_tbl[591]? = some (Cond.code yX3_signHere cX3_signHere 1 (some .int)) := rfl
set_option maxRecDepth 100000 in
theorem aMc_40 : lw_tbl[228]? = some (Cond.code yX4_init cX4_init 1 none) := rfl
set_option maxRecDepth 100000 in
theorem aMc_41 : lw_tbl[83]? = some (Cond.code yX5_init cX5_init 2 none) := rfl
set_option maxRecDepth 100000 in
theorem aMc_42 : lw_tbl[271]? = some (Cond.code yX5_copyFrom cX5_copyFrom 5 none) := rfl
set_option maxRecDepth 100000 in
theorem aMc_43 : lw_tbl[284]? = some (Cond.code yX5_placeAt cX5_placeAt 2 (some (.object "DoodleAlbums$Album"))) := rfl
set_option maxRecDepth 100000 in
theorem aMc_44 : lw_tbl[348]? = some (Cond.code yX5_albumAt cX5_albumAt 2 (some (.object "DoodleAlbums$Album"))) := rfl
set_option maxRecDepth 100000 in
theorem aMc_45 : lw_tbl[332]? = some (Cond.code yX5_isTaken cX5_isTaken 2 (some .boolean)) := rfl
set_option maxRecDepth 100000 in
theorem aMc_46 : lw_tbl[293]? = some (Cond.code yX5_changeFeatures cX5_changeFeatures 4 (some .int)) := rfl
set_option maxRecDepth 100000 in
theorem aMc_47 : lw_tbl[314]? = some (Cond.code yX5_sitDown cX5_sitDown 3 (some .int)) := rfl
set_option maxRecDepth 100000 in
theorem aMc_48 : lw_tbl[328]? = some (Cond.code yX5_standUp cX5_standUp 2 (some .int)) := rfl
set_option maxRecDepth 100000 in
theorem aMc_49 : lw_tbl[340]? = some (Cond.code yX5_beginAlbum cX5_beginAlbum 4 (some .int)) := rfl
set_option maxRecDepth 100000 in
theorem aMc_50 : lw_tbl[369]? = some (Cond.code yX5_tellPage cX5_tellPage 5 (some .int)) := rfl
set_option maxRecDepth 100000 in
theorem aMc_51 : lw_tbl[381]? = some (Cond.code yX5_makeRound cX5_makeRound 3 (some .int)) := rfl
set_option maxRecDepth 100000 in
theorem aMc_52 : lw_tbl[452]? = some (Cond.code yX5_clearEnded cX5_clearEnded 5 (some .int)) := rfl
set_option maxRecDepth 100000 in
theorem aMc_53 : lw_tbl[385]? = some (Cond.code yX5_passOn cX5_passOn 4 none) := rfl
set_option maxRecDepth 100000 in
theorem aMc_54 : lw_tbl[389]? = some (Cond.code yX5_nextSeat cX5_nextSeat 5 (some .int)) := rfl
set_option maxRecDepth 100000 in
theorem aMc_55 : lw_tbl[402]? = some (Cond.code yX5_end cX5_end 3 none) := rfl
set_option maxRecDepth 100000 in
theorem aMc_56 : lw_tbl[422]? = some (Cond.code yX5_pageBy cX5_pageBy 4 (some .int)) := rfl
set_option maxRecDepth 100000 in
theorem aMc_57 : lw_tbl[430]? = some (Cond.code yX5_mostLike cX5_mostLike 6 (some .int)) := rfl
set_option maxRecDepth 100000 in
theorem aMc_58 : lw_tbl[469]? = some (Cond.code yX5_difference cX5_difference 3 (some .int)) := rfl
set_option maxRecDepth 100000 in
theorem aMc_59 : lw_tbl[344]? = some (Cond.code yX5_albumGoingRoundOf cX5_albumGoingRoundOf 4 (some .int)) := rfl
set_option maxRecDepth 100000 in
theorem aMc_60 : lw_tbl[444]? = some (Cond.code yX5_albumsThatAre cX5_albumsThatAre 5 (some .int)) := rfl
set_option maxRecDepth 100000 in
theorem aMc_61 : lw_tbl[491]? = some (Cond.code yX5_pagesBy cX5_pagesBy 5 (some .int)) := rfl
set_option maxRecDepth 100000 in
theorem aMc_62 : lw_tbl[504]? = some (Cond.code yX5_allPoints cX5_allPoints 3 (some .int)) := rfl
set_option maxRecDepth 100000 in
theorem aMc_63 : lw_tbl[75]? = some (Cond.code yX6_init cX6_init 2 none) := rfl
set_option maxRecDepth 100000 in
theorem aMc_64 : lw_tbl[259]? = some (Cond.code yX6_teach cX6_teach 3 (some .int)) := rfl
set_option maxRecDepth 100000 in
theorem aMc_65 : lw_tbl[310]? = some (Cond.code yX6_sit cX6_sit 3 (some .int)) := rfl
set_option maxRecDepth 100000 in
theorem aMc_66 : lw_tbl[324]? = some (Cond.code yX6_leave cX6_leave 2 (some .int)) := rfl
set_option maxRecDepth 100000 in
theorem aMc_67 : lw_tbl[336]? = some (Cond.code yX6_begin cX6_begin 3 (some .int)) := rfl
set_option maxRecDepth 100000 in
theorem aMc_68 : lw_tbl[365]? = some (Cond.code yX6_tell cX6_tell 3 (some .int)) := rfl
set_option maxRecDepth 100000 in
theorem aMc_69 : lw_tbl[377]? = some (Cond.code yX6_round cX6_round 1 (some .int)) := rfl
set_option maxRecDepth 100000 in
theorem aMc_70 : lw_tbl[448]? = some (Cond.code yX6_clear cX6_clear 1 (some .int)) := rfl
set_option maxRecDepth 100000 in
theorem aMc_71 : lw_tbl[456]? = some (Cond.code yX6_of cX6_of 4 (some .int)) := rfl
set_option maxRecDepth 100000 in
theorem aMc_72 : lw_tbl[473]? = some (Cond.code yX6_page cX6_page 5 (some .int)) := rfl
set_option maxRecDepth 100000 in
theorem aMc_73 : lw_tbl[484]? = some (Cond.code yX6_seat cX6_seat 3 (some .int)) := rfl
set_option maxRecDepth 100000 in
theorem aMc_74 : lw_tbl[495]? = some (Cond.code yX6_word cX6_word 2 (some .int)) := rfl
set_option maxRecDepth 100000 in
theorem aMc_75 : lw_tbl[499]? = some (Cond.code yX6_count cX6_count 2 (some .int)) := rfl
set_option maxRecDepth 100000 in
theorem aMc_76 : lw_tbl[508]? = some (Cond.code yX6_guess cX6_guess 2 (some .int)) := rfl
set_option maxRecDepth 100000 in
theorem aMc_77 : lw_tbl[513]? = some (Cond.code yX6_foretold cX6_foretold 4 (some .int)) := rfl
set_option maxRecDepth 100000 in
theorem aMc_78 : lw_tbl[528]? = some (Cond.code yX6_bestWord cX6_bestWord 7 (some .int)) := rfl
set_option maxRecDepth 100000 in
theorem aMc_79 : lw_tbl[540]? = some (Cond.code yX6_pointsThen cX6_pointsThen 2 (some .int)) := rfl
set_option maxRecDepth 100000 in
theorem aMc_80 : lw_tbl[550]? = some (Cond.code yX6_put cX6_put 3 (some .int)) := rfl
set_option maxRecDepth 100000 in
theorem aMc_81 : lw_tbl[563]? = some (Cond.code yX6_wipe cX6_wipe 1 (some .int)) := rfl
set_option maxRecDepth 100000 in
theorem aMc_82 : lw_tbl[571]? = some (Cond.code yX6_fault cX6_fault 1 (some .int)) := rfl
set_option maxRecDepth 100000 in
theorem aMc_83 : lw_tbl[616]? = some (Cond.code yX6_carryOut cX6_carryOut 2 (some .int)) := rfl
set_option maxRecDepth 100000 in
theorem aMc_84 : lw_tbl[626]? = some (Cond.code yX6_undo cX6_undo 1 (some .int)) := rfl
set_option maxRecDepth 100000 in
theorem aMc_85 : lw_tbl[634]? = some (Cond.code yX6_save cX6_save 3 (some .int)) := rfl
set_option maxRecDepth 100000 in
theorem aMc_86 : lw_tbl[643]? = some (Cond.code yX6_restore cX6_restore 3 (some .int)) := rfl
set_option maxRecDepth 100000 in
theorem aMc_87 : lw_tbl[622]? = some (Cond.code yX6_carryOutOrder cX6_carryOutOrder 2 (some .int)) := rfl
set_option maxRecDepth 100000 in
theorem aMc_88 : lw_tbl[638]? = some (Cond.code yX6_slotAt cX6_slotAt 2 (some (.object "DoodleAlbums$Slot"))) := rfl
set_option maxRecDepth 100000 in
theorem aMc_89 : lw_tbl[296]? = some (Cond.code yX6_isBelow cX6_isBelow 2 (some .boolean)) := rfl
set_option maxRecDepth 100000 in
theorem aMc_90 : lw_tbl[299]? = some (Cond.code yX6_valueAt cX6_valueAt 2 (some .int)) := rfl
set_option maxRecDepth 100000 in
theorem aMc_91 : lw_tbl[302]? = some (Cond.code yX6_setAt cX6_setAt 3 none) := rfl
set_option maxRecDepth 100000 in
theorem aMc_92 : lw_tbl[414]? = some (Cond.code yX6_addAt cX6_addAt 3 none) := rfl
set_option maxRecDepth 100000 in
theorem aMc_93 : lw_tbl[274]? = some (Cond.code yX6_copyRow cX6_copyRow 2 none) := rfl
set_option maxRecDepth 100000 in
theorem aMc_94 : lw_tbl[648]? = some (Cond.code yX7_init cX7_init 2 none) := rfl
set_option maxRecDepth 100000 in
theorem aMc_95 : lw_tbl[703]? = some (Cond.code yX7_moves cX7_moves 5 none) := rfl
set_option maxRecDepth 100000 in
theorem aMc_96 : lw_tbl[696]? = some (Cond.code yX7_within cX7_within 3 (some .boolean)) := rfl
set_option maxRecDepth 100000 in
theorem aMc_97 : lw_tbl[700]? = some (Cond.code yX7_record cX7_record 2 none) := rfl
set_option maxRecDepth 100000 in
theorem aMc_98 : lw_tbl[721]? = some (Cond.code yX7_bits cX7_bits 3 (some .int)) := rfl
set_option maxRecDepth 100000 in
theorem aMc_99 : lw_tbl[693]? = some (Cond.code yX7_isWord cX7_isWord 1 (some .boolean)) := rfl
set_option maxRecDepth 100000 in
theorem aMc_100 : lw_tbl[714]? = some (Cond.code yX7_isSeat cX7_isSeat 1 (some .boolean)) := rfl
set_option maxRecDepth 100000 in
theorem aMc_101 : lw_tbl[733]? = some (Cond.code yX7_isTaken cX7_isTaken 2 (some .boolean)) := rfl
set_option maxRecDepth 100000 in
theorem aMc_102 : lw_tbl[785]? = some (Cond.code yX7_isAlbum cX7_isAlbum 2 (some .boolean)) := rfl
set_option maxRecDepth 100000 in
theorem aMc_103 : lw_tbl[753]? = some (Cond.code yX7_part cX7_part 3 (some .int)) := rfl
set_option maxRecDepth 100000 in
theorem aMc_104 : lw_tbl[769]? = some (Cond.code yX7_setPart cX7_setPart 4 none) := rfl
set_option maxRecDepth 100000 in
theorem aMc_105 : lw_tbl[809]? = some (Cond.code yX7_pagePart cX7_pagePart 4 (some .int)) := rfl
set_option maxRecDepth 100000 in
theorem aMc_106 : lw_tbl[773]? = some (Cond.code yX7_putPage cX7_putPage 6 none) := rfl
set_option maxRecDepth 100000 in
theorem aMc_107 : lw_tbl[805]? = some (Cond.code yX7_lastPage cX7_lastPage 2 (some .int)) := rfl
set_option maxRecDepth 100000 in
theorem aMc_108 : lw_tbl[825]? = some (Cond.code yX7_lastWordPage cX7_lastWordPage 2 (some .int)) := rfl
set_option maxRecDepth 100000 in
theorem aMc_109 : lw_tbl[821]? = some (Cond.code yX7_lastWord cX7_lastWord 2 (some .int)) := rfl
set_option maxRecDepth 100000 in
theorem aMc_110 : lw_tbl[829]? = some (Cond.code yX7_firstWord cX7_firstWord 2 (some .int)) := rfl
set_option maxRecDepth 100000 in
theorem aMc_111 : lw_tbl[813]? = some (Cond.code yX7_seatsOf cX7_seatsOf 4 (some .int)) := rfl
set_option maxRecDepth 100000 in
theorem aMc_112 : lw_tbl[757]? = some (Cond.code yX7_goesRound cX7_goesRound 2 (some .boolean)) := rfl
set_option maxRecDepth 100000 in
theorem aMc_113 : lw_tbl[749]? = some (Cond.code yX7_albumOf cX7_albumOf 4 (some .int)) := rfl
set_option maxRecDepth 100000 in
theorem aMc_114 : lw_tbl[845]? = some (Cond.code yX7_withHow cX7_withHow 4 (some .int)) := rfl
set_option maxRecDepth 100000 in
theorem aMc_115 : lw_tbl[841]? = some (Cond.code yX7_guessed cX7_guessed 4 (some .int)) := rfl
set_option maxRecDepth 100000 in
theorem aMc_116 : lw_tbl[801]? = some (Cond.code yX7_nextSeat cX7_nextSeat 7 (some .int)) := rfl
set_option maxRecDepth 100000 in
theorem aMc_117 : lw_tbl[833]? = some (Cond.code yX7_scores cX7_scores 3 none) := rfl
set_option maxRecDepth 100000 in
theorem aMc_118 : lw_tbl[817]? = some (Cond.code yX7_comesHome cX7_comesHome 2 none) := rfl
set_option maxRecDepth 100000 in
theorem aMc_119 : lw_tbl[837]? = some (Cond.code yX7_goesTo cX7_goesTo 8 none) := rfl
set_option maxRecDepth 100000 in
theorem aMc_120 : lw_tbl[797]? = some (Cond.code yX7_makesRound cX7_makesRound 3 none) := rfl
set_option maxRecDepth 100000 in
theorem aMc_121 : lw_tbl[690]? = some (Cond.code yX7_teach cX7_teach 4 (some .int)) := rfl
set_option maxRecDepth 100000 in
theorem aMc_122 : lw_tbl[711]? = some (Cond.code yX7_whyNotSat cX7_whyNotSat 3 (some .int)) := rfl
set_option maxRecDepth 100000 in
theorem aMc_123 : lw_tbl[718]? = some (Cond.code yX7_sat cX7_sat 3 (some .int)) := rfl
set_option maxRecDepth 100000 in
theorem aMc_124 : lw_tbl[707]? = some (Cond.code yX7_sit cX7_sit 4 (some .int)) := rfl
set_option maxRecDepth 100000 in
theorem aMc_125 : lw_tbl[729]? = some (Cond.code yX7_whyNotLeft cX7_whyNotLeft 2 (some .int)) := rfl
set_option maxRecDepth 100000 in
theorem aMc_126 : lw_tbl[737]? = some (Cond.code yX7_left cX7_left 2 (some .int)) := rfl
set_option maxRecDepth 100000 in
theorem aMc_127 : lw_tbl[725]? = some (Cond.code yX7_leave cX7_leave 3 (some .int)) := rfl
set_option maxRecDepth 100000 in
theorem aMc_128 : lw_tbl[745]? = some (Cond.code yX7_whyNotBegun cX7_whyNotBegun 3 (some .int)) := rfl
set_option maxRecDepth 100000 in
theorem aMc_129 : lw_tbl[765]? = some (Cond.code yX7_clearAlbum cX7_clearAlbum 3 none) := rfl
set_option maxRecDepth 100000 in
theorem aMc_130 : lw_tbl[761]? = some (Cond.code yX7_begun cX7_begun 4 (some .int)) := rfl
set_option maxRecDepth 100000 in
theorem aMc_131 : lw_tbl[741]? = some (Cond.code yX7_begin cX7_begin 4 (some .int)) := rfl
set_option maxRecDepth 100000 in
theorem aMc_132 : lw_tbl[781]? = some (Cond.code yX7_whyNotTold cX7_whyNotTold 4 (some .int)) := rfl
set_option maxRecDepth 100000 in
theorem aMc_133 : lw_tbl[789]? = some (Cond.code yX7_tells cX7_tells 4 (some .int)) := rfl
set_option maxRecDepth 100000 in
theorem aMc_134 : lw_tbl[777]? = some (Cond.code yX7_tell cX7_tell 4 (some .int)) := rfl
set_option maxRecDepth 100000 in
theorem aMc_135 : lw_tbl[793]? = some (Cond.code yX7_round cX7_round 1 (some .int)) := rfl
set_option maxRecDepth 100000 in
theorem aMc_136 : lw_tbl[853]? = some (Cond.code yX7_cleared cX7_cleared 4 (some .int)) := rfl
set_option maxRecDepth 100000 in
theorem aMc_137 : lw_tbl[849]? = some (Cond.code yX7_clear cX7_clear 1 (some .int)) := rfl
set_option maxRecDepth 100000 in
theorem aMc_138 : lw_tbl[861]? = some (Cond.code yX7_changed cX7_changed 4 (some .int)) := rfl
set_option maxRecDepth 100000 in
theorem aMc_139 : lw_tbl[865]? = some (Cond.code yX7_apart cX7_apart 3 (some .int)) := rfl
set_option maxRecDepth 100000 in
theorem aMc_140 : lw_tbl[857]? = some (Cond.code yX7_of cX7_of 3 (some .int)) := rfl
set_option maxRecDepth 100000 in
theorem aMc_141 : lw_tbl[869]? = some (Cond.code yX7_page cX7_page 4 (some .int)) := rfl
set_option maxRecDepth 100000 in
theorem aMc_142 : lw_tbl[877]? = some (Cond.code yX7_pagesBy cX7_pagesBy 4 (some .int)) := rfl
set_option maxRecDepth 100000 in
theorem aMc_143 : lw_tbl[873]? = some (Cond.code yX7_seat cX7_seat 3 (some .int)) := rfl
set_option maxRecDepth 100000 in
theorem aMc_144 : lw_tbl[881]? = some (Cond.code yX7_word cX7_word 2 (some .int)) := rfl
set_option maxRecDepth 100000 in
theorem aMc_145 : lw_tbl[889]? = some (Cond.code yX7_allPoints cX7_allPoints 3 (some .int)) := rfl
set_option maxRecDepth 100000 in
theorem aMc_146 : lw_tbl[885]? = some (Cond.code yX7_count cX7_count 2 (some .int)) := rfl
set_option maxRecDepth 100000 in
theorem aMc_147 : lw_tbl[893]? = some (Cond.code yX7_guess cX7_guess 2 (some .int)) := rfl
set_option maxRecDepth 100000 in
theorem aMc_148 : lw_tbl[897]? = some (Cond.code yX7_foretold cX7_foretold 5 (some .int)) := rfl
set_option maxRecDepth 100000 in
theorem aMc_149 : lw_tbl[905]? = some (Cond.code yX7_differsWith cX7_differsWith 4 (some .int)) := rfl
set_option maxRecDepth 100000 in
theorem aMc_150 : lw_tbl[901]? = some (Cond.code yX7_bestWord cX7_bestWord 7 (some .int)) := rfl
set_option maxRecDepth 100000 in
theorem aMc_151 : lw_tbl[909]? = some (Cond.code yX7_pointsThen cX7_pointsThen 3 (some .int)) := rfl
set_option maxRecDepth 100000 in
theorem aMc_152 : lw_tbl[913]? = some (Cond.code yX7_put cX7_put 8 (some .int)) := rfl
set_option maxRecDepth 100000 in
theorem aMc_153 : lw_tbl[918]? = some (Cond.code yX7_wipe cX7_wipe 2 (some .int)) := rfl
set_option maxRecDepth 100000 in
theorem aMc_154 : lw_tbl[934]? = some (Cond.code yX7_character cX7_character 2 (some .int)) := rfl
set_option maxRecDepth 100000 in
theorem aMc_155 : lw_tbl[942]? = some (Cond.code yX7_isNext cX7_isNext 3 (some .boolean)) := rfl
set_option maxRecDepth 100000 in
theorem aMc_156 : lw_tbl[938]? = some (Cond.code yX7_takeDigit cX7_takeDigit 4 (some .int)) := rfl
set_option maxRecDepth 100000 in
theorem aMc_157 : lw_tbl[946]? = some (Cond.code yX7_takeNumber cX7_takeNumber 2 (some .int)) := rfl
set_option maxRecDepth 100000 in
theorem aMc_158 : lw_tbl[930]? = some (Cond.code yX7_readsOrder cX7_readsOrder 1 (some .boolean)) := rfl
set_option maxRecDepth 100000 in
theorem aMc_159 : lw_tbl[926]? = some (Cond.code yX7_findFault cX7_findFault 1 (some .int)) := rfl
set_option maxRecDepth 100000 in
theorem aMc_160 : lw_tbl[922]? = some (Cond.code yX7_fault cX7_fault 1 (some .int)) := rfl
set_option maxRecDepth 100000 in
theorem aMc_161 : lw_tbl[954]? = some (Cond.code yX7_whyNotDone cX7_whyNotDone 1 (some .int)) := rfl
set_option maxRecDepth 100000 in
theorem aMc_162 : lw_tbl[958]? = some (Cond.code yX7_does cX7_does 2 none) := rfl
set_option maxRecDepth 100000 in
theorem aMc_163 : lw_tbl[950]? = some (Cond.code yX7_carryOut cX7_carryOut 3 (some .int)) := rfl
set_option maxRecDepth 100000 in
theorem aMc_164 : lw_tbl[962]? = some (Cond.code yX7_undo cX7_undo 1 (some .int)) := rfl
set_option maxRecDepth 100000 in
theorem aMc_165 : lw_tbl[966]? = some (Cond.code yX7_save cX7_save 2 (some .int)) := rfl
set_option maxRecDepth 100000 in
theorem aMc_166 : lw_tbl[970]? = some (Cond.code yX7_restore cX7_restore 2 (some .int)) := rfl
set_option maxRecDepth 100000 in
theorem aMc_167 : lw_tbl[317]? = some (Cond.code yJ6_bitCount_0f7a4 cJ6_bitCount_0f7a4 1 (some .int)) := rfl
def aCodesIn : List aMeth → Prop
  | t :: ms => lw_tbl[t.2.2.2.2.2.2.2.getD 0 0]? = some (Cond.code t.1 t.2.1 t.2.2.1 t.2.2.2.1) ∧ aCodesIn ms
  | [] => True
theorem aCodesIn_at : ∀ (ms : List aMeth), aCodesIn ms → ∀ t ∈ ms, lw_tbl[t.2.2.2.2.2.2.2.getD 0 0]? = some (Cond.code t.1 t.2.1 t.2.2.1 t.2.2.2.1)
  | [], _, t, h => absurd h List.not_mem_nil
  | m :: ms, h, t, ht => by
    rcases List.mem_cons.mp ht with rfl | ht
    · exact h.1
    · exact aCodesIn_at ms h.2 t ht
set_option maxRecDepth 100000 in
theorem aMs_ok1 : ∀ t ∈ aMethsC, lw_tbl[t.2.2.2.2.2.2.2.getD 0 0]? = some (Cond.code t.1 t.2.1 t.2.2.1 t.2.2.2.1) := aCodesIn_at _ ⟨aMc_0, aMc_1, aMc_2, aMc_3, aMc_4, aMc_5, aMc_6, aMc_7, aMc_8, aMc_9, aMc_10, aMc_11, aMc_12, aMc_13, aMc_14, aMc_15, aMc_16, aMc_17, aMc_18, aMc_19, aMc_20, aMc_21, aMc_22, aMc_23, aMc_24, aMc_25, aMc_26, aMc_27, aMc_28, aMc_29, aMc_30, aMc_31, aMc_32, aMc_33, aMc_34, aMc_35, aMc_36, aMc_37, aMc_38, aMc_39, aMc_40, aMc_41, aMc_42, aMc_43, aMc_44, aMc_45, aMc_46, aMc_47, aMc_48, aMc_49, aMc_50, aMc_51, aMc_52, aMc_53, aMc_54, aMc_55, aMc_56, aMc_57, aMc_58, aMc_59, aMc_60, aMc_61, aMc_62, aMc_63, aMc_64, aMc_65, aMc_66, aMc_67, aMc_68, aMc_69, aMc_70, aMc_71, aMc_72, aMc_73, aMc_74, aMc_75, aMc_76, aMc_77, aMc_78, aMc_79, aMc_80, aMc_81, aMc_82, aMc_83, aMc_84, aMc_85, aMc_86, aMc_87, aMc_88, aMc_89, aMc_90, aMc_91, aMc_92, aMc_93, aMc_94, aMc_95, aMc_96, aMc_97, aMc_98, aMc_99, aMc_100, aMc_101, aMc_102, aMc_103, aMc_104, aMc_105, aMc_106, aMc_107, aMc_108, aMc_109, aMc_110, aMc_111, aMc_112, aMc_113, aMc_114, aMc_115, aMc_116, aMc_117, aMc_118, aMc_119, aMc_120, aMc_121, aMc_122, aMc_123, aMc_124, aMc_125, aMc_126, aMc_127, aMc_128, aMc_129, aMc_130, aMc_131, aMc_132, aMc_133, aMc_134, aMc_135, aMc_136, aMc_137, aMc_138, aMc_139, aMc_140, aMc_141, aMc_142, aMc_143, aMc_144, aMc_145, aMc_146, aMc_147, aMc_148, aMc_149, aMc_150, aMc_151, aMc_152, aMc_153, aMc_154, aMc_155, aMc_156, aMc_157, aMc_158, aMc_159, aMc_160, aMc_161, aMc_162, aMc_163, aMc_164, aMc_165, aMc_166, aMc_167, trivial⟩
set_option maxRecDepth 100000 in
theorem aMs_ok2 : ∀ t ∈ aMethsC, goodWord (Cond.code t.1 t.2.1 t.2.2.1 t.2.2.2.1) = true := by decide +kernel
set_option maxRecDepth 100000 in
theorem aMs_ok3 : ∀ t ∈ aMethsC, (if t.2.2.2.2.2.2.1 = 1 then lw_tbl[t.2.2.2.2.2.2.2.getD 1 0]? = some (Cond.static t.1) ∧ goodWord (Cond.static t.1) = true else lw_tbl[t.2.2.2.2.2.2.2.getD 1 0]? = some (Cond.instanceMethod t.1) ∧ goodWord (Cond.instanceMethod t.1) = true) := by decide +kernel
set_option maxRecDepth 100000 in
theorem aMs_ok4 : ∀ t ∈ aMethsC, (t.2.2.2.2.2.2.1 = 0 → lw_tbl[t.2.2.2.2.2.2.2.getD 2 0]? = some (Cond.selects t.1.cls t.1 t.1) ∧ goodWord (Cond.selects t.1.cls t.1 t.1) = true) := by decide +kernel
set_option maxRecDepth 100000 in
theorem aMs_ok5 : ∀ t ∈ aMethsC, (t.2.2.2.2.2.2.1 = 2 → t.1.name = "<init>" ∧ t.2.2.2.1 = none) := by decide +kernel
set_option maxRecDepth 100000 in
theorem aMs_ok6 : ∀ t ∈ aMethsC, (lw_tbl[t.2.2.2.2.2.2.2.getD 3 0]? = some (Cond.initialized t.1.cls) ∧ goodWord (Cond.initialized t.1.cls) = true) := by decide +kernel
set_option maxRecDepth 100000 in
theorem aMs_ok7 : ∀ t ∈ aMethsC, t.2.2.2.2.1 < 8 → plainName t.1.cls = true := by decide +kernel
set_option maxRecDepth 100000 in
theorem aMs_ok8 : ∀ t ∈ aMethsC, t.1.cls ≠ "java/lang/invoke/MethodHandle" ∧ t.1.cls ≠ "java/lang/invoke/VarHandle" := by decide +kernel
set_option maxRecDepth 100000 in
theorem aMs_ok9 : ∀ t ∈ aMethsC, (parseMethodDescriptor t.1.desc).map (fun d => d.parameters.length) = some t.2.2.2.2.2.1 := by decide +kernel
set_option maxRecDepth 100000 in
theorem aMs_ok10 : ∀ t ∈ aMethsC, t.2.2.1 ≤ 16 := by decide +kernel
theorem aMs_ok : ∀ t ∈ aMethsC, aMOK t := fun t h => ⟨aMs_ok1 t h, aMs_ok2 t h, aMs_ok3 t h, aMs_ok4 t h, aMs_ok5 t h, aMs_ok6 t h, aMs_ok7 t h, (aMs_ok8 t h).1, (aMs_ok8 t h).2, aMs_ok9 t h, aMs_ok10 t h⟩
def aCn : List String := [RX0, RX1, RX2, RX3, RX4, RX5, RX6, RX7, RJ6, RJ9, RJ10, RL]
def aClass (i : Nat) : String := aCn.getD i ""
def lF : List (Nat × Nat × Nat × Nat × Nat) := [(0, 9, 0, 0, 92), (0, 15, 0, 1, 93), (0, 22, 0, 2, 94), (6, 79, 0, 2, 95), (5, 136, 0, 2, 96), (0, 25, 0, 3, 97), (6, 85, 0, 3, 98), (5, 120, 0, 3, 99), (0, 28, 0, 4, 100), (6, 91, 0, 4, 101), (5, 139, 0, 4, 102), (0, 18, 0, 5, 103), (6, 100, 0, 5, 104), (5, 89, 0, 5, 105), (0, 31, 0, 6, 106), (5, 9, 5, 0, 123), (6, 146, 5, 0, 124), (5, 15, 5, 1, 125), (6, 129, 5, 1, 126), (5, 18, 5, 2, 127), (1, 30, 5, 2, 128), (6, 137, 5, 2, 129), (5, 23, 5, 3, 130), (5, 32, 5, 4, 131), (6, 149, 5, 4, 132), (5, 39, 5, 5, 133), (1, 37, 5, 5, 134), (6, 152, 5, 5, 135), (5, 36, 5, 6, 136), (6, 158, 5, 6, 137), (1, 12, 1, 0, 161), (6, 175, 1, 0, 162), (1, 18, 1, 1, 163), (6, 187, 1, 1, 164), (1, 60, 1, 2, 165), (6, 179, 1, 2, 166), (2, 11, 2, 0, 183), (2, 18, 2, 1, 184), (2, 22, 2, 2, 185), (6, 167, 2, 2, 186), (3, 9, 3, 0, 202), (3, 19, 3, 1, 203), (6, 164, 3, 1, 204), (3, 36, 3, 2, 205), (3, 50, 3, 3, 206), (6, 225, 3, 3, 207), (3, 65, 3, 4, 208), (6, 228, 3, 4, 209), (3, 53, 3, 5, 210), (6, 231, 3, 5, 211), (4, 10, 4, 0, 232), (6, 216, 4, 0, 233), (6, 221, 4, 1, 234), (6, 12, 6, 0, 240), (6, 19, 6, 1, 241), (6, 26, 6, 2, 242), (6, 32, 6, 3, 243), (6, 39, 6, 4, 244), (7, 7, 7, 0, 650), (7, 13, 7, 1, 651), (7, 16, 7, 2, 652), (7, 28, 7, 3, 653), (7, 19, 7, 4, 654), (7, 22, 7, 5, 655), (7, 25, 7, 6, 656), (7, 163, 7, 7, 657), (7, 171, 7, 8, 658), (7, 180, 7, 9, 659), (7, 183, 7, 10, 660), (7, 192, 7, 11, 661)]
def lM : List (Nat × Nat × Nat × Nat × Nat) := [(11, 9, 63, 2, 73), (6, 3, 999, 5, 76), (6, 11, 41, 2, 81), (5, 3, 999, 5, 84), (5, 27, 0, 3, 88), (0, 3, 999, 5, 91), (6, 18, 16, 3, 155), (1, 3, 999, 5, 158), (1, 11, 0, 3, 160), (6, 25, 21, 2, 176), (2, 3, 999, 5, 179), (2, 17, 41, 2, 182), (6, 38, 26, 3, 198), (3, 3, 999, 5, 201), (6, 43, 40, 3, 226), (4, 1, 999, 5, 229), (4, 9, 41, 2, 231), (11, 13, 64, 0, 256), (6, 44, 23, 0, 260), (2, 25, 22, 0, 264), (2, 29, 42, 0, 268), (5, 28, 93, 4, 272), (6, 234, 999, 7, 275), (6, 239, 999, 6, 278), (5, 42, 43, 0, 281), (5, 46, 4, 0, 285), (0, 42, 93, 4, 289), (6, 48, 46, 0, 290), (5, 50, 89, 4, 294), (5, 54, 90, 4, 297), (5, 58, 91, 4, 300), (6, 52, 24, 0, 303), (11, 18, 65, 0, 307), (6, 56, 47, 0, 311), (5, 62, 167, 1, 315), (11, 22, 66, 0, 321), (6, 59, 48, 0, 325), (5, 68, 45, 0, 329), (11, 27, 67, 0, 333), (6, 62, 49, 0, 337), (5, 72, 59, 0, 341), (5, 79, 44, 0, 345), (5, 86, 5, 0, 349), (5, 75, 1, 0, 353), (0, 34, 2, 0, 357), (0, 38, 91, 4, 361), (11, 31, 68, 0, 362), (6, 65, 50, 0, 366), (5, 82, 10, 0, 370), (11, 35, 69, 0, 374), (6, 68, 51, 0, 378), (5, 92, 53, 0, 382), (5, 99, 54, 0, 386), (5, 129, 15, 0, 390), (0, 46, 90, 4, 394), (5, 133, 9, 0, 395), (5, 103, 55, 0, 399), (5, 142, 12, 0, 403), (0, 50, 10, 0, 407), (5, 145, 11, 0, 408), (5, 126, 92, 4, 412), (5, 106, 3, 0, 415), (5, 110, 56, 0, 419), (5, 148, 7, 0, 423), (5, 151, 57, 0, 427), (5, 114, 2, 0, 431), (5, 117, 13, 0, 432), (0, 54, 7, 0, 436), (5, 123, 6, 0, 437), (5, 96, 60, 0, 441), (11, 40, 70, 0, 445), (6, 72, 52, 0, 449), (11, 44, 71, 0, 453), (6, 75, 44, 0, 457), (6, 88, 9, 0, 458), (6, 94, 12, 0, 459), (6, 97, 14, 0, 460), (6, 103, 15, 0, 464), (6, 106, 11, 0, 465), (6, 109, 58, 0, 466), (11, 48, 72, 0, 470), (6, 112, 89, 1, 474), (6, 116, 6, 0, 475), (6, 119, 7, 0, 476), (6, 122, 8, 0, 477), (11, 53, 73, 0, 481), (6, 126, 45, 0, 485), (6, 133, 90, 1, 486), (6, 140, 59, 0, 487), (6, 143, 61, 0, 488), (11, 57, 74, 0, 492), (11, 61, 75, 0, 496), (6, 155, 60, 0, 500), (6, 161, 62, 0, 501), (11, 65, 76, 0, 505), (6, 168, 57, 0, 509), (11, 69, 77, 0, 510), (6, 171, 17, 0, 514), (1, 22, 4, 0, 518), (1, 26, 20, 0, 519), (1, 63, 5, 0, 523), (1, 67, 53, 0, 524), (11, 73, 78, 0, 525), (6, 180, 19, 0, 529), (1, 45, 1, 0, 533), (1, 49, 11, 0, 534), (1, 53, 12, 0, 535), (1, 56, 58, 0, 536), (11, 77, 79, 0, 537), (6, 184, 18, 0, 541), (1, 33, 93, 4, 545), (1, 41, 44, 0, 546), (11, 83, 80, 0, 547), (6, 188, 27, 0, 551), (3, 15, 28, 1, 555), (3, 25, 91, 4, 559), (11, 88, 81, 0, 560), (6, 192, 29, 0, 564), (11, 92, 82, 0, 568), (6, 195, 30, 0, 572), (3, 29, 31, 0, 576), (3, 32, 32, 0, 580), (3, 39, 37, 0, 584), (3, 46, 39, 0, 588), (3, 43, 33, 0, 592), (3, 56, 34, 0, 596), (3, 68, 38, 0, 600), (3, 71, 89, 4, 604), (3, 59, 36, 0, 605), (3, 62, 35, 0, 609), (11, 96, 83, 0, 613), (6, 198, 31, 0, 617), (6, 201, 32, 0, 618), (6, 205, 87, 0, 619), (11, 100, 84, 0, 623), (6, 208, 25, 0, 627), (11, 104, 85, 0, 631), (6, 212, 88, 0, 635), (6, 218, 42, 0, 639), (11, 108, 86, 0, 640), (11, 12, 94, 2, 646), (7, 1, 999, 5, 649), (11, 17, 121, 0, 687), (7, 99, 99, 1, 691), (7, 36, 96, 1, 694), (7, 102, 97, 0, 697), (7, 32, 95, 1, 701), (11, 21, 124, 0, 704), (7, 108, 122, 0, 708), (7, 105, 100, 1, 712), (7, 111, 123, 0, 715), (7, 63, 98, 1, 719), (11, 26, 127, 0, 722), (7, 114, 125, 0, 726), (7, 69, 101, 0, 730), (7, 117, 126, 0, 734), (11, 30, 131, 0, 738), (7, 126, 128, 0, 742), (7, 120, 113, 0, 746), (7, 40, 103, 0, 750), (7, 59, 112, 0, 754), (7, 129, 130, 0, 758), (7, 123, 129, 0, 762), (7, 44, 104, 0, 766), (7, 85, 106, 0, 770), (11, 34, 134, 0, 774), (7, 135, 132, 0, 778), (7, 132, 102, 0, 782), (7, 138, 133, 0, 786), (11, 39, 135, 0, 790), (7, 141, 120, 0, 794), (7, 89, 116, 0, 798), (7, 48, 107, 0, 802), (7, 55, 105, 0, 806), (7, 66, 111, 0, 810), (7, 92, 118, 0, 814), (7, 72, 109, 0, 818), (7, 52, 108, 0, 822), (7, 75, 110, 0, 826), (7, 78, 117, 0, 830), (7, 96, 119, 0, 834), (7, 82, 115, 0, 838), (7, 144, 114, 0, 842), (11, 43, 137, 0, 846), (7, 147, 136, 0, 850), (11, 47, 140, 0, 854), (7, 151, 138, 0, 858), (7, 154, 139, 0, 862), (11, 52, 141, 0, 866), (11, 56, 143, 0, 870), (7, 157, 142, 0, 874), (11, 60, 144, 0, 878), (11, 64, 146, 0, 882), (7, 160, 145, 0, 886), (11, 68, 147, 0, 890), (11, 72, 148, 0, 894), (11, 76, 150, 0, 898), (7, 166, 149, 0, 902), (11, 80, 151, 0, 906), (11, 87, 152, 0, 910), (11, 91, 153, 0, 915), (11, 95, 160, 0, 919), (7, 199, 159, 0, 923), (7, 195, 158, 0, 927), (7, 174, 154, 0, 931), (7, 177, 156, 0, 935), (7, 186, 155, 0, 939), (7, 189, 157, 0, 943), (11, 99, 163, 0, 947), (7, 202, 161, 0, 951), (7, 205, 162, 0, 955), (11, 103, 164, 0, 959), (11, 107, 165, 0, 963), (11, 111, 166, 0, 967)]
def lC : List (Nat × Nat × Nat × Nat × Nat × Nat) := [(11, 7, 6, 71, 72, 60), (6, 9, 5, 79, 80, 61), (5, 21, 0, 85, 87, 62), (6, 16, 1, 153, 154, 63), (1, 9, 0, 159, 87, 62), (6, 23, 2, 174, 175, 64), (2, 9, 5, 180, 80, 61), (6, 30, 4, 194, 225, 66), (6, 36, 3, 196, 197, 65), (4, 7, 5, 230, 80, 61), (11, 10, 7, 644, 645, 67)]
def lI : List (Nat × Nat × Int32 × Nat) := [(8, 265, 1431655765, 318), (8, 266, 858993459, 319), (8, 267, 252645135, 320)]
def lJ : List (Nat × Nat × Int64 × Nat) := [(3, 23, 255, 558), (7, 169, 255, 914), (11, 81, 4294967295, 971)]
def aNw (i : Nat) : vw_C := vwCl.getD i ("", TX0, 0)
def aName (t : Nat) : MethodName := (aMeths.getD t (yL_law, cL_law, 0, none, 0, 0, 0, [])).1
def lFOK (q : Nat × Nat × Nat × Nat × Nat) : Prop := lw_tbl[q.2.2.2.2]? = some (Cond.fieldLink (aClass q.1) q.2.1 ((aNw q.2.2.1).2.1 q.2.2.2.1).1 ((aNw q.2.2.1).2.1 q.2.2.2.1).2.1 ((aNw q.2.2.1).2.1 q.2.2.2.1).2.2.1) ∧ goodWord (Cond.fieldLink (aClass q.1) q.2.1 ((aNw q.2.2.1).2.1 q.2.2.2.1).1 ((aNw q.2.2.1).2.1 q.2.2.2.1).2.1 ((aNw q.2.2.1).2.1 q.2.2.2.1).2.2.1) = true ∧ q.2.2.1 < 8 ∧ q.2.2.2.1 < (aNw q.2.2.1).2.2
def lMOK (q : Nat × Nat × Nat × Nat × Nat) : Prop := (q.2.2.2.1 = 0 ∨ q.2.2.2.1 = 1 ∨ q.2.2.2.1 = 2 → lw_tbl[q.2.2.2.2]? = some (Cond.methodLink (aClass q.1) q.2.1 (aName q.2.2.1)) ∧ goodWord (Cond.methodLink (aClass q.1) q.2.1 (aName q.2.2.1)) = true) ∧ (q.2.2.2.1 = 3 ∨ q.2.2.2.1 = 4 → lw_tbl[q.2.2.2.2]? = some (Cond.methodLinkNest (aClass q.1) q.2.1 (aName q.2.2.1) RX6)) ∧ (q.2.2.2.1 = 5 → lw_tbl[q.2.2.2.2]? = some (Cond.methodLink (aClass q.1) q.2.1 objectInit) ∧ goodWord (Cond.methodLink (aClass q.1) q.2.1 objectInit) = true) ∧ (q.2.2.2.1 = 6 → lw_tbl[q.2.2.2.2]? = some (Cond.methodLink (aClass q.1) q.2.1 arraycopyName) ∧ goodWord (Cond.methodLink (aClass q.1) q.2.1 arraycopyName) = true) ∧ (q.2.2.2.1 = 7 → lw_tbl[q.2.2.2.2]? = some (Cond.methodLink (aClass q.1) q.2.1 Lib.Math.min.name) ∧ goodWord (Cond.methodLink (aClass q.1) q.2.1 Lib.Math.min.name) = true) ∧ q.2.2.2.1 < 8 ∧ (q.2.2.2.1 < 5 → q.2.2.1 < 168 ∧ (aMeths.getD q.2.2.1 (yL_law, cL_law, 0, none, 0, 0, 0, [])).2.2.2.2.2.2.1 = (if q.2.2.2.1 = 3 then 2 else if q.2.2.2.1 = 4 then 1 else q.2.2.2.1))
def lCOK (q : Nat × Nat × Nat × Nat × Nat × Nat) : Prop := lw_tbl[q.2.2.2.1]? = some (Cond.classLink (aClass q.1) q.2.1 (aNw q.2.2.1).1) ∧ goodWord (Cond.classLink (aClass q.1) q.2.1 (aNw q.2.2.1).1) = true ∧ lw_tbl[q.2.2.2.2.1]? = some (Cond.instantiable (aNw q.2.2.1).1 (aNw q.2.2.1).2.2) ∧ goodWord (Cond.instantiable (aNw q.2.2.1).1 (aNw q.2.2.1).2.2) = true ∧ lw_tbl[q.2.2.2.2.2]? = some (Cond.initialized (aNw q.2.2.1).1) ∧ goodWord (Cond.initialized (aNw q.2.2.1).1) = true ∧ q.2.2.1 < 8
def lIOK (q : Nat × Nat × Int32 × Nat) : Prop := lw_tbl[q.2.2.2]? = some (Cond.constant (aClass q.1) q.2.1 q.2.2.1) ∧ goodWord (Cond.constant (aClass q.1) q.2.1 q.2.2.1) = true
def lJOK (q : Nat × Nat × Int64 × Nat) : Prop := lw_tbl[q.2.2.2]? = some (Cond.constantLong (aClass q.1) q.2.1 q.2.2.1) ∧ goodWord (Cond.constantLong (aClass q.1) q.2.1 q.2.2.1) = true
set_option maxRecDepth 100000 in
theorem lF_ok : ∀ q ∈ lF, lFOK q := by
  unfold lFOK
  decide +kernel
set_option maxRecDepth 100000 in
theorem lM_ok : ∀ q ∈ lM, lMOK q := by
  unfold lMOK
  decide +kernel
set_option maxRecDepth 100000 in
theorem lC_ok : ∀ q ∈ lC, lCOK q := by
  unfold lCOK
  decide +kernel
set_option maxRecDepth 100000 in
theorem lI_ok : ∀ q ∈ lI, lIOK q := by
  unfold lIOK
  decide +kernel
set_option maxRecDepth 100000 in
theorem lJ_ok : ∀ q ∈ lJ, lJOK q := by
  unfold lJOK
  decide +kernel
theorem aW_objI : lw_tbl[77]? = some (Cond.instanceMethod objectInit) ∧ goodWord (Cond.instanceMethod objectInit) = true := by decide +kernel
theorem aW_objC : lw_tbl[78]? = some (Cond.code objectInit ⟨#[0xb1]⟩ 1 none) ∧ goodWord (Cond.code objectInit ⟨#[0xb1]⟩ 1 none) = true := by decide +kernel
theorem aW_acN : lw_tbl[280]? = some (Cond.native arraycopyName) ∧ goodWord (Cond.native arraycopyName) = true := by decide +kernel
theorem aW_acS : lw_tbl[279]? = some (Cond.static arraycopyName) ∧ goodWord (Cond.static arraycopyName) = true := by decide +kernel
theorem aW_acI : lw_tbl[69]? = some (Cond.initialized "java/lang/System") ∧ goodWord (Cond.initialized "java/lang/System") = true := by decide +kernel
theorem aW_arr : lw_tbl[122]? = some (Cond.arrayClass .int) ∧ goodWord (Cond.arrayClass .int) = true := by decide +kernel
theorem aW_mmS : lw_tbl[276]? = some (Cond.static Lib.Math.min.name) ∧ goodWord (Cond.static Lib.Math.min.name) = true := by decide +kernel
theorem aW_mmI : lw_tbl[68]? = some (Cond.initialized "java/lang/Math") ∧ goodWord (Cond.initialized "java/lang/Math") = true := by decide +kernel
theorem aW_mmC : lw_tbl[277]? = some (Cond.code Lib.Math.min.name Lib.Math.min.code 2 (some .int)) ∧ goodWord (Cond.code Lib.Math.min.name Lib.Math.min.code 2 (some .int)) = true := by decide +kernel
theorem aW_ao1 : lw_tbl[86]? = some (Cond.arrayOver (.object RX0)) := by decide +kernel
theorem aW_ao2 : lw_tbl[181]? = some (Cond.arrayOver (.object RX5)) := by decide +kernel
theorem aW_ao3 : lw_tbl[195]? = some (Cond.arrayOver (.object RX4)) := by decide +kernel
theorem aW_lay : ∀ q ∈ vwCl, ∀ w ∈ u_ws q.1 q.2.1 q.2.2, goodWord w = true ∧ w ∈ lw_tbl := by decide +kernel
theorem aW_inst : ∀ q ∈ vwCl, Cond.instantiable q.1 q.2.2 ∈ aTbl := by decide +kernel
