-- ===== PART A: goes FIRST, ahead of the names: the tables' words, and 'selects' of the private methods out of them =====
/-- a private method of a class that the tables say can be made, by its rows of tables_1 -/
def lw_okq (q : MethodName × Nat) : Prop := (q.1.cls ≠ "java/lang/invoke/MethodHandle" ∧ q.1.cls ≠ "java/lang/invoke/VarHandle") ∧ Cond.instantiable q.1.cls q.2 ∈ tables_1 ∧ Cond.privateMethod q.1 ∈ tables_1 ∧ Cond.instanceMethod q.1 ∈ tables_1
theorem lw_p0 : lw_okq (⟨"DoodleAlbums$History", "stateAt", "(I)LDoodleAlbums$Table;"⟩, 3) := ⟨⟨by decide +kernel, by decide +kernel⟩, List.mem_of_getElem? (i := 115) (by decide +kernel), List.mem_of_getElem? (i := 195) (by decide +kernel), List.mem_of_getElem? (i := 196) (by decide +kernel)⟩
theorem lw_p1 : lw_okq (⟨"DoodleAlbums$Table", "placeAt", "(I)LDoodleAlbums$Album;"⟩, 7) := ⟨⟨by decide +kernel, by decide +kernel⟩, List.mem_of_getElem? (i := 20) (by decide +kernel), List.mem_of_getElem? (i := 212) (by decide +kernel), List.mem_of_getElem? (i := 213) (by decide +kernel)⟩
theorem lw_p2 : lw_okq (⟨"DoodleAlbums$Table", "nextSeat", "(LDoodleAlbums$Album;)I"⟩, 7) := ⟨⟨by decide +kernel, by decide +kernel⟩, List.mem_of_getElem? (i := 20) (by decide +kernel), List.mem_of_getElem? (i := 317) (by decide +kernel), List.mem_of_getElem? (i := 318) (by decide +kernel)⟩
theorem lw_p3 : lw_okq (⟨"DoodleAlbums$Table", "end", "(LDoodleAlbums$Album;[I)V"⟩, 7) := ⟨⟨by decide +kernel, by decide +kernel⟩, List.mem_of_getElem? (i := 20) (by decide +kernel), List.mem_of_getElem? (i := 330) (by decide +kernel), List.mem_of_getElem? (i := 331) (by decide +kernel)⟩
theorem lw_p4 : lw_okq (⟨"DoodleAlbums$Table", "pageBy", "(ILDoodleAlbums$Album;)I"⟩, 7) := ⟨⟨by decide +kernel, by decide +kernel⟩, List.mem_of_getElem? (i := 20) (by decide +kernel), List.mem_of_getElem? (i := 350) (by decide +kernel), List.mem_of_getElem? (i := 351) (by decide +kernel)⟩
theorem lw_p5 : lw_okq (⟨"DoodleAlbums$Forecast", "playToEnd", "(LDoodleAlbums$Table;)V"⟩, 3) := ⟨⟨by decide +kernel, by decide +kernel⟩, List.mem_of_getElem? (i := 94) (by decide +kernel), List.mem_of_getElem? (i := 478) (by decide +kernel), List.mem_of_getElem? (i := 479) (by decide +kernel)⟩
def lw_privs_1 : List (MethodName × Nat) := [(⟨"DoodleAlbums$History", "stateAt", "(I)LDoodleAlbums$Table;"⟩, 3), (⟨"DoodleAlbums$Table", "placeAt", "(I)LDoodleAlbums$Album;"⟩, 7), (⟨"DoodleAlbums$Table", "nextSeat", "(LDoodleAlbums$Album;)I"⟩, 7), (⟨"DoodleAlbums$Table", "end", "(LDoodleAlbums$Album;[I)V"⟩, 7), (⟨"DoodleAlbums$Table", "pageBy", "(ILDoodleAlbums$Album;)I"⟩, 7), (⟨"DoodleAlbums$Forecast", "playToEnd", "(LDoodleAlbums$Table;)V"⟩, 3)]
theorem lw_r1 : ∀ q ∈ lw_privs_1, lw_okq q := List.forall_mem_cons.mpr ⟨lw_p0, List.forall_mem_cons.mpr ⟨lw_p1, List.forall_mem_cons.mpr ⟨lw_p2, List.forall_mem_cons.mpr ⟨lw_p3, List.forall_mem_cons.mpr ⟨lw_p4, List.forall_mem_cons.mpr ⟨lw_p5, fun _ h => absurd h List.not_mem_nil⟩⟩⟩⟩⟩⟩
def lw_privs : List (MethodName × Nat) := lw_privs_1
def lw_tbl : List Cond := k2_sels lw_privs ++ tables_1
theorem lw_privs_ok : ∀ q ∈ lw_privs, lw_okq q := lw_r1
def RX0 : String := "DoodleAlbums$Album"
def TX0 : u_T := fun k => match k with
  | 0 => ("DoodleAlbums$Album", "seats", "[I", true)
  | 1 => ("DoodleAlbums$Album", "marks", "[I", true)
  | 2 => ("DoodleAlbums$Album", "owner", "I", false)
  | 3 => ("DoodleAlbums$Album", "pages", "I", false)
  | 4 => ("DoodleAlbums$Album", "state", "I", false)
  | 5 => ("DoodleAlbums$Album", "toldNext", "I", false)
  | _ => ("DoodleAlbums$Album", "toldPages", "I", false)
def tyX0 : Nat → FieldType := fun k => match k with
  | 0 => .array .int
  | 1 => .array .int
  | 2 => .int
  | 3 => .int
  | 4 => .int
  | 5 => .int
  | _ => .int
abbrev wsX00 : List Cond := u_ws RX0 TX0 7
theorem nmX0 : ∀ a, a < 7 → ∀ b, b < 7 → a ≠ b → (TX0 a).2.1 ≠ (TX0 b).2.1 := by decide +kernel
theorem tyX0_ok : ∀ k, k < 7 → parseFieldDescriptor (TX0 k).2.2.1 = some (tyX0 k) := by decide +kernel
abbrev cX0_init : ByteArray := prog_2_method_1_code
def yX0_init : MethodName := ⟨RX0, "<init>", "()V"⟩
abbrev cX0_start : ByteArray := prog_2_method_2_code
def yX0_start : MethodName := ⟨RX0, "start", "(II)V"⟩
abbrev cX0_addPage : ByteArray := prog_2_method_3_code
def yX0_addPage : MethodName := ⟨RX0, "addPage", "(II)V"⟩
abbrev cX0_addToldPage : ByteArray := prog_2_method_4_code
def yX0_addToldPage : MethodName := ⟨RX0, "addToldPage", "(I)V"⟩
abbrev cX0_copyFrom : ByteArray := prog_2_method_5_code
def yX0_copyFrom : MethodName := ⟨RX0, "copyFrom", "(LDoodleAlbums$Album;)V"⟩
abbrev cX0_goesRound : ByteArray := prog_2_method_6_code
def yX0_goesRound : MethodName := ⟨RX0, "goesRound", "()Z"⟩
abbrev cX0_seatOf : ByteArray := prog_2_method_7_code
def yX0_seatOf : MethodName := ⟨RX0, "seatOf", "(I)I"⟩
abbrev cX0_markOf : ByteArray := prog_2_method_8_code
def yX0_markOf : MethodName := ⟨RX0, "markOf", "(I)I"⟩
abbrev cX0_wasTold : ByteArray := prog_2_method_9_code
def yX0_wasTold : MethodName := ⟨RX0, "wasTold", "(I)Z"⟩
abbrev cX0_liesAt : ByteArray := prog_2_method_10_code
def yX0_liesAt : MethodName := ⟨RX0, "liesAt", "()I"⟩
abbrev cX0_endsWithWord : ByteArray := prog_2_method_11_code
def yX0_endsWithWord : MethodName := ⟨RX0, "endsWithWord", "()Z"⟩
abbrev cX0_firstWord : ByteArray := prog_2_method_12_code
def yX0_firstWord : MethodName := ⟨RX0, "firstWord", "()I"⟩
abbrev cX0_lastWord : ByteArray := prog_2_method_13_code
def yX0_lastWord : MethodName := ⟨RX0, "lastWord", "()I"⟩
abbrev cX0_hasFoundWordAgain : ByteArray := prog_2_method_14_code
def yX0_hasFoundWordAgain : MethodName := ⟨RX0, "hasFoundWordAgain", "()Z"⟩
abbrev cX0_wordChanges : ByteArray := prog_2_method_15_code
def yX0_wordChanges : MethodName := ⟨RX0, "wordChanges", "()I"⟩
abbrev cX0_seatSet : ByteArray := prog_2_method_16_code
def yX0_seatSet : MethodName := ⟨RX0, "seatSet", "()I"⟩
def RX1 : String := "DoodleAlbums$Forecast"
def TX1 : u_T := fun k => match k with
  | 0 => ("DoodleAlbums$Forecast", "album", "LDoodleAlbums$Album;", true)
  | 1 => ("DoodleAlbums$Forecast", "points", "[I", true)
  | _ => ("DoodleAlbums$Forecast", "rounds", "I", false)
def tyX1 : Nat → FieldType := fun k => match k with
  | 0 => .object "DoodleAlbums$Album"
  | 1 => .array .int
  | _ => .int
abbrev wsX10 : List Cond := u_ws RX1 TX1 3
theorem nmX1 : ∀ a, a < 3 → ∀ b, b < 3 → a ≠ b → (TX1 a).2.1 ≠ (TX1 b).2.1 := by decide +kernel
theorem tyX1_ok : ∀ k, k < 3 → parseFieldDescriptor (TX1 k).2.2.1 = some (tyX1 k) := by decide +kernel
abbrev cX1_init : ByteArray := prog_3_method_1_code
def yX1_init : MethodName := ⟨RX1, "<init>", "()V"⟩
abbrev cX1_follow : ByteArray := prog_3_method_2_code
def yX1_follow : MethodName := ⟨RX1, "follow", "(LDoodleAlbums$Table;LDoodleAlbums$Album;)V"⟩
abbrev cX1_followAll : ByteArray := prog_3_method_3_code
def yX1_followAll : MethodName := ⟨RX1, "followAll", "(LDoodleAlbums$Table;)V"⟩
abbrev cX1_differenceAtHome : ByteArray := prog_3_method_4_code
def yX1_differenceAtHome : MethodName := ⟨RX1, "differenceAtHome", "(LDoodleAlbums$Table;II)I"⟩
abbrev cX1_playToEnd : ByteArray := prog_3_method_5_code
def yX1_playToEnd : MethodName := ⟨RX1, "playToEnd", "(LDoodleAlbums$Table;)V"⟩
def RX2 : String := "DoodleAlbums$History"
def TX2 : u_T := fun k => match k with
  | 0 => ("DoodleAlbums$History", "states", "[LDoodleAlbums$Table;", true)
  | 1 => ("DoodleAlbums$History", "oldest", "I", false)
  | _ => ("DoodleAlbums$History", "size", "I", false)
def tyX2 : Nat → FieldType := fun k => match k with
  | 0 => .array (.object "DoodleAlbums$Table")
  | 1 => .int
  | _ => .int
abbrev wsX20 : List Cond := u_ws RX2 TX2 3
theorem nmX2 : ∀ a, a < 3 → ∀ b, b < 3 → a ≠ b → (TX2 a).2.1 ≠ (TX2 b).2.1 := by decide +kernel
theorem tyX2_ok : ∀ k, k < 3 → parseFieldDescriptor (TX2 k).2.2.1 = some (tyX2 k) := by decide +kernel
abbrev cX2_init : ByteArray := prog_4_method_1_code
def yX2_init : MethodName := ⟨RX2, "<init>", "()V"⟩
abbrev cX2_stateAt : ByteArray := prog_4_method_2_code
def yX2_stateAt : MethodName := ⟨RX2, "stateAt", "(I)LDoodleAlbums$Table;"⟩
abbrev cX2_prepare : ByteArray := prog_4_method_3_code
def yX2_prepare : MethodName := ⟨RX2, "prepare", "(LDoodleAlbums$Table;)V"⟩
abbrev cX2_recordUnlessError : ByteArray := prog_4_method_4_code
def yX2_recordUnlessError : MethodName := ⟨RX2, "recordUnlessError", "(I)I"⟩
def RX3 : String := "DoodleAlbums$Pad"
def TX3 : u_T := fun k => match k with
  | 0 => ("DoodleAlbums$Pad", "signs", "[I", true)
  | 1 => ("DoodleAlbums$Pad", "size", "I", false)
  | 2 => ("DoodleAlbums$Pad", "position", "I", false)
  | 3 => ("DoodleAlbums$Pad", "kind", "I", false)
  | 4 => ("DoodleAlbums$Pad", "first", "I", false)
  | _ => ("DoodleAlbums$Pad", "second", "I", false)
def tyX3 : Nat → FieldType := fun k => match k with
  | 0 => .array .int
  | 1 => .int
  | 2 => .int
  | 3 => .int
  | 4 => .int
  | _ => .int
abbrev wsX30 : List Cond := u_ws RX3 TX3 6
theorem nmX3 : ∀ a, a < 6 → ∀ b, b < 6 → a ≠ b → (TX3 a).2.1 ≠ (TX3 b).2.1 := by decide +kernel
theorem tyX3_ok : ∀ k, k < 6 → parseFieldDescriptor (TX3 k).2.2.1 = some (tyX3 k) := by decide +kernel
abbrev cX3_init : ByteArray := prog_5_method_1_code
def yX3_init : MethodName := ⟨RX3, "<init>", "()V"⟩
def RX4 : String := "DoodleAlbums$Slot"
def TX4 : u_T := fun k => match k with
  | 0 => ("DoodleAlbums$Slot", "state", "LDoodleAlbums$Table;", true)
  | _ => ("DoodleAlbums$Slot", "filled", "Z", false)
def tyX4 : Nat → FieldType := fun k => match k with
  | 0 => .object "DoodleAlbums$Table"
  | _ => .boolean
abbrev wsX40 : List Cond := u_ws RX4 TX4 2
theorem nmX4 : ∀ a, a < 2 → ∀ b, b < 2 → a ≠ b → (TX4 a).2.1 ≠ (TX4 b).2.1 := by decide +kernel
theorem tyX4_ok : ∀ k, k < 2 → parseFieldDescriptor (TX4 k).2.2.1 = some (tyX4 k) := by decide +kernel
abbrev cX4_init : ByteArray := prog_6_method_1_code
def yX4_init : MethodName := ⟨RX4, "<init>", "()V"⟩
def RX5 : String := "DoodleAlbums$Table"
def TX5 : u_T := fun k => match k with
  | 0 => ("DoodleAlbums$Table", "features", "[I", true)
  | 1 => ("DoodleAlbums$Table", "drawable", "[I", true)
  | 2 => ("DoodleAlbums$Table", "points", "[I", true)
  | 3 => ("DoodleAlbums$Table", "albums", "[LDoodleAlbums$Album;", true)
  | 4 => ("DoodleAlbums$Table", "players", "I", false)
  | 5 => ("DoodleAlbums$Table", "albumCount", "I", false)
  | _ => ("DoodleAlbums$Table", "rounds", "I", false)
def tyX5 : Nat → FieldType := fun k => match k with
  | 0 => .array .int
  | 1 => .array .int
  | 2 => .array .int
  | 3 => .array (.object "DoodleAlbums$Album")
  | 4 => .int
  | 5 => .int
  | _ => .int
abbrev wsX50 : List Cond := u_ws RX5 TX5 7
theorem nmX5 : ∀ a, a < 7 → ∀ b, b < 7 → a ≠ b → (TX5 a).2.1 ≠ (TX5 b).2.1 := by decide +kernel
theorem tyX5_ok : ∀ k, k < 7 → parseFieldDescriptor (TX5 k).2.2.1 = some (tyX5 k) := by decide +kernel
abbrev cX5_init : ByteArray := prog_7_method_1_code
def yX5_init : MethodName := ⟨RX5, "<init>", "()V"⟩
abbrev cX5_copyFrom : ByteArray := prog_7_method_2_code
def yX5_copyFrom : MethodName := ⟨RX5, "copyFrom", "(LDoodleAlbums$Table;)V"⟩
abbrev cX5_placeAt : ByteArray := prog_7_method_3_code
def yX5_placeAt : MethodName := ⟨RX5, "placeAt", "(I)LDoodleAlbums$Album;"⟩
abbrev cX5_albumAt : ByteArray := prog_7_method_4_code
def yX5_albumAt : MethodName := ⟨RX5, "albumAt", "(I)LDoodleAlbums$Album;"⟩
abbrev cX5_isTaken : ByteArray := prog_7_method_5_code
def yX5_isTaken : MethodName := ⟨RX5, "isTaken", "(I)Z"⟩
abbrev cX5_changeFeatures : ByteArray := prog_7_method_6_code
def yX5_changeFeatures : MethodName := ⟨RX5, "changeFeatures", "(II)I"⟩
abbrev cX5_sitDown : ByteArray := prog_7_method_7_code
def yX5_sitDown : MethodName := ⟨RX5, "sitDown", "(II)I"⟩
abbrev cX5_standUp : ByteArray := prog_7_method_8_code
def yX5_standUp : MethodName := ⟨RX5, "standUp", "(I)I"⟩
abbrev cX5_beginAlbum : ByteArray := prog_7_method_9_code
def yX5_beginAlbum : MethodName := ⟨RX5, "beginAlbum", "(II)I"⟩
abbrev cX5_tellPage : ByteArray := prog_7_method_10_code
def yX5_tellPage : MethodName := ⟨RX5, "tellPage", "(II)I"⟩
abbrev cX5_makeRound : ByteArray := prog_7_method_11_code
def yX5_makeRound : MethodName := ⟨RX5, "makeRound", "()I"⟩
abbrev cX5_clearEnded : ByteArray := prog_7_method_12_code
def yX5_clearEnded : MethodName := ⟨RX5, "clearEnded", "()I"⟩
abbrev cX5_passOn : ByteArray := prog_7_method_13_code
def yX5_passOn : MethodName := ⟨RX5, "passOn", "(LDoodleAlbums$Album;[I)V"⟩
abbrev cX5_nextSeat : ByteArray := prog_7_method_14_code
def yX5_nextSeat : MethodName := ⟨RX5, "nextSeat", "(LDoodleAlbums$Album;)I"⟩
abbrev cX5_end : ByteArray := prog_7_method_15_code
def yX5_end : MethodName := ⟨RX5, "end", "(LDoodleAlbums$Album;[I)V"⟩
abbrev cX5_pageBy : ByteArray := prog_7_method_16_code
def yX5_pageBy : MethodName := ⟨RX5, "pageBy", "(ILDoodleAlbums$Album;)I"⟩
abbrev cX5_mostLike : ByteArray := prog_7_method_17_code
def yX5_mostLike : MethodName := ⟨RX5, "mostLike", "(I)I"⟩
abbrev cX5_difference : ByteArray := prog_7_method_18_code
def yX5_difference : MethodName := ⟨RX5, "difference", "(II)I"⟩
abbrev cX5_albumGoingRoundOf : ByteArray := prog_7_method_19_code
def yX5_albumGoingRoundOf : MethodName := ⟨RX5, "albumGoingRoundOf", "(I)I"⟩
abbrev cX5_albumsThatAre : ByteArray := prog_7_method_20_code
def yX5_albumsThatAre : MethodName := ⟨RX5, "albumsThatAre", "(I)I"⟩
abbrev cX5_pagesBy : ByteArray := prog_7_method_21_code
def yX5_pagesBy : MethodName := ⟨RX5, "pagesBy", "(I)I"⟩
abbrev cX5_allPoints : ByteArray := prog_7_method_22_code
def yX5_allPoints : MethodName := ⟨RX5, "allPoints", "()I"⟩
def RX6 : String := "DoodleAlbums"
def TX6 : u_T := fun k => match k with
  | 0 => ("DoodleAlbums", "table", "LDoodleAlbums$Table;", true)
  | 1 => ("DoodleAlbums", "forecast", "LDoodleAlbums$Forecast;", true)
  | 2 => ("DoodleAlbums", "history", "LDoodleAlbums$History;", true)
  | 3 => ("DoodleAlbums", "slots", "[LDoodleAlbums$Slot;", true)
  | _ => ("DoodleAlbums", "pad", "LDoodleAlbums$Pad;", true)
def tyX6 : Nat → FieldType := fun k => match k with
  | 0 => .object "DoodleAlbums$Table"
  | 1 => .object "DoodleAlbums$Forecast"
  | 2 => .object "DoodleAlbums$History"
  | 3 => .array (.object "DoodleAlbums$Slot")
  | _ => .object "DoodleAlbums$Pad"
abbrev wsX60 : List Cond := u_ws RX6 TX6 5
theorem nmX6 : ∀ a, a < 5 → ∀ b, b < 5 → a ≠ b → (TX6 a).2.1 ≠ (TX6 b).2.1 := by decide +kernel
theorem tyX6_ok : ∀ k, k < 5 → parseFieldDescriptor (TX6 k).2.2.1 = some (tyX6 k) := by decide +kernel
abbrev cX6_init : ByteArray := prog_1_method_1_code
def yX6_init : MethodName := ⟨RX6, "<init>", "()V"⟩
abbrev cX6_teach : ByteArray := prog_1_method_2_code
def yX6_teach : MethodName := ⟨RX6, "teach", "(II)I"⟩
abbrev cX6_sit : ByteArray := prog_1_method_3_code
def yX6_sit : MethodName := ⟨RX6, "sit", "(II)I"⟩
abbrev cX6_leave : ByteArray := prog_1_method_4_code
def yX6_leave : MethodName := ⟨RX6, "leave", "(I)I"⟩
abbrev cX6_begin : ByteArray := prog_1_method_5_code
def yX6_begin : MethodName := ⟨RX6, "begin", "(II)I"⟩
abbrev cX6_tell : ByteArray := prog_1_method_6_code
def yX6_tell : MethodName := ⟨RX6, "tell", "(II)I"⟩
abbrev cX6_round : ByteArray := prog_1_method_7_code
def yX6_round : MethodName := ⟨RX6, "round", "()I"⟩
abbrev cX6_clear : ByteArray := prog_1_method_8_code
def yX6_clear : MethodName := ⟨RX6, "clear", "()I"⟩
abbrev cX6_of : ByteArray := prog_1_method_9_code
def yX6_of : MethodName := ⟨RX6, "of", "(II)I"⟩
abbrev cX6_page : ByteArray := prog_1_method_10_code
def yX6_page : MethodName := ⟨RX6, "page", "(III)I"⟩
abbrev cX6_seat : ByteArray := prog_1_method_11_code
def yX6_seat : MethodName := ⟨RX6, "seat", "(II)I"⟩
abbrev cX6_word : ByteArray := prog_1_method_12_code
def yX6_word : MethodName := ⟨RX6, "word", "(I)I"⟩
abbrev cX6_count : ByteArray := prog_1_method_13_code
def yX6_count : MethodName := ⟨RX6, "count", "(I)I"⟩
abbrev cX6_guess : ByteArray := prog_1_method_14_code
def yX6_guess : MethodName := ⟨RX6, "guess", "(I)I"⟩
abbrev cX6_foretold : ByteArray := prog_1_method_15_code
def yX6_foretold : MethodName := ⟨RX6, "foretold", "(II)I"⟩
abbrev cX6_bestWord : ByteArray := prog_1_method_16_code
def yX6_bestWord : MethodName := ⟨RX6, "bestWord", "(II)I"⟩
abbrev cX6_pointsThen : ByteArray := prog_1_method_17_code
def yX6_pointsThen : MethodName := ⟨RX6, "pointsThen", "(I)I"⟩
abbrev cX6_isBelow : ByteArray := prog_1_method_27_code
def yX6_isBelow : MethodName := ⟨RX6, "isBelow", "(II)Z"⟩
abbrev cX6_valueAt : ByteArray := prog_1_method_28_code
def yX6_valueAt : MethodName := ⟨RX6, "valueAt", "([II)I"⟩
abbrev cX6_setAt : ByteArray := prog_1_method_29_code
def yX6_setAt : MethodName := ⟨RX6, "setAt", "([III)V"⟩
abbrev cX6_addAt : ByteArray := prog_1_method_30_code
def yX6_addAt : MethodName := ⟨RX6, "addAt", "([III)V"⟩
abbrev cX6_copyRow : ByteArray := prog_1_method_31_code
def yX6_copyRow : MethodName := ⟨RX6, "copyRow", "([I[I)V"⟩
def RX7 : String := "DoodleAlbumsModel"
def TX7 : u_T := fun k => match k with
  | _ => ("", "", "", false)
def tyX7 : Nat → FieldType := fun k => match k with
  | _ => .int
abbrev wsX70 : List Cond := u_ws RX7 TX7 0
theorem nmX7 : ∀ a, a < 0 → ∀ b, b < 0 → a ≠ b → (TX7 a).2.1 ≠ (TX7 b).2.1 := by decide +kernel
theorem tyX7_ok : ∀ k, k < 0 → parseFieldDescriptor (TX7 k).2.2.1 = some (tyX7 k) := by decide +kernel
def RJ6 : String := "java/lang/Integer"
def TJ6 : u_T := fun k => match k with
  | _ => ("", "", "", false)
def tyJ6 : Nat → FieldType := fun k => match k with
  | _ => .int
abbrev wsJ60 : List Cond := u_ws RJ6 TJ6 0
theorem nmJ6 : ∀ a, a < 0 → ∀ b, b < 0 → a ≠ b → (TJ6 a).2.1 ≠ (TJ6 b).2.1 := by decide +kernel
theorem tyJ6_ok : ∀ k, k < 0 → parseFieldDescriptor (TJ6 k).2.2.1 = some (tyJ6 k) := by decide +kernel
abbrev cJ6_bitCount_0f7a4 : ByteArray := prog_10_method_49_code
def yJ6_bitCount_0f7a4 : MethodName := ⟨RJ6, "bitCount", "(I)I"⟩
def RJ9 : String := "java/lang/Math"
def TJ9 : u_T := fun k => match k with
  | _ => ("", "", "", false)
def tyJ9 : Nat → FieldType := fun k => match k with
  | _ => .int
abbrev wsJ90 : List Cond := u_ws RJ9 TJ9 0
theorem nmJ9 : ∀ a, a < 0 → ∀ b, b < 0 → a ≠ b → (TJ9 a).2.1 ≠ (TJ9 b).2.1 := by decide +kernel
theorem tyJ9_ok : ∀ k, k < 0 → parseFieldDescriptor (TJ9 k).2.2.1 = some (tyJ9 k) := by decide +kernel
abbrev cJ9_min_7cf53 : ByteArray := prog_11_method_69_code
def yJ9_min_7cf53 : MethodName := ⟨RJ9, "min", "(II)I"⟩
def RJ10 : String := "java/lang/System"
def TJ10 : u_T := fun k => match k with
  | _ => ("", "", "", false)
def tyJ10 : Nat → FieldType := fun k => match k with
  | _ => .int
abbrev wsJ100 : List Cond := u_ws RJ10 TJ10 0
theorem nmJ10 : ∀ a, a < 0 → ∀ b, b < 0 → a ≠ b → (TJ10 a).2.1 ≠ (TJ10 b).2.1 := by decide +kernel
theorem tyJ10_ok : ∀ k, k < 0 → parseFieldDescriptor (TJ10 k).2.2.1 = some (tyJ10 k) := by decide +kernel
def RL : String := "DoodleAlbumsLaw"
abbrev cL_cell : ByteArray := method_2_code
def yL_cell : MethodName := ⟨RL, "cell", "([II)I"⟩
abbrev cL_low : ByteArray := method_3_code
def yL_low : MethodName := ⟨RL, "low", "(II)I"⟩
abbrev cL_bits : ByteArray := method_4_code
def yL_bits : MethodName := ⟨RL, "bits", "(I)I"⟩
abbrev cL_seat : ByteArray := method_5_code
def yL_seat : MethodName := ⟨RL, "seat", "(I)I"⟩
abbrev cL_what : ByteArray := method_6_code
def yL_what : MethodName := ⟨RL, "what", "(I)I"⟩
abbrev cL_guess : ByteArray := method_7_code
def yL_guess : MethodName := ⟨RL, "guess", "(I[I)I"⟩
abbrev cL_has : ByteArray := method_8_code
def yL_has : MethodName := ⟨RL, "has", "(II[I[I)Z"⟩
abbrev cL_round : ByteArray := method_9_code
def yL_round : MethodName := ⟨RL, "round", "(I[I[I[I[I[I[I)V"⟩
abbrev cL_same : ByteArray := method_10_code
def yL_same : MethodName := ⟨RL, "same", "(LDoodleAlbums;[I[I[I[I[I[I)Z"⟩
abbrev cL_would : ByteArray := method_11_code
def yL_would : MethodName := ⟨RL, "would", "(LDoodleAlbums;I[I[I[I[I[I[I[I[I[I)Z"⟩
abbrev cL_law : ByteArray := code
def yL_law : MethodName := ⟨RL, "law", "([I)Z"⟩
abbrev vwCl : List vw_C := [(RX0, TX0, 7), (RX1, TX1, 3), (RX2, TX2, 3), (RX3, TX3, 6), (RX4, TX4, 2), (RX5, TX5, 7), (RX6, TX6, 5)]
theorem aInX0 : ∀ w ∈ wsX00, w ∈ lw_tbl := by decide +kernel
theorem aInX1 : ∀ w ∈ wsX10, w ∈ lw_tbl := by decide +kernel
theorem aInX2 : ∀ w ∈ wsX20, w ∈ lw_tbl := by decide +kernel
theorem aInX3 : ∀ w ∈ wsX30, w ∈ lw_tbl := by decide +kernel
theorem aInX4 : ∀ w ∈ wsX40, w ∈ lw_tbl := by decide +kernel
theorem aInX5 : ∀ w ∈ wsX50, w ∈ lw_tbl := by decide +kernel
theorem aInX6 : ∀ w ∈ wsX60, w ∈ lw_tbl := by decide +kernel
