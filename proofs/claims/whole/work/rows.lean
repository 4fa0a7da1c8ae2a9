section
-- ===== PART A: goes FIRST, ahead of the names: the tables' words, and 'selects' of the private methods out of them =====
/-- a private method of a class that the tables say can be made, by its rows of tables_1 -/
def lw_okq (q : MethodName × Nat) : Prop := (q.1.cls ≠ "java/lang/invoke/MethodHandle" ∧ q.1.cls ≠ "java/lang/invoke/VarHandle") ∧ Cond.instantiable q.1.cls q.2 ∈ tables_1 ∧ Cond.privateMethod q.1 ∈ tables_1 ∧ Cond.instanceMethod q.1 ∈ tables_1
theorem lw_p0 : lw_okq (⟨"DoodleAlbums$History", "stateAt", "(I)LDoodleAlbums$Table;"⟩, 3) := ⟨⟨by decide +kernel, by decide +kernel⟩, List.mem_of_getElem? (i := 116) (by decide +kernel), List.mem_of_getElem? (i := 206) (by decide +kernel), List.mem_of_getElem? (i := 207) (by decide +kernel)⟩
theorem lw_p1 : lw_okq (⟨"DoodleAlbums$Table", "placeAt", "(I)LDoodleAlbums$Album;"⟩, 7) := ⟨⟨by decide +kernel, by decide +kernel⟩, List.mem_of_getElem? (i := 21) (by decide +kernel), List.mem_of_getElem? (i := 223) (by decide +kernel), List.mem_of_getElem? (i := 224) (by decide +kernel)⟩
theorem lw_p2 : lw_okq (⟨"DoodleAlbums$Table", "nextSeat", "(LDoodleAlbums$Album;)I"⟩, 7) := ⟨⟨by decide +kernel, by decide +kernel⟩, List.mem_of_getElem? (i := 21) (by decide +kernel), List.mem_of_getElem? (i := 328) (by decide +kernel), List.mem_of_getElem? (i := 329) (by decide +kernel)⟩
theorem lw_p3 : lw_okq (⟨"DoodleAlbums$Table", "end", "(LDoodleAlbums$Album;[I)V"⟩, 7) := ⟨⟨by decide +kernel, by decide +kernel⟩, List.mem_of_getElem? (i := 21) (by decide +kernel), List.mem_of_getElem? (i := 341) (by decide +kernel), List.mem_of_getElem? (i := 342) (by decide +kernel)⟩
theorem lw_p4 : lw_okq (⟨"DoodleAlbums$Table", "pageBy", "(ILDoodleAlbums$Album;)I"⟩, 7) := ⟨⟨by decide +kernel, by decide +kernel⟩, List.mem_of_getElem? (i := 21) (by decide +kernel), List.mem_of_getElem? (i := 361) (by decide +kernel), List.mem_of_getElem? (i := 362) (by decide +kernel)⟩
theorem lw_p5 : lw_okq (⟨"DoodleAlbums$Forecast", "playToEnd", "(LDoodleAlbums$Table;)V"⟩, 3) := ⟨⟨by decide +kernel, by decide +kernel⟩, List.mem_of_getElem? (i := 95) (by decide +kernel), List.mem_of_getElem? (i := 461) (by decide +kernel), List.mem_of_getElem? (i := 462) (by decide +kernel)⟩
theorem lw_p6 : lw_okq (⟨"DoodleAlbums$Pad", "take", "(I)Z"⟩, 6) := ⟨⟨by decide +kernel, by decide +kernel⟩, List.mem_of_getElem? (i := 138) (by decide +kernel), List.mem_of_getElem? (i := 526) (by decide +kernel), List.mem_of_getElem? (i := 527) (by decide +kernel)⟩
theorem lw_p7 : lw_okq (⟨"DoodleAlbums$Pad", "signHere", "()I"⟩, 6) := ⟨⟨by decide +kernel, by decide +kernel⟩, List.mem_of_getElem? (i := 138) (by decide +kernel), List.mem_of_getElem? (i := 530) (by decide +kernel), List.mem_of_getElem? (i := 531) (by decide +kernel)⟩
theorem lw_p8 : lw_okq (⟨"DoodleAlbums$Pad", "readOrder", "()Z"⟩, 6) := ⟨⟨by decide +kernel, by decide +kernel⟩, List.mem_of_getElem? (i := 138) (by decide +kernel), List.mem_of_getElem? (i := 534) (by decide +kernel), List.mem_of_getElem? (i := 535) (by decide +kernel)⟩
theorem lw_p9 : lw_okq (⟨"DoodleAlbums$Pad", "readSeat", "()Z"⟩, 6) := ⟨⟨by decide +kernel, by decide +kernel⟩, List.mem_of_getElem? (i := 138) (by decide +kernel), List.mem_of_getElem? (i := 538) (by decide +kernel), List.mem_of_getElem? (i := 539) (by decide +kernel)⟩
theorem lw_p10 : lw_okq (⟨"DoodleAlbums$Pad", "digitHere", "()I"⟩, 6) := ⟨⟨by decide +kernel, by decide +kernel⟩, List.mem_of_getElem? (i := 138) (by decide +kernel), List.mem_of_getElem? (i := 542) (by decide +kernel), List.mem_of_getElem? (i := 543) (by decide +kernel)⟩
theorem lw_p11 : lw_okq (⟨"DoodleAlbums$Pad", "readNumber", "()Z"⟩, 6) := ⟨⟨by decide +kernel, by decide +kernel⟩, List.mem_of_getElem? (i := 138) (by decide +kernel), List.mem_of_getElem? (i := 547) (by decide +kernel), List.mem_of_getElem? (i := 548) (by decide +kernel)⟩
theorem lw_p12 : lw_okq (⟨"DoodleAlbums$Pad", "readRounds", "()V"⟩, 6) := ⟨⟨by decide +kernel, by decide +kernel⟩, List.mem_of_getElem? (i := 138) (by decide +kernel), List.mem_of_getElem? (i := 551) (by decide +kernel), List.mem_of_getElem? (i := 552) (by decide +kernel)⟩
theorem lw_p13 : lw_okq (⟨"DoodleAlbums", "carryOutOrder", "()I"⟩, 5) := ⟨⟨by decide +kernel, by decide +kernel⟩, List.mem_of_getElem? (i := 13) (by decide +kernel), List.mem_of_getElem? (i := 561) (by decide +kernel), List.mem_of_getElem? (i := 562) (by decide +kernel)⟩
theorem lw_p14 : lw_okq (⟨"DoodleAlbums", "slotAt", "(I)LDoodleAlbums$Slot;"⟩, 5) := ⟨⟨by decide +kernel, by decide +kernel⟩, List.mem_of_getElem? (i := 13) (by decide +kernel), List.mem_of_getElem? (i := 577) (by decide +kernel), List.mem_of_getElem? (i := 578) (by decide +kernel)⟩
theorem lw_p15 : lw_okq (⟨"DoodleAlbumsModel", "record", "()V"⟩, 12) := ⟨⟨by decide +kernel, by decide +kernel⟩, List.mem_of_getElem? (i := 586) (by decide +kernel), List.mem_of_getElem? (i := 639) (by decide +kernel), List.mem_of_getElem? (i := 640) (by decide +kernel)⟩
def lw_privs_1 : List (MethodName × Nat) := [(⟨"DoodleAlbums$History", "stateAt", "(I)LDoodleAlbums$Table;"⟩, 3), (⟨"DoodleAlbums$Table", "placeAt", "(I)LDoodleAlbums$Album;"⟩, 7), (⟨"DoodleAlbums$Table", "nextSeat", "(LDoodleAlbums$Album;)I"⟩, 7), (⟨"DoodleAlbums$Table", "end", "(LDoodleAlbums$Album;[I)V"⟩, 7), (⟨"DoodleAlbums$Table", "pageBy", "(ILDoodleAlbums$Album;)I"⟩, 7), (⟨"DoodleAlbums$Forecast", "playToEnd", "(LDoodleAlbums$Table;)V"⟩, 3), (⟨"DoodleAlbums$Pad", "take", "(I)Z"⟩, 6), (⟨"DoodleAlbums$Pad", "signHere", "()I"⟩, 6), (⟨"DoodleAlbums$Pad", "readOrder", "()Z"⟩, 6), (⟨"DoodleAlbums$Pad", "readSeat", "()Z"⟩, 6), (⟨"DoodleAlbums$Pad", "digitHere", "()I"⟩, 6), (⟨"DoodleAlbums$Pad", "readNumber", "()Z"⟩, 6), (⟨"DoodleAlbums$Pad", "readRounds", "()V"⟩, 6), (⟨"DoodleAlbums", "carryOutOrder", "()I"⟩, 5), (⟨"DoodleAlbums", "slotAt", "(I)LDoodleAlbums$Slot;"⟩, 5), (⟨"DoodleAlbumsModel", "record", "()V"⟩, 12)]
theorem lw_r1 : ∀ q ∈ lw_privs_1, lw_okq q := List.forall_mem_cons.mpr ⟨lw_p0, List.forall_mem_cons.mpr ⟨lw_p1, List.forall_mem_cons.mpr ⟨lw_p2, List.forall_mem_cons.mpr ⟨lw_p3, List.forall_mem_cons.mpr ⟨lw_p4, List.forall_mem_cons.mpr ⟨lw_p5, List.forall_mem_cons.mpr ⟨lw_p6, List.forall_mem_cons.mpr ⟨lw_p7, List.forall_mem_cons.mpr ⟨lw_p8, List.forall_mem_cons.mpr ⟨lw_p9, List.forall_mem_cons.mpr ⟨lw_p10, List.forall_mem_cons.mpr ⟨lw_p11, List.forall_mem_cons.mpr ⟨lw_p12, List.forall_mem_cons.mpr ⟨lw_p13, List.forall_mem_cons.mpr ⟨lw_p14, List.forall_mem_cons.mpr ⟨lw_p15, fun _ h => absurd h List.not_mem_nil⟩⟩⟩⟩⟩⟩⟩⟩⟩⟩⟩⟩⟩⟩⟩⟩
theorem lw_p16 : lw_okq (⟨"DoodleAlbumsModel", "whyNotSat", "(II)I"⟩, 12) := ⟨⟨by decide +kernel, by decide +kernel⟩, List.mem_of_getElem? (i := 586) (by decide +kernel), List.mem_of_getElem? (i := 650) (by decide +kernel), List.mem_of_getElem? (i := 651) (by decide +kernel)⟩
theorem lw_p17 : lw_okq (⟨"DoodleAlbumsModel", "sat", "(II)I"⟩, 12) := ⟨⟨by decide +kernel, by decide +kernel⟩, List.mem_of_getElem? (i := 586) (by decide +kernel), List.mem_of_getElem? (i := 657) (by decide +kernel), List.mem_of_getElem? (i := 658) (by decide +kernel)⟩
theorem lw_p18 : lw_okq (⟨"DoodleAlbumsModel", "whyNotLeft", "(I)I"⟩, 12) := ⟨⟨by decide +kernel, by decide +kernel⟩, List.mem_of_getElem? (i := 586) (by decide +kernel), List.mem_of_getElem? (i := 668) (by decide +kernel), List.mem_of_getElem? (i := 669) (by decide +kernel)⟩
theorem lw_p19 : lw_okq (⟨"DoodleAlbumsModel", "isTaken", "(I)Z"⟩, 12) := ⟨⟨by decide +kernel, by decide +kernel⟩, List.mem_of_getElem? (i := 586) (by decide +kernel), List.mem_of_getElem? (i := 672) (by decide +kernel), List.mem_of_getElem? (i := 673) (by decide +kernel)⟩
theorem lw_p20 : lw_okq (⟨"DoodleAlbumsModel", "left", "(I)I"⟩, 12) := ⟨⟨by decide +kernel, by decide +kernel⟩, List.mem_of_getElem? (i := 586) (by decide +kernel), List.mem_of_getElem? (i := 676) (by decide +kernel), List.mem_of_getElem? (i := 677) (by decide +kernel)⟩
theorem lw_p21 : lw_okq (⟨"DoodleAlbumsModel", "whyNotBegun", "(II)I"⟩, 12) := ⟨⟨by decide +kernel, by decide +kernel⟩, List.mem_of_getElem? (i := 586) (by decide +kernel), List.mem_of_getElem? (i := 684) (by decide +kernel), List.mem_of_getElem? (i := 685) (by decide +kernel)⟩
theorem lw_p22 : lw_okq (⟨"DoodleAlbumsModel", "albumOf", "(I)I"⟩, 12) := ⟨⟨by decide +kernel, by decide +kernel⟩, List.mem_of_getElem? (i := 586) (by decide +kernel), List.mem_of_getElem? (i := 688) (by decide +kernel), List.mem_of_getElem? (i := 689) (by decide +kernel)⟩
theorem lw_p23 : lw_okq (⟨"DoodleAlbumsModel", "part", "(II)I"⟩, 12) := ⟨⟨by decide +kernel, by decide +kernel⟩, List.mem_of_getElem? (i := 586) (by decide +kernel), List.mem_of_getElem? (i := 692) (by decide +kernel), List.mem_of_getElem? (i := 693) (by decide +kernel)⟩
theorem lw_p24 : lw_okq (⟨"DoodleAlbumsModel", "goesRound", "(I)Z"⟩, 12) := ⟨⟨by decide +kernel, by decide +kernel⟩, List.mem_of_getElem? (i := 586) (by decide +kernel), List.mem_of_getElem? (i := 696) (by decide +kernel), List.mem_of_getElem? (i := 697) (by decide +kernel)⟩
theorem lw_p25 : lw_okq (⟨"DoodleAlbumsModel", "begun", "(II)I"⟩, 12) := ⟨⟨by decide +kernel, by decide +kernel⟩, List.mem_of_getElem? (i := 586) (by decide +kernel), List.mem_of_getElem? (i := 700) (by decide +kernel), List.mem_of_getElem? (i := 701) (by decide +kernel)⟩
theorem lw_p26 : lw_okq (⟨"DoodleAlbumsModel", "clearAlbum", "(I)V"⟩, 12) := ⟨⟨by decide +kernel, by decide +kernel⟩, List.mem_of_getElem? (i := 586) (by decide +kernel), List.mem_of_getElem? (i := 704) (by decide +kernel), List.mem_of_getElem? (i := 705) (by decide +kernel)⟩
theorem lw_p27 : lw_okq (⟨"DoodleAlbumsModel", "setPart", "(III)V"⟩, 12) := ⟨⟨by decide +kernel, by decide +kernel⟩, List.mem_of_getElem? (i := 586) (by decide +kernel), List.mem_of_getElem? (i := 708) (by decide +kernel), List.mem_of_getElem? (i := 709) (by decide +kernel)⟩
theorem lw_p28 : lw_okq (⟨"DoodleAlbumsModel", "putPage", "(IIII)V"⟩, 12) := ⟨⟨by decide +kernel, by decide +kernel⟩, List.mem_of_getElem? (i := 586) (by decide +kernel), List.mem_of_getElem? (i := 712) (by decide +kernel), List.mem_of_getElem? (i := 713) (by decide +kernel)⟩
theorem lw_p29 : lw_okq (⟨"DoodleAlbumsModel", "whyNotTold", "(II)I"⟩, 12) := ⟨⟨by decide +kernel, by decide +kernel⟩, List.mem_of_getElem? (i := 586) (by decide +kernel), List.mem_of_getElem? (i := 720) (by decide +kernel), List.mem_of_getElem? (i := 721) (by decide +kernel)⟩
theorem lw_p30 : lw_okq (⟨"DoodleAlbumsModel", "isAlbum", "(I)Z"⟩, 12) := ⟨⟨by decide +kernel, by decide +kernel⟩, List.mem_of_getElem? (i := 586) (by decide +kernel), List.mem_of_getElem? (i := 724) (by decide +kernel), List.mem_of_getElem? (i := 725) (by decide +kernel)⟩
theorem lw_p31 : lw_okq (⟨"DoodleAlbumsModel", "tells", "(II)I"⟩, 12) := ⟨⟨by decide +kernel, by decide +kernel⟩, List.mem_of_getElem? (i := 586) (by decide +kernel), List.mem_of_getElem? (i := 728) (by decide +kernel), List.mem_of_getElem? (i := 729) (by decide +kernel)⟩
def lw_privs_2 : List (MethodName × Nat) := [(⟨"DoodleAlbumsModel", "whyNotSat", "(II)I"⟩, 12), (⟨"DoodleAlbumsModel", "sat", "(II)I"⟩, 12), (⟨"DoodleAlbumsModel", "whyNotLeft", "(I)I"⟩, 12), (⟨"DoodleAlbumsModel", "isTaken", "(I)Z"⟩, 12), (⟨"DoodleAlbumsModel", "left", "(I)I"⟩, 12), (⟨"DoodleAlbumsModel", "whyNotBegun", "(II)I"⟩, 12), (⟨"DoodleAlbumsModel", "albumOf", "(I)I"⟩, 12), (⟨"DoodleAlbumsModel", "part", "(II)I"⟩, 12), (⟨"DoodleAlbumsModel", "goesRound", "(I)Z"⟩, 12), (⟨"DoodleAlbumsModel", "begun", "(II)I"⟩, 12), (⟨"DoodleAlbumsModel", "clearAlbum", "(I)V"⟩, 12), (⟨"DoodleAlbumsModel", "setPart", "(III)V"⟩, 12), (⟨"DoodleAlbumsModel", "putPage", "(IIII)V"⟩, 12), (⟨"DoodleAlbumsModel", "whyNotTold", "(II)I"⟩, 12), (⟨"DoodleAlbumsModel", "isAlbum", "(I)Z"⟩, 12), (⟨"DoodleAlbumsModel", "tells", "(II)I"⟩, 12)]
theorem lw_r2 : ∀ q ∈ lw_privs_2, lw_okq q := List.forall_mem_cons.mpr ⟨lw_p16, List.forall_mem_cons.mpr ⟨lw_p17, List.forall_mem_cons.mpr ⟨lw_p18, List.forall_mem_cons.mpr ⟨lw_p19, List.forall_mem_cons.mpr ⟨lw_p20, List.forall_mem_cons.mpr ⟨lw_p21, List.forall_mem_cons.mpr ⟨lw_p22, List.forall_mem_cons.mpr ⟨lw_p23, List.forall_mem_cons.mpr ⟨lw_p24, List.forall_mem_cons.mpr ⟨lw_p25, List.forall_mem_cons.mpr ⟨lw_p26, List.forall_mem_cons.mpr ⟨lw_p27, List.forall_mem_cons.mpr ⟨lw_p28, List.forall_mem_cons.mpr ⟨lw_p29, List.forall_mem_cons.mpr ⟨lw_p30, List.forall_mem_cons.mpr ⟨lw_p31, fun _ h => absurd h List.not_mem_nil⟩⟩⟩⟩⟩⟩⟩⟩⟩⟩⟩⟩⟩⟩⟩⟩
theorem lw_p32 : lw_okq (⟨"DoodleAlbumsModel", "makesRound", "()V"⟩, 12) := ⟨⟨by decide +kernel, by decide +kernel⟩, List.mem_of_getElem? (i := 586) (by decide +kernel), List.mem_of_getElem? (i := 736) (by decide +kernel), List.mem_of_getElem? (i := 737) (by decide +kernel)⟩
theorem lw_p33 : lw_okq (⟨"DoodleAlbumsModel", "nextSeat", "(I)I"⟩, 12) := ⟨⟨by decide +kernel, by decide +kernel⟩, List.mem_of_getElem? (i := 586) (by decide +kernel), List.mem_of_getElem? (i := 740) (by decide +kernel), List.mem_of_getElem? (i := 741) (by decide +kernel)⟩
theorem lw_p34 : lw_okq (⟨"DoodleAlbumsModel", "lastPage", "(I)I"⟩, 12) := ⟨⟨by decide +kernel, by decide +kernel⟩, List.mem_of_getElem? (i := 586) (by decide +kernel), List.mem_of_getElem? (i := 744) (by decide +kernel), List.mem_of_getElem? (i := 745) (by decide +kernel)⟩
theorem lw_p35 : lw_okq (⟨"DoodleAlbumsModel", "pagePart", "(III)I"⟩, 12) := ⟨⟨by decide +kernel, by decide +kernel⟩, List.mem_of_getElem? (i := 586) (by decide +kernel), List.mem_of_getElem? (i := 748) (by decide +kernel), List.mem_of_getElem? (i := 749) (by decide +kernel)⟩
theorem lw_p36 : lw_okq (⟨"DoodleAlbumsModel", "seatsOf", "(I)I"⟩, 12) := ⟨⟨by decide +kernel, by decide +kernel⟩, List.mem_of_getElem? (i := 586) (by decide +kernel), List.mem_of_getElem? (i := 752) (by decide +kernel), List.mem_of_getElem? (i := 753) (by decide +kernel)⟩
theorem lw_p37 : lw_okq (⟨"DoodleAlbumsModel", "comesHome", "(I)V"⟩, 12) := ⟨⟨by decide +kernel, by decide +kernel⟩, List.mem_of_getElem? (i := 586) (by decide +kernel), List.mem_of_getElem? (i := 756) (by decide +kernel), List.mem_of_getElem? (i := 757) (by decide +kernel)⟩
theorem lw_p38 : lw_okq (⟨"DoodleAlbumsModel", "lastWord", "(I)I"⟩, 12) := ⟨⟨by decide +kernel, by decide +kernel⟩, List.mem_of_getElem? (i := 586) (by decide +kernel), List.mem_of_getElem? (i := 760) (by decide +kernel), List.mem_of_getElem? (i := 761) (by decide +kernel)⟩
theorem lw_p39 : lw_okq (⟨"DoodleAlbumsModel", "lastWordPage", "(I)I"⟩, 12) := ⟨⟨by decide +kernel, by decide +kernel⟩, List.mem_of_getElem? (i := 586) (by decide +kernel), List.mem_of_getElem? (i := 764) (by decide +kernel), List.mem_of_getElem? (i := 765) (by decide +kernel)⟩
theorem lw_p40 : lw_okq (⟨"DoodleAlbumsModel", "firstWord", "(I)I"⟩, 12) := ⟨⟨by decide +kernel, by decide +kernel⟩, List.mem_of_getElem? (i := 586) (by decide +kernel), List.mem_of_getElem? (i := 768) (by decide +kernel), List.mem_of_getElem? (i := 769) (by decide +kernel)⟩
theorem lw_p41 : lw_okq (⟨"DoodleAlbumsModel", "scores", "(II)V"⟩, 12) := ⟨⟨by decide +kernel, by decide +kernel⟩, List.mem_of_getElem? (i := 586) (by decide +kernel), List.mem_of_getElem? (i := 772) (by decide +kernel), List.mem_of_getElem? (i := 773) (by decide +kernel)⟩
theorem lw_p42 : lw_okq (⟨"DoodleAlbumsModel", "goesTo", "(II)V"⟩, 12) := ⟨⟨by decide +kernel, by decide +kernel⟩, List.mem_of_getElem? (i := 586) (by decide +kernel), List.mem_of_getElem? (i := 776) (by decide +kernel), List.mem_of_getElem? (i := 777) (by decide +kernel)⟩
theorem lw_p43 : lw_okq (⟨"DoodleAlbumsModel", "guessed", "(I)I"⟩, 12) := ⟨⟨by decide +kernel, by decide +kernel⟩, List.mem_of_getElem? (i := 586) (by decide +kernel), List.mem_of_getElem? (i := 780) (by decide +kernel), List.mem_of_getElem? (i := 781) (by decide +kernel)⟩
theorem lw_p44 : lw_okq (⟨"DoodleAlbumsModel", "withHow", "(I)I"⟩, 12) := ⟨⟨by decide +kernel, by decide +kernel⟩, List.mem_of_getElem? (i := 586) (by decide +kernel), List.mem_of_getElem? (i := 784) (by decide +kernel), List.mem_of_getElem? (i := 785) (by decide +kernel)⟩
theorem lw_p45 : lw_okq (⟨"DoodleAlbumsModel", "cleared", "()I"⟩, 12) := ⟨⟨by decide +kernel, by decide +kernel⟩, List.mem_of_getElem? (i := 586) (by decide +kernel), List.mem_of_getElem? (i := 792) (by decide +kernel), List.mem_of_getElem? (i := 793) (by decide +kernel)⟩
theorem lw_p46 : lw_okq (⟨"DoodleAlbumsModel", "changed", "(I)I"⟩, 12) := ⟨⟨by decide +kernel, by decide +kernel⟩, List.mem_of_getElem? (i := 586) (by decide +kernel), List.mem_of_getElem? (i := 800) (by decide +kernel), List.mem_of_getElem? (i := 801) (by decide +kernel)⟩
theorem lw_p47 : lw_okq (⟨"DoodleAlbumsModel", "apart", "(II)I"⟩, 12) := ⟨⟨by decide +kernel, by decide +kernel⟩, List.mem_of_getElem? (i := 586) (by decide +kernel), List.mem_of_getElem? (i := 804) (by decide +kernel), List.mem_of_getElem? (i := 805) (by decide +kernel)⟩
def lw_privs_3 : List (MethodName × Nat) := [(⟨"DoodleAlbumsModel", "makesRound", "()V"⟩, 12), (⟨"DoodleAlbumsModel", "nextSeat", "(I)I"⟩, 12), (⟨"DoodleAlbumsModel", "lastPage", "(I)I"⟩, 12), (⟨"DoodleAlbumsModel", "pagePart", "(III)I"⟩, 12), (⟨"DoodleAlbumsModel", "seatsOf", "(I)I"⟩, 12), (⟨"DoodleAlbumsModel", "comesHome", "(I)V"⟩, 12), (⟨"DoodleAlbumsModel", "lastWord", "(I)I"⟩, 12), (⟨"DoodleAlbumsModel", "lastWordPage", "(I)I"⟩, 12), (⟨"DoodleAlbumsModel", "firstWord", "(I)I"⟩, 12), (⟨"DoodleAlbumsModel", "scores", "(II)V"⟩, 12), (⟨"DoodleAlbumsModel", "goesTo", "(II)V"⟩, 12), (⟨"DoodleAlbumsModel", "guessed", "(I)I"⟩, 12), (⟨"DoodleAlbumsModel", "withHow", "(I)I"⟩, 12), (⟨"DoodleAlbumsModel", "cleared", "()I"⟩, 12), (⟨"DoodleAlbumsModel", "changed", "(I)I"⟩, 12), (⟨"DoodleAlbumsModel", "apart", "(II)I"⟩, 12)]
theorem lw_r3 : ∀ q ∈ lw_privs_3, lw_okq q := List.forall_mem_cons.mpr ⟨lw_p32, List.forall_mem_cons.mpr ⟨lw_p33, List.forall_mem_cons.mpr ⟨lw_p34, List.forall_mem_cons.mpr ⟨lw_p35, List.forall_mem_cons.mpr ⟨lw_p36, List.forall_mem_cons.mpr ⟨lw_p37, List.forall_mem_cons.mpr ⟨lw_p38, List.forall_mem_cons.mpr ⟨lw_p39, List.forall_mem_cons.mpr ⟨lw_p40, List.forall_mem_cons.mpr ⟨lw_p41, List.forall_mem_cons.mpr ⟨lw_p42, List.forall_mem_cons.mpr ⟨lw_p43, List.forall_mem_cons.mpr ⟨lw_p44, List.forall_mem_cons.mpr ⟨lw_p45, List.forall_mem_cons.mpr ⟨lw_p46, List.forall_mem_cons.mpr ⟨lw_p47, fun _ h => absurd h List.not_mem_nil⟩⟩⟩⟩⟩⟩⟩⟩⟩⟩⟩⟩⟩⟩⟩⟩
theorem lw_p48 : lw_okq (⟨"DoodleAlbumsModel", "pagesBy", "(I)I"⟩, 12) := ⟨⟨by decide +kernel, by decide +kernel⟩, List.mem_of_getElem? (i := 586) (by decide +kernel), List.mem_of_getElem? (i := 816) (by decide +kernel), List.mem_of_getElem? (i := 817) (by decide +kernel)⟩
theorem lw_p49 : lw_okq (⟨"DoodleAlbumsModel", "allPoints", "()I"⟩, 12) := ⟨⟨by decide +kernel, by decide +kernel⟩, List.mem_of_getElem? (i := 586) (by decide +kernel), List.mem_of_getElem? (i := 828) (by decide +kernel), List.mem_of_getElem? (i := 829) (by decide +kernel)⟩
theorem lw_p50 : lw_okq (⟨"DoodleAlbumsModel", "differsWith", "(II)I"⟩, 12) := ⟨⟨by decide +kernel, by decide +kernel⟩, List.mem_of_getElem? (i := 586) (by decide +kernel), List.mem_of_getElem? (i := 844) (by decide +kernel), List.mem_of_getElem? (i := 845) (by decide +kernel)⟩
theorem lw_p51 : lw_okq (⟨"DoodleAlbumsModel", "findFault", "()I"⟩, 12) := ⟨⟨by decide +kernel, by decide +kernel⟩, List.mem_of_getElem? (i := 586) (by decide +kernel), List.mem_of_getElem? (i := 865) (by decide +kernel), List.mem_of_getElem? (i := 866) (by decide +kernel)⟩
theorem lw_p52 : lw_okq (⟨"DoodleAlbumsModel", "readsOrder", "()Z"⟩, 12) := ⟨⟨by decide +kernel, by decide +kernel⟩, List.mem_of_getElem? (i := 586) (by decide +kernel), List.mem_of_getElem? (i := 869) (by decide +kernel), List.mem_of_getElem? (i := 870) (by decide +kernel)⟩
theorem lw_p53 : lw_okq (⟨"DoodleAlbumsModel", "character", "(I)I"⟩, 12) := ⟨⟨by decide +kernel, by decide +kernel⟩, List.mem_of_getElem? (i := 586) (by decide +kernel), List.mem_of_getElem? (i := 873) (by decide +kernel), List.mem_of_getElem? (i := 874) (by decide +kernel)⟩
theorem lw_p54 : lw_okq (⟨"DoodleAlbumsModel", "takeDigit", "(II)I"⟩, 12) := ⟨⟨by decide +kernel, by decide +kernel⟩, List.mem_of_getElem? (i := 586) (by decide +kernel), List.mem_of_getElem? (i := 877) (by decide +kernel), List.mem_of_getElem? (i := 878) (by decide +kernel)⟩
theorem lw_p55 : lw_okq (⟨"DoodleAlbumsModel", "isNext", "(I)Z"⟩, 12) := ⟨⟨by decide +kernel, by decide +kernel⟩, List.mem_of_getElem? (i := 586) (by decide +kernel), List.mem_of_getElem? (i := 881) (by decide +kernel), List.mem_of_getElem? (i := 882) (by decide +kernel)⟩
theorem lw_p56 : lw_okq (⟨"DoodleAlbumsModel", "takeNumber", "()I"⟩, 12) := ⟨⟨by decide +kernel, by decide +kernel⟩, List.mem_of_getElem? (i := 586) (by decide +kernel), List.mem_of_getElem? (i := 885) (by decide +kernel), List.mem_of_getElem? (i := 886) (by decide +kernel)⟩
theorem lw_p57 : lw_okq (⟨"DoodleAlbumsModel", "whyNotDone", "()I"⟩, 12) := ⟨⟨by decide +kernel, by decide +kernel⟩, List.mem_of_getElem? (i := 586) (by decide +kernel), List.mem_of_getElem? (i := 893) (by decide +kernel), List.mem_of_getElem? (i := 894) (by decide +kernel)⟩
theorem lw_p58 : lw_okq (⟨"DoodleAlbumsModel", "does", "()V"⟩, 12) := ⟨⟨by decide +kernel, by decide +kernel⟩, List.mem_of_getElem? (i := 586) (by decide +kernel), List.mem_of_getElem? (i := 897) (by decide +kernel), List.mem_of_getElem? (i := 898) (by decide +kernel)⟩
def lw_privs_4 : List (MethodName × Nat) := [(⟨"DoodleAlbumsModel", "pagesBy", "(I)I"⟩, 12), (⟨"DoodleAlbumsModel", "allPoints", "()I"⟩, 12), (⟨"DoodleAlbumsModel", "differsWith", "(II)I"⟩, 12), (⟨"DoodleAlbumsModel", "findFault", "()I"⟩, 12), (⟨"DoodleAlbumsModel", "readsOrder", "()Z"⟩, 12), (⟨"DoodleAlbumsModel", "character", "(I)I"⟩, 12), (⟨"DoodleAlbumsModel", "takeDigit", "(II)I"⟩, 12), (⟨"DoodleAlbumsModel", "isNext", "(I)Z"⟩, 12), (⟨"DoodleAlbumsModel", "takeNumber", "()I"⟩, 12), (⟨"DoodleAlbumsModel", "whyNotDone", "()I"⟩, 12), (⟨"DoodleAlbumsModel", "does", "()V"⟩, 12)]
theorem lw_r4 : ∀ q ∈ lw_privs_4, lw_okq q := List.forall_mem_cons.mpr ⟨lw_p48, List.forall_mem_cons.mpr ⟨lw_p49, List.forall_mem_cons.mpr ⟨lw_p50, List.forall_mem_cons.mpr ⟨lw_p51, List.forall_mem_cons.mpr ⟨lw_p52, List.forall_mem_cons.mpr ⟨lw_p53, List.forall_mem_cons.mpr ⟨lw_p54, List.forall_mem_cons.mpr ⟨lw_p55, List.forall_mem_cons.mpr ⟨lw_p56, List.forall_mem_cons.mpr ⟨lw_p57, List.forall_mem_cons.mpr ⟨lw_p58, fun _ h => absurd h List.not_mem_nil⟩⟩⟩⟩⟩⟩⟩⟩⟩⟩⟩
def lw_privs : List (MethodName × Nat) := lw_privs_1 ++ (lw_privs_2 ++ (lw_privs_3 ++ (lw_privs_4)))
def lw_tbl : List Cond := k2_sels lw_privs ++ tables_1
theorem lw_privs_ok : ∀ q ∈ lw_privs, lw_okq q := by
  show ∀ q ∈ lw_privs_1 ++ (lw_privs_2 ++ (lw_privs_3 ++ (lw_privs_4))), lw_okq q
  exact List.forall_mem_append.mpr ⟨lw_r1, List.forall_mem_append.mpr ⟨lw_r2, List.forall_mem_append.mpr ⟨lw_r3, lw_r4⟩⟩⟩
def RX0 : String := "DoodleAlbums$Album"
def TX0 : u_T := fun k => match k with
  | 0 => ("DoodleAlbums$Album", "seats", "[I", true)
  | 1 => ("DoodleAlbums$Album", "marks", "[I", true)
  | 2 => ("DoodleAlbums$Album", "owner", "I", false)
  | 3 => ("DoodleAlbums$Album", "pages", "I", false)
  | 4 => ("DoodleAlbums$Album", "state", "I", false)
  | 5 => ("DoodleAlbums$Album", "toldNext", "I", false)
  | _ => ("DoodleAlbums$Album", "toldPages", "I", false)
def tyX0 : Nat → FieldType := fun k => match k with
  | 0 => .array .int
  | 1 => .array .int
  | 2 => .int
  | 3 => .int
  | 4 => .int
  | 5 => .int
  | _ => .int
abbrev wsX00 : List Cond := u_ws RX0 TX0 7
theorem nmX0 : ∀ a, a < 7 → ∀ b, b < 7 → a ≠ b → (TX0 a).2.1 ≠ (TX0 b).2.1 := by decide +kernel
theorem tyX0_ok : ∀ k, k < 7 → parseFieldDescriptor (TX0 k).2.2.1 = some (tyX0 k) := by decide +kernel
abbrev cX0_init : ByteArray := prog_2_method_1_code
def yX0_init : MethodName := ⟨RX0, "<init>", "()V"⟩
abbrev cX0_start : ByteArray := prog_2_method_2_code
def yX0_start : MethodName := ⟨RX0, "start", "(II)V"⟩
abbrev cX0_addPage : ByteArray := prog_2_method_3_code
def yX0_addPage : MethodName := ⟨RX0, "addPage", "(II)V"⟩
abbrev cX0_addToldPage : ByteArray := prog_2_method_4_code
def yX0_addToldPage : MethodName := ⟨RX0, "addToldPage", "(I)V"⟩
abbrev cX0_copyFrom : ByteArray := prog_2_method_5_code
def yX0_copyFrom : MethodName := ⟨RX0, "copyFrom", "(LDoodleAlbums$Album;)V"⟩
abbrev cX0_goesRound : ByteArray := prog_2_method_6_code
def yX0_goesRound : MethodName := ⟨RX0, "goesRound", "()Z"⟩
abbrev cX0_seatOf : ByteArray := prog_2_method_7_code
def yX0_seatOf : MethodName := ⟨RX0, "seatOf", "(I)I"⟩
abbrev cX0_markOf : ByteArray := prog_2_method_8_code
def yX0_markOf : MethodName := ⟨RX0, "markOf", "(I)I"⟩
abbrev cX0_wasTold : ByteArray := prog_2_method_9_code
def yX0_wasTold : MethodName := ⟨RX0, "wasTold", "(I)Z"⟩
abbrev cX0_liesAt : ByteArray := prog_2_method_10_code
def yX0_liesAt : MethodName := ⟨RX0, "liesAt", "()I"⟩
abbrev cX0_endsWithWord : ByteArray := prog_2_method_11_code
def yX0_endsWithWord : MethodName := ⟨RX0, "endsWithWord", "()Z"⟩
abbrev cX0_firstWord : ByteArray := prog_2_method_12_code
def yX0_firstWord : MethodName := ⟨RX0, "firstWord", "()I"⟩
abbrev cX0_lastWord : ByteArray := prog_2_method_13_code
def yX0_lastWord : MethodName := ⟨RX0, "lastWord", "()I"⟩
abbrev cX0_hasFoundWordAgain : ByteArray := prog_2_method_14_code
def yX0_hasFoundWordAgain : MethodName := ⟨RX0, "hasFoundWordAgain", "()Z"⟩
abbrev cX0_wordChanges : ByteArray := prog_2_method_15_code
def yX0_wordChanges : MethodName := ⟨RX0, "wordChanges", "()I"⟩
abbrev cX0_seatSet : ByteArray := prog_2_method_16_code
def yX0_seatSet : MethodName := ⟨RX0, "seatSet", "()I"⟩
def RX1 : String := "DoodleAlbums$Forecast"
def TX1 : u_T := fun k => match k with
  | 0 => ("DoodleAlbums$Forecast", "album", "LDoodleAlbums$Album;", true)
  | 1 => ("DoodleAlbums$Forecast", "points", "[I", true)
  | _ => ("DoodleAlbums$Forecast", "rounds", "I", false)
def tyX1 : Nat → FieldType := fun k => match k with
  | 0 => .object "DoodleAlbums$Album"
  | 1 => .array .int
  | _ => .int
abbrev wsX10 : List Cond := u_ws RX1 TX1 3
theorem nmX1 : ∀ a, a < 3 → ∀ b, b < 3 → a ≠ b → (TX1 a).2.1 ≠ (TX1 b).2.1 := by decide +kernel
theorem tyX1_ok : ∀ k, k < 3 → parseFieldDescriptor (TX1 k).2.2.1 = some (tyX1 k) := by decide +kernel
abbrev cX1_init : ByteArray := prog_3_method_1_code
def yX1_init : MethodName := ⟨RX1, "<init>", "()V"⟩
abbrev cX1_follow : ByteArray := prog_3_method_2_code
def yX1_follow : MethodName := ⟨RX1, "follow", "(LDoodleAlbums$Table;LDoodleAlbums$Album;)V"⟩
abbrev cX1_followAll : ByteArray := prog_3_method_3_code
def yX1_followAll : MethodName := ⟨RX1, "followAll", "(LDoodleAlbums$Table;)V"⟩
abbrev cX1_differenceAtHome : ByteArray := prog_3_method_4_code
def yX1_differenceAtHome : MethodName := ⟨RX1, "differenceAtHome", "(LDoodleAlbums$Table;II)I"⟩
abbrev cX1_playToEnd : ByteArray := prog_3_method_5_code
def yX1_playToEnd : MethodName := ⟨RX1, "playToEnd", "(LDoodleAlbums$Table;)V"⟩
def RX2 : String := "DoodleAlbums$History"
def TX2 : u_T := fun k => match k with
  | 0 => ("DoodleAlbums$History", "states", "[LDoodleAlbums$Table;", true)
  | 1 => ("DoodleAlbums$History", "oldest", "I", false)
  | _ => ("DoodleAlbums$History", "size", "I", false)
def tyX2 : Nat → FieldType := fun k => match k with
  | 0 => .array (.object "DoodleAlbums$Table")
  | 1 => .int
  | _ => .int
abbrev wsX20 : List Cond := u_ws RX2 TX2 3
theorem nmX2 : ∀ a, a < 3 → ∀ b, b < 3 → a ≠ b → (TX2 a).2.1 ≠ (TX2 b).2.1 := by decide +kernel
theorem tyX2_ok : ∀ k, k < 3 → parseFieldDescriptor (TX2 k).2.2.1 = some (tyX2 k) := by decide +kernel
abbrev cX2_init : ByteArray := prog_4_method_1_code
def yX2_init : MethodName := ⟨RX2, "<init>", "()V"⟩
abbrev cX2_stateAt : ByteArray := prog_4_method_2_code
def yX2_stateAt : MethodName := ⟨RX2, "stateAt", "(I)LDoodleAlbums$Table;"⟩
abbrev cX2_prepare : ByteArray := prog_4_method_3_code
def yX2_prepare : MethodName := ⟨RX2, "prepare", "(LDoodleAlbums$Table;)V"⟩
abbrev cX2_recordUnlessError : ByteArray := prog_4_method_4_code
def yX2_recordUnlessError : MethodName := ⟨RX2, "recordUnlessError", "(I)I"⟩
abbrev cX2_takeBack : ByteArray := prog_4_method_5_code
def yX2_takeBack : MethodName := ⟨RX2, "takeBack", "(LDoodleAlbums$Table;)I"⟩
def RX3 : String := "DoodleAlbums$Pad"
def TX3 : u_T := fun k => match k with
  | 0 => ("DoodleAlbums$Pad", "signs", "[I", true)
  | 1 => ("DoodleAlbums$Pad", "size", "I", false)
  | 2 => ("DoodleAlbums$Pad", "position", "I", false)
  | 3 => ("DoodleAlbums$Pad", "kind", "I", false)
  | 4 => ("DoodleAlbums$Pad", "first", "I", false)
  | _ => ("DoodleAlbums$Pad", "second", "I", false)
def tyX3 : Nat → FieldType := fun k => match k with
  | 0 => .array .int
  | 1 => .int
  | 2 => .int
  | 3 => .int
  | 4 => .int
  | _ => .int
abbrev wsX30 : List Cond := u_ws RX3 TX3 6
theorem nmX3 : ∀ a, a < 6 → ∀ b, b < 6 → a ≠ b → (TX3 a).2.1 ≠ (TX3 b).2.1 := by decide +kernel
theorem tyX3_ok : ∀ k, k < 6 → parseFieldDescriptor (TX3 k).2.2.1 = some (tyX3 k) := by decide +kernel
abbrev cX3_init : ByteArray := prog_5_method_1_code
def yX3_init : MethodName := ⟨RX3, "<init>", "()V"⟩
abbrev cX3_append : ByteArray := prog_5_method_2_code
def yX3_append : MethodName := ⟨RX3, "append", "(J)I"⟩
abbrev cX3_signsIn : ByteArray := prog_5_method_3_code
def yX3_signsIn : MethodName := ⟨RX3, "signsIn", "(J)I"⟩
abbrev cX3_empty : ByteArray := prog_5_method_4_code
def yX3_empty : MethodName := ⟨RX3, "empty", "()I"⟩
abbrev cX3_findFault : ByteArray := prog_5_method_5_code
def yX3_findFault : MethodName := ⟨RX3, "findFault", "()I"⟩
abbrev cX3_startReading : ByteArray := prog_5_method_6_code
def yX3_startReading : MethodName := ⟨RX3, "startReading", "()V"⟩
abbrev cX3_readNext : ByteArray := prog_5_method_7_code
def yX3_readNext : MethodName := ⟨RX3, "readNext", "()Z"⟩
abbrev cX3_readOrder : ByteArray := prog_5_method_8_code
def yX3_readOrder : MethodName := ⟨RX3, "readOrder", "()Z"⟩
abbrev cX3_readSeat : ByteArray := prog_5_method_9_code
def yX3_readSeat : MethodName := ⟨RX3, "readSeat", "()Z"⟩
abbrev cX3_readRounds : ByteArray := prog_5_method_10_code
def yX3_readRounds : MethodName := ⟨RX3, "readRounds", "()V"⟩
abbrev cX3_readNumber : ByteArray := prog_5_method_11_code
def yX3_readNumber : MethodName := ⟨RX3, "readNumber", "()Z"⟩
abbrev cX3_take : ByteArray := prog_5_method_12_code
def yX3_take : MethodName := ⟨RX3, "take", "(I)Z"⟩
abbrev cX3_digitHere : ByteArray := prog_5_method_13_code
def yX3_digitHere : MethodName := ⟨RX3, "digitHere", "()I"⟩
abbrev cX3_signHere : ByteArray := prog_5_method_14_code
def yX3_signHere : MethodName := ⟨RX3, "signHere", "()I"⟩
def RX4 : String := "DoodleAlbums$Slot"
def TX4 : u_T := fun k => match k with
  | 0 => ("DoodleAlbums$Slot", "state", "LDoodleAlbums$Table;", true)
  | _ => ("DoodleAlbums$Slot", "filled", "Z", false)
def tyX4 : Nat → FieldType := fun k => match k with
  | 0 => .object "DoodleAlbums$Table"
  | _ => .boolean
abbrev wsX40 : List Cond := u_ws RX4 TX4 2
theorem nmX4 : ∀ a, a < 2 → ∀ b, b < 2 → a ≠ b → (TX4 a).2.1 ≠ (TX4 b).2.1 := by decide +kernel
theorem tyX4_ok : ∀ k, k < 2 → parseFieldDescriptor (TX4 k).2.2.1 = some (tyX4 k) := by decide +kernel
abbrev cX4_init : ByteArray := prog_6_method_1_code
def yX4_init : MethodName := ⟨RX4, "<init>", "()V"⟩
def RX5 : String := "DoodleAlbums$Table"
def TX5 : u_T := fun k => match k with
  | 0 => ("DoodleAlbums$Table", "features", "[I", true)
  | 1 => ("DoodleAlbums$Table", "drawable", "[I", true)
  | 2 => ("DoodleAlbums$Table", "points", "[I", true)
  | 3 => ("DoodleAlbums$Table", "albums", "[LDoodleAlbums$Album;", true)
  | 4 => ("DoodleAlbums$Table", "players", "I", false)
  | 5 => ("DoodleAlbums$Table", "albumCount", "I", false)
  | _ => ("DoodleAlbums$Table", "rounds", "I", false)
def tyX5 : Nat → FieldType := fun k => match k with
  | 0 => .array .int
  | 1 => .array .int
  | 2 => .array .int
  | 3 => .array (.object "DoodleAlbums$Album")
  | 4 => .int
  | 5 => .int
  | _ => .int
abbrev wsX50 : List Cond := u_ws RX5 TX5 7
theorem nmX5 : ∀ a, a < 7 → ∀ b, b < 7 → a ≠ b → (TX5 a).2.1 ≠ (TX5 b).2.1 := by decide +kernel
theorem tyX5_ok : ∀ k, k < 7 → parseFieldDescriptor (TX5 k).2.2.1 = some (tyX5 k) := by decide +kernel
abbrev cX5_init : ByteArray := prog_7_method_1_code
def yX5_init : MethodName := ⟨RX5, "<init>", "()V"⟩
abbrev cX5_copyFrom : ByteArray := prog_7_method_2_code
def yX5_copyFrom : MethodName := ⟨RX5, "copyFrom", "(LDoodleAlbums$Table;)V"⟩
abbrev cX5_placeAt : ByteArray := prog_7_method_3_code
def yX5_placeAt : MethodName := ⟨RX5, "placeAt", "(I)LDoodleAlbums$Album;"⟩
abbrev cX5_albumAt : ByteArray := prog_7_method_4_code
def yX5_albumAt : MethodName := ⟨RX5, "albumAt", "(I)LDoodleAlbums$Album;"⟩
abbrev cX5_isTaken : ByteArray := prog_7_method_5_code
def yX5_isTaken : MethodName := ⟨RX5, "isTaken", "(I)Z"⟩
abbrev cX5_changeFeatures : ByteArray := prog_7_method_6_code
def yX5_changeFeatures : MethodName := ⟨RX5, "changeFeatures", "(II)I"⟩
abbrev cX5_sitDown : ByteArray := prog_7_method_7_code
def yX5_sitDown : MethodName := ⟨RX5, "sitDown", "(II)I"⟩
abbrev cX5_standUp : ByteArray := prog_7_method_8_code
def yX5_standUp : MethodName := ⟨RX5, "standUp", "(I)I"⟩
abbrev cX5_beginAlbum : ByteArray := prog_7_method_9_code
def yX5_beginAlbum : MethodName := ⟨RX5, "beginAlbum", "(II)I"⟩
abbrev cX5_tellPage : ByteArray := prog_7_method_10_code
def yX5_tellPage : MethodName := ⟨RX5, "tellPage", "(II)I"⟩
abbrev cX5_makeRound : ByteArray := prog_7_method_11_code
def yX5_makeRound : MethodName := ⟨RX5, "makeRound", "()I"⟩
abbrev cX5_clearEnded : ByteArray := prog_7_method_12_code
def yX5_clearEnded : MethodName := ⟨RX5, "clearEnded", "()I"⟩
abbrev cX5_passOn : ByteArray := prog_7_method_13_code
def yX5_passOn : MethodName := ⟨RX5, "passOn", "(LDoodleAlbums$Album;[I)V"⟩
abbrev cX5_nextSeat : ByteArray := prog_7_method_14_code
def yX5_nextSeat : MethodName := ⟨RX5, "nextSeat", "(LDoodleAlbums$Album;)I"⟩
abbrev cX5_end : ByteArray := prog_7_method_15_code
def yX5_end : MethodName := ⟨RX5, "end", "(LDoodleAlbums$Album;[I)V"⟩
abbrev cX5_pageBy : ByteArray := prog_7_method_16_code
def yX5_pageBy : MethodName := ⟨RX5, "pageBy", "(ILDoodleAlbums$Album;)I"⟩
abbrev cX5_mostLike : ByteArray := prog_7_method_17_code
def yX5_mostLike : MethodName := ⟨RX5, "mostLike", "(I)I"⟩
abbrev cX5_difference : ByteArray := prog_7_method_18_code
def yX5_difference : MethodName := ⟨RX5, "difference", "(II)I"⟩
abbrev cX5_albumGoingRoundOf : ByteArray := prog_7_method_19_code
def yX5_albumGoingRoundOf : MethodName := ⟨RX5, "albumGoingRoundOf", "(I)I"⟩
abbrev cX5_albumsThatAre : ByteArray := prog_7_method_20_code
def yX5_albumsThatAre : MethodName := ⟨RX5, "albumsThatAre", "(I)I"⟩
abbrev cX5_pagesBy : ByteArray := prog_7_method_21_code
def yX5_pagesBy : MethodName := ⟨RX5, "pagesBy", "(I)I"⟩
abbrev cX5_allPoints : ByteArray := prog_7_method_22_code
def yX5_allPoints : MethodName := ⟨RX5, "allPoints", "()I"⟩
def RX6 : String := "DoodleAlbums"
def TX6 : u_T := fun k => match k with
  | 0 => ("DoodleAlbums", "table", "LDoodleAlbums$Table;", true)
  | 1 => ("DoodleAlbums", "forecast", "LDoodleAlbums$Forecast;", true)
  | 2 => ("DoodleAlbums", "history", "LDoodleAlbums$History;", true)
  | 3 => ("DoodleAlbums", "slots", "[LDoodleAlbums$Slot;", true)
  | _ => ("DoodleAlbums", "pad", "LDoodleAlbums$Pad;", true)
def tyX6 : Nat → FieldType := fun k => match k with
  | 0 => .object "DoodleAlbums$Table"
  | 1 => .object "DoodleAlbums$Forecast"
  | 2 => .object "DoodleAlbums$History"
  | 3 => .array (.object "DoodleAlbums$Slot")
  | _ => .object "DoodleAlbums$Pad"
abbrev wsX60 : List Cond := u_ws RX6 TX6 5
theorem nmX6 : ∀ a, a < 5 → ∀ b, b < 5 → a ≠ b → (TX6 a).2.1 ≠ (TX6 b).2.1 := by decide +kernel
theorem tyX6_ok : ∀ k, k < 5 → parseFieldDescriptor (TX6 k).2.2.1 = some (tyX6 k) := by decide +kernel
abbrev cX6_init : ByteArray := prog_1_method_1_code
def yX6_init : MethodName := ⟨RX6, "<init>", "()V"⟩
abbrev cX6_teach : ByteArray := prog_1_method_2_code
def yX6_teach : MethodName := ⟨RX6, "teach", "(II)I"⟩
abbrev cX6_sit : ByteArray := prog_1_method_3_code
def yX6_sit : MethodName := ⟨RX6, "sit", "(II)I"⟩
abbrev cX6_leave : ByteArray := prog_1_method_4_code
def yX6_leave : MethodName := ⟨RX6, "leave", "(I)I"⟩
abbrev cX6_begin : ByteArray := prog_1_method_5_code
def yX6_begin : MethodName := ⟨RX6, "begin", "(II)I"⟩
abbrev cX6_tell : ByteArray := prog_1_method_6_code
def yX6_tell : MethodName := ⟨RX6, "tell", "(II)I"⟩
abbrev cX6_round : ByteArray := prog_1_method_7_code
def yX6_round : MethodName := ⟨RX6, "round", "()I"⟩
abbrev cX6_clear : ByteArray := prog_1_method_8_code
def yX6_clear : MethodName := ⟨RX6, "clear", "()I"⟩
abbrev cX6_of : ByteArray := prog_1_method_9_code
def yX6_of : MethodName := ⟨RX6, "of", "(II)I"⟩
abbrev cX6_page : ByteArray := prog_1_method_10_code
def yX6_page : MethodName := ⟨RX6, "page", "(III)I"⟩
abbrev cX6_seat : ByteArray := prog_1_method_11_code
def yX6_seat : MethodName := ⟨RX6, "seat", "(II)I"⟩
abbrev cX6_word : ByteArray := prog_1_method_12_code
def yX6_word : MethodName := ⟨RX6, "word", "(I)I"⟩
abbrev cX6_count : ByteArray := prog_1_method_13_code
def yX6_count : MethodName := ⟨RX6, "count", "(I)I"⟩
abbrev cX6_guess : ByteArray := prog_1_method_14_code
def yX6_guess : MethodName := ⟨RX6, "guess", "(I)I"⟩
abbrev cX6_foretold : ByteArray := prog_1_method_15_code
def yX6_foretold : MethodName := ⟨RX6, "foretold", "(II)I"⟩
abbrev cX6_bestWord : ByteArray := prog_1_method_16_code
def yX6_bestWord : MethodName := ⟨RX6, "bestWord", "(II)I"⟩
abbrev cX6_pointsThen : ByteArray := prog_1_method_17_code
def yX6_pointsThen : MethodName := ⟨RX6, "pointsThen", "(I)I"⟩
abbrev cX6_put : ByteArray := prog_1_method_18_code
def yX6_put : MethodName := ⟨RX6, "put", "(J)I"⟩
abbrev cX6_wipe : ByteArray := prog_1_method_19_code
def yX6_wipe : MethodName := ⟨RX6, "wipe", "()I"⟩
abbrev cX6_fault : ByteArray := prog_1_method_20_code
def yX6_fault : MethodName := ⟨RX6, "fault", "()I"⟩
abbrev cX6_carryOut : ByteArray := prog_1_method_21_code
def yX6_carryOut : MethodName := ⟨RX6, "carryOut", "()I"⟩
abbrev cX6_undo : ByteArray := prog_1_method_22_code
def yX6_undo : MethodName := ⟨RX6, "undo", "()I"⟩
abbrev cX6_save : ByteArray := prog_1_method_23_code
def yX6_save : MethodName := ⟨RX6, "save", "(I)I"⟩
abbrev cX6_restore : ByteArray := prog_1_method_24_code
def yX6_restore : MethodName := ⟨RX6, "restore", "(I)I"⟩
abbrev cX6_carryOutOrder : ByteArray := prog_1_method_25_code
def yX6_carryOutOrder : MethodName := ⟨RX6, "carryOutOrder", "()I"⟩
abbrev cX6_slotAt : ByteArray := prog_1_method_26_code
def yX6_slotAt : MethodName := ⟨RX6, "slotAt", "(I)LDoodleAlbums$Slot;"⟩
abbrev cX6_isBelow : ByteArray := prog_1_method_27_code
def yX6_isBelow : MethodName := ⟨RX6, "isBelow", "(II)Z"⟩
abbrev cX6_valueAt : ByteArray := prog_1_method_28_code
def yX6_valueAt : MethodName := ⟨RX6, "valueAt", "([II)I"⟩
abbrev cX6_setAt : ByteArray := prog_1_method_29_code
def yX6_setAt : MethodName := ⟨RX6, "setAt", "([III)V"⟩
abbrev cX6_addAt : ByteArray := prog_1_method_30_code
def yX6_addAt : MethodName := ⟨RX6, "addAt", "([III)V"⟩
abbrev cX6_copyRow : ByteArray := prog_1_method_31_code
def yX6_copyRow : MethodName := ⟨RX6, "copyRow", "([I[I)V"⟩
def RX7 : String := "DoodleAlbumsModel"
def TX7 : u_T := fun k => match k with
  | 0 => ("DoodleAlbumsModel", "state", "[I", true)
  | 1 => ("DoodleAlbumsModel", "kept", "[I", true)
  | 2 => ("DoodleAlbumsModel", "history", "[I", true)
  | 3 => ("DoodleAlbumsModel", "recorded", "I", false)
  | 4 => ("DoodleAlbumsModel", "slots", "[I", true)
  | 5 => ("DoodleAlbumsModel", "isSaved", "[I", true)
  | 6 => ("DoodleAlbumsModel", "pad", "[I", true)
  | 7 => ("DoodleAlbumsModel", "padLength", "I", false)
  | 8 => ("DoodleAlbumsModel", "at", "I", false)
  | 9 => ("DoodleAlbumsModel", "letter", "I", false)
  | 10 => ("DoodleAlbumsModel", "first", "I", false)
  | _ => ("DoodleAlbumsModel", "second", "I", false)
def tyX7 : Nat → FieldType := fun k => match k with
  | 0 => .array .int
  | 1 => .array .int
  | 2 => .array .int
  | 3 => .int
  | 4 => .array .int
  | 5 => .array .int
  | 6 => .array .int
  | 7 => .int
  | 8 => .int
  | 9 => .int
  | 10 => .int
  | _ => .int
abbrev wsX70 : List Cond := u_ws RX7 TX7 12
theorem nmX7 : ∀ a, a < 12 → ∀ b, b < 12 → a ≠ b → (TX7 a).2.1 ≠ (TX7 b).2.1 := by decide +kernel
theorem tyX7_ok : ∀ k, k < 12 → parseFieldDescriptor (TX7 k).2.2.1 = some (tyX7 k) := by decide +kernel
abbrev cX7_init : ByteArray := prog_9_method_1_code
def yX7_init : MethodName := ⟨RX7, "<init>", "()V"⟩
abbrev cX7_moves : ByteArray := prog_9_method_3_code
def yX7_moves : MethodName := ⟨RX7, "moves", "([II[II)V"⟩
abbrev cX7_within : ByteArray := prog_9_method_4_code
def yX7_within : MethodName := ⟨RX7, "within", "(III)Z"⟩
abbrev cX7_record : ByteArray := prog_9_method_5_code
def yX7_record : MethodName := ⟨RX7, "record", "()V"⟩
abbrev cX7_bits : ByteArray := prog_9_method_6_code
def yX7_bits : MethodName := ⟨RX7, "bits", "(I)I"⟩
abbrev cX7_isWord : ByteArray := prog_9_method_7_code
def yX7_isWord : MethodName := ⟨RX7, "isWord", "(I)Z"⟩
abbrev cX7_isSeat : ByteArray := prog_9_method_8_code
def yX7_isSeat : MethodName := ⟨RX7, "isSeat", "(I)Z"⟩
abbrev cX7_isTaken : ByteArray := prog_9_method_9_code
def yX7_isTaken : MethodName := ⟨RX7, "isTaken", "(I)Z"⟩
abbrev cX7_isAlbum : ByteArray := prog_9_method_10_code
def yX7_isAlbum : MethodName := ⟨RX7, "isAlbum", "(I)Z"⟩
abbrev cX7_part : ByteArray := prog_9_method_11_code
def yX7_part : MethodName := ⟨RX7, "part", "(II)I"⟩
abbrev cX7_setPart : ByteArray := prog_9_method_12_code
def yX7_setPart : MethodName := ⟨RX7, "setPart", "(III)V"⟩
abbrev cX7_pagePart : ByteArray := prog_9_method_13_code
def yX7_pagePart : MethodName := ⟨RX7, "pagePart", "(III)I"⟩
abbrev cX7_putPage : ByteArray := prog_9_method_14_code
def yX7_putPage : MethodName := ⟨RX7, "putPage", "(IIII)V"⟩
abbrev cX7_lastPage : ByteArray := prog_9_method_15_code
def yX7_lastPage : MethodName := ⟨RX7, "lastPage", "(I)I"⟩
abbrev cX7_lastWordPage : ByteArray := prog_9_method_16_code
def yX7_lastWordPage : MethodName := ⟨RX7, "lastWordPage", "(I)I"⟩
abbrev cX7_lastWord : ByteArray := prog_9_method_17_code
def yX7_lastWord : MethodName := ⟨RX7, "lastWord", "(I)I"⟩
abbrev cX7_firstWord : ByteArray := prog_9_method_18_code
def yX7_firstWord : MethodName := ⟨RX7, "firstWord", "(I)I"⟩
abbrev cX7_seatsOf : ByteArray := prog_9_method_19_code
def yX7_seatsOf : MethodName := ⟨RX7, "seatsOf", "(I)I"⟩
abbrev cX7_goesRound : ByteArray := prog_9_method_20_code
def yX7_goesRound : MethodName := ⟨RX7, "goesRound", "(I)Z"⟩
abbrev cX7_albumOf : ByteArray := prog_9_method_21_code
def yX7_albumOf : MethodName := ⟨RX7, "albumOf", "(I)I"⟩
abbrev cX7_withHow : ByteArray := prog_9_method_22_code
def yX7_withHow : MethodName := ⟨RX7, "withHow", "(I)I"⟩
abbrev cX7_guessed : ByteArray := prog_9_method_23_code
def yX7_guessed : MethodName := ⟨RX7, "guessed", "(I)I"⟩
abbrev cX7_nextSeat : ByteArray := prog_9_method_24_code
def yX7_nextSeat : MethodName := ⟨RX7, "nextSeat", "(I)I"⟩
abbrev cX7_scores : ByteArray := prog_9_method_25_code
def yX7_scores : MethodName := ⟨RX7, "scores", "(II)V"⟩
abbrev cX7_comesHome : ByteArray := prog_9_method_26_code
def yX7_comesHome : MethodName := ⟨RX7, "comesHome", "(I)V"⟩
abbrev cX7_goesTo : ByteArray := prog_9_method_27_code
def yX7_goesTo : MethodName := ⟨RX7, "goesTo", "(II)V"⟩
abbrev cX7_makesRound : ByteArray := prog_9_method_28_code
def yX7_makesRound : MethodName := ⟨RX7, "makesRound", "()V"⟩
abbrev cX7_teach : ByteArray := prog_9_method_29_code
def yX7_teach : MethodName := ⟨RX7, "teach", "(II)I"⟩
abbrev cX7_whyNotSat : ByteArray := prog_9_method_30_code
def yX7_whyNotSat : MethodName := ⟨RX7, "whyNotSat", "(II)I"⟩
abbrev cX7_sat : ByteArray := prog_9_method_31_code
def yX7_sat : MethodName := ⟨RX7, "sat", "(II)I"⟩
abbrev cX7_sit : ByteArray := prog_9_method_32_code
def yX7_sit : MethodName := ⟨RX7, "sit", "(II)I"⟩
abbrev cX7_whyNotLeft : ByteArray := prog_9_method_33_code
def yX7_whyNotLeft : MethodName := ⟨RX7, "whyNotLeft", "(I)I"⟩
abbrev cX7_left : ByteArray := prog_9_method_34_code
def yX7_left : MethodName := ⟨RX7, "left", "(I)I"⟩
abbrev cX7_leave : ByteArray := prog_9_method_35_code
def yX7_leave : MethodName := ⟨RX7, "leave", "(I)I"⟩
abbrev cX7_whyNotBegun : ByteArray := prog_9_method_36_code
def yX7_whyNotBegun : MethodName := ⟨RX7, "whyNotBegun", "(II)I"⟩
abbrev cX7_clearAlbum : ByteArray := prog_9_method_37_code
def yX7_clearAlbum : MethodName := ⟨RX7, "clearAlbum", "(I)V"⟩
abbrev cX7_begun : ByteArray := prog_9_method_38_code
def yX7_begun : MethodName := ⟨RX7, "begun", "(II)I"⟩
abbrev cX7_begin : ByteArray := prog_9_method_39_code
def yX7_begin : MethodName := ⟨RX7, "begin", "(II)I"⟩
abbrev cX7_whyNotTold : ByteArray := prog_9_method_40_code
def yX7_whyNotTold : MethodName := ⟨RX7, "whyNotTold", "(II)I"⟩
abbrev cX7_tells : ByteArray := prog_9_method_41_code
def yX7_tells : MethodName := ⟨RX7, "tells", "(II)I"⟩
abbrev cX7_tell : ByteArray := prog_9_method_42_code
def yX7_tell : MethodName := ⟨RX7, "tell", "(II)I"⟩
abbrev cX7_round : ByteArray := prog_9_method_43_code
def yX7_round : MethodName := ⟨RX7, "round", "()I"⟩
abbrev cX7_cleared : ByteArray := prog_9_method_44_code
def yX7_cleared : MethodName := ⟨RX7, "cleared", "()I"⟩
abbrev cX7_clear : ByteArray := prog_9_method_45_code
def yX7_clear : MethodName := ⟨RX7, "clear", "()I"⟩
abbrev cX7_changed : ByteArray := prog_9_method_46_code
def yX7_changed : MethodName := ⟨RX7, "changed", "(I)I"⟩
abbrev cX7_apart : ByteArray := prog_9_method_47_code
def yX7_apart : MethodName := ⟨RX7, "apart", "(II)I"⟩
abbrev cX7_of : ByteArray := prog_9_method_48_code
def yX7_of : MethodName := ⟨RX7, "of", "(II)I"⟩
abbrev cX7_page : ByteArray := prog_9_method_49_code
def yX7_page : MethodName := ⟨RX7, "page", "(III)I"⟩
abbrev cX7_pagesBy : ByteArray := prog_9_method_50_code
def yX7_pagesBy : MethodName := ⟨RX7, "pagesBy", "(I)I"⟩
abbrev cX7_seat : ByteArray := prog_9_method_51_code
def yX7_seat : MethodName := ⟨RX7, "seat", "(II)I"⟩
abbrev cX7_word : ByteArray := prog_9_method_52_code
def yX7_word : MethodName := ⟨RX7, "word", "(I)I"⟩
abbrev cX7_allPoints : ByteArray := prog_9_method_53_code
def yX7_allPoints : MethodName := ⟨RX7, "allPoints", "()I"⟩
abbrev cX7_count : ByteArray := prog_9_method_54_code
def yX7_count : MethodName := ⟨RX7, "count", "(I)I"⟩
abbrev cX7_guess : ByteArray := prog_9_method_55_code
def yX7_guess : MethodName := ⟨RX7, "guess", "(I)I"⟩
abbrev cX7_foretold : ByteArray := prog_9_method_56_code
def yX7_foretold : MethodName := ⟨RX7, "foretold", "(II)I"⟩
abbrev cX7_differsWith : ByteArray := prog_9_method_57_code
def yX7_differsWith : MethodName := ⟨RX7, "differsWith", "(II)I"⟩
abbrev cX7_bestWord : ByteArray := prog_9_method_58_code
def yX7_bestWord : MethodName := ⟨RX7, "bestWord", "(II)I"⟩
abbrev cX7_pointsThen : ByteArray := prog_9_method_59_code
def yX7_pointsThen : MethodName := ⟨RX7, "pointsThen", "(I)I"⟩
abbrev cX7_put : ByteArray := prog_9_method_60_code
def yX7_put : MethodName := ⟨RX7, "put", "(J)I"⟩
abbrev cX7_wipe : ByteArray := prog_9_method_61_code
def yX7_wipe : MethodName := ⟨RX7, "wipe", "()I"⟩
abbrev cX7_character : ByteArray := prog_9_method_62_code
def yX7_character : MethodName := ⟨RX7, "character", "(I)I"⟩
abbrev cX7_isNext : ByteArray := prog_9_method_63_code
def yX7_isNext : MethodName := ⟨RX7, "isNext", "(I)Z"⟩
abbrev cX7_takeDigit : ByteArray := prog_9_method_64_code
def yX7_takeDigit : MethodName := ⟨RX7, "takeDigit", "(II)I"⟩
abbrev cX7_takeNumber : ByteArray := prog_9_method_65_code
def yX7_takeNumber : MethodName := ⟨RX7, "takeNumber", "()I"⟩
abbrev cX7_readsOrder : ByteArray := prog_9_method_66_code
def yX7_readsOrder : MethodName := ⟨RX7, "readsOrder", "()Z"⟩
abbrev cX7_findFault : ByteArray := prog_9_method_67_code
def yX7_findFault : MethodName := ⟨RX7, "findFault", "()I"⟩
abbrev cX7_fault : ByteArray := prog_9_method_68_code
def yX7_fault : MethodName := ⟨RX7, "fault", "()I"⟩
abbrev cX7_whyNotDone : ByteArray := prog_9_method_69_code
def yX7_whyNotDone : MethodName := ⟨RX7, "whyNotDone", "()I"⟩
abbrev cX7_does : ByteArray := prog_9_method_70_code
def yX7_does : MethodName := ⟨RX7, "does", "()V"⟩
abbrev cX7_carryOut : ByteArray := prog_9_method_71_code
def yX7_carryOut : MethodName := ⟨RX7, "carryOut", "()I"⟩
abbrev cX7_undo : ByteArray := prog_9_method_72_code
def yX7_undo : MethodName := ⟨RX7, "undo", "()I"⟩
abbrev cX7_save : ByteArray := prog_9_method_73_code
def yX7_save : MethodName := ⟨RX7, "save", "(I)I"⟩
abbrev cX7_restore : ByteArray := prog_9_method_74_code
def yX7_restore : MethodName := ⟨RX7, "restore", "(I)I"⟩
def RJ6 : String := "java/lang/Integer"
def TJ6 : u_T := fun k => match k with
  | _ => ("", "", "", false)
def tyJ6 : Nat → FieldType := fun k => match k with
  | _ => .int
abbrev wsJ60 : List Cond := u_ws RJ6 TJ6 0
theorem nmJ6 : ∀ a, a < 0 → ∀ b, b < 0 → a ≠ b → (TJ6 a).2.1 ≠ (TJ6 b).2.1 := by decide +kernel
theorem tyJ6_ok : ∀ k, k < 0 → parseFieldDescriptor (TJ6 k).2.2.1 = some (tyJ6 k) := by decide +kernel
abbrev cJ6_bitCount_0f7a4 : ByteArray := prog_10_method_49_code
def yJ6_bitCount_0f7a4 : MethodName := ⟨RJ6, "bitCount", "(I)I"⟩
def RJ9 : String := "java/lang/Math"
def TJ9 : u_T := fun k => match k with
  | _ => ("", "", "", false)
def tyJ9 : Nat → FieldType := fun k => match k with
  | _ => .int
abbrev wsJ90 : List Cond := u_ws RJ9 TJ9 0
theorem nmJ9 : ∀ a, a < 0 → ∀ b, b < 0 → a ≠ b → (TJ9 a).2.1 ≠ (TJ9 b).2.1 := by decide +kernel
theorem tyJ9_ok : ∀ k, k < 0 → parseFieldDescriptor (TJ9 k).2.2.1 = some (tyJ9 k) := by decide +kernel
abbrev cJ9_min_7cf53 : ByteArray := prog_11_method_69_code
def yJ9_min_7cf53 : MethodName := ⟨RJ9, "min", "(II)I"⟩
def RJ10 : String := "java/lang/System"
def TJ10 : u_T := fun k => match k with
  | _ => ("", "", "", false)
def tyJ10 : Nat → FieldType := fun k => match k with
  | _ => .int
abbrev wsJ100 : List Cond := u_ws RJ10 TJ10 0
theorem nmJ10 : ∀ a, a < 0 → ∀ b, b < 0 → a ≠ b → (TJ10 a).2.1 ≠ (TJ10 b).2.1 := by decide +kernel
theorem tyJ10_ok : ∀ k, k < 0 → parseFieldDescriptor (TJ10 k).2.2.1 = some (tyJ10 k) := by decide +kernel
def RL : String := "DoodleAlbumsLaw"
abbrev cL_law : ByteArray := code
def yL_law : MethodName := ⟨RL, "law", "([I)Z"⟩
abbrev vwCl : List vw_C := [(RX0, TX0, 7), (RX1, TX1, 3), (RX2, TX2, 3), (RX3, TX3, 6), (RX4, TX4, 2), (RX5, TX5, 7), (RX6, TX6, 5), (RX7, TX7, 12)]
theorem aInX0 : ∀ w ∈ wsX00, w ∈ lw_tbl := by decide +kernel
theorem aInX1 : ∀ w ∈ wsX10, w ∈ lw_tbl := by decide +kernel
theorem aInX2 : ∀ w ∈ wsX20, w ∈ lw_tbl := by decide +kernel
theorem aInX3 : ∀ w ∈ wsX30, w ∈ lw_tbl := by decide +kernel
theorem aInX4 : ∀ w ∈ wsX40, w ∈ lw_tbl := by decide +kernel
theorem aInX5 : ∀ w ∈ wsX50, w ∈ lw_tbl := by decide +kernel
theorem aInX6 : ∀ w ∈ wsX60, w ∈ lw_tbl := by decide +kernel
theorem aInX7 : ∀ w ∈ wsX70, w ∈ lw_tbl := by decide +kernel
end
section
def aCode_0 : List (Nat × Instr × Nat) := [(0, .aload_n 0, 1), (1, .invokespecial 3, 3), (4, .aload_n 0, 1), (5, .bipush 8, 2), (7, .newarray .int, 2), (9, .putfield 9, 3), (12, .aload_n 0, 1), (13, .bipush 8, 2), (15, .newarray .int, 2), (17, .putfield 15, 3), (20, .aload_n 0, 1), (21, .bipush (-6), 2), (23, .putfield 18, 3), (26, .return_, 1)]
def aCode_1 : List (Nat × Instr × Nat) := [(0, .aload_n 0, 1), (1, .iload_n 1, 1), (2, .putfield 22, 3), (5, .aload_n 0, 1), (6, .iconst 0, 1), (7, .putfield 25, 3), (10, .aload_n 0, 1), (11, .iconst 0, 1), (12, .putfield 28, 3), (15, .aload_n 0, 1), (16, .bipush (-6), 2), (18, .putfield 18, 3), (21, .aload_n 0, 1), (22, .iconst 0, 1), (23, .putfield 31, 3), (26, .aload_n 0, 1), (27, .iload_n 1, 1), (28, .iload_n 2, 1), (29, .invokevirtual 34, 3), (32, .return_, 1)]
def aCode_2 : List (Nat × Instr × Nat) := [(0, .aload_n 0, 1), (1, .getfield 25, 3), (4, .bipush 8, 2), (6, .if_icmp .ge 37, 3), (9, .aload_n 0, 1), (10, .getfield 9, 3), (13, .aload_n 0, 1), (14, .getfield 25, 3), (17, .iload_n 1, 1), (18, .invokestatic 38, 3), (21, .aload_n 0, 1), (22, .getfield 15, 3), (25, .aload_n 0, 1), (26, .getfield 25, 3), (29, .iload_n 2, 1), (30, .invokestatic 38, 3), (33, .aload_n 0, 1), (34, .dup, 1), (35, .getfield 25, 3), (38, .iconst 1, 1), (39, .iadd, 1), (40, .putfield 25, 3), (43, .return_, 1)]
def aCode_3 : List (Nat × Instr × Nat) := [(0, .aload_n 0, 1), (1, .dup, 1), (2, .getfield 31, 3), (5, .iconst 1, 1), (6, .aload_n 0, 1), (7, .getfield 25, 3), (10, .ishl, 1), (11, .ior, 1), (12, .putfield 31, 3), (15, .aload_n 0, 1), (16, .iload_n 1, 1), (17, .aload_n 0, 1), (18, .getfield 18, 3), (21, .invokevirtual 34, 3), (24, .aload_n 0, 1), (25, .bipush (-6), 2), (27, .putfield 18, 3), (30, .return_, 1)]
def aCode_4 : List (Nat × Instr × Nat) := [(0, .aload_n 1, 1), (1, .getfield 9, 3), (4, .aload_n 0, 1), (5, .getfield 9, 3), (8, .invokestatic 42, 3), (11, .aload_n 1, 1), (12, .getfield 15, 3), (15, .aload_n 0, 1), (16, .getfield 15, 3), (19, .invokestatic 42, 3), (22, .aload_n 0, 1), (23, .aload_n 1, 1), (24, .getfield 22, 3), (27, .putfield 22, 3), (30, .aload_n 0, 1), (31, .aload_n 1, 1), (32, .getfield 25, 3), (35, .putfield 25, 3), (38, .aload_n 0, 1), (39, .aload_n 1, 1), (40, .getfield 28, 3), (43, .putfield 28, 3), (46, .aload_n 0, 1), (47, .aload_n 1, 1), (48, .getfield 18, 3), (51, .putfield 18, 3), (54, .aload_n 0, 1), (55, .aload_n 1, 1), (56, .getfield 31, 3), (59, .putfield 31, 3), (62, .return_, 1)]
def aCode_5 : List (Nat × Instr × Nat) := [(0, .aload_n 0, 1), (1, .getfield 28, 3), (4, .ifCond .ne 7, 3), (7, .iconst 1, 1), (8, .goto 4, 3), (11, .iconst 0, 1), (12, .ireturn, 1)]
def aCode_6 : List (Nat × Instr × Nat) := [(0, .aload_n 0, 1), (1, .getfield 9, 3), (4, .iload_n 1, 1), (5, .invokestatic 46, 3), (8, .ireturn, 1)]
def aCode_7 : List (Nat × Instr × Nat) := [(0, .aload_n 0, 1), (1, .getfield 15, 3), (4, .iload_n 1, 1), (5, .invokestatic 46, 3), (8, .ireturn, 1)]
def aCode_8 : List (Nat × Instr × Nat) := [(0, .aload_n 0, 1), (1, .getfield 31, 3), (4, .iconst 1, 1), (5, .iload_n 1, 1), (6, .ishl, 1), (7, .iand, 1), (8, .ifCond .eq 7, 3), (11, .iconst 1, 1), (12, .goto 4, 3), (15, .iconst 0, 1), (16, .ireturn, 1)]
def aCode_9 : List (Nat × Instr × Nat) := [(0, .aload_n 0, 1), (1, .getfield 9, 3), (4, .aload_n 0, 1), (5, .getfield 25, 3), (8, .iconst 1, 1), (9, .isub, 1), (10, .invokestatic 46, 3), (13, .ireturn, 1)]
def aCode_10 : List (Nat × Instr × Nat) := [(0, .aload_n 0, 1), (1, .getfield 25, 3), (4, .iconst 1, 1), (5, .iand, 1), (6, .iconst 1, 1), (7, .if_icmp .ne 7, 3), (10, .iconst 1, 1), (11, .goto 4, 3), (14, .iconst 0, 1), (15, .ireturn, 1)]
def aCode_11 : List (Nat × Instr × Nat) := [(0, .aload_n 0, 1), (1, .getfield 15, 3), (4, .iconst 0, 1), (5, .invokestatic 46, 3), (8, .ireturn, 1)]
def aCode_12 : List (Nat × Instr × Nat) := [(0, .aload_n 0, 1), (1, .getfield 15, 3), (4, .aload_n 0, 1), (5, .invokevirtual 50, 3), (8, .ifCond .eq 12, 3), (11, .aload_n 0, 1), (12, .getfield 25, 3), (15, .iconst 1, 1), (16, .isub, 1), (17, .goto 9, 3), (20, .aload_n 0, 1), (21, .getfield 25, 3), (24, .iconst 2, 1), (25, .isub, 1), (26, .invokestatic 46, 3), (29, .ireturn, 1)]
def aCode_13 : List (Nat × Instr × Nat) := [(0, .aload_n 0, 1), (1, .getfield 25, 3), (4, .iconst 3, 1), (5, .if_icmp .lt 37, 3), (8, .aload_n 0, 1), (9, .invokevirtual 50, 3), (12, .ifCond .eq 30, 3), (15, .aload_n 0, 1), (16, .aload_n 0, 1), (17, .getfield 25, 3), (20, .iconst 1, 1), (21, .isub, 1), (22, .invokevirtual 54, 3), (25, .aload_n 0, 1), (26, .aload_n 0, 1), (27, .getfield 25, 3), (30, .iconst 3, 1), (31, .isub, 1), (32, .invokevirtual 54, 3), (35, .if_icmp .ne 7, 3), (38, .iconst 1, 1), (39, .goto 4, 3), (42, .iconst 0, 1), (43, .ireturn, 1)]
def aCode_14 : List (Nat × Instr × Nat) := [(0, .iconst 0, 1), (1, .istore_n 1, 1), (2, .iconst 2, 1), (3, .istore_n 2, 1), (4, .iload_n 2, 1), (5, .aload_n 0, 1), (6, .getfield 25, 3), (9, .if_icmp .ge 27, 3), (12, .aload_n 0, 1), (13, .iload_n 2, 1), (14, .invokevirtual 54, 3), (17, .aload_n 0, 1), (18, .iload_n 2, 1), (19, .iconst 2, 1), (20, .isub, 1), (21, .invokevirtual 54, 3), (24, .if_icmp .eq 6, 3), (27, .iinc 1 1, 3), (30, .iinc 2 2, 3), (33, .goto (-29), 3), (36, .iload_n 1, 1), (37, .ireturn, 1)]
def aCode_15 : List (Nat × Instr × Nat) := [(0, .iconst 0, 1), (1, .istore_n 1, 1), (2, .iconst 0, 1), (3, .istore_n 2, 1), (4, .iload_n 2, 1), (5, .aload_n 0, 1), (6, .getfield 25, 3), (9, .if_icmp .ge 22, 3), (12, .iload_n 1, 1), (13, .iconst 1, 1), (14, .aload_n 0, 1), (15, .getfield 9, 3), (18, .iload_n 2, 1), (19, .invokestatic 46, 3), (22, .ishl, 1), (23, .ior, 1), (24, .istore_n 1, 1), (25, .iinc 2 1, 3), (28, .goto (-24), 3), (31, .iload_n 1, 1), (32, .ireturn, 1)]
def aCode_16 : List (Nat × Instr × Nat) := [(0, .aload_n 0, 1), (1, .invokespecial 3, 3), (4, .aload_n 0, 1), (5, .new 9, 3), (8, .dup, 1), (9, .invokespecial 11, 3), (12, .putfield 12, 3), (15, .aload_n 0, 1), (16, .bipush 8, 2), (18, .newarray .int, 2), (20, .putfield 18, 3), (23, .return_, 1)]
def aCode_17 : List (Nat × Instr × Nat) := [(0, .aload_n 0, 1), (1, .getfield 12, 3), (4, .aload_n 2, 1), (5, .invokevirtual 22, 3), (8, .aload_n 0, 1), (9, .aload_n 1, 1), (10, .invokevirtual 26, 3), (13, .return_, 1)]
def aCode_18 : List (Nat × Instr × Nat) := [(0, .aload_n 1, 1), (1, .getfield 30, 3), (4, .aload_n 0, 1), (5, .getfield 18, 3), (8, .invokestatic 33, 3), (11, .iconst 0, 1), (12, .istore_n 2, 1), (13, .iload_n 2, 1), (14, .aload_n 1, 1), (15, .getfield 37, 3), (18, .if_icmp .ge 32, 3), (21, .aload_n 1, 1), (22, .iload_n 2, 1), (23, .invokevirtual 41, 3), (26, .astore_n 3, 1), (27, .aload_n 3, 1), (28, .ifnull 16, 3), (31, .aload_n 0, 1), (32, .getfield 12, 3), (35, .aload_n 3, 1), (36, .invokevirtual 22, 3), (39, .aload_n 0, 1), (40, .aload_n 1, 1), (41, .invokevirtual 26, 3), (44, .iinc 2 1, 3), (47, .goto (-34), 3), (50, .return_, 1)]
def aCode_19 : List (Nat × Instr × Nat) := [(0, .aload_n 0, 1), (1, .getfield 12, 3), (4, .iload_n 2, 1), (5, .iload_n 3, 1), (6, .invokevirtual 45, 3), (9, .aload_n 0, 1), (10, .aload_n 1, 1), (11, .invokevirtual 26, 3), (14, .aload_n 1, 1), (15, .aload_n 0, 1), (16, .getfield 12, 3), (19, .invokevirtual 49, 3), (22, .aload_n 0, 1), (23, .getfield 12, 3), (26, .invokevirtual 53, 3), (29, .invokevirtual 56, 3), (32, .ireturn, 1)]
def aCode_20 : List (Nat × Instr × Nat) := [(0, .aload_n 0, 1), (1, .iconst 0, 1), (2, .putfield 60, 3), (5, .aload_n 0, 1), (6, .getfield 60, 3), (9, .bipush 8, 2), (11, .if_icmp .gt 38, 3), (14, .aload_n 0, 1), (15, .getfield 12, 3), (18, .invokevirtual 63, 3), (21, .ifCond .eq 28, 3), (24, .aload_n 1, 1), (25, .aload_n 0, 1), (26, .getfield 12, 3), (29, .aload_n 0, 1), (30, .getfield 18, 3), (33, .invokevirtual 67, 3), (36, .aload_n 0, 1), (37, .dup, 1), (38, .getfield 60, 3), (41, .iconst 1, 1), (42, .iadd, 1), (43, .putfield 60, 3), (46, .goto (-41), 3), (49, .return_, 1)]
def aCode_21 : List (Nat × Instr × Nat) := [(0, .aload_n 0, 1), (1, .invokespecial 3, 3), (4, .aload_n 0, 1), (5, .bipush 7, 2), (7, .anewarray 9, 3), (10, .putfield 11, 3), (13, .iconst 0, 1), (14, .istore_n 1, 1), (15, .iload_n 1, 1), (16, .aload_n 0, 1), (17, .getfield 11, 3), (20, .arraylength, 1), (21, .if_icmp .ge 22, 3), (24, .aload_n 0, 1), (25, .getfield 11, 3), (28, .iload_n 1, 1), (29, .new 9, 3), (32, .dup, 1), (33, .invokespecial 17, 3), (36, .aastore, 1), (37, .iinc 1 1, 3), (40, .goto (-25), 3), (43, .return_, 1)]
def aCode_22 : List (Nat × Instr × Nat) := [(0, .aload_n 0, 1), (1, .getfield 18, 3), (4, .iload_n 1, 1), (5, .iadd, 1), (6, .istore_n 2, 1), (7, .iload_n 2, 1), (8, .aload_n 0, 1), (9, .getfield 11, 3), (12, .arraylength, 1), (13, .if_icmp .lt 11, 3), (16, .iload_n 2, 1), (17, .aload_n 0, 1), (18, .getfield 11, 3), (21, .arraylength, 1), (22, .isub, 1), (23, .istore_n 2, 1), (24, .iload_n 2, 1), (25, .ifCond .lt 21, 3), (28, .iload_n 2, 1), (29, .aload_n 0, 1), (30, .getfield 11, 3), (33, .arraylength, 1), (34, .if_icmp .ge 12, 3), (37, .aload_n 0, 1), (38, .getfield 11, 3), (41, .iload_n 2, 1), (42, .aaload, 1), (43, .goto 4, 3), (46, .aconst_null, 1), (47, .areturn, 1)]
def aCode_23 : List (Nat × Instr × Nat) := [(0, .aload_n 0, 1), (1, .aload_n 0, 1), (2, .getfield 22, 3), (5, .invokevirtual 25, 3), (8, .astore_n 2, 1), (9, .aload_n 2, 1), (10, .ifnull 8, 3), (13, .aload_n 2, 1), (14, .aload_n 1, 1), (15, .invokevirtual 29, 3), (18, .return_, 1)]
def aCode_24 : List (Nat × Instr × Nat) := [(0, .iload_n 1, 1), (1, .ifCond .lt 53, 3), (4, .aload_n 0, 1), (5, .getfield 22, 3), (8, .bipush 6, 2), (10, .if_icmp .ge 16, 3), (13, .aload_n 0, 1), (14, .dup, 1), (15, .getfield 22, 3), (18, .iconst 1, 1), (19, .iadd, 1), (20, .putfield 22, 3), (23, .goto 31, 3), (26, .aload_n 0, 1), (27, .aload_n 0, 1), (28, .getfield 18, 3), (31, .iconst 1, 1), (32, .iadd, 1), (33, .aload_n 0, 1), (34, .getfield 11, 3), (37, .arraylength, 1), (38, .if_icmp .ge 12, 3), (41, .aload_n 0, 1), (42, .getfield 18, 3), (45, .iconst 1, 1), (46, .iadd, 1), (47, .goto 4, 3), (50, .iconst 0, 1), (51, .putfield 18, 3), (54, .iload_n 1, 1), (55, .ireturn, 1)]
def aCode_25 : List (Nat × Instr × Nat) := [(0, .aload_n 0, 1), (1, .getfield 22, 3), (4, .ifCond .le 16, 3), (7, .aload_n 0, 1), (8, .aload_n 0, 1), (9, .getfield 22, 3), (12, .iconst 1, 1), (13, .isub, 1), (14, .invokevirtual 25, 3), (17, .goto 4, 3), (20, .aconst_null, 1), (21, .astore_n 2, 1), (22, .aload_n 2, 1), (23, .ifnonnull 6, 3), (26, .bipush (-5), 2), (28, .ireturn, 1), (29, .aload_n 1, 1), (30, .aload_n 2, 1), (31, .invokevirtual 29, 3), (34, .aload_n 0, 1), (35, .dup, 1), (36, .getfield 22, 3), (39, .iconst 1, 1), (40, .isub, 1), (41, .putfield 22, 3), (44, .aload_n 0, 1), (45, .getfield 22, 3), (48, .ireturn, 1)]
def aCode_26 : List (Nat × Instr × Nat) := [(0, .aload_n 0, 1), (1, .invokespecial 3, 3), (4, .aload_n 0, 1), (5, .bipush 80, 2), (7, .newarray .int, 2), (9, .putfield 9, 3), (12, .return_, 1)]
def aCode_27 : List (Nat × Instr × Nat) := [(0, .lload_n 1, 1), (1, .invokestatic 15, 3), (4, .istore_n 3, 1), (5, .iload_n 3, 1), (6, .ifCond .ne 6, 3), (9, .bipush (-2), 2), (11, .ireturn, 1), (12, .aload_n 0, 1), (13, .getfield 19, 3), (16, .iload_n 3, 1), (17, .iadd, 1), (18, .bipush 80, 2), (20, .if_icmp .le 6, 3), (23, .bipush (-4), 2), (25, .ireturn, 1), (26, .lload_n 1, 1), (27, .lstore 4, 2), (29, .iconst 1, 1), (30, .istore 6, 2), (32, .iload 6, 2), (34, .iload_n 3, 1), (35, .if_icmp .gt 39, 3), (38, .aload_n 0, 1), (39, .getfield 9, 3), (42, .aload_n 0, 1), (43, .getfield 19, 3), (46, .iload_n 3, 1), (47, .iadd, 1), (48, .iload 6, 2), (50, .isub, 1), (51, .lload 4, 2), (53, .ldc2_w 23, 3), (56, .land, 1), (57, .l2i, 1), (58, .invokestatic 25, 3), (61, .lload 4, 2), (63, .bipush 8, 2), (65, .lushr, 1), (66, .lstore 4, 2), (68, .iinc 6 1, 3), (71, .goto (-39), 3), (74, .aload_n 0, 1), (75, .dup, 1), (76, .getfield 19, 3), (79, .iload_n 3, 1), (80, .iadd, 1), (81, .putfield 19, 3), (84, .aload_n 0, 1), (85, .getfield 19, 3), (88, .ireturn, 1)]
def aCode_28 : List (Nat × Instr × Nat) := [(0, .lload_n 0, 1), (1, .lstore_n 2, 1), (2, .iconst 0, 1), (3, .istore 4, 2), (5, .iload 4, 2), (7, .bipush 8, 2), (9, .if_icmp .ge 44, 3), (12, .lload_n 2, 1), (13, .lconst 0, 1), (14, .lcmp, 1), (15, .ifCond .eq 38, 3), (18, .lload_n 2, 1), (19, .ldc2_w 23, 3), (22, .land, 1), (23, .l2i, 1), (24, .istore 5, 2), (26, .iload 5, 2), (28, .bipush 33, 2), (30, .if_icmp .lt 10, 3), (33, .iload 5, 2), (35, .bipush 126, 2), (37, .if_icmp .le 5, 3), (40, .iconst 0, 1), (41, .ireturn, 1), (42, .iinc 4 1, 3), (45, .lload_n 2, 1), (46, .bipush 8, 2), (48, .lushr, 1), (49, .lstore_n 2, 1), (50, .goto (-45), 3), (53, .iload 4, 2), (55, .ireturn, 1)]
def aCode_29 : List (Nat × Instr × Nat) := [(0, .aload_n 0, 1), (1, .getfield 19, 3), (4, .istore_n 1, 1), (5, .aload_n 0, 1), (6, .iconst 0, 1), (7, .putfield 19, 3), (10, .iload_n 1, 1), (11, .ireturn, 1)]
def aCode_30 : List (Nat × Instr × Nat) := [(0, .aload_n 0, 1), (1, .invokevirtual 29, 3), (4, .iconst 0, 1), (5, .istore_n 1, 1), (6, .iload_n 1, 1), (7, .bipush 80, 2), (9, .if_icmp .ge 30, 3), (12, .aload_n 0, 1), (13, .invokevirtual 32, 3), (16, .ifCond .eq 23, 3), (19, .aload_n 0, 1), (20, .getfield 36, 3), (23, .aload_n 0, 1), (24, .getfield 19, 3), (27, .if_icmp .lt 6, 3), (30, .bipush (-6), 2), (32, .ireturn, 1), (33, .iinc 1 1, 3), (36, .goto (-30), 3), (39, .aload_n 0, 1), (40, .getfield 36, 3), (43, .ireturn, 1)]
def aCode_31 : List (Nat × Instr × Nat) := [(0, .aload_n 0, 1), (1, .iconst 0, 1), (2, .putfield 36, 3), (5, .return_, 1)]
def aCode_32 : List (Nat × Instr × Nat) := [(0, .aload_n 0, 1), (1, .getfield 36, 3), (4, .ifCond .eq 12, 3), (7, .aload_n 0, 1), (8, .bipush 59, 2), (10, .invokevirtual 39, 3), (13, .ifCond .eq 14, 3), (16, .aload_n 0, 1), (17, .invokevirtual 43, 3), (20, .ifCond .eq 7, 3), (23, .iconst 1, 1), (24, .goto 4, 3), (27, .iconst 0, 1), (28, .ireturn, 1)]
def aCode_33 : List (Nat × Instr × Nat) := [(0, .aload_n 0, 1), (1, .aload_n 0, 1), (2, .invokevirtual 46, 3), (5, .putfield 50, 3), (8, .aload_n 0, 1), (9, .bipush (-6), 2), (11, .putfield 53, 3), (14, .aload_n 0, 1), (15, .getfield 50, 3), (18, .lookupswitch 228 #[(43, 58), (45, 97), (98, 112), (99, 216), (114, 151), (116, 167)], 58), (76, .aload_n 0, 1), (77, .dup, 1), (78, .getfield 36, 3), (81, .iconst 1, 1), (82, .iadd, 1), (83, .putfield 36, 3), (86, .aload_n 0, 1), (87, .invokevirtual 56, 3), (90, .ifCond .eq 23, 3), (93, .aload_n 0, 1), (94, .bipush 61, 2), (96, .invokevirtual 39, 3), (99, .ifCond .eq 10, 3), (102, .aload_n 0, 1), (103, .invokevirtual 59, 3), (106, .ifCond .eq 7, 3), (109, .iconst 1, 1), (110, .goto 4, 3), (113, .iconst 0, 1), (114, .ireturn, 1), (115, .aload_n 0, 1), (116, .dup, 1), (117, .getfield 36, 3), (120, .iconst 1, 1), (121, .iadd, 1), (122, .putfield 36, 3), (125, .aload_n 0, 1), (126, .invokevirtual 56, 3), (129, .ireturn, 1), (130, .aload_n 0, 1), (131, .dup, 1), (132, .getfield 36, 3), (135, .iconst 1, 1), (136, .iadd, 1), (137, .putfield 36, 3), (140, .aload_n 0, 1), (141, .invokevirtual 56, 3), (144, .ifCond .eq 23, 3), (147, .aload_n 0, 1), (148, .bipush 61, 2), (150, .invokevirtual 39, 3), (153, .ifCond .eq 14, 3), (156, .aload_n 0, 1), (157, .invokevirtual 59, 3), (160, .ifCond .eq 7, 3), (163, .iconst 1, 1), (164, .goto 4, 3), (167, .iconst 0, 1), (168, .ireturn, 1), (169, .aload_n 0, 1), (170, .dup, 1), (171, .getfield 36, 3), (174, .iconst 1, 1), (175, .iadd, 1), (176, .putfield 36, 3), (179, .aload_n 0, 1), (180, .invokevirtual 62, 3), (183, .iconst 1, 1), (184, .ireturn, 1), (185, .aload_n 0, 1), (186, .dup, 1), (187, .getfield 36, 3), (190, .iconst 1, 1), (191, .iadd, 1), (192, .putfield 36, 3), (195, .aload_n 0, 1), (196, .invokevirtual 59, 3), (199, .ifCond .ne 5, 3), (202, .iconst 0, 1), (203, .ireturn, 1), (204, .aload_n 0, 1), (205, .aload_n 0, 1), (206, .getfield 53, 3), (209, .putfield 65, 3), (212, .aload_n 0, 1), (213, .bipush 61, 2), (215, .invokevirtual 39, 3), (218, .ifCond .eq 14, 3), (221, .aload_n 0, 1), (222, .invokevirtual 59, 3), (225, .ifCond .eq 7, 3), (228, .iconst 1, 1), (229, .goto 4, 3), (232, .iconst 0, 1), (233, .ireturn, 1), (234, .aload_n 0, 1), (235, .dup, 1), (236, .getfield 36, 3), (239, .iconst 1, 1), (240, .iadd, 1), (241, .putfield 36, 3), (244, .iconst 1, 1), (245, .ireturn, 1), (246, .iconst 0, 1), (247, .ireturn, 1)]
def aCode_34 : List (Nat × Instr × Nat) := [(0, .aload_n 0, 1), (1, .invokevirtual 68, 3), (4, .istore_n 1, 1), (5, .iload_n 1, 1), (6, .bipush 8, 2), (8, .invokestatic 71, 3), (11, .ifCond .ne 5, 3), (14, .iconst 0, 1), (15, .ireturn, 1), (16, .aload_n 0, 1), (17, .iload_n 1, 1), (18, .putfield 65, 3), (21, .aload_n 0, 1), (22, .dup, 1), (23, .getfield 36, 3), (26, .iconst 1, 1), (27, .iadd, 1), (28, .putfield 36, 3), (31, .iconst 1, 1), (32, .ireturn, 1)]
def aCode_35 : List (Nat × Instr × Nat) := [(0, .aload_n 0, 1), (1, .invokevirtual 68, 3), (4, .istore_n 1, 1), (5, .aload_n 0, 1), (6, .iconst 1, 1), (7, .putfield 65, 3), (10, .iload_n 1, 1), (11, .ifCond .le 18, 3), (14, .aload_n 0, 1), (15, .iload_n 1, 1), (16, .putfield 65, 3), (19, .aload_n 0, 1), (20, .dup, 1), (21, .getfield 36, 3), (24, .iconst 1, 1), (25, .iadd, 1), (26, .putfield 36, 3), (29, .return_, 1)]
def aCode_36 : List (Nat × Instr × Nat) := [(0, .aload_n 0, 1), (1, .invokevirtual 68, 3), (4, .istore_n 1, 1), (5, .iload_n 1, 1), (6, .bipush (-6), 2), (8, .if_icmp .ne 5, 3), (11, .iconst 0, 1), (12, .ireturn, 1), (13, .aload_n 0, 1), (14, .iload_n 1, 1), (15, .putfield 53, 3), (18, .aload_n 0, 1), (19, .dup, 1), (20, .getfield 36, 3), (23, .iconst 1, 1), (24, .iadd, 1), (25, .putfield 36, 3), (28, .iconst 1, 1), (29, .istore_n 2, 1), (30, .iload_n 2, 1), (31, .iconst 4, 1), (32, .if_icmp .ge 51, 3), (35, .aload_n 0, 1), (36, .getfield 53, 3), (39, .ifCond .eq 44, 3), (42, .aload_n 0, 1), (43, .invokevirtual 68, 3), (46, .bipush (-6), 2), (48, .if_icmp .eq 35, 3), (51, .aload_n 0, 1), (52, .aload_n 0, 1), (53, .getfield 53, 3), (56, .bipush 10, 2), (58, .imul, 1), (59, .aload_n 0, 1), (60, .invokevirtual 68, 3), (63, .iadd, 1), (64, .putfield 53, 3), (67, .aload_n 0, 1), (68, .dup, 1), (69, .getfield 36, 3), (72, .iconst 1, 1), (73, .iadd, 1), (74, .putfield 36, 3), (77, .iinc 2 1, 3), (80, .goto (-50), 3), (83, .iconst 1, 1), (84, .ireturn, 1)]
def aCode_37 : List (Nat × Instr × Nat) := [(0, .aload_n 0, 1), (1, .invokevirtual 46, 3), (4, .iload_n 1, 1), (5, .if_icmp .eq 5, 3), (8, .iconst 0, 1), (9, .ireturn, 1), (10, .aload_n 0, 1), (11, .dup, 1), (12, .getfield 36, 3), (15, .iconst 1, 1), (16, .iadd, 1), (17, .putfield 36, 3), (20, .iconst 1, 1), (21, .ireturn, 1)]
def aCode_38 : List (Nat × Instr × Nat) := [(0, .aload_n 0, 1), (1, .invokevirtual 46, 3), (4, .istore_n 1, 1), (5, .iload_n 1, 1), (6, .bipush 48, 2), (8, .if_icmp .lt 16, 3), (11, .iload_n 1, 1), (12, .bipush 57, 2), (14, .if_icmp .gt 10, 3), (17, .iload_n 1, 1), (18, .bipush 48, 2), (20, .isub, 1), (21, .goto 5, 3), (24, .bipush (-6), 2), (26, .ireturn, 1)]
def aCode_39 : List (Nat × Instr × Nat) := [(0, .aload_n 0, 1), (1, .getfield 36, 3), (4, .ifCond .lt 38, 3), (7, .aload_n 0, 1), (8, .getfield 36, 3), (11, .aload_n 0, 1), (12, .getfield 19, 3), (15, .if_icmp .ge 27, 3), (18, .aload_n 0, 1), (19, .getfield 36, 3), (22, .aload_n 0, 1), (23, .getfield 9, 3), (26, .arraylength, 1), (27, .if_icmp .ge 15, 3), (30, .aload_n 0, 1), (31, .getfield 9, 3), (34, .aload_n 0, 1), (35, .getfield 36, 3), (38, .iaload, 1), (39, .goto 4, 3), (42, .iconst 0, 1), (43, .ireturn, 1)]
def aCode_40 : List (Nat × Instr × Nat) := [(0, .aload_n 0, 1), (1, .invokespecial 1, 3), (4, .aload_n 0, 1), (5, .new 7, 3), (8, .dup, 1), (9, .invokespecial 9, 3), (12, .putfield 10, 3), (15, .return_, 1)]
def aCode_41 : List (Nat × Instr × Nat) := [(0, .aload_n 0, 1), (1, .invokespecial 3, 3), (4, .aload_n 0, 1), (5, .bipush 16, 2), (7, .newarray .int, 2), (9, .putfield 9, 3), (12, .aload_n 0, 1), (13, .bipush 8, 2), (15, .newarray .int, 2), (17, .putfield 15, 3), (20, .aload_n 0, 1), (21, .bipush 8, 2), (23, .newarray .int, 2), (25, .putfield 18, 3), (28, .aload_n 0, 1), (29, .bipush 12, 2), (31, .anewarray 21, 3), (34, .putfield 23, 3), (37, .iconst 0, 1), (38, .istore_n 1, 1), (39, .iload_n 1, 1), (40, .aload_n 0, 1), (41, .getfield 9, 3), (44, .arraylength, 1), (45, .if_icmp .ge 32, 3), (48, .aload_n 0, 1), (49, .getfield 9, 3), (52, .iload_n 1, 1), (53, .iload_n 1, 1), (54, .iload_n 1, 1), (55, .imul, 1), (56, .bipush 37, 2), (58, .imul, 1), (59, .iload_n 1, 1), (60, .bipush 113, 2), (62, .imul, 1), (63, .iadd, 1), (64, .iconst 5, 1), (65, .iadd, 1), (66, .sipush 4096, 3), (69, .irem, 1), (70, .iastore, 1), (71, .iinc 1 1, 3), (74, .goto (-35), 3), (77, .iconst 0, 1), (78, .istore_n 1, 1), (79, .iload_n 1, 1), (80, .aload_n 0, 1), (81, .getfield 15, 3), (84, .arraylength, 1), (85, .if_icmp .ge 18, 3), (88, .aload_n 0, 1), (89, .getfield 15, 3), (92, .iload_n 1, 1), (93, .sipush 4095, 3), (96, .iastore, 1), (97, .iinc 1 1, 3), (100, .goto (-21), 3), (103, .iconst 0, 1), (104, .istore_n 1, 1), (105, .iload_n 1, 1), (106, .aload_n 0, 1), (107, .getfield 23, 3), (110, .arraylength, 1), (111, .if_icmp .ge 22, 3), (114, .aload_n 0, 1), (115, .getfield 23, 3), (118, .iload_n 1, 1), (119, .new 21, 3), (122, .dup, 1), (123, .invokespecial 27, 3), (126, .aastore, 1), (127, .iinc 1 1, 3), (130, .goto (-25), 3), (133, .return_, 1)]
def aCode_42 : List (Nat × Instr × Nat) := [(0, .aload_n 1, 1), (1, .getfield 9, 3), (4, .aload_n 0, 1), (5, .getfield 9, 3), (8, .invokestatic 28, 3), (11, .aload_n 1, 1), (12, .getfield 15, 3), (15, .aload_n 0, 1), (16, .getfield 15, 3), (19, .invokestatic 28, 3), (22, .aload_n 1, 1), (23, .getfield 18, 3), (26, .aload_n 0, 1), (27, .getfield 18, 3), (30, .invokestatic 28, 3), (33, .aload_n 0, 1), (34, .aload_n 1, 1), (35, .getfield 32, 3), (38, .putfield 32, 3), (41, .aload_n 0, 1), (42, .aload_n 1, 1), (43, .getfield 36, 3), (46, .putfield 36, 3), (49, .aload_n 0, 1), (50, .aload_n 1, 1), (51, .getfield 39, 3), (54, .putfield 39, 3), (57, .iconst 0, 1), (58, .istore_n 2, 1), (59, .iload_n 2, 1), (60, .aload_n 0, 1), (61, .getfield 39, 3), (64, .if_icmp .ge 37, 3), (67, .aload_n 1, 1), (68, .iload_n 2, 1), (69, .invokevirtual 42, 3), (72, .astore_n 3, 1), (73, .aload_n 0, 1), (74, .iload_n 2, 1), (75, .invokevirtual 42, 3), (78, .astore 4, 2), (80, .aload_n 3, 1), (81, .ifnull 14, 3), (84, .aload 4, 2), (86, .ifnull 9, 3), (89, .aload 4, 2), (91, .aload_n 3, 1), (92, .invokevirtual 46, 3), (95, .iinc 2 1, 3), (98, .goto (-39), 3), (101, .return_, 1)]
def aCode_43 : List (Nat × Instr × Nat) := [(0, .iload_n 1, 1), (1, .ifCond .lt 21, 3), (4, .iload_n 1, 1), (5, .aload_n 0, 1), (6, .getfield 23, 3), (9, .arraylength, 1), (10, .if_icmp .ge 12, 3), (13, .aload_n 0, 1), (14, .getfield 23, 3), (17, .iload_n 1, 1), (18, .aaload, 1), (19, .goto 4, 3), (22, .aconst_null, 1), (23, .areturn, 1)]
def aCode_44 : List (Nat × Instr × Nat) := [(0, .iload_n 1, 1), (1, .aload_n 0, 1), (2, .getfield 39, 3), (5, .if_icmp .ge 11, 3), (8, .aload_n 0, 1), (9, .iload_n 1, 1), (10, .invokevirtual 42, 3), (13, .goto 4, 3), (16, .aconst_null, 1), (17, .areturn, 1)]
def aCode_45 : List (Nat × Instr × Nat) := [(0, .aload_n 0, 1), (1, .getfield 32, 3), (4, .iconst 1, 1), (5, .iload_n 1, 1), (6, .ishl, 1), (7, .iand, 1), (8, .ifCond .eq 7, 3), (11, .iconst 1, 1), (12, .goto 4, 3), (15, .iconst 0, 1), (16, .ireturn, 1)]
def aCode_46 : List (Nat × Instr × Nat) := [(0, .iload_n 1, 1), (1, .bipush 16, 2), (3, .invokestatic 50, 3), (6, .ifCond .ne 5, 3), (9, .iconst (-1), 1), (10, .ireturn, 1), (11, .iload_n 2, 1), (12, .sipush 4096, 3), (15, .invokestatic 50, 3), (18, .ifCond .ne 6, 3), (21, .bipush (-2), 2), (23, .ireturn, 1), (24, .aload_n 0, 1), (25, .getfield 9, 3), (28, .iload_n 1, 1), (29, .invokestatic 54, 3), (32, .istore_n 3, 1), (33, .aload_n 0, 1), (34, .getfield 9, 3), (37, .iload_n 1, 1), (38, .iload_n 2, 1), (39, .invokestatic 58, 3), (42, .iload_n 3, 1), (43, .ireturn, 1)]
def aCode_47 : List (Nat × Instr × Nat) := [(0, .iload_n 1, 1), (1, .bipush 8, 2), (3, .invokestatic 50, 3), (6, .ifCond .ne 5, 3), (9, .iconst (-1), 1), (10, .ireturn, 1), (11, .iload_n 2, 1), (12, .bipush (-6), 2), (14, .if_icmp .eq 16, 3), (17, .iload_n 2, 1), (18, .sipush 4096, 3), (21, .invokestatic 50, 3), (24, .ifCond .ne 6, 3), (27, .bipush (-2), 2), (29, .ireturn, 1), (30, .iload_n 2, 1), (31, .bipush (-6), 2), (33, .if_icmp .eq 12, 3), (36, .aload_n 0, 1), (37, .getfield 15, 3), (40, .iload_n 1, 1), (41, .iload_n 2, 1), (42, .invokestatic 58, 3), (45, .aload_n 0, 1), (46, .dup, 1), (47, .getfield 32, 3), (50, .iconst 1, 1), (51, .iload_n 1, 1), (52, .ishl, 1), (53, .ior, 1), (54, .putfield 32, 3), (57, .aload_n 0, 1), (58, .getfield 32, 3), (61, .invokestatic 62, 3), (64, .ireturn, 1)]
def aCode_48 : List (Nat × Instr × Nat) := [(0, .iload_n 1, 1), (1, .bipush 8, 2), (3, .invokestatic 50, 3), (6, .ifCond .ne 5, 3), (9, .iconst (-1), 1), (10, .ireturn, 1), (11, .aload_n 0, 1), (12, .iload_n 1, 1), (13, .invokevirtual 68, 3), (16, .ifCond .ne 6, 3), (19, .bipush (-5), 2), (21, .ireturn, 1), (22, .aload_n 0, 1), (23, .dup, 1), (24, .getfield 32, 3), (27, .iconst 1, 1), (28, .iload_n 1, 1), (29, .ishl, 1), (30, .iconst (-1), 1), (31, .ixor, 1), (32, .iand, 1), (33, .putfield 32, 3), (36, .aload_n 0, 1), (37, .getfield 32, 3), (40, .invokestatic 62, 3), (43, .ireturn, 1)]
def aCode_49 : List (Nat × Instr × Nat) := [(0, .iload_n 1, 1), (1, .bipush 8, 2), (3, .invokestatic 50, 3), (6, .ifCond .eq 12, 3), (9, .iload_n 2, 1), (10, .bipush 16, 2), (12, .invokestatic 50, 3), (15, .ifCond .ne 5, 3), (18, .iconst (-1), 1), (19, .ireturn, 1), (20, .aload_n 0, 1), (21, .aload_n 0, 1), (22, .getfield 39, 3), (25, .invokevirtual 42, 3), (28, .astore_n 3, 1), (29, .aload_n 3, 1), (30, .ifnonnull 6, 3), (33, .bipush (-4), 2), (35, .ireturn, 1), (36, .aload_n 0, 1), (37, .iload_n 1, 1), (38, .invokevirtual 68, 3), (41, .ifCond .eq 13, 3), (44, .aload_n 0, 1), (45, .iload_n 1, 1), (46, .invokevirtual 72, 3), (49, .bipush (-6), 2), (51, .if_icmp .eq 6, 3), (54, .bipush (-5), 2), (56, .ireturn, 1), (57, .aload_n 3, 1), (58, .iload_n 1, 1), (59, .iload_n 2, 1), (60, .invokevirtual 75, 3), (63, .aload_n 0, 1), (64, .dup, 1), (65, .getfield 39, 3), (68, .iconst 1, 1), (69, .iadd, 1), (70, .putfield 39, 3), (73, .aload_n 0, 1), (74, .getfield 39, 3), (77, .iconst 1, 1), (78, .isub, 1), (79, .ireturn, 1)]
def aCode_50 : List (Nat × Instr × Nat) := [(0, .aload_n 0, 1), (1, .iload_n 1, 1), (2, .invokevirtual 79, 3), (5, .astore_n 3, 1), (6, .aload_n 3, 1), (7, .ifnonnull 5, 3), (10, .iconst (-1), 1), (11, .ireturn, 1), (12, .iload_n 2, 1), (13, .aload_n 3, 1), (14, .invokevirtual 82, 3), (17, .ifCond .eq 9, 3), (20, .sipush 4096, 3), (23, .goto 5, 3), (26, .bipush 16, 2), (28, .invokestatic 50, 3), (31, .ifCond .ne 6, 3), (34, .bipush (-2), 2), (36, .ireturn, 1), (37, .aload_n 3, 1), (38, .invokevirtual 86, 3), (41, .ifCond .ne 6, 3), (44, .bipush (-5), 2), (46, .ireturn, 1), (47, .aload_n 3, 1), (48, .getfield 89, 3), (51, .bipush (-6), 2), (53, .if_icmp .ne 7, 3), (56, .iconst 0, 1), (57, .goto 4, 3), (60, .iconst 1, 1), (61, .istore 4, 2), (63, .aload_n 3, 1), (64, .iload_n 2, 1), (65, .putfield 89, 3), (68, .iload 4, 2), (70, .ireturn, 1)]
def aCode_51 : List (Nat × Instr × Nat) := [(0, .iconst 0, 1), (1, .istore_n 1, 1), (2, .iload_n 1, 1), (3, .aload_n 0, 1), (4, .getfield 39, 3), (7, .if_icmp .ge 35, 3), (10, .aload_n 0, 1), (11, .iload_n 1, 1), (12, .invokevirtual 79, 3), (15, .astore_n 2, 1), (16, .aload_n 2, 1), (17, .ifnull 19, 3), (20, .aload_n 2, 1), (21, .invokevirtual 86, 3), (24, .ifCond .eq 12, 3), (27, .aload_n 0, 1), (28, .aload_n 2, 1), (29, .aload_n 0, 1), (30, .getfield 18, 3), (33, .invokevirtual 92, 3), (36, .iinc 1 1, 3), (39, .goto (-37), 3), (42, .aload_n 0, 1), (43, .dup, 1), (44, .getfield 36, 3), (47, .iconst 1, 1), (48, .iadd, 1), (49, .putfield 36, 3), (52, .aload_n 0, 1), (53, .iconst 0, 1), (54, .invokevirtual 96, 3), (57, .ireturn, 1)]
def aCode_52 : List (Nat × Instr × Nat) := [(0, .iconst 0, 1), (1, .istore_n 1, 1), (2, .iconst 0, 1), (3, .istore_n 2, 1), (4, .iload_n 2, 1), (5, .aload_n 0, 1), (6, .getfield 39, 3), (9, .if_icmp .ge 47, 3), (12, .aload_n 0, 1), (13, .iload_n 2, 1), (14, .invokevirtual 42, 3), (17, .astore_n 3, 1), (18, .aload_n 0, 1), (19, .iload_n 1, 1), (20, .invokevirtual 42, 3), (23, .astore 4, 2), (25, .aload_n 3, 1), (26, .ifnull 24, 3), (29, .aload 4, 2), (31, .ifnull 19, 3), (34, .aload_n 3, 1), (35, .invokevirtual 86, 3), (38, .ifCond .eq 12, 3), (41, .aload 4, 2), (43, .aload_n 3, 1), (44, .invokevirtual 46, 3), (47, .iinc 1 1, 3), (50, .iinc 2 1, 3), (53, .goto (-49), 3), (56, .aload_n 0, 1), (57, .getfield 39, 3), (60, .iload_n 1, 1), (61, .isub, 1), (62, .istore_n 2, 1), (63, .aload_n 0, 1), (64, .iload_n 1, 1), (65, .putfield 39, 3), (68, .iload_n 2, 1), (69, .ireturn, 1)]
def aCode_53 : List (Nat × Instr × Nat) := [(0, .aload_n 0, 1), (1, .aload_n 1, 1), (2, .invokevirtual 99, 3), (5, .istore_n 3, 1), (6, .iload_n 3, 1), (7, .bipush (-6), 2), (9, .if_icmp .ne 10, 3), (12, .aload_n 0, 1), (13, .aload_n 1, 1), (14, .aload_n 2, 1), (15, .invokevirtual 103, 3), (18, .return_, 1), (19, .aload_n 1, 1), (20, .getfield 89, 3), (23, .bipush (-6), 2), (25, .if_icmp .eq 11, 3), (28, .aload_n 1, 1), (29, .iload_n 3, 1), (30, .invokevirtual 106, 3), (33, .goto 14, 3), (36, .aload_n 1, 1), (37, .iload_n 3, 1), (38, .aload_n 0, 1), (39, .iload_n 3, 1), (40, .aload_n 1, 1), (41, .invokevirtual 110, 3), (44, .invokevirtual 114, 3), (47, .aload_n 1, 1), (48, .invokevirtual 117, 3), (51, .ifCond .eq 24, 3), (54, .aload_n 2, 1), (55, .aload_n 1, 1), (56, .aload_n 1, 1), (57, .getfield 120, 3), (60, .iconst 2, 1), (61, .isub, 1), (62, .invokevirtual 123, 3), (65, .iconst 1, 1), (66, .invokestatic 126, 3), (69, .aload_n 2, 1), (70, .iload_n 3, 1), (71, .iconst 1, 1), (72, .invokestatic 126, 3), (75, .return_, 1)]
def aCode_54 : List (Nat × Instr × Nat) := [(0, .aload_n 0, 1), (1, .getfield 32, 3), (4, .aload_n 1, 1), (5, .invokevirtual 129, 3), (8, .iconst (-1), 1), (9, .ixor, 1), (10, .iand, 1), (11, .istore_n 2, 1), (12, .aload_n 1, 1), (13, .invokevirtual 133, 3), (16, .istore_n 3, 1), (17, .iconst 0, 1), (18, .istore 4, 2), (20, .iload 4, 2), (22, .bipush 8, 2), (24, .if_icmp .ge 35, 3), (27, .iload_n 3, 1), (28, .iconst 1, 1), (29, .iadd, 1), (30, .bipush 8, 2), (32, .if_icmp .ge 9, 3), (35, .iload_n 3, 1), (36, .iconst 1, 1), (37, .iadd, 1), (38, .goto 4, 3), (41, .iconst 0, 1), (42, .istore_n 3, 1), (43, .iload_n 2, 1), (44, .iconst 1, 1), (45, .iload_n 3, 1), (46, .ishl, 1), (47, .iand, 1), (48, .ifCond .eq 5, 3), (51, .iload_n 3, 1), (52, .ireturn, 1), (53, .iinc 4 1, 3), (56, .goto (-36), 3), (59, .bipush (-6), 2), (61, .ireturn, 1)]
def aCode_55 : List (Nat × Instr × Nat) := [(0, .aload_n 0, 1), (1, .aload_n 1, 1), (2, .getfield 136, 3), (5, .invokevirtual 68, 3), (8, .ifCond .ne 9, 3), (11, .aload_n 1, 1), (12, .iconst 2, 1), (13, .putfield 139, 3), (16, .return_, 1), (17, .aload_n 1, 1), (18, .iconst 1, 1), (19, .putfield 139, 3), (22, .aload_n 1, 1), (23, .getfield 120, 3), (26, .iconst 3, 1), (27, .if_icmp .lt 23, 3), (30, .aload_n 1, 1), (31, .invokevirtual 142, 3), (34, .aload_n 1, 1), (35, .invokevirtual 145, 3), (38, .if_icmp .ne 12, 3), (41, .aload_n 2, 1), (42, .aload_n 1, 1), (43, .getfield 136, 3), (46, .iconst 2, 1), (47, .invokestatic 126, 3), (50, .return_, 1)]
def aCode_56 : List (Nat × Instr × Nat) := [(0, .aload_n 2, 1), (1, .aload_n 2, 1), (2, .getfield 120, 3), (5, .iconst 1, 1), (6, .isub, 1), (7, .invokevirtual 148, 3), (10, .istore_n 3, 1), (11, .aload_n 2, 1), (12, .invokevirtual 82, 3), (15, .ifCond .eq 23, 3), (18, .aload_n 0, 1), (19, .getfield 9, 3), (22, .iload_n 3, 1), (23, .invokestatic 54, 3), (26, .aload_n 0, 1), (27, .getfield 15, 3), (30, .iload_n 1, 1), (31, .invokestatic 54, 3), (34, .iand, 1), (35, .goto 8, 3), (38, .aload_n 0, 1), (39, .iload_n 3, 1), (40, .invokevirtual 151, 3), (43, .ireturn, 1)]
def aCode_57 : List (Nat × Instr × Nat) := [(0, .iconst 0, 1), (1, .istore_n 2, 1), (2, .bipush 13, 2), (4, .istore_n 3, 1), (5, .iconst 0, 1), (6, .istore 4, 2), (8, .iload 4, 2), (10, .aload_n 0, 1), (11, .getfield 9, 3), (14, .arraylength, 1), (15, .if_icmp .ge 35, 3), (18, .aload_n 0, 1), (19, .getfield 9, 3), (22, .iload 4, 2), (24, .iaload, 1), (25, .iload_n 1, 1), (26, .ixor, 1), (27, .invokestatic 62, 3), (30, .istore 5, 2), (32, .iload 5, 2), (34, .iload_n 3, 1), (35, .if_icmp .ge 9, 3), (38, .iload 4, 2), (40, .istore_n 2, 1), (41, .iload 5, 2), (43, .istore_n 3, 1), (44, .iinc 4 1, 3), (47, .goto (-39), 3), (50, .iload_n 2, 1), (51, .ireturn, 1)]
def aCode_58 : List (Nat × Instr × Nat) := [(0, .aload_n 0, 1), (1, .getfield 9, 3), (4, .iload_n 1, 1), (5, .invokestatic 54, 3), (8, .aload_n 0, 1), (9, .getfield 9, 3), (12, .iload_n 2, 1), (13, .invokestatic 54, 3), (16, .ixor, 1), (17, .invokestatic 62, 3), (20, .ireturn, 1)]
def aCode_59 : List (Nat × Instr × Nat) := [(0, .iconst 0, 1), (1, .istore_n 2, 1), (2, .iload_n 2, 1), (3, .aload_n 0, 1), (4, .getfield 39, 3), (7, .if_icmp .ge 36, 3), (10, .aload_n 0, 1), (11, .iload_n 2, 1), (12, .invokevirtual 79, 3), (15, .astore_n 3, 1), (16, .aload_n 3, 1), (17, .ifnull 20, 3), (20, .aload_n 3, 1), (21, .getfield 136, 3), (24, .iload_n 1, 1), (25, .if_icmp .ne 12, 3), (28, .aload_n 3, 1), (29, .invokevirtual 86, 3), (32, .ifCond .eq 5, 3), (35, .iload_n 2, 1), (36, .ireturn, 1), (37, .iinc 2 1, 3), (40, .goto (-38), 3), (43, .bipush (-6), 2), (45, .ireturn, 1)]
def aCode_60 : List (Nat × Instr × Nat) := [(0, .iconst 0, 1), (1, .istore_n 2, 1), (2, .iconst 0, 1), (3, .istore_n 3, 1), (4, .iload_n 3, 1), (5, .aload_n 0, 1), (6, .getfield 39, 3), (9, .if_icmp .ge 33, 3), (12, .aload_n 0, 1), (13, .iload_n 3, 1), (14, .invokevirtual 79, 3), (17, .astore 4, 2), (19, .aload 4, 2), (21, .ifnull 15, 3), (24, .aload 4, 2), (26, .getfield 139, 3), (29, .iload_n 1, 1), (30, .if_icmp .ne 6, 3), (33, .iinc 2 1, 3), (36, .iinc 3 1, 3), (39, .goto (-35), 3), (42, .iload_n 2, 1), (43, .ireturn, 1)]
def aCode_61 : List (Nat × Instr × Nat) := [(0, .iconst 0, 1), (1, .istore_n 2, 1), (2, .iconst 0, 1), (3, .istore_n 3, 1), (4, .iload_n 3, 1), (5, .aload_n 0, 1), (6, .getfield 39, 3), (9, .if_icmp .ge 36, 3), (12, .aload_n 0, 1), (13, .iload_n 3, 1), (14, .invokevirtual 79, 3), (17, .astore 4, 2), (19, .aload 4, 2), (21, .ifnull 18, 3), (24, .aload 4, 2), (26, .invokevirtual 129, 3), (29, .iconst 1, 1), (30, .iload_n 1, 1), (31, .ishl, 1), (32, .iand, 1), (33, .ifCond .eq 6, 3), (36, .iinc 2 1, 3), (39, .iinc 3 1, 3), (42, .goto (-38), 3), (45, .iload_n 2, 1), (46, .ireturn, 1)]
def aCode_62 : List (Nat × Instr × Nat) := [(0, .iconst 0, 1), (1, .istore_n 1, 1), (2, .iconst 0, 1), (3, .istore_n 2, 1), (4, .iload_n 2, 1), (5, .aload_n 0, 1), (6, .getfield 18, 3), (9, .arraylength, 1), (10, .if_icmp .ge 18, 3), (13, .iload_n 1, 1), (14, .aload_n 0, 1), (15, .getfield 18, 3), (18, .iload_n 2, 1), (19, .iaload, 1), (20, .iadd, 1), (21, .istore_n 1, 1), (22, .iinc 2 1, 3), (25, .goto (-21), 3), (28, .iload_n 1, 1), (29, .ireturn, 1)]
def aCode_63 : List (Nat × Instr × Nat) := [(0, .aload_n 0, 1), (1, .invokespecial 3, 3), (4, .aload_n 0, 1), (5, .new 9, 3), (8, .dup, 1), (9, .invokespecial 11, 3), (12, .putfield 12, 3), (15, .aload_n 0, 1), (16, .new 16, 3), (19, .dup, 1), (20, .invokespecial 18, 3), (23, .putfield 19, 3), (26, .aload_n 0, 1), (27, .new 23, 3), (30, .dup, 1), (31, .invokespecial 25, 3), (34, .putfield 26, 3), (37, .aload_n 0, 1), (38, .iconst 2, 1), (39, .anewarray 30, 3), (42, .putfield 32, 3), (45, .aload_n 0, 1), (46, .new 36, 3), (49, .dup, 1), (50, .invokespecial 38, 3), (53, .putfield 39, 3), (56, .iconst 0, 1), (57, .istore_n 1, 1), (58, .iload_n 1, 1), (59, .aload_n 0, 1), (60, .getfield 32, 3), (63, .arraylength, 1), (64, .if_icmp .ge 22, 3), (67, .aload_n 0, 1), (68, .getfield 32, 3), (71, .iload_n 1, 1), (72, .new 30, 3), (75, .dup, 1), (76, .invokespecial 43, 3), (79, .aastore, 1), (80, .iinc 1 1, 3), (83, .goto (-25), 3), (86, .return_, 1)]
def aCode_64 : List (Nat × Instr × Nat) := [(0, .aload_n 0, 1), (1, .getfield 26, 3), (4, .aload_n 0, 1), (5, .getfield 12, 3), (8, .invokevirtual 44, 3), (11, .aload_n 0, 1), (12, .getfield 26, 3), (15, .aload_n 0, 1), (16, .getfield 12, 3), (19, .iload_n 1, 1), (20, .iload_n 2, 1), (21, .invokevirtual 48, 3), (24, .invokevirtual 52, 3), (27, .ireturn, 1)]
def aCode_65 : List (Nat × Instr × Nat) := [(0, .aload_n 0, 1), (1, .getfield 26, 3), (4, .aload_n 0, 1), (5, .getfield 12, 3), (8, .invokevirtual 44, 3), (11, .aload_n 0, 1), (12, .getfield 26, 3), (15, .aload_n 0, 1), (16, .getfield 12, 3), (19, .iload_n 1, 1), (20, .iload_n 2, 1), (21, .invokevirtual 56, 3), (24, .invokevirtual 52, 3), (27, .ireturn, 1)]
def aCode_66 : List (Nat × Instr × Nat) := [(0, .aload_n 0, 1), (1, .getfield 26, 3), (4, .aload_n 0, 1), (5, .getfield 12, 3), (8, .invokevirtual 44, 3), (11, .aload_n 0, 1), (12, .getfield 26, 3), (15, .aload_n 0, 1), (16, .getfield 12, 3), (19, .iload_n 1, 1), (20, .invokevirtual 59, 3), (23, .invokevirtual 52, 3), (26, .ireturn, 1)]
def aCode_67 : List (Nat × Instr × Nat) := [(0, .aload_n 0, 1), (1, .getfield 26, 3), (4, .aload_n 0, 1), (5, .getfield 12, 3), (8, .invokevirtual 44, 3), (11, .aload_n 0, 1), (12, .getfield 26, 3), (15, .aload_n 0, 1), (16, .getfield 12, 3), (19, .iload_n 1, 1), (20, .iload_n 2, 1), (21, .invokevirtual 62, 3), (24, .invokevirtual 52, 3), (27, .ireturn, 1)]
def aCode_68 : List (Nat × Instr × Nat) := [(0, .aload_n 0, 1), (1, .getfield 26, 3), (4, .aload_n 0, 1), (5, .getfield 12, 3), (8, .invokevirtual 44, 3), (11, .aload_n 0, 1), (12, .getfield 26, 3), (15, .aload_n 0, 1), (16, .getfield 12, 3), (19, .iload_n 1, 1), (20, .iload_n 2, 1), (21, .invokevirtual 65, 3), (24, .invokevirtual 52, 3), (27, .ireturn, 1)]
def aCode_69 : List (Nat × Instr × Nat) := [(0, .aload_n 0, 1), (1, .getfield 26, 3), (4, .aload_n 0, 1), (5, .getfield 12, 3), (8, .invokevirtual 44, 3), (11, .aload_n 0, 1), (12, .getfield 26, 3), (15, .aload_n 0, 1), (16, .getfield 12, 3), (19, .invokevirtual 68, 3), (22, .invokevirtual 52, 3), (25, .ireturn, 1)]
def aCode_70 : List (Nat × Instr × Nat) := [(0, .aload_n 0, 1), (1, .getfield 26, 3), (4, .aload_n 0, 1), (5, .getfield 12, 3), (8, .invokevirtual 44, 3), (11, .aload_n 0, 1), (12, .getfield 26, 3), (15, .aload_n 0, 1), (16, .getfield 12, 3), (19, .invokevirtual 72, 3), (22, .invokevirtual 52, 3), (25, .ireturn, 1)]
def aCode_71 : List (Nat × Instr × Nat) := [(0, .aload_n 0, 1), (1, .getfield 12, 3), (4, .iload_n 1, 1), (5, .invokevirtual 75, 3), (8, .astore_n 3, 1), (9, .aload_n 3, 1), (10, .ifnonnull 5, 3), (13, .iconst (-1), 1), (14, .ireturn, 1), (15, .iload_n 2, 1), (16, .tableswitch 108 0 8 #[52, 57, 62, 67, 72, 77, 82, 87, 92], 52), (68, .aload_n 3, 1), (69, .getfield 79, 3), (72, .ireturn, 1), (73, .aload_n 3, 1), (74, .getfield 85, 3), (77, .ireturn, 1), (78, .aload_n 3, 1), (79, .invokevirtual 88, 3), (82, .ireturn, 1), (83, .aload_n 3, 1), (84, .getfield 91, 3), (87, .ireturn, 1), (88, .aload_n 3, 1), (89, .invokevirtual 94, 3), (92, .ireturn, 1), (93, .aload_n 3, 1), (94, .invokevirtual 97, 3), (97, .ireturn, 1), (98, .aload_n 3, 1), (99, .getfield 100, 3), (102, .ireturn, 1), (103, .aload_n 3, 1), (104, .invokevirtual 103, 3), (107, .ireturn, 1), (108, .aload_n 0, 1), (109, .getfield 12, 3), (112, .aload_n 3, 1), (113, .invokevirtual 106, 3), (116, .aload_n 3, 1), (117, .invokevirtual 94, 3), (120, .invokevirtual 109, 3), (123, .ireturn, 1), (124, .bipush (-2), 2), (126, .ireturn, 1)]
def aCode_72 : List (Nat × Instr × Nat) := [(0, .aload_n 0, 1), (1, .getfield 12, 3), (4, .iload_n 1, 1), (5, .invokevirtual 75, 3), (8, .astore 4, 2), (10, .aload 4, 2), (12, .ifnull 15, 3), (15, .iload_n 2, 1), (16, .aload 4, 2), (18, .getfield 85, 3), (21, .invokestatic 112, 3), (24, .ifCond .ne 5, 3), (27, .iconst (-1), 1), (28, .ireturn, 1), (29, .iload_n 3, 1), (30, .tableswitch 55 0 2 #[26, 33, 40], 26), (56, .aload 4, 2), (58, .iload_n 2, 1), (59, .invokevirtual 116, 3), (62, .ireturn, 1), (63, .aload 4, 2), (65, .iload_n 2, 1), (66, .invokevirtual 119, 3), (69, .ireturn, 1), (70, .aload 4, 2), (72, .iload_n 2, 1), (73, .invokevirtual 122, 3), (76, .ifCond .eq 7, 3), (79, .iconst 1, 1), (80, .goto 4, 3), (83, .iconst 0, 1), (84, .ireturn, 1), (85, .bipush (-2), 2), (87, .ireturn, 1)]
def aCode_73 : List (Nat × Instr × Nat) := [(0, .iload_n 1, 1), (1, .bipush 8, 2), (3, .invokestatic 112, 3), (6, .ifCond .ne 5, 3), (9, .iconst (-1), 1), (10, .ireturn, 1), (11, .iload_n 2, 1), (12, .tableswitch 95 0 4 #[36, 53, 65, 77, 86], 36), (48, .aload_n 0, 1), (49, .getfield 12, 3), (52, .iload_n 1, 1), (53, .invokevirtual 126, 3), (56, .ifCond .eq 7, 3), (59, .iconst 1, 1), (60, .goto 4, 3), (63, .iconst 0, 1), (64, .ireturn, 1), (65, .aload_n 0, 1), (66, .getfield 12, 3), (69, .getfield 129, 3), (72, .iload_n 1, 1), (73, .invokestatic 133, 3), (76, .ireturn, 1), (77, .aload_n 0, 1), (78, .getfield 12, 3), (81, .getfield 137, 3), (84, .iload_n 1, 1), (85, .invokestatic 133, 3), (88, .ireturn, 1), (89, .aload_n 0, 1), (90, .getfield 12, 3), (93, .iload_n 1, 1), (94, .invokevirtual 140, 3), (97, .ireturn, 1), (98, .aload_n 0, 1), (99, .getfield 12, 3), (102, .iload_n 1, 1), (103, .invokevirtual 143, 3), (106, .ireturn, 1), (107, .bipush (-2), 2), (109, .ireturn, 1)]
def aCode_74 : List (Nat × Instr × Nat) := [(0, .iload_n 1, 1), (1, .bipush 16, 2), (3, .invokestatic 112, 3), (6, .ifCond .eq 17, 3), (9, .aload_n 0, 1), (10, .getfield 12, 3), (13, .getfield 146, 3), (16, .iload_n 1, 1), (17, .invokestatic 133, 3), (20, .goto 4, 3), (23, .iconst (-1), 1), (24, .ireturn, 1)]
def aCode_75 : List (Nat × Instr × Nat) := [(0, .iload_n 1, 1), (1, .tableswitch 126 0 8 #[51, 59, 67, 76, 85, 94, 102, 110, 118], 51), (52, .aload_n 0, 1), (53, .getfield 12, 3), (56, .getfield 149, 3), (59, .ireturn, 1), (60, .aload_n 0, 1), (61, .getfield 12, 3), (64, .getfield 152, 3), (67, .ireturn, 1), (68, .aload_n 0, 1), (69, .getfield 12, 3), (72, .iconst 0, 1), (73, .invokevirtual 155, 3), (76, .ireturn, 1), (77, .aload_n 0, 1), (78, .getfield 12, 3), (81, .iconst 1, 1), (82, .invokevirtual 155, 3), (85, .ireturn, 1), (86, .aload_n 0, 1), (87, .getfield 12, 3), (90, .iconst 2, 1), (91, .invokevirtual 155, 3), (94, .ireturn, 1), (95, .aload_n 0, 1), (96, .getfield 12, 3), (99, .getfield 158, 3), (102, .ireturn, 1), (103, .aload_n 0, 1), (104, .getfield 12, 3), (107, .invokevirtual 161, 3), (110, .ireturn, 1), (111, .aload_n 0, 1), (112, .getfield 39, 3), (115, .getfield 164, 3), (118, .ireturn, 1), (119, .aload_n 0, 1), (120, .getfield 26, 3), (123, .getfield 167, 3), (126, .ireturn, 1), (127, .bipush (-2), 2), (129, .ireturn, 1)]
def aCode_76 : List (Nat × Instr × Nat) := [(0, .iload_n 1, 1), (1, .sipush 4096, 3), (4, .invokestatic 112, 3), (7, .ifCond .eq 14, 3), (10, .aload_n 0, 1), (11, .getfield 12, 3), (14, .iload_n 1, 1), (15, .invokevirtual 168, 3), (18, .goto 5, 3), (21, .bipush (-2), 2), (23, .ireturn, 1)]
def aCode_77 : List (Nat × Instr × Nat) := [(0, .aload_n 0, 1), (1, .getfield 12, 3), (4, .iload_n 1, 1), (5, .invokevirtual 75, 3), (8, .astore_n 3, 1), (9, .aload_n 3, 1), (10, .ifnonnull 5, 3), (13, .iconst (-1), 1), (14, .ireturn, 1), (15, .iload_n 2, 1), (16, .iconst 4, 1), (17, .invokestatic 112, 3), (20, .ifCond .ne 6, 3), (23, .bipush (-2), 2), (25, .ireturn, 1), (26, .aload_n 0, 1), (27, .getfield 19, 3), (30, .aload_n 0, 1), (31, .getfield 12, 3), (34, .aload_n 3, 1), (35, .invokevirtual 171, 3), (38, .iload_n 2, 1), (39, .tableswitch 55 0 2 #[25, 36, 47], 25), (64, .aload_n 0, 1), (65, .getfield 19, 3), (68, .getfield 175, 3), (71, .invokevirtual 94, 3), (74, .ireturn, 1), (75, .aload_n 0, 1), (76, .getfield 19, 3), (79, .getfield 175, 3), (82, .getfield 85, 3), (85, .ireturn, 1), (86, .aload_n 0, 1), (87, .getfield 19, 3), (90, .getfield 179, 3), (93, .ireturn, 1), (94, .aload_n 0, 1), (95, .getfield 19, 3), (98, .getfield 175, 3), (101, .getfield 91, 3), (104, .ireturn, 1)]
def aCode_78 : List (Nat × Instr × Nat) := [(0, .iload_n 1, 1), (1, .bipush 8, 2), (3, .invokestatic 112, 3), (6, .ifCond .ne 5, 3), (9, .iconst (-1), 1), (10, .ireturn, 1), (11, .iload_n 2, 1), (12, .ifCond .eq 11, 3), (15, .iload_n 2, 1), (16, .iconst 1, 1), (17, .if_icmp .eq 6, 3), (20, .bipush (-2), 2), (22, .ireturn, 1), (23, .aload_n 0, 1), (24, .getfield 12, 3), (27, .iload_n 1, 1), (28, .invokevirtual 126, 3), (31, .ifCond .ne 6, 3), (34, .bipush (-5), 2), (36, .ireturn, 1), (37, .iconst 0, 1), (38, .istore_n 3, 1), (39, .bipush 13, 2), (41, .istore 4, 2), (43, .iconst 0, 1), (44, .istore 5, 2), (46, .iload 5, 2), (48, .bipush 16, 2), (50, .if_icmp .ge 39, 3), (53, .aload_n 0, 1), (54, .getfield 19, 3), (57, .aload_n 0, 1), (58, .getfield 12, 3), (61, .iload_n 1, 1), (62, .iload 5, 2), (64, .invokevirtual 180, 3), (67, .istore 6, 2), (69, .iload 6, 2), (71, .iload 4, 2), (73, .if_icmp .ge 10, 3), (76, .iload 5, 2), (78, .istore_n 3, 1), (79, .iload 6, 2), (81, .istore 4, 2), (83, .iinc 5 1, 3), (86, .goto (-40), 3), (89, .iload_n 2, 1), (90, .ifCond .ne 7, 3), (93, .iload_n 3, 1), (94, .goto 5, 3), (97, .iload 4, 2), (99, .ireturn, 1)]
def aCode_79 : List (Nat × Instr × Nat) := [(0, .iload_n 1, 1), (1, .bipush 8, 2), (3, .invokestatic 112, 3), (6, .ifCond .ne 5, 3), (9, .iconst (-1), 1), (10, .ireturn, 1), (11, .aload_n 0, 1), (12, .getfield 19, 3), (15, .aload_n 0, 1), (16, .getfield 12, 3), (19, .invokevirtual 184, 3), (22, .aload_n 0, 1), (23, .getfield 19, 3), (26, .getfield 187, 3), (29, .iload_n 1, 1), (30, .invokestatic 133, 3), (33, .ireturn, 1)]
def aCode_80 : List (Nat × Instr × Nat) := [(0, .aload_n 0, 1), (1, .getfield 39, 3), (4, .lload_n 1, 1), (5, .invokevirtual 188, 3), (8, .ireturn, 1)]
def aCode_81 : List (Nat × Instr × Nat) := [(0, .aload_n 0, 1), (1, .getfield 39, 3), (4, .invokevirtual 192, 3), (7, .ireturn, 1)]
def aCode_82 : List (Nat × Instr × Nat) := [(0, .aload_n 0, 1), (1, .getfield 39, 3), (4, .invokevirtual 195, 3), (7, .ireturn, 1)]
def aCode_83 : List (Nat × Instr × Nat) := [(0, .aload_n 0, 1), (1, .getfield 39, 3), (4, .invokevirtual 195, 3), (7, .bipush (-6), 2), (9, .if_icmp .eq 6, 3), (12, .bipush (-3), 2), (14, .ireturn, 1), (15, .aload_n 0, 1), (16, .getfield 26, 3), (19, .aload_n 0, 1), (20, .getfield 12, 3), (23, .invokevirtual 44, 3), (26, .aload_n 0, 1), (27, .getfield 39, 3), (30, .invokevirtual 198, 3), (33, .iconst 0, 1), (34, .istore_n 1, 1), (35, .iload_n 1, 1), (36, .bipush 80, 2), (38, .if_icmp .ge 26, 3), (41, .aload_n 0, 1), (42, .getfield 39, 3), (45, .invokevirtual 201, 3), (48, .ifCond .eq 16, 3), (51, .aload_n 0, 1), (52, .invokevirtual 205, 3), (55, .ifCond .lt 9, 3), (58, .iinc 1 1, 3), (61, .goto (-26), 3), (64, .aload_n 0, 1), (65, .getfield 39, 3), (68, .invokevirtual 192, 3), (71, .pop, 1), (72, .aload_n 0, 1), (73, .getfield 26, 3), (76, .iload_n 1, 1), (77, .invokevirtual 52, 3), (80, .ireturn, 1)]
def aCode_84 : List (Nat × Instr × Nat) := [(0, .aload_n 0, 1), (1, .getfield 26, 3), (4, .aload_n 0, 1), (5, .getfield 12, 3), (8, .invokevirtual 208, 3), (11, .ireturn, 1)]
def aCode_85 : List (Nat × Instr × Nat) := [(0, .aload_n 0, 1), (1, .iload_n 1, 1), (2, .invokevirtual 212, 3), (5, .astore_n 2, 1), (6, .aload_n 2, 1), (7, .ifnonnull 6, 3), (10, .bipush (-2), 2), (12, .ireturn, 1), (13, .aload_n 2, 1), (14, .getfield 216, 3), (17, .aload_n 0, 1), (18, .getfield 12, 3), (21, .invokevirtual 218, 3), (24, .aload_n 2, 1), (25, .iconst 1, 1), (26, .putfield 221, 3), (29, .aload_n 0, 1), (30, .getfield 12, 3), (33, .getfield 152, 3), (36, .ireturn, 1)]
def aCode_86 : List (Nat × Instr × Nat) := [(0, .aload_n 0, 1), (1, .iload_n 1, 1), (2, .invokevirtual 212, 3), (5, .astore_n 2, 1), (6, .aload_n 2, 1), (7, .ifnonnull 6, 3), (10, .bipush (-2), 2), (12, .ireturn, 1), (13, .aload_n 2, 1), (14, .getfield 221, 3), (17, .ifCond .ne 6, 3), (20, .bipush (-5), 2), (22, .ireturn, 1), (23, .aload_n 0, 1), (24, .getfield 26, 3), (27, .aload_n 0, 1), (28, .getfield 12, 3), (31, .invokevirtual 44, 3), (34, .aload_n 0, 1), (35, .getfield 12, 3), (38, .aload_n 2, 1), (39, .getfield 216, 3), (42, .invokevirtual 218, 3), (45, .aload_n 0, 1), (46, .getfield 26, 3), (49, .aload_n 0, 1), (50, .getfield 12, 3), (53, .getfield 152, 3), (56, .invokevirtual 52, 3), (59, .ireturn, 1)]
def aCode_87 : List (Nat × Instr × Nat) := [(0, .aload_n 0, 1), (1, .getfield 39, 3), (4, .getfield 225, 3), (7, .lookupswitch 165 #[(43, 49), (45, 71), (98, 86), (114, 130), (116, 108)], 49), (56, .aload_n 0, 1), (57, .getfield 12, 3), (60, .aload_n 0, 1), (61, .getfield 39, 3), (64, .getfield 228, 3), (67, .aload_n 0, 1), (68, .getfield 39, 3), (71, .getfield 231, 3), (74, .invokevirtual 56, 3), (77, .ireturn, 1), (78, .aload_n 0, 1), (79, .getfield 12, 3), (82, .aload_n 0, 1), (83, .getfield 39, 3), (86, .getfield 228, 3), (89, .invokevirtual 59, 3), (92, .ireturn, 1), (93, .aload_n 0, 1), (94, .getfield 12, 3), (97, .aload_n 0, 1), (98, .getfield 39, 3), (101, .getfield 228, 3), (104, .aload_n 0, 1), (105, .getfield 39, 3), (108, .getfield 231, 3), (111, .invokevirtual 62, 3), (114, .ireturn, 1), (115, .aload_n 0, 1), (116, .getfield 12, 3), (119, .aload_n 0, 1), (120, .getfield 39, 3), (123, .getfield 228, 3), (126, .aload_n 0, 1), (127, .getfield 39, 3), (130, .getfield 231, 3), (133, .invokevirtual 65, 3), (136, .ireturn, 1), (137, .iconst 0, 1), (138, .istore_n 1, 1), (139, .iload_n 1, 1), (140, .aload_n 0, 1), (141, .getfield 39, 3), (144, .getfield 228, 3), (147, .if_icmp .ge 23, 3), (150, .iload_n 1, 1), (151, .bipush 9, 2), (153, .if_icmp .ge 17, 3), (156, .aload_n 0, 1), (157, .getfield 12, 3), (160, .invokevirtual 68, 3), (163, .pop, 1), (164, .iinc 1 1, 3), (167, .goto (-28), 3), (170, .iconst 0, 1), (171, .ireturn, 1), (172, .aload_n 0, 1), (173, .getfield 12, 3), (176, .invokevirtual 72, 3), (179, .ireturn, 1)]
def aCode_88 : List (Nat × Instr × Nat) := [(0, .iload_n 1, 1), (1, .ifCond .lt 21, 3), (4, .iload_n 1, 1), (5, .aload_n 0, 1), (6, .getfield 32, 3), (9, .arraylength, 1), (10, .if_icmp .ge 12, 3), (13, .aload_n 0, 1), (14, .getfield 32, 3), (17, .iload_n 1, 1), (18, .aaload, 1), (19, .goto 4, 3), (22, .aconst_null, 1), (23, .areturn, 1)]
def aCode_89 : List (Nat × Instr × Nat) := [(0, .iload_n 0, 1), (1, .ifCond .lt 12, 3), (4, .iload_n 0, 1), (5, .iload_n 1, 1), (6, .if_icmp .ge 7, 3), (9, .iconst 1, 1), (10, .goto 4, 3), (13, .iconst 0, 1), (14, .ireturn, 1)]
def aCode_90 : List (Nat × Instr × Nat) := [(0, .iload_n 1, 1), (1, .ifCond .lt 15, 3), (4, .iload_n 1, 1), (5, .aload_n 0, 1), (6, .arraylength, 1), (7, .if_icmp .ge 9, 3), (10, .aload_n 0, 1), (11, .iload_n 1, 1), (12, .iaload, 1), (13, .goto 4, 3), (16, .iconst 0, 1), (17, .ireturn, 1)]
def aCode_91 : List (Nat × Instr × Nat) := [(0, .iload_n 1, 1), (1, .ifCond .lt 13, 3), (4, .iload_n 1, 1), (5, .aload_n 0, 1), (6, .arraylength, 1), (7, .if_icmp .ge 7, 3), (10, .aload_n 0, 1), (11, .iload_n 1, 1), (12, .iload_n 2, 1), (13, .iastore, 1), (14, .return_, 1)]
def aCode_92 : List (Nat × Instr × Nat) := [(0, .iload_n 1, 1), (1, .ifCond .lt 16, 3), (4, .iload_n 1, 1), (5, .aload_n 0, 1), (6, .arraylength, 1), (7, .if_icmp .ge 10, 3), (10, .aload_n 0, 1), (11, .iload_n 1, 1), (12, .dup2, 1), (13, .iaload, 1), (14, .iload_n 2, 1), (15, .iadd, 1), (16, .iastore, 1), (17, .return_, 1)]
def aCode_93 : List (Nat × Instr × Nat) := [(0, .aload_n 0, 1), (1, .iconst 0, 1), (2, .aload_n 1, 1), (3, .iconst 0, 1), (4, .aload_n 0, 1), (5, .arraylength, 1), (6, .aload_n 1, 1), (7, .arraylength, 1), (8, .invokestatic 234, 3), (11, .invokestatic 239, 3), (14, .return_, 1)]
def aCode_94 : List (Nat × Instr × Nat) := [(0, .aload_n 0, 1), (1, .invokespecial 1, 3), (4, .aload_n 0, 1), (5, .sipush 371, 3), (8, .newarray .int, 2), (10, .putfield 7, 3), (13, .aload_n 0, 1), (14, .sipush 371, 3), (17, .newarray .int, 2), (19, .putfield 13, 3), (22, .aload_n 0, 1), (23, .sipush 2226, 3), (26, .newarray .int, 2), (28, .putfield 16, 3), (31, .aload_n 0, 1), (32, .sipush 742, 3), (35, .newarray .int, 2), (37, .putfield 19, 3), (40, .aload_n 0, 1), (41, .iconst 2, 1), (42, .newarray .int, 2), (44, .putfield 22, 3), (47, .aload_n 0, 1), (48, .bipush 80, 2), (50, .newarray .int, 2), (52, .putfield 25, 3), (55, .iconst 0, 1), (56, .istore_n 1, 1), (57, .iload_n 1, 1), (58, .bipush 16, 2), (60, .if_icmp .ge 34, 3), (63, .aload_n 0, 1), (64, .getfield 7, 3), (67, .iconst 0, 1), (68, .iload_n 1, 1), (69, .iadd, 1), (70, .iload_n 1, 1), (71, .iload_n 1, 1), (72, .imul, 1), (73, .bipush 37, 2), (75, .imul, 1), (76, .iload_n 1, 1), (77, .bipush 113, 2), (79, .imul, 1), (80, .iadd, 1), (81, .iconst 5, 1), (82, .iadd, 1), (83, .sipush 4096, 3), (86, .irem, 1), (87, .iastore, 1), (88, .iinc 1 1, 3), (91, .goto (-34), 3), (94, .iconst 0, 1), (95, .istore_n 1, 1), (96, .iload_n 1, 1), (97, .bipush 8, 2), (99, .if_icmp .ge 21, 3), (102, .aload_n 0, 1), (103, .getfield 7, 3), (106, .bipush 17, 2), (108, .iload_n 1, 1), (109, .iadd, 1), (110, .sipush 4095, 3), (113, .iastore, 1), (114, .iinc 1 1, 3), (117, .goto (-21), 3), (120, .return_, 1)]
def aCode_95 : List (Nat × Instr × Nat) := [(0, .iconst 0, 1), (1, .istore 4, 2), (3, .iload 4, 2), (5, .sipush 371, 3), (8, .if_icmp .ge 21, 3), (11, .aload_n 2, 1), (12, .iload_n 3, 1), (13, .iload 4, 2), (15, .iadd, 1), (16, .aload_n 0, 1), (17, .iload_n 1, 1), (18, .iload 4, 2), (20, .iadd, 1), (21, .iaload, 1), (22, .iastore, 1), (23, .iinc 4 1, 3), (26, .goto (-23), 3), (29, .return_, 1)]
def aCode_96 : List (Nat × Instr × Nat) := [(0, .iload_n 0, 1), (1, .iload_n 1, 1), (2, .if_icmp .lt 12, 3), (5, .iload_n 0, 1), (6, .iload_n 2, 1), (7, .if_icmp .gt 7, 3), (10, .iconst 1, 1), (11, .goto 4, 3), (14, .iconst 0, 1), (15, .ireturn, 1)]
def aCode_97 : List (Nat × Instr × Nat) := [(0, .aload_n 0, 1), (1, .getfield 28, 3), (4, .bipush 6, 2), (6, .if_icmp .ne 44, 3), (9, .iconst 0, 1), (10, .istore_n 1, 1), (11, .iload_n 1, 1), (12, .sipush 1855, 3), (15, .if_icmp .ge 25, 3), (18, .aload_n 0, 1), (19, .getfield 16, 3), (22, .iload_n 1, 1), (23, .aload_n 0, 1), (24, .getfield 16, 3), (27, .iload_n 1, 1), (28, .sipush 371, 3), (31, .iadd, 1), (32, .iaload, 1), (33, .iastore, 1), (34, .iinc 1 1, 3), (37, .goto (-26), 3), (40, .aload_n 0, 1), (41, .dup, 1), (42, .getfield 28, 3), (45, .iconst 1, 1), (46, .isub, 1), (47, .putfield 28, 3), (50, .aload_n 0, 1), (51, .getfield 7, 3), (54, .iconst 0, 1), (55, .aload_n 0, 1), (56, .getfield 16, 3), (59, .aload_n 0, 1), (60, .getfield 28, 3), (63, .sipush 371, 3), (66, .imul, 1), (67, .invokestatic 32, 3), (70, .aload_n 0, 1), (71, .dup, 1), (72, .getfield 28, 3), (75, .iconst 1, 1), (76, .iadd, 1), (77, .putfield 28, 3), (80, .return_, 1)]
def aCode_98 : List (Nat × Instr × Nat) := [(0, .iconst 0, 1), (1, .istore_n 1, 1), (2, .iconst 0, 1), (3, .istore_n 2, 1), (4, .iload_n 2, 1), (5, .bipush 12, 2), (7, .if_icmp .ge 17, 3), (10, .iload_n 1, 1), (11, .iload_n 0, 1), (12, .iload_n 2, 1), (13, .ishr, 1), (14, .iconst 1, 1), (15, .iand, 1), (16, .iadd, 1), (17, .istore_n 1, 1), (18, .iinc 2 1, 3), (21, .goto (-17), 3), (24, .iload_n 1, 1), (25, .ireturn, 1)]
def aCode_99 : List (Nat × Instr × Nat) := [(0, .iload_n 0, 1), (1, .iconst 0, 1), (2, .bipush 15, 2), (4, .invokestatic 36, 3), (7, .ireturn, 1)]
def aCode_100 : List (Nat × Instr × Nat) := [(0, .iload_n 0, 1), (1, .iconst 0, 1), (2, .bipush 7, 2), (4, .invokestatic 36, 3), (7, .ireturn, 1)]
def aCode_101 : List (Nat × Instr × Nat) := [(0, .aload_n 0, 1), (1, .getfield 7, 3), (4, .bipush 16, 2), (6, .iaload, 1), (7, .iload_n 1, 1), (8, .ishr, 1), (9, .iconst 1, 1), (10, .iand, 1), (11, .iconst 1, 1), (12, .if_icmp .ne 7, 3), (15, .iconst 1, 1), (16, .goto 4, 3), (19, .iconst 0, 1), (20, .ireturn, 1)]
def aCode_102 : List (Nat × Instr × Nat) := [(0, .iload_n 1, 1), (1, .iconst 0, 1), (2, .aload_n 0, 1), (3, .getfield 7, 3), (6, .bipush 34, 2), (8, .iaload, 1), (9, .iconst 1, 1), (10, .isub, 1), (11, .invokestatic 36, 3), (14, .ireturn, 1)]
def aCode_103 : List (Nat × Instr × Nat) := [(0, .aload_n 0, 1), (1, .getfield 7, 3), (4, .bipush 35, 2), (6, .bipush 28, 2), (8, .iload_n 1, 1), (9, .imul, 1), (10, .iadd, 1), (11, .iload_n 2, 1), (12, .iadd, 1), (13, .iaload, 1), (14, .ireturn, 1)]
def aCode_104 : List (Nat × Instr × Nat) := [(0, .aload_n 0, 1), (1, .getfield 7, 3), (4, .bipush 35, 2), (6, .bipush 28, 2), (8, .iload_n 1, 1), (9, .imul, 1), (10, .iadd, 1), (11, .iload_n 2, 1), (12, .iadd, 1), (13, .iload_n 3, 1), (14, .iastore, 1), (15, .return_, 1)]
def aCode_105 : List (Nat × Instr × Nat) := [(0, .aload_n 0, 1), (1, .iload_n 1, 1), (2, .iconst 4, 1), (3, .iconst 3, 1), (4, .iload_n 2, 1), (5, .imul, 1), (6, .iadd, 1), (7, .iload_n 3, 1), (8, .iadd, 1), (9, .invokevirtual 40, 3), (12, .ireturn, 1)]
def aCode_106 : List (Nat × Instr × Nat) := [(0, .aload_n 0, 1), (1, .iload_n 1, 1), (2, .iconst 1, 1), (3, .invokevirtual 40, 3), (6, .istore 5, 2), (8, .aload_n 0, 1), (9, .iload_n 1, 1), (10, .iconst 4, 1), (11, .iconst 3, 1), (12, .iload 5, 2), (14, .imul, 1), (15, .iadd, 1), (16, .iconst 0, 1), (17, .iadd, 1), (18, .iload_n 2, 1), (19, .invokevirtual 44, 3), (22, .aload_n 0, 1), (23, .iload_n 1, 1), (24, .iconst 4, 1), (25, .iconst 3, 1), (26, .iload 5, 2), (28, .imul, 1), (29, .iadd, 1), (30, .iconst 1, 1), (31, .iadd, 1), (32, .iload_n 3, 1), (33, .invokevirtual 44, 3), (36, .aload_n 0, 1), (37, .iload_n 1, 1), (38, .iconst 4, 1), (39, .iconst 3, 1), (40, .iload 5, 2), (42, .imul, 1), (43, .iadd, 1), (44, .iconst 2, 1), (45, .iadd, 1), (46, .iload 4, 2), (48, .invokevirtual 44, 3), (51, .aload_n 0, 1), (52, .iload_n 1, 1), (53, .iconst 1, 1), (54, .iload 5, 2), (56, .iconst 1, 1), (57, .iadd, 1), (58, .invokevirtual 44, 3), (61, .return_, 1)]
def aCode_107 : List (Nat × Instr × Nat) := [(0, .aload_n 0, 1), (1, .iload_n 1, 1), (2, .iconst 1, 1), (3, .invokevirtual 40, 3), (6, .iconst 1, 1), (7, .isub, 1), (8, .ireturn, 1)]
def aCode_108 : List (Nat × Instr × Nat) := [(0, .aload_n 0, 1), (1, .iload_n 1, 1), (2, .invokevirtual 48, 3), (5, .iconst 2, 1), (6, .idiv, 1), (7, .iconst 2, 1), (8, .imul, 1), (9, .ireturn, 1)]
def aCode_109 : List (Nat × Instr × Nat) := [(0, .aload_n 0, 1), (1, .iload_n 1, 1), (2, .aload_n 0, 1), (3, .iload_n 1, 1), (4, .invokevirtual 52, 3), (7, .iconst 1, 1), (8, .invokevirtual 55, 3), (11, .ireturn, 1)]
def aCode_110 : List (Nat × Instr × Nat) := [(0, .aload_n 0, 1), (1, .iload_n 1, 1), (2, .iconst 0, 1), (3, .iconst 1, 1), (4, .invokevirtual 55, 3), (7, .ireturn, 1)]
def aCode_111 : List (Nat × Instr × Nat) := [(0, .iconst 0, 1), (1, .istore_n 2, 1), (2, .iconst 0, 1), (3, .istore_n 3, 1), (4, .iload_n 3, 1), (5, .aload_n 0, 1), (6, .iload_n 1, 1), (7, .iconst 1, 1), (8, .invokevirtual 40, 3), (11, .if_icmp .ge 21, 3), (14, .iload_n 2, 1), (15, .iconst 1, 1), (16, .aload_n 0, 1), (17, .iload_n 1, 1), (18, .iload_n 3, 1), (19, .iconst 0, 1), (20, .invokevirtual 55, 3), (23, .ishl, 1), (24, .ior, 1), (25, .istore_n 2, 1), (26, .iinc 3 1, 3), (29, .goto (-25), 3), (32, .iload_n 2, 1), (33, .ireturn, 1)]
def aCode_112 : List (Nat × Instr × Nat) := [(0, .aload_n 0, 1), (1, .iload_n 1, 1), (2, .iconst 2, 1), (3, .invokevirtual 40, 3), (6, .ifCond .ne 7, 3), (9, .iconst 1, 1), (10, .goto 4, 3), (13, .iconst 0, 1), (14, .ireturn, 1)]
def aCode_113 : List (Nat × Instr × Nat) := [(0, .bipush (-6), 2), (2, .istore_n 2, 1), (3, .iconst 0, 1), (4, .istore_n 3, 1), (5, .iload_n 3, 1), (6, .aload_n 0, 1), (7, .getfield 7, 3), (10, .bipush 34, 2), (12, .iaload, 1), (13, .if_icmp .ge 33, 3), (16, .aload_n 0, 1), (17, .iload_n 3, 1), (18, .iconst 0, 1), (19, .invokevirtual 40, 3), (22, .iload_n 1, 1), (23, .if_icmp .ne 15, 3), (26, .aload_n 0, 1), (27, .iload_n 3, 1), (28, .invokevirtual 59, 3), (31, .ifCond .eq 7, 3), (34, .iload_n 3, 1), (35, .goto 4, 3), (38, .iload_n 2, 1), (39, .istore_n 2, 1), (40, .iinc 3 1, 3), (43, .goto (-38), 3), (46, .iload_n 2, 1), (47, .ireturn, 1)]
def aCode_114 : List (Nat × Instr × Nat) := [(0, .iconst 0, 1), (1, .istore_n 2, 1), (2, .iconst 0, 1), (3, .istore_n 3, 1), (4, .iload_n 3, 1), (5, .aload_n 0, 1), (6, .getfield 7, 3), (9, .bipush 34, 2), (11, .iaload, 1), (12, .if_icmp .ge 27, 3), (15, .iload_n 2, 1), (16, .aload_n 0, 1), (17, .iload_n 3, 1), (18, .iconst 2, 1), (19, .invokevirtual 40, 3), (22, .iload_n 1, 1), (23, .if_icmp .ne 7, 3), (26, .iconst 1, 1), (27, .goto 4, 3), (30, .iconst 0, 1), (31, .iadd, 1), (32, .istore_n 2, 1), (33, .iinc 3 1, 3), (36, .goto (-32), 3), (39, .iload_n 2, 1), (40, .ireturn, 1)]
def aCode_115 : List (Nat × Instr × Nat) := [(0, .iconst 0, 1), (1, .istore_n 2, 1), (2, .iconst 1, 1), (3, .istore_n 3, 1), (4, .iload_n 3, 1), (5, .bipush 16, 2), (7, .if_icmp .ge 44, 3), (10, .aload_n 0, 1), (11, .getfield 7, 3), (14, .iconst 0, 1), (15, .iload_n 3, 1), (16, .iadd, 1), (17, .iaload, 1), (18, .iload_n 1, 1), (19, .ixor, 1), (20, .invokestatic 63, 3), (23, .aload_n 0, 1), (24, .getfield 7, 3), (27, .iconst 0, 1), (28, .iload_n 2, 1), (29, .iadd, 1), (30, .iaload, 1), (31, .iload_n 1, 1), (32, .ixor, 1), (33, .invokestatic 63, 3), (36, .if_icmp .ge 7, 3), (39, .iload_n 3, 1), (40, .goto 4, 3), (43, .iload_n 2, 1), (44, .istore_n 2, 1), (45, .iinc 3 1, 3), (48, .goto (-44), 3), (51, .iload_n 2, 1), (52, .ireturn, 1)]
def aCode_116 : List (Nat × Instr × Nat) := [(0, .aload_n 0, 1), (1, .iload_n 1, 1), (2, .aload_n 0, 1), (3, .iload_n 1, 1), (4, .invokevirtual 48, 3), (7, .iconst 0, 1), (8, .invokevirtual 55, 3), (11, .istore_n 2, 1), (12, .aload_n 0, 1), (13, .iload_n 1, 1), (14, .invokevirtual 66, 3), (17, .istore_n 3, 1), (18, .bipush (-6), 2), (20, .istore 4, 2), (22, .bipush 8, 2), (24, .istore 5, 2), (26, .iload 5, 2), (28, .ifCond .le 45, 3), (31, .iload_n 2, 1), (32, .iload 5, 2), (34, .iadd, 1), (35, .bipush 8, 2), (37, .irem, 1), (38, .istore 6, 2), (40, .aload_n 0, 1), (41, .iload 6, 2), (43, .invokevirtual 69, 3), (46, .ifCond .eq 17, 3), (49, .iload_n 3, 1), (50, .iload 6, 2), (52, .ishr, 1), (53, .iconst 1, 1), (54, .iand, 1), (55, .ifCond .ne 8, 3), (58, .iload 6, 2), (60, .goto 5, 3), (63, .iload 4, 2), (65, .istore 4, 2), (67, .iinc 5 (-1), 3), (70, .goto (-44), 3), (73, .iload 4, 2), (75, .ireturn, 1)]
def aCode_117 : List (Nat × Instr × Nat) := [(0, .aload_n 0, 1), (1, .getfield 7, 3), (4, .bipush 25, 2), (6, .iload_n 1, 1), (7, .iadd, 1), (8, .dup2, 1), (9, .iaload, 1), (10, .iload_n 2, 1), (11, .iadd, 1), (12, .iastore, 1), (13, .return_, 1)]
def aCode_118 : List (Nat × Instr × Nat) := [(0, .aload_n 0, 1), (1, .iload_n 1, 1), (2, .iconst 2, 1), (3, .aload_n 0, 1), (4, .aload_n 0, 1), (5, .iload_n 1, 1), (6, .iconst 0, 1), (7, .invokevirtual 40, 3), (10, .invokevirtual 69, 3), (13, .ifCond .eq 7, 3), (16, .iconst 1, 1), (17, .goto 4, 3), (20, .iconst 2, 1), (21, .invokevirtual 44, 3), (24, .aload_n 0, 1), (25, .iload_n 1, 1), (26, .iconst 2, 1), (27, .invokevirtual 40, 3), (30, .iconst 1, 1), (31, .if_icmp .ne 37, 3), (34, .aload_n 0, 1), (35, .iload_n 1, 1), (36, .invokevirtual 72, 3), (39, .aload_n 0, 1), (40, .iload_n 1, 1), (41, .invokevirtual 75, 3), (44, .if_icmp .ne 24, 3), (47, .aload_n 0, 1), (48, .iload_n 1, 1), (49, .iconst 1, 1), (50, .invokevirtual 40, 3), (53, .iconst 2, 1), (54, .if_icmp .le 14, 3), (57, .aload_n 0, 1), (58, .aload_n 0, 1), (59, .iload_n 1, 1), (60, .iconst 0, 1), (61, .invokevirtual 40, 3), (64, .iconst 2, 1), (65, .invokevirtual 78, 3), (68, .return_, 1)]
def aCode_119 : List (Nat × Instr × Nat) := [(0, .aload_n 0, 1), (1, .iload_n 1, 1), (2, .iconst 1, 1), (3, .invokevirtual 40, 3), (6, .istore_n 3, 1), (7, .aload_n 0, 1), (8, .iload_n 1, 1), (9, .iload_n 3, 1), (10, .iconst 1, 1), (11, .isub, 1), (12, .iconst 1, 1), (13, .invokevirtual 55, 3), (16, .istore 4, 2), (18, .aload_n 0, 1), (19, .iload_n 1, 1), (20, .iconst 3, 1), (21, .invokevirtual 40, 3), (24, .istore 5, 2), (26, .iload_n 3, 1), (27, .iconst 2, 1), (28, .irem, 1), (29, .ifCond .ne 7, 3), (32, .iconst 1, 1), (33, .goto 4, 3), (36, .iconst 0, 1), (37, .istore 6, 2), (39, .iload 6, 2), (41, .ifCond .eq 12, 3), (44, .aload_n 0, 1), (45, .iload 4, 2), (47, .invokevirtual 82, 3), (50, .goto 22, 3), (53, .aload_n 0, 1), (54, .getfield 7, 3), (57, .iconst 0, 1), (58, .iload 4, 2), (60, .iadd, 1), (61, .iaload, 1), (62, .aload_n 0, 1), (63, .getfield 7, 3), (66, .bipush 17, 2), (68, .iload_n 2, 1), (69, .iadd, 1), (70, .iaload, 1), (71, .iand, 1), (72, .istore 7, 2), (74, .aload_n 0, 1), (75, .iload_n 1, 1), (76, .iload_n 2, 1), (77, .iload 5, 2), (79, .bipush (-6), 2), (81, .if_icmp .ne 8, 3), (84, .iload 7, 2), (86, .goto 5, 3), (89, .iload 5, 2), (91, .iload 5, 2), (93, .bipush (-6), 2), (95, .if_icmp .ne 7, 3), (98, .iconst 0, 1), (99, .goto 4, 3), (102, .iconst 1, 1), (103, .invokevirtual 85, 3), (106, .aload_n 0, 1), (107, .iload_n 1, 1), (108, .iconst 3, 1), (109, .bipush (-6), 2), (111, .invokevirtual 44, 3), (114, .iload 6, 2), (116, .ifCond .eq 42, 3), (119, .aload_n 0, 1), (120, .iload_n 1, 1), (121, .iload_n 3, 1), (122, .iconst 1, 1), (123, .invokevirtual 55, 3), (126, .aload_n 0, 1), (127, .iload_n 1, 1), (128, .iload_n 3, 1), (129, .iconst 2, 1), (130, .isub, 1), (131, .iconst 1, 1), (132, .invokevirtual 55, 3), (135, .if_icmp .ne 23, 3), (138, .aload_n 0, 1), (139, .aload_n 0, 1), (140, .iload_n 1, 1), (141, .iload_n 3, 1), (142, .iconst 1, 1), (143, .isub, 1), (144, .iconst 0, 1), (145, .invokevirtual 55, 3), (148, .iconst 1, 1), (149, .invokevirtual 78, 3), (152, .aload_n 0, 1), (153, .iload_n 2, 1), (154, .iconst 1, 1), (155, .invokevirtual 78, 3), (158, .return_, 1)]
def aCode_120 : List (Nat × Instr × Nat) := [(0, .aload_n 0, 1), (1, .getfield 7, 3), (4, .bipush 33, 2), (6, .dup2, 1), (7, .iaload, 1), (8, .iconst 1, 1), (9, .iadd, 1), (10, .iastore, 1), (11, .iconst 0, 1), (12, .istore_n 1, 1), (13, .iload_n 1, 1), (14, .aload_n 0, 1), (15, .getfield 7, 3), (18, .bipush 34, 2), (20, .iaload, 1), (21, .if_icmp .ge 43, 3), (24, .aload_n 0, 1), (25, .iload_n 1, 1), (26, .invokevirtual 59, 3), (29, .ifCond .eq 29, 3), (32, .aload_n 0, 1), (33, .iload_n 1, 1), (34, .invokevirtual 89, 3), (37, .istore_n 2, 1), (38, .iload_n 2, 1), (39, .bipush (-6), 2), (41, .if_icmp .ne 11, 3), (44, .aload_n 0, 1), (45, .iload_n 1, 1), (46, .invokevirtual 92, 3), (49, .goto 9, 3), (52, .aload_n 0, 1), (53, .iload_n 1, 1), (54, .iload_n 2, 1), (55, .invokevirtual 96, 3), (58, .iinc 1 1, 3), (61, .goto (-48), 3), (64, .return_, 1)]
def aCode_121 : List (Nat × Instr × Nat) := [(0, .iload_n 1, 1), (1, .invokestatic 99, 3), (4, .ifCond .eq 14, 3), (7, .iload_n 2, 1), (8, .iconst 0, 1), (9, .sipush 4095, 3), (12, .invokestatic 36, 3), (15, .ifCond .ne 17, 3), (18, .iload_n 1, 1), (19, .invokestatic 99, 3), (22, .ifCond .eq 8, 3), (25, .bipush (-2), 2), (27, .goto 4, 3), (30, .iconst (-1), 1), (31, .ireturn, 1), (32, .aload_n 0, 1), (33, .invokevirtual 102, 3), (36, .aload_n 0, 1), (37, .getfield 7, 3), (40, .iconst 0, 1), (41, .iload_n 1, 1), (42, .iadd, 1), (43, .iaload, 1), (44, .istore_n 3, 1), (45, .aload_n 0, 1), (46, .getfield 7, 3), (49, .iconst 0, 1), (50, .iload_n 1, 1), (51, .iadd, 1), (52, .iload_n 2, 1), (53, .iastore, 1), (54, .iload_n 3, 1), (55, .ireturn, 1)]
def aCode_122 : List (Nat × Instr × Nat) := [(0, .iload_n 1, 1), (1, .invokestatic 105, 3), (4, .ifCond .ne 7, 3), (7, .iconst (-1), 1), (8, .goto 26, 3), (11, .iload_n 2, 1), (12, .bipush (-6), 2), (14, .if_icmp .eq 14, 3), (17, .iload_n 2, 1), (18, .iconst 0, 1), (19, .sipush 4095, 3), (22, .invokestatic 36, 3), (25, .ifCond .eq 7, 3), (28, .iconst 0, 1), (29, .goto 5, 3), (32, .bipush (-2), 2), (34, .ireturn, 1)]
def aCode_123 : List (Nat × Instr × Nat) := [(0, .aload_n 0, 1), (1, .getfield 7, 3), (4, .bipush 16, 2), (6, .dup2, 1), (7, .iaload, 1), (8, .iconst 1, 1), (9, .iload_n 1, 1), (10, .ishl, 1), (11, .ior, 1), (12, .iastore, 1), (13, .aload_n 0, 1), (14, .getfield 7, 3), (17, .bipush 17, 2), (19, .iload_n 1, 1), (20, .iadd, 1), (21, .iload_n 2, 1), (22, .bipush (-6), 2), (24, .if_icmp .ne 15, 3), (27, .aload_n 0, 1), (28, .getfield 7, 3), (31, .bipush 17, 2), (33, .iload_n 1, 1), (34, .iadd, 1), (35, .iaload, 1), (36, .goto 4, 3), (39, .iload_n 2, 1), (40, .iastore, 1), (41, .aload_n 0, 1), (42, .getfield 7, 3), (45, .bipush 16, 2), (47, .iaload, 1), (48, .invokestatic 63, 3), (51, .ireturn, 1)]
def aCode_124 : List (Nat × Instr × Nat) := [(0, .aload_n 0, 1), (1, .iload_n 1, 1), (2, .iload_n 2, 1), (3, .invokevirtual 108, 3), (6, .istore_n 3, 1), (7, .iload_n 3, 1), (8, .ifCond .ge 5, 3), (11, .iload_n 3, 1), (12, .ireturn, 1), (13, .aload_n 0, 1), (14, .invokevirtual 102, 3), (17, .aload_n 0, 1), (18, .iload_n 1, 1), (19, .iload_n 2, 1), (20, .invokevirtual 111, 3), (23, .ireturn, 1)]
def aCode_125 : List (Nat × Instr × Nat) := [(0, .iload_n 1, 1), (1, .invokestatic 105, 3), (4, .ifCond .ne 7, 3), (7, .iconst (-1), 1), (8, .goto 17, 3), (11, .aload_n 0, 1), (12, .iload_n 1, 1), (13, .invokevirtual 69, 3), (16, .ifCond .eq 7, 3), (19, .iconst 0, 1), (20, .goto 5, 3), (23, .bipush (-5), 2), (25, .ireturn, 1)]
def aCode_126 : List (Nat × Instr × Nat) := [(0, .aload_n 0, 1), (1, .getfield 7, 3), (4, .bipush 16, 2), (6, .dup2, 1), (7, .iaload, 1), (8, .iconst 1, 1), (9, .iload_n 1, 1), (10, .ishl, 1), (11, .iconst (-1), 1), (12, .ixor, 1), (13, .iand, 1), (14, .iastore, 1), (15, .aload_n 0, 1), (16, .getfield 7, 3), (19, .bipush 16, 2), (21, .iaload, 1), (22, .invokestatic 63, 3), (25, .ireturn, 1)]
def aCode_127 : List (Nat × Instr × Nat) := [(0, .aload_n 0, 1), (1, .iload_n 1, 1), (2, .invokevirtual 114, 3), (5, .istore_n 2, 1), (6, .iload_n 2, 1), (7, .ifCond .ge 5, 3), (10, .iload_n 2, 1), (11, .ireturn, 1), (12, .aload_n 0, 1), (13, .invokevirtual 102, 3), (16, .aload_n 0, 1), (17, .iload_n 1, 1), (18, .invokevirtual 117, 3), (21, .ireturn, 1)]
def aCode_128 : List (Nat × Instr × Nat) := [(0, .iload_n 1, 1), (1, .invokestatic 105, 3), (4, .ifCond .eq 10, 3), (7, .iload_n 2, 1), (8, .invokestatic 99, 3), (11, .ifCond .ne 5, 3), (14, .iconst (-1), 1), (15, .ireturn, 1), (16, .aload_n 0, 1), (17, .getfield 7, 3), (20, .bipush 34, 2), (22, .iaload, 1), (23, .bipush 12, 2), (25, .if_icmp .ne 8, 3), (28, .bipush (-4), 2), (30, .goto 27, 3), (33, .aload_n 0, 1), (34, .iload_n 1, 1), (35, .invokevirtual 69, 3), (38, .ifCond .eq 17, 3), (41, .aload_n 0, 1), (42, .iload_n 1, 1), (43, .invokevirtual 120, 3), (46, .bipush (-6), 2), (48, .if_icmp .ne 7, 3), (51, .iconst 0, 1), (52, .goto 5, 3), (55, .bipush (-5), 2), (57, .ireturn, 1)]
def aCode_129 : List (Nat × Instr × Nat) := [(0, .iconst 0, 1), (1, .istore_n 2, 1), (2, .iload_n 2, 1), (3, .bipush 28, 2), (5, .if_icmp .ge 16, 3), (8, .aload_n 0, 1), (9, .iload_n 1, 1), (10, .iload_n 2, 1), (11, .iconst 0, 1), (12, .invokevirtual 44, 3), (15, .iinc 2 1, 3), (18, .goto (-16), 3), (21, .aload_n 0, 1), (22, .iload_n 1, 1), (23, .iconst 3, 1), (24, .bipush (-6), 2), (26, .invokevirtual 44, 3), (29, .return_, 1)]
def aCode_130 : List (Nat × Instr × Nat) := [(0, .aload_n 0, 1), (1, .getfield 7, 3), (4, .bipush 34, 2), (6, .iaload, 1), (7, .istore_n 3, 1), (8, .aload_n 0, 1), (9, .iload_n 3, 1), (10, .invokevirtual 123, 3), (13, .aload_n 0, 1), (14, .iload_n 3, 1), (15, .iconst 0, 1), (16, .iload_n 1, 1), (17, .invokevirtual 44, 3), (20, .aload_n 0, 1), (21, .iload_n 3, 1), (22, .iload_n 1, 1), (23, .iload_n 2, 1), (24, .iconst 0, 1), (25, .invokevirtual 85, 3), (28, .aload_n 0, 1), (29, .getfield 7, 3), (32, .bipush 34, 2), (34, .dup2, 1), (35, .iaload, 1), (36, .iconst 1, 1), (37, .iadd, 1), (38, .iastore, 1), (39, .iload_n 3, 1), (40, .ireturn, 1)]
def aCode_131 : List (Nat × Instr × Nat) := [(0, .aload_n 0, 1), (1, .iload_n 1, 1), (2, .iload_n 2, 1), (3, .invokevirtual 126, 3), (6, .istore_n 3, 1), (7, .iload_n 3, 1), (8, .ifCond .ge 5, 3), (11, .iload_n 3, 1), (12, .ireturn, 1), (13, .aload_n 0, 1), (14, .invokevirtual 102, 3), (17, .aload_n 0, 1), (18, .iload_n 1, 1), (19, .iload_n 2, 1), (20, .invokevirtual 129, 3), (23, .ireturn, 1)]
def aCode_132 : List (Nat × Instr × Nat) := [(0, .aload_n 0, 1), (1, .iload_n 1, 1), (2, .invokevirtual 132, 3), (5, .ifCond .ne 5, 3), (8, .iconst (-1), 1), (9, .ireturn, 1), (10, .aload_n 0, 1), (11, .iload_n 1, 1), (12, .iconst 1, 1), (13, .invokevirtual 40, 3), (16, .iconst 2, 1), (17, .irem, 1), (18, .ifCond .ne 7, 3), (21, .iconst 1, 1), (22, .goto 4, 3), (25, .iconst 0, 1), (26, .istore_n 3, 1), (27, .iload_n 2, 1), (28, .iconst 0, 1), (29, .iload_n 3, 1), (30, .ifCond .eq 8, 3), (33, .bipush 15, 2), (35, .goto 6, 3), (38, .sipush 4095, 3), (41, .invokestatic 36, 3), (44, .ifCond .ne 8, 3), (47, .bipush (-2), 2), (49, .goto 17, 3), (52, .aload_n 0, 1), (53, .iload_n 1, 1), (54, .invokevirtual 59, 3), (57, .ifCond .eq 7, 3), (60, .iconst 0, 1), (61, .goto 5, 3), (64, .bipush (-5), 2), (66, .ireturn, 1)]
def aCode_133 : List (Nat × Instr × Nat) := [(0, .aload_n 0, 1), (1, .iload_n 1, 1), (2, .iconst 3, 1), (3, .invokevirtual 40, 3), (6, .bipush (-6), 2), (8, .if_icmp .ne 7, 3), (11, .iconst 0, 1), (12, .goto 4, 3), (15, .iconst 1, 1), (16, .istore_n 3, 1), (17, .aload_n 0, 1), (18, .iload_n 1, 1), (19, .iconst 3, 1), (20, .iload_n 2, 1), (21, .invokevirtual 44, 3), (24, .iload_n 3, 1), (25, .ireturn, 1)]
def aCode_134 : List (Nat × Instr × Nat) := [(0, .aload_n 0, 1), (1, .iload_n 1, 1), (2, .iload_n 2, 1), (3, .invokevirtual 135, 3), (6, .istore_n 3, 1), (7, .iload_n 3, 1), (8, .ifCond .ge 5, 3), (11, .iload_n 3, 1), (12, .ireturn, 1), (13, .aload_n 0, 1), (14, .invokevirtual 102, 3), (17, .aload_n 0, 1), (18, .iload_n 1, 1), (19, .iload_n 2, 1), (20, .invokevirtual 138, 3), (23, .ireturn, 1)]
def aCode_135 : List (Nat × Instr × Nat) := [(0, .aload_n 0, 1), (1, .invokevirtual 102, 3), (4, .aload_n 0, 1), (5, .invokevirtual 141, 3), (8, .aload_n 0, 1), (9, .iconst 0, 1), (10, .invokevirtual 144, 3), (13, .ireturn, 1)]
def aCode_136 : List (Nat × Instr × Nat) := [(0, .iconst 0, 1), (1, .istore_n 1, 1), (2, .iconst 0, 1), (3, .istore_n 2, 1), (4, .iload_n 2, 1), (5, .aload_n 0, 1), (6, .getfield 7, 3), (9, .bipush 34, 2), (11, .iaload, 1), (12, .if_icmp .ge 46, 3), (15, .aload_n 0, 1), (16, .iload_n 2, 1), (17, .invokevirtual 59, 3), (20, .ifCond .eq 32, 3), (23, .iconst 0, 1), (24, .istore_n 3, 1), (25, .iload_n 3, 1), (26, .bipush 28, 2), (28, .if_icmp .ge 21, 3), (31, .aload_n 0, 1), (32, .iload_n 1, 1), (33, .iload_n 3, 1), (34, .aload_n 0, 1), (35, .iload_n 2, 1), (36, .iload_n 3, 1), (37, .invokevirtual 40, 3), (40, .invokevirtual 44, 3), (43, .iinc 3 1, 3), (46, .goto (-21), 3), (49, .iinc 1 1, 3), (52, .iinc 2 1, 3), (55, .goto (-51), 3), (58, .aload_n 0, 1), (59, .getfield 7, 3), (62, .bipush 34, 2), (64, .iaload, 1), (65, .iload_n 1, 1), (66, .isub, 1), (67, .istore_n 2, 1), (68, .aload_n 0, 1), (69, .getfield 7, 3), (72, .bipush 34, 2), (74, .iload_n 1, 1), (75, .iastore, 1), (76, .iload_n 2, 1), (77, .ireturn, 1)]
def aCode_137 : List (Nat × Instr × Nat) := [(0, .aload_n 0, 1), (1, .invokevirtual 102, 3), (4, .aload_n 0, 1), (5, .invokevirtual 147, 3), (8, .ireturn, 1)]
def aCode_138 : List (Nat × Instr × Nat) := [(0, .iconst 0, 1), (1, .istore_n 2, 1), (2, .iconst 2, 1), (3, .istore_n 3, 1), (4, .iload_n 3, 1), (5, .aload_n 0, 1), (6, .iload_n 1, 1), (7, .iconst 1, 1), (8, .invokevirtual 40, 3), (11, .if_icmp .ge 36, 3), (14, .iload_n 2, 1), (15, .aload_n 0, 1), (16, .iload_n 1, 1), (17, .iload_n 3, 1), (18, .iconst 1, 1), (19, .invokevirtual 55, 3), (22, .aload_n 0, 1), (23, .iload_n 1, 1), (24, .iload_n 3, 1), (25, .iconst 2, 1), (26, .isub, 1), (27, .iconst 1, 1), (28, .invokevirtual 55, 3), (31, .if_icmp .ne 7, 3), (34, .iconst 0, 1), (35, .goto 4, 3), (38, .iconst 1, 1), (39, .iadd, 1), (40, .istore_n 2, 1), (41, .iinc 3 2, 3), (44, .goto (-40), 3), (47, .iload_n 2, 1), (48, .ireturn, 1)]
def aCode_139 : List (Nat × Instr × Nat) := [(0, .aload_n 0, 1), (1, .getfield 7, 3), (4, .iconst 0, 1), (5, .iload_n 1, 1), (6, .iadd, 1), (7, .iaload, 1), (8, .aload_n 0, 1), (9, .getfield 7, 3), (12, .iconst 0, 1), (13, .iload_n 2, 1), (14, .iadd, 1), (15, .iaload, 1), (16, .ixor, 1), (17, .invokestatic 63, 3), (20, .ireturn, 1)]
def aCode_140 : List (Nat × Instr × Nat) := [(0, .aload_n 0, 1), (1, .iload_n 1, 1), (2, .invokevirtual 132, 3), (5, .ifCond .ne 5, 3), (8, .iconst (-1), 1), (9, .ireturn, 1), (10, .iload_n 2, 1), (11, .tableswitch 122 0 8 #[49, 56, 63, 75, 82, 88, 94, 101, 107], 49), (60, .aload_n 0, 1), (61, .iload_n 1, 1), (62, .iconst 0, 1), (63, .invokevirtual 40, 3), (66, .ireturn, 1), (67, .aload_n 0, 1), (68, .iload_n 1, 1), (69, .iconst 1, 1), (70, .invokevirtual 40, 3), (73, .ireturn, 1), (74, .aload_n 0, 1), (75, .iload_n 1, 1), (76, .aload_n 0, 1), (77, .iload_n 1, 1), (78, .invokevirtual 48, 3), (81, .iconst 0, 1), (82, .invokevirtual 55, 3), (85, .ireturn, 1), (86, .aload_n 0, 1), (87, .iload_n 1, 1), (88, .iconst 2, 1), (89, .invokevirtual 40, 3), (92, .ireturn, 1), (93, .aload_n 0, 1), (94, .iload_n 1, 1), (95, .invokevirtual 72, 3), (98, .ireturn, 1), (99, .aload_n 0, 1), (100, .iload_n 1, 1), (101, .invokevirtual 151, 3), (104, .ireturn, 1), (105, .aload_n 0, 1), (106, .iload_n 1, 1), (107, .iconst 3, 1), (108, .invokevirtual 40, 3), (111, .ireturn, 1), (112, .aload_n 0, 1), (113, .iload_n 1, 1), (114, .invokevirtual 66, 3), (117, .ireturn, 1), (118, .aload_n 0, 1), (119, .aload_n 0, 1), (120, .iload_n 1, 1), (121, .invokevirtual 72, 3), (124, .aload_n 0, 1), (125, .iload_n 1, 1), (126, .invokevirtual 75, 3), (129, .invokevirtual 154, 3), (132, .ireturn, 1), (133, .bipush (-2), 2), (135, .ireturn, 1)]
def aCode_141 : List (Nat × Instr × Nat) := [(0, .aload_n 0, 1), (1, .iload_n 1, 1), (2, .invokevirtual 132, 3), (5, .ifCond .eq 16, 3), (8, .iload_n 2, 1), (9, .iconst 0, 1), (10, .aload_n 0, 1), (11, .iload_n 1, 1), (12, .invokevirtual 48, 3), (15, .invokestatic 36, 3), (18, .ifCond .ne 5, 3), (21, .iconst (-1), 1), (22, .ireturn, 1), (23, .iload_n 3, 1), (24, .iconst 0, 1), (25, .iconst 2, 1), (26, .invokestatic 36, 3), (29, .ifCond .eq 13, 3), (32, .aload_n 0, 1), (33, .iload_n 1, 1), (34, .iload_n 2, 1), (35, .iload_n 3, 1), (36, .invokevirtual 55, 3), (39, .goto 5, 3), (42, .bipush (-2), 2), (44, .ireturn, 1)]
def aCode_142 : List (Nat × Instr × Nat) := [(0, .iconst 0, 1), (1, .istore_n 2, 1), (2, .iconst 0, 1), (3, .istore_n 3, 1), (4, .iload_n 3, 1), (5, .aload_n 0, 1), (6, .getfield 7, 3), (9, .bipush 34, 2), (11, .iaload, 1), (12, .if_icmp .ge 21, 3), (15, .iload_n 2, 1), (16, .aload_n 0, 1), (17, .iload_n 3, 1), (18, .invokevirtual 66, 3), (21, .iload_n 1, 1), (22, .ishr, 1), (23, .iconst 1, 1), (24, .iand, 1), (25, .iadd, 1), (26, .istore_n 2, 1), (27, .iinc 3 1, 3), (30, .goto (-26), 3), (33, .iload_n 2, 1), (34, .ireturn, 1)]
def aCode_143 : List (Nat × Instr × Nat) := [(0, .iload_n 1, 1), (1, .invokestatic 105, 3), (4, .ifCond .ne 5, 3), (7, .iconst (-1), 1), (8, .ireturn, 1), (9, .iload_n 2, 1), (10, .tableswitch 80 0 4 #[34, 48, 58, 68, 74], 34), (44, .aload_n 0, 1), (45, .iload_n 1, 1), (46, .invokevirtual 69, 3), (49, .ifCond .eq 7, 3), (52, .iconst 1, 1), (53, .goto 4, 3), (56, .iconst 0, 1), (57, .ireturn, 1), (58, .aload_n 0, 1), (59, .getfield 7, 3), (62, .bipush 17, 2), (64, .iload_n 1, 1), (65, .iadd, 1), (66, .iaload, 1), (67, .ireturn, 1), (68, .aload_n 0, 1), (69, .getfield 7, 3), (72, .bipush 25, 2), (74, .iload_n 1, 1), (75, .iadd, 1), (76, .iaload, 1), (77, .ireturn, 1), (78, .aload_n 0, 1), (79, .iload_n 1, 1), (80, .invokevirtual 120, 3), (83, .ireturn, 1), (84, .aload_n 0, 1), (85, .iload_n 1, 1), (86, .invokevirtual 157, 3), (89, .ireturn, 1), (90, .bipush (-2), 2), (92, .ireturn, 1)]
def aCode_144 : List (Nat × Instr × Nat) := [(0, .iload_n 1, 1), (1, .invokestatic 99, 3), (4, .ifCond .eq 14, 3), (7, .aload_n 0, 1), (8, .getfield 7, 3), (11, .iconst 0, 1), (12, .iload_n 1, 1), (13, .iadd, 1), (14, .iaload, 1), (15, .goto 4, 3), (18, .iconst (-1), 1), (19, .ireturn, 1)]
def aCode_145 : List (Nat × Instr × Nat) := [(0, .iconst 0, 1), (1, .istore_n 1, 1), (2, .iconst 0, 1), (3, .istore_n 2, 1), (4, .iload_n 2, 1), (5, .bipush 8, 2), (7, .if_icmp .ge 21, 3), (10, .iload_n 1, 1), (11, .aload_n 0, 1), (12, .getfield 7, 3), (15, .bipush 25, 2), (17, .iload_n 2, 1), (18, .iadd, 1), (19, .iaload, 1), (20, .iadd, 1), (21, .istore_n 1, 1), (22, .iinc 2 1, 3), (25, .goto (-21), 3), (28, .iload_n 1, 1), (29, .ireturn, 1)]
def aCode_146 : List (Nat × Instr × Nat) := [(0, .iload_n 1, 1), (1, .tableswitch 98 0 8 #[51, 59, 67, 67, 67, 75, 83, 88, 93], 51), (52, .aload_n 0, 1), (53, .getfield 7, 3), (56, .bipush 16, 2), (58, .iaload, 1), (59, .ireturn, 1), (60, .aload_n 0, 1), (61, .getfield 7, 3), (64, .bipush 34, 2), (66, .iaload, 1), (67, .ireturn, 1), (68, .aload_n 0, 1), (69, .iload_n 1, 1), (70, .iconst 2, 1), (71, .isub, 1), (72, .invokevirtual 144, 3), (75, .ireturn, 1), (76, .aload_n 0, 1), (77, .getfield 7, 3), (80, .bipush 33, 2), (82, .iaload, 1), (83, .ireturn, 1), (84, .aload_n 0, 1), (85, .invokevirtual 160, 3), (88, .ireturn, 1), (89, .aload_n 0, 1), (90, .getfield 163, 3), (93, .ireturn, 1), (94, .aload_n 0, 1), (95, .getfield 28, 3), (98, .ireturn, 1), (99, .bipush (-2), 2), (101, .ireturn, 1)]
def aCode_147 : List (Nat × Instr × Nat) := [(0, .iload_n 1, 1), (1, .iconst 0, 1), (2, .sipush 4095, 3), (5, .invokestatic 36, 3), (8, .ifCond .eq 11, 3), (11, .aload_n 0, 1), (12, .iload_n 1, 1), (13, .invokevirtual 82, 3), (16, .goto 5, 3), (19, .bipush (-2), 2), (21, .ireturn, 1)]
def aCode_148 : List (Nat × Instr × Nat) := [(0, .aload_n 0, 1), (1, .iload_n 1, 1), (2, .invokevirtual 132, 3), (5, .ifCond .eq 12, 3), (8, .iload_n 2, 1), (9, .iconst 0, 1), (10, .iconst 3, 1), (11, .invokestatic 36, 3), (14, .ifCond .ne 18, 3), (17, .aload_n 0, 1), (18, .iload_n 1, 1), (19, .invokevirtual 132, 3), (22, .ifCond .eq 8, 3), (25, .bipush (-2), 2), (27, .goto 4, 3), (30, .iconst (-1), 1), (31, .ireturn, 1), (32, .aload_n 0, 1), (33, .getfield 7, 3), (36, .iconst 0, 1), (37, .aload_n 0, 1), (38, .getfield 13, 3), (41, .iconst 0, 1), (42, .invokestatic 32, 3), (45, .iconst 0, 1), (46, .istore_n 3, 1), (47, .aload_n 0, 1), (48, .iload_n 1, 1), (49, .invokevirtual 59, 3), (52, .ifCond .eq 13, 3), (55, .aload_n 0, 1), (56, .invokevirtual 141, 3), (59, .iinc 3 1, 3), (62, .goto (-15), 3), (65, .iload_n 2, 1), (66, .ifCond .ne 11, 3), (69, .aload_n 0, 1), (70, .iload_n 1, 1), (71, .invokevirtual 72, 3), (74, .goto 32, 3), (77, .iload_n 2, 1), (78, .iconst 1, 1), (79, .if_icmp .ne 12, 3), (82, .aload_n 0, 1), (83, .iload_n 1, 1), (84, .iconst 1, 1), (85, .invokevirtual 40, 3), (88, .goto 18, 3), (91, .iload_n 2, 1), (92, .iconst 2, 1), (93, .if_icmp .ne 7, 3), (96, .iload_n 3, 1), (97, .goto 9, 3), (100, .aload_n 0, 1), (101, .iload_n 1, 1), (102, .iconst 2, 1), (103, .invokevirtual 40, 3), (106, .istore 4, 2), (108, .aload_n 0, 1), (109, .getfield 13, 3), (112, .iconst 0, 1), (113, .aload_n 0, 1), (114, .getfield 7, 3), (117, .iconst 0, 1), (118, .invokestatic 32, 3), (121, .iload 4, 2), (123, .ireturn, 1)]
def aCode_149 : List (Nat × Instr × Nat) := [(0, .aload_n 0, 1), (1, .getfield 7, 3), (4, .bipush 34, 2), (6, .iconst 0, 1), (7, .iastore, 1), (8, .aload_n 0, 1), (9, .iload_n 1, 1), (10, .iload_n 2, 1), (11, .invokevirtual 129, 3), (14, .istore_n 3, 1), (15, .aload_n 0, 1), (16, .iload_n 3, 1), (17, .invokevirtual 59, 3), (20, .ifCond .eq 10, 3), (23, .aload_n 0, 1), (24, .invokevirtual 141, 3), (27, .goto (-12), 3), (30, .aload_n 0, 1), (31, .aload_n 0, 1), (32, .iload_n 3, 1), (33, .invokevirtual 72, 3), (36, .iload_n 2, 1), (37, .invokevirtual 154, 3), (40, .ireturn, 1)]
def aCode_150 : List (Nat × Instr × Nat) := [(0, .iload_n 1, 1), (1, .invokestatic 105, 3), (4, .ifCond .eq 12, 3), (7, .iload_n 2, 1), (8, .iconst 0, 1), (9, .iconst 1, 1), (10, .invokestatic 36, 3), (13, .ifCond .ne 17, 3), (16, .iload_n 1, 1), (17, .invokestatic 105, 3), (20, .ifCond .eq 8, 3), (23, .bipush (-2), 2), (25, .goto 4, 3), (28, .iconst (-1), 1), (29, .ireturn, 1), (30, .aload_n 0, 1), (31, .iload_n 1, 1), (32, .invokevirtual 69, 3), (35, .ifCond .ne 6, 3), (38, .bipush (-5), 2), (40, .ireturn, 1), (41, .aload_n 0, 1), (42, .getfield 7, 3), (45, .iconst 0, 1), (46, .aload_n 0, 1), (47, .getfield 13, 3), (50, .iconst 0, 1), (51, .invokestatic 32, 3), (54, .bipush (-6), 2), (56, .istore_n 3, 1), (57, .bipush 13, 2), (59, .istore 4, 2), (61, .iconst 0, 1), (62, .istore 5, 2), (64, .iload 5, 2), (66, .bipush 16, 2), (68, .if_icmp .ge 48, 3), (71, .aload_n 0, 1), (72, .iload_n 1, 1), (73, .iload 5, 2), (75, .invokevirtual 166, 3), (78, .istore 6, 2), (80, .iload 6, 2), (82, .iload 4, 2), (84, .if_icmp .ge 8, 3), (87, .iload 5, 2), (89, .goto 4, 3), (92, .iload_n 3, 1), (93, .istore_n 3, 1), (94, .iload 6, 2), (96, .iload 4, 2), (98, .if_icmp .ge 8, 3), (101, .iload 6, 2), (103, .goto 5, 3), (106, .iload 4, 2), (108, .istore 4, 2), (110, .iinc 5 1, 3), (113, .goto (-49), 3), (116, .aload_n 0, 1), (117, .getfield 13, 3), (120, .iconst 0, 1), (121, .aload_n 0, 1), (122, .getfield 7, 3), (125, .iconst 0, 1), (126, .invokestatic 32, 3), (129, .iload_n 2, 1), (130, .ifCond .ne 7, 3), (133, .iload_n 3, 1), (134, .goto 5, 3), (137, .iload 4, 2), (139, .ireturn, 1)]
def aCode_151 : List (Nat × Instr × Nat) := [(0, .iload_n 1, 1), (1, .invokestatic 105, 3), (4, .ifCond .ne 5, 3), (7, .iconst (-1), 1), (8, .ireturn, 1), (9, .aload_n 0, 1), (10, .getfield 7, 3), (13, .iconst 0, 1), (14, .aload_n 0, 1), (15, .getfield 13, 3), (18, .iconst 0, 1), (19, .invokestatic 32, 3), (22, .aload_n 0, 1), (23, .iconst 0, 1), (24, .invokevirtual 144, 3), (27, .ifCond .le 10, 3), (30, .aload_n 0, 1), (31, .invokevirtual 141, 3), (34, .goto (-12), 3), (37, .aload_n 0, 1), (38, .getfield 7, 3), (41, .bipush 25, 2), (43, .iload_n 1, 1), (44, .iadd, 1), (45, .iaload, 1), (46, .istore_n 2, 1), (47, .aload_n 0, 1), (48, .getfield 13, 3), (51, .iconst 0, 1), (52, .aload_n 0, 1), (53, .getfield 7, 3), (56, .iconst 0, 1), (57, .invokestatic 32, 3), (60, .iload_n 2, 1), (61, .ireturn, 1)]
def aCode_152 : List (Nat × Instr × Nat) := [(0, .iconst 0, 1), (1, .istore_n 3, 1), (2, .lload_n 1, 1), (3, .lstore 4, 2), (5, .iconst 1, 1), (6, .istore 6, 2), (8, .iload_n 3, 1), (9, .bipush 8, 2), (11, .if_icmp .ge 56, 3), (14, .lload 4, 2), (16, .ldc2_w 169, 3), (19, .land, 1), (20, .lconst 0, 1), (21, .lcmp, 1), (22, .ifCond .eq 45, 3), (25, .iload 6, 2), (27, .ifCond .eq 24, 3), (30, .lload 4, 2), (32, .ldc2_w 169, 3), (35, .land, 1), (36, .l2i, 1), (37, .bipush 33, 2), (39, .bipush 126, 2), (41, .invokestatic 36, 3), (44, .ifCond .eq 7, 3), (47, .iconst 1, 1), (48, .goto 4, 3), (51, .iconst 0, 1), (52, .istore 6, 2), (54, .lload 4, 2), (56, .bipush 8, 2), (58, .lushr, 1), (59, .lstore 4, 2), (61, .iinc 3 1, 3), (64, .goto (-56), 3), (67, .iload_n 3, 1), (68, .ifCond .eq 15, 3), (71, .iload 6, 2), (73, .ifCond .eq 10, 3), (76, .lload 4, 2), (78, .lconst 0, 1), (79, .lcmp, 1), (80, .ifCond .eq 6, 3), (83, .bipush (-2), 2), (85, .ireturn, 1), (86, .aload_n 0, 1), (87, .getfield 163, 3), (90, .iload_n 3, 1), (91, .iadd, 1), (92, .bipush 80, 2), (94, .if_icmp .le 6, 3), (97, .bipush (-4), 2), (99, .ireturn, 1), (100, .iload_n 3, 1), (101, .iconst 1, 1), (102, .isub, 1), (103, .istore 7, 2), (105, .iload 7, 2), (107, .ifCond .lt 40, 3), (110, .aload_n 0, 1), (111, .getfield 25, 3), (114, .aload_n 0, 1), (115, .getfield 163, 3), (118, .lload_n 1, 1), (119, .bipush 8, 2), (121, .iload 7, 2), (123, .imul, 1), (124, .lushr, 1), (125, .ldc2_w 169, 3), (128, .land, 1), (129, .l2i, 1), (130, .iastore, 1), (131, .aload_n 0, 1), (132, .dup, 1), (133, .getfield 163, 3), (136, .iconst 1, 1), (137, .iadd, 1), (138, .putfield 163, 3), (141, .iinc 7 (-1), 3), (144, .goto (-39), 3), (147, .aload_n 0, 1), (148, .getfield 163, 3), (151, .ireturn, 1)]
def aCode_153 : List (Nat × Instr × Nat) := [(0, .aload_n 0, 1), (1, .getfield 163, 3), (4, .istore_n 1, 1), (5, .aload_n 0, 1), (6, .iconst 0, 1), (7, .putfield 163, 3), (10, .iload_n 1, 1), (11, .ireturn, 1)]
def aCode_154 : List (Nat × Instr × Nat) := [(0, .iload_n 1, 1), (1, .aload_n 0, 1), (2, .getfield 163, 3), (5, .if_icmp .ge 12, 3), (8, .aload_n 0, 1), (9, .getfield 25, 3), (12, .iload_n 1, 1), (13, .iaload, 1), (14, .goto 4, 3), (17, .iconst (-1), 1), (18, .ireturn, 1)]
def aCode_155 : List (Nat × Instr × Nat) := [(0, .aload_n 0, 1), (1, .aload_n 0, 1), (2, .getfield 171, 3), (5, .invokevirtual 174, 3), (8, .iload_n 1, 1), (9, .if_icmp .ne 7, 3), (12, .iconst 1, 1), (13, .goto 4, 3), (16, .iconst 0, 1), (17, .istore_n 2, 1), (18, .aload_n 0, 1), (19, .dup, 1), (20, .getfield 171, 3), (23, .iload_n 2, 1), (24, .ifCond .eq 7, 3), (27, .iconst 1, 1), (28, .goto 4, 3), (31, .iconst 0, 1), (32, .iadd, 1), (33, .putfield 171, 3), (36, .iload_n 2, 1), (37, .ireturn, 1)]
def aCode_156 : List (Nat × Instr × Nat) := [(0, .aload_n 0, 1), (1, .aload_n 0, 1), (2, .getfield 171, 3), (5, .invokevirtual 174, 3), (8, .bipush 48, 2), (10, .isub, 1), (11, .istore_n 3, 1), (12, .iload_n 3, 1), (13, .iload_n 1, 1), (14, .iload_n 2, 1), (15, .invokestatic 36, 3), (18, .ifCond .ne 5, 3), (21, .iconst (-1), 1), (22, .ireturn, 1), (23, .aload_n 0, 1), (24, .dup, 1), (25, .getfield 171, 3), (28, .iconst 1, 1), (29, .iadd, 1), (30, .putfield 171, 3), (33, .iload_n 3, 1), (34, .ireturn, 1)]
def aCode_157 : List (Nat × Instr × Nat) := [(0, .aload_n 0, 1), (1, .iconst 0, 1), (2, .bipush 9, 2), (4, .invokevirtual 177, 3), (7, .istore_n 1, 1), (8, .iload_n 1, 1), (9, .ifCond .le 44, 3), (12, .iload_n 1, 1), (13, .sipush 1000, 3), (16, .if_icmp .ge 37, 3), (19, .aload_n 0, 1), (20, .aload_n 0, 1), (21, .getfield 171, 3), (24, .invokevirtual 174, 3), (27, .bipush 48, 2), (29, .bipush 57, 2), (31, .invokestatic 36, 3), (34, .ifCond .eq 19, 3), (37, .bipush 10, 2), (39, .iload_n 1, 1), (40, .imul, 1), (41, .aload_n 0, 1), (42, .iconst 0, 1), (43, .bipush 9, 2), (45, .invokevirtual 177, 3), (48, .iadd, 1), (49, .istore_n 1, 1), (50, .goto (-42), 3), (53, .iload_n 1, 1), (54, .ireturn, 1)]
def aCode_158 : List (Nat × Instr × Nat) := [(0, .aload_n 0, 1), (1, .aload_n 0, 1), (2, .aload_n 0, 1), (3, .getfield 171, 3), (6, .invokevirtual 174, 3), (9, .putfield 180, 3), (12, .aload_n 0, 1), (13, .dup, 1), (14, .getfield 171, 3), (17, .iconst 1, 1), (18, .iadd, 1), (19, .putfield 171, 3), (22, .aload_n 0, 1), (23, .getfield 180, 3), (26, .lookupswitch 278 #[(43, 58), (45, 119), (98, 143), (99, 276), (114, 195), (116, 227)], 58), (84, .aload_n 0, 1), (85, .aload_n 0, 1), (86, .iconst 0, 1), (87, .bipush 7, 2), (89, .invokevirtual 177, 3), (92, .putfield 183, 3), (95, .aload_n 0, 1), (96, .aload_n 0, 1), (97, .getfield 183, 3), (100, .ifCond .lt 19, 3), (103, .aload_n 0, 1), (104, .bipush 61, 2), (106, .invokevirtual 186, 3), (109, .ifCond .eq 10, 3), (112, .aload_n 0, 1), (113, .invokevirtual 189, 3), (116, .goto 5, 3), (119, .bipush (-6), 2), (121, .putfield 192, 3), (124, .aload_n 0, 1), (125, .getfield 183, 3), (128, .ifCond .lt 15, 3), (131, .aload_n 0, 1), (132, .getfield 192, 3), (135, .iconst (-1), 1), (136, .if_icmp .eq 7, 3), (139, .iconst 1, 1), (140, .goto 4, 3), (143, .iconst 0, 1), (144, .ireturn, 1), (145, .aload_n 0, 1), (146, .aload_n 0, 1), (147, .iconst 0, 1), (148, .bipush 7, 2), (150, .invokevirtual 177, 3), (153, .putfield 183, 3), (156, .aload_n 0, 1), (157, .getfield 183, 3), (160, .ifCond .lt 7, 3), (163, .iconst 1, 1), (164, .goto 4, 3), (167, .iconst 0, 1), (168, .ireturn, 1), (169, .aload_n 0, 1), (170, .aload_n 0, 1), (171, .iconst 0, 1), (172, .bipush 7, 2), (174, .invokevirtual 177, 3), (177, .putfield 183, 3), (180, .aload_n 0, 1), (181, .aload_n 0, 1), (182, .getfield 183, 3), (185, .ifCond .lt 19, 3), (188, .aload_n 0, 1), (189, .bipush 61, 2), (191, .invokevirtual 186, 3), (194, .ifCond .eq 10, 3), (197, .aload_n 0, 1), (198, .invokevirtual 189, 3), (201, .goto 4, 3), (204, .iconst (-1), 1), (205, .putfield 192, 3), (208, .aload_n 0, 1), (209, .getfield 192, 3), (212, .ifCond .lt 7, 3), (215, .iconst 1, 1), (216, .goto 4, 3), (219, .iconst 0, 1), (220, .ireturn, 1), (221, .aload_n 0, 1), (222, .aload_n 0, 1), (223, .iconst 1, 1), (224, .bipush 9, 2), (226, .invokevirtual 177, 3), (229, .putfield 183, 3), (232, .aload_n 0, 1), (233, .aload_n 0, 1), (234, .getfield 183, 3), (237, .ifCond .ge 7, 3), (240, .iconst 1, 1), (241, .goto 7, 3), (244, .aload_n 0, 1), (245, .getfield 183, 3), (248, .putfield 183, 3), (251, .iconst 1, 1), (252, .ireturn, 1), (253, .aload_n 0, 1), (254, .aload_n 0, 1), (255, .invokevirtual 189, 3), (258, .putfield 183, 3), (261, .aload_n 0, 1), (262, .aload_n 0, 1), (263, .getfield 183, 3), (266, .ifCond .lt 19, 3), (269, .aload_n 0, 1), (270, .bipush 61, 2), (272, .invokevirtual 186, 3), (275, .ifCond .eq 10, 3), (278, .aload_n 0, 1), (279, .invokevirtual 189, 3), (282, .goto 4, 3), (285, .iconst (-1), 1), (286, .putfield 192, 3), (289, .aload_n 0, 1), (290, .getfield 192, 3), (293, .ifCond .lt 7, 3), (296, .iconst 1, 1), (297, .goto 4, 3), (300, .iconst 0, 1), (301, .ireturn, 1), (302, .iconst 1, 1), (303, .ireturn, 1), (304, .aload_n 0, 1), (305, .dup, 1), (306, .getfield 171, 3), (309, .iconst 1, 1), (310, .isub, 1), (311, .putfield 171, 3), (314, .iconst 0, 1), (315, .ireturn, 1)]
def aCode_159 : List (Nat × Instr × Nat) := [(0, .aload_n 0, 1), (1, .iconst 0, 1), (2, .putfield 171, 3), (5, .aload_n 0, 1), (6, .invokevirtual 195, 3), (9, .ifCond .ne 8, 3), (12, .aload_n 0, 1), (13, .getfield 171, 3), (16, .ireturn, 1), (17, .aload_n 0, 1), (18, .getfield 171, 3), (21, .aload_n 0, 1), (22, .getfield 163, 3), (25, .if_icmp .ne 6, 3), (28, .bipush (-6), 2), (30, .ireturn, 1), (31, .aload_n 0, 1), (32, .bipush 59, 2), (34, .invokevirtual 186, 3), (37, .ifCond .ne (-32), 3), (40, .aload_n 0, 1), (41, .getfield 171, 3), (44, .ireturn, 1)]
def aCode_160 : List (Nat × Instr × Nat) := [(0, .aload_n 0, 1), (1, .invokevirtual 199, 3), (4, .ireturn, 1)]
def aCode_161 : List (Nat × Instr × Nat) := [(0, .aload_n 0, 1), (1, .getfield 180, 3), (4, .lookupswitch 92 #[(43, 44), (45, 57), (98, 66), (116, 79)], 44), (48, .aload_n 0, 1), (49, .aload_n 0, 1), (50, .getfield 183, 3), (53, .aload_n 0, 1), (54, .getfield 192, 3), (57, .invokevirtual 108, 3), (60, .ireturn, 1), (61, .aload_n 0, 1), (62, .aload_n 0, 1), (63, .getfield 183, 3), (66, .invokevirtual 114, 3), (69, .ireturn, 1), (70, .aload_n 0, 1), (71, .aload_n 0, 1), (72, .getfield 183, 3), (75, .aload_n 0, 1), (76, .getfield 192, 3), (79, .invokevirtual 126, 3), (82, .ireturn, 1), (83, .aload_n 0, 1), (84, .aload_n 0, 1), (85, .getfield 183, 3), (88, .aload_n 0, 1), (89, .getfield 192, 3), (92, .invokevirtual 135, 3), (95, .ireturn, 1), (96, .iconst 0, 1), (97, .ireturn, 1)]
def aCode_162 : List (Nat × Instr × Nat) := [(0, .aload_n 0, 1), (1, .getfield 180, 3), (4, .lookupswitch 135 #[(43, 52), (45, 68), (98, 80), (114, 112), (116, 96)], 52), (56, .aload_n 0, 1), (57, .aload_n 0, 1), (58, .getfield 183, 3), (61, .aload_n 0, 1), (62, .getfield 192, 3), (65, .invokevirtual 111, 3), (68, .pop, 1), (69, .goto 75, 3), (72, .aload_n 0, 1), (73, .aload_n 0, 1), (74, .getfield 183, 3), (77, .invokevirtual 117, 3), (80, .pop, 1), (81, .goto 63, 3), (84, .aload_n 0, 1), (85, .aload_n 0, 1), (86, .getfield 183, 3), (89, .aload_n 0, 1), (90, .getfield 192, 3), (93, .invokevirtual 129, 3), (96, .pop, 1), (97, .goto 47, 3), (100, .aload_n 0, 1), (101, .aload_n 0, 1), (102, .getfield 183, 3), (105, .aload_n 0, 1), (106, .getfield 192, 3), (109, .invokevirtual 138, 3), (112, .pop, 1), (113, .goto 31, 3), (116, .iconst 0, 1), (117, .istore_n 1, 1), (118, .iload_n 1, 1), (119, .aload_n 0, 1), (120, .getfield 183, 3), (123, .if_icmp .ge 13, 3), (126, .aload_n 0, 1), (127, .invokevirtual 141, 3), (130, .iinc 1 1, 3), (133, .goto (-15), 3), (136, .goto 8, 3), (139, .aload_n 0, 1), (140, .invokevirtual 147, 3), (143, .pop, 1), (144, .return_, 1)]
def aCode_163 : List (Nat × Instr × Nat) := [(0, .aload_n 0, 1), (1, .invokevirtual 199, 3), (4, .bipush (-6), 2), (6, .if_icmp .eq 6, 3), (9, .bipush (-3), 2), (11, .ireturn, 1), (12, .aload_n 0, 1), (13, .invokevirtual 102, 3), (16, .iconst 0, 1), (17, .istore_n 1, 1), (18, .aload_n 0, 1), (19, .iconst 0, 1), (20, .putfield 171, 3), (23, .iconst 1, 1), (24, .istore_n 2, 1), (25, .iload_n 2, 1), (26, .ifCond .eq 53, 3), (29, .aload_n 0, 1), (30, .getfield 171, 3), (33, .aload_n 0, 1), (34, .getfield 163, 3), (37, .if_icmp .ge 42, 3), (40, .aload_n 0, 1), (41, .invokevirtual 195, 3), (44, .pop, 1), (45, .aload_n 0, 1), (46, .bipush 59, 2), (48, .invokevirtual 186, 3), (51, .pop, 1), (52, .aload_n 0, 1), (53, .invokevirtual 202, 3), (56, .ifCond .ne 7, 3), (59, .iconst 1, 1), (60, .goto 4, 3), (63, .iconst 0, 1), (64, .istore_n 2, 1), (65, .iload_n 2, 1), (66, .ifCond .eq (-41), 3), (69, .aload_n 0, 1), (70, .invokevirtual 205, 3), (73, .iinc 1 1, 3), (76, .goto (-51), 3), (79, .aload_n 0, 1), (80, .iconst 0, 1), (81, .putfield 163, 3), (84, .iload_n 1, 1), (85, .ireturn, 1)]
def aCode_164 : List (Nat × Instr × Nat) := [(0, .aload_n 0, 1), (1, .getfield 28, 3), (4, .ifCond .ne 6, 3), (7, .bipush (-5), 2), (9, .ireturn, 1), (10, .aload_n 0, 1), (11, .dup, 1), (12, .getfield 28, 3), (15, .iconst 1, 1), (16, .isub, 1), (17, .putfield 28, 3), (20, .aload_n 0, 1), (21, .getfield 16, 3), (24, .aload_n 0, 1), (25, .getfield 28, 3), (28, .sipush 371, 3), (31, .imul, 1), (32, .aload_n 0, 1), (33, .getfield 7, 3), (36, .iconst 0, 1), (37, .invokestatic 32, 3), (40, .aload_n 0, 1), (41, .getfield 28, 3), (44, .ireturn, 1)]
def aCode_165 : List (Nat × Instr × Nat) := [(0, .iload_n 1, 1), (1, .iconst 0, 1), (2, .iconst 1, 1), (3, .invokestatic 36, 3), (6, .ifCond .ne 6, 3), (9, .bipush (-2), 2), (11, .ireturn, 1), (12, .aload_n 0, 1), (13, .getfield 7, 3), (16, .iconst 0, 1), (17, .aload_n 0, 1), (18, .getfield 19, 3), (21, .sipush 371, 3), (24, .iload_n 1, 1), (25, .imul, 1), (26, .invokestatic 32, 3), (29, .aload_n 0, 1), (30, .getfield 22, 3), (33, .iload_n 1, 1), (34, .iconst 1, 1), (35, .iastore, 1), (36, .aload_n 0, 1), (37, .getfield 7, 3), (40, .bipush 34, 2), (42, .iaload, 1), (43, .ireturn, 1)]
def aCode_166 : List (Nat × Instr × Nat) := [(0, .iload_n 1, 1), (1, .iconst 0, 1), (2, .iconst 1, 1), (3, .invokestatic 36, 3), (6, .ifCond .ne 6, 3), (9, .bipush (-2), 2), (11, .ireturn, 1), (12, .aload_n 0, 1), (13, .getfield 22, 3), (16, .iload_n 1, 1), (17, .iaload, 1), (18, .ifCond .ne 6, 3), (21, .bipush (-5), 2), (23, .ireturn, 1), (24, .aload_n 0, 1), (25, .invokevirtual 102, 3), (28, .aload_n 0, 1), (29, .getfield 19, 3), (32, .sipush 371, 3), (35, .iload_n 1, 1), (36, .imul, 1), (37, .aload_n 0, 1), (38, .getfield 7, 3), (41, .iconst 0, 1), (42, .invokestatic 32, 3), (45, .aload_n 0, 1), (46, .getfield 7, 3), (49, .bipush 34, 2), (51, .iaload, 1), (52, .ireturn, 1)]
def aCode_167 : List (Nat × Instr × Nat) := [(0, .iload_n 0, 1), (1, .iload_n 0, 1), (2, .iconst 1, 1), (3, .iushr, 1), (4, .ldc_w 265, 3), (7, .iand, 1), (8, .isub, 1), (9, .istore_n 0, 1), (10, .iload_n 0, 1), (11, .ldc_w 266, 3), (14, .iand, 1), (15, .iload_n 0, 1), (16, .iconst 2, 1), (17, .iushr, 1), (18, .ldc_w 266, 3), (21, .iand, 1), (22, .iadd, 1), (23, .istore_n 0, 1), (24, .iload_n 0, 1), (25, .iload_n 0, 1), (26, .iconst 4, 1), (27, .iushr, 1), (28, .iadd, 1), (29, .ldc_w 267, 3), (32, .iand, 1), (33, .istore_n 0, 1), (34, .iload_n 0, 1), (35, .iload_n 0, 1), (36, .bipush 8, 2), (38, .iushr, 1), (39, .iadd, 1), (40, .istore_n 0, 1), (41, .iload_n 0, 1), (42, .iload_n 0, 1), (43, .bipush 16, 2), (45, .iushr, 1), (46, .iadd, 1), (47, .istore_n 0, 1), (48, .iload_n 0, 1), (49, .bipush 63, 2), (51, .iand, 1), (52, .ireturn, 1)]
def aCode_168 : List (Nat × Instr × Nat) := [(0, .new 7, 3), (3, .dup, 1), (4, .invokespecial 9, 3), (7, .astore_n 1, 1), (8, .new 10, 3), (11, .dup, 1), (12, .invokespecial 12, 3), (15, .astore_n 2, 1), (16, .iconst 0, 1), (17, .istore_n 3, 1), (18, .iload_n 3, 1), (19, .aload_n 0, 1), (20, .arraylength, 1), (21, .iconst 4, 1), (22, .isub, 1), (23, .if_icmp .gt 722, 3), (26, .aload_n 0, 1), (27, .iload_n 3, 1), (28, .iaload, 1), (29, .bipush 31, 2), (31, .iand, 1), (32, .tableswitch 707 0 22 #[108, 141, 174, 197, 230, 263, 276, 289, 322, 365, 398, 421, 444, 467, 500, 533, 556, 609, 622, 635, 648, 661, 684], 108), (140, .aload_n 1, 1), (141, .aload_n 0, 1), (142, .iload_n 3, 1), (143, .iconst 1, 1), (144, .iadd, 1), (145, .iaload, 1), (146, .aload_n 0, 1), (147, .iload_n 3, 1), (148, .iconst 2, 1), (149, .iadd, 1), (150, .iaload, 1), (151, .invokevirtual 13, 3), (154, .aload_n 2, 1), (155, .aload_n 0, 1), (156, .iload_n 3, 1), (157, .iconst 1, 1), (158, .iadd, 1), (159, .iaload, 1), (160, .aload_n 0, 1), (161, .iload_n 3, 1), (162, .iconst 2, 1), (163, .iadd, 1), (164, .iaload, 1), (165, .invokevirtual 17, 3), (168, .if_icmp .eq 571, 3), (171, .iconst 0, 1), (172, .ireturn, 1), (173, .aload_n 1, 1), (174, .aload_n 0, 1), (175, .iload_n 3, 1), (176, .iconst 1, 1), (177, .iadd, 1), (178, .iaload, 1), (179, .aload_n 0, 1), (180, .iload_n 3, 1), (181, .iconst 2, 1), (182, .iadd, 1), (183, .iaload, 1), (184, .invokevirtual 18, 3), (187, .aload_n 2, 1), (188, .aload_n 0, 1), (189, .iload_n 3, 1), (190, .iconst 1, 1), (191, .iadd, 1), (192, .iaload, 1), (193, .aload_n 0, 1), (194, .iload_n 3, 1), (195, .iconst 2, 1), (196, .iadd, 1), (197, .iaload, 1), (198, .invokevirtual 21, 3), (201, .if_icmp .eq 538, 3), (204, .iconst 0, 1), (205, .ireturn, 1), (206, .aload_n 1, 1), (207, .aload_n 0, 1), (208, .iload_n 3, 1), (209, .iconst 1, 1), (210, .iadd, 1), (211, .iaload, 1), (212, .invokevirtual 22, 3), (215, .aload_n 2, 1), (216, .aload_n 0, 1), (217, .iload_n 3, 1), (218, .iconst 1, 1), (219, .iadd, 1), (220, .iaload, 1), (221, .invokevirtual 26, 3), (224, .if_icmp .eq 515, 3), (227, .iconst 0, 1), (228, .ireturn, 1), (229, .aload_n 1, 1), (230, .aload_n 0, 1), (231, .iload_n 3, 1), (232, .iconst 1, 1), (233, .iadd, 1), (234, .iaload, 1), (235, .aload_n 0, 1), (236, .iload_n 3, 1), (237, .iconst 2, 1), (238, .iadd, 1), (239, .iaload, 1), (240, .invokevirtual 27, 3), (243, .aload_n 2, 1), (244, .aload_n 0, 1), (245, .iload_n 3, 1), (246, .iconst 1, 1), (247, .iadd, 1), (248, .iaload, 1), (249, .aload_n 0, 1), (250, .iload_n 3, 1), (251, .iconst 2, 1), (252, .iadd, 1), (253, .iaload, 1), (254, .invokevirtual 30, 3), (257, .if_icmp .eq 482, 3), (260, .iconst 0, 1), (261, .ireturn, 1), (262, .aload_n 1, 1), (263, .aload_n 0, 1), (264, .iload_n 3, 1), (265, .iconst 1, 1), (266, .iadd, 1), (267, .iaload, 1), (268, .aload_n 0, 1), (269, .iload_n 3, 1), (270, .iconst 2, 1), (271, .iadd, 1), (272, .iaload, 1), (273, .invokevirtual 31, 3), (276, .aload_n 2, 1), (277, .aload_n 0, 1), (278, .iload_n 3, 1), (279, .iconst 1, 1), (280, .iadd, 1), (281, .iaload, 1), (282, .aload_n 0, 1), (283, .iload_n 3, 1), (284, .iconst 2, 1), (285, .iadd, 1), (286, .iaload, 1), (287, .invokevirtual 34, 3), (290, .if_icmp .eq 449, 3), (293, .iconst 0, 1), (294, .ireturn, 1), (295, .aload_n 1, 1), (296, .invokevirtual 35, 3), (299, .aload_n 2, 1), (300, .invokevirtual 39, 3), (303, .if_icmp .eq 436, 3), (306, .iconst 0, 1), (307, .ireturn, 1), (308, .aload_n 1, 1), (309, .invokevirtual 40, 3), (312, .aload_n 2, 1), (313, .invokevirtual 43, 3), (316, .if_icmp .eq 423, 3), (319, .iconst 0, 1), (320, .ireturn, 1), (321, .aload_n 1, 1), (322, .aload_n 0, 1), (323, .iload_n 3, 1), (324, .iconst 1, 1), (325, .iadd, 1), (326, .iaload, 1), (327, .aload_n 0, 1), (328, .iload_n 3, 1), (329, .iconst 2, 1), (330, .iadd, 1), (331, .iaload, 1), (332, .invokevirtual 44, 3), (335, .aload_n 2, 1), (336, .aload_n 0, 1), (337, .iload_n 3, 1), (338, .iconst 1, 1), (339, .iadd, 1), (340, .iaload, 1), (341, .aload_n 0, 1), (342, .iload_n 3, 1), (343, .iconst 2, 1), (344, .iadd, 1), (345, .iaload, 1), (346, .invokevirtual 47, 3), (349, .if_icmp .eq 390, 3), (352, .iconst 0, 1), (353, .ireturn, 1), (354, .aload_n 1, 1), (355, .aload_n 0, 1), (356, .iload_n 3, 1), (357, .iconst 1, 1), (358, .iadd, 1), (359, .iaload, 1), (360, .aload_n 0, 1), (361, .iload_n 3, 1), (362, .iconst 2, 1), (363, .iadd, 1), (364, .iaload, 1), (365, .aload_n 0, 1), (366, .iload_n 3, 1), (367, .iconst 3, 1), (368, .iadd, 1), (369, .iaload, 1), (370, .invokevirtual 48, 3), (373, .aload_n 2, 1), (374, .aload_n 0, 1), (375, .iload_n 3, 1), (376, .iconst 1, 1), (377, .iadd, 1), (378, .iaload, 1), (379, .aload_n 0, 1), (380, .iload_n 3, 1), (381, .iconst 2, 1), (382, .iadd, 1), (383, .iaload, 1), (384, .aload_n 0, 1), (385, .iload_n 3, 1), (386, .iconst 3, 1), (387, .iadd, 1), (388, .iaload, 1), (389, .invokevirtual 52, 3), (392, .if_icmp .eq 347, 3), (395, .iconst 0, 1), (396, .ireturn, 1), (397, .aload_n 1, 1), (398, .aload_n 0, 1), (399, .iload_n 3, 1), (400, .iconst 1, 1), (401, .iadd, 1), (402, .iaload, 1), (403, .aload_n 0, 1), (404, .iload_n 3, 1), (405, .iconst 2, 1), (406, .iadd, 1), (407, .iaload, 1), (408, .invokevirtual 53, 3), (411, .aload_n 2, 1), (412, .aload_n 0, 1), (413, .iload_n 3, 1), (414, .iconst 1, 1), (415, .iadd, 1), (416, .iaload, 1), (417, .aload_n 0, 1), (418, .iload_n 3, 1), (419, .iconst 2, 1), (420, .iadd, 1), (421, .iaload, 1), (422, .invokevirtual 56, 3), (425, .if_icmp .eq 314, 3), (428, .iconst 0, 1), (429, .ireturn, 1), (430, .aload_n 1, 1), (431, .aload_n 0, 1), (432, .iload_n 3, 1), (433, .iconst 1, 1), (434, .iadd, 1), (435, .iaload, 1), (436, .invokevirtual 57, 3), (439, .aload_n 2, 1), (440, .aload_n 0, 1), (441, .iload_n 3, 1), (442, .iconst 1, 1), (443, .iadd, 1), (444, .iaload, 1), (445, .invokevirtual 60, 3), (448, .if_icmp .eq 291, 3), (451, .iconst 0, 1), (452, .ireturn, 1), (453, .aload_n 1, 1), (454, .aload_n 0, 1), (455, .iload_n 3, 1), (456, .iconst 1, 1), (457, .iadd, 1), (458, .iaload, 1), (459, .invokevirtual 61, 3), (462, .aload_n 2, 1), (463, .aload_n 0, 1), (464, .iload_n 3, 1), (465, .iconst 1, 1), (466, .iadd, 1), (467, .iaload, 1), (468, .invokevirtual 64, 3), (471, .if_icmp .eq 268, 3), (474, .iconst 0, 1), (475, .ireturn, 1), (476, .aload_n 1, 1), (477, .aload_n 0, 1), (478, .iload_n 3, 1), (479, .iconst 1, 1), (480, .iadd, 1), (481, .iaload, 1), (482, .invokevirtual 65, 3), (485, .aload_n 2, 1), (486, .aload_n 0, 1), (487, .iload_n 3, 1), (488, .iconst 1, 1), (489, .iadd, 1), (490, .iaload, 1), (491, .invokevirtual 68, 3), (494, .if_icmp .eq 245, 3), (497, .iconst 0, 1), (498, .ireturn, 1), (499, .aload_n 1, 1), (500, .aload_n 0, 1), (501, .iload_n 3, 1), (502, .iconst 1, 1), (503, .iadd, 1), (504, .iaload, 1), (505, .aload_n 0, 1), (506, .iload_n 3, 1), (507, .iconst 2, 1), (508, .iadd, 1), (509, .iaload, 1), (510, .invokevirtual 69, 3), (513, .aload_n 2, 1), (514, .aload_n 0, 1), (515, .iload_n 3, 1), (516, .iconst 1, 1), (517, .iadd, 1), (518, .iaload, 1), (519, .aload_n 0, 1), (520, .iload_n 3, 1), (521, .iconst 2, 1), (522, .iadd, 1), (523, .iaload, 1), (524, .invokevirtual 72, 3), (527, .if_icmp .eq 212, 3), (530, .iconst 0, 1), (531, .ireturn, 1), (532, .aload_n 1, 1), (533, .aload_n 0, 1), (534, .iload_n 3, 1), (535, .iconst 1, 1), (536, .iadd, 1), (537, .iaload, 1), (538, .aload_n 0, 1), (539, .iload_n 3, 1), (540, .iconst 2, 1), (541, .iadd, 1), (542, .iaload, 1), (543, .invokevirtual 73, 3), (546, .aload_n 2, 1), (547, .aload_n 0, 1), (548, .iload_n 3, 1), (549, .iconst 1, 1), (550, .iadd, 1), (551, .iaload, 1), (552, .aload_n 0, 1), (553, .iload_n 3, 1), (554, .iconst 2, 1), (555, .iadd, 1), (556, .iaload, 1), (557, .invokevirtual 76, 3), (560, .if_icmp .eq 179, 3), (563, .iconst 0, 1), (564, .ireturn, 1), (565, .aload_n 1, 1), (566, .aload_n 0, 1), (567, .iload_n 3, 1), (568, .iconst 1, 1), (569, .iadd, 1), (570, .iaload, 1), (571, .invokevirtual 77, 3), (574, .aload_n 2, 1), (575, .aload_n 0, 1), (576, .iload_n 3, 1), (577, .iconst 1, 1), (578, .iadd, 1), (579, .iaload, 1), (580, .invokevirtual 80, 3), (583, .if_icmp .eq 156, 3), (586, .iconst 0, 1), (587, .ireturn, 1), (588, .aload_n 1, 1), (589, .aload_n 0, 1), (590, .iload_n 3, 1), (591, .iconst 1, 1), (592, .iadd, 1), (593, .iaload, 1), (594, .i2l, 1), (595, .bipush 32, 2), (597, .lshl, 1), (598, .aload_n 0, 1), (599, .iload_n 3, 1), (600, .iconst 2, 1), (601, .iadd, 1), (602, .iaload, 1), (603, .i2l, 1), (604, .ldc2_w 81, 3), (607, .land, 1), (608, .lor, 1), (609, .invokevirtual 83, 3), (612, .aload_n 2, 1), (613, .aload_n 0, 1), (614, .iload_n 3, 1), (615, .iconst 1, 1), (616, .iadd, 1), (617, .iaload, 1), (618, .i2l, 1), (619, .bipush 32, 2), (621, .lshl, 1), (622, .aload_n 0, 1), (623, .iload_n 3, 1), (624, .iconst 2, 1), (625, .iadd, 1), (626, .iaload, 1), (627, .i2l, 1), (628, .ldc2_w 81, 3), (631, .land, 1), (632, .lor, 1), (633, .invokevirtual 87, 3), (636, .if_icmp .eq 103, 3), (639, .iconst 0, 1), (640, .ireturn, 1), (641, .aload_n 1, 1), (642, .invokevirtual 88, 3), (645, .aload_n 2, 1), (646, .invokevirtual 91, 3), (649, .if_icmp .eq 90, 3), (652, .iconst 0, 1), (653, .ireturn, 1), (654, .aload_n 1, 1), (655, .invokevirtual 92, 3), (658, .aload_n 2, 1), (659, .invokevirtual 95, 3), (662, .if_icmp .eq 77, 3), (665, .iconst 0, 1), (666, .ireturn, 1), (667, .aload_n 1, 1), (668, .invokevirtual 96, 3), (671, .aload_n 2, 1), (672, .invokevirtual 99, 3), (675, .if_icmp .eq 64, 3), (678, .iconst 0, 1), (679, .ireturn, 1), (680, .aload_n 1, 1), (681, .invokevirtual 100, 3), (684, .aload_n 2, 1), (685, .invokevirtual 103, 3), (688, .if_icmp .eq 51, 3), (691, .iconst 0, 1), (692, .ireturn, 1), (693, .aload_n 1, 1), (694, .aload_n 0, 1), (695, .iload_n 3, 1), (696, .iconst 1, 1), (697, .iadd, 1), (698, .iaload, 1), (699, .invokevirtual 104, 3), (702, .aload_n 2, 1), (703, .aload_n 0, 1), (704, .iload_n 3, 1), (705, .iconst 1, 1), (706, .iadd, 1), (707, .iaload, 1), (708, .invokevirtual 107, 3), (711, .if_icmp .eq 28, 3), (714, .iconst 0, 1), (715, .ireturn, 1), (716, .aload_n 1, 1), (717, .aload_n 0, 1), (718, .iload_n 3, 1), (719, .iconst 1, 1), (720, .iadd, 1), (721, .iaload, 1), (722, .invokevirtual 108, 3), (725, .aload_n 2, 1), (726, .aload_n 0, 1), (727, .iload_n 3, 1), (728, .iconst 1, 1), (729, .iadd, 1), (730, .iaload, 1), (731, .invokevirtual 111, 3), (734, .if_icmp .eq 5, 3), (737, .iconst 0, 1), (738, .ireturn, 1), (739, .iinc 3 4, 3), (742, .goto (-724), 3), (745, .iconst 1, 1), (746, .ireturn, 1)]
def aLenOK (I : Instr) (n : Nat) : Bool := match I with
  | .tableswitch _ _ _ _ => true
  | .lookupswitch _ _ => true
  | .bipush _ => n == 2
  | .iload _ => n == 2
  | .lload _ => n == 2
  | .aload _ => n == 2
  | .istore _ => n == 2
  | .lstore _ => n == 2
  | .astore _ => n == 2
  | .newarray _ => n == 2
  | .ldc _ => n == 2
  | .sipush _ => n == 3
  | .ldc_w _ => n == 3
  | .ldc2_w _ => n == 3
  | .iinc _ _ => n == 3
  | .ifCond _ _ => n == 3
  | .if_icmp _ _ => n == 3
  | .goto _ => n == 3
  | .ifnull _ => n == 3
  | .ifnonnull _ => n == 3
  | .getfield _ => n == 3
  | .putfield _ => n == 3
  | .invokevirtual _ => n == 3
  | .invokespecial _ => n == 3
  | .invokestatic _ => n == 3
  | .new _ => n == 3
  | .anewarray _ => n == 3
  | _ => n == 1
set_option maxRecDepth 100000 in
theorem aDec_0 : ∀ q ∈ aCode_0, decode cX0_init q.1 = .ok q.2 ∧ aLenOK q.2.1 q.2.2 = true := by decide +kernel
set_option maxRecDepth 100000 in
theorem aDec_1 : ∀ q ∈ aCode_1, decode cX0_start q.1 = .ok q.2 ∧ aLenOK q.2.1 q.2.2 = true := by decide +kernel
set_option maxRecDepth 100000 in
theorem aDec_2 : ∀ q ∈ aCode_2, decode cX0_addPage q.1 = .ok q.2 ∧ aLenOK q.2.1 q.2.2 = true := by decide +kernel
set_option maxRecDepth 100000 in
theorem aDec_3 : ∀ q ∈ aCode_3, decode cX0_addToldPage q.1 = .ok q.2 ∧ aLenOK q.2.1 q.2.2 = true := by decide +kernel
set_option maxRecDepth 100000 in
theorem aDec_4 : ∀ q ∈ aCode_4, decode cX0_copyFrom q.1 = .ok q.2 ∧ aLenOK q.2.1 q.2.2 = true := by decide +kernel
set_option maxRecDepth 100000 in
theorem aDec_5 : ∀ q ∈ aCode_5, decode cX0_goesRound q.1 = .ok q.2 ∧ aLenOK q.2.1 q.2.2 = true := by decide +kernel
set_option maxRecDepth 100000 in
theorem aDec_6 : ∀ q ∈ aCode_6, decode cX0_seatOf q.1 = .ok q.2 ∧ aLenOK q.2.1 q.2.2 = true := by decide +kernel
set_option maxRecDepth 100000 in
theorem aDec_7 : ∀ q ∈ aCode_7, decode cX0_markOf q.1 = .ok q.2 ∧ aLenOK q.2.1 q.2.2 = true := by decide +kernel
set_option maxRecDepth 100000 in
theorem aDec_8 : ∀ q ∈ aCode_8, decode cX0_wasTold q.1 = .ok q.2 ∧ aLenOK q.2.1 q.2.2 = true := by decide +kernel
set_option maxRecDepth 100000 in
theorem aDec_9 : ∀ q ∈ aCode_9, decode cX0_liesAt q.1 = .ok q.2 ∧ aLenOK q.2.1 q.2.2 = true := by decide +kernel
set_option maxRecDepth 100000 in
theorem aDec_10 : ∀ q ∈ aCode_10, decode cX0_endsWithWord q.1 = .ok q.2 ∧ aLenOK q.2.1 q.2.2 = true := by decide +kernel
set_option maxRecDepth 100000 in
theorem aDec_11 : ∀ q ∈ aCode_11, decode cX0_firstWord q.1 = .ok q.2 ∧ aLenOK q.2.1 q.2.2 = true := by decide +kernel
set_option maxRecDepth 100000 in
theorem aDec_12 : ∀ q ∈ aCode_12, decode cX0_lastWord q.1 = .ok q.2 ∧ aLenOK q.2.1 q.2.2 = true := by decide +kernel
set_option maxRecDepth 100000 in
theorem aDec_13 : ∀ q ∈ aCode_13, decode cX0_hasFoundWordAgain q.1 = .ok q.2 ∧ aLenOK q.2.1 q.2.2 = true := by decide +kernel
set_option maxRecDepth 100000 in
theorem aDec_14 : ∀ q ∈ aCode_14, decode cX0_wordChanges q.1 = .ok q.2 ∧ aLenOK q.2.1 q.2.2 = true := by decide +kernel
set_option maxRecDepth 100000 in
theorem aDec_15 : ∀ q ∈ aCode_15, decode cX0_seatSet q.1 = .ok q.2 ∧ aLenOK q.2.1 q.2.2 = true := by decide +kernel
set_option maxRecDepth 100000 in
theorem aDec_16 : ∀ q ∈ aCode_16, decode cX1_init q.1 = .ok q.2 ∧ aLenOK q.2.1 q.2.2 = true := by decide +kernel
set_option maxRecDepth 100000 in
theorem aDec_17 : ∀ q ∈ aCode_17, decode cX1_follow q.1 = .ok q.2 ∧ aLenOK q.2.1 q.2.2 = true := by decide +kernel
set_option maxRecDepth 100000 in
theorem aDec_18 : ∀ q ∈ aCode_18, decode cX1_followAll q.1 = .ok q.2 ∧ aLenOK q.2.1 q.2.2 = true := by decide +kernel
set_option maxRecDepth 100000 in
theorem aDec_19 : ∀ q ∈ aCode_19, decode cX1_differenceAtHome q.1 = .ok q.2 ∧ aLenOK q.2.1 q.2.2 = true := by decide +kernel
set_option maxRecDepth 100000 in
theorem aDec_20 : ∀ q ∈ aCode_20, decode cX1_playToEnd q.1 = .ok q.2 ∧ aLenOK q.2.1 q.2.2 = true := by decide +kernel
set_option maxRecDepth 100000 in
theorem aDec_21 : ∀ q ∈ aCode_21, decode cX2_init q.1 = .ok q.2 ∧ aLenOK q.2.1 q.2.2 = true := by decide +kernel
set_option maxRecDepth 100000 in
theorem aDec_22 : ∀ q ∈ aCode_22, decode cX2_stateAt q.1 = .ok q.2 ∧ aLenOK q.2.1 q.2.2 = true := by decide +kernel
set_option maxRecDepth 100000 in
theorem aDec_23 : ∀ q ∈ aCode_23, decode cX2_prepare q.1 = .ok q.2 ∧ aLenOK q.2.1 q.2.2 = true := by decide +kernel
set_option maxRecDepth 100000 in
theorem aDec_24 : ∀ q ∈ aCode_24, decode cX2_recordUnlessError q.1 = .ok q.2 ∧ aLenOK q.2.1 q.2.2 = true := by decide +kernel
set_option maxRecDepth 100000 in
theorem aDec_25 : ∀ q ∈ aCode_25, decode cX2_takeBack q.1 = .ok q.2 ∧ aLenOK q.2.1 q.2.2 = true := by decide +kernel
set_option maxRecDepth 100000 in
theorem aDec_26 : ∀ q ∈ aCode_26, decode cX3_init q.1 = .ok q.2 ∧ aLenOK q.2.1 q.2.2 = true := by decide +kernel
set_option maxRecDepth 100000 in
theorem aDec_27 : ∀ q ∈ aCode_27, decode cX3_append q.1 = .ok q.2 ∧ aLenOK q.2.1 q.2.2 = true := by decide +kernel
set_option maxRecDepth 100000 in
theorem aDec_28 : ∀ q ∈ aCode_28, decode cX3_signsIn q.1 = .ok q.2 ∧ aLenOK q.2.1 q.2.2 = true := by decide +kernel
set_option maxRecDepth 100000 in
theorem aDec_29 : ∀ q ∈ aCode_29, decode cX3_empty q.1 = .ok q.2 ∧ aLenOK q.2.1 q.2.2 = true := by decide +kernel
set_option maxRecDepth 100000 in
theorem aDec_30 : ∀ q ∈ aCode_30, decode cX3_findFault q.1 = .ok q.2 ∧ aLenOK q.2.1 q.2.2 = true := by decide +kernel
set_option maxRecDepth 100000 in
theorem aDec_31 : ∀ q ∈ aCode_31, decode cX3_startReading q.1 = .ok q.2 ∧ aLenOK q.2.1 q.2.2 = true := by decide +kernel
set_option maxRecDepth 100000 in
theorem aDec_32 : ∀ q ∈ aCode_32, decode cX3_readNext q.1 = .ok q.2 ∧ aLenOK q.2.1 q.2.2 = true := by decide +kernel
set_option maxRecDepth 100000 in
theorem aDec_33 : ∀ q ∈ aCode_33, decode cX3_readOrder q.1 = .ok q.2 ∧ aLenOK q.2.1 q.2.2 = true := by decide +kernel
set_option maxRecDepth 100000 in
theorem aDec_34 : ∀ q ∈ aCode_34, decode cX3_readSeat q.1 = .ok q.2 ∧ aLenOK q.2.1 q.2.2 = true := by decide +kernel
set_option maxRecDepth 100000 in
theorem aDec_35 : ∀ q ∈ aCode_35, decode cX3_readRounds q.1 = .ok q.2 ∧ aLenOK q.2.1 q.2.2 = true := by decide +kernel
set_option maxRecDepth 100000 in
theorem aDec_36 : ∀ q ∈ aCode_36, decode cX3_readNumber q.1 = .ok q.2 ∧ aLenOK q.2.1 q.2.2 = true := by decide +kernel
set_option maxRecDepth 100000 in
theorem aDec_37 : ∀ q ∈ aCode_37, decode cX3_take q.1 = .ok q.2 ∧ aLenOK q.2.1 q.2.2 = true := by decide +kernel
set_option maxRecDepth 100000 in
theorem aDec_38 : ∀ q ∈ aCode_38, decode cX3_digitHere q.1 = .ok q.2 ∧ aLenOK q.2.1 q.2.2 = true := by decide +kernel
set_option maxRecDepth 100000 in
theorem aDec_39 : ∀ q ∈ aCode_39, decode cX3_signHere q.1 = .ok q.2 ∧ aLenOK q.2.1 q.2.2 = true := by decide +kernel
set_option maxRecDepth 100000 in
theorem aDec_40 : ∀ q ∈ aCode_40, decode cX4_init q.1 = .ok q.2 ∧ aLenOK q.2.1 q.2.2 = true := by decide +kernel
set_option maxRecDepth 100000 in
theorem aDec_41 : ∀ q ∈ aCode_41, decode cX5_init q.1 = .ok q.2 ∧ aLenOK q.2.1 q.2.2 = true := by decide +kernel
set_option maxRecDepth 100000 in
theorem aDec_42 : ∀ q ∈ aCode_42, decode cX5_copyFrom q.1 = .ok q.2 ∧ aLenOK q.2.1 q.2.2 = true := by decide +kernel
set_option maxRecDepth 100000 in
theorem aDec_43 : ∀ q ∈ aCode_43, decode cX5_placeAt q.1 = .ok q.2 ∧ aLenOK q.2.1 q.2.2 = true := by decide +kernel
set_option maxRecDepth 100000 in
theorem aDec_44 : ∀ q ∈ aCode_44, decode cX5_albumAt q.1 = .ok q.2 ∧ aLenOK q.2.1 q.2.2 = true := by decide +kernel
set_option maxRecDepth 100000 in
theorem aDec_45 : ∀ q ∈ aCode_45, decode cX5_isTaken q.1 = .ok q.2 ∧ aLenOK q.2.1 q.2.2 = true := by decide +kernel
set_option maxRecDepth 100000 in
theorem aDec_46 : ∀ q ∈ aCode_46, decode cX5_changeFeatures q.1 = .ok q.2 ∧ aLenOK q.2.1 q.2.2 = true := by decide +kernel
set_option maxRecDepth 100000 in
theorem aDec_47 : ∀ q ∈ aCode_47, decode cX5_sitDown q.1 = .ok q.2 ∧ aLenOK q.2.1 q.2.2 = true := by decide +kernel
set_option maxRecDepth 100000 in
theorem aDec_48 : ∀ q ∈ aCode_48, decode cX5_standUp q.1 = .ok q.2 ∧ aLenOK q.2.1 q.2.2 = true := by decide +kernel
set_option maxRecDepth 100000 in
theorem aDec_49 : ∀ q ∈ aCode_49, decode cX5_beginAlbum q.1 = .ok q.2 ∧ aLenOK q.2.1 q.2.2 = true := by decide +kernel
set_option maxRecDepth 100000 in
theorem aDec_50 : ∀ q ∈ aCode_50, decode cX5_tellPage q.1 = .ok q.2 ∧ aLenOK q.2.1 q.2.2 = true := by decide +kernel
set_option maxRecDepth 100000 in
theorem aDec_51 : ∀ q ∈ aCode_51, decode cX5_makeRound q.1 = .ok q.2 ∧ aLenOK q.2.1 q.2.2 = true := by decide +kernel
set_option maxRecDepth 100000 in
theorem aDec_52 : ∀ q ∈ aCode_52, decode cX5_clearEnded q.1 = .ok q.2 ∧ aLenOK q.2.1 q.2.2 = true := by decide +kernel
set_option maxRecDepth 100000 in
theorem aDec_53 : ∀ q ∈ aCode_53, decode cX5_passOn q.1 = .ok q.2 ∧ aLenOK q.2.1 q.2.2 = true := by decide +kernel
set_option maxRecDepth 100000 in
theorem aDec_54 : ∀ q ∈ aCode_54, decode cX5_nextSeat q.1 = .ok q.2 ∧ aLenOK q.2.1 q.2.2 = true := by decide +kernel
set_option maxRecDepth 100000 in
theorem aDec_55 : ∀ q ∈ aCode_55, decode cX5_end q.1 = .ok q.2 ∧ aLenOK q.2.1 q.2.2 = true := by decide +kernel
set_option maxRecDepth 100000 in
theorem aDec_56 : ∀ q ∈ aCode_56, decode cX5_pageBy q.1 = .ok q.2 ∧ aLenOK q.2.1 q.2.2 = true := by decide +kernel
set_option maxRecDepth 100000 in
theorem aDec_57 : ∀ q ∈ aCode_57, decode cX5_mostLike q.1 = .ok q.2 ∧ aLenOK q.2.1 q.2.2 = true := by decide +kernel
set_option maxRecDepth 100000 in
theorem aDec_58 : ∀ q ∈ aCode_58, decode cX5_difference q.1 = .ok q.2 ∧ aLenOK q.2.1 q.2.2 = true := by decide +kernel
set_option maxRecDepth 100000 in
theorem aDec_59 : ∀ q ∈ aCode_59, decode cX5_albumGoingRoundOf q.1 = .ok q.2 ∧ aLenOK q.2.1 q.2.2 = true := by decide +kernel
set_option maxRecDepth 100000 in
theorem aDec_60 : ∀ q ∈ aCode_60, decode cX5_albumsThatAre q.1 = .ok q.2 ∧ aLenOK q.2.1 q.2.2 = true := by decide +kernel
set_option maxRecDepth 100000 in
theorem aDec_61 : ∀ q ∈ aCode_61, decode cX5_pagesBy q.1 = .ok q.2 ∧ aLenOK q.2.1 q.2.2 = true := by decide +kernel
set_option maxRecDepth 100000 in
theorem aDec_62 : ∀ q ∈ aCode_62, decode cX5_allPoints q.1 = .ok q.2 ∧ aLenOK q.2.1 q.2.2 = true := by decide +kernel
set_option maxRecDepth 100000 in
theorem aDec_63 : ∀ q ∈ aCode_63, decode cX6_init q.1 = .ok q.2 ∧ aLenOK q.2.1 q.2.2 = true := by decide +kernel
set_option maxRecDepth 100000 in
theorem aDec_64 : ∀ q ∈ aCode_64, decode cX6_teach q.1 = .ok q.2 ∧ aLenOK q.2.1 q.2.2 = true := by decide +kernel
set_option maxRecDepth 100000 in
theorem aDec_65 : ∀ q ∈ aCode_65, decode cX6_sit q.1 = .ok q.2 ∧ aLenOK q.2.1 q.2.2 = true := by decide +kernel
set_option maxRecDepth 100000 in
theorem aDec_66 : ∀ q ∈ aCode_66, decode cX6_leave q.1 = .ok q.2 ∧ aLenOK q.2.1 q.2.2 = true := by decide +kernel
set_option maxRecDepth 100000 in
theorem aDec_67 : ∀ q ∈ aCode_67, decode cX6_begin q.1 = .ok q.2 ∧ aLenOK q.2.1 q.2.2 = true := by decide +kernel
set_option maxRecDepth 100000 in
theorem aDec_68 : ∀ q ∈ aCode_68, decode cX6_tell q.1 = .ok q.2 ∧ aLenOK q.2.1 q.2.2 = true := by decide +kernel
set_option maxRecDepth 100000 in
theorem aDec_69 : ∀ q ∈ aCode_69, decode cX6_round q.1 = .ok q.2 ∧ aLenOK q.2.1 q.2.2 = true := by decide +kernel
set_option maxRecDepth 100000 in
theorem aDec_70 : ∀ q ∈ aCode_70, decode cX6_clear q.1 = .ok q.2 ∧ aLenOK q.2.1 q.2.2 = true := by decide +kernel
set_option maxRecDepth 100000 in
theorem aDec_71 : ∀ q ∈ aCode_71, decode cX6_of q.1 = .ok q.2 ∧ aLenOK q.2.1 q.2.2 = true := by decide +kernel
set_option maxRecDepth 100000 in
theorem aDec_72 : ∀ q ∈ aCode_72, decode cX6_page q.1 = .ok q.2 ∧ aLenOK q.2.1 q.2.2 = true := by decide +kernel
set_option maxRecDepth 100000 in
theorem aDec_73 : ∀ q ∈ aCode_73, decode cX6_seat q.1 = .ok q.2 ∧ aLenOK q.2.1 q.2.2 = true := by decide +kernel
set_option maxRecDepth 100000 in
theorem aDec_74 : ∀ q ∈ aCode_74, decode cX6_word q.1 = .ok q.2 ∧ aLenOK q.2.1 q.2.2 = true := by decide +kernel
set_option maxRecDepth 100000 in
theorem aDec_75 : ∀ q ∈ aCode_75, decode cX6_count q.1 = .ok q.2 ∧ aLenOK q.2.1 q.2.2 = true := by decide +kernel
set_option maxRecDepth 100000 in
theorem aDec_76 : ∀ q ∈ aCode_76, decode cX6_guess q.1 = .ok q.2 ∧ aLenOK q.2.1 q.2.2 = true := by decide +kernel
set_option maxRecDepth 100000 in
theorem aDec_77 : ∀ q ∈ aCode_77, decode cX6_foretold q.1 = .ok q.2 ∧ aLenOK q.2.1 q.2.2 = true := by decide +kernel
set_option maxRecDepth 100000 in
theorem aDec_78 : ∀ q ∈ aCode_78, decode cX6_bestWord q.1 = .ok q.2 ∧ aLenOK q.2.1 q.2.2 = true := by decide +kernel
set_option maxRecDepth 100000 in
theorem aDec_79 : ∀ q ∈ aCode_79, decode cX6_pointsThen q.1 = .ok q.2 ∧ aLenOK q.2.1 q.2.2 = true := by decide +kernel
set_option maxRecDepth 100000 in
theorem aDec_80 : ∀ q ∈ aCode_80, decode cX6_put q.1 = .ok q.2 ∧ aLenOK q.2.1 q.2.2 = true := by decide +kernel
set_option maxRecDepth 100000 in
theorem aDec_81 : ∀ q ∈ aCode_81, decode cX6_wipe q.1 = .ok q.2 ∧ aLenOK q.2.1 q.2.2 = true := by decide +kernel
set_option maxRecDepth 100000 in
theorem aDec_82 : ∀ q ∈ aCode_82, decode cX6_fault q.1 = .ok q.2 ∧ aLenOK q.2.1 q.2.2 = true := by decide +kernel
set_option maxRecDepth 100000 in
theorem aDec_83 : ∀ q ∈ aCode_83, decode cX6_carryOut q.1 = .ok q.2 ∧ aLenOK q.2.1 q.2.2 = true := by decide +kernel
set_option maxRecDepth 100000 in
theorem aDec_84 : ∀ q ∈ aCode_84, decode cX6_undo q.1 = .ok q.2 ∧ aLenOK q.2.1 q.2.2 = true := by decide +kernel
set_option maxRecDepth 100000 in
theorem aDec_85 : ∀ q ∈ aCode_85, decode cX6_save q.1 = .ok q.2 ∧ aLenOK q.2.1 q.2.2 = true := by decide +kernel
set_option maxRecDepth 100000 in
theorem aDec_86 : ∀ q ∈ aCode_86, decode cX6_restore q.1 = .ok q.2 ∧ aLenOK q.2.1 q.2.2 = true := by decide +kernel
set_option maxRecDepth 100000 in
theorem aDec_87 : ∀ q ∈ aCode_87, decode cX6_carryOutOrder q.1 = .ok q.2 ∧ aLenOK q.2.1 q.2.2 = true := by decide +kernel
set_option maxRecDepth 100000 in
theorem aDec_88 : ∀ q ∈ aCode_88, decode cX6_slotAt q.1 = .ok q.2 ∧ aLenOK q.2.1 q.2.2 = true := by decide +kernel
set_option maxRecDepth 100000 in
theorem aDec_89 : ∀ q ∈ aCode_89, decode cX6_isBelow q.1 = .ok q.2 ∧ aLenOK q.2.1 q.2.2 = true := by decide +kernel
set_option maxRecDepth 100000 in
theorem aDec_90 : ∀ q ∈ aCode_90, decode cX6_valueAt q.1 = .ok q.2 ∧ aLenOK q.2.1 q.2.2 = true := by decide +kernel
set_option maxRecDepth 100000 in
theorem aDec_91 : ∀ q ∈ aCode_91, decode cX6_setAt q.1 = .ok q.2 ∧ aLenOK q.2.1 q.2.2 = true := by decide +kernel
set_option maxRecDepth 100000 in
theorem aDec_92 : ∀ q ∈ aCode_92, decode cX6_addAt q.1 = .ok q.2 ∧ aLenOK q.2.1 q.2.2 = true := by decide +kernel
set_option maxRecDepth 100000 in
theorem aDec_93 : ∀ q ∈ aCode_93, decode cX6_copyRow q.1 = .ok q.2 ∧ aLenOK q.2.1 q.2.2 = true := by decide +kernel
set_option maxRecDepth 100000 in
theorem aDec_94 : ∀ q ∈ aCode_94, decode cX7_init q.1 = .ok q.2 ∧ aLenOK q.2.1 q.2.2 = true := by decide +kernel
set_option maxRecDepth 100000 in
theorem aDec_95 : ∀ q ∈ aCode_95, decode cX7_moves q.1 = .ok q.2 ∧ aLenOK q.2.1 q.2.2 = true := by decide +kernel
set_option maxRecDepth 100000 in
theorem aDec_96 : ∀ q ∈ aCode_96, decode cX7_within q.1 = .ok q.2 ∧ aLenOK q.2.1 q.2.2 = true := by decide +kernel
set_option maxRecDepth 100000 in
theorem aDec_97 : ∀ q ∈ aCode_97, decode cX7_record q.1 = .ok q.2 ∧ aLenOK q.2.1 q.2.2 = true := by decide +kernel
set_option maxRecDepth 100000 in
theorem aDec_98 : ∀ q ∈ aCode_98, decode cX7_bits q.1 = .ok q.2 ∧ aLenOK q.2.1 q.2.2 = true := by decide +kernel
set_option maxRecDepth 100000 in
theorem aDec_99 : ∀ q ∈ aCode_99, decode cX7_isWord q.1 = .ok q.2 ∧ aLenOK q.2.1 q.2.2 = true := by decide +kernel
set_option maxRecDepth 100000 in
theorem aDec_100 : ∀ q ∈ aCode_100, decode cX7_isSeat q.1 = .ok q.2 ∧ aLenOK q.2.1 q.2.2 = true := by decide +kernel
set_option maxRecDepth 100000 in
theorem aDec_101 : ∀ q ∈ aCode_101, decode cX7_isTaken q.1 = .ok q.2 ∧ aLenOK q.2.1 q.2.2 = true := by decide +kernel
set_option maxRecDepth 100000 in
theorem aDec_102 : ∀ q ∈ aCode_102, decode cX7_isAlbum q.1 = .ok q.2 ∧ aLenOK q.2.1 q.2.2 = true := by decide +kernel
set_option maxRecDepth 100000 in
theorem aDec_103 : ∀ q ∈ aCode_103, decode cX7_part q.1 = .ok q.2 ∧ aLenOK q.2.1 q.2.2 = true := by decide +kernel
set_option maxRecDepth 100000 in
theorem aDec_104 : ∀ q ∈ aCode_104, decode cX7_setPart q.1 = .ok q.2 ∧ aLenOK q.2.1 q.2.2 = true := by decide +kernel
set_option maxRecDepth 100000 in
theorem aDec_105 : ∀ q ∈ aCode_105, decode cX7_pagePart q.1 = .ok q.2 ∧ aLenOK q.2.1 q.2.2 = true := by decide +kernel
set_option maxRecDepth 100000 in
theorem aDec_106 : ∀ q ∈ aCode_106, decode cX7_putPage q.1 = .ok q.2 ∧ aLenOK q.2.1 q.2.2 = true := by decide +kernel
set_option maxRecDepth 100000 in
theorem aDec_107 : ∀ q ∈ aCode_107, decode cX7_lastPage q.1 = .ok q.2 ∧ aLenOK q.2.1 q.2.2 = true := by decide +kernel
set_option maxRecDepth 100000 in
theorem aDec_108 : ∀ q ∈ aCode_108, decode cX7_lastWordPage q.1 = .ok q.2 ∧ aLenOK q.2.1 q.2.2 = true := by decide +kernel
set_option maxRecDepth 100000 in
theorem aDec_109 : ∀ q ∈ aCode_109, decode cX7_lastWord q.1 = .ok q.2 ∧ aLenOK q.2.1 q.2.2 = true := by decide +kernel
set_option maxRecDepth 100000 in
theorem aDec_110 : ∀ q ∈ aCode_110, decode cX7_firstWord q.1 = .ok q.2 ∧ aLenOK q.2.1 q.2.2 = true := by decide +kernel
set_option maxRecDepth 100000 in
theorem aDec_111 : ∀ q ∈ aCode_111, decode cX7_seatsOf q.1 = .ok q.2 ∧ aLenOK q.2.1 q.2.2 = true := by decide +kernel
set_option maxRecDepth 100000 in
theorem aDec_112 : ∀ q ∈ aCode_112, decode cX7_goesRound q.1 = .ok q.2 ∧ aLenOK q.2.1 q.2.2 = true := by decide +kernel
set_option maxRecDepth 100000 in
theorem aDec_113 : ∀ q ∈ aCode_113, decode cX7_albumOf q.1 = .ok q.2 ∧ aLenOK q.2.1 q.2.2 = true := by decide +kernel
set_option maxRecDepth 100000 in
theorem aDec_114 : ∀ q ∈ aCode_114, decode cX7_withHow q.1 = .ok q.2 ∧ aLenOK q.2.1 q.2.2 = true := by decide +kernel
set_option maxRecDepth 100000 in
theorem aDec_115 : ∀ q ∈ aCode_115, decode cX7_guessed q.1 = .ok q.2 ∧ aLenOK q.2.1 q.2.2 = true := by decide +kernel
set_option maxRecDepth 100000 in
theorem aDec_116 : ∀ q ∈ aCode_116, decode cX7_nextSeat q.1 = .ok q.2 ∧ aLenOK q.2.1 q.2.2 = true := by decide +kernel
set_option maxRecDepth 100000 in
theorem aDec_117 : ∀ q ∈ aCode_117, decode cX7_scores q.1 = .ok q.2 ∧ aLenOK q.2.1 q.2.2 = true := by decide +kernel
set_option maxRecDepth 100000 in
theorem aDec_118 : ∀ q ∈ aCode_118, decode cX7_comesHome q.1 = .ok q.2 ∧ aLenOK q.2.1 q.2.2 = true := by decide +kernel
set_option maxRecDepth 100000 in
theorem aDec_119 : ∀ q ∈ aCode_119, decode cX7_goesTo q.1 = .ok q.2 ∧ aLenOK q.2.1 q.2.2 = true := by decide +kernel
set_option maxRecDepth 100000 in
theorem aDec_120 : ∀ q ∈ aCode_120, decode cX7_makesRound q.1 = .ok q.2 ∧ aLenOK q.2.1 q.2.2 = true := by decide +kernel
set_option maxRecDepth 100000 in
theorem aDec_121 : ∀ q ∈ aCode_121, decode cX7_teach q.1 = .ok q.2 ∧ aLenOK q.2.1 q.2.2 = true := by decide +kernel
set_option maxRecDepth 100000 in
theorem aDec_122 : ∀ q ∈ aCode_122, decode cX7_whyNotSat q.1 = .ok q.2 ∧ aLenOK q.2.1 q.2.2 = true := by decide +kernel
set_option maxRecDepth 100000 in
theorem aDec_123 : ∀ q ∈ aCode_123, decode cX7_sat q.1 = .ok q.2 ∧ aLenOK q.2.1 q.2.2 = true := by decide +kernel
set_option maxRecDepth 100000 in
theorem aDec_124 : ∀ q ∈ aCode_124, decode cX7_sit q.1 = .ok q.2 ∧ aLenOK q.2.1 q.2.2 = true := by decide +kernel
set_option maxRecDepth 100000 in
theorem aDec_125 : ∀ q ∈ aCode_125, decode cX7_whyNotLeft q.1 = .ok q.2 ∧ aLenOK q.2.1 q.2.2 = true := by decide +kernel
set_option maxRecDepth 100000 in
theorem aDec_126 : ∀ q ∈ aCode_126, decode cX7_left q.1 = .ok q.2 ∧ aLenOK q.2.1 q.2.2 = true := by decide +kernel
set_option maxRecDepth 100000 in
theorem aDec_127 : ∀ q ∈ aCode_127, decode cX7_leave q.1 = .ok q.2 ∧ aLenOK q.2.1 q.2.2 = true := by decide +kernel
set_option maxRecDepth 100000 in
theorem aDec_128 : ∀ q ∈ aCode_128, decode cX7_whyNotBegun q.1 = .ok q.2 ∧ aLenOK q.2.1 q.2.2 = true := by decide +kernel
set_option maxRecDepth 100000 in
theorem aDec_129 : ∀ q ∈ aCode_129, decode cX7_clearAlbum q.1 = .ok q.2 ∧ aLenOK q.2.1 q.2.2 = true := by decide +kernel
set_option maxRecDepth 100000 in
theorem aDec_130 : ∀ q ∈ aCode_130, decode cX7_begun q.1 = .ok q.2 ∧ aLenOK q.2.1 q.2.2 = true := by decide +kernel
set_option maxRecDepth 100000 in
theorem aDec_131 : ∀ q ∈ aCode_131, decode cX7_begin q.1 = .ok q.2 ∧ aLenOK q.2.1 q.2.2 = true := by decide +kernel
set_option maxRecDepth 100000 in
theorem aDec_132 : ∀ q ∈ aCode_132, decode cX7_whyNotTold q.1 = .ok q.2 ∧ aLenOK q.2.1 q.2.2 = true := by decide +kernel
set_option maxRecDepth 100000 in
theorem aDec_133 : ∀ q ∈ aCode_133, decode cX7_tells q.1 = .ok q.2 ∧ aLenOK q.2.1 q.2.2 = true := by decide +kernel
set_option maxRecDepth 100000 in
theorem aDec_134 : ∀ q ∈ aCode_134, decode cX7_tell q.1 = .ok q.2 ∧ aLenOK q.2.1 q.2.2 = true := by decide +kernel
set_option maxRecDepth 100000 in
theorem aDec_135 : ∀ q ∈ aCode_135, decode cX7_round q.1 = .ok q.2 ∧ aLenOK q.2.1 q.2.2 = true := by decide +kernel
set_option maxRecDepth 100000 in
theorem aDec_136 : ∀ q ∈ aCode_136, decode cX7_cleared q.1 = .ok q.2 ∧ aLenOK q.2.1 q.2.2 = true := by decide +kernel
set_option maxRecDepth 100000 in
theorem aDec_137 : ∀ q ∈ aCode_137, decode cX7_clear q.1 = .ok q.2 ∧ aLenOK q.2.1 q.2.2 = true := by decide +kernel
set_option maxRecDepth 100000 in
theorem aDec_138 : ∀ q ∈ aCode_138, decode cX7_changed q.1 = .ok q.2 ∧ aLenOK q.2.1 q.2.2 = true := by decide +kernel
set_option maxRecDepth 100000 in
theorem aDec_139 : ∀ q ∈ aCode_139, decode cX7_apart q.1 = .ok q.2 ∧ aLenOK q.2.1 q.2.2 = true := by decide +kernel
set_option maxRecDepth 100000 in
theorem aDec_140 : ∀ q ∈ aCode_140, decode cX7_of q.1 = .ok q.2 ∧ aLenOK q.2.1 q.2.2 = true := by decide +kernel
set_option maxRecDepth 100000 in
theorem aDec_141 : ∀ q ∈ aCode_141, decode cX7_page q.1 = .ok q.2 ∧ aLenOK q.2.1 q.2.2 = true := by decide +kernel
set_option maxRecDepth 100000 in
theorem aDec_142 : ∀ q ∈ aCode_142, decode cX7_pagesBy q.1 = .ok q.2 ∧ aLenOK q.2.1 q.2.2 = true := by decide +kernel
set_option maxRecDepth 100000 in
theorem aDec_143 : ∀ q ∈ aCode_143, decode cX7_seat q.1 = .ok q.2 ∧ aLenOK q.2.1 q.2.2 = true := by decide +kernel
set_option maxRecDepth 100000 in
theorem aDec_144 : ∀ q ∈ aCode_144, decode cX7_word q.1 = .ok q.2 ∧ aLenOK q.2.1 q.2.2 = true := by decide +kernel
set_option maxRecDepth 100000 in
theorem aDec_145 : ∀ q ∈ aCode_145, decode cX7_allPoints q.1 = .ok q.2 ∧ aLenOK q.2.1 q.2.2 = true := by decide +kernel
set_option maxRecDepth 100000 in
theorem aDec_146 : ∀ q ∈ aCode_146, decode cX7_count q.1 = .ok q.2 ∧ aLenOK q.2.1 q.2.2 = true := by decide +kernel
set_option maxRecDepth 100000 in
theorem aDec_147 : ∀ q ∈ aCode_147, decode cX7_guess q.1 = .ok q.2 ∧ aLenOK q.2.1 q.2.2 = true := by decide +kernel
set_option maxRecDepth 100000 in
theorem aDec_148 : ∀ q ∈ aCode_148, decode cX7_foretold q.1 = .ok q.2 ∧ aLenOK q.2.1 q.2.2 = true := by decide +kernel
set_option maxRecDepth 100000 in
theorem aDec_149 : ∀ q ∈ aCode_149, decode cX7_differsWith q.1 = .ok q.2 ∧ aLenOK q.2.1 q.2.2 = true := by decide +kernel
set_option maxRecDepth 100000 in
theorem aDec_150 : ∀ q ∈ aCode_150, decode cX7_bestWord q.1 = .ok q.2 ∧ aLenOK q.2.1 q.2.2 = true := by decide +kernel
set_option maxRecDepth 100000 in
theorem aDec_151 : ∀ q ∈ aCode_151, decode cX7_pointsThen q.1 = .ok q.2 ∧ aLenOK q.2.1 q.2.2 = true := by decide +kernel
set_option maxRecDepth 100000 in
theorem aDec_152 : ∀ q ∈ aCode_152, decode cX7_put q.1 = .ok q.2 ∧ aLenOK q.2.1 q.2.2 = true := by decide +kernel
set_option maxRecDepth 100000 in
theorem aDec_153 : ∀ q ∈ aCode_153, decode cX7_wipe q.1 = .ok q.2 ∧ aLenOK q.2.1 q.2.2 = true := by decide +kernel
set_option maxRecDepth 100000 in
theorem aDec_154 : ∀ q ∈ aCode_154, decode cX7_character q.1 = .ok q.2 ∧ aLenOK q.2.1 q.2.2 = true := by decide +kernel
set_option maxRecDepth 100000 in
theorem aDec_155 : ∀ q ∈ aCode_155, decode cX7_isNext q.1 = .ok q.2 ∧ aLenOK q.2.1 q.2.2 = true := by decide +kernel
set_option maxRecDepth 100000 in
theorem aDec_156 : ∀ q ∈ aCode_156, decode cX7_takeDigit q.1 = .ok q.2 ∧ aLenOK q.2.1 q.2.2 = true := by decide +kernel
set_option maxRecDepth 100000 in
theorem aDec_157 : ∀ q ∈ aCode_157, decode cX7_takeNumber q.1 = .ok q.2 ∧ aLenOK q.2.1 q.2.2 = true := by decide +kernel
set_option maxRecDepth 100000 in
theorem aDec_158 : ∀ q ∈ aCode_158, decode cX7_readsOrder q.1 = .ok q.2 ∧ aLenOK q.2.1 q.2.2 = true := by decide +kernel
set_option maxRecDepth 100000 in
theorem aDec_159 : ∀ q ∈ aCode_159, decode cX7_findFault q.1 = .ok q.2 ∧ aLenOK q.2.1 q.2.2 = true := by decide +kernel
set_option maxRecDepth 100000 in
theorem aDec_160 : ∀ q ∈ aCode_160, decode cX7_fault q.1 = .ok q.2 ∧ aLenOK q.2.1 q.2.2 = true := by decide +kernel
set_option maxRecDepth 100000 in
theorem aDec_161 : ∀ q ∈ aCode_161, decode cX7_whyNotDone q.1 = .ok q.2 ∧ aLenOK q.2.1 q.2.2 = true := by decide +kernel
set_option maxRecDepth 100000 in
theorem aDec_162 : ∀ q ∈ aCode_162, decode cX7_does q.1 = .ok q.2 ∧ aLenOK q.2.1 q.2.2 = true := by decide +kernel
set_option maxRecDepth 100000 in
theorem aDec_163 : ∀ q ∈ aCode_163, decode cX7_carryOut q.1 = .ok q.2 ∧ aLenOK q.2.1 q.2.2 = true := by decide +kernel
set_option maxRecDepth 100000 in
theorem aDec_164 : ∀ q ∈ aCode_164, decode cX7_undo q.1 = .ok q.2 ∧ aLenOK q.2.1 q.2.2 = true := by decide +kernel
set_option maxRecDepth 100000 in
theorem aDec_165 : ∀ q ∈ aCode_165, decode cX7_save q.1 = .ok q.2 ∧ aLenOK q.2.1 q.2.2 = true := by decide +kernel
set_option maxRecDepth 100000 in
theorem aDec_166 : ∀ q ∈ aCode_166, decode cX7_restore q.1 = .ok q.2 ∧ aLenOK q.2.1 q.2.2 = true := by decide +kernel
set_option maxRecDepth 100000 in
theorem aDec_167 : ∀ q ∈ aCode_167, decode cJ6_bitCount_0f7a4 q.1 = .ok q.2 ∧ aLenOK q.2.1 q.2.2 = true := by decide +kernel
set_option maxRecDepth 100000 in
theorem aDec_168 : ∀ q ∈ aCode_168, decode cL_law q.1 = .ok q.2 ∧ aLenOK q.2.1 q.2.2 = true := by decide +kernel
end
section
/-- a method: name, code, locals, answer, the number of its own file, arguments (without the receiver), 0 by receiver, 1 without, 2 a constructor; where its words stand in lw_tbl -/
abbrev aMeth : Type := MethodName × ByteArray × Nat × Option FieldType × Nat × Nat × Nat × List Nat
def aMeths : List aMeth := [(yX0_init, cX0_init, 1, none, 0, 0, 2, [90, 89, 0, 62]),
  (yX0_start, cX0_start, 3, none, 0, 2, 0, [356, 354, 355, 62]),
  (yX0_addPage, cX0_addPage, 3, none, 0, 2, 0, [360, 358, 359, 62]),
  (yX0_addToldPage, cX0_addToldPage, 2, none, 0, 1, 0, [418, 416, 417, 62]),
  (yX0_copyFrom, cX0_copyFrom, 2, none, 0, 1, 0, [288, 286, 287, 62]),
  (yX0_goesRound, cX0_goesRound, 1, (some .boolean), 0, 0, 0, [352, 350, 351, 62]),
  (yX0_seatOf, cX0_seatOf, 2, (some .int), 0, 1, 0, [440, 438, 439, 62]),
  (yX0_markOf, cX0_markOf, 2, (some .int), 0, 1, 0, [426, 424, 425, 62]),
  (yX0_wasTold, cX0_wasTold, 2, (some .boolean), 0, 1, 0, [480, 478, 479, 62]),
  (yX0_liesAt, cX0_liesAt, 1, (some .int), 0, 0, 0, [398, 396, 397, 62]),
  (yX0_endsWithWord, cX0_endsWithWord, 1, (some .boolean), 0, 0, 0, [373, 371, 372, 62]),
  (yX0_firstWord, cX0_firstWord, 1, (some .int), 0, 0, 0, [411, 409, 410, 62]),
  (yX0_lastWord, cX0_lastWord, 1, (some .int), 0, 0, 0, [406, 404, 405, 62]),
  (yX0_hasFoundWordAgain, cX0_hasFoundWordAgain, 1, (some .boolean), 0, 0, 0, [435, 433, 434, 62]),
  (yX0_wordChanges, cX0_wordChanges, 3, (some .int), 0, 0, 0, [463, 461, 462, 62]),
  (yX0_seatSet, cX0_seatSet, 3, (some .int), 0, 0, 0, [393, 391, 392, 62]),
  (yX1_init, cX1_init, 1, none, 1, 0, 2, [157, 156, 0, 63]),
  (yX1_follow, cX1_follow, 3, none, 1, 2, 0, [517, 515, 516, 63]),
  (yX1_followAll, cX1_followAll, 4, none, 1, 1, 0, [544, 542, 543, 63]),
  (yX1_differenceAtHome, cX1_differenceAtHome, 4, (some .int), 1, 3, 0, [532, 530, 531, 63]),
  (yX1_playToEnd, cX1_playToEnd, 2, none, 1, 1, 0, [522, 521, 5, 63]),
  (yX2_init, cX2_init, 2, none, 2, 0, 2, [178, 177, 0, 64]),
  (yX2_stateAt, cX2_stateAt, 3, (some (.object "DoodleAlbums$Table")), 2, 1, 0, [267, 266, 0, 64]),
  (yX2_prepare, cX2_prepare, 3, none, 2, 1, 0, [263, 261, 262, 64]),
  (yX2_recordUnlessError, cX2_recordUnlessError, 2, (some .int), 2, 1, 0, [306, 304, 305, 64]),
  (yX2_takeBack, cX2_takeBack, 3, (some .int), 2, 1, 0, [630, 628, 629, 64]),
  (yX3_init, cX3_init, 1, none, 3, 0, 2, [200, 199, 0, 65]),
  (yX3_append, cX3_append, 7, (some .int), 3, 1, 0, [554, 552, 553, 65]),
  (yX3_signsIn, cX3_signsIn, 6, (some .int), 3, 1, 1, [557, 556, 0, 65]),
  (yX3_empty, cX3_empty, 2, (some .int), 3, 0, 0, [567, 565, 566, 65]),
  (yX3_findFault, cX3_findFault, 2, (some .int), 3, 0, 0, [575, 573, 574, 65]),
  (yX3_startReading, cX3_startReading, 1, none, 3, 0, 0, [579, 577, 578, 65]),
  (yX3_readNext, cX3_readNext, 1, (some .boolean), 3, 0, 0, [583, 581, 582, 65]),
  (yX3_readOrder, cX3_readOrder, 1, (some .boolean), 3, 0, 0, [595, 594, 8, 65]),
  (yX3_readSeat, cX3_readSeat, 2, (some .boolean), 3, 0, 0, [599, 598, 9, 65]),
  (yX3_readRounds, cX3_readRounds, 2, none, 3, 0, 0, [612, 611, 12, 65]),
  (yX3_readNumber, cX3_readNumber, 3, (some .boolean), 3, 0, 0, [608, 607, 11, 65]),
  (yX3_take, cX3_take, 2, (some .boolean), 3, 1, 0, [587, 586, 6, 65]),
  (yX3_digitHere, cX3_digitHere, 2, (some .int), 3, 0, 0, [603, 602, 10, 65]),
  (yX3_signHere, cX3_signHere, 1, (some .int), 3, 0, 0, [591, 590, 7, 65]),
  (yX4_init, cX4_init, 1, none, 4, 0, 2, [228, 227, 0, 66]),
  (yX5_init, cX5_init, 2, none, 5, 0, 2, [83, 82, 0, 61]),
  (yX5_copyFrom, cX5_copyFrom, 5, none, 5, 1, 0, [271, 269, 270, 61]),
  (yX5_placeAt, cX5_placeAt, 2, (some (.object "DoodleAlbums$Album")), 5, 1, 0, [284, 283, 1, 61]),
  (yX5_albumAt, cX5_albumAt, 2, (some (.object "DoodleAlbums$Album")), 5, 1, 0, [348, 346, 347, 61]),
  (yX5_isTaken, cX5_isTaken, 2, (some .boolean), 5, 1, 0, [332, 330, 331, 61]),
  (yX5_changeFeatures, cX5_changeFeatures, 4, (some .int), 5, 2, 0, [293, 291, 292, 61]),
  (yX5_sitDown, cX5_sitDown, 3, (some .int), 5, 2, 0, [314, 312, 313, 61]),
  (yX5_standUp, cX5_standUp, 2, (some .int), 5, 1, 0, [328, 326, 327, 61]),
  (yX5_beginAlbum, cX5_beginAlbum, 4, (some .int), 5, 2, 0, [340, 338, 339, 61]),
  (yX5_tellPage, cX5_tellPage, 5, (some .int), 5, 2, 0, [369, 367, 368, 61]),
  (yX5_makeRound, cX5_makeRound, 3, (some .int), 5, 0, 0, [381, 379, 380, 61]),
  (yX5_clearEnded, cX5_clearEnded, 5, (some .int), 5, 0, 0, [452, 450, 451, 61]),
  (yX5_passOn, cX5_passOn, 4, none, 5, 2, 0, [385, 383, 384, 61]),
  (yX5_nextSeat, cX5_nextSeat, 5, (some .int), 5, 1, 0, [389, 388, 2, 61]),
  (yX5_end, cX5_end, 3, none, 5, 2, 0, [402, 401, 3, 61]),
  (yX5_pageBy, cX5_pageBy, 4, (some .int), 5, 2, 0, [422, 421, 4, 61]),
  (yX5_mostLike, cX5_mostLike, 6, (some .int), 5, 1, 0, [430, 428, 429, 61]),
  (yX5_difference, cX5_difference, 3, (some .int), 5, 2, 0, [469, 467, 468, 61]),
  (yX5_albumGoingRoundOf, cX5_albumGoingRoundOf, 4, (some .int), 5, 1, 0, [344, 342, 343, 61]),
  (yX5_albumsThatAre, cX5_albumsThatAre, 5, (some .int), 5, 1, 0, [444, 442, 443, 61]),
  (yX5_pagesBy, cX5_pagesBy, 5, (some .int), 5, 1, 0, [491, 489, 490, 61]),
  (yX5_allPoints, cX5_allPoints, 3, (some .int), 5, 0, 0, [504, 502, 503, 61]),
  (yX6_init, cX6_init, 2, none, 6, 0, 2, [75, 74, 0, 60]),
  (yX6_teach, cX6_teach, 3, (some .int), 6, 2, 0, [259, 257, 258, 60]),
  (yX6_sit, cX6_sit, 3, (some .int), 6, 2, 0, [310, 308, 309, 60]),
  (yX6_leave, cX6_leave, 2, (some .int), 6, 1, 0, [324, 322, 323, 60]),
  (yX6_begin, cX6_begin, 3, (some .int), 6, 2, 0, [336, 334, 335, 60]),
  (yX6_tell, cX6_tell, 3, (some .int), 6, 2, 0, [365, 363, 364, 60]),
  (yX6_round, cX6_round, 1, (some .int), 6, 0, 0, [377, 375, 376, 60]),
  (yX6_clear, cX6_clear, 1, (some .int), 6, 0, 0, [448, 446, 447, 60]),
  (yX6_of, cX6_of, 4, (some .int), 6, 2, 0, [456, 454, 455, 60]),
  (yX6_page, cX6_page, 5, (some .int), 6, 3, 0, [473, 471, 472, 60]),
  (yX6_seat, cX6_seat, 3, (some .int), 6, 2, 0, [484, 482, 483, 60]),
  (yX6_word, cX6_word, 2, (some .int), 6, 1, 0, [495, 493, 494, 60]),
  (yX6_count, cX6_count, 2, (some .int), 6, 1, 0, [499, 497, 498, 60]),
  (yX6_guess, cX6_guess, 2, (some .int), 6, 1, 0, [508, 506, 507, 60]),
  (yX6_foretold, cX6_foretold, 4, (some .int), 6, 2, 0, [513, 511, 512, 60]),
  (yX6_bestWord, cX6_bestWord, 7, (some .int), 6, 2, 0, [528, 526, 527, 60]),
  (yX6_pointsThen, cX6_pointsThen, 2, (some .int), 6, 1, 0, [540, 538, 539, 60]),
  (yX6_put, cX6_put, 3, (some .int), 6, 1, 0, [550, 548, 549, 60]),
  (yX6_wipe, cX6_wipe, 1, (some .int), 6, 0, 0, [563, 561, 562, 60]),
  (yX6_fault, cX6_fault, 1, (some .int), 6, 0, 0, [571, 569, 570, 60]),
  (yX6_carryOut, cX6_carryOut, 2, (some .int), 6, 0, 0, [616, 614, 615, 60]),
  (yX6_undo, cX6_undo, 1, (some .int), 6, 0, 0, [626, 624, 625, 60]),
  (yX6_save, cX6_save, 3, (some .int), 6, 1, 0, [634, 632, 633, 60]),
  (yX6_restore, cX6_restore, 3, (some .int), 6, 1, 0, [643, 641, 642, 60]),
  (yX6_carryOutOrder, cX6_carryOutOrder, 2, (some .int), 6, 0, 0, [622, 621, 13, 60]),
  (yX6_slotAt, cX6_slotAt, 2, (some (.object "DoodleAlbums$Slot")), 6, 1, 0, [638, 637, 14, 60]),
  (yX6_isBelow, cX6_isBelow, 2, (some .boolean), 6, 2, 1, [296, 295, 0, 60]),
  (yX6_valueAt, cX6_valueAt, 2, (some .int), 6, 2, 1, [299, 298, 0, 60]),
  (yX6_setAt, cX6_setAt, 3, none, 6, 3, 1, [302, 301, 0, 60]),
  (yX6_addAt, cX6_addAt, 3, none, 6, 3, 1, [414, 413, 0, 60]),
  (yX6_copyRow, cX6_copyRow, 2, none, 6, 2, 1, [274, 273, 0, 60]),
  (yX7_init, cX7_init, 2, none, 7, 0, 2, [648, 647, 0, 67]),
  (yX7_moves, cX7_moves, 5, none, 7, 4, 1, [703, 702, 0, 67]),
  (yX7_within, cX7_within, 3, (some .boolean), 7, 3, 1, [696, 695, 0, 67]),
  (yX7_record, cX7_record, 2, none, 7, 0, 0, [700, 699, 15, 67]),
  (yX7_bits, cX7_bits, 3, (some .int), 7, 1, 1, [721, 720, 0, 67]),
  (yX7_isWord, cX7_isWord, 1, (some .boolean), 7, 1, 1, [693, 692, 0, 67]),
  (yX7_isSeat, cX7_isSeat, 1, (some .boolean), 7, 1, 1, [714, 713, 0, 67]),
  (yX7_isTaken, cX7_isTaken, 2, (some .boolean), 7, 1, 0, [733, 732, 19, 67]),
  (yX7_isAlbum, cX7_isAlbum, 2, (some .boolean), 7, 1, 0, [785, 784, 30, 67]),
  (yX7_part, cX7_part, 3, (some .int), 7, 2, 0, [753, 752, 23, 67]),
  (yX7_setPart, cX7_setPart, 4, none, 7, 3, 0, [769, 768, 27, 67]),
  (yX7_pagePart, cX7_pagePart, 4, (some .int), 7, 3, 0, [809, 808, 35, 67]),
  (yX7_putPage, cX7_putPage, 6, none, 7, 4, 0, [773, 772, 28, 67]),
  (yX7_lastPage, cX7_lastPage, 2, (some .int), 7, 1, 0, [805, 804, 34, 67]),
  (yX7_lastWordPage, cX7_lastWordPage, 2, (some .int), 7, 1, 0, [825, 824, 39, 67]),
  (yX7_lastWord, cX7_lastWord, 2, (some .int), 7, 1, 0, [821, 820, 38, 67]),
  (yX7_firstWord, cX7_firstWord, 2, (some .int), 7, 1, 0, [829, 828, 40, 67]),
  (yX7_seatsOf, cX7_seatsOf, 4, (some .int), 7, 1, 0, [813, 812, 36, 67]),
  (yX7_goesRound, cX7_goesRound, 2, (some .boolean), 7, 1, 0, [757, 756, 24, 67]),
  (yX7_albumOf, cX7_albumOf, 4, (some .int), 7, 1, 0, [749, 748, 22, 67]),
  (yX7_withHow, cX7_withHow, 4, (some .int), 7, 1, 0, [845, 844, 44, 67]),
  (yX7_guessed, cX7_guessed, 4, (some .int), 7, 1, 0, [841, 840, 43, 67]),
  (yX7_nextSeat, cX7_nextSeat, 7, (some .int), 7, 1, 0, [801, 800, 33, 67]),
  (yX7_scores, cX7_scores, 3, none, 7, 2, 0, [833, 832, 41, 67]),
  (yX7_comesHome, cX7_comesHome, 2, none, 7, 1, 0, [817, 816, 37, 67]),
  (yX7_goesTo, cX7_goesTo, 8, none, 7, 2, 0, [837, 836, 42, 67]),
  (yX7_makesRound, cX7_makesRound, 3, none, 7, 0, 0, [797, 796, 32, 67]),
  (yX7_teach, cX7_teach, 4, (some .int), 7, 2, 0, [690, 688, 689, 67]),
  (yX7_whyNotSat, cX7_whyNotSat, 3, (some .int), 7, 2, 0, [711, 710, 16, 67]),
  (yX7_sat, cX7_sat, 3, (some .int), 7, 2, 0, [718, 717, 17, 67]),
  (yX7_sit, cX7_sit, 4, (some .int), 7, 2, 0, [707, 705, 706, 67]),
  (yX7_whyNotLeft, cX7_whyNotLeft, 2, (some .int), 7, 1, 0, [729, 728, 18, 67]),
  (yX7_left, cX7_left, 2, (some .int), 7, 1, 0, [737, 736, 20, 67]),
  (yX7_leave, cX7_leave, 3, (some .int), 7, 1, 0, [725, 723, 724, 67]),
  (yX7_whyNotBegun, cX7_whyNotBegun, 3, (some .int), 7, 2, 0, [745, 744, 21, 67]),
  (yX7_clearAlbum, cX7_clearAlbum, 3, none, 7, 1, 0, [765, 764, 26, 67]),
  (yX7_begun, cX7_begun, 4, (some .int), 7, 2, 0, [761, 760, 25, 67]),
  (yX7_begin, cX7_begin, 4, (some .int), 7, 2, 0, [741, 739, 740, 67]),
  (yX7_whyNotTold, cX7_whyNotTold, 4, (some .int), 7, 2, 0, [781, 780, 29, 67]),
  (yX7_tells, cX7_tells, 4, (some .int), 7, 2, 0, [789, 788, 31, 67]),
  (yX7_tell, cX7_tell, 4, (some .int), 7, 2, 0, [777, 775, 776, 67]),
  (yX7_round, cX7_round, 1, (some .int), 7, 0, 0, [793, 791, 792, 67]),
  (yX7_cleared, cX7_cleared, 4, (some .int), 7, 0, 0, [853, 852, 45, 67]),
  (yX7_clear, cX7_clear, 1, (some .int), 7, 0, 0, [849, 847, 848, 67]),
  (yX7_changed, cX7_changed, 4, (some .int), 7, 1, 0, [861, 860, 46, 67]),
  (yX7_apart, cX7_apart, 3, (some .int), 7, 2, 0, [865, 864, 47, 67]),
  (yX7_of, cX7_of, 3, (some .int), 7, 2, 0, [857, 855, 856, 67]),
  (yX7_page, cX7_page, 4, (some .int), 7, 3, 0, [869, 867, 868, 67]),
  (yX7_pagesBy, cX7_pagesBy, 4, (some .int), 7, 1, 0, [877, 876, 48, 67]),
  (yX7_seat, cX7_seat, 3, (some .int), 7, 2, 0, [873, 871, 872, 67]),
  (yX7_word, cX7_word, 2, (some .int), 7, 1, 0, [881, 879, 880, 67]),
  (yX7_allPoints, cX7_allPoints, 3, (some .int), 7, 0, 0, [889, 888, 49, 67]),
  (yX7_count, cX7_count, 2, (some .int), 7, 1, 0, [885, 883, 884, 67]),
  (yX7_guess, cX7_guess, 2, (some .int), 7, 1, 0, [893, 891, 892, 67]),
  (yX7_foretold, cX7_foretold, 5, (some .int), 7, 2, 0, [897, 895, 896, 67]),
  (yX7_differsWith, cX7_differsWith, 4, (some .int), 7, 2, 0, [905, 904, 50, 67]),
  (yX7_bestWord, cX7_bestWord, 7, (some .int), 7, 2, 0, [901, 899, 900, 67]),
  (yX7_pointsThen, cX7_pointsThen, 3, (some .int), 7, 1, 0, [909, 907, 908, 67]),
  (yX7_put, cX7_put, 8, (some .int), 7, 1, 0, [913, 911, 912, 67]),
  (yX7_wipe, cX7_wipe, 2, (some .int), 7, 0, 0, [918, 916, 917, 67]),
  (yX7_character, cX7_character, 2, (some .int), 7, 1, 0, [934, 933, 53, 67]),
  (yX7_isNext, cX7_isNext, 3, (some .boolean), 7, 1, 0, [942, 941, 55, 67]),
  (yX7_takeDigit, cX7_takeDigit, 4, (some .int), 7, 2, 0, [938, 937, 54, 67]),
  (yX7_takeNumber, cX7_takeNumber, 2, (some .int), 7, 0, 0, [946, 945, 56, 67]),
  (yX7_readsOrder, cX7_readsOrder, 1, (some .boolean), 7, 0, 0, [930, 929, 52, 67]),
  (yX7_findFault, cX7_findFault, 1, (some .int), 7, 0, 0, [926, 925, 51, 67]),
  (yX7_fault, cX7_fault, 1, (some .int), 7, 0, 0, [922, 920, 921, 67]),
  (yX7_whyNotDone, cX7_whyNotDone, 1, (some .int), 7, 0, 0, [954, 953, 57, 67]),
  (yX7_does, cX7_does, 2, none, 7, 0, 0, [958, 957, 58, 67]),
  (yX7_carryOut, cX7_carryOut, 3, (some .int), 7, 0, 0, [950, 948, 949, 67]),
  (yX7_undo, cX7_undo, 1, (some .int), 7, 0, 0, [962, 960, 961, 67]),
  (yX7_save, cX7_save, 2, (some .int), 7, 1, 0, [966, 964, 965, 67]),
  (yX7_restore, cX7_restore, 2, (some .int), 7, 1, 0, [970, 968, 969, 67]),
  (yJ6_bitCount_0f7a4, cJ6_bitCount_0f7a4, 1, (some .int), 8, 1, 1, [317, 316, 0, 70]),
  (yL_law, cL_law, 4, ret, 11, 1, 0, [0, 0, 0, 0])]
def aCodes : List (List (Nat × Instr × Nat)) := [aCode_0, aCode_1, aCode_2, aCode_3, aCode_4, aCode_5, aCode_6, aCode_7, aCode_8, aCode_9, aCode_10, aCode_11, aCode_12, aCode_13, aCode_14, aCode_15, aCode_16, aCode_17, aCode_18, aCode_19, aCode_20, aCode_21, aCode_22, aCode_23, aCode_24, aCode_25, aCode_26, aCode_27, aCode_28, aCode_29, aCode_30, aCode_31, aCode_32, aCode_33, aCode_34, aCode_35, aCode_36, aCode_37, aCode_38, aCode_39, aCode_40, aCode_41, aCode_42, aCode_43, aCode_44, aCode_45, aCode_46, aCode_47, aCode_48, aCode_49, aCode_50, aCode_51, aCode_52, aCode_53, aCode_54, aCode_55, aCode_56, aCode_57, aCode_58, aCode_59, aCode_60, aCode_61, aCode_62, aCode_63, aCode_64, aCode_65, aCode_66, aCode_67, aCode_68, aCode_69, aCode_70, aCode_71, aCode_72, aCode_73, aCode_74, aCode_75, aCode_76, aCode_77, aCode_78, aCode_79, aCode_80, aCode_81, aCode_82, aCode_83, aCode_84, aCode_85, aCode_86, aCode_87, aCode_88, aCode_89, aCode_90, aCode_91, aCode_92, aCode_93, aCode_94, aCode_95, aCode_96, aCode_97, aCode_98, aCode_99, aCode_100, aCode_101, aCode_102, aCode_103, aCode_104, aCode_105, aCode_106, aCode_107, aCode_108, aCode_109, aCode_110, aCode_111, aCode_112, aCode_113, aCode_114, aCode_115, aCode_116, aCode_117, aCode_118, aCode_119, aCode_120, aCode_121, aCode_122, aCode_123, aCode_124, aCode_125, aCode_126, aCode_127, aCode_128, aCode_129, aCode_130, aCode_131, aCode_132, aCode_133, aCode_134, aCode_135, aCode_136, aCode_137, aCode_138, aCode_139, aCode_140, aCode_141, aCode_142, aCode_143, aCode_144, aCode_145, aCode_146, aCode_147, aCode_148, aCode_149, aCode_150, aCode_151, aCode_152, aCode_153, aCode_154, aCode_155, aCode_156, aCode_157, aCode_158, aCode_159, aCode_160, aCode_161, aCode_162, aCode_163, aCode_164, aCode_165, aCode_166, aCode_167, aCode_168]
def aDecs : List aMeth → List (List (Nat × Instr × Nat)) → Prop
  | m :: ms, c :: cs => (∀ q ∈ c, decode m.2.1 q.1 = .ok q.2 ∧ aLenOK q.2.1 q.2.2 = true) ∧ aDecs ms cs
  | _, _ => True
theorem aDecs_at : ∀ (ms : List aMeth) (cs : List (List (Nat × Instr × Nat))) (i : Nat) (m : aMeth) (c : List (Nat × Instr × Nat)), aDecs ms cs → ms[i]? = some m → cs[i]? = some c → ∀ q ∈ c, decode m.2.1 q.1 = .ok q.2 ∧ aLenOK q.2.1 q.2.2 = true
  | [], _, _, _, _, _, h, _ => by simp at h
  | _ :: _, [], _, _, _, _, _, h => by simp at h
  | m0 :: ms, c0 :: cs, 0, m, c, h, h1, h2 => by
    rw [List.getElem?_cons_zero] at h1 h2
    cases h1; cases h2
    exact h.1
  | m0 :: ms, c0 :: cs, i + 1, m, c, h, h1, h2 => by
    rw [List.getElem?_cons_succ] at h1 h2
    exact aDecs_at ms cs i m c h.2 h1 h2
set_option maxRecDepth 100000 in
theorem aDecs_ok : aDecs aMeths aCodes := ⟨aDec_0, aDec_1, aDec_2, aDec_3, aDec_4, aDec_5, aDec_6, aDec_7, aDec_8, aDec_9, aDec_10, aDec_11, aDec_12, aDec_13, aDec_14, aDec_15, aDec_16, aDec_17, aDec_18, aDec_19, aDec_20, aDec_21, aDec_22, aDec_23, aDec_24, aDec_25, aDec_26, aDec_27, aDec_28, aDec_29, aDec_30, aDec_31, aDec_32, aDec_33, aDec_34, aDec_35, aDec_36, aDec_37, aDec_38, aDec_39, aDec_40, aDec_41, aDec_42, aDec_43, aDec_44, aDec_45, aDec_46, aDec_47, aDec_48, aDec_49, aDec_50, aDec_51, aDec_52, aDec_53, aDec_54, aDec_55, aDec_56, aDec_57, aDec_58, aDec_59, aDec_60, aDec_61, aDec_62, aDec_63, aDec_64, aDec_65, aDec_66, aDec_67, aDec_68, aDec_69, aDec_70, aDec_71, aDec_72, aDec_73, aDec_74, aDec_75, aDec_76, aDec_77, aDec_78, aDec_79, aDec_80, aDec_81, aDec_82, aDec_83, aDec_84, aDec_85, aDec_86, aDec_87, aDec_88, aDec_89, aDec_90, aDec_91, aDec_92, aDec_93, aDec_94, aDec_95, aDec_96, aDec_97, aDec_98, aDec_99, aDec_100, aDec_101, aDec_102, aDec_103, aDec_104, aDec_105, aDec_106, aDec_107, aDec_108, aDec_109, aDec_110, aDec_111, aDec_112, aDec_113, aDec_114, aDec_115, aDec_116, aDec_117, aDec_118, aDec_119, aDec_120, aDec_121, aDec_122, aDec_123, aDec_124, aDec_125, aDec_126, aDec_127, aDec_128, aDec_129, aDec_130, aDec_131, aDec_132, aDec_133, aDec_134, aDec_135, aDec_136, aDec_137, aDec_138, aDec_139, aDec_140, aDec_141, aDec_142, aDec_143, aDec_144, aDec_145, aDec_146, aDec_147, aDec_148, aDec_149, aDec_150, aDec_151, aDec_152, aDec_153, aDec_154, aDec_155, aDec_156, aDec_157, aDec_158, aDec_159, aDec_160, aDec_161, aDec_162, aDec_163, aDec_164, aDec_165, aDec_166, aDec_167, aDec_168, trivial⟩
def aTbl : List Cond := lw_tbl.filter goodWord
theorem aTbl_in {i : Nat} {w : Cond} (h : lw_tbl[i]? = some w) (g : goodWord w = true) : w ∈ aTbl := List.mem_filter.mpr ⟨List.mem_of_getElem? h, g⟩
def aMOK (t : aMeth) : Prop := lw_tbl[t.2.2.2.2.2.2.2.getD 0 0]? = some (Cond.code t.1 t.2.1 t.2.2.1 t.2.2.2.1) ∧ goodWord (Cond.code t.1 t.2.1 t.2.2.1 t.2.2.2.1) = true ∧
  (if t.2.2.2.2.2.2.1 = 1 then lw_tbl[t.2.2.2.2.2.2.2.getD 1 0]? = some (Cond.static t.1) ∧ goodWord (Cond.static t.1) = true else lw_tbl[t.2.2.2.2.2.2.2.getD 1 0]? = some (Cond.instanceMethod t.1) ∧ goodWord (Cond.instanceMethod t.1) = true) ∧
  (t.2.2.2.2.2.2.1 = 0 → lw_tbl[t.2.2.2.2.2.2.2.getD 2 0]? = some (Cond.selects t.1.cls t.1 t.1) ∧ goodWord (Cond.selects t.1.cls t.1 t.1) = true) ∧
  (t.2.2.2.2.2.2.1 = 2 → t.1.name = "<init>" ∧ t.2.2.2.1 = none) ∧
  (lw_tbl[t.2.2.2.2.2.2.2.getD 3 0]? = some (Cond.initialized t.1.cls) ∧ goodWord (Cond.initialized t.1.cls) = true) ∧ (t.2.2.2.2.1 < 8 → plainName t.1.cls = true) ∧ t.1.cls ≠ "java/lang/invoke/MethodHandle" ∧ t.1.cls ≠ "java/lang/invoke/VarHandle" ∧ (parseMethodDescriptor t.1.desc).map (fun d => d.parameters.length) = some t.2.2.2.2.2.1 ∧ t.2.2.1 ≤ 16
theorem aMOK_of (t : aMeth) (p : Nat → Cond) (h : aMOK t) : aMOK t := h
def aMethsC : List aMeth := aMeths.take 168
set_option maxRecDepth 100000 in
set_option maxRecDepth 100000 in
theorem aMc_0 : lw_tbl[90]? = some (Cond.code yX0_init cX0_init 1 none) := rfl
set_option maxRecDepth 100000 in
theorem aMc_1 : lw_tbl[356]? = some (Cond.code yX0_start cX0_start 3 none) := rfl
set_option maxRecDepth 100000 in
theorem aMc_2 : lw_tbl[360]? = some (Cond.code yX0_addPage cX0_addPage 3 none) := rfl
set_option maxRecDepth 100000 in
theorem aMc_3 : lw_tbl[418]? = some (Cond.code yX0_addToldPage cX0_addToldPage 2 none) := rfl
set_option maxRecDepth 100000 in
theorem aMc_4 : lw_tbl[288]? = some (Cond.code yX0_copyFrom cX0_copyFrom 2 none) := rfl
set_option maxRecDepth 100000 in
theorem aMc_5 : lw_tbl[352]? = some (Cond.code yX0_goesRound cX0_goesRound 1 (some .boolean)) := rfl
set_option maxRecDepth 100000 in
theorem aMc_6 : lw_tbl[440]? = some (Cond.code yX0_seatOf cX0_seatOf 2 (some .int)) := rfl
set_option maxRecDepth 100000 in
theorem aMc_7 : lw_tbl[426]? = some (Cond.code yX0_markOf cX0_markOf 2 (some .int)) := rfl
set_option maxRecDepth 100000 in
theorem aMc_8 : lw_tbl[480]? = some (Cond.code yX0_wasTold cX0_wasTold 2 (some .boolean)) := rfl
set_option maxRecDepth 100000 in
theorem aMc_9 : lw_tbl[398]? = some (Cond.code yX0_liesAt cX0_liesAt 1 (some .int)) := rfl
set_option maxRecDepth 100000 in
theorem aMc_10 : lw_tbl[373]? = some (Cond.code yX0_endsWithWord cX0_endsWithWord 1 (some .boolean)) := rfl
set_option maxRecDepth 100000 in
theorem aMc_11 : lw_tbl[411]? = some (Cond.code yX0_firstWord cX0_firstWord 1 (some .int)) := rfl
set_option maxRecDepth 100000 in
theorem aMc_12 : lw_tbl[406]? = some (Cond.code yX0_lastWord cX0_lastWord 1 (some .int)) := rfl
set_option maxRecDepth 100000 in
theorem aMc_13 : lw_tbl[435]? = some (Cond.code yX0_hasFoundWordAgain cX0_hasFoundWordAgain 1 (some .boolean)) := rfl
set_option maxRecDepth 100000 in
theorem aMc_14 : lw_tbl[463]? = some (Cond.code yX0_wordChanges cX0_wordChanges 3 (some .int)) := rfl
set_option maxRecDepth 100000 in
theorem aMc_15 : lw_tbl[393]? = some (Cond.code yX0_seatSet cX0_seatSet 3 (some .int)) := rfl
set_option maxRecDepth 100000 in
theorem aMc_16 : lw_tbl[157]? = some (Cond.code yX1_init cX1_init 1 none) := rfl
set_option maxRecDepth 100000 in
theorem aMc_17 : lw_tbl[517]? = some (Cond.code yX1_follow cX1_follow 3 none) := rfl
set_option maxRecDepth 100000 in
theorem aMc_18 : lw_tbl[544]? = some (Cond.code yX1_followAll cX1_followAll 4 none) := rfl
set_option maxRecDepth 100000 in
theorem aMc_19 : lw_tbl[532]? = some (Cond.code yX1_differenceAtHome cX1_differenceAtHome 4 (some .int)) := rfl
set_option maxRecDepth 100000 in
theorem aMc_20 : lw_tbl[522]? = some (Cond.code yX1_playToEnd cX1_playToEnd 2 none) := rfl
set_option maxRecDepth 100000 in
theorem aMc_21 : lw_tbl[178]? = some (Cond.code yX2_init cX2_init 2 none) := rfl
set_option maxRecDepth 100000 in
theorem aMc_22 : lw_tbl[267]? = some (Cond.code yX2_stateAt cX2_stateAt 3 (some (.object "DoodleAlbums$Table"))) := rfl
set_option maxRecDepth 100000 in
theorem aMc_23 : lw_tbl[263]? = some (Cond.code yX2_prepare cX2_prepare 3 none) := rfl
set_option maxRecDepth 100000 in
theorem aMc_24 : lw_tbl[306]? = some (Cond.code yX2_recordUnlessError cX2_recordUnlessError 2 (some .int)) := rfl
set_option maxRecDepth 100000 in
theorem aMc_25 : lw_tbl[630]? = some (Cond.code yX2_takeBack cX2_takeBack 3 (some .int)) := rfl
set_option maxRecDepth 100000 in
theorem aMc_26 : lw_tbl[200]? = some (Cond.code yX3_init cX3_init 1 none) := rfl
set_option maxRecDepth 100000 in
theorem aMc_27 : lw_tbl[554]? = some (Cond.code yX3_append cX3_append 7 (some .int)) := rfl
set_option maxRecDepth 100000 in
theorem aMc_28 : lw_tbl[557]? = some (Cond.code yX3_signsIn cX3_signsIn 6 (some .int)) := rfl
set_option maxRecDepth 100000 in
theorem aMc_29 : lw_tbl[567]? = some (Cond.code yX3_empty cX3_empty 2 (some .int)) := rfl
set_option maxRecDepth 100000 in
theorem aMc_30 : lw_tbl[575]? = some (Cond.code yX3_findFault cX3_findFault 2 (some .int)) := rfl
set_option maxRecDepth 100000 in
theorem aMc_31 : lw_tbl[579]? = some (Cond.code yX3_startReading cX3_startReading 1 none) := rfl
set_option maxRecDepth 100000 in
theorem aMc_32 : lw_tbl[583]? = some (Cond.code yX3_readNext cX3_readNext 1 (some .boolean)) := rfl
set_option maxRecDepth 100000 in
theorem aMc_33 : lw_tbl[595]? = some (Cond.code yX3_readOrder cX3_readOrder 1 (some .boolean)) := rfl
set_option maxRecDepth 100000 in
theorem aMc_34 : lw_tbl[599]? = some (Cond.code yX3_readSeat cX3_readSeat 2 (some .boolean)) := rfl
set_option maxRecDepth 100000 in
theorem aMc_35 : lw_tbl[612]? = some (Cond.code yX3_readRounds cX3_readRounds 2 none) := rfl
set_option maxRecDepth 100000 in
theorem aMc_36 : lw_tbl[608]? = some (Cond.code yX3_readNumber cX3_readNumber 3 (some .boolean)) := rfl
set_option maxRecDepth 100000 in
theorem aMc_37 : lw_tbl[587]? = some (Cond.code yX3_take cX3_take 2 (some .boolean)) := rfl
set_option maxRecDepth 100000 in
theorem aMc_38 : lw_tbl[603]? = some (Cond.code yX3_digitHere cX3_digitHere 2 (some .int)) := rfl
set_option maxRecDepth 100000 in
theorem aMc_39 : lw_tbl[591]? = some (Cond.code yX3_signHere cX3_signHere 1 (some .int)) := rfl
set_option maxRecDepth 100000 in
theorem aMc_40 : lw_tbl[228]? = some (Cond.code yX4_init cX4_init 1 none) := rfl
set_option maxRecDepth 100000 in
theorem aMc_41 : lw_tbl[83]? = some (Cond.code yX5_init cX5_init 2 none) := rfl
set_option maxRecDepth 100000 in
theorem aMc_42 : lw_tbl[271]? = some (Cond.code yX5_copyFrom cX5_copyFrom 5 none) := rfl
set_option maxRecDepth 100000 in
theorem aMc_43 : lw_tbl[284]? = some (Cond.code yX5_placeAt cX5_placeAt 2 (some (.object "DoodleAlbums$Album"))) := rfl
set_option maxRecDepth 100000 in
theorem aMc_44 : lw_tbl[348]? = some (Cond.code yX5_albumAt cX5_albumAt 2 (some (.object "DoodleAlbums$Album"))) := rfl
set_option maxRecDepth 100000 in
theorem aMc_45 : lw_tbl[332]? = some (Cond.code yX5_isTaken cX5_isTaken 2 (some .boolean)) := rfl
set_option maxRecDepth 100000 in
theorem aMc_46 : lw_tbl[293]? = some (Cond.code yX5_changeFeatures cX5_changeFeatures 4 (some .int)) := rfl
set_option maxRecDepth 100000 in
theorem aMc_47 : lw_tbl[314]? = some (Cond.code yX5_sitDown cX5_sitDown 3 (some .int)) := rfl
set_option maxRecDepth 100000 in
theorem aMc_48 : lw_tbl[328]? = some (Cond.code yX5_standUp cX5_standUp 2 (some .int)) := rfl
set_option maxRecDepth 100000 in
theorem aMc_49 : lw_tbl[340]? = some (Cond.code yX5_beginAlbum cX5_beginAlbum 4 (some .int)) := rfl
set_option maxRecDepth 100000 in
theorem aMc_50 : lw_tbl[369]? = some (Cond.code yX5_tellPage cX5_tellPage 5 (some .int)) := rfl
set_option maxRecDepth 100000 in
theorem aMc_51 : lw_tbl[381]? = some (Cond.code yX5_makeRound cX5_makeRound 3 (some .int)) := rfl
set_option maxRecDepth 100000 in
theorem aMc_52 : lw_tbl[452]? = some (Cond.code yX5_clearEnded cX5_clearEnded 5 (some .int)) := rfl
set_option maxRecDepth 100000 in
theorem aMc_53 : lw_tbl[385]? = some (Cond.code yX5_passOn cX5_passOn 4 none) := rfl
set_option maxRecDepth 100000 in
theorem aMc_54 : lw_tbl[389]? = some (Cond.code yX5_nextSeat cX5_nextSeat 5 (some .int)) := rfl
set_option maxRecDepth 100000 in
theorem aMc_55 : lw_tbl[402]? = some (Cond.code yX5_end cX5_end 3 none) := rfl
set_option maxRecDepth 100000 in
theorem aMc_56 : lw_tbl[422]? = some (Cond.code yX5_pageBy cX5_pageBy 4 (some .int)) := rfl
set_option maxRecDepth 100000 in
theorem aMc_57 : lw_tbl[430]? = some (Cond.code yX5_mostLike cX5_mostLike 6 (some .int)) := rfl
set_option maxRecDepth 100000 in
theorem aMc_58 : lw_tbl[469]? = some (Cond.code yX5_difference cX5_difference 3 (some .int)) := rfl
set_option maxRecDepth 100000 in
theorem aMc_59 : lw_tbl[344]? = some (Cond.code yX5_albumGoingRoundOf cX5_albumGoingRoundOf 4 (some .int)) := rfl
set_option maxRecDepth 100000 in
theorem aMc_60 : lw_tbl[444]? = some (Cond.code yX5_albumsThatAre cX5_albumsThatAre 5 (some .int)) := rfl
set_option maxRecDepth 100000 in
theorem aMc_61 : lw_tbl[491]? = some (Cond.code yX5_pagesBy cX5_pagesBy 5 (some .int)) := rfl
set_option maxRecDepth 100000 in
theorem aMc_62 : lw_tbl[504]? = some (Cond.code yX5_allPoints cX5_allPoints 3 (some .int)) := rfl
set_option maxRecDepth 100000 in
theorem aMc_63 : lw_tbl[75]? = some (Cond.code yX6_init cX6_init 2 none) := rfl
set_option maxRecDepth 100000 in
theorem aMc_64 : lw_tbl[259]? = some (Cond.code yX6_teach cX6_teach 3 (some .int)) := rfl
set_option maxRecDepth 100000 in
theorem aMc_65 : lw_tbl[310]? = some (Cond.code yX6_sit cX6_sit 3 (some .int)) := rfl
set_option maxRecDepth 100000 in
theorem aMc_66 : lw_tbl[324]? = some (Cond.code yX6_leave cX6_leave 2 (some .int)) := rfl
set_option maxRecDepth 100000 in
theorem aMc_67 : lw_tbl[336]? = some (Cond.code yX6_begin cX6_begin 3 (some .int)) := rfl
set_option maxRecDepth 100000 in
theorem aMc_68 : lw_tbl[365]? = some (Cond.code yX6_tell cX6_tell 3 (some .int)) := rfl
set_option maxRecDepth 100000 in
theorem aMc_69 : lw_tbl[377]? = some (Cond.code yX6_round cX6_round 1 (some .int)) := rfl
set_option maxRecDepth 100000 in
theorem aMc_70 : lw_tbl[448]? = some (Cond.code yX6_clear cX6_clear 1 (some .int)) := rfl
set_option maxRecDepth 100000 in
theorem aMc_71 : lw_tbl[456]? = some (Cond.code yX6_of cX6_of 4 (some .int)) := rfl
set_option maxRecDepth 100000 in
theorem aMc_72 : lw_tbl[473]? = some (Cond.code yX6_page cX6_page 5 (some .int)) := rfl
set_option maxRecDepth 100000 in
theorem aMc_73 : lw_tbl[484]? = some (Cond.code yX6_seat cX6_seat 3 (some .int)) := rfl
set_option maxRecDepth 100000 in
theorem aMc_74 : lw_tbl[495]? = some (Cond.code yX6_word cX6_word 2 (some .int)) := rfl
set_option maxRecDepth 100000 in
theorem aMc_75 : lw_tbl[499]? = some (Cond.code yX6_count cX6_count 2 (some .int)) := rfl
set_option maxRecDepth 100000 in
theorem aMc_76 : lw_tbl[508]? = some (Cond.code yX6_guess cX6_guess 2 (some .int)) := rfl
set_option maxRecDepth 100000 in
theorem aMc_77 : lw_tbl[513]? = some (Cond.code yX6_foretold cX6_foretold 4 (some .int)) := rfl
set_option maxRecDepth 100000 in
theorem aMc_78 : lw_tbl[528]? = some (Cond.code yX6_bestWord cX6_bestWord 7 (some .int)) := rfl
set_option maxRecDepth 100000 in
theorem aMc_79 : lw_tbl[540]? = some (Cond.code yX6_pointsThen cX6_pointsThen 2 (some .int)) := rfl
set_option maxRecDepth 100000 in
theorem aMc_80 : lw_tbl[550]? = some (Cond.code yX6_put cX6_put 3 (some .int)) := rfl
set_option maxRecDepth 100000 in
theorem aMc_81 : lw_tbl[563]? = some (Cond.code yX6_wipe cX6_wipe 1 (some .int)) := rfl
set_option maxRecDepth 100000 in
theorem aMc_82 : lw_tbl[571]? = some (Cond.code yX6_fault cX6_fault 1 (some .int)) := rfl
set_option maxRecDepth 100000 in
theorem aMc_83 : lw_tbl[616]? = some (Cond.code yX6_carryOut cX6_carryOut 2 (some .int)) := rfl
set_option maxRecDepth 100000 in
theorem aMc_84 : lw_tbl[626]? = some (Cond.code yX6_undo cX6_undo 1 (some .int)) := rfl
set_option maxRecDepth 100000 in
theorem aMc_85 : lw_tbl[634]? = some (Cond.code yX6_save cX6_save 3 (some .int)) := rfl
set_option maxRecDepth 100000 in
theorem aMc_86 : lw_tbl[643]? = some (Cond.code yX6_restore cX6_restore 3 (some .int)) := rfl
set_option maxRecDepth 100000 in
theorem aMc_87 : lw_tbl[622]? = some (Cond.code yX6_carryOutOrder cX6_carryOutOrder 2 (some .int)) := rfl
set_option maxRecDepth 100000 in
theorem aMc_88 : lw_tbl[638]? = some (Cond.code yX6_slotAt cX6_slotAt 2 (some (.object "DoodleAlbums$Slot"))) := rfl
set_option maxRecDepth 100000 in
theorem aMc_89 : lw_tbl[296]? = some (Cond.code yX6_isBelow cX6_isBelow 2 (some .boolean)) := rfl
set_option maxRecDepth 100000 in
theorem aMc_90 : lw_tbl[299]? = some (Cond.code yX6_valueAt cX6_valueAt 2 (some .int)) := rfl
set_option maxRecDepth 100000 in
theorem aMc_91 : lw_tbl[302]? = some (Cond.code yX6_setAt cX6_setAt 3 none) := rfl
set_option maxRecDepth 100000 in
theorem aMc_92 : lw_tbl[414]? = some (Cond.code yX6_addAt cX6_addAt 3 none) := rfl
set_option maxRecDepth 100000 in
theorem aMc_93 : lw_tbl[274]? = some (Cond.code yX6_copyRow cX6_copyRow 2 none) := rfl
set_option maxRecDepth 100000 in
theorem aMc_94 : lw_tbl[648]? = some (Cond.code yX7_init cX7_init 2 none) := rfl
set_option maxRecDepth 100000 in
theorem aMc_95 : lw_tbl[703]? = some (Cond.code yX7_moves cX7_moves 5 none) := rfl
set_option maxRecDepth 100000 in
theorem aMc_96 : lw_tbl[696]? = some (Cond.code yX7_within cX7_within 3 (some .boolean)) := rfl
set_option maxRecDepth 100000 in
theorem aMc_97 : lw_tbl[700]? = some (Cond.code yX7_record cX7_record 2 none) := rfl
set_option maxRecDepth 100000 in
theorem aMc_98 : lw_tbl[721]? = some (Cond.code yX7_bits cX7_bits 3 (some .int)) := rfl
set_option maxRecDepth 100000 in
theorem aMc_99 : lw_tbl[693]? = some (Cond.code yX7_isWord cX7_isWord 1 (some .boolean)) := rfl
set_option maxRecDepth 100000 in
theorem aMc_100 : lw_tbl[714]? = some (Cond.code yX7_isSeat cX7_isSeat 1 (some .boolean)) := rfl
set_option maxRecDepth 100000 in
theorem aMc_101 : lw_tbl[733]? = some (Cond.code yX7_isTaken cX7_isTaken 2 (some .boolean)) := rfl
set_option maxRecDepth 100000 in
theorem aMc_102 : lw_tbl[785]? = some (Cond.code yX7_isAlbum cX7_isAlbum 2 (some .boolean)) := rfl
set_option maxRecDepth 100000 in
theorem aMc_103 : lw_tbl[753]? = some (Cond.code yX7_part cX7_part 3 (some .int)) := rfl
set_option maxRecDepth 100000 in
theorem aMc_104 : lw_tbl[769]? = some (Cond.code yX7_setPart cX7_setPart 4 none) := rfl
set_option maxRecDepth 100000 in
theorem aMc_105 : lw_tbl[809]? = some (Cond.code yX7_pagePart cX7_pagePart 4 (some .int)) := rfl
set_option maxRecDepth 100000 in
theorem aMc_106 : lw_tbl[773]? = some (Cond.code yX7_putPage cX7_putPage 6 none) := rfl
set_option maxRecDepth 100000 in
theorem aMc_107 : lw_tbl[805]? = some (Cond.code yX7_lastPage cX7_lastPage 2 (some .int)) := rfl
set_option maxRecDepth 100000 in
theorem aMc_108 : lw_tbl[825]? = some (Cond.code yX7_lastWordPage cX7_lastWordPage 2 (some .int)) := rfl
set_option maxRecDepth 100000 in
theorem aMc_109 : lw_tbl[821]? = some (Cond.code yX7_lastWord cX7_lastWord 2 (some .int)) := rfl
set_option maxRecDepth 100000 in
theorem aMc_110 : lw_tbl[829]? = some (Cond.code yX7_firstWord cX7_firstWord 2 (some .int)) := rfl
set_option maxRecDepth 100000 in
theorem aMc_111 : lw_tbl[813]? = some (Cond.code yX7_seatsOf cX7_seatsOf 4 (some .int)) := rfl
set_option maxRecDepth 100000 in
theorem aMc_112 : lw_tbl[757]? = some (Cond.code yX7_goesRound cX7_goesRound 2 (some .boolean)) := rfl
set_option maxRecDepth 100000 in
theorem aMc_113 : lw_tbl[749]? = some (Cond.code yX7_albumOf cX7_albumOf 4 (some .int)) := rfl
set_option maxRecDepth 100000 in
theorem aMc_114 : lw_tbl[845]? = some (Cond.code yX7_withHow cX7_withHow 4 (some .int)) := rfl
set_option maxRecDepth 100000 in
theorem aMc_115 : lw_tbl[841]? = some (Cond.code yX7_guessed cX7_guessed 4 (some .int)) := rfl
set_option maxRecDepth 100000 in
theorem aMc_116 : lw_tbl[801]? = some (Cond.code yX7_nextSeat cX7_nextSeat 7 (some .int)) := rfl
set_option maxRecDepth 100000 in
theorem aMc_117 : lw_tbl[833]? = some (Cond.code yX7_scores cX7_scores 3 none) := rfl
set_option maxRecDepth 100000 in
theorem aMc_118 : lw_tbl[817]? = some (Cond.code yX7_comesHome cX7_comesHome 2 none) := rfl
set_option maxRecDepth 100000 in
theorem aMc_119 : lw_tbl[837]? = some (Cond.code yX7_goesTo cX7_goesTo 8 none) := rfl
set_option maxRecDepth 100000 in
theorem aMc_120 : lw_tbl[797]? = some (Cond.code yX7_makesRound cX7_makesRound 3 none) := rfl
set_option maxRecDepth 100000 in
theorem aMc_121 : lw_tbl[690]? = some (Cond.code yX7_teach cX7_teach 4 (some .int)) := rfl
set_option maxRecDepth 100000 in
theorem aMc_122 : lw_tbl[711]? = some (Cond.code yX7_whyNotSat cX7_whyNotSat 3 (some .int)) := rfl
set_option maxRecDepth 100000 in
theorem aMc_123 : lw_tbl[718]? = some (Cond.code yX7_sat cX7_sat 3 (some .int)) := rfl
set_option maxRecDepth 100000 in
theorem aMc_124 : lw_tbl[707]? = some (Cond.code yX7_sit cX7_sit 4 (some .int)) := rfl
set_option maxRecDepth 100000 in
theorem aMc_125 : lw_tbl[729]? = some (Cond.code yX7_whyNotLeft cX7_whyNotLeft 2 (some .int)) := rfl
set_option maxRecDepth 100000 in
theorem aMc_126 : lw_tbl[737]? = some (Cond.code yX7_left cX7_left 2 (some .int)) := rfl
set_option maxRecDepth 100000 in
theorem aMc_127 : lw_tbl[725]? = some (Cond.code yX7_leave cX7_leave 3 (some .int)) := rfl
set_option maxRecDepth 100000 in
theorem aMc_128 : lw_tbl[745]? = some (Cond.code yX7_whyNotBegun cX7_whyNotBegun 3 (some .int)) := rfl
set_option maxRecDepth 100000 in
theorem aMc_129 : lw_tbl[765]? = some (Cond.code yX7_clearAlbum cX7_clearAlbum 3 none) := rfl
set_option maxRecDepth 100000 in
theorem aMc_130 : lw_tbl[761]? = some (Cond.code yX7_begun cX7_begun 4 (some .int)) := rfl
set_option maxRecDepth 100000 in
theorem aMc_131 : lw_tbl[741]? = some (Cond.code yX7_begin cX7_begin 4 (some .int)) := rfl
set_option maxRecDepth 100000 in
theorem aMc_132 : lw_tbl[781]? = some (Cond.code yX7_whyNotTold cX7_whyNotTold 4 (some .int)) := rfl
set_option maxRecDepth 100000 in
theorem aMc_133 : lw_tbl[789]? = some (Cond.code yX7_tells cX7_tells 4 (some .int)) := rfl
set_option maxRecDepth 100000 in
theorem aMc_134 : lw_tbl[777]? = some (Cond.code yX7_tell cX7_tell 4 (some .int)) := rfl
set_option maxRecDepth 100000 in
theorem aMc_135 : lw_tbl[793]? = some (Cond.code yX7_round cX7_round 1 (some .int)) := rfl
set_option maxRecDepth 100000 in
theorem aMc_136 : lw_tbl[853]? = some (Cond.code yX7_cleared cX7_cleared 4 (some .int)) := rfl
set_option maxRecDepth 100000 in
theorem aMc_137 : lw_tbl[849]? = some (Cond.code yX7_clear cX7_clear 1 (some .int)) := rfl
set_option maxRecDepth 100000 in
theorem aMc_138 : lw_tbl[861]? = some (Cond.code yX7_changed cX7_changed 4 (some .int)) := rfl
set_option maxRecDepth 100000 in
theorem aMc_139 : lw_tbl[865]? = some (Cond.code yX7_apart cX7_apart 3 (some .int)) := rfl
set_option maxRecDepth 100000 in
theorem aMc_140 : lw_tbl[857]? = some (Cond.code yX7_of cX7_of 3 (some .int)) := rfl
set_option maxRecDepth 100000 in
theorem aMc_141 : lw_tbl[869]? = some (Cond.code yX7_page cX7_page 4 (some .int)) := rfl
set_option maxRecDepth 100000 in
theorem aMc_142 : lw_tbl[877]? = some (Cond.code yX7_pagesBy cX7_pagesBy 4 (some .int)) := rfl
set_option maxRecDepth 100000 in
theorem aMc_143 : lw_tbl[873]? = some (Cond.code yX7_seat cX7_seat 3 (some .int)) := rfl
set_option maxRecDepth 100000 in
theorem aMc_144 : lw_tbl[881]? = some (Cond.code yX7_word cX7_word 2 (some .int)) := rfl
set_option maxRecDepth 100000 in
theorem aMc_145 : lw_tbl[889]? = some (Cond.code yX7_allPoints cX7_allPoints 3 (some .int)) := rfl
set_option maxRecDepth 100000 in
theorem aMc_146 : lw_tbl[885]? = some (Cond.code yX7_count cX7_count 2 (some .int)) := rfl
set_option maxRecDepth 100000 in
theorem aMc_147 : lw_tbl[893]? = some (Cond.code yX7_guess cX7_guess 2 (some .int)) := rfl
set_option maxRecDepth 100000 in
theorem aMc_148 : lw_tbl[897]? = some (Cond.code yX7_foretold cX7_foretold 5 (some .int)) := rfl
set_option maxRecDepth 100000 in
theorem aMc_149 : lw_tbl[905]? = some (Cond.code yX7_differsWith cX7_differsWith 4 (some .int)) := rfl
set_option maxRecDepth 100000 in
theorem aMc_150 : lw_tbl[901]? = some (Cond.code yX7_bestWord cX7_bestWord 7 (some .int)) := rfl
set_option maxRecDepth 100000 in
theorem aMc_151 : lw_tbl[909]? = some (Cond.code yX7_pointsThen cX7_pointsThen 3 (some .int)) := rfl
set_option maxRecDepth 100000 in
theorem aMc_152 : lw_tbl[913]? = some (Cond.code yX7_put cX7_put 8 (some .int)) := rfl
set_option maxRecDepth 100000 in
theorem aMc_153 : lw_tbl[918]? = some (Cond.code yX7_wipe cX7_wipe 2 (some .int)) := rfl
set_option maxRecDepth 100000 in
theorem aMc_154 : lw_tbl[934]? = some (Cond.code yX7_character cX7_character 2 (some .int)) := rfl
set_option maxRecDepth 100000 in
theorem aMc_155 : lw_tbl[942]? = some (Cond.code yX7_isNext cX7_isNext 3 (some .boolean)) := rfl
set_option maxRecDepth 100000 in
theorem aMc_156 : lw_tbl[938]? = some (Cond.code yX7_takeDigit cX7_takeDigit 4 (some .int)) := rfl
set_option maxRecDepth 100000 in
theorem aMc_157 : lw_tbl[946]? = some (Cond.code yX7_takeNumber cX7_takeNumber 2 (some .int)) := rfl
set_option maxRecDepth 100000 in
theorem aMc_158 : lw_tbl[930]? = some (Cond.code yX7_readsOrder cX7_readsOrder 1 (some .boolean)) := rfl
set_option maxRecDepth 100000 in
theorem aMc_159 : lw_tbl[926]? = some (Cond.code yX7_findFault cX7_findFault 1 (some .int)) := rfl
set_option maxRecDepth 100000 in
theorem aMc_160 : lw_tbl[922]? = some (Cond.code yX7_fault cX7_fault 1 (some .int)) := rfl
set_option maxRecDepth 100000 in
theorem aMc_161 : lw_tbl[954]? = some (Cond.code yX7_whyNotDone cX7_whyNotDone 1 (some .int)) := rfl
set_option maxRecDepth 100000 in
theorem aMc_162 : lw_tbl[958]? = some (Cond.code yX7_does cX7_does 2 none) := rfl
set_option maxRecDepth 100000 in
theorem aMc_163 : lw_tbl[950]? = some (Cond.code yX7_carryOut cX7_carryOut 3 (some .int)) := rfl
set_option maxRecDepth 100000 in
theorem aMc_164 : lw_tbl[962]? = some (Cond.code yX7_undo cX7_undo 1 (some .int)) := rfl
set_option maxRecDepth 100000 in
theorem aMc_165 : lw_tbl[966]? = some (Cond.code yX7_save cX7_save 2 (some .int)) := rfl
set_option maxRecDepth 100000 in
theorem aMc_166 : lw_tbl[970]? = some (Cond.code yX7_restore cX7_restore 2 (some .int)) := rfl
set_option maxRecDepth 100000 in
theorem aMc_167 : lw_tbl[317]? = some (Cond.code yJ6_bitCount_0f7a4 cJ6_bitCount_0f7a4 1 (some .int)) := rfl
def aCodesIn : List aMeth → Prop
  | t :: ms => lw_tbl[t.2.2.2.2.2.2.2.getD 0 0]? = some (Cond.code t.1 t.2.1 t.2.2.1 t.2.2.2.1) ∧ aCodesIn ms
  | [] => True
theorem aCodesIn_at : ∀ (ms : List aMeth), aCodesIn ms → ∀ t ∈ ms, lw_tbl[t.2.2.2.2.2.2.2.getD 0 0]? = some (Cond.code t.1 t.2.1 t.2.2.1 t.2.2.2.1)
  | [], _, t, h => absurd h List.not_mem_nil
  | m :: ms, h, t, ht => by
    rcases List.mem_cons.mp ht with rfl | ht
    · exact h.1
    · exact aCodesIn_at ms h.2 t ht
set_option maxRecDepth 100000 in
theorem aMs_ok1 : ∀ t ∈ aMethsC, lw_tbl[t.2.2.2.2.2.2.2.getD 0 0]? = some (Cond.code t.1 t.2.1 t.2.2.1 t.2.2.2.1) := aCodesIn_at _ ⟨aMc_0, aMc_1, aMc_2, aMc_3, aMc_4, aMc_5, aMc_6, aMc_7, aMc_8, aMc_9, aMc_10, aMc_11, aMc_12, aMc_13, aMc_14, aMc_15, aMc_16, aMc_17, aMc_18, aMc_19, aMc_20, aMc_21, aMc_22, aMc_23, aMc_24, aMc_25, aMc_26, aMc_27, aMc_28, aMc_29, aMc_30, aMc_31, aMc_32, aMc_33, aMc_34, aMc_35, aMc_36, aMc_37, aMc_38, aMc_39, aMc_40, aMc_41, aMc_42, aMc_43, aMc_44, aMc_45, aMc_46, aMc_47, aMc_48, aMc_49, aMc_50, aMc_51, aMc_52, aMc_53, aMc_54, aMc_55, aMc_56, aMc_57, aMc_58, aMc_59, aMc_60, aMc_61, aMc_62, aMc_63, aMc_64, aMc_65, aMc_66, aMc_67, aMc_68, aMc_69, aMc_70, aMc_71, aMc_72, aMc_73, aMc_74, aMc_75, aMc_76, aMc_77, aMc_78, aMc_79, aMc_80, aMc_81, aMc_82, aMc_83, aMc_84, aMc_85, aMc_86, aMc_87, aMc_88, aMc_89, aMc_90, aMc_91, aMc_92, aMc_93, aMc_94, aMc_95, aMc_96, aMc_97, aMc_98, aMc_99, aMc_100, aMc_101, aMc_102, aMc_103, aMc_104, aMc_105, aMc_106, aMc_107, aMc_108, aMc_109, aMc_110, aMc_111, aMc_112, aMc_113, aMc_114, aMc_115, aMc_116, aMc_117, aMc_118, aMc_119, aMc_120, aMc_121, aMc_122, aMc_123, aMc_124, aMc_125, aMc_126, aMc_127, aMc_128, aMc_129, aMc_130, aMc_131, aMc_132, aMc_133, aMc_134, aMc_135, aMc_136, aMc_137, aMc_138, aMc_139, aMc_140, aMc_141, aMc_142, aMc_143, aMc_144, aMc_145, aMc_146, aMc_147, aMc_148, aMc_149, aMc_150, aMc_151, aMc_152, aMc_153, aMc_154, aMc_155, aMc_156, aMc_157, aMc_158, aMc_159, aMc_160, aMc_161, aMc_162, aMc_163, aMc_164, aMc_165, aMc_166, aMc_167, trivial⟩
set_option maxRecDepth 100000 in
theorem aMs_ok2 : ∀ t ∈ aMethsC, goodWord (Cond.code t.1 t.2.1 t.2.2.1 t.2.2.2.1) = true := by decide +kernel
set_option maxRecDepth 100000 in
theorem aMs_ok3 : ∀ t ∈ aMethsC, (if t.2.2.2.2.2.2.1 = 1 then lw_tbl[t.2.2.2.2.2.2.2.getD 1 0]? = some (Cond.static t.1) ∧ goodWord (Cond.static t.1) = true else lw_tbl[t.2.2.2.2.2.2.2.getD 1 0]? = some (Cond.instanceMethod t.1) ∧ goodWord (Cond.instanceMethod t.1) = true) := by decide +kernel
set_option maxRecDepth 100000 in
theorem aMs_ok4 : ∀ t ∈ aMethsC, (t.2.2.2.2.2.2.1 = 0 → lw_tbl[t.2.2.2.2.2.2.2.getD 2 0]? = some (Cond.selects t.1.cls t.1 t.1) ∧ goodWord (Cond.selects t.1.cls t.1 t.1) = true) := by decide +kernel
set_option maxRecDepth 100000 in
theorem aMs_ok5 : ∀ t ∈ aMethsC, (t.2.2.2.2.2.2.1 = 2 → t.1.name = "<init>" ∧ t.2.2.2.1 = none) := by decide +kernel
set_option maxRecDepth 100000 in
theorem aMs_ok6 : ∀ t ∈ aMethsC, (lw_tbl[t.2.2.2.2.2.2.2.getD 3 0]? = some (Cond.initialized t.1.cls) ∧ goodWord (Cond.initialized t.1.cls) = true) := by decide +kernel
set_option maxRecDepth 100000 in
theorem aMs_ok7 : ∀ t ∈ aMethsC, t.2.2.2.2.1 < 8 → plainName t.1.cls = true := by decide +kernel
set_option maxRecDepth 100000 in
theorem aMs_ok8 : ∀ t ∈ aMethsC, t.1.cls ≠ "java/lang/invoke/MethodHandle" ∧ t.1.cls ≠ "java/lang/invoke/VarHandle" := by decide +kernel
set_option maxRecDepth 100000 in
theorem aMs_ok9 : ∀ t ∈ aMethsC, (parseMethodDescriptor t.1.desc).map (fun d => d.parameters.length) = some t.2.2.2.2.2.1 := by decide +kernel
set_option maxRecDepth 100000 in
theorem aMs_ok10 : ∀ t ∈ aMethsC, t.2.2.1 ≤ 16 := by decide +kernel
theorem aMs_ok : ∀ t ∈ aMethsC, aMOK t := fun t h => ⟨aMs_ok1 t h, aMs_ok2 t h, aMs_ok3 t h, aMs_ok4 t h, aMs_ok5 t h, aMs_ok6 t h, aMs_ok7 t h, (aMs_ok8 t h).1, (aMs_ok8 t h).2, aMs_ok9 t h, aMs_ok10 t h⟩
def aCn : List String := [RX0, RX1, RX2, RX3, RX4, RX5, RX6, RX7, RJ6, RJ9, RJ10, RL]
def aClass (i : Nat) : String := aCn.getD i ""
def lF : List (Nat × Nat × Nat × Nat × Nat) := [(0, 9, 0, 0, 92), (0, 15, 0, 1, 93), (0, 22, 0, 2, 94), (6, 79, 0, 2, 95), (5, 136, 0, 2, 96), (0, 25, 0, 3, 97), (6, 85, 0, 3, 98), (5, 120, 0, 3, 99), (0, 28, 0, 4, 100), (6, 91, 0, 4, 101), (5, 139, 0, 4, 102), (0, 18, 0, 5, 103), (6, 100, 0, 5, 104), (5, 89, 0, 5, 105), (0, 31, 0, 6, 106), (5, 9, 5, 0, 123), (6, 146, 5, 0, 124), (5, 15, 5, 1, 125), (6, 129, 5, 1, 126), (5, 18, 5, 2, 127), (1, 30, 5, 2, 128), (6, 137, 5, 2, 129), (5, 23, 5, 3, 130), (5, 32, 5, 4, 131), (6, 149, 5, 4, 132), (5, 39, 5, 5, 133), (1, 37, 5, 5, 134), (6, 152, 5, 5, 135), (5, 36, 5, 6, 136), (6, 158, 5, 6, 137), (1, 12, 1, 0, 161), (6, 175, 1, 0, 162), (1, 18, 1, 1, 163), (6, 187, 1, 1, 164), (1, 60, 1, 2, 165), (6, 179, 1, 2, 166), (2, 11, 2, 0, 183), (2, 18, 2, 1, 184), (2, 22, 2, 2, 185), (6, 167, 2, 2, 186), (3, 9, 3, 0, 202), (3, 19, 3, 1, 203), (6, 164, 3, 1, 204), (3, 36, 3, 2, 205), (3, 50, 3, 3, 206), (6, 225, 3, 3, 207), (3, 65, 3, 4, 208), (6, 228, 3, 4, 209), (3, 53, 3, 5, 210), (6, 231, 3, 5, 211), (4, 10, 4, 0, 232), (6, 216, 4, 0, 233), (6, 221, 4, 1, 234), (6, 12, 6, 0, 240), (6, 19, 6, 1, 241), (6, 26, 6, 2, 242), (6, 32, 6, 3, 243), (6, 39, 6, 4, 244), (7, 7, 7, 0, 650), (7, 13, 7, 1, 651), (7, 16, 7, 2, 652), (7, 28, 7, 3, 653), (7, 19, 7, 4, 654), (7, 22, 7, 5, 655), (7, 25, 7, 6, 656), (7, 163, 7, 7, 657), (7, 171, 7, 8, 658), (7, 180, 7, 9, 659), (7, 183, 7, 10, 660), (7, 192, 7, 11, 661)]
def lM : List (Nat × Nat × Nat × Nat × Nat) := [(11, 9, 63, 2, 73), (6, 3, 999, 5, 76), (6, 11, 41, 2, 81), (5, 3, 999, 5, 84), (5, 27, 0, 3, 88), (0, 3, 999, 5, 91), (6, 18, 16, 3, 155), (1, 3, 999, 5, 158), (1, 11, 0, 3, 160), (6, 25, 21, 2, 176), (2, 3, 999, 5, 179), (2, 17, 41, 2, 182), (6, 38, 26, 3, 198), (3, 3, 999, 5, 201), (6, 43, 40, 3, 226), (4, 1, 999, 5, 229), (4, 9, 41, 2, 231), (11, 13, 64, 0, 256), (6, 44, 23, 0, 260), (2, 25, 22, 0, 264), (2, 29, 42, 0, 268), (5, 28, 93, 4, 272), (6, 234, 999, 7, 275), (6, 239, 999, 6, 278), (5, 42, 43, 0, 281), (5, 46, 4, 0, 285), (0, 42, 93, 4, 289), (6, 48, 46, 0, 290), (5, 50, 89, 4, 294), (5, 54, 90, 4, 297), (5, 58, 91, 4, 300), (6, 52, 24, 0, 303), (11, 18, 65, 0, 307), (6, 56, 47, 0, 311), (5, 62, 167, 1, 315), (11, 22, 66, 0, 321), (6, 59, 48, 0, 325), (5, 68, 45, 0, 329), (11, 27, 67, 0, 333), (6, 62, 49, 0, 337), (5, 72, 59, 0, 341), (5, 79, 44, 0, 345), (5, 86, 5, 0, 349), (5, 75, 1, 0, 353), (0, 34, 2, 0, 357), (0, 38, 91, 4, 361), (11, 31, 68, 0, 362), (6, 65, 50, 0, 366), (5, 82, 10, 0, 370), (11, 35, 69, 0, 374), (6, 68, 51, 0, 378), (5, 92, 53, 0, 382), (5, 99, 54, 0, 386), (5, 129, 15, 0, 390), (0, 46, 90, 4, 394), (5, 133, 9, 0, 395), (5, 103, 55, 0, 399), (5, 142, 12, 0, 403), (0, 50, 10, 0, 407), (5, 145, 11, 0, 408), (5, 126, 92, 4, 412), (5, 106, 3, 0, 415), (5, 110, 56, 0, 419), (5, 148, 7, 0, 423), (5, 151, 57, 0, 427), (5, 114, 2, 0, 431), (5, 117, 13, 0, 432), (0, 54, 7, 0, 436), (5, 123, 6, 0, 437), (5, 96, 60, 0, 441), (11, 40, 70, 0, 445), (6, 72, 52, 0, 449), (11, 44, 71, 0, 453), (6, 75, 44, 0, 457), (6, 88, 9, 0, 458), (6, 94, 12, 0, 459), (6, 97, 14, 0, 460), (6, 103, 15, 0, 464), (6, 106, 11, 0, 465), (6, 109, 58, 0, 466), (11, 48, 72, 0, 470), (6, 112, 89, 1, 474), (6, 116, 6, 0, 475), (6, 119, 7, 0, 476), (6, 122, 8, 0, 477), (11, 53, 73, 0, 481), (6, 126, 45, 0, 485), (6, 133, 90, 1, 486), (6, 140, 59, 0, 487), (6, 143, 61, 0, 488), (11, 57, 74, 0, 492), (11, 61, 75, 0, 496), (6, 155, 60, 0, 500), (6, 161, 62, 0, 501), (11, 65, 76, 0, 505), (6, 168, 57, 0, 509), (11, 69, 77, 0, 510), (6, 171, 17, 0, 514), (1, 22, 4, 0, 518), (1, 26, 20, 0, 519), (1, 63, 5, 0, 523), (1, 67, 53, 0, 524), (11, 73, 78, 0, 525), (6, 180, 19, 0, 529), (1, 45, 1, 0, 533), (1, 49, 11, 0, 534), (1, 53, 12, 0, 535), (1, 56, 58, 0, 536), (11, 77, 79, 0, 537), (6, 184, 18, 0, 541), (1, 33, 93, 4, 545), (1, 41, 44, 0, 546), (11, 83, 80, 0, 547), (6, 188, 27, 0, 551), (3, 15, 28, 1, 555), (3, 25, 91, 4, 559), (11, 88, 81, 0, 560), (6, 192, 29, 0, 564), (11, 92, 82, 0, 568), (6, 195, 30, 0, 572), (3, 29, 31, 0, 576), (3, 32, 32, 0, 580), (3, 39, 37, 0, 584), (3, 46, 39, 0, 588), (3, 43, 33, 0, 592), (3, 56, 34, 0, 596), (3, 68, 38, 0, 600), (3, 71, 89, 4, 604), (3, 59, 36, 0, 605), (3, 62, 35, 0, 609), (11, 96, 83, 0, 613), (6, 198, 31, 0, 617), (6, 201, 32, 0, 618), (6, 205, 87, 0, 619), (11, 100, 84, 0, 623), (6, 208, 25, 0, 627), (11, 104, 85, 0, 631), (6, 212, 88, 0, 635), (6, 218, 42, 0, 639), (11, 108, 86, 0, 640), (11, 12, 94, 2, 646), (7, 1, 999, 5, 649), (11, 17, 121, 0, 687), (7, 99, 99, 1, 691), (7, 36, 96, 1, 694), (7, 102, 97, 0, 697), (7, 32, 95, 1, 701), (11, 21, 124, 0, 704), (7, 108, 122, 0, 708), (7, 105, 100, 1, 712), (7, 111, 123, 0, 715), (7, 63, 98, 1, 719), (11, 26, 127, 0, 722), (7, 114, 125, 0, 726), (7, 69, 101, 0, 730), (7, 117, 126, 0, 734), (11, 30, 131, 0, 738), (7, 126, 128, 0, 742), (7, 120, 113, 0, 746), (7, 40, 103, 0, 750), (7, 59, 112, 0, 754), (7, 129, 130, 0, 758), (7, 123, 129, 0, 762), (7, 44, 104, 0, 766), (7, 85, 106, 0, 770), (11, 34, 134, 0, 774), (7, 135, 132, 0, 778), (7, 132, 102, 0, 782), (7, 138, 133, 0, 786), (11, 39, 135, 0, 790), (7, 141, 120, 0, 794), (7, 89, 116, 0, 798), (7, 48, 107, 0, 802), (7, 55, 105, 0, 806), (7, 66, 111, 0, 810), (7, 92, 118, 0, 814), (7, 72, 109, 0, 818), (7, 52, 108, 0, 822), (7, 75, 110, 0, 826), (7, 78, 117, 0, 830), (7, 96, 119, 0, 834), (7, 82, 115, 0, 838), (7, 144, 114, 0, 842), (11, 43, 137, 0, 846), (7, 147, 136, 0, 850), (11, 47, 140, 0, 854), (7, 151, 138, 0, 858), (7, 154, 139, 0, 862), (11, 52, 141, 0, 866), (11, 56, 143, 0, 870), (7, 157, 142, 0, 874), (11, 60, 144, 0, 878), (11, 64, 146, 0, 882), (7, 160, 145, 0, 886), (11, 68, 147, 0, 890), (11, 72, 148, 0, 894), (11, 76, 150, 0, 898), (7, 166, 149, 0, 902), (11, 80, 151, 0, 906), (11, 87, 152, 0, 910), (11, 91, 153, 0, 915), (11, 95, 160, 0, 919), (7, 199, 159, 0, 923), (7, 195, 158, 0, 927), (7, 174, 154, 0, 931), (7, 177, 156, 0, 935), (7, 186, 155, 0, 939), (7, 189, 157, 0, 943), (11, 99, 163, 0, 947), (7, 202, 161, 0, 951), (7, 205, 162, 0, 955), (11, 103, 164, 0, 959), (11, 107, 165, 0, 963), (11, 111, 166, 0, 967)]
def lC : List (Nat × Nat × Nat × Nat × Nat × Nat) := [(11, 7, 6, 71, 72, 60), (6, 9, 5, 79, 80, 61), (5, 21, 0, 85, 87, 62), (6, 16, 1, 153, 154, 63), (1, 9, 0, 159, 87, 62), (6, 23, 2, 174, 175, 64), (2, 9, 5, 180, 80, 61), (6, 30, 4, 194, 225, 66), (6, 36, 3, 196, 197, 65), (4, 7, 5, 230, 80, 61), (11, 10, 7, 644, 645, 67)]
def lI : List (Nat × Nat × Int32 × Nat) := [(8, 265, 1431655765, 318), (8, 266, 858993459, 319), (8, 267, 252645135, 320)]
def lJ : List (Nat × Nat × Int64 × Nat) := [(3, 23, 255, 558), (7, 169, 255, 914), (11, 81, 4294967295, 971)]
def aNw (i : Nat) : vw_C := vwCl.getD i ("", TX0, 0)
def aName (t : Nat) : MethodName := (aMeths.getD t (yL_law, cL_law, 0, none, 0, 0, 0, [])).1
def lFOK (q : Nat × Nat × Nat × Nat × Nat) : Prop := lw_tbl[q.2.2.2.2]? = some (Cond.fieldLink (aClass q.1) q.2.1 ((aNw q.2.2.1).2.1 q.2.2.2.1).1 ((aNw q.2.2.1).2.1 q.2.2.2.1).2.1 ((aNw q.2.2.1).2.1 q.2.2.2.1).2.2.1) ∧ goodWord (Cond.fieldLink (aClass q.1) q.2.1 ((aNw q.2.2.1).2.1 q.2.2.2.1).1 ((aNw q.2.2.1).2.1 q.2.2.2.1).2.1 ((aNw q.2.2.1).2.1 q.2.2.2.1).2.2.1) = true ∧ q.2.2.1 < 8 ∧ q.2.2.2.1 < (aNw q.2.2.1).2.2
def lMOK (q : Nat × Nat × Nat × Nat × Nat) : Prop := (q.2.2.2.1 = 0 ∨ q.2.2.2.1 = 1 ∨ q.2.2.2.1 = 2 → lw_tbl[q.2.2.2.2]? = some (Cond.methodLink (aClass q.1) q.2.1 (aName q.2.2.1)) ∧ goodWord (Cond.methodLink (aClass q.1) q.2.1 (aName q.2.2.1)) = true) ∧ (q.2.2.2.1 = 3 ∨ q.2.2.2.1 = 4 → lw_tbl[q.2.2.2.2]? = some (Cond.methodLinkNest (aClass q.1) q.2.1 (aName q.2.2.1) RX6)) ∧ (q.2.2.2.1 = 5 → lw_tbl[q.2.2.2.2]? = some (Cond.methodLink (aClass q.1) q.2.1 objectInit) ∧ goodWord (Cond.methodLink (aClass q.1) q.2.1 objectInit) = true) ∧ (q.2.2.2.1 = 6 → lw_tbl[q.2.2.2.2]? = some (Cond.methodLink (aClass q.1) q.2.1 arraycopyName) ∧ goodWord (Cond.methodLink (aClass q.1) q.2.1 arraycopyName) = true) ∧ (q.2.2.2.1 = 7 → lw_tbl[q.2.2.2.2]? = some (Cond.methodLink (aClass q.1) q.2.1 Lib.Math.min.name) ∧ goodWord (Cond.methodLink (aClass q.1) q.2.1 Lib.Math.min.name) = true) ∧ q.2.2.2.1 < 8 ∧ (q.2.2.2.1 < 5 → q.2.2.1 < 168 ∧ (aMeths.getD q.2.2.1 (yL_law, cL_law, 0, none, 0, 0, 0, [])).2.2.2.2.2.2.1 = (if q.2.2.2.1 = 3 then 2 else if q.2.2.2.1 = 4 then 1 else q.2.2.2.1))
def lCOK (q : Nat × Nat × Nat × Nat × Nat × Nat) : Prop := lw_tbl[q.2.2.2.1]? = some (Cond.classLink (aClass q.1) q.2.1 (aNw q.2.2.1).1) ∧ goodWord (Cond.classLink (aClass q.1) q.2.1 (aNw q.2.2.1).1) = true ∧ lw_tbl[q.2.2.2.2.1]? = some (Cond.instantiable (aNw q.2.2.1).1 (aNw q.2.2.1).2.2) ∧ goodWord (Cond.instantiable (aNw q.2.2.1).1 (aNw q.2.2.1).2.2) = true ∧ lw_tbl[q.2.2.2.2.2]? = some (Cond.initialized (aNw q.2.2.1).1) ∧ goodWord (Cond.initialized (aNw q.2.2.1).1) = true ∧ q.2.2.1 < 8
def lIOK (q : Nat × Nat × Int32 × Nat) : Prop := lw_tbl[q.2.2.2]? = some (Cond.constant (aClass q.1) q.2.1 q.2.2.1) ∧ goodWord (Cond.constant (aClass q.1) q.2.1 q.2.2.1) = true
def lJOK (q : Nat × Nat × Int64 × Nat) : Prop := lw_tbl[q.2.2.2]? = some (Cond.constantLong (aClass q.1) q.2.1 q.2.2.1) ∧ goodWord (Cond.constantLong (aClass q.1) q.2.1 q.2.2.1) = true
set_option maxRecDepth 100000 in
theorem lF_ok : ∀ q ∈ lF, lFOK q := by
  unfold lFOK
  decide +kernel
set_option maxRecDepth 100000 in
theorem lM_ok : ∀ q ∈ lM, lMOK q := by
  unfold lMOK
  decide +kernel
set_option maxRecDepth 100000 in
theorem lC_ok : ∀ q ∈ lC, lCOK q := by
  unfold lCOK
  decide +kernel
set_option maxRecDepth 100000 in
theorem lI_ok : ∀ q ∈ lI, lIOK q := by
  unfold lIOK
  decide +kernel
set_option maxRecDepth 100000 in
theorem lJ_ok : ∀ q ∈ lJ, lJOK q := by
  unfold lJOK
  decide +kernel
theorem aW_objI : lw_tbl[77]? = some (Cond.instanceMethod objectInit) ∧ goodWord (Cond.instanceMethod objectInit) = true := by decide +kernel
theorem aW_objC : lw_tbl[78]? = some (Cond.code objectInit ⟨#[0xb1]⟩ 1 none) ∧ goodWord (Cond.code objectInit ⟨#[0xb1]⟩ 1 none) = true := by decide +kernel
theorem aW_acN : lw_tbl[280]? = some (Cond.native arraycopyName) ∧ goodWord (Cond.native arraycopyName) = true := by decide +kernel
theorem aW_acS : lw_tbl[279]? = some (Cond.static arraycopyName) ∧ goodWord (Cond.static arraycopyName) = true := by decide +kernel
theorem aW_acI : lw_tbl[69]? = some (Cond.initialized "java/lang/System") ∧ goodWord (Cond.initialized "java/lang/System") = true := by decide +kernel
theorem aW_arr : lw_tbl[122]? = some (Cond.arrayClass .int) ∧ goodWord (Cond.arrayClass .int) = true := by decide +kernel
theorem aW_mmS : lw_tbl[276]? = some (Cond.static Lib.Math.min.name) ∧ goodWord (Cond.static Lib.Math.min.name) = true := by decide +kernel
theorem aW_mmI : lw_tbl[68]? = some (Cond.initialized "java/lang/Math") ∧ goodWord (Cond.initialized "java/lang/Math") = true := by decide +kernel
theorem aW_mmC : lw_tbl[277]? = some (Cond.code Lib.Math.min.name Lib.Math.min.code 2 (some .int)) ∧ goodWord (Cond.code Lib.Math.min.name Lib.Math.min.code 2 (some .int)) = true := by decide +kernel
theorem aW_ao1 : lw_tbl[86]? = some (Cond.arrayOver (.object RX0)) := by decide +kernel
theorem aW_ao2 : lw_tbl[181]? = some (Cond.arrayOver (.object RX5)) := by decide +kernel
theorem aW_ao3 : lw_tbl[195]? = some (Cond.arrayOver (.object RX4)) := by decide +kernel
theorem aW_lay : ∀ q ∈ vwCl, ∀ w ∈ u_ws q.1 q.2.1 q.2.2, goodWord w = true ∧ w ∈ lw_tbl := by decide +kernel
theorem aW_inst : ∀ q ∈ vwCl, Cond.instantiable q.1 q.2.2 ∈ aTbl := by decide +kernel
end
section
/-! THE SMALL MACHINE: what the methods do, as a function over a heap that is a function; part 05 shows that the machine does the same. -/
abbrev aE : Type := ((Nat × (Nat → Int32)) ⊕ (Nat × (Nat → Int32))) ⊕ ((Nat × Nat × (Nat → Option Nat)) ⊕ (Nat × List Value))
/-- a row of ints; the law's own row (it is only read); a row of references; an object -/
abbrev eI (n : Nat) (f : Nat → Int32) : aE := .inl (.inl (n, f))
abbrev eS (n : Nat) (f : Nat → Int32) : aE := .inl (.inr (n, f))
abbrev eQ (j n : Nat) (f : Nat → Option Nat) : aE := .inr (.inl (j, n, f))
abbrev eO (ci : Nat) (fs : List Value) : aE := .inr (.inr (ci, fs))
abbrev aS : Type := (Nat → Option aE) × Nat × Nat
def aput (σ : aS) (a : Nat) (e : aE) : aS := (fun q => if q = a then some e else σ.1 q, σ.2)
def anew (σ : aS) (e : aE) (n : Nat) : aS := (fun q => if q = σ.2.1 then some e else σ.1 q, σ.2.1 + 1, σ.2.2 + n)
abbrev aL : Type := List (Option Value)
abbrev aQ : Type := Option Value → aS → Prop
abbrev aC : Type := Nat → aL → aS → aQ → Prop
def aclr (o : Option Value) : Option Value := match o with
  | some (.long _) => none
  | some (.double _) => none
  | x => x
def ast1 : Nat → Value → aL → aL
  | 0, v, _ :: t => some v :: t
  | 1, v, x :: _ :: t => aclr x :: some v :: t
  | i + 2, v, x :: t => x :: ast1 (i + 1) v t
  | _, _, ls => ls
def ast2 : Nat → Value → aL → aL
  | 0, v, _ :: _ :: t => some v :: none :: t
  | 1, v, x :: _ :: _ :: t => aclr x :: some v :: none :: t
  | i + 2, v, x :: t => x :: ast2 (i + 1) v t
  | _, _, ls => ls
def aret (r : Option Value) (st : List Value) : List Value := match r with
  | some v => v :: st
  | none => st
def aargs : List Value → aL
  | [] => []
  | .long x :: t => some (.long x) :: none :: aargs t
  | .double x :: t => some (.double x) :: none :: aargs t
  | v :: t => some v :: aargs t
def aentry (n : Nat) (vs : List Value) : aL := aargs vs ++ List.replicate (n - (aargs vs).length) none
def aFind : List (Nat × Instr × Nat) → Nat → Option (Instr × Nat)
  | [], _ => none
  | q :: l, pc => if q.1 = pc then some q.2 else aFind l pc
def aCode (mi pc : Nat) : Option (Instr × Nat) := aFind (aCodes.getD mi []) pc
def aRec (mi : Nat) : aMeth := aMeths.getD mi (yL_law, cL_law, 0, none, 0, 0, 0, [])
def aOwn (mi : Nat) : Nat := (aRec mi).2.2.2.2.1
def aMax (mi : Nat) : Nat := (aRec mi).2.2.1
def aRet (mi : Nat) : Option FieldType := (aRec mi).2.2.2.1
def aArg (mi : Nat) : Nat := (aRec mi).2.2.2.2.2.1
def aKnd (mi : Nat) : Nat := (aRec mi).2.2.2.2.2.2.1
def aLk {α : Type} : List (Nat × Nat × α) → Nat → Nat → Option α
  | [], _, _ => none
  | q :: l, o, i => if q.1 = o ∧ q.2.1 = i then some q.2.2 else aLk l o i
def aTgt (pc : Nat) (off : Int) : Nat := ((pc : Int) + off).toNat
def aCmp (c : ClassFile.Cond) (x y : Int32) : Bool := match c with
  | .eq => decide (x = y)
  | .ne => decide (¬ x = y)
  | .lt => decide (x < y)
  | .ge => decide (y ≤ x)
  | .gt => decide (y < x)
  | .le => decide (x ≤ y)
def aRef (v : Value) : Bool := match v with
  | .null => true
  | .ref _ => true
  | _ => false
/-- the number of an object's class, by the kind of a row of references -/
def aQc (j : Nat) : Nat := match j with
  | 1 => 0
  | 2 => 5
  | 3 => 4
  | _ => 99
def aQj (ci : Nat) : Nat := match ci with
  | 0 => 1
  | 5 => 2
  | 4 => 3
  | _ => 99
def aDef (ci : Nat) : List Value := (List.range (aNw ci).2.2).map fun k => match parseFieldDescriptor ((aNw ci).2.1 k).2.2.1 with
  | some ty => defaultValue ty
  | none => .null
def aFit (ci k : Nat) (v : Value) : Bool := match parseFieldDescriptor ((aNw ci).2.1 k).2.2.1 with
  | some ty => decide (narrow ty v = v) && fits ty v
  | none => false
def aFin (mi ci k : Nat) : Bool := if ((aNw ci).2.1 k).2.2.2 = true then decide (aKnd mi = 2) && decide (((aNw ci).2.1 k).1 = aClass (aOwn mi)) else true
/-- where an instruction leads: to the next one; to the method's end; to a call (method, its locals, where it goes on, what stays on the stack) -/
abbrev aA : Type := (Nat × aL × List Value × aS) ⊕ ((Option Value × aS) ⊕ (Nat × aL × Nat × List Value))
def aGo (pc : Nat) (ls : aL) (st : List Value) (σ : aS) : Option aA := some (.inl (pc, ls, st, σ))
def aLd (pc : Nat) (ls : aL) (st : List Value) (σ : aS) (i : Nat) (t : Value → Bool) : Option aA := match ls[i]? with
  | some (some v) => if t v = true then aGo pc ls (v :: st) σ else none
  | _ => none
def aIsI (v : Value) : Bool := match v with
  | .int _ => true
  | _ => false
def aIsJ (v : Value) : Bool := match v with
  | .long _ => true
  | _ => false
def aS1 (pc : Nat) (ls : aL) (st : List Value) (σ : aS) (i : Nat) (t : Value → Bool) : Option aA := match st with
  | v :: r => if t v = true ∧ i < ls.length then aGo pc (ast1 i v ls) r σ else none
  | _ => none
def aS2 (pc : Nat) (ls : aL) (st : List Value) (σ : aS) (i : Nat) : Option aA := match st with
  | .long x :: r => if i + 1 < ls.length then aGo pc (ast2 i (.long x) ls) r σ else none
  | _ => none
def aB2 (pc : Nat) (ls : aL) (st : List Value) (σ : aS) (f : Int32 → Int32 → Int32) : Option aA := match st with
  | .int y :: .int x :: r => aGo pc ls (.int (f x y) :: r) σ
  | _ => none
def aB2J (pc : Nat) (ls : aL) (st : List Value) (σ : aS) (f : Int64 → Int64 → Int64) : Option aA := match st with
  | .long y :: .long x :: r => aGo pc ls (.long (f x y) :: r) σ
  | _ => none
def aBr (b : Bool) (pc : Nat) (off : Int) (ls : aL) (st : List Value) (σ : aS) : Option aA :=
  if (pc : Int) + off = (aTgt pc off : Int) then (if b = true then aGo (aTgt pc off) ls st σ else aGo (pc + 3) ls st σ) else none
def aSw (pc : Nat) (off : Int) (ls : aL) (st : List Value) (σ : aS) : Option aA :=
  if (pc : Int) + off = (aTgt pc off : Int) then aGo (aTgt pc off) ls st σ else none
def aDo (t pc : Nat) (rv : Bool) (st : List Value) (σ : aS) : Option aA :=
  if (st.drop (aArg t)).length ≤ 4 ∧ aArg t ≤ st.length then
    match rv, st.drop (aArg t) with
    | true, .ref b :: rest => match σ.1 b with
      | some (.inr (.inr (ci, _))) => if ci = aOwn t ∧ (aargs (.ref b :: (st.take (aArg t)).reverse)).length ≤ aMax t then some (.inr (.inr (t, aentry (aMax t) (.ref b :: (st.take (aArg t)).reverse), pc + 3, rest))) else none
      | _ => none
    | false, rest => if (aargs (st.take (aArg t)).reverse).length ≤ aMax t then some (.inr (.inr (t, aentry (aMax t) (st.take (aArg t)).reverse, pc + 3, rest))) else none
    | _, _ => none
  else none
def aCpy (pc : Nat) (ls : aL) (st : List Value) (σ : aS) : Option aA := match st with
  | .int n :: .int dp :: .ref a :: .int sp :: .ref a0 :: rest => match σ.1 a0, σ.1 a with
    | some (.inl (.inl (n0, f))), some (.inl (.inl (n1, g))) => if ¬ sp < 0 ∧ ¬ dp < 0 ∧ ¬ n < 0 ∧ sp.toNatClampNeg + n.toNatClampNeg ≤ n0 ∧ dp.toNatClampNeg + n.toNatClampNeg ≤ n1 ∧ rest.length ≤ 4 then aGo (pc + 3) ls rest (aput σ a (eI n1 (va_cpy f g sp.toNatClampNeg dp.toNatClampNeg n.toNatClampNeg))) else none
    | _, _ => none
  | _ => none
def aMin (pc : Nat) (ls : aL) (st : List Value) (σ : aS) : Option aA := match st with
  | .int y :: .int x :: rest => if rest.length ≤ 4 then aGo (pc + 3) ls (.int (if y < x then y else x) :: rest) σ else none
  | _ => none
def aObj (pc : Nat) (ls : aL) (st : List Value) (σ : aS) : Option aA := match st with
  | .ref _ :: rest => if rest.length ≤ 4 then aGo (pc + 3) ls rest σ else none
  | _ => none
def aGetF (own pc : Nat) (ls : aL) (st : List Value) (σ : aS) (i : Nat) : Option aA := match aLk lF own i, st with
  | some (ci, k, _), .ref a :: r => match σ.1 a with
    | some (.inr (.inr (c2, fs))) => if c2 = ci then (match fs[k]? with
      | some v => aGo (pc + 3) ls (v :: r) σ
      | none => none) else none
    | _ => none
  | _, _ => none
def aPutF (mi pc : Nat) (ls : aL) (st : List Value) (σ : aS) (i : Nat) : Option aA := match aLk lF (aOwn mi) i, st with
  | some (ci, k, _), v :: .ref a :: r => match σ.1 a with
    | some (.inr (.inr (c2, fs))) => if c2 = ci ∧ k < fs.length ∧ aFit ci k v = true ∧ aFin mi ci k = true then aGo (pc + 3) ls r (aput σ a (eO ci (fs.set k v))) else none
    | _ => none
  | _, _ => none
def aIld (pc : Nat) (ls : aL) (st : List Value) (σ : aS) : Option aA := match st with
  | .int i :: .ref a :: r => match σ.1 a with
    | some (.inl (.inl (n, f))) => if ¬ (i < 0 ∨ n ≤ i.toNatClampNeg) then aGo (pc + 1) ls (.int (f i.toNatClampNeg) :: r) σ else none
    | some (.inl (.inr (n, f))) => if ¬ (i < 0 ∨ n ≤ i.toNatClampNeg) then aGo (pc + 1) ls (.int (f i.toNatClampNeg) :: r) σ else none
    | _ => none
  | _ => none
def aIst (pc : Nat) (ls : aL) (st : List Value) (σ : aS) : Option aA := match st with
  | .int x :: .int i :: .ref a :: r => match σ.1 a with
    | some (.inl (.inl (n, f))) => if ¬ (i < 0 ∨ n ≤ i.toNatClampNeg) then aGo (pc + 1) ls r (aput σ a (eI n (upd f i.toNatClampNeg x))) else none
    | _ => none
  | _ => none
def aQld (pc : Nat) (ls : aL) (st : List Value) (σ : aS) : Option aA := match st with
  | .int i :: .ref a :: r => match σ.1 a with
    | some (.inr (.inl (_, n, f))) => if ¬ (i < 0 ∨ n ≤ i.toNatClampNeg) then aGo (pc + 1) ls (va_rf (f i.toNatClampNeg) :: r) σ else none
    | _ => none
  | _ => none
def aQst (pc : Nat) (ls : aL) (st : List Value) (σ : aS) : Option aA := match st with
  | .ref v :: .int i :: .ref a :: r => match σ.1 a, σ.1 v with
    | some (.inr (.inl (j, n, f))), some (.inr (.inr (ci, _))) => if ¬ (i < 0 ∨ n ≤ i.toNatClampNeg) ∧ aQj ci = j ∧ aQc j = ci then aGo (pc + 1) ls r (aput σ a (eQ j n (va_up f i.toNatClampNeg (some v)))) else none
    | _, _ => none
  | _ => none
def aLen (pc : Nat) (ls : aL) (st : List Value) (σ : aS) : Option aA := match st with
  | .ref a :: r => match σ.1 a with
    | some (.inl (.inl (n, _))) => aGo (pc + 1) ls (.int (Int32.ofNat n) :: r) σ
    | some (.inl (.inr (n, _))) => aGo (pc + 1) ls (.int (Int32.ofNat n) :: r) σ
    | some (.inr (.inl (_, n, _))) => aGo (pc + 1) ls (.int (Int32.ofNat n) :: r) σ
    | _ => none
  | _ => none
def aAct (mi pc : Nat) (I : Instr) (ls : aL) (st : List Value) (σ : aS) : Option aA :=
  match I with
  | .iconst n => aGo (pc + 1) ls (.int (Int32.ofInt n) :: st) σ
  | .bipush n => aGo (pc + 2) ls (.int (Int8.ofInt n).toInt32 :: st) σ
  | .sipush n => aGo (pc + 3) ls (.int (Int16.ofInt n).toInt32 :: st) σ
  | .lconst n => aGo (pc + 1) ls (.long (Int64.ofNat (n : Nat)) :: st) σ
  | .aconst_null => aGo (pc + 1) ls (.null :: st) σ
  | .ldc_w i => match aLk lI (aOwn mi) i with
    | some (v, _) => aGo (pc + 3) ls (.int v :: st) σ
    | none => none
  | .ldc2_w i => match aLk lJ (aOwn mi) i with
    | some (v, _) => aGo (pc + 3) ls (.long v :: st) σ
    | none => none
  | .iload_n i => aLd (pc + 1) ls st σ i aIsI
  | .iload i => aLd (pc + 2) ls st σ i aIsI
  | .lload_n i => aLd (pc + 1) ls st σ i aIsJ
  | .lload i => aLd (pc + 2) ls st σ i aIsJ
  | .aload_n i => aLd (pc + 1) ls st σ i aRef
  | .aload i => aLd (pc + 2) ls st σ i aRef
  | .istore_n i => aS1 (pc + 1) ls st σ i aIsI
  | .istore i => aS1 (pc + 2) ls st σ i aIsI
  | .astore_n i => aS1 (pc + 1) ls st σ i aRef
  | .astore i => aS1 (pc + 2) ls st σ i aRef
  | .lstore_n i => aS2 (pc + 1) ls st σ i
  | .lstore i => aS2 (pc + 2) ls st σ i
  | .iinc i n => match ls[i]? with
    | some (some (.int x)) => aGo (pc + 3) (ast1 i (.int (x + Int32.ofInt n)) ls) st σ
    | _ => none
  | .iadd => aB2 (pc + 1) ls st σ (fun x y => x + y)
  | .isub => aB2 (pc + 1) ls st σ (fun x y => x - y)
  | .imul => aB2 (pc + 1) ls st σ (fun x y => x * y)
  | .iand => aB2 (pc + 1) ls st σ (fun x y => x &&& y)
  | .ior => aB2 (pc + 1) ls st σ (fun x y => x ||| y)
  | .ixor => aB2 (pc + 1) ls st σ (fun x y => x ^^^ y)
  | .ishl => aB2 (pc + 1) ls st σ (fun x y => x <<< (y &&& 31))
  | .ishr => aB2 (pc + 1) ls st σ (fun x y => x >>> (y &&& 31))
  | .iushr => aB2 (pc + 1) ls st σ (fun x y => (x.toUInt32 >>> (y.toUInt32 &&& Int32.toUInt32 31)).toInt32)
  | .idiv => match st with
    | .int y :: .int x :: r => if y = 0 then none else aGo (pc + 1) ls (.int (x / y) :: r) σ
    | _ => none
  | .irem => match st with
    | .int y :: .int x :: r => if y = 0 then none else aGo (pc + 1) ls (.int (x - x / y * y) :: r) σ
    | _ => none
  | .land => aB2J (pc + 1) ls st σ (fun x y => x &&& y)
  | .lor => aB2J (pc + 1) ls st σ (fun x y => x ||| y)
  | .lshl => match st with
    | .int y :: .long x :: r => aGo (pc + 1) ls (.long (x <<< (y.toInt64 &&& 63)) :: r) σ
    | _ => none
  | .lushr => match st with
    | .int y :: .long x :: r => aGo (pc + 1) ls (.long (x.toUInt64 >>> (y.toInt64.toUInt64 &&& Int64.toUInt64 63)).toInt64 :: r) σ
    | _ => none
  | .lcmp => match st with
    | .long y :: .long x :: r => aGo (pc + 1) ls (.int (lg_cmp x y) :: r) σ
    | _ => none
  | .i2l => match st with
    | .int x :: r => aGo (pc + 1) ls (.long x.toInt64 :: r) σ
    | _ => none
  | .l2i => match st with
    | .long x :: r => aGo (pc + 1) ls (.int x.toInt32 :: r) σ
    | _ => none
  | .dup => match st with
    | v :: r => if v.category = 1 then aGo (pc + 1) ls (v :: v :: r) σ else none
    | _ => none
  | .dup2 => match st with
    | v :: w :: r => if v.category = 1 ∧ w.category = 1 then aGo (pc + 1) ls (v :: w :: v :: w :: r) σ else none
    | _ => none
  | .pop => match st with
    | v :: r => if v.category = 1 then aGo (pc + 1) ls r σ else none
    | _ => none
  | .ifCond c off => match st with
    | .int x :: r => aBr (aCmp c x 0) pc off ls r σ
    | _ => none
  | .if_icmp c off => match st with
    | .int y :: .int x :: r => aBr (aCmp c x y) pc off ls r σ
    | _ => none
  | .ifnull off => match st with
    | .null :: r => aBr true pc off ls r σ
    | .ref _ :: r => aBr false pc off ls r σ
    | _ => none
  | .ifnonnull off => match st with
    | .null :: r => aBr false pc off ls r σ
    | .ref _ :: r => aBr true pc off ls r σ
    | _ => none
  | .goto off => aSw pc off ls st σ
  | .tableswitch d lo hi offs => match st with
    | .int x :: r => if x.toInt < lo ∨ hi < x.toInt then aSw pc d ls r σ else (match offs[(x.toInt - lo).toNat]? with
      | some off => aSw pc off ls r σ
      | none => none)
    | _ => none
  | .lookupswitch d ps => match st with
    | .int x :: r => if (ps.toList.zip (ps.toList.drop 1)).all (fun (a, next) => a.1 < next.1) = true then aSw pc (Op.lookupswitch.offset ps.toList d x.toInt) ls r σ else none
    | _ => none
  | .getfield i => aGetF (aOwn mi) pc ls st σ i
  | .putfield i => aPutF mi pc ls st σ i
  | .iaload => aIld pc ls st σ
  | .iastore => aIst pc ls st σ
  | .aaload => aQld pc ls st σ
  | .aastore => aQst pc ls st σ
  | .arraylength => aLen pc ls st σ
  | .newarray t => match t, st with
    | .int, .int n :: r => if ¬ n < 0 ∧ n.toNatClampNeg ≤ 1000000 then aGo (pc + 2) ls (.ref σ.2.1 :: r) (anew σ (eI n.toNatClampNeg (fun _ => 0)) n.toNatClampNeg) else none
    | _, _ => none
  | .anewarray i => match aLk lC (aOwn mi) i, st with
    | some (ci, _), .int n :: r => if ¬ n < 0 ∧ n.toNatClampNeg ≤ 1000000 ∧ aQc (aQj ci) = ci then aGo (pc + 3) ls (.ref σ.2.1 :: r) (anew σ (eQ (aQj ci) n.toNatClampNeg (fun _ => none)) n.toNatClampNeg) else none
    | _, _ => none
  | .new i => match aLk lC (aOwn mi) i with
    | some (ci, _) => aGo (pc + 3) ls (.ref σ.2.1 :: st) (anew σ (eO ci (aDef ci)) (aNw ci).2.2)
    | none => none
  | .invokevirtual i => match aLk lM (aOwn mi) i with
    | some (t, k, _) => if k = 0 then aDo t pc true st σ else none
    | none => none
  | .invokespecial i => match aLk lM (aOwn mi) i with
    | some (t, k, _) => if k = 2 ∨ k = 3 then aDo t pc true st σ else if k = 5 then aObj pc ls st σ else none
    | none => none
  | .invokestatic i => match aLk lM (aOwn mi) i with
    | some (t, k, _) => if k = 1 ∨ k = 4 then aDo t pc false st σ else if k = 6 then aCpy pc ls st σ else if k = 7 then aMin pc ls st σ else none
    | none => none
  | .ireturn => match st with
    | [.int v] => if aRet mi = some .int ∨ (aRet mi = some .boolean ∧ narrow .boolean (.int v) = .int v) then some (.inr (.inl (some (.int v), σ))) else none
    | _ => none
  | .areturn => match st, aRet mi with
    | [v], some (.object _) => if aRef v = true then some (.inr (.inl (some v, σ))) else none
    | _, _ => none
  | .return_ => match st with
    | [] => if aRet mi = none then some (.inr (.inl (none, σ))) else none
    | _ => none
  | _ => none
def aAt (mi pc : Nat) (ls : aL) (st : List Value) (σ : aS) : Option aA := match aCode mi pc with
  | some q => aAct mi pc q.1 ls st σ
  | none => none
def aRun (call : aC) (mi : Nat) : Nat → Nat → aL → List Value → aS → aQ → Prop
  | 0, _, _, _, _, _ => False
  | n + 1, pc, ls, st, σ, Q => match aAt mi pc ls st σ with
    | some (.inl c) => aRun call mi n c.1 c.2.1 c.2.2.1 c.2.2.2 Q
    | some (.inr (.inl q)) => Q q.1 q.2
    | some (.inr (.inr c)) => call c.1 c.2.1 σ (fun r σ' => aRun call mi n c.2.2.1 ls (aret r c.2.2.2) σ' Q)
    | none => False
def aCall : Nat → aC
  | 0 => fun _ _ _ _ => False
  | d + 1 => fun mi L σ Q => ∃ n, aRun (aCall d) mi n 0 L [] σ Q
/-- from here on the method comes to its end, with Q -/
def aX (d mi pc : Nat) (ls : aL) (st : List Value) (σ : aS) (Q : aQ) : Prop := ∃ n, aRun (aCall d) mi n pc ls st σ Q
-- how Q rides
def aEx (call : aC) : Prop := ∀ (ι : Type) (t : Nat) (L : aL) (σ : aS) (Q : ι → aQ), call t L σ (fun r s => ∃ i, Q i r s) → ∃ i, call t L σ (Q i)
def aMono (call : aC) : Prop := ∀ (t : Nat) (L : aL) (σ : aS) (Q Q' : aQ), (∀ r s, Q r s → Q' r s) → call t L σ Q → call t L σ Q'
theorem aRun_mono {call : aC} (h : aMono call) (mi : Nat) : ∀ (n pc : Nat) (ls : aL) (st : List Value) (σ : aS) (Q Q' : aQ), (∀ r s, Q r s → Q' r s) → aRun call mi n pc ls st σ Q → aRun call mi n pc ls st σ Q'
  | 0, _, _, _, _, _, _, _, hr => hr
  | n + 1, pc, ls, st, σ, Q, Q', hq, hr => by
    unfold aRun at hr ⊢
    split at hr
    · exact aRun_mono h mi n _ _ _ _ _ _ hq hr
    · exact hq _ _ hr
    · exact h _ _ _ _ _ (fun r s hh => aRun_mono h mi n _ _ _ _ _ _ hq hh) hr
    · exact hr
theorem aRun_ex {call : aC} (h : aEx call) (hm : aMono call) (mi : Nat) {ι : Type} : ∀ (n pc : Nat) (ls : aL) (st : List Value) (σ : aS) (Q : ι → aQ), aRun call mi n pc ls st σ (fun r s => ∃ i, Q i r s) → ∃ i, aRun call mi n pc ls st σ (Q i)
  | 0, _, _, _, _, _, hr => hr.elim
  | n + 1, pc, ls, st, σ, Q, hr => by
    unfold aRun at hr ⊢
    split at hr
    · exact aRun_ex h hm mi n _ _ _ _ _ hr
    · exact hr
    · exact h ι _ _ _ _ (hm _ _ _ _ _ (fun r s hh => aRun_ex h hm mi n _ _ _ _ _ hh) hr)
    · exact hr.elim
theorem aCall_mono : ∀ d, aMono (aCall d)
  | 0 => fun _ _ _ _ _ _ h => h
  | d + 1 => fun mi L σ Q Q' hq h => by
    obtain ⟨n, hn⟩ := h
    exact ⟨n, aRun_mono (aCall_mono d) mi n _ _ _ _ _ _ hq hn⟩
theorem aCall_ex : ∀ d, aEx (aCall d)
  | 0 => fun _ _ _ _ _ h => h.elim
  | d + 1 => fun ι mi L σ Q h => by
    obtain ⟨n, hn⟩ := h
    obtain ⟨i, hi⟩ := aRun_ex (aCall_ex d) (aCall_mono d) mi n _ _ _ _ _ hn
    exact ⟨i, n, hi⟩
theorem aX_mono {d mi pc : Nat} {ls : aL} {st : List Value} {σ : aS} {Q Q' : aQ} (hq : ∀ r s, Q r s → Q' r s) (h : aX d mi pc ls st σ Q) : aX d mi pc ls st σ Q' := by
  obtain ⟨n, hn⟩ := h
  exact ⟨n, aRun_mono (aCall_mono d) mi n _ _ _ _ _ _ hq hn⟩
theorem aX_next {d mi pc pc' : Nat} {ls ls' : aL} {st st' : List Value} {σ σ' : aS} {Q : aQ} (h : aAt mi pc ls st σ = some (.inl (pc', ls', st', σ'))) : aX d mi pc ls st σ Q ↔ aX d mi pc' ls' st' σ' Q := by
  constructor
  · rintro ⟨n, hn⟩
    cases n with
    | zero => exact hn.elim
    | succ n =>
      unfold aRun at hn
      rw [h] at hn
      exact ⟨n, hn⟩
  · rintro ⟨n, hn⟩
    refine ⟨n + 1, ?_⟩
    unfold aRun
    rw [h]
    exact hn
theorem aX_ret {d mi pc : Nat} {ls : aL} {st : List Value} {σ σ' : aS} {r : Option Value} {Q : aQ} (h : aAt mi pc ls st σ = some (.inr (.inl (r, σ')))) : aX d mi pc ls st σ Q ↔ Q r σ' := by
  constructor
  · rintro ⟨n, hn⟩
    cases n with
    | zero => exact hn.elim
    | succ n =>
      unfold aRun at hn
      rw [h] at hn
      exact hn
  · intro hn
    refine ⟨1, ?_⟩
    unfold aRun
    rw [h]
    exact hn
theorem aX_call {d mi pc t pc' : Nat} {ls L : aL} {st rest : List Value} {σ : aS} {Q : aQ} (h : aAt mi pc ls st σ = some (.inr (.inr (t, L, pc', rest)))) : aX (d + 1) mi pc ls st σ Q ↔ aX d t 0 L [] σ (fun r σ' => aX (d + 1) mi pc' ls (aret r rest) σ' Q) := by
  constructor
  · rintro ⟨n, hn⟩
    cases n with
    | zero => exact hn.elim
    | succ n =>
      unfold aRun at hn
      rw [h] at hn
      obtain ⟨m, hm⟩ := hn
      exact ⟨m, aRun_mono (aCall_mono d) t m _ _ _ _ _ _ (fun r s hh => ⟨n, hh⟩) hm⟩
  · rintro ⟨m, hm⟩
    obtain ⟨n, hn⟩ := aRun_ex (aCall_ex d) (aCall_mono d) t m _ _ _ _ (fun n r σ' => aRun (aCall (d + 1)) mi n pc' ls (aret r rest) σ' Q) hm
    refine ⟨n + 1, ?_⟩
    unfold aRun
    rw [h]
    exact ⟨m, hn⟩
/-- a call that comes to its end has one end -/
theorem aX_val {d mi pc : Nat} {ls : aL} {st : List Value} {σ : aS} {Q : aQ} (h : aX d mi pc ls st σ Q) : ∃ q : Option Value × aS, aX d mi pc ls st σ (fun r s => r = q.1 ∧ s = q.2) ∧ Q q.1 q.2 := by
  obtain ⟨n, hn⟩ := h
  have h2 : aRun (aCall d) mi n pc ls st σ (fun r s => ∃ q : Option Value × aS, (r = q.1 ∧ s = q.2) ∧ Q q.1 q.2) := aRun_mono (aCall_mono d) mi n _ _ _ _ _ _ (fun r s hq => ⟨(r, s), ⟨rfl, rfl⟩, hq⟩) hn
  obtain ⟨q, hq⟩ := aRun_ex (aCall_ex d) (aCall_mono d) mi n _ _ _ _ _ h2
  refine ⟨q, ⟨n, aRun_mono (aCall_mono d) mi n _ _ _ _ _ _ (fun r s hh => hh.1) hq⟩, ?_⟩
  have h3 : aRun (aCall d) mi n pc ls st σ (fun _ _ => ∃ _ : Q q.1 q.2, True) := aRun_mono (aCall_mono d) mi n _ _ _ _ _ _ (fun r s hh => ⟨hh.2, trivial⟩) hq
  obtain ⟨i, -⟩ := aRun_ex (aCall_ex d) (aCall_mono d) mi n pc ls st σ (fun (_ : { b : Bool // Q q.1 q.2 }) _ _ => True) (aRun_mono (aCall_mono d) mi n _ _ _ _ _ _ (fun r s hh => ⟨⟨true, hh.1⟩, trivial⟩) h3)
  exact i.2
end
section
/-! THE SMALL MACHINE AND THE MACHINE: the heap, the locals, the tables -/
def aTys (c : Nat → ClassId) : List (ClassId × FieldType) := [(c 0, .int), (c 1, .object RX0), (c 2, .object RX5), (c 3, .object RX4)]
def aConc (c : Nat → ClassId) (e : aE) : va_E := match e with
  | .inl (.inl x) => .inl (c 0, x.1, .inl x.2)
  | .inl (.inr x) => .inl (c 0, x.1, .inl x.2)
  | .inr (.inl x) => .inl (c x.1, x.2.1, .inr (.inr (.inr (.inr x.2.2))))
  | .inr (.inr o) => .inr o
def aOKe (e : aE) : Prop := match e with
  | .inl (.inl _) => True
  | .inl (.inr _) => False
  | .inr (.inl x) => x.1 = 1 ∨ x.1 = 2 ∨ x.1 = 3
  | .inr (.inr _) => True
def aCell (D : va_G) (c : Nat → ClassId) (lo hi : Nat) (s : State) (H : Heap) (a : Nat) (e : aE) : Prop :=
  (∃ n f, e = eS n f ∧ a < lo ∧ va_X a n f s H) ∨ (aOKe e ∧ lo ≤ a ∧ a < hi ∧ va_at D vwCl (a, aConc c e) H)
def aRel (D : va_G) (c : Nat → ClassId) (lo : Nat) (s : State) (σ : aS) (H : Heap) : Prop := H.size = σ.2.1 ∧ lo ≤ σ.2.1 ∧ ∀ a e, σ.1 a = some e → aCell D c lo σ.2.1 s H a e
theorem aRel.at {D : va_G} {c : Nat → ClassId} {lo : Nat} {s : State} {σ : aS} {H : Heap} (h : aRel D c lo s σ H) {a : Nat} {e : aE} (ha : σ.1 a = some e) (he : aOKe e) : lo ≤ a ∧ a < σ.2.1 ∧ va_at D vwCl (a, aConc c e) H := by
  rcases h.2.2 a e ha with ⟨n, f, rfl, -⟩ | h
  · exact he.elim
  · exact h.2
theorem aRel.scr {D : va_G} {c : Nat → ClassId} {lo : Nat} {s : State} {σ : aS} {H : Heap} (h : aRel D c lo s σ H) {a n : Nat} {f : Nat → Int32} (ha : σ.1 a = some (eS n f)) : a < lo ∧ va_X a n f s H := by
  rcases h.2.2 a _ ha with ⟨n', f', e, h1⟩ | h
  · cases e; exact h1
  · exact h.1.elim
theorem aRel.isOK {D : va_G} {c : Nat → ClassId} {lo : Nat} {s : State} {σ : aS} {H : Heap} (h : aRel D c lo s σ H) {a : Nat} {x : Nat × Nat × (Nat → Option Nat)} (ha : σ.1 a = some (.inr (.inl x))) : x.1 = 1 ∨ x.1 = 2 ∨ x.1 = 3 := by
  rcases h.2.2 a _ ha with ⟨n', f', e, h1⟩ | h
  · cases e
  · exact h.1
theorem aRel.put {D : va_G} {c : Nat → ClassId} {lo : Nat} {s : State} {σ : aS} {H H1 : Heap} (h : aRel D c lo s σ H) {a : Nat} {e e0 : aE} (ha : σ.1 a = some e0) (h0 : aOKe e0) (he : aOKe e) (hn : va_at D vwCl (a, aConc c e) H1) (z : H1.size = H.size) (oq : ∀ q : Nat, q ≠ a → H1[q]? = H[q]?) : aRel D c lo s (aput σ a e) H1 := by
  have h1 := h.at ha h0
  refine ⟨z.trans h.1, h.2.1, fun b f hb => ?_⟩
  by_cases hq : b = a
  · subst hq
    simp only [aput, if_true] at hb
    cases hb
    exact Or.inr ⟨he, h1.1, h1.2.1, hn⟩
  · simp only [aput, if_neg hq] at hb
    rcases h.2.2 b f hb with ⟨n, g, rfl, q1, q2⟩ | ⟨q1, q2, q3, q4⟩
    · exact Or.inl ⟨n, g, rfl, q1, q2.kept (oq b hq)⟩
    · exact Or.inr ⟨q1, q2, q3, q4.kept (oq b hq)⟩
theorem aRel.new {D : va_G} {c : Nat → ClassId} {lo : Nat} {s : State} {σ : aS} {H H1 : Heap} (h : aRel D c lo s σ H) {e : aE} {n : Nat} (he : aOKe e) (hn : va_at D vwCl (H.size, aConc c e) H1) (z : H1.size = H.size + 1) (oq : ∀ q : Nat, q < H.size → H1[q]? = H[q]?) : aRel D c lo s (anew σ e n) H1 := by
  have hh := h.1
  have hlo := h.2.1
  refine ⟨by rw [z, h.1]; rfl, Nat.le_succ_of_le h.2.1, fun b f hb => ?_⟩
  by_cases hq : b = σ.2.1
  · subst hq
    simp only [anew, if_true] at hb
    cases hb
    refine Or.inr ⟨he, h.2.1, Nat.lt_succ_self _, ?_⟩
    rw [← h.1]
    exact hn
  · simp only [anew, if_neg hq] at hb
    rcases h.2.2 b f hb with ⟨n, g, rfl, q1, q2⟩ | ⟨q1, q2, q3, q4⟩
    · exact Or.inl ⟨n, g, rfl, q1, q2.kept (oq b (by omega))⟩
    · exact Or.inr ⟨q1, q2, Nat.lt_succ_of_lt q3, q4.kept (oq b (by omega))⟩
theorem aRel.moved {D : va_G} {c : Nat → ClassId} {lo : Nat} {s U : State} {σ : aS} {H : Heap} (hvm : s.vm.Alike U.vm) (h : aRel D c lo s σ H) : aRel D c lo U σ H := by
  refine ⟨h.1, h.2.1, fun a e ha => ?_⟩
  rcases h.2.2 a e ha with ⟨n, g, q0, q1, q2⟩ | q
  · exact Or.inl ⟨n, g, q0, q1, q2.moved hvm⟩
  · exact Or.inr q
theorem aP1 {D : va_G} {cl : List vw_C} {q : Nat × va_E} {H : Heap} (h : va_at D cl q H) : va_P D cl [q] H := by
  intro k x hx
  have hk : k = 0 := by
    have := (List.getElem?_eq_some_iff.mp hx).1
    simp at this
    exact this
  subst hk
  cases hx
  exact h
-- the locals
def aLs (arr : Array Slot) (n : Nat) (L : aL) : Prop := L.length = n ∧ ∃ lv, lv_has arr n lv ∧ ∀ i v, L[i]? = some (some v) → (i, v) ∈ lv
theorem aLs.get {arr : Array Slot} {n : Nat} {L : aL} (h : aLs arr n L) {i : Nat} {v : Value} (hi : L[i]? = some (some v)) : arr[i]? = some (.val v) := by
  obtain ⟨-, lv, h1, h2⟩ := h
  exact h1.2.2 _ (h2 i v hi)
theorem aLs.size {arr : Array Slot} {n : Nat} {L : aL} (h : aLs arr n L) : arr.size = n := by
  obtain ⟨-, lv, h1, -⟩ := h
  exact h1.1
theorem ast1_len : ∀ (i : Nat) (v : Value) (L : aL), (ast1 i v L).length = L.length
  | 0, _, [] => rfl
  | 0, _, _ :: _ => rfl
  | 1, _, [] => rfl
  | 1, _, [_] => rfl
  | 1, _, _ :: _ :: _ => rfl
  | _ + 2, _, [] => rfl
  | i + 2, v, x :: t => by
    show (x :: ast1 (i + 1) v t).length = _
    simp [ast1_len (i + 1) v t]
theorem ast2_len : ∀ (i : Nat) (v : Value) (L : aL), (ast2 i v L).length = L.length
  | 0, _, [] => rfl
  | 0, _, [_] => rfl
  | 0, _, _ :: _ :: _ => rfl
  | 1, _, [] => rfl
  | 1, _, [_] => rfl
  | 1, _, [_, _] => rfl
  | 1, _, _ :: _ :: _ :: _ => rfl
  | _ + 2, _, [] => rfl
  | i + 2, v, x :: t => by
    show (x :: ast2 (i + 1) v t).length = _
    simp [ast2_len (i + 1) v t]
theorem aclr_some {o : Option Value} {w : Value} (h : aclr o = some w) : o = some w ∧ w.category ≠ 2 := by
  cases o with
  | none => simp [aclr] at h
  | some v => cases v <;> simp [aclr] at h <;> subst h <;> simp [Value.category]
theorem ast1_get : ∀ (i : Nat) (v : Value) (L : aL) (j : Nat) (w : Value), i < L.length → (ast1 i v L)[j]? = some (some w) → (j = i ∧ w = v) ∨ (j ≠ i ∧ L[j]? = some (some w) ∧ (j + 1 = i → w.category ≠ 2))
  | 0, v, x :: t, 0, w, _, h => by
    simp only [ast1, List.getElem?_cons_zero, Option.some.injEq] at h
    exact Or.inl ⟨rfl, h.symm⟩
  | 0, v, x :: t, j + 1, w, _, h => by
    simp only [ast1, List.getElem?_cons_succ] at h
    exact Or.inr ⟨by omega, by simpa using h, fun q => by omega⟩
  | 1, v, x :: y :: t, 0, w, _, h => by
    simp only [ast1, List.getElem?_cons_zero, Option.some.injEq] at h
    obtain ⟨h1, h2⟩ := aclr_some h
    exact Or.inr ⟨by omega, by simp [h1], fun _ => h2⟩
  | 1, v, x :: y :: t, 1, w, _, h => by
    simp only [ast1, List.getElem?_cons_succ, List.getElem?_cons_zero, Option.some.injEq] at h
    exact Or.inl ⟨rfl, h.symm⟩
  | 1, v, x :: y :: t, j + 2, w, _, h => by
    simp only [ast1, List.getElem?_cons_succ] at h
    exact Or.inr ⟨by omega, by simpa using h, fun q => by omega⟩
  | 1, _, [_], _, _, hl, _ => by simp at hl
  | _, _, [], _, _, hl, _ => by simp at hl
  | i + 2, v, x :: t, 0, w, _, h => by
    simp only [ast1, List.getElem?_cons_zero] at h
    exact Or.inr ⟨by omega, by simpa using h, fun q => by omega⟩
  | i + 2, v, x :: t, j + 1, w, hl, h => by
    simp only [ast1, List.getElem?_cons_succ] at h
    rcases ast1_get (i + 1) v t j w (by simp at hl; omega) h with ⟨h1, h2⟩ | ⟨h1, h2, h3⟩
    · exact Or.inl ⟨by omega, h2⟩
    · exact Or.inr ⟨by omega, by simpa using h2, fun q => h3 (by omega)⟩
theorem ast2_get : ∀ (i : Nat) (v : Value) (L : aL) (j : Nat) (w : Value), i + 1 < L.length → (ast2 i v L)[j]? = some (some w) → (j = i ∧ w = v) ∨ (j ≠ i ∧ j ≠ i + 1 ∧ L[j]? = some (some w) ∧ (j + 1 = i → w.category ≠ 2))
  | 0, v, x :: y :: t, 0, w, _, h => by
    simp only [ast2, List.getElem?_cons_zero, Option.some.injEq] at h
    exact Or.inl ⟨rfl, h.symm⟩
  | 0, v, x :: y :: t, 1, w, _, h => by
    simp only [ast2, List.getElem?_cons_succ, List.getElem?_cons_zero] at h
    simp at h
  | 0, v, x :: y :: t, j + 2, w, _, h => by
    simp only [ast2, List.getElem?_cons_succ] at h
    exact Or.inr ⟨by omega, by omega, by simpa using h, fun q => by omega⟩
  | 1, v, x :: y :: z :: t, 0, w, _, h => by
    simp only [ast2, List.getElem?_cons_zero, Option.some.injEq] at h
    obtain ⟨h1, h2⟩ := aclr_some h
    exact Or.inr ⟨by omega, by omega, by simp [h1], fun _ => h2⟩
  | 1, v, x :: y :: z :: t, 1, w, _, h => by
    simp only [ast2, List.getElem?_cons_succ, List.getElem?_cons_zero, Option.some.injEq] at h
    exact Or.inl ⟨rfl, h.symm⟩
  | 1, v, x :: y :: z :: t, 2, w, _, h => by
    simp only [ast2, List.getElem?_cons_succ, List.getElem?_cons_zero] at h
    simp at h
  | 1, v, x :: y :: z :: t, j + 3, w, _, h => by
    simp only [ast2, List.getElem?_cons_succ] at h
    exact Or.inr ⟨by omega, by omega, by simpa using h, fun q => by omega⟩
  | 0, _, [_], _, _, hl, _ => by simp at hl
  | 1, _, [_], _, _, hl, _ => by simp at hl
  | 1, _, [_, _], _, _, hl, _ => by simp at hl
  | _, _, [], _, _, hl, _ => by simp at hl
  | i + 2, v, x :: t, 0, w, _, h => by
    simp only [ast2, List.getElem?_cons_zero] at h
    exact Or.inr ⟨by omega, by omega, by simpa using h, fun q => by omega⟩
  | i + 2, v, x :: t, j + 1, w, hl, h => by
    simp only [ast2, List.getElem?_cons_succ] at h
    rcases ast2_get (i + 1) v t j w (by simp at hl; omega) h with ⟨h1, h2⟩ | ⟨h1, h0, h2, h3⟩
    · exact Or.inl ⟨by omega, h2⟩
    · exact Or.inr ⟨by omega, by omega, by simpa using h2, fun q => h3 (by omega)⟩
theorem aLs.s1 {arr : Array Slot} {n : Nat} {L : aL} {lv : List (Nat × Value)} (hl : L.length = n) (hm : ∀ i v, L[i]? = some (some v) → (i, v) ∈ lv) {i : Nat} {v : Value} (hi : i < n) (h : lv_has arr n ((i, v) :: lv.filter (fun q => !(q.1 == i) && !(q.1 + 1 == i && q.2.category == 2)))) : aLs arr n (ast1 i v L) := by
  refine ⟨(ast1_len i v L).trans hl, _, h, fun j w hj => ?_⟩
  rcases ast1_get i v L j w (by omega) hj with ⟨rfl, rfl⟩ | ⟨h1, h2, h3⟩
  · exact List.mem_cons_self
  · refine List.mem_cons_of_mem _ (List.mem_filter.mpr ⟨hm j w h2, ?_⟩)
    simp only [Bool.and_eq_true, Bool.not_eq_true', beq_eq_false_iff_ne, ne_eq, Bool.and_eq_false_iff]
    exact ⟨h1, if q : j + 1 = i then Or.inr (h3 q) else Or.inl q⟩
theorem aLs.s2 {arr : Array Slot} {n : Nat} {L : aL} {lv : List (Nat × Value)} (hl : L.length = n) (hm : ∀ i v, L[i]? = some (some v) → (i, v) ∈ lv) {i : Nat} {v : Value} (hi : i + 1 < n) (h : lv_has arr n ((i, v) :: lv.filter (fun q => !(q.1 == i) && (!(q.1 == i + 1) && !(q.1 + 1 == i && q.2.category == 2))))) : aLs arr n (ast2 i v L) := by
  refine ⟨(ast2_len i v L).trans hl, _, h, fun j w hj => ?_⟩
  rcases ast2_get i v L j w (by omega) hj with ⟨rfl, rfl⟩ | ⟨h1, h0, h2, h3⟩
  · exact List.mem_cons_self
  · refine List.mem_cons_of_mem _ (List.mem_filter.mpr ⟨hm j w h2, ?_⟩)
    simp only [Bool.and_eq_true, Bool.not_eq_true', beq_eq_false_iff_ne, ne_eq, Bool.and_eq_false_iff]
    exact ⟨h1, h0, if q : j + 1 = i then Or.inr (h3 q) else Or.inl q⟩
theorem aargs_sl : ∀ vs : List Value, (aargs vs).length = (lg_sl vs).length
  | [] => rfl
  | v :: t => by
    have ih := aargs_sl t
    have e : lg_sl (v :: t) = (if v.category = 2 then [.val v, .second] else [.val v]) ++ lg_sl t := by simp [lg_sl]
    rw [e]
    cases v <;> simp [aargs, Value.category, ih] <;> omega
theorem aargs_get : ∀ (vs : List Value) (k i : Nat) (w : Value), (aargs vs)[i]? = some (some w) → (k + i, w) ∈ lv_args k vs
  | [], _, _, _, h => by simp [aargs] at h
  | v :: t, k, i, w, h => by
    have two : ∀ (x : Value), x = v → v.category = 2 → (some x :: none :: aargs t)[i]? = some (some w) → (k + i, w) ∈ lv_args k (v :: t) := by
      intro x hx hc h
      unfold lv_args
      rw [if_pos hc]
      match i, h with
      | 0, h =>
        simp at h
        rw [← h, hx]
        exact List.mem_cons_self
      | 1, h => simp at h
      | i + 2, h =>
        simp only [List.getElem?_cons_succ] at h
        have := aargs_get t (k + 2) i w h
        rw [show k + 2 + i = k + (i + 2) by omega] at this
        exact List.mem_cons_of_mem _ this
    have one : v.category ≠ 2 → (some v :: aargs t)[i]? = some (some w) → (k + i, w) ∈ lv_args k (v :: t) := by
      intro hc h
      unfold lv_args
      rw [if_neg hc]
      match i, h with
      | 0, h =>
        simp at h
        rw [← h]
        exact List.mem_cons_self
      | i + 1, h =>
        simp only [List.getElem?_cons_succ] at h
        have := aargs_get t (k + 1) i w h
        rw [show k + 1 + i = k + (i + 1) by omega] at this
        exact List.mem_cons_of_mem _ this
    cases v with
    | long x => exact two _ rfl rfl h
    | double x => exact two _ rfl rfl h
    | int x => exact one (by simp [Value.category]) h
    | float x => exact one (by simp [Value.category]) h
    | null => exact one (by simp [Value.category]) h
    | ref x => exact one (by simp [Value.category]) h
    | retAddr x => exact one (by simp [Value.category]) h
theorem aLs.entry (vs : List Value) {n : Nat} (h : (aargs vs).length ≤ n) : aLs ((lg_sl vs ++ List.replicate (n - (lg_sl vs).length) Slot.unset).toArray) n (aentry n vs) := by
  refine ⟨by simp [aentry]; omega, _, lv_entry vs (by rw [← aargs_sl]; exact h), fun i v hi => ?_⟩
  unfold aentry at hi
  by_cases hl : i < (aargs vs).length
  · rw [List.getElem?_append_left hl] at hi
    have := aargs_get vs 0 i v hi
    rwa [Nat.zero_add] at this
  · rw [List.getElem?_append_right (by omega)] at hi
    have := List.mem_of_getElem? hi
    simp at this
-- the tables
theorem aFind_mem : ∀ (l : List (Nat × Instr × Nat)) (pc : Nat) (q : Instr × Nat), aFind l pc = some q → (pc, q) ∈ l
  | [], _, _, h => by simp [aFind] at h
  | x :: l, pc, q, h => by
    unfold aFind at h
    split at h
    · rename_i e
      cases h
      rw [← e]
      exact List.mem_cons_self
    · exact List.mem_cons_of_mem _ (aFind_mem l pc q h)
theorem aLk_mem {α : Type} : ∀ (l : List (Nat × Nat × α)) (o i : Nat) (q : α), aLk l o i = some q → (o, i, q) ∈ l
  | [], _, _, _, h => by simp [aLk] at h
  | x :: l, o, i, q, h => by
    unfold aLk at h
    split at h
    · rename_i e
      cases h
      rw [← e.1, ← e.2]
      exact List.mem_cons_self
    · exact List.mem_cons_of_mem _ (aLk_mem l o i q h)
theorem aLens : aMeths.length = aCodes.length := by decide +kernel
theorem aCode_dec {mi pc : Nat} {q : Instr × Nat} (h : aCode mi pc = some q) : decode (aRec mi).2.1 pc = .ok q ∧ aLenOK q.1 q.2 = true := by
  have h1 := aFind_mem _ _ _ h
  by_cases hl : mi < aCodes.length
  · have hm : mi < aMeths.length := by rw [aLens]; exact hl
    have e1 : aCodes.getD mi [] = aCodes[mi] := by rw [List.getD_eq_getElem?_getD, List.getElem?_eq_getElem hl]; rfl
    have e2 : aRec mi = aMeths[mi] := by unfold aRec; rw [List.getD_eq_getElem?_getD, List.getElem?_eq_getElem hm]; rfl
    rw [e1] at h1
    have h2 := aDecs_at aMeths aCodes mi _ _ aDecs_ok (List.getElem?_eq_getElem hm) (List.getElem?_eq_getElem hl) _ h1
    rw [e2]
    exact h2
  · have e1 : aCodes.getD mi [] = [] := by simp [List.getD_eq_getElem?_getD, Nat.not_lt.mp hl]
    rw [e1] at h1
    exact absurd h1 List.not_mem_nil
theorem aNw_at {ci : Nat} (h : ci < 8) : vwCl[ci]? = some (aNw ci) := by
  have h2 : ci < vwCl.length := h
  unfold aNw
  rw [List.getD_eq_getElem?_getD, List.getElem?_eq_getElem h2]; rfl
theorem aLay {ci : Nat} (h : ci < 8) : ∀ w ∈ u_ws (aNw ci).1 (aNw ci).2.1 (aNw ci).2.2, w ∈ aTbl := fun w hw =>
  have h1 := aW_lay _ (List.mem_of_getElem? (aNw_at h)) w hw
  List.mem_filter.mpr ⟨h1.2, h1.1⟩
def aTyf (ci k : Nat) : FieldType := (parseFieldDescriptor ((aNw ci).2.1 k).2.2.1).getD .int
theorem aTyf_all : ∀ q ∈ vwCl, ∀ k, k < q.2.2 → (parseFieldDescriptor (q.2.1 k).2.2.1).isSome = true := by decide +kernel
theorem aNms_all : ∀ q ∈ vwCl, ∀ a, a < q.2.2 → ∀ b, b < q.2.2 → a ≠ b → (q.2.1 a).2.1 ≠ (q.2.1 b).2.1 := by decide +kernel
theorem aTyf_ok {ci : Nat} (h : ci < 8) : ∀ k, k < (aNw ci).2.2 → parseFieldDescriptor ((aNw ci).2.1 k).2.2.1 = some (aTyf ci k) := fun k hk => by
  have h1 := aTyf_all _ (List.mem_of_getElem? (aNw_at h)) k hk
  unfold aTyf
  cases e : parseFieldDescriptor ((aNw ci).2.1 k).2.2.1 with
  | none => rw [e] at h1; cases h1
  | some t => rfl
theorem aNms {ci : Nat} (h : ci < 8) : ∀ a, a < (aNw ci).2.2 → ∀ b, b < (aNw ci).2.2 → a ≠ b → ((aNw ci).2.1 a).2.1 ≠ ((aNw ci).2.1 b).2.1 := aNms_all _ (List.mem_of_getElem? (aNw_at h))
theorem aDef_at {ci : Nat} (h : ci < 8) : ∀ j, j < (aNw ci).2.2 → defaultValue (aTyf ci j) = vp_V (aDef ci) j := fun j hj => by
  have h1 := aTyf_ok h j hj
  simp [vp_V, aDef, List.getD_eq_getElem?_getD, hj, h1]
def aFix (D : va_G) (c : Nat → ClassId) (U : State) : Prop := va_K D vwCl (aTys c) U ∧ (∀ q ∈ lM, (q.2.2.2.1 = 3 ∨ q.2.2.2.1 = 4) → va_Nw (.methodLinkNest (aClass q.1) q.2.1 (aName q.2.2.1) RX6) U) ∧ va_AO RX0 U ∧ va_AO RX5 U ∧ va_AO RX4 U
theorem aFix.warm {D : va_G} {c : Nat → ClassId} {s U : State} (hW : s.WarmedH U.vm) (h : aFix D c s) : aFix D c U :=
  ⟨va_K.moved hW.alike h.1, fun q hq hk => va_Nw.warmM hW (h.2.1 q hq hk), h.2.2.1.moved hW.alike, h.2.2.2.1.moved hW.alike, h.2.2.2.2.moved hW.alike⟩
theorem aFix.same {D : va_G} {c : Nat → ClassId} {s U : State} (hv : s.vm = U.vm) (h : aFix D c s) : aFix D c U :=
  have ha : s.vm.Alike U.vm := by rw [hv]; exact Vm.Alike.refl _
  ⟨va_K.moved ha h.1, fun q hq hk => va_Nw.same rfl hv (h.2.1 q hq hk), h.2.2.1.moved ha, h.2.2.2.1.moved ha, h.2.2.2.2.moved ha⟩
/-- what holds all along a method's walk -/
def aCtx (D : va_G) (c : Nat → ClassId) (p : Program) (s : State) (args : Array Value) (m : MethodId) (meth : Method) (cd : Code) (mi : Nat) : Prop :=
  p.tables.exec = Jvm.exec ∧ cd.code = (aRec mi).2.1 ∧ cd.maxLocals = aMax mi ∧ s.vm.findClass (aClass (aOwn mi)) = some m.cls ∧ meth.sig.returnType = aRet mi ∧ (∀ w ∈ aTbl, w.before args s = true) ∧ meth.locks = false ∧ (aKnd mi = 2 → meth.name = "<init>") ∧ aFix D c s
end
section
/-! what an instruction's row says, read backwards -/
section AI
variable {pc pc' : Nat} {ls ls' : aL} {st st' : List Value} {σ σ' : aS}
theorem aGo_inv (h : aGo pc ls st σ = some (.inl (pc', ls', st', σ'))) : pc' = pc ∧ ls' = ls ∧ st' = st ∧ σ' = σ := by
  unfold aGo at h
  cases h
  exact ⟨rfl, rfl, rfl, rfl⟩
theorem aLd_inv {i : Nat} {t : Value → Bool} (h : aLd pc ls st σ i t = some (.inl (pc', ls', st', σ'))) : ∃ v, ls[i]? = some (some v) ∧ t v = true ∧ pc' = pc ∧ ls' = ls ∧ st' = v :: st ∧ σ' = σ := by
  unfold aLd at h
  split at h
  · rename_i v hv
    split at h
    · rename_i ht
      exact ⟨v, hv, ht, aGo_inv h⟩
    · cases h
  · cases h
theorem aIsI_inv {v : Value} (h : aIsI v = true) : ∃ x, v = .int x := by cases v <;> simp [aIsI] at h ⊢
theorem aIsJ_inv {v : Value} (h : aIsJ v = true) : ∃ x, v = .long x := by cases v <;> simp [aIsJ] at h ⊢
theorem aRef_inv {v : Value} (h : aRef v = true) : v = .null ∨ ∃ a, v = .ref a := by cases v <;> simp [aRef] at h ⊢
theorem aS1_inv {i : Nat} {t : Value → Bool} (h : aS1 pc ls st σ i t = some (.inl (pc', ls', st', σ'))) : ∃ v r, st = v :: r ∧ t v = true ∧ i < ls.length ∧ pc' = pc ∧ ls' = ast1 i v ls ∧ st' = r ∧ σ' = σ := by
  unfold aS1 at h
  split at h
  · rename_i v r
    split at h
    · rename_i ht
      exact ⟨v, r, rfl, ht.1, ht.2, aGo_inv h⟩
    · cases h
  · cases h
theorem aS2_inv {i : Nat} (h : aS2 pc ls st σ i = some (.inl (pc', ls', st', σ'))) : ∃ x r, st = .long x :: r ∧ i + 1 < ls.length ∧ pc' = pc ∧ ls' = ast2 i (.long x) ls ∧ st' = r ∧ σ' = σ := by
  unfold aS2 at h
  split at h
  · rename_i x r
    split at h
    · rename_i ht
      exact ⟨x, r, rfl, ht, aGo_inv h⟩
    · cases h
  · cases h
theorem aB2_inv {f : Int32 → Int32 → Int32} (h : aB2 pc ls st σ f = some (.inl (pc', ls', st', σ'))) : ∃ x y r, st = .int y :: .int x :: r ∧ pc' = pc ∧ ls' = ls ∧ st' = .int (f x y) :: r ∧ σ' = σ := by
  unfold aB2 at h
  split at h
  · exact ⟨_, _, _, rfl, aGo_inv h⟩
  · cases h
theorem aB2J_inv {f : Int64 → Int64 → Int64} (h : aB2J pc ls st σ f = some (.inl (pc', ls', st', σ'))) : ∃ x y r, st = .long y :: .long x :: r ∧ pc' = pc ∧ ls' = ls ∧ st' = .long (f x y) :: r ∧ σ' = σ := by
  unfold aB2J at h
  split at h
  · exact ⟨_, _, _, rfl, aGo_inv h⟩
  · cases h
theorem aBr_inv {b : Bool} {off : Int} (h : aBr b pc off ls st σ = some (.inl (pc', ls', st', σ'))) : (pc : Int) + off = (aTgt pc off : Int) ∧ pc' = (if b = true then aTgt pc off else pc + 3) ∧ ls' = ls ∧ st' = st ∧ σ' = σ := by
  unfold aBr at h
  split at h
  · rename_i ht
    refine ⟨ht, ?_⟩
    split at h
    · rename_i hb
      rw [if_pos hb]
      exact aGo_inv h
    · rename_i hb
      rw [if_neg hb]
      exact aGo_inv h
  · cases h
theorem aSw_inv {off : Int} (h : aSw pc off ls st σ = some (.inl (pc', ls', st', σ'))) : (pc : Int) + off = (aTgt pc off : Int) ∧ pc' = aTgt pc off ∧ ls' = ls ∧ st' = st ∧ σ' = σ := by
  unfold aSw at h
  split at h
  · rename_i ht
    exact ⟨ht, aGo_inv h⟩
  · cases h
theorem aBr_use {P : Nat → Prop} {b : Bool} {q t n : Nat} (h : q = if b = true then t else n) (k : P q) : (b = true → P t) ∧ (b = false → P n) := by
  cases b with
  | true => rw [if_pos rfl] at h; subst h; exact ⟨fun _ => k, fun z => by cases z⟩
  | false => rw [if_neg (by decide)] at h; subst h; exact ⟨fun z => (by cases z), fun _ => k⟩
theorem aDo_not {t : Nat} {rv : Bool} {x} : aDo t pc rv st σ ≠ some (.inl x) := by
  intro h
  unfold aDo at h
  split at h
  · split at h
    · split at h
      · split at h <;> cases h
      · cases h
    · split at h <;> cases h
    · cases h
  · cases h
theorem aGetF_inv {own i : Nat} (h : aGetF own pc ls st σ i = some (.inl (pc', ls', st', σ'))) : ∃ ci k w a r fs v, aLk lF own i = some (ci, k, w) ∧ st = .ref a :: r ∧ σ.1 a = some (eO ci fs) ∧ fs[k]? = some v ∧ pc' = pc + 3 ∧ ls' = ls ∧ st' = v :: r ∧ σ' = σ := by
  unfold aGetF at h
  split at h
  · rename_i ci k w a r hl
    split at h
    · rename_i c2 fs ha
      split at h
      · rename_i hc
        subst hc
        split at h
        · rename_i v hv
          exact ⟨_, _, _, _, _, _, _, hl, rfl, ha, hv, aGo_inv h⟩
        · cases h
      · cases h
    · cases h
  · cases h
theorem aPutF_inv {mi i : Nat} (h : aPutF mi pc ls st σ i = some (.inl (pc', ls', st', σ'))) : ∃ ci k w a r fs v, aLk lF (aOwn mi) i = some (ci, k, w) ∧ st = v :: .ref a :: r ∧ σ.1 a = some (eO ci fs) ∧ k < fs.length ∧ aFit ci k v = true ∧ aFin mi ci k = true ∧ pc' = pc + 3 ∧ ls' = ls ∧ st' = r ∧ σ' = aput σ a (eO ci (fs.set k v)) := by
  unfold aPutF at h
  split at h
  · rename_i ci k w v a r hl
    split at h
    · rename_i c2 fs ha
      split at h
      · rename_i hc
        obtain ⟨rfl, h1, h2, h3⟩ := hc
        exact ⟨_, _, _, _, _, _, _, hl, rfl, ha, h1, h2, h3, aGo_inv h⟩
      · cases h
    · cases h
  · cases h
theorem aIld_inv (h : aIld pc ls st σ = some (.inl (pc', ls', st', σ'))) : ∃ i a r n f, st = .int i :: .ref a :: r ∧ (σ.1 a = some (eI n f) ∨ σ.1 a = some (eS n f)) ∧ vp_in i n ∧ pc' = pc + 1 ∧ ls' = ls ∧ st' = .int (f i.toNatClampNeg) :: r ∧ σ' = σ := by
  unfold aIld at h
  split at h
  · rename_i i a r
    split at h
    · rename_i n f ha
      split at h
      · rename_i hi
        exact ⟨_, _, _, _, _, rfl, Or.inl ha, hi, aGo_inv h⟩
      · cases h
    · rename_i n f ha
      split at h
      · rename_i hi
        exact ⟨_, _, _, _, _, rfl, Or.inr ha, hi, aGo_inv h⟩
      · cases h
    · cases h
  · cases h
theorem aIst_inv (h : aIst pc ls st σ = some (.inl (pc', ls', st', σ'))) : ∃ x i a r n f, st = .int x :: .int i :: .ref a :: r ∧ σ.1 a = some (eI n f) ∧ vp_in i n ∧ pc' = pc + 1 ∧ ls' = ls ∧ st' = r ∧ σ' = aput σ a (eI n (upd f i.toNatClampNeg x)) := by
  unfold aIst at h
  split at h
  · rename_i x i a r
    split at h
    · rename_i n f ha
      split at h
      · rename_i hi
        exact ⟨_, _, _, _, _, _, rfl, ha, hi, aGo_inv h⟩
      · cases h
    · cases h
  · cases h
theorem aQld_inv (h : aQld pc ls st σ = some (.inl (pc', ls', st', σ'))) : ∃ i a r j n f, st = .int i :: .ref a :: r ∧ σ.1 a = some (eQ j n f) ∧ vp_in i n ∧ pc' = pc + 1 ∧ ls' = ls ∧ st' = va_rf (f i.toNatClampNeg) :: r ∧ σ' = σ := by
  unfold aQld at h
  split at h
  · rename_i i a r
    split at h
    · rename_i j n f ha
      split at h
      · rename_i hi
        exact ⟨_, _, _, _, _, _, rfl, ha, hi, aGo_inv h⟩
      · cases h
    · cases h
  · cases h
theorem aQst_inv (h : aQst pc ls st σ = some (.inl (pc', ls', st', σ'))) : ∃ v i a r j n f ci fs, st = .ref v :: .int i :: .ref a :: r ∧ σ.1 a = some (eQ j n f) ∧ σ.1 v = some (eO ci fs) ∧ vp_in i n ∧ aQc j = ci ∧ pc' = pc + 1 ∧ ls' = ls ∧ st' = r ∧ σ' = aput σ a (eQ j n (va_up f i.toNatClampNeg (some v))) := by
  unfold aQst at h
  split at h
  · rename_i v i a r
    split at h
    · rename_i j n f ci fs ha hv
      split at h
      · rename_i hi
        exact ⟨_, _, _, _, _, _, _, _, _, rfl, ha, hv, hi.1, hi.2.2, aGo_inv h⟩
      · cases h
    · cases h
  · cases h
theorem aLen_inv (h : aLen pc ls st σ = some (.inl (pc', ls', st', σ'))) : ∃ a r n, st = .ref a :: r ∧ ((∃ f, σ.1 a = some (eI n f)) ∨ (∃ f, σ.1 a = some (eS n f)) ∨ (∃ j f, σ.1 a = some (eQ j n f))) ∧ pc' = pc + 1 ∧ ls' = ls ∧ st' = .int (Int32.ofNat n) :: r ∧ σ' = σ := by
  unfold aLen at h
  split at h
  · rename_i a r
    split at h
    · rename_i n f ha
      exact ⟨_, _, _, rfl, Or.inl ⟨_, ha⟩, aGo_inv h⟩
    · rename_i n f ha
      exact ⟨_, _, _, rfl, Or.inr (Or.inl ⟨_, ha⟩), aGo_inv h⟩
    · rename_i j n f ha
      exact ⟨_, _, _, rfl, Or.inr (Or.inr ⟨_, _, ha⟩), aGo_inv h⟩
    · cases h
  · cases h
theorem aCpy_inv (h : aCpy pc ls st σ = some (.inl (pc', ls', st', σ'))) : ∃ n dp a sp a0 r n0 f n1 g, st = .int n :: .int dp :: .ref a :: .int sp :: .ref a0 :: r ∧ σ.1 a0 = some (eI n0 f) ∧ σ.1 a = some (eI n1 g) ∧ (¬ sp < 0 ∧ ¬ dp < 0 ∧ ¬ n < 0 ∧ sp.toNatClampNeg + n.toNatClampNeg ≤ n0 ∧ dp.toNatClampNeg + n.toNatClampNeg ≤ n1 ∧ r.length ≤ 4) ∧ pc' = pc + 3 ∧ ls' = ls ∧ st' = r ∧ σ' = aput σ a (eI n1 (va_cpy f g sp.toNatClampNeg dp.toNatClampNeg n.toNatClampNeg)) := by
  unfold aCpy at h
  split at h
  · rename_i n dp a sp a0 r
    split at h
    · rename_i n0 f n1 g h0 h1
      split at h
      · rename_i hi
        exact ⟨_, _, _, _, _, _, _, _, _, _, rfl, h0, h1, hi, aGo_inv h⟩
      · cases h
    · cases h
  · cases h
theorem aMin_inv (h : aMin pc ls st σ = some (.inl (pc', ls', st', σ'))) : ∃ x y r, st = .int y :: .int x :: r ∧ r.length ≤ 4 ∧ pc' = pc + 3 ∧ ls' = ls ∧ st' = .int (if y < x then y else x) :: r ∧ σ' = σ := by
  unfold aMin at h
  split at h
  · split at h
    · rename_i hi
      exact ⟨_, _, _, rfl, hi, aGo_inv h⟩
    · cases h
  · cases h
theorem aObj_inv (h : aObj pc ls st σ = some (.inl (pc', ls', st', σ'))) : ∃ a r, st = .ref a :: r ∧ r.length ≤ 4 ∧ pc' = pc + 3 ∧ ls' = ls ∧ st' = r ∧ σ' = σ := by
  unfold aObj at h
  split at h
  · split at h
    · rename_i hi
      exact ⟨_, _, rfl, hi, aGo_inv h⟩
    · cases h
  · cases h
theorem aCat (v : Value) : v.category ≤ 2 := by cases v <;> simp [Value.category]
theorem aCats : ∀ r : List Value, (r.map fun v => v.category).sum ≤ 2 * r.length
  | [] => Nat.le_refl _
  | v :: t => by
    have h1 := aCat v
    have h2 := aCats t
    simp only [List.map_cons, List.sum_cons, List.length_cons]
    omega
theorem aCats8 {r : List Value} (h : r.length ≤ 4) : (r.map fun v => v.category).sum ≤ 8 := by
  have := aCats r
  omega
end AI
end
section
/-! ONE STEP: what the small machine does without a call, the machine does -/
section AST
variable {p : Program} {l : Launch} {e : Env} {R : Room} {s : State} {m : MethodId} {args : Array Value} {below : List Frame} {meth : Method} {cd : Code} {H : Heap} {locs : List Loc} {Z : State → Prop}
variable {D : va_G} {c : Nat → ClassId} {lo mi h0 s0 : Nat} {arr : Array Slot} {pc : Nat} {ls : aL} {st : List Value} {σ : aS}
/-- where the walk stands -/
def aW (p : Program) (l : Launch) (e : Env) (R : Room) (s : State) (m : MethodId) (args : Array Value) (below : List Frame) (meth : Method) (cd : Code) (h0 s0 : Nat) (Z : State → Prop) (H : Heap) (locs : List Loc) (σ : aS) (pc : Nat) (arr : Array Slot) (st : List Value) : Prop :=
  W p l e R s m args below meth cd H locs (σ.2.1 - h0) (σ.2.2 - s0) Z (F0 m pc arr st)
def aKo (D : va_G) (c : Nat → ClassId) (lo mi : Nat) (p : Program) (l : Launch) (e : Env) (R : Room) (s : State) (m : MethodId) (args : Array Value) (below : List Frame) (meth : Method) (cd : Code) (h0 s0 : Nat) (Z : State → Prop) (pc : Nat) (ls : aL) (st : List Value) (σ : aS) : Prop :=
  ∀ (arr : Array Slot) (H : Heap) (locs : List Loc), aLs arr (aMax mi) ls → aRel D c lo s σ H → va_S (fun q : Nat => lo ≤ q) s.heap H locs → aW p l e R s m args below meth cd h0 s0 Z H locs σ pc arr st
theorem aS_new {lo : Nat} {H0 H H1 : Heap} {locs : List Loc} (hS : va_S (fun q : Nat => lo ≤ q) H0 H locs) (z : H1.size = H.size + 1) (o : ∀ q : Nat, q < H.size → H1[q]? = H[q]?) : va_S (fun q : Nat => lo ≤ q) H0 H1 locs :=
  ⟨Nat.le_trans hS.1 (by omega), fun q h1 h2 => (o q (Nat.lt_of_lt_of_le h1 hS.1)).trans (hS.2.1 q h1 h2), hS.2.2⟩
theorem aCell0 {σ : aS} {H : Heap} (hR : aRel D c lo s σ H) {a n : Nat} {f : Nat → Int32} (ha : σ.1 a = some (eI n f)) : H[a]? = some (vp_cell (c 0) (n, .inl f)) := (hR.at ha trivial).2.2
theorem aArr0 (hF : aFix D c s) (n : Nat) (f : Nat → Int32) : s.isArrayOf (vp_cell (c 0) (n, .inl f)) .int := (hF.1.2 0 _ rfl).1 n (fun j => .int (f j))
theorem aF_link {own i ci k w : Nat} (h : aLk lF own i = some (ci, k, w)) : ci < 8 ∧ k < (aNw ci).2.2 ∧ Cond.fieldLink (aClass own) i ((aNw ci).2.1 k).1 ((aNw ci).2.1 k).2.1 ((aNw ci).2.1 k).2.2.1 ∈ aTbl := by
  obtain ⟨h1, h2, h3, h4⟩ := lF_ok _ (aLk_mem _ _ _ _ h)
  exact ⟨h3, h4, aTbl_in h1 h2⟩
theorem aC_link {own i ci w w2 w3 : Nat} (h : aLk lC own i = some (ci, w, w2, w3)) : ci < 8 ∧ Cond.classLink (aClass own) i (aNw ci).1 ∈ aTbl ∧ Cond.initialized (aNw ci).1 ∈ aTbl := by
  obtain ⟨h1, h2, h3, h4, h5, h6, h7⟩ := lC_ok _ (aLk_mem _ _ _ _ h)
  exact ⟨h7, aTbl_in h1 h2, aTbl_in h5 h6⟩
theorem aW_getf (C : aCtx D c p s args m meth cd mi) {i : Nat} {pc' : Nat} {ls' : aL} {st' : List Value} {σ' : aS} (hd : decode (aRec mi).2.1 pc = .ok (.getfield i, 3)) (h : aGetF (aOwn mi) pc ls st σ i = some (.inl (pc', ls', st', σ'))) (hl : aLs arr (aMax mi) ls) (hR : aRel D c lo s σ H) (hS : va_S (fun q : Nat => lo ≤ q) s.heap H locs)
    (kk : aKo D c lo mi p l e R s m args below meth cd h0 s0 Z pc' ls' st' σ') : aW p l e R s m args below meth cd h0 s0 Z H locs σ pc arr st := by
  obtain ⟨hx, hb, hml, hown, hr, hts, hlk, hin, hF⟩ := C
  obtain ⟨ci, k, w, a, r, fs, v, hlF, rfl, ha, hv, rfl, rfl, rfl, rfl⟩ := aGetF_inv h
  obtain ⟨h8, hk, hw⟩ := aF_link hlF
  exact va_get (D := D) (cl := vwCl) (ws := [(a, .inr (ci, fs))]) (tys := aTys c) (C := (aNw ci).1) (T := (aNw ci).2.1) (N := (aNw ci).2.2) hx hb hts (aLay h8) hown hF.1 (aP1 (hR.at ha trivial).2.2) 0 rfl (aNw_at h8) k hk (hts _ hw) (fun _ h => h) hv hd (kk _ _ _ hl hR hS)
theorem aFit_inv {ci k : Nat} {v : Value} (h : aFit ci k v = true) : ∃ ty, parseFieldDescriptor ((aNw ci).2.1 k).2.2.1 = some ty ∧ narrow ty v = v ∧ fits ty v = true := by
  unfold aFit at h
  split at h
  · rename_i ty e
    simp only [Bool.and_eq_true, decide_eq_true_eq] at h
    exact ⟨ty, e, h⟩
  · cases h
theorem aW_putf (C : aCtx D c p s args m meth cd mi) {i : Nat} {pc' : Nat} {ls' : aL} {st' : List Value} {σ' : aS} (hd : decode (aRec mi).2.1 pc = .ok (.putfield i, 3)) (h : aPutF mi pc ls st σ i = some (.inl (pc', ls', st', σ'))) (hl : aLs arr (aMax mi) ls) (hR : aRel D c lo s σ H) (hS : va_S (fun q : Nat => lo ≤ q) s.heap H locs)
    (kk : aKo D c lo mi p l e R s m args below meth cd h0 s0 Z pc' ls' st' σ') : aW p l e R s m args below meth cd h0 s0 Z H locs σ pc arr st := by
  obtain ⟨hx, hb, hml, hown, hr, hts, hlk, hin, hF⟩ := C
  obtain ⟨ci, k, w, a, r, fs, v, hlF, rfl, ha, hlen, hfit, hfin, rfl, rfl, rfl, rfl⟩ := aPutF_inv h
  obtain ⟨h8, hk, hw⟩ := aF_link hlF
  obtain ⟨ty, hty, hn, hft⟩ := aFit_inv hfit
  have hc := aNw_at h8
  have hap := va_apart (D := D) (cl := vwCl) (own := aClass (aOwn mi)) (tys := aTys c) (s := s) (args := args) (Ts := aTbl) hts (aLay h8) (aTyf ci) (aTyf_ok h8) (aNms h8) hF.1 hc
  obtain ⟨q0l, q0h, q0⟩ := hR.at ha trivial
  obtain ⟨rr, h1, cell, q1, q2, q3, q4⟩ := q0
  have hrr : rr = aNw ci := Option.some.inj (h1.symm.trans hc)
  subst hrr
  obtain ⟨hSl, hfc, kC, hkC, hkind⟩ := hF.1.1 ci _ hc
  obtain ⟨cf, kf, fi, f, hi, hsl⟩ := hSl k hk
  have hlay := hts _ (aLay h8 _ (u_in_lay hk))
  have hst := (u_facts hfc hkC (u_lays hts (aLay h8) hk) hi).1
  have fin : ∀ H' : Heap, H'[a]? = some (cell.setSlot f.slot v) → H'.size = H.size → (∀ q, q ≠ a → H'[q]? = H[q]?) → W p l e R s m args below meth cd H' (locs ++ [⟨a, f.slot⟩]) (σ.2.1 - h0) (σ.2.2 - s0) Z (F0 m (pc + 3) arr st') := by
    intro H' e1 e2 e3
    rw [hsl] at e1 ⊢
    refine kk arr H' _ hl (hR.put ha trivial trivial ?_ e2 e3) (hS.put e2 e3 q0l)
    exact ⟨_, hc, t_OB.to (V := updV (vp_V fs) k v) ⟨_, e1, q2, q3, t_set q4 hap hk v⟩ (fun j _ => vp_updV_set hlen v j)⟩
  by_cases hff : ((aNw ci).2.1 k).2.2.2 = true
  · unfold u_lay at hlay
    rw [if_pos hff] at hlay
    unfold aFin at hfin
    rw [if_pos hff] at hfin
    simp only [Bool.and_eq_true, decide_eq_true_eq] at hfin
    have hcf : m.cls = cf := by
      obtain ⟨_, _, c', _, _, _, -, -, hf', -, -, -, hown2, -⟩ := Cond.laysFinal_spec hlay
      have e1 : c' = cf := by have := hi.symm.trans hf'; simp at this; exact this.1.symm
      rw [hfin.2] at hown2
      rw [← e1]; exact Option.some.inj (hown.symm.trans hown2)
    have h6 := u_fits hfc hkC hkind (Or.inr hlay) hi hty hn hft
    exact W.putFinK hx hb hown (hts _ hw) hi hst hcf (hin hfin.1) (by rw [q2]; exact h6) q1 q3 (by rw [hsl]; exact k2_hasslot (q4 k hk)) rfl rfl hd fin
  · unfold u_lay at hlay
    rw [if_neg hff] at hlay
    have h6 := u_store hfc hkC hkind hlay hi hty hn hft
    exact W.putK hx hb (f := f) ⟨hown, hts _ hw, ⟨_, _, _, hi⟩, hst⟩ (by rw [q2]; exact h6) q1 q3 (by rw [hsl]; exact k2_hasslot (q4 k hk)) rfl rfl hd fin
theorem aW_iald (C : aCtx D c p s args m meth cd mi) {pc' : Nat} {ls' : aL} {st' : List Value} {σ' : aS} (hd : decode (aRec mi).2.1 pc = .ok (.iaload, 1)) (h : aIld pc ls st σ = some (.inl (pc', ls', st', σ'))) (hl : aLs arr (aMax mi) ls) (hR : aRel D c lo s σ H) (hS : va_S (fun q : Nat => lo ≤ q) s.heap H locs)
    (kk : aKo D c lo mi p l e R s m args below meth cd h0 s0 Z pc' ls' st' σ') : aW p l e R s m args below meth cd h0 s0 Z H locs σ pc arr st := by
  obtain ⟨hx, hb, hml, hown, hr, hts, hlk, hin, hF⟩ := C
  obtain ⟨i, a, r, n, f, rfl, ha, hi, rfl, rfl, rfl, rfl⟩ := aIld_inv h
  rcases ha with ha | ha
  · exact va_iald (D := D) (cl := vwCl) (tys := aTys c) (ws := [(a, .inl (c 0, n, .inl f))]) hx hb hF.1 (aP1 (hR.at ha trivial).2.2) 0 0 rfl rfl hi hd (kk _ _ _ hl hR hS)
  · obtain ⟨-, scr, g1, g2, g3, g4, g5⟩ := hR.scr ha
    have hlt : i.toNatClampNeg < n := Nat.not_le.mp fun q => hi (Or.inr q)
    exact W.iald (v := .int (f i.toNatClampNeg)) hx hb g1 g2 g3 (by rw [g4]; exact hi) (g5 _ hlt) rfl rfl hd (kk _ _ _ hl hR hS)
theorem aW_iast (C : aCtx D c p s args m meth cd mi) {pc' : Nat} {ls' : aL} {st' : List Value} {σ' : aS} (hd : decode (aRec mi).2.1 pc = .ok (.iastore, 1)) (h : aIst pc ls st σ = some (.inl (pc', ls', st', σ'))) (hl : aLs arr (aMax mi) ls) (hR : aRel D c lo s σ H) (hS : va_S (fun q : Nat => lo ≤ q) s.heap H locs)
    (kk : aKo D c lo mi p l e R s m args below meth cd h0 s0 Z pc' ls' st' σ') : aW p l e R s m args below meth cd h0 s0 Z H locs σ pc arr st := by
  obtain ⟨hx, hb, hml, hown, hr, hts, hlk, hin, hF⟩ := C
  obtain ⟨x, i, a, r, n, f, rfl, ha, hi, rfl, rfl, rfl, rfl⟩ := aIst_inv h
  refine W.iast hx hb (aCell0 hR ha) (aArr0 hF n f) (fun q => by cases q) (by show ¬ (i < 0 ∨ (arrV _ _ _).slots.size ≤ _); rw [arrV_size]; exact hi) rfl rfl hd fun H1 e1 z oq => ?_
  refine kk arr H1 _ hl (hR.put ha trivial trivial ?_ z oq) (hS.put z oq (hR.at ha trivial).1)
  show H1[a]? = some (vp_cell _ _)
  rw [e1]
  rw [vp_cell_i, vp_cell_i, arrV_store]
  congr 2
  funext q
  by_cases hq : q = i.toNatClampNeg
  · subst hq
    simp [updV, upd]
  · simp [updV, upd, hq]
theorem aTys_at {j ci : Nat} (h : aQc j = ci) (hj : j = 1 ∨ j = 2 ∨ j = 3) : (aTys c)[j]? = some (c j, .object (aNw ci).1) ∧ ci < 8 := by
  subst h
  rcases hj with rfl | rfl | rfl <;> exact ⟨rfl, by decide⟩
theorem aW_aald (C : aCtx D c p s args m meth cd mi) {pc' : Nat} {ls' : aL} {st' : List Value} {σ' : aS} (hd : decode (aRec mi).2.1 pc = .ok (.aaload, 1)) (h : aQld pc ls st σ = some (.inl (pc', ls', st', σ'))) (hl : aLs arr (aMax mi) ls) (hR : aRel D c lo s σ H) (hS : va_S (fun q : Nat => lo ≤ q) s.heap H locs)
    (kk : aKo D c lo mi p l e R s m args below meth cd h0 s0 Z pc' ls' st' σ') : aW p l e R s m args below meth cd h0 s0 Z H locs σ pc arr st := by
  obtain ⟨hx, hb, hml, hown, hr, hts, hlk, hin, hF⟩ := C
  obtain ⟨i, a, r, j, n, f, rfl, ha, hi, rfl, rfl, rfl, rfl⟩ := aQld_inv h
  have hj := hR.isOK ha
  obtain ⟨ht, -⟩ := aTys_at (c := c) rfl hj
  exact va_aldq (D := D) (cl := vwCl) (tys := aTys c) (ws := [(a, .inl (c j, n, .inr (.inr (.inr (.inr f)))))]) hx hb hF.1 (aP1 (hR.at ha hj).2.2) 0 j rfl ht hi hd (kk _ _ _ hl hR hS)
theorem aW_aast (C : aCtx D c p s args m meth cd mi) {pc' : Nat} {ls' : aL} {st' : List Value} {σ' : aS} (hd : decode (aRec mi).2.1 pc = .ok (.aastore, 1)) (h : aQst pc ls st σ = some (.inl (pc', ls', st', σ'))) (hl : aLs arr (aMax mi) ls) (hR : aRel D c lo s σ H) (hS : va_S (fun q : Nat => lo ≤ q) s.heap H locs)
    (kk : aKo D c lo mi p l e R s m args below meth cd h0 s0 Z pc' ls' st' σ') : aW p l e R s m args below meth cd h0 s0 Z H locs σ pc arr st := by
  obtain ⟨hx, hb, hml, hown, hr, hts, hlk, hin, hF⟩ := C
  obtain ⟨v, i, a, r, j, n, f, ci, fs, rfl, ha, hv, hi, hq, rfl, rfl, rfl, rfl⟩ := aQst_inv h
  have hj := hR.isOK ha
  obtain ⟨ht, h8⟩ := aTys_at (c := c) hq hj
  have hlt : i.toNatClampNeg < n := Nat.not_le.mp fun q => hi (Or.inr q)
  have hi0 : ¬ i < 0 := fun q => hi (Or.inl q)
  obtain ⟨r', hr', cellV, g1, g2, g3, -⟩ := (hR.at hv trivial).2.2
  have hcls := (hF.1.1 ci _ (aNw_at h8)).2
  obtain ⟨kA, comp, k1, k2, k3, -⟩ := (hF.1.2 j _ ht).2
  have hcomp : comp = D.1 ci := Option.some.inj (k3.symm.trans hcls.1)
  subst hcomp
  obtain ⟨kC, hkC, -⟩ := hcls.2
  have hca : H[a]? = some (vp_cell (c j) (n, .inr (.inr (.inr (.inr f))))) := (hR.at ha hj).2.2
  refine W.aast hx hb hca (fun q h => by cases h) (fun h => by cases h) k1 k2 rfl hkC ⟨hi0, by show _ < (arrV _ _ _).slots.size; rw [arrV_size]; exact hlt⟩ g1 (fun q h => by rw [g3] at h; cases h) (by rw [g2]; exact hkC) (by rw [g2]; exact va_assign hcls) rfl rfl hd fun H1 e1 z oq => ?_
  refine kk arr H1 _ hl (hR.put ha hj hj ?_ z oq) (hS.put z oq (hR.at ha hj).1)
  show H1[a]? = some (vp_cell _ _)
  rw [e1]
  rw [vp_cell_q, vp_cell_q, arrV_store]
  congr 2
  funext q
  by_cases hq : q = i.toNatClampNeg
  · subst hq
    simp [updV, va_up, va_rf]
  · simp [updV, va_up, hq]
theorem aW_alen (C : aCtx D c p s args m meth cd mi) {pc' : Nat} {ls' : aL} {st' : List Value} {σ' : aS} (hd : decode (aRec mi).2.1 pc = .ok (.arraylength, 1)) (h : aLen pc ls st σ = some (.inl (pc', ls', st', σ'))) (hl : aLs arr (aMax mi) ls) (hR : aRel D c lo s σ H) (hS : va_S (fun q : Nat => lo ≤ q) s.heap H locs)
    (kk : aKo D c lo mi p l e R s m args below meth cd h0 s0 Z pc' ls' st' σ') : aW p l e R s m args below meth cd h0 s0 Z H locs σ pc arr st := by
  obtain ⟨hx, hb, hml, hown, hr, hts, hlk, hin, hF⟩ := C
  obtain ⟨a, r, n, rfl, ha, rfl, rfl, rfl, rfl⟩ := aLen_inv h
  rcases ha with ⟨f, ha⟩ | ⟨f, ha⟩ | ⟨j, f, ha⟩
  · exact va_alen (D := D) (cl := vwCl) (tys := aTys c) (ws := [(a, .inl (c 0, n, .inl f))]) hx hb hF.1 (aP1 (hR.at ha trivial).2.2) 0 0 rfl rfl rfl hd (kk _ _ _ hl hR hS)
  · obtain ⟨-, scr, g1, g2, g3, g4, g5⟩ := hR.scr ha
    exact W.alen (n := Int32.ofNat n) hx hb g1 g2 (by rw [g4] <;> rfl) rfl rfl hd (kk _ _ _ hl hR hS)
  · have hj := hR.isOK ha
    obtain ⟨ht, -⟩ := aTys_at (c := c) rfl hj
    exact va_alen (D := D) (cl := vwCl) (tys := aTys c) (ws := [(a, .inl (c j, n, .inr (.inr (.inr (.inr f)))))]) hx hb hF.1 (aP1 (hR.at ha hj).2.2) 0 j rfl ht rfl hd (kk _ _ _ hl hR hS)
theorem aNat8 {r : List Value} {n : Nat} (h : 35 ≤ n) (h8 : (r.map fun v => v.category).sum ≤ 8) : 2 * 0 + (r.map fun v => v.category).sum + (nativeFrameWords "java/lang/System" "arraycopy" 5 + 11) ≤ n := by
  have hw : nativeFrameWords "java/lang/System" "arraycopy" 5 = 7 := by decide +kernel
  rw [hw]
  omega
theorem aW_copy (C : aCtx D c p s args m meth cd mi) (hfr : 1 ≤ R.frames) (hlo : 35 ≤ R.locals) {i pc' : Nat} {ls' : aL} {st' : List Value} {σ' : aS} (hd : decode (aRec mi).2.1 pc = .ok (.invokestatic i, 3)) (hlink : Cond.methodLink (aClass (aOwn mi)) i arraycopyName ∈ aTbl) (h : aCpy pc ls st σ = some (.inl (pc', ls', st', σ'))) (hl : aLs arr (aMax mi) ls) (hR : aRel D c lo s σ H) (hS : va_S (fun q : Nat => lo ≤ q) s.heap H locs)
    (kk : aKo D c lo mi p l e R s m args below meth cd h0 s0 Z pc' ls' st' σ') : aW p l e R s m args below meth cd h0 s0 Z H locs σ pc arr st := by
  obtain ⟨hx, hb, hml, hown, hr, hts, hlk, hin, hF⟩ := C
  obtain ⟨n, dp, a, sp, a0, r, n0, f, n1, g, rfl, ha0, ha1, ⟨h1, h2, h3, h4, h5, h6⟩, rfl, rfl, rfl, rfl⟩ := aCpy_inv h
  have nn : ∀ z : Int32, ¬ z < 0 → z.toInt = (z.toNatClampNeg : Int) := by
    intro z hz
    have hz0 : (0 : Int) ≤ z.toInt := by
      have := Int32.not_lt.mp hz
      simpa using Int32.le_iff_toInt_le.mp this
    show z.toInt = ((z.toInt.toNat : Nat) : Int)
    omega
  intro T hT X
  have hc0 : H[a0]? = some (vp_cell (c 0) (n0, .inl f)) := aCell0 hR ha0
  have hc1 : H[a]? = some (vp_cell (c 0) (n1, .inl g)) := aCell0 hR ha1
  obtain ⟨-, k0, hk0, cm0, hkk0⟩ := aArr0 hF n0 f
  obtain ⟨-, k1, hk1, cm1, hkk1⟩ := aArr0 hF n1 g
  have h8 := aCats8 h6
  obtain ⟨vm', X', step⟩ := X.arraycopy hx hown (hts _ hlink) (hts _ (aTbl_in aW_acN.1 aW_acN.2)) (hts _ (aTbl_in aW_acS.1 aW_acS.2)) (hts _ (aTbl_in aW_acI.1 aW_acI.2)) (src := a0) (dst := a) (cs := vp_cell (c 0) (n0, .inl f)) (cd := vp_cell (c 0) (n1, .inl g)) (srcPos := sp) (destPos := dp) (n := n) (by rw [hT]; exact hc0) (by rw [hT]; exact hc1)
    (fun _ h => by cases h) (fun _ h => by cases h) (fun h => by cases h) (fun h => by cases h) hk0 hk1 hkk0 hkk1 (by simp [refKind]) h1 h2 h3
    (by rw [nn sp h1, nn n h3]; show ¬ _ > ((arrV (c 0) n0 (fun j => .int (f j))).slots.size : Int); rw [arrV_size]; omega)
    (by rw [nn dp h2, nn n h3]; show ¬ _ > ((arrV (c 0) n1 (fun j => .int (g j))).slots.size : Int); rw [arrV_size]; omega)
    (fun vm₁ _ i hi => by
      have e : (vp_cell (c 0) (n0, .inl f)).slots.getD (sp.toNatClampNeg + i) .null = .int (f (sp.toNatClampNeg + i)) := by
        show (arrV (c 0) n0 (fun j => .int (f j))).slots.getD _ _ = _
        rw [Array.getD_eq_getD_getElem?, arrV_read _ _ (by omega)]
        rfl
      refine ⟨?_, ?_⟩
      · rw [e]
        rfl
      · rw [e]
        exact trivial)
    (g := F0 m pc arr (.int n :: .int dp :: .ref a :: .int sp :: .ref a0 :: st')) rfl (by rw [hml]; exact hl.size) (rest := st') rfl (by rw [hb]; exact hd) hfr (aNat8 hlo h8)
  have e1 : copied (vp_cell (c 0) (n0, .inl f)) (vp_cell (c 0) (n1, .inl g)) sp dp n = vp_cell (c 0) (n1, .inl (va_cpy f g sp.toNatClampNeg dp.toNatClampNeg n.toNatClampNeg)) := va_copied (fun z => .int z) (c 0) (c 0) f g h4
  rw [e1] at X' step
  have hla : a < H.size := (Array.getElem?_eq_some_iff.mp hc1).1
  have hheap : ((T.setVm vm').setCell a (vp_cell (c 0) (n1, .inl (va_cpy f g sp.toNatClampNeg dp.toNatClampNeg n.toNatClampNeg)))).heap = H.setIfInBounds a (vp_cell (c 0) (n1, .inl (va_cpy f g sp.toNatClampNeg dp.toNatClampNeg n.toNatClampNeg))) := by rw [← hT]; rfl
  have oq : ∀ q : Nat, q ≠ a → (H.setIfInBounds a (vp_cell (c 0) (n1, .inl (va_cpy f g sp.toNatClampNeg dp.toNatClampNeg n.toNatClampNeg))))[q]? = H[q]? := fun q hq => by simp [Array.getElem?_setIfInBounds, Ne.symm hq]
  obtain ⟨t, a1, b1⟩ := kk arr _ _ hl (hR.put ha1 trivial trivial (show (H.setIfInBounds a _)[a]? = some _ by simp [Array.getElem?_setIfInBounds, hla]) (by simp) oq) ⟨by simp; exact hS.1, fun q g1 g2 => by
      rw [oq q (fun e => g2 (by rw [e]; exact (hR.at ha1 trivial).1))]
      exact hS.2.1 q g1 g2, fun q hq => by
      rcases List.mem_append.mp hq with h | h
      · exact hS.2.2 q h
      · obtain ⟨z, -, hz⟩ := List.mem_map.mp h
        rw [← hz]
        exact (hR.at ha1 trivial).1⟩ _ hheap X'
  exact ⟨t, step t a1, b1⟩
theorem aW_new (C : aCtx D c p s args m meth cd mi) {i pc' : Nat} {ls' : aL} {st' : List Value} {σ' : aS} (hd : decode (aRec mi).2.1 pc = .ok (.new i, 3)) (h : aAct mi pc (.new i) ls st σ = some (.inl (pc', ls', st', σ'))) (hl : aLs arr (aMax mi) ls) (hR : aRel D c lo s σ H) (hS : va_S (fun q : Nat => lo ≤ q) s.heap H locs) (hh : h0 ≤ σ.2.1 ∧ s0 ≤ σ.2.2) (hc : σ'.2.1 - h0 ≤ R.cells ∧ σ'.2.2 - s0 ≤ R.slots)
    (kk : aKo D c lo mi p l e R s m args below meth cd h0 s0 Z pc' ls' st' σ') : aW p l e R s m args below meth cd h0 s0 Z H locs σ pc arr st := by
  obtain ⟨hx, hb, hml, hown, hr, hts, hlk, hin, hF⟩ := C
  simp only [aAct] at h
  split at h
  · rename_i ci w hlC
    obtain ⟨rfl, rfl, rfl, rfl⟩ := aGo_inv h
    obtain ⟨w1, w2, w3⟩ := w
    obtain ⟨h8, hw1, hw2⟩ := aC_link hlC
    have hcl := aNw_at h8
    have hKn := hF.1.1 ci _ hcl
    have hz := hR.1
    obtain ⟨hh1, hh2⟩ := hh
    obtain ⟨hc1, hc2⟩ := hc
    have ec : (anew σ (eO ci (aDef ci)) (aNw ci).2.2).2.1 - h0 = (σ.2.1 - h0) + 1 := by show σ.2.1 + 1 - h0 = _; omega
    have es : (anew σ (eO ci (aDef ci)) (aNw ci).2.2).2.2 - s0 = (σ.2.2 - s0) + (aNw ci).2.2 := by show σ.2.2 + (aNw ci).2.2 - s0 = _; omega
    refine W.newcK hx hb hown (hts _ hw1) (hts _ (aW_inst _ (List.mem_of_getElem? hcl))) (hts _ hw2) rfl hd (by rw [← ec]; exact hc1) (by rw [← es]; exact hc2) hKn.2.1 hz fun H1 kC hkC e1 z1 o1 => ?_
    have o2 : ∀ q : Nat, q < H.size → H1[q]? = H[q]? := fun q hq => o1 q (by omega)
    have kz := kk arr H1 locs hl (hR.new trivial ⟨_, hcl, (u_born (aTyf ci) hts (aLay h8) hKn hkC (by rw [hz]; exact e1) (aTyf_ok h8)).to (aDef_at h8)⟩ (by omega) o2) (aS_new hS (by omega) o2)
    unfold aW at kz
    rw [ec, es] at kz
    exact kz
  · cases h
theorem aW_newa (C : aCtx D c p s args m meth cd mi) {t : ArrayType} {pc' : Nat} {ls' : aL} {st' : List Value} {σ' : aS} (hd : decode (aRec mi).2.1 pc = .ok (.newarray t, 2)) (h : aAct mi pc (.newarray t) ls st σ = some (.inl (pc', ls', st', σ'))) (hl : aLs arr (aMax mi) ls) (hR : aRel D c lo s σ H) (hS : va_S (fun q : Nat => lo ≤ q) s.heap H locs) (hh : h0 ≤ σ.2.1 ∧ s0 ≤ σ.2.2) (hc : σ'.2.1 - h0 ≤ R.cells ∧ σ'.2.2 - s0 ≤ R.slots)
    (kk : aKo D c lo mi p l e R s m args below meth cd h0 s0 Z pc' ls' st' σ') : aW p l e R s m args below meth cd h0 s0 Z H locs σ pc arr st := by
  obtain ⟨hx, hb, hml, hown, hr, hts, hlk, hin, hF⟩ := C
  simp only [aAct] at h
  split at h
  · rename_i n r
    split at h
    · rename_i hn
      obtain ⟨rfl, rfl, rfl, rfl⟩ := aGo_inv h
      have hz := hR.1
      obtain ⟨hh1, hh2⟩ := hh
      obtain ⟨hc1, hc2⟩ := hc
      have ec : (anew σ (eI n.toNatClampNeg (fun _ => 0)) n.toNatClampNeg).2.1 - h0 = (σ.2.1 - h0) + 1 := by show σ.2.1 + 1 - h0 = _; omega
      have es : (anew σ (eI n.toNatClampNeg (fun _ => 0)) n.toNatClampNeg).2.2 - s0 = (σ.2.2 - s0) + n.toNatClampNeg := by show σ.2.2 + n.toNatClampNeg - s0 = _; omega
      refine va_newaK (atype := .int) hx hb (hts _ (aTbl_in aW_arr.1 aW_arr.2)) rfl hd rfl hn.1 rfl (by show n.toNatClampNeg * 4 ≤ _; have := hn.2; omega) (by rw [← ec]; exact hc1) (by rw [← es]; exact hc2) hz fun H1 cA e1 z1 o1 hAr hNm => ?_
      have o2 : ∀ q : Nat, q < H.size → H1[q]? = H[q]? := fun q hq => o1 q (by omega)
      have hcA : cA = c 0 := by
        have h1 := (hF.1.2 0 _ rfl).2
        exact Option.some.inj (hNm.symm.trans h1)
      subst hcA
      have kz := kk arr H1 locs hl (hR.new trivial (show H1[H.size]? = some (vp_cell (c 0) (n.toNatClampNeg, .inl (fun _ => 0))) by rw [hz]; exact e1) (by omega) o2) (aS_new hS (by omega) o2)
      unfold aW at kz
      rw [ec, es] at kz
      exact kz
    · cases h
  · cases h
theorem aW_anew (C : aCtx D c p s args m meth cd mi) {i pc' : Nat} {ls' : aL} {st' : List Value} {σ' : aS} (hd : decode (aRec mi).2.1 pc = .ok (.anewarray i, 3)) (h : aAct mi pc (.anewarray i) ls st σ = some (.inl (pc', ls', st', σ'))) (hl : aLs arr (aMax mi) ls) (hR : aRel D c lo s σ H) (hS : va_S (fun q : Nat => lo ≤ q) s.heap H locs) (hh : h0 ≤ σ.2.1 ∧ s0 ≤ σ.2.2) (hc : σ'.2.1 - h0 ≤ R.cells ∧ σ'.2.2 - s0 ≤ R.slots)
    (kk : aKo D c lo mi p l e R s m args below meth cd h0 s0 Z pc' ls' st' σ') : aW p l e R s m args below meth cd h0 s0 Z H locs σ pc arr st := by
  obtain ⟨hx, hb, hml, hown, hr, hts, hlk, hin, hF⟩ := C
  simp only [aAct] at h
  split at h
  · rename_i ci w n r hlC
    split at h
    · rename_i hn
      obtain ⟨hn0, hn1, hq⟩ := hn
      obtain ⟨rfl, rfl, rfl, rfl⟩ := aGo_inv h
      obtain ⟨w1, w2, w3⟩ := w
      obtain ⟨h8, hw1, hw2⟩ := aC_link hlC
      have hz := hR.1
      obtain ⟨hh1, hh2⟩ := hh
      obtain ⟨hc1, hc2⟩ := hc
      have hj : aQj ci = 1 ∨ aQj ci = 2 ∨ aQj ci = 3 := by
        unfold aQj at hq ⊢
        split at hq <;> simp [aQc] at hq ⊢
        omega
      have ec : (anew σ (eQ (aQj ci) n.toNatClampNeg (fun _ => none)) n.toNatClampNeg).2.1 - h0 = (σ.2.1 - h0) + 1 := by show σ.2.1 + 1 - h0 = _; omega
      have es : (anew σ (eQ (aQj ci) n.toNatClampNeg (fun _ => none)) n.toNatClampNeg).2.2 - s0 = (σ.2.2 - s0) + n.toNatClampNeg := by show σ.2.2 + n.toNatClampNeg - s0 = _; omega
      obtain ⟨ht, -⟩ := aTys_at (c := c) hq hj
      have hAO : va_AO (aNw ci).1 s := by
        rw [← hq]
        rcases hj with e | e | e <;> rw [e]
        · exact hF.2.2.1
        · exact hF.2.2.2.1
        · exact hF.2.2.2.2
      refine W.anew hx hb hown (hts _ hw1) (va_AO.use hAO) rfl hd rfl hn0 (by omega) (by rw [← ec]; exact hc1) (by rw [← es]; exact hc2) fun cA kA comp f1 f2 f3 f4 => ?_
      generalize hH1 : H.push ({ cls := cA, slots := Array.replicate n.toNatClampNeg .null, vm := .none } : Cell) = H1
      have z1 : H1.size = H.size + 1 := by rw [← hH1, Array.size_push]
      have e1 : H1[H.size]? = some (arrV cA n.toNatClampNeg (fun _ => .null)) := by rw [← hH1, Array.getElem?_push_size, ← arrV_new]
      have o2 : ∀ q : Nat, q < H.size → H1[q]? = H[q]? := fun q hq => by rw [← hH1, Array.getElem?_push, if_neg (Nat.ne_of_lt hq)]
      have hcA : cA = c (aQj ci) := by
        obtain ⟨kB, comp2, g1, g2, g3, g4⟩ := (hF.1.2 (aQj ci) _ ht).2
        exact Option.some.inj (f1.symm.trans g4)
      subst hcA
      have kz := kk arr H1 locs hl (hR.new (e := eQ (aQj ci) n.toNatClampNeg (fun _ => none)) hj (show H1[H.size]? = some (vp_cell (c (aQj ci)) (n.toNatClampNeg, .inr (.inr (.inr (.inr (fun _ => none)))))) by rw [vp_cell_q]; exact e1) z1 o2) (aS_new hS z1 o2)
      unfold aW at kz
      rw [ec, es] at kz
      rw [hz]
      exact kz
    · cases h
  · cases h
end AST
end
section
/-! ONE STEP, every instruction that leads to the next one -/
section AST2
variable {p : Program} {l : Launch} {e : Env} {R : Room} {s : State} {m : MethodId} {args : Array Value} {below : List Frame} {meth : Method} {cd : Code} {H : Heap} {locs : List Loc} {Z : State → Prop}
variable {D : va_G} {c : Nat → ClassId} {lo mi h0 s0 : Nat} {arr : Array Slot} {pc : Nat} {ls : aL} {st : List Value} {σ : aS}
theorem aW_lds (C : aCtx D c p s args m meth cd mi) {i pc' n : Nat} {ls' : aL} {st' : List Value} {σ' : aS} {J : Instr} (hd : decode (aRec mi).2.1 pc = .ok (J, n)) {t : Value → Bool} (h : aLd (pc + n) ls st σ i t = some (.inl (pc', ls', st', σ'))) (hl : aLs arr (aMax mi) ls) (hR : aRel D c lo s σ H) (hS : va_S (fun q : Nat => lo ≤ q) s.heap H locs)
    (kk : aKo D c lo mi p l e R s m args below meth cd h0 s0 Z pc' ls' st' σ')
    (row : ∀ v, t v = true → arr[i]? = some (.val v) → aW p l e R s m args below meth cd h0 s0 Z H locs σ (pc + n) arr (v :: st) → aW p l e R s m args below meth cd h0 s0 Z H locs σ pc arr st) : aW p l e R s m args below meth cd h0 s0 Z H locs σ pc arr st := by
  obtain ⟨v, hv, ht, rfl, rfl, rfl, rfl⟩ := aLd_inv h
  exact row v ht (hl.get hv) (kk _ _ _ hl hR hS)
theorem aW_sts (C : aCtx D c p s args m meth cd mi) {i pc' n : Nat} {ls' : aL} {st' : List Value} {σ' : aS} {t : Value → Bool} (h : aS1 (pc + n) ls st σ i t = some (.inl (pc', ls', st', σ'))) (hl : aLs arr (aMax mi) ls) (hR : aRel D c lo s σ H) (hS : va_S (fun q : Nat => lo ≤ q) s.heap H locs)
    (kk : aKo D c lo mi p l e R s m args below meth cd h0 s0 Z pc' ls' st' σ')
    (row : ∀ v r lv, st = v :: r → t v = true → lv_has arr (aMax mi) lv → i < aMax mi → (∀ arr' : Array Slot, lv_has arr' (aMax mi) ((i, v) :: lv.filter (fun q => !(q.1 == i) && !(q.1 + 1 == i && q.2.category == 2))) → aW p l e R s m args below meth cd h0 s0 Z H locs σ (pc + n) arr' r) → aW p l e R s m args below meth cd h0 s0 Z H locs σ pc arr (v :: r)) : aW p l e R s m args below meth cd h0 s0 Z H locs σ pc arr st := by
  obtain ⟨v, r, rfl, ht, hi, rfl, rfl, rfl, rfl⟩ := aS1_inv h
  obtain ⟨hlen, lv, h1, hm⟩ := id hl
  exact row v _ lv rfl ht h1 (by omega) (fun arr' h2 => kk _ _ _ (aLs.s1 hlen hm (by omega) h2) hR hS)
theorem aW_sts2 (C : aCtx D c p s args m meth cd mi) {i pc' n : Nat} {ls' : aL} {st' : List Value} {σ' : aS} (h : aS2 (pc + n) ls st σ i = some (.inl (pc', ls', st', σ'))) (hl : aLs arr (aMax mi) ls) (hR : aRel D c lo s σ H) (hS : va_S (fun q : Nat => lo ≤ q) s.heap H locs)
    (kk : aKo D c lo mi p l e R s m args below meth cd h0 s0 Z pc' ls' st' σ')
    (row : ∀ v r lv, st = .long v :: r → lv_has arr (aMax mi) lv → i + 1 < aMax mi → (∀ arr' : Array Slot, lv_has arr' (aMax mi) ((i, .long v) :: lv.filter (fun q => !(q.1 == i) && (!(q.1 == i + 1) && !(q.1 + 1 == i && q.2.category == 2)))) → aW p l e R s m args below meth cd h0 s0 Z H locs σ (pc + n) arr' r) → aW p l e R s m args below meth cd h0 s0 Z H locs σ pc arr (.long v :: r)) : aW p l e R s m args below meth cd h0 s0 Z H locs σ pc arr st := by
  obtain ⟨v, r, rfl, hi, rfl, rfl, rfl, rfl⟩ := aS2_inv h
  obtain ⟨hlen, lv, h1, hm⟩ := id hl
  exact row v _ lv rfl h1 (by omega) (fun arr' h2 => kk _ _ _ (aLs.s2 hlen hm (by omega) h2) hR hS)
set_option maxHeartbeats 4000000 in
theorem aW_step (C : aCtx D c p s args m meth cd mi) (hfr : 1 ≤ R.frames) (hlo : 35 ≤ R.locals) {pc' : Nat} {ls' : aL} {st' : List Value} {σ' : aS} (hA : aAt mi pc ls st σ = some (.inl (pc', ls', st', σ'))) (hl : aLs arr (aMax mi) ls) (hR : aRel D c lo s σ H) (hS : va_S (fun q : Nat => lo ≤ q) s.heap H locs) (hh : h0 ≤ σ.2.1 ∧ s0 ≤ σ.2.2) (hc : σ.2.1 - h0 ≤ R.cells ∧ σ.2.2 - s0 ≤ R.slots) (hc' : σ'.2.1 - h0 ≤ R.cells ∧ σ'.2.2 - s0 ≤ R.slots)
    (kk : aKo D c lo mi p l e R s m args below meth cd h0 s0 Z pc' ls' st' σ') : aW p l e R s m args below meth cd h0 s0 Z H locs σ pc arr st := by
  unfold aAt at hA
  split at hA
  · rename_i q hq
    obtain ⟨hd, hn⟩ := aCode_dec hq
    obtain ⟨I, n⟩ := q
    obtain ⟨hx, hb, hml, hown, hr, hts, hlk, hin, hF⟩ := id C
    cases I
    case iconst i =>
      simp only [aLenOK, beq_iff_eq] at hn
      subst hn
      simp only [aAct] at hA
      obtain ⟨rfl, rfl, rfl, rfl⟩ := aGo_inv hA
      exact lv_iconst hx hb hd rfl (kk _ _ _ hl hR hS)
    case bipush i =>
      simp only [aLenOK, beq_iff_eq] at hn
      subst hn
      simp only [aAct] at hA
      obtain ⟨rfl, rfl, rfl, rfl⟩ := aGo_inv hA
      exact lv_bipush hx hb hd rfl (kk _ _ _ hl hR hS)
    case sipush i =>
      simp only [aLenOK, beq_iff_eq] at hn
      subst hn
      simp only [aAct] at hA
      obtain ⟨rfl, rfl, rfl, rfl⟩ := aGo_inv hA
      exact lv_sipush hx hb hd rfl (kk _ _ _ hl hR hS)
    case lconst i =>
      simp only [aLenOK, beq_iff_eq] at hn
      subst hn
      simp only [aAct] at hA
      obtain ⟨rfl, rfl, rfl, rfl⟩ := aGo_inv hA
      exact lv_lconst hx hb hd rfl (kk _ _ _ hl hR hS)
    case aconst_null =>
      simp only [aLenOK, beq_iff_eq] at hn
      subst hn
      simp only [aAct] at hA
      obtain ⟨rfl, rfl, rfl, rfl⟩ := aGo_inv hA
      exact lv_null hx hb hd (kk _ _ _ hl hR hS)
    case ldc_w i =>
      simp only [aLenOK, beq_iff_eq] at hn
      subst hn
      simp only [aAct] at hA
      split at hA
      · rename_i v w hlk2
        obtain ⟨rfl, rfl, rfl, rfl⟩ := aGo_inv hA
        obtain ⟨g1, g2⟩ := lI_ok _ (aLk_mem _ _ _ _ hlk2)
        exact lv_ldcw hx hb hown (hts _ (aTbl_in g1 g2)) hd (kk _ _ _ hl hR hS)
      · cases hA
    case ldc2_w i =>
      simp only [aLenOK, beq_iff_eq] at hn
      subst hn
      simp only [aAct] at hA
      split at hA
      · rename_i v w hlk2
        obtain ⟨rfl, rfl, rfl, rfl⟩ := aGo_inv hA
        obtain ⟨g1, g2⟩ := lJ_ok _ (aLk_mem _ _ _ _ hlk2)
        exact lv_ldc2 hx hb hown (hts _ (aTbl_in g1 g2)) hd (kk _ _ _ hl hR hS)
      · cases hA
    case iload_n i =>
      simp only [aLenOK, beq_iff_eq] at hn
      subst hn
      simp only [aAct] at hA
      refine aW_lds C hd hA hl hR hS kk (fun v ht hg k => ?_)
      obtain ⟨x, rfl⟩ := aIsI_inv ht
      exact lv_iload_n hx hb hd rfl hg k
    case iload i =>
      simp only [aLenOK, beq_iff_eq] at hn
      subst hn
      simp only [aAct] at hA
      refine aW_lds C hd hA hl hR hS kk (fun v ht hg k => ?_)
      obtain ⟨x, rfl⟩ := aIsI_inv ht
      exact lv_iload hx hb hd hg k
    case lload_n i =>
      simp only [aLenOK, beq_iff_eq] at hn
      subst hn
      simp only [aAct] at hA
      refine aW_lds C hd hA hl hR hS kk (fun v ht hg k => ?_)
      obtain ⟨x, rfl⟩ := aIsJ_inv ht
      exact lv_lload_n hx hb hd rfl hg k
    case lload i =>
      simp only [aLenOK, beq_iff_eq] at hn
      subst hn
      simp only [aAct] at hA
      refine aW_lds C hd hA hl hR hS kk (fun v ht hg k => ?_)
      obtain ⟨x, rfl⟩ := aIsJ_inv ht
      exact lv_lload hx hb hd hg k
    case aload_n i =>
      simp only [aLenOK, beq_iff_eq] at hn
      subst hn
      simp only [aAct] at hA
      refine aW_lds C hd hA hl hR hS kk (fun v ht hg k => ?_)
      rcases aRef_inv ht with rfl | ⟨x, rfl⟩
      · exact lv_aload_nN hx hb hd rfl hg k
      · exact lv_aload_n hx hb hd rfl hg k
    case aload i =>
      simp only [aLenOK, beq_iff_eq] at hn
      subst hn
      simp only [aAct] at hA
      refine aW_lds C hd hA hl hR hS kk (fun v ht hg k => ?_)
      rcases aRef_inv ht with rfl | ⟨x, rfl⟩
      · exact lv_aloadN hx hb hd hg k
      · exact lv_aload hx hb hd hg k
    case istore_n i =>
      simp only [aLenOK, beq_iff_eq] at hn
      subst hn
      simp only [aAct] at hA
      refine aW_sts C hA hl hR hS kk (fun v r lv hst ht h1 h2 k => ?_)
      obtain ⟨x, rfl⟩ := aIsI_inv ht
      exact lv_istore_n hx hb hd rfl h1 h2 rfl k
    case istore i =>
      simp only [aLenOK, beq_iff_eq] at hn
      subst hn
      simp only [aAct] at hA
      refine aW_sts C hA hl hR hS kk (fun v r lv hst ht h1 h2 k => ?_)
      obtain ⟨x, rfl⟩ := aIsI_inv ht
      exact lv_istore hx hb hd h1 h2 rfl k
    case astore_n i =>
      simp only [aLenOK, beq_iff_eq] at hn
      subst hn
      simp only [aAct] at hA
      refine aW_sts C hA hl hR hS kk (fun v r lv hst ht h1 h2 k => ?_)
      rcases aRef_inv ht with rfl | ⟨x, rfl⟩
      · exact lv_astore_nN hx hb hd rfl h1 h2 rfl k
      · exact lv_astore_n hx hb hd rfl h1 h2 rfl k
    case astore i =>
      simp only [aLenOK, beq_iff_eq] at hn
      subst hn
      simp only [aAct] at hA
      refine aW_sts C hA hl hR hS kk (fun v r lv hst ht h1 h2 k => ?_)
      rcases aRef_inv ht with rfl | ⟨x, rfl⟩
      · exact lv_astoreN hx hb hd h1 h2 rfl k
      · exact lv_astore hx hb hd h1 h2 rfl k
    case lstore_n i =>
      simp only [aLenOK, beq_iff_eq] at hn
      subst hn
      simp only [aAct] at hA
      refine aW_sts2 C hA hl hR hS kk (fun v r lv hst h1 h2 k => ?_)
      exact lv_lstore_n hx hb hd rfl h1 h2 rfl k
    case lstore i =>
      simp only [aLenOK, beq_iff_eq] at hn
      subst hn
      simp only [aAct] at hA
      refine aW_sts2 C hA hl hR hS kk (fun v r lv hst h1 h2 k => ?_)
      exact lv_lstore hx hb hd h1 h2 rfl k
    case iinc i k =>
      simp only [aLenOK, beq_iff_eq] at hn
      subst hn
      simp only [aAct] at hA
      split at hA
      · rename_i x hxi
        obtain ⟨rfl, rfl, rfl, rfl⟩ := aGo_inv hA
        obtain ⟨hlen, lv, h1, hm⟩ := id hl
        obtain ⟨kx, hkx⟩ := List.getElem?_of_mem (hm _ _ hxi)
        have hi := (List.getElem?_eq_some_iff.mp hxi).1
        exact lv_iinc hx hb hd h1 hkx rfl (by omega) rfl (fun arr2 h2 => kk _ _ _ (aLs.s1 hlen hm (by omega) h2) hR hS)
      · cases hA
    case iadd =>
      simp only [aLenOK, beq_iff_eq] at hn
      subst hn
      simp only [aAct] at hA
      obtain ⟨x, y, r, rfl, rfl, rfl, rfl, rfl⟩ := aB2_inv hA
      exact lv_iadd hx hb hd (kk _ _ _ hl hR hS)
    case isub =>
      simp only [aLenOK, beq_iff_eq] at hn
      subst hn
      simp only [aAct] at hA
      obtain ⟨x, y, r, rfl, rfl, rfl, rfl, rfl⟩ := aB2_inv hA
      exact lv_isub hx hb hd (kk _ _ _ hl hR hS)
    case imul =>
      simp only [aLenOK, beq_iff_eq] at hn
      subst hn
      simp only [aAct] at hA
      obtain ⟨x, y, r, rfl, rfl, rfl, rfl, rfl⟩ := aB2_inv hA
      exact lv_imul hx hb hd (kk _ _ _ hl hR hS)
    case iand =>
      simp only [aLenOK, beq_iff_eq] at hn
      subst hn
      simp only [aAct] at hA
      obtain ⟨x, y, r, rfl, rfl, rfl, rfl, rfl⟩ := aB2_inv hA
      exact lv_iand hx hb hd (kk _ _ _ hl hR hS)
    case ior =>
      simp only [aLenOK, beq_iff_eq] at hn
      subst hn
      simp only [aAct] at hA
      obtain ⟨x, y, r, rfl, rfl, rfl, rfl, rfl⟩ := aB2_inv hA
      exact lv_ior hx hb hd (kk _ _ _ hl hR hS)
    case ixor =>
      simp only [aLenOK, beq_iff_eq] at hn
      subst hn
      simp only [aAct] at hA
      obtain ⟨x, y, r, rfl, rfl, rfl, rfl, rfl⟩ := aB2_inv hA
      exact lv_ixor hx hb hd (kk _ _ _ hl hR hS)
    case ishl =>
      simp only [aLenOK, beq_iff_eq] at hn
      subst hn
      simp only [aAct] at hA
      obtain ⟨x, y, r, rfl, rfl, rfl, rfl, rfl⟩ := aB2_inv hA
      exact lv_ishl hx hb hd (kk _ _ _ hl hR hS)
    case ishr =>
      simp only [aLenOK, beq_iff_eq] at hn
      subst hn
      simp only [aAct] at hA
      obtain ⟨x, y, r, rfl, rfl, rfl, rfl, rfl⟩ := aB2_inv hA
      exact lv_ishr hx hb hd (kk _ _ _ hl hR hS)
    case iushr =>
      simp only [aLenOK, beq_iff_eq] at hn
      subst hn
      simp only [aAct] at hA
      obtain ⟨x, y, r, rfl, rfl, rfl, rfl, rfl⟩ := aB2_inv hA
      exact lv_iushr hx hb hd rfl (kk _ _ _ hl hR hS)
    case land =>
      simp only [aLenOK, beq_iff_eq] at hn
      subst hn
      simp only [aAct] at hA
      obtain ⟨x, y, r, rfl, rfl, rfl, rfl, rfl⟩ := aB2J_inv hA
      exact lv_land hx hb hd (kk _ _ _ hl hR hS)
    case lor =>
      simp only [aLenOK, beq_iff_eq] at hn
      subst hn
      simp only [aAct] at hA
      obtain ⟨x, y, r, rfl, rfl, rfl, rfl, rfl⟩ := aB2J_inv hA
      exact lv_lor hx hb hd (kk _ _ _ hl hR hS)
    case idiv =>
      simp only [aLenOK, beq_iff_eq] at hn
      subst hn
      simp only [aAct] at hA
      split at hA
      · split at hA
        · cases hA
        · rename_i hy
          obtain ⟨rfl, rfl, rfl, rfl⟩ := aGo_inv hA
          exact lv_idiv hx hb hd hy (kk _ _ _ hl hR hS)
      · cases hA
    case irem =>
      simp only [aLenOK, beq_iff_eq] at hn
      subst hn
      simp only [aAct] at hA
      split at hA
      · split at hA
        · cases hA
        · rename_i hy
          obtain ⟨rfl, rfl, rfl, rfl⟩ := aGo_inv hA
          exact lv_irem hx hb hd hy (kk _ _ _ hl hR hS)
      · cases hA
    case lshl =>
      simp only [aLenOK, beq_iff_eq] at hn
      subst hn
      simp only [aAct] at hA
      split at hA
      · obtain ⟨rfl, rfl, rfl, rfl⟩ := aGo_inv hA
        exact lv_lshl hx hb hd rfl (kk _ _ _ hl hR hS)
      · cases hA
    case lushr =>
      simp only [aLenOK, beq_iff_eq] at hn
      subst hn
      simp only [aAct] at hA
      split at hA
      · obtain ⟨rfl, rfl, rfl, rfl⟩ := aGo_inv hA
        exact lv_lushr hx hb hd rfl (kk _ _ _ hl hR hS)
      · cases hA
    case lcmp =>
      simp only [aLenOK, beq_iff_eq] at hn
      subst hn
      simp only [aAct] at hA
      split at hA
      · obtain ⟨rfl, rfl, rfl, rfl⟩ := aGo_inv hA
        exact W.lcmp hx hb hd (kk _ _ _ hl hR hS)
      · cases hA
    case i2l =>
      simp only [aLenOK, beq_iff_eq] at hn
      subst hn
      simp only [aAct] at hA
      split at hA
      · obtain ⟨rfl, rfl, rfl, rfl⟩ := aGo_inv hA
        exact lv_i2l hx hb hd rfl (kk _ _ _ hl hR hS)
      · cases hA
    case l2i =>
      simp only [aLenOK, beq_iff_eq] at hn
      subst hn
      simp only [aAct] at hA
      split at hA
      · obtain ⟨rfl, rfl, rfl, rfl⟩ := aGo_inv hA
        exact lv_l2i hx hb hd rfl (kk _ _ _ hl hR hS)
      · cases hA
    case dup =>
      simp only [aLenOK, beq_iff_eq] at hn
      subst hn
      simp only [aAct] at hA
      split at hA
      · split at hA
        · rename_i hv
          obtain ⟨rfl, rfl, rfl, rfl⟩ := aGo_inv hA
          exact lv_dup hx hb hd hv (kk _ _ _ hl hR hS)
        · cases hA
      · cases hA
    case pop =>
      simp only [aLenOK, beq_iff_eq] at hn
      subst hn
      simp only [aAct] at hA
      split at hA
      · split at hA
        · rename_i hv
          obtain ⟨rfl, rfl, rfl, rfl⟩ := aGo_inv hA
          exact lv_pop hx hb hd hv (kk _ _ _ hl hR hS)
        · cases hA
      · cases hA
    case dup2 =>
      simp only [aLenOK, beq_iff_eq] at hn
      subst hn
      simp only [aAct] at hA
      split at hA
      · split at hA
        · rename_i hv
          obtain ⟨rfl, rfl, rfl, rfl⟩ := aGo_inv hA
          exact lv_dup2_11 hx hb hd hv.1 hv.2 (kk _ _ _ hl hR hS)
        · cases hA
      · cases hA
    case ifCond cc off =>
      simp only [aLenOK, beq_iff_eq] at hn
      subst hn
      simp only [aAct] at hA
      split at hA
      · obtain ⟨ht, hp, rfl, rfl, rfl⟩ := aBr_inv hA
        have hk2 := aBr_use (P := fun q => aW p l e R s m args below meth cd h0 s0 Z H locs σ' q arr st') hp (kk _ _ _ hl hR hS)
        cases cc
        · exact lv_if_eq hx hb hd ht (fun hcc => hk2.1 (by simp [aCmp, hcc])) (fun hcc => hk2.2 (by simp [aCmp, hcc]))
        · exact lv_if_ne hx hb hd ht (fun hcc => hk2.1 (by simp [aCmp, hcc])) (fun hcc => hk2.2 (by simp [aCmp, hcc]))
        · exact lv_if_lt hx hb hd ht (fun hcc => hk2.1 (by simp [aCmp, hcc])) (fun hcc => hk2.2 (by simp [aCmp, hcc]))
        · exact lv_if_ge hx hb hd ht (fun hcc => hk2.1 (by simp [aCmp, hcc])) (fun hcc => hk2.2 (by simp [aCmp, hcc]))
        · exact lv_if_gt hx hb hd ht (fun hcc => hk2.1 (by simp [aCmp, hcc])) (fun hcc => hk2.2 (by simp [aCmp, hcc]))
        · exact lv_if_le hx hb hd ht (fun hcc => hk2.1 (by simp [aCmp, hcc])) (fun hcc => hk2.2 (by simp [aCmp, hcc]))
      · cases hA
    case if_icmp cc off =>
      simp only [aLenOK, beq_iff_eq] at hn
      subst hn
      simp only [aAct] at hA
      split at hA
      · obtain ⟨ht, hp, rfl, rfl, rfl⟩ := aBr_inv hA
        have hk2 := aBr_use (P := fun q => aW p l e R s m args below meth cd h0 s0 Z H locs σ' q arr st') hp (kk _ _ _ hl hR hS)
        cases cc
        · exact lv_icmp_eq hx hb hd ht (fun hcc => hk2.1 (by simp [aCmp, hcc])) (fun hcc => hk2.2 (by simp [aCmp, hcc]))
        · exact lv_icmp_ne hx hb hd ht (fun hcc => hk2.1 (by simp [aCmp, hcc])) (fun hcc => hk2.2 (by simp [aCmp, hcc]))
        · exact lv_icmp_lt hx hb hd ht (fun hcc => hk2.1 (by simp [aCmp, hcc])) (fun hcc => hk2.2 (by simp [aCmp, hcc]))
        · exact lv_icmp_ge hx hb hd ht (fun hcc => hk2.1 (by simp [aCmp, hcc])) (fun hcc => hk2.2 (by simp [aCmp, hcc]))
        · exact lv_icmp_gt hx hb hd ht (fun hcc => hk2.1 (by simp [aCmp, hcc])) (fun hcc => hk2.2 (by simp [aCmp, hcc]))
        · exact lv_icmp_le hx hb hd ht (fun hcc => hk2.1 (by simp [aCmp, hcc])) (fun hcc => hk2.2 (by simp [aCmp, hcc]))
      · cases hA
    case ifnull off =>
      simp only [aLenOK, beq_iff_eq] at hn
      subst hn
      simp only [aAct] at hA
      split at hA
      · obtain ⟨ht, hp, rfl, rfl, rfl⟩ := aBr_inv hA
        rw [if_pos rfl] at hp
        subst hp
        exact lv_ifnullN hx hb hd ht (kk _ _ _ hl hR hS)
      · obtain ⟨ht, hp, rfl, rfl, rfl⟩ := aBr_inv hA
        rw [if_neg (by decide)] at hp
        subst hp
        exact lv_ifnull hx hb hd (kk _ _ _ hl hR hS)
      · cases hA
    case ifnonnull off =>
      simp only [aLenOK, beq_iff_eq] at hn
      subst hn
      simp only [aAct] at hA
      split at hA
      · obtain ⟨ht, hp, rfl, rfl, rfl⟩ := aBr_inv hA
        rw [if_neg (by decide)] at hp
        subst hp
        exact lv_ifnonnullN hx hb hd (kk _ _ _ hl hR hS)
      · obtain ⟨ht, hp, rfl, rfl, rfl⟩ := aBr_inv hA
        rw [if_pos rfl] at hp
        subst hp
        exact lv_ifnonnull hx hb hd ht (kk _ _ _ hl hR hS)
      · cases hA
    case goto off =>
      simp only [aLenOK, beq_iff_eq] at hn
      subst hn
      simp only [aAct] at hA
      obtain ⟨ht, rfl, rfl, rfl, rfl⟩ := aSw_inv hA
      exact lv_goto hx hb hd ht (kk _ _ _ hl hR hS)
    case tableswitch df tlo thi offs =>
      simp only [aAct] at hA
      split at hA
      · split at hA
        · rename_i hx1
          obtain ⟨ht, rfl, rfl, rfl, rfl⟩ := aSw_inv hA
          exact lv_tableOut hx hb hd hx1 ht (kk _ _ _ hl hR hS)
        · rename_i hx1
          split at hA
          · rename_i off ho
            obtain ⟨ht, rfl, rfl, rfl, rfl⟩ := aSw_inv hA
            exact lv_tableIn hx hb hd (fun z => hx1 (Or.inl z)) (fun z => hx1 (Or.inr z)) ho ht (kk _ _ _ hl hR hS)
          · cases hA
      · cases hA
    case lookupswitch df ps =>
      simp only [aAct] at hA
      split at hA
      · split at hA
        · rename_i hx1
          obtain ⟨ht, rfl, rfl, rfl, rfl⟩ := aSw_inv hA
          exact lv_lookup hx hb hd hx1 rfl ht (kk _ _ _ hl hR hS)
        · cases hA
      · cases hA
    case getfield i =>
      simp only [aLenOK, beq_iff_eq] at hn
      subst hn
      simp only [aAct] at hA
      exact aW_getf C hd hA hl hR hS kk
    case putfield i =>
      simp only [aLenOK, beq_iff_eq] at hn
      subst hn
      simp only [aAct] at hA
      exact aW_putf C hd hA hl hR hS kk
    case iaload =>
      simp only [aLenOK, beq_iff_eq] at hn
      subst hn
      simp only [aAct] at hA
      exact aW_iald C hd hA hl hR hS kk
    case iastore =>
      simp only [aLenOK, beq_iff_eq] at hn
      subst hn
      simp only [aAct] at hA
      exact aW_iast C hd hA hl hR hS kk
    case aaload =>
      simp only [aLenOK, beq_iff_eq] at hn
      subst hn
      simp only [aAct] at hA
      exact aW_aald C hd hA hl hR hS kk
    case aastore =>
      simp only [aLenOK, beq_iff_eq] at hn
      subst hn
      simp only [aAct] at hA
      exact aW_aast C hd hA hl hR hS kk
    case arraylength =>
      simp only [aLenOK, beq_iff_eq] at hn
      subst hn
      simp only [aAct] at hA
      exact aW_alen C hd hA hl hR hS kk
    case newarray t =>
      simp only [aLenOK, beq_iff_eq] at hn
      subst hn
      exact aW_newa C hd hA hl hR hS hh hc' kk
    case anewarray i =>
      simp only [aLenOK, beq_iff_eq] at hn
      subst hn
      exact aW_anew C hd hA hl hR hS hh hc' kk
    case new i =>
      simp only [aLenOK, beq_iff_eq] at hn
      subst hn
      exact aW_new C hd hA hl hR hS hh hc' kk
    case invokevirtual i =>
      simp only [aAct] at hA
      split at hA
      · split at hA
        · exact absurd hA aDo_not
        · cases hA
      · cases hA
    case invokespecial i =>
      simp only [aLenOK, beq_iff_eq] at hn
      subst hn
      simp only [aAct] at hA
      split at hA
      · rename_i t k w hlM
        split at hA
        · exact absurd hA aDo_not
        · split at hA
          · rename_i hk5
            obtain ⟨a, r, rfl, h4, rfl, rfl, rfl, rfl⟩ := aObj_inv hA
            obtain ⟨g1, g2⟩ := (lM_ok _ (aLk_mem _ _ _ _ hlM)).2.2.1 hk5
            have h8 := aCats8 h4
            exact W.objInit hx hb hown (hts _ (aTbl_in g1 g2)) (hts _ (aTbl_in aW_objI.1 aW_objI.2)) (hts _ (aTbl_in aW_objC.1 aW_objC.2)) rfl (by rw [hml]; exact hl.size) rfl hd hfr (by show 2 * 0 + _ + 12 ≤ _; omega) (kk _ _ _ hl hR hS)
          · cases hA
      · cases hA
    case invokestatic i =>
      simp only [aLenOK, beq_iff_eq] at hn
      subst hn
      simp only [aAct] at hA
      split at hA
      · rename_i t k w hlM
        split at hA
        · exact absurd hA aDo_not
        · split at hA
          · rename_i hk6
            obtain ⟨g1, g2⟩ := (lM_ok _ (aLk_mem _ _ _ _ hlM)).2.2.2.1 hk6
            exact aW_copy C hfr hlo hd (aTbl_in g1 g2) hA hl hR hS kk
          · split at hA
            · rename_i hk7
              obtain ⟨g1, g2⟩ := (lM_ok _ (aLk_mem _ _ _ _ hlM)).2.2.2.2.1 hk7
              obtain ⟨x, y, r, rfl, h4, rfl, rfl, rfl, rfl⟩ := aMin_inv hA
              have h8 := aCats8 h4
              exact va_mmin hx hb (by rw [hml]; exact hl.size.symm) hown (hts _ (aTbl_in g1 g2)) (hts _ (aTbl_in aW_mmS.1 aW_mmS.2)) (hts _ (aTbl_in aW_mmI.1 aW_mmI.2)) (hts _ (aTbl_in aW_mmC.1 aW_mmC.2)) hfr (by omega) hc.1 hc.2 hd (kk _ _ _ hl hR hS)
            · cases hA
      · cases hA
    case ireturn =>
      simp only [aAct] at hA
      split at hA
      · split at hA <;> cases hA
      · cases hA
    case areturn =>
      simp only [aAct] at hA
      split at hA
      · split at hA <;> cases hA
      · cases hA
    case return_ =>
      simp only [aAct] at hA
      split at hA
      · split at hA <;> cases hA
      · cases hA
    all_goals (simp only [aAct] at hA; cases hA)
  · cases hA
end AST2
end
section
/-! A WHOLE RUN: what the small machine does, the machine does -/
section AUP
variable {mi pc : Nat} {ls : aL} {st : List Value} {σ : aS}
set_option maxHeartbeats 4000000 in
theorem aAct_up {I : Instr} {x : Nat × aL × List Value × aS} (hA : aAct mi pc I ls st σ = some (.inl x)) : σ.2.1 ≤ x.2.2.2.2.1 ∧ σ.2.2 ≤ x.2.2.2.2.2 := by
  cases I
  all_goals (simp only [aAct, aLd, aS1, aS2, aB2, aB2J, aBr, aSw, aGo, aGetF, aPutF, aIld, aIst, aQld, aQst, aLen, aCpy, aMin, aObj] at hA)
  all_goals (try (repeat' split at hA))
  all_goals (first
    | (exact absurd hA aDo_not)
    | (simp only [Option.some.injEq, Sum.inl.injEq] at hA; subst hA; first | exact ⟨Nat.le_refl _, Nat.le_refl _⟩ | exact ⟨Nat.le_succ _, Nat.le_add_right _ _⟩)
    | (cases hA; done))
theorem aDo_ret {t : Nat} {rv : Bool} {x} : aDo t pc rv st σ ≠ some (.inr (.inl x)) := by
  intro h
  unfold aDo at h
  split at h
  · split at h
    · split at h
      · split at h <;> cases h
      · cases h
    · split at h <;> cases h
    · cases h
  · cases h
set_option maxHeartbeats 4000000 in
theorem aAct_ret {I : Instr} {r : Option Value} {σ' : aS} (hA : aAct mi pc I ls st σ = some (.inr (.inl (r, σ')))) : σ' = σ ∧ ((I = .ireturn ∧ ∃ v, st = [.int v] ∧ r = some (.int v) ∧ (aRet mi = some .int ∨ (aRet mi = some .boolean ∧ narrow .boolean (.int v) = .int v))) ∨ (I = .areturn ∧ ∃ v n, st = [v] ∧ r = some v ∧ aRef v = true ∧ aRet mi = some (.object n)) ∨ (I = .return_ ∧ st = [] ∧ r = none ∧ aRet mi = none)) := by
  cases I
  case ireturn =>
    simp only [aAct] at hA
    split at hA
    · split at hA
      · rename_i hv
        cases hA
        exact ⟨rfl, Or.inl ⟨rfl, _, rfl, rfl, hv⟩⟩
      · cases hA
    · cases hA
  case areturn =>
    simp only [aAct] at hA
    split at hA
    · rename_i hq
      split at hA
      · rename_i hv
        cases hA
        exact ⟨rfl, Or.inr (Or.inl ⟨rfl, _, _, rfl, rfl, hv, hq⟩)⟩
      · cases hA
    · cases hA
  case return_ =>
    simp only [aAct] at hA
    split at hA
    · split at hA
      · rename_i hv
        cases hA
        exact ⟨rfl, Or.inr (Or.inr ⟨rfl, rfl, rfl, hv⟩)⟩
      · cases hA
    · cases hA
  all_goals (simp only [aAct, aLd, aS1, aS2, aB2, aB2J, aBr, aSw, aGo, aGetF, aPutF, aIld, aIst, aQld, aQst, aLen, aCpy, aMin, aObj] at hA)
  all_goals (try (repeat' split at hA))
  all_goals (first | (exact absurd hA aDo_ret) | (cases hA; done))
/-- a call, read backwards -/
def aRecv (t : Nat) (st : List Value) (σ : aS) (L : aL) (rest : List Value) : Prop := ∃ b fs, st = st.take (aArg t) ++ .ref b :: rest ∧ (st.take (aArg t)).length = aArg t ∧ σ.1 b = some (eO (aOwn t) fs) ∧ L = aentry (aMax t) (.ref b :: (st.take (aArg t)).reverse) ∧ (aargs (.ref b :: (st.take (aArg t)).reverse)).length ≤ aMax t
def aStat (t : Nat) (st : List Value) (L : aL) (rest : List Value) : Prop := st = st.take (aArg t) ++ rest ∧ (st.take (aArg t)).length = aArg t ∧ L = aentry (aMax t) (st.take (aArg t)).reverse ∧ (aargs (st.take (aArg t)).reverse).length ≤ aMax t
theorem aDo_inv {t t2 pc' : Nat} {rv : Bool} {L : aL} {rest : List Value} (h : aDo t pc rv st σ = some (.inr (.inr (t2, L, pc', rest)))) : t2 = t ∧ pc' = pc + 3 ∧ rest.length ≤ 4 ∧ ((rv = true ∧ aRecv t st σ L rest) ∨ (rv = false ∧ aStat t st L rest)) := by
  unfold aDo at h
  split at h
  · rename_i h4
    have htk : (st.take (aArg t)).length = aArg t := by rw [List.length_take]; omega
    split at h
    · rename_i b rest2 hdr
      split at h
      · rename_i ci fs hb
        split at h
        · rename_i hci
          cases h
          obtain ⟨rfl, hlen⟩ := hci
          have hst : st = st.take (aArg t) ++ .ref b :: rest := by rw [← hdr, List.take_append_drop]
          refine ⟨rfl, rfl, ?_, Or.inl ⟨rfl, b, fs, hst, htk, hb, rfl, hlen⟩⟩
          have := h4.1
          rw [hdr, List.length_cons] at this
          omega
        · cases h
      · cases h
    · split at h
      · rename_i hlen
        cases h
        exact ⟨rfl, rfl, h4.1, Or.inr ⟨rfl, (List.take_append_drop _ _).symm, htk, rfl, hlen⟩⟩
      · cases h
    · cases h
  · cases h
set_option maxHeartbeats 4000000 in
theorem aAct_call {I : Instr} {t pc' : Nat} {L : aL} {rest : List Value} (hA : aAct mi pc I ls st σ = some (.inr (.inr (t, L, pc', rest)))) : pc' = pc + 3 ∧ rest.length ≤ 4 ∧ ∃ i k w, aLk lM (aOwn mi) i = some (t, k, w) ∧ ((I = .invokevirtual i ∧ k = 0 ∧ aRecv t st σ L rest) ∨ (I = .invokespecial i ∧ (k = 2 ∨ k = 3) ∧ aRecv t st σ L rest) ∨ (I = .invokestatic i ∧ (k = 1 ∨ k = 4) ∧ aStat t st L rest)) := by
  cases I
  case invokevirtual i =>
    simp only [aAct] at hA
    split at hA
    · rename_i t2 k w hl
      split at hA
      · rename_i hk
        obtain ⟨rfl, rfl, h4, h⟩ := aDo_inv hA
        rcases h with ⟨-, h⟩ | ⟨h, -⟩
        · exact ⟨rfl, h4, i, k, w, hl, Or.inl ⟨rfl, hk, h⟩⟩
        · cases h
      · cases hA
    · cases hA
  case invokespecial i =>
    simp only [aAct] at hA
    split at hA
    · rename_i t2 k w hl
      split at hA
      · rename_i hk
        obtain ⟨rfl, rfl, h4, h⟩ := aDo_inv hA
        rcases h with ⟨-, h⟩ | ⟨h, -⟩
        · exact ⟨rfl, h4, i, k, w, hl, Or.inr (Or.inl ⟨rfl, hk, h⟩)⟩
        · cases h
      · simp only [aObj, aGo] at hA
        repeat' split at hA
        all_goals cases hA
    · cases hA
  case invokestatic i =>
    simp only [aAct] at hA
    split at hA
    · rename_i t2 k w hl
      split at hA
      · rename_i hk
        obtain ⟨rfl, rfl, h4, h⟩ := aDo_inv hA
        rcases h with ⟨h, -⟩ | ⟨-, h⟩
        · cases h
        · exact ⟨rfl, h4, i, k, w, hl, Or.inr (Or.inr ⟨rfl, hk, h⟩)⟩
      · simp only [aCpy, aMin, aGo] at hA
        repeat' split at hA
        all_goals cases hA
    · cases hA
  all_goals (simp only [aAct, aLd, aS1, aS2, aB2, aB2J, aBr, aSw, aGo, aGetF, aPutF, aIld, aIst, aQld, aQst, aLen, aCpy, aMin, aObj] at hA)
  all_goals (try (repeat' split at hA))
  all_goals (cases hA; done)
end AUP
def aUp (call : aC) : Prop := ∀ (t : Nat) (L : aL) (σ : aS) (Q : aQ), call t L σ Q → ∃ r s, Q r s ∧ σ.2.1 ≤ s.2.1 ∧ σ.2.2 ≤ s.2.2
theorem aRun_up {call : aC} (h : aUp call) (mi : Nat) : ∀ (n pc : Nat) (ls : aL) (st : List Value) (σ : aS) (Q : aQ), aRun call mi n pc ls st σ Q → ∃ r s, Q r s ∧ σ.2.1 ≤ s.2.1 ∧ σ.2.2 ≤ s.2.2
  | 0, _, _, _, _, _, hr => hr.elim
  | n + 1, pc, ls, st, σ, Q, hr => by
    unfold aRun at hr
    split at hr
    · rename_i x hx
      obtain ⟨r, s, hq, h1, h2⟩ := aRun_up h mi n _ _ _ _ _ hr
      unfold aAt at hx
      split at hx
      · obtain ⟨g1, g2⟩ := aAct_up hx
        exact ⟨r, s, hq, Nat.le_trans g1 h1, Nat.le_trans g2 h2⟩
      · cases hx
    · rename_i x hx
      unfold aAt at hx
      split at hx
      · obtain ⟨r, s⟩ := x
        obtain ⟨rfl, -⟩ := aAct_ret hx
        exact ⟨r, _, hr, Nat.le_refl _, Nat.le_refl _⟩
      · cases hx
    · obtain ⟨r, s, hq, h1, h2⟩ := h _ _ _ _ hr
      obtain ⟨r2, s2, hq2, h3, h4⟩ := aRun_up h mi n _ _ _ _ _ hq
      exact ⟨r2, s2, hq2, Nat.le_trans h1 h3, Nat.le_trans h2 h4⟩
    · exact hr.elim
theorem aCall_up : ∀ d, aUp (aCall d)
  | 0 => fun _ _ _ _ h => h.elim
  | d + 1 => fun mi L σ Q h => by
    obtain ⟨n, hn⟩ := h
    exact aRun_up (aCall_up d) mi n _ _ _ _ _ hn
-- contracts
def aWs (t : Nat) : List Cond := Cond.code (aRec t).1 (aRec t).2.1 (aRec t).2.2.1 (aRec t).2.2.2.1 :: aTbl
def aRoom (d mc ms : Nat) : Room := { frames := d + 1, cells := mc, slots := ms, locals := 35 * (d + 1) }
def aPc (D : va_G) (c : Nat → ClassId) (lo : Nat) (σ : aS) (vs : List Value) : Array Value → State → Prop := va_Pc vs (fun U => aRel D c lo U σ U.heap ∧ aFix D c U)
def aQc' (D : va_G) (c : Nat → ClassId) (lo : Nat) (r : Option Value) (σ : aS) : Array Value → State → Outcome → State → Prop := fun _ st o t => o = .returned r ∧ aRel D c lo t σ t.heap ∧ va_F (fun q : Nat => lo ≤ q) st t
def aMetAt (l : Launch) (D : va_G) (c : Nat → ClassId) (lo d : Nat) : Prop := ∀ (t : Nat), t < aMethsC.length → ∀ (vs : List Value) (σ : aS) (r : Option Value) (σ2 : aS), aX d t 0 (aentry (aMax t) vs) [] σ (fun r' s' => r' = r ∧ s' = σ2) → (aargs vs).length ≤ aMax t →
  Met l (aRec t).1 (aWs t) (aRoom d (σ2.2.1 - σ.2.1) (σ2.2.2 - σ.2.2)) (aPc D c lo σ vs) (aQc' D c lo r σ2) (σ2.2.1 - σ.2.1) (σ2.2.2 - σ.2.2) (fun q : Nat => lo ≤ q)
theorem aPc_blind (D : va_G) (c : Nat → ClassId) (lo : Nat) (σ : aS) (vs : List Value) : FrameBlind (aPc D c lo σ vs) := fun a U g mk h =>
  ⟨h.1, h.2.1.moved (U := U.calling g mk a) (Vm.Alike.refl U.vm), h.2.2.same (U := U.calling g mk a) rfl⟩
theorem aRec_mem {t : Nat} (h : t < aMethsC.length) : aRec t ∈ aMethsC := by
  have h2 : aMethsC.length ≤ aMeths.length := by decide +kernel
  have hm : t < aMeths.length := Nat.lt_of_lt_of_le h h2
  have e2 : aRec t = aMeths[t] := by unfold aRec; rw [List.getD_eq_getElem?_getD, List.getElem?_eq_getElem hm]; rfl
  have e3 : aMethsC[t]? = aMeths[t]? := by
    unfold aMethsC
    rw [List.getElem?_take, if_pos]
    unfold aMethsC at h
    rw [List.length_take] at h
    omega
  rw [e2]
  exact List.mem_of_getElem? (by rw [e3]; exact List.getElem?_eq_getElem hm)
theorem aCls_all : ∀ t ∈ aMethsC, t.1.cls = aClass t.2.2.2.2.1 ∧ (t.2.2.2.2.2.2.1 ≠ 1 → t.2.2.2.2.1 < 8 ∧ t.1.cls = (aNw t.2.2.2.2.1).1) ∧ plainName t.1.cls = true := by decide +kernel
theorem aGood_in (t : Nat) (h : t < aMethsC.length) : GoodIn aTbl (aWs t) := by
  intro w hw
  have hM := aMs_ok _ (aRec_mem h)
  rcases List.mem_cons.mp hw with rfl | hw
  · exact ⟨aTbl_in hM.1 hM.2.1, good_of_word hM.2.1⟩
  · exact ⟨hw, good_of_word (List.mem_filter.mp hw).2⟩
theorem aRm {x d n : Nat} (h : x ≤ 16) (h2 : 35 * (d + 2) ≤ n) : 8 + (x + 11) + 35 * (d + 1) ≤ n := by omega
section AWC
variable {p : Program} {l : Launch} {e : Env} {R : Room} {s : State} {m : MethodId} {args : Array Value} {below : List Frame} {meth : Method} {cd : Code} {H : Heap} {locs : List Loc} {Z : State → Prop}
variable {D : va_G} {c : Nat → ClassId} {lo mi h0 s0 : Nat} {arr : Array Slot} {pc : Nat} {ls : aL} {st : List Value} {σ : aS}
theorem aW_run1 {cells slots mc ms : Nat} {rest : List Value} {r : Option Value} {σ2 : aS} {a : Array Value} (hr : va_Run p l e R s m args below meth cd H locs cells slots mc ms (F0 m pc arr st) rest (aQc' D c lo r σ2 a) (fun q : Nat => lo ≤ q)) (hS : va_S (fun q : Nat => lo ≤ q) s.heap H locs)
    (kk : ∀ (H1 : Heap) (locs1 : List Loc), aRel D c lo s σ2 H1 → va_S (fun q : Nat => lo ≤ q) s.heap H1 locs1 → W p l e R s m args below meth cd H1 locs1 (cells + mc) (slots + ms) Z (F0 m (pc + 3) arr (aret r rest))) : W p l e R s m args below meth cd H locs cells slots Z (F0 m pc arr st) := by
  intro T hT X
  obtain ⟨v, st₀, t, T', L, e0, X', hL, e1, e2, ⟨hv, hrel, hz, hk⟩, stp⟩ := hr T hT X
  cases hv
  rw [e0] at hz hk
  have ha : t.vm.Alike s.vm := by rw [← e2]; exact X'.warmed.alike.symm
  have hret : aret r rest = r.toList ++ rest := by cases r <;> rfl
  obtain ⟨t2, a1, b1⟩ := kk T'.heap (locs ++ L) (by rw [e1]; exact hrel.moved ha)
    ⟨Nat.le_trans hS.1 (by rw [e1]; exact hz), fun q h1 h2 => by rw [e1, hk q (Nat.lt_of_lt_of_le h1 hS.1) h2]; exact hS.2.1 q h1 h2, fun q hq => by
      rcases List.mem_append.mp hq with h | h
      · exact hS.2.2 q h
      · exact hL q h⟩ T' rfl X'
  rw [hret] at a1
  exact ⟨t2, stp t2 a1, b1⟩
theorem aW_call (C : aCtx D c p s args m meth cd mi) {d : Nat} (hM : aMetAt l D c lo d) (hfr : d + 2 ≤ R.frames) (hlo : 35 * (d + 2) ≤ R.locals) {t pc' : Nat} {L : aL} {rest : List Value} (hA : aAt mi pc ls st σ = some (.inr (.inr (t, L, pc', rest)))) (hl : aLs arr (aMax mi) ls) (hR : aRel D c lo s σ H) (hS : va_S (fun q : Nat => lo ≤ q) s.heap H locs)
    {r : Option Value} {σ2 : aS} (hX : aX d t 0 L [] σ (fun r' s' => r' = r ∧ s' = σ2)) (hh : h0 ≤ σ.2.1 ∧ s0 ≤ σ.2.2) (hu : σ.2.1 ≤ σ2.2.1 ∧ σ.2.2 ≤ σ2.2.2) (hc : σ2.2.1 - h0 ≤ R.cells ∧ σ2.2.2 - s0 ≤ R.slots)
    (kk : aKo D c lo mi p l e R s m args below meth cd h0 s0 Z pc' ls (aret r rest) σ2) : aW p l e R s m args below meth cd h0 s0 Z H locs σ pc arr st := by
  unfold aAt at hA
  split at hA
  · rename_i q hq
    obtain ⟨hd, hn⟩ := aCode_dec hq
    obtain ⟨I, n⟩ := q
    obtain ⟨hx, hb, hml, hown, hr, hts, hlk, hin, hF⟩ := id C
    have hfit : (σ.2.1 - h0) + (σ2.2.1 - σ.2.1) ≤ R.cells ∧ (σ.2.2 - s0) + (σ2.2.2 - σ.2.2) ≤ R.slots := by omega
    have hcc : σ2.2.1 - h0 = (σ.2.1 - h0) + (σ2.2.1 - σ.2.1) := by omega
    have hss : σ2.2.2 - s0 = (σ.2.2 - s0) + (σ2.2.2 - σ.2.2) := by omega
    obtain ⟨rfl, h4, i, k, w, hlM, hkind⟩ := aAct_call hA
    obtain ⟨hw1, hw2, -, -, -, -, hw3⟩ := lM_ok _ (aLk_mem _ _ _ _ hlM)
    have hk5 : k < 5 := by rcases hkind with ⟨-, rfl, -⟩ | ⟨-, rfl | rfl, -⟩ | ⟨-, rfl | rfl, -⟩ <;> decide
    obtain ⟨ht, hkd⟩ := hw3 hk5
    have htl : t < aMethsC.length := ht
    have hmem := aRec_mem htl
    have hMO := aMs_ok _ hmem
    have hCl := aCls_all _ hmem
    have hGI := aGood_in t htl
    have h8 := aCats8 h4
    obtain ⟨m1, m2, m3, m4, m5, m6, m7, m8, m9, m10, m11⟩ := hMO
    have hdd : (aRec t).1.cls ≠ "java/lang/invoke/MethodHandle" ∧ (aRec t).1.cls ≠ "java/lang/invoke/VarHandle" ∧ (parseMethodDescriptor (aRec t).1.desc).map (fun d => d.parameters.length) = some (aArg t) := ⟨m8, m9, m10⟩
    have hini : (Cond.initialized (aRec t).1.cls).before args s = true := hts _ (aTbl_in m6.1 m6.2)
    have hRm : (aRoom d (σ2.2.1 - σ.2.1) (σ2.2.2 - σ.2.2)).frames + 1 ≤ R.frames ∧ 8 + ((aRec t).2.2.1 + 11) + (aRoom d (σ2.2.1 - σ.2.1) (σ2.2.2 - σ.2.2)).locals ≤ R.locals := ⟨hfr, aRm m11 hlo⟩
    have hS5 : CallFix p m cd (aRec mi).2.1 (aMax mi) s args aTbl (aClass (aOwn mi)) := ⟨hx, hb, hml, hown, hts⟩
    have hkk : ∀ (H1 : Heap) (locs1 : List Loc), aRel D c lo s σ2 H1 → va_S (fun q : Nat => lo ≤ q) s.heap H1 locs1 → W p l e R s m args below meth cd H1 locs1 ((σ.2.1 - h0) + (σ2.2.1 - σ.2.1)) ((σ.2.2 - s0) + (σ2.2.2 - σ.2.2)) Z (F0 m (pc + 3) arr (aret r rest)) := by
      intro H1 locs1 g1 g2
      have kz := kk arr H1 locs1 hl g1 g2
      unfold aW at kz
      rw [hcc, hss] at kz
      exact kz
    have hkd2 : (aRec t).2.2.2.2.2.2.1 = (if k = 3 then 2 else if k = 4 then 1 else k) := hkd
    have hPS : ∀ vs : List Value, PreS s H (aPc D c lo σ vs) vs := fun vs => ⟨aPc_blind D c lo σ vs, fun U hU hW => ⟨rfl, by rw [hU]; exact hR.moved hW.alike, hF.warm hW⟩⟩
    have hrw : 2 * (F0 m pc arr st).monitorRoom + (rest.map fun v => v.category).sum ≤ 8 := lv_room h8
    rcases hkind with ⟨rfl, rfl, b, fs, hst, htk, hbc, rfl, hla⟩ | ⟨rfl, hk, b, fs, hst, htk, hbc, rfl, hla⟩ | ⟨rfl, hk, hst, htk, rfl, hla⟩
    · simp only [aLenOK, beq_iff_eq] at hn
      subst hn
      have hknd : (aRec t).2.2.2.2.2.2.1 = 0 := hkd2
      have hMet := hM t htl _ σ r σ2 hX hla
      obtain ⟨g1, g2⟩ := hw1 (Or.inl rfl)
      obtain ⟨g3, g4⟩ := hCl.2.1 (by rw [hknd]; decide)
      rw [if_neg (by rw [hknd]; decide)] at m3
      have hsel := m4 hknd
      refine aW_run1 (va_runV hS5 hMet ⟨callB_of (aArg t) hts hGI rfl rfl rfl hini (hts _ (aTbl_in g1 g2)) hdd hRm, hts _ (aTbl_in m3.1 m3.2), hts _ (aTbl_in hsel.1 hsel.2)⟩ ⟨aPc_blind _ _ _ _ _, ?_, (hPS _).2⟩ rfl (by rw [List.length_reverse]; exact htk) hl.size (by rw [List.reverse_reverse]; exact hst) hrw hd hfit) hS hkk
      have := va_recv (q0 := 0) (ws := [(b, .inr (aOwn t, fs))]) hF.1 (aP1 (hR.at hbc trivial).2.2) (aNw_at g3) rfl
      rw [g4]
      exact this
    · simp only [aLenOK, beq_iff_eq] at hn
      subst hn
      have hMet := hM t htl _ σ r σ2 hX hla
      have hknd : (aRec t).2.2.2.2.2.2.1 = 2 := by rw [hkd2]; rcases hk with rfl | rfl <;> rfl
      rw [if_neg (by rw [hknd]; decide)] at m3
      obtain ⟨hnm, hrt⟩ := m5 hknd
      have hws : aWs t = Cond.code (aRec t).1 (aRec t).2.1 (aRec t).2.2.1 none :: aTbl := by unfold aWs; rw [hrt]
      rcases hk with rfl | rfl
      · obtain ⟨g1, g2⟩ := hw1 (Or.inr (Or.inr rfl))
        exact aW_run1 (va_runI hS5 hMet ⟨callB_of (aArg t) hts hGI hws rfl rfl hini (hts _ (aTbl_in g1 g2)) hdd hRm, hnm, hts _ (aTbl_in m3.1 m3.2)⟩ (hPS _) rfl (by rw [List.length_reverse]; exact htk) hl.size (by rw [List.reverse_reverse]; exact hst) hrw hd hfit) hS hkk
      · have g1 := hF.2.1 _ (aLk_mem _ _ _ _ hlM) (Or.inl rfl)
        exact aW_run1 (va_runIN hS5 hMet ⟨va_cnB (aArg t) hts hGI hws rfl rfl g1 hini hdd hRm, hnm, hts _ (aTbl_in m3.1 m3.2)⟩ (hPS _) rfl (by rw [List.length_reverse]; exact htk) hl.size (by rw [List.reverse_reverse]; exact hst) hrw hd hfit) hS hkk
    · simp only [aLenOK, beq_iff_eq] at hn
      subst hn
      have hMet := hM t htl _ σ r σ2 hX hla
      have hknd : (aRec t).2.2.2.2.2.2.1 = 1 := by rw [hkd2]; rcases hk with rfl | rfl <;> rfl
      rw [if_pos hknd] at m3
      rcases hk with rfl | rfl
      · obtain ⟨g1, g2⟩ := hw1 (Or.inr (Or.inl rfl))
        exact aW_run1 (va_runS hS5 hMet ⟨callB_of (aArg t) hts hGI rfl rfl rfl hini (hts _ (aTbl_in g1 g2)) hdd hRm, hts _ (aTbl_in m3.1 m3.2)⟩ (hPS _) rfl (by rw [List.length_reverse]; exact htk) hl.size (by rw [List.reverse_reverse]; exact hst) hrw hd hfit) hS hkk
      · have g1 := hF.2.1 _ (aLk_mem _ _ _ _ hlM) (Or.inr rfl)
        exact aW_run1 (va_runSN hS5 hMet ⟨va_cnB (aArg t) hts hGI rfl rfl rfl g1 hini hdd hRm, hts _ (aTbl_in m3.1 m3.2), trivial⟩ (hPS _) rfl (by rw [List.length_reverse]; exact htk) hl.size (by rw [List.reverse_reverse]; exact hst) hrw hd hfit) hS hkk
  · cases hA
/-- a run from anywhere in a method: 'fin' says what its own end is worth -/
theorem aW_all (C : aCtx D c p s args m meth cd mi) {d : Nat} (hM : ∀ d', d = d' + 1 → aMetAt l D c lo d') (hfr : d + 1 ≤ R.frames) (hlo : 35 * (d + 1) ≤ R.locals) {r : Option Value} {σ2 : aS} (hc : σ2.2.1 - h0 ≤ R.cells ∧ σ2.2.2 - s0 ≤ R.slots)
    (fin : ∀ (pc : Nat) (ls : aL) (st : List Value) (arr : Array Slot) (H : Heap) (locs : List Loc), aAt mi pc ls st σ2 = some (.inr (.inl (r, σ2))) → aLs arr (aMax mi) ls → aRel D c lo s σ2 H → va_S (fun q : Nat => lo ≤ q) s.heap H locs → aW p l e R s m args below meth cd h0 s0 Z H locs σ2 pc arr st) :
    ∀ (n pc : Nat) (ls : aL) (st : List Value) (σ : aS) (arr : Array Slot) (H : Heap) (locs : List Loc), aRun (aCall d) mi n pc ls st σ (fun r' s' => r' = r ∧ s' = σ2) → aLs arr (aMax mi) ls → aRel D c lo s σ H → va_S (fun q : Nat => lo ≤ q) s.heap H locs → (h0 ≤ σ.2.1 ∧ s0 ≤ σ.2.2) → aW p l e R s m args below meth cd h0 s0 Z H locs σ pc arr st
  | 0, _, _, _, _, _, _, _, hr, _, _, _, _ => hr.elim
  | n + 1, pc, ls, st, σ, arr, H, locs, hrun, hl, hR, hS, hh => by
    have hup : σ.2.1 ≤ σ2.2.1 ∧ σ.2.2 ≤ σ2.2.2 := by
      obtain ⟨_, _, ⟨-, rfl⟩, g1, g2⟩ := aRun_up (aCall_up d) mi _ _ _ _ _ _ hrun
      exact ⟨g1, g2⟩
    unfold aRun at hrun
    split at hrun
    · rename_i x hx
      obtain ⟨pc', ls', st', σ'⟩ := x
      have hup' : σ'.2.1 ≤ σ2.2.1 ∧ σ'.2.2 ≤ σ2.2.2 := by
        obtain ⟨_, _, ⟨-, rfl⟩, g1, g2⟩ := aRun_up (aCall_up d) mi _ _ _ _ _ _ hrun
        exact ⟨g1, g2⟩
      have hst : σ.2.1 ≤ σ'.2.1 ∧ σ.2.2 ≤ σ'.2.2 := by
        unfold aAt at hx
        split at hx
        · exact aAct_up hx
        · cases hx
      exact aW_step C (by omega) (by omega) hx hl hR hS hh (by omega) (by omega) (fun arr' H' locs' g1 g2 g3 => aW_all C hM hfr hlo hc fin n _ _ _ _ _ _ _ hrun g1 g2 g3 (by omega))
    · rename_i x hx
      obtain ⟨r', σ'⟩ := x
      obtain ⟨rfl, rfl⟩ := hrun
      have hst : σ' = σ := by
        unfold aAt at hx
        split at hx
        · exact (aAct_ret hx).1
        · cases hx
      subst hst
      exact fin _ _ _ _ _ _ hx hl hR hS
    · rename_i x hx
      obtain ⟨t, L, pc', rest⟩ := x
      cases d with
      | zero => exact hrun.elim
      | succ d =>
        have hX : aX d t 0 L [] σ (fun r' σ' => aRun (aCall (d + 1)) mi n pc' ls (aret r' rest) σ' (fun r' s' => r' = r ∧ s' = σ2)) := hrun
        obtain ⟨⟨r1, σ1⟩, hX1, hK⟩ := aX_val hX
        dsimp only at hX1 hK
        have hup1 : σ1.2.1 ≤ σ2.2.1 ∧ σ1.2.2 ≤ σ2.2.2 := by
          obtain ⟨_, _, ⟨-, rfl⟩, g1, g2⟩ := aRun_up (aCall_up (d + 1)) mi _ _ _ _ _ _ hK
          exact ⟨g1, g2⟩
        have hup0 : σ.2.1 ≤ σ1.2.1 ∧ σ.2.2 ≤ σ1.2.2 := by
          obtain ⟨k, hk⟩ := hX1
          obtain ⟨_, _, ⟨-, rfl⟩, g1, g2⟩ := aRun_up (aCall_up d) t _ _ _ _ _ _ hk
          exact ⟨g1, g2⟩
        exact aW_call C (hM d rfl) (by omega) (by omega) hx hl hR hS hX1 hh hup0 (by omega) (fun arr' H' locs' g1 g2 g3 => aW_all C hM hfr hlo hc fin n _ _ _ _ _ _ _ hK g1 g2 g3 (by omega))
    · exact hrun.elim
end AWC
theorem aMet_step (l : Launch) (D : va_G) (c : Nat → ClassId) (lo d : Nat) (hM : ∀ d', d = d' + 1 → aMetAt l D c lo d') : aMetAt l D c lo d := by
  intro t ht vs σ r σ2 hX hla
  have hmem := aRec_mem ht
  have hMO := aMs_ok _ hmem
  have hCl := aCls_all _ hmem
  refine Met.ofW (cc := (aRec t).2.1) (maxL := (aRec t).2.2.1) (ret := (aRec t).2.2.2.1) hCl.2.2 rfl ?_
  intro p e s m args below meth cd s₁ B hml hv
  obtain ⟨rfl, hrel, hfix⟩ := hv
  have hts := atoms_spec (ws := aWs t) B.pre
  have hlocks : meth.locks = false := B.notSynchronized
  have hr : meth.sig.returnType = aRet t := B.returns
  have C : aCtx D c p s vs.toArray m meth cd t := ⟨B.exec, B.bytes, hml, by
    have h1 : s.vm.findClass (aRec t).1.cls = some m.cls := findClass_of_methodNamed B.named
    rw [hCl.1] at h1
    exact h1, hr, fun w hw => hts w (List.mem_cons_of_mem _ hw), hlocks, fun hk => by
    rw [(name_of_methodNamed B.named B.method).1]
    exact (hMO.2.2.2.2.1 hk).1, hfix⟩
  have hl := aLs.entry vs hla
  rw [lg_entry_eq]
  obtain ⟨n, hn⟩ := hX
  have hb : cd.code = (aRec t).2.1 := B.bytes
  have hx : p.tables.exec = Jvm.exec := B.exec
  have key := aW_all (l := l) (e := e) (R := (headSpec (aWs t) (aRoom d (σ2.2.1 - σ.2.1) (σ2.2.2 - σ.2.2))).room) (below := below) (h0 := σ.2.1) (s0 := σ.2.2) (Z := MQ below (aQc' D c lo r σ2) vs.toArray s (σ2.2.1 - σ.2.1) (σ2.2.2 - σ.2.2) (fun q : Nat => lo ≤ q)) C hM (Nat.le_refl _) (Nat.le_refl _) ⟨Nat.le_refl _, Nat.le_refl _⟩ ?_ n 0 _ [] σ _ s.heap [] hn hl hrel va_S.rf ⟨Nat.le_refl _, Nat.le_refl _⟩
  · unfold aW at key
    rw [Nat.sub_self, Nat.sub_self] at key
    exact key
  · intro pc ls st arr H locs hA hl2 hR2 hS2
    unfold aAt at hA
    split at hA
    · rename_i q hq
      obtain ⟨hd, hlen⟩ := aCode_dec hq
      obtain ⟨I, k⟩ := q
      have hqq : ∀ T : State, T.heap = H → s.WarmedH T.vm → aQc' D c lo r σ2 vs.toArray s (.returned r) T := fun T hT hW => ⟨rfl, by rw [hT]; exact hR2.moved hW.alike, hS2.F hT⟩
      rcases (aAct_ret hA).2 with ⟨rfl, v, rfl, rfl, hv⟩ | ⟨rfl, v, nm, rfl, rfl, hv, hrt⟩ | ⟨rfl, rfl, rfl, hrt⟩
      · simp only [aLenOK, beq_iff_eq] at hlen
        subst hlen
        rcases hv with hv | ⟨hv, hnar⟩
        · exact W.zret hx hb (hr.trans hv) rfl hqq hS2.2.2 hd
        · exact W.zret hx hb (hr.trans hv) hnar hqq hS2.2.2 hd
      · simp only [aLenOK, beq_iff_eq] at hlen
        subst hlen
        exact W.aret hx hb (hr.trans hrt) (Or.inl ⟨_, rfl⟩) (aRef_inv hv) hqq hS2.2.2 hd
      · simp only [aLenOK, beq_iff_eq] at hlen
        subst hlen
        exact W.vret hx hb (hr.trans hrt) hqq hS2.2.2 hd
    · cases hA
/-- THE SMALL MACHINE IS SOUND -/
theorem aMet (l : Launch) (D : va_G) (c : Nat → ClassId) (lo : Nat) : ∀ d, aMetAt l D c lo d
  | 0 => aMet_step l D c lo 0 (fun _ h => by omega)
  | d + 1 => aMet_step l D c lo (d + 1) (fun d' h => by
    have : d' = d := by omega
    subst this
    exact aMet l D c lo d')
end
