-- ===== PART A: goes FIRST, ahead of the names: the tables' words, and 'selects' of the private methods out of them =====
/-- a private method of a class that the tables say can be made, by its rows of tables_1 -/
def lw_okq (q : MethodName × Nat) : Prop := (q.1.cls ≠ "java/lang/invoke/MethodHandle" ∧ q.1.cls ≠ "java/lang/invoke/VarHandle") ∧ Cond.instantiable q.1.cls q.2 ∈ tables_1 ∧ Cond.privateMethod q.1 ∈ tables_1 ∧ Cond.instanceMethod q.1 ∈ tables_1
theorem lw_p0 : lw_okq (⟨"DoodleAlbums$History", "stateAt", "(I)LDoodleAlbums$Table;"⟩, 3) := ⟨⟨by decide +kernel, by decide +kernel⟩, List.mem_of_getElem? (i := 116) (by decide +kernel), List.mem_of_getElem? (i := 206) (by decide +kernel), List.mem_of_getElem? (i := 207) (by decide +kernel)⟩
theorem lw_p1 : lw_okq (⟨"DoodleAlbums$Table", "placeAt", "(I)LDoodleAlbums$Album;"⟩, 7) := ⟨⟨by decide +kernel, by decide +kernel⟩, List.mem_of_getElem? (i := 21) (by decide +kernel), List.mem_of_getElem? (i := 223) (by decide +kernel), List.mem_of_getElem? (i := 224) (by decide +kernel)⟩
theorem lw_p2 : lw_okq (⟨"DoodleAlbums$Table", "nextSeat", "(LDoodleAlbums$Album;)I"⟩, 7) := ⟨⟨by decide +kernel, by decide +kernel⟩, List.mem_of_getElem? (i := 21) (by decide +kernel), List.mem_of_getElem? (i := 328) (by decide +kernel), List.mem_of_getElem? (i := 329) (by decide +kernel)⟩
theorem lw_p3 : lw_okq (⟨"DoodleAlbums$Table", "end", "(LDoodleAlbums$Album;[I)V"⟩, 7) := ⟨⟨by decide +kernel, by decide +kernel⟩, List.mem_of_getElem? (i := 21) (by decide +kernel), List.mem_of_getElem? (i := 341) (by decide +kernel), List.mem_of_getElem? (i := 342) (by decide +kernel)⟩
theorem lw_p4 : lw_okq (⟨"DoodleAlbums$Table", "pageBy", "(ILDoodleAlbums$Album;)I"⟩, 7) := ⟨⟨by decide +kernel, by decide +kernel⟩, List.mem_of_getElem? (i := 21) (by decide +kernel), List.mem_of_getElem? (i := 361) (by decide +kernel), List.mem_of_getElem? (i := 362) (by decide +kernel)⟩
theorem lw_p5 : lw_okq (⟨"DoodleAlbums$Forecast", "playToEnd", "(LDoodleAlbums$Table;)V"⟩, 3) := ⟨⟨by decide +kernel, by decide +kernel⟩, List.mem_of_getElem? (i := 95) (by decide +kernel), List.mem_of_getElem? (i := 461) (by decide +kernel), List.mem_of_getElem? (i := 462) (by decide +kernel)⟩
theorem lw_p6 : lw_okq (⟨"DoodleAlbums$Pad", "take", "(I)Z"⟩, 6) := ⟨⟨by decide +kernel, by decide +kernel⟩, List.mem_of_getElem? (i := 138) (by decide +kernel), List.mem_of_getElem? (i := 526) (by decide +kernel), List.mem_of_getElem? (i := 527) (by decide +kernel)⟩
theorem lw_p7 : lw_okq (⟨"DoodleAlbums$Pad", "signHere", "()I"⟩, 6) := ⟨⟨by decide +kernel, by decide +kernel⟩, List.mem_of_getElem? (i := 138) (by decide +kernel), List.mem_of_getElem? (i := 530) (by decide +kernel), List.mem_of_getElem? (i := 531) (by decide +kernel)⟩
theorem lw_p8 : lw_okq (⟨"DoodleAlbums$Pad", "readOrder", "()Z"⟩, 6) := ⟨⟨by decide +kernel, by decide +kernel⟩, List.mem_of_getElem? (i := 138) (by decide +kernel), List.mem_of_getElem? (i := 534) (by decide +kernel), List.mem_of_getElem? (i := 535) (by decide +kernel)⟩
theorem lw_p9 : lw_okq (⟨"DoodleAlbums$Pad", "readSeat", "()Z"⟩, 6) := ⟨⟨by decide +kernel, by decide +kernel⟩, List.mem_of_getElem? (i := 138) (by decide +kernel), List.mem_of_getElem? (i := 538) (by decide +kernel), List.mem_of_getElem? (i := 539) (by decide +kernel)⟩
theorem lw_p10 : lw_okq (⟨"DoodleAlbums$Pad", "digitHere", "()I"⟩, 6) := ⟨⟨by decide +kernel, by decide +kernel⟩, List.mem_of_getElem? (i := 138) (by decide +kernel), List.mem_of_getElem? (i := 542) (by decide +kernel), List.mem_of_getElem? (i := 543) (by decide +kernel)⟩
theorem lw_p11 : lw_okq (⟨"DoodleAlbums$Pad", "readNumber", "()Z"⟩, 6) := ⟨⟨by decide +kernel, by decide +kernel⟩, List.mem_of_getElem? (i := 138) (by decide +kernel), List.mem_of_getElem? (i := 547) (by decide +kernel), List.mem_of_getElem? (i := 548) (by decide +kernel)⟩
theorem lw_p12 : lw_okq (⟨"DoodleAlbums$Pad", "readRounds", "()V"⟩, 6) := ⟨⟨by decide +kernel, by decide +kernel⟩, List.mem_of_getElem? (i := 138) (by decide +kernel), List.mem_of_getElem? (i := 551) (by decide +kernel), List.mem_of_getElem? (i := 552) (by decide +kernel)⟩
theorem lw_p13 : lw_okq (⟨"DoodleAlbums", "carryOutOrder", "()I"⟩, 5) := ⟨⟨by decide +kernel, by decide +kernel⟩, List.mem_of_getElem? (i := 13) (by decide +kernel), List.mem_of_getElem? (i := 561) (by decide +kernel), List.mem_of_getElem? (i := 562) (by decide +kernel)⟩
theorem lw_p14 : lw_okq (⟨"DoodleAlbums", "slotAt", "(I)LDoodleAlbums$Slot;"⟩, 5) := ⟨⟨by decide +kernel, by decide +kernel⟩, List.mem_of_getElem? (i := 13) (by decide +kernel), List.mem_of_getElem? (i := 577) (by decide +kernel), List.mem_of_getElem? (i := 578) (by decide +kernel)⟩
theorem lw_p15 : lw_okq (⟨"DoodleAlbumsModel", "record", "()V"⟩, 12) := ⟨⟨by decide +kernel, by decide +kernel⟩, List.mem_of_getElem? (i := 586) (by decide +kernel), List.mem_of_getElem? (i := 639) (by decide +kernel), List.mem_of_getElem? (i := 640) (by decide +kernel)⟩
def lw_privs_1 : List (MethodName × Nat) := [(⟨"DoodleAlbums$History", "stateAt", "(I)LDoodleAlbums$Table;"⟩, 3), (⟨"DoodleAlbums$Table", "placeAt", "(I)LDoodleAlbums$Album;"⟩, 7), (⟨"DoodleAlbums$Table", "nextSeat", "(LDoodleAlbums$Album;)I"⟩, 7), (⟨"DoodleAlbums$Table", "end", "(LDoodleAlbums$Album;[I)V"⟩, 7), (⟨"DoodleAlbums$Table", "pageBy", "(ILDoodleAlbums$Album;)I"⟩, 7), (⟨"DoodleAlbums$Forecast", "playToEnd", "(LDoodleAlbums$Table;)V"⟩, 3), (⟨"DoodleAlbums$Pad", "take", "(I)Z"⟩, 6), (⟨"DoodleAlbums$Pad", "signHere", "()I"⟩, 6), (⟨"DoodleAlbums$Pad", "readOrder", "()Z"⟩, 6), (⟨"DoodleAlbums$Pad", "readSeat", "()Z"⟩, 6), (⟨"DoodleAlbums$Pad", "digitHere", "()I"⟩, 6), (⟨"DoodleAlbums$Pad", "readNumber", "()Z"⟩, 6), (⟨"DoodleAlbums$Pad", "readRounds", "()V"⟩, 6), (⟨"DoodleAlbums", "carryOutOrder", "()I"⟩, 5), (⟨"DoodleAlbums", "slotAt", "(I)LDoodleAlbums$Slot;"⟩, 5), (⟨"DoodleAlbumsModel", "record", "()V"⟩, 12)]
theorem lw_r1 : ∀ q ∈ lw_privs_1, lw_okq q := List.forall_mem_cons.mpr ⟨lw_p0, List.forall_mem_cons.mpr ⟨lw_p1, List.forall_mem_cons.mpr ⟨lw_p2, List.forall_mem_cons.mpr ⟨lw_p3, List.forall_mem_cons.mpr ⟨lw_p4, List.forall_mem_cons.mpr ⟨lw_p5, List.forall_mem_cons.mpr ⟨lw_p6, List.forall_mem_cons.mpr ⟨lw_p7, List.forall_mem_cons.mpr ⟨lw_p8, List.forall_mem_cons.mpr ⟨lw_p9, List.forall_mem_cons.mpr ⟨lw_p10, List.forall_mem_cons.mpr ⟨lw_p11, List.forall_mem_cons.mpr ⟨lw_p12, List.forall_mem_cons.mpr ⟨lw_p13, List.forall_mem_cons.mpr ⟨lw_p14, List.forall_mem_cons.mpr ⟨lw_p15, fun _ h => absurd h List.not_mem_nil⟩⟩⟩⟩⟩⟩⟩⟩⟩⟩⟩⟩⟩⟩⟩⟩
theorem lw_p16 : lw_okq (⟨"DoodleAlbumsModel", "whyNotSat", "(II)I"⟩, 12) := ⟨⟨by decide +kernel, by decide +kernel⟩, List.mem_of_getElem? (i := 586) (by decide +kernel), List.mem_of_getElem? (i := 650) (by decide +kernel), List.mem_of_getElem? (i := 651) (by decide +kernel)⟩
theorem lw_p17 : lw_okq (⟨"DoodleAlbumsModel", "sat", "(II)I"⟩, 12) := ⟨⟨by decide +kernel, by decide +kernel⟩, List.mem_of_getElem? (i := 586) (by decide +kernel), List.mem_of_getElem? (i := 657) (by decide +kernel), List.mem_of_getElem? (i := 658) (by decide +kernel)⟩
theorem lw_p18 : lw_okq (⟨"DoodleAlbumsModel", "whyNotLeft", "(I)I"⟩, 12) := ⟨⟨by decide +kernel, by decide +kernel⟩, List.mem_of_getElem? (i := 586) (by decide +kernel), List.mem_of_getElem? (i := 668) (by decide +kernel), List.mem_of_getElem? (i := 669) (by decide +kernel)⟩
theorem lw_p19 : lw_okq (⟨"DoodleAlbumsModel", "isTaken", "(I)Z"⟩, 12) := ⟨⟨by decide +kernel, by decide +kernel⟩, List.mem_of_getElem? (i := 586) (by decide +kernel), List.mem_of_getElem? (i := 672) (by decide +kernel), List.mem_of_getElem? (i := 673) (by decide +kernel)⟩
theorem lw_p20 : lw_okq (⟨"DoodleAlbumsModel", "left", "(I)I"⟩, 12) := ⟨⟨by decide +kernel, by decide +kernel⟩, List.mem_of_getElem? (i := 586) (by decide +kernel), List.mem_of_getElem? (i := 676) (by decide +kernel), List.mem_of_getElem? (i := 677) (by decide +kernel)⟩
theorem lw_p21 : lw_okq (⟨"DoodleAlbumsModel", "whyNotBegun", "(II)I"⟩, 12) := ⟨⟨by decide +kernel, by decide +kernel⟩, List.mem_of_getElem? (i := 586) (by decide +kernel), List.mem_of_getElem? (i := 684) (by decide +kernel), List.mem_of_getElem? (i := 685) (by decide +kernel)⟩
theorem lw_p22 : lw_okq (⟨"DoodleAlbumsModel", "albumOf", "(I)I"⟩, 12) := ⟨⟨by decide +kernel, by decide +kernel⟩, List.mem_of_getElem? (i := 586) (by decide +kernel), List.mem_of_getElem? (i := 688) (by decide +kernel), List.mem_of_getElem? (i := 689) (by decide +kernel)⟩
theorem lw_p23 : lw_okq (⟨"DoodleAlbumsModel", "part", "(II)I"⟩, 12) := ⟨⟨by decide +kernel, by decide +kernel⟩, List.mem_of_getElem? (i := 586) (by decide +kernel), List.mem_of_getElem? (i := 692) (by decide +kernel), List.mem_of_getElem? (i := 693) (by decide +kernel)⟩
theorem lw_p24 : lw_okq (⟨"DoodleAlbumsModel", "goesRound", "(I)Z"⟩, 12) := ⟨⟨by decide +kernel, by decide +kernel⟩, List.mem_of_getElem? (i := 586) (by decide +kernel), List.mem_of_getElem? (i := 696) (by decide +kernel), List.mem_of_getElem? (i := 697) (by decide +kernel)⟩
theorem lw_p25 : lw_okq (⟨"DoodleAlbumsModel", "begun", "(II)I"⟩, 12) := ⟨⟨by decide +kernel, by decide +kernel⟩, List.mem_of_getElem? (i := 586) (by decide +kernel), List.mem_of_getElem? (i := 700) (by decide +kernel), List.mem_of_getElem? (i := 701) (by decide +kernel)⟩
theorem lw_p26 : lw_okq (⟨"DoodleAlbumsModel", "clearAlbum", "(I)V"⟩, 12) := ⟨⟨by decide +kernel, by decide +kernel⟩, List.mem_of_getElem? (i := 586) (by decide +kernel), List.mem_of_getElem? (i := 704) (by decide +kernel), List.mem_of_getElem? (i := 705) (by decide +kernel)⟩
theorem lw_p27 : lw_okq (⟨"DoodleAlbumsModel", "setPart", "(III)V"⟩, 12) := ⟨⟨by decide +kernel, by decide +kernel⟩, List.mem_of_getElem? (i := 586) (by decide +kernel), List.mem_of_getElem? (i := 708) (by decide +kernel), List.mem_of_getElem? (i := 709) (by decide +kernel)⟩
theorem lw_p28 : lw_okq (⟨"DoodleAlbumsModel", "putPage", "(IIII)V"⟩, 12) := ⟨⟨by decide +kernel, by decide +kernel⟩, List.mem_of_getElem? (i := 586) (by decide +kernel), List.mem_of_getElem? (i := 712) (by decide +kernel), List.mem_of_getElem? (i := 713) (by decide +kernel)⟩
theorem lw_p29 : lw_okq (⟨"DoodleAlbumsModel", "whyNotTold", "(II)I"⟩, 12) := ⟨⟨by decide +kernel, by decide +kernel⟩, List.mem_of_getElem? (i := 586) (by decide +kernel), List.mem_of_getElem? (i := 720) (by decide +kernel), List.mem_of_getElem? (i := 721) (by decide +kernel)⟩
theorem lw_p30 : lw_okq (⟨"DoodleAlbumsModel", "isAlbum", "(I)Z"⟩, 12) := ⟨⟨by decide +kernel, by decide +kernel⟩, List.mem_of_getElem? (i := 586) (by decide +kernel), List.mem_of_getElem? (i := 724) (by decide +kernel), List.mem_of_getElem? (i := 725) (by decide +kernel)⟩
theorem lw_p31 : lw_okq (⟨"DoodleAlbumsModel", "tells", "(II)I"⟩, 12) := ⟨⟨by decide +kernel, by decide +kernel⟩, List.mem_of_getElem? (i := 586) (by decide +kernel), List.mem_of_getElem? (i := 728) (by decide +kernel), List.mem_of_getElem? (i := 729) (by decide +kernel)⟩
def lw_privs_2 : List (MethodName × Nat) := [(⟨"DoodleAlbumsModel", "whyNotSat", "(II)I"⟩, 12), (⟨"DoodleAlbumsModel", "sat", "(II)I"⟩, 12), (⟨"DoodleAlbumsModel", "whyNotLeft", "(I)I"⟩, 12), (⟨"DoodleAlbumsModel", "isTaken", "(I)Z"⟩, 12), (⟨"DoodleAlbumsModel", "left", "(I)I"⟩, 12), (⟨"DoodleAlbumsModel", "whyNotBegun", "(II)I"⟩, 12), (⟨"DoodleAlbumsModel", "albumOf", "(I)I"⟩, 12), (⟨"DoodleAlbumsModel", "part", "(II)I"⟩, 12), (⟨"DoodleAlbumsModel", "goesRound", "(I)Z"⟩, 12), (⟨"DoodleAlbumsModel", "begun", "(II)I"⟩, 12), (⟨"DoodleAlbumsModel", "clearAlbum", "(I)V"⟩, 12), (⟨"DoodleAlbumsModel", "setPart", "(III)V"⟩, 12), (⟨"DoodleAlbumsModel", "putPage", "(IIII)V"⟩, 12), (⟨"DoodleAlbumsModel", "whyNotTold", "(II)I"⟩, 12), (⟨"DoodleAlbumsModel", "isAlbum", "(I)Z"⟩, 12), (⟨"DoodleAlbumsModel", "tells", "(II)I"⟩, 12)]
theorem lw_r2 : ∀ q ∈ lw_privs_2, lw_okq q := List.forall_mem_cons.mpr ⟨lw_p16, List.forall_mem_cons.mpr ⟨lw_p17, List.forall_mem_cons.mpr ⟨lw_p18, List.forall_mem_cons.mpr ⟨lw_p19, List.forall_mem_cons.mpr ⟨lw_p20, List.forall_mem_cons.mpr ⟨lw_p21, List.forall_mem_cons.mpr ⟨lw_p22, List.forall_mem_cons.mpr ⟨lw_p23, List.forall_mem_cons.mpr ⟨lw_p24, List.forall_mem_cons.mpr ⟨lw_p25, List.forall_mem_cons.mpr ⟨lw_p26, List.forall_mem_cons.mpr ⟨lw_p27, List.forall_mem_cons.mpr ⟨lw_p28, List.forall_mem_cons.mpr ⟨lw_p29, List.forall_mem_cons.mpr ⟨lw_p30, List.forall_mem_cons.mpr ⟨lw_p31, fun _ h => absurd h List.not_mem_nil⟩⟩⟩⟩⟩⟩⟩⟩⟩⟩⟩⟩⟩⟩⟩⟩
theorem lw_p32 : lw_okq (⟨"DoodleAlbumsModel", "makesRound", "()V"⟩, 12) := ⟨⟨by decide +kernel, by decide +kernel⟩, List.mem_of_getElem? (i := 586) (by decide +kernel), List.mem_of_getElem? (i := 736) (by decide +kernel), List.mem_of_getElem? (i := 737) (by decide +kernel)⟩
theorem lw_p33 : lw_okq (⟨"DoodleAlbumsModel", "nextSeat", "(I)I"⟩, 12) := ⟨⟨by decide +kernel, by decide +kernel⟩, List.mem_of_getElem? (i := 586) (by decide +kernel), List.mem_of_getElem? (i := 740) (by decide +kernel), List.mem_of_getElem? (i := 741) (by decide +kernel)⟩
theorem lw_p34 : lw_okq (⟨"DoodleAlbumsModel", "lastPage", "(I)I"⟩, 12) := ⟨⟨by decide +kernel, by decide +kernel⟩, List.mem_of_getElem? (i := 586) (by decide +kernel), List.mem_of_getElem? (i := 744) (by decide +kernel), List.mem_of_getElem? (i := 745) (by decide +kernel)⟩
theorem lw_p35 : lw_okq (⟨"DoodleAlbumsModel", "pagePart", "(III)I"⟩, 12) := ⟨⟨by decide +kernel, by decide +kernel⟩, List.mem_of_getElem? (i := 586) (by decide +kernel), List.mem_of_getElem? (i := 748) (by decide +kernel), List.mem_of_getElem? (i := 749) (by decide +kernel)⟩
theorem lw_p36 : lw_okq (⟨"DoodleAlbumsModel", "seatsOf", "(I)I"⟩, 12) := ⟨⟨by decide +kernel, by decide +kernel⟩, List.mem_of_getElem? (i := 586) (by decide +kernel), List.mem_of_getElem? (i := 752) (by decide +kernel), List.mem_of_getElem? (i := 753) (by decide +kernel)⟩
theorem lw_p37 : lw_okq (⟨"DoodleAlbumsModel", "comesHome", "(I)V"⟩, 12) := ⟨⟨by decide +kernel, by decide +kernel⟩, List.mem_of_getElem? (i := 586) (by decide +kernel), List.mem_of_getElem? (i := 756) (by decide +kernel), List.mem_of_getElem? (i := 757) (by decide +kernel)⟩
theorem lw_p38 : lw_okq (⟨"DoodleAlbumsModel", "lastWord", "(I)I"⟩, 12) := ⟨⟨by decide +kernel, by decide +kernel⟩, List.mem_of_getElem? (i := 586) (by decide +kernel), List.mem_of_getElem? (i := 760) (by decide +kernel), List.mem_of_getElem? (i := 761) (by decide +kernel)⟩
theorem lw_p39 : lw_okq (⟨"DoodleAlbumsModel", "lastWordPage", "(I)I"⟩, 12) := ⟨⟨by decide +kernel, by decide +kernel⟩, List.mem_of_getElem? (i := 586) (by decide +kernel), List.mem_of_getElem? (i := 764) (by decide +kernel), List.mem_of_getElem? (i := 765) (by decide +kernel)⟩
theorem lw_p40 : lw_okq (⟨"DoodleAlbumsModel", "firstWord", "(I)I"⟩, 12) := ⟨⟨by decide +kernel, by decide +kernel⟩, List.mem_of_getElem? (i := 586) (by decide +kernel), List.mem_of_getElem? (i := 768) (by decide +kernel), List.mem_of_getElem? (i := 769) (by decide +kernel)⟩
theorem lw_p41 : lw_okq (⟨"DoodleAlbumsModel", "scores", "(II)V"⟩, 12) := ⟨⟨by decide +kernel, by decide +kernel⟩, List.mem_of_getElem? (i := 586) (by decide +kernel), List.mem_of_getElem? (i := 772) (by decide +kernel), List.mem_of_getElem? (i := 773) (by decide +kernel)⟩
theorem lw_p42 : lw_okq (⟨"DoodleAlbumsModel", "goesTo", "(II)V"⟩, 12) := ⟨⟨by decide +kernel, by decide +kernel⟩, List.mem_of_getElem? (i := 586) (by decide +kernel), List.mem_of_getElem? (i := 776) (by decide +kernel), List.mem_of_getElem? (i := 777) (by decide +kernel)⟩
theorem lw_p43 : lw_okq (⟨"DoodleAlbumsModel", "guessed", "(I)I"⟩, 12) := ⟨⟨by decide +kernel, by decide +kernel⟩, List.mem_of_getElem? (i := 586) (by decide +kernel), List.mem_of_getElem? (i := 780) (by decide +kernel), List.mem_of_getElem? (i := 781) (by decide +kernel)⟩
theorem lw_p44 : lw_okq (⟨"DoodleAlbumsModel", "withHow", "(I)I"⟩, 12) := ⟨⟨by decide +kernel, by decide +kernel⟩, List.mem_of_getElem? (i := 586) (by decide +kernel), List.mem_of_getElem? (i := 784) (by decide +kernel), List.mem_of_getElem? (i := 785) (by decide +kernel)⟩
theorem lw_p45 : lw_okq (⟨"DoodleAlbumsModel", "cleared", "()I"⟩, 12) := ⟨⟨by decide +kernel, by decide +kernel⟩, List.mem_of_getElem? (i := 586) (by decide +kernel), List.mem_of_getElem? (i := 792) (by decide +kernel), List.mem_of_getElem? (i := 793) (by decide +kernel)⟩
theorem lw_p46 : lw_okq (⟨"DoodleAlbumsModel", "changed", "(I)I"⟩, 12) := ⟨⟨by decide +kernel, by decide +kernel⟩, List.mem_of_getElem? (i := 586) (by decide +kernel), List.mem_of_getElem? (i := 800) (by decide +kernel), List.mem_of_getElem? (i := 801) (by decide +kernel)⟩
theorem lw_p47 : lw_okq (⟨"DoodleAlbumsModel", "apart", "(II)I"⟩, 12) := ⟨⟨by decide +kernel, by decide +kernel⟩, List.mem_of_getElem? (i := 586) (by decide +kernel), List.mem_of_getElem? (i := 804) (by decide +kernel), List.mem_of_getElem? (i := 805) (by decide +kernel)⟩
def lw_privs_3 : List (MethodName × Nat) := [(⟨"DoodleAlbumsModel", "makesRound", "()V"⟩, 12), (⟨"DoodleAlbumsModel", "nextSeat", "(I)I"⟩, 12), (⟨"DoodleAlbumsModel", "lastPage", "(I)I"⟩, 12), (⟨"DoodleAlbumsModel", "pagePart", "(III)I"⟩, 12), (⟨"DoodleAlbumsModel", "seatsOf", "(I)I"⟩, 12), (⟨"DoodleAlbumsModel", "comesHome", "(I)V"⟩, 12), (⟨"DoodleAlbumsModel", "lastWord", "(I)I"⟩, 12), (⟨"DoodleAlbumsModel", "lastWordPage", "(I)I"⟩, 12), (⟨"DoodleAlbumsModel", "firstWord", "(I)I"⟩, 12), (⟨"DoodleAlbumsModel", "scores", "(II)V"⟩, 12), (⟨"DoodleAlbumsModel", "goesTo", "(II)V"⟩, 12), (⟨"DoodleAlbumsModel", "guessed", "(I)I"⟩, 12), (⟨"DoodleAlbumsModel", "withHow", "(I)I"⟩, 12), (⟨"DoodleAlbumsModel", "cleared", "()I"⟩, 12), (⟨"DoodleAlbumsModel", "changed", "(I)I"⟩, 12), (⟨"DoodleAlbumsModel", "apart", "(II)I"⟩, 12)]
theorem lw_r3 : ∀ q ∈ lw_privs_3, lw_okq q := List.forall_mem_cons.mpr ⟨lw_p32, List.forall_mem_cons.mpr ⟨lw_p33, List.forall_mem_cons.mpr ⟨lw_p34, List.forall_mem_cons.mpr ⟨lw_p35, List.forall_mem_cons.mpr ⟨lw_p36, List.forall_mem_cons.mpr ⟨lw_p37, List.forall_mem_cons.mpr ⟨lw_p38, List.forall_mem_cons.mpr ⟨lw_p39, List.forall_mem_cons.mpr ⟨lw_p40, List.forall_mem_cons.mpr ⟨lw_p41, List.forall_mem_cons.mpr ⟨lw_p42, List.forall_mem_cons.mpr ⟨lw_p43, List.forall_mem_cons.mpr ⟨lw_p44, List.forall_mem_cons.mpr ⟨lw_p45, List.forall_mem_cons.mpr ⟨lw_p46, List.forall_mem_cons.mpr ⟨lw_p47, fun _ h => absurd h List.not_mem_nil⟩⟩⟩⟩⟩⟩⟩⟩⟩⟩⟩⟩⟩⟩⟩⟩
theorem lw_p48 : lw_okq (⟨"DoodleAlbumsModel", "pagesBy", "(I)I"⟩, 12) := ⟨⟨by decide +kernel, by decide +kernel⟩, List.mem_of_getElem? (i := 586) (by decide +kernel), List.mem_of_getElem? (i := 816) (by decide +kernel), List.mem_of_getElem? (i := 817) (by decide +kernel)⟩
theorem lw_p49 : lw_okq (⟨"DoodleAlbumsModel", "allPoints", "()I"⟩, 12) := ⟨⟨by decide +kernel, by decide +kernel⟩, List.mem_of_getElem? (i := 586) (by decide +kernel), List.mem_of_getElem? (i := 828) (by decide +kernel), List.mem_of_getElem? (i := 829) (by decide +kernel)⟩
theorem lw_p50 : lw_okq (⟨"DoodleAlbumsModel", "differsWith", "(II)I"⟩, 12) := ⟨⟨by decide +kernel, by decide +kernel⟩, List.mem_of_getElem? (i := 586) (by decide +kernel), List.mem_of_getElem? (i := 844) (by decide +kernel), List.mem_of_getElem? (i := 845) (by decide +kernel)⟩
theorem lw_p51 : lw_okq (⟨"DoodleAlbumsModel", "findFault", "()I"⟩, 12) := ⟨⟨by decide +kernel, by decide +kernel⟩, List.mem_of_getElem? (i := 586) (by decide +kernel), List.mem_of_getElem? (i := 865) (by decide +kernel), List.mem_of_getElem? (i := 866) (by decide +kernel)⟩
theorem lw_p52 : lw_okq (⟨"DoodleAlbumsModel", "readsOrder", "()Z"⟩, 12) := ⟨⟨by decide +kernel, by decide +kernel⟩, List.mem_of_getElem? (i := 586) (by decide +kernel), List.mem_of_getElem? (i := 869) (by decide +kernel), List.mem_of_getElem? (i := 870) (by decide +kernel)⟩
theorem lw_p53 : lw_okq (⟨"DoodleAlbumsModel", "character", "(I)I"⟩, 12) := ⟨⟨by decide +kernel, by decide +kernel⟩, List.mem_of_getElem? (i := 586) (by decide +kernel), List.mem_of_getElem? (i := 873) (by decide +kernel), List.mem_of_getElem? (i := 874) (by decide +kernel)⟩
theorem lw_p54 : lw_okq (⟨"DoodleAlbumsModel", "takeDigit", "(II)I"⟩, 12) := ⟨⟨by decide +kernel, by decide +kernel⟩, List.mem_of_getElem? (i := 586) (by decide +kernel), List.mem_of_getElem? (i := 877) (by decide +kernel), List.mem_of_getElem? (i := 878) (by decide +kernel)⟩
theorem lw_p55 : lw_okq (⟨"DoodleAlbumsModel", "isNext", "(I)Z"⟩, 12) := ⟨⟨by decide +kernel, by decide +kernel⟩, List.mem_of_getElem? (i := 586) (by decide +kernel), List.mem_of_getElem? (i := 881) (by decide +kernel), List.mem_of_getElem? (i := 882) (by decide +kernel)⟩
theorem lw_p56 : lw_okq (⟨"DoodleAlbumsModel", "takeNumber", "()I"⟩, 12) := ⟨⟨by decide +kernel, by decide +kernel⟩, List.mem_of_getElem? (i := 586) (by decide +kernel), List.mem_of_getElem? (i := 885) (by decide +kernel), List.mem_of_getElem? (i := 886) (by decide +kernel)⟩
theorem lw_p57 : lw_okq (⟨"DoodleAlbumsModel", "whyNotDone", "()I"⟩, 12) := ⟨⟨by decide +kernel, by decide +kernel⟩, List.mem_of_getElem? (i := 586) (by decide +kernel), List.mem_of_getElem? (i := 893) (by decide +kernel), List.mem_of_getElem? (i := 894) (by decide +kernel)⟩
theorem lw_p58 : lw_okq (⟨"DoodleAlbumsModel", "does", "()V"⟩, 12) := ⟨⟨by decide +kernel, by decide +kernel⟩, List.mem_of_getElem? (i := 586) (by decide +kernel), List.mem_of_getElem? (i := 897) (by decide +kernel), List.mem_of_getElem? (i := 898) (by decide +kernel)⟩
def lw_privs_4 : List (MethodName × Nat) := [(⟨"DoodleAlbumsModel", "pagesBy", "(I)I"⟩, 12), (⟨"DoodleAlbumsModel", "allPoints", "()I"⟩, 12), (⟨"DoodleAlbumsModel", "differsWith", "(II)I"⟩, 12), (⟨"DoodleAlbumsModel", "findFault", "()I"⟩, 12), (⟨"DoodleAlbumsModel", "readsOrder", "()Z"⟩, 12), (⟨"DoodleAlbumsModel", "character", "(I)I"⟩, 12), (⟨"DoodleAlbumsModel", "takeDigit", "(II)I"⟩, 12), (⟨"DoodleAlbumsModel", "isNext", "(I)Z"⟩, 12), (⟨"DoodleAlbumsModel", "takeNumber", "()I"⟩, 12), (⟨"DoodleAlbumsModel", "whyNotDone", "()I"⟩, 12), (⟨"DoodleAlbumsModel", "does", "()V"⟩, 12)]
theorem lw_r4 : ∀ q ∈ lw_privs_4, lw_okq q := List.forall_mem_cons.mpr ⟨lw_p48, List.forall_mem_cons.mpr ⟨lw_p49, List.forall_mem_cons.mpr ⟨lw_p50, List.forall_mem_cons.mpr ⟨lw_p51, List.forall_mem_cons.mpr ⟨lw_p52, List.forall_mem_cons.mpr ⟨lw_p53, List.forall_mem_cons.mpr ⟨lw_p54, List.forall_mem_cons.mpr ⟨lw_p55, List.forall_mem_cons.mpr ⟨lw_p56, List.forall_mem_cons.mpr ⟨lw_p57, List.forall_mem_cons.mpr ⟨lw_p58, fun _ h => absurd h List.not_mem_nil⟩⟩⟩⟩⟩⟩⟩⟩⟩⟩⟩
def lw_privs : List (MethodName × Nat) := lw_privs_1 ++ (lw_privs_2 ++ (lw_privs_3 ++ (lw_privs_4)))
def lw_tbl : List Cond := k2_sels lw_privs ++ tables_1
theorem lw_privs_ok : ∀ q ∈ lw_privs, lw_okq q := by
  show ∀ q ∈ lw_privs_1 ++ (lw_privs_2 ++ (lw_privs_3 ++ (lw_privs_4))), lw_okq q
  exact List.forall_mem_append.mpr ⟨lw_r1, List.forall_mem_append.mpr ⟨lw_r2, List.forall_mem_append.mpr ⟨lw_r3, lw_r4⟩⟩⟩
def RX0 : String := "DoodleAlbums$Album"
def TX0 : u_T := fun k => match k with
  | 0 => ("DoodleAlbums$Album", "seats", "[I", true)
  | 1 => ("DoodleAlbums$Album", "marks", "[I", true)
  | 2 => ("DoodleAlbums$Album", "owner", "I", false)
  | 3 => ("DoodleAlbums$Album", "pages", "I", false)
  | 4 => ("DoodleAlbums$Album", "state", "I", false)
  | 5 => ("DoodleAlbums$Album", "toldNext", "I", false)
  | _ => ("DoodleAlbums$Album", "toldPages", "I", false)
def tyX0 : Nat → FieldType := fun k => match k with
  | 0 => .array .int
  | 1 => .array .int
  | 2 => .int
  | 3 => .int
  | 4 => .int
  | 5 => .int
  | _ => .int
abbrev wsX00 : List Cond := u_ws RX0 TX0 7
theorem nmX0 : ∀ a, a < 7 → ∀ b, b < 7 → a ≠ b → (TX0 a).2.1 ≠ (TX0 b).2.1 := by decide +kernel
theorem tyX0_ok : ∀ k, k < 7 → parseFieldDescriptor (TX0 k).2.2.1 = some (tyX0 k) := by decide +kernel
abbrev cX0_init : ByteArray := prog_2_method_1_code
def yX0_init : MethodName := ⟨RX0, "<init>", "()V"⟩
abbrev cX0_start : ByteArray := prog_2_method_2_code
def yX0_start : MethodName := ⟨RX0, "start", "(II)V"⟩
abbrev cX0_addPage : ByteArray := prog_2_method_3_code
def yX0_addPage : MethodName := ⟨RX0, "addPage", "(II)V"⟩
abbrev cX0_addToldPage : ByteArray := prog_2_method_4_code
def yX0_addToldPage : MethodName := ⟨RX0, "addToldPage", "(I)V"⟩
abbrev cX0_copyFrom : ByteArray := prog_2_method_5_code
def yX0_copyFrom : MethodName := ⟨RX0, "copyFrom", "(LDoodleAlbums$Album;)V"⟩
abbrev cX0_goesRound : ByteArray := prog_2_method_6_code
def yX0_goesRound : MethodName := ⟨RX0, "goesRound", "()Z"⟩
abbrev cX0_seatOf : ByteArray := prog_2_method_7_code
def yX0_seatOf : MethodName := ⟨RX0, "seatOf", "(I)I"⟩
abbrev cX0_markOf : ByteArray := prog_2_method_8_code
def yX0_markOf : MethodName := ⟨RX0, "markOf", "(I)I"⟩
abbrev cX0_wasTold : ByteArray := prog_2_method_9_code
def yX0_wasTold : MethodName := ⟨RX0, "wasTold", "(I)Z"⟩
abbrev cX0_liesAt : ByteArray := prog_2_method_10_code
def yX0_liesAt : MethodName := ⟨RX0, "liesAt", "()I"⟩
abbrev cX0_endsWithWord : ByteArray := prog_2_method_11_code
def yX0_endsWithWord : MethodName := ⟨RX0, "endsWithWord", "()Z"⟩
abbrev cX0_firstWord : ByteArray := prog_2_method_12_code
def yX0_firstWord : MethodName := ⟨RX0, "firstWord", "()I"⟩
abbrev cX0_lastWord : ByteArray := prog_2_method_13_code
def yX0_lastWord : MethodName := ⟨RX0, "lastWord", "()I"⟩
abbrev cX0_hasFoundWordAgain : ByteArray := prog_2_method_14_code
def yX0_hasFoundWordAgain : MethodName := ⟨RX0, "hasFoundWordAgain", "()Z"⟩
abbrev cX0_wordChanges : ByteArray := prog_2_method_15_code
def yX0_wordChanges : MethodName := ⟨RX0, "wordChanges", "()I"⟩
abbrev cX0_seatSet : ByteArray := prog_2_method_16_code
def yX0_seatSet : MethodName := ⟨RX0, "seatSet", "()I"⟩
def RX1 : String := "DoodleAlbums$Forecast"
def TX1 : u_T := fun k => match k with
  | 0 => ("DoodleAlbums$Forecast", "album", "LDoodleAlbums$Album;", true)
  | 1 => ("DoodleAlbums$Forecast", "points", "[I", true)
  | _ => ("DoodleAlbums$Forecast", "rounds", "I", false)
def tyX1 : Nat → FieldType := fun k => match k with
  | 0 => .object "DoodleAlbums$Album"
  | 1 => .array .int
  | _ => .int
abbrev wsX10 : List Cond := u_ws RX1 TX1 3
theorem nmX1 : ∀ a, a < 3 → ∀ b, b < 3 → a ≠ b → (TX1 a).2.1 ≠ (TX1 b).2.1 := by decide +kernel
theorem tyX1_ok : ∀ k, k < 3 → parseFieldDescriptor (TX1 k).2.2.1 = some (tyX1 k) := by decide +kernel
abbrev cX1_init : ByteArray := prog_3_method_1_code
def yX1_init : MethodName := ⟨RX1, "<init>", "()V"⟩
abbrev cX1_follow : ByteArray := prog_3_method_2_code
def yX1_follow : MethodName := ⟨RX1, "follow", "(LDoodleAlbums$Table;LDoodleAlbums$Album;)V"⟩
abbrev cX1_followAll : ByteArray := prog_3_method_3_code
def yX1_followAll : MethodName := ⟨RX1, "followAll", "(LDoodleAlbums$Table;)V"⟩
abbrev cX1_differenceAtHome : ByteArray := prog_3_method_4_code
def yX1_differenceAtHome : MethodName := ⟨RX1, "differenceAtHome", "(LDoodleAlbums$Table;II)I"⟩
abbrev cX1_playToEnd : ByteArray := prog_3_method_5_code
def yX1_playToEnd : MethodName := ⟨RX1, "playToEnd", "(LDoodleAlbums$Table;)V"⟩
def RX2 : String := "DoodleAlbums$History"
def TX2 : u_T := fun k => match k with
  | 0 => ("DoodleAlbums$History", "states", "[LDoodleAlbums$Table;", true)
  | 1 => ("DoodleAlbums$History", "oldest", "I", false)
  | _ => ("DoodleAlbums$History", "size", "I", false)
def tyX2 : Nat → FieldType := fun k => match k with
  | 0 => .array (.object "DoodleAlbums$Table")
  | 1 => .int
  | _ => .int
abbrev wsX20 : List Cond := u_ws RX2 TX2 3
theorem nmX2 : ∀ a, a < 3 → ∀ b, b < 3 → a ≠ b → (TX2 a).2.1 ≠ (TX2 b).2.1 := by decide +kernel
theorem tyX2_ok : ∀ k, k < 3 → parseFieldDescriptor (TX2 k).2.2.1 = some (tyX2 k) := by decide +kernel
abbrev cX2_init : ByteArray := prog_4_method_1_code
def yX2_init : MethodName := ⟨RX2, "<init>", "()V"⟩
abbrev cX2_stateAt : ByteArray := prog_4_method_2_code
def yX2_stateAt : MethodName := ⟨RX2, "stateAt", "(I)LDoodleAlbums$Table;"⟩
abbrev cX2_prepare : ByteArray := prog_4_method_3_code
def yX2_prepare : MethodName := ⟨RX2, "prepare", "(LDoodleAlbums$Table;)V"⟩
abbrev cX2_recordUnlessError : ByteArray := prog_4_method_4_code
def yX2_recordUnlessError : MethodName := ⟨RX2, "recordUnlessError", "(I)I"⟩
abbrev cX2_takeBack : ByteArray := prog_4_method_5_code
def yX2_takeBack : MethodName := ⟨RX2, "takeBack", "(LDoodleAlbums$Table;)I"⟩
def RX3 : String := "DoodleAlbums$Pad"
def TX3 : u_T := fun k => match k with
  | 0 => ("DoodleAlbums$Pad", "signs", "[I", true)
  | 1 => ("DoodleAlbums$Pad", "size", "I", false)
  | 2 => ("DoodleAlbums$Pad", "position", "I", false)
  | 3 => ("DoodleAlbums$Pad", "kind", "I", false)
  | 4 => ("DoodleAlbums$Pad", "first", "I", false)
  | _ => ("DoodleAlbums$Pad", "second", "I", false)
def tyX3 : Nat → FieldType := fun k => match k with
  | 0 => .array .int
  | 1 => .int
  | 2 => .int
  | 3 => .int
  | 4 => .int
  | _ => .int
abbrev wsX30 : List Cond := u_ws RX3 TX3 6
theorem nmX3 : ∀ a, a < 6 → ∀ b, b < 6 → a ≠ b → (TX3 a).2.1 ≠ (TX3 b).2.1 := by decide +kernel
theorem tyX3_ok : ∀ k, k < 6 → parseFieldDescriptor (TX3 k).2.2.1 = some (tyX3 k) := by decide +kernel
abbrev cX3_init : ByteArray := prog_5_method_1_code
def yX3_init : MethodName := ⟨RX3, "<init>", "()V"⟩
abbrev cX3_append : ByteArray := prog_5_method_2_code
def yX3_append : MethodName := ⟨RX3, "append", "(J)I"⟩
abbrev cX3_signsIn : ByteArray := prog_5_method_3_code
def yX3_signsIn : MethodName := ⟨RX3, "signsIn", "(J)I"⟩
abbrev cX3_empty : ByteArray := prog_5_method_4_code
def yX3_empty : MethodName := ⟨RX3, "empty", "()I"⟩
abbrev cX3_findFault : ByteArray := prog_5_method_5_code
def yX3_findFault : MethodName := ⟨RX3, "findFault", "()I"⟩
abbrev cX3_startReading : ByteArray := prog_5_method_6_code
def yX3_startReading : MethodName := ⟨RX3, "startReading", "()V"⟩
abbrev cX3_readNext : ByteArray := prog_5_method_7_code
def yX3_readNext : MethodName := ⟨RX3, "readNext", "()Z"⟩
abbrev cX3_readOrder : ByteArray := prog_5_method_8_code
def yX3_readOrder : MethodName := ⟨RX3, "readOrder", "()Z"⟩
abbrev cX3_readSeat : ByteArray := prog_5_method_9_code
def yX3_readSeat : MethodName := ⟨RX3, "readSeat", "()Z"⟩
abbrev cX3_readRounds : ByteArray := prog_5_method_10_code
def yX3_readRounds : MethodName := ⟨RX3, "readRounds", "()V"⟩
abbrev cX3_readNumber : ByteArray := prog_5_method_11_code
def yX3_readNumber : MethodName := ⟨RX3, "readNumber", "()Z"⟩
abbrev cX3_take : ByteArray := prog_5_method_12_code
def yX3_take : MethodName := ⟨RX3, "take", "(I)Z"⟩
abbrev cX3_digitHere : ByteArray := prog_5_method_13_code
def yX3_digitHere : MethodName := ⟨RX3, "digitHere", "()I"⟩
abbrev cX3_signHere : ByteArray := prog_5_method_14_code
def yX3_signHere : MethodName := ⟨RX3, "signHere", "()I"⟩
def RX4 : String := "DoodleAlbums$Slot"
def TX4 : u_T := fun k => match k with
  | 0 => ("DoodleAlbums$Slot", "state", "LDoodleAlbums$Table;", true)
  | _ => ("DoodleAlbums$Slot", "filled", "Z", false)
def tyX4 : Nat → FieldType := fun k => match k with
  | 0 => .object "DoodleAlbums$Table"
  | _ => .boolean
abbrev wsX40 : List Cond := u_ws RX4 TX4 2
theorem nmX4 : ∀ a, a < 2 → ∀ b, b < 2 → a ≠ b → (TX4 a).2.1 ≠ (TX4 b).2.1 := by decide +kernel
theorem tyX4_ok : ∀ k, k < 2 → parseFieldDescriptor (TX4 k).2.2.1 = some (tyX4 k) := by decide +kernel
abbrev cX4_init : ByteArray := prog_6_method_1_code
def yX4_init : MethodName := ⟨RX4, "<init>", "()V"⟩
def RX5 : String := "DoodleAlbums$Table"
def TX5 : u_T := fun k => match k with
  | 0 => ("DoodleAlbums$Table", "features", "[I", true)
  | 1 => ("DoodleAlbums$Table", "drawable", "[I", true)
  | 2 => ("DoodleAlbums$Table", "points", "[I", true)
  | 3 => ("DoodleAlbums$Table", "albums", "[LDoodleAlbums$Album;", true)
  | 4 => ("DoodleAlbums$Table", "players", "I", false)
  | 5 => ("DoodleAlbums$Table", "albumCount", "I", false)
  | _ => ("DoodleAlbums$Table", "rounds", "I", false)
def tyX5 : Nat → FieldType := fun k => match k with
  | 0 => .array .int
  | 1 => .array .int
  | 2 => .array .int
  | 3 => .array (.object "DoodleAlbums$Album")
  | 4 => .int
  | 5 => .int
  | _ => .int
abbrev wsX50 : List Cond := u_ws RX5 TX5 7
theorem nmX5 : ∀ a, a < 7 → ∀ b, b < 7 → a ≠ b → (TX5 a).2.1 ≠ (TX5 b).2.1 := by decide +kernel
theorem tyX5_ok : ∀ k, k < 7 → parseFieldDescriptor (TX5 k).2.2.1 = some (tyX5 k) := by decide +kernel
abbrev cX5_init : ByteArray := prog_7_method_1_code
def yX5_init : MethodName := ⟨RX5, "<init>", "()V"⟩
abbrev cX5_copyFrom : ByteArray := prog_7_method_2_code
def yX5_copyFrom : MethodName := ⟨RX5, "copyFrom", "(LDoodleAlbums$Table;)V"⟩
abbrev cX5_placeAt : ByteArray := prog_7_method_3_code
def yX5_placeAt : MethodName := ⟨RX5, "placeAt", "(I)LDoodleAlbums$Album;"⟩
abbrev cX5_albumAt : ByteArray := prog_7_method_4_code
def yX5_albumAt : MethodName := ⟨RX5, "albumAt", "(I)LDoodleAlbums$Album;"⟩
abbrev cX5_isTaken : ByteArray := prog_7_method_5_code
def yX5_isTaken : MethodName := ⟨RX5, "isTaken", "(I)Z"⟩
abbrev cX5_changeFeatures : ByteArray := prog_7_method_6_code
def yX5_changeFeatures : MethodName := ⟨RX5, "changeFeatures", "(II)I"⟩
abbrev cX5_sitDown : ByteArray := prog_7_method_7_code
def yX5_sitDown : MethodName := ⟨RX5, "sitDown", "(II)I"⟩
abbrev cX5_standUp : ByteArray := prog_7_method_8_code
def yX5_standUp : MethodName := ⟨RX5, "standUp", "(I)I"⟩
abbrev cX5_beginAlbum : ByteArray := prog_7_method_9_code
def yX5_beginAlbum : MethodName := ⟨RX5, "beginAlbum", "(II)I"⟩
abbrev cX5_tellPage : ByteArray := prog_7_method_10_code
def yX5_tellPage : MethodName := ⟨RX5, "tellPage", "(II)I"⟩
abbrev cX5_makeRound : ByteArray := prog_7_method_11_code
def yX5_makeRound : MethodName := ⟨RX5, "makeRound", "()I"⟩
abbrev cX5_clearEnded : ByteArray := prog_7_method_12_code
def yX5_clearEnded : MethodName := ⟨RX5, "clearEnded", "()I"⟩
abbrev cX5_passOn : ByteArray := prog_7_method_13_code
def yX5_passOn : MethodName := ⟨RX5, "passOn", "(LDoodleAlbums$Album;[I)V"⟩
abbrev cX5_nextSeat : ByteArray := prog_7_method_14_code
def yX5_nextSeat : MethodName := ⟨RX5, "nextSeat", "(LDoodleAlbums$Album;)I"⟩
abbrev cX5_end : ByteArray := prog_7_method_15_code
def yX5_end : MethodName := ⟨RX5, "end", "(LDoodleAlbums$Album;[I)V"⟩
abbrev cX5_pageBy : ByteArray := prog_7_method_16_code
def yX5_pageBy : MethodName := ⟨RX5, "pageBy", "(ILDoodleAlbums$Album;)I"⟩
abbrev cX5_mostLike : ByteArray := prog_7_method_17_code
def yX5_mostLike : MethodName := ⟨RX5, "mostLike", "(I)I"⟩
abbrev cX5_difference : ByteArray := prog_7_method_18_code
def yX5_difference : MethodName := ⟨RX5, "difference", "(II)I"⟩
abbrev cX5_albumGoingRoundOf : ByteArray := prog_7_method_19_code
def yX5_albumGoingRoundOf : MethodName := ⟨RX5, "albumGoingRoundOf", "(I)I"⟩
abbrev cX5_albumsThatAre : ByteArray := prog_7_method_20_code
def yX5_albumsThatAre : MethodName := ⟨RX5, "albumsThatAre", "(I)I"⟩
abbrev cX5_pagesBy : ByteArray := prog_7_method_21_code
def yX5_pagesBy : MethodName := ⟨RX5, "pagesBy", "(I)I"⟩
abbrev cX5_allPoints : ByteArray := prog_7_method_22_code
def yX5_allPoints : MethodName := ⟨RX5, "allPoints", "()I"⟩
def RX6 : String := "DoodleAlbums"
def TX6 : u_T := fun k => match k with
  | 0 => ("DoodleAlbums", "table", "LDoodleAlbums$Table;", true)
  | 1 => ("DoodleAlbums", "forecast", "LDoodleAlbums$Forecast;", true)
  | 2 => ("DoodleAlbums", "history", "LDoodleAlbums$History;", true)
  | 3 => ("DoodleAlbums", "slots", "[LDoodleAlbums$Slot;", true)
  | _ => ("DoodleAlbums", "pad", "LDoodleAlbums$Pad;", true)
def tyX6 : Nat → FieldType := fun k => match k with
  | 0 => .object "DoodleAlbums$Table"
  | 1 => .object "DoodleAlbums$Forecast"
  | 2 => .object "DoodleAlbums$History"
  | 3 => .array (.object "DoodleAlbums$Slot")
  | _ => .object "DoodleAlbums$Pad"
abbrev wsX60 : List Cond := u_ws RX6 TX6 5
theorem nmX6 : ∀ a, a < 5 → ∀ b, b < 5 → a ≠ b → (TX6 a).2.1 ≠ (TX6 b).2.1 := by decide +kernel
theorem tyX6_ok : ∀ k, k < 5 → parseFieldDescriptor (TX6 k).2.2.1 = some (tyX6 k) := by decide +kernel
abbrev cX6_init : ByteArray := prog_1_method_1_code
def yX6_init : MethodName := ⟨RX6, "<init>", "()V"⟩
abbrev cX6_teach : ByteArray := prog_1_method_2_code
def yX6_teach : MethodName := ⟨RX6, "teach", "(II)I"⟩
abbrev cX6_sit : ByteArray := prog_1_method_3_code
def yX6_sit : MethodName := ⟨RX6, "sit", "(II)I"⟩
abbrev cX6_leave : ByteArray := prog_1_method_4_code
def yX6_leave : MethodName := ⟨RX6, "leave", "(I)I"⟩
abbrev cX6_begin : ByteArray := prog_1_method_5_code
def yX6_begin : MethodName := ⟨RX6, "begin", "(II)I"⟩
abbrev cX6_tell : ByteArray := prog_1_method_6_code
def yX6_tell : MethodName := ⟨RX6, "tell", "(II)I"⟩
abbrev cX6_round : ByteArray := prog_1_method_7_code
def yX6_round : MethodName := ⟨RX6, "round", "()I"⟩
abbrev cX6_clear : ByteArray := prog_1_method_8_code
def yX6_clear : MethodName := ⟨RX6, "clear", "()I"⟩
abbrev cX6_of : ByteArray := prog_1_method_9_code
def yX6_of : MethodName := ⟨RX6, "of", "(II)I"⟩
abbrev cX6_page : ByteArray := prog_1_method_10_code
def yX6_page : MethodName := ⟨RX6, "page", "(III)I"⟩
abbrev cX6_seat : ByteArray := prog_1_method_11_code
def yX6_seat : MethodName := ⟨RX6, "seat", "(II)I"⟩
abbrev cX6_word : ByteArray := prog_1_method_12_code
def yX6_word : MethodName := ⟨RX6, "word", "(I)I"⟩
abbrev cX6_count : ByteArray := prog_1_method_13_code
def yX6_count : MethodName := ⟨RX6, "count", "(I)I"⟩
abbrev cX6_guess : ByteArray := prog_1_method_14_code
def yX6_guess : MethodName := ⟨RX6, "guess", "(I)I"⟩
abbrev cX6_foretold : ByteArray := prog_1_method_15_code
def yX6_foretold : MethodName := ⟨RX6, "foretold", "(II)I"⟩
abbrev cX6_bestWord : ByteArray := prog_1_method_16_code
def yX6_bestWord : MethodName := ⟨RX6, "bestWord", "(II)I"⟩
abbrev cX6_pointsThen : ByteArray := prog_1_method_17_code
def yX6_pointsThen : MethodName := ⟨RX6, "pointsThen", "(I)I"⟩
abbrev cX6_put : ByteArray := prog_1_method_18_code
def yX6_put : MethodName := ⟨RX6, "put", "(J)I"⟩
abbrev cX6_wipe : ByteArray := prog_1_method_19_code
def yX6_wipe : MethodName := ⟨RX6, "wipe", "()I"⟩
abbrev cX6_fault : ByteArray := prog_1_method_20_code
def yX6_fault : MethodName := ⟨RX6, "fault", "()I"⟩
abbrev cX6_carryOut : ByteArray := prog_1_method_21_code
def yX6_carryOut : MethodName := ⟨RX6, "carryOut", "()I"⟩
abbrev cX6_undo : ByteArray := prog_1_method_22_code
def yX6_undo : MethodName := ⟨RX6, "undo", "()I"⟩
abbrev cX6_save : ByteArray := prog_1_method_23_code
def yX6_save : MethodName := ⟨RX6, "save", "(I)I"⟩
abbrev cX6_restore : ByteArray := prog_1_method_24_code
def yX6_restore : MethodName := ⟨RX6, "restore", "(I)I"⟩
abbrev cX6_carryOutOrder : ByteArray := prog_1_method_25_code
def yX6_carryOutOrder : MethodName := ⟨RX6, "carryOutOrder", "()I"⟩
abbrev cX6_slotAt : ByteArray := prog_1_method_26_code
def yX6_slotAt : MethodName := ⟨RX6, "slotAt", "(I)LDoodleAlbums$Slot;"⟩
abbrev cX6_isBelow : ByteArray := prog_1_method_27_code
def yX6_isBelow : MethodName := ⟨RX6, "isBelow", "(II)Z"⟩
abbrev cX6_valueAt : ByteArray := prog_1_method_28_code
def yX6_valueAt : MethodName := ⟨RX6, "valueAt", "([II)I"⟩
abbrev cX6_setAt : ByteArray := prog_1_method_29_code
def yX6_setAt : MethodName := ⟨RX6, "setAt", "([III)V"⟩
abbrev cX6_addAt : ByteArray := prog_1_method_30_code
def yX6_addAt : MethodName := ⟨RX6, "addAt", "([III)V"⟩
abbrev cX6_copyRow : ByteArray := prog_1_method_31_code
def yX6_copyRow : MethodName := ⟨RX6, "copyRow", "([I[I)V"⟩
def RX7 : String := "DoodleAlbumsModel"
def TX7 : u_T := fun k => match k with
  | 0 => ("DoodleAlbumsModel", "state", "[I", true)
  | 1 => ("DoodleAlbumsModel", "kept", "[I", true)
  | 2 => ("DoodleAlbumsModel", "history", "[I", true)
  | 3 => ("DoodleAlbumsModel", "recorded", "I", false)
  | 4 => ("DoodleAlbumsModel", "slots", "[I", true)
  | 5 => ("DoodleAlbumsModel", "isSaved", "[I", true)
  | 6 => ("DoodleAlbumsModel", "pad", "[I", true)
  | 7 => ("DoodleAlbumsModel", "padLength", "I", false)
  | 8 => ("DoodleAlbumsModel", "at", "I", false)
  | 9 => ("DoodleAlbumsModel", "letter", "I", false)
  | 10 => ("DoodleAlbumsModel", "first", "I", false)
  | _ => ("DoodleAlbumsModel", "second", "I", false)
def tyX7 : Nat → FieldType := fun k => match k with
  | 0 => .array .int
  | 1 => .array .int
  | 2 => .array .int
  | 3 => .int
  | 4 => .array .int
  | 5 => .array .int
  | 6 => .array .int
  | 7 => .int
  | 8 => .int
  | 9 => .int
  | 10 => .int
  | _ => .int
abbrev wsX70 : List Cond := u_ws RX7 TX7 12
theorem nmX7 : ∀ a, a < 12 → ∀ b, b < 12 → a ≠ b → (TX7 a).2.1 ≠ (TX7 b).2.1 := by decide +kernel
theorem tyX7_ok : ∀ k, k < 12 → parseFieldDescriptor (TX7 k).2.2.1 = some (tyX7 k) := by decide +kernel
abbrev cX7_init : ByteArray := prog_9_method_1_code
def yX7_init : MethodName := ⟨RX7, "<init>", "()V"⟩
abbrev cX7_moves : ByteArray := prog_9_method_3_code
def yX7_moves : MethodName := ⟨RX7, "moves", "([II[II)V"⟩
abbrev cX7_within : ByteArray := prog_9_method_4_code
def yX7_within : MethodName := ⟨RX7, "within", "(III)Z"⟩
abbrev cX7_record : ByteArray := prog_9_method_5_code
def yX7_record : MethodName := ⟨RX7, "record", "()V"⟩
abbrev cX7_bits : ByteArray := prog_9_method_6_code
def yX7_bits : MethodName := ⟨RX7, "bits", "(I)I"⟩
abbrev cX7_isWord : ByteArray := prog_9_method_7_code
def yX7_isWord : MethodName := ⟨RX7, "isWord", "(I)Z"⟩
abbrev cX7_isSeat : ByteArray := prog_9_method_8_code
def yX7_isSeat : MethodName := ⟨RX7, "isSeat", "(I)Z"⟩
abbrev cX7_isTaken : ByteArray := prog_9_method_9_code
def yX7_isTaken : MethodName := ⟨RX7, "isTaken", "(I)Z"⟩
abbrev cX7_isAlbum : ByteArray := prog_9_method_10_code
def yX7_isAlbum : MethodName := ⟨RX7, "isAlbum", "(I)Z"⟩
abbrev cX7_part : ByteArray := prog_9_method_11_code
def yX7_part : MethodName := ⟨RX7, "part", "(II)I"⟩
abbrev cX7_setPart : ByteArray := prog_9_method_12_code
def yX7_setPart : MethodName := ⟨RX7, "setPart", "(III)V"⟩
abbrev cX7_pagePart : ByteArray := prog_9_method_13_code
def yX7_pagePart : MethodName := ⟨RX7, "pagePart", "(III)I"⟩
abbrev cX7_putPage : ByteArray := prog_9_method_14_code
def yX7_putPage : MethodName := ⟨RX7, "putPage", "(IIII)V"⟩
abbrev cX7_lastPage : ByteArray := prog_9_method_15_code
def yX7_lastPage : MethodName := ⟨RX7, "lastPage", "(I)I"⟩
abbrev cX7_lastWordPage : ByteArray := prog_9_method_16_code
def yX7_lastWordPage : MethodName := ⟨RX7, "lastWordPage", "(I)I"⟩
abbrev cX7_lastWord : ByteArray := prog_9_method_17_code
def yX7_lastWord : MethodName := ⟨RX7, "lastWord", "(I)I"⟩
abbrev cX7_firstWord : ByteArray := prog_9_method_18_code
def yX7_firstWord : MethodName := ⟨RX7, "firstWord", "(I)I"⟩
abbrev cX7_seatsOf : ByteArray := prog_9_method_19_code
def yX7_seatsOf : MethodName := ⟨RX7, "seatsOf", "(I)I"⟩
abbrev cX7_goesRound : ByteArray := prog_9_method_20_code
def yX7_goesRound : MethodName := ⟨RX7, "goesRound", "(I)Z"⟩
abbrev cX7_albumOf : ByteArray := prog_9_method_21_code
def yX7_albumOf : MethodName := ⟨RX7, "albumOf", "(I)I"⟩
abbrev cX7_withHow : ByteArray := prog_9_method_22_code
def yX7_withHow : MethodName := ⟨RX7, "withHow", "(I)I"⟩
abbrev cX7_guessed : ByteArray := prog_9_method_23_code
def yX7_guessed : MethodName := ⟨RX7, "guessed", "(I)I"⟩
abbrev cX7_nextSeat : ByteArray := prog_9_method_24_code
def yX7_nextSeat : MethodName := ⟨RX7, "nextSeat", "(I)I"⟩
abbrev cX7_scores : ByteArray := prog_9_method_25_code
def yX7_scores : MethodName := ⟨RX7, "scores", "(II)V"⟩
abbrev cX7_comesHome : ByteArray := prog_9_method_26_code
def yX7_comesHome : MethodName := ⟨RX7, "comesHome", "(I)V"⟩
abbrev cX7_goesTo : ByteArray := prog_9_method_27_code
def yX7_goesTo : MethodName := ⟨RX7, "goesTo", "(II)V"⟩
abbrev cX7_makesRound : ByteArray := prog_9_method_28_code
def yX7_makesRound : MethodName := ⟨RX7, "makesRound", "()V"⟩
abbrev cX7_teach : ByteArray := prog_9_method_29_code
def yX7_teach : MethodName := ⟨RX7, "teach", "(II)I"⟩
abbrev cX7_whyNotSat : ByteArray := prog_9_method_30_code
def yX7_whyNotSat : MethodName := ⟨RX7, "whyNotSat", "(II)I"⟩
abbrev cX7_sat : ByteArray := prog_9_method_31_code
def yX7_sat : MethodName := ⟨RX7, "sat", "(II)I"⟩
abbrev cX7_sit : ByteArray := prog_9_method_32_code
def yX7_sit : MethodName := ⟨RX7, "sit", "(II)I"⟩
abbrev cX7_whyNotLeft : ByteArray := prog_9_method_33_code
def yX7_whyNotLeft : MethodName := ⟨RX7, "whyNotLeft", "(I)I"⟩
abbrev cX7_left : ByteArray := prog_9_method_34_code
def yX7_left : MethodName := ⟨RX7, "left", "(I)I"⟩
abbrev cX7_leave : ByteArray := prog_9_method_35_code
def yX7_leave : MethodName := ⟨RX7, "leave", "(I)I"⟩
abbrev cX7_whyNotBegun : ByteArray := prog_9_method_36_code
def yX7_whyNotBegun : MethodName := ⟨RX7, "whyNotBegun", "(II)I"⟩
abbrev cX7_clearAlbum : ByteArray := prog_9_method_37_code
def yX7_clearAlbum : MethodName := ⟨RX7, "clearAlbum", "(I)V"⟩
abbrev cX7_begun : ByteArray := prog_9_method_38_code
def yX7_begun : MethodName := ⟨RX7, "begun", "(II)I"⟩
abbrev cX7_begin : ByteArray := prog_9_method_39_code
def yX7_begin : MethodName := ⟨RX7, "begin", "(II)I"⟩
abbrev cX7_whyNotTold : ByteArray := prog_9_method_40_code
def yX7_whyNotTold : MethodName := ⟨RX7, "whyNotTold", "(II)I"⟩
abbrev cX7_tells : ByteArray := prog_9_method_41_code
def yX7_tells : MethodName := ⟨RX7, "tells", "(II)I"⟩
abbrev cX7_tell : ByteArray := prog_9_method_42_code
def yX7_tell : MethodName := ⟨RX7, "tell", "(II)I"⟩
abbrev cX7_round : ByteArray := prog_9_method_43_code
def yX7_round : MethodName := ⟨RX7, "round", "()I"⟩
abbrev cX7_cleared : ByteArray := prog_9_method_44_code
def yX7_cleared : MethodName := ⟨RX7, "cleared", "()I"⟩
abbrev cX7_clear : ByteArray := prog_9_method_45_code
def yX7_clear : MethodName := ⟨RX7, "clear", "()I"⟩
abbrev cX7_changed : ByteArray := prog_9_method_46_code
def yX7_changed : MethodName := ⟨RX7, "changed", "(I)I"⟩
abbrev cX7_apart : ByteArray := prog_9_method_47_code
def yX7_apart : MethodName := ⟨RX7, "apart", "(II)I"⟩
abbrev cX7_of : ByteArray := prog_9_method_48_code
def yX7_of : MethodName := ⟨RX7, "of", "(II)I"⟩
abbrev cX7_page : ByteArray := prog_9_method_49_code
def yX7_page : MethodName := ⟨RX7, "page", "(III)I"⟩
abbrev cX7_pagesBy : ByteArray := prog_9_method_50_code
def yX7_pagesBy : MethodName := ⟨RX7, "pagesBy", "(I)I"⟩
abbrev cX7_seat : ByteArray := prog_9_method_51_code
def yX7_seat : MethodName := ⟨RX7, "seat", "(II)I"⟩
abbrev cX7_word : ByteArray := prog_9_method_52_code
def yX7_word : MethodName := ⟨RX7, "word", "(I)I"⟩
abbrev cX7_allPoints : ByteArray := prog_9_method_53_code
def yX7_allPoints : MethodName := ⟨RX7, "allPoints", "()I"⟩
abbrev cX7_count : ByteArray := prog_9_method_54_code
def yX7_count : MethodName := ⟨RX7, "count", "(I)I"⟩
abbrev cX7_guess : ByteArray := prog_9_method_55_code
def yX7_guess : MethodName := ⟨RX7, "guess", "(I)I"⟩
abbrev cX7_foretold : ByteArray := prog_9_method_56_code
def yX7_foretold : MethodName := ⟨RX7, "foretold", "(II)I"⟩
abbrev cX7_differsWith : ByteArray := prog_9_method_57_code
def yX7_differsWith : MethodName := ⟨RX7, "differsWith", "(II)I"⟩
abbrev cX7_bestWord : ByteArray := prog_9_method_58_code
def yX7_bestWord : MethodName := ⟨RX7, "bestWord", "(II)I"⟩
abbrev cX7_pointsThen : ByteArray := prog_9_method_59_code
def yX7_pointsThen : MethodName := ⟨RX7, "pointsThen", "(I)I"⟩
abbrev cX7_put : ByteArray := prog_9_method_60_code
def yX7_put : MethodName := ⟨RX7, "put", "(J)I"⟩
abbrev cX7_wipe : ByteArray := prog_9_method_61_code
def yX7_wipe : MethodName := ⟨RX7, "wipe", "()I"⟩
abbrev cX7_character : ByteArray := prog_9_method_62_code
def yX7_character : MethodName := ⟨RX7, "character", "(I)I"⟩
abbrev cX7_isNext : ByteArray := prog_9_method_63_code
def yX7_isNext : MethodName := ⟨RX7, "isNext", "(I)Z"⟩
abbrev cX7_takeDigit : ByteArray := prog_9_method_64_code
def yX7_takeDigit : MethodName := ⟨RX7, "takeDigit", "(II)I"⟩
abbrev cX7_takeNumber : ByteArray := prog_9_method_65_code
def yX7_takeNumber : MethodName := ⟨RX7, "takeNumber", "()I"⟩
abbrev cX7_readsOrder : ByteArray := prog_9_method_66_code
def yX7_readsOrder : MethodName := ⟨RX7, "readsOrder", "()Z"⟩
abbrev cX7_findFault : ByteArray := prog_9_method_67_code
def yX7_findFault : MethodName := ⟨RX7, "findFault", "()I"⟩
abbrev cX7_fault : ByteArray := prog_9_method_68_code
def yX7_fault : MethodName := ⟨RX7, "fault", "()I"⟩
abbrev cX7_whyNotDone : ByteArray := prog_9_method_69_code
def yX7_whyNotDone : MethodName := ⟨RX7, "whyNotDone", "()I"⟩
abbrev cX7_does : ByteArray := prog_9_method_70_code
def yX7_does : MethodName := ⟨RX7, "does", "()V"⟩
abbrev cX7_carryOut : ByteArray := prog_9_method_71_code
def yX7_carryOut : MethodName := ⟨RX7, "carryOut", "()I"⟩
abbrev cX7_undo : ByteArray := prog_9_method_72_code
def yX7_undo : MethodName := ⟨RX7, "undo", "()I"⟩
abbrev cX7_save : ByteArray := prog_9_method_73_code
def yX7_save : MethodName := ⟨RX7, "save", "(I)I"⟩
abbrev cX7_restore : ByteArray := prog_9_method_74_code
def yX7_restore : MethodName := ⟨RX7, "restore", "(I)I"⟩
def RJ6 : String := "java/lang/Integer"
def TJ6 : u_T := fun k => match k with
  | _ => ("", "", "", false)
def tyJ6 : Nat → FieldType := fun k => match k with
  | _ => .int
abbrev wsJ60 : List Cond := u_ws RJ6 TJ6 0
theorem nmJ6 : ∀ a, a < 0 → ∀ b, b < 0 → a ≠ b → (TJ6 a).2.1 ≠ (TJ6 b).2.1 := by decide +kernel
theorem tyJ6_ok : ∀ k, k < 0 → parseFieldDescriptor (TJ6 k).2.2.1 = some (tyJ6 k) := by decide +kernel
abbrev cJ6_bitCount_0f7a4 : ByteArray := prog_10_method_49_code
def yJ6_bitCount_0f7a4 : MethodName := ⟨RJ6, "bitCount", "(I)I"⟩
def RJ9 : String := "java/lang/Math"
def TJ9 : u_T := fun k => match k with
  | _ => ("", "", "", false)
def tyJ9 : Nat → FieldType := fun k => match k with
  | _ => .int
abbrev wsJ90 : List Cond := u_ws RJ9 TJ9 0
theorem nmJ9 : ∀ a, a < 0 → ∀ b, b < 0 → a ≠ b → (TJ9 a).2.1 ≠ (TJ9 b).2.1 := by decide +kernel
theorem tyJ9_ok : ∀ k, k < 0 → parseFieldDescriptor (TJ9 k).2.2.1 = some (tyJ9 k) := by decide +kernel
abbrev cJ9_min_7cf53 : ByteArray := prog_11_method_69_code
def yJ9_min_7cf53 : MethodName := ⟨RJ9, "min", "(II)I"⟩
def RJ10 : String := "java/lang/System"
def TJ10 : u_T := fun k => match k with
  | _ => ("", "", "", false)
def tyJ10 : Nat → FieldType := fun k => match k with
  | _ => .int
abbrev wsJ100 : List Cond := u_ws RJ10 TJ10 0
theorem nmJ10 : ∀ a, a < 0 → ∀ b, b < 0 → a ≠ b → (TJ10 a).2.1 ≠ (TJ10 b).2.1 := by decide +kernel
theorem tyJ10_ok : ∀ k, k < 0 → parseFieldDescriptor (TJ10 k).2.2.1 = some (tyJ10 k) := by decide +kernel
def RL : String := "DoodleAlbumsLaw"
abbrev cL_law : ByteArray := code
def yL_law : MethodName := ⟨RL, "law", "([I)Z"⟩
abbrev vwCl : List vw_C := [(RX0, TX0, 7), (RX1, TX1, 3), (RX2, TX2, 3), (RX3, TX3, 6), (RX4, TX4, 2), (RX5, TX5, 7), (RX6, TX6, 5), (RX7, TX7, 12)]
theorem aInX0 : ∀ w ∈ wsX00, w ∈ lw_tbl := by decide +kernel
theorem aInX1 : ∀ w ∈ wsX10, w ∈ lw_tbl := by decide +kernel
theorem aInX2 : ∀ w ∈ wsX20, w ∈ lw_tbl := by decide +kernel
theorem aInX3 : ∀ w ∈ wsX30, w ∈ lw_tbl := by decide +kernel
theorem aInX4 : ∀ w ∈ wsX40, w ∈ lw_tbl := by decide +kernel
theorem aInX5 : ∀ w ∈ wsX50, w ∈ lw_tbl := by decide +kernel
theorem aInX6 : ∀ w ∈ wsX60, w ∈ lw_tbl := by decide +kernel
theorem aInX7 : ∀ w ∈ wsX70, w ∈ lw_tbl := by decide +kernel
