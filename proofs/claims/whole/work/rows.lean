section
-- ===== PART A: goes FIRST, ahead of the names: the tables' words, and 'selects' of the private methods out of them =====
/-- a private method of a class that the tables say can be made, by its rows of tables_1 -/
def lw_okq (q : MethodName × Nat) : Prop := (q.1.cls ≠ "java/lang/invoke/MethodHandle" ∧ q.1.cls ≠ "java/lang/invoke/VarHandle") ∧ Cond.instantiable q.1.cls q.2 ∈ tables_1 ∧ Cond.privateMethod q.1 ∈ tables_1 ∧ Cond.instanceMethod q.1 ∈ tables_1
theorem lw_p0 : lw_okq (⟨"RerootStore$Tape", "takeToken", "()V"⟩, 12) := ⟨⟨by decide +kernel, by decide +kernel⟩, List.mem_of_getElem? (i := 23) (by decide +kernel), List.mem_of_getElem? (i := 263) (by decide +kernel), List.mem_of_getElem? (i := 264) (by decide +kernel)⟩
theorem lw_p1 : lw_okq (⟨"RerootStore$Tape", "byteAt", "(I)I"⟩, 12) := ⟨⟨by decide +kernel, by decide +kernel⟩, List.mem_of_getElem? (i := 23) (by decide +kernel), List.mem_of_getElem? (i := 267) (by decide +kernel), List.mem_of_getElem? (i := 268) (by decide +kernel)⟩
theorem lw_p2 : lw_okq (⟨"RerootStore$Tape", "takeLetters", "()V"⟩, 12) := ⟨⟨by decide +kernel, by decide +kernel⟩, List.mem_of_getElem? (i := 23) (by decide +kernel), List.mem_of_getElem? (i := 277) (by decide +kernel), List.mem_of_getElem? (i := 278) (by decide +kernel)⟩
theorem lw_p3 : lw_okq (⟨"RerootStore$Tape", "takeDigits", "()V"⟩, 12) := ⟨⟨by decide +kernel, by decide +kernel⟩, List.mem_of_getElem? (i := 23) (by decide +kernel), List.mem_of_getElem? (i := 284) (by decide +kernel), List.mem_of_getElem? (i := 285) (by decide +kernel)⟩
theorem lw_p4 : lw_okq (⟨"RerootStore$Tape", "wordKind", "()I"⟩, 12) := ⟨⟨by decide +kernel, by decide +kernel⟩, List.mem_of_getElem? (i := 23) (by decide +kernel), List.mem_of_getElem? (i := 303) (by decide +kernel), List.mem_of_getElem? (i := 304) (by decide +kernel)⟩
theorem lw_p5 : lw_okq (⟨"RerootStore$Tape", "isWord", "(Ljava/lang/String;)Z"⟩, 12) := ⟨⟨by decide +kernel, by decide +kernel⟩, List.mem_of_getElem? (i := 23) (by decide +kernel), List.mem_of_getElem? (i := 308) (by decide +kernel), List.mem_of_getElem? (i := 309) (by decide +kernel)⟩
theorem lw_p6 : lw_okq (⟨"RerootStore$Tape", "refuse", "(II)V"⟩, 12) := ⟨⟨by decide +kernel, by decide +kernel⟩, List.mem_of_getElem? (i := 23) (by decide +kernel), List.mem_of_getElem? (i := 366) (by decide +kernel), List.mem_of_getElem? (i := 367) (by decide +kernel)⟩
theorem lw_p7 : lw_okq (⟨"RerootStore$Tape", "isOneTooMany", "(LRerootStore$Story;)Z"⟩, 12) := ⟨⟨by decide +kernel, by decide +kernel⟩, List.mem_of_getElem? (i := 23) (by decide +kernel), List.mem_of_getElem? (i := 370) (by decide +kernel), List.mem_of_getElem? (i := 371) (by decide +kernel)⟩
theorem lw_p8 : lw_okq (⟨"RerootStore$Tape", "takeNumbers", "(LRerootStore$Story;)V"⟩, 12) := ⟨⟨by decide +kernel, by decide +kernel⟩, List.mem_of_getElem? (i := 23) (by decide +kernel), List.mem_of_getElem? (i := 374) (by decide +kernel), List.mem_of_getElem? (i := 375) (by decide +kernel)⟩
theorem lw_p9 : lw_okq (⟨"RerootStore$Tape", "takeStore", "()V"⟩, 12) := ⟨⟨by decide +kernel, by decide +kernel⟩, List.mem_of_getElem? (i := 23) (by decide +kernel), List.mem_of_getElem? (i := 378) (by decide +kernel), List.mem_of_getElem? (i := 379) (by decide +kernel)⟩
theorem lw_p10 : lw_okq (⟨"RerootStore$Tape", "takeWord", "(Ljava/lang/String;)V"⟩, 12) := ⟨⟨by decide +kernel, by decide +kernel⟩, List.mem_of_getElem? (i := 23) (by decide +kernel), List.mem_of_getElem? (i := 383) (by decide +kernel), List.mem_of_getElem? (i := 384) (by decide +kernel)⟩
theorem lw_p11 : lw_okq (⟨"RerootStore$Tape", "takeNumber", "(II)I"⟩, 12) := ⟨⟨by decide +kernel, by decide +kernel⟩, List.mem_of_getElem? (i := 23) (by decide +kernel), List.mem_of_getElem? (i := 387) (by decide +kernel), List.mem_of_getElem? (i := 388) (by decide +kernel)⟩
theorem lw_p12 : lw_okq (⟨"RerootStore$Tape", "takePair", "(LRerootStore$Story;)V"⟩, 12) := ⟨⟨by decide +kernel, by decide +kernel⟩, List.mem_of_getElem? (i := 23) (by decide +kernel), List.mem_of_getElem? (i := 393) (by decide +kernel), List.mem_of_getElem? (i := 394) (by decide +kernel)⟩
theorem lw_p13 : lw_okq (⟨"RerootStore$Tape", "takeDeed", "(LRerootStore$Shelf;)V"⟩, 12) := ⟨⟨by decide +kernel, by decide +kernel⟩, List.mem_of_getElem? (i := 23) (by decide +kernel), List.mem_of_getElem? (i := 405) (by decide +kernel), List.mem_of_getElem? (i := 406) (by decide +kernel)⟩
theorem lw_p14 : lw_okq (⟨"RerootStore$Tape", "takeSign", "()V"⟩, 12) := ⟨⟨by decide +kernel, by decide +kernel⟩, List.mem_of_getElem? (i := 23) (by decide +kernel), List.mem_of_getElem? (i := 432) (by decide +kernel), List.mem_of_getElem? (i := 433) (by decide +kernel)⟩
theorem lw_p15 : lw_okq (⟨"RerootStore$Story", "ownNumbers", "(I)J"⟩, 11) := ⟨⟨by decide +kernel, by decide +kernel⟩, List.mem_of_getElem? (i := 171) (by decide +kernel), List.mem_of_getElem? (i := 440) (by decide +kernel), List.mem_of_getElem? (i := 441) (by decide +kernel)⟩
def lw_privs_1 : List (MethodName × Nat) := [(⟨"RerootStore$Tape", "takeToken", "()V"⟩, 12), (⟨"RerootStore$Tape", "byteAt", "(I)I"⟩, 12), (⟨"RerootStore$Tape", "takeLetters", "()V"⟩, 12), (⟨"RerootStore$Tape", "takeDigits", "()V"⟩, 12), (⟨"RerootStore$Tape", "wordKind", "()I"⟩, 12), (⟨"RerootStore$Tape", "isWord", "(Ljava/lang/String;)Z"⟩, 12), (⟨"RerootStore$Tape", "refuse", "(II)V"⟩, 12), (⟨"RerootStore$Tape", "isOneTooMany", "(LRerootStore$Story;)Z"⟩, 12), (⟨"RerootStore$Tape", "takeNumbers", "(LRerootStore$Story;)V"⟩, 12), (⟨"RerootStore$Tape", "takeStore", "()V"⟩, 12), (⟨"RerootStore$Tape", "takeWord", "(Ljava/lang/String;)V"⟩, 12), (⟨"RerootStore$Tape", "takeNumber", "(II)I"⟩, 12), (⟨"RerootStore$Tape", "takePair", "(LRerootStore$Story;)V"⟩, 12), (⟨"RerootStore$Tape", "takeDeed", "(LRerootStore$Shelf;)V"⟩, 12), (⟨"RerootStore$Tape", "takeSign", "()V"⟩, 12), (⟨"RerootStore$Story", "ownNumbers", "(I)J"⟩, 11)]
theorem lw_r1 : ∀ q ∈ lw_privs_1, lw_okq q := List.forall_mem_cons.mpr ⟨lw_p0, List.forall_mem_cons.mpr ⟨lw_p1, List.forall_mem_cons.mpr ⟨lw_p2, List.forall_mem_cons.mpr ⟨lw_p3, List.forall_mem_cons.mpr ⟨lw_p4, List.forall_mem_cons.mpr ⟨lw_p5, List.forall_mem_cons.mpr ⟨lw_p6, List.forall_mem_cons.mpr ⟨lw_p7, List.forall_mem_cons.mpr ⟨lw_p8, List.forall_mem_cons.mpr ⟨lw_p9, List.forall_mem_cons.mpr ⟨lw_p10, List.forall_mem_cons.mpr ⟨lw_p11, List.forall_mem_cons.mpr ⟨lw_p12, List.forall_mem_cons.mpr ⟨lw_p13, List.forall_mem_cons.mpr ⟨lw_p14, List.forall_mem_cons.mpr ⟨lw_p15, fun _ h => absurd h List.not_mem_nil⟩⟩⟩⟩⟩⟩⟩⟩⟩⟩⟩⟩⟩⟩⟩⟩
theorem lw_p16 : lw_okq (⟨"RerootStore$Story", "pairUp", "(II)V"⟩, 11) := ⟨⟨by decide +kernel, by decide +kernel⟩, List.mem_of_getElem? (i := 171) (by decide +kernel), List.mem_of_getElem? (i := 453) (by decide +kernel), List.mem_of_getElem? (i := 454) (by decide +kernel)⟩
theorem lw_p17 : lw_okq (⟨"RerootStore$Shelf", "linksBefore", "(II)I"⟩, 10) := ⟨⟨by decide +kernel, by decide +kernel⟩, List.mem_of_getElem? (i := 76) (by decide +kernel), List.mem_of_getElem? (i := 473) (by decide +kernel), List.mem_of_getElem? (i := 474) (by decide +kernel)⟩
theorem lw_p18 : lw_okq (⟨"RerootStore$Shelf", "reach", "(I)V"⟩, 10) := ⟨⟨by decide +kernel, by decide +kernel⟩, List.mem_of_getElem? (i := 76) (by decide +kernel), List.mem_of_getElem? (i := 477) (by decide +kernel), List.mem_of_getElem? (i := 478) (by decide +kernel)⟩
theorem lw_p19 : lw_okq (⟨"RerootStore$Shelf", "isTooLong", "(I)Z"⟩, 10) := ⟨⟨by decide +kernel, by decide +kernel⟩, List.mem_of_getElem? (i := 76) (by decide +kernel), List.mem_of_getElem? (i := 485) (by decide +kernel), List.mem_of_getElem? (i := 486) (by decide +kernel)⟩
theorem lw_p20 : lw_okq (⟨"RerootStore$Shelf", "giveRow", "(II)V"⟩, 10) := ⟨⟨by decide +kernel, by decide +kernel⟩, List.mem_of_getElem? (i := 76) (by decide +kernel), List.mem_of_getElem? (i := 489) (by decide +kernel), List.mem_of_getElem? (i := 490) (by decide +kernel)⟩
theorem lw_p21 : lw_okq (⟨"RerootStore$Shelf", "turnWay", "(I)V"⟩, 10) := ⟨⟨by decide +kernel, by decide +kernel⟩, List.mem_of_getElem? (i := 76) (by decide +kernel), List.mem_of_getElem? (i := 493) (by decide +kernel), List.mem_of_getElem? (i := 494) (by decide +kernel)⟩
theorem lw_p22 : lw_okq (⟨"RerootStore$Shelf", "joinRoots", "(III)I"⟩, 10) := ⟨⟨by decide +kernel, by decide +kernel⟩, List.mem_of_getElem? (i := 76) (by decide +kernel), List.mem_of_getElem? (i := 510) (by decide +kernel), List.mem_of_getElem? (i := 511) (by decide +kernel)⟩
theorem lw_p23 : lw_okq (⟨"RerootStore$Shelf", "inConflict", "(III)Z"⟩, 10) := ⟨⟨by decide +kernel, by decide +kernel⟩, List.mem_of_getElem? (i := 76) (by decide +kernel), List.mem_of_getElem? (i := 532) (by decide +kernel), List.mem_of_getElem? (i := 533) (by decide +kernel)⟩
theorem lw_p24 : lw_okq (⟨"RerootStore$Shelf", "layOn", "(IJ)I"⟩, 10) := ⟨⟨by decide +kernel, by decide +kernel⟩, List.mem_of_getElem? (i := 76) (by decide +kernel), List.mem_of_getElem? (i := 536) (by decide +kernel), List.mem_of_getElem? (i := 537) (by decide +kernel)⟩
theorem lw_p25 : lw_okq (⟨"RerootStore", "hasSpot", "(II)Z"⟩, 6) := ⟨⟨by decide +kernel, by decide +kernel⟩, List.mem_of_getElem? (i := 15) (by decide +kernel), List.mem_of_getElem? (i := 560) (by decide +kernel), List.mem_of_getElem? (i := 561) (by decide +kernel)⟩
theorem lw_p26 : lw_okq (⟨"RerootStore", "hasVersion", "(I)Z"⟩, 6) := ⟨⟨by decide +kernel, by decide +kernel⟩, List.mem_of_getElem? (i := 15) (by decide +kernel), List.mem_of_getElem? (i := 571) (by decide +kernel), List.mem_of_getElem? (i := 572) (by decide +kernel)⟩
theorem lw_p27 : lw_okq (⟨"RerootStore", "hasVersions", "(II)Z"⟩, 6) := ⟨⟨by decide +kernel, by decide +kernel⟩, List.mem_of_getElem? (i := 15) (by decide +kernel), List.mem_of_getElem? (i := 583) (by decide +kernel), List.mem_of_getElem? (i := 584) (by decide +kernel)⟩
theorem lw_p28 : lw_okq (⟨"RerootStore", "isThere", "()Z"⟩, 6) := ⟨⟨by decide +kernel, by decide +kernel⟩, List.mem_of_getElem? (i := 15) (by decide +kernel), List.mem_of_getElem? (i := 673) (by decide +kernel), List.mem_of_getElem? (i := 674) (by decide +kernel)⟩
theorem lw_p29 : lw_okq (⟨"RerootStore$Shelf", "waysThrough", "(I)I"⟩, 10) := ⟨⟨by decide +kernel, by decide +kernel⟩, List.mem_of_getElem? (i := 76) (by decide +kernel), List.mem_of_getElem? (i := 718) (by decide +kernel), List.mem_of_getElem? (i := 719) (by decide +kernel)⟩
theorem lw_p30 : lw_okq (⟨"RerootStore$Shelf", "wayBits", "(I)J"⟩, 10) := ⟨⟨by decide +kernel, by decide +kernel⟩, List.mem_of_getElem? (i := 76) (by decide +kernel), List.mem_of_getElem? (i := 722) (by decide +kernel), List.mem_of_getElem? (i := 723) (by decide +kernel)⟩
theorem lw_p31 : lw_okq (⟨"RerootStore", "hasAllOf", "(J)Z"⟩, 6) := ⟨⟨by decide +kernel, by decide +kernel⟩, List.mem_of_getElem? (i := 15) (by decide +kernel), List.mem_of_getElem? (i := 730) (by decide +kernel), List.mem_of_getElem? (i := 731) (by decide +kernel)⟩
def lw_privs_2 : List (MethodName × Nat) := [(⟨"RerootStore$Story", "pairUp", "(II)V"⟩, 11), (⟨"RerootStore$Shelf", "linksBefore", "(II)I"⟩, 10), (⟨"RerootStore$Shelf", "reach", "(I)V"⟩, 10), (⟨"RerootStore$Shelf", "isTooLong", "(I)Z"⟩, 10), (⟨"RerootStore$Shelf", "giveRow", "(II)V"⟩, 10), (⟨"RerootStore$Shelf", "turnWay", "(I)V"⟩, 10), (⟨"RerootStore$Shelf", "joinRoots", "(III)I"⟩, 10), (⟨"RerootStore$Shelf", "inConflict", "(III)Z"⟩, 10), (⟨"RerootStore$Shelf", "layOn", "(IJ)I"⟩, 10), (⟨"RerootStore", "hasSpot", "(II)Z"⟩, 6), (⟨"RerootStore", "hasVersion", "(I)Z"⟩, 6), (⟨"RerootStore", "hasVersions", "(II)Z"⟩, 6), (⟨"RerootStore", "isThere", "()Z"⟩, 6), (⟨"RerootStore$Shelf", "waysThrough", "(I)I"⟩, 10), (⟨"RerootStore$Shelf", "wayBits", "(I)J"⟩, 10), (⟨"RerootStore", "hasAllOf", "(J)Z"⟩, 6)]
theorem lw_r2 : ∀ q ∈ lw_privs_2, lw_okq q := List.forall_mem_cons.mpr ⟨lw_p16, List.forall_mem_cons.mpr ⟨lw_p17, List.forall_mem_cons.mpr ⟨lw_p18, List.forall_mem_cons.mpr ⟨lw_p19, List.forall_mem_cons.mpr ⟨lw_p20, List.forall_mem_cons.mpr ⟨lw_p21, List.forall_mem_cons.mpr ⟨lw_p22, List.forall_mem_cons.mpr ⟨lw_p23, List.forall_mem_cons.mpr ⟨lw_p24, List.forall_mem_cons.mpr ⟨lw_p25, List.forall_mem_cons.mpr ⟨lw_p26, List.forall_mem_cons.mpr ⟨lw_p27, List.forall_mem_cons.mpr ⟨lw_p28, List.forall_mem_cons.mpr ⟨lw_p29, List.forall_mem_cons.mpr ⟨lw_p30, List.forall_mem_cons.mpr ⟨lw_p31, fun _ h => absurd h List.not_mem_nil⟩⟩⟩⟩⟩⟩⟩⟩⟩⟩⟩⟩⟩⟩⟩⟩
theorem lw_p32 : lw_okq (⟨"RerootStore", "hasActLeft", "()Z"⟩, 6) := ⟨⟨by decide +kernel, by decide +kernel⟩, List.mem_of_getElem? (i := 15) (by decide +kernel), List.mem_of_getElem? (i := 804) (by decide +kernel), List.mem_of_getElem? (i := 805) (by decide +kernel)⟩
theorem lw_p33 : lw_okq (⟨"RerootStore", "hasRoomFor", "(I)Z"⟩, 6) := ⟨⟨by decide +kernel, by decide +kernel⟩, List.mem_of_getElem? (i := 15) (by decide +kernel), List.mem_of_getElem? (i := 813) (by decide +kernel), List.mem_of_getElem? (i := 814) (by decide +kernel)⟩
theorem lw_p34 : lw_okq (⟨"RerootStore", "mayColour", "(II)Z"⟩, 6) := ⟨⟨by decide +kernel, by decide +kernel⟩, List.mem_of_getElem? (i := 15) (by decide +kernel), List.mem_of_getElem? (i := 864) (by decide +kernel), List.mem_of_getElem? (i := 865) (by decide +kernel)⟩
theorem lw_p35 : lw_okq (⟨"RerootStore$Painter", "begin", "(LRerootStore$Story;IIJ)V"⟩, 10) := ⟨⟨by decide +kernel, by decide +kernel⟩, List.mem_of_getElem? (i := 133) (by decide +kernel), List.mem_of_getElem? (i := 872) (by decide +kernel), List.mem_of_getElem? (i := 873) (by decide +kernel)⟩
theorem lw_p36 : lw_okq (⟨"RerootStore$Painter", "openCell", "(II)V"⟩, 10) := ⟨⟨by decide +kernel, by decide +kernel⟩, List.mem_of_getElem? (i := 133) (by decide +kernel), List.mem_of_getElem? (i := 877) (by decide +kernel), List.mem_of_getElem? (i := 878) (by decide +kernel)⟩
theorem lw_p37 : lw_okq (⟨"RerootStore$Painter", "paintNext", "(LRerootStore$Story;I)I"⟩, 10) := ⟨⟨by decide +kernel, by decide +kernel⟩, List.mem_of_getElem? (i := 133) (by decide +kernel), List.mem_of_getElem? (i := 882) (by decide +kernel), List.mem_of_getElem? (i := 883) (by decide +kernel)⟩
theorem lw_p38 : lw_okq (⟨"RerootStore$Painter", "isFree", "(III)Z"⟩, 10) := ⟨⟨by decide +kernel, by decide +kernel⟩, List.mem_of_getElem? (i := 133) (by decide +kernel), List.mem_of_getElem? (i := 888) (by decide +kernel), List.mem_of_getElem? (i := 889) (by decide +kernel)⟩
theorem lw_p39 : lw_okq (⟨"RerootStore$Painter", "put", "(III)I"⟩, 10) := ⟨⟨by decide +kernel, by decide +kernel⟩, List.mem_of_getElem? (i := 133) (by decide +kernel), List.mem_of_getElem? (i := 893) (by decide +kernel), List.mem_of_getElem? (i := 894) (by decide +kernel)⟩
theorem lw_p40 : lw_okq (⟨"RerootStore$Painter", "backFrom", "(I)I"⟩, 10) := ⟨⟨by decide +kernel, by decide +kernel⟩, List.mem_of_getElem? (i := 133) (by decide +kernel), List.mem_of_getElem? (i := 898) (by decide +kernel), List.mem_of_getElem? (i := 899) (by decide +kernel)⟩
theorem lw_p41 : lw_okq (⟨"RerootStore$Painter", "fullRow", "(II)J"⟩, 10) := ⟨⟨by decide +kernel, by decide +kernel⟩, List.mem_of_getElem? (i := 133) (by decide +kernel), List.mem_of_getElem? (i := 931) (by decide +kernel), List.mem_of_getElem? (i := 932) (by decide +kernel)⟩
theorem lw_p42 : lw_okq (⟨"RerootStore$Painter", "takeCell", "(II)V"⟩, 10) := ⟨⟨by decide +kernel, by decide +kernel⟩, List.mem_of_getElem? (i := 133) (by decide +kernel), List.mem_of_getElem? (i := 936) (by decide +kernel), List.mem_of_getElem? (i := 937) (by decide +kernel)⟩
theorem lw_p43 : lw_okq (⟨"RerootStore$Painter", "paintAhead", "(LRerootStore$Story;I)I"⟩, 10) := ⟨⟨by decide +kernel, by decide +kernel⟩, List.mem_of_getElem? (i := 133) (by decide +kernel), List.mem_of_getElem? (i := 941) (by decide +kernel), List.mem_of_getElem? (i := 942) (by decide +kernel)⟩
theorem lw_p44 : lw_okq (⟨"RerootStore$Painter", "strikeOut", "(III)I"⟩, 10) := ⟨⟨by decide +kernel, by decide +kernel⟩, List.mem_of_getElem? (i := 133) (by decide +kernel), List.mem_of_getElem? (i := 945) (by decide +kernel), List.mem_of_getElem? (i := 946) (by decide +kernel)⟩
theorem lw_p45 : lw_okq (⟨"RerootStore", "imageAt", "(I)LRerootStore$Story;"⟩, 6) := ⟨⟨by decide +kernel, by decide +kernel⟩, List.mem_of_getElem? (i := 15) (by decide +kernel), List.mem_of_getElem? (i := 965) (by decide +kernel), List.mem_of_getElem? (i := 966) (by decide +kernel)⟩
theorem lw_p46 : lw_okq (⟨"RerootStoreModel", "next", "()V"⟩, 38) := ⟨⟨by decide +kernel, by decide +kernel⟩, List.mem_of_getElem? (i := 999) (by decide +kernel), List.mem_of_getElem? (i := 1136) (by decide +kernel), List.mem_of_getElem? (i := 1137) (by decide +kernel)⟩
theorem lw_p47 : lw_okq (⟨"RerootStoreModel", "isAt", "(II)Z"⟩, 38) := ⟨⟨by decide +kernel, by decide +kernel⟩, List.mem_of_getElem? (i := 999) (by decide +kernel), List.mem_of_getElem? (i := 1140) (by decide +kernel), List.mem_of_getElem? (i := 1141) (by decide +kernel)⟩
def lw_privs_3 : List (MethodName × Nat) := [(⟨"RerootStore", "hasActLeft", "()Z"⟩, 6), (⟨"RerootStore", "hasRoomFor", "(I)Z"⟩, 6), (⟨"RerootStore", "mayColour", "(II)Z"⟩, 6), (⟨"RerootStore$Painter", "begin", "(LRerootStore$Story;IIJ)V"⟩, 10), (⟨"RerootStore$Painter", "openCell", "(II)V"⟩, 10), (⟨"RerootStore$Painter", "paintNext", "(LRerootStore$Story;I)I"⟩, 10), (⟨"RerootStore$Painter", "isFree", "(III)Z"⟩, 10), (⟨"RerootStore$Painter", "put", "(III)I"⟩, 10), (⟨"RerootStore$Painter", "backFrom", "(I)I"⟩, 10), (⟨"RerootStore$Painter", "fullRow", "(II)J"⟩, 10), (⟨"RerootStore$Painter", "takeCell", "(II)V"⟩, 10), (⟨"RerootStore$Painter", "paintAhead", "(LRerootStore$Story;I)I"⟩, 10), (⟨"RerootStore$Painter", "strikeOut", "(III)I"⟩, 10), (⟨"RerootStore", "imageAt", "(I)LRerootStore$Story;"⟩, 6), (⟨"RerootStoreModel", "next", "()V"⟩, 38), (⟨"RerootStoreModel", "isAt", "(II)Z"⟩, 38)]
theorem lw_r3 : ∀ q ∈ lw_privs_3, lw_okq q := List.forall_mem_cons.mpr ⟨lw_p32, List.forall_mem_cons.mpr ⟨lw_p33, List.forall_mem_cons.mpr ⟨lw_p34, List.forall_mem_cons.mpr ⟨lw_p35, List.forall_mem_cons.mpr ⟨lw_p36, List.forall_mem_cons.mpr ⟨lw_p37, List.forall_mem_cons.mpr ⟨lw_p38, List.forall_mem_cons.mpr ⟨lw_p39, List.forall_mem_cons.mpr ⟨lw_p40, List.forall_mem_cons.mpr ⟨lw_p41, List.forall_mem_cons.mpr ⟨lw_p42, List.forall_mem_cons.mpr ⟨lw_p43, List.forall_mem_cons.mpr ⟨lw_p44, List.forall_mem_cons.mpr ⟨lw_p45, List.forall_mem_cons.mpr ⟨lw_p46, List.forall_mem_cons.mpr ⟨lw_p47, fun _ h => absurd h List.not_mem_nil⟩⟩⟩⟩⟩⟩⟩⟩⟩⟩⟩⟩⟩⟩⟩⟩
theorem lw_p48 : lw_okq (⟨"RerootStoreModel", "readsStore", "()V"⟩, 38) := ⟨⟨by decide +kernel, by decide +kernel⟩, List.mem_of_getElem? (i := 999) (by decide +kernel), List.mem_of_getElem? (i := 1146) (by decide +kernel), List.mem_of_getElem? (i := 1147) (by decide +kernel)⟩
theorem lw_p49 : lw_okq (⟨"RerootStoreModel", "isWord", "(Ljava/lang/String;)Z"⟩, 38) := ⟨⟨by decide +kernel, by decide +kernel⟩, List.mem_of_getElem? (i := 999) (by decide +kernel), List.mem_of_getElem? (i := 1151) (by decide +kernel), List.mem_of_getElem? (i := 1152) (by decide +kernel)⟩
theorem lw_p50 : lw_okq (⟨"RerootStoreModel", "passes", "(Z)V"⟩, 38) := ⟨⟨by decide +kernel, by decide +kernel⟩, List.mem_of_getElem? (i := 999) (by decide +kernel), List.mem_of_getElem? (i := 1157) (by decide +kernel), List.mem_of_getElem? (i := 1158) (by decide +kernel)⟩
theorem lw_p51 : lw_okq (⟨"RerootStoreModel", "faults", "(I)V"⟩, 38) := ⟨⟨by decide +kernel, by decide +kernel⟩, List.mem_of_getElem? (i := 999) (by decide +kernel), List.mem_of_getElem? (i := 1161) (by decide +kernel), List.mem_of_getElem? (i := 1162) (by decide +kernel)⟩
theorem lw_p52 : lw_okq (⟨"RerootStoreModel", "named", "(Ljava/lang/String;II)I"⟩, 38) := ⟨⟨by decide +kernel, by decide +kernel⟩, List.mem_of_getElem? (i := 999) (by decide +kernel), List.mem_of_getElem? (i := 1166) (by decide +kernel), List.mem_of_getElem? (i := 1167) (by decide +kernel)⟩
theorem lw_p53 : lw_okq (⟨"RerootStoreModel", "number", "(II)I"⟩, 38) := ⟨⟨by decide +kernel, by decide +kernel⟩, List.mem_of_getElem? (i := 999) (by decide +kernel), List.mem_of_getElem? (i := 1170) (by decide +kernel), List.mem_of_getElem? (i := 1171) (by decide +kernel)⟩
theorem lw_p54 : lw_okq (⟨"RerootStoreModel", "readsPair", "()V"⟩, 38) := ⟨⟨by decide +kernel, by decide +kernel⟩, List.mem_of_getElem? (i := 999) (by decide +kernel), List.mem_of_getElem? (i := 1177) (by decide +kernel), List.mem_of_getElem? (i := 1178) (by decide +kernel)⟩
theorem lw_p55 : lw_okq (⟨"RerootStoreModel", "readsCell", "()I"⟩, 38) := ⟨⟨by decide +kernel, by decide +kernel⟩, List.mem_of_getElem? (i := 999) (by decide +kernel), List.mem_of_getElem? (i := 1181) (by decide +kernel), List.mem_of_getElem? (i := 1182) (by decide +kernel)⟩
theorem lw_p56 : lw_okq (⟨"RerootStoreModel", "isCell", "(I)Z"⟩, 38) := ⟨⟨by decide +kernel, by decide +kernel⟩, List.mem_of_getElem? (i := 999) (by decide +kernel), List.mem_of_getElem? (i := 1185) (by decide +kernel), List.mem_of_getElem? (i := 1186) (by decide +kernel)⟩
theorem lw_p57 : lw_okq (⟨"RerootStoreModel", "needs", "(Z)V"⟩, 38) := ⟨⟨by decide +kernel, by decide +kernel⟩, List.mem_of_getElem? (i := 999) (by decide +kernel), List.mem_of_getElem? (i := 1192) (by decide +kernel), List.mem_of_getElem? (i := 1193) (by decide +kernel)⟩
theorem lw_p58 : lw_okq (⟨"RerootStoreModel", "kindHere", "()I"⟩, 38) := ⟨⟨by decide +kernel, by decide +kernel⟩, List.mem_of_getElem? (i := 999) (by decide +kernel), List.mem_of_getElem? (i := 1196) (by decide +kernel), List.mem_of_getElem? (i := 1197) (by decide +kernel)⟩
theorem lw_p59 : lw_okq (⟨"RerootStoreModel", "readsDeed", "(I)V"⟩, 38) := ⟨⟨by decide +kernel, by decide +kernel⟩, List.mem_of_getElem? (i := 999) (by decide +kernel), List.mem_of_getElem? (i := 1205) (by decide +kernel), List.mem_of_getElem? (i := 1206) (by decide +kernel)⟩
theorem lw_p60 : lw_okq (⟨"RerootStoreModel", "plays", "()I"⟩, 38) := ⟨⟨by decide +kernel, by decide +kernel⟩, List.mem_of_getElem? (i := 999) (by decide +kernel), List.mem_of_getElem? (i := 1209) (by decide +kernel), List.mem_of_getElem? (i := 1210) (by decide +kernel)⟩
theorem lw_p61 : lw_okq (⟨"RerootStoreModel", "plays", "(III)I"⟩, 38) := ⟨⟨by decide +kernel, by decide +kernel⟩, List.mem_of_getElem? (i := 999) (by decide +kernel), List.mem_of_getElem? (i := 1213) (by decide +kernel), List.mem_of_getElem? (i := 1214) (by decide +kernel)⟩
theorem lw_p62 : lw_okq (⟨"RerootStoreModel", "begins", "(III)V"⟩, 38) := ⟨⟨by decide +kernel, by decide +kernel⟩, List.mem_of_getElem? (i := 999) (by decide +kernel), List.mem_of_getElem? (i := 1217) (by decide +kernel), List.mem_of_getElem? (i := 1218) (by decide +kernel)⟩
theorem lw_p63 : lw_okq (⟨"RerootStoreModel", "straight", "(I)V"⟩, 38) := ⟨⟨by decide +kernel, by decide +kernel⟩, List.mem_of_getElem? (i := 999) (by decide +kernel), List.mem_of_getElem? (i := 1221) (by decide +kernel), List.mem_of_getElem? (i := 1222) (by decide +kernel)⟩
def lw_privs_4 : List (MethodName × Nat) := [(⟨"RerootStoreModel", "readsStore", "()V"⟩, 38), (⟨"RerootStoreModel", "isWord", "(Ljava/lang/String;)Z"⟩, 38), (⟨"RerootStoreModel", "passes", "(Z)V"⟩, 38), (⟨"RerootStoreModel", "faults", "(I)V"⟩, 38), (⟨"RerootStoreModel", "named", "(Ljava/lang/String;II)I"⟩, 38), (⟨"RerootStoreModel", "number", "(II)I"⟩, 38), (⟨"RerootStoreModel", "readsPair", "()V"⟩, 38), (⟨"RerootStoreModel", "readsCell", "()I"⟩, 38), (⟨"RerootStoreModel", "isCell", "(I)Z"⟩, 38), (⟨"RerootStoreModel", "needs", "(Z)V"⟩, 38), (⟨"RerootStoreModel", "kindHere", "()I"⟩, 38), (⟨"RerootStoreModel", "readsDeed", "(I)V"⟩, 38), (⟨"RerootStoreModel", "plays", "()I"⟩, 38), (⟨"RerootStoreModel", "plays", "(III)I"⟩, 38), (⟨"RerootStoreModel", "begins", "(III)V"⟩, 38), (⟨"RerootStoreModel", "straight", "(I)V"⟩, 38)]
theorem lw_r4 : ∀ q ∈ lw_privs_4, lw_okq q := List.forall_mem_cons.mpr ⟨lw_p48, List.forall_mem_cons.mpr ⟨lw_p49, List.forall_mem_cons.mpr ⟨lw_p50, List.forall_mem_cons.mpr ⟨lw_p51, List.forall_mem_cons.mpr ⟨lw_p52, List.forall_mem_cons.mpr ⟨lw_p53, List.forall_mem_cons.mpr ⟨lw_p54, List.forall_mem_cons.mpr ⟨lw_p55, List.forall_mem_cons.mpr ⟨lw_p56, List.forall_mem_cons.mpr ⟨lw_p57, List.forall_mem_cons.mpr ⟨lw_p58, List.forall_mem_cons.mpr ⟨lw_p59, List.forall_mem_cons.mpr ⟨lw_p60, List.forall_mem_cons.mpr ⟨lw_p61, List.forall_mem_cons.mpr ⟨lw_p62, List.forall_mem_cons.mpr ⟨lw_p63, fun _ h => absurd h List.not_mem_nil⟩⟩⟩⟩⟩⟩⟩⟩⟩⟩⟩⟩⟩⟩⟩⟩
theorem lw_p64 : lw_okq (⟨"RerootStoreModel", "does", "(I)I"⟩, 38) := ⟨⟨by decide +kernel, by decide +kernel⟩, List.mem_of_getElem? (i := 999) (by decide +kernel), List.mem_of_getElem? (i := 1225) (by decide +kernel), List.mem_of_getElem? (i := 1226) (by decide +kernel)⟩
theorem lw_p65 : lw_okq (⟨"RerootStoreModel", "deed", "(II)I"⟩, 38) := ⟨⟨by decide +kernel, by decide +kernel⟩, List.mem_of_getElem? (i := 999) (by decide +kernel), List.mem_of_getElem? (i := 1229) (by decide +kernel), List.mem_of_getElem? (i := 1230) (by decide +kernel)⟩
theorem lw_p66 : lw_okq (⟨"RerootStoreModel", "set", "(III)I"⟩, 38) := ⟨⟨by decide +kernel, by decide +kernel⟩, List.mem_of_getElem? (i := 999) (by decide +kernel), List.mem_of_getElem? (i := 1233) (by decide +kernel), List.mem_of_getElem? (i := 1234) (by decide +kernel)⟩
theorem lw_p67 : lw_okq (⟨"RerootStoreModel", "at", "(II)I"⟩, 38) := ⟨⟨by decide +kernel, by decide +kernel⟩, List.mem_of_getElem? (i := 999) (by decide +kernel), List.mem_of_getElem? (i := 1237) (by decide +kernel), List.mem_of_getElem? (i := 1238) (by decide +kernel)⟩
theorem lw_p68 : lw_okq (⟨"RerootStoreModel", "links", "(III)V"⟩, 38) := ⟨⟨by decide +kernel, by decide +kernel⟩, List.mem_of_getElem? (i := 999) (by decide +kernel), List.mem_of_getElem? (i := 1241) (by decide +kernel), List.mem_of_getElem? (i := 1242) (by decide +kernel)⟩
theorem lw_p69 : lw_okq (⟨"RerootStoreModel", "reach", "(I)V"⟩, 38) := ⟨⟨by decide +kernel, by decide +kernel⟩, List.mem_of_getElem? (i := 999) (by decide +kernel), List.mem_of_getElem? (i := 1245) (by decide +kernel), List.mem_of_getElem? (i := 1246) (by decide +kernel)⟩
theorem lw_p70 : lw_okq (⟨"RerootStoreModel", "lengthOf", "(I)I"⟩, 38) := ⟨⟨by decide +kernel, by decide +kernel⟩, List.mem_of_getElem? (i := 999) (by decide +kernel), List.mem_of_getElem? (i := 1249) (by decide +kernel), List.mem_of_getElem? (i := 1250) (by decide +kernel)⟩
theorem lw_p71 : lw_okq (⟨"RerootStoreModel", "snap", "(I)V"⟩, 38) := ⟨⟨by decide +kernel, by decide +kernel⟩, List.mem_of_getElem? (i := 999) (by decide +kernel), List.mem_of_getElem? (i := 1253) (by decide +kernel), List.mem_of_getElem? (i := 1254) (by decide +kernel)⟩
theorem lw_p72 : lw_okq (⟨"RerootStoreModel", "turns", "(I)V"⟩, 38) := ⟨⟨by decide +kernel, by decide +kernel⟩, List.mem_of_getElem? (i := 999) (by decide +kernel), List.mem_of_getElem? (i := 1257) (by decide +kernel), List.mem_of_getElem? (i := 1258) (by decide +kernel)⟩
theorem lw_p73 : lw_okq (⟨"RerootStoreModel", "join", "(III)I"⟩, 38) := ⟨⟨by decide +kernel, by decide +kernel⟩, List.mem_of_getElem? (i := 999) (by decide +kernel), List.mem_of_getElem? (i := 1261) (by decide +kernel), List.mem_of_getElem? (i := 1262) (by decide +kernel)⟩
theorem lw_p74 : lw_okq (⟨"RerootStoreModel", "find", "(II)I"⟩, 38) := ⟨⟨by decide +kernel, by decide +kernel⟩, List.mem_of_getElem? (i := 999) (by decide +kernel), List.mem_of_getElem? (i := 1265) (by decide +kernel), List.mem_of_getElem? (i := 1266) (by decide +kernel)⟩
theorem lw_p75 : lw_okq (⟨"RerootStoreModel", "read", "(II)I"⟩, 38) := ⟨⟨by decide +kernel, by decide +kernel⟩, List.mem_of_getElem? (i := 999) (by decide +kernel), List.mem_of_getElem? (i := 1269) (by decide +kernel), List.mem_of_getElem? (i := 1270) (by decide +kernel)⟩
theorem lw_p76 : lw_okq (⟨"RerootStoreModel", "along", "(II)I"⟩, 38) := ⟨⟨by decide +kernel, by decide +kernel⟩, List.mem_of_getElem? (i := 999) (by decide +kernel), List.mem_of_getElem? (i := 1273) (by decide +kernel), List.mem_of_getElem? (i := 1274) (by decide +kernel)⟩
theorem lw_p77 : lw_okq (⟨"RerootStoreModel", "merge", "(II)I"⟩, 38) := ⟨⟨by decide +kernel, by decide +kernel⟩, List.mem_of_getElem? (i := 999) (by decide +kernel), List.mem_of_getElem? (i := 1278) (by decide +kernel), List.mem_of_getElem? (i := 1279) (by decide +kernel)⟩
theorem lw_p78 : lw_okq (⟨"RerootStoreModel", "mergedOf", "(III)I"⟩, 38) := ⟨⟨by decide +kernel, by decide +kernel⟩, List.mem_of_getElem? (i := 999) (by decide +kernel), List.mem_of_getElem? (i := 1282) (by decide +kernel), List.mem_of_getElem? (i := 1283) (by decide +kernel)⟩
theorem lw_p79 : lw_okq (⟨"RerootStoreModel", "isConflict", "(III)Z"⟩, 38) := ⟨⟨by decide +kernel, by decide +kernel⟩, List.mem_of_getElem? (i := 999) (by decide +kernel), List.mem_of_getElem? (i := 1286) (by decide +kernel), List.mem_of_getElem? (i := 1287) (by decide +kernel)⟩
def lw_privs_5 : List (MethodName × Nat) := [(⟨"RerootStoreModel", "does", "(I)I"⟩, 38), (⟨"RerootStoreModel", "deed", "(II)I"⟩, 38), (⟨"RerootStoreModel", "set", "(III)I"⟩, 38), (⟨"RerootStoreModel", "at", "(II)I"⟩, 38), (⟨"RerootStoreModel", "links", "(III)V"⟩, 38), (⟨"RerootStoreModel", "reach", "(I)V"⟩, 38), (⟨"RerootStoreModel", "lengthOf", "(I)I"⟩, 38), (⟨"RerootStoreModel", "snap", "(I)V"⟩, 38), (⟨"RerootStoreModel", "turns", "(I)V"⟩, 38), (⟨"RerootStoreModel", "join", "(III)I"⟩, 38), (⟨"RerootStoreModel", "find", "(II)I"⟩, 38), (⟨"RerootStoreModel", "read", "(II)I"⟩, 38), (⟨"RerootStoreModel", "along", "(II)I"⟩, 38), (⟨"RerootStoreModel", "merge", "(II)I"⟩, 38), (⟨"RerootStoreModel", "mergedOf", "(III)I"⟩, 38), (⟨"RerootStoreModel", "isConflict", "(III)Z"⟩, 38)]
theorem lw_r5 : ∀ q ∈ lw_privs_5, lw_okq q := List.forall_mem_cons.mpr ⟨lw_p64, List.forall_mem_cons.mpr ⟨lw_p65, List.forall_mem_cons.mpr ⟨lw_p66, List.forall_mem_cons.mpr ⟨lw_p67, List.forall_mem_cons.mpr ⟨lw_p68, List.forall_mem_cons.mpr ⟨lw_p69, List.forall_mem_cons.mpr ⟨lw_p70, List.forall_mem_cons.mpr ⟨lw_p71, List.forall_mem_cons.mpr ⟨lw_p72, List.forall_mem_cons.mpr ⟨lw_p73, List.forall_mem_cons.mpr ⟨lw_p74, List.forall_mem_cons.mpr ⟨lw_p75, List.forall_mem_cons.mpr ⟨lw_p76, List.forall_mem_cons.mpr ⟨lw_p77, List.forall_mem_cons.mpr ⟨lw_p78, List.forall_mem_cons.mpr ⟨lw_p79, fun _ h => absurd h List.not_mem_nil⟩⟩⟩⟩⟩⟩⟩⟩⟩⟩⟩⟩⟩⟩⟩⟩
theorem lw_p80 : lw_okq (⟨"RerootStoreModel", "meetOf", "(II)I"⟩, 38) := ⟨⟨by decide +kernel, by decide +kernel⟩, List.mem_of_getElem? (i := 999) (by decide +kernel), List.mem_of_getElem? (i := 1290) (by decide +kernel), List.mem_of_getElem? (i := 1291) (by decide +kernel)⟩
theorem lw_p81 : lw_okq (⟨"RerootStoreModel", "patch", "(III)I"⟩, 38) := ⟨⟨by decide +kernel, by decide +kernel⟩, List.mem_of_getElem? (i := 999) (by decide +kernel), List.mem_of_getElem? (i := 1294) (by decide +kernel), List.mem_of_getElem? (i := 1295) (by decide +kernel)⟩
theorem lw_p82 : lw_okq (⟨"RerootStoreModel", "isPatched", "(IIII)Z"⟩, 38) := ⟨⟨by decide +kernel, by decide +kernel⟩, List.mem_of_getElem? (i := 999) (by decide +kernel), List.mem_of_getElem? (i := 1298) (by decide +kernel), List.mem_of_getElem? (i := 1299) (by decide +kernel)⟩
theorem lw_p83 : lw_okq (⟨"RerootStoreModel", "rootOf", "(II)I"⟩, 38) := ⟨⟨by decide +kernel, by decide +kernel⟩, List.mem_of_getElem? (i := 999) (by decide +kernel), List.mem_of_getElem? (i := 1302) (by decide +kernel), List.mem_of_getElem? (i := 1303) (by decide +kernel)⟩
theorem lw_p84 : lw_okq (⟨"RerootStoreModel", "lays", "(IIII)V"⟩, 38) := ⟨⟨by decide +kernel, by decide +kernel⟩, List.mem_of_getElem? (i := 999) (by decide +kernel), List.mem_of_getElem? (i := 1306) (by decide +kernel), List.mem_of_getElem? (i := 1307) (by decide +kernel)⟩
theorem lw_p85 : lw_okq (⟨"RerootStoreModel", "is", "()Z"⟩, 38) := ⟨⟨by decide +kernel, by decide +kernel⟩, List.mem_of_getElem? (i := 999) (by decide +kernel), List.mem_of_getElem? (i := 1318) (by decide +kernel), List.mem_of_getElem? (i := 1319) (by decide +kernel)⟩
theorem lw_p86 : lw_okq (⟨"RerootStoreModel", "isVersion", "(I)Z"⟩, 38) := ⟨⟨by decide +kernel, by decide +kernel⟩, List.mem_of_getElem? (i := 999) (by decide +kernel), List.mem_of_getElem? (i := 1326) (by decide +kernel), List.mem_of_getElem? (i := 1327) (by decide +kernel)⟩
theorem lw_p87 : lw_okq (⟨"RerootStoreModel", "areVersions", "(II)Z"⟩, 38) := ⟨⟨by decide +kernel, by decide +kernel⟩, List.mem_of_getElem? (i := 999) (by decide +kernel), List.mem_of_getElem? (i := 1339) (by decide +kernel), List.mem_of_getElem? (i := 1340) (by decide +kernel)⟩
theorem lw_p88 : lw_okq (⟨"RerootStoreModel", "unlikeOf", "(II)I"⟩, 38) := ⟨⟨by decide +kernel, by decide +kernel⟩, List.mem_of_getElem? (i := 999) (by decide +kernel), List.mem_of_getElem? (i := 1343) (by decide +kernel), List.mem_of_getElem? (i := 1344) (by decide +kernel)⟩
theorem lw_p89 : lw_okq (⟨"RerootStoreModel", "backTo", "(II)I"⟩, 38) := ⟨⟨by decide +kernel, by decide +kernel⟩, List.mem_of_getElem? (i := 999) (by decide +kernel), List.mem_of_getElem? (i := 1359) (by decide +kernel), List.mem_of_getElem? (i := 1360) (by decide +kernel)⟩
theorem lw_p90 : lw_okq (⟨"RerootStoreModel", "isFull", "()Z"⟩, 38) := ⟨⟨by decide +kernel, by decide +kernel⟩, List.mem_of_getElem? (i := 999) (by decide +kernel), List.mem_of_getElem? (i := 1433) (by decide +kernel), List.mem_of_getElem? (i := 1434) (by decide +kernel)⟩
theorem lw_p91 : lw_okq (⟨"RerootStoreModel", "acts", "(IIII)I"⟩, 38) := ⟨⟨by decide +kernel, by decide +kernel⟩, List.mem_of_getElem? (i := 999) (by decide +kernel), List.mem_of_getElem? (i := 1437) (by decide +kernel), List.mem_of_getElem? (i := 1438) (by decide +kernel)⟩
theorem lw_p92 : lw_okq (⟨"RerootStoreModel", "mergeMany", "(II)I"⟩, 38) := ⟨⟨by decide +kernel, by decide +kernel⟩, List.mem_of_getElem? (i := 999) (by decide +kernel), List.mem_of_getElem? (i := 1461) (by decide +kernel), List.mem_of_getElem? (i := 1462) (by decide +kernel)⟩
theorem lw_p93 : lw_okq (⟨"RerootStoreModel", "areThree", "(III)Z"⟩, 38) := ⟨⟨by decide +kernel, by decide +kernel⟩, List.mem_of_getElem? (i := 999) (by decide +kernel), List.mem_of_getElem? (i := 1469) (by decide +kernel), List.mem_of_getElem? (i := 1470) (by decide +kernel)⟩
theorem lw_p94 : lw_okq (⟨"RerootStoreModel", "patchMany", "(III)I"⟩, 38) := ⟨⟨by decide +kernel, by decide +kernel⟩, List.mem_of_getElem? (i := 999) (by decide +kernel), List.mem_of_getElem? (i := 1473) (by decide +kernel), List.mem_of_getElem? (i := 1474) (by decide +kernel)⟩
theorem lw_p95 : lw_okq (⟨"RerootStoreModel", "isSet", "(J)Z"⟩, 38) := ⟨⟨by decide +kernel, by decide +kernel⟩, List.mem_of_getElem? (i := 999) (by decide +kernel), List.mem_of_getElem? (i := 1501) (by decide +kernel), List.mem_of_getElem? (i := 1502) (by decide +kernel)⟩
def lw_privs_6 : List (MethodName × Nat) := [(⟨"RerootStoreModel", "meetOf", "(II)I"⟩, 38), (⟨"RerootStoreModel", "patch", "(III)I"⟩, 38), (⟨"RerootStoreModel", "isPatched", "(IIII)Z"⟩, 38), (⟨"RerootStoreModel", "rootOf", "(II)I"⟩, 38), (⟨"RerootStoreModel", "lays", "(IIII)V"⟩, 38), (⟨"RerootStoreModel", "is", "()Z"⟩, 38), (⟨"RerootStoreModel", "isVersion", "(I)Z"⟩, 38), (⟨"RerootStoreModel", "areVersions", "(II)Z"⟩, 38), (⟨"RerootStoreModel", "unlikeOf", "(II)I"⟩, 38), (⟨"RerootStoreModel", "backTo", "(II)I"⟩, 38), (⟨"RerootStoreModel", "isFull", "()Z"⟩, 38), (⟨"RerootStoreModel", "acts", "(IIII)I"⟩, 38), (⟨"RerootStoreModel", "mergeMany", "(II)I"⟩, 38), (⟨"RerootStoreModel", "areThree", "(III)Z"⟩, 38), (⟨"RerootStoreModel", "patchMany", "(III)I"⟩, 38), (⟨"RerootStoreModel", "isSet", "(J)Z"⟩, 38)]
theorem lw_r6 : ∀ q ∈ lw_privs_6, lw_okq q := List.forall_mem_cons.mpr ⟨lw_p80, List.forall_mem_cons.mpr ⟨lw_p81, List.forall_mem_cons.mpr ⟨lw_p82, List.forall_mem_cons.mpr ⟨lw_p83, List.forall_mem_cons.mpr ⟨lw_p84, List.forall_mem_cons.mpr ⟨lw_p85, List.forall_mem_cons.mpr ⟨lw_p86, List.forall_mem_cons.mpr ⟨lw_p87, List.forall_mem_cons.mpr ⟨lw_p88, List.forall_mem_cons.mpr ⟨lw_p89, List.forall_mem_cons.mpr ⟨lw_p90, List.forall_mem_cons.mpr ⟨lw_p91, List.forall_mem_cons.mpr ⟨lw_p92, List.forall_mem_cons.mpr ⟨lw_p93, List.forall_mem_cons.mpr ⟨lw_p94, List.forall_mem_cons.mpr ⟨lw_p95, fun _ h => absurd h List.not_mem_nil⟩⟩⟩⟩⟩⟩⟩⟩⟩⟩⟩⟩⟩⟩⟩⟩
theorem lw_p96 : lw_okq (⟨"RerootStoreModel", "keptOf", "(J)J"⟩, 38) := ⟨⟨by decide +kernel, by decide +kernel⟩, List.mem_of_getElem? (i := 999) (by decide +kernel), List.mem_of_getElem? (i := 1505) (by decide +kernel), List.mem_of_getElem? (i := 1506) (by decide +kernel)⟩
theorem lw_p97 : lw_okq (⟨"RerootStoreModel", "isOnWay", "(II)Z"⟩, 38) := ⟨⟨by decide +kernel, by decide +kernel⟩, List.mem_of_getElem? (i := 999) (by decide +kernel), List.mem_of_getElem? (i := 1518) (by decide +kernel), List.mem_of_getElem? (i := 1519) (by decide +kernel)⟩
theorem lw_p98 : lw_okq (⟨"RerootStoreModel", "waysOf", "()I"⟩, 38) := ⟨⟨by decide +kernel, by decide +kernel⟩, List.mem_of_getElem? (i := 999) (by decide +kernel), List.mem_of_getElem? (i := 1526) (by decide +kernel), List.mem_of_getElem? (i := 1527) (by decide +kernel)⟩
theorem lw_p99 : lw_okq (⟨"RerootStoreModel", "areColours", "(I)Z"⟩, 38) := ⟨⟨by decide +kernel, by decide +kernel⟩, List.mem_of_getElem? (i := 999) (by decide +kernel), List.mem_of_getElem? (i := 1552) (by decide +kernel), List.mem_of_getElem? (i := 1553) (by decide +kernel)⟩
theorem lw_p100 : lw_okq (⟨"RerootStoreModel", "searches", "(II)V"⟩, 38) := ⟨⟨by decide +kernel, by decide +kernel⟩, List.mem_of_getElem? (i := 999) (by decide +kernel), List.mem_of_getElem? (i := 1556) (by decide +kernel), List.mem_of_getElem? (i := 1557) (by decide +kernel)⟩
theorem lw_p101 : lw_okq (⟨"RerootStoreModel", "isNone", "(II)Z"⟩, 38) := ⟨⟨by decide +kernel, by decide +kernel⟩, List.mem_of_getElem? (i := 999) (by decide +kernel), List.mem_of_getElem? (i := 1560) (by decide +kernel), List.mem_of_getElem? (i := 1561) (by decide +kernel)⟩
theorem lw_p102 : lw_okq (⟨"RerootStoreModel", "goesOn", "(I)I"⟩, 38) := ⟨⟨by decide +kernel, by decide +kernel⟩, List.mem_of_getElem? (i := 999) (by decide +kernel), List.mem_of_getElem? (i := 1564) (by decide +kernel), List.mem_of_getElem? (i := 1565) (by decide +kernel)⟩
theorem lw_p103 : lw_okq (⟨"RerootStoreModel", "looksAhead", "(II)V"⟩, 38) := ⟨⟨by decide +kernel, by decide +kernel⟩, List.mem_of_getElem? (i := 999) (by decide +kernel), List.mem_of_getElem? (i := 1584) (by decide +kernel), List.mem_of_getElem? (i := 1585) (by decide +kernel)⟩
theorem lw_p104 : lw_okq (⟨"RerootStoreModel", "takes", "(I)V"⟩, 38) := ⟨⟨by decide +kernel, by decide +kernel⟩, List.mem_of_getElem? (i := 999) (by decide +kernel), List.mem_of_getElem? (i := 1588) (by decide +kernel), List.mem_of_getElem? (i := 1589) (by decide +kernel)⟩
theorem lw_p105 : lw_okq (⟨"RerootStoreModel", "isTaken", "(I)Z"⟩, 38) := ⟨⟨by decide +kernel, by decide +kernel⟩, List.mem_of_getElem? (i := 999) (by decide +kernel), List.mem_of_getElem? (i := 1592) (by decide +kernel), List.mem_of_getElem? (i := 1593) (by decide +kernel)⟩
theorem lw_p106 : lw_okq (⟨"RerootStoreModel", "lets", "(I)I"⟩, 38) := ⟨⟨by decide +kernel, by decide +kernel⟩, List.mem_of_getElem? (i := 999) (by decide +kernel), List.mem_of_getElem? (i := 1596) (by decide +kernel), List.mem_of_getElem? (i := 1597) (by decide +kernel)⟩
theorem lw_p107 : lw_okq (⟨"RerootStoreModel", "setOr", "(III)I"⟩, 38) := ⟨⟨by decide +kernel, by decide +kernel⟩, List.mem_of_getElem? (i := 999) (by decide +kernel), List.mem_of_getElem? (i := 1600) (by decide +kernel), List.mem_of_getElem? (i := 1601) (by decide +kernel)⟩
theorem lw_p108 : lw_okq (⟨"RerootStoreModel", "goesAhead", "(I)V"⟩, 38) := ⟨⟨by decide +kernel, by decide +kernel⟩, List.mem_of_getElem? (i := 999) (by decide +kernel), List.mem_of_getElem? (i := 1604) (by decide +kernel), List.mem_of_getElem? (i := 1605) (by decide +kernel)⟩
def lw_privs_7 : List (MethodName × Nat) := [(⟨"RerootStoreModel", "keptOf", "(J)J"⟩, 38), (⟨"RerootStoreModel", "isOnWay", "(II)Z"⟩, 38), (⟨"RerootStoreModel", "waysOf", "()I"⟩, 38), (⟨"RerootStoreModel", "areColours", "(I)Z"⟩, 38), (⟨"RerootStoreModel", "searches", "(II)V"⟩, 38), (⟨"RerootStoreModel", "isNone", "(II)Z"⟩, 38), (⟨"RerootStoreModel", "goesOn", "(I)I"⟩, 38), (⟨"RerootStoreModel", "looksAhead", "(II)V"⟩, 38), (⟨"RerootStoreModel", "takes", "(I)V"⟩, 38), (⟨"RerootStoreModel", "isTaken", "(I)Z"⟩, 38), (⟨"RerootStoreModel", "lets", "(I)I"⟩, 38), (⟨"RerootStoreModel", "setOr", "(III)I"⟩, 38), (⟨"RerootStoreModel", "goesAhead", "(I)V"⟩, 38)]
theorem lw_r7 : ∀ q ∈ lw_privs_7, lw_okq q := List.forall_mem_cons.mpr ⟨lw_p96, List.forall_mem_cons.mpr ⟨lw_p97, List.forall_mem_cons.mpr ⟨lw_p98, List.forall_mem_cons.mpr ⟨lw_p99, List.forall_mem_cons.mpr ⟨lw_p100, List.forall_mem_cons.mpr ⟨lw_p101, List.forall_mem_cons.mpr ⟨lw_p102, List.forall_mem_cons.mpr ⟨lw_p103, List.forall_mem_cons.mpr ⟨lw_p104, List.forall_mem_cons.mpr ⟨lw_p105, List.forall_mem_cons.mpr ⟨lw_p106, List.forall_mem_cons.mpr ⟨lw_p107, List.forall_mem_cons.mpr ⟨lw_p108, fun _ h => absurd h List.not_mem_nil⟩⟩⟩⟩⟩⟩⟩⟩⟩⟩⟩⟩⟩
def lw_privs : List (MethodName × Nat) := lw_privs_1 ++ (lw_privs_2 ++ (lw_privs_3 ++ (lw_privs_4 ++ (lw_privs_5 ++ (lw_privs_6 ++ (lw_privs_7))))))
def lw_tbl : List Cond := k2_sels lw_privs ++ tables_1
theorem lw_privs_ok : ∀ q ∈ lw_privs, lw_okq q := by
  show ∀ q ∈ lw_privs_1 ++ (lw_privs_2 ++ (lw_privs_3 ++ (lw_privs_4 ++ (lw_privs_5 ++ (lw_privs_6 ++ (lw_privs_7)))))), lw_okq q
  exact List.forall_mem_append.mpr ⟨lw_r1, List.forall_mem_append.mpr ⟨lw_r2, List.forall_mem_append.mpr ⟨lw_r3, List.forall_mem_append.mpr ⟨lw_r4, List.forall_mem_append.mpr ⟨lw_r5, List.forall_mem_append.mpr ⟨lw_r6, lw_r7⟩⟩⟩⟩⟩⟩
-- ===== end of PART A; then your names; then what follows =====
end
section
-- the small machine: memory by kinds, a step, the least relation closed under it
abbrev mz_M : Type := (Nat → Nat → Int32) × (Nat → Nat → Int64) × (Nat → Nat → Option Nat) × (Nat → Nat × Nat)
abbrev mz_En : Type := Nat × Instr × Nat × List Nat
abbrev mz_Y : Type := MethodName × ByteArray × Nat × Option FieldType × Nat × Bool × List mz_En
def mz_uI (M : mz_M) (a k : Nat) (x : Int32) : mz_M := (va_up M.1 a (va_up (M.1 a) k x), M.2)
def mz_uJ (M : mz_M) (a k : Nat) (x : Int64) : mz_M := (M.1, va_up M.2.1 a (va_up (M.2.1 a) k x), M.2.2)
def mz_uR (M : mz_M) (a k : Nat) (x : Option Nat) : mz_M := (M.1, M.2.1, va_up M.2.2.1 a (va_up (M.2.2.1 a) k x), M.2.2.2)
def mz_cI (M : mz_M) (a : Nat) (f : Nat → Int32) : mz_M := (va_up M.1 a f, M.2)
def mz_cJ (M : mz_M) (a : Nat) (f : Nat → Int64) : mz_M := (M.1, va_up M.2.1 a f, M.2.2)
def mz_new (M : mz_M) (a kd n : Nat) : mz_M := (va_up M.1 a (fun _ => 0), va_up M.2.1 a (fun _ => 0), va_up M.2.2.1 a (fun _ => none), va_up M.2.2.2 a (kd, n))
-- pops
def mz_pI (st : List Value) (f : Int32 → List Value → Prop) : Prop := match st with
  | .int x :: r => f x r
  | _ => False
def mz_pJ (st : List Value) (f : Int64 → List Value → Prop) : Prop := match st with
  | .long x :: r => f x r
  | _ => False
def mz_pR (st : List Value) (f : Nat → List Value → Prop) : Prop := match st with
  | .ref x :: r => f x r
  | _ => False
def mz_pV (st : List Value) (f : Value → List Value → Prop) : Prop := match st with
  | x :: r => f x r
  | _ => False
def mz_gI (o : Option Value) (f : Int32 → Prop) : Prop := match o with
  | some (.int x) => f x
  | _ => False
def mz_gJ (o : Option Value) (f : Int64 → Prop) : Prop := match o with
  | some (.long x) => f x
  | _ => False
def mz_gR (o : Option Value) (f : Nat → Prop) : Prop := match o with
  | some (.ref x) => f x
  | _ => False
def mz_t1 (tg : List Nat) (f : Nat → Prop) : Prop := match tg with
  | [a] => f a
  | _ => False
def mz_t3 (tg : List Nat) (f : Nat → Nat → Nat → Prop) : Prop := match tg with
  | [a, b, c] => f a b c
  | _ => False
-- locals
def mz_st1 (L : List Value) (i : Nat) (v : Value) : List Value := match i with
  | 0 => L.set 0 v
  | j + 1 => match L[j]? with
    | some (.long _) => (L.set j (.retAddr 0)).set (j + 1) v
    | some (.double _) => (L.set j (.retAddr 0)).set (j + 1) v
    | _ => L.set (j + 1) v
def mz_st2 (L : List Value) (i : Nat) (v : Value) : List Value := (mz_st1 L i v).set (i + 1) (.retAddr 0)
def mz_en (args : List Value) (n : Nat) : List Value :=
  let u := args.flatMap (fun v => if v.category = 2 then [v, .retAddr 0] else [v])
  u ++ List.replicate (n - u.length) (.retAddr 0)
def mz_lk (t : List mz_En) (pc : Nat) : Option (Instr × Nat × List Nat) := match t with
  | [] => none
  | e :: r => bif Nat.beq e.1 pc then some e.2 else mz_lk r pc
-- a two-way branch
def mz_br (c : ClassFile.Cond) (x y : Int32) (t f : Prop) : Prop := match c with
  | .eq => (x = y → t) ∧ (¬ x = y → f)
  | .ne => (¬ x = y → t) ∧ (x = y → f)
  | .lt => (x < y → t) ∧ (¬ x < y → f)
  | .ge => (y ≤ x → t) ∧ (¬ y ≤ x → f)
  | .gt => (y < x → t) ∧ (¬ y < x → f)
  | .le => (x ≤ y → t) ∧ (¬ x ≤ y → f)
-- static tables of the claim's classes
def mz_cN (c : Nat) : String := match c with
  | 0 => "RerootStore$Painter"
  | 1 => "RerootStore$Shelf"
  | 2 => "RerootStore$Story"
  | 3 => "RerootStore$Tape"
  | 4 => "RerootStore"
  | 5 => "RerootStoreModel"
  | 6 => "RerootStoreLaw"
  | 7 => "java/lang/Integer"
  | _ => "java/lang/Math"
def mz_f0 : u_T := fun k => match k with
  | 0 => ("RerootStore$Painter", "shelf", "LRerootStore$Shelf;", true)
  | 1 => ("RerootStore$Painter", "from", "[I", true)
  | 2 => ("RerootStore$Painter", "tried", "[I", true)
  | 3 => ("RerootStore$Painter", "taken", "[I", true)
  | 4 => ("RerootStore$Painter", "choices", "[I", true)
  | 5 => ("RerootStore$Painter", "coloured", "[I", true)
  | 6 => ("RerootStore$Painter", "outcome", "I", false)
  | 7 => ("RerootStore$Painter", "timesBack", "I", false)
  | 8 => ("RerootStore$Painter", "last", "I", false)
  | _ => ("RerootStore$Painter", "most", "I", false)
def mz_y0 : Nat → FieldType := fun k => match k with
  | 0 => .object "RerootStore$Shelf"
  | 1 => .array .int
  | 2 => .array .int
  | 3 => .array .int
  | 4 => .array .int
  | 5 => .array .int
  | 6 => .int
  | 7 => .int
  | 8 => .int
  | _ => .int
def mz_f1 : u_T := fun k => match k with
  | 0 => ("RerootStore$Shelf", "rows", "[J", true)
  | 1 => ("RerootStore$Shelf", "linkTo", "[I", true)
  | 2 => ("RerootStore$Shelf", "linkCell", "[I", true)
  | 3 => ("RerootStore$Shelf", "madeOf", "[I", true)
  | 4 => ("RerootStore$Shelf", "madeCell", "[I", true)
  | 5 => ("RerootStore$Shelf", "size", "I", false)
  | 6 => ("RerootStore$Shelf", "law", "I", false)
  | 7 => ("RerootStore$Shelf", "limit", "I", false)
  | 8 => ("RerootStore$Shelf", "made", "I", false)
  | _ => ("RerootStore$Shelf", "steps", "I", false)
def mz_y1 : Nat → FieldType := fun k => match k with
  | 0 => .array .long
  | 1 => .array .int
  | 2 => .array .int
  | 3 => .array .int
  | 4 => .array .int
  | 5 => .int
  | 6 => .int
  | 7 => .int
  | 8 => .int
  | _ => .int
def mz_f2 : u_T := fun k => match k with
  | 0 => ("RerootStore$Story", "shelf", "LRerootStore$Shelf;", true)
  | 1 => ("RerootStore$Story", "partners", "[I", true)
  | 2 => ("RerootStore$Story", "kinds", "[I", true)
  | 3 => ("RerootStore$Story", "ones", "[I", true)
  | 4 => ("RerootStore$Story", "twos", "[I", true)
  | 5 => ("RerootStore$Story", "threes", "[I", true)
  | 6 => ("RerootStore$Story", "costs", "[I", true)
  | 7 => ("RerootStore$Story", "pairs", "I", false)
  | 8 => ("RerootStore$Story", "lines", "I", false)
  | 9 => ("RerootStore$Story", "told", "I", false)
  | _ => ("RerootStore$Story", "deeds", "I", false)
def mz_y2 : Nat → FieldType := fun k => match k with
  | 0 => .object "RerootStore$Shelf"
  | 1 => .array .int
  | 2 => .array .int
  | 3 => .array .int
  | 4 => .array .int
  | 5 => .array .int
  | 6 => .array .int
  | 7 => .int
  | 8 => .int
  | 9 => .int
  | _ => .int
def mz_f3 : u_T := fun k => match k with
  | 0 => ("RerootStore$Tape", "signs", "[B", true)
  | 1 => ("RerootStore$Tape", "token", "I", false)
  | 2 => ("RerootStore$Tape", "place", "I", false)
  | 3 => ("RerootStore$Tape", "behind", "I", false)
  | 4 => ("RerootStore$Tape", "value", "I", false)
  | 5 => ("RerootStore$Tape", "bytes", "I", false)
  | 6 => ("RerootStore$Tape", "kind", "I", false)
  | 7 => ("RerootStore$Tape", "one", "I", false)
  | 8 => ("RerootStore$Tape", "two", "I", false)
  | 9 => ("RerootStore$Tape", "three", "I", false)
  | 10 => ("RerootStore$Tape", "fault", "I", false)
  | _ => ("RerootStore$Tape", "faultPlace", "I", false)
def mz_y3 : Nat → FieldType := fun k => match k with
  | 0 => .array .byte
  | 1 => .int
  | 2 => .int
  | 3 => .int
  | 4 => .int
  | 5 => .int
  | 6 => .int
  | 7 => .int
  | 8 => .int
  | 9 => .int
  | 10 => .int
  | _ => .int
def mz_f4 : u_T := fun k => match k with
  | 0 => ("RerootStore", "tape", "LRerootStore$Tape;", true)
  | 1 => ("RerootStore", "images", "[LRerootStore$Story;", true)
  | 2 => ("RerootStore", "trial", "LRerootStore$Shelf;", true)
  | 3 => ("RerootStore", "painter", "LRerootStore$Painter;", true)
  | 4 => ("RerootStore", "now", "LRerootStore$Story;", false)
  | _ => ("RerootStore", "spare", "LRerootStore$Story;", false)
def mz_y4 : Nat → FieldType := fun k => match k with
  | 0 => .object "RerootStore$Tape"
  | 1 => .array (.object "RerootStore$Story")
  | 2 => .object "RerootStore$Shelf"
  | 3 => .object "RerootStore$Painter"
  | 4 => .object "RerootStore$Story"
  | _ => .object "RerootStore$Story"
def mz_f5 : u_T := fun k => match k with
  | 0 => ("RerootStoreModel", "mem", "[I", true)
  | 1 => ("RerootStoreModel", "was", "[I", true)
  | 2 => ("RerootStoreModel", "tape", "[I", true)
  | 3 => ("RerootStoreModel", "taped", "I", false)
  | 4 => ("RerootStoreModel", "faultKind", "I", false)
  | 5 => ("RerootStoreModel", "faultPlace", "I", false)
  | 6 => ("RerootStoreModel", "rows", "[I", true)
  | 7 => ("RerootStoreModel", "of", "[I", true)
  | 8 => ("RerootStoreModel", "cellOf", "[I", true)
  | 9 => ("RerootStoreModel", "numberOf", "[I", true)
  | 10 => ("RerootStoreModel", "link", "[I", true)
  | 11 => ("RerootStoreModel", "linkCell", "[I", true)
  | 12 => ("RerootStoreModel", "linkNumber", "[I", true)
  | 13 => ("RerootStoreModel", "way", "[I", true)
  | 14 => ("RerootStoreModel", "versions", "I", false)
  | 15 => ("RerootStoreModel", "law", "I", false)
  | 16 => ("RerootStoreModel", "cut", "I", false)
  | 17 => ("RerootStoreModel", "steps", "I", false)
  | 18 => ("RerootStoreModel", "spent", "[I", true)
  | 19 => ("RerootStoreModel", "at", "I", false)
  | 20 => ("RerootStoreModel", "begin", "I", false)
  | 21 => ("RerootStoreModel", "token", "I", false)
  | 22 => ("RerootStoreModel", "value", "I", false)
  | 23 => ("RerootStoreModel", "bad", "Z", false)
  | 24 => ("RerootStoreModel", "badKind", "I", false)
  | 25 => ("RerootStoreModel", "badPlace", "I", false)
  | 26 => ("RerootStoreModel", "images", "[I", true)
  | 27 => ("RerootStoreModel", "hasImage", "[Z", true)
  | 28 => ("RerootStoreModel", "made", "I", false)
  | 29 => ("RerootStoreModel", "backs", "I", false)
  | 30 => ("RerootStoreModel", "outcome", "I", false)
  | 31 => ("RerootStoreModel", "colourOf", "[I", true)
  | 32 => ("RerootStoreModel", "from", "[I", true)
  | 33 => ("RerootStoreModel", "taken", "[I", true)
  | 34 => ("RerootStoreModel", "takenAt", "[I", true)
  | 35 => ("RerootStoreModel", "takenHas", "[I", true)
  | 36 => ("RerootStoreModel", "hueOf", "[I", true)
  | _ => ("RerootStoreModel", "takenMany", "I", false)
def mz_y5 : Nat → FieldType := fun k => match k with
  | 0 => .array .int
  | 1 => .array .int
  | 2 => .array .int
  | 3 => .int
  | 4 => .int
  | 5 => .int
  | 6 => .array .int
  | 7 => .array .int
  | 8 => .array .int
  | 9 => .array .int
  | 10 => .array .int
  | 11 => .array .int
  | 12 => .array .int
  | 13 => .array .int
  | 14 => .int
  | 15 => .int
  | 16 => .int
  | 17 => .int
  | 18 => .array .int
  | 19 => .int
  | 20 => .int
  | 21 => .int
  | 22 => .int
  | 23 => .boolean
  | 24 => .int
  | 25 => .int
  | 26 => .array .int
  | 27 => .array .boolean
  | 28 => .int
  | 29 => .int
  | 30 => .int
  | 31 => .array .int
  | 32 => .array .int
  | 33 => .array .int
  | 34 => .array .int
  | 35 => .array .int
  | 36 => .array .int
  | _ => .int
def mz_cF (c : Nat) : u_T := match c with
  | 0 => mz_f0
  | 1 => mz_f1
  | 2 => mz_f2
  | 3 => mz_f3
  | 4 => mz_f4
  | _ => mz_f5
def mz_cY (c : Nat) : Nat → FieldType := match c with
  | 0 => mz_y0
  | 1 => mz_y1
  | 2 => mz_y2
  | 3 => mz_y3
  | 4 => mz_y4
  | _ => mz_y5
def mz_cS (c : Nat) : Nat := match c with
  | 0 => 10
  | 1 => 10
  | 2 => 11
  | 3 => 12
  | 4 => 6
  | _ => 38
abbrev mz_cl : List vw_C := [(mz_cN 0, mz_cF 0, mz_cS 0), (mz_cN 1, mz_cF 1, mz_cS 1), (mz_cN 2, mz_cF 2, mz_cS 2), (mz_cN 3, mz_cF 3, mz_cS 3), (mz_cN 4, mz_cF 4, mz_cS 4), (mz_cN 5, mz_cF 5, mz_cS 5)]
def mz_iR (c k : Nat) : Bool := match mz_cY c k with
  | .int => false
  | .boolean => false
  | _ => true
def mz_rd (M : mz_M) (c a k : Nat) : Value := bif mz_iR c k then va_rf (M.2.2.1 a k) else .int (M.1 a k)
def mz_fs (M : mz_M) (c a : Nat) : List Value := (List.range (mz_cS c)).map (mz_rd M c a)
theorem mz_cl_at : ∀ c, c < 6 → mz_cl[c]? = some (mz_cN c, mz_cF c, mz_cS c) := fun c h => match c, h with
  | 0, _ => rfl
  | 1, _ => rfl
  | 2, _ => rfl
  | 3, _ => rfl
  | 4, _ => rfl
  | 5, _ => rfl
  | n + 6, h => absurd h (by omega)
theorem mz_ty_ok : ∀ c, c < 6 → ∀ k, k < mz_cS c → parseFieldDescriptor (mz_cF c k).2.2.1 = some (mz_cY c k) := by decide +kernel
theorem mz_nm_ok : ∀ c, c < 6 → ∀ a, a < mz_cS c → ∀ b, b < mz_cS c → a ≠ b → (mz_cF c a).2.1 ≠ (mz_cF c b).2.1 := by decide +kernel
end
section
abbrev mz_P : Type := Option Value → mz_M → Prop
abbrev mz_K : Type := Nat → List Value → mz_M → Nat × Nat → Nat × Nat → mz_P → Prop
abbrev mz_C : Type := Nat → List Value → List Value → mz_M → Nat × Nat → Prop
def mz_sum (st : List Value) : Nat := (st.map fun v => v.category).sum
def mz_t2 (tg : List Nat) (f : Nat → Nat → Prop) : Prop := match tg with
  | [a, b] => f a b
  | _ => False
def mz_t5 (tg : List Nat) (f : Nat → Nat → Nat → Nat → Nat → Prop) : Prop := match tg with
  | [a, b, c, d, e] => f a b c d e
  | _ => False
-- the callee's answer, and how it goes on
def mz_cal (K : mz_K) (y n : Nat) (st : List Value) (M : mz_M) (z : Nat × Nat) (k : List Value → mz_M → Prop) : Prop :=
  n ≤ st.length ∧ mz_sum (st.drop n) ≤ 8 ∧ K y (st.take n).reverse M z z (fun r M' => k (r.toList ++ st.drop n) M')
def mz_caa (K : mz_K) (y n : Nat) (st : List Value) (M : mz_M) (z B : Nat × Nat) (k : List Value → mz_M → Nat × Nat → Prop) : Prop :=
  n ≤ st.length ∧ mz_sum (st.drop n) ≤ 8 ∧ ∃ z' : Nat × Nat, z.1 ≤ z'.1 ∧ z.2 ≤ z'.2 ∧ z'.1 ≤ B.1 ∧ z'.2 ≤ B.2 ∧ K y (st.take n).reverse M z z' (fun r M' => k (r.toList ++ st.drop n) M' z')
def mz_kd (M : mz_M) (a : Nat) : Nat := (M.2.2.2 a).1
def mz_ln (M : mz_M) (a : Nat) : Nat := (M.2.2.2 a).2
def mz_aty (t : ArrayType) : Nat := match t with
  | .int => 1
  | .byte => 2
  | .boolean => 3
  | .long => 4
  | _ => 0
def mz_cop (M : mz_M) (a b : Nat) (sp dp n : Int32) : Prop :=
  ¬ sp < 0 ∧ ¬ dp < 0 ∧ ¬ n < 0 ∧ sp.toNatClampNeg + n.toNatClampNeg ≤ mz_ln M a ∧ dp.toNatClampNeg + n.toNatClampNeg ≤ mz_ln M b
def mz_sw (x : Int32) (lo hi : Int) (tg : List Nat) (k : Nat → Prop) : Prop :=
  ((x.toInt < lo ∨ hi < x.toInt) → mz_gN tg[0]? k) ∧ (¬ x.toInt < lo → ¬ hi < x.toInt → mz_gN tg[(x.toInt - lo).toNat + 1]? k)
where
  mz_gN (o : Option Nat) (f : Nat → Prop) : Prop := match o with
    | some x => f x
    | _ => False
def mz_stp (sc : Option (Nat × Nat × (Nat → Int32))) (sa : Nat → Nat) (K : mz_K) (dd : Nat) (Y : mz_Y) (B : Nat × Nat) (Q : mz_P) (k : mz_C) (i : Instr) (tg : List Nat) (pc : Nat) (L st : List Value) (M : mz_M) (z : Nat × Nat) : Prop :=
  match i with
  | .iconst n => k (pc + 1) L (.int (Int32.ofInt n) :: st) M z
  | .bipush n => k (pc + 2) L (.int (Int8.ofInt n).toInt32 :: st) M z
  | .sipush n => k (pc + 3) L (.int (Int16.ofInt n).toInt32 :: st) M z
  | .lconst n => k (pc + 1) L (.long (Int64.ofNat (n : Nat)) :: st) M z
  | .aconst_null => k (pc + 1) L (.null :: st) M z
  | .iload j => mz_gI L[j]? fun x => k (pc + 2) L (.int x :: st) M z
  | .iload_n j => mz_gI L[(j : Nat)]? fun x => k (pc + 1) L (.int x :: st) M z
  | .lload j => mz_gJ L[j]? fun x => k (pc + 2) L (.long x :: st) M z
  | .lload_n j => mz_gJ L[(j : Nat)]? fun x => k (pc + 1) L (.long x :: st) M z
  | .aload j => mz_gR L[j]? fun x => k (pc + 2) L (.ref x :: st) M z
  | .aload_n j => mz_gR L[(j : Nat)]? fun x => k (pc + 1) L (.ref x :: st) M z
  | .istore j => mz_pI st fun x r => j < L.length ∧ k (pc + 2) (mz_st1 L j (.int x)) r M z
  | .istore_n j => mz_pI st fun x r => (j : Nat) < L.length ∧ k (pc + 1) (mz_st1 L j (.int x)) r M z
  | .lstore j => mz_pJ st fun x r => j + 1 < L.length ∧ k (pc + 2) (mz_st2 L j (.long x)) r M z
  | .lstore_n j => mz_pJ st fun x r => (j : Nat) + 1 < L.length ∧ k (pc + 1) (mz_st2 L j (.long x)) r M z
  | .astore j => mz_pR st fun x r => j < L.length ∧ k (pc + 2) (mz_st1 L j (.ref x)) r M z
  | .astore_n j => mz_pR st fun x r => (j : Nat) < L.length ∧ k (pc + 1) (mz_st1 L j (.ref x)) r M z
  | .iinc j n => mz_gI L[j]? fun x => k (pc + 3) (mz_st1 L j (.int (x + Int32.ofInt n))) st M z
  | .iadd => mz_pI st fun y r => mz_pI r fun x r => k (pc + 1) L (.int (x + y) :: r) M z
  | .isub => mz_pI st fun y r => mz_pI r fun x r => k (pc + 1) L (.int (x - y) :: r) M z
  | .imul => mz_pI st fun y r => mz_pI r fun x r => k (pc + 1) L (.int (x * y) :: r) M z
  | .iand => mz_pI st fun y r => mz_pI r fun x r => k (pc + 1) L (.int (x &&& y) :: r) M z
  | .ior => mz_pI st fun y r => mz_pI r fun x r => k (pc + 1) L (.int (x ||| y) :: r) M z
  | .ixor => mz_pI st fun y r => mz_pI r fun x r => k (pc + 1) L (.int (x ^^^ y) :: r) M z
  | .idiv => mz_pI st fun y r => mz_pI r fun x r => ¬ y = 0 ∧ k (pc + 1) L (.int (x / y) :: r) M z
  | .irem => mz_pI st fun y r => mz_pI r fun x r => ¬ y = 0 ∧ k (pc + 1) L (.int (x % y) :: r) M z
  | .ishl => mz_pI st fun y r => mz_pI r fun x r => k (pc + 1) L (.int (x <<< (y &&& 31)) :: r) M z
  | .ishr => mz_pI st fun y r => mz_pI r fun x r => k (pc + 1) L (.int (x >>> (y &&& 31)) :: r) M z
  | .iushr => mz_pI st fun y r => mz_pI r fun x r => k (pc + 1) L (.int (x.toUInt32 >>> (y.toUInt32 &&& Int32.toUInt32 31)).toInt32 :: r) M z
  | .land => mz_pJ st fun y r => mz_pJ r fun x r => k (pc + 1) L (.long (x &&& y) :: r) M z
  | .lor => mz_pJ st fun y r => mz_pJ r fun x r => k (pc + 1) L (.long (x ||| y) :: r) M z
  | .lxor => mz_pJ st fun y r => mz_pJ r fun x r => k (pc + 1) L (.long (x ^^^ y) :: r) M z
  | .lshl => mz_pI st fun y r => mz_pJ r fun x r => k (pc + 1) L (.long (x <<< (y.toInt64 &&& 63)) :: r) M z
  | .lshr => mz_pI st fun y r => mz_pJ r fun x r => k (pc + 1) L (.long (x >>> (y.toInt64 &&& 63)) :: r) M z
  | .lushr => mz_pI st fun y r => mz_pJ r fun x r => k (pc + 1) L (.long (x.toUInt64 >>> (y.toInt64.toUInt64 &&& Int64.toUInt64 63)).toInt64 :: r) M z
  | .i2l => mz_pI st fun x r => k (pc + 1) L (.long x.toInt64 :: r) M z
  | .l2i => mz_pJ st fun x r => k (pc + 1) L (.int x.toInt32 :: r) M z
  | .i2b => mz_pI st fun x r => k (pc + 1) L (.int x.toInt8.toInt32 :: r) M z
  | .lcmp => mz_pJ st fun y r => mz_pJ r fun x r => k (pc + 1) L (.int (lg_cmp x y) :: r) M z
  | .dup => mz_pV st fun v r => v.category = 1 ∧ k (pc + 1) L (v :: v :: r) M z
  | .dup2 => mz_pV st fun v r => mz_pV r fun w r => v.category = 1 ∧ w.category = 1 ∧ k (pc + 1) L (v :: w :: v :: w :: r) M z
  | .pop => mz_pV st fun v r => v.category = 1 ∧ k (pc + 1) L r M z
  | .ifCond c _ => mz_t1 tg fun t => mz_pI st fun x r => mz_br c x 0 (k t L r M z) (k (pc + 3) L r M z)
  | .if_icmp c _ => mz_t1 tg fun t => mz_pI st fun y r => mz_pI r fun x r => mz_br c x y (k t L r M z) (k (pc + 3) L r M z)
  | .goto _ => mz_t1 tg fun t => k t L st M z
  | .ifnull _ => mz_t1 tg fun t => mz_pV st fun v r => (v = .null → k t L r M z) ∧ ((∃ a, v = .ref a) → k (pc + 3) L r M z) ∧ (v = .null ∨ ∃ a, v = .ref a)
  | .ifnonnull _ => mz_t1 tg fun t => mz_pV st fun v r => ((∃ a, v = .ref a) → k t L r M z) ∧ (v = .null → k (pc + 3) L r M z) ∧ (v = .null ∨ ∃ a, v = .ref a)
  | .tableswitch _ lo hi _ => mz_pI st fun x r => mz_sw x lo hi tg (fun t => k t L r M z)
  | .ldc _ => mz_t3 tg fun a _ w => k (pc + 2) L ((bif Nat.beq a 0 then Value.int (Int32.ofNat w) else Value.ref (sa w)) :: st) M z
  | .ldc_w _ => mz_t3 tg fun _ _ w => k (pc + 3) L (.int (Int32.ofNat w) :: st) M z
  | .ldc2_w _ => mz_t3 tg fun _ _ w => k (pc + 3) L (.long (Int64.ofNat w) :: st) M z
  | .getfield _ => mz_t3 tg fun c j _ => mz_pR st fun a r => mz_kd M a = 10 + c ∧ k (pc + 3) L (mz_rd M c a j :: r) M z
  | .putfield _ => mz_t3 tg fun c j _ => mz_pV st fun v r => mz_pR r fun a r => mz_kd M a = 10 + c ∧ ((mz_cF c j).2.2.2 = true → Y.2.2.2.2.2.1 = true ∧ Y.2.2.2.2.1 = c) ∧
      ((∃ x, v = .int x ∧ mz_iR c j = false ∧ narrow (mz_cY c j) v = v ∧ fits (mz_cY c j) v = true ∧ k (pc + 3) L r (mz_uI M a j x) z) ∨ (∃ x, v = .ref x ∧ mz_iR c j = true ∧ k (pc + 3) L r (mz_uR M a j (some x)) z))
  | .iaload => mz_pI st fun x r => mz_pR r fun a r => (mz_kd M a = 1 ∧ vp_in x (mz_ln M a) ∧ k (pc + 1) L (.int (M.1 a x.toNatClampNeg) :: r) M z) ∨ (∃ n f, sc = some (a, n, f) ∧ vp_in x n ∧ k (pc + 1) L (.int (f x.toNatClampNeg) :: r) M z)
  | .baload => mz_pI st fun x r => mz_pR r fun a r => (mz_kd M a = 2 ∨ mz_kd M a = 3) ∧ vp_in x (mz_ln M a) ∧ k (pc + 1) L (.int (M.1 a x.toNatClampNeg) :: r) M z
  | .laload => mz_pI st fun x r => mz_pR r fun a r => mz_kd M a = 4 ∧ vp_in x (mz_ln M a) ∧ k (pc + 1) L (.long (M.2.1 a x.toNatClampNeg) :: r) M z
  | .aaload => mz_pI st fun x r => mz_pR r fun a r => mz_kd M a = 5 ∧ vp_in x (mz_ln M a) ∧ k (pc + 1) L (va_rf (M.2.2.1 a x.toNatClampNeg) :: r) M z
  | .iastore => mz_pI st fun v r => mz_pI r fun x r => mz_pR r fun a r => mz_kd M a = 1 ∧ vp_in x (mz_ln M a) ∧ k (pc + 1) L r (mz_uI M a x.toNatClampNeg v) z
  | .bastore => mz_pI st fun v r => mz_pI r fun x r => mz_pR r fun a r => vp_in x (mz_ln M a) ∧ ((mz_kd M a = 2 ∧ k (pc + 1) L r (mz_uI M a x.toNatClampNeg (vp_nar .byte v)) z) ∨ (mz_kd M a = 3 ∧ k (pc + 1) L r (mz_uI M a x.toNatClampNeg (vp_nar .boolean v)) z))
  | .lastore => mz_pJ st fun v r => mz_pI r fun x r => mz_pR r fun a r => mz_kd M a = 4 ∧ vp_in x (mz_ln M a) ∧ k (pc + 1) L r (mz_uJ M a x.toNatClampNeg v) z
  | .aastore => mz_pR st fun v r => mz_pI r fun x r => mz_pR r fun a r => mz_kd M a = 5 ∧ mz_kd M v = 12 ∧ vp_in x (mz_ln M a) ∧ k (pc + 1) L r (mz_uR M a x.toNatClampNeg (some v)) z
  | .arraylength => mz_pR st fun a r => ((mz_kd M a = 1 ∨ mz_kd M a = 2 ∨ mz_kd M a = 3 ∨ mz_kd M a = 4 ∨ mz_kd M a = 5) ∧ k (pc + 1) L (.int (nI (mz_ln M a)) :: r) M z) ∨ (∃ n f, sc = some (a, n, f) ∧ k (pc + 1) L (.int (nI n) :: r) M z)
  | .newarray t => mz_pI st fun n r => mz_aty t ≠ 0 ∧ ¬ n < 0 ∧ n.toNatClampNeg ≤ 1000000 ∧ z.1 + 1 ≤ B.1 ∧ z.2 + n.toNatClampNeg ≤ B.2 ∧ k (pc + 2) L (.ref z.1 :: r) (mz_new M z.1 (mz_aty t) n.toNatClampNeg) (z.1 + 1, z.2 + n.toNatClampNeg)
  | .anewarray _ => mz_pI st fun n r => ¬ n < 0 ∧ n.toNatClampNeg ≤ 1000000 ∧ z.1 + 1 ≤ B.1 ∧ z.2 + n.toNatClampNeg ≤ B.2 ∧ k (pc + 3) L (.ref z.1 :: r) (mz_new M z.1 5 n.toNatClampNeg) (z.1 + 1, z.2 + n.toNatClampNeg)
  | .new _ => mz_t2 tg fun c _ => z.1 + 1 ≤ B.1 ∧ z.2 + mz_cS c ≤ B.2 ∧ k (pc + 3) L (.ref z.1 :: st) (mz_new M z.1 (10 + c) (mz_cS c)) (z.1 + 1, z.2 + mz_cS c)
  | .invokevirtual _ => mz_t5 tg fun h y n c _ => match h with
    | 0 => mz_gR st[n - 1]? (fun a => mz_kd M a = 10 + c) ∧ mz_cal K y n st M z (fun s2 M2 => k (pc + 3) L s2 M2 z)
    | 5 => mz_gR st[n - 1]? (fun a => mz_kd M a = 10 + c) ∧ mz_caa K y n st M z B (fun s2 M2 z2 => k (pc + 3) L s2 M2 z2)
    | 6 => mz_gR st[n - 1]? (fun a => ∃ i, i < 10 ∧ a = sa i) ∧ mz_cal K y n st M z (fun s2 M2 => k (pc + 3) L s2 M2 z)
    | _ => False
  | .invokestatic _ => mz_t5 tg fun h y n _ _ => match h with
    | 0 => mz_cal K y n st M z (fun s2 M2 => k (pc + 3) L s2 M2 z)
    | 2 => mz_pI st fun x3 r => mz_pI r fun x2 r => mz_pR r fun b r => mz_pI r fun x1 r => mz_pR r fun a r => 1 ≤ dd ∧ mz_sum r ≤ 8 ∧ mz_cop M a b x1 x2 x3 ∧
        ((mz_kd M a = 1 ∧ mz_kd M b = 1 ∧ k (pc + 3) L r (mz_cI M b (va_cpy (M.1 a) (M.1 b) x1.toNatClampNeg x2.toNatClampNeg x3.toNatClampNeg)) z) ∨ (mz_kd M a = 4 ∧ mz_kd M b = 4 ∧ k (pc + 3) L r (mz_cJ M b (va_cpy (M.2.1 a) (M.2.1 b) x1.toNatClampNeg x2.toNatClampNeg x3.toNatClampNeg)) z))
    | _ => False
  | .invokespecial _ => mz_t5 tg fun h y n _ _ => match h with
    | 1 => mz_pR st fun _ r => 1 ≤ dd ∧ mz_sum r ≤ 8 ∧ k (pc + 3) L r M z
    | 5 => mz_gR st[n - 1]? (fun _ => True) ∧ mz_caa K y n st M z B (fun s2 M2 z2 => k (pc + 3) L s2 M2 z2)
    | 7 => mz_gR st[n - 1]? (fun _ => True) ∧ mz_caa K y n st M z B (fun s2 M2 z2 => k (pc + 3) L s2 M2 z2)
    | _ => False
  | .return_ => st = [] ∧ z = B ∧ Y.2.2.2.1 = none ∧ Q none M
  | .ireturn => mz_pI st fun v r => r = [] ∧ z = B ∧ (∃ t, Y.2.2.2.1 = some t ∧ narrow t (.int v) = .int v) ∧ Q (some (.int v)) M
  | .lreturn => mz_pJ st fun v r => r = [] ∧ z = B ∧ Y.2.2.2.1 = some .long ∧ Q (some (.long v)) M
  | .areturn => mz_pV st fun v r => r = [] ∧ z = B ∧ (∃ n, Y.2.2.2.1 = some (.object n)) ∧ (v = .null ∨ ∃ a, v = .ref a) ∧ Q (some v) M
  | _ => False
-- monotone
theorem mz_pI_m {st : List Value} {f g : Int32 → List Value → Prop} (h : ∀ x r, f x r → g x r) (a : mz_pI st f) : mz_pI st g := by
  revert a
  unfold mz_pI
  split
  · exact h _ _ 
  · exact id
theorem mz_pJ_m {st : List Value} {f g : Int64 → List Value → Prop} (h : ∀ x r, f x r → g x r) (a : mz_pJ st f) : mz_pJ st g := by
  revert a
  unfold mz_pJ
  split
  · exact h _ _ 
  · exact id
theorem mz_pR_m {st : List Value} {f g : Nat → List Value → Prop} (h : ∀ x r, f x r → g x r) (a : mz_pR st f) : mz_pR st g := by
  revert a
  unfold mz_pR
  split
  · exact h _ _ 
  · exact id
theorem mz_pV_m {st : List Value} {f g : Value → List Value → Prop} (h : ∀ x r, f x r → g x r) (a : mz_pV st f) : mz_pV st g := by
  revert a
  unfold mz_pV
  split
  · exact h _ _ 
  · exact id
theorem mz_gI_m {o : Option Value} {f g : Int32 → Prop} (h : ∀ x, f x → g x) (a : mz_gI o f) : mz_gI o g := by
  revert a
  unfold mz_gI
  split
  · exact h _ 
  · exact id
theorem mz_gJ_m {o : Option Value} {f g : Int64 → Prop} (h : ∀ x, f x → g x) (a : mz_gJ o f) : mz_gJ o g := by
  revert a
  unfold mz_gJ
  split
  · exact h _ 
  · exact id
theorem mz_gR_m {o : Option Value} {f g : Nat → Prop} (h : ∀ x, f x → g x) (a : mz_gR o f) : mz_gR o g := by
  revert a
  unfold mz_gR
  split
  · exact h _ 
  · exact id
theorem mz_t1_m {tg : List Nat} {f g : Nat → Prop} (h : ∀ x, f x → g x) (a : mz_t1 tg f) : mz_t1 tg g := by
  revert a
  unfold mz_t1
  split
  · exact h _ 
  · exact id
theorem mz_t2_m {tg : List Nat} {f g : Nat → Nat → Prop} (h : ∀ x y, f x y → g x y) (a : mz_t2 tg f) : mz_t2 tg g := by
  revert a
  unfold mz_t2
  split
  · exact h _ _ 
  · exact id
theorem mz_t3_m {tg : List Nat} {f g : Nat → Nat → Nat → Prop} (h : ∀ x y w, f x y w → g x y w) (a : mz_t3 tg f) : mz_t3 tg g := by
  revert a
  unfold mz_t3
  split
  · exact h _ _ _ 
  · exact id
theorem mz_t5_m {tg : List Nat} {f g : Nat → Nat → Nat → Nat → Nat → Prop} (h : ∀ x y w u v, f x y w u v → g x y w u v) (a : mz_t5 tg f) : mz_t5 tg g := by
  revert a
  unfold mz_t5
  split
  · exact h _ _ _ _ _ 
  · exact id
theorem mz_br_m {c : ClassFile.Cond} {x y : Int32} {t f t' f' : Prop} (h1 : t → t') (h2 : f → f') (a : mz_br c x y t f) : mz_br c x y t' f' := by
  cases c <;> exact ⟨fun q => h1 (a.1 q), fun q => h2 (a.2 q)⟩
theorem mz_sw_m {x : Int32} {lo hi : Int} {tg : List Nat} {f g : Nat → Prop} (h : ∀ t, f t → g t) (a : mz_sw x lo hi tg f) : mz_sw x lo hi tg g := by
  have key : ∀ o : Option Nat, mz_sw.mz_gN o f → mz_sw.mz_gN o g := by
    intro o b
    revert b
    unfold mz_sw.mz_gN
    split
    · exact h _ 
    · exact id
  exact ⟨fun q => key _ (a.1 q), fun q1 q2 => key _ (a.2 q1 q2)⟩
def mz_Km (K : mz_K) : Prop := ∀ (y : Nat) (args : List Value) (M : mz_M) (z z' : Nat × Nat) (Q Q' : mz_P), (∀ r M, Q r M → Q' r M) → K y args M z z' Q → K y args M z z' Q'
theorem mz_cal_m {K : mz_K} (hK : mz_Km K) {y n : Nat} {st : List Value} {M : mz_M} {z : Nat × Nat} {f g : List Value → mz_M → Prop} (h : ∀ s M, f s M → g s M) (a : mz_cal K y n st M z f) : mz_cal K y n st M z g :=
  ⟨a.1, a.2.1, hK _ _ _ _ _ _ _ (fun _ _ q => h _ _ q) a.2.2⟩
theorem mz_caa_m {K : mz_K} (hK : mz_Km K) {y n : Nat} {st : List Value} {M : mz_M} {z B : Nat × Nat} {f g : List Value → mz_M → Nat × Nat → Prop} (h : ∀ s M z, f s M z → g s M z) (a : mz_caa K y n st M z B f) : mz_caa K y n st M z B g := by
  obtain ⟨a1, a2, z', b1, b2, b3, b4, b5⟩ := a
  exact ⟨a1, a2, z', b1, b2, b3, b4, hK _ _ _ _ _ _ _ (fun _ _ q => h _ _ _ q) b5⟩
set_option maxHeartbeats 4000000 in
theorem mz_stp_m {sc : Option (Nat × Nat × (Nat → Int32))} {sa : Nat → Nat} {K : mz_K} (hK : mz_Km K) {dd : Nat} {Y : mz_Y} {B : Nat × Nat} {Q Q' : mz_P} {k k' : mz_C} (hk : ∀ pc L st M z, k pc L st M z → k' pc L st M z) (hQ : ∀ r M, Q r M → Q' r M) {i : Instr} {tg : List Nat} {pc : Nat} {L st : List Value} {M : mz_M} {z : Nat × Nat}
    (a : mz_stp sc sa K dd Y B Q k i tg pc L st M z) : mz_stp sc sa K dd Y B Q' k' i tg pc L st M z := by
  cases i
  case iconst => exact hk _ _ _ _ _ a
  case bipush => exact hk _ _ _ _ _ a
  case sipush => exact hk _ _ _ _ _ a
  case lconst => exact hk _ _ _ _ _ a
  case aconst_null => exact hk _ _ _ _ _ a
  case iload => exact mz_gI_m (fun _ => hk _ _ _ _ _) a
  case iload_n => exact mz_gI_m (fun _ => hk _ _ _ _ _) a
  case lload => exact mz_gJ_m (fun _ => hk _ _ _ _ _) a
  case lload_n => exact mz_gJ_m (fun _ => hk _ _ _ _ _) a
  case aload => exact mz_gR_m (fun _ => hk _ _ _ _ _) a
  case aload_n => exact mz_gR_m (fun _ => hk _ _ _ _ _) a
  case istore => exact mz_pI_m (fun _ _ => And.imp_right (hk _ _ _ _ _)) a
  case istore_n => exact mz_pI_m (fun _ _ => And.imp_right (hk _ _ _ _ _)) a
  case lstore => exact mz_pJ_m (fun _ _ => And.imp_right (hk _ _ _ _ _)) a
  case lstore_n => exact mz_pJ_m (fun _ _ => And.imp_right (hk _ _ _ _ _)) a
  case astore => exact mz_pR_m (fun _ _ => And.imp_right (hk _ _ _ _ _)) a
  case astore_n => exact mz_pR_m (fun _ _ => And.imp_right (hk _ _ _ _ _)) a
  case iinc => exact mz_gI_m (fun _ => hk _ _ _ _ _) a
  case iadd => exact mz_pI_m (fun _ _ => mz_pI_m (fun _ _ => hk _ _ _ _ _)) a
  case isub => exact mz_pI_m (fun _ _ => mz_pI_m (fun _ _ => hk _ _ _ _ _)) a
  case imul => exact mz_pI_m (fun _ _ => mz_pI_m (fun _ _ => hk _ _ _ _ _)) a
  case iand => exact mz_pI_m (fun _ _ => mz_pI_m (fun _ _ => hk _ _ _ _ _)) a
  case ior => exact mz_pI_m (fun _ _ => mz_pI_m (fun _ _ => hk _ _ _ _ _)) a
  case ixor => exact mz_pI_m (fun _ _ => mz_pI_m (fun _ _ => hk _ _ _ _ _)) a
  case idiv => exact mz_pI_m (fun _ _ => mz_pI_m (fun _ _ => And.imp_right (hk _ _ _ _ _))) a
  case irem => exact mz_pI_m (fun _ _ => mz_pI_m (fun _ _ => And.imp_right (hk _ _ _ _ _))) a
  case ishl => exact mz_pI_m (fun _ _ => mz_pI_m (fun _ _ => hk _ _ _ _ _)) a
  case ishr => exact mz_pI_m (fun _ _ => mz_pI_m (fun _ _ => hk _ _ _ _ _)) a
  case iushr => exact mz_pI_m (fun _ _ => mz_pI_m (fun _ _ => hk _ _ _ _ _)) a
  case land => exact mz_pJ_m (fun _ _ => mz_pJ_m (fun _ _ => hk _ _ _ _ _)) a
  case lor => exact mz_pJ_m (fun _ _ => mz_pJ_m (fun _ _ => hk _ _ _ _ _)) a
  case lxor => exact mz_pJ_m (fun _ _ => mz_pJ_m (fun _ _ => hk _ _ _ _ _)) a
  case lshl => exact mz_pI_m (fun _ _ => mz_pJ_m (fun _ _ => hk _ _ _ _ _)) a
  case lshr => exact mz_pI_m (fun _ _ => mz_pJ_m (fun _ _ => hk _ _ _ _ _)) a
  case lushr => exact mz_pI_m (fun _ _ => mz_pJ_m (fun _ _ => hk _ _ _ _ _)) a
  case i2l => exact mz_pI_m (fun _ _ => hk _ _ _ _ _) a
  case l2i => exact mz_pJ_m (fun _ _ => hk _ _ _ _ _) a
  case i2b => exact mz_pI_m (fun _ _ => hk _ _ _ _ _) a
  case lcmp => exact mz_pJ_m (fun _ _ => mz_pJ_m (fun _ _ => hk _ _ _ _ _)) a
  case dup => exact mz_pV_m (fun _ _ => And.imp_right (hk _ _ _ _ _)) a
  case dup2 => exact mz_pV_m (fun _ _ => mz_pV_m (fun _ _ => And.imp_right (And.imp_right (hk _ _ _ _ _)))) a
  case pop => exact mz_pV_m (fun _ _ => And.imp_right (hk _ _ _ _ _)) a
  case ifCond => exact mz_t1_m (fun _ => mz_pI_m (fun _ _ => mz_br_m (hk _ _ _ _ _) (hk _ _ _ _ _))) a
  case if_icmp => exact mz_t1_m (fun _ => mz_pI_m (fun _ _ => mz_pI_m (fun _ _ => mz_br_m (hk _ _ _ _ _) (hk _ _ _ _ _)))) a
  case goto => exact mz_t1_m (fun _ => hk _ _ _ _ _) a
  case ifnull => exact mz_t1_m (fun _ => mz_pV_m (fun _ _ h => ⟨fun q => hk _ _ _ _ _ (h.1 q), fun q => hk _ _ _ _ _ (h.2.1 q), h.2.2⟩)) a
  case ifnonnull => exact mz_t1_m (fun _ => mz_pV_m (fun _ _ h => ⟨fun q => hk _ _ _ _ _ (h.1 q), fun q => hk _ _ _ _ _ (h.2.1 q), h.2.2⟩)) a
  case tableswitch => exact mz_pI_m (fun _ _ => mz_sw_m (fun _ => hk _ _ _ _ _)) a
  case ldc => exact mz_t3_m (fun _ _ _ => hk _ _ _ _ _) a
  case ldc_w => exact mz_t3_m (fun _ _ _ => hk _ _ _ _ _) a
  case ldc2_w => exact mz_t3_m (fun _ _ _ => hk _ _ _ _ _) a
  case getfield => exact mz_t3_m (fun _ _ _ => mz_pR_m (fun _ _ => And.imp_right (hk _ _ _ _ _))) a
  case putfield =>
    refine mz_t3_m (fun _ _ _ => mz_pV_m (fun _ _ => mz_pR_m (fun _ _ h => ⟨h.1, h.2.1, ?_⟩))) a
    rcases h.2.2 with ⟨x, h1, h2, h3, h4, h5⟩ | ⟨x, h1, h2, h3⟩
    · exact Or.inl ⟨x, h1, h2, h3, h4, hk _ _ _ _ _ h5⟩
    · exact Or.inr ⟨x, h1, h2, hk _ _ _ _ _ h3⟩
  case iaload =>
    refine mz_pI_m (fun _ _ => mz_pR_m (fun _ _ h => ?_)) a
    rcases h with ⟨h1, h2, h3⟩ | ⟨n, f, h1, h2, h3⟩
    · exact Or.inl ⟨h1, h2, hk _ _ _ _ _ h3⟩
    · exact Or.inr ⟨n, f, h1, h2, hk _ _ _ _ _ h3⟩
  case baload => exact mz_pI_m (fun _ _ => mz_pR_m (fun _ _ => And.imp_right (And.imp_right (hk _ _ _ _ _)))) a
  case laload => exact mz_pI_m (fun _ _ => mz_pR_m (fun _ _ => And.imp_right (And.imp_right (hk _ _ _ _ _)))) a
  case aaload => exact mz_pI_m (fun _ _ => mz_pR_m (fun _ _ => And.imp_right (And.imp_right (hk _ _ _ _ _)))) a
  case iastore => exact mz_pI_m (fun _ _ => mz_pI_m (fun _ _ => mz_pR_m (fun _ _ => And.imp_right (And.imp_right (hk _ _ _ _ _))))) a
  case bastore => exact mz_pI_m (fun _ _ => mz_pI_m (fun _ _ => mz_pR_m (fun _ _ => And.imp_right (Or.imp (And.imp_right (hk _ _ _ _ _)) (And.imp_right (hk _ _ _ _ _)))))) a
  case lastore => exact mz_pJ_m (fun _ _ => mz_pI_m (fun _ _ => mz_pR_m (fun _ _ => And.imp_right (And.imp_right (hk _ _ _ _ _))))) a
  case aastore => exact mz_pR_m (fun _ _ => mz_pI_m (fun _ _ => mz_pR_m (fun _ _ => And.imp_right (And.imp_right (And.imp_right (hk _ _ _ _ _)))))) a
  case arraylength =>
    refine mz_pR_m (fun _ _ h => ?_) a
    rcases h with ⟨h1, h2⟩ | ⟨n, f, h1, h2⟩
    · exact Or.inl ⟨h1, hk _ _ _ _ _ h2⟩
    · exact Or.inr ⟨n, f, h1, hk _ _ _ _ _ h2⟩
  case newarray => exact mz_pI_m (fun _ _ h => ⟨h.1, h.2.1, h.2.2.1, h.2.2.2.1, h.2.2.2.2.1, hk _ _ _ _ _ h.2.2.2.2.2⟩) a
  case anewarray => exact mz_pI_m (fun _ _ h => ⟨h.1, h.2.1, h.2.2.1, h.2.2.2.1, hk _ _ _ _ _ h.2.2.2.2⟩) a
  case new => exact mz_t2_m (fun _ _ h => ⟨h.1, h.2.1, hk _ _ _ _ _ h.2.2⟩) a
  case invokevirtual =>
    refine mz_t5_m (fun h y n c p q => ?_) a
    split at q
    · exact ⟨q.1, mz_cal_m hK (fun _ _ => hk _ _ _ _ _) q.2⟩
    · exact ⟨q.1, mz_caa_m hK (fun _ _ _ => hk _ _ _ _ _) q.2⟩
    · exact ⟨q.1, mz_cal_m hK (fun _ _ => hk _ _ _ _ _) q.2⟩
    · exact q.elim
  case invokestatic =>
    refine mz_t5_m (fun h y n c p q => ?_) a
    split at q
    · exact mz_cal_m hK (fun _ _ => hk _ _ _ _ _) q
    · refine mz_pI_m (fun _ _ => mz_pI_m (fun _ _ => mz_pR_m (fun _ _ => mz_pI_m (fun _ _ => mz_pR_m (fun _ _ h => ⟨h.1, h.2.1, h.2.2.1, ?_⟩))))) q
      exact Or.imp (And.imp_right (And.imp_right (hk _ _ _ _ _))) (And.imp_right (And.imp_right (hk _ _ _ _ _))) h.2.2.2
    · exact q.elim
  case invokespecial =>
    refine mz_t5_m (fun h y n c p q => ?_) a
    split at q
    · exact mz_pR_m (fun _ _ h => ⟨h.1, h.2.1, hk _ _ _ _ _ h.2.2⟩) q
    · exact ⟨q.1, mz_caa_m hK (fun _ _ _ => hk _ _ _ _ _) q.2⟩
    · exact ⟨q.1, mz_caa_m hK (fun _ _ _ => hk _ _ _ _ _) q.2⟩
    · exact q.elim
  case return_ => exact ⟨a.1, a.2.1, a.2.2.1, hQ _ _ a.2.2.2⟩
  case ireturn => exact mz_pI_m (fun _ _ h => ⟨h.1, h.2.1, h.2.2.1, hQ _ _ h.2.2.2⟩) a
  case lreturn => exact mz_pJ_m (fun _ _ h => ⟨h.1, h.2.1, h.2.2.1, hQ _ _ h.2.2.2⟩) a
  case areturn => exact mz_pV_m (fun _ _ h => ⟨h.1, h.2.1, h.2.2.1, h.2.2.2.1, hQ _ _ h.2.2.2.2⟩) a
  all_goals exact False.elim a
def mz_nx (sc : Option (Nat × Nat × (Nat → Int32))) (sa : Nat → Nat) (K : mz_K) (dd : Nat) (Y : mz_Y) (B : Nat × Nat) (Q : mz_P) (k : mz_C) (pc : Nat) (L st : List Value) (M : mz_M) (z : Nat × Nat) : Prop := match mz_lk Y.2.2.2.2.2.2 pc with
  | none => False
  | some e => mz_stp sc sa K dd Y B Q k e.1 e.2.2 pc L st M z
def mz_wp (sc : Option (Nat × Nat × (Nat → Int32))) (sa : Nat → Nat) (K : mz_K) (dd : Nat) (Y : mz_Y) (B : Nat × Nat) (Q : mz_P) (pc : Nat) (L st : List Value) (M : mz_M) (z : Nat × Nat) : Prop :=
  ∀ P : mz_C, (∀ pc L st M z, mz_nx sc sa K dd Y B Q P pc L st M z → P pc L st M z) → P pc L st M z
theorem mz_nx_m {sc : Option (Nat × Nat × (Nat → Int32))} {sa : Nat → Nat} {K : mz_K} (hK : mz_Km K) {dd : Nat} {Y : mz_Y} {B : Nat × Nat} {Q Q' : mz_P} {k k' : mz_C} (hk : ∀ pc L st M z, k pc L st M z → k' pc L st M z) (hQ : ∀ r M, Q r M → Q' r M) {pc : Nat} {L st : List Value} {M : mz_M} {z : Nat × Nat}
    (a : mz_nx sc sa K dd Y B Q k pc L st M z) : mz_nx sc sa K dd Y B Q' k' pc L st M z := by
  unfold mz_nx at a ⊢
  split
  · rename_i h
    rw [h] at a
    exact a
  · rename_i h
    rw [h] at a
    exact mz_stp_m hK hk hQ a
theorem mz_wp_i {sc : Option (Nat × Nat × (Nat → Int32))} {sa : Nat → Nat} {K : mz_K} (hK : mz_Km K) {dd : Nat} {Y : mz_Y} {B : Nat × Nat} {Q : mz_P} {pc : Nat} {L st : List Value} {M : mz_M} {z : Nat × Nat}
    (a : mz_nx sc sa K dd Y B Q (mz_wp sc sa K dd Y B Q) pc L st M z) : mz_wp sc sa K dd Y B Q pc L st M z := fun P hP => hP _ _ _ _ _ (mz_nx_m hK (fun _ _ _ _ _ h => h P hP) (fun _ _ h => h) a)
theorem mz_wp_m {sc : Option (Nat × Nat × (Nat → Int32))} {sa : Nat → Nat} {K : mz_K} (hK : mz_Km K) {dd : Nat} {Y : mz_Y} {B : Nat × Nat} {Q Q' : mz_P} (hQ : ∀ r M, Q r M → Q' r M) {pc : Nat} {L st : List Value} {M : mz_M} {z : Nat × Nat}
    (a : mz_wp sc sa K dd Y B Q pc L st M z) : mz_wp sc sa K dd Y B Q' pc L st M z := fun P hP => a P (fun _ _ _ _ _ h => hP _ _ _ _ _ (mz_nx_m hK (fun _ _ _ _ _ h => h) hQ h))
end
