section
-- ===== PART A: goes FIRST, ahead of the names: the tables' words, and 'selects' of the private methods out of them =====
/-- a private method of a class that the tables say can be made, by its rows of tables_1 -/
def lw_okq (q : MethodName × Nat) : Prop := (q.1.cls ≠ "java/lang/invoke/MethodHandle" ∧ q.1.cls ≠ "java/lang/invoke/VarHandle") ∧ Cond.instantiable q.1.cls q.2 ∈ tables_1 ∧ Cond.privateMethod q.1 ∈ tables_1 ∧ Cond.instanceMethod q.1 ∈ tables_1
theorem lw_p0 : lw_okq (⟨"RerootStore$Tape", "takeToken", "()V"⟩, 12) := ⟨⟨by decide +kernel, by decide +kernel⟩, List.mem_of_getElem? (i := 23) (by decide +kernel), List.mem_of_getElem? (i := 263) (by decide +kernel), List.mem_of_getElem? (i := 264) (by decide +kernel)⟩
theorem lw_p1 : lw_okq (⟨"RerootStore$Tape", "byteAt", "(I)I"⟩, 12) := ⟨⟨by decide +kernel, by decide +kernel⟩, List.mem_of_getElem? (i := 23) (by decide +kernel), List.mem_of_getElem? (i := 267) (by decide +kernel), List.mem_of_getElem? (i := 268) (by decide +kernel)⟩
theorem lw_p2 : lw_okq (⟨"RerootStore$Tape", "takeLetters", "()V"⟩, 12) := ⟨⟨by decide +kernel, by decide +kernel⟩, List.mem_of_getElem? (i := 23) (by decide +kernel), List.mem_of_getElem? (i := 277) (by decide +kernel), List.mem_of_getElem? (i := 278) (by decide +kernel)⟩
theorem lw_p3 : lw_okq (⟨"RerootStore$Tape", "takeDigits", "()V"⟩, 12) := ⟨⟨by decide +kernel, by decide +kernel⟩, List.mem_of_getElem? (i := 23) (by decide +kernel), List.mem_of_getElem? (i := 284) (by decide +kernel), List.mem_of_getElem? (i := 285) (by decide +kernel)⟩
theorem lw_p4 : lw_okq (⟨"RerootStore$Tape", "wordKind", "()I"⟩, 12) := ⟨⟨by decide +kernel, by decide +kernel⟩, List.mem_of_getElem? (i := 23) (by decide +kernel), List.mem_of_getElem? (i := 303) (by decide +kernel), List.mem_of_getElem? (i := 304) (by decide +kernel)⟩
theorem lw_p5 : lw_okq (⟨"RerootStore$Tape", "isWord", "(Ljava/lang/String;)Z"⟩, 12) := ⟨⟨by decide +kernel, by decide +kernel⟩, List.mem_of_getElem? (i := 23) (by decide +kernel), List.mem_of_getElem? (i := 308) (by decide +kernel), List.mem_of_getElem? (i := 309) (by decide +kernel)⟩
theorem lw_p6 : lw_okq (⟨"RerootStore$Tape", "refuse", "(II)V"⟩, 12) := ⟨⟨by decide +kernel, by decide +kernel⟩, List.mem_of_getElem? (i := 23) (by decide +kernel), List.mem_of_getElem? (i := 366) (by decide +kernel), List.mem_of_getElem? (i := 367) (by decide +kernel)⟩
theorem lw_p7 : lw_okq (⟨"RerootStore$Tape", "isOneTooMany", "(LRerootStore$Story;)Z"⟩, 12) := ⟨⟨by decide +kernel, by decide +kernel⟩, List.mem_of_getElem? (i := 23) (by decide +kernel), List.mem_of_getElem? (i := 370) (by decide +kernel), List.mem_of_getElem? (i := 371) (by decide +kernel)⟩
theorem lw_p8 : lw_okq (⟨"RerootStore$Tape", "takeNumbers", "(LRerootStore$Story;)V"⟩, 12) := ⟨⟨by decide +kernel, by decide +kernel⟩, List.mem_of_getElem? (i := 23) (by decide +kernel), List.mem_of_getElem? (i := 374) (by decide +kernel), List.mem_of_getElem? (i := 375) (by decide +kernel)⟩
theorem lw_p9 : lw_okq (⟨"RerootStore$Tape", "takeStore", "()V"⟩, 12) := ⟨⟨by decide +kernel, by decide +kernel⟩, List.mem_of_getElem? (i := 23) (by decide +kernel), List.mem_of_getElem? (i := 378) (by decide +kernel), List.mem_of_getElem? (i := 379) (by decide +kernel)⟩
theorem lw_p10 : lw_okq (⟨"RerootStore$Tape", "takeWord", "(Ljava/lang/String;)V"⟩, 12) := ⟨⟨by decide +kernel, by decide +kernel⟩, List.mem_of_getElem? (i := 23) (by decide +kernel), List.mem_of_getElem? (i := 383) (by decide +kernel), List.mem_of_getElem? (i := 384) (by decide +kernel)⟩
theorem lw_p11 : lw_okq (⟨"RerootStore$Tape", "takeNumber", "(II)I"⟩, 12) := ⟨⟨by decide +kernel, by decide +kernel⟩, List.mem_of_getElem? (i := 23) (by decide +kernel), List.mem_of_getElem? (i := 387) (by decide +kernel), List.mem_of_getElem? (i := 388) (by decide +kernel)⟩
theorem lw_p12 : lw_okq (⟨"RerootStore$Tape", "takePair", "(LRerootStore$Story;)V"⟩, 12) := ⟨⟨by decide +kernel, by decide +kernel⟩, List.mem_of_getElem? (i := 23) (by decide +kernel), List.mem_of_getElem? (i := 393) (by decide +kernel), List.mem_of_getElem? (i := 394) (by decide +kernel)⟩
theorem lw_p13 : lw_okq (⟨"RerootStore$Tape", "takeDeed", "(LRerootStore$Shelf;)V"⟩, 12) := ⟨⟨by decide +kernel, by decide +kernel⟩, List.mem_of_getElem? (i := 23) (by decide +kernel), List.mem_of_getElem? (i := 405) (by decide +kernel), List.mem_of_getElem? (i := 406) (by decide +kernel)⟩
theorem lw_p14 : lw_okq (⟨"RerootStore$Tape", "takeSign", "()V"⟩, 12) := ⟨⟨by decide +kernel, by decide +kernel⟩, List.mem_of_getElem? (i := 23) (by decide +kernel), List.mem_of_getElem? (i := 432) (by decide +kernel), List.mem_of_getElem? (i := 433) (by decide +kernel)⟩
theorem lw_p15 : lw_okq (⟨"RerootStore$Story", "ownNumbers", "(I)J"⟩, 11) := ⟨⟨by decide +kernel, by decide +kernel⟩, List.mem_of_getElem? (i := 171) (by decide +kernel), List.mem_of_getElem? (i := 440) (by decide +kernel), List.mem_of_getElem? (i := 441) (by decide +kernel)⟩
def lw_privs_1 : List (MethodName × Nat) := [(⟨"RerootStore$Tape", "takeToken", "()V"⟩, 12), (⟨"RerootStore$Tape", "byteAt", "(I)I"⟩, 12), (⟨"RerootStore$Tape", "takeLetters", "()V"⟩, 12), (⟨"RerootStore$Tape", "takeDigits", "()V"⟩, 12), (⟨"RerootStore$Tape", "wordKind", "()I"⟩, 12), (⟨"RerootStore$Tape", "isWord", "(Ljava/lang/String;)Z"⟩, 12), (⟨"RerootStore$Tape", "refuse", "(II)V"⟩, 12), (⟨"RerootStore$Tape", "isOneTooMany", "(LRerootStore$Story;)Z"⟩, 12), (⟨"RerootStore$Tape", "takeNumbers", "(LRerootStore$Story;)V"⟩, 12), (⟨"RerootStore$Tape", "takeStore", "()V"⟩, 12), (⟨"RerootStore$Tape", "takeWord", "(Ljava/lang/String;)V"⟩, 12), (⟨"RerootStore$Tape", "takeNumber", "(II)I"⟩, 12), (⟨"RerootStore$Tape", "takePair", "(LRerootStore$Story;)V"⟩, 12), (⟨"RerootStore$Tape", "takeDeed", "(LRerootStore$Shelf;)V"⟩, 12), (⟨"RerootStore$Tape", "takeSign", "()V"⟩, 12), (⟨"RerootStore$Story", "ownNumbers", "(I)J"⟩, 11)]
theorem lw_r1 : ∀ q ∈ lw_privs_1, lw_okq q := List.forall_mem_cons.mpr ⟨lw_p0, List.forall_mem_cons.mpr ⟨lw_p1, List.forall_mem_cons.mpr ⟨lw_p2, List.forall_mem_cons.mpr ⟨lw_p3, List.forall_mem_cons.mpr ⟨lw_p4, List.forall_mem_cons.mpr ⟨lw_p5, List.forall_mem_cons.mpr ⟨lw_p6, List.forall_mem_cons.mpr ⟨lw_p7, List.forall_mem_cons.mpr ⟨lw_p8, List.forall_mem_cons.mpr ⟨lw_p9, List.forall_mem_cons.mpr ⟨lw_p10, List.forall_mem_cons.mpr ⟨lw_p11, List.forall_mem_cons.mpr ⟨lw_p12, List.forall_mem_cons.mpr ⟨lw_p13, List.forall_mem_cons.mpr ⟨lw_p14, List.forall_mem_cons.mpr ⟨lw_p15, fun _ h => absurd h List.not_mem_nil⟩⟩⟩⟩⟩⟩⟩⟩⟩⟩⟩⟩⟩⟩⟩⟩
theorem lw_p16 : lw_okq (⟨"RerootStore$Story", "pairUp", "(II)V"⟩, 11) := ⟨⟨by decide +kernel, by decide +kernel⟩, List.mem_of_getElem? (i := 171) (by decide +kernel), List.mem_of_getElem? (i := 453) (by decide +kernel), List.mem_of_getElem? (i := 454) (by decide +kernel)⟩
theorem lw_p17 : lw_okq (⟨"RerootStore$Shelf", "linksBefore", "(II)I"⟩, 10) := ⟨⟨by decide +kernel, by decide +kernel⟩, List.mem_of_getElem? (i := 76) (by decide +kernel), List.mem_of_getElem? (i := 473) (by decide +kernel), List.mem_of_getElem? (i := 474) (by decide +kernel)⟩
theorem lw_p18 : lw_okq (⟨"RerootStore$Shelf", "reach", "(I)V"⟩, 10) := ⟨⟨by decide +kernel, by decide +kernel⟩, List.mem_of_getElem? (i := 76) (by decide +kernel), List.mem_of_getElem? (i := 477) (by decide +kernel), List.mem_of_getElem? (i := 478) (by decide +kernel)⟩
theorem lw_p19 : lw_okq (⟨"RerootStore$Shelf", "isTooLong", "(I)Z"⟩, 10) := ⟨⟨by decide +kernel, by decide +kernel⟩, List.mem_of_getElem? (i := 76) (by decide +kernel), List.mem_of_getElem? (i := 485) (by decide +kernel), List.mem_of_getElem? (i := 486) (by decide +kernel)⟩
theorem lw_p20 : lw_okq (⟨"RerootStore$Shelf", "giveRow", "(II)V"⟩, 10) := ⟨⟨by decide +kernel, by decide +kernel⟩, List.mem_of_getElem? (i := 76) (by decide +kernel), List.mem_of_getElem? (i := 489) (by decide +kernel), List.mem_of_getElem? (i := 490) (by decide +kernel)⟩
theorem lw_p21 : lw_okq (⟨"RerootStore$Shelf", "turnWay", "(I)V"⟩, 10) := ⟨⟨by decide +kernel, by decide +kernel⟩, List.mem_of_getElem? (i := 76) (by decide +kernel), List.mem_of_getElem? (i := 493) (by decide +kernel), List.mem_of_getElem? (i := 494) (by decide +kernel)⟩
theorem lw_p22 : lw_okq (⟨"RerootStore$Shelf", "joinRoots", "(III)I"⟩, 10) := ⟨⟨by decide +kernel, by decide +kernel⟩, List.mem_of_getElem? (i := 76) (by decide +kernel), List.mem_of_getElem? (i := 510) (by decide +kernel), List.mem_of_getElem? (i := 511) (by decide +kernel)⟩
theorem lw_p23 : lw_okq (⟨"RerootStore$Shelf", "inConflict", "(III)Z"⟩, 10) := ⟨⟨by decide +kernel, by decide +kernel⟩, List.mem_of_getElem? (i := 76) (by decide +kernel), List.mem_of_getElem? (i := 532) (by decide +kernel), List.mem_of_getElem? (i := 533) (by decide +kernel)⟩
theorem lw_p24 : lw_okq (⟨"RerootStore$Shelf", "layOn", "(IJ)I"⟩, 10) := ⟨⟨by decide +kernel, by decide +kernel⟩, List.mem_of_getElem? (i := 76) (by decide +kernel), List.mem_of_getElem? (i := 536) (by decide +kernel), List.mem_of_getElem? (i := 537) (by decide +kernel)⟩
theorem lw_p25 : lw_okq (⟨"RerootStore", "hasSpot", "(II)Z"⟩, 6) := ⟨⟨by decide +kernel, by decide +kernel⟩, List.mem_of_getElem? (i := 15) (by decide +kernel), List.mem_of_getElem? (i := 560) (by decide +kernel), List.mem_of_getElem? (i := 561) (by decide +kernel)⟩
theorem lw_p26 : lw_okq (⟨"RerootStore", "hasVersion", "(I)Z"⟩, 6) := ⟨⟨by decide +kernel, by decide +kernel⟩, List.mem_of_getElem? (i := 15) (by decide +kernel), List.mem_of_getElem? (i := 571) (by decide +kernel), List.mem_of_getElem? (i := 572) (by decide +kernel)⟩
theorem lw_p27 : lw_okq (⟨"RerootStore", "hasVersions", "(II)Z"⟩, 6) := ⟨⟨by decide +kernel, by decide +kernel⟩, List.mem_of_getElem? (i := 15) (by decide +kernel), List.mem_of_getElem? (i := 583) (by decide +kernel), List.mem_of_getElem? (i := 584) (by decide +kernel)⟩
theorem lw_p28 : lw_okq (⟨"RerootStore", "isThere", "()Z"⟩, 6) := ⟨⟨by decide +kernel, by decide +kernel⟩, List.mem_of_getElem? (i := 15) (by decide +kernel), List.mem_of_getElem? (i := 673) (by decide +kernel), List.mem_of_getElem? (i := 674) (by decide +kernel)⟩
theorem lw_p29 : lw_okq (⟨"RerootStore$Shelf", "waysThrough", "(I)I"⟩, 10) := ⟨⟨by decide +kernel, by decide +kernel⟩, List.mem_of_getElem? (i := 76) (by decide +kernel), List.mem_of_getElem? (i := 718) (by decide +kernel), List.mem_of_getElem? (i := 719) (by decide +kernel)⟩
theorem lw_p30 : lw_okq (⟨"RerootStore$Shelf", "wayBits", "(I)J"⟩, 10) := ⟨⟨by decide +kernel, by decide +kernel⟩, List.mem_of_getElem? (i := 76) (by decide +kernel), List.mem_of_getElem? (i := 722) (by decide +kernel), List.mem_of_getElem? (i := 723) (by decide +kernel)⟩
theorem lw_p31 : lw_okq (⟨"RerootStore", "hasAllOf", "(J)Z"⟩, 6) := ⟨⟨by decide +kernel, by decide +kernel⟩, List.mem_of_getElem? (i := 15) (by decide +kernel), List.mem_of_getElem? (i := 730) (by decide +kernel), List.mem_of_getElem? (i := 731) (by decide +kernel)⟩
def lw_privs_2 : List (MethodName × Nat) := [(⟨"RerootStore$Story", "pairUp", "(II)V"⟩, 11), (⟨"RerootStore$Shelf", "linksBefore", "(II)I"⟩, 10), (⟨"RerootStore$Shelf", "reach", "(I)V"⟩, 10), (⟨"RerootStore$Shelf", "isTooLong", "(I)Z"⟩, 10), (⟨"RerootStore$Shelf", "giveRow", "(II)V"⟩, 10), (⟨"RerootStore$Shelf", "turnWay", "(I)V"⟩, 10), (⟨"RerootStore$Shelf", "joinRoots", "(III)I"⟩, 10), (⟨"RerootStore$Shelf", "inConflict", "(III)Z"⟩, 10), (⟨"RerootStore$Shelf", "layOn", "(IJ)I"⟩, 10), (⟨"RerootStore", "hasSpot", "(II)Z"⟩, 6), (⟨"RerootStore", "hasVersion", "(I)Z"⟩, 6), (⟨"RerootStore", "hasVersions", "(II)Z"⟩, 6), (⟨"RerootStore", "isThere", "()Z"⟩, 6), (⟨"RerootStore$Shelf", "waysThrough", "(I)I"⟩, 10), (⟨"RerootStore$Shelf", "wayBits", "(I)J"⟩, 10), (⟨"RerootStore", "hasAllOf", "(J)Z"⟩, 6)]
theorem lw_r2 : ∀ q ∈ lw_privs_2, lw_okq q := List.forall_mem_cons.mpr ⟨lw_p16, List.forall_mem_cons.mpr ⟨lw_p17, List.forall_mem_cons.mpr ⟨lw_p18, List.forall_mem_cons.mpr ⟨lw_p19, List.forall_mem_cons.mpr ⟨lw_p20, List.forall_mem_cons.mpr ⟨lw_p21, List.forall_mem_cons.mpr ⟨lw_p22, List.forall_mem_cons.mpr ⟨lw_p23, List.forall_mem_cons.mpr ⟨lw_p24, List.forall_mem_cons.mpr ⟨lw_p25, List.forall_mem_cons.mpr ⟨lw_p26, List.forall_mem_cons.mpr ⟨lw_p27, List.forall_mem_cons.mpr ⟨lw_p28, List.forall_mem_cons.mpr ⟨lw_p29, List.forall_mem_cons.mpr ⟨lw_p30, List.forall_mem_cons.mpr ⟨lw_p31, fun _ h => absurd h List.not_mem_nil⟩⟩⟩⟩⟩⟩⟩⟩⟩⟩⟩⟩⟩⟩⟩⟩
theorem lw_p32 : lw_okq (⟨"RerootStore", "hasActLeft", "()Z"⟩, 6) := ⟨⟨by decide +kernel, by decide +kernel⟩, List.mem_of_getElem? (i := 15) (by decide +kernel), List.mem_of_getElem? (i := 804) (by decide +kernel), List.mem_of_getElem? (i := 805) (by decide +kernel)⟩
theorem lw_p33 : lw_okq (⟨"RerootStore", "hasRoomFor", "(I)Z"⟩, 6) := ⟨⟨by decide +kernel, by decide +kernel⟩, List.mem_of_getElem? (i := 15) (by decide +kernel), List.mem_of_getElem? (i := 813) (by decide +kernel), List.mem_of_getElem? (i := 814) (by decide +kernel)⟩
theorem lw_p34 : lw_okq (⟨"RerootStore", "mayColour", "(II)Z"⟩, 6) := ⟨⟨by decide +kernel, by decide +kernel⟩, List.mem_of_getElem? (i := 15) (by decide +kernel), List.mem_of_getElem? (i := 864) (by decide +kernel), List.mem_of_getElem? (i := 865) (by decide +kernel)⟩
theorem lw_p35 : lw_okq (⟨"RerootStore$Painter", "begin", "(LRerootStore$Story;IIJ)V"⟩, 10) := ⟨⟨by decide +kernel, by decide +kernel⟩, List.mem_of_getElem? (i := 133) (by decide +kernel), List.mem_of_getElem? (i := 872) (by decide +kernel), List.mem_of_getElem? (i := 873) (by decide +kernel)⟩
theorem lw_p36 : lw_okq (⟨"RerootStore$Painter", "openCell", "(II)V"⟩, 10) := ⟨⟨by decide +kernel, by decide +kernel⟩, List.mem_of_getElem? (i := 133) (by decide +kernel), List.mem_of_getElem? (i := 877) (by decide +kernel), List.mem_of_getElem? (i := 878) (by decide +kernel)⟩
theorem lw_p37 : lw_okq (⟨"RerootStore$Painter", "paintNext", "(LRerootStore$Story;I)I"⟩, 10) := ⟨⟨by decide +kernel, by decide +kernel⟩, List.mem_of_getElem? (i := 133) (by decide +kernel), List.mem_of_getElem? (i := 882) (by decide +kernel), List.mem_of_getElem? (i := 883) (by decide +kernel)⟩
theorem lw_p38 : lw_okq (⟨"RerootStore$Painter", "isFree", "(III)Z"⟩, 10) := ⟨⟨by decide +kernel, by decide +kernel⟩, List.mem_of_getElem? (i := 133) (by decide +kernel), List.mem_of_getElem? (i := 888) (by decide +kernel), List.mem_of_getElem? (i := 889) (by decide +kernel)⟩
theorem lw_p39 : lw_okq (⟨"RerootStore$Painter", "put", "(III)I"⟩, 10) := ⟨⟨by decide +kernel, by decide +kernel⟩, List.mem_of_getElem? (i := 133) (by decide +kernel), List.mem_of_getElem? (i := 893) (by decide +kernel), List.mem_of_getElem? (i := 894) (by decide +kernel)⟩
theorem lw_p40 : lw_okq (⟨"RerootStore$Painter", "backFrom", "(I)I"⟩, 10) := ⟨⟨by decide +kernel, by decide +kernel⟩, List.mem_of_getElem? (i := 133) (by decide +kernel), List.mem_of_getElem? (i := 898) (by decide +kernel), List.mem_of_getElem? (i := 899) (by decide +kernel)⟩
theorem lw_p41 : lw_okq (⟨"RerootStore$Painter", "fullRow", "(II)J"⟩, 10) := ⟨⟨by decide +kernel, by decide +kernel⟩, List.mem_of_getElem? (i := 133) (by decide +kernel), List.mem_of_getElem? (i := 931) (by decide +kernel), List.mem_of_getElem? (i := 932) (by decide +kernel)⟩
theorem lw_p42 : lw_okq (⟨"RerootStore$Painter", "takeCell", "(II)V"⟩, 10) := ⟨⟨by decide +kernel, by decide +kernel⟩, List.mem_of_getElem? (i := 133) (by decide +kernel), List.mem_of_getElem? (i := 936) (by decide +kernel), List.mem_of_getElem? (i := 937) (by decide +kernel)⟩
theorem lw_p43 : lw_okq (⟨"RerootStore$Painter", "paintAhead", "(LRerootStore$Story;I)I"⟩, 10) := ⟨⟨by decide +kernel, by decide +kernel⟩, List.mem_of_getElem? (i := 133) (by decide +kernel), List.mem_of_getElem? (i := 941) (by decide +kernel), List.mem_of_getElem? (i := 942) (by decide +kernel)⟩
theorem lw_p44 : lw_okq (⟨"RerootStore$Painter", "strikeOut", "(III)I"⟩, 10) := ⟨⟨by decide +kernel, by decide +kernel⟩, List.mem_of_getElem? (i := 133) (by decide +kernel), List.mem_of_getElem? (i := 945) (by decide +kernel), List.mem_of_getElem? (i := 946) (by decide +kernel)⟩
theorem lw_p45 : lw_okq (⟨"RerootStore", "imageAt", "(I)LRerootStore$Story;"⟩, 6) := ⟨⟨by decide +kernel, by decide +kernel⟩, List.mem_of_getElem? (i := 15) (by decide +kernel), List.mem_of_getElem? (i := 965) (by decide +kernel), List.mem_of_getElem? (i := 966) (by decide +kernel)⟩
theorem lw_p46 : lw_okq (⟨"RerootStoreModel", "next", "()V"⟩, 38) := ⟨⟨by decide +kernel, by decide +kernel⟩, List.mem_of_getElem? (i := 999) (by decide +kernel), List.mem_of_getElem? (i := 1136) (by decide +kernel), List.mem_of_getElem? (i := 1137) (by decide +kernel)⟩
theorem lw_p47 : lw_okq (⟨"RerootStoreModel", "isAt", "(II)Z"⟩, 38) := ⟨⟨by decide +kernel, by decide +kernel⟩, List.mem_of_getElem? (i := 999) (by decide +kernel), List.mem_of_getElem? (i := 1140) (by decide +kernel), List.mem_of_getElem? (i := 1141) (by decide +kernel)⟩
def lw_privs_3 : List (MethodName × Nat) := [(⟨"RerootStore", "hasActLeft", "()Z"⟩, 6), (⟨"RerootStore", "hasRoomFor", "(I)Z"⟩, 6), (⟨"RerootStore", "mayColour", "(II)Z"⟩, 6), (⟨"RerootStore$Painter", "begin", "(LRerootStore$Story;IIJ)V"⟩, 10), (⟨"RerootStore$Painter", "openCell", "(II)V"⟩, 10), (⟨"RerootStore$Painter", "paintNext", "(LRerootStore$Story;I)I"⟩, 10), (⟨"RerootStore$Painter", "isFree", "(III)Z"⟩, 10), (⟨"RerootStore$Painter", "put", "(III)I"⟩, 10), (⟨"RerootStore$Painter", "backFrom", "(I)I"⟩, 10), (⟨"RerootStore$Painter", "fullRow", "(II)J"⟩, 10), (⟨"RerootStore$Painter", "takeCell", "(II)V"⟩, 10), (⟨"RerootStore$Painter", "paintAhead", "(LRerootStore$Story;I)I"⟩, 10), (⟨"RerootStore$Painter", "strikeOut", "(III)I"⟩, 10), (⟨"RerootStore", "imageAt", "(I)LRerootStore$Story;"⟩, 6), (⟨"RerootStoreModel", "next", "()V"⟩, 38), (⟨"RerootStoreModel", "isAt", "(II)Z"⟩, 38)]
theorem lw_r3 : ∀ q ∈ lw_privs_3, lw_okq q := List.forall_mem_cons.mpr ⟨lw_p32, List.forall_mem_cons.mpr ⟨lw_p33, List.forall_mem_cons.mpr ⟨lw_p34, List.forall_mem_cons.mpr ⟨lw_p35, List.forall_mem_cons.mpr ⟨lw_p36, List.forall_mem_cons.mpr ⟨lw_p37, List.forall_mem_cons.mpr ⟨lw_p38, List.forall_mem_cons.mpr ⟨lw_p39, List.forall_mem_cons.mpr ⟨lw_p40, List.forall_mem_cons.mpr ⟨lw_p41, List.forall_mem_cons.mpr ⟨lw_p42, List.forall_mem_cons.mpr ⟨lw_p43, List.forall_mem_cons.mpr ⟨lw_p44, List.forall_mem_cons.mpr ⟨lw_p45, List.forall_mem_cons.mpr ⟨lw_p46, List.forall_mem_cons.mpr ⟨lw_p47, fun _ h => absurd h List.not_mem_nil⟩⟩⟩⟩⟩⟩⟩⟩⟩⟩⟩⟩⟩⟩⟩⟩
theorem lw_p48 : lw_okq (⟨"RerootStoreModel", "readsStore", "()V"⟩, 38) := ⟨⟨by decide +kernel, by decide +kernel⟩, List.mem_of_getElem? (i := 999) (by decide +kernel), List.mem_of_getElem? (i := 1146) (by decide +kernel), List.mem_of_getElem? (i := 1147) (by decide +kernel)⟩
theorem lw_p49 : lw_okq (⟨"RerootStoreModel", "isWord", "(Ljava/lang/String;)Z"⟩, 38) := ⟨⟨by decide +kernel, by decide +kernel⟩, List.mem_of_getElem? (i := 999) (by decide +kernel), List.mem_of_getElem? (i := 1151) (by decide +kernel), List.mem_of_getElem? (i := 1152) (by decide +kernel)⟩
theorem lw_p50 : lw_okq (⟨"RerootStoreModel", "passes", "(Z)V"⟩, 38) := ⟨⟨by decide +kernel, by decide +kernel⟩, List.mem_of_getElem? (i := 999) (by decide +kernel), List.mem_of_getElem? (i := 1157) (by decide +kernel), List.mem_of_getElem? (i := 1158) (by decide +kernel)⟩
theorem lw_p51 : lw_okq (⟨"RerootStoreModel", "faults", "(I)V"⟩, 38) := ⟨⟨by decide +kernel, by decide +kernel⟩, List.mem_of_getElem? (i := 999) (by decide +kernel), List.mem_of_getElem? (i := 1161) (by decide +kernel), List.mem_of_getElem? (i := 1162) (by decide +kernel)⟩
theorem lw_p52 : lw_okq (⟨"RerootStoreModel", "named", "(Ljava/lang/String;II)I"⟩, 38) := ⟨⟨by decide +kernel, by decide +kernel⟩, List.mem_of_getElem? (i := 999) (by decide +kernel), List.mem_of_getElem? (i := 1166) (by decide +kernel), List.mem_of_getElem? (i := 1167) (by decide +kernel)⟩
theorem lw_p53 : lw_okq (⟨"RerootStoreModel", "number", "(II)I"⟩, 38) := ⟨⟨by decide +kernel, by decide +kernel⟩, List.mem_of_getElem? (i := 999) (by decide +kernel), List.mem_of_getElem? (i := 1170) (by decide +kernel), List.mem_of_getElem? (i := 1171) (by decide +kernel)⟩
theorem lw_p54 : lw_okq (⟨"RerootStoreModel", "readsPair", "()V"⟩, 38) := ⟨⟨by decide +kernel, by decide +kernel⟩, List.mem_of_getElem? (i := 999) (by decide +kernel), List.mem_of_getElem? (i := 1177) (by decide +kernel), List.mem_of_getElem? (i := 1178) (by decide +kernel)⟩
theorem lw_p55 : lw_okq (⟨"RerootStoreModel", "readsCell", "()I"⟩, 38) := ⟨⟨by decide +kernel, by decide +kernel⟩, List.mem_of_getElem? (i := 999) (by decide +kernel), List.mem_of_getElem? (i := 1181) (by decide +kernel), List.mem_of_getElem? (i := 1182) (by decide +kernel)⟩
theorem lw_p56 : lw_okq (⟨"RerootStoreModel", "isCell", "(I)Z"⟩, 38) := ⟨⟨by decide +kernel, by decide +kernel⟩, List.mem_of_getElem? (i := 999) (by decide +kernel), List.mem_of_getElem? (i := 1185) (by decide +kernel), List.mem_of_getElem? (i := 1186) (by decide +kernel)⟩
theorem lw_p57 : lw_okq (⟨"RerootStoreModel", "needs", "(Z)V"⟩, 38) := ⟨⟨by decide +kernel, by decide +kernel⟩, List.mem_of_getElem? (i := 999) (by decide +kernel), List.mem_of_getElem? (i := 1192) (by decide +kernel), List.mem_of_getElem? (i := 1193) (by decide +kernel)⟩
theorem lw_p58 : lw_okq (⟨"RerootStoreModel", "kindHere", "()I"⟩, 38) := ⟨⟨by decide +kernel, by decide +kernel⟩, List.mem_of_getElem? (i := 999) (by decide +kernel), List.mem_of_getElem? (i := 1196) (by decide +kernel), List.mem_of_getElem? (i := 1197) (by decide +kernel)⟩
theorem lw_p59 : lw_okq (⟨"RerootStoreModel", "readsDeed", "(I)V"⟩, 38) := ⟨⟨by decide +kernel, by decide +kernel⟩, List.mem_of_getElem? (i := 999) (by decide +kernel), List.mem_of_getElem? (i := 1205) (by decide +kernel), List.mem_of_getElem? (i := 1206) (by decide +kernel)⟩
theorem lw_p60 : lw_okq (⟨"RerootStoreModel", "plays", "()I"⟩, 38) := ⟨⟨by decide +kernel, by decide +kernel⟩, List.mem_of_getElem? (i := 999) (by decide +kernel), List.mem_of_getElem? (i := 1209) (by decide +kernel), List.mem_of_getElem? (i := 1210) (by decide +kernel)⟩
theorem lw_p61 : lw_okq (⟨"RerootStoreModel", "plays", "(III)I"⟩, 38) := ⟨⟨by decide +kernel, by decide +kernel⟩, List.mem_of_getElem? (i := 999) (by decide +kernel), List.mem_of_getElem? (i := 1213) (by decide +kernel), List.mem_of_getElem? (i := 1214) (by decide +kernel)⟩
theorem lw_p62 : lw_okq (⟨"RerootStoreModel", "begins", "(III)V"⟩, 38) := ⟨⟨by decide +kernel, by decide +kernel⟩, List.mem_of_getElem? (i := 999) (by decide +kernel), List.mem_of_getElem? (i := 1217) (by decide +kernel), List.mem_of_getElem? (i := 1218) (by decide +kernel)⟩
theorem lw_p63 : lw_okq (⟨"RerootStoreModel", "straight", "(I)V"⟩, 38) := ⟨⟨by decide +kernel, by decide +kernel⟩, List.mem_of_getElem? (i := 999) (by decide +kernel), List.mem_of_getElem? (i := 1221) (by decide +kernel), List.mem_of_getElem? (i := 1222) (by decide +kernel)⟩
def lw_privs_4 : List (MethodName × Nat) := [(⟨"RerootStoreModel", "readsStore", "()V"⟩, 38), (⟨"RerootStoreModel", "isWord", "(Ljava/lang/String;)Z"⟩, 38), (⟨"RerootStoreModel", "passes", "(Z)V"⟩, 38), (⟨"RerootStoreModel", "faults", "(I)V"⟩, 38), (⟨"RerootStoreModel", "named", "(Ljava/lang/String;II)I"⟩, 38), (⟨"RerootStoreModel", "number", "(II)I"⟩, 38), (⟨"RerootStoreModel", "readsPair", "()V"⟩, 38), (⟨"RerootStoreModel", "readsCell", "()I"⟩, 38), (⟨"RerootStoreModel", "isCell", "(I)Z"⟩, 38), (⟨"RerootStoreModel", "needs", "(Z)V"⟩, 38), (⟨"RerootStoreModel", "kindHere", "()I"⟩, 38), (⟨"RerootStoreModel", "readsDeed", "(I)V"⟩, 38), (⟨"RerootStoreModel", "plays", "()I"⟩, 38), (⟨"RerootStoreModel", "plays", "(III)I"⟩, 38), (⟨"RerootStoreModel", "begins", "(III)V"⟩, 38), (⟨"RerootStoreModel", "straight", "(I)V"⟩, 38)]
theorem lw_r4 : ∀ q ∈ lw_privs_4, lw_okq q := List.forall_mem_cons.mpr ⟨lw_p48, List.forall_mem_cons.mpr ⟨lw_p49, List.forall_mem_cons.mpr ⟨lw_p50, List.forall_mem_cons.mpr ⟨lw_p51, List.forall_mem_cons.mpr ⟨lw_p52, List.forall_mem_cons.mpr ⟨lw_p53, List.forall_mem_cons.mpr ⟨lw_p54, List.forall_mem_cons.mpr ⟨lw_p55, List.forall_mem_cons.mpr ⟨lw_p56, List.forall_mem_cons.mpr ⟨lw_p57, List.forall_mem_cons.mpr ⟨lw_p58, List.forall_mem_cons.mpr ⟨lw_p59, List.forall_mem_cons.mpr ⟨lw_p60, List.forall_mem_cons.mpr ⟨lw_p61, List.forall_mem_cons.mpr ⟨lw_p62, List.forall_mem_cons.mpr ⟨lw_p63, fun _ h => absurd h List.not_mem_nil⟩⟩⟩⟩⟩⟩⟩⟩⟩⟩⟩⟩⟩⟩⟩⟩
theorem lw_p64 : lw_okq (⟨"RerootStoreModel", "does", "(I)I"⟩, 38) := ⟨⟨by decide +kernel, by decide +kernel⟩, List.mem_of_getElem? (i := 999) (by decide +kernel), List.mem_of_getElem? (i := 1225) (by decide +kernel), List.mem_of_getElem? (i := 1226) (by decide +kernel)⟩
theorem lw_p65 : lw_okq (⟨"RerootStoreModel", "deed", "(II)I"⟩, 38) := ⟨⟨by decide +kernel, by decide +kernel⟩, List.mem_of_getElem? (i := 999) (by decide +kernel), List.mem_of_getElem? (i := 1229) (by decide +kernel), List.mem_of_getElem? (i := 1230) (by decide +kernel)⟩
theorem lw_p66 : lw_okq (⟨"RerootStoreModel", "set", "(III)I"⟩, 38) := ⟨⟨by decide +kernel, by decide +kernel⟩, List.mem_of_getElem? (i := 999) (by decide +kernel), List.mem_of_getElem? (i := 1233) (by decide +kernel), List.mem_of_getElem? (i := 1234) (by decide +kernel)⟩
theorem lw_p67 : lw_okq (⟨"RerootStoreModel", "at", "(II)I"⟩, 38) := ⟨⟨by decide +kernel, by decide +kernel⟩, List.mem_of_getElem? (i := 999) (by decide +kernel), List.mem_of_getElem? (i := 1237) (by decide +kernel), List.mem_of_getElem? (i := 1238) (by decide +kernel)⟩
theorem lw_p68 : lw_okq (⟨"RerootStoreModel", "links", "(III)V"⟩, 38) := ⟨⟨by decide +kernel, by decide +kernel⟩, List.mem_of_getElem? (i := 999) (by decide +kernel), List.mem_of_getElem? (i := 1241) (by decide +kernel), List.mem_of_getElem? (i := 1242) (by decide +kernel)⟩
theorem lw_p69 : lw_okq (⟨"RerootStoreModel", "reach", "(I)V"⟩, 38) := ⟨⟨by decide +kernel, by decide +kernel⟩, List.mem_of_getElem? (i := 999) (by decide +kernel), List.mem_of_getElem? (i := 1245) (by decide +kernel), List.mem_of_getElem? (i := 1246) (by decide +kernel)⟩
theorem lw_p70 : lw_okq (⟨"RerootStoreModel", "lengthOf", "(I)I"⟩, 38) := ⟨⟨by decide +kernel, by decide +kernel⟩, List.mem_of_getElem? (i := 999) (by decide +kernel), List.mem_of_getElem? (i := 1249) (by decide +kernel), List.mem_of_getElem? (i := 1250) (by decide +kernel)⟩
theorem lw_p71 : lw_okq (⟨"RerootStoreModel", "snap", "(I)V"⟩, 38) := ⟨⟨by decide +kernel, by decide +kernel⟩, List.mem_of_getElem? (i := 999) (by decide +kernel), List.mem_of_getElem? (i := 1253) (by decide +kernel), List.mem_of_getElem? (i := 1254) (by decide +kernel)⟩
theorem lw_p72 : lw_okq (⟨"RerootStoreModel", "turns", "(I)V"⟩, 38) := ⟨⟨by decide +kernel, by decide +kernel⟩, List.mem_of_getElem? (i := 999) (by decide +kernel), List.mem_of_getElem? (i := 1257) (by decide +kernel), List.mem_of_getElem? (i := 1258) (by decide +kernel)⟩
theorem lw_p73 : lw_okq (⟨"RerootStoreModel", "join", "(III)I"⟩, 38) := ⟨⟨by decide +kernel, by decide +kernel⟩, List.mem_of_getElem? (i := 999) (by decide +kernel), List.mem_of_getElem? (i := 1261) (by decide +kernel), List.mem_of_getElem? (i := 1262) (by decide +kernel)⟩
theorem lw_p74 : lw_okq (⟨"RerootStoreModel", "find", "(II)I"⟩, 38) := ⟨⟨by decide +kernel, by decide +kernel⟩, List.mem_of_getElem? (i := 999) (by decide +kernel), List.mem_of_getElem? (i := 1265) (by decide +kernel), List.mem_of_getElem? (i := 1266) (by decide +kernel)⟩
theorem lw_p75 : lw_okq (⟨"RerootStoreModel", "read", "(II)I"⟩, 38) := ⟨⟨by decide +kernel, by decide +kernel⟩, List.mem_of_getElem? (i := 999) (by decide +kernel), List.mem_of_getElem? (i := 1269) (by decide +kernel), List.mem_of_getElem? (i := 1270) (by decide +kernel)⟩
theorem lw_p76 : lw_okq (⟨"RerootStoreModel", "along", "(II)I"⟩, 38) := ⟨⟨by decide +kernel, by decide +kernel⟩, List.mem_of_getElem? (i := 999) (by decide +kernel), List.mem_of_getElem? (i := 1273) (by decide +kernel), List.mem_of_getElem? (i := 1274) (by decide +kernel)⟩
theorem lw_p77 : lw_okq (⟨"RerootStoreModel", "merge", "(II)I"⟩, 38) := ⟨⟨by decide +kernel, by decide +kernel⟩, List.mem_of_getElem? (i := 999) (by decide +kernel), List.mem_of_getElem? (i := 1278) (by decide +kernel), List.mem_of_getElem? (i := 1279) (by decide +kernel)⟩
theorem lw_p78 : lw_okq (⟨"RerootStoreModel", "mergedOf", "(III)I"⟩, 38) := ⟨⟨by decide +kernel, by decide +kernel⟩, List.mem_of_getElem? (i := 999) (by decide +kernel), List.mem_of_getElem? (i := 1282) (by decide +kernel), List.mem_of_getElem? (i := 1283) (by decide +kernel)⟩
theorem lw_p79 : lw_okq (⟨"RerootStoreModel", "isConflict", "(III)Z"⟩, 38) := ⟨⟨by decide +kernel, by decide +kernel⟩, List.mem_of_getElem? (i := 999) (by decide +kernel), List.mem_of_getElem? (i := 1286) (by decide +kernel), List.mem_of_getElem? (i := 1287) (by decide +kernel)⟩
def lw_privs_5 : List (MethodName × Nat) := [(⟨"RerootStoreModel", "does", "(I)I"⟩, 38), (⟨"RerootStoreModel", "deed", "(II)I"⟩, 38), (⟨"RerootStoreModel", "set", "(III)I"⟩, 38), (⟨"RerootStoreModel", "at", "(II)I"⟩, 38), (⟨"RerootStoreModel", "links", "(III)V"⟩, 38), (⟨"RerootStoreModel", "reach", "(I)V"⟩, 38), (⟨"RerootStoreModel", "lengthOf", "(I)I"⟩, 38), (⟨"RerootStoreModel", "snap", "(I)V"⟩, 38), (⟨"RerootStoreModel", "turns", "(I)V"⟩, 38), (⟨"RerootStoreModel", "join", "(III)I"⟩, 38), (⟨"RerootStoreModel", "find", "(II)I"⟩, 38), (⟨"RerootStoreModel", "read", "(II)I"⟩, 38), (⟨"RerootStoreModel", "along", "(II)I"⟩, 38), (⟨"RerootStoreModel", "merge", "(II)I"⟩, 38), (⟨"RerootStoreModel", "mergedOf", "(III)I"⟩, 38), (⟨"RerootStoreModel", "isConflict", "(III)Z"⟩, 38)]
theorem lw_r5 : ∀ q ∈ lw_privs_5, lw_okq q := List.forall_mem_cons.mpr ⟨lw_p64, List.forall_mem_cons.mpr ⟨lw_p65, List.forall_mem_cons.mpr ⟨lw_p66, List.forall_mem_cons.mpr ⟨lw_p67, List.forall_mem_cons.mpr ⟨lw_p68, List.forall_mem_cons.mpr ⟨lw_p69, List.forall_mem_cons.mpr ⟨lw_p70, List.forall_mem_cons.mpr ⟨lw_p71, List.forall_mem_cons.mpr ⟨lw_p72, List.forall_mem_cons.mpr ⟨lw_p73, List.forall_mem_cons.mpr ⟨lw_p74, List.forall_mem_cons.mpr ⟨lw_p75, List.forall_mem_cons.mpr ⟨lw_p76, List.forall_mem_cons.mpr ⟨lw_p77, List.forall_mem_cons.mpr ⟨lw_p78, List.forall_mem_cons.mpr ⟨lw_p79, fun _ h => absurd h List.not_mem_nil⟩⟩⟩⟩⟩⟩⟩⟩⟩⟩⟩⟩⟩⟩⟩⟩
theorem lw_p80 : lw_okq (⟨"RerootStoreModel", "meetOf", "(II)I"⟩, 38) := ⟨⟨by decide +kernel, by decide +kernel⟩, List.mem_of_getElem? (i := 999) (by decide +kernel), List.mem_of_getElem? (i := 1290) (by decide +kernel), List.mem_of_getElem? (i := 1291) (by decide +kernel)⟩
theorem lw_p81 : lw_okq (⟨"RerootStoreModel", "patch", "(III)I"⟩, 38) := ⟨⟨by decide +kernel, by decide +kernel⟩, List.mem_of_getElem? (i := 999) (by decide +kernel), List.mem_of_getElem? (i := 1294) (by decide +kernel), List.mem_of_getElem? (i := 1295) (by decide +kernel)⟩
theorem lw_p82 : lw_okq (⟨"RerootStoreModel", "isPatched", "(IIII)Z"⟩, 38) := ⟨⟨by decide +kernel, by decide +kernel⟩, List.mem_of_getElem? (i := 999) (by decide +kernel), List.mem_of_getElem? (i := 1298) (by decide +kernel), List.mem_of_getElem? (i := 1299) (by decide +kernel)⟩
theorem lw_p83 : lw_okq (⟨"RerootStoreModel", "rootOf", "(II)I"⟩, 38) := ⟨⟨by decide +kernel, by decide +kernel⟩, List.mem_of_getElem? (i := 999) (by decide +kernel), List.mem_of_getElem? (i := 1302) (by decide +kernel), List.mem_of_getElem? (i := 1303) (by decide +kernel)⟩
theorem lw_p84 : lw_okq (⟨"RerootStoreModel", "lays", "(IIII)V"⟩, 38) := ⟨⟨by decide +kernel, by decide +kernel⟩, List.mem_of_getElem? (i := 999) (by decide +kernel), List.mem_of_getElem? (i := 1306) (by decide +kernel), List.mem_of_getElem? (i := 1307) (by decide +kernel)⟩
theorem lw_p85 : lw_okq (⟨"RerootStoreModel", "is", "()Z"⟩, 38) := ⟨⟨by decide +kernel, by decide +kernel⟩, List.mem_of_getElem? (i := 999) (by decide +kernel), List.mem_of_getElem? (i := 1318) (by decide +kernel), List.mem_of_getElem? (i := 1319) (by decide +kernel)⟩
theorem lw_p86 : lw_okq (⟨"RerootStoreModel", "isVersion", "(I)Z"⟩, 38) := ⟨⟨by decide +kernel, by decide +kernel⟩, List.mem_of_getElem? (i := 999) (by decide +kernel), List.mem_of_getElem? (i := 1326) (by decide +kernel), List.mem_of_getElem? (i := 1327) (by decide +kernel)⟩
theorem lw_p87 : lw_okq (⟨"RerootStoreModel", "areVersions", "(II)Z"⟩, 38) := ⟨⟨by decide +kernel, by decide +kernel⟩, List.mem_of_getElem? (i := 999) (by decide +kernel), List.mem_of_getElem? (i := 1339) (by decide +kernel), List.mem_of_getElem? (i := 1340) (by decide +kernel)⟩
theorem lw_p88 : lw_okq (⟨"RerootStoreModel", "unlikeOf", "(II)I"⟩, 38) := ⟨⟨by decide +kernel, by decide +kernel⟩, List.mem_of_getElem? (i := 999) (by decide +kernel), List.mem_of_getElem? (i := 1343) (by decide +kernel), List.mem_of_getElem? (i := 1344) (by decide +kernel)⟩
theorem lw_p89 : lw_okq (⟨"RerootStoreModel", "backTo", "(II)I"⟩, 38) := ⟨⟨by decide +kernel, by decide +kernel⟩, List.mem_of_getElem? (i := 999) (by decide +kernel), List.mem_of_getElem? (i := 1359) (by decide +kernel), List.mem_of_getElem? (i := 1360) (by decide +kernel)⟩
theorem lw_p90 : lw_okq (⟨"RerootStoreModel", "isFull", "()Z"⟩, 38) := ⟨⟨by decide +kernel, by decide +kernel⟩, List.mem_of_getElem? (i := 999) (by decide +kernel), List.mem_of_getElem? (i := 1433) (by decide +kernel), List.mem_of_getElem? (i := 1434) (by decide +kernel)⟩
theorem lw_p91 : lw_okq (⟨"RerootStoreModel", "acts", "(IIII)I"⟩, 38) := ⟨⟨by decide +kernel, by decide +kernel⟩, List.mem_of_getElem? (i := 999) (by decide +kernel), List.mem_of_getElem? (i := 1437) (by decide +kernel), List.mem_of_getElem? (i := 1438) (by decide +kernel)⟩
theorem lw_p92 : lw_okq (⟨"RerootStoreModel", "mergeMany", "(II)I"⟩, 38) := ⟨⟨by decide +kernel, by decide +kernel⟩, List.mem_of_getElem? (i := 999) (by decide +kernel), List.mem_of_getElem? (i := 1461) (by decide +kernel), List.mem_of_getElem? (i := 1462) (by decide +kernel)⟩
theorem lw_p93 : lw_okq (⟨"RerootStoreModel", "areThree", "(III)Z"⟩, 38) := ⟨⟨by decide +kernel, by decide +kernel⟩, List.mem_of_getElem? (i := 999) (by decide +kernel), List.mem_of_getElem? (i := 1469) (by decide +kernel), List.mem_of_getElem? (i := 1470) (by decide +kernel)⟩
theorem lw_p94 : lw_okq (⟨"RerootStoreModel", "patchMany", "(III)I"⟩, 38) := ⟨⟨by decide +kernel, by decide +kernel⟩, List.mem_of_getElem? (i := 999) (by decide +kernel), List.mem_of_getElem? (i := 1473) (by decide +kernel), List.mem_of_getElem? (i := 1474) (by decide +kernel)⟩
theorem lw_p95 : lw_okq (⟨"RerootStoreModel", "isSet", "(J)Z"⟩, 38) := ⟨⟨by decide +kernel, by decide +kernel⟩, List.mem_of_getElem? (i := 999) (by decide +kernel), List.mem_of_getElem? (i := 1501) (by decide +kernel), List.mem_of_getElem? (i := 1502) (by decide +kernel)⟩
def lw_privs_6 : List (MethodName × Nat) := [(⟨"RerootStoreModel", "meetOf", "(II)I"⟩, 38), (⟨"RerootStoreModel", "patch", "(III)I"⟩, 38), (⟨"RerootStoreModel", "isPatched", "(IIII)Z"⟩, 38), (⟨"RerootStoreModel", "rootOf", "(II)I"⟩, 38), (⟨"RerootStoreModel", "lays", "(IIII)V"⟩, 38), (⟨"RerootStoreModel", "is", "()Z"⟩, 38), (⟨"RerootStoreModel", "isVersion", "(I)Z"⟩, 38), (⟨"RerootStoreModel", "areVersions", "(II)Z"⟩, 38), (⟨"RerootStoreModel", "unlikeOf", "(II)I"⟩, 38), (⟨"RerootStoreModel", "backTo", "(II)I"⟩, 38), (⟨"RerootStoreModel", "isFull", "()Z"⟩, 38), (⟨"RerootStoreModel", "acts", "(IIII)I"⟩, 38), (⟨"RerootStoreModel", "mergeMany", "(II)I"⟩, 38), (⟨"RerootStoreModel", "areThree", "(III)Z"⟩, 38), (⟨"RerootStoreModel", "patchMany", "(III)I"⟩, 38), (⟨"RerootStoreModel", "isSet", "(J)Z"⟩, 38)]
theorem lw_r6 : ∀ q ∈ lw_privs_6, lw_okq q := List.forall_mem_cons.mpr ⟨lw_p80, List.forall_mem_cons.mpr ⟨lw_p81, List.forall_mem_cons.mpr ⟨lw_p82, List.forall_mem_cons.mpr ⟨lw_p83, List.forall_mem_cons.mpr ⟨lw_p84, List.forall_mem_cons.mpr ⟨lw_p85, List.forall_mem_cons.mpr ⟨lw_p86, List.forall_mem_cons.mpr ⟨lw_p87, List.forall_mem_cons.mpr ⟨lw_p88, List.forall_mem_cons.mpr ⟨lw_p89, List.forall_mem_cons.mpr ⟨lw_p90, List.forall_mem_cons.mpr ⟨lw_p91, List.forall_mem_cons.mpr ⟨lw_p92, List.forall_mem_cons.mpr ⟨lw_p93, List.forall_mem_cons.mpr ⟨lw_p94, List.forall_mem_cons.mpr ⟨lw_p95, fun _ h => absurd h List.not_mem_nil⟩⟩⟩⟩⟩⟩⟩⟩⟩⟩⟩⟩⟩⟩⟩⟩
theorem lw_p96 : lw_okq (⟨"RerootStoreModel", "keptOf", "(J)J"⟩, 38) := ⟨⟨by decide +kernel, by decide +kernel⟩, List.mem_of_getElem? (i := 999) (by decide +kernel), List.mem_of_getElem? (i := 1505) (by decide +kernel), List.mem_of_getElem? (i := 1506) (by decide +kernel)⟩
theorem lw_p97 : lw_okq (⟨"RerootStoreModel", "isOnWay", "(II)Z"⟩, 38) := ⟨⟨by decide +kernel, by decide +kernel⟩, List.mem_of_getElem? (i := 999) (by decide +kernel), List.mem_of_getElem? (i := 1518) (by decide +kernel), List.mem_of_getElem? (i := 1519) (by decide +kernel)⟩
theorem lw_p98 : lw_okq (⟨"RerootStoreModel", "waysOf", "()I"⟩, 38) := ⟨⟨by decide +kernel, by decide +kernel⟩, List.mem_of_getElem? (i := 999) (by decide +kernel), List.mem_of_getElem? (i := 1526) (by decide +kernel), List.mem_of_getElem? (i := 1527) (by decide +kernel)⟩
theorem lw_p99 : lw_okq (⟨"RerootStoreModel", "areColours", "(I)Z"⟩, 38) := ⟨⟨by decide +kernel, by decide +kernel⟩, List.mem_of_getElem? (i := 999) (by decide +kernel), List.mem_of_getElem? (i := 1552) (by decide +kernel), List.mem_of_getElem? (i := 1553) (by decide +kernel)⟩
theorem lw_p100 : lw_okq (⟨"RerootStoreModel", "searches", "(II)V"⟩, 38) := ⟨⟨by decide +kernel, by decide +kernel⟩, List.mem_of_getElem? (i := 999) (by decide +kernel), List.mem_of_getElem? (i := 1556) (by decide +kernel), List.mem_of_getElem? (i := 1557) (by decide +kernel)⟩
theorem lw_p101 : lw_okq (⟨"RerootStoreModel", "isNone", "(II)Z"⟩, 38) := ⟨⟨by decide +kernel, by decide +kernel⟩, List.mem_of_getElem? (i := 999) (by decide +kernel), List.mem_of_getElem? (i := 1560) (by decide +kernel), List.mem_of_getElem? (i := 1561) (by decide +kernel)⟩
theorem lw_p102 : lw_okq (⟨"RerootStoreModel", "goesOn", "(I)I"⟩, 38) := ⟨⟨by decide +kernel, by decide +kernel⟩, List.mem_of_getElem? (i := 999) (by decide +kernel), List.mem_of_getElem? (i := 1564) (by decide +kernel), List.mem_of_getElem? (i := 1565) (by decide +kernel)⟩
theorem lw_p103 : lw_okq (⟨"RerootStoreModel", "looksAhead", "(II)V"⟩, 38) := ⟨⟨by decide +kernel, by decide +kernel⟩, List.mem_of_getElem? (i := 999) (by decide +kernel), List.mem_of_getElem? (i := 1584) (by decide +kernel), List.mem_of_getElem? (i := 1585) (by decide +kernel)⟩
theorem lw_p104 : lw_okq (⟨"RerootStoreModel", "takes", "(I)V"⟩, 38) := ⟨⟨by decide +kernel, by decide +kernel⟩, List.mem_of_getElem? (i := 999) (by decide +kernel), List.mem_of_getElem? (i := 1588) (by decide +kernel), List.mem_of_getElem? (i := 1589) (by decide +kernel)⟩
theorem lw_p105 : lw_okq (⟨"RerootStoreModel", "isTaken", "(I)Z"⟩, 38) := ⟨⟨by decide +kernel, by decide +kernel⟩, List.mem_of_getElem? (i := 999) (by decide +kernel), List.mem_of_getElem? (i := 1592) (by decide +kernel), List.mem_of_getElem? (i := 1593) (by decide +kernel)⟩
theorem lw_p106 : lw_okq (⟨"RerootStoreModel", "lets", "(I)I"⟩, 38) := ⟨⟨by decide +kernel, by decide +kernel⟩, List.mem_of_getElem? (i := 999) (by decide +kernel), List.mem_of_getElem? (i := 1596) (by decide +kernel), List.mem_of_getElem? (i := 1597) (by decide +kernel)⟩
theorem lw_p107 : lw_okq (⟨"RerootStoreModel", "setOr", "(III)I"⟩, 38) := ⟨⟨by decide +kernel, by decide +kernel⟩, List.mem_of_getElem? (i := 999) (by decide +kernel), List.mem_of_getElem? (i := 1600) (by decide +kernel), List.mem_of_getElem? (i := 1601) (by decide +kernel)⟩
theorem lw_p108 : lw_okq (⟨"RerootStoreModel", "goesAhead", "(I)V"⟩, 38) := ⟨⟨by decide +kernel, by decide +kernel⟩, List.mem_of_getElem? (i := 999) (by decide +kernel), List.mem_of_getElem? (i := 1604) (by decide +kernel), List.mem_of_getElem? (i := 1605) (by decide +kernel)⟩
def lw_privs_7 : List (MethodName × Nat) := [(⟨"RerootStoreModel", "keptOf", "(J)J"⟩, 38), (⟨"RerootStoreModel", "isOnWay", "(II)Z"⟩, 38), (⟨"RerootStoreModel", "waysOf", "()I"⟩, 38), (⟨"RerootStoreModel", "areColours", "(I)Z"⟩, 38), (⟨"RerootStoreModel", "searches", "(II)V"⟩, 38), (⟨"RerootStoreModel", "isNone", "(II)Z"⟩, 38), (⟨"RerootStoreModel", "goesOn", "(I)I"⟩, 38), (⟨"RerootStoreModel", "looksAhead", "(II)V"⟩, 38), (⟨"RerootStoreModel", "takes", "(I)V"⟩, 38), (⟨"RerootStoreModel", "isTaken", "(I)Z"⟩, 38), (⟨"RerootStoreModel", "lets", "(I)I"⟩, 38), (⟨"RerootStoreModel", "setOr", "(III)I"⟩, 38), (⟨"RerootStoreModel", "goesAhead", "(I)V"⟩, 38)]
theorem lw_r7 : ∀ q ∈ lw_privs_7, lw_okq q := List.forall_mem_cons.mpr ⟨lw_p96, List.forall_mem_cons.mpr ⟨lw_p97, List.forall_mem_cons.mpr ⟨lw_p98, List.forall_mem_cons.mpr ⟨lw_p99, List.forall_mem_cons.mpr ⟨lw_p100, List.forall_mem_cons.mpr ⟨lw_p101, List.forall_mem_cons.mpr ⟨lw_p102, List.forall_mem_cons.mpr ⟨lw_p103, List.forall_mem_cons.mpr ⟨lw_p104, List.forall_mem_cons.mpr ⟨lw_p105, List.forall_mem_cons.mpr ⟨lw_p106, List.forall_mem_cons.mpr ⟨lw_p107, List.forall_mem_cons.mpr ⟨lw_p108, fun _ h => absurd h List.not_mem_nil⟩⟩⟩⟩⟩⟩⟩⟩⟩⟩⟩⟩⟩
def lw_privs : List (MethodName × Nat) := lw_privs_1 ++ (lw_privs_2 ++ (lw_privs_3 ++ (lw_privs_4 ++ (lw_privs_5 ++ (lw_privs_6 ++ (lw_privs_7))))))
def lw_tbl : List Cond := k2_sels lw_privs ++ tables_1
theorem lw_privs_ok : ∀ q ∈ lw_privs, lw_okq q := by
  show ∀ q ∈ lw_privs_1 ++ (lw_privs_2 ++ (lw_privs_3 ++ (lw_privs_4 ++ (lw_privs_5 ++ (lw_privs_6 ++ (lw_privs_7)))))), lw_okq q
  exact List.forall_mem_append.mpr ⟨lw_r1, List.forall_mem_append.mpr ⟨lw_r2, List.forall_mem_append.mpr ⟨lw_r3, List.forall_mem_append.mpr ⟨lw_r4, List.forall_mem_append.mpr ⟨lw_r5, List.forall_mem_append.mpr ⟨lw_r6, lw_r7⟩⟩⟩⟩⟩⟩
-- ===== end of PART A; then your names; then what follows =====
end
section
-- the small machine: memory by kinds, a step, the least relation closed under it
abbrev mz_M : Type := (Nat → Nat → Int32) × (Nat → Nat → Int64) × (Nat → Nat → Option Nat) × (Nat → Nat × Nat)
abbrev mz_En : Type := Nat × Instr × Nat × List Nat
abbrev mz_Y : Type := MethodName × ByteArray × Nat × Option FieldType × Nat × Bool × List mz_En
def mz_uI (M : mz_M) (a k : Nat) (x : Int32) : mz_M := (va_up M.1 a (va_up (M.1 a) k x), M.2)
def mz_uJ (M : mz_M) (a k : Nat) (x : Int64) : mz_M := (M.1, va_up M.2.1 a (va_up (M.2.1 a) k x), M.2.2)
def mz_uR (M : mz_M) (a k : Nat) (x : Option Nat) : mz_M := (M.1, M.2.1, va_up M.2.2.1 a (va_up (M.2.2.1 a) k x), M.2.2.2)
def mz_cI (M : mz_M) (a : Nat) (f : Nat → Int32) : mz_M := (va_up M.1 a f, M.2)
def mz_cJ (M : mz_M) (a : Nat) (f : Nat → Int64) : mz_M := (M.1, va_up M.2.1 a f, M.2.2)
def mz_new (M : mz_M) (a kd n : Nat) : mz_M := (va_up M.1 a (fun _ => 0), va_up M.2.1 a (fun _ => 0), va_up M.2.2.1 a (fun _ => none), va_up M.2.2.2 a (kd, n))
-- pops
def mz_pI (st : List Value) (f : Int32 → List Value → Prop) : Prop := match st with
  | .int x :: r => f x r
  | _ => False
def mz_pJ (st : List Value) (f : Int64 → List Value → Prop) : Prop := match st with
  | .long x :: r => f x r
  | _ => False
def mz_pR (st : List Value) (f : Nat → List Value → Prop) : Prop := match st with
  | .ref x :: r => f x r
  | _ => False
def mz_pV (st : List Value) (f : Value → List Value → Prop) : Prop := match st with
  | x :: r => f x r
  | _ => False
def mz_gI (o : Option Value) (f : Int32 → Prop) : Prop := match o with
  | some (.int x) => f x
  | _ => False
def mz_gJ (o : Option Value) (f : Int64 → Prop) : Prop := match o with
  | some (.long x) => f x
  | _ => False
def mz_gR (o : Option Value) (f : Nat → Prop) : Prop := match o with
  | some (.ref x) => f x
  | _ => False
def mz_t1 (tg : List Nat) (f : Nat → Prop) : Prop := match tg with
  | [a] => f a
  | _ => False
def mz_t3 (tg : List Nat) (f : Nat → Nat → Nat → Prop) : Prop := match tg with
  | [a, b, c] => f a b c
  | _ => False
-- locals
def mz_st1 (L : List Value) (i : Nat) (v : Value) : List Value := match i with
  | 0 => L.set 0 v
  | j + 1 => match L[j]? with
    | some (.long _) => (L.set j (.retAddr 0)).set (j + 1) v
    | some (.double _) => (L.set j (.retAddr 0)).set (j + 1) v
    | _ => L.set (j + 1) v
def mz_st2 (L : List Value) (i : Nat) (v : Value) : List Value := (mz_st1 L i v).set (i + 1) (.retAddr 0)
def mz_en (args : List Value) (n : Nat) : List Value :=
  let u := args.flatMap (fun v => if v.category = 2 then [v, .retAddr 0] else [v])
  u ++ List.replicate (n - u.length) (.retAddr 0)
def mz_lk (t : List mz_En) (pc : Nat) : Option (Instr × Nat × List Nat) := match t with
  | [] => none
  | e :: r => bif Nat.beq e.1 pc then some e.2 else mz_lk r pc
-- a two-way branch
def mz_br (c : ClassFile.Cond) (x y : Int32) (t f : Prop) : Prop := match c with
  | .eq => (x = y → t) ∧ (¬ x = y → f)
  | .ne => (¬ x = y → t) ∧ (x = y → f)
  | .lt => (x < y → t) ∧ (¬ x < y → f)
  | .ge => (y ≤ x → t) ∧ (¬ y ≤ x → f)
  | .gt => (y < x → t) ∧ (¬ y < x → f)
  | .le => (x ≤ y → t) ∧ (¬ x ≤ y → f)
-- static tables of the claim's classes
def mz_cN (c : Nat) : String := match c with
  | 0 => "RerootStore$Painter"
  | 1 => "RerootStore$Shelf"
  | 2 => "RerootStore$Story"
  | 3 => "RerootStore$Tape"
  | 4 => "RerootStore"
  | 5 => "RerootStoreModel"
  | 6 => "RerootStoreLaw"
  | 7 => "java/lang/Integer"
  | _ => "java/lang/Math"
def mz_f0 : u_T := fun k => match k with
  | 0 => ("RerootStore$Painter", "shelf", "LRerootStore$Shelf;", true)
  | 1 => ("RerootStore$Painter", "from", "[I", true)
  | 2 => ("RerootStore$Painter", "tried", "[I", true)
  | 3 => ("RerootStore$Painter", "taken", "[I", true)
  | 4 => ("RerootStore$Painter", "choices", "[I", true)
  | 5 => ("RerootStore$Painter", "coloured", "[I", true)
  | 6 => ("RerootStore$Painter", "outcome", "I", false)
  | 7 => ("RerootStore$Painter", "timesBack", "I", false)
  | 8 => ("RerootStore$Painter", "last", "I", false)
  | _ => ("RerootStore$Painter", "most", "I", false)
def mz_y0 : Nat → FieldType := fun k => match k with
  | 0 => .object "RerootStore$Shelf"
  | 1 => .array .int
  | 2 => .array .int
  | 3 => .array .int
  | 4 => .array .int
  | 5 => .array .int
  | 6 => .int
  | 7 => .int
  | 8 => .int
  | _ => .int
def mz_f1 : u_T := fun k => match k with
  | 0 => ("RerootStore$Shelf", "rows", "[J", true)
  | 1 => ("RerootStore$Shelf", "linkTo", "[I", true)
  | 2 => ("RerootStore$Shelf", "linkCell", "[I", true)
  | 3 => ("RerootStore$Shelf", "madeOf", "[I", true)
  | 4 => ("RerootStore$Shelf", "madeCell", "[I", true)
  | 5 => ("RerootStore$Shelf", "size", "I", false)
  | 6 => ("RerootStore$Shelf", "law", "I", false)
  | 7 => ("RerootStore$Shelf", "limit", "I", false)
  | 8 => ("RerootStore$Shelf", "made", "I", false)
  | _ => ("RerootStore$Shelf", "steps", "I", false)
def mz_y1 : Nat → FieldType := fun k => match k with
  | 0 => .array .long
  | 1 => .array .int
  | 2 => .array .int
  | 3 => .array .int
  | 4 => .array .int
  | 5 => .int
  | 6 => .int
  | 7 => .int
  | 8 => .int
  | _ => .int
def mz_f2 : u_T := fun k => match k with
  | 0 => ("RerootStore$Story", "shelf", "LRerootStore$Shelf;", true)
  | 1 => ("RerootStore$Story", "partners", "[I", true)
  | 2 => ("RerootStore$Story", "kinds", "[I", true)
  | 3 => ("RerootStore$Story", "ones", "[I", true)
  | 4 => ("RerootStore$Story", "twos", "[I", true)
  | 5 => ("RerootStore$Story", "threes", "[I", true)
  | 6 => ("RerootStore$Story", "costs", "[I", true)
  | 7 => ("RerootStore$Story", "pairs", "I", false)
  | 8 => ("RerootStore$Story", "lines", "I", false)
  | 9 => ("RerootStore$Story", "told", "I", false)
  | _ => ("RerootStore$Story", "deeds", "I", false)
def mz_y2 : Nat → FieldType := fun k => match k with
  | 0 => .object "RerootStore$Shelf"
  | 1 => .array .int
  | 2 => .array .int
  | 3 => .array .int
  | 4 => .array .int
  | 5 => .array .int
  | 6 => .array .int
  | 7 => .int
  | 8 => .int
  | 9 => .int
  | _ => .int
def mz_f3 : u_T := fun k => match k with
  | 0 => ("RerootStore$Tape", "signs", "[B", true)
  | 1 => ("RerootStore$Tape", "token", "I", false)
  | 2 => ("RerootStore$Tape", "place", "I", false)
  | 3 => ("RerootStore$Tape", "behind", "I", false)
  | 4 => ("RerootStore$Tape", "value", "I", false)
  | 5 => ("RerootStore$Tape", "bytes", "I", false)
  | 6 => ("RerootStore$Tape", "kind", "I", false)
  | 7 => ("RerootStore$Tape", "one", "I", false)
  | 8 => ("RerootStore$Tape", "two", "I", false)
  | 9 => ("RerootStore$Tape", "three", "I", false)
  | 10 => ("RerootStore$Tape", "fault", "I", false)
  | _ => ("RerootStore$Tape", "faultPlace", "I", false)
def mz_y3 : Nat → FieldType := fun k => match k with
  | 0 => .array .byte
  | 1 => .int
  | 2 => .int
  | 3 => .int
  | 4 => .int
  | 5 => .int
  | 6 => .int
  | 7 => .int
  | 8 => .int
  | 9 => .int
  | 10 => .int
  | _ => .int
def mz_f4 : u_T := fun k => match k with
  | 0 => ("RerootStore", "tape", "LRerootStore$Tape;", true)
  | 1 => ("RerootStore", "images", "[LRerootStore$Story;", true)
  | 2 => ("RerootStore", "trial", "LRerootStore$Shelf;", true)
  | 3 => ("RerootStore", "painter", "LRerootStore$Painter;", true)
  | 4 => ("RerootStore", "now", "LRerootStore$Story;", false)
  | _ => ("RerootStore", "spare", "LRerootStore$Story;", false)
def mz_y4 : Nat → FieldType := fun k => match k with
  | 0 => .object "RerootStore$Tape"
  | 1 => .array (.object "RerootStore$Story")
  | 2 => .object "RerootStore$Shelf"
  | 3 => .object "RerootStore$Painter"
  | 4 => .object "RerootStore$Story"
  | _ => .object "RerootStore$Story"
def mz_f5 : u_T := fun k => match k with
  | 0 => ("RerootStoreModel", "mem", "[I", true)
  | 1 => ("RerootStoreModel", "was", "[I", true)
  | 2 => ("RerootStoreModel", "tape", "[I", true)
  | 3 => ("RerootStoreModel", "taped", "I", false)
  | 4 => ("RerootStoreModel", "faultKind", "I", false)
  | 5 => ("RerootStoreModel", "faultPlace", "I", false)
  | 6 => ("RerootStoreModel", "rows", "[I", true)
  | 7 => ("RerootStoreModel", "of", "[I", true)
  | 8 => ("RerootStoreModel", "cellOf", "[I", true)
  | 9 => ("RerootStoreModel", "numberOf", "[I", true)
  | 10 => ("RerootStoreModel", "link", "[I", true)
  | 11 => ("RerootStoreModel", "linkCell", "[I", true)
  | 12 => ("RerootStoreModel", "linkNumber", "[I", true)
  | 13 => ("RerootStoreModel", "way", "[I", true)
  | 14 => ("RerootStoreModel", "versions", "I", false)
  | 15 => ("RerootStoreModel", "law", "I", false)
  | 16 => ("RerootStoreModel", "cut", "I", false)
  | 17 => ("RerootStoreModel", "steps", "I", false)
  | 18 => ("RerootStoreModel", "spent", "[I", true)
  | 19 => ("RerootStoreModel", "at", "I", false)
  | 20 => ("RerootStoreModel", "begin", "I", false)
  | 21 => ("RerootStoreModel", "token", "I", false)
  | 22 => ("RerootStoreModel", "value", "I", false)
  | 23 => ("RerootStoreModel", "bad", "Z", false)
  | 24 => ("RerootStoreModel", "badKind", "I", false)
  | 25 => ("RerootStoreModel", "badPlace", "I", false)
  | 26 => ("RerootStoreModel", "images", "[I", true)
  | 27 => ("RerootStoreModel", "hasImage", "[Z", true)
  | 28 => ("RerootStoreModel", "made", "I", false)
  | 29 => ("RerootStoreModel", "backs", "I", false)
  | 30 => ("RerootStoreModel", "outcome", "I", false)
  | 31 => ("RerootStoreModel", "colourOf", "[I", true)
  | 32 => ("RerootStoreModel", "from", "[I", true)
  | 33 => ("RerootStoreModel", "taken", "[I", true)
  | 34 => ("RerootStoreModel", "takenAt", "[I", true)
  | 35 => ("RerootStoreModel", "takenHas", "[I", true)
  | 36 => ("RerootStoreModel", "hueOf", "[I", true)
  | _ => ("RerootStoreModel", "takenMany", "I", false)
def mz_y5 : Nat → FieldType := fun k => match k with
  | 0 => .array .int
  | 1 => .array .int
  | 2 => .array .int
  | 3 => .int
  | 4 => .int
  | 5 => .int
  | 6 => .array .int
  | 7 => .array .int
  | 8 => .array .int
  | 9 => .array .int
  | 10 => .array .int
  | 11 => .array .int
  | 12 => .array .int
  | 13 => .array .int
  | 14 => .int
  | 15 => .int
  | 16 => .int
  | 17 => .int
  | 18 => .array .int
  | 19 => .int
  | 20 => .int
  | 21 => .int
  | 22 => .int
  | 23 => .boolean
  | 24 => .int
  | 25 => .int
  | 26 => .array .int
  | 27 => .array .boolean
  | 28 => .int
  | 29 => .int
  | 30 => .int
  | 31 => .array .int
  | 32 => .array .int
  | 33 => .array .int
  | 34 => .array .int
  | 35 => .array .int
  | 36 => .array .int
  | _ => .int
def mz_cF (c : Nat) : u_T := match c with
  | 0 => mz_f0
  | 1 => mz_f1
  | 2 => mz_f2
  | 3 => mz_f3
  | 4 => mz_f4
  | _ => mz_f5
def mz_cY (c : Nat) : Nat → FieldType := match c with
  | 0 => mz_y0
  | 1 => mz_y1
  | 2 => mz_y2
  | 3 => mz_y3
  | 4 => mz_y4
  | _ => mz_y5
def mz_cS (c : Nat) : Nat := match c with
  | 0 => 10
  | 1 => 10
  | 2 => 11
  | 3 => 12
  | 4 => 6
  | _ => 38
abbrev mz_cl : List vw_C := [(mz_cN 0, mz_cF 0, mz_cS 0), (mz_cN 1, mz_cF 1, mz_cS 1), (mz_cN 2, mz_cF 2, mz_cS 2), (mz_cN 3, mz_cF 3, mz_cS 3), (mz_cN 4, mz_cF 4, mz_cS 4), (mz_cN 5, mz_cF 5, mz_cS 5)]
def mz_iR (c k : Nat) : Bool := match mz_cY c k with
  | .int => false
  | .boolean => false
  | _ => true
def mz_rd (M : mz_M) (c a k : Nat) : Value := bif mz_iR c k then va_rf (M.2.2.1 a k) else .int (M.1 a k)
def mz_fs (M : mz_M) (c a : Nat) : List Value := (List.range (mz_cS c)).map (mz_rd M c a)
theorem mz_cl_at : ∀ c, c < 6 → mz_cl[c]? = some (mz_cN c, mz_cF c, mz_cS c) := fun c h => match c, h with
  | 0, _ => rfl
  | 1, _ => rfl
  | 2, _ => rfl
  | 3, _ => rfl
  | 4, _ => rfl
  | 5, _ => rfl
  | n + 6, h => absurd h (by omega)
theorem mz_ty_ok : ∀ c, c < 6 → ∀ k, k < mz_cS c → parseFieldDescriptor (mz_cF c k).2.2.1 = some (mz_cY c k) := by decide +kernel
theorem mz_nm_ok : ∀ c, c < 6 → ∀ a, a < mz_cS c → ∀ b, b < mz_cS c → a ≠ b → (mz_cF c a).2.1 ≠ (mz_cF c b).2.1 := by decide +kernel
end
section
abbrev mz_P : Type := Option Value → mz_M → Prop
abbrev mz_K : Type := Nat → List Value → mz_M → Nat × Nat → Nat × Nat → mz_P → Prop
abbrev mz_C : Type := Nat → List Value → List Value → mz_M → Nat × Nat → Prop
def mz_sum (st : List Value) : Nat := (st.map fun v => v.category).sum
def mz_t2 (tg : List Nat) (f : Nat → Nat → Prop) : Prop := match tg with
  | [a, b] => f a b
  | _ => False
def mz_t5 (tg : List Nat) (f : Nat → Nat → Nat → Nat → Nat → Prop) : Prop := match tg with
  | [a, b, c, d, e] => f a b c d e
  | _ => False
-- the callee's answer, and how it goes on
def mz_cal (K : mz_K) (y n : Nat) (st : List Value) (M : mz_M) (z : Nat × Nat) (k : List Value → mz_M → Prop) : Prop :=
  n ≤ st.length ∧ mz_sum (st.drop n) ≤ 8 ∧ K y (st.take n).reverse M z z (fun r M' => k (r.toList ++ st.drop n) M')
def mz_caa (K : mz_K) (y n : Nat) (st : List Value) (M : mz_M) (z B : Nat × Nat) (k : List Value → mz_M → Nat × Nat → Prop) : Prop :=
  n ≤ st.length ∧ mz_sum (st.drop n) ≤ 8 ∧ ∃ z' : Nat × Nat, z.1 ≤ z'.1 ∧ z.2 ≤ z'.2 ∧ z'.1 ≤ B.1 ∧ z'.2 ≤ B.2 ∧ K y (st.take n).reverse M z z' (fun r M' => k (r.toList ++ st.drop n) M' z')
def mz_kd (M : mz_M) (a : Nat) : Nat := (M.2.2.2 a).1
def mz_ln (M : mz_M) (a : Nat) : Nat := (M.2.2.2 a).2
def mz_aty (t : ArrayType) : Nat := match t with
  | .int => 1
  | .byte => 2
  | .boolean => 3
  | .long => 4
  | _ => 0
def mz_cop (M : mz_M) (a b : Nat) (sp dp n : Int32) : Prop :=
  ¬ sp < 0 ∧ ¬ dp < 0 ∧ ¬ n < 0 ∧ sp.toNatClampNeg + n.toNatClampNeg ≤ mz_ln M a ∧ dp.toNatClampNeg + n.toNatClampNeg ≤ mz_ln M b
def mz_sw (x : Int32) (lo hi : Int) (tg : List Nat) (k : Nat → Prop) : Prop :=
  ((x.toInt < lo ∨ hi < x.toInt) → mz_gN tg[0]? k) ∧ (¬ x.toInt < lo → ¬ hi < x.toInt → mz_gN tg[(x.toInt - lo).toNat + 1]? k)
where
  mz_gN (o : Option Nat) (f : Nat → Prop) : Prop := match o with
    | some x => f x
    | _ => False
def mz_gA (o : Option Value) (f : Value → Prop) : Prop := match o with
  | some (.ref x) => f (.ref x)
  | some .null => f .null
  | _ => False
def mz_pA (st : List Value) (f : Value → List Value → Prop) : Prop := match st with
  | .ref x :: r => f (.ref x) r
  | .null :: r => f .null r
  | _ => False
def mz_stp (sc : Option (Nat × Nat × (Nat → Int32))) (sa : Nat → Nat) (K : mz_K) (dd : Nat) (Y : mz_Y) (B : Nat × Nat) (Q : mz_P) (k : mz_C) (i : Instr) (tg : List Nat) (pc : Nat) (L st : List Value) (M : mz_M) (z : Nat × Nat) : Prop :=
  match i with
  | .iconst n => k (pc + 1) L (.int (Int32.ofInt n) :: st) M z
  | .bipush n => k (pc + 2) L (.int (Int8.ofInt n).toInt32 :: st) M z
  | .sipush n => k (pc + 3) L (.int (Int16.ofInt n).toInt32 :: st) M z
  | .lconst n => k (pc + 1) L (.long (Int64.ofNat (n : Nat)) :: st) M z
  | .aconst_null => k (pc + 1) L (.null :: st) M z
  | .iload j => mz_gI L[j]? fun x => k (pc + 2) L (.int x :: st) M z
  | .iload_n j => mz_gI L[(j : Nat)]? fun x => k (pc + 1) L (.int x :: st) M z
  | .lload j => mz_gJ L[j]? fun x => k (pc + 2) L (.long x :: st) M z
  | .lload_n j => mz_gJ L[(j : Nat)]? fun x => k (pc + 1) L (.long x :: st) M z
  | .aload j => mz_gA L[j]? fun x => k (pc + 2) L (x :: st) M z
  | .aload_n j => mz_gA L[(j : Nat)]? fun x => k (pc + 1) L (x :: st) M z
  | .istore j => mz_pI st fun x r => j < L.length ∧ k (pc + 2) (mz_st1 L j (.int x)) r M z
  | .istore_n j => mz_pI st fun x r => (j : Nat) < L.length ∧ k (pc + 1) (mz_st1 L j (.int x)) r M z
  | .lstore j => mz_pJ st fun x r => j + 1 < L.length ∧ k (pc + 2) (mz_st2 L j (.long x)) r M z
  | .lstore_n j => mz_pJ st fun x r => (j : Nat) + 1 < L.length ∧ k (pc + 1) (mz_st2 L j (.long x)) r M z
  | .astore j => mz_pA st fun x r => j < L.length ∧ k (pc + 2) (mz_st1 L j x) r M z
  | .astore_n j => mz_pA st fun x r => (j : Nat) < L.length ∧ k (pc + 1) (mz_st1 L j x) r M z
  | .iinc j n => mz_gI L[j]? fun x => k (pc + 3) (mz_st1 L j (.int (x + Int32.ofInt n))) st M z
  | .iadd => mz_pI st fun y r => mz_pI r fun x r => k (pc + 1) L (.int (x + y) :: r) M z
  | .isub => mz_pI st fun y r => mz_pI r fun x r => k (pc + 1) L (.int (x - y) :: r) M z
  | .imul => mz_pI st fun y r => mz_pI r fun x r => k (pc + 1) L (.int (x * y) :: r) M z
  | .iand => mz_pI st fun y r => mz_pI r fun x r => k (pc + 1) L (.int (x &&& y) :: r) M z
  | .ior => mz_pI st fun y r => mz_pI r fun x r => k (pc + 1) L (.int (x ||| y) :: r) M z
  | .ixor => mz_pI st fun y r => mz_pI r fun x r => k (pc + 1) L (.int (x ^^^ y) :: r) M z
  | .idiv => mz_pI st fun y r => mz_pI r fun x r => ¬ y = 0 ∧ k (pc + 1) L (.int (x / y) :: r) M z
  | .irem => mz_pI st fun y r => mz_pI r fun x r => ¬ y = 0 ∧ k (pc + 1) L (.int (x - x / y * y) :: r) M z
  | .ishl => mz_pI st fun y r => mz_pI r fun x r => k (pc + 1) L (.int (x <<< (y &&& 31)) :: r) M z
  | .ishr => mz_pI st fun y r => mz_pI r fun x r => k (pc + 1) L (.int (x >>> (y &&& 31)) :: r) M z
  | .iushr => mz_pI st fun y r => mz_pI r fun x r => k (pc + 1) L (.int (x.toUInt32 >>> (y.toUInt32 &&& Int32.toUInt32 31)).toInt32 :: r) M z
  | .land => mz_pJ st fun y r => mz_pJ r fun x r => k (pc + 1) L (.long (x &&& y) :: r) M z
  | .lor => mz_pJ st fun y r => mz_pJ r fun x r => k (pc + 1) L (.long (x ||| y) :: r) M z
  | .lxor => mz_pJ st fun y r => mz_pJ r fun x r => k (pc + 1) L (.long (x ^^^ y) :: r) M z
  | .lshl => mz_pI st fun y r => mz_pJ r fun x r => k (pc + 1) L (.long (x <<< (y.toInt64 &&& 63)) :: r) M z
  | .lshr => mz_pI st fun y r => mz_pJ r fun x r => k (pc + 1) L (.long (x >>> (y.toInt64 &&& 63)) :: r) M z
  | .lushr => mz_pI st fun y r => mz_pJ r fun x r => k (pc + 1) L (.long (x.toUInt64 >>> (y.toInt64.toUInt64 &&& Int64.toUInt64 63)).toInt64 :: r) M z
  | .i2l => mz_pI st fun x r => k (pc + 1) L (.long x.toInt64 :: r) M z
  | .l2i => mz_pJ st fun x r => k (pc + 1) L (.int x.toInt32 :: r) M z
  | .i2b => mz_pI st fun x r => k (pc + 1) L (.int x.toInt8.toInt32 :: r) M z
  | .lcmp => mz_pJ st fun y r => mz_pJ r fun x r => k (pc + 1) L (.int (lg_cmp x y) :: r) M z
  | .dup => mz_pV st fun v r => v.category = 1 ∧ k (pc + 1) L (v :: v :: r) M z
  | .dup2 => mz_pV st fun v r => mz_pV r fun w r => v.category = 1 ∧ w.category = 1 ∧ k (pc + 1) L (v :: w :: v :: w :: r) M z
  | .pop => mz_pV st fun v r => v.category = 1 ∧ k (pc + 1) L r M z
  | .ifCond c _ => mz_t1 tg fun t => mz_pI st fun x r => mz_br c x 0 (k t L r M z) (k (pc + 3) L r M z)
  | .if_icmp c _ => mz_t1 tg fun t => mz_pI st fun y r => mz_pI r fun x r => mz_br c x y (k t L r M z) (k (pc + 3) L r M z)
  | .goto _ => mz_t1 tg fun t => k t L st M z
  | .ifnull _ => mz_t1 tg fun t => mz_pV st fun v r => (v = .null → k t L r M z) ∧ ((∃ a, v = .ref a) → k (pc + 3) L r M z) ∧ (v = .null ∨ ∃ a, v = .ref a)
  | .ifnonnull _ => mz_t1 tg fun t => mz_pV st fun v r => ((∃ a, v = .ref a) → k t L r M z) ∧ (v = .null → k (pc + 3) L r M z) ∧ (v = .null ∨ ∃ a, v = .ref a)
  | .tableswitch _ lo hi _ => mz_pI st fun x r => mz_sw x lo hi tg (fun t => k t L r M z)
  | .ldc _ => mz_t3 tg fun a _ w => k (pc + 2) L ((bif Nat.beq a 0 then Value.int (Int32.ofNat w) else Value.ref (sa w)) :: st) M z
  | .ldc_w _ => mz_t3 tg fun a _ w => k (pc + 3) L ((bif Nat.beq a 0 then Value.int (Int32.ofNat w) else Value.ref (sa w)) :: st) M z
  | .ldc2_w _ => mz_t3 tg fun _ _ w => k (pc + 3) L (.long (Int64.ofNat w) :: st) M z
  | .getfield _ => mz_t3 tg fun c j _ => mz_pR st fun a r => mz_kd M a = 10 + c ∧ k (pc + 3) L (mz_rd M c a j :: r) M z
  | .putfield _ => mz_t3 tg fun c j _ => mz_pV st fun v r => mz_pR r fun a r => mz_kd M a = 10 + c ∧ ((mz_cF c j).2.2.2 = true → Y.2.2.2.2.2.1 = true ∧ Y.2.2.2.2.1 = c) ∧
      (match v with
        | .int x => mz_iR c j = false ∧ narrow (mz_cY c j) (.int x) = .int x ∧ fits (mz_cY c j) (.int x) = true ∧ k (pc + 3) L r (mz_uI M a j x) z
        | .ref x => mz_iR c j = true ∧ k (pc + 3) L r (mz_uR M a j (some x)) z
        | _ => False)
  | .iaload => mz_pI st fun x r => mz_pR r fun a r => match tg with
    | [] => mz_kd M a = 1 ∧ vp_in x (mz_ln M a) ∧ k (pc + 1) L (.int (M.1 a x.toNatClampNeg) :: r) M z
    | _ => match sc with
      | some (b, n, f) => a = b ∧ vp_in x n ∧ k (pc + 1) L (.int (f x.toNatClampNeg) :: r) M z
      | none => False
  | .baload => mz_pI st fun x r => mz_pR r fun a r => (mz_kd M a = 2 ∨ mz_kd M a = 3) ∧ vp_in x (mz_ln M a) ∧ k (pc + 1) L (.int (M.1 a x.toNatClampNeg) :: r) M z
  | .laload => mz_pI st fun x r => mz_pR r fun a r => mz_kd M a = 4 ∧ vp_in x (mz_ln M a) ∧ k (pc + 1) L (.long (M.2.1 a x.toNatClampNeg) :: r) M z
  | .aaload => mz_pI st fun x r => mz_pR r fun a r => mz_kd M a = 5 ∧ vp_in x (mz_ln M a) ∧ k (pc + 1) L (va_rf (M.2.2.1 a x.toNatClampNeg) :: r) M z
  | .iastore => mz_pI st fun v r => mz_pI r fun x r => mz_pR r fun a r => mz_kd M a = 1 ∧ vp_in x (mz_ln M a) ∧ k (pc + 1) L r (mz_uI M a x.toNatClampNeg v) z
  | .bastore => mz_pI st fun v r => mz_pI r fun x r => mz_pR r fun a r => vp_in x (mz_ln M a) ∧ (mz_kd M a = 2 ∨ mz_kd M a = 3) ∧ k (pc + 1) L r (mz_uI M a x.toNatClampNeg (bif Nat.beq (mz_kd M a) 2 then vp_nar .byte v else vp_nar .boolean v)) z
  | .lastore => mz_pJ st fun v r => mz_pI r fun x r => mz_pR r fun a r => mz_kd M a = 4 ∧ vp_in x (mz_ln M a) ∧ k (pc + 1) L r (mz_uJ M a x.toNatClampNeg v) z
  | .aastore => mz_pR st fun v r => mz_pI r fun x r => mz_pR r fun a r => mz_kd M a = 5 ∧ mz_kd M v = 12 ∧ vp_in x (mz_ln M a) ∧ k (pc + 1) L r (mz_uR M a x.toNatClampNeg (some v)) z
  | .arraylength => mz_pR st fun a r => match tg with
    | [] => (mz_kd M a = 1 ∨ mz_kd M a = 2 ∨ mz_kd M a = 3 ∨ mz_kd M a = 4 ∨ mz_kd M a = 5) ∧ k (pc + 1) L (.int (nI (mz_ln M a)) :: r) M z
    | _ => match sc with
      | some (b, n, _) => a = b ∧ k (pc + 1) L (.int (nI n) :: r) M z
      | none => False
  | .newarray t => mz_pI st fun n r => mz_aty t ≠ 0 ∧ ¬ n < 0 ∧ n.toNatClampNeg ≤ 1000000 ∧ z.1 + 1 ≤ B.1 ∧ z.2 + n.toNatClampNeg ≤ B.2 ∧ k (pc + 2) L (.ref z.1 :: r) (mz_new M z.1 (mz_aty t) n.toNatClampNeg) (z.1 + 1, z.2 + n.toNatClampNeg)
  | .anewarray _ => mz_pI st fun n r => ¬ n < 0 ∧ n.toNatClampNeg ≤ 1000000 ∧ z.1 + 1 ≤ B.1 ∧ z.2 + n.toNatClampNeg ≤ B.2 ∧ k (pc + 3) L (.ref z.1 :: r) (mz_new M z.1 5 n.toNatClampNeg) (z.1 + 1, z.2 + n.toNatClampNeg)
  | .new _ => mz_t2 tg fun c _ => z.1 + 1 ≤ B.1 ∧ z.2 + mz_cS c ≤ B.2 ∧ k (pc + 3) L (.ref z.1 :: st) (mz_new M z.1 (10 + c) (mz_cS c)) (z.1 + 1, z.2 + mz_cS c)
  | .invokevirtual _ => mz_t5 tg fun h y n c _ => match h with
    | 0 => mz_gR st[n - 1]? (fun a => mz_kd M a = 10 + c) ∧ mz_cal K y n st M z (fun s2 M2 => k (pc + 3) L s2 M2 z)
    | 5 => mz_gR st[n - 1]? (fun a => mz_kd M a = 10 + c) ∧ mz_caa K y n st M z B (fun s2 M2 z2 => k (pc + 3) L s2 M2 z2)
    | 6 => mz_gR st[n - 1]? (fun a => ∃ i, i < 10 ∧ a = sa i) ∧ mz_cal K y n st M z (fun s2 M2 => k (pc + 3) L s2 M2 z)
    | _ => False
  | .invokestatic _ => mz_t5 tg fun h y n _ _ => match h with
    | 0 => mz_cal K y n st M z (fun s2 M2 => k (pc + 3) L s2 M2 z)
    | 2 => mz_pI st fun x3 r => mz_pI r fun x2 r => mz_pR r fun b r => mz_pI r fun x1 r => mz_pR r fun a r => 1 ≤ dd ∧ mz_sum r ≤ 8 ∧ mz_cop M a b x1 x2 x3 ∧
        (match y with
          | 0 => mz_kd M a = 1 ∧ mz_kd M b = 1 ∧ k (pc + 3) L r (mz_cI M b (va_cpy (M.1 a) (M.1 b) x1.toNatClampNeg x2.toNatClampNeg x3.toNatClampNeg)) z
          | _ => mz_kd M a = 4 ∧ mz_kd M b = 4 ∧ k (pc + 3) L r (mz_cJ M b (va_cpy (M.2.1 a) (M.2.1 b) x1.toNatClampNeg x2.toNatClampNeg x3.toNatClampNeg)) z)
    | 3 => mz_pI st fun y r => mz_pI r fun x r => 1 ≤ dd ∧ mz_sum r ≤ 8 ∧ k (pc + 3) L (.int (if x < y then y else x) :: r) M z
    | 4 => mz_pI st fun y r => mz_pI r fun x r => 1 ≤ dd ∧ mz_sum r ≤ 8 ∧ k (pc + 3) L (.int (if y < x then y else x) :: r) M z
    | _ => False
  | .invokespecial _ => mz_t5 tg fun h y n _ _ => match h with
    | 1 => mz_pR st fun _ r => 1 ≤ dd ∧ mz_sum r ≤ 8 ∧ k (pc + 3) L r M z
    | 5 => mz_gR st[n - 1]? (fun _ => True) ∧ mz_caa K y n st M z B (fun s2 M2 z2 => k (pc + 3) L s2 M2 z2)
    | 7 => mz_gR st[n - 1]? (fun _ => True) ∧ mz_caa K y n st M z B (fun s2 M2 z2 => k (pc + 3) L s2 M2 z2)
    | _ => False
  | .return_ => st = [] ∧ z = B ∧ Y.2.2.2.1 = none ∧ Q none M
  | .ireturn => mz_pI st fun v r => r = [] ∧ z = B ∧ (∃ t, Y.2.2.2.1 = some t ∧ narrow t (.int v) = .int v) ∧ Q (some (.int v)) M
  | .lreturn => mz_pJ st fun v r => r = [] ∧ z = B ∧ Y.2.2.2.1 = some .long ∧ Q (some (.long v)) M
  | .areturn => mz_pV st fun v r => r = [] ∧ z = B ∧ (∃ n, Y.2.2.2.1 = some (.object n)) ∧ (v = .null ∨ ∃ a, v = .ref a) ∧ Q (some v) M
  | _ => False
-- monotone
theorem mz_pI_m {st : List Value} {f g : Int32 → List Value → Prop} (h : ∀ x r, f x r → g x r) (a : mz_pI st f) : mz_pI st g := by
  revert a
  unfold mz_pI
  split
  · exact h _ _ 
  · exact id
theorem mz_pJ_m {st : List Value} {f g : Int64 → List Value → Prop} (h : ∀ x r, f x r → g x r) (a : mz_pJ st f) : mz_pJ st g := by
  revert a
  unfold mz_pJ
  split
  · exact h _ _ 
  · exact id
theorem mz_pR_m {st : List Value} {f g : Nat → List Value → Prop} (h : ∀ x r, f x r → g x r) (a : mz_pR st f) : mz_pR st g := by
  revert a
  unfold mz_pR
  split
  · exact h _ _ 
  · exact id
theorem mz_pV_m {st : List Value} {f g : Value → List Value → Prop} (h : ∀ x r, f x r → g x r) (a : mz_pV st f) : mz_pV st g := by
  revert a
  unfold mz_pV
  split
  · exact h _ _ 
  · exact id
theorem mz_gI_m {o : Option Value} {f g : Int32 → Prop} (h : ∀ x, f x → g x) (a : mz_gI o f) : mz_gI o g := by
  revert a
  unfold mz_gI
  split
  · exact h _ 
  · exact id
theorem mz_gJ_m {o : Option Value} {f g : Int64 → Prop} (h : ∀ x, f x → g x) (a : mz_gJ o f) : mz_gJ o g := by
  revert a
  unfold mz_gJ
  split
  · exact h _ 
  · exact id
theorem mz_gR_m {o : Option Value} {f g : Nat → Prop} (h : ∀ x, f x → g x) (a : mz_gR o f) : mz_gR o g := by
  revert a
  unfold mz_gR
  split
  · exact h _ 
  · exact id
theorem mz_gA_m {o : Option Value} {f g : Value → Prop} (h : ∀ x, f x → g x) (a : mz_gA o f) : mz_gA o g := by
  revert a
  unfold mz_gA
  split
  · exact h _
  · exact h _
  · exact id
theorem mz_pA_m {st : List Value} {f g : Value → List Value → Prop} (h : ∀ x r, f x r → g x r) (a : mz_pA st f) : mz_pA st g := by
  revert a
  unfold mz_pA
  split
  · exact h _ _
  · exact h _ _
  · exact id
theorem mz_t1_m {tg : List Nat} {f g : Nat → Prop} (h : ∀ x, f x → g x) (a : mz_t1 tg f) : mz_t1 tg g := by
  revert a
  unfold mz_t1
  split
  · exact h _ 
  · exact id
theorem mz_t2_m {tg : List Nat} {f g : Nat → Nat → Prop} (h : ∀ x y, f x y → g x y) (a : mz_t2 tg f) : mz_t2 tg g := by
  revert a
  unfold mz_t2
  split
  · exact h _ _ 
  · exact id
theorem mz_t3_m {tg : List Nat} {f g : Nat → Nat → Nat → Prop} (h : ∀ x y w, f x y w → g x y w) (a : mz_t3 tg f) : mz_t3 tg g := by
  revert a
  unfold mz_t3
  split
  · exact h _ _ _ 
  · exact id
theorem mz_t5_m {tg : List Nat} {f g : Nat → Nat → Nat → Nat → Nat → Prop} (h : ∀ x y w u v, f x y w u v → g x y w u v) (a : mz_t5 tg f) : mz_t5 tg g := by
  revert a
  unfold mz_t5
  split
  · exact h _ _ _ _ _ 
  · exact id
theorem mz_br_m {c : ClassFile.Cond} {x y : Int32} {t f t' f' : Prop} (h1 : t → t') (h2 : f → f') (a : mz_br c x y t f) : mz_br c x y t' f' := by
  cases c <;> exact ⟨fun q => h1 (a.1 q), fun q => h2 (a.2 q)⟩
theorem mz_sw_m {x : Int32} {lo hi : Int} {tg : List Nat} {f g : Nat → Prop} (h : ∀ t, f t → g t) (a : mz_sw x lo hi tg f) : mz_sw x lo hi tg g := by
  have key : ∀ o : Option Nat, mz_sw.mz_gN o f → mz_sw.mz_gN o g := by
    intro o b
    revert b
    unfold mz_sw.mz_gN
    split
    · exact h _ 
    · exact id
  exact ⟨fun q => key _ (a.1 q), fun q1 q2 => key _ (a.2 q1 q2)⟩
def mz_Km (K : mz_K) : Prop := ∀ (y : Nat) (args : List Value) (M : mz_M) (z z' : Nat × Nat) (Q Q' : mz_P), (∀ r M, Q r M → Q' r M) → K y args M z z' Q → K y args M z z' Q'
theorem mz_cal_m {K : mz_K} (hK : mz_Km K) {y n : Nat} {st : List Value} {M : mz_M} {z : Nat × Nat} {f g : List Value → mz_M → Prop} (h : ∀ s M, f s M → g s M) (a : mz_cal K y n st M z f) : mz_cal K y n st M z g :=
  ⟨a.1, a.2.1, hK _ _ _ _ _ _ _ (fun _ _ q => h _ _ q) a.2.2⟩
theorem mz_caa_m {K : mz_K} (hK : mz_Km K) {y n : Nat} {st : List Value} {M : mz_M} {z B : Nat × Nat} {f g : List Value → mz_M → Nat × Nat → Prop} (h : ∀ s M z, f s M z → g s M z) (a : mz_caa K y n st M z B f) : mz_caa K y n st M z B g := by
  obtain ⟨a1, a2, z', b1, b2, b3, b4, b5⟩ := a
  exact ⟨a1, a2, z', b1, b2, b3, b4, hK _ _ _ _ _ _ _ (fun _ _ q => h _ _ _ q) b5⟩
set_option maxHeartbeats 4000000 in
theorem mz_stp_m {sc : Option (Nat × Nat × (Nat → Int32))} {sa : Nat → Nat} {K : mz_K} (hK : mz_Km K) {dd : Nat} {Y : mz_Y} {B : Nat × Nat} {Q Q' : mz_P} {k k' : mz_C} (hk : ∀ pc L st M z, k pc L st M z → k' pc L st M z) (hQ : ∀ r M, Q r M → Q' r M) {i : Instr} {tg : List Nat} {pc : Nat} {L st : List Value} {M : mz_M} {z : Nat × Nat}
    (a : mz_stp sc sa K dd Y B Q k i tg pc L st M z) : mz_stp sc sa K dd Y B Q' k' i tg pc L st M z := by
  cases i
  case iconst => exact hk _ _ _ _ _ a
  case bipush => exact hk _ _ _ _ _ a
  case sipush => exact hk _ _ _ _ _ a
  case lconst => exact hk _ _ _ _ _ a
  case aconst_null => exact hk _ _ _ _ _ a
  case iload => exact mz_gI_m (fun _ => hk _ _ _ _ _) a
  case iload_n => exact mz_gI_m (fun _ => hk _ _ _ _ _) a
  case lload => exact mz_gJ_m (fun _ => hk _ _ _ _ _) a
  case lload_n => exact mz_gJ_m (fun _ => hk _ _ _ _ _) a
  case aload j => exact mz_gA_m (o := L[j]?) (f := fun x => k (pc + 2) L (x :: st) M z) (g := fun x => k' (pc + 2) L (x :: st) M z) (fun _ => hk _ _ _ _ _) a
  case aload_n j => exact mz_gA_m (o := L[(j : Nat)]?) (f := fun x => k (pc + 1) L (x :: st) M z) (g := fun x => k' (pc + 1) L (x :: st) M z) (fun _ => hk _ _ _ _ _) a
  case istore => exact mz_pI_m (fun _ _ => And.imp_right (hk _ _ _ _ _)) a
  case istore_n => exact mz_pI_m (fun _ _ => And.imp_right (hk _ _ _ _ _)) a
  case lstore => exact mz_pJ_m (fun _ _ => And.imp_right (hk _ _ _ _ _)) a
  case lstore_n => exact mz_pJ_m (fun _ _ => And.imp_right (hk _ _ _ _ _)) a
  case astore j => exact mz_pA_m (st := st) (f := fun x r => j < L.length ∧ k (pc + 2) (mz_st1 L j x) r M z) (g := fun x r => j < L.length ∧ k' (pc + 2) (mz_st1 L j x) r M z) (fun _ _ => And.imp_right (hk _ _ _ _ _)) a
  case astore_n j => exact mz_pA_m (st := st) (f := fun x r => (j : Nat) < L.length ∧ k (pc + 1) (mz_st1 L j x) r M z) (g := fun x r => (j : Nat) < L.length ∧ k' (pc + 1) (mz_st1 L j x) r M z) (fun _ _ => And.imp_right (hk _ _ _ _ _)) a
  case iinc => exact mz_gI_m (fun _ => hk _ _ _ _ _) a
  case iadd => exact mz_pI_m (fun _ _ => mz_pI_m (fun _ _ => hk _ _ _ _ _)) a
  case isub => exact mz_pI_m (fun _ _ => mz_pI_m (fun _ _ => hk _ _ _ _ _)) a
  case imul => exact mz_pI_m (fun _ _ => mz_pI_m (fun _ _ => hk _ _ _ _ _)) a
  case iand => exact mz_pI_m (fun _ _ => mz_pI_m (fun _ _ => hk _ _ _ _ _)) a
  case ior => exact mz_pI_m (fun _ _ => mz_pI_m (fun _ _ => hk _ _ _ _ _)) a
  case ixor => exact mz_pI_m (fun _ _ => mz_pI_m (fun _ _ => hk _ _ _ _ _)) a
  case idiv => exact mz_pI_m (fun _ _ => mz_pI_m (fun _ _ => And.imp_right (hk _ _ _ _ _))) a
  case irem => exact mz_pI_m (fun _ _ => mz_pI_m (fun _ _ => And.imp_right (hk _ _ _ _ _))) a
  case ishl => exact mz_pI_m (fun _ _ => mz_pI_m (fun _ _ => hk _ _ _ _ _)) a
  case ishr => exact mz_pI_m (fun _ _ => mz_pI_m (fun _ _ => hk _ _ _ _ _)) a
  case iushr => exact mz_pI_m (fun _ _ => mz_pI_m (fun _ _ => hk _ _ _ _ _)) a
  case land => exact mz_pJ_m (fun _ _ => mz_pJ_m (fun _ _ => hk _ _ _ _ _)) a
  case lor => exact mz_pJ_m (fun _ _ => mz_pJ_m (fun _ _ => hk _ _ _ _ _)) a
  case lxor => exact mz_pJ_m (fun _ _ => mz_pJ_m (fun _ _ => hk _ _ _ _ _)) a
  case lshl => exact mz_pI_m (fun _ _ => mz_pJ_m (fun _ _ => hk _ _ _ _ _)) a
  case lshr => exact mz_pI_m (fun _ _ => mz_pJ_m (fun _ _ => hk _ _ _ _ _)) a
  case lushr => exact mz_pI_m (fun _ _ => mz_pJ_m (fun _ _ => hk _ _ _ _ _)) a
  case i2l => exact mz_pI_m (fun _ _ => hk _ _ _ _ _) a
  case l2i => exact mz_pJ_m (fun _ _ => hk _ _ _ _ _) a
  case i2b => exact mz_pI_m (fun _ _ => hk _ _ _ _ _) a
  case lcmp => exact mz_pJ_m (fun _ _ => mz_pJ_m (fun _ _ => hk _ _ _ _ _)) a
  case dup => exact mz_pV_m (fun _ _ => And.imp_right (hk _ _ _ _ _)) a
  case dup2 => exact mz_pV_m (fun _ _ => mz_pV_m (fun _ _ => And.imp_right (And.imp_right (hk _ _ _ _ _)))) a
  case pop => exact mz_pV_m (fun _ _ => And.imp_right (hk _ _ _ _ _)) a
  case ifCond => exact mz_t1_m (fun _ => mz_pI_m (fun _ _ => mz_br_m (hk _ _ _ _ _) (hk _ _ _ _ _))) a
  case if_icmp => exact mz_t1_m (fun _ => mz_pI_m (fun _ _ => mz_pI_m (fun _ _ => mz_br_m (hk _ _ _ _ _) (hk _ _ _ _ _)))) a
  case goto => exact mz_t1_m (fun _ => hk _ _ _ _ _) a
  case ifnull => exact mz_t1_m (fun _ => mz_pV_m (fun _ _ h => ⟨fun q => hk _ _ _ _ _ (h.1 q), fun q => hk _ _ _ _ _ (h.2.1 q), h.2.2⟩)) a
  case ifnonnull => exact mz_t1_m (fun _ => mz_pV_m (fun _ _ h => ⟨fun q => hk _ _ _ _ _ (h.1 q), fun q => hk _ _ _ _ _ (h.2.1 q), h.2.2⟩)) a
  case tableswitch => exact mz_pI_m (fun _ _ => mz_sw_m (fun _ => hk _ _ _ _ _)) a
  case ldc => exact mz_t3_m (fun _ _ _ => hk _ _ _ _ _) a
  case ldc_w => exact mz_t3_m (fun _ _ _ => hk _ _ _ _ _) a
  case ldc2_w => exact mz_t3_m (fun _ _ _ => hk _ _ _ _ _) a
  case getfield => exact mz_t3_m (fun _ _ _ => mz_pR_m (fun _ _ => And.imp_right (hk _ _ _ _ _))) a
  case putfield =>
    refine mz_t3_m (fun _ _ _ => mz_pV_m (fun _ _ => mz_pR_m (fun _ _ h => ⟨h.1, h.2.1, ?_⟩))) a
    have h3 := h.2.2
    split at h3
    · exact ⟨h3.1, h3.2.1, h3.2.2.1, hk _ _ _ _ _ h3.2.2.2⟩
    · exact ⟨h3.1, hk _ _ _ _ _ h3.2⟩
    · exact h3
  case iaload =>
    refine mz_pI_m (fun _ _ => mz_pR_m (fun _ _ h => ?_)) a
    split at h
    · exact ⟨h.1, h.2.1, hk _ _ _ _ _ h.2.2⟩
    · split at h
      · exact ⟨h.1, h.2.1, hk _ _ _ _ _ h.2.2⟩
      · exact h
  case baload => exact mz_pI_m (fun _ _ => mz_pR_m (fun _ _ => And.imp_right (And.imp_right (hk _ _ _ _ _)))) a
  case laload => exact mz_pI_m (fun _ _ => mz_pR_m (fun _ _ => And.imp_right (And.imp_right (hk _ _ _ _ _)))) a
  case aaload => exact mz_pI_m (fun _ _ => mz_pR_m (fun _ _ => And.imp_right (And.imp_right (hk _ _ _ _ _)))) a
  case iastore => exact mz_pI_m (fun _ _ => mz_pI_m (fun _ _ => mz_pR_m (fun _ _ => And.imp_right (And.imp_right (hk _ _ _ _ _))))) a
  case bastore => exact mz_pI_m (fun _ _ => mz_pI_m (fun _ _ => mz_pR_m (fun _ _ => And.imp_right (And.imp_right (hk _ _ _ _ _))))) a
  case lastore => exact mz_pJ_m (fun _ _ => mz_pI_m (fun _ _ => mz_pR_m (fun _ _ => And.imp_right (And.imp_right (hk _ _ _ _ _))))) a
  case aastore => exact mz_pR_m (fun _ _ => mz_pI_m (fun _ _ => mz_pR_m (fun _ _ => And.imp_right (And.imp_right (And.imp_right (hk _ _ _ _ _)))))) a
  case arraylength =>
    refine mz_pR_m (fun _ _ h => ?_) a
    split at h
    · exact ⟨h.1, hk _ _ _ _ _ h.2⟩
    · split at h
      · exact ⟨h.1, hk _ _ _ _ _ h.2⟩
      · exact h
  case newarray => exact mz_pI_m (fun _ _ h => ⟨h.1, h.2.1, h.2.2.1, h.2.2.2.1, h.2.2.2.2.1, hk _ _ _ _ _ h.2.2.2.2.2⟩) a
  case anewarray => exact mz_pI_m (fun _ _ h => ⟨h.1, h.2.1, h.2.2.1, h.2.2.2.1, hk _ _ _ _ _ h.2.2.2.2⟩) a
  case new => exact mz_t2_m (fun _ _ h => ⟨h.1, h.2.1, hk _ _ _ _ _ h.2.2⟩) a
  case invokevirtual =>
    refine mz_t5_m (fun h y n c p q => ?_) a
    split at q
    · exact ⟨q.1, mz_cal_m hK (fun _ _ => hk _ _ _ _ _) q.2⟩
    · exact ⟨q.1, mz_caa_m hK (fun _ _ _ => hk _ _ _ _ _) q.2⟩
    · exact ⟨q.1, mz_cal_m hK (fun _ _ => hk _ _ _ _ _) q.2⟩
    · exact q.elim
  case invokestatic =>
    refine mz_t5_m (fun h y n c p q => ?_) a
    split at q
    · exact mz_cal_m hK (fun _ _ => hk _ _ _ _ _) q
    · refine mz_pI_m (fun _ _ => mz_pI_m (fun _ _ => mz_pR_m (fun _ _ => mz_pI_m (fun _ _ => mz_pR_m (fun _ _ h => ⟨h.1, h.2.1, h.2.2.1, ?_⟩))))) q
      have h4 := h.2.2.2
      split at h4
      · exact ⟨h4.1, h4.2.1, hk _ _ _ _ _ h4.2.2⟩
      · exact ⟨h4.1, h4.2.1, hk _ _ _ _ _ h4.2.2⟩
    · exact mz_pI_m (fun _ _ => mz_pI_m (fun _ _ => And.imp_right (And.imp_right (hk _ _ _ _ _)))) q
    · exact mz_pI_m (fun _ _ => mz_pI_m (fun _ _ => And.imp_right (And.imp_right (hk _ _ _ _ _)))) q
    · exact q.elim
  case invokespecial =>
    refine mz_t5_m (fun h y n c p q => ?_) a
    split at q
    · exact mz_pR_m (fun _ _ h => ⟨h.1, h.2.1, hk _ _ _ _ _ h.2.2⟩) q
    · exact ⟨q.1, mz_caa_m hK (fun _ _ _ => hk _ _ _ _ _) q.2⟩
    · exact ⟨q.1, mz_caa_m hK (fun _ _ _ => hk _ _ _ _ _) q.2⟩
    · exact q.elim
  case return_ => exact ⟨a.1, a.2.1, a.2.2.1, hQ _ _ a.2.2.2⟩
  case ireturn => exact mz_pI_m (fun _ _ h => ⟨h.1, h.2.1, h.2.2.1, hQ _ _ h.2.2.2⟩) a
  case lreturn => exact mz_pJ_m (fun _ _ h => ⟨h.1, h.2.1, h.2.2.1, hQ _ _ h.2.2.2⟩) a
  case areturn => exact mz_pV_m (fun _ _ h => ⟨h.1, h.2.1, h.2.2.1, h.2.2.2.1, hQ _ _ h.2.2.2.2⟩) a
  all_goals exact False.elim a
def mz_nx (sc : Option (Nat × Nat × (Nat → Int32))) (sa : Nat → Nat) (K : mz_K) (dd : Nat) (Y : mz_Y) (B : Nat × Nat) (Q : mz_P) (k : mz_C) (pc : Nat) (L st : List Value) (M : mz_M) (z : Nat × Nat) : Prop := match mz_lk Y.2.2.2.2.2.2 pc with
  | none => False
  | some e => mz_stp sc sa K dd Y B Q k e.1 e.2.2 pc L st M z
def mz_wp (sc : Option (Nat × Nat × (Nat → Int32))) (sa : Nat → Nat) (K : mz_K) (dd : Nat) (Y : mz_Y) (B : Nat × Nat) (Q : mz_P) (pc : Nat) (L st : List Value) (M : mz_M) (z : Nat × Nat) : Prop :=
  ∀ P : mz_C, (∀ pc L st M z, mz_nx sc sa K dd Y B Q P pc L st M z → P pc L st M z) → P pc L st M z
theorem mz_nx_m {sc : Option (Nat × Nat × (Nat → Int32))} {sa : Nat → Nat} {K : mz_K} (hK : mz_Km K) {dd : Nat} {Y : mz_Y} {B : Nat × Nat} {Q Q' : mz_P} {k k' : mz_C} (hk : ∀ pc L st M z, k pc L st M z → k' pc L st M z) (hQ : ∀ r M, Q r M → Q' r M) {pc : Nat} {L st : List Value} {M : mz_M} {z : Nat × Nat}
    (a : mz_nx sc sa K dd Y B Q k pc L st M z) : mz_nx sc sa K dd Y B Q' k' pc L st M z := by
  unfold mz_nx at a ⊢
  split
  · rename_i h
    rw [h] at a
    exact a
  · rename_i h
    rw [h] at a
    exact mz_stp_m hK hk hQ a
theorem mz_wp_i {sc : Option (Nat × Nat × (Nat → Int32))} {sa : Nat → Nat} {K : mz_K} (hK : mz_Km K) {dd : Nat} {Y : mz_Y} {B : Nat × Nat} {Q : mz_P} {pc : Nat} {L st : List Value} {M : mz_M} {z : Nat × Nat}
    (a : mz_nx sc sa K dd Y B Q (mz_wp sc sa K dd Y B Q) pc L st M z) : mz_wp sc sa K dd Y B Q pc L st M z := fun P hP => hP _ _ _ _ _ (mz_nx_m hK (fun _ _ _ _ _ h => h P hP) (fun _ _ h => h) a)
theorem mz_wp_m {sc : Option (Nat × Nat × (Nat → Int32))} {sa : Nat → Nat} {K : mz_K} (hK : mz_Km K) {dd : Nat} {Y : mz_Y} {B : Nat × Nat} {Q Q' : mz_P} (hQ : ∀ r M, Q r M → Q' r M) {pc : Nat} {L st : List Value} {M : mz_M} {z : Nat × Nat}
    (a : mz_wp sc sa K dd Y B Q pc L st M z) : mz_wp sc sa K dd Y B Q' pc L st M z := fun P hP => a P (fun _ _ _ _ _ h => hP _ _ _ _ _ (mz_nx_m hK (fun _ _ _ _ _ h => h) hQ h))
end
section
def ym_Pa_init : mz_Y := (⟨"RerootStore$Painter", "<init>", "()V"⟩, prog_2_method_1_code, 1, none, 0, true, [(0, .aload_n 0, 1, []), (1, .invokespecial 3, 3, [1, 0, 1, 0, 0]), (4, .aload_n 0, 1, []), (5, .new 9, 3, [1, 1]), (8, .dup, 1, []), (9, .sipush 200, 3, []), (12, .invokespecial 11, 3, [5, 15, 2, 1, 2]), (15, .putfield 14, 3, [0, 0, 3]), (18, .aload_n 0, 1, []), (19, .bipush 13, 2, []), (21, .newarray .int, 2, []), (23, .putfield 20, 3, [0, 1, 4]), (26, .aload_n 0, 1, []), (27, .bipush 13, 2, []), (29, .newarray .int, 2, []), (31, .putfield 24, 3, [0, 2, 5]), (34, .aload_n 0, 1, []), (35, .bipush 13, 2, []), (37, .newarray .int, 2, []), (39, .putfield 27, 3, [0, 3, 6]), (42, .aload_n 0, 1, []), (43, .bipush 13, 2, []), (45, .newarray .int, 2, []), (47, .putfield 30, 3, [0, 4, 7]), (50, .aload_n 0, 1, []), (51, .bipush 13, 2, []), (53, .newarray .int, 2, []), (55, .putfield 33, 3, [0, 5, 8]), (58, .aload_n 0, 1, []), (59, .iconst 0, 1, []), (60, .putfield 36, 3, [0, 6, 9]), (63, .aload_n 0, 1, []), (64, .iconst 0, 1, []), (65, .putfield 40, 3, [0, 7, 10]), (68, .aload_n 0, 1, []), (69, .iconst 0, 1, []), (70, .putfield 43, 3, [0, 8, 11]), (73, .aload_n 0, 1, []), (74, .iconst 0, 1, []), (75, .putfield 46, 3, [0, 9, 12]), (78, .return_, 1, [])])
def ym_Pa_begin : mz_Y := (⟨"RerootStore$Painter", "begin", "(LRerootStore$Story;IIJ)V"⟩, prog_2_method_2_code, 6, none, 0, false, [(0, .aload_n 0, 1, []), (1, .getfield 14, 3, [0, 0, 3]), (4, .aload_n 1, 1, []), (5, .getfield 49, 3, [2, 0, 13]), (8, .getfield 52, 3, [1, 5, 14]), (11, .iload_n 2, 1, []), (12, .aload_n 1, 1, []), (13, .getfield 49, 3, [2, 0, 13]), (16, .getfield 55, 3, [1, 7, 15]), (19, .lload 4, 2, []), (21, .invokevirtual 58, 3, [0, 17, 5, 1, 16]), (24, .aload_n 0, 1, []), (25, .iconst 3, 1, []), (26, .putfield 36, 3, [0, 6, 9]), (29, .aload_n 0, 1, []), (30, .iconst 0, 1, []), (31, .putfield 40, 3, [0, 7, 10]), (34, .aload_n 0, 1, []), (35, .iconst 0, 1, []), (36, .putfield 43, 3, [0, 8, 11]), (39, .aload_n 0, 1, []), (40, .iload_n 3, 1, []), (41, .putfield 46, 3, [0, 9, 12]), (44, .return_, 1, [])])
def ym_Pa_answer : mz_Y := (⟨"RerootStore$Painter", "answer", "(I)I"⟩, prog_2_method_3_code, 2, (some .int), 0, false, [(0, .iload_n 1, 1, []), (1, .tableswitch 59 0 3 #[31, 36, 46, 54], 31, [60, 32, 37, 47, 55]), (32, .aload_n 0, 1, []), (33, .getfield 36, 3, [0, 6, 9]), (36, .ireturn, 1, []), (37, .aload_n 0, 1, []), (38, .getfield 14, 3, [0, 0, 3]), (41, .getfield 62, 3, [1, 8, 17]), (44, .iconst 1, 1, []), (45, .isub, 1, []), (46, .ireturn, 1, []), (47, .aload_n 0, 1, []), (48, .getfield 14, 3, [0, 0, 3]), (51, .getfield 65, 3, [1, 9, 18]), (54, .ireturn, 1, []), (55, .aload_n 0, 1, []), (56, .getfield 40, 3, [0, 7, 10]), (59, .ireturn, 1, []), (60, .iconst (-1), 1, []), (61, .ireturn, 1, [])])
def ym_Pa_foundAt : mz_Y := (⟨"RerootStore$Painter", "foundAt", "(I)I"⟩, prog_2_method_4_code, 2, (some .int), 0, false, [(0, .aload_n 0, 1, []), (1, .getfield 36, 3, [0, 6, 9]), (4, .iconst 1, 1, []), (5, .if_icmp .ne 18, 3, [23]), (8, .aload_n 0, 1, []), (9, .getfield 14, 3, [0, 0, 3]), (12, .aload_n 0, 1, []), (13, .getfield 43, 3, [0, 8, 11]), (16, .iload_n 1, 1, []), (17, .invokevirtual 68, 3, [0, 24, 3, 1, 19]), (20, .goto 4, 3, [24]), (23, .iconst 0, 1, []), (24, .ireturn, 1, [])])
def ym_Pa_put : mz_Y := (⟨"RerootStore$Painter", "put", "(III)I"⟩, prog_2_method_5_code, 5, (some .int), 0, false, [(0, .aload_n 0, 1, []), (1, .getfield 14, 3, [0, 0, 3]), (4, .iload_n 1, 1, []), (5, .iload_n 2, 1, []), (6, .iload_n 3, 1, []), (7, .invokevirtual 72, 3, [0, 56, 4, 1, 20]), (10, .istore 4, 2, []), (12, .iload 4, 2, []), (14, .iconst (-1), 1, []), (15, .if_icmp .ne 8, 3, [23]), (18, .aload_n 0, 1, []), (19, .iconst 2, 1, []), (20, .putfield 36, 3, [0, 6, 9]), (23, .iload 4, 2, []), (25, .ireturn, 1, [])])
def ym_Pa_backFrom : mz_Y := (⟨"RerootStore$Painter", "backFrom", "(I)I"⟩, prog_2_method_6_code, 2, (some .int), 0, false, [(0, .iload_n 1, 1, []), (1, .ifCond .ne 10, 3, [11]), (4, .aload_n 0, 1, []), (5, .iconst 0, 1, []), (6, .putfield 36, 3, [0, 6, 9]), (9, .iconst 0, 1, []), (10, .ireturn, 1, []), (11, .aload_n 0, 1, []), (12, .dup, 1, []), (13, .getfield 40, 3, [0, 7, 10]), (16, .iconst 1, 1, []), (17, .iadd, 1, []), (18, .putfield 40, 3, [0, 7, 10]), (21, .iload_n 1, 1, []), (22, .iconst 1, 1, []), (23, .isub, 1, []), (24, .ireturn, 1, [])])
def ym_Pa_seek : mz_Y := (⟨"RerootStore$Painter", "seek", "(LRerootStore$Story;II)V"⟩, prog_2_method_7_code, 7, none, 0, false, [(0, .aload_n 0, 1, []), (1, .aload_n 1, 1, []), (2, .iload_n 2, 1, []), (3, .iload_n 3, 1, []), (4, .lconst 0, 1, []), (5, .invokevirtual 76, 3, [0, 1, 5, 0, 21]), (8, .iconst 0, 1, []), (9, .istore 4, 2, []), (11, .aload_n 0, 1, []), (12, .iconst 0, 1, []), (13, .iconst 0, 1, []), (14, .invokevirtual 79, 3, [0, 7, 3, 0, 22]), (17, .iconst 0, 1, []), (18, .istore 5, 2, []), (20, .iload 5, 2, []), (22, .ldc 83, 2, [0, 23, 1000000]), (24, .if_icmp .ge 62, 3, [86]), (27, .aload_n 0, 1, []), (28, .getfield 36, 3, [0, 6, 9]), (31, .iconst 3, 1, []), (32, .if_icmp .ne 54, 3, [86]), (35, .aload_n 0, 1, []), (36, .aload_n 1, 1, []), (37, .iload 4, 2, []), (39, .invokevirtual 84, 3, [0, 8, 3, 0, 24]), (42, .istore 6, 2, []), (44, .iload 6, 2, []), (46, .iconst (-1), 1, []), (47, .if_icmp .eq 17, 3, [64]), (50, .iinc 4 1, 3, []), (53, .aload_n 0, 1, []), (54, .iload 4, 2, []), (56, .iload 6, 2, []), (58, .invokevirtual 79, 3, [0, 7, 3, 0, 22]), (61, .goto 19, 3, [80]), (64, .aload_n 0, 1, []), (65, .getfield 36, 3, [0, 6, 9]), (68, .iconst 3, 1, []), (69, .if_icmp .ne 11, 3, [80]), (72, .aload_n 0, 1, []), (73, .iload 4, 2, []), (75, .invokevirtual 88, 3, [0, 5, 2, 0, 25]), (78, .istore 4, 2, []), (80, .iinc 5 1, 3, []), (83, .goto (-63), 3, [20]), (86, .return_, 1, [])])
def ym_Pa_openCell : mz_Y := (⟨"RerootStore$Painter", "openCell", "(II)V"⟩, prog_2_method_8_code, 3, none, 0, false, [(0, .iload_n 1, 1, []), (1, .aload_n 0, 1, []), (2, .getfield 14, 3, [0, 0, 3]), (5, .getfield 52, 3, [1, 5, 14]), (8, .if_icmp .ne 16, 3, [24]), (11, .aload_n 0, 1, []), (12, .iconst 1, 1, []), (13, .putfield 36, 3, [0, 6, 9]), (16, .aload_n 0, 1, []), (17, .iload_n 2, 1, []), (18, .putfield 43, 3, [0, 8, 11]), (21, .goto 26, 3, [47]), (24, .iload_n 1, 1, []), (25, .aload_n 0, 1, []), (26, .getfield 20, 3, [0, 1, 4]), (29, .arraylength, 1, []), (30, .if_icmp .ge 17, 3, [47]), (33, .aload_n 0, 1, []), (34, .getfield 20, 3, [0, 1, 4]), (37, .iload_n 1, 1, []), (38, .iload_n 2, 1, []), (39, .iastore, 1, []), (40, .aload_n 0, 1, []), (41, .getfield 24, 3, [0, 2, 5]), (44, .iload_n 1, 1, []), (45, .iconst 0, 1, []), (46, .iastore, 1, []), (47, .return_, 1, [])])
def ym_Pa_paintNext : mz_Y := (⟨"RerootStore$Painter", "paintNext", "(LRerootStore$Story;I)I"⟩, prog_2_method_9_code, 3, (some .int), 0, false, [(0, .aload_n 0, 1, []), (1, .getfield 14, 3, [0, 0, 3]), (4, .iload_n 2, 1, []), (5, .invokevirtual 92, 3, [0, 20, 2, 1, 26]), (8, .ifCond .eq 12, 3, [20]), (11, .iload_n 2, 1, []), (12, .aload_n 0, 1, []), (13, .getfield 20, 3, [0, 1, 4]), (16, .arraylength, 1, []), (17, .if_icmp .lt 5, 3, [22]), (20, .iconst (-1), 1, []), (21, .ireturn, 1, []), (22, .aload_n 0, 1, []), (23, .getfield 24, 3, [0, 2, 5]), (26, .iload_n 2, 1, []), (27, .iaload, 1, []), (28, .aload_n 0, 1, []), (29, .getfield 46, 3, [0, 9, 12]), (32, .if_icmp .ge 50, 3, [82]), (35, .aload_n 0, 1, []), (36, .getfield 24, 3, [0, 2, 5]), (39, .iload_n 2, 1, []), (40, .dup2, 1, []), (41, .iaload, 1, []), (42, .iconst 1, 1, []), (43, .iadd, 1, []), (44, .iastore, 1, []), (45, .aload_n 0, 1, []), (46, .aload_n 1, 1, []), (47, .iload_n 2, 1, []), (48, .invokevirtual 96, 3, [0, 72, 2, 2, 27]), (51, .iload_n 2, 1, []), (52, .aload_n 0, 1, []), (53, .getfield 24, 3, [0, 2, 5]), (56, .iload_n 2, 1, []), (57, .iaload, 1, []), (58, .invokevirtual 99, 3, [0, 9, 4, 0, 28]), (61, .ifCond .eq (-39), 3, [22]), (64, .aload_n 0, 1, []), (65, .aload_n 0, 1, []), (66, .getfield 20, 3, [0, 1, 4]), (69, .iload_n 2, 1, []), (70, .iaload, 1, []), (71, .iload_n 2, 1, []), (72, .aload_n 0, 1, []), (73, .getfield 24, 3, [0, 2, 5]), (76, .iload_n 2, 1, []), (77, .iaload, 1, []), (78, .invokevirtual 103, 3, [0, 4, 4, 0, 29]), (81, .ireturn, 1, []), (82, .iconst (-1), 1, []), (83, .ireturn, 1, [])])
def ym_Pa_isFree : mz_Y := (⟨"RerootStore$Painter", "isFree", "(III)Z"⟩, prog_2_method_10_code, 5, (some .boolean), 0, false, [(0, .iconst 0, 1, []), (1, .istore 4, 2, []), (3, .iload 4, 2, []), (5, .iload_n 2, 1, []), (6, .if_icmp .ge 48, 3, [54]), (9, .iload_n 2, 1, []), (10, .aload_n 0, 1, []), (11, .getfield 20, 3, [0, 1, 4]), (14, .arraylength, 1, []), (15, .if_icmp .ge 39, 3, [54]), (18, .iload_n 1, 1, []), (19, .iload 4, 2, []), (21, .iushr, 1, []), (22, .iconst 1, 1, []), (23, .iand, 1, []), (24, .ifCond .eq 24, 3, [48]), (27, .aload_n 0, 1, []), (28, .getfield 14, 3, [0, 0, 3]), (31, .aload_n 0, 1, []), (32, .getfield 20, 3, [0, 1, 4]), (35, .iload_n 2, 1, []), (36, .iaload, 1, []), (37, .iload 4, 2, []), (39, .invokevirtual 106, 3, [0, 52, 3, 1, 30]), (42, .iload_n 3, 1, []), (43, .if_icmp .ne 5, 3, [48]), (46, .iconst 0, 1, []), (47, .ireturn, 1, []), (48, .iinc 4 1, 3, []), (51, .goto (-48), 3, [3]), (54, .iconst 1, 1, []), (55, .ireturn, 1, [])])
def ym_Pa_seekAhead : mz_Y := (⟨"RerootStore$Painter", "seekAhead", "(LRerootStore$Story;II)V"⟩, prog_2_method_11_code, 7, none, 0, false, [(0, .aload_n 0, 1, []), (1, .aload_n 1, 1, []), (2, .iload_n 2, 1, []), (3, .iload_n 3, 1, []), (4, .aload_n 0, 1, []), (5, .aload_n 1, 1, []), (6, .getfield 49, 3, [2, 0, 13]), (9, .getfield 52, 3, [1, 5, 14]), (12, .iconst 1, 1, []), (13, .iload_n 3, 1, []), (14, .ishl, 1, []), (15, .iconst 1, 1, []), (16, .isub, 1, []), (17, .invokevirtual 109, 3, [0, 11, 3, 0, 31]), (20, .invokevirtual 76, 3, [0, 1, 5, 0, 21]), (23, .iconst 0, 1, []), (24, .istore 4, 2, []), (26, .aload_n 0, 1, []), (27, .getfield 33, 3, [0, 5, 8]), (30, .iconst 0, 1, []), (31, .iconst 0, 1, []), (32, .iastore, 1, []), (33, .aload_n 0, 1, []), (34, .iconst 0, 1, []), (35, .iconst 0, 1, []), (36, .invokevirtual 113, 3, [0, 12, 3, 0, 32]), (39, .iconst 0, 1, []), (40, .istore 5, 2, []), (42, .iload 5, 2, []), (44, .ldc 83, 2, [0, 23, 1000000]), (46, .if_icmp .ge 62, 3, [108]), (49, .aload_n 0, 1, []), (50, .getfield 36, 3, [0, 6, 9]), (53, .iconst 3, 1, []), (54, .if_icmp .ne 54, 3, [108]), (57, .aload_n 0, 1, []), (58, .aload_n 1, 1, []), (59, .iload 4, 2, []), (61, .invokevirtual 116, 3, [0, 13, 3, 0, 33]), (64, .istore 6, 2, []), (66, .iload 6, 2, []), (68, .iconst (-1), 1, []), (69, .if_icmp .eq 17, 3, [86]), (72, .iinc 4 1, 3, []), (75, .aload_n 0, 1, []), (76, .iload 4, 2, []), (78, .iload 6, 2, []), (80, .invokevirtual 113, 3, [0, 12, 3, 0, 32]), (83, .goto 19, 3, [102]), (86, .aload_n 0, 1, []), (87, .getfield 36, 3, [0, 6, 9]), (90, .iconst 3, 1, []), (91, .if_icmp .ne 11, 3, [102]), (94, .aload_n 0, 1, []), (95, .iload 4, 2, []), (97, .invokevirtual 88, 3, [0, 5, 2, 0, 25]), (100, .istore 4, 2, []), (102, .iinc 5 1, 3, []), (105, .goto (-63), 3, [42]), (108, .return_, 1, [])])
def ym_Pa_fullRow : mz_Y := (⟨"RerootStore$Painter", "fullRow", "(II)J"⟩, prog_2_method_12_code, 6, (some .long), 0, false, [(0, .lconst 0, 1, []), (1, .lstore_n 3, 1, []), (2, .iconst 0, 1, []), (3, .istore 5, 2, []), (5, .iload 5, 2, []), (7, .iload_n 1, 1, []), (8, .if_icmp .ge 17, 3, [25]), (11, .lload_n 3, 1, []), (12, .iload 5, 2, []), (14, .iload_n 2, 1, []), (15, .invokestatic 119, 3, [0, 22, 3, 1, 34]), (18, .lstore_n 3, 1, []), (19, .iinc 5 1, 3, []), (22, .goto (-17), 3, [5]), (25, .lload_n 3, 1, []), (26, .lreturn, 1, [])])
def ym_Pa_takeCell : mz_Y := (⟨"RerootStore$Painter", "takeCell", "(II)V"⟩, prog_2_method_13_code, 6, none, 0, false, [(0, .iload_n 1, 1, []), (1, .aload_n 0, 1, []), (2, .getfield 14, 3, [0, 0, 3]), (5, .getfield 52, 3, [1, 5, 14]), (8, .if_icmp .ge 14, 3, [22]), (11, .iload_n 1, 1, []), (12, .iconst 1, 1, []), (13, .iadd, 1, []), (14, .aload_n 0, 1, []), (15, .getfield 20, 3, [0, 1, 4]), (18, .arraylength, 1, []), (19, .if_icmp .lt 14, 3, [33]), (22, .aload_n 0, 1, []), (23, .iconst 1, 1, []), (24, .putfield 36, 3, [0, 6, 9]), (27, .aload_n 0, 1, []), (28, .iload_n 2, 1, []), (29, .putfield 43, 3, [0, 8, 11]), (32, .return_, 1, []), (33, .iconst 5, 1, []), (34, .istore_n 3, 1, []), (35, .iconst 0, 1, []), (36, .istore 4, 2, []), (38, .iload 4, 2, []), (40, .aload_n 0, 1, []), (41, .getfield 14, 3, [0, 0, 3]), (44, .getfield 52, 3, [1, 5, 14]), (47, .if_icmp .ge 66, 3, [113]), (50, .aload_n 0, 1, []), (51, .getfield 33, 3, [0, 5, 8]), (54, .iload_n 1, 1, []), (55, .iaload, 1, []), (56, .iload 4, 2, []), (58, .iushr, 1, []), (59, .iconst 1, 1, []), (60, .iand, 1, []), (61, .ifCond .ne 46, 3, [107]), (64, .aload_n 0, 1, []), (65, .getfield 14, 3, [0, 0, 3]), (68, .iload_n 2, 1, []), (69, .iload 4, 2, []), (71, .invokevirtual 106, 3, [0, 52, 3, 1, 30]), (74, .istore 5, 2, []), (76, .iload 5, 2, []), (78, .invokestatic 123, 3, [0, 291, 1, 7, 35]), (81, .iload_n 3, 1, []), (82, .if_icmp .ge 25, 3, [107]), (85, .iload 5, 2, []), (87, .invokestatic 123, 3, [0, 291, 1, 7, 35]), (90, .istore_n 3, 1, []), (91, .aload_n 0, 1, []), (92, .getfield 27, 3, [0, 3, 6]), (95, .iload_n 1, 1, []), (96, .iload 4, 2, []), (98, .iastore, 1, []), (99, .aload_n 0, 1, []), (100, .getfield 30, 3, [0, 4, 7]), (103, .iload_n 1, 1, []), (104, .iload 5, 2, []), (106, .iastore, 1, []), (107, .iinc 4 1, 3, []), (110, .goto (-72), 3, [38]), (113, .aload_n 0, 1, []), (114, .getfield 20, 3, [0, 1, 4]), (117, .iload_n 1, 1, []), (118, .iload_n 2, 1, []), (119, .iastore, 1, []), (120, .aload_n 0, 1, []), (121, .getfield 33, 3, [0, 5, 8]), (124, .iload_n 1, 1, []), (125, .iconst 1, 1, []), (126, .iadd, 1, []), (127, .aload_n 0, 1, []), (128, .getfield 33, 3, [0, 5, 8]), (131, .iload_n 1, 1, []), (132, .iaload, 1, []), (133, .iconst 1, 1, []), (134, .aload_n 0, 1, []), (135, .getfield 27, 3, [0, 3, 6]), (138, .iload_n 1, 1, []), (139, .iaload, 1, []), (140, .ishl, 1, []), (141, .ior, 1, []), (142, .iastore, 1, []), (143, .return_, 1, [])])
def ym_Pa_paintAhead : mz_Y := (⟨"RerootStore$Painter", "paintAhead", "(LRerootStore$Story;I)I"⟩, prog_2_method_14_code, 7, (some .int), 0, false, [(0, .iload_n 2, 1, []), (1, .ifCond .lt 14, 3, [15]), (4, .iload_n 2, 1, []), (5, .iconst 1, 1, []), (6, .iadd, 1, []), (7, .aload_n 0, 1, []), (8, .getfield 20, 3, [0, 1, 4]), (11, .arraylength, 1, []), (12, .if_icmp .lt 5, 3, [17]), (15, .iconst (-1), 1, []), (16, .ireturn, 1, []), (17, .aload_n 0, 1, []), (18, .getfield 27, 3, [0, 3, 6]), (21, .iload_n 2, 1, []), (22, .iaload, 1, []), (23, .istore_n 3, 1, []), (24, .aload_n 1, 1, []), (25, .iload_n 3, 1, []), (26, .invokevirtual 96, 3, [0, 72, 2, 2, 27]), (29, .aload_n 0, 1, []), (30, .getfield 33, 3, [0, 5, 8]), (33, .iload_n 2, 1, []), (34, .iconst 1, 1, []), (35, .iadd, 1, []), (36, .iaload, 1, []), (37, .iconst (-1), 1, []), (38, .ixor, 1, []), (39, .iand, 1, []), (40, .istore 4, 2, []), (42, .iconst (-1), 1, []), (43, .istore 5, 2, []), (45, .iconst 1, 1, []), (46, .istore 6, 2, []), (48, .iload 6, 2, []), (50, .bipush 16, 2, []), (52, .if_icmp .ge 74, 3, [126]), (55, .iload 5, 2, []), (57, .iconst (-1), 1, []), (58, .if_icmp .ne 68, 3, [126]), (61, .aload_n 0, 1, []), (62, .getfield 36, 3, [0, 6, 9]), (65, .iconst 3, 1, []), (66, .if_icmp .ne 60, 3, [126]), (69, .aload_n 0, 1, []), (70, .getfield 30, 3, [0, 4, 7]), (73, .iload_n 2, 1, []), (74, .iaload, 1, []), (75, .iload 6, 2, []), (77, .iand, 1, []), (78, .ifCond .eq 39, 3, [117]), (81, .aload_n 0, 1, []), (82, .getfield 30, 3, [0, 4, 7]), (85, .iload_n 2, 1, []), (86, .dup2, 1, []), (87, .iaload, 1, []), (88, .iload 6, 2, []), (90, .iconst (-1), 1, []), (91, .ixor, 1, []), (92, .iand, 1, []), (93, .iastore, 1, []), (94, .aload_n 0, 1, []), (95, .aload_n 0, 1, []), (96, .aload_n 0, 1, []), (97, .getfield 20, 3, [0, 1, 4]), (100, .iload_n 2, 1, []), (101, .iaload, 1, []), (102, .iload_n 3, 1, []), (103, .iload 6, 2, []), (105, .invokevirtual 103, 3, [0, 4, 4, 0, 29]), (108, .iload 4, 2, []), (110, .iload 6, 2, []), (112, .invokevirtual 128, 3, [0, 14, 4, 0, 36]), (115, .istore 5, 2, []), (117, .iload 6, 2, []), (119, .iconst 1, 1, []), (120, .ishl, 1, []), (121, .istore 6, 2, []), (123, .goto (-75), 3, [48]), (126, .iload 5, 2, []), (128, .ireturn, 1, [])])
def ym_Pa_strikeOut : mz_Y := (⟨"RerootStore$Painter", "strikeOut", "(III)I"⟩, prog_2_method_15_code, 7, (some .int), 0, false, [(0, .iload_n 1, 1, []), (1, .istore 4, 2, []), (3, .iconst 0, 1, []), (4, .istore 5, 2, []), (6, .iload 5, 2, []), (8, .aload_n 0, 1, []), (9, .getfield 14, 3, [0, 0, 3]), (12, .getfield 52, 3, [1, 5, 14]), (15, .if_icmp .ge 68, 3, [83]), (18, .iload 4, 2, []), (20, .iconst (-1), 1, []), (21, .if_icmp .eq 62, 3, [83]), (24, .iload_n 2, 1, []), (25, .iload 5, 2, []), (27, .iushr, 1, []), (28, .iconst 1, 1, []), (29, .iand, 1, []), (30, .ifCond .eq 47, 3, [77]), (33, .aload_n 0, 1, []), (34, .getfield 14, 3, [0, 0, 3]), (37, .iload 4, 2, []), (39, .iload 5, 2, []), (41, .invokevirtual 106, 3, [0, 52, 3, 1, 30]), (44, .istore 6, 2, []), (46, .iload 6, 2, []), (48, .iload_n 3, 1, []), (49, .iand, 1, []), (50, .ifCond .eq 19, 3, [69]), (53, .aload_n 0, 1, []), (54, .iload 4, 2, []), (56, .iload 5, 2, []), (58, .iload 6, 2, []), (60, .iload_n 3, 1, []), (61, .iconst (-1), 1, []), (62, .ixor, 1, []), (63, .iand, 1, []), (64, .invokevirtual 103, 3, [0, 4, 4, 0, 29]), (67, .istore 4, 2, []), (69, .iload 6, 2, []), (71, .iload_n 3, 1, []), (72, .if_icmp .ne 5, 3, [77]), (75, .iconst (-1), 1, []), (76, .ireturn, 1, []), (77, .iinc 5 1, 3, []), (80, .goto (-74), 3, [6]), (83, .iload 4, 2, []), (85, .ireturn, 1, [])])
def ym_Sh_init : mz_Y := (⟨"RerootStore$Shelf", "<init>", "(I)V"⟩, prog_3_method_1_code, 3, none, 1, true, [(0, .aload_n 0, 1, []), (1, .invokespecial 3, 3, [1, 0, 1, 0, 37]), (4, .aload_n 0, 1, []), (5, .iconst 0, 1, []), (6, .putfield 9, 3, [1, 5, 38]), (9, .aload_n 0, 1, []), (10, .iconst 0, 1, []), (11, .putfield 15, 3, [1, 6, 39]), (14, .aload_n 0, 1, []), (15, .iconst 0, 1, []), (16, .putfield 18, 3, [1, 7, 40]), (19, .aload_n 0, 1, []), (20, .iconst 0, 1, []), (21, .putfield 21, 3, [1, 8, 41]), (24, .aload_n 0, 1, []), (25, .iconst 0, 1, []), (26, .putfield 24, 3, [1, 9, 42]), (29, .iload_n 1, 1, []), (30, .iconst 1, 1, []), (31, .invokestatic 27, 3, [3, 292, 2, 0, 43]), (34, .istore_n 2, 1, []), (35, .aload_n 0, 1, []), (36, .iload_n 2, 1, []), (37, .newarray .long, 2, []), (39, .putfield 33, 3, [1, 0, 44]), (42, .aload_n 0, 1, []), (43, .iload_n 2, 1, []), (44, .newarray .int, 2, []), (46, .putfield 37, 3, [1, 1, 45]), (49, .aload_n 0, 1, []), (50, .iload_n 2, 1, []), (51, .newarray .int, 2, []), (53, .putfield 41, 3, [1, 2, 46]), (56, .aload_n 0, 1, []), (57, .iload_n 2, 1, []), (58, .newarray .int, 2, []), (60, .putfield 44, 3, [1, 3, 47]), (63, .aload_n 0, 1, []), (64, .iload_n 2, 1, []), (65, .newarray .int, 2, []), (67, .putfield 47, 3, [1, 4, 48]), (70, .return_, 1, [])])
def ym_Sh_forget : mz_Y := (⟨"RerootStore$Shelf", "forget", "()V"⟩, prog_3_method_2_code, 1, none, 1, false, [(0, .aload_n 0, 1, []), (1, .iconst 0, 1, []), (2, .putfield 9, 3, [1, 5, 38]), (5, .aload_n 0, 1, []), (6, .iconst 0, 1, []), (7, .putfield 15, 3, [1, 6, 39]), (10, .aload_n 0, 1, []), (11, .iconst 0, 1, []), (12, .putfield 18, 3, [1, 7, 40]), (15, .aload_n 0, 1, []), (16, .iconst 0, 1, []), (17, .putfield 21, 3, [1, 8, 41]), (20, .aload_n 0, 1, []), (21, .iconst 0, 1, []), (22, .putfield 24, 3, [1, 9, 42]), (25, .return_, 1, [])])
def ym_Sh_begin : mz_Y := (⟨"RerootStore$Shelf", "begin", "(IIIJ)V"⟩, prog_3_method_3_code, 6, none, 1, false, [(0, .aload_n 0, 1, []), (1, .iload_n 1, 1, []), (2, .putfield 9, 3, [1, 5, 38]), (5, .aload_n 0, 1, []), (6, .iload_n 2, 1, []), (7, .putfield 15, 3, [1, 6, 39]), (10, .aload_n 0, 1, []), (11, .iload_n 3, 1, []), (12, .putfield 18, 3, [1, 7, 40]), (15, .aload_n 0, 1, []), (16, .iconst 0, 1, []), (17, .putfield 24, 3, [1, 9, 42]), (20, .aload_n 0, 1, []), (21, .iconst 1, 1, []), (22, .putfield 21, 3, [1, 8, 41]), (25, .aload_n 0, 1, []), (26, .getfield 33, 3, [1, 0, 44]), (29, .iconst 0, 1, []), (30, .lload 4, 2, []), (32, .lastore, 1, []), (33, .aload_n 0, 1, []), (34, .getfield 37, 3, [1, 1, 45]), (37, .iconst 0, 1, []), (38, .iconst (-1), 1, []), (39, .iastore, 1, []), (40, .aload_n 0, 1, []), (41, .getfield 41, 3, [1, 2, 46]), (44, .iconst 0, 1, []), (45, .iconst (-1), 1, []), (46, .iastore, 1, []), (47, .aload_n 0, 1, []), (48, .getfield 44, 3, [1, 3, 47]), (51, .iconst 0, 1, []), (52, .iconst (-1), 1, []), (53, .iastore, 1, []), (54, .aload_n 0, 1, []), (55, .getfield 47, 3, [1, 4, 48]), (58, .iconst 0, 1, []), (59, .iconst (-1), 1, []), (60, .iastore, 1, []), (61, .return_, 1, [])])
def ym_Sh_become : mz_Y := (⟨"RerootStore$Shelf", "become", "(LRerootStore$Shelf;)V"⟩, prog_3_method_4_code, 3, none, 1, false, [(0, .aload_n 1, 1, []), (1, .getfield 21, 3, [1, 8, 41]), (4, .aload_n 0, 1, []), (5, .getfield 33, 3, [1, 0, 44]), (8, .arraylength, 1, []), (9, .invokestatic 50, 3, [4, 293, 2, 0, 49]), (12, .istore_n 2, 1, []), (13, .aload_n 1, 1, []), (14, .getfield 33, 3, [1, 0, 44]), (17, .iconst 0, 1, []), (18, .aload_n 0, 1, []), (19, .getfield 33, 3, [1, 0, 44]), (22, .iconst 0, 1, []), (23, .iload_n 2, 1, []), (24, .invokestatic 53, 3, [2, 1, 5, 0, 50]), (27, .aload_n 1, 1, []), (28, .getfield 37, 3, [1, 1, 45]), (31, .iconst 0, 1, []), (32, .aload_n 0, 1, []), (33, .getfield 37, 3, [1, 1, 45]), (36, .iconst 0, 1, []), (37, .iload_n 2, 1, []), (38, .invokestatic 53, 3, [2, 0, 5, 0, 50]), (41, .aload_n 1, 1, []), (42, .getfield 41, 3, [1, 2, 46]), (45, .iconst 0, 1, []), (46, .aload_n 0, 1, []), (47, .getfield 41, 3, [1, 2, 46]), (50, .iconst 0, 1, []), (51, .iload_n 2, 1, []), (52, .invokestatic 53, 3, [2, 0, 5, 0, 50]), (55, .aload_n 1, 1, []), (56, .getfield 44, 3, [1, 3, 47]), (59, .iconst 0, 1, []), (60, .aload_n 0, 1, []), (61, .getfield 44, 3, [1, 3, 47]), (64, .iconst 0, 1, []), (65, .iload_n 2, 1, []), (66, .invokestatic 53, 3, [2, 0, 5, 0, 50]), (69, .aload_n 1, 1, []), (70, .getfield 47, 3, [1, 4, 48]), (73, .iconst 0, 1, []), (74, .aload_n 0, 1, []), (75, .getfield 47, 3, [1, 4, 48]), (78, .iconst 0, 1, []), (79, .iload_n 2, 1, []), (80, .invokestatic 53, 3, [2, 0, 5, 0, 50]), (83, .aload_n 0, 1, []), (84, .aload_n 1, 1, []), (85, .getfield 9, 3, [1, 5, 38]), (88, .putfield 9, 3, [1, 5, 38]), (91, .aload_n 0, 1, []), (92, .aload_n 1, 1, []), (93, .getfield 15, 3, [1, 6, 39]), (96, .putfield 15, 3, [1, 6, 39]), (99, .aload_n 0, 1, []), (100, .aload_n 1, 1, []), (101, .getfield 18, 3, [1, 7, 40]), (104, .putfield 18, 3, [1, 7, 40]), (107, .aload_n 0, 1, []), (108, .iload_n 2, 1, []), (109, .putfield 21, 3, [1, 8, 41]), (112, .aload_n 0, 1, []), (113, .aload_n 1, 1, []), (114, .getfield 24, 3, [1, 9, 42]), (117, .putfield 24, 3, [1, 9, 42]), (120, .return_, 1, [])])
def ym_Sh_has : mz_Y := (⟨"RerootStore$Shelf", "has", "(I)Z"⟩, prog_3_method_5_code, 2, (some .boolean), 1, false, [(0, .iload_n 1, 1, []), (1, .ifCond .lt 15, 3, [16]), (4, .iload_n 1, 1, []), (5, .aload_n 0, 1, []), (6, .getfield 21, 3, [1, 8, 41]), (9, .if_icmp .ge 7, 3, [16]), (12, .iconst 1, 1, []), (13, .goto 4, 3, [17]), (16, .iconst 0, 1, []), (17, .ireturn, 1, [])])
def ym_Sh_hasCell : mz_Y := (⟨"RerootStore$Shelf", "hasCell", "(I)Z"⟩, prog_3_method_6_code, 2, (some .boolean), 1, false, [(0, .iload_n 1, 1, []), (1, .ifCond .lt 15, 3, [16]), (4, .iload_n 1, 1, []), (5, .aload_n 0, 1, []), (6, .getfield 9, 3, [1, 5, 38]), (9, .if_icmp .ge 7, 3, [16]), (12, .iconst 1, 1, []), (13, .goto 4, 3, [17]), (16, .iconst 0, 1, []), (17, .ireturn, 1, [])])
def ym_Sh_numberIn : mz_Y := (⟨"RerootStore$Shelf", "numberIn", "(JI)I"⟩, prog_3_method_7_code, 3, (some .int), 1, false, [(0, .lload_n 0, 1, []), (1, .iconst 4, 1, []), (2, .iload_n 2, 1, []), (3, .imul, 1, []), (4, .lushr, 1, []), (5, .l2i, 1, []), (6, .bipush 15, 2, []), (8, .iand, 1, []), (9, .ireturn, 1, [])])
def ym_Sh_withNumber : mz_Y := (⟨"RerootStore$Shelf", "withNumber", "(JII)J"⟩, prog_3_method_8_code, 6, (some .long), 1, false, [(0, .lload_n 0, 1, []), (1, .ldc2_w 59, 3, [0, 51, 15]), (4, .iconst 4, 1, []), (5, .iload_n 2, 1, []), (6, .imul, 1, []), (7, .lshl, 1, []), (8, .ldc2_w 61, 3, [0, 52, 18446744073709551615]), (11, .lxor, 1, []), (12, .land, 1, []), (13, .lstore 4, 2, []), (15, .lload 4, 2, []), (17, .iload_n 3, 1, []), (18, .bipush 15, 2, []), (20, .iand, 1, []), (21, .i2l, 1, []), (22, .iconst 4, 1, []), (23, .iload_n 2, 1, []), (24, .imul, 1, []), (25, .lshl, 1, []), (26, .lor, 1, []), (27, .lreturn, 1, [])])
def ym_Sh_rowOf : mz_Y := (⟨"RerootStore$Shelf", "rowOf", "(I)J"⟩, prog_3_method_9_code, 2, (some .long), 1, false, [(0, .aload_n 0, 1, []), (1, .iload_n 1, 1, []), (2, .invokevirtual 63, 3, [0, 19, 2, 1, 53]), (5, .ifCond .eq 12, 3, [17]), (8, .aload_n 0, 1, []), (9, .getfield 33, 3, [1, 0, 44]), (12, .iload_n 1, 1, []), (13, .laload, 1, []), (14, .goto 4, 3, [18]), (17, .lconst 0, 1, []), (18, .lreturn, 1, [])])
def ym_Sh_numberAt : mz_Y := (⟨"RerootStore$Shelf", "numberAt", "(II)I"⟩, prog_3_method_10_code, 3, (some .int), 1, false, [(0, .aload_n 0, 1, []), (1, .iload_n 1, 1, []), (2, .invokevirtual 63, 3, [0, 19, 2, 1, 53]), (5, .ifCond .eq 16, 3, [21]), (8, .aload_n 0, 1, []), (9, .getfield 33, 3, [1, 0, 44]), (12, .iload_n 1, 1, []), (13, .laload, 1, []), (14, .iload_n 2, 1, []), (15, .invokestatic 67, 3, [0, 21, 2, 1, 54]), (18, .goto 4, 3, [22]), (21, .iconst (-1), 1, []), (22, .ireturn, 1, [])])
def ym_Sh_unlikeCells : mz_Y := (⟨"RerootStore$Shelf", "unlikeCells", "(JJ)I"⟩, prog_3_method_11_code, 7, (some .int), 1, false, [(0, .iconst 0, 1, []), (1, .istore 5, 2, []), (3, .iconst 0, 1, []), (4, .istore 6, 2, []), (6, .iload 6, 2, []), (8, .aload_n 0, 1, []), (9, .getfield 9, 3, [1, 5, 38]), (12, .if_icmp .ge 27, 3, [39]), (15, .lload_n 1, 1, []), (16, .iload 6, 2, []), (18, .invokestatic 67, 3, [0, 21, 2, 1, 54]), (21, .lload_n 3, 1, []), (22, .iload 6, 2, []), (24, .invokestatic 67, 3, [0, 21, 2, 1, 54]), (27, .if_icmp .eq 6, 3, [33]), (30, .iinc 5 1, 3, []), (33, .iinc 6 1, 3, []), (36, .goto (-30), 3, [6]), (39, .iload 5, 2, []), (41, .ireturn, 1, [])])
def ym_Sh_firstLike : mz_Y := (⟨"RerootStore$Shelf", "firstLike", "(I)I"⟩, prog_3_method_12_code, 5, (some .int), 1, false, [(0, .aload_n 0, 1, []), (1, .iload_n 1, 1, []), (2, .invokevirtual 71, 3, [0, 23, 2, 1, 55]), (5, .lstore_n 2, 1, []), (6, .iconst 0, 1, []), (7, .istore 4, 2, []), (9, .iload 4, 2, []), (11, .iload_n 1, 1, []), (12, .if_icmp .ge 33, 3, [45]), (15, .iload 4, 2, []), (17, .aload_n 0, 1, []), (18, .getfield 21, 3, [1, 8, 41]), (21, .if_icmp .ge 24, 3, [45]), (24, .aload_n 0, 1, []), (25, .getfield 33, 3, [1, 0, 44]), (28, .iload 4, 2, []), (30, .laload, 1, []), (31, .lload_n 2, 1, []), (32, .lcmp, 1, []), (33, .ifCond .ne 6, 3, [39]), (36, .iload 4, 2, []), (38, .ireturn, 1, []), (39, .iinc 4 1, 3, []), (42, .goto (-33), 3, [9]), (45, .iload_n 1, 1, []), (46, .ireturn, 1, [])])
def ym_Sh_makingOf : mz_Y := (⟨"RerootStore$Shelf", "makingOf", "(II)I"⟩, prog_3_method_13_code, 3, (some .int), 1, false, [(0, .aload_n 0, 1, []), (1, .iload_n 1, 1, []), (2, .invokevirtual 63, 3, [0, 19, 2, 1, 53]), (5, .ifCond .eq 13, 3, [18]), (8, .aload_n 0, 1, []), (9, .getfield 44, 3, [1, 3, 47]), (12, .iload_n 1, 1, []), (13, .iaload, 1, []), (14, .iconst (-1), 1, []), (15, .if_icmp .ne 5, 3, [20]), (18, .iconst (-1), 1, []), (19, .ireturn, 1, []), (20, .iload_n 2, 1, []), (21, .ifCond .ne 10, 3, [31]), (24, .aload_n 0, 1, []), (25, .getfield 44, 3, [1, 3, 47]), (28, .iload_n 1, 1, []), (29, .iaload, 1, []), (30, .ireturn, 1, []), (31, .iload_n 2, 1, []), (32, .iconst 1, 1, []), (33, .if_icmp .ne 12, 3, [45]), (36, .aload_n 0, 1, []), (37, .getfield 47, 3, [1, 4, 48]), (40, .iload_n 1, 1, []), (41, .iaload, 1, []), (42, .goto 14, 3, [56]), (45, .aload_n 0, 1, []), (46, .iload_n 1, 1, []), (47, .aload_n 0, 1, []), (48, .getfield 47, 3, [1, 4, 48]), (51, .iload_n 1, 1, []), (52, .iaload, 1, []), (53, .invokevirtual 75, 3, [0, 24, 3, 1, 56]), (56, .ireturn, 1, [])])
def ym_Sh_parentOf : mz_Y := (⟨"RerootStore$Shelf", "parentOf", "(I)I"⟩, prog_3_method_14_code, 2, (some .int), 1, false, [(0, .aload_n 0, 1, []), (1, .iload_n 1, 1, []), (2, .invokevirtual 63, 3, [0, 19, 2, 1, 53]), (5, .ifCond .eq 12, 3, [17]), (8, .aload_n 0, 1, []), (9, .getfield 44, 3, [1, 3, 47]), (12, .iload_n 1, 1, []), (13, .iaload, 1, []), (14, .goto 4, 3, [18]), (17, .iconst (-1), 1, []), (18, .ireturn, 1, [])])
def ym_Sh_depthOf : mz_Y := (⟨"RerootStore$Shelf", "depthOf", "(I)I"⟩, prog_3_method_15_code, 4, (some .int), 1, false, [(0, .iconst 0, 1, []), (1, .istore_n 2, 1, []), (2, .aload_n 0, 1, []), (3, .iload_n 1, 1, []), (4, .invokevirtual 78, 3, [0, 28, 2, 1, 57]), (7, .istore_n 3, 1, []), (8, .iload_n 3, 1, []), (9, .iconst (-1), 1, []), (10, .if_icmp .eq 23, 3, [33]), (13, .iload_n 2, 1, []), (14, .aload_n 0, 1, []), (15, .getfield 21, 3, [1, 8, 41]), (18, .if_icmp .ge 15, 3, [33]), (21, .iinc 2 1, 3, []), (24, .aload_n 0, 1, []), (25, .iload_n 3, 1, []), (26, .invokevirtual 78, 3, [0, 28, 2, 1, 57]), (29, .istore_n 3, 1, []), (30, .goto (-22), 3, [8]), (33, .iload_n 2, 1, []), (34, .ireturn, 1, [])])
def ym_Sh_meeting : mz_Y := (⟨"RerootStore$Shelf", "meeting", "(II)I"⟩, prog_3_method_16_code, 6, (some .int), 1, false, [(0, .iload_n 1, 1, []), (1, .istore_n 3, 1, []), (2, .iload_n 2, 1, []), (3, .istore 4, 2, []), (5, .iconst 0, 1, []), (6, .istore 5, 2, []), (8, .iload 5, 2, []), (10, .iconst 2, 1, []), (11, .aload_n 0, 1, []), (12, .getfield 21, 3, [1, 8, 41]), (15, .imul, 1, []), (16, .if_icmp .ge 38, 3, [54]), (19, .iload_n 3, 1, []), (20, .iload 4, 2, []), (22, .if_icmp .eq 32, 3, [54]), (25, .iload_n 3, 1, []), (26, .iload 4, 2, []), (28, .if_icmp .le 12, 3, [40]), (31, .aload_n 0, 1, []), (32, .iload_n 3, 1, []), (33, .invokevirtual 78, 3, [0, 28, 2, 1, 57]), (36, .istore_n 3, 1, []), (37, .goto 11, 3, [48]), (40, .aload_n 0, 1, []), (41, .iload 4, 2, []), (43, .invokevirtual 78, 3, [0, 28, 2, 1, 57]), (46, .istore 4, 2, []), (48, .iinc 5 1, 3, []), (51, .goto (-43), 3, [8]), (54, .iload_n 3, 1, []), (55, .ireturn, 1, [])])
def ym_Sh_lastSetter : mz_Y := (⟨"RerootStore$Shelf", "lastSetter", "(II)I"⟩, prog_3_method_17_code, 5, (some .int), 1, false, [(0, .iload_n 1, 1, []), (1, .istore_n 3, 1, []), (2, .iconst 0, 1, []), (3, .istore 4, 2, []), (5, .iload 4, 2, []), (7, .aload_n 0, 1, []), (8, .getfield 21, 3, [1, 8, 41]), (11, .if_icmp .ge 36, 3, [47]), (14, .aload_n 0, 1, []), (15, .iload_n 3, 1, []), (16, .invokevirtual 63, 3, [0, 19, 2, 1, 53]), (19, .ifCond .eq 28, 3, [47]), (22, .aload_n 0, 1, []), (23, .getfield 47, 3, [1, 4, 48]), (26, .iload_n 3, 1, []), (27, .iaload, 1, []), (28, .iload_n 2, 1, []), (29, .if_icmp .ne 5, 3, [34]), (32, .iload_n 3, 1, []), (33, .ireturn, 1, []), (34, .aload_n 0, 1, []), (35, .getfield 44, 3, [1, 3, 47]), (38, .iload_n 3, 1, []), (39, .iaload, 1, []), (40, .istore_n 3, 1, []), (41, .iinc 4 1, 3, []), (44, .goto (-39), 3, [5]), (47, .iconst 0, 1, []), (48, .ireturn, 1, [])])
def ym_Sh_timesSet : mz_Y := (⟨"RerootStore$Shelf", "timesSet", "(II)I"⟩, prog_3_method_18_code, 6, (some .int), 1, false, [(0, .iconst 0, 1, []), (1, .istore_n 3, 1, []), (2, .iload_n 1, 1, []), (3, .istore 4, 2, []), (5, .iconst 0, 1, []), (6, .istore 5, 2, []), (8, .iload 5, 2, []), (10, .aload_n 0, 1, []), (11, .getfield 21, 3, [1, 8, 41]), (14, .if_icmp .ge 41, 3, [55]), (17, .aload_n 0, 1, []), (18, .iload 4, 2, []), (20, .invokevirtual 63, 3, [0, 19, 2, 1, 53]), (23, .ifCond .eq 32, 3, [55]), (26, .aload_n 0, 1, []), (27, .getfield 47, 3, [1, 4, 48]), (30, .iload 4, 2, []), (32, .iaload, 1, []), (33, .iload_n 2, 1, []), (34, .if_icmp .ne 6, 3, [40]), (37, .iinc 3 1, 3, []), (40, .aload_n 0, 1, []), (41, .getfield 44, 3, [1, 3, 47]), (44, .iload 4, 2, []), (46, .iaload, 1, []), (47, .istore 4, 2, []), (49, .iinc 5 1, 3, []), (52, .goto (-44), 3, [8]), (55, .iload_n 3, 1, []), (56, .ireturn, 1, [])])
def ym_Sh_rootOf : mz_Y := (⟨"RerootStore$Shelf", "rootOf", "(II)I"⟩, prog_3_method_19_code, 8, (some .int), 1, false, [(0, .aload_n 0, 1, []), (1, .iload_n 1, 1, []), (2, .invokevirtual 71, 3, [0, 23, 2, 1, 55]), (5, .lstore_n 3, 1, []), (6, .iload_n 2, 1, []), (7, .istore 5, 2, []), (9, .iconst 0, 1, []), (10, .istore 6, 2, []), (12, .iload 6, 2, []), (14, .aload_n 0, 1, []), (15, .getfield 9, 3, [1, 5, 38]), (18, .if_icmp .ge 31, 3, [49]), (21, .lload_n 3, 1, []), (22, .iload 5, 2, []), (24, .invokestatic 67, 3, [0, 21, 2, 1, 54]), (27, .istore 7, 2, []), (29, .iload 7, 2, []), (31, .iload 5, 2, []), (33, .if_icmp .ne 6, 3, [39]), (36, .iload 5, 2, []), (38, .ireturn, 1, []), (39, .iload 7, 2, []), (41, .istore 5, 2, []), (43, .iinc 6 1, 3, []), (46, .goto (-34), 3, [12]), (49, .iload 5, 2, []), (51, .ireturn, 1, [])])
def ym_Sh_areJoined : mz_Y := (⟨"RerootStore$Shelf", "areJoined", "(III)Z"⟩, prog_3_method_20_code, 4, (some .boolean), 1, false, [(0, .aload_n 0, 1, []), (1, .iload_n 1, 1, []), (2, .iload_n 2, 1, []), (3, .invokevirtual 82, 3, [0, 33, 3, 1, 58]), (6, .aload_n 0, 1, []), (7, .iload_n 1, 1, []), (8, .iload_n 3, 1, []), (9, .invokevirtual 82, 3, [0, 33, 3, 1, 58]), (12, .if_icmp .ne 7, 3, [19]), (15, .iconst 1, 1, []), (16, .goto 4, 3, [20]), (19, .iconst 0, 1, []), (20, .ireturn, 1, [])])
def ym_Sh_rootBits : mz_Y := (⟨"RerootStore$Shelf", "rootBits", "(I)I"⟩, prog_3_method_21_code, 4, (some .int), 1, false, [(0, .iconst 0, 1, []), (1, .istore_n 2, 1, []), (2, .iconst 0, 1, []), (3, .istore_n 3, 1, []), (4, .iload_n 3, 1, []), (5, .aload_n 0, 1, []), (6, .getfield 9, 3, [1, 5, 38]), (9, .if_icmp .ge 20, 3, [29]), (12, .iload_n 2, 1, []), (13, .iconst 1, 1, []), (14, .aload_n 0, 1, []), (15, .iload_n 1, 1, []), (16, .iload_n 3, 1, []), (17, .invokevirtual 82, 3, [0, 33, 3, 1, 58]), (20, .ishl, 1, []), (21, .ior, 1, []), (22, .istore_n 2, 1, []), (23, .iinc 3 1, 3, []), (26, .goto (-22), 3, [4]), (29, .iload_n 2, 1, []), (30, .ireturn, 1, [])])
def ym_Sh_cellsRootedAs : mz_Y := (⟨"RerootStore$Shelf", "cellsRootedAs", "(II)I"⟩, prog_3_method_22_code, 6, (some .int), 1, false, [(0, .aload_n 0, 1, []), (1, .iload_n 1, 1, []), (2, .iload_n 2, 1, []), (3, .invokevirtual 82, 3, [0, 33, 3, 1, 58]), (6, .istore_n 3, 1, []), (7, .iconst 0, 1, []), (8, .istore 4, 2, []), (10, .iconst 0, 1, []), (11, .istore 5, 2, []), (13, .iload 5, 2, []), (15, .aload_n 0, 1, []), (16, .getfield 9, 3, [1, 5, 38]), (19, .if_icmp .ge 29, 3, [48]), (22, .aload_n 0, 1, []), (23, .iload_n 1, 1, []), (24, .iload 5, 2, []), (26, .invokevirtual 82, 3, [0, 33, 3, 1, 58]), (29, .iload_n 3, 1, []), (30, .if_icmp .ne 12, 3, [42]), (33, .iload 4, 2, []), (35, .iconst 1, 1, []), (36, .iload 5, 2, []), (38, .ishl, 1, []), (39, .ior, 1, []), (40, .istore 4, 2, []), (42, .iinc 5 1, 3, []), (45, .goto (-32), 3, [13]), (48, .iload 4, 2, []), (50, .ireturn, 1, [])])
def ym_Sh_isDirect : mz_Y := (⟨"RerootStore$Shelf", "isDirect", "(I)Z"⟩, prog_3_method_23_code, 2, (some .boolean), 1, false, [(0, .aload_n 0, 1, []), (1, .iload_n 1, 1, []), (2, .invokevirtual 63, 3, [0, 19, 2, 1, 53]), (5, .ifCond .eq 17, 3, [22]), (8, .aload_n 0, 1, []), (9, .getfield 37, 3, [1, 1, 45]), (12, .iload_n 1, 1, []), (13, .iaload, 1, []), (14, .iconst (-1), 1, []), (15, .if_icmp .ne 7, 3, [22]), (18, .iconst 1, 1, []), (19, .goto 4, 3, [23]), (22, .iconst 0, 1, []), (23, .ireturn, 1, [])])
def ym_Sh_linkOf : mz_Y := (⟨"RerootStore$Shelf", "linkOf", "(II)I"⟩, prog_3_method_24_code, 3, (some .int), 1, false, [(0, .iload_n 2, 1, []), (1, .ifCond .ne 17, 3, [18]), (4, .aload_n 0, 1, []), (5, .iload_n 1, 1, []), (6, .invokevirtual 85, 3, [0, 37, 2, 1, 59]), (9, .ifCond .eq 7, 3, [16]), (12, .iconst 1, 1, []), (13, .goto 4, 3, [17]), (16, .iconst 0, 1, []), (17, .ireturn, 1, []), (18, .aload_n 0, 1, []), (19, .iload_n 1, 1, []), (20, .invokevirtual 63, 3, [0, 19, 2, 1, 53]), (23, .ifCond .eq 11, 3, [34]), (26, .aload_n 0, 1, []), (27, .iload_n 1, 1, []), (28, .invokevirtual 85, 3, [0, 37, 2, 1, 59]), (31, .ifCond .eq 5, 3, [36]), (34, .iconst (-1), 1, []), (35, .ireturn, 1, []), (36, .iload_n 2, 1, []), (37, .iconst 1, 1, []), (38, .if_icmp .ne 10, 3, [48]), (41, .aload_n 0, 1, []), (42, .getfield 37, 3, [1, 1, 45]), (45, .iload_n 1, 1, []), (46, .iaload, 1, []), (47, .ireturn, 1, []), (48, .iload_n 2, 1, []), (49, .iconst 2, 1, []), (50, .if_icmp .ne 12, 3, [62]), (53, .aload_n 0, 1, []), (54, .getfield 41, 3, [1, 2, 46]), (57, .iload_n 1, 1, []), (58, .iaload, 1, []), (59, .goto 14, 3, [73]), (62, .aload_n 0, 1, []), (63, .iload_n 1, 1, []), (64, .aload_n 0, 1, []), (65, .getfield 41, 3, [1, 2, 46]), (68, .iload_n 1, 1, []), (69, .iaload, 1, []), (70, .invokevirtual 75, 3, [0, 24, 3, 1, 56]), (73, .ireturn, 1, [])])
def ym_Sh_wayFrom : mz_Y := (⟨"RerootStore$Shelf", "wayFrom", "(I)I"⟩, prog_3_method_25_code, 4, (some .int), 1, false, [(0, .iconst 0, 1, []), (1, .istore_n 2, 1, []), (2, .iload_n 1, 1, []), (3, .istore_n 3, 1, []), (4, .iload_n 2, 1, []), (5, .aload_n 0, 1, []), (6, .getfield 21, 3, [1, 8, 41]), (9, .if_icmp .ge 38, 3, [47]), (12, .iload_n 3, 1, []), (13, .ifCond .lt 34, 3, [47]), (16, .iload_n 3, 1, []), (17, .aload_n 0, 1, []), (18, .getfield 21, 3, [1, 8, 41]), (21, .if_icmp .ge 26, 3, [47]), (24, .aload_n 0, 1, []), (25, .getfield 37, 3, [1, 1, 45]), (28, .iload_n 3, 1, []), (29, .iaload, 1, []), (30, .iconst (-1), 1, []), (31, .if_icmp .eq 16, 3, [47]), (34, .aload_n 0, 1, []), (35, .getfield 37, 3, [1, 1, 45]), (38, .iload_n 3, 1, []), (39, .iaload, 1, []), (40, .istore_n 3, 1, []), (41, .iinc 2 1, 3, []), (44, .goto (-40), 3, [4]), (47, .iload_n 2, 1, []), (48, .ireturn, 1, [])])
def ym_Sh_longestWay : mz_Y := (⟨"RerootStore$Shelf", "longestWay", "()I"⟩, prog_3_method_26_code, 3, (some .int), 1, false, [(0, .iconst 0, 1, []), (1, .istore_n 1, 1, []), (2, .iconst 0, 1, []), (3, .istore_n 2, 1, []), (4, .iload_n 2, 1, []), (5, .aload_n 0, 1, []), (6, .getfield 21, 3, [1, 8, 41]), (9, .if_icmp .ge 19, 3, [28]), (12, .iload_n 1, 1, []), (13, .aload_n 0, 1, []), (14, .iload_n 2, 1, []), (15, .invokevirtual 88, 3, [0, 39, 2, 1, 60]), (18, .invokestatic 27, 3, [3, 292, 2, 0, 43]), (21, .istore_n 1, 1, []), (22, .iinc 2 1, 3, []), (25, .goto (-21), 3, [4]), (28, .iload_n 1, 1, []), (29, .ireturn, 1, [])])
def ym_Sh_directOnes : mz_Y := (⟨"RerootStore$Shelf", "directOnes", "()I"⟩, prog_3_method_27_code, 3, (some .int), 1, false, [(0, .iconst 0, 1, []), (1, .istore_n 1, 1, []), (2, .iconst 0, 1, []), (3, .istore_n 2, 1, []), (4, .iload_n 2, 1, []), (5, .aload_n 0, 1, []), (6, .getfield 21, 3, [1, 8, 41]), (9, .if_icmp .ge 20, 3, [29]), (12, .aload_n 0, 1, []), (13, .iload_n 2, 1, []), (14, .invokevirtual 85, 3, [0, 37, 2, 1, 59]), (17, .ifCond .eq 6, 3, [23]), (20, .iinc 1 1, 3, []), (23, .iinc 2 1, 3, []), (26, .goto (-22), 3, [4]), (29, .iload_n 1, 1, []), (30, .ireturn, 1, [])])
def ym_Sh_allWays : mz_Y := (⟨"RerootStore$Shelf", "allWays", "()I"⟩, prog_3_method_28_code, 3, (some .int), 1, false, [(0, .iconst 0, 1, []), (1, .istore_n 1, 1, []), (2, .iconst 0, 1, []), (3, .istore_n 2, 1, []), (4, .iload_n 2, 1, []), (5, .aload_n 0, 1, []), (6, .getfield 21, 3, [1, 8, 41]), (9, .if_icmp .ge 17, 3, [26]), (12, .iload_n 1, 1, []), (13, .aload_n 0, 1, []), (14, .iload_n 2, 1, []), (15, .invokevirtual 88, 3, [0, 39, 2, 1, 60]), (18, .iadd, 1, []), (19, .istore_n 1, 1, []), (20, .iinc 2 1, 3, []), (23, .goto (-19), 3, [4]), (26, .iload_n 1, 1, []), (27, .ireturn, 1, [])])
def ym_Sh_allWaysIfSnapped : mz_Y := (⟨"RerootStore$Shelf", "allWaysIfSnapped", "(I)I"⟩, prog_3_method_29_code, 4, (some .int), 1, false, [(0, .aload_n 0, 1, []), (1, .iload_n 1, 1, []), (2, .invokevirtual 63, 3, [0, 19, 2, 1, 53]), (5, .ifCond .ne 8, 3, [13]), (8, .aload_n 0, 1, []), (9, .invokevirtual 91, 3, [0, 42, 1, 1, 61]), (12, .ireturn, 1, []), (13, .aload_n 0, 1, []), (14, .getfield 37, 3, [1, 1, 45]), (17, .iload_n 1, 1, []), (18, .iaload, 1, []), (19, .istore_n 2, 1, []), (20, .aload_n 0, 1, []), (21, .getfield 37, 3, [1, 1, 45]), (24, .iload_n 1, 1, []), (25, .iconst (-1), 1, []), (26, .iastore, 1, []), (27, .aload_n 0, 1, []), (28, .invokevirtual 91, 3, [0, 42, 1, 1, 61]), (31, .istore_n 3, 1, []), (32, .aload_n 0, 1, []), (33, .getfield 37, 3, [1, 1, 45]), (36, .iload_n 1, 1, []), (37, .iload_n 2, 1, []), (38, .iastore, 1, []), (39, .iload_n 3, 1, []), (40, .ireturn, 1, [])])
def ym_Sh_withWays : mz_Y := (⟨"RerootStore$Shelf", "withWays", "(J)J"⟩, prog_3_method_30_code, 6, (some .long), 1, false, [(0, .lload_n 1, 1, []), (1, .lstore_n 3, 1, []), (2, .iconst 0, 1, []), (3, .istore 5, 2, []), (5, .iload 5, 2, []), (7, .aload_n 0, 1, []), (8, .getfield 21, 3, [1, 8, 41]), (11, .if_icmp .ge 29, 3, [40]), (14, .lload_n 1, 1, []), (15, .iload 5, 2, []), (17, .lushr, 1, []), (18, .lconst 1, 1, []), (19, .land, 1, []), (20, .lconst 0, 1, []), (21, .lcmp, 1, []), (22, .ifCond .eq 12, 3, [34]), (25, .lload_n 3, 1, []), (26, .aload_n 0, 1, []), (27, .iload 5, 2, []), (29, .invokevirtual 95, 3, [0, 45, 2, 1, 62]), (32, .lor, 1, []), (33, .lstore_n 3, 1, []), (34, .iinc 5 1, 3, []), (37, .goto (-32), 3, [5]), (40, .lload_n 3, 1, []), (41, .lreturn, 1, [])])
def ym_Sh_wayBits : mz_Y := (⟨"RerootStore$Shelf", "wayBits", "(I)J"⟩, prog_3_method_31_code, 6, (some .long), 1, false, [(0, .lconst 0, 1, []), (1, .lstore_n 2, 1, []), (2, .iload_n 1, 1, []), (3, .istore 4, 2, []), (5, .iconst 0, 1, []), (6, .istore 5, 2, []), (8, .iload 5, 2, []), (10, .aload_n 0, 1, []), (11, .getfield 21, 3, [1, 8, 41]), (14, .if_icmp .ge 34, 3, [48]), (17, .aload_n 0, 1, []), (18, .iload 4, 2, []), (20, .invokevirtual 63, 3, [0, 19, 2, 1, 53]), (23, .ifCond .eq 25, 3, [48]), (26, .lload_n 2, 1, []), (27, .lconst 1, 1, []), (28, .iload 4, 2, []), (30, .lshl, 1, []), (31, .lor, 1, []), (32, .lstore_n 2, 1, []), (33, .aload_n 0, 1, []), (34, .getfield 37, 3, [1, 1, 45]), (37, .iload 4, 2, []), (39, .iaload, 1, []), (40, .istore 4, 2, []), (42, .iinc 5 1, 3, []), (45, .goto (-37), 3, [8]), (48, .lload_n 2, 1, []), (49, .lreturn, 1, [])])
def ym_Sh_numbersIn : mz_Y := (⟨"RerootStore$Shelf", "numbersIn", "(J)I"⟩, prog_3_method_32_code, 5, (some .int), 1, false, [(0, .iconst 0, 1, []), (1, .istore_n 3, 1, []), (2, .iconst 0, 1, []), (3, .istore 4, 2, []), (5, .iload 4, 2, []), (7, .aload_n 0, 1, []), (8, .getfield 21, 3, [1, 8, 41]), (11, .if_icmp .ge 40, 3, [51]), (14, .lload_n 1, 1, []), (15, .iload 4, 2, []), (17, .lushr, 1, []), (18, .lconst 1, 1, []), (19, .land, 1, []), (20, .lconst 0, 1, []), (21, .lcmp, 1, []), (22, .ifCond .eq 23, 3, [45]), (25, .iload_n 3, 1, []), (26, .aload_n 0, 1, []), (27, .iload 4, 2, []), (29, .invokevirtual 85, 3, [0, 37, 2, 1, 59]), (32, .ifCond .eq 10, 3, [42]), (35, .aload_n 0, 1, []), (36, .getfield 9, 3, [1, 5, 38]), (39, .goto 4, 3, [43]), (42, .iconst 3, 1, []), (43, .iadd, 1, []), (44, .istore_n 3, 1, []), (45, .iinc 4 1, 3, []), (48, .goto (-43), 3, [5]), (51, .iload_n 3, 1, []), (52, .ireturn, 1, [])])
def ym_Sh_mostPassed : mz_Y := (⟨"RerootStore$Shelf", "mostPassed", "()I"⟩, prog_3_method_33_code, 5, (some .int), 1, false, [(0, .iconst (-1), 1, []), (1, .istore_n 1, 1, []), (2, .iconst 0, 1, []), (3, .istore_n 2, 1, []), (4, .iconst 0, 1, []), (5, .istore_n 3, 1, []), (6, .iload_n 3, 1, []), (7, .aload_n 0, 1, []), (8, .getfield 21, 3, [1, 8, 41]), (11, .if_icmp .ge 39, 3, [50]), (14, .aload_n 0, 1, []), (15, .iload_n 3, 1, []), (16, .invokevirtual 85, 3, [0, 37, 2, 1, 59]), (19, .ifCond .eq 7, 3, [26]), (22, .iconst 0, 1, []), (23, .goto 8, 3, [31]), (26, .aload_n 0, 1, []), (27, .iload_n 3, 1, []), (28, .invokevirtual 98, 3, [0, 48, 2, 1, 63]), (31, .istore 4, 2, []), (33, .iload 4, 2, []), (35, .iload_n 2, 1, []), (36, .if_icmp .le 8, 3, [44]), (39, .iload 4, 2, []), (41, .istore_n 2, 1, []), (42, .iload_n 3, 1, []), (43, .istore_n 1, 1, []), (44, .iinc 3 1, 3, []), (47, .goto (-41), 3, [6]), (50, .iload_n 1, 1, []), (51, .ireturn, 1, [])])
def ym_Sh_waysThrough : mz_Y := (⟨"RerootStore$Shelf", "waysThrough", "(I)I"⟩, prog_3_method_34_code, 4, (some .int), 1, false, [(0, .iconst 0, 1, []), (1, .istore_n 2, 1, []), (2, .iconst 0, 1, []), (3, .istore_n 3, 1, []), (4, .iload_n 3, 1, []), (5, .aload_n 0, 1, []), (6, .getfield 21, 3, [1, 8, 41]), (9, .if_icmp .ge 31, 3, [40]), (12, .iload_n 3, 1, []), (13, .iload_n 1, 1, []), (14, .if_icmp .eq 20, 3, [34]), (17, .aload_n 0, 1, []), (18, .iload_n 3, 1, []), (19, .invokevirtual 95, 3, [0, 45, 2, 1, 62]), (22, .iload_n 1, 1, []), (23, .lushr, 1, []), (24, .lconst 1, 1, []), (25, .land, 1, []), (26, .lconst 0, 1, []), (27, .lcmp, 1, []), (28, .ifCond .eq 6, 3, [34]), (31, .iinc 2 1, 3, []), (34, .iinc 3 1, 3, []), (37, .goto (-33), 3, [4]), (40, .iload_n 2, 1, []), (41, .ireturn, 1, [])])
def ym_Sh_isTooLong : mz_Y := (⟨"RerootStore$Shelf", "isTooLong", "(I)Z"⟩, prog_3_method_35_code, 2, (some .boolean), 1, false, [(0, .aload_n 0, 1, []), (1, .getfield 15, 3, [1, 6, 39]), (4, .iconst 2, 1, []), (5, .if_icmp .ne 15, 3, [20]), (8, .iload_n 1, 1, []), (9, .aload_n 0, 1, []), (10, .getfield 18, 3, [1, 7, 40]), (13, .if_icmp .le 7, 3, [20]), (16, .iconst 1, 1, []), (17, .goto 4, 3, [21]), (20, .iconst 0, 1, []), (21, .ireturn, 1, [])])
def ym_Sh_readingCost : mz_Y := (⟨"RerootStore$Shelf", "readingCost", "(II)I"⟩, prog_3_method_36_code, 4, (some .int), 1, false, [(0, .aload_n 0, 1, []), (1, .getfield 15, 3, [1, 6, 39]), (4, .iconst 1, 1, []), (5, .if_icmp .ne 10, 3, [15]), (8, .aload_n 0, 1, []), (9, .iload_n 1, 1, []), (10, .iload_n 2, 1, []), (11, .invokevirtual 101, 3, [0, 51, 3, 1, 64]), (14, .ireturn, 1, []), (15, .aload_n 0, 1, []), (16, .iload_n 1, 1, []), (17, .invokevirtual 88, 3, [0, 39, 2, 1, 60]), (20, .istore_n 3, 1, []), (21, .aload_n 0, 1, []), (22, .iload_n 3, 1, []), (23, .invokevirtual 104, 3, [0, 49, 2, 1, 65]), (26, .ifCond .eq 12, 3, [38]), (29, .iload_n 3, 1, []), (30, .aload_n 0, 1, []), (31, .getfield 9, 3, [1, 5, 38]), (34, .iadd, 1, []), (35, .goto 4, 3, [39]), (38, .iload_n 3, 1, []), (39, .ireturn, 1, [])])
def ym_Sh_linksBefore : mz_Y := (⟨"RerootStore$Shelf", "linksBefore", "(II)I"⟩, prog_3_method_37_code, 5, (some .int), 1, false, [(0, .iconst 0, 1, []), (1, .istore_n 3, 1, []), (2, .iload_n 1, 1, []), (3, .istore 4, 2, []), (5, .iload_n 3, 1, []), (6, .aload_n 0, 1, []), (7, .getfield 21, 3, [1, 8, 41]), (10, .if_icmp .ge 54, 3, [64]), (13, .iload 4, 2, []), (15, .ifCond .lt 49, 3, [64]), (18, .iload 4, 2, []), (20, .aload_n 0, 1, []), (21, .getfield 21, 3, [1, 8, 41]), (24, .if_icmp .ge 40, 3, [64]), (27, .aload_n 0, 1, []), (28, .getfield 37, 3, [1, 1, 45]), (31, .iload 4, 2, []), (33, .iaload, 1, []), (34, .iconst (-1), 1, []), (35, .if_icmp .eq 29, 3, [64]), (38, .aload_n 0, 1, []), (39, .getfield 41, 3, [1, 2, 46]), (42, .iload 4, 2, []), (44, .iaload, 1, []), (45, .iload_n 2, 1, []), (46, .if_icmp .eq 18, 3, [64]), (49, .aload_n 0, 1, []), (50, .getfield 37, 3, [1, 1, 45]), (53, .iload 4, 2, []), (55, .iaload, 1, []), (56, .istore 4, 2, []), (58, .iinc 3 1, 3, []), (61, .goto (-56), 3, [5]), (64, .iload_n 3, 1, []), (65, .ireturn, 1, [])])
def ym_Sh_readCell : mz_Y := (⟨"RerootStore$Shelf", "readCell", "(II)I"⟩, prog_3_method_38_code, 3, (some .int), 1, false, [(0, .aload_n 0, 1, []), (1, .getfield 15, 3, [1, 6, 39]), (4, .iconst 1, 1, []), (5, .if_icmp .ne 21, 3, [26]), (8, .aload_n 0, 1, []), (9, .dup, 1, []), (10, .getfield 24, 3, [1, 9, 42]), (13, .aload_n 0, 1, []), (14, .iload_n 1, 1, []), (15, .iload_n 2, 1, []), (16, .invokevirtual 101, 3, [0, 51, 3, 1, 64]), (19, .iadd, 1, []), (20, .putfield 24, 3, [1, 9, 42]), (23, .goto 8, 3, [31]), (26, .aload_n 0, 1, []), (27, .iload_n 1, 1, []), (28, .invokevirtual 107, 3, [0, 53, 2, 1, 66]), (31, .aload_n 0, 1, []), (32, .iload_n 1, 1, []), (33, .iload_n 2, 1, []), (34, .invokevirtual 75, 3, [0, 24, 3, 1, 56]), (37, .ireturn, 1, [])])
def ym_Sh_reach : mz_Y := (⟨"RerootStore$Shelf", "reach", "(I)V"⟩, prog_3_method_39_code, 3, none, 1, false, [(0, .aload_n 0, 1, []), (1, .iload_n 1, 1, []), (2, .invokevirtual 88, 3, [0, 39, 2, 1, 60]), (5, .istore_n 2, 1, []), (6, .aload_n 0, 1, []), (7, .iload_n 2, 1, []), (8, .invokevirtual 104, 3, [0, 49, 2, 1, 65]), (11, .ifCond .eq 12, 3, [23]), (14, .aload_n 0, 1, []), (15, .iload_n 1, 1, []), (16, .iload_n 2, 1, []), (17, .invokevirtual 111, 3, [0, 54, 3, 1, 67]), (20, .goto 18, 3, [38]), (23, .aload_n 0, 1, []), (24, .iload_n 1, 1, []), (25, .invokevirtual 115, 3, [0, 55, 2, 1, 68]), (28, .aload_n 0, 1, []), (29, .dup, 1, []), (30, .getfield 24, 3, [1, 9, 42]), (33, .iload_n 2, 1, []), (34, .iadd, 1, []), (35, .putfield 24, 3, [1, 9, 42]), (38, .return_, 1, [])])
def ym_Sh_giveRow : mz_Y := (⟨"RerootStore$Shelf", "giveRow", "(II)V"⟩, prog_3_method_40_code, 3, none, 1, false, [(0, .iload_n 1, 1, []), (1, .ifCond .lt 40, 3, [41]), (4, .iload_n 1, 1, []), (5, .aload_n 0, 1, []), (6, .getfield 21, 3, [1, 8, 41]), (9, .if_icmp .ge 32, 3, [41]), (12, .aload_n 0, 1, []), (13, .getfield 37, 3, [1, 1, 45]), (16, .iload_n 1, 1, []), (17, .iconst (-1), 1, []), (18, .iastore, 1, []), (19, .aload_n 0, 1, []), (20, .getfield 41, 3, [1, 2, 46]), (23, .iload_n 1, 1, []), (24, .iconst (-1), 1, []), (25, .iastore, 1, []), (26, .aload_n 0, 1, []), (27, .dup, 1, []), (28, .getfield 24, 3, [1, 9, 42]), (31, .iload_n 2, 1, []), (32, .aload_n 0, 1, []), (33, .getfield 9, 3, [1, 5, 38]), (36, .iadd, 1, []), (37, .iadd, 1, []), (38, .putfield 24, 3, [1, 9, 42]), (41, .return_, 1, [])])
def ym_Sh_turnWay : mz_Y := (⟨"RerootStore$Shelf", "turnWay", "(I)V"⟩, prog_3_method_41_code, 8, none, 1, false, [(0, .iload_n 1, 1, []), (1, .istore_n 2, 1, []), (2, .iconst (-1), 1, []), (3, .istore_n 3, 1, []), (4, .iconst (-1), 1, []), (5, .istore 4, 2, []), (7, .iconst 0, 1, []), (8, .istore 5, 2, []), (10, .iload 5, 2, []), (12, .aload_n 0, 1, []), (13, .getfield 21, 3, [1, 8, 41]), (16, .if_icmp .ge 61, 3, [77]), (19, .iload_n 2, 1, []), (20, .ifCond .lt 57, 3, [77]), (23, .iload_n 2, 1, []), (24, .aload_n 0, 1, []), (25, .getfield 21, 3, [1, 8, 41]), (28, .if_icmp .ge 49, 3, [77]), (31, .aload_n 0, 1, []), (32, .getfield 37, 3, [1, 1, 45]), (35, .iload_n 2, 1, []), (36, .iaload, 1, []), (37, .istore 6, 2, []), (39, .aload_n 0, 1, []), (40, .getfield 41, 3, [1, 2, 46]), (43, .iload_n 2, 1, []), (44, .iaload, 1, []), (45, .istore 7, 2, []), (47, .aload_n 0, 1, []), (48, .getfield 37, 3, [1, 1, 45]), (51, .iload_n 2, 1, []), (52, .iload_n 3, 1, []), (53, .iastore, 1, []), (54, .aload_n 0, 1, []), (55, .getfield 41, 3, [1, 2, 46]), (58, .iload_n 2, 1, []), (59, .iload 4, 2, []), (61, .iastore, 1, []), (62, .iload_n 2, 1, []), (63, .istore_n 3, 1, []), (64, .iload 7, 2, []), (66, .istore 4, 2, []), (68, .iload 6, 2, []), (70, .istore_n 2, 1, []), (71, .iinc 5 1, 3, []), (74, .goto (-64), 3, [10]), (77, .return_, 1, [])])
def ym_Sh_setCell : mz_Y := (⟨"RerootStore$Shelf", "setCell", "(III)I"⟩, prog_3_method_42_code, 7, (some .int), 1, false, [(0, .aload_n 0, 1, []), (1, .iload_n 1, 1, []), (2, .invokevirtual 63, 3, [0, 19, 2, 1, 53]), (5, .ifCond .eq 15, 3, [20]), (8, .aload_n 0, 1, []), (9, .getfield 21, 3, [1, 8, 41]), (12, .aload_n 0, 1, []), (13, .getfield 33, 3, [1, 0, 44]), (16, .arraylength, 1, []), (17, .if_icmp .lt 5, 3, [22]), (20, .iconst (-1), 1, []), (21, .ireturn, 1, []), (22, .aload_n 0, 1, []), (23, .getfield 15, 3, [1, 6, 39]), (26, .iconst 1, 1, []), (27, .if_icmp .eq 8, 3, [35]), (30, .aload_n 0, 1, []), (31, .iload_n 1, 1, []), (32, .invokevirtual 107, 3, [0, 53, 2, 1, 66]), (35, .aload_n 0, 1, []), (36, .getfield 21, 3, [1, 8, 41]), (39, .istore 4, 2, []), (41, .aload_n 0, 1, []), (42, .dup, 1, []), (43, .getfield 21, 3, [1, 8, 41]), (46, .iconst 1, 1, []), (47, .iadd, 1, []), (48, .putfield 21, 3, [1, 8, 41]), (51, .aload_n 0, 1, []), (52, .getfield 33, 3, [1, 0, 44]), (55, .iload 4, 2, []), (57, .aload_n 0, 1, []), (58, .getfield 33, 3, [1, 0, 44]), (61, .iload_n 1, 1, []), (62, .laload, 1, []), (63, .iload_n 2, 1, []), (64, .iload_n 3, 1, []), (65, .invokestatic 118, 3, [0, 22, 3, 1, 69]), (68, .lastore, 1, []), (69, .aload_n 0, 1, []), (70, .getfield 44, 3, [1, 3, 47]), (73, .iload 4, 2, []), (75, .iload_n 1, 1, []), (76, .iastore, 1, []), (77, .aload_n 0, 1, []), (78, .getfield 47, 3, [1, 4, 48]), (81, .iload 4, 2, []), (83, .iload_n 2, 1, []), (84, .iastore, 1, []), (85, .aload_n 0, 1, []), (86, .getfield 15, 3, [1, 6, 39]), (89, .iconst 1, 1, []), (90, .if_icmp .ne 8, 3, [98]), (93, .iload 4, 2, []), (95, .goto 4, 3, [99]), (98, .iload_n 1, 1, []), (99, .istore 5, 2, []), (101, .aload_n 0, 1, []), (102, .getfield 15, 3, [1, 6, 39]), (105, .iconst 1, 1, []), (106, .if_icmp .ne 7, 3, [113]), (109, .iload_n 1, 1, []), (110, .goto 5, 3, [115]), (113, .iload 4, 2, []), (115, .istore 6, 2, []), (117, .aload_n 0, 1, []), (118, .getfield 37, 3, [1, 1, 45]), (121, .iload 4, 2, []), (123, .iconst (-1), 1, []), (124, .iastore, 1, []), (125, .aload_n 0, 1, []), (126, .getfield 41, 3, [1, 2, 46]), (129, .iload 4, 2, []), (131, .iconst (-1), 1, []), (132, .iastore, 1, []), (133, .aload_n 0, 1, []), (134, .getfield 37, 3, [1, 1, 45]), (137, .iload 5, 2, []), (139, .iload 6, 2, []), (141, .iastore, 1, []), (142, .aload_n 0, 1, []), (143, .getfield 41, 3, [1, 2, 46]), (146, .iload 5, 2, []), (148, .iload_n 2, 1, []), (149, .iastore, 1, []), (150, .aload_n 0, 1, []), (151, .dup, 1, []), (152, .getfield 24, 3, [1, 9, 42]), (155, .iconst 1, 1, []), (156, .iadd, 1, []), (157, .putfield 24, 3, [1, 9, 42]), (160, .iload 4, 2, []), (162, .ireturn, 1, [])])
def ym_Sh_snapRow : mz_Y := (⟨"RerootStore$Shelf", "snapRow", "(I)I"⟩, prog_3_method_43_code, 3, (some .int), 1, false, [(0, .aload_n 0, 1, []), (1, .iload_n 1, 1, []), (2, .invokevirtual 63, 3, [0, 19, 2, 1, 53]), (5, .ifCond .eq 11, 3, [16]), (8, .aload_n 0, 1, []), (9, .iload_n 1, 1, []), (10, .invokevirtual 85, 3, [0, 37, 2, 1, 59]), (13, .ifCond .eq 5, 3, [18]), (16, .iconst 0, 1, []), (17, .ireturn, 1, []), (18, .aload_n 0, 1, []), (19, .getfield 24, 3, [1, 9, 42]), (22, .istore_n 2, 1, []), (23, .aload_n 0, 1, []), (24, .iload_n 1, 1, []), (25, .aload_n 0, 1, []), (26, .iload_n 1, 1, []), (27, .invokevirtual 88, 3, [0, 39, 2, 1, 60]), (30, .invokevirtual 111, 3, [0, 54, 3, 1, 67]), (33, .aload_n 0, 1, []), (34, .getfield 24, 3, [1, 9, 42]), (37, .iload_n 2, 1, []), (38, .isub, 1, []), (39, .ireturn, 1, [])])
def ym_Sh_findRoot : mz_Y := (⟨"RerootStore$Shelf", "findRoot", "(II)I"⟩, prog_3_method_44_code, 6, (some .int), 1, false, [(0, .iload_n 2, 1, []), (1, .istore_n 3, 1, []), (2, .iconst 0, 1, []), (3, .istore 4, 2, []), (5, .iload 4, 2, []), (7, .aload_n 0, 1, []), (8, .getfield 9, 3, [1, 5, 38]), (11, .if_icmp .ge 28, 3, [39]), (14, .aload_n 0, 1, []), (15, .iload_n 1, 1, []), (16, .iload_n 3, 1, []), (17, .invokevirtual 122, 3, [0, 52, 3, 1, 70]), (20, .istore 5, 2, []), (22, .iload 5, 2, []), (24, .iload_n 3, 1, []), (25, .if_icmp .ne 5, 3, [30]), (28, .iload_n 3, 1, []), (29, .ireturn, 1, []), (30, .iload 5, 2, []), (32, .istore_n 3, 1, []), (33, .iinc 4 1, 3, []), (36, .goto (-31), 3, [5]), (39, .iload_n 3, 1, []), (40, .ireturn, 1, [])])
def ym_Sh_joinRoots : mz_Y := (⟨"RerootStore$Shelf", "joinRoots", "(III)I"⟩, prog_3_method_45_code, 4, (some .int), 1, false, [(0, .aload_n 0, 1, []), (1, .iload_n 1, 1, []), (2, .iload_n 2, 1, []), (3, .iload_n 3, 1, []), (4, .invokestatic 27, 3, [3, 292, 2, 0, 43]), (7, .iload_n 2, 1, []), (8, .iload_n 3, 1, []), (9, .invokestatic 50, 3, [4, 293, 2, 0, 49]), (12, .invokevirtual 125, 3, [0, 56, 4, 1, 71]), (15, .ireturn, 1, [])])
def ym_Sh_inConflict : mz_Y := (⟨"RerootStore$Shelf", "inConflict", "(III)Z"⟩, prog_3_method_46_code, 4, (some .boolean), 1, false, [(0, .iload_n 2, 1, []), (1, .iload_n 1, 1, []), (2, .if_icmp .eq 17, 3, [19]), (5, .iload_n 3, 1, []), (6, .iload_n 1, 1, []), (7, .if_icmp .eq 12, 3, [19]), (10, .iload_n 3, 1, []), (11, .iload_n 2, 1, []), (12, .if_icmp .eq 7, 3, [19]), (15, .iconst 1, 1, []), (16, .goto 4, 3, [20]), (19, .iconst 0, 1, []), (20, .ireturn, 1, [])])
def ym_Sh_mergedRow : mz_Y := (⟨"RerootStore$Shelf", "mergedRow", "(II)J"⟩, prog_3_method_47_code, 14, (some .long), 1, false, [(0, .aload_n 0, 1, []), (1, .aload_n 0, 1, []), (2, .iload_n 1, 1, []), (3, .iload_n 2, 1, []), (4, .invokevirtual 129, 3, [0, 30, 3, 1, 72]), (7, .invokevirtual 71, 3, [0, 23, 2, 1, 55]), (10, .lstore_n 3, 1, []), (11, .aload_n 0, 1, []), (12, .iload_n 1, 1, []), (13, .invokevirtual 71, 3, [0, 23, 2, 1, 55]), (16, .lstore 5, 2, []), (18, .aload_n 0, 1, []), (19, .iload_n 2, 1, []), (20, .invokevirtual 71, 3, [0, 23, 2, 1, 55]), (23, .lstore 7, 2, []), (25, .lload 5, 2, []), (27, .lstore 9, 2, []), (29, .iconst 0, 1, []), (30, .istore 11, 2, []), (32, .iload 11, 2, []), (34, .aload_n 0, 1, []), (35, .getfield 9, 3, [1, 5, 38]), (38, .if_icmp .ge 85, 3, [123]), (41, .lload 5, 2, []), (43, .iload 11, 2, []), (45, .invokestatic 67, 3, [0, 21, 2, 1, 54]), (48, .istore 12, 2, []), (50, .lload 7, 2, []), (52, .iload 11, 2, []), (54, .invokestatic 67, 3, [0, 21, 2, 1, 54]), (57, .istore 13, 2, []), (59, .iload 12, 2, []), (61, .lload_n 3, 1, []), (62, .iload 11, 2, []), (64, .invokestatic 67, 3, [0, 21, 2, 1, 54]), (67, .if_icmp .ne 17, 3, [84]), (70, .lload 9, 2, []), (72, .iload 11, 2, []), (74, .iload 13, 2, []), (76, .invokestatic 118, 3, [0, 22, 3, 1, 69]), (79, .lstore 9, 2, []), (81, .goto 36, 3, [117]), (84, .aload_n 0, 1, []), (85, .lload_n 3, 1, []), (86, .iload 11, 2, []), (88, .invokestatic 67, 3, [0, 21, 2, 1, 54]), (91, .iload 12, 2, []), (93, .iload 13, 2, []), (95, .invokevirtual 132, 3, [0, 60, 4, 1, 73]), (98, .ifCond .eq 19, 3, [117]), (101, .lload 9, 2, []), (103, .iload 11, 2, []), (105, .iload 12, 2, []), (107, .iload 13, 2, []), (109, .invokestatic 50, 3, [4, 293, 2, 0, 49]), (112, .invokestatic 118, 3, [0, 22, 3, 1, 69]), (115, .lstore 9, 2, []), (117, .iinc 11 1, 3, []), (120, .goto (-88), 3, [32]), (123, .lload 9, 2, []), (125, .lreturn, 1, [])])
def ym_Sh_conflicts : mz_Y := (⟨"RerootStore$Shelf", "conflicts", "(II)I"⟩, prog_3_method_48_code, 7, (some .int), 1, false, [(0, .aload_n 0, 1, []), (1, .aload_n 0, 1, []), (2, .iload_n 1, 1, []), (3, .iload_n 2, 1, []), (4, .invokevirtual 129, 3, [0, 30, 3, 1, 72]), (7, .invokevirtual 71, 3, [0, 23, 2, 1, 55]), (10, .lstore_n 3, 1, []), (11, .iconst 0, 1, []), (12, .istore 5, 2, []), (14, .iconst 0, 1, []), (15, .istore 6, 2, []), (17, .iload 6, 2, []), (19, .aload_n 0, 1, []), (20, .getfield 9, 3, [1, 5, 38]), (23, .if_icmp .ge 39, 3, [62]), (26, .aload_n 0, 1, []), (27, .lload_n 3, 1, []), (28, .iload 6, 2, []), (30, .invokestatic 67, 3, [0, 21, 2, 1, 54]), (33, .aload_n 0, 1, []), (34, .iload_n 1, 1, []), (35, .iload 6, 2, []), (37, .invokevirtual 75, 3, [0, 24, 3, 1, 56]), (40, .aload_n 0, 1, []), (41, .iload_n 2, 1, []), (42, .iload 6, 2, []), (44, .invokevirtual 75, 3, [0, 24, 3, 1, 56]), (47, .invokevirtual 132, 3, [0, 60, 4, 1, 73]), (50, .ifCond .eq 6, 3, [56]), (53, .iinc 5 1, 3, []), (56, .iinc 6 1, 3, []), (59, .goto (-42), 3, [17]), (62, .iload 5, 2, []), (64, .ireturn, 1, [])])
def ym_Sh_patchedRow : mz_Y := (⟨"RerootStore$Shelf", "patchedRow", "(III)J"⟩, prog_3_method_49_code, 8, (some .long), 1, false, [(0, .aload_n 0, 1, []), (1, .iload_n 3, 1, []), (2, .invokevirtual 71, 3, [0, 23, 2, 1, 55]), (5, .lstore 4, 2, []), (7, .iconst 0, 1, []), (8, .istore 6, 2, []), (10, .iload 6, 2, []), (12, .aload_n 0, 1, []), (13, .getfield 9, 3, [1, 5, 38]), (16, .if_icmp .ge 41, 3, [57]), (19, .aload_n 0, 1, []), (20, .iload_n 2, 1, []), (21, .iload 6, 2, []), (23, .invokevirtual 75, 3, [0, 24, 3, 1, 56]), (26, .istore 7, 2, []), (28, .aload_n 0, 1, []), (29, .iload_n 1, 1, []), (30, .iload 6, 2, []), (32, .invokevirtual 75, 3, [0, 24, 3, 1, 56]), (35, .iload 7, 2, []), (37, .if_icmp .eq 14, 3, [51]), (40, .lload 4, 2, []), (42, .iload 6, 2, []), (44, .iload 7, 2, []), (46, .invokestatic 118, 3, [0, 22, 3, 1, 69]), (49, .lstore 4, 2, []), (51, .iinc 6 1, 3, []), (54, .goto (-44), 3, [10]), (57, .lload 4, 2, []), (59, .lreturn, 1, [])])
def ym_Sh_layOn : mz_Y := (⟨"RerootStore$Shelf", "layOn", "(IJ)I"⟩, prog_3_method_50_code, 8, (some .int), 1, false, [(0, .aload_n 0, 1, []), (1, .iload_n 1, 1, []), (2, .invokevirtual 71, 3, [0, 23, 2, 1, 55]), (5, .lstore 4, 2, []), (7, .iload_n 1, 1, []), (8, .istore 6, 2, []), (10, .iconst 0, 1, []), (11, .istore 7, 2, []), (13, .iload 7, 2, []), (15, .aload_n 0, 1, []), (16, .getfield 9, 3, [1, 5, 38]), (19, .if_icmp .ge 41, 3, [60]), (22, .lload 4, 2, []), (24, .iload 7, 2, []), (26, .invokestatic 67, 3, [0, 21, 2, 1, 54]), (29, .lload_n 2, 1, []), (30, .iload 7, 2, []), (32, .invokestatic 67, 3, [0, 21, 2, 1, 54]), (35, .if_icmp .eq 19, 3, [54]), (38, .aload_n 0, 1, []), (39, .iload 6, 2, []), (41, .iload 7, 2, []), (43, .lload_n 2, 1, []), (44, .iload 7, 2, []), (46, .invokestatic 67, 3, [0, 21, 2, 1, 54]), (49, .invokevirtual 125, 3, [0, 56, 4, 1, 71]), (52, .istore 6, 2, []), (54, .iinc 7 1, 3, []), (57, .goto (-44), 3, [13]), (60, .iload 6, 2, []), (62, .ireturn, 1, [])])
def ym_Sh_carryOut : mz_Y := (⟨"RerootStore$Shelf", "carryOut", "(IIII)I"⟩, prog_3_method_51_code, 5, (some .int), 1, false, [(0, .iload_n 1, 1, []), (1, .tableswitch 118 1 7 #[43, 50, 59, 78, 85, 91, 103], 43, [119, 44, 51, 60, 79, 86, 92, 104]), (44, .aload_n 0, 1, []), (45, .iload_n 2, 1, []), (46, .iload_n 3, 1, []), (47, .invokevirtual 122, 3, [0, 52, 3, 1, 70]), (50, .ireturn, 1, []), (51, .aload_n 0, 1, []), (52, .iload_n 2, 1, []), (53, .iload_n 3, 1, []), (54, .iload 4, 2, []), (56, .invokevirtual 125, 3, [0, 56, 4, 1, 71]), (59, .ireturn, 1, []), (60, .aload_n 0, 1, []), (61, .iload_n 2, 1, []), (62, .aload_n 0, 1, []), (63, .iload_n 2, 1, []), (64, .iload_n 3, 1, []), (65, .invokevirtual 136, 3, [0, 58, 3, 1, 74]), (68, .aload_n 0, 1, []), (69, .iload_n 2, 1, []), (70, .iload 4, 2, []), (72, .invokevirtual 136, 3, [0, 58, 3, 1, 74]), (75, .invokevirtual 139, 3, [0, 59, 4, 1, 75]), (78, .ireturn, 1, []), (79, .aload_n 0, 1, []), (80, .iload_n 2, 1, []), (81, .iload_n 3, 1, []), (82, .invokevirtual 136, 3, [0, 58, 3, 1, 74]), (85, .ireturn, 1, []), (86, .aload_n 0, 1, []), (87, .iload_n 2, 1, []), (88, .invokevirtual 142, 3, [0, 57, 2, 1, 76]), (91, .ireturn, 1, []), (92, .aload_n 0, 1, []), (93, .iload_n 2, 1, []), (94, .aload_n 0, 1, []), (95, .iload_n 2, 1, []), (96, .iload_n 3, 1, []), (97, .invokevirtual 145, 3, [0, 61, 3, 1, 77]), (100, .invokevirtual 149, 3, [0, 64, 3, 1, 78]), (103, .ireturn, 1, []), (104, .aload_n 0, 1, []), (105, .iload 4, 2, []), (107, .aload_n 0, 1, []), (108, .iload_n 2, 1, []), (109, .iload_n 3, 1, []), (110, .iload 4, 2, []), (112, .invokevirtual 153, 3, [0, 63, 4, 1, 79]), (115, .invokevirtual 149, 3, [0, 64, 3, 1, 78]), (118, .ireturn, 1, []), (119, .iconst (-1), 1, []), (120, .ireturn, 1, [])])
def ym_St_init : mz_Y := (⟨"RerootStore$Story", "<init>", "()V"⟩, prog_4_method_1_code, 1, none, 2, true, [(0, .aload_n 0, 1, []), (1, .invokespecial 3, 3, [1, 0, 1, 0, 80]), (4, .aload_n 0, 1, []), (5, .new 9, 3, [1, 81]), (8, .dup, 1, []), (9, .bipush 40, 2, []), (11, .invokespecial 11, 3, [5, 15, 2, 1, 82]), (14, .putfield 14, 3, [2, 0, 83]), (17, .aload_n 0, 1, []), (18, .bipush 12, 2, []), (20, .newarray .int, 2, []), (22, .putfield 20, 3, [2, 1, 84]), (25, .aload_n 0, 1, []), (26, .bipush 60, 2, []), (28, .newarray .int, 2, []), (30, .putfield 24, 3, [2, 2, 85]), (33, .aload_n 0, 1, []), (34, .bipush 60, 2, []), (36, .newarray .int, 2, []), (38, .putfield 27, 3, [2, 3, 86]), (41, .aload_n 0, 1, []), (42, .bipush 60, 2, []), (44, .newarray .int, 2, []), (46, .putfield 30, 3, [2, 4, 87]), (49, .aload_n 0, 1, []), (50, .bipush 60, 2, []), (52, .newarray .int, 2, []), (54, .putfield 33, 3, [2, 5, 88]), (57, .aload_n 0, 1, []), (58, .bipush 60, 2, []), (60, .newarray .int, 2, []), (62, .putfield 36, 3, [2, 6, 89]), (65, .aload_n 0, 1, []), (66, .iconst 0, 1, []), (67, .putfield 39, 3, [2, 7, 90]), (70, .aload_n 0, 1, []), (71, .iconst 0, 1, []), (72, .putfield 43, 3, [2, 8, 91]), (75, .aload_n 0, 1, []), (76, .iconst 0, 1, []), (77, .putfield 46, 3, [2, 9, 92]), (80, .aload_n 0, 1, []), (81, .iconst 0, 1, []), (82, .putfield 49, 3, [2, 10, 93]), (85, .return_, 1, [])])
def ym_St_forget : mz_Y := (⟨"RerootStore$Story", "forget", "()V"⟩, prog_4_method_2_code, 2, none, 2, false, [(0, .aload_n 0, 1, []), (1, .getfield 14, 3, [2, 0, 83]), (4, .invokevirtual 52, 3, [0, 16, 1, 1, 94]), (7, .iconst 0, 1, []), (8, .istore_n 1, 1, []), (9, .iload_n 1, 1, []), (10, .aload_n 0, 1, []), (11, .getfield 20, 3, [2, 1, 84]), (14, .arraylength, 1, []), (15, .if_icmp .ge 16, 3, [31]), (18, .aload_n 0, 1, []), (19, .getfield 20, 3, [2, 1, 84]), (22, .iload_n 1, 1, []), (23, .iconst 0, 1, []), (24, .iastore, 1, []), (25, .iinc 1 1, 3, []), (28, .goto (-19), 3, [9]), (31, .aload_n 0, 1, []), (32, .iconst 0, 1, []), (33, .putfield 39, 3, [2, 7, 90]), (36, .aload_n 0, 1, []), (37, .iconst 0, 1, []), (38, .putfield 43, 3, [2, 8, 91]), (41, .aload_n 0, 1, []), (42, .iconst 0, 1, []), (43, .putfield 46, 3, [2, 9, 92]), (46, .aload_n 0, 1, []), (47, .iconst 0, 1, []), (48, .putfield 49, 3, [2, 10, 93]), (51, .return_, 1, [])])
def ym_St_become : mz_Y := (⟨"RerootStore$Story", "become", "(LRerootStore$Story;)V"⟩, prog_4_method_3_code, 2, none, 2, false, [(0, .aload_n 0, 1, []), (1, .getfield 14, 3, [2, 0, 83]), (4, .aload_n 1, 1, []), (5, .getfield 14, 3, [2, 0, 83]), (8, .invokevirtual 55, 3, [0, 18, 2, 1, 95]), (11, .aload_n 1, 1, []), (12, .getfield 20, 3, [2, 1, 84]), (15, .iconst 0, 1, []), (16, .aload_n 0, 1, []), (17, .getfield 20, 3, [2, 1, 84]), (20, .iconst 0, 1, []), (21, .aload_n 0, 1, []), (22, .getfield 20, 3, [2, 1, 84]), (25, .arraylength, 1, []), (26, .invokestatic 59, 3, [2, 0, 5, 0, 96]), (29, .aload_n 1, 1, []), (30, .getfield 24, 3, [2, 2, 85]), (33, .iconst 0, 1, []), (34, .aload_n 0, 1, []), (35, .getfield 24, 3, [2, 2, 85]), (38, .iconst 0, 1, []), (39, .aload_n 0, 1, []), (40, .getfield 24, 3, [2, 2, 85]), (43, .arraylength, 1, []), (44, .invokestatic 59, 3, [2, 0, 5, 0, 96]), (47, .aload_n 1, 1, []), (48, .getfield 27, 3, [2, 3, 86]), (51, .iconst 0, 1, []), (52, .aload_n 0, 1, []), (53, .getfield 27, 3, [2, 3, 86]), (56, .iconst 0, 1, []), (57, .aload_n 0, 1, []), (58, .getfield 27, 3, [2, 3, 86]), (61, .arraylength, 1, []), (62, .invokestatic 59, 3, [2, 0, 5, 0, 96]), (65, .aload_n 1, 1, []), (66, .getfield 30, 3, [2, 4, 87]), (69, .iconst 0, 1, []), (70, .aload_n 0, 1, []), (71, .getfield 30, 3, [2, 4, 87]), (74, .iconst 0, 1, []), (75, .aload_n 0, 1, []), (76, .getfield 30, 3, [2, 4, 87]), (79, .arraylength, 1, []), (80, .invokestatic 59, 3, [2, 0, 5, 0, 96]), (83, .aload_n 1, 1, []), (84, .getfield 33, 3, [2, 5, 88]), (87, .iconst 0, 1, []), (88, .aload_n 0, 1, []), (89, .getfield 33, 3, [2, 5, 88]), (92, .iconst 0, 1, []), (93, .aload_n 0, 1, []), (94, .getfield 33, 3, [2, 5, 88]), (97, .arraylength, 1, []), (98, .invokestatic 59, 3, [2, 0, 5, 0, 96]), (101, .aload_n 1, 1, []), (102, .getfield 36, 3, [2, 6, 89]), (105, .iconst 0, 1, []), (106, .aload_n 0, 1, []), (107, .getfield 36, 3, [2, 6, 89]), (110, .iconst 0, 1, []), (111, .aload_n 0, 1, []), (112, .getfield 36, 3, [2, 6, 89]), (115, .arraylength, 1, []), (116, .invokestatic 59, 3, [2, 0, 5, 0, 96]), (119, .aload_n 0, 1, []), (120, .aload_n 1, 1, []), (121, .getfield 39, 3, [2, 7, 90]), (124, .putfield 39, 3, [2, 7, 90]), (127, .aload_n 0, 1, []), (128, .aload_n 1, 1, []), (129, .getfield 43, 3, [2, 8, 91]), (132, .putfield 43, 3, [2, 8, 91]), (135, .aload_n 0, 1, []), (136, .aload_n 1, 1, []), (137, .getfield 46, 3, [2, 9, 92]), (140, .putfield 46, 3, [2, 9, 92]), (143, .aload_n 0, 1, []), (144, .aload_n 1, 1, []), (145, .getfield 49, 3, [2, 10, 93]), (148, .putfield 49, 3, [2, 10, 93]), (151, .return_, 1, [])])
def ym_St_acts : mz_Y := (⟨"RerootStore$Story", "acts", "()I"⟩, prog_4_method_4_code, 1, (some .int), 2, false, [(0, .aload_n 0, 1, []), (1, .getfield 49, 3, [2, 10, 93]), (4, .aload_n 0, 1, []), (5, .getfield 46, 3, [2, 9, 92]), (8, .isub, 1, []), (9, .ireturn, 1, [])])
def ym_St_hasDeed : mz_Y := (⟨"RerootStore$Story", "hasDeed", "(I)Z"⟩, prog_4_method_5_code, 2, (some .boolean), 2, false, [(0, .iload_n 1, 1, []), (1, .ifCond .lt 15, 3, [16]), (4, .iload_n 1, 1, []), (5, .aload_n 0, 1, []), (6, .getfield 49, 3, [2, 10, 93]), (9, .if_icmp .ge 7, 3, [16]), (12, .iconst 1, 1, []), (13, .goto 4, 3, [17]), (16, .iconst 0, 1, []), (17, .ireturn, 1, [])])
def ym_St_makesNone : mz_Y := (⟨"RerootStore$Story", "makesNone", "(I)Z"⟩, prog_4_method_6_code, 2, (some .boolean), 2, false, [(0, .aload_n 0, 1, []), (1, .iload_n 1, 1, []), (2, .invokevirtual 65, 3, [0, 70, 2, 2, 97]), (5, .ifCond .ne 5, 3, [10]), (8, .iconst 0, 1, []), (9, .ireturn, 1, []), (10, .aload_n 0, 1, []), (11, .getfield 24, 3, [2, 2, 85]), (14, .iload_n 1, 1, []), (15, .iaload, 1, []), (16, .iconst 1, 1, []), (17, .if_icmp .eq 23, 3, [40]), (20, .aload_n 0, 1, []), (21, .getfield 24, 3, [2, 2, 85]), (24, .iload_n 1, 1, []), (25, .iaload, 1, []), (26, .iconst 4, 1, []), (27, .if_icmp .eq 13, 3, [40]), (30, .aload_n 0, 1, []), (31, .getfield 24, 3, [2, 2, 85]), (34, .iload_n 1, 1, []), (35, .iaload, 1, []), (36, .iconst 5, 1, []), (37, .if_icmp .ne 7, 3, [44]), (40, .iconst 1, 1, []), (41, .goto 4, 3, [45]), (44, .iconst 0, 1, []), (45, .ireturn, 1, [])])
def ym_St_partnersOf : mz_Y := (⟨"RerootStore$Story", "partnersOf", "(I)I"⟩, prog_4_method_7_code, 2, (some .int), 2, false, [(0, .iload_n 1, 1, []), (1, .ifCond .lt 21, 3, [22]), (4, .iload_n 1, 1, []), (5, .aload_n 0, 1, []), (6, .getfield 20, 3, [2, 1, 84]), (9, .arraylength, 1, []), (10, .if_icmp .ge 12, 3, [22]), (13, .aload_n 0, 1, []), (14, .getfield 20, 3, [2, 1, 84]), (17, .iload_n 1, 1, []), (18, .iaload, 1, []), (19, .goto 4, 3, [23]), (22, .iconst 0, 1, []), (23, .ireturn, 1, [])])
def ym_St_arePaired : mz_Y := (⟨"RerootStore$Story", "arePaired", "(II)Z"⟩, prog_4_method_8_code, 3, (some .boolean), 2, false, [(0, .aload_n 0, 1, []), (1, .iload_n 1, 1, []), (2, .invokevirtual 69, 3, [0, 72, 2, 2, 98]), (5, .iload_n 2, 1, []), (6, .iushr, 1, []), (7, .iconst 1, 1, []), (8, .iand, 1, []), (9, .ifCond .eq 7, 3, [16]), (12, .iconst 1, 1, []), (13, .goto 4, 3, [17]), (16, .iconst 0, 1, []), (17, .ireturn, 1, [])])
def ym_St_pairUp : mz_Y := (⟨"RerootStore$Story", "pairUp", "(II)V"⟩, prog_4_method_9_code, 3, none, 2, false, [(0, .aload_n 0, 1, []), (1, .getfield 14, 3, [2, 0, 83]), (4, .iload_n 1, 1, []), (5, .invokevirtual 73, 3, [0, 20, 2, 1, 99]), (8, .ifCond .eq 48, 3, [56]), (11, .aload_n 0, 1, []), (12, .getfield 14, 3, [2, 0, 83]), (15, .iload_n 2, 1, []), (16, .invokevirtual 73, 3, [0, 20, 2, 1, 99]), (19, .ifCond .eq 37, 3, [56]), (22, .aload_n 0, 1, []), (23, .getfield 20, 3, [2, 1, 84]), (26, .iload_n 1, 1, []), (27, .dup2, 1, []), (28, .iaload, 1, []), (29, .iconst 1, 1, []), (30, .iload_n 2, 1, []), (31, .ishl, 1, []), (32, .ior, 1, []), (33, .iastore, 1, []), (34, .aload_n 0, 1, []), (35, .getfield 20, 3, [2, 1, 84]), (38, .iload_n 2, 1, []), (39, .dup2, 1, []), (40, .iaload, 1, []), (41, .iconst 1, 1, []), (42, .iload_n 1, 1, []), (43, .ishl, 1, []), (44, .ior, 1, []), (45, .iastore, 1, []), (46, .aload_n 0, 1, []), (47, .dup, 1, []), (48, .getfield 39, 3, [2, 7, 90]), (51, .iconst 1, 1, []), (52, .iadd, 1, []), (53, .putfield 39, 3, [2, 7, 90]), (56, .return_, 1, [])])
def ym_St_ownNumbers : mz_Y := (⟨"RerootStore$Story", "ownNumbers", "(I)J"⟩, prog_4_method_10_code, 5, (some .long), 2, false, [(0, .lconst 0, 1, []), (1, .lstore_n 2, 1, []), (2, .iconst 0, 1, []), (3, .istore 4, 2, []), (5, .iload 4, 2, []), (7, .iload_n 1, 1, []), (8, .if_icmp .ge 18, 3, [26]), (11, .lload_n 2, 1, []), (12, .iload 4, 2, []), (14, .iload 4, 2, []), (16, .invokestatic 76, 3, [0, 22, 3, 1, 100]), (19, .lstore_n 2, 1, []), (20, .iinc 4 1, 3, []), (23, .goto (-18), 3, [5]), (26, .lload_n 2, 1, []), (27, .lreturn, 1, [])])
def ym_St_tell : mz_Y := (⟨"RerootStore$Story", "tell", "(IIII)V"⟩, prog_4_method_11_code, 5, none, 2, false, [(0, .aload_n 0, 1, []), (1, .dup, 1, []), (2, .getfield 43, 3, [2, 8, 91]), (5, .iconst 1, 1, []), (6, .iadd, 1, []), (7, .putfield 43, 3, [2, 8, 91]), (10, .iload_n 1, 1, []), (11, .bipush 8, 2, []), (13, .if_icmp .ne 22, 3, [35]), (16, .aload_n 0, 1, []), (17, .getfield 14, 3, [2, 0, 83]), (20, .iload_n 2, 1, []), (21, .iload_n 3, 1, []), (22, .iload 4, 2, []), (24, .aload_n 0, 1, []), (25, .iload_n 2, 1, []), (26, .invokevirtual 80, 3, [0, 75, 2, 2, 101]), (29, .invokevirtual 84, 3, [0, 17, 5, 1, 102]), (32, .goto 36, 3, [68]), (35, .iload_n 1, 1, []), (36, .bipush 9, 2, []), (38, .if_icmp .ne 12, 3, [50]), (41, .aload_n 0, 1, []), (42, .iload_n 2, 1, []), (43, .iload_n 3, 1, []), (44, .invokevirtual 88, 3, [0, 74, 3, 2, 103]), (47, .goto 21, 3, [68]), (50, .aload_n 0, 1, []), (51, .iload_n 1, 1, []), (52, .iload_n 2, 1, []), (53, .iload_n 3, 1, []), (54, .iload 4, 2, []), (56, .invokevirtual 92, 3, [0, 77, 5, 2, 104]), (59, .pop, 1, []), (60, .aload_n 0, 1, []), (61, .aload_n 0, 1, []), (62, .getfield 49, 3, [2, 10, 93]), (65, .putfield 46, 3, [2, 9, 92]), (68, .return_, 1, [])])
def ym_St_perform : mz_Y := (⟨"RerootStore$Story", "perform", "(IIII)I"⟩, prog_4_method_12_code, 7, (some .int), 2, false, [(0, .aload_n 0, 1, []), (1, .getfield 49, 3, [2, 10, 93]), (4, .aload_n 0, 1, []), (5, .getfield 24, 3, [2, 2, 85]), (8, .arraylength, 1, []), (9, .if_icmp .lt 5, 3, [14]), (12, .iconst (-1), 1, []), (13, .ireturn, 1, []), (14, .aload_n 0, 1, []), (15, .getfield 24, 3, [2, 2, 85]), (18, .aload_n 0, 1, []), (19, .getfield 49, 3, [2, 10, 93]), (22, .iload_n 1, 1, []), (23, .iastore, 1, []), (24, .aload_n 0, 1, []), (25, .getfield 27, 3, [2, 3, 86]), (28, .aload_n 0, 1, []), (29, .getfield 49, 3, [2, 10, 93]), (32, .iload_n 2, 1, []), (33, .iastore, 1, []), (34, .aload_n 0, 1, []), (35, .getfield 30, 3, [2, 4, 87]), (38, .aload_n 0, 1, []), (39, .getfield 49, 3, [2, 10, 93]), (42, .iload_n 3, 1, []), (43, .iastore, 1, []), (44, .aload_n 0, 1, []), (45, .getfield 33, 3, [2, 5, 88]), (48, .aload_n 0, 1, []), (49, .getfield 49, 3, [2, 10, 93]), (52, .iload 4, 2, []), (54, .iastore, 1, []), (55, .aload_n 0, 1, []), (56, .getfield 14, 3, [2, 0, 83]), (59, .getfield 96, 3, [1, 9, 105]), (62, .istore 5, 2, []), (64, .aload_n 0, 1, []), (65, .getfield 14, 3, [2, 0, 83]), (68, .iload_n 1, 1, []), (69, .iload_n 2, 1, []), (70, .iload_n 3, 1, []), (71, .iload 4, 2, []), (73, .invokevirtual 99, 3, [0, 65, 5, 1, 106]), (76, .istore 6, 2, []), (78, .aload_n 0, 1, []), (79, .getfield 36, 3, [2, 6, 89]), (82, .aload_n 0, 1, []), (83, .getfield 49, 3, [2, 10, 93]), (86, .aload_n 0, 1, []), (87, .getfield 14, 3, [2, 0, 83]), (90, .getfield 96, 3, [1, 9, 105]), (93, .iload 5, 2, []), (95, .isub, 1, []), (96, .iastore, 1, []), (97, .aload_n 0, 1, []), (98, .dup, 1, []), (99, .getfield 49, 3, [2, 10, 93]), (102, .iconst 1, 1, []), (103, .iadd, 1, []), (104, .putfield 49, 3, [2, 10, 93]), (107, .iload 6, 2, []), (109, .ireturn, 1, [])])
def ym_St_goBackTo : mz_Y := (⟨"RerootStore$Story", "goBackTo", "(I)V"⟩, prog_4_method_13_code, 2, none, 2, false, [(0, .aload_n 0, 1, []), (1, .iload_n 1, 1, []), (2, .aload_n 0, 1, []), (3, .getfield 49, 3, [2, 10, 93]), (6, .invokestatic 102, 3, [4, 293, 2, 0, 107]), (9, .putfield 49, 3, [2, 10, 93]), (12, .aload_n 0, 1, []), (13, .aload_n 0, 1, []), (14, .getfield 14, 3, [2, 0, 83]), (17, .aload_n 0, 1, []), (18, .getfield 14, 3, [2, 0, 83]), (21, .getfield 108, 3, [1, 6, 108]), (24, .aload_n 0, 1, []), (25, .getfield 14, 3, [2, 0, 83]), (28, .getfield 111, 3, [1, 7, 109]), (31, .iconst (-1), 1, []), (32, .invokevirtual 114, 3, [0, 79, 5, 2, 110]), (35, .pop, 1, []), (36, .return_, 1, [])])
def ym_St_stepsOn : mz_Y := (⟨"RerootStore$Story", "stepsOn", "(LRerootStore$Shelf;III)I"⟩, prog_4_method_14_code, 6, (some .int), 2, false, [(0, .aload_n 1, 1, []), (1, .aload_n 0, 1, []), (2, .getfield 14, 3, [2, 0, 83]), (5, .getfield 118, 3, [1, 5, 111]), (8, .iload_n 2, 1, []), (9, .iload_n 3, 1, []), (10, .aload_n 0, 1, []), (11, .aload_n 0, 1, []), (12, .getfield 14, 3, [2, 0, 83]), (15, .getfield 118, 3, [1, 5, 111]), (18, .invokevirtual 80, 3, [0, 75, 2, 2, 101]), (21, .invokevirtual 84, 3, [0, 17, 5, 1, 102]), (24, .iconst 0, 1, []), (25, .istore 5, 2, []), (27, .iload 5, 2, []), (29, .aload_n 0, 1, []), (30, .getfield 49, 3, [2, 10, 93]), (33, .if_icmp .ge 59, 3, [92]), (36, .iload 5, 2, []), (38, .aload_n 0, 1, []), (39, .getfield 24, 3, [2, 2, 85]), (42, .arraylength, 1, []), (43, .if_icmp .ge 49, 3, [92]), (46, .iload 5, 2, []), (48, .iload 4, 2, []), (50, .if_icmp .eq 36, 3, [86]), (53, .aload_n 1, 1, []), (54, .aload_n 0, 1, []), (55, .getfield 24, 3, [2, 2, 85]), (58, .iload 5, 2, []), (60, .iaload, 1, []), (61, .aload_n 0, 1, []), (62, .getfield 27, 3, [2, 3, 86]), (65, .iload 5, 2, []), (67, .iaload, 1, []), (68, .aload_n 0, 1, []), (69, .getfield 30, 3, [2, 4, 87]), (72, .iload 5, 2, []), (74, .iaload, 1, []), (75, .aload_n 0, 1, []), (76, .getfield 33, 3, [2, 5, 88]), (79, .iload 5, 2, []), (81, .iaload, 1, []), (82, .invokevirtual 99, 3, [0, 65, 5, 1, 106]), (85, .pop, 1, []), (86, .iinc 5 1, 3, []), (89, .goto (-62), 3, [27]), (92, .aload_n 1, 1, []), (93, .getfield 96, 3, [1, 9, 105]), (96, .ireturn, 1, [])])
def ym_St_dearestDeed : mz_Y := (⟨"RerootStore$Story", "dearestDeed", "()I"⟩, prog_4_method_15_code, 4, (some .int), 2, false, [(0, .iconst (-1), 1, []), (1, .istore_n 1, 1, []), (2, .iconst 0, 1, []), (3, .istore_n 2, 1, []), (4, .iconst 0, 1, []), (5, .istore_n 3, 1, []), (6, .iload_n 3, 1, []), (7, .aload_n 0, 1, []), (8, .getfield 49, 3, [2, 10, 93]), (11, .if_icmp .ge 28, 3, [39]), (14, .aload_n 0, 1, []), (15, .getfield 36, 3, [2, 6, 89]), (18, .iload_n 3, 1, []), (19, .iaload, 1, []), (20, .iload_n 2, 1, []), (21, .if_icmp .le 12, 3, [33]), (24, .aload_n 0, 1, []), (25, .getfield 36, 3, [2, 6, 89]), (28, .iload_n 3, 1, []), (29, .iaload, 1, []), (30, .istore_n 2, 1, []), (31, .iload_n 3, 1, []), (32, .istore_n 1, 1, []), (33, .iinc 3 1, 3, []), (36, .goto (-30), 3, [6]), (39, .iload_n 1, 1, []), (40, .ireturn, 1, [])])
def ym_Ta_init : mz_Y := (⟨"RerootStore$Tape", "<init>", "()V"⟩, prog_5_method_1_code, 1, none, 3, true, [(0, .aload_n 0, 1, []), (1, .invokespecial 3, 3, [1, 0, 1, 0, 112]), (4, .aload_n 0, 1, []), (5, .sipush 500, 3, []), (8, .newarray .byte, 2, []), (10, .putfield 9, 3, [3, 0, 113]), (13, .aload_n 0, 1, []), (14, .iconst 4, 1, []), (15, .putfield 15, 3, [3, 1, 114]), (18, .aload_n 0, 1, []), (19, .iconst 0, 1, []), (20, .putfield 19, 3, [3, 2, 115]), (23, .aload_n 0, 1, []), (24, .iconst 0, 1, []), (25, .putfield 22, 3, [3, 3, 116]), (28, .aload_n 0, 1, []), (29, .iconst 0, 1, []), (30, .putfield 25, 3, [3, 4, 117]), (33, .aload_n 0, 1, []), (34, .iconst 0, 1, []), (35, .putfield 28, 3, [3, 5, 118]), (38, .aload_n 0, 1, []), (39, .iconst 0, 1, []), (40, .putfield 31, 3, [3, 6, 119]), (43, .aload_n 0, 1, []), (44, .iconst 0, 1, []), (45, .putfield 34, 3, [3, 7, 120]), (48, .aload_n 0, 1, []), (49, .iconst 0, 1, []), (50, .putfield 37, 3, [3, 8, 121]), (53, .aload_n 0, 1, []), (54, .iconst 0, 1, []), (55, .putfield 40, 3, [3, 9, 122]), (58, .aload_n 0, 1, []), (59, .iconst 0, 1, []), (60, .putfield 43, 3, [3, 10, 123]), (63, .aload_n 0, 1, []), (64, .iconst (-1), 1, []), (65, .putfield 46, 3, [3, 11, 124]), (68, .return_, 1, [])])
def ym_Ta_put : mz_Y := (⟨"RerootStore$Tape", "put", "(I)V"⟩, prog_5_method_2_code, 3, none, 3, false, [(0, .bipush 24, 2, []), (2, .istore_n 2, 1, []), (3, .iload_n 2, 1, []), (4, .ifCond .lt 44, 3, [48]), (7, .aload_n 0, 1, []), (8, .getfield 28, 3, [3, 5, 118]), (11, .aload_n 0, 1, []), (12, .getfield 9, 3, [3, 0, 113]), (15, .arraylength, 1, []), (16, .if_icmp .ge 32, 3, [48]), (19, .aload_n 0, 1, []), (20, .getfield 9, 3, [3, 0, 113]), (23, .aload_n 0, 1, []), (24, .getfield 28, 3, [3, 5, 118]), (27, .iload_n 1, 1, []), (28, .iload_n 2, 1, []), (29, .iushr, 1, []), (30, .i2b, 1, []), (31, .bastore, 1, []), (32, .aload_n 0, 1, []), (33, .dup, 1, []), (34, .getfield 28, 3, [3, 5, 118]), (37, .iconst 1, 1, []), (38, .iadd, 1, []), (39, .putfield 28, 3, [3, 5, 118]), (42, .iinc 2 (-8), 3, []), (45, .goto (-42), 3, [3]), (48, .return_, 1, [])])
def ym_Ta_begin : mz_Y := (⟨"RerootStore$Tape", "begin", "()V"⟩, prog_5_method_3_code, 1, none, 3, false, [(0, .aload_n 0, 1, []), (1, .iconst 0, 1, []), (2, .putfield 22, 3, [3, 3, 116]), (5, .aload_n 0, 1, []), (6, .iconst 0, 1, []), (7, .putfield 43, 3, [3, 10, 123]), (10, .aload_n 0, 1, []), (11, .iconst (-1), 1, []), (12, .putfield 46, 3, [3, 11, 124]), (15, .aload_n 0, 1, []), (16, .invokevirtual 49, 3, [0, 88, 1, 3, 125]), (19, .return_, 1, [])])
def ym_Ta_byteAt : mz_Y := (⟨"RerootStore$Tape", "byteAt", "(I)I"⟩, prog_5_method_4_code, 2, (some .int), 3, false, [(0, .iload_n 1, 1, []), (1, .ifCond .lt 33, 3, [34]), (4, .iload_n 1, 1, []), (5, .aload_n 0, 1, []), (6, .getfield 28, 3, [3, 5, 118]), (9, .if_icmp .ge 25, 3, [34]), (12, .iload_n 1, 1, []), (13, .aload_n 0, 1, []), (14, .getfield 9, 3, [3, 0, 113]), (17, .arraylength, 1, []), (18, .if_icmp .ge 16, 3, [34]), (21, .aload_n 0, 1, []), (22, .getfield 9, 3, [3, 0, 113]), (25, .iload_n 1, 1, []), (26, .baload, 1, []), (27, .sipush 255, 3, []), (30, .iand, 1, []), (31, .goto 4, 3, [35]), (34, .iconst (-1), 1, []), (35, .ireturn, 1, [])])
def ym_Ta_isBlank : mz_Y := (⟨"RerootStore$Tape", "isBlank", "(I)Z"⟩, prog_5_method_5_code, 1, (some .boolean), 3, false, [(0, .iload_n 0, 1, []), (1, .bipush 32, 2, []), (3, .if_icmp .eq 9, 3, [12]), (6, .iload_n 0, 1, []), (7, .bipush 10, 2, []), (9, .if_icmp .ne 7, 3, [16]), (12, .iconst 1, 1, []), (13, .goto 4, 3, [17]), (16, .iconst 0, 1, []), (17, .ireturn, 1, [])])
def ym_Ta_isLetter : mz_Y := (⟨"RerootStore$Tape", "isLetter", "(I)Z"⟩, prog_5_method_6_code, 1, (some .boolean), 3, false, [(0, .iload_n 0, 1, []), (1, .bipush 97, 2, []), (3, .if_icmp .lt 13, 3, [16]), (6, .iload_n 0, 1, []), (7, .bipush 122, 2, []), (9, .if_icmp .gt 7, 3, [16]), (12, .iconst 1, 1, []), (13, .goto 4, 3, [17]), (16, .iconst 0, 1, []), (17, .ireturn, 1, [])])
def ym_Ta_isDigit : mz_Y := (⟨"RerootStore$Tape", "isDigit", "(I)Z"⟩, prog_5_method_7_code, 1, (some .boolean), 3, false, [(0, .iload_n 0, 1, []), (1, .bipush 48, 2, []), (3, .if_icmp .lt 13, 3, [16]), (6, .iload_n 0, 1, []), (7, .bipush 57, 2, []), (9, .if_icmp .gt 7, 3, [16]), (12, .iconst 1, 1, []), (13, .goto 4, 3, [17]), (16, .iconst 0, 1, []), (17, .ireturn, 1, [])])
def ym_Ta_takeToken : mz_Y := (⟨"RerootStore$Tape", "takeToken", "()V"⟩, prog_5_method_8_code, 2, none, 3, false, [(0, .aload_n 0, 1, []), (1, .getfield 22, 3, [3, 3, 116]), (4, .aload_n 0, 1, []), (5, .getfield 28, 3, [3, 5, 118]), (8, .if_icmp .ge 30, 3, [38]), (11, .aload_n 0, 1, []), (12, .aload_n 0, 1, []), (13, .getfield 22, 3, [3, 3, 116]), (16, .invokevirtual 52, 3, [0, 84, 2, 3, 126]), (19, .invokestatic 56, 3, [0, 85, 1, 3, 127]), (22, .ifCond .eq 16, 3, [38]), (25, .aload_n 0, 1, []), (26, .dup, 1, []), (27, .getfield 22, 3, [3, 3, 116]), (30, .iconst 1, 1, []), (31, .iadd, 1, []), (32, .putfield 22, 3, [3, 3, 116]), (35, .goto (-35), 3, [0]), (38, .aload_n 0, 1, []), (39, .aload_n 0, 1, []), (40, .getfield 22, 3, [3, 3, 116]), (43, .putfield 19, 3, [3, 2, 115]), (46, .aload_n 0, 1, []), (47, .aload_n 0, 1, []), (48, .getfield 19, 3, [3, 2, 115]), (51, .invokevirtual 52, 3, [0, 84, 2, 3, 126]), (54, .istore_n 1, 1, []), (55, .iload_n 1, 1, []), (56, .iconst (-1), 1, []), (57, .if_icmp .ne 11, 3, [68]), (60, .aload_n 0, 1, []), (61, .iconst 4, 1, []), (62, .putfield 15, 3, [3, 1, 114]), (65, .goto 66, 3, [131]), (68, .iload_n 1, 1, []), (69, .invokestatic 60, 3, [0, 86, 1, 3, 128]), (72, .ifCond .eq 15, 3, [87]), (75, .aload_n 0, 1, []), (76, .iconst 1, 1, []), (77, .putfield 15, 3, [3, 1, 114]), (80, .aload_n 0, 1, []), (81, .invokevirtual 63, 3, [0, 89, 1, 3, 129]), (84, .goto 47, 3, [131]), (87, .iload_n 1, 1, []), (88, .invokestatic 66, 3, [0, 87, 1, 3, 130]), (91, .ifCond .eq 15, 3, [106]), (94, .aload_n 0, 1, []), (95, .iconst 2, 1, []), (96, .putfield 15, 3, [3, 1, 114]), (99, .aload_n 0, 1, []), (100, .invokevirtual 69, 3, [0, 90, 1, 3, 131]), (103, .goto 28, 3, [131]), (106, .aload_n 0, 1, []), (107, .iload_n 1, 1, []), (108, .bipush 59, 2, []), (110, .if_icmp .ne 7, 3, [117]), (113, .iconst 3, 1, []), (114, .goto 4, 3, [118]), (117, .iconst 0, 1, []), (118, .putfield 15, 3, [3, 1, 114]), (121, .aload_n 0, 1, []), (122, .dup, 1, []), (123, .getfield 22, 3, [3, 3, 116]), (126, .iconst 1, 1, []), (127, .iadd, 1, []), (128, .putfield 22, 3, [3, 3, 116]), (131, .return_, 1, [])])
def ym_Ta_takeLetters : mz_Y := (⟨"RerootStore$Tape", "takeLetters", "()V"⟩, prog_5_method_9_code, 1, none, 3, false, [(0, .aload_n 0, 1, []), (1, .getfield 22, 3, [3, 3, 116]), (4, .aload_n 0, 1, []), (5, .getfield 28, 3, [3, 5, 118]), (8, .if_icmp .ge 30, 3, [38]), (11, .aload_n 0, 1, []), (12, .aload_n 0, 1, []), (13, .getfield 22, 3, [3, 3, 116]), (16, .invokevirtual 52, 3, [0, 84, 2, 3, 126]), (19, .invokestatic 60, 3, [0, 86, 1, 3, 128]), (22, .ifCond .eq 16, 3, [38]), (25, .aload_n 0, 1, []), (26, .dup, 1, []), (27, .getfield 22, 3, [3, 3, 116]), (30, .iconst 1, 1, []), (31, .iadd, 1, []), (32, .putfield 22, 3, [3, 3, 116]), (35, .goto (-35), 3, [0]), (38, .return_, 1, [])])
def ym_Ta_takeDigits : mz_Y := (⟨"RerootStore$Tape", "takeDigits", "()V"⟩, prog_5_method_10_code, 1, none, 3, false, [(0, .aload_n 0, 1, []), (1, .iconst 0, 1, []), (2, .putfield 25, 3, [3, 4, 117]), (5, .aload_n 0, 1, []), (6, .getfield 22, 3, [3, 3, 116]), (9, .aload_n 0, 1, []), (10, .getfield 28, 3, [3, 5, 118]), (13, .if_icmp .ge 59, 3, [72]), (16, .aload_n 0, 1, []), (17, .aload_n 0, 1, []), (18, .getfield 22, 3, [3, 3, 116]), (21, .invokevirtual 52, 3, [0, 84, 2, 3, 126]), (24, .invokestatic 66, 3, [0, 87, 1, 3, 130]), (27, .ifCond .eq 45, 3, [72]), (30, .aload_n 0, 1, []), (31, .aload_n 0, 1, []), (32, .getfield 25, 3, [3, 4, 117]), (35, .bipush 10, 2, []), (37, .imul, 1, []), (38, .aload_n 0, 1, []), (39, .aload_n 0, 1, []), (40, .getfield 22, 3, [3, 3, 116]), (43, .invokevirtual 52, 3, [0, 84, 2, 3, 126]), (46, .iadd, 1, []), (47, .bipush 48, 2, []), (49, .isub, 1, []), (50, .sipush 1000, 3, []), (53, .invokestatic 72, 3, [4, 293, 2, 0, 132]), (56, .putfield 25, 3, [3, 4, 117]), (59, .aload_n 0, 1, []), (60, .dup, 1, []), (61, .getfield 22, 3, [3, 3, 116]), (64, .iconst 1, 1, []), (65, .iadd, 1, []), (66, .putfield 22, 3, [3, 3, 116]), (69, .goto (-64), 3, [5]), (72, .return_, 1, [])])
def ym_Ta_isWord : mz_Y := (⟨"RerootStore$Tape", "isWord", "(Ljava/lang/String;)Z"⟩, prog_5_method_11_code, 3, (some .boolean), 3, false, [(0, .aload_n 0, 1, []), (1, .getfield 15, 3, [3, 1, 114]), (4, .iconst 1, 1, []), (5, .if_icmp .ne 19, 3, [24]), (8, .aload_n 0, 1, []), (9, .getfield 22, 3, [3, 3, 116]), (12, .aload_n 0, 1, []), (13, .getfield 19, 3, [3, 2, 115]), (16, .isub, 1, []), (17, .aload_n 1, 1, []), (18, .invokevirtual 78, 3, [6, 400, 1, 0, 133]), (21, .if_icmp .eq 5, 3, [26]), (24, .iconst 0, 1, []), (25, .ireturn, 1, []), (26, .iconst 0, 1, []), (27, .istore_n 2, 1, []), (28, .iload_n 2, 1, []), (29, .aload_n 1, 1, []), (30, .invokevirtual 78, 3, [6, 400, 1, 0, 133]), (33, .if_icmp .ge 29, 3, [62]), (36, .aload_n 0, 1, []), (37, .aload_n 0, 1, []), (38, .getfield 19, 3, [3, 2, 115]), (41, .iload_n 2, 1, []), (42, .iadd, 1, []), (43, .invokevirtual 52, 3, [0, 84, 2, 3, 126]), (46, .aload_n 1, 1, []), (47, .iload_n 2, 1, []), (48, .invokevirtual 84, 3, [6, 401, 2, 0, 134]), (51, .if_icmp .eq 5, 3, [56]), (54, .iconst 0, 1, []), (55, .ireturn, 1, []), (56, .iinc 2 1, 3, []), (59, .goto (-31), 3, [28]), (62, .iconst 1, 1, []), (63, .ireturn, 1, [])])
def ym_Ta_refuse : mz_Y := (⟨"RerootStore$Tape", "refuse", "(II)V"⟩, prog_5_method_12_code, 3, none, 3, false, [(0, .aload_n 0, 1, []), (1, .getfield 43, 3, [3, 10, 123]), (4, .ifCond .ne 13, 3, [17]), (7, .aload_n 0, 1, []), (8, .iload_n 1, 1, []), (9, .putfield 43, 3, [3, 10, 123]), (12, .aload_n 0, 1, []), (13, .iload_n 2, 1, []), (14, .putfield 46, 3, [3, 11, 124]), (17, .return_, 1, [])])
def ym_Ta_takeNumber : mz_Y := (⟨"RerootStore$Tape", "takeNumber", "(II)I"⟩, prog_5_method_13_code, 4, (some .int), 3, false, [(0, .aload_n 0, 1, []), (1, .getfield 43, 3, [3, 10, 123]), (4, .ifCond .eq 5, 3, [9]), (7, .iconst (-1), 1, []), (8, .ireturn, 1, []), (9, .aload_n 0, 1, []), (10, .getfield 15, 3, [3, 1, 114]), (13, .iconst 2, 1, []), (14, .if_icmp .eq 14, 3, [28]), (17, .aload_n 0, 1, []), (18, .iconst 1, 1, []), (19, .aload_n 0, 1, []), (20, .getfield 19, 3, [3, 2, 115]), (23, .invokevirtual 88, 3, [0, 92, 3, 3, 135]), (26, .iconst (-1), 1, []), (27, .ireturn, 1, []), (28, .aload_n 0, 1, []), (29, .getfield 25, 3, [3, 4, 117]), (32, .iload_n 1, 1, []), (33, .if_icmp .lt 11, 3, [44]), (36, .aload_n 0, 1, []), (37, .getfield 25, 3, [3, 4, 117]), (40, .iload_n 2, 1, []), (41, .if_icmp .le 14, 3, [55]), (44, .aload_n 0, 1, []), (45, .iconst 2, 1, []), (46, .aload_n 0, 1, []), (47, .getfield 19, 3, [3, 2, 115]), (50, .invokevirtual 88, 3, [0, 92, 3, 3, 135]), (53, .iconst (-1), 1, []), (54, .ireturn, 1, []), (55, .aload_n 0, 1, []), (56, .getfield 25, 3, [3, 4, 117]), (59, .istore_n 3, 1, []), (60, .aload_n 0, 1, []), (61, .invokevirtual 49, 3, [0, 88, 1, 3, 125]), (64, .iload_n 3, 1, []), (65, .ireturn, 1, [])])
def ym_Ta_takeWord : mz_Y := (⟨"RerootStore$Tape", "takeWord", "(Ljava/lang/String;)V"⟩, prog_5_method_14_code, 2, none, 3, false, [(0, .aload_n 0, 1, []), (1, .getfield 43, 3, [3, 10, 123]), (4, .ifCond .ne 20, 3, [24]), (7, .aload_n 0, 1, []), (8, .aload_n 1, 1, []), (9, .invokevirtual 92, 3, [0, 91, 2, 3, 136]), (12, .ifCond .ne 12, 3, [24]), (15, .aload_n 0, 1, []), (16, .iconst 1, 1, []), (17, .aload_n 0, 1, []), (18, .getfield 19, 3, [3, 2, 115]), (21, .invokevirtual 88, 3, [0, 92, 3, 3, 135]), (24, .aload_n 0, 1, []), (25, .getfield 43, 3, [3, 10, 123]), (28, .ifCond .ne 7, 3, [35]), (31, .aload_n 0, 1, []), (32, .invokevirtual 49, 3, [0, 88, 1, 3, 125]), (35, .return_, 1, [])])
def ym_Ta_takeSign : mz_Y := (⟨"RerootStore$Tape", "takeSign", "()V"⟩, prog_5_method_15_code, 1, none, 3, false, [(0, .aload_n 0, 1, []), (1, .getfield 43, 3, [3, 10, 123]), (4, .ifCond .ne 20, 3, [24]), (7, .aload_n 0, 1, []), (8, .getfield 15, 3, [3, 1, 114]), (11, .iconst 3, 1, []), (12, .if_icmp .eq 12, 3, [24]), (15, .aload_n 0, 1, []), (16, .iconst 1, 1, []), (17, .aload_n 0, 1, []), (18, .getfield 19, 3, [3, 2, 115]), (21, .invokevirtual 88, 3, [0, 92, 3, 3, 135]), (24, .aload_n 0, 1, []), (25, .getfield 43, 3, [3, 10, 123]), (28, .ifCond .ne 7, 3, [35]), (31, .aload_n 0, 1, []), (32, .invokevirtual 49, 3, [0, 88, 1, 3, 125]), (35, .return_, 1, [])])
def ym_Ta_takesLine : mz_Y := (⟨"RerootStore$Tape", "takesLine", "(LRerootStore$Story;)Z"⟩, prog_5_method_16_code, 3, (some .boolean), 3, false, [(0, .aload_n 0, 1, []), (1, .getfield 43, 3, [3, 10, 123]), (4, .ifCond .ne 11, 3, [15]), (7, .aload_n 0, 1, []), (8, .getfield 15, 3, [3, 1, 114]), (11, .iconst 4, 1, []), (12, .if_icmp .ne 5, 3, [17]), (15, .iconst 0, 1, []), (16, .ireturn, 1, []), (17, .aload_n 0, 1, []), (18, .iconst 0, 1, []), (19, .putfield 34, 3, [3, 7, 120]), (22, .aload_n 0, 1, []), (23, .iconst 0, 1, []), (24, .putfield 37, 3, [3, 8, 121]), (27, .aload_n 0, 1, []), (28, .iconst 0, 1, []), (29, .putfield 40, 3, [3, 9, 122]), (32, .aload_n 0, 1, []), (33, .aload_n 0, 1, []), (34, .invokevirtual 96, 3, [0, 97, 1, 3, 137]), (37, .putfield 31, 3, [3, 6, 119]), (40, .aload_n 1, 1, []), (41, .getfield 99, 3, [2, 8, 138]), (44, .ifCond .ne 7, 3, [51]), (47, .iconst 1, 1, []), (48, .goto 4, 3, [52]), (51, .iconst 0, 1, []), (52, .istore_n 2, 1, []), (53, .aload_n 0, 1, []), (54, .getfield 31, 3, [3, 6, 119]), (57, .ifCond .eq 21, 3, [78]), (60, .iload_n 2, 1, []), (61, .aload_n 0, 1, []), (62, .getfield 31, 3, [3, 6, 119]), (65, .bipush 8, 2, []), (67, .if_icmp .ne 7, 3, [74]), (70, .iconst 1, 1, []), (71, .goto 4, 3, [75]), (74, .iconst 0, 1, []), (75, .if_icmp .eq 15, 3, [90]), (78, .aload_n 0, 1, []), (79, .iconst 1, 1, []), (80, .aload_n 0, 1, []), (81, .getfield 19, 3, [3, 2, 115]), (84, .invokevirtual 88, 3, [0, 92, 3, 3, 135]), (87, .goto 36, 3, [123]), (90, .aload_n 0, 1, []), (91, .aload_n 1, 1, []), (92, .invokevirtual 104, 3, [0, 98, 2, 3, 139]), (95, .ifCond .eq 15, 3, [110]), (98, .aload_n 0, 1, []), (99, .iconst 3, 1, []), (100, .aload_n 0, 1, []), (101, .getfield 19, 3, [3, 2, 115]), (104, .invokevirtual 88, 3, [0, 92, 3, 3, 135]), (107, .goto 16, 3, [123]), (110, .aload_n 0, 1, []), (111, .invokevirtual 49, 3, [0, 88, 1, 3, 125]), (114, .aload_n 0, 1, []), (115, .aload_n 1, 1, []), (116, .invokevirtual 108, 3, [0, 99, 2, 3, 140]), (119, .aload_n 0, 1, []), (120, .invokevirtual 112, 3, [0, 95, 1, 3, 141]), (123, .aload_n 0, 1, []), (124, .getfield 43, 3, [3, 10, 123]), (127, .ifCond .ne 7, 3, [134]), (130, .iconst 1, 1, []), (131, .goto 4, 3, [135]), (134, .iconst 0, 1, []), (135, .ireturn, 1, [])])
def ym_Ta_wordKind : mz_Y := (⟨"RerootStore$Tape", "wordKind", "()I"⟩, prog_5_method_17_code, 1, (some .int), 3, false, [(0, .aload_n 0, 1, []), (1, .ldc 115, 2, [1, 142, 0]), (3, .invokevirtual 92, 3, [0, 91, 2, 3, 136]), (6, .ifCond .eq 6, 3, [12]), (9, .bipush 8, 2, []), (11, .ireturn, 1, []), (12, .aload_n 0, 1, []), (13, .ldc 117, 2, [1, 143, 1]), (15, .invokevirtual 92, 3, [0, 91, 2, 3, 136]), (18, .ifCond .eq 6, 3, [24]), (21, .bipush 9, 2, []), (23, .ireturn, 1, []), (24, .aload_n 0, 1, []), (25, .ldc 119, 2, [1, 144, 2]), (27, .invokevirtual 92, 3, [0, 91, 2, 3, 136]), (30, .ifCond .eq 5, 3, [35]), (33, .iconst 2, 1, []), (34, .ireturn, 1, []), (35, .aload_n 0, 1, []), (36, .ldc 121, 2, [1, 145, 3]), (38, .invokevirtual 92, 3, [0, 91, 2, 3, 136]), (41, .ifCond .eq 5, 3, [46]), (44, .iconst 3, 1, []), (45, .ireturn, 1, []), (46, .aload_n 0, 1, []), (47, .ldc 123, 2, [1, 146, 4]), (49, .invokevirtual 92, 3, [0, 91, 2, 3, 136]), (52, .ifCond .eq 5, 3, [57]), (55, .iconst 1, 1, []), (56, .ireturn, 1, []), (57, .aload_n 0, 1, []), (58, .ldc 125, 2, [1, 147, 5]), (60, .invokevirtual 92, 3, [0, 91, 2, 3, 136]), (63, .ifCond .eq 5, 3, [68]), (66, .iconst 4, 1, []), (67, .ireturn, 1, []), (68, .aload_n 0, 1, []), (69, .ldc 127, 2, [1, 148, 6]), (71, .invokevirtual 92, 3, [0, 91, 2, 3, 136]), (74, .ifCond .eq 7, 3, [81]), (77, .iconst 5, 1, []), (78, .goto 4, 3, [82]), (81, .iconst 0, 1, []), (82, .ireturn, 1, [])])
def ym_Ta_isOneTooMany : mz_Y := (⟨"RerootStore$Tape", "isOneTooMany", "(LRerootStore$Story;)Z"⟩, prog_5_method_18_code, 3, (some .boolean), 3, false, [(0, .aload_n 0, 1, []), (1, .getfield 31, 3, [3, 6, 119]), (4, .bipush 8, 2, []), (6, .if_icmp .ne 5, 3, [11]), (9, .iconst 0, 1, []), (10, .ireturn, 1, []), (11, .aload_n 0, 1, []), (12, .getfield 31, 3, [3, 6, 119]), (15, .bipush 9, 2, []), (17, .if_icmp .ne 18, 3, [35]), (20, .aload_n 1, 1, []), (21, .getfield 129, 3, [2, 7, 149]), (24, .bipush 16, 2, []), (26, .if_icmp .lt 7, 3, [33]), (29, .iconst 1, 1, []), (30, .goto 4, 3, [34]), (33, .iconst 0, 1, []), (34, .ireturn, 1, []), (35, .aload_n 0, 1, []), (36, .getfield 31, 3, [3, 6, 119]), (39, .iconst 2, 1, []), (40, .if_icmp .eq 11, 3, [51]), (43, .aload_n 0, 1, []), (44, .getfield 31, 3, [3, 6, 119]), (47, .iconst 3, 1, []), (48, .if_icmp .ne 7, 3, [55]), (51, .iconst 1, 1, []), (52, .goto 4, 3, [56]), (55, .iconst 0, 1, []), (56, .istore_n 2, 1, []), (57, .aload_n 1, 1, []), (58, .getfield 132, 3, [2, 10, 150]), (61, .bipush 30, 2, []), (63, .if_icmp .ge 19, 3, [82]), (66, .iload_n 2, 1, []), (67, .ifCond .eq 19, 3, [86]), (70, .aload_n 1, 1, []), (71, .getfield 135, 3, [2, 0, 151]), (74, .getfield 139, 3, [1, 8, 152]), (77, .bipush 20, 2, []), (79, .if_icmp .lt 7, 3, [86]), (82, .iconst 1, 1, []), (83, .goto 4, 3, [87]), (86, .iconst 0, 1, []), (87, .ireturn, 1, [])])
def ym_Ta_takeNumbers : mz_Y := (⟨"RerootStore$Tape", "takeNumbers", "(LRerootStore$Story;)V"⟩, prog_5_method_19_code, 2, none, 3, false, [(0, .aload_n 0, 1, []), (1, .getfield 31, 3, [3, 6, 119]), (4, .bipush 8, 2, []), (6, .if_icmp .ne 10, 3, [16]), (9, .aload_n 0, 1, []), (10, .invokevirtual 144, 3, [0, 100, 1, 3, 153]), (13, .goto 28, 3, [41]), (16, .aload_n 0, 1, []), (17, .getfield 31, 3, [3, 6, 119]), (20, .bipush 9, 2, []), (22, .if_icmp .ne 11, 3, [33]), (25, .aload_n 0, 1, []), (26, .aload_n 1, 1, []), (27, .invokevirtual 147, 3, [0, 101, 2, 3, 154]), (30, .goto 11, 3, [41]), (33, .aload_n 0, 1, []), (34, .aload_n 1, 1, []), (35, .getfield 135, 3, [2, 0, 151]), (38, .invokevirtual 150, 3, [0, 102, 2, 3, 155]), (41, .return_, 1, [])])
def ym_Ta_takeStore : mz_Y := (⟨"RerootStore$Tape", "takeStore", "()V"⟩, prog_5_method_20_code, 1, none, 3, false, [(0, .aload_n 0, 1, []), (1, .ldc 154, 2, [1, 156, 7]), (3, .invokevirtual 156, 3, [0, 94, 2, 3, 157]), (6, .aload_n 0, 1, []), (7, .aload_n 0, 1, []), (8, .iconst 1, 1, []), (9, .bipush 12, 2, []), (11, .invokevirtual 160, 3, [0, 93, 3, 3, 158]), (14, .putfield 34, 3, [3, 7, 120]), (17, .aload_n 0, 1, []), (18, .ldc 163, 2, [1, 159, 8]), (20, .invokevirtual 156, 3, [0, 94, 2, 3, 157]), (23, .aload_n 0, 1, []), (24, .aload_n 0, 1, []), (25, .iconst 0, 1, []), (26, .iconst 2, 1, []), (27, .invokevirtual 160, 3, [0, 93, 3, 3, 158]), (30, .putfield 37, 3, [3, 8, 121]), (33, .aload_n 0, 1, []), (34, .ldc 165, 2, [1, 160, 9]), (36, .invokevirtual 156, 3, [0, 94, 2, 3, 157]), (39, .aload_n 0, 1, []), (40, .aload_n 0, 1, []), (41, .iconst 0, 1, []), (42, .bipush 20, 2, []), (44, .invokevirtual 160, 3, [0, 93, 3, 3, 158]), (47, .putfield 40, 3, [3, 9, 122]), (50, .return_, 1, [])])
def ym_Ta_takePair : mz_Y := (⟨"RerootStore$Tape", "takePair", "(LRerootStore$Story;)V"⟩, prog_5_method_21_code, 3, none, 3, false, [(0, .aload_n 0, 1, []), (1, .aload_n 0, 1, []), (2, .iconst 0, 1, []), (3, .aload_n 1, 1, []), (4, .getfield 135, 3, [2, 0, 151]), (7, .getfield 167, 3, [1, 5, 161]), (10, .iconst 1, 1, []), (11, .isub, 1, []), (12, .invokevirtual 160, 3, [0, 93, 3, 3, 158]), (15, .putfield 34, 3, [3, 7, 120]), (18, .aload_n 0, 1, []), (19, .getfield 19, 3, [3, 2, 115]), (22, .istore_n 2, 1, []), (23, .aload_n 0, 1, []), (24, .aload_n 0, 1, []), (25, .iconst 0, 1, []), (26, .aload_n 1, 1, []), (27, .getfield 135, 3, [2, 0, 151]), (30, .getfield 167, 3, [1, 5, 161]), (33, .iconst 1, 1, []), (34, .isub, 1, []), (35, .invokevirtual 160, 3, [0, 93, 3, 3, 158]), (38, .putfield 37, 3, [3, 8, 121]), (41, .aload_n 0, 1, []), (42, .getfield 43, 3, [3, 10, 123]), (45, .ifCond .ne 35, 3, [80]), (48, .aload_n 0, 1, []), (49, .getfield 34, 3, [3, 7, 120]), (52, .aload_n 0, 1, []), (53, .getfield 37, 3, [3, 8, 121]), (56, .if_icmp .eq 18, 3, [74]), (59, .aload_n 1, 1, []), (60, .aload_n 0, 1, []), (61, .getfield 34, 3, [3, 7, 120]), (64, .aload_n 0, 1, []), (65, .getfield 37, 3, [3, 8, 121]), (68, .invokevirtual 169, 3, [0, 73, 3, 2, 162]), (71, .ifCond .eq 9, 3, [80]), (74, .aload_n 0, 1, []), (75, .iconst 2, 1, []), (76, .iload_n 2, 1, []), (77, .invokevirtual 88, 3, [0, 92, 3, 3, 135]), (80, .return_, 1, [])])
def ym_Ta_takeDeed : mz_Y := (⟨"RerootStore$Tape", "takeDeed", "(LRerootStore$Shelf;)V"⟩, prog_5_method_22_code, 3, none, 3, false, [(0, .aload_n 0, 1, []), (1, .getfield 19, 3, [3, 2, 115]), (4, .istore_n 2, 1, []), (5, .aload_n 0, 1, []), (6, .aload_n 0, 1, []), (7, .iconst 0, 1, []), (8, .aload_n 1, 1, []), (9, .getfield 139, 3, [1, 8, 152]), (12, .iconst 1, 1, []), (13, .isub, 1, []), (14, .invokevirtual 160, 3, [0, 93, 3, 3, 158]), (17, .putfield 34, 3, [3, 7, 120]), (20, .aload_n 0, 1, []), (21, .getfield 31, 3, [3, 6, 119]), (24, .iconst 5, 1, []), (25, .if_icmp .ne 28, 3, [53]), (28, .aload_n 0, 1, []), (29, .getfield 43, 3, [3, 10, 123]), (32, .ifCond .ne 20, 3, [52]), (35, .aload_n 1, 1, []), (36, .aload_n 0, 1, []), (37, .getfield 34, 3, [3, 7, 120]), (40, .invokevirtual 173, 3, [0, 37, 2, 1, 163]), (43, .ifCond .eq 9, 3, [52]), (46, .aload_n 0, 1, []), (47, .iconst 2, 1, []), (48, .iload_n 2, 1, []), (49, .invokevirtual 88, 3, [0, 92, 3, 3, 135]), (52, .return_, 1, []), (53, .aload_n 0, 1, []), (54, .aload_n 0, 1, []), (55, .iconst 0, 1, []), (56, .aload_n 1, 1, []), (57, .getfield 167, 3, [1, 5, 161]), (60, .iconst 1, 1, []), (61, .isub, 1, []), (62, .invokevirtual 160, 3, [0, 93, 3, 3, 158]), (65, .putfield 37, 3, [3, 8, 121]), (68, .aload_n 0, 1, []), (69, .getfield 31, 3, [3, 6, 119]), (72, .iconst 2, 1, []), (73, .if_icmp .eq 11, 3, [84]), (76, .aload_n 0, 1, []), (77, .getfield 31, 3, [3, 6, 119]), (80, .iconst 3, 1, []), (81, .if_icmp .ne 63, 3, [144]), (84, .aload_n 0, 1, []), (85, .getfield 19, 3, [3, 2, 115]), (88, .istore_n 2, 1, []), (89, .aload_n 0, 1, []), (90, .aload_n 0, 1, []), (91, .iconst 0, 1, []), (92, .aload_n 1, 1, []), (93, .getfield 167, 3, [1, 5, 161]), (96, .iconst 1, 1, []), (97, .isub, 1, []), (98, .invokevirtual 160, 3, [0, 93, 3, 3, 158]), (101, .putfield 40, 3, [3, 9, 122]), (104, .aload_n 0, 1, []), (105, .getfield 43, 3, [3, 10, 123]), (108, .ifCond .ne 36, 3, [144]), (111, .aload_n 0, 1, []), (112, .getfield 31, 3, [3, 6, 119]), (115, .iconst 3, 1, []), (116, .if_icmp .ne 28, 3, [144]), (119, .aload_n 1, 1, []), (120, .aload_n 0, 1, []), (121, .getfield 34, 3, [3, 7, 120]), (124, .aload_n 0, 1, []), (125, .getfield 37, 3, [3, 8, 121]), (128, .aload_n 0, 1, []), (129, .getfield 40, 3, [3, 9, 122]), (132, .invokevirtual 176, 3, [0, 34, 4, 1, 164]), (135, .ifCond .eq 9, 3, [144]), (138, .aload_n 0, 1, []), (139, .iconst 2, 1, []), (140, .iload_n 2, 1, []), (141, .invokevirtual 88, 3, [0, 92, 3, 3, 135]), (144, .return_, 1, [])])
def ym_X_init : mz_Y := (⟨"RerootStore", "<init>", "()V"⟩, prog_1_method_1_code, 2, none, 4, true, [(0, .aload_n 0, 1, []), (1, .invokespecial 1, 3, [1, 0, 1, 0, 165]), (4, .aload_n 0, 1, []), (5, .new 7, 3, [3, 166]), (8, .dup, 1, []), (9, .invokespecial 9, 3, [7, 81, 1, 3, 167]), (12, .putfield 10, 3, [4, 0, 168]), (15, .aload_n 0, 1, []), (16, .iconst 3, 1, []), (17, .anewarray 16, 3, [169]), (20, .putfield 18, 3, [4, 1, 170]), (23, .aload_n 0, 1, []), (24, .new 22, 3, [1, 171]), (27, .dup, 1, []), (28, .bipush 40, 2, []), (30, .invokespecial 24, 3, [5, 15, 2, 1, 172]), (33, .putfield 27, 3, [4, 2, 173]), (36, .aload_n 0, 1, []), (37, .new 31, 3, [0, 174]), (40, .dup, 1, []), (41, .invokespecial 33, 3, [7, 0, 1, 0, 175]), (44, .putfield 34, 3, [4, 3, 176]), (47, .aload_n 0, 1, []), (48, .new 16, 3, [2, 169]), (51, .dup, 1, []), (52, .invokespecial 38, 3, [7, 66, 1, 2, 177]), (55, .putfield 39, 3, [4, 4, 178]), (58, .aload_n 0, 1, []), (59, .new 16, 3, [2, 169]), (62, .dup, 1, []), (63, .invokespecial 38, 3, [7, 66, 1, 2, 177]), (66, .putfield 43, 3, [4, 5, 179]), (69, .iconst 0, 1, []), (70, .istore_n 1, 1, []), (71, .iload_n 1, 1, []), (72, .aload_n 0, 1, []), (73, .getfield 18, 3, [4, 1, 170]), (76, .arraylength, 1, []), (77, .if_icmp .ge 22, 3, [99]), (80, .aload_n 0, 1, []), (81, .getfield 18, 3, [4, 1, 170]), (84, .iload_n 1, 1, []), (85, .new 16, 3, [2, 169]), (88, .dup, 1, []), (89, .invokespecial 38, 3, [7, 66, 1, 2, 177]), (92, .aastore, 1, []), (93, .iinc 1 1, 3, []), (96, .goto (-25), 3, [71]), (99, .return_, 1, [])])
def ym_X_feed : mz_Y := (⟨"RerootStore", "feed", "(IIIII)I"⟩, prog_1_method_2_code, 6, (some .int), 4, false, [(0, .aload_n 0, 1, []), (1, .getfield 10, 3, [4, 0, 168]), (4, .getfield 46, 3, [3, 5, 180]), (7, .bipush 20, 2, []), (9, .iadd, 1, []), (10, .sipush 500, 3, []), (13, .if_icmp .le 5, 3, [18]), (16, .iconst (-1), 1, []), (17, .ireturn, 1, []), (18, .aload_n 0, 1, []), (19, .getfield 10, 3, [4, 0, 168]), (22, .iload_n 1, 1, []), (23, .invokevirtual 50, 3, [0, 82, 2, 3, 181]), (26, .aload_n 0, 1, []), (27, .getfield 10, 3, [4, 0, 168]), (30, .iload_n 2, 1, []), (31, .invokevirtual 50, 3, [0, 82, 2, 3, 181]), (34, .aload_n 0, 1, []), (35, .getfield 10, 3, [4, 0, 168]), (38, .iload_n 3, 1, []), (39, .invokevirtual 50, 3, [0, 82, 2, 3, 181]), (42, .aload_n 0, 1, []), (43, .getfield 10, 3, [4, 0, 168]), (46, .iload 4, 2, []), (48, .invokevirtual 50, 3, [0, 82, 2, 3, 181]), (51, .aload_n 0, 1, []), (52, .getfield 10, 3, [4, 0, 168]), (55, .iload 5, 2, []), (57, .invokevirtual 50, 3, [0, 82, 2, 3, 181]), (60, .aload_n 0, 1, []), (61, .getfield 10, 3, [4, 0, 168]), (64, .getfield 46, 3, [3, 5, 180]), (67, .ireturn, 1, [])])
def ym_X_end : mz_Y := (⟨"RerootStore", "end", "(I)I"⟩, prog_1_method_3_code, 2, (some .int), 4, false, [(0, .iload_n 1, 1, []), (1, .ifCond .lt 14, 3, [15]), (4, .iload_n 1, 1, []), (5, .aload_n 0, 1, []), (6, .getfield 10, 3, [4, 0, 168]), (9, .getfield 46, 3, [3, 5, 180]), (12, .if_icmp .le 5, 3, [17]), (15, .iconst (-1), 1, []), (16, .ireturn, 1, []), (17, .aload_n 0, 1, []), (18, .getfield 10, 3, [4, 0, 168]), (21, .iload_n 1, 1, []), (22, .putfield 46, 3, [3, 5, 180]), (25, .iload_n 1, 1, []), (26, .ireturn, 1, [])])
def ym_X_store : mz_Y := (⟨"RerootStore", "store", "()I"⟩, prog_1_method_4_code, 2, (some .int), 4, false, [(0, .aload_n 0, 1, []), (1, .getfield 10, 3, [4, 0, 168]), (4, .invokevirtual 53, 3, [0, 83, 1, 3, 182]), (7, .aload_n 0, 1, []), (8, .getfield 43, 3, [4, 5, 179]), (11, .invokevirtual 56, 3, [0, 67, 1, 2, 183]), (14, .iconst 0, 1, []), (15, .istore_n 1, 1, []), (16, .iload_n 1, 1, []), (17, .sipush 500, 3, []), (20, .if_icmp .ge 58, 3, [78]), (23, .aload_n 0, 1, []), (24, .getfield 10, 3, [4, 0, 168]), (27, .aload_n 0, 1, []), (28, .getfield 43, 3, [4, 5, 179]), (31, .invokevirtual 59, 3, [0, 96, 2, 3, 184]), (34, .ifCond .eq 44, 3, [78]), (37, .aload_n 0, 1, []), (38, .getfield 43, 3, [4, 5, 179]), (41, .aload_n 0, 1, []), (42, .getfield 10, 3, [4, 0, 168]), (45, .getfield 63, 3, [3, 6, 185]), (48, .aload_n 0, 1, []), (49, .getfield 10, 3, [4, 0, 168]), (52, .getfield 66, 3, [3, 7, 186]), (55, .aload_n 0, 1, []), (56, .getfield 10, 3, [4, 0, 168]), (59, .getfield 69, 3, [3, 8, 187]), (62, .aload_n 0, 1, []), (63, .getfield 10, 3, [4, 0, 168]), (66, .getfield 72, 3, [3, 9, 188]), (69, .invokevirtual 75, 3, [0, 76, 5, 2, 189]), (72, .iinc 1 1, 3, []), (75, .goto (-59), 3, [16]), (78, .aload_n 0, 1, []), (79, .getfield 10, 3, [4, 0, 168]), (82, .iconst 0, 1, []), (83, .putfield 46, 3, [3, 5, 180]), (86, .aload_n 0, 1, []), (87, .getfield 10, 3, [4, 0, 168]), (90, .getfield 79, 3, [3, 10, 190]), (93, .ifCond .eq 6, 3, [99]), (96, .bipush (-4), 2, []), (98, .ireturn, 1, []), (99, .aload_n 0, 1, []), (100, .getfield 43, 3, [4, 5, 179]), (103, .astore_n 1, 1, []), (104, .aload_n 0, 1, []), (105, .aload_n 0, 1, []), (106, .getfield 39, 3, [4, 4, 178]), (109, .putfield 43, 3, [4, 5, 179]), (112, .aload_n 0, 1, []), (113, .aload_n 1, 1, []), (114, .putfield 39, 3, [4, 4, 178]), (117, .aload_n 0, 1, []), (118, .getfield 39, 3, [4, 4, 178]), (121, .getfield 82, 3, [2, 8, 191]), (124, .ireturn, 1, [])])
def ym_X_fault : mz_Y := (⟨"RerootStore", "fault", "(I)I"⟩, prog_1_method_5_code, 2, (some .int), 4, false, [(0, .iload_n 1, 1, []), (1, .ifCond .ne 11, 3, [12]), (4, .aload_n 0, 1, []), (5, .getfield 10, 3, [4, 0, 168]), (8, .getfield 79, 3, [3, 10, 190]), (11, .ireturn, 1, []), (12, .iload_n 1, 1, []), (13, .iconst 1, 1, []), (14, .if_icmp .ne 13, 3, [27]), (17, .aload_n 0, 1, []), (18, .getfield 10, 3, [4, 0, 168]), (21, .getfield 85, 3, [3, 11, 192]), (24, .goto 4, 3, [28]), (27, .iconst (-1), 1, []), (28, .ireturn, 1, [])])
def ym_X_count : mz_Y := (⟨"RerootStore", "count", "(I)I"⟩, prog_1_method_6_code, 2, (some .int), 4, false, [(0, .iload_n 1, 1, []), (1, .tableswitch 135 0 8 #[51, 62, 73, 84, 95, 103, 111, 119, 127], 51, [136, 52, 63, 74, 85, 96, 104, 112, 120, 128]), (52, .aload_n 0, 1, []), (53, .getfield 39, 3, [4, 4, 178]), (56, .getfield 88, 3, [2, 0, 193]), (59, .getfield 91, 3, [1, 5, 194]), (62, .ireturn, 1, []), (63, .aload_n 0, 1, []), (64, .getfield 39, 3, [4, 4, 178]), (67, .getfield 88, 3, [2, 0, 193]), (70, .getfield 94, 3, [1, 6, 195]), (73, .ireturn, 1, []), (74, .aload_n 0, 1, []), (75, .getfield 39, 3, [4, 4, 178]), (78, .getfield 88, 3, [2, 0, 193]), (81, .getfield 97, 3, [1, 7, 196]), (84, .ireturn, 1, []), (85, .aload_n 0, 1, []), (86, .getfield 39, 3, [4, 4, 178]), (89, .getfield 88, 3, [2, 0, 193]), (92, .getfield 100, 3, [1, 8, 197]), (95, .ireturn, 1, []), (96, .aload_n 0, 1, []), (97, .getfield 39, 3, [4, 4, 178]), (100, .getfield 103, 3, [2, 7, 198]), (103, .ireturn, 1, []), (104, .aload_n 0, 1, []), (105, .getfield 39, 3, [4, 4, 178]), (108, .getfield 106, 3, [2, 10, 199]), (111, .ireturn, 1, []), (112, .aload_n 0, 1, []), (113, .getfield 39, 3, [4, 4, 178]), (116, .invokevirtual 109, 3, [0, 69, 1, 2, 200]), (119, .ireturn, 1, []), (120, .aload_n 0, 1, []), (121, .getfield 39, 3, [4, 4, 178]), (124, .getfield 82, 3, [2, 8, 191]), (127, .ireturn, 1, []), (128, .aload_n 0, 1, []), (129, .getfield 10, 3, [4, 0, 168]), (132, .getfield 46, 3, [3, 5, 180]), (135, .ireturn, 1, []), (136, .iconst (-1), 1, []), (137, .ireturn, 1, [])])
def ym_X_isThere : mz_Y := (⟨"RerootStore", "isThere", "()Z"⟩, prog_1_method_7_code, 1, (some .boolean), 4, false, [(0, .aload_n 0, 1, []), (1, .getfield 39, 3, [4, 4, 178]), (4, .getfield 88, 3, [2, 0, 193]), (7, .getfield 91, 3, [1, 5, 194]), (10, .ifCond .le 7, 3, [17]), (13, .iconst 1, 1, []), (14, .goto 4, 3, [18]), (17, .iconst 0, 1, []), (18, .ireturn, 1, [])])
def ym_X_hasVersion : mz_Y := (⟨"RerootStore", "hasVersion", "(I)Z"⟩, prog_1_method_8_code, 2, (some .boolean), 4, false, [(0, .aload_n 0, 1, []), (1, .getfield 39, 3, [4, 4, 178]), (4, .getfield 88, 3, [2, 0, 193]), (7, .iload_n 1, 1, []), (8, .invokevirtual 113, 3, [0, 19, 2, 1, 201]), (11, .ireturn, 1, [])])
def ym_X_hasVersions : mz_Y := (⟨"RerootStore", "hasVersions", "(II)Z"⟩, prog_1_method_9_code, 3, (some .boolean), 4, false, [(0, .aload_n 0, 1, []), (1, .getfield 39, 3, [4, 4, 178]), (4, .getfield 88, 3, [2, 0, 193]), (7, .iload_n 1, 1, []), (8, .invokevirtual 113, 3, [0, 19, 2, 1, 201]), (11, .ifCond .eq 21, 3, [32]), (14, .aload_n 0, 1, []), (15, .getfield 39, 3, [4, 4, 178]), (18, .getfield 88, 3, [2, 0, 193]), (21, .iload_n 2, 1, []), (22, .invokevirtual 113, 3, [0, 19, 2, 1, 201]), (25, .ifCond .eq 7, 3, [32]), (28, .iconst 1, 1, []), (29, .goto 4, 3, [33]), (32, .iconst 0, 1, []), (33, .ireturn, 1, [])])
def ym_X_hasSpot : mz_Y := (⟨"RerootStore", "hasSpot", "(II)Z"⟩, prog_1_method_10_code, 3, (some .boolean), 4, false, [(0, .aload_n 0, 1, []), (1, .getfield 39, 3, [4, 4, 178]), (4, .getfield 88, 3, [2, 0, 193]), (7, .iload_n 1, 1, []), (8, .invokevirtual 113, 3, [0, 19, 2, 1, 201]), (11, .ifCond .eq 21, 3, [32]), (14, .aload_n 0, 1, []), (15, .getfield 39, 3, [4, 4, 178]), (18, .getfield 88, 3, [2, 0, 193]), (21, .iload_n 2, 1, []), (22, .invokevirtual 117, 3, [0, 20, 2, 1, 202]), (25, .ifCond .eq 7, 3, [32]), (28, .iconst 1, 1, []), (29, .goto 4, 3, [33]), (32, .iconst 0, 1, []), (33, .ireturn, 1, [])])
def ym_X_cell : mz_Y := (⟨"RerootStore", "cell", "(II)I"⟩, prog_1_method_11_code, 3, (some .int), 4, false, [(0, .aload_n 0, 1, []), (1, .iload_n 1, 1, []), (2, .iload_n 2, 1, []), (3, .invokevirtual 120, 3, [0, 112, 3, 4, 203]), (6, .ifCond .eq 18, 3, [24]), (9, .aload_n 0, 1, []), (10, .getfield 39, 3, [4, 4, 178]), (13, .getfield 88, 3, [2, 0, 193]), (16, .iload_n 1, 1, []), (17, .iload_n 2, 1, []), (18, .invokevirtual 124, 3, [0, 24, 3, 1, 204]), (21, .goto 5, 3, [26]), (24, .bipush (-2), 2, []), (26, .ireturn, 1, [])])
def ym_X_version : mz_Y := (⟨"RerootStore", "version", "(II)I"⟩, prog_1_method_12_code, 3, (some .int), 4, false, [(0, .aload_n 0, 1, []), (1, .iload_n 1, 1, []), (2, .invokevirtual 128, 3, [0, 110, 2, 4, 205]), (5, .ifCond .eq 12, 3, [17]), (8, .iload_n 2, 1, []), (9, .ifCond .lt 8, 3, [17]), (12, .iload_n 2, 1, []), (13, .iconst 2, 1, []), (14, .if_icmp .le 6, 3, [20]), (17, .bipush (-2), 2, []), (19, .ireturn, 1, []), (20, .aload_n 0, 1, []), (21, .getfield 39, 3, [4, 4, 178]), (24, .getfield 88, 3, [2, 0, 193]), (27, .iload_n 1, 1, []), (28, .iload_n 2, 1, []), (29, .invokevirtual 131, 3, [0, 27, 3, 1, 206]), (32, .ireturn, 1, [])])
def ym_X_unlike : mz_Y := (⟨"RerootStore", "unlike", "(II)I"⟩, prog_1_method_13_code, 3, (some .int), 4, false, [(0, .aload_n 0, 1, []), (1, .iload_n 1, 1, []), (2, .iload_n 2, 1, []), (3, .invokevirtual 134, 3, [0, 111, 3, 4, 207]), (6, .ifCond .ne 6, 3, [12]), (9, .bipush (-2), 2, []), (11, .ireturn, 1, []), (12, .aload_n 0, 1, []), (13, .getfield 39, 3, [4, 4, 178]), (16, .getfield 88, 3, [2, 0, 193]), (19, .aload_n 0, 1, []), (20, .getfield 39, 3, [4, 4, 178]), (23, .getfield 88, 3, [2, 0, 193]), (26, .iload_n 1, 1, []), (27, .invokevirtual 137, 3, [0, 23, 2, 1, 208]), (30, .aload_n 0, 1, []), (31, .getfield 39, 3, [4, 4, 178]), (34, .getfield 88, 3, [2, 0, 193]), (37, .iload_n 2, 1, []), (38, .invokevirtual 137, 3, [0, 23, 2, 1, 208]), (41, .invokevirtual 141, 3, [0, 25, 3, 1, 209]), (44, .ireturn, 1, [])])
def ym_X_first : mz_Y := (⟨"RerootStore", "first", "(I)I"⟩, prog_1_method_14_code, 2, (some .int), 4, false, [(0, .aload_n 0, 1, []), (1, .iload_n 1, 1, []), (2, .invokevirtual 128, 3, [0, 110, 2, 4, 205]), (5, .ifCond .eq 17, 3, [22]), (8, .aload_n 0, 1, []), (9, .getfield 39, 3, [4, 4, 178]), (12, .getfield 88, 3, [2, 0, 193]), (15, .iload_n 1, 1, []), (16, .invokevirtual 145, 3, [0, 26, 2, 1, 210]), (19, .goto 5, 3, [24]), (22, .bipush (-2), 2, []), (24, .ireturn, 1, [])])
def ym_X_meet : mz_Y := (⟨"RerootStore", "meet", "(II)I"⟩, prog_1_method_15_code, 3, (some .int), 4, false, [(0, .aload_n 0, 1, []), (1, .iload_n 1, 1, []), (2, .iload_n 2, 1, []), (3, .invokevirtual 134, 3, [0, 111, 3, 4, 207]), (6, .ifCond .eq 18, 3, [24]), (9, .aload_n 0, 1, []), (10, .getfield 39, 3, [4, 4, 178]), (13, .getfield 88, 3, [2, 0, 193]), (16, .iload_n 1, 1, []), (17, .iload_n 2, 1, []), (18, .invokevirtual 149, 3, [0, 30, 3, 1, 211]), (21, .goto 5, 3, [26]), (24, .bipush (-2), 2, []), (26, .ireturn, 1, [])])
def ym_X_apart : mz_Y := (⟨"RerootStore", "apart", "(II)I"⟩, prog_1_method_16_code, 4, (some .int), 4, false, [(0, .aload_n 0, 1, []), (1, .iload_n 1, 1, []), (2, .iload_n 2, 1, []), (3, .invokevirtual 134, 3, [0, 111, 3, 4, 207]), (6, .ifCond .ne 6, 3, [12]), (9, .bipush (-2), 2, []), (11, .ireturn, 1, []), (12, .aload_n 0, 1, []), (13, .getfield 39, 3, [4, 4, 178]), (16, .getfield 88, 3, [2, 0, 193]), (19, .iload_n 1, 1, []), (20, .iload_n 2, 1, []), (21, .invokevirtual 149, 3, [0, 30, 3, 1, 211]), (24, .istore_n 3, 1, []), (25, .aload_n 0, 1, []), (26, .getfield 39, 3, [4, 4, 178]), (29, .getfield 88, 3, [2, 0, 193]), (32, .iload_n 1, 1, []), (33, .invokevirtual 152, 3, [0, 29, 2, 1, 212]), (36, .aload_n 0, 1, []), (37, .getfield 39, 3, [4, 4, 178]), (40, .getfield 88, 3, [2, 0, 193]), (43, .iload_n 2, 1, []), (44, .invokevirtual 152, 3, [0, 29, 2, 1, 212]), (47, .iadd, 1, []), (48, .iconst 2, 1, []), (49, .aload_n 0, 1, []), (50, .getfield 39, 3, [4, 4, 178]), (53, .getfield 88, 3, [2, 0, 193]), (56, .iload_n 3, 1, []), (57, .invokevirtual 152, 3, [0, 29, 2, 1, 212]), (60, .imul, 1, []), (61, .isub, 1, []), (62, .ireturn, 1, [])])
def ym_X_root : mz_Y := (⟨"RerootStore", "root", "(II)I"⟩, prog_1_method_17_code, 3, (some .int), 4, false, [(0, .aload_n 0, 1, []), (1, .iload_n 1, 1, []), (2, .iload_n 2, 1, []), (3, .invokevirtual 120, 3, [0, 112, 3, 4, 203]), (6, .ifCond .eq 18, 3, [24]), (9, .aload_n 0, 1, []), (10, .getfield 39, 3, [4, 4, 178]), (13, .getfield 88, 3, [2, 0, 193]), (16, .iload_n 1, 1, []), (17, .iload_n 2, 1, []), (18, .invokevirtual 155, 3, [0, 33, 3, 1, 213]), (21, .goto 5, 3, [26]), (24, .bipush (-2), 2, []), (26, .ireturn, 1, [])])
def ym_X_roots : mz_Y := (⟨"RerootStore", "roots", "(I)I"⟩, prog_1_method_18_code, 2, (some .int), 4, false, [(0, .aload_n 0, 1, []), (1, .iload_n 1, 1, []), (2, .invokevirtual 128, 3, [0, 110, 2, 4, 205]), (5, .ifCond .eq 20, 3, [25]), (8, .aload_n 0, 1, []), (9, .getfield 39, 3, [4, 4, 178]), (12, .getfield 88, 3, [2, 0, 193]), (15, .iload_n 1, 1, []), (16, .invokevirtual 158, 3, [0, 35, 2, 1, 214]), (19, .invokestatic 161, 3, [0, 291, 1, 7, 215]), (22, .goto 5, 3, [27]), (25, .bipush (-2), 2, []), (27, .ireturn, 1, [])])
def ym_X_together : mz_Y := (⟨"RerootStore", "together", "(II)I"⟩, prog_1_method_19_code, 3, (some .int), 4, false, [(0, .aload_n 0, 1, []), (1, .iload_n 1, 1, []), (2, .iload_n 2, 1, []), (3, .invokevirtual 120, 3, [0, 112, 3, 4, 203]), (6, .ifCond .eq 18, 3, [24]), (9, .aload_n 0, 1, []), (10, .getfield 39, 3, [4, 4, 178]), (13, .getfield 88, 3, [2, 0, 193]), (16, .iload_n 1, 1, []), (17, .iload_n 2, 1, []), (18, .invokevirtual 166, 3, [0, 36, 3, 1, 216]), (21, .goto 5, 3, [26]), (24, .bipush (-2), 2, []), (26, .ireturn, 1, [])])
def ym_X_blame : mz_Y := (⟨"RerootStore", "blame", "(II)I"⟩, prog_1_method_20_code, 3, (some .int), 4, false, [(0, .aload_n 0, 1, []), (1, .iload_n 1, 1, []), (2, .iload_n 2, 1, []), (3, .invokevirtual 120, 3, [0, 112, 3, 4, 203]), (6, .ifCond .eq 18, 3, [24]), (9, .aload_n 0, 1, []), (10, .getfield 39, 3, [4, 4, 178]), (13, .getfield 88, 3, [2, 0, 193]), (16, .iload_n 1, 1, []), (17, .iload_n 2, 1, []), (18, .invokevirtual 169, 3, [0, 31, 3, 1, 217]), (21, .goto 5, 3, [26]), (24, .bipush (-2), 2, []), (26, .ireturn, 1, [])])
def ym_X_often : mz_Y := (⟨"RerootStore", "often", "(II)I"⟩, prog_1_method_21_code, 3, (some .int), 4, false, [(0, .aload_n 0, 1, []), (1, .iload_n 1, 1, []), (2, .iload_n 2, 1, []), (3, .invokevirtual 120, 3, [0, 112, 3, 4, 203]), (6, .ifCond .eq 18, 3, [24]), (9, .aload_n 0, 1, []), (10, .getfield 39, 3, [4, 4, 178]), (13, .getfield 88, 3, [2, 0, 193]), (16, .iload_n 1, 1, []), (17, .iload_n 2, 1, []), (18, .invokevirtual 172, 3, [0, 32, 3, 1, 218]), (21, .goto 5, 3, [26]), (24, .bipush (-2), 2, []), (26, .ireturn, 1, [])])
def ym_X_state : mz_Y := (⟨"RerootStore", "state", "(II)I"⟩, prog_1_method_22_code, 3, (some .int), 4, false, [(0, .aload_n 0, 1, []), (1, .iload_n 1, 1, []), (2, .invokevirtual 128, 3, [0, 110, 2, 4, 205]), (5, .ifCond .eq 12, 3, [17]), (8, .iload_n 2, 1, []), (9, .ifCond .lt 8, 3, [17]), (12, .iload_n 2, 1, []), (13, .iconst 3, 1, []), (14, .if_icmp .le 6, 3, [20]), (17, .bipush (-2), 2, []), (19, .ireturn, 1, []), (20, .aload_n 0, 1, []), (21, .getfield 39, 3, [4, 4, 178]), (24, .getfield 88, 3, [2, 0, 193]), (27, .iload_n 1, 1, []), (28, .iload_n 2, 1, []), (29, .invokevirtual 175, 3, [0, 38, 3, 1, 219]), (32, .ireturn, 1, [])])
def ym_X_length : mz_Y := (⟨"RerootStore", "length", "(I)I"⟩, prog_1_method_23_code, 2, (some .int), 4, false, [(0, .aload_n 0, 1, []), (1, .iload_n 1, 1, []), (2, .invokevirtual 128, 3, [0, 110, 2, 4, 205]), (5, .ifCond .eq 17, 3, [22]), (8, .aload_n 0, 1, []), (9, .getfield 39, 3, [4, 4, 178]), (12, .getfield 88, 3, [2, 0, 193]), (15, .iload_n 1, 1, []), (16, .invokevirtual 178, 3, [0, 39, 2, 1, 220]), (19, .goto 5, 3, [24]), (22, .bipush (-2), 2, []), (24, .ireturn, 1, [])])
def ym_X_longest : mz_Y := (⟨"RerootStore", "longest", "()I"⟩, prog_1_method_24_code, 1, (some .int), 4, false, [(0, .aload_n 0, 1, []), (1, .invokevirtual 181, 3, [0, 109, 1, 4, 221]), (4, .ifCond .eq 16, 3, [20]), (7, .aload_n 0, 1, []), (8, .getfield 39, 3, [4, 4, 178]), (11, .getfield 88, 3, [2, 0, 193]), (14, .invokevirtual 185, 3, [0, 40, 1, 1, 222]), (17, .goto 5, 3, [22]), (20, .bipush (-2), 2, []), (22, .ireturn, 1, [])])
def ym_X_direct : mz_Y := (⟨"RerootStore", "direct", "()I"⟩, prog_1_method_25_code, 1, (some .int), 4, false, [(0, .aload_n 0, 1, []), (1, .invokevirtual 181, 3, [0, 109, 1, 4, 221]), (4, .ifCond .eq 16, 3, [20]), (7, .aload_n 0, 1, []), (8, .getfield 39, 3, [4, 4, 178]), (11, .getfield 88, 3, [2, 0, 193]), (14, .invokevirtual 188, 3, [0, 41, 1, 1, 223]), (17, .goto 5, 3, [22]), (20, .bipush (-2), 2, []), (22, .ireturn, 1, [])])
def ym_X_ways : mz_Y := (⟨"RerootStore", "ways", "()I"⟩, prog_1_method_26_code, 1, (some .int), 4, false, [(0, .aload_n 0, 1, []), (1, .invokevirtual 181, 3, [0, 109, 1, 4, 221]), (4, .ifCond .eq 16, 3, [20]), (7, .aload_n 0, 1, []), (8, .getfield 39, 3, [4, 4, 178]), (11, .getfield 88, 3, [2, 0, 193]), (14, .invokevirtual 191, 3, [0, 42, 1, 1, 224]), (17, .goto 5, 3, [22]), (20, .bipush (-2), 2, []), (22, .ireturn, 1, [])])
def ym_X_snapping : mz_Y := (⟨"RerootStore", "snapping", "(I)I"⟩, prog_1_method_27_code, 2, (some .int), 4, false, [(0, .aload_n 0, 1, []), (1, .iload_n 1, 1, []), (2, .invokevirtual 128, 3, [0, 110, 2, 4, 205]), (5, .ifCond .eq 17, 3, [22]), (8, .aload_n 0, 1, []), (9, .getfield 39, 3, [4, 4, 178]), (12, .getfield 88, 3, [2, 0, 193]), (15, .iload_n 1, 1, []), (16, .invokevirtual 194, 3, [0, 43, 2, 1, 225]), (19, .goto 5, 3, [24]), (22, .bipush (-2), 2, []), (24, .ireturn, 1, [])])
def ym_X_snap : mz_Y := (⟨"RerootStore", "snap", "()I"⟩, prog_1_method_28_code, 5, (some .int), 4, false, [(0, .aload_n 0, 1, []), (1, .invokevirtual 181, 3, [0, 109, 1, 4, 221]), (4, .ifCond .ne 6, 3, [10]), (7, .bipush (-2), 2, []), (9, .ireturn, 1, []), (10, .iconst (-1), 1, []), (11, .istore_n 1, 1, []), (12, .aload_n 0, 1, []), (13, .getfield 39, 3, [4, 4, 178]), (16, .getfield 88, 3, [2, 0, 193]), (19, .invokevirtual 191, 3, [0, 42, 1, 1, 224]), (22, .istore_n 2, 1, []), (23, .iconst 0, 1, []), (24, .istore_n 3, 1, []), (25, .iload_n 3, 1, []), (26, .aload_n 0, 1, []), (27, .getfield 39, 3, [4, 4, 178]), (30, .getfield 88, 3, [2, 0, 193]), (33, .getfield 100, 3, [1, 8, 197]), (36, .if_icmp .ge 33, 3, [69]), (39, .aload_n 0, 1, []), (40, .getfield 39, 3, [4, 4, 178]), (43, .getfield 88, 3, [2, 0, 193]), (46, .iload_n 3, 1, []), (47, .invokevirtual 194, 3, [0, 43, 2, 1, 225]), (50, .istore 4, 2, []), (52, .iload 4, 2, []), (54, .iload_n 2, 1, []), (55, .if_icmp .ge 8, 3, [63]), (58, .iload 4, 2, []), (60, .istore_n 2, 1, []), (61, .iload_n 3, 1, []), (62, .istore_n 1, 1, []), (63, .iinc 3 1, 3, []), (66, .goto (-41), 3, [25]), (69, .iload_n 1, 1, []), (70, .ireturn, 1, [])])
def ym_X_busiest : mz_Y := (⟨"RerootStore", "busiest", "()I"⟩, prog_1_method_29_code, 1, (some .int), 4, false, [(0, .aload_n 0, 1, []), (1, .invokevirtual 181, 3, [0, 109, 1, 4, 221]), (4, .ifCond .eq 16, 3, [20]), (7, .aload_n 0, 1, []), (8, .getfield 39, 3, [4, 4, 178]), (11, .getfield 88, 3, [2, 0, 193]), (14, .invokevirtual 197, 3, [0, 47, 1, 1, 226]), (17, .goto 5, 3, [22]), (20, .bipush (-2), 2, []), (22, .ireturn, 1, [])])
def ym_X_hasAllOf : mz_Y := (⟨"RerootStore", "hasAllOf", "(J)Z"⟩, prog_1_method_30_code, 3, (some .boolean), 4, false, [(0, .aload_n 0, 1, []), (1, .invokevirtual 181, 3, [0, 109, 1, 4, 221]), (4, .ifCond .eq 24, 3, [28]), (7, .lload_n 1, 1, []), (8, .aload_n 0, 1, []), (9, .getfield 39, 3, [4, 4, 178]), (12, .getfield 88, 3, [2, 0, 193]), (15, .getfield 100, 3, [1, 8, 197]), (18, .lushr, 1, []), (19, .lconst 0, 1, []), (20, .lcmp, 1, []), (21, .ifCond .ne 7, 3, [28]), (24, .iconst 1, 1, []), (25, .goto 4, 3, [29]), (28, .iconst 0, 1, []), (29, .ireturn, 1, [])])
def ym_X_keeps : mz_Y := (⟨"RerootStore", "keeps", "(J)J"⟩, prog_1_method_31_code, 3, (some .long), 4, false, [(0, .aload_n 0, 1, []), (1, .lload_n 1, 1, []), (2, .invokevirtual 200, 3, [0, 132, 2, 4, 227]), (5, .ifCond .eq 17, 3, [22]), (8, .aload_n 0, 1, []), (9, .getfield 39, 3, [4, 4, 178]), (12, .getfield 88, 3, [2, 0, 193]), (15, .lload_n 1, 1, []), (16, .invokevirtual 204, 3, [0, 44, 2, 1, 228]), (19, .goto 6, 3, [25]), (22, .ldc2_w 208, 3, [0, 229, 18446744073709551614]), (25, .lreturn, 1, [])])
def ym_X_room : mz_Y := (⟨"RerootStore", "room", "(J)I"⟩, prog_1_method_32_code, 3, (some .int), 4, false, [(0, .aload_n 0, 1, []), (1, .lload_n 1, 1, []), (2, .invokevirtual 200, 3, [0, 132, 2, 4, 227]), (5, .ifCond .eq 27, 3, [32]), (8, .aload_n 0, 1, []), (9, .getfield 39, 3, [4, 4, 178]), (12, .getfield 88, 3, [2, 0, 193]), (15, .aload_n 0, 1, []), (16, .getfield 39, 3, [4, 4, 178]), (19, .getfield 88, 3, [2, 0, 193]), (22, .lload_n 1, 1, []), (23, .invokevirtual 204, 3, [0, 44, 2, 1, 228]), (26, .invokevirtual 210, 3, [0, 46, 2, 1, 230]), (29, .goto 5, 3, [34]), (32, .bipush (-2), 2, []), (34, .ireturn, 1, [])])
def ym_X_ledger : mz_Y := (⟨"RerootStore", "ledger", "()I"⟩, prog_1_method_33_code, 1, (some .int), 4, false, [(0, .aload_n 0, 1, []), (1, .invokevirtual 181, 3, [0, 109, 1, 4, 221]), (4, .ifCond .eq 16, 3, [20]), (7, .aload_n 0, 1, []), (8, .getfield 39, 3, [4, 4, 178]), (11, .getfield 88, 3, [2, 0, 193]), (14, .getfield 214, 3, [1, 9, 231]), (17, .goto 5, 3, [22]), (20, .bipush (-2), 2, []), (22, .ireturn, 1, [])])
def ym_X_spent : mz_Y := (⟨"RerootStore", "spent", "(I)I"⟩, prog_1_method_34_code, 2, (some .int), 4, false, [(0, .aload_n 0, 1, []), (1, .getfield 39, 3, [4, 4, 178]), (4, .iload_n 1, 1, []), (5, .invokevirtual 217, 3, [0, 70, 2, 2, 232]), (8, .ifCond .eq 15, 3, [23]), (11, .aload_n 0, 1, []), (12, .getfield 39, 3, [4, 4, 178]), (15, .getfield 220, 3, [2, 6, 233]), (18, .iload_n 1, 1, []), (19, .iaload, 1, []), (20, .goto 5, 3, [25]), (23, .bipush (-2), 2, []), (25, .ireturn, 1, [])])
def ym_X_dearest : mz_Y := (⟨"RerootStore", "dearest", "()I"⟩, prog_1_method_35_code, 1, (some .int), 4, false, [(0, .aload_n 0, 1, []), (1, .invokevirtual 181, 3, [0, 109, 1, 4, 221]), (4, .ifCond .eq 13, 3, [17]), (7, .aload_n 0, 1, []), (8, .getfield 39, 3, [4, 4, 178]), (11, .invokevirtual 224, 3, [0, 80, 1, 2, 234]), (14, .goto 5, 3, [19]), (17, .bipush (-2), 2, []), (19, .ireturn, 1, [])])
def ym_X_cost : mz_Y := (⟨"RerootStore", "cost", "(II)I"⟩, prog_1_method_36_code, 3, (some .int), 4, false, [(0, .aload_n 0, 1, []), (1, .iload_n 1, 1, []), (2, .iload_n 2, 1, []), (3, .invokevirtual 120, 3, [0, 112, 3, 4, 203]), (6, .ifCond .eq 18, 3, [24]), (9, .aload_n 0, 1, []), (10, .getfield 39, 3, [4, 4, 178]), (13, .getfield 88, 3, [2, 0, 193]), (16, .iload_n 1, 1, []), (17, .iload_n 2, 1, []), (18, .invokevirtual 227, 3, [0, 50, 3, 1, 235]), (21, .goto 5, 3, [26]), (24, .bipush (-2), 2, []), (26, .ireturn, 1, [])])
def ym_X_by : mz_Y := (⟨"RerootStore", "by", "(I)I"⟩, prog_1_method_37_code, 2, (some .int), 4, false, [(0, .aload_n 0, 1, []), (1, .invokevirtual 181, 3, [0, 109, 1, 4, 221]), (4, .ifCond .eq 12, 3, [16]), (7, .iload_n 1, 1, []), (8, .ifCond .lt 8, 3, [16]), (11, .iload_n 1, 1, []), (12, .iconst 2, 1, []), (13, .if_icmp .le 6, 3, [19]), (16, .bipush (-2), 2, []), (18, .ireturn, 1, []), (19, .aload_n 0, 1, []), (20, .getfield 39, 3, [4, 4, 178]), (23, .aload_n 0, 1, []), (24, .getfield 27, 3, [4, 2, 173]), (27, .iload_n 1, 1, []), (28, .aload_n 0, 1, []), (29, .getfield 39, 3, [4, 4, 178]), (32, .getfield 88, 3, [2, 0, 193]), (35, .getfield 97, 3, [1, 7, 196]), (38, .iconst (-1), 1, []), (39, .invokevirtual 230, 3, [0, 79, 5, 2, 236]), (42, .ireturn, 1, [])])
def ym_X_cutting : mz_Y := (⟨"RerootStore", "cutting", "(I)I"⟩, prog_1_method_38_code, 2, (some .int), 4, false, [(0, .aload_n 0, 1, []), (1, .invokevirtual 181, 3, [0, 109, 1, 4, 221]), (4, .ifCond .eq 13, 3, [17]), (7, .iload_n 1, 1, []), (8, .ifCond .lt 9, 3, [17]), (11, .iload_n 1, 1, []), (12, .bipush 20, 2, []), (14, .if_icmp .le 6, 3, [20]), (17, .bipush (-2), 2, []), (19, .ireturn, 1, []), (20, .aload_n 0, 1, []), (21, .getfield 39, 3, [4, 4, 178]), (24, .aload_n 0, 1, []), (25, .getfield 27, 3, [4, 2, 173]), (28, .iconst 2, 1, []), (29, .iload_n 1, 1, []), (30, .iconst (-1), 1, []), (31, .invokevirtual 230, 3, [0, 79, 5, 2, 236]), (34, .ireturn, 1, [])])
def ym_X_cut : mz_Y := (⟨"RerootStore", "cut", "()I"⟩, prog_1_method_39_code, 5, (some .int), 4, false, [(0, .aload_n 0, 1, []), (1, .invokevirtual 181, 3, [0, 109, 1, 4, 221]), (4, .ifCond .ne 6, 3, [10]), (7, .bipush (-2), 2, []), (9, .ireturn, 1, []), (10, .iconst 0, 1, []), (11, .istore_n 1, 1, []), (12, .aload_n 0, 1, []), (13, .getfield 39, 3, [4, 4, 178]), (16, .aload_n 0, 1, []), (17, .getfield 27, 3, [4, 2, 173]), (20, .iconst 2, 1, []), (21, .iconst 0, 1, []), (22, .iconst (-1), 1, []), (23, .invokevirtual 230, 3, [0, 79, 5, 2, 236]), (26, .istore_n 2, 1, []), (27, .iconst 1, 1, []), (28, .istore_n 3, 1, []), (29, .iload_n 3, 1, []), (30, .bipush 20, 2, []), (32, .if_icmp .gt 36, 3, [68]), (35, .aload_n 0, 1, []), (36, .getfield 39, 3, [4, 4, 178]), (39, .aload_n 0, 1, []), (40, .getfield 27, 3, [4, 2, 173]), (43, .iconst 2, 1, []), (44, .iload_n 3, 1, []), (45, .iconst (-1), 1, []), (46, .invokevirtual 230, 3, [0, 79, 5, 2, 236]), (49, .istore 4, 2, []), (51, .iload 4, 2, []), (53, .iload_n 2, 1, []), (54, .if_icmp .ge 8, 3, [62]), (57, .iload 4, 2, []), (59, .istore_n 2, 1, []), (60, .iload_n 3, 1, []), (61, .istore_n 1, 1, []), (62, .iinc 3 1, 3, []), (65, .goto (-36), 3, [29]), (68, .iload_n 1, 1, []), (69, .ireturn, 1, [])])
def ym_X_without : mz_Y := (⟨"RerootStore", "without", "(I)I"⟩, prog_1_method_40_code, 2, (some .int), 4, false, [(0, .aload_n 0, 1, []), (1, .getfield 39, 3, [4, 4, 178]), (4, .iload_n 1, 1, []), (5, .invokevirtual 217, 3, [0, 70, 2, 2, 232]), (8, .ifCond .eq 14, 3, [22]), (11, .aload_n 0, 1, []), (12, .getfield 39, 3, [4, 4, 178]), (15, .iload_n 1, 1, []), (16, .invokevirtual 234, 3, [0, 71, 2, 2, 237]), (19, .ifCond .ne 6, 3, [25]), (22, .bipush (-2), 2, []), (24, .ireturn, 1, []), (25, .aload_n 0, 1, []), (26, .getfield 39, 3, [4, 4, 178]), (29, .aload_n 0, 1, []), (30, .getfield 27, 3, [4, 2, 173]), (33, .aload_n 0, 1, []), (34, .getfield 39, 3, [4, 4, 178]), (37, .getfield 88, 3, [2, 0, 193]), (40, .getfield 94, 3, [1, 6, 195]), (43, .aload_n 0, 1, []), (44, .getfield 39, 3, [4, 4, 178]), (47, .getfield 88, 3, [2, 0, 193]), (50, .getfield 97, 3, [1, 7, 196]), (53, .iload_n 1, 1, []), (54, .invokevirtual 230, 3, [0, 79, 5, 2, 236]), (57, .ireturn, 1, [])])
def ym_X_hasActLeft : mz_Y := (⟨"RerootStore", "hasActLeft", "()Z"⟩, prog_1_method_41_code, 1, (some .boolean), 4, false, [(0, .aload_n 0, 1, []), (1, .getfield 39, 3, [4, 4, 178]), (4, .invokevirtual 109, 3, [0, 69, 1, 2, 200]), (7, .bipush 30, 2, []), (9, .if_icmp .ge 7, 3, [16]), (12, .iconst 1, 1, []), (13, .goto 4, 3, [17]), (16, .iconst 0, 1, []), (17, .ireturn, 1, [])])
def ym_X_hasRoomFor : mz_Y := (⟨"RerootStore", "hasRoomFor", "(I)Z"⟩, prog_1_method_42_code, 2, (some .boolean), 4, false, [(0, .aload_n 0, 1, []), (1, .getfield 39, 3, [4, 4, 178]), (4, .getfield 88, 3, [2, 0, 193]), (7, .getfield 100, 3, [1, 8, 197]), (10, .iload_n 1, 1, []), (11, .iadd, 1, []), (12, .bipush 40, 2, []), (14, .if_icmp .gt 7, 3, [21]), (17, .iconst 1, 1, []), (18, .goto 4, 3, [22]), (21, .iconst 0, 1, []), (22, .ireturn, 1, [])])
def ym_X_reads : mz_Y := (⟨"RerootStore", "reads", "(II)I"⟩, prog_1_method_43_code, 3, (some .int), 4, false, [(0, .aload_n 0, 1, []), (1, .iload_n 1, 1, []), (2, .iload_n 2, 1, []), (3, .invokevirtual 120, 3, [0, 112, 3, 4, 203]), (6, .ifCond .ne 6, 3, [12]), (9, .bipush (-2), 2, []), (11, .ireturn, 1, []), (12, .aload_n 0, 1, []), (13, .invokevirtual 237, 3, [0, 143, 1, 4, 238]), (16, .ifCond .eq 17, 3, [33]), (19, .aload_n 0, 1, []), (20, .getfield 39, 3, [4, 4, 178]), (23, .iconst 1, 1, []), (24, .iload_n 1, 1, []), (25, .iload_n 2, 1, []), (26, .iconst 0, 1, []), (27, .invokevirtual 240, 3, [0, 77, 5, 2, 239]), (30, .goto 5, 3, [35]), (33, .bipush (-5), 2, []), (35, .ireturn, 1, [])])
def ym_X_sets : mz_Y := (⟨"RerootStore", "sets", "(III)I"⟩, prog_1_method_44_code, 4, (some .int), 4, false, [(0, .aload_n 0, 1, []), (1, .iload_n 1, 1, []), (2, .iload_n 2, 1, []), (3, .invokevirtual 120, 3, [0, 112, 3, 4, 203]), (6, .ifCond .eq 17, 3, [23]), (9, .aload_n 0, 1, []), (10, .getfield 39, 3, [4, 4, 178]), (13, .getfield 88, 3, [2, 0, 193]), (16, .iload_n 3, 1, []), (17, .invokevirtual 117, 3, [0, 20, 2, 1, 202]), (20, .ifCond .ne 6, 3, [26]), (23, .bipush (-2), 2, []), (25, .ireturn, 1, []), (26, .aload_n 0, 1, []), (27, .invokevirtual 237, 3, [0, 143, 1, 4, 238]), (30, .ifCond .eq 11, 3, [41]), (33, .aload_n 0, 1, []), (34, .iconst 1, 1, []), (35, .invokevirtual 244, 3, [0, 144, 2, 4, 240]), (38, .ifCond .ne 6, 3, [44]), (41, .bipush (-5), 2, []), (43, .ireturn, 1, []), (44, .aload_n 0, 1, []), (45, .getfield 39, 3, [4, 4, 178]), (48, .iconst 2, 1, []), (49, .iload_n 1, 1, []), (50, .iload_n 2, 1, []), (51, .iload_n 3, 1, []), (52, .invokevirtual 240, 3, [0, 77, 5, 2, 239]), (55, .ireturn, 1, [])])
def ym_X_joins : mz_Y := (⟨"RerootStore", "joins", "(III)I"⟩, prog_1_method_45_code, 4, (some .int), 4, false, [(0, .aload_n 0, 1, []), (1, .iload_n 1, 1, []), (2, .iload_n 2, 1, []), (3, .invokevirtual 120, 3, [0, 112, 3, 4, 203]), (6, .ifCond .eq 17, 3, [23]), (9, .aload_n 0, 1, []), (10, .getfield 39, 3, [4, 4, 178]), (13, .getfield 88, 3, [2, 0, 193]), (16, .iload_n 3, 1, []), (17, .invokevirtual 117, 3, [0, 20, 2, 1, 202]), (20, .ifCond .ne 6, 3, [26]), (23, .bipush (-2), 2, []), (25, .ireturn, 1, []), (26, .aload_n 0, 1, []), (27, .invokevirtual 237, 3, [0, 143, 1, 4, 238]), (30, .ifCond .eq 27, 3, [57]), (33, .aload_n 0, 1, []), (34, .iconst 1, 1, []), (35, .invokevirtual 244, 3, [0, 144, 2, 4, 240]), (38, .ifCond .eq 19, 3, [57]), (41, .aload_n 0, 1, []), (42, .getfield 39, 3, [4, 4, 178]), (45, .getfield 88, 3, [2, 0, 193]), (48, .iload_n 1, 1, []), (49, .iload_n 2, 1, []), (50, .iload_n 3, 1, []), (51, .invokevirtual 247, 3, [0, 34, 4, 1, 241]), (54, .ifCond .eq 6, 3, [60]), (57, .bipush (-5), 2, []), (59, .ireturn, 1, []), (60, .aload_n 0, 1, []), (61, .getfield 39, 3, [4, 4, 178]), (64, .iconst 3, 1, []), (65, .iload_n 1, 1, []), (66, .iload_n 2, 1, []), (67, .iload_n 3, 1, []), (68, .invokevirtual 240, 3, [0, 77, 5, 2, 239]), (71, .ireturn, 1, [])])
def ym_X_finds : mz_Y := (⟨"RerootStore", "finds", "(II)I"⟩, prog_1_method_46_code, 3, (some .int), 4, false, [(0, .aload_n 0, 1, []), (1, .iload_n 1, 1, []), (2, .iload_n 2, 1, []), (3, .invokevirtual 120, 3, [0, 112, 3, 4, 203]), (6, .ifCond .ne 6, 3, [12]), (9, .bipush (-2), 2, []), (11, .ireturn, 1, []), (12, .aload_n 0, 1, []), (13, .invokevirtual 237, 3, [0, 143, 1, 4, 238]), (16, .ifCond .eq 17, 3, [33]), (19, .aload_n 0, 1, []), (20, .getfield 39, 3, [4, 4, 178]), (23, .iconst 4, 1, []), (24, .iload_n 1, 1, []), (25, .iload_n 2, 1, []), (26, .iconst 0, 1, []), (27, .invokevirtual 240, 3, [0, 77, 5, 2, 239]), (30, .goto 5, 3, [35]), (33, .bipush (-5), 2, []), (35, .ireturn, 1, [])])
def ym_X_snaps : mz_Y := (⟨"RerootStore", "snaps", "(I)I"⟩, prog_1_method_47_code, 2, (some .int), 4, false, [(0, .aload_n 0, 1, []), (1, .iload_n 1, 1, []), (2, .invokevirtual 128, 3, [0, 110, 2, 4, 205]), (5, .ifCond .ne 6, 3, [11]), (8, .bipush (-2), 2, []), (10, .ireturn, 1, []), (11, .aload_n 0, 1, []), (12, .invokevirtual 237, 3, [0, 143, 1, 4, 238]), (15, .ifCond .eq 17, 3, [32]), (18, .aload_n 0, 1, []), (19, .getfield 39, 3, [4, 4, 178]), (22, .getfield 88, 3, [2, 0, 193]), (25, .iload_n 1, 1, []), (26, .invokevirtual 251, 3, [0, 37, 2, 1, 242]), (29, .ifCond .eq 6, 3, [35]), (32, .bipush (-5), 2, []), (34, .ireturn, 1, []), (35, .aload_n 0, 1, []), (36, .getfield 39, 3, [4, 4, 178]), (39, .iconst 5, 1, []), (40, .iload_n 1, 1, []), (41, .iconst 0, 1, []), (42, .iconst 0, 1, []), (43, .invokevirtual 240, 3, [0, 77, 5, 2, 239]), (46, .ireturn, 1, [])])
def ym_X_merging : mz_Y := (⟨"RerootStore", "merging", "(III)I"⟩, prog_1_method_48_code, 4, (some .int), 4, false, [(0, .aload_n 0, 1, []), (1, .iload_n 1, 1, []), (2, .iload_n 2, 1, []), (3, .invokevirtual 134, 3, [0, 111, 3, 4, 207]), (6, .ifCond .eq 12, 3, [18]), (9, .iload_n 3, 1, []), (10, .ifCond .lt 8, 3, [18]), (13, .iload_n 3, 1, []), (14, .iconst 1, 1, []), (15, .if_icmp .le 6, 3, [21]), (18, .bipush (-2), 2, []), (20, .ireturn, 1, []), (21, .iload_n 3, 1, []), (22, .iconst 1, 1, []), (23, .if_icmp .ne 16, 3, [39]), (26, .aload_n 0, 1, []), (27, .getfield 39, 3, [4, 4, 178]), (30, .getfield 88, 3, [2, 0, 193]), (33, .iload_n 1, 1, []), (34, .iload_n 2, 1, []), (35, .invokevirtual 254, 3, [0, 62, 3, 1, 243]), (38, .ireturn, 1, []), (39, .aload_n 0, 1, []), (40, .getfield 39, 3, [4, 4, 178]), (43, .getfield 88, 3, [2, 0, 193]), (46, .aload_n 0, 1, []), (47, .getfield 39, 3, [4, 4, 178]), (50, .getfield 88, 3, [2, 0, 193]), (53, .iload_n 1, 1, []), (54, .invokevirtual 137, 3, [0, 23, 2, 1, 208]), (57, .aload_n 0, 1, []), (58, .getfield 39, 3, [4, 4, 178]), (61, .getfield 88, 3, [2, 0, 193]), (64, .iload_n 1, 1, []), (65, .iload_n 2, 1, []), (66, .invokevirtual 257, 3, [0, 61, 3, 1, 244]), (69, .invokevirtual 141, 3, [0, 25, 3, 1, 209]), (72, .ireturn, 1, [])])
def ym_X_merged : mz_Y := (⟨"RerootStore", "merged", "(III)I"⟩, prog_1_method_49_code, 4, (some .int), 4, false, [(0, .aload_n 0, 1, []), (1, .iload_n 1, 1, []), (2, .iload_n 2, 1, []), (3, .invokevirtual 134, 3, [0, 111, 3, 4, 207]), (6, .ifCond .eq 17, 3, [23]), (9, .aload_n 0, 1, []), (10, .getfield 39, 3, [4, 4, 178]), (13, .getfield 88, 3, [2, 0, 193]), (16, .iload_n 3, 1, []), (17, .invokevirtual 117, 3, [0, 20, 2, 1, 202]), (20, .ifCond .ne 6, 3, [26]), (23, .bipush (-2), 2, []), (25, .ireturn, 1, []), (26, .aload_n 0, 1, []), (27, .getfield 39, 3, [4, 4, 178]), (30, .getfield 88, 3, [2, 0, 193]), (33, .iload_n 1, 1, []), (34, .iload_n 2, 1, []), (35, .invokevirtual 257, 3, [0, 61, 3, 1, 244]), (38, .iload_n 3, 1, []), (39, .invokestatic 261, 3, [0, 21, 2, 1, 245]), (42, .ireturn, 1, [])])
def ym_X_merges : mz_Y := (⟨"RerootStore", "merges", "(II)I"⟩, prog_1_method_50_code, 3, (some .int), 4, false, [(0, .aload_n 0, 1, []), (1, .iload_n 1, 1, []), (2, .iload_n 2, 1, []), (3, .invokevirtual 134, 3, [0, 111, 3, 4, 207]), (6, .ifCond .ne 6, 3, [12]), (9, .bipush (-2), 2, []), (11, .ireturn, 1, []), (12, .aload_n 0, 1, []), (13, .invokevirtual 237, 3, [0, 143, 1, 4, 238]), (16, .ifCond .eq 17, 3, [33]), (19, .aload_n 0, 1, []), (20, .aload_n 0, 1, []), (21, .iload_n 1, 1, []), (22, .iload_n 2, 1, []), (23, .iconst 0, 1, []), (24, .invokevirtual 265, 3, [0, 150, 4, 4, 246]), (27, .invokevirtual 244, 3, [0, 144, 2, 4, 240]), (30, .ifCond .ne 6, 3, [36]), (33, .bipush (-5), 2, []), (35, .ireturn, 1, []), (36, .aload_n 0, 1, []), (37, .getfield 39, 3, [4, 4, 178]), (40, .bipush 6, 2, []), (42, .iload_n 1, 1, []), (43, .iload_n 2, 1, []), (44, .iconst 0, 1, []), (45, .invokevirtual 240, 3, [0, 77, 5, 2, 239]), (48, .ireturn, 1, [])])
def ym_X_patching : mz_Y := (⟨"RerootStore", "patching", "(III)I"⟩, prog_1_method_51_code, 4, (some .int), 4, false, [(0, .aload_n 0, 1, []), (1, .iload_n 1, 1, []), (2, .iload_n 2, 1, []), (3, .invokevirtual 134, 3, [0, 111, 3, 4, 207]), (6, .ifCond .eq 11, 3, [17]), (9, .aload_n 0, 1, []), (10, .iload_n 3, 1, []), (11, .invokevirtual 128, 3, [0, 110, 2, 4, 205]), (14, .ifCond .ne 6, 3, [20]), (17, .bipush (-2), 2, []), (19, .ireturn, 1, []), (20, .aload_n 0, 1, []), (21, .getfield 39, 3, [4, 4, 178]), (24, .getfield 88, 3, [2, 0, 193]), (27, .aload_n 0, 1, []), (28, .getfield 39, 3, [4, 4, 178]), (31, .getfield 88, 3, [2, 0, 193]), (34, .iload_n 3, 1, []), (35, .invokevirtual 137, 3, [0, 23, 2, 1, 208]), (38, .aload_n 0, 1, []), (39, .getfield 39, 3, [4, 4, 178]), (42, .getfield 88, 3, [2, 0, 193]), (45, .iload_n 1, 1, []), (46, .iload_n 2, 1, []), (47, .iload_n 3, 1, []), (48, .invokevirtual 269, 3, [0, 63, 4, 1, 247]), (51, .invokevirtual 141, 3, [0, 25, 3, 1, 209]), (54, .ireturn, 1, [])])
def ym_X_patches : mz_Y := (⟨"RerootStore", "patches", "(III)I"⟩, prog_1_method_52_code, 4, (some .int), 4, false, [(0, .aload_n 0, 1, []), (1, .iload_n 1, 1, []), (2, .iload_n 2, 1, []), (3, .invokevirtual 134, 3, [0, 111, 3, 4, 207]), (6, .ifCond .eq 11, 3, [17]), (9, .aload_n 0, 1, []), (10, .iload_n 3, 1, []), (11, .invokevirtual 128, 3, [0, 110, 2, 4, 205]), (14, .ifCond .ne 6, 3, [20]), (17, .bipush (-2), 2, []), (19, .ireturn, 1, []), (20, .aload_n 0, 1, []), (21, .invokevirtual 237, 3, [0, 143, 1, 4, 238]), (24, .ifCond .eq 17, 3, [41]), (27, .aload_n 0, 1, []), (28, .aload_n 0, 1, []), (29, .iload_n 1, 1, []), (30, .iload_n 2, 1, []), (31, .iload_n 3, 1, []), (32, .invokevirtual 273, 3, [0, 153, 4, 4, 248]), (35, .invokevirtual 244, 3, [0, 144, 2, 4, 240]), (38, .ifCond .ne 6, 3, [44]), (41, .bipush (-5), 2, []), (43, .ireturn, 1, []), (44, .aload_n 0, 1, []), (45, .getfield 39, 3, [4, 4, 178]), (48, .bipush 7, 2, []), (50, .iload_n 1, 1, []), (51, .iload_n 2, 1, []), (52, .iload_n 3, 1, []), (53, .invokevirtual 240, 3, [0, 77, 5, 2, 239]), (56, .ireturn, 1, [])])
def ym_X_mayColour : mz_Y := (⟨"RerootStore", "mayColour", "(II)Z"⟩, prog_1_method_53_code, 3, (some .boolean), 4, false, [(0, .aload_n 0, 1, []), (1, .invokevirtual 181, 3, [0, 109, 1, 4, 221]), (4, .ifCond .eq 26, 3, [30]), (7, .iload_n 1, 1, []), (8, .ifCond .lt 22, 3, [30]), (11, .iload_n 1, 1, []), (12, .iconst 2, 1, []), (13, .if_icmp .gt 17, 3, [30]), (16, .iload_n 2, 1, []), (17, .iconst 1, 1, []), (18, .if_icmp .lt 12, 3, [30]), (21, .iload_n 2, 1, []), (22, .iconst 4, 1, []), (23, .if_icmp .gt 7, 3, [30]), (26, .iconst 1, 1, []), (27, .goto 4, 3, [31]), (30, .iconst 0, 1, []), (31, .ireturn, 1, [])])
def ym_X_search : mz_Y := (⟨"RerootStore", "search", "(II)I"⟩, prog_1_method_54_code, 3, (some .int), 4, false, [(0, .aload_n 0, 1, []), (1, .aload_n 0, 1, []), (2, .getfield 39, 3, [4, 4, 178]), (5, .getfield 88, 3, [2, 0, 193]), (8, .getfield 94, 3, [1, 6, 195]), (11, .iload_n 1, 1, []), (12, .invokevirtual 276, 3, [0, 155, 3, 4, 249]), (15, .ifCond .eq 12, 3, [27]), (18, .iload_n 2, 1, []), (19, .ifCond .lt 8, 3, [27]), (22, .iload_n 2, 1, []), (23, .iconst 3, 1, []), (24, .if_icmp .le 6, 3, [30]), (27, .bipush (-2), 2, []), (29, .ireturn, 1, []), (30, .aload_n 0, 1, []), (31, .getfield 34, 3, [4, 3, 176]), (34, .aload_n 0, 1, []), (35, .getfield 39, 3, [4, 4, 178]), (38, .aload_n 0, 1, []), (39, .getfield 39, 3, [4, 4, 178]), (42, .getfield 88, 3, [2, 0, 193]), (45, .getfield 94, 3, [1, 6, 195]), (48, .iload_n 1, 1, []), (49, .invokevirtual 279, 3, [0, 6, 4, 0, 250]), (52, .aload_n 0, 1, []), (53, .getfield 34, 3, [4, 3, 176]), (56, .iload_n 2, 1, []), (57, .invokevirtual 283, 3, [0, 2, 2, 0, 251]), (60, .ireturn, 1, [])])
def ym_X_searchBy : mz_Y := (⟨"RerootStore", "searchBy", "(II)I"⟩, prog_1_method_55_code, 3, (some .int), 4, false, [(0, .aload_n 0, 1, []), (1, .iload_n 1, 1, []), (2, .iload_n 2, 1, []), (3, .invokevirtual 276, 3, [0, 155, 3, 4, 249]), (6, .ifCond .ne 6, 3, [12]), (9, .bipush (-2), 2, []), (11, .ireturn, 1, []), (12, .aload_n 0, 1, []), (13, .getfield 34, 3, [4, 3, 176]), (16, .aload_n 0, 1, []), (17, .getfield 39, 3, [4, 4, 178]), (20, .iload_n 1, 1, []), (21, .iload_n 2, 1, []), (22, .invokevirtual 279, 3, [0, 6, 4, 0, 250]), (25, .aload_n 0, 1, []), (26, .getfield 34, 3, [4, 3, 176]), (29, .iconst 2, 1, []), (30, .invokevirtual 283, 3, [0, 2, 2, 0, 251]), (33, .ireturn, 1, [])])
def ym_X_colour : mz_Y := (⟨"RerootStore", "colour", "(II)I"⟩, prog_1_method_56_code, 3, (some .int), 4, false, [(0, .aload_n 0, 1, []), (1, .aload_n 0, 1, []), (2, .getfield 39, 3, [4, 4, 178]), (5, .getfield 88, 3, [2, 0, 193]), (8, .getfield 94, 3, [1, 6, 195]), (11, .iload_n 1, 1, []), (12, .invokevirtual 276, 3, [0, 155, 3, 4, 249]), (15, .ifCond .eq 17, 3, [32]), (18, .aload_n 0, 1, []), (19, .getfield 39, 3, [4, 4, 178]), (22, .getfield 88, 3, [2, 0, 193]), (25, .iload_n 2, 1, []), (26, .invokevirtual 117, 3, [0, 20, 2, 1, 202]), (29, .ifCond .ne 6, 3, [35]), (32, .bipush (-2), 2, []), (34, .ireturn, 1, []), (35, .aload_n 0, 1, []), (36, .getfield 34, 3, [4, 3, 176]), (39, .aload_n 0, 1, []), (40, .getfield 39, 3, [4, 4, 178]), (43, .aload_n 0, 1, []), (44, .getfield 39, 3, [4, 4, 178]), (47, .getfield 88, 3, [2, 0, 193]), (50, .getfield 94, 3, [1, 6, 195]), (53, .iload_n 1, 1, []), (54, .invokevirtual 279, 3, [0, 6, 4, 0, 250]), (57, .aload_n 0, 1, []), (58, .getfield 34, 3, [4, 3, 176]), (61, .iload_n 2, 1, []), (62, .invokevirtual 286, 3, [0, 3, 2, 0, 252]), (65, .ireturn, 1, [])])
def ym_X_colours : mz_Y := (⟨"RerootStore", "colours", "()I"⟩, prog_1_method_57_code, 2, (some .int), 4, false, [(0, .aload_n 0, 1, []), (1, .invokevirtual 181, 3, [0, 109, 1, 4, 221]), (4, .ifCond .ne 6, 3, [10]), (7, .bipush (-2), 2, []), (9, .ireturn, 1, []), (10, .iconst 1, 1, []), (11, .istore_n 1, 1, []), (12, .iload_n 1, 1, []), (13, .iconst 4, 1, []), (14, .if_icmp .gt 45, 3, [59]), (17, .aload_n 0, 1, []), (18, .getfield 34, 3, [4, 3, 176]), (21, .aload_n 0, 1, []), (22, .getfield 39, 3, [4, 4, 178]), (25, .aload_n 0, 1, []), (26, .getfield 39, 3, [4, 4, 178]), (29, .getfield 88, 3, [2, 0, 193]), (32, .getfield 94, 3, [1, 6, 195]), (35, .iload_n 1, 1, []), (36, .invokevirtual 279, 3, [0, 6, 4, 0, 250]), (39, .aload_n 0, 1, []), (40, .getfield 34, 3, [4, 3, 176]), (43, .iconst 0, 1, []), (44, .invokevirtual 283, 3, [0, 2, 2, 0, 251]), (47, .iconst 1, 1, []), (48, .if_icmp .ne 5, 3, [53]), (51, .iload_n 1, 1, []), (52, .ireturn, 1, []), (53, .iinc 1 1, 3, []), (56, .goto (-44), 3, [12]), (59, .iconst (-1), 1, []), (60, .ireturn, 1, [])])
def ym_X_forward : mz_Y := (⟨"RerootStore", "forward", "(II)I"⟩, prog_1_method_58_code, 3, (some .int), 4, false, [(0, .aload_n 0, 1, []), (1, .aload_n 0, 1, []), (2, .getfield 39, 3, [4, 4, 178]), (5, .getfield 88, 3, [2, 0, 193]), (8, .getfield 94, 3, [1, 6, 195]), (11, .iload_n 1, 1, []), (12, .invokevirtual 276, 3, [0, 155, 3, 4, 249]), (15, .ifCond .eq 12, 3, [27]), (18, .iload_n 2, 1, []), (19, .ifCond .lt 8, 3, [27]), (22, .iload_n 2, 1, []), (23, .iconst 3, 1, []), (24, .if_icmp .le 6, 3, [30]), (27, .bipush (-2), 2, []), (29, .ireturn, 1, []), (30, .aload_n 0, 1, []), (31, .getfield 34, 3, [4, 3, 176]), (34, .aload_n 0, 1, []), (35, .getfield 39, 3, [4, 4, 178]), (38, .aload_n 0, 1, []), (39, .getfield 39, 3, [4, 4, 178]), (42, .getfield 88, 3, [2, 0, 193]), (45, .getfield 94, 3, [1, 6, 195]), (48, .iload_n 1, 1, []), (49, .invokevirtual 289, 3, [0, 10, 4, 0, 253]), (52, .aload_n 0, 1, []), (53, .getfield 34, 3, [4, 3, 176]), (56, .iload_n 2, 1, []), (57, .invokevirtual 283, 3, [0, 2, 2, 0, 251]), (60, .ireturn, 1, [])])
def ym_X_forwardBy : mz_Y := (⟨"RerootStore", "forwardBy", "(II)I"⟩, prog_1_method_59_code, 3, (some .int), 4, false, [(0, .aload_n 0, 1, []), (1, .iload_n 1, 1, []), (2, .iload_n 2, 1, []), (3, .invokevirtual 276, 3, [0, 155, 3, 4, 249]), (6, .ifCond .ne 6, 3, [12]), (9, .bipush (-2), 2, []), (11, .ireturn, 1, []), (12, .aload_n 0, 1, []), (13, .getfield 34, 3, [4, 3, 176]), (16, .aload_n 0, 1, []), (17, .getfield 39, 3, [4, 4, 178]), (20, .iload_n 1, 1, []), (21, .iload_n 2, 1, []), (22, .invokevirtual 289, 3, [0, 10, 4, 0, 253]), (25, .aload_n 0, 1, []), (26, .getfield 34, 3, [4, 3, 176]), (29, .iconst 2, 1, []), (30, .invokevirtual 283, 3, [0, 2, 2, 0, 251]), (33, .ireturn, 1, [])])
def ym_X_hue : mz_Y := (⟨"RerootStore", "hue", "(II)I"⟩, prog_1_method_60_code, 4, (some .int), 4, false, [(0, .aload_n 0, 1, []), (1, .aload_n 0, 1, []), (2, .getfield 39, 3, [4, 4, 178]), (5, .getfield 88, 3, [2, 0, 193]), (8, .getfield 94, 3, [1, 6, 195]), (11, .iload_n 1, 1, []), (12, .invokevirtual 276, 3, [0, 155, 3, 4, 249]), (15, .ifCond .eq 17, 3, [32]), (18, .aload_n 0, 1, []), (19, .getfield 39, 3, [4, 4, 178]), (22, .getfield 88, 3, [2, 0, 193]), (25, .iload_n 2, 1, []), (26, .invokevirtual 117, 3, [0, 20, 2, 1, 202]), (29, .ifCond .ne 6, 3, [35]), (32, .bipush (-2), 2, []), (34, .ireturn, 1, []), (35, .aload_n 0, 1, []), (36, .getfield 34, 3, [4, 3, 176]), (39, .aload_n 0, 1, []), (40, .getfield 39, 3, [4, 4, 178]), (43, .aload_n 0, 1, []), (44, .getfield 39, 3, [4, 4, 178]), (47, .getfield 88, 3, [2, 0, 193]), (50, .getfield 94, 3, [1, 6, 195]), (53, .iload_n 1, 1, []), (54, .invokevirtual 289, 3, [0, 10, 4, 0, 253]), (57, .aload_n 0, 1, []), (58, .getfield 34, 3, [4, 3, 176]), (61, .iload_n 2, 1, []), (62, .invokevirtual 286, 3, [0, 3, 2, 0, 252]), (65, .istore_n 3, 1, []), (66, .iload_n 3, 1, []), (67, .ifCond .ne 7, 3, [74]), (70, .iconst 0, 1, []), (71, .goto 9, 3, [80]), (74, .iload_n 3, 1, []), (75, .invokestatic 292, 3, [0, 290, 1, 7, 254]), (78, .iconst 1, 1, []), (79, .iadd, 1, []), (80, .ireturn, 1, [])])
def ym_X_imageAt : mz_Y := (⟨"RerootStore", "imageAt", "(I)LRerootStore$Story;"⟩, prog_1_method_61_code, 2, (some (.object "RerootStore$Story")), 4, false, [(0, .iload_n 1, 1, []), (1, .ifCond .lt 21, 3, [22]), (4, .iload_n 1, 1, []), (5, .aload_n 0, 1, []), (6, .getfield 18, 3, [4, 1, 170]), (9, .arraylength, 1, []), (10, .if_icmp .ge 12, 3, [22]), (13, .aload_n 0, 1, []), (14, .getfield 18, 3, [4, 1, 170]), (17, .iload_n 1, 1, []), (18, .aaload, 1, []), (19, .goto 4, 3, [23]), (22, .aconst_null, 1, []), (23, .areturn, 1, [])])
def ym_X_image : mz_Y := (⟨"RerootStore", "image", "(I)I"⟩, prog_1_method_62_code, 3, (some .int), 4, false, [(0, .aload_n 0, 1, []), (1, .iload_n 1, 1, []), (2, .invokevirtual 295, 3, [0, 163, 2, 4, 255]), (5, .astore_n 2, 1, []), (6, .aload_n 2, 1, []), (7, .ifnull 10, 3, [17]), (10, .aload_n 0, 1, []), (11, .invokevirtual 181, 3, [0, 109, 1, 4, 221]), (14, .ifCond .ne 6, 3, [20]), (17, .bipush (-2), 2, []), (19, .ireturn, 1, []), (20, .aload_n 2, 1, []), (21, .aload_n 0, 1, []), (22, .getfield 39, 3, [4, 4, 178]), (25, .invokevirtual 299, 3, [0, 68, 2, 2, 256]), (28, .iconst 0, 1, []), (29, .ireturn, 1, [])])
def ym_X_back : mz_Y := (⟨"RerootStore", "back", "(I)I"⟩, prog_1_method_63_code, 3, (some .int), 4, false, [(0, .aload_n 0, 1, []), (1, .iload_n 1, 1, []), (2, .invokevirtual 295, 3, [0, 163, 2, 4, 255]), (5, .astore_n 2, 1, []), (6, .aload_n 2, 1, []), (7, .ifnonnull 6, 3, [13]), (10, .bipush (-2), 2, []), (12, .ireturn, 1, []), (13, .aload_n 2, 1, []), (14, .getfield 88, 3, [2, 0, 193]), (17, .getfield 91, 3, [1, 5, 194]), (20, .ifCond .ne 6, 3, [26]), (23, .bipush (-6), 2, []), (25, .ireturn, 1, []), (26, .aload_n 0, 1, []), (27, .getfield 39, 3, [4, 4, 178]), (30, .aload_n 2, 1, []), (31, .invokevirtual 299, 3, [0, 68, 2, 2, 256]), (34, .iconst 0, 1, []), (35, .ireturn, 1, [])])
def ym_X_undo : mz_Y := (⟨"RerootStore", "undo", "()I"⟩, prog_1_method_64_code, 1, (some .int), 4, false, [(0, .aload_n 0, 1, []), (1, .invokevirtual 181, 3, [0, 109, 1, 4, 221]), (4, .ifCond .ne 6, 3, [10]), (7, .bipush (-2), 2, []), (9, .ireturn, 1, []), (10, .aload_n 0, 1, []), (11, .getfield 39, 3, [4, 4, 178]), (14, .invokevirtual 109, 3, [0, 69, 1, 2, 200]), (17, .ifCond .ne 6, 3, [23]), (20, .bipush (-5), 2, []), (22, .ireturn, 1, []), (23, .aload_n 0, 1, []), (24, .getfield 39, 3, [4, 4, 178]), (27, .aload_n 0, 1, []), (28, .getfield 39, 3, [4, 4, 178]), (31, .getfield 106, 3, [2, 10, 199]), (34, .iconst 1, 1, []), (35, .isub, 1, []), (36, .invokevirtual 303, 3, [0, 78, 2, 2, 257]), (39, .aload_n 0, 1, []), (40, .getfield 39, 3, [4, 4, 178]), (43, .invokevirtual 109, 3, [0, 69, 1, 2, 200]), (46, .ireturn, 1, [])])
def ym_X_anew : mz_Y := (⟨"RerootStore", "anew", "()I"⟩, prog_1_method_65_code, 2, (some .int), 4, false, [(0, .aload_n 0, 1, []), (1, .invokevirtual 181, 3, [0, 109, 1, 4, 221]), (4, .ifCond .ne 6, 3, [10]), (7, .bipush (-2), 2, []), (9, .ireturn, 1, []), (10, .aload_n 0, 1, []), (11, .getfield 39, 3, [4, 4, 178]), (14, .invokevirtual 109, 3, [0, 69, 1, 2, 200]), (17, .istore_n 1, 1, []), (18, .aload_n 0, 1, []), (19, .getfield 39, 3, [4, 4, 178]), (22, .aload_n 0, 1, []), (23, .getfield 39, 3, [4, 4, 178]), (26, .getfield 306, 3, [2, 9, 258]), (29, .invokevirtual 303, 3, [0, 78, 2, 2, 257]), (32, .iload_n 1, 1, []), (33, .ireturn, 1, [])])
def ym_Mo_in : mz_Y := (⟨"RerootStoreModel", "in", "(JJJ)Z"⟩, prog_7_method_1_code, 6, (some .boolean), 5, false, [(0, .lload_n 0, 1, []), (1, .lload_n 2, 1, []), (2, .lcmp, 1, []), (3, .ifCond .lt 14, 3, [17]), (6, .lload_n 0, 1, []), (7, .lload 4, 2, []), (9, .lcmp, 1, []), (10, .ifCond .gt 7, 3, [17]), (13, .iconst 1, 1, []), (14, .goto 4, 3, [18]), (17, .iconst 0, 1, []), (18, .ireturn, 1, [])])
def ym_Mo_has : mz_Y := (⟨"RerootStoreModel", "has", "(II)Z"⟩, prog_7_method_2_code, 2, (some .boolean), 5, false, [(0, .iload_n 0, 1, []), (1, .iload_n 1, 1, []), (2, .ishr, 1, []), (3, .iconst 1, 1, []), (4, .iand, 1, []), (5, .iconst 1, 1, []), (6, .if_icmp .ne 7, 3, [13]), (9, .iconst 1, 1, []), (10, .goto 4, 3, [14]), (13, .iconst 0, 1, []), (14, .ireturn, 1, [])])
def ym_Mo_bitsOf : mz_Y := (⟨"RerootStoreModel", "bitsOf", "(I)I"⟩, prog_7_method_3_code, 3, (some .int), 5, false, [(0, .iconst 0, 1, []), (1, .istore_n 1, 1, []), (2, .iconst 0, 1, []), (3, .istore_n 2, 1, []), (4, .iload_n 2, 1, []), (5, .bipush 12, 2, []), (7, .if_icmp .ge 17, 3, [24]), (10, .iload_n 1, 1, []), (11, .iload_n 0, 1, []), (12, .iload_n 2, 1, []), (13, .ishr, 1, []), (14, .iconst 1, 1, []), (15, .iand, 1, []), (16, .iadd, 1, []), (17, .istore_n 1, 1, []), (18, .iinc 2 1, 3, []), (21, .goto (-17), 3, [4]), (24, .iload_n 1, 1, []), (25, .ireturn, 1, [])])
def ym_Mo_init : mz_Y := (⟨"RerootStoreModel", "<init>", "()V"⟩, prog_7_method_4_code, 1, none, 5, true, [(0, .aload_n 0, 1, []), (1, .invokespecial 3, 3, [1, 0, 1, 0, 259]), (4, .aload_n 0, 1, []), (5, .sipush 259, 3, []), (8, .newarray .int, 2, []), (10, .putfield 9, 3, [5, 0, 260]), (13, .aload_n 0, 1, []), (14, .sipush 259, 3, []), (17, .newarray .int, 2, []), (19, .putfield 13, 3, [5, 1, 261]), (22, .aload_n 0, 1, []), (23, .sipush 500, 3, []), (26, .newarray .int, 2, []), (28, .putfield 16, 3, [5, 2, 262]), (31, .aload_n 0, 1, []), (32, .iconst (-1), 1, []), (33, .putfield 19, 3, [5, 5, 263]), (36, .aload_n 0, 1, []), (37, .sipush 2412, 3, []), (40, .newarray .int, 2, []), (42, .putfield 23, 3, [5, 6, 264]), (45, .aload_n 0, 1, []), (46, .sipush 201, 3, []), (49, .newarray .int, 2, []), (51, .putfield 26, 3, [5, 7, 265]), (54, .aload_n 0, 1, []), (55, .sipush 201, 3, []), (58, .newarray .int, 2, []), (60, .putfield 29, 3, [5, 8, 266]), (63, .aload_n 0, 1, []), (64, .sipush 201, 3, []), (67, .newarray .int, 2, []), (69, .putfield 32, 3, [5, 9, 267]), (72, .aload_n 0, 1, []), (73, .sipush 201, 3, []), (76, .newarray .int, 2, []), (78, .putfield 35, 3, [5, 10, 268]), (81, .aload_n 0, 1, []), (82, .sipush 201, 3, []), (85, .newarray .int, 2, []), (87, .putfield 38, 3, [5, 11, 269]), (90, .aload_n 0, 1, []), (91, .sipush 201, 3, []), (94, .newarray .int, 2, []), (96, .putfield 41, 3, [5, 12, 270]), (99, .aload_n 0, 1, []), (100, .sipush 201, 3, []), (103, .newarray .int, 2, []), (105, .putfield 44, 3, [5, 13, 271]), (108, .aload_n 0, 1, []), (109, .bipush 60, 2, []), (111, .newarray .int, 2, []), (113, .putfield 47, 3, [5, 18, 272]), (116, .aload_n 0, 1, []), (117, .sipush 777, 3, []), (120, .newarray .int, 2, []), (122, .putfield 50, 3, [5, 26, 273]), (125, .aload_n 0, 1, []), (126, .iconst 3, 1, []), (127, .newarray .boolean, 2, []), (129, .putfield 53, 3, [5, 27, 274]), (132, .aload_n 0, 1, []), (133, .bipush 12, 2, []), (135, .newarray .int, 2, []), (137, .putfield 57, 3, [5, 31, 275]), (140, .aload_n 0, 1, []), (141, .bipush 12, 2, []), (143, .newarray .int, 2, []), (145, .putfield 60, 3, [5, 32, 276]), (148, .aload_n 0, 1, []), (149, .bipush 12, 2, []), (151, .newarray .int, 2, []), (153, .putfield 63, 3, [5, 33, 277]), (156, .aload_n 0, 1, []), (157, .bipush 12, 2, []), (159, .newarray .int, 2, []), (161, .putfield 66, 3, [5, 34, 278]), (164, .aload_n 0, 1, []), (165, .bipush 12, 2, []), (167, .newarray .int, 2, []), (169, .putfield 69, 3, [5, 35, 279]), (172, .aload_n 0, 1, []), (173, .bipush 12, 2, []), (175, .newarray .int, 2, []), (177, .putfield 72, 3, [5, 36, 280]), (180, .return_, 1, [])])
def ym_Mo_feed : mz_Y := (⟨"RerootStoreModel", "feed", "(IIIII)I"⟩, prog_7_method_5_code, 8, (some .int), 5, false, [(0, .aload_n 0, 1, []), (1, .getfield 75, 3, [5, 3, 281]), (4, .sipush 480, 3, []), (7, .if_icmp .le 5, 3, [12]), (10, .iconst (-1), 1, []), (11, .ireturn, 1, []), (12, .iconst 5, 1, []), (13, .newarray .int, 2, []), (15, .dup, 1, []), (16, .iconst 0, 1, []), (17, .iload_n 1, 1, []), (18, .iastore, 1, []), (19, .dup, 1, []), (20, .iconst 1, 1, []), (21, .iload_n 2, 1, []), (22, .iastore, 1, []), (23, .dup, 1, []), (24, .iconst 2, 1, []), (25, .iload_n 3, 1, []), (26, .iastore, 1, []), (27, .dup, 1, []), (28, .iconst 3, 1, []), (29, .iload 4, 2, []), (31, .iastore, 1, []), (32, .dup, 1, []), (33, .iconst 4, 1, []), (34, .iload 5, 2, []), (36, .iastore, 1, []), (37, .astore 6, 2, []), (39, .iconst 0, 1, []), (40, .istore 7, 2, []), (42, .iload 7, 2, []), (44, .bipush 20, 2, []), (46, .if_icmp .ge 43, 3, [89]), (49, .aload_n 0, 1, []), (50, .getfield 16, 3, [5, 2, 262]), (53, .aload_n 0, 1, []), (54, .getfield 75, 3, [5, 3, 281]), (57, .iload 7, 2, []), (59, .iadd, 1, []), (60, .aload 6, 2, []), (62, .iload 7, 2, []), (64, .iconst 4, 1, []), (65, .idiv, 1, []), (66, .iaload, 1, []), (67, .bipush 24, 2, []), (69, .bipush 8, 2, []), (71, .iload 7, 2, []), (73, .iconst 4, 1, []), (74, .irem, 1, []), (75, .imul, 1, []), (76, .isub, 1, []), (77, .iushr, 1, []), (78, .sipush 255, 3, []), (81, .iand, 1, []), (82, .iastore, 1, []), (83, .iinc 7 1, 3, []), (86, .goto (-44), 3, [42]), (89, .aload_n 0, 1, []), (90, .dup, 1, []), (91, .getfield 75, 3, [5, 3, 281]), (94, .bipush 20, 2, []), (96, .iadd, 1, []), (97, .putfield 75, 3, [5, 3, 281]), (100, .aload_n 0, 1, []), (101, .getfield 75, 3, [5, 3, 281]), (104, .ireturn, 1, [])])
def ym_Mo_end : mz_Y := (⟨"RerootStoreModel", "end", "(I)I"⟩, prog_7_method_6_code, 2, (some .int), 5, false, [(0, .iload_n 1, 1, []), (1, .i2l, 1, []), (2, .lconst 0, 1, []), (3, .aload_n 0, 1, []), (4, .getfield 75, 3, [5, 3, 281]), (7, .i2l, 1, []), (8, .invokestatic 78, 3, [0, 168, 3, 5, 282]), (11, .ifCond .ne 5, 3, [16]), (14, .iconst (-1), 1, []), (15, .ireturn, 1, []), (16, .aload_n 0, 1, []), (17, .iload_n 1, 1, []), (18, .putfield 75, 3, [5, 3, 281]), (21, .iload_n 1, 1, []), (22, .ireturn, 1, [])])
def ym_Mo_at : mz_Y := (⟨"RerootStoreModel", "at", "(II)I"⟩, prog_7_method_7_code, 3, (some .int), 5, false, [(0, .aload_n 0, 1, []), (1, .getfield 23, 3, [5, 6, 264]), (4, .bipush 12, 2, []), (6, .iload_n 1, 1, []), (7, .imul, 1, []), (8, .iload_n 2, 1, []), (9, .iadd, 1, []), (10, .iaload, 1, []), (11, .ireturn, 1, [])])
def ym_Mo_begins : mz_Y := (⟨"RerootStoreModel", "begins", "(III)V"⟩, prog_7_method_8_code, 5, none, 5, false, [(0, .aload_n 0, 1, []), (1, .iload_n 1, 1, []), (2, .putfield 82, 3, [5, 15, 283]), (5, .aload_n 0, 1, []), (6, .iload_n 2, 1, []), (7, .putfield 85, 3, [5, 16, 284]), (10, .aload_n 0, 1, []), (11, .iconst 1, 1, []), (12, .putfield 88, 3, [5, 14, 285]), (15, .iconst 0, 1, []), (16, .istore 4, 2, []), (18, .iload 4, 2, []), (20, .bipush 12, 2, []), (22, .if_icmp .ge 27, 3, [49]), (25, .aload_n 0, 1, []), (26, .getfield 23, 3, [5, 6, 264]), (29, .iload 4, 2, []), (31, .iload_n 3, 1, []), (32, .iconst (-1), 1, []), (33, .if_icmp .ne 8, 3, [41]), (36, .iload 4, 2, []), (38, .goto 4, 3, [42]), (41, .iload_n 3, 1, []), (42, .iastore, 1, []), (43, .iinc 4 1, 3, []), (46, .goto (-28), 3, [18]), (49, .aload_n 0, 1, []), (50, .getfield 26, 3, [5, 7, 265]), (53, .iconst 0, 1, []), (54, .iconst (-1), 1, []), (55, .iastore, 1, []), (56, .aload_n 0, 1, []), (57, .getfield 29, 3, [5, 8, 266]), (60, .iconst 0, 1, []), (61, .iconst (-1), 1, []), (62, .iastore, 1, []), (63, .aload_n 0, 1, []), (64, .getfield 32, 3, [5, 9, 267]), (67, .iconst 0, 1, []), (68, .iconst (-1), 1, []), (69, .iastore, 1, []), (70, .aload_n 0, 1, []), (71, .iconst 0, 1, []), (72, .invokevirtual 91, 3, [0, 176, 2, 5, 286]), (75, .return_, 1, [])])
def ym_Mo_straight : mz_Y := (⟨"RerootStoreModel", "straight", "(I)V"⟩, prog_7_method_9_code, 2, none, 5, false, [(0, .aload_n 0, 1, []), (1, .getfield 35, 3, [5, 10, 268]), (4, .iload_n 1, 1, []), (5, .iconst (-1), 1, []), (6, .iastore, 1, []), (7, .aload_n 0, 1, []), (8, .getfield 38, 3, [5, 11, 269]), (11, .iload_n 1, 1, []), (12, .iconst (-1), 1, []), (13, .iastore, 1, []), (14, .aload_n 0, 1, []), (15, .getfield 41, 3, [5, 12, 270]), (18, .iload_n 1, 1, []), (19, .iconst (-1), 1, []), (20, .iastore, 1, []), (21, .return_, 1, [])])
def ym_Mo_links : mz_Y := (⟨"RerootStoreModel", "links", "(III)V"⟩, prog_7_method_10_code, 4, none, 5, false, [(0, .aload_n 0, 1, []), (1, .getfield 35, 3, [5, 10, 268]), (4, .iload_n 1, 1, []), (5, .iload_n 2, 1, []), (6, .iastore, 1, []), (7, .aload_n 0, 1, []), (8, .getfield 38, 3, [5, 11, 269]), (11, .iload_n 1, 1, []), (12, .iload_n 3, 1, []), (13, .iastore, 1, []), (14, .aload_n 0, 1, []), (15, .getfield 41, 3, [5, 12, 270]), (18, .iload_n 1, 1, []), (19, .aload_n 0, 1, []), (20, .iload_n 1, 1, []), (21, .iload_n 3, 1, []), (22, .invokevirtual 95, 3, [0, 174, 3, 5, 287]), (25, .iastore, 1, []), (26, .return_, 1, [])])
def ym_Mo_lengthOf : mz_Y := (⟨"RerootStoreModel", "lengthOf", "(I)I"⟩, prog_7_method_11_code, 4, (some .int), 5, false, [(0, .iconst 0, 1, []), (1, .istore_n 2, 1, []), (2, .iload_n 1, 1, []), (3, .istore_n 3, 1, []), (4, .aload_n 0, 1, []), (5, .getfield 35, 3, [5, 10, 268]), (8, .iload_n 3, 1, []), (9, .iaload, 1, []), (10, .iconst (-1), 1, []), (11, .if_icmp .eq 16, 3, [27]), (14, .iinc 2 1, 3, []), (17, .aload_n 0, 1, []), (18, .getfield 35, 3, [5, 10, 268]), (21, .iload_n 3, 1, []), (22, .iaload, 1, []), (23, .istore_n 3, 1, []), (24, .goto (-20), 3, [4]), (27, .iload_n 2, 1, []), (28, .ireturn, 1, [])])
def ym_Mo_turns : mz_Y := (⟨"RerootStoreModel", "turns", "(I)V"⟩, prog_7_method_12_code, 7, none, 5, false, [(0, .iconst 0, 1, []), (1, .istore_n 2, 1, []), (2, .iload_n 1, 1, []), (3, .istore_n 3, 1, []), (4, .aload_n 0, 1, []), (5, .getfield 35, 3, [5, 10, 268]), (8, .iload_n 3, 1, []), (9, .iaload, 1, []), (10, .iconst (-1), 1, []), (11, .if_icmp .eq 23, 3, [34]), (14, .aload_n 0, 1, []), (15, .getfield 44, 3, [5, 13, 271]), (18, .iload_n 2, 1, []), (19, .iload_n 3, 1, []), (20, .iastore, 1, []), (21, .iinc 2 1, 3, []), (24, .aload_n 0, 1, []), (25, .getfield 35, 3, [5, 10, 268]), (28, .iload_n 3, 1, []), (29, .iaload, 1, []), (30, .istore_n 3, 1, []), (31, .goto (-27), 3, [4]), (34, .iload_n 2, 1, []), (35, .iconst 1, 1, []), (36, .isub, 1, []), (37, .istore_n 3, 1, []), (38, .iload_n 3, 1, []), (39, .ifCond .lt 61, 3, [100]), (42, .aload_n 0, 1, []), (43, .getfield 44, 3, [5, 13, 271]), (46, .iload_n 3, 1, []), (47, .iaload, 1, []), (48, .istore 4, 2, []), (50, .aload_n 0, 1, []), (51, .getfield 35, 3, [5, 10, 268]), (54, .iload 4, 2, []), (56, .iaload, 1, []), (57, .istore 5, 2, []), (59, .aload_n 0, 1, []), (60, .getfield 38, 3, [5, 11, 269]), (63, .iload 4, 2, []), (65, .iaload, 1, []), (66, .istore 6, 2, []), (68, .aload_n 0, 1, []), (69, .iload 4, 2, []), (71, .invokevirtual 91, 3, [0, 176, 2, 5, 286]), (74, .aload_n 0, 1, []), (75, .iload 5, 2, []), (77, .iload 4, 2, []), (79, .iload 6, 2, []), (81, .invokevirtual 99, 3, [0, 177, 4, 5, 288]), (84, .aload_n 0, 1, []), (85, .dup, 1, []), (86, .getfield 103, 3, [5, 17, 289]), (89, .iconst 1, 1, []), (90, .iadd, 1, []), (91, .putfield 103, 3, [5, 17, 289]), (94, .iinc 3 (-1), 3, []), (97, .goto (-59), 3, [38]), (100, .return_, 1, [])])
def ym_Mo_snap : mz_Y := (⟨"RerootStoreModel", "snap", "(I)V"⟩, prog_7_method_13_code, 2, none, 5, false, [(0, .aload_n 0, 1, []), (1, .dup, 1, []), (2, .getfield 103, 3, [5, 17, 289]), (5, .aload_n 0, 1, []), (6, .iload_n 1, 1, []), (7, .invokevirtual 106, 3, [0, 178, 2, 5, 290]), (10, .aload_n 0, 1, []), (11, .getfield 9, 3, [5, 0, 260]), (14, .iconst 0, 1, []), (15, .iaload, 1, []), (16, .iadd, 1, []), (17, .iadd, 1, []), (18, .putfield 103, 3, [5, 17, 289]), (21, .aload_n 0, 1, []), (22, .iload_n 1, 1, []), (23, .invokevirtual 91, 3, [0, 176, 2, 5, 286]), (26, .return_, 1, [])])
def ym_Mo_reach : mz_Y := (⟨"RerootStoreModel", "reach", "(I)V"⟩, prog_7_method_14_code, 2, none, 5, false, [(0, .aload_n 0, 1, []), (1, .getfield 82, 3, [5, 15, 283]), (4, .iconst 2, 1, []), (5, .if_icmp .ne 23, 3, [28]), (8, .aload_n 0, 1, []), (9, .iload_n 1, 1, []), (10, .invokevirtual 106, 3, [0, 178, 2, 5, 290]), (13, .aload_n 0, 1, []), (14, .getfield 85, 3, [5, 16, 284]), (17, .if_icmp .le 11, 3, [28]), (20, .aload_n 0, 1, []), (21, .iload_n 1, 1, []), (22, .invokevirtual 110, 3, [0, 180, 2, 5, 291]), (25, .goto 8, 3, [33]), (28, .aload_n 0, 1, []), (29, .iload_n 1, 1, []), (30, .invokevirtual 113, 3, [0, 179, 2, 5, 292]), (33, .return_, 1, [])])
def ym_Mo_along : mz_Y := (⟨"RerootStoreModel", "along", "(II)I"⟩, prog_7_method_15_code, 5, (some .int), 5, false, [(0, .iconst 0, 1, []), (1, .istore_n 3, 1, []), (2, .iload_n 1, 1, []), (3, .istore 4, 2, []), (5, .aload_n 0, 1, []), (6, .getfield 35, 3, [5, 10, 268]), (9, .iload 4, 2, []), (11, .iaload, 1, []), (12, .iconst (-1), 1, []), (13, .if_icmp .eq 29, 3, [42]), (16, .aload_n 0, 1, []), (17, .getfield 38, 3, [5, 11, 269]), (20, .iload 4, 2, []), (22, .iaload, 1, []), (23, .iload_n 2, 1, []), (24, .if_icmp .eq 18, 3, [42]), (27, .aload_n 0, 1, []), (28, .getfield 35, 3, [5, 10, 268]), (31, .iload 4, 2, []), (33, .iaload, 1, []), (34, .istore 4, 2, []), (36, .iinc 3 1, 3, []), (39, .goto (-34), 3, [5]), (42, .iload_n 3, 1, []), (43, .ireturn, 1, [])])
def ym_Mo_read : mz_Y := (⟨"RerootStoreModel", "read", "(II)I"⟩, prog_7_method_16_code, 3, (some .int), 5, false, [(0, .aload_n 0, 1, []), (1, .getfield 82, 3, [5, 15, 283]), (4, .iconst 1, 1, []), (5, .if_icmp .ne 21, 3, [26]), (8, .aload_n 0, 1, []), (9, .dup, 1, []), (10, .getfield 103, 3, [5, 17, 289]), (13, .aload_n 0, 1, []), (14, .iload_n 1, 1, []), (15, .iload_n 2, 1, []), (16, .invokevirtual 116, 3, [0, 182, 3, 5, 293]), (19, .iadd, 1, []), (20, .putfield 103, 3, [5, 17, 289]), (23, .goto 8, 3, [31]), (26, .aload_n 0, 1, []), (27, .iload_n 1, 1, []), (28, .invokevirtual 119, 3, [0, 181, 2, 5, 294]), (31, .aload_n 0, 1, []), (32, .iload_n 1, 1, []), (33, .iload_n 2, 1, []), (34, .invokevirtual 95, 3, [0, 174, 3, 5, 287]), (37, .ireturn, 1, [])])
def ym_Mo_set : mz_Y := (⟨"RerootStoreModel", "set", "(III)I"⟩, prog_7_method_17_code, 6, (some .int), 5, false, [(0, .aload_n 0, 1, []), (1, .getfield 88, 3, [5, 14, 285]), (4, .istore 4, 2, []), (6, .aload_n 0, 1, []), (7, .dup, 1, []), (8, .getfield 88, 3, [5, 14, 285]), (11, .iconst 1, 1, []), (12, .iadd, 1, []), (13, .putfield 88, 3, [5, 14, 285]), (16, .iconst 0, 1, []), (17, .istore 5, 2, []), (19, .iload 5, 2, []), (21, .bipush 12, 2, []), (23, .if_icmp .ge 29, 3, [52]), (26, .aload_n 0, 1, []), (27, .getfield 23, 3, [5, 6, 264]), (30, .bipush 12, 2, []), (32, .iload 4, 2, []), (34, .imul, 1, []), (35, .iload 5, 2, []), (37, .iadd, 1, []), (38, .aload_n 0, 1, []), (39, .iload_n 1, 1, []), (40, .iload 5, 2, []), (42, .invokevirtual 95, 3, [0, 174, 3, 5, 287]), (45, .iastore, 1, []), (46, .iinc 5 1, 3, []), (49, .goto (-30), 3, [19]), (52, .aload_n 0, 1, []), (53, .getfield 23, 3, [5, 6, 264]), (56, .bipush 12, 2, []), (58, .iload 4, 2, []), (60, .imul, 1, []), (61, .iload_n 2, 1, []), (62, .iadd, 1, []), (63, .iload_n 3, 1, []), (64, .iastore, 1, []), (65, .aload_n 0, 1, []), (66, .getfield 26, 3, [5, 7, 265]), (69, .iload 4, 2, []), (71, .iload_n 1, 1, []), (72, .iastore, 1, []), (73, .aload_n 0, 1, []), (74, .getfield 29, 3, [5, 8, 266]), (77, .iload 4, 2, []), (79, .iload_n 2, 1, []), (80, .iastore, 1, []), (81, .aload_n 0, 1, []), (82, .getfield 32, 3, [5, 9, 267]), (85, .iload 4, 2, []), (87, .iload_n 3, 1, []), (88, .iastore, 1, []), (89, .aload_n 0, 1, []), (90, .getfield 82, 3, [5, 15, 283]), (93, .iconst 1, 1, []), (94, .if_icmp .ne 14, 3, [108]), (97, .aload_n 0, 1, []), (98, .iload 4, 2, []), (100, .iload_n 1, 1, []), (101, .iload_n 2, 1, []), (102, .invokevirtual 99, 3, [0, 177, 4, 5, 288]), (105, .goto 22, 3, [127]), (108, .aload_n 0, 1, []), (109, .iload_n 1, 1, []), (110, .invokevirtual 119, 3, [0, 181, 2, 5, 294]), (113, .aload_n 0, 1, []), (114, .iload 4, 2, []), (116, .invokevirtual 91, 3, [0, 176, 2, 5, 286]), (119, .aload_n 0, 1, []), (120, .iload_n 1, 1, []), (121, .iload 4, 2, []), (123, .iload_n 2, 1, []), (124, .invokevirtual 99, 3, [0, 177, 4, 5, 288]), (127, .aload_n 0, 1, []), (128, .dup, 1, []), (129, .getfield 103, 3, [5, 17, 289]), (132, .iconst 1, 1, []), (133, .iadd, 1, []), (134, .putfield 103, 3, [5, 17, 289]), (137, .iload 4, 2, []), (139, .ireturn, 1, [])])
def ym_Mo_rootOf : mz_Y := (⟨"RerootStoreModel", "rootOf", "(II)I"⟩, prog_7_method_18_code, 5, (some .int), 5, false, [(0, .iload_n 2, 1, []), (1, .istore_n 3, 1, []), (2, .iconst 0, 1, []), (3, .istore 4, 2, []), (5, .iload 4, 2, []), (7, .aload_n 0, 1, []), (8, .getfield 9, 3, [5, 0, 260]), (11, .iconst 0, 1, []), (12, .iaload, 1, []), (13, .if_icmp .ge 26, 3, [39]), (16, .aload_n 0, 1, []), (17, .iload_n 1, 1, []), (18, .iload_n 3, 1, []), (19, .invokevirtual 95, 3, [0, 174, 3, 5, 287]), (22, .iload_n 3, 1, []), (23, .if_icmp .eq 16, 3, [39]), (26, .aload_n 0, 1, []), (27, .iload_n 1, 1, []), (28, .iload_n 3, 1, []), (29, .invokevirtual 95, 3, [0, 174, 3, 5, 287]), (32, .istore_n 3, 1, []), (33, .iinc 4 1, 3, []), (36, .goto (-31), 3, [5]), (39, .iload_n 3, 1, []), (40, .ireturn, 1, [])])
def ym_Mo_find : mz_Y := (⟨"RerootStoreModel", "find", "(II)I"⟩, prog_7_method_19_code, 6, (some .int), 5, false, [(0, .iload_n 2, 1, []), (1, .istore_n 3, 1, []), (2, .iconst 0, 1, []), (3, .istore 4, 2, []), (5, .iload 4, 2, []), (7, .aload_n 0, 1, []), (8, .getfield 9, 3, [5, 0, 260]), (11, .iconst 0, 1, []), (12, .iaload, 1, []), (13, .if_icmp .ge 28, 3, [41]), (16, .aload_n 0, 1, []), (17, .iload_n 1, 1, []), (18, .iload_n 3, 1, []), (19, .invokevirtual 122, 3, [0, 183, 3, 5, 295]), (22, .istore 5, 2, []), (24, .iload 5, 2, []), (26, .iload_n 3, 1, []), (27, .if_icmp .ne 5, 3, [32]), (30, .iload_n 3, 1, []), (31, .ireturn, 1, []), (32, .iload 5, 2, []), (34, .istore_n 3, 1, []), (35, .iinc 4 1, 3, []), (38, .goto (-33), 3, [5]), (41, .iload_n 3, 1, []), (42, .ireturn, 1, [])])
def ym_Mo_join : mz_Y := (⟨"RerootStoreModel", "join", "(III)I"⟩, prog_7_method_20_code, 6, (some .int), 5, false, [(0, .aload_n 0, 1, []), (1, .iload_n 1, 1, []), (2, .iload_n 2, 1, []), (3, .invokevirtual 125, 3, [0, 186, 3, 5, 296]), (6, .istore 4, 2, []), (8, .aload_n 0, 1, []), (9, .iload_n 1, 1, []), (10, .iload_n 3, 1, []), (11, .invokevirtual 125, 3, [0, 186, 3, 5, 296]), (14, .istore 5, 2, []), (16, .aload_n 0, 1, []), (17, .iload_n 1, 1, []), (18, .iload 4, 2, []), (20, .iload 5, 2, []), (22, .invokestatic 128, 3, [3, 292, 2, 0, 297]), (25, .iload 4, 2, []), (27, .iload 5, 2, []), (29, .invokestatic 133, 3, [4, 293, 2, 0, 298]), (32, .invokevirtual 136, 3, [0, 184, 4, 5, 299]), (35, .ireturn, 1, [])])
def ym_Mo_meetOf : mz_Y := (⟨"RerootStoreModel", "meetOf", "(II)I"⟩, prog_7_method_21_code, 5, (some .int), 5, false, [(0, .iload_n 1, 1, []), (1, .istore_n 3, 1, []), (2, .iload_n 2, 1, []), (3, .istore 4, 2, []), (5, .iload_n 3, 1, []), (6, .iload 4, 2, []), (8, .if_icmp .eq 31, 3, [39]), (11, .iload_n 3, 1, []), (12, .iload 4, 2, []), (14, .if_icmp .le 13, 3, [27]), (17, .aload_n 0, 1, []), (18, .getfield 26, 3, [5, 7, 265]), (21, .iload_n 3, 1, []), (22, .iaload, 1, []), (23, .istore_n 3, 1, []), (24, .goto (-19), 3, [5]), (27, .aload_n 0, 1, []), (28, .getfield 26, 3, [5, 7, 265]), (31, .iload 4, 2, []), (33, .iaload, 1, []), (34, .istore 4, 2, []), (36, .goto (-31), 3, [5]), (39, .iload_n 3, 1, []), (40, .ireturn, 1, [])])
def ym_Mo_isConflict : mz_Y := (⟨"RerootStoreModel", "isConflict", "(III)Z"⟩, prog_7_method_22_code, 5, (some .boolean), 5, false, [(0, .aload_n 0, 1, []), (1, .aload_n 0, 1, []), (2, .iload_n 1, 1, []), (3, .iload_n 2, 1, []), (4, .invokevirtual 140, 3, [0, 188, 3, 5, 300]), (7, .iload_n 3, 1, []), (8, .invokevirtual 95, 3, [0, 174, 3, 5, 287]), (11, .istore 4, 2, []), (13, .aload_n 0, 1, []), (14, .iload_n 1, 1, []), (15, .iload_n 3, 1, []), (16, .invokevirtual 95, 3, [0, 174, 3, 5, 287]), (19, .iload 4, 2, []), (21, .if_icmp .eq 33, 3, [54]), (24, .aload_n 0, 1, []), (25, .iload_n 2, 1, []), (26, .iload_n 3, 1, []), (27, .invokevirtual 95, 3, [0, 174, 3, 5, 287]), (30, .iload 4, 2, []), (32, .if_icmp .eq 22, 3, [54]), (35, .aload_n 0, 1, []), (36, .iload_n 1, 1, []), (37, .iload_n 3, 1, []), (38, .invokevirtual 95, 3, [0, 174, 3, 5, 287]), (41, .aload_n 0, 1, []), (42, .iload_n 2, 1, []), (43, .iload_n 3, 1, []), (44, .invokevirtual 95, 3, [0, 174, 3, 5, 287]), (47, .if_icmp .eq 7, 3, [54]), (50, .iconst 1, 1, []), (51, .goto 4, 3, [55]), (54, .iconst 0, 1, []), (55, .ireturn, 1, [])])
def ym_Mo_mergedOf : mz_Y := (⟨"RerootStoreModel", "mergedOf", "(III)I"⟩, prog_7_method_23_code, 4, (some .int), 5, false, [(0, .aload_n 0, 1, []), (1, .iload_n 1, 1, []), (2, .iload_n 2, 1, []), (3, .iload_n 3, 1, []), (4, .invokevirtual 143, 3, [0, 189, 4, 5, 301]), (7, .ifCond .eq 19, 3, [26]), (10, .aload_n 0, 1, []), (11, .iload_n 1, 1, []), (12, .iload_n 3, 1, []), (13, .invokevirtual 95, 3, [0, 174, 3, 5, 287]), (16, .aload_n 0, 1, []), (17, .iload_n 2, 1, []), (18, .iload_n 3, 1, []), (19, .invokevirtual 95, 3, [0, 174, 3, 5, 287]), (22, .invokestatic 133, 3, [4, 293, 2, 0, 298]), (25, .ireturn, 1, []), (26, .aload_n 0, 1, []), (27, .iload_n 1, 1, []), (28, .iload_n 3, 1, []), (29, .invokevirtual 95, 3, [0, 174, 3, 5, 287]), (32, .aload_n 0, 1, []), (33, .aload_n 0, 1, []), (34, .iload_n 1, 1, []), (35, .iload_n 2, 1, []), (36, .invokevirtual 140, 3, [0, 188, 3, 5, 300]), (39, .iload_n 3, 1, []), (40, .invokevirtual 95, 3, [0, 174, 3, 5, 287]), (43, .if_icmp .ne 12, 3, [55]), (46, .aload_n 0, 1, []), (47, .iload_n 2, 1, []), (48, .iload_n 3, 1, []), (49, .invokevirtual 95, 3, [0, 174, 3, 5, 287]), (52, .goto 9, 3, [61]), (55, .aload_n 0, 1, []), (56, .iload_n 1, 1, []), (57, .iload_n 3, 1, []), (58, .invokevirtual 95, 3, [0, 174, 3, 5, 287]), (61, .ireturn, 1, [])])
def ym_Mo_mergeMany : mz_Y := (⟨"RerootStoreModel", "mergeMany", "(II)I"⟩, prog_7_method_24_code, 5, (some .int), 5, false, [(0, .iconst 0, 1, []), (1, .istore_n 3, 1, []), (2, .iconst 0, 1, []), (3, .istore 4, 2, []), (5, .iload 4, 2, []), (7, .aload_n 0, 1, []), (8, .getfield 9, 3, [5, 0, 260]), (11, .iconst 0, 1, []), (12, .iaload, 1, []), (13, .if_icmp .ge 35, 3, [48]), (16, .iload_n 3, 1, []), (17, .aload_n 0, 1, []), (18, .iload_n 1, 1, []), (19, .iload_n 2, 1, []), (20, .iload 4, 2, []), (22, .invokevirtual 147, 3, [0, 190, 4, 5, 302]), (25, .aload_n 0, 1, []), (26, .iload_n 1, 1, []), (27, .iload 4, 2, []), (29, .invokevirtual 95, 3, [0, 174, 3, 5, 287]), (32, .if_icmp .ne 7, 3, [39]), (35, .iconst 0, 1, []), (36, .goto 4, 3, [40]), (39, .iconst 1, 1, []), (40, .iadd, 1, []), (41, .istore_n 3, 1, []), (42, .iinc 4 1, 3, []), (45, .goto (-40), 3, [5]), (48, .iload_n 3, 1, []), (49, .ireturn, 1, [])])
def ym_Mo_merge : mz_Y := (⟨"RerootStoreModel", "merge", "(II)I"⟩, prog_7_method_25_code, 6, (some .int), 5, false, [(0, .iload_n 1, 1, []), (1, .istore_n 3, 1, []), (2, .iconst 0, 1, []), (3, .istore 4, 2, []), (5, .iload 4, 2, []), (7, .aload_n 0, 1, []), (8, .getfield 9, 3, [5, 0, 260]), (11, .iconst 0, 1, []), (12, .iaload, 1, []), (13, .if_icmp .ge 41, 3, [54]), (16, .aload_n 0, 1, []), (17, .iload_n 1, 1, []), (18, .iload_n 2, 1, []), (19, .iload 4, 2, []), (21, .invokevirtual 147, 3, [0, 190, 4, 5, 302]), (24, .istore 5, 2, []), (26, .iload 5, 2, []), (28, .aload_n 0, 1, []), (29, .iload_n 1, 1, []), (30, .iload 4, 2, []), (32, .invokevirtual 95, 3, [0, 174, 3, 5, 287]), (35, .if_icmp .eq 13, 3, [48]), (38, .aload_n 0, 1, []), (39, .iload_n 3, 1, []), (40, .iload 4, 2, []), (42, .iload 5, 2, []), (44, .invokevirtual 136, 3, [0, 184, 4, 5, 299]), (47, .istore_n 3, 1, []), (48, .iinc 4 1, 3, []), (51, .goto (-46), 3, [5]), (54, .iload_n 3, 1, []), (55, .ireturn, 1, [])])
def ym_Mo_isPatched : mz_Y := (⟨"RerootStoreModel", "isPatched", "(IIII)Z"⟩, prog_7_method_26_code, 5, (some .boolean), 5, false, [(0, .aload_n 0, 1, []), (1, .iload_n 1, 1, []), (2, .iload 4, 2, []), (4, .invokevirtual 95, 3, [0, 174, 3, 5, 287]), (7, .aload_n 0, 1, []), (8, .iload_n 2, 1, []), (9, .iload 4, 2, []), (11, .invokevirtual 95, 3, [0, 174, 3, 5, 287]), (14, .if_icmp .eq 24, 3, [38]), (17, .aload_n 0, 1, []), (18, .iload_n 3, 1, []), (19, .iload 4, 2, []), (21, .invokevirtual 95, 3, [0, 174, 3, 5, 287]), (24, .aload_n 0, 1, []), (25, .iload_n 2, 1, []), (26, .iload 4, 2, []), (28, .invokevirtual 95, 3, [0, 174, 3, 5, 287]), (31, .if_icmp .eq 7, 3, [38]), (34, .iconst 1, 1, []), (35, .goto 4, 3, [39]), (38, .iconst 0, 1, []), (39, .ireturn, 1, [])])
def ym_Mo_patchMany : mz_Y := (⟨"RerootStoreModel", "patchMany", "(III)I"⟩, prog_7_method_27_code, 6, (some .int), 5, false, [(0, .iconst 0, 1, []), (1, .istore 4, 2, []), (3, .iconst 0, 1, []), (4, .istore 5, 2, []), (6, .iload 5, 2, []), (8, .aload_n 0, 1, []), (9, .getfield 9, 3, [5, 0, 260]), (12, .iconst 0, 1, []), (13, .iaload, 1, []), (14, .if_icmp .ge 31, 3, [45]), (17, .iload 4, 2, []), (19, .aload_n 0, 1, []), (20, .iload_n 1, 1, []), (21, .iload_n 2, 1, []), (22, .iload_n 3, 1, []), (23, .iload 5, 2, []), (25, .invokevirtual 150, 3, [0, 193, 5, 5, 303]), (28, .ifCond .eq 7, 3, [35]), (31, .iconst 1, 1, []), (32, .goto 4, 3, [36]), (35, .iconst 0, 1, []), (36, .iadd, 1, []), (37, .istore 4, 2, []), (39, .iinc 5 1, 3, []), (42, .goto (-36), 3, [6]), (45, .iload 4, 2, []), (47, .ireturn, 1, [])])
def ym_Mo_patch : mz_Y := (⟨"RerootStoreModel", "patch", "(III)I"⟩, prog_7_method_28_code, 6, (some .int), 5, false, [(0, .iload_n 3, 1, []), (1, .istore 4, 2, []), (3, .iconst 0, 1, []), (4, .istore 5, 2, []), (6, .iload 5, 2, []), (8, .aload_n 0, 1, []), (9, .getfield 9, 3, [5, 0, 260]), (12, .iconst 0, 1, []), (13, .iaload, 1, []), (14, .if_icmp .ge 38, 3, [52]), (17, .aload_n 0, 1, []), (18, .iload_n 1, 1, []), (19, .iload_n 2, 1, []), (20, .iload_n 3, 1, []), (21, .iload 5, 2, []), (23, .invokevirtual 150, 3, [0, 193, 5, 5, 303]), (26, .ifCond .eq 20, 3, [46]), (29, .aload_n 0, 1, []), (30, .iload 4, 2, []), (32, .iload 5, 2, []), (34, .aload_n 0, 1, []), (35, .iload_n 2, 1, []), (36, .iload 5, 2, []), (38, .invokevirtual 95, 3, [0, 174, 3, 5, 287]), (41, .invokevirtual 136, 3, [0, 184, 4, 5, 299]), (44, .istore 4, 2, []), (46, .iinc 5 1, 3, []), (49, .goto (-43), 3, [6]), (52, .iload 4, 2, []), (54, .ireturn, 1, [])])
def ym_Mo_deed : mz_Y := (⟨"RerootStoreModel", "deed", "(II)I"⟩, prog_7_method_29_code, 3, (some .int), 5, false, [(0, .aload_n 0, 1, []), (1, .getfield 9, 3, [5, 0, 260]), (4, .bipush 19, 2, []), (6, .iconst 4, 1, []), (7, .iload_n 1, 1, []), (8, .imul, 1, []), (9, .iadd, 1, []), (10, .iload_n 2, 1, []), (11, .iadd, 1, []), (12, .iaload, 1, []), (13, .ireturn, 1, [])])
def ym_Mo_does : mz_Y := (⟨"RerootStoreModel", "does", "(I)I"⟩, prog_7_method_30_code, 6, (some .int), 5, false, [(0, .aload_n 0, 1, []), (1, .iload_n 1, 1, []), (2, .iconst 1, 1, []), (3, .invokevirtual 154, 3, [0, 196, 3, 5, 304]), (6, .istore_n 2, 1, []), (7, .aload_n 0, 1, []), (8, .iload_n 1, 1, []), (9, .iconst 2, 1, []), (10, .invokevirtual 154, 3, [0, 196, 3, 5, 304]), (13, .istore_n 3, 1, []), (14, .aload_n 0, 1, []), (15, .iload_n 1, 1, []), (16, .iconst 3, 1, []), (17, .invokevirtual 154, 3, [0, 196, 3, 5, 304]), (20, .istore 4, 2, []), (22, .aload_n 0, 1, []), (23, .getfield 103, 3, [5, 17, 289]), (26, .istore 5, 2, []), (28, .aload_n 0, 1, []), (29, .iload_n 1, 1, []), (30, .iconst 0, 1, []), (31, .invokevirtual 154, 3, [0, 196, 3, 5, 304]), (34, .tableswitch 90 0 6 #[42, 51, 60, 67, 90, 74, 81], 42, [124, 76, 85, 94, 101, 124, 108, 115]), (76, .aload_n 0, 1, []), (77, .iload_n 2, 1, []), (78, .iload_n 3, 1, []), (79, .iload 4, 2, []), (81, .invokevirtual 136, 3, [0, 184, 4, 5, 299]), (84, .ireturn, 1, []), (85, .aload_n 0, 1, []), (86, .iload_n 2, 1, []), (87, .iload_n 3, 1, []), (88, .iload 4, 2, []), (90, .invokevirtual 157, 3, [0, 187, 4, 5, 305]), (93, .ireturn, 1, []), (94, .aload_n 0, 1, []), (95, .iload_n 2, 1, []), (96, .iload_n 3, 1, []), (97, .invokevirtual 122, 3, [0, 183, 3, 5, 295]), (100, .ireturn, 1, []), (101, .aload_n 0, 1, []), (102, .iload_n 2, 1, []), (103, .iload_n 3, 1, []), (104, .invokevirtual 125, 3, [0, 186, 3, 5, 296]), (107, .ireturn, 1, []), (108, .aload_n 0, 1, []), (109, .iload_n 2, 1, []), (110, .iload_n 3, 1, []), (111, .invokevirtual 160, 3, [0, 192, 3, 5, 306]), (114, .ireturn, 1, []), (115, .aload_n 0, 1, []), (116, .iload_n 2, 1, []), (117, .iload_n 3, 1, []), (118, .iload 4, 2, []), (120, .invokevirtual 163, 3, [0, 195, 4, 5, 307]), (123, .ireturn, 1, []), (124, .aload_n 0, 1, []), (125, .getfield 35, 3, [5, 10, 268]), (128, .iload_n 2, 1, []), (129, .iaload, 1, []), (130, .iconst (-1), 1, []), (131, .if_icmp .eq 8, 3, [139]), (134, .aload_n 0, 1, []), (135, .iload_n 2, 1, []), (136, .invokevirtual 110, 3, [0, 180, 2, 5, 291]), (139, .aload_n 0, 1, []), (140, .getfield 103, 3, [5, 17, 289]), (143, .iload 5, 2, []), (145, .isub, 1, []), (146, .ireturn, 1, [])])
def ym_Mo_plays : mz_Y := (⟨"RerootStoreModel", "plays", "(III)I"⟩, prog_7_method_31_code, 6, (some .int), 5, false, [(0, .aload_n 0, 1, []), (1, .iload_n 1, 1, []), (2, .iload_n 2, 1, []), (3, .iconst (-1), 1, []), (4, .invokevirtual 166, 3, [0, 175, 4, 5, 308]), (7, .iconst 0, 1, []), (8, .istore 4, 2, []), (10, .iconst 0, 1, []), (11, .istore 5, 2, []), (13, .iload 5, 2, []), (15, .aload_n 0, 1, []), (16, .getfield 9, 3, [5, 0, 260]), (19, .iconst 4, 1, []), (20, .iaload, 1, []), (21, .if_icmp .ge 47, 3, [68]), (24, .aload_n 0, 1, []), (25, .iconst 0, 1, []), (26, .putfield 103, 3, [5, 17, 289]), (29, .iload 5, 2, []), (31, .iload_n 3, 1, []), (32, .if_icmp .eq 10, 3, [42]), (35, .aload_n 0, 1, []), (36, .iload 5, 2, []), (38, .invokevirtual 169, 3, [0, 197, 2, 5, 309]), (41, .pop, 1, []), (42, .aload_n 0, 1, []), (43, .getfield 47, 3, [5, 18, 272]), (46, .iload 5, 2, []), (48, .aload_n 0, 1, []), (49, .getfield 103, 3, [5, 17, 289]), (52, .iastore, 1, []), (53, .iload 4, 2, []), (55, .aload_n 0, 1, []), (56, .getfield 103, 3, [5, 17, 289]), (59, .iadd, 1, []), (60, .istore 4, 2, []), (62, .iinc 5 1, 3, []), (65, .goto (-52), 3, [13]), (68, .iload 4, 2, []), (70, .ireturn, 1, [])])
def ym_Mo_plays2 : mz_Y := (⟨"RerootStoreModel", "plays", "()I"⟩, prog_7_method_32_code, 1, (some .int), 5, false, [(0, .aload_n 0, 1, []), (1, .aload_n 0, 1, []), (2, .getfield 9, 3, [5, 0, 260]), (5, .iconst 1, 1, []), (6, .iaload, 1, []), (7, .aload_n 0, 1, []), (8, .getfield 9, 3, [5, 0, 260]), (11, .iconst 2, 1, []), (12, .iaload, 1, []), (13, .iconst (-1), 1, []), (14, .invokevirtual 172, 3, [0, 198, 4, 5, 310]), (17, .ireturn, 1, [])])
def ym_Mo_isAt : mz_Y := (⟨"RerootStoreModel", "isAt", "(II)Z"⟩, prog_7_method_33_code, 3, (some .boolean), 5, false, [(0, .aload_n 0, 1, []), (1, .getfield 175, 3, [5, 19, 311]), (4, .aload_n 0, 1, []), (5, .getfield 75, 3, [5, 3, 281]), (8, .if_icmp .ge 27, 3, [35]), (11, .aload_n 0, 1, []), (12, .getfield 16, 3, [5, 2, 262]), (15, .aload_n 0, 1, []), (16, .getfield 175, 3, [5, 19, 311]), (19, .iaload, 1, []), (20, .i2l, 1, []), (21, .iload_n 1, 1, []), (22, .i2l, 1, []), (23, .iload_n 2, 1, []), (24, .i2l, 1, []), (25, .invokestatic 78, 3, [0, 168, 3, 5, 282]), (28, .ifCond .eq 7, 3, [35]), (31, .iconst 1, 1, []), (32, .goto 4, 3, [36]), (35, .iconst 0, 1, []), (36, .ireturn, 1, [])])
def ym_Mo_next : mz_Y := (⟨"RerootStoreModel", "next", "()V"⟩, prog_7_method_34_code, 1, none, 5, false, [(0, .aload_n 0, 1, []), (1, .bipush 32, 2, []), (3, .bipush 32, 2, []), (5, .invokevirtual 177, 3, [0, 200, 3, 5, 312]), (8, .ifCond .ne 14, 3, [22]), (11, .aload_n 0, 1, []), (12, .bipush 10, 2, []), (14, .bipush 10, 2, []), (16, .invokevirtual 177, 3, [0, 200, 3, 5, 312]), (19, .ifCond .eq 16, 3, [35]), (22, .aload_n 0, 1, []), (23, .dup, 1, []), (24, .getfield 175, 3, [5, 19, 311]), (27, .iconst 1, 1, []), (28, .iadd, 1, []), (29, .putfield 175, 3, [5, 19, 311]), (32, .goto (-32), 3, [0]), (35, .aload_n 0, 1, []), (36, .aload_n 0, 1, []), (37, .getfield 175, 3, [5, 19, 311]), (40, .putfield 181, 3, [5, 20, 313]), (43, .aload_n 0, 1, []), (44, .iconst 0, 1, []), (45, .putfield 184, 3, [5, 22, 314]), (48, .aload_n 0, 1, []), (49, .getfield 175, 3, [5, 19, 311]), (52, .aload_n 0, 1, []), (53, .getfield 75, 3, [5, 3, 281]), (56, .if_icmp .ne 11, 3, [67]), (59, .aload_n 0, 1, []), (60, .iconst 0, 1, []), (61, .putfield 187, 3, [5, 21, 315]), (64, .goto 142, 3, [206]), (67, .aload_n 0, 1, []), (68, .bipush 97, 2, []), (70, .bipush 122, 2, []), (72, .invokevirtual 177, 3, [0, 200, 3, 5, 312]), (75, .ifCond .eq 32, 3, [107]), (78, .aload_n 0, 1, []), (79, .iconst 1, 1, []), (80, .putfield 187, 3, [5, 21, 315]), (83, .aload_n 0, 1, []), (84, .bipush 97, 2, []), (86, .bipush 122, 2, []), (88, .invokevirtual 177, 3, [0, 200, 3, 5, 312]), (91, .ifCond .eq 115, 3, [206]), (94, .aload_n 0, 1, []), (95, .dup, 1, []), (96, .getfield 175, 3, [5, 19, 311]), (99, .iconst 1, 1, []), (100, .iadd, 1, []), (101, .putfield 175, 3, [5, 19, 311]), (104, .goto (-21), 3, [83]), (107, .aload_n 0, 1, []), (108, .bipush 48, 2, []), (110, .bipush 57, 2, []), (112, .invokevirtual 177, 3, [0, 200, 3, 5, 312]), (115, .ifCond .eq 61, 3, [176]), (118, .aload_n 0, 1, []), (119, .iconst 2, 1, []), (120, .putfield 187, 3, [5, 21, 315]), (123, .aload_n 0, 1, []), (124, .bipush 48, 2, []), (126, .bipush 57, 2, []), (128, .invokevirtual 177, 3, [0, 200, 3, 5, 312]), (131, .ifCond .eq 75, 3, [206]), (134, .aload_n 0, 1, []), (135, .ldc 190, 2, [0, 316, 99999]), (137, .bipush 10, 2, []), (139, .aload_n 0, 1, []), (140, .getfield 184, 3, [5, 22, 314]), (143, .imul, 1, []), (144, .aload_n 0, 1, []), (145, .getfield 16, 3, [5, 2, 262]), (148, .aload_n 0, 1, []), (149, .getfield 175, 3, [5, 19, 311]), (152, .iaload, 1, []), (153, .iadd, 1, []), (154, .bipush 48, 2, []), (156, .isub, 1, []), (157, .invokestatic 133, 3, [4, 293, 2, 0, 298]), (160, .putfield 184, 3, [5, 22, 314]), (163, .aload_n 0, 1, []), (164, .dup, 1, []), (165, .getfield 175, 3, [5, 19, 311]), (168, .iconst 1, 1, []), (169, .iadd, 1, []), (170, .putfield 175, 3, [5, 19, 311]), (173, .goto (-50), 3, [123]), (176, .aload_n 0, 1, []), (177, .aload_n 0, 1, []), (178, .bipush 59, 2, []), (180, .bipush 59, 2, []), (182, .invokevirtual 177, 3, [0, 200, 3, 5, 312]), (185, .ifCond .eq 7, 3, [192]), (188, .iconst 3, 1, []), (189, .goto 4, 3, [193]), (192, .iconst 4, 1, []), (193, .putfield 187, 3, [5, 21, 315]), (196, .aload_n 0, 1, []), (197, .dup, 1, []), (198, .getfield 175, 3, [5, 19, 311]), (201, .iconst 1, 1, []), (202, .iadd, 1, []), (203, .putfield 175, 3, [5, 19, 311]), (206, .return_, 1, [])])
def ym_Mo_faults : mz_Y := (⟨"RerootStoreModel", "faults", "(I)V"⟩, prog_7_method_35_code, 2, none, 5, false, [(0, .aload_n 0, 1, []), (1, .getfield 191, 3, [5, 23, 317]), (4, .ifCond .ne 21, 3, [25]), (7, .aload_n 0, 1, []), (8, .iconst 1, 1, []), (9, .putfield 191, 3, [5, 23, 317]), (12, .aload_n 0, 1, []), (13, .iload_n 1, 1, []), (14, .putfield 195, 3, [5, 24, 318]), (17, .aload_n 0, 1, []), (18, .aload_n 0, 1, []), (19, .getfield 181, 3, [5, 20, 313]), (22, .putfield 198, 3, [5, 25, 319]), (25, .return_, 1, [])])
def ym_Mo_isWord : mz_Y := (⟨"RerootStoreModel", "isWord", "(Ljava/lang/String;)Z"⟩, prog_7_method_36_code, 4, (some .boolean), 5, false, [(0, .aload_n 0, 1, []), (1, .getfield 187, 3, [5, 21, 315]), (4, .iconst 1, 1, []), (5, .if_icmp .ne 23, 3, [28]), (8, .aload_n 0, 1, []), (9, .getfield 175, 3, [5, 19, 311]), (12, .aload_n 0, 1, []), (13, .getfield 181, 3, [5, 20, 313]), (16, .isub, 1, []), (17, .aload_n 1, 1, []), (18, .invokevirtual 201, 3, [6, 400, 1, 0, 320]), (21, .if_icmp .ne 7, 3, [28]), (24, .iconst 1, 1, []), (25, .goto 4, 3, [29]), (28, .iconst 0, 1, []), (29, .istore_n 2, 1, []), (30, .iconst 0, 1, []), (31, .istore_n 3, 1, []), (32, .iload_n 3, 1, []), (33, .aload_n 1, 1, []), (34, .invokevirtual 201, 3, [6, 400, 1, 0, 320]), (37, .if_icmp .ge 38, 3, [75]), (40, .iload_n 2, 1, []), (41, .ifCond .eq 34, 3, [75]), (44, .aload_n 0, 1, []), (45, .getfield 16, 3, [5, 2, 262]), (48, .aload_n 0, 1, []), (49, .getfield 181, 3, [5, 20, 313]), (52, .iload_n 3, 1, []), (53, .iadd, 1, []), (54, .iaload, 1, []), (55, .aload_n 1, 1, []), (56, .iload_n 3, 1, []), (57, .invokevirtual 207, 3, [6, 401, 2, 0, 321]), (60, .if_icmp .ne 7, 3, [67]), (63, .iconst 1, 1, []), (64, .goto 4, 3, [68]), (67, .iconst 0, 1, []), (68, .istore_n 2, 1, []), (69, .iinc 3 1, 3, []), (72, .goto (-40), 3, [32]), (75, .iload_n 2, 1, []), (76, .ireturn, 1, [])])
def ym_Mo_passes : mz_Y := (⟨"RerootStoreModel", "passes", "(Z)V"⟩, prog_7_method_37_code, 2, none, 5, false, [(0, .iload_n 1, 1, []), (1, .ifCond .ne 8, 3, [9]), (4, .aload_n 0, 1, []), (5, .iconst 1, 1, []), (6, .invokevirtual 211, 3, [0, 202, 2, 5, 322]), (9, .aload_n 0, 1, []), (10, .getfield 191, 3, [5, 23, 317]), (13, .ifCond .ne 7, 3, [20]), (16, .aload_n 0, 1, []), (17, .invokevirtual 214, 3, [0, 201, 1, 5, 323]), (20, .return_, 1, [])])
def ym_Mo_number : mz_Y := (⟨"RerootStoreModel", "number", "(II)I"⟩, prog_7_method_38_code, 4, (some .int), 5, false, [(0, .aload_n 0, 1, []), (1, .getfield 184, 3, [5, 22, 314]), (4, .istore_n 3, 1, []), (5, .aload_n 0, 1, []), (6, .getfield 191, 3, [5, 23, 317]), (9, .ifCond .eq 5, 3, [14]), (12, .iload_n 1, 1, []), (13, .ireturn, 1, []), (14, .aload_n 0, 1, []), (15, .getfield 187, 3, [5, 21, 315]), (18, .iconst 2, 1, []), (19, .if_icmp .eq 11, 3, [30]), (22, .aload_n 0, 1, []), (23, .iconst 1, 1, []), (24, .invokevirtual 211, 3, [0, 202, 2, 5, 322]), (27, .goto 20, 3, [47]), (30, .iload_n 3, 1, []), (31, .i2l, 1, []), (32, .iload_n 1, 1, []), (33, .i2l, 1, []), (34, .iload_n 2, 1, []), (35, .i2l, 1, []), (36, .invokestatic 78, 3, [0, 168, 3, 5, 282]), (39, .ifCond .ne 8, 3, [47]), (42, .aload_n 0, 1, []), (43, .iconst 2, 1, []), (44, .invokevirtual 211, 3, [0, 202, 2, 5, 322]), (47, .aload_n 0, 1, []), (48, .iconst 1, 1, []), (49, .invokevirtual 217, 3, [0, 204, 2, 5, 324]), (52, .iload_n 3, 1, []), (53, .ireturn, 1, [])])
def ym_Mo_needs : mz_Y := (⟨"RerootStoreModel", "needs", "(Z)V"⟩, prog_7_method_39_code, 2, none, 5, false, [(0, .aload_n 0, 1, []), (1, .getfield 191, 3, [5, 23, 317]), (4, .ifCond .ne 20, 3, [24]), (7, .aload_n 0, 1, []), (8, .getfield 187, 3, [5, 21, 315]), (11, .iconst 2, 1, []), (12, .if_icmp .ne 12, 3, [24]), (15, .iload_n 1, 1, []), (16, .ifCond .ne 8, 3, [24]), (19, .aload_n 0, 1, []), (20, .iconst 2, 1, []), (21, .invokevirtual 211, 3, [0, 202, 2, 5, 322]), (24, .return_, 1, [])])
def ym_Mo_named : mz_Y := (⟨"RerootStoreModel", "named", "(Ljava/lang/String;II)I"⟩, prog_7_method_40_code, 4, (some .int), 5, false, [(0, .aload_n 0, 1, []), (1, .aload_n 0, 1, []), (2, .getfield 191, 3, [5, 23, 317]), (5, .ifCond .ne 11, 3, [16]), (8, .aload_n 0, 1, []), (9, .aload_n 1, 1, []), (10, .invokevirtual 221, 3, [0, 203, 2, 5, 325]), (13, .ifCond .eq 7, 3, [20]), (16, .iconst 1, 1, []), (17, .goto 4, 3, [21]), (20, .iconst 0, 1, []), (21, .invokevirtual 217, 3, [0, 204, 2, 5, 324]), (24, .aload_n 0, 1, []), (25, .iload_n 2, 1, []), (26, .iload_n 3, 1, []), (27, .invokevirtual 225, 3, [0, 205, 3, 5, 326]), (30, .ireturn, 1, [])])
def ym_Mo_readsCell : mz_Y := (⟨"RerootStoreModel", "readsCell", "()I"⟩, prog_7_method_41_code, 1, (some .int), 5, false, [(0, .aload_n 0, 1, []), (1, .iconst 0, 1, []), (2, .aload_n 0, 1, []), (3, .getfield 9, 3, [5, 0, 260]), (6, .iconst 0, 1, []), (7, .iaload, 1, []), (8, .iconst 1, 1, []), (9, .isub, 1, []), (10, .invokevirtual 225, 3, [0, 205, 3, 5, 326]), (13, .ireturn, 1, [])])
def ym_Mo_isCell : mz_Y := (⟨"RerootStoreModel", "isCell", "(I)Z"⟩, prog_7_method_42_code, 2, (some .boolean), 5, false, [(0, .iload_n 1, 1, []), (1, .i2l, 1, []), (2, .lconst 0, 1, []), (3, .aload_n 0, 1, []), (4, .getfield 9, 3, [5, 0, 260]), (7, .iconst 0, 1, []), (8, .iaload, 1, []), (9, .iconst 1, 1, []), (10, .isub, 1, []), (11, .i2l, 1, []), (12, .invokestatic 78, 3, [0, 168, 3, 5, 282]), (15, .ireturn, 1, [])])
def ym_Mo_readsStore : mz_Y := (⟨"RerootStoreModel", "readsStore", "()V"⟩, prog_7_method_43_code, 1, none, 5, false, [(0, .aload_n 0, 1, []), (1, .aload_n 0, 1, []), (2, .ldc 228, 2, [1, 327, 0]), (4, .invokevirtual 221, 3, [0, 203, 2, 5, 325]), (7, .invokevirtual 217, 3, [0, 204, 2, 5, 324]), (10, .aload_n 0, 1, []), (11, .getfield 9, 3, [5, 0, 260]), (14, .iconst 0, 1, []), (15, .aload_n 0, 1, []), (16, .ldc 230, 2, [1, 328, 7]), (18, .iconst 1, 1, []), (19, .bipush 12, 2, []), (21, .invokevirtual 232, 3, [0, 207, 4, 5, 329]), (24, .iastore, 1, []), (25, .aload_n 0, 1, []), (26, .getfield 9, 3, [5, 0, 260]), (29, .iconst 1, 1, []), (30, .aload_n 0, 1, []), (31, .ldc 236, 2, [1, 330, 8]), (33, .iconst 0, 1, []), (34, .iconst 2, 1, []), (35, .invokevirtual 232, 3, [0, 207, 4, 5, 329]), (38, .iastore, 1, []), (39, .aload_n 0, 1, []), (40, .getfield 9, 3, [5, 0, 260]), (43, .iconst 2, 1, []), (44, .aload_n 0, 1, []), (45, .ldc 237, 2, [1, 331, 9]), (47, .iconst 0, 1, []), (48, .bipush 20, 2, []), (50, .invokevirtual 232, 3, [0, 207, 4, 5, 329]), (53, .iastore, 1, []), (54, .return_, 1, [])])
def ym_Mo_readsPair : mz_Y := (⟨"RerootStoreModel", "readsPair", "()V"⟩, prog_7_method_44_code, 3, none, 5, false, [(0, .aload_n 0, 1, []), (1, .getfield 9, 3, [5, 0, 260]), (4, .iconst 3, 1, []), (5, .iaload, 1, []), (6, .bipush 16, 2, []), (8, .if_icmp .ne 8, 3, [16]), (11, .aload_n 0, 1, []), (12, .iconst 3, 1, []), (13, .invokevirtual 211, 3, [0, 202, 2, 5, 322]), (16, .aload_n 0, 1, []), (17, .iconst 1, 1, []), (18, .invokevirtual 217, 3, [0, 204, 2, 5, 324]), (21, .aload_n 0, 1, []), (22, .invokevirtual 238, 3, [0, 208, 1, 5, 332]), (25, .istore_n 1, 1, []), (26, .aload_n 0, 1, []), (27, .aload_n 0, 1, []), (28, .aload_n 0, 1, []), (29, .getfield 184, 3, [5, 22, 314]), (32, .invokevirtual 241, 3, [0, 209, 2, 5, 333]), (35, .ifCond .eq 30, 3, [65]), (38, .aload_n 0, 1, []), (39, .getfield 184, 3, [5, 22, 314]), (42, .iload_n 1, 1, []), (43, .if_icmp .eq 26, 3, [69]), (46, .aload_n 0, 1, []), (47, .getfield 9, 3, [5, 0, 260]), (50, .bipush 7, 2, []), (52, .iload_n 1, 1, []), (53, .iadd, 1, []), (54, .iaload, 1, []), (55, .aload_n 0, 1, []), (56, .getfield 184, 3, [5, 22, 314]), (59, .invokestatic 245, 3, [0, 169, 2, 5, 334]), (62, .ifCond .ne 7, 3, [69]), (65, .iconst 1, 1, []), (66, .goto 4, 3, [70]), (69, .iconst 0, 1, []), (70, .invokevirtual 248, 3, [0, 206, 2, 5, 335]), (73, .aload_n 0, 1, []), (74, .invokevirtual 238, 3, [0, 208, 1, 5, 332]), (77, .istore_n 2, 1, []), (78, .aload_n 0, 1, []), (79, .getfield 191, 3, [5, 23, 317]), (82, .ifCond .ne 43, 3, [125]), (85, .aload_n 0, 1, []), (86, .getfield 9, 3, [5, 0, 260]), (89, .bipush 7, 2, []), (91, .iload_n 1, 1, []), (92, .iadd, 1, []), (93, .dup2, 1, []), (94, .iaload, 1, []), (95, .iconst 1, 1, []), (96, .iload_n 2, 1, []), (97, .ishl, 1, []), (98, .ior, 1, []), (99, .iastore, 1, []), (100, .aload_n 0, 1, []), (101, .getfield 9, 3, [5, 0, 260]), (104, .bipush 7, 2, []), (106, .iload_n 2, 1, []), (107, .iadd, 1, []), (108, .dup2, 1, []), (109, .iaload, 1, []), (110, .iconst 1, 1, []), (111, .iload_n 1, 1, []), (112, .ishl, 1, []), (113, .ior, 1, []), (114, .iastore, 1, []), (115, .aload_n 0, 1, []), (116, .getfield 9, 3, [5, 0, 260]), (119, .iconst 3, 1, []), (120, .dup2, 1, []), (121, .iaload, 1, []), (122, .iconst 1, 1, []), (123, .iadd, 1, []), (124, .iastore, 1, []), (125, .return_, 1, [])])
def ym_Mo_kindHere : mz_Y := (⟨"RerootStoreModel", "kindHere", "()I"⟩, prog_7_method_45_code, 1, (some .int), 5, false, [(0, .aload_n 0, 1, []), (1, .ldc 251, 2, [1, 336, 2]), (3, .invokevirtual 221, 3, [0, 203, 2, 5, 325]), (6, .ifCond .eq 7, 3, [13]), (9, .iconst 0, 1, []), (10, .goto 56, 3, [66]), (13, .aload_n 0, 1, []), (14, .ldc 252, 2, [1, 337, 3]), (16, .invokevirtual 221, 3, [0, 203, 2, 5, 325]), (19, .ifCond .eq 7, 3, [26]), (22, .iconst 1, 1, []), (23, .goto 43, 3, [66]), (26, .aload_n 0, 1, []), (27, .ldc 253, 2, [1, 338, 4]), (29, .invokevirtual 221, 3, [0, 203, 2, 5, 325]), (32, .ifCond .eq 7, 3, [39]), (35, .iconst 2, 1, []), (36, .goto 30, 3, [66]), (39, .aload_n 0, 1, []), (40, .ldc 254, 2, [1, 339, 5]), (42, .invokevirtual 221, 3, [0, 203, 2, 5, 325]), (45, .ifCond .eq 7, 3, [52]), (48, .iconst 3, 1, []), (49, .goto 17, 3, [66]), (52, .aload_n 0, 1, []), (53, .ldc 255, 2, [1, 340, 6]), (55, .invokevirtual 221, 3, [0, 203, 2, 5, 325]), (58, .ifCond .eq 7, 3, [65]), (61, .iconst 4, 1, []), (62, .goto 4, 3, [66]), (65, .iconst (-1), 1, []), (66, .ireturn, 1, [])])
def ym_Mo_readsDeed : mz_Y := (⟨"RerootStoreModel", "readsDeed", "(I)V"⟩, prog_7_method_46_code, 5, none, 5, false, [(0, .iload_n 1, 1, []), (1, .iconst (-1), 1, []), (2, .if_icmp .ne 9, 3, [11]), (5, .aload_n 0, 1, []), (6, .iconst 1, 1, []), (7, .invokevirtual 211, 3, [0, 202, 2, 5, 322]), (10, .return_, 1, []), (11, .aload_n 0, 1, []), (12, .invokevirtual 256, 3, [0, 199, 1, 5, 341]), (15, .pop, 1, []), (16, .aload_n 0, 1, []), (17, .getfield 9, 3, [5, 0, 260]), (20, .iconst 4, 1, []), (21, .iaload, 1, []), (22, .bipush 30, 2, []), (24, .if_icmp .eq 17, 3, [41]), (27, .iload_n 1, 1, []), (28, .iconst 1, 1, []), (29, .if_icmp .gt 17, 3, [46]), (32, .aload_n 0, 1, []), (33, .getfield 88, 3, [5, 14, 285]), (36, .bipush 20, 2, []), (38, .if_icmp .ne 8, 3, [46]), (41, .aload_n 0, 1, []), (42, .iconst 3, 1, []), (43, .invokevirtual 211, 3, [0, 202, 2, 5, 322]), (46, .aload_n 0, 1, []), (47, .iconst 1, 1, []), (48, .invokevirtual 217, 3, [0, 204, 2, 5, 324]), (51, .iload_n 1, 1, []), (52, .iconst 4, 1, []), (53, .if_icmp .ne 44, 3, [97]), (56, .aload_n 0, 1, []), (57, .aload_n 0, 1, []), (58, .getfield 184, 3, [5, 22, 314]), (61, .i2l, 1, []), (62, .lconst 0, 1, []), (63, .aload_n 0, 1, []), (64, .getfield 88, 3, [5, 14, 285]), (67, .iconst 1, 1, []), (68, .isub, 1, []), (69, .i2l, 1, []), (70, .invokestatic 78, 3, [0, 168, 3, 5, 282]), (73, .ifCond .eq 16, 3, [89]), (76, .aload_n 0, 1, []), (77, .getfield 35, 3, [5, 10, 268]), (80, .aload_n 0, 1, []), (81, .getfield 184, 3, [5, 22, 314]), (84, .iaload, 1, []), (85, .iconst (-1), 1, []), (86, .if_icmp .eq 7, 3, [93]), (89, .iconst 1, 1, []), (90, .goto 4, 3, [94]), (93, .iconst 0, 1, []), (94, .invokevirtual 248, 3, [0, 206, 2, 5, 335]), (97, .aload_n 0, 1, []), (98, .iconst 0, 1, []), (99, .aload_n 0, 1, []), (100, .getfield 88, 3, [5, 14, 285]), (103, .iconst 1, 1, []), (104, .isub, 1, []), (105, .invokevirtual 225, 3, [0, 205, 3, 5, 326]), (108, .istore_n 2, 1, []), (109, .iload_n 1, 1, []), (110, .iconst 4, 1, []), (111, .if_icmp .eq 10, 3, [121]), (114, .aload_n 0, 1, []), (115, .getfield 191, 3, [5, 23, 317]), (118, .ifCond .eq 7, 3, [125]), (121, .iconst 0, 1, []), (122, .goto 7, 3, [129]), (125, .aload_n 0, 1, []), (126, .invokevirtual 238, 3, [0, 208, 1, 5, 332]), (129, .istore_n 3, 1, []), (130, .iload_n 1, 1, []), (131, .iconst 1, 1, []), (132, .if_icmp .ne 48, 3, [180]), (135, .aload_n 0, 1, []), (136, .getfield 191, 3, [5, 23, 317]), (139, .ifCond .ne 41, 3, [180]), (142, .aload_n 0, 1, []), (143, .aload_n 0, 1, []), (144, .aload_n 0, 1, []), (145, .getfield 184, 3, [5, 22, 314]), (148, .invokevirtual 241, 3, [0, 209, 2, 5, 333]), (151, .ifCond .eq 21, 3, [172]), (154, .aload_n 0, 1, []), (155, .iload_n 2, 1, []), (156, .iload_n 3, 1, []), (157, .invokevirtual 258, 3, [0, 185, 3, 5, 342]), (160, .aload_n 0, 1, []), (161, .iload_n 2, 1, []), (162, .aload_n 0, 1, []), (163, .getfield 184, 3, [5, 22, 314]), (166, .invokevirtual 258, 3, [0, 185, 3, 5, 342]), (169, .if_icmp .eq 7, 3, [176]), (172, .iconst 1, 1, []), (173, .goto 4, 3, [177]), (176, .iconst 0, 1, []), (177, .invokevirtual 248, 3, [0, 206, 2, 5, 335]), (180, .iload_n 1, 1, []), (181, .iconst 1, 1, []), (182, .if_icmp .gt 10, 3, [192]), (185, .aload_n 0, 1, []), (186, .getfield 191, 3, [5, 23, 317]), (189, .ifCond .eq 7, 3, [196]), (192, .iconst 0, 1, []), (193, .goto 7, 3, [200]), (196, .aload_n 0, 1, []), (197, .invokevirtual 238, 3, [0, 208, 1, 5, 332]), (200, .istore 4, 2, []), (202, .aload_n 0, 1, []), (203, .getfield 191, 3, [5, 23, 317]), (206, .ifCond .ne 12, 3, [218]), (209, .aload_n 0, 1, []), (210, .iload_n 1, 1, []), (211, .iload_n 2, 1, []), (212, .iload_n 3, 1, []), (213, .iload 4, 2, []), (215, .invokevirtual 261, 3, [0, 214, 5, 5, 343]), (218, .return_, 1, [])])
def ym_Mo_lays : mz_Y := (⟨"RerootStoreModel", "lays", "(IIII)V"⟩, prog_7_method_47_code, 6, none, 5, false, [(0, .bipush 19, 2, []), (2, .iconst 4, 1, []), (3, .aload_n 0, 1, []), (4, .getfield 9, 3, [5, 0, 260]), (7, .iconst 4, 1, []), (8, .iaload, 1, []), (9, .imul, 1, []), (10, .iadd, 1, []), (11, .istore 5, 2, []), (13, .aload_n 0, 1, []), (14, .getfield 9, 3, [5, 0, 260]), (17, .iload 5, 2, []), (19, .iload_n 1, 1, []), (20, .iastore, 1, []), (21, .aload_n 0, 1, []), (22, .getfield 9, 3, [5, 0, 260]), (25, .iload 5, 2, []), (27, .iconst 1, 1, []), (28, .iadd, 1, []), (29, .iload_n 2, 1, []), (30, .iastore, 1, []), (31, .aload_n 0, 1, []), (32, .getfield 9, 3, [5, 0, 260]), (35, .iload 5, 2, []), (37, .iconst 2, 1, []), (38, .iadd, 1, []), (39, .iload_n 3, 1, []), (40, .iastore, 1, []), (41, .aload_n 0, 1, []), (42, .getfield 9, 3, [5, 0, 260]), (45, .iload 5, 2, []), (47, .iconst 3, 1, []), (48, .iadd, 1, []), (49, .iload 4, 2, []), (51, .iastore, 1, []), (52, .aload_n 0, 1, []), (53, .getfield 9, 3, [5, 0, 260]), (56, .iconst 4, 1, []), (57, .dup2, 1, []), (58, .iaload, 1, []), (59, .iconst 1, 1, []), (60, .iadd, 1, []), (61, .iastore, 1, []), (62, .return_, 1, [])])
def ym_Mo_store : mz_Y := (⟨"RerootStoreModel", "store", "()I"⟩, prog_7_method_48_code, 2, (some .int), 5, false, [(0, .iconst 0, 1, []), (1, .istore_n 1, 1, []), (2, .iload_n 1, 1, []), (3, .sipush 259, 3, []), (6, .if_icmp .ge 28, 3, [34]), (9, .aload_n 0, 1, []), (10, .getfield 13, 3, [5, 1, 261]), (13, .iload_n 1, 1, []), (14, .aload_n 0, 1, []), (15, .getfield 9, 3, [5, 0, 260]), (18, .iload_n 1, 1, []), (19, .iaload, 1, []), (20, .iastore, 1, []), (21, .aload_n 0, 1, []), (22, .getfield 9, 3, [5, 0, 260]), (25, .iload_n 1, 1, []), (26, .iconst 0, 1, []), (27, .iastore, 1, []), (28, .iinc 1 1, 3, []), (31, .goto (-29), 3, [2]), (34, .aload_n 0, 1, []), (35, .iconst 0, 1, []), (36, .putfield 175, 3, [5, 19, 311]), (39, .aload_n 0, 1, []), (40, .iconst 0, 1, []), (41, .putfield 191, 3, [5, 23, 317]), (44, .aload_n 0, 1, []), (45, .iconst 0, 1, []), (46, .putfield 195, 3, [5, 24, 318]), (49, .aload_n 0, 1, []), (50, .iconst (-1), 1, []), (51, .putfield 198, 3, [5, 25, 319]), (54, .aload_n 0, 1, []), (55, .invokevirtual 214, 3, [0, 201, 1, 5, 323]), (58, .aload_n 0, 1, []), (59, .getfield 191, 3, [5, 23, 317]), (62, .ifCond .ne 88, 3, [150]), (65, .aload_n 0, 1, []), (66, .getfield 187, 3, [5, 21, 315]), (69, .ifCond .eq 81, 3, [150]), (72, .aload_n 0, 1, []), (73, .getfield 9, 3, [5, 0, 260]), (76, .iconst 5, 1, []), (77, .iaload, 1, []), (78, .ifCond .ne 10, 3, [88]), (81, .aload_n 0, 1, []), (82, .invokevirtual 265, 3, [0, 210, 1, 5, 344]), (85, .goto 28, 3, [113]), (88, .aload_n 0, 1, []), (89, .ldc_w 268, 3, [1, 345, 1]), (92, .invokevirtual 221, 3, [0, 203, 2, 5, 325]), (95, .ifCond .eq 10, 3, [105]), (98, .aload_n 0, 1, []), (99, .invokevirtual 270, 3, [0, 211, 1, 5, 346]), (102, .goto 11, 3, [113]), (105, .aload_n 0, 1, []), (106, .aload_n 0, 1, []), (107, .invokevirtual 273, 3, [0, 212, 1, 5, 347]), (110, .invokevirtual 276, 3, [0, 213, 2, 5, 348]), (113, .aload_n 0, 1, []), (114, .aload_n 0, 1, []), (115, .getfield 191, 3, [5, 23, 317]), (118, .ifCond .ne 11, 3, [129]), (121, .aload_n 0, 1, []), (122, .getfield 187, 3, [5, 21, 315]), (125, .iconst 3, 1, []), (126, .if_icmp .ne 7, 3, [133]), (129, .iconst 1, 1, []), (130, .goto 4, 3, [134]), (133, .iconst 0, 1, []), (134, .invokevirtual 217, 3, [0, 204, 2, 5, 324]), (137, .aload_n 0, 1, []), (138, .getfield 9, 3, [5, 0, 260]), (141, .iconst 5, 1, []), (142, .dup2, 1, []), (143, .iaload, 1, []), (144, .iconst 1, 1, []), (145, .iadd, 1, []), (146, .iastore, 1, []), (147, .goto (-89), 3, [58]), (150, .aload_n 0, 1, []), (151, .iconst 0, 1, []), (152, .putfield 75, 3, [5, 3, 281]), (155, .aload_n 0, 1, []), (156, .aload_n 0, 1, []), (157, .getfield 195, 3, [5, 24, 318]), (160, .putfield 279, 3, [5, 4, 349]), (163, .aload_n 0, 1, []), (164, .aload_n 0, 1, []), (165, .getfield 198, 3, [5, 25, 319]), (168, .putfield 19, 3, [5, 5, 263]), (171, .aload_n 0, 1, []), (172, .getfield 191, 3, [5, 23, 317]), (175, .ifCond .eq 33, 3, [208]), (178, .iconst 0, 1, []), (179, .istore_n 1, 1, []), (180, .iload_n 1, 1, []), (181, .sipush 259, 3, []), (184, .if_icmp .ge 21, 3, [205]), (187, .aload_n 0, 1, []), (188, .getfield 9, 3, [5, 0, 260]), (191, .iload_n 1, 1, []), (192, .aload_n 0, 1, []), (193, .getfield 13, 3, [5, 1, 261]), (196, .iload_n 1, 1, []), (197, .iaload, 1, []), (198, .iastore, 1, []), (199, .iinc 1 1, 3, []), (202, .goto (-22), 3, [180]), (205, .bipush (-4), 2, []), (207, .ireturn, 1, []), (208, .aload_n 0, 1, []), (209, .getfield 9, 3, [5, 0, 260]), (212, .iconst 5, 1, []), (213, .iaload, 1, []), (214, .ireturn, 1, [])])
def ym_Mo_fault : mz_Y := (⟨"RerootStoreModel", "fault", "(I)I"⟩, prog_7_method_49_code, 2, (some .int), 5, false, [(0, .iload_n 1, 1, []), (1, .ifCond .ne 10, 3, [11]), (4, .aload_n 0, 1, []), (5, .getfield 279, 3, [5, 4, 349]), (8, .goto 16, 3, [24]), (11, .iload_n 1, 1, []), (12, .iconst 1, 1, []), (13, .if_icmp .ne 10, 3, [23]), (16, .aload_n 0, 1, []), (17, .getfield 19, 3, [5, 5, 263]), (20, .goto 4, 3, [24]), (23, .iconst (-1), 1, []), (24, .ireturn, 1, [])])
def ym_Mo_is : mz_Y := (⟨"RerootStoreModel", "is", "()Z"⟩, prog_7_method_50_code, 1, (some .boolean), 5, false, [(0, .aload_n 0, 1, []), (1, .getfield 9, 3, [5, 0, 260]), (4, .iconst 5, 1, []), (5, .iaload, 1, []), (6, .ifCond .le 7, 3, [13]), (9, .iconst 1, 1, []), (10, .goto 4, 3, [14]), (13, .iconst 0, 1, []), (14, .ireturn, 1, [])])
def ym_Mo_isVersion : mz_Y := (⟨"RerootStoreModel", "isVersion", "(I)Z"⟩, prog_7_method_51_code, 2, (some .boolean), 5, false, [(0, .aload_n 0, 1, []), (1, .invokevirtual 282, 3, [0, 217, 1, 5, 350]), (4, .ifCond .ne 5, 3, [9]), (7, .iconst 0, 1, []), (8, .ireturn, 1, []), (9, .aload_n 0, 1, []), (10, .invokevirtual 256, 3, [0, 199, 1, 5, 341]), (13, .pop, 1, []), (14, .iload_n 1, 1, []), (15, .i2l, 1, []), (16, .lconst 0, 1, []), (17, .aload_n 0, 1, []), (18, .getfield 88, 3, [5, 14, 285]), (21, .iconst 1, 1, []), (22, .isub, 1, []), (23, .i2l, 1, []), (24, .invokestatic 78, 3, [0, 168, 3, 5, 282]), (27, .ireturn, 1, [])])
def ym_Mo_count : mz_Y := (⟨"RerootStoreModel", "count", "(I)I"⟩, prog_7_method_52_code, 2, (some .int), 5, false, [(0, .iload_n 1, 1, []), (1, .tableswitch 111 0 8 #[51, 51, 51, 58, 77, 84, 91, 99, 106], 51, [112, 52, 52, 52, 59, 78, 85, 92, 100, 107]), (52, .aload_n 0, 1, []), (53, .getfield 9, 3, [5, 0, 260]), (56, .iload_n 1, 1, []), (57, .iaload, 1, []), (58, .ireturn, 1, []), (59, .aload_n 0, 1, []), (60, .invokevirtual 282, 3, [0, 217, 1, 5, 350]), (63, .ifCond .ne 5, 3, [68]), (66, .iconst 0, 1, []), (67, .ireturn, 1, []), (68, .aload_n 0, 1, []), (69, .invokevirtual 256, 3, [0, 199, 1, 5, 341]), (72, .pop, 1, []), (73, .aload_n 0, 1, []), (74, .getfield 88, 3, [5, 14, 285]), (77, .ireturn, 1, []), (78, .aload_n 0, 1, []), (79, .getfield 9, 3, [5, 0, 260]), (82, .iconst 3, 1, []), (83, .iaload, 1, []), (84, .ireturn, 1, []), (85, .aload_n 0, 1, []), (86, .getfield 9, 3, [5, 0, 260]), (89, .iconst 4, 1, []), (90, .iaload, 1, []), (91, .ireturn, 1, []), (92, .aload_n 0, 1, []), (93, .getfield 9, 3, [5, 0, 260]), (96, .bipush 6, 2, []), (98, .iaload, 1, []), (99, .ireturn, 1, []), (100, .aload_n 0, 1, []), (101, .getfield 9, 3, [5, 0, 260]), (104, .iconst 5, 1, []), (105, .iaload, 1, []), (106, .ireturn, 1, []), (107, .aload_n 0, 1, []), (108, .getfield 75, 3, [5, 3, 281]), (111, .ireturn, 1, []), (112, .iconst (-1), 1, []), (113, .ireturn, 1, [])])
def ym_Mo_cell : mz_Y := (⟨"RerootStoreModel", "cell", "(II)I"⟩, prog_7_method_53_code, 3, (some .int), 5, false, [(0, .aload_n 0, 1, []), (1, .iload_n 1, 1, []), (2, .invokevirtual 286, 3, [0, 218, 2, 5, 351]), (5, .ifCond .eq 20, 3, [25]), (8, .aload_n 0, 1, []), (9, .iload_n 2, 1, []), (10, .invokevirtual 241, 3, [0, 209, 2, 5, 333]), (13, .ifCond .eq 12, 3, [25]), (16, .aload_n 0, 1, []), (17, .iload_n 1, 1, []), (18, .iload_n 2, 1, []), (19, .invokevirtual 95, 3, [0, 174, 3, 5, 287]), (22, .goto 5, 3, [27]), (25, .bipush (-2), 2, []), (27, .ireturn, 1, [])])
def ym_Mo_version : mz_Y := (⟨"RerootStoreModel", "version", "(II)I"⟩, prog_7_method_54_code, 3, (some .int), 5, false, [(0, .aload_n 0, 1, []), (1, .iload_n 1, 1, []), (2, .invokevirtual 286, 3, [0, 218, 2, 5, 351]), (5, .ifCond .eq 15, 3, [20]), (8, .iload_n 2, 1, []), (9, .i2l, 1, []), (10, .lconst 0, 1, []), (11, .ldc2_w 289, 3, [0, 352, 2]), (14, .invokestatic 78, 3, [0, 168, 3, 5, 282]), (17, .ifCond .ne 6, 3, [23]), (20, .bipush (-2), 2, []), (22, .ireturn, 1, []), (23, .iload_n 2, 1, []), (24, .ifCond .ne 12, 3, [36]), (27, .aload_n 0, 1, []), (28, .getfield 26, 3, [5, 7, 265]), (31, .iload_n 1, 1, []), (32, .iaload, 1, []), (33, .goto 23, 3, [56]), (36, .iload_n 2, 1, []), (37, .iconst 1, 1, []), (38, .if_icmp .ne 12, 3, [50]), (41, .aload_n 0, 1, []), (42, .getfield 29, 3, [5, 8, 266]), (45, .iload_n 1, 1, []), (46, .iaload, 1, []), (47, .goto 9, 3, [56]), (50, .aload_n 0, 1, []), (51, .getfield 32, 3, [5, 9, 267]), (54, .iload_n 1, 1, []), (55, .iaload, 1, []), (56, .ireturn, 1, [])])
def ym_Mo_unlikeOf : mz_Y := (⟨"RerootStoreModel", "unlikeOf", "(II)I"⟩, prog_7_method_55_code, 5, (some .int), 5, false, [(0, .iconst 0, 1, []), (1, .istore_n 3, 1, []), (2, .iconst 0, 1, []), (3, .istore 4, 2, []), (5, .iload 4, 2, []), (7, .aload_n 0, 1, []), (8, .getfield 9, 3, [5, 0, 260]), (11, .iconst 0, 1, []), (12, .iaload, 1, []), (13, .if_icmp .ge 34, 3, [47]), (16, .iload_n 3, 1, []), (17, .aload_n 0, 1, []), (18, .iload_n 1, 1, []), (19, .iload 4, 2, []), (21, .invokevirtual 95, 3, [0, 174, 3, 5, 287]), (24, .aload_n 0, 1, []), (25, .iload_n 2, 1, []), (26, .iload 4, 2, []), (28, .invokevirtual 95, 3, [0, 174, 3, 5, 287]), (31, .if_icmp .ne 7, 3, [38]), (34, .iconst 0, 1, []), (35, .goto 4, 3, [39]), (38, .iconst 1, 1, []), (39, .iadd, 1, []), (40, .istore_n 3, 1, []), (41, .iinc 4 1, 3, []), (44, .goto (-39), 3, [5]), (47, .iload_n 3, 1, []), (48, .ireturn, 1, [])])
def ym_Mo_areVersions : mz_Y := (⟨"RerootStoreModel", "areVersions", "(II)Z"⟩, prog_7_method_56_code, 3, (some .boolean), 5, false, [(0, .aload_n 0, 1, []), (1, .iload_n 1, 1, []), (2, .invokevirtual 286, 3, [0, 218, 2, 5, 351]), (5, .ifCond .eq 23, 3, [28]), (8, .iload_n 2, 1, []), (9, .i2l, 1, []), (10, .lconst 0, 1, []), (11, .aload_n 0, 1, []), (12, .getfield 88, 3, [5, 14, 285]), (15, .iconst 1, 1, []), (16, .isub, 1, []), (17, .i2l, 1, []), (18, .invokestatic 78, 3, [0, 168, 3, 5, 282]), (21, .ifCond .eq 7, 3, [28]), (24, .iconst 1, 1, []), (25, .goto 4, 3, [29]), (28, .iconst 0, 1, []), (29, .ireturn, 1, [])])
def ym_Mo_unlike : mz_Y := (⟨"RerootStoreModel", "unlike", "(II)I"⟩, prog_7_method_57_code, 3, (some .int), 5, false, [(0, .aload_n 0, 1, []), (1, .iload_n 1, 1, []), (2, .iload_n 2, 1, []), (3, .invokevirtual 291, 3, [0, 223, 3, 5, 353]), (6, .ifCond .eq 12, 3, [18]), (9, .aload_n 0, 1, []), (10, .iload_n 1, 1, []), (11, .iload_n 2, 1, []), (12, .invokevirtual 294, 3, [0, 222, 3, 5, 354]), (15, .goto 5, 3, [20]), (18, .bipush (-2), 2, []), (20, .ireturn, 1, [])])
def ym_Mo_first : mz_Y := (⟨"RerootStoreModel", "first", "(I)I"⟩, prog_7_method_58_code, 3, (some .int), 5, false, [(0, .aload_n 0, 1, []), (1, .iload_n 1, 1, []), (2, .invokevirtual 286, 3, [0, 218, 2, 5, 351]), (5, .ifCond .ne 6, 3, [11]), (8, .bipush (-2), 2, []), (10, .ireturn, 1, []), (11, .iconst 0, 1, []), (12, .istore_n 2, 1, []), (13, .aload_n 0, 1, []), (14, .iload_n 2, 1, []), (15, .iload_n 1, 1, []), (16, .invokevirtual 294, 3, [0, 222, 3, 5, 354]), (19, .ifCond .le 9, 3, [28]), (22, .iinc 2 1, 3, []), (25, .goto (-12), 3, [13]), (28, .iload_n 2, 1, []), (29, .ireturn, 1, [])])
def ym_Mo_backTo : mz_Y := (⟨"RerootStoreModel", "backTo", "(II)I"⟩, prog_7_method_59_code, 5, (some .int), 5, false, [(0, .iconst 0, 1, []), (1, .istore_n 3, 1, []), (2, .iload_n 1, 1, []), (3, .istore 4, 2, []), (5, .iload 4, 2, []), (7, .iload_n 2, 1, []), (8, .if_icmp .eq 18, 3, [26]), (11, .iinc 3 1, 3, []), (14, .aload_n 0, 1, []), (15, .getfield 26, 3, [5, 7, 265]), (18, .iload 4, 2, []), (20, .iaload, 1, []), (21, .istore 4, 2, []), (23, .goto (-18), 3, [5]), (26, .iload_n 3, 1, []), (27, .ireturn, 1, [])])
def ym_Mo_meet : mz_Y := (⟨"RerootStoreModel", "meet", "(II)I"⟩, prog_7_method_60_code, 3, (some .int), 5, false, [(0, .aload_n 0, 1, []), (1, .iload_n 1, 1, []), (2, .iload_n 2, 1, []), (3, .invokevirtual 291, 3, [0, 223, 3, 5, 353]), (6, .ifCond .eq 12, 3, [18]), (9, .aload_n 0, 1, []), (10, .iload_n 1, 1, []), (11, .iload_n 2, 1, []), (12, .invokevirtual 140, 3, [0, 188, 3, 5, 300]), (15, .goto 5, 3, [20]), (18, .bipush (-2), 2, []), (20, .ireturn, 1, [])])
def ym_Mo_apart : mz_Y := (⟨"RerootStoreModel", "apart", "(II)I"⟩, prog_7_method_61_code, 4, (some .int), 5, false, [(0, .aload_n 0, 1, []), (1, .iload_n 1, 1, []), (2, .iload_n 2, 1, []), (3, .invokevirtual 291, 3, [0, 223, 3, 5, 353]), (6, .ifCond .ne 6, 3, [12]), (9, .bipush (-2), 2, []), (11, .ireturn, 1, []), (12, .aload_n 0, 1, []), (13, .iload_n 1, 1, []), (14, .iload_n 2, 1, []), (15, .invokevirtual 140, 3, [0, 188, 3, 5, 300]), (18, .istore_n 3, 1, []), (19, .aload_n 0, 1, []), (20, .iload_n 1, 1, []), (21, .iload_n 3, 1, []), (22, .invokevirtual 297, 3, [0, 226, 3, 5, 355]), (25, .aload_n 0, 1, []), (26, .iload_n 2, 1, []), (27, .iload_n 3, 1, []), (28, .invokevirtual 297, 3, [0, 226, 3, 5, 355]), (31, .iadd, 1, []), (32, .ireturn, 1, [])])
def ym_Mo_root : mz_Y := (⟨"RerootStoreModel", "root", "(II)I"⟩, prog_7_method_62_code, 3, (some .int), 5, false, [(0, .aload_n 0, 1, []), (1, .iload_n 1, 1, []), (2, .invokevirtual 286, 3, [0, 218, 2, 5, 351]), (5, .ifCond .eq 20, 3, [25]), (8, .aload_n 0, 1, []), (9, .iload_n 2, 1, []), (10, .invokevirtual 241, 3, [0, 209, 2, 5, 333]), (13, .ifCond .eq 12, 3, [25]), (16, .aload_n 0, 1, []), (17, .iload_n 1, 1, []), (18, .iload_n 2, 1, []), (19, .invokevirtual 258, 3, [0, 185, 3, 5, 342]), (22, .goto 5, 3, [27]), (25, .bipush (-2), 2, []), (27, .ireturn, 1, [])])
def ym_Mo_roots : mz_Y := (⟨"RerootStoreModel", "roots", "(I)I"⟩, prog_7_method_63_code, 4, (some .int), 5, false, [(0, .aload_n 0, 1, []), (1, .iload_n 1, 1, []), (2, .invokevirtual 286, 3, [0, 218, 2, 5, 351]), (5, .ifCond .ne 6, 3, [11]), (8, .bipush (-2), 2, []), (10, .ireturn, 1, []), (11, .iconst 0, 1, []), (12, .istore_n 2, 1, []), (13, .iconst 0, 1, []), (14, .istore_n 3, 1, []), (15, .iload_n 3, 1, []), (16, .aload_n 0, 1, []), (17, .getfield 9, 3, [5, 0, 260]), (20, .iconst 0, 1, []), (21, .iaload, 1, []), (22, .if_icmp .ge 20, 3, [42]), (25, .iload_n 2, 1, []), (26, .iconst 1, 1, []), (27, .aload_n 0, 1, []), (28, .iload_n 1, 1, []), (29, .iload_n 3, 1, []), (30, .invokevirtual 258, 3, [0, 185, 3, 5, 342]), (33, .ishl, 1, []), (34, .ior, 1, []), (35, .istore_n 2, 1, []), (36, .iinc 3 1, 3, []), (39, .goto (-24), 3, [15]), (42, .iload_n 2, 1, []), (43, .invokestatic 300, 3, [0, 170, 1, 5, 356]), (46, .ireturn, 1, [])])
def ym_Mo_together : mz_Y := (⟨"RerootStoreModel", "together", "(II)I"⟩, prog_7_method_64_code, 5, (some .int), 5, false, [(0, .aload_n 0, 1, []), (1, .iload_n 1, 1, []), (2, .invokevirtual 286, 3, [0, 218, 2, 5, 351]), (5, .ifCond .eq 11, 3, [16]), (8, .aload_n 0, 1, []), (9, .iload_n 2, 1, []), (10, .invokevirtual 241, 3, [0, 209, 2, 5, 333]), (13, .ifCond .ne 6, 3, [19]), (16, .bipush (-2), 2, []), (18, .ireturn, 1, []), (19, .iconst 0, 1, []), (20, .istore_n 3, 1, []), (21, .iconst 0, 1, []), (22, .istore 4, 2, []), (24, .iload 4, 2, []), (26, .aload_n 0, 1, []), (27, .getfield 9, 3, [5, 0, 260]), (30, .iconst 0, 1, []), (31, .iaload, 1, []), (32, .if_icmp .ge 36, 3, [68]), (35, .iload_n 3, 1, []), (36, .aload_n 0, 1, []), (37, .iload_n 1, 1, []), (38, .iload 4, 2, []), (40, .invokevirtual 258, 3, [0, 185, 3, 5, 342]), (43, .aload_n 0, 1, []), (44, .iload_n 1, 1, []), (45, .iload_n 2, 1, []), (46, .invokevirtual 258, 3, [0, 185, 3, 5, 342]), (49, .if_icmp .ne 10, 3, [59]), (52, .iconst 1, 1, []), (53, .iload 4, 2, []), (55, .ishl, 1, []), (56, .goto 4, 3, [60]), (59, .iconst 0, 1, []), (60, .ior, 1, []), (61, .istore_n 3, 1, []), (62, .iinc 4 1, 3, []), (65, .goto (-41), 3, [24]), (68, .iload_n 3, 1, []), (69, .ireturn, 1, [])])
def ym_Mo_state : mz_Y := (⟨"RerootStoreModel", "state", "(II)I"⟩, prog_7_method_65_code, 3, (some .int), 5, false, [(0, .aload_n 0, 1, []), (1, .iload_n 1, 1, []), (2, .invokevirtual 286, 3, [0, 218, 2, 5, 351]), (5, .ifCond .eq 15, 3, [20]), (8, .iload_n 2, 1, []), (9, .i2l, 1, []), (10, .lconst 0, 1, []), (11, .ldc2_w 303, 3, [0, 357, 3]), (14, .invokestatic 78, 3, [0, 168, 3, 5, 282]), (17, .ifCond .ne 6, 3, [23]), (20, .bipush (-2), 2, []), (22, .ireturn, 1, []), (23, .iload_n 2, 1, []), (24, .tableswitch 58 0 2 #[28, 44, 51], 28, [82, 52, 68, 75]), (52, .aload_n 0, 1, []), (53, .getfield 35, 3, [5, 10, 268]), (56, .iload_n 1, 1, []), (57, .iaload, 1, []), (58, .iconst (-1), 1, []), (59, .if_icmp .ne 7, 3, [66]), (62, .iconst 1, 1, []), (63, .goto 4, 3, [67]), (66, .iconst 0, 1, []), (67, .ireturn, 1, []), (68, .aload_n 0, 1, []), (69, .getfield 35, 3, [5, 10, 268]), (72, .iload_n 1, 1, []), (73, .iaload, 1, []), (74, .ireturn, 1, []), (75, .aload_n 0, 1, []), (76, .getfield 38, 3, [5, 11, 269]), (79, .iload_n 1, 1, []), (80, .iaload, 1, []), (81, .ireturn, 1, []), (82, .aload_n 0, 1, []), (83, .getfield 41, 3, [5, 12, 270]), (86, .iload_n 1, 1, []), (87, .iaload, 1, []), (88, .ireturn, 1, [])])
def ym_Mo_length : mz_Y := (⟨"RerootStoreModel", "length", "(I)I"⟩, prog_7_method_66_code, 2, (some .int), 5, false, [(0, .aload_n 0, 1, []), (1, .iload_n 1, 1, []), (2, .invokevirtual 286, 3, [0, 218, 2, 5, 351]), (5, .ifCond .eq 11, 3, [16]), (8, .aload_n 0, 1, []), (9, .iload_n 1, 1, []), (10, .invokevirtual 106, 3, [0, 178, 2, 5, 290]), (13, .goto 5, 3, [18]), (16, .bipush (-2), 2, []), (18, .ireturn, 1, [])])
def ym_Mo_longest : mz_Y := (⟨"RerootStoreModel", "longest", "()I"⟩, prog_7_method_67_code, 3, (some .int), 5, false, [(0, .aload_n 0, 1, []), (1, .invokevirtual 282, 3, [0, 217, 1, 5, 350]), (4, .ifCond .ne 6, 3, [10]), (7, .bipush (-2), 2, []), (9, .ireturn, 1, []), (10, .aload_n 0, 1, []), (11, .invokevirtual 256, 3, [0, 199, 1, 5, 341]), (14, .pop, 1, []), (15, .iconst 0, 1, []), (16, .istore_n 1, 1, []), (17, .iconst 0, 1, []), (18, .istore_n 2, 1, []), (19, .iload_n 2, 1, []), (20, .aload_n 0, 1, []), (21, .getfield 88, 3, [5, 14, 285]), (24, .if_icmp .ge 19, 3, [43]), (27, .iload_n 1, 1, []), (28, .aload_n 0, 1, []), (29, .iload_n 2, 1, []), (30, .invokevirtual 106, 3, [0, 178, 2, 5, 290]), (33, .invokestatic 128, 3, [3, 292, 2, 0, 297]), (36, .istore_n 1, 1, []), (37, .iinc 2 1, 3, []), (40, .goto (-21), 3, [19]), (43, .iload_n 1, 1, []), (44, .ireturn, 1, [])])
def ym_Mo_direct : mz_Y := (⟨"RerootStoreModel", "direct", "()I"⟩, prog_7_method_68_code, 3, (some .int), 5, false, [(0, .aload_n 0, 1, []), (1, .invokevirtual 282, 3, [0, 217, 1, 5, 350]), (4, .ifCond .ne 6, 3, [10]), (7, .bipush (-2), 2, []), (9, .ireturn, 1, []), (10, .aload_n 0, 1, []), (11, .invokevirtual 256, 3, [0, 199, 1, 5, 341]), (14, .pop, 1, []), (15, .iconst 0, 1, []), (16, .istore_n 1, 1, []), (17, .iconst 0, 1, []), (18, .istore_n 2, 1, []), (19, .iload_n 2, 1, []), (20, .aload_n 0, 1, []), (21, .getfield 88, 3, [5, 14, 285]), (24, .if_icmp .ge 27, 3, [51]), (27, .iload_n 1, 1, []), (28, .aload_n 0, 1, []), (29, .getfield 35, 3, [5, 10, 268]), (32, .iload_n 2, 1, []), (33, .iaload, 1, []), (34, .iconst (-1), 1, []), (35, .if_icmp .ne 7, 3, [42]), (38, .iconst 1, 1, []), (39, .goto 4, 3, [43]), (42, .iconst 0, 1, []), (43, .iadd, 1, []), (44, .istore_n 1, 1, []), (45, .iinc 2 1, 3, []), (48, .goto (-29), 3, [19]), (51, .iload_n 1, 1, []), (52, .ireturn, 1, [])])
def ym_Mo_ledger : mz_Y := (⟨"RerootStoreModel", "ledger", "()I"⟩, prog_7_method_69_code, 1, (some .int), 5, false, [(0, .aload_n 0, 1, []), (1, .invokevirtual 282, 3, [0, 217, 1, 5, 350]), (4, .ifCond .eq 10, 3, [14]), (7, .aload_n 0, 1, []), (8, .invokevirtual 256, 3, [0, 199, 1, 5, 341]), (11, .goto 5, 3, [16]), (14, .bipush (-2), 2, []), (16, .ireturn, 1, [])])
def ym_Mo_spent : mz_Y := (⟨"RerootStoreModel", "spent", "(I)I"⟩, prog_7_method_70_code, 2, (some .int), 5, false, [(0, .iload_n 1, 1, []), (1, .i2l, 1, []), (2, .lconst 0, 1, []), (3, .aload_n 0, 1, []), (4, .getfield 9, 3, [5, 0, 260]), (7, .iconst 4, 1, []), (8, .iaload, 1, []), (9, .iconst 1, 1, []), (10, .isub, 1, []), (11, .i2l, 1, []), (12, .invokestatic 78, 3, [0, 168, 3, 5, 282]), (15, .ifCond .ne 6, 3, [21]), (18, .bipush (-2), 2, []), (20, .ireturn, 1, []), (21, .aload_n 0, 1, []), (22, .invokevirtual 256, 3, [0, 199, 1, 5, 341]), (25, .pop, 1, []), (26, .aload_n 0, 1, []), (27, .getfield 47, 3, [5, 18, 272]), (30, .iload_n 1, 1, []), (31, .iaload, 1, []), (32, .ireturn, 1, [])])
def ym_Mo_dearest : mz_Y := (⟨"RerootStoreModel", "dearest", "()I"⟩, prog_7_method_71_code, 3, (some .int), 5, false, [(0, .aload_n 0, 1, []), (1, .invokevirtual 282, 3, [0, 217, 1, 5, 350]), (4, .ifCond .ne 6, 3, [10]), (7, .bipush (-2), 2, []), (9, .ireturn, 1, []), (10, .aload_n 0, 1, []), (11, .invokevirtual 256, 3, [0, 199, 1, 5, 341]), (14, .pop, 1, []), (15, .iconst (-1), 1, []), (16, .istore_n 1, 1, []), (17, .iconst 0, 1, []), (18, .istore_n 2, 1, []), (19, .iload_n 2, 1, []), (20, .aload_n 0, 1, []), (21, .getfield 9, 3, [5, 0, 260]), (24, .iconst 4, 1, []), (25, .iaload, 1, []), (26, .if_icmp .ge 39, 3, [65]), (29, .aload_n 0, 1, []), (30, .getfield 47, 3, [5, 18, 272]), (33, .iload_n 2, 1, []), (34, .iaload, 1, []), (35, .iload_n 1, 1, []), (36, .iconst (-1), 1, []), (37, .if_icmp .ne 7, 3, [44]), (40, .iconst 0, 1, []), (41, .goto 9, 3, [50]), (44, .aload_n 0, 1, []), (45, .getfield 47, 3, [5, 18, 272]), (48, .iload_n 1, 1, []), (49, .iaload, 1, []), (50, .if_icmp .le 7, 3, [57]), (53, .iload_n 2, 1, []), (54, .goto 4, 3, [58]), (57, .iload_n 1, 1, []), (58, .istore_n 1, 1, []), (59, .iinc 2 1, 3, []), (62, .goto (-43), 3, [19]), (65, .iload_n 1, 1, []), (66, .ireturn, 1, [])])
def ym_Mo_cost : mz_Y := (⟨"RerootStoreModel", "cost", "(II)I"⟩, prog_7_method_72_code, 3, (some .int), 5, false, [(0, .aload_n 0, 1, []), (1, .iload_n 1, 1, []), (2, .invokevirtual 286, 3, [0, 218, 2, 5, 351]), (5, .ifCond .eq 11, 3, [16]), (8, .aload_n 0, 1, []), (9, .iload_n 2, 1, []), (10, .invokevirtual 241, 3, [0, 209, 2, 5, 333]), (13, .ifCond .ne 6, 3, [19]), (16, .bipush (-2), 2, []), (18, .ireturn, 1, []), (19, .aload_n 0, 1, []), (20, .iconst 0, 1, []), (21, .putfield 103, 3, [5, 17, 289]), (24, .aload_n 0, 1, []), (25, .iload_n 1, 1, []), (26, .iload_n 2, 1, []), (27, .invokevirtual 122, 3, [0, 183, 3, 5, 295]), (30, .pop, 1, []), (31, .aload_n 0, 1, []), (32, .getfield 103, 3, [5, 17, 289]), (35, .ireturn, 1, [])])
def ym_Mo_by : mz_Y := (⟨"RerootStoreModel", "by", "(I)I"⟩, prog_7_method_73_code, 2, (some .int), 5, false, [(0, .aload_n 0, 1, []), (1, .invokevirtual 282, 3, [0, 217, 1, 5, 350]), (4, .ifCond .eq 30, 3, [34]), (7, .iload_n 1, 1, []), (8, .i2l, 1, []), (9, .lconst 0, 1, []), (10, .ldc2_w 289, 3, [0, 352, 2]), (13, .invokestatic 78, 3, [0, 168, 3, 5, 282]), (16, .ifCond .eq 18, 3, [34]), (19, .aload_n 0, 1, []), (20, .iload_n 1, 1, []), (21, .aload_n 0, 1, []), (22, .getfield 9, 3, [5, 0, 260]), (25, .iconst 2, 1, []), (26, .iaload, 1, []), (27, .iconst (-1), 1, []), (28, .invokevirtual 172, 3, [0, 198, 4, 5, 310]), (31, .goto 5, 3, [36]), (34, .bipush (-2), 2, []), (36, .ireturn, 1, [])])
def ym_Mo_cutting : mz_Y := (⟨"RerootStoreModel", "cutting", "(I)I"⟩, prog_7_method_74_code, 2, (some .int), 5, false, [(0, .aload_n 0, 1, []), (1, .invokevirtual 282, 3, [0, 217, 1, 5, 350]), (4, .ifCond .eq 25, 3, [29]), (7, .iload_n 1, 1, []), (8, .i2l, 1, []), (9, .lconst 0, 1, []), (10, .ldc2_w 305, 3, [0, 358, 20]), (13, .invokestatic 78, 3, [0, 168, 3, 5, 282]), (16, .ifCond .eq 13, 3, [29]), (19, .aload_n 0, 1, []), (20, .iconst 2, 1, []), (21, .iload_n 1, 1, []), (22, .iconst (-1), 1, []), (23, .invokevirtual 172, 3, [0, 198, 4, 5, 310]), (26, .goto 5, 3, [31]), (29, .bipush (-2), 2, []), (31, .ireturn, 1, [])])
def ym_Mo_cut : mz_Y := (⟨"RerootStoreModel", "cut", "()I"⟩, prog_7_method_75_code, 3, (some .int), 5, false, [(0, .aload_n 0, 1, []), (1, .invokevirtual 282, 3, [0, 217, 1, 5, 350]), (4, .ifCond .ne 6, 3, [10]), (7, .bipush (-2), 2, []), (9, .ireturn, 1, []), (10, .iconst 0, 1, []), (11, .istore_n 1, 1, []), (12, .iconst 1, 1, []), (13, .istore_n 2, 1, []), (14, .iload_n 2, 1, []), (15, .bipush 20, 2, []), (17, .if_icmp .gt 32, 3, [49]), (20, .aload_n 0, 1, []), (21, .iconst 2, 1, []), (22, .iload_n 2, 1, []), (23, .iconst (-1), 1, []), (24, .invokevirtual 172, 3, [0, 198, 4, 5, 310]), (27, .aload_n 0, 1, []), (28, .iconst 2, 1, []), (29, .iload_n 1, 1, []), (30, .iconst (-1), 1, []), (31, .invokevirtual 172, 3, [0, 198, 4, 5, 310]), (34, .if_icmp .ge 7, 3, [41]), (37, .iload_n 2, 1, []), (38, .goto 4, 3, [42]), (41, .iload_n 1, 1, []), (42, .istore_n 1, 1, []), (43, .iinc 2 1, 3, []), (46, .goto (-32), 3, [14]), (49, .iload_n 1, 1, []), (50, .ireturn, 1, [])])
def ym_Mo_without : mz_Y := (⟨"RerootStoreModel", "without", "(I)I"⟩, prog_7_method_76_code, 2, (some .int), 5, false, [(0, .iload_n 1, 1, []), (1, .i2l, 1, []), (2, .lconst 0, 1, []), (3, .aload_n 0, 1, []), (4, .getfield 9, 3, [5, 0, 260]), (7, .iconst 4, 1, []), (8, .iaload, 1, []), (9, .iconst 1, 1, []), (10, .isub, 1, []), (11, .i2l, 1, []), (12, .invokestatic 78, 3, [0, 168, 3, 5, 282]), (15, .ifCond .eq 22, 3, [37]), (18, .aload_n 0, 1, []), (19, .iload_n 1, 1, []), (20, .iconst 0, 1, []), (21, .invokevirtual 154, 3, [0, 196, 3, 5, 304]), (24, .i2l, 1, []), (25, .ldc2_w 289, 3, [0, 352, 2]), (28, .ldc2_w 307, 3, [0, 359, 4]), (31, .invokestatic 78, 3, [0, 168, 3, 5, 282]), (34, .ifCond .ne 6, 3, [40]), (37, .bipush (-2), 2, []), (39, .ireturn, 1, []), (40, .aload_n 0, 1, []), (41, .aload_n 0, 1, []), (42, .getfield 9, 3, [5, 0, 260]), (45, .iconst 1, 1, []), (46, .iaload, 1, []), (47, .aload_n 0, 1, []), (48, .getfield 9, 3, [5, 0, 260]), (51, .iconst 2, 1, []), (52, .iaload, 1, []), (53, .iload_n 1, 1, []), (54, .invokevirtual 172, 3, [0, 198, 4, 5, 310]), (57, .ireturn, 1, [])])
def ym_Mo_acts : mz_Y := (⟨"RerootStoreModel", "acts", "(IIII)I"⟩, prog_7_method_77_code, 7, (some .int), 5, false, [(0, .aload_n 0, 1, []), (1, .iload_n 1, 1, []), (2, .iload_n 2, 1, []), (3, .iload_n 3, 1, []), (4, .iload 4, 2, []), (6, .invokevirtual 261, 3, [0, 214, 5, 5, 343]), (9, .aload_n 0, 1, []), (10, .getfield 9, 3, [5, 0, 260]), (13, .bipush 6, 2, []), (15, .dup2, 1, []), (16, .iaload, 1, []), (17, .iconst 1, 1, []), (18, .iadd, 1, []), (19, .iastore, 1, []), (20, .aload_n 0, 1, []), (21, .aload_n 0, 1, []), (22, .getfield 9, 3, [5, 0, 260]), (25, .iconst 1, 1, []), (26, .iaload, 1, []), (27, .aload_n 0, 1, []), (28, .getfield 9, 3, [5, 0, 260]), (31, .iconst 2, 1, []), (32, .iaload, 1, []), (33, .iconst (-1), 1, []), (34, .invokevirtual 166, 3, [0, 175, 4, 5, 308]), (37, .iconst 0, 1, []), (38, .istore 5, 2, []), (40, .iconst 0, 1, []), (41, .istore 6, 2, []), (43, .iload 6, 2, []), (45, .aload_n 0, 1, []), (46, .getfield 9, 3, [5, 0, 260]), (49, .iconst 4, 1, []), (50, .iaload, 1, []), (51, .if_icmp .ge 17, 3, [68]), (54, .aload_n 0, 1, []), (55, .iload 6, 2, []), (57, .invokevirtual 169, 3, [0, 197, 2, 5, 309]), (60, .istore 5, 2, []), (62, .iinc 6 1, 3, []), (65, .goto (-22), 3, [43]), (68, .iload 5, 2, []), (70, .ireturn, 1, [])])
def ym_Mo_isFull : mz_Y := (⟨"RerootStoreModel", "isFull", "()Z"⟩, prog_7_method_78_code, 1, (some .boolean), 5, false, [(0, .aload_n 0, 1, []), (1, .getfield 9, 3, [5, 0, 260]), (4, .bipush 6, 2, []), (6, .iaload, 1, []), (7, .bipush 30, 2, []), (9, .if_icmp .ne 7, 3, [16]), (12, .iconst 1, 1, []), (13, .goto 4, 3, [17]), (16, .iconst 0, 1, []), (17, .ireturn, 1, [])])
def ym_Mo_reads : mz_Y := (⟨"RerootStoreModel", "reads", "(II)I"⟩, prog_7_method_79_code, 3, (some .int), 5, false, [(0, .aload_n 0, 1, []), (1, .iload_n 1, 1, []), (2, .invokevirtual 286, 3, [0, 218, 2, 5, 351]), (5, .ifCond .eq 11, 3, [16]), (8, .aload_n 0, 1, []), (9, .iload_n 2, 1, []), (10, .invokevirtual 241, 3, [0, 209, 2, 5, 333]), (13, .ifCond .ne 6, 3, [19]), (16, .bipush (-2), 2, []), (18, .ireturn, 1, []), (19, .aload_n 0, 1, []), (20, .invokevirtual 309, 3, [0, 245, 1, 5, 360]), (23, .ifCond .eq 8, 3, [31]), (26, .bipush (-5), 2, []), (28, .goto 11, 3, [39]), (31, .aload_n 0, 1, []), (32, .iconst 2, 1, []), (33, .iload_n 1, 1, []), (34, .iload_n 2, 1, []), (35, .iconst 0, 1, []), (36, .invokevirtual 312, 3, [0, 244, 5, 5, 361]), (39, .ireturn, 1, [])])
def ym_Mo_sets : mz_Y := (⟨"RerootStoreModel", "sets", "(III)I"⟩, prog_7_method_80_code, 4, (some .int), 5, false, [(0, .aload_n 0, 1, []), (1, .iload_n 1, 1, []), (2, .invokevirtual 286, 3, [0, 218, 2, 5, 351]), (5, .ifCond .eq 19, 3, [24]), (8, .aload_n 0, 1, []), (9, .iload_n 2, 1, []), (10, .invokevirtual 241, 3, [0, 209, 2, 5, 333]), (13, .ifCond .eq 11, 3, [24]), (16, .aload_n 0, 1, []), (17, .iload_n 3, 1, []), (18, .invokevirtual 241, 3, [0, 209, 2, 5, 333]), (21, .ifCond .ne 6, 3, [27]), (24, .bipush (-2), 2, []), (26, .ireturn, 1, []), (27, .aload_n 0, 1, []), (28, .getfield 88, 3, [5, 14, 285]), (31, .bipush 40, 2, []), (33, .if_icmp .eq 10, 3, [43]), (36, .aload_n 0, 1, []), (37, .invokevirtual 309, 3, [0, 245, 1, 5, 360]), (40, .ifCond .eq 8, 3, [48]), (43, .bipush (-5), 2, []), (45, .goto 11, 3, [56]), (48, .aload_n 0, 1, []), (49, .iconst 0, 1, []), (50, .iload_n 1, 1, []), (51, .iload_n 2, 1, []), (52, .iload_n 3, 1, []), (53, .invokevirtual 312, 3, [0, 244, 5, 5, 361]), (56, .ireturn, 1, [])])
def ym_Mo_joins : mz_Y := (⟨"RerootStoreModel", "joins", "(III)I"⟩, prog_7_method_81_code, 4, (some .int), 5, false, [(0, .aload_n 0, 1, []), (1, .iload_n 1, 1, []), (2, .invokevirtual 286, 3, [0, 218, 2, 5, 351]), (5, .ifCond .eq 19, 3, [24]), (8, .aload_n 0, 1, []), (9, .iload_n 2, 1, []), (10, .invokevirtual 241, 3, [0, 209, 2, 5, 333]), (13, .ifCond .eq 11, 3, [24]), (16, .aload_n 0, 1, []), (17, .iload_n 3, 1, []), (18, .invokevirtual 241, 3, [0, 209, 2, 5, 333]), (21, .ifCond .ne 6, 3, [27]), (24, .bipush (-2), 2, []), (26, .ireturn, 1, []), (27, .aload_n 0, 1, []), (28, .getfield 88, 3, [5, 14, 285]), (31, .bipush 40, 2, []), (33, .if_icmp .eq 25, 3, [58]), (36, .aload_n 0, 1, []), (37, .invokevirtual 309, 3, [0, 245, 1, 5, 360]), (40, .ifCond .ne 18, 3, [58]), (43, .aload_n 0, 1, []), (44, .iload_n 1, 1, []), (45, .iload_n 2, 1, []), (46, .invokevirtual 258, 3, [0, 185, 3, 5, 342]), (49, .aload_n 0, 1, []), (50, .iload_n 1, 1, []), (51, .iload_n 3, 1, []), (52, .invokevirtual 258, 3, [0, 185, 3, 5, 342]), (55, .if_icmp .ne 8, 3, [63]), (58, .bipush (-5), 2, []), (60, .goto 11, 3, [71]), (63, .aload_n 0, 1, []), (64, .iconst 1, 1, []), (65, .iload_n 1, 1, []), (66, .iload_n 2, 1, []), (67, .iload_n 3, 1, []), (68, .invokevirtual 312, 3, [0, 244, 5, 5, 361]), (71, .ireturn, 1, [])])
def ym_Mo_finds : mz_Y := (⟨"RerootStoreModel", "finds", "(II)I"⟩, prog_7_method_82_code, 3, (some .int), 5, false, [(0, .aload_n 0, 1, []), (1, .iload_n 1, 1, []), (2, .invokevirtual 286, 3, [0, 218, 2, 5, 351]), (5, .ifCond .eq 11, 3, [16]), (8, .aload_n 0, 1, []), (9, .iload_n 2, 1, []), (10, .invokevirtual 241, 3, [0, 209, 2, 5, 333]), (13, .ifCond .ne 6, 3, [19]), (16, .bipush (-2), 2, []), (18, .ireturn, 1, []), (19, .aload_n 0, 1, []), (20, .invokevirtual 309, 3, [0, 245, 1, 5, 360]), (23, .ifCond .eq 8, 3, [31]), (26, .bipush (-5), 2, []), (28, .goto 11, 3, [39]), (31, .aload_n 0, 1, []), (32, .iconst 3, 1, []), (33, .iload_n 1, 1, []), (34, .iload_n 2, 1, []), (35, .iconst 0, 1, []), (36, .invokevirtual 312, 3, [0, 244, 5, 5, 361]), (39, .ireturn, 1, [])])
def ym_Mo_snaps : mz_Y := (⟨"RerootStoreModel", "snaps", "(I)I"⟩, prog_7_method_83_code, 2, (some .int), 5, false, [(0, .aload_n 0, 1, []), (1, .iload_n 1, 1, []), (2, .invokevirtual 286, 3, [0, 218, 2, 5, 351]), (5, .ifCond .ne 6, 3, [11]), (8, .bipush (-2), 2, []), (10, .ireturn, 1, []), (11, .aload_n 0, 1, []), (12, .getfield 35, 3, [5, 10, 268]), (15, .iload_n 1, 1, []), (16, .iaload, 1, []), (17, .iconst (-1), 1, []), (18, .if_icmp .eq 10, 3, [28]), (21, .aload_n 0, 1, []), (22, .invokevirtual 309, 3, [0, 245, 1, 5, 360]), (25, .ifCond .eq 8, 3, [33]), (28, .bipush (-5), 2, []), (30, .goto 11, 3, [41]), (33, .aload_n 0, 1, []), (34, .iconst 4, 1, []), (35, .iload_n 1, 1, []), (36, .iconst 0, 1, []), (37, .iconst 0, 1, []), (38, .invokevirtual 312, 3, [0, 244, 5, 5, 361]), (41, .ireturn, 1, [])])
def ym_Mo_merges : mz_Y := (⟨"RerootStoreModel", "merges", "(II)I"⟩, prog_7_method_84_code, 3, (some .int), 5, false, [(0, .aload_n 0, 1, []), (1, .iload_n 1, 1, []), (2, .iload_n 2, 1, []), (3, .invokevirtual 291, 3, [0, 223, 3, 5, 353]), (6, .ifCond .ne 6, 3, [12]), (9, .bipush (-2), 2, []), (11, .ireturn, 1, []), (12, .aload_n 0, 1, []), (13, .getfield 88, 3, [5, 14, 285]), (16, .aload_n 0, 1, []), (17, .iload_n 1, 1, []), (18, .iload_n 2, 1, []), (19, .invokevirtual 316, 3, [0, 191, 3, 5, 362]), (22, .iadd, 1, []), (23, .bipush 40, 2, []), (25, .if_icmp .gt 10, 3, [35]), (28, .aload_n 0, 1, []), (29, .invokevirtual 309, 3, [0, 245, 1, 5, 360]), (32, .ifCond .eq 8, 3, [40]), (35, .bipush (-5), 2, []), (37, .goto 11, 3, [48]), (40, .aload_n 0, 1, []), (41, .iconst 5, 1, []), (42, .iload_n 1, 1, []), (43, .iload_n 2, 1, []), (44, .iconst 0, 1, []), (45, .invokevirtual 312, 3, [0, 244, 5, 5, 361]), (48, .ireturn, 1, [])])
def ym_Mo_areThree : mz_Y := (⟨"RerootStoreModel", "areThree", "(III)Z"⟩, prog_7_method_85_code, 4, (some .boolean), 5, false, [(0, .aload_n 0, 1, []), (1, .iload_n 1, 1, []), (2, .iload_n 2, 1, []), (3, .invokevirtual 291, 3, [0, 223, 3, 5, 353]), (6, .ifCond .eq 23, 3, [29]), (9, .iload_n 3, 1, []), (10, .i2l, 1, []), (11, .lconst 0, 1, []), (12, .aload_n 0, 1, []), (13, .getfield 88, 3, [5, 14, 285]), (16, .iconst 1, 1, []), (17, .isub, 1, []), (18, .i2l, 1, []), (19, .invokestatic 78, 3, [0, 168, 3, 5, 282]), (22, .ifCond .eq 7, 3, [29]), (25, .iconst 1, 1, []), (26, .goto 4, 3, [30]), (29, .iconst 0, 1, []), (30, .ireturn, 1, [])])
def ym_Mo_patches : mz_Y := (⟨"RerootStoreModel", "patches", "(III)I"⟩, prog_7_method_86_code, 4, (some .int), 5, false, [(0, .aload_n 0, 1, []), (1, .iload_n 1, 1, []), (2, .iload_n 2, 1, []), (3, .iload_n 3, 1, []), (4, .invokevirtual 319, 3, [0, 252, 4, 5, 363]), (7, .ifCond .ne 6, 3, [13]), (10, .bipush (-2), 2, []), (12, .ireturn, 1, []), (13, .aload_n 0, 1, []), (14, .getfield 88, 3, [5, 14, 285]), (17, .aload_n 0, 1, []), (18, .iload_n 1, 1, []), (19, .iload_n 2, 1, []), (20, .iload_n 3, 1, []), (21, .invokevirtual 322, 3, [0, 194, 4, 5, 364]), (24, .iadd, 1, []), (25, .bipush 40, 2, []), (27, .if_icmp .gt 10, 3, [37]), (30, .aload_n 0, 1, []), (31, .invokevirtual 309, 3, [0, 245, 1, 5, 360]), (34, .ifCond .eq 8, 3, [42]), (37, .bipush (-5), 2, []), (39, .goto 12, 3, [51]), (42, .aload_n 0, 1, []), (43, .bipush 6, 2, []), (45, .iload_n 1, 1, []), (46, .iload_n 2, 1, []), (47, .iload_n 3, 1, []), (48, .invokevirtual 312, 3, [0, 244, 5, 5, 361]), (51, .ireturn, 1, [])])
def ym_Mo_patching : mz_Y := (⟨"RerootStoreModel", "patching", "(III)I"⟩, prog_7_method_87_code, 4, (some .int), 5, false, [(0, .aload_n 0, 1, []), (1, .iload_n 1, 1, []), (2, .iload_n 2, 1, []), (3, .iload_n 3, 1, []), (4, .invokevirtual 319, 3, [0, 252, 4, 5, 363]), (7, .ifCond .eq 13, 3, [20]), (10, .aload_n 0, 1, []), (11, .iload_n 1, 1, []), (12, .iload_n 2, 1, []), (13, .iload_n 3, 1, []), (14, .invokevirtual 322, 3, [0, 194, 4, 5, 364]), (17, .goto 5, 3, [22]), (20, .bipush (-2), 2, []), (22, .ireturn, 1, [])])
def ym_Mo_merging : mz_Y := (⟨"RerootStoreModel", "merging", "(III)I"⟩, prog_7_method_88_code, 6, (some .int), 5, false, [(0, .aload_n 0, 1, []), (1, .iload_n 1, 1, []), (2, .iload_n 2, 1, []), (3, .invokevirtual 291, 3, [0, 223, 3, 5, 353]), (6, .ifCond .eq 13, 3, [19]), (9, .iload_n 3, 1, []), (10, .i2l, 1, []), (11, .lconst 0, 1, []), (12, .lconst 1, 1, []), (13, .invokestatic 78, 3, [0, 168, 3, 5, 282]), (16, .ifCond .ne 6, 3, [22]), (19, .bipush (-2), 2, []), (21, .ireturn, 1, []), (22, .iconst 0, 1, []), (23, .istore 4, 2, []), (25, .iconst 0, 1, []), (26, .istore 5, 2, []), (28, .iload 5, 2, []), (30, .aload_n 0, 1, []), (31, .getfield 9, 3, [5, 0, 260]), (34, .iconst 0, 1, []), (35, .iaload, 1, []), (36, .if_icmp .ge 30, 3, [66]), (39, .iload 4, 2, []), (41, .aload_n 0, 1, []), (42, .iload_n 1, 1, []), (43, .iload_n 2, 1, []), (44, .iload 5, 2, []), (46, .invokevirtual 143, 3, [0, 189, 4, 5, 301]), (49, .ifCond .eq 7, 3, [56]), (52, .iconst 1, 1, []), (53, .goto 4, 3, [57]), (56, .iconst 0, 1, []), (57, .iadd, 1, []), (58, .istore 4, 2, []), (60, .iinc 5 1, 3, []), (63, .goto (-35), 3, [28]), (66, .iload_n 3, 1, []), (67, .ifCond .ne 12, 3, [79]), (70, .aload_n 0, 1, []), (71, .iload_n 1, 1, []), (72, .iload_n 2, 1, []), (73, .invokevirtual 316, 3, [0, 191, 3, 5, 362]), (76, .goto 5, 3, [81]), (79, .iload 4, 2, []), (81, .ireturn, 1, [])])
def ym_Mo_merged : mz_Y := (⟨"RerootStoreModel", "merged", "(III)I"⟩, prog_7_method_89_code, 4, (some .int), 5, false, [(0, .aload_n 0, 1, []), (1, .iload_n 1, 1, []), (2, .iload_n 2, 1, []), (3, .invokevirtual 291, 3, [0, 223, 3, 5, 353]), (6, .ifCond .eq 21, 3, [27]), (9, .aload_n 0, 1, []), (10, .iload_n 3, 1, []), (11, .invokevirtual 241, 3, [0, 209, 2, 5, 333]), (14, .ifCond .eq 13, 3, [27]), (17, .aload_n 0, 1, []), (18, .iload_n 1, 1, []), (19, .iload_n 2, 1, []), (20, .iload_n 3, 1, []), (21, .invokevirtual 147, 3, [0, 190, 4, 5, 302]), (24, .goto 5, 3, [29]), (27, .bipush (-2), 2, []), (29, .ireturn, 1, [])])
def ym_Mo_blame : mz_Y := (⟨"RerootStoreModel", "blame", "(II)I"⟩, prog_7_method_90_code, 4, (some .int), 5, false, [(0, .aload_n 0, 1, []), (1, .iload_n 1, 1, []), (2, .invokevirtual 286, 3, [0, 218, 2, 5, 351]), (5, .ifCond .eq 11, 3, [16]), (8, .aload_n 0, 1, []), (9, .iload_n 2, 1, []), (10, .invokevirtual 241, 3, [0, 209, 2, 5, 333]), (13, .ifCond .ne 6, 3, [19]), (16, .bipush (-2), 2, []), (18, .ireturn, 1, []), (19, .iload_n 1, 1, []), (20, .istore_n 3, 1, []), (21, .iload_n 3, 1, []), (22, .ifCond .le 23, 3, [45]), (25, .aload_n 0, 1, []), (26, .getfield 29, 3, [5, 8, 266]), (29, .iload_n 3, 1, []), (30, .iaload, 1, []), (31, .iload_n 2, 1, []), (32, .if_icmp .eq 13, 3, [45]), (35, .aload_n 0, 1, []), (36, .getfield 26, 3, [5, 7, 265]), (39, .iload_n 3, 1, []), (40, .iaload, 1, []), (41, .istore_n 3, 1, []), (42, .goto (-21), 3, [21]), (45, .iload_n 3, 1, []), (46, .ireturn, 1, [])])
def ym_Mo_often : mz_Y := (⟨"RerootStoreModel", "often", "(II)I"⟩, prog_7_method_91_code, 5, (some .int), 5, false, [(0, .aload_n 0, 1, []), (1, .iload_n 1, 1, []), (2, .invokevirtual 286, 3, [0, 218, 2, 5, 351]), (5, .ifCond .eq 11, 3, [16]), (8, .aload_n 0, 1, []), (9, .iload_n 2, 1, []), (10, .invokevirtual 241, 3, [0, 209, 2, 5, 333]), (13, .ifCond .ne 6, 3, [19]), (16, .bipush (-2), 2, []), (18, .ireturn, 1, []), (19, .iconst 0, 1, []), (20, .istore_n 3, 1, []), (21, .iload_n 1, 1, []), (22, .istore 4, 2, []), (24, .iload 4, 2, []), (26, .ifCond .le 34, 3, [60]), (29, .iload_n 3, 1, []), (30, .aload_n 0, 1, []), (31, .getfield 29, 3, [5, 8, 266]), (34, .iload 4, 2, []), (36, .iaload, 1, []), (37, .iload_n 2, 1, []), (38, .if_icmp .ne 7, 3, [45]), (41, .iconst 1, 1, []), (42, .goto 4, 3, [46]), (45, .iconst 0, 1, []), (46, .iadd, 1, []), (47, .istore_n 3, 1, []), (48, .aload_n 0, 1, []), (49, .getfield 26, 3, [5, 7, 265]), (52, .iload 4, 2, []), (54, .iaload, 1, []), (55, .istore 4, 2, []), (57, .goto (-33), 3, [24]), (60, .iload_n 3, 1, []), (61, .ireturn, 1, [])])
def ym_Mo_isSet : mz_Y := (⟨"RerootStoreModel", "isSet", "(J)Z"⟩, prog_7_method_92_code, 3, (some .boolean), 5, false, [(0, .aload_n 0, 1, []), (1, .invokevirtual 282, 3, [0, 217, 1, 5, 350]), (4, .ifCond .eq 9, 3, [13]), (7, .lload_n 1, 1, []), (8, .lconst 0, 1, []), (9, .lcmp, 1, []), (10, .ifCond .ge 5, 3, [15]), (13, .iconst 0, 1, []), (14, .ireturn, 1, []), (15, .aload_n 0, 1, []), (16, .invokevirtual 256, 3, [0, 199, 1, 5, 341]), (19, .pop, 1, []), (20, .lload_n 1, 1, []), (21, .aload_n 0, 1, []), (22, .getfield 88, 3, [5, 14, 285]), (25, .lshr, 1, []), (26, .lconst 0, 1, []), (27, .lcmp, 1, []), (28, .ifCond .ne 7, 3, [35]), (31, .iconst 1, 1, []), (32, .goto 4, 3, [36]), (35, .iconst 0, 1, []), (36, .ireturn, 1, [])])
def ym_Mo_keptOf : mz_Y := (⟨"RerootStoreModel", "keptOf", "(J)J"⟩, prog_7_method_93_code, 7, (some .long), 5, false, [(0, .lload_n 1, 1, []), (1, .lstore_n 3, 1, []), (2, .iconst 0, 1, []), (3, .istore 5, 2, []), (5, .iload 5, 2, []), (7, .aload_n 0, 1, []), (8, .getfield 88, 3, [5, 14, 285]), (11, .if_icmp .ge 49, 3, [60]), (14, .iload 5, 2, []), (16, .istore 6, 2, []), (18, .iload 6, 2, []), (20, .iconst (-1), 1, []), (21, .if_icmp .eq 33, 3, [54]), (24, .lload_n 1, 1, []), (25, .iload 5, 2, []), (27, .lshr, 1, []), (28, .lconst 1, 1, []), (29, .land, 1, []), (30, .lconst 1, 1, []), (31, .lcmp, 1, []), (32, .ifCond .ne 22, 3, [54]), (35, .lload_n 3, 1, []), (36, .lconst 1, 1, []), (37, .iload 6, 2, []), (39, .lshl, 1, []), (40, .lor, 1, []), (41, .lstore_n 3, 1, []), (42, .aload_n 0, 1, []), (43, .getfield 35, 3, [5, 10, 268]), (46, .iload 6, 2, []), (48, .iaload, 1, []), (49, .istore 6, 2, []), (51, .goto (-33), 3, [18]), (54, .iinc 5 1, 3, []), (57, .goto (-52), 3, [5]), (60, .lload_n 3, 1, []), (61, .lreturn, 1, [])])
def ym_Mo_keeps : mz_Y := (⟨"RerootStoreModel", "keeps", "(J)J"⟩, prog_7_method_94_code, 3, (some .long), 5, false, [(0, .aload_n 0, 1, []), (1, .lload_n 1, 1, []), (2, .invokevirtual 325, 3, [0, 259, 2, 5, 365]), (5, .ifCond .eq 11, 3, [16]), (8, .aload_n 0, 1, []), (9, .lload_n 1, 1, []), (10, .invokevirtual 329, 3, [0, 260, 2, 5, 366]), (13, .goto 6, 3, [19]), (16, .ldc2_w 333, 3, [0, 367, 18446744073709551614]), (19, .lreturn, 1, [])])
def ym_Mo_room : mz_Y := (⟨"RerootStoreModel", "room", "(J)I"⟩, prog_7_method_95_code, 7, (some .int), 5, false, [(0, .aload_n 0, 1, []), (1, .lload_n 1, 1, []), (2, .invokevirtual 325, 3, [0, 259, 2, 5, 365]), (5, .ifCond .ne 6, 3, [11]), (8, .bipush (-2), 2, []), (10, .ireturn, 1, []), (11, .aload_n 0, 1, []), (12, .lload_n 1, 1, []), (13, .invokevirtual 329, 3, [0, 260, 2, 5, 366]), (16, .lstore_n 3, 1, []), (17, .iconst 0, 1, []), (18, .istore 5, 2, []), (20, .iconst 0, 1, []), (21, .istore 6, 2, []), (23, .iload 6, 2, []), (25, .aload_n 0, 1, []), (26, .getfield 88, 3, [5, 14, 285]), (29, .if_icmp .ge 50, 3, [79]), (32, .iload 5, 2, []), (34, .lload_n 3, 1, []), (35, .iload 6, 2, []), (37, .lshr, 1, []), (38, .lconst 1, 1, []), (39, .land, 1, []), (40, .lconst 0, 1, []), (41, .lcmp, 1, []), (42, .ifCond .ne 7, 3, [49]), (45, .iconst 0, 1, []), (46, .goto 24, 3, [70]), (49, .aload_n 0, 1, []), (50, .getfield 35, 3, [5, 10, 268]), (53, .iload 6, 2, []), (55, .iaload, 1, []), (56, .iconst (-1), 1, []), (57, .if_icmp .ne 12, 3, [69]), (60, .aload_n 0, 1, []), (61, .getfield 9, 3, [5, 0, 260]), (64, .iconst 0, 1, []), (65, .iaload, 1, []), (66, .goto 4, 3, [70]), (69, .iconst 3, 1, []), (70, .iadd, 1, []), (71, .istore 5, 2, []), (73, .iinc 6 1, 3, []), (76, .goto (-53), 3, [23]), (79, .iload 5, 2, []), (81, .ireturn, 1, [])])
def ym_Mo_busiest : mz_Y := (⟨"RerootStoreModel", "busiest", "()I"⟩, prog_7_method_96_code, 6, (some .int), 5, false, [(0, .aload_n 0, 1, []), (1, .invokevirtual 282, 3, [0, 217, 1, 5, 350]), (4, .ifCond .ne 6, 3, [10]), (7, .bipush (-2), 2, []), (9, .ireturn, 1, []), (10, .aload_n 0, 1, []), (11, .invokevirtual 256, 3, [0, 199, 1, 5, 341]), (14, .pop, 1, []), (15, .iconst (-1), 1, []), (16, .istore_n 1, 1, []), (17, .iconst 0, 1, []), (18, .istore_n 2, 1, []), (19, .iconst 0, 1, []), (20, .istore_n 3, 1, []), (21, .iload_n 3, 1, []), (22, .aload_n 0, 1, []), (23, .getfield 88, 3, [5, 14, 285]), (26, .if_icmp .ge 77, 3, [103]), (29, .iconst 0, 1, []), (30, .istore 4, 2, []), (32, .iconst 0, 1, []), (33, .istore 5, 2, []), (35, .iload 5, 2, []), (37, .aload_n 0, 1, []), (38, .getfield 88, 3, [5, 14, 285]), (41, .if_icmp .ge 45, 3, [86]), (44, .aload_n 0, 1, []), (45, .getfield 35, 3, [5, 10, 268]), (48, .iload_n 3, 1, []), (49, .iaload, 1, []), (50, .iconst (-1), 1, []), (51, .if_icmp .eq 35, 3, [86]), (54, .iload 4, 2, []), (56, .iload 5, 2, []), (58, .iload_n 3, 1, []), (59, .if_icmp .eq 17, 3, [76]), (62, .aload_n 0, 1, []), (63, .iload_n 3, 1, []), (64, .iload 5, 2, []), (66, .invokevirtual 335, 3, [0, 264, 3, 5, 368]), (69, .ifCond .eq 7, 3, [76]), (72, .iconst 1, 1, []), (73, .goto 4, 3, [77]), (76, .iconst 0, 1, []), (77, .iadd, 1, []), (78, .istore 4, 2, []), (80, .iinc 5 1, 3, []), (83, .goto (-48), 3, [35]), (86, .iload 4, 2, []), (88, .iload_n 2, 1, []), (89, .if_icmp .le 8, 3, [97]), (92, .iload 4, 2, []), (94, .istore_n 2, 1, []), (95, .iload_n 3, 1, []), (96, .istore_n 1, 1, []), (97, .iinc 3 1, 3, []), (100, .goto (-79), 3, [21]), (103, .iload_n 1, 1, []), (104, .ireturn, 1, [])])
def ym_Mo_isOnWay : mz_Y := (⟨"RerootStoreModel", "isOnWay", "(II)Z"⟩, prog_7_method_97_code, 4, (some .boolean), 5, false, [(0, .iload_n 2, 1, []), (1, .istore_n 3, 1, []), (2, .iload_n 3, 1, []), (3, .iconst (-1), 1, []), (4, .if_icmp .eq 18, 3, [22]), (7, .iload_n 3, 1, []), (8, .iload_n 1, 1, []), (9, .if_icmp .eq 13, 3, [22]), (12, .aload_n 0, 1, []), (13, .getfield 35, 3, [5, 10, 268]), (16, .iload_n 3, 1, []), (17, .iaload, 1, []), (18, .istore_n 3, 1, []), (19, .goto (-17), 3, [2]), (22, .iload_n 3, 1, []), (23, .iload_n 1, 1, []), (24, .if_icmp .ne 7, 3, [31]), (27, .iconst 1, 1, []), (28, .goto 4, 3, [32]), (31, .iconst 0, 1, []), (32, .ireturn, 1, [])])
def ym_Mo_waysOf : mz_Y := (⟨"RerootStoreModel", "waysOf", "()I"⟩, prog_7_method_98_code, 3, (some .int), 5, false, [(0, .iconst 0, 1, []), (1, .istore_n 1, 1, []), (2, .iconst 0, 1, []), (3, .istore_n 2, 1, []), (4, .iload_n 2, 1, []), (5, .aload_n 0, 1, []), (6, .getfield 88, 3, [5, 14, 285]), (9, .if_icmp .ge 17, 3, [26]), (12, .iload_n 1, 1, []), (13, .aload_n 0, 1, []), (14, .iload_n 2, 1, []), (15, .invokevirtual 106, 3, [0, 178, 2, 5, 290]), (18, .iadd, 1, []), (19, .istore_n 1, 1, []), (20, .iinc 2 1, 3, []), (23, .goto (-19), 3, [4]), (26, .iload_n 1, 1, []), (27, .ireturn, 1, [])])
def ym_Mo_ways : mz_Y := (⟨"RerootStoreModel", "ways", "()I"⟩, prog_7_method_99_code, 1, (some .int), 5, false, [(0, .aload_n 0, 1, []), (1, .invokevirtual 282, 3, [0, 217, 1, 5, 350]), (4, .ifCond .ne 6, 3, [10]), (7, .bipush (-2), 2, []), (9, .ireturn, 1, []), (10, .aload_n 0, 1, []), (11, .invokevirtual 256, 3, [0, 199, 1, 5, 341]), (14, .pop, 1, []), (15, .aload_n 0, 1, []), (16, .invokevirtual 338, 3, [0, 265, 1, 5, 369]), (19, .ireturn, 1, [])])
def ym_Mo_snapping : mz_Y := (⟨"RerootStoreModel", "snapping", "(I)I"⟩, prog_7_method_100_code, 2, (some .int), 5, false, [(0, .aload_n 0, 1, []), (1, .iload_n 1, 1, []), (2, .invokevirtual 286, 3, [0, 218, 2, 5, 351]), (5, .ifCond .ne 6, 3, [11]), (8, .bipush (-2), 2, []), (10, .ireturn, 1, []), (11, .aload_n 0, 1, []), (12, .iload_n 1, 1, []), (13, .invokevirtual 91, 3, [0, 176, 2, 5, 286]), (16, .aload_n 0, 1, []), (17, .invokevirtual 338, 3, [0, 265, 1, 5, 369]), (20, .ireturn, 1, [])])
def ym_Mo_snap2 : mz_Y := (⟨"RerootStoreModel", "snap", "()I"⟩, prog_7_method_101_code, 6, (some .int), 5, false, [(0, .aload_n 0, 1, []), (1, .invokevirtual 282, 3, [0, 217, 1, 5, 350]), (4, .ifCond .ne 6, 3, [10]), (7, .bipush (-2), 2, []), (9, .ireturn, 1, []), (10, .aload_n 0, 1, []), (11, .invokevirtual 341, 3, [0, 266, 1, 5, 370]), (14, .istore_n 1, 1, []), (15, .iconst (-1), 1, []), (16, .istore_n 2, 1, []), (17, .aload_n 0, 1, []), (18, .getfield 88, 3, [5, 14, 285]), (21, .istore_n 3, 1, []), (22, .iconst 0, 1, []), (23, .istore 4, 2, []), (25, .iload 4, 2, []), (27, .iload_n 3, 1, []), (28, .if_icmp .ge 29, 3, [57]), (31, .aload_n 0, 1, []), (32, .iload 4, 2, []), (34, .invokevirtual 344, 3, [0, 267, 2, 5, 371]), (37, .istore 5, 2, []), (39, .iload 5, 2, []), (41, .iload_n 1, 1, []), (42, .if_icmp .ge 9, 3, [51]), (45, .iload 5, 2, []), (47, .istore_n 1, 1, []), (48, .iload 4, 2, []), (50, .istore_n 2, 1, []), (51, .iinc 4 1, 3, []), (54, .goto (-29), 3, [25]), (57, .iload_n 2, 1, []), (58, .ireturn, 1, [])])
def ym_Mo_image : mz_Y := (⟨"RerootStoreModel", "image", "(I)I"⟩, prog_7_method_102_code, 3, (some .int), 5, false, [(0, .aload_n 0, 1, []), (1, .invokevirtual 282, 3, [0, 217, 1, 5, 350]), (4, .ifCond .eq 15, 3, [19]), (7, .iload_n 1, 1, []), (8, .i2l, 1, []), (9, .lconst 0, 1, []), (10, .ldc2_w 289, 3, [0, 352, 2]), (13, .invokestatic 78, 3, [0, 168, 3, 5, 282]), (16, .ifCond .ne 6, 3, [22]), (19, .bipush (-2), 2, []), (21, .ireturn, 1, []), (22, .iconst 0, 1, []), (23, .istore_n 2, 1, []), (24, .iload_n 2, 1, []), (25, .sipush 259, 3, []), (28, .if_icmp .ge 27, 3, [55]), (31, .aload_n 0, 1, []), (32, .getfield 50, 3, [5, 26, 273]), (35, .sipush 259, 3, []), (38, .iload_n 1, 1, []), (39, .imul, 1, []), (40, .iload_n 2, 1, []), (41, .iadd, 1, []), (42, .aload_n 0, 1, []), (43, .getfield 9, 3, [5, 0, 260]), (46, .iload_n 2, 1, []), (47, .iaload, 1, []), (48, .iastore, 1, []), (49, .iinc 2 1, 3, []), (52, .goto (-28), 3, [24]), (55, .aload_n 0, 1, []), (56, .getfield 53, 3, [5, 27, 274]), (59, .iload_n 1, 1, []), (60, .iconst 1, 1, []), (61, .bastore, 1, []), (62, .iconst 0, 1, []), (63, .ireturn, 1, [])])
def ym_Mo_back : mz_Y := (⟨"RerootStoreModel", "back", "(I)I"⟩, prog_7_method_103_code, 3, (some .int), 5, false, [(0, .iload_n 1, 1, []), (1, .i2l, 1, []), (2, .lconst 0, 1, []), (3, .ldc2_w 289, 3, [0, 352, 2]), (6, .invokestatic 78, 3, [0, 168, 3, 5, 282]), (9, .ifCond .ne 6, 3, [15]), (12, .bipush (-2), 2, []), (14, .ireturn, 1, []), (15, .aload_n 0, 1, []), (16, .getfield 53, 3, [5, 27, 274]), (19, .iload_n 1, 1, []), (20, .baload, 1, []), (21, .ifCond .ne 6, 3, [27]), (24, .bipush (-6), 2, []), (26, .ireturn, 1, []), (27, .iconst 0, 1, []), (28, .istore_n 2, 1, []), (29, .iload_n 2, 1, []), (30, .sipush 259, 3, []), (33, .if_icmp .ge 27, 3, [60]), (36, .aload_n 0, 1, []), (37, .getfield 9, 3, [5, 0, 260]), (40, .iload_n 2, 1, []), (41, .aload_n 0, 1, []), (42, .getfield 50, 3, [5, 26, 273]), (45, .sipush 259, 3, []), (48, .iload_n 1, 1, []), (49, .imul, 1, []), (50, .iload_n 2, 1, []), (51, .iadd, 1, []), (52, .iaload, 1, []), (53, .iastore, 1, []), (54, .iinc 2 1, 3, []), (57, .goto (-28), 3, [29]), (60, .iconst 0, 1, []), (61, .ireturn, 1, [])])
def ym_Mo_isNone : mz_Y := (⟨"RerootStoreModel", "isNone", "(II)Z"⟩, prog_7_method_104_code, 4, (some .boolean), 5, false, [(0, .iconst 0, 1, []), (1, .istore_n 3, 1, []), (2, .iload_n 3, 1, []), (3, .iload_n 1, 1, []), (4, .if_icmp .ge 42, 3, [46]), (7, .aload_n 0, 1, []), (8, .getfield 9, 3, [5, 0, 260]), (11, .bipush 7, 2, []), (13, .iload_n 1, 1, []), (14, .iadd, 1, []), (15, .iaload, 1, []), (16, .iload_n 3, 1, []), (17, .invokestatic 245, 3, [0, 169, 2, 5, 334]), (20, .ifCond .eq 20, 3, [40]), (23, .aload_n 0, 1, []), (24, .aload_n 0, 1, []), (25, .getfield 60, 3, [5, 32, 276]), (28, .iload_n 1, 1, []), (29, .iaload, 1, []), (30, .iload_n 3, 1, []), (31, .invokevirtual 122, 3, [0, 183, 3, 5, 295]), (34, .iload_n 2, 1, []), (35, .if_icmp .ne 5, 3, [40]), (38, .iconst 1, 1, []), (39, .ireturn, 1, []), (40, .iinc 3 1, 3, []), (43, .goto (-41), 3, [2]), (46, .iconst 0, 1, []), (47, .ireturn, 1, [])])
def ym_Mo_searches : mz_Y := (⟨"RerootStoreModel", "searches", "(II)V"⟩, prog_7_method_105_code, 4, none, 5, false, [(0, .aload_n 0, 1, []), (1, .iload_n 1, 1, []), (2, .aload_n 0, 1, []), (3, .getfield 9, 3, [5, 0, 260]), (6, .iconst 2, 1, []), (7, .iaload, 1, []), (8, .iconst 0, 1, []), (9, .invokevirtual 166, 3, [0, 175, 4, 5, 308]), (12, .aload_n 0, 1, []), (13, .iconst 0, 1, []), (14, .putfield 103, 3, [5, 17, 289]), (17, .aload_n 0, 1, []), (18, .iconst 0, 1, []), (19, .putfield 347, 3, [5, 29, 372]), (22, .aload_n 0, 1, []), (23, .iconst (-1), 1, []), (24, .putfield 350, 3, [5, 30, 373]), (27, .iconst 0, 1, []), (28, .istore_n 3, 1, []), (29, .aload_n 0, 1, []), (30, .getfield 60, 3, [5, 32, 276]), (33, .iconst 0, 1, []), (34, .iconst 0, 1, []), (35, .iastore, 1, []), (36, .aload_n 0, 1, []), (37, .getfield 57, 3, [5, 31, 275]), (40, .iconst 0, 1, []), (41, .iconst 0, 1, []), (42, .iastore, 1, []), (43, .aload_n 0, 1, []), (44, .getfield 350, 3, [5, 30, 373]), (47, .iconst (-1), 1, []), (48, .if_icmp .ne 83, 3, [131]), (51, .aload_n 0, 1, []), (52, .getfield 57, 3, [5, 31, 275]), (55, .iload_n 3, 1, []), (56, .dup2, 1, []), (57, .iaload, 1, []), (58, .iconst 1, 1, []), (59, .iadd, 1, []), (60, .iastore, 1, []), (61, .aload_n 0, 1, []), (62, .getfield 57, 3, [5, 31, 275]), (65, .iload_n 3, 1, []), (66, .iaload, 1, []), (67, .iload_n 2, 1, []), (68, .if_icmp .le 40, 3, [108]), (71, .iinc 3 (-1), 3, []), (74, .aload_n 0, 1, []), (75, .iload_n 3, 1, []), (76, .ifCond .ge 7, 3, [83]), (79, .iconst 0, 1, []), (80, .goto 4, 3, [84]), (83, .iconst (-1), 1, []), (84, .putfield 350, 3, [5, 30, 373]), (87, .aload_n 0, 1, []), (88, .dup, 1, []), (89, .getfield 347, 3, [5, 29, 372]), (92, .iload_n 3, 1, []), (93, .ifCond .ge 7, 3, [100]), (96, .iconst 0, 1, []), (97, .goto 4, 3, [101]), (100, .iconst 1, 1, []), (101, .iadd, 1, []), (102, .putfield 347, 3, [5, 29, 372]), (105, .goto (-62), 3, [43]), (108, .aload_n 0, 1, []), (109, .iload_n 3, 1, []), (110, .aload_n 0, 1, []), (111, .getfield 57, 3, [5, 31, 275]), (114, .iload_n 3, 1, []), (115, .iaload, 1, []), (116, .invokevirtual 353, 3, [0, 271, 3, 5, 374]), (119, .ifCond .ne (-76), 3, [43]), (122, .aload_n 0, 1, []), (123, .iload_n 3, 1, []), (124, .invokevirtual 356, 3, [0, 273, 2, 5, 375]), (127, .istore_n 3, 1, []), (128, .goto (-85), 3, [43]), (131, .aload_n 0, 1, []), (132, .aload_n 0, 1, []), (133, .getfield 88, 3, [5, 14, 285]), (136, .iconst 1, 1, []), (137, .isub, 1, []), (138, .putfield 359, 3, [5, 28, 376]), (141, .return_, 1, [])])
def ym_Mo_goesOn : mz_Y := (⟨"RerootStoreModel", "goesOn", "(I)I"⟩, prog_7_method_106_code, 3, (some .int), 5, false, [(0, .aload_n 0, 1, []), (1, .getfield 88, 3, [5, 14, 285]), (4, .sipush 200, 3, []), (7, .if_icmp .ne 10, 3, [17]), (10, .aload_n 0, 1, []), (11, .iconst 2, 1, []), (12, .putfield 350, 3, [5, 30, 373]), (15, .iload_n 1, 1, []), (16, .ireturn, 1, []), (17, .aload_n 0, 1, []), (18, .aload_n 0, 1, []), (19, .getfield 60, 3, [5, 32, 276]), (22, .iload_n 1, 1, []), (23, .iaload, 1, []), (24, .iload_n 1, 1, []), (25, .aload_n 0, 1, []), (26, .getfield 57, 3, [5, 31, 275]), (29, .iload_n 1, 1, []), (30, .iaload, 1, []), (31, .invokevirtual 136, 3, [0, 184, 4, 5, 299]), (34, .istore_n 2, 1, []), (35, .iload_n 1, 1, []), (36, .aload_n 0, 1, []), (37, .getfield 9, 3, [5, 0, 260]), (40, .iconst 0, 1, []), (41, .iaload, 1, []), (42, .iconst 1, 1, []), (43, .isub, 1, []), (44, .if_icmp .ne 10, 3, [54]), (47, .aload_n 0, 1, []), (48, .iconst 1, 1, []), (49, .putfield 350, 3, [5, 30, 373]), (52, .iload_n 1, 1, []), (53, .ireturn, 1, []), (54, .aload_n 0, 1, []), (55, .getfield 60, 3, [5, 32, 276]), (58, .iload_n 1, 1, []), (59, .iconst 1, 1, []), (60, .iadd, 1, []), (61, .iload_n 2, 1, []), (62, .iastore, 1, []), (63, .aload_n 0, 1, []), (64, .getfield 57, 3, [5, 31, 275]), (67, .iload_n 1, 1, []), (68, .iconst 1, 1, []), (69, .iadd, 1, []), (70, .iconst 0, 1, []), (71, .iastore, 1, []), (72, .iload_n 1, 1, []), (73, .iconst 1, 1, []), (74, .iadd, 1, []), (75, .ireturn, 1, [])])
def ym_Mo_areColours : mz_Y := (⟨"RerootStoreModel", "areColours", "(I)Z"⟩, prog_7_method_107_code, 2, (some .boolean), 5, false, [(0, .aload_n 0, 1, []), (1, .invokevirtual 282, 3, [0, 217, 1, 5, 350]), (4, .ifCond .eq 19, 3, [23]), (7, .iload_n 1, 1, []), (8, .i2l, 1, []), (9, .lconst 1, 1, []), (10, .ldc2_w 307, 3, [0, 359, 4]), (13, .invokestatic 78, 3, [0, 168, 3, 5, 282]), (16, .ifCond .eq 7, 3, [23]), (19, .iconst 1, 1, []), (20, .goto 4, 3, [24]), (23, .iconst 0, 1, []), (24, .ireturn, 1, [])])
def ym_Mo_search : mz_Y := (⟨"RerootStoreModel", "search", "(II)I"⟩, prog_7_method_108_code, 3, (some .int), 5, false, [(0, .aload_n 0, 1, []), (1, .iload_n 1, 1, []), (2, .invokevirtual 362, 3, [0, 274, 2, 5, 377]), (5, .ifCond .eq 15, 3, [20]), (8, .iload_n 2, 1, []), (9, .i2l, 1, []), (10, .lconst 0, 1, []), (11, .ldc2_w 303, 3, [0, 357, 3]), (14, .invokestatic 78, 3, [0, 168, 3, 5, 282]), (17, .ifCond .ne 6, 3, [23]), (20, .bipush (-2), 2, []), (22, .ireturn, 1, []), (23, .aload_n 0, 1, []), (24, .aload_n 0, 1, []), (25, .getfield 9, 3, [5, 0, 260]), (28, .iconst 1, 1, []), (29, .iaload, 1, []), (30, .iload_n 1, 1, []), (31, .invokevirtual 365, 3, [0, 272, 3, 5, 378]), (34, .iload_n 2, 1, []), (35, .ifCond .ne 10, 3, [45]), (38, .aload_n 0, 1, []), (39, .getfield 350, 3, [5, 30, 373]), (42, .goto 31, 3, [73]), (45, .iload_n 2, 1, []), (46, .iconst 1, 1, []), (47, .if_icmp .ne 10, 3, [57]), (50, .aload_n 0, 1, []), (51, .getfield 359, 3, [5, 28, 376]), (54, .goto 19, 3, [73]), (57, .iload_n 2, 1, []), (58, .iconst 2, 1, []), (59, .if_icmp .ne 10, 3, [69]), (62, .aload_n 0, 1, []), (63, .getfield 103, 3, [5, 17, 289]), (66, .goto 7, 3, [73]), (69, .aload_n 0, 1, []), (70, .getfield 347, 3, [5, 29, 372]), (73, .ireturn, 1, [])])
def ym_Mo_searchBy : mz_Y := (⟨"RerootStoreModel", "searchBy", "(II)I"⟩, prog_7_method_109_code, 3, (some .int), 5, false, [(0, .aload_n 0, 1, []), (1, .iload_n 2, 1, []), (2, .invokevirtual 362, 3, [0, 274, 2, 5, 377]), (5, .ifCond .eq 15, 3, [20]), (8, .iload_n 1, 1, []), (9, .i2l, 1, []), (10, .lconst 0, 1, []), (11, .ldc2_w 289, 3, [0, 352, 2]), (14, .invokestatic 78, 3, [0, 168, 3, 5, 282]), (17, .ifCond .ne 6, 3, [23]), (20, .bipush (-2), 2, []), (22, .ireturn, 1, []), (23, .aload_n 0, 1, []), (24, .iload_n 1, 1, []), (25, .iload_n 2, 1, []), (26, .invokevirtual 365, 3, [0, 272, 3, 5, 378]), (29, .aload_n 0, 1, []), (30, .getfield 103, 3, [5, 17, 289]), (33, .ireturn, 1, [])])
def ym_Mo_colour : mz_Y := (⟨"RerootStoreModel", "colour", "(II)I"⟩, prog_7_method_110_code, 3, (some .int), 5, false, [(0, .aload_n 0, 1, []), (1, .iload_n 1, 1, []), (2, .invokevirtual 362, 3, [0, 274, 2, 5, 377]), (5, .ifCond .eq 11, 3, [16]), (8, .aload_n 0, 1, []), (9, .iload_n 2, 1, []), (10, .invokevirtual 241, 3, [0, 209, 2, 5, 333]), (13, .ifCond .ne 6, 3, [19]), (16, .bipush (-2), 2, []), (18, .ireturn, 1, []), (19, .aload_n 0, 1, []), (20, .aload_n 0, 1, []), (21, .getfield 9, 3, [5, 0, 260]), (24, .iconst 1, 1, []), (25, .iaload, 1, []), (26, .iload_n 1, 1, []), (27, .invokevirtual 365, 3, [0, 272, 3, 5, 378]), (30, .aload_n 0, 1, []), (31, .getfield 350, 3, [5, 30, 373]), (34, .iconst 1, 1, []), (35, .if_icmp .ne 12, 3, [47]), (38, .aload_n 0, 1, []), (39, .getfield 57, 3, [5, 31, 275]), (42, .iload_n 2, 1, []), (43, .iaload, 1, []), (44, .goto 4, 3, [48]), (47, .iconst 0, 1, []), (48, .ireturn, 1, [])])
def ym_Mo_colours : mz_Y := (⟨"RerootStoreModel", "colours", "()I"⟩, prog_7_method_111_code, 2, (some .int), 5, false, [(0, .aload_n 0, 1, []), (1, .invokevirtual 282, 3, [0, 217, 1, 5, 350]), (4, .ifCond .ne 6, 3, [10]), (7, .bipush (-2), 2, []), (9, .ireturn, 1, []), (10, .iconst 1, 1, []), (11, .istore_n 1, 1, []), (12, .iload_n 1, 1, []), (13, .iconst 4, 1, []), (14, .if_icmp .gt 30, 3, [44]), (17, .aload_n 0, 1, []), (18, .aload_n 0, 1, []), (19, .getfield 9, 3, [5, 0, 260]), (22, .iconst 1, 1, []), (23, .iaload, 1, []), (24, .iload_n 1, 1, []), (25, .invokevirtual 365, 3, [0, 272, 3, 5, 378]), (28, .aload_n 0, 1, []), (29, .getfield 350, 3, [5, 30, 373]), (32, .iconst 1, 1, []), (33, .if_icmp .ne 5, 3, [38]), (36, .iload_n 1, 1, []), (37, .ireturn, 1, []), (38, .iinc 1 1, 3, []), (41, .goto (-29), 3, [12]), (44, .iconst (-1), 1, []), (45, .ireturn, 1, [])])
def ym_Mo_isTaken : mz_Y := (⟨"RerootStoreModel", "isTaken", "(I)Z"⟩, prog_7_method_112_code, 3, (some .boolean), 5, false, [(0, .iconst 0, 1, []), (1, .istore_n 2, 1, []), (2, .iload_n 2, 1, []), (3, .aload_n 0, 1, []), (4, .getfield 369, 3, [5, 37, 379]), (7, .if_icmp .ge 21, 3, [28]), (10, .aload_n 0, 1, []), (11, .getfield 63, 3, [5, 33, 277]), (14, .iload_n 2, 1, []), (15, .iaload, 1, []), (16, .iload_n 1, 1, []), (17, .if_icmp .ne 5, 3, [22]), (20, .iconst 1, 1, []), (21, .ireturn, 1, []), (22, .iinc 2 1, 3, []), (25, .goto (-23), 3, [2]), (28, .iconst 0, 1, []), (29, .ireturn, 1, [])])
def ym_Mo_takes : mz_Y := (⟨"RerootStoreModel", "takes", "(I)V"⟩, prog_7_method_113_code, 6, none, 5, false, [(0, .iconst (-1), 1, []), (1, .istore_n 2, 1, []), (2, .iconst 0, 1, []), (3, .istore_n 3, 1, []), (4, .iconst 0, 1, []), (5, .istore 4, 2, []), (7, .iload 4, 2, []), (9, .aload_n 0, 1, []), (10, .getfield 9, 3, [5, 0, 260]), (13, .iconst 0, 1, []), (14, .iaload, 1, []), (15, .if_icmp .ge 53, 3, [68]), (18, .aload_n 0, 1, []), (19, .iload 4, 2, []), (21, .invokevirtual 372, 3, [0, 279, 2, 5, 380]), (24, .ifCond .eq 6, 3, [30]), (27, .goto 35, 3, [62]), (30, .aload_n 0, 1, []), (31, .iload_n 1, 1, []), (32, .iload 4, 2, []), (34, .invokevirtual 122, 3, [0, 183, 3, 5, 295]), (37, .istore 5, 2, []), (39, .iload_n 2, 1, []), (40, .iconst (-1), 1, []), (41, .if_icmp .eq 15, 3, [56]), (44, .iload 5, 2, []), (46, .invokestatic 300, 3, [0, 170, 1, 5, 356]), (49, .iload_n 3, 1, []), (50, .invokestatic 300, 3, [0, 170, 1, 5, 356]), (53, .if_icmp .ge 9, 3, [62]), (56, .iload 4, 2, []), (58, .istore_n 2, 1, []), (59, .iload 5, 2, []), (61, .istore_n 3, 1, []), (62, .iinc 4 1, 3, []), (65, .goto (-58), 3, [7]), (68, .aload_n 0, 1, []), (69, .getfield 63, 3, [5, 33, 277]), (72, .aload_n 0, 1, []), (73, .getfield 369, 3, [5, 37, 379]), (76, .iload_n 2, 1, []), (77, .iastore, 1, []), (78, .aload_n 0, 1, []), (79, .getfield 66, 3, [5, 34, 278]), (82, .aload_n 0, 1, []), (83, .getfield 369, 3, [5, 37, 379]), (86, .iload_n 1, 1, []), (87, .iastore, 1, []), (88, .aload_n 0, 1, []), (89, .getfield 69, 3, [5, 35, 279]), (92, .aload_n 0, 1, []), (93, .getfield 369, 3, [5, 37, 379]), (96, .iload_n 3, 1, []), (97, .iastore, 1, []), (98, .aload_n 0, 1, []), (99, .getfield 72, 3, [5, 36, 280]), (102, .iload_n 2, 1, []), (103, .iconst 0, 1, []), (104, .iastore, 1, []), (105, .aload_n 0, 1, []), (106, .dup, 1, []), (107, .getfield 369, 3, [5, 37, 379]), (110, .iconst 1, 1, []), (111, .iadd, 1, []), (112, .putfield 369, 3, [5, 37, 379]), (115, .return_, 1, [])])
def ym_Mo_setOr : mz_Y := (⟨"RerootStoreModel", "setOr", "(III)I"⟩, prog_7_method_114_code, 4, (some .int), 5, false, [(0, .aload_n 0, 1, []), (1, .getfield 88, 3, [5, 14, 285]), (4, .sipush 200, 3, []), (7, .if_icmp .ne 10, 3, [17]), (10, .aload_n 0, 1, []), (11, .iconst 2, 1, []), (12, .putfield 350, 3, [5, 30, 373]), (15, .iconst (-1), 1, []), (16, .ireturn, 1, []), (17, .aload_n 0, 1, []), (18, .iload_n 1, 1, []), (19, .iload_n 2, 1, []), (20, .iload_n 3, 1, []), (21, .invokevirtual 136, 3, [0, 184, 4, 5, 299]), (24, .ireturn, 1, [])])
def ym_Mo_lets : mz_Y := (⟨"RerootStoreModel", "lets", "(I)I"⟩, prog_7_method_115_code, 7, (some .int), 5, false, [(0, .aload_n 0, 1, []), (1, .getfield 63, 3, [5, 33, 277]), (4, .aload_n 0, 1, []), (5, .getfield 369, 3, [5, 37, 379]), (8, .iconst 1, 1, []), (9, .isub, 1, []), (10, .iaload, 1, []), (11, .istore_n 2, 1, []), (12, .aload_n 0, 1, []), (13, .aload_n 0, 1, []), (14, .getfield 66, 3, [5, 34, 278]), (17, .aload_n 0, 1, []), (18, .getfield 369, 3, [5, 37, 379]), (21, .iconst 1, 1, []), (22, .isub, 1, []), (23, .iaload, 1, []), (24, .iload_n 2, 1, []), (25, .iconst 1, 1, []), (26, .iload_n 1, 1, []), (27, .iconst 1, 1, []), (28, .isub, 1, []), (29, .ishl, 1, []), (30, .invokevirtual 375, 3, [0, 281, 4, 5, 381]), (33, .istore_n 3, 1, []), (34, .iconst 0, 1, []), (35, .istore 4, 2, []), (37, .iload 4, 2, []), (39, .aload_n 0, 1, []), (40, .getfield 9, 3, [5, 0, 260]), (43, .iconst 0, 1, []), (44, .iaload, 1, []), (45, .if_icmp .ge 95, 3, [140]), (48, .iload_n 3, 1, []), (49, .iconst (-1), 1, []), (50, .if_icmp .eq 90, 3, [140]), (53, .aload_n 0, 1, []), (54, .iload 4, 2, []), (56, .invokevirtual 372, 3, [0, 279, 2, 5, 380]), (59, .ifCond .ne 75, 3, [134]), (62, .aload_n 0, 1, []), (63, .getfield 9, 3, [5, 0, 260]), (66, .bipush 7, 2, []), (68, .iload_n 2, 1, []), (69, .iadd, 1, []), (70, .iaload, 1, []), (71, .iload 4, 2, []), (73, .invokestatic 245, 3, [0, 169, 2, 5, 334]), (76, .ifCond .ne 6, 3, [82]), (79, .goto 55, 3, [134]), (82, .aload_n 0, 1, []), (83, .iload_n 3, 1, []), (84, .iload 4, 2, []), (86, .invokevirtual 122, 3, [0, 183, 3, 5, 295]), (89, .istore 5, 2, []), (91, .iload 5, 2, []), (93, .iload_n 1, 1, []), (94, .iconst 1, 1, []), (95, .isub, 1, []), (96, .invokestatic 245, 3, [0, 169, 2, 5, 334]), (99, .ifCond .ne 6, 3, [105]), (102, .goto 32, 3, [134]), (105, .iload 5, 2, []), (107, .iconst 1, 1, []), (108, .iload_n 1, 1, []), (109, .iconst 1, 1, []), (110, .isub, 1, []), (111, .ishl, 1, []), (112, .iconst (-1), 1, []), (113, .ixor, 1, []), (114, .iand, 1, []), (115, .istore 6, 2, []), (117, .aload_n 0, 1, []), (118, .iload_n 3, 1, []), (119, .iload 4, 2, []), (121, .iload 6, 2, []), (123, .invokevirtual 375, 3, [0, 281, 4, 5, 381]), (126, .istore_n 3, 1, []), (127, .iload 6, 2, []), (129, .ifCond .ne 5, 3, [134]), (132, .iconst (-1), 1, []), (133, .ireturn, 1, []), (134, .iinc 4 1, 3, []), (137, .goto (-100), 3, [37]), (140, .iload_n 3, 1, []), (141, .ireturn, 1, [])])
def ym_Mo_looksAhead : mz_Y := (⟨"RerootStoreModel", "looksAhead", "(II)V"⟩, prog_7_method_116_code, 4, none, 5, false, [(0, .aload_n 0, 1, []), (1, .iload_n 1, 1, []), (2, .aload_n 0, 1, []), (3, .getfield 9, 3, [5, 0, 260]), (6, .iconst 2, 1, []), (7, .iaload, 1, []), (8, .iconst 1, 1, []), (9, .iload_n 2, 1, []), (10, .ishl, 1, []), (11, .iconst 1, 1, []), (12, .isub, 1, []), (13, .invokevirtual 166, 3, [0, 175, 4, 5, 308]), (16, .aload_n 0, 1, []), (17, .iconst 0, 1, []), (18, .putfield 103, 3, [5, 17, 289]), (21, .aload_n 0, 1, []), (22, .iconst 0, 1, []), (23, .putfield 347, 3, [5, 29, 372]), (26, .aload_n 0, 1, []), (27, .iconst (-1), 1, []), (28, .putfield 350, 3, [5, 30, 373]), (31, .aload_n 0, 1, []), (32, .iconst 0, 1, []), (33, .putfield 369, 3, [5, 37, 379]), (36, .aload_n 0, 1, []), (37, .iconst 0, 1, []), (38, .invokevirtual 378, 3, [0, 280, 2, 5, 382]), (41, .aload_n 0, 1, []), (42, .getfield 350, 3, [5, 30, 373]), (45, .iconst (-1), 1, []), (46, .if_icmp .ne 127, 3, [173]), (49, .aload_n 0, 1, []), (50, .getfield 63, 3, [5, 33, 277]), (53, .aload_n 0, 1, []), (54, .getfield 369, 3, [5, 37, 379]), (57, .iconst 1, 1, []), (58, .isub, 1, []), (59, .iaload, 1, []), (60, .istore_n 3, 1, []), (61, .aload_n 0, 1, []), (62, .getfield 72, 3, [5, 36, 280]), (65, .iload_n 3, 1, []), (66, .dup2, 1, []), (67, .iaload, 1, []), (68, .iconst 1, 1, []), (69, .iadd, 1, []), (70, .iastore, 1, []), (71, .aload_n 0, 1, []), (72, .getfield 72, 3, [5, 36, 280]), (75, .iload_n 3, 1, []), (76, .iaload, 1, []), (77, .iload_n 2, 1, []), (78, .if_icmp .le 53, 3, [131]), (81, .aload_n 0, 1, []), (82, .dup, 1, []), (83, .getfield 369, 3, [5, 37, 379]), (86, .iconst 1, 1, []), (87, .isub, 1, []), (88, .putfield 369, 3, [5, 37, 379]), (91, .aload_n 0, 1, []), (92, .aload_n 0, 1, []), (93, .getfield 369, 3, [5, 37, 379]), (96, .ifCond .ne 7, 3, [103]), (99, .iconst 0, 1, []), (100, .goto 4, 3, [104]), (103, .iconst (-1), 1, []), (104, .putfield 350, 3, [5, 30, 373]), (107, .aload_n 0, 1, []), (108, .dup, 1, []), (109, .getfield 347, 3, [5, 29, 372]), (112, .aload_n 0, 1, []), (113, .getfield 369, 3, [5, 37, 379]), (116, .ifCond .ne 7, 3, [123]), (119, .iconst 0, 1, []), (120, .goto 4, 3, [124]), (123, .iconst 1, 1, []), (124, .iadd, 1, []), (125, .putfield 347, 3, [5, 29, 372]), (128, .goto 42, 3, [170]), (131, .aload_n 0, 1, []), (132, .getfield 69, 3, [5, 35, 279]), (135, .aload_n 0, 1, []), (136, .getfield 369, 3, [5, 37, 379]), (139, .iconst 1, 1, []), (140, .isub, 1, []), (141, .iaload, 1, []), (142, .aload_n 0, 1, []), (143, .getfield 72, 3, [5, 36, 280]), (146, .iload_n 3, 1, []), (147, .iaload, 1, []), (148, .iconst 1, 1, []), (149, .isub, 1, []), (150, .invokestatic 245, 3, [0, 169, 2, 5, 334]), (153, .ifCond .eq 17, 3, [170]), (156, .aload_n 0, 1, []), (157, .aload_n 0, 1, []), (158, .aload_n 0, 1, []), (159, .getfield 72, 3, [5, 36, 280]), (162, .iload_n 3, 1, []), (163, .iaload, 1, []), (164, .invokevirtual 381, 3, [0, 282, 2, 5, 383]), (167, .invokevirtual 384, 3, [0, 284, 2, 5, 384]), (170, .goto (-129), 3, [41]), (173, .aload_n 0, 1, []), (174, .aload_n 0, 1, []), (175, .getfield 88, 3, [5, 14, 285]), (178, .iconst 1, 1, []), (179, .isub, 1, []), (180, .putfield 359, 3, [5, 28, 376]), (183, .return_, 1, [])])
def ym_Mo_goesAhead : mz_Y := (⟨"RerootStoreModel", "goesAhead", "(I)V"⟩, prog_7_method_117_code, 2, none, 5, false, [(0, .iload_n 1, 1, []), (1, .iconst (-1), 1, []), (2, .if_icmp .eq 11, 3, [13]), (5, .aload_n 0, 1, []), (6, .getfield 350, 3, [5, 30, 373]), (9, .iconst (-1), 1, []), (10, .if_icmp .eq 4, 3, [14]), (13, .return_, 1, []), (14, .aload_n 0, 1, []), (15, .getfield 369, 3, [5, 37, 379]), (18, .aload_n 0, 1, []), (19, .getfield 9, 3, [5, 0, 260]), (22, .iconst 0, 1, []), (23, .iaload, 1, []), (24, .if_icmp .ne 11, 3, [35]), (27, .aload_n 0, 1, []), (28, .iconst 1, 1, []), (29, .putfield 350, 3, [5, 30, 373]), (32, .goto 8, 3, [40]), (35, .aload_n 0, 1, []), (36, .iload_n 1, 1, []), (37, .invokevirtual 378, 3, [0, 280, 2, 5, 382]), (40, .return_, 1, [])])
def ym_Mo_forward : mz_Y := (⟨"RerootStoreModel", "forward", "(II)I"⟩, prog_7_method_118_code, 3, (some .int), 5, false, [(0, .aload_n 0, 1, []), (1, .iload_n 1, 1, []), (2, .invokevirtual 362, 3, [0, 274, 2, 5, 377]), (5, .ifCond .eq 15, 3, [20]), (8, .iload_n 2, 1, []), (9, .i2l, 1, []), (10, .lconst 0, 1, []), (11, .ldc2_w 303, 3, [0, 357, 3]), (14, .invokestatic 78, 3, [0, 168, 3, 5, 282]), (17, .ifCond .ne 6, 3, [23]), (20, .bipush (-2), 2, []), (22, .ireturn, 1, []), (23, .aload_n 0, 1, []), (24, .aload_n 0, 1, []), (25, .getfield 9, 3, [5, 0, 260]), (28, .iconst 1, 1, []), (29, .iaload, 1, []), (30, .iload_n 1, 1, []), (31, .invokevirtual 387, 3, [0, 283, 3, 5, 385]), (34, .iload_n 2, 1, []), (35, .ifCond .ne 10, 3, [45]), (38, .aload_n 0, 1, []), (39, .getfield 350, 3, [5, 30, 373]), (42, .goto 31, 3, [73]), (45, .iload_n 2, 1, []), (46, .iconst 1, 1, []), (47, .if_icmp .ne 10, 3, [57]), (50, .aload_n 0, 1, []), (51, .getfield 359, 3, [5, 28, 376]), (54, .goto 19, 3, [73]), (57, .iload_n 2, 1, []), (58, .iconst 2, 1, []), (59, .if_icmp .ne 10, 3, [69]), (62, .aload_n 0, 1, []), (63, .getfield 103, 3, [5, 17, 289]), (66, .goto 7, 3, [73]), (69, .aload_n 0, 1, []), (70, .getfield 347, 3, [5, 29, 372]), (73, .ireturn, 1, [])])
def ym_Mo_forwardBy : mz_Y := (⟨"RerootStoreModel", "forwardBy", "(II)I"⟩, prog_7_method_119_code, 3, (some .int), 5, false, [(0, .aload_n 0, 1, []), (1, .iload_n 2, 1, []), (2, .invokevirtual 362, 3, [0, 274, 2, 5, 377]), (5, .ifCond .eq 15, 3, [20]), (8, .iload_n 1, 1, []), (9, .i2l, 1, []), (10, .lconst 0, 1, []), (11, .ldc2_w 289, 3, [0, 352, 2]), (14, .invokestatic 78, 3, [0, 168, 3, 5, 282]), (17, .ifCond .ne 6, 3, [23]), (20, .bipush (-2), 2, []), (22, .ireturn, 1, []), (23, .aload_n 0, 1, []), (24, .iload_n 1, 1, []), (25, .iload_n 2, 1, []), (26, .invokevirtual 387, 3, [0, 283, 3, 5, 385]), (29, .aload_n 0, 1, []), (30, .getfield 103, 3, [5, 17, 289]), (33, .ireturn, 1, [])])
def ym_Mo_hue : mz_Y := (⟨"RerootStoreModel", "hue", "(II)I"⟩, prog_7_method_120_code, 3, (some .int), 5, false, [(0, .aload_n 0, 1, []), (1, .iload_n 1, 1, []), (2, .invokevirtual 362, 3, [0, 274, 2, 5, 377]), (5, .ifCond .eq 11, 3, [16]), (8, .aload_n 0, 1, []), (9, .iload_n 2, 1, []), (10, .invokevirtual 241, 3, [0, 209, 2, 5, 333]), (13, .ifCond .ne 6, 3, [19]), (16, .bipush (-2), 2, []), (18, .ireturn, 1, []), (19, .aload_n 0, 1, []), (20, .aload_n 0, 1, []), (21, .getfield 9, 3, [5, 0, 260]), (24, .iconst 1, 1, []), (25, .iaload, 1, []), (26, .iload_n 1, 1, []), (27, .invokevirtual 387, 3, [0, 283, 3, 5, 385]), (30, .aload_n 0, 1, []), (31, .getfield 350, 3, [5, 30, 373]), (34, .iconst 1, 1, []), (35, .if_icmp .ne 12, 3, [47]), (38, .aload_n 0, 1, []), (39, .getfield 72, 3, [5, 36, 280]), (42, .iload_n 2, 1, []), (43, .iaload, 1, []), (44, .goto 4, 3, [48]), (47, .iconst 0, 1, []), (48, .ireturn, 1, [])])
def ym_Mo_undo : mz_Y := (⟨"RerootStoreModel", "undo", "()I"⟩, prog_7_method_121_code, 1, (some .int), 5, false, [(0, .aload_n 0, 1, []), (1, .invokevirtual 282, 3, [0, 217, 1, 5, 350]), (4, .ifCond .ne 6, 3, [10]), (7, .bipush (-2), 2, []), (9, .ireturn, 1, []), (10, .aload_n 0, 1, []), (11, .getfield 9, 3, [5, 0, 260]), (14, .bipush 6, 2, []), (16, .iaload, 1, []), (17, .ifCond .ne 6, 3, [23]), (20, .bipush (-5), 2, []), (22, .ireturn, 1, []), (23, .aload_n 0, 1, []), (24, .getfield 9, 3, [5, 0, 260]), (27, .bipush 6, 2, []), (29, .dup2, 1, []), (30, .iaload, 1, []), (31, .iconst 1, 1, []), (32, .isub, 1, []), (33, .iastore, 1, []), (34, .aload_n 0, 1, []), (35, .getfield 9, 3, [5, 0, 260]), (38, .iconst 4, 1, []), (39, .dup2, 1, []), (40, .iaload, 1, []), (41, .iconst 1, 1, []), (42, .isub, 1, []), (43, .iastore, 1, []), (44, .aload_n 0, 1, []), (45, .getfield 9, 3, [5, 0, 260]), (48, .bipush 6, 2, []), (50, .iaload, 1, []), (51, .ireturn, 1, [])])
def ym_Mo_anew : mz_Y := (⟨"RerootStoreModel", "anew", "()I"⟩, prog_7_method_122_code, 2, (some .int), 5, false, [(0, .aload_n 0, 1, []), (1, .invokevirtual 282, 3, [0, 217, 1, 5, 350]), (4, .ifCond .ne 6, 3, [10]), (7, .bipush (-2), 2, []), (9, .ireturn, 1, []), (10, .aload_n 0, 1, []), (11, .getfield 9, 3, [5, 0, 260]), (14, .bipush 6, 2, []), (16, .iaload, 1, []), (17, .istore_n 1, 1, []), (18, .aload_n 0, 1, []), (19, .getfield 9, 3, [5, 0, 260]), (22, .iconst 4, 1, []), (23, .dup2, 1, []), (24, .iaload, 1, []), (25, .iload_n 1, 1, []), (26, .isub, 1, []), (27, .iastore, 1, []), (28, .aload_n 0, 1, []), (29, .getfield 9, 3, [5, 0, 260]), (32, .bipush 6, 2, []), (34, .iconst 0, 1, []), (35, .iastore, 1, []), (36, .iload_n 1, 1, []), (37, .ireturn, 1, [])])
def ym_In_numberOfTrailingZeros : mz_Y := (⟨"java/lang/Integer", "numberOfTrailingZeros", "(I)I"⟩, prog_8_method_48_code, 2, (some .int), 7, false, [(0, .iload_n 0, 1, []), (1, .iconst (-1), 1, []), (2, .ixor, 1, []), (3, .iload_n 0, 1, []), (4, .iconst 1, 1, []), (5, .isub, 1, []), (6, .iand, 1, []), (7, .istore_n 0, 1, []), (8, .iload_n 0, 1, []), (9, .ifCond .gt 8, 3, [17]), (12, .iload_n 0, 1, []), (13, .bipush 32, 2, []), (15, .iand, 1, []), (16, .ireturn, 1, []), (17, .iconst 1, 1, []), (18, .istore_n 1, 1, []), (19, .iload_n 0, 1, []), (20, .ldc_w 264, 3, [0, 386, 65536]), (23, .if_icmp .le 11, 3, [34]), (26, .iinc 1 16, 3, []), (29, .iload_n 0, 1, []), (30, .bipush 16, 2, []), (32, .iushr, 1, []), (33, .istore_n 0, 1, []), (34, .iload_n 0, 1, []), (35, .sipush 256, 3, []), (38, .if_icmp .le 11, 3, [49]), (41, .iinc 1 8, 3, []), (44, .iload_n 0, 1, []), (45, .bipush 8, 2, []), (47, .iushr, 1, []), (48, .istore_n 0, 1, []), (49, .iload_n 0, 1, []), (50, .bipush 16, 2, []), (52, .if_icmp .le 10, 3, [62]), (55, .iinc 1 4, 3, []), (58, .iload_n 0, 1, []), (59, .iconst 4, 1, []), (60, .iushr, 1, []), (61, .istore_n 0, 1, []), (62, .iload_n 0, 1, []), (63, .iconst 4, 1, []), (64, .if_icmp .le 10, 3, [74]), (67, .iinc 1 2, 3, []), (70, .iload_n 0, 1, []), (71, .iconst 2, 1, []), (72, .iushr, 1, []), (73, .istore_n 0, 1, []), (74, .iload_n 1, 1, []), (75, .iload_n 0, 1, []), (76, .iconst 1, 1, []), (77, .iushr, 1, []), (78, .iadd, 1, []), (79, .ireturn, 1, [])])
def ym_In_bitCount : mz_Y := (⟨"java/lang/Integer", "bitCount", "(I)I"⟩, prog_8_method_49_code, 1, (some .int), 7, false, [(0, .iload_n 0, 1, []), (1, .iload_n 0, 1, []), (2, .iconst 1, 1, []), (3, .iushr, 1, []), (4, .ldc_w 265, 3, [0, 387, 1431655765]), (7, .iand, 1, []), (8, .isub, 1, []), (9, .istore_n 0, 1, []), (10, .iload_n 0, 1, []), (11, .ldc_w 266, 3, [0, 388, 858993459]), (14, .iand, 1, []), (15, .iload_n 0, 1, []), (16, .iconst 2, 1, []), (17, .iushr, 1, []), (18, .ldc_w 266, 3, [0, 388, 858993459]), (21, .iand, 1, []), (22, .iadd, 1, []), (23, .istore_n 0, 1, []), (24, .iload_n 0, 1, []), (25, .iload_n 0, 1, []), (26, .iconst 4, 1, []), (27, .iushr, 1, []), (28, .iadd, 1, []), (29, .ldc_w 267, 3, [0, 389, 252645135]), (32, .iand, 1, []), (33, .istore_n 0, 1, []), (34, .iload_n 0, 1, []), (35, .iload_n 0, 1, []), (36, .bipush 8, 2, []), (38, .iushr, 1, []), (39, .iadd, 1, []), (40, .istore_n 0, 1, []), (41, .iload_n 0, 1, []), (42, .iload_n 0, 1, []), (43, .bipush 16, 2, []), (45, .iushr, 1, []), (46, .iadd, 1, []), (47, .istore_n 0, 1, []), (48, .iload_n 0, 1, []), (49, .bipush 63, 2, []), (51, .iand, 1, []), (52, .ireturn, 1, [])])
def ym_Ma_max : mz_Y := (⟨"java/lang/Math", "max", "(II)I"⟩, prog_9_method_65_code, 2, (some .int), 8, false, [(0, .iload_n 0, 1, []), (1, .iload_n 1, 1, []), (2, .if_icmp .lt 7, 3, [9]), (5, .iload_n 0, 1, []), (6, .goto 4, 3, [10]), (9, .iload_n 1, 1, []), (10, .ireturn, 1, [])])
def ym_Ma_min : mz_Y := (⟨"java/lang/Math", "min", "(II)I"⟩, prog_9_method_69_code, 2, (some .int), 8, false, [(0, .iload_n 0, 1, []), (1, .iload_n 1, 1, []), (2, .if_icmp .gt 7, 3, [9]), (5, .iload_n 0, 1, []), (6, .goto 4, 3, [10]), (9, .iload_n 1, 1, []), (10, .ireturn, 1, [])])
def yt_Law_law_0 : List mz_En := [(0, .new 7, 3, [4, 390]), (3, .dup, 1, []), (4, .invokespecial 9, 3, [5, 103, 1, 4, 391]), (7, .astore_n 1, 1, []), (8, .new 10, 3, [5, 392]), (11, .dup, 1, []), (12, .invokespecial 12, 3, [5, 171, 1, 5, 393]), (15, .astore_n 2, 1, []), (16, .iconst 0, 1, []), (17, .istore_n 3, 1, []), (18, .iload_n 3, 1, []), (19, .aload_n 0, 1, []), (20, .arraylength, 1, [1]), (21, .bipush 6, 2, []), (23, .isub, 1, []), (24, .if_icmp .gt 1816, 3, [1840]), (27, .aload_n 0, 1, []), (28, .iload_n 3, 1, []), (29, .iaload, 1, [1]), (30, .bipush 63, 2, []), (32, .iand, 1, []), (33, .tableswitch 1801 0 54 #[235, 298, 321, 334, 357, 380, 413, 446, 479, 502, 535, 568, 601, 624, 657, 690, 713, 726, 739, 752, 775, 788, 801, 824, 837, 870, 893, 916, 929, 952, 985, 1028, 1071, 1104, 1127, 1160, 1193, 1226, 1239, 1272, 1305, 1348, 1391, 1424, 1467, 1510, 1564, 1617, 1630, 1663, 1696, 1729, 1752, 1775, 1788], 235, [1834, 268, 331, 354, 367, 390, 413, 446, 479, 512, 535, 568, 601, 634, 657, 690, 723, 746, 759, 772, 785, 808, 821, 834, 857, 870, 903, 926, 949, 962, 985, 1018, 1061, 1104, 1137, 1160, 1193, 1226, 1259, 1272, 1305, 1338, 1381, 1424, 1457, 1500, 1543, 1597, 1650, 1663, 1696, 1729, 1762, 1785, 1808, 1821]), (268, .aload_n 1, 1, []), (269, .aload_n 0, 1, []), (270, .iload_n 3, 1, []), (271, .iconst 1, 1, []), (272, .iadd, 1, []), (273, .iaload, 1, [1]), (274, .aload_n 0, 1, []), (275, .iload_n 3, 1, []), (276, .iconst 2, 1, []), (277, .iadd, 1, []), (278, .iaload, 1, [1]), (279, .aload_n 0, 1, []), (280, .iload_n 3, 1, []), (281, .iconst 3, 1, []), (282, .iadd, 1, []), (283, .iaload, 1, [1]), (284, .aload_n 0, 1, []), (285, .iload_n 3, 1, []), (286, .iconst 4, 1, []), (287, .iadd, 1, []), (288, .iaload, 1, [1]), (289, .aload_n 0, 1, []), (290, .iload_n 3, 1, []), (291, .iconst 5, 1, []), (292, .iadd, 1, []), (293, .iaload, 1, [1]), (294, .invokevirtual 13, 3, [0, 104, 6, 4, 394]), (297, .aload_n 2, 1, []), (298, .aload_n 0, 1, []), (299, .iload_n 3, 1, []), (300, .iconst 1, 1, []), (301, .iadd, 1, []), (302, .iaload, 1, [1]), (303, .aload_n 0, 1, []), (304, .iload_n 3, 1, []), (305, .iconst 2, 1, []), (306, .iadd, 1, []), (307, .iaload, 1, [1]), (308, .aload_n 0, 1, []), (309, .iload_n 3, 1, []), (310, .iconst 3, 1, []), (311, .iadd, 1, []), (312, .iaload, 1, [1]), (313, .aload_n 0, 1, []), (314, .iload_n 3, 1, []), (315, .iconst 4, 1, []), (316, .iadd, 1, []), (317, .iaload, 1, [1]), (318, .aload_n 0, 1, []), (319, .iload_n 3, 1, []), (320, .iconst 5, 1, []), (321, .iadd, 1, []), (322, .iaload, 1, [1]), (323, .invokevirtual 17, 3, [5, 172, 6, 5, 395]), (326, .if_icmp .eq 1508, 3, [1834]), (329, .iconst 0, 1, []), (330, .ireturn, 1, []), (331, .aload_n 1, 1, []), (332, .aload_n 0, 1, []), (333, .iload_n 3, 1, []), (334, .iconst 1, 1, []), (335, .iadd, 1, []), (336, .iaload, 1, [1]), (337, .invokevirtual 18, 3, [0, 105, 2, 4, 396]), (340, .aload_n 2, 1, []), (341, .aload_n 0, 1, []), (342, .iload_n 3, 1, []), (343, .iconst 1, 1, []), (344, .iadd, 1, []), (345, .iaload, 1, [1]), (346, .invokevirtual 22, 3, [0, 173, 2, 5, 397]), (349, .if_icmp .eq 1485, 3, [1834]), (352, .iconst 0, 1, []), (353, .ireturn, 1, []), (354, .aload_n 1, 1, []), (355, .invokevirtual 23, 3, [0, 106, 1, 4, 398]), (358, .aload_n 2, 1, []), (359, .invokevirtual 27, 3, [0, 215, 1, 5, 399])]
def yt_Law_law_1 : List mz_En := [(362, .if_icmp .eq 1472, 3, [1834]), (365, .iconst 0, 1, []), (366, .ireturn, 1, []), (367, .aload_n 1, 1, []), (368, .aload_n 0, 1, []), (369, .iload_n 3, 1, []), (370, .iconst 1, 1, []), (371, .iadd, 1, []), (372, .iaload, 1, [1]), (373, .invokevirtual 28, 3, [0, 107, 2, 4, 400]), (376, .aload_n 2, 1, []), (377, .aload_n 0, 1, []), (378, .iload_n 3, 1, []), (379, .iconst 1, 1, []), (380, .iadd, 1, []), (381, .iaload, 1, [1]), (382, .invokevirtual 31, 3, [0, 216, 2, 5, 401]), (385, .if_icmp .eq 1449, 3, [1834]), (388, .iconst 0, 1, []), (389, .ireturn, 1, []), (390, .aload_n 1, 1, []), (391, .aload_n 0, 1, []), (392, .iload_n 3, 1, []), (393, .iconst 1, 1, []), (394, .iadd, 1, []), (395, .iaload, 1, [1]), (396, .invokevirtual 32, 3, [0, 108, 2, 4, 402]), (399, .aload_n 2, 1, []), (400, .aload_n 0, 1, []), (401, .iload_n 3, 1, []), (402, .iconst 1, 1, []), (403, .iadd, 1, []), (404, .iaload, 1, [1]), (405, .invokevirtual 35, 3, [0, 219, 2, 5, 403]), (408, .if_icmp .eq 1426, 3, [1834]), (411, .iconst 0, 1, []), (412, .ireturn, 1, []), (413, .aload_n 1, 1, []), (414, .aload_n 0, 1, []), (415, .iload_n 3, 1, []), (416, .iconst 1, 1, []), (417, .iadd, 1, []), (418, .iaload, 1, [1]), (419, .aload_n 0, 1, []), (420, .iload_n 3, 1, []), (421, .iconst 2, 1, []), (422, .iadd, 1, []), (423, .iaload, 1, [1]), (424, .invokevirtual 36, 3, [0, 113, 3, 4, 404]), (427, .aload_n 2, 1, []), (428, .aload_n 0, 1, []), (429, .iload_n 3, 1, []), (430, .iconst 1, 1, []), (431, .iadd, 1, []), (432, .iaload, 1, [1]), (433, .aload_n 0, 1, []), (434, .iload_n 3, 1, []), (435, .iconst 2, 1, []), (436, .iadd, 1, []), (437, .iaload, 1, [1]), (438, .invokevirtual 40, 3, [0, 220, 3, 5, 405]), (441, .if_icmp .eq 1393, 3, [1834]), (444, .iconst 0, 1, []), (445, .ireturn, 1, []), (446, .aload_n 1, 1, []), (447, .aload_n 0, 1, []), (448, .iload_n 3, 1, []), (449, .iconst 1, 1, []), (450, .iadd, 1, []), (451, .iaload, 1, [1]), (452, .aload_n 0, 1, []), (453, .iload_n 3, 1, []), (454, .iconst 2, 1, []), (455, .iadd, 1, []), (456, .iaload, 1, [1]), (457, .invokevirtual 41, 3, [0, 114, 3, 4, 406]), (460, .aload_n 2, 1, []), (461, .aload_n 0, 1, []), (462, .iload_n 3, 1, []), (463, .iconst 1, 1, []), (464, .iadd, 1, []), (465, .iaload, 1, [1]), (466, .aload_n 0, 1, []), (467, .iload_n 3, 1, []), (468, .iconst 2, 1, []), (469, .iadd, 1, []), (470, .iaload, 1, [1]), (471, .invokevirtual 44, 3, [0, 221, 3, 5, 407]), (474, .if_icmp .eq 1360, 3, [1834]), (477, .iconst 0, 1, []), (478, .ireturn, 1, []), (479, .aload_n 1, 1, []), (480, .aload_n 0, 1, []), (481, .iload_n 3, 1, []), (482, .iconst 1, 1, []), (483, .iadd, 1, []), (484, .iaload, 1, [1]), (485, .aload_n 0, 1, []), (486, .iload_n 3, 1, []), (487, .iconst 2, 1, [])]
def yt_Law_law_2 : List mz_En := [(488, .iadd, 1, []), (489, .iaload, 1, [1]), (490, .invokevirtual 45, 3, [0, 115, 3, 4, 408]), (493, .aload_n 2, 1, []), (494, .aload_n 0, 1, []), (495, .iload_n 3, 1, []), (496, .iconst 1, 1, []), (497, .iadd, 1, []), (498, .iaload, 1, [1]), (499, .aload_n 0, 1, []), (500, .iload_n 3, 1, []), (501, .iconst 2, 1, []), (502, .iadd, 1, []), (503, .iaload, 1, [1]), (504, .invokevirtual 48, 3, [0, 224, 3, 5, 409]), (507, .if_icmp .eq 1327, 3, [1834]), (510, .iconst 0, 1, []), (511, .ireturn, 1, []), (512, .aload_n 1, 1, []), (513, .aload_n 0, 1, []), (514, .iload_n 3, 1, []), (515, .iconst 1, 1, []), (516, .iadd, 1, []), (517, .iaload, 1, [1]), (518, .invokevirtual 49, 3, [0, 116, 2, 4, 410]), (521, .aload_n 2, 1, []), (522, .aload_n 0, 1, []), (523, .iload_n 3, 1, []), (524, .iconst 1, 1, []), (525, .iadd, 1, []), (526, .iaload, 1, [1]), (527, .invokevirtual 52, 3, [0, 225, 2, 5, 411]), (530, .if_icmp .eq 1304, 3, [1834]), (533, .iconst 0, 1, []), (534, .ireturn, 1, []), (535, .aload_n 1, 1, []), (536, .aload_n 0, 1, []), (537, .iload_n 3, 1, []), (538, .iconst 1, 1, []), (539, .iadd, 1, []), (540, .iaload, 1, [1]), (541, .aload_n 0, 1, []), (542, .iload_n 3, 1, []), (543, .iconst 2, 1, []), (544, .iadd, 1, []), (545, .iaload, 1, [1]), (546, .invokevirtual 53, 3, [0, 117, 3, 4, 412]), (549, .aload_n 2, 1, []), (550, .aload_n 0, 1, []), (551, .iload_n 3, 1, []), (552, .iconst 1, 1, []), (553, .iadd, 1, []), (554, .iaload, 1, [1]), (555, .aload_n 0, 1, []), (556, .iload_n 3, 1, []), (557, .iconst 2, 1, []), (558, .iadd, 1, []), (559, .iaload, 1, [1]), (560, .invokevirtual 56, 3, [0, 227, 3, 5, 413]), (563, .if_icmp .eq 1271, 3, [1834]), (566, .iconst 0, 1, []), (567, .ireturn, 1, []), (568, .aload_n 1, 1, []), (569, .aload_n 0, 1, []), (570, .iload_n 3, 1, []), (571, .iconst 1, 1, []), (572, .iadd, 1, []), (573, .iaload, 1, [1]), (574, .aload_n 0, 1, []), (575, .iload_n 3, 1, []), (576, .iconst 2, 1, []), (577, .iadd, 1, []), (578, .iaload, 1, [1]), (579, .invokevirtual 57, 3, [0, 118, 3, 4, 414]), (582, .aload_n 2, 1, []), (583, .aload_n 0, 1, []), (584, .iload_n 3, 1, []), (585, .iconst 1, 1, []), (586, .iadd, 1, []), (587, .iaload, 1, [1]), (588, .aload_n 0, 1, []), (589, .iload_n 3, 1, []), (590, .iconst 2, 1, []), (591, .iadd, 1, []), (592, .iaload, 1, [1]), (593, .invokevirtual 60, 3, [0, 228, 3, 5, 415]), (596, .if_icmp .eq 1238, 3, [1834]), (599, .iconst 0, 1, []), (600, .ireturn, 1, []), (601, .aload_n 1, 1, []), (602, .aload_n 0, 1, []), (603, .iload_n 3, 1, []), (604, .iconst 1, 1, []), (605, .iadd, 1, []), (606, .iaload, 1, [1]), (607, .aload_n 0, 1, []), (608, .iload_n 3, 1, []), (609, .iconst 2, 1, []), (610, .iadd, 1, []), (611, .iaload, 1, [1])]
def yt_Law_law_3 : List mz_En := [(612, .invokevirtual 61, 3, [0, 119, 3, 4, 416]), (615, .aload_n 2, 1, []), (616, .aload_n 0, 1, []), (617, .iload_n 3, 1, []), (618, .iconst 1, 1, []), (619, .iadd, 1, []), (620, .iaload, 1, [1]), (621, .aload_n 0, 1, []), (622, .iload_n 3, 1, []), (623, .iconst 2, 1, []), (624, .iadd, 1, []), (625, .iaload, 1, [1]), (626, .invokevirtual 64, 3, [0, 229, 3, 5, 417]), (629, .if_icmp .eq 1205, 3, [1834]), (632, .iconst 0, 1, []), (633, .ireturn, 1, []), (634, .aload_n 1, 1, []), (635, .aload_n 0, 1, []), (636, .iload_n 3, 1, []), (637, .iconst 1, 1, []), (638, .iadd, 1, []), (639, .iaload, 1, [1]), (640, .invokevirtual 65, 3, [0, 120, 2, 4, 418]), (643, .aload_n 2, 1, []), (644, .aload_n 0, 1, []), (645, .iload_n 3, 1, []), (646, .iconst 1, 1, []), (647, .iadd, 1, []), (648, .iaload, 1, [1]), (649, .invokevirtual 68, 3, [0, 230, 2, 5, 419]), (652, .if_icmp .eq 1182, 3, [1834]), (655, .iconst 0, 1, []), (656, .ireturn, 1, []), (657, .aload_n 1, 1, []), (658, .aload_n 0, 1, []), (659, .iload_n 3, 1, []), (660, .iconst 1, 1, []), (661, .iadd, 1, []), (662, .iaload, 1, [1]), (663, .aload_n 0, 1, []), (664, .iload_n 3, 1, []), (665, .iconst 2, 1, []), (666, .iadd, 1, []), (667, .iaload, 1, [1]), (668, .invokevirtual 69, 3, [0, 121, 3, 4, 420]), (671, .aload_n 2, 1, []), (672, .aload_n 0, 1, []), (673, .iload_n 3, 1, []), (674, .iconst 1, 1, []), (675, .iadd, 1, []), (676, .iaload, 1, [1]), (677, .aload_n 0, 1, []), (678, .iload_n 3, 1, []), (679, .iconst 2, 1, []), (680, .iadd, 1, []), (681, .iaload, 1, [1]), (682, .invokevirtual 72, 3, [0, 231, 3, 5, 421]), (685, .if_icmp .eq 1149, 3, [1834]), (688, .iconst 0, 1, []), (689, .ireturn, 1, []), (690, .aload_n 1, 1, []), (691, .aload_n 0, 1, []), (692, .iload_n 3, 1, []), (693, .iconst 1, 1, []), (694, .iadd, 1, []), (695, .iaload, 1, [1]), (696, .aload_n 0, 1, []), (697, .iload_n 3, 1, []), (698, .iconst 2, 1, []), (699, .iadd, 1, []), (700, .iaload, 1, [1]), (701, .invokevirtual 73, 3, [0, 124, 3, 4, 422]), (704, .aload_n 2, 1, []), (705, .aload_n 0, 1, []), (706, .iload_n 3, 1, []), (707, .iconst 1, 1, []), (708, .iadd, 1, []), (709, .iaload, 1, [1]), (710, .aload_n 0, 1, []), (711, .iload_n 3, 1, []), (712, .iconst 2, 1, []), (713, .iadd, 1, []), (714, .iaload, 1, [1]), (715, .invokevirtual 76, 3, [0, 232, 3, 5, 423]), (718, .if_icmp .eq 1116, 3, [1834]), (721, .iconst 0, 1, []), (722, .ireturn, 1, []), (723, .aload_n 1, 1, []), (724, .aload_n 0, 1, []), (725, .iload_n 3, 1, []), (726, .iconst 1, 1, []), (727, .iadd, 1, []), (728, .iaload, 1, [1]), (729, .invokevirtual 77, 3, [0, 125, 2, 4, 424]), (732, .aload_n 2, 1, []), (733, .aload_n 0, 1, []), (734, .iload_n 3, 1, []), (735, .iconst 1, 1, []), (736, .iadd, 1, []), (737, .iaload, 1, [1])]
def yt_Law_law_4 : List mz_En := [(738, .invokevirtual 80, 3, [0, 233, 2, 5, 425]), (741, .if_icmp .eq 1093, 3, [1834]), (744, .iconst 0, 1, []), (745, .ireturn, 1, []), (746, .aload_n 1, 1, []), (747, .invokevirtual 81, 3, [0, 126, 1, 4, 426]), (750, .aload_n 2, 1, []), (751, .invokevirtual 84, 3, [0, 234, 1, 5, 427]), (754, .if_icmp .eq 1080, 3, [1834]), (757, .iconst 0, 1, []), (758, .ireturn, 1, []), (759, .aload_n 1, 1, []), (760, .invokevirtual 85, 3, [0, 127, 1, 4, 428]), (763, .aload_n 2, 1, []), (764, .invokevirtual 88, 3, [0, 235, 1, 5, 429]), (767, .if_icmp .eq 1067, 3, [1834]), (770, .iconst 0, 1, []), (771, .ireturn, 1, []), (772, .aload_n 1, 1, []), (773, .invokevirtual 89, 3, [0, 128, 1, 4, 430]), (776, .aload_n 2, 1, []), (777, .invokevirtual 92, 3, [0, 266, 1, 5, 431]), (780, .if_icmp .eq 1054, 3, [1834]), (783, .iconst 0, 1, []), (784, .ireturn, 1, []), (785, .aload_n 1, 1, []), (786, .aload_n 0, 1, []), (787, .iload_n 3, 1, []), (788, .iconst 1, 1, []), (789, .iadd, 1, []), (790, .iaload, 1, [1]), (791, .invokevirtual 93, 3, [0, 129, 2, 4, 432]), (794, .aload_n 2, 1, []), (795, .aload_n 0, 1, []), (796, .iload_n 3, 1, []), (797, .iconst 1, 1, []), (798, .iadd, 1, []), (799, .iaload, 1, [1]), (800, .invokevirtual 96, 3, [0, 267, 2, 5, 433]), (803, .if_icmp .eq 1031, 3, [1834]), (806, .iconst 0, 1, []), (807, .ireturn, 1, []), (808, .aload_n 1, 1, []), (809, .invokevirtual 97, 3, [0, 130, 1, 4, 434]), (812, .aload_n 2, 1, []), (813, .invokevirtual 100, 3, [0, 268, 1, 5, 435]), (816, .if_icmp .eq 1018, 3, [1834]), (819, .iconst 0, 1, []), (820, .ireturn, 1, []), (821, .aload_n 1, 1, []), (822, .invokevirtual 101, 3, [0, 135, 1, 4, 436]), (825, .aload_n 2, 1, []), (826, .invokevirtual 104, 3, [0, 236, 1, 5, 437]), (829, .if_icmp .eq 1005, 3, [1834]), (832, .iconst 0, 1, []), (833, .ireturn, 1, []), (834, .aload_n 1, 1, []), (835, .aload_n 0, 1, []), (836, .iload_n 3, 1, []), (837, .iconst 1, 1, []), (838, .iadd, 1, []), (839, .iaload, 1, [1]), (840, .invokevirtual 105, 3, [0, 136, 2, 4, 438]), (843, .aload_n 2, 1, []), (844, .aload_n 0, 1, []), (845, .iload_n 3, 1, []), (846, .iconst 1, 1, []), (847, .iadd, 1, []), (848, .iaload, 1, [1]), (849, .invokevirtual 108, 3, [0, 237, 2, 5, 439]), (852, .if_icmp .eq 982, 3, [1834]), (855, .iconst 0, 1, []), (856, .ireturn, 1, []), (857, .aload_n 1, 1, []), (858, .invokevirtual 109, 3, [0, 137, 1, 4, 440]), (861, .aload_n 2, 1, []), (862, .invokevirtual 112, 3, [0, 238, 1, 5, 441]), (865, .if_icmp .eq 969, 3, [1834]), (868, .iconst 0, 1, []), (869, .ireturn, 1, []), (870, .aload_n 1, 1, []), (871, .aload_n 0, 1, []), (872, .iload_n 3, 1, []), (873, .iconst 1, 1, []), (874, .iadd, 1, []), (875, .iaload, 1, [1]), (876, .aload_n 0, 1, []), (877, .iload_n 3, 1, []), (878, .iconst 2, 1, []), (879, .iadd, 1, []), (880, .iaload, 1, [1]), (881, .invokevirtual 113, 3, [0, 138, 3, 4, 442]), (884, .aload_n 2, 1, []), (885, .aload_n 0, 1, []), (886, .iload_n 3, 1, []), (887, .iconst 1, 1, []), (888, .iadd, 1, []), (889, .iaload, 1, [1]), (890, .aload_n 0, 1, []), (891, .iload_n 3, 1, [])]
def yt_Law_law_5 : List mz_En := [(892, .iconst 2, 1, []), (893, .iadd, 1, []), (894, .iaload, 1, [1]), (895, .invokevirtual 116, 3, [0, 239, 3, 5, 443]), (898, .if_icmp .eq 936, 3, [1834]), (901, .iconst 0, 1, []), (902, .ireturn, 1, []), (903, .aload_n 1, 1, []), (904, .aload_n 0, 1, []), (905, .iload_n 3, 1, []), (906, .iconst 1, 1, []), (907, .iadd, 1, []), (908, .iaload, 1, [1]), (909, .invokevirtual 117, 3, [0, 139, 2, 4, 444]), (912, .aload_n 2, 1, []), (913, .aload_n 0, 1, []), (914, .iload_n 3, 1, []), (915, .iconst 1, 1, []), (916, .iadd, 1, []), (917, .iaload, 1, [1]), (918, .invokevirtual 120, 3, [0, 240, 2, 5, 445]), (921, .if_icmp .eq 913, 3, [1834]), (924, .iconst 0, 1, []), (925, .ireturn, 1, []), (926, .aload_n 1, 1, []), (927, .aload_n 0, 1, []), (928, .iload_n 3, 1, []), (929, .iconst 1, 1, []), (930, .iadd, 1, []), (931, .iaload, 1, [1]), (932, .invokevirtual 121, 3, [0, 140, 2, 4, 446]), (935, .aload_n 2, 1, []), (936, .aload_n 0, 1, []), (937, .iload_n 3, 1, []), (938, .iconst 1, 1, []), (939, .iadd, 1, []), (940, .iaload, 1, [1]), (941, .invokevirtual 124, 3, [0, 241, 2, 5, 447]), (944, .if_icmp .eq 890, 3, [1834]), (947, .iconst 0, 1, []), (948, .ireturn, 1, []), (949, .aload_n 1, 1, []), (950, .invokevirtual 125, 3, [0, 141, 1, 4, 448]), (953, .aload_n 2, 1, []), (954, .invokevirtual 128, 3, [0, 242, 1, 5, 449]), (957, .if_icmp .eq 877, 3, [1834]), (960, .iconst 0, 1, []), (961, .ireturn, 1, []), (962, .aload_n 1, 1, []), (963, .aload_n 0, 1, []), (964, .iload_n 3, 1, []), (965, .iconst 1, 1, []), (966, .iadd, 1, []), (967, .iaload, 1, [1]), (968, .invokevirtual 129, 3, [0, 142, 2, 4, 450]), (971, .aload_n 2, 1, []), (972, .aload_n 0, 1, []), (973, .iload_n 3, 1, []), (974, .iconst 1, 1, []), (975, .iadd, 1, []), (976, .iaload, 1, [1]), (977, .invokevirtual 132, 3, [0, 243, 2, 5, 451]), (980, .if_icmp .eq 854, 3, [1834]), (983, .iconst 0, 1, []), (984, .ireturn, 1, []), (985, .aload_n 1, 1, []), (986, .aload_n 0, 1, []), (987, .iload_n 3, 1, []), (988, .iconst 1, 1, []), (989, .iadd, 1, []), (990, .iaload, 1, [1]), (991, .aload_n 0, 1, []), (992, .iload_n 3, 1, []), (993, .iconst 2, 1, []), (994, .iadd, 1, []), (995, .iaload, 1, [1]), (996, .invokevirtual 133, 3, [0, 145, 3, 4, 452]), (999, .aload_n 2, 1, []), (1000, .aload_n 0, 1, []), (1001, .iload_n 3, 1, []), (1002, .iconst 1, 1, []), (1003, .iadd, 1, []), (1004, .iaload, 1, [1]), (1005, .aload_n 0, 1, []), (1006, .iload_n 3, 1, []), (1007, .iconst 2, 1, []), (1008, .iadd, 1, []), (1009, .iaload, 1, [1]), (1010, .invokevirtual 136, 3, [0, 246, 3, 5, 453]), (1013, .if_icmp .eq 821, 3, [1834]), (1016, .iconst 0, 1, []), (1017, .ireturn, 1, []), (1018, .aload_n 1, 1, []), (1019, .aload_n 0, 1, []), (1020, .iload_n 3, 1, []), (1021, .iconst 1, 1, []), (1022, .iadd, 1, []), (1023, .iaload, 1, [1]), (1024, .aload_n 0, 1, []), (1025, .iload_n 3, 1, [])]
def yt_Law_law_6 : List mz_En := [(1026, .iconst 2, 1, []), (1027, .iadd, 1, []), (1028, .iaload, 1, [1]), (1029, .aload_n 0, 1, []), (1030, .iload_n 3, 1, []), (1031, .iconst 3, 1, []), (1032, .iadd, 1, []), (1033, .iaload, 1, [1]), (1034, .invokevirtual 137, 3, [0, 146, 4, 4, 454]), (1037, .aload_n 2, 1, []), (1038, .aload_n 0, 1, []), (1039, .iload_n 3, 1, []), (1040, .iconst 1, 1, []), (1041, .iadd, 1, []), (1042, .iaload, 1, [1]), (1043, .aload_n 0, 1, []), (1044, .iload_n 3, 1, []), (1045, .iconst 2, 1, []), (1046, .iadd, 1, []), (1047, .iaload, 1, [1]), (1048, .aload_n 0, 1, []), (1049, .iload_n 3, 1, []), (1050, .iconst 3, 1, []), (1051, .iadd, 1, []), (1052, .iaload, 1, [1]), (1053, .invokevirtual 141, 3, [0, 247, 4, 5, 455]), (1056, .if_icmp .eq 778, 3, [1834]), (1059, .iconst 0, 1, []), (1060, .ireturn, 1, []), (1061, .aload_n 1, 1, []), (1062, .aload_n 0, 1, []), (1063, .iload_n 3, 1, []), (1064, .iconst 1, 1, []), (1065, .iadd, 1, []), (1066, .iaload, 1, [1]), (1067, .aload_n 0, 1, []), (1068, .iload_n 3, 1, []), (1069, .iconst 2, 1, []), (1070, .iadd, 1, []), (1071, .iaload, 1, [1]), (1072, .aload_n 0, 1, []), (1073, .iload_n 3, 1, []), (1074, .iconst 3, 1, []), (1075, .iadd, 1, []), (1076, .iaload, 1, [1]), (1077, .invokevirtual 142, 3, [0, 147, 4, 4, 456]), (1080, .aload_n 2, 1, []), (1081, .aload_n 0, 1, []), (1082, .iload_n 3, 1, []), (1083, .iconst 1, 1, []), (1084, .iadd, 1, []), (1085, .iaload, 1, [1]), (1086, .aload_n 0, 1, []), (1087, .iload_n 3, 1, []), (1088, .iconst 2, 1, []), (1089, .iadd, 1, []), (1090, .iaload, 1, [1]), (1091, .aload_n 0, 1, []), (1092, .iload_n 3, 1, []), (1093, .iconst 3, 1, []), (1094, .iadd, 1, []), (1095, .iaload, 1, [1]), (1096, .invokevirtual 145, 3, [0, 248, 4, 5, 457]), (1099, .if_icmp .eq 735, 3, [1834]), (1102, .iconst 0, 1, []), (1103, .ireturn, 1, []), (1104, .aload_n 1, 1, []), (1105, .aload_n 0, 1, []), (1106, .iload_n 3, 1, []), (1107, .iconst 1, 1, []), (1108, .iadd, 1, []), (1109, .iaload, 1, [1]), (1110, .aload_n 0, 1, []), (1111, .iload_n 3, 1, []), (1112, .iconst 2, 1, []), (1113, .iadd, 1, []), (1114, .iaload, 1, [1]), (1115, .invokevirtual 146, 3, [0, 148, 3, 4, 458]), (1118, .aload_n 2, 1, []), (1119, .aload_n 0, 1, []), (1120, .iload_n 3, 1, []), (1121, .iconst 1, 1, []), (1122, .iadd, 1, []), (1123, .iaload, 1, [1]), (1124, .aload_n 0, 1, []), (1125, .iload_n 3, 1, []), (1126, .iconst 2, 1, []), (1127, .iadd, 1, []), (1128, .iaload, 1, [1]), (1129, .invokevirtual 149, 3, [0, 249, 3, 5, 459]), (1132, .if_icmp .eq 702, 3, [1834]), (1135, .iconst 0, 1, []), (1136, .ireturn, 1, []), (1137, .aload_n 1, 1, []), (1138, .aload_n 0, 1, []), (1139, .iload_n 3, 1, []), (1140, .iconst 1, 1, []), (1141, .iadd, 1, []), (1142, .iaload, 1, [1]), (1143, .invokevirtual 150, 3, [0, 149, 2, 4, 460])]
def yt_Law_law_7 : List mz_En := [(1146, .aload_n 2, 1, []), (1147, .aload_n 0, 1, []), (1148, .iload_n 3, 1, []), (1149, .iconst 1, 1, []), (1150, .iadd, 1, []), (1151, .iaload, 1, [1]), (1152, .invokevirtual 153, 3, [0, 250, 2, 5, 461]), (1155, .if_icmp .eq 679, 3, [1834]), (1158, .iconst 0, 1, []), (1159, .ireturn, 1, []), (1160, .aload_n 1, 1, []), (1161, .aload_n 0, 1, []), (1162, .iload_n 3, 1, []), (1163, .iconst 1, 1, []), (1164, .iadd, 1, []), (1165, .iaload, 1, [1]), (1166, .aload_n 0, 1, []), (1167, .iload_n 3, 1, []), (1168, .iconst 2, 1, []), (1169, .iadd, 1, []), (1170, .iaload, 1, [1]), (1171, .invokevirtual 154, 3, [0, 156, 3, 4, 462]), (1174, .aload_n 2, 1, []), (1175, .aload_n 0, 1, []), (1176, .iload_n 3, 1, []), (1177, .iconst 1, 1, []), (1178, .iadd, 1, []), (1179, .iaload, 1, [1]), (1180, .aload_n 0, 1, []), (1181, .iload_n 3, 1, []), (1182, .iconst 2, 1, []), (1183, .iadd, 1, []), (1184, .iaload, 1, [1]), (1185, .invokevirtual 157, 3, [0, 275, 3, 5, 463]), (1188, .if_icmp .eq 646, 3, [1834]), (1191, .iconst 0, 1, []), (1192, .ireturn, 1, []), (1193, .aload_n 1, 1, []), (1194, .aload_n 0, 1, []), (1195, .iload_n 3, 1, []), (1196, .iconst 1, 1, []), (1197, .iadd, 1, []), (1198, .iaload, 1, [1]), (1199, .aload_n 0, 1, []), (1200, .iload_n 3, 1, []), (1201, .iconst 2, 1, []), (1202, .iadd, 1, []), (1203, .iaload, 1, [1]), (1204, .invokevirtual 158, 3, [0, 157, 3, 4, 464]), (1207, .aload_n 2, 1, []), (1208, .aload_n 0, 1, []), (1209, .iload_n 3, 1, []), (1210, .iconst 1, 1, []), (1211, .iadd, 1, []), (1212, .iaload, 1, [1]), (1213, .aload_n 0, 1, []), (1214, .iload_n 3, 1, []), (1215, .iconst 2, 1, []), (1216, .iadd, 1, []), (1217, .iaload, 1, [1]), (1218, .invokevirtual 161, 3, [0, 276, 3, 5, 465]), (1221, .if_icmp .eq 613, 3, [1834]), (1224, .iconst 0, 1, []), (1225, .ireturn, 1, []), (1226, .aload_n 1, 1, []), (1227, .aload_n 0, 1, []), (1228, .iload_n 3, 1, []), (1229, .iconst 1, 1, []), (1230, .iadd, 1, []), (1231, .iaload, 1, [1]), (1232, .aload_n 0, 1, []), (1233, .iload_n 3, 1, []), (1234, .iconst 2, 1, []), (1235, .iadd, 1, []), (1236, .iaload, 1, [1]), (1237, .invokevirtual 162, 3, [0, 158, 3, 4, 466]), (1240, .aload_n 2, 1, []), (1241, .aload_n 0, 1, []), (1242, .iload_n 3, 1, []), (1243, .iconst 1, 1, []), (1244, .iadd, 1, []), (1245, .iaload, 1, [1]), (1246, .aload_n 0, 1, []), (1247, .iload_n 3, 1, []), (1248, .iconst 2, 1, []), (1249, .iadd, 1, []), (1250, .iaload, 1, [1]), (1251, .invokevirtual 165, 3, [0, 277, 3, 5, 467]), (1254, .if_icmp .eq 580, 3, [1834]), (1257, .iconst 0, 1, []), (1258, .ireturn, 1, []), (1259, .aload_n 1, 1, []), (1260, .invokevirtual 166, 3, [0, 159, 1, 4, 468]), (1263, .aload_n 2, 1, []), (1264, .invokevirtual 169, 3, [0, 278, 1, 5, 469]), (1267, .if_icmp .eq 567, 3, [1834]), (1270, .iconst 0, 1, []), (1271, .ireturn, 1, []), (1272, .aload_n 1, 1, []), (1273, .aload_n 0, 1, [])]
def yt_Law_law_8 : List mz_En := [(1274, .iload_n 3, 1, []), (1275, .iconst 1, 1, []), (1276, .iadd, 1, []), (1277, .iaload, 1, [1]), (1278, .aload_n 0, 1, []), (1279, .iload_n 3, 1, []), (1280, .iconst 2, 1, []), (1281, .iadd, 1, []), (1282, .iaload, 1, [1]), (1283, .invokevirtual 170, 3, [0, 122, 3, 4, 470]), (1286, .aload_n 2, 1, []), (1287, .aload_n 0, 1, []), (1288, .iload_n 3, 1, []), (1289, .iconst 1, 1, []), (1290, .iadd, 1, []), (1291, .iaload, 1, [1]), (1292, .aload_n 0, 1, []), (1293, .iload_n 3, 1, []), (1294, .iconst 2, 1, []), (1295, .iadd, 1, []), (1296, .iaload, 1, [1]), (1297, .invokevirtual 173, 3, [0, 257, 3, 5, 471]), (1300, .if_icmp .eq 534, 3, [1834]), (1303, .iconst 0, 1, []), (1304, .ireturn, 1, []), (1305, .aload_n 1, 1, []), (1306, .aload_n 0, 1, []), (1307, .iload_n 3, 1, []), (1308, .iconst 1, 1, []), (1309, .iadd, 1, []), (1310, .iaload, 1, [1]), (1311, .aload_n 0, 1, []), (1312, .iload_n 3, 1, []), (1313, .iconst 2, 1, []), (1314, .iadd, 1, []), (1315, .iaload, 1, [1]), (1316, .invokevirtual 174, 3, [0, 123, 3, 4, 472]), (1319, .aload_n 2, 1, []), (1320, .aload_n 0, 1, []), (1321, .iload_n 3, 1, []), (1322, .iconst 1, 1, []), (1323, .iadd, 1, []), (1324, .iaload, 1, [1]), (1325, .aload_n 0, 1, []), (1326, .iload_n 3, 1, []), (1327, .iconst 2, 1, []), (1328, .iadd, 1, []), (1329, .iaload, 1, [1]), (1330, .invokevirtual 177, 3, [0, 258, 3, 5, 473]), (1333, .if_icmp .eq 501, 3, [1834]), (1336, .iconst 0, 1, []), (1337, .ireturn, 1, []), (1338, .aload_n 1, 1, []), (1339, .aload_n 0, 1, []), (1340, .iload_n 3, 1, []), (1341, .iconst 1, 1, []), (1342, .iadd, 1, []), (1343, .iaload, 1, [1]), (1344, .aload_n 0, 1, []), (1345, .iload_n 3, 1, []), (1346, .iconst 2, 1, []), (1347, .iadd, 1, []), (1348, .iaload, 1, [1]), (1349, .aload_n 0, 1, []), (1350, .iload_n 3, 1, []), (1351, .iconst 3, 1, []), (1352, .iadd, 1, []), (1353, .iaload, 1, [1]), (1354, .invokevirtual 178, 3, [0, 150, 4, 4, 474]), (1357, .aload_n 2, 1, []), (1358, .aload_n 0, 1, []), (1359, .iload_n 3, 1, []), (1360, .iconst 1, 1, []), (1361, .iadd, 1, []), (1362, .iaload, 1, [1]), (1363, .aload_n 0, 1, []), (1364, .iload_n 3, 1, []), (1365, .iconst 2, 1, []), (1366, .iadd, 1, []), (1367, .iaload, 1, [1]), (1368, .aload_n 0, 1, []), (1369, .iload_n 3, 1, []), (1370, .iconst 3, 1, []), (1371, .iadd, 1, []), (1372, .iaload, 1, [1]), (1373, .invokevirtual 181, 3, [0, 255, 4, 5, 475]), (1376, .if_icmp .eq 458, 3, [1834]), (1379, .iconst 0, 1, []), (1380, .ireturn, 1, []), (1381, .aload_n 1, 1, []), (1382, .aload_n 0, 1, []), (1383, .iload_n 3, 1, []), (1384, .iconst 1, 1, []), (1385, .iadd, 1, []), (1386, .iaload, 1, [1]), (1387, .aload_n 0, 1, []), (1388, .iload_n 3, 1, []), (1389, .iconst 2, 1, []), (1390, .iadd, 1, []), (1391, .iaload, 1, [1])]
def yt_Law_law_9 : List mz_En := [(1392, .aload_n 0, 1, []), (1393, .iload_n 3, 1, []), (1394, .iconst 3, 1, []), (1395, .iadd, 1, []), (1396, .iaload, 1, [1]), (1397, .invokevirtual 182, 3, [0, 151, 4, 4, 476]), (1400, .aload_n 2, 1, []), (1401, .aload_n 0, 1, []), (1402, .iload_n 3, 1, []), (1403, .iconst 1, 1, []), (1404, .iadd, 1, []), (1405, .iaload, 1, [1]), (1406, .aload_n 0, 1, []), (1407, .iload_n 3, 1, []), (1408, .iconst 2, 1, []), (1409, .iadd, 1, []), (1410, .iaload, 1, [1]), (1411, .aload_n 0, 1, []), (1412, .iload_n 3, 1, []), (1413, .iconst 3, 1, []), (1414, .iadd, 1, []), (1415, .iaload, 1, [1]), (1416, .invokevirtual 185, 3, [0, 256, 4, 5, 477]), (1419, .if_icmp .eq 415, 3, [1834]), (1422, .iconst 0, 1, []), (1423, .ireturn, 1, []), (1424, .aload_n 1, 1, []), (1425, .aload_n 0, 1, []), (1426, .iload_n 3, 1, []), (1427, .iconst 1, 1, []), (1428, .iadd, 1, []), (1429, .iaload, 1, [1]), (1430, .aload_n 0, 1, []), (1431, .iload_n 3, 1, []), (1432, .iconst 2, 1, []), (1433, .iadd, 1, []), (1434, .iaload, 1, [1]), (1435, .invokevirtual 186, 3, [0, 152, 3, 4, 478]), (1438, .aload_n 2, 1, []), (1439, .aload_n 0, 1, []), (1440, .iload_n 3, 1, []), (1441, .iconst 1, 1, []), (1442, .iadd, 1, []), (1443, .iaload, 1, [1]), (1444, .aload_n 0, 1, []), (1445, .iload_n 3, 1, []), (1446, .iconst 2, 1, []), (1447, .iadd, 1, []), (1448, .iaload, 1, [1]), (1449, .invokevirtual 189, 3, [0, 251, 3, 5, 479]), (1452, .if_icmp .eq 382, 3, [1834]), (1455, .iconst 0, 1, []), (1456, .ireturn, 1, []), (1457, .aload_n 1, 1, []), (1458, .aload_n 0, 1, []), (1459, .iload_n 3, 1, []), (1460, .iconst 1, 1, []), (1461, .iadd, 1, []), (1462, .iaload, 1, [1]), (1463, .aload_n 0, 1, []), (1464, .iload_n 3, 1, []), (1465, .iconst 2, 1, []), (1466, .iadd, 1, []), (1467, .iaload, 1, [1]), (1468, .aload_n 0, 1, []), (1469, .iload_n 3, 1, []), (1470, .iconst 3, 1, []), (1471, .iadd, 1, []), (1472, .iaload, 1, [1]), (1473, .invokevirtual 190, 3, [0, 153, 4, 4, 480]), (1476, .aload_n 2, 1, []), (1477, .aload_n 0, 1, []), (1478, .iload_n 3, 1, []), (1479, .iconst 1, 1, []), (1480, .iadd, 1, []), (1481, .iaload, 1, [1]), (1482, .aload_n 0, 1, []), (1483, .iload_n 3, 1, []), (1484, .iconst 2, 1, []), (1485, .iadd, 1, []), (1486, .iaload, 1, [1]), (1487, .aload_n 0, 1, []), (1488, .iload_n 3, 1, []), (1489, .iconst 3, 1, []), (1490, .iadd, 1, []), (1491, .iaload, 1, [1]), (1492, .invokevirtual 193, 3, [0, 254, 4, 5, 481]), (1495, .if_icmp .eq 339, 3, [1834]), (1498, .iconst 0, 1, []), (1499, .ireturn, 1, []), (1500, .aload_n 1, 1, []), (1501, .aload_n 0, 1, []), (1502, .iload_n 3, 1, []), (1503, .iconst 1, 1, []), (1504, .iadd, 1, []), (1505, .iaload, 1, [1]), (1506, .aload_n 0, 1, []), (1507, .iload_n 3, 1, []), (1508, .iconst 2, 1, []), (1509, .iadd, 1, [])]
def yt_Law_law_10 : List mz_En := [(1510, .iaload, 1, [1]), (1511, .aload_n 0, 1, []), (1512, .iload_n 3, 1, []), (1513, .iconst 3, 1, []), (1514, .iadd, 1, []), (1515, .iaload, 1, [1]), (1516, .invokevirtual 194, 3, [0, 154, 4, 4, 482]), (1519, .aload_n 2, 1, []), (1520, .aload_n 0, 1, []), (1521, .iload_n 3, 1, []), (1522, .iconst 1, 1, []), (1523, .iadd, 1, []), (1524, .iaload, 1, [1]), (1525, .aload_n 0, 1, []), (1526, .iload_n 3, 1, []), (1527, .iconst 2, 1, []), (1528, .iadd, 1, []), (1529, .iaload, 1, [1]), (1530, .aload_n 0, 1, []), (1531, .iload_n 3, 1, []), (1532, .iconst 3, 1, []), (1533, .iadd, 1, []), (1534, .iaload, 1, [1]), (1535, .invokevirtual 197, 3, [0, 253, 4, 5, 483]), (1538, .if_icmp .eq 296, 3, [1834]), (1541, .iconst 0, 1, []), (1542, .ireturn, 1, []), (1543, .aload_n 1, 1, []), (1544, .aload_n 0, 1, []), (1545, .iload_n 3, 1, []), (1546, .iconst 1, 1, []), (1547, .iadd, 1, []), (1548, .iaload, 1, [1]), (1549, .i2l, 1, []), (1550, .bipush 32, 2, []), (1552, .lshl, 1, []), (1553, .aload_n 0, 1, []), (1554, .iload_n 3, 1, []), (1555, .iconst 2, 1, []), (1556, .iadd, 1, []), (1557, .iaload, 1, [1]), (1558, .i2l, 1, []), (1559, .ldc2_w 198, 3, [0, 484, 4294967295]), (1562, .land, 1, []), (1563, .lor, 1, []), (1564, .invokevirtual 200, 3, [0, 133, 2, 4, 485]), (1567, .aload_n 2, 1, []), (1568, .aload_n 0, 1, []), (1569, .iload_n 3, 1, []), (1570, .iconst 1, 1, []), (1571, .iadd, 1, []), (1572, .iaload, 1, [1]), (1573, .i2l, 1, []), (1574, .bipush 32, 2, []), (1576, .lshl, 1, []), (1577, .aload_n 0, 1, []), (1578, .iload_n 3, 1, []), (1579, .iconst 2, 1, []), (1580, .iadd, 1, []), (1581, .iaload, 1, [1]), (1582, .i2l, 1, []), (1583, .ldc2_w 198, 3, [0, 484, 4294967295]), (1586, .land, 1, []), (1587, .lor, 1, []), (1588, .invokevirtual 204, 3, [0, 261, 2, 5, 486]), (1591, .lcmp, 1, []), (1592, .ifCond .eq 242, 3, [1834]), (1595, .iconst 0, 1, []), (1596, .ireturn, 1, []), (1597, .aload_n 1, 1, []), (1598, .aload_n 0, 1, []), (1599, .iload_n 3, 1, []), (1600, .iconst 1, 1, []), (1601, .iadd, 1, []), (1602, .iaload, 1, [1]), (1603, .i2l, 1, []), (1604, .bipush 32, 2, []), (1606, .lshl, 1, []), (1607, .aload_n 0, 1, []), (1608, .iload_n 3, 1, []), (1609, .iconst 2, 1, []), (1610, .iadd, 1, []), (1611, .iaload, 1, [1]), (1612, .i2l, 1, []), (1613, .ldc2_w 198, 3, [0, 484, 4294967295]), (1616, .land, 1, []), (1617, .lor, 1, []), (1618, .invokevirtual 205, 3, [0, 134, 2, 4, 487]), (1621, .aload_n 2, 1, []), (1622, .aload_n 0, 1, []), (1623, .iload_n 3, 1, []), (1624, .iconst 1, 1, []), (1625, .iadd, 1, []), (1626, .iaload, 1, [1]), (1627, .i2l, 1, []), (1628, .bipush 32, 2, []), (1630, .lshl, 1, []), (1631, .aload_n 0, 1, []), (1632, .iload_n 3, 1, []), (1633, .iconst 2, 1, [])]
def yt_Law_law_11 : List mz_En := [(1634, .iadd, 1, []), (1635, .iaload, 1, [1]), (1636, .i2l, 1, []), (1637, .ldc2_w 198, 3, [0, 484, 4294967295]), (1640, .land, 1, []), (1641, .lor, 1, []), (1642, .invokevirtual 209, 3, [0, 262, 2, 5, 488]), (1645, .if_icmp .eq 189, 3, [1834]), (1648, .iconst 0, 1, []), (1649, .ireturn, 1, []), (1650, .aload_n 1, 1, []), (1651, .invokevirtual 210, 3, [0, 131, 1, 4, 489]), (1654, .aload_n 2, 1, []), (1655, .invokevirtual 213, 3, [0, 263, 1, 5, 490]), (1658, .if_icmp .eq 176, 3, [1834]), (1661, .iconst 0, 1, []), (1662, .ireturn, 1, []), (1663, .aload_n 1, 1, []), (1664, .aload_n 0, 1, []), (1665, .iload_n 3, 1, []), (1666, .iconst 1, 1, []), (1667, .iadd, 1, []), (1668, .iaload, 1, [1]), (1669, .aload_n 0, 1, []), (1670, .iload_n 3, 1, []), (1671, .iconst 2, 1, []), (1672, .iadd, 1, []), (1673, .iaload, 1, [1]), (1674, .invokevirtual 214, 3, [0, 160, 3, 4, 491]), (1677, .aload_n 2, 1, []), (1678, .aload_n 0, 1, []), (1679, .iload_n 3, 1, []), (1680, .iconst 1, 1, []), (1681, .iadd, 1, []), (1682, .iaload, 1, [1]), (1683, .aload_n 0, 1, []), (1684, .iload_n 3, 1, []), (1685, .iconst 2, 1, []), (1686, .iadd, 1, []), (1687, .iaload, 1, [1]), (1688, .invokevirtual 217, 3, [0, 285, 3, 5, 492]), (1691, .if_icmp .eq 143, 3, [1834]), (1694, .iconst 0, 1, []), (1695, .ireturn, 1, []), (1696, .aload_n 1, 1, []), (1697, .aload_n 0, 1, []), (1698, .iload_n 3, 1, []), (1699, .iconst 1, 1, []), (1700, .iadd, 1, []), (1701, .iaload, 1, [1]), (1702, .aload_n 0, 1, []), (1703, .iload_n 3, 1, []), (1704, .iconst 2, 1, []), (1705, .iadd, 1, []), (1706, .iaload, 1, [1]), (1707, .invokevirtual 218, 3, [0, 161, 3, 4, 493]), (1710, .aload_n 2, 1, []), (1711, .aload_n 0, 1, []), (1712, .iload_n 3, 1, []), (1713, .iconst 1, 1, []), (1714, .iadd, 1, []), (1715, .iaload, 1, [1]), (1716, .aload_n 0, 1, []), (1717, .iload_n 3, 1, []), (1718, .iconst 2, 1, []), (1719, .iadd, 1, []), (1720, .iaload, 1, [1]), (1721, .invokevirtual 221, 3, [0, 286, 3, 5, 494]), (1724, .if_icmp .eq 110, 3, [1834]), (1727, .iconst 0, 1, []), (1728, .ireturn, 1, []), (1729, .aload_n 1, 1, []), (1730, .aload_n 0, 1, []), (1731, .iload_n 3, 1, []), (1732, .iconst 1, 1, []), (1733, .iadd, 1, []), (1734, .iaload, 1, [1]), (1735, .aload_n 0, 1, []), (1736, .iload_n 3, 1, []), (1737, .iconst 2, 1, []), (1738, .iadd, 1, []), (1739, .iaload, 1, [1]), (1740, .invokevirtual 222, 3, [0, 162, 3, 4, 495]), (1743, .aload_n 2, 1, []), (1744, .aload_n 0, 1, []), (1745, .iload_n 3, 1, []), (1746, .iconst 1, 1, []), (1747, .iadd, 1, []), (1748, .iaload, 1, [1]), (1749, .aload_n 0, 1, []), (1750, .iload_n 3, 1, []), (1751, .iconst 2, 1, []), (1752, .iadd, 1, []), (1753, .iaload, 1, [1]), (1754, .invokevirtual 225, 3, [0, 287, 3, 5, 496]), (1757, .if_icmp .eq 77, 3, [1834]), (1760, .iconst 0, 1, []), (1761, .ireturn, 1, []), (1762, .aload_n 1, 1, []), (1763, .aload_n 0, 1, [])]
def yt_Law_law_12 : List mz_En := [(1764, .iload_n 3, 1, []), (1765, .iconst 1, 1, []), (1766, .iadd, 1, []), (1767, .iaload, 1, [1]), (1768, .invokevirtual 226, 3, [0, 164, 2, 4, 497]), (1771, .aload_n 2, 1, []), (1772, .aload_n 0, 1, []), (1773, .iload_n 3, 1, []), (1774, .iconst 1, 1, []), (1775, .iadd, 1, []), (1776, .iaload, 1, [1]), (1777, .invokevirtual 229, 3, [0, 269, 2, 5, 498]), (1780, .if_icmp .eq 54, 3, [1834]), (1783, .iconst 0, 1, []), (1784, .ireturn, 1, []), (1785, .aload_n 1, 1, []), (1786, .aload_n 0, 1, []), (1787, .iload_n 3, 1, []), (1788, .iconst 1, 1, []), (1789, .iadd, 1, []), (1790, .iaload, 1, [1]), (1791, .invokevirtual 230, 3, [0, 165, 2, 4, 499]), (1794, .aload_n 2, 1, []), (1795, .aload_n 0, 1, []), (1796, .iload_n 3, 1, []), (1797, .iconst 1, 1, []), (1798, .iadd, 1, []), (1799, .iaload, 1, [1]), (1800, .invokevirtual 233, 3, [0, 270, 2, 5, 500]), (1803, .if_icmp .eq 31, 3, [1834]), (1806, .iconst 0, 1, []), (1807, .ireturn, 1, []), (1808, .aload_n 1, 1, []), (1809, .invokevirtual 234, 3, [0, 166, 1, 4, 501]), (1812, .aload_n 2, 1, []), (1813, .invokevirtual 237, 3, [0, 288, 1, 5, 502]), (1816, .if_icmp .eq 18, 3, [1834]), (1819, .iconst 0, 1, []), (1820, .ireturn, 1, []), (1821, .aload_n 1, 1, []), (1822, .invokevirtual 238, 3, [0, 167, 1, 4, 503]), (1825, .aload_n 2, 1, []), (1826, .invokevirtual 241, 3, [0, 289, 1, 5, 504]), (1829, .if_icmp .eq 5, 3, [1834]), (1832, .iconst 0, 1, []), (1833, .ireturn, 1, []), (1834, .iinc 3 6, 3, []), (1837, .goto (-1819), 3, [18]), (1840, .iconst 1, 1, []), (1841, .ireturn, 1, [])]
def ym_Law_law : mz_Y := (⟨"RerootStoreLaw", "law", "([I)Z"⟩, code, 4, (some .boolean), 6, false, yt_Law_law_0 ++ (yt_Law_law_1 ++ (yt_Law_law_2 ++ (yt_Law_law_3 ++ (yt_Law_law_4 ++ (yt_Law_law_5 ++ (yt_Law_law_6 ++ (yt_Law_law_7 ++ (yt_Law_law_8 ++ (yt_Law_law_9 ++ (yt_Law_law_10 ++ (yt_Law_law_11 ++ (yt_Law_law_12)))))))))))))
def mz_all_0 : List mz_Y := [ym_Pa_init, ym_Pa_begin, ym_Pa_answer, ym_Pa_foundAt, ym_Pa_put, ym_Pa_backFrom, ym_Pa_seek, ym_Pa_openCell, ym_Pa_paintNext, ym_Pa_isFree, ym_Pa_seekAhead, ym_Pa_fullRow, ym_Pa_takeCell, ym_Pa_paintAhead, ym_Pa_strikeOut, ym_Sh_init, ym_Sh_forget, ym_Sh_begin, ym_Sh_become, ym_Sh_has, ym_Sh_hasCell, ym_Sh_numberIn, ym_Sh_withNumber, ym_Sh_rowOf, ym_Sh_numberAt, ym_Sh_unlikeCells, ym_Sh_firstLike, ym_Sh_makingOf, ym_Sh_parentOf, ym_Sh_depthOf, ym_Sh_meeting, ym_Sh_lastSetter]
def mz_all_1 : List mz_Y := [ym_Sh_timesSet, ym_Sh_rootOf, ym_Sh_areJoined, ym_Sh_rootBits, ym_Sh_cellsRootedAs, ym_Sh_isDirect, ym_Sh_linkOf, ym_Sh_wayFrom, ym_Sh_longestWay, ym_Sh_directOnes, ym_Sh_allWays, ym_Sh_allWaysIfSnapped, ym_Sh_withWays, ym_Sh_wayBits, ym_Sh_numbersIn, ym_Sh_mostPassed, ym_Sh_waysThrough, ym_Sh_isTooLong, ym_Sh_readingCost, ym_Sh_linksBefore, ym_Sh_readCell, ym_Sh_reach, ym_Sh_giveRow, ym_Sh_turnWay, ym_Sh_setCell, ym_Sh_snapRow, ym_Sh_findRoot, ym_Sh_joinRoots, ym_Sh_inConflict, ym_Sh_mergedRow, ym_Sh_conflicts, ym_Sh_patchedRow]
def mz_all_2 : List mz_Y := [ym_Sh_layOn, ym_Sh_carryOut, ym_St_init, ym_St_forget, ym_St_become, ym_St_acts, ym_St_hasDeed, ym_St_makesNone, ym_St_partnersOf, ym_St_arePaired, ym_St_pairUp, ym_St_ownNumbers, ym_St_tell, ym_St_perform, ym_St_goBackTo, ym_St_stepsOn, ym_St_dearestDeed, ym_Ta_init, ym_Ta_put, ym_Ta_begin, ym_Ta_byteAt, ym_Ta_isBlank, ym_Ta_isLetter, ym_Ta_isDigit, ym_Ta_takeToken, ym_Ta_takeLetters, ym_Ta_takeDigits, ym_Ta_isWord, ym_Ta_refuse, ym_Ta_takeNumber, ym_Ta_takeWord, ym_Ta_takeSign]
def mz_all_3 : List mz_Y := [ym_Ta_takesLine, ym_Ta_wordKind, ym_Ta_isOneTooMany, ym_Ta_takeNumbers, ym_Ta_takeStore, ym_Ta_takePair, ym_Ta_takeDeed, ym_X_init, ym_X_feed, ym_X_end, ym_X_store, ym_X_fault, ym_X_count, ym_X_isThere, ym_X_hasVersion, ym_X_hasVersions, ym_X_hasSpot, ym_X_cell, ym_X_version, ym_X_unlike, ym_X_first, ym_X_meet, ym_X_apart, ym_X_root, ym_X_roots, ym_X_together, ym_X_blame, ym_X_often, ym_X_state, ym_X_length, ym_X_longest, ym_X_direct]
def mz_all_4 : List mz_Y := [ym_X_ways, ym_X_snapping, ym_X_snap, ym_X_busiest, ym_X_hasAllOf, ym_X_keeps, ym_X_room, ym_X_ledger, ym_X_spent, ym_X_dearest, ym_X_cost, ym_X_by, ym_X_cutting, ym_X_cut, ym_X_without, ym_X_hasActLeft, ym_X_hasRoomFor, ym_X_reads, ym_X_sets, ym_X_joins, ym_X_finds, ym_X_snaps, ym_X_merging, ym_X_merged, ym_X_merges, ym_X_patching, ym_X_patches, ym_X_mayColour, ym_X_search, ym_X_searchBy, ym_X_colour, ym_X_colours]
def mz_all_5 : List mz_Y := [ym_X_forward, ym_X_forwardBy, ym_X_hue, ym_X_imageAt, ym_X_image, ym_X_back, ym_X_undo, ym_X_anew, ym_Mo_in, ym_Mo_has, ym_Mo_bitsOf, ym_Mo_init, ym_Mo_feed, ym_Mo_end, ym_Mo_at, ym_Mo_begins, ym_Mo_straight, ym_Mo_links, ym_Mo_lengthOf, ym_Mo_turns, ym_Mo_snap, ym_Mo_reach, ym_Mo_along, ym_Mo_read, ym_Mo_set, ym_Mo_rootOf, ym_Mo_find, ym_Mo_join, ym_Mo_meetOf, ym_Mo_isConflict, ym_Mo_mergedOf, ym_Mo_mergeMany]
def mz_all_6 : List mz_Y := [ym_Mo_merge, ym_Mo_isPatched, ym_Mo_patchMany, ym_Mo_patch, ym_Mo_deed, ym_Mo_does, ym_Mo_plays, ym_Mo_plays2, ym_Mo_isAt, ym_Mo_next, ym_Mo_faults, ym_Mo_isWord, ym_Mo_passes, ym_Mo_number, ym_Mo_needs, ym_Mo_named, ym_Mo_readsCell, ym_Mo_isCell, ym_Mo_readsStore, ym_Mo_readsPair, ym_Mo_kindHere, ym_Mo_readsDeed, ym_Mo_lays, ym_Mo_store, ym_Mo_fault, ym_Mo_is, ym_Mo_isVersion, ym_Mo_count, ym_Mo_cell, ym_Mo_version, ym_Mo_unlikeOf, ym_Mo_areVersions]
def mz_all_7 : List mz_Y := [ym_Mo_unlike, ym_Mo_first, ym_Mo_backTo, ym_Mo_meet, ym_Mo_apart, ym_Mo_root, ym_Mo_roots, ym_Mo_together, ym_Mo_state, ym_Mo_length, ym_Mo_longest, ym_Mo_direct, ym_Mo_ledger, ym_Mo_spent, ym_Mo_dearest, ym_Mo_cost, ym_Mo_by, ym_Mo_cutting, ym_Mo_cut, ym_Mo_without, ym_Mo_acts, ym_Mo_isFull, ym_Mo_reads, ym_Mo_sets, ym_Mo_joins, ym_Mo_finds, ym_Mo_snaps, ym_Mo_merges, ym_Mo_areThree, ym_Mo_patches, ym_Mo_patching, ym_Mo_merging]
def mz_all_8 : List mz_Y := [ym_Mo_merged, ym_Mo_blame, ym_Mo_often, ym_Mo_isSet, ym_Mo_keptOf, ym_Mo_keeps, ym_Mo_room, ym_Mo_busiest, ym_Mo_isOnWay, ym_Mo_waysOf, ym_Mo_ways, ym_Mo_snapping, ym_Mo_snap2, ym_Mo_image, ym_Mo_back, ym_Mo_isNone, ym_Mo_searches, ym_Mo_goesOn, ym_Mo_areColours, ym_Mo_search, ym_Mo_searchBy, ym_Mo_colour, ym_Mo_colours, ym_Mo_isTaken, ym_Mo_takes, ym_Mo_setOr, ym_Mo_lets, ym_Mo_looksAhead, ym_Mo_goesAhead, ym_Mo_forward, ym_Mo_forwardBy, ym_Mo_hue]
def mz_all_9 : List mz_Y := [ym_Mo_undo, ym_Mo_anew, ym_In_numberOfTrailingZeros, ym_In_bitCount, ym_Ma_max, ym_Ma_min, ym_Law_law]
def mz_yD (y : Nat) : mz_Y := (match y / 32 with
  | 0 => mz_all_0
  | 1 => mz_all_1
  | 2 => mz_all_2
  | 3 => mz_all_3
  | 4 => mz_all_4
  | 5 => mz_all_5
  | 6 => mz_all_6
  | 7 => mz_all_7
  | 8 => mz_all_8
  | _ => mz_all_9
).getD (y % 32) (⟨"", "", ""⟩, ⟨#[]⟩, 0, none, 0, false, [])
def mz_np : List Nat := [0, 4, 1, 1, 3, 1, 3, 2, 2, 3, 3, 2, 2, 2, 3, 1, 0, 4, 1, 1, 1, 2, 3, 1, 2, 2, 1, 2, 1, 1, 2, 2, 2, 2, 3, 1, 2, 1, 2, 1, 0, 0, 0, 1, 1, 1, 1, 0, 1, 1, 2, 2, 2, 1, 2, 1, 3, 1, 2, 3, 3, 2, 2, 3, 2, 4, 0, 0, 1, 0, 1, 1, 1, 2, 2, 1, 4, 4, 1, 4, 0, 0, 1, 0, 1, 1, 1, 1, 0, 0, 0, 1, 2, 2, 1, 0, 1, 0, 1, 1, 0, 1, 1, 0, 5, 1, 0, 1, 1, 0, 1, 2, 2, 2, 2, 2, 1, 2, 2, 2, 1, 2, 2, 2, 2, 1, 0, 0, 0, 1, 0, 0, 1, 1, 1, 0, 1, 0, 2, 1, 1, 0, 1, 0, 1, 2, 3, 3, 2, 1, 3, 3, 2, 3, 3, 2, 2, 2, 2, 0, 2, 2, 2, 1, 1, 1, 0, 0, 3, 2, 1, 0, 5, 1, 2, 3, 1, 3, 1, 1, 1, 1, 2, 2, 3, 2, 2, 3, 2, 3, 3, 2, 2, 4, 3, 3, 2, 1, 3, 0, 2, 0, 1, 1, 1, 2, 1, 3, 0, 1, 0, 0, 0, 1, 4, 0, 1, 0, 1, 1, 2, 2, 2, 2, 2, 1, 2, 2, 2, 2, 1, 2, 2, 1, 0, 0, 0, 1, 0, 2, 1, 1, 0, 1, 4, 0, 2, 3, 3, 2, 1, 2, 3, 3, 3, 3, 3, 2, 2, 1, 1, 1, 1, 0, 2, 0, 0, 1, 0, 1, 1, 2, 2, 1, 1, 2, 2, 2, 0, 1, 1, 3, 1, 2, 1, 2, 2, 2, 0, 0, 1, 1, 2, 2, 1]
end
section
def mz_str (i : Nat) : String := match i with
  | 0 => "store"
  | 1 => "pair"
  | 2 => "set"
  | 3 => "join"
  | 4 => "read"
  | 5 => "find"
  | 6 => "snap"
  | 7 => "size"
  | 8 => "law"
  | _ => "cut"
def mz_wd (q : Nat × Nat × Nat × Nat × Nat) : Cond := match q.2.2.1 with
  | 0 => .fieldLink (mz_cN q.1) q.2.1 (mz_cN q.2.2.2.1) (mz_cF q.2.2.2.1 q.2.2.2.2).2.1 (mz_cF q.2.2.2.1 q.2.2.2.2).2.2.1
  | 1 => .constant (mz_cN q.1) q.2.1 (Int32.ofNat q.2.2.2.1)
  | 2 => .constantLong (mz_cN q.1) q.2.1 (Int64.ofNat q.2.2.2.1)
  | 3 => .stringRef (mz_cN q.1) q.2.1 (mz_str q.2.2.2.1)
  | 4 => .classLink (mz_cN q.1) q.2.1 (mz_cN q.2.2.2.1)
  | 5 => .methodLink (mz_cN q.1) q.2.1 (mz_yD q.2.2.2.1).1
  | 6 => .methodLink (mz_cN q.1) q.2.1 objectInit
  | 7 => .methodLink (mz_cN q.1) q.2.1 arraycopyName
  | 8 => .methodLink (mz_cN q.1) q.2.1 ⟨"java/lang/String", "length", "()I"⟩
  | 9 => .methodLink (mz_cN q.1) q.2.1 ⟨"java/lang/String", "charAt", "(I)C"⟩
  | _ => .methodLinkNest (mz_cN q.1) q.2.1 (mz_yD q.2.2.2.1).1 "RerootStore"
def mz_gt (q : Nat × Nat × Nat × Nat × Nat) : Bool := !(Nat.beq q.2.2.1 3) && !(Nat.beq q.2.2.1 10)
def mz_lok (q : (Nat × Nat × Nat × Nat × Nat) × Nat) : Bool := decide (lw_tbl[q.2]? = some (mz_wd q.1)) && (!mz_gt q.1 || goodWord (mz_wd q.1))
def mz_LT_0 : List ((Nat × Nat × Nat × Nat × Nat) × Nat) := [((0, 3, 6, 0, 0), 246), ((0, 9, 4, 1, 0), 247), ((0, 11, 5, 15, 0), 248), ((0, 14, 0, 0, 0), 249), ((0, 20, 0, 0, 1), 250), ((0, 24, 0, 0, 2), 251), ((0, 27, 0, 0, 3), 252), ((0, 30, 0, 0, 4), 253), ((0, 33, 0, 0, 5), 254), ((0, 36, 0, 0, 6), 255), ((0, 40, 0, 0, 7), 256), ((0, 43, 0, 0, 8), 257), ((0, 46, 0, 0, 9), 258), ((0, 49, 0, 2, 0), 288), ((0, 52, 0, 1, 5), 199), ((0, 55, 0, 1, 7), 207), ((0, 58, 5, 17, 0), 984), ((0, 62, 0, 1, 8), 211), ((0, 65, 0, 1, 9), 215), ((0, 68, 5, 24, 0), 1026), ((0, 72, 5, 56, 0), 1005), ((0, 76, 5, 1, 0), 980), ((0, 79, 5, 7, 0), 985), ((0, 83, 1, 1000000, 0), 989), ((0, 84, 5, 8, 0), 990), ((0, 88, 5, 5, 0), 1006), ((0, 92, 5, 20, 0), 994), ((0, 96, 5, 72, 0), 995), ((0, 99, 5, 9, 0), 996), ((0, 103, 5, 4, 0), 1001), ((0, 106, 5, 52, 0), 1000), ((0, 109, 5, 11, 0), 1039), ((0, 113, 5, 12, 0), 1044), ((0, 116, 5, 13, 0), 1049), ((0, 119, 5, 22, 0), 1043), ((0, 123, 5, 291, 0), 1048), ((0, 128, 5, 14, 0), 1053), ((1, 3, 6, 0, 0), 189), ((1, 9, 0, 1, 5), 198), ((1, 15, 0, 1, 6), 203), ((1, 18, 0, 1, 7), 206), ((1, 21, 0, 1, 8), 210), ((1, 24, 0, 1, 9), 214), ((1, 27, 5, 292, 0), 190), ((1, 33, 0, 1, 0), 193), ((1, 37, 0, 1, 1), 194), ((1, 41, 0, 1, 2), 195), ((1, 44, 0, 1, 3), 196), ((1, 47, 0, 1, 4), 197), ((1, 50, 5, 293, 0), 622), ((1, 53, 7, 0, 0), 1085), ((1, 59, 2, 15, 0), 555), ((1, 61, 2, 18446744073709551615, 0), 556), ((1, 63, 5, 19, 0), 521), ((1, 67, 5, 21, 0), 537), ((1, 71, 5, 23, 0), 533), ((1, 75, 5, 24, 0), 605), ((1, 78, 5, 28, 0), 636), ((1, 82, 5, 33, 0), 529), ((1, 85, 5, 37, 0), 627), ((1, 88, 5, 39, 0), 589), ((1, 91, 5, 42, 0), 813), ((1, 95, 5, 45, 0), 830), ((1, 98, 5, 48, 0), 826), ((1, 101, 5, 51, 0), 581), ((1, 104, 5, 49, 0), 593), ((1, 107, 5, 53, 0), 585), ((1, 111, 5, 54, 0), 597), ((1, 115, 5, 55, 0), 601), ((1, 118, 5, 22, 0), 613), ((1, 122, 5, 52, 0), 577), ((1, 125, 5, 56, 0), 609), ((1, 129, 5, 30, 0), 632), ((1, 132, 5, 60, 0), 640), ((1, 136, 5, 58, 0), 614), ((1, 139, 5, 59, 0), 618), ((1, 142, 5, 57, 0), 623), ((1, 145, 5, 61, 0), 628), ((1, 149, 5, 64, 0), 644), ((1, 153, 5, 63, 0), 648), ((2, 3, 6, 0, 0), 284), ((2, 9, 4, 1, 0), 285), ((2, 11, 5, 15, 0), 286), ((2, 14, 0, 2, 0), 287), ((2, 20, 0, 2, 1), 291), ((2, 24, 0, 2, 2), 292), ((2, 27, 0, 2, 3), 293), ((2, 30, 0, 2, 4), 294), ((2, 33, 0, 2, 5), 295), ((2, 36, 0, 2, 6), 296), ((2, 39, 0, 2, 7), 298), ((2, 43, 0, 2, 8), 301), ((2, 46, 0, 2, 9), 304), ((2, 49, 0, 2, 10), 306), ((2, 52, 5, 16, 0), 403), ((2, 55, 5, 18, 0), 1081), ((2, 59, 7, 0, 0), 1088), ((2, 65, 5, 70, 0), 907), ((2, 69, 5, 72, 0), 509), ((2, 73, 5, 20, 0), 565), ((2, 76, 5, 22, 0), 552), ((2, 80, 5, 75, 0), 548), ((2, 84, 5, 17, 0), 557), ((2, 88, 5, 74, 0), 561), ((2, 92, 5, 77, 0), 569), ((2, 96, 0, 1, 9), 216), ((2, 99, 5, 65, 0), 573), ((2, 102, 5, 293, 0), 1101), ((2, 108, 0, 1, 6), 205), ((2, 111, 0, 1, 7), 209), ((2, 114, 5, 79, 0), 1102), ((2, 118, 0, 1, 5), 201), ((3, 3, 6, 0, 0), 136), ((3, 9, 0, 3, 0), 137), ((3, 15, 0, 3, 1), 138), ((3, 19, 0, 3, 2), 139), ((3, 22, 0, 3, 3), 140), ((3, 25, 0, 3, 4), 141), ((3, 28, 0, 3, 5), 142), ((3, 31, 0, 3, 6), 144), ((3, 34, 0, 3, 7), 146), ((3, 37, 0, 3, 8), 148), ((3, 40, 0, 3, 9), 150), ((3, 43, 0, 3, 10), 152), ((3, 46, 0, 3, 11), 154), ((3, 49, 5, 88, 0), 371), ((3, 52, 5, 84, 0), 375), ((3, 56, 5, 85, 0), 379), ((3, 60, 5, 86, 0), 382), ((3, 63, 5, 89, 0), 385), ((3, 66, 5, 87, 0), 389), ((3, 69, 5, 90, 0), 392), ((3, 72, 5, 293, 0), 396), ((3, 78, 8, 0, 0), 420), ((3, 84, 9, 0, 0), 430), ((3, 88, 5, 92, 0), 474), ((3, 92, 5, 91, 0), 416), ((3, 96, 5, 97, 0), 411), ((3, 99, 0, 2, 8), 303), ((3, 104, 5, 98, 0), 478), ((3, 108, 5, 99, 0), 482), ((3, 112, 5, 95, 0), 540), ((3, 115, 3, 0, 0), 415), ((3, 117, 3, 1, 0), 468), ((3, 119, 3, 2, 0), 469), ((3, 121, 3, 3, 0), 470), ((3, 123, 3, 4, 0), 471), ((3, 125, 3, 5, 0), 472), ((3, 127, 3, 6, 0), 473), ((3, 129, 0, 2, 7), 300)]
def mz_LT_1 : List ((Nat × Nat × Nat × Nat × Nat) × Nat) := [((3, 132, 0, 2, 10), 308), ((3, 135, 0, 2, 0), 290), ((3, 139, 0, 1, 8), 213), ((3, 144, 5, 100, 0), 486), ((3, 147, 5, 101, 0), 501), ((3, 150, 5, 102, 0), 513), ((3, 154, 3, 7, 0), 490), ((3, 156, 5, 94, 0), 491), ((3, 160, 5, 93, 0), 495), ((3, 163, 3, 8, 0), 499), ((3, 165, 3, 9, 0), 500), ((3, 167, 0, 1, 5), 202), ((3, 169, 5, 73, 0), 505), ((3, 173, 5, 37, 0), 517), ((3, 176, 5, 34, 0), 525), ((4, 1, 6, 0, 0), 128), ((4, 7, 4, 3, 0), 131), ((4, 9, 10, 81, 0), 133), ((4, 10, 0, 4, 0), 332), ((4, 16, 4, 2, 0), 182), ((4, 18, 0, 4, 1), 333), ((4, 22, 4, 1, 0), 184), ((4, 24, 5, 15, 0), 186), ((4, 27, 0, 4, 2), 334), ((4, 31, 4, 0, 0), 241), ((4, 33, 10, 0, 0), 243), ((4, 34, 0, 4, 3), 335), ((4, 38, 10, 66, 0), 281), ((4, 39, 0, 4, 4), 336), ((4, 43, 0, 4, 5), 337), ((4, 46, 0, 3, 5), 143), ((4, 50, 5, 82, 0), 355), ((4, 53, 5, 83, 0), 367), ((4, 56, 5, 67, 0), 399), ((4, 59, 5, 96, 0), 407), ((4, 63, 0, 3, 6), 145), ((4, 66, 0, 3, 7), 147), ((4, 69, 0, 3, 8), 149), ((4, 72, 0, 3, 9), 151), ((4, 75, 5, 76, 0), 544), ((4, 79, 0, 3, 10), 153), ((4, 82, 0, 2, 8), 302), ((4, 85, 0, 3, 11), 155), ((4, 88, 0, 2, 0), 289), ((4, 91, 0, 1, 5), 200), ((4, 94, 0, 1, 6), 204), ((4, 97, 0, 1, 7), 208), ((4, 100, 0, 1, 8), 212), ((4, 103, 0, 2, 7), 299), ((4, 106, 0, 2, 10), 307), ((4, 109, 5, 69, 0), 660), ((4, 113, 5, 19, 0), 672), ((4, 117, 5, 20, 0), 673), ((4, 120, 5, 112, 0), 668), ((4, 124, 5, 24, 0), 674), ((4, 128, 5, 110, 0), 679), ((4, 131, 5, 27, 0), 683), ((4, 134, 5, 111, 0), 691), ((4, 137, 5, 23, 0), 695), ((4, 141, 5, 25, 0), 696), ((4, 145, 5, 26, 0), 704), ((4, 149, 5, 30, 0), 712), ((4, 152, 5, 29, 0), 717), ((4, 155, 5, 33, 0), 725), ((4, 158, 5, 35, 0), 730), ((4, 161, 5, 291, 0), 734), ((4, 166, 5, 36, 0), 744), ((4, 169, 5, 31, 0), 752), ((4, 172, 5, 32, 0), 760), ((4, 175, 5, 38, 0), 768), ((4, 178, 5, 39, 0), 776), ((4, 181, 5, 109, 0), 781), ((4, 185, 5, 40, 0), 785), ((4, 188, 5, 41, 0), 793), ((4, 191, 5, 42, 0), 801), ((4, 194, 5, 43, 0), 809), ((4, 197, 5, 47, 0), 822), ((4, 200, 5, 132, 0), 838), ((4, 204, 5, 44, 0), 842), ((4, 208, 2, 18446744073709551614, 0), 846), ((4, 210, 5, 46, 0), 851), ((4, 214, 0, 1, 9), 217), ((4, 217, 5, 70, 0), 863), ((4, 220, 0, 2, 6), 297), ((4, 224, 5, 80, 0), 871), ((4, 227, 5, 50, 0), 879), ((4, 230, 5, 79, 0), 887), ((4, 234, 5, 71, 0), 903), ((4, 237, 5, 143, 0), 912), ((4, 240, 5, 77, 0), 916), ((4, 244, 5, 144, 0), 921), ((4, 247, 5, 34, 0), 929), ((4, 251, 5, 37, 0), 938), ((4, 254, 5, 62, 0), 943), ((4, 257, 5, 61, 0), 947), ((4, 261, 5, 21, 0), 952), ((4, 265, 5, 150, 0), 957), ((4, 269, 5, 63, 0), 962), ((4, 273, 5, 153, 0), 967), ((4, 276, 5, 155, 0), 972), ((4, 279, 5, 6, 0), 976), ((4, 283, 5, 2, 0), 1010), ((4, 286, 5, 3, 0), 1022), ((4, 289, 5, 10, 0), 1035), ((4, 292, 5, 290, 0), 1065), ((4, 295, 5, 163, 0), 1073), ((4, 299, 5, 68, 0), 1077), ((4, 303, 5, 78, 0), 1097), ((4, 306, 0, 2, 9), 305), ((5, 3, 6, 0, 0), 1112), ((5, 9, 0, 5, 0), 1113), ((5, 13, 0, 5, 1), 1114), ((5, 16, 0, 5, 2), 1115), ((5, 19, 0, 5, 5), 1118), ((5, 23, 0, 5, 6), 1119), ((5, 26, 0, 5, 7), 1120), ((5, 29, 0, 5, 8), 1121), ((5, 32, 0, 5, 9), 1122), ((5, 35, 0, 5, 10), 1123), ((5, 38, 0, 5, 11), 1124), ((5, 41, 0, 5, 12), 1125), ((5, 44, 0, 5, 13), 1126), ((5, 47, 0, 5, 18), 1131), ((5, 50, 0, 5, 26), 1139), ((5, 53, 0, 5, 27), 1140), ((5, 57, 0, 5, 31), 1144), ((5, 60, 0, 5, 32), 1145), ((5, 63, 0, 5, 33), 1146), ((5, 66, 0, 5, 34), 1147), ((5, 69, 0, 5, 35), 1148), ((5, 72, 0, 5, 36), 1149), ((5, 75, 0, 5, 3), 1116), ((5, 78, 5, 168, 0), 1237), ((5, 82, 0, 5, 15), 1128), ((5, 85, 0, 5, 16), 1129), ((5, 88, 0, 5, 14), 1127), ((5, 91, 5, 176, 0), 1329), ((5, 95, 5, 174, 0), 1345), ((5, 99, 5, 177, 0), 1349), ((5, 103, 0, 5, 17), 1130), ((5, 106, 5, 178, 0), 1357), ((5, 110, 5, 180, 0), 1361), ((5, 113, 5, 179, 0), 1365), ((5, 116, 5, 182, 0), 1381), ((5, 119, 5, 181, 0), 1353), ((5, 122, 5, 183, 0), 1377), ((5, 125, 5, 186, 0), 1373), ((5, 128, 5, 292, 0), 1385), ((5, 133, 5, 293, 0), 1253), ((5, 136, 5, 184, 0), 1341)]
def mz_LT_2 : List ((Nat × Nat × Nat × Nat × Nat) × Nat) := [((5, 140, 5, 188, 0), 1398), ((5, 143, 5, 189, 0), 1394), ((5, 147, 5, 190, 0), 1390), ((5, 150, 5, 193, 0), 1406), ((5, 154, 5, 196, 0), 1337), ((5, 157, 5, 187, 0), 1369), ((5, 160, 5, 192, 0), 1386), ((5, 163, 5, 195, 0), 1402), ((5, 166, 5, 175, 0), 1325), ((5, 169, 5, 197, 0), 1333), ((5, 172, 5, 198, 0), 1321), ((5, 175, 0, 5, 19), 1132), ((5, 177, 5, 200, 0), 1248), ((5, 181, 0, 5, 20), 1133), ((5, 184, 0, 5, 22), 1135), ((5, 187, 0, 5, 21), 1134), ((5, 190, 1, 99999, 0), 1252), ((5, 191, 0, 5, 23), 1136), ((5, 195, 0, 5, 24), 1137), ((5, 198, 0, 5, 25), 1138), ((5, 201, 8, 0, 0), 1263), ((5, 207, 9, 0, 0), 1264), ((5, 211, 5, 202, 0), 1269), ((5, 214, 5, 201, 0), 1244), ((5, 217, 5, 204, 0), 1265), ((5, 221, 5, 203, 0), 1259), ((5, 225, 5, 205, 0), 1278), ((5, 228, 3, 0, 0), 1258), ((5, 230, 3, 7, 0), 1273), ((5, 232, 5, 207, 0), 1274), ((5, 236, 3, 8, 0), 1282), ((5, 237, 3, 9, 0), 1283), ((5, 238, 5, 208, 0), 1289), ((5, 241, 5, 209, 0), 1293), ((5, 245, 5, 169, 0), 1297), ((5, 248, 5, 206, 0), 1300), ((5, 251, 3, 2, 0), 1308), ((5, 252, 3, 3, 0), 1309), ((5, 253, 3, 4, 0), 1310), ((5, 254, 3, 5, 0), 1311), ((5, 255, 3, 6, 0), 1312), ((5, 256, 5, 199, 0), 1317), ((5, 258, 5, 185, 0), 1410), ((5, 261, 5, 214, 0), 1414), ((5, 265, 5, 210, 0), 1254), ((5, 268, 3, 1, 0), 1284), ((5, 270, 5, 211, 0), 1285), ((5, 273, 5, 212, 0), 1304), ((5, 276, 5, 213, 0), 1313), ((5, 279, 0, 5, 4), 1117), ((5, 282, 5, 217, 0), 1426), ((5, 286, 5, 218, 0), 1434), ((5, 289, 2, 2, 0), 1442), ((5, 291, 5, 223, 0), 1447), ((5, 294, 5, 222, 0), 1451), ((5, 297, 5, 226, 0), 1467), ((5, 300, 5, 170, 0), 1479), ((5, 303, 2, 3, 0), 1490), ((5, 305, 2, 20, 0), 1527), ((5, 307, 2, 4, 0), 1536), ((5, 309, 5, 245, 0), 1541), ((5, 312, 5, 244, 0), 1545), ((5, 316, 5, 191, 0), 1569), ((5, 319, 5, 252, 0), 1577), ((5, 322, 5, 194, 0), 1581), ((5, 325, 5, 259, 0), 1609), ((5, 329, 5, 260, 0), 1613), ((5, 333, 2, 18446744073709551614, 0), 1617), ((5, 335, 5, 264, 0), 1626), ((5, 338, 5, 265, 0), 1634), ((5, 341, 5, 266, 0), 1646), ((5, 344, 5, 267, 0), 1647), ((5, 347, 0, 5, 29), 1142), ((5, 350, 0, 5, 30), 1143), ((5, 353, 5, 271, 0), 1668), ((5, 356, 5, 273, 0), 1672), ((5, 359, 0, 5, 28), 1141), ((5, 362, 5, 274, 0), 1660), ((5, 365, 5, 272, 0), 1664), ((5, 369, 0, 5, 37), 1150), ((5, 372, 5, 279, 0), 1700), ((5, 375, 5, 281, 0), 1708), ((5, 378, 5, 280, 0), 1696), ((5, 381, 5, 282, 0), 1704), ((5, 384, 5, 284, 0), 1712), ((5, 387, 5, 283, 0), 1692), ((7, 264, 1, 65536, 0), 1068), ((7, 265, 1, 1431655765, 0), 737), ((7, 266, 1, 858993459, 0), 738), ((7, 267, 1, 252645135, 0), 739), ((6, 7, 4, 4, 0), 123), ((6, 9, 5, 103, 0), 125), ((6, 10, 4, 5, 0), 1107), ((6, 12, 5, 171, 0), 1109), ((6, 13, 5, 104, 0), 351), ((6, 17, 5, 172, 0), 1229), ((6, 18, 5, 105, 0), 359), ((6, 22, 5, 173, 0), 1233), ((6, 23, 5, 106, 0), 363), ((6, 27, 5, 215, 0), 1240), ((6, 28, 5, 107, 0), 652), ((6, 31, 5, 216, 0), 1418), ((6, 32, 5, 108, 0), 656), ((6, 35, 5, 219, 0), 1422), ((6, 36, 5, 113, 0), 664), ((6, 40, 5, 220, 0), 1430), ((6, 41, 5, 114, 0), 675), ((6, 44, 5, 221, 0), 1438), ((6, 45, 5, 115, 0), 687), ((6, 48, 5, 224, 0), 1443), ((6, 49, 5, 116, 0), 700), ((6, 52, 5, 225, 0), 1455), ((6, 53, 5, 117, 0), 708), ((6, 56, 5, 227, 0), 1459), ((6, 57, 5, 118, 0), 713), ((6, 60, 5, 228, 0), 1463), ((6, 61, 5, 119, 0), 721), ((6, 64, 5, 229, 0), 1471), ((6, 65, 5, 120, 0), 726), ((6, 68, 5, 230, 0), 1475), ((6, 69, 5, 121, 0), 740), ((6, 72, 5, 231, 0), 1482), ((6, 73, 5, 124, 0), 764), ((6, 76, 5, 232, 0), 1486), ((6, 77, 5, 125, 0), 772), ((6, 80, 5, 233, 0), 1491), ((6, 81, 5, 126, 0), 777), ((6, 84, 5, 234, 0), 1495), ((6, 85, 5, 127, 0), 789), ((6, 88, 5, 235, 0), 1499), ((6, 89, 5, 128, 0), 797), ((6, 92, 5, 266, 0), 1630), ((6, 93, 5, 129, 0), 805), ((6, 96, 5, 267, 0), 1638), ((6, 97, 5, 130, 0), 814), ((6, 100, 5, 268, 0), 1642), ((6, 101, 5, 135, 0), 855), ((6, 104, 5, 236, 0), 1503), ((6, 105, 5, 136, 0), 859), ((6, 108, 5, 237, 0), 1507), ((6, 109, 5, 137, 0), 867), ((6, 112, 5, 238, 0), 1511), ((6, 113, 5, 138, 0), 875), ((6, 116, 5, 239, 0), 1515), ((6, 117, 5, 139, 0), 883), ((6, 120, 5, 240, 0), 1519), ((6, 121, 5, 140, 0), 891), ((6, 124, 5, 241, 0), 1523), ((6, 125, 5, 141, 0), 895), ((6, 128, 5, 242, 0), 1528)]
def mz_LT_3 : List ((Nat × Nat × Nat × Nat × Nat) × Nat) := [((6, 129, 5, 142, 0), 899), ((6, 132, 5, 243, 0), 1532), ((6, 133, 5, 145, 0), 908), ((6, 136, 5, 246, 0), 1537), ((6, 137, 5, 146, 0), 917), ((6, 141, 5, 247, 0), 1549), ((6, 142, 5, 147, 0), 925), ((6, 145, 5, 248, 0), 1553), ((6, 146, 5, 148, 0), 930), ((6, 149, 5, 249, 0), 1557), ((6, 150, 5, 149, 0), 934), ((6, 153, 5, 250, 0), 1561), ((6, 154, 5, 156, 0), 968), ((6, 157, 5, 275, 0), 1656), ((6, 158, 5, 157, 0), 1014), ((6, 161, 5, 276, 0), 1676), ((6, 162, 5, 158, 0), 1018), ((6, 165, 5, 277, 0), 1680), ((6, 166, 5, 159, 0), 1027), ((6, 169, 5, 278, 0), 1684), ((6, 170, 5, 122, 0), 748), ((6, 173, 5, 257, 0), 1597), ((6, 174, 5, 123, 0), 756), ((6, 177, 5, 258, 0), 1601), ((6, 178, 5, 150, 0), 939), ((6, 181, 5, 255, 0), 1589), ((6, 182, 5, 151, 0), 948), ((6, 185, 5, 256, 0), 1593), ((6, 186, 5, 152, 0), 953), ((6, 189, 5, 251, 0), 1565), ((6, 190, 5, 153, 0), 958), ((6, 193, 5, 254, 0), 1585), ((6, 194, 5, 154, 0), 963), ((6, 197, 5, 253, 0), 1573), ((6, 198, 2, 4294967295, 0), 1732), ((6, 200, 5, 133, 0), 834), ((6, 204, 5, 261, 0), 1605), ((6, 205, 5, 134, 0), 847), ((6, 209, 5, 262, 0), 1618), ((6, 210, 5, 131, 0), 818), ((6, 213, 5, 263, 0), 1622), ((6, 214, 5, 160, 0), 1031), ((6, 217, 5, 285, 0), 1688), ((6, 218, 5, 161, 0), 1057), ((6, 221, 5, 286, 0), 1716), ((6, 222, 5, 162, 0), 1061), ((6, 225, 5, 287, 0), 1720), ((6, 226, 5, 164, 0), 1069), ((6, 229, 5, 269, 0), 1648), ((6, 230, 5, 165, 0), 1089), ((6, 233, 5, 270, 0), 1652), ((6, 234, 5, 166, 0), 1093), ((6, 237, 5, 288, 0), 1724), ((6, 238, 5, 167, 0), 1103), ((6, 241, 5, 289, 0), 1728)]
theorem mz_LTok_0 : mz_LT_0.all mz_lok = true := by decide +kernel
theorem mz_LTok_1 : mz_LT_1.all mz_lok = true := by decide +kernel
theorem mz_LTok_2 : mz_LT_2.all mz_lok = true := by decide +kernel
theorem mz_LTok_3 : mz_LT_3.all mz_lok = true := by decide +kernel
def mz_LT (r : Nat) : Option (Nat × Nat × Nat × Nat × Nat) := ((match r / 150 with
  | 0 => mz_LT_0
  | 1 => mz_LT_1
  | 2 => mz_LT_2
  | _ => mz_LT_3
)[r % 150]?).map (fun q => q.1)
theorem mz_LT_in {r : Nat} {q : Nat × Nat × Nat × Nat × Nat} (h : mz_LT r = some q) : mz_wd q ∈ lw_tbl ∧ (mz_gt q = true → goodWord (mz_wd q) = true) := by
  have key : ∀ (l : List ((Nat × Nat × Nat × Nat × Nat) × Nat)) (k : Nat), l.all mz_lok = true → (l[k]?).map (fun q => q.1) = some q → mz_wd q ∈ lw_tbl ∧ (mz_gt q = true → goodWord (mz_wd q) = true) := by
    intro l k hl hk
    obtain ⟨e, he, rfl⟩ := Option.map_eq_some_iff.mp hk
    have h1 := List.all_eq_true.mp hl e (List.mem_of_getElem? he)
    simp only [mz_lok, Bool.and_eq_true, decide_eq_true_eq, Bool.or_eq_true, Bool.not_eq_true'] at h1
    refine ⟨List.mem_of_getElem? h1.1, fun g => ?_⟩
    rcases h1.2 with h2 | h2
    · rw [h2] at g
      cases g
    · exact h2
  unfold mz_LT at h
  split at h
  · exact key _ _ mz_LTok_0 h
  · exact key _ _ mz_LTok_1 h
  · exact key _ _ mz_LTok_2 h
  · exact key _ _ mz_LTok_3 h

def mz_in (p : Nat) (w : Cond) : Bool := decide (lw_tbl[p]? = some w) && goodWord w
def mz_npr (y : MethodName) (n : Nat) : Bool := decide ((parseMethodDescriptor y.desc).map (fun d => d.parameters.length) = some n)
def mz_sts (y : Nat) : Bool := Nat.beq y 21 || Nat.beq y 22 || Nat.beq y 85 || Nat.beq y 86 || Nat.beq y 87 || Nat.beq y 168 || Nat.beq y 169 || Nat.beq y 170 || Nat.beq y 290 || Nat.beq y 291 || Nat.beq y 292 || Nat.beq y 293
def mz_pos : List (Nat × Nat × Nat) := [(245, 244, 0), (983, 982, 35), (1013, 1011, 1012), (1025, 1023, 1024), (1004, 1003, 39), (1009, 1008, 40), (979, 977, 978), (988, 987, 36), (993, 992, 37), (999, 998, 38), (1038, 1036, 1037), (1042, 1041, 41), (1047, 1046, 42), (1052, 1051, 43), (1056, 1055, 44), (188, 187, 0), (406, 404, 405), (560, 558, 559), (1084, 1082, 1083), (524, 522, 523), (568, 566, 567), (539, 538, 0), (554, 553, 0), (536, 534, 535), (608, 606, 607), (699, 697, 698), (707, 705, 706), (686, 684, 685), (639, 637, 638), (720, 718, 719), (635, 633, 634), (755, 753, 754), (763, 761, 762), (532, 530, 531), (528, 526, 527), (733, 731, 732), (747, 745, 746), (520, 518, 519), (771, 769, 770), (592, 590, 591), (788, 786, 787), (796, 794, 795), (804, 802, 803), (812, 810, 811), (845, 843, 844), (833, 832, 30), (854, 852, 853), (825, 823, 824), (829, 828, 29), (596, 595, 19), (882, 880, 881), (584, 583, 17), (580, 578, 579), (588, 587, 18), (600, 599, 20), (604, 603, 21), (612, 610, 611), (626, 624, 625), (617, 615, 616), (621, 620, 22), (643, 642, 23), (631, 629, 630), (946, 944, 945), (651, 649, 650), (647, 646, 24), (576, 574, 575), (283, 282, 0), (402, 400, 401), (1080, 1078, 1079), (663, 661, 662), (866, 864, 865), (906, 904, 905), (512, 510, 511), (508, 506, 507), (564, 563, 16), (551, 550, 15), (547, 545, 546), (572, 570, 571), (1100, 1098, 1099), (890, 888, 889), (874, 872, 873), (135, 134, 0), (358, 356, 357), (370, 368, 369), (378, 377, 1), (381, 380, 0), (384, 383, 0), (391, 390, 0), (374, 373, 0), (388, 387, 2), (395, 394, 3), (419, 418, 5), (477, 476, 6), (498, 497, 11), (494, 493, 10), (543, 542, 14), (410, 408, 409), (414, 413, 4), (481, 480, 7), (485, 484, 8), (489, 488, 9), (504, 503, 12), (516, 515, 13), (127, 126, 0), (354, 352, 353), (362, 360, 361), (366, 364, 365), (655, 653, 654), (659, 657, 658), (784, 783, 28), (682, 681, 26), (694, 693, 27), (671, 670, 25), (667, 665, 666), (678, 676, 677), (690, 688, 689), (703, 701, 702), (711, 709, 710), (716, 714, 715), (724, 722, 723), (729, 727, 728), (743, 741, 742), (751, 749, 750), (759, 757, 758), (767, 765, 766), (775, 773, 774), (780, 778, 779), (792, 790, 791), (800, 798, 799), (808, 806, 807), (817, 815, 816), (821, 819, 820), (841, 840, 31), (837, 835, 836), (850, 848, 849), (858, 856, 857), (862, 860, 861), (870, 868, 869), (878, 876, 877), (886, 884, 885), (894, 892, 893), (898, 896, 897), (902, 900, 901), (915, 914, 32), (924, 923, 33), (911, 909, 910), (920, 918, 919), (928, 926, 927), (933, 931, 932), (937, 935, 936), (942, 940, 941), (951, 949, 950), (956, 954, 955), (961, 959, 960), (966, 964, 965), (975, 974, 34), (971, 969, 970), (1017, 1015, 1016), (1021, 1019, 1020), (1030, 1028, 1029), (1034, 1032, 1033), (1060, 1058, 1059), (1064, 1062, 1063), (1076, 1075, 45), (1072, 1070, 1071), (1092, 1090, 1091), (1096, 1094, 1095), (1106, 1104, 1105), (1239, 1238, 0), (1299, 1298, 0), (1481, 1480, 0), (1111, 1110, 0), (1232, 1230, 1231), (1236, 1234, 1235), (1348, 1347, 67), (1328, 1327, 62), (1332, 1331, 63), (1352, 1351, 68), (1360, 1359, 70), (1368, 1367, 72), (1364, 1363, 71), (1356, 1355, 69), (1384, 1383, 76), (1380, 1379, 75), (1344, 1343, 66), (1413, 1412, 83), (1376, 1375, 74), (1372, 1371, 73), (1401, 1400, 80), (1397, 1396, 79), (1393, 1392, 78), (1572, 1571, 92), (1389, 1388, 77), (1409, 1408, 82), (1584, 1583, 94), (1405, 1404, 81), (1340, 1339, 65), (1336, 1335, 64), (1324, 1323, 61), (1320, 1319, 60), (1251, 1250, 47), (1247, 1246, 46), (1272, 1271, 51), (1262, 1261, 49), (1268, 1267, 50), (1281, 1280, 53), (1303, 1302, 57), (1277, 1276, 52), (1292, 1291, 55), (1296, 1295, 56), (1257, 1256, 48), (1288, 1287, 54), (1307, 1306, 58), (1316, 1315, 59), (1417, 1416, 84), (1243, 1241, 1242), (1421, 1419, 1420), (1429, 1428, 85), (1437, 1436, 86), (1425, 1423, 1424), (1433, 1431, 1432), (1441, 1439, 1440), (1454, 1453, 88), (1450, 1449, 87), (1446, 1444, 1445), (1458, 1456, 1457), (1470, 1469, 89), (1462, 1460, 1461), (1466, 1464, 1465), (1474, 1472, 1473), (1478, 1476, 1477), (1485, 1483, 1484), (1489, 1487, 1488), (1494, 1492, 1493), (1498, 1496, 1497), (1502, 1500, 1501), (1506, 1504, 1505), (1510, 1508, 1509), (1514, 1512, 1513), (1518, 1516, 1517), (1522, 1520, 1521), (1526, 1524, 1525), (1531, 1529, 1530), (1535, 1533, 1534), (1548, 1547, 91), (1544, 1543, 90), (1540, 1538, 1539), (1552, 1550, 1551), (1556, 1554, 1555), (1560, 1558, 1559), (1564, 1562, 1563), (1568, 1566, 1567), (1580, 1579, 93), (1576, 1574, 1575), (1588, 1586, 1587), (1592, 1590, 1591), (1596, 1594, 1595), (1600, 1598, 1599), (1604, 1602, 1603), (1612, 1611, 95), (1616, 1615, 96), (1608, 1606, 1607), (1621, 1619, 1620), (1625, 1623, 1624), (1629, 1628, 97), (1637, 1636, 98), (1633, 1631, 1632), (1641, 1639, 1640), (1645, 1643, 1644), (1651, 1649, 1650), (1655, 1653, 1654), (1671, 1670, 101), (1667, 1666, 100), (1675, 1674, 102), (1663, 1662, 99), (1659, 1657, 1658), (1679, 1677, 1678), (1683, 1681, 1682), (1687, 1685, 1686), (1703, 1702, 105), (1699, 1698, 104), (1711, 1710, 107), (1707, 1706, 106), (1695, 1694, 103), (1715, 1714, 108), (1691, 1689, 1690), (1719, 1717, 1718), (1723, 1721, 1722), (1727, 1725, 1726), (1731, 1729, 1730), (1067, 1066, 0), (736, 735, 0), (192, 191, 0), (398, 397, 0), (0, 0, 0)]
def mz_cm (y : Nat) (q : Nat × Nat × Nat) : Bool :=
  decide ((mz_yD y).2.2.1 ≤ 20) && decide ((mz_yD y).1.cls = mz_cN (mz_yD y).2.2.2.2.1) && decide ((mz_yD y).2.2.2.2.1 < 8) && decide ((mz_yD y).2.2.2.2.2.1 = decide ((mz_yD y).1.name = "<init>")) && mz_npr (mz_yD y).1 (mz_np.getD y 0) &&
  ((mz_sts y && mz_in q.2.1 (.static (mz_yD y).1)) || (!(mz_sts y) && mz_in q.2.1 (.instanceMethod (mz_yD y).1) && ((mz_yD y).2.2.2.2.2.1 || mz_in q.2.2 (.selects (mz_yD y).1.cls (mz_yD y).1 (mz_yD y).1))))
def mz_cmr (a n : Nat) : Bool := (List.range' a n).all (fun y => mz_cm y (mz_pos.getD y (0, 0, 0)))
theorem mz_pln : ∀ c, c < 8 → plainName (mz_cN c) = true ∧ mz_cN c ≠ "java/lang/invoke/MethodHandle" ∧ mz_cN c ≠ "java/lang/invoke/VarHandle" := by decide +kernel
theorem mz_own : ∀ c, c < 6 → ∀ j, j < mz_cS c → (mz_cF c j).1 = mz_cN c := by decide +kernel
def mz_lay : List (List Nat) := [[259, 261, 263, 265, 267, 269, 271, 273, 275, 277], [218, 220, 222, 224, 226, 228, 230, 232, 234, 236], [309, 311, 313, 315, 317, 319, 321, 323, 325, 327, 329], [156, 158, 160, 162, 164, 166, 168, 170, 172, 174, 176, 178], [338, 340, 342, 344, 346, 348], [1151, 1153, 1155, 1157, 1159, 1161, 1163, 1165, 1167, 1169, 1171, 1173, 1175, 1177, 1179, 1181, 1183, 1185, 1187, 1189, 1191, 1193, 1195, 1197, 1199, 1201, 1203, 1205, 1207, 1209, 1211, 1213, 1215, 1217, 1219, 1221, 1223, 1225]]
theorem mz_lay_ok : ∀ c, c < 6 → ∀ j, j < mz_cS c → mz_in ((mz_lay.getD c []).getD j 0) (u_lay (mz_cN c) (mz_cF c) j) = true := by decide +kernel
theorem mz_all_ini : ∀ c, c < 9 → mz_in ([114, 112, 115, 111, 110, 116, 109, 121, 113].getD c 0) (.initialized (mz_cN c)) = true := by decide +kernel
theorem mz_all_ins : ∀ c, c < 6 → mz_in ([242, 185, 280, 132, 124, 1108].getD c 0) (.instantiable (mz_cN c) (mz_cS c)) = true := by decide +kernel
theorem mz_cm_0 : mz_cmr 0 42 = true := by decide +kernel
theorem mz_cm_1 : mz_cmr 42 42 = true := by decide +kernel
theorem mz_cm_2 : mz_cmr 84 42 = true := by decide +kernel
theorem mz_cm_3 : mz_cmr 126 42 = true := by decide +kernel
theorem mz_cm_4 : mz_cmr 168 42 = true := by decide +kernel
theorem mz_cm_5 : mz_cmr 210 42 = true := by decide +kernel
theorem mz_cm_6 : mz_cmr 252 40 = true := by decide +kernel
theorem mz_mis : mz_in 122 (.initialized "java/lang/System") = true ∧ mz_in 129 (.instanceMethod objectInit) = true ∧ mz_in 130 (.code objectInit ⟨#[0xb1]⟩ 1 none) = true ∧ mz_in 1086 (.static arraycopyName) = true ∧ mz_in 1087 (.native arraycopyName) = true ∧ mz_in 240 (.arrayClass .int) = true ∧ mz_in 181 (.arrayClass .byte) = true ∧ mz_in 1228 (.arrayClass .boolean) = true ∧ mz_in 239 (.arrayClass .long) = true ∧ lw_tbl[(183 : Nat)]? = some (.arrayOver (.object "RerootStore$Story")) ∧ mz_in 192 (.code Lib.Math.max.name Lib.Math.max.code 2 (some .int)) = true ∧ mz_in 191 (.static Lib.Math.max.name) = true ∧ mz_in 398 (.code Lib.Math.min.name Lib.Math.min.code 2 (some .int)) = true ∧ mz_in 397 (.static Lib.Math.min.name) = true := by decide +kernel
def mz_jmp (pc : Nat) (off : Int) (tg : List Nat) : Bool := match tg with
  | [t] => decide ((pc : Int) + off = (t : Int))
  | _ => false
def mz_q (r own x tag a b : Nat) : Bool := match mz_LT r with
  | some (q1, q2, q3, q4, q5) => Nat.beq q1 own && Nat.beq q2 x && Nat.beq q3 tag && Nat.beq q4 a && Nat.beq q5 b
  | none => false
def mz_il (i : Instr) : Nat := match i with
  | .bipush _ => 2
  | .iload _ => 2
  | .lload _ => 2
  | .aload _ => 2
  | .istore _ => 2
  | .lstore _ => 2
  | .astore _ => 2
  | .ldc _ => 2
  | .newarray _ => 2
  | .sipush _ => 3
  | .iinc _ _ => 3
  | .ifCond _ _ => 3
  | .if_icmp _ _ => 3
  | .goto _ => 3
  | .ifnull _ => 3
  | .ifnonnull _ => 3
  | .ldc_w _ => 3
  | .ldc2_w _ => 3
  | .getfield _ => 3
  | .putfield _ => 3
  | .new _ => 3
  | .anewarray _ => 3
  | .invokevirtual _ => 3
  | .invokestatic _ => 3
  | .invokespecial _ => 3
  | _ => 1
def mz_ln0 (i : Instr) (ln : Nat) : Bool := match i with
  | .tableswitch _ _ _ _ => true
  | i => Nat.beq ln (mz_il i)
def mz_ck2 (Y : mz_Y) (pc : Nat) (i : Instr) (tg : List Nat) : Bool := match i with
  | .ifCond _ off => mz_jmp pc off tg
  | .if_icmp _ off => mz_jmp pc off tg
  | .goto off => mz_jmp pc off tg
  | .ifnull off => mz_jmp pc off tg
  | .ifnonnull off => mz_jmp pc off tg
  | .tableswitch d _ _ offs => decide (tg.map (fun t : Nat => (t : Int)) = (d :: offs.toList).map (fun o => (pc : Int) + o))
  | .getfield x => (match tg with
    | [c, j, r] => Nat.blt c 6 && Nat.blt j (mz_cS c) && mz_q r Y.2.2.2.2.1 x 0 c j
    | _ => false)
  | .putfield x => (match tg with
    | [c, j, r] => Nat.blt c 6 && Nat.blt j (mz_cS c) && mz_q r Y.2.2.2.2.1 x 0 c j
    | _ => false)
  | .ldc x => (match tg with
    | [0, r, w] => mz_q r Y.2.2.2.2.1 x 1 w 0
    | [1, r, w] => Nat.blt w 10 && mz_q r Y.2.2.2.2.1 x 3 w 0
    | _ => false)
  | .ldc_w x => (match tg with
    | [0, r, w] => mz_q r Y.2.2.2.2.1 x 1 w 0
    | [1, r, w] => Nat.blt w 10 && mz_q r Y.2.2.2.2.1 x 3 w 0
    | _ => false)
  | .ldc2_w x => (match tg with
    | [_, r, w] => mz_q r Y.2.2.2.2.1 x 2 w 0
    | _ => false)
  | .new x => (match tg with
    | [c, r] => Nat.blt c 6 && mz_q r Y.2.2.2.2.1 x 4 c 0
    | _ => false)
  | .anewarray x => (match tg with
    | [r] => mz_q r Y.2.2.2.2.1 x 4 2 0
    | _ => false)
  | .invokevirtual x => (match tg with
    | [6, 400, 1, _, r] => mz_q r Y.2.2.2.2.1 x 8 0 0
    | [6, 401, 2, _, r] => mz_q r Y.2.2.2.2.1 x 9 0 0
    | [h, y, n + 1, c, r] => !(Nat.beq h 6) && Nat.blt y 292 && Nat.blt c 6 && Nat.beq c (mz_yD y).2.2.2.2.1 && Nat.beq n (mz_np.getD y 0) && !(mz_yD y).2.2.2.2.2.1 && !(mz_sts y) && mz_q r Y.2.2.2.2.1 x 5 y 0
    | _ => false)
  | .invokestatic x => (match tg with
    | [0, y, n, _, r] => Nat.blt y 292 && Nat.beq n (mz_np.getD y 0) && mz_sts y && mz_q r Y.2.2.2.2.1 x 5 y 0
    | [2, _, _, _, r] => mz_q r Y.2.2.2.2.1 x 7 0 0
    | [3, 292, _, _, r] => mz_q r Y.2.2.2.2.1 x 5 292 0
    | [4, 293, _, _, r] => mz_q r Y.2.2.2.2.1 x 5 293 0
    | _ => false)
  | .invokespecial x => (match tg with
    | [1, _, _, _, r] => mz_q r Y.2.2.2.2.1 x 6 0 0
    | [5, y, n + 1, _, r] => Nat.blt y 292 && (mz_yD y).2.2.2.2.2.1 && decide ((mz_yD y).2.2.2.1 = none) && Nat.beq n (mz_np.getD y 0) && !(mz_sts y) && mz_q r Y.2.2.2.2.1 x 5 y 0
    | [7, y, n + 1, _, r] => Nat.blt y 292 && (mz_yD y).2.2.2.2.2.1 && decide ((mz_yD y).2.2.2.1 = none) && Nat.beq n (mz_np.getD y 0) && !(mz_sts y) && mz_q r Y.2.2.2.2.1 x 10 y 0
    | _ => false)
  | _ => true
def mz_ck (Y : mz_Y) : Bool := Y.2.2.2.2.2.2.all (fun e => decide (decode Y.2.1 e.1 = .ok (e.2.1, e.2.2.1)) && mz_ln0 e.2.1 e.2.2.1 && mz_ck2 Y e.1 e.2.1 e.2.2.2)
end
section
set_option maxRecDepth 100000 in
theorem yc_Pa_init : lw_tbl[(245 : Nat)]? = some (.code ym_Pa_init.1 ym_Pa_init.2.1 ym_Pa_init.2.2.1 ym_Pa_init.2.2.2.1) := by exact rfl
set_option maxRecDepth 100000 in
theorem yc_Pa_begin : lw_tbl[(983 : Nat)]? = some (.code ym_Pa_begin.1 ym_Pa_begin.2.1 ym_Pa_begin.2.2.1 ym_Pa_begin.2.2.2.1) := by exact rfl
set_option maxRecDepth 100000 in
theorem yc_Pa_answer : lw_tbl[(1013 : Nat)]? = some (.code ym_Pa_answer.1 ym_Pa_answer.2.1 ym_Pa_answer.2.2.1 ym_Pa_answer.2.2.2.1) := by exact rfl
set_option maxRecDepth 100000 in
theorem yc_Pa_foundAt : lw_tbl[(1025 : Nat)]? = some (.code ym_Pa_foundAt.1 ym_Pa_foundAt.2.1 ym_Pa_foundAt.2.2.1 ym_Pa_foundAt.2.2.2.1) := by exact rfl
set_option maxRecDepth 100000 in
theorem yc_Pa_put : lw_tbl[(1004 : Nat)]? = some (.code ym_Pa_put.1 ym_Pa_put.2.1 ym_Pa_put.2.2.1 ym_Pa_put.2.2.2.1) := by exact rfl
set_option maxRecDepth 100000 in
theorem yc_Pa_backFrom : lw_tbl[(1009 : Nat)]? = some (.code ym_Pa_backFrom.1 ym_Pa_backFrom.2.1 ym_Pa_backFrom.2.2.1 ym_Pa_backFrom.2.2.2.1) := by exact rfl
set_option maxRecDepth 100000 in
theorem yc_Pa_seek : lw_tbl[(979 : Nat)]? = some (.code ym_Pa_seek.1 ym_Pa_seek.2.1 ym_Pa_seek.2.2.1 ym_Pa_seek.2.2.2.1) := by exact rfl
set_option maxRecDepth 100000 in
theorem yc_Pa_openCell : lw_tbl[(988 : Nat)]? = some (.code ym_Pa_openCell.1 ym_Pa_openCell.2.1 ym_Pa_openCell.2.2.1 ym_Pa_openCell.2.2.2.1) := by exact rfl
set_option maxRecDepth 100000 in
theorem yc_Pa_paintNext : lw_tbl[(993 : Nat)]? = some (.code ym_Pa_paintNext.1 ym_Pa_paintNext.2.1 ym_Pa_paintNext.2.2.1 ym_Pa_paintNext.2.2.2.1) := by exact rfl
set_option maxRecDepth 100000 in
theorem yc_Pa_isFree : lw_tbl[(999 : Nat)]? = some (.code ym_Pa_isFree.1 ym_Pa_isFree.2.1 ym_Pa_isFree.2.2.1 ym_Pa_isFree.2.2.2.1) := by exact rfl
set_option maxRecDepth 100000 in
theorem yc_Pa_seekAhead : lw_tbl[(1038 : Nat)]? = some (.code ym_Pa_seekAhead.1 ym_Pa_seekAhead.2.1 ym_Pa_seekAhead.2.2.1 ym_Pa_seekAhead.2.2.2.1) := by exact rfl
set_option maxRecDepth 100000 in
theorem yc_Pa_fullRow : lw_tbl[(1042 : Nat)]? = some (.code ym_Pa_fullRow.1 ym_Pa_fullRow.2.1 ym_Pa_fullRow.2.2.1 ym_Pa_fullRow.2.2.2.1) := by exact rfl
set_option maxRecDepth 100000 in
theorem yc_Pa_takeCell : lw_tbl[(1047 : Nat)]? = some (.code ym_Pa_takeCell.1 ym_Pa_takeCell.2.1 ym_Pa_takeCell.2.2.1 ym_Pa_takeCell.2.2.2.1) := by exact rfl
set_option maxRecDepth 100000 in
theorem yc_Pa_paintAhead : lw_tbl[(1052 : Nat)]? = some (.code ym_Pa_paintAhead.1 ym_Pa_paintAhead.2.1 ym_Pa_paintAhead.2.2.1 ym_Pa_paintAhead.2.2.2.1) := by exact rfl
set_option maxRecDepth 100000 in
theorem yc_Pa_strikeOut : lw_tbl[(1056 : Nat)]? = some (.code ym_Pa_strikeOut.1 ym_Pa_strikeOut.2.1 ym_Pa_strikeOut.2.2.1 ym_Pa_strikeOut.2.2.2.1) := by exact rfl
set_option maxRecDepth 100000 in
theorem yc_Sh_init : lw_tbl[(188 : Nat)]? = some (.code ym_Sh_init.1 ym_Sh_init.2.1 ym_Sh_init.2.2.1 ym_Sh_init.2.2.2.1) := by exact rfl
set_option maxRecDepth 100000 in
theorem yc_Sh_forget : lw_tbl[(406 : Nat)]? = some (.code ym_Sh_forget.1 ym_Sh_forget.2.1 ym_Sh_forget.2.2.1 ym_Sh_forget.2.2.2.1) := by exact rfl
set_option maxRecDepth 100000 in
theorem yc_Sh_begin : lw_tbl[(560 : Nat)]? = some (.code ym_Sh_begin.1 ym_Sh_begin.2.1 ym_Sh_begin.2.2.1 ym_Sh_begin.2.2.2.1) := by exact rfl
set_option maxRecDepth 100000 in
theorem yc_Sh_become : lw_tbl[(1084 : Nat)]? = some (.code ym_Sh_become.1 ym_Sh_become.2.1 ym_Sh_become.2.2.1 ym_Sh_become.2.2.2.1) := by exact rfl
set_option maxRecDepth 100000 in
theorem yc_Sh_has : lw_tbl[(524 : Nat)]? = some (.code ym_Sh_has.1 ym_Sh_has.2.1 ym_Sh_has.2.2.1 ym_Sh_has.2.2.2.1) := by exact rfl
set_option maxRecDepth 100000 in
theorem yc_Sh_hasCell : lw_tbl[(568 : Nat)]? = some (.code ym_Sh_hasCell.1 ym_Sh_hasCell.2.1 ym_Sh_hasCell.2.2.1 ym_Sh_hasCell.2.2.2.1) := by exact rfl
set_option maxRecDepth 100000 in
theorem yc_Sh_numberIn : lw_tbl[(539 : Nat)]? = some (.code ym_Sh_numberIn.1 ym_Sh_numberIn.2.1 ym_Sh_numberIn.2.2.1 ym_Sh_numberIn.2.2.2.1) := by exact rfl
set_option maxRecDepth 100000 in
theorem yc_Sh_withNumber : lw_tbl[(554 : Nat)]? = some (.code ym_Sh_withNumber.1 ym_Sh_withNumber.2.1 ym_Sh_withNumber.2.2.1 ym_Sh_withNumber.2.2.2.1) := by exact rfl
set_option maxRecDepth 100000 in
theorem yc_Sh_rowOf : lw_tbl[(536 : Nat)]? = some (.code ym_Sh_rowOf.1 ym_Sh_rowOf.2.1 ym_Sh_rowOf.2.2.1 ym_Sh_rowOf.2.2.2.1) := by exact rfl
set_option maxRecDepth 100000 in
theorem yc_Sh_numberAt : lw_tbl[(608 : Nat)]? = some (.code ym_Sh_numberAt.1 ym_Sh_numberAt.2.1 ym_Sh_numberAt.2.2.1 ym_Sh_numberAt.2.2.2.1) := by exact rfl
set_option maxRecDepth 100000 in
theorem yc_Sh_unlikeCells : lw_tbl[(699 : Nat)]? = some (.code ym_Sh_unlikeCells.1 ym_Sh_unlikeCells.2.1 ym_Sh_unlikeCells.2.2.1 ym_Sh_unlikeCells.2.2.2.1) := by exact rfl
set_option maxRecDepth 100000 in
theorem yc_Sh_firstLike : lw_tbl[(707 : Nat)]? = some (.code ym_Sh_firstLike.1 ym_Sh_firstLike.2.1 ym_Sh_firstLike.2.2.1 ym_Sh_firstLike.2.2.2.1) := by exact rfl
set_option maxRecDepth 100000 in
theorem yc_Sh_makingOf : lw_tbl[(686 : Nat)]? = some (.code ym_Sh_makingOf.1 ym_Sh_makingOf.2.1 ym_Sh_makingOf.2.2.1 ym_Sh_makingOf.2.2.2.1) := by exact rfl
set_option maxRecDepth 100000 in
theorem yc_Sh_parentOf : lw_tbl[(639 : Nat)]? = some (.code ym_Sh_parentOf.1 ym_Sh_parentOf.2.1 ym_Sh_parentOf.2.2.1 ym_Sh_parentOf.2.2.2.1) := by exact rfl
set_option maxRecDepth 100000 in
theorem yc_Sh_depthOf : lw_tbl[(720 : Nat)]? = some (.code ym_Sh_depthOf.1 ym_Sh_depthOf.2.1 ym_Sh_depthOf.2.2.1 ym_Sh_depthOf.2.2.2.1) := by exact rfl
set_option maxRecDepth 100000 in
theorem yc_Sh_meeting : lw_tbl[(635 : Nat)]? = some (.code ym_Sh_meeting.1 ym_Sh_meeting.2.1 ym_Sh_meeting.2.2.1 ym_Sh_meeting.2.2.2.1) := by exact rfl
set_option maxRecDepth 100000 in
theorem yc_Sh_lastSetter : lw_tbl[(755 : Nat)]? = some (.code ym_Sh_lastSetter.1 ym_Sh_lastSetter.2.1 ym_Sh_lastSetter.2.2.1 ym_Sh_lastSetter.2.2.2.1) := by exact rfl
set_option maxRecDepth 100000 in
theorem yc_Sh_timesSet : lw_tbl[(763 : Nat)]? = some (.code ym_Sh_timesSet.1 ym_Sh_timesSet.2.1 ym_Sh_timesSet.2.2.1 ym_Sh_timesSet.2.2.2.1) := by exact rfl
set_option maxRecDepth 100000 in
theorem yc_Sh_rootOf : lw_tbl[(532 : Nat)]? = some (.code ym_Sh_rootOf.1 ym_Sh_rootOf.2.1 ym_Sh_rootOf.2.2.1 ym_Sh_rootOf.2.2.2.1) := by exact rfl
set_option maxRecDepth 100000 in
theorem yc_Sh_areJoined : lw_tbl[(528 : Nat)]? = some (.code ym_Sh_areJoined.1 ym_Sh_areJoined.2.1 ym_Sh_areJoined.2.2.1 ym_Sh_areJoined.2.2.2.1) := by exact rfl
set_option maxRecDepth 100000 in
theorem yc_Sh_rootBits : lw_tbl[(733 : Nat)]? = some (.code ym_Sh_rootBits.1 ym_Sh_rootBits.2.1 ym_Sh_rootBits.2.2.1 ym_Sh_rootBits.2.2.2.1) := by exact rfl
set_option maxRecDepth 100000 in
theorem yc_Sh_cellsRootedAs : lw_tbl[(747 : Nat)]? = some (.code ym_Sh_cellsRootedAs.1 ym_Sh_cellsRootedAs.2.1 ym_Sh_cellsRootedAs.2.2.1 ym_Sh_cellsRootedAs.2.2.2.1) := by exact rfl
set_option maxRecDepth 100000 in
theorem yc_Sh_isDirect : lw_tbl[(520 : Nat)]? = some (.code ym_Sh_isDirect.1 ym_Sh_isDirect.2.1 ym_Sh_isDirect.2.2.1 ym_Sh_isDirect.2.2.2.1) := by exact rfl
set_option maxRecDepth 100000 in
theorem yc_Sh_linkOf : lw_tbl[(771 : Nat)]? = some (.code ym_Sh_linkOf.1 ym_Sh_linkOf.2.1 ym_Sh_linkOf.2.2.1 ym_Sh_linkOf.2.2.2.1) := by exact rfl
set_option maxRecDepth 100000 in
theorem yc_Sh_wayFrom : lw_tbl[(592 : Nat)]? = some (.code ym_Sh_wayFrom.1 ym_Sh_wayFrom.2.1 ym_Sh_wayFrom.2.2.1 ym_Sh_wayFrom.2.2.2.1) := by exact rfl
set_option maxRecDepth 100000 in
theorem yc_Sh_longestWay : lw_tbl[(788 : Nat)]? = some (.code ym_Sh_longestWay.1 ym_Sh_longestWay.2.1 ym_Sh_longestWay.2.2.1 ym_Sh_longestWay.2.2.2.1) := by exact rfl
set_option maxRecDepth 100000 in
theorem yc_Sh_directOnes : lw_tbl[(796 : Nat)]? = some (.code ym_Sh_directOnes.1 ym_Sh_directOnes.2.1 ym_Sh_directOnes.2.2.1 ym_Sh_directOnes.2.2.2.1) := by exact rfl
set_option maxRecDepth 100000 in
theorem yc_Sh_allWays : lw_tbl[(804 : Nat)]? = some (.code ym_Sh_allWays.1 ym_Sh_allWays.2.1 ym_Sh_allWays.2.2.1 ym_Sh_allWays.2.2.2.1) := by exact rfl
set_option maxRecDepth 100000 in
theorem yc_Sh_allWaysIfSnapped : lw_tbl[(812 : Nat)]? = some (.code ym_Sh_allWaysIfSnapped.1 ym_Sh_allWaysIfSnapped.2.1 ym_Sh_allWaysIfSnapped.2.2.1 ym_Sh_allWaysIfSnapped.2.2.2.1) := by exact rfl
set_option maxRecDepth 100000 in
theorem yc_Sh_withWays : lw_tbl[(845 : Nat)]? = some (.code ym_Sh_withWays.1 ym_Sh_withWays.2.1 ym_Sh_withWays.2.2.1 ym_Sh_withWays.2.2.2.1) := by exact rfl
set_option maxRecDepth 100000 in
theorem yc_Sh_wayBits : lw_tbl[(833 : Nat)]? = some (.code ym_Sh_wayBits.1 ym_Sh_wayBits.2.1 ym_Sh_wayBits.2.2.1 ym_Sh_wayBits.2.2.2.1) := by exact rfl
set_option maxRecDepth 100000 in
theorem yc_Sh_numbersIn : lw_tbl[(854 : Nat)]? = some (.code ym_Sh_numbersIn.1 ym_Sh_numbersIn.2.1 ym_Sh_numbersIn.2.2.1 ym_Sh_numbersIn.2.2.2.1) := by exact rfl
set_option maxRecDepth 100000 in
theorem yc_Sh_mostPassed : lw_tbl[(825 : Nat)]? = some (.code ym_Sh_mostPassed.1 ym_Sh_mostPassed.2.1 ym_Sh_mostPassed.2.2.1 ym_Sh_mostPassed.2.2.2.1) := by exact rfl
set_option maxRecDepth 100000 in
theorem yc_Sh_waysThrough : lw_tbl[(829 : Nat)]? = some (.code ym_Sh_waysThrough.1 ym_Sh_waysThrough.2.1 ym_Sh_waysThrough.2.2.1 ym_Sh_waysThrough.2.2.2.1) := by exact rfl
set_option maxRecDepth 100000 in
theorem yc_Sh_isTooLong : lw_tbl[(596 : Nat)]? = some (.code ym_Sh_isTooLong.1 ym_Sh_isTooLong.2.1 ym_Sh_isTooLong.2.2.1 ym_Sh_isTooLong.2.2.2.1) := by exact rfl
set_option maxRecDepth 100000 in
theorem yc_Sh_readingCost : lw_tbl[(882 : Nat)]? = some (.code ym_Sh_readingCost.1 ym_Sh_readingCost.2.1 ym_Sh_readingCost.2.2.1 ym_Sh_readingCost.2.2.2.1) := by exact rfl
set_option maxRecDepth 100000 in
theorem yc_Sh_linksBefore : lw_tbl[(584 : Nat)]? = some (.code ym_Sh_linksBefore.1 ym_Sh_linksBefore.2.1 ym_Sh_linksBefore.2.2.1 ym_Sh_linksBefore.2.2.2.1) := by exact rfl
set_option maxRecDepth 100000 in
theorem yc_Sh_readCell : lw_tbl[(580 : Nat)]? = some (.code ym_Sh_readCell.1 ym_Sh_readCell.2.1 ym_Sh_readCell.2.2.1 ym_Sh_readCell.2.2.2.1) := by exact rfl
set_option maxRecDepth 100000 in
theorem yc_Sh_reach : lw_tbl[(588 : Nat)]? = some (.code ym_Sh_reach.1 ym_Sh_reach.2.1 ym_Sh_reach.2.2.1 ym_Sh_reach.2.2.2.1) := by exact rfl
set_option maxRecDepth 100000 in
theorem yc_Sh_giveRow : lw_tbl[(600 : Nat)]? = some (.code ym_Sh_giveRow.1 ym_Sh_giveRow.2.1 ym_Sh_giveRow.2.2.1 ym_Sh_giveRow.2.2.2.1) := by exact rfl
set_option maxRecDepth 100000 in
theorem yc_Sh_turnWay : lw_tbl[(604 : Nat)]? = some (.code ym_Sh_turnWay.1 ym_Sh_turnWay.2.1 ym_Sh_turnWay.2.2.1 ym_Sh_turnWay.2.2.2.1) := by exact rfl
set_option maxRecDepth 100000 in
theorem yc_Sh_setCell : lw_tbl[(612 : Nat)]? = some (.code ym_Sh_setCell.1 ym_Sh_setCell.2.1 ym_Sh_setCell.2.2.1 ym_Sh_setCell.2.2.2.1) := by exact rfl
set_option maxRecDepth 100000 in
theorem yc_Sh_snapRow : lw_tbl[(626 : Nat)]? = some (.code ym_Sh_snapRow.1 ym_Sh_snapRow.2.1 ym_Sh_snapRow.2.2.1 ym_Sh_snapRow.2.2.2.1) := by exact rfl
set_option maxRecDepth 100000 in
theorem yc_Sh_findRoot : lw_tbl[(617 : Nat)]? = some (.code ym_Sh_findRoot.1 ym_Sh_findRoot.2.1 ym_Sh_findRoot.2.2.1 ym_Sh_findRoot.2.2.2.1) := by exact rfl
set_option maxRecDepth 100000 in
theorem yc_Sh_joinRoots : lw_tbl[(621 : Nat)]? = some (.code ym_Sh_joinRoots.1 ym_Sh_joinRoots.2.1 ym_Sh_joinRoots.2.2.1 ym_Sh_joinRoots.2.2.2.1) := by exact rfl
set_option maxRecDepth 100000 in
theorem yc_Sh_inConflict : lw_tbl[(643 : Nat)]? = some (.code ym_Sh_inConflict.1 ym_Sh_inConflict.2.1 ym_Sh_inConflict.2.2.1 ym_Sh_inConflict.2.2.2.1) := by exact rfl
set_option maxRecDepth 100000 in
theorem yc_Sh_mergedRow : lw_tbl[(631 : Nat)]? = some (.code ym_Sh_mergedRow.1 ym_Sh_mergedRow.2.1 ym_Sh_mergedRow.2.2.1 ym_Sh_mergedRow.2.2.2.1) := by exact rfl
set_option maxRecDepth 100000 in
theorem yc_Sh_conflicts : lw_tbl[(946 : Nat)]? = some (.code ym_Sh_conflicts.1 ym_Sh_conflicts.2.1 ym_Sh_conflicts.2.2.1 ym_Sh_conflicts.2.2.2.1) := by exact rfl
set_option maxRecDepth 100000 in
theorem yc_Sh_patchedRow : lw_tbl[(651 : Nat)]? = some (.code ym_Sh_patchedRow.1 ym_Sh_patchedRow.2.1 ym_Sh_patchedRow.2.2.1 ym_Sh_patchedRow.2.2.2.1) := by exact rfl
set_option maxRecDepth 100000 in
theorem yc_Sh_layOn : lw_tbl[(647 : Nat)]? = some (.code ym_Sh_layOn.1 ym_Sh_layOn.2.1 ym_Sh_layOn.2.2.1 ym_Sh_layOn.2.2.2.1) := by exact rfl
set_option maxRecDepth 100000 in
theorem yc_Sh_carryOut : lw_tbl[(576 : Nat)]? = some (.code ym_Sh_carryOut.1 ym_Sh_carryOut.2.1 ym_Sh_carryOut.2.2.1 ym_Sh_carryOut.2.2.2.1) := by exact rfl
set_option maxRecDepth 100000 in
theorem yc_St_init : lw_tbl[(283 : Nat)]? = some (.code ym_St_init.1 ym_St_init.2.1 ym_St_init.2.2.1 ym_St_init.2.2.2.1) := by exact rfl
set_option maxRecDepth 100000 in
theorem yc_St_forget : lw_tbl[(402 : Nat)]? = some (.code ym_St_forget.1 ym_St_forget.2.1 ym_St_forget.2.2.1 ym_St_forget.2.2.2.1) := by exact rfl
set_option maxRecDepth 100000 in
theorem yc_St_become : lw_tbl[(1080 : Nat)]? = some (.code ym_St_become.1 ym_St_become.2.1 ym_St_become.2.2.1 ym_St_become.2.2.2.1) := by exact rfl
set_option maxRecDepth 100000 in
theorem yc_St_acts : lw_tbl[(663 : Nat)]? = some (.code ym_St_acts.1 ym_St_acts.2.1 ym_St_acts.2.2.1 ym_St_acts.2.2.2.1) := by exact rfl
set_option maxRecDepth 100000 in
theorem yc_St_hasDeed : lw_tbl[(866 : Nat)]? = some (.code ym_St_hasDeed.1 ym_St_hasDeed.2.1 ym_St_hasDeed.2.2.1 ym_St_hasDeed.2.2.2.1) := by exact rfl
set_option maxRecDepth 100000 in
theorem yc_St_makesNone : lw_tbl[(906 : Nat)]? = some (.code ym_St_makesNone.1 ym_St_makesNone.2.1 ym_St_makesNone.2.2.1 ym_St_makesNone.2.2.2.1) := by exact rfl
set_option maxRecDepth 100000 in
theorem yc_St_partnersOf : lw_tbl[(512 : Nat)]? = some (.code ym_St_partnersOf.1 ym_St_partnersOf.2.1 ym_St_partnersOf.2.2.1 ym_St_partnersOf.2.2.2.1) := by exact rfl
set_option maxRecDepth 100000 in
theorem yc_St_arePaired : lw_tbl[(508 : Nat)]? = some (.code ym_St_arePaired.1 ym_St_arePaired.2.1 ym_St_arePaired.2.2.1 ym_St_arePaired.2.2.2.1) := by exact rfl
set_option maxRecDepth 100000 in
theorem yc_St_pairUp : lw_tbl[(564 : Nat)]? = some (.code ym_St_pairUp.1 ym_St_pairUp.2.1 ym_St_pairUp.2.2.1 ym_St_pairUp.2.2.2.1) := by exact rfl
set_option maxRecDepth 100000 in
theorem yc_St_ownNumbers : lw_tbl[(551 : Nat)]? = some (.code ym_St_ownNumbers.1 ym_St_ownNumbers.2.1 ym_St_ownNumbers.2.2.1 ym_St_ownNumbers.2.2.2.1) := by exact rfl
set_option maxRecDepth 100000 in
theorem yc_St_tell : lw_tbl[(547 : Nat)]? = some (.code ym_St_tell.1 ym_St_tell.2.1 ym_St_tell.2.2.1 ym_St_tell.2.2.2.1) := by exact rfl
set_option maxRecDepth 100000 in
theorem yc_St_perform : lw_tbl[(572 : Nat)]? = some (.code ym_St_perform.1 ym_St_perform.2.1 ym_St_perform.2.2.1 ym_St_perform.2.2.2.1) := by exact rfl
set_option maxRecDepth 100000 in
theorem yc_St_goBackTo : lw_tbl[(1100 : Nat)]? = some (.code ym_St_goBackTo.1 ym_St_goBackTo.2.1 ym_St_goBackTo.2.2.1 ym_St_goBackTo.2.2.2.1) := by exact rfl
set_option maxRecDepth 100000 in
theorem yc_St_stepsOn : lw_tbl[(890 : Nat)]? = some (.code ym_St_stepsOn.1 ym_St_stepsOn.2.1 ym_St_stepsOn.2.2.1 ym_St_stepsOn.2.2.2.1) := by exact rfl
set_option maxRecDepth 100000 in
theorem yc_St_dearestDeed : lw_tbl[(874 : Nat)]? = some (.code ym_St_dearestDeed.1 ym_St_dearestDeed.2.1 ym_St_dearestDeed.2.2.1 ym_St_dearestDeed.2.2.2.1) := by exact rfl
set_option maxRecDepth 100000 in
theorem yc_Ta_init : lw_tbl[(135 : Nat)]? = some (.code ym_Ta_init.1 ym_Ta_init.2.1 ym_Ta_init.2.2.1 ym_Ta_init.2.2.2.1) := by exact rfl
set_option maxRecDepth 100000 in
theorem yc_Ta_put : lw_tbl[(358 : Nat)]? = some (.code ym_Ta_put.1 ym_Ta_put.2.1 ym_Ta_put.2.2.1 ym_Ta_put.2.2.2.1) := by exact rfl
set_option maxRecDepth 100000 in
theorem yc_Ta_begin : lw_tbl[(370 : Nat)]? = some (.code ym_Ta_begin.1 ym_Ta_begin.2.1 ym_Ta_begin.2.2.1 ym_Ta_begin.2.2.2.1) := by exact rfl
set_option maxRecDepth 100000 in
theorem yc_Ta_byteAt : lw_tbl[(378 : Nat)]? = some (.code ym_Ta_byteAt.1 ym_Ta_byteAt.2.1 ym_Ta_byteAt.2.2.1 ym_Ta_byteAt.2.2.2.1) := by exact rfl
set_option maxRecDepth 100000 in
theorem yc_Ta_isBlank : lw_tbl[(381 : Nat)]? = some (.code ym_Ta_isBlank.1 ym_Ta_isBlank.2.1 ym_Ta_isBlank.2.2.1 ym_Ta_isBlank.2.2.2.1) := by exact rfl
set_option maxRecDepth 100000 in
theorem yc_Ta_isLetter : lw_tbl[(384 : Nat)]? = some (.code ym_Ta_isLetter.1 ym_Ta_isLetter.2.1 ym_Ta_isLetter.2.2.1 ym_Ta_isLetter.2.2.2.1) := by exact rfl
set_option maxRecDepth 100000 in
theorem yc_Ta_isDigit : lw_tbl[(391 : Nat)]? = some (.code ym_Ta_isDigit.1 ym_Ta_isDigit.2.1 ym_Ta_isDigit.2.2.1 ym_Ta_isDigit.2.2.2.1) := by exact rfl
set_option maxRecDepth 100000 in
theorem yc_Ta_takeToken : lw_tbl[(374 : Nat)]? = some (.code ym_Ta_takeToken.1 ym_Ta_takeToken.2.1 ym_Ta_takeToken.2.2.1 ym_Ta_takeToken.2.2.2.1) := by exact rfl
set_option maxRecDepth 100000 in
theorem yc_Ta_takeLetters : lw_tbl[(388 : Nat)]? = some (.code ym_Ta_takeLetters.1 ym_Ta_takeLetters.2.1 ym_Ta_takeLetters.2.2.1 ym_Ta_takeLetters.2.2.2.1) := by exact rfl
set_option maxRecDepth 100000 in
theorem yc_Ta_takeDigits : lw_tbl[(395 : Nat)]? = some (.code ym_Ta_takeDigits.1 ym_Ta_takeDigits.2.1 ym_Ta_takeDigits.2.2.1 ym_Ta_takeDigits.2.2.2.1) := by exact rfl
set_option maxRecDepth 100000 in
theorem yc_Ta_isWord : lw_tbl[(419 : Nat)]? = some (.code ym_Ta_isWord.1 ym_Ta_isWord.2.1 ym_Ta_isWord.2.2.1 ym_Ta_isWord.2.2.2.1) := by exact rfl
set_option maxRecDepth 100000 in
theorem yc_Ta_refuse : lw_tbl[(477 : Nat)]? = some (.code ym_Ta_refuse.1 ym_Ta_refuse.2.1 ym_Ta_refuse.2.2.1 ym_Ta_refuse.2.2.2.1) := by exact rfl
set_option maxRecDepth 100000 in
theorem yc_Ta_takeNumber : lw_tbl[(498 : Nat)]? = some (.code ym_Ta_takeNumber.1 ym_Ta_takeNumber.2.1 ym_Ta_takeNumber.2.2.1 ym_Ta_takeNumber.2.2.2.1) := by exact rfl
set_option maxRecDepth 100000 in
theorem yc_Ta_takeWord : lw_tbl[(494 : Nat)]? = some (.code ym_Ta_takeWord.1 ym_Ta_takeWord.2.1 ym_Ta_takeWord.2.2.1 ym_Ta_takeWord.2.2.2.1) := by exact rfl
set_option maxRecDepth 100000 in
theorem yc_Ta_takeSign : lw_tbl[(543 : Nat)]? = some (.code ym_Ta_takeSign.1 ym_Ta_takeSign.2.1 ym_Ta_takeSign.2.2.1 ym_Ta_takeSign.2.2.2.1) := by exact rfl
set_option maxRecDepth 100000 in
theorem yc_Ta_takesLine : lw_tbl[(410 : Nat)]? = some (.code ym_Ta_takesLine.1 ym_Ta_takesLine.2.1 ym_Ta_takesLine.2.2.1 ym_Ta_takesLine.2.2.2.1) := by exact rfl
set_option maxRecDepth 100000 in
theorem yc_Ta_wordKind : lw_tbl[(414 : Nat)]? = some (.code ym_Ta_wordKind.1 ym_Ta_wordKind.2.1 ym_Ta_wordKind.2.2.1 ym_Ta_wordKind.2.2.2.1) := by exact rfl
set_option maxRecDepth 100000 in
theorem yc_Ta_isOneTooMany : lw_tbl[(481 : Nat)]? = some (.code ym_Ta_isOneTooMany.1 ym_Ta_isOneTooMany.2.1 ym_Ta_isOneTooMany.2.2.1 ym_Ta_isOneTooMany.2.2.2.1) := by exact rfl
set_option maxRecDepth 100000 in
theorem yc_Ta_takeNumbers : lw_tbl[(485 : Nat)]? = some (.code ym_Ta_takeNumbers.1 ym_Ta_takeNumbers.2.1 ym_Ta_takeNumbers.2.2.1 ym_Ta_takeNumbers.2.2.2.1) := by exact rfl
set_option maxRecDepth 100000 in
theorem yc_Ta_takeStore : lw_tbl[(489 : Nat)]? = some (.code ym_Ta_takeStore.1 ym_Ta_takeStore.2.1 ym_Ta_takeStore.2.2.1 ym_Ta_takeStore.2.2.2.1) := by exact rfl
set_option maxRecDepth 100000 in
theorem yc_Ta_takePair : lw_tbl[(504 : Nat)]? = some (.code ym_Ta_takePair.1 ym_Ta_takePair.2.1 ym_Ta_takePair.2.2.1 ym_Ta_takePair.2.2.2.1) := by exact rfl
set_option maxRecDepth 100000 in
theorem yc_Ta_takeDeed : lw_tbl[(516 : Nat)]? = some (.code ym_Ta_takeDeed.1 ym_Ta_takeDeed.2.1 ym_Ta_takeDeed.2.2.1 ym_Ta_takeDeed.2.2.2.1) := by exact rfl
set_option maxRecDepth 100000 in
theorem yc_X_init : lw_tbl[(127 : Nat)]? = some (.code ym_X_init.1 ym_X_init.2.1 ym_X_init.2.2.1 ym_X_init.2.2.2.1) := by exact rfl
set_option maxRecDepth 100000 in
theorem yc_X_feed : lw_tbl[(354 : Nat)]? = some (.code ym_X_feed.1 ym_X_feed.2.1 ym_X_feed.2.2.1 ym_X_feed.2.2.2.1) := by exact rfl
set_option maxRecDepth 100000 in
theorem yc_X_end : lw_tbl[(362 : Nat)]? = some (.code ym_X_end.1 ym_X_end.2.1 ym_X_end.2.2.1 ym_X_end.2.2.2.1) := by exact rfl
set_option maxRecDepth 100000 in
theorem yc_X_store : lw_tbl[(366 : Nat)]? = some (.code ym_X_store.1 ym_X_store.2.1 ym_X_store.2.2.1 ym_X_store.2.2.2.1) := by exact rfl
set_option maxRecDepth 100000 in
theorem yc_X_fault : lw_tbl[(655 : Nat)]? = some (.code ym_X_fault.1 ym_X_fault.2.1 ym_X_fault.2.2.1 ym_X_fault.2.2.2.1) := by exact rfl
set_option maxRecDepth 100000 in
theorem yc_X_count : lw_tbl[(659 : Nat)]? = some (.code ym_X_count.1 ym_X_count.2.1 ym_X_count.2.2.1 ym_X_count.2.2.2.1) := by exact rfl
set_option maxRecDepth 100000 in
theorem yc_X_isThere : lw_tbl[(784 : Nat)]? = some (.code ym_X_isThere.1 ym_X_isThere.2.1 ym_X_isThere.2.2.1 ym_X_isThere.2.2.2.1) := by exact rfl
set_option maxRecDepth 100000 in
theorem yc_X_hasVersion : lw_tbl[(682 : Nat)]? = some (.code ym_X_hasVersion.1 ym_X_hasVersion.2.1 ym_X_hasVersion.2.2.1 ym_X_hasVersion.2.2.2.1) := by exact rfl
set_option maxRecDepth 100000 in
theorem yc_X_hasVersions : lw_tbl[(694 : Nat)]? = some (.code ym_X_hasVersions.1 ym_X_hasVersions.2.1 ym_X_hasVersions.2.2.1 ym_X_hasVersions.2.2.2.1) := by exact rfl
set_option maxRecDepth 100000 in
theorem yc_X_hasSpot : lw_tbl[(671 : Nat)]? = some (.code ym_X_hasSpot.1 ym_X_hasSpot.2.1 ym_X_hasSpot.2.2.1 ym_X_hasSpot.2.2.2.1) := by exact rfl
set_option maxRecDepth 100000 in
theorem yc_X_cell : lw_tbl[(667 : Nat)]? = some (.code ym_X_cell.1 ym_X_cell.2.1 ym_X_cell.2.2.1 ym_X_cell.2.2.2.1) := by exact rfl
set_option maxRecDepth 100000 in
theorem yc_X_version : lw_tbl[(678 : Nat)]? = some (.code ym_X_version.1 ym_X_version.2.1 ym_X_version.2.2.1 ym_X_version.2.2.2.1) := by exact rfl
set_option maxRecDepth 100000 in
theorem yc_X_unlike : lw_tbl[(690 : Nat)]? = some (.code ym_X_unlike.1 ym_X_unlike.2.1 ym_X_unlike.2.2.1 ym_X_unlike.2.2.2.1) := by exact rfl
set_option maxRecDepth 100000 in
theorem yc_X_first : lw_tbl[(703 : Nat)]? = some (.code ym_X_first.1 ym_X_first.2.1 ym_X_first.2.2.1 ym_X_first.2.2.2.1) := by exact rfl
set_option maxRecDepth 100000 in
theorem yc_X_meet : lw_tbl[(711 : Nat)]? = some (.code ym_X_meet.1 ym_X_meet.2.1 ym_X_meet.2.2.1 ym_X_meet.2.2.2.1) := by exact rfl
set_option maxRecDepth 100000 in
theorem yc_X_apart : lw_tbl[(716 : Nat)]? = some (.code ym_X_apart.1 ym_X_apart.2.1 ym_X_apart.2.2.1 ym_X_apart.2.2.2.1) := by exact rfl
set_option maxRecDepth 100000 in
theorem yc_X_root : lw_tbl[(724 : Nat)]? = some (.code ym_X_root.1 ym_X_root.2.1 ym_X_root.2.2.1 ym_X_root.2.2.2.1) := by exact rfl
set_option maxRecDepth 100000 in
theorem yc_X_roots : lw_tbl[(729 : Nat)]? = some (.code ym_X_roots.1 ym_X_roots.2.1 ym_X_roots.2.2.1 ym_X_roots.2.2.2.1) := by exact rfl
set_option maxRecDepth 100000 in
theorem yc_X_together : lw_tbl[(743 : Nat)]? = some (.code ym_X_together.1 ym_X_together.2.1 ym_X_together.2.2.1 ym_X_together.2.2.2.1) := by exact rfl
set_option maxRecDepth 100000 in
theorem yc_X_blame : lw_tbl[(751 : Nat)]? = some (.code ym_X_blame.1 ym_X_blame.2.1 ym_X_blame.2.2.1 ym_X_blame.2.2.2.1) := by exact rfl
set_option maxRecDepth 100000 in
theorem yc_X_often : lw_tbl[(759 : Nat)]? = some (.code ym_X_often.1 ym_X_often.2.1 ym_X_often.2.2.1 ym_X_often.2.2.2.1) := by exact rfl
set_option maxRecDepth 100000 in
theorem yc_X_state : lw_tbl[(767 : Nat)]? = some (.code ym_X_state.1 ym_X_state.2.1 ym_X_state.2.2.1 ym_X_state.2.2.2.1) := by exact rfl
set_option maxRecDepth 100000 in
theorem yc_X_length : lw_tbl[(775 : Nat)]? = some (.code ym_X_length.1 ym_X_length.2.1 ym_X_length.2.2.1 ym_X_length.2.2.2.1) := by exact rfl
set_option maxRecDepth 100000 in
theorem yc_X_longest : lw_tbl[(780 : Nat)]? = some (.code ym_X_longest.1 ym_X_longest.2.1 ym_X_longest.2.2.1 ym_X_longest.2.2.2.1) := by exact rfl
set_option maxRecDepth 100000 in
theorem yc_X_direct : lw_tbl[(792 : Nat)]? = some (.code ym_X_direct.1 ym_X_direct.2.1 ym_X_direct.2.2.1 ym_X_direct.2.2.2.1) := by exact rfl
set_option maxRecDepth 100000 in
theorem yc_X_ways : lw_tbl[(800 : Nat)]? = some (.code ym_X_ways.1 ym_X_ways.2.1 ym_X_ways.2.2.1 ym_X_ways.2.2.2.1) := by exact rfl
set_option maxRecDepth 100000 in
theorem yc_X_snapping : lw_tbl[(808 : Nat)]? = some (.code ym_X_snapping.1 ym_X_snapping.2.1 ym_X_snapping.2.2.1 ym_X_snapping.2.2.2.1) := by exact rfl
set_option maxRecDepth 100000 in
theorem yc_X_snap : lw_tbl[(817 : Nat)]? = some (.code ym_X_snap.1 ym_X_snap.2.1 ym_X_snap.2.2.1 ym_X_snap.2.2.2.1) := by exact rfl
set_option maxRecDepth 100000 in
theorem yc_X_busiest : lw_tbl[(821 : Nat)]? = some (.code ym_X_busiest.1 ym_X_busiest.2.1 ym_X_busiest.2.2.1 ym_X_busiest.2.2.2.1) := by exact rfl
set_option maxRecDepth 100000 in
theorem yc_X_hasAllOf : lw_tbl[(841 : Nat)]? = some (.code ym_X_hasAllOf.1 ym_X_hasAllOf.2.1 ym_X_hasAllOf.2.2.1 ym_X_hasAllOf.2.2.2.1) := by exact rfl
set_option maxRecDepth 100000 in
theorem yc_X_keeps : lw_tbl[(837 : Nat)]? = some (.code ym_X_keeps.1 ym_X_keeps.2.1 ym_X_keeps.2.2.1 ym_X_keeps.2.2.2.1) := by exact rfl
set_option maxRecDepth 100000 in
theorem yc_X_room : lw_tbl[(850 : Nat)]? = some (.code ym_X_room.1 ym_X_room.2.1 ym_X_room.2.2.1 ym_X_room.2.2.2.1) := by exact rfl
set_option maxRecDepth 100000 in
theorem yc_X_ledger : lw_tbl[(858 : Nat)]? = some (.code ym_X_ledger.1 ym_X_ledger.2.1 ym_X_ledger.2.2.1 ym_X_ledger.2.2.2.1) := by exact rfl
set_option maxRecDepth 100000 in
theorem yc_X_spent : lw_tbl[(862 : Nat)]? = some (.code ym_X_spent.1 ym_X_spent.2.1 ym_X_spent.2.2.1 ym_X_spent.2.2.2.1) := by exact rfl
set_option maxRecDepth 100000 in
theorem yc_X_dearest : lw_tbl[(870 : Nat)]? = some (.code ym_X_dearest.1 ym_X_dearest.2.1 ym_X_dearest.2.2.1 ym_X_dearest.2.2.2.1) := by exact rfl
set_option maxRecDepth 100000 in
theorem yc_X_cost : lw_tbl[(878 : Nat)]? = some (.code ym_X_cost.1 ym_X_cost.2.1 ym_X_cost.2.2.1 ym_X_cost.2.2.2.1) := by exact rfl
set_option maxRecDepth 100000 in
theorem yc_X_by : lw_tbl[(886 : Nat)]? = some (.code ym_X_by.1 ym_X_by.2.1 ym_X_by.2.2.1 ym_X_by.2.2.2.1) := by exact rfl
set_option maxRecDepth 100000 in
theorem yc_X_cutting : lw_tbl[(894 : Nat)]? = some (.code ym_X_cutting.1 ym_X_cutting.2.1 ym_X_cutting.2.2.1 ym_X_cutting.2.2.2.1) := by exact rfl
set_option maxRecDepth 100000 in
theorem yc_X_cut : lw_tbl[(898 : Nat)]? = some (.code ym_X_cut.1 ym_X_cut.2.1 ym_X_cut.2.2.1 ym_X_cut.2.2.2.1) := by exact rfl
set_option maxRecDepth 100000 in
theorem yc_X_without : lw_tbl[(902 : Nat)]? = some (.code ym_X_without.1 ym_X_without.2.1 ym_X_without.2.2.1 ym_X_without.2.2.2.1) := by exact rfl
set_option maxRecDepth 100000 in
theorem yc_X_hasActLeft : lw_tbl[(915 : Nat)]? = some (.code ym_X_hasActLeft.1 ym_X_hasActLeft.2.1 ym_X_hasActLeft.2.2.1 ym_X_hasActLeft.2.2.2.1) := by exact rfl
set_option maxRecDepth 100000 in
theorem yc_X_hasRoomFor : lw_tbl[(924 : Nat)]? = some (.code ym_X_hasRoomFor.1 ym_X_hasRoomFor.2.1 ym_X_hasRoomFor.2.2.1 ym_X_hasRoomFor.2.2.2.1) := by exact rfl
set_option maxRecDepth 100000 in
theorem yc_X_reads : lw_tbl[(911 : Nat)]? = some (.code ym_X_reads.1 ym_X_reads.2.1 ym_X_reads.2.2.1 ym_X_reads.2.2.2.1) := by exact rfl
set_option maxRecDepth 100000 in
theorem yc_X_sets : lw_tbl[(920 : Nat)]? = some (.code ym_X_sets.1 ym_X_sets.2.1 ym_X_sets.2.2.1 ym_X_sets.2.2.2.1) := by exact rfl
set_option maxRecDepth 100000 in
theorem yc_X_joins : lw_tbl[(928 : Nat)]? = some (.code ym_X_joins.1 ym_X_joins.2.1 ym_X_joins.2.2.1 ym_X_joins.2.2.2.1) := by exact rfl
set_option maxRecDepth 100000 in
theorem yc_X_finds : lw_tbl[(933 : Nat)]? = some (.code ym_X_finds.1 ym_X_finds.2.1 ym_X_finds.2.2.1 ym_X_finds.2.2.2.1) := by exact rfl
set_option maxRecDepth 100000 in
theorem yc_X_snaps : lw_tbl[(937 : Nat)]? = some (.code ym_X_snaps.1 ym_X_snaps.2.1 ym_X_snaps.2.2.1 ym_X_snaps.2.2.2.1) := by exact rfl
set_option maxRecDepth 100000 in
theorem yc_X_merging : lw_tbl[(942 : Nat)]? = some (.code ym_X_merging.1 ym_X_merging.2.1 ym_X_merging.2.2.1 ym_X_merging.2.2.2.1) := by exact rfl
set_option maxRecDepth 100000 in
theorem yc_X_merged : lw_tbl[(951 : Nat)]? = some (.code ym_X_merged.1 ym_X_merged.2.1 ym_X_merged.2.2.1 ym_X_merged.2.2.2.1) := by exact rfl
set_option maxRecDepth 100000 in
theorem yc_X_merges : lw_tbl[(956 : Nat)]? = some (.code ym_X_merges.1 ym_X_merges.2.1 ym_X_merges.2.2.1 ym_X_merges.2.2.2.1) := by exact rfl
set_option maxRecDepth 100000 in
theorem yc_X_patching : lw_tbl[(961 : Nat)]? = some (.code ym_X_patching.1 ym_X_patching.2.1 ym_X_patching.2.2.1 ym_X_patching.2.2.2.1) := by exact rfl
set_option maxRecDepth 100000 in
theorem yc_X_patches : lw_tbl[(966 : Nat)]? = some (.code ym_X_patches.1 ym_X_patches.2.1 ym_X_patches.2.2.1 ym_X_patches.2.2.2.1) := by exact rfl
set_option maxRecDepth 100000 in
theorem yc_X_mayColour : lw_tbl[(975 : Nat)]? = some (.code ym_X_mayColour.1 ym_X_mayColour.2.1 ym_X_mayColour.2.2.1 ym_X_mayColour.2.2.2.1) := by exact rfl
set_option maxRecDepth 100000 in
theorem yc_X_search : lw_tbl[(971 : Nat)]? = some (.code ym_X_search.1 ym_X_search.2.1 ym_X_search.2.2.1 ym_X_search.2.2.2.1) := by exact rfl
set_option maxRecDepth 100000 in
theorem yc_X_searchBy : lw_tbl[(1017 : Nat)]? = some (.code ym_X_searchBy.1 ym_X_searchBy.2.1 ym_X_searchBy.2.2.1 ym_X_searchBy.2.2.2.1) := by exact rfl
set_option maxRecDepth 100000 in
theorem yc_X_colour : lw_tbl[(1021 : Nat)]? = some (.code ym_X_colour.1 ym_X_colour.2.1 ym_X_colour.2.2.1 ym_X_colour.2.2.2.1) := by exact rfl
set_option maxRecDepth 100000 in
theorem yc_X_colours : lw_tbl[(1030 : Nat)]? = some (.code ym_X_colours.1 ym_X_colours.2.1 ym_X_colours.2.2.1 ym_X_colours.2.2.2.1) := by exact rfl
set_option maxRecDepth 100000 in
theorem yc_X_forward : lw_tbl[(1034 : Nat)]? = some (.code ym_X_forward.1 ym_X_forward.2.1 ym_X_forward.2.2.1 ym_X_forward.2.2.2.1) := by exact rfl
set_option maxRecDepth 100000 in
theorem yc_X_forwardBy : lw_tbl[(1060 : Nat)]? = some (.code ym_X_forwardBy.1 ym_X_forwardBy.2.1 ym_X_forwardBy.2.2.1 ym_X_forwardBy.2.2.2.1) := by exact rfl
set_option maxRecDepth 100000 in
theorem yc_X_hue : lw_tbl[(1064 : Nat)]? = some (.code ym_X_hue.1 ym_X_hue.2.1 ym_X_hue.2.2.1 ym_X_hue.2.2.2.1) := by exact rfl
set_option maxRecDepth 100000 in
theorem yc_X_imageAt : lw_tbl[(1076 : Nat)]? = some (.code ym_X_imageAt.1 ym_X_imageAt.2.1 ym_X_imageAt.2.2.1 ym_X_imageAt.2.2.2.1) := by exact rfl
set_option maxRecDepth 100000 in
theorem yc_X_image : lw_tbl[(1072 : Nat)]? = some (.code ym_X_image.1 ym_X_image.2.1 ym_X_image.2.2.1 ym_X_image.2.2.2.1) := by exact rfl
set_option maxRecDepth 100000 in
theorem yc_X_back : lw_tbl[(1092 : Nat)]? = some (.code ym_X_back.1 ym_X_back.2.1 ym_X_back.2.2.1 ym_X_back.2.2.2.1) := by exact rfl
set_option maxRecDepth 100000 in
theorem yc_X_undo : lw_tbl[(1096 : Nat)]? = some (.code ym_X_undo.1 ym_X_undo.2.1 ym_X_undo.2.2.1 ym_X_undo.2.2.2.1) := by exact rfl
set_option maxRecDepth 100000 in
theorem yc_X_anew : lw_tbl[(1106 : Nat)]? = some (.code ym_X_anew.1 ym_X_anew.2.1 ym_X_anew.2.2.1 ym_X_anew.2.2.2.1) := by exact rfl
set_option maxRecDepth 100000 in
theorem yc_Mo_in : lw_tbl[(1239 : Nat)]? = some (.code ym_Mo_in.1 ym_Mo_in.2.1 ym_Mo_in.2.2.1 ym_Mo_in.2.2.2.1) := by exact rfl
set_option maxRecDepth 100000 in
theorem yc_Mo_has : lw_tbl[(1299 : Nat)]? = some (.code ym_Mo_has.1 ym_Mo_has.2.1 ym_Mo_has.2.2.1 ym_Mo_has.2.2.2.1) := by exact rfl
set_option maxRecDepth 100000 in
theorem yc_Mo_bitsOf : lw_tbl[(1481 : Nat)]? = some (.code ym_Mo_bitsOf.1 ym_Mo_bitsOf.2.1 ym_Mo_bitsOf.2.2.1 ym_Mo_bitsOf.2.2.2.1) := by exact rfl
set_option maxRecDepth 100000 in
theorem yc_Mo_init : lw_tbl[(1111 : Nat)]? = some (.code ym_Mo_init.1 ym_Mo_init.2.1 ym_Mo_init.2.2.1 ym_Mo_init.2.2.2.1) := by exact rfl
set_option maxRecDepth 100000 in
theorem yc_Mo_feed : lw_tbl[(1232 : Nat)]? = some (.code ym_Mo_feed.1 ym_Mo_feed.2.1 ym_Mo_feed.2.2.1 ym_Mo_feed.2.2.2.1) := by exact rfl
set_option maxRecDepth 100000 in
theorem yc_Mo_end : lw_tbl[(1236 : Nat)]? = some (.code ym_Mo_end.1 ym_Mo_end.2.1 ym_Mo_end.2.2.1 ym_Mo_end.2.2.2.1) := by exact rfl
set_option maxRecDepth 100000 in
theorem yc_Mo_at : lw_tbl[(1348 : Nat)]? = some (.code ym_Mo_at.1 ym_Mo_at.2.1 ym_Mo_at.2.2.1 ym_Mo_at.2.2.2.1) := by exact rfl
set_option maxRecDepth 100000 in
theorem yc_Mo_begins : lw_tbl[(1328 : Nat)]? = some (.code ym_Mo_begins.1 ym_Mo_begins.2.1 ym_Mo_begins.2.2.1 ym_Mo_begins.2.2.2.1) := by exact rfl
set_option maxRecDepth 100000 in
theorem yc_Mo_straight : lw_tbl[(1332 : Nat)]? = some (.code ym_Mo_straight.1 ym_Mo_straight.2.1 ym_Mo_straight.2.2.1 ym_Mo_straight.2.2.2.1) := by exact rfl
set_option maxRecDepth 100000 in
theorem yc_Mo_links : lw_tbl[(1352 : Nat)]? = some (.code ym_Mo_links.1 ym_Mo_links.2.1 ym_Mo_links.2.2.1 ym_Mo_links.2.2.2.1) := by exact rfl
set_option maxRecDepth 100000 in
theorem yc_Mo_lengthOf : lw_tbl[(1360 : Nat)]? = some (.code ym_Mo_lengthOf.1 ym_Mo_lengthOf.2.1 ym_Mo_lengthOf.2.2.1 ym_Mo_lengthOf.2.2.2.1) := by exact rfl
set_option maxRecDepth 100000 in
theorem yc_Mo_turns : lw_tbl[(1368 : Nat)]? = some (.code ym_Mo_turns.1 ym_Mo_turns.2.1 ym_Mo_turns.2.2.1 ym_Mo_turns.2.2.2.1) := by exact rfl
set_option maxRecDepth 100000 in
theorem yc_Mo_snap : lw_tbl[(1364 : Nat)]? = some (.code ym_Mo_snap.1 ym_Mo_snap.2.1 ym_Mo_snap.2.2.1 ym_Mo_snap.2.2.2.1) := by exact rfl
set_option maxRecDepth 100000 in
theorem yc_Mo_reach : lw_tbl[(1356 : Nat)]? = some (.code ym_Mo_reach.1 ym_Mo_reach.2.1 ym_Mo_reach.2.2.1 ym_Mo_reach.2.2.2.1) := by exact rfl
set_option maxRecDepth 100000 in
theorem yc_Mo_along : lw_tbl[(1384 : Nat)]? = some (.code ym_Mo_along.1 ym_Mo_along.2.1 ym_Mo_along.2.2.1 ym_Mo_along.2.2.2.1) := by exact rfl
set_option maxRecDepth 100000 in
theorem yc_Mo_read : lw_tbl[(1380 : Nat)]? = some (.code ym_Mo_read.1 ym_Mo_read.2.1 ym_Mo_read.2.2.1 ym_Mo_read.2.2.2.1) := by exact rfl
set_option maxRecDepth 100000 in
theorem yc_Mo_set : lw_tbl[(1344 : Nat)]? = some (.code ym_Mo_set.1 ym_Mo_set.2.1 ym_Mo_set.2.2.1 ym_Mo_set.2.2.2.1) := by exact rfl
set_option maxRecDepth 100000 in
theorem yc_Mo_rootOf : lw_tbl[(1413 : Nat)]? = some (.code ym_Mo_rootOf.1 ym_Mo_rootOf.2.1 ym_Mo_rootOf.2.2.1 ym_Mo_rootOf.2.2.2.1) := by exact rfl
set_option maxRecDepth 100000 in
theorem yc_Mo_find : lw_tbl[(1376 : Nat)]? = some (.code ym_Mo_find.1 ym_Mo_find.2.1 ym_Mo_find.2.2.1 ym_Mo_find.2.2.2.1) := by exact rfl
set_option maxRecDepth 100000 in
theorem yc_Mo_join : lw_tbl[(1372 : Nat)]? = some (.code ym_Mo_join.1 ym_Mo_join.2.1 ym_Mo_join.2.2.1 ym_Mo_join.2.2.2.1) := by exact rfl
set_option maxRecDepth 100000 in
theorem yc_Mo_meetOf : lw_tbl[(1401 : Nat)]? = some (.code ym_Mo_meetOf.1 ym_Mo_meetOf.2.1 ym_Mo_meetOf.2.2.1 ym_Mo_meetOf.2.2.2.1) := by exact rfl
set_option maxRecDepth 100000 in
theorem yc_Mo_isConflict : lw_tbl[(1397 : Nat)]? = some (.code ym_Mo_isConflict.1 ym_Mo_isConflict.2.1 ym_Mo_isConflict.2.2.1 ym_Mo_isConflict.2.2.2.1) := by exact rfl
set_option maxRecDepth 100000 in
theorem yc_Mo_mergedOf : lw_tbl[(1393 : Nat)]? = some (.code ym_Mo_mergedOf.1 ym_Mo_mergedOf.2.1 ym_Mo_mergedOf.2.2.1 ym_Mo_mergedOf.2.2.2.1) := by exact rfl
set_option maxRecDepth 100000 in
theorem yc_Mo_mergeMany : lw_tbl[(1572 : Nat)]? = some (.code ym_Mo_mergeMany.1 ym_Mo_mergeMany.2.1 ym_Mo_mergeMany.2.2.1 ym_Mo_mergeMany.2.2.2.1) := by exact rfl
set_option maxRecDepth 100000 in
theorem yc_Mo_merge : lw_tbl[(1389 : Nat)]? = some (.code ym_Mo_merge.1 ym_Mo_merge.2.1 ym_Mo_merge.2.2.1 ym_Mo_merge.2.2.2.1) := by exact rfl
set_option maxRecDepth 100000 in
theorem yc_Mo_isPatched : lw_tbl[(1409 : Nat)]? = some (.code ym_Mo_isPatched.1 ym_Mo_isPatched.2.1 ym_Mo_isPatched.2.2.1 ym_Mo_isPatched.2.2.2.1) := by exact rfl
set_option maxRecDepth 100000 in
theorem yc_Mo_patchMany : lw_tbl[(1584 : Nat)]? = some (.code ym_Mo_patchMany.1 ym_Mo_patchMany.2.1 ym_Mo_patchMany.2.2.1 ym_Mo_patchMany.2.2.2.1) := by exact rfl
set_option maxRecDepth 100000 in
theorem yc_Mo_patch : lw_tbl[(1405 : Nat)]? = some (.code ym_Mo_patch.1 ym_Mo_patch.2.1 ym_Mo_patch.2.2.1 ym_Mo_patch.2.2.2.1) := by exact rfl
set_option maxRecDepth 100000 in
theorem yc_Mo_deed : lw_tbl[(1340 : Nat)]? = some (.code ym_Mo_deed.1 ym_Mo_deed.2.1 ym_Mo_deed.2.2.1 ym_Mo_deed.2.2.2.1) := by exact rfl
set_option maxRecDepth 100000 in
theorem yc_Mo_does : lw_tbl[(1336 : Nat)]? = some (.code ym_Mo_does.1 ym_Mo_does.2.1 ym_Mo_does.2.2.1 ym_Mo_does.2.2.2.1) := by exact rfl
set_option maxRecDepth 100000 in
theorem yc_Mo_plays : lw_tbl[(1324 : Nat)]? = some (.code ym_Mo_plays.1 ym_Mo_plays.2.1 ym_Mo_plays.2.2.1 ym_Mo_plays.2.2.2.1) := by exact rfl
set_option maxRecDepth 100000 in
theorem yc_Mo_plays2 : lw_tbl[(1320 : Nat)]? = some (.code ym_Mo_plays2.1 ym_Mo_plays2.2.1 ym_Mo_plays2.2.2.1 ym_Mo_plays2.2.2.2.1) := by exact rfl
set_option maxRecDepth 100000 in
theorem yc_Mo_isAt : lw_tbl[(1251 : Nat)]? = some (.code ym_Mo_isAt.1 ym_Mo_isAt.2.1 ym_Mo_isAt.2.2.1 ym_Mo_isAt.2.2.2.1) := by exact rfl
set_option maxRecDepth 100000 in
theorem yc_Mo_next : lw_tbl[(1247 : Nat)]? = some (.code ym_Mo_next.1 ym_Mo_next.2.1 ym_Mo_next.2.2.1 ym_Mo_next.2.2.2.1) := by exact rfl
set_option maxRecDepth 100000 in
theorem yc_Mo_faults : lw_tbl[(1272 : Nat)]? = some (.code ym_Mo_faults.1 ym_Mo_faults.2.1 ym_Mo_faults.2.2.1 ym_Mo_faults.2.2.2.1) := by exact rfl
set_option maxRecDepth 100000 in
theorem yc_Mo_isWord : lw_tbl[(1262 : Nat)]? = some (.code ym_Mo_isWord.1 ym_Mo_isWord.2.1 ym_Mo_isWord.2.2.1 ym_Mo_isWord.2.2.2.1) := by exact rfl
set_option maxRecDepth 100000 in
theorem yc_Mo_passes : lw_tbl[(1268 : Nat)]? = some (.code ym_Mo_passes.1 ym_Mo_passes.2.1 ym_Mo_passes.2.2.1 ym_Mo_passes.2.2.2.1) := by exact rfl
set_option maxRecDepth 100000 in
theorem yc_Mo_number : lw_tbl[(1281 : Nat)]? = some (.code ym_Mo_number.1 ym_Mo_number.2.1 ym_Mo_number.2.2.1 ym_Mo_number.2.2.2.1) := by exact rfl
set_option maxRecDepth 100000 in
theorem yc_Mo_needs : lw_tbl[(1303 : Nat)]? = some (.code ym_Mo_needs.1 ym_Mo_needs.2.1 ym_Mo_needs.2.2.1 ym_Mo_needs.2.2.2.1) := by exact rfl
set_option maxRecDepth 100000 in
theorem yc_Mo_named : lw_tbl[(1277 : Nat)]? = some (.code ym_Mo_named.1 ym_Mo_named.2.1 ym_Mo_named.2.2.1 ym_Mo_named.2.2.2.1) := by exact rfl
set_option maxRecDepth 100000 in
theorem yc_Mo_readsCell : lw_tbl[(1292 : Nat)]? = some (.code ym_Mo_readsCell.1 ym_Mo_readsCell.2.1 ym_Mo_readsCell.2.2.1 ym_Mo_readsCell.2.2.2.1) := by exact rfl
set_option maxRecDepth 100000 in
theorem yc_Mo_isCell : lw_tbl[(1296 : Nat)]? = some (.code ym_Mo_isCell.1 ym_Mo_isCell.2.1 ym_Mo_isCell.2.2.1 ym_Mo_isCell.2.2.2.1) := by exact rfl
set_option maxRecDepth 100000 in
theorem yc_Mo_readsStore : lw_tbl[(1257 : Nat)]? = some (.code ym_Mo_readsStore.1 ym_Mo_readsStore.2.1 ym_Mo_readsStore.2.2.1 ym_Mo_readsStore.2.2.2.1) := by exact rfl
set_option maxRecDepth 100000 in
theorem yc_Mo_readsPair : lw_tbl[(1288 : Nat)]? = some (.code ym_Mo_readsPair.1 ym_Mo_readsPair.2.1 ym_Mo_readsPair.2.2.1 ym_Mo_readsPair.2.2.2.1) := by exact rfl
set_option maxRecDepth 100000 in
theorem yc_Mo_kindHere : lw_tbl[(1307 : Nat)]? = some (.code ym_Mo_kindHere.1 ym_Mo_kindHere.2.1 ym_Mo_kindHere.2.2.1 ym_Mo_kindHere.2.2.2.1) := by exact rfl
set_option maxRecDepth 100000 in
theorem yc_Mo_readsDeed : lw_tbl[(1316 : Nat)]? = some (.code ym_Mo_readsDeed.1 ym_Mo_readsDeed.2.1 ym_Mo_readsDeed.2.2.1 ym_Mo_readsDeed.2.2.2.1) := by exact rfl
set_option maxRecDepth 100000 in
theorem yc_Mo_lays : lw_tbl[(1417 : Nat)]? = some (.code ym_Mo_lays.1 ym_Mo_lays.2.1 ym_Mo_lays.2.2.1 ym_Mo_lays.2.2.2.1) := by exact rfl
set_option maxRecDepth 100000 in
theorem yc_Mo_store : lw_tbl[(1243 : Nat)]? = some (.code ym_Mo_store.1 ym_Mo_store.2.1 ym_Mo_store.2.2.1 ym_Mo_store.2.2.2.1) := by exact rfl
set_option maxRecDepth 100000 in
theorem yc_Mo_fault : lw_tbl[(1421 : Nat)]? = some (.code ym_Mo_fault.1 ym_Mo_fault.2.1 ym_Mo_fault.2.2.1 ym_Mo_fault.2.2.2.1) := by exact rfl
set_option maxRecDepth 100000 in
theorem yc_Mo_is : lw_tbl[(1429 : Nat)]? = some (.code ym_Mo_is.1 ym_Mo_is.2.1 ym_Mo_is.2.2.1 ym_Mo_is.2.2.2.1) := by exact rfl
set_option maxRecDepth 100000 in
theorem yc_Mo_isVersion : lw_tbl[(1437 : Nat)]? = some (.code ym_Mo_isVersion.1 ym_Mo_isVersion.2.1 ym_Mo_isVersion.2.2.1 ym_Mo_isVersion.2.2.2.1) := by exact rfl
set_option maxRecDepth 100000 in
theorem yc_Mo_count : lw_tbl[(1425 : Nat)]? = some (.code ym_Mo_count.1 ym_Mo_count.2.1 ym_Mo_count.2.2.1 ym_Mo_count.2.2.2.1) := by exact rfl
set_option maxRecDepth 100000 in
theorem yc_Mo_cell : lw_tbl[(1433 : Nat)]? = some (.code ym_Mo_cell.1 ym_Mo_cell.2.1 ym_Mo_cell.2.2.1 ym_Mo_cell.2.2.2.1) := by exact rfl
set_option maxRecDepth 100000 in
theorem yc_Mo_version : lw_tbl[(1441 : Nat)]? = some (.code ym_Mo_version.1 ym_Mo_version.2.1 ym_Mo_version.2.2.1 ym_Mo_version.2.2.2.1) := by exact rfl
set_option maxRecDepth 100000 in
theorem yc_Mo_unlikeOf : lw_tbl[(1454 : Nat)]? = some (.code ym_Mo_unlikeOf.1 ym_Mo_unlikeOf.2.1 ym_Mo_unlikeOf.2.2.1 ym_Mo_unlikeOf.2.2.2.1) := by exact rfl
set_option maxRecDepth 100000 in
theorem yc_Mo_areVersions : lw_tbl[(1450 : Nat)]? = some (.code ym_Mo_areVersions.1 ym_Mo_areVersions.2.1 ym_Mo_areVersions.2.2.1 ym_Mo_areVersions.2.2.2.1) := by exact rfl
set_option maxRecDepth 100000 in
theorem yc_Mo_unlike : lw_tbl[(1446 : Nat)]? = some (.code ym_Mo_unlike.1 ym_Mo_unlike.2.1 ym_Mo_unlike.2.2.1 ym_Mo_unlike.2.2.2.1) := by exact rfl
set_option maxRecDepth 100000 in
theorem yc_Mo_first : lw_tbl[(1458 : Nat)]? = some (.code ym_Mo_first.1 ym_Mo_first.2.1 ym_Mo_first.2.2.1 ym_Mo_first.2.2.2.1) := by exact rfl
set_option maxRecDepth 100000 in
theorem yc_Mo_backTo : lw_tbl[(1470 : Nat)]? = some (.code ym_Mo_backTo.1 ym_Mo_backTo.2.1 ym_Mo_backTo.2.2.1 ym_Mo_backTo.2.2.2.1) := by exact rfl
set_option maxRecDepth 100000 in
theorem yc_Mo_meet : lw_tbl[(1462 : Nat)]? = some (.code ym_Mo_meet.1 ym_Mo_meet.2.1 ym_Mo_meet.2.2.1 ym_Mo_meet.2.2.2.1) := by exact rfl
set_option maxRecDepth 100000 in
theorem yc_Mo_apart : lw_tbl[(1466 : Nat)]? = some (.code ym_Mo_apart.1 ym_Mo_apart.2.1 ym_Mo_apart.2.2.1 ym_Mo_apart.2.2.2.1) := by exact rfl
set_option maxRecDepth 100000 in
theorem yc_Mo_root : lw_tbl[(1474 : Nat)]? = some (.code ym_Mo_root.1 ym_Mo_root.2.1 ym_Mo_root.2.2.1 ym_Mo_root.2.2.2.1) := by exact rfl
set_option maxRecDepth 100000 in
theorem yc_Mo_roots : lw_tbl[(1478 : Nat)]? = some (.code ym_Mo_roots.1 ym_Mo_roots.2.1 ym_Mo_roots.2.2.1 ym_Mo_roots.2.2.2.1) := by exact rfl
set_option maxRecDepth 100000 in
theorem yc_Mo_together : lw_tbl[(1485 : Nat)]? = some (.code ym_Mo_together.1 ym_Mo_together.2.1 ym_Mo_together.2.2.1 ym_Mo_together.2.2.2.1) := by exact rfl
set_option maxRecDepth 100000 in
theorem yc_Mo_state : lw_tbl[(1489 : Nat)]? = some (.code ym_Mo_state.1 ym_Mo_state.2.1 ym_Mo_state.2.2.1 ym_Mo_state.2.2.2.1) := by exact rfl
set_option maxRecDepth 100000 in
theorem yc_Mo_length : lw_tbl[(1494 : Nat)]? = some (.code ym_Mo_length.1 ym_Mo_length.2.1 ym_Mo_length.2.2.1 ym_Mo_length.2.2.2.1) := by exact rfl
set_option maxRecDepth 100000 in
theorem yc_Mo_longest : lw_tbl[(1498 : Nat)]? = some (.code ym_Mo_longest.1 ym_Mo_longest.2.1 ym_Mo_longest.2.2.1 ym_Mo_longest.2.2.2.1) := by exact rfl
set_option maxRecDepth 100000 in
theorem yc_Mo_direct : lw_tbl[(1502 : Nat)]? = some (.code ym_Mo_direct.1 ym_Mo_direct.2.1 ym_Mo_direct.2.2.1 ym_Mo_direct.2.2.2.1) := by exact rfl
set_option maxRecDepth 100000 in
theorem yc_Mo_ledger : lw_tbl[(1506 : Nat)]? = some (.code ym_Mo_ledger.1 ym_Mo_ledger.2.1 ym_Mo_ledger.2.2.1 ym_Mo_ledger.2.2.2.1) := by exact rfl
set_option maxRecDepth 100000 in
theorem yc_Mo_spent : lw_tbl[(1510 : Nat)]? = some (.code ym_Mo_spent.1 ym_Mo_spent.2.1 ym_Mo_spent.2.2.1 ym_Mo_spent.2.2.2.1) := by exact rfl
set_option maxRecDepth 100000 in
theorem yc_Mo_dearest : lw_tbl[(1514 : Nat)]? = some (.code ym_Mo_dearest.1 ym_Mo_dearest.2.1 ym_Mo_dearest.2.2.1 ym_Mo_dearest.2.2.2.1) := by exact rfl
set_option maxRecDepth 100000 in
theorem yc_Mo_cost : lw_tbl[(1518 : Nat)]? = some (.code ym_Mo_cost.1 ym_Mo_cost.2.1 ym_Mo_cost.2.2.1 ym_Mo_cost.2.2.2.1) := by exact rfl
set_option maxRecDepth 100000 in
theorem yc_Mo_by : lw_tbl[(1522 : Nat)]? = some (.code ym_Mo_by.1 ym_Mo_by.2.1 ym_Mo_by.2.2.1 ym_Mo_by.2.2.2.1) := by exact rfl
set_option maxRecDepth 100000 in
theorem yc_Mo_cutting : lw_tbl[(1526 : Nat)]? = some (.code ym_Mo_cutting.1 ym_Mo_cutting.2.1 ym_Mo_cutting.2.2.1 ym_Mo_cutting.2.2.2.1) := by exact rfl
set_option maxRecDepth 100000 in
theorem yc_Mo_cut : lw_tbl[(1531 : Nat)]? = some (.code ym_Mo_cut.1 ym_Mo_cut.2.1 ym_Mo_cut.2.2.1 ym_Mo_cut.2.2.2.1) := by exact rfl
set_option maxRecDepth 100000 in
theorem yc_Mo_without : lw_tbl[(1535 : Nat)]? = some (.code ym_Mo_without.1 ym_Mo_without.2.1 ym_Mo_without.2.2.1 ym_Mo_without.2.2.2.1) := by exact rfl
set_option maxRecDepth 100000 in
theorem yc_Mo_acts : lw_tbl[(1548 : Nat)]? = some (.code ym_Mo_acts.1 ym_Mo_acts.2.1 ym_Mo_acts.2.2.1 ym_Mo_acts.2.2.2.1) := by exact rfl
set_option maxRecDepth 100000 in
theorem yc_Mo_isFull : lw_tbl[(1544 : Nat)]? = some (.code ym_Mo_isFull.1 ym_Mo_isFull.2.1 ym_Mo_isFull.2.2.1 ym_Mo_isFull.2.2.2.1) := by exact rfl
set_option maxRecDepth 100000 in
theorem yc_Mo_reads : lw_tbl[(1540 : Nat)]? = some (.code ym_Mo_reads.1 ym_Mo_reads.2.1 ym_Mo_reads.2.2.1 ym_Mo_reads.2.2.2.1) := by exact rfl
set_option maxRecDepth 100000 in
theorem yc_Mo_sets : lw_tbl[(1552 : Nat)]? = some (.code ym_Mo_sets.1 ym_Mo_sets.2.1 ym_Mo_sets.2.2.1 ym_Mo_sets.2.2.2.1) := by exact rfl
set_option maxRecDepth 100000 in
theorem yc_Mo_joins : lw_tbl[(1556 : Nat)]? = some (.code ym_Mo_joins.1 ym_Mo_joins.2.1 ym_Mo_joins.2.2.1 ym_Mo_joins.2.2.2.1) := by exact rfl
set_option maxRecDepth 100000 in
theorem yc_Mo_finds : lw_tbl[(1560 : Nat)]? = some (.code ym_Mo_finds.1 ym_Mo_finds.2.1 ym_Mo_finds.2.2.1 ym_Mo_finds.2.2.2.1) := by exact rfl
set_option maxRecDepth 100000 in
theorem yc_Mo_snaps : lw_tbl[(1564 : Nat)]? = some (.code ym_Mo_snaps.1 ym_Mo_snaps.2.1 ym_Mo_snaps.2.2.1 ym_Mo_snaps.2.2.2.1) := by exact rfl
set_option maxRecDepth 100000 in
theorem yc_Mo_merges : lw_tbl[(1568 : Nat)]? = some (.code ym_Mo_merges.1 ym_Mo_merges.2.1 ym_Mo_merges.2.2.1 ym_Mo_merges.2.2.2.1) := by exact rfl
set_option maxRecDepth 100000 in
theorem yc_Mo_areThree : lw_tbl[(1580 : Nat)]? = some (.code ym_Mo_areThree.1 ym_Mo_areThree.2.1 ym_Mo_areThree.2.2.1 ym_Mo_areThree.2.2.2.1) := by exact rfl
set_option maxRecDepth 100000 in
theorem yc_Mo_patches : lw_tbl[(1576 : Nat)]? = some (.code ym_Mo_patches.1 ym_Mo_patches.2.1 ym_Mo_patches.2.2.1 ym_Mo_patches.2.2.2.1) := by exact rfl
set_option maxRecDepth 100000 in
theorem yc_Mo_patching : lw_tbl[(1588 : Nat)]? = some (.code ym_Mo_patching.1 ym_Mo_patching.2.1 ym_Mo_patching.2.2.1 ym_Mo_patching.2.2.2.1) := by exact rfl
set_option maxRecDepth 100000 in
theorem yc_Mo_merging : lw_tbl[(1592 : Nat)]? = some (.code ym_Mo_merging.1 ym_Mo_merging.2.1 ym_Mo_merging.2.2.1 ym_Mo_merging.2.2.2.1) := by exact rfl
set_option maxRecDepth 100000 in
theorem yc_Mo_merged : lw_tbl[(1596 : Nat)]? = some (.code ym_Mo_merged.1 ym_Mo_merged.2.1 ym_Mo_merged.2.2.1 ym_Mo_merged.2.2.2.1) := by exact rfl
set_option maxRecDepth 100000 in
theorem yc_Mo_blame : lw_tbl[(1600 : Nat)]? = some (.code ym_Mo_blame.1 ym_Mo_blame.2.1 ym_Mo_blame.2.2.1 ym_Mo_blame.2.2.2.1) := by exact rfl
set_option maxRecDepth 100000 in
theorem yc_Mo_often : lw_tbl[(1604 : Nat)]? = some (.code ym_Mo_often.1 ym_Mo_often.2.1 ym_Mo_often.2.2.1 ym_Mo_often.2.2.2.1) := by exact rfl
set_option maxRecDepth 100000 in
theorem yc_Mo_isSet : lw_tbl[(1612 : Nat)]? = some (.code ym_Mo_isSet.1 ym_Mo_isSet.2.1 ym_Mo_isSet.2.2.1 ym_Mo_isSet.2.2.2.1) := by exact rfl
set_option maxRecDepth 100000 in
theorem yc_Mo_keptOf : lw_tbl[(1616 : Nat)]? = some (.code ym_Mo_keptOf.1 ym_Mo_keptOf.2.1 ym_Mo_keptOf.2.2.1 ym_Mo_keptOf.2.2.2.1) := by exact rfl
set_option maxRecDepth 100000 in
theorem yc_Mo_keeps : lw_tbl[(1608 : Nat)]? = some (.code ym_Mo_keeps.1 ym_Mo_keeps.2.1 ym_Mo_keeps.2.2.1 ym_Mo_keeps.2.2.2.1) := by exact rfl
set_option maxRecDepth 100000 in
theorem yc_Mo_room : lw_tbl[(1621 : Nat)]? = some (.code ym_Mo_room.1 ym_Mo_room.2.1 ym_Mo_room.2.2.1 ym_Mo_room.2.2.2.1) := by exact rfl
set_option maxRecDepth 100000 in
theorem yc_Mo_busiest : lw_tbl[(1625 : Nat)]? = some (.code ym_Mo_busiest.1 ym_Mo_busiest.2.1 ym_Mo_busiest.2.2.1 ym_Mo_busiest.2.2.2.1) := by exact rfl
set_option maxRecDepth 100000 in
theorem yc_Mo_isOnWay : lw_tbl[(1629 : Nat)]? = some (.code ym_Mo_isOnWay.1 ym_Mo_isOnWay.2.1 ym_Mo_isOnWay.2.2.1 ym_Mo_isOnWay.2.2.2.1) := by exact rfl
set_option maxRecDepth 100000 in
theorem yc_Mo_waysOf : lw_tbl[(1637 : Nat)]? = some (.code ym_Mo_waysOf.1 ym_Mo_waysOf.2.1 ym_Mo_waysOf.2.2.1 ym_Mo_waysOf.2.2.2.1) := by exact rfl
set_option maxRecDepth 100000 in
theorem yc_Mo_ways : lw_tbl[(1633 : Nat)]? = some (.code ym_Mo_ways.1 ym_Mo_ways.2.1 ym_Mo_ways.2.2.1 ym_Mo_ways.2.2.2.1) := by exact rfl
set_option maxRecDepth 100000 in
theorem yc_Mo_snapping : lw_tbl[(1641 : Nat)]? = some (.code ym_Mo_snapping.1 ym_Mo_snapping.2.1 ym_Mo_snapping.2.2.1 ym_Mo_snapping.2.2.2.1) := by exact rfl
set_option maxRecDepth 100000 in
theorem yc_Mo_snap2 : lw_tbl[(1645 : Nat)]? = some (.code ym_Mo_snap2.1 ym_Mo_snap2.2.1 ym_Mo_snap2.2.2.1 ym_Mo_snap2.2.2.2.1) := by exact rfl
set_option maxRecDepth 100000 in
theorem yc_Mo_image : lw_tbl[(1651 : Nat)]? = some (.code ym_Mo_image.1 ym_Mo_image.2.1 ym_Mo_image.2.2.1 ym_Mo_image.2.2.2.1) := by exact rfl
set_option maxRecDepth 100000 in
theorem yc_Mo_back : lw_tbl[(1655 : Nat)]? = some (.code ym_Mo_back.1 ym_Mo_back.2.1 ym_Mo_back.2.2.1 ym_Mo_back.2.2.2.1) := by exact rfl
set_option maxRecDepth 100000 in
theorem yc_Mo_isNone : lw_tbl[(1671 : Nat)]? = some (.code ym_Mo_isNone.1 ym_Mo_isNone.2.1 ym_Mo_isNone.2.2.1 ym_Mo_isNone.2.2.2.1) := by exact rfl
set_option maxRecDepth 100000 in
theorem yc_Mo_searches : lw_tbl[(1667 : Nat)]? = some (.code ym_Mo_searches.1 ym_Mo_searches.2.1 ym_Mo_searches.2.2.1 ym_Mo_searches.2.2.2.1) := by exact rfl
set_option maxRecDepth 100000 in
theorem yc_Mo_goesOn : lw_tbl[(1675 : Nat)]? = some (.code ym_Mo_goesOn.1 ym_Mo_goesOn.2.1 ym_Mo_goesOn.2.2.1 ym_Mo_goesOn.2.2.2.1) := by exact rfl
set_option maxRecDepth 100000 in
theorem yc_Mo_areColours : lw_tbl[(1663 : Nat)]? = some (.code ym_Mo_areColours.1 ym_Mo_areColours.2.1 ym_Mo_areColours.2.2.1 ym_Mo_areColours.2.2.2.1) := by exact rfl
set_option maxRecDepth 100000 in
theorem yc_Mo_search : lw_tbl[(1659 : Nat)]? = some (.code ym_Mo_search.1 ym_Mo_search.2.1 ym_Mo_search.2.2.1 ym_Mo_search.2.2.2.1) := by exact rfl
set_option maxRecDepth 100000 in
theorem yc_Mo_searchBy : lw_tbl[(1679 : Nat)]? = some (.code ym_Mo_searchBy.1 ym_Mo_searchBy.2.1 ym_Mo_searchBy.2.2.1 ym_Mo_searchBy.2.2.2.1) := by exact rfl
set_option maxRecDepth 100000 in
theorem yc_Mo_colour : lw_tbl[(1683 : Nat)]? = some (.code ym_Mo_colour.1 ym_Mo_colour.2.1 ym_Mo_colour.2.2.1 ym_Mo_colour.2.2.2.1) := by exact rfl
set_option maxRecDepth 100000 in
theorem yc_Mo_colours : lw_tbl[(1687 : Nat)]? = some (.code ym_Mo_colours.1 ym_Mo_colours.2.1 ym_Mo_colours.2.2.1 ym_Mo_colours.2.2.2.1) := by exact rfl
set_option maxRecDepth 100000 in
theorem yc_Mo_isTaken : lw_tbl[(1703 : Nat)]? = some (.code ym_Mo_isTaken.1 ym_Mo_isTaken.2.1 ym_Mo_isTaken.2.2.1 ym_Mo_isTaken.2.2.2.1) := by exact rfl
set_option maxRecDepth 100000 in
theorem yc_Mo_takes : lw_tbl[(1699 : Nat)]? = some (.code ym_Mo_takes.1 ym_Mo_takes.2.1 ym_Mo_takes.2.2.1 ym_Mo_takes.2.2.2.1) := by exact rfl
set_option maxRecDepth 100000 in
theorem yc_Mo_setOr : lw_tbl[(1711 : Nat)]? = some (.code ym_Mo_setOr.1 ym_Mo_setOr.2.1 ym_Mo_setOr.2.2.1 ym_Mo_setOr.2.2.2.1) := by exact rfl
set_option maxRecDepth 100000 in
theorem yc_Mo_lets : lw_tbl[(1707 : Nat)]? = some (.code ym_Mo_lets.1 ym_Mo_lets.2.1 ym_Mo_lets.2.2.1 ym_Mo_lets.2.2.2.1) := by exact rfl
set_option maxRecDepth 100000 in
theorem yc_Mo_looksAhead : lw_tbl[(1695 : Nat)]? = some (.code ym_Mo_looksAhead.1 ym_Mo_looksAhead.2.1 ym_Mo_looksAhead.2.2.1 ym_Mo_looksAhead.2.2.2.1) := by exact rfl
set_option maxRecDepth 100000 in
theorem yc_Mo_goesAhead : lw_tbl[(1715 : Nat)]? = some (.code ym_Mo_goesAhead.1 ym_Mo_goesAhead.2.1 ym_Mo_goesAhead.2.2.1 ym_Mo_goesAhead.2.2.2.1) := by exact rfl
set_option maxRecDepth 100000 in
theorem yc_Mo_forward : lw_tbl[(1691 : Nat)]? = some (.code ym_Mo_forward.1 ym_Mo_forward.2.1 ym_Mo_forward.2.2.1 ym_Mo_forward.2.2.2.1) := by exact rfl
set_option maxRecDepth 100000 in
theorem yc_Mo_forwardBy : lw_tbl[(1719 : Nat)]? = some (.code ym_Mo_forwardBy.1 ym_Mo_forwardBy.2.1 ym_Mo_forwardBy.2.2.1 ym_Mo_forwardBy.2.2.2.1) := by exact rfl
set_option maxRecDepth 100000 in
theorem yc_Mo_hue : lw_tbl[(1723 : Nat)]? = some (.code ym_Mo_hue.1 ym_Mo_hue.2.1 ym_Mo_hue.2.2.1 ym_Mo_hue.2.2.2.1) := by exact rfl
set_option maxRecDepth 100000 in
theorem yc_Mo_undo : lw_tbl[(1727 : Nat)]? = some (.code ym_Mo_undo.1 ym_Mo_undo.2.1 ym_Mo_undo.2.2.1 ym_Mo_undo.2.2.2.1) := by exact rfl
set_option maxRecDepth 100000 in
theorem yc_Mo_anew : lw_tbl[(1731 : Nat)]? = some (.code ym_Mo_anew.1 ym_Mo_anew.2.1 ym_Mo_anew.2.2.1 ym_Mo_anew.2.2.2.1) := by exact rfl
set_option maxRecDepth 100000 in
theorem yc_In_numberOfTrailingZeros : lw_tbl[(1067 : Nat)]? = some (.code ym_In_numberOfTrailingZeros.1 ym_In_numberOfTrailingZeros.2.1 ym_In_numberOfTrailingZeros.2.2.1 ym_In_numberOfTrailingZeros.2.2.2.1) := by exact rfl
set_option maxRecDepth 100000 in
theorem yc_In_bitCount : lw_tbl[(736 : Nat)]? = some (.code ym_In_bitCount.1 ym_In_bitCount.2.1 ym_In_bitCount.2.2.1 ym_In_bitCount.2.2.2.1) := by exact rfl
def mz_cdr (l : List mz_Y) : Prop := ∀ Y ∈ l, (Cond.code Y.1 Y.2.1 Y.2.2.1 Y.2.2.2.1) ∈ lw_tbl
theorem mz_cda_0 : mz_cdr (mz_all_0.take 32) := List.forall_mem_cons.mpr ⟨List.mem_of_getElem? yc_Pa_init, List.forall_mem_cons.mpr ⟨List.mem_of_getElem? yc_Pa_begin, List.forall_mem_cons.mpr ⟨List.mem_of_getElem? yc_Pa_answer, List.forall_mem_cons.mpr ⟨List.mem_of_getElem? yc_Pa_foundAt, List.forall_mem_cons.mpr ⟨List.mem_of_getElem? yc_Pa_put, List.forall_mem_cons.mpr ⟨List.mem_of_getElem? yc_Pa_backFrom, List.forall_mem_cons.mpr ⟨List.mem_of_getElem? yc_Pa_seek, List.forall_mem_cons.mpr ⟨List.mem_of_getElem? yc_Pa_openCell, List.forall_mem_cons.mpr ⟨List.mem_of_getElem? yc_Pa_paintNext, List.forall_mem_cons.mpr ⟨List.mem_of_getElem? yc_Pa_isFree, List.forall_mem_cons.mpr ⟨List.mem_of_getElem? yc_Pa_seekAhead, List.forall_mem_cons.mpr ⟨List.mem_of_getElem? yc_Pa_fullRow, List.forall_mem_cons.mpr ⟨List.mem_of_getElem? yc_Pa_takeCell, List.forall_mem_cons.mpr ⟨List.mem_of_getElem? yc_Pa_paintAhead, List.forall_mem_cons.mpr ⟨List.mem_of_getElem? yc_Pa_strikeOut, List.forall_mem_cons.mpr ⟨List.mem_of_getElem? yc_Sh_init, List.forall_mem_cons.mpr ⟨List.mem_of_getElem? yc_Sh_forget, List.forall_mem_cons.mpr ⟨List.mem_of_getElem? yc_Sh_begin, List.forall_mem_cons.mpr ⟨List.mem_of_getElem? yc_Sh_become, List.forall_mem_cons.mpr ⟨List.mem_of_getElem? yc_Sh_has, List.forall_mem_cons.mpr ⟨List.mem_of_getElem? yc_Sh_hasCell, List.forall_mem_cons.mpr ⟨List.mem_of_getElem? yc_Sh_numberIn, List.forall_mem_cons.mpr ⟨List.mem_of_getElem? yc_Sh_withNumber, List.forall_mem_cons.mpr ⟨List.mem_of_getElem? yc_Sh_rowOf, List.forall_mem_cons.mpr ⟨List.mem_of_getElem? yc_Sh_numberAt, List.forall_mem_cons.mpr ⟨List.mem_of_getElem? yc_Sh_unlikeCells, List.forall_mem_cons.mpr ⟨List.mem_of_getElem? yc_Sh_firstLike, List.forall_mem_cons.mpr ⟨List.mem_of_getElem? yc_Sh_makingOf, List.forall_mem_cons.mpr ⟨List.mem_of_getElem? yc_Sh_parentOf, List.forall_mem_cons.mpr ⟨List.mem_of_getElem? yc_Sh_depthOf, List.forall_mem_cons.mpr ⟨List.mem_of_getElem? yc_Sh_meeting, List.forall_mem_cons.mpr ⟨List.mem_of_getElem? yc_Sh_lastSetter, fun _ h => absurd h List.not_mem_nil⟩⟩⟩⟩⟩⟩⟩⟩⟩⟩⟩⟩⟩⟩⟩⟩⟩⟩⟩⟩⟩⟩⟩⟩⟩⟩⟩⟩⟩⟩⟩⟩
theorem mz_cda_1 : mz_cdr (mz_all_1.take 32) := List.forall_mem_cons.mpr ⟨List.mem_of_getElem? yc_Sh_timesSet, List.forall_mem_cons.mpr ⟨List.mem_of_getElem? yc_Sh_rootOf, List.forall_mem_cons.mpr ⟨List.mem_of_getElem? yc_Sh_areJoined, List.forall_mem_cons.mpr ⟨List.mem_of_getElem? yc_Sh_rootBits, List.forall_mem_cons.mpr ⟨List.mem_of_getElem? yc_Sh_cellsRootedAs, List.forall_mem_cons.mpr ⟨List.mem_of_getElem? yc_Sh_isDirect, List.forall_mem_cons.mpr ⟨List.mem_of_getElem? yc_Sh_linkOf, List.forall_mem_cons.mpr ⟨List.mem_of_getElem? yc_Sh_wayFrom, List.forall_mem_cons.mpr ⟨List.mem_of_getElem? yc_Sh_longestWay, List.forall_mem_cons.mpr ⟨List.mem_of_getElem? yc_Sh_directOnes, List.forall_mem_cons.mpr ⟨List.mem_of_getElem? yc_Sh_allWays, List.forall_mem_cons.mpr ⟨List.mem_of_getElem? yc_Sh_allWaysIfSnapped, List.forall_mem_cons.mpr ⟨List.mem_of_getElem? yc_Sh_withWays, List.forall_mem_cons.mpr ⟨List.mem_of_getElem? yc_Sh_wayBits, List.forall_mem_cons.mpr ⟨List.mem_of_getElem? yc_Sh_numbersIn, List.forall_mem_cons.mpr ⟨List.mem_of_getElem? yc_Sh_mostPassed, List.forall_mem_cons.mpr ⟨List.mem_of_getElem? yc_Sh_waysThrough, List.forall_mem_cons.mpr ⟨List.mem_of_getElem? yc_Sh_isTooLong, List.forall_mem_cons.mpr ⟨List.mem_of_getElem? yc_Sh_readingCost, List.forall_mem_cons.mpr ⟨List.mem_of_getElem? yc_Sh_linksBefore, List.forall_mem_cons.mpr ⟨List.mem_of_getElem? yc_Sh_readCell, List.forall_mem_cons.mpr ⟨List.mem_of_getElem? yc_Sh_reach, List.forall_mem_cons.mpr ⟨List.mem_of_getElem? yc_Sh_giveRow, List.forall_mem_cons.mpr ⟨List.mem_of_getElem? yc_Sh_turnWay, List.forall_mem_cons.mpr ⟨List.mem_of_getElem? yc_Sh_setCell, List.forall_mem_cons.mpr ⟨List.mem_of_getElem? yc_Sh_snapRow, List.forall_mem_cons.mpr ⟨List.mem_of_getElem? yc_Sh_findRoot, List.forall_mem_cons.mpr ⟨List.mem_of_getElem? yc_Sh_joinRoots, List.forall_mem_cons.mpr ⟨List.mem_of_getElem? yc_Sh_inConflict, List.forall_mem_cons.mpr ⟨List.mem_of_getElem? yc_Sh_mergedRow, List.forall_mem_cons.mpr ⟨List.mem_of_getElem? yc_Sh_conflicts, List.forall_mem_cons.mpr ⟨List.mem_of_getElem? yc_Sh_patchedRow, fun _ h => absurd h List.not_mem_nil⟩⟩⟩⟩⟩⟩⟩⟩⟩⟩⟩⟩⟩⟩⟩⟩⟩⟩⟩⟩⟩⟩⟩⟩⟩⟩⟩⟩⟩⟩⟩⟩
theorem mz_cda_2 : mz_cdr (mz_all_2.take 32) := List.forall_mem_cons.mpr ⟨List.mem_of_getElem? yc_Sh_layOn, List.forall_mem_cons.mpr ⟨List.mem_of_getElem? yc_Sh_carryOut, List.forall_mem_cons.mpr ⟨List.mem_of_getElem? yc_St_init, List.forall_mem_cons.mpr ⟨List.mem_of_getElem? yc_St_forget, List.forall_mem_cons.mpr ⟨List.mem_of_getElem? yc_St_become, List.forall_mem_cons.mpr ⟨List.mem_of_getElem? yc_St_acts, List.forall_mem_cons.mpr ⟨List.mem_of_getElem? yc_St_hasDeed, List.forall_mem_cons.mpr ⟨List.mem_of_getElem? yc_St_makesNone, List.forall_mem_cons.mpr ⟨List.mem_of_getElem? yc_St_partnersOf, List.forall_mem_cons.mpr ⟨List.mem_of_getElem? yc_St_arePaired, List.forall_mem_cons.mpr ⟨List.mem_of_getElem? yc_St_pairUp, List.forall_mem_cons.mpr ⟨List.mem_of_getElem? yc_St_ownNumbers, List.forall_mem_cons.mpr ⟨List.mem_of_getElem? yc_St_tell, List.forall_mem_cons.mpr ⟨List.mem_of_getElem? yc_St_perform, List.forall_mem_cons.mpr ⟨List.mem_of_getElem? yc_St_goBackTo, List.forall_mem_cons.mpr ⟨List.mem_of_getElem? yc_St_stepsOn, List.forall_mem_cons.mpr ⟨List.mem_of_getElem? yc_St_dearestDeed, List.forall_mem_cons.mpr ⟨List.mem_of_getElem? yc_Ta_init, List.forall_mem_cons.mpr ⟨List.mem_of_getElem? yc_Ta_put, List.forall_mem_cons.mpr ⟨List.mem_of_getElem? yc_Ta_begin, List.forall_mem_cons.mpr ⟨List.mem_of_getElem? yc_Ta_byteAt, List.forall_mem_cons.mpr ⟨List.mem_of_getElem? yc_Ta_isBlank, List.forall_mem_cons.mpr ⟨List.mem_of_getElem? yc_Ta_isLetter, List.forall_mem_cons.mpr ⟨List.mem_of_getElem? yc_Ta_isDigit, List.forall_mem_cons.mpr ⟨List.mem_of_getElem? yc_Ta_takeToken, List.forall_mem_cons.mpr ⟨List.mem_of_getElem? yc_Ta_takeLetters, List.forall_mem_cons.mpr ⟨List.mem_of_getElem? yc_Ta_takeDigits, List.forall_mem_cons.mpr ⟨List.mem_of_getElem? yc_Ta_isWord, List.forall_mem_cons.mpr ⟨List.mem_of_getElem? yc_Ta_refuse, List.forall_mem_cons.mpr ⟨List.mem_of_getElem? yc_Ta_takeNumber, List.forall_mem_cons.mpr ⟨List.mem_of_getElem? yc_Ta_takeWord, List.forall_mem_cons.mpr ⟨List.mem_of_getElem? yc_Ta_takeSign, fun _ h => absurd h List.not_mem_nil⟩⟩⟩⟩⟩⟩⟩⟩⟩⟩⟩⟩⟩⟩⟩⟩⟩⟩⟩⟩⟩⟩⟩⟩⟩⟩⟩⟩⟩⟩⟩⟩
theorem mz_cda_3 : mz_cdr (mz_all_3.take 32) := List.forall_mem_cons.mpr ⟨List.mem_of_getElem? yc_Ta_takesLine, List.forall_mem_cons.mpr ⟨List.mem_of_getElem? yc_Ta_wordKind, List.forall_mem_cons.mpr ⟨List.mem_of_getElem? yc_Ta_isOneTooMany, List.forall_mem_cons.mpr ⟨List.mem_of_getElem? yc_Ta_takeNumbers, List.forall_mem_cons.mpr ⟨List.mem_of_getElem? yc_Ta_takeStore, List.forall_mem_cons.mpr ⟨List.mem_of_getElem? yc_Ta_takePair, List.forall_mem_cons.mpr ⟨List.mem_of_getElem? yc_Ta_takeDeed, List.forall_mem_cons.mpr ⟨List.mem_of_getElem? yc_X_init, List.forall_mem_cons.mpr ⟨List.mem_of_getElem? yc_X_feed, List.forall_mem_cons.mpr ⟨List.mem_of_getElem? yc_X_end, List.forall_mem_cons.mpr ⟨List.mem_of_getElem? yc_X_store, List.forall_mem_cons.mpr ⟨List.mem_of_getElem? yc_X_fault, List.forall_mem_cons.mpr ⟨List.mem_of_getElem? yc_X_count, List.forall_mem_cons.mpr ⟨List.mem_of_getElem? yc_X_isThere, List.forall_mem_cons.mpr ⟨List.mem_of_getElem? yc_X_hasVersion, List.forall_mem_cons.mpr ⟨List.mem_of_getElem? yc_X_hasVersions, List.forall_mem_cons.mpr ⟨List.mem_of_getElem? yc_X_hasSpot, List.forall_mem_cons.mpr ⟨List.mem_of_getElem? yc_X_cell, List.forall_mem_cons.mpr ⟨List.mem_of_getElem? yc_X_version, List.forall_mem_cons.mpr ⟨List.mem_of_getElem? yc_X_unlike, List.forall_mem_cons.mpr ⟨List.mem_of_getElem? yc_X_first, List.forall_mem_cons.mpr ⟨List.mem_of_getElem? yc_X_meet, List.forall_mem_cons.mpr ⟨List.mem_of_getElem? yc_X_apart, List.forall_mem_cons.mpr ⟨List.mem_of_getElem? yc_X_root, List.forall_mem_cons.mpr ⟨List.mem_of_getElem? yc_X_roots, List.forall_mem_cons.mpr ⟨List.mem_of_getElem? yc_X_together, List.forall_mem_cons.mpr ⟨List.mem_of_getElem? yc_X_blame, List.forall_mem_cons.mpr ⟨List.mem_of_getElem? yc_X_often, List.forall_mem_cons.mpr ⟨List.mem_of_getElem? yc_X_state, List.forall_mem_cons.mpr ⟨List.mem_of_getElem? yc_X_length, List.forall_mem_cons.mpr ⟨List.mem_of_getElem? yc_X_longest, List.forall_mem_cons.mpr ⟨List.mem_of_getElem? yc_X_direct, fun _ h => absurd h List.not_mem_nil⟩⟩⟩⟩⟩⟩⟩⟩⟩⟩⟩⟩⟩⟩⟩⟩⟩⟩⟩⟩⟩⟩⟩⟩⟩⟩⟩⟩⟩⟩⟩⟩
theorem mz_cda_4 : mz_cdr (mz_all_4.take 32) := List.forall_mem_cons.mpr ⟨List.mem_of_getElem? yc_X_ways, List.forall_mem_cons.mpr ⟨List.mem_of_getElem? yc_X_snapping, List.forall_mem_cons.mpr ⟨List.mem_of_getElem? yc_X_snap, List.forall_mem_cons.mpr ⟨List.mem_of_getElem? yc_X_busiest, List.forall_mem_cons.mpr ⟨List.mem_of_getElem? yc_X_hasAllOf, List.forall_mem_cons.mpr ⟨List.mem_of_getElem? yc_X_keeps, List.forall_mem_cons.mpr ⟨List.mem_of_getElem? yc_X_room, List.forall_mem_cons.mpr ⟨List.mem_of_getElem? yc_X_ledger, List.forall_mem_cons.mpr ⟨List.mem_of_getElem? yc_X_spent, List.forall_mem_cons.mpr ⟨List.mem_of_getElem? yc_X_dearest, List.forall_mem_cons.mpr ⟨List.mem_of_getElem? yc_X_cost, List.forall_mem_cons.mpr ⟨List.mem_of_getElem? yc_X_by, List.forall_mem_cons.mpr ⟨List.mem_of_getElem? yc_X_cutting, List.forall_mem_cons.mpr ⟨List.mem_of_getElem? yc_X_cut, List.forall_mem_cons.mpr ⟨List.mem_of_getElem? yc_X_without, List.forall_mem_cons.mpr ⟨List.mem_of_getElem? yc_X_hasActLeft, List.forall_mem_cons.mpr ⟨List.mem_of_getElem? yc_X_hasRoomFor, List.forall_mem_cons.mpr ⟨List.mem_of_getElem? yc_X_reads, List.forall_mem_cons.mpr ⟨List.mem_of_getElem? yc_X_sets, List.forall_mem_cons.mpr ⟨List.mem_of_getElem? yc_X_joins, List.forall_mem_cons.mpr ⟨List.mem_of_getElem? yc_X_finds, List.forall_mem_cons.mpr ⟨List.mem_of_getElem? yc_X_snaps, List.forall_mem_cons.mpr ⟨List.mem_of_getElem? yc_X_merging, List.forall_mem_cons.mpr ⟨List.mem_of_getElem? yc_X_merged, List.forall_mem_cons.mpr ⟨List.mem_of_getElem? yc_X_merges, List.forall_mem_cons.mpr ⟨List.mem_of_getElem? yc_X_patching, List.forall_mem_cons.mpr ⟨List.mem_of_getElem? yc_X_patches, List.forall_mem_cons.mpr ⟨List.mem_of_getElem? yc_X_mayColour, List.forall_mem_cons.mpr ⟨List.mem_of_getElem? yc_X_search, List.forall_mem_cons.mpr ⟨List.mem_of_getElem? yc_X_searchBy, List.forall_mem_cons.mpr ⟨List.mem_of_getElem? yc_X_colour, List.forall_mem_cons.mpr ⟨List.mem_of_getElem? yc_X_colours, fun _ h => absurd h List.not_mem_nil⟩⟩⟩⟩⟩⟩⟩⟩⟩⟩⟩⟩⟩⟩⟩⟩⟩⟩⟩⟩⟩⟩⟩⟩⟩⟩⟩⟩⟩⟩⟩⟩
theorem mz_cda_5 : mz_cdr (mz_all_5.take 32) := List.forall_mem_cons.mpr ⟨List.mem_of_getElem? yc_X_forward, List.forall_mem_cons.mpr ⟨List.mem_of_getElem? yc_X_forwardBy, List.forall_mem_cons.mpr ⟨List.mem_of_getElem? yc_X_hue, List.forall_mem_cons.mpr ⟨List.mem_of_getElem? yc_X_imageAt, List.forall_mem_cons.mpr ⟨List.mem_of_getElem? yc_X_image, List.forall_mem_cons.mpr ⟨List.mem_of_getElem? yc_X_back, List.forall_mem_cons.mpr ⟨List.mem_of_getElem? yc_X_undo, List.forall_mem_cons.mpr ⟨List.mem_of_getElem? yc_X_anew, List.forall_mem_cons.mpr ⟨List.mem_of_getElem? yc_Mo_in, List.forall_mem_cons.mpr ⟨List.mem_of_getElem? yc_Mo_has, List.forall_mem_cons.mpr ⟨List.mem_of_getElem? yc_Mo_bitsOf, List.forall_mem_cons.mpr ⟨List.mem_of_getElem? yc_Mo_init, List.forall_mem_cons.mpr ⟨List.mem_of_getElem? yc_Mo_feed, List.forall_mem_cons.mpr ⟨List.mem_of_getElem? yc_Mo_end, List.forall_mem_cons.mpr ⟨List.mem_of_getElem? yc_Mo_at, List.forall_mem_cons.mpr ⟨List.mem_of_getElem? yc_Mo_begins, List.forall_mem_cons.mpr ⟨List.mem_of_getElem? yc_Mo_straight, List.forall_mem_cons.mpr ⟨List.mem_of_getElem? yc_Mo_links, List.forall_mem_cons.mpr ⟨List.mem_of_getElem? yc_Mo_lengthOf, List.forall_mem_cons.mpr ⟨List.mem_of_getElem? yc_Mo_turns, List.forall_mem_cons.mpr ⟨List.mem_of_getElem? yc_Mo_snap, List.forall_mem_cons.mpr ⟨List.mem_of_getElem? yc_Mo_reach, List.forall_mem_cons.mpr ⟨List.mem_of_getElem? yc_Mo_along, List.forall_mem_cons.mpr ⟨List.mem_of_getElem? yc_Mo_read, List.forall_mem_cons.mpr ⟨List.mem_of_getElem? yc_Mo_set, List.forall_mem_cons.mpr ⟨List.mem_of_getElem? yc_Mo_rootOf, List.forall_mem_cons.mpr ⟨List.mem_of_getElem? yc_Mo_find, List.forall_mem_cons.mpr ⟨List.mem_of_getElem? yc_Mo_join, List.forall_mem_cons.mpr ⟨List.mem_of_getElem? yc_Mo_meetOf, List.forall_mem_cons.mpr ⟨List.mem_of_getElem? yc_Mo_isConflict, List.forall_mem_cons.mpr ⟨List.mem_of_getElem? yc_Mo_mergedOf, List.forall_mem_cons.mpr ⟨List.mem_of_getElem? yc_Mo_mergeMany, fun _ h => absurd h List.not_mem_nil⟩⟩⟩⟩⟩⟩⟩⟩⟩⟩⟩⟩⟩⟩⟩⟩⟩⟩⟩⟩⟩⟩⟩⟩⟩⟩⟩⟩⟩⟩⟩⟩
theorem mz_cda_6 : mz_cdr (mz_all_6.take 32) := List.forall_mem_cons.mpr ⟨List.mem_of_getElem? yc_Mo_merge, List.forall_mem_cons.mpr ⟨List.mem_of_getElem? yc_Mo_isPatched, List.forall_mem_cons.mpr ⟨List.mem_of_getElem? yc_Mo_patchMany, List.forall_mem_cons.mpr ⟨List.mem_of_getElem? yc_Mo_patch, List.forall_mem_cons.mpr ⟨List.mem_of_getElem? yc_Mo_deed, List.forall_mem_cons.mpr ⟨List.mem_of_getElem? yc_Mo_does, List.forall_mem_cons.mpr ⟨List.mem_of_getElem? yc_Mo_plays, List.forall_mem_cons.mpr ⟨List.mem_of_getElem? yc_Mo_plays2, List.forall_mem_cons.mpr ⟨List.mem_of_getElem? yc_Mo_isAt, List.forall_mem_cons.mpr ⟨List.mem_of_getElem? yc_Mo_next, List.forall_mem_cons.mpr ⟨List.mem_of_getElem? yc_Mo_faults, List.forall_mem_cons.mpr ⟨List.mem_of_getElem? yc_Mo_isWord, List.forall_mem_cons.mpr ⟨List.mem_of_getElem? yc_Mo_passes, List.forall_mem_cons.mpr ⟨List.mem_of_getElem? yc_Mo_number, List.forall_mem_cons.mpr ⟨List.mem_of_getElem? yc_Mo_needs, List.forall_mem_cons.mpr ⟨List.mem_of_getElem? yc_Mo_named, List.forall_mem_cons.mpr ⟨List.mem_of_getElem? yc_Mo_readsCell, List.forall_mem_cons.mpr ⟨List.mem_of_getElem? yc_Mo_isCell, List.forall_mem_cons.mpr ⟨List.mem_of_getElem? yc_Mo_readsStore, List.forall_mem_cons.mpr ⟨List.mem_of_getElem? yc_Mo_readsPair, List.forall_mem_cons.mpr ⟨List.mem_of_getElem? yc_Mo_kindHere, List.forall_mem_cons.mpr ⟨List.mem_of_getElem? yc_Mo_readsDeed, List.forall_mem_cons.mpr ⟨List.mem_of_getElem? yc_Mo_lays, List.forall_mem_cons.mpr ⟨List.mem_of_getElem? yc_Mo_store, List.forall_mem_cons.mpr ⟨List.mem_of_getElem? yc_Mo_fault, List.forall_mem_cons.mpr ⟨List.mem_of_getElem? yc_Mo_is, List.forall_mem_cons.mpr ⟨List.mem_of_getElem? yc_Mo_isVersion, List.forall_mem_cons.mpr ⟨List.mem_of_getElem? yc_Mo_count, List.forall_mem_cons.mpr ⟨List.mem_of_getElem? yc_Mo_cell, List.forall_mem_cons.mpr ⟨List.mem_of_getElem? yc_Mo_version, List.forall_mem_cons.mpr ⟨List.mem_of_getElem? yc_Mo_unlikeOf, List.forall_mem_cons.mpr ⟨List.mem_of_getElem? yc_Mo_areVersions, fun _ h => absurd h List.not_mem_nil⟩⟩⟩⟩⟩⟩⟩⟩⟩⟩⟩⟩⟩⟩⟩⟩⟩⟩⟩⟩⟩⟩⟩⟩⟩⟩⟩⟩⟩⟩⟩⟩
theorem mz_cda_7 : mz_cdr (mz_all_7.take 32) := List.forall_mem_cons.mpr ⟨List.mem_of_getElem? yc_Mo_unlike, List.forall_mem_cons.mpr ⟨List.mem_of_getElem? yc_Mo_first, List.forall_mem_cons.mpr ⟨List.mem_of_getElem? yc_Mo_backTo, List.forall_mem_cons.mpr ⟨List.mem_of_getElem? yc_Mo_meet, List.forall_mem_cons.mpr ⟨List.mem_of_getElem? yc_Mo_apart, List.forall_mem_cons.mpr ⟨List.mem_of_getElem? yc_Mo_root, List.forall_mem_cons.mpr ⟨List.mem_of_getElem? yc_Mo_roots, List.forall_mem_cons.mpr ⟨List.mem_of_getElem? yc_Mo_together, List.forall_mem_cons.mpr ⟨List.mem_of_getElem? yc_Mo_state, List.forall_mem_cons.mpr ⟨List.mem_of_getElem? yc_Mo_length, List.forall_mem_cons.mpr ⟨List.mem_of_getElem? yc_Mo_longest, List.forall_mem_cons.mpr ⟨List.mem_of_getElem? yc_Mo_direct, List.forall_mem_cons.mpr ⟨List.mem_of_getElem? yc_Mo_ledger, List.forall_mem_cons.mpr ⟨List.mem_of_getElem? yc_Mo_spent, List.forall_mem_cons.mpr ⟨List.mem_of_getElem? yc_Mo_dearest, List.forall_mem_cons.mpr ⟨List.mem_of_getElem? yc_Mo_cost, List.forall_mem_cons.mpr ⟨List.mem_of_getElem? yc_Mo_by, List.forall_mem_cons.mpr ⟨List.mem_of_getElem? yc_Mo_cutting, List.forall_mem_cons.mpr ⟨List.mem_of_getElem? yc_Mo_cut, List.forall_mem_cons.mpr ⟨List.mem_of_getElem? yc_Mo_without, List.forall_mem_cons.mpr ⟨List.mem_of_getElem? yc_Mo_acts, List.forall_mem_cons.mpr ⟨List.mem_of_getElem? yc_Mo_isFull, List.forall_mem_cons.mpr ⟨List.mem_of_getElem? yc_Mo_reads, List.forall_mem_cons.mpr ⟨List.mem_of_getElem? yc_Mo_sets, List.forall_mem_cons.mpr ⟨List.mem_of_getElem? yc_Mo_joins, List.forall_mem_cons.mpr ⟨List.mem_of_getElem? yc_Mo_finds, List.forall_mem_cons.mpr ⟨List.mem_of_getElem? yc_Mo_snaps, List.forall_mem_cons.mpr ⟨List.mem_of_getElem? yc_Mo_merges, List.forall_mem_cons.mpr ⟨List.mem_of_getElem? yc_Mo_areThree, List.forall_mem_cons.mpr ⟨List.mem_of_getElem? yc_Mo_patches, List.forall_mem_cons.mpr ⟨List.mem_of_getElem? yc_Mo_patching, List.forall_mem_cons.mpr ⟨List.mem_of_getElem? yc_Mo_merging, fun _ h => absurd h List.not_mem_nil⟩⟩⟩⟩⟩⟩⟩⟩⟩⟩⟩⟩⟩⟩⟩⟩⟩⟩⟩⟩⟩⟩⟩⟩⟩⟩⟩⟩⟩⟩⟩⟩
theorem mz_cda_8 : mz_cdr (mz_all_8.take 32) := List.forall_mem_cons.mpr ⟨List.mem_of_getElem? yc_Mo_merged, List.forall_mem_cons.mpr ⟨List.mem_of_getElem? yc_Mo_blame, List.forall_mem_cons.mpr ⟨List.mem_of_getElem? yc_Mo_often, List.forall_mem_cons.mpr ⟨List.mem_of_getElem? yc_Mo_isSet, List.forall_mem_cons.mpr ⟨List.mem_of_getElem? yc_Mo_keptOf, List.forall_mem_cons.mpr ⟨List.mem_of_getElem? yc_Mo_keeps, List.forall_mem_cons.mpr ⟨List.mem_of_getElem? yc_Mo_room, List.forall_mem_cons.mpr ⟨List.mem_of_getElem? yc_Mo_busiest, List.forall_mem_cons.mpr ⟨List.mem_of_getElem? yc_Mo_isOnWay, List.forall_mem_cons.mpr ⟨List.mem_of_getElem? yc_Mo_waysOf, List.forall_mem_cons.mpr ⟨List.mem_of_getElem? yc_Mo_ways, List.forall_mem_cons.mpr ⟨List.mem_of_getElem? yc_Mo_snapping, List.forall_mem_cons.mpr ⟨List.mem_of_getElem? yc_Mo_snap2, List.forall_mem_cons.mpr ⟨List.mem_of_getElem? yc_Mo_image, List.forall_mem_cons.mpr ⟨List.mem_of_getElem? yc_Mo_back, List.forall_mem_cons.mpr ⟨List.mem_of_getElem? yc_Mo_isNone, List.forall_mem_cons.mpr ⟨List.mem_of_getElem? yc_Mo_searches, List.forall_mem_cons.mpr ⟨List.mem_of_getElem? yc_Mo_goesOn, List.forall_mem_cons.mpr ⟨List.mem_of_getElem? yc_Mo_areColours, List.forall_mem_cons.mpr ⟨List.mem_of_getElem? yc_Mo_search, List.forall_mem_cons.mpr ⟨List.mem_of_getElem? yc_Mo_searchBy, List.forall_mem_cons.mpr ⟨List.mem_of_getElem? yc_Mo_colour, List.forall_mem_cons.mpr ⟨List.mem_of_getElem? yc_Mo_colours, List.forall_mem_cons.mpr ⟨List.mem_of_getElem? yc_Mo_isTaken, List.forall_mem_cons.mpr ⟨List.mem_of_getElem? yc_Mo_takes, List.forall_mem_cons.mpr ⟨List.mem_of_getElem? yc_Mo_setOr, List.forall_mem_cons.mpr ⟨List.mem_of_getElem? yc_Mo_lets, List.forall_mem_cons.mpr ⟨List.mem_of_getElem? yc_Mo_looksAhead, List.forall_mem_cons.mpr ⟨List.mem_of_getElem? yc_Mo_goesAhead, List.forall_mem_cons.mpr ⟨List.mem_of_getElem? yc_Mo_forward, List.forall_mem_cons.mpr ⟨List.mem_of_getElem? yc_Mo_forwardBy, List.forall_mem_cons.mpr ⟨List.mem_of_getElem? yc_Mo_hue, fun _ h => absurd h List.not_mem_nil⟩⟩⟩⟩⟩⟩⟩⟩⟩⟩⟩⟩⟩⟩⟩⟩⟩⟩⟩⟩⟩⟩⟩⟩⟩⟩⟩⟩⟩⟩⟩⟩
theorem mz_cda_9 : mz_cdr (mz_all_9.take 4) := List.forall_mem_cons.mpr ⟨List.mem_of_getElem? yc_Mo_undo, List.forall_mem_cons.mpr ⟨List.mem_of_getElem? yc_Mo_anew, List.forall_mem_cons.mpr ⟨List.mem_of_getElem? yc_In_numberOfTrailingZeros, List.forall_mem_cons.mpr ⟨List.mem_of_getElem? yc_In_bitCount, fun _ h => absurd h List.not_mem_nil⟩⟩⟩⟩
theorem mz_cda : ∀ y, y < 292 → (Cond.code (mz_yD y).1 (mz_yD y).2.1 (mz_yD y).2.2.1 (mz_yD y).2.2.2.1) ∈ lw_tbl := by
  have key : ∀ (l : List mz_Y) (k n : Nat) (d : mz_Y), mz_cdr (l.take n) → k < n → n ≤ l.length → (Cond.code (l.getD k d).1 (l.getD k d).2.1 (l.getD k d).2.2.1 (l.getD k d).2.2.2.1) ∈ lw_tbl := by
    intro l k n d hl hk hn
    have h1 : k < l.length := by omega
    have h2 : l.getD k d = l[k] := by rw [List.getD_eq_getElem?_getD, List.getElem?_eq_getElem h1]; rfl
    rw [h2]
    refine hl _ (List.mem_of_getElem? (i := k) ?_)
    rw [List.getElem?_take_of_lt hk, List.getElem?_eq_getElem h1]
  intro y hy
  unfold mz_yD
  split
  · exact key _ _ 32 _ mz_cda_0 (by omega) (by decide)
  · exact key _ _ 32 _ mz_cda_1 (by omega) (by decide)
  · exact key _ _ 32 _ mz_cda_2 (by omega) (by decide)
  · exact key _ _ 32 _ mz_cda_3 (by omega) (by decide)
  · exact key _ _ 32 _ mz_cda_4 (by omega) (by decide)
  · exact key _ _ 32 _ mz_cda_5 (by omega) (by decide)
  · exact key _ _ 32 _ mz_cda_6 (by omega) (by decide)
  · exact key _ _ 32 _ mz_cda_7 (by omega) (by decide)
  · exact key _ _ 32 _ mz_cda_8 (by omega) (by decide)
  · rename_i h0 h1 h2 h3 h4 h5 h6 h7 h8
    have g0 : ¬ y / 32 = 0 := h0
    have g1 : ¬ y / 32 = 1 := h1
    have g2 : ¬ y / 32 = 2 := h2
    have g3 : ¬ y / 32 = 3 := h3
    have g4 : ¬ y / 32 = 4 := h4
    have g5 : ¬ y / 32 = 5 := h5
    have g6 : ¬ y / 32 = 6 := h6
    have g7 : ¬ y / 32 = 7 := h7
    have g8 : ¬ y / 32 = 8 := h8
    exact key _ _ 4 _ mz_cda_9 (by omega) (by decide)
end
section
-- the worlds of the small machine
def mw_c0 (C : Nat → ClassId) (f : Nat → Int32) (g : Nat → Int64) (r : Nat → Option Nat) (kn : Nat × Nat) : va_E := match kn.1 with
  | 1 => .inl (C 1, kn.2, .inl f)
  | 2 => .inl (C 2, kn.2, .inl f)
  | 3 => .inl (C 3, kn.2, .inl f)
  | 4 => .inl (C 4, kn.2, .inr (.inl g))
  | 5 => .inl (C 5, kn.2, .inr (.inr (.inr (.inr r))))
  | k => .inr (k - 10, (List.range (mz_cS (k - 10))).map (fun j => bif mz_iR (k - 10) j then va_rf (r j) else .int (f j)))
def mw_ce (C : Nat → ClassId) (M : mz_M) (a : Nat) : va_E := mw_c0 C (M.1 a) (M.2.1 a) (M.2.2.1 a) (M.2.2.2 a)
def mw_w (C : Nat → ClassId) (M : mz_M) (z0 n : Nat) : va_W := (List.range' z0 n).map (fun a => (a, mw_ce C M a))
abbrev mw_tys (C : Nat → ClassId) : List (ClassId × FieldType) := [(C 1, .int), (C 2, .byte), (C 3, .boolean), (C 4, .long), (C 5, .object "RerootStore$Story")]
def mw_kz (z0 n : Nat) (M : mz_M) : Prop := ∀ a, (M.2.2.2 a).1 ≠ 0 → z0 ≤ a ∧ a < z0 + n
def mw_A (z0 : Nat) : Nat → Prop := fun q => z0 ≤ q
theorem mw_get {C : Nat → ClassId} {M : mz_M} {z0 n a : Nat} (h1 : z0 ≤ a) (h2 : a < z0 + n) : (mw_w C M z0 n)[a - z0]? = some (a, mw_ce C M a) := by
  unfold mw_w
  rw [List.getElem?_map, List.getElem?_range' (by omega), Option.map_some, show z0 + 1 * (a - z0) = a by omega]
theorem mw_of {C : Nat → ClassId} {M : mz_M} {z0 n i : Nat} {p : Nat × va_E} (h : (mw_w C M z0 n)[i]? = some p) : i < n ∧ p = (z0 + i, mw_ce C M (z0 + i)) := by
  unfold mw_w at h
  rw [List.getElem?_map] at h
  obtain ⟨b, hb, rfl⟩ := Option.map_eq_some_iff.mp h
  have hl : i < n := by
    have h3 := (List.getElem?_eq_some_iff.mp hb).1
    rw [List.length_range'] at h3
    exact h3
  rw [List.getElem?_range' hl] at hb
  have hb2 : z0 + 1 * i = b := Option.some.inj hb
  rw [Nat.one_mul] at hb2
  subst hb2
  exact ⟨hl, rfl⟩
theorem mw_D {C : Nat → ClassId} {M : mz_M} {z0 n : Nat} : va_D (mw_A z0) (mw_w C M z0 n) := by
  refine ⟨fun i j p q hp hq h => ?_, fun k q hq => ?_⟩
  · obtain ⟨-, rfl⟩ := mw_of hp
    obtain ⟨-, rfl⟩ := mw_of hq
    have h2 : z0 + i = z0 + j := h
    omega
  · obtain ⟨-, rfl⟩ := mw_of hq
    exact Nat.le_add_right _ _
theorem mw_len {C : Nat → ClassId} {M : mz_M} {z0 n : Nat} : (mw_w C M z0 n).length = n := by
  unfold mw_w
  rw [List.length_map, List.length_range']
theorem mw_set {D : va_G} {C : Nat → ClassId} {M M' : mz_M} {z0 n a : Nat} {e : va_E} {H1 : Heap} (h : va_P D mz_cl ((mw_w C M z0 n).set (a - z0) (a, e)) H1) (h1 : z0 ≤ a) (h2 : a < z0 + n) (he : mw_ce C M' a = e) (ho : ∀ b, b ≠ a → mw_ce C M' b = mw_ce C M b) : va_P D mz_cl (mw_w C M' z0 n) H1 := by
  intro k q hk
  obtain ⟨hl, rfl⟩ := mw_of hk
  by_cases hb : z0 + k = a
  · have h3 := h k (a, e) (by
      rw [show k = a - z0 by omega, List.getElem?_set_self (by rw [mw_len]; omega)])
    rw [hb, he]
    exact h3
  · have h3 := h k (z0 + k, mw_ce C M (z0 + k)) (by
      rw [List.getElem?_set_ne (by omega)]
      have h4 := mw_get (C := C) (M := M) (z0 := z0) (n := n) (a := z0 + k) (by omega) (by omega)
      rw [show z0 + k - z0 = k by omega] at h4
      exact h4)
    rw [ho _ hb]
    exact h3
theorem mw_P {D : va_G} {C : Nat → ClassId} {M : mz_M} {z0 n : Nat} {H : Heap} (h : ∀ a, z0 ≤ a → a < z0 + n → va_at D mz_cl (a, mw_ce C M a) H) : va_P D mz_cl (mw_w C M z0 n) H := by
  intro k q hk
  obtain ⟨hl, rfl⟩ := mw_of hk
  exact h _ (by omega) (by omega)
theorem mw_at {D : va_G} {C : Nat → ClassId} {M : mz_M} {z0 n a : Nat} {H : Heap} (h : va_P D mz_cl (mw_w C M z0 n) H) (h1 : z0 ≤ a) (h2 : a < z0 + n) : va_at D mz_cl (a, mw_ce C M a) H := h _ _ (mw_get h1 h2)
-- a new cell
theorem mw_push {D : va_G} {C : Nat → ClassId} {M M' : mz_M} {z0 n : Nat} {H H1 : Heap} (h : va_P D mz_cl (mw_w C M z0 n) H) (hs : H.size = z0 + n) (o : ∀ q, q < H.size → H1[q]? = H[q]?) (ho : ∀ b, b ≠ z0 + n → mw_ce C M' b = mw_ce C M b) (hn : va_at D mz_cl (z0 + n, mw_ce C M' (z0 + n)) H1) : va_P D mz_cl (mw_w C M' z0 (n + 1)) H1 := by
  refine mw_P fun a h1 h2 => ?_
  by_cases hb : a = z0 + n
  · subst hb
    exact hn
  · rw [ho a hb]
    exact (mw_at h h1 (by omega)).kept (o a (by rw [hs]; omega))
-- kinds
theorem mw_k1 {C : Nat → ClassId} {M : mz_M} {a : Nat} (h : mz_kd M a = 1) : mw_ce C M a = .inl (C 1, mz_ln M a, .inl (M.1 a)) := by
  have h2 : (M.2.2.2 a).1 = 1 := h
  unfold mw_ce mw_c0
  rw [h2]
  rfl
theorem mw_k2 {C : Nat → ClassId} {M : mz_M} {a : Nat} (h : mz_kd M a = 2) : mw_ce C M a = .inl (C 2, mz_ln M a, .inl (M.1 a)) := by
  have h2 : (M.2.2.2 a).1 = 2 := h
  unfold mw_ce mw_c0
  rw [h2]
  rfl
theorem mw_k3 {C : Nat → ClassId} {M : mz_M} {a : Nat} (h : mz_kd M a = 3) : mw_ce C M a = .inl (C 3, mz_ln M a, .inl (M.1 a)) := by
  have h2 : (M.2.2.2 a).1 = 3 := h
  unfold mw_ce mw_c0
  rw [h2]
  rfl
theorem mw_k4 {C : Nat → ClassId} {M : mz_M} {a : Nat} (h : mz_kd M a = 4) : mw_ce C M a = .inl (C 4, mz_ln M a, .inr (.inl (M.2.1 a))) := by
  have h2 : (M.2.2.2 a).1 = 4 := h
  unfold mw_ce mw_c0
  rw [h2]
  rfl
theorem mw_k5 {C : Nat → ClassId} {M : mz_M} {a : Nat} (h : mz_kd M a = 5) : mw_ce C M a = .inl (C 5, mz_ln M a, .inr (.inr (.inr (.inr (M.2.2.1 a))))) := by
  have h2 : (M.2.2.2 a).1 = 5 := h
  unfold mw_ce mw_c0
  rw [h2]
  rfl
theorem mw_ko {C : Nat → ClassId} {M : mz_M} {a c : Nat} (hc : c < 6) (h : mz_kd M a = 10 + c) : mw_ce C M a = .inr (c, mz_fs M c a) := by
  have h2 : (M.2.2.2 a).1 = 10 + c := h
  have h3 : c = 0 ∨ c = 1 ∨ c = 2 ∨ c = 3 ∨ c = 4 ∨ c = 5 := by omega
  unfold mw_ce mw_c0
  rw [h2]
  rcases h3 with rfl | rfl | rfl | rfl | rfl | rfl <;> rfl
theorem mw_in {M : mz_M} {z0 n a k : Nat} (hz : mw_kz z0 n M) (h : mz_kd M a = k) (hk : k ≠ 0) : z0 ≤ a ∧ a < z0 + n := hz a (by
  show mz_kd M a ≠ 0
  rw [h]
  exact hk)
-- what an update leaves
theorem mw_oI {C : Nat → ClassId} {M : mz_M} {a k : Nat} {x : Int32} : ∀ b, b ≠ a → mw_ce C (mz_uI M a k x) b = mw_ce C M b := fun b h => by
  unfold mw_ce mz_uI va_up
  simp only [h, if_false]
theorem mw_oJ {C : Nat → ClassId} {M : mz_M} {a k : Nat} {x : Int64} : ∀ b, b ≠ a → mw_ce C (mz_uJ M a k x) b = mw_ce C M b := fun b h => by
  unfold mw_ce mz_uJ va_up
  simp only [h, if_false]
theorem mw_oR {C : Nat → ClassId} {M : mz_M} {a k : Nat} {x : Option Nat} : ∀ b, b ≠ a → mw_ce C (mz_uR M a k x) b = mw_ce C M b := fun b h => by
  unfold mw_ce mz_uR va_up
  simp only [h, if_false]
theorem mw_ocI {C : Nat → ClassId} {M : mz_M} {a : Nat} {f : Nat → Int32} : ∀ b, b ≠ a → mw_ce C (mz_cI M a f) b = mw_ce C M b := fun b h => by
  unfold mw_ce mz_cI va_up
  simp only [h, if_false]
theorem mw_ocJ {C : Nat → ClassId} {M : mz_M} {a : Nat} {f : Nat → Int64} : ∀ b, b ≠ a → mw_ce C (mz_cJ M a f) b = mw_ce C M b := fun b h => by
  unfold mw_ce mz_cJ va_up
  simp only [h, if_false]
theorem mw_oN {C : Nat → ClassId} {M : mz_M} {a kd n : Nat} : ∀ b, b ≠ a → mw_ce C (mz_new M a kd n) b = mw_ce C M b := fun b h => by
  unfold mw_ce mz_new va_up
  simp only [h, if_false]
theorem mw_uI1 {M : mz_M} {a k : Nat} {x : Int32} : (mz_uI M a k x).1 a = va_up (M.1 a) k x := by
  unfold mz_uI va_up
  simp
theorem mw_uJ1 {M : mz_M} {a k : Nat} {x : Int64} : (mz_uJ M a k x).2.1 a = va_up (M.2.1 a) k x := by
  unfold mz_uJ va_up
  simp
theorem mw_uR1 {M : mz_M} {a k : Nat} {x : Option Nat} : (mz_uR M a k x).2.2.1 a = va_up (M.2.2.1 a) k x := by
  unfold mz_uR va_up
  simp
theorem mw_cI1 {M : mz_M} {a : Nat} {f : Nat → Int32} : (mz_cI M a f).1 a = f := by
  unfold mz_cI va_up
  simp
theorem mw_cJ1 {M : mz_M} {a : Nat} {f : Nat → Int64} : (mz_cJ M a f).2.1 a = f := by
  unfold mz_cJ va_up
  simp
theorem mw_fsI {M : mz_M} {c a k : Nat} {x : Int32} (hk : k < mz_cS c) (h : mz_iR c k = false) : mz_fs (mz_uI M a k x) c a = (mz_fs M c a).set k (.int x) := by
  apply List.ext_getElem?
  intro j
  unfold mz_fs
  by_cases hj : j = k
  · subst hj
    rw [List.getElem?_set_self (by rw [List.length_map, List.length_range]; exact hk), List.getElem?_map, List.getElem?_range hk, Option.map_some]
    unfold mz_rd
    rw [h, cond_false, mw_uI1]
    simp [va_up]
  · rw [List.getElem?_set_ne (fun e => hj e.symm), List.getElem?_map, List.getElem?_map]
    cases hr : (List.range (mz_cS c))[j]? with
    | none => rfl
    | some i =>
      have hi : j = i := by
        obtain ⟨h1, h2⟩ := List.getElem?_eq_some_iff.mp hr
        rw [List.getElem_range] at h2
        exact h2
      subst hi
      simp only [Option.map_some]
      unfold mz_rd
      rw [mw_uI1, show va_up (M.1 a) k x j = M.1 a j by simp [va_up, hj]]
      rfl
theorem mw_fsR {M : mz_M} {c a k : Nat} {x : Option Nat} (hk : k < mz_cS c) (h : mz_iR c k = true) : mz_fs (mz_uR M a k x) c a = (mz_fs M c a).set k (va_rf x) := by
  apply List.ext_getElem?
  intro j
  unfold mz_fs
  by_cases hj : j = k
  · subst hj
    rw [List.getElem?_set_self (by rw [List.length_map, List.length_range]; exact hk), List.getElem?_map, List.getElem?_range hk, Option.map_some]
    unfold mz_rd
    rw [h, cond_true, mw_uR1]
    simp [va_up]
  · rw [List.getElem?_set_ne (fun e => hj e.symm), List.getElem?_map, List.getElem?_map]
    cases hr : (List.range (mz_cS c))[j]? with
    | none => rfl
    | some i =>
      have hi : j = i := by
        obtain ⟨h1, h2⟩ := List.getElem?_eq_some_iff.mp hr
        rw [List.getElem_range] at h2
        exact h2
      subst hi
      simp only [Option.map_some]
      unfold mz_rd
      rw [mw_uR1, show va_up (M.2.2.1 a) k x j = M.2.2.1 a j by simp [va_up, hj]]
      rfl
theorem mw_fsG {M : mz_M} {c a k : Nat} (hk : k < mz_cS c) : (mz_fs M c a)[k]? = some (mz_rd M c a k) := by
  unfold mz_fs
  rw [List.getElem?_map, List.getElem?_range hk, Option.map_some]
theorem mw_fsL {M : mz_M} {c a : Nat} : (mz_fs M c a).length = mz_cS c := by
  unfold mz_fs
  rw [List.length_map, List.length_range]
-- locals
def mw_isv (v : Value) : Bool := match v with
  | .retAddr _ => false
  | _ => true
def mw_L (L : List Value) (ls : Array Slot) : Prop := ls.size = L.length ∧ lv_wf ls ∧ ∀ (i : Nat) (v : Value), L[i]? = some v → mw_isv v = true → ls[i]? = some (Slot.val v)
def mw_pr (L : List Value) : List (Nat × Value) := (List.range L.length).filterMap (fun i => match L[i]? with
  | some v => bif mw_isv v then some (i, v) else none
  | none => none)
theorem mw_pr_mem {L : List Value} {i : Nat} {v : Value} : (i, v) ∈ mw_pr L ↔ L[i]? = some v ∧ mw_isv v = true := by
  unfold mw_pr
  rw [List.mem_filterMap]
  constructor
  · rintro ⟨j, -, h⟩
    split at h
    · rename_i w hw
      cases hv : mw_isv w with
      | false => rw [hv] at h; cases h
      | true =>
        rw [hv, cond_true] at h
        obtain ⟨rfl, rfl⟩ := Prod.mk.inj (Option.some.inj h)
        exact ⟨hw, hv⟩
    · cases h
  · rintro ⟨h1, h2⟩
    refine ⟨i, List.mem_range.mpr (List.getElem?_eq_some_iff.mp h1).1, ?_⟩
    rw [h1]
    simp only [h2, cond_true]
theorem mw_L.has {L : List Value} {ls : Array Slot} (h : mw_L L ls) : lv_has ls L.length (mw_pr L) := ⟨h.1, h.2.1, fun q hq => by
  obtain ⟨i, v⟩ := q
  obtain ⟨h1, h2⟩ := mw_pr_mem.mp hq
  exact h.2.2 i v h1 h2⟩
theorem mw_s1l {L : List Value} {i : Nat} {v : Value} : (mz_st1 L i v).length = L.length := by
  unfold mz_st1
  split
  · rw [List.length_set]
  · split <;> simp only [List.length_set]
theorem mw_s1s {L : List Value} {i : Nat} {v : Value} (h : i < L.length) : (mz_st1 L i v)[i]? = some v := by
  unfold mz_st1
  split
  · exact List.getElem?_set_self h
  · split
    · exact List.getElem?_set_self (by rw [List.length_set]; exact h)
    · exact List.getElem?_set_self (by rw [List.length_set]; exact h)
    · exact List.getElem?_set_self h
theorem mw_s1n {L : List Value} {i q : Nat} {v w : Value} (hq : q ≠ i) (h : (mz_st1 L i v)[q]? = some w) (hw : mw_isv w = true) : L[q]? = some w ∧ ¬ (q + 1 = i ∧ w.category = 2) := by
  unfold mz_st1 at h
  split at h
  · rw [List.getElem?_set_ne (fun e => hq e.symm)] at h
    exact ⟨h, fun e => absurd e.1 (by omega)⟩
  · rename_i j
    split at h
    · rename_i x hx
      rw [List.getElem?_set_ne (fun e => hq e.symm)] at h
      by_cases hj : q = j
      · subst hj
        rw [List.getElem?_set_self (List.getElem?_eq_some_iff.mp hx).1] at h
        cases h
        cases hw
      · rw [List.getElem?_set_ne (fun e => hj e.symm)] at h
        exact ⟨h, fun e => hj (by omega)⟩
    · rename_i x hx
      rw [List.getElem?_set_ne (fun e => hq e.symm)] at h
      by_cases hj : q = j
      · subst hj
        rw [List.getElem?_set_self (List.getElem?_eq_some_iff.mp hx).1] at h
        cases h
        cases hw
      · rw [List.getElem?_set_ne (fun e => hj e.symm)] at h
        exact ⟨h, fun e => hj (by omega)⟩
    · rename_i h1 h2
      rw [List.getElem?_set_ne (fun e => hq e.symm)] at h
      refine ⟨h, fun e => ?_⟩
      have hj : q = j := by omega
      subst hj
      have hc := e.2
      cases w with
      | long x => exact h1 x h
      | double x => exact h2 x h
      | _ => simp [Value.category] at hc
theorem mw_L1 {L : List Value} {ls' : Array Slot} {i : Nat} {v : Value} (hi : i < L.length) (h : lv_has ls' L.length ((i, v) :: (mw_pr L).filter (fun q => !(q.1 == i) && !(q.1 + 1 == i && q.2.category == 2)))) : mw_L (mz_st1 L i v) ls' := by
  refine ⟨h.1.trans mw_s1l.symm, h.2.1, fun q w hq hw => ?_⟩
  by_cases hqi : q = i
  · subst hqi
    rw [mw_s1s hi] at hq
    cases hq
    exact h.2.2 (q, v) List.mem_cons_self
  · obtain ⟨h1, h2⟩ := mw_s1n hqi hq hw
    refine h.2.2 (q, w) (List.mem_cons_of_mem _ (List.mem_filter.mpr ⟨mw_pr_mem.mpr ⟨h1, hw⟩, ?_⟩))
    simp only [Bool.and_eq_true, Bool.not_eq_true', beq_eq_false_iff_ne, Bool.and_eq_false_iff]
    refine ⟨hqi, ?_⟩
    by_cases h3 : q + 1 = i
    · exact Or.inr (by simpa using fun h4 => h2 ⟨h3, h4⟩)
    · exact Or.inl (by simpa using h3)
theorem mw_L2 {L : List Value} {ls' : Array Slot} {i : Nat} {v : Value} (hi : i + 1 < L.length) (h : lv_has ls' L.length ((i, v) :: (mw_pr L).filter (fun q => !(q.1 == i) && (!(q.1 == i + 1) && !(q.1 + 1 == i && q.2.category == 2))))) : mw_L (mz_st2 L i v) ls' := by
  unfold mz_st2
  refine ⟨h.1.trans (by rw [List.length_set, mw_s1l]), h.2.1, fun q w hq hw => ?_⟩
  by_cases hq1 : q = i + 1
  · subst hq1
    rw [List.getElem?_set_self (by rw [mw_s1l]; exact hi)] at hq
    cases hq
    cases hw
  rw [List.getElem?_set_ne (fun e => hq1 e.symm)] at hq
  by_cases hqi : q = i
  · subst hqi
    rw [mw_s1s (by omega)] at hq
    cases hq
    exact h.2.2 (q, v) List.mem_cons_self
  · obtain ⟨h1, h2⟩ := mw_s1n hqi hq hw
    refine h.2.2 (q, w) (List.mem_cons_of_mem _ (List.mem_filter.mpr ⟨mw_pr_mem.mpr ⟨h1, hw⟩, ?_⟩))
    simp only [Bool.and_eq_true, Bool.not_eq_true', beq_eq_false_iff_ne, Bool.and_eq_false_iff]
    refine ⟨hqi, hq1, ?_⟩
    by_cases h3 : q + 1 = i
    · exact Or.inr (by simpa using fun h4 => h2 ⟨h3, h4⟩)
    · exact Or.inl (by simpa using h3)
def mw_u (args : List Value) : List Value := args.flatMap (fun v => if v.category = 2 then [v, .retAddr 0] else [v])
theorem mw_ul (args : List Value) : (mw_u args).length = (lg_sl args).length := by
  induction args with
  | nil => rfl
  | cons v r ih =>
    unfold mw_u lg_sl at ih ⊢
    rw [List.flatMap_cons, List.flatMap_cons, List.length_append, List.length_append, ih]
    by_cases h : v.category = 2
    · rw [if_pos h, if_pos h]
      rfl
    · rw [if_neg h, if_neg h]
      rfl
theorem mw_ug (args : List Value) : ∀ (i : Nat) (v : Value), (mw_u args)[i]? = some v → mw_isv v = true → (lg_sl args)[i]? = some (.val v) := by
  induction args with
  | nil => intro i v h; cases h
  | cons w r ih =>
    intro i v h hv
    unfold mw_u at h
    unfold lg_sl
    rw [List.flatMap_cons] at h ⊢
    by_cases hc : w.category = 2
    · rw [if_pos hc] at h ⊢
      match i, h with
      | 0, h => cases h; rfl
      | 1, h => cases h; cases hv
      | j + 2, h => exact ih j v h hv
    · rw [if_neg hc] at h ⊢
      match i, h with
      | 0, h => cases h; rfl
      | j + 1, h => exact ih j v h hv
theorem mw_en (args : List Value) (n : Nat) (hn : (mz_en args n).length = n) : mw_L (mz_en args n) ((lg_sl args ++ List.replicate (n - (lg_sl args).length) Slot.unset).toArray) := by
  have hu : mz_en args n = mw_u args ++ List.replicate (n - (mw_u args).length) (.retAddr 0) := rfl
  rw [hu, List.length_append, List.length_replicate] at hn
  have hle : (lg_sl args).length ≤ n := by rw [← mw_ul]; omega
  have h := lv_entry args hle
  refine ⟨?_, h.2.1, fun i v hi hv => ?_⟩
  · rw [hu, List.length_append, List.length_replicate]
    exact h.1.trans hn.symm
  · rw [hu] at hi
    by_cases hl : i < (mw_u args).length
    · rw [List.getElem?_append_left hl] at hi
      rw [List.getElem?_toArray, List.getElem?_append_left (by rw [← mw_ul]; exact hl)]
      exact mw_ug args i v hi hv
    · rw [List.getElem?_append_right (by omega)] at hi
      have h2 := List.getElem?_eq_some_iff.mp hi
      obtain ⟨h3, h4⟩ := h2
      rw [List.getElem_replicate] at h4
      subst h4
      cases hv
end
section
-- the static surroundings of a run of a method
def mw_len10 : List Nat := [5, 4, 3, 4, 4, 4, 4, 4, 3, 3]
def mw_byt : List (List Int32) := [[115, 116, 111, 114, 101], [112, 97, 105, 114], [115, 101, 116], [106, 111, 105, 110], [114, 101, 97, 100], [102, 105, 110, 100], [115, 110, 97, 112], [115, 105, 122, 101], [108, 97, 119], [99, 117, 116]]
def mw_E (D : va_G) (C : Nat → ClassId) (z0 : Nat) (sc : Option (Nat × Nat × (Nat → Int32))) (sa sv : Nat → Nat) (U : State) : Prop :=
  va_K D mz_cl (mw_tys C) U ∧ va_AO "RerootStore$Story" U ∧
  (∀ r q, mz_LT r = some q → q.2.2.1 = 3 → vk_R (mz_cN q.1) q.2.1 (mz_str q.2.2.2.1) (sa q.2.2.2.1) U) ∧
  (∀ r q, mz_LT r = some q → q.2.2.1 = 10 → va_Nw (.methodLinkNest (mz_cN q.1) q.2.1 (mz_yD q.2.2.2.1).1 "RerootStore") U) ∧
  vk_S 10 mw_len10 mw_byt sa sv (mw_A z0) U U.heap ∧
  va_Z "java/lang/String" "COMPACT_STRINGS" "Z" (.int 1) (mw_A z0) U U.heap ∧
  (∀ b n f, sc = some (b, n, f) → va_X b n f U U.heap ∧ b < z0 ∧ b < U.heap.size)
theorem mw_E.go {D : va_G} {C : Nat → ClassId} {z0 : Nat} {sc : Option (Nat × Nat × (Nat → Int32))} {sa sv : Nat → Nat} {s U : State} (hW : s.WarmedH U.vm) (hz : s.heap.size ≤ U.heap.size) (hq : ∀ q : Nat, q < s.heap.size → ¬ mw_A z0 q → U.heap[q]? = s.heap[q]?) (h : mw_E D C z0 sc sa sv s) : mw_E D C z0 sc sa sv U := by
  obtain ⟨h1, h2, h3, h4, h5, h6, h7⟩ := h
  refine ⟨va_K.moved hW.alike h1, va_AO.moved hW.alike h2, fun r q a b => vk_R.warm hW (h3 r q a b), fun r q a b => va_Nw.warmM hW (h4 r q a b), vk_S.moved hW.alike (vk_S.kept h5 hq), va_Z.moved hW.alike (va_Z.kept h6 hq), fun b n f e => ?_⟩
  obtain ⟨k1, k2, k3⟩ := h7 b n f e
  exact ⟨va_X.moved hW.alike (va_X.kept k1 (hq b k3 (fun w => absurd k2 (Nat.not_lt.mpr w)))), k2, Nat.lt_of_lt_of_le k3 hz⟩
theorem mw_E.same {D : va_G} {C : Nat → ClassId} {z0 : Nat} {sc : Option (Nat × Nat × (Nat → Int32))} {sa sv : Nat → Nat} {u U : State} (hv : U.vm = u.vm) (hh : U.heap = u.heap) (h : mw_E D C z0 sc sa sv u) : mw_E D C z0 sc sa sv U := by
  obtain ⟨h1, h2, h3, h4, h5, h6, h7⟩ := h
  have ha : u.vm.Alike U.vm := by rw [hv]; exact Vm.Alike.refl _
  refine ⟨va_K.moved ha h1, va_AO.moved ha h2, fun r q a b => vk_R.same hv (h3 r q a b), fun r q a b => va_Nw.same rfl hv.symm (h4 r q a b), ?_, ?_, fun b n f e => ?_⟩
  · rw [hh]; exact vk_S.moved ha h5
  · rw [hh]; exact va_Z.moved ha h6
  · rw [hh]
    obtain ⟨k1, k2, k3⟩ := h7 b n f e
    exact ⟨va_X.moved ha k1, k2, k3⟩
def mw_Ts : List Cond := lw_tbl.filter goodWord
theorem mw_mem {p : Nat} {w : Cond} (h : mz_in p w = true) : w ∈ mw_Ts := by
  simp only [mz_in, Bool.and_eq_true, decide_eq_true_eq] at h
  exact List.mem_filter.mpr ⟨List.mem_of_getElem? h.1, h.2⟩
theorem mw_lt {r : Nat} {q : Nat × Nat × Nat × Nat × Nat} (h : mz_LT r = some q) (hg : mz_gt q = true) : mz_wd q ∈ mw_Ts := List.mem_filter.mpr ⟨(mz_LT_in h).1, (mz_LT_in h).2 hg⟩
theorem mw_q {r own x tag a b : Nat} (h : mz_q r own x tag a b = true) : mz_LT r = some (own, x, tag, a, b) := by
  unfold mz_q at h
  split at h
  · rename_i q1 q2 q3 q4 q5 e
    simp only [Bool.and_eq_true, Nat.beq_eq] at h
    obtain ⟨⟨⟨⟨rfl, rfl⟩, rfl⟩, rfl⟩, rfl⟩ := h
    exact e
  · cases h
theorem mw_lay {c : Nat} (hc : c < 6) : ∀ w ∈ u_ws (mz_cN c) (mz_cF c) (mz_cS c), w ∈ mw_Ts := by
  intro w hw
  obtain ⟨j, hj, rfl⟩ := List.mem_map.mp hw
  exact mw_mem (mz_lay_ok c hc j (List.mem_range.mp hj))
-- contracts
def mw_Pc (D : va_G) (C : Nat → ClassId) (z0 : Nat) (sc : Option (Nat × Nat × (Nat → Int32))) (sa sv : Nat → Nat) (args : List Value) (M : mz_M) (z : Nat × Nat) : Array Value → State → Prop := fun v U =>
  v = args.toArray ∧ mw_E D C z0 sc sa sv U ∧ U.heap.size = z.1 ∧ z0 ≤ z.1 ∧ va_P D mz_cl (mw_w C M z0 (z.1 - z0)) U.heap ∧ mw_kz z0 (z.1 - z0) M
def mw_Qc (D : va_G) (C : Nat → ClassId) (z0 : Nat) (Q : mz_P) (z' : Nat × Nat) : Array Value → State → Outcome → State → Prop := fun _ st oc t =>
  (∃ r M', oc = .returned r ∧ Q r M' ∧ t.heap.size = z'.1 ∧ va_P D mz_cl (mw_w C M' z0 (z'.1 - z0)) t.heap ∧ mw_kz z0 (z'.1 - z0) M') ∧ va_F (mw_A z0) st t
def mw_rm (d : Nat) (z z' : Nat × Nat) : Room := { frames := d, cells := z'.1 - z.1, slots := z'.2 - z.2, locals := 39 * d }
def mw_y (y : Nat) : MethodName × ByteArray × Nat × Option FieldType := match y with
  | 400 => (⟨"java/lang/String", "length", "()I"⟩, prog_10_method_54_code, 1, some .int)
  | 401 => (⟨"java/lang/String", "charAt", "(I)C"⟩, prog_10_method_56_code, 2, some .char)
  | y => ((mz_yD y).1, (mz_yD y).2.1, (mz_yD y).2.2.1, (mz_yD y).2.2.2.1)
theorem mw_y_of {y : Nat} (h : y < 292) : mw_y y = ((mz_yD y).1, (mz_yD y).2.1, (mz_yD y).2.2.1, (mz_yD y).2.2.2.1) := by
  unfold mw_y
  split
  · omega
  · omega
  · rfl
def mw_Met (l : Launch) (D : va_G) (C : Nat → ClassId) (z0 : Nat) (sc : Option (Nat × Nat × (Nat → Int32))) (sa sv : Nat → Nat) (d y : Nat) (args : List Value) (M : mz_M) (z z' : Nat × Nat) (Q : mz_P) : Prop :=
  Met l (mw_y y).1 (.code (mw_y y).1 (mw_y y).2.1 (mw_y y).2.2.1 (mw_y y).2.2.2 :: mw_Ts) (mw_rm d z z') (mw_Pc D C z0 sc sa sv args M z) (mw_Qc D C z0 Q z') (z'.1 - z.1) (z'.2 - z.2) (mw_A z0)
theorem mw_blind {D : va_G} {C : Nat → ClassId} {z0 : Nat} {sc : Option (Nat × Nat × (Nat → Int32))} {sa sv : Nat → Nat} {args : List Value} {M : mz_M} {z : Nat × Nat} : FrameBlind (mw_Pc D C z0 sc sa sv args M z) := fun a U g mk q => ⟨q.1, mw_E.same (u := U) rfl rfl q.2.1, q.2.2⟩
theorem mz_pI_e {st : List Value} {f : Int32 → List Value → Prop} (h : mz_pI st f) : ∃ x r, st = .int x :: r ∧ f x r := by
  unfold mz_pI at h
  split at h
  · exact ⟨_, _, rfl, h⟩
  · exact h.elim
theorem mz_pJ_e {st : List Value} {f : Int64 → List Value → Prop} (h : mz_pJ st f) : ∃ x r, st = .long x :: r ∧ f x r := by
  unfold mz_pJ at h
  split at h
  · exact ⟨_, _, rfl, h⟩
  · exact h.elim
theorem mz_pR_e {st : List Value} {f : Nat → List Value → Prop} (h : mz_pR st f) : ∃ x r, st = .ref x :: r ∧ f x r := by
  unfold mz_pR at h
  split at h
  · exact ⟨_, _, rfl, h⟩
  · exact h.elim
theorem mz_pV_e {st : List Value} {f : Value → List Value → Prop} (h : mz_pV st f) : ∃ x r, st = x :: r ∧ f x r := by
  unfold mz_pV at h
  split at h
  · exact ⟨_, _, rfl, h⟩
  · exact h.elim
theorem mz_pA_e {st : List Value} {f : Value → List Value → Prop} (h : mz_pA st f) : ∃ x r, st = x :: r ∧ f x r ∧ (x = .null ∨ ∃ a, x = .ref a) := by
  unfold mz_pA at h
  split at h
  · exact ⟨_, _, rfl, h, Or.inr ⟨_, rfl⟩⟩
  · exact ⟨_, _, rfl, h, Or.inl rfl⟩
  · exact h.elim
theorem mz_gI_e {o : Option Value} {f : Int32 → Prop} (h : mz_gI o f) : ∃ x, o = some (.int x) ∧ f x := by
  unfold mz_gI at h
  split at h
  · exact ⟨_, rfl, h⟩
  · exact h.elim
theorem mz_gJ_e {o : Option Value} {f : Int64 → Prop} (h : mz_gJ o f) : ∃ x, o = some (.long x) ∧ f x := by
  unfold mz_gJ at h
  split at h
  · exact ⟨_, rfl, h⟩
  · exact h.elim
theorem mz_gR_e {o : Option Value} {f : Nat → Prop} (h : mz_gR o f) : ∃ x, o = some (.ref x) ∧ f x := by
  unfold mz_gR at h
  split at h
  · exact ⟨_, rfl, h⟩
  · exact h.elim
theorem mz_gA_e {o : Option Value} {f : Value → Prop} (h : mz_gA o f) : ∃ x, o = some x ∧ f x ∧ (x = .null ∨ ∃ a, x = .ref a) := by
  unfold mz_gA at h
  split at h
  · exact ⟨_, rfl, h, Or.inr ⟨_, rfl⟩⟩
  · exact ⟨_, rfl, h, Or.inl rfl⟩
  · exact h.elim
theorem mz_t1_e {tg : List Nat} {f : Nat → Prop} (h : mz_t1 tg f) : ∃ a, tg = [a] ∧ f a := by
  unfold mz_t1 at h
  split at h
  · exact ⟨_, rfl, h⟩
  · exact h.elim
theorem mz_t2_e {tg : List Nat} {f : Nat → Nat → Prop} (h : mz_t2 tg f) : ∃ a b, tg = [a, b] ∧ f a b := by
  unfold mz_t2 at h
  split at h
  · exact ⟨_, _, rfl, h⟩
  · exact h.elim
theorem mz_t3_e {tg : List Nat} {f : Nat → Nat → Nat → Prop} (h : mz_t3 tg f) : ∃ a b c, tg = [a, b, c] ∧ f a b c := by
  unfold mz_t3 at h
  split at h
  · exact ⟨_, _, _, rfl, h⟩
  · exact h.elim
theorem mz_t5_e {tg : List Nat} {f : Nat → Nat → Nat → Nat → Nat → Prop} (h : mz_t5 tg f) : ∃ a b c d e, tg = [a, b, c, d, e] ∧ f a b c d e := by
  unfold mz_t5 at h
  split at h
  · exact ⟨_, _, _, _, _, rfl, h⟩
  · exact h.elim
theorem mz_lk_mem {t : List mz_En} {pc : Nat} {e : Instr × Nat × List Nat} (h : mz_lk t pc = some e) : (pc, e) ∈ t := by
  induction t with
  | nil => cases h
  | cons a r ih =>
    unfold mz_lk at h
    cases hb : Nat.beq a.1 pc with
    | true =>
      rw [hb, cond_true] at h
      cases h
      have h2 := Nat.eq_of_beq_eq_true hb
      subst h2
      exact List.mem_cons_self
    | false =>
      rw [hb, cond_false] at h
      exact List.mem_cons_of_mem _ (ih h)
end
section
section
variable {p : Program} {l : Launch} {e : Env} {R : Room} {s : State} {m : MethodId} {args : Array Value} {below : List Frame} {meth : Method} {c : Code} {Qw : State → Prop}
variable {D : va_G} {C : Nat → ClassId} {z0 : Nat} {sc : Option (Nat × Nat × (Nat → Int32))} {sa sv : Nat → Nat}
theorem ms_size {H : Heap} {locs : List Loc} {cells slots : Nat} {g : JFrame} (k : H.size ≤ s.heap.size + cells → W p l e R s m args below meth c H locs cells slots Qw g) : W p l e R s m args below meth c H locs cells slots Qw g := fun T hT X => k (by rw [← hT]; exact X.same.2.2.1) T hT X
theorem ms_call {H : Heap} {locs : List Loc} {cells slots mc ms pc : Nat} {ls : Array Slot} {st0 rest : List Value} {a : Array Value} {Q : mz_P} {z' : Nat × Nat}
    (hr : va_Run p l e R s m args below meth c H locs cells slots mc ms (F0 m pc ls st0) rest (mw_Qc D C z0 Q z' a) (mw_A z0)) (hS : va_S (mw_A z0) s.heap H locs)
    (kk : ∀ (r : Option Value) (M' : mz_M) (H1 : Heap) (locs1 : List Loc), Q r M' → va_P D mz_cl (mw_w C M' z0 (z'.1 - z0)) H1 → mw_kz z0 (z'.1 - z0) M' → va_S (mw_A z0) s.heap H1 locs1 → W p l e R s m args below meth c H1 locs1 (cells + mc) (slots + ms) Qw (F0 m (pc + 3) ls (r.toList ++ rest))) : W p l e R s m args below meth c H locs cells slots Qw (F0 m pc ls st0) := by
  intro T hT X
  obtain ⟨v, st₀, t, T', L, h0, X', hL, e1, e2, ⟨⟨r, M', hv, hq, hz, hp, hk⟩, hsz, hkp⟩, st⟩ := hr T hT X
  cases hv
  rw [h0] at hsz hkp
  obtain ⟨t2, a1, b1⟩ := kk v M' T'.heap (locs ++ L) hq (by rw [e1]; exact hp) hk
    ⟨Nat.le_trans hS.1 (by rw [e1]; exact hsz), fun q h1 h2 => by rw [e1, hkp q (Nat.lt_of_lt_of_le h1 hS.1) h2]; exact hS.2.1 q h1 h2, fun q hq => by
      rcases List.mem_append.mp hq with h | h
      · exact hS.2.2 q h
      · exact hL q h⟩ T' rfl X'
  exact ⟨t2, st t2 a1, b1⟩
def ms_R (R : Room) (d : Nat) (zs B : Nat × Nat) : Prop := B.1 - zs.1 ≤ R.cells ∧ B.2 - zs.2 ≤ R.slots ∧ d ≤ R.frames ∧ 39 * d ≤ R.locals
def ms_G (D : va_G) (C : Nat → ClassId) (z0 : Nat) (s : State) (mL : Nat) (zs B : Nat × Nat) (L : List Value) (M : mz_M) (z : Nat × Nat) (H : Heap) (locs : List Loc) (ls : Array Slot) : Prop :=
  mw_L L ls ∧ L.length = mL ∧ zs.1 ≤ z.1 ∧ zs.2 ≤ z.2 ∧ z.1 ≤ B.1 ∧ z.2 ≤ B.2 ∧ va_P D mz_cl (mw_w C M z0 (z.1 - z0)) H ∧ mw_kz z0 (z.1 - z0) M ∧ va_S (mw_A z0) s.heap H locs
theorem ms_G.P {mL : Nat} {zs B : Nat × Nat} {L : List Value} {M : mz_M} {z : Nat × Nat} {H : Heap} {locs : List Loc} {ls : Array Slot} (g : ms_G D C z0 s mL zs B L M z H locs ls) : va_P D mz_cl (mw_w C M z0 (z.1 - z0)) H := g.2.2.2.2.2.2.1
theorem ms_G.kz {mL : Nat} {zs B : Nat × Nat} {L : List Value} {M : mz_M} {z : Nat × Nat} {H : Heap} {locs : List Loc} {ls : Array Slot} (g : ms_G D C z0 s mL zs B L M z H locs ls) : mw_kz z0 (z.1 - z0) M := g.2.2.2.2.2.2.2.1
theorem ms_G.S {mL : Nat} {zs B : Nat × Nat} {L : List Value} {M : mz_M} {z : Nat × Nat} {H : Heap} {locs : List Loc} {ls : Array Slot} (g : ms_G D C z0 s mL zs B L M z H locs ls) : va_S (mw_A z0) s.heap H locs := g.2.2.2.2.2.2.2.2
theorem ms_G.loc {mL : Nat} {zs B : Nat × Nat} {L L' : List Value} {M : mz_M} {z : Nat × Nat} {H : Heap} {locs : List Loc} {ls ls' : Array Slot} (g : ms_G D C z0 s mL zs B L M z H locs ls) (h1 : mw_L L' ls') (h2 : L'.length = L.length) : ms_G D C z0 s mL zs B L' M z H locs ls' := ⟨h1, h2.trans g.2.1, g.2.2⟩
theorem ms_G.mem {mL : Nat} {zs B : Nat × Nat} {L : List Value} {M M' : mz_M} {z : Nat × Nat} {H H1 : Heap} {locs locs1 : List Loc} {ls : Array Slot} (g : ms_G D C z0 s mL zs B L M z H locs ls) (h1 : va_P D mz_cl (mw_w C M' z0 (z.1 - z0)) H1) (h2 : ∀ a, M'.2.2.2 a = M.2.2.2 a) (h3 : va_S (mw_A z0) s.heap H1 locs1) : ms_G D C z0 s mL zs B L M' z H1 locs1 ls :=
  ⟨g.1, g.2.1, g.2.2.1, g.2.2.2.1, g.2.2.2.2.1, g.2.2.2.2.2.1, h1, fun a h => g.kz a (by rw [← h2]; exact h), h3⟩
theorem ms_G.sz {mL : Nat} {zs B : Nat × Nat} {L : List Value} {M : mz_M} {z : Nat × Nat} {H : Heap} {locs : List Loc} {ls : Array Slot} (g : ms_G D C z0 s mL zs B L M z H locs ls) (hs : s.heap.size = zs.1) (hz : z0 ≤ zs.1) (h : H.size ≤ s.heap.size + (z.1 - zs.1)) : H.size = z.1 := by
  have h1 := g.2.2.1
  have h2 := g.S.1
  by_cases he : z.1 = zs.1
  · omega
  · have h3 := (mw_at g.P (a := z.1 - 1) (by omega) (by omega)).lt
    simp only at h3
    omega
def ms_Pw (p : Program) (l : Launch) (e : Env) (R : Room) (s : State) (m : MethodId) (args : Array Value) (below : List Frame) (meth : Method) (c : Code) (Qw : State → Prop) (D : va_G) (C : Nat → ClassId) (z0 mL : Nat) (zs B : Nat × Nat) : mz_C := fun pc L st M z =>
  ∀ (H : Heap) (locs : List Loc) (ls : Array Slot), ms_G D C z0 s mL zs B L M z H locs ls → W p l e R s m args below meth c H locs (z.1 - zs.1) (z.2 - zs.2) Qw (F0 m pc ls st)
def ms_ret (i : Instr) (v : Option Value) (ret : Option FieldType) : Prop :=
  (i = .return_ ∧ v = none ∧ ret = none) ∨ (∃ x t, i = .ireturn ∧ v = some (.int x) ∧ ret = some t ∧ narrow t (.int x) = .int x) ∨ (∃ x, i = .lreturn ∧ v = some (.long x) ∧ ret = some .long) ∨ (∃ w n, i = .areturn ∧ v = some w ∧ ret = some (.object n) ∧ (w = .null ∨ ∃ a, w = .ref a))
theorem ms_split {st : List Value} {n a : Nat} (hn : n + 1 ≤ st.length) (h : st[n]? = some (.ref a)) : ∃ As, (st.take (n + 1)).reverse = .ref a :: As ∧ As.length = n ∧ st = As.reverse ++ .ref a :: st.drop (n + 1) := by
  refine ⟨(st.take n).reverse, ?_, ?_, ?_⟩
  · rw [List.take_succ, h, List.reverse_append]
    rfl
  · rw [List.length_reverse, List.length_take]
    omega
  · rw [List.reverse_reverse]
    obtain ⟨h1, h2⟩ := List.getElem?_eq_some_iff.mp h
    rw [← h2, ← List.drop_eq_getElem_cons h1, List.take_append_drop]
theorem ms_cm {y : Nat} (hy : y < 292) : mz_cm y (mz_pos.getD y (0, 0, 0)) = true := by
  have key : ∀ a n, mz_cmr a n = true → a ≤ y → y < a + n → mz_cm y (mz_pos.getD y (0, 0, 0)) = true := by
    intro a n h h1 h2
    exact List.all_eq_true.mp h y (List.mem_range'_1.mpr ⟨h1, h2⟩)
  rcases Nat.lt_or_ge y 42 with h | h
  · exact key _ _ mz_cm_0 (by omega) (by omega)
  rcases Nat.lt_or_ge y 84 with h | h
  · exact key _ _ mz_cm_1 (by omega) (by omega)
  rcases Nat.lt_or_ge y 126 with h | h
  · exact key _ _ mz_cm_2 (by omega) (by omega)
  rcases Nat.lt_or_ge y 168 with h | h
  · exact key _ _ mz_cm_3 (by omega) (by omega)
  rcases Nat.lt_or_ge y 210 with h | h
  · exact key _ _ mz_cm_4 (by omega) (by omega)
  rcases Nat.lt_or_ge y 252 with h | h
  · exact key _ _ mz_cm_5 (by omega) (by omega)
  · exact key _ _ mz_cm_6 (by omega) (by omega)
theorem ms_cmf {y : Nat} (hy : y < 292) : (mz_yD y).2.2.1 ≤ 20 ∧ (mz_yD y).1.cls = mz_cN (mz_yD y).2.2.2.2.1 ∧ (mz_yD y).2.2.2.2.1 < 8 ∧ (mz_yD y).2.2.2.2.2.1 = decide ((mz_yD y).1.name = "<init>") ∧ (parseMethodDescriptor (mz_yD y).1.desc).map (fun d => d.parameters.length) = some (mz_np.getD y 0) ∧ (mz_sts y = true → Cond.static (mz_yD y).1 ∈ mw_Ts) ∧ (mz_sts y = false → Cond.instanceMethod (mz_yD y).1 ∈ mw_Ts ∧ ((mz_yD y).2.2.2.2.2.1 = false → Cond.selects (mz_yD y).1.cls (mz_yD y).1 (mz_yD y).1 ∈ mw_Ts)) := by
  have h := ms_cm hy
  unfold mz_cm mz_npr at h
  simp only [Bool.and_eq_true, Bool.or_eq_true, decide_eq_true_eq, Bool.not_eq_true'] at h
  obtain ⟨⟨⟨⟨⟨h1, h2⟩, h3⟩, h4⟩, h5⟩, h6⟩ := h
  refine ⟨h1, h2, h3, h4, h5, fun hs => ?_, fun hs => ?_⟩
  · rcases h6 with h6 | h6
    · exact mw_mem h6.2
    · rw [hs] at h6
      exact absurd h6.1.1 (by simp)
  · rcases h6 with h6 | h6
    · rw [hs] at h6
      exact absurd h6.1 (by simp)
    · refine ⟨mw_mem h6.1.2, fun hi => ?_⟩
      rcases h6.2 with h7 | h7
      · rw [hi] at h7
        cases h7
      · exact mw_mem h7
theorem ms_code {y : Nat} (hy : y < 292) : Cond.code (mz_yD y).1 (mz_yD y).2.1 (mz_yD y).2.2.1 (mz_yD y).2.2.2.1 ∈ mw_Ts := List.mem_filter.mpr ⟨mz_cda y hy, rfl⟩
theorem ms_good {w : Cond} (hw : w ∈ mw_Ts) : GoodIn mw_Ts (w :: mw_Ts) := by
  intro v hv
  have h2 : v ∈ mw_Ts := by
    rcases List.mem_cons.mp hv with h | h
    · rw [h]; exact hw
    · exact h
  exact ⟨h2, good_of_word (List.mem_filter.mp h2).2⟩
theorem ms_ini {c : Nat} (hc : c < 9) : Cond.initialized (mz_cN c) ∈ mw_Ts := mw_mem (mz_all_ini c hc)
end
end
section
section
variable {p : Program} {l : Launch} {e : Env} {R : Room} {s : State} {m : MethodId} {args : Array Value} {below : List Frame} {meth : Method} {c : Code} {Qw : State → Prop}
variable {D : va_G} {C : Nat → ClassId} {z0 : Nat} {sc : Option (Nat × Nat × (Nat → Int32))} {sa sv : Nat → Nat}
/-- what a run of a method stands on -/
def ms_X (p : Program) (l : Launch) (e : Env) (R : Room) (s : State) (m : MethodId) (args : Array Value) (below : List Frame) (meth : Method) (c : Code) (Qw : State → Prop) (D : va_G) (C : Nat → ClassId) (z0 : Nat) (sc : Option (Nat × Nat × (Nat → Int32))) (sa sv : Nat → Nat) (K : mz_K) (d : Nat) (Y : mz_Y) (zs B : Nat × Nat) (Q : mz_P) : Prop :=
  p.tables.exec = Jvm.exec ∧ c.code = Y.2.1 ∧ c.maxLocals = Y.2.2.1 ∧ s.vm.findClass (mz_cN Y.2.2.2.2.1) = some m.cls ∧ (∀ w ∈ mw_Ts, w.before args s = true) ∧ (Y.2.2.2.2.2.1 = true → meth.name = "<init>") ∧ mw_E D C z0 sc sa sv s ∧ mz_ck Y = true ∧ s.heap.size = zs.1 ∧ z0 ≤ zs.1 ∧ ms_R R d zs B ∧
  (∀ y a M z z' Q', K y a M z z' Q' → z.1 ≤ z'.1 → z.2 ≤ z'.2 → 1 ≤ d ∧ mw_Met l D C z0 sc sa sv (d - 1) y a M z z' Q') ∧
  (∀ (v : Option Value) (i : Instr) (M' : mz_M) (H : Heap) (locs : List Loc) (ls : Array Slot) (pc : Nat), decode Y.2.1 pc = .ok (i, 1) → ms_ret i v Y.2.2.2.1 → Q v M' → H.size = B.1 → va_P D mz_cl (mw_w C M' z0 (B.1 - z0)) H → mw_kz z0 (B.1 - z0) M' → va_S (mw_A z0) s.heap H locs → W p l e R s m args below meth c H locs (B.1 - zs.1) (B.2 - zs.2) Qw (F0 m pc ls v.toList))
theorem ms_gf {K : mz_K} {d : Nat} {Y : mz_Y} {zs B : Nat × Nat} {Q : mz_P} {pc : Nat} {L st : List Value} {M : mz_M} {z : Nat × Nat} (X : ms_X p l e R s m args below meth c Qw D C z0 sc sa sv K d Y zs B Q) {x c2 j r a : Nat} {rest : List Value} (hd : decode Y.2.1 pc = .ok (.getfield x, 3)) (h6 : c2 < 6) (hj : j < mz_cS c2) (hq : mz_LT r = some (Y.2.2.2.2.1, x, 0, c2, j)) (hk : mz_kd M a = 10 + c2) (h : ms_Pw p l e R s m args below meth c Qw D C z0 Y.2.2.1 zs B (pc + 3) L (mz_rd M c2 a j :: rest) M z) : ms_Pw p l e R s m args below meth c Qw D C z0 Y.2.2.1 zs B pc L (.ref a :: rest) M z := by
  intro H locs ls g
  obtain ⟨hx, hb, -, hown, hts, -, hE, -⟩ := X
  obtain ⟨h1, h2⟩ := mw_in g.kz hk (by omega)
  exact va_get (D := D) (own := mz_cN Y.2.2.2.2.1) (ref := mz_cN c2) hx hb hts (mw_lay h6) hown hE.1 g.P (a - z0) (fs := mz_fs M c2 a) (by rw [mw_get h1 h2, mw_ko h6 hk]) (mz_cl_at c2 h6) j hj (hts _ (mw_lt hq rfl)) (fun _ w => by rw [mz_own c2 h6 j hj] at w; exact w) (mw_fsG hj) hd (h H locs ls g)
theorem ms_rty : ∀ c, c < 6 → ∀ j, j < mz_cS c → mz_iR c j = true → (∃ n, mz_cY c j = .object n) ∨ ∃ t, mz_cY c j = .array t := by
  have key : ∀ c, c < 6 → ∀ j, j < mz_cS c → (match mz_cY c j with | .int => true | .boolean => true | .object _ => true | .array _ => true | _ => false) = true := by decide +kernel
  intro c hc j hj h
  have h2 := key c hc j hj
  unfold mz_iR at h
  cases hy : mz_cY c j <;> rw [hy] at h h2 <;> first | exact Or.inl ⟨_, rfl⟩ | exact Or.inr ⟨_, rfl⟩ | exact absurd h (by decide) | exact absurd h2 (by decide)
theorem ms_pf {K : mz_K} {d : Nat} {Y : mz_Y} {zs B : Nat × Nat} {Q : mz_P} {pc : Nat} {L st : List Value} {M : mz_M} {z : Nat × Nat} (X : ms_X p l e R s m args below meth c Qw D C z0 sc sa sv K d Y zs B Q) {x c2 j r a : Nat} {rest : List Value} {v : Value} {M2 : mz_M} (hd : decode Y.2.1 pc = .ok (.putfield x, 3)) (h6 : c2 < 6) (hj : j < mz_cS c2) (hq : mz_LT r = some (Y.2.2.2.2.1, x, 0, c2, j)) (hk : mz_kd M a = 10 + c2) (hf : (mz_cF c2 j).2.2.2 = true → Y.2.2.2.2.2.1 = true ∧ Y.2.2.2.2.1 = c2) (hn : narrow (mz_cY c2 j) v = v) (hfit : fits (mz_cY c2 j) v = true) (hM : mz_fs M2 c2 a = (mz_fs M c2 a).set j v) (hM2 : ∀ b, M2.2.2.2 b = M.2.2.2 b) (hM3 : ∀ b, b ≠ a → mw_ce C M2 b = mw_ce C M b) (h : ms_Pw p l e R s m args below meth c Qw D C z0 Y.2.2.1 zs B (pc + 3) L rest M2 z) : ms_Pw p l e R s m args below meth c Qw D C z0 Y.2.2.1 zs B pc L (v :: .ref a :: rest) M z := by
  intro H locs ls g
  obtain ⟨hx, hb, -, hown, hts, hin, hE, -⟩ := X
  obtain ⟨h1, h2⟩ := mw_in g.kz hk (by omega)
  have hk2 : mz_kd M2 a = 10 + c2 := by unfold mz_kd; rw [hM2]; exact hk
  have he : (mw_w C M z0 (z.1 - z0))[a - z0]? = some (a, .inr (c2, mz_fs M c2 a)) := by rw [mw_get h1 h2, mw_ko h6 hk]
  have go : ∀ (H1 : Heap) (locs1 : List Loc), va_P D mz_cl ((mw_w C M z0 (z.1 - z0)).set (a - z0) (a, .inr (c2, (mz_fs M c2 a).set j v))) H1 → va_D (mw_A z0) ((mw_w C M z0 (z.1 - z0)).set (a - z0) (a, .inr (c2, (mz_fs M c2 a).set j v))) → va_S (mw_A z0) s.heap H1 locs1 → W p l e R s m args below meth c H1 locs1 (z.1 - zs.1) (z.2 - zs.2) Qw (F0 m (pc + 3) ls rest) := fun H1 locs1 hP1 _ hS1 =>
    h H1 locs1 ls (g.mem (mw_set hP1 h1 h2 (by rw [mw_ko h6 hk2, hM]) hM3) hM2 hS1)
  cases hfin : (mz_cF c2 j).2.2.2 with
  | false => exact va_put (D := D) (own := mz_cN Y.2.2.2.2.1) (ref := mz_cN c2) hx hb hts (mw_lay h6) (mz_cY c2) (mz_ty_ok c2 h6) (mz_nm_ok c2 h6) hown hE.1 g.P mw_D g.S (a - z0) he (mz_cl_at c2 h6) j hj (hts _ (mw_lt hq rfl)) (fun _ w => by rw [mz_own c2 h6 j hj] at w; exact w) hfin (mz_ty_ok c2 h6 j hj) hn hfit (by rw [mw_fsL]; exact hj) hd go
  | true =>
    obtain ⟨f1, f2⟩ := hf hfin
    exact va_putF (D := D) (own := mz_cN Y.2.2.2.2.1) (ref := mz_cN c2) hx hb hts (mw_lay h6) (mz_cY c2) (mz_ty_ok c2 h6) (mz_nm_ok c2 h6) hown hE.1 g.P mw_D g.S (a - z0) he (mz_cl_at c2 h6) j hj (hts _ (mw_lt hq rfl)) (fun _ w => by rw [mz_own c2 h6 j hj] at w; exact w) hfin (hin f1) (by rw [mz_own c2 h6 j hj, f2]) (mz_ty_ok c2 h6 j hj) hn hfit (by rw [mw_fsL]; exact hj) hd go
theorem ms_iald {K : mz_K} {d : Nat} {Y : mz_Y} {zs B : Nat × Nat} {Q : mz_P} {pc : Nat} {L st : List Value} {M : mz_M} {z : Nat × Nat} (X : ms_X p l e R s m args below meth c Qw D C z0 sc sa sv K d Y zs B Q) {a : Nat} {x : Int32} {rest : List Value} (hd : decode Y.2.1 pc = .ok (.iaload, 1)) (hk : mz_kd M a = 1) (hi : vp_in x (mz_ln M a)) (h : ms_Pw p l e R s m args below meth c Qw D C z0 Y.2.2.1 zs B (pc + 1) L (.int (M.1 a x.toNatClampNeg) :: rest) M z) : ms_Pw p l e R s m args below meth c Qw D C z0 Y.2.2.1 zs B pc L (.int x :: .ref a :: rest) M z := by
  intro H locs ls g
  obtain ⟨hx, hb, -, hown, hts, -, hE, -⟩ := X
  obtain ⟨h1, h2⟩ := mw_in g.kz hk (by omega)
  exact va_iald (D := D) hx hb hE.1 g.P (a - z0) 0 (by rw [mw_get h1 h2, mw_k1 hk]) rfl hi hd (h H locs ls g)
theorem ms_bald {K : mz_K} {d : Nat} {Y : mz_Y} {zs B : Nat × Nat} {Q : mz_P} {pc : Nat} {L st : List Value} {M : mz_M} {z : Nat × Nat} (X : ms_X p l e R s m args below meth c Qw D C z0 sc sa sv K d Y zs B Q) {a : Nat} {x : Int32} {rest : List Value} (hd : decode Y.2.1 pc = .ok (.baload, 1)) (hk : mz_kd M a = 2) (hi : vp_in x (mz_ln M a)) (h : ms_Pw p l e R s m args below meth c Qw D C z0 Y.2.2.1 zs B (pc + 1) L (.int (M.1 a x.toNatClampNeg) :: rest) M z) : ms_Pw p l e R s m args below meth c Qw D C z0 Y.2.2.1 zs B pc L (.int x :: .ref a :: rest) M z := by
  intro H locs ls g
  obtain ⟨hx, hb, -, hown, hts, -, hE, -⟩ := X
  obtain ⟨h1, h2⟩ := mw_in g.kz hk (by omega)
  exact va_bald (D := D) hx hb hE.1 g.P (a - z0) 1 (by rw [mw_get h1 h2, mw_k2 hk]) rfl hi hd (h H locs ls g)
theorem ms_zald {K : mz_K} {d : Nat} {Y : mz_Y} {zs B : Nat × Nat} {Q : mz_P} {pc : Nat} {L st : List Value} {M : mz_M} {z : Nat × Nat} (X : ms_X p l e R s m args below meth c Qw D C z0 sc sa sv K d Y zs B Q) {a : Nat} {x : Int32} {rest : List Value} (hd : decode Y.2.1 pc = .ok (.baload, 1)) (hk : mz_kd M a = 3) (hi : vp_in x (mz_ln M a)) (h : ms_Pw p l e R s m args below meth c Qw D C z0 Y.2.2.1 zs B (pc + 1) L (.int (M.1 a x.toNatClampNeg) :: rest) M z) : ms_Pw p l e R s m args below meth c Qw D C z0 Y.2.2.1 zs B pc L (.int x :: .ref a :: rest) M z := by
  intro H locs ls g
  obtain ⟨hx, hb, -, hown, hts, -, hE, -⟩ := X
  obtain ⟨h1, h2⟩ := mw_in g.kz hk (by omega)
  exact va_zald (D := D) hx hb hE.1 g.P (a - z0) 2 (by rw [mw_get h1 h2, mw_k3 hk]) rfl hi hd (h H locs ls g)
theorem ms_lald {K : mz_K} {d : Nat} {Y : mz_Y} {zs B : Nat × Nat} {Q : mz_P} {pc : Nat} {L st : List Value} {M : mz_M} {z : Nat × Nat} (X : ms_X p l e R s m args below meth c Qw D C z0 sc sa sv K d Y zs B Q) {a : Nat} {x : Int32} {rest : List Value} (hd : decode Y.2.1 pc = .ok (.laload, 1)) (hk : mz_kd M a = 4) (hi : vp_in x (mz_ln M a)) (h : ms_Pw p l e R s m args below meth c Qw D C z0 Y.2.2.1 zs B (pc + 1) L (.long (M.2.1 a x.toNatClampNeg) :: rest) M z) : ms_Pw p l e R s m args below meth c Qw D C z0 Y.2.2.1 zs B pc L (.int x :: .ref a :: rest) M z := by
  intro H locs ls g
  obtain ⟨hx, hb, -, hown, hts, -, hE, -⟩ := X
  obtain ⟨h1, h2⟩ := mw_in g.kz hk (by omega)
  exact va_lald (D := D) hx hb hE.1 g.P (a - z0) 3 (by rw [mw_get h1 h2, mw_k4 hk]) rfl hi hd (h H locs ls g)
theorem ms_aald {K : mz_K} {d : Nat} {Y : mz_Y} {zs B : Nat × Nat} {Q : mz_P} {pc : Nat} {L st : List Value} {M : mz_M} {z : Nat × Nat} (X : ms_X p l e R s m args below meth c Qw D C z0 sc sa sv K d Y zs B Q) {a : Nat} {x : Int32} {rest : List Value} (hd : decode Y.2.1 pc = .ok (.aaload, 1)) (hk : mz_kd M a = 5) (hi : vp_in x (mz_ln M a)) (h : ms_Pw p l e R s m args below meth c Qw D C z0 Y.2.2.1 zs B (pc + 1) L (va_rf (M.2.2.1 a x.toNatClampNeg) :: rest) M z) : ms_Pw p l e R s m args below meth c Qw D C z0 Y.2.2.1 zs B pc L (.int x :: .ref a :: rest) M z := by
  intro H locs ls g
  obtain ⟨hx, hb, -, hown, hts, -, hE, -⟩ := X
  obtain ⟨h1, h2⟩ := mw_in g.kz hk (by omega)
  exact va_aldq (D := D) hx hb hE.1 g.P (a - z0) 4 (by rw [mw_get h1 h2, mw_k5 hk]) rfl hi hd (h H locs ls g)
theorem ms_iast {K : mz_K} {d : Nat} {Y : mz_Y} {zs B : Nat × Nat} {Q : mz_P} {pc : Nat} {L st : List Value} {M : mz_M} {z : Nat × Nat} (X : ms_X p l e R s m args below meth c Qw D C z0 sc sa sv K d Y zs B Q) {a : Nat} {x : Int32} {v : Int32} {rest : List Value} (hd : decode Y.2.1 pc = .ok (.iastore, 1)) (hk : mz_kd M a = 1) (hi : vp_in x (mz_ln M a)) (h : ms_Pw p l e R s m args below meth c Qw D C z0 Y.2.2.1 zs B (pc + 1) L rest (mz_uI M a x.toNatClampNeg v) z) : ms_Pw p l e R s m args below meth c Qw D C z0 Y.2.2.1 zs B pc L (.int v :: .int x :: .ref a :: rest) M z := by
  intro H locs ls g
  obtain ⟨hx, hb, -, hown, hts, -, hE, -⟩ := X
  obtain ⟨h1, h2⟩ := mw_in g.kz hk (by omega)
  exact va_iast (D := D) hx hb hE.1 g.P mw_D g.S (a - z0) 0 (by rw [mw_get h1 h2, mw_k1 hk]) rfl hi hd (fun H1 locs1 hP1 _ hS1 => h H1 locs1 ls (g.mem (mw_set hP1 h1 h2 (by rw [mw_k1 (M := mz_uI M a x.toNatClampNeg v) hk, mw_uI1]; rfl) mw_oI) (fun _ => rfl) hS1))
theorem ms_bast {K : mz_K} {d : Nat} {Y : mz_Y} {zs B : Nat × Nat} {Q : mz_P} {pc : Nat} {L st : List Value} {M : mz_M} {z : Nat × Nat} (X : ms_X p l e R s m args below meth c Qw D C z0 sc sa sv K d Y zs B Q) {a : Nat} {x : Int32} {v : Int32} {rest : List Value} (hd : decode Y.2.1 pc = .ok (.bastore, 1)) (hk : mz_kd M a = 2) (hi : vp_in x (mz_ln M a)) (h : ms_Pw p l e R s m args below meth c Qw D C z0 Y.2.2.1 zs B (pc + 1) L rest (mz_uI M a x.toNatClampNeg (vp_nar .byte v)) z) : ms_Pw p l e R s m args below meth c Qw D C z0 Y.2.2.1 zs B pc L (.int v :: .int x :: .ref a :: rest) M z := by
  intro H locs ls g
  obtain ⟨hx, hb, -, hown, hts, -, hE, -⟩ := X
  obtain ⟨h1, h2⟩ := mw_in g.kz hk (by omega)
  exact va_bast (D := D) hx hb hE.1 g.P mw_D g.S (a - z0) 1 (by rw [mw_get h1 h2, mw_k2 hk]) rfl hi hd (fun H1 locs1 hP1 _ hS1 => h H1 locs1 ls (g.mem (mw_set hP1 h1 h2 (by rw [mw_k2 (M := mz_uI M a x.toNatClampNeg (vp_nar .byte v)) hk, mw_uI1]; rfl) mw_oI) (fun _ => rfl) hS1))
theorem ms_zast {K : mz_K} {d : Nat} {Y : mz_Y} {zs B : Nat × Nat} {Q : mz_P} {pc : Nat} {L st : List Value} {M : mz_M} {z : Nat × Nat} (X : ms_X p l e R s m args below meth c Qw D C z0 sc sa sv K d Y zs B Q) {a : Nat} {x : Int32} {v : Int32} {rest : List Value} (hd : decode Y.2.1 pc = .ok (.bastore, 1)) (hk : mz_kd M a = 3) (hi : vp_in x (mz_ln M a)) (h : ms_Pw p l e R s m args below meth c Qw D C z0 Y.2.2.1 zs B (pc + 1) L rest (mz_uI M a x.toNatClampNeg (vp_nar .boolean v)) z) : ms_Pw p l e R s m args below meth c Qw D C z0 Y.2.2.1 zs B pc L (.int v :: .int x :: .ref a :: rest) M z := by
  intro H locs ls g
  obtain ⟨hx, hb, -, hown, hts, -, hE, -⟩ := X
  obtain ⟨h1, h2⟩ := mw_in g.kz hk (by omega)
  exact va_zast (D := D) hx hb hE.1 g.P mw_D g.S (a - z0) 2 (by rw [mw_get h1 h2, mw_k3 hk]) rfl hi hd (fun H1 locs1 hP1 _ hS1 => h H1 locs1 ls (g.mem (mw_set hP1 h1 h2 (by rw [mw_k3 (M := mz_uI M a x.toNatClampNeg (vp_nar .boolean v)) hk, mw_uI1]; rfl) mw_oI) (fun _ => rfl) hS1))
theorem ms_last {K : mz_K} {d : Nat} {Y : mz_Y} {zs B : Nat × Nat} {Q : mz_P} {pc : Nat} {L st : List Value} {M : mz_M} {z : Nat × Nat} (X : ms_X p l e R s m args below meth c Qw D C z0 sc sa sv K d Y zs B Q) {a : Nat} {x : Int32} {v : Int64} {rest : List Value} (hd : decode Y.2.1 pc = .ok (.lastore, 1)) (hk : mz_kd M a = 4) (hi : vp_in x (mz_ln M a)) (h : ms_Pw p l e R s m args below meth c Qw D C z0 Y.2.2.1 zs B (pc + 1) L rest (mz_uJ M a x.toNatClampNeg v) z) : ms_Pw p l e R s m args below meth c Qw D C z0 Y.2.2.1 zs B pc L (.long v :: .int x :: .ref a :: rest) M z := by
  intro H locs ls g
  obtain ⟨hx, hb, -, hown, hts, -, hE, -⟩ := X
  obtain ⟨h1, h2⟩ := mw_in g.kz hk (by omega)
  exact va_last (D := D) hx hb hE.1 g.P mw_D g.S (a - z0) 3 (by rw [mw_get h1 h2, mw_k4 hk]) rfl hi hd (fun H1 locs1 hP1 _ hS1 => h H1 locs1 ls (g.mem (mw_set hP1 h1 h2 (by rw [mw_k4 (M := mz_uJ M a x.toNatClampNeg v) hk, mw_uJ1]; rfl) mw_oJ) (fun _ => rfl) hS1))
theorem ms_aast {K : mz_K} {d : Nat} {Y : mz_Y} {zs B : Nat × Nat} {Q : mz_P} {pc : Nat} {L st : List Value} {M : mz_M} {z : Nat × Nat} (X : ms_X p l e R s m args below meth c Qw D C z0 sc sa sv K d Y zs B Q) {a v : Nat} {x : Int32} {rest : List Value} (hd : decode Y.2.1 pc = .ok (.aastore, 1)) (hk : mz_kd M a = 5) (hv : mz_kd M v = 12) (hi : vp_in x (mz_ln M a)) (h : ms_Pw p l e R s m args below meth c Qw D C z0 Y.2.2.1 zs B (pc + 1) L rest (mz_uR M a x.toNatClampNeg (some v)) z) : ms_Pw p l e R s m args below meth c Qw D C z0 Y.2.2.1 zs B pc L (.ref v :: .int x :: .ref a :: rest) M z := by
  intro H locs ls g
  obtain ⟨hx, hb, -, hown, hts, -, hE, -⟩ := X
  obtain ⟨h1, h2⟩ := mw_in g.kz hk (by omega)
  obtain ⟨h3, h4⟩ := mw_in g.kz hv (by omega)
  exact va_astq (D := D) hx hb hE.1 g.P mw_D g.S (a - z0) 4 (v - z0) 2 (by rw [mw_get h1 h2, mw_k5 hk]) rfl (by rw [mw_get h3 h4, mw_ko (c := 2) (by omega) hv]) (mz_cl_at 2 (by omega)) hi hd (fun H1 locs1 hP1 _ hS1 => h H1 locs1 ls (g.mem (mw_set hP1 h1 h2 (by rw [mw_k5 (M := mz_uR M a x.toNatClampNeg (some v)) hk, mw_uR1]; rfl) mw_oR) (fun _ => rfl) hS1))
theorem ms_alen {K : mz_K} {d : Nat} {Y : mz_Y} {zs B : Nat × Nat} {Q : mz_P} {pc : Nat} {L st : List Value} {M : mz_M} {z : Nat × Nat} (X : ms_X p l e R s m args below meth c Qw D C z0 sc sa sv K d Y zs B Q) {a : Nat} {rest : List Value} (hd : decode Y.2.1 pc = .ok (.arraylength, 1)) (hk : mz_kd M a = 1 ∨ mz_kd M a = 2 ∨ mz_kd M a = 3 ∨ mz_kd M a = 4 ∨ mz_kd M a = 5) (h : ms_Pw p l e R s m args below meth c Qw D C z0 Y.2.2.1 zs B (pc + 1) L (.int (nI (mz_ln M a)) :: rest) M z) : ms_Pw p l e R s m args below meth c Qw D C z0 Y.2.2.1 zs B pc L (.ref a :: rest) M z := by
  intro H locs ls g
  obtain ⟨hx, hb, -, hown, hts, -, hE, -⟩ := X
  rcases hk with hk | hk | hk | hk | hk
  · obtain ⟨h1, h2⟩ := mw_in g.kz hk (by omega)
    exact va_alen (D := D) (x := (mz_ln M a, .inl (M.1 a))) (v := nI (mz_ln M a)) hx hb hE.1 g.P (a - z0) 0 (by rw [mw_get h1 h2, mw_k1 hk]) rfl rfl hd (h H locs ls g)
  · obtain ⟨h1, h2⟩ := mw_in g.kz hk (by omega)
    exact va_alen (D := D) (x := (mz_ln M a, .inl (M.1 a))) (v := nI (mz_ln M a)) hx hb hE.1 g.P (a - z0) 1 (by rw [mw_get h1 h2, mw_k2 hk]) rfl rfl hd (h H locs ls g)
  · obtain ⟨h1, h2⟩ := mw_in g.kz hk (by omega)
    exact va_alen (D := D) (x := (mz_ln M a, .inl (M.1 a))) (v := nI (mz_ln M a)) hx hb hE.1 g.P (a - z0) 2 (by rw [mw_get h1 h2, mw_k3 hk]) rfl rfl hd (h H locs ls g)
  · obtain ⟨h1, h2⟩ := mw_in g.kz hk (by omega)
    exact va_alen (D := D) (x := (mz_ln M a, .inr (.inl (M.2.1 a)))) (v := nI (mz_ln M a)) hx hb hE.1 g.P (a - z0) 3 (by rw [mw_get h1 h2, mw_k4 hk]) rfl rfl hd (h H locs ls g)
  · obtain ⟨h1, h2⟩ := mw_in g.kz hk (by omega)
    exact va_alen (D := D) (x := (mz_ln M a, .inr (.inr (.inr (.inr (M.2.2.1 a)))))) (v := nI (mz_ln M a)) hx hb hE.1 g.P (a - z0) 4 (by rw [mw_get h1 h2, mw_k5 hk]) rfl rfl hd (h H locs ls g)
theorem ms_scl {K : mz_K} {d : Nat} {Y : mz_Y} {zs B : Nat × Nat} {Q : mz_P} {pc : Nat} {L st : List Value} {M : mz_M} {z : Nat × Nat} (X : ms_X p l e R s m args below meth c Qw D C z0 sc sa sv K d Y zs B Q) {a b n : Nat} {f : Nat → Int32} {x : Int32} {rest : List Value} (hd : decode Y.2.1 pc = .ok (.iaload, 1)) (hs : sc = some (b, n, f)) (ha : a = b) (hi : vp_in x n) (h : ms_Pw p l e R s m args below meth c Qw D C z0 Y.2.2.1 zs B (pc + 1) L (.int (f x.toNatClampNeg) :: rest) M z) : ms_Pw p l e R s m args below meth c Qw D C z0 Y.2.2.1 zs B pc L (.int x :: .ref a :: rest) M z := by
  intro H locs ls g
  obtain ⟨hx, hb, -, hown, hts, -, hE, -⟩ := X
  obtain ⟨k1, k2, k3⟩ := hE.2.2.2.2.2.2 b n f hs
  subst ha
  exact va_sld hx hb k1 k3 (fun w => absurd k2 (Nat.not_lt.mpr w)) g.S hi hd (h H locs ls g)
theorem ms_scn {K : mz_K} {d : Nat} {Y : mz_Y} {zs B : Nat × Nat} {Q : mz_P} {pc : Nat} {L st : List Value} {M : mz_M} {z : Nat × Nat} (X : ms_X p l e R s m args below meth c Qw D C z0 sc sa sv K d Y zs B Q) {a b n : Nat} {f : Nat → Int32} {rest : List Value} (hd : decode Y.2.1 pc = .ok (.arraylength, 1)) (hs : sc = some (b, n, f)) (ha : a = b) (h : ms_Pw p l e R s m args below meth c Qw D C z0 Y.2.2.1 zs B (pc + 1) L (.int (nI n) :: rest) M z) : ms_Pw p l e R s m args below meth c Qw D C z0 Y.2.2.1 zs B pc L (.ref a :: rest) M z := by
  intro H locs ls g
  obtain ⟨hx, hb, -, hown, hts, -, hE, -⟩ := X
  obtain ⟨k1, k2, k3⟩ := hE.2.2.2.2.2.2 b n f hs
  subst ha
  exact va_slen hx hb k1 k3 (fun w => absurd k2 (Nat.not_lt.mpr w)) g.S hd (h H locs ls g)
theorem ms_born {zs B : Nat × Nat} {L : List Value} {M : mz_M} {z : Nat × Nat} {Y2 : Nat} {H1 : Heap} {locs1 : List Loc} {q : Nat} {ev : va_E} {M2 : mz_M} {ls : Array Slot} {sl : Nat} {H : Heap} {locs : List Loc} (g : ms_G D C z0 s Y2 zs B L M z H locs ls) (hs : s.heap.size = zs.1) (hz : z0 ≤ zs.1) (hb1 : z.1 + 1 ≤ B.1) (hb2 : z.2 + sl ≤ B.2) (hP1 : va_P D mz_cl (mw_w C M z0 (z.1 - z0) ++ [(q, ev)]) H1) (hD1 : va_D (mw_A z0) (mw_w C M z0 (z.1 - z0) ++ [(q, ev)])) (hS1 : va_S (mw_A z0) s.heap H1 locs1) (hsz : H1.size ≤ s.heap.size + (z.1 - zs.1 + 1)) (he : mw_ce C M2 z.1 = ev) (ho : ∀ b, b ≠ z.1 → mw_ce C M2 b = mw_ce C M b) (hk : ∀ b, b ≠ z.1 → M2.2.2.2 b = M.2.2.2 b) : q = z.1 ∧ ms_G D C z0 s Y2 zs B L M2 (z.1 + 1, z.2 + sl) H1 locs1 ls := by
  have h1 := g.2.2.1
  have hl : (mw_w C M z0 (z.1 - z0)).length = z.1 - z0 := mw_len
  have hlast : (mw_w C M z0 (z.1 - z0) ++ [(q, ev)])[z.1 - z0]? = some (q, ev) := by
    rw [List.getElem?_append_right (by omega), hl, Nat.sub_self]
    rfl
  have hqlt : q < H1.size := (hP1 _ _ hlast).lt
  have hqA : z0 ≤ q := hD1.2 _ _ hlast
  have hq : q = z.1 := by
    by_cases hlt : q < z.1
    · have h3 := hD1.1 (q - z0) (z.1 - z0) (q, mw_ce C M q) (q, ev) (by rw [List.getElem?_append_left (by omega)]; exact mw_get hqA (by omega)) hlast rfl
      omega
    · omega
  subst hq
  refine ⟨rfl, g.1, g.2.1, Nat.le_succ_of_le h1, Nat.le_trans g.2.2.2.1 (Nat.le_add_right _ _), hb1, hb2, ?_, ?_, hS1⟩
  · show va_P D mz_cl (mw_w C M2 z0 (z.1 + 1 - z0)) H1
    rw [show z.1 + 1 - z0 = (z.1 - z0) + 1 by omega]
    refine mw_P fun a h2 h3 => ?_
    by_cases ha : a = z.1
    · subst ha
      rw [he]
      exact hP1 _ _ hlast
    · rw [ho a ha]
      exact hP1 (a - z0) _ (by rw [List.getElem?_append_left (by omega)]; exact mw_get h2 (by omega))
  · intro a ha
    show z0 ≤ a ∧ a < z0 + (z.1 + 1 - z0)
    by_cases hb : a = z.1
    · omega
    · rw [hk a hb] at ha
      have h4 := g.kz a ha
      omega
theorem ms_new {K : mz_K} {d : Nat} {Y : mz_Y} {zs B : Nat × Nat} {Q : mz_P} {pc : Nat} {L st : List Value} {M : mz_M} {z : Nat × Nat} (X : ms_X p l e R s m args below meth c Qw D C z0 sc sa sv K d Y zs B Q) {x c2 r : Nat} (hd : decode Y.2.1 pc = .ok (.new x, 3)) (h6 : c2 < 6) (hq : mz_LT r = some (Y.2.2.2.2.1, x, 4, c2, 0)) (hb1 : z.1 + 1 ≤ B.1) (hb2 : z.2 + mz_cS c2 ≤ B.2) (h : ms_Pw p l e R s m args below meth c Qw D C z0 Y.2.2.1 zs B (pc + 3) L (.ref z.1 :: st) (mz_new M z.1 (10 + c2) (mz_cS c2)) (z.1 + 1, z.2 + mz_cS c2)) : ms_Pw p l e R s m args below meth c Qw D C z0 Y.2.2.1 zs B pc L st M z := by
  intro H locs ls g
  obtain ⟨hx, hb, -, hown, hts, -, hE, -, hs, hz, hR, -⟩ := X
  have h1 := g.2.2.1
  have h2 := g.2.2.2.1
  have hr1 := hR.1
  have hr2 := hR.2.1
  refine va_new (D := D) (own := mz_cN Y.2.2.2.2.1) (ci := c2) (fs := mz_fs (mz_new M z.1 (10 + c2) (mz_cS c2)) c2 z.1) hx hb hts (mw_lay h6) (mz_cY c2) (mz_ty_ok c2 h6) hown (hts _ (mw_lt hq rfl)) (hts _ (mw_mem (mz_all_ins c2 h6))) (hts _ (ms_ini (by omega))) hE.1 g.P mw_D g.S (fun q w => Nat.le_trans hz (by rw [← hs]; exact w)) (mz_cl_at c2 h6) ?_ (by omega) (by omega) hd (fun q H1 hP1 hD1 hS1 => ms_size fun hsz => ?_)
  · intro j hj
    unfold vp_V
    rw [List.getD_eq_getElem?_getD, mw_fsG hj]
    show _ = mz_rd _ _ _ _
    unfold mz_rd mz_new va_up
    cases hi : mz_iR c2 j with
    | true =>
      rcases ms_rty c2 h6 j hj hi with ⟨n, e⟩ | ⟨t, e⟩ <;> rw [e] <;> simp [defaultValue, va_rf]
    | false =>
      have hi2 := hi
      unfold mz_iR at hi2
      cases hy : mz_cY c2 j <;> rw [hy] at hi2 <;> first | (simp [defaultValue]; done) | cases hi2
  · obtain ⟨e1, g2⟩ := ms_born (sl := mz_cS c2) (M2 := mz_new M z.1 (10 + c2) (mz_cS c2)) g hs hz hb1 hb2 hP1 hD1 hS1 hsz (by rw [mw_ko h6 (by unfold mz_kd mz_new va_up; simp)]) mw_oN (fun b hb => by unfold mz_new va_up; simp [hb])
    subst e1
    refine W.cs (cells' := z.1 + 1 - zs.1) (slots' := z.2 + mz_cS c2 - zs.2) (by omega) (by omega) ?_
    exact h H1 locs ls g2
theorem ms_na1 {K : mz_K} {d : Nat} {Y : mz_Y} {zs B : Nat × Nat} {Q : mz_P} {pc : Nat} {L st : List Value} {M : mz_M} {z : Nat × Nat} (X : ms_X p l e R s m args below meth c Qw D C z0 sc sa sv K d Y zs B Q) {n : Int32} {rest : List Value} (hd : decode Y.2.1 pc = .ok (.newarray .int, 2)) (hn : ¬ n < 0) (hm : n.toNatClampNeg ≤ 1000000) (hb1 : z.1 + 1 ≤ B.1) (hb2 : z.2 + n.toNatClampNeg ≤ B.2) (h : ms_Pw p l e R s m args below meth c Qw D C z0 Y.2.2.1 zs B (pc + 2) L (.ref z.1 :: rest) (mz_new M z.1 1 n.toNatClampNeg) (z.1 + 1, z.2 + n.toNatClampNeg)) : ms_Pw p l e R s m args below meth c Qw D C z0 Y.2.2.1 zs B pc L (.int n :: rest) M z := by
  intro H locs ls g
  obtain ⟨hx, hb, -, hown, hts, -, hE, -, hs, hz, hR, -⟩ := X
  have h1 := g.2.2.1
  have h2 := g.2.2.2.1
  have hr1 := hR.1
  have hr2 := hR.2.1
  refine va_newa (atype := .int) (ty := .int) (D := D) (a0 := (n.toNatClampNeg, .inl (fun _ => 0))) hx hb (hts _ (mw_mem mz_mis.2.2.2.2.2.1)) rfl hE.1 g.P mw_D g.S (fun q w => Nat.le_trans hz (by rw [← hs]; exact w)) (fun _ => rfl) hn rfl (by simp only [componentBytes]; omega) (by omega) (by omega) hd (fun q cA H1 hK1 hP1 hD1 hS1 => ms_size fun hsz => ?_)
  have hc : cA = C 1 := Option.some.inj ((hK1.2 5 _ rfl).2.symm.trans (hE.1.2 0 _ rfl).2)
  subst hc
  obtain ⟨e1, g2⟩ := ms_born (sl := n.toNatClampNeg) (M2 := mz_new M z.1 1 n.toNatClampNeg) g hs hz hb1 hb2 hP1 hD1 hS1 hsz (by rw [mw_k1 (by unfold mz_kd mz_new va_up; simp)]; unfold mz_ln mz_new va_up; simp) mw_oN (fun b hb => by unfold mz_new va_up; simp [hb])
  subst e1
  refine W.cs (cells' := z.1 + 1 - zs.1) (slots' := z.2 + n.toNatClampNeg - zs.2) (by omega) (by omega) ?_
  exact h H1 locs ls g2
theorem ms_na2 {K : mz_K} {d : Nat} {Y : mz_Y} {zs B : Nat × Nat} {Q : mz_P} {pc : Nat} {L st : List Value} {M : mz_M} {z : Nat × Nat} (X : ms_X p l e R s m args below meth c Qw D C z0 sc sa sv K d Y zs B Q) {n : Int32} {rest : List Value} (hd : decode Y.2.1 pc = .ok (.newarray .byte, 2)) (hn : ¬ n < 0) (hm : n.toNatClampNeg ≤ 1000000) (hb1 : z.1 + 1 ≤ B.1) (hb2 : z.2 + n.toNatClampNeg ≤ B.2) (h : ms_Pw p l e R s m args below meth c Qw D C z0 Y.2.2.1 zs B (pc + 2) L (.ref z.1 :: rest) (mz_new M z.1 2 n.toNatClampNeg) (z.1 + 1, z.2 + n.toNatClampNeg)) : ms_Pw p l e R s m args below meth c Qw D C z0 Y.2.2.1 zs B pc L (.int n :: rest) M z := by
  intro H locs ls g
  obtain ⟨hx, hb, -, hown, hts, -, hE, -, hs, hz, hR, -⟩ := X
  have h1 := g.2.2.1
  have h2 := g.2.2.2.1
  have hr1 := hR.1
  have hr2 := hR.2.1
  refine va_newa (atype := .byte) (ty := .byte) (D := D) (a0 := (n.toNatClampNeg, .inl (fun _ => 0))) hx hb (hts _ (mw_mem mz_mis.2.2.2.2.2.2.1)) rfl hE.1 g.P mw_D g.S (fun q w => Nat.le_trans hz (by rw [← hs]; exact w)) (fun _ => rfl) hn rfl (by simp only [componentBytes]; omega) (by omega) (by omega) hd (fun q cA H1 hK1 hP1 hD1 hS1 => ms_size fun hsz => ?_)
  have hc : cA = C 2 := Option.some.inj ((hK1.2 5 _ rfl).2.symm.trans (hE.1.2 1 _ rfl).2)
  subst hc
  obtain ⟨e1, g2⟩ := ms_born (sl := n.toNatClampNeg) (M2 := mz_new M z.1 2 n.toNatClampNeg) g hs hz hb1 hb2 hP1 hD1 hS1 hsz (by rw [mw_k2 (by unfold mz_kd mz_new va_up; simp)]; unfold mz_ln mz_new va_up; simp) mw_oN (fun b hb => by unfold mz_new va_up; simp [hb])
  subst e1
  refine W.cs (cells' := z.1 + 1 - zs.1) (slots' := z.2 + n.toNatClampNeg - zs.2) (by omega) (by omega) ?_
  exact h H1 locs ls g2
theorem ms_na3 {K : mz_K} {d : Nat} {Y : mz_Y} {zs B : Nat × Nat} {Q : mz_P} {pc : Nat} {L st : List Value} {M : mz_M} {z : Nat × Nat} (X : ms_X p l e R s m args below meth c Qw D C z0 sc sa sv K d Y zs B Q) {n : Int32} {rest : List Value} (hd : decode Y.2.1 pc = .ok (.newarray .boolean, 2)) (hn : ¬ n < 0) (hm : n.toNatClampNeg ≤ 1000000) (hb1 : z.1 + 1 ≤ B.1) (hb2 : z.2 + n.toNatClampNeg ≤ B.2) (h : ms_Pw p l e R s m args below meth c Qw D C z0 Y.2.2.1 zs B (pc + 2) L (.ref z.1 :: rest) (mz_new M z.1 3 n.toNatClampNeg) (z.1 + 1, z.2 + n.toNatClampNeg)) : ms_Pw p l e R s m args below meth c Qw D C z0 Y.2.2.1 zs B pc L (.int n :: rest) M z := by
  intro H locs ls g
  obtain ⟨hx, hb, -, hown, hts, -, hE, -, hs, hz, hR, -⟩ := X
  have h1 := g.2.2.1
  have h2 := g.2.2.2.1
  have hr1 := hR.1
  have hr2 := hR.2.1
  refine va_newa (atype := .boolean) (ty := .boolean) (D := D) (a0 := (n.toNatClampNeg, .inl (fun _ => 0))) hx hb (hts _ (mw_mem mz_mis.2.2.2.2.2.2.2.1)) rfl hE.1 g.P mw_D g.S (fun q w => Nat.le_trans hz (by rw [← hs]; exact w)) (fun _ => rfl) hn rfl (by simp only [componentBytes]; omega) (by omega) (by omega) hd (fun q cA H1 hK1 hP1 hD1 hS1 => ms_size fun hsz => ?_)
  have hc : cA = C 3 := Option.some.inj ((hK1.2 5 _ rfl).2.symm.trans (hE.1.2 2 _ rfl).2)
  subst hc
  obtain ⟨e1, g2⟩ := ms_born (sl := n.toNatClampNeg) (M2 := mz_new M z.1 3 n.toNatClampNeg) g hs hz hb1 hb2 hP1 hD1 hS1 hsz (by rw [mw_k3 (by unfold mz_kd mz_new va_up; simp)]; unfold mz_ln mz_new va_up; simp) mw_oN (fun b hb => by unfold mz_new va_up; simp [hb])
  subst e1
  refine W.cs (cells' := z.1 + 1 - zs.1) (slots' := z.2 + n.toNatClampNeg - zs.2) (by omega) (by omega) ?_
  exact h H1 locs ls g2
theorem ms_na4 {K : mz_K} {d : Nat} {Y : mz_Y} {zs B : Nat × Nat} {Q : mz_P} {pc : Nat} {L st : List Value} {M : mz_M} {z : Nat × Nat} (X : ms_X p l e R s m args below meth c Qw D C z0 sc sa sv K d Y zs B Q) {n : Int32} {rest : List Value} (hd : decode Y.2.1 pc = .ok (.newarray .long, 2)) (hn : ¬ n < 0) (hm : n.toNatClampNeg ≤ 1000000) (hb1 : z.1 + 1 ≤ B.1) (hb2 : z.2 + n.toNatClampNeg ≤ B.2) (h : ms_Pw p l e R s m args below meth c Qw D C z0 Y.2.2.1 zs B (pc + 2) L (.ref z.1 :: rest) (mz_new M z.1 4 n.toNatClampNeg) (z.1 + 1, z.2 + n.toNatClampNeg)) : ms_Pw p l e R s m args below meth c Qw D C z0 Y.2.2.1 zs B pc L (.int n :: rest) M z := by
  intro H locs ls g
  obtain ⟨hx, hb, -, hown, hts, -, hE, -, hs, hz, hR, -⟩ := X
  have h1 := g.2.2.1
  have h2 := g.2.2.2.1
  have hr1 := hR.1
  have hr2 := hR.2.1
  refine va_newa (atype := .long) (ty := .long) (D := D) (a0 := (n.toNatClampNeg, .inr (.inl (fun _ => 0)))) hx hb (hts _ (mw_mem mz_mis.2.2.2.2.2.2.2.2.1)) rfl hE.1 g.P mw_D g.S (fun q w => Nat.le_trans hz (by rw [← hs]; exact w)) (fun _ => rfl) hn rfl (by simp only [componentBytes]; omega) (by omega) (by omega) hd (fun q cA H1 hK1 hP1 hD1 hS1 => ms_size fun hsz => ?_)
  have hc : cA = C 4 := Option.some.inj ((hK1.2 5 _ rfl).2.symm.trans (hE.1.2 3 _ rfl).2)
  subst hc
  obtain ⟨e1, g2⟩ := ms_born (sl := n.toNatClampNeg) (M2 := mz_new M z.1 4 n.toNatClampNeg) g hs hz hb1 hb2 hP1 hD1 hS1 hsz (by rw [mw_k4 (by unfold mz_kd mz_new va_up; simp)]; unfold mz_ln mz_new va_up; simp) mw_oN (fun b hb => by unfold mz_new va_up; simp [hb])
  subst e1
  refine W.cs (cells' := z.1 + 1 - zs.1) (slots' := z.2 + n.toNatClampNeg - zs.2) (by omega) (by omega) ?_
  exact h H1 locs ls g2
theorem ms_nq {K : mz_K} {d : Nat} {Y : mz_Y} {zs B : Nat × Nat} {Q : mz_P} {pc : Nat} {L st : List Value} {M : mz_M} {z : Nat × Nat} (X : ms_X p l e R s m args below meth c Qw D C z0 sc sa sv K d Y zs B Q) {x r : Nat} {n : Int32} {rest : List Value} (hd : decode Y.2.1 pc = .ok (.anewarray x, 3)) (hq : mz_LT r = some (Y.2.2.2.2.1, x, 4, 2, 0)) (hn : ¬ n < 0) (hm : n.toNatClampNeg ≤ 1000000) (hb1 : z.1 + 1 ≤ B.1) (hb2 : z.2 + n.toNatClampNeg ≤ B.2) (h : ms_Pw p l e R s m args below meth c Qw D C z0 Y.2.2.1 zs B (pc + 3) L (.ref z.1 :: rest) (mz_new M z.1 5 n.toNatClampNeg) (z.1 + 1, z.2 + n.toNatClampNeg)) : ms_Pw p l e R s m args below meth c Qw D C z0 Y.2.2.1 zs B pc L (.int n :: rest) M z := by
  intro H locs ls g
  obtain ⟨hx, hb, -, hown, hts, -, hE, -, hs, hz, hR, -⟩ := X
  have h1 := g.2.2.1
  have h2 := g.2.2.2.1
  have hr1 := hR.1
  have hr2 := hR.2.1
  refine va_newq (C := "RerootStore$Story") (D := D) (own := mz_cN Y.2.2.2.2.1) hx hb hown (hts _ (mw_lt hq rfl)) hE.2.1 hE.1 g.P mw_D g.S (fun q w => Nat.le_trans hz (by rw [← hs]; exact w)) hn rfl (by omega) (by omega) (by omega) hd (fun q cA H1 hK1 hP1 hD1 hS1 => ms_size fun hsz => ?_)
  obtain ⟨kA, comp, -, -, -, f1⟩ := (hK1.2 5 _ rfl).2
  obtain ⟨kA2, comp2, -, -, -, f2⟩ := (hE.1.2 4 _ rfl).2
  have hc : cA = C 5 := Option.some.inj (f1.symm.trans f2)
  subst hc
  obtain ⟨e1, g2⟩ := ms_born (sl := n.toNatClampNeg) (M2 := mz_new M z.1 5 n.toNatClampNeg) g hs hz hb1 hb2 hP1 hD1 hS1 hsz (by rw [mw_k5 (by unfold mz_kd mz_new va_up; simp)]; unfold mz_ln mz_new va_up; simp) mw_oN (fun b hb => by unfold mz_new va_up; simp [hb])
  subst e1
  refine W.cs (cells' := z.1 + 1 - zs.1) (slots' := z.2 + n.toNatClampNeg - zs.2) (by omega) (by omega) ?_
  exact h H1 locs ls g2
end
end
section
section
variable {p : Program} {l : Launch} {e : Env} {R : Room} {s : State} {m : MethodId} {args : Array Value} {below : List Frame} {meth : Method} {c : Code} {Qw : State → Prop}
variable {D : va_G} {C : Nat → ClassId} {z0 : Nat} {sc : Option (Nat × Nat × (Nat → Int32))} {sa sv : Nat → Nat}
theorem ms_cv {K : mz_K} {d : Nat} {Y : mz_Y} {zs B : Nat × Nat} {Q : mz_P} {pc : Nat} {L st : List Value} {M : mz_M} {z : Nat × Nat} (X : ms_X p l e R s m args below meth c Qw D C z0 sc sa sv K d Y zs B Q) {x y n c2 r a : Nat} {z' : Nat × Nat} (hd : decode Y.2.1 pc = .ok (.invokevirtual x, 3)) (hy : y < 292) (h6 : c2 < 6) (hc : c2 = (mz_yD y).2.2.2.2.1) (hn : n = mz_np.getD y 0) (hi : (mz_yD y).2.2.2.2.2.1 = false) (hst : mz_sts y = false) (hq : mz_LT r = some (Y.2.2.2.2.1, x, 5, y, 0)) (ha : st[n]? = some (.ref a)) (hk : mz_kd M a = 10 + c2) (hlen : n + 1 ≤ st.length) (hsum : mz_sum (st.drop (n + 1)) ≤ 8) (hz1 : z.1 ≤ z'.1) (hz2 : z.2 ≤ z'.2) (hz3 : z'.1 ≤ B.1) (hz4 : z'.2 ≤ B.2) (hK : K y (st.take (n + 1)).reverse M z z' (fun r M' => ms_Pw p l e R s m args below meth c Qw D C z0 Y.2.2.1 zs B (pc + 3) L (r.toList ++ st.drop (n + 1)) M' z')) : ms_Pw p l e R s m args below meth c Qw D C z0 Y.2.2.1 zs B pc L st M z := by
  intro H locs ls g
  obtain ⟨hx, hb, hml, hown, hts, -, hE, -, hs, hz, hR, hKs, -⟩ := X
  have u1 := g.2.2.1
  have u2 := g.2.2.2.1
  have u3 := g.S.1
  obtain ⟨r1, r2, r3, r4⟩ := hR
  obtain ⟨As, e1, e2, e3⟩ := ms_split hlen ha
  rw [e1] at hK
  obtain ⟨hd1, hM⟩ := hKs y _ M z z' _ hK hz1 hz2
  unfold mw_Met at hM
  rw [mw_y_of hy] at hM
  obtain ⟨f1, f2, f3, f4, f5, f6, f7⟩ := ms_cmf hy
  refine ms_size fun hsz0 => ?_
  have hsz := g.sz hs hz hsz0
  obtain ⟨h1, h2⟩ := mw_in g.kz hk (by omega)
  have he : (mw_w C M z0 (z.1 - z0))[a - z0]? = some (a, .inr (c2, mz_fs M c2 a)) := by rw [mw_get h1 h2, mw_ko h6 hk]
  have hcl : (mz_yD y).1.cls = mz_cN c2 := by rw [f2, hc]
  have hsel := (f7 hst).2 hi
  rw [hcl] at hsel
  refine ms_call (st0 := st) (rest := st.drop (n + 1)) (va_runV (C := mz_cN c2) ⟨hx, hb, hml, hown, hts⟩ hM ⟨callB_of (mz_np.getD y 0) hts (ms_good (ms_code hy)) rfl rfl rfl (by rw [f2]; exact hts _ (ms_ini (by omega))) (hts _ (mw_lt hq rfl)) ⟨by rw [f2]; exact (mz_pln _ f3).2.1, by rw [f2]; exact (mz_pln _ f3).2.2, f5⟩ ⟨by show d - 1 + 1 ≤ R.frames; omega, by show 8 + ((mz_yD y).2.2.1 + 11) + 39 * (d - 1) ≤ R.locals; omega⟩, hts _ (f7 hst).1, hts _ hsel⟩ ⟨mw_blind, va_recv hE.1 g.P (mz_cl_at c2 h6) he, fun U hU hW => ⟨rfl, mw_E.go hW (by rw [hU]; exact u3) (fun q a1 a2 => by rw [hU]; exact g.S.2.1 q a1 a2) hE, by rw [hU]; exact hsz, Nat.le_trans hz u1, by rw [hU]; exact g.P, g.kz⟩⟩ rfl (by rw [← hn]; exact e2) (g.1.1.trans g.2.1) e3 (lv_room hsum) hd ⟨by omega, by omega⟩) g.S (fun r M' H1 locs1 hq1 hP1 hk1 hS1 => ?_)
  refine W.cs (cells' := z'.1 - zs.1) (slots' := z'.2 - zs.2) (by omega) (by omega) ?_
  exact hq1 H1 locs1 ls ⟨g.1, g.2.1, Nat.le_trans u1 hz1, Nat.le_trans u2 hz2, hz3, hz4, hP1, hk1, hS1⟩
theorem ms_cs {K : mz_K} {d : Nat} {Y : mz_Y} {zs B : Nat × Nat} {Q : mz_P} {pc : Nat} {L st : List Value} {M : mz_M} {z : Nat × Nat} (X : ms_X p l e R s m args below meth c Qw D C z0 sc sa sv K d Y zs B Q) {x y n r : Nat} {z' : Nat × Nat} (hd : decode Y.2.1 pc = .ok (.invokestatic x, 3)) (hy : y < 292) (hn : n = mz_np.getD y 0) (hst : mz_sts y = true) (hq : mz_LT r = some (Y.2.2.2.2.1, x, 5, y, 0)) (hlen : n ≤ st.length) (hsum : mz_sum (st.drop n) ≤ 8) (hz1 : z.1 ≤ z'.1) (hz2 : z.2 ≤ z'.2) (hz3 : z'.1 ≤ B.1) (hz4 : z'.2 ≤ B.2) (hK : K y (st.take n).reverse M z z' (fun r M' => ms_Pw p l e R s m args below meth c Qw D C z0 Y.2.2.1 zs B (pc + 3) L (r.toList ++ st.drop n) M' z')) : ms_Pw p l e R s m args below meth c Qw D C z0 Y.2.2.1 zs B pc L st M z := by
  intro H locs ls g
  obtain ⟨hx, hb, hml, hown, hts, -, hE, -, hs, hz, hR, hKs, -⟩ := X
  have u1 := g.2.2.1
  have u2 := g.2.2.2.1
  have u3 := g.S.1
  obtain ⟨r1, r2, r3, r4⟩ := hR
  obtain ⟨hd1, hM⟩ := hKs y _ M z z' _ hK hz1 hz2
  unfold mw_Met at hM
  rw [mw_y_of hy] at hM
  obtain ⟨f1, f2, f3, f4, f5, f6, f7⟩ := ms_cmf hy
  refine ms_size fun hsz0 => ?_
  have hsz := g.sz hs hz hsz0
  refine ms_call (st0 := st) (rest := st.drop n) (va_runS ⟨hx, hb, hml, hown, hts⟩ hM ⟨callB_of (mz_np.getD y 0) hts (ms_good (ms_code hy)) rfl rfl rfl (by rw [f2]; exact hts _ (ms_ini (by omega))) (hts _ (mw_lt hq rfl)) ⟨by rw [f2]; exact (mz_pln _ f3).2.1, by rw [f2]; exact (mz_pln _ f3).2.2, f5⟩ ⟨by show d - 1 + 1 ≤ R.frames; omega, by show 8 + ((mz_yD y).2.2.1 + 11) + 39 * (d - 1) ≤ R.locals; omega⟩, hts _ (f6 hst)⟩ (As := (st.take n).reverse) ⟨mw_blind, fun U hU hW => ⟨rfl, mw_E.go hW (by rw [hU]; exact u3) (fun q a1 a2 => by rw [hU]; exact g.S.2.1 q a1 a2) hE, by rw [hU]; exact hsz, Nat.le_trans hz u1, by rw [hU]; exact g.P, g.kz⟩⟩ rfl (by rw [List.length_reverse, List.length_take]; omega) (g.1.1.trans g.2.1) (by rw [List.reverse_reverse]; exact (List.take_append_drop n st).symm) (lv_room hsum) hd ⟨by omega, by omega⟩) g.S (fun r M' H1 locs1 hq1 hP1 hk1 hS1 => ?_)
  refine W.cs (cells' := z'.1 - zs.1) (slots' := z'.2 - zs.2) (by omega) (by omega) ?_
  exact hq1 H1 locs1 ls ⟨g.1, g.2.1, Nat.le_trans u1 hz1, Nat.le_trans u2 hz2, hz3, hz4, hP1, hk1, hS1⟩
theorem ms_ci {K : mz_K} {d : Nat} {Y : mz_Y} {zs B : Nat × Nat} {Q : mz_P} {pc : Nat} {L st : List Value} {M : mz_M} {z : Nat × Nat} (X : ms_X p l e R s m args below meth c Qw D C z0 sc sa sv K d Y zs B Q) {x y n r a : Nat} {z' : Nat × Nat} (hd : decode Y.2.1 pc = .ok (.invokespecial x, 3)) (hy : y < 292) (hn : n = mz_np.getD y 0) (hi : (mz_yD y).2.2.2.2.2.1 = true) (hrt : (mz_yD y).2.2.2.1 = none) (hst : mz_sts y = false) (hq : mz_LT r = some (Y.2.2.2.2.1, x, 5, y, 0)) (ha : st[n]? = some (.ref a)) (hlen : n + 1 ≤ st.length) (hsum : mz_sum (st.drop (n + 1)) ≤ 8) (hz1 : z.1 ≤ z'.1) (hz2 : z.2 ≤ z'.2) (hz3 : z'.1 ≤ B.1) (hz4 : z'.2 ≤ B.2) (hK : K y (st.take (n + 1)).reverse M z z' (fun r M' => ms_Pw p l e R s m args below meth c Qw D C z0 Y.2.2.1 zs B (pc + 3) L (r.toList ++ st.drop (n + 1)) M' z')) : ms_Pw p l e R s m args below meth c Qw D C z0 Y.2.2.1 zs B pc L st M z := by
  intro H locs ls g
  obtain ⟨hx, hb, hml, hown, hts, -, hE, -, hs, hz, hR, hKs, -⟩ := X
  have u1 := g.2.2.1
  have u2 := g.2.2.2.1
  have u3 := g.S.1
  obtain ⟨r1, r2, r3, r4⟩ := hR
  obtain ⟨As, e1, e2, e3⟩ := ms_split hlen ha
  rw [e1] at hK
  obtain ⟨hd1, hM⟩ := hKs y _ M z z' _ hK hz1 hz2
  unfold mw_Met at hM
  rw [mw_y_of hy] at hM
  obtain ⟨f1, f2, f3, f4, f5, f6, f7⟩ := ms_cmf hy
  refine ms_size fun hsz0 => ?_
  have hsz := g.sz hs hz hsz0
  have hnm : (mz_yD y).1.name = "<init>" := by
    rw [hi] at f4
    exact of_decide_eq_true f4.symm
  refine ms_call (st0 := st) (rest := st.drop (n + 1)) (va_runI (bytes := (mz_yD y).2.1) (maxL := (mz_yD y).2.2.1) (n := mz_np.getD y 0) ⟨hx, hb, hml, hown, hts⟩ hM ⟨by rw [← hrt]; exact callB_of (mz_np.getD y 0) hts (ms_good (ms_code hy)) rfl rfl rfl (by rw [f2]; exact hts _ (ms_ini (by omega))) (hts _ (mw_lt hq rfl)) ⟨by rw [f2]; exact (mz_pln _ f3).2.1, by rw [f2]; exact (mz_pln _ f3).2.2, f5⟩ ⟨by show d - 1 + 1 ≤ R.frames; omega, by show 8 + ((mz_yD y).2.2.1 + 11) + 39 * (d - 1) ≤ R.locals; omega⟩, hnm, hts _ (f7 hst).1⟩ ⟨mw_blind, fun U hU hW => ⟨rfl, mw_E.go hW (by rw [hU]; exact u3) (fun q a1 a2 => by rw [hU]; exact g.S.2.1 q a1 a2) hE, by rw [hU]; exact hsz, Nat.le_trans hz u1, by rw [hU]; exact g.P, g.kz⟩⟩ rfl (by rw [← hn]; exact e2) (g.1.1.trans g.2.1) e3 (lv_room hsum) hd ⟨by omega, by omega⟩) g.S (fun r M' H1 locs1 hq1 hP1 hk1 hS1 => ?_)
  refine W.cs (cells' := z'.1 - zs.1) (slots' := z'.2 - zs.2) (by omega) (by omega) ?_
  exact hq1 H1 locs1 ls ⟨g.1, g.2.1, Nat.le_trans u1 hz1, Nat.le_trans u2 hz2, hz3, hz4, hP1, hk1, hS1⟩
theorem ms_cn {K : mz_K} {d : Nat} {Y : mz_Y} {zs B : Nat × Nat} {Q : mz_P} {pc : Nat} {L st : List Value} {M : mz_M} {z : Nat × Nat} (X : ms_X p l e R s m args below meth c Qw D C z0 sc sa sv K d Y zs B Q) {x y n r a : Nat} {z' : Nat × Nat} (hd : decode Y.2.1 pc = .ok (.invokespecial x, 3)) (hy : y < 292) (hn : n = mz_np.getD y 0) (hi : (mz_yD y).2.2.2.2.2.1 = true) (hrt : (mz_yD y).2.2.2.1 = none) (hst : mz_sts y = false) (hq : mz_LT r = some (Y.2.2.2.2.1, x, 10, y, 0)) (ha : st[n]? = some (.ref a)) (hlen : n + 1 ≤ st.length) (hsum : mz_sum (st.drop (n + 1)) ≤ 8) (hz1 : z.1 ≤ z'.1) (hz2 : z.2 ≤ z'.2) (hz3 : z'.1 ≤ B.1) (hz4 : z'.2 ≤ B.2) (hK : K y (st.take (n + 1)).reverse M z z' (fun r M' => ms_Pw p l e R s m args below meth c Qw D C z0 Y.2.2.1 zs B (pc + 3) L (r.toList ++ st.drop (n + 1)) M' z')) : ms_Pw p l e R s m args below meth c Qw D C z0 Y.2.2.1 zs B pc L st M z := by
  intro H locs ls g
  obtain ⟨hx, hb, hml, hown, hts, -, hE, -, hs, hz, hR, hKs, -⟩ := X
  have u1 := g.2.2.1
  have u2 := g.2.2.2.1
  have u3 := g.S.1
  obtain ⟨r1, r2, r3, r4⟩ := hR
  obtain ⟨As, e1, e2, e3⟩ := ms_split hlen ha
  rw [e1] at hK
  obtain ⟨hd1, hM⟩ := hKs y _ M z z' _ hK hz1 hz2
  unfold mw_Met at hM
  rw [mw_y_of hy] at hM
  obtain ⟨f1, f2, f3, f4, f5, f6, f7⟩ := ms_cmf hy
  refine ms_size fun hsz0 => ?_
  have hsz := g.sz hs hz hsz0
  have hnm : (mz_yD y).1.name = "<init>" := by
    rw [hi] at f4
    exact of_decide_eq_true f4.symm
  refine ms_call (st0 := st) (rest := st.drop (n + 1)) (va_runIN (host := "RerootStore") (bytes := (mz_yD y).2.1) (maxL := (mz_yD y).2.2.1) (n := mz_np.getD y 0) ⟨hx, hb, hml, hown, hts⟩ hM ⟨by rw [← hrt]; exact va_cnB (mz_np.getD y 0) hts (ms_good (ms_code hy)) rfl rfl rfl (hE.2.2.2.1 r (Y.2.2.2.2.1, x, 10, y, 0) hq rfl) (by rw [f2]; exact hts _ (ms_ini (by omega))) ⟨by rw [f2]; exact (mz_pln _ f3).2.1, by rw [f2]; exact (mz_pln _ f3).2.2, f5⟩ ⟨by show d - 1 + 1 ≤ R.frames; omega, by show 8 + ((mz_yD y).2.2.1 + 11) + 39 * (d - 1) ≤ R.locals; omega⟩, hnm, hts _ (f7 hst).1⟩ ⟨mw_blind, fun U hU hW => ⟨rfl, mw_E.go hW (by rw [hU]; exact u3) (fun q a1 a2 => by rw [hU]; exact g.S.2.1 q a1 a2) hE, by rw [hU]; exact hsz, Nat.le_trans hz u1, by rw [hU]; exact g.P, g.kz⟩⟩ rfl (by rw [← hn]; exact e2) (g.1.1.trans g.2.1) e3 (lv_room hsum) hd ⟨by omega, by omega⟩) g.S (fun r M' H1 locs1 hq1 hP1 hk1 hS1 => ?_)
  refine W.cs (cells' := z'.1 - zs.1) (slots' := z'.2 - zs.2) (by omega) (by omega) ?_
  exact hq1 H1 locs1 ls ⟨g.1, g.2.1, Nat.le_trans u1 hz1, Nat.le_trans u2 hz2, hz3, hz4, hP1, hk1, hS1⟩
theorem ms_sw : mz_in 117 (.initialized "java/lang/String") = true ∧ mz_in 421 (.instanceMethod ⟨"java/lang/String", "length", "()I"⟩) = true ∧ mz_in 422 (.selects "java/lang/String" ⟨"java/lang/String", "length", "()I"⟩ ⟨"java/lang/String", "length", "()I"⟩) = true ∧ mz_in 423 (.code ⟨"java/lang/String", "length", "()I"⟩ prog_10_method_54_code 1 (some .int)) = true ∧ mz_in 431 (.instanceMethod ⟨"java/lang/String", "charAt", "(I)C"⟩) = true ∧ mz_in 432 (.selects "java/lang/String" ⟨"java/lang/String", "charAt", "(I)C"⟩ ⟨"java/lang/String", "charAt", "(I)C"⟩) = true ∧ mz_in 433 (.code ⟨"java/lang/String", "charAt", "(I)C"⟩ prog_10_method_56_code 2 (some .char)) = true := by decide +kernel
theorem ms_csl {K : mz_K} {d : Nat} {Y : mz_Y} {zs B : Nat × Nat} {Q : mz_P} {pc : Nat} {L st : List Value} {M : mz_M} {z : Nat × Nat} (X : ms_X p l e R s m args below meth c Qw D C z0 sc sa sv K d Y zs B Q) {x r i : Nat} (hd : decode Y.2.1 pc = .ok (.invokevirtual x, 3)) (hq : mz_LT r = some (Y.2.2.2.2.1, x, 8, 0, 0)) (hi : i < 10) (ha : st[0]? = some (.ref (sa i))) (hlen : 0 + 1 ≤ st.length) (hsum : mz_sum (st.drop (0 + 1)) ≤ 8) (hK : K 400 (st.take (0 + 1)).reverse M z z (fun r M' => ms_Pw p l e R s m args below meth c Qw D C z0 Y.2.2.1 zs B (pc + 3) L (r.toList ++ st.drop (0 + 1)) M' z)) : ms_Pw p l e R s m args below meth c Qw D C z0 Y.2.2.1 zs B pc L st M z := by
  intro H locs ls g
  obtain ⟨hx, hb, hml, hown, hts, -, hE, -, hs, hz, hR, hKs, -⟩ := X
  have u1 := g.2.2.1
  have u2 := g.2.2.2.1
  have u3 := g.S.1
  obtain ⟨r1, r2, r3, r4⟩ := hR
  obtain ⟨As, e1, e2, e3⟩ := ms_split hlen ha
  rw [e1] at hK
  obtain ⟨hd1, hM⟩ := hKs 400 _ M z z _ hK (Nat.le_refl _) (Nat.le_refl _)
  have hM2 : Met l ⟨"java/lang/String", "length", "()I"⟩ (.code ⟨"java/lang/String", "length", "()I"⟩ _ 1 _ :: mw_Ts) _ _ _ _ _ _ := hM
  refine ms_size fun hsz0 => ?_
  have hsz := g.sz hs hz hsz0
  have w1 := g.2.2.2.2.1
  have w2 := g.2.2.2.2.2.1
  refine ms_call (st0 := st) (rest := st.drop (0 + 1)) (va_runV (C := "java/lang/String") (n := 0) (maxL := 1) ⟨hx, hb, hml, hown, hts⟩ hM2 ⟨callB_of 0 hts (ms_good (mw_mem ms_sw.2.2.2.1)) rfl rfl rfl (hts _ (mw_mem ms_sw.1)) (hts _ (mw_lt hq rfl)) ⟨by decide, by decide, by decide +kernel⟩ ⟨by show d - 1 + 1 ≤ R.frames; omega, by show 8 + (1 + 11) + 39 * (d - 1) ≤ R.locals; omega⟩, hts _ (mw_mem ms_sw.2.1), hts _ (mw_mem ms_sw.2.2.1)⟩ ⟨mw_blind, vk_recv hE.2.2.2.2.1 hi g.S, fun U hU hW => ⟨rfl, mw_E.go hW (by rw [hU]; exact u3) (fun q a1 a2 => by rw [hU]; exact g.S.2.1 q a1 a2) hE, by rw [hU]; exact hsz, Nat.le_trans hz u1, by rw [hU]; exact g.P, g.kz⟩⟩ rfl e2 (g.1.1.trans g.2.1) e3 (lv_room hsum) hd ⟨by omega, by omega⟩) g.S (fun r M' H1 locs1 hq1 hP1 hk1 hS1 => ?_)
  refine W.cs (cells' := z.1 - zs.1) (slots' := z.2 - zs.2) (by omega) (by omega) ?_
  exact hq1 H1 locs1 ls ⟨g.1, g.2.1, u1, u2, w1, w2, hP1, hk1, hS1⟩
theorem ms_csc {K : mz_K} {d : Nat} {Y : mz_Y} {zs B : Nat × Nat} {Q : mz_P} {pc : Nat} {L st : List Value} {M : mz_M} {z : Nat × Nat} (X : ms_X p l e R s m args below meth c Qw D C z0 sc sa sv K d Y zs B Q) {x r i : Nat} (hd : decode Y.2.1 pc = .ok (.invokevirtual x, 3)) (hq : mz_LT r = some (Y.2.2.2.2.1, x, 9, 0, 0)) (hi : i < 10) (ha : st[1]? = some (.ref (sa i))) (hlen : 1 + 1 ≤ st.length) (hsum : mz_sum (st.drop (1 + 1)) ≤ 8) (hK : K 401 (st.take (1 + 1)).reverse M z z (fun r M' => ms_Pw p l e R s m args below meth c Qw D C z0 Y.2.2.1 zs B (pc + 3) L (r.toList ++ st.drop (1 + 1)) M' z)) : ms_Pw p l e R s m args below meth c Qw D C z0 Y.2.2.1 zs B pc L st M z := by
  intro H locs ls g
  obtain ⟨hx, hb, hml, hown, hts, -, hE, -, hs, hz, hR, hKs, -⟩ := X
  have u1 := g.2.2.1
  have u2 := g.2.2.2.1
  have u3 := g.S.1
  obtain ⟨r1, r2, r3, r4⟩ := hR
  obtain ⟨As, e1, e2, e3⟩ := ms_split hlen ha
  rw [e1] at hK
  obtain ⟨hd1, hM⟩ := hKs 401 _ M z z _ hK (Nat.le_refl _) (Nat.le_refl _)
  have hM2 : Met l ⟨"java/lang/String", "charAt", "(I)C"⟩ (.code ⟨"java/lang/String", "charAt", "(I)C"⟩ _ 2 _ :: mw_Ts) _ _ _ _ _ _ := hM
  refine ms_size fun hsz0 => ?_
  have hsz := g.sz hs hz hsz0
  have w1 := g.2.2.2.2.1
  have w2 := g.2.2.2.2.2.1
  refine ms_call (st0 := st) (rest := st.drop (1 + 1)) (va_runV (C := "java/lang/String") (n := 1) (maxL := 2) ⟨hx, hb, hml, hown, hts⟩ hM2 ⟨callB_of 1 hts (ms_good (mw_mem ms_sw.2.2.2.2.2.2)) rfl rfl rfl (hts _ (mw_mem ms_sw.1)) (hts _ (mw_lt hq rfl)) ⟨by decide, by decide, by decide +kernel⟩ ⟨by show d - 1 + 1 ≤ R.frames; omega, by show 8 + (2 + 11) + 39 * (d - 1) ≤ R.locals; omega⟩, hts _ (mw_mem ms_sw.2.2.2.2.1), hts _ (mw_mem ms_sw.2.2.2.2.2.1)⟩ ⟨mw_blind, vk_recv hE.2.2.2.2.1 hi g.S, fun U hU hW => ⟨rfl, mw_E.go hW (by rw [hU]; exact u3) (fun q a1 a2 => by rw [hU]; exact g.S.2.1 q a1 a2) hE, by rw [hU]; exact hsz, Nat.le_trans hz u1, by rw [hU]; exact g.P, g.kz⟩⟩ rfl e2 (g.1.1.trans g.2.1) e3 (lv_room hsum) hd ⟨by omega, by omega⟩) g.S (fun r M' H1 locs1 hq1 hP1 hk1 hS1 => ?_)
  refine W.cs (cells' := z.1 - zs.1) (slots' := z.2 - zs.2) (by omega) (by omega) ?_
  exact hq1 H1 locs1 ls ⟨g.1, g.2.1, u1, u2, w1, w2, hP1, hk1, hS1⟩
theorem ms_oi {K : mz_K} {d : Nat} {Y : mz_Y} {zs B : Nat × Nat} {Q : mz_P} {pc : Nat} {L st : List Value} {M : mz_M} {z : Nat × Nat} (X : ms_X p l e R s m args below meth c Qw D C z0 sc sa sv K d Y zs B Q) {x r a : Nat} {rest : List Value} (hd : decode Y.2.1 pc = .ok (.invokespecial x, 3)) (hq : mz_LT r = some (Y.2.2.2.2.1, x, 6, 0, 0)) (h1d : 1 ≤ d) (hsum : mz_sum rest ≤ 8) (h : ms_Pw p l e R s m args below meth c Qw D C z0 Y.2.2.1 zs B (pc + 3) L rest M z) : ms_Pw p l e R s m args below meth c Qw D C z0 Y.2.2.1 zs B pc L (.ref a :: rest) M z := by
  intro H locs ls g
  obtain ⟨hx, hb, hml, hown, hts, -, hE, -, hs, hz, hR, hKs, -⟩ := X
  obtain ⟨r1, r2, r3, r4⟩ := hR
  unfold mz_sum at hsum
  exact W.objInit hx hb hown (hts _ (mw_lt hq rfl)) (hts _ (mw_mem mz_mis.2.1)) (hts _ (mw_mem mz_mis.2.2.1)) rfl (by rw [hml]; exact g.1.1.trans g.2.1) rfl hd (by omega) (by show 2 * 0 + _ + 12 ≤ _; omega) (h H locs ls g)
theorem ms_mx {K : mz_K} {d : Nat} {Y : mz_Y} {zs B : Nat × Nat} {Q : mz_P} {pc : Nat} {L st : List Value} {M : mz_M} {z : Nat × Nat} (X : ms_X p l e R s m args below meth c Qw D C z0 sc sa sv K d Y zs B Q) {ix r : Nat} {x y : Int32} {rest : List Value} (hd : decode Y.2.1 pc = .ok (.invokestatic ix, 3)) (hq : mz_LT r = some (Y.2.2.2.2.1, ix, 5, 292, 0)) (h1d : 1 ≤ d) (hsum : mz_sum rest ≤ 8) (h : ms_Pw p l e R s m args below meth c Qw D C z0 Y.2.2.1 zs B (pc + 3) L (.int (if x < y then y else x) :: rest) M z) : ms_Pw p l e R s m args below meth c Qw D C z0 Y.2.2.1 zs B pc L (.int y :: .int x :: rest) M z := by
  intro H locs ls g
  obtain ⟨hx, hb, hml, hown, hts, -, hE, -, hs, hz, hR, hKs, -⟩ := X
  obtain ⟨r1, r2, r3, r4⟩ := hR
  have u1 := g.2.2.1
  have u2 := g.2.2.2.1
  have w1 := g.2.2.2.2.1
  have w2 := g.2.2.2.2.2.1
  unfold mz_sum at hsum
  have en : (mz_yD 292).1 = Lib.Math.max.name := by decide +kernel
  have hl : Cond.methodLink (mz_cN Y.2.2.2.2.1) ix Lib.Math.max.name ∈ mw_Ts := by
    rw [← en]
    exact mw_lt hq rfl
  exact va_mmax hx hb (by rw [hml]; exact (g.1.1.trans g.2.1).symm) hown (hts _ hl) (hts _ (mw_mem mz_mis.2.2.2.2.2.2.2.2.2.2.2.1)) (hts _ (ms_ini (c := 8) (by omega))) (hts _ (mw_mem mz_mis.2.2.2.2.2.2.2.2.2.2.1)) (by omega) (by omega) (by omega) (by omega) hd (h H locs ls g)
theorem ms_mn {K : mz_K} {d : Nat} {Y : mz_Y} {zs B : Nat × Nat} {Q : mz_P} {pc : Nat} {L st : List Value} {M : mz_M} {z : Nat × Nat} (X : ms_X p l e R s m args below meth c Qw D C z0 sc sa sv K d Y zs B Q) {ix r : Nat} {x y : Int32} {rest : List Value} (hd : decode Y.2.1 pc = .ok (.invokestatic ix, 3)) (hq : mz_LT r = some (Y.2.2.2.2.1, ix, 5, 293, 0)) (h1d : 1 ≤ d) (hsum : mz_sum rest ≤ 8) (h : ms_Pw p l e R s m args below meth c Qw D C z0 Y.2.2.1 zs B (pc + 3) L (.int (if y < x then y else x) :: rest) M z) : ms_Pw p l e R s m args below meth c Qw D C z0 Y.2.2.1 zs B pc L (.int y :: .int x :: rest) M z := by
  intro H locs ls g
  obtain ⟨hx, hb, hml, hown, hts, -, hE, -, hs, hz, hR, hKs, -⟩ := X
  obtain ⟨r1, r2, r3, r4⟩ := hR
  have u1 := g.2.2.1
  have u2 := g.2.2.2.1
  have w1 := g.2.2.2.2.1
  have w2 := g.2.2.2.2.2.1
  unfold mz_sum at hsum
  have en : (mz_yD 293).1 = Lib.Math.min.name := by decide +kernel
  have hl : Cond.methodLink (mz_cN Y.2.2.2.2.1) ix Lib.Math.min.name ∈ mw_Ts := by
    rw [← en]
    exact mw_lt hq rfl
  exact va_mmin hx hb (by rw [hml]; exact (g.1.1.trans g.2.1).symm) hown (hts _ hl) (hts _ (mw_mem mz_mis.2.2.2.2.2.2.2.2.2.2.2.2.2)) (hts _ (ms_ini (c := 8) (by omega))) (hts _ (mw_mem mz_mis.2.2.2.2.2.2.2.2.2.2.2.2.1)) (by omega) (by omega) (by omega) (by omega) hd (h H locs ls g)
theorem ms_cpi {K : mz_K} {d : Nat} {Y : mz_Y} {zs B : Nat × Nat} {Q : mz_P} {pc : Nat} {L st : List Value} {M : mz_M} {z : Nat × Nat} (X : ms_X p l e R s m args below meth c Qw D C z0 sc sa sv K d Y zs B Q) {ix r a b : Nat} {x1 x2 x3 : Int32} {rest : List Value} (hd : decode Y.2.1 pc = .ok (.invokestatic ix, 3)) (hq : mz_LT r = some (Y.2.2.2.2.1, ix, 7, 0, 0)) (h1d : 1 ≤ d) (hsum : mz_sum rest ≤ 8) (hc : mz_cop M a b x1 x2 x3) (ha : mz_kd M a = 1) (hb2 : mz_kd M b = 1) (h : ms_Pw p l e R s m args below meth c Qw D C z0 Y.2.2.1 zs B (pc + 3) L rest (mz_cI M b (va_cpy (M.1 a) (M.1 b) x1.toNatClampNeg x2.toNatClampNeg x3.toNatClampNeg)) z) : ms_Pw p l e R s m args below meth c Qw D C z0 Y.2.2.1 zs B pc L (.int x3 :: .int x2 :: .ref b :: .int x1 :: .ref a :: rest) M z := by
  intro H locs ls g
  obtain ⟨hx, hb, hml, hown, hts, -, hE, -, hs, hz, hR, hKs, -⟩ := X
  obtain ⟨r1, r2, r3, r4⟩ := hR
  obtain ⟨h1, h2⟩ := mw_in g.kz ha (by omega)
  obtain ⟨h3, h4⟩ := mw_in g.kz hb2 (by omega)
  obtain ⟨c1, c2, c3, c4, c5⟩ := hc
  unfold mz_sum at hsum
  have hw : nativeFrameWords "java/lang/System" "arraycopy" 5 = 7 := by decide +kernel
  exact va_copyi (D := D) (ty := .int) hx hb (by rw [hml]; exact (g.1.1.trans g.2.1).symm) hown (hts _ (mw_lt hq rfl)) (hts _ (mw_mem mz_mis.2.2.2.2.1)) (hts _ (mw_mem mz_mis.2.2.2.1)) (hts _ (mw_mem mz_mis.1)) hE.1 g.P mw_D g.S (a - z0) (b - z0) 0 0 (by rw [mw_get h1 h2, mw_k1 ha]) (by rw [mw_get h3 h4, mw_k1 hb2]) rfl rfl rfl c1 c2 c3 c4 c5 (fun _ _ => rfl) (by omega) (by omega) hd (fun H1 locs1 hP1 _ hS1 => h H1 locs1 ls (g.mem (mw_set hP1 h3 h4 (by rw [mw_k1 (M := mz_cI M b _) hb2, mw_cI1]; rfl) mw_ocI) (fun _ => rfl) hS1))
theorem ms_cpl {K : mz_K} {d : Nat} {Y : mz_Y} {zs B : Nat × Nat} {Q : mz_P} {pc : Nat} {L st : List Value} {M : mz_M} {z : Nat × Nat} (X : ms_X p l e R s m args below meth c Qw D C z0 sc sa sv K d Y zs B Q) {ix r a b : Nat} {x1 x2 x3 : Int32} {rest : List Value} (hd : decode Y.2.1 pc = .ok (.invokestatic ix, 3)) (hq : mz_LT r = some (Y.2.2.2.2.1, ix, 7, 0, 0)) (h1d : 1 ≤ d) (hsum : mz_sum rest ≤ 8) (hc : mz_cop M a b x1 x2 x3) (ha : mz_kd M a = 4) (hb2 : mz_kd M b = 4) (h : ms_Pw p l e R s m args below meth c Qw D C z0 Y.2.2.1 zs B (pc + 3) L rest (mz_cJ M b (va_cpy (M.2.1 a) (M.2.1 b) x1.toNatClampNeg x2.toNatClampNeg x3.toNatClampNeg)) z) : ms_Pw p l e R s m args below meth c Qw D C z0 Y.2.2.1 zs B pc L (.int x3 :: .int x2 :: .ref b :: .int x1 :: .ref a :: rest) M z := by
  intro H locs ls g
  obtain ⟨hx, hb, hml, hown, hts, -, hE, -, hs, hz, hR, hKs, -⟩ := X
  obtain ⟨r1, r2, r3, r4⟩ := hR
  obtain ⟨h1, h2⟩ := mw_in g.kz ha (by omega)
  obtain ⟨h3, h4⟩ := mw_in g.kz hb2 (by omega)
  obtain ⟨c1, c2, c3, c4, c5⟩ := hc
  unfold mz_sum at hsum
  have hw : nativeFrameWords "java/lang/System" "arraycopy" 5 = 7 := by decide +kernel
  exact va_copyl (D := D) (ty := .long) hx hb (by rw [hml]; exact (g.1.1.trans g.2.1).symm) hown (hts _ (mw_lt hq rfl)) (hts _ (mw_mem mz_mis.2.2.2.2.1)) (hts _ (mw_mem mz_mis.2.2.2.1)) (hts _ (mw_mem mz_mis.1)) hE.1 g.P mw_D g.S (a - z0) (b - z0) 3 3 (by rw [mw_get h1 h2, mw_k4 ha]) (by rw [mw_get h3 h4, mw_k4 hb2]) rfl rfl rfl c1 c2 c3 c4 c5 (fun _ _ => rfl) (by omega) (by omega) hd (fun H1 locs1 hP1 _ hS1 => h H1 locs1 ls (g.mem (mw_set hP1 h3 h4 (by rw [mw_k4 (M := mz_cJ M b _) hb2, mw_cJ1]; rfl) mw_ocJ) (fun _ => rfl) hS1))
end
end
section
section
variable {p : Program} {l : Launch} {e : Env} {R : Room} {s : State} {m : MethodId} {args : Array Value} {below : List Frame} {meth : Method} {c : Code} {Qw : State → Prop}
variable {D : va_G} {C : Nat → ClassId} {z0 : Nat} {sc : Option (Nat × Nat × (Nat → Int32))} {sa sv : Nat → Nat}
theorem ms_ln {i : Instr} {ln : Nat} (h : mz_ln0 i ln = true) (hi : ∀ a b c d, i ≠ .tableswitch a b c d) : ln = mz_il i := by
  unfold mz_ln0 at h
  split at h
  · exact absurd rfl (hi _ _ _ _)
  · exact Nat.eq_of_beq_eq_true h
theorem ms_jmp {pc : Nat} {off : Int} {t : Nat} (h : mz_jmp pc off [t] = true) : (pc : Int) + off = (t : Int) := of_decide_eq_true h
theorem ms_ldcSW {H : Heap} {locs : List Loc} {cells slots pc : Nat} {ls : Array Slot} {rest : List Value} {cc : ByteArray} (hexec : p.tables.exec = Jvm.exec) (hb : c.code = cc) {own tx : String} {index q : Nat} (hown : s.vm.findClass own = some m.cls) (hZ : vk_R own index tx q s) (hdg : decode cc pc = .ok (.ldc_w index, 3)) (k : W p l e R s m args below meth c H locs cells slots Qw (F0 m (pc + 3) ls (.ref q :: rest))) : W p l e R s m args below meth c H locs cells slots Qw (F0 m pc ls rest) := by
  intro T hT X
  obtain ⟨t, a1, b1⟩ := k T hT X
  exact ⟨t, X.ldcStringW hexec hown (text := tx) (a := q) hZ.1 hZ.2 (g := F0 m pc ls rest) rfl (by rw [hb]; exact hdg) t a1, b1⟩
theorem ms_l1 {K : mz_K} {d : Nat} {Y : mz_Y} {zs B : Nat × Nat} {Q : mz_P} {pc : Nat} {L st : List Value} {M : mz_M} {z : Nat × Nat} (X : ms_X p l e R s m args below meth c Qw D C z0 sc sa sv K d Y zs B Q) {x r w : Nat} (hd : decode Y.2.1 pc = .ok (.ldc x, 2)) (hq : mz_LT r = some (Y.2.2.2.2.1, x, 1, w, 0)) (h : ms_Pw p l e R s m args below meth c Qw D C z0 Y.2.2.1 zs B (pc + 2) L (.int (Int32.ofNat w) :: st) M z) : ms_Pw p l e R s m args below meth c Qw D C z0 Y.2.2.1 zs B pc L st M z := by
  intro H locs ls g
  obtain ⟨hx, hb, -, hown, hts, -, hE, -⟩ := X
  exact lv_ldc hx hb hown (hts _ (mw_lt hq rfl)) hd (h H locs ls g)
theorem ms_l2 {K : mz_K} {d : Nat} {Y : mz_Y} {zs B : Nat × Nat} {Q : mz_P} {pc : Nat} {L st : List Value} {M : mz_M} {z : Nat × Nat} (X : ms_X p l e R s m args below meth c Qw D C z0 sc sa sv K d Y zs B Q) {x r w : Nat} (hd : decode Y.2.1 pc = .ok (.ldc x, 2)) (hq : mz_LT r = some (Y.2.2.2.2.1, x, 3, w, 0)) (h : ms_Pw p l e R s m args below meth c Qw D C z0 Y.2.2.1 zs B (pc + 2) L (.ref (sa w) :: st) M z) : ms_Pw p l e R s m args below meth c Qw D C z0 Y.2.2.1 zs B pc L st M z := by
  intro H locs ls g
  obtain ⟨hx, hb, -, hown, hts, -, hE, -⟩ := X
  have hZ : vk_R (mz_cN Y.2.2.2.2.1) x (mz_str w) (sa w) s := hE.2.2.1 r (Y.2.2.2.2.1, x, 3, w, 0) hq rfl
  exact va_ldcS hx hb hown hZ hd (h H locs ls g)
theorem ms_l3 {K : mz_K} {d : Nat} {Y : mz_Y} {zs B : Nat × Nat} {Q : mz_P} {pc : Nat} {L st : List Value} {M : mz_M} {z : Nat × Nat} (X : ms_X p l e R s m args below meth c Qw D C z0 sc sa sv K d Y zs B Q) {x r w : Nat} (hd : decode Y.2.1 pc = .ok (.ldc_w x, 3)) (hq : mz_LT r = some (Y.2.2.2.2.1, x, 1, w, 0)) (h : ms_Pw p l e R s m args below meth c Qw D C z0 Y.2.2.1 zs B (pc + 3) L (.int (Int32.ofNat w) :: st) M z) : ms_Pw p l e R s m args below meth c Qw D C z0 Y.2.2.1 zs B pc L st M z := by
  intro H locs ls g
  obtain ⟨hx, hb, -, hown, hts, -, hE, -⟩ := X
  exact lv_ldcw hx hb hown (hts _ (mw_lt hq rfl)) hd (h H locs ls g)
theorem ms_l4 {K : mz_K} {d : Nat} {Y : mz_Y} {zs B : Nat × Nat} {Q : mz_P} {pc : Nat} {L st : List Value} {M : mz_M} {z : Nat × Nat} (X : ms_X p l e R s m args below meth c Qw D C z0 sc sa sv K d Y zs B Q) {x r w : Nat} (hd : decode Y.2.1 pc = .ok (.ldc_w x, 3)) (hq : mz_LT r = some (Y.2.2.2.2.1, x, 3, w, 0)) (h : ms_Pw p l e R s m args below meth c Qw D C z0 Y.2.2.1 zs B (pc + 3) L (.ref (sa w) :: st) M z) : ms_Pw p l e R s m args below meth c Qw D C z0 Y.2.2.1 zs B pc L st M z := by
  intro H locs ls g
  obtain ⟨hx, hb, -, hown, hts, -, hE, -⟩ := X
  have hZ : vk_R (mz_cN Y.2.2.2.2.1) x (mz_str w) (sa w) s := hE.2.2.1 r (Y.2.2.2.2.1, x, 3, w, 0) hq rfl
  exact ms_ldcSW hx hb hown hZ hd (h H locs ls g)
theorem ms_l5 {K : mz_K} {d : Nat} {Y : mz_Y} {zs B : Nat × Nat} {Q : mz_P} {pc : Nat} {L st : List Value} {M : mz_M} {z : Nat × Nat} (X : ms_X p l e R s m args below meth c Qw D C z0 sc sa sv K d Y zs B Q) {x r w : Nat} (hd : decode Y.2.1 pc = .ok (.ldc2_w x, 3)) (hq : mz_LT r = some (Y.2.2.2.2.1, x, 2, w, 0)) (h : ms_Pw p l e R s m args below meth c Qw D C z0 Y.2.2.1 zs B (pc + 3) L (.long (Int64.ofNat w) :: st) M z) : ms_Pw p l e R s m args below meth c Qw D C z0 Y.2.2.1 zs B pc L st M z := by
  intro H locs ls g
  obtain ⟨hx, hb, -, hown, hts, -, hE, -⟩ := X
  exact lv_ldc2 hx hb hown (hts _ (mw_lt hq rfl)) hd (h H locs ls g)
theorem ms_pfm {K : mz_K} {d : Nat} {Y : mz_Y} {zs B : Nat × Nat} {Q : mz_P} {pc : Nat} {L st : List Value} {M : mz_M} {z : Nat × Nat} (X : ms_X p l e R s m args below meth c Qw D C z0 sc sa sv K d Y zs B Q) {x c2 j r a : Nat} {rest : List Value} {v : Value} (hd : decode Y.2.1 pc = .ok (.putfield x, 3)) (h6 : c2 < 6) (hj : j < mz_cS c2) (hq : mz_LT r = some (Y.2.2.2.2.1, x, 0, c2, j)) (hk : mz_kd M a = 10 + c2) (hf : (mz_cF c2 j).2.2.2 = true → Y.2.2.2.2.2.1 = true ∧ Y.2.2.2.2.1 = c2) (h : match v with | .int x => mz_iR c2 j = false ∧ narrow (mz_cY c2 j) (.int x) = .int x ∧ fits (mz_cY c2 j) (.int x) = true ∧ ms_Pw p l e R s m args below meth c Qw D C z0 Y.2.2.1 zs B (pc + 3) L rest (mz_uI M a j x) z | .ref x => mz_iR c2 j = true ∧ ms_Pw p l e R s m args below meth c Qw D C z0 Y.2.2.1 zs B (pc + 3) L rest (mz_uR M a j (some x)) z | _ => False) : ms_Pw p l e R s m args below meth c Qw D C z0 Y.2.2.1 zs B pc L (v :: .ref a :: rest) M z := by
  cases v
  case int xv =>
    obtain ⟨k1, k2, k3, h⟩ := h
    exact ms_pf (st := rest) X hd h6 hj hq hk hf k2 k3 (mw_fsI hj k1) (fun _ => rfl) mw_oI h
  case ref xv =>
    obtain ⟨k1, h⟩ := h
    refine ms_pf (st := rest) (M2 := mz_uR M a j (some xv)) X hd h6 hj hq hk hf ?_ ?_ (mw_fsR hj k1) (fun _ => rfl) mw_oR h
    · rcases ms_rty c2 h6 j hj k1 with ⟨n, w⟩ | ⟨t, w⟩ <;> rw [w] <;> rfl
    · rcases ms_rty c2 h6 j hj k1 with ⟨n, w⟩ | ⟨t, w⟩ <;> rw [w] <;> rfl
  all_goals exact h.elim
set_option maxHeartbeats 40000000 in
theorem ms_step {K : mz_K} {d : Nat} {Y : mz_Y} {zs B : Nat × Nat} {Q : mz_P} (X : ms_X p l e R s m args below meth c Qw D C z0 sc sa sv K d Y zs B Q) : ∀ (pc : Nat) (L st : List Value) (M : mz_M) (z : Nat × Nat), mz_nx sc sa K d Y B Q (ms_Pw p l e R s m args below meth c Qw D C z0 Y.2.2.1 zs B) pc L st M z → ms_Pw p l e R s m args below meth c Qw D C z0 Y.2.2.1 zs B pc L st M z := by
  intro pc L st M z h
  have XX := X
  obtain ⟨hx, hb, hml, hown, hts, hin, hE, hck, hs, hz, hR, hKs, hend⟩ := XX
  unfold mz_nx at h
  split at h
  · exact h.elim
  rename_i ent hent
  obtain ⟨i, ln, tg⟩ := ent
  have hc0 := List.all_eq_true.mp hck _ (mz_lk_mem hent)
  simp only [Bool.and_eq_true, decide_eq_true_eq] at hc0
  obtain ⟨⟨hd, hl0⟩, ck⟩ := hc0
  replace h : mz_stp sc sa K d Y B Q (ms_Pw p l e R s m args below meth c Qw D C z0 Y.2.2.1 zs B) i tg pc L st M z := h
  have hln : (∀ a b c d, i ≠ .tableswitch a b c d) → ln = mz_il i := ms_ln hl0
  clear hl0 hck hent
  cases i
  case iconst =>
    have hl := hln (fun _ _ _ _ h9 => by cases h9)
    subst hl
    intro H locs ls g
    exact lv_iconst hx hb hd rfl (h H locs ls g)
  case bipush =>
    have hl := hln (fun _ _ _ _ h9 => by cases h9)
    subst hl
    intro H locs ls g
    exact lv_bipush hx hb hd rfl (h H locs ls g)
  case sipush =>
    have hl := hln (fun _ _ _ _ h9 => by cases h9)
    subst hl
    intro H locs ls g
    exact lv_sipush hx hb hd rfl (h H locs ls g)
  case lconst =>
    have hl := hln (fun _ _ _ _ h9 => by cases h9)
    subst hl
    intro H locs ls g
    exact lv_lconst hx hb hd rfl (h H locs ls g)
  case aconst_null =>
    have hl := hln (fun _ _ _ _ h9 => by cases h9)
    subst hl
    intro H locs ls g
    exact lv_null hx hb hd (h H locs ls g)
  case iload =>
    have hl := hln (fun _ _ _ _ h9 => by cases h9)
    subst hl
    obtain ⟨x, hx1, h⟩ := mz_gI_e h
    intro H locs ls g
    exact lv_iload hx hb hd (g.1.2.2 _ _ hx1 rfl) (h H locs ls g)
  case iload_n =>
    have hl := hln (fun _ _ _ _ h9 => by cases h9)
    subst hl
    obtain ⟨x, hx1, h⟩ := mz_gI_e h
    intro H locs ls g
    exact lv_iload_n hx hb hd rfl (g.1.2.2 _ _ hx1 rfl) (h H locs ls g)
  case lload =>
    have hl := hln (fun _ _ _ _ h9 => by cases h9)
    subst hl
    obtain ⟨x, hx1, h⟩ := mz_gJ_e h
    intro H locs ls g
    exact lv_lload hx hb hd (g.1.2.2 _ _ hx1 rfl) (h H locs ls g)
  case lload_n =>
    have hl := hln (fun _ _ _ _ h9 => by cases h9)
    subst hl
    obtain ⟨x, hx1, h⟩ := mz_gJ_e h
    intro H locs ls g
    exact lv_lload_n hx hb hd rfl (g.1.2.2 _ _ hx1 rfl) (h H locs ls g)
  case aload =>
    have hl := hln (fun _ _ _ _ h9 => by cases h9)
    subst hl
    obtain ⟨v, hx1, h, ho⟩ := mz_gA_e (f := fun x => ms_Pw p l e R s m args below meth c Qw D C z0 Y.2.2.1 zs B (pc + 2) L (x :: st) M z) h
    intro H locs ls g
    rcases ho with rfl | ⟨a, rfl⟩
    · exact lv_aloadN hx hb hd (g.1.2.2 _ _ hx1 rfl) (h H locs ls g)
    · exact lv_aload hx hb hd (g.1.2.2 _ _ hx1 rfl) (h H locs ls g)
  case aload_n =>
    have hl := hln (fun _ _ _ _ h9 => by cases h9)
    subst hl
    obtain ⟨v, hx1, h, ho⟩ := mz_gA_e (f := fun x => ms_Pw p l e R s m args below meth c Qw D C z0 Y.2.2.1 zs B (pc + 1) L (x :: st) M z) h
    intro H locs ls g
    rcases ho with rfl | ⟨a, rfl⟩
    · exact lv_aload_nN hx hb hd rfl (g.1.2.2 _ _ hx1 rfl) (h H locs ls g)
    · exact lv_aload_n hx hb hd rfl (g.1.2.2 _ _ hx1 rfl) (h H locs ls g)
  case istore =>
    have hl := hln (fun _ _ _ _ h9 => by cases h9)
    subst hl
    obtain ⟨x, r, rfl, hj, h⟩ := mz_pI_e h
    intro H locs ls g
    exact lv_istore hx hb hd g.1.has hj rfl (fun ls2 hl2 => h H locs ls2 (g.loc (mw_L1 hj hl2) mw_s1l))
  case istore_n =>
    have hl := hln (fun _ _ _ _ h9 => by cases h9)
    subst hl
    obtain ⟨x, r, rfl, hj, h⟩ := mz_pI_e h
    intro H locs ls g
    exact lv_istore_n hx hb hd rfl g.1.has hj rfl (fun ls2 hl2 => h H locs ls2 (g.loc (mw_L1 hj hl2) mw_s1l))
  case lstore =>
    have hl := hln (fun _ _ _ _ h9 => by cases h9)
    subst hl
    obtain ⟨x, r, rfl, hj, h⟩ := mz_pJ_e h
    intro H locs ls g
    exact lv_lstore hx hb hd g.1.has hj rfl (fun ls2 hl2 => h H locs ls2 (g.loc (mw_L2 hj hl2) (by unfold mz_st2; rw [List.length_set, mw_s1l])))
  case lstore_n =>
    have hl := hln (fun _ _ _ _ h9 => by cases h9)
    subst hl
    obtain ⟨x, r, rfl, hj, h⟩ := mz_pJ_e h
    intro H locs ls g
    exact lv_lstore_n hx hb hd rfl g.1.has hj rfl (fun ls2 hl2 => h H locs ls2 (g.loc (mw_L2 hj hl2) (by unfold mz_st2; rw [List.length_set, mw_s1l])))
  case astore j =>
    have hl := hln (fun _ _ _ _ h9 => by cases h9)
    subst hl
    obtain ⟨v, r, rfl, ⟨hj, h⟩, ho⟩ := mz_pA_e (f := fun x r => (j : Nat) < L.length ∧ ms_Pw p l e R s m args below meth c Qw D C z0 Y.2.2.1 zs B (pc + 2) (mz_st1 L j x) r M z) h
    intro H locs ls g
    rcases ho with rfl | ⟨a, rfl⟩
    · exact lv_astoreN hx hb hd g.1.has hj rfl (fun ls2 hl2 => h H locs ls2 (g.loc (mw_L1 hj hl2) mw_s1l))
    · exact lv_astore hx hb hd g.1.has hj rfl (fun ls2 hl2 => h H locs ls2 (g.loc (mw_L1 hj hl2) mw_s1l))
  case astore_n j =>
    have hl := hln (fun _ _ _ _ h9 => by cases h9)
    subst hl
    obtain ⟨v, r, rfl, ⟨hj, h⟩, ho⟩ := mz_pA_e (f := fun x r => (j : Nat) < L.length ∧ ms_Pw p l e R s m args below meth c Qw D C z0 Y.2.2.1 zs B (pc + 1) (mz_st1 L j x) r M z) h
    intro H locs ls g
    rcases ho with rfl | ⟨a, rfl⟩
    · exact lv_astore_nN hx hb hd rfl g.1.has hj rfl (fun ls2 hl2 => h H locs ls2 (g.loc (mw_L1 hj hl2) mw_s1l))
    · exact lv_astore_n hx hb hd rfl g.1.has hj rfl (fun ls2 hl2 => h H locs ls2 (g.loc (mw_L1 hj hl2) mw_s1l))
  case iinc =>
    have hl := hln (fun _ _ _ _ h9 => by cases h9)
    subst hl
    obtain ⟨x, hx1, h⟩ := mz_gI_e h
    intro H locs ls g
    obtain ⟨k, hk⟩ := List.getElem?_of_mem (mw_pr_mem.mpr ⟨hx1, rfl⟩)
    have hj := (List.getElem?_eq_some_iff.mp hx1).1
    exact lv_iinc hx hb hd g.1.has hk rfl hj rfl (fun ls2 hl2 => h H locs ls2 (g.loc (mw_L1 hj hl2) mw_s1l))
  case iadd =>
    have hl := hln (fun _ _ _ _ h9 => by cases h9)
    subst hl
    obtain ⟨y, r, rfl, h⟩ := mz_pI_e h
    obtain ⟨x, r, rfl, h⟩ := mz_pI_e h
    intro H locs ls g
    exact lv_iadd hx hb hd (h H locs ls g)
  case isub =>
    have hl := hln (fun _ _ _ _ h9 => by cases h9)
    subst hl
    obtain ⟨y, r, rfl, h⟩ := mz_pI_e h
    obtain ⟨x, r, rfl, h⟩ := mz_pI_e h
    intro H locs ls g
    exact lv_isub hx hb hd (h H locs ls g)
  case imul =>
    have hl := hln (fun _ _ _ _ h9 => by cases h9)
    subst hl
    obtain ⟨y, r, rfl, h⟩ := mz_pI_e h
    obtain ⟨x, r, rfl, h⟩ := mz_pI_e h
    intro H locs ls g
    exact lv_imul hx hb hd (h H locs ls g)
  case iand =>
    have hl := hln (fun _ _ _ _ h9 => by cases h9)
    subst hl
    obtain ⟨y, r, rfl, h⟩ := mz_pI_e h
    obtain ⟨x, r, rfl, h⟩ := mz_pI_e h
    intro H locs ls g
    exact lv_iand hx hb hd (h H locs ls g)
  case ior =>
    have hl := hln (fun _ _ _ _ h9 => by cases h9)
    subst hl
    obtain ⟨y, r, rfl, h⟩ := mz_pI_e h
    obtain ⟨x, r, rfl, h⟩ := mz_pI_e h
    intro H locs ls g
    exact lv_ior hx hb hd (h H locs ls g)
  case ixor =>
    have hl := hln (fun _ _ _ _ h9 => by cases h9)
    subst hl
    obtain ⟨y, r, rfl, h⟩ := mz_pI_e h
    obtain ⟨x, r, rfl, h⟩ := mz_pI_e h
    intro H locs ls g
    exact lv_ixor hx hb hd (h H locs ls g)
  case ishl =>
    have hl := hln (fun _ _ _ _ h9 => by cases h9)
    subst hl
    obtain ⟨y, r, rfl, h⟩ := mz_pI_e h
    obtain ⟨x, r, rfl, h⟩ := mz_pI_e h
    intro H locs ls g
    exact lv_ishl hx hb hd (h H locs ls g)
  case ishr =>
    have hl := hln (fun _ _ _ _ h9 => by cases h9)
    subst hl
    obtain ⟨y, r, rfl, h⟩ := mz_pI_e h
    obtain ⟨x, r, rfl, h⟩ := mz_pI_e h
    intro H locs ls g
    exact lv_ishr hx hb hd (h H locs ls g)
  case idiv =>
    have hl := hln (fun _ _ _ _ h9 => by cases h9)
    subst hl
    obtain ⟨y, r, rfl, h⟩ := mz_pI_e h
    obtain ⟨x, r, rfl, h0, h⟩ := mz_pI_e h
    intro H locs ls g
    exact lv_idiv hx hb hd h0 (h H locs ls g)
  case irem =>
    have hl := hln (fun _ _ _ _ h9 => by cases h9)
    subst hl
    obtain ⟨y, r, rfl, h⟩ := mz_pI_e h
    obtain ⟨x, r, rfl, h0, h⟩ := mz_pI_e h
    intro H locs ls g
    exact lv_irem hx hb hd h0 (h H locs ls g)
  case iushr =>
    have hl := hln (fun _ _ _ _ h9 => by cases h9)
    subst hl
    obtain ⟨y, r, rfl, h⟩ := mz_pI_e h
    obtain ⟨x, r, rfl, h⟩ := mz_pI_e h
    intro H locs ls g
    exact lv_iushr hx hb hd rfl (h H locs ls g)
  case land =>
    have hl := hln (fun _ _ _ _ h9 => by cases h9)
    subst hl
    obtain ⟨y, r, rfl, h⟩ := mz_pJ_e h
    obtain ⟨x, r, rfl, h⟩ := mz_pJ_e h
    intro H locs ls g
    exact lv_land hx hb hd (h H locs ls g)
  case lor =>
    have hl := hln (fun _ _ _ _ h9 => by cases h9)
    subst hl
    obtain ⟨y, r, rfl, h⟩ := mz_pJ_e h
    obtain ⟨x, r, rfl, h⟩ := mz_pJ_e h
    intro H locs ls g
    exact lv_lor hx hb hd (h H locs ls g)
  case lxor =>
    have hl := hln (fun _ _ _ _ h9 => by cases h9)
    subst hl
    obtain ⟨y, r, rfl, h⟩ := mz_pJ_e h
    obtain ⟨x, r, rfl, h⟩ := mz_pJ_e h
    intro H locs ls g
    exact lv_lxor hx hb hd (h H locs ls g)
  case lshl =>
    have hl := hln (fun _ _ _ _ h9 => by cases h9)
    subst hl
    obtain ⟨y, r, rfl, h⟩ := mz_pI_e h
    obtain ⟨x, r, rfl, h⟩ := mz_pJ_e h
    intro H locs ls g
    exact lv_lshl hx hb hd rfl (h H locs ls g)
  case lshr =>
    have hl := hln (fun _ _ _ _ h9 => by cases h9)
    subst hl
    obtain ⟨y, r, rfl, h⟩ := mz_pI_e h
    obtain ⟨x, r, rfl, h⟩ := mz_pJ_e h
    intro H locs ls g
    exact lv_lshr hx hb hd rfl (h H locs ls g)
  case lushr =>
    have hl := hln (fun _ _ _ _ h9 => by cases h9)
    subst hl
    obtain ⟨y, r, rfl, h⟩ := mz_pI_e h
    obtain ⟨x, r, rfl, h⟩ := mz_pJ_e h
    intro H locs ls g
    exact lv_lushr hx hb hd rfl (h H locs ls g)
  case i2l =>
    have hl := hln (fun _ _ _ _ h9 => by cases h9)
    subst hl
    obtain ⟨x, r, rfl, h⟩ := mz_pI_e h
    intro H locs ls g
    exact lv_i2l hx hb hd rfl (h H locs ls g)
  case l2i =>
    have hl := hln (fun _ _ _ _ h9 => by cases h9)
    subst hl
    obtain ⟨x, r, rfl, h⟩ := mz_pJ_e h
    intro H locs ls g
    exact lv_l2i hx hb hd rfl (h H locs ls g)
  case i2b =>
    have hl := hln (fun _ _ _ _ h9 => by cases h9)
    subst hl
    obtain ⟨x, r, rfl, h⟩ := mz_pI_e h
    intro H locs ls g
    exact lv_i2b hx hb hd rfl (h H locs ls g)
  case lcmp =>
    have hl := hln (fun _ _ _ _ h9 => by cases h9)
    subst hl
    obtain ⟨y, r, rfl, h⟩ := mz_pJ_e h
    obtain ⟨x, r, rfl, h⟩ := mz_pJ_e h
    intro H locs ls g
    exact W.lcmp hx hb hd (h H locs ls g)
  case dup =>
    have hl := hln (fun _ _ _ _ h9 => by cases h9)
    subst hl
    obtain ⟨v, r, rfl, h0, h⟩ := mz_pV_e h
    intro H locs ls g
    exact lv_dup hx hb hd h0 (h H locs ls g)
  case pop =>
    have hl := hln (fun _ _ _ _ h9 => by cases h9)
    subst hl
    obtain ⟨v, r, rfl, h0, h⟩ := mz_pV_e h
    intro H locs ls g
    exact lv_pop hx hb hd h0 (h H locs ls g)
  case dup2 =>
    have hl := hln (fun _ _ _ _ h9 => by cases h9)
    subst hl
    obtain ⟨v, r, rfl, h⟩ := mz_pV_e h
    obtain ⟨w, r, rfl, h0, h1, h⟩ := mz_pV_e h
    intro H locs ls g
    exact lv_dup2_11 hx hb hd h0 h1 (h H locs ls g)
  case ifCond cd off =>
    have hl := hln (fun _ _ _ _ h9 => by cases h9)
    subst hl
    obtain ⟨t, rfl, h⟩ := mz_t1_e h
    obtain ⟨x, r, rfl, h⟩ := mz_pI_e h
    intro H locs ls g
    cases cd
    case eq => exact lv_if_eq hx hb hd (ms_jmp ck) (fun w => h.1 w H locs ls g) (fun w => h.2 w H locs ls g)
    case ne => exact lv_if_ne hx hb hd (ms_jmp ck) (fun w => h.1 w H locs ls g) (fun w => h.2 w H locs ls g)
    case lt => exact lv_if_lt hx hb hd (ms_jmp ck) (fun w => h.1 w H locs ls g) (fun w => h.2 w H locs ls g)
    case ge => exact lv_if_ge hx hb hd (ms_jmp ck) (fun w => h.1 w H locs ls g) (fun w => h.2 w H locs ls g)
    case gt => exact lv_if_gt hx hb hd (ms_jmp ck) (fun w => h.1 w H locs ls g) (fun w => h.2 w H locs ls g)
    case le => exact lv_if_le hx hb hd (ms_jmp ck) (fun w => h.1 w H locs ls g) (fun w => h.2 w H locs ls g)
  case if_icmp cd off =>
    have hl := hln (fun _ _ _ _ h9 => by cases h9)
    subst hl
    obtain ⟨t, rfl, h⟩ := mz_t1_e h
    obtain ⟨y, r, rfl, h⟩ := mz_pI_e h
    obtain ⟨x, r, rfl, h⟩ := mz_pI_e h
    intro H locs ls g
    cases cd
    case eq => exact lv_icmp_eq hx hb hd (ms_jmp ck) (fun w => h.1 w H locs ls g) (fun w => h.2 w H locs ls g)
    case ne => exact lv_icmp_ne hx hb hd (ms_jmp ck) (fun w => h.1 w H locs ls g) (fun w => h.2 w H locs ls g)
    case lt => exact lv_icmp_lt hx hb hd (ms_jmp ck) (fun w => h.1 w H locs ls g) (fun w => h.2 w H locs ls g)
    case ge => exact lv_icmp_ge hx hb hd (ms_jmp ck) (fun w => h.1 w H locs ls g) (fun w => h.2 w H locs ls g)
    case gt => exact lv_icmp_gt hx hb hd (ms_jmp ck) (fun w => h.1 w H locs ls g) (fun w => h.2 w H locs ls g)
    case le => exact lv_icmp_le hx hb hd (ms_jmp ck) (fun w => h.1 w H locs ls g) (fun w => h.2 w H locs ls g)
  case goto =>
    have hl := hln (fun _ _ _ _ h9 => by cases h9)
    subst hl
    obtain ⟨t, rfl, h⟩ := mz_t1_e h
    intro H locs ls g
    exact lv_goto hx hb hd (ms_jmp ck) (h H locs ls g)
  case ifnull =>
    have hl := hln (fun _ _ _ _ h9 => by cases h9)
    subst hl
    obtain ⟨t, rfl, h⟩ := mz_t1_e h
    obtain ⟨v, r, rfl, h1, h2, h3⟩ := mz_pV_e h
    intro H locs ls g
    rcases h3 with rfl | ⟨a, rfl⟩
    · exact lv_ifnullN hx hb hd (ms_jmp ck) (h1 rfl H locs ls g)
    · exact lv_ifnull hx hb hd (h2 ⟨a, rfl⟩ H locs ls g)
  case ifnonnull =>
    have hl := hln (fun _ _ _ _ h9 => by cases h9)
    subst hl
    obtain ⟨t, rfl, h⟩ := mz_t1_e h
    obtain ⟨v, r, rfl, h1, h2, h3⟩ := mz_pV_e h
    intro H locs ls g
    rcases h3 with rfl | ⟨a, rfl⟩
    · exact lv_ifnonnullN hx hb hd (h2 rfl H locs ls g)
    · exact lv_ifnonnull hx hb hd (ms_jmp ck) (h1 ⟨a, rfl⟩ H locs ls g)
  case tableswitch df lo hi offs =>
    obtain ⟨x, r, rfl, h⟩ := mz_pI_e h
    have ck2 : tg.map (fun t : Nat => (t : Int)) = (df :: offs.toList).map (fun o => (pc : Int) + o) := of_decide_eq_true ck
    intro H locs ls g
    by_cases hout : x.toInt < lo ∨ hi < x.toInt
    · have h1 := h.1 hout
      unfold mz_sw.mz_gN at h1
      split at h1
      · rename_i t ht
        have h2 := congrArg (fun l => l[0]?) ck2
        simp only [List.getElem?_map, ht, Option.map_some, List.getElem?_cons_zero, Option.some.injEq] at h2
        exact lv_tableOut hx hb hd hout h2.symm (h1 H locs ls g)
      · exact h1.elim
    · have h1 := h.2 (fun w => hout (Or.inl w)) (fun w => hout (Or.inr w))
      unfold mz_sw.mz_gN at h1
      split at h1
      · rename_i t ht
        have h2 := congrArg (fun l => l[(x.toInt - lo).toNat + 1]?) ck2
        simp only [List.getElem?_map, ht, Option.map_some, List.getElem?_cons_succ] at h2
        obtain ⟨o, ho, he⟩ := Option.map_eq_some_iff.mp h2.symm
        exact lv_tableIn hx hb hd (fun w => hout (Or.inl w)) (fun w => hout (Or.inr w)) (by rw [← Array.getElem?_toList]; exact ho) he (h1 H locs ls g)
      · exact h1.elim
  case ldc =>
    have hl := hln (fun _ _ _ _ h9 => by cases h9)
    subst hl
    obtain ⟨a, r, w, rfl, h⟩ := mz_t3_e h
    dsimp only [mz_ck2] at ck
    split at ck
    · rename_i h9
      cases h9
      exact ms_l1 X hd (mw_q ck) h
    · rename_i h9
      cases h9
      rw [Bool.and_eq_true] at ck
      exact ms_l2 X hd (mw_q ck.2) h
    · cases ck
  case ldc_w =>
    have hl := hln (fun _ _ _ _ h9 => by cases h9)
    subst hl
    obtain ⟨a, r, w, rfl, h⟩ := mz_t3_e h
    dsimp only [mz_ck2] at ck
    split at ck
    · rename_i h9
      cases h9
      exact ms_l3 X hd (mw_q ck) h
    · rename_i h9
      cases h9
      rw [Bool.and_eq_true] at ck
      exact ms_l4 X hd (mw_q ck.2) h
    · cases ck
  case ldc2_w =>
    have hl := hln (fun _ _ _ _ h9 => by cases h9)
    subst hl
    obtain ⟨a, r, w, rfl, h⟩ := mz_t3_e h
    exact ms_l5 X hd (mw_q ck) h
  case getfield x =>
    have hl := hln (fun _ _ _ _ h9 => by cases h9)
    subst hl
    obtain ⟨c2, j, r, rfl, h⟩ := mz_t3_e h
    obtain ⟨a, rs, rfl, hk, h⟩ := mz_pR_e h
    have ck3 : (Nat.blt c2 6 && Nat.blt j (mz_cS c2) && mz_q r Y.2.2.2.2.1 x 0 c2 j) = true := ck
    simp only [Bool.and_eq_true, Nat.blt_eq] at ck3
    exact ms_gf (st := rs) X hd ck3.1.1 ck3.1.2 (mw_q ck3.2) hk h
  case putfield x =>
    have hl := hln (fun _ _ _ _ h9 => by cases h9)
    subst hl
    obtain ⟨c2, j, r, rfl, h⟩ := mz_t3_e h
    obtain ⟨v, rs, e1, h1⟩ := mz_pV_e h
    obtain ⟨a, rs, e2, hk, hf, h2⟩ := mz_pR_e h1
    have ck3 : (Nat.blt c2 6 && Nat.blt j (mz_cS c2) && mz_q r Y.2.2.2.2.1 x 0 c2 j) = true := ck
    simp only [Bool.and_eq_true, Nat.blt_eq] at ck3
    rw [e1, e2]
    exact ms_pfm (st := rs) X hd ck3.1.1 ck3.1.2 (mw_q ck3.2) hk hf h2
  case iaload =>
    have hl := hln (fun _ _ _ _ h9 => by cases h9)
    subst hl
    obtain ⟨x, r, e1, h1⟩ := mz_pI_e h
    obtain ⟨a, r, e2, h3⟩ := mz_pR_e h1
    subst e2
    subst e1
    split at h3
    · exact ms_iald (st := r) X hd h3.1 h3.2.1 h3.2.2
    · split at h3
      · exact ms_scl (st := r) X hd rfl h3.1 h3.2.1 h3.2.2
      · exact h3.elim
  case baload =>
    have hl := hln (fun _ _ _ _ h9 => by cases h9)
    subst hl
    obtain ⟨x, r, rfl, h⟩ := mz_pI_e h
    obtain ⟨a, r, rfl, hk, hi, h⟩ := mz_pR_e h
    rcases hk with hk | hk
    · exact ms_bald (st := []) X hd hk hi h
    · exact ms_zald (st := []) X hd hk hi h
  case laload =>
    have hl := hln (fun _ _ _ _ h9 => by cases h9)
    subst hl
    obtain ⟨x, r, rfl, h⟩ := mz_pI_e h
    obtain ⟨a, r, rfl, hk, hi, h⟩ := mz_pR_e h
    exact ms_lald (st := []) X hd hk hi h
  case aaload =>
    have hl := hln (fun _ _ _ _ h9 => by cases h9)
    subst hl
    obtain ⟨x, r, rfl, h⟩ := mz_pI_e h
    obtain ⟨a, r, rfl, hk, hi, h⟩ := mz_pR_e h
    exact ms_aald (st := []) X hd hk hi h
  case iastore =>
    have hl := hln (fun _ _ _ _ h9 => by cases h9)
    subst hl
    obtain ⟨v, r, rfl, h⟩ := mz_pI_e h
    obtain ⟨x, r, rfl, h⟩ := mz_pI_e h
    obtain ⟨a, r, rfl, hk, hi, h⟩ := mz_pR_e h
    exact ms_iast (st := []) X hd hk hi h
  case bastore =>
    have hl := hln (fun _ _ _ _ h9 => by cases h9)
    subst hl
    obtain ⟨v, r, rfl, h⟩ := mz_pI_e h
    obtain ⟨x, r, rfl, h⟩ := mz_pI_e h
    obtain ⟨a, r, rfl, hi, hk, h⟩ := mz_pR_e h
    rcases hk with hk | hk
    · rw [hk] at h
      exact ms_bast (st := []) X hd hk hi h
    · rw [hk] at h
      exact ms_zast (st := []) X hd hk hi h
  case lastore =>
    have hl := hln (fun _ _ _ _ h9 => by cases h9)
    subst hl
    obtain ⟨v, r, rfl, h⟩ := mz_pJ_e h
    obtain ⟨x, r, rfl, h⟩ := mz_pI_e h
    obtain ⟨a, r, rfl, hk, hi, h⟩ := mz_pR_e h
    exact ms_last (st := []) X hd hk hi h
  case aastore =>
    have hl := hln (fun _ _ _ _ h9 => by cases h9)
    subst hl
    obtain ⟨v, r, rfl, h⟩ := mz_pR_e h
    obtain ⟨x, r, rfl, h⟩ := mz_pI_e h
    obtain ⟨a, r, rfl, hk, hv, hi, h⟩ := mz_pR_e h
    exact ms_aast (st := []) X hd hk hv hi h
  case arraylength =>
    have hl := hln (fun _ _ _ _ h9 => by cases h9)
    subst hl
    obtain ⟨a, r, e1, h3⟩ := mz_pR_e h
    subst e1
    split at h3
    · exact ms_alen (st := r) X hd h3.1 h3.2
    · split at h3
      · exact ms_scn (st := r) X hd rfl h3.1 h3.2
      · exact h3.elim
  case newarray t =>
    have hl := hln (fun _ _ _ _ h9 => by cases h9)
    subst hl
    obtain ⟨n, r, rfl, h0, h1, h2, h3, h4, h⟩ := mz_pI_e h
    cases t
    case int => exact ms_na1 (st := []) X hd h1 h2 h3 h4 h
    case byte => exact ms_na2 (st := []) X hd h1 h2 h3 h4 h
    case boolean => exact ms_na3 (st := []) X hd h1 h2 h3 h4 h
    case long => exact ms_na4 (st := []) X hd h1 h2 h3 h4 h
    all_goals exact absurd rfl h0
  case anewarray =>
    have hl := hln (fun _ _ _ _ h9 => by cases h9)
    subst hl
    obtain ⟨n, r, rfl, h1, h2, h3, h4, h5⟩ := mz_pI_e h
    dsimp only [mz_ck2] at ck
    split at ck
    · exact ms_nq (st := r) X hd (mw_q ck) h1 h2 h3 h4 h5
    · cases ck
  case new x =>
    have hl := hln (fun _ _ _ _ h9 => by cases h9)
    subst hl
    obtain ⟨c2, r, rfl, h3, h4, h⟩ := mz_t2_e h
    have ck3 : (Nat.blt c2 6 && mz_q r Y.2.2.2.2.1 x 4 c2 0) = true := ck
    simp only [Bool.and_eq_true, Nat.blt_eq] at ck3
    exact ms_new X hd ck3.1 (mw_q ck3.2) h3 h4 h
  case invokevirtual x =>
    have hl := hln (fun _ _ _ _ h9 => by cases h9)
    subst hl
    obtain ⟨h2, y, n1, c2, r, rfl, h1⟩ := mz_t5_e h
    dsimp only [mz_ck2] at ck
    split at ck
    · rename_i h9
      cases h9
      obtain ⟨h0, h1⟩ := h1
      obtain ⟨a, ha, i, hi, rfl⟩ := mz_gR_e h0
      exact ms_csl X hd (mw_q ck) hi ha h1.1 h1.2.1 h1.2.2
    · rename_i h9
      cases h9
      obtain ⟨h0, h1⟩ := h1
      obtain ⟨a, ha, i, hi, rfl⟩ := mz_gR_e h0
      exact ms_csc X hd (mw_q ck) hi ha h1.1 h1.2.1 h1.2.2
    · rename_i h9
      cases h9
      simp only [Bool.and_eq_true, Nat.blt_eq, Nat.beq_eq, Bool.not_eq_true'] at ck
      obtain ⟨⟨⟨⟨⟨⟨⟨k0, k1⟩, k2⟩, k3⟩, k4⟩, k5⟩, k6⟩, k7⟩ := ck
      split at h1
      · obtain ⟨h0, h1⟩ := h1
        obtain ⟨a, ha, hk⟩ := mz_gR_e h0
        intro H locs ls g
        exact ms_cv X hd k1 k2 k3 k4 k5 k6 (mw_q k7) ha hk h1.1 h1.2.1 (Nat.le_refl _) (Nat.le_refl _) g.2.2.2.2.1 g.2.2.2.2.2.1 h1.2.2 H locs ls g
      · obtain ⟨h0, h1⟩ := h1
        obtain ⟨a, ha, hk⟩ := mz_gR_e h0
        obtain ⟨l1, l2, z2, b1, b2, b3, b4, h1⟩ := h1
        exact ms_cv X hd k1 k2 k3 k4 k5 k6 (mw_q k7) ha hk l1 l2 b1 b2 b3 b4 h1
      · exact absurd k0 (by decide)
      · exact h1.elim
    · cases ck
  case invokestatic x =>
    have hl := hln (fun _ _ _ _ h9 => by cases h9)
    subst hl
    obtain ⟨h2, y, n, c2, r, rfl, h⟩ := mz_t5_e h
    dsimp only [mz_ck2] at ck
    split at ck
    · rename_i h9
      cases h9
      simp only [Bool.and_eq_true, Nat.blt_eq, Nat.beq_eq] at ck
      obtain ⟨⟨⟨k1, k2⟩, k3⟩, k4⟩ := ck
      intro H locs ls g
      exact ms_cs X hd k1 k2 k3 (mw_q k4) h.1 h.2.1 (Nat.le_refl _) (Nat.le_refl _) g.2.2.2.2.1 g.2.2.2.2.2.1 h.2.2 H locs ls g
    · rename_i h9
      cases h9
      obtain ⟨x3, r, rfl, h⟩ := mz_pI_e h
      obtain ⟨x2, r, rfl, h⟩ := mz_pI_e h
      obtain ⟨b, r, rfl, h⟩ := mz_pR_e h
      obtain ⟨x1, r, rfl, h⟩ := mz_pI_e h
      obtain ⟨a, r, rfl, h1, h2, h3, h⟩ := mz_pR_e h
      split at h
      · exact ms_cpi (st := []) X hd (mw_q ck) h1 h2 h3 h.1 h.2.1 h.2.2
      · exact ms_cpl (st := []) X hd (mw_q ck) h1 h2 h3 h.1 h.2.1 h.2.2
    · rename_i h9
      cases h9
      obtain ⟨y, r, rfl, h⟩ := mz_pI_e h
      obtain ⟨x, r, rfl, h1, h2, h⟩ := mz_pI_e h
      exact ms_mx (st := []) X hd (mw_q ck) h1 h2 h
    · rename_i h9
      cases h9
      obtain ⟨y, r, rfl, h⟩ := mz_pI_e h
      obtain ⟨x, r, rfl, h1, h2, h⟩ := mz_pI_e h
      exact ms_mn (st := []) X hd (mw_q ck) h1 h2 h
    · cases ck
  case invokespecial x =>
    have hl := hln (fun _ _ _ _ h9 => by cases h9)
    subst hl
    obtain ⟨h2, y, n1, c2, r, rfl, h⟩ := mz_t5_e h
    dsimp only [mz_ck2] at ck
    split at ck
    · rename_i h9
      cases h9
      obtain ⟨a, r, rfl, h1, h2, h⟩ := mz_pR_e h
      exact ms_oi (st := []) X hd (mw_q ck) h1 h2 h
    · rename_i h9
      cases h9
      simp only [Bool.and_eq_true, Nat.blt_eq, Nat.beq_eq, Bool.not_eq_true', decide_eq_true_eq] at ck
      obtain ⟨⟨⟨⟨⟨k1, k2⟩, k3⟩, k4⟩, k5⟩, k6⟩ := ck
      obtain ⟨h0, h⟩ := h
      obtain ⟨a, ha, -⟩ := mz_gR_e h0
      obtain ⟨l1, l2, z2, b1, b2, b3, b4, h⟩ := h
      exact ms_ci X hd k1 k4 k2 k3 k5 (mw_q k6) ha l1 l2 b1 b2 b3 b4 h
    · rename_i h9
      cases h9
      simp only [Bool.and_eq_true, Nat.blt_eq, Nat.beq_eq, Bool.not_eq_true', decide_eq_true_eq] at ck
      obtain ⟨⟨⟨⟨⟨k1, k2⟩, k3⟩, k4⟩, k5⟩, k6⟩ := ck
      obtain ⟨h0, h⟩ := h
      obtain ⟨a, ha, -⟩ := mz_gR_e h0
      obtain ⟨l1, l2, z2, b1, b2, b3, b4, h⟩ := h
      exact ms_cn X hd k1 k4 k2 k3 k5 (mw_q k6) ha l1 l2 b1 b2 b3 b4 h
    · cases ck
  case return_ =>
    have hl := hln (fun _ _ _ _ h9 => by cases h9)
    subst hl
    obtain ⟨rfl, rfl, hr, hQ⟩ := h
    intro H locs ls g
    refine ms_size fun hsz0 => ?_
    exact hend none _ M H locs ls pc hd (Or.inl ⟨rfl, rfl, hr⟩) hQ (g.sz hs hz hsz0) g.P g.kz g.S
  case ireturn =>
    have hl := hln (fun _ _ _ _ h9 => by cases h9)
    subst hl
    obtain ⟨v, r, rfl, rfl, rfl, ⟨t, hr, hn⟩, hQ⟩ := mz_pI_e h
    intro H locs ls g
    refine ms_size fun hsz0 => ?_
    exact hend (some (.int v)) _ M H locs ls pc hd (Or.inr (Or.inl ⟨v, t, rfl, rfl, hr, hn⟩)) hQ (g.sz hs hz hsz0) g.P g.kz g.S
  case lreturn =>
    have hl := hln (fun _ _ _ _ h9 => by cases h9)
    subst hl
    obtain ⟨v, r, rfl, rfl, rfl, hr, hQ⟩ := mz_pJ_e h
    intro H locs ls g
    refine ms_size fun hsz0 => ?_
    exact hend (some (.long v)) _ M H locs ls pc hd (Or.inr (Or.inr (Or.inl ⟨v, rfl, rfl, hr⟩))) hQ (g.sz hs hz hsz0) g.P g.kz g.S
  case areturn =>
    have hl := hln (fun _ _ _ _ h9 => by cases h9)
    subst hl
    obtain ⟨v, r, rfl, rfl, rfl, ⟨n, hr⟩, hv, hQ⟩ := mz_pV_e h
    intro H locs ls g
    refine ms_size fun hsz0 => ?_
    exact hend (some v) _ M H locs ls pc hd (Or.inr (Or.inr (Or.inr ⟨v, n, rfl, rfl, hr, hv⟩))) hQ (g.sz hs hz hsz0) g.P g.kz g.S
  all_goals exact h.elim
end
end
section
theorem yk_Pa_init : mz_ck ym_Pa_init = true := by decide +kernel
theorem yk_Pa_begin : mz_ck ym_Pa_begin = true := by decide +kernel
theorem yk_Pa_answer : mz_ck ym_Pa_answer = true := by decide +kernel
theorem yk_Pa_foundAt : mz_ck ym_Pa_foundAt = true := by decide +kernel
theorem yk_Pa_put : mz_ck ym_Pa_put = true := by decide +kernel
theorem yk_Pa_backFrom : mz_ck ym_Pa_backFrom = true := by decide +kernel
theorem yk_Pa_seek : mz_ck ym_Pa_seek = true := by decide +kernel
theorem yk_Pa_openCell : mz_ck ym_Pa_openCell = true := by decide +kernel
theorem yk_Pa_paintNext : mz_ck ym_Pa_paintNext = true := by decide +kernel
theorem yk_Pa_isFree : mz_ck ym_Pa_isFree = true := by decide +kernel
theorem yk_Pa_seekAhead : mz_ck ym_Pa_seekAhead = true := by decide +kernel
theorem yk_Pa_fullRow : mz_ck ym_Pa_fullRow = true := by decide +kernel
theorem yk_Pa_takeCell : mz_ck ym_Pa_takeCell = true := by decide +kernel
theorem yk_Pa_paintAhead : mz_ck ym_Pa_paintAhead = true := by decide +kernel
theorem yk_Pa_strikeOut : mz_ck ym_Pa_strikeOut = true := by decide +kernel
theorem yk_Sh_init : mz_ck ym_Sh_init = true := by decide +kernel
theorem yk_Sh_forget : mz_ck ym_Sh_forget = true := by decide +kernel
theorem yk_Sh_begin : mz_ck ym_Sh_begin = true := by decide +kernel
theorem yk_Sh_become : mz_ck ym_Sh_become = true := by decide +kernel
theorem yk_Sh_has : mz_ck ym_Sh_has = true := by decide +kernel
theorem yk_Sh_hasCell : mz_ck ym_Sh_hasCell = true := by decide +kernel
theorem yk_Sh_numberIn : mz_ck ym_Sh_numberIn = true := by decide +kernel
theorem yk_Sh_withNumber : mz_ck ym_Sh_withNumber = true := by decide +kernel
theorem yk_Sh_rowOf : mz_ck ym_Sh_rowOf = true := by decide +kernel
theorem yk_Sh_numberAt : mz_ck ym_Sh_numberAt = true := by decide +kernel
theorem yk_Sh_unlikeCells : mz_ck ym_Sh_unlikeCells = true := by decide +kernel
theorem yk_Sh_firstLike : mz_ck ym_Sh_firstLike = true := by decide +kernel
theorem yk_Sh_makingOf : mz_ck ym_Sh_makingOf = true := by decide +kernel
theorem yk_Sh_parentOf : mz_ck ym_Sh_parentOf = true := by decide +kernel
theorem yk_Sh_depthOf : mz_ck ym_Sh_depthOf = true := by decide +kernel
theorem yk_Sh_meeting : mz_ck ym_Sh_meeting = true := by decide +kernel
theorem yk_Sh_lastSetter : mz_ck ym_Sh_lastSetter = true := by decide +kernel
theorem yk_Sh_timesSet : mz_ck ym_Sh_timesSet = true := by decide +kernel
theorem yk_Sh_rootOf : mz_ck ym_Sh_rootOf = true := by decide +kernel
theorem yk_Sh_areJoined : mz_ck ym_Sh_areJoined = true := by decide +kernel
theorem yk_Sh_rootBits : mz_ck ym_Sh_rootBits = true := by decide +kernel
theorem yk_Sh_cellsRootedAs : mz_ck ym_Sh_cellsRootedAs = true := by decide +kernel
theorem yk_Sh_isDirect : mz_ck ym_Sh_isDirect = true := by decide +kernel
theorem yk_Sh_linkOf : mz_ck ym_Sh_linkOf = true := by decide +kernel
theorem yk_Sh_wayFrom : mz_ck ym_Sh_wayFrom = true := by decide +kernel
theorem yk_Sh_longestWay : mz_ck ym_Sh_longestWay = true := by decide +kernel
theorem yk_Sh_directOnes : mz_ck ym_Sh_directOnes = true := by decide +kernel
theorem yk_Sh_allWays : mz_ck ym_Sh_allWays = true := by decide +kernel
theorem yk_Sh_allWaysIfSnapped : mz_ck ym_Sh_allWaysIfSnapped = true := by decide +kernel
theorem yk_Sh_withWays : mz_ck ym_Sh_withWays = true := by decide +kernel
theorem yk_Sh_wayBits : mz_ck ym_Sh_wayBits = true := by decide +kernel
theorem yk_Sh_numbersIn : mz_ck ym_Sh_numbersIn = true := by decide +kernel
theorem yk_Sh_mostPassed : mz_ck ym_Sh_mostPassed = true := by decide +kernel
theorem yk_Sh_waysThrough : mz_ck ym_Sh_waysThrough = true := by decide +kernel
theorem yk_Sh_isTooLong : mz_ck ym_Sh_isTooLong = true := by decide +kernel
theorem yk_Sh_readingCost : mz_ck ym_Sh_readingCost = true := by decide +kernel
theorem yk_Sh_linksBefore : mz_ck ym_Sh_linksBefore = true := by decide +kernel
theorem yk_Sh_readCell : mz_ck ym_Sh_readCell = true := by decide +kernel
theorem yk_Sh_reach : mz_ck ym_Sh_reach = true := by decide +kernel
theorem yk_Sh_giveRow : mz_ck ym_Sh_giveRow = true := by decide +kernel
theorem yk_Sh_turnWay : mz_ck ym_Sh_turnWay = true := by decide +kernel
theorem yk_Sh_setCell : mz_ck ym_Sh_setCell = true := by decide +kernel
theorem yk_Sh_snapRow : mz_ck ym_Sh_snapRow = true := by decide +kernel
theorem yk_Sh_findRoot : mz_ck ym_Sh_findRoot = true := by decide +kernel
theorem yk_Sh_joinRoots : mz_ck ym_Sh_joinRoots = true := by decide +kernel
theorem yk_Sh_inConflict : mz_ck ym_Sh_inConflict = true := by decide +kernel
theorem yk_Sh_mergedRow : mz_ck ym_Sh_mergedRow = true := by decide +kernel
theorem yk_Sh_conflicts : mz_ck ym_Sh_conflicts = true := by decide +kernel
theorem yk_Sh_patchedRow : mz_ck ym_Sh_patchedRow = true := by decide +kernel
theorem yk_Sh_layOn : mz_ck ym_Sh_layOn = true := by decide +kernel
theorem yk_Sh_carryOut : mz_ck ym_Sh_carryOut = true := by decide +kernel
theorem yk_St_init : mz_ck ym_St_init = true := by decide +kernel
theorem yk_St_forget : mz_ck ym_St_forget = true := by decide +kernel
theorem yk_St_become : mz_ck ym_St_become = true := by decide +kernel
theorem yk_St_acts : mz_ck ym_St_acts = true := by decide +kernel
theorem yk_St_hasDeed : mz_ck ym_St_hasDeed = true := by decide +kernel
theorem yk_St_makesNone : mz_ck ym_St_makesNone = true := by decide +kernel
theorem yk_St_partnersOf : mz_ck ym_St_partnersOf = true := by decide +kernel
theorem yk_St_arePaired : mz_ck ym_St_arePaired = true := by decide +kernel
theorem yk_St_pairUp : mz_ck ym_St_pairUp = true := by decide +kernel
theorem yk_St_ownNumbers : mz_ck ym_St_ownNumbers = true := by decide +kernel
theorem yk_St_tell : mz_ck ym_St_tell = true := by decide +kernel
theorem yk_St_perform : mz_ck ym_St_perform = true := by decide +kernel
theorem yk_St_goBackTo : mz_ck ym_St_goBackTo = true := by decide +kernel
theorem yk_St_stepsOn : mz_ck ym_St_stepsOn = true := by decide +kernel
theorem yk_St_dearestDeed : mz_ck ym_St_dearestDeed = true := by decide +kernel
theorem yk_Ta_init : mz_ck ym_Ta_init = true := by decide +kernel
theorem yk_Ta_put : mz_ck ym_Ta_put = true := by decide +kernel
theorem yk_Ta_begin : mz_ck ym_Ta_begin = true := by decide +kernel
theorem yk_Ta_byteAt : mz_ck ym_Ta_byteAt = true := by decide +kernel
theorem yk_Ta_isBlank : mz_ck ym_Ta_isBlank = true := by decide +kernel
theorem yk_Ta_isLetter : mz_ck ym_Ta_isLetter = true := by decide +kernel
theorem yk_Ta_isDigit : mz_ck ym_Ta_isDigit = true := by decide +kernel
theorem yk_Ta_takeToken : mz_ck ym_Ta_takeToken = true := by decide +kernel
theorem yk_Ta_takeLetters : mz_ck ym_Ta_takeLetters = true := by decide +kernel
theorem yk_Ta_takeDigits : mz_ck ym_Ta_takeDigits = true := by decide +kernel
theorem yk_Ta_isWord : mz_ck ym_Ta_isWord = true := by decide +kernel
theorem yk_Ta_refuse : mz_ck ym_Ta_refuse = true := by decide +kernel
theorem yk_Ta_takeNumber : mz_ck ym_Ta_takeNumber = true := by decide +kernel
theorem yk_Ta_takeWord : mz_ck ym_Ta_takeWord = true := by decide +kernel
theorem yk_Ta_takeSign : mz_ck ym_Ta_takeSign = true := by decide +kernel
theorem yk_Ta_takesLine : mz_ck ym_Ta_takesLine = true := by decide +kernel
theorem yk_Ta_wordKind : mz_ck ym_Ta_wordKind = true := by decide +kernel
theorem yk_Ta_isOneTooMany : mz_ck ym_Ta_isOneTooMany = true := by decide +kernel
theorem yk_Ta_takeNumbers : mz_ck ym_Ta_takeNumbers = true := by decide +kernel
theorem yk_Ta_takeStore : mz_ck ym_Ta_takeStore = true := by decide +kernel
theorem yk_Ta_takePair : mz_ck ym_Ta_takePair = true := by decide +kernel
theorem yk_Ta_takeDeed : mz_ck ym_Ta_takeDeed = true := by decide +kernel
theorem yk_X_init : mz_ck ym_X_init = true := by decide +kernel
theorem yk_X_feed : mz_ck ym_X_feed = true := by decide +kernel
theorem yk_X_end : mz_ck ym_X_end = true := by decide +kernel
theorem yk_X_store : mz_ck ym_X_store = true := by decide +kernel
theorem yk_X_fault : mz_ck ym_X_fault = true := by decide +kernel
theorem yk_X_count : mz_ck ym_X_count = true := by decide +kernel
theorem yk_X_isThere : mz_ck ym_X_isThere = true := by decide +kernel
theorem yk_X_hasVersion : mz_ck ym_X_hasVersion = true := by decide +kernel
theorem yk_X_hasVersions : mz_ck ym_X_hasVersions = true := by decide +kernel
theorem yk_X_hasSpot : mz_ck ym_X_hasSpot = true := by decide +kernel
theorem yk_X_cell : mz_ck ym_X_cell = true := by decide +kernel
theorem yk_X_version : mz_ck ym_X_version = true := by decide +kernel
theorem yk_X_unlike : mz_ck ym_X_unlike = true := by decide +kernel
theorem yk_X_first : mz_ck ym_X_first = true := by decide +kernel
theorem yk_X_meet : mz_ck ym_X_meet = true := by decide +kernel
theorem yk_X_apart : mz_ck ym_X_apart = true := by decide +kernel
theorem yk_X_root : mz_ck ym_X_root = true := by decide +kernel
theorem yk_X_roots : mz_ck ym_X_roots = true := by decide +kernel
theorem yk_X_together : mz_ck ym_X_together = true := by decide +kernel
theorem yk_X_blame : mz_ck ym_X_blame = true := by decide +kernel
theorem yk_X_often : mz_ck ym_X_often = true := by decide +kernel
theorem yk_X_state : mz_ck ym_X_state = true := by decide +kernel
theorem yk_X_length : mz_ck ym_X_length = true := by decide +kernel
theorem yk_X_longest : mz_ck ym_X_longest = true := by decide +kernel
theorem yk_X_direct : mz_ck ym_X_direct = true := by decide +kernel
theorem yk_X_ways : mz_ck ym_X_ways = true := by decide +kernel
theorem yk_X_snapping : mz_ck ym_X_snapping = true := by decide +kernel
theorem yk_X_snap : mz_ck ym_X_snap = true := by decide +kernel
theorem yk_X_busiest : mz_ck ym_X_busiest = true := by decide +kernel
theorem yk_X_hasAllOf : mz_ck ym_X_hasAllOf = true := by decide +kernel
theorem yk_X_keeps : mz_ck ym_X_keeps = true := by decide +kernel
theorem yk_X_room : mz_ck ym_X_room = true := by decide +kernel
theorem yk_X_ledger : mz_ck ym_X_ledger = true := by decide +kernel
theorem yk_X_spent : mz_ck ym_X_spent = true := by decide +kernel
theorem yk_X_dearest : mz_ck ym_X_dearest = true := by decide +kernel
theorem yk_X_cost : mz_ck ym_X_cost = true := by decide +kernel
theorem yk_X_by : mz_ck ym_X_by = true := by decide +kernel
theorem yk_X_cutting : mz_ck ym_X_cutting = true := by decide +kernel
theorem yk_X_cut : mz_ck ym_X_cut = true := by decide +kernel
theorem yk_X_without : mz_ck ym_X_without = true := by decide +kernel
theorem yk_X_hasActLeft : mz_ck ym_X_hasActLeft = true := by decide +kernel
theorem yk_X_hasRoomFor : mz_ck ym_X_hasRoomFor = true := by decide +kernel
theorem yk_X_reads : mz_ck ym_X_reads = true := by decide +kernel
theorem yk_X_sets : mz_ck ym_X_sets = true := by decide +kernel
theorem yk_X_joins : mz_ck ym_X_joins = true := by decide +kernel
theorem yk_X_finds : mz_ck ym_X_finds = true := by decide +kernel
theorem yk_X_snaps : mz_ck ym_X_snaps = true := by decide +kernel
theorem yk_X_merging : mz_ck ym_X_merging = true := by decide +kernel
theorem yk_X_merged : mz_ck ym_X_merged = true := by decide +kernel
theorem yk_X_merges : mz_ck ym_X_merges = true := by decide +kernel
theorem yk_X_patching : mz_ck ym_X_patching = true := by decide +kernel
theorem yk_X_patches : mz_ck ym_X_patches = true := by decide +kernel
theorem yk_X_mayColour : mz_ck ym_X_mayColour = true := by decide +kernel
theorem yk_X_search : mz_ck ym_X_search = true := by decide +kernel
theorem yk_X_searchBy : mz_ck ym_X_searchBy = true := by decide +kernel
theorem yk_X_colour : mz_ck ym_X_colour = true := by decide +kernel
theorem yk_X_colours : mz_ck ym_X_colours = true := by decide +kernel
theorem yk_X_forward : mz_ck ym_X_forward = true := by decide +kernel
theorem yk_X_forwardBy : mz_ck ym_X_forwardBy = true := by decide +kernel
theorem yk_X_hue : mz_ck ym_X_hue = true := by decide +kernel
theorem yk_X_imageAt : mz_ck ym_X_imageAt = true := by decide +kernel
theorem yk_X_image : mz_ck ym_X_image = true := by decide +kernel
theorem yk_X_back : mz_ck ym_X_back = true := by decide +kernel
theorem yk_X_undo : mz_ck ym_X_undo = true := by decide +kernel
theorem yk_X_anew : mz_ck ym_X_anew = true := by decide +kernel
theorem yk_Mo_in : mz_ck ym_Mo_in = true := by decide +kernel
theorem yk_Mo_has : mz_ck ym_Mo_has = true := by decide +kernel
theorem yk_Mo_bitsOf : mz_ck ym_Mo_bitsOf = true := by decide +kernel
theorem yk_Mo_init : mz_ck ym_Mo_init = true := by decide +kernel
theorem yk_Mo_feed : mz_ck ym_Mo_feed = true := by decide +kernel
theorem yk_Mo_end : mz_ck ym_Mo_end = true := by decide +kernel
theorem yk_Mo_at : mz_ck ym_Mo_at = true := by decide +kernel
theorem yk_Mo_begins : mz_ck ym_Mo_begins = true := by decide +kernel
theorem yk_Mo_straight : mz_ck ym_Mo_straight = true := by decide +kernel
theorem yk_Mo_links : mz_ck ym_Mo_links = true := by decide +kernel
theorem yk_Mo_lengthOf : mz_ck ym_Mo_lengthOf = true := by decide +kernel
theorem yk_Mo_turns : mz_ck ym_Mo_turns = true := by decide +kernel
theorem yk_Mo_snap : mz_ck ym_Mo_snap = true := by decide +kernel
theorem yk_Mo_reach : mz_ck ym_Mo_reach = true := by decide +kernel
theorem yk_Mo_along : mz_ck ym_Mo_along = true := by decide +kernel
theorem yk_Mo_read : mz_ck ym_Mo_read = true := by decide +kernel
theorem yk_Mo_set : mz_ck ym_Mo_set = true := by decide +kernel
theorem yk_Mo_rootOf : mz_ck ym_Mo_rootOf = true := by decide +kernel
theorem yk_Mo_find : mz_ck ym_Mo_find = true := by decide +kernel
theorem yk_Mo_join : mz_ck ym_Mo_join = true := by decide +kernel
theorem yk_Mo_meetOf : mz_ck ym_Mo_meetOf = true := by decide +kernel
theorem yk_Mo_isConflict : mz_ck ym_Mo_isConflict = true := by decide +kernel
theorem yk_Mo_mergedOf : mz_ck ym_Mo_mergedOf = true := by decide +kernel
theorem yk_Mo_mergeMany : mz_ck ym_Mo_mergeMany = true := by decide +kernel
theorem yk_Mo_merge : mz_ck ym_Mo_merge = true := by decide +kernel
theorem yk_Mo_isPatched : mz_ck ym_Mo_isPatched = true := by decide +kernel
theorem yk_Mo_patchMany : mz_ck ym_Mo_patchMany = true := by decide +kernel
theorem yk_Mo_patch : mz_ck ym_Mo_patch = true := by decide +kernel
theorem yk_Mo_deed : mz_ck ym_Mo_deed = true := by decide +kernel
theorem yk_Mo_does : mz_ck ym_Mo_does = true := by decide +kernel
theorem yk_Mo_plays : mz_ck ym_Mo_plays = true := by decide +kernel
theorem yk_Mo_plays2 : mz_ck ym_Mo_plays2 = true := by decide +kernel
theorem yk_Mo_isAt : mz_ck ym_Mo_isAt = true := by decide +kernel
theorem yk_Mo_next : mz_ck ym_Mo_next = true := by decide +kernel
theorem yk_Mo_faults : mz_ck ym_Mo_faults = true := by decide +kernel
theorem yk_Mo_isWord : mz_ck ym_Mo_isWord = true := by decide +kernel
theorem yk_Mo_passes : mz_ck ym_Mo_passes = true := by decide +kernel
theorem yk_Mo_number : mz_ck ym_Mo_number = true := by decide +kernel
theorem yk_Mo_needs : mz_ck ym_Mo_needs = true := by decide +kernel
theorem yk_Mo_named : mz_ck ym_Mo_named = true := by decide +kernel
theorem yk_Mo_readsCell : mz_ck ym_Mo_readsCell = true := by decide +kernel
theorem yk_Mo_isCell : mz_ck ym_Mo_isCell = true := by decide +kernel
theorem yk_Mo_readsStore : mz_ck ym_Mo_readsStore = true := by decide +kernel
theorem yk_Mo_readsPair : mz_ck ym_Mo_readsPair = true := by decide +kernel
theorem yk_Mo_kindHere : mz_ck ym_Mo_kindHere = true := by decide +kernel
theorem yk_Mo_readsDeed : mz_ck ym_Mo_readsDeed = true := by decide +kernel
theorem yk_Mo_lays : mz_ck ym_Mo_lays = true := by decide +kernel
theorem yk_Mo_store : mz_ck ym_Mo_store = true := by decide +kernel
theorem yk_Mo_fault : mz_ck ym_Mo_fault = true := by decide +kernel
theorem yk_Mo_is : mz_ck ym_Mo_is = true := by decide +kernel
theorem yk_Mo_isVersion : mz_ck ym_Mo_isVersion = true := by decide +kernel
theorem yk_Mo_count : mz_ck ym_Mo_count = true := by decide +kernel
theorem yk_Mo_cell : mz_ck ym_Mo_cell = true := by decide +kernel
theorem yk_Mo_version : mz_ck ym_Mo_version = true := by decide +kernel
theorem yk_Mo_unlikeOf : mz_ck ym_Mo_unlikeOf = true := by decide +kernel
theorem yk_Mo_areVersions : mz_ck ym_Mo_areVersions = true := by decide +kernel
theorem yk_Mo_unlike : mz_ck ym_Mo_unlike = true := by decide +kernel
theorem yk_Mo_first : mz_ck ym_Mo_first = true := by decide +kernel
theorem yk_Mo_backTo : mz_ck ym_Mo_backTo = true := by decide +kernel
theorem yk_Mo_meet : mz_ck ym_Mo_meet = true := by decide +kernel
theorem yk_Mo_apart : mz_ck ym_Mo_apart = true := by decide +kernel
theorem yk_Mo_root : mz_ck ym_Mo_root = true := by decide +kernel
theorem yk_Mo_roots : mz_ck ym_Mo_roots = true := by decide +kernel
theorem yk_Mo_together : mz_ck ym_Mo_together = true := by decide +kernel
theorem yk_Mo_state : mz_ck ym_Mo_state = true := by decide +kernel
theorem yk_Mo_length : mz_ck ym_Mo_length = true := by decide +kernel
theorem yk_Mo_longest : mz_ck ym_Mo_longest = true := by decide +kernel
theorem yk_Mo_direct : mz_ck ym_Mo_direct = true := by decide +kernel
theorem yk_Mo_ledger : mz_ck ym_Mo_ledger = true := by decide +kernel
theorem yk_Mo_spent : mz_ck ym_Mo_spent = true := by decide +kernel
theorem yk_Mo_dearest : mz_ck ym_Mo_dearest = true := by decide +kernel
theorem yk_Mo_cost : mz_ck ym_Mo_cost = true := by decide +kernel
theorem yk_Mo_by : mz_ck ym_Mo_by = true := by decide +kernel
theorem yk_Mo_cutting : mz_ck ym_Mo_cutting = true := by decide +kernel
theorem yk_Mo_cut : mz_ck ym_Mo_cut = true := by decide +kernel
theorem yk_Mo_without : mz_ck ym_Mo_without = true := by decide +kernel
theorem yk_Mo_acts : mz_ck ym_Mo_acts = true := by decide +kernel
theorem yk_Mo_isFull : mz_ck ym_Mo_isFull = true := by decide +kernel
theorem yk_Mo_reads : mz_ck ym_Mo_reads = true := by decide +kernel
theorem yk_Mo_sets : mz_ck ym_Mo_sets = true := by decide +kernel
theorem yk_Mo_joins : mz_ck ym_Mo_joins = true := by decide +kernel
theorem yk_Mo_finds : mz_ck ym_Mo_finds = true := by decide +kernel
theorem yk_Mo_snaps : mz_ck ym_Mo_snaps = true := by decide +kernel
theorem yk_Mo_merges : mz_ck ym_Mo_merges = true := by decide +kernel
theorem yk_Mo_areThree : mz_ck ym_Mo_areThree = true := by decide +kernel
theorem yk_Mo_patches : mz_ck ym_Mo_patches = true := by decide +kernel
theorem yk_Mo_patching : mz_ck ym_Mo_patching = true := by decide +kernel
theorem yk_Mo_merging : mz_ck ym_Mo_merging = true := by decide +kernel
theorem yk_Mo_merged : mz_ck ym_Mo_merged = true := by decide +kernel
theorem yk_Mo_blame : mz_ck ym_Mo_blame = true := by decide +kernel
theorem yk_Mo_often : mz_ck ym_Mo_often = true := by decide +kernel
theorem yk_Mo_isSet : mz_ck ym_Mo_isSet = true := by decide +kernel
theorem yk_Mo_keptOf : mz_ck ym_Mo_keptOf = true := by decide +kernel
theorem yk_Mo_keeps : mz_ck ym_Mo_keeps = true := by decide +kernel
theorem yk_Mo_room : mz_ck ym_Mo_room = true := by decide +kernel
theorem yk_Mo_busiest : mz_ck ym_Mo_busiest = true := by decide +kernel
theorem yk_Mo_isOnWay : mz_ck ym_Mo_isOnWay = true := by decide +kernel
theorem yk_Mo_waysOf : mz_ck ym_Mo_waysOf = true := by decide +kernel
theorem yk_Mo_ways : mz_ck ym_Mo_ways = true := by decide +kernel
theorem yk_Mo_snapping : mz_ck ym_Mo_snapping = true := by decide +kernel
theorem yk_Mo_snap2 : mz_ck ym_Mo_snap2 = true := by decide +kernel
theorem yk_Mo_image : mz_ck ym_Mo_image = true := by decide +kernel
theorem yk_Mo_back : mz_ck ym_Mo_back = true := by decide +kernel
theorem yk_Mo_isNone : mz_ck ym_Mo_isNone = true := by decide +kernel
theorem yk_Mo_searches : mz_ck ym_Mo_searches = true := by decide +kernel
theorem yk_Mo_goesOn : mz_ck ym_Mo_goesOn = true := by decide +kernel
theorem yk_Mo_areColours : mz_ck ym_Mo_areColours = true := by decide +kernel
theorem yk_Mo_search : mz_ck ym_Mo_search = true := by decide +kernel
theorem yk_Mo_searchBy : mz_ck ym_Mo_searchBy = true := by decide +kernel
theorem yk_Mo_colour : mz_ck ym_Mo_colour = true := by decide +kernel
theorem yk_Mo_colours : mz_ck ym_Mo_colours = true := by decide +kernel
theorem yk_Mo_isTaken : mz_ck ym_Mo_isTaken = true := by decide +kernel
theorem yk_Mo_takes : mz_ck ym_Mo_takes = true := by decide +kernel
theorem yk_Mo_setOr : mz_ck ym_Mo_setOr = true := by decide +kernel
theorem yk_Mo_lets : mz_ck ym_Mo_lets = true := by decide +kernel
theorem yk_Mo_looksAhead : mz_ck ym_Mo_looksAhead = true := by decide +kernel
theorem yk_Mo_goesAhead : mz_ck ym_Mo_goesAhead = true := by decide +kernel
theorem yk_Mo_forward : mz_ck ym_Mo_forward = true := by decide +kernel
theorem yk_Mo_forwardBy : mz_ck ym_Mo_forwardBy = true := by decide +kernel
theorem yk_Mo_hue : mz_ck ym_Mo_hue = true := by decide +kernel
theorem yk_Mo_undo : mz_ck ym_Mo_undo = true := by decide +kernel
theorem yk_Mo_anew : mz_ck ym_Mo_anew = true := by decide +kernel
theorem yk_In_numberOfTrailingZeros : mz_ck ym_In_numberOfTrailingZeros = true := by decide +kernel
theorem yk_In_bitCount : mz_ck ym_In_bitCount = true := by decide +kernel
theorem yk_Ma_max : mz_ck ym_Ma_max = true := by decide +kernel
theorem yk_Ma_min : mz_ck ym_Ma_min = true := by decide +kernel
def mz_cke (Y : mz_Y) (e : mz_En) : Bool := decide (decode Y.2.1 e.1 = .ok (e.2.1, e.2.2.1)) && mz_ln0 e.2.1 e.2.2.1 && mz_ck2 Y e.1 e.2.1 e.2.2.2
def mz_ckr (l : List mz_Y) : Prop := ∀ Y ∈ l, mz_ck Y = true
theorem mz_cka_0 : mz_ckr (mz_all_0.take 32) := List.forall_mem_cons.mpr ⟨yk_Pa_init, List.forall_mem_cons.mpr ⟨yk_Pa_begin, List.forall_mem_cons.mpr ⟨yk_Pa_answer, List.forall_mem_cons.mpr ⟨yk_Pa_foundAt, List.forall_mem_cons.mpr ⟨yk_Pa_put, List.forall_mem_cons.mpr ⟨yk_Pa_backFrom, List.forall_mem_cons.mpr ⟨yk_Pa_seek, List.forall_mem_cons.mpr ⟨yk_Pa_openCell, List.forall_mem_cons.mpr ⟨yk_Pa_paintNext, List.forall_mem_cons.mpr ⟨yk_Pa_isFree, List.forall_mem_cons.mpr ⟨yk_Pa_seekAhead, List.forall_mem_cons.mpr ⟨yk_Pa_fullRow, List.forall_mem_cons.mpr ⟨yk_Pa_takeCell, List.forall_mem_cons.mpr ⟨yk_Pa_paintAhead, List.forall_mem_cons.mpr ⟨yk_Pa_strikeOut, List.forall_mem_cons.mpr ⟨yk_Sh_init, List.forall_mem_cons.mpr ⟨yk_Sh_forget, List.forall_mem_cons.mpr ⟨yk_Sh_begin, List.forall_mem_cons.mpr ⟨yk_Sh_become, List.forall_mem_cons.mpr ⟨yk_Sh_has, List.forall_mem_cons.mpr ⟨yk_Sh_hasCell, List.forall_mem_cons.mpr ⟨yk_Sh_numberIn, List.forall_mem_cons.mpr ⟨yk_Sh_withNumber, List.forall_mem_cons.mpr ⟨yk_Sh_rowOf, List.forall_mem_cons.mpr ⟨yk_Sh_numberAt, List.forall_mem_cons.mpr ⟨yk_Sh_unlikeCells, List.forall_mem_cons.mpr ⟨yk_Sh_firstLike, List.forall_mem_cons.mpr ⟨yk_Sh_makingOf, List.forall_mem_cons.mpr ⟨yk_Sh_parentOf, List.forall_mem_cons.mpr ⟨yk_Sh_depthOf, List.forall_mem_cons.mpr ⟨yk_Sh_meeting, List.forall_mem_cons.mpr ⟨yk_Sh_lastSetter, fun _ h => absurd h List.not_mem_nil⟩⟩⟩⟩⟩⟩⟩⟩⟩⟩⟩⟩⟩⟩⟩⟩⟩⟩⟩⟩⟩⟩⟩⟩⟩⟩⟩⟩⟩⟩⟩⟩
theorem mz_cka_1 : mz_ckr (mz_all_1.take 32) := List.forall_mem_cons.mpr ⟨yk_Sh_timesSet, List.forall_mem_cons.mpr ⟨yk_Sh_rootOf, List.forall_mem_cons.mpr ⟨yk_Sh_areJoined, List.forall_mem_cons.mpr ⟨yk_Sh_rootBits, List.forall_mem_cons.mpr ⟨yk_Sh_cellsRootedAs, List.forall_mem_cons.mpr ⟨yk_Sh_isDirect, List.forall_mem_cons.mpr ⟨yk_Sh_linkOf, List.forall_mem_cons.mpr ⟨yk_Sh_wayFrom, List.forall_mem_cons.mpr ⟨yk_Sh_longestWay, List.forall_mem_cons.mpr ⟨yk_Sh_directOnes, List.forall_mem_cons.mpr ⟨yk_Sh_allWays, List.forall_mem_cons.mpr ⟨yk_Sh_allWaysIfSnapped, List.forall_mem_cons.mpr ⟨yk_Sh_withWays, List.forall_mem_cons.mpr ⟨yk_Sh_wayBits, List.forall_mem_cons.mpr ⟨yk_Sh_numbersIn, List.forall_mem_cons.mpr ⟨yk_Sh_mostPassed, List.forall_mem_cons.mpr ⟨yk_Sh_waysThrough, List.forall_mem_cons.mpr ⟨yk_Sh_isTooLong, List.forall_mem_cons.mpr ⟨yk_Sh_readingCost, List.forall_mem_cons.mpr ⟨yk_Sh_linksBefore, List.forall_mem_cons.mpr ⟨yk_Sh_readCell, List.forall_mem_cons.mpr ⟨yk_Sh_reach, List.forall_mem_cons.mpr ⟨yk_Sh_giveRow, List.forall_mem_cons.mpr ⟨yk_Sh_turnWay, List.forall_mem_cons.mpr ⟨yk_Sh_setCell, List.forall_mem_cons.mpr ⟨yk_Sh_snapRow, List.forall_mem_cons.mpr ⟨yk_Sh_findRoot, List.forall_mem_cons.mpr ⟨yk_Sh_joinRoots, List.forall_mem_cons.mpr ⟨yk_Sh_inConflict, List.forall_mem_cons.mpr ⟨yk_Sh_mergedRow, List.forall_mem_cons.mpr ⟨yk_Sh_conflicts, List.forall_mem_cons.mpr ⟨yk_Sh_patchedRow, fun _ h => absurd h List.not_mem_nil⟩⟩⟩⟩⟩⟩⟩⟩⟩⟩⟩⟩⟩⟩⟩⟩⟩⟩⟩⟩⟩⟩⟩⟩⟩⟩⟩⟩⟩⟩⟩⟩
theorem mz_cka_2 : mz_ckr (mz_all_2.take 32) := List.forall_mem_cons.mpr ⟨yk_Sh_layOn, List.forall_mem_cons.mpr ⟨yk_Sh_carryOut, List.forall_mem_cons.mpr ⟨yk_St_init, List.forall_mem_cons.mpr ⟨yk_St_forget, List.forall_mem_cons.mpr ⟨yk_St_become, List.forall_mem_cons.mpr ⟨yk_St_acts, List.forall_mem_cons.mpr ⟨yk_St_hasDeed, List.forall_mem_cons.mpr ⟨yk_St_makesNone, List.forall_mem_cons.mpr ⟨yk_St_partnersOf, List.forall_mem_cons.mpr ⟨yk_St_arePaired, List.forall_mem_cons.mpr ⟨yk_St_pairUp, List.forall_mem_cons.mpr ⟨yk_St_ownNumbers, List.forall_mem_cons.mpr ⟨yk_St_tell, List.forall_mem_cons.mpr ⟨yk_St_perform, List.forall_mem_cons.mpr ⟨yk_St_goBackTo, List.forall_mem_cons.mpr ⟨yk_St_stepsOn, List.forall_mem_cons.mpr ⟨yk_St_dearestDeed, List.forall_mem_cons.mpr ⟨yk_Ta_init, List.forall_mem_cons.mpr ⟨yk_Ta_put, List.forall_mem_cons.mpr ⟨yk_Ta_begin, List.forall_mem_cons.mpr ⟨yk_Ta_byteAt, List.forall_mem_cons.mpr ⟨yk_Ta_isBlank, List.forall_mem_cons.mpr ⟨yk_Ta_isLetter, List.forall_mem_cons.mpr ⟨yk_Ta_isDigit, List.forall_mem_cons.mpr ⟨yk_Ta_takeToken, List.forall_mem_cons.mpr ⟨yk_Ta_takeLetters, List.forall_mem_cons.mpr ⟨yk_Ta_takeDigits, List.forall_mem_cons.mpr ⟨yk_Ta_isWord, List.forall_mem_cons.mpr ⟨yk_Ta_refuse, List.forall_mem_cons.mpr ⟨yk_Ta_takeNumber, List.forall_mem_cons.mpr ⟨yk_Ta_takeWord, List.forall_mem_cons.mpr ⟨yk_Ta_takeSign, fun _ h => absurd h List.not_mem_nil⟩⟩⟩⟩⟩⟩⟩⟩⟩⟩⟩⟩⟩⟩⟩⟩⟩⟩⟩⟩⟩⟩⟩⟩⟩⟩⟩⟩⟩⟩⟩⟩
theorem mz_cka_3 : mz_ckr (mz_all_3.take 32) := List.forall_mem_cons.mpr ⟨yk_Ta_takesLine, List.forall_mem_cons.mpr ⟨yk_Ta_wordKind, List.forall_mem_cons.mpr ⟨yk_Ta_isOneTooMany, List.forall_mem_cons.mpr ⟨yk_Ta_takeNumbers, List.forall_mem_cons.mpr ⟨yk_Ta_takeStore, List.forall_mem_cons.mpr ⟨yk_Ta_takePair, List.forall_mem_cons.mpr ⟨yk_Ta_takeDeed, List.forall_mem_cons.mpr ⟨yk_X_init, List.forall_mem_cons.mpr ⟨yk_X_feed, List.forall_mem_cons.mpr ⟨yk_X_end, List.forall_mem_cons.mpr ⟨yk_X_store, List.forall_mem_cons.mpr ⟨yk_X_fault, List.forall_mem_cons.mpr ⟨yk_X_count, List.forall_mem_cons.mpr ⟨yk_X_isThere, List.forall_mem_cons.mpr ⟨yk_X_hasVersion, List.forall_mem_cons.mpr ⟨yk_X_hasVersions, List.forall_mem_cons.mpr ⟨yk_X_hasSpot, List.forall_mem_cons.mpr ⟨yk_X_cell, List.forall_mem_cons.mpr ⟨yk_X_version, List.forall_mem_cons.mpr ⟨yk_X_unlike, List.forall_mem_cons.mpr ⟨yk_X_first, List.forall_mem_cons.mpr ⟨yk_X_meet, List.forall_mem_cons.mpr ⟨yk_X_apart, List.forall_mem_cons.mpr ⟨yk_X_root, List.forall_mem_cons.mpr ⟨yk_X_roots, List.forall_mem_cons.mpr ⟨yk_X_together, List.forall_mem_cons.mpr ⟨yk_X_blame, List.forall_mem_cons.mpr ⟨yk_X_often, List.forall_mem_cons.mpr ⟨yk_X_state, List.forall_mem_cons.mpr ⟨yk_X_length, List.forall_mem_cons.mpr ⟨yk_X_longest, List.forall_mem_cons.mpr ⟨yk_X_direct, fun _ h => absurd h List.not_mem_nil⟩⟩⟩⟩⟩⟩⟩⟩⟩⟩⟩⟩⟩⟩⟩⟩⟩⟩⟩⟩⟩⟩⟩⟩⟩⟩⟩⟩⟩⟩⟩⟩
theorem mz_cka_4 : mz_ckr (mz_all_4.take 32) := List.forall_mem_cons.mpr ⟨yk_X_ways, List.forall_mem_cons.mpr ⟨yk_X_snapping, List.forall_mem_cons.mpr ⟨yk_X_snap, List.forall_mem_cons.mpr ⟨yk_X_busiest, List.forall_mem_cons.mpr ⟨yk_X_hasAllOf, List.forall_mem_cons.mpr ⟨yk_X_keeps, List.forall_mem_cons.mpr ⟨yk_X_room, List.forall_mem_cons.mpr ⟨yk_X_ledger, List.forall_mem_cons.mpr ⟨yk_X_spent, List.forall_mem_cons.mpr ⟨yk_X_dearest, List.forall_mem_cons.mpr ⟨yk_X_cost, List.forall_mem_cons.mpr ⟨yk_X_by, List.forall_mem_cons.mpr ⟨yk_X_cutting, List.forall_mem_cons.mpr ⟨yk_X_cut, List.forall_mem_cons.mpr ⟨yk_X_without, List.forall_mem_cons.mpr ⟨yk_X_hasActLeft, List.forall_mem_cons.mpr ⟨yk_X_hasRoomFor, List.forall_mem_cons.mpr ⟨yk_X_reads, List.forall_mem_cons.mpr ⟨yk_X_sets, List.forall_mem_cons.mpr ⟨yk_X_joins, List.forall_mem_cons.mpr ⟨yk_X_finds, List.forall_mem_cons.mpr ⟨yk_X_snaps, List.forall_mem_cons.mpr ⟨yk_X_merging, List.forall_mem_cons.mpr ⟨yk_X_merged, List.forall_mem_cons.mpr ⟨yk_X_merges, List.forall_mem_cons.mpr ⟨yk_X_patching, List.forall_mem_cons.mpr ⟨yk_X_patches, List.forall_mem_cons.mpr ⟨yk_X_mayColour, List.forall_mem_cons.mpr ⟨yk_X_search, List.forall_mem_cons.mpr ⟨yk_X_searchBy, List.forall_mem_cons.mpr ⟨yk_X_colour, List.forall_mem_cons.mpr ⟨yk_X_colours, fun _ h => absurd h List.not_mem_nil⟩⟩⟩⟩⟩⟩⟩⟩⟩⟩⟩⟩⟩⟩⟩⟩⟩⟩⟩⟩⟩⟩⟩⟩⟩⟩⟩⟩⟩⟩⟩⟩
theorem mz_cka_5 : mz_ckr (mz_all_5.take 32) := List.forall_mem_cons.mpr ⟨yk_X_forward, List.forall_mem_cons.mpr ⟨yk_X_forwardBy, List.forall_mem_cons.mpr ⟨yk_X_hue, List.forall_mem_cons.mpr ⟨yk_X_imageAt, List.forall_mem_cons.mpr ⟨yk_X_image, List.forall_mem_cons.mpr ⟨yk_X_back, List.forall_mem_cons.mpr ⟨yk_X_undo, List.forall_mem_cons.mpr ⟨yk_X_anew, List.forall_mem_cons.mpr ⟨yk_Mo_in, List.forall_mem_cons.mpr ⟨yk_Mo_has, List.forall_mem_cons.mpr ⟨yk_Mo_bitsOf, List.forall_mem_cons.mpr ⟨yk_Mo_init, List.forall_mem_cons.mpr ⟨yk_Mo_feed, List.forall_mem_cons.mpr ⟨yk_Mo_end, List.forall_mem_cons.mpr ⟨yk_Mo_at, List.forall_mem_cons.mpr ⟨yk_Mo_begins, List.forall_mem_cons.mpr ⟨yk_Mo_straight, List.forall_mem_cons.mpr ⟨yk_Mo_links, List.forall_mem_cons.mpr ⟨yk_Mo_lengthOf, List.forall_mem_cons.mpr ⟨yk_Mo_turns, List.forall_mem_cons.mpr ⟨yk_Mo_snap, List.forall_mem_cons.mpr ⟨yk_Mo_reach, List.forall_mem_cons.mpr ⟨yk_Mo_along, List.forall_mem_cons.mpr ⟨yk_Mo_read, List.forall_mem_cons.mpr ⟨yk_Mo_set, List.forall_mem_cons.mpr ⟨yk_Mo_rootOf, List.forall_mem_cons.mpr ⟨yk_Mo_find, List.forall_mem_cons.mpr ⟨yk_Mo_join, List.forall_mem_cons.mpr ⟨yk_Mo_meetOf, List.forall_mem_cons.mpr ⟨yk_Mo_isConflict, List.forall_mem_cons.mpr ⟨yk_Mo_mergedOf, List.forall_mem_cons.mpr ⟨yk_Mo_mergeMany, fun _ h => absurd h List.not_mem_nil⟩⟩⟩⟩⟩⟩⟩⟩⟩⟩⟩⟩⟩⟩⟩⟩⟩⟩⟩⟩⟩⟩⟩⟩⟩⟩⟩⟩⟩⟩⟩⟩
theorem mz_cka_6 : mz_ckr (mz_all_6.take 32) := List.forall_mem_cons.mpr ⟨yk_Mo_merge, List.forall_mem_cons.mpr ⟨yk_Mo_isPatched, List.forall_mem_cons.mpr ⟨yk_Mo_patchMany, List.forall_mem_cons.mpr ⟨yk_Mo_patch, List.forall_mem_cons.mpr ⟨yk_Mo_deed, List.forall_mem_cons.mpr ⟨yk_Mo_does, List.forall_mem_cons.mpr ⟨yk_Mo_plays, List.forall_mem_cons.mpr ⟨yk_Mo_plays2, List.forall_mem_cons.mpr ⟨yk_Mo_isAt, List.forall_mem_cons.mpr ⟨yk_Mo_next, List.forall_mem_cons.mpr ⟨yk_Mo_faults, List.forall_mem_cons.mpr ⟨yk_Mo_isWord, List.forall_mem_cons.mpr ⟨yk_Mo_passes, List.forall_mem_cons.mpr ⟨yk_Mo_number, List.forall_mem_cons.mpr ⟨yk_Mo_needs, List.forall_mem_cons.mpr ⟨yk_Mo_named, List.forall_mem_cons.mpr ⟨yk_Mo_readsCell, List.forall_mem_cons.mpr ⟨yk_Mo_isCell, List.forall_mem_cons.mpr ⟨yk_Mo_readsStore, List.forall_mem_cons.mpr ⟨yk_Mo_readsPair, List.forall_mem_cons.mpr ⟨yk_Mo_kindHere, List.forall_mem_cons.mpr ⟨yk_Mo_readsDeed, List.forall_mem_cons.mpr ⟨yk_Mo_lays, List.forall_mem_cons.mpr ⟨yk_Mo_store, List.forall_mem_cons.mpr ⟨yk_Mo_fault, List.forall_mem_cons.mpr ⟨yk_Mo_is, List.forall_mem_cons.mpr ⟨yk_Mo_isVersion, List.forall_mem_cons.mpr ⟨yk_Mo_count, List.forall_mem_cons.mpr ⟨yk_Mo_cell, List.forall_mem_cons.mpr ⟨yk_Mo_version, List.forall_mem_cons.mpr ⟨yk_Mo_unlikeOf, List.forall_mem_cons.mpr ⟨yk_Mo_areVersions, fun _ h => absurd h List.not_mem_nil⟩⟩⟩⟩⟩⟩⟩⟩⟩⟩⟩⟩⟩⟩⟩⟩⟩⟩⟩⟩⟩⟩⟩⟩⟩⟩⟩⟩⟩⟩⟩⟩
theorem mz_cka_7 : mz_ckr (mz_all_7.take 32) := List.forall_mem_cons.mpr ⟨yk_Mo_unlike, List.forall_mem_cons.mpr ⟨yk_Mo_first, List.forall_mem_cons.mpr ⟨yk_Mo_backTo, List.forall_mem_cons.mpr ⟨yk_Mo_meet, List.forall_mem_cons.mpr ⟨yk_Mo_apart, List.forall_mem_cons.mpr ⟨yk_Mo_root, List.forall_mem_cons.mpr ⟨yk_Mo_roots, List.forall_mem_cons.mpr ⟨yk_Mo_together, List.forall_mem_cons.mpr ⟨yk_Mo_state, List.forall_mem_cons.mpr ⟨yk_Mo_length, List.forall_mem_cons.mpr ⟨yk_Mo_longest, List.forall_mem_cons.mpr ⟨yk_Mo_direct, List.forall_mem_cons.mpr ⟨yk_Mo_ledger, List.forall_mem_cons.mpr ⟨yk_Mo_spent, List.forall_mem_cons.mpr ⟨yk_Mo_dearest, List.forall_mem_cons.mpr ⟨yk_Mo_cost, List.forall_mem_cons.mpr ⟨yk_Mo_by, List.forall_mem_cons.mpr ⟨yk_Mo_cutting, List.forall_mem_cons.mpr ⟨yk_Mo_cut, List.forall_mem_cons.mpr ⟨yk_Mo_without, List.forall_mem_cons.mpr ⟨yk_Mo_acts, List.forall_mem_cons.mpr ⟨yk_Mo_isFull, List.forall_mem_cons.mpr ⟨yk_Mo_reads, List.forall_mem_cons.mpr ⟨yk_Mo_sets, List.forall_mem_cons.mpr ⟨yk_Mo_joins, List.forall_mem_cons.mpr ⟨yk_Mo_finds, List.forall_mem_cons.mpr ⟨yk_Mo_snaps, List.forall_mem_cons.mpr ⟨yk_Mo_merges, List.forall_mem_cons.mpr ⟨yk_Mo_areThree, List.forall_mem_cons.mpr ⟨yk_Mo_patches, List.forall_mem_cons.mpr ⟨yk_Mo_patching, List.forall_mem_cons.mpr ⟨yk_Mo_merging, fun _ h => absurd h List.not_mem_nil⟩⟩⟩⟩⟩⟩⟩⟩⟩⟩⟩⟩⟩⟩⟩⟩⟩⟩⟩⟩⟩⟩⟩⟩⟩⟩⟩⟩⟩⟩⟩⟩
theorem mz_cka_8 : mz_ckr (mz_all_8.take 32) := List.forall_mem_cons.mpr ⟨yk_Mo_merged, List.forall_mem_cons.mpr ⟨yk_Mo_blame, List.forall_mem_cons.mpr ⟨yk_Mo_often, List.forall_mem_cons.mpr ⟨yk_Mo_isSet, List.forall_mem_cons.mpr ⟨yk_Mo_keptOf, List.forall_mem_cons.mpr ⟨yk_Mo_keeps, List.forall_mem_cons.mpr ⟨yk_Mo_room, List.forall_mem_cons.mpr ⟨yk_Mo_busiest, List.forall_mem_cons.mpr ⟨yk_Mo_isOnWay, List.forall_mem_cons.mpr ⟨yk_Mo_waysOf, List.forall_mem_cons.mpr ⟨yk_Mo_ways, List.forall_mem_cons.mpr ⟨yk_Mo_snapping, List.forall_mem_cons.mpr ⟨yk_Mo_snap2, List.forall_mem_cons.mpr ⟨yk_Mo_image, List.forall_mem_cons.mpr ⟨yk_Mo_back, List.forall_mem_cons.mpr ⟨yk_Mo_isNone, List.forall_mem_cons.mpr ⟨yk_Mo_searches, List.forall_mem_cons.mpr ⟨yk_Mo_goesOn, List.forall_mem_cons.mpr ⟨yk_Mo_areColours, List.forall_mem_cons.mpr ⟨yk_Mo_search, List.forall_mem_cons.mpr ⟨yk_Mo_searchBy, List.forall_mem_cons.mpr ⟨yk_Mo_colour, List.forall_mem_cons.mpr ⟨yk_Mo_colours, List.forall_mem_cons.mpr ⟨yk_Mo_isTaken, List.forall_mem_cons.mpr ⟨yk_Mo_takes, List.forall_mem_cons.mpr ⟨yk_Mo_setOr, List.forall_mem_cons.mpr ⟨yk_Mo_lets, List.forall_mem_cons.mpr ⟨yk_Mo_looksAhead, List.forall_mem_cons.mpr ⟨yk_Mo_goesAhead, List.forall_mem_cons.mpr ⟨yk_Mo_forward, List.forall_mem_cons.mpr ⟨yk_Mo_forwardBy, List.forall_mem_cons.mpr ⟨yk_Mo_hue, fun _ h => absurd h List.not_mem_nil⟩⟩⟩⟩⟩⟩⟩⟩⟩⟩⟩⟩⟩⟩⟩⟩⟩⟩⟩⟩⟩⟩⟩⟩⟩⟩⟩⟩⟩⟩⟩⟩
theorem mz_cka_9 : mz_ckr (mz_all_9.take 6) := List.forall_mem_cons.mpr ⟨yk_Mo_undo, List.forall_mem_cons.mpr ⟨yk_Mo_anew, List.forall_mem_cons.mpr ⟨yk_In_numberOfTrailingZeros, List.forall_mem_cons.mpr ⟨yk_In_bitCount, List.forall_mem_cons.mpr ⟨yk_Ma_max, List.forall_mem_cons.mpr ⟨yk_Ma_min, fun _ h => absurd h List.not_mem_nil⟩⟩⟩⟩⟩⟩
theorem mz_cka : ∀ y, y < 294 → mz_ck (mz_yD y) = true := by
  have key : ∀ (l : List mz_Y) (k n : Nat) (d : mz_Y), mz_ckr (l.take n) → k < n → n ≤ l.length → mz_ck (l.getD k d) = true := by
    intro l k n d hl hk hn
    have h1 : k < l.length := by omega
    have h2 : l.getD k d = l[k] := by rw [List.getD_eq_getElem?_getD, List.getElem?_eq_getElem h1]; rfl
    rw [h2]
    refine hl _ (List.mem_of_getElem? (i := k) ?_)
    rw [List.getElem?_take_of_lt hk, List.getElem?_eq_getElem h1]
  intro y hy
  unfold mz_yD
  split
  · exact key _ _ 32 _ mz_cka_0 (by omega) (by decide)
  · exact key _ _ 32 _ mz_cka_1 (by omega) (by decide)
  · exact key _ _ 32 _ mz_cka_2 (by omega) (by decide)
  · exact key _ _ 32 _ mz_cka_3 (by omega) (by decide)
  · exact key _ _ 32 _ mz_cka_4 (by omega) (by decide)
  · exact key _ _ 32 _ mz_cka_5 (by omega) (by decide)
  · exact key _ _ 32 _ mz_cka_6 (by omega) (by decide)
  · exact key _ _ 32 _ mz_cka_7 (by omega) (by decide)
  · exact key _ _ 32 _ mz_cka_8 (by omega) (by decide)
  · rename_i h0 h1 h2 h3 h4 h5 h6 h7 h8
    have g0 : ¬ y / 32 = 0 := h0
    have g1 : ¬ y / 32 = 1 := h1
    have g2 : ¬ y / 32 = 2 := h2
    have g3 : ¬ y / 32 = 3 := h3
    have g4 : ¬ y / 32 = 4 := h4
    have g5 : ¬ y / 32 = 5 := h5
    have g6 : ¬ y / 32 = 6 := h6
    have g7 : ¬ y / 32 = 7 := h7
    have g8 : ¬ y / 32 = 8 := h8
    exact key _ _ 6 _ mz_cka_9 (by omega) (by decide)
end
section
def mz_Ks (sa : Nat → Nat) : mz_K := fun y args M z z' Q => z' = z ∧ ((y = 400 ∧ ∃ i, i < 10 ∧ args = [.ref (sa i)] ∧ Q (some (.int (nI (mw_len10.getD i 0)))) M) ∨ (y = 401 ∧ ∃ i j, i < 10 ∧ j < mw_len10.getD i 0 ∧ args = [.ref (sa i), .int (nI j)] ∧ Q (some (.int ((mw_byt.getD i []).getD j 0))) M))
def mz_Kd (sc : Option (Nat × Nat × (Nat → Int32))) (sa : Nat → Nat) : Nat → mz_K
  | 0 => fun _ _ _ _ _ _ => False
  | d + 1 => fun y args M z z' Q => (y < 292 ∧ (mz_en args (mz_yD y).2.2.1).length = (mz_yD y).2.2.1 ∧ mz_wp sc sa (mz_Kd sc sa d) d (mz_yD y) z' Q 0 (mz_en args (mz_yD y).2.2.1) [] M z) ∨ (3 ≤ d ∧ mz_Ks sa y args M z z' Q)
theorem mz_Ks_m {sa : Nat → Nat} : mz_Km (mz_Ks sa) := by
  intro y args M z z' Q Q' hQ h
  refine ⟨h.1, ?_⟩
  rcases h.2 with ⟨h1, i, h2, h3, h4⟩ | ⟨h1, i, j, h2, h3, h4, h5⟩
  · exact Or.inl ⟨h1, i, h2, h3, hQ _ _ h4⟩
  · exact Or.inr ⟨h1, i, j, h2, h3, h4, hQ _ _ h5⟩
theorem mz_Kd_m (sc : Option (Nat × Nat × (Nat → Int32))) (sa : Nat → Nat) : ∀ d, mz_Km (mz_Kd sc sa d) := by
  intro d
  induction d with
  | zero => intro y args M z z' Q Q' hQ h; exact h.elim
  | succ d ih =>
    intro y args M z z' Q Q' hQ h
    rcases h with ⟨h1, h2, h3⟩ | ⟨h1, h2⟩
    · exact Or.inl ⟨h1, h2, mz_wp_m ih hQ h3⟩
    · exact Or.inr ⟨h1, mz_Ks_m _ _ _ _ _ _ _ hQ h2⟩
theorem mk_end {p : Program} {l : Launch} {e : Env} {R : Room} {s : State} {m : MethodId} {args : Array Value} {below : List Frame} {meth : Method} {c : Code} {D : va_G} {C : Nat → ClassId} {z0 : Nat} {Y : mz_Y} {zs B : Nat × Nat} {Q : mz_P} (hx : p.tables.exec = Jvm.exec) (hb : c.code = Y.2.1) (hr : meth.sig.returnType = Y.2.2.2.1) (hlocks : meth.locks = false) :
    ∀ (v : Option Value) (i : Instr) (M' : mz_M) (H : Heap) (locs : List Loc) (ls : Array Slot) (pc : Nat), decode Y.2.1 pc = .ok (i, 1) → ms_ret i v Y.2.2.2.1 → Q v M' → H.size = B.1 → va_P D mz_cl (mw_w C M' z0 (B.1 - z0)) H → mw_kz z0 (B.1 - z0) M' → va_S (mw_A z0) s.heap H locs → W p l e R s m args below meth c H locs (B.1 - zs.1) (B.2 - zs.2) (MQ below (mw_Qc D C z0 Q B) args s (B.1 - zs.1) (B.2 - zs.2) (mw_A z0)) (F0 m pc ls v.toList) := by
  intro v i M' H locs ls pc hd hret hQ hsz hP hk hS
  have hq : ∀ t : State, t.heap = H → s.WarmedH t.vm → mw_Qc D C z0 Q B args s (.returned v) t := fun t ht _ => ⟨⟨v, M', rfl, hQ, by rw [ht]; exact hsz, by rw [ht]; exact hP, hk⟩, hS.F ht⟩
  rcases hret with ⟨rfl, rfl, h1⟩ | ⟨x, t, rfl, rfl, h1, h2⟩ | ⟨x, rfl, rfl, h1⟩ | ⟨w, n, rfl, rfl, h1, h2⟩
  · exact W.vret hx hb (hr.trans h1) hq hS.2.2 hd hlocks
  · exact W.zret hx hb (hr.trans h1) h2 hq hS.2.2 hd hlocks
  · exact W.lret hx hb (hr.trans h1) hq hS.2.2 hd hlocks
  · exact W.aret hx hb (hr.trans h1) (Or.inl ⟨n, rfl⟩) h2 hq hS.2.2 hd hlocks
theorem mk_one {l : Launch} {D : va_G} {C : Nat → ClassId} {z0 : Nat} {sc : Option (Nat × Nat × (Nat → Int32))} {sa sv : Nat → Nat} {K : mz_K} {d y : Nat} {args : List Value} {M : mz_M} {z z' : Nat × Nat} {Q : mz_P}
    (hKs : ∀ y a M z z' Q', K y a M z z' Q' → z.1 ≤ z'.1 → z.2 ≤ z'.2 → 1 ≤ d ∧ mw_Met l D C z0 sc sa sv (d - 1) y a M z z' Q') (hy : y < 292) (hen : (mz_en args (mz_yD y).2.2.1).length = (mz_yD y).2.2.1) (hwp : mz_wp sc sa K d (mz_yD y) z' Q 0 (mz_en args (mz_yD y).2.2.1) [] M z) (hz1 : z.1 ≤ z'.1) (hz2 : z.2 ≤ z'.2) : mw_Met l D C z0 sc sa sv d y args M z z' Q := by
  obtain ⟨f1, f2, f3, f4, f5, f6, f7⟩ := ms_cmf hy
  unfold mw_Met
  rw [mw_y_of hy]
  refine Met.ofW (cc := (mz_yD y).2.1) (maxL := (mz_yD y).2.2.1) (ret := (mz_yD y).2.2.2.1) (by show plainName (mz_yD y).1.cls = true; rw [f2]; exact (mz_pln _ f3).1) rfl ?_
  intro p e s m args2 below meth c s₁ Bd hml hv
  obtain ⟨rfl, hE, hsz, hz0, hP, hkz⟩ := hv
  have hts : ∀ w ∈ mw_Ts, w.before args.toArray s = true := fun w hw => atoms_spec (ws := Cond.code (mz_yD y).1 (mz_yD y).2.1 (mz_yD y).2.2.1 (mz_yD y).2.2.2.1 :: mw_Ts) Bd.pre w (List.mem_cons_of_mem _ hw)
  have hown : s.vm.findClass (mz_cN (mz_yD y).2.2.2.2.1) = some m.cls := by
    rw [← f2]
    exact findClass_of_methodNamed Bd.named
  have X : ms_X p l e (mw_rm d z z') s m args.toArray below meth c (MQ below (mw_Qc D C z0 Q z') args.toArray s (z'.1 - z.1) (z'.2 - z.2) (mw_A z0)) D C z0 sc sa sv K d (mz_yD y) z z' Q :=
    ⟨Bd.exec, Bd.bytes, hml, hown, hts, fun hi => by
      rw [hi] at f4
      exact (name_of_methodNamed Bd.named Bd.method).1.trans (of_decide_eq_true f4.symm), hE, mz_cka y (by omega), hsz, hz0, ⟨Nat.le_refl _, Nat.le_refl _, Nat.le_refl _, Nat.le_refl _⟩, hKs, mk_end Bd.exec Bd.bytes Bd.returns Bd.notSynchronized⟩
  rw [lg_entry_eq]
  have h9 := hwp _ (ms_step X) s.heap [] _ ⟨mw_en args _ hen, hen, Nat.le_refl _, Nat.le_refl _, hz1, hz2, hP, hkz, va_S.rf⟩
  exact W.cs (by omega) (by omega) h9
theorem mk_sound {l : Launch} {D : va_G} {C : Nat → ClassId} {z0 : Nat} {sc : Option (Nat × Nat × (Nat → Int32))} {sa sv : Nat → Nat}
    (hstr : ∀ d y args M z z' Q, 3 ≤ d → mz_Ks sa y args M z z' Q → mw_Met l D C z0 sc sa sv d y args M z z' Q) :
    ∀ d y args M z z' Q, mz_Kd sc sa (d + 1) y args M z z' Q → z.1 ≤ z'.1 → z.2 ≤ z'.2 → mw_Met l D C z0 sc sa sv d y args M z z' Q := by
  intro d
  induction d with
  | zero =>
    intro y args M z z' Q h hz1 hz2
    rcases h with ⟨h1, h2, h3⟩ | ⟨h1, -⟩
    · exact mk_one (fun _ _ _ _ _ _ hk => hk.elim) h1 h2 h3 hz1 hz2
    · exact absurd h1 (by decide)
  | succ d ih =>
    intro y args M z z' Q h hz1 hz2
    rcases h with ⟨h1, h2, h3⟩ | ⟨h1, h2⟩
    · exact mk_one (fun y2 a2 M2 u u' Q2 hk k1 k2 => ⟨by omega, ih y2 a2 M2 u u' Q2 hk k1 k2⟩) h1 h2 h3 hz1 hz2
    · exact hstr _ _ _ _ _ _ _ h1 h2
end
section
-- rules of the small machine, for walks
def zw (sc : Option (Nat × Nat × (Nat → Int32))) (sa : Nat → Nat) (d : Nat) (Y : mz_Y) (B : Nat × Nat) (Q : mz_P) : mz_C := mz_wp sc sa (mz_Kd sc sa d) d Y B Q
/-- a call's whole outcome -/
def zx (sc : Option (Nat × Nat × (Nat → Int32))) (sa : Nat → Nat) (d y : Nat) (args : List Value) (M : mz_M) (z z' : Nat × Nat) (r : Option Value) (M1 : mz_M) : Prop := mz_Kd sc sa d y args M z z' (fun r' M' => r' = r ∧ M' = M1)
section
variable {sc : Option (Nat × Nat × (Nat → Int32))} {sa : Nat → Nat} {d : Nat} {Y : mz_Y} {B : Nat × Nat} {Q : mz_P} {pc q ln : Nat} {L st : List Value} {M : mz_M} {z : Nat × Nat} {tg : List Nat}
theorem zg {i : Instr} (he : mz_lk Y.2.2.2.2.2.2 pc = some (i, ln, tg)) (h : mz_stp sc sa (mz_Kd sc sa d) d Y B Q (zw sc sa d Y B Q) i tg pc L st M z) : zw sc sa d Y B Q pc L st M z := by
  refine mz_wp_i (mz_Kd_m sc sa d) ?_
  unfold mz_nx
  rw [he]
  exact h
theorem zin {y : Nat} {args : List Value} {z' : Nat × Nat} {Q : mz_P} (Y : mz_Y) (L0 : List Value) (hy : Nat.blt y 292 = true) (hY : mz_yD y = Y) (hL : mz_en args Y.2.2.1 = L0) (hl : L0.length = Y.2.2.1) (h : zw sc sa d Y z' Q 0 L0 [] M z) : mz_Kd sc sa (d + 1) y args M z z' Q := by
  subst hY
  subst hL
  exact Or.inl ⟨by simpa using hy, hl, h⟩
theorem zxin {y : Nat} {args : List Value} {z' : Nat × Nat} {r : Option Value} {M1 : mz_M} (Y : mz_Y) (L0 : List Value) (hy : Nat.blt y 292 = true) (hY : mz_yD y = Y) (hL : mz_en args Y.2.2.1 = L0) (hl : L0.length = Y.2.2.1) (h : zw sc sa d Y z' (fun r' M' => r' = r ∧ M' = M1) 0 L0 [] M z) : zx sc sa (d + 1) y args M z z' r M1 := zin Y L0 hy hY hL hl h
theorem z_iconst {n : Int} {v : Int32} (he : mz_lk Y.2.2.2.2.2.2 pc = some (.iconst n, ln, tg)) (hp : pc + 1 = q) (hv : Int32.ofInt n = v) (k : zw sc sa d Y B Q q L (.int v :: st) M z) : zw sc sa d Y B Q pc L (st) M z := by
  subst hp
  exact zg he (by rw [← hv] at k; exact k)
theorem z_bipush {n : Int} {v : Int32} (he : mz_lk Y.2.2.2.2.2.2 pc = some (.bipush n, ln, tg)) (hp : pc + 2 = q) (hv : (Int8.ofInt n).toInt32 = v) (k : zw sc sa d Y B Q q L (.int v :: st) M z) : zw sc sa d Y B Q pc L (st) M z := by
  subst hp
  exact zg he (by rw [← hv] at k; exact k)
theorem z_sipush {n : Int} {v : Int32} (he : mz_lk Y.2.2.2.2.2.2 pc = some (.sipush n, ln, tg)) (hp : pc + 3 = q) (hv : (Int16.ofInt n).toInt32 = v) (k : zw sc sa d Y B Q q L (.int v :: st) M z) : zw sc sa d Y B Q pc L (st) M z := by
  subst hp
  exact zg he (by rw [← hv] at k; exact k)
theorem z_lconst {n : Fin 2} {v : Int64} (he : mz_lk Y.2.2.2.2.2.2 pc = some (.lconst n, ln, tg)) (hp : pc + 1 = q) (hv : Int64.ofNat (n : Nat) = v) (k : zw sc sa d Y B Q q L (.long v :: st) M z) : zw sc sa d Y B Q pc L (st) M z := by
  subst hp
  exact zg he (by rw [← hv] at k; exact k)
theorem z_null  (he : mz_lk Y.2.2.2.2.2.2 pc = some (.aconst_null, ln, tg)) (hp : pc + 1 = q) (k : zw sc sa d Y B Q q L (.null :: st) M z) : zw sc sa d Y B Q pc L (st) M z := by
  subst hp
  exact zg he (k)
theorem z_iload {j : Nat} {x : Int32} (he : mz_lk Y.2.2.2.2.2.2 pc = some (.iload j, ln, tg)) (hp : pc + 2 = q) (hl : L[j]? = some (.int x)) (k : zw sc sa d Y B Q q L (.int x :: st) M z) : zw sc sa d Y B Q pc L (st) M z := by
  subst hp
  exact zg he (by show mz_gI L[j]? _; rw [hl]; exact k)
theorem z_iload_n {j : Fin 4} {x : Int32} (he : mz_lk Y.2.2.2.2.2.2 pc = some (.iload_n j, ln, tg)) (hp : pc + 1 = q) (hl : L[(j : Nat)]? = some (.int x)) (k : zw sc sa d Y B Q q L (.int x :: st) M z) : zw sc sa d Y B Q pc L (st) M z := by
  subst hp
  exact zg he (by show mz_gI L[(j : Nat)]? _; rw [hl]; exact k)
theorem z_lload {j : Nat} {x : Int64} (he : mz_lk Y.2.2.2.2.2.2 pc = some (.lload j, ln, tg)) (hp : pc + 2 = q) (hl : L[j]? = some (.long x)) (k : zw sc sa d Y B Q q L (.long x :: st) M z) : zw sc sa d Y B Q pc L (st) M z := by
  subst hp
  exact zg he (by show mz_gJ L[j]? _; rw [hl]; exact k)
theorem z_lload_n {j : Fin 4} {x : Int64} (he : mz_lk Y.2.2.2.2.2.2 pc = some (.lload_n j, ln, tg)) (hp : pc + 1 = q) (hl : L[(j : Nat)]? = some (.long x)) (k : zw sc sa d Y B Q q L (.long x :: st) M z) : zw sc sa d Y B Q pc L (st) M z := by
  subst hp
  exact zg he (by show mz_gJ L[(j : Nat)]? _; rw [hl]; exact k)
theorem z_aload {j : Nat} {x : Nat} (he : mz_lk Y.2.2.2.2.2.2 pc = some (.aload j, ln, tg)) (hp : pc + 2 = q) (hl : L[j]? = some (.ref x)) (k : zw sc sa d Y B Q q L (.ref x :: st) M z) : zw sc sa d Y B Q pc L (st) M z := by
  subst hp
  exact zg he (by show mz_gA L[j]? (fun v => zw sc sa d Y B Q (pc + 2) L (v :: st) M z); rw [hl]; exact k)
theorem z_aload_n {j : Fin 4} {x : Nat} (he : mz_lk Y.2.2.2.2.2.2 pc = some (.aload_n j, ln, tg)) (hp : pc + 1 = q) (hl : L[(j : Nat)]? = some (.ref x)) (k : zw sc sa d Y B Q q L (.ref x :: st) M z) : zw sc sa d Y B Q pc L (st) M z := by
  subst hp
  exact zg he (by show mz_gA L[(j : Nat)]? (fun v => zw sc sa d Y B Q (pc + 1) L (v :: st) M z); rw [hl]; exact k)
theorem z_aload_nN {j : Fin 4} (he : mz_lk Y.2.2.2.2.2.2 pc = some (.aload_n j, ln, tg)) (hp : pc + 1 = q) (hl : L[(j : Nat)]? = some .null) (k : zw sc sa d Y B Q q L (.null :: st) M z) : zw sc sa d Y B Q pc L (st) M z := by
  subst hp
  exact zg he (by show mz_gA L[(j : Nat)]? (fun v => zw sc sa d Y B Q (pc + 1) L (v :: st) M z); rw [hl]; exact k)
theorem z_istore {j : Nat} {x : Int32} {L2 : List Value} (he : mz_lk Y.2.2.2.2.2.2 pc = some (.istore j, ln, tg)) (hp : pc + 2 = q) (hj : Nat.blt (j) L.length = true) (hL : mz_st1 L j (.int x) = L2) (k : zw sc sa d Y B Q q L2 (st) M z) : zw sc sa d Y B Q pc L (.int x :: st) M z := by
  subst hp
  exact zg he (⟨by simpa using hj, by rw [← hL] at k; exact k⟩)
theorem z_istore_n {j : Fin 4} {x : Int32} {L2 : List Value} (he : mz_lk Y.2.2.2.2.2.2 pc = some (.istore_n j, ln, tg)) (hp : pc + 1 = q) (hj : Nat.blt ((j : Nat)) L.length = true) (hL : mz_st1 L (j : Nat) (.int x) = L2) (k : zw sc sa d Y B Q q L2 (st) M z) : zw sc sa d Y B Q pc L (.int x :: st) M z := by
  subst hp
  exact zg he (⟨by simpa using hj, by rw [← hL] at k; exact k⟩)
theorem z_lstore {j : Nat} {x : Int64} {L2 : List Value} (he : mz_lk Y.2.2.2.2.2.2 pc = some (.lstore j, ln, tg)) (hp : pc + 2 = q) (hj : Nat.blt (j + 1) L.length = true) (hL : mz_st2 L j (.long x) = L2) (k : zw sc sa d Y B Q q L2 (st) M z) : zw sc sa d Y B Q pc L (.long x :: st) M z := by
  subst hp
  exact zg he (⟨by simpa using hj, by rw [← hL] at k; exact k⟩)
theorem z_lstore_n {j : Fin 4} {x : Int64} {L2 : List Value} (he : mz_lk Y.2.2.2.2.2.2 pc = some (.lstore_n j, ln, tg)) (hp : pc + 1 = q) (hj : Nat.blt ((j : Nat) + 1) L.length = true) (hL : mz_st2 L (j : Nat) (.long x) = L2) (k : zw sc sa d Y B Q q L2 (st) M z) : zw sc sa d Y B Q pc L (.long x :: st) M z := by
  subst hp
  exact zg he (⟨by simpa using hj, by rw [← hL] at k; exact k⟩)
theorem z_astore {j : Nat} {x : Nat} {L2 : List Value} (he : mz_lk Y.2.2.2.2.2.2 pc = some (.astore j, ln, tg)) (hp : pc + 2 = q) (hj : Nat.blt (j) L.length = true) (hL : mz_st1 L j (.ref x) = L2) (k : zw sc sa d Y B Q q L2 (st) M z) : zw sc sa d Y B Q pc L (.ref x :: st) M z := by
  subst hp
  exact zg he (⟨by simpa using hj, by rw [← hL] at k; exact k⟩)
theorem z_astore_n {j : Fin 4} {x : Nat} {L2 : List Value} (he : mz_lk Y.2.2.2.2.2.2 pc = some (.astore_n j, ln, tg)) (hp : pc + 1 = q) (hj : Nat.blt ((j : Nat)) L.length = true) (hL : mz_st1 L (j : Nat) (.ref x) = L2) (k : zw sc sa d Y B Q q L2 (st) M z) : zw sc sa d Y B Q pc L (.ref x :: st) M z := by
  subst hp
  exact zg he (⟨by simpa using hj, by rw [← hL] at k; exact k⟩)
theorem z_astore_nN {j : Fin 4} {L2 : List Value} (he : mz_lk Y.2.2.2.2.2.2 pc = some (.astore_n j, ln, tg)) (hp : pc + 1 = q) (hj : Nat.blt (j : Nat) L.length = true) (hL : mz_st1 L (j : Nat) .null = L2) (k : zw sc sa d Y B Q q L2 (st) M z) : zw sc sa d Y B Q pc L (.null :: st) M z := by
  subst hp
  exact zg he (⟨by simpa using hj, by rw [← hL] at k; exact k⟩)
theorem z_iinc {j : Nat} {n : Int} {x : Int32} {L2 : List Value} (he : mz_lk Y.2.2.2.2.2.2 pc = some (.iinc j n, ln, tg)) (hp : pc + 3 = q) (hl : L[j]? = some (.int x)) (hL : mz_st1 L j (.int (x + Int32.ofInt n)) = L2) (k : zw sc sa d Y B Q q L2 (st) M z) : zw sc sa d Y B Q pc L (st) M z := by
  subst hp
  exact zg he (by show mz_gI L[j]? _; rw [hl]; rw [← hL] at k; exact k)
theorem z_iadd {x y : Int32} (he : mz_lk Y.2.2.2.2.2.2 pc = some (.iadd, ln, tg)) (hp : pc + 1 = q) (k : zw sc sa d Y B Q q L (.int (x + y) :: st) M z) : zw sc sa d Y B Q pc L (.int y :: .int x :: st) M z := by
  subst hp
  exact zg he (k)
theorem z_isub {x y : Int32} (he : mz_lk Y.2.2.2.2.2.2 pc = some (.isub, ln, tg)) (hp : pc + 1 = q) (k : zw sc sa d Y B Q q L (.int (x - y) :: st) M z) : zw sc sa d Y B Q pc L (.int y :: .int x :: st) M z := by
  subst hp
  exact zg he (k)
theorem z_imul {x y : Int32} (he : mz_lk Y.2.2.2.2.2.2 pc = some (.imul, ln, tg)) (hp : pc + 1 = q) (k : zw sc sa d Y B Q q L (.int (x * y) :: st) M z) : zw sc sa d Y B Q pc L (.int y :: .int x :: st) M z := by
  subst hp
  exact zg he (k)
theorem z_iand {x y : Int32} (he : mz_lk Y.2.2.2.2.2.2 pc = some (.iand, ln, tg)) (hp : pc + 1 = q) (k : zw sc sa d Y B Q q L (.int (x &&& y) :: st) M z) : zw sc sa d Y B Q pc L (.int y :: .int x :: st) M z := by
  subst hp
  exact zg he (k)
theorem z_ior {x y : Int32} (he : mz_lk Y.2.2.2.2.2.2 pc = some (.ior, ln, tg)) (hp : pc + 1 = q) (k : zw sc sa d Y B Q q L (.int (x ||| y) :: st) M z) : zw sc sa d Y B Q pc L (.int y :: .int x :: st) M z := by
  subst hp
  exact zg he (k)
theorem z_ixor {x y : Int32} (he : mz_lk Y.2.2.2.2.2.2 pc = some (.ixor, ln, tg)) (hp : pc + 1 = q) (k : zw sc sa d Y B Q q L (.int (x ^^^ y) :: st) M z) : zw sc sa d Y B Q pc L (.int y :: .int x :: st) M z := by
  subst hp
  exact zg he (k)
theorem z_ishl {x y : Int32} (he : mz_lk Y.2.2.2.2.2.2 pc = some (.ishl, ln, tg)) (hp : pc + 1 = q) (k : zw sc sa d Y B Q q L (.int (x <<< (y &&& 31)) :: st) M z) : zw sc sa d Y B Q pc L (.int y :: .int x :: st) M z := by
  subst hp
  exact zg he (k)
theorem z_ishr {x y : Int32} (he : mz_lk Y.2.2.2.2.2.2 pc = some (.ishr, ln, tg)) (hp : pc + 1 = q) (k : zw sc sa d Y B Q q L (.int (x >>> (y &&& 31)) :: st) M z) : zw sc sa d Y B Q pc L (.int y :: .int x :: st) M z := by
  subst hp
  exact zg he (k)
theorem z_iushr {x y : Int32} (he : mz_lk Y.2.2.2.2.2.2 pc = some (.iushr, ln, tg)) (hp : pc + 1 = q) (k : zw sc sa d Y B Q q L (.int ((x.toUInt32 >>> (y.toUInt32 &&& Int32.toUInt32 31)).toInt32) :: st) M z) : zw sc sa d Y B Q pc L (.int y :: .int x :: st) M z := by
  subst hp
  exact zg he (k)
theorem z_idiv {x y : Int32} (he : mz_lk Y.2.2.2.2.2.2 pc = some (.idiv, ln, tg)) (hp : pc + 1 = q) (h0 : ¬ y = 0) (k : zw sc sa d Y B Q q L (.int (x / y) :: st) M z) : zw sc sa d Y B Q pc L (.int y :: .int x :: st) M z := by
  subst hp
  exact zg he (⟨h0, k⟩)
theorem z_irem {x y : Int32} (he : mz_lk Y.2.2.2.2.2.2 pc = some (.irem, ln, tg)) (hp : pc + 1 = q) (h0 : ¬ y = 0) (k : zw sc sa d Y B Q q L (.int (x - x / y * y) :: st) M z) : zw sc sa d Y B Q pc L (.int y :: .int x :: st) M z := by
  subst hp
  exact zg he (⟨h0, k⟩)
theorem z_land {x y : Int64} (he : mz_lk Y.2.2.2.2.2.2 pc = some (.land, ln, tg)) (hp : pc + 1 = q) (k : zw sc sa d Y B Q q L (.long (x &&& y) :: st) M z) : zw sc sa d Y B Q pc L (.long y :: .long x :: st) M z := by
  subst hp
  exact zg he (k)
theorem z_lor {x y : Int64} (he : mz_lk Y.2.2.2.2.2.2 pc = some (.lor, ln, tg)) (hp : pc + 1 = q) (k : zw sc sa d Y B Q q L (.long (x ||| y) :: st) M z) : zw sc sa d Y B Q pc L (.long y :: .long x :: st) M z := by
  subst hp
  exact zg he (k)
theorem z_lxor {x y : Int64} (he : mz_lk Y.2.2.2.2.2.2 pc = some (.lxor, ln, tg)) (hp : pc + 1 = q) (k : zw sc sa d Y B Q q L (.long (x ^^^ y) :: st) M z) : zw sc sa d Y B Q pc L (.long y :: .long x :: st) M z := by
  subst hp
  exact zg he (k)
theorem z_lshl {x : Int64} {y : Int32} (he : mz_lk Y.2.2.2.2.2.2 pc = some (.lshl, ln, tg)) (hp : pc + 1 = q) (k : zw sc sa d Y B Q q L (.long (x <<< (y.toInt64 &&& 63)) :: st) M z) : zw sc sa d Y B Q pc L (.int y :: .long x :: st) M z := by
  subst hp
  exact zg he (k)
theorem z_lshr {x : Int64} {y : Int32} (he : mz_lk Y.2.2.2.2.2.2 pc = some (.lshr, ln, tg)) (hp : pc + 1 = q) (k : zw sc sa d Y B Q q L (.long (x >>> (y.toInt64 &&& 63)) :: st) M z) : zw sc sa d Y B Q pc L (.int y :: .long x :: st) M z := by
  subst hp
  exact zg he (k)
theorem z_lushr {x : Int64} {y : Int32} (he : mz_lk Y.2.2.2.2.2.2 pc = some (.lushr, ln, tg)) (hp : pc + 1 = q) (k : zw sc sa d Y B Q q L (.long ((x.toUInt64 >>> (y.toInt64.toUInt64 &&& Int64.toUInt64 63)).toInt64) :: st) M z) : zw sc sa d Y B Q pc L (.int y :: .long x :: st) M z := by
  subst hp
  exact zg he (k)
theorem z_i2l {x : Int32} (he : mz_lk Y.2.2.2.2.2.2 pc = some (.i2l, ln, tg)) (hp : pc + 1 = q) (k : zw sc sa d Y B Q q L (.long x.toInt64 :: st) M z) : zw sc sa d Y B Q pc L (.int x :: st) M z := by
  subst hp
  exact zg he (k)
theorem z_l2i {x : Int64} (he : mz_lk Y.2.2.2.2.2.2 pc = some (.l2i, ln, tg)) (hp : pc + 1 = q) (k : zw sc sa d Y B Q q L (.int x.toInt32 :: st) M z) : zw sc sa d Y B Q pc L (.long x :: st) M z := by
  subst hp
  exact zg he (k)
theorem z_i2b {x : Int32} (he : mz_lk Y.2.2.2.2.2.2 pc = some (.i2b, ln, tg)) (hp : pc + 1 = q) (k : zw sc sa d Y B Q q L (.int x.toInt8.toInt32 :: st) M z) : zw sc sa d Y B Q pc L (.int x :: st) M z := by
  subst hp
  exact zg he (k)
theorem z_lcmp {x y : Int64} (he : mz_lk Y.2.2.2.2.2.2 pc = some (.lcmp, ln, tg)) (hp : pc + 1 = q) (k : zw sc sa d Y B Q q L (.int (lg_cmp x y) :: st) M z) : zw sc sa d Y B Q pc L (.long y :: .long x :: st) M z := by
  subst hp
  exact zg he (k)
theorem z_dup {v : Value} (he : mz_lk Y.2.2.2.2.2.2 pc = some (.dup, ln, tg)) (hp : pc + 1 = q) (hc : v.category = 1) (k : zw sc sa d Y B Q q L (v :: v :: st) M z) : zw sc sa d Y B Q pc L (v :: st) M z := by
  subst hp
  exact zg he (⟨hc, k⟩)
theorem z_dup2 {v w : Value} (he : mz_lk Y.2.2.2.2.2.2 pc = some (.dup2, ln, tg)) (hp : pc + 1 = q) (hc : v.category = 1) (hw : w.category = 1) (k : zw sc sa d Y B Q q L (v :: w :: v :: w :: st) M z) : zw sc sa d Y B Q pc L (v :: w :: st) M z := by
  subst hp
  exact zg he (⟨hc, hw, k⟩)
theorem z_pop {v : Value} (he : mz_lk Y.2.2.2.2.2.2 pc = some (.pop, ln, tg)) (hp : pc + 1 = q) (hc : v.category = 1) (k : zw sc sa d Y B Q q L (st) M z) : zw sc sa d Y B Q pc L (v :: st) M z := by
  subst hp
  exact zg he (⟨hc, k⟩)
theorem z_if_eq {off : Int} {t : Nat} {x : Int32} (he : mz_lk Y.2.2.2.2.2.2 pc = some (.ifCond .eq off, ln, [t])) (hp : pc + 3 = q) (kt : x = 0 → zw sc sa d Y B Q t L st M z) (kf : ¬ x = 0 → zw sc sa d Y B Q q L st M z) : zw sc sa d Y B Q pc L (.int x :: st) M z := by
  subst hp
  exact zg he ⟨kt, kf⟩
theorem z_ic_eq {off : Int} {t : Nat} {x y : Int32} (he : mz_lk Y.2.2.2.2.2.2 pc = some (.if_icmp .eq off, ln, [t])) (hp : pc + 3 = q) (kt : x = y → zw sc sa d Y B Q t L st M z) (kf : ¬ x = y → zw sc sa d Y B Q q L st M z) : zw sc sa d Y B Q pc L (.int y :: .int x :: st) M z := by
  subst hp
  exact zg he ⟨kt, kf⟩
theorem z_if_ne {off : Int} {t : Nat} {x : Int32} (he : mz_lk Y.2.2.2.2.2.2 pc = some (.ifCond .ne off, ln, [t])) (hp : pc + 3 = q) (kt : ¬ x = 0 → zw sc sa d Y B Q t L st M z) (kf : x = 0 → zw sc sa d Y B Q q L st M z) : zw sc sa d Y B Q pc L (.int x :: st) M z := by
  subst hp
  exact zg he ⟨kt, kf⟩
theorem z_ic_ne {off : Int} {t : Nat} {x y : Int32} (he : mz_lk Y.2.2.2.2.2.2 pc = some (.if_icmp .ne off, ln, [t])) (hp : pc + 3 = q) (kt : ¬ x = y → zw sc sa d Y B Q t L st M z) (kf : x = y → zw sc sa d Y B Q q L st M z) : zw sc sa d Y B Q pc L (.int y :: .int x :: st) M z := by
  subst hp
  exact zg he ⟨kt, kf⟩
theorem z_if_lt {off : Int} {t : Nat} {x : Int32} (he : mz_lk Y.2.2.2.2.2.2 pc = some (.ifCond .lt off, ln, [t])) (hp : pc + 3 = q) (kt : x < 0 → zw sc sa d Y B Q t L st M z) (kf : ¬ x < 0 → zw sc sa d Y B Q q L st M z) : zw sc sa d Y B Q pc L (.int x :: st) M z := by
  subst hp
  exact zg he ⟨kt, kf⟩
theorem z_ic_lt {off : Int} {t : Nat} {x y : Int32} (he : mz_lk Y.2.2.2.2.2.2 pc = some (.if_icmp .lt off, ln, [t])) (hp : pc + 3 = q) (kt : x < y → zw sc sa d Y B Q t L st M z) (kf : ¬ x < y → zw sc sa d Y B Q q L st M z) : zw sc sa d Y B Q pc L (.int y :: .int x :: st) M z := by
  subst hp
  exact zg he ⟨kt, kf⟩
theorem z_if_ge {off : Int} {t : Nat} {x : Int32} (he : mz_lk Y.2.2.2.2.2.2 pc = some (.ifCond .ge off, ln, [t])) (hp : pc + 3 = q) (kt : 0 ≤ x → zw sc sa d Y B Q t L st M z) (kf : ¬ 0 ≤ x → zw sc sa d Y B Q q L st M z) : zw sc sa d Y B Q pc L (.int x :: st) M z := by
  subst hp
  exact zg he ⟨kt, kf⟩
theorem z_ic_ge {off : Int} {t : Nat} {x y : Int32} (he : mz_lk Y.2.2.2.2.2.2 pc = some (.if_icmp .ge off, ln, [t])) (hp : pc + 3 = q) (kt : y ≤ x → zw sc sa d Y B Q t L st M z) (kf : ¬ y ≤ x → zw sc sa d Y B Q q L st M z) : zw sc sa d Y B Q pc L (.int y :: .int x :: st) M z := by
  subst hp
  exact zg he ⟨kt, kf⟩
theorem z_if_gt {off : Int} {t : Nat} {x : Int32} (he : mz_lk Y.2.2.2.2.2.2 pc = some (.ifCond .gt off, ln, [t])) (hp : pc + 3 = q) (kt : 0 < x → zw sc sa d Y B Q t L st M z) (kf : ¬ 0 < x → zw sc sa d Y B Q q L st M z) : zw sc sa d Y B Q pc L (.int x :: st) M z := by
  subst hp
  exact zg he ⟨kt, kf⟩
theorem z_ic_gt {off : Int} {t : Nat} {x y : Int32} (he : mz_lk Y.2.2.2.2.2.2 pc = some (.if_icmp .gt off, ln, [t])) (hp : pc + 3 = q) (kt : y < x → zw sc sa d Y B Q t L st M z) (kf : ¬ y < x → zw sc sa d Y B Q q L st M z) : zw sc sa d Y B Q pc L (.int y :: .int x :: st) M z := by
  subst hp
  exact zg he ⟨kt, kf⟩
theorem z_if_le {off : Int} {t : Nat} {x : Int32} (he : mz_lk Y.2.2.2.2.2.2 pc = some (.ifCond .le off, ln, [t])) (hp : pc + 3 = q) (kt : x ≤ 0 → zw sc sa d Y B Q t L st M z) (kf : ¬ x ≤ 0 → zw sc sa d Y B Q q L st M z) : zw sc sa d Y B Q pc L (.int x :: st) M z := by
  subst hp
  exact zg he ⟨kt, kf⟩
theorem z_ic_le {off : Int} {t : Nat} {x y : Int32} (he : mz_lk Y.2.2.2.2.2.2 pc = some (.if_icmp .le off, ln, [t])) (hp : pc + 3 = q) (kt : x ≤ y → zw sc sa d Y B Q t L st M z) (kf : ¬ x ≤ y → zw sc sa d Y B Q q L st M z) : zw sc sa d Y B Q pc L (.int y :: .int x :: st) M z := by
  subst hp
  exact zg he ⟨kt, kf⟩
theorem z_goto {off : Int} {t : Nat} (he : mz_lk Y.2.2.2.2.2.2 pc = some (.goto off, ln, [t])) (k : zw sc sa d Y B Q t L st M z) : zw sc sa d Y B Q pc L st M z := zg he k
theorem z_ifnull_r {off : Int} {t a : Nat} (he : mz_lk Y.2.2.2.2.2.2 pc = some (.ifnull off, ln, [t])) (hp : pc + 3 = q) (k : zw sc sa d Y B Q q L st M z) : zw sc sa d Y B Q pc L (.ref a :: st) M z := by
  subst hp
  exact zg he ⟨fun h => (by cases h), fun _ => k, Or.inr ⟨a, rfl⟩⟩
theorem z_ifnull_n {off : Int} {t : Nat} (he : mz_lk Y.2.2.2.2.2.2 pc = some (.ifnull off, ln, [t])) (k : zw sc sa d Y B Q t L st M z) : zw sc sa d Y B Q pc L (.null :: st) M z := zg he ⟨fun _ => k, fun ⟨_, h⟩ => (by cases h), Or.inl rfl⟩
theorem z_ifnonnull_r {off : Int} {t a : Nat} (he : mz_lk Y.2.2.2.2.2.2 pc = some (.ifnonnull off, ln, [t])) (k : zw sc sa d Y B Q t L st M z) : zw sc sa d Y B Q pc L (.ref a :: st) M z := zg he ⟨fun _ => k, fun h => (by cases h), Or.inr ⟨a, rfl⟩⟩
theorem z_ifnonnull_n {off : Int} {t : Nat} (he : mz_lk Y.2.2.2.2.2.2 pc = some (.ifnonnull off, ln, [t])) (hp : pc + 3 = q) (k : zw sc sa d Y B Q q L st M z) : zw sc sa d Y B Q pc L (.null :: st) M z := by
  subst hp
  exact zg he ⟨fun ⟨_, h⟩ => (by cases h), fun _ => k, Or.inl rfl⟩
theorem z_sw {df lo hi : Int} {offs : Array Int} {x : Int32} (he : mz_lk Y.2.2.2.2.2.2 pc = some (.tableswitch df lo hi offs, ln, tg)) (h : mz_sw x lo hi tg (fun t => zw sc sa d Y B Q t L st M z)) : zw sc sa d Y B Q pc L (.int x :: st) M z := zg he h
theorem z_ldc {i r w : Nat} {v : Int32} (he : mz_lk Y.2.2.2.2.2.2 pc = some (.ldc i, ln, [0, r, w])) (hp : pc + 2 = q) (hv : Int32.ofNat w = v) (k : zw sc sa d Y B Q q L (.int v :: st) M z) : zw sc sa d Y B Q pc L (st) M z := by
  subst hp
  exact zg he (by rw [← hv] at k; exact k)
theorem z_ldcw {i r w : Nat} {v : Int32} (he : mz_lk Y.2.2.2.2.2.2 pc = some (.ldc_w i, ln, [0, r, w])) (hp : pc + 3 = q) (hv : Int32.ofNat w = v) (k : zw sc sa d Y B Q q L (.int v :: st) M z) : zw sc sa d Y B Q pc L (st) M z := by
  subst hp
  exact zg he (by rw [← hv] at k; exact k)
theorem z_ldcs {i r w : Nat} (he : mz_lk Y.2.2.2.2.2.2 pc = some (.ldc i, ln, [1, r, w])) (hp : pc + 2 = q) (k : zw sc sa d Y B Q q L (.ref (sa w) :: st) M z) : zw sc sa d Y B Q pc L (st) M z := by
  subst hp
  exact zg he (k)
theorem z_ldcws {i r w : Nat} (he : mz_lk Y.2.2.2.2.2.2 pc = some (.ldc_w i, ln, [1, r, w])) (hp : pc + 3 = q) (k : zw sc sa d Y B Q q L (.ref (sa w) :: st) M z) : zw sc sa d Y B Q pc L (st) M z := by
  subst hp
  exact zg he (k)
theorem z_ldc2 {i a r w : Nat} {v : Int64} (he : mz_lk Y.2.2.2.2.2.2 pc = some (.ldc2_w i, ln, [a, r, w])) (hp : pc + 3 = q) (hv : Int64.ofNat w = v) (k : zw sc sa d Y B Q q L (.long v :: st) M z) : zw sc sa d Y B Q pc L (st) M z := by
  subst hp
  exact zg he (by rw [← hv] at k; exact k)
theorem z_getI {i c j r a n : Nat} (he : mz_lk Y.2.2.2.2.2.2 pc = some (.getfield i, ln, [c, j, r])) (hp : pc + 3 = q) (hi : mz_iR c j = false) (hk : M.2.2.2 a = (10 + c, n)) (k : zw sc sa d Y B Q q L (.int (M.1 a j) :: st) M z) : zw sc sa d Y B Q pc L (.ref a :: st) M z := by
  subst hp
  exact zg he (⟨by unfold mz_kd; rw [hk], by unfold mz_rd; rw [hi]; exact k⟩)
theorem z_getR {i c j r a n b : Nat} (he : mz_lk Y.2.2.2.2.2.2 pc = some (.getfield i, ln, [c, j, r])) (hp : pc + 3 = q) (hi : mz_iR c j = true) (hk : M.2.2.2 a = (10 + c, n)) (hr : M.2.2.1 a j = some b) (k : zw sc sa d Y B Q q L (.ref b :: st) M z) : zw sc sa d Y B Q pc L (.ref a :: st) M z := by
  subst hp
  exact zg he (⟨by unfold mz_kd; rw [hk], by unfold mz_rd; rw [hi, hr]; exact k⟩)
theorem z_putI {i c j r a n : Nat} {x : Int32} (he : mz_lk Y.2.2.2.2.2.2 pc = some (.putfield i, ln, [c, j, r])) (hp : pc + 3 = q) (hi : mz_iR c j = false) (hf : (mz_cF c j).2.2.2 = true → Y.2.2.2.2.2.1 = true ∧ Y.2.2.2.2.1 = c) (hn : narrow (mz_cY c j) (.int x) = .int x) (ht : fits (mz_cY c j) (.int x) = true) (hk : M.2.2.2 a = (10 + c, n)) (k : zw sc sa d Y B Q q L (st) (mz_uI M a j x) z) : zw sc sa d Y B Q pc L (.int x :: .ref a :: st) M z := by
  subst hp
  exact zg he (⟨by unfold mz_kd; rw [hk], hf, hi, hn, ht, k⟩)
theorem z_putR {i c j r a n x : Nat} (he : mz_lk Y.2.2.2.2.2.2 pc = some (.putfield i, ln, [c, j, r])) (hp : pc + 3 = q) (hi : mz_iR c j = true) (hf : (mz_cF c j).2.2.2 = true → Y.2.2.2.2.2.1 = true ∧ Y.2.2.2.2.1 = c) (hk : M.2.2.2 a = (10 + c, n)) (k : zw sc sa d Y B Q q L (st) (mz_uR M a j (some x)) z) : zw sc sa d Y B Q pc L (.ref x :: .ref a :: st) M z := by
  subst hp
  exact zg he (⟨by unfold mz_kd; rw [hk], hf, hi, k⟩)
theorem z_iald {a n : Nat} {x : Int32} (he : mz_lk Y.2.2.2.2.2.2 pc = some (.iaload, ln, [])) (hp : pc + 1 = q) (hk : M.2.2.2 a = (1, n)) (hx : vp_in x n) (k : zw sc sa d Y B Q q L (.int (M.1 a x.toNatClampNeg) :: st) M z) : zw sc sa d Y B Q pc L (.int x :: .ref a :: st) M z := by
  subst hp
  exact zg he (⟨by unfold mz_kd; rw [hk], by unfold mz_ln; rw [hk]; exact hx, k⟩)
theorem z_lald {a n : Nat} {x : Int32} (he : mz_lk Y.2.2.2.2.2.2 pc = some (.laload, ln, [])) (hp : pc + 1 = q) (hk : M.2.2.2 a = (4, n)) (hx : vp_in x n) (k : zw sc sa d Y B Q q L (.long (M.2.1 a x.toNatClampNeg) :: st) M z) : zw sc sa d Y B Q pc L (.int x :: .ref a :: st) M z := by
  subst hp
  exact zg he (⟨by unfold mz_kd; rw [hk], by unfold mz_ln; rw [hk]; exact hx, k⟩)
theorem z_bald {a n : Nat} {x : Int32} (he : mz_lk Y.2.2.2.2.2.2 pc = some (.baload, ln, tg)) (hp : pc + 1 = q) (hk : M.2.2.2 a = (2, n)) (hx : vp_in x n) (k : zw sc sa d Y B Q q L (.int (M.1 a x.toNatClampNeg) :: st) M z) : zw sc sa d Y B Q pc L (.int x :: .ref a :: st) M z := by
  subst hp
  exact zg he (⟨Or.inl (by unfold mz_kd; rw [hk]), by unfold mz_ln; rw [hk]; exact hx, k⟩)
theorem z_zald {a n : Nat} {x : Int32} (he : mz_lk Y.2.2.2.2.2.2 pc = some (.baload, ln, tg)) (hp : pc + 1 = q) (hk : M.2.2.2 a = (3, n)) (hx : vp_in x n) (k : zw sc sa d Y B Q q L (.int (M.1 a x.toNatClampNeg) :: st) M z) : zw sc sa d Y B Q pc L (.int x :: .ref a :: st) M z := by
  subst hp
  exact zg he (⟨Or.inr (by unfold mz_kd; rw [hk]), by unfold mz_ln; rw [hk]; exact hx, k⟩)
theorem z_aald {a n b : Nat} {x : Int32} (he : mz_lk Y.2.2.2.2.2.2 pc = some (.aaload, ln, tg)) (hp : pc + 1 = q) (hk : M.2.2.2 a = (5, n)) (hx : vp_in x n) (hr : M.2.2.1 a x.toNatClampNeg = some b) (k : zw sc sa d Y B Q q L (.ref b :: st) M z) : zw sc sa d Y B Q pc L (.int x :: .ref a :: st) M z := by
  subst hp
  exact zg he (⟨by unfold mz_kd; rw [hk], by unfold mz_ln; rw [hk]; exact hx, by rw [hr]; exact k⟩)
theorem z_iast {a n : Nat} {x v : Int32} (he : mz_lk Y.2.2.2.2.2.2 pc = some (.iastore, ln, tg)) (hp : pc + 1 = q) (hk : M.2.2.2 a = (1, n)) (hx : vp_in x n) (k : zw sc sa d Y B Q q L (st) (mz_uI M a x.toNatClampNeg v) z) : zw sc sa d Y B Q pc L (.int v :: .int x :: .ref a :: st) M z := by
  subst hp
  exact zg he (⟨by unfold mz_kd; rw [hk], by unfold mz_ln; rw [hk]; exact hx, k⟩)
theorem z_last {a n : Nat} {x : Int32} {v : Int64} (he : mz_lk Y.2.2.2.2.2.2 pc = some (.lastore, ln, tg)) (hp : pc + 1 = q) (hk : M.2.2.2 a = (4, n)) (hx : vp_in x n) (k : zw sc sa d Y B Q q L (st) (mz_uJ M a x.toNatClampNeg v) z) : zw sc sa d Y B Q pc L (.long v :: .int x :: .ref a :: st) M z := by
  subst hp
  exact zg he (⟨by unfold mz_kd; rw [hk], by unfold mz_ln; rw [hk]; exact hx, k⟩)
theorem z_bast {a n : Nat} {x v : Int32} (he : mz_lk Y.2.2.2.2.2.2 pc = some (.bastore, ln, tg)) (hp : pc + 1 = q) (hk : M.2.2.2 a = (2, n)) (hx : vp_in x n) (k : zw sc sa d Y B Q q L (st) (mz_uI M a x.toNatClampNeg (vp_nar .byte v)) z) : zw sc sa d Y B Q pc L (.int v :: .int x :: .ref a :: st) M z := by
  subst hp
  exact zg he (⟨by unfold mz_ln; rw [hk]; exact hx, Or.inl (by unfold mz_kd; rw [hk]), by unfold mz_kd; rw [hk]; exact k⟩)
theorem z_zast {a n : Nat} {x v : Int32} (he : mz_lk Y.2.2.2.2.2.2 pc = some (.bastore, ln, tg)) (hp : pc + 1 = q) (hk : M.2.2.2 a = (3, n)) (hx : vp_in x n) (k : zw sc sa d Y B Q q L (st) (mz_uI M a x.toNatClampNeg (vp_nar .boolean v)) z) : zw sc sa d Y B Q pc L (.int v :: .int x :: .ref a :: st) M z := by
  subst hp
  exact zg he (⟨by unfold mz_ln; rw [hk]; exact hx, Or.inr (by unfold mz_kd; rw [hk]), by unfold mz_kd; rw [hk]; exact k⟩)
theorem z_alen {a n kd : Nat} {v : Int32} (he : mz_lk Y.2.2.2.2.2.2 pc = some (.arraylength, ln, [])) (hp : pc + 1 = q) (hk : M.2.2.2 a = (kd, n)) (hc : (Nat.ble 1 kd && Nat.ble kd 5) = true) (hv : nI n = v) (k : zw sc sa d Y B Q q L (.int v :: st) M z) : zw sc sa d Y B Q pc L (.ref a :: st) M z := by
  subst hp
  exact zg he (⟨by unfold mz_kd; rw [hk]; simp only [Bool.and_eq_true, Nat.ble_eq] at hc; show kd = 1 ∨ kd = 2 ∨ kd = 3 ∨ kd = 4 ∨ kd = 5; omega, by rw [← hv] at k; unfold mz_ln; rw [hk]; exact k⟩)
theorem z_cv0i {i y c r b nn : Nat} {x : Int32} {M1 : mz_M} (he : mz_lk Y.2.2.2.2.2.2 pc = some (.invokevirtual i, ln, [0, y, 1, c, r])) (hp : pc + 3 = q) (hs : Nat.ble (mz_sum st) 8 = true) (hk : M.2.2.2 b = (10 + c, nn)) (hx : zx sc sa d y [.ref b] M z z (some (.int x)) M1) (k : zw sc sa d Y B Q q L (.int x :: st) M1 z) : zw sc sa d Y B Q pc L (.ref b :: st) M z := by
  subst hp
  exact zg he ⟨by show mz_kd M b = 10 + c; unfold mz_kd; rw [hk], by simp, by simpa using hs, mz_Kd_m sc sa d _ _ _ _ _ _ _ (fun r2 M2 h2 => by rw [h2.1, h2.2]; exact k) hx⟩
theorem z_cv0l {i y c r b nn : Nat} {x : Int64} {M1 : mz_M} (he : mz_lk Y.2.2.2.2.2.2 pc = some (.invokevirtual i, ln, [0, y, 1, c, r])) (hp : pc + 3 = q) (hs : Nat.ble (mz_sum st) 8 = true) (hk : M.2.2.2 b = (10 + c, nn)) (hx : zx sc sa d y [.ref b] M z z (some (.long x)) M1) (k : zw sc sa d Y B Q q L (.long x :: st) M1 z) : zw sc sa d Y B Q pc L (.ref b :: st) M z := by
  subst hp
  exact zg he ⟨by show mz_kd M b = 10 + c; unfold mz_kd; rw [hk], by simp, by simpa using hs, mz_Kd_m sc sa d _ _ _ _ _ _ _ (fun r2 M2 h2 => by rw [h2.1, h2.2]; exact k) hx⟩
theorem z_cv0v {i y c r b nn : Nat} {M1 : mz_M} (he : mz_lk Y.2.2.2.2.2.2 pc = some (.invokevirtual i, ln, [0, y, 1, c, r])) (hp : pc + 3 = q) (hs : Nat.ble (mz_sum st) 8 = true) (hk : M.2.2.2 b = (10 + c, nn)) (hx : zx sc sa d y [.ref b] M z z none M1) (k : zw sc sa d Y B Q q L (st) M1 z) : zw sc sa d Y B Q pc L (.ref b :: st) M z := by
  subst hp
  exact zg he ⟨by show mz_kd M b = 10 + c; unfold mz_kd; rw [hk], by simp, by simpa using hs, mz_Kd_m sc sa d _ _ _ _ _ _ _ (fun r2 M2 h2 => by rw [h2.1, h2.2]; exact k) hx⟩
theorem z_cv0a {i y c r b nn : Nat} {x : Value} {M1 : mz_M} (he : mz_lk Y.2.2.2.2.2.2 pc = some (.invokevirtual i, ln, [0, y, 1, c, r])) (hp : pc + 3 = q) (hs : Nat.ble (mz_sum st) 8 = true) (hk : M.2.2.2 b = (10 + c, nn)) (hx : zx sc sa d y [.ref b] M z z (some x) M1) (k : zw sc sa d Y B Q q L (x :: st) M1 z) : zw sc sa d Y B Q pc L (.ref b :: st) M z := by
  subst hp
  exact zg he ⟨by show mz_kd M b = 10 + c; unfold mz_kd; rw [hk], by simp, by simpa using hs, mz_Kd_m sc sa d _ _ _ _ _ _ _ (fun r2 M2 h2 => by rw [h2.1, h2.2]; exact k) hx⟩
theorem z_cv1i {i y c r b nn : Nat} {a1 : Value} {x : Int32} {M1 : mz_M} (he : mz_lk Y.2.2.2.2.2.2 pc = some (.invokevirtual i, ln, [0, y, 2, c, r])) (hp : pc + 3 = q) (hs : Nat.ble (mz_sum st) 8 = true) (hk : M.2.2.2 b = (10 + c, nn)) (hx : zx sc sa d y [.ref b, a1] M z z (some (.int x)) M1) (k : zw sc sa d Y B Q q L (.int x :: st) M1 z) : zw sc sa d Y B Q pc L (a1 :: .ref b :: st) M z := by
  subst hp
  exact zg he ⟨by show mz_kd M b = 10 + c; unfold mz_kd; rw [hk], by simp, by simpa using hs, mz_Kd_m sc sa d _ _ _ _ _ _ _ (fun r2 M2 h2 => by rw [h2.1, h2.2]; exact k) hx⟩
theorem z_cs1i {i y c r : Nat} {a1 : Value} {x : Int32} {M1 : mz_M} (he : mz_lk Y.2.2.2.2.2.2 pc = some (.invokestatic i, ln, [0, y, 1, c, r])) (hp : pc + 3 = q) (hs : Nat.ble (mz_sum st) 8 = true) (hx : zx sc sa d y [a1] M z z (some (.int x)) M1) (k : zw sc sa d Y B Q q L (.int x :: st) M1 z) : zw sc sa d Y B Q pc L (a1 :: st) M z := by
  subst hp
  exact zg he ⟨by simp, by simpa using hs, mz_Kd_m sc sa d _ _ _ _ _ _ _ (fun r2 M2 h2 => by rw [h2.1, h2.2]; exact k) hx⟩
theorem z_cv1l {i y c r b nn : Nat} {a1 : Value} {x : Int64} {M1 : mz_M} (he : mz_lk Y.2.2.2.2.2.2 pc = some (.invokevirtual i, ln, [0, y, 2, c, r])) (hp : pc + 3 = q) (hs : Nat.ble (mz_sum st) 8 = true) (hk : M.2.2.2 b = (10 + c, nn)) (hx : zx sc sa d y [.ref b, a1] M z z (some (.long x)) M1) (k : zw sc sa d Y B Q q L (.long x :: st) M1 z) : zw sc sa d Y B Q pc L (a1 :: .ref b :: st) M z := by
  subst hp
  exact zg he ⟨by show mz_kd M b = 10 + c; unfold mz_kd; rw [hk], by simp, by simpa using hs, mz_Kd_m sc sa d _ _ _ _ _ _ _ (fun r2 M2 h2 => by rw [h2.1, h2.2]; exact k) hx⟩
theorem z_cs1l {i y c r : Nat} {a1 : Value} {x : Int64} {M1 : mz_M} (he : mz_lk Y.2.2.2.2.2.2 pc = some (.invokestatic i, ln, [0, y, 1, c, r])) (hp : pc + 3 = q) (hs : Nat.ble (mz_sum st) 8 = true) (hx : zx sc sa d y [a1] M z z (some (.long x)) M1) (k : zw sc sa d Y B Q q L (.long x :: st) M1 z) : zw sc sa d Y B Q pc L (a1 :: st) M z := by
  subst hp
  exact zg he ⟨by simp, by simpa using hs, mz_Kd_m sc sa d _ _ _ _ _ _ _ (fun r2 M2 h2 => by rw [h2.1, h2.2]; exact k) hx⟩
theorem z_cv1v {i y c r b nn : Nat} {a1 : Value} {M1 : mz_M} (he : mz_lk Y.2.2.2.2.2.2 pc = some (.invokevirtual i, ln, [0, y, 2, c, r])) (hp : pc + 3 = q) (hs : Nat.ble (mz_sum st) 8 = true) (hk : M.2.2.2 b = (10 + c, nn)) (hx : zx sc sa d y [.ref b, a1] M z z none M1) (k : zw sc sa d Y B Q q L (st) M1 z) : zw sc sa d Y B Q pc L (a1 :: .ref b :: st) M z := by
  subst hp
  exact zg he ⟨by show mz_kd M b = 10 + c; unfold mz_kd; rw [hk], by simp, by simpa using hs, mz_Kd_m sc sa d _ _ _ _ _ _ _ (fun r2 M2 h2 => by rw [h2.1, h2.2]; exact k) hx⟩
theorem z_cs1v {i y c r : Nat} {a1 : Value} {M1 : mz_M} (he : mz_lk Y.2.2.2.2.2.2 pc = some (.invokestatic i, ln, [0, y, 1, c, r])) (hp : pc + 3 = q) (hs : Nat.ble (mz_sum st) 8 = true) (hx : zx sc sa d y [a1] M z z none M1) (k : zw sc sa d Y B Q q L (st) M1 z) : zw sc sa d Y B Q pc L (a1 :: st) M z := by
  subst hp
  exact zg he ⟨by simp, by simpa using hs, mz_Kd_m sc sa d _ _ _ _ _ _ _ (fun r2 M2 h2 => by rw [h2.1, h2.2]; exact k) hx⟩
theorem z_cv1a {i y c r b nn : Nat} {a1 : Value} {x : Value} {M1 : mz_M} (he : mz_lk Y.2.2.2.2.2.2 pc = some (.invokevirtual i, ln, [0, y, 2, c, r])) (hp : pc + 3 = q) (hs : Nat.ble (mz_sum st) 8 = true) (hk : M.2.2.2 b = (10 + c, nn)) (hx : zx sc sa d y [.ref b, a1] M z z (some x) M1) (k : zw sc sa d Y B Q q L (x :: st) M1 z) : zw sc sa d Y B Q pc L (a1 :: .ref b :: st) M z := by
  subst hp
  exact zg he ⟨by show mz_kd M b = 10 + c; unfold mz_kd; rw [hk], by simp, by simpa using hs, mz_Kd_m sc sa d _ _ _ _ _ _ _ (fun r2 M2 h2 => by rw [h2.1, h2.2]; exact k) hx⟩
theorem z_cs1a {i y c r : Nat} {a1 : Value} {x : Value} {M1 : mz_M} (he : mz_lk Y.2.2.2.2.2.2 pc = some (.invokestatic i, ln, [0, y, 1, c, r])) (hp : pc + 3 = q) (hs : Nat.ble (mz_sum st) 8 = true) (hx : zx sc sa d y [a1] M z z (some x) M1) (k : zw sc sa d Y B Q q L (x :: st) M1 z) : zw sc sa d Y B Q pc L (a1 :: st) M z := by
  subst hp
  exact zg he ⟨by simp, by simpa using hs, mz_Kd_m sc sa d _ _ _ _ _ _ _ (fun r2 M2 h2 => by rw [h2.1, h2.2]; exact k) hx⟩
theorem z_cv2i {i y c r b nn : Nat} {a1 a2 : Value} {x : Int32} {M1 : mz_M} (he : mz_lk Y.2.2.2.2.2.2 pc = some (.invokevirtual i, ln, [0, y, 3, c, r])) (hp : pc + 3 = q) (hs : Nat.ble (mz_sum st) 8 = true) (hk : M.2.2.2 b = (10 + c, nn)) (hx : zx sc sa d y [.ref b, a1, a2] M z z (some (.int x)) M1) (k : zw sc sa d Y B Q q L (.int x :: st) M1 z) : zw sc sa d Y B Q pc L (a2 :: a1 :: .ref b :: st) M z := by
  subst hp
  exact zg he ⟨by show mz_kd M b = 10 + c; unfold mz_kd; rw [hk], by simp, by simpa using hs, mz_Kd_m sc sa d _ _ _ _ _ _ _ (fun r2 M2 h2 => by rw [h2.1, h2.2]; exact k) hx⟩
theorem z_cs2i {i y c r : Nat} {a1 a2 : Value} {x : Int32} {M1 : mz_M} (he : mz_lk Y.2.2.2.2.2.2 pc = some (.invokestatic i, ln, [0, y, 2, c, r])) (hp : pc + 3 = q) (hs : Nat.ble (mz_sum st) 8 = true) (hx : zx sc sa d y [a1, a2] M z z (some (.int x)) M1) (k : zw sc sa d Y B Q q L (.int x :: st) M1 z) : zw sc sa d Y B Q pc L (a2 :: a1 :: st) M z := by
  subst hp
  exact zg he ⟨by simp, by simpa using hs, mz_Kd_m sc sa d _ _ _ _ _ _ _ (fun r2 M2 h2 => by rw [h2.1, h2.2]; exact k) hx⟩
theorem z_cv2l {i y c r b nn : Nat} {a1 a2 : Value} {x : Int64} {M1 : mz_M} (he : mz_lk Y.2.2.2.2.2.2 pc = some (.invokevirtual i, ln, [0, y, 3, c, r])) (hp : pc + 3 = q) (hs : Nat.ble (mz_sum st) 8 = true) (hk : M.2.2.2 b = (10 + c, nn)) (hx : zx sc sa d y [.ref b, a1, a2] M z z (some (.long x)) M1) (k : zw sc sa d Y B Q q L (.long x :: st) M1 z) : zw sc sa d Y B Q pc L (a2 :: a1 :: .ref b :: st) M z := by
  subst hp
  exact zg he ⟨by show mz_kd M b = 10 + c; unfold mz_kd; rw [hk], by simp, by simpa using hs, mz_Kd_m sc sa d _ _ _ _ _ _ _ (fun r2 M2 h2 => by rw [h2.1, h2.2]; exact k) hx⟩
theorem z_cs2l {i y c r : Nat} {a1 a2 : Value} {x : Int64} {M1 : mz_M} (he : mz_lk Y.2.2.2.2.2.2 pc = some (.invokestatic i, ln, [0, y, 2, c, r])) (hp : pc + 3 = q) (hs : Nat.ble (mz_sum st) 8 = true) (hx : zx sc sa d y [a1, a2] M z z (some (.long x)) M1) (k : zw sc sa d Y B Q q L (.long x :: st) M1 z) : zw sc sa d Y B Q pc L (a2 :: a1 :: st) M z := by
  subst hp
  exact zg he ⟨by simp, by simpa using hs, mz_Kd_m sc sa d _ _ _ _ _ _ _ (fun r2 M2 h2 => by rw [h2.1, h2.2]; exact k) hx⟩
theorem z_cv2v {i y c r b nn : Nat} {a1 a2 : Value} {M1 : mz_M} (he : mz_lk Y.2.2.2.2.2.2 pc = some (.invokevirtual i, ln, [0, y, 3, c, r])) (hp : pc + 3 = q) (hs : Nat.ble (mz_sum st) 8 = true) (hk : M.2.2.2 b = (10 + c, nn)) (hx : zx sc sa d y [.ref b, a1, a2] M z z none M1) (k : zw sc sa d Y B Q q L (st) M1 z) : zw sc sa d Y B Q pc L (a2 :: a1 :: .ref b :: st) M z := by
  subst hp
  exact zg he ⟨by show mz_kd M b = 10 + c; unfold mz_kd; rw [hk], by simp, by simpa using hs, mz_Kd_m sc sa d _ _ _ _ _ _ _ (fun r2 M2 h2 => by rw [h2.1, h2.2]; exact k) hx⟩
theorem z_cs2v {i y c r : Nat} {a1 a2 : Value} {M1 : mz_M} (he : mz_lk Y.2.2.2.2.2.2 pc = some (.invokestatic i, ln, [0, y, 2, c, r])) (hp : pc + 3 = q) (hs : Nat.ble (mz_sum st) 8 = true) (hx : zx sc sa d y [a1, a2] M z z none M1) (k : zw sc sa d Y B Q q L (st) M1 z) : zw sc sa d Y B Q pc L (a2 :: a1 :: st) M z := by
  subst hp
  exact zg he ⟨by simp, by simpa using hs, mz_Kd_m sc sa d _ _ _ _ _ _ _ (fun r2 M2 h2 => by rw [h2.1, h2.2]; exact k) hx⟩
theorem z_cv2a {i y c r b nn : Nat} {a1 a2 : Value} {x : Value} {M1 : mz_M} (he : mz_lk Y.2.2.2.2.2.2 pc = some (.invokevirtual i, ln, [0, y, 3, c, r])) (hp : pc + 3 = q) (hs : Nat.ble (mz_sum st) 8 = true) (hk : M.2.2.2 b = (10 + c, nn)) (hx : zx sc sa d y [.ref b, a1, a2] M z z (some x) M1) (k : zw sc sa d Y B Q q L (x :: st) M1 z) : zw sc sa d Y B Q pc L (a2 :: a1 :: .ref b :: st) M z := by
  subst hp
  exact zg he ⟨by show mz_kd M b = 10 + c; unfold mz_kd; rw [hk], by simp, by simpa using hs, mz_Kd_m sc sa d _ _ _ _ _ _ _ (fun r2 M2 h2 => by rw [h2.1, h2.2]; exact k) hx⟩
theorem z_cs2a {i y c r : Nat} {a1 a2 : Value} {x : Value} {M1 : mz_M} (he : mz_lk Y.2.2.2.2.2.2 pc = some (.invokestatic i, ln, [0, y, 2, c, r])) (hp : pc + 3 = q) (hs : Nat.ble (mz_sum st) 8 = true) (hx : zx sc sa d y [a1, a2] M z z (some x) M1) (k : zw sc sa d Y B Q q L (x :: st) M1 z) : zw sc sa d Y B Q pc L (a2 :: a1 :: st) M z := by
  subst hp
  exact zg he ⟨by simp, by simpa using hs, mz_Kd_m sc sa d _ _ _ _ _ _ _ (fun r2 M2 h2 => by rw [h2.1, h2.2]; exact k) hx⟩
theorem z_cv3i {i y c r b nn : Nat} {a1 a2 a3 : Value} {x : Int32} {M1 : mz_M} (he : mz_lk Y.2.2.2.2.2.2 pc = some (.invokevirtual i, ln, [0, y, 4, c, r])) (hp : pc + 3 = q) (hs : Nat.ble (mz_sum st) 8 = true) (hk : M.2.2.2 b = (10 + c, nn)) (hx : zx sc sa d y [.ref b, a1, a2, a3] M z z (some (.int x)) M1) (k : zw sc sa d Y B Q q L (.int x :: st) M1 z) : zw sc sa d Y B Q pc L (a3 :: a2 :: a1 :: .ref b :: st) M z := by
  subst hp
  exact zg he ⟨by show mz_kd M b = 10 + c; unfold mz_kd; rw [hk], by simp, by simpa using hs, mz_Kd_m sc sa d _ _ _ _ _ _ _ (fun r2 M2 h2 => by rw [h2.1, h2.2]; exact k) hx⟩
theorem z_cs3i {i y c r : Nat} {a1 a2 a3 : Value} {x : Int32} {M1 : mz_M} (he : mz_lk Y.2.2.2.2.2.2 pc = some (.invokestatic i, ln, [0, y, 3, c, r])) (hp : pc + 3 = q) (hs : Nat.ble (mz_sum st) 8 = true) (hx : zx sc sa d y [a1, a2, a3] M z z (some (.int x)) M1) (k : zw sc sa d Y B Q q L (.int x :: st) M1 z) : zw sc sa d Y B Q pc L (a3 :: a2 :: a1 :: st) M z := by
  subst hp
  exact zg he ⟨by simp, by simpa using hs, mz_Kd_m sc sa d _ _ _ _ _ _ _ (fun r2 M2 h2 => by rw [h2.1, h2.2]; exact k) hx⟩
theorem z_cv3l {i y c r b nn : Nat} {a1 a2 a3 : Value} {x : Int64} {M1 : mz_M} (he : mz_lk Y.2.2.2.2.2.2 pc = some (.invokevirtual i, ln, [0, y, 4, c, r])) (hp : pc + 3 = q) (hs : Nat.ble (mz_sum st) 8 = true) (hk : M.2.2.2 b = (10 + c, nn)) (hx : zx sc sa d y [.ref b, a1, a2, a3] M z z (some (.long x)) M1) (k : zw sc sa d Y B Q q L (.long x :: st) M1 z) : zw sc sa d Y B Q pc L (a3 :: a2 :: a1 :: .ref b :: st) M z := by
  subst hp
  exact zg he ⟨by show mz_kd M b = 10 + c; unfold mz_kd; rw [hk], by simp, by simpa using hs, mz_Kd_m sc sa d _ _ _ _ _ _ _ (fun r2 M2 h2 => by rw [h2.1, h2.2]; exact k) hx⟩
theorem z_cs3l {i y c r : Nat} {a1 a2 a3 : Value} {x : Int64} {M1 : mz_M} (he : mz_lk Y.2.2.2.2.2.2 pc = some (.invokestatic i, ln, [0, y, 3, c, r])) (hp : pc + 3 = q) (hs : Nat.ble (mz_sum st) 8 = true) (hx : zx sc sa d y [a1, a2, a3] M z z (some (.long x)) M1) (k : zw sc sa d Y B Q q L (.long x :: st) M1 z) : zw sc sa d Y B Q pc L (a3 :: a2 :: a1 :: st) M z := by
  subst hp
  exact zg he ⟨by simp, by simpa using hs, mz_Kd_m sc sa d _ _ _ _ _ _ _ (fun r2 M2 h2 => by rw [h2.1, h2.2]; exact k) hx⟩
theorem z_cv3v {i y c r b nn : Nat} {a1 a2 a3 : Value} {M1 : mz_M} (he : mz_lk Y.2.2.2.2.2.2 pc = some (.invokevirtual i, ln, [0, y, 4, c, r])) (hp : pc + 3 = q) (hs : Nat.ble (mz_sum st) 8 = true) (hk : M.2.2.2 b = (10 + c, nn)) (hx : zx sc sa d y [.ref b, a1, a2, a3] M z z none M1) (k : zw sc sa d Y B Q q L (st) M1 z) : zw sc sa d Y B Q pc L (a3 :: a2 :: a1 :: .ref b :: st) M z := by
  subst hp
  exact zg he ⟨by show mz_kd M b = 10 + c; unfold mz_kd; rw [hk], by simp, by simpa using hs, mz_Kd_m sc sa d _ _ _ _ _ _ _ (fun r2 M2 h2 => by rw [h2.1, h2.2]; exact k) hx⟩
theorem z_cs3v {i y c r : Nat} {a1 a2 a3 : Value} {M1 : mz_M} (he : mz_lk Y.2.2.2.2.2.2 pc = some (.invokestatic i, ln, [0, y, 3, c, r])) (hp : pc + 3 = q) (hs : Nat.ble (mz_sum st) 8 = true) (hx : zx sc sa d y [a1, a2, a3] M z z none M1) (k : zw sc sa d Y B Q q L (st) M1 z) : zw sc sa d Y B Q pc L (a3 :: a2 :: a1 :: st) M z := by
  subst hp
  exact zg he ⟨by simp, by simpa using hs, mz_Kd_m sc sa d _ _ _ _ _ _ _ (fun r2 M2 h2 => by rw [h2.1, h2.2]; exact k) hx⟩
theorem z_cv3a {i y c r b nn : Nat} {a1 a2 a3 : Value} {x : Value} {M1 : mz_M} (he : mz_lk Y.2.2.2.2.2.2 pc = some (.invokevirtual i, ln, [0, y, 4, c, r])) (hp : pc + 3 = q) (hs : Nat.ble (mz_sum st) 8 = true) (hk : M.2.2.2 b = (10 + c, nn)) (hx : zx sc sa d y [.ref b, a1, a2, a3] M z z (some x) M1) (k : zw sc sa d Y B Q q L (x :: st) M1 z) : zw sc sa d Y B Q pc L (a3 :: a2 :: a1 :: .ref b :: st) M z := by
  subst hp
  exact zg he ⟨by show mz_kd M b = 10 + c; unfold mz_kd; rw [hk], by simp, by simpa using hs, mz_Kd_m sc sa d _ _ _ _ _ _ _ (fun r2 M2 h2 => by rw [h2.1, h2.2]; exact k) hx⟩
theorem z_cs3a {i y c r : Nat} {a1 a2 a3 : Value} {x : Value} {M1 : mz_M} (he : mz_lk Y.2.2.2.2.2.2 pc = some (.invokestatic i, ln, [0, y, 3, c, r])) (hp : pc + 3 = q) (hs : Nat.ble (mz_sum st) 8 = true) (hx : zx sc sa d y [a1, a2, a3] M z z (some x) M1) (k : zw sc sa d Y B Q q L (x :: st) M1 z) : zw sc sa d Y B Q pc L (a3 :: a2 :: a1 :: st) M z := by
  subst hp
  exact zg he ⟨by simp, by simpa using hs, mz_Kd_m sc sa d _ _ _ _ _ _ _ (fun r2 M2 h2 => by rw [h2.1, h2.2]; exact k) hx⟩
theorem z_cv4i {i y c r b nn : Nat} {a1 a2 a3 a4 : Value} {x : Int32} {M1 : mz_M} (he : mz_lk Y.2.2.2.2.2.2 pc = some (.invokevirtual i, ln, [0, y, 5, c, r])) (hp : pc + 3 = q) (hs : Nat.ble (mz_sum st) 8 = true) (hk : M.2.2.2 b = (10 + c, nn)) (hx : zx sc sa d y [.ref b, a1, a2, a3, a4] M z z (some (.int x)) M1) (k : zw sc sa d Y B Q q L (.int x :: st) M1 z) : zw sc sa d Y B Q pc L (a4 :: a3 :: a2 :: a1 :: .ref b :: st) M z := by
  subst hp
  exact zg he ⟨by show mz_kd M b = 10 + c; unfold mz_kd; rw [hk], by simp, by simpa using hs, mz_Kd_m sc sa d _ _ _ _ _ _ _ (fun r2 M2 h2 => by rw [h2.1, h2.2]; exact k) hx⟩
theorem z_cs4i {i y c r : Nat} {a1 a2 a3 a4 : Value} {x : Int32} {M1 : mz_M} (he : mz_lk Y.2.2.2.2.2.2 pc = some (.invokestatic i, ln, [0, y, 4, c, r])) (hp : pc + 3 = q) (hs : Nat.ble (mz_sum st) 8 = true) (hx : zx sc sa d y [a1, a2, a3, a4] M z z (some (.int x)) M1) (k : zw sc sa d Y B Q q L (.int x :: st) M1 z) : zw sc sa d Y B Q pc L (a4 :: a3 :: a2 :: a1 :: st) M z := by
  subst hp
  exact zg he ⟨by simp, by simpa using hs, mz_Kd_m sc sa d _ _ _ _ _ _ _ (fun r2 M2 h2 => by rw [h2.1, h2.2]; exact k) hx⟩
theorem z_cv4l {i y c r b nn : Nat} {a1 a2 a3 a4 : Value} {x : Int64} {M1 : mz_M} (he : mz_lk Y.2.2.2.2.2.2 pc = some (.invokevirtual i, ln, [0, y, 5, c, r])) (hp : pc + 3 = q) (hs : Nat.ble (mz_sum st) 8 = true) (hk : M.2.2.2 b = (10 + c, nn)) (hx : zx sc sa d y [.ref b, a1, a2, a3, a4] M z z (some (.long x)) M1) (k : zw sc sa d Y B Q q L (.long x :: st) M1 z) : zw sc sa d Y B Q pc L (a4 :: a3 :: a2 :: a1 :: .ref b :: st) M z := by
  subst hp
  exact zg he ⟨by show mz_kd M b = 10 + c; unfold mz_kd; rw [hk], by simp, by simpa using hs, mz_Kd_m sc sa d _ _ _ _ _ _ _ (fun r2 M2 h2 => by rw [h2.1, h2.2]; exact k) hx⟩
theorem z_cs4l {i y c r : Nat} {a1 a2 a3 a4 : Value} {x : Int64} {M1 : mz_M} (he : mz_lk Y.2.2.2.2.2.2 pc = some (.invokestatic i, ln, [0, y, 4, c, r])) (hp : pc + 3 = q) (hs : Nat.ble (mz_sum st) 8 = true) (hx : zx sc sa d y [a1, a2, a3, a4] M z z (some (.long x)) M1) (k : zw sc sa d Y B Q q L (.long x :: st) M1 z) : zw sc sa d Y B Q pc L (a4 :: a3 :: a2 :: a1 :: st) M z := by
  subst hp
  exact zg he ⟨by simp, by simpa using hs, mz_Kd_m sc sa d _ _ _ _ _ _ _ (fun r2 M2 h2 => by rw [h2.1, h2.2]; exact k) hx⟩
theorem z_cv4v {i y c r b nn : Nat} {a1 a2 a3 a4 : Value} {M1 : mz_M} (he : mz_lk Y.2.2.2.2.2.2 pc = some (.invokevirtual i, ln, [0, y, 5, c, r])) (hp : pc + 3 = q) (hs : Nat.ble (mz_sum st) 8 = true) (hk : M.2.2.2 b = (10 + c, nn)) (hx : zx sc sa d y [.ref b, a1, a2, a3, a4] M z z none M1) (k : zw sc sa d Y B Q q L (st) M1 z) : zw sc sa d Y B Q pc L (a4 :: a3 :: a2 :: a1 :: .ref b :: st) M z := by
  subst hp
  exact zg he ⟨by show mz_kd M b = 10 + c; unfold mz_kd; rw [hk], by simp, by simpa using hs, mz_Kd_m sc sa d _ _ _ _ _ _ _ (fun r2 M2 h2 => by rw [h2.1, h2.2]; exact k) hx⟩
theorem z_cs4v {i y c r : Nat} {a1 a2 a3 a4 : Value} {M1 : mz_M} (he : mz_lk Y.2.2.2.2.2.2 pc = some (.invokestatic i, ln, [0, y, 4, c, r])) (hp : pc + 3 = q) (hs : Nat.ble (mz_sum st) 8 = true) (hx : zx sc sa d y [a1, a2, a3, a4] M z z none M1) (k : zw sc sa d Y B Q q L (st) M1 z) : zw sc sa d Y B Q pc L (a4 :: a3 :: a2 :: a1 :: st) M z := by
  subst hp
  exact zg he ⟨by simp, by simpa using hs, mz_Kd_m sc sa d _ _ _ _ _ _ _ (fun r2 M2 h2 => by rw [h2.1, h2.2]; exact k) hx⟩
theorem z_cv4a {i y c r b nn : Nat} {a1 a2 a3 a4 : Value} {x : Value} {M1 : mz_M} (he : mz_lk Y.2.2.2.2.2.2 pc = some (.invokevirtual i, ln, [0, y, 5, c, r])) (hp : pc + 3 = q) (hs : Nat.ble (mz_sum st) 8 = true) (hk : M.2.2.2 b = (10 + c, nn)) (hx : zx sc sa d y [.ref b, a1, a2, a3, a4] M z z (some x) M1) (k : zw sc sa d Y B Q q L (x :: st) M1 z) : zw sc sa d Y B Q pc L (a4 :: a3 :: a2 :: a1 :: .ref b :: st) M z := by
  subst hp
  exact zg he ⟨by show mz_kd M b = 10 + c; unfold mz_kd; rw [hk], by simp, by simpa using hs, mz_Kd_m sc sa d _ _ _ _ _ _ _ (fun r2 M2 h2 => by rw [h2.1, h2.2]; exact k) hx⟩
theorem z_cs4a {i y c r : Nat} {a1 a2 a3 a4 : Value} {x : Value} {M1 : mz_M} (he : mz_lk Y.2.2.2.2.2.2 pc = some (.invokestatic i, ln, [0, y, 4, c, r])) (hp : pc + 3 = q) (hs : Nat.ble (mz_sum st) 8 = true) (hx : zx sc sa d y [a1, a2, a3, a4] M z z (some x) M1) (k : zw sc sa d Y B Q q L (x :: st) M1 z) : zw sc sa d Y B Q pc L (a4 :: a3 :: a2 :: a1 :: st) M z := by
  subst hp
  exact zg he ⟨by simp, by simpa using hs, mz_Kd_m sc sa d _ _ _ _ _ _ _ (fun r2 M2 h2 => by rw [h2.1, h2.2]; exact k) hx⟩
theorem z_cv5i {i y c r b nn : Nat} {a1 a2 a3 a4 a5 : Value} {x : Int32} {M1 : mz_M} (he : mz_lk Y.2.2.2.2.2.2 pc = some (.invokevirtual i, ln, [0, y, 6, c, r])) (hp : pc + 3 = q) (hs : Nat.ble (mz_sum st) 8 = true) (hk : M.2.2.2 b = (10 + c, nn)) (hx : zx sc sa d y [.ref b, a1, a2, a3, a4, a5] M z z (some (.int x)) M1) (k : zw sc sa d Y B Q q L (.int x :: st) M1 z) : zw sc sa d Y B Q pc L (a5 :: a4 :: a3 :: a2 :: a1 :: .ref b :: st) M z := by
  subst hp
  exact zg he ⟨by show mz_kd M b = 10 + c; unfold mz_kd; rw [hk], by simp, by simpa using hs, mz_Kd_m sc sa d _ _ _ _ _ _ _ (fun r2 M2 h2 => by rw [h2.1, h2.2]; exact k) hx⟩
theorem z_cs5i {i y c r : Nat} {a1 a2 a3 a4 a5 : Value} {x : Int32} {M1 : mz_M} (he : mz_lk Y.2.2.2.2.2.2 pc = some (.invokestatic i, ln, [0, y, 5, c, r])) (hp : pc + 3 = q) (hs : Nat.ble (mz_sum st) 8 = true) (hx : zx sc sa d y [a1, a2, a3, a4, a5] M z z (some (.int x)) M1) (k : zw sc sa d Y B Q q L (.int x :: st) M1 z) : zw sc sa d Y B Q pc L (a5 :: a4 :: a3 :: a2 :: a1 :: st) M z := by
  subst hp
  exact zg he ⟨by simp, by simpa using hs, mz_Kd_m sc sa d _ _ _ _ _ _ _ (fun r2 M2 h2 => by rw [h2.1, h2.2]; exact k) hx⟩
theorem z_cv5l {i y c r b nn : Nat} {a1 a2 a3 a4 a5 : Value} {x : Int64} {M1 : mz_M} (he : mz_lk Y.2.2.2.2.2.2 pc = some (.invokevirtual i, ln, [0, y, 6, c, r])) (hp : pc + 3 = q) (hs : Nat.ble (mz_sum st) 8 = true) (hk : M.2.2.2 b = (10 + c, nn)) (hx : zx sc sa d y [.ref b, a1, a2, a3, a4, a5] M z z (some (.long x)) M1) (k : zw sc sa d Y B Q q L (.long x :: st) M1 z) : zw sc sa d Y B Q pc L (a5 :: a4 :: a3 :: a2 :: a1 :: .ref b :: st) M z := by
  subst hp
  exact zg he ⟨by show mz_kd M b = 10 + c; unfold mz_kd; rw [hk], by simp, by simpa using hs, mz_Kd_m sc sa d _ _ _ _ _ _ _ (fun r2 M2 h2 => by rw [h2.1, h2.2]; exact k) hx⟩
theorem z_cs5l {i y c r : Nat} {a1 a2 a3 a4 a5 : Value} {x : Int64} {M1 : mz_M} (he : mz_lk Y.2.2.2.2.2.2 pc = some (.invokestatic i, ln, [0, y, 5, c, r])) (hp : pc + 3 = q) (hs : Nat.ble (mz_sum st) 8 = true) (hx : zx sc sa d y [a1, a2, a3, a4, a5] M z z (some (.long x)) M1) (k : zw sc sa d Y B Q q L (.long x :: st) M1 z) : zw sc sa d Y B Q pc L (a5 :: a4 :: a3 :: a2 :: a1 :: st) M z := by
  subst hp
  exact zg he ⟨by simp, by simpa using hs, mz_Kd_m sc sa d _ _ _ _ _ _ _ (fun r2 M2 h2 => by rw [h2.1, h2.2]; exact k) hx⟩
theorem z_cv5v {i y c r b nn : Nat} {a1 a2 a3 a4 a5 : Value} {M1 : mz_M} (he : mz_lk Y.2.2.2.2.2.2 pc = some (.invokevirtual i, ln, [0, y, 6, c, r])) (hp : pc + 3 = q) (hs : Nat.ble (mz_sum st) 8 = true) (hk : M.2.2.2 b = (10 + c, nn)) (hx : zx sc sa d y [.ref b, a1, a2, a3, a4, a5] M z z none M1) (k : zw sc sa d Y B Q q L (st) M1 z) : zw sc sa d Y B Q pc L (a5 :: a4 :: a3 :: a2 :: a1 :: .ref b :: st) M z := by
  subst hp
  exact zg he ⟨by show mz_kd M b = 10 + c; unfold mz_kd; rw [hk], by simp, by simpa using hs, mz_Kd_m sc sa d _ _ _ _ _ _ _ (fun r2 M2 h2 => by rw [h2.1, h2.2]; exact k) hx⟩
theorem z_cs5v {i y c r : Nat} {a1 a2 a3 a4 a5 : Value} {M1 : mz_M} (he : mz_lk Y.2.2.2.2.2.2 pc = some (.invokestatic i, ln, [0, y, 5, c, r])) (hp : pc + 3 = q) (hs : Nat.ble (mz_sum st) 8 = true) (hx : zx sc sa d y [a1, a2, a3, a4, a5] M z z none M1) (k : zw sc sa d Y B Q q L (st) M1 z) : zw sc sa d Y B Q pc L (a5 :: a4 :: a3 :: a2 :: a1 :: st) M z := by
  subst hp
  exact zg he ⟨by simp, by simpa using hs, mz_Kd_m sc sa d _ _ _ _ _ _ _ (fun r2 M2 h2 => by rw [h2.1, h2.2]; exact k) hx⟩
theorem z_cv5a {i y c r b nn : Nat} {a1 a2 a3 a4 a5 : Value} {x : Value} {M1 : mz_M} (he : mz_lk Y.2.2.2.2.2.2 pc = some (.invokevirtual i, ln, [0, y, 6, c, r])) (hp : pc + 3 = q) (hs : Nat.ble (mz_sum st) 8 = true) (hk : M.2.2.2 b = (10 + c, nn)) (hx : zx sc sa d y [.ref b, a1, a2, a3, a4, a5] M z z (some x) M1) (k : zw sc sa d Y B Q q L (x :: st) M1 z) : zw sc sa d Y B Q pc L (a5 :: a4 :: a3 :: a2 :: a1 :: .ref b :: st) M z := by
  subst hp
  exact zg he ⟨by show mz_kd M b = 10 + c; unfold mz_kd; rw [hk], by simp, by simpa using hs, mz_Kd_m sc sa d _ _ _ _ _ _ _ (fun r2 M2 h2 => by rw [h2.1, h2.2]; exact k) hx⟩
theorem z_cs5a {i y c r : Nat} {a1 a2 a3 a4 a5 : Value} {x : Value} {M1 : mz_M} (he : mz_lk Y.2.2.2.2.2.2 pc = some (.invokestatic i, ln, [0, y, 5, c, r])) (hp : pc + 3 = q) (hs : Nat.ble (mz_sum st) 8 = true) (hx : zx sc sa d y [a1, a2, a3, a4, a5] M z z (some x) M1) (k : zw sc sa d Y B Q q L (x :: st) M1 z) : zw sc sa d Y B Q pc L (a5 :: a4 :: a3 :: a2 :: a1 :: st) M z := by
  subst hp
  exact zg he ⟨by simp, by simpa using hs, mz_Kd_m sc sa d _ _ _ _ _ _ _ (fun r2 M2 h2 => by rw [h2.1, h2.2]; exact k) hx⟩
theorem z_max {i c r y2 n2 : Nat} {x y : Int32} (he : mz_lk Y.2.2.2.2.2.2 pc = some (.invokestatic i, ln, [3, y2, n2, c, r])) (hp : pc + 3 = q) (h1 : 1 ≤ d) (hs : Nat.ble (mz_sum st) 8 = true) (k : zw sc sa d Y B Q q L (.int (if x < y then y else x) :: st) M z) : zw sc sa d Y B Q pc L (.int y :: .int x :: st) M z := by
  subst hp
  exact zg he ⟨h1, by simpa using hs, k⟩
theorem z_min {i c r y2 n2 : Nat} {x y : Int32} (he : mz_lk Y.2.2.2.2.2.2 pc = some (.invokestatic i, ln, [4, y2, n2, c, r])) (hp : pc + 3 = q) (h1 : 1 ≤ d) (hs : Nat.ble (mz_sum st) 8 = true) (k : zw sc sa d Y B Q q L (.int (if y < x then y else x) :: st) M z) : zw sc sa d Y B Q pc L (.int y :: .int x :: st) M z := by
  subst hp
  exact zg he ⟨h1, by simpa using hs, k⟩
theorem z_cpi {i c r n2 a b na nb : Nat} {x1 x2 x3 : Int32} (he : mz_lk Y.2.2.2.2.2.2 pc = some (.invokestatic i, ln, [2, 0, n2, c, r])) (hp : pc + 3 = q) (h1 : 1 ≤ d) (hs : Nat.ble (mz_sum st) 8 = true) (ha : M.2.2.2 a = (1, na)) (hb : M.2.2.2 b = (1, nb)) (h2 : ¬ x1 < 0 ∧ ¬ x2 < 0 ∧ ¬ x3 < 0 ∧ x1.toNatClampNeg + x3.toNatClampNeg ≤ na ∧ x2.toNatClampNeg + x3.toNatClampNeg ≤ nb) (k : zw sc sa d Y B Q q L st (mz_cI M b (va_cpy (M.1 a) (M.1 b) x1.toNatClampNeg x2.toNatClampNeg x3.toNatClampNeg)) z) : zw sc sa d Y B Q pc L (.int x3 :: .int x2 :: .ref b :: .int x1 :: .ref a :: st) M z := by
  subst hp
  exact zg he ⟨h1, by simpa using hs, by unfold mz_cop mz_ln; rw [ha, hb]; exact h2, by unfold mz_kd; rw [ha], by unfold mz_kd; rw [hb], k⟩
theorem z_cpl {i c r n2 a b na nb : Nat} {x1 x2 x3 : Int32} (he : mz_lk Y.2.2.2.2.2.2 pc = some (.invokestatic i, ln, [2, 1, n2, c, r])) (hp : pc + 3 = q) (h1 : 1 ≤ d) (hs : Nat.ble (mz_sum st) 8 = true) (ha : M.2.2.2 a = (4, na)) (hb : M.2.2.2 b = (4, nb)) (h2 : ¬ x1 < 0 ∧ ¬ x2 < 0 ∧ ¬ x3 < 0 ∧ x1.toNatClampNeg + x3.toNatClampNeg ≤ na ∧ x2.toNatClampNeg + x3.toNatClampNeg ≤ nb) (k : zw sc sa d Y B Q q L st (mz_cJ M b (va_cpy (M.2.1 a) (M.2.1 b) x1.toNatClampNeg x2.toNatClampNeg x3.toNatClampNeg)) z) : zw sc sa d Y B Q pc L (.int x3 :: .int x2 :: .ref b :: .int x1 :: .ref a :: st) M z := by
  subst hp
  exact zg he ⟨h1, by simpa using hs, by unfold mz_cop mz_ln; rw [ha, hb]; exact h2, by unfold mz_kd; rw [ha], by unfold mz_kd; rw [hb], k⟩
theorem z_ireti {v : Int32} (he : mz_lk Y.2.2.2.2.2.2 pc = some (.ireturn, ln, tg)) (hr : Y.2.2.2.1 = some .int) (h : Q (some (.int v)) M) : zw sc sa d Y z Q pc L [.int v] M z := zg he ⟨rfl, rfl, ⟨_, hr, rfl⟩, h⟩
theorem z_iretz {v : Int32} (he : mz_lk Y.2.2.2.2.2.2 pc = some (.ireturn, ln, tg)) (hr : Y.2.2.2.1 = some .boolean) (hn : narrow .boolean (.int v) = .int v) (h : Q (some (.int v)) M) : zw sc sa d Y z Q pc L [.int v] M z := zg he ⟨rfl, rfl, ⟨_, hr, hn⟩, h⟩
theorem z_lret {v : Int64} (he : mz_lk Y.2.2.2.2.2.2 pc = some (.lreturn, ln, tg)) (hr : Y.2.2.2.1 = some .long) (h : Q (some (.long v)) M) : zw sc sa d Y z Q pc L [.long v] M z := zg he ⟨rfl, rfl, hr, h⟩
theorem z_ret (he : mz_lk Y.2.2.2.2.2.2 pc = some (.return_, ln, tg)) (hr : Y.2.2.2.1 = none) (h : Q none M) : zw sc sa d Y z Q pc L [] M z := zg he ⟨rfl, rfl, hr, h⟩
theorem z_aret {v : Value} {n : String} (he : mz_lk Y.2.2.2.2.2.2 pc = some (.areturn, ln, tg)) (hr : Y.2.2.2.1 = some (.object n)) (hv : v = .null ∨ ∃ a, v = .ref a) (h : Q (some v) M) : zw sc sa d Y z Q pc L [v] M z := zg he ⟨rfl, rfl, ⟨n, hr⟩, hv, h⟩
end
end
section
-- where things lie: an object at b, its rows and parts behind it
def g_Sh (G : (Nat → Nat → Option Nat) × (Nat → Nat × Nat)) (b N : Nat) : Prop := G.2 b = (10 + 1, 10) ∧ G.1 b 0 = some (b + 1) ∧ G.2 (b + 1) = (4, N) ∧ G.1 b 1 = some (b + 2) ∧ G.2 (b + 2) = (1, N) ∧ G.1 b 2 = some (b + 3) ∧ G.2 (b + 3) = (1, N) ∧ G.1 b 3 = some (b + 4) ∧ G.2 (b + 4) = (1, N) ∧ G.1 b 4 = some (b + 5) ∧ G.2 (b + 5) = (1, N)
theorem Sh_k {M : mz_M} {b N : Nat} (w : g_Sh M.2.2 b N) : M.2.2.2 b = (10 + 1, 10) := w.1
theorem Sh_r0 {M : mz_M} {b N : Nat} (w : g_Sh M.2.2 b N) : M.2.2.1 b 0 = some (b + 1) := w.2.1
theorem Sh_a0 {M : mz_M} {b N : Nat} (w : g_Sh M.2.2 b N) : M.2.2.2 (b + 1) = (4, N) := w.2.2.1
theorem Sh_r1 {M : mz_M} {b N : Nat} (w : g_Sh M.2.2 b N) : M.2.2.1 b 1 = some (b + 2) := w.2.2.2.1
theorem Sh_a1 {M : mz_M} {b N : Nat} (w : g_Sh M.2.2 b N) : M.2.2.2 (b + 2) = (1, N) := w.2.2.2.2.1
theorem Sh_r2 {M : mz_M} {b N : Nat} (w : g_Sh M.2.2 b N) : M.2.2.1 b 2 = some (b + 3) := w.2.2.2.2.2.1
theorem Sh_a2 {M : mz_M} {b N : Nat} (w : g_Sh M.2.2 b N) : M.2.2.2 (b + 3) = (1, N) := w.2.2.2.2.2.2.1
theorem Sh_r3 {M : mz_M} {b N : Nat} (w : g_Sh M.2.2 b N) : M.2.2.1 b 3 = some (b + 4) := w.2.2.2.2.2.2.2.1
theorem Sh_a3 {M : mz_M} {b N : Nat} (w : g_Sh M.2.2 b N) : M.2.2.2 (b + 4) = (1, N) := w.2.2.2.2.2.2.2.2.1
theorem Sh_r4 {M : mz_M} {b N : Nat} (w : g_Sh M.2.2 b N) : M.2.2.1 b 4 = some (b + 5) := w.2.2.2.2.2.2.2.2.2.1
theorem Sh_a4 {M : mz_M} {b N : Nat} (w : g_Sh M.2.2 b N) : M.2.2.2 (b + 5) = (1, N) := w.2.2.2.2.2.2.2.2.2.2
def g_St (G : (Nat → Nat → Option Nat) × (Nat → Nat × Nat)) (b : Nat) : Prop := G.2 b = (10 + 2, 11) ∧ G.1 b 0 = some (b + 1) ∧ g_Sh G (b + 1) 40 ∧ G.1 b 1 = some (b + 7) ∧ G.2 (b + 7) = (1, 12) ∧ G.1 b 2 = some (b + 8) ∧ G.2 (b + 8) = (1, 60) ∧ G.1 b 3 = some (b + 9) ∧ G.2 (b + 9) = (1, 60) ∧ G.1 b 4 = some (b + 10) ∧ G.2 (b + 10) = (1, 60) ∧ G.1 b 5 = some (b + 11) ∧ G.2 (b + 11) = (1, 60) ∧ G.1 b 6 = some (b + 12) ∧ G.2 (b + 12) = (1, 60)
theorem St_k {M : mz_M} {b : Nat} (w : g_St M.2.2 b) : M.2.2.2 b = (10 + 2, 11) := w.1
theorem St_r0 {M : mz_M} {b : Nat} (w : g_St M.2.2 b) : M.2.2.1 b 0 = some (b + 1) := w.2.1
theorem St_w0 {M : mz_M} {b : Nat} (w : g_St M.2.2 b) : g_Sh M.2.2 (b + 1) 40 := w.2.2.1
theorem St_r1 {M : mz_M} {b : Nat} (w : g_St M.2.2 b) : M.2.2.1 b 1 = some (b + 7) := w.2.2.2.1
theorem St_a1 {M : mz_M} {b : Nat} (w : g_St M.2.2 b) : M.2.2.2 (b + 7) = (1, 12) := w.2.2.2.2.1
theorem St_r2 {M : mz_M} {b : Nat} (w : g_St M.2.2 b) : M.2.2.1 b 2 = some (b + 8) := w.2.2.2.2.2.1
theorem St_a2 {M : mz_M} {b : Nat} (w : g_St M.2.2 b) : M.2.2.2 (b + 8) = (1, 60) := w.2.2.2.2.2.2.1
theorem St_r3 {M : mz_M} {b : Nat} (w : g_St M.2.2 b) : M.2.2.1 b 3 = some (b + 9) := w.2.2.2.2.2.2.2.1
theorem St_a3 {M : mz_M} {b : Nat} (w : g_St M.2.2 b) : M.2.2.2 (b + 9) = (1, 60) := w.2.2.2.2.2.2.2.2.1
theorem St_r4 {M : mz_M} {b : Nat} (w : g_St M.2.2 b) : M.2.2.1 b 4 = some (b + 10) := w.2.2.2.2.2.2.2.2.2.1
theorem St_a4 {M : mz_M} {b : Nat} (w : g_St M.2.2 b) : M.2.2.2 (b + 10) = (1, 60) := w.2.2.2.2.2.2.2.2.2.2.1
theorem St_r5 {M : mz_M} {b : Nat} (w : g_St M.2.2 b) : M.2.2.1 b 5 = some (b + 11) := w.2.2.2.2.2.2.2.2.2.2.2.1
theorem St_a5 {M : mz_M} {b : Nat} (w : g_St M.2.2 b) : M.2.2.2 (b + 11) = (1, 60) := w.2.2.2.2.2.2.2.2.2.2.2.2.1
theorem St_r6 {M : mz_M} {b : Nat} (w : g_St M.2.2 b) : M.2.2.1 b 6 = some (b + 12) := w.2.2.2.2.2.2.2.2.2.2.2.2.2.1
theorem St_a6 {M : mz_M} {b : Nat} (w : g_St M.2.2 b) : M.2.2.2 (b + 12) = (1, 60) := w.2.2.2.2.2.2.2.2.2.2.2.2.2.2
def g_Pa (G : (Nat → Nat → Option Nat) × (Nat → Nat × Nat)) (b : Nat) : Prop := G.2 b = (10 + 0, 10) ∧ G.1 b 0 = some (b + 1) ∧ g_Sh G (b + 1) 200 ∧ G.1 b 1 = some (b + 7) ∧ G.2 (b + 7) = (1, 13) ∧ G.1 b 2 = some (b + 8) ∧ G.2 (b + 8) = (1, 13) ∧ G.1 b 3 = some (b + 9) ∧ G.2 (b + 9) = (1, 13) ∧ G.1 b 4 = some (b + 10) ∧ G.2 (b + 10) = (1, 13) ∧ G.1 b 5 = some (b + 11) ∧ G.2 (b + 11) = (1, 13)
theorem Pa_k {M : mz_M} {b : Nat} (w : g_Pa M.2.2 b) : M.2.2.2 b = (10 + 0, 10) := w.1
theorem Pa_r0 {M : mz_M} {b : Nat} (w : g_Pa M.2.2 b) : M.2.2.1 b 0 = some (b + 1) := w.2.1
theorem Pa_w0 {M : mz_M} {b : Nat} (w : g_Pa M.2.2 b) : g_Sh M.2.2 (b + 1) 200 := w.2.2.1
theorem Pa_r1 {M : mz_M} {b : Nat} (w : g_Pa M.2.2 b) : M.2.2.1 b 1 = some (b + 7) := w.2.2.2.1
theorem Pa_a1 {M : mz_M} {b : Nat} (w : g_Pa M.2.2 b) : M.2.2.2 (b + 7) = (1, 13) := w.2.2.2.2.1
theorem Pa_r2 {M : mz_M} {b : Nat} (w : g_Pa M.2.2 b) : M.2.2.1 b 2 = some (b + 8) := w.2.2.2.2.2.1
theorem Pa_a2 {M : mz_M} {b : Nat} (w : g_Pa M.2.2 b) : M.2.2.2 (b + 8) = (1, 13) := w.2.2.2.2.2.2.1
theorem Pa_r3 {M : mz_M} {b : Nat} (w : g_Pa M.2.2 b) : M.2.2.1 b 3 = some (b + 9) := w.2.2.2.2.2.2.2.1
theorem Pa_a3 {M : mz_M} {b : Nat} (w : g_Pa M.2.2 b) : M.2.2.2 (b + 9) = (1, 13) := w.2.2.2.2.2.2.2.2.1
theorem Pa_r4 {M : mz_M} {b : Nat} (w : g_Pa M.2.2 b) : M.2.2.1 b 4 = some (b + 10) := w.2.2.2.2.2.2.2.2.2.1
theorem Pa_a4 {M : mz_M} {b : Nat} (w : g_Pa M.2.2 b) : M.2.2.2 (b + 10) = (1, 13) := w.2.2.2.2.2.2.2.2.2.2.1
theorem Pa_r5 {M : mz_M} {b : Nat} (w : g_Pa M.2.2 b) : M.2.2.1 b 5 = some (b + 11) := w.2.2.2.2.2.2.2.2.2.2.2.1
theorem Pa_a5 {M : mz_M} {b : Nat} (w : g_Pa M.2.2 b) : M.2.2.2 (b + 11) = (1, 13) := w.2.2.2.2.2.2.2.2.2.2.2.2
def g_Ta (G : (Nat → Nat → Option Nat) × (Nat → Nat × Nat)) (b : Nat) : Prop := G.2 b = (10 + 3, 12) ∧ G.1 b 0 = some (b + 1) ∧ G.2 (b + 1) = (2, 500)
theorem Ta_k {M : mz_M} {b : Nat} (w : g_Ta M.2.2 b) : M.2.2.2 b = (10 + 3, 12) := w.1
theorem Ta_r0 {M : mz_M} {b : Nat} (w : g_Ta M.2.2 b) : M.2.2.1 b 0 = some (b + 1) := w.2.1
theorem Ta_a0 {M : mz_M} {b : Nat} (w : g_Ta M.2.2 b) : M.2.2.2 (b + 1) = (2, 500) := w.2.2
def g_Mo (G : (Nat → Nat → Option Nat) × (Nat → Nat × Nat)) (b : Nat) : Prop := G.2 b = (10 + 5, 38) ∧ G.1 b 0 = some (b + 1) ∧ G.2 (b + 1) = (1, 259) ∧ G.1 b 1 = some (b + 2) ∧ G.2 (b + 2) = (1, 259) ∧ G.1 b 2 = some (b + 3) ∧ G.2 (b + 3) = (1, 500) ∧ G.1 b 6 = some (b + 4) ∧ G.2 (b + 4) = (1, 2412) ∧ G.1 b 7 = some (b + 5) ∧ G.2 (b + 5) = (1, 201) ∧ G.1 b 8 = some (b + 6) ∧ G.2 (b + 6) = (1, 201) ∧ G.1 b 9 = some (b + 7) ∧ G.2 (b + 7) = (1, 201) ∧ G.1 b 10 = some (b + 8) ∧ G.2 (b + 8) = (1, 201) ∧ G.1 b 11 = some (b + 9) ∧ G.2 (b + 9) = (1, 201) ∧ G.1 b 12 = some (b + 10) ∧ G.2 (b + 10) = (1, 201) ∧ G.1 b 13 = some (b + 11) ∧ G.2 (b + 11) = (1, 201) ∧ G.1 b 18 = some (b + 12) ∧ G.2 (b + 12) = (1, 60) ∧ G.1 b 26 = some (b + 13) ∧ G.2 (b + 13) = (1, 777) ∧ G.1 b 27 = some (b + 14) ∧ G.2 (b + 14) = (3, 3) ∧ G.1 b 31 = some (b + 15) ∧ G.2 (b + 15) = (1, 12) ∧ G.1 b 32 = some (b + 16) ∧ G.2 (b + 16) = (1, 12) ∧ G.1 b 33 = some (b + 17) ∧ G.2 (b + 17) = (1, 12) ∧ G.1 b 34 = some (b + 18) ∧ G.2 (b + 18) = (1, 12) ∧ G.1 b 35 = some (b + 19) ∧ G.2 (b + 19) = (1, 12) ∧ G.1 b 36 = some (b + 20) ∧ G.2 (b + 20) = (1, 12)
theorem Mo_k {M : mz_M} {b : Nat} (w : g_Mo M.2.2 b) : M.2.2.2 b = (10 + 5, 38) := w.1
theorem Mo_r0 {M : mz_M} {b : Nat} (w : g_Mo M.2.2 b) : M.2.2.1 b 0 = some (b + 1) := w.2.1
theorem Mo_a0 {M : mz_M} {b : Nat} (w : g_Mo M.2.2 b) : M.2.2.2 (b + 1) = (1, 259) := w.2.2.1
theorem Mo_r1 {M : mz_M} {b : Nat} (w : g_Mo M.2.2 b) : M.2.2.1 b 1 = some (b + 2) := w.2.2.2.1
theorem Mo_a1 {M : mz_M} {b : Nat} (w : g_Mo M.2.2 b) : M.2.2.2 (b + 2) = (1, 259) := w.2.2.2.2.1
theorem Mo_r2 {M : mz_M} {b : Nat} (w : g_Mo M.2.2 b) : M.2.2.1 b 2 = some (b + 3) := w.2.2.2.2.2.1
theorem Mo_a2 {M : mz_M} {b : Nat} (w : g_Mo M.2.2 b) : M.2.2.2 (b + 3) = (1, 500) := w.2.2.2.2.2.2.1
theorem Mo_r6 {M : mz_M} {b : Nat} (w : g_Mo M.2.2 b) : M.2.2.1 b 6 = some (b + 4) := w.2.2.2.2.2.2.2.1
theorem Mo_a6 {M : mz_M} {b : Nat} (w : g_Mo M.2.2 b) : M.2.2.2 (b + 4) = (1, 2412) := w.2.2.2.2.2.2.2.2.1
theorem Mo_r7 {M : mz_M} {b : Nat} (w : g_Mo M.2.2 b) : M.2.2.1 b 7 = some (b + 5) := w.2.2.2.2.2.2.2.2.2.1
theorem Mo_a7 {M : mz_M} {b : Nat} (w : g_Mo M.2.2 b) : M.2.2.2 (b + 5) = (1, 201) := w.2.2.2.2.2.2.2.2.2.2.1
theorem Mo_r8 {M : mz_M} {b : Nat} (w : g_Mo M.2.2 b) : M.2.2.1 b 8 = some (b + 6) := w.2.2.2.2.2.2.2.2.2.2.2.1
theorem Mo_a8 {M : mz_M} {b : Nat} (w : g_Mo M.2.2 b) : M.2.2.2 (b + 6) = (1, 201) := w.2.2.2.2.2.2.2.2.2.2.2.2.1
theorem Mo_r9 {M : mz_M} {b : Nat} (w : g_Mo M.2.2 b) : M.2.2.1 b 9 = some (b + 7) := w.2.2.2.2.2.2.2.2.2.2.2.2.2.1
theorem Mo_a9 {M : mz_M} {b : Nat} (w : g_Mo M.2.2 b) : M.2.2.2 (b + 7) = (1, 201) := w.2.2.2.2.2.2.2.2.2.2.2.2.2.2.1
theorem Mo_r10 {M : mz_M} {b : Nat} (w : g_Mo M.2.2 b) : M.2.2.1 b 10 = some (b + 8) := w.2.2.2.2.2.2.2.2.2.2.2.2.2.2.2.1
theorem Mo_a10 {M : mz_M} {b : Nat} (w : g_Mo M.2.2 b) : M.2.2.2 (b + 8) = (1, 201) := w.2.2.2.2.2.2.2.2.2.2.2.2.2.2.2.2.1
theorem Mo_r11 {M : mz_M} {b : Nat} (w : g_Mo M.2.2 b) : M.2.2.1 b 11 = some (b + 9) := w.2.2.2.2.2.2.2.2.2.2.2.2.2.2.2.2.2.1
theorem Mo_a11 {M : mz_M} {b : Nat} (w : g_Mo M.2.2 b) : M.2.2.2 (b + 9) = (1, 201) := w.2.2.2.2.2.2.2.2.2.2.2.2.2.2.2.2.2.2.1
theorem Mo_r12 {M : mz_M} {b : Nat} (w : g_Mo M.2.2 b) : M.2.2.1 b 12 = some (b + 10) := w.2.2.2.2.2.2.2.2.2.2.2.2.2.2.2.2.2.2.2.1
theorem Mo_a12 {M : mz_M} {b : Nat} (w : g_Mo M.2.2 b) : M.2.2.2 (b + 10) = (1, 201) := w.2.2.2.2.2.2.2.2.2.2.2.2.2.2.2.2.2.2.2.2.1
theorem Mo_r13 {M : mz_M} {b : Nat} (w : g_Mo M.2.2 b) : M.2.2.1 b 13 = some (b + 11) := w.2.2.2.2.2.2.2.2.2.2.2.2.2.2.2.2.2.2.2.2.2.1
theorem Mo_a13 {M : mz_M} {b : Nat} (w : g_Mo M.2.2 b) : M.2.2.2 (b + 11) = (1, 201) := w.2.2.2.2.2.2.2.2.2.2.2.2.2.2.2.2.2.2.2.2.2.2.1
theorem Mo_r18 {M : mz_M} {b : Nat} (w : g_Mo M.2.2 b) : M.2.2.1 b 18 = some (b + 12) := w.2.2.2.2.2.2.2.2.2.2.2.2.2.2.2.2.2.2.2.2.2.2.2.1
theorem Mo_a18 {M : mz_M} {b : Nat} (w : g_Mo M.2.2 b) : M.2.2.2 (b + 12) = (1, 60) := w.2.2.2.2.2.2.2.2.2.2.2.2.2.2.2.2.2.2.2.2.2.2.2.2.1
theorem Mo_r26 {M : mz_M} {b : Nat} (w : g_Mo M.2.2 b) : M.2.2.1 b 26 = some (b + 13) := w.2.2.2.2.2.2.2.2.2.2.2.2.2.2.2.2.2.2.2.2.2.2.2.2.2.1
theorem Mo_a26 {M : mz_M} {b : Nat} (w : g_Mo M.2.2 b) : M.2.2.2 (b + 13) = (1, 777) := w.2.2.2.2.2.2.2.2.2.2.2.2.2.2.2.2.2.2.2.2.2.2.2.2.2.2.1
theorem Mo_r27 {M : mz_M} {b : Nat} (w : g_Mo M.2.2 b) : M.2.2.1 b 27 = some (b + 14) := w.2.2.2.2.2.2.2.2.2.2.2.2.2.2.2.2.2.2.2.2.2.2.2.2.2.2.2.1
theorem Mo_a27 {M : mz_M} {b : Nat} (w : g_Mo M.2.2 b) : M.2.2.2 (b + 14) = (3, 3) := w.2.2.2.2.2.2.2.2.2.2.2.2.2.2.2.2.2.2.2.2.2.2.2.2.2.2.2.2.1
theorem Mo_r31 {M : mz_M} {b : Nat} (w : g_Mo M.2.2 b) : M.2.2.1 b 31 = some (b + 15) := w.2.2.2.2.2.2.2.2.2.2.2.2.2.2.2.2.2.2.2.2.2.2.2.2.2.2.2.2.2.1
theorem Mo_a31 {M : mz_M} {b : Nat} (w : g_Mo M.2.2 b) : M.2.2.2 (b + 15) = (1, 12) := w.2.2.2.2.2.2.2.2.2.2.2.2.2.2.2.2.2.2.2.2.2.2.2.2.2.2.2.2.2.2.1
theorem Mo_r32 {M : mz_M} {b : Nat} (w : g_Mo M.2.2 b) : M.2.2.1 b 32 = some (b + 16) := w.2.2.2.2.2.2.2.2.2.2.2.2.2.2.2.2.2.2.2.2.2.2.2.2.2.2.2.2.2.2.2.1
theorem Mo_a32 {M : mz_M} {b : Nat} (w : g_Mo M.2.2 b) : M.2.2.2 (b + 16) = (1, 12) := w.2.2.2.2.2.2.2.2.2.2.2.2.2.2.2.2.2.2.2.2.2.2.2.2.2.2.2.2.2.2.2.2.1
theorem Mo_r33 {M : mz_M} {b : Nat} (w : g_Mo M.2.2 b) : M.2.2.1 b 33 = some (b + 17) := w.2.2.2.2.2.2.2.2.2.2.2.2.2.2.2.2.2.2.2.2.2.2.2.2.2.2.2.2.2.2.2.2.2.1
theorem Mo_a33 {M : mz_M} {b : Nat} (w : g_Mo M.2.2 b) : M.2.2.2 (b + 17) = (1, 12) := w.2.2.2.2.2.2.2.2.2.2.2.2.2.2.2.2.2.2.2.2.2.2.2.2.2.2.2.2.2.2.2.2.2.2.1
theorem Mo_r34 {M : mz_M} {b : Nat} (w : g_Mo M.2.2 b) : M.2.2.1 b 34 = some (b + 18) := w.2.2.2.2.2.2.2.2.2.2.2.2.2.2.2.2.2.2.2.2.2.2.2.2.2.2.2.2.2.2.2.2.2.2.2.1
theorem Mo_a34 {M : mz_M} {b : Nat} (w : g_Mo M.2.2 b) : M.2.2.2 (b + 18) = (1, 12) := w.2.2.2.2.2.2.2.2.2.2.2.2.2.2.2.2.2.2.2.2.2.2.2.2.2.2.2.2.2.2.2.2.2.2.2.2.1
theorem Mo_r35 {M : mz_M} {b : Nat} (w : g_Mo M.2.2 b) : M.2.2.1 b 35 = some (b + 19) := w.2.2.2.2.2.2.2.2.2.2.2.2.2.2.2.2.2.2.2.2.2.2.2.2.2.2.2.2.2.2.2.2.2.2.2.2.2.1
theorem Mo_a35 {M : mz_M} {b : Nat} (w : g_Mo M.2.2 b) : M.2.2.2 (b + 19) = (1, 12) := w.2.2.2.2.2.2.2.2.2.2.2.2.2.2.2.2.2.2.2.2.2.2.2.2.2.2.2.2.2.2.2.2.2.2.2.2.2.2.1
theorem Mo_r36 {M : mz_M} {b : Nat} (w : g_Mo M.2.2 b) : M.2.2.1 b 36 = some (b + 20) := w.2.2.2.2.2.2.2.2.2.2.2.2.2.2.2.2.2.2.2.2.2.2.2.2.2.2.2.2.2.2.2.2.2.2.2.2.2.2.2.1
theorem Mo_a36 {M : mz_M} {b : Nat} (w : g_Mo M.2.2 b) : M.2.2.2 (b + 20) = (1, 12) := w.2.2.2.2.2.2.2.2.2.2.2.2.2.2.2.2.2.2.2.2.2.2.2.2.2.2.2.2.2.2.2.2.2.2.2.2.2.2.2.2
def g_X (G : (Nat → Nat → Option Nat) × (Nat → Nat × Nat)) (b p q : Nat) : Prop := G.2 b = (10 + 4, 6) ∧ G.1 b 0 = some (b + 1) ∧ g_Ta G (b + 1) ∧ G.1 b 1 = some (b + 3) ∧ G.2 (b + 3) = (5, 3) ∧ G.1 b 2 = some (b + 4) ∧ g_Sh G (b + 4) 40 ∧ G.1 b 3 = some (b + 10) ∧ g_Pa G (b + 10) ∧ G.1 b 4 = some p ∧ g_St G p ∧ G.1 b 5 = some q ∧ g_St G q ∧ (∀ k, k < 3 → G.1 (b + 3) k = some (b + 48 + 13 * k) ∧ g_St G (b + 48 + 13 * k)) ∧ (p = b + 22 ∧ q = b + 35 ∨ p = b + 35 ∧ q = b + 22)
theorem X_k {M : mz_M} {b p q : Nat} (w : g_X M.2.2 b p q) : M.2.2.2 b = (10 + 4, 6) := w.1
theorem X_r0 {M : mz_M} {b p q : Nat} (w : g_X M.2.2 b p q) : M.2.2.1 b 0 = some (b + 1) := w.2.1
theorem X_w0 {M : mz_M} {b p q : Nat} (w : g_X M.2.2 b p q) : g_Ta M.2.2 (b + 1) := w.2.2.1
theorem X_r1 {M : mz_M} {b p q : Nat} (w : g_X M.2.2 b p q) : M.2.2.1 b 1 = some (b + 3) := w.2.2.2.1
theorem X_a1 {M : mz_M} {b p q : Nat} (w : g_X M.2.2 b p q) : M.2.2.2 (b + 3) = (5, 3) := w.2.2.2.2.1
theorem X_r2 {M : mz_M} {b p q : Nat} (w : g_X M.2.2 b p q) : M.2.2.1 b 2 = some (b + 4) := w.2.2.2.2.2.1
theorem X_w2 {M : mz_M} {b p q : Nat} (w : g_X M.2.2 b p q) : g_Sh M.2.2 (b + 4) 40 := w.2.2.2.2.2.2.1
theorem X_r3 {M : mz_M} {b p q : Nat} (w : g_X M.2.2 b p q) : M.2.2.1 b 3 = some (b + 10) := w.2.2.2.2.2.2.2.1
theorem X_w3 {M : mz_M} {b p q : Nat} (w : g_X M.2.2 b p q) : g_Pa M.2.2 (b + 10) := w.2.2.2.2.2.2.2.2.1
theorem X_r4 {M : mz_M} {b p q : Nat} (w : g_X M.2.2 b p q) : M.2.2.1 b 4 = some p := w.2.2.2.2.2.2.2.2.2.1
theorem X_w4 {M : mz_M} {b p q : Nat} (w : g_X M.2.2 b p q) : g_St M.2.2 p := w.2.2.2.2.2.2.2.2.2.2.1
theorem X_r5 {M : mz_M} {b p q : Nat} (w : g_X M.2.2 b p q) : M.2.2.1 b 5 = some q := w.2.2.2.2.2.2.2.2.2.2.2.1
theorem X_w5 {M : mz_M} {b p q : Nat} (w : g_X M.2.2 b p q) : g_St M.2.2 q := w.2.2.2.2.2.2.2.2.2.2.2.2.1
-- truth as a number
def bz (p : Prop) [Decidable p] : Int32 := if p then 1 else 0
theorem bz_t {p : Prop} [Decidable p] (h : p) : bz p = 1 := if_pos h
theorem bz_f {p : Prop} [Decidable p] (h : ¬ p) : bz p = 0 := if_neg h
theorem bz_0 {p : Prop} [Decidable p] : bz p = 0 ↔ ¬ p := by
  unfold bz
  by_cases h : p
  · simp [h]
  · simp [h]
theorem bz_n {p : Prop} [Decidable p] : ¬ bz p = 0 ↔ p := by
  unfold bz
  by_cases h : p
  · simp [h]
  · simp [h]
theorem bz_nar {p : Prop} [Decidable p] : narrow .boolean (.int (bz p)) = .int (bz p) := by
  unfold bz
  by_cases h : p
  · rw [if_pos h]; rfl
  · rw [if_neg h]; rfl
theorem m1_i : (-1 : Int32).toInt = -1 := rfl
theorem nI_m1 {n : Nat} (h : n < 2 ^ 31) : ¬ nI n = -1 := by
  intro e
  have h2 := congrArg Int32.toInt e
  rw [nI_toInt h, m1_i] at h2
  omega
end
section
-- ways along the links, by fuel; counting; rows of numbers
def wl (f : Nat → Int32) : Nat → Nat → Nat
  | 0, _ => 0
  | k + 1, u => if f u = -1 then 0 else wl f k (f u).toNatClampNeg + 1
def okl (f : Nat → Int32) (n : Nat) : Prop := ∀ v, v < n → f v = -1 ∨ ∃ u, u < n ∧ f v = nI u
def nmI (row : Int64) (cell : Int32) : Int32 := (row.toUInt64 >>> ((4 * cell).toInt64.toUInt64 &&& Int64.toUInt64 63)).toInt64.toInt32 &&& 15
def wnI (row : Int64) (cell number : Int32) : Int64 := (row &&& ((15 <<< ((4 * cell).toInt64 &&& 63)) ^^^ -1)) ||| ((number &&& 15).toInt64 <<< ((4 * cell).toInt64 &&& 63))
def cn (p : Nat → Bool) : Nat → Nat
  | 0 => 0
  | k + 1 => cn p k + (bif p k then 1 else 0)
theorem cn_t {p : Nat → Bool} {k : Nat} (h : p k = true) : cn p (k + 1) = cn p k + 1 := by
  show cn p k + (bif p k then 1 else 0) = cn p k + 1
  rw [h, cond_true]
theorem cn_f {p : Nat → Bool} {k : Nat} (h : p k = false) : cn p (k + 1) = cn p k := by
  show cn p k + (bif p k then 1 else 0) = cn p k
  rw [h, cond_false, Nat.add_zero]
theorem cn_le (p : Nat → Bool) (k : Nat) : cn p k ≤ k := by
  induction k with
  | zero => exact Nat.le_refl _
  | succ k ih =>
    show cn p k + (bif p k then 1 else 0) ≤ k + 1
    cases p k
    · rw [cond_false]; omega
    · rw [cond_true]; omega
def sm (g : Nat → Nat) : Nat → Nat
  | 0 => 0
  | k + 1 => sm g k + g k
theorem nodup_len : ∀ (n : Nat) (l : List Nat), l.Nodup → (∀ x ∈ l, x < n) → l.length ≤ n := by
  intro n
  induction n with
  | zero =>
    intro l _ h
    cases l with
    | nil => exact Nat.le_refl _
    | cons a r => exact absurd (h a List.mem_cons_self) (Nat.not_lt_zero _)
  | succ n ih =>
    intro l hd h
    by_cases hm : n ∈ l
    · have h2 := ih (l.erase n) (hd.erase n) (fun x hx => by
        have h3 := hd.mem_erase_iff.mp hx
        have h4 := h x h3.2
        have h5 := h3.1
        omega)
      rw [List.length_erase_of_mem hm] at h2
      omega
    · have h2 := ih l hd (fun x hx => by
        have h4 := h x hx
        have h5 : x ≠ n := fun e => hm (e ▸ hx)
        omega)
      omega
def acy (f : Nat → Int32) (n : Nat) : Prop := okl f n ∧ ∃ rk : Nat → Nat, ∀ v, v < n → ¬ f v = -1 → rk (f v).toNatClampNeg < rk v
theorem okl_nx {f : Nat → Int32} {n v : Nat} (h : okl f n) (hn : n < 2 ^ 31) (hv : v < n) (hf : ¬ f v = -1) : (f v).toNatClampNeg < n ∧ f v = nI (f v).toNatClampNeg := by
  rcases h v hv with e | ⟨u, hu, e⟩
  · exact absurd e hf
  · rw [e, nI_clamp (by omega)]
    exact ⟨hu, rfl⟩
def pl (f : Nat → Int32) : Nat → Nat → List Nat
  | 0, v => [v]
  | k + 1, v => if f v = -1 then [v] else v :: pl f k (f v).toNatClampNeg
theorem pl_len (f : Nat → Int32) : ∀ k v, (pl f k v).length = wl f k v + 1 := by
  intro k
  induction k with
  | zero => intro v; rfl
  | succ k ih =>
    intro v
    unfold pl wl
    by_cases h : f v = -1
    · rw [if_pos h, if_pos h]; rfl
    · rw [if_neg h, if_neg h, List.length_cons, ih]
theorem pl_lt {f : Nat → Int32} {n : Nat} (h : okl f n) (hn : n < 2 ^ 31) : ∀ k v, v < n → ∀ x ∈ pl f k v, x < n := by
  intro k
  induction k with
  | zero =>
    intro v hv x hx
    rw [List.mem_singleton.mp hx]
    exact hv
  | succ k ih =>
    intro v hv x hx
    unfold pl at hx
    by_cases hf : f v = -1
    · rw [if_pos hf] at hx
      rw [List.mem_singleton.mp hx]
      exact hv
    · rw [if_neg hf] at hx
      rcases List.mem_cons.mp hx with e | e
      · rw [e]; exact hv
      · exact ih _ (okl_nx h hn hv hf).1 x e
theorem pl_nd {f : Nat → Int32} {n : Nat} (h : okl f n) (hn : n < 2 ^ 31) {rk : Nat → Nat} (hr : ∀ v, v < n → ¬ f v = -1 → rk (f v).toNatClampNeg < rk v) : ∀ k v, v < n → (pl f k v).Nodup ∧ ∀ x ∈ pl f k v, rk x ≤ rk v := by
  intro k
  induction k with
  | zero =>
    intro v hv
    refine ⟨List.nodup_cons.mpr ⟨List.not_mem_nil, List.nodup_nil⟩, fun x hx => ?_⟩
    rw [List.mem_singleton.mp hx]
    exact Nat.le_refl _
  | succ k ih =>
    intro v hv
    unfold pl
    by_cases hf : f v = -1
    · rw [if_pos hf]
      refine ⟨List.nodup_cons.mpr ⟨List.not_mem_nil, List.nodup_nil⟩, fun x hx => ?_⟩
      rw [List.mem_singleton.mp hx]
      exact Nat.le_refl _
    · rw [if_neg hf]
      have h2 := okl_nx h hn hv hf
      have h3 := ih _ h2.1
      have h4 := hr v hv hf
      refine ⟨List.nodup_cons.mpr ⟨fun hm => ?_, h3.1⟩, fun x hx => ?_⟩
      · have h5 := h3.2 v hm
        omega
      · rcases List.mem_cons.mp hx with e | e
        · rw [e]; exact Nat.le_refl _
        · have h5 := h3.2 x e
          omega
theorem wl_lt {f : Nat → Int32} {n : Nat} (h : acy f n) (hn : n < 2 ^ 31) (k : Nat) {v : Nat} (hv : v < n) : wl f k v < n := by
  obtain ⟨h1, rk, hr⟩ := h
  have h2 := nodup_len n (pl f k v) (pl_nd h1 hn hr k v hv).1 (pl_lt h1 hn k v hv)
  rw [pl_len] at h2
  omega
theorem wl_st (f : Nat → Int32) : ∀ k v, wl f k v < k → wl f (k + 1) v = wl f k v := by
  intro k
  induction k with
  | zero => intro v h; exact absurd h (Nat.not_lt_zero _)
  | succ k ih =>
    intro v h
    have e1 : wl f (k + 1 + 1) v = if f v = -1 then 0 else wl f (k + 1) (f v).toNatClampNeg + 1 := rfl
    have e2 : wl f (k + 1) v = if f v = -1 then 0 else wl f k (f v).toNatClampNeg + 1 := rfl
    rw [e1, e2]
    rw [e2] at h
    by_cases hf : f v = -1
    · rw [if_pos hf, if_pos hf]
    · rw [if_neg hf] at h
      rw [if_neg hf, if_neg hf, ih _ (by omega)]
theorem wl_rec {f : Nat → Int32} {n : Nat} (h : acy f n) (hn : n < 2 ^ 31) {v : Nat} (hv : v < n) : wl f n v = if f v = -1 then 0 else wl f n (f v).toNatClampNeg + 1 := by
  cases n with
  | zero => exact absurd hv (Nat.not_lt_zero _)
  | succ n =>
    have e2 : wl f (n + 1) v = if f v = -1 then 0 else wl f n (f v).toNatClampNeg + 1 := rfl
    have h3 := wl_lt h hn (n + 1) hv
    rw [e2] at h3 ⊢
    by_cases hf : f v = -1
    · rw [if_pos hf, if_pos hf]
    · rw [if_neg hf] at h3
      rw [if_neg hf, if_neg hf, wl_st f n _ (by omega)]
theorem wl_0 {f : Nat → Int32} {n : Nat} (h : acy f n) (hn : n < 2 ^ 31) {v : Nat} (hv : v < n) : wl f n v = 0 ↔ f v = -1 := by
  rw [wl_rec h hn hv]
  by_cases hf : f v = -1
  · rw [if_pos hf]; exact ⟨fun _ => hf, fun _ => rfl⟩
  · rw [if_neg hf]; exact ⟨fun e => absurd e (by omega), fun e => absurd e hf⟩
-- links set anew keep that there is no way round
theorem acy_cut {f : Nat → Int32} {n v : Nat} (h : acy f n) : acy (va_up f v (-1)) n := by
  obtain ⟨h1, rk, hr⟩ := h
  refine ⟨fun u hu => ?_, rk, fun u hu hf => ?_⟩
  · by_cases e : u = v
    · exact Or.inl (by simp [va_up, e])
    · have h2 : va_up f v (-1) u = f u := by simp [va_up, e]
      rw [h2]
      exact h1 u hu
  · by_cases e : u = v
    · exact absurd (by simp [va_up, e]) hf
    · have h2 : va_up f v (-1) u = f u := by simp [va_up, e]
      rw [h2] at hf ⊢
      exact hr u hu hf
theorem acy_new {f : Nat → Int32} {n v : Nat} (h : acy f n) (hv : v < n) (hn : n < 2 ^ 30) : acy (va_up (va_up f n (-1)) v (nI n)) (n + 1) := by
  obtain ⟨h1, rk, hr⟩ := h
  have g1 : ∀ u, u ≠ v → u ≠ n → va_up (va_up f n (-1)) v (nI n) u = f u := fun u a b => by simp [va_up, a, b]
  have g2 : va_up (va_up f n (-1)) v (nI n) v = nI n := by simp [va_up]
  have g3 : va_up (va_up f n (-1)) v (nI n) n = -1 := by
    have : n ≠ v := by omega
    simp [va_up, this]
  refine ⟨fun u hu => ?_, fun u => if u = n then 0 else rk u + 1, fun u hu hf => ?_⟩
  · by_cases e : u = v
    · rw [e, g2]; exact Or.inr ⟨n, by omega, rfl⟩
    · by_cases e2 : u = n
      · rw [e2, g3]; exact Or.inl rfl
      · rw [g1 u e e2]
        rcases h1 u (by omega) with a | ⟨x, hx, a⟩
        · exact Or.inl a
        · exact Or.inr ⟨x, by omega, a⟩
  · by_cases e2 : u = n
    · rw [e2] at hf; exact absurd g3 hf
    · by_cases e : u = v
      · rw [e, g2, nI_clamp (by omega)]
        have : v ≠ n := by omega
        simp [this]
      · rw [g1 u e e2] at hf ⊢
        have h3 := okl_nx h1 (by omega) (show u < n by omega) hf
        have h4 := hr u (by omega) hf
        have h5 : (f u).toNatClampNeg ≠ n := by omega
        simp [h5, e2]
        omega
theorem acy_new1 {f : Nat → Int32} {n v : Nat} (h : acy f n) (hv : v < n) (hn : n < 2 ^ 30) : acy (va_up f n (nI v)) (n + 1) := by
  obtain ⟨h1, rk, hr⟩ := h
  have g1 : ∀ u, u ≠ n → va_up f n (nI v) u = f u := fun u a => by simp [va_up, a]
  have g2 : va_up f n (nI v) n = nI v := by simp [va_up]
  refine ⟨fun u hu => ?_, fun u => if u = n then rk v + 1 else rk u, fun u hu hf => ?_⟩
  · by_cases e2 : u = n
    · rw [e2, g2]; exact Or.inr ⟨v, by omega, rfl⟩
    · rw [g1 u e2]
      rcases h1 u (by omega) with a | ⟨x, hx, a⟩
      · exact Or.inl a
      · exact Or.inr ⟨x, by omega, a⟩
  · by_cases e2 : u = n
    · rw [e2, g2, nI_clamp (by omega)]
      have : v ≠ n := by omega
      simp [this]
    · rw [g1 u e2] at hf ⊢
      have h3 := okl_nx h1 (by omega) (show u < n by omega) hf
      have h4 := hr u (by omega) hf
      have h5 : (f u).toNatClampNeg ≠ n := by omega
      simp [h5, e2]
      exact h4
end
section
theorem s_Sh_has {sc : Option (Nat × Nat × (Nat → Int32))} {sa : Nat → Nat} {d : Nat} {M : mz_M} {z : Nat × Nat} {sh N : Nat} (w : g_Sh M.2.2 sh N) {v : Int32} : zx sc sa (d + 1) 19 [.ref sh, .int v] M z z (some (.int (bz (0 ≤ v ∧ v < M.1 sh 8)))) M := by
  refine zxin ym_Sh_has [.ref sh, .int v] rfl rfl rfl rfl ?_
  refine z_iload_n (q := 1) rfl rfl rfl ?_
  refine z_if_lt (q := 4) rfl rfl (fun h1 => ?_) (fun h1 => ?_)
  · refine z_iconst (q := 17) (v := 0) rfl rfl rfl ?_
    refine z_iretz rfl rfl (rfl) ?_
    refine ⟨?_, rfl⟩
    unfold bz
    simp_all [Int32.not_lt, Int32.not_le, Int32.le_iff_toInt_le, Int32.lt_iff_toInt_lt]
    try omega
  · refine z_iload_n (q := 5) rfl rfl rfl ?_
    refine z_aload_n (q := 6) rfl rfl rfl ?_
    refine z_getI (q := 9) rfl rfl rfl (Sh_k w) ?_
    refine z_ic_ge (q := 12) rfl rfl (fun h9 => ?_) (fun h9 => ?_)
    · refine z_iconst (q := 17) (v := 0) rfl rfl rfl ?_
      refine z_iretz rfl rfl (rfl) ?_
      refine ⟨?_, rfl⟩
      unfold bz
      simp_all [Int32.not_lt, Int32.not_le, Int32.le_iff_toInt_le, Int32.lt_iff_toInt_lt]
      try omega
    · refine z_iconst (q := 13) (v := 1) rfl rfl rfl ?_
      refine z_goto rfl ?_
      refine z_iretz rfl rfl (rfl) ?_
      refine ⟨?_, rfl⟩
      unfold bz
      simp_all [Int32.not_lt, Int32.not_le, Int32.le_iff_toInt_le, Int32.lt_iff_toInt_lt]
      try omega
theorem s_Sh_hasCell {sc : Option (Nat × Nat × (Nat → Int32))} {sa : Nat → Nat} {d : Nat} {M : mz_M} {z : Nat × Nat} {sh N : Nat} (w : g_Sh M.2.2 sh N) {v : Int32} : zx sc sa (d + 1) 20 [.ref sh, .int v] M z z (some (.int (bz (0 ≤ v ∧ v < M.1 sh 5)))) M := by
  refine zxin ym_Sh_hasCell [.ref sh, .int v] rfl rfl rfl rfl ?_
  refine z_iload_n (q := 1) rfl rfl rfl ?_
  refine z_if_lt (q := 4) rfl rfl (fun h1 => ?_) (fun h1 => ?_)
  · refine z_iconst (q := 17) (v := 0) rfl rfl rfl ?_
    refine z_iretz rfl rfl (rfl) ?_
    refine ⟨?_, rfl⟩
    unfold bz
    simp_all [Int32.not_lt, Int32.not_le, Int32.le_iff_toInt_le, Int32.lt_iff_toInt_lt]
    try omega
  · refine z_iload_n (q := 5) rfl rfl rfl ?_
    refine z_aload_n (q := 6) rfl rfl rfl ?_
    refine z_getI (q := 9) rfl rfl rfl (Sh_k w) ?_
    refine z_ic_ge (q := 12) rfl rfl (fun h9 => ?_) (fun h9 => ?_)
    · refine z_iconst (q := 17) (v := 0) rfl rfl rfl ?_
      refine z_iretz rfl rfl (rfl) ?_
      refine ⟨?_, rfl⟩
      unfold bz
      simp_all [Int32.not_lt, Int32.not_le, Int32.le_iff_toInt_le, Int32.lt_iff_toInt_lt]
      try omega
    · refine z_iconst (q := 13) (v := 1) rfl rfl rfl ?_
      refine z_goto rfl ?_
      refine z_iretz rfl rfl (rfl) ?_
      refine ⟨?_, rfl⟩
      unfold bz
      simp_all [Int32.not_lt, Int32.not_le, Int32.le_iff_toInt_le, Int32.lt_iff_toInt_lt]
      try omega
theorem s_Sh_has1 {sc : Option (Nat × Nat × (Nat → Int32))} {sa : Nat → Nat} {d : Nat} {M : mz_M} {z : Nat × Nat} {sh N : Nat} (w : g_Sh M.2.2 sh N) {n : Nat} (hn : M.1 sh 8 = nI n) (hN : n ≤ N) (hM : N ≤ 200) {j : Nat} (hj : j < n) : zx sc sa (d + 1) 19 [.ref sh, .int (nI j)] M z z (some (.int 1)) M := by
  have h := s_Sh_has (sc := sc) (sa := sa) (d := d) (z := z) w (v := nI j)
  rw [hn, bz_t ⟨nI_pos' (by omega), nI_lt hj (by omega)⟩] at h
  exact h
theorem s_Sh_hasM {sc : Option (Nat × Nat × (Nat → Int32))} {sa : Nat → Nat} {d : Nat} {M : mz_M} {z : Nat × Nat} {sh N : Nat} (w : g_Sh M.2.2 sh N)  : zx sc sa (d + 1) 19 [.ref sh, .int (-1)] M z z (some (.int 0)) M := by
  have h := s_Sh_has (sc := sc) (sa := sa) (d := d) (z := z) w (v := -1)
  rw [bz_f (fun e => absurd e.1 (by decide))] at h
  exact h
theorem s_Sh_numberIn {sc : Option (Nat × Nat × (Nat → Int32))} {sa : Nat → Nat} {d : Nat} {M : mz_M} {z : Nat × Nat} {row : Int64} {cell : Int32} : zx sc sa (d + 1) 21 [.long row, .int cell] M z z (some (.int (nmI row cell))) M := by
  refine zxin ym_Sh_numberIn [.long row, .retAddr 0, .int cell] rfl rfl rfl rfl ?_
  refine z_lload_n (q := 1) rfl rfl rfl ?_
  refine z_iconst (q := 2) (v := 4) rfl rfl rfl ?_
  refine z_iload_n (q := 3) rfl rfl rfl ?_
  refine z_imul (q := 4) rfl rfl ?_
  refine z_lushr (q := 5) rfl rfl ?_
  refine z_l2i (q := 6) rfl rfl ?_
  refine z_bipush (q := 8) (v := 15) rfl rfl rfl ?_
  refine z_iand (q := 9) rfl rfl ?_
  refine z_ireti rfl rfl ?_
  exact ⟨rfl, rfl⟩
theorem s_Sh_withNumber {sc : Option (Nat × Nat × (Nat → Int32))} {sa : Nat → Nat} {d : Nat} {M : mz_M} {z : Nat × Nat} {row : Int64} {cell number : Int32} : zx sc sa (d + 1) 22 [.long row, .int cell, .int number] M z z (some (.long (wnI row cell number))) M := by
  refine zxin ym_Sh_withNumber [.long row, .retAddr 0, .int cell, .int number, .retAddr 0, .retAddr 0] rfl rfl rfl rfl ?_
  refine z_lload_n (q := 1) rfl rfl rfl ?_
  refine z_ldc2 (q := 4) (v := 15) rfl rfl rfl ?_
  refine z_iconst (q := 5) (v := 4) rfl rfl rfl ?_
  refine z_iload_n (q := 6) rfl rfl rfl ?_
  refine z_imul (q := 7) rfl rfl ?_
  refine z_lshl (q := 8) rfl rfl ?_
  refine z_ldc2 (q := 11) (v := -1) rfl rfl rfl ?_
  refine z_lxor (q := 12) rfl rfl ?_
  refine z_land (q := 13) rfl rfl ?_
  refine z_lstore (q := 15) (L2 := [_, _, _, _, _, _]) rfl rfl rfl rfl ?_
  refine z_lload (q := 17) rfl rfl rfl ?_
  refine z_iload_n (q := 18) rfl rfl rfl ?_
  refine z_bipush (q := 20) (v := 15) rfl rfl rfl ?_
  refine z_iand (q := 21) rfl rfl ?_
  refine z_i2l (q := 22) rfl rfl ?_
  refine z_iconst (q := 23) (v := 4) rfl rfl rfl ?_
  refine z_iload_n (q := 24) rfl rfl rfl ?_
  refine z_imul (q := 25) rfl rfl ?_
  refine z_lshl (q := 26) rfl rfl ?_
  refine z_lor (q := 27) rfl rfl ?_
  refine z_lret rfl rfl ?_
  exact ⟨rfl, rfl⟩
theorem s_Sh_rowOf {sc : Option (Nat × Nat × (Nat → Int32))} {sa : Nat → Nat} {d : Nat} {M : mz_M} {z : Nat × Nat} {sh N : Nat} (w : g_Sh M.2.2 sh N) {n : Nat} (hn : M.1 sh 8 = nI n) (hN : n ≤ N) (hM : N ≤ 200) {j : Nat} (hj : j < n)  : zx sc sa (d + 2) 23 [.ref sh, .int (nI j)] M z z (some (.long (M.2.1 (sh + 1) j))) M := by
  refine zxin ym_Sh_rowOf [.ref sh, .int (nI j)] rfl rfl rfl rfl ?_
  refine z_aload_n (q := 1) rfl rfl rfl ?_
  refine z_iload_n (q := 2) rfl rfl rfl ?_
  refine z_cv1i (q := 5) rfl rfl rfl (Sh_k w) (s_Sh_has1 w hn hN hM hj) ?_
  refine z_if_eq (q := 8) rfl rfl (fun h5 => ?_) (fun h5 => ?_)
  · exact absurd h5 (by decide)
  · refine z_aload_n (q := 9) rfl rfl rfl ?_
    refine z_getR (q := 12) rfl rfl rfl (Sh_k w) (Sh_r0 w) ?_
    refine z_iload_n (q := 13) rfl rfl rfl ?_
    refine z_lald (q := 14) rfl rfl (Sh_a0 w) (by first | assumption | exact vp_in_nI (by omega) (by omega)) ?_
    refine z_goto rfl ?_
    refine z_lret rfl rfl ?_
    rw [nI_clamp (by omega)]
    exact ⟨rfl, rfl⟩
theorem s_Sh_numberAt {sc : Option (Nat × Nat × (Nat → Int32))} {sa : Nat → Nat} {d : Nat} {M : mz_M} {z : Nat × Nat} {sh N : Nat} (w : g_Sh M.2.2 sh N) {n : Nat} (hn : M.1 sh 8 = nI n) (hN : n ≤ N) (hM : N ≤ 200) {j : Nat} (hj : j < n) {cell : Int32} : zx sc sa (d + 2) 24 [.ref sh, .int (nI j), .int cell] M z z (some (.int (nmI (M.2.1 (sh + 1) j) cell))) M := by
  refine zxin ym_Sh_numberAt [.ref sh, .int (nI j), .int cell] rfl rfl rfl rfl ?_
  refine z_aload_n (q := 1) rfl rfl rfl ?_
  refine z_iload_n (q := 2) rfl rfl rfl ?_
  refine z_cv1i (q := 5) rfl rfl rfl (Sh_k w) (s_Sh_has1 w hn hN hM hj) ?_
  refine z_if_eq (q := 8) rfl rfl (fun h5 => ?_) (fun h5 => ?_)
  · exact absurd h5 (by decide)
  · refine z_aload_n (q := 9) rfl rfl rfl ?_
    refine z_getR (q := 12) rfl rfl rfl (Sh_k w) (Sh_r0 w) ?_
    refine z_iload_n (q := 13) rfl rfl rfl ?_
    refine z_lald (q := 14) rfl rfl (Sh_a0 w) (by first | assumption | exact vp_in_nI (by omega) (by omega)) ?_
    refine z_iload_n (q := 15) rfl rfl rfl ?_
    refine z_cs2i (q := 18) rfl rfl rfl (s_Sh_numberIn) ?_
    refine z_goto rfl ?_
    refine z_ireti rfl rfl ?_
    rw [nI_clamp (by omega)]
    exact ⟨rfl, rfl⟩
theorem s_Sh_parentOf {sc : Option (Nat × Nat × (Nat → Int32))} {sa : Nat → Nat} {d : Nat} {M : mz_M} {z : Nat × Nat} {sh N : Nat} (w : g_Sh M.2.2 sh N) {n : Nat} (hn : M.1 sh 8 = nI n) (hN : n ≤ N) (hM : N ≤ 200) {j : Nat} (hj : j < n)  : zx sc sa (d + 2) 28 [.ref sh, .int (nI j)] M z z (some (.int (M.1 (sh + 4) j))) M := by
  refine zxin ym_Sh_parentOf [.ref sh, .int (nI j)] rfl rfl rfl rfl ?_
  refine z_aload_n (q := 1) rfl rfl rfl ?_
  refine z_iload_n (q := 2) rfl rfl rfl ?_
  refine z_cv1i (q := 5) rfl rfl rfl (Sh_k w) (s_Sh_has1 w hn hN hM hj) ?_
  refine z_if_eq (q := 8) rfl rfl (fun h5 => ?_) (fun h5 => ?_)
  · exact absurd h5 (by decide)
  · refine z_aload_n (q := 9) rfl rfl rfl ?_
    refine z_getR (q := 12) rfl rfl rfl (Sh_k w) (Sh_r3 w) ?_
    refine z_iload_n (q := 13) rfl rfl rfl ?_
    refine z_iald (q := 14) rfl rfl (Sh_a3 w) (by first | assumption | exact vp_in_nI (by omega) (by omega)) ?_
    refine z_goto rfl ?_
    refine z_ireti rfl rfl ?_
    rw [nI_clamp (by omega)]
    exact ⟨rfl, rfl⟩
theorem s_Sh_isDirect {sc : Option (Nat × Nat × (Nat → Int32))} {sa : Nat → Nat} {d : Nat} {M : mz_M} {z : Nat × Nat} {sh N : Nat} (w : g_Sh M.2.2 sh N) {n : Nat} (hn : M.1 sh 8 = nI n) (hN : n ≤ N) (hM : N ≤ 200) {j : Nat} (hj : j < n)  : zx sc sa (d + 2) 37 [.ref sh, .int (nI j)] M z z (some (.int (bz (M.1 (sh + 2) j = -1)))) M := by
  refine zxin ym_Sh_isDirect [.ref sh, .int (nI j)] rfl rfl rfl rfl ?_
  refine z_aload_n (q := 1) rfl rfl rfl ?_
  refine z_iload_n (q := 2) rfl rfl rfl ?_
  refine z_cv1i (q := 5) rfl rfl rfl (Sh_k w) (s_Sh_has1 w hn hN hM hj) ?_
  refine z_if_eq (q := 8) rfl rfl (fun h5 => ?_) (fun h5 => ?_)
  · exact absurd h5 (by decide)
  · refine z_aload_n (q := 9) rfl rfl rfl ?_
    refine z_getR (q := 12) rfl rfl rfl (Sh_k w) (Sh_r1 w) ?_
    refine z_iload_n (q := 13) rfl rfl rfl ?_
    refine z_iald (q := 14) rfl rfl (Sh_a1 w) (by first | assumption | exact vp_in_nI (by omega) (by omega)) ?_
    refine z_iconst (q := 15) (v := -1) rfl rfl rfl ?_
    refine z_ic_ne (q := 18) rfl rfl (fun h15 => ?_) (fun h15 => ?_)
    · refine z_iconst (q := 23) (v := 0) rfl rfl rfl ?_
      refine z_iretz rfl rfl (rfl) ?_
      rw [nI_clamp (by omega)] at h15
      refine ⟨?_, rfl⟩
      unfold bz
      simp_all
    · refine z_iconst (q := 19) (v := 1) rfl rfl rfl ?_
      refine z_goto rfl ?_
      refine z_iretz rfl rfl (rfl) ?_
      rw [nI_clamp (by omega)] at h15
      refine ⟨?_, rfl⟩
      unfold bz
      simp_all
theorem l_Sh_wayFrom {sc : Option (Nat × Nat × (Nat → Int32))} {sa : Nat → Nat} {d : Nat} {M : mz_M} {z : Nat × Nat} {sh N : Nat} (w : g_Sh M.2.2 sh N) {n : Nat} (hn : M.1 sh 8 = nI n) (hN : n ≤ N) (hM : N ≤ 200) (hf : okl (M.1 (sh + 2)) n) {v0 : Int32} {m : Nat} : ∀ (k : Nat) (i u : Nat), i + k = n → u < n → i + wl (M.1 (sh + 2)) k u = m → zw sc sa d ym_Sh_wayFrom z (fun r' M' => r' = some (.int (nI m)) ∧ M' = M) 4 [.ref sh, .int v0, .int (nI i), .int (nI u)] [] M z := by
  intro k
  induction k with
  | zero =>
    intro i u hi hu hm
    have e1 : i = n := by omega
    have e2 : i = m := hm
    subst e2
    refine z_iload_n (q := 5) rfl rfl rfl ?_
    refine z_aload_n (q := 6) rfl rfl rfl ?_
    refine z_getI (q := 9) rfl rfl rfl (Sh_k w) ?_
    refine z_ic_ge (q := 12) rfl rfl (fun h9 => ?_) (fun h9 => ?_)
    · refine z_iload_n (q := 48) rfl rfl rfl ?_
      refine z_ireti rfl rfl ?_
      exact ⟨rfl, rfl⟩
    · rw [hn, e1] at h9
      exact absurd (nI_le (Nat.le_refl n) (by omega)) h9
  | succ k ih =>
    intro i u hi hu hm
    refine z_iload_n (q := 5) rfl rfl rfl ?_
    refine z_aload_n (q := 6) rfl rfl rfl ?_
    refine z_getI (q := 9) rfl rfl rfl (Sh_k w) ?_
    refine z_ic_ge (q := 12) rfl rfl (fun h9 => ?_) (fun h9 => ?_)
    · rw [hn] at h9
      exact absurd h9 (nI_ge (by omega) (by omega))
    · refine z_iload_n (q := 13) rfl rfl rfl ?_
      refine z_if_lt (q := 16) rfl rfl (fun h13 => ?_) (fun h13 => ?_)
      · exact absurd h13 (nI_pos (by omega))
      · refine z_iload_n (q := 17) rfl rfl rfl ?_
        refine z_aload_n (q := 18) rfl rfl rfl ?_
        refine z_getI (q := 21) rfl rfl rfl (Sh_k w) ?_
        refine z_ic_ge (q := 24) rfl rfl (fun h21 => ?_) (fun h21 => ?_)
        · rw [hn] at h21
          exact absurd h21 (nI_ge (by omega) (by omega))
        · refine z_aload_n (q := 25) rfl rfl rfl ?_
          refine z_getR (q := 28) rfl rfl rfl (Sh_k w) (Sh_r1 w) ?_
          refine z_iload_n (q := 29) rfl rfl rfl ?_
          refine z_iald (q := 30) rfl rfl (Sh_a1 w) (by first | assumption | exact vp_in_nI (by omega) (by omega)) ?_
          refine z_iconst (q := 31) (v := -1) rfl rfl rfl ?_
          refine z_ic_eq (q := 34) rfl rfl (fun h31 => ?_) (fun h31 => ?_)
          · refine z_iload_n (q := 48) rfl rfl rfl ?_
            refine z_ireti rfl rfl ?_
            rw [nI_clamp (by omega)] at h31
            unfold wl at hm
            rw [if_pos h31] at hm
            have e2 : i = m := hm
            subst e2
            exact ⟨rfl, rfl⟩
          · refine z_aload_n (q := 35) rfl rfl rfl ?_
            refine z_getR (q := 38) rfl rfl rfl (Sh_k w) (Sh_r1 w) ?_
            refine z_iload_n (q := 39) rfl rfl rfl ?_
            refine z_iald (q := 40) rfl rfl (Sh_a1 w) (by first | assumption | exact vp_in_nI (by omega) (by omega)) ?_
            refine z_istore_n (q := 41) (L2 := [_, _, _, _]) rfl rfl rfl rfl ?_
            refine z_iinc (q := 44) (L2 := [_, _, _, _]) rfl rfl rfl rfl ?_
            refine z_goto rfl ?_
            rw [show nI i + Int32.ofInt 1 = nI (i + 1) from (nI_succ i).symm]
            rw [nI_clamp (by omega)] at h31 ⊢
            rcases hf u hu with e | ⟨x, hx, e⟩
            · exact absurd e h31
            · rw [e]
              refine ih (i + 1) x (by omega) hx ?_
              have e2 := hm
              unfold wl at e2
              rw [if_neg h31, e, nI_clamp (by omega)] at e2
              omega
theorem s_Sh_wayFrom {sc : Option (Nat × Nat × (Nat → Int32))} {sa : Nat → Nat} {d : Nat} {M : mz_M} {z : Nat × Nat} {sh N : Nat} (w : g_Sh M.2.2 sh N) {n : Nat} (hn : M.1 sh 8 = nI n) (hN : n ≤ N) (hM : N ≤ 200) {j : Nat} (hj : j < n) (hf : okl (M.1 (sh + 2)) n) : zx sc sa (d + 1) 39 [.ref sh, .int (nI j)] M z z (some (.int (nI (wl (M.1 (sh + 2)) n j)))) M := by
  refine zxin ym_Sh_wayFrom [.ref sh, .int (nI j), .retAddr 0, .retAddr 0] rfl rfl rfl rfl ?_
  refine z_iconst (q := 1) (v := 0) rfl rfl rfl ?_
  refine z_istore_n (q := 2) (L2 := [_, _, _, _]) rfl rfl rfl rfl ?_
  refine z_iload_n (q := 3) rfl rfl rfl ?_
  refine z_istore_n (q := 4) (L2 := [_, _, _, _]) rfl rfl rfl rfl ?_
  exact l_Sh_wayFrom w hn hN hM hf n 0 j (by omega) hj (by omega)
end
section
def fo {α : Type} (g : Nat → α → α) (a : α) : Nat → α
  | 0 => a
  | k + 1 => g k (fo g a k)
theorem fo_c {α : Type} {g g' : Nat → α → α} {a : α} : ∀ {n : Nat}, (∀ i, i < n → ∀ x, g i x = g' i x) → fo g a n = fo g' a n := by
  intro n
  induction n with
  | zero => intro _; rfl
  | succ n ih =>
    intro h
    show g n (fo g a n) = g' n (fo g' a n)
    rw [ih (fun i hi x => h i (by omega) x), h n (by omega)]
def rt (row : Int64) : Nat → Int32 → Int32
  | 0, a => a
  | k + 1, a => if nmI row a = a then a else rt row k (nmI row a)
def lsI (f g : Nat → Int32) (cell : Int32) : Nat → Int32 → Int32
  | 0, _ => 0
  | k + 1, a => if a = -1 then 0 else if g a.toNatClampNeg = cell then a else lsI f g cell k (f a.toNatClampNeg)
def tsI (f g : Nat → Int32) (cell : Int32) : Nat → Int32 → Int32 → Int32
  | 0, _, t => t
  | k + 1, a, t => if a = -1 then t else tsI f g cell k (f a.toNatClampNeg) (if g a.toNatClampNeg = cell then t + Int32.ofInt 1 else t)
def okv (n : Nat) (a : Int32) : Prop := a = -1 ∨ ∃ u, u < n ∧ a = nI u
def okm (f : Nat → Int32) (n : Nat) : Prop := f 0 = -1 ∧ ∀ v, 0 < v → v < n → ∃ u, u < v ∧ f v = nI u
def mtN (f : Nat → Int32) : Nat → Nat → Nat → Nat
  | 0, a, _ => a
  | k + 1, a, b => if a = b then a else if b < a then mtN f k (f a).toNatClampNeg b else mtN f k a (f b).toNatClampNeg
theorem l_Sh_unlikeCells {sc : Option (Nat × Nat × (Nat → Int32))} {sa : Nat → Nat} {d : Nat} {M : mz_M} {z : Nat × Nat} {sh N : Nat} (w : g_Sh M.2.2 sh N) {c : Nat} (hc : M.1 sh 5 = nI c) (hC : c ≤ 12) {row other : Int64} : ∀ (k : Nat) (i : Nat), i + k = c → zw sc sa (d + 1) ym_Sh_unlikeCells z (fun r' M' => r' = some (.int (fo (fun c acc => if nmI row (nI c) = nmI other (nI c) then acc else acc + Int32.ofInt 1) 0 c)) ∧ M' = M) 6 [.ref sh, .long row, .retAddr 0, .long other, .retAddr 0, .int (fo (fun c acc => if nmI row (nI c) = nmI other (nI c) then acc else acc + Int32.ofInt 1) 0 i), .int (nI i)] [] M z := by
  intro k
  induction k with
  | zero =>
    intro i hi
    have e1 : i = c := by omega
    subst e1
    refine z_iload (q := 8) rfl rfl rfl ?_
    refine z_aload_n (q := 9) rfl rfl rfl ?_
    refine z_getI (q := 12) rfl rfl rfl (Sh_k w) ?_
    refine z_ic_ge (q := 15) rfl rfl (fun h12 => ?_) (fun h12 => ?_)
    · refine z_iload (q := 41) rfl rfl rfl ?_
      refine z_ireti rfl rfl ?_
      exact ⟨rfl, rfl⟩
    · exact absurd (by rw [hc]; exact nI_le (Nat.le_refl _) (by omega)) h12
  | succ k ih =>
    intro i hi
    refine z_iload (q := 8) rfl rfl rfl ?_
    refine z_aload_n (q := 9) rfl rfl rfl ?_
    refine z_getI (q := 12) rfl rfl rfl (Sh_k w) ?_
    refine z_ic_ge (q := 15) rfl rfl (fun h12 => ?_) (fun h12 => ?_)
    · rw [hc] at h12
      exact absurd h12 (nI_ge (by omega) (by omega))
    · refine z_lload_n (q := 16) rfl rfl rfl ?_
      refine z_iload (q := 18) rfl rfl rfl ?_
      refine z_cs2i (q := 21) rfl rfl rfl (s_Sh_numberIn) ?_
      refine z_lload_n (q := 22) rfl rfl rfl ?_
      refine z_iload (q := 24) rfl rfl rfl ?_
      refine z_cs2i (q := 27) rfl rfl rfl (s_Sh_numberIn) ?_
      refine z_ic_eq (q := 30) rfl rfl (fun h27 => ?_) (fun h27 => ?_)
      · refine z_iinc (q := 36) (L2 := [_, _, _, _, _, _, _]) rfl rfl rfl rfl ?_
        refine z_goto rfl ?_
        rw [show nI i + Int32.ofInt 1 = nI (i + 1) from (nI_succ i).symm]
        have e9 := ih (i + 1) (by omega)
        first | exact e9 | (simp only [fo, if_pos h27] at e9; exact e9) | (simp only [fo, if_neg h27] at e9; exact e9)
      · refine z_iinc (q := 33) (L2 := [_, _, _, _, _, _, _]) rfl rfl rfl rfl ?_
        refine z_iinc (q := 36) (L2 := [_, _, _, _, _, _, _]) rfl rfl rfl rfl ?_
        refine z_goto rfl ?_
        rw [show nI i + Int32.ofInt 1 = nI (i + 1) from (nI_succ i).symm]
        have e9 := ih (i + 1) (by omega)
        first | exact e9 | (simp only [fo, if_pos h27] at e9; exact e9) | (simp only [fo, if_neg h27] at e9; exact e9)
theorem s_Sh_unlikeCells {sc : Option (Nat × Nat × (Nat → Int32))} {sa : Nat → Nat} {d : Nat} {M : mz_M} {z : Nat × Nat} {sh N : Nat} (w : g_Sh M.2.2 sh N) {c : Nat} (hc : M.1 sh 5 = nI c) (hC : c ≤ 12) {row other : Int64} : zx sc sa (d + 2) 25 [.ref sh, .long row, .long other] M z z (some (.int (fo (fun c acc => if nmI row (nI c) = nmI other (nI c) then acc else acc + Int32.ofInt 1) 0 c))) M := by
  refine zxin ym_Sh_unlikeCells [.ref sh, .long row, .retAddr 0, .long other, .retAddr 0, .retAddr 0, .retAddr 0] rfl rfl rfl rfl ?_
  refine z_iconst (q := 1) (v := 0) rfl rfl rfl ?_
  refine z_istore (q := 3) (L2 := [_, _, _, _, _, _, _]) rfl rfl rfl rfl ?_
  refine z_iconst (q := 4) (v := 0) rfl rfl rfl ?_
  refine z_istore (q := 6) (L2 := [_, _, _, _, _, _, _]) rfl rfl rfl rfl ?_
  exact l_Sh_unlikeCells w hc hC c 0 (by omega)
theorem l_Sh_longestWay {sc : Option (Nat × Nat × (Nat → Int32))} {sa : Nat → Nat} {d : Nat} {M : mz_M} {z : Nat × Nat} {sh N : Nat} (w : g_Sh M.2.2 sh N) {n : Nat} (hn : M.1 sh 8 = nI n) (hN : n ≤ N) (hM : N ≤ 200) (hf : okl (M.1 (sh + 2)) n)  : ∀ (k : Nat) (i : Nat), i + k = n → zw sc sa (d + 1) ym_Sh_longestWay z (fun r' M' => r' = some (.int (fo (fun v acc => if acc < nI (wl (M.1 (sh + 2)) n v) then nI (wl (M.1 (sh + 2)) n v) else acc) 0 n)) ∧ M' = M) 4 [.ref sh, .int (fo (fun v acc => if acc < nI (wl (M.1 (sh + 2)) n v) then nI (wl (M.1 (sh + 2)) n v) else acc) 0 i), .int (nI i)] [] M z := by
  intro k
  induction k with
  | zero =>
    intro i hi
    have e1 : i = n := by omega
    subst e1
    refine z_iload_n (q := 5) rfl rfl rfl ?_
    refine z_aload_n (q := 6) rfl rfl rfl ?_
    refine z_getI (q := 9) rfl rfl rfl (Sh_k w) ?_
    refine z_ic_ge (q := 12) rfl rfl (fun h9 => ?_) (fun h9 => ?_)
    · refine z_iload_n (q := 29) rfl rfl rfl ?_
      refine z_ireti rfl rfl ?_
      exact ⟨rfl, rfl⟩
    · exact absurd (by rw [hn]; exact nI_le (Nat.le_refl _) (by omega)) h9
  | succ k ih =>
    intro i hi
    refine z_iload_n (q := 5) rfl rfl rfl ?_
    refine z_aload_n (q := 6) rfl rfl rfl ?_
    refine z_getI (q := 9) rfl rfl rfl (Sh_k w) ?_
    refine z_ic_ge (q := 12) rfl rfl (fun h9 => ?_) (fun h9 => ?_)
    · rw [hn] at h9
      exact absurd h9 (nI_ge (by omega) (by omega))
    · refine z_iload_n (q := 13) rfl rfl rfl ?_
      refine z_aload_n (q := 14) rfl rfl rfl ?_
      refine z_iload_n (q := 15) rfl rfl rfl ?_
      refine z_cv1i (q := 18) rfl rfl rfl (Sh_k w) (s_Sh_wayFrom w hn hN hM (by omega) hf) ?_
      refine z_max (q := 21) rfl rfl (by omega) rfl ?_
      refine z_istore_n (q := 22) (L2 := [_, _, _]) rfl rfl rfl rfl ?_
      refine z_iinc (q := 25) (L2 := [_, _, _]) rfl rfl rfl rfl ?_
      refine z_goto rfl ?_
      rw [show nI i + Int32.ofInt 1 = nI (i + 1) from (nI_succ i).symm]
      have e9 := ih (i + 1) (by omega)
      first | exact e9
theorem s_Sh_longestWay {sc : Option (Nat × Nat × (Nat → Int32))} {sa : Nat → Nat} {d : Nat} {M : mz_M} {z : Nat × Nat} {sh N : Nat} (w : g_Sh M.2.2 sh N) {n : Nat} (hn : M.1 sh 8 = nI n) (hN : n ≤ N) (hM : N ≤ 200) (hf : okl (M.1 (sh + 2)) n)  : zx sc sa (d + 2) 40 [.ref sh] M z z (some (.int (fo (fun v acc => if acc < nI (wl (M.1 (sh + 2)) n v) then nI (wl (M.1 (sh + 2)) n v) else acc) 0 n))) M := by
  refine zxin ym_Sh_longestWay [.ref sh, .retAddr 0, .retAddr 0] rfl rfl rfl rfl ?_
  refine z_iconst (q := 1) (v := 0) rfl rfl rfl ?_
  refine z_istore_n (q := 2) (L2 := [_, _, _]) rfl rfl rfl rfl ?_
  refine z_iconst (q := 3) (v := 0) rfl rfl rfl ?_
  refine z_istore_n (q := 4) (L2 := [_, _, _]) rfl rfl rfl rfl ?_
  exact l_Sh_longestWay w hn hN hM hf n 0 (by omega)
theorem l_Sh_directOnes {sc : Option (Nat × Nat × (Nat → Int32))} {sa : Nat → Nat} {d : Nat} {M : mz_M} {z : Nat × Nat} {sh N : Nat} (w : g_Sh M.2.2 sh N) {n : Nat} (hn : M.1 sh 8 = nI n) (hN : n ≤ N) (hM : N ≤ 200)  : ∀ (k : Nat) (i : Nat), i + k = n → zw sc sa (d + 2) ym_Sh_directOnes z (fun r' M' => r' = some (.int (fo (fun v acc => if M.1 (sh + 2) v = -1 then acc + Int32.ofInt 1 else acc) 0 n)) ∧ M' = M) 4 [.ref sh, .int (fo (fun v acc => if M.1 (sh + 2) v = -1 then acc + Int32.ofInt 1 else acc) 0 i), .int (nI i)] [] M z := by
  intro k
  induction k with
  | zero =>
    intro i hi
    have e1 : i = n := by omega
    subst e1
    refine z_iload_n (q := 5) rfl rfl rfl ?_
    refine z_aload_n (q := 6) rfl rfl rfl ?_
    refine z_getI (q := 9) rfl rfl rfl (Sh_k w) ?_
    refine z_ic_ge (q := 12) rfl rfl (fun h9 => ?_) (fun h9 => ?_)
    · refine z_iload_n (q := 30) rfl rfl rfl ?_
      refine z_ireti rfl rfl ?_
      exact ⟨rfl, rfl⟩
    · exact absurd (by rw [hn]; exact nI_le (Nat.le_refl _) (by omega)) h9
  | succ k ih =>
    intro i hi
    refine z_iload_n (q := 5) rfl rfl rfl ?_
    refine z_aload_n (q := 6) rfl rfl rfl ?_
    refine z_getI (q := 9) rfl rfl rfl (Sh_k w) ?_
    refine z_ic_ge (q := 12) rfl rfl (fun h9 => ?_) (fun h9 => ?_)
    · rw [hn] at h9
      exact absurd h9 (nI_ge (by omega) (by omega))
    · refine z_aload_n (q := 13) rfl rfl rfl ?_
      refine z_iload_n (q := 14) rfl rfl rfl ?_
      refine z_cv1i (q := 17) rfl rfl rfl (Sh_k w) (s_Sh_isDirect w hn hN hM (by omega)) ?_
      refine z_if_eq (q := 20) rfl rfl (fun h17 => ?_) (fun h17 => ?_)
      · refine z_iinc (q := 26) (L2 := [_, _, _]) rfl rfl rfl rfl ?_
        refine z_goto rfl ?_
        rw [show nI i + Int32.ofInt 1 = nI (i + 1) from (nI_succ i).symm]
        have e9 := ih (i + 1) (by omega)
        first | rw [bz_n] at h17 | rw [bz_0] at h17
        first | exact e9 | (simp only [fo, if_pos h17] at e9; exact e9) | (simp only [fo, if_neg h17] at e9; exact e9)
      · refine z_iinc (q := 23) (L2 := [_, _, _]) rfl rfl rfl rfl ?_
        refine z_iinc (q := 26) (L2 := [_, _, _]) rfl rfl rfl rfl ?_
        refine z_goto rfl ?_
        rw [show nI i + Int32.ofInt 1 = nI (i + 1) from (nI_succ i).symm]
        have e9 := ih (i + 1) (by omega)
        first | rw [bz_n] at h17 | rw [bz_0] at h17
        first | exact e9 | (simp only [fo, if_pos h17] at e9; exact e9) | (simp only [fo, if_neg h17] at e9; exact e9)
theorem s_Sh_directOnes {sc : Option (Nat × Nat × (Nat → Int32))} {sa : Nat → Nat} {d : Nat} {M : mz_M} {z : Nat × Nat} {sh N : Nat} (w : g_Sh M.2.2 sh N) {n : Nat} (hn : M.1 sh 8 = nI n) (hN : n ≤ N) (hM : N ≤ 200)  : zx sc sa (d + 3) 41 [.ref sh] M z z (some (.int (fo (fun v acc => if M.1 (sh + 2) v = -1 then acc + Int32.ofInt 1 else acc) 0 n))) M := by
  refine zxin ym_Sh_directOnes [.ref sh, .retAddr 0, .retAddr 0] rfl rfl rfl rfl ?_
  refine z_iconst (q := 1) (v := 0) rfl rfl rfl ?_
  refine z_istore_n (q := 2) (L2 := [_, _, _]) rfl rfl rfl rfl ?_
  refine z_iconst (q := 3) (v := 0) rfl rfl rfl ?_
  refine z_istore_n (q := 4) (L2 := [_, _, _]) rfl rfl rfl rfl ?_
  exact l_Sh_directOnes w hn hN hM n 0 (by omega)
theorem l_Sh_allWays {sc : Option (Nat × Nat × (Nat → Int32))} {sa : Nat → Nat} {d : Nat} {M : mz_M} {z : Nat × Nat} {sh N : Nat} (w : g_Sh M.2.2 sh N) {n : Nat} (hn : M.1 sh 8 = nI n) (hN : n ≤ N) (hM : N ≤ 200) (hf : okl (M.1 (sh + 2)) n)  : ∀ (k : Nat) (i : Nat), i + k = n → zw sc sa (d + 1) ym_Sh_allWays z (fun r' M' => r' = some (.int (fo (fun v acc => acc + nI (wl (M.1 (sh + 2)) n v)) 0 n)) ∧ M' = M) 4 [.ref sh, .int (fo (fun v acc => acc + nI (wl (M.1 (sh + 2)) n v)) 0 i), .int (nI i)] [] M z := by
  intro k
  induction k with
  | zero =>
    intro i hi
    have e1 : i = n := by omega
    subst e1
    refine z_iload_n (q := 5) rfl rfl rfl ?_
    refine z_aload_n (q := 6) rfl rfl rfl ?_
    refine z_getI (q := 9) rfl rfl rfl (Sh_k w) ?_
    refine z_ic_ge (q := 12) rfl rfl (fun h9 => ?_) (fun h9 => ?_)
    · refine z_iload_n (q := 27) rfl rfl rfl ?_
      refine z_ireti rfl rfl ?_
      exact ⟨rfl, rfl⟩
    · exact absurd (by rw [hn]; exact nI_le (Nat.le_refl _) (by omega)) h9
  | succ k ih =>
    intro i hi
    refine z_iload_n (q := 5) rfl rfl rfl ?_
    refine z_aload_n (q := 6) rfl rfl rfl ?_
    refine z_getI (q := 9) rfl rfl rfl (Sh_k w) ?_
    refine z_ic_ge (q := 12) rfl rfl (fun h9 => ?_) (fun h9 => ?_)
    · rw [hn] at h9
      exact absurd h9 (nI_ge (by omega) (by omega))
    · refine z_iload_n (q := 13) rfl rfl rfl ?_
      refine z_aload_n (q := 14) rfl rfl rfl ?_
      refine z_iload_n (q := 15) rfl rfl rfl ?_
      refine z_cv1i (q := 18) rfl rfl rfl (Sh_k w) (s_Sh_wayFrom w hn hN hM (by omega) hf) ?_
      refine z_iadd (q := 19) rfl rfl ?_
      refine z_istore_n (q := 20) (L2 := [_, _, _]) rfl rfl rfl rfl ?_
      refine z_iinc (q := 23) (L2 := [_, _, _]) rfl rfl rfl rfl ?_
      refine z_goto rfl ?_
      rw [show nI i + Int32.ofInt 1 = nI (i + 1) from (nI_succ i).symm]
      have e9 := ih (i + 1) (by omega)
      first | exact e9
theorem s_Sh_allWays {sc : Option (Nat × Nat × (Nat → Int32))} {sa : Nat → Nat} {d : Nat} {M : mz_M} {z : Nat × Nat} {sh N : Nat} (w : g_Sh M.2.2 sh N) {n : Nat} (hn : M.1 sh 8 = nI n) (hN : n ≤ N) (hM : N ≤ 200) (hf : okl (M.1 (sh + 2)) n)  : zx sc sa (d + 2) 42 [.ref sh] M z z (some (.int (fo (fun v acc => acc + nI (wl (M.1 (sh + 2)) n v)) 0 n))) M := by
  refine zxin ym_Sh_allWays [.ref sh, .retAddr 0, .retAddr 0] rfl rfl rfl rfl ?_
  refine z_iconst (q := 1) (v := 0) rfl rfl rfl ?_
  refine z_istore_n (q := 2) (L2 := [_, _, _]) rfl rfl rfl rfl ?_
  refine z_iconst (q := 3) (v := 0) rfl rfl rfl ?_
  refine z_istore_n (q := 4) (L2 := [_, _, _]) rfl rfl rfl rfl ?_
  exact l_Sh_allWays w hn hN hM hf n 0 (by omega)
theorem l_Sh_rootOf {sc : Option (Nat × Nat × (Nat → Int32))} {sa : Nat → Nat} {d : Nat} {M : mz_M} {z : Nat × Nat} {sh N : Nat} (w : g_Sh M.2.2 sh N) {c : Nat} (hc : M.1 sh 5 = nI c) (hC : c ≤ 12) {v0 c0 m : Int32} {row : Int64} : ∀ (k : Nat) (i : Nat) (a : Int32) (x0 : Value), i + k = c → rt row k a = m → zw sc sa (d + 1) ym_Sh_rootOf z (fun r' M' => r' = some (.int m) ∧ M' = M) 12 [.ref sh, .int v0, .int c0, .long row, .retAddr 0, .int a, .int (nI i), x0] [] M z := by
  intro k
  induction k with
  | zero =>
    intro i a x0 hi hm
    have e1 : i = c := by omega
    subst e1
    have e2 : a = m := hm
    subst e2
    refine z_iload (q := 14) rfl rfl rfl ?_
    refine z_aload_n (q := 15) rfl rfl rfl ?_
    refine z_getI (q := 18) rfl rfl rfl (Sh_k w) ?_
    refine z_ic_ge (q := 21) rfl rfl (fun h18 => ?_) (fun h18 => ?_)
    · refine z_iload (q := 51) rfl rfl rfl ?_
      refine z_ireti rfl rfl ?_
      exact ⟨rfl, rfl⟩
    · exact absurd (by rw [hc]; exact nI_le (Nat.le_refl _) (by omega)) h18
  | succ k ih =>
    intro i a x0 hi hm
    refine z_iload (q := 14) rfl rfl rfl ?_
    refine z_aload_n (q := 15) rfl rfl rfl ?_
    refine z_getI (q := 18) rfl rfl rfl (Sh_k w) ?_
    refine z_ic_ge (q := 21) rfl rfl (fun h18 => ?_) (fun h18 => ?_)
    · rw [hc] at h18
      exact absurd h18 (nI_ge (by omega) (by omega))
    · refine z_lload_n (q := 22) rfl rfl rfl ?_
      refine z_iload (q := 24) rfl rfl rfl ?_
      refine z_cs2i (q := 27) rfl rfl rfl (s_Sh_numberIn) ?_
      refine z_istore (q := 29) (L2 := [_, _, _, _, _, _, _, _]) rfl rfl rfl rfl ?_
      refine z_iload (q := 31) rfl rfl rfl ?_
      refine z_iload (q := 33) rfl rfl rfl ?_
      refine z_ic_ne (q := 36) rfl rfl (fun h33 => ?_) (fun h33 => ?_)
      · refine z_iload (q := 41) rfl rfl rfl ?_
        refine z_istore (q := 43) (L2 := [_, _, _, _, _, _, _, _]) rfl rfl rfl rfl ?_
        refine z_iinc (q := 46) (L2 := [_, _, _, _, _, _, _, _]) rfl rfl rfl rfl ?_
        refine z_goto rfl ?_
        rw [show nI i + Int32.ofInt 1 = nI (i + 1) from (nI_succ i).symm]
        unfold rt at hm
        rw [if_neg h33] at hm
        exact ih (i + 1) _ _ (by omega) hm
      · refine z_iload (q := 38) rfl rfl rfl ?_
        refine z_ireti rfl rfl ?_
        unfold rt at hm
        rw [if_pos h33] at hm
        rw [hm]
        exact ⟨rfl, rfl⟩
theorem s_Sh_rootOf {sc : Option (Nat × Nat × (Nat → Int32))} {sa : Nat → Nat} {d : Nat} {M : mz_M} {z : Nat × Nat} {sh N : Nat} (w : g_Sh M.2.2 sh N) {n : Nat} (hn : M.1 sh 8 = nI n) (hN : n ≤ N) (hM : N ≤ 200) {j : Nat} (hj : j < n) {c : Nat} (hc : M.1 sh 5 = nI c) (hC : c ≤ 12) {a : Int32} : zx sc sa (d + 3) 33 [.ref sh, .int (nI j), .int a] M z z (some (.int (rt (M.2.1 (sh + 1) j) c a))) M := by
  refine zxin ym_Sh_rootOf [.ref sh, .int (nI j), .int a, .retAddr 0, .retAddr 0, .retAddr 0, .retAddr 0, .retAddr 0] rfl rfl rfl rfl ?_
  refine z_aload_n (q := 1) rfl rfl rfl ?_
  refine z_iload_n (q := 2) rfl rfl rfl ?_
  refine z_cv1l (q := 5) rfl rfl rfl (Sh_k w) (s_Sh_rowOf w hn hN hM hj) ?_
  refine z_lstore_n (q := 6) (L2 := [_, _, _, _, _, _, _, _]) rfl rfl rfl rfl ?_
  refine z_iload_n (q := 7) rfl rfl rfl ?_
  refine z_istore (q := 9) (L2 := [_, _, _, _, _, _, _, _]) rfl rfl rfl rfl ?_
  refine z_iconst (q := 10) (v := 0) rfl rfl rfl ?_
  refine z_istore (q := 12) (L2 := [_, _, _, _, _, _, _, _]) rfl rfl rfl rfl ?_
  exact l_Sh_rootOf w hc hC c 0 a _ (by omega) rfl
theorem s_Sh_areJoined {sc : Option (Nat × Nat × (Nat → Int32))} {sa : Nat → Nat} {d : Nat} {M : mz_M} {z : Nat × Nat} {sh N : Nat} (w : g_Sh M.2.2 sh N) {n : Nat} (hn : M.1 sh 8 = nI n) (hN : n ≤ N) (hM : N ≤ 200) {j : Nat} (hj : j < n) {c : Nat} (hc : M.1 sh 5 = nI c) (hC : c ≤ 12) {a b : Int32} : zx sc sa (d + 4) 34 [.ref sh, .int (nI j), .int a, .int b] M z z (some (.int (bz (rt (M.2.1 (sh + 1) j) c a = rt (M.2.1 (sh + 1) j) c b)))) M := by
  refine zxin ym_Sh_areJoined [.ref sh, .int (nI j), .int a, .int b] rfl rfl rfl rfl ?_
  refine z_aload_n (q := 1) rfl rfl rfl ?_
  refine z_iload_n (q := 2) rfl rfl rfl ?_
  refine z_iload_n (q := 3) rfl rfl rfl ?_
  refine z_cv2i (q := 6) rfl rfl rfl (Sh_k w) (s_Sh_rootOf w hn hN hM hj hc hC) ?_
  refine z_aload_n (q := 7) rfl rfl rfl ?_
  refine z_iload_n (q := 8) rfl rfl rfl ?_
  refine z_iload_n (q := 9) rfl rfl rfl ?_
  refine z_cv2i (q := 12) rfl rfl rfl (Sh_k w) (s_Sh_rootOf w hn hN hM hj hc hC) ?_
  refine z_ic_ne (q := 15) rfl rfl (fun h12 => ?_) (fun h12 => ?_)
  · refine z_iconst (q := 20) (v := 0) rfl rfl rfl ?_
    refine z_iretz rfl rfl (rfl) ?_
    refine ⟨?_, rfl⟩
    unfold bz
    simp_all
  · refine z_iconst (q := 16) (v := 1) rfl rfl rfl ?_
    refine z_goto rfl ?_
    refine z_iretz rfl rfl (rfl) ?_
    refine ⟨?_, rfl⟩
    unfold bz
    simp_all
theorem l_Sh_rootBits {sc : Option (Nat × Nat × (Nat → Int32))} {sa : Nat → Nat} {d : Nat} {M : mz_M} {z : Nat × Nat} {sh N : Nat} (w : g_Sh M.2.2 sh N) {n : Nat} (hn : M.1 sh 8 = nI n) (hN : n ≤ N) (hM : N ≤ 200) {j : Nat} (hj : j < n) {c : Nat} (hc : M.1 sh 5 = nI c) (hC : c ≤ 12)  : ∀ (k : Nat) (i : Nat), i + k = c → zw sc sa (d + 3) ym_Sh_rootBits z (fun r' M' => r' = some (.int (fo (fun v acc => acc ||| (1 : Int32) <<< (rt (M.2.1 (sh + 1) j) c (nI v) &&& 31)) 0 c)) ∧ M' = M) 4 [.ref sh, .int (nI j), .int (fo (fun v acc => acc ||| (1 : Int32) <<< (rt (M.2.1 (sh + 1) j) c (nI v) &&& 31)) 0 i), .int (nI i)] [] M z := by
  intro k
  induction k with
  | zero =>
    intro i hi
    have e1 : i = c := by omega
    subst e1
    refine z_iload_n (q := 5) rfl rfl rfl ?_
    refine z_aload_n (q := 6) rfl rfl rfl ?_
    refine z_getI (q := 9) rfl rfl rfl (Sh_k w) ?_
    refine z_ic_ge (q := 12) rfl rfl (fun h9 => ?_) (fun h9 => ?_)
    · refine z_iload_n (q := 30) rfl rfl rfl ?_
      refine z_ireti rfl rfl ?_
      exact ⟨rfl, rfl⟩
    · exact absurd (by rw [hc]; exact nI_le (Nat.le_refl _) (by omega)) h9
  | succ k ih =>
    intro i hi
    refine z_iload_n (q := 5) rfl rfl rfl ?_
    refine z_aload_n (q := 6) rfl rfl rfl ?_
    refine z_getI (q := 9) rfl rfl rfl (Sh_k w) ?_
    refine z_ic_ge (q := 12) rfl rfl (fun h9 => ?_) (fun h9 => ?_)
    · rw [hc] at h9
      exact absurd h9 (nI_ge (by omega) (by omega))
    · refine z_iload_n (q := 13) rfl rfl rfl ?_
      refine z_iconst (q := 14) (v := 1) rfl rfl rfl ?_
      refine z_aload_n (q := 15) rfl rfl rfl ?_
      refine z_iload_n (q := 16) rfl rfl rfl ?_
      refine z_iload_n (q := 17) rfl rfl rfl ?_
      refine z_cv2i (q := 20) rfl rfl rfl (Sh_k w) (s_Sh_rootOf w hn hN hM hj hc hC) ?_
      refine z_ishl (q := 21) rfl rfl ?_
      refine z_ior (q := 22) rfl rfl ?_
      refine z_istore_n (q := 23) (L2 := [_, _, _, _]) rfl rfl rfl rfl ?_
      refine z_iinc (q := 26) (L2 := [_, _, _, _]) rfl rfl rfl rfl ?_
      refine z_goto rfl ?_
      rw [show nI i + Int32.ofInt 1 = nI (i + 1) from (nI_succ i).symm]
      have e9 := ih (i + 1) (by omega)
      first | exact e9
theorem s_Sh_rootBits {sc : Option (Nat × Nat × (Nat → Int32))} {sa : Nat → Nat} {d : Nat} {M : mz_M} {z : Nat × Nat} {sh N : Nat} (w : g_Sh M.2.2 sh N) {n : Nat} (hn : M.1 sh 8 = nI n) (hN : n ≤ N) (hM : N ≤ 200) {j : Nat} (hj : j < n) {c : Nat} (hc : M.1 sh 5 = nI c) (hC : c ≤ 12)  : zx sc sa (d + 4) 35 [.ref sh, .int (nI j)] M z z (some (.int (fo (fun v acc => acc ||| (1 : Int32) <<< (rt (M.2.1 (sh + 1) j) c (nI v) &&& 31)) 0 c))) M := by
  refine zxin ym_Sh_rootBits [.ref sh, .int (nI j), .retAddr 0, .retAddr 0] rfl rfl rfl rfl ?_
  refine z_iconst (q := 1) (v := 0) rfl rfl rfl ?_
  refine z_istore_n (q := 2) (L2 := [_, _, _, _]) rfl rfl rfl rfl ?_
  refine z_iconst (q := 3) (v := 0) rfl rfl rfl ?_
  refine z_istore_n (q := 4) (L2 := [_, _, _, _]) rfl rfl rfl rfl ?_
  exact l_Sh_rootBits w hn hN hM hj hc hC c 0 (by omega)
theorem l_Sh_cellsRootedAs {sc : Option (Nat × Nat × (Nat → Int32))} {sa : Nat → Nat} {d : Nat} {M : mz_M} {z : Nat × Nat} {sh N : Nat} (w : g_Sh M.2.2 sh N) {n : Nat} (hn : M.1 sh 8 = nI n) (hN : n ≤ N) (hM : N ≤ 200) {j : Nat} (hj : j < n) {c : Nat} (hc : M.1 sh 5 = nI c) (hC : c ≤ 12) {c0 r0 : Int32} : ∀ (k : Nat) (i : Nat), i + k = c → zw sc sa (d + 3) ym_Sh_cellsRootedAs z (fun r' M' => r' = some (.int (fo (fun v acc => if rt (M.2.1 (sh + 1) j) c (nI v) = r0 then acc ||| (1 : Int32) <<< (nI v &&& 31) else acc) 0 c)) ∧ M' = M) 13 [.ref sh, .int (nI j), .int c0, .int r0, .int (fo (fun v acc => if rt (M.2.1 (sh + 1) j) c (nI v) = r0 then acc ||| (1 : Int32) <<< (nI v &&& 31) else acc) 0 i), .int (nI i)] [] M z := by
  intro k
  induction k with
  | zero =>
    intro i hi
    have e1 : i = c := by omega
    subst e1
    refine z_iload (q := 15) rfl rfl rfl ?_
    refine z_aload_n (q := 16) rfl rfl rfl ?_
    refine z_getI (q := 19) rfl rfl rfl (Sh_k w) ?_
    refine z_ic_ge (q := 22) rfl rfl (fun h19 => ?_) (fun h19 => ?_)
    · refine z_iload (q := 50) rfl rfl rfl ?_
      refine z_ireti rfl rfl ?_
      exact ⟨rfl, rfl⟩
    · exact absurd (by rw [hc]; exact nI_le (Nat.le_refl _) (by omega)) h19
  | succ k ih =>
    intro i hi
    refine z_iload (q := 15) rfl rfl rfl ?_
    refine z_aload_n (q := 16) rfl rfl rfl ?_
    refine z_getI (q := 19) rfl rfl rfl (Sh_k w) ?_
    refine z_ic_ge (q := 22) rfl rfl (fun h19 => ?_) (fun h19 => ?_)
    · rw [hc] at h19
      exact absurd h19 (nI_ge (by omega) (by omega))
    · refine z_aload_n (q := 23) rfl rfl rfl ?_
      refine z_iload_n (q := 24) rfl rfl rfl ?_
      refine z_iload (q := 26) rfl rfl rfl ?_
      refine z_cv2i (q := 29) rfl rfl rfl (Sh_k w) (s_Sh_rootOf w hn hN hM hj hc hC) ?_
      refine z_iload_n (q := 30) rfl rfl rfl ?_
      refine z_ic_ne (q := 33) rfl rfl (fun h30 => ?_) (fun h30 => ?_)
      · refine z_iinc (q := 45) (L2 := [_, _, _, _, _, _]) rfl rfl rfl rfl ?_
        refine z_goto rfl ?_
        rw [show nI i + Int32.ofInt 1 = nI (i + 1) from (nI_succ i).symm]
        have e9 := ih (i + 1) (by omega)
        first | exact e9 | (simp only [fo, if_pos h30] at e9; exact e9) | (simp only [fo, if_neg h30] at e9; exact e9)
      · refine z_iload (q := 35) rfl rfl rfl ?_
        refine z_iconst (q := 36) (v := 1) rfl rfl rfl ?_
        refine z_iload (q := 38) rfl rfl rfl ?_
        refine z_ishl (q := 39) rfl rfl ?_
        refine z_ior (q := 40) rfl rfl ?_
        refine z_istore (q := 42) (L2 := [_, _, _, _, _, _]) rfl rfl rfl rfl ?_
        refine z_iinc (q := 45) (L2 := [_, _, _, _, _, _]) rfl rfl rfl rfl ?_
        refine z_goto rfl ?_
        rw [show nI i + Int32.ofInt 1 = nI (i + 1) from (nI_succ i).symm]
        have e9 := ih (i + 1) (by omega)
        first | exact e9 | (simp only [fo, if_pos h30] at e9; exact e9) | (simp only [fo, if_neg h30] at e9; exact e9)
theorem s_Sh_cellsRootedAs {sc : Option (Nat × Nat × (Nat → Int32))} {sa : Nat → Nat} {d : Nat} {M : mz_M} {z : Nat × Nat} {sh N : Nat} (w : g_Sh M.2.2 sh N) {n : Nat} (hn : M.1 sh 8 = nI n) (hN : n ≤ N) (hM : N ≤ 200) {j : Nat} (hj : j < n) {c : Nat} (hc : M.1 sh 5 = nI c) (hC : c ≤ 12) {a : Int32} : zx sc sa (d + 4) 36 [.ref sh, .int (nI j), .int a] M z z (some (.int (fo (fun v acc => if rt (M.2.1 (sh + 1) j) c (nI v) = rt (M.2.1 (sh + 1) j) c a then acc ||| (1 : Int32) <<< (nI v &&& 31) else acc) 0 c))) M := by
  refine zxin ym_Sh_cellsRootedAs [.ref sh, .int (nI j), .int a, .retAddr 0, .retAddr 0, .retAddr 0] rfl rfl rfl rfl ?_
  refine z_aload_n (q := 1) rfl rfl rfl ?_
  refine z_iload_n (q := 2) rfl rfl rfl ?_
  refine z_iload_n (q := 3) rfl rfl rfl ?_
  refine z_cv2i (q := 6) rfl rfl rfl (Sh_k w) (s_Sh_rootOf w hn hN hM hj hc hC) ?_
  refine z_istore_n (q := 7) (L2 := [_, _, _, _, _, _]) rfl rfl rfl rfl ?_
  refine z_iconst (q := 8) (v := 0) rfl rfl rfl ?_
  refine z_istore (q := 10) (L2 := [_, _, _, _, _, _]) rfl rfl rfl rfl ?_
  refine z_iconst (q := 11) (v := 0) rfl rfl rfl ?_
  refine z_istore (q := 13) (L2 := [_, _, _, _, _, _]) rfl rfl rfl rfl ?_
  exact l_Sh_cellsRootedAs w hn hN hM hj hc hC c 0 (by omega)
theorem s_Sh_makingOf {sc : Option (Nat × Nat × (Nat → Int32))} {sa : Nat → Nat} {d : Nat} {M : mz_M} {z : Nat × Nat} {sh N : Nat} (w : g_Sh M.2.2 sh N) {n : Nat} (hn : M.1 sh 8 = nI n) (hN : n ≤ N) (hM : N ≤ 200) {j : Nat} (hj : j < n) {q : Int32} : zx sc sa (d + 3) 27 [.ref sh, .int (nI j), .int q] M z z (some (.int (if M.1 (sh + 4) j = -1 then -1 else if q = 0 then M.1 (sh + 4) j else if q = 1 then M.1 (sh + 5) j else nmI (M.2.1 (sh + 1) j) (M.1 (sh + 5) j)))) M := by
  refine zxin ym_Sh_makingOf [.ref sh, .int (nI j), .int q] rfl rfl rfl rfl ?_
  refine z_aload_n (q := 1) rfl rfl rfl ?_
  refine z_iload_n (q := 2) rfl rfl rfl ?_
  refine z_cv1i (q := 5) rfl rfl rfl (Sh_k w) (s_Sh_has1 w hn hN hM hj) ?_
  refine z_if_eq (q := 8) rfl rfl (fun h5 => ?_) (fun h5 => ?_)
  · exact absurd h5 (by decide)
  · refine z_aload_n (q := 9) rfl rfl rfl ?_
    refine z_getR (q := 12) rfl rfl rfl (Sh_k w) (Sh_r3 w) ?_
    refine z_iload_n (q := 13) rfl rfl rfl ?_
    refine z_iald (q := 14) rfl rfl (Sh_a3 w) (by first | assumption | exact vp_in_nI (by omega) (by omega)) ?_
    refine z_iconst (q := 15) (v := -1) rfl rfl rfl ?_
    refine z_ic_ne (q := 18) rfl rfl (fun h15 => ?_) (fun h15 => ?_)
    · refine z_iload_n (q := 21) rfl rfl rfl ?_
      refine z_if_ne (q := 24) rfl rfl (fun h21 => ?_) (fun h21 => ?_)
      · refine z_iload_n (q := 32) rfl rfl rfl ?_
        refine z_iconst (q := 33) (v := 1) rfl rfl rfl ?_
        refine z_ic_ne (q := 36) rfl rfl (fun h33 => ?_) (fun h33 => ?_)
        · refine z_aload_n (q := 46) rfl rfl rfl ?_
          refine z_iload_n (q := 47) rfl rfl rfl ?_
          refine z_aload_n (q := 48) rfl rfl rfl ?_
          refine z_getR (q := 51) rfl rfl rfl (Sh_k w) (Sh_r4 w) ?_
          refine z_iload_n (q := 52) rfl rfl rfl ?_
          refine z_iald (q := 53) rfl rfl (Sh_a4 w) (by first | assumption | exact vp_in_nI (by omega) (by omega)) ?_
          refine z_cv2i (q := 56) rfl rfl rfl (Sh_k w) (s_Sh_numberAt w hn hN hM hj) ?_
          refine z_ireti rfl rfl ?_
          rw [nI_clamp (by omega)] at h15
          refine ⟨?_, rfl⟩
          simp_all [nI_clamp (show j < 2 ^ 31 by omega)]
        · refine z_aload_n (q := 37) rfl rfl rfl ?_
          refine z_getR (q := 40) rfl rfl rfl (Sh_k w) (Sh_r4 w) ?_
          refine z_iload_n (q := 41) rfl rfl rfl ?_
          refine z_iald (q := 42) rfl rfl (Sh_a4 w) (by first | assumption | exact vp_in_nI (by omega) (by omega)) ?_
          refine z_goto rfl ?_
          refine z_ireti rfl rfl ?_
          rw [nI_clamp (by omega)] at h15
          refine ⟨?_, rfl⟩
          simp_all [nI_clamp (show j < 2 ^ 31 by omega)]
      · refine z_aload_n (q := 25) rfl rfl rfl ?_
        refine z_getR (q := 28) rfl rfl rfl (Sh_k w) (Sh_r3 w) ?_
        refine z_iload_n (q := 29) rfl rfl rfl ?_
        refine z_iald (q := 30) rfl rfl (Sh_a3 w) (by first | assumption | exact vp_in_nI (by omega) (by omega)) ?_
        refine z_ireti rfl rfl ?_
        rw [nI_clamp (by omega)] at h15
        refine ⟨?_, rfl⟩
        simp_all [nI_clamp (show j < 2 ^ 31 by omega)]
    · refine z_iconst (q := 19) (v := -1) rfl rfl rfl ?_
      refine z_ireti rfl rfl ?_
      rw [nI_clamp (by omega)] at h15
      refine ⟨?_, rfl⟩
      simp_all [nI_clamp (show j < 2 ^ 31 by omega)]
theorem s_Sh_linkOf {sc : Option (Nat × Nat × (Nat → Int32))} {sa : Nat → Nat} {d : Nat} {M : mz_M} {z : Nat × Nat} {sh N : Nat} (w : g_Sh M.2.2 sh N) {n : Nat} (hn : M.1 sh 8 = nI n) (hN : n ≤ N) (hM : N ≤ 200) {j : Nat} (hj : j < n) {q : Int32} : zx sc sa (d + 3) 38 [.ref sh, .int (nI j), .int q] M z z (some (.int (if q = 0 then bz (M.1 (sh + 2) j = -1) else if M.1 (sh + 2) j = -1 then -1 else if q = 1 then M.1 (sh + 2) j else if q = 2 then M.1 (sh + 3) j else nmI (M.2.1 (sh + 1) j) (M.1 (sh + 3) j)))) M := by
  refine zxin ym_Sh_linkOf [.ref sh, .int (nI j), .int q] rfl rfl rfl rfl ?_
  refine z_iload_n (q := 1) rfl rfl rfl ?_
  refine z_if_ne (q := 4) rfl rfl (fun h1 => ?_) (fun h1 => ?_)
  · refine z_aload_n (q := 19) rfl rfl rfl ?_
    refine z_iload_n (q := 20) rfl rfl rfl ?_
    refine z_cv1i (q := 23) rfl rfl rfl (Sh_k w) (s_Sh_has1 w hn hN hM hj) ?_
    refine z_if_eq (q := 26) rfl rfl (fun h23 => ?_) (fun h23 => ?_)
    · exact absurd h23 (by decide)
    · refine z_aload_n (q := 27) rfl rfl rfl ?_
      refine z_iload_n (q := 28) rfl rfl rfl ?_
      refine z_cv1i (q := 31) rfl rfl rfl (Sh_k w) (s_Sh_isDirect w hn hN hM hj) ?_
      refine z_if_eq (q := 34) rfl rfl (fun h31 => ?_) (fun h31 => ?_)
      · refine z_iload_n (q := 37) rfl rfl rfl ?_
        refine z_iconst (q := 38) (v := 1) rfl rfl rfl ?_
        refine z_ic_ne (q := 41) rfl rfl (fun h38 => ?_) (fun h38 => ?_)
        · refine z_iload_n (q := 49) rfl rfl rfl ?_
          refine z_iconst (q := 50) (v := 2) rfl rfl rfl ?_
          refine z_ic_ne (q := 53) rfl rfl (fun h50 => ?_) (fun h50 => ?_)
          · refine z_aload_n (q := 63) rfl rfl rfl ?_
            refine z_iload_n (q := 64) rfl rfl rfl ?_
            refine z_aload_n (q := 65) rfl rfl rfl ?_
            refine z_getR (q := 68) rfl rfl rfl (Sh_k w) (Sh_r2 w) ?_
            refine z_iload_n (q := 69) rfl rfl rfl ?_
            refine z_iald (q := 70) rfl rfl (Sh_a2 w) (by first | assumption | exact vp_in_nI (by omega) (by omega)) ?_
            refine z_cv2i (q := 73) rfl rfl rfl (Sh_k w) (s_Sh_numberAt w hn hN hM hj) ?_
            refine z_ireti rfl rfl ?_
            refine ⟨?_, rfl⟩
            simp_all [nI_clamp (show j < 2 ^ 31 by omega), bz]
          · refine z_aload_n (q := 54) rfl rfl rfl ?_
            refine z_getR (q := 57) rfl rfl rfl (Sh_k w) (Sh_r2 w) ?_
            refine z_iload_n (q := 58) rfl rfl rfl ?_
            refine z_iald (q := 59) rfl rfl (Sh_a2 w) (by first | assumption | exact vp_in_nI (by omega) (by omega)) ?_
            refine z_goto rfl ?_
            refine z_ireti rfl rfl ?_
            refine ⟨?_, rfl⟩
            simp_all [nI_clamp (show j < 2 ^ 31 by omega), bz]
        · refine z_aload_n (q := 42) rfl rfl rfl ?_
          refine z_getR (q := 45) rfl rfl rfl (Sh_k w) (Sh_r1 w) ?_
          refine z_iload_n (q := 46) rfl rfl rfl ?_
          refine z_iald (q := 47) rfl rfl (Sh_a1 w) (by first | assumption | exact vp_in_nI (by omega) (by omega)) ?_
          refine z_ireti rfl rfl ?_
          refine ⟨?_, rfl⟩
          simp_all [nI_clamp (show j < 2 ^ 31 by omega), bz]
      · refine z_iconst (q := 35) (v := -1) rfl rfl rfl ?_
        refine z_ireti rfl rfl ?_
        refine ⟨?_, rfl⟩
        simp_all [nI_clamp (show j < 2 ^ 31 by omega), bz]
  · refine z_aload_n (q := 5) rfl rfl rfl ?_
    refine z_iload_n (q := 6) rfl rfl rfl ?_
    refine z_cv1i (q := 9) rfl rfl rfl (Sh_k w) (s_Sh_isDirect w hn hN hM hj) ?_
    refine z_if_eq (q := 12) rfl rfl (fun h9 => ?_) (fun h9 => ?_)
    · refine z_iconst (q := 17) (v := 0) rfl rfl rfl ?_
      refine z_ireti rfl rfl ?_
      refine ⟨?_, rfl⟩
      simp_all [nI_clamp (show j < 2 ^ 31 by omega), bz]
    · refine z_iconst (q := 13) (v := 1) rfl rfl rfl ?_
      refine z_goto rfl ?_
      refine z_ireti rfl rfl ?_
      refine ⟨?_, rfl⟩
      simp_all [nI_clamp (show j < 2 ^ 31 by omega), bz]
end
section
theorem okv_in {n N : Nat} {a : Int32} (h : okv n a) (h1 : ¬ a = -1) (hN : n ≤ N) (hM : N < 2 ^ 31) : vp_in a N := by
  rcases h with h | ⟨u, hu, rfl⟩
  · exact absurd h h1
  · exact vp_in_nI (by omega) hM
theorem okv_f {f : Nat → Int32} {n : Nat} {a : Int32} (hf : okl f n) (h : okv n a) (h1 : ¬ a = -1) (hM : n < 2 ^ 31) : okv n (f a.toNatClampNeg) := by
  rcases h with h | ⟨u, hu, rfl⟩
  · exact absurd h h1
  · rw [nI_clamp (by omega)]
    exact hf u hu
theorem s_Sh_hasV {sc : Option (Nat × Nat × (Nat → Int32))} {sa : Nat → Nat} {d : Nat} {M : mz_M} {z : Nat × Nat} {sh N : Nat} (w : g_Sh M.2.2 sh N) {n : Nat} (hn : M.1 sh 8 = nI n) (hN : n ≤ N) (hM : N ≤ 200) {a : Int32} (ha : okv n a) : zx sc sa (d + 1) 19 [.ref sh, .int a] M z z (some (.int (bz (¬ a = -1)))) M := by
  rcases ha with rfl | ⟨u, hu, rfl⟩
  · rw [bz_f (by decide)]
    exact s_Sh_hasM w
  · rw [bz_t (nI_m1 (by omega))]
    exact s_Sh_has1 w hn hN hM hu
theorem s_Sh_parentV {sc : Option (Nat × Nat × (Nat → Int32))} {sa : Nat → Nat} {d : Nat} {M : mz_M} {z : Nat × Nat} {sh N : Nat} (w : g_Sh M.2.2 sh N) {n : Nat} (hn : M.1 sh 8 = nI n) (hN : n ≤ N) (hM : N ≤ 200) {a : Int32} (ha : okv n a) (h1 : ¬ a = -1) : zx sc sa (d + 2) 28 [.ref sh, .int a] M z z (some (.int (M.1 (sh + 4) a.toNatClampNeg))) M := by
  rcases ha with rfl | ⟨u, hu, rfl⟩
  · exact absurd rfl h1
  · rw [nI_clamp (by omega)]
    exact s_Sh_parentOf w hn hN hM hu
theorem lg_0 (x y : Int64) : lg_cmp x y = 0 ↔ x = y := by
  unfold lg_cmp
  by_cases h : x = y
  · subst h
    simp
  · by_cases h2 : x > y
    · simp [h, h2]
    · simp [h, h2]
def dp (f : Nat → Int32) : Nat → Int32 → Nat
  | 0, _ => 0
  | k + 1, a => if a = -1 then 0 else dp f k (f a.toNatClampNeg) + 1
def fi (r : Nat → Int64) (row : Int64) : Nat → Nat → Nat
  | 0, i => i
  | k + 1, i => if r i = row then i else fi r row k (i + 1)
def wbI (f : Nat → Int32) : Nat → Int32 → Int64 → Int64
  | 0, _, b => b
  | k + 1, a, b => if a = -1 then b else wbI f k (f a.toNatClampNeg) (b ||| 1 <<< (a.toInt64 &&& 63))
def la (f g : Nat → Int32) (cell : Int32) : Nat → Nat → Nat
  | 0, _ => 0
  | k + 1, u => if f u = -1 then 0 else if g u = cell then 0 else la f g cell k (f u).toNatClampNeg + 1
theorem uI_ne {M : mz_M} {a b k : Nat} {x : Int32} (h : b ≠ a) : (mz_uI M a k x).1 b = M.1 b := by
  simp [mz_uI, va_up, h]
theorem uI_bk {M : mz_M} {a k : Nat} {x : Int32} : mz_uI (mz_uI M a k x) a k (M.1 a k) = M := by
  obtain ⟨A, B⟩ := M
  unfold mz_uI
  simp only [Prod.mk.injEq, and_true]
  funext b
  by_cases h : b = a
  · subst h
    simp only [va_up, if_true]
    funext c
    by_cases h2 : c = k
    · simp [va_up, h2]
    · simp [va_up, h2]
  · simp [va_up, h]
theorem l_Sh_depthOf {sc : Option (Nat × Nat × (Nat → Int32))} {sa : Nat → Nat} {d : Nat} {M : mz_M} {z : Nat × Nat} {sh N : Nat} (w : g_Sh M.2.2 sh N) {n : Nat} (hn : M.1 sh 8 = nI n) (hN : n ≤ N) (hM : N ≤ 200) (ho : okl (M.1 (sh + 4)) n) {v0 : Int32} {m : Nat} : ∀ (k : Nat) (i : Nat) (a : Int32), i + k = n → okv n a → i + dp (M.1 (sh + 4)) k a = m → zw sc sa (d + 2) ym_Sh_depthOf z (fun r' M' => r' = some (.int (nI m)) ∧ M' = M) 8 [.ref sh, .int v0, .int (nI i), .int a] [] M z := by
  intro k
  induction k with
  | zero =>
    intro i a hi ha hm
    have e1 : i = n := by omega
    subst e1
    have e2 : i = m := hm
    subst e2
    refine z_iload_n (q := 9) rfl rfl rfl ?_
    refine z_iconst (q := 10) (v := -1) rfl rfl rfl ?_
    refine z_ic_eq (q := 13) rfl rfl (fun h10 => ?_) (fun h10 => ?_)
    · refine z_iload_n (q := 34) rfl rfl rfl ?_
      refine z_ireti rfl rfl ?_
      exact ⟨rfl, rfl⟩
    · refine z_iload_n (q := 14) rfl rfl rfl ?_
      refine z_aload_n (q := 15) rfl rfl rfl ?_
      refine z_getI (q := 18) rfl rfl rfl (Sh_k w) ?_
      refine z_ic_ge (q := 21) rfl rfl (fun h18 => ?_) (fun h18 => ?_)
      · refine z_iload_n (q := 34) rfl rfl rfl ?_
        refine z_ireti rfl rfl ?_
        exact ⟨rfl, rfl⟩
      · exact absurd (by rw [hn]; exact nI_le (Nat.le_refl _) (by omega)) h18
  | succ k ih =>
    intro i a hi ha hm
    refine z_iload_n (q := 9) rfl rfl rfl ?_
    refine z_iconst (q := 10) (v := -1) rfl rfl rfl ?_
    refine z_ic_eq (q := 13) rfl rfl (fun h10 => ?_) (fun h10 => ?_)
    · refine z_iload_n (q := 34) rfl rfl rfl ?_
      refine z_ireti rfl rfl ?_
      unfold dp at hm
      rw [if_pos h10] at hm
      have e2 : i = m := hm
      subst e2
      exact ⟨rfl, rfl⟩
    · refine z_iload_n (q := 14) rfl rfl rfl ?_
      refine z_aload_n (q := 15) rfl rfl rfl ?_
      refine z_getI (q := 18) rfl rfl rfl (Sh_k w) ?_
      refine z_ic_ge (q := 21) rfl rfl (fun h18 => ?_) (fun h18 => ?_)
      · rw [hn] at h18
        exact absurd h18 (nI_ge (by omega) (by omega))
      · refine z_iinc (q := 24) (L2 := [_, _, _, _]) rfl rfl rfl rfl ?_
        refine z_aload_n (q := 25) rfl rfl rfl ?_
        refine z_iload_n (q := 26) rfl rfl rfl ?_
        refine z_cv1i (q := 29) rfl rfl rfl (Sh_k w) (s_Sh_parentV w hn hN hM ha h10) ?_
        refine z_istore_n (q := 30) (L2 := [_, _, _, _]) rfl rfl rfl rfl ?_
        refine z_goto rfl ?_
        rw [show nI i + Int32.ofInt 1 = nI (i + 1) from (nI_succ i).symm]
        refine ih (i + 1) _ (by omega) (okv_f ho ha h10 (by omega)) ?_
        unfold dp at hm
        rw [if_neg h10] at hm
        omega
theorem s_Sh_depthOf {sc : Option (Nat × Nat × (Nat → Int32))} {sa : Nat → Nat} {d : Nat} {M : mz_M} {z : Nat × Nat} {sh N : Nat} (w : g_Sh M.2.2 sh N) {n : Nat} (hn : M.1 sh 8 = nI n) (hN : n ≤ N) (hM : N ≤ 200) {j : Nat} (hj : j < n) (ho : okl (M.1 (sh + 4)) n)  : zx sc sa (d + 3) 29 [.ref sh, .int (nI j)] M z z (some (.int (nI (dp (M.1 (sh + 4)) n (M.1 (sh + 4) j))))) M := by
  refine zxin ym_Sh_depthOf [.ref sh, .int (nI j), .retAddr 0, .retAddr 0] rfl rfl rfl rfl ?_
  refine z_iconst (q := 1) (v := 0) rfl rfl rfl ?_
  refine z_istore_n (q := 2) (L2 := [_, _, _, _]) rfl rfl rfl rfl ?_
  refine z_aload_n (q := 3) rfl rfl rfl ?_
  refine z_iload_n (q := 4) rfl rfl rfl ?_
  refine z_cv1i (q := 7) rfl rfl rfl (Sh_k w) (s_Sh_parentOf w hn hN hM hj) ?_
  refine z_istore_n (q := 8) (L2 := [_, _, _, _]) rfl rfl rfl rfl ?_
  exact l_Sh_depthOf w hn hN hM ho n 0 _ (by omega) (ho j hj) (by omega)
theorem l_Sh_meeting {sc : Option (Nat × Nat × (Nat → Int32))} {sa : Nat → Nat} {d : Nat} {M : mz_M} {z : Nat × Nat} {sh N : Nat} (w : g_Sh M.2.2 sh N) {n : Nat} (hn : M.1 sh 8 = nI n) (hN : n ≤ N) (hM : N ≤ 200) (ho : okm (M.1 (sh + 4)) n) {v0 v1 : Int32} {m : Nat} : ∀ (k : Nat) (i a b : Nat), i + k = 2 * n → a < n → b < n → mtN (M.1 (sh + 4)) k a b = m → zw sc sa (d + 2) ym_Sh_meeting z (fun r' M' => r' = some (.int (nI m)) ∧ M' = M) 8 [.ref sh, .int v0, .int v1, .int (nI a), .int (nI b), .int (nI i)] [] M z := by
  intro k
  induction k with
  | zero =>
    intro i a b hi ha hb hm
    have e1 : i = 2 * n := by omega
    subst e1
    have e2 : a = m := hm
    subst e2
    have e3 : (2 : Int32) * nI n = nI (2 * n) := pk_mul 2 n
    refine z_iload (q := 10) rfl rfl rfl ?_
    refine z_iconst (q := 11) (v := 2) rfl rfl rfl ?_
    refine z_aload_n (q := 12) rfl rfl rfl ?_
    refine z_getI (q := 15) rfl rfl rfl (Sh_k w) ?_
    refine z_imul (q := 16) rfl rfl ?_
    refine z_ic_ge (q := 19) rfl rfl (fun h16 => ?_) (fun h16 => ?_)
    · refine z_iload_n (q := 55) rfl rfl rfl ?_
      refine z_ireti rfl rfl ?_
      exact ⟨rfl, rfl⟩
    · exact absurd (by rw [hn, e3]; exact nI_le (Nat.le_refl _) (by omega)) h16
  | succ k ih =>
    intro i a b hi ha hb hm
    have e3 : (2 : Int32) * nI n = nI (2 * n) := pk_mul 2 n
    refine z_iload (q := 10) rfl rfl rfl ?_
    refine z_iconst (q := 11) (v := 2) rfl rfl rfl ?_
    refine z_aload_n (q := 12) rfl rfl rfl ?_
    refine z_getI (q := 15) rfl rfl rfl (Sh_k w) ?_
    refine z_imul (q := 16) rfl rfl ?_
    refine z_ic_ge (q := 19) rfl rfl (fun h16 => ?_) (fun h16 => ?_)
    · rw [hn, e3] at h16
      exact absurd h16 (nI_ge (by omega) (by omega))
    · refine z_iload_n (q := 20) rfl rfl rfl ?_
      refine z_iload (q := 22) rfl rfl rfl ?_
      refine z_ic_eq (q := 25) rfl rfl (fun h22 => ?_) (fun h22 => ?_)
      · refine z_iload_n (q := 55) rfl rfl rfl ?_
        refine z_ireti rfl rfl ?_
        rw [nI_eq (by omega) (by omega)] at h22
        unfold mtN at hm
        rw [if_pos h22] at hm
        subst hm
        exact ⟨rfl, rfl⟩
      · refine z_iload_n (q := 26) rfl rfl rfl ?_
        refine z_iload (q := 28) rfl rfl rfl ?_
        refine z_ic_le (q := 31) rfl rfl (fun h28 => ?_) (fun h28 => ?_)
        · refine z_aload_n (q := 41) rfl rfl rfl ?_
          refine z_iload (q := 43) rfl rfl rfl ?_
          refine z_cv1i (q := 46) rfl rfl rfl (Sh_k w) (s_Sh_parentOf w hn hN hM hb) ?_
          refine z_istore (q := 48) (L2 := [_, _, _, _, _, _]) rfl rfl rfl rfl ?_
          refine z_iinc (q := 51) (L2 := [_, _, _, _, _, _]) rfl rfl rfl rfl ?_
          refine z_goto rfl ?_
          rw [show nI i + Int32.ofInt 1 = nI (i + 1) from (nI_succ i).symm]
          rw [nI_eq (by omega) (by omega)] at h22
          rw [nI_leI (by omega) (by omega)] at h28
          unfold mtN at hm
          rw [if_neg h22] at hm
          first
            | (obtain ⟨u, hu, e⟩ := ho.2 a (by omega) ha
               rw [if_pos (by omega), e, nI_clamp (by omega)] at hm
               rw [e]
               exact ih (i + 1) u b (by omega) (by omega) hb hm)
            | (obtain ⟨u, hu, e⟩ := ho.2 b (by omega) hb
               rw [if_neg (by omega), e, nI_clamp (by omega)] at hm
               rw [e]
               exact ih (i + 1) a u (by omega) ha (by omega) hm)
        · refine z_aload_n (q := 32) rfl rfl rfl ?_
          refine z_iload_n (q := 33) rfl rfl rfl ?_
          refine z_cv1i (q := 36) rfl rfl rfl (Sh_k w) (s_Sh_parentOf w hn hN hM ha) ?_
          refine z_istore_n (q := 37) (L2 := [_, _, _, _, _, _]) rfl rfl rfl rfl ?_
          refine z_goto rfl ?_
          refine z_iinc (q := 51) (L2 := [_, _, _, _, _, _]) rfl rfl rfl rfl ?_
          refine z_goto rfl ?_
          rw [show nI i + Int32.ofInt 1 = nI (i + 1) from (nI_succ i).symm]
          rw [nI_eq (by omega) (by omega)] at h22
          rw [nI_leI (by omega) (by omega)] at h28
          unfold mtN at hm
          rw [if_neg h22] at hm
          first
            | (obtain ⟨u, hu, e⟩ := ho.2 a (by omega) ha
               rw [if_pos (by omega), e, nI_clamp (by omega)] at hm
               rw [e]
               exact ih (i + 1) u b (by omega) (by omega) hb hm)
            | (obtain ⟨u, hu, e⟩ := ho.2 b (by omega) hb
               rw [if_neg (by omega), e, nI_clamp (by omega)] at hm
               rw [e]
               exact ih (i + 1) a u (by omega) ha (by omega) hm)
theorem s_Sh_meeting {sc : Option (Nat × Nat × (Nat → Int32))} {sa : Nat → Nat} {d : Nat} {M : mz_M} {z : Nat × Nat} {sh N : Nat} (w : g_Sh M.2.2 sh N) {n : Nat} (hn : M.1 sh 8 = nI n) (hN : n ≤ N) (hM : N ≤ 200) {j : Nat} (hj : j < n) {l : Nat} (hl : l < n) (ho : okm (M.1 (sh + 4)) n) : zx sc sa (d + 3) 30 [.ref sh, .int (nI j), .int (nI l)] M z z (some (.int (nI (mtN (M.1 (sh + 4)) (2 * n) j l)))) M := by
  refine zxin ym_Sh_meeting [.ref sh, .int (nI j), .int (nI l), .retAddr 0, .retAddr 0, .retAddr 0] rfl rfl rfl rfl ?_
  refine z_iload_n (q := 1) rfl rfl rfl ?_
  refine z_istore_n (q := 2) (L2 := [_, _, _, _, _, _]) rfl rfl rfl rfl ?_
  refine z_iload_n (q := 3) rfl rfl rfl ?_
  refine z_istore (q := 5) (L2 := [_, _, _, _, _, _]) rfl rfl rfl rfl ?_
  refine z_iconst (q := 6) (v := 0) rfl rfl rfl ?_
  refine z_istore (q := 8) (L2 := [_, _, _, _, _, _]) rfl rfl rfl rfl ?_
  exact l_Sh_meeting w hn hN hM ho (2 * n) 0 j l (by omega) hj hl rfl
theorem l_Sh_lastSetter {sc : Option (Nat × Nat × (Nat → Int32))} {sa : Nat → Nat} {d : Nat} {M : mz_M} {z : Nat × Nat} {sh N : Nat} (w : g_Sh M.2.2 sh N) {n : Nat} (hn : M.1 sh 8 = nI n) (hN : n ≤ N) (hM : N ≤ 200) (ho : okl (M.1 (sh + 4)) n) {v0 cell m : Int32} : ∀ (k : Nat) (i : Nat) (a : Int32), i + k = n → okv n a → lsI (M.1 (sh + 4)) (M.1 (sh + 5)) cell k a = m → zw sc sa (d + 1) ym_Sh_lastSetter z (fun r' M' => r' = some (.int m) ∧ M' = M) 5 [.ref sh, .int v0, .int cell, .int a, .int (nI i)] [] M z := by
  intro k
  induction k with
  | zero =>
    intro i a hi ha hm
    have e1 : i = n := by omega
    subst e1
    have e2 : 0 = m := hm
    subst e2
    refine z_iload (q := 7) rfl rfl rfl ?_
    refine z_aload_n (q := 8) rfl rfl rfl ?_
    refine z_getI (q := 11) rfl rfl rfl (Sh_k w) ?_
    refine z_ic_ge (q := 14) rfl rfl (fun h11 => ?_) (fun h11 => ?_)
    · refine z_iconst (q := 48) (v := 0) rfl rfl rfl ?_
      refine z_ireti rfl rfl ?_
      exact ⟨rfl, rfl⟩
    · exact absurd (by rw [hn]; exact nI_le (Nat.le_refl _) (by omega)) h11
  | succ k ih =>
    intro i a hi ha hm
    refine z_iload (q := 7) rfl rfl rfl ?_
    refine z_aload_n (q := 8) rfl rfl rfl ?_
    refine z_getI (q := 11) rfl rfl rfl (Sh_k w) ?_
    refine z_ic_ge (q := 14) rfl rfl (fun h11 => ?_) (fun h11 => ?_)
    · rw [hn] at h11
      exact absurd h11 (nI_ge (by omega) (by omega))
    · refine z_aload_n (q := 15) rfl rfl rfl ?_
      refine z_iload_n (q := 16) rfl rfl rfl ?_
      refine z_cv1i (q := 19) rfl rfl rfl (Sh_k w) (s_Sh_hasV w hn hN hM ha) ?_
      refine z_if_eq (q := 22) rfl rfl (fun h19 => ?_) (fun h19 => ?_)
      · refine z_iconst (q := 48) (v := 0) rfl rfl rfl ?_
        refine z_ireti rfl rfl ?_
        have h9 : a = -1 := Decidable.not_not.mp (bz_0.mp h19)
        unfold lsI at hm
        rw [if_pos h9] at hm
        rw [← hm]
        exact ⟨rfl, rfl⟩
      · refine z_aload_n (q := 23) rfl rfl rfl ?_
        refine z_getR (q := 26) rfl rfl rfl (Sh_k w) (Sh_r4 w) ?_
        refine z_iload_n (q := 27) rfl rfl rfl ?_
        refine z_iald (q := 28) rfl rfl (Sh_a4 w) (okv_in ha (bz_n.mp h19) hN (by omega)) ?_
        refine z_iload_n (q := 29) rfl rfl rfl ?_
        refine z_ic_ne (q := 32) rfl rfl (fun h29 => ?_) (fun h29 => ?_)
        · refine z_aload_n (q := 35) rfl rfl rfl ?_
          refine z_getR (q := 38) rfl rfl rfl (Sh_k w) (Sh_r3 w) ?_
          refine z_iload_n (q := 39) rfl rfl rfl ?_
          refine z_iald (q := 40) rfl rfl (Sh_a3 w) (okv_in ha (bz_n.mp h19) hN (by omega)) ?_
          refine z_istore_n (q := 41) (L2 := [_, _, _, _, _]) rfl rfl rfl rfl ?_
          refine z_iinc (q := 44) (L2 := [_, _, _, _, _]) rfl rfl rfl rfl ?_
          refine z_goto rfl ?_
          rw [show nI i + Int32.ofInt 1 = nI (i + 1) from (nI_succ i).symm]
          have h9 := bz_n.mp h19
          refine ih (i + 1) _ (by omega) (okv_f ho ha h9 (by omega)) ?_
          unfold lsI at hm
          rw [if_neg h9, if_neg h29] at hm
          exact hm
        · refine z_iload_n (q := 33) rfl rfl rfl ?_
          refine z_ireti rfl rfl ?_
          have h9 := bz_n.mp h19
          unfold lsI at hm
          rw [if_neg h9, if_pos h29] at hm
          rw [hm]
          exact ⟨rfl, rfl⟩
theorem s_Sh_lastSetter {sc : Option (Nat × Nat × (Nat → Int32))} {sa : Nat → Nat} {d : Nat} {M : mz_M} {z : Nat × Nat} {sh N : Nat} (w : g_Sh M.2.2 sh N) {n : Nat} (hn : M.1 sh 8 = nI n) (hN : n ≤ N) (hM : N ≤ 200) {j : Nat} (hj : j < n) (ho : okl (M.1 (sh + 4)) n) {cell : Int32} : zx sc sa (d + 2) 31 [.ref sh, .int (nI j), .int cell] M z z (some (.int (lsI (M.1 (sh + 4)) (M.1 (sh + 5)) cell n (nI j)))) M := by
  refine zxin ym_Sh_lastSetter [.ref sh, .int (nI j), .int cell, .retAddr 0, .retAddr 0] rfl rfl rfl rfl ?_
  refine z_iload_n (q := 1) rfl rfl rfl ?_
  refine z_istore_n (q := 2) (L2 := [_, _, _, _, _]) rfl rfl rfl rfl ?_
  refine z_iconst (q := 3) (v := 0) rfl rfl rfl ?_
  refine z_istore (q := 5) (L2 := [_, _, _, _, _]) rfl rfl rfl rfl ?_
  exact l_Sh_lastSetter w hn hN hM ho n 0 _ (by omega) (Or.inr ⟨j, hj, rfl⟩) rfl
theorem l_Sh_timesSet {sc : Option (Nat × Nat × (Nat → Int32))} {sa : Nat → Nat} {d : Nat} {M : mz_M} {z : Nat × Nat} {sh N : Nat} (w : g_Sh M.2.2 sh N) {n : Nat} (hn : M.1 sh 8 = nI n) (hN : n ≤ N) (hM : N ≤ 200) (ho : okl (M.1 (sh + 4)) n) {v0 cell m : Int32} : ∀ (k : Nat) (i : Nat) (a t : Int32), i + k = n → okv n a → tsI (M.1 (sh + 4)) (M.1 (sh + 5)) cell k a t = m → zw sc sa (d + 1) ym_Sh_timesSet z (fun r' M' => r' = some (.int m) ∧ M' = M) 8 [.ref sh, .int v0, .int cell, .int t, .int a, .int (nI i)] [] M z := by
  intro k
  induction k with
  | zero =>
    intro i a t hi ha hm
    have e1 : i = n := by omega
    subst e1
    have e2 : t = m := hm
    subst e2
    refine z_iload (q := 10) rfl rfl rfl ?_
    refine z_aload_n (q := 11) rfl rfl rfl ?_
    refine z_getI (q := 14) rfl rfl rfl (Sh_k w) ?_
    refine z_ic_ge (q := 17) rfl rfl (fun h14 => ?_) (fun h14 => ?_)
    · refine z_iload_n (q := 56) rfl rfl rfl ?_
      refine z_ireti rfl rfl ?_
      exact ⟨rfl, rfl⟩
    · exact absurd (by rw [hn]; exact nI_le (Nat.le_refl _) (by omega)) h14
  | succ k ih =>
    intro i a t hi ha hm
    refine z_iload (q := 10) rfl rfl rfl ?_
    refine z_aload_n (q := 11) rfl rfl rfl ?_
    refine z_getI (q := 14) rfl rfl rfl (Sh_k w) ?_
    refine z_ic_ge (q := 17) rfl rfl (fun h14 => ?_) (fun h14 => ?_)
    · rw [hn] at h14
      exact absurd h14 (nI_ge (by omega) (by omega))
    · refine z_aload_n (q := 18) rfl rfl rfl ?_
      refine z_iload (q := 20) rfl rfl rfl ?_
      refine z_cv1i (q := 23) rfl rfl rfl (Sh_k w) (s_Sh_hasV w hn hN hM ha) ?_
      refine z_if_eq (q := 26) rfl rfl (fun h23 => ?_) (fun h23 => ?_)
      · refine z_iload_n (q := 56) rfl rfl rfl ?_
        refine z_ireti rfl rfl ?_
        have h9 : a = -1 := Decidable.not_not.mp (bz_0.mp h23)
        unfold tsI at hm
        rw [if_pos h9] at hm
        rw [← hm]
        exact ⟨rfl, rfl⟩
      · refine z_aload_n (q := 27) rfl rfl rfl ?_
        refine z_getR (q := 30) rfl rfl rfl (Sh_k w) (Sh_r4 w) ?_
        refine z_iload (q := 32) rfl rfl rfl ?_
        refine z_iald (q := 33) rfl rfl (Sh_a4 w) (okv_in ha (bz_n.mp h23) hN (by omega)) ?_
        refine z_iload_n (q := 34) rfl rfl rfl ?_
        refine z_ic_ne (q := 37) rfl rfl (fun h34 => ?_) (fun h34 => ?_)
        · refine z_aload_n (q := 41) rfl rfl rfl ?_
          refine z_getR (q := 44) rfl rfl rfl (Sh_k w) (Sh_r3 w) ?_
          refine z_iload (q := 46) rfl rfl rfl ?_
          refine z_iald (q := 47) rfl rfl (Sh_a3 w) (okv_in ha (bz_n.mp h23) hN (by omega)) ?_
          refine z_istore (q := 49) (L2 := [_, _, _, _, _, _]) rfl rfl rfl rfl ?_
          refine z_iinc (q := 52) (L2 := [_, _, _, _, _, _]) rfl rfl rfl rfl ?_
          refine z_goto rfl ?_
          rw [show nI i + Int32.ofInt 1 = nI (i + 1) from (nI_succ i).symm]
          have h9 := bz_n.mp h23
          refine ih (i + 1) _ _ (by omega) (okv_f ho ha h9 (by omega)) ?_
          unfold tsI at hm
          first | (rw [if_neg h9, if_neg h34] at hm; exact hm) | (rw [if_neg h9, if_pos h34] at hm; exact hm)
        · refine z_iinc (q := 40) (L2 := [_, _, _, _, _, _]) rfl rfl rfl rfl ?_
          refine z_aload_n (q := 41) rfl rfl rfl ?_
          refine z_getR (q := 44) rfl rfl rfl (Sh_k w) (Sh_r3 w) ?_
          refine z_iload (q := 46) rfl rfl rfl ?_
          refine z_iald (q := 47) rfl rfl (Sh_a3 w) (okv_in ha (bz_n.mp h23) hN (by omega)) ?_
          refine z_istore (q := 49) (L2 := [_, _, _, _, _, _]) rfl rfl rfl rfl ?_
          refine z_iinc (q := 52) (L2 := [_, _, _, _, _, _]) rfl rfl rfl rfl ?_
          refine z_goto rfl ?_
          rw [show nI i + Int32.ofInt 1 = nI (i + 1) from (nI_succ i).symm]
          have h9 := bz_n.mp h23
          refine ih (i + 1) _ _ (by omega) (okv_f ho ha h9 (by omega)) ?_
          unfold tsI at hm
          first | (rw [if_neg h9, if_neg h34] at hm; exact hm) | (rw [if_neg h9, if_pos h34] at hm; exact hm)
theorem s_Sh_timesSet {sc : Option (Nat × Nat × (Nat → Int32))} {sa : Nat → Nat} {d : Nat} {M : mz_M} {z : Nat × Nat} {sh N : Nat} (w : g_Sh M.2.2 sh N) {n : Nat} (hn : M.1 sh 8 = nI n) (hN : n ≤ N) (hM : N ≤ 200) {j : Nat} (hj : j < n) (ho : okl (M.1 (sh + 4)) n) {cell : Int32} : zx sc sa (d + 2) 32 [.ref sh, .int (nI j), .int cell] M z z (some (.int (tsI (M.1 (sh + 4)) (M.1 (sh + 5)) cell n (nI j) 0))) M := by
  refine zxin ym_Sh_timesSet [.ref sh, .int (nI j), .int cell, .retAddr 0, .retAddr 0, .retAddr 0] rfl rfl rfl rfl ?_
  refine z_iconst (q := 1) (v := 0) rfl rfl rfl ?_
  refine z_istore_n (q := 2) (L2 := [_, _, _, _, _, _]) rfl rfl rfl rfl ?_
  refine z_iload_n (q := 3) rfl rfl rfl ?_
  refine z_istore (q := 5) (L2 := [_, _, _, _, _, _]) rfl rfl rfl rfl ?_
  refine z_iconst (q := 6) (v := 0) rfl rfl rfl ?_
  refine z_istore (q := 8) (L2 := [_, _, _, _, _, _]) rfl rfl rfl rfl ?_
  exact l_Sh_timesSet w hn hN hM ho n 0 _ _ (by omega) (Or.inr ⟨j, hj, rfl⟩) rfl
theorem l_Sh_firstLike {sc : Option (Nat × Nat × (Nat → Int32))} {sa : Nat → Nat} {d : Nat} {M : mz_M} {z : Nat × Nat} {sh N : Nat} (w : g_Sh M.2.2 sh N) {n : Nat} (hn : M.1 sh 8 = nI n) (hN : n ≤ N) (hM : N ≤ 200) {j : Nat} (hj : j < n) {row : Int64} {m : Nat} : ∀ (k : Nat) (i : Nat), i + k = j → fi (M.2.1 (sh + 1)) row k i = m → zw sc sa (d + 1) ym_Sh_firstLike z (fun r' M' => r' = some (.int (nI m)) ∧ M' = M) 9 [.ref sh, .int (nI j), .long row, .retAddr 0, .int (nI i)] [] M z := by
  intro k
  induction k with
  | zero =>
    intro i hi hm
    have e1 : i = j := by omega
    subst e1
    have e2 : i = m := hm
    subst e2
    refine z_iload (q := 11) rfl rfl rfl ?_
    refine z_iload_n (q := 12) rfl rfl rfl ?_
    refine z_ic_ge (q := 15) rfl rfl (fun h12 => ?_) (fun h12 => ?_)
    · refine z_iload_n (q := 46) rfl rfl rfl ?_
      refine z_ireti rfl rfl ?_
      exact ⟨rfl, rfl⟩
    · exact absurd (nI_le (Nat.le_refl _) (by omega)) h12
  | succ k ih =>
    intro i hi hm
    refine z_iload (q := 11) rfl rfl rfl ?_
    refine z_iload_n (q := 12) rfl rfl rfl ?_
    refine z_ic_ge (q := 15) rfl rfl (fun h12 => ?_) (fun h12 => ?_)
    · exact absurd h12 (nI_ge (by omega) (by omega))
    · refine z_iload (q := 17) rfl rfl rfl ?_
      refine z_aload_n (q := 18) rfl rfl rfl ?_
      refine z_getI (q := 21) rfl rfl rfl (Sh_k w) ?_
      refine z_ic_ge (q := 24) rfl rfl (fun h21 => ?_) (fun h21 => ?_)
      · rw [hn] at h21
        exact absurd h21 (nI_ge (by omega) (by omega))
      · refine z_aload_n (q := 25) rfl rfl rfl ?_
        refine z_getR (q := 28) rfl rfl rfl (Sh_k w) (Sh_r0 w) ?_
        refine z_iload (q := 30) rfl rfl rfl ?_
        refine z_lald (q := 31) rfl rfl (Sh_a0 w) (by first | assumption | exact vp_in_nI (by omega) (by omega)) ?_
        refine z_lload_n (q := 32) rfl rfl rfl ?_
        refine z_lcmp (q := 33) rfl rfl ?_
        refine z_if_ne (q := 36) rfl rfl (fun h33 => ?_) (fun h33 => ?_)
        · refine z_iinc (q := 42) (L2 := [_, _, _, _, _]) rfl rfl rfl rfl ?_
          refine z_goto rfl ?_
          rw [show nI i + Int32.ofInt 1 = nI (i + 1) from (nI_succ i).symm]
          rw [nI_clamp (by omega), lg_0] at h33
          unfold fi at hm
          rw [if_neg h33] at hm
          exact ih (i + 1) (by omega) hm
        · refine z_iload (q := 38) rfl rfl rfl ?_
          refine z_ireti rfl rfl ?_
          rw [nI_clamp (by omega), lg_0] at h33
          unfold fi at hm
          rw [if_pos h33] at hm
          subst hm
          exact ⟨rfl, rfl⟩
theorem s_Sh_firstLike {sc : Option (Nat × Nat × (Nat → Int32))} {sa : Nat → Nat} {d : Nat} {M : mz_M} {z : Nat × Nat} {sh N : Nat} (w : g_Sh M.2.2 sh N) {n : Nat} (hn : M.1 sh 8 = nI n) (hN : n ≤ N) (hM : N ≤ 200) {j : Nat} (hj : j < n)  : zx sc sa (d + 3) 26 [.ref sh, .int (nI j)] M z z (some (.int (nI (fi (M.2.1 (sh + 1)) (M.2.1 (sh + 1) j) j 0)))) M := by
  refine zxin ym_Sh_firstLike [.ref sh, .int (nI j), .retAddr 0, .retAddr 0, .retAddr 0] rfl rfl rfl rfl ?_
  refine z_aload_n (q := 1) rfl rfl rfl ?_
  refine z_iload_n (q := 2) rfl rfl rfl ?_
  refine z_cv1l (q := 5) rfl rfl rfl (Sh_k w) (s_Sh_rowOf w hn hN hM hj) ?_
  refine z_lstore_n (q := 6) (L2 := [_, _, _, _, _]) rfl rfl rfl rfl ?_
  refine z_iconst (q := 7) (v := 0) rfl rfl rfl ?_
  refine z_istore (q := 9) (L2 := [_, _, _, _, _]) rfl rfl rfl rfl ?_
  exact l_Sh_firstLike w hn hN hM hj j 0 (by omega) rfl
theorem l_Sh_wayBits {sc : Option (Nat × Nat × (Nat → Int32))} {sa : Nat → Nat} {d : Nat} {M : mz_M} {z : Nat × Nat} {sh N : Nat} (w : g_Sh M.2.2 sh N) {n : Nat} (hn : M.1 sh 8 = nI n) (hN : n ≤ N) (hM : N ≤ 200) (hf : okl (M.1 (sh + 2)) n) {v0 : Int32} {m : Int64} : ∀ (k : Nat) (i : Nat) (a : Int32) (b : Int64), i + k = n → okv n a → wbI (M.1 (sh + 2)) k a b = m → zw sc sa (d + 1) ym_Sh_wayBits z (fun r' M' => r' = some (.long m) ∧ M' = M) 8 [.ref sh, .int v0, .long b, .retAddr 0, .int a, .int (nI i)] [] M z := by
  intro k
  induction k with
  | zero =>
    intro i a b hi ha hm
    have e1 : i = n := by omega
    subst e1
    have e2 : b = m := hm
    subst e2
    refine z_iload (q := 10) rfl rfl rfl ?_
    refine z_aload_n (q := 11) rfl rfl rfl ?_
    refine z_getI (q := 14) rfl rfl rfl (Sh_k w) ?_
    refine z_ic_ge (q := 17) rfl rfl (fun h14 => ?_) (fun h14 => ?_)
    · refine z_lload_n (q := 49) rfl rfl rfl ?_
      refine z_lret rfl rfl ?_
      exact ⟨rfl, rfl⟩
    · exact absurd (by rw [hn]; exact nI_le (Nat.le_refl _) (by omega)) h14
  | succ k ih =>
    intro i a b hi ha hm
    refine z_iload (q := 10) rfl rfl rfl ?_
    refine z_aload_n (q := 11) rfl rfl rfl ?_
    refine z_getI (q := 14) rfl rfl rfl (Sh_k w) ?_
    refine z_ic_ge (q := 17) rfl rfl (fun h14 => ?_) (fun h14 => ?_)
    · rw [hn] at h14
      exact absurd h14 (nI_ge (by omega) (by omega))
    · refine z_aload_n (q := 18) rfl rfl rfl ?_
      refine z_iload (q := 20) rfl rfl rfl ?_
      refine z_cv1i (q := 23) rfl rfl rfl (Sh_k w) (s_Sh_hasV w hn hN hM ha) ?_
      refine z_if_eq (q := 26) rfl rfl (fun h23 => ?_) (fun h23 => ?_)
      · refine z_lload_n (q := 49) rfl rfl rfl ?_
        refine z_lret rfl rfl ?_
        have h9 : a = -1 := Decidable.not_not.mp (bz_0.mp h23)
        unfold wbI at hm
        rw [if_pos h9] at hm
        rw [← hm]
        exact ⟨rfl, rfl⟩
      · refine z_lload_n (q := 27) rfl rfl rfl ?_
        refine z_lconst (q := 28) (v := 1) rfl rfl rfl ?_
        refine z_iload (q := 30) rfl rfl rfl ?_
        refine z_lshl (q := 31) rfl rfl ?_
        refine z_lor (q := 32) rfl rfl ?_
        refine z_lstore_n (q := 33) (L2 := [_, _, _, _, _, _]) rfl rfl rfl rfl ?_
        refine z_aload_n (q := 34) rfl rfl rfl ?_
        refine z_getR (q := 37) rfl rfl rfl (Sh_k w) (Sh_r1 w) ?_
        refine z_iload (q := 39) rfl rfl rfl ?_
        refine z_iald (q := 40) rfl rfl (Sh_a1 w) (okv_in ha (bz_n.mp h23) hN (by omega)) ?_
        refine z_istore (q := 42) (L2 := [_, _, _, _, _, _]) rfl rfl rfl rfl ?_
        refine z_iinc (q := 45) (L2 := [_, _, _, _, _, _]) rfl rfl rfl rfl ?_
        refine z_goto rfl ?_
        rw [show nI i + Int32.ofInt 1 = nI (i + 1) from (nI_succ i).symm]
        have h9 := bz_n.mp h23
        refine ih (i + 1) _ _ (by omega) (okv_f hf ha h9 (by omega)) ?_
        unfold wbI at hm
        rw [if_neg h9] at hm
        exact hm
theorem s_Sh_wayBits {sc : Option (Nat × Nat × (Nat → Int32))} {sa : Nat → Nat} {d : Nat} {M : mz_M} {z : Nat × Nat} {sh N : Nat} (w : g_Sh M.2.2 sh N) {n : Nat} (hn : M.1 sh 8 = nI n) (hN : n ≤ N) (hM : N ≤ 200) {j : Nat} (hj : j < n) (hf : okl (M.1 (sh + 2)) n)  : zx sc sa (d + 2) 45 [.ref sh, .int (nI j)] M z z (some (.long (wbI (M.1 (sh + 2)) n (nI j) 0))) M := by
  refine zxin ym_Sh_wayBits [.ref sh, .int (nI j), .retAddr 0, .retAddr 0, .retAddr 0, .retAddr 0] rfl rfl rfl rfl ?_
  refine z_lconst (q := 1) (v := 0) rfl rfl rfl ?_
  refine z_lstore_n (q := 2) (L2 := [_, _, _, _, _, _]) rfl rfl rfl rfl ?_
  refine z_iload_n (q := 3) rfl rfl rfl ?_
  refine z_istore (q := 5) (L2 := [_, _, _, _, _, _]) rfl rfl rfl rfl ?_
  refine z_iconst (q := 6) (v := 0) rfl rfl rfl ?_
  refine z_istore (q := 8) (L2 := [_, _, _, _, _, _]) rfl rfl rfl rfl ?_
  exact l_Sh_wayBits w hn hN hM hf n 0 _ _ (by omega) (Or.inr ⟨j, hj, rfl⟩) rfl
theorem l_Sh_withWays {sc : Option (Nat × Nat × (Nat → Int32))} {sa : Nat → Nat} {d : Nat} {M : mz_M} {z : Nat × Nat} {sh N : Nat} (w : g_Sh M.2.2 sh N) {n : Nat} (hn : M.1 sh 8 = nI n) (hN : n ≤ N) (hM : N ≤ 200) (hf : okl (M.1 (sh + 2)) n) {set : Int64} : ∀ (k : Nat) (i : Nat), i + k = n → zw sc sa (d + 2) ym_Sh_withWays z (fun r' M' => r' = some (.long (fo (fun v acc => if lg_cmp ((Int64.toUInt64 (set) >>> ((nI v).toInt64.toUInt64 &&& Int64.toUInt64 63)).toInt64 &&& 1) 0 = 0 then acc else acc ||| wbI (M.1 (sh + 2)) n (nI v) 0) set n)) ∧ M' = M) 5 [.ref sh, .long set, .retAddr 0, .long (fo (fun v acc => if lg_cmp ((Int64.toUInt64 (set) >>> ((nI v).toInt64.toUInt64 &&& Int64.toUInt64 63)).toInt64 &&& 1) 0 = 0 then acc else acc ||| wbI (M.1 (sh + 2)) n (nI v) 0) set i), .retAddr 0, .int (nI i)] [] M z := by
  intro k
  induction k with
  | zero =>
    intro i hi
    have e1 : i = n := by omega
    subst e1
    refine z_iload (q := 7) rfl rfl rfl ?_
    refine z_aload_n (q := 8) rfl rfl rfl ?_
    refine z_getI (q := 11) rfl rfl rfl (Sh_k w) ?_
    refine z_ic_ge (q := 14) rfl rfl (fun h11 => ?_) (fun h11 => ?_)
    · refine z_lload_n (q := 41) rfl rfl rfl ?_
      refine z_lret rfl rfl ?_
      exact ⟨rfl, rfl⟩
    · exact absurd (by rw [hn]; exact nI_le (Nat.le_refl _) (by omega)) h11
  | succ k ih =>
    intro i hi
    refine z_iload (q := 7) rfl rfl rfl ?_
    refine z_aload_n (q := 8) rfl rfl rfl ?_
    refine z_getI (q := 11) rfl rfl rfl (Sh_k w) ?_
    refine z_ic_ge (q := 14) rfl rfl (fun h11 => ?_) (fun h11 => ?_)
    · rw [hn] at h11
      exact absurd h11 (nI_ge (by omega) (by omega))
    · refine z_lload_n (q := 15) rfl rfl rfl ?_
      refine z_iload (q := 17) rfl rfl rfl ?_
      refine z_lushr (q := 18) rfl rfl ?_
      refine z_lconst (q := 19) (v := 1) rfl rfl rfl ?_
      refine z_land (q := 20) rfl rfl ?_
      refine z_lconst (q := 21) (v := 0) rfl rfl rfl ?_
      refine z_lcmp (q := 22) rfl rfl ?_
      refine z_if_eq (q := 25) rfl rfl (fun h22 => ?_) (fun h22 => ?_)
      · refine z_iinc (q := 37) (L2 := [_, _, _, _, _, _]) rfl rfl rfl rfl ?_
        refine z_goto rfl ?_
        rw [show nI i + Int32.ofInt 1 = nI (i + 1) from (nI_succ i).symm]
        have e9 := ih (i + 1) (by omega)
        first | exact e9 | (simp only [fo, if_pos h22] at e9; exact e9) | (simp only [fo, if_neg h22] at e9; exact e9)
      · refine z_lload_n (q := 26) rfl rfl rfl ?_
        refine z_aload_n (q := 27) rfl rfl rfl ?_
        refine z_iload (q := 29) rfl rfl rfl ?_
        refine z_cv1l (q := 32) rfl rfl rfl (Sh_k w) (s_Sh_wayBits w hn hN hM (by omega) hf) ?_
        refine z_lor (q := 33) rfl rfl ?_
        refine z_lstore_n (q := 34) (L2 := [_, _, _, _, _, _]) rfl rfl rfl rfl ?_
        refine z_iinc (q := 37) (L2 := [_, _, _, _, _, _]) rfl rfl rfl rfl ?_
        refine z_goto rfl ?_
        rw [show nI i + Int32.ofInt 1 = nI (i + 1) from (nI_succ i).symm]
        have e9 := ih (i + 1) (by omega)
        first | exact e9 | (simp only [fo, if_pos h22] at e9; exact e9) | (simp only [fo, if_neg h22] at e9; exact e9)
theorem s_Sh_withWays {sc : Option (Nat × Nat × (Nat → Int32))} {sa : Nat → Nat} {d : Nat} {M : mz_M} {z : Nat × Nat} {sh N : Nat} (w : g_Sh M.2.2 sh N) {n : Nat} (hn : M.1 sh 8 = nI n) (hN : n ≤ N) (hM : N ≤ 200) (hf : okl (M.1 (sh + 2)) n) {set : Int64} : zx sc sa (d + 3) 44 [.ref sh, .long set] M z z (some (.long (fo (fun v acc => if lg_cmp ((Int64.toUInt64 (set) >>> ((nI v).toInt64.toUInt64 &&& Int64.toUInt64 63)).toInt64 &&& 1) 0 = 0 then acc else acc ||| wbI (M.1 (sh + 2)) n (nI v) 0) set n))) M := by
  refine zxin ym_Sh_withWays [.ref sh, .long set, .retAddr 0, .retAddr 0, .retAddr 0, .retAddr 0] rfl rfl rfl rfl ?_
  refine z_lload_n (q := 1) rfl rfl rfl ?_
  refine z_lstore_n (q := 2) (L2 := [_, _, _, _, _, _]) rfl rfl rfl rfl ?_
  refine z_iconst (q := 3) (v := 0) rfl rfl rfl ?_
  refine z_istore (q := 5) (L2 := [_, _, _, _, _, _]) rfl rfl rfl rfl ?_
  exact l_Sh_withWays w hn hN hM hf n 0 (by omega)
theorem l_Sh_numbersIn {sc : Option (Nat × Nat × (Nat → Int32))} {sa : Nat → Nat} {d : Nat} {M : mz_M} {z : Nat × Nat} {sh N : Nat} (w : g_Sh M.2.2 sh N) {n : Nat} (hn : M.1 sh 8 = nI n) (hN : n ≤ N) (hM : N ≤ 200) {set : Int64} : ∀ (k : Nat) (i : Nat), i + k = n → zw sc sa (d + 2) ym_Sh_numbersIn z (fun r' M' => r' = some (.int (fo (fun v acc => if lg_cmp ((Int64.toUInt64 (set) >>> ((nI v).toInt64.toUInt64 &&& Int64.toUInt64 63)).toInt64 &&& 1) 0 = 0 then acc else acc + (if M.1 (sh + 2) v = -1 then M.1 sh 5 else 3)) 0 n)) ∧ M' = M) 5 [.ref sh, .long set, .retAddr 0, .int (fo (fun v acc => if lg_cmp ((Int64.toUInt64 (set) >>> ((nI v).toInt64.toUInt64 &&& Int64.toUInt64 63)).toInt64 &&& 1) 0 = 0 then acc else acc + (if M.1 (sh + 2) v = -1 then M.1 sh 5 else 3)) 0 i), .int (nI i)] [] M z := by
  intro k
  induction k with
  | zero =>
    intro i hi
    have e1 : i = n := by omega
    subst e1
    refine z_iload (q := 7) rfl rfl rfl ?_
    refine z_aload_n (q := 8) rfl rfl rfl ?_
    refine z_getI (q := 11) rfl rfl rfl (Sh_k w) ?_
    refine z_ic_ge (q := 14) rfl rfl (fun h11 => ?_) (fun h11 => ?_)
    · refine z_iload_n (q := 52) rfl rfl rfl ?_
      refine z_ireti rfl rfl ?_
      exact ⟨rfl, rfl⟩
    · exact absurd (by rw [hn]; exact nI_le (Nat.le_refl _) (by omega)) h11
  | succ k ih =>
    intro i hi
    refine z_iload (q := 7) rfl rfl rfl ?_
    refine z_aload_n (q := 8) rfl rfl rfl ?_
    refine z_getI (q := 11) rfl rfl rfl (Sh_k w) ?_
    refine z_ic_ge (q := 14) rfl rfl (fun h11 => ?_) (fun h11 => ?_)
    · rw [hn] at h11
      exact absurd h11 (nI_ge (by omega) (by omega))
    · refine z_lload_n (q := 15) rfl rfl rfl ?_
      refine z_iload (q := 17) rfl rfl rfl ?_
      refine z_lushr (q := 18) rfl rfl ?_
      refine z_lconst (q := 19) (v := 1) rfl rfl rfl ?_
      refine z_land (q := 20) rfl rfl ?_
      refine z_lconst (q := 21) (v := 0) rfl rfl rfl ?_
      refine z_lcmp (q := 22) rfl rfl ?_
      refine z_if_eq (q := 25) rfl rfl (fun h22 => ?_) (fun h22 => ?_)
      · refine z_iinc (q := 48) (L2 := [_, _, _, _, _]) rfl rfl rfl rfl ?_
        refine z_goto rfl ?_
        rw [show nI i + Int32.ofInt 1 = nI (i + 1) from (nI_succ i).symm]
        have e9 := ih (i + 1) (by omega)
        have e8 := e9
        simp only [fo] at e8
        first
          | (rw [if_pos h22] at e8; exact e8)
          | (rw [bz_n] at h32; rw [if_neg h22, if_pos h32] at e8; exact e8)
          | (rw [bz_0] at h32; rw [if_neg h22, if_neg h32] at e8; exact e8)
      · refine z_iload_n (q := 26) rfl rfl rfl ?_
        refine z_aload_n (q := 27) rfl rfl rfl ?_
        refine z_iload (q := 29) rfl rfl rfl ?_
        refine z_cv1i (q := 32) rfl rfl rfl (Sh_k w) (s_Sh_isDirect w hn hN hM (by omega)) ?_
        refine z_if_eq (q := 35) rfl rfl (fun h32 => ?_) (fun h32 => ?_)
        · refine z_iconst (q := 43) (v := 3) rfl rfl rfl ?_
          refine z_iadd (q := 44) rfl rfl ?_
          refine z_istore_n (q := 45) (L2 := [_, _, _, _, _]) rfl rfl rfl rfl ?_
          refine z_iinc (q := 48) (L2 := [_, _, _, _, _]) rfl rfl rfl rfl ?_
          refine z_goto rfl ?_
          rw [show nI i + Int32.ofInt 1 = nI (i + 1) from (nI_succ i).symm]
          have e9 := ih (i + 1) (by omega)
          have e8 := e9
          simp only [fo] at e8
          first
            | (rw [if_pos h22] at e8; exact e8)
            | (rw [bz_n] at h32; rw [if_neg h22, if_pos h32] at e8; exact e8)
            | (rw [bz_0] at h32; rw [if_neg h22, if_neg h32] at e8; exact e8)
        · refine z_aload_n (q := 36) rfl rfl rfl ?_
          refine z_getI (q := 39) rfl rfl rfl (Sh_k w) ?_
          refine z_goto rfl ?_
          refine z_iadd (q := 44) rfl rfl ?_
          refine z_istore_n (q := 45) (L2 := [_, _, _, _, _]) rfl rfl rfl rfl ?_
          refine z_iinc (q := 48) (L2 := [_, _, _, _, _]) rfl rfl rfl rfl ?_
          refine z_goto rfl ?_
          rw [show nI i + Int32.ofInt 1 = nI (i + 1) from (nI_succ i).symm]
          have e9 := ih (i + 1) (by omega)
          have e8 := e9
          simp only [fo] at e8
          first
            | (rw [if_pos h22] at e8; exact e8)
            | (rw [bz_n] at h32; rw [if_neg h22, if_pos h32] at e8; exact e8)
            | (rw [bz_0] at h32; rw [if_neg h22, if_neg h32] at e8; exact e8)
theorem s_Sh_numbersIn {sc : Option (Nat × Nat × (Nat → Int32))} {sa : Nat → Nat} {d : Nat} {M : mz_M} {z : Nat × Nat} {sh N : Nat} (w : g_Sh M.2.2 sh N) {n : Nat} (hn : M.1 sh 8 = nI n) (hN : n ≤ N) (hM : N ≤ 200) {set : Int64} : zx sc sa (d + 3) 46 [.ref sh, .long set] M z z (some (.int (fo (fun v acc => if lg_cmp ((Int64.toUInt64 (set) >>> ((nI v).toInt64.toUInt64 &&& Int64.toUInt64 63)).toInt64 &&& 1) 0 = 0 then acc else acc + (if M.1 (sh + 2) v = -1 then M.1 sh 5 else 3)) 0 n))) M := by
  refine zxin ym_Sh_numbersIn [.ref sh, .long set, .retAddr 0, .retAddr 0, .retAddr 0] rfl rfl rfl rfl ?_
  refine z_iconst (q := 1) (v := 0) rfl rfl rfl ?_
  refine z_istore_n (q := 2) (L2 := [_, _, _, _, _]) rfl rfl rfl rfl ?_
  refine z_iconst (q := 3) (v := 0) rfl rfl rfl ?_
  refine z_istore (q := 5) (L2 := [_, _, _, _, _]) rfl rfl rfl rfl ?_
  exact l_Sh_numbersIn w hn hN hM n 0 (by omega)
theorem l_Sh_waysThrough {sc : Option (Nat × Nat × (Nat → Int32))} {sa : Nat → Nat} {d : Nat} {M : mz_M} {z : Nat × Nat} {sh N : Nat} (w : g_Sh M.2.2 sh N) {n : Nat} (hn : M.1 sh 8 = nI n) (hN : n ≤ N) (hM : N ≤ 200) (hf : okl (M.1 (sh + 2)) n) {v0 : Int32} : ∀ (k : Nat) (i : Nat), i + k = n → zw sc sa (d + 2) ym_Sh_waysThrough z (fun r' M' => r' = some (.int (fo (fun v acc => if nI v = v0 then acc else if lg_cmp ((Int64.toUInt64 (wbI (M.1 (sh + 2)) n (nI v) 0) >>> ((v0).toInt64.toUInt64 &&& Int64.toUInt64 63)).toInt64 &&& 1) 0 = 0 then acc else acc + Int32.ofInt 1) 0 n)) ∧ M' = M) 4 [.ref sh, .int v0, .int (fo (fun v acc => if nI v = v0 then acc else if lg_cmp ((Int64.toUInt64 (wbI (M.1 (sh + 2)) n (nI v) 0) >>> ((v0).toInt64.toUInt64 &&& Int64.toUInt64 63)).toInt64 &&& 1) 0 = 0 then acc else acc + Int32.ofInt 1) 0 i), .int (nI i)] [] M z := by
  intro k
  induction k with
  | zero =>
    intro i hi
    have e1 : i = n := by omega
    subst e1
    refine z_iload_n (q := 5) rfl rfl rfl ?_
    refine z_aload_n (q := 6) rfl rfl rfl ?_
    refine z_getI (q := 9) rfl rfl rfl (Sh_k w) ?_
    refine z_ic_ge (q := 12) rfl rfl (fun h9 => ?_) (fun h9 => ?_)
    · refine z_iload_n (q := 41) rfl rfl rfl ?_
      refine z_ireti rfl rfl ?_
      exact ⟨rfl, rfl⟩
    · exact absurd (by rw [hn]; exact nI_le (Nat.le_refl _) (by omega)) h9
  | succ k ih =>
    intro i hi
    refine z_iload_n (q := 5) rfl rfl rfl ?_
    refine z_aload_n (q := 6) rfl rfl rfl ?_
    refine z_getI (q := 9) rfl rfl rfl (Sh_k w) ?_
    refine z_ic_ge (q := 12) rfl rfl (fun h9 => ?_) (fun h9 => ?_)
    · rw [hn] at h9
      exact absurd h9 (nI_ge (by omega) (by omega))
    · refine z_iload_n (q := 13) rfl rfl rfl ?_
      refine z_iload_n (q := 14) rfl rfl rfl ?_
      refine z_ic_eq (q := 17) rfl rfl (fun h14 => ?_) (fun h14 => ?_)
      · refine z_iinc (q := 37) (L2 := [_, _, _, _]) rfl rfl rfl rfl ?_
        refine z_goto rfl ?_
        rw [show nI i + Int32.ofInt 1 = nI (i + 1) from (nI_succ i).symm]
        have e9 := ih (i + 1) (by omega)
        first | exact e9 | (simp only [fo, if_pos h14, if_pos h28] at e9; exact e9) | (simp only [fo, if_pos h14, if_neg h28] at e9; exact e9) | (simp only [fo, if_neg h14, if_pos h28] at e9; exact e9) | (simp only [fo, if_neg h14, if_neg h28] at e9; exact e9) | (simp only [fo, if_pos h14] at e9; exact e9) | (simp only [fo, if_neg h14] at e9; exact e9) | (simp only [fo, if_pos h28] at e9; exact e9) | (simp only [fo, if_neg h28] at e9; exact e9)
      · refine z_aload_n (q := 18) rfl rfl rfl ?_
        refine z_iload_n (q := 19) rfl rfl rfl ?_
        refine z_cv1l (q := 22) rfl rfl rfl (Sh_k w) (s_Sh_wayBits w hn hN hM (by omega) hf) ?_
        refine z_iload_n (q := 23) rfl rfl rfl ?_
        refine z_lushr (q := 24) rfl rfl ?_
        refine z_lconst (q := 25) (v := 1) rfl rfl rfl ?_
        refine z_land (q := 26) rfl rfl ?_
        refine z_lconst (q := 27) (v := 0) rfl rfl rfl ?_
        refine z_lcmp (q := 28) rfl rfl ?_
        refine z_if_eq (q := 31) rfl rfl (fun h28 => ?_) (fun h28 => ?_)
        · refine z_iinc (q := 37) (L2 := [_, _, _, _]) rfl rfl rfl rfl ?_
          refine z_goto rfl ?_
          rw [show nI i + Int32.ofInt 1 = nI (i + 1) from (nI_succ i).symm]
          have e9 := ih (i + 1) (by omega)
          first | exact e9 | (simp only [fo, if_pos h14, if_pos h28] at e9; exact e9) | (simp only [fo, if_pos h14, if_neg h28] at e9; exact e9) | (simp only [fo, if_neg h14, if_pos h28] at e9; exact e9) | (simp only [fo, if_neg h14, if_neg h28] at e9; exact e9) | (simp only [fo, if_pos h14] at e9; exact e9) | (simp only [fo, if_neg h14] at e9; exact e9) | (simp only [fo, if_pos h28] at e9; exact e9) | (simp only [fo, if_neg h28] at e9; exact e9)
        · refine z_iinc (q := 34) (L2 := [_, _, _, _]) rfl rfl rfl rfl ?_
          refine z_iinc (q := 37) (L2 := [_, _, _, _]) rfl rfl rfl rfl ?_
          refine z_goto rfl ?_
          rw [show nI i + Int32.ofInt 1 = nI (i + 1) from (nI_succ i).symm]
          have e9 := ih (i + 1) (by omega)
          first | exact e9 | (simp only [fo, if_pos h14, if_pos h28] at e9; exact e9) | (simp only [fo, if_pos h14, if_neg h28] at e9; exact e9) | (simp only [fo, if_neg h14, if_pos h28] at e9; exact e9) | (simp only [fo, if_neg h14, if_neg h28] at e9; exact e9) | (simp only [fo, if_pos h14] at e9; exact e9) | (simp only [fo, if_neg h14] at e9; exact e9) | (simp only [fo, if_pos h28] at e9; exact e9) | (simp only [fo, if_neg h28] at e9; exact e9)
theorem s_Sh_waysThrough {sc : Option (Nat × Nat × (Nat → Int32))} {sa : Nat → Nat} {d : Nat} {M : mz_M} {z : Nat × Nat} {sh N : Nat} (w : g_Sh M.2.2 sh N) {n : Nat} (hn : M.1 sh 8 = nI n) (hN : n ≤ N) (hM : N ≤ 200) (hf : okl (M.1 (sh + 2)) n) {v0 : Int32} : zx sc sa (d + 3) 48 [.ref sh, .int v0] M z z (some (.int (fo (fun v acc => if nI v = v0 then acc else if lg_cmp ((Int64.toUInt64 (wbI (M.1 (sh + 2)) n (nI v) 0) >>> ((v0).toInt64.toUInt64 &&& Int64.toUInt64 63)).toInt64 &&& 1) 0 = 0 then acc else acc + Int32.ofInt 1) 0 n))) M := by
  refine zxin ym_Sh_waysThrough [.ref sh, .int v0, .retAddr 0, .retAddr 0] rfl rfl rfl rfl ?_
  refine z_iconst (q := 1) (v := 0) rfl rfl rfl ?_
  refine z_istore_n (q := 2) (L2 := [_, _, _, _]) rfl rfl rfl rfl ?_
  refine z_iconst (q := 3) (v := 0) rfl rfl rfl ?_
  refine z_istore_n (q := 4) (L2 := [_, _, _, _]) rfl rfl rfl rfl ?_
  exact l_Sh_waysThrough w hn hN hM hf n 0 (by omega)
theorem s_Sh_isTooLong {sc : Option (Nat × Nat × (Nat → Int32))} {sa : Nat → Nat} {d : Nat} {M : mz_M} {z : Nat × Nat} {sh N : Nat} (w : g_Sh M.2.2 sh N) {x : Int32} : zx sc sa (d + 1) 49 [.ref sh, .int x] M z z (some (.int (bz (M.1 sh 6 = 2 ∧ ¬ x ≤ M.1 sh 7)))) M := by
  refine zxin ym_Sh_isTooLong [.ref sh, .int x] rfl rfl rfl rfl ?_
  refine z_aload_n (q := 1) rfl rfl rfl ?_
  refine z_getI (q := 4) rfl rfl rfl (Sh_k w) ?_
  refine z_iconst (q := 5) (v := 2) rfl rfl rfl ?_
  refine z_ic_ne (q := 8) rfl rfl (fun h5 => ?_) (fun h5 => ?_)
  · refine z_iconst (q := 21) (v := 0) rfl rfl rfl ?_
    refine z_iretz rfl rfl (rfl) ?_
    refine ⟨?_, rfl⟩
    unfold bz
    simp_all
  · refine z_iload_n (q := 9) rfl rfl rfl ?_
    refine z_aload_n (q := 10) rfl rfl rfl ?_
    refine z_getI (q := 13) rfl rfl rfl (Sh_k w) ?_
    refine z_ic_le (q := 16) rfl rfl (fun h13 => ?_) (fun h13 => ?_)
    · refine z_iconst (q := 21) (v := 0) rfl rfl rfl ?_
      refine z_iretz rfl rfl (rfl) ?_
      refine ⟨?_, rfl⟩
      unfold bz
      simp_all
    · refine z_iconst (q := 17) (v := 1) rfl rfl rfl ?_
      refine z_goto rfl ?_
      refine z_iretz rfl rfl (rfl) ?_
      refine ⟨?_, rfl⟩
      unfold bz
      simp_all
theorem l_Sh_linksBefore {sc : Option (Nat × Nat × (Nat → Int32))} {sa : Nat → Nat} {d : Nat} {M : mz_M} {z : Nat × Nat} {sh N : Nat} (w : g_Sh M.2.2 sh N) {n : Nat} (hn : M.1 sh 8 = nI n) (hN : n ≤ N) (hM : N ≤ 200) (hf : okl (M.1 (sh + 2)) n) {v0 cell : Int32} {m : Nat} : ∀ (k : Nat) (i u : Nat), i + k = n → u < n → i + la (M.1 (sh + 2)) (M.1 (sh + 3)) cell k u = m → zw sc sa d ym_Sh_linksBefore z (fun r' M' => r' = some (.int (nI m)) ∧ M' = M) 5 [.ref sh, .int v0, .int cell, .int (nI i), .int (nI u)] [] M z := by
  intro k
  induction k with
  | zero =>
    intro i u hi hu hm
    have e1 : i = n := by omega
    subst e1
    have e2 : i = m := hm
    subst e2
    refine z_iload_n (q := 6) rfl rfl rfl ?_
    refine z_aload_n (q := 7) rfl rfl rfl ?_
    refine z_getI (q := 10) rfl rfl rfl (Sh_k w) ?_
    refine z_ic_ge (q := 13) rfl rfl (fun h10 => ?_) (fun h10 => ?_)
    · refine z_iload_n (q := 65) rfl rfl rfl ?_
      refine z_ireti rfl rfl ?_
      exact ⟨rfl, rfl⟩
    · exact absurd (by rw [hn]; exact nI_le (Nat.le_refl _) (by omega)) h10
  | succ k ih =>
    intro i u hi hu hm
    refine z_iload_n (q := 6) rfl rfl rfl ?_
    refine z_aload_n (q := 7) rfl rfl rfl ?_
    refine z_getI (q := 10) rfl rfl rfl (Sh_k w) ?_
    refine z_ic_ge (q := 13) rfl rfl (fun h10 => ?_) (fun h10 => ?_)
    · rw [hn] at h10
      exact absurd h10 (nI_ge (by omega) (by omega))
    · refine z_iload (q := 15) rfl rfl rfl ?_
      refine z_if_lt (q := 18) rfl rfl (fun h15 => ?_) (fun h15 => ?_)
      · exact absurd h15 (nI_pos (by omega))
      · refine z_iload (q := 20) rfl rfl rfl ?_
        refine z_aload_n (q := 21) rfl rfl rfl ?_
        refine z_getI (q := 24) rfl rfl rfl (Sh_k w) ?_
        refine z_ic_ge (q := 27) rfl rfl (fun h24 => ?_) (fun h24 => ?_)
        · rw [hn] at h24
          exact absurd h24 (nI_ge (by omega) (by omega))
        · refine z_aload_n (q := 28) rfl rfl rfl ?_
          refine z_getR (q := 31) rfl rfl rfl (Sh_k w) (Sh_r1 w) ?_
          refine z_iload (q := 33) rfl rfl rfl ?_
          refine z_iald (q := 34) rfl rfl (Sh_a1 w) (by first | assumption | exact vp_in_nI (by omega) (by omega)) ?_
          refine z_iconst (q := 35) (v := -1) rfl rfl rfl ?_
          refine z_ic_eq (q := 38) rfl rfl (fun h35 => ?_) (fun h35 => ?_)
          · refine z_iload_n (q := 65) rfl rfl rfl ?_
            refine z_ireti rfl rfl ?_
            unfold la at hm
            first
              | (rw [nI_clamp (by omega)] at h35 h46; rw [if_neg h35, if_pos h46] at hm; have e2 : i = m := hm; subst e2; exact ⟨rfl, rfl⟩)
              | (rw [nI_clamp (by omega)] at h35; rw [if_pos h35] at hm; have e2 : i = m := hm; subst e2; exact ⟨rfl, rfl⟩)
          · refine z_aload_n (q := 39) rfl rfl rfl ?_
            refine z_getR (q := 42) rfl rfl rfl (Sh_k w) (Sh_r2 w) ?_
            refine z_iload (q := 44) rfl rfl rfl ?_
            refine z_iald (q := 45) rfl rfl (Sh_a2 w) (by first | assumption | exact vp_in_nI (by omega) (by omega)) ?_
            refine z_iload_n (q := 46) rfl rfl rfl ?_
            refine z_ic_eq (q := 49) rfl rfl (fun h46 => ?_) (fun h46 => ?_)
            · refine z_iload_n (q := 65) rfl rfl rfl ?_
              refine z_ireti rfl rfl ?_
              unfold la at hm
              first
                | (rw [nI_clamp (by omega)] at h35 h46; rw [if_neg h35, if_pos h46] at hm; have e2 : i = m := hm; subst e2; exact ⟨rfl, rfl⟩)
                | (rw [nI_clamp (by omega)] at h35; rw [if_pos h35] at hm; have e2 : i = m := hm; subst e2; exact ⟨rfl, rfl⟩)
            · refine z_aload_n (q := 50) rfl rfl rfl ?_
              refine z_getR (q := 53) rfl rfl rfl (Sh_k w) (Sh_r1 w) ?_
              refine z_iload (q := 55) rfl rfl rfl ?_
              refine z_iald (q := 56) rfl rfl (Sh_a1 w) (by first | assumption | exact vp_in_nI (by omega) (by omega)) ?_
              refine z_istore (q := 58) (L2 := [_, _, _, _, _]) rfl rfl rfl rfl ?_
              refine z_iinc (q := 61) (L2 := [_, _, _, _, _]) rfl rfl rfl rfl ?_
              refine z_goto rfl ?_
              rw [show nI i + Int32.ofInt 1 = nI (i + 1) from (nI_succ i).symm]
              rw [nI_clamp (by omega)] at h35 h46 ⊢
              rcases hf u hu with e | ⟨x, hx, e⟩
              · exact absurd e h35
              · rw [e]
                refine ih (i + 1) x (by omega) hx ?_
                have e2 := hm
                unfold la at e2
                rw [if_neg h35, if_neg h46, e, nI_clamp (by omega)] at e2
                omega
theorem s_Sh_linksBefore {sc : Option (Nat × Nat × (Nat → Int32))} {sa : Nat → Nat} {d : Nat} {M : mz_M} {z : Nat × Nat} {sh N : Nat} (w : g_Sh M.2.2 sh N) {n : Nat} (hn : M.1 sh 8 = nI n) (hN : n ≤ N) (hM : N ≤ 200) {j : Nat} (hj : j < n) (hf : okl (M.1 (sh + 2)) n) {cell : Int32} : zx sc sa (d + 1) 51 [.ref sh, .int (nI j), .int cell] M z z (some (.int (nI (la (M.1 (sh + 2)) (M.1 (sh + 3)) cell n j)))) M := by
  refine zxin ym_Sh_linksBefore [.ref sh, .int (nI j), .int cell, .retAddr 0, .retAddr 0] rfl rfl rfl rfl ?_
  refine z_iconst (q := 1) (v := 0) rfl rfl rfl ?_
  refine z_istore_n (q := 2) (L2 := [_, _, _, _, _]) rfl rfl rfl rfl ?_
  refine z_iload_n (q := 3) rfl rfl rfl ?_
  refine z_istore (q := 5) (L2 := [_, _, _, _, _]) rfl rfl rfl rfl ?_
  exact l_Sh_linksBefore w hn hN hM hf n 0 j (by omega) hj (by omega)
theorem s_Sh_readingCost {sc : Option (Nat × Nat × (Nat → Int32))} {sa : Nat → Nat} {d : Nat} {M : mz_M} {z : Nat × Nat} {sh N : Nat} (w : g_Sh M.2.2 sh N) {n : Nat} (hn : M.1 sh 8 = nI n) (hN : n ≤ N) (hM : N ≤ 200) {j : Nat} (hj : j < n) (hf : okl (M.1 (sh + 2)) n) {cell : Int32} : zx sc sa (d + 2) 50 [.ref sh, .int (nI j), .int cell] M z z (some (.int (if M.1 sh 6 = 1 then nI (la (M.1 (sh + 2)) (M.1 (sh + 3)) cell n j) else if M.1 sh 6 = 2 ∧ ¬ nI (wl (M.1 (sh + 2)) n j) ≤ M.1 sh 7 then nI (wl (M.1 (sh + 2)) n j) + M.1 sh 5 else nI (wl (M.1 (sh + 2)) n j)))) M := by
  refine zxin ym_Sh_readingCost [.ref sh, .int (nI j), .int cell, .retAddr 0] rfl rfl rfl rfl ?_
  refine z_aload_n (q := 1) rfl rfl rfl ?_
  refine z_getI (q := 4) rfl rfl rfl (Sh_k w) ?_
  refine z_iconst (q := 5) (v := 1) rfl rfl rfl ?_
  refine z_ic_ne (q := 8) rfl rfl (fun h5 => ?_) (fun h5 => ?_)
  · refine z_aload_n (q := 16) rfl rfl rfl ?_
    refine z_iload_n (q := 17) rfl rfl rfl ?_
    refine z_cv1i (q := 20) rfl rfl rfl (Sh_k w) (s_Sh_wayFrom w hn hN hM hj hf) ?_
    refine z_istore_n (q := 21) (L2 := [_, _, _, _]) rfl rfl rfl rfl ?_
    refine z_aload_n (q := 22) rfl rfl rfl ?_
    refine z_iload_n (q := 23) rfl rfl rfl ?_
    refine z_cv1i (q := 26) rfl rfl rfl (Sh_k w) (s_Sh_isTooLong w) ?_
    refine z_if_eq (q := 29) rfl rfl (fun h26 => ?_) (fun h26 => ?_)
    · refine z_iload_n (q := 39) rfl rfl rfl ?_
      refine z_ireti rfl rfl ?_
      refine ⟨?_, rfl⟩
      first | rw [bz_n] at h26 | rw [bz_0] at h26
      rw [if_neg h5]
      first | rw [if_pos h26] | rw [if_neg h26]
    · refine z_iload_n (q := 30) rfl rfl rfl ?_
      refine z_aload_n (q := 31) rfl rfl rfl ?_
      refine z_getI (q := 34) rfl rfl rfl (Sh_k w) ?_
      refine z_iadd (q := 35) rfl rfl ?_
      refine z_goto rfl ?_
      refine z_ireti rfl rfl ?_
      refine ⟨?_, rfl⟩
      first | rw [bz_n] at h26 | rw [bz_0] at h26
      rw [if_neg h5]
      first | rw [if_pos h26] | rw [if_neg h26]
  · refine z_aload_n (q := 9) rfl rfl rfl ?_
    refine z_iload_n (q := 10) rfl rfl rfl ?_
    refine z_iload_n (q := 11) rfl rfl rfl ?_
    refine z_cv2i (q := 14) rfl rfl rfl (Sh_k w) (s_Sh_linksBefore w hn hN hM hj hf) ?_
    refine z_ireti rfl rfl ?_
    refine ⟨?_, rfl⟩
    simp_all
theorem s_Sh_inConflict {sc : Option (Nat × Nat × (Nat → Int32))} {sa : Nat → Nat} {d : Nat} {M : mz_M} {z : Nat × Nat} {sh N : Nat} (w : g_Sh M.2.2 sh N) {b x y : Int32} : zx sc sa (d + 1) 60 [.ref sh, .int b, .int x, .int y] M z z (some (.int (bz (¬ x = b ∧ ¬ y = b ∧ ¬ y = x)))) M := by
  refine zxin ym_Sh_inConflict [.ref sh, .int b, .int x, .int y] rfl rfl rfl rfl ?_
  refine z_iload_n (q := 1) rfl rfl rfl ?_
  refine z_iload_n (q := 2) rfl rfl rfl ?_
  refine z_ic_eq (q := 5) rfl rfl (fun h2 => ?_) (fun h2 => ?_)
  · refine z_iconst (q := 20) (v := 0) rfl rfl rfl ?_
    refine z_iretz rfl rfl (rfl) ?_
    refine ⟨?_, rfl⟩
    unfold bz
    simp_all
  · refine z_iload_n (q := 6) rfl rfl rfl ?_
    refine z_iload_n (q := 7) rfl rfl rfl ?_
    refine z_ic_eq (q := 10) rfl rfl (fun h7 => ?_) (fun h7 => ?_)
    · refine z_iconst (q := 20) (v := 0) rfl rfl rfl ?_
      refine z_iretz rfl rfl (rfl) ?_
      refine ⟨?_, rfl⟩
      unfold bz
      simp_all
    · refine z_iload_n (q := 11) rfl rfl rfl ?_
      refine z_iload_n (q := 12) rfl rfl rfl ?_
      refine z_ic_eq (q := 15) rfl rfl (fun h12 => ?_) (fun h12 => ?_)
      · refine z_iconst (q := 20) (v := 0) rfl rfl rfl ?_
        refine z_iretz rfl rfl (rfl) ?_
        refine ⟨?_, rfl⟩
        unfold bz
        simp_all
      · refine z_iconst (q := 16) (v := 1) rfl rfl rfl ?_
        refine z_goto rfl ?_
        refine z_iretz rfl rfl (rfl) ?_
        refine ⟨?_, rfl⟩
        unfold bz
        simp_all
end
section
-- a shelf's cells as one state
def shF (M : mz_M) (sh : Nat) (s l t m p : Int32) : Nat → Int32 := fun k => match k with
  | 5 => s
  | 6 => l
  | 7 => t
  | 8 => m
  | 9 => p
  | k => M.1 sh k
def shP (M : mz_M) (sh : Nat) (s l t m p : Int32) (J : Nat → Int64) (lt lc mo mc : Nat → Int32) : mz_M := (fun a => if a = sh then shF M sh s l t m p else if a = sh + 2 then lt else if a = sh + 3 then lc else if a = sh + 4 then mo else if a = sh + 5 then mc else M.1 a, fun a => if a = sh + 1 then J else M.2.1 a, M.2.2)
theorem shP_g5 {M : mz_M} {sh : Nat} {s l t m p : Int32} {J : Nat → Int64} {lt lc mo mc : Nat → Int32} : (shP M sh s l t m p J lt lc mo mc).1 sh 5 = s := by simp [shP, shF]
theorem shP_g6 {M : mz_M} {sh : Nat} {s l t m p : Int32} {J : Nat → Int64} {lt lc mo mc : Nat → Int32} : (shP M sh s l t m p J lt lc mo mc).1 sh 6 = l := by simp [shP, shF]
theorem shP_g7 {M : mz_M} {sh : Nat} {s l t m p : Int32} {J : Nat → Int64} {lt lc mo mc : Nat → Int32} : (shP M sh s l t m p J lt lc mo mc).1 sh 7 = t := by simp [shP, shF]
theorem shP_g8 {M : mz_M} {sh : Nat} {s l t m p : Int32} {J : Nat → Int64} {lt lc mo mc : Nat → Int32} : (shP M sh s l t m p J lt lc mo mc).1 sh 8 = m := by simp [shP, shF]
theorem shP_g9 {M : mz_M} {sh : Nat} {s l t m p : Int32} {J : Nat → Int64} {lt lc mo mc : Nat → Int32} : (shP M sh s l t m p J lt lc mo mc).1 sh 9 = p := by simp [shP, shF]
theorem shP_a1 {M : mz_M} {sh : Nat} {s l t m p : Int32} {J : Nat → Int64} {lt lc mo mc : Nat → Int32} : (shP M sh s l t m p J lt lc mo mc).1 (sh + 2) = lt := by simp [shP]
theorem shP_a2 {M : mz_M} {sh : Nat} {s l t m p : Int32} {J : Nat → Int64} {lt lc mo mc : Nat → Int32} : (shP M sh s l t m p J lt lc mo mc).1 (sh + 3) = lc := by simp [shP]
theorem shP_a3 {M : mz_M} {sh : Nat} {s l t m p : Int32} {J : Nat → Int64} {lt lc mo mc : Nat → Int32} : (shP M sh s l t m p J lt lc mo mc).1 (sh + 4) = mo := by simp [shP]
theorem shP_a4 {M : mz_M} {sh : Nat} {s l t m p : Int32} {J : Nat → Int64} {lt lc mo mc : Nat → Int32} : (shP M sh s l t m p J lt lc mo mc).1 (sh + 5) = mc := by simp [shP]
theorem shP_a0 {M : mz_M} {sh : Nat} {s l t m p : Int32} {J : Nat → Int64} {lt lc mo mc : Nat → Int32} : (shP M sh s l t m p J lt lc mo mc).2.1 (sh + 1) = J := by simp [shP]
theorem shP_u5 {M : mz_M} {sh : Nat} {s l t m p : Int32} {J : Nat → Int64} {lt lc mo mc : Nat → Int32} {x : Int32} : mz_uI (shP M sh s l t m p J lt lc mo mc) sh 5 x = shP M sh x l t m p J lt lc mo mc := by
  unfold mz_uI shP
  refine Prod.ext ?_ rfl
  funext a
  by_cases h : a = sh
  · subst h
    funext k
    rcases k with _ | _ | _ | _ | _ | _ | _ | _ | _ | _ | k <;> simp [va_up, shF]
  · simp [va_up, h]
theorem shP_u6 {M : mz_M} {sh : Nat} {s l t m p : Int32} {J : Nat → Int64} {lt lc mo mc : Nat → Int32} {x : Int32} : mz_uI (shP M sh s l t m p J lt lc mo mc) sh 6 x = shP M sh s x t m p J lt lc mo mc := by
  unfold mz_uI shP
  refine Prod.ext ?_ rfl
  funext a
  by_cases h : a = sh
  · subst h
    funext k
    rcases k with _ | _ | _ | _ | _ | _ | _ | _ | _ | _ | k <;> simp [va_up, shF]
  · simp [va_up, h]
theorem shP_u7 {M : mz_M} {sh : Nat} {s l t m p : Int32} {J : Nat → Int64} {lt lc mo mc : Nat → Int32} {x : Int32} : mz_uI (shP M sh s l t m p J lt lc mo mc) sh 7 x = shP M sh s l x m p J lt lc mo mc := by
  unfold mz_uI shP
  refine Prod.ext ?_ rfl
  funext a
  by_cases h : a = sh
  · subst h
    funext k
    rcases k with _ | _ | _ | _ | _ | _ | _ | _ | _ | _ | k <;> simp [va_up, shF]
  · simp [va_up, h]
theorem shP_u8 {M : mz_M} {sh : Nat} {s l t m p : Int32} {J : Nat → Int64} {lt lc mo mc : Nat → Int32} {x : Int32} : mz_uI (shP M sh s l t m p J lt lc mo mc) sh 8 x = shP M sh s l t x p J lt lc mo mc := by
  unfold mz_uI shP
  refine Prod.ext ?_ rfl
  funext a
  by_cases h : a = sh
  · subst h
    funext k
    rcases k with _ | _ | _ | _ | _ | _ | _ | _ | _ | _ | k <;> simp [va_up, shF]
  · simp [va_up, h]
theorem shP_u9 {M : mz_M} {sh : Nat} {s l t m p : Int32} {J : Nat → Int64} {lt lc mo mc : Nat → Int32} {x : Int32} : mz_uI (shP M sh s l t m p J lt lc mo mc) sh 9 x = shP M sh s l t m x J lt lc mo mc := by
  unfold mz_uI shP
  refine Prod.ext ?_ rfl
  funext a
  by_cases h : a = sh
  · subst h
    funext k
    rcases k with _ | _ | _ | _ | _ | _ | _ | _ | _ | _ | k <;> simp [va_up, shF]
  · simp [va_up, h]
theorem shP_w1 {M : mz_M} {sh : Nat} {s l t m p : Int32} {J : Nat → Int64} {lt lc mo mc : Nat → Int32} {k : Nat} {x : Int32} : mz_uI (shP M sh s l t m p J lt lc mo mc) (sh + 2) k x = shP M sh s l t m p J (va_up lt k x) lc mo mc := by
  unfold mz_uI shP
  refine Prod.ext ?_ rfl
  funext a
  by_cases h : a = sh + 2
  · subst h
    simp [va_up]
  · simp [va_up, h]
theorem shP_w2 {M : mz_M} {sh : Nat} {s l t m p : Int32} {J : Nat → Int64} {lt lc mo mc : Nat → Int32} {k : Nat} {x : Int32} : mz_uI (shP M sh s l t m p J lt lc mo mc) (sh + 3) k x = shP M sh s l t m p J lt (va_up lc k x) mo mc := by
  unfold mz_uI shP
  refine Prod.ext ?_ rfl
  funext a
  by_cases h : a = sh + 3
  · subst h
    simp [va_up]
  · simp [va_up, h]
theorem shP_w3 {M : mz_M} {sh : Nat} {s l t m p : Int32} {J : Nat → Int64} {lt lc mo mc : Nat → Int32} {k : Nat} {x : Int32} : mz_uI (shP M sh s l t m p J lt lc mo mc) (sh + 4) k x = shP M sh s l t m p J lt lc (va_up mo k x) mc := by
  unfold mz_uI shP
  refine Prod.ext ?_ rfl
  funext a
  by_cases h : a = sh + 4
  · subst h
    simp [va_up]
  · simp [va_up, h]
theorem shP_w4 {M : mz_M} {sh : Nat} {s l t m p : Int32} {J : Nat → Int64} {lt lc mo mc : Nat → Int32} {k : Nat} {x : Int32} : mz_uI (shP M sh s l t m p J lt lc mo mc) (sh + 5) k x = shP M sh s l t m p J lt lc mo (va_up mc k x) := by
  unfold mz_uI shP
  refine Prod.ext ?_ rfl
  funext a
  by_cases h : a = sh + 5
  · subst h
    simp [va_up]
  · simp [va_up, h]
theorem shP_w0 {M : mz_M} {sh : Nat} {s l t m p : Int32} {J : Nat → Int64} {lt lc mo mc : Nat → Int32} {k : Nat} {x : Int64} : mz_uJ (shP M sh s l t m p J lt lc mo mc) (sh + 1) k x = shP M sh s l t m p (va_up J k x) lt lc mo mc := by
  unfold mz_uJ shP
  refine Prod.ext rfl (Prod.ext ?_ rfl)
  funext a
  by_cases h : a = sh + 1
  · subst h
    simp [va_up]
  · simp [va_up, h]
theorem shP_eta {M : mz_M} {sh : Nat} : shP M sh (M.1 sh 5) (M.1 sh 6) (M.1 sh 7) (M.1 sh 8) (M.1 sh 9) (M.2.1 (sh + 1)) (M.1 (sh + 2)) (M.1 (sh + 3)) (M.1 (sh + 4)) (M.1 (sh + 5)) = M := by
  obtain ⟨A, B, G⟩ := M
  unfold shP
  refine Prod.ext ?_ (Prod.ext ?_ rfl)
  · funext a
    by_cases h : a = sh
    · subst h
      funext k
      rcases k with _ | _ | _ | _ | _ | _ | _ | _ | _ | _ | k <;> simp [shF]
    · by_cases h2 : a = sh + 2
      · subst h2; simp
      · by_cases h3 : a = sh + 3
        · subst h3; simp
        · by_cases h4 : a = sh + 4
          · subst h4; simp
          · by_cases h5 : a = sh + 5
            · subst h5; simp
            · simp [h, h2, h3, h4, h5]
  · funext a
    by_cases h : a = sh + 1
    · subst h; simp
    · simp [h]
theorem shP_o {M : mz_M} {sh : Nat} {s l t m p : Int32} {J : Nat → Int64} {lt lc mo mc : Nat → Int32} {a : Nat} (h0 : a ≠ sh) (h2 : a ≠ sh + 2) (h3 : a ≠ sh + 3) (h4 : a ≠ sh + 4) (h5 : a ≠ sh + 5) : (shP M sh s l t m p J lt lc mo mc).1 a = M.1 a := by simp [shP, h0, h2, h3, h4, h5]
theorem shP_oJ {M : mz_M} {sh : Nat} {s l t m p : Int32} {J : Nat → Int64} {lt lc mo mc : Nat → Int32} {a : Nat} (h : a ≠ sh + 1) : (shP M sh s l t m p J lt lc mo mc).2.1 a = M.2.1 a := by simp [shP, h]
theorem p_Sh_has {M : mz_M} {sc : Option (Nat × Nat × (Nat → Int32))} {sa : Nat → Nat} {d : Nat} {z : Nat × Nat} {sh N : Nat} {s l t m p : Int32} {J : Nat → Int64} {lt lc mo mc : Nat → Int32} (w : g_Sh M.2.2 sh N) {n : Nat} (hn : m = nI n) (hN : n ≤ N) (hM : N ≤ 200) {j : Nat} (hj : j < n)  : zx sc sa (d + 1) 19 [.ref sh, .int (nI j)] (shP M sh s l t m p J lt lc mo mc) z z (some (.int 1)) (shP M sh s l t m p J lt lc mo mc) := by
  have h := s_Sh_has1 (sc := sc) (sa := sa) (d := d) (z := z) (M := shP M sh s l t m p J lt lc mo mc) w (by rw [shP_g8]; exact hn) hN hM hj
  exact h
theorem p_Sh_wayFrom {M : mz_M} {sc : Option (Nat × Nat × (Nat → Int32))} {sa : Nat → Nat} {d : Nat} {z : Nat × Nat} {sh N : Nat} {s l t m p : Int32} {J : Nat → Int64} {lt lc mo mc : Nat → Int32} (w : g_Sh M.2.2 sh N) {n : Nat} (hn : m = nI n) (hN : n ≤ N) (hM : N ≤ 200) {j : Nat} (hj : j < n) (hf : okl lt n)  : zx sc sa (d + 1) 39 [.ref sh, .int (nI j)] (shP M sh s l t m p J lt lc mo mc) z z (some (.int (nI (wl lt n j)))) (shP M sh s l t m p J lt lc mo mc) := by
  have h := s_Sh_wayFrom (sc := sc) (sa := sa) (d := d) (z := z) (M := shP M sh s l t m p J lt lc mo mc) w (by rw [shP_g8]; exact hn) hN hM hj (by rw [shP_a1]; exact hf)
  rw [shP_a1] at h
  exact h
theorem p_Sh_isTooLong {M : mz_M} {sc : Option (Nat × Nat × (Nat → Int32))} {sa : Nat → Nat} {d : Nat} {z : Nat × Nat} {sh N : Nat} {s l t m p : Int32} {J : Nat → Int64} {lt lc mo mc : Nat → Int32} (w : g_Sh M.2.2 sh N) {x : Int32} : zx sc sa (d + 1) 49 [.ref sh, .int x] (shP M sh s l t m p J lt lc mo mc) z z (some (.int (bz (l = 2 ∧ ¬ x ≤ t)))) (shP M sh s l t m p J lt lc mo mc) := by
  have h := s_Sh_isTooLong (sc := sc) (sa := sa) (d := d) (z := z) (M := shP M sh s l t m p J lt lc mo mc) w (x := x)
  simp only [shP_g6, shP_g7] at h
  exact h
theorem p_Sh_linksBefore {M : mz_M} {sc : Option (Nat × Nat × (Nat → Int32))} {sa : Nat → Nat} {d : Nat} {z : Nat × Nat} {sh N : Nat} {s l t m p : Int32} {J : Nat → Int64} {lt lc mo mc : Nat → Int32} (w : g_Sh M.2.2 sh N) {n : Nat} (hn : m = nI n) (hN : n ≤ N) (hM : N ≤ 200) {j : Nat} (hj : j < n) (hf : okl lt n) {cell : Int32} : zx sc sa (d + 1) 51 [.ref sh, .int (nI j), .int cell] (shP M sh s l t m p J lt lc mo mc) z z (some (.int (nI (la lt lc cell n j)))) (shP M sh s l t m p J lt lc mo mc) := by
  have h := s_Sh_linksBefore (sc := sc) (sa := sa) (d := d) (z := z) (M := shP M sh s l t m p J lt lc mo mc) w (by rw [shP_g8]; exact hn) hN hM hj (by rw [shP_a1]; exact hf) (cell := cell)
  rw [shP_a1, shP_a2] at h
  exact h
theorem p_Sh_numberAt {M : mz_M} {sc : Option (Nat × Nat × (Nat → Int32))} {sa : Nat → Nat} {d : Nat} {z : Nat × Nat} {sh N : Nat} {s l t m p : Int32} {J : Nat → Int64} {lt lc mo mc : Nat → Int32} (w : g_Sh M.2.2 sh N) {n : Nat} (hn : m = nI n) (hN : n ≤ N) (hM : N ≤ 200) {j : Nat} (hj : j < n) {cell : Int32} : zx sc sa (d + 2) 24 [.ref sh, .int (nI j), .int cell] (shP M sh s l t m p J lt lc mo mc) z z (some (.int (nmI (J j) cell))) (shP M sh s l t m p J lt lc mo mc) := by
  have h := s_Sh_numberAt (sc := sc) (sa := sa) (d := d) (z := z) (M := shP M sh s l t m p J lt lc mo mc) w (by rw [shP_g8]; exact hn) hN hM hj (cell := cell)
  rw [shP_a0] at h
  exact h
theorem p_Sh_rowOf {M : mz_M} {sc : Option (Nat × Nat × (Nat → Int32))} {sa : Nat → Nat} {d : Nat} {z : Nat × Nat} {sh N : Nat} {s l t m p : Int32} {J : Nat → Int64} {lt lc mo mc : Nat → Int32} (w : g_Sh M.2.2 sh N) {n : Nat} (hn : m = nI n) (hN : n ≤ N) (hM : N ≤ 200) {j : Nat} (hj : j < n)  : zx sc sa (d + 2) 23 [.ref sh, .int (nI j)] (shP M sh s l t m p J lt lc mo mc) z z (some (.long (J j))) (shP M sh s l t m p J lt lc mo mc) := by
  have h := s_Sh_rowOf (sc := sc) (sa := sa) (d := d) (z := z) (M := shP M sh s l t m p J lt lc mo mc) w (by rw [shP_g8]; exact hn) hN hM hj
  rw [shP_a0] at h
  exact h
theorem p_Sh_isDirect {M : mz_M} {sc : Option (Nat × Nat × (Nat → Int32))} {sa : Nat → Nat} {d : Nat} {z : Nat × Nat} {sh N : Nat} {s l t m p : Int32} {J : Nat → Int64} {lt lc mo mc : Nat → Int32} (w : g_Sh M.2.2 sh N) {n : Nat} (hn : m = nI n) (hN : n ≤ N) (hM : N ≤ 200) {j : Nat} (hj : j < n)  : zx sc sa (d + 2) 37 [.ref sh, .int (nI j)] (shP M sh s l t m p J lt lc mo mc) z z (some (.int (bz (lt j = -1)))) (shP M sh s l t m p J lt lc mo mc) := by
  have h := s_Sh_isDirect (sc := sc) (sa := sa) (d := d) (z := z) (M := shP M sh s l t m p J lt lc mo mc) w (by rw [shP_g8]; exact hn) hN hM hj
  rw [shP_a1] at h
  exact h
theorem p_Sh_forget {sc : Option (Nat × Nat × (Nat → Int32))} {sa : Nat → Nat} {d : Nat} {M : mz_M} {z : Nat × Nat} {sh N : Nat} {s l t m p : Int32} {J : Nat → Int64} {lt lc mo mc : Nat → Int32} (w : g_Sh M.2.2 sh N)  : zx sc sa (d + 1) 16 [.ref sh] (shP M sh s l t m p J lt lc mo mc) z z none (shP M sh 0 0 0 0 0 J lt lc mo mc) := by
  refine zxin ym_Sh_forget [.ref sh] rfl rfl rfl rfl ?_
  refine z_aload_n (q := 1) rfl rfl rfl ?_
  refine z_iconst (q := 2) (v := 0) rfl rfl rfl ?_
  refine z_putI (q := 5) rfl rfl rfl (by decide) rfl rfl (Sh_k w) ?_
  rw [shP_u5]
  refine z_aload_n (q := 6) rfl rfl rfl ?_
  refine z_iconst (q := 7) (v := 0) rfl rfl rfl ?_
  refine z_putI (q := 10) rfl rfl rfl (by decide) rfl rfl (Sh_k w) ?_
  rw [shP_u6]
  refine z_aload_n (q := 11) rfl rfl rfl ?_
  refine z_iconst (q := 12) (v := 0) rfl rfl rfl ?_
  refine z_putI (q := 15) rfl rfl rfl (by decide) rfl rfl (Sh_k w) ?_
  rw [shP_u7]
  refine z_aload_n (q := 16) rfl rfl rfl ?_
  refine z_iconst (q := 17) (v := 0) rfl rfl rfl ?_
  refine z_putI (q := 20) rfl rfl rfl (by decide) rfl rfl (Sh_k w) ?_
  rw [shP_u8]
  refine z_aload_n (q := 21) rfl rfl rfl ?_
  refine z_iconst (q := 22) (v := 0) rfl rfl rfl ?_
  refine z_putI (q := 25) rfl rfl rfl (by decide) rfl rfl (Sh_k w) ?_
  rw [shP_u9]
  refine z_ret rfl rfl ?_
  exact ⟨rfl, rfl⟩
theorem p_Sh_begin {sc : Option (Nat × Nat × (Nat → Int32))} {sa : Nat → Nat} {d : Nat} {M : mz_M} {z : Nat × Nat} {sh N : Nat} {s l t m p : Int32} {J : Nat → Int64} {lt lc mo mc : Nat → Int32} (w : g_Sh M.2.2 sh N) (hN : 0 < N) (hM : N ≤ 200) {a b e : Int32} {row : Int64} : zx sc sa (d + 1) 17 [.ref sh, .int a, .int b, .int e, .long row] (shP M sh s l t m p J lt lc mo mc) z z none (shP M sh a b e 1 0 (va_up J 0 row) (va_up lt 0 (-1)) (va_up lc 0 (-1)) (va_up mo 0 (-1)) (va_up mc 0 (-1))) := by
  refine zxin ym_Sh_begin [.ref sh, .int a, .int b, .int e, .long row, .retAddr 0] rfl rfl rfl rfl ?_
  refine z_aload_n (q := 1) rfl rfl rfl ?_
  refine z_iload_n (q := 2) rfl rfl rfl ?_
  refine z_putI (q := 5) rfl rfl rfl (by decide) rfl rfl (Sh_k w) ?_
  rw [shP_u5]
  refine z_aload_n (q := 6) rfl rfl rfl ?_
  refine z_iload_n (q := 7) rfl rfl rfl ?_
  refine z_putI (q := 10) rfl rfl rfl (by decide) rfl rfl (Sh_k w) ?_
  rw [shP_u6]
  refine z_aload_n (q := 11) rfl rfl rfl ?_
  refine z_iload_n (q := 12) rfl rfl rfl ?_
  refine z_putI (q := 15) rfl rfl rfl (by decide) rfl rfl (Sh_k w) ?_
  rw [shP_u7]
  refine z_aload_n (q := 16) rfl rfl rfl ?_
  refine z_iconst (q := 17) (v := 0) rfl rfl rfl ?_
  refine z_putI (q := 20) rfl rfl rfl (by decide) rfl rfl (Sh_k w) ?_
  rw [shP_u9]
  refine z_aload_n (q := 21) rfl rfl rfl ?_
  refine z_iconst (q := 22) (v := 1) rfl rfl rfl ?_
  refine z_putI (q := 25) rfl rfl rfl (by decide) rfl rfl (Sh_k w) ?_
  rw [shP_u8]
  refine z_aload_n (q := 26) rfl rfl rfl ?_
  refine z_getR (q := 29) rfl rfl rfl (Sh_k w) (Sh_r0 w) ?_
  refine z_iconst (q := 30) (v := 0) rfl rfl rfl ?_
  refine z_lload (q := 32) rfl rfl rfl ?_
  refine z_last (q := 33) rfl rfl (Sh_a0 w) (vp_in_nI (n := 0) (by omega) (by omega)) ?_
  rw [shP_w0]
  try rw [nI_clamp (by omega)]
  refine z_aload_n (q := 34) rfl rfl rfl ?_
  refine z_getR (q := 37) rfl rfl rfl (Sh_k w) (Sh_r1 w) ?_
  refine z_iconst (q := 38) (v := 0) rfl rfl rfl ?_
  refine z_iconst (q := 39) (v := -1) rfl rfl rfl ?_
  refine z_iast (q := 40) rfl rfl (Sh_a1 w) (vp_in_nI (n := 0) (by omega) (by omega)) ?_
  rw [shP_w1]
  try rw [nI_clamp (by omega)]
  refine z_aload_n (q := 41) rfl rfl rfl ?_
  refine z_getR (q := 44) rfl rfl rfl (Sh_k w) (Sh_r2 w) ?_
  refine z_iconst (q := 45) (v := 0) rfl rfl rfl ?_
  refine z_iconst (q := 46) (v := -1) rfl rfl rfl ?_
  refine z_iast (q := 47) rfl rfl (Sh_a2 w) (vp_in_nI (n := 0) (by omega) (by omega)) ?_
  rw [shP_w2]
  try rw [nI_clamp (by omega)]
  refine z_aload_n (q := 48) rfl rfl rfl ?_
  refine z_getR (q := 51) rfl rfl rfl (Sh_k w) (Sh_r3 w) ?_
  refine z_iconst (q := 52) (v := 0) rfl rfl rfl ?_
  refine z_iconst (q := 53) (v := -1) rfl rfl rfl ?_
  refine z_iast (q := 54) rfl rfl (Sh_a3 w) (vp_in_nI (n := 0) (by omega) (by omega)) ?_
  rw [shP_w3]
  try rw [nI_clamp (by omega)]
  refine z_aload_n (q := 55) rfl rfl rfl ?_
  refine z_getR (q := 58) rfl rfl rfl (Sh_k w) (Sh_r4 w) ?_
  refine z_iconst (q := 59) (v := 0) rfl rfl rfl ?_
  refine z_iconst (q := 60) (v := -1) rfl rfl rfl ?_
  refine z_iast (q := 61) rfl rfl (Sh_a4 w) (vp_in_nI (n := 0) (by omega) (by omega)) ?_
  rw [shP_w4]
  try rw [nI_clamp (by omega)]
  refine z_ret rfl rfl ?_
  exact ⟨rfl, rfl⟩
theorem p_Sh_giveRow {sc : Option (Nat × Nat × (Nat → Int32))} {sa : Nat → Nat} {d : Nat} {M : mz_M} {z : Nat × Nat} {sh N : Nat} {s l t m p : Int32} {J : Nat → Int64} {lt lc mo mc : Nat → Int32} (w : g_Sh M.2.2 sh N) {n : Nat} (hn : m = nI n) (hN : n ≤ N) (hM : N ≤ 200) {j : Nat} (hj : j < n) {x : Int32} : zx sc sa (d + 1) 54 [.ref sh, .int (nI j), .int x] (shP M sh s l t m p J lt lc mo mc) z z none (shP M sh s l t m (p + (x + s)) J (va_up lt j (-1)) (va_up lc j (-1)) mo mc) := by
  refine zxin ym_Sh_giveRow [.ref sh, .int (nI j), .int x] rfl rfl rfl rfl ?_
  refine z_iload_n (q := 1) rfl rfl rfl ?_
  refine z_if_lt (q := 4) rfl rfl (fun h1 => ?_) (fun h1 => ?_)
  · exact absurd h1 (nI_pos (by omega))
  · refine z_iload_n (q := 5) rfl rfl rfl ?_
    refine z_aload_n (q := 6) rfl rfl rfl ?_
    refine z_getI (q := 9) rfl rfl rfl (Sh_k w) ?_
    rw [shP_g8]
    refine z_ic_ge (q := 12) rfl rfl (fun h9 => ?_) (fun h9 => ?_)
    · rw [hn] at h9
      exact absurd h9 (nI_ge (by omega) (by omega))
    · refine z_aload_n (q := 13) rfl rfl rfl ?_
      refine z_getR (q := 16) rfl rfl rfl (Sh_k w) (Sh_r1 w) ?_
      refine z_iload_n (q := 17) rfl rfl rfl ?_
      refine z_iconst (q := 18) (v := -1) rfl rfl rfl ?_
      refine z_iast (q := 19) rfl rfl (Sh_a1 w) (by first | assumption | exact vp_in_nI (by omega) (by omega)) ?_
      rw [shP_w1]
      try rw [nI_clamp (by omega)]
      refine z_aload_n (q := 20) rfl rfl rfl ?_
      refine z_getR (q := 23) rfl rfl rfl (Sh_k w) (Sh_r2 w) ?_
      refine z_iload_n (q := 24) rfl rfl rfl ?_
      refine z_iconst (q := 25) (v := -1) rfl rfl rfl ?_
      refine z_iast (q := 26) rfl rfl (Sh_a2 w) (by first | assumption | exact vp_in_nI (by omega) (by omega)) ?_
      rw [shP_w2]
      try rw [nI_clamp (by omega)]
      refine z_aload_n (q := 27) rfl rfl rfl ?_
      refine z_dup (q := 28) rfl rfl rfl ?_
      refine z_getI (q := 31) rfl rfl rfl (Sh_k w) ?_
      rw [shP_g9]
      refine z_iload_n (q := 32) rfl rfl rfl ?_
      refine z_aload_n (q := 33) rfl rfl rfl ?_
      refine z_getI (q := 36) rfl rfl rfl (Sh_k w) ?_
      rw [shP_g5]
      refine z_iadd (q := 37) rfl rfl ?_
      refine z_iadd (q := 38) rfl rfl ?_
      refine z_putI (q := 41) rfl rfl rfl (by decide) rfl rfl (Sh_k w) ?_
      rw [shP_u9]
      refine z_ret rfl rfl ?_
      exact ⟨rfl, rfl⟩
def twF : Nat → Int32 → Int32 → Int32 → (Nat → Int32) → (Nat → Int32) → (Nat → Int32) × (Nat → Int32)
  | 0, _, _, _, lt, lc => (lt, lc)
  | k + 1, a, b, bc, lt, lc => if a = -1 then (lt, lc) else twF k (lt a.toNatClampNeg) a (lc a.toNatClampNeg) (va_up lt a.toNatClampNeg b) (va_up lc a.toNatClampNeg bc)
theorem okl_up {f : Nat → Int32} {n k : Nat} {b : Int32} (h : okl f n) (hb : okv n b) : okl (va_up f k b) n := by
  intro v hv
  by_cases e : v = k
  · have : va_up f k b v = b := by simp [va_up, e]
    rw [this]
    exact hb
  · have : va_up f k b v = f v := by simp [va_up, e]
    rw [this]
    exact h v hv
theorem okv_p {n : Nat} {a : Int32} (h : okv n a) (h1 : ¬ a = -1) (hn : n < 2 ^ 31) : ¬ a < 0 ∧ ¬ nI n ≤ a := by
  rcases h with h | ⟨u, hu, rfl⟩
  · exact absurd h h1
  · exact ⟨nI_pos (by omega), nI_ge hu hn⟩
theorem okv_q {n : Nat} {a : Int32} (h : okv n a) (h1 : a < 0) (hn : n < 2 ^ 31) : a = -1 := by
  rcases h with h | ⟨u, hu, rfl⟩
  · exact h
  · exact absurd h1 (nI_pos (by omega))
theorem l_Sh_turnWay {sc : Option (Nat × Nat × (Nat → Int32))} {sa : Nat → Nat} {d : Nat} {M : mz_M} {z : Nat × Nat} {sh N : Nat} {s l t m p : Int32} {J : Nat → Int64} {mo mc : Nat → Int32} (w : g_Sh M.2.2 sh N) {n : Nat} (hn : m = nI n) (hN : n ≤ N) (hM : N ≤ 200) {v0 : Int32} {lf cf : Nat → Int32} : ∀ (k : Nat) (i : Nat) (a b bc : Int32) (lt lc : Nat → Int32) (x0 x1 : Value), i + k = n → okv n a → okv n b → okl lt n → twF k a b bc lt lc = (lf, cf) → zw sc sa d ym_Sh_turnWay z (fun r' M' => r' = none ∧ M' = (shP M sh s l t m p J lf cf mo mc)) 10 [.ref sh, .int v0, .int a, .int b, .int bc, .int (nI i), x0, x1] [] (shP M sh s l t m p J lt lc mo mc) z := by
  intro k
  induction k with
  | zero =>
    intro i a b bc lt lc x0 x1 hi ha hb hf hm
    have e1 : i = n := by omega
    subst e1
    have e2 : (lt, lc) = (lf, cf) := hm
    obtain ⟨rfl, rfl⟩ := Prod.mk.inj e2
    refine z_iload (q := 12) rfl rfl rfl ?_
    refine z_aload_n (q := 13) rfl rfl rfl ?_
    refine z_getI (q := 16) rfl rfl rfl (Sh_k w) ?_
    rw [shP_g8]
    refine z_ic_ge (q := 19) rfl rfl (fun h16 => ?_) (fun h16 => ?_)
    · refine z_ret rfl rfl ?_
      exact ⟨rfl, rfl⟩
    · exact absurd (by rw [hn]; exact nI_le (Nat.le_refl _) (by omega)) h16
  | succ k ih =>
    intro i a b bc lt lc x0 x1 hi ha hb hf hm
    refine z_iload (q := 12) rfl rfl rfl ?_
    refine z_aload_n (q := 13) rfl rfl rfl ?_
    refine z_getI (q := 16) rfl rfl rfl (Sh_k w) ?_
    rw [shP_g8]
    refine z_ic_ge (q := 19) rfl rfl (fun h16 => ?_) (fun h16 => ?_)
    · rw [hn] at h16
      exact absurd h16 (nI_ge (by omega) (by omega))
    · refine z_iload_n (q := 20) rfl rfl rfl ?_
      refine z_if_lt (q := 23) rfl rfl (fun h20 => ?_) (fun h20 => ?_)
      · refine z_ret rfl rfl ?_
        have h9 : a = -1 := okv_q ha h20 (by omega)
        unfold twF at hm
        rw [if_pos h9] at hm
        obtain ⟨rfl, rfl⟩ := Prod.mk.inj hm
        exact ⟨rfl, rfl⟩
      · refine z_iload_n (q := 24) rfl rfl rfl ?_
        refine z_aload_n (q := 25) rfl rfl rfl ?_
        refine z_getI (q := 28) rfl rfl rfl (Sh_k w) ?_
        rw [shP_g8]
        refine z_ic_ge (q := 31) rfl rfl (fun h28 => ?_) (fun h28 => ?_)
        · rw [hn] at h28
          exact absurd h28 (okv_p ha (fun e => absurd h20 (by rw [e]; decide)) (by omega)).2
        · refine z_aload_n (q := 32) rfl rfl rfl ?_
          refine z_getR (q := 35) rfl rfl rfl (Sh_k w) (Sh_r1 w) ?_
          refine z_iload_n (q := 36) rfl rfl rfl ?_
          refine z_iald (q := 37) rfl rfl (Sh_a1 w) (okv_in ha (fun e => absurd h20 (by rw [e]; decide)) hN (by omega)) ?_
          rw [shP_a1]
          try rw [nI_clamp (by omega)]
          refine z_istore (q := 39) (L2 := [_, _, _, _, _, _, _, _]) rfl rfl rfl rfl ?_
          refine z_aload_n (q := 40) rfl rfl rfl ?_
          refine z_getR (q := 43) rfl rfl rfl (Sh_k w) (Sh_r2 w) ?_
          refine z_iload_n (q := 44) rfl rfl rfl ?_
          refine z_iald (q := 45) rfl rfl (Sh_a2 w) (okv_in ha (fun e => absurd h20 (by rw [e]; decide)) hN (by omega)) ?_
          rw [shP_a2]
          try rw [nI_clamp (by omega)]
          refine z_istore (q := 47) (L2 := [_, _, _, _, _, _, _, _]) rfl rfl rfl rfl ?_
          refine z_aload_n (q := 48) rfl rfl rfl ?_
          refine z_getR (q := 51) rfl rfl rfl (Sh_k w) (Sh_r1 w) ?_
          refine z_iload_n (q := 52) rfl rfl rfl ?_
          refine z_iload_n (q := 53) rfl rfl rfl ?_
          refine z_iast (q := 54) rfl rfl (Sh_a1 w) (okv_in ha (fun e => absurd h20 (by rw [e]; decide)) hN (by omega)) ?_
          rw [shP_w1]
          try rw [nI_clamp (by omega)]
          refine z_aload_n (q := 55) rfl rfl rfl ?_
          refine z_getR (q := 58) rfl rfl rfl (Sh_k w) (Sh_r2 w) ?_
          refine z_iload_n (q := 59) rfl rfl rfl ?_
          refine z_iload (q := 61) rfl rfl rfl ?_
          refine z_iast (q := 62) rfl rfl (Sh_a2 w) (okv_in ha (fun e => absurd h20 (by rw [e]; decide)) hN (by omega)) ?_
          rw [shP_w2]
          try rw [nI_clamp (by omega)]
          refine z_iload_n (q := 63) rfl rfl rfl ?_
          refine z_istore_n (q := 64) (L2 := [_, _, _, _, _, _, _, _]) rfl rfl rfl rfl ?_
          refine z_iload (q := 66) rfl rfl rfl ?_
          refine z_istore (q := 68) (L2 := [_, _, _, _, _, _, _, _]) rfl rfl rfl rfl ?_
          refine z_iload (q := 70) rfl rfl rfl ?_
          refine z_istore_n (q := 71) (L2 := [_, _, _, _, _, _, _, _]) rfl rfl rfl rfl ?_
          refine z_iinc (q := 74) (L2 := [_, _, _, _, _, _, _, _]) rfl rfl rfl rfl ?_
          refine z_goto rfl ?_
          rw [show nI i + Int32.ofInt 1 = nI (i + 1) from (nI_succ i).symm]
          have h9 : ¬ a = -1 := (fun e => absurd h20 (by rw [e]; decide))
          unfold twF at hm
          rw [if_neg h9] at hm
          exact ih (i + 1) _ _ _ _ _ _ _ (by omega) (okv_f hf ha h9 (by omega)) ha (okl_up hf hb) hm
theorem p_Sh_turnWay {sc : Option (Nat × Nat × (Nat → Int32))} {sa : Nat → Nat} {d : Nat} {M : mz_M} {z : Nat × Nat} {sh N : Nat} {s l t m p : Int32} {J : Nat → Int64} {lt lc mo mc : Nat → Int32} (w : g_Sh M.2.2 sh N) {n : Nat} (hn : m = nI n) (hN : n ≤ N) (hM : N ≤ 200) {j : Nat} (hj : j < n) (hf : okl lt n)  : zx sc sa (d + 1) 55 [.ref sh, .int (nI j)] (shP M sh s l t m p J lt lc mo mc) z z none (shP M sh s l t m p J (twF n (nI j) (-1) (-1) lt lc).1 (twF n (nI j) (-1) (-1) lt lc).2 mo mc) := by
  refine zxin ym_Sh_turnWay [.ref sh, .int (nI j), .retAddr 0, .retAddr 0, .retAddr 0, .retAddr 0, .retAddr 0, .retAddr 0] rfl rfl rfl rfl ?_
  refine z_iload_n (q := 1) rfl rfl rfl ?_
  refine z_istore_n (q := 2) (L2 := [_, _, _, _, _, _, _, _]) rfl rfl rfl rfl ?_
  refine z_iconst (q := 3) (v := -1) rfl rfl rfl ?_
  refine z_istore_n (q := 4) (L2 := [_, _, _, _, _, _, _, _]) rfl rfl rfl rfl ?_
  refine z_iconst (q := 5) (v := -1) rfl rfl rfl ?_
  refine z_istore (q := 7) (L2 := [_, _, _, _, _, _, _, _]) rfl rfl rfl rfl ?_
  refine z_iconst (q := 8) (v := 0) rfl rfl rfl ?_
  refine z_istore (q := 10) (L2 := [_, _, _, _, _, _, _, _]) rfl rfl rfl rfl ?_
  exact l_Sh_turnWay w hn hN hM n 0 _ _ _ _ _ _ _ (by omega) (Or.inr ⟨j, hj, rfl⟩) (Or.inl rfl) hf rfl
end
section
def rcF (s l t : Int32) (n j : Nat) (lt lc : Nat → Int32) (p : Int32) : (Nat → Int32) × (Nat → Int32) × Int32 :=
  if l = 2 ∧ ¬ nI (wl lt n j) ≤ t then (va_up lt j (-1), va_up lc j (-1), p + (nI (wl lt n j) + s)) else ((twF n (nI j) (-1) (-1) lt lc).1, (twF n (nI j) (-1) (-1) lt lc).2, p + nI (wl lt n j))
def rdF (s l t : Int32) (n j : Nat) (cell : Int32) (lt lc : Nat → Int32) (p : Int32) : (Nat → Int32) × (Nat → Int32) × Int32 :=
  if l = 1 then (lt, lc, p + nI (la lt lc cell n j)) else rcF s l t n j lt lc p
def stF (s l t : Int32) (n j : Nat) (cell : Int32) (lt lc : Nat → Int32) (p : Int32) : (Nat → Int32) × (Nat → Int32) × Int32 :=
  if l = 1 then (va_up (va_up lt n (-1)) n (nI j), va_up (va_up lc n (-1)) n cell, p + 1)
  else (va_up (va_up (rcF s l t n j lt lc p).1 n (-1)) j (nI n), va_up (va_up (rcF s l t n j lt lc p).2.1 n (-1)) j cell, (rcF s l t n j lt lc p).2.2 + 1)
def frF (s l t : Int32) (n j : Nat) (J : Nat → Int64) : Nat → Int32 → (Nat → Int32) → (Nat → Int32) → Int32 → Int32 × (Nat → Int32) × (Nat → Int32) × Int32
  | 0, a, lt, lc, p => (a, lt, lc, p)
  | k + 1, a, lt, lc, p => if nmI (J j) a = a then (a, rdF s l t n j a lt lc p) else frF s l t n j J k (nmI (J j) a) (rdF s l t n j a lt lc p).1 (rdF s l t n j a lt lc p).2.1 (rdF s l t n j a lt lc p).2.2
theorem okl_tw {n : Nat} (hn : n < 2 ^ 31) : ∀ (k : Nat) (a b bc : Int32) (lt lc : Nat → Int32), okv n a → okv n b → okl lt n → okl (twF k a b bc lt lc).1 n := by
  intro k
  induction k with
  | zero => intro a b bc lt lc _ _ h; exact h
  | succ k ih =>
    intro a b bc lt lc ha hb h
    unfold twF
    by_cases h1 : a = -1
    · rw [if_pos h1]; exact h
    · rw [if_neg h1]
      exact ih _ _ _ _ _ (okv_f h ha h1 hn) ha (okl_up h hb)
theorem okl_rc {s l t : Int32} {n j : Nat} {lt lc : Nat → Int32} {p : Int32} (hn : n < 2 ^ 31) (hj : j < n) (h : okl lt n) : okl (rcF s l t n j lt lc p).1 n := by
  unfold rcF
  by_cases h1 : l = 2 ∧ ¬ nI (wl lt n j) ≤ t
  · rw [if_pos h1]; exact okl_up h (Or.inl rfl)
  · rw [if_neg h1]; exact okl_tw hn _ _ _ _ _ _ (Or.inr ⟨j, hj, rfl⟩) (Or.inl rfl) h
theorem okl_rd {s l t : Int32} {n j : Nat} {cell : Int32} {lt lc : Nat → Int32} {p : Int32} (hn : n < 2 ^ 31) (hj : j < n) (h : okl lt n) : okl (rdF s l t n j cell lt lc p).1 n := by
  unfold rdF
  by_cases h1 : l = 1
  · rw [if_pos h1]; exact h
  · rw [if_neg h1]; exact okl_rc hn hj h
theorem p_Sh_reach {sc : Option (Nat × Nat × (Nat → Int32))} {sa : Nat → Nat} {d : Nat} {M : mz_M} {z : Nat × Nat} {sh N : Nat} {s l t m p : Int32} {J : Nat → Int64} {lt lc mo mc : Nat → Int32} (w : g_Sh M.2.2 sh N) {n : Nat} (hn : m = nI n) (hN : n ≤ N) (hM : N ≤ 200) {j : Nat} (hj : j < n) (hf : okl lt n)  : zx sc sa (d + 2) 53 [.ref sh, .int (nI j)] (shP M sh s l t m p J lt lc mo mc) z z none (shP M sh s l t m (rcF s l t n j lt lc p).2.2 J (rcF s l t n j lt lc p).1 (rcF s l t n j lt lc p).2.1 mo mc) := by
  refine zxin ym_Sh_reach [.ref sh, .int (nI j), .retAddr 0] rfl rfl rfl rfl ?_
  refine z_aload_n (q := 1) rfl rfl rfl ?_
  refine z_iload_n (q := 2) rfl rfl rfl ?_
  refine z_cv1i (q := 5) rfl rfl rfl (Sh_k w) (p_Sh_wayFrom w hn hN hM hj hf) ?_
  refine z_istore_n (q := 6) (L2 := [_, _, _]) rfl rfl rfl rfl ?_
  refine z_aload_n (q := 7) rfl rfl rfl ?_
  refine z_iload_n (q := 8) rfl rfl rfl ?_
  refine z_cv1i (q := 11) rfl rfl rfl (Sh_k w) (p_Sh_isTooLong w) ?_
  refine z_if_eq (q := 14) rfl rfl (fun h11 => ?_) (fun h11 => ?_)
  · refine z_aload_n (q := 24) rfl rfl rfl ?_
    refine z_iload_n (q := 25) rfl rfl rfl ?_
    refine z_cv1v (q := 28) rfl rfl rfl (Sh_k w) (p_Sh_turnWay w hn hN hM hj hf) ?_
    refine z_aload_n (q := 29) rfl rfl rfl ?_
    refine z_dup (q := 30) rfl rfl rfl ?_
    refine z_getI (q := 33) rfl rfl rfl (Sh_k w) ?_
    rw [shP_g9]
    refine z_iload_n (q := 34) rfl rfl rfl ?_
    refine z_iadd (q := 35) rfl rfl ?_
    refine z_putI (q := 38) rfl rfl rfl (by decide) rfl rfl (Sh_k w) ?_
    rw [shP_u9]
    refine z_ret rfl rfl ?_
    first | rw [bz_n] at h11 | rw [bz_0] at h11
    refine ⟨rfl, ?_⟩
    unfold rcF
    first | rw [if_pos h11] | rw [if_neg h11]
  · refine z_aload_n (q := 15) rfl rfl rfl ?_
    refine z_iload_n (q := 16) rfl rfl rfl ?_
    refine z_iload_n (q := 17) rfl rfl rfl ?_
    refine z_cv2v (q := 20) rfl rfl rfl (Sh_k w) (p_Sh_giveRow w hn hN hM hj) ?_
    refine z_goto rfl ?_
    refine z_ret rfl rfl ?_
    first | rw [bz_n] at h11 | rw [bz_0] at h11
    refine ⟨rfl, ?_⟩
    unfold rcF
    first | rw [if_pos h11] | rw [if_neg h11]
theorem p_Sh_readCell {sc : Option (Nat × Nat × (Nat → Int32))} {sa : Nat → Nat} {d : Nat} {M : mz_M} {z : Nat × Nat} {sh N : Nat} {s l t m p : Int32} {J : Nat → Int64} {lt lc mo mc : Nat → Int32} (w : g_Sh M.2.2 sh N) {n : Nat} (hn : m = nI n) (hN : n ≤ N) (hM : N ≤ 200) {j : Nat} (hj : j < n) (hf : okl lt n) {cell : Int32} : zx sc sa (d + 3) 52 [.ref sh, .int (nI j), .int cell] (shP M sh s l t m p J lt lc mo mc) z z (some (.int (nmI (J j) cell))) (shP M sh s l t m (rdF s l t n j cell lt lc p).2.2 J (rdF s l t n j cell lt lc p).1 (rdF s l t n j cell lt lc p).2.1 mo mc) := by
  refine zxin ym_Sh_readCell [.ref sh, .int (nI j), .int cell] rfl rfl rfl rfl ?_
  refine z_aload_n (q := 1) rfl rfl rfl ?_
  refine z_getI (q := 4) rfl rfl rfl (Sh_k w) ?_
  rw [shP_g6]
  refine z_iconst (q := 5) (v := 1) rfl rfl rfl ?_
  refine z_ic_ne (q := 8) rfl rfl (fun h5 => ?_) (fun h5 => ?_)
  · refine z_aload_n (q := 27) rfl rfl rfl ?_
    refine z_iload_n (q := 28) rfl rfl rfl ?_
    refine z_cv1v (q := 31) rfl rfl rfl (Sh_k w) (p_Sh_reach w hn hN hM hj hf) ?_
    refine z_aload_n (q := 32) rfl rfl rfl ?_
    refine z_iload_n (q := 33) rfl rfl rfl ?_
    refine z_iload_n (q := 34) rfl rfl rfl ?_
    refine z_cv2i (q := 37) rfl rfl rfl (Sh_k w) (p_Sh_numberAt w hn hN hM hj) ?_
    refine z_ireti rfl rfl ?_
    refine ⟨rfl, ?_⟩
    unfold rdF
    first | rw [if_pos h5] | rw [if_neg h5]
  · refine z_aload_n (q := 9) rfl rfl rfl ?_
    refine z_dup (q := 10) rfl rfl rfl ?_
    refine z_getI (q := 13) rfl rfl rfl (Sh_k w) ?_
    rw [shP_g9]
    refine z_aload_n (q := 14) rfl rfl rfl ?_
    refine z_iload_n (q := 15) rfl rfl rfl ?_
    refine z_iload_n (q := 16) rfl rfl rfl ?_
    refine z_cv2i (q := 19) rfl rfl rfl (Sh_k w) (p_Sh_linksBefore w hn hN hM hj hf) ?_
    refine z_iadd (q := 20) rfl rfl ?_
    refine z_putI (q := 23) rfl rfl rfl (by decide) rfl rfl (Sh_k w) ?_
    rw [shP_u9]
    refine z_goto rfl ?_
    refine z_aload_n (q := 32) rfl rfl rfl ?_
    refine z_iload_n (q := 33) rfl rfl rfl ?_
    refine z_iload_n (q := 34) rfl rfl rfl ?_
    refine z_cv2i (q := 37) rfl rfl rfl (Sh_k w) (p_Sh_numberAt w hn hN hM hj) ?_
    refine z_ireti rfl rfl ?_
    refine ⟨rfl, ?_⟩
    unfold rdF
    first | rw [if_pos h5] | rw [if_neg h5]
theorem p_Sh_setCell1 {sc : Option (Nat × Nat × (Nat → Int32))} {sa : Nat → Nat} {d : Nat} {M : mz_M} {z : Nat × Nat} {sh N : Nat} {s l t p : Int32} {J : Nat → Int64} {lt lc mo mc : Nat → Int32} (w : g_Sh M.2.2 sh N) {n : Nat} (hN : n < N) (hM : N ≤ 200) {j : Nat} (hj : j < n) (hf : okl lt n) (hl : l = 1) {cell x : Int32} : zx sc sa (d + 3) 56 [.ref sh, .int (nI j), .int cell, .int x] (shP M sh s l t (nI n) p J lt lc mo mc) z z (some (.int (nI n))) (shP M sh s l t (nI n + 1) (p + 1) (va_up J n (wnI (J j) cell x)) (va_up (va_up lt n (-1)) n (nI j)) (va_up (va_up lc n (-1)) n cell) (va_up mo n (nI j)) (va_up mc n cell)) := by
  refine zxin ym_Sh_setCell [.ref sh, .int (nI j), .int cell, .int x, .retAddr 0, .retAddr 0, .retAddr 0] rfl rfl rfl rfl ?_
  refine z_aload_n (q := 1) rfl rfl rfl ?_
  refine z_iload_n (q := 2) rfl rfl rfl ?_
  refine z_cv1i (q := 5) rfl rfl rfl (Sh_k w) (p_Sh_has w rfl (by omega) hM hj) ?_
  refine z_if_eq (q := 8) rfl rfl (fun h5 => ?_) (fun h5 => ?_)
  · exact absurd h5 (by decide)
  · refine z_aload_n (q := 9) rfl rfl rfl ?_
    refine z_getI (q := 12) rfl rfl rfl (Sh_k w) ?_
    rw [shP_g8]
    refine z_aload_n (q := 13) rfl rfl rfl ?_
    refine z_getR (q := 16) rfl rfl rfl (Sh_k w) (Sh_r0 w) ?_
    refine z_alen (q := 17) rfl rfl (Sh_a0 w) rfl rfl ?_
    refine z_ic_lt (q := 20) rfl rfl (fun h17 => ?_) (fun h17 => ?_)
    · refine z_aload_n (q := 23) rfl rfl rfl ?_
      refine z_getI (q := 26) rfl rfl rfl (Sh_k w) ?_
      rw [shP_g6]
      refine z_iconst (q := 27) (v := 1) rfl rfl rfl ?_
      refine z_ic_eq (q := 30) rfl rfl (fun h27 => ?_) (fun h27 => ?_)
      · refine z_aload_n (q := 36) rfl rfl rfl ?_
        refine z_getI (q := 39) rfl rfl rfl (Sh_k w) ?_
        rw [shP_g8]
        refine z_istore (q := 41) (L2 := [_, _, _, _, _, _, _]) rfl rfl rfl rfl ?_
        refine z_aload_n (q := 42) rfl rfl rfl ?_
        refine z_dup (q := 43) rfl rfl rfl ?_
        refine z_getI (q := 46) rfl rfl rfl (Sh_k w) ?_
        rw [shP_g8]
        refine z_iconst (q := 47) (v := 1) rfl rfl rfl ?_
        refine z_iadd (q := 48) rfl rfl ?_
        refine z_putI (q := 51) rfl rfl rfl (by decide) rfl rfl (Sh_k w) ?_
        rw [shP_u8]
        refine z_aload_n (q := 52) rfl rfl rfl ?_
        refine z_getR (q := 55) rfl rfl rfl (Sh_k w) (Sh_r0 w) ?_
        refine z_iload (q := 57) rfl rfl rfl ?_
        refine z_aload_n (q := 58) rfl rfl rfl ?_
        refine z_getR (q := 61) rfl rfl rfl (Sh_k w) (Sh_r0 w) ?_
        refine z_iload_n (q := 62) rfl rfl rfl ?_
        refine z_lald (q := 63) rfl rfl (Sh_a0 w) (by first | assumption | exact vp_in_nI (by omega) (by omega)) ?_
        rw [shP_a0]
        try rw [nI_clamp (by omega)]
        refine z_iload_n (q := 64) rfl rfl rfl ?_
        refine z_iload_n (q := 65) rfl rfl rfl ?_
        refine z_cs3l (q := 68) rfl rfl rfl (s_Sh_withNumber) ?_
        refine z_last (q := 69) rfl rfl (Sh_a0 w) (by first | assumption | exact vp_in_nI (by omega) (by omega)) ?_
        rw [shP_w0]
        try rw [nI_clamp (by omega)]
        refine z_aload_n (q := 70) rfl rfl rfl ?_
        refine z_getR (q := 73) rfl rfl rfl (Sh_k w) (Sh_r3 w) ?_
        refine z_iload (q := 75) rfl rfl rfl ?_
        refine z_iload_n (q := 76) rfl rfl rfl ?_
        refine z_iast (q := 77) rfl rfl (Sh_a3 w) (by first | assumption | exact vp_in_nI (by omega) (by omega)) ?_
        rw [shP_w3]
        try rw [nI_clamp (by omega)]
        refine z_aload_n (q := 78) rfl rfl rfl ?_
        refine z_getR (q := 81) rfl rfl rfl (Sh_k w) (Sh_r4 w) ?_
        refine z_iload (q := 83) rfl rfl rfl ?_
        refine z_iload_n (q := 84) rfl rfl rfl ?_
        refine z_iast (q := 85) rfl rfl (Sh_a4 w) (by first | assumption | exact vp_in_nI (by omega) (by omega)) ?_
        rw [shP_w4]
        try rw [nI_clamp (by omega)]
        refine z_aload_n (q := 86) rfl rfl rfl ?_
        refine z_getI (q := 89) rfl rfl rfl (Sh_k w) ?_
        rw [shP_g6]
        refine z_iconst (q := 90) (v := 1) rfl rfl rfl ?_
        refine z_ic_ne (q := 93) rfl rfl (fun h90 => ?_) (fun h90 => ?_)
        · exact absurd hl h90
        · refine z_iload (q := 95) rfl rfl rfl ?_
          refine z_goto rfl ?_
          refine z_istore (q := 101) (L2 := [_, _, _, _, _, _, _]) rfl rfl rfl rfl ?_
          refine z_aload_n (q := 102) rfl rfl rfl ?_
          refine z_getI (q := 105) rfl rfl rfl (Sh_k w) ?_
          rw [shP_g6]
          refine z_iconst (q := 106) (v := 1) rfl rfl rfl ?_
          refine z_ic_ne (q := 109) rfl rfl (fun h106 => ?_) (fun h106 => ?_)
          · exact absurd hl h106
          · refine z_iload_n (q := 110) rfl rfl rfl ?_
            refine z_goto rfl ?_
            refine z_istore (q := 117) (L2 := [_, _, _, _, _, _, _]) rfl rfl rfl rfl ?_
            refine z_aload_n (q := 118) rfl rfl rfl ?_
            refine z_getR (q := 121) rfl rfl rfl (Sh_k w) (Sh_r1 w) ?_
            refine z_iload (q := 123) rfl rfl rfl ?_
            refine z_iconst (q := 124) (v := -1) rfl rfl rfl ?_
            refine z_iast (q := 125) rfl rfl (Sh_a1 w) (by first | assumption | exact vp_in_nI (by omega) (by omega)) ?_
            rw [shP_w1]
            try rw [nI_clamp (by omega)]
            refine z_aload_n (q := 126) rfl rfl rfl ?_
            refine z_getR (q := 129) rfl rfl rfl (Sh_k w) (Sh_r2 w) ?_
            refine z_iload (q := 131) rfl rfl rfl ?_
            refine z_iconst (q := 132) (v := -1) rfl rfl rfl ?_
            refine z_iast (q := 133) rfl rfl (Sh_a2 w) (by first | assumption | exact vp_in_nI (by omega) (by omega)) ?_
            rw [shP_w2]
            try rw [nI_clamp (by omega)]
            refine z_aload_n (q := 134) rfl rfl rfl ?_
            refine z_getR (q := 137) rfl rfl rfl (Sh_k w) (Sh_r1 w) ?_
            refine z_iload (q := 139) rfl rfl rfl ?_
            refine z_iload (q := 141) rfl rfl rfl ?_
            refine z_iast (q := 142) rfl rfl (Sh_a1 w) (by first | assumption | exact vp_in_nI (by omega) (by omega)) ?_
            rw [shP_w1]
            try rw [nI_clamp (by omega)]
            refine z_aload_n (q := 143) rfl rfl rfl ?_
            refine z_getR (q := 146) rfl rfl rfl (Sh_k w) (Sh_r2 w) ?_
            refine z_iload (q := 148) rfl rfl rfl ?_
            refine z_iload_n (q := 149) rfl rfl rfl ?_
            refine z_iast (q := 150) rfl rfl (Sh_a2 w) (by first | assumption | exact vp_in_nI (by omega) (by omega)) ?_
            rw [shP_w2]
            try rw [nI_clamp (by omega)]
            refine z_aload_n (q := 151) rfl rfl rfl ?_
            refine z_dup (q := 152) rfl rfl rfl ?_
            refine z_getI (q := 155) rfl rfl rfl (Sh_k w) ?_
            rw [shP_g9]
            refine z_iconst (q := 156) (v := 1) rfl rfl rfl ?_
            refine z_iadd (q := 157) rfl rfl ?_
            refine z_putI (q := 160) rfl rfl rfl (by decide) rfl rfl (Sh_k w) ?_
            rw [shP_u9]
            refine z_iload (q := 162) rfl rfl rfl ?_
            refine z_ireti rfl rfl ?_
            exact ⟨rfl, rfl⟩
      · exact absurd hl h27
    · exact absurd (nI_lt hN (by omega)) h17
theorem p_Sh_setCell0 {sc : Option (Nat × Nat × (Nat → Int32))} {sa : Nat → Nat} {d : Nat} {M : mz_M} {z : Nat × Nat} {sh N : Nat} {s l t p : Int32} {J : Nat → Int64} {lt lc mo mc : Nat → Int32} (w : g_Sh M.2.2 sh N) {n : Nat} (hN : n < N) (hM : N ≤ 200) {j : Nat} (hj : j < n) (hf : okl lt n) (hl : ¬ l = 1) {cell x : Int32} : zx sc sa (d + 3) 56 [.ref sh, .int (nI j), .int cell, .int x] (shP M sh s l t (nI n) p J lt lc mo mc) z z (some (.int (nI n))) (shP M sh s l t (nI n + 1) ((rcF s l t n j lt lc p).2.2 + 1) (va_up J n (wnI (J j) cell x)) (va_up (va_up (rcF s l t n j lt lc p).1 n (-1)) j (nI n)) (va_up (va_up (rcF s l t n j lt lc p).2.1 n (-1)) j cell) (va_up mo n (nI j)) (va_up mc n cell)) := by
  refine zxin ym_Sh_setCell [.ref sh, .int (nI j), .int cell, .int x, .retAddr 0, .retAddr 0, .retAddr 0] rfl rfl rfl rfl ?_
  refine z_aload_n (q := 1) rfl rfl rfl ?_
  refine z_iload_n (q := 2) rfl rfl rfl ?_
  refine z_cv1i (q := 5) rfl rfl rfl (Sh_k w) (p_Sh_has w rfl (by omega) hM hj) ?_
  refine z_if_eq (q := 8) rfl rfl (fun h5 => ?_) (fun h5 => ?_)
  · exact absurd h5 (by decide)
  · refine z_aload_n (q := 9) rfl rfl rfl ?_
    refine z_getI (q := 12) rfl rfl rfl (Sh_k w) ?_
    rw [shP_g8]
    refine z_aload_n (q := 13) rfl rfl rfl ?_
    refine z_getR (q := 16) rfl rfl rfl (Sh_k w) (Sh_r0 w) ?_
    refine z_alen (q := 17) rfl rfl (Sh_a0 w) rfl rfl ?_
    refine z_ic_lt (q := 20) rfl rfl (fun h17 => ?_) (fun h17 => ?_)
    · refine z_aload_n (q := 23) rfl rfl rfl ?_
      refine z_getI (q := 26) rfl rfl rfl (Sh_k w) ?_
      rw [shP_g6]
      refine z_iconst (q := 27) (v := 1) rfl rfl rfl ?_
      refine z_ic_eq (q := 30) rfl rfl (fun h27 => ?_) (fun h27 => ?_)
      · exact absurd h27 hl
      · refine z_aload_n (q := 31) rfl rfl rfl ?_
        refine z_iload_n (q := 32) rfl rfl rfl ?_
        refine z_cv1v (q := 35) rfl rfl rfl (Sh_k w) (p_Sh_reach w rfl (by omega) hM hj hf) ?_
        refine z_aload_n (q := 36) rfl rfl rfl ?_
        refine z_getI (q := 39) rfl rfl rfl (Sh_k w) ?_
        rw [shP_g8]
        refine z_istore (q := 41) (L2 := [_, _, _, _, _, _, _]) rfl rfl rfl rfl ?_
        refine z_aload_n (q := 42) rfl rfl rfl ?_
        refine z_dup (q := 43) rfl rfl rfl ?_
        refine z_getI (q := 46) rfl rfl rfl (Sh_k w) ?_
        rw [shP_g8]
        refine z_iconst (q := 47) (v := 1) rfl rfl rfl ?_
        refine z_iadd (q := 48) rfl rfl ?_
        refine z_putI (q := 51) rfl rfl rfl (by decide) rfl rfl (Sh_k w) ?_
        rw [shP_u8]
        refine z_aload_n (q := 52) rfl rfl rfl ?_
        refine z_getR (q := 55) rfl rfl rfl (Sh_k w) (Sh_r0 w) ?_
        refine z_iload (q := 57) rfl rfl rfl ?_
        refine z_aload_n (q := 58) rfl rfl rfl ?_
        refine z_getR (q := 61) rfl rfl rfl (Sh_k w) (Sh_r0 w) ?_
        refine z_iload_n (q := 62) rfl rfl rfl ?_
        refine z_lald (q := 63) rfl rfl (Sh_a0 w) (by first | assumption | exact vp_in_nI (by omega) (by omega)) ?_
        rw [shP_a0]
        try rw [nI_clamp (by omega)]
        refine z_iload_n (q := 64) rfl rfl rfl ?_
        refine z_iload_n (q := 65) rfl rfl rfl ?_
        refine z_cs3l (q := 68) rfl rfl rfl (s_Sh_withNumber) ?_
        refine z_last (q := 69) rfl rfl (Sh_a0 w) (by first | assumption | exact vp_in_nI (by omega) (by omega)) ?_
        rw [shP_w0]
        try rw [nI_clamp (by omega)]
        refine z_aload_n (q := 70) rfl rfl rfl ?_
        refine z_getR (q := 73) rfl rfl rfl (Sh_k w) (Sh_r3 w) ?_
        refine z_iload (q := 75) rfl rfl rfl ?_
        refine z_iload_n (q := 76) rfl rfl rfl ?_
        refine z_iast (q := 77) rfl rfl (Sh_a3 w) (by first | assumption | exact vp_in_nI (by omega) (by omega)) ?_
        rw [shP_w3]
        try rw [nI_clamp (by omega)]
        refine z_aload_n (q := 78) rfl rfl rfl ?_
        refine z_getR (q := 81) rfl rfl rfl (Sh_k w) (Sh_r4 w) ?_
        refine z_iload (q := 83) rfl rfl rfl ?_
        refine z_iload_n (q := 84) rfl rfl rfl ?_
        refine z_iast (q := 85) rfl rfl (Sh_a4 w) (by first | assumption | exact vp_in_nI (by omega) (by omega)) ?_
        rw [shP_w4]
        try rw [nI_clamp (by omega)]
        refine z_aload_n (q := 86) rfl rfl rfl ?_
        refine z_getI (q := 89) rfl rfl rfl (Sh_k w) ?_
        rw [shP_g6]
        refine z_iconst (q := 90) (v := 1) rfl rfl rfl ?_
        refine z_ic_ne (q := 93) rfl rfl (fun h90 => ?_) (fun h90 => ?_)
        · refine z_iload_n (q := 99) rfl rfl rfl ?_
          refine z_istore (q := 101) (L2 := [_, _, _, _, _, _, _]) rfl rfl rfl rfl ?_
          refine z_aload_n (q := 102) rfl rfl rfl ?_
          refine z_getI (q := 105) rfl rfl rfl (Sh_k w) ?_
          rw [shP_g6]
          refine z_iconst (q := 106) (v := 1) rfl rfl rfl ?_
          refine z_ic_ne (q := 109) rfl rfl (fun h106 => ?_) (fun h106 => ?_)
          · refine z_iload (q := 115) rfl rfl rfl ?_
            refine z_istore (q := 117) (L2 := [_, _, _, _, _, _, _]) rfl rfl rfl rfl ?_
            refine z_aload_n (q := 118) rfl rfl rfl ?_
            refine z_getR (q := 121) rfl rfl rfl (Sh_k w) (Sh_r1 w) ?_
            refine z_iload (q := 123) rfl rfl rfl ?_
            refine z_iconst (q := 124) (v := -1) rfl rfl rfl ?_
            refine z_iast (q := 125) rfl rfl (Sh_a1 w) (by first | assumption | exact vp_in_nI (by omega) (by omega)) ?_
            rw [shP_w1]
            try rw [nI_clamp (by omega)]
            refine z_aload_n (q := 126) rfl rfl rfl ?_
            refine z_getR (q := 129) rfl rfl rfl (Sh_k w) (Sh_r2 w) ?_
            refine z_iload (q := 131) rfl rfl rfl ?_
            refine z_iconst (q := 132) (v := -1) rfl rfl rfl ?_
            refine z_iast (q := 133) rfl rfl (Sh_a2 w) (by first | assumption | exact vp_in_nI (by omega) (by omega)) ?_
            rw [shP_w2]
            try rw [nI_clamp (by omega)]
            refine z_aload_n (q := 134) rfl rfl rfl ?_
            refine z_getR (q := 137) rfl rfl rfl (Sh_k w) (Sh_r1 w) ?_
            refine z_iload (q := 139) rfl rfl rfl ?_
            refine z_iload (q := 141) rfl rfl rfl ?_
            refine z_iast (q := 142) rfl rfl (Sh_a1 w) (by first | assumption | exact vp_in_nI (by omega) (by omega)) ?_
            rw [shP_w1]
            try rw [nI_clamp (by omega)]
            refine z_aload_n (q := 143) rfl rfl rfl ?_
            refine z_getR (q := 146) rfl rfl rfl (Sh_k w) (Sh_r2 w) ?_
            refine z_iload (q := 148) rfl rfl rfl ?_
            refine z_iload_n (q := 149) rfl rfl rfl ?_
            refine z_iast (q := 150) rfl rfl (Sh_a2 w) (by first | assumption | exact vp_in_nI (by omega) (by omega)) ?_
            rw [shP_w2]
            try rw [nI_clamp (by omega)]
            refine z_aload_n (q := 151) rfl rfl rfl ?_
            refine z_dup (q := 152) rfl rfl rfl ?_
            refine z_getI (q := 155) rfl rfl rfl (Sh_k w) ?_
            rw [shP_g9]
            refine z_iconst (q := 156) (v := 1) rfl rfl rfl ?_
            refine z_iadd (q := 157) rfl rfl ?_
            refine z_putI (q := 160) rfl rfl rfl (by decide) rfl rfl (Sh_k w) ?_
            rw [shP_u9]
            refine z_iload (q := 162) rfl rfl rfl ?_
            refine z_ireti rfl rfl ?_
            exact ⟨rfl, rfl⟩
          · exact absurd h106 hl
        · exact absurd h90 hl
    · exact absurd (nI_lt hN (by omega)) h17
theorem p_Sh_setCell {M : mz_M} {sc : Option (Nat × Nat × (Nat → Int32))} {sa : Nat → Nat} {d : Nat} {z : Nat × Nat} {sh N : Nat} {s l t p : Int32} {J : Nat → Int64} {lt lc mo mc : Nat → Int32} (w : g_Sh M.2.2 sh N) {n : Nat} (hN : n < N) (hM : N ≤ 200) {j : Nat} (hj : j < n) (hf : okl lt n) {cell x : Int32} : zx sc sa (d + 3) 56 [.ref sh, .int (nI j), .int cell, .int x] (shP M sh s l t (nI n) p J lt lc mo mc) z z (some (.int (nI n))) (shP M sh s l t (nI n + 1) (stF s l t n j cell lt lc p).2.2 (va_up J n (wnI (J j) cell x)) (stF s l t n j cell lt lc p).1 (stF s l t n j cell lt lc p).2.1 (va_up mo n (nI j)) (va_up mc n cell)) := by
  by_cases hl : l = 1
  · have h := p_Sh_setCell1 (sc := sc) (sa := sa) (d := d) (z := z) (p := p) (J := J) (lc := lc) (mo := mo) (mc := mc) (s := s) (t := t) w hN hM hj hf hl (cell := cell) (x := x)
    unfold stF
    rw [if_pos hl]
    exact h
  · have h := p_Sh_setCell0 (sc := sc) (sa := sa) (d := d) (z := z) (p := p) (J := J) (lc := lc) (mo := mo) (mc := mc) (s := s) (t := t) w hN hM hj hf hl (cell := cell) (x := x)
    unfold stF
    rw [if_neg hl]
    exact h
theorem p_Sh_setCellF {sc : Option (Nat × Nat × (Nat → Int32))} {sa : Nat → Nat} {d : Nat} {M : mz_M} {z : Nat × Nat} {sh N : Nat} {s l t p : Int32} {J : Nat → Int64} {lt lc mo mc : Nat → Int32} (w : g_Sh M.2.2 sh N) (hM : N ≤ 200) {j : Nat} (hj : j < N) {cell x : Int32} : zx sc sa (d + 2) 56 [.ref sh, .int (nI j), .int cell, .int x] (shP M sh s l t (nI N) p J lt lc mo mc) z z (some (.int (-1))) (shP M sh s l t (nI N) p J lt lc mo mc) := by
  refine zxin ym_Sh_setCell [.ref sh, .int (nI j), .int cell, .int x, .retAddr 0, .retAddr 0, .retAddr 0] rfl rfl rfl rfl ?_
  refine z_aload_n (q := 1) rfl rfl rfl ?_
  refine z_iload_n (q := 2) rfl rfl rfl ?_
  refine z_cv1i (q := 5) rfl rfl rfl (Sh_k w) (p_Sh_has w rfl (Nat.le_refl _) hM hj) ?_
  refine z_if_eq (q := 8) rfl rfl (fun h5 => ?_) (fun h5 => ?_)
  · exact absurd h5 (by decide)
  · refine z_aload_n (q := 9) rfl rfl rfl ?_
    refine z_getI (q := 12) rfl rfl rfl (Sh_k w) ?_
    rw [shP_g8]
    refine z_aload_n (q := 13) rfl rfl rfl ?_
    refine z_getR (q := 16) rfl rfl rfl (Sh_k w) (Sh_r0 w) ?_
    refine z_alen (q := 17) rfl rfl (Sh_a0 w) rfl rfl ?_
    refine z_ic_lt (q := 20) rfl rfl (fun h17 => ?_) (fun h17 => ?_)
    · exact absurd h17 (nI_nlt (Nat.le_refl _) (by omega))
    · refine z_iconst (q := 21) (v := -1) rfl rfl rfl ?_
      refine z_ireti rfl rfl ?_
      exact ⟨rfl, rfl⟩
theorem p_Sh_snapRow {sc : Option (Nat × Nat × (Nat → Int32))} {sa : Nat → Nat} {d : Nat} {M : mz_M} {z : Nat × Nat} {sh N : Nat} {s l t m p : Int32} {J : Nat → Int64} {lt lc mo mc : Nat → Int32} (w : g_Sh M.2.2 sh N) {n : Nat} (hn : m = nI n) (hN : n ≤ N) (hM : N ≤ 200) {j : Nat} (hj : j < n) (hf : okl lt n)  : zx sc sa (d + 3) 57 [.ref sh, .int (nI j)] (shP M sh s l t m p J lt lc mo mc) z z (some (.int (if lt j = -1 then 0 else p + (nI (wl lt n j) + s) - p))) (if lt j = -1 then (shP M sh s l t m p J lt lc mo mc) else (shP M sh s l t m (p + (nI (wl lt n j) + s)) J (va_up lt j (-1)) (va_up lc j (-1)) mo mc)) := by
  refine zxin ym_Sh_snapRow [.ref sh, .int (nI j), .retAddr 0] rfl rfl rfl rfl ?_
  refine z_aload_n (q := 1) rfl rfl rfl ?_
  refine z_iload_n (q := 2) rfl rfl rfl ?_
  refine z_cv1i (q := 5) rfl rfl rfl (Sh_k w) (p_Sh_has w hn hN hM hj) ?_
  refine z_if_eq (q := 8) rfl rfl (fun h5 => ?_) (fun h5 => ?_)
  · exact absurd h5 (by decide)
  · refine z_aload_n (q := 9) rfl rfl rfl ?_
    refine z_iload_n (q := 10) rfl rfl rfl ?_
    refine z_cv1i (q := 13) rfl rfl rfl (Sh_k w) (p_Sh_isDirect w hn hN hM hj) ?_
    refine z_if_eq (q := 16) rfl rfl (fun h13 => ?_) (fun h13 => ?_)
    · refine z_aload_n (q := 19) rfl rfl rfl ?_
      refine z_getI (q := 22) rfl rfl rfl (Sh_k w) ?_
      rw [shP_g9]
      refine z_istore_n (q := 23) (L2 := [_, _, _]) rfl rfl rfl rfl ?_
      refine z_aload_n (q := 24) rfl rfl rfl ?_
      refine z_iload_n (q := 25) rfl rfl rfl ?_
      refine z_aload_n (q := 26) rfl rfl rfl ?_
      refine z_iload_n (q := 27) rfl rfl rfl ?_
      refine z_cv1i (q := 30) rfl rfl rfl (Sh_k w) (p_Sh_wayFrom w hn hN hM hj hf) ?_
      refine z_cv2v (q := 33) rfl rfl rfl (Sh_k w) (p_Sh_giveRow w hn hN hM hj) ?_
      refine z_aload_n (q := 34) rfl rfl rfl ?_
      refine z_getI (q := 37) rfl rfl rfl (Sh_k w) ?_
      rw [shP_g9]
      refine z_iload_n (q := 38) rfl rfl rfl ?_
      refine z_isub (q := 39) rfl rfl ?_
      refine z_ireti rfl rfl ?_
      first | rw [bz_n] at h13 | rw [bz_0] at h13
      first | (rw [if_pos h13, if_pos h13]; exact ⟨rfl, rfl⟩) | (rw [if_neg h13, if_neg h13]; exact ⟨rfl, rfl⟩)
    · refine z_iconst (q := 17) (v := 0) rfl rfl rfl ?_
      refine z_ireti rfl rfl ?_
      first | rw [bz_n] at h13 | rw [bz_0] at h13
      first | (rw [if_pos h13, if_pos h13]; exact ⟨rfl, rfl⟩) | (rw [if_neg h13, if_neg h13]; exact ⟨rfl, rfl⟩)
theorem l_Sh_findRoot {sc : Option (Nat × Nat × (Nat → Int32))} {sa : Nat → Nat} {d : Nat} {M : mz_M} {z : Nat × Nat} {sh N : Nat} {s l t m : Int32} {J : Nat → Int64} {mo mc : Nat → Int32} (w : g_Sh M.2.2 sh N) {n : Nat} (hn : m = nI n) (hN : n ≤ N) (hM : N ≤ 200) {j : Nat} (hj : j < n) {c : Nat} (hc : s = nI c) (hC : c ≤ 12) {v0 am pm : Int32} {lf cf : Nat → Int32} : ∀ (k : Nat) (i : Nat) (a p : Int32) (lt lc : Nat → Int32) (x0 : Value), i + k = c → okl lt n → frF s l t n j J k a lt lc p = (am, lf, cf, pm) → zw sc sa (d + 3) ym_Sh_findRoot z (fun r' M' => r' = some (.int am) ∧ M' = (shP M sh s l t m pm J lf cf mo mc)) 5 [.ref sh, .int (nI j), .int v0, .int a, .int (nI i), x0] [] (shP M sh s l t m p J lt lc mo mc) z := by
  intro k
  induction k with
  | zero =>
    intro i a p lt lc x0 hi hf hm
    have e1 : i = c := by omega
    subst e1
    have e2 : (a, lt, lc, p) = (am, lf, cf, pm) := hm
    simp only [Prod.mk.injEq] at e2
    obtain ⟨rfl, rfl, rfl, rfl⟩ := e2
    refine z_iload (q := 7) rfl rfl rfl ?_
    refine z_aload_n (q := 8) rfl rfl rfl ?_
    refine z_getI (q := 11) rfl rfl rfl (Sh_k w) ?_
    rw [shP_g5]
    refine z_ic_ge (q := 14) rfl rfl (fun h11 => ?_) (fun h11 => ?_)
    · refine z_iload_n (q := 40) rfl rfl rfl ?_
      refine z_ireti rfl rfl ?_
      exact ⟨rfl, rfl⟩
    · exact absurd (by rw [hc]; exact nI_le (Nat.le_refl _) (by omega)) h11
  | succ k ih =>
    intro i a p lt lc x0 hi hf hm
    refine z_iload (q := 7) rfl rfl rfl ?_
    refine z_aload_n (q := 8) rfl rfl rfl ?_
    refine z_getI (q := 11) rfl rfl rfl (Sh_k w) ?_
    rw [shP_g5]
    refine z_ic_ge (q := 14) rfl rfl (fun h11 => ?_) (fun h11 => ?_)
    · rw [hc] at h11
      exact absurd h11 (nI_ge (by omega) (by omega))
    · refine z_aload_n (q := 15) rfl rfl rfl ?_
      refine z_iload_n (q := 16) rfl rfl rfl ?_
      refine z_iload_n (q := 17) rfl rfl rfl ?_
      refine z_cv2i (q := 20) rfl rfl rfl (Sh_k w) (p_Sh_readCell w hn hN hM hj hf) ?_
      refine z_istore (q := 22) (L2 := [_, _, _, _, _, _]) rfl rfl rfl rfl ?_
      refine z_iload (q := 24) rfl rfl rfl ?_
      refine z_iload_n (q := 25) rfl rfl rfl ?_
      refine z_ic_ne (q := 28) rfl rfl (fun h25 => ?_) (fun h25 => ?_)
      · refine z_iload (q := 32) rfl rfl rfl ?_
        refine z_istore_n (q := 33) (L2 := [_, _, _, _, _, _]) rfl rfl rfl rfl ?_
        refine z_iinc (q := 36) (L2 := [_, _, _, _, _, _]) rfl rfl rfl rfl ?_
        refine z_goto rfl ?_
        rw [show nI i + Int32.ofInt 1 = nI (i + 1) from (nI_succ i).symm]
        unfold frF at hm
        rw [if_neg h25] at hm
        exact ih (i + 1) _ _ _ _ _ (by omega) (okl_rd (by omega) hj hf) hm
      · refine z_iload_n (q := 29) rfl rfl rfl ?_
        refine z_ireti rfl rfl ?_
        unfold frF at hm
        rw [if_pos h25] at hm
        simp only [Prod.mk.injEq] at hm
        obtain ⟨rfl, hm⟩ := hm
        rw [hm]
        exact ⟨rfl, rfl⟩
theorem p_Sh_findRoot {sc : Option (Nat × Nat × (Nat → Int32))} {sa : Nat → Nat} {d : Nat} {M : mz_M} {z : Nat × Nat} {sh N : Nat} {s l t m p : Int32} {J : Nat → Int64} {lt lc mo mc : Nat → Int32} (w : g_Sh M.2.2 sh N) {n : Nat} (hn : m = nI n) (hN : n ≤ N) (hM : N ≤ 200) {j : Nat} (hj : j < n) (hf : okl lt n) {c : Nat} (hc : s = nI c) (hC : c ≤ 12) {a : Int32} : zx sc sa (d + 4) 58 [.ref sh, .int (nI j), .int a] (shP M sh s l t m p J lt lc mo mc) z z (some (.int (frF s l t n j J c a lt lc p).1)) (shP M sh s l t m (frF s l t n j J c a lt lc p).2.2.2 J (frF s l t n j J c a lt lc p).2.1 (frF s l t n j J c a lt lc p).2.2.1 mo mc) := by
  refine zxin ym_Sh_findRoot [.ref sh, .int (nI j), .int a, .retAddr 0, .retAddr 0, .retAddr 0] rfl rfl rfl rfl ?_
  refine z_iload_n (q := 1) rfl rfl rfl ?_
  refine z_istore_n (q := 2) (L2 := [_, _, _, _, _, _]) rfl rfl rfl rfl ?_
  refine z_iconst (q := 3) (v := 0) rfl rfl rfl ?_
  refine z_istore (q := 5) (L2 := [_, _, _, _, _, _]) rfl rfl rfl rfl ?_
  exact l_Sh_findRoot w hn hN hM hj hc hC c 0 _ _ _ _ _ (by omega) hf rfl
theorem p_Sh_joinRoots {sc : Option (Nat × Nat × (Nat → Int32))} {sa : Nat → Nat} {d : Nat} {M : mz_M} {z : Nat × Nat} {sh N : Nat} {s l t p : Int32} {J : Nat → Int64} {lt lc mo mc : Nat → Int32} (w : g_Sh M.2.2 sh N) {n : Nat} (hN : n < N) (hM : N ≤ 200) {j : Nat} (hj : j < n) (hf : okl lt n) {a b : Int32} : zx sc sa (d + 4) 59 [.ref sh, .int (nI j), .int a, .int b] (shP M sh s l t (nI n) p J lt lc mo mc) z z (some (.int (nI n))) (shP M sh s l t (nI n + 1) (stF s l t n j (if a < b then b else a) lt lc p).2.2 (va_up J n (wnI (J j) (if a < b then b else a) (if b < a then b else a))) (stF s l t n j (if a < b then b else a) lt lc p).1 (stF s l t n j (if a < b then b else a) lt lc p).2.1 (va_up mo n (nI j)) (va_up mc n (if a < b then b else a))) := by
  refine zxin ym_Sh_joinRoots [.ref sh, .int (nI j), .int a, .int b] rfl rfl rfl rfl ?_
  refine z_aload_n (q := 1) rfl rfl rfl ?_
  refine z_iload_n (q := 2) rfl rfl rfl ?_
  refine z_iload_n (q := 3) rfl rfl rfl ?_
  refine z_iload_n (q := 4) rfl rfl rfl ?_
  refine z_max (q := 7) rfl rfl (by omega) rfl ?_
  refine z_iload_n (q := 8) rfl rfl rfl ?_
  refine z_iload_n (q := 9) rfl rfl rfl ?_
  refine z_min (q := 12) rfl rfl (by omega) rfl ?_
  refine z_cv3i (q := 15) rfl rfl rfl (Sh_k w) (p_Sh_setCell w hN hM hj hf) ?_
  refine z_ireti rfl rfl ?_
  exact ⟨rfl, rfl⟩
end
section
theorem mtN_lt {f : Nat → Int32} {n : Nat} (h : okm f n) (hn : n < 2 ^ 31) : ∀ (k a b : Nat), a < n → b < n → mtN f k a b < n := by
  intro k
  induction k with
  | zero => intro a b ha _; exact ha
  | succ k ih =>
    intro a b ha hb
    unfold mtN
    by_cases h1 : a = b
    · rw [if_pos h1]; exact ha
    · rw [if_neg h1]
      by_cases h2 : b < a
      · rw [if_pos h2]
        obtain ⟨u, hu, e⟩ := h.2 a (by omega) ha
        rw [e, nI_clamp (by omega)]
        exact ih u b (by omega) hb
      · rw [if_neg h2]
        obtain ⟨u, hu, e⟩ := h.2 b (by omega) hb
        rw [e, nI_clamp (by omega)]
        exact ih a u ha (by omega)
def mgG (B R O : Int64) : Nat → Int64 → Int64 := fun c acc => if nmI R (nI c) = nmI B (nI c) then wnI acc (nI c) (nmI O (nI c)) else if ¬ nmI R (nI c) = nmI B (nI c) ∧ ¬ nmI O (nI c) = nmI B (nI c) ∧ ¬ nmI O (nI c) = nmI R (nI c) then wnI acc (nI c) (if nmI O (nI c) < nmI R (nI c) then nmI O (nI c) else nmI R (nI c)) else acc
def cfG (B R O : Int64) : Nat → Int32 → Int32 := fun c acc => if ¬ nmI R (nI c) = nmI B (nI c) ∧ ¬ nmI O (nI c) = nmI B (nI c) ∧ ¬ nmI O (nI c) = nmI R (nI c) then acc + Int32.ofInt 1 else acc
def paG (F T : Int64) : Nat → Int64 → Int64 := fun c acc => if nmI F (nI c) = nmI T (nI c) then acc else wnI acc (nI c) (nmI T (nI c))
theorem l_Sh_mergedRow {sc : Option (Nat × Nat × (Nat → Int32))} {sa : Nat → Nat} {d : Nat} {M : mz_M} {z : Nat × Nat} {sh N : Nat} (w : g_Sh M.2.2 sh N) {c : Nat} (hc : M.1 sh 5 = nI c) (hC : c ≤ 12) {v0 v1 : Int32} {B R O : Int64} : ∀ (k : Nat) (i : Nat) (x12 x13 : Value), i + k = c → zw sc sa (d + 1) ym_Sh_mergedRow z (fun r' M' => r' = some (.long (fo (mgG B R O) R c)) ∧ M' = M) 32 [.ref sh, .int v0, .int v1, .long B, .retAddr 0, .long R, .retAddr 0, .long O, .retAddr 0, .long (fo (mgG B R O) R i), .retAddr 0, .int (nI i), x12, x13] [] M z := by
  intro k
  induction k with
  | zero =>
    intro i x12 x13 hi
    have e1 : i = c := by omega
    subst e1
    refine z_iload (q := 34) rfl rfl rfl ?_
    refine z_aload_n (q := 35) rfl rfl rfl ?_
    refine z_getI (q := 38) rfl rfl rfl (Sh_k w) ?_
    refine z_ic_ge (q := 41) rfl rfl (fun h38 => ?_) (fun h38 => ?_)
    · refine z_lload (q := 125) rfl rfl rfl ?_
      refine z_lret rfl rfl ?_
      exact ⟨rfl, rfl⟩
    · exact absurd (by rw [hc]; exact nI_le (Nat.le_refl _) (by omega)) h38
  | succ k ih =>
    intro i x12 x13 hi
    refine z_iload (q := 34) rfl rfl rfl ?_
    refine z_aload_n (q := 35) rfl rfl rfl ?_
    refine z_getI (q := 38) rfl rfl rfl (Sh_k w) ?_
    refine z_ic_ge (q := 41) rfl rfl (fun h38 => ?_) (fun h38 => ?_)
    · rw [hc] at h38
      exact absurd h38 (nI_ge (by omega) (by omega))
    · refine z_lload (q := 43) rfl rfl rfl ?_
      refine z_iload (q := 45) rfl rfl rfl ?_
      refine z_cs2i (q := 48) rfl rfl rfl (s_Sh_numberIn) ?_
      refine z_istore (q := 50) (L2 := [_, _, _, _, _, _, _, _, _, _, _, _, _, _]) rfl rfl rfl rfl ?_
      refine z_lload (q := 52) rfl rfl rfl ?_
      refine z_iload (q := 54) rfl rfl rfl ?_
      refine z_cs2i (q := 57) rfl rfl rfl (s_Sh_numberIn) ?_
      refine z_istore (q := 59) (L2 := [_, _, _, _, _, _, _, _, _, _, _, _, _, _]) rfl rfl rfl rfl ?_
      refine z_iload (q := 61) rfl rfl rfl ?_
      refine z_lload_n (q := 62) rfl rfl rfl ?_
      refine z_iload (q := 64) rfl rfl rfl ?_
      refine z_cs2i (q := 67) rfl rfl rfl (s_Sh_numberIn) ?_
      refine z_ic_ne (q := 70) rfl rfl (fun h67 => ?_) (fun h67 => ?_)
      · refine z_aload_n (q := 85) rfl rfl rfl ?_
        refine z_lload_n (q := 86) rfl rfl rfl ?_
        refine z_iload (q := 88) rfl rfl rfl ?_
        refine z_cs2i (q := 91) rfl rfl rfl (s_Sh_numberIn) ?_
        refine z_iload (q := 93) rfl rfl rfl ?_
        refine z_iload (q := 95) rfl rfl rfl ?_
        refine z_cv3i (q := 98) rfl rfl rfl (Sh_k w) (s_Sh_inConflict w) ?_
        refine z_if_eq (q := 101) rfl rfl (fun h98 => ?_) (fun h98 => ?_)
        · refine z_iinc (q := 120) (L2 := [_, _, _, _, _, _, _, _, _, _, _, _, _, _]) rfl rfl rfl rfl ?_
          refine z_goto rfl ?_
          rw [show nI i + Int32.ofInt 1 = nI (i + 1) from (nI_succ i).symm]
          refine cast ?_ (ih (i + 1) (.int (nmI R (nI i))) (.int (nmI O (nI i))) (by omega))
          have e8 : fo (mgG B R O) R (i + 1) = mgG B R O i (fo (mgG B R O) R i) := rfl
          rw [e8]
          unfold mgG
          first
            | (rw [if_pos h67])
            | (rw [bz_n] at h98; rw [if_neg h67, if_pos h98])
            | (rw [bz_0] at h98; rw [if_neg h67, if_neg h98])
        · refine z_lload (q := 103) rfl rfl rfl ?_
          refine z_iload (q := 105) rfl rfl rfl ?_
          refine z_iload (q := 107) rfl rfl rfl ?_
          refine z_iload (q := 109) rfl rfl rfl ?_
          refine z_min (q := 112) rfl rfl (by omega) rfl ?_
          refine z_cs3l (q := 115) rfl rfl rfl (s_Sh_withNumber) ?_
          refine z_lstore (q := 117) (L2 := [_, _, _, _, _, _, _, _, _, _, _, _, _, _]) rfl rfl rfl rfl ?_
          refine z_iinc (q := 120) (L2 := [_, _, _, _, _, _, _, _, _, _, _, _, _, _]) rfl rfl rfl rfl ?_
          refine z_goto rfl ?_
          rw [show nI i + Int32.ofInt 1 = nI (i + 1) from (nI_succ i).symm]
          refine cast ?_ (ih (i + 1) (.int (nmI R (nI i))) (.int (nmI O (nI i))) (by omega))
          have e8 : fo (mgG B R O) R (i + 1) = mgG B R O i (fo (mgG B R O) R i) := rfl
          rw [e8]
          unfold mgG
          first
            | (rw [if_pos h67])
            | (rw [bz_n] at h98; rw [if_neg h67, if_pos h98])
            | (rw [bz_0] at h98; rw [if_neg h67, if_neg h98])
      · refine z_lload (q := 72) rfl rfl rfl ?_
        refine z_iload (q := 74) rfl rfl rfl ?_
        refine z_iload (q := 76) rfl rfl rfl ?_
        refine z_cs3l (q := 79) rfl rfl rfl (s_Sh_withNumber) ?_
        refine z_lstore (q := 81) (L2 := [_, _, _, _, _, _, _, _, _, _, _, _, _, _]) rfl rfl rfl rfl ?_
        refine z_goto rfl ?_
        refine z_iinc (q := 120) (L2 := [_, _, _, _, _, _, _, _, _, _, _, _, _, _]) rfl rfl rfl rfl ?_
        refine z_goto rfl ?_
        rw [show nI i + Int32.ofInt 1 = nI (i + 1) from (nI_succ i).symm]
        refine cast ?_ (ih (i + 1) (.int (nmI R (nI i))) (.int (nmI O (nI i))) (by omega))
        have e8 : fo (mgG B R O) R (i + 1) = mgG B R O i (fo (mgG B R O) R i) := rfl
        rw [e8]
        unfold mgG
        first
          | (rw [if_pos h67])
          | (rw [bz_n] at h98; rw [if_neg h67, if_pos h98])
          | (rw [bz_0] at h98; rw [if_neg h67, if_neg h98])
theorem s_Sh_mergedRow {sc : Option (Nat × Nat × (Nat → Int32))} {sa : Nat → Nat} {d : Nat} {M : mz_M} {z : Nat × Nat} {sh N : Nat} (w : g_Sh M.2.2 sh N) {n : Nat} (hn : M.1 sh 8 = nI n) (hN : n ≤ N) (hM : N ≤ 200) {j : Nat} (hj : j < n) {u : Nat} (hu : u < n) (ho : okm (M.1 (sh + 4)) n) {c : Nat} (hc : M.1 sh 5 = nI c) (hC : c ≤ 12)  : zx sc sa (d + 4) 61 [.ref sh, .int (nI j), .int (nI u)] M z z (some (.long (fo (mgG (M.2.1 (sh + 1) (mtN (M.1 (sh + 4)) (2 * n) j u)) (M.2.1 (sh + 1) j) (M.2.1 (sh + 1) u)) (M.2.1 (sh + 1) j) c))) M := by
  refine zxin ym_Sh_mergedRow [.ref sh, .int (nI j), .int (nI u), .retAddr 0, .retAddr 0, .retAddr 0, .retAddr 0, .retAddr 0, .retAddr 0, .retAddr 0, .retAddr 0, .retAddr 0, .retAddr 0, .retAddr 0] rfl rfl rfl rfl ?_
  refine z_aload_n (q := 1) rfl rfl rfl ?_
  refine z_aload_n (q := 2) rfl rfl rfl ?_
  refine z_iload_n (q := 3) rfl rfl rfl ?_
  refine z_iload_n (q := 4) rfl rfl rfl ?_
  refine z_cv2i (q := 7) rfl rfl rfl (Sh_k w) (s_Sh_meeting w hn hN hM hj hu ho) ?_
  refine z_cv1l (q := 10) rfl rfl rfl (Sh_k w) (s_Sh_rowOf w hn hN hM (mtN_lt ho (by omega) _ _ _ hj hu)) ?_
  refine z_lstore_n (q := 11) (L2 := [_, _, _, _, _, _, _, _, _, _, _, _, _, _]) rfl rfl rfl rfl ?_
  refine z_aload_n (q := 12) rfl rfl rfl ?_
  refine z_iload_n (q := 13) rfl rfl rfl ?_
  refine z_cv1l (q := 16) rfl rfl rfl (Sh_k w) (s_Sh_rowOf w hn hN hM hj) ?_
  refine z_lstore (q := 18) (L2 := [_, _, _, _, _, _, _, _, _, _, _, _, _, _]) rfl rfl rfl rfl ?_
  refine z_aload_n (q := 19) rfl rfl rfl ?_
  refine z_iload_n (q := 20) rfl rfl rfl ?_
  refine z_cv1l (q := 23) rfl rfl rfl (Sh_k w) (s_Sh_rowOf w hn hN hM hu) ?_
  refine z_lstore (q := 25) (L2 := [_, _, _, _, _, _, _, _, _, _, _, _, _, _]) rfl rfl rfl rfl ?_
  refine z_lload (q := 27) rfl rfl rfl ?_
  refine z_lstore (q := 29) (L2 := [_, _, _, _, _, _, _, _, _, _, _, _, _, _]) rfl rfl rfl rfl ?_
  refine z_iconst (q := 30) (v := 0) rfl rfl rfl ?_
  refine z_istore (q := 32) (L2 := [_, _, _, _, _, _, _, _, _, _, _, _, _, _]) rfl rfl rfl rfl ?_
  exact l_Sh_mergedRow w hc hC c 0 _ _ (by omega)
theorem l_Sh_conflicts {sc : Option (Nat × Nat × (Nat → Int32))} {sa : Nat → Nat} {d : Nat} {M : mz_M} {z : Nat × Nat} {sh N : Nat} (w : g_Sh M.2.2 sh N) {n : Nat} (hn : M.1 sh 8 = nI n) (hN : n ≤ N) (hM : N ≤ 200) {j : Nat} (hj : j < n) {u : Nat} (hu : u < n) {c : Nat} (hc : M.1 sh 5 = nI c) (hC : c ≤ 12) {B : Int64} : ∀ (k : Nat) (i : Nat), i + k = c → zw sc sa (d + 2) ym_Sh_conflicts z (fun r' M' => r' = some (.int (fo (cfG B (M.2.1 (sh + 1) j) (M.2.1 (sh + 1) u)) 0 c)) ∧ M' = M) 17 [.ref sh, .int (nI j), .int (nI u), .long B, .retAddr 0, .int (fo (cfG B (M.2.1 (sh + 1) j) (M.2.1 (sh + 1) u)) 0 i), .int (nI i)] [] M z := by
  intro k
  induction k with
  | zero =>
    intro i hi
    have e1 : i = c := by omega
    subst e1
    refine z_iload (q := 19) rfl rfl rfl ?_
    refine z_aload_n (q := 20) rfl rfl rfl ?_
    refine z_getI (q := 23) rfl rfl rfl (Sh_k w) ?_
    refine z_ic_ge (q := 26) rfl rfl (fun h23 => ?_) (fun h23 => ?_)
    · refine z_iload (q := 64) rfl rfl rfl ?_
      refine z_ireti rfl rfl ?_
      exact ⟨rfl, rfl⟩
    · exact absurd (by rw [hc]; exact nI_le (Nat.le_refl _) (by omega)) h23
  | succ k ih =>
    intro i hi
    refine z_iload (q := 19) rfl rfl rfl ?_
    refine z_aload_n (q := 20) rfl rfl rfl ?_
    refine z_getI (q := 23) rfl rfl rfl (Sh_k w) ?_
    refine z_ic_ge (q := 26) rfl rfl (fun h23 => ?_) (fun h23 => ?_)
    · rw [hc] at h23
      exact absurd h23 (nI_ge (by omega) (by omega))
    · refine z_aload_n (q := 27) rfl rfl rfl ?_
      refine z_lload_n (q := 28) rfl rfl rfl ?_
      refine z_iload (q := 30) rfl rfl rfl ?_
      refine z_cs2i (q := 33) rfl rfl rfl (s_Sh_numberIn) ?_
      refine z_aload_n (q := 34) rfl rfl rfl ?_
      refine z_iload_n (q := 35) rfl rfl rfl ?_
      refine z_iload (q := 37) rfl rfl rfl ?_
      refine z_cv2i (q := 40) rfl rfl rfl (Sh_k w) (s_Sh_numberAt w hn hN hM hj) ?_
      refine z_aload_n (q := 41) rfl rfl rfl ?_
      refine z_iload_n (q := 42) rfl rfl rfl ?_
      refine z_iload (q := 44) rfl rfl rfl ?_
      refine z_cv2i (q := 47) rfl rfl rfl (Sh_k w) (s_Sh_numberAt w hn hN hM hu) ?_
      refine z_cv3i (q := 50) rfl rfl rfl (Sh_k w) (s_Sh_inConflict w) ?_
      refine z_if_eq (q := 53) rfl rfl (fun h50 => ?_) (fun h50 => ?_)
      · refine z_iinc (q := 59) (L2 := [_, _, _, _, _, _, _]) rfl rfl rfl rfl ?_
        refine z_goto rfl ?_
        rw [show nI i + Int32.ofInt 1 = nI (i + 1) from (nI_succ i).symm]
        refine cast ?_ (ih (i + 1) (by omega))
        have e8 : fo (cfG B (M.2.1 (sh + 1) j) (M.2.1 (sh + 1) u)) 0 (i + 1) = cfG B (M.2.1 (sh + 1) j) (M.2.1 (sh + 1) u) i (fo (cfG B (M.2.1 (sh + 1) j) (M.2.1 (sh + 1) u)) 0 i) := rfl
        rw [e8]
        unfold cfG
        first
          | (rw [bz_n] at h50; rw [if_pos h50])
          | (rw [bz_0] at h50; rw [if_neg h50])
      · refine z_iinc (q := 56) (L2 := [_, _, _, _, _, _, _]) rfl rfl rfl rfl ?_
        refine z_iinc (q := 59) (L2 := [_, _, _, _, _, _, _]) rfl rfl rfl rfl ?_
        refine z_goto rfl ?_
        rw [show nI i + Int32.ofInt 1 = nI (i + 1) from (nI_succ i).symm]
        refine cast ?_ (ih (i + 1) (by omega))
        have e8 : fo (cfG B (M.2.1 (sh + 1) j) (M.2.1 (sh + 1) u)) 0 (i + 1) = cfG B (M.2.1 (sh + 1) j) (M.2.1 (sh + 1) u) i (fo (cfG B (M.2.1 (sh + 1) j) (M.2.1 (sh + 1) u)) 0 i) := rfl
        rw [e8]
        unfold cfG
        first
          | (rw [bz_n] at h50; rw [if_pos h50])
          | (rw [bz_0] at h50; rw [if_neg h50])
theorem s_Sh_conflicts {sc : Option (Nat × Nat × (Nat → Int32))} {sa : Nat → Nat} {d : Nat} {M : mz_M} {z : Nat × Nat} {sh N : Nat} (w : g_Sh M.2.2 sh N) {n : Nat} (hn : M.1 sh 8 = nI n) (hN : n ≤ N) (hM : N ≤ 200) {j : Nat} (hj : j < n) {u : Nat} (hu : u < n) (ho : okm (M.1 (sh + 4)) n) {c : Nat} (hc : M.1 sh 5 = nI c) (hC : c ≤ 12)  : zx sc sa (d + 4) 62 [.ref sh, .int (nI j), .int (nI u)] M z z (some (.int (fo (cfG (M.2.1 (sh + 1) (mtN (M.1 (sh + 4)) (2 * n) j u)) (M.2.1 (sh + 1) j) (M.2.1 (sh + 1) u)) 0 c))) M := by
  refine zxin ym_Sh_conflicts [.ref sh, .int (nI j), .int (nI u), .retAddr 0, .retAddr 0, .retAddr 0, .retAddr 0] rfl rfl rfl rfl ?_
  refine z_aload_n (q := 1) rfl rfl rfl ?_
  refine z_aload_n (q := 2) rfl rfl rfl ?_
  refine z_iload_n (q := 3) rfl rfl rfl ?_
  refine z_iload_n (q := 4) rfl rfl rfl ?_
  refine z_cv2i (q := 7) rfl rfl rfl (Sh_k w) (s_Sh_meeting w hn hN hM hj hu ho) ?_
  refine z_cv1l (q := 10) rfl rfl rfl (Sh_k w) (s_Sh_rowOf w hn hN hM (mtN_lt ho (by omega) _ _ _ hj hu)) ?_
  refine z_lstore_n (q := 11) (L2 := [_, _, _, _, _, _, _]) rfl rfl rfl rfl ?_
  refine z_iconst (q := 12) (v := 0) rfl rfl rfl ?_
  refine z_istore (q := 14) (L2 := [_, _, _, _, _, _, _]) rfl rfl rfl rfl ?_
  refine z_iconst (q := 15) (v := 0) rfl rfl rfl ?_
  refine z_istore (q := 17) (L2 := [_, _, _, _, _, _, _]) rfl rfl rfl rfl ?_
  exact l_Sh_conflicts w hn hN hM hj hu hc hC c 0 (by omega)
theorem l_Sh_patchedRow {sc : Option (Nat × Nat × (Nat → Int32))} {sa : Nat → Nat} {d : Nat} {M : mz_M} {z : Nat × Nat} {sh N : Nat} (w : g_Sh M.2.2 sh N) {n : Nat} (hn : M.1 sh 8 = nI n) (hN : n ≤ N) (hM : N ≤ 200) {j : Nat} (hj : j < n) {u : Nat} (hu : u < n) {c : Nat} (hc : M.1 sh 5 = nI c) (hC : c ≤ 12) {v3 : Int32} {A0 : Int64} : ∀ (k : Nat) (i : Nat) (x7 : Value), i + k = c → zw sc sa (d + 2) ym_Sh_patchedRow z (fun r' M' => r' = some (.long (fo (paG (M.2.1 (sh + 1) j) (M.2.1 (sh + 1) u)) A0 c)) ∧ M' = M) 10 [.ref sh, .int (nI j), .int (nI u), .int v3, .long (fo (paG (M.2.1 (sh + 1) j) (M.2.1 (sh + 1) u)) A0 i), .retAddr 0, .int (nI i), x7] [] M z := by
  intro k
  induction k with
  | zero =>
    intro i x7 hi
    have e1 : i = c := by omega
    subst e1
    refine z_iload (q := 12) rfl rfl rfl ?_
    refine z_aload_n (q := 13) rfl rfl rfl ?_
    refine z_getI (q := 16) rfl rfl rfl (Sh_k w) ?_
    refine z_ic_ge (q := 19) rfl rfl (fun h16 => ?_) (fun h16 => ?_)
    · refine z_lload (q := 59) rfl rfl rfl ?_
      refine z_lret rfl rfl ?_
      exact ⟨rfl, rfl⟩
    · exact absurd (by rw [hc]; exact nI_le (Nat.le_refl _) (by omega)) h16
  | succ k ih =>
    intro i x7 hi
    refine z_iload (q := 12) rfl rfl rfl ?_
    refine z_aload_n (q := 13) rfl rfl rfl ?_
    refine z_getI (q := 16) rfl rfl rfl (Sh_k w) ?_
    refine z_ic_ge (q := 19) rfl rfl (fun h16 => ?_) (fun h16 => ?_)
    · rw [hc] at h16
      exact absurd h16 (nI_ge (by omega) (by omega))
    · refine z_aload_n (q := 20) rfl rfl rfl ?_
      refine z_iload_n (q := 21) rfl rfl rfl ?_
      refine z_iload (q := 23) rfl rfl rfl ?_
      refine z_cv2i (q := 26) rfl rfl rfl (Sh_k w) (s_Sh_numberAt w hn hN hM hu) ?_
      refine z_istore (q := 28) (L2 := [_, _, _, _, _, _, _, _]) rfl rfl rfl rfl ?_
      refine z_aload_n (q := 29) rfl rfl rfl ?_
      refine z_iload_n (q := 30) rfl rfl rfl ?_
      refine z_iload (q := 32) rfl rfl rfl ?_
      refine z_cv2i (q := 35) rfl rfl rfl (Sh_k w) (s_Sh_numberAt w hn hN hM hj) ?_
      refine z_iload (q := 37) rfl rfl rfl ?_
      refine z_ic_eq (q := 40) rfl rfl (fun h37 => ?_) (fun h37 => ?_)
      · refine z_iinc (q := 54) (L2 := [_, _, _, _, _, _, _, _]) rfl rfl rfl rfl ?_
        refine z_goto rfl ?_
        rw [show nI i + Int32.ofInt 1 = nI (i + 1) from (nI_succ i).symm]
        refine cast ?_ (ih (i + 1) (.int (nmI (M.2.1 (sh + 1) u) (nI i))) (by omega))
        have e8 : fo (paG (M.2.1 (sh + 1) j) (M.2.1 (sh + 1) u)) A0 (i + 1) = paG (M.2.1 (sh + 1) j) (M.2.1 (sh + 1) u) i (fo (paG (M.2.1 (sh + 1) j) (M.2.1 (sh + 1) u)) A0 i) := rfl
        rw [e8]
        unfold paG
        first
          | rw [if_pos h37]
          | rw [if_neg h37]
      · refine z_lload (q := 42) rfl rfl rfl ?_
        refine z_iload (q := 44) rfl rfl rfl ?_
        refine z_iload (q := 46) rfl rfl rfl ?_
        refine z_cs3l (q := 49) rfl rfl rfl (s_Sh_withNumber) ?_
        refine z_lstore (q := 51) (L2 := [_, _, _, _, _, _, _, _]) rfl rfl rfl rfl ?_
        refine z_iinc (q := 54) (L2 := [_, _, _, _, _, _, _, _]) rfl rfl rfl rfl ?_
        refine z_goto rfl ?_
        rw [show nI i + Int32.ofInt 1 = nI (i + 1) from (nI_succ i).symm]
        refine cast ?_ (ih (i + 1) (.int (nmI (M.2.1 (sh + 1) u) (nI i))) (by omega))
        have e8 : fo (paG (M.2.1 (sh + 1) j) (M.2.1 (sh + 1) u)) A0 (i + 1) = paG (M.2.1 (sh + 1) j) (M.2.1 (sh + 1) u) i (fo (paG (M.2.1 (sh + 1) j) (M.2.1 (sh + 1) u)) A0 i) := rfl
        rw [e8]
        unfold paG
        first
          | rw [if_pos h37]
          | rw [if_neg h37]
theorem s_Sh_patchedRow {sc : Option (Nat × Nat × (Nat → Int32))} {sa : Nat → Nat} {d : Nat} {M : mz_M} {z : Nat × Nat} {sh N : Nat} (w : g_Sh M.2.2 sh N) {n : Nat} (hn : M.1 sh 8 = nI n) (hN : n ≤ N) (hM : N ≤ 200) {j : Nat} (hj : j < n) {u : Nat} (hu : u < n) {e : Nat} (he : e < n) {c : Nat} (hc : M.1 sh 5 = nI c) (hC : c ≤ 12)  : zx sc sa (d + 3) 63 [.ref sh, .int (nI j), .int (nI u), .int (nI e)] M z z (some (.long (fo (paG (M.2.1 (sh + 1) j) (M.2.1 (sh + 1) u)) (M.2.1 (sh + 1) e) c))) M := by
  refine zxin ym_Sh_patchedRow [.ref sh, .int (nI j), .int (nI u), .int (nI e), .retAddr 0, .retAddr 0, .retAddr 0, .retAddr 0] rfl rfl rfl rfl ?_
  refine z_aload_n (q := 1) rfl rfl rfl ?_
  refine z_iload_n (q := 2) rfl rfl rfl ?_
  refine z_cv1l (q := 5) rfl rfl rfl (Sh_k w) (s_Sh_rowOf w hn hN hM he) ?_
  refine z_lstore (q := 7) (L2 := [_, _, _, _, _, _, _, _]) rfl rfl rfl rfl ?_
  refine z_iconst (q := 8) (v := 0) rfl rfl rfl ?_
  refine z_istore (q := 10) (L2 := [_, _, _, _, _, _, _, _]) rfl rfl rfl rfl ?_
  exact l_Sh_patchedRow w hn hN hM hj hu hc hC c 0 _ (by omega)
def wtG (f : Nat → Int32) (n : Nat) (v0 : Int32) : Nat → Int32 → Int32 := fun v acc => if nI v = v0 then acc else if lg_cmp ((Int64.toUInt64 (wbI f n (nI v) 0) >>> ((v0).toInt64.toUInt64 &&& Int64.toUInt64 63)).toInt64 &&& 1) 0 = 0 then acc else acc + Int32.ofInt 1
def mpG (f : Nat → Int32) (n : Nat) : Nat → Int32 × Int32 → Int32 × Int32 := fun v q => if (if f v = -1 then 0 else fo (wtG f n (nI v)) 0 n) ≤ q.2 then q else (nI v, if f v = -1 then 0 else fo (wtG f n (nI v)) 0 n)
theorem mpG_d {f : Nat → Int32} {n v : Nat} {q : Int32 × Int32} (h : f v = -1) : mpG f n v q = if 0 ≤ q.2 then q else (nI v, 0) := by
  unfold mpG
  rw [if_pos h]
theorem mpG_n {f : Nat → Int32} {n v : Nat} {q : Int32 × Int32} (h : ¬ f v = -1) : mpG f n v q = if fo (wtG f n (nI v)) 0 n ≤ q.2 then q else (nI v, fo (wtG f n (nI v)) 0 n) := by
  unfold mpG
  rw [if_neg h]
theorem s_Sh_waysThroughG {sc : Option (Nat × Nat × (Nat → Int32))} {sa : Nat → Nat} {d : Nat} {M : mz_M} {z : Nat × Nat} {sh N : Nat} (w : g_Sh M.2.2 sh N) {n : Nat} (hn : M.1 sh 8 = nI n) (hN : n ≤ N) (hM : N ≤ 200) (hf : okl (M.1 (sh + 2)) n) {v0 : Int32} : zx sc sa (d + 3) 48 [.ref sh, .int v0] M z z (some (.int (fo (wtG (M.1 (sh + 2)) n v0) 0 n))) M := s_Sh_waysThrough w hn hN hM hf
theorem l_Sh_mostPassed {sc : Option (Nat × Nat × (Nat → Int32))} {sa : Nat → Nat} {d : Nat} {M : mz_M} {z : Nat × Nat} {sh N : Nat} (w : g_Sh M.2.2 sh N) {n : Nat} (hn : M.1 sh 8 = nI n) (hN : n ≤ N) (hM : N ≤ 200) (hf : okl (M.1 (sh + 2)) n)  : ∀ (k : Nat) (i : Nat) (x4 : Value), i + k = n → zw sc sa (d + 3) ym_Sh_mostPassed z (fun r' M' => r' = some (.int (fo (mpG (M.1 (sh + 2)) n) (-1, 0) n).1) ∧ M' = M) 6 [.ref sh, .int (fo (mpG (M.1 (sh + 2)) n) (-1, 0) i).1, .int (fo (mpG (M.1 (sh + 2)) n) (-1, 0) i).2, .int (nI i), x4] [] M z := by
  intro k
  induction k with
  | zero =>
    intro i x4 hi
    have e1 : i = n := by omega
    subst e1
    refine z_iload_n (q := 7) rfl rfl rfl ?_
    refine z_aload_n (q := 8) rfl rfl rfl ?_
    refine z_getI (q := 11) rfl rfl rfl (Sh_k w) ?_
    refine z_ic_ge (q := 14) rfl rfl (fun h11 => ?_) (fun h11 => ?_)
    · refine z_iload_n (q := 51) rfl rfl rfl ?_
      refine z_ireti rfl rfl ?_
      exact ⟨rfl, rfl⟩
    · exact absurd (by rw [hn]; exact nI_le (Nat.le_refl _) (by omega)) h11
  | succ k ih =>
    intro i x4 hi
    refine z_iload_n (q := 7) rfl rfl rfl ?_
    refine z_aload_n (q := 8) rfl rfl rfl ?_
    refine z_getI (q := 11) rfl rfl rfl (Sh_k w) ?_
    refine z_ic_ge (q := 14) rfl rfl (fun h11 => ?_) (fun h11 => ?_)
    · rw [hn] at h11
      exact absurd h11 (nI_ge (by omega) (by omega))
    · refine z_aload_n (q := 15) rfl rfl rfl ?_
      refine z_iload_n (q := 16) rfl rfl rfl ?_
      refine z_cv1i (q := 19) rfl rfl rfl (Sh_k w) (s_Sh_isDirect w hn hN hM (by omega)) ?_
      refine z_if_eq (q := 22) rfl rfl (fun h19 => ?_) (fun h19 => ?_)
      · refine z_aload_n (q := 27) rfl rfl rfl ?_
        refine z_iload_n (q := 28) rfl rfl rfl ?_
        refine z_cv1i (q := 31) rfl rfl rfl (Sh_k w) (s_Sh_waysThroughG w hn hN hM hf) ?_
        refine z_istore (q := 33) (L2 := [_, _, _, _, _]) rfl rfl rfl rfl ?_
        refine z_iload (q := 35) rfl rfl rfl ?_
        refine z_iload_n (q := 36) rfl rfl rfl ?_
        refine z_ic_le (q := 39) rfl rfl (fun h36 => ?_) (fun h36 => ?_)
        · refine z_iinc (q := 47) (L2 := [_, _, _, _, _]) rfl rfl rfl rfl ?_
          refine z_goto rfl ?_
          rw [show nI i + Int32.ofInt 1 = nI (i + 1) from (nI_succ i).symm]
          have e8 : fo (mpG (M.1 (sh + 2)) n) (-1, 0) (i + 1) = mpG (M.1 (sh + 2)) n i (fo (mpG (M.1 (sh + 2)) n) (-1, 0) i) := rfl
          first
            | (have h9 := bz_n.mp h19
               rw [mpG_d h9] at e8
               first
                 | (rw [if_pos h36] at e8
                    have e9 := ih (i + 1) (.int 0) (by omega)
                    rw [e8] at e9
                    exact e9)
                 | (rw [if_neg h36] at e8
                    have e9 := ih (i + 1) (.int 0) (by omega)
                    rw [e8] at e9
                    exact e9))
            | (have h9 := bz_0.mp h19
               rw [mpG_n h9] at e8
               first
                 | (rw [if_pos h36] at e8
                    have e9 := ih (i + 1) (.int (fo (wtG (M.1 (sh + 2)) n (nI i)) 0 n)) (by omega)
                    rw [e8] at e9
                    exact e9)
                 | (rw [if_neg h36] at e8
                    have e9 := ih (i + 1) (.int (fo (wtG (M.1 (sh + 2)) n (nI i)) 0 n)) (by omega)
                    rw [e8] at e9
                    exact e9))
        · refine z_iload (q := 41) rfl rfl rfl ?_
          refine z_istore_n (q := 42) (L2 := [_, _, _, _, _]) rfl rfl rfl rfl ?_
          refine z_iload_n (q := 43) rfl rfl rfl ?_
          refine z_istore_n (q := 44) (L2 := [_, _, _, _, _]) rfl rfl rfl rfl ?_
          refine z_iinc (q := 47) (L2 := [_, _, _, _, _]) rfl rfl rfl rfl ?_
          refine z_goto rfl ?_
          rw [show nI i + Int32.ofInt 1 = nI (i + 1) from (nI_succ i).symm]
          have e8 : fo (mpG (M.1 (sh + 2)) n) (-1, 0) (i + 1) = mpG (M.1 (sh + 2)) n i (fo (mpG (M.1 (sh + 2)) n) (-1, 0) i) := rfl
          first
            | (have h9 := bz_n.mp h19
               rw [mpG_d h9] at e8
               first
                 | (rw [if_pos h36] at e8
                    have e9 := ih (i + 1) (.int 0) (by omega)
                    rw [e8] at e9
                    exact e9)
                 | (rw [if_neg h36] at e8
                    have e9 := ih (i + 1) (.int 0) (by omega)
                    rw [e8] at e9
                    exact e9))
            | (have h9 := bz_0.mp h19
               rw [mpG_n h9] at e8
               first
                 | (rw [if_pos h36] at e8
                    have e9 := ih (i + 1) (.int (fo (wtG (M.1 (sh + 2)) n (nI i)) 0 n)) (by omega)
                    rw [e8] at e9
                    exact e9)
                 | (rw [if_neg h36] at e8
                    have e9 := ih (i + 1) (.int (fo (wtG (M.1 (sh + 2)) n (nI i)) 0 n)) (by omega)
                    rw [e8] at e9
                    exact e9))
      · refine z_iconst (q := 23) (v := 0) rfl rfl rfl ?_
        refine z_goto rfl ?_
        refine z_istore (q := 33) (L2 := [_, _, _, _, _]) rfl rfl rfl rfl ?_
        refine z_iload (q := 35) rfl rfl rfl ?_
        refine z_iload_n (q := 36) rfl rfl rfl ?_
        refine z_ic_le (q := 39) rfl rfl (fun h36 => ?_) (fun h36 => ?_)
        · refine z_iinc (q := 47) (L2 := [_, _, _, _, _]) rfl rfl rfl rfl ?_
          refine z_goto rfl ?_
          rw [show nI i + Int32.ofInt 1 = nI (i + 1) from (nI_succ i).symm]
          have e8 : fo (mpG (M.1 (sh + 2)) n) (-1, 0) (i + 1) = mpG (M.1 (sh + 2)) n i (fo (mpG (M.1 (sh + 2)) n) (-1, 0) i) := rfl
          first
            | (have h9 := bz_n.mp h19
               rw [mpG_d h9] at e8
               first
                 | (rw [if_pos h36] at e8
                    have e9 := ih (i + 1) (.int 0) (by omega)
                    rw [e8] at e9
                    exact e9)
                 | (rw [if_neg h36] at e8
                    have e9 := ih (i + 1) (.int 0) (by omega)
                    rw [e8] at e9
                    exact e9))
            | (have h9 := bz_0.mp h19
               rw [mpG_n h9] at e8
               first
                 | (rw [if_pos h36] at e8
                    have e9 := ih (i + 1) (.int (fo (wtG (M.1 (sh + 2)) n (nI i)) 0 n)) (by omega)
                    rw [e8] at e9
                    exact e9)
                 | (rw [if_neg h36] at e8
                    have e9 := ih (i + 1) (.int (fo (wtG (M.1 (sh + 2)) n (nI i)) 0 n)) (by omega)
                    rw [e8] at e9
                    exact e9))
        · refine z_iload (q := 41) rfl rfl rfl ?_
          refine z_istore_n (q := 42) (L2 := [_, _, _, _, _]) rfl rfl rfl rfl ?_
          refine z_iload_n (q := 43) rfl rfl rfl ?_
          refine z_istore_n (q := 44) (L2 := [_, _, _, _, _]) rfl rfl rfl rfl ?_
          refine z_iinc (q := 47) (L2 := [_, _, _, _, _]) rfl rfl rfl rfl ?_
          refine z_goto rfl ?_
          rw [show nI i + Int32.ofInt 1 = nI (i + 1) from (nI_succ i).symm]
          have e8 : fo (mpG (M.1 (sh + 2)) n) (-1, 0) (i + 1) = mpG (M.1 (sh + 2)) n i (fo (mpG (M.1 (sh + 2)) n) (-1, 0) i) := rfl
          first
            | (have h9 := bz_n.mp h19
               rw [mpG_d h9] at e8
               first
                 | (rw [if_pos h36] at e8
                    have e9 := ih (i + 1) (.int 0) (by omega)
                    rw [e8] at e9
                    exact e9)
                 | (rw [if_neg h36] at e8
                    have e9 := ih (i + 1) (.int 0) (by omega)
                    rw [e8] at e9
                    exact e9))
            | (have h9 := bz_0.mp h19
               rw [mpG_n h9] at e8
               first
                 | (rw [if_pos h36] at e8
                    have e9 := ih (i + 1) (.int (fo (wtG (M.1 (sh + 2)) n (nI i)) 0 n)) (by omega)
                    rw [e8] at e9
                    exact e9)
                 | (rw [if_neg h36] at e8
                    have e9 := ih (i + 1) (.int (fo (wtG (M.1 (sh + 2)) n (nI i)) 0 n)) (by omega)
                    rw [e8] at e9
                    exact e9))
theorem s_Sh_mostPassed {sc : Option (Nat × Nat × (Nat → Int32))} {sa : Nat → Nat} {d : Nat} {M : mz_M} {z : Nat × Nat} {sh N : Nat} (w : g_Sh M.2.2 sh N) {n : Nat} (hn : M.1 sh 8 = nI n) (hN : n ≤ N) (hM : N ≤ 200) (hf : okl (M.1 (sh + 2)) n)  : zx sc sa (d + 4) 47 [.ref sh] M z z (some (.int (fo (mpG (M.1 (sh + 2)) n) (-1, 0) n).1)) M := by
  refine zxin ym_Sh_mostPassed [.ref sh, .retAddr 0, .retAddr 0, .retAddr 0, .retAddr 0] rfl rfl rfl rfl ?_
  refine z_iconst (q := 1) (v := -1) rfl rfl rfl ?_
  refine z_istore_n (q := 2) (L2 := [_, _, _, _, _]) rfl rfl rfl rfl ?_
  refine z_iconst (q := 3) (v := 0) rfl rfl rfl ?_
  refine z_istore_n (q := 4) (L2 := [_, _, _, _, _]) rfl rfl rfl rfl ?_
  refine z_iconst (q := 5) (v := 0) rfl rfl rfl ?_
  refine z_istore_n (q := 6) (L2 := [_, _, _, _, _]) rfl rfl rfl rfl ?_
  exact l_Sh_mostPassed w hn hN hM hf n 0 _ (by omega)
end
section
theorem p_Sh_mergedRow {M : mz_M} {sc : Option (Nat × Nat × (Nat → Int32))} {sa : Nat → Nat} {d : Nat} {z : Nat × Nat} {sh N : Nat} {s l t m p : Int32} {J : Nat → Int64} {lt lc mo mc : Nat → Int32} (w : g_Sh M.2.2 sh N) {n : Nat} (hn : m = nI n) (hN : n ≤ N) (hM : N ≤ 200) {j : Nat} (hj : j < n) {u : Nat} (hu : u < n) (ho : okm mo n) {c : Nat} (hc : s = nI c) (hC : c ≤ 12)  : zx sc sa (d + 4) 61 [.ref sh, .int (nI j), .int (nI u)] (shP M sh s l t m p J lt lc mo mc) z z (some (.long (fo (mgG (J (mtN mo (2 * n) j u)) (J j) (J u)) (J j) c))) (shP M sh s l t m p J lt lc mo mc) := by
  have h := s_Sh_mergedRow (sc := sc) (sa := sa) (d := d) (z := z) (M := shP M sh s l t m p J lt lc mo mc) w (by rw [shP_g8]; exact hn) hN hM hj hu (by rw [shP_a3]; exact ho) (by rw [shP_g5]; exact hc) hC
  rw [shP_a0, shP_a3] at h
  exact h
theorem p_Sh_patchedRow {M : mz_M} {sc : Option (Nat × Nat × (Nat → Int32))} {sa : Nat → Nat} {d : Nat} {z : Nat × Nat} {sh N : Nat} {s l t m p : Int32} {J : Nat → Int64} {lt lc mo mc : Nat → Int32} (w : g_Sh M.2.2 sh N) {n : Nat} (hn : m = nI n) (hN : n ≤ N) (hM : N ≤ 200) {j : Nat} (hj : j < n) {u : Nat} (hu : u < n) {e : Nat} (he : e < n) {c : Nat} (hc : s = nI c) (hC : c ≤ 12)  : zx sc sa (d + 3) 63 [.ref sh, .int (nI j), .int (nI u), .int (nI e)] (shP M sh s l t m p J lt lc mo mc) z z (some (.long (fo (paG (J j) (J u)) (J e) c))) (shP M sh s l t m p J lt lc mo mc) := by
  have h := s_Sh_patchedRow (sc := sc) (sa := sa) (d := d) (z := z) (M := shP M sh s l t m p J lt lc mo mc) w (by rw [shP_g8]; exact hn) hN hM hj hu he (by rw [shP_g5]; exact hc) hC
  rw [shP_a0] at h
  exact h
theorem p_Sh_allWays {M : mz_M} {sc : Option (Nat × Nat × (Nat → Int32))} {sa : Nat → Nat} {d : Nat} {z : Nat × Nat} {sh N : Nat} {s l t m p : Int32} {J : Nat → Int64} {lt lc mo mc : Nat → Int32} (w : g_Sh M.2.2 sh N) {n : Nat} (hn : m = nI n) (hN : n ≤ N) (hM : N ≤ 200) (hf : okl lt n)  : zx sc sa (d + 2) 42 [.ref sh] (shP M sh s l t m p J lt lc mo mc) z z (some (.int (fo (fun v acc => acc + nI (wl lt n v)) 0 n))) (shP M sh s l t m p J lt lc mo mc) := by
  have h := s_Sh_allWays (sc := sc) (sa := sa) (d := d) (z := z) (M := shP M sh s l t m p J lt lc mo mc) w (by rw [shP_g8]; exact hn) hN hM (by rw [shP_a1]; exact hf)
  rw [shP_a1] at h
  exact h
theorem up_bk {α : Type} {f : Nat → α} {k : Nat} {x : α} : va_up (va_up f k x) k (f k) = f := by
  funext c
  by_cases h : c = k
  · simp [va_up, h]
  · simp [va_up, h]
theorem p_Sh_allWaysIfSnapped {sc : Option (Nat × Nat × (Nat → Int32))} {sa : Nat → Nat} {d : Nat} {M : mz_M} {z : Nat × Nat} {sh N : Nat} {s l t m p : Int32} {J : Nat → Int64} {lt lc mo mc : Nat → Int32} (w : g_Sh M.2.2 sh N) {n : Nat} (hn : m = nI n) (hN : n ≤ N) (hM : N ≤ 200) {j : Nat} (hj : j < n) (hf : okl lt n)  : zx sc sa (d + 3) 43 [.ref sh, .int (nI j)] (shP M sh s l t m p J lt lc mo mc) z z (some (.int (fo (fun v acc => acc + nI (wl (va_up lt j (-1)) n v)) 0 n))) (shP M sh s l t m p J lt lc mo mc) := by
  refine zxin ym_Sh_allWaysIfSnapped [.ref sh, .int (nI j), .retAddr 0, .retAddr 0] rfl rfl rfl rfl ?_
  refine z_aload_n (q := 1) rfl rfl rfl ?_
  refine z_iload_n (q := 2) rfl rfl rfl ?_
  refine z_cv1i (q := 5) rfl rfl rfl (Sh_k w) (p_Sh_has w hn hN hM hj) ?_
  refine z_if_ne (q := 8) rfl rfl (fun h5 => ?_) (fun h5 => ?_)
  · refine z_aload_n (q := 14) rfl rfl rfl ?_
    refine z_getR (q := 17) rfl rfl rfl (Sh_k w) (Sh_r1 w) ?_
    refine z_iload_n (q := 18) rfl rfl rfl ?_
    refine z_iald (q := 19) rfl rfl (Sh_a1 w) (by first | assumption | exact vp_in_nI (by omega) (by omega)) ?_
    rw [shP_a1]
    try rw [nI_clamp (by omega)]
    refine z_istore_n (q := 20) (L2 := [_, _, _, _]) rfl rfl rfl rfl ?_
    refine z_aload_n (q := 21) rfl rfl rfl ?_
    refine z_getR (q := 24) rfl rfl rfl (Sh_k w) (Sh_r1 w) ?_
    refine z_iload_n (q := 25) rfl rfl rfl ?_
    refine z_iconst (q := 26) (v := -1) rfl rfl rfl ?_
    refine z_iast (q := 27) rfl rfl (Sh_a1 w) (by first | assumption | exact vp_in_nI (by omega) (by omega)) ?_
    rw [shP_w1]
    try rw [nI_clamp (by omega)]
    refine z_aload_n (q := 28) rfl rfl rfl ?_
    refine z_cv0i (q := 31) rfl rfl rfl (Sh_k w) (p_Sh_allWays w hn hN hM (okl_up hf (Or.inl rfl))) ?_
    refine z_istore_n (q := 32) (L2 := [_, _, _, _]) rfl rfl rfl rfl ?_
    refine z_aload_n (q := 33) rfl rfl rfl ?_
    refine z_getR (q := 36) rfl rfl rfl (Sh_k w) (Sh_r1 w) ?_
    refine z_iload_n (q := 37) rfl rfl rfl ?_
    refine z_iload_n (q := 38) rfl rfl rfl ?_
    refine z_iast (q := 39) rfl rfl (Sh_a1 w) (by first | assumption | exact vp_in_nI (by omega) (by omega)) ?_
    rw [shP_w1]
    try rw [nI_clamp (by omega)]
    refine z_iload_n (q := 40) rfl rfl rfl ?_
    refine z_ireti rfl rfl ?_
    rw [up_bk]
    exact ⟨rfl, rfl⟩
  · exact absurd h5 (by decide)
-- a shelf's versions as one value: how many, rows, links, makings, steps
abbrev sQ : Type := Nat × (Nat → Int64) × (Nat → Int32) × (Nat → Int32) × (Nat → Int32) × (Nat → Int32) × Int32
def shQ (M : mz_M) (sh : Nat) (s l t : Int32) (q : sQ) : mz_M := shP M sh s l t (nI q.1) q.2.2.2.2.2.2 q.2.1 q.2.2.1 q.2.2.2.1 q.2.2.2.2.1 q.2.2.2.2.2.1
def setQ (s l t : Int32) (j : Nat) (cell x : Int32) (q : sQ) : sQ := (q.1 + 1, va_up q.2.1 q.1 (wnI (q.2.1 j) cell x), (stF s l t q.1 j cell q.2.2.1 q.2.2.2.1 q.2.2.2.2.2.2).1, (stF s l t q.1 j cell q.2.2.1 q.2.2.2.1 q.2.2.2.2.2.2).2.1, va_up q.2.2.2.2.1 q.1 (nI j), va_up q.2.2.2.2.2.1 q.1 cell, (stF s l t q.1 j cell q.2.2.1 q.2.2.2.1 q.2.2.2.2.2.2).2.2)
def rdQ (s l t : Int32) (j : Nat) (cell : Int32) (q : sQ) : sQ := (q.1, q.2.1, (rdF s l t q.1 j cell q.2.2.1 q.2.2.2.1 q.2.2.2.2.2.2).1, (rdF s l t q.1 j cell q.2.2.1 q.2.2.2.1 q.2.2.2.2.2.2).2.1, q.2.2.2.2.1, q.2.2.2.2.2.1, (rdF s l t q.1 j cell q.2.2.1 q.2.2.2.1 q.2.2.2.2.2.2).2.2)
def frQ (s l t : Int32) (c j : Nat) (a : Int32) (q : sQ) : Int32 × sQ := ((frF s l t q.1 j q.2.1 c a q.2.2.1 q.2.2.2.1 q.2.2.2.2.2.2).1, q.1, q.2.1, (frF s l t q.1 j q.2.1 c a q.2.2.1 q.2.2.2.1 q.2.2.2.2.2.2).2.1, (frF s l t q.1 j q.2.1 c a q.2.2.1 q.2.2.2.1 q.2.2.2.2.2.2).2.2.1, q.2.2.2.2.1, q.2.2.2.2.2.1, (frF s l t q.1 j q.2.1 c a q.2.2.1 q.2.2.2.1 q.2.2.2.2.2.2).2.2.2)
def snQ (s : Int32) (j : Nat) (q : sQ) : Int32 × sQ := if q.2.2.1 j = -1 then (0, q) else (q.2.2.2.2.2.2 + (nI (wl q.2.2.1 q.1 j) + s) - q.2.2.2.2.2.2, q.1, q.2.1, va_up q.2.2.1 j (-1), va_up q.2.2.2.1 j (-1), q.2.2.2.2.1, q.2.2.2.2.2.1, q.2.2.2.2.2.2 + (nI (wl q.2.2.1 q.1 j) + s))
def loG (s l t : Int32) (fr row : Int64) : Nat → Nat × sQ → Nat × sQ := fun c v => if nmI fr (nI c) = nmI row (nI c) then v else (v.2.1, setQ s l t v.1 (nI c) (nmI row (nI c)) v.2)
theorem loG_e {s l t : Int32} {fr row : Int64} {c : Nat} {v : Nat × sQ} (h : nmI fr (nI c) = nmI row (nI c)) : loG s l t fr row c v = v := if_pos h
theorem loG_n {s l t : Int32} {fr row : Int64} {c : Nat} {v : Nat × sQ} (h : ¬ nmI fr (nI c) = nmI row (nI c)) : loG s l t fr row c v = (v.2.1, setQ s l t v.1 (nI c) (nmI row (nI c)) v.2) := if_neg h
theorem okl_st {s l t : Int32} {n j : Nat} {cell : Int32} {lt lc : Nat → Int32} {p : Int32} (hn : n < 2 ^ 30) (hj : j < n) (h : okl lt n) : okl (stF s l t n j cell lt lc p).1 (n + 1) := by
  have mono : ∀ (f : Nat → Int32) (k : Nat) (b : Int32), okl f n → okv (n + 1) b → okl (va_up (va_up f n (-1)) k b) (n + 1) := by
    intro f k b hf hb v hv
    by_cases e : v = k
    · have : va_up (va_up f n (-1)) k b v = b := by simp [va_up, e]
      rw [this]
      exact hb
    · by_cases e2 : v = n
      · have : va_up (va_up f n (-1)) k b v = -1 := by
          have : n ≠ k := fun h => e (e2.trans h)
          simp [va_up, e2, this]
        rw [this]
        exact Or.inl rfl
      · have : va_up (va_up f n (-1)) k b v = f v := by simp [va_up, e, e2]
        rw [this]
        rcases hf v (by omega) with a | ⟨u, hu, a⟩
        · exact Or.inl a
        · exact Or.inr ⟨u, by omega, a⟩
  unfold stF
  by_cases h1 : l = 1
  · rw [if_pos h1]
    exact mono _ _ _ h (Or.inr ⟨j, by omega, rfl⟩)
  · rw [if_neg h1]
    exact mono _ _ _ (okl_rc (by omega) hj h) (Or.inr ⟨n, by omega, rfl⟩)
theorem q_Sh_setCell {M : mz_M} {sc : Option (Nat × Nat × (Nat → Int32))} {sa : Nat → Nat} {d : Nat} {z : Nat × Nat} {sh N : Nat} {s l t : Int32} {q : sQ} (w : g_Sh M.2.2 sh N) (hN : q.1 < N) (hM : N ≤ 200) {j : Nat} (hj : j < q.1) (hf : okl q.2.2.1 q.1) {cell x : Int32} : zx sc sa (d + 3) 56 [.ref sh, .int (nI j), .int cell, .int x] (shQ M sh s l t q) z z (some (.int (nI q.1))) (shQ M sh s l t (setQ s l t j cell x q)) := by
  have h := p_Sh_setCell (sc := sc) (sa := sa) (d := d) (z := z) (s := s) (l := l) (t := t) (p := q.2.2.2.2.2.2) (J := q.2.1) (lc := q.2.2.2.1) (mo := q.2.2.2.2.1) (mc := q.2.2.2.2.2.1) w hN hM hj hf (cell := cell) (x := x)
  rw [← nI_succ] at h
  exact h
theorem q_Sh_joinRoots {M : mz_M} {sc : Option (Nat × Nat × (Nat → Int32))} {sa : Nat → Nat} {d : Nat} {z : Nat × Nat} {sh N : Nat} {s l t : Int32} {q : sQ} (w : g_Sh M.2.2 sh N) (hN : q.1 < N) (hM : N ≤ 200) {j : Nat} (hj : j < q.1) (hf : okl q.2.2.1 q.1) {a b : Int32} : zx sc sa (d + 4) 59 [.ref sh, .int (nI j), .int a, .int b] (shQ M sh s l t q) z z (some (.int (nI q.1))) (shQ M sh s l t (setQ s l t j (if a < b then b else a) (if b < a then b else a) q)) := by
  have h := p_Sh_joinRoots (sc := sc) (sa := sa) (d := d) (z := z) (s := s) (l := l) (t := t) (p := q.2.2.2.2.2.2) (J := q.2.1) (lc := q.2.2.2.1) (mo := q.2.2.2.2.1) (mc := q.2.2.2.2.2.1) w hN hM hj hf (a := a) (b := b)
  rw [← nI_succ] at h
  exact h
theorem q_Sh_readCell {M : mz_M} {sc : Option (Nat × Nat × (Nat → Int32))} {sa : Nat → Nat} {d : Nat} {z : Nat × Nat} {sh N : Nat} {s l t : Int32} {q : sQ} (w : g_Sh M.2.2 sh N) (hN : q.1 ≤ N) (hM : N ≤ 200) {j : Nat} (hj : j < q.1) (hf : okl q.2.2.1 q.1) {cell : Int32} : zx sc sa (d + 3) 52 [.ref sh, .int (nI j), .int cell] (shQ M sh s l t q) z z (some (.int (nmI (q.2.1 j) cell))) (shQ M sh s l t (rdQ s l t j cell q)) := p_Sh_readCell w rfl hN hM hj hf
theorem q_Sh_findRoot {M : mz_M} {sc : Option (Nat × Nat × (Nat → Int32))} {sa : Nat → Nat} {d : Nat} {z : Nat × Nat} {sh N : Nat} {s l t : Int32} {q : sQ} (w : g_Sh M.2.2 sh N) (hN : q.1 ≤ N) (hM : N ≤ 200) {j : Nat} (hj : j < q.1) (hf : okl q.2.2.1 q.1) {c : Nat} (hc : s = nI c) (hC : c ≤ 12) {a : Int32} : zx sc sa (d + 4) 58 [.ref sh, .int (nI j), .int a] (shQ M sh s l t q) z z (some (.int (frQ s l t c j a q).1)) (shQ M sh s l t (frQ s l t c j a q).2) := p_Sh_findRoot w rfl hN hM hj hf hc hC
theorem q_Sh_snapRow {M : mz_M} {sc : Option (Nat × Nat × (Nat → Int32))} {sa : Nat → Nat} {d : Nat} {z : Nat × Nat} {sh N : Nat} {s l t : Int32} {q : sQ} (w : g_Sh M.2.2 sh N) (hN : q.1 ≤ N) (hM : N ≤ 200) {j : Nat} (hj : j < q.1) (hf : okl q.2.2.1 q.1) : zx sc sa (d + 3) 57 [.ref sh, .int (nI j)] (shQ M sh s l t q) z z (some (.int (snQ s j q).1)) (shQ M sh s l t (snQ s j q).2) := by
  have h := p_Sh_snapRow (sc := sc) (sa := sa) (d := d) (z := z) (s := s) (l := l) (t := t) (p := q.2.2.2.2.2.2) (J := q.2.1) (lc := q.2.2.2.1) (mo := q.2.2.2.2.1) (mc := q.2.2.2.2.2.1) w rfl hN hM hj hf
  unfold snQ
  by_cases h1 : q.2.2.1 j = -1
  · rw [if_pos h1, if_pos h1] at h
    rw [if_pos h1]
    exact h
  · rw [if_neg h1, if_neg h1] at h
    rw [if_neg h1]
    exact h
theorem l_Sh_layOn {sc : Option (Nat × Nat × (Nat → Int32))} {sa : Nat → Nat} {d : Nat} {M : mz_M} {z : Nat × Nat} {sh N : Nat} {s l t : Int32} (w : g_Sh M.2.2 sh N) (hM : N ≤ 200) {c : Nat} (hc : s = nI c) (hC : c ≤ 12) {x1 : Int32} {fr row : Int64} {v0 : Nat × sQ} (hcap : ∀ i, i < c → ¬ nmI fr (nI i) = nmI row (nI i) → (fo (loG s l t fr row) v0 i).2.1 < N) : ∀ (k : Nat) (i : Nat), i + k = c → (fo (loG s l t fr row) v0 i).1 < (fo (loG s l t fr row) v0 i).2.1 → (fo (loG s l t fr row) v0 i).2.1 ≤ N → okl (fo (loG s l t fr row) v0 i).2.2.2.1 (fo (loG s l t fr row) v0 i).2.1 → zw sc sa (d + 3) ym_Sh_layOn z (fun r' M' => r' = some (.int (nI (fo (loG s l t fr row) v0 c).1)) ∧ M' = (shQ M sh s l t (fo (loG s l t fr row) v0 c).2)) 13 [.ref sh, .int x1, .long row, .retAddr 0, .long fr, .retAddr 0, .int (nI (fo (loG s l t fr row) v0 i).1), .int (nI i)] [] (shQ M sh s l t (fo (loG s l t fr row) v0 i).2) z := by
  intro k
  induction k with
  | zero =>
    intro i hi h1 h2 h3
    have e1 : i = c := by omega
    subst e1
    refine z_iload (q := 15) rfl rfl rfl ?_
    refine z_aload_n (q := 16) rfl rfl rfl ?_
    refine z_getI (q := 19) rfl rfl rfl (Sh_k w) ?_
    refine z_ic_ge (q := 22) rfl rfl (fun h19 => ?_) (fun h19 => ?_)
    · refine z_iload (q := 62) rfl rfl rfl ?_
      refine z_ireti rfl rfl ?_
      exact ⟨rfl, rfl⟩
    · exact absurd (show (shQ M sh s l t (fo (loG s l t fr row) v0 i).2).1 sh 5 ≤ nI i from by rw [show (shQ M sh s l t (fo (loG s l t fr row) v0 i).2).1 sh 5 = s from shP_g5, hc]; exact nI_le (Nat.le_refl _) (by omega)) h19
  | succ k ih =>
    intro i hi h1 h2 h3
    have e8 : fo (loG s l t fr row) v0 (i + 1) = loG s l t fr row i (fo (loG s l t fr row) v0 i) := rfl
    refine z_iload (q := 15) rfl rfl rfl ?_
    refine z_aload_n (q := 16) rfl rfl rfl ?_
    refine z_getI (q := 19) rfl rfl rfl (Sh_k w) ?_
    refine z_ic_ge (q := 22) rfl rfl (fun h19 => ?_) (fun h19 => ?_)
    · rw [show (shQ M sh s l t (fo (loG s l t fr row) v0 i).2).1 sh 5 = s from shP_g5, hc] at h19
      exact absurd h19 (nI_ge (by omega) (by omega))
    · refine z_lload (q := 24) rfl rfl rfl ?_
      refine z_iload (q := 26) rfl rfl rfl ?_
      refine z_cs2i (q := 29) rfl rfl rfl (s_Sh_numberIn) ?_
      refine z_lload_n (q := 30) rfl rfl rfl ?_
      refine z_iload (q := 32) rfl rfl rfl ?_
      refine z_cs2i (q := 35) rfl rfl rfl (s_Sh_numberIn) ?_
      refine z_ic_eq (q := 38) rfl rfl (fun h35 => ?_) (fun h35 => ?_)
      · refine z_iinc (q := 57) (L2 := [_, _, _, _, _, _, _, _]) rfl rfl rfl rfl ?_
        refine z_goto rfl ?_
        rw [show nI i + Int32.ofInt 1 = nI (i + 1) from (nI_succ i).symm]
        have e9 := ih (i + 1) (by omega)
        first
          | (rw [e8, loG_e h35] at e9; exact e9 h1 h2 h3)
          | (rw [e8, loG_n h35] at e9
             exact e9 (Nat.lt_succ_self _) (hcap i (by omega) h35) (okl_st (by omega) h1 h3))
      · refine z_aload_n (q := 39) rfl rfl rfl ?_
        refine z_iload (q := 41) rfl rfl rfl ?_
        refine z_iload (q := 43) rfl rfl rfl ?_
        refine z_lload_n (q := 44) rfl rfl rfl ?_
        refine z_iload (q := 46) rfl rfl rfl ?_
        refine z_cs2i (q := 49) rfl rfl rfl (s_Sh_numberIn) ?_
        refine z_cv3i (q := 52) rfl rfl rfl (Sh_k w) (q_Sh_setCell w (hcap i (by omega) h35) hM h1 h3) ?_
        refine z_istore (q := 54) (L2 := [_, _, _, _, _, _, _, _]) rfl rfl rfl rfl ?_
        refine z_iinc (q := 57) (L2 := [_, _, _, _, _, _, _, _]) rfl rfl rfl rfl ?_
        refine z_goto rfl ?_
        rw [show nI i + Int32.ofInt 1 = nI (i + 1) from (nI_succ i).symm]
        have e9 := ih (i + 1) (by omega)
        first
          | (rw [e8, loG_e h35] at e9; exact e9 h1 h2 h3)
          | (rw [e8, loG_n h35] at e9
             exact e9 (Nat.lt_succ_self _) (hcap i (by omega) h35) (okl_st (by omega) h1 h3))
theorem q_Sh_layOn {sc : Option (Nat × Nat × (Nat → Int32))} {sa : Nat → Nat} {d : Nat} {M : mz_M} {z : Nat × Nat} {sh N : Nat} {s l t : Int32} {q : sQ} (w : g_Sh M.2.2 sh N) (hN : q.1 ≤ N) (hM : N ≤ 200) {j : Nat} (hj : j < q.1) (hf : okl q.2.2.1 q.1) {c : Nat} (hc : s = nI c) (hC : c ≤ 12) {row : Int64} (hcap : ∀ i, i < c → ¬ nmI (q.2.1 j) (nI i) = nmI row (nI i) → (fo (loG s l t (q.2.1 j) row) (j, q) i).2.1 < N) : zx sc sa (d + 4) 64 [.ref sh, .int (nI j), .long row] (shQ M sh s l t q) z z (some (.int (nI (fo (loG s l t (q.2.1 j) row) (j, q) c).1))) (shQ M sh s l t (fo (loG s l t (q.2.1 j) row) (j, q) c).2) := by
  refine zxin ym_Sh_layOn [.ref sh, .int (nI j), .long row, .retAddr 0, .retAddr 0, .retAddr 0, .retAddr 0, .retAddr 0] rfl rfl rfl rfl ?_
  refine z_aload_n (q := 1) rfl rfl rfl ?_
  refine z_iload_n (q := 2) rfl rfl rfl ?_
  refine z_cv1l (q := 5) rfl rfl rfl (Sh_k w) (p_Sh_rowOf w rfl hN hM hj) ?_
  refine z_lstore (q := 7) (L2 := [_, _, _, _, _, _, _, _]) rfl rfl rfl rfl ?_
  refine z_iload_n (q := 8) rfl rfl rfl ?_
  refine z_istore (q := 10) (L2 := [_, _, _, _, _, _, _, _]) rfl rfl rfl rfl ?_
  refine z_iconst (q := 11) (v := 0) rfl rfl rfl ?_
  refine z_istore (q := 13) (L2 := [_, _, _, _, _, _, _, _]) rfl rfl rfl rfl ?_
  exact l_Sh_layOn w hM hc hC (v0 := (j, q)) hcap c 0 (by omega) hj hN hf
end
section
theorem okl_fr {s l t : Int32} {n j : Nat} {J : Nat → Int64} (hn : n < 2 ^ 31) (hj : j < n) : ∀ (k : Nat) (a : Int32) (lt lc : Nat → Int32) (p : Int32), okl lt n → okl (frF s l t n j J k a lt lc p).2.1 n := by
  intro k
  induction k with
  | zero => intro a lt lc p h; exact h
  | succ k ih =>
    intro a lt lc p h
    unfold frF
    by_cases h1 : nmI (J j) a = a
    · rw [if_pos h1]; exact okl_rd hn hj h
    · rw [if_neg h1]; exact ih _ _ _ _ (okl_rd hn hj h)
def mgR (c a b : Nat) (q : sQ) : Int64 := fo (mgG (q.2.1 (mtN q.2.2.2.2.1 (2 * q.1) a b)) (q.2.1 a) (q.2.1 b)) (q.2.1 a) c
def paR (c a b e : Nat) (q : sQ) : Int64 := fo (paG (q.2.1 a) (q.2.1 b)) (q.2.1 e) c
/-- a deed by its kind in the store's own numbers: what comes of it, and the versions behind it -/
def caQ (s l t : Int32) (c k a b e : Nat) (q : sQ) : Int32 × sQ := match k with
  | 1 => (nmI (q.2.1 a) (nI b), rdQ s l t a (nI b) q)
  | 2 => (nI q.1, setQ s l t a (nI b) (nI e) q)
  | 3 => (nI q.1, setQ s l t a (if (frQ s l t c a (nI b) q).1 < (frQ s l t c a (nI e) (frQ s l t c a (nI b) q).2).1 then (frQ s l t c a (nI e) (frQ s l t c a (nI b) q).2).1 else (frQ s l t c a (nI b) q).1) (if (frQ s l t c a (nI e) (frQ s l t c a (nI b) q).2).1 < (frQ s l t c a (nI b) q).1 then (frQ s l t c a (nI e) (frQ s l t c a (nI b) q).2).1 else (frQ s l t c a (nI b) q).1) (frQ s l t c a (nI e) (frQ s l t c a (nI b) q).2).2)
  | 4 => frQ s l t c a (nI b) q
  | 5 => snQ s a q
  | 6 => (nI (fo (loG s l t (q.2.1 a) (mgR c a b q)) (a, q) c).1, (fo (loG s l t (q.2.1 a) (mgR c a b q)) (a, q) c).2)
  | _ => (nI (fo (loG s l t (q.2.1 e) (paR c a b e q)) (e, q) c).1, (fo (loG s l t (q.2.1 e) (paR c a b e q)) (e, q) c).2)
def loC (s l t : Int32) (c N v : Nat) (row : Int64) (q : sQ) : Prop := ∀ i, i < c → ¬ nmI (q.2.1 v) (nI i) = nmI row (nI i) → (fo (loG s l t (q.2.1 v) row) (v, q) i).2.1 < N
/-- when a deed may be done -/
def vaQ (s l t : Int32) (c N k a b e : Nat) (q : sQ) : Prop := match k with
  | 1 => a < q.1
  | 2 => a < q.1 ∧ q.1 < N
  | 3 => a < q.1 ∧ q.1 < N
  | 4 => a < q.1
  | 5 => a < q.1
  | 6 => a < q.1 ∧ b < q.1 ∧ okm q.2.2.2.2.1 q.1 ∧ loC s l t c N a (mgR c a b q) q
  | 7 => a < q.1 ∧ b < q.1 ∧ e < q.1 ∧ loC s l t c N e (paR c a b e q) q
  | _ => False
theorem q_Sh_carry1 {sc : Option (Nat × Nat × (Nat → Int32))} {sa : Nat → Nat} {d : Nat} {M : mz_M} {z : Nat × Nat} {sh N : Nat} {s l t : Int32} {q : sQ} (w : g_Sh M.2.2 sh N) (hN : q.1 ≤ N) (hM : N ≤ 200) (hf : okl q.2.2.1 q.1) {c : Nat} (hc : s = nI c) (hC : c ≤ 12) {a b e : Nat} (h : vaQ s l t c N 1 a b e q) : zx sc sa (d + 5) 65 [.ref sh, .int 1, .int (nI a), .int (nI b), .int (nI e)] (shQ M sh s l t q) z z (some (.int (caQ s l t c 1 a b e q).1)) (shQ M sh s l t (caQ s l t c 1 a b e q).2) := by
  refine zxin ym_Sh_carryOut [.ref sh, .int 1, .int (nI a), .int (nI b), .int (nI e)] rfl rfl rfl rfl ?_
  refine z_iload_n (q := 1) rfl rfl rfl ?_
  refine z_sw rfl ⟨fun h => absurd h (by decide), fun _ _ => ?_⟩
  show zw _ _ _ _ _ _ 44 _ _ _ _
  refine z_aload_n (q := 45) rfl rfl rfl ?_
  refine z_iload_n (q := 46) rfl rfl rfl ?_
  refine z_iload_n (q := 47) rfl rfl rfl ?_
  refine z_cv2i (q := 50) rfl rfl rfl (Sh_k w) (q_Sh_readCell w hN hM h hf) ?_
  refine z_ireti rfl rfl ?_
  exact ⟨rfl, rfl⟩
theorem q_Sh_carry2 {sc : Option (Nat × Nat × (Nat → Int32))} {sa : Nat → Nat} {d : Nat} {M : mz_M} {z : Nat × Nat} {sh N : Nat} {s l t : Int32} {q : sQ} (w : g_Sh M.2.2 sh N) (hN : q.1 ≤ N) (hM : N ≤ 200) (hf : okl q.2.2.1 q.1) {c : Nat} (hc : s = nI c) (hC : c ≤ 12) {a b e : Nat} (h : vaQ s l t c N 2 a b e q) : zx sc sa (d + 5) 65 [.ref sh, .int 2, .int (nI a), .int (nI b), .int (nI e)] (shQ M sh s l t q) z z (some (.int (caQ s l t c 2 a b e q).1)) (shQ M sh s l t (caQ s l t c 2 a b e q).2) := by
  refine zxin ym_Sh_carryOut [.ref sh, .int 2, .int (nI a), .int (nI b), .int (nI e)] rfl rfl rfl rfl ?_
  refine z_iload_n (q := 1) rfl rfl rfl ?_
  refine z_sw rfl ⟨fun h => absurd h (by decide), fun _ _ => ?_⟩
  show zw _ _ _ _ _ _ 51 _ _ _ _
  refine z_aload_n (q := 52) rfl rfl rfl ?_
  refine z_iload_n (q := 53) rfl rfl rfl ?_
  refine z_iload_n (q := 54) rfl rfl rfl ?_
  refine z_iload (q := 56) rfl rfl rfl ?_
  refine z_cv3i (q := 59) rfl rfl rfl (Sh_k w) (q_Sh_setCell w h.2 hM h.1 hf) ?_
  refine z_ireti rfl rfl ?_
  exact ⟨rfl, rfl⟩
theorem q_Sh_carry3 {sc : Option (Nat × Nat × (Nat → Int32))} {sa : Nat → Nat} {d : Nat} {M : mz_M} {z : Nat × Nat} {sh N : Nat} {s l t : Int32} {q : sQ} (w : g_Sh M.2.2 sh N) (hN : q.1 ≤ N) (hM : N ≤ 200) (hf : okl q.2.2.1 q.1) {c : Nat} (hc : s = nI c) (hC : c ≤ 12) {a b e : Nat} (h : vaQ s l t c N 3 a b e q) : zx sc sa (d + 5) 65 [.ref sh, .int 3, .int (nI a), .int (nI b), .int (nI e)] (shQ M sh s l t q) z z (some (.int (caQ s l t c 3 a b e q).1)) (shQ M sh s l t (caQ s l t c 3 a b e q).2) := by
  refine zxin ym_Sh_carryOut [.ref sh, .int 3, .int (nI a), .int (nI b), .int (nI e)] rfl rfl rfl rfl ?_
  refine z_iload_n (q := 1) rfl rfl rfl ?_
  refine z_sw rfl ⟨fun h => absurd h (by decide), fun _ _ => ?_⟩
  show zw _ _ _ _ _ _ 60 _ _ _ _
  refine z_aload_n (q := 61) rfl rfl rfl ?_
  refine z_iload_n (q := 62) rfl rfl rfl ?_
  refine z_aload_n (q := 63) rfl rfl rfl ?_
  refine z_iload_n (q := 64) rfl rfl rfl ?_
  refine z_iload_n (q := 65) rfl rfl rfl ?_
  refine z_cv2i (q := 68) rfl rfl rfl (Sh_k w) (q_Sh_findRoot w hN hM h.1 hf hc hC) ?_
  refine z_aload_n (q := 69) rfl rfl rfl ?_
  refine z_iload_n (q := 70) rfl rfl rfl ?_
  refine z_iload (q := 72) rfl rfl rfl ?_
  refine z_cv2i (q := 75) rfl rfl rfl (Sh_k w) (q_Sh_findRoot (q := (frQ s l t c a (nI b) q).2) w hN hM h.1 (okl_fr (by omega) h.1 _ _ _ _ _ hf) hc hC) ?_
  refine z_cv3i (q := 78) rfl rfl rfl (Sh_k w) (q_Sh_joinRoots (q := (frQ s l t c a (nI e) (frQ s l t c a (nI b) q).2).2) w h.2 hM h.1 (okl_fr (by omega) h.1 _ _ _ _ _ (okl_fr (by omega) h.1 _ _ _ _ _ hf))) ?_
  refine z_ireti rfl rfl ?_
  exact ⟨rfl, rfl⟩
theorem q_Sh_carry4 {sc : Option (Nat × Nat × (Nat → Int32))} {sa : Nat → Nat} {d : Nat} {M : mz_M} {z : Nat × Nat} {sh N : Nat} {s l t : Int32} {q : sQ} (w : g_Sh M.2.2 sh N) (hN : q.1 ≤ N) (hM : N ≤ 200) (hf : okl q.2.2.1 q.1) {c : Nat} (hc : s = nI c) (hC : c ≤ 12) {a b e : Nat} (h : vaQ s l t c N 4 a b e q) : zx sc sa (d + 5) 65 [.ref sh, .int 4, .int (nI a), .int (nI b), .int (nI e)] (shQ M sh s l t q) z z (some (.int (caQ s l t c 4 a b e q).1)) (shQ M sh s l t (caQ s l t c 4 a b e q).2) := by
  refine zxin ym_Sh_carryOut [.ref sh, .int 4, .int (nI a), .int (nI b), .int (nI e)] rfl rfl rfl rfl ?_
  refine z_iload_n (q := 1) rfl rfl rfl ?_
  refine z_sw rfl ⟨fun h => absurd h (by decide), fun _ _ => ?_⟩
  show zw _ _ _ _ _ _ 79 _ _ _ _
  refine z_aload_n (q := 80) rfl rfl rfl ?_
  refine z_iload_n (q := 81) rfl rfl rfl ?_
  refine z_iload_n (q := 82) rfl rfl rfl ?_
  refine z_cv2i (q := 85) rfl rfl rfl (Sh_k w) (q_Sh_findRoot w hN hM h hf hc hC) ?_
  refine z_ireti rfl rfl ?_
  exact ⟨rfl, rfl⟩
theorem q_Sh_carry5 {sc : Option (Nat × Nat × (Nat → Int32))} {sa : Nat → Nat} {d : Nat} {M : mz_M} {z : Nat × Nat} {sh N : Nat} {s l t : Int32} {q : sQ} (w : g_Sh M.2.2 sh N) (hN : q.1 ≤ N) (hM : N ≤ 200) (hf : okl q.2.2.1 q.1) {c : Nat} (hc : s = nI c) (hC : c ≤ 12) {a b e : Nat} (h : vaQ s l t c N 5 a b e q) : zx sc sa (d + 5) 65 [.ref sh, .int 5, .int (nI a), .int (nI b), .int (nI e)] (shQ M sh s l t q) z z (some (.int (caQ s l t c 5 a b e q).1)) (shQ M sh s l t (caQ s l t c 5 a b e q).2) := by
  refine zxin ym_Sh_carryOut [.ref sh, .int 5, .int (nI a), .int (nI b), .int (nI e)] rfl rfl rfl rfl ?_
  refine z_iload_n (q := 1) rfl rfl rfl ?_
  refine z_sw rfl ⟨fun h => absurd h (by decide), fun _ _ => ?_⟩
  show zw _ _ _ _ _ _ 86 _ _ _ _
  refine z_aload_n (q := 87) rfl rfl rfl ?_
  refine z_iload_n (q := 88) rfl rfl rfl ?_
  refine z_cv1i (q := 91) rfl rfl rfl (Sh_k w) (q_Sh_snapRow w hN hM h hf) ?_
  refine z_ireti rfl rfl ?_
  exact ⟨rfl, rfl⟩
theorem q_Sh_carry6 {sc : Option (Nat × Nat × (Nat → Int32))} {sa : Nat → Nat} {d : Nat} {M : mz_M} {z : Nat × Nat} {sh N : Nat} {s l t : Int32} {q : sQ} (w : g_Sh M.2.2 sh N) (hN : q.1 ≤ N) (hM : N ≤ 200) (hf : okl q.2.2.1 q.1) {c : Nat} (hc : s = nI c) (hC : c ≤ 12) {a b e : Nat} (h : vaQ s l t c N 6 a b e q) : zx sc sa (d + 5) 65 [.ref sh, .int 6, .int (nI a), .int (nI b), .int (nI e)] (shQ M sh s l t q) z z (some (.int (caQ s l t c 6 a b e q).1)) (shQ M sh s l t (caQ s l t c 6 a b e q).2) := by
  refine zxin ym_Sh_carryOut [.ref sh, .int 6, .int (nI a), .int (nI b), .int (nI e)] rfl rfl rfl rfl ?_
  refine z_iload_n (q := 1) rfl rfl rfl ?_
  refine z_sw rfl ⟨fun h => absurd h (by decide), fun _ _ => ?_⟩
  show zw _ _ _ _ _ _ 92 _ _ _ _
  refine z_aload_n (q := 93) rfl rfl rfl ?_
  refine z_iload_n (q := 94) rfl rfl rfl ?_
  refine z_aload_n (q := 95) rfl rfl rfl ?_
  refine z_iload_n (q := 96) rfl rfl rfl ?_
  refine z_iload_n (q := 97) rfl rfl rfl ?_
  refine z_cv2l (q := 100) rfl rfl rfl (Sh_k w) (p_Sh_mergedRow w rfl hN hM h.1 h.2.1 h.2.2.1 hc hC) ?_
  refine z_cv2i (q := 103) rfl rfl rfl (Sh_k w) (q_Sh_layOn w hN hM h.1 hf hc hC h.2.2.2) ?_
  refine z_ireti rfl rfl ?_
  exact ⟨rfl, rfl⟩
theorem q_Sh_carry7 {sc : Option (Nat × Nat × (Nat → Int32))} {sa : Nat → Nat} {d : Nat} {M : mz_M} {z : Nat × Nat} {sh N : Nat} {s l t : Int32} {q : sQ} (w : g_Sh M.2.2 sh N) (hN : q.1 ≤ N) (hM : N ≤ 200) (hf : okl q.2.2.1 q.1) {c : Nat} (hc : s = nI c) (hC : c ≤ 12) {a b e : Nat} (h : vaQ s l t c N 7 a b e q) : zx sc sa (d + 5) 65 [.ref sh, .int 7, .int (nI a), .int (nI b), .int (nI e)] (shQ M sh s l t q) z z (some (.int (caQ s l t c 7 a b e q).1)) (shQ M sh s l t (caQ s l t c 7 a b e q).2) := by
  refine zxin ym_Sh_carryOut [.ref sh, .int 7, .int (nI a), .int (nI b), .int (nI e)] rfl rfl rfl rfl ?_
  refine z_iload_n (q := 1) rfl rfl rfl ?_
  refine z_sw rfl ⟨fun h => absurd h (by decide), fun _ _ => ?_⟩
  show zw _ _ _ _ _ _ 104 _ _ _ _
  refine z_aload_n (q := 105) rfl rfl rfl ?_
  refine z_iload (q := 107) rfl rfl rfl ?_
  refine z_aload_n (q := 108) rfl rfl rfl ?_
  refine z_iload_n (q := 109) rfl rfl rfl ?_
  refine z_iload_n (q := 110) rfl rfl rfl ?_
  refine z_iload (q := 112) rfl rfl rfl ?_
  refine z_cv3l (q := 115) rfl rfl rfl (Sh_k w) (p_Sh_patchedRow w rfl hN hM h.1 h.2.1 h.2.2.1 hc hC) ?_
  refine z_cv2i (q := 118) rfl rfl rfl (Sh_k w) (q_Sh_layOn w hN hM h.2.2.1 hf hc hC h.2.2.2) ?_
  refine z_ireti rfl rfl ?_
  exact ⟨rfl, rfl⟩
theorem q_Sh_carryOut {M : mz_M} {sc : Option (Nat × Nat × (Nat → Int32))} {sa : Nat → Nat} {d : Nat} {z : Nat × Nat} {sh N : Nat} {s l t : Int32} {q : sQ} (w : g_Sh M.2.2 sh N) (hN : q.1 ≤ N) (hM : N ≤ 200) (hf : okl q.2.2.1 q.1) {c : Nat} (hc : s = nI c) (hC : c ≤ 12) {k a b e : Nat} (h : vaQ s l t c N k a b e q) : zx sc sa (d + 5) 65 [.ref sh, .int (nI k), .int (nI a), .int (nI b), .int (nI e)] (shQ M sh s l t q) z z (some (.int (caQ s l t c k a b e q).1)) (shQ M sh s l t (caQ s l t c k a b e q).2) := by
  match k, h with
  | 1, h => exact q_Sh_carry1 w hN hM hf hc hC h
  | 2, h => exact q_Sh_carry2 w hN hM hf hc hC h
  | 3, h => exact q_Sh_carry3 w hN hM hf hc hC h
  | 4, h => exact q_Sh_carry4 w hN hM hf hc hC h
  | 5, h => exact q_Sh_carry5 w hN hM hf hc hC h
  | 6, h => exact q_Sh_carry6 w hN hM hf hc hC h
  | 7, h => exact q_Sh_carry7 w hN hM hf hc hC h
  | 0, h => exact h.elim
  | k + 8, h => exact h.elim
end
section
-- a story's cells as one state
def stH (M : mz_M) (st : Nat) (pr ln td de : Int32) : Nat → Int32 := fun k => match k with
  | 7 => pr
  | 8 => ln
  | 9 => td
  | 10 => de
  | k => M.1 st k
def stB (M : mz_M) (st : Nat) (pr ln td de : Int32) (pa ks os ts hs cs : Nat → Int32) : mz_M := (fun a => if a = st then stH M st pr ln td de else if a = st + 7 then pa else if a = st + 8 then ks else if a = st + 9 then os else if a = st + 10 then ts else if a = st + 11 then hs else if a = st + 12 then cs else M.1 a, M.2)
def stQ (M : mz_M) (st : Nat) (pr ln td de : Int32) (pa ks os ts hs cs : Nat → Int32) (s l t : Int32) (q : sQ) : mz_M := shQ (stB M st pr ln td de pa ks os ts hs cs) (st + 1) s l t q
theorem stQ_g7 {M : mz_M} {st : Nat} {pr ln td de : Int32} {pa ks os ts hs cs : Nat → Int32} {s l t : Int32} {q : sQ} : (stQ M st pr ln td de pa ks os ts hs cs s l t q).1 st 7 = pr := by simp [stQ, shQ, shP, stB, stH, Nat.add_assoc]
theorem stQ_g8 {M : mz_M} {st : Nat} {pr ln td de : Int32} {pa ks os ts hs cs : Nat → Int32} {s l t : Int32} {q : sQ} : (stQ M st pr ln td de pa ks os ts hs cs s l t q).1 st 8 = ln := by simp [stQ, shQ, shP, stB, stH, Nat.add_assoc]
theorem stQ_g9 {M : mz_M} {st : Nat} {pr ln td de : Int32} {pa ks os ts hs cs : Nat → Int32} {s l t : Int32} {q : sQ} : (stQ M st pr ln td de pa ks os ts hs cs s l t q).1 st 9 = td := by simp [stQ, shQ, shP, stB, stH, Nat.add_assoc]
theorem stQ_g10 {M : mz_M} {st : Nat} {pr ln td de : Int32} {pa ks os ts hs cs : Nat → Int32} {s l t : Int32} {q : sQ} : (stQ M st pr ln td de pa ks os ts hs cs s l t q).1 st 10 = de := by simp [stQ, shQ, shP, stB, stH, Nat.add_assoc]
theorem stQ_a1 {M : mz_M} {st : Nat} {pr ln td de : Int32} {pa ks os ts hs cs : Nat → Int32} {s l t : Int32} {q : sQ} : (stQ M st pr ln td de pa ks os ts hs cs s l t q).1 (st + 7) = pa := by simp [stQ, shQ, shP, stB]
theorem stQ_a2 {M : mz_M} {st : Nat} {pr ln td de : Int32} {pa ks os ts hs cs : Nat → Int32} {s l t : Int32} {q : sQ} : (stQ M st pr ln td de pa ks os ts hs cs s l t q).1 (st + 8) = ks := by simp [stQ, shQ, shP, stB]
theorem stQ_a3 {M : mz_M} {st : Nat} {pr ln td de : Int32} {pa ks os ts hs cs : Nat → Int32} {s l t : Int32} {q : sQ} : (stQ M st pr ln td de pa ks os ts hs cs s l t q).1 (st + 9) = os := by simp [stQ, shQ, shP, stB]
theorem stQ_a4 {M : mz_M} {st : Nat} {pr ln td de : Int32} {pa ks os ts hs cs : Nat → Int32} {s l t : Int32} {q : sQ} : (stQ M st pr ln td de pa ks os ts hs cs s l t q).1 (st + 10) = ts := by simp [stQ, shQ, shP, stB]
theorem stQ_a5 {M : mz_M} {st : Nat} {pr ln td de : Int32} {pa ks os ts hs cs : Nat → Int32} {s l t : Int32} {q : sQ} : (stQ M st pr ln td de pa ks os ts hs cs s l t q).1 (st + 11) = hs := by simp [stQ, shQ, shP, stB]
theorem stQ_a6 {M : mz_M} {st : Nat} {pr ln td de : Int32} {pa ks os ts hs cs : Nat → Int32} {s l t : Int32} {q : sQ} : (stQ M st pr ln td de pa ks os ts hs cs s l t q).1 (st + 12) = cs := by simp [stQ, shQ, shP, stB]
theorem stS_g5 {M : mz_M} {st : Nat} {pr ln td de : Int32} {pa ks os ts hs cs : Nat → Int32} {s l t : Int32} {q : sQ} : (stQ M st pr ln td de pa ks os ts hs cs s l t q).1 (st + 1) 5 = s := shP_g5
theorem stS_g6 {M : mz_M} {st : Nat} {pr ln td de : Int32} {pa ks os ts hs cs : Nat → Int32} {s l t : Int32} {q : sQ} : (stQ M st pr ln td de pa ks os ts hs cs s l t q).1 (st + 1) 6 = l := shP_g6
theorem stS_g7 {M : mz_M} {st : Nat} {pr ln td de : Int32} {pa ks os ts hs cs : Nat → Int32} {s l t : Int32} {q : sQ} : (stQ M st pr ln td de pa ks os ts hs cs s l t q).1 (st + 1) 7 = t := shP_g7
theorem stS_g8 {M : mz_M} {st : Nat} {pr ln td de : Int32} {pa ks os ts hs cs : Nat → Int32} {s l t : Int32} {q : sQ} : (stQ M st pr ln td de pa ks os ts hs cs s l t q).1 (st + 1) 8 = nI q.1 := shP_g8
theorem stS_g9 {M : mz_M} {st : Nat} {pr ln td de : Int32} {pa ks os ts hs cs : Nat → Int32} {s l t : Int32} {q : sQ} : (stQ M st pr ln td de pa ks os ts hs cs s l t q).1 (st + 1) 9 = q.2.2.2.2.2.2 := shP_g9
theorem stQ_u7 {M : mz_M} {st : Nat} {pr ln td de : Int32} {pa ks os ts hs cs : Nat → Int32} {s l t : Int32} {q : sQ} {x : Int32} : mz_uI (stQ M st pr ln td de pa ks os ts hs cs s l t q) st 7 x = stQ M st x ln td de pa ks os ts hs cs s l t q := by
  unfold mz_uI stQ shQ shP
  refine Prod.ext ?_ rfl
  funext a
  by_cases h : a = st
  · subst h
    funext k
    rcases k with _ | _ | _ | _ | _ | _ | _ | _ | _ | _ | _ | k <;> simp [va_up, stB, stH, Nat.add_assoc]
  · by_cases h1 : a = st + 1
    · subst h1
      funext k
      rcases k with _ | _ | _ | _ | _ | _ | _ | _ | _ | _ | k <;> simp [va_up, shF, stB]
    · simp [va_up, h, h1, stB]
theorem stQ_u8 {M : mz_M} {st : Nat} {pr ln td de : Int32} {pa ks os ts hs cs : Nat → Int32} {s l t : Int32} {q : sQ} {x : Int32} : mz_uI (stQ M st pr ln td de pa ks os ts hs cs s l t q) st 8 x = stQ M st pr x td de pa ks os ts hs cs s l t q := by
  unfold mz_uI stQ shQ shP
  refine Prod.ext ?_ rfl
  funext a
  by_cases h : a = st
  · subst h
    funext k
    rcases k with _ | _ | _ | _ | _ | _ | _ | _ | _ | _ | _ | k <;> simp [va_up, stB, stH, Nat.add_assoc]
  · by_cases h1 : a = st + 1
    · subst h1
      funext k
      rcases k with _ | _ | _ | _ | _ | _ | _ | _ | _ | _ | k <;> simp [va_up, shF, stB]
    · simp [va_up, h, h1, stB]
theorem stQ_u9 {M : mz_M} {st : Nat} {pr ln td de : Int32} {pa ks os ts hs cs : Nat → Int32} {s l t : Int32} {q : sQ} {x : Int32} : mz_uI (stQ M st pr ln td de pa ks os ts hs cs s l t q) st 9 x = stQ M st pr ln x de pa ks os ts hs cs s l t q := by
  unfold mz_uI stQ shQ shP
  refine Prod.ext ?_ rfl
  funext a
  by_cases h : a = st
  · subst h
    funext k
    rcases k with _ | _ | _ | _ | _ | _ | _ | _ | _ | _ | _ | k <;> simp [va_up, stB, stH, Nat.add_assoc]
  · by_cases h1 : a = st + 1
    · subst h1
      funext k
      rcases k with _ | _ | _ | _ | _ | _ | _ | _ | _ | _ | k <;> simp [va_up, shF, stB]
    · simp [va_up, h, h1, stB]
theorem stQ_u10 {M : mz_M} {st : Nat} {pr ln td de : Int32} {pa ks os ts hs cs : Nat → Int32} {s l t : Int32} {q : sQ} {x : Int32} : mz_uI (stQ M st pr ln td de pa ks os ts hs cs s l t q) st 10 x = stQ M st pr ln td x pa ks os ts hs cs s l t q := by
  unfold mz_uI stQ shQ shP
  refine Prod.ext ?_ rfl
  funext a
  by_cases h : a = st
  · subst h
    funext k
    rcases k with _ | _ | _ | _ | _ | _ | _ | _ | _ | _ | _ | k <;> simp [va_up, stB, stH, Nat.add_assoc]
  · by_cases h1 : a = st + 1
    · subst h1
      funext k
      rcases k with _ | _ | _ | _ | _ | _ | _ | _ | _ | _ | k <;> simp [va_up, shF, stB]
    · simp [va_up, h, h1, stB]
theorem stQ_w1 {M : mz_M} {st : Nat} {pr ln td de : Int32} {pa ks os ts hs cs : Nat → Int32} {s l t : Int32} {q : sQ} {k : Nat} {x : Int32} : mz_uI (stQ M st pr ln td de pa ks os ts hs cs s l t q) (st + 7) k x = stQ M st pr ln td de (va_up pa k x) ks os ts hs cs s l t q := by
  unfold mz_uI stQ shQ shP
  refine Prod.ext ?_ rfl
  funext a
  by_cases h : a = st + 7
  · subst h
    simp [va_up, stB]
  · by_cases h1 : a = st + 1
    · subst h1
      funext j
      rcases j with _ | _ | _ | _ | _ | _ | _ | _ | _ | _ | j <;> simp [va_up, shF, stB]
    · simp [va_up, h, h1, stB]
theorem stQ_w2 {M : mz_M} {st : Nat} {pr ln td de : Int32} {pa ks os ts hs cs : Nat → Int32} {s l t : Int32} {q : sQ} {k : Nat} {x : Int32} : mz_uI (stQ M st pr ln td de pa ks os ts hs cs s l t q) (st + 8) k x = stQ M st pr ln td de pa (va_up ks k x) os ts hs cs s l t q := by
  unfold mz_uI stQ shQ shP
  refine Prod.ext ?_ rfl
  funext a
  by_cases h : a = st + 8
  · subst h
    simp [va_up, stB]
  · by_cases h1 : a = st + 1
    · subst h1
      funext j
      rcases j with _ | _ | _ | _ | _ | _ | _ | _ | _ | _ | j <;> simp [va_up, shF, stB]
    · simp [va_up, h, h1, stB]
theorem stQ_w3 {M : mz_M} {st : Nat} {pr ln td de : Int32} {pa ks os ts hs cs : Nat → Int32} {s l t : Int32} {q : sQ} {k : Nat} {x : Int32} : mz_uI (stQ M st pr ln td de pa ks os ts hs cs s l t q) (st + 9) k x = stQ M st pr ln td de pa ks (va_up os k x) ts hs cs s l t q := by
  unfold mz_uI stQ shQ shP
  refine Prod.ext ?_ rfl
  funext a
  by_cases h : a = st + 9
  · subst h
    simp [va_up, stB]
  · by_cases h1 : a = st + 1
    · subst h1
      funext j
      rcases j with _ | _ | _ | _ | _ | _ | _ | _ | _ | _ | j <;> simp [va_up, shF, stB]
    · simp [va_up, h, h1, stB]
theorem stQ_w4 {M : mz_M} {st : Nat} {pr ln td de : Int32} {pa ks os ts hs cs : Nat → Int32} {s l t : Int32} {q : sQ} {k : Nat} {x : Int32} : mz_uI (stQ M st pr ln td de pa ks os ts hs cs s l t q) (st + 10) k x = stQ M st pr ln td de pa ks os (va_up ts k x) hs cs s l t q := by
  unfold mz_uI stQ shQ shP
  refine Prod.ext ?_ rfl
  funext a
  by_cases h : a = st + 10
  · subst h
    simp [va_up, stB]
  · by_cases h1 : a = st + 1
    · subst h1
      funext j
      rcases j with _ | _ | _ | _ | _ | _ | _ | _ | _ | _ | j <;> simp [va_up, shF, stB]
    · simp [va_up, h, h1, stB]
theorem stQ_w5 {M : mz_M} {st : Nat} {pr ln td de : Int32} {pa ks os ts hs cs : Nat → Int32} {s l t : Int32} {q : sQ} {k : Nat} {x : Int32} : mz_uI (stQ M st pr ln td de pa ks os ts hs cs s l t q) (st + 11) k x = stQ M st pr ln td de pa ks os ts (va_up hs k x) cs s l t q := by
  unfold mz_uI stQ shQ shP
  refine Prod.ext ?_ rfl
  funext a
  by_cases h : a = st + 11
  · subst h
    simp [va_up, stB]
  · by_cases h1 : a = st + 1
    · subst h1
      funext j
      rcases j with _ | _ | _ | _ | _ | _ | _ | _ | _ | _ | j <;> simp [va_up, shF, stB]
    · simp [va_up, h, h1, stB]
theorem stQ_w6 {M : mz_M} {st : Nat} {pr ln td de : Int32} {pa ks os ts hs cs : Nat → Int32} {s l t : Int32} {q : sQ} {k : Nat} {x : Int32} : mz_uI (stQ M st pr ln td de pa ks os ts hs cs s l t q) (st + 12) k x = stQ M st pr ln td de pa ks os ts hs (va_up cs k x) s l t q := by
  unfold mz_uI stQ shQ shP
  refine Prod.ext ?_ rfl
  funext a
  by_cases h : a = st + 12
  · subst h
    simp [va_up, stB]
  · by_cases h1 : a = st + 1
    · subst h1
      funext j
      rcases j with _ | _ | _ | _ | _ | _ | _ | _ | _ | _ | j <;> simp [va_up, shF, stB]
    · simp [va_up, h, h1, stB]
theorem s_St_acts {sc : Option (Nat × Nat × (Nat → Int32))} {sa : Nat → Nat} {d : Nat} {M : mz_M} {z : Nat × Nat} {st : Nat} (w : g_St M.2.2 st) : zx sc sa (d + 1) 69 [.ref st] M z z (some (.int (M.1 st 10 - M.1 st 9))) M := by
  refine zxin ym_St_acts [.ref st] rfl rfl rfl rfl ?_
  refine z_aload_n (q := 1) rfl rfl rfl ?_
  refine z_getI (q := 4) rfl rfl rfl (St_k w) ?_
  refine z_aload_n (q := 5) rfl rfl rfl ?_
  refine z_getI (q := 8) rfl rfl rfl (St_k w) ?_
  refine z_isub (q := 9) rfl rfl ?_
  refine z_ireti rfl rfl ?_
  exact ⟨rfl, rfl⟩
theorem s_St_hasDeed {sc : Option (Nat × Nat × (Nat → Int32))} {sa : Nat → Nat} {d : Nat} {M : mz_M} {z : Nat × Nat} {st : Nat} (w : g_St M.2.2 st) {v : Int32} : zx sc sa (d + 1) 70 [.ref st, .int v] M z z (some (.int (bz (0 ≤ v ∧ v < M.1 st 10)))) M := by
  refine zxin ym_St_hasDeed [.ref st, .int v] rfl rfl rfl rfl ?_
  refine z_iload_n (q := 1) rfl rfl rfl ?_
  refine z_if_lt (q := 4) rfl rfl (fun h1 => ?_) (fun h1 => ?_)
  · refine z_iconst (q := 17) (v := 0) rfl rfl rfl ?_
    refine z_iretz rfl rfl (rfl) ?_
    refine ⟨?_, rfl⟩
    unfold bz
    simp_all [Int32.not_lt, Int32.not_le, Int32.le_iff_toInt_le, Int32.lt_iff_toInt_lt]
    try omega
  · refine z_iload_n (q := 5) rfl rfl rfl ?_
    refine z_aload_n (q := 6) rfl rfl rfl ?_
    refine z_getI (q := 9) rfl rfl rfl (St_k w) ?_
    refine z_ic_ge (q := 12) rfl rfl (fun h9 => ?_) (fun h9 => ?_)
    · refine z_iconst (q := 17) (v := 0) rfl rfl rfl ?_
      refine z_iretz rfl rfl (rfl) ?_
      refine ⟨?_, rfl⟩
      unfold bz
      simp_all [Int32.not_lt, Int32.not_le, Int32.le_iff_toInt_le, Int32.lt_iff_toInt_lt]
      try omega
    · refine z_iconst (q := 13) (v := 1) rfl rfl rfl ?_
      refine z_goto rfl ?_
      refine z_iretz rfl rfl (rfl) ?_
      refine ⟨?_, rfl⟩
      unfold bz
      simp_all [Int32.not_lt, Int32.not_le, Int32.le_iff_toInt_le, Int32.lt_iff_toInt_lt]
      try omega
theorem s_St_hasDeed1 {sc : Option (Nat × Nat × (Nat → Int32))} {sa : Nat → Nat} {d : Nat} {M : mz_M} {z : Nat × Nat} {st : Nat} (w : g_St M.2.2 st) {D : Nat} (hD : M.1 st 10 = nI D) (h60 : D ≤ 60) {j : Nat} (hj : j < D) : zx sc sa (d + 1) 70 [.ref st, .int (nI j)] M z z (some (.int 1)) M := by
  have h := s_St_hasDeed (sc := sc) (sa := sa) (d := d) (z := z) w (v := nI j)
  rw [hD, bz_t ⟨nI_pos' (by omega), nI_lt hj (by omega)⟩] at h
  exact h
theorem s_St_makesNone {sc : Option (Nat × Nat × (Nat → Int32))} {sa : Nat → Nat} {d : Nat} {M : mz_M} {z : Nat × Nat} {st : Nat} (w : g_St M.2.2 st) {D : Nat} (hD : M.1 st 10 = nI D) (h60 : D ≤ 60) {j : Nat} (hj : j < D) : zx sc sa (d + 2) 71 [.ref st, .int (nI j)] M z z (some (.int (bz (M.1 (st + 8) j = 1 ∨ M.1 (st + 8) j = 4 ∨ M.1 (st + 8) j = 5)))) M := by
  refine zxin ym_St_makesNone [.ref st, .int (nI j)] rfl rfl rfl rfl ?_
  refine z_aload_n (q := 1) rfl rfl rfl ?_
  refine z_iload_n (q := 2) rfl rfl rfl ?_
  refine z_cv1i (q := 5) rfl rfl rfl (St_k w) (s_St_hasDeed1 w hD h60 hj) ?_
  refine z_if_ne (q := 8) rfl rfl (fun h5 => ?_) (fun h5 => ?_)
  · refine z_aload_n (q := 11) rfl rfl rfl ?_
    refine z_getR (q := 14) rfl rfl rfl (St_k w) (St_r2 w) ?_
    refine z_iload_n (q := 15) rfl rfl rfl ?_
    refine z_iald (q := 16) rfl rfl (St_a2 w) (by first | assumption | exact vp_in_nI (by omega) (by omega)) ?_
    refine z_iconst (q := 17) (v := 1) rfl rfl rfl ?_
    refine z_ic_eq (q := 20) rfl rfl (fun h17 => ?_) (fun h17 => ?_)
    · refine z_iconst (q := 41) (v := 1) rfl rfl rfl ?_
      refine z_goto rfl ?_
      refine z_iretz rfl rfl (rfl) ?_
      refine ⟨?_, rfl⟩
      unfold bz
      simp_all [nI_clamp (show j < 2 ^ 31 by omega)]
    · refine z_aload_n (q := 21) rfl rfl rfl ?_
      refine z_getR (q := 24) rfl rfl rfl (St_k w) (St_r2 w) ?_
      refine z_iload_n (q := 25) rfl rfl rfl ?_
      refine z_iald (q := 26) rfl rfl (St_a2 w) (by first | assumption | exact vp_in_nI (by omega) (by omega)) ?_
      refine z_iconst (q := 27) (v := 4) rfl rfl rfl ?_
      refine z_ic_eq (q := 30) rfl rfl (fun h27 => ?_) (fun h27 => ?_)
      · refine z_iconst (q := 41) (v := 1) rfl rfl rfl ?_
        refine z_goto rfl ?_
        refine z_iretz rfl rfl (rfl) ?_
        refine ⟨?_, rfl⟩
        unfold bz
        simp_all [nI_clamp (show j < 2 ^ 31 by omega)]
      · refine z_aload_n (q := 31) rfl rfl rfl ?_
        refine z_getR (q := 34) rfl rfl rfl (St_k w) (St_r2 w) ?_
        refine z_iload_n (q := 35) rfl rfl rfl ?_
        refine z_iald (q := 36) rfl rfl (St_a2 w) (by first | assumption | exact vp_in_nI (by omega) (by omega)) ?_
        refine z_iconst (q := 37) (v := 5) rfl rfl rfl ?_
        refine z_ic_ne (q := 40) rfl rfl (fun h37 => ?_) (fun h37 => ?_)
        · refine z_iconst (q := 45) (v := 0) rfl rfl rfl ?_
          refine z_iretz rfl rfl (rfl) ?_
          refine ⟨?_, rfl⟩
          unfold bz
          simp_all [nI_clamp (show j < 2 ^ 31 by omega)]
        · refine z_iconst (q := 41) (v := 1) rfl rfl rfl ?_
          refine z_goto rfl ?_
          refine z_iretz rfl rfl (rfl) ?_
          refine ⟨?_, rfl⟩
          unfold bz
          simp_all [nI_clamp (show j < 2 ^ 31 by omega)]
  · exact absurd h5 (by decide)
theorem s_St_partnersOf {sc : Option (Nat × Nat × (Nat → Int32))} {sa : Nat → Nat} {d : Nat} {M : mz_M} {z : Nat × Nat} {st : Nat} (w : g_St M.2.2 st) {j : Nat} (hj : j < 12) : zx sc sa (d + 1) 72 [.ref st, .int (nI j)] M z z (some (.int (M.1 (st + 7) j))) M := by
  refine zxin ym_St_partnersOf [.ref st, .int (nI j)] rfl rfl rfl rfl ?_
  refine z_iload_n (q := 1) rfl rfl rfl ?_
  refine z_if_lt (q := 4) rfl rfl (fun h1 => ?_) (fun h1 => ?_)
  · exact absurd h1 (nI_pos (by omega))
  · refine z_iload_n (q := 5) rfl rfl rfl ?_
    refine z_aload_n (q := 6) rfl rfl rfl ?_
    refine z_getR (q := 9) rfl rfl rfl (St_k w) (St_r1 w) ?_
    refine z_alen (q := 10) rfl rfl (St_a1 w) rfl rfl ?_
    refine z_ic_ge (q := 13) rfl rfl (fun h10 => ?_) (fun h10 => ?_)
    · exact absurd h10 (nI_ge hj (by omega))
    · refine z_aload_n (q := 14) rfl rfl rfl ?_
      refine z_getR (q := 17) rfl rfl rfl (St_k w) (St_r1 w) ?_
      refine z_iload_n (q := 18) rfl rfl rfl ?_
      refine z_iald (q := 19) rfl rfl (St_a1 w) (by first | assumption | exact vp_in_nI (by omega) (by omega)) ?_
      refine z_goto rfl ?_
      refine z_ireti rfl rfl ?_
      rw [nI_clamp (by omega)]
      exact ⟨rfl, rfl⟩
theorem s_St_arePaired {sc : Option (Nat × Nat × (Nat → Int32))} {sa : Nat → Nat} {d : Nat} {M : mz_M} {z : Nat × Nat} {st : Nat} (w : g_St M.2.2 st) {j : Nat} (hj : j < 12) {x : Int32} : zx sc sa (d + 2) 73 [.ref st, .int (nI j), .int x] M z z (some (.int (bz (¬ ((M.1 (st + 7) j).toUInt32 >>> (x.toUInt32 &&& Int32.toUInt32 31)).toInt32 &&& 1 = 0)))) M := by
  refine zxin ym_St_arePaired [.ref st, .int (nI j), .int x] rfl rfl rfl rfl ?_
  refine z_aload_n (q := 1) rfl rfl rfl ?_
  refine z_iload_n (q := 2) rfl rfl rfl ?_
  refine z_cv1i (q := 5) rfl rfl rfl (St_k w) (s_St_partnersOf w hj) ?_
  refine z_iload_n (q := 6) rfl rfl rfl ?_
  refine z_iushr (q := 7) rfl rfl ?_
  refine z_iconst (q := 8) (v := 1) rfl rfl rfl ?_
  refine z_iand (q := 9) rfl rfl ?_
  refine z_if_eq (q := 12) rfl rfl (fun h9 => ?_) (fun h9 => ?_)
  · refine z_iconst (q := 17) (v := 0) rfl rfl rfl ?_
    refine z_iretz rfl rfl (rfl) ?_
    refine ⟨?_, rfl⟩
    unfold bz
    simp_all
  · refine z_iconst (q := 13) (v := 1) rfl rfl rfl ?_
    refine z_goto rfl ?_
    refine z_iretz rfl rfl (rfl) ?_
    refine ⟨?_, rfl⟩
    unfold bz
    simp_all
def ownR (c : Nat) : Int64 := fo (fun c acc => wnI acc (nI c) (nI c)) 0 c
theorem l_St_ownNumbers {sc : Option (Nat × Nat × (Nat → Int32))} {sa : Nat → Nat} {d : Nat} {M : mz_M} {z : Nat × Nat} {st c : Nat} (hC : c ≤ 12) : ∀ (k : Nat) (i : Nat), i + k = c → zw sc sa (d + 1) ym_St_ownNumbers z (fun r' M' => r' = some (.long (ownR c)) ∧ M' = M) 5 [.ref st, .int (nI c), .long (ownR i), .retAddr 0, .int (nI i)] [] M z := by
  intro k
  induction k with
  | zero =>
    intro i hi
    have e1 : i = c := by omega
    subst e1
    refine z_iload (q := 7) rfl rfl rfl ?_
    refine z_iload_n (q := 8) rfl rfl rfl ?_
    refine z_ic_ge (q := 11) rfl rfl (fun h8 => ?_) (fun h8 => ?_)
    · refine z_lload_n (q := 27) rfl rfl rfl ?_
      refine z_lret rfl rfl ?_
      exact ⟨rfl, rfl⟩
    · exact absurd (nI_le (Nat.le_refl _) (by omega)) h8
  | succ k ih =>
    intro i hi
    refine z_iload (q := 7) rfl rfl rfl ?_
    refine z_iload_n (q := 8) rfl rfl rfl ?_
    refine z_ic_ge (q := 11) rfl rfl (fun h8 => ?_) (fun h8 => ?_)
    · exact absurd h8 (nI_ge (by omega) (by omega))
    · refine z_lload_n (q := 12) rfl rfl rfl ?_
      refine z_iload (q := 14) rfl rfl rfl ?_
      refine z_iload (q := 16) rfl rfl rfl ?_
      refine z_cs3l (q := 19) rfl rfl rfl (s_Sh_withNumber) ?_
      refine z_lstore_n (q := 20) (L2 := [_, _, _, _, _]) rfl rfl rfl rfl ?_
      refine z_iinc (q := 23) (L2 := [_, _, _, _, _]) rfl rfl rfl rfl ?_
      refine z_goto rfl ?_
      rw [show nI i + Int32.ofInt 1 = nI (i + 1) from (nI_succ i).symm]
      exact ih (i + 1) (by omega)
theorem s_St_ownNumbers {sc : Option (Nat × Nat × (Nat → Int32))} {sa : Nat → Nat} {d : Nat} {M : mz_M} {z : Nat × Nat} {st c : Nat} (hC : c ≤ 12) : zx sc sa (d + 2) 75 [.ref st, .int (nI c)] M z z (some (.long (ownR c))) M := by
  refine zxin ym_St_ownNumbers [.ref st, .int (nI c), .retAddr 0, .retAddr 0, .retAddr 0] rfl rfl rfl rfl ?_
  refine z_lconst (q := 1) (v := 0) rfl rfl rfl ?_
  refine z_lstore_n (q := 2) (L2 := [_, _, _, _, _]) rfl rfl rfl rfl ?_
  refine z_iconst (q := 3) (v := 0) rfl rfl rfl ?_
  refine z_istore (q := 5) (L2 := [_, _, _, _, _]) rfl rfl rfl rfl ?_
  exact l_St_ownNumbers hC c 0 (by omega)
def ddG (f : Nat → Int32) : Nat → Int32 × Int32 → Int32 × Int32 := fun v q => if f v ≤ q.2 then q else (nI v, f v)
theorem ddG_e {f : Nat → Int32} {v : Nat} {q : Int32 × Int32} (h : f v ≤ q.2) : ddG f v q = q := if_pos h
theorem ddG_n {f : Nat → Int32} {v : Nat} {q : Int32 × Int32} (h : ¬ f v ≤ q.2) : ddG f v q = (nI v, f v) := if_neg h
theorem l_St_dearestDeed {sc : Option (Nat × Nat × (Nat → Int32))} {sa : Nat → Nat} {d : Nat} {M : mz_M} {z : Nat × Nat} {st : Nat} (w : g_St M.2.2 st) {D : Nat} (hD : M.1 st 10 = nI D) (h60 : D ≤ 60)  : ∀ (k : Nat) (i : Nat), i + k = D → zw sc sa d ym_St_dearestDeed z (fun r' M' => r' = some (.int (fo (ddG (M.1 (st + 12))) (-1, 0) D).1) ∧ M' = M) 6 [.ref st, .int (fo (ddG (M.1 (st + 12))) (-1, 0) i).1, .int (fo (ddG (M.1 (st + 12))) (-1, 0) i).2, .int (nI i)] [] M z := by
  intro k
  induction k with
  | zero =>
    intro i hi
    have e1 : i = D := by omega
    subst e1
    refine z_iload_n (q := 7) rfl rfl rfl ?_
    refine z_aload_n (q := 8) rfl rfl rfl ?_
    refine z_getI (q := 11) rfl rfl rfl (St_k w) ?_
    refine z_ic_ge (q := 14) rfl rfl (fun h11 => ?_) (fun h11 => ?_)
    · refine z_iload_n (q := 40) rfl rfl rfl ?_
      refine z_ireti rfl rfl ?_
      exact ⟨rfl, rfl⟩
    · exact absurd (by rw [hD]; exact nI_le (Nat.le_refl _) (by omega)) h11
  | succ k ih =>
    intro i hi
    refine z_iload_n (q := 7) rfl rfl rfl ?_
    refine z_aload_n (q := 8) rfl rfl rfl ?_
    refine z_getI (q := 11) rfl rfl rfl (St_k w) ?_
    refine z_ic_ge (q := 14) rfl rfl (fun h11 => ?_) (fun h11 => ?_)
    · rw [hD] at h11
      exact absurd h11 (nI_ge (by omega) (by omega))
    · refine z_aload_n (q := 15) rfl rfl rfl ?_
      refine z_getR (q := 18) rfl rfl rfl (St_k w) (St_r6 w) ?_
      refine z_iload_n (q := 19) rfl rfl rfl ?_
      refine z_iald (q := 20) rfl rfl (St_a6 w) (by first | assumption | exact vp_in_nI (by omega) (by omega)) ?_
      refine z_iload_n (q := 21) rfl rfl rfl ?_
      refine z_ic_le (q := 24) rfl rfl (fun h21 => ?_) (fun h21 => ?_)
      · refine z_iinc (q := 36) (L2 := [_, _, _, _]) rfl rfl rfl rfl ?_
        refine z_goto rfl ?_
        rw [show nI i + Int32.ofInt 1 = nI (i + 1) from (nI_succ i).symm]
        have e8 : fo (ddG (M.1 (st + 12))) (-1, 0) (i + 1) = ddG (M.1 (st + 12)) i (fo (ddG (M.1 (st + 12))) (-1, 0) i) := rfl
        rw [nI_clamp (by omega)] at h21
        have e9 := ih (i + 1) (by omega)
        first
          | (rw [e8, ddG_e h21] at e9; exact e9)
          | (rw [e8, ddG_n h21] at e9; rw [nI_clamp (by omega)]; exact e9)
      · refine z_aload_n (q := 25) rfl rfl rfl ?_
        refine z_getR (q := 28) rfl rfl rfl (St_k w) (St_r6 w) ?_
        refine z_iload_n (q := 29) rfl rfl rfl ?_
        refine z_iald (q := 30) rfl rfl (St_a6 w) (by first | assumption | exact vp_in_nI (by omega) (by omega)) ?_
        refine z_istore_n (q := 31) (L2 := [_, _, _, _]) rfl rfl rfl rfl ?_
        refine z_iload_n (q := 32) rfl rfl rfl ?_
        refine z_istore_n (q := 33) (L2 := [_, _, _, _]) rfl rfl rfl rfl ?_
        refine z_iinc (q := 36) (L2 := [_, _, _, _]) rfl rfl rfl rfl ?_
        refine z_goto rfl ?_
        rw [show nI i + Int32.ofInt 1 = nI (i + 1) from (nI_succ i).symm]
        have e8 : fo (ddG (M.1 (st + 12))) (-1, 0) (i + 1) = ddG (M.1 (st + 12)) i (fo (ddG (M.1 (st + 12))) (-1, 0) i) := rfl
        rw [nI_clamp (by omega)] at h21
        have e9 := ih (i + 1) (by omega)
        first
          | (rw [e8, ddG_e h21] at e9; exact e9)
          | (rw [e8, ddG_n h21] at e9; rw [nI_clamp (by omega)]; exact e9)
theorem s_St_dearestDeed {sc : Option (Nat × Nat × (Nat → Int32))} {sa : Nat → Nat} {d : Nat} {M : mz_M} {z : Nat × Nat} {st : Nat} (w : g_St M.2.2 st) {D : Nat} (hD : M.1 st 10 = nI D) (h60 : D ≤ 60)  : zx sc sa (d + 1) 80 [.ref st] M z z (some (.int (fo (ddG (M.1 (st + 12))) (-1, 0) D).1)) M := by
  refine zxin ym_St_dearestDeed [.ref st, .retAddr 0, .retAddr 0, .retAddr 0] rfl rfl rfl rfl ?_
  refine z_iconst (q := 1) (v := -1) rfl rfl rfl ?_
  refine z_istore_n (q := 2) (L2 := [_, _, _, _]) rfl rfl rfl rfl ?_
  refine z_iconst (q := 3) (v := 0) rfl rfl rfl ?_
  refine z_istore_n (q := 4) (L2 := [_, _, _, _]) rfl rfl rfl rfl ?_
  refine z_iconst (q := 5) (v := 0) rfl rfl rfl ?_
  refine z_istore_n (q := 6) (L2 := [_, _, _, _]) rfl rfl rfl rfl ?_
  exact l_St_dearestDeed w hD h60 D 0 (by omega)
theorem q_St_carry {sc : Option (Nat × Nat × (Nat → Int32))} {sa : Nat → Nat} {d : Nat} {M : mz_M} {z : Nat × Nat} {st : Nat} {pr ln td de : Int32} {pa ks os ts hs cs : Nat → Int32} {s l t : Int32} {q : sQ} (w : g_St M.2.2 st) (hN : q.1 ≤ 40) (hf : okl q.2.2.1 q.1) {c : Nat} (hc : s = nI c) (hC : c ≤ 12) {k a b e : Nat} (h : vaQ s l t c 40 k a b e q) : zx sc sa (d + 5) 65 [.ref (st + 1), .int (nI k), .int (nI a), .int (nI b), .int (nI e)] (stQ M st pr ln td de pa ks os ts hs cs s l t q) z z (some (.int (caQ s l t c k a b e q).1)) (stQ M st pr ln td de pa ks os ts hs cs s l t (caQ s l t c k a b e q).2) := q_Sh_carryOut (M := stB M st pr ln td de pa ks os ts hs cs) (St_w0 w) hN (by omega) hf hc hC h
theorem q_St_perform {sc : Option (Nat × Nat × (Nat → Int32))} {sa : Nat → Nat} {d : Nat} {M : mz_M} {z : Nat × Nat} {st : Nat} {pr ln td : Int32} {D : Nat} {pa ks os ts hs cs : Nat → Int32} {s l t : Int32} {q : sQ} (w : g_St M.2.2 st) (hD : D < 60) (hN : q.1 ≤ 40) (hf : okl q.2.2.1 q.1) {c : Nat} (hc : s = nI c) (hC : c ≤ 12) {k a b e : Nat} (h : vaQ s l t c 40 k a b e q) : zx sc sa (d + 6) 77 [.ref st, .int (nI k), .int (nI a), .int (nI b), .int (nI e)] (stQ M st pr ln td (nI D) pa ks os ts hs cs s l t q) z z (some (.int (caQ s l t c k a b e q).1)) (stQ M st pr ln td (nI D + 1) pa (va_up ks D (nI k)) (va_up os D (nI a)) (va_up ts D (nI b)) (va_up hs D (nI e)) (va_up cs D ((caQ s l t c k a b e q).2.2.2.2.2.2.2 - q.2.2.2.2.2.2)) s l t (caQ s l t c k a b e q).2) := by
  refine zxin ym_St_perform [.ref st, .int (nI k), .int (nI a), .int (nI b), .int (nI e), .retAddr 0, .retAddr 0] rfl rfl rfl rfl ?_
  refine z_aload_n (q := 1) rfl rfl rfl ?_
  refine z_getI (q := 4) rfl rfl rfl (St_k w) ?_
  rw [stQ_g10]
  refine z_aload_n (q := 5) rfl rfl rfl ?_
  refine z_getR (q := 8) rfl rfl rfl (St_k w) (St_r2 w) ?_
  refine z_alen (q := 9) rfl rfl (St_a2 w) rfl rfl ?_
  refine z_ic_lt (q := 12) rfl rfl (fun h9 => ?_) (fun h9 => ?_)
  · refine z_aload_n (q := 15) rfl rfl rfl ?_
    refine z_getR (q := 18) rfl rfl rfl (St_k w) (St_r2 w) ?_
    refine z_aload_n (q := 19) rfl rfl rfl ?_
    refine z_getI (q := 22) rfl rfl rfl (St_k w) ?_
    rw [stQ_g10]
    refine z_iload_n (q := 23) rfl rfl rfl ?_
    refine z_iast (q := 24) rfl rfl (St_a2 w) (by first | assumption | exact vp_in_nI (by omega) (by omega)) ?_
    rw [stQ_w2]
    try rw [nI_clamp (by omega)]
    refine z_aload_n (q := 25) rfl rfl rfl ?_
    refine z_getR (q := 28) rfl rfl rfl (St_k w) (St_r3 w) ?_
    refine z_aload_n (q := 29) rfl rfl rfl ?_
    refine z_getI (q := 32) rfl rfl rfl (St_k w) ?_
    rw [stQ_g10]
    refine z_iload_n (q := 33) rfl rfl rfl ?_
    refine z_iast (q := 34) rfl rfl (St_a3 w) (by first | assumption | exact vp_in_nI (by omega) (by omega)) ?_
    rw [stQ_w3]
    try rw [nI_clamp (by omega)]
    refine z_aload_n (q := 35) rfl rfl rfl ?_
    refine z_getR (q := 38) rfl rfl rfl (St_k w) (St_r4 w) ?_
    refine z_aload_n (q := 39) rfl rfl rfl ?_
    refine z_getI (q := 42) rfl rfl rfl (St_k w) ?_
    rw [stQ_g10]
    refine z_iload_n (q := 43) rfl rfl rfl ?_
    refine z_iast (q := 44) rfl rfl (St_a4 w) (by first | assumption | exact vp_in_nI (by omega) (by omega)) ?_
    rw [stQ_w4]
    try rw [nI_clamp (by omega)]
    refine z_aload_n (q := 45) rfl rfl rfl ?_
    refine z_getR (q := 48) rfl rfl rfl (St_k w) (St_r5 w) ?_
    refine z_aload_n (q := 49) rfl rfl rfl ?_
    refine z_getI (q := 52) rfl rfl rfl (St_k w) ?_
    rw [stQ_g10]
    refine z_iload (q := 54) rfl rfl rfl ?_
    refine z_iast (q := 55) rfl rfl (St_a5 w) (by first | assumption | exact vp_in_nI (by omega) (by omega)) ?_
    rw [stQ_w5]
    try rw [nI_clamp (by omega)]
    refine z_aload_n (q := 56) rfl rfl rfl ?_
    refine z_getR (q := 59) rfl rfl rfl (St_k w) (St_r0 w) ?_
    refine z_getI (q := 62) rfl rfl rfl (Sh_k (St_w0 w)) ?_
    rw [stS_g9]
    refine z_istore (q := 64) (L2 := [_, _, _, _, _, _, _]) rfl rfl rfl rfl ?_
    refine z_aload_n (q := 65) rfl rfl rfl ?_
    refine z_getR (q := 68) rfl rfl rfl (St_k w) (St_r0 w) ?_
    refine z_iload_n (q := 69) rfl rfl rfl ?_
    refine z_iload_n (q := 70) rfl rfl rfl ?_
    refine z_iload_n (q := 71) rfl rfl rfl ?_
    refine z_iload (q := 73) rfl rfl rfl ?_
    refine z_cv4i (q := 76) rfl rfl rfl (Sh_k (St_w0 w)) (q_St_carry w hN hf hc hC h) ?_
    refine z_istore (q := 78) (L2 := [_, _, _, _, _, _, _]) rfl rfl rfl rfl ?_
    refine z_aload_n (q := 79) rfl rfl rfl ?_
    refine z_getR (q := 82) rfl rfl rfl (St_k w) (St_r6 w) ?_
    refine z_aload_n (q := 83) rfl rfl rfl ?_
    refine z_getI (q := 86) rfl rfl rfl (St_k w) ?_
    rw [stQ_g10]
    refine z_aload_n (q := 87) rfl rfl rfl ?_
    refine z_getR (q := 90) rfl rfl rfl (St_k w) (St_r0 w) ?_
    refine z_getI (q := 93) rfl rfl rfl (Sh_k (St_w0 w)) ?_
    rw [stS_g9]
    refine z_iload (q := 95) rfl rfl rfl ?_
    refine z_isub (q := 96) rfl rfl ?_
    refine z_iast (q := 97) rfl rfl (St_a6 w) (by first | assumption | exact vp_in_nI (by omega) (by omega)) ?_
    rw [stQ_w6]
    try rw [nI_clamp (by omega)]
    refine z_aload_n (q := 98) rfl rfl rfl ?_
    refine z_dup (q := 99) rfl rfl rfl ?_
    refine z_getI (q := 102) rfl rfl rfl (St_k w) ?_
    rw [stQ_g10]
    refine z_iconst (q := 103) (v := 1) rfl rfl rfl ?_
    refine z_iadd (q := 104) rfl rfl ?_
    refine z_putI (q := 107) rfl rfl rfl (by decide) rfl rfl (St_k w) ?_
    rw [stQ_u10]
    refine z_iload (q := 109) rfl rfl rfl ?_
    refine z_ireti rfl rfl ?_
    exact ⟨rfl, rfl⟩
  · exact absurd (nI_lt hD (by omega)) h9
end
