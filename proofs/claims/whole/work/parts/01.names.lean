-- ===== PART A: goes FIRST, ahead of the names: the tables' words, and 'selects' of the private methods out of them =====
/-- a private method of a class that the tables say can be made, by its rows of tables_1 -/
def lw_okq (q : MethodName × Nat) : Prop := (q.1.cls ≠ "java/lang/invoke/MethodHandle" ∧ q.1.cls ≠ "java/lang/invoke/VarHandle") ∧ Cond.instantiable q.1.cls q.2 ∈ tables_1 ∧ Cond.privateMethod q.1 ∈ tables_1 ∧ Cond.instanceMethod q.1 ∈ tables_1
theorem lw_p0 : lw_okq (⟨"BottledPost$Tape", "byteAt", "(I)I"⟩, 6) := ⟨⟨by decide +kernel, by decide +kernel⟩, List.mem_of_getElem? (i := 200) (by decide +kernel), List.mem_of_getElem? (i := 427) (by decide +kernel), List.mem_of_getElem? (i := 428) (by decide +kernel)⟩
theorem lw_p1 : lw_okq (⟨"BottledPost$Tape", "readNumber", "()V"⟩, 6) := ⟨⟨by decide +kernel, by decide +kernel⟩, List.mem_of_getElem? (i := 200) (by decide +kernel), List.mem_of_getElem? (i := 434) (by decide +kernel), List.mem_of_getElem? (i := 435) (by decide +kernel)⟩
theorem lw_p2 : lw_okq (⟨"BottledPost$Tape", "readWord", "()V"⟩, 6) := ⟨⟨by decide +kernel, by decide +kernel⟩, List.mem_of_getElem? (i := 200) (by decide +kernel), List.mem_of_getElem? (i := 444) (by decide +kernel), List.mem_of_getElem? (i := 445) (by decide +kernel)⟩
theorem lw_p3 : lw_okq (⟨"BottledPost$Tape", "readSign", "(I)V"⟩, 6) := ⟨⟨by decide +kernel, by decide +kernel⟩, List.mem_of_getElem? (i := 200) (by decide +kernel), List.mem_of_getElem? (i := 497) (by decide +kernel), List.mem_of_getElem? (i := 498) (by decide +kernel)⟩
theorem lw_p4 : lw_okq (⟨"BottledPost$Grammar", "canBegin", "(LBottledPost$Tape;)Z"⟩, 10) := ⟨⟨by decide +kernel, by decide +kernel⟩, List.mem_of_getElem? (i := 229) (by decide +kernel), List.mem_of_getElem? (i := 504) (by decide +kernel), List.mem_of_getElem? (i := 505) (by decide +kernel)⟩
theorem lw_p5 : lw_okq (⟨"BottledPost$Grammar", "refuse", "(LBottledPost$Tape;I)V"⟩, 10) := ⟨⟨by decide +kernel, by decide +kernel⟩, List.mem_of_getElem? (i := 229) (by decide +kernel), List.mem_of_getElem? (i := 508) (by decide +kernel), List.mem_of_getElem? (i := 509) (by decide +kernel)⟩
theorem lw_p6 : lw_okq (⟨"BottledPost$Grammar", "readClause", "(LBottledPost$Tape;)V"⟩, 10) := ⟨⟨by decide +kernel, by decide +kernel⟩, List.mem_of_getElem? (i := 229) (by decide +kernel), List.mem_of_getElem? (i := 512) (by decide +kernel), List.mem_of_getElem? (i := 513) (by decide +kernel)⟩
theorem lw_p7 : lw_okq (⟨"BottledPost$Grammar", "notePart", "(II)V"⟩, 10) := ⟨⟨by decide +kernel, by decide +kernel⟩, List.mem_of_getElem? (i := 229) (by decide +kernel), List.mem_of_getElem? (i := 516) (by decide +kernel), List.mem_of_getElem? (i := 517) (by decide +kernel)⟩
theorem lw_p8 : lw_okq (⟨"BottledPost$Grammar", "readSum", "(LBottledPost$Tape;)V"⟩, 10) := ⟨⟨by decide +kernel, by decide +kernel⟩, List.mem_of_getElem? (i := 229) (by decide +kernel), List.mem_of_getElem? (i := 522) (by decide +kernel), List.mem_of_getElem? (i := 523) (by decide +kernel)⟩
theorem lw_p9 : lw_okq (⟨"BottledPost$Grammar", "readProduct", "(LBottledPost$Tape;)V"⟩, 10) := ⟨⟨by decide +kernel, by decide +kernel⟩, List.mem_of_getElem? (i := 229) (by decide +kernel), List.mem_of_getElem? (i := 526) (by decide +kernel), List.mem_of_getElem? (i := 527) (by decide +kernel)⟩
theorem lw_p10 : lw_okq (⟨"BottledPost$Grammar", "readOne", "(LBottledPost$Tape;)V"⟩, 10) := ⟨⟨by decide +kernel, by decide +kernel⟩, List.mem_of_getElem? (i := 229) (by decide +kernel), List.mem_of_getElem? (i := 530) (by decide +kernel), List.mem_of_getElem? (i := 531) (by decide +kernel)⟩
theorem lw_p11 : lw_okq (⟨"BottledPost$Grammar", "readPlainNumber", "(LBottledPost$Tape;)V"⟩, 10) := ⟨⟨by decide +kernel, by decide +kernel⟩, List.mem_of_getElem? (i := 229) (by decide +kernel), List.mem_of_getElem? (i := 534) (by decide +kernel), List.mem_of_getElem? (i := 535) (by decide +kernel)⟩
theorem lw_p12 : lw_okq (⟨"BottledPost$Grammar", "addSign", "(II)I"⟩, 10) := ⟨⟨by decide +kernel, by decide +kernel⟩, List.mem_of_getElem? (i := 229) (by decide +kernel), List.mem_of_getElem? (i := 538) (by decide +kernel), List.mem_of_getElem? (i := 539) (by decide +kernel)⟩
theorem lw_p13 : lw_okq (⟨"BottledPost$Grammar", "readName", "(LBottledPost$Tape;)V"⟩, 10) := ⟨⟨by decide +kernel, by decide +kernel⟩, List.mem_of_getElem? (i := 229) (by decide +kernel), List.mem_of_getElem? (i := 545) (by decide +kernel), List.mem_of_getElem? (i := 546) (by decide +kernel)⟩
theorem lw_p14 : lw_okq (⟨"BottledPost$Grammar", "readOpened", "(LBottledPost$Tape;)V"⟩, 10) := ⟨⟨by decide +kernel, by decide +kernel⟩, List.mem_of_getElem? (i := 229) (by decide +kernel), List.mem_of_getElem? (i := 552) (by decide +kernel), List.mem_of_getElem? (i := 553) (by decide +kernel)⟩
theorem lw_p15 : lw_okq (⟨"BottledPost$Grammar", "want", "(LBottledPost$Tape;I)V"⟩, 10) := ⟨⟨by decide +kernel, by decide +kernel⟩, List.mem_of_getElem? (i := 229) (by decide +kernel), List.mem_of_getElem? (i := 556) (by decide +kernel), List.mem_of_getElem? (i := 557) (by decide +kernel)⟩
def lw_privs_1 : List (MethodName × Nat) := [(⟨"BottledPost$Tape", "byteAt", "(I)I"⟩, 6), (⟨"BottledPost$Tape", "readNumber", "()V"⟩, 6), (⟨"BottledPost$Tape", "readWord", "()V"⟩, 6), (⟨"BottledPost$Tape", "readSign", "(I)V"⟩, 6), (⟨"BottledPost$Grammar", "canBegin", "(LBottledPost$Tape;)Z"⟩, 10), (⟨"BottledPost$Grammar", "refuse", "(LBottledPost$Tape;I)V"⟩, 10), (⟨"BottledPost$Grammar", "readClause", "(LBottledPost$Tape;)V"⟩, 10), (⟨"BottledPost$Grammar", "notePart", "(II)V"⟩, 10), (⟨"BottledPost$Grammar", "readSum", "(LBottledPost$Tape;)V"⟩, 10), (⟨"BottledPost$Grammar", "readProduct", "(LBottledPost$Tape;)V"⟩, 10), (⟨"BottledPost$Grammar", "readOne", "(LBottledPost$Tape;)V"⟩, 10), (⟨"BottledPost$Grammar", "readPlainNumber", "(LBottledPost$Tape;)V"⟩, 10), (⟨"BottledPost$Grammar", "addSign", "(II)I"⟩, 10), (⟨"BottledPost$Grammar", "readName", "(LBottledPost$Tape;)V"⟩, 10), (⟨"BottledPost$Grammar", "readOpened", "(LBottledPost$Tape;)V"⟩, 10), (⟨"BottledPost$Grammar", "want", "(LBottledPost$Tape;I)V"⟩, 10)]
theorem lw_r1 : ∀ q ∈ lw_privs_1, lw_okq q := List.forall_mem_cons.mpr ⟨lw_p0, List.forall_mem_cons.mpr ⟨lw_p1, List.forall_mem_cons.mpr ⟨lw_p2, List.forall_mem_cons.mpr ⟨lw_p3, List.forall_mem_cons.mpr ⟨lw_p4, List.forall_mem_cons.mpr ⟨lw_p5, List.forall_mem_cons.mpr ⟨lw_p6, List.forall_mem_cons.mpr ⟨lw_p7, List.forall_mem_cons.mpr ⟨lw_p8, List.forall_mem_cons.mpr ⟨lw_p9, List.forall_mem_cons.mpr ⟨lw_p10, List.forall_mem_cons.mpr ⟨lw_p11, List.forall_mem_cons.mpr ⟨lw_p12, List.forall_mem_cons.mpr ⟨lw_p13, List.forall_mem_cons.mpr ⟨lw_p14, List.forall_mem_cons.mpr ⟨lw_p15, fun _ h => absurd h List.not_mem_nil⟩⟩⟩⟩⟩⟩⟩⟩⟩⟩⟩⟩⟩⟩⟩⟩
theorem lw_p16 : lw_okq (⟨"BottledPost$Grammar", "sees", "(LBottledPost$Tape;I)Z"⟩, 10) := ⟨⟨by decide +kernel, by decide +kernel⟩, List.mem_of_getElem? (i := 229) (by decide +kernel), List.mem_of_getElem? (i := 560) (by decide +kernel), List.mem_of_getElem? (i := 561) (by decide +kernel)⟩
theorem lw_p17 : lw_okq (⟨"BottledPost$Grammar", "readIf", "(LBottledPost$Tape;)V"⟩, 10) := ⟨⟨by decide +kernel, by decide +kernel⟩, List.mem_of_getElem? (i := 229) (by decide +kernel), List.mem_of_getElem? (i := 564) (by decide +kernel), List.mem_of_getElem? (i := 565) (by decide +kernel)⟩
theorem lw_p18 : lw_okq (⟨"BottledPost$Grammar", "readEither", "(LBottledPost$Tape;)V"⟩, 10) := ⟨⟨by decide +kernel, by decide +kernel⟩, List.mem_of_getElem? (i := 229) (by decide +kernel), List.mem_of_getElem? (i := 568) (by decide +kernel), List.mem_of_getElem? (i := 569) (by decide +kernel)⟩
theorem lw_p19 : lw_okq (⟨"BottledPost$Grammar", "readBoth", "(LBottledPost$Tape;)V"⟩, 10) := ⟨⟨by decide +kernel, by decide +kernel⟩, List.mem_of_getElem? (i := 229) (by decide +kernel), List.mem_of_getElem? (i := 572) (by decide +kernel), List.mem_of_getElem? (i := 573) (by decide +kernel)⟩
theorem lw_p20 : lw_okq (⟨"BottledPost$Grammar", "readAsk", "(LBottledPost$Tape;)V"⟩, 10) := ⟨⟨by decide +kernel, by decide +kernel⟩, List.mem_of_getElem? (i := 229) (by decide +kernel), List.mem_of_getElem? (i := 576) (by decide +kernel), List.mem_of_getElem? (i := 577) (by decide +kernel)⟩
theorem lw_p21 : lw_okq (⟨"BottledPost$Grammar", "readComparison", "(LBottledPost$Tape;)V"⟩, 10) := ⟨⟨by decide +kernel, by decide +kernel⟩, List.mem_of_getElem? (i := 229) (by decide +kernel), List.mem_of_getElem? (i := 580) (by decide +kernel), List.mem_of_getElem? (i := 581) (by decide +kernel)⟩
theorem lw_p22 : lw_okq (⟨"BottledPost$Grammar", "readDenied", "(LBottledPost$Tape;)V"⟩, 10) := ⟨⟨by decide +kernel, by decide +kernel⟩, List.mem_of_getElem? (i := 229) (by decide +kernel), List.mem_of_getElem? (i := 584) (by decide +kernel), List.mem_of_getElem? (i := 585) (by decide +kernel)⟩
theorem lw_p23 : lw_okq (⟨"BottledPost$Grammar", "leadHere", "(II)V"⟩, 10) := ⟨⟨by decide +kernel, by decide +kernel⟩, List.mem_of_getElem? (i := 229) (by decide +kernel), List.mem_of_getElem? (i := 588) (by decide +kernel), List.mem_of_getElem? (i := 589) (by decide +kernel)⟩
theorem lw_p24 : lw_okq (⟨"BottledPost$Grammar", "endLaw", "()V"⟩, 10) := ⟨⟨by decide +kernel, by decide +kernel⟩, List.mem_of_getElem? (i := 229) (by decide +kernel), List.mem_of_getElem? (i := 592) (by decide +kernel), List.mem_of_getElem? (i := 593) (by decide +kernel)⟩
theorem lw_p25 : lw_okq (⟨"BottledPost$Grammar", "readNumbers", "(LBottledPost$Tape;I)V"⟩, 10) := ⟨⟨by decide +kernel, by decide +kernel⟩, List.mem_of_getElem? (i := 229) (by decide +kernel), List.mem_of_getElem? (i := 613) (by decide +kernel), List.mem_of_getElem? (i := 614) (by decide +kernel)⟩
theorem lw_p26 : lw_okq (⟨"BottledPost$Grammar", "readNumber", "(LBottledPost$Tape;III)V"⟩, 10) := ⟨⟨by decide +kernel, by decide +kernel⟩, List.mem_of_getElem? (i := 229) (by decide +kernel), List.mem_of_getElem? (i := 617) (by decide +kernel), List.mem_of_getElem? (i := 618) (by decide +kernel)⟩
theorem lw_p27 : lw_okq (⟨"BottledPost", "tossBottle", "(IIIZ)I"⟩, 10) := ⟨⟨by decide +kernel, by decide +kernel⟩, List.mem_of_getElem? (i := 23) (by decide +kernel), List.mem_of_getElem? (i := 657) (by decide +kernel), List.mem_of_getElem? (i := 658) (by decide +kernel)⟩
theorem lw_p28 : lw_okq (⟨"BottledPost$Steps", "forgetEldest", "()V"⟩, 2) := ⟨⟨by decide +kernel, by decide +kernel⟩, List.mem_of_getElem? (i := 104) (by decide +kernel), List.mem_of_getElem? (i := 669) (by decide +kernel), List.mem_of_getElem? (i := 670) (by decide +kernel)⟩
theorem lw_p29 : lw_okq (⟨"BottledPost$Steps", "seaOf", "(I)LBottledPost$Sea;"⟩, 2) := ⟨⟨by decide +kernel, by decide +kernel⟩, List.mem_of_getElem? (i := 104) (by decide +kernel), List.mem_of_getElem? (i := 673) (by decide +kernel), List.mem_of_getElem? (i := 674) (by decide +kernel)⟩
theorem lw_p30 : lw_okq (⟨"BottledPost", "fishBottle", "(IIZ)Z"⟩, 10) := ⟨⟨by decide +kernel, by decide +kernel⟩, List.mem_of_getElem? (i := 23) (by decide +kernel), List.mem_of_getElem? (i := 707) (by decide +kernel), List.mem_of_getElem? (i := 708) (by decide +kernel)⟩
theorem lw_p31 : lw_okq (⟨"BottledPost", "tossAgain", "(IZ)Z"⟩, 10) := ⟨⟨by decide +kernel, by decide +kernel⟩, List.mem_of_getElem? (i := 23) (by decide +kernel), List.mem_of_getElem? (i := 738) (by decide +kernel), List.mem_of_getElem? (i := 739) (by decide +kernel)⟩
def lw_privs_2 : List (MethodName × Nat) := [(⟨"BottledPost$Grammar", "sees", "(LBottledPost$Tape;I)Z"⟩, 10), (⟨"BottledPost$Grammar", "readIf", "(LBottledPost$Tape;)V"⟩, 10), (⟨"BottledPost$Grammar", "readEither", "(LBottledPost$Tape;)V"⟩, 10), (⟨"BottledPost$Grammar", "readBoth", "(LBottledPost$Tape;)V"⟩, 10), (⟨"BottledPost$Grammar", "readAsk", "(LBottledPost$Tape;)V"⟩, 10), (⟨"BottledPost$Grammar", "readComparison", "(LBottledPost$Tape;)V"⟩, 10), (⟨"BottledPost$Grammar", "readDenied", "(LBottledPost$Tape;)V"⟩, 10), (⟨"BottledPost$Grammar", "leadHere", "(II)V"⟩, 10), (⟨"BottledPost$Grammar", "endLaw", "()V"⟩, 10), (⟨"BottledPost$Grammar", "readNumbers", "(LBottledPost$Tape;I)V"⟩, 10), (⟨"BottledPost$Grammar", "readNumber", "(LBottledPost$Tape;III)V"⟩, 10), (⟨"BottledPost", "tossBottle", "(IIIZ)I"⟩, 10), (⟨"BottledPost$Steps", "forgetEldest", "()V"⟩, 2), (⟨"BottledPost$Steps", "seaOf", "(I)LBottledPost$Sea;"⟩, 2), (⟨"BottledPost", "fishBottle", "(IIZ)Z"⟩, 10), (⟨"BottledPost", "tossAgain", "(IZ)Z"⟩, 10)]
theorem lw_r2 : ∀ q ∈ lw_privs_2, lw_okq q := List.forall_mem_cons.mpr ⟨lw_p16, List.forall_mem_cons.mpr ⟨lw_p17, List.forall_mem_cons.mpr ⟨lw_p18, List.forall_mem_cons.mpr ⟨lw_p19, List.forall_mem_cons.mpr ⟨lw_p20, List.forall_mem_cons.mpr ⟨lw_p21, List.forall_mem_cons.mpr ⟨lw_p22, List.forall_mem_cons.mpr ⟨lw_p23, List.forall_mem_cons.mpr ⟨lw_p24, List.forall_mem_cons.mpr ⟨lw_p25, List.forall_mem_cons.mpr ⟨lw_p26, List.forall_mem_cons.mpr ⟨lw_p27, List.forall_mem_cons.mpr ⟨lw_p28, List.forall_mem_cons.mpr ⟨lw_p29, List.forall_mem_cons.mpr ⟨lw_p30, List.forall_mem_cons.mpr ⟨lw_p31, fun _ h => absurd h List.not_mem_nil⟩⟩⟩⟩⟩⟩⟩⟩⟩⟩⟩⟩⟩⟩⟩⟩
theorem lw_p32 : lw_okq (⟨"BottledPost", "passTides", "(I)I"⟩, 10) := ⟨⟨by decide +kernel, by decide +kernel⟩, List.mem_of_getElem? (i := 23) (by decide +kernel), List.mem_of_getElem? (i := 747) (by decide +kernel), List.mem_of_getElem? (i := 748) (by decide +kernel)⟩
theorem lw_p33 : lw_okq (⟨"BottledPost$Laws", "workOff", "([ILBottledPost$Sea;LBottledPost$Shore;I)I"⟩, 2) := ⟨⟨by decide +kernel, by decide +kernel⟩, List.mem_of_getElem? (i := 268) (by decide +kernel), List.mem_of_getElem? (i := 776) (by decide +kernel), List.mem_of_getElem? (i := 777) (by decide +kernel)⟩
theorem lw_p34 : lw_okq (⟨"BottledPost$Laws", "pop", "()I"⟩, 2) := ⟨⟨by decide +kernel, by decide +kernel⟩, List.mem_of_getElem? (i := 268) (by decide +kernel), List.mem_of_getElem? (i := 781) (by decide +kernel), List.mem_of_getElem? (i := 782) (by decide +kernel)⟩
theorem lw_p35 : lw_okq (⟨"BottledPost$Laws", "push", "(I)V"⟩, 2) := ⟨⟨by decide +kernel, by decide +kernel⟩, List.mem_of_getElem? (i := 268) (by decide +kernel), List.mem_of_getElem? (i := 785) (by decide +kernel), List.mem_of_getElem? (i := 786) (by decide +kernel)⟩
theorem lw_p36 : lw_okq (⟨"BottledPost", "playClause", "(LBottledPost$Text;I)Z"⟩, 10) := ⟨⟨by decide +kernel, by decide +kernel⟩, List.mem_of_getElem? (i := 23) (by decide +kernel), List.mem_of_getElem? (i := 838) (by decide +kernel), List.mem_of_getElem? (i := 839) (by decide +kernel)⟩
theorem lw_p37 : lw_okq (⟨"BottledPost", "liveYear", "(I)V"⟩, 10) := ⟨⟨by decide +kernel, by decide +kernel⟩, List.mem_of_getElem? (i := 23) (by decide +kernel), List.mem_of_getElem? (i := 854) (by decide +kernel), List.mem_of_getElem? (i := 855) (by decide +kernel)⟩
theorem lw_p38 : lw_okq (⟨"BottledPost$Routes", "goOn", "(LBottledPost$Shore;IIIII)V"⟩, 7) := ⟨⟨by decide +kernel, by decide +kernel⟩, List.mem_of_getElem? (i := 281) (by decide +kernel), List.mem_of_getElem? (i := 976) (by decide +kernel), List.mem_of_getElem? (i := 977) (by decide +kernel)⟩
theorem lw_p39 : lw_okq (⟨"BottledPost$Routes", "arrive", "(LBottledPost$Shore;III)V"⟩, 7) := ⟨⟨by decide +kernel, by decide +kernel⟩, List.mem_of_getElem? (i := 281) (by decide +kernel), List.mem_of_getElem? (i := 980) (by decide +kernel), List.mem_of_getElem? (i := 981) (by decide +kernel)⟩
theorem lw_p40 : lw_okq (⟨"BottledPost$Routes", "goBy", "(ILBottledPost$Shore;IIIII)V"⟩, 7) := ⟨⟨by decide +kernel, by decide +kernel⟩, List.mem_of_getElem? (i := 281) (by decide +kernel), List.mem_of_getElem? (i := 986) (by decide +kernel), List.mem_of_getElem? (i := 987) (by decide +kernel)⟩
theorem lw_p41 : lw_okq (⟨"BottledPost$Riddles", "come", "(III)V"⟩, 6) := ⟨⟨by decide +kernel, by decide +kernel⟩, List.mem_of_getElem? (i := 311) (by decide +kernel), List.mem_of_getElem? (i := 1077) (by decide +kernel), List.mem_of_getElem? (i := 1078) (by decide +kernel)⟩
theorem lw_p42 : lw_okq (⟨"BottledPost$Riddles", "passOver", "(LBottledPost$Sayings;)V"⟩, 6) := ⟨⟨by decide +kernel, by decide +kernel⟩, List.mem_of_getElem? (i := 311) (by decide +kernel), List.mem_of_getElem? (i := 1083) (by decide +kernel), List.mem_of_getElem? (i := 1084) (by decide +kernel)⟩
theorem lw_p43 : lw_okq (⟨"BottledPost$Riddles", "putBehind", "(LBottledPost$Sayings;IIII)V"⟩, 6) := ⟨⟨by decide +kernel, by decide +kernel⟩, List.mem_of_getElem? (i := 311) (by decide +kernel), List.mem_of_getElem? (i := 1087) (by decide +kernel), List.mem_of_getElem? (i := 1088) (by decide +kernel)⟩
theorem lw_p44 : lw_okq (⟨"BottledPost", "allSaidBy", "(LBottledPost$Text;)Z"⟩, 10) := ⟨⟨by decide +kernel, by decide +kernel⟩, List.mem_of_getElem? (i := 23) (by decide +kernel), List.mem_of_getElem? (i := 1184) (by decide +kernel), List.mem_of_getElem? (i := 1185) (by decide +kernel)⟩
theorem lw_p45 : lw_okq (⟨"BottledPostModel", "four", "(I)V"⟩, 34) := ⟨⟨by decide +kernel, by decide +kernel⟩, List.mem_of_getElem? (i := 1223) (by decide +kernel), List.mem_of_getElem? (i := 1354) (by decide +kernel), List.mem_of_getElem? (i := 1355) (by decide +kernel)⟩
theorem lw_p46 : lw_okq (⟨"BottledPostModel", "readText", "()I"⟩, 34) := ⟨⟨by decide +kernel, by decide +kernel⟩, List.mem_of_getElem? (i := 1223) (by decide +kernel), List.mem_of_getElem? (i := 1366) (by decide +kernel), List.mem_of_getElem? (i := 1367) (by decide +kernel)⟩
theorem lw_p47 : lw_okq (⟨"BottledPostModel", "nextToken", "()V"⟩, 34) := ⟨⟨by decide +kernel, by decide +kernel⟩, List.mem_of_getElem? (i := 1223) (by decide +kernel), List.mem_of_getElem? (i := 1370) (by decide +kernel), List.mem_of_getElem? (i := 1371) (by decide +kernel)⟩
def lw_privs_3 : List (MethodName × Nat) := [(⟨"BottledPost", "passTides", "(I)I"⟩, 10), (⟨"BottledPost$Laws", "workOff", "([ILBottledPost$Sea;LBottledPost$Shore;I)I"⟩, 2), (⟨"BottledPost$Laws", "pop", "()I"⟩, 2), (⟨"BottledPost$Laws", "push", "(I)V"⟩, 2), (⟨"BottledPost", "playClause", "(LBottledPost$Text;I)Z"⟩, 10), (⟨"BottledPost", "liveYear", "(I)V"⟩, 10), (⟨"BottledPost$Routes", "goOn", "(LBottledPost$Shore;IIIII)V"⟩, 7), (⟨"BottledPost$Routes", "arrive", "(LBottledPost$Shore;III)V"⟩, 7), (⟨"BottledPost$Routes", "goBy", "(ILBottledPost$Shore;IIIII)V"⟩, 7), (⟨"BottledPost$Riddles", "come", "(III)V"⟩, 6), (⟨"BottledPost$Riddles", "passOver", "(LBottledPost$Sayings;)V"⟩, 6), (⟨"BottledPost$Riddles", "putBehind", "(LBottledPost$Sayings;IIII)V"⟩, 6), (⟨"BottledPost", "allSaidBy", "(LBottledPost$Text;)Z"⟩, 10), (⟨"BottledPostModel", "four", "(I)V"⟩, 34), (⟨"BottledPostModel", "readText", "()I"⟩, 34), (⟨"BottledPostModel", "nextToken", "()V"⟩, 34)]
theorem lw_r3 : ∀ q ∈ lw_privs_3, lw_okq q := List.forall_mem_cons.mpr ⟨lw_p32, List.forall_mem_cons.mpr ⟨lw_p33, List.forall_mem_cons.mpr ⟨lw_p34, List.forall_mem_cons.mpr ⟨lw_p35, List.forall_mem_cons.mpr ⟨lw_p36, List.forall_mem_cons.mpr ⟨lw_p37, List.forall_mem_cons.mpr ⟨lw_p38, List.forall_mem_cons.mpr ⟨lw_p39, List.forall_mem_cons.mpr ⟨lw_p40, List.forall_mem_cons.mpr ⟨lw_p41, List.forall_mem_cons.mpr ⟨lw_p42, List.forall_mem_cons.mpr ⟨lw_p43, List.forall_mem_cons.mpr ⟨lw_p44, List.forall_mem_cons.mpr ⟨lw_p45, List.forall_mem_cons.mpr ⟨lw_p46, List.forall_mem_cons.mpr ⟨lw_p47, fun _ h => absurd h List.not_mem_nil⟩⟩⟩⟩⟩⟩⟩⟩⟩⟩⟩⟩⟩⟩⟩⟩
theorem lw_p48 : lw_okq (⟨"BottledPostModel", "byteAt", "(I)I"⟩, 34) := ⟨⟨by decide +kernel, by decide +kernel⟩, List.mem_of_getElem? (i := 1223) (by decide +kernel), List.mem_of_getElem? (i := 1374) (by decide +kernel), List.mem_of_getElem? (i := 1375) (by decide +kernel)⟩
theorem lw_p49 : lw_okq (⟨"BottledPostModel", "clause", "()I"⟩, 34) := ⟨⟨by decide +kernel, by decide +kernel⟩, List.mem_of_getElem? (i := 1223) (by decide +kernel), List.mem_of_getElem? (i := 1389) (by decide +kernel), List.mem_of_getElem? (i := 1390) (by decide +kernel)⟩
theorem lw_p50 : lw_okq (⟨"BottledPostModel", "sortOf", "()I"⟩, 34) := ⟨⟨by decide +kernel, by decide +kernel⟩, List.mem_of_getElem? (i := 1223) (by decide +kernel), List.mem_of_getElem? (i := 1393) (by decide +kernel), List.mem_of_getElem? (i := 1394) (by decide +kernel)⟩
theorem lw_p51 : lw_okq (⟨"BottledPostModel", "isWord", "(J)Z"⟩, 34) := ⟨⟨by decide +kernel, by decide +kernel⟩, List.mem_of_getElem? (i := 1223) (by decide +kernel), List.mem_of_getElem? (i := 1409) (by decide +kernel), List.mem_of_getElem? (i := 1410) (by decide +kernel)⟩
theorem lw_p52 : lw_okq (⟨"BottledPostModel", "isCurrent", "()Z"⟩, 34) := ⟨⟨by decide +kernel, by decide +kernel⟩, List.mem_of_getElem? (i := 1223) (by decide +kernel), List.mem_of_getElem? (i := 1416) (by decide +kernel), List.mem_of_getElem? (i := 1417) (by decide +kernel)⟩
theorem lw_p53 : lw_okq (⟨"BottledPostModel", "body", "(II)I"⟩, 34) := ⟨⟨by decide +kernel, by decide +kernel⟩, List.mem_of_getElem? (i := 1223) (by decide +kernel), List.mem_of_getElem? (i := 1423) (by decide +kernel), List.mem_of_getElem? (i := 1424) (by decide +kernel)⟩
theorem lw_p54 : lw_okq (⟨"BottledPostModel", "pair", "(IIJI)I"⟩, 34) := ⟨⟨by decide +kernel, by decide +kernel⟩, List.mem_of_getElem? (i := 1223) (by decide +kernel), List.mem_of_getElem? (i := 1427) (by decide +kernel), List.mem_of_getElem? (i := 1428) (by decide +kernel)⟩
theorem lw_p55 : lw_okq (⟨"BottledPostModel", "figure", "(III)I"⟩, 34) := ⟨⟨by decide +kernel, by decide +kernel⟩, List.mem_of_getElem? (i := 1223) (by decide +kernel), List.mem_of_getElem? (i := 1431) (by decide +kernel), List.mem_of_getElem? (i := 1432) (by decide +kernel)⟩
theorem lw_p56 : lw_okq (⟨"BottledPostModel", "worded", "(JIII)I"⟩, 34) := ⟨⟨by decide +kernel, by decide +kernel⟩, List.mem_of_getElem? (i := 1223) (by decide +kernel), List.mem_of_getElem? (i := 1435) (by decide +kernel), List.mem_of_getElem? (i := 1436) (by decide +kernel)⟩
theorem lw_p57 : lw_okq (⟨"BottledPostModel", "lawClause", "(I)I"⟩, 34) := ⟨⟨by decide +kernel, by decide +kernel⟩, List.mem_of_getElem? (i := 1223) (by decide +kernel), List.mem_of_getElem? (i := 1439) (by decide +kernel), List.mem_of_getElem? (i := 1440) (by decide +kernel)⟩
theorem lw_p58 : lw_okq (⟨"BottledPostModel", "summed", "()I"⟩, 34) := ⟨⟨by decide +kernel, by decide +kernel⟩, List.mem_of_getElem? (i := 1223) (by decide +kernel), List.mem_of_getElem? (i := 1443) (by decide +kernel), List.mem_of_getElem? (i := 1444) (by decide +kernel)⟩
theorem lw_p59 : lw_okq (⟨"BottledPostModel", "behindOne", "()I"⟩, 34) := ⟨⟨by decide +kernel, by decide +kernel⟩, List.mem_of_getElem? (i := 1223) (by decide +kernel), List.mem_of_getElem? (i := 1447) (by decide +kernel), List.mem_of_getElem? (i := 1448) (by decide +kernel)⟩
theorem lw_p60 : lw_okq (⟨"BottledPostModel", "betweenOf", "()I"⟩, 34) := ⟨⟨by decide +kernel, by decide +kernel⟩, List.mem_of_getElem? (i := 1223) (by decide +kernel), List.mem_of_getElem? (i := 1451) (by decide +kernel), List.mem_of_getElem? (i := 1452) (by decide +kernel)⟩
theorem lw_p61 : lw_okq (⟨"BottledPostModel", "openNow", "()I"⟩, 34) := ⟨⟨by decide +kernel, by decide +kernel⟩, List.mem_of_getElem? (i := 1223) (by decide +kernel), List.mem_of_getElem? (i := 1455) (by decide +kernel), List.mem_of_getElem? (i := 1456) (by decide +kernel)⟩
theorem lw_p62 : lw_okq (⟨"BottledPostModel", "openAt", "()I"⟩, 34) := ⟨⟨by decide +kernel, by decide +kernel⟩, List.mem_of_getElem? (i := 1223) (by decide +kernel), List.mem_of_getElem? (i := 1459) (by decide +kernel), List.mem_of_getElem? (i := 1460) (by decide +kernel)⟩
theorem lw_p63 : lw_okq (⟨"BottledPostModel", "isCompared", "()Z"⟩, 34) := ⟨⟨by decide +kernel, by decide +kernel⟩, List.mem_of_getElem? (i := 1223) (by decide +kernel), List.mem_of_getElem? (i := 1463) (by decide +kernel), List.mem_of_getElem? (i := 1464) (by decide +kernel)⟩
def lw_privs_4 : List (MethodName × Nat) := [(⟨"BottledPostModel", "byteAt", "(I)I"⟩, 34), (⟨"BottledPostModel", "clause", "()I"⟩, 34), (⟨"BottledPostModel", "sortOf", "()I"⟩, 34), (⟨"BottledPostModel", "isWord", "(J)Z"⟩, 34), (⟨"BottledPostModel", "isCurrent", "()Z"⟩, 34), (⟨"BottledPostModel", "body", "(II)I"⟩, 34), (⟨"BottledPostModel", "pair", "(IIJI)I"⟩, 34), (⟨"BottledPostModel", "figure", "(III)I"⟩, 34), (⟨"BottledPostModel", "worded", "(JIII)I"⟩, 34), (⟨"BottledPostModel", "lawClause", "(I)I"⟩, 34), (⟨"BottledPostModel", "summed", "()I"⟩, 34), (⟨"BottledPostModel", "behindOne", "()I"⟩, 34), (⟨"BottledPostModel", "betweenOf", "()I"⟩, 34), (⟨"BottledPostModel", "openNow", "()I"⟩, 34), (⟨"BottledPostModel", "openAt", "()I"⟩, 34), (⟨"BottledPostModel", "isCompared", "()Z"⟩, 34)]
theorem lw_r4 : ∀ q ∈ lw_privs_4, lw_okq q := List.forall_mem_cons.mpr ⟨lw_p48, List.forall_mem_cons.mpr ⟨lw_p49, List.forall_mem_cons.mpr ⟨lw_p50, List.forall_mem_cons.mpr ⟨lw_p51, List.forall_mem_cons.mpr ⟨lw_p52, List.forall_mem_cons.mpr ⟨lw_p53, List.forall_mem_cons.mpr ⟨lw_p54, List.forall_mem_cons.mpr ⟨lw_p55, List.forall_mem_cons.mpr ⟨lw_p56, List.forall_mem_cons.mpr ⟨lw_p57, List.forall_mem_cons.mpr ⟨lw_p58, List.forall_mem_cons.mpr ⟨lw_p59, List.forall_mem_cons.mpr ⟨lw_p60, List.forall_mem_cons.mpr ⟨lw_p61, List.forall_mem_cons.mpr ⟨lw_p62, List.forall_mem_cons.mpr ⟨lw_p63, fun _ h => absurd h List.not_mem_nil⟩⟩⟩⟩⟩⟩⟩⟩⟩⟩⟩⟩⟩⟩⟩⟩
theorem lw_p64 : lw_okq (⟨"BottledPostModel", "compareOf", "()I"⟩, 34) := ⟨⟨by decide +kernel, by decide +kernel⟩, List.mem_of_getElem? (i := 1223) (by decide +kernel), List.mem_of_getElem? (i := 1470) (by decide +kernel), List.mem_of_getElem? (i := 1471) (by decide +kernel)⟩
theorem lw_p65 : lw_okq (⟨"BottledPostModel", "settle", "(I)V"⟩, 34) := ⟨⟨by decide +kernel, by decide +kernel⟩, List.mem_of_getElem? (i := 1223) (by decide +kernel), List.mem_of_getElem? (i := 1474) (by decide +kernel), List.mem_of_getElem? (i := 1475) (by decide +kernel)⟩
theorem lw_p66 : lw_okq (⟨"BottledPostModel", "emit", "(II)V"⟩, 34) := ⟨⟨by decide +kernel, by decide +kernel⟩, List.mem_of_getElem? (i := 1223) (by decide +kernel), List.mem_of_getElem? (i := 1478) (by decide +kernel), List.mem_of_getElem? (i := 1479) (by decide +kernel)⟩
theorem lw_p67 : lw_okq (⟨"BottledPostModel", "partOf", "(I)I"⟩, 34) := ⟨⟨by decide +kernel, by decide +kernel⟩, List.mem_of_getElem? (i := 1223) (by decide +kernel), List.mem_of_getElem? (i := 1482) (by decide +kernel), List.mem_of_getElem? (i := 1483) (by decide +kernel)⟩
theorem lw_p68 : lw_okq (⟨"BottledPostModel", "endOne", "()I"⟩, 34) := ⟨⟨by decide +kernel, by decide +kernel⟩, List.mem_of_getElem? (i := 1223) (by decide +kernel), List.mem_of_getElem? (i := 1486) (by decide +kernel), List.mem_of_getElem? (i := 1487) (by decide +kernel)⟩
theorem lw_p69 : lw_okq (⟨"BottledPostModel", "beginOne", "()I"⟩, 34) := ⟨⟨by decide +kernel, by decide +kernel⟩, List.mem_of_getElem? (i := 1223) (by decide +kernel), List.mem_of_getElem? (i := 1490) (by decide +kernel), List.mem_of_getElem? (i := 1491) (by decide +kernel)⟩
theorem lw_p70 : lw_okq (⟨"BottledPostModel", "nameOf", "()I"⟩, 34) := ⟨⟨by decide +kernel, by decide +kernel⟩, List.mem_of_getElem? (i := 1223) (by decide +kernel), List.mem_of_getElem? (i := 1494) (by decide +kernel), List.mem_of_getElem? (i := 1495) (by decide +kernel)⟩
theorem lw_p71 : lw_okq (⟨"BottledPostModel", "opened", "(I)I"⟩, 34) := ⟨⟨by decide +kernel, by decide +kernel⟩, List.mem_of_getElem? (i := 1223) (by decide +kernel), List.mem_of_getElem? (i := 1498) (by decide +kernel), List.mem_of_getElem? (i := 1499) (by decide +kernel)⟩
theorem lw_p72 : lw_okq (⟨"BottledPostModel", "isAskAhead", "()Z"⟩, 34) := ⟨⟨by decide +kernel, by decide +kernel⟩, List.mem_of_getElem? (i := 1223) (by decide +kernel), List.mem_of_getElem? (i := 1502) (by decide +kernel), List.mem_of_getElem? (i := 1503) (by decide +kernel)⟩
theorem lw_p73 : lw_okq (⟨"BottledPostModel", "canToss", "(II)Z"⟩, 34) := ⟨⟨by decide +kernel, by decide +kernel⟩, List.mem_of_getElem? (i := 1223) (by decide +kernel), List.mem_of_getElem? (i := 1522) (by decide +kernel), List.mem_of_getElem? (i := 1523) (by decide +kernel)⟩
theorem lw_p74 : lw_okq (⟨"BottledPostModel", "isPerson", "(I)Z"⟩, 34) := ⟨⟨by decide +kernel, by decide +kernel⟩, List.mem_of_getElem? (i := 1223) (by decide +kernel), List.mem_of_getElem? (i := 1526) (by decide +kernel), List.mem_of_getElem? (i := 1527) (by decide +kernel)⟩
theorem lw_p75 : lw_okq (⟨"BottledPostModel", "keep", "()V"⟩, 34) := ⟨⟨by decide +kernel, by decide +kernel⟩, List.mem_of_getElem? (i := 1223) (by decide +kernel), List.mem_of_getElem? (i := 1530) (by decide +kernel), List.mem_of_getElem? (i := 1531) (by decide +kernel)⟩
theorem lw_p76 : lw_okq (⟨"BottledPostModel", "tossNow", "(III)V"⟩, 34) := ⟨⟨by decide +kernel, by decide +kernel⟩, List.mem_of_getElem? (i := 1223) (by decide +kernel), List.mem_of_getElem? (i := 1534) (by decide +kernel), List.mem_of_getElem? (i := 1535) (by decide +kernel)⟩
theorem lw_p77 : lw_okq (⟨"BottledPostModel", "put", "(III)V"⟩, 34) := ⟨⟨by decide +kernel, by decide +kernel⟩, List.mem_of_getElem? (i := 1223) (by decide +kernel), List.mem_of_getElem? (i := 1538) (by decide +kernel), List.mem_of_getElem? (i := 1539) (by decide +kernel)⟩
theorem lw_p78 : lw_okq (⟨"BottledPostModel", "own", "(II)I"⟩, 34) := ⟨⟨by decide +kernel, by decide +kernel⟩, List.mem_of_getElem? (i := 1223) (by decide +kernel), List.mem_of_getElem? (i := 1542) (by decide +kernel), List.mem_of_getElem? (i := 1543) (by decide +kernel)⟩
theorem lw_p79 : lw_okq (⟨"BottledPostModel", "canFish", "(II)Z"⟩, 34) := ⟨⟨by decide +kernel, by decide +kernel⟩, List.mem_of_getElem? (i := 1223) (by decide +kernel), List.mem_of_getElem? (i := 1550) (by decide +kernel), List.mem_of_getElem? (i := 1551) (by decide +kernel)⟩
def lw_privs_5 : List (MethodName × Nat) := [(⟨"BottledPostModel", "compareOf", "()I"⟩, 34), (⟨"BottledPostModel", "settle", "(I)V"⟩, 34), (⟨"BottledPostModel", "emit", "(II)V"⟩, 34), (⟨"BottledPostModel", "partOf", "(I)I"⟩, 34), (⟨"BottledPostModel", "endOne", "()I"⟩, 34), (⟨"BottledPostModel", "beginOne", "()I"⟩, 34), (⟨"BottledPostModel", "nameOf", "()I"⟩, 34), (⟨"BottledPostModel", "opened", "(I)I"⟩, 34), (⟨"BottledPostModel", "isAskAhead", "()Z"⟩, 34), (⟨"BottledPostModel", "canToss", "(II)Z"⟩, 34), (⟨"BottledPostModel", "isPerson", "(I)Z"⟩, 34), (⟨"BottledPostModel", "keep", "()V"⟩, 34), (⟨"BottledPostModel", "tossNow", "(III)V"⟩, 34), (⟨"BottledPostModel", "put", "(III)V"⟩, 34), (⟨"BottledPostModel", "own", "(II)I"⟩, 34), (⟨"BottledPostModel", "canFish", "(II)Z"⟩, 34)]
theorem lw_r5 : ∀ q ∈ lw_privs_5, lw_okq q := List.forall_mem_cons.mpr ⟨lw_p64, List.forall_mem_cons.mpr ⟨lw_p65, List.forall_mem_cons.mpr ⟨lw_p66, List.forall_mem_cons.mpr ⟨lw_p67, List.forall_mem_cons.mpr ⟨lw_p68, List.forall_mem_cons.mpr ⟨lw_p69, List.forall_mem_cons.mpr ⟨lw_p70, List.forall_mem_cons.mpr ⟨lw_p71, List.forall_mem_cons.mpr ⟨lw_p72, List.forall_mem_cons.mpr ⟨lw_p73, List.forall_mem_cons.mpr ⟨lw_p74, List.forall_mem_cons.mpr ⟨lw_p75, List.forall_mem_cons.mpr ⟨lw_p76, List.forall_mem_cons.mpr ⟨lw_p77, List.forall_mem_cons.mpr ⟨lw_p78, List.forall_mem_cons.mpr ⟨lw_p79, fun _ h => absurd h List.not_mem_nil⟩⟩⟩⟩⟩⟩⟩⟩⟩⟩⟩⟩⟩⟩⟩⟩
theorem lw_p80 : lw_okq (⟨"BottledPostModel", "isAfloat", "(I)Z"⟩, 34) := ⟨⟨by decide +kernel, by decide +kernel⟩, List.mem_of_getElem? (i := 1223) (by decide +kernel), List.mem_of_getElem? (i := 1554) (by decide +kernel), List.mem_of_getElem? (i := 1555) (by decide +kernel)⟩
theorem lw_p81 : lw_okq (⟨"BottledPostModel", "isBottle", "(I)Z"⟩, 34) := ⟨⟨by decide +kernel, by decide +kernel⟩, List.mem_of_getElem? (i := 1223) (by decide +kernel), List.mem_of_getElem? (i := 1558) (by decide +kernel), List.mem_of_getElem? (i := 1559) (by decide +kernel)⟩
theorem lw_p82 : lw_okq (⟨"BottledPostModel", "get", "(II)I"⟩, 34) := ⟨⟨by decide +kernel, by decide +kernel⟩, List.mem_of_getElem? (i := 1223) (by decide +kernel), List.mem_of_getElem? (i := 1562) (by decide +kernel), List.mem_of_getElem? (i := 1563) (by decide +kernel)⟩
theorem lw_p83 : lw_okq (⟨"BottledPostModel", "fishNow", "(II)V"⟩, 34) := ⟨⟨by decide +kernel, by decide +kernel⟩, List.mem_of_getElem? (i := 1223) (by decide +kernel), List.mem_of_getElem? (i := 1566) (by decide +kernel), List.mem_of_getElem? (i := 1567) (by decide +kernel)⟩
theorem lw_p84 : lw_okq (⟨"BottledPostModel", "write", "(II)V"⟩, 34) := ⟨⟨by decide +kernel, by decide +kernel⟩, List.mem_of_getElem? (i := 1223) (by decide +kernel), List.mem_of_getElem? (i := 1570) (by decide +kernel), List.mem_of_getElem? (i := 1571) (by decide +kernel)⟩
theorem lw_p85 : lw_okq (⟨"BottledPostModel", "canAgain", "(I)Z"⟩, 34) := ⟨⟨by decide +kernel, by decide +kernel⟩, List.mem_of_getElem? (i := 1223) (by decide +kernel), List.mem_of_getElem? (i := 1578) (by decide +kernel), List.mem_of_getElem? (i := 1579) (by decide +kernel)⟩
theorem lw_p86 : lw_okq (⟨"BottledPostModel", "againNow", "(I)V"⟩, 34) := ⟨⟨by decide +kernel, by decide +kernel⟩, List.mem_of_getElem? (i := 1223) (by decide +kernel), List.mem_of_getElem? (i := 1582) (by decide +kernel), List.mem_of_getElem? (i := 1583) (by decide +kernel)⟩
theorem lw_p87 : lw_okq (⟨"BottledPostModel", "arePassed", "(I)Z"⟩, 34) := ⟨⟨by decide +kernel, by decide +kernel⟩, List.mem_of_getElem? (i := 1223) (by decide +kernel), List.mem_of_getElem? (i := 1590) (by decide +kernel), List.mem_of_getElem? (i := 1591) (by decide +kernel)⟩
theorem lw_p88 : lw_okq (⟨"BottledPostModel", "pass", "()V"⟩, 34) := ⟨⟨by decide +kernel, by decide +kernel⟩, List.mem_of_getElem? (i := 1223) (by decide +kernel), List.mem_of_getElem? (i := 1594) (by decide +kernel), List.mem_of_getElem? (i := 1595) (by decide +kernel)⟩
theorem lw_p89 : lw_okq (⟨"BottledPostModel", "floatOn", "(I)V"⟩, 34) := ⟨⟨by decide +kernel, by decide +kernel⟩, List.mem_of_getElem? (i := 1223) (by decide +kernel), List.mem_of_getElem? (i := 1598) (by decide +kernel), List.mem_of_getElem? (i := 1599) (by decide +kernel)⟩
theorem lw_p90 : lw_okq (⟨"BottledPostModel", "flowsTo", "(II)I"⟩, 34) := ⟨⟨by decide +kernel, by decide +kernel⟩, List.mem_of_getElem? (i := 1223) (by decide +kernel), List.mem_of_getElem? (i := 1602) (by decide +kernel), List.mem_of_getElem? (i := 1603) (by decide +kernel)⟩
theorem lw_p91 : lw_okq (⟨"BottledPostModel", "wearsOf", "(I)I"⟩, 34) := ⟨⟨by decide +kernel, by decide +kernel⟩, List.mem_of_getElem? (i := 1223) (by decide +kernel), List.mem_of_getElem? (i := 1606) (by decide +kernel), List.mem_of_getElem? (i := 1607) (by decide +kernel)⟩
theorem lw_p92 : lw_okq (⟨"BottledPostModel", "name", "(I)V"⟩, 34) := ⟨⟨by decide +kernel, by decide +kernel⟩, List.mem_of_getElem? (i := 1223) (by decide +kernel), List.mem_of_getElem? (i := 1610) (by decide +kernel), List.mem_of_getElem? (i := 1611) (by decide +kernel)⟩
theorem lw_p93 : lw_okq (⟨"BottledPostModel", "afloatAt", "(I)I"⟩, 34) := ⟨⟨by decide +kernel, by decide +kernel⟩, List.mem_of_getElem? (i := 1223) (by decide +kernel), List.mem_of_getElem? (i := 1614) (by decide +kernel), List.mem_of_getElem? (i := 1615) (by decide +kernel)⟩
theorem lw_p94 : lw_okq (⟨"BottledPostModel", "says", "(IIII)I"⟩, 34) := ⟨⟨by decide +kernel, by decide +kernel⟩, List.mem_of_getElem? (i := 1223) (by decide +kernel), List.mem_of_getElem? (i := 1618) (by decide +kernel), List.mem_of_getElem? (i := 1619) (by decide +kernel)⟩
theorem lw_p95 : lw_okq (⟨"BottledPostModel", "summedUp", "(II)J"⟩, 34) := ⟨⟨by decide +kernel, by decide +kernel⟩, List.mem_of_getElem? (i := 1223) (by decide +kernel), List.mem_of_getElem? (i := 1622) (by decide +kernel), List.mem_of_getElem? (i := 1623) (by decide +kernel)⟩
def lw_privs_6 : List (MethodName × Nat) := [(⟨"BottledPostModel", "isAfloat", "(I)Z"⟩, 34), (⟨"BottledPostModel", "isBottle", "(I)Z"⟩, 34), (⟨"BottledPostModel", "get", "(II)I"⟩, 34), (⟨"BottledPostModel", "fishNow", "(II)V"⟩, 34), (⟨"BottledPostModel", "write", "(II)V"⟩, 34), (⟨"BottledPostModel", "canAgain", "(I)Z"⟩, 34), (⟨"BottledPostModel", "againNow", "(I)V"⟩, 34), (⟨"BottledPostModel", "arePassed", "(I)Z"⟩, 34), (⟨"BottledPostModel", "pass", "()V"⟩, 34), (⟨"BottledPostModel", "floatOn", "(I)V"⟩, 34), (⟨"BottledPostModel", "flowsTo", "(II)I"⟩, 34), (⟨"BottledPostModel", "wearsOf", "(I)I"⟩, 34), (⟨"BottledPostModel", "name", "(I)V"⟩, 34), (⟨"BottledPostModel", "afloatAt", "(I)I"⟩, 34), (⟨"BottledPostModel", "says", "(IIII)I"⟩, 34), (⟨"BottledPostModel", "summedUp", "(II)J"⟩, 34)]
theorem lw_r6 : ∀ q ∈ lw_privs_6, lw_okq q := List.forall_mem_cons.mpr ⟨lw_p80, List.forall_mem_cons.mpr ⟨lw_p81, List.forall_mem_cons.mpr ⟨lw_p82, List.forall_mem_cons.mpr ⟨lw_p83, List.forall_mem_cons.mpr ⟨lw_p84, List.forall_mem_cons.mpr ⟨lw_p85, List.forall_mem_cons.mpr ⟨lw_p86, List.forall_mem_cons.mpr ⟨lw_p87, List.forall_mem_cons.mpr ⟨lw_p88, List.forall_mem_cons.mpr ⟨lw_p89, List.forall_mem_cons.mpr ⟨lw_p90, List.forall_mem_cons.mpr ⟨lw_p91, List.forall_mem_cons.mpr ⟨lw_p92, List.forall_mem_cons.mpr ⟨lw_p93, List.forall_mem_cons.mpr ⟨lw_p94, List.forall_mem_cons.mpr ⟨lw_p95, fun _ h => absurd h List.not_mem_nil⟩⟩⟩⟩⟩⟩⟩⟩⟩⟩⟩⟩⟩⟩⟩⟩
theorem lw_p96 : lw_okq (⟨"BottledPostModel", "placesOf", "(J)J"⟩, 34) := ⟨⟨by decide +kernel, by decide +kernel⟩, List.mem_of_getElem? (i := 1223) (by decide +kernel), List.mem_of_getElem? (i := 1626) (by decide +kernel), List.mem_of_getElem? (i := 1627) (by decide +kernel)⟩
theorem lw_p97 : lw_okq (⟨"BottledPostModel", "finish", "(II)V"⟩, 34) := ⟨⟨by decide +kernel, by decide +kernel⟩, List.mem_of_getElem? (i := 1223) (by decide +kernel), List.mem_of_getElem? (i := 1650) (by decide +kernel), List.mem_of_getElem? (i := 1651) (by decide +kernel)⟩
theorem lw_p98 : lw_okq (⟨"BottledPostModel", "comesOf", "(II)I"⟩, 34) := ⟨⟨by decide +kernel, by decide +kernel⟩, List.mem_of_getElem? (i := 1223) (by decide +kernel), List.mem_of_getElem? (i := 1654) (by decide +kernel), List.mem_of_getElem? (i := 1655) (by decide +kernel)⟩
theorem lw_p99 : lw_okq (⟨"BottledPostModel", "anew", "()V"⟩, 34) := ⟨⟨by decide +kernel, by decide +kernel⟩, List.mem_of_getElem? (i := 1223) (by decide +kernel), List.mem_of_getElem? (i := 1658) (by decide +kernel), List.mem_of_getElem? (i := 1659) (by decide +kernel)⟩
theorem lw_p100 : lw_okq (⟨"BottledPostModel", "isPlayed", "(I)Z"⟩, 34) := ⟨⟨by decide +kernel, by decide +kernel⟩, List.mem_of_getElem? (i := 1223) (by decide +kernel), List.mem_of_getElem? (i := 1669) (by decide +kernel), List.mem_of_getElem? (i := 1670) (by decide +kernel)⟩
theorem lw_p101 : lw_okq (⟨"BottledPostModel", "happens", "(I)V"⟩, 34) := ⟨⟨by decide +kernel, by decide +kernel⟩, List.mem_of_getElem? (i := 1223) (by decide +kernel), List.mem_of_getElem? (i := 1682) (by decide +kernel), List.mem_of_getElem? (i := 1683) (by decide +kernel)⟩
theorem lw_p102 : lw_okq (⟨"BottledPostModel", "cameTo", "(I)I"⟩, 34) := ⟨⟨by decide +kernel, by decide +kernel⟩, List.mem_of_getElem? (i := 1223) (by decide +kernel), List.mem_of_getElem? (i := 1690) (by decide +kernel), List.mem_of_getElem? (i := 1691) (by decide +kernel)⟩
theorem lw_p103 : lw_okq (⟨"BottledPostModel", "withHow", "(I)I"⟩, 34) := ⟨⟨by decide +kernel, by decide +kernel⟩, List.mem_of_getElem? (i := 1223) (by decide +kernel), List.mem_of_getElem? (i := 1694) (by decide +kernel), List.mem_of_getElem? (i := 1695) (by decide +kernel)⟩
theorem lw_p104 : lw_okq (⟨"BottledPostModel", "entry", "(II)I"⟩, 34) := ⟨⟨by decide +kernel, by decide +kernel⟩, List.mem_of_getElem? (i := 1223) (by decide +kernel), List.mem_of_getElem? (i := 1714) (by decide +kernel), List.mem_of_getElem? (i := 1715) (by decide +kernel)⟩
theorem lw_p105 : lw_okq (⟨"BottledPostModel", "setAside", "()V"⟩, 34) := ⟨⟨by decide +kernel, by decide +kernel⟩, List.mem_of_getElem? (i := 1223) (by decide +kernel), List.mem_of_getElem? (i := 1742) (by decide +kernel), List.mem_of_getElem? (i := 1743) (by decide +kernel)⟩
theorem lw_p106 : lw_okq (⟨"BottledPostModel", "putBack", "()V"⟩, 34) := ⟨⟨by decide +kernel, by decide +kernel⟩, List.mem_of_getElem? (i := 1223) (by decide +kernel), List.mem_of_getElem? (i := 1746) (by decide +kernel), List.mem_of_getElem? (i := 1747) (by decide +kernel)⟩
theorem lw_p107 : lw_okq (⟨"BottledPostModel", "drifted", "(III)I"⟩, 34) := ⟨⟨by decide +kernel, by decide +kernel⟩, List.mem_of_getElem? (i := 1223) (by decide +kernel), List.mem_of_getElem? (i := 1758) (by decide +kernel), List.mem_of_getElem? (i := 1759) (by decide +kernel)⟩
theorem lw_p108 : lw_okq (⟨"BottledPostModel", "layRelay", "(II)V"⟩, 34) := ⟨⟨by decide +kernel, by decide +kernel⟩, List.mem_of_getElem? (i := 1223) (by decide +kernel), List.mem_of_getElem? (i := 1770) (by decide +kernel), List.mem_of_getElem? (i := 1771) (by decide +kernel)⟩
theorem lw_p109 : lw_okq (⟨"BottledPostModel", "isNextRow", "(IIII)Z"⟩, 34) := ⟨⟨by decide +kernel, by decide +kernel⟩, List.mem_of_getElem? (i := 1223) (by decide +kernel), List.mem_of_getElem? (i := 1775) (by decide +kernel), List.mem_of_getElem? (i := 1776) (by decide +kernel)⟩
theorem lw_p110 : lw_okq (⟨"BottledPostModel", "isNew", "(III)Z"⟩, 34) := ⟨⟨by decide +kernel, by decide +kernel⟩, List.mem_of_getElem? (i := 1223) (by decide +kernel), List.mem_of_getElem? (i := 1779) (by decide +kernel), List.mem_of_getElem? (i := 1780) (by decide +kernel)⟩
theorem lw_p111 : lw_okq (⟨"BottledPostModel", "whenBy", "(III)I"⟩, 34) := ⟨⟨by decide +kernel, by decide +kernel⟩, List.mem_of_getElem? (i := 1223) (by decide +kernel), List.mem_of_getElem? (i := 1783) (by decide +kernel), List.mem_of_getElem? (i := 1784) (by decide +kernel)⟩
def lw_privs_7 : List (MethodName × Nat) := [(⟨"BottledPostModel", "placesOf", "(J)J"⟩, 34), (⟨"BottledPostModel", "finish", "(II)V"⟩, 34), (⟨"BottledPostModel", "comesOf", "(II)I"⟩, 34), (⟨"BottledPostModel", "anew", "()V"⟩, 34), (⟨"BottledPostModel", "isPlayed", "(I)Z"⟩, 34), (⟨"BottledPostModel", "happens", "(I)V"⟩, 34), (⟨"BottledPostModel", "cameTo", "(I)I"⟩, 34), (⟨"BottledPostModel", "withHow", "(I)I"⟩, 34), (⟨"BottledPostModel", "entry", "(II)I"⟩, 34), (⟨"BottledPostModel", "setAside", "()V"⟩, 34), (⟨"BottledPostModel", "putBack", "()V"⟩, 34), (⟨"BottledPostModel", "drifted", "(III)I"⟩, 34), (⟨"BottledPostModel", "layRelay", "(II)V"⟩, 34), (⟨"BottledPostModel", "isNextRow", "(IIII)Z"⟩, 34), (⟨"BottledPostModel", "isNew", "(III)Z"⟩, 34), (⟨"BottledPostModel", "whenBy", "(III)I"⟩, 34)]
theorem lw_r7 : ∀ q ∈ lw_privs_7, lw_okq q := List.forall_mem_cons.mpr ⟨lw_p96, List.forall_mem_cons.mpr ⟨lw_p97, List.forall_mem_cons.mpr ⟨lw_p98, List.forall_mem_cons.mpr ⟨lw_p99, List.forall_mem_cons.mpr ⟨lw_p100, List.forall_mem_cons.mpr ⟨lw_p101, List.forall_mem_cons.mpr ⟨lw_p102, List.forall_mem_cons.mpr ⟨lw_p103, List.forall_mem_cons.mpr ⟨lw_p104, List.forall_mem_cons.mpr ⟨lw_p105, List.forall_mem_cons.mpr ⟨lw_p106, List.forall_mem_cons.mpr ⟨lw_p107, List.forall_mem_cons.mpr ⟨lw_p108, List.forall_mem_cons.mpr ⟨lw_p109, List.forall_mem_cons.mpr ⟨lw_p110, List.forall_mem_cons.mpr ⟨lw_p111, fun _ h => absurd h List.not_mem_nil⟩⟩⟩⟩⟩⟩⟩⟩⟩⟩⟩⟩⟩⟩⟩⟩
theorem lw_p112 : lw_okq (⟨"BottledPostModel", "hopOf", "(III)I"⟩, 34) := ⟨⟨by decide +kernel, by decide +kernel⟩, List.mem_of_getElem? (i := 1223) (by decide +kernel), List.mem_of_getElem? (i := 1787) (by decide +kernel), List.mem_of_getElem? (i := 1788) (by decide +kernel)⟩
theorem lw_p113 : lw_okq (⟨"BottledPostModel", "isFrom", "(II)Z"⟩, 34) := ⟨⟨by decide +kernel, by decide +kernel⟩, List.mem_of_getElem? (i := 1223) (by decide +kernel), List.mem_of_getElem? (i := 1799) (by decide +kernel), List.mem_of_getElem? (i := 1800) (by decide +kernel)⟩
theorem lw_p114 : lw_okq (⟨"BottledPostModel", "shortestTwo", "()I"⟩, 34) := ⟨⟨by decide +kernel, by decide +kernel⟩, List.mem_of_getElem? (i := 1223) (by decide +kernel), List.mem_of_getElem? (i := 1827) (by decide +kernel), List.mem_of_getElem? (i := 1828) (by decide +kernel)⟩
theorem lw_p115 : lw_okq (⟨"BottledPostModel", "isShorter", "(II)Z"⟩, 34) := ⟨⟨by decide +kernel, by decide +kernel⟩, List.mem_of_getElem? (i := 1223) (by decide +kernel), List.mem_of_getElem? (i := 1840) (by decide +kernel), List.mem_of_getElem? (i := 1841) (by decide +kernel)⟩
theorem lw_p116 : lw_okq (⟨"BottledPostModel", "isSpread", "(I)Z"⟩, 34) := ⟨⟨by decide +kernel, by decide +kernel⟩, List.mem_of_getElem? (i := 1223) (by decide +kernel), List.mem_of_getElem? (i := 1844) (by decide +kernel), List.mem_of_getElem? (i := 1845) (by decide +kernel)⟩
theorem lw_p117 : lw_okq (⟨"BottledPostModel", "laySorters", "(I)I"⟩, 34) := ⟨⟨by decide +kernel, by decide +kernel⟩, List.mem_of_getElem? (i := 1223) (by decide +kernel), List.mem_of_getElem? (i := 1867) (by decide +kernel), List.mem_of_getElem? (i := 1868) (by decide +kernel)⟩
theorem lw_p118 : lw_okq (⟨"BottledPostModel", "areSorted", "(II)Z"⟩, 34) := ⟨⟨by decide +kernel, by decide +kernel⟩, List.mem_of_getElem? (i := 1223) (by decide +kernel), List.mem_of_getElem? (i := 1871) (by decide +kernel), List.mem_of_getElem? (i := 1872) (by decide +kernel)⟩
theorem lw_p119 : lw_okq (⟨"BottledPostModel", "canSort", "(I)Z"⟩, 34) := ⟨⟨by decide +kernel, by decide +kernel⟩, List.mem_of_getElem? (i := 1223) (by decide +kernel), List.mem_of_getElem? (i := 1875) (by decide +kernel), List.mem_of_getElem? (i := 1876) (by decide +kernel)⟩
theorem lw_p120 : lw_okq (⟨"BottledPostModel", "countOrders", "(III)J"⟩, 34) := ⟨⟨by decide +kernel, by decide +kernel⟩, List.mem_of_getElem? (i := 1223) (by decide +kernel), List.mem_of_getElem? (i := 1891) (by decide +kernel), List.mem_of_getElem? (i := 1892) (by decide +kernel)⟩
def lw_privs_8 : List (MethodName × Nat) := [(⟨"BottledPostModel", "hopOf", "(III)I"⟩, 34), (⟨"BottledPostModel", "isFrom", "(II)Z"⟩, 34), (⟨"BottledPostModel", "shortestTwo", "()I"⟩, 34), (⟨"BottledPostModel", "isShorter", "(II)Z"⟩, 34), (⟨"BottledPostModel", "isSpread", "(I)Z"⟩, 34), (⟨"BottledPostModel", "laySorters", "(I)I"⟩, 34), (⟨"BottledPostModel", "areSorted", "(II)Z"⟩, 34), (⟨"BottledPostModel", "canSort", "(I)Z"⟩, 34), (⟨"BottledPostModel", "countOrders", "(III)J"⟩, 34)]
theorem lw_r8 : ∀ q ∈ lw_privs_8, lw_okq q := List.forall_mem_cons.mpr ⟨lw_p112, List.forall_mem_cons.mpr ⟨lw_p113, List.forall_mem_cons.mpr ⟨lw_p114, List.forall_mem_cons.mpr ⟨lw_p115, List.forall_mem_cons.mpr ⟨lw_p116, List.forall_mem_cons.mpr ⟨lw_p117, List.forall_mem_cons.mpr ⟨lw_p118, List.forall_mem_cons.mpr ⟨lw_p119, List.forall_mem_cons.mpr ⟨lw_p120, fun _ h => absurd h List.not_mem_nil⟩⟩⟩⟩⟩⟩⟩⟩⟩
def lw_privs : List (MethodName × Nat) := lw_privs_1 ++ (lw_privs_2 ++ (lw_privs_3 ++ (lw_privs_4 ++ (lw_privs_5 ++ (lw_privs_6 ++ (lw_privs_7 ++ (lw_privs_8)))))))
def lw_tbl : List Cond := k2_sels lw_privs ++ tables_1
theorem lw_privs_ok : ∀ q ∈ lw_privs, lw_okq q := by
  show ∀ q ∈ lw_privs_1 ++ (lw_privs_2 ++ (lw_privs_3 ++ (lw_privs_4 ++ (lw_privs_5 ++ (lw_privs_6 ++ (lw_privs_7 ++ (lw_privs_8))))))), lw_okq q
  exact List.forall_mem_append.mpr ⟨lw_r1, List.forall_mem_append.mpr ⟨lw_r2, List.forall_mem_append.mpr ⟨lw_r3, List.forall_mem_append.mpr ⟨lw_r4, List.forall_mem_append.mpr ⟨lw_r5, List.forall_mem_append.mpr ⟨lw_r6, List.forall_mem_append.mpr ⟨lw_r7, lw_r8⟩⟩⟩⟩⟩⟩⟩

/-! ===== BEGIN printed: names, fields, word lists, decode rows ===== -/
def RX0 : String := "BottledPost$Book"
def TX0 : u_T := fun k => match k with
  | 0 => ("BottledPost$Book", "rows", "[I", true)
  | _ => ("BottledPost$Book", "lines", "I", false)
def tyX0 : Nat → FieldType := fun k => match k with
  | 0 => .array .int
  | _ => .int
abbrev wsX00 : List Cond := u_ws RX0 TX0 2
theorem nmX0 : ∀ a, a < 2 → ∀ b, b < 2 → a ≠ b → (TX0 a).2.1 ≠ (TX0 b).2.1 := by decide +kernel
theorem tyX0_ok : ∀ k, k < 2 → parseFieldDescriptor (TX0 k).2.2.1 = some (tyX0 k) := by decide +kernel
abbrev cX0_init : ByteArray := prog_2_method_1_code
def yX0_init : MethodName := ⟨RX0, "<init>", "()V"⟩
abbrev cX0_copyFrom : ByteArray := prog_2_method_2_code
def yX0_copyFrom : MethodName := ⟨RX0, "copyFrom", "(LBottledPost$Book;)V"⟩
abbrev cX0_addLine : ByteArray := prog_2_method_3_code
def yX0_addLine : MethodName := ⟨RX0, "addLine", "(IIII)V"⟩
abbrev cX0_part : ByteArray := prog_2_method_4_code
def yX0_part : MethodName := ⟨RX0, "part", "(II)I"⟩
abbrev cX0_countOf : ByteArray := prog_2_method_5_code
def yX0_countOf : MethodName := ⟨RX0, "countOf", "(I)I"⟩
def RX1 : String := "BottledPost$Grammar"
def TX1 : u_T := fun k => match k with
  | 0 => ("BottledPost$Grammar", "clauses", "[I", true)
  | 1 => ("BottledPost$Grammar", "signs", "[I", true)
  | 2 => ("BottledPost$Grammar", "clauseCount", "I", false)
  | 3 => ("BottledPost$Grammar", "signCount", "I", false)
  | 4 => ("BottledPost$Grammar", "open", "I", false)
  | 5 => ("BottledPost$Grammar", "inWears", "Z", false)
  | 6 => ("BottledPost$Grammar", "comes", "[I", false)
  | 7 => ("BottledPost$Grammar", "wears", "[I", false)
  | 8 => ("BottledPost$Grammar", "fault", "I", false)
  | _ => ("BottledPost$Grammar", "faultPlace", "I", false)
def tyX1 : Nat → FieldType := fun k => match k with
  | 0 => .array .int
  | 1 => .array .int
  | 2 => .int
  | 3 => .int
  | 4 => .int
  | 5 => .boolean
  | 6 => .array .int
  | 7 => .array .int
  | 8 => .int
  | _ => .int
abbrev wsX10 : List Cond := u_ws RX1 TX1 10
theorem nmX1 : ∀ a, a < 10 → ∀ b, b < 10 → a ≠ b → (TX1 a).2.1 ≠ (TX1 b).2.1 := by decide +kernel
theorem tyX1_ok : ∀ k, k < 10 → parseFieldDescriptor (TX1 k).2.2.1 = some (tyX1 k) := by decide +kernel
abbrev cX1_init : ByteArray := prog_3_method_1_code
def yX1_init : MethodName := ⟨RX1, "<init>", "()V"⟩
abbrev cX1_readAll : ByteArray := prog_3_method_2_code
def yX1_readAll : MethodName := ⟨RX1, "readAll", "(LBottledPost$Tape;)LBottledPost$Text;"⟩
abbrev cX1_refuse : ByteArray := prog_3_method_3_code
def yX1_refuse : MethodName := ⟨RX1, "refuse", "(LBottledPost$Tape;I)V"⟩
abbrev cX1_sees : ByteArray := prog_3_method_4_code
def yX1_sees : MethodName := ⟨RX1, "sees", "(LBottledPost$Tape;I)Z"⟩
abbrev cX1_want : ByteArray := prog_3_method_5_code
def yX1_want : MethodName := ⟨RX1, "want", "(LBottledPost$Tape;I)V"⟩
abbrev cX1_canBegin : ByteArray := prog_3_method_6_code
def yX1_canBegin : MethodName := ⟨RX1, "canBegin", "(LBottledPost$Tape;)Z"⟩
abbrev cX1_readClause : ByteArray := prog_3_method_7_code
def yX1_readClause : MethodName := ⟨RX1, "readClause", "(LBottledPost$Tape;)V"⟩
abbrev cX1_endLaw : ByteArray := prog_3_method_8_code
def yX1_endLaw : MethodName := ⟨RX1, "endLaw", "()V"⟩
abbrev cX1_notePart : ByteArray := prog_3_method_9_code
def yX1_notePart : MethodName := ⟨RX1, "notePart", "(II)V"⟩
abbrev cX1_readNumbers : ByteArray := prog_3_method_10_code
def yX1_readNumbers : MethodName := ⟨RX1, "readNumbers", "(LBottledPost$Tape;I)V"⟩
abbrev cX1_readNumber : ByteArray := prog_3_method_11_code
def yX1_readNumber : MethodName := ⟨RX1, "readNumber", "(LBottledPost$Tape;III)V"⟩
abbrev cX1_addSign : ByteArray := prog_3_method_12_code
def yX1_addSign : MethodName := ⟨RX1, "addSign", "(II)I"⟩
abbrev cX1_leadHere : ByteArray := prog_3_method_13_code
def yX1_leadHere : MethodName := ⟨RX1, "leadHere", "(II)V"⟩
abbrev cX1_readSum : ByteArray := prog_3_method_14_code
def yX1_readSum : MethodName := ⟨RX1, "readSum", "(LBottledPost$Tape;)V"⟩
abbrev cX1_readProduct : ByteArray := prog_3_method_15_code
def yX1_readProduct : MethodName := ⟨RX1, "readProduct", "(LBottledPost$Tape;)V"⟩
abbrev cX1_readOne : ByteArray := prog_3_method_16_code
def yX1_readOne : MethodName := ⟨RX1, "readOne", "(LBottledPost$Tape;)V"⟩
abbrev cX1_isOpener : ByteArray := prog_3_method_17_code
def yX1_isOpener : MethodName := ⟨RX1, "isOpener", "(I)Z"⟩
abbrev cX1_readPlainNumber : ByteArray := prog_3_method_18_code
def yX1_readPlainNumber : MethodName := ⟨RX1, "readPlainNumber", "(LBottledPost$Tape;)V"⟩
abbrev cX1_readName : ByteArray := prog_3_method_19_code
def yX1_readName : MethodName := ⟨RX1, "readName", "(LBottledPost$Tape;)V"⟩
abbrev cX1_readOpened : ByteArray := prog_3_method_20_code
def yX1_readOpened : MethodName := ⟨RX1, "readOpened", "(LBottledPost$Tape;)V"⟩
abbrev cX1_readIf : ByteArray := prog_3_method_21_code
def yX1_readIf : MethodName := ⟨RX1, "readIf", "(LBottledPost$Tape;)V"⟩
abbrev cX1_readEither : ByteArray := prog_3_method_22_code
def yX1_readEither : MethodName := ⟨RX1, "readEither", "(LBottledPost$Tape;)V"⟩
abbrev cX1_readBoth : ByteArray := prog_3_method_23_code
def yX1_readBoth : MethodName := ⟨RX1, "readBoth", "(LBottledPost$Tape;)V"⟩
abbrev cX1_readAsk : ByteArray := prog_3_method_24_code
def yX1_readAsk : MethodName := ⟨RX1, "readAsk", "(LBottledPost$Tape;)V"⟩
abbrev cX1_readDenied : ByteArray := prog_3_method_25_code
def yX1_readDenied : MethodName := ⟨RX1, "readDenied", "(LBottledPost$Tape;)V"⟩
abbrev cX1_readComparison : ByteArray := prog_3_method_26_code
def yX1_readComparison : MethodName := ⟨RX1, "readComparison", "(LBottledPost$Tape;)V"⟩
def RX2 : String := "BottledPost$Laws"
def TX2 : u_T := fun k => match k with
  | 0 => ("BottledPost$Laws", "stack", "[I", true)
  | _ => ("BottledPost$Laws", "top", "I", false)
def tyX2 : Nat → FieldType := fun k => match k with
  | 0 => .array .int
  | _ => .int
abbrev wsX20 : List Cond := u_ws RX2 TX2 2
theorem nmX2 : ∀ a, a < 2 → ∀ b, b < 2 → a ≠ b → (TX2 a).2.1 ≠ (TX2 b).2.1 := by decide +kernel
theorem tyX2_ok : ∀ k, k < 2 → parseFieldDescriptor (TX2 k).2.2.1 = some (tyX2 k) := by decide +kernel
abbrev cX2_init : ByteArray := prog_4_method_1_code
def yX2_init : MethodName := ⟨RX2, "<init>", "()V"⟩
abbrev cX2_sign : ByteArray := prog_4_method_2_code
def yX2_sign : MethodName := ⟨RX2, "sign", "(II)I"⟩
abbrev cX2_passTide : ByteArray := prog_4_method_3_code
def yX2_passTide : MethodName := ⟨RX2, "passTide", "(LBottledPost$Sea;LBottledPost$Shore;LBottledPost$Text;)I"⟩
abbrev cX2_comesOf : ByteArray := prog_4_method_4_code
def yX2_comesOf : MethodName := ⟨RX2, "comesOf", "(LBottledPost$Text;LBottledPost$Sea;LBottledPost$Shore;I)I"⟩
abbrev cX2_wearsOf : ByteArray := prog_4_method_5_code
def yX2_wearsOf : MethodName := ⟨RX2, "wearsOf", "(LBottledPost$Text;LBottledPost$Sea;LBottledPost$Shore;I)I"⟩
abbrev cX2_workOff : ByteArray := prog_4_method_6_code
def yX2_workOff : MethodName := ⟨RX2, "workOff", "([ILBottledPost$Sea;LBottledPost$Shore;I)I"⟩
abbrev cX2_push : ByteArray := prog_4_method_7_code
def yX2_push : MethodName := ⟨RX2, "push", "(I)V"⟩
abbrev cX2_pop : ByteArray := prog_4_method_8_code
def yX2_pop : MethodName := ⟨RX2, "pop", "()I"⟩
abbrev cX2_named : ByteArray := prog_4_method_9_code
def yX2_named : MethodName := ⟨RX2, "named", "(ILBottledPost$Sea;LBottledPost$Shore;I)I"⟩
abbrev cX2_joined : ByteArray := prog_4_method_10_code
def yX2_joined : MethodName := ⟨RX2, "joined", "(III)I"⟩
abbrev cX2_limited : ByteArray := prog_4_method_11_code
def yX2_limited : MethodName := ⟨RX2, "limited", "(J)I"⟩
abbrev cX2_compares : ByteArray := prog_4_method_12_code
def yX2_compares : MethodName := ⟨RX2, "compares", "(III)Z"⟩
def RX3 : String := "BottledPost$Riddles"
def TX3 : u_T := fun k => match k with
  | 0 => ("BottledPost$Riddles", "least", "[I", true)
  | 1 => ("BottledPost$Riddles", "readings", "[J", true)
  | 2 => ("BottledPost$Riddles", "sorters", "[I", true)
  | 3 => ("BottledPost$Riddles", "orderings", "[J", true)
  | 4 => ("BottledPost$Riddles", "shortest", "I", false)
  | _ => ("BottledPost$Riddles", "nearer", "Z", false)
def tyX3 : Nat → FieldType := fun k => match k with
  | 0 => .array .int
  | 1 => .array .long
  | 2 => .array .int
  | 3 => .array .long
  | 4 => .int
  | _ => .boolean
abbrev wsX30 : List Cond := u_ws RX3 TX3 6
theorem nmX3 : ∀ a, a < 6 → ∀ b, b < 6 → a ≠ b → (TX3 a).2.1 ≠ (TX3 b).2.1 := by decide +kernel
theorem tyX3_ok : ∀ k, k < 6 → parseFieldDescriptor (TX3 k).2.2.1 = some (tyX3 k) := by decide +kernel
abbrev cX3_init : ByteArray := prog_5_method_1_code
def yX3_init : MethodName := ⟨RX3, "<init>", "()V"⟩
abbrev cX3_isWord : ByteArray := prog_5_method_2_code
def yX3_isWord : MethodName := ⟨RX3, "isWord", "(I)Z"⟩
abbrev cX3_tenTo : ByteArray := prog_5_method_3_code
def yX3_tenTo : MethodName := ⟨RX3, "tenTo", "(I)I"⟩
abbrev cX3_withoutLast : ByteArray := prog_5_method_4_code
def yX3_withoutLast : MethodName := ⟨RX3, "withoutLast", "(II)I"⟩
abbrev cX3_lastOf : ByteArray := prog_5_method_5_code
def yX3_lastOf : MethodName := ⟨RX3, "lastOf", "(II)I"⟩
abbrev cX3_digitsOf : ByteArray := prog_5_method_6_code
def yX3_digitsOf : MethodName := ⟨RX3, "digitsOf", "(I)I"⟩
abbrev cX3_startsWith : ByteArray := prog_5_method_7_code
def yX3_startsWith : MethodName := ⟨RX3, "startsWith", "(II)Z"⟩
abbrev cX3_shortestUnclear : ByteArray := prog_5_method_8_code
def yX3_shortestUnclear : MethodName := ⟨RX3, "shortestUnclear", "(LBottledPost$Sayings;)I"⟩
abbrev cX3_passOver : ByteArray := prog_5_method_9_code
def yX3_passOver : MethodName := ⟨RX3, "passOver", "(LBottledPost$Sayings;)V"⟩
abbrev cX3_putBehind : ByteArray := prog_5_method_10_code
def yX3_putBehind : MethodName := ⟨RX3, "putBehind", "(LBottledPost$Sayings;IIII)V"⟩
abbrev cX3_come : ByteArray := prog_5_method_11_code
def yX3_come : MethodName := ⟨RX3, "come", "(III)V"⟩
abbrev cX3_countReadings : ByteArray := prog_5_method_12_code
def yX3_countReadings : MethodName := ⟨RX3, "countReadings", "(LBottledPost$Sayings;I)J"⟩
abbrev cX3_fewestSorters : ByteArray := prog_5_method_13_code
def yX3_fewestSorters : MethodName := ⟨RX3, "fewestSorters", "(LBottledPost$Sayings;I)I"⟩
abbrev cX3_sorterOf : ByteArray := prog_5_method_14_code
def yX3_sorterOf : MethodName := ⟨RX3, "sorterOf", "(I)I"⟩
abbrev cX3_share : ByteArray := prog_5_method_15_code
def yX3_share : MethodName := ⟨RX3, "share", "(LBottledPost$Sayings;[IIII)Z"⟩
abbrev cX3_mayRead : ByteArray := prog_5_method_16_code
def yX3_mayRead : MethodName := ⟨RX3, "mayRead", "(LBottledPost$Sayings;[III)Z"⟩
abbrev cX3_countOrders : ByteArray := prog_5_method_17_code
def yX3_countOrders : MethodName := ⟨RX3, "countOrders", "(LBottledPost$Sayings;III)J"⟩
def RX4 : String := "BottledPost$Routes"
def TX4 : u_T := fun k => match k with
  | 0 => ("BottledPost$Routes", "waited", "I", false)
  | 1 => ("BottledPost$Routes", "between", "[I", true)
  | 2 => ("BottledPost$Routes", "best", "[I", true)
  | 3 => ("BottledPost$Routes", "bestCount", "I", false)
  | 4 => ("BottledPost$Routes", "bestTime", "I", false)
  | 5 => ("BottledPost$Routes", "goal", "I", false)
  | _ => ("BottledPost$Routes", "wanted", "I", false)
def tyX4 : Nat → FieldType := fun k => match k with
  | 0 => .int
  | 1 => .array .int
  | 2 => .array .int
  | 3 => .int
  | 4 => .int
  | 5 => .int
  | _ => .int
abbrev wsX40 : List Cond := u_ws RX4 TX4 7
theorem nmX4 : ∀ a, a < 7 → ∀ b, b < 7 → a ≠ b → (TX4 a).2.1 ≠ (TX4 b).2.1 := by decide +kernel
theorem tyX4_ok : ∀ k, k < 7 → parseFieldDescriptor (TX4 k).2.2.1 = some (tyX4 k) := by decide +kernel
abbrev cX4_init : ByteArray := prog_6_method_1_code
def yX4_init : MethodName := ⟨RX4, "<init>", "()V"⟩
abbrev cX4_meet : ByteArray := prog_6_method_2_code
def yX4_meet : MethodName := ⟨RX4, "meet", "(LBottledPost$Shore;IIII)I"⟩
abbrev cX4_relayTime : ByteArray := prog_6_method_3_code
def yX4_relayTime : MethodName := ⟨RX4, "relayTime", "(LBottledPost$Shore;III)I"⟩
abbrev cX4_bestBetween : ByteArray := prog_6_method_4_code
def yX4_bestBetween : MethodName := ⟨RX4, "bestBetween", "(I)I"⟩
abbrev cX4_goOn : ByteArray := prog_6_method_5_code
def yX4_goOn : MethodName := ⟨RX4, "goOn", "(LBottledPost$Shore;IIIII)V"⟩
abbrev cX4_goBy : ByteArray := prog_6_method_6_code
def yX4_goBy : MethodName := ⟨RX4, "goBy", "(ILBottledPost$Shore;IIIII)V"⟩
abbrev cX4_arrive : ByteArray := prog_6_method_7_code
def yX4_arrive : MethodName := ⟨RX4, "arrive", "(LBottledPost$Shore;III)V"⟩
def RX5 : String := "BottledPost$Sayings"
def TX5 : u_T := fun k => match k with
  | 0 => ("BottledPost$Sayings", "foundPlaces", "[I", true)
  | 1 => ("BottledPost$Sayings", "foundTides", "[I", true)
  | 2 => ("BottledPost$Sayings", "words", "[I", true)
  | 3 => ("BottledPost$Sayings", "unlike", "[I", true)
  | 4 => ("BottledPost$Sayings", "earlier", "[I", true)
  | 5 => ("BottledPost$Sayings", "saidBottles", "[I", true)
  | 6 => ("BottledPost$Sayings", "saidComings", "[I", true)
  | 7 => ("BottledPost$Sayings", "founds", "I", false)
  | 8 => ("BottledPost$Sayings", "codes", "I", false)
  | 9 => ("BottledPost$Sayings", "saids", "I", false)
  | 10 => ("BottledPost$Sayings", "oddsCome", "I", false)
  | _ => ("BottledPost$Sayings", "oddsSink", "I", false)
def tyX5 : Nat → FieldType := fun k => match k with
  | 0 => .array .int
  | 1 => .array .int
  | 2 => .array .int
  | 3 => .array .int
  | 4 => .array .int
  | 5 => .array .int
  | 6 => .array .int
  | 7 => .int
  | 8 => .int
  | 9 => .int
  | 10 => .int
  | _ => .int
abbrev wsX50 : List Cond := u_ws RX5 TX5 12
theorem nmX5 : ∀ a, a < 12 → ∀ b, b < 12 → a ≠ b → (TX5 a).2.1 ≠ (TX5 b).2.1 := by decide +kernel
theorem tyX5_ok : ∀ k, k < 12 → parseFieldDescriptor (TX5 k).2.2.1 = some (tyX5 k) := by decide +kernel
abbrev cX5_init : ByteArray := prog_7_method_1_code
def yX5_init : MethodName := ⟨RX5, "<init>", "()V"⟩
abbrev cX5_copyFrom : ByteArray := prog_7_method_2_code
def yX5_copyFrom : MethodName := ⟨RX5, "copyFrom", "(LBottledPost$Sayings;)V"⟩
abbrev cX5_forgetFound : ByteArray := prog_7_method_3_code
def yX5_forgetFound : MethodName := ⟨RX5, "forgetFound", "()I"⟩
abbrev cX5_addFound : ByteArray := prog_7_method_4_code
def yX5_addFound : MethodName := ⟨RX5, "addFound", "(II)I"⟩
abbrev cX5_allFoundFrom : ByteArray := prog_7_method_5_code
def yX5_allFoundFrom : MethodName := ⟨RX5, "allFoundFrom", "(LBottledPost$Shore;II)Z"⟩
abbrev cX5_forgetCodes : ByteArray := prog_7_method_6_code
def yX5_forgetCodes : MethodName := ⟨RX5, "forgetCodes", "()I"⟩
abbrev cX5_addCode : ByteArray := prog_7_method_7_code
def yX5_addCode : MethodName := ⟨RX5, "addCode", "(I)I"⟩
abbrev cX5_word : ByteArray := prog_7_method_8_code
def yX5_word : MethodName := ⟨RX5, "word", "(I)I"⟩
abbrev cX5_addHalves : ByteArray := prog_7_method_9_code
def yX5_addHalves : MethodName := ⟨RX5, "addHalves", "(II)Z"⟩
abbrev cX5_unlikeOf : ByteArray := prog_7_method_10_code
def yX5_unlikeOf : MethodName := ⟨RX5, "unlikeOf", "(I)I"⟩
abbrev cX5_addWrites : ByteArray := prog_7_method_11_code
def yX5_addWrites : MethodName := ⟨RX5, "addWrites", "(II)Z"⟩
abbrev cX5_earlierThan : ByteArray := prog_7_method_12_code
def yX5_earlierThan : MethodName := ⟨RX5, "earlierThan", "(I)I"⟩
abbrev cX5_areUnlikeLetters : ByteArray := prog_7_method_13_code
def yX5_areUnlikeLetters : MethodName := ⟨RX5, "areUnlikeLetters", "(II)Z"⟩
abbrev cX5_forgetSaid : ByteArray := prog_7_method_14_code
def yX5_forgetSaid : MethodName := ⟨RX5, "forgetSaid", "()I"⟩
abbrev cX5_addSaid : ByteArray := prog_7_method_15_code
def yX5_addSaid : MethodName := ⟨RX5, "addSaid", "(II)I"⟩
abbrev cX5_saidBottle : ByteArray := prog_7_method_16_code
def yX5_saidBottle : MethodName := ⟨RX5, "saidBottle", "(I)I"⟩
abbrev cX5_saidComes : ByteArray := prog_7_method_17_code
def yX5_saidComes : MethodName := ⟨RX5, "saidComes", "(I)I"⟩
def RX6 : String := "BottledPost$Sea"
def TX6 : u_T := fun k => match k with
  | 0 => ("BottledPost$Sea", "rows", "[I", true)
  | 1 => ("BottledPost$Sea", "book", "LBottledPost$Book;", true)
  | 2 => ("BottledPost$Sea", "bottles", "I", false)
  | 3 => ("BottledPost$Sea", "tide", "I", false)
  | _ => ("BottledPost$Sea", "x", "I", false)
def tyX6 : Nat → FieldType := fun k => match k with
  | 0 => .array .int
  | 1 => .object "BottledPost$Book"
  | 2 => .int
  | 3 => .int
  | _ => .int
abbrev wsX60 : List Cond := u_ws RX6 TX6 5
theorem nmX6 : ∀ a, a < 5 → ∀ b, b < 5 → a ≠ b → (TX6 a).2.1 ≠ (TX6 b).2.1 := by decide +kernel
theorem tyX6_ok : ∀ k, k < 5 → parseFieldDescriptor (TX6 k).2.2.1 = some (tyX6 k) := by decide +kernel
abbrev cX6_init : ByteArray := prog_8_method_1_code
def yX6_init : MethodName := ⟨RX6, "<init>", "()V"⟩
abbrev cX6_copyFrom : ByteArray := prog_8_method_2_code
def yX6_copyFrom : MethodName := ⟨RX6, "copyFrom", "(LBottledPost$Sea;)V"⟩
abbrev cX6_get : ByteArray := prog_8_method_3_code
def yX6_get : MethodName := ⟨RX6, "get", "(II)I"⟩
abbrev cX6_set : ByteArray := prog_8_method_4_code
def yX6_set : MethodName := ⟨RX6, "set", "(III)V"⟩
abbrev cX6_hasBottle : ByteArray := prog_8_method_5_code
def yX6_hasBottle : MethodName := ⟨RX6, "hasBottle", "(I)Z"⟩
abbrev cX6_isAfloat : ByteArray := prog_8_method_6_code
def yX6_isAfloat : MethodName := ⟨RX6, "isAfloat", "(I)Z"⟩
abbrev cX6_addBottle : ByteArray := prog_8_method_7_code
def yX6_addBottle : MethodName := ⟨RX6, "addBottle", "(IIII)I"⟩
abbrev cX6_draw : ByteArray := prog_8_method_8_code
def yX6_draw : MethodName := ⟨RX6, "draw", "()I"⟩
abbrev cX6_writeDown : ByteArray := prog_8_method_9_code
def yX6_writeDown : MethodName := ⟨RX6, "writeDown", "(II)V"⟩
abbrev cX6_countComeTo : ByteArray := prog_8_method_10_code
def yX6_countComeTo : MethodName := ⟨RX6, "countComeTo", "(I)I"⟩
abbrev cX6_countAfloatAt : ByteArray := prog_8_method_11_code
def yX6_countAfloatAt : MethodName := ⟨RX6, "countAfloatAt", "(I)I"⟩
abbrev cX6_bottlesThatAre : ByteArray := prog_8_method_12_code
def yX6_bottlesThatAre : MethodName := ⟨RX6, "bottlesThatAre", "(I)I"⟩
def RX7 : String := "BottledPost$Shore"
def TX7 : u_T := fun k => match k with
  | 0 => ("BottledPost$Shore", "places", "[I", true)
  | 1 => ("BottledPost$Shore", "lucks", "[I", true)
  | 2 => ("BottledPost$Shore", "leads", "[I", true)
  | _ => ("BottledPost$Shore", "persons", "I", false)
def tyX7 : Nat → FieldType := fun k => match k with
  | 0 => .array .int
  | 1 => .array .int
  | 2 => .array .int
  | _ => .int
abbrev wsX70 : List Cond := u_ws RX7 TX7 4
theorem nmX7 : ∀ a, a < 4 → ∀ b, b < 4 → a ≠ b → (TX7 a).2.1 ≠ (TX7 b).2.1 := by decide +kernel
theorem tyX7_ok : ∀ k, k < 4 → parseFieldDescriptor (TX7 k).2.2.1 = some (tyX7 k) := by decide +kernel
abbrev cX7_init : ByteArray := prog_9_method_1_code
def yX7_init : MethodName := ⟨RX7, "<init>", "()V"⟩
abbrev cX7_copyFrom : ByteArray := prog_9_method_2_code
def yX7_copyFrom : MethodName := ⟨RX7, "copyFrom", "(LBottledPost$Shore;)V"⟩
abbrev cX7_addPerson : ByteArray := prog_9_method_3_code
def yX7_addPerson : MethodName := ⟨RX7, "addPerson", "(II)I"⟩
abbrev cX7_tellCurrent : ByteArray := prog_9_method_4_code
def yX7_tellCurrent : MethodName := ⟨RX7, "tellCurrent", "(III)Z"⟩
abbrev cX7_hasPerson : ByteArray := prog_9_method_5_code
def yX7_hasPerson : MethodName := ⟨RX7, "hasPerson", "(I)Z"⟩
abbrev cX7_placeOf : ByteArray := prog_9_method_6_code
def yX7_placeOf : MethodName := ⟨RX7, "placeOf", "(I)I"⟩
abbrev cX7_luckOf : ByteArray := prog_9_method_7_code
def yX7_luckOf : MethodName := ⟨RX7, "luckOf", "(I)I"⟩
abbrev cX7_isInhabited : ByteArray := prog_9_method_8_code
def yX7_isInhabited : MethodName := ⟨RX7, "isInhabited", "(I)Z"⟩
abbrev cX7_leadsTo : ByteArray := prog_9_method_9_code
def yX7_leadsTo : MethodName := ⟨RX7, "leadsTo", "(II)I"⟩
abbrev cX7_driftsTo : ByteArray := prog_9_method_10_code
def yX7_driftsTo : MethodName := ⟨RX7, "driftsTo", "(III)I"⟩
def RX8 : String := "BottledPost$Steps"
def TX8 : u_T := fun k => match k with
  | 0 => ("BottledPost$Steps", "seas", "[LBottledPost$Sea;", true)
  | _ => ("BottledPost$Steps", "count", "I", false)
def tyX8 : Nat → FieldType := fun k => match k with
  | 0 => .array (.object "BottledPost$Sea")
  | _ => .int
abbrev wsX80 : List Cond := u_ws RX8 TX8 2
theorem nmX8 : ∀ a, a < 2 → ∀ b, b < 2 → a ≠ b → (TX8 a).2.1 ≠ (TX8 b).2.1 := by decide +kernel
theorem tyX8_ok : ∀ k, k < 2 → parseFieldDescriptor (TX8 k).2.2.1 = some (tyX8 k) := by decide +kernel
abbrev cX8_init : ByteArray := prog_10_method_1_code
def yX8_init : MethodName := ⟨RX8, "<init>", "()V"⟩
abbrev cX8_copyFrom : ByteArray := prog_10_method_2_code
def yX8_copyFrom : MethodName := ⟨RX8, "copyFrom", "(LBottledPost$Steps;)V"⟩
abbrev cX8_seaOf : ByteArray := prog_10_method_3_code
def yX8_seaOf : MethodName := ⟨RX8, "seaOf", "(I)LBottledPost$Sea;"⟩
abbrev cX8_keep : ByteArray := prog_10_method_4_code
def yX8_keep : MethodName := ⟨RX8, "keep", "(LBottledPost$Sea;)V"⟩
abbrev cX8_forgetEldest : ByteArray := prog_10_method_5_code
def yX8_forgetEldest : MethodName := ⟨RX8, "forgetEldest", "()V"⟩
abbrev cX8_takeBack : ByteArray := prog_10_method_6_code
def yX8_takeBack : MethodName := ⟨RX8, "takeBack", "(LBottledPost$Sea;)I"⟩
def RX9 : String := "BottledPost$Tape"
def TX9 : u_T := fun k => match k with
  | 0 => ("BottledPost$Tape", "bytes", "[I", true)
  | 1 => ("BottledPost$Tape", "length", "I", false)
  | 2 => ("BottledPost$Tape", "kind", "I", false)
  | 3 => ("BottledPost$Tape", "start", "I", false)
  | 4 => ("BottledPost$Tape", "value", "I", false)
  | _ => ("BottledPost$Tape", "next", "I", false)
def tyX9 : Nat → FieldType := fun k => match k with
  | 0 => .array .int
  | 1 => .int
  | 2 => .int
  | 3 => .int
  | 4 => .int
  | _ => .int
abbrev wsX90 : List Cond := u_ws RX9 TX9 6
theorem nmX9 : ∀ a, a < 6 → ∀ b, b < 6 → a ≠ b → (TX9 a).2.1 ≠ (TX9 b).2.1 := by decide +kernel
theorem tyX9_ok : ∀ k, k < 6 → parseFieldDescriptor (TX9 k).2.2.1 = some (tyX9 k) := by decide +kernel
abbrev cX9_init : ByteArray := prog_11_method_1_code
def yX9_init : MethodName := ⟨RX9, "<init>", "()V"⟩
abbrev cX9_hasRoom : ByteArray := prog_11_method_2_code
def yX9_hasRoom : MethodName := ⟨RX9, "hasRoom", "(I)Z"⟩
abbrev cX9_addFour : ByteArray := prog_11_method_3_code
def yX9_addFour : MethodName := ⟨RX9, "addFour", "(I)V"⟩
abbrev cX9_comeToFirst : ByteArray := prog_11_method_4_code
def yX9_comeToFirst : MethodName := ⟨RX9, "comeToFirst", "()V"⟩
abbrev cX9_comeToNext : ByteArray := prog_11_method_5_code
def yX9_comeToNext : MethodName := ⟨RX9, "comeToNext", "()V"⟩
abbrev cX9_byteAt : ByteArray := prog_11_method_6_code
def yX9_byteAt : MethodName := ⟨RX9, "byteAt", "(I)I"⟩
abbrev cX9_isDigit : ByteArray := prog_11_method_7_code
def yX9_isDigit : MethodName := ⟨RX9, "isDigit", "(I)Z"⟩
abbrev cX9_isLetter : ByteArray := prog_11_method_8_code
def yX9_isLetter : MethodName := ⟨RX9, "isLetter", "(I)Z"⟩
abbrev cX9_readNumber : ByteArray := prog_11_method_9_code
def yX9_readNumber : MethodName := ⟨RX9, "readNumber", "()V"⟩
abbrev cX9_readWord : ByteArray := prog_11_method_10_code
def yX9_readWord : MethodName := ⟨RX9, "readWord", "()V"⟩
abbrev cX9_readSign : ByteArray := prog_11_method_11_code
def yX9_readSign : MethodName := ⟨RX9, "readSign", "(I)V"⟩
abbrev cX9_signKind : ByteArray := prog_11_method_12_code
def yX9_signKind : MethodName := ⟨RX9, "signKind", "(I)I"⟩
def RX10 : String := "BottledPost$Text"
def TX10 : u_T := fun k => match k with
  | 0 => ("BottledPost$Text", "clauses", "[I", true)
  | 1 => ("BottledPost$Text", "comes", "[I", true)
  | _ => ("BottledPost$Text", "wears", "[I", true)
def tyX10 : Nat → FieldType := fun k => match k with
  | 0 => .array .int
  | 1 => .array .int
  | _ => .array .int
abbrev wsX100 : List Cond := u_ws RX10 TX10 3
theorem nmX10 : ∀ a, a < 3 → ∀ b, b < 3 → a ≠ b → (TX10 a).2.1 ≠ (TX10 b).2.1 := by decide +kernel
theorem tyX10_ok : ∀ k, k < 3 → parseFieldDescriptor (TX10 k).2.2.1 = some (tyX10 k) := by decide +kernel
abbrev cX10_init : ByteArray := prog_12_method_1_code
def yX10_init : MethodName := ⟨RX10, "<init>", "([I[I[I)V"⟩
abbrev cX10_countClauses : ByteArray := prog_12_method_2_code
def yX10_countClauses : MethodName := ⟨RX10, "countClauses", "()I"⟩
abbrev cX10_part : ByteArray := prog_12_method_3_code
def yX10_part : MethodName := ⟨RX10, "part", "(II)I"⟩
def RX11 : String := "BottledPost$World"
def TX11 : u_T := fun k => match k with
  | 0 => ("BottledPost$World", "shore", "LBottledPost$Shore;", true)
  | 1 => ("BottledPost$World", "sea", "LBottledPost$Sea;", true)
  | 2 => ("BottledPost$World", "steps", "LBottledPost$Steps;", true)
  | 3 => ("BottledPost$World", "sayings", "LBottledPost$Sayings;", true)
  | 4 => ("BottledPost$World", "scripts", "[LBottledPost$Text;", true)
  | 5 => ("BottledPost$World", "texts", "I", false)
  | _ => ("BottledPost$World", "ruling", "I", false)
def tyX11 : Nat → FieldType := fun k => match k with
  | 0 => .object "BottledPost$Shore"
  | 1 => .object "BottledPost$Sea"
  | 2 => .object "BottledPost$Steps"
  | 3 => .object "BottledPost$Sayings"
  | 4 => .array (.object "BottledPost$Text")
  | 5 => .int
  | _ => .int
abbrev wsX110 : List Cond := u_ws RX11 TX11 7
theorem nmX11 : ∀ a, a < 7 → ∀ b, b < 7 → a ≠ b → (TX11 a).2.1 ≠ (TX11 b).2.1 := by decide +kernel
theorem tyX11_ok : ∀ k, k < 7 → parseFieldDescriptor (TX11 k).2.2.1 = some (tyX11 k) := by decide +kernel
abbrev cX11_init : ByteArray := prog_13_method_1_code
def yX11_init : MethodName := ⟨RX11, "<init>", "()V"⟩
abbrev cX11_copyFrom : ByteArray := prog_13_method_2_code
def yX11_copyFrom : MethodName := ⟨RX11, "copyFrom", "(LBottledPost$World;)V"⟩
abbrev cX11_addText : ByteArray := prog_13_method_3_code
def yX11_addText : MethodName := ⟨RX11, "addText", "(LBottledPost$Text;)I"⟩
abbrev cX11_textOf : ByteArray := prog_13_method_4_code
def yX11_textOf : MethodName := ⟨RX11, "textOf", "(I)LBottledPost$Text;"⟩
abbrev cX11_rules : ByteArray := prog_13_method_5_code
def yX11_rules : MethodName := ⟨RX11, "rules", "()LBottledPost$Text;"⟩
def RX12 : String := "BottledPost"
def TX12 : u_T := fun k => match k with
  | 0 => ("BottledPost", "now", "LBottledPost$World;", true)
  | 1 => ("BottledPost", "kept", "LBottledPost$World;", true)
  | 2 => ("BottledPost", "tape", "LBottledPost$Tape;", true)
  | 3 => ("BottledPost", "grammar", "LBottledPost$Grammar;", true)
  | 4 => ("BottledPost", "laws", "LBottledPost$Laws;", true)
  | 5 => ("BottledPost", "routes", "LBottledPost$Routes;", true)
  | 6 => ("BottledPost", "riddles", "LBottledPost$Riddles;", true)
  | 7 => ("BottledPost", "glass", "LBottledPost$Sea;", true)
  | 8 => ("BottledPost", "latestFault", "I", false)
  | _ => ("BottledPost", "latestFaultPlace", "I", false)
def tyX12 : Nat → FieldType := fun k => match k with
  | 0 => .object "BottledPost$World"
  | 1 => .object "BottledPost$World"
  | 2 => .object "BottledPost$Tape"
  | 3 => .object "BottledPost$Grammar"
  | 4 => .object "BottledPost$Laws"
  | 5 => .object "BottledPost$Routes"
  | 6 => .object "BottledPost$Riddles"
  | 7 => .object "BottledPost$Sea"
  | 8 => .int
  | _ => .int
abbrev wsX120 : List Cond := u_ws RX12 TX12 10
theorem nmX12 : ∀ a, a < 10 → ∀ b, b < 10 → a ≠ b → (TX12 a).2.1 ≠ (TX12 b).2.1 := by decide +kernel
theorem tyX12_ok : ∀ k, k < 10 → parseFieldDescriptor (TX12 k).2.2.1 = some (tyX12 k) := by decide +kernel
abbrev cX12_init : ByteArray := prog_1_method_1_code
def yX12_init : MethodName := ⟨RX12, "<init>", "()V"⟩
abbrev cX12_person : ByteArray := prog_1_method_2_code
def yX12_person : MethodName := ⟨RX12, "person", "(II)I"⟩
abbrev cX12_current : ByteArray := prog_1_method_3_code
def yX12_current : MethodName := ⟨RX12, "current", "(III)Z"⟩
abbrev cX12_feed : ByteArray := prog_1_method_4_code
def yX12_feed : MethodName := ⟨RX12, "feed", "(IIIII)I"⟩
abbrev cX12_end : ByteArray := prog_1_method_5_code
def yX12_end : MethodName := ⟨RX12, "end", "(I)I"⟩
abbrev cX12_text : ByteArray := prog_1_method_6_code
def yX12_text : MethodName := ⟨RX12, "text", "()I"⟩
abbrev cX12_fault : ByteArray := prog_1_method_7_code
def yX12_fault : MethodName := ⟨RX12, "fault", "(I)I"⟩
abbrev cX12_by : ByteArray := prog_1_method_8_code
def yX12_by : MethodName := ⟨RX12, "by", "(I)Z"⟩
abbrev cX12_toss : ByteArray := prog_1_method_9_code
def yX12_toss : MethodName := ⟨RX12, "toss", "(III)I"⟩
abbrev cX12_fish : ByteArray := prog_1_method_10_code
def yX12_fish : MethodName := ⟨RX12, "fish", "(II)Z"⟩
abbrev cX12_again : ByteArray := prog_1_method_11_code
def yX12_again : MethodName := ⟨RX12, "again", "(I)Z"⟩
abbrev cX12_tide : ByteArray := prog_1_method_12_code
def yX12_tide : MethodName := ⟨RX12, "tide", "(I)I"⟩
abbrev cX12_played : ByteArray := prog_1_method_13_code
def yX12_played : MethodName := ⟨RX12, "played", "(I)I"⟩
abbrev cX12_years : ByteArray := prog_1_method_14_code
def yX12_years : MethodName := ⟨RX12, "years", "(II)I"⟩
abbrev cX12_undo : ByteArray := prog_1_method_15_code
def yX12_undo : MethodName := ⟨RX12, "undo", "()I"⟩
abbrev cX12_tossBottle : ByteArray := prog_1_method_16_code
def yX12_tossBottle : MethodName := ⟨RX12, "tossBottle", "(IIIZ)I"⟩
abbrev cX12_fishBottle : ByteArray := prog_1_method_17_code
def yX12_fishBottle : MethodName := ⟨RX12, "fishBottle", "(IIZ)Z"⟩
abbrev cX12_tossAgain : ByteArray := prog_1_method_18_code
def yX12_tossAgain : MethodName := ⟨RX12, "tossAgain", "(IZ)Z"⟩
abbrev cX12_passTides : ByteArray := prog_1_method_19_code
def yX12_passTides : MethodName := ⟨RX12, "passTides", "(I)I"⟩
abbrev cX12_playClause : ByteArray := prog_1_method_20_code
def yX12_playClause : MethodName := ⟨RX12, "playClause", "(LBottledPost$Text;I)Z"⟩
abbrev cX12_liveYear : ByteArray := prog_1_method_21_code
def yX12_liveYear : MethodName := ⟨RX12, "liveYear", "(I)V"⟩
abbrev cX12_of : ByteArray := prog_1_method_22_code
def yX12_of : MethodName := ⟨RX12, "of", "(II)I"⟩
abbrev cX12_ofBottle : ByteArray := prog_1_method_23_code
def yX12_ofBottle : MethodName := ⟨RX12, "ofBottle", "(II)I"⟩
abbrev cX12_told : ByteArray := prog_1_method_24_code
def yX12_told : MethodName := ⟨RX12, "told", "(II)I"⟩
abbrev cX12_is : ByteArray := prog_1_method_25_code
def yX12_is : MethodName := ⟨RX12, "is", "(I)I"⟩
abbrev cX12_book : ByteArray := prog_1_method_26_code
def yX12_book : MethodName := ⟨RX12, "book", "(II)I"⟩
abbrev cX12_luckiest : ByteArray := prog_1_method_27_code
def yX12_luckiest : MethodName := ⟨RX12, "luckiest", "()I"⟩
abbrev cX12_eldest : ByteArray := prog_1_method_28_code
def yX12_eldest : MethodName := ⟨RX12, "eldest", "()I"⟩
abbrev cX12_crowd : ByteArray := prog_1_method_29_code
def yX12_crowd : MethodName := ⟨RX12, "crowd", "()I"⟩
abbrev cX12_empty : ByteArray := prog_1_method_30_code
def yX12_empty : MethodName := ⟨RX12, "empty", "()I"⟩
abbrev cX12_ledger : ByteArray := prog_1_method_31_code
def yX12_ledger : MethodName := ⟨RX12, "ledger", "(I)I"⟩
abbrev cX12_about : ByteArray := prog_1_method_32_code
def yX12_about : MethodName := ⟨RX12, "about", "(I)I"⟩
abbrev cX12_foretold : ByteArray := prog_1_method_33_code
def yX12_foretold : MethodName := ⟨RX12, "foretold", "(III)I"⟩
abbrev cX12_ends : ByteArray := prog_1_method_34_code
def yX12_ends : MethodName := ⟨RX12, "ends", "(I)I"⟩
abbrev cX12_drift : ByteArray := prog_1_method_35_code
def yX12_drift : MethodName := ⟨RX12, "drift", "(II)I"⟩
abbrev cX12_soonest : ByteArray := prog_1_method_36_code
def yX12_soonest : MethodName := ⟨RX12, "soonest", "(III)I"⟩
abbrev cX12_relay : ByteArray := prog_1_method_37_code
def yX12_relay : MethodName := ⟨RX12, "relay", "(III)I"⟩
abbrev cX12_found : ByteArray := prog_1_method_38_code
def yX12_found : MethodName := ⟨RX12, "found", "(II)I"⟩
abbrev cX12_tossed : ByteArray := prog_1_method_39_code
def yX12_tossed : MethodName := ⟨RX12, "tossed", "(I)I"⟩
abbrev cX12_likely : ByteArray := prog_1_method_40_code
def yX12_likely : MethodName := ⟨RX12, "likely", "(IIIZ)J"⟩
abbrev cX12_odds : ByteArray := prog_1_method_41_code
def yX12_odds : MethodName := ⟨RX12, "odds", "(II)Z"⟩
abbrev cX12_code : ByteArray := prog_1_method_42_code
def yX12_code : MethodName := ⟨RX12, "code", "(I)I"⟩
abbrev cX12_clear : ByteArray := prog_1_method_43_code
def yX12_clear : MethodName := ⟨RX12, "clear", "(I)I"⟩
abbrev cX12_reads : ByteArray := prog_1_method_44_code
def yX12_reads : MethodName := ⟨RX12, "reads", "(I)J"⟩
abbrev cX12_halves : ByteArray := prog_1_method_45_code
def yX12_halves : MethodName := ⟨RX12, "halves", "(II)Z"⟩
abbrev cX12_sorters : ByteArray := prog_1_method_46_code
def yX12_sorters : MethodName := ⟨RX12, "sorters", "(I)I"⟩
abbrev cX12_sorter : ByteArray := prog_1_method_47_code
def yX12_sorter : MethodName := ⟨RX12, "sorter", "(II)I"⟩
abbrev cX12_writes : ByteArray := prog_1_method_48_code
def yX12_writes : MethodName := ⟨RX12, "writes", "(II)Z"⟩
abbrev cX12_orders : ByteArray := prog_1_method_49_code
def yX12_orders : MethodName := ⟨RX12, "orders", "(I)J"⟩
abbrev cX12_sure : ByteArray := prog_1_method_50_code
def yX12_sure : MethodName := ⟨RX12, "sure", "(III)I"⟩
abbrev cX12_said : ByteArray := prog_1_method_51_code
def yX12_said : MethodName := ⟨RX12, "said", "(II)I"⟩
abbrev cX12_whose : ByteArray := prog_1_method_52_code
def yX12_whose : MethodName := ⟨RX12, "whose", "()I"⟩
abbrev cX12_allSaidBy : ByteArray := prog_1_method_53_code
def yX12_allSaidBy : MethodName := ⟨RX12, "allSaidBy", "(LBottledPost$Text;)Z"⟩
abbrev cX12_image : ByteArray := prog_1_method_54_code
def yX12_image : MethodName := ⟨RX12, "image", "()I"⟩
abbrev cX12_back : ByteArray := prog_1_method_55_code
def yX12_back : MethodName := ⟨RX12, "back", "()I"⟩
abbrev cX12_within : ByteArray := prog_1_method_56_code
def yX12_within : MethodName := ⟨RX12, "within", "(III)Z"⟩
abbrev cX12_isPlace : ByteArray := prog_1_method_57_code
def yX12_isPlace : MethodName := ⟨RX12, "isPlace", "(I)Z"⟩
abbrev cX12_cell : ByteArray := prog_1_method_58_code
def yX12_cell : MethodName := ⟨RX12, "cell", "([II)I"⟩
abbrev cX12_setCell : ByteArray := prog_1_method_59_code
def yX12_setCell : MethodName := ⟨RX12, "setCell", "([III)V"⟩
abbrev cX12_copyRow : ByteArray := prog_1_method_60_code
def yX12_copyRow : MethodName := ⟨RX12, "copyRow", "([I[I)V"⟩
abbrev cX12_sharedDivisor : ByteArray := prog_1_method_61_code
def yX12_sharedDivisor : MethodName := ⟨RX12, "sharedDivisor", "(JJ)J"⟩
def RX13 : String := "BottledPostModel"
def TX13 : u_T := fun k => match k with
  | 0 => ("BottledPostModel", "a", "[I", true)
  | 1 => ("BottledPostModel", "image", "[I", true)
  | 2 => ("BottledPostModel", "texts", "[I", true)
  | 3 => ("BottledPostModel", "tape", "[I", true)
  | 4 => ("BottledPostModel", "taped", "I", false)
  | 5 => ("BottledPostModel", "fault", "I", false)
  | 6 => ("BottledPostModel", "faultPlace", "I", false)
  | 7 => ("BottledPostModel", "at", "I", false)
  | 8 => ("BottledPostModel", "place", "I", false)
  | 9 => ("BottledPostModel", "token", "I", false)
  | 10 => ("BottledPostModel", "number", "I", false)
  | 11 => ("BottledPostModel", "word", "J", false)
  | 12 => ("BottledPostModel", "text0", "I", false)
  | 13 => ("BottledPostModel", "written", "I", false)
  | 14 => ("BottledPostModel", "sort0", "I", false)
  | 15 => ("BottledPostModel", "pile", "[I", true)
  | 16 => ("BottledPostModel", "piled", "I", false)
  | 17 => ("BottledPostModel", "opens", "I", false)
  | 18 => ("BottledPostModel", "isWhole", "Z", false)
  | 19 => ("BottledPostModel", "once", "I", false)
  | 20 => ("BottledPostModel", "named", "[I", true)
  | 21 => ("BottledPostModel", "values", "[J", true)
  | 22 => ("BottledPostModel", "truth", "[Z", true)
  | 23 => ("BottledPostModel", "isWritten", "Z", false)
  | 24 => ("BottledPostModel", "came", "I", false)
  | 25 => ("BottledPostModel", "aside", "[I", true)
  | 26 => ("BottledPostModel", "between", "[I", true)
  | 27 => ("BottledPostModel", "bestBetween", "[I", true)
  | 28 => ("BottledPostModel", "bestMany", "I", false)
  | 29 => ("BottledPostModel", "bestWhen", "I", false)
  | 30 => ("BottledPostModel", "longBy", "[I", true)
  | 31 => ("BottledPostModel", "readingsTo", "[J", true)
  | 32 => ("BottledPostModel", "sorterOf", "[I", true)
  | _ => ("BottledPostModel", "ordersOf", "[J", true)
def tyX13 : Nat → FieldType := fun k => match k with
  | 0 => .array .int
  | 1 => .array .int
  | 2 => .array .int
  | 3 => .array .int
  | 4 => .int
  | 5 => .int
  | 6 => .int
  | 7 => .int
  | 8 => .int
  | 9 => .int
  | 10 => .int
  | 11 => .long
  | 12 => .int
  | 13 => .int
  | 14 => .int
  | 15 => .array .int
  | 16 => .int
  | 17 => .int
  | 18 => .boolean
  | 19 => .int
  | 20 => .array .int
  | 21 => .array .long
  | 22 => .array .boolean
  | 23 => .boolean
  | 24 => .int
  | 25 => .array .int
  | 26 => .array .int
  | 27 => .array .int
  | 28 => .int
  | 29 => .int
  | 30 => .array .int
  | 31 => .array .long
  | 32 => .array .int
  | _ => .array .long
abbrev wsX130 : List Cond := u_ws RX13 TX13 34
theorem nmX13 : ∀ a, a < 34 → ∀ b, b < 34 → a ≠ b → (TX13 a).2.1 ≠ (TX13 b).2.1 := by decide +kernel
theorem tyX13_ok : ∀ k, k < 34 → parseFieldDescriptor (TX13 k).2.2.1 = some (tyX13 k) := by decide +kernel
abbrev cX13_init : ByteArray := prog_15_method_1_code
def yX13_init : MethodName := ⟨RX13, "<init>", "()V"⟩
abbrev cX13_copy : ByteArray := prog_15_method_2_code
def yX13_copy : MethodName := ⟨RX13, "copy", "([I[I)V"⟩
abbrev cX13_isIn : ByteArray := prog_15_method_3_code
def yX13_isIn : MethodName := ⟨RX13, "isIn", "(III)Z"⟩
abbrev cX13_cut : ByteArray := prog_15_method_4_code
def yX13_cut : MethodName := ⟨RX13, "cut", "(JII)I"⟩
abbrev cX13_has : ByteArray := prog_15_method_5_code
def yX13_has : MethodName := ⟨RX13, "has", "(II)Z"⟩
abbrev cX13_isPerson : ByteArray := prog_15_method_6_code
def yX13_isPerson : MethodName := ⟨RX13, "isPerson", "(I)Z"⟩
abbrev cX13_isBottle : ByteArray := prog_15_method_7_code
def yX13_isBottle : MethodName := ⟨RX13, "isBottle", "(I)Z"⟩
abbrev cX13_isPlace : ByteArray := prog_15_method_8_code
def yX13_isPlace : MethodName := ⟨RX13, "isPlace", "(I)Z"⟩
abbrev cX13_get : ByteArray := prog_15_method_9_code
def yX13_get : MethodName := ⟨RX13, "get", "(II)I"⟩
abbrev cX13_put : ByteArray := prog_15_method_10_code
def yX13_put : MethodName := ⟨RX13, "put", "(III)V"⟩
abbrev cX13_own : ByteArray := prog_15_method_11_code
def yX13_own : MethodName := ⟨RX13, "own", "(II)I"⟩
abbrev cX13_isAfloat : ByteArray := prog_15_method_12_code
def yX13_isAfloat : MethodName := ⟨RX13, "isAfloat", "(I)Z"⟩
abbrev cX13_flowsTo : ByteArray := prog_15_method_13_code
def yX13_flowsTo : MethodName := ⟨RX13, "flowsTo", "(II)I"⟩
abbrev cX13_person : ByteArray := prog_15_method_14_code
def yX13_person : MethodName := ⟨RX13, "person", "(II)I"⟩
abbrev cX13_current : ByteArray := prog_15_method_15_code
def yX13_current : MethodName := ⟨RX13, "current", "(III)Z"⟩
abbrev cX13_four : ByteArray := prog_15_method_16_code
def yX13_four : MethodName := ⟨RX13, "four", "(I)V"⟩
abbrev cX13_feed : ByteArray := prog_15_method_17_code
def yX13_feed : MethodName := ⟨RX13, "feed", "(IIIII)I"⟩
abbrev cX13_end : ByteArray := prog_15_method_18_code
def yX13_end : MethodName := ⟨RX13, "end", "(I)I"⟩
abbrev cX13_byteAt : ByteArray := prog_15_method_19_code
def yX13_byteAt : MethodName := ⟨RX13, "byteAt", "(I)I"⟩
abbrev cX13_isLetterByte : ByteArray := prog_15_method_20_code
def yX13_isLetterByte : MethodName := ⟨RX13, "isLetterByte", "(I)Z"⟩
abbrev cX13_isFigure : ByteArray := prog_15_method_21_code
def yX13_isFigure : MethodName := ⟨RX13, "isFigure", "(I)Z"⟩
abbrev cX13_isSign : ByteArray := prog_15_method_22_code
def yX13_isSign : MethodName := ⟨RX13, "isSign", "(I)Z"⟩
abbrev cX13_nextToken : ByteArray := prog_15_method_23_code
def yX13_nextToken : MethodName := ⟨RX13, "nextToken", "()V"⟩
abbrev cX13_w2 : ByteArray := prog_15_method_24_code
def yX13_w2 : MethodName := ⟨RX13, "w2", "(II)J"⟩
abbrev cX13_w3 : ByteArray := prog_15_method_25_code
def yX13_w3 : MethodName := ⟨RX13, "w3", "(III)J"⟩
abbrev cX13_w4 : ByteArray := prog_15_method_26_code
def yX13_w4 : MethodName := ⟨RX13, "w4", "(IIII)J"⟩
abbrev cX13_w5 : ByteArray := prog_15_method_27_code
def yX13_w5 : MethodName := ⟨RX13, "w5", "(IIIII)J"⟩
abbrev cX13_w6 : ByteArray := prog_15_method_28_code
def yX13_w6 : MethodName := ⟨RX13, "w6", "(IIIIII)J"⟩
abbrev cX13_isWord : ByteArray := prog_15_method_29_code
def yX13_isWord : MethodName := ⟨RX13, "isWord", "(J)Z"⟩
abbrev cX13_emit : ByteArray := prog_15_method_30_code
def yX13_emit : MethodName := ⟨RX13, "emit", "(II)V"⟩
abbrev cX13_isCurrent : ByteArray := prog_15_method_31_code
def yX13_isCurrent : MethodName := ⟨RX13, "isCurrent", "()Z"⟩
abbrev cX13_nameOf : ByteArray := prog_15_method_32_code
def yX13_nameOf : MethodName := ⟨RX13, "nameOf", "()I"⟩
abbrev cX13_rank : ByteArray := prog_15_method_33_code
def yX13_rank : MethodName := ⟨RX13, "rank", "(I)I"⟩
abbrev cX13_settle : ByteArray := prog_15_method_34_code
def yX13_settle : MethodName := ⟨RX13, "settle", "(I)V"⟩
abbrev cX13_openAt : ByteArray := prog_15_method_35_code
def yX13_openAt : MethodName := ⟨RX13, "openAt", "()I"⟩
abbrev cX13_openNow : ByteArray := prog_15_method_36_code
def yX13_openNow : MethodName := ⟨RX13, "openNow", "()I"⟩
abbrev cX13_isCompared : ByteArray := prog_15_method_37_code
def yX13_isCompared : MethodName := ⟨RX13, "isCompared", "()Z"⟩
abbrev cX13_isAskAhead : ByteArray := prog_15_method_38_code
def yX13_isAskAhead : MethodName := ⟨RX13, "isAskAhead", "()Z"⟩
abbrev cX13_opened : ByteArray := prog_15_method_39_code
def yX13_opened : MethodName := ⟨RX13, "opened", "(I)I"⟩
abbrev cX13_beginOne : ByteArray := prog_15_method_40_code
def yX13_beginOne : MethodName := ⟨RX13, "beginOne", "()I"⟩
abbrev cX13_endOne : ByteArray := prog_15_method_41_code
def yX13_endOne : MethodName := ⟨RX13, "endOne", "()I"⟩
abbrev cX13_compareOf : ByteArray := prog_15_method_42_code
def yX13_compareOf : MethodName := ⟨RX13, "compareOf", "()I"⟩
abbrev cX13_betweenOf : ByteArray := prog_15_method_43_code
def yX13_betweenOf : MethodName := ⟨RX13, "betweenOf", "()I"⟩
abbrev cX13_partOf : ByteArray := prog_15_method_44_code
def yX13_partOf : MethodName := ⟨RX13, "partOf", "(I)I"⟩
abbrev cX13_behindOne : ByteArray := prog_15_method_45_code
def yX13_behindOne : MethodName := ⟨RX13, "behindOne", "()I"⟩
abbrev cX13_summed : ByteArray := prog_15_method_46_code
def yX13_summed : MethodName := ⟨RX13, "summed", "()I"⟩
abbrev cX13_figure : ByteArray := prog_15_method_47_code
def yX13_figure : MethodName := ⟨RX13, "figure", "(III)I"⟩
abbrev cX13_worded : ByteArray := prog_15_method_48_code
def yX13_worded : MethodName := ⟨RX13, "worded", "(JIII)I"⟩
abbrev cX13_lawClause : ByteArray := prog_15_method_49_code
def yX13_lawClause : MethodName := ⟨RX13, "lawClause", "(I)I"⟩
abbrev cX13_pair : ByteArray := prog_15_method_50_code
def yX13_pair : MethodName := ⟨RX13, "pair", "(IIJI)I"⟩
abbrev cX13_body : ByteArray := prog_15_method_51_code
def yX13_body : MethodName := ⟨RX13, "body", "(II)I"⟩
abbrev cX13_sortOf : ByteArray := prog_15_method_52_code
def yX13_sortOf : MethodName := ⟨RX13, "sortOf", "()I"⟩
abbrev cX13_clause : ByteArray := prog_15_method_53_code
def yX13_clause : MethodName := ⟨RX13, "clause", "()I"⟩
abbrev cX13_readText : ByteArray := prog_15_method_54_code
def yX13_readText : MethodName := ⟨RX13, "readText", "()I"⟩
abbrev cX13_text : ByteArray := prog_15_method_55_code
def yX13_text : MethodName := ⟨RX13, "text", "()I"⟩
abbrev cX13_fault : ByteArray := prog_15_method_56_code
def yX13_fault : MethodName := ⟨RX13, "fault", "(I)I"⟩
abbrev cX13_by : ByteArray := prog_15_method_57_code
def yX13_by : MethodName := ⟨RX13, "by", "(I)Z"⟩
abbrev cX13_clip : ByteArray := prog_15_method_58_code
def yX13_clip : MethodName := ⟨RX13, "clip", "(J)J"⟩
abbrev cX13_two : ByteArray := prog_15_method_59_code
def yX13_two : MethodName := ⟨RX13, "two", "(IJJ)J"⟩
abbrev cX13_isAsked : ByteArray := prog_15_method_60_code
def yX13_isAsked : MethodName := ⟨RX13, "isAsked", "(IJJ)Z"⟩
abbrev cX13_placesOf : ByteArray := prog_15_method_61_code
def yX13_placesOf : MethodName := ⟨RX13, "placesOf", "(J)J"⟩
abbrev cX13_laterBy : ByteArray := prog_15_method_62_code
def yX13_laterBy : MethodName := ⟨RX13, "laterBy", "(JJ)J"⟩
abbrev cX13_joined : ByteArray := prog_15_method_63_code
def yX13_joined : MethodName := ⟨RX13, "joined", "(IZZ)Z"⟩
abbrev cX13_summedUp : ByteArray := prog_15_method_64_code
def yX13_summedUp : MethodName := ⟨RX13, "summedUp", "(II)J"⟩
abbrev cX13_says : ByteArray := prog_15_method_65_code
def yX13_says : MethodName := ⟨RX13, "says", "(IIII)I"⟩
abbrev cX13_afloatAt : ByteArray := prog_15_method_66_code
def yX13_afloatAt : MethodName := ⟨RX13, "afloatAt", "(I)I"⟩
abbrev cX13_name : ByteArray := prog_15_method_67_code
def yX13_name : MethodName := ⟨RX13, "name", "(I)V"⟩
abbrev cX13_comesOf : ByteArray := prog_15_method_68_code
def yX13_comesOf : MethodName := ⟨RX13, "comesOf", "(II)I"⟩
abbrev cX13_wearsOf : ByteArray := prog_15_method_69_code
def yX13_wearsOf : MethodName := ⟨RX13, "wearsOf", "(I)I"⟩
abbrev cX13_write : ByteArray := prog_15_method_70_code
def yX13_write : MethodName := ⟨RX13, "write", "(II)V"⟩
abbrev cX13_anew : ByteArray := prog_15_method_71_code
def yX13_anew : MethodName := ⟨RX13, "anew", "()V"⟩
abbrev cX13_finish : ByteArray := prog_15_method_72_code
def yX13_finish : MethodName := ⟨RX13, "finish", "(II)V"⟩
abbrev cX13_floatOn : ByteArray := prog_15_method_73_code
def yX13_floatOn : MethodName := ⟨RX13, "floatOn", "(I)V"⟩
abbrev cX13_pass : ByteArray := prog_15_method_74_code
def yX13_pass : MethodName := ⟨RX13, "pass", "()V"⟩
abbrev cX13_keep : ByteArray := prog_15_method_75_code
def yX13_keep : MethodName := ⟨RX13, "keep", "()V"⟩
abbrev cX13_undo : ByteArray := prog_15_method_76_code
def yX13_undo : MethodName := ⟨RX13, "undo", "()I"⟩
abbrev cX13_canToss : ByteArray := prog_15_method_77_code
def yX13_canToss : MethodName := ⟨RX13, "canToss", "(II)Z"⟩
abbrev cX13_tossNow : ByteArray := prog_15_method_78_code
def yX13_tossNow : MethodName := ⟨RX13, "tossNow", "(III)V"⟩
abbrev cX13_toss : ByteArray := prog_15_method_79_code
def yX13_toss : MethodName := ⟨RX13, "toss", "(III)I"⟩
abbrev cX13_canFish : ByteArray := prog_15_method_80_code
def yX13_canFish : MethodName := ⟨RX13, "canFish", "(II)Z"⟩
abbrev cX13_fishNow : ByteArray := prog_15_method_81_code
def yX13_fishNow : MethodName := ⟨RX13, "fishNow", "(II)V"⟩
abbrev cX13_fish : ByteArray := prog_15_method_82_code
def yX13_fish : MethodName := ⟨RX13, "fish", "(II)Z"⟩
abbrev cX13_canAgain : ByteArray := prog_15_method_83_code
def yX13_canAgain : MethodName := ⟨RX13, "canAgain", "(I)Z"⟩
abbrev cX13_againNow : ByteArray := prog_15_method_84_code
def yX13_againNow : MethodName := ⟨RX13, "againNow", "(I)V"⟩
abbrev cX13_again : ByteArray := prog_15_method_85_code
def yX13_again : MethodName := ⟨RX13, "again", "(I)Z"⟩
abbrev cX13_arePassed : ByteArray := prog_15_method_86_code
def yX13_arePassed : MethodName := ⟨RX13, "arePassed", "(I)Z"⟩
abbrev cX13_tide : ByteArray := prog_15_method_87_code
def yX13_tide : MethodName := ⟨RX13, "tide", "(I)I"⟩
abbrev cX13_isPlayed : ByteArray := prog_15_method_88_code
def yX13_isPlayed : MethodName := ⟨RX13, "isPlayed", "(I)Z"⟩
abbrev cX13_played : ByteArray := prog_15_method_89_code
def yX13_played : MethodName := ⟨RX13, "played", "(I)I"⟩
abbrev cX13_happens : ByteArray := prog_15_method_90_code
def yX13_happens : MethodName := ⟨RX13, "happens", "(I)V"⟩
abbrev cX13_years : ByteArray := prog_15_method_91_code
def yX13_years : MethodName := ⟨RX13, "years", "(II)I"⟩
abbrev cX13_cameTo : ByteArray := prog_15_method_92_code
def yX13_cameTo : MethodName := ⟨RX13, "cameTo", "(I)I"⟩
abbrev cX13_withHow : ByteArray := prog_15_method_93_code
def yX13_withHow : MethodName := ⟨RX13, "withHow", "(I)I"⟩
abbrev cX13_of : ByteArray := prog_15_method_94_code
def yX13_of : MethodName := ⟨RX13, "of", "(II)I"⟩
abbrev cX13_ofBottle : ByteArray := prog_15_method_95_code
def yX13_ofBottle : MethodName := ⟨RX13, "ofBottle", "(II)I"⟩
abbrev cX13_told : ByteArray := prog_15_method_96_code
def yX13_told : MethodName := ⟨RX13, "told", "(II)I"⟩
abbrev cX13_is : ByteArray := prog_15_method_97_code
def yX13_is : MethodName := ⟨RX13, "is", "(I)I"⟩
abbrev cX13_entry : ByteArray := prog_15_method_98_code
def yX13_entry : MethodName := ⟨RX13, "entry", "(II)I"⟩
abbrev cX13_book : ByteArray := prog_15_method_99_code
def yX13_book : MethodName := ⟨RX13, "book", "(II)I"⟩
abbrev cX13_ledger : ByteArray := prog_15_method_100_code
def yX13_ledger : MethodName := ⟨RX13, "ledger", "(I)I"⟩
abbrev cX13_luckiest : ByteArray := prog_15_method_101_code
def yX13_luckiest : MethodName := ⟨RX13, "luckiest", "()I"⟩
abbrev cX13_eldest : ByteArray := prog_15_method_102_code
def yX13_eldest : MethodName := ⟨RX13, "eldest", "()I"⟩
abbrev cX13_crowd : ByteArray := prog_15_method_103_code
def yX13_crowd : MethodName := ⟨RX13, "crowd", "()I"⟩
abbrev cX13_empty : ByteArray := prog_15_method_104_code
def yX13_empty : MethodName := ⟨RX13, "empty", "()I"⟩
abbrev cX13_setAside : ByteArray := prog_15_method_105_code
def yX13_setAside : MethodName := ⟨RX13, "setAside", "()V"⟩
abbrev cX13_putBack : ByteArray := prog_15_method_106_code
def yX13_putBack : MethodName := ⟨RX13, "putBack", "()V"⟩
abbrev cX13_foretold : ByteArray := prog_15_method_107_code
def yX13_foretold : MethodName := ⟨RX13, "foretold", "(III)I"⟩
abbrev cX13_ends : ByteArray := prog_15_method_108_code
def yX13_ends : MethodName := ⟨RX13, "ends", "(I)I"⟩
abbrev cX13_drifted : ByteArray := prog_15_method_109_code
def yX13_drifted : MethodName := ⟨RX13, "drifted", "(III)I"⟩
abbrev cX13_drift : ByteArray := prog_15_method_110_code
def yX13_drift : MethodName := ⟨RX13, "drift", "(II)I"⟩
abbrev cX13_soonest : ByteArray := prog_15_method_111_code
def yX13_soonest : MethodName := ⟨RX13, "soonest", "(III)I"⟩
abbrev cX13_hopOf : ByteArray := prog_15_method_112_code
def yX13_hopOf : MethodName := ⟨RX13, "hopOf", "(III)I"⟩
abbrev cX13_whenBy : ByteArray := prog_15_method_113_code
def yX13_whenBy : MethodName := ⟨RX13, "whenBy", "(III)I"⟩
abbrev cX13_isNextRow : ByteArray := prog_15_method_114_code
def yX13_isNextRow : MethodName := ⟨RX13, "isNextRow", "(IIII)Z"⟩
abbrev cX13_isNew : ByteArray := prog_15_method_115_code
def yX13_isNew : MethodName := ⟨RX13, "isNew", "(III)Z"⟩
abbrev cX13_layRelay : ByteArray := prog_15_method_116_code
def yX13_layRelay : MethodName := ⟨RX13, "layRelay", "(II)V"⟩
abbrev cX13_relay : ByteArray := prog_15_method_117_code
def yX13_relay : MethodName := ⟨RX13, "relay", "(III)I"⟩
abbrev cX13_found : ByteArray := prog_15_method_118_code
def yX13_found : MethodName := ⟨RX13, "found", "(II)I"⟩
abbrev cX13_isFrom : ByteArray := prog_15_method_119_code
def yX13_isFrom : MethodName := ⟨RX13, "isFrom", "(II)Z"⟩
abbrev cX13_tossed : ByteArray := prog_15_method_120_code
def yX13_tossed : MethodName := ⟨RX13, "tossed", "(I)I"⟩
abbrev cX13_odds : ByteArray := prog_15_method_121_code
def yX13_odds : MethodName := ⟨RX13, "odds", "(II)Z"⟩
abbrev cX13_divisor : ByteArray := prog_15_method_122_code
def yX13_divisor : MethodName := ⟨RX13, "divisor", "(JJ)J"⟩
abbrev cX13_likely : ByteArray := prog_15_method_123_code
def yX13_likely : MethodName := ⟨RX13, "likely", "(IIIZ)J"⟩
abbrev cX13_isWithoutNought : ByteArray := prog_15_method_124_code
def yX13_isWithoutNought : MethodName := ⟨RX13, "isWithoutNought", "(I)Z"⟩
abbrev cX13_code : ByteArray := prog_15_method_125_code
def yX13_code : MethodName := ⟨RX13, "code", "(I)I"⟩
abbrev cX13_longOf : ByteArray := prog_15_method_126_code
def yX13_longOf : MethodName := ⟨RX13, "longOf", "(I)I"⟩
abbrev cX13_tensOf : ByteArray := prog_15_method_127_code
def yX13_tensOf : MethodName := ⟨RX13, "tensOf", "(I)I"⟩
abbrev cX13_restOf : ByteArray := prog_15_method_128_code
def yX13_restOf : MethodName := ⟨RX13, "restOf", "(II)I"⟩
abbrev cX13_isShorter : ByteArray := prog_15_method_129_code
def yX13_isShorter : MethodName := ⟨RX13, "isShorter", "(II)Z"⟩
abbrev cX13_isSpread : ByteArray := prog_15_method_130_code
def yX13_isSpread : MethodName := ⟨RX13, "isSpread", "(I)Z"⟩
abbrev cX13_shortestTwo : ByteArray := prog_15_method_131_code
def yX13_shortestTwo : MethodName := ⟨RX13, "shortestTwo", "()I"⟩
abbrev cX13_clear : ByteArray := prog_15_method_132_code
def yX13_clear : MethodName := ⟨RX13, "clear", "(I)I"⟩
abbrev cX13_digitsOf : ByteArray := prog_15_method_133_code
def yX13_digitsOf : MethodName := ⟨RX13, "digitsOf", "(I)I"⟩
abbrev cX13_reads : ByteArray := prog_15_method_134_code
def yX13_reads : MethodName := ⟨RX13, "reads", "(I)J"⟩
abbrev cX13_isLetter : ByteArray := prog_15_method_135_code
def yX13_isLetter : MethodName := ⟨RX13, "isLetter", "(I)Z"⟩
abbrev cX13_halves : ByteArray := prog_15_method_136_code
def yX13_halves : MethodName := ⟨RX13, "halves", "(II)Z"⟩
abbrev cX13_canSort : ByteArray := prog_15_method_137_code
def yX13_canSort : MethodName := ⟨RX13, "canSort", "(I)Z"⟩
abbrev cX13_areSorted : ByteArray := prog_15_method_138_code
def yX13_areSorted : MethodName := ⟨RX13, "areSorted", "(II)Z"⟩
abbrev cX13_laySorters : ByteArray := prog_15_method_139_code
def yX13_laySorters : MethodName := ⟨RX13, "laySorters", "(I)I"⟩
abbrev cX13_sorters : ByteArray := prog_15_method_140_code
def yX13_sorters : MethodName := ⟨RX13, "sorters", "(I)I"⟩
abbrev cX13_sorter : ByteArray := prog_15_method_141_code
def yX13_sorter : MethodName := ⟨RX13, "sorter", "(II)I"⟩
abbrev cX13_writes : ByteArray := prog_15_method_142_code
def yX13_writes : MethodName := ⟨RX13, "writes", "(II)Z"⟩
abbrev cX13_countOrders : ByteArray := prog_15_method_143_code
def yX13_countOrders : MethodName := ⟨RX13, "countOrders", "(III)J"⟩
abbrev cX13_orders : ByteArray := prog_15_method_144_code
def yX13_orders : MethodName := ⟨RX13, "orders", "(I)J"⟩
abbrev cX13_sure : ByteArray := prog_15_method_145_code
def yX13_sure : MethodName := ⟨RX13, "sure", "(III)I"⟩
abbrev cX13_said : ByteArray := prog_15_method_146_code
def yX13_said : MethodName := ⟨RX13, "said", "(II)I"⟩
abbrev cX13_whose : ByteArray := prog_15_method_147_code
def yX13_whose : MethodName := ⟨RX13, "whose", "()I"⟩
abbrev cX13_image : ByteArray := prog_15_method_148_code
def yX13_image : MethodName := ⟨RX13, "image", "()I"⟩
abbrev cX13_back : ByteArray := prog_15_method_149_code
def yX13_back : MethodName := ⟨RX13, "back", "()I"⟩
abbrev cX13_about : ByteArray := prog_15_method_150_code
def yX13_about : MethodName := ⟨RX13, "about", "(I)I"⟩
def RJx145de : String := "java/io/Serializable"
def TJx145de : u_T := fun k => match k with
  | _ => ("", "", "", false)
def tyJx145de : Nat → FieldType := fun k => match k with
  | _ => .int
abbrev wsJx145de0 : List Cond := u_ws RJx145de TJx145de 0
theorem nmJx145de : ∀ a, a < 0 → ∀ b, b < 0 → a ≠ b → (TJx145de a).2.1 ≠ (TJx145de b).2.1 := by decide +kernel
theorem tyJx145de_ok : ∀ k, k < 0 → parseFieldDescriptor (TJx145de k).2.2.1 = some (tyJx145de k) := by decide +kernel
def RJx9f9b0 : String := "java/lang/CharSequence"
def TJx9f9b0 : u_T := fun k => match k with
  | _ => ("", "", "", false)
def tyJx9f9b0 : Nat → FieldType := fun k => match k with
  | _ => .int
abbrev wsJx9f9b00 : List Cond := u_ws RJx9f9b0 TJx9f9b0 0
theorem nmJx9f9b0 : ∀ a, a < 0 → ∀ b, b < 0 → a ≠ b → (TJx9f9b0 a).2.1 ≠ (TJx9f9b0 b).2.1 := by decide +kernel
theorem tyJx9f9b0_ok : ∀ k, k < 0 → parseFieldDescriptor (TJx9f9b0 k).2.2.1 = some (tyJx9f9b0 k) := by decide +kernel
def RJx8e188 : String := "java/lang/Cloneable"
def TJx8e188 : u_T := fun k => match k with
  | _ => ("", "", "", false)
def tyJx8e188 : Nat → FieldType := fun k => match k with
  | _ => .int
abbrev wsJx8e1880 : List Cond := u_ws RJx8e188 TJx8e188 0
theorem nmJx8e188 : ∀ a, a < 0 → ∀ b, b < 0 → a ≠ b → (TJx8e188 a).2.1 ≠ (TJx8e188 b).2.1 := by decide +kernel
theorem tyJx8e188_ok : ∀ k, k < 0 → parseFieldDescriptor (TJx8e188 k).2.2.1 = some (tyJx8e188 k) := by decide +kernel
def RJxb160c : String := "java/lang/Comparable"
def TJxb160c : u_T := fun k => match k with
  | _ => ("", "", "", false)
def tyJxb160c : Nat → FieldType := fun k => match k with
  | _ => .int
abbrev wsJxb160c0 : List Cond := u_ws RJxb160c TJxb160c 0
theorem nmJxb160c : ∀ a, a < 0 → ∀ b, b < 0 → a ≠ b → (TJxb160c a).2.1 ≠ (TJxb160c b).2.1 := by decide +kernel
theorem tyJxb160c_ok : ∀ k, k < 0 → parseFieldDescriptor (TJxb160c k).2.2.1 = some (tyJxb160c k) := by decide +kernel
def RJ9 : String := "java/lang/Math"
def TJ9 : u_T := fun k => match k with
  | _ => ("", "", "", false)
def tyJ9 : Nat → FieldType := fun k => match k with
  | _ => .int
abbrev wsJ90 : List Cond := u_ws RJ9 TJ9 0
theorem nmJ9 : ∀ a, a < 0 → ∀ b, b < 0 → a ≠ b → (TJ9 a).2.1 ≠ (TJ9 b).2.1 := by decide +kernel
theorem tyJ9_ok : ∀ k, k < 0 → parseFieldDescriptor (TJ9 k).2.2.1 = some (tyJ9 k) := by decide +kernel
abbrev cJ9_floorMod_7cf53 : ByteArray := prog_17_method_50_code
def yJ9_floorMod_7cf53 : MethodName := ⟨RJ9, "floorMod", "(II)I"⟩
abbrev cJ9_max_7cf53 : ByteArray := prog_17_method_65_code
def yJ9_max_7cf53 : MethodName := ⟨RJ9, "max", "(II)I"⟩
abbrev cJ9_max_f86c9 : ByteArray := prog_17_method_66_code
def yJ9_max_f86c9 : MethodName := ⟨RJ9, "max", "(JJ)J"⟩
abbrev cJ9_min_7cf53 : ByteArray := prog_17_method_69_code
def yJ9_min_7cf53 : MethodName := ⟨RJ9, "min", "(II)I"⟩
abbrev cJ9_min_f86c9 : ByteArray := prog_17_method_70_code
def yJ9_min_f86c9 : MethodName := ⟨RJ9, "min", "(JJ)J"⟩
def RJ0 : String := "java/lang/String"
def TJ0 : u_T := fun k => match k with
  | _ => ("", "", "", false)
def tyJ0 : Nat → FieldType := fun k => match k with
  | _ => .int
abbrev wsJ00 : List Cond := u_ws RJ0 TJ0 0
theorem nmJ0 : ∀ a, a < 0 → ∀ b, b < 0 → a ≠ b → (TJ0 a).2.1 ≠ (TJ0 b).2.1 := by decide +kernel
theorem tyJ0_ok : ∀ k, k < 0 → parseFieldDescriptor (TJ0 k).2.2.1 = some (tyJ0 k) := by decide +kernel
abbrev cJ0_length_8abf5 : ByteArray := prog_18_method_54_code
def yJ0_length_8abf5 : MethodName := ⟨RJ0, "length", "()I"⟩
abbrev cJ0_charAt_5068e : ByteArray := prog_18_method_56_code
def yJ0_charAt_5068e : MethodName := ⟨RJ0, "charAt", "(I)C"⟩
abbrev cJ0_coder_7d493 : ByteArray := prog_18_method_152_code
def yJ0_coder_7d493 : MethodName := ⟨RJ0, "coder", "()B"⟩
abbrev cJ0_isLatin1_aae02 : ByteArray := prog_18_method_154_code
def yJ0_isLatin1_aae02 : MethodName := ⟨RJ0, "isLatin1", "()Z"⟩
abbrev cJ0_checkIndex_df160 : ByteArray := prog_18_method_155_code
def yJ0_checkIndex_df160 : MethodName := ⟨RJ0, "checkIndex", "(II)V"⟩
def RJ1 : String := "java/lang/StringLatin1"
def TJ1 : u_T := fun k => match k with
  | _ => ("", "", "", false)
def tyJ1 : Nat → FieldType := fun k => match k with
  | _ => .int
abbrev wsJ10 : List Cond := u_ws RJ1 TJ1 0
theorem nmJ1 : ∀ a, a < 0 → ∀ b, b < 0 → a ≠ b → (TJ1 a).2.1 ≠ (TJ1 b).2.1 := by decide +kernel
theorem tyJ1_ok : ∀ k, k < 0 → parseFieldDescriptor (TJ1 k).2.2.1 = some (tyJ1 k) := by decide +kernel
abbrev cJ1_charAt_3b067 : ByteArray := prog_19_method_2_code
def yJ1_charAt_3b067 : MethodName := ⟨RJ1, "charAt", "([BI)C"⟩
def RJ2 : String := "java/lang/StringUTF16"
def TJ2 : u_T := fun k => match k with
  | _ => ("", "", "", false)
def tyJ2 : Nat → FieldType := fun k => match k with
  | _ => .int
abbrev wsJ20 : List Cond := u_ws RJ2 TJ2 0
theorem nmJ2 : ∀ a, a < 0 → ∀ b, b < 0 → a ≠ b → (TJ2 a).2.1 ≠ (TJ2 b).2.1 := by decide +kernel
theorem tyJ2_ok : ∀ k, k < 0 → parseFieldDescriptor (TJ2 k).2.2.1 = some (tyJ2 k) := by decide +kernel
abbrev cJ2_getChar_3b067 : ByteArray := prog_20_method_5_code
def yJ2_getChar_3b067 : MethodName := ⟨RJ2, "getChar", "([BI)C"⟩
abbrev cJ2_length_9d52b : ByteArray := prog_20_method_6_code
def yJ2_length_9d52b : MethodName := ⟨RJ2, "length", "([B)I"⟩
abbrev cJ2_charAt_3b067 : ByteArray := prog_20_method_83_code
def yJ2_charAt_3b067 : MethodName := ⟨RJ2, "charAt", "([BI)C"⟩
abbrev cJ2_checkIndex_2214a : ByteArray := prog_20_method_91_code
def yJ2_checkIndex_2214a : MethodName := ⟨RJ2, "checkIndex", "(I[B)V"⟩
def RJ10 : String := "java/lang/System"
def TJ10 : u_T := fun k => match k with
  | _ => ("", "", "", false)
def tyJ10 : Nat → FieldType := fun k => match k with
  | _ => .int
abbrev wsJ100 : List Cond := u_ws RJ10 TJ10 0
theorem nmJ10 : ∀ a, a < 0 → ∀ b, b < 0 → a ≠ b → (TJ10 a).2.1 ≠ (TJ10 b).2.1 := by decide +kernel
theorem tyJ10_ok : ∀ k, k < 0 → parseFieldDescriptor (TJ10 k).2.2.1 = some (tyJ10 k) := by decide +kernel
def RJxfd54e : String := "java/lang/constant/Constable"
def TJxfd54e : u_T := fun k => match k with
  | _ => ("", "", "", false)
def tyJxfd54e : Nat → FieldType := fun k => match k with
  | _ => .int
abbrev wsJxfd54e0 : List Cond := u_ws RJxfd54e TJxfd54e 0
theorem nmJxfd54e : ∀ a, a < 0 → ∀ b, b < 0 → a ≠ b → (TJxfd54e a).2.1 ≠ (TJxfd54e b).2.1 := by decide +kernel
theorem tyJxfd54e_ok : ∀ k, k < 0 → parseFieldDescriptor (TJxfd54e k).2.2.1 = some (tyJxfd54e k) := by decide +kernel
def RJx3cf43 : String := "java/lang/constant/ConstantDesc"
def TJx3cf43 : u_T := fun k => match k with
  | _ => ("", "", "", false)
def tyJx3cf43 : Nat → FieldType := fun k => match k with
  | _ => .int
abbrev wsJx3cf430 : List Cond := u_ws RJx3cf43 TJx3cf43 0
theorem nmJx3cf43 : ∀ a, a < 0 → ∀ b, b < 0 → a ≠ b → (TJx3cf43 a).2.1 ≠ (TJx3cf43 b).2.1 := by decide +kernel
theorem tyJx3cf43_ok : ∀ k, k < 0 → parseFieldDescriptor (TJx3cf43 k).2.2.1 = some (tyJx3cf43 k) := by decide +kernel
def RJ7 : String := "java/util/Arrays"
def TJ7 : u_T := fun k => match k with
  | _ => ("", "", "", false)
def tyJ7 : Nat → FieldType := fun k => match k with
  | _ => .int
abbrev wsJ70 : List Cond := u_ws RJ7 TJ7 0
theorem nmJ7 : ∀ a, a < 0 → ∀ b, b < 0 → a ≠ b → (TJ7 a).2.1 ≠ (TJ7 b).2.1 := by decide +kernel
theorem tyJ7_ok : ∀ k, k < 0 → parseFieldDescriptor (TJ7 k).2.2.1 = some (tyJ7 k) := by decide +kernel
abbrev cJ7_fill_53178 : ByteArray := prog_22_method_103_code
def yJ7_fill_53178 : MethodName := ⟨RJ7, "fill", "([II)V"⟩
abbrev cJ7_copyOf_59c91 : ByteArray := prog_22_method_123_code
def yJ7_copyOf_59c91 : MethodName := ⟨RJ7, "copyOf", "([II)[I"⟩
def RJ3 : String := "jdk/internal/util/Preconditions"
def TJ3 : u_T := fun k => match k with
  | _ => ("", "", "", false)
def tyJ3 : Nat → FieldType := fun k => match k with
  | _ => .int
abbrev wsJ30 : List Cond := u_ws RJ3 TJ3 0
theorem nmJ3 : ∀ a, a < 0 → ∀ b, b < 0 → a ≠ b → (TJ3 a).2.1 ≠ (TJ3 b).2.1 := by decide +kernel
theorem tyJ3_ok : ∀ k, k < 0 → parseFieldDescriptor (TJ3 k).2.2.1 = some (tyJ3 k) := by decide +kernel
abbrev cJ3_checkIndex_8e157 : ByteArray := prog_23_method_11_code
def yJ3_checkIndex_8e157 : MethodName := ⟨RJ3, "checkIndex", "(IILjava/util/function/BiFunction;)I"⟩
def RL : String := "BottledPostLaw"
abbrev cL_law : ByteArray := code
def yL_law : MethodName := ⟨RL, "law", "([I)Z"⟩
abbrev vwCl : List vw_C := [(RX0, TX0, 2), (RX1, TX1, 10), (RX2, TX2, 2), (RX3, TX3, 6), (RX4, TX4, 7), (RX5, TX5, 12), (RX6, TX6, 5), (RX7, TX7, 4), (RX8, TX8, 2), (RX9, TX9, 6), (RX10, TX10, 3), (RX11, TX11, 7), (RX12, TX12, 10), (RX13, TX13, 34)]
