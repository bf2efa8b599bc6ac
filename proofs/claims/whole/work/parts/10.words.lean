/-! The tables' words that the walk needs, by their places; the methods; the classes. -/
theorem wd_c1 {w : Cond} (i : Nat) (h : tables_1_1[i]? = some w) (hg : goodWord w = true) : w ∈ aGT := List.mem_filter.mpr ⟨List.mem_append_right _ (List.mem_append_left _ (List.mem_of_getElem? h)), hg⟩
theorem wd_c2 {w : Cond} (i : Nat) (h : tables_1_2[i]? = some w) (hg : goodWord w = true) : w ∈ aGT := List.mem_filter.mpr ⟨List.mem_append_right _ (List.mem_append_right _ (List.mem_append_left _ (List.mem_of_getElem? h))), hg⟩
theorem wd_c3 {w : Cond} (i : Nat) (h : tables_1_3[i]? = some w) (hg : goodWord w = true) : w ∈ aGT := List.mem_filter.mpr ⟨List.mem_append_right _ (List.mem_append_right _ (List.mem_append_right _ (List.mem_append_left _ (List.mem_of_getElem? h)))), hg⟩
theorem wd_c4 {w : Cond} (i : Nat) (h : tables_1_4[i]? = some w) (hg : goodWord w = true) : w ∈ aGT := List.mem_filter.mpr ⟨List.mem_append_right _ (List.mem_append_right _ (List.mem_append_right _ (List.mem_append_right _ (List.mem_append_left _ (List.mem_of_getElem? h))))), hg⟩
theorem wd_c5 {w : Cond} (i : Nat) (h : tables_1_5[i]? = some w) (hg : goodWord w = true) : w ∈ aGT := List.mem_filter.mpr ⟨List.mem_append_right _ (List.mem_append_right _ (List.mem_append_right _ (List.mem_append_right _ (List.mem_append_right _ (List.mem_append_left _ (List.mem_of_getElem? h)))))), hg⟩
theorem wd_c6 {w : Cond} (i : Nat) (h : tables_1_6[i]? = some w) (hg : goodWord w = true) : w ∈ aGT := List.mem_filter.mpr ⟨List.mem_append_right _ (List.mem_append_right _ (List.mem_append_right _ (List.mem_append_right _ (List.mem_append_right _ (List.mem_append_right _ (List.mem_append_left _ (List.mem_of_getElem? h))))))), hg⟩
theorem wd_c7 {w : Cond} (i : Nat) (h : tables_1_7[i]? = some w) (hg : goodWord w = true) : w ∈ aGT := List.mem_filter.mpr ⟨List.mem_append_right _ (List.mem_append_right _ (List.mem_append_right _ (List.mem_append_right _ (List.mem_append_right _ (List.mem_append_right _ (List.mem_append_right _ (List.mem_append_left _ (List.mem_of_getElem? h)))))))), hg⟩
theorem wd_c8 {w : Cond} (i : Nat) (h : tables_1_8[i]? = some w) (hg : goodWord w = true) : w ∈ aGT := List.mem_filter.mpr ⟨List.mem_append_right _ (List.mem_append_right _ (List.mem_append_right _ (List.mem_append_right _ (List.mem_append_right _ (List.mem_append_right _ (List.mem_append_right _ (List.mem_append_right _ (List.mem_of_getElem? h)))))))), hg⟩
theorem wd_p1 {q : MethodName × Nat} (i : Nat) (h : lw_privs_1[i]? = some q) : Cond.selects q.1.cls q.1 q.1 ∈ aGT := List.mem_filter.mpr ⟨List.mem_append_left _ (List.mem_map.mpr ⟨q, List.mem_append_left _ (List.mem_of_getElem? h), rfl⟩), rfl⟩
theorem wd_p2 {q : MethodName × Nat} (i : Nat) (h : lw_privs_2[i]? = some q) : Cond.selects q.1.cls q.1 q.1 ∈ aGT := List.mem_filter.mpr ⟨List.mem_append_left _ (List.mem_map.mpr ⟨q, List.mem_append_right _ (List.mem_append_left _ (List.mem_of_getElem? h)), rfl⟩), rfl⟩
theorem wd_p3 {q : MethodName × Nat} (i : Nat) (h : lw_privs_3[i]? = some q) : Cond.selects q.1.cls q.1 q.1 ∈ aGT := List.mem_filter.mpr ⟨List.mem_append_left _ (List.mem_map.mpr ⟨q, List.mem_append_right _ (List.mem_append_right _ (List.mem_append_left _ (List.mem_of_getElem? h))), rfl⟩), rfl⟩
theorem wd_p4 {q : MethodName × Nat} (i : Nat) (h : lw_privs_4[i]? = some q) : Cond.selects q.1.cls q.1 q.1 ∈ aGT := List.mem_filter.mpr ⟨List.mem_append_left _ (List.mem_map.mpr ⟨q, List.mem_append_right _ (List.mem_append_right _ (List.mem_append_right _ (List.mem_append_left _ (List.mem_of_getElem? h)))), rfl⟩), rfl⟩
theorem wd_p5 {q : MethodName × Nat} (i : Nat) (h : lw_privs_5[i]? = some q) : Cond.selects q.1.cls q.1 q.1 ∈ aGT := List.mem_filter.mpr ⟨List.mem_append_left _ (List.mem_map.mpr ⟨q, List.mem_append_right _ (List.mem_append_right _ (List.mem_append_right _ (List.mem_append_right _ (List.mem_append_left _ (List.mem_of_getElem? h))))), rfl⟩), rfl⟩
theorem wd_p6 {q : MethodName × Nat} (i : Nat) (h : lw_privs_6[i]? = some q) : Cond.selects q.1.cls q.1 q.1 ∈ aGT := List.mem_filter.mpr ⟨List.mem_append_left _ (List.mem_map.mpr ⟨q, List.mem_append_right _ (List.mem_append_right _ (List.mem_append_right _ (List.mem_append_right _ (List.mem_append_right _ (List.mem_append_left _ (List.mem_of_getElem? h)))))), rfl⟩), rfl⟩
theorem wd_p7 {q : MethodName × Nat} (i : Nat) (h : lw_privs_7[i]? = some q) : Cond.selects q.1.cls q.1 q.1 ∈ aGT := List.mem_filter.mpr ⟨List.mem_append_left _ (List.mem_map.mpr ⟨q, List.mem_append_right _ (List.mem_append_right _ (List.mem_append_right _ (List.mem_append_right _ (List.mem_append_right _ (List.mem_append_right _ (List.mem_append_left _ (List.mem_of_getElem? h))))))), rfl⟩), rfl⟩
theorem wd_p8 {q : MethodName × Nat} (i : Nat) (h : lw_privs_8[i]? = some q) : Cond.selects q.1.cls q.1 q.1 ∈ aGT := List.mem_filter.mpr ⟨List.mem_append_left _ (List.mem_map.mpr ⟨q, List.mem_append_right _ (List.mem_append_right _ (List.mem_append_right _ (List.mem_append_right _ (List.mem_append_right _ (List.mem_append_right _ (List.mem_append_right _ (List.mem_of_getElem? h))))))), rfl⟩), rfl⟩
theorem wd_0 : Cond.selects "BottledPost$Tape" ⟨"BottledPost$Tape", "byteAt", "(I)I"⟩ ⟨"BottledPost$Tape", "byteAt", "(I)I"⟩ ∈ aGT := wd_p1 (q := (⟨"BottledPost$Tape", "byteAt", "(I)I"⟩, 6)) 0 rfl
theorem wd_1 : Cond.selects "BottledPost$Tape" ⟨"BottledPost$Tape", "readNumber", "()V"⟩ ⟨"BottledPost$Tape", "readNumber", "()V"⟩ ∈ aGT := wd_p1 (q := (⟨"BottledPost$Tape", "readNumber", "()V"⟩, 6)) 1 rfl
theorem wd_2 : Cond.selects "BottledPost$Tape" ⟨"BottledPost$Tape", "readWord", "()V"⟩ ⟨"BottledPost$Tape", "readWord", "()V"⟩ ∈ aGT := wd_p1 (q := (⟨"BottledPost$Tape", "readWord", "()V"⟩, 6)) 2 rfl
theorem wd_3 : Cond.selects "BottledPost$Tape" ⟨"BottledPost$Tape", "readSign", "(I)V"⟩ ⟨"BottledPost$Tape", "readSign", "(I)V"⟩ ∈ aGT := wd_p1 (q := (⟨"BottledPost$Tape", "readSign", "(I)V"⟩, 6)) 3 rfl
theorem wd_4 : Cond.selects "BottledPost$Grammar" ⟨"BottledPost$Grammar", "canBegin", "(LBottledPost$Tape;)Z"⟩ ⟨"BottledPost$Grammar", "canBegin", "(LBottledPost$Tape;)Z"⟩ ∈ aGT := wd_p1 (q := (⟨"BottledPost$Grammar", "canBegin", "(LBottledPost$Tape;)Z"⟩, 10)) 4 rfl
theorem wd_5 : Cond.selects "BottledPost$Grammar" ⟨"BottledPost$Grammar", "refuse", "(LBottledPost$Tape;I)V"⟩ ⟨"BottledPost$Grammar", "refuse", "(LBottledPost$Tape;I)V"⟩ ∈ aGT := wd_p1 (q := (⟨"BottledPost$Grammar", "refuse", "(LBottledPost$Tape;I)V"⟩, 10)) 5 rfl
theorem wd_6 : Cond.selects "BottledPost$Grammar" ⟨"BottledPost$Grammar", "readClause", "(LBottledPost$Tape;)V"⟩ ⟨"BottledPost$Grammar", "readClause", "(LBottledPost$Tape;)V"⟩ ∈ aGT := wd_p1 (q := (⟨"BottledPost$Grammar", "readClause", "(LBottledPost$Tape;)V"⟩, 10)) 6 rfl
theorem wd_7 : Cond.selects "BottledPost$Grammar" ⟨"BottledPost$Grammar", "notePart", "(II)V"⟩ ⟨"BottledPost$Grammar", "notePart", "(II)V"⟩ ∈ aGT := wd_p1 (q := (⟨"BottledPost$Grammar", "notePart", "(II)V"⟩, 10)) 7 rfl
theorem wd_8 : Cond.selects "BottledPost$Grammar" ⟨"BottledPost$Grammar", "readSum", "(LBottledPost$Tape;)V"⟩ ⟨"BottledPost$Grammar", "readSum", "(LBottledPost$Tape;)V"⟩ ∈ aGT := wd_p1 (q := (⟨"BottledPost$Grammar", "readSum", "(LBottledPost$Tape;)V"⟩, 10)) 8 rfl
theorem wd_9 : Cond.selects "BottledPost$Grammar" ⟨"BottledPost$Grammar", "readProduct", "(LBottledPost$Tape;)V"⟩ ⟨"BottledPost$Grammar", "readProduct", "(LBottledPost$Tape;)V"⟩ ∈ aGT := wd_p1 (q := (⟨"BottledPost$Grammar", "readProduct", "(LBottledPost$Tape;)V"⟩, 10)) 9 rfl
theorem wd_10 : Cond.selects "BottledPost$Grammar" ⟨"BottledPost$Grammar", "readOne", "(LBottledPost$Tape;)V"⟩ ⟨"BottledPost$Grammar", "readOne", "(LBottledPost$Tape;)V"⟩ ∈ aGT := wd_p1 (q := (⟨"BottledPost$Grammar", "readOne", "(LBottledPost$Tape;)V"⟩, 10)) 10 rfl
theorem wd_11 : Cond.selects "BottledPost$Grammar" ⟨"BottledPost$Grammar", "readPlainNumber", "(LBottledPost$Tape;)V"⟩ ⟨"BottledPost$Grammar", "readPlainNumber", "(LBottledPost$Tape;)V"⟩ ∈ aGT := wd_p1 (q := (⟨"BottledPost$Grammar", "readPlainNumber", "(LBottledPost$Tape;)V"⟩, 10)) 11 rfl
theorem wd_12 : Cond.selects "BottledPost$Grammar" ⟨"BottledPost$Grammar", "addSign", "(II)I"⟩ ⟨"BottledPost$Grammar", "addSign", "(II)I"⟩ ∈ aGT := wd_p1 (q := (⟨"BottledPost$Grammar", "addSign", "(II)I"⟩, 10)) 12 rfl
theorem wd_13 : Cond.selects "BottledPost$Grammar" ⟨"BottledPost$Grammar", "readName", "(LBottledPost$Tape;)V"⟩ ⟨"BottledPost$Grammar", "readName", "(LBottledPost$Tape;)V"⟩ ∈ aGT := wd_p1 (q := (⟨"BottledPost$Grammar", "readName", "(LBottledPost$Tape;)V"⟩, 10)) 13 rfl
theorem wd_14 : Cond.selects "BottledPost$Grammar" ⟨"BottledPost$Grammar", "readOpened", "(LBottledPost$Tape;)V"⟩ ⟨"BottledPost$Grammar", "readOpened", "(LBottledPost$Tape;)V"⟩ ∈ aGT := wd_p1 (q := (⟨"BottledPost$Grammar", "readOpened", "(LBottledPost$Tape;)V"⟩, 10)) 14 rfl
theorem wd_15 : Cond.selects "BottledPost$Grammar" ⟨"BottledPost$Grammar", "want", "(LBottledPost$Tape;I)V"⟩ ⟨"BottledPost$Grammar", "want", "(LBottledPost$Tape;I)V"⟩ ∈ aGT := wd_p1 (q := (⟨"BottledPost$Grammar", "want", "(LBottledPost$Tape;I)V"⟩, 10)) 15 rfl
theorem wd_16 : Cond.selects "BottledPost$Grammar" ⟨"BottledPost$Grammar", "sees", "(LBottledPost$Tape;I)Z"⟩ ⟨"BottledPost$Grammar", "sees", "(LBottledPost$Tape;I)Z"⟩ ∈ aGT := wd_p2 (q := (⟨"BottledPost$Grammar", "sees", "(LBottledPost$Tape;I)Z"⟩, 10)) 0 rfl
theorem wd_17 : Cond.selects "BottledPost$Grammar" ⟨"BottledPost$Grammar", "readIf", "(LBottledPost$Tape;)V"⟩ ⟨"BottledPost$Grammar", "readIf", "(LBottledPost$Tape;)V"⟩ ∈ aGT := wd_p2 (q := (⟨"BottledPost$Grammar", "readIf", "(LBottledPost$Tape;)V"⟩, 10)) 1 rfl
theorem wd_18 : Cond.selects "BottledPost$Grammar" ⟨"BottledPost$Grammar", "readEither", "(LBottledPost$Tape;)V"⟩ ⟨"BottledPost$Grammar", "readEither", "(LBottledPost$Tape;)V"⟩ ∈ aGT := wd_p2 (q := (⟨"BottledPost$Grammar", "readEither", "(LBottledPost$Tape;)V"⟩, 10)) 2 rfl
theorem wd_19 : Cond.selects "BottledPost$Grammar" ⟨"BottledPost$Grammar", "readBoth", "(LBottledPost$Tape;)V"⟩ ⟨"BottledPost$Grammar", "readBoth", "(LBottledPost$Tape;)V"⟩ ∈ aGT := wd_p2 (q := (⟨"BottledPost$Grammar", "readBoth", "(LBottledPost$Tape;)V"⟩, 10)) 3 rfl
theorem wd_20 : Cond.selects "BottledPost$Grammar" ⟨"BottledPost$Grammar", "readAsk", "(LBottledPost$Tape;)V"⟩ ⟨"BottledPost$Grammar", "readAsk", "(LBottledPost$Tape;)V"⟩ ∈ aGT := wd_p2 (q := (⟨"BottledPost$Grammar", "readAsk", "(LBottledPost$Tape;)V"⟩, 10)) 4 rfl
theorem wd_21 : Cond.selects "BottledPost$Grammar" ⟨"BottledPost$Grammar", "readComparison", "(LBottledPost$Tape;)V"⟩ ⟨"BottledPost$Grammar", "readComparison", "(LBottledPost$Tape;)V"⟩ ∈ aGT := wd_p2 (q := (⟨"BottledPost$Grammar", "readComparison", "(LBottledPost$Tape;)V"⟩, 10)) 5 rfl
theorem wd_22 : Cond.selects "BottledPost$Grammar" ⟨"BottledPost$Grammar", "readDenied", "(LBottledPost$Tape;)V"⟩ ⟨"BottledPost$Grammar", "readDenied", "(LBottledPost$Tape;)V"⟩ ∈ aGT := wd_p2 (q := (⟨"BottledPost$Grammar", "readDenied", "(LBottledPost$Tape;)V"⟩, 10)) 6 rfl
theorem wd_23 : Cond.selects "BottledPost$Grammar" ⟨"BottledPost$Grammar", "leadHere", "(II)V"⟩ ⟨"BottledPost$Grammar", "leadHere", "(II)V"⟩ ∈ aGT := wd_p2 (q := (⟨"BottledPost$Grammar", "leadHere", "(II)V"⟩, 10)) 7 rfl
theorem wd_24 : Cond.selects "BottledPost$Grammar" ⟨"BottledPost$Grammar", "endLaw", "()V"⟩ ⟨"BottledPost$Grammar", "endLaw", "()V"⟩ ∈ aGT := wd_p2 (q := (⟨"BottledPost$Grammar", "endLaw", "()V"⟩, 10)) 8 rfl
theorem wd_25 : Cond.selects "BottledPost$Grammar" ⟨"BottledPost$Grammar", "readNumbers", "(LBottledPost$Tape;I)V"⟩ ⟨"BottledPost$Grammar", "readNumbers", "(LBottledPost$Tape;I)V"⟩ ∈ aGT := wd_p2 (q := (⟨"BottledPost$Grammar", "readNumbers", "(LBottledPost$Tape;I)V"⟩, 10)) 9 rfl
theorem wd_26 : Cond.selects "BottledPost$Grammar" ⟨"BottledPost$Grammar", "readNumber", "(LBottledPost$Tape;III)V"⟩ ⟨"BottledPost$Grammar", "readNumber", "(LBottledPost$Tape;III)V"⟩ ∈ aGT := wd_p2 (q := (⟨"BottledPost$Grammar", "readNumber", "(LBottledPost$Tape;III)V"⟩, 10)) 10 rfl
theorem wd_27 : Cond.selects "BottledPost" ⟨"BottledPost", "tossBottle", "(IIIZ)I"⟩ ⟨"BottledPost", "tossBottle", "(IIIZ)I"⟩ ∈ aGT := wd_p2 (q := (⟨"BottledPost", "tossBottle", "(IIIZ)I"⟩, 10)) 11 rfl
theorem wd_28 : Cond.selects "BottledPost$Steps" ⟨"BottledPost$Steps", "forgetEldest", "()V"⟩ ⟨"BottledPost$Steps", "forgetEldest", "()V"⟩ ∈ aGT := wd_p2 (q := (⟨"BottledPost$Steps", "forgetEldest", "()V"⟩, 2)) 12 rfl
theorem wd_29 : Cond.selects "BottledPost$Steps" ⟨"BottledPost$Steps", "seaOf", "(I)LBottledPost$Sea;"⟩ ⟨"BottledPost$Steps", "seaOf", "(I)LBottledPost$Sea;"⟩ ∈ aGT := wd_p2 (q := (⟨"BottledPost$Steps", "seaOf", "(I)LBottledPost$Sea;"⟩, 2)) 13 rfl
theorem wd_30 : Cond.selects "BottledPost" ⟨"BottledPost", "fishBottle", "(IIZ)Z"⟩ ⟨"BottledPost", "fishBottle", "(IIZ)Z"⟩ ∈ aGT := wd_p2 (q := (⟨"BottledPost", "fishBottle", "(IIZ)Z"⟩, 10)) 14 rfl
theorem wd_31 : Cond.selects "BottledPost" ⟨"BottledPost", "tossAgain", "(IZ)Z"⟩ ⟨"BottledPost", "tossAgain", "(IZ)Z"⟩ ∈ aGT := wd_p2 (q := (⟨"BottledPost", "tossAgain", "(IZ)Z"⟩, 10)) 15 rfl
theorem wd_32 : Cond.selects "BottledPost" ⟨"BottledPost", "passTides", "(I)I"⟩ ⟨"BottledPost", "passTides", "(I)I"⟩ ∈ aGT := wd_p3 (q := (⟨"BottledPost", "passTides", "(I)I"⟩, 10)) 0 rfl
theorem wd_33 : Cond.selects "BottledPost$Laws" ⟨"BottledPost$Laws", "workOff", "([ILBottledPost$Sea;LBottledPost$Shore;I)I"⟩ ⟨"BottledPost$Laws", "workOff", "([ILBottledPost$Sea;LBottledPost$Shore;I)I"⟩ ∈ aGT := wd_p3 (q := (⟨"BottledPost$Laws", "workOff", "([ILBottledPost$Sea;LBottledPost$Shore;I)I"⟩, 2)) 1 rfl
theorem wd_34 : Cond.selects "BottledPost$Laws" ⟨"BottledPost$Laws", "pop", "()I"⟩ ⟨"BottledPost$Laws", "pop", "()I"⟩ ∈ aGT := wd_p3 (q := (⟨"BottledPost$Laws", "pop", "()I"⟩, 2)) 2 rfl
theorem wd_35 : Cond.selects "BottledPost$Laws" ⟨"BottledPost$Laws", "push", "(I)V"⟩ ⟨"BottledPost$Laws", "push", "(I)V"⟩ ∈ aGT := wd_p3 (q := (⟨"BottledPost$Laws", "push", "(I)V"⟩, 2)) 3 rfl
theorem wd_36 : Cond.selects "BottledPost" ⟨"BottledPost", "playClause", "(LBottledPost$Text;I)Z"⟩ ⟨"BottledPost", "playClause", "(LBottledPost$Text;I)Z"⟩ ∈ aGT := wd_p3 (q := (⟨"BottledPost", "playClause", "(LBottledPost$Text;I)Z"⟩, 10)) 4 rfl
theorem wd_37 : Cond.selects "BottledPost" ⟨"BottledPost", "liveYear", "(I)V"⟩ ⟨"BottledPost", "liveYear", "(I)V"⟩ ∈ aGT := wd_p3 (q := (⟨"BottledPost", "liveYear", "(I)V"⟩, 10)) 5 rfl
theorem wd_38 : Cond.selects "BottledPost$Routes" ⟨"BottledPost$Routes", "goOn", "(LBottledPost$Shore;IIIII)V"⟩ ⟨"BottledPost$Routes", "goOn", "(LBottledPost$Shore;IIIII)V"⟩ ∈ aGT := wd_p3 (q := (⟨"BottledPost$Routes", "goOn", "(LBottledPost$Shore;IIIII)V"⟩, 7)) 6 rfl
theorem wd_39 : Cond.selects "BottledPost$Routes" ⟨"BottledPost$Routes", "arrive", "(LBottledPost$Shore;III)V"⟩ ⟨"BottledPost$Routes", "arrive", "(LBottledPost$Shore;III)V"⟩ ∈ aGT := wd_p3 (q := (⟨"BottledPost$Routes", "arrive", "(LBottledPost$Shore;III)V"⟩, 7)) 7 rfl
theorem wd_40 : Cond.selects "BottledPost$Routes" ⟨"BottledPost$Routes", "goBy", "(ILBottledPost$Shore;IIIII)V"⟩ ⟨"BottledPost$Routes", "goBy", "(ILBottledPost$Shore;IIIII)V"⟩ ∈ aGT := wd_p3 (q := (⟨"BottledPost$Routes", "goBy", "(ILBottledPost$Shore;IIIII)V"⟩, 7)) 8 rfl
theorem wd_41 : Cond.selects "BottledPost$Riddles" ⟨"BottledPost$Riddles", "come", "(III)V"⟩ ⟨"BottledPost$Riddles", "come", "(III)V"⟩ ∈ aGT := wd_p3 (q := (⟨"BottledPost$Riddles", "come", "(III)V"⟩, 6)) 9 rfl
theorem wd_42 : Cond.selects "BottledPost$Riddles" ⟨"BottledPost$Riddles", "passOver", "(LBottledPost$Sayings;)V"⟩ ⟨"BottledPost$Riddles", "passOver", "(LBottledPost$Sayings;)V"⟩ ∈ aGT := wd_p3 (q := (⟨"BottledPost$Riddles", "passOver", "(LBottledPost$Sayings;)V"⟩, 6)) 10 rfl
theorem wd_43 : Cond.selects "BottledPost$Riddles" ⟨"BottledPost$Riddles", "putBehind", "(LBottledPost$Sayings;IIII)V"⟩ ⟨"BottledPost$Riddles", "putBehind", "(LBottledPost$Sayings;IIII)V"⟩ ∈ aGT := wd_p3 (q := (⟨"BottledPost$Riddles", "putBehind", "(LBottledPost$Sayings;IIII)V"⟩, 6)) 11 rfl
theorem wd_44 : Cond.selects "BottledPost" ⟨"BottledPost", "allSaidBy", "(LBottledPost$Text;)Z"⟩ ⟨"BottledPost", "allSaidBy", "(LBottledPost$Text;)Z"⟩ ∈ aGT := wd_p3 (q := (⟨"BottledPost", "allSaidBy", "(LBottledPost$Text;)Z"⟩, 10)) 12 rfl
theorem wd_45 : Cond.selects "BottledPostModel" ⟨"BottledPostModel", "four", "(I)V"⟩ ⟨"BottledPostModel", "four", "(I)V"⟩ ∈ aGT := wd_p3 (q := (⟨"BottledPostModel", "four", "(I)V"⟩, 34)) 13 rfl
theorem wd_46 : Cond.selects "BottledPostModel" ⟨"BottledPostModel", "readText", "()I"⟩ ⟨"BottledPostModel", "readText", "()I"⟩ ∈ aGT := wd_p3 (q := (⟨"BottledPostModel", "readText", "()I"⟩, 34)) 14 rfl
theorem wd_47 : Cond.selects "BottledPostModel" ⟨"BottledPostModel", "nextToken", "()V"⟩ ⟨"BottledPostModel", "nextToken", "()V"⟩ ∈ aGT := wd_p3 (q := (⟨"BottledPostModel", "nextToken", "()V"⟩, 34)) 15 rfl
theorem wd_48 : Cond.selects "BottledPostModel" ⟨"BottledPostModel", "byteAt", "(I)I"⟩ ⟨"BottledPostModel", "byteAt", "(I)I"⟩ ∈ aGT := wd_p4 (q := (⟨"BottledPostModel", "byteAt", "(I)I"⟩, 34)) 0 rfl
theorem wd_49 : Cond.selects "BottledPostModel" ⟨"BottledPostModel", "clause", "()I"⟩ ⟨"BottledPostModel", "clause", "()I"⟩ ∈ aGT := wd_p4 (q := (⟨"BottledPostModel", "clause", "()I"⟩, 34)) 1 rfl
theorem wd_50 : Cond.selects "BottledPostModel" ⟨"BottledPostModel", "sortOf", "()I"⟩ ⟨"BottledPostModel", "sortOf", "()I"⟩ ∈ aGT := wd_p4 (q := (⟨"BottledPostModel", "sortOf", "()I"⟩, 34)) 2 rfl
theorem wd_51 : Cond.selects "BottledPostModel" ⟨"BottledPostModel", "isWord", "(J)Z"⟩ ⟨"BottledPostModel", "isWord", "(J)Z"⟩ ∈ aGT := wd_p4 (q := (⟨"BottledPostModel", "isWord", "(J)Z"⟩, 34)) 3 rfl
theorem wd_52 : Cond.selects "BottledPostModel" ⟨"BottledPostModel", "isCurrent", "()Z"⟩ ⟨"BottledPostModel", "isCurrent", "()Z"⟩ ∈ aGT := wd_p4 (q := (⟨"BottledPostModel", "isCurrent", "()Z"⟩, 34)) 4 rfl
theorem wd_53 : Cond.selects "BottledPostModel" ⟨"BottledPostModel", "body", "(II)I"⟩ ⟨"BottledPostModel", "body", "(II)I"⟩ ∈ aGT := wd_p4 (q := (⟨"BottledPostModel", "body", "(II)I"⟩, 34)) 5 rfl
theorem wd_54 : Cond.selects "BottledPostModel" ⟨"BottledPostModel", "pair", "(IIJI)I"⟩ ⟨"BottledPostModel", "pair", "(IIJI)I"⟩ ∈ aGT := wd_p4 (q := (⟨"BottledPostModel", "pair", "(IIJI)I"⟩, 34)) 6 rfl
theorem wd_55 : Cond.selects "BottledPostModel" ⟨"BottledPostModel", "figure", "(III)I"⟩ ⟨"BottledPostModel", "figure", "(III)I"⟩ ∈ aGT := wd_p4 (q := (⟨"BottledPostModel", "figure", "(III)I"⟩, 34)) 7 rfl
theorem wd_56 : Cond.selects "BottledPostModel" ⟨"BottledPostModel", "worded", "(JIII)I"⟩ ⟨"BottledPostModel", "worded", "(JIII)I"⟩ ∈ aGT := wd_p4 (q := (⟨"BottledPostModel", "worded", "(JIII)I"⟩, 34)) 8 rfl
theorem wd_57 : Cond.selects "BottledPostModel" ⟨"BottledPostModel", "lawClause", "(I)I"⟩ ⟨"BottledPostModel", "lawClause", "(I)I"⟩ ∈ aGT := wd_p4 (q := (⟨"BottledPostModel", "lawClause", "(I)I"⟩, 34)) 9 rfl
theorem wd_58 : Cond.selects "BottledPostModel" ⟨"BottledPostModel", "summed", "()I"⟩ ⟨"BottledPostModel", "summed", "()I"⟩ ∈ aGT := wd_p4 (q := (⟨"BottledPostModel", "summed", "()I"⟩, 34)) 10 rfl
theorem wd_59 : Cond.selects "BottledPostModel" ⟨"BottledPostModel", "behindOne", "()I"⟩ ⟨"BottledPostModel", "behindOne", "()I"⟩ ∈ aGT := wd_p4 (q := (⟨"BottledPostModel", "behindOne", "()I"⟩, 34)) 11 rfl
theorem wd_60 : Cond.selects "BottledPostModel" ⟨"BottledPostModel", "betweenOf", "()I"⟩ ⟨"BottledPostModel", "betweenOf", "()I"⟩ ∈ aGT := wd_p4 (q := (⟨"BottledPostModel", "betweenOf", "()I"⟩, 34)) 12 rfl
theorem wd_61 : Cond.selects "BottledPostModel" ⟨"BottledPostModel", "openNow", "()I"⟩ ⟨"BottledPostModel", "openNow", "()I"⟩ ∈ aGT := wd_p4 (q := (⟨"BottledPostModel", "openNow", "()I"⟩, 34)) 13 rfl
theorem wd_62 : Cond.selects "BottledPostModel" ⟨"BottledPostModel", "openAt", "()I"⟩ ⟨"BottledPostModel", "openAt", "()I"⟩ ∈ aGT := wd_p4 (q := (⟨"BottledPostModel", "openAt", "()I"⟩, 34)) 14 rfl
theorem wd_63 : Cond.selects "BottledPostModel" ⟨"BottledPostModel", "isCompared", "()Z"⟩ ⟨"BottledPostModel", "isCompared", "()Z"⟩ ∈ aGT := wd_p4 (q := (⟨"BottledPostModel", "isCompared", "()Z"⟩, 34)) 15 rfl
theorem wd_64 : Cond.selects "BottledPostModel" ⟨"BottledPostModel", "compareOf", "()I"⟩ ⟨"BottledPostModel", "compareOf", "()I"⟩ ∈ aGT := wd_p5 (q := (⟨"BottledPostModel", "compareOf", "()I"⟩, 34)) 0 rfl
theorem wd_65 : Cond.selects "BottledPostModel" ⟨"BottledPostModel", "settle", "(I)V"⟩ ⟨"BottledPostModel", "settle", "(I)V"⟩ ∈ aGT := wd_p5 (q := (⟨"BottledPostModel", "settle", "(I)V"⟩, 34)) 1 rfl
theorem wd_66 : Cond.selects "BottledPostModel" ⟨"BottledPostModel", "emit", "(II)V"⟩ ⟨"BottledPostModel", "emit", "(II)V"⟩ ∈ aGT := wd_p5 (q := (⟨"BottledPostModel", "emit", "(II)V"⟩, 34)) 2 rfl
theorem wd_67 : Cond.selects "BottledPostModel" ⟨"BottledPostModel", "partOf", "(I)I"⟩ ⟨"BottledPostModel", "partOf", "(I)I"⟩ ∈ aGT := wd_p5 (q := (⟨"BottledPostModel", "partOf", "(I)I"⟩, 34)) 3 rfl
theorem wd_68 : Cond.selects "BottledPostModel" ⟨"BottledPostModel", "endOne", "()I"⟩ ⟨"BottledPostModel", "endOne", "()I"⟩ ∈ aGT := wd_p5 (q := (⟨"BottledPostModel", "endOne", "()I"⟩, 34)) 4 rfl
theorem wd_69 : Cond.selects "BottledPostModel" ⟨"BottledPostModel", "beginOne", "()I"⟩ ⟨"BottledPostModel", "beginOne", "()I"⟩ ∈ aGT := wd_p5 (q := (⟨"BottledPostModel", "beginOne", "()I"⟩, 34)) 5 rfl
theorem wd_70 : Cond.selects "BottledPostModel" ⟨"BottledPostModel", "nameOf", "()I"⟩ ⟨"BottledPostModel", "nameOf", "()I"⟩ ∈ aGT := wd_p5 (q := (⟨"BottledPostModel", "nameOf", "()I"⟩, 34)) 6 rfl
theorem wd_71 : Cond.selects "BottledPostModel" ⟨"BottledPostModel", "opened", "(I)I"⟩ ⟨"BottledPostModel", "opened", "(I)I"⟩ ∈ aGT := wd_p5 (q := (⟨"BottledPostModel", "opened", "(I)I"⟩, 34)) 7 rfl
theorem wd_72 : Cond.selects "BottledPostModel" ⟨"BottledPostModel", "isAskAhead", "()Z"⟩ ⟨"BottledPostModel", "isAskAhead", "()Z"⟩ ∈ aGT := wd_p5 (q := (⟨"BottledPostModel", "isAskAhead", "()Z"⟩, 34)) 8 rfl
theorem wd_73 : Cond.selects "BottledPostModel" ⟨"BottledPostModel", "canToss", "(II)Z"⟩ ⟨"BottledPostModel", "canToss", "(II)Z"⟩ ∈ aGT := wd_p5 (q := (⟨"BottledPostModel", "canToss", "(II)Z"⟩, 34)) 9 rfl
theorem wd_74 : Cond.selects "BottledPostModel" ⟨"BottledPostModel", "isPerson", "(I)Z"⟩ ⟨"BottledPostModel", "isPerson", "(I)Z"⟩ ∈ aGT := wd_p5 (q := (⟨"BottledPostModel", "isPerson", "(I)Z"⟩, 34)) 10 rfl
theorem wd_75 : Cond.selects "BottledPostModel" ⟨"BottledPostModel", "keep", "()V"⟩ ⟨"BottledPostModel", "keep", "()V"⟩ ∈ aGT := wd_p5 (q := (⟨"BottledPostModel", "keep", "()V"⟩, 34)) 11 rfl
theorem wd_76 : Cond.selects "BottledPostModel" ⟨"BottledPostModel", "tossNow", "(III)V"⟩ ⟨"BottledPostModel", "tossNow", "(III)V"⟩ ∈ aGT := wd_p5 (q := (⟨"BottledPostModel", "tossNow", "(III)V"⟩, 34)) 12 rfl
theorem wd_77 : Cond.selects "BottledPostModel" ⟨"BottledPostModel", "put", "(III)V"⟩ ⟨"BottledPostModel", "put", "(III)V"⟩ ∈ aGT := wd_p5 (q := (⟨"BottledPostModel", "put", "(III)V"⟩, 34)) 13 rfl
theorem wd_78 : Cond.selects "BottledPostModel" ⟨"BottledPostModel", "own", "(II)I"⟩ ⟨"BottledPostModel", "own", "(II)I"⟩ ∈ aGT := wd_p5 (q := (⟨"BottledPostModel", "own", "(II)I"⟩, 34)) 14 rfl
theorem wd_79 : Cond.selects "BottledPostModel" ⟨"BottledPostModel", "canFish", "(II)Z"⟩ ⟨"BottledPostModel", "canFish", "(II)Z"⟩ ∈ aGT := wd_p5 (q := (⟨"BottledPostModel", "canFish", "(II)Z"⟩, 34)) 15 rfl
theorem wd_80 : Cond.selects "BottledPostModel" ⟨"BottledPostModel", "isAfloat", "(I)Z"⟩ ⟨"BottledPostModel", "isAfloat", "(I)Z"⟩ ∈ aGT := wd_p6 (q := (⟨"BottledPostModel", "isAfloat", "(I)Z"⟩, 34)) 0 rfl
theorem wd_81 : Cond.selects "BottledPostModel" ⟨"BottledPostModel", "isBottle", "(I)Z"⟩ ⟨"BottledPostModel", "isBottle", "(I)Z"⟩ ∈ aGT := wd_p6 (q := (⟨"BottledPostModel", "isBottle", "(I)Z"⟩, 34)) 1 rfl
theorem wd_82 : Cond.selects "BottledPostModel" ⟨"BottledPostModel", "get", "(II)I"⟩ ⟨"BottledPostModel", "get", "(II)I"⟩ ∈ aGT := wd_p6 (q := (⟨"BottledPostModel", "get", "(II)I"⟩, 34)) 2 rfl
theorem wd_83 : Cond.selects "BottledPostModel" ⟨"BottledPostModel", "fishNow", "(II)V"⟩ ⟨"BottledPostModel", "fishNow", "(II)V"⟩ ∈ aGT := wd_p6 (q := (⟨"BottledPostModel", "fishNow", "(II)V"⟩, 34)) 3 rfl
theorem wd_84 : Cond.selects "BottledPostModel" ⟨"BottledPostModel", "write", "(II)V"⟩ ⟨"BottledPostModel", "write", "(II)V"⟩ ∈ aGT := wd_p6 (q := (⟨"BottledPostModel", "write", "(II)V"⟩, 34)) 4 rfl
theorem wd_85 : Cond.selects "BottledPostModel" ⟨"BottledPostModel", "canAgain", "(I)Z"⟩ ⟨"BottledPostModel", "canAgain", "(I)Z"⟩ ∈ aGT := wd_p6 (q := (⟨"BottledPostModel", "canAgain", "(I)Z"⟩, 34)) 5 rfl
theorem wd_86 : Cond.selects "BottledPostModel" ⟨"BottledPostModel", "againNow", "(I)V"⟩ ⟨"BottledPostModel", "againNow", "(I)V"⟩ ∈ aGT := wd_p6 (q := (⟨"BottledPostModel", "againNow", "(I)V"⟩, 34)) 6 rfl
theorem wd_87 : Cond.selects "BottledPostModel" ⟨"BottledPostModel", "arePassed", "(I)Z"⟩ ⟨"BottledPostModel", "arePassed", "(I)Z"⟩ ∈ aGT := wd_p6 (q := (⟨"BottledPostModel", "arePassed", "(I)Z"⟩, 34)) 7 rfl
theorem wd_88 : Cond.selects "BottledPostModel" ⟨"BottledPostModel", "pass", "()V"⟩ ⟨"BottledPostModel", "pass", "()V"⟩ ∈ aGT := wd_p6 (q := (⟨"BottledPostModel", "pass", "()V"⟩, 34)) 8 rfl
theorem wd_89 : Cond.selects "BottledPostModel" ⟨"BottledPostModel", "floatOn", "(I)V"⟩ ⟨"BottledPostModel", "floatOn", "(I)V"⟩ ∈ aGT := wd_p6 (q := (⟨"BottledPostModel", "floatOn", "(I)V"⟩, 34)) 9 rfl
theorem wd_90 : Cond.selects "BottledPostModel" ⟨"BottledPostModel", "flowsTo", "(II)I"⟩ ⟨"BottledPostModel", "flowsTo", "(II)I"⟩ ∈ aGT := wd_p6 (q := (⟨"BottledPostModel", "flowsTo", "(II)I"⟩, 34)) 10 rfl
theorem wd_91 : Cond.selects "BottledPostModel" ⟨"BottledPostModel", "wearsOf", "(I)I"⟩ ⟨"BottledPostModel", "wearsOf", "(I)I"⟩ ∈ aGT := wd_p6 (q := (⟨"BottledPostModel", "wearsOf", "(I)I"⟩, 34)) 11 rfl
theorem wd_92 : Cond.selects "BottledPostModel" ⟨"BottledPostModel", "name", "(I)V"⟩ ⟨"BottledPostModel", "name", "(I)V"⟩ ∈ aGT := wd_p6 (q := (⟨"BottledPostModel", "name", "(I)V"⟩, 34)) 12 rfl
theorem wd_93 : Cond.selects "BottledPostModel" ⟨"BottledPostModel", "afloatAt", "(I)I"⟩ ⟨"BottledPostModel", "afloatAt", "(I)I"⟩ ∈ aGT := wd_p6 (q := (⟨"BottledPostModel", "afloatAt", "(I)I"⟩, 34)) 13 rfl
theorem wd_94 : Cond.selects "BottledPostModel" ⟨"BottledPostModel", "says", "(IIII)I"⟩ ⟨"BottledPostModel", "says", "(IIII)I"⟩ ∈ aGT := wd_p6 (q := (⟨"BottledPostModel", "says", "(IIII)I"⟩, 34)) 14 rfl
theorem wd_95 : Cond.selects "BottledPostModel" ⟨"BottledPostModel", "summedUp", "(II)J"⟩ ⟨"BottledPostModel", "summedUp", "(II)J"⟩ ∈ aGT := wd_p6 (q := (⟨"BottledPostModel", "summedUp", "(II)J"⟩, 34)) 15 rfl
theorem wd_96 : Cond.selects "BottledPostModel" ⟨"BottledPostModel", "placesOf", "(J)J"⟩ ⟨"BottledPostModel", "placesOf", "(J)J"⟩ ∈ aGT := wd_p7 (q := (⟨"BottledPostModel", "placesOf", "(J)J"⟩, 34)) 0 rfl
theorem wd_97 : Cond.selects "BottledPostModel" ⟨"BottledPostModel", "finish", "(II)V"⟩ ⟨"BottledPostModel", "finish", "(II)V"⟩ ∈ aGT := wd_p7 (q := (⟨"BottledPostModel", "finish", "(II)V"⟩, 34)) 1 rfl
theorem wd_98 : Cond.selects "BottledPostModel" ⟨"BottledPostModel", "comesOf", "(II)I"⟩ ⟨"BottledPostModel", "comesOf", "(II)I"⟩ ∈ aGT := wd_p7 (q := (⟨"BottledPostModel", "comesOf", "(II)I"⟩, 34)) 2 rfl
theorem wd_99 : Cond.selects "BottledPostModel" ⟨"BottledPostModel", "anew", "()V"⟩ ⟨"BottledPostModel", "anew", "()V"⟩ ∈ aGT := wd_p7 (q := (⟨"BottledPostModel", "anew", "()V"⟩, 34)) 3 rfl
theorem wd_100 : Cond.selects "BottledPostModel" ⟨"BottledPostModel", "isPlayed", "(I)Z"⟩ ⟨"BottledPostModel", "isPlayed", "(I)Z"⟩ ∈ aGT := wd_p7 (q := (⟨"BottledPostModel", "isPlayed", "(I)Z"⟩, 34)) 4 rfl
theorem wd_101 : Cond.selects "BottledPostModel" ⟨"BottledPostModel", "happens", "(I)V"⟩ ⟨"BottledPostModel", "happens", "(I)V"⟩ ∈ aGT := wd_p7 (q := (⟨"BottledPostModel", "happens", "(I)V"⟩, 34)) 5 rfl
theorem wd_102 : Cond.selects "BottledPostModel" ⟨"BottledPostModel", "cameTo", "(I)I"⟩ ⟨"BottledPostModel", "cameTo", "(I)I"⟩ ∈ aGT := wd_p7 (q := (⟨"BottledPostModel", "cameTo", "(I)I"⟩, 34)) 6 rfl
theorem wd_103 : Cond.selects "BottledPostModel" ⟨"BottledPostModel", "withHow", "(I)I"⟩ ⟨"BottledPostModel", "withHow", "(I)I"⟩ ∈ aGT := wd_p7 (q := (⟨"BottledPostModel", "withHow", "(I)I"⟩, 34)) 7 rfl
theorem wd_104 : Cond.selects "BottledPostModel" ⟨"BottledPostModel", "entry", "(II)I"⟩ ⟨"BottledPostModel", "entry", "(II)I"⟩ ∈ aGT := wd_p7 (q := (⟨"BottledPostModel", "entry", "(II)I"⟩, 34)) 8 rfl
theorem wd_105 : Cond.selects "BottledPostModel" ⟨"BottledPostModel", "setAside", "()V"⟩ ⟨"BottledPostModel", "setAside", "()V"⟩ ∈ aGT := wd_p7 (q := (⟨"BottledPostModel", "setAside", "()V"⟩, 34)) 9 rfl
theorem wd_106 : Cond.selects "BottledPostModel" ⟨"BottledPostModel", "putBack", "()V"⟩ ⟨"BottledPostModel", "putBack", "()V"⟩ ∈ aGT := wd_p7 (q := (⟨"BottledPostModel", "putBack", "()V"⟩, 34)) 10 rfl
theorem wd_107 : Cond.selects "BottledPostModel" ⟨"BottledPostModel", "drifted", "(III)I"⟩ ⟨"BottledPostModel", "drifted", "(III)I"⟩ ∈ aGT := wd_p7 (q := (⟨"BottledPostModel", "drifted", "(III)I"⟩, 34)) 11 rfl
theorem wd_108 : Cond.selects "BottledPostModel" ⟨"BottledPostModel", "layRelay", "(II)V"⟩ ⟨"BottledPostModel", "layRelay", "(II)V"⟩ ∈ aGT := wd_p7 (q := (⟨"BottledPostModel", "layRelay", "(II)V"⟩, 34)) 12 rfl
theorem wd_109 : Cond.selects "BottledPostModel" ⟨"BottledPostModel", "isNextRow", "(IIII)Z"⟩ ⟨"BottledPostModel", "isNextRow", "(IIII)Z"⟩ ∈ aGT := wd_p7 (q := (⟨"BottledPostModel", "isNextRow", "(IIII)Z"⟩, 34)) 13 rfl
theorem wd_110 : Cond.selects "BottledPostModel" ⟨"BottledPostModel", "isNew", "(III)Z"⟩ ⟨"BottledPostModel", "isNew", "(III)Z"⟩ ∈ aGT := wd_p7 (q := (⟨"BottledPostModel", "isNew", "(III)Z"⟩, 34)) 14 rfl
theorem wd_111 : Cond.selects "BottledPostModel" ⟨"BottledPostModel", "whenBy", "(III)I"⟩ ⟨"BottledPostModel", "whenBy", "(III)I"⟩ ∈ aGT := wd_p7 (q := (⟨"BottledPostModel", "whenBy", "(III)I"⟩, 34)) 15 rfl
theorem wd_112 : Cond.selects "BottledPostModel" ⟨"BottledPostModel", "hopOf", "(III)I"⟩ ⟨"BottledPostModel", "hopOf", "(III)I"⟩ ∈ aGT := wd_p8 (q := (⟨"BottledPostModel", "hopOf", "(III)I"⟩, 34)) 0 rfl
theorem wd_113 : Cond.selects "BottledPostModel" ⟨"BottledPostModel", "isFrom", "(II)Z"⟩ ⟨"BottledPostModel", "isFrom", "(II)Z"⟩ ∈ aGT := wd_p8 (q := (⟨"BottledPostModel", "isFrom", "(II)Z"⟩, 34)) 1 rfl
theorem wd_114 : Cond.selects "BottledPostModel" ⟨"BottledPostModel", "shortestTwo", "()I"⟩ ⟨"BottledPostModel", "shortestTwo", "()I"⟩ ∈ aGT := wd_p8 (q := (⟨"BottledPostModel", "shortestTwo", "()I"⟩, 34)) 2 rfl
theorem wd_115 : Cond.selects "BottledPostModel" ⟨"BottledPostModel", "isShorter", "(II)Z"⟩ ⟨"BottledPostModel", "isShorter", "(II)Z"⟩ ∈ aGT := wd_p8 (q := (⟨"BottledPostModel", "isShorter", "(II)Z"⟩, 34)) 3 rfl
theorem wd_116 : Cond.selects "BottledPostModel" ⟨"BottledPostModel", "isSpread", "(I)Z"⟩ ⟨"BottledPostModel", "isSpread", "(I)Z"⟩ ∈ aGT := wd_p8 (q := (⟨"BottledPostModel", "isSpread", "(I)Z"⟩, 34)) 4 rfl
theorem wd_117 : Cond.selects "BottledPostModel" ⟨"BottledPostModel", "laySorters", "(I)I"⟩ ⟨"BottledPostModel", "laySorters", "(I)I"⟩ ∈ aGT := wd_p8 (q := (⟨"BottledPostModel", "laySorters", "(I)I"⟩, 34)) 5 rfl
theorem wd_118 : Cond.selects "BottledPostModel" ⟨"BottledPostModel", "areSorted", "(II)Z"⟩ ⟨"BottledPostModel", "areSorted", "(II)Z"⟩ ∈ aGT := wd_p8 (q := (⟨"BottledPostModel", "areSorted", "(II)Z"⟩, 34)) 6 rfl
theorem wd_119 : Cond.selects "BottledPostModel" ⟨"BottledPostModel", "canSort", "(I)Z"⟩ ⟨"BottledPostModel", "canSort", "(I)Z"⟩ ∈ aGT := wd_p8 (q := (⟨"BottledPostModel", "canSort", "(I)Z"⟩, 34)) 7 rfl
theorem wd_120 : Cond.selects "BottledPostModel" ⟨"BottledPostModel", "countOrders", "(III)J"⟩ ⟨"BottledPostModel", "countOrders", "(III)J"⟩ ∈ aGT := wd_p8 (q := (⟨"BottledPostModel", "countOrders", "(III)J"⟩, 34)) 8 rfl
theorem wd_122 : Cond.initialized "BottledPost" ∈ aGT := wd_c1 1 rfl rfl
theorem wd_123 : Cond.initialized "BottledPost$World" ∈ aGT := wd_c1 2 rfl rfl
theorem wd_124 : Cond.initialized "BottledPost$Shore" ∈ aGT := wd_c1 3 rfl rfl
theorem wd_125 : Cond.initialized "BottledPost$Sea" ∈ aGT := wd_c1 4 rfl rfl
theorem wd_126 : Cond.initialized "BottledPost$Book" ∈ aGT := wd_c1 5 rfl rfl
theorem wd_127 : Cond.initialized "BottledPost$Steps" ∈ aGT := wd_c1 6 rfl rfl
theorem wd_128 : Cond.initialized "BottledPost$Sayings" ∈ aGT := wd_c1 7 rfl rfl
theorem wd_129 : Cond.initialized "BottledPost$Tape" ∈ aGT := wd_c1 8 rfl rfl
theorem wd_130 : Cond.initialized "BottledPost$Grammar" ∈ aGT := wd_c1 9 rfl rfl
theorem wd_131 : Cond.initialized "BottledPost$Laws" ∈ aGT := wd_c1 10 rfl rfl
theorem wd_132 : Cond.initialized "BottledPost$Routes" ∈ aGT := wd_c1 11 rfl rfl
theorem wd_133 : Cond.initialized "BottledPost$Riddles" ∈ aGT := wd_c1 12 rfl rfl
theorem wd_134 : Cond.initialized "BottledPostModel" ∈ aGT := wd_c1 13 rfl rfl
theorem wd_135 : Cond.initialized "java/lang/Math" ∈ aGT := wd_c1 14 rfl rfl
theorem wd_136 : Cond.initialized "java/lang/String" ∈ aGT := wd_c1 15 rfl rfl
theorem wd_137 : Cond.initialized "java/lang/StringLatin1" ∈ aGT := wd_c1 16 rfl rfl
theorem wd_138 : Cond.initialized "jdk/internal/util/Preconditions" ∈ aGT := wd_c1 17 rfl rfl
theorem wd_140 : Cond.initialized "java/util/Arrays" ∈ aGT := wd_c1 19 rfl rfl
theorem wd_141 : Cond.initialized "java/lang/System" ∈ aGT := wd_c1 20 rfl rfl
theorem wd_142 : Cond.initialized "BottledPost$Text" ∈ aGT := wd_c1 21 rfl rfl
theorem wd_143 : Cond.classLink "BottledPostLaw" 7 "BottledPost" ∈ aGT := wd_c1 22 rfl rfl
theorem wd_144 : Cond.instantiable "BottledPost" 10 ∈ aGT := wd_c1 23 rfl rfl
theorem wd_145 : Cond.methodLink "BottledPostLaw" 9 ⟨"BottledPost", "<init>", "()V"⟩ ∈ aGT := wd_c1 24 rfl rfl
theorem wd_146 : Cond.instanceMethod ⟨"BottledPost", "<init>", "()V"⟩ ∈ aGT := wd_c1 25 rfl rfl
theorem wd_147 : Cond.code ⟨"BottledPost", "<init>", "()V"⟩ prog_1_method_1_code 1 (none) ∈ aGT := wd_c1 26 rfl rfl
theorem wd_148 : Cond.methodLink "BottledPost" 1 ⟨"java/lang/Object", "<init>", "()V"⟩ ∈ aGT := wd_c1 27 rfl rfl
theorem wd_149 : Cond.instanceMethod ⟨"java/lang/Object", "<init>", "()V"⟩ ∈ aGT := wd_c1 28 rfl rfl
theorem wd_150 : Cond.code ⟨"java/lang/Object", "<init>", "()V"⟩ object_method_1_code 1 (none) ∈ aGT := wd_c1 29 rfl rfl
theorem wd_151 : Cond.classLink "BottledPost" 7 "BottledPost$World" ∈ aGT := wd_c1 30 rfl rfl
theorem wd_152 : Cond.instantiable "BottledPost$World" 7 ∈ aGT := wd_c1 31 rfl rfl
theorem wd_154 : Cond.instanceMethod ⟨"BottledPost$World", "<init>", "()V"⟩ ∈ aGT := wd_c1 33 rfl rfl
theorem wd_155 : Cond.code ⟨"BottledPost$World", "<init>", "()V"⟩ prog_13_method_1_code 1 (none) ∈ aGT := wd_c1 34 rfl rfl
theorem wd_156 : Cond.methodLink "BottledPost$World" 3 ⟨"java/lang/Object", "<init>", "()V"⟩ ∈ aGT := wd_c1 35 rfl rfl
theorem wd_157 : Cond.classLink "BottledPost$World" 9 "BottledPost$Shore" ∈ aGT := wd_c1 36 rfl rfl
theorem wd_158 : Cond.instantiable "BottledPost$Shore" 4 ∈ aGT := wd_c1 37 rfl rfl
theorem wd_159 : Cond.methodLink "BottledPost$World" 11 ⟨"BottledPost$Shore", "<init>", "()V"⟩ ∈ aGT := wd_c1 38 rfl rfl
theorem wd_160 : Cond.instanceMethod ⟨"BottledPost$Shore", "<init>", "()V"⟩ ∈ aGT := wd_c1 39 rfl rfl
theorem wd_161 : Cond.code ⟨"BottledPost$Shore", "<init>", "()V"⟩ prog_9_method_1_code 2 (none) ∈ aGT := wd_c1 40 rfl rfl
theorem wd_162 : Cond.methodLink "BottledPost$Shore" 3 ⟨"java/lang/Object", "<init>", "()V"⟩ ∈ aGT := wd_c1 41 rfl rfl
theorem wd_164 : Cond.static ⟨"BottledPost", "setCell", "([III)V"⟩ ∈ aGT := wd_c1 43 rfl rfl
theorem wd_165 : Cond.code ⟨"BottledPost", "setCell", "([III)V"⟩ prog_1_method_59_code 3 (none) ∈ aGT := wd_c1 44 rfl rfl
theorem wd_166 : Cond.fieldLink "BottledPost$Shore" 9 "BottledPost$Shore" "places" "[I" ∈ aGT := wd_c1 45 rfl rfl
theorem wd_167 : Cond.fieldLink "BottledPost$Shore" 15 "BottledPost$Shore" "lucks" "[I" ∈ aGT := wd_c1 46 rfl rfl
theorem wd_168 : Cond.fieldLink "BottledPost$Shore" 18 "BottledPost$Shore" "leads" "[I" ∈ aGT := wd_c1 47 rfl rfl
theorem wd_169 : Cond.fieldLink "BottledPost$Shore" 21 "BottledPost$Shore" "persons" "I" ∈ aGT := wd_c1 48 rfl rfl
theorem wd_170 : Cond.fieldLink "BottledPost$Routes" 49 "BottledPost$Shore" "persons" "I" ∈ aGT := wd_c1 49 rfl rfl
theorem wd_171 : Cond.fieldLink "BottledPost" 216 "BottledPost$Shore" "persons" "I" ∈ aGT := wd_c1 50 rfl rfl
theorem wd_172 : Cond.laysFinal "BottledPost$Shore" "BottledPost$Shore" "places" "[I" ∈ aGT := wd_c1 51 rfl rfl
theorem wd_174 : Cond.laysFinal "BottledPost$Shore" "BottledPost$Shore" "lucks" "[I" ∈ aGT := wd_c1 53 rfl rfl
theorem wd_176 : Cond.laysFinal "BottledPost$Shore" "BottledPost$Shore" "leads" "[I" ∈ aGT := wd_c1 55 rfl rfl
theorem wd_178 : Cond.lays "BottledPost$Shore" "BottledPost$Shore" "persons" "I" ∈ aGT := wd_c1 57 rfl rfl
theorem wd_181 : Cond.arrayClass .int ∈ aGT := wd_c1 60 rfl rfl
theorem wd_182 : Cond.classLink "BottledPost$World" 18 "BottledPost$Sea" ∈ aGT := wd_c1 61 rfl rfl
theorem wd_183 : Cond.instantiable "BottledPost$Sea" 5 ∈ aGT := wd_c1 62 rfl rfl
theorem wd_185 : Cond.instanceMethod ⟨"BottledPost$Sea", "<init>", "()V"⟩ ∈ aGT := wd_c1 64 rfl rfl
theorem wd_186 : Cond.code ⟨"BottledPost$Sea", "<init>", "()V"⟩ prog_8_method_1_code 1 (none) ∈ aGT := wd_c1 65 rfl rfl
theorem wd_187 : Cond.methodLink "BottledPost$Sea" 3 ⟨"java/lang/Object", "<init>", "()V"⟩ ∈ aGT := wd_c1 66 rfl rfl
theorem wd_188 : Cond.classLink "BottledPost$Sea" 15 "BottledPost$Book" ∈ aGT := wd_c1 67 rfl rfl
theorem wd_189 : Cond.instantiable "BottledPost$Book" 2 ∈ aGT := wd_c1 68 rfl rfl
theorem wd_191 : Cond.instanceMethod ⟨"BottledPost$Book", "<init>", "()V"⟩ ∈ aGT := wd_c1 70 rfl rfl
theorem wd_192 : Cond.code ⟨"BottledPost$Book", "<init>", "()V"⟩ prog_2_method_1_code 1 (none) ∈ aGT := wd_c1 71 rfl rfl
theorem wd_193 : Cond.methodLink "BottledPost$Book" 3 ⟨"java/lang/Object", "<init>", "()V"⟩ ∈ aGT := wd_c1 72 rfl rfl
theorem wd_194 : Cond.fieldLink "BottledPost$Book" 11 "BottledPost$Book" "rows" "[I" ∈ aGT := wd_c1 73 rfl rfl
theorem wd_195 : Cond.fieldLink "BottledPost$Book" 15 "BottledPost$Book" "lines" "I" ∈ aGT := wd_c1 74 rfl rfl
theorem wd_196 : Cond.fieldLink "BottledPost" 245 "BottledPost$Book" "lines" "I" ∈ aGT := wd_c1 75 rfl rfl
theorem wd_197 : Cond.laysFinal "BottledPost$Book" "BottledPost$Book" "rows" "[I" ∈ aGT := wd_c1 76 rfl rfl
theorem wd_199 : Cond.lays "BottledPost$Book" "BottledPost$Book" "lines" "I" ∈ aGT := wd_c1 78 rfl rfl
theorem wd_202 : Cond.fieldLink "BottledPost$Sea" 9 "BottledPost$Sea" "rows" "[I" ∈ aGT := wd_c1 81 rfl rfl
theorem wd_203 : Cond.fieldLink "BottledPost$Sea" 18 "BottledPost$Sea" "book" "LBottledPost$Book;" ∈ aGT := wd_c1 82 rfl rfl
theorem wd_204 : Cond.fieldLink "BottledPost" 241 "BottledPost$Sea" "book" "LBottledPost$Book;" ∈ aGT := wd_c1 83 rfl rfl
theorem wd_205 : Cond.fieldLink "BottledPost$Sea" 22 "BottledPost$Sea" "bottles" "I" ∈ aGT := wd_c1 84 rfl rfl
theorem wd_206 : Cond.fieldLink "BottledPost$Laws" 19 "BottledPost$Sea" "bottles" "I" ∈ aGT := wd_c1 85 rfl rfl
theorem wd_207 : Cond.fieldLink "BottledPost" 178 "BottledPost$Sea" "bottles" "I" ∈ aGT := wd_c1 86 rfl rfl
theorem wd_208 : Cond.fieldLink "BottledPost$Sea" 26 "BottledPost$Sea" "tide" "I" ∈ aGT := wd_c1 87 rfl rfl
theorem wd_209 : Cond.fieldLink "BottledPost$Laws" 28 "BottledPost$Sea" "tide" "I" ∈ aGT := wd_c1 88 rfl rfl
theorem wd_210 : Cond.fieldLink "BottledPost" 131 "BottledPost$Sea" "tide" "I" ∈ aGT := wd_c1 89 rfl rfl
theorem wd_211 : Cond.fieldLink "BottledPost$Sea" 29 "BottledPost$Sea" "x" "I" ∈ aGT := wd_c1 90 rfl rfl
theorem wd_212 : Cond.fieldLink "BottledPost" 162 "BottledPost$Sea" "x" "I" ∈ aGT := wd_c1 91 rfl rfl
theorem wd_213 : Cond.laysFinal "BottledPost$Sea" "BottledPost$Sea" "rows" "[I" ∈ aGT := wd_c1 92 rfl rfl
theorem wd_215 : Cond.laysFinal "BottledPost$Sea" "BottledPost$Sea" "book" "LBottledPost$Book;" ∈ aGT := wd_c1 94 rfl rfl
theorem wd_217 : Cond.lays "BottledPost$Sea" "BottledPost$Sea" "bottles" "I" ∈ aGT := wd_c1 96 rfl rfl
theorem wd_219 : Cond.lays "BottledPost$Sea" "BottledPost$Sea" "tide" "I" ∈ aGT := wd_c1 98 rfl rfl
theorem wd_221 : Cond.lays "BottledPost$Sea" "BottledPost$Sea" "x" "I" ∈ aGT := wd_c1 100 rfl rfl
theorem wd_224 : Cond.classLink "BottledPost$World" 25 "BottledPost$Steps" ∈ aGT := wd_c1 103 rfl rfl
theorem wd_225 : Cond.instantiable "BottledPost$Steps" 2 ∈ aGT := wd_c1 104 rfl rfl
theorem wd_226 : Cond.methodLink "BottledPost$World" 27 ⟨"BottledPost$Steps", "<init>", "()V"⟩ ∈ aGT := wd_c1 105 rfl rfl
theorem wd_227 : Cond.instanceMethod ⟨"BottledPost$Steps", "<init>", "()V"⟩ ∈ aGT := wd_c1 106 rfl rfl
theorem wd_228 : Cond.code ⟨"BottledPost$Steps", "<init>", "()V"⟩ prog_10_method_1_code 2 (none) ∈ aGT := wd_c1 107 rfl rfl
theorem wd_229 : Cond.methodLink "BottledPost$Steps" 3 ⟨"java/lang/Object", "<init>", "()V"⟩ ∈ aGT := wd_c1 108 rfl rfl
theorem wd_230 : Cond.classLink "BottledPost$Steps" 9 "BottledPost$Sea" ∈ aGT := wd_c1 109 rfl rfl
theorem wd_233 : Cond.fieldLink "BottledPost$Steps" 11 "BottledPost$Steps" "seas" "[LBottledPost$Sea;" ∈ aGT := wd_c1 112 rfl rfl
theorem wd_234 : Cond.fieldLink "BottledPost$Steps" 17 "BottledPost$Steps" "count" "I" ∈ aGT := wd_c1 113 rfl rfl
theorem wd_235 : Cond.fieldLink "BottledPost" 260 "BottledPost$Steps" "count" "I" ∈ aGT := wd_c1 114 rfl rfl
theorem wd_236 : Cond.laysFinal "BottledPost$Steps" "BottledPost$Steps" "seas" "[LBottledPost$Sea;" ∈ aGT := wd_c1 115 rfl rfl
theorem wd_238 : Cond.lays "BottledPost$Steps" "BottledPost$Steps" "count" "I" ∈ aGT := wd_c1 117 rfl rfl
theorem wd_241 : Cond.classLink "BottledPost$World" 32 "BottledPost$Sayings" ∈ aGT := wd_c1 120 rfl rfl
theorem wd_242 : Cond.instantiable "BottledPost$Sayings" 12 ∈ aGT := wd_c1 121 rfl rfl
theorem wd_244 : Cond.instanceMethod ⟨"BottledPost$Sayings", "<init>", "()V"⟩ ∈ aGT := wd_c1 123 rfl rfl
theorem wd_245 : Cond.code ⟨"BottledPost$Sayings", "<init>", "()V"⟩ prog_7_method_1_code 1 (none) ∈ aGT := wd_c1 124 rfl rfl
theorem wd_246 : Cond.methodLink "BottledPost$Sayings" 3 ⟨"java/lang/Object", "<init>", "()V"⟩ ∈ aGT := wd_c1 125 rfl rfl
theorem wd_247 : Cond.fieldLink "BottledPost$Sayings" 9 "BottledPost$Sayings" "foundPlaces" "[I" ∈ aGT := wd_c1 126 rfl rfl
theorem wd_248 : Cond.fieldLink "BottledPost$Sayings" 15 "BottledPost$Sayings" "foundTides" "[I" ∈ aGT := wd_c1 127 rfl rfl
theorem wd_249 : Cond.fieldLink "BottledPost$Sayings" 18 "BottledPost$Sayings" "words" "[I" ∈ aGT := wd_c1 128 rfl rfl
theorem wd_250 : Cond.fieldLink "BottledPost$Sayings" 21 "BottledPost$Sayings" "unlike" "[I" ∈ aGT := wd_c1 129 rfl rfl
theorem wd_251 : Cond.fieldLink "BottledPost$Sayings" 24 "BottledPost$Sayings" "earlier" "[I" ∈ aGT := wd_c1 130 rfl rfl
theorem wd_252 : Cond.fieldLink "BottledPost$Sayings" 27 "BottledPost$Sayings" "saidBottles" "[I" ∈ aGT := wd_c1 131 rfl rfl
theorem wd_253 : Cond.fieldLink "BottledPost$Sayings" 30 "BottledPost$Sayings" "saidComings" "[I" ∈ aGT := wd_c1 132 rfl rfl
theorem wd_254 : Cond.fieldLink "BottledPost$Sayings" 33 "BottledPost$Sayings" "founds" "I" ∈ aGT := wd_c1 133 rfl rfl
theorem wd_255 : Cond.fieldLink "BottledPost" 267 "BottledPost$Sayings" "founds" "I" ∈ aGT := wd_c1 134 rfl rfl
theorem wd_256 : Cond.fieldLink "BottledPost$Sayings" 37 "BottledPost$Sayings" "codes" "I" ∈ aGT := wd_c1 135 rfl rfl
theorem wd_257 : Cond.fieldLink "BottledPost$Riddles" 55 "BottledPost$Sayings" "codes" "I" ∈ aGT := wd_c1 136 rfl rfl
theorem wd_258 : Cond.fieldLink "BottledPost" 272 "BottledPost$Sayings" "codes" "I" ∈ aGT := wd_c1 137 rfl rfl
theorem wd_259 : Cond.fieldLink "BottledPost$Sayings" 40 "BottledPost$Sayings" "saids" "I" ∈ aGT := wd_c1 138 rfl rfl
theorem wd_260 : Cond.fieldLink "BottledPost" 275 "BottledPost$Sayings" "saids" "I" ∈ aGT := wd_c1 139 rfl rfl
theorem wd_261 : Cond.fieldLink "BottledPost$Sayings" 43 "BottledPost$Sayings" "oddsCome" "I" ∈ aGT := wd_c1 140 rfl rfl
theorem wd_262 : Cond.fieldLink "BottledPost" 314 "BottledPost$Sayings" "oddsCome" "I" ∈ aGT := wd_c1 141 rfl rfl
theorem wd_263 : Cond.fieldLink "BottledPost$Sayings" 46 "BottledPost$Sayings" "oddsSink" "I" ∈ aGT := wd_c1 142 rfl rfl
theorem wd_264 : Cond.fieldLink "BottledPost" 317 "BottledPost$Sayings" "oddsSink" "I" ∈ aGT := wd_c1 143 rfl rfl
theorem wd_265 : Cond.laysFinal "BottledPost$Sayings" "BottledPost$Sayings" "foundPlaces" "[I" ∈ aGT := wd_c1 144 rfl rfl
theorem wd_267 : Cond.laysFinal "BottledPost$Sayings" "BottledPost$Sayings" "foundTides" "[I" ∈ aGT := wd_c1 146 rfl rfl
theorem wd_269 : Cond.laysFinal "BottledPost$Sayings" "BottledPost$Sayings" "words" "[I" ∈ aGT := wd_c1 148 rfl rfl
theorem wd_271 : Cond.laysFinal "BottledPost$Sayings" "BottledPost$Sayings" "unlike" "[I" ∈ aGT := wd_c1 150 rfl rfl
theorem wd_273 : Cond.laysFinal "BottledPost$Sayings" "BottledPost$Sayings" "earlier" "[I" ∈ aGT := wd_c1 152 rfl rfl
theorem wd_275 : Cond.laysFinal "BottledPost$Sayings" "BottledPost$Sayings" "saidBottles" "[I" ∈ aGT := wd_c1 154 rfl rfl
theorem wd_277 : Cond.laysFinal "BottledPost$Sayings" "BottledPost$Sayings" "saidComings" "[I" ∈ aGT := wd_c1 156 rfl rfl
theorem wd_279 : Cond.lays "BottledPost$Sayings" "BottledPost$Sayings" "founds" "I" ∈ aGT := wd_c1 158 rfl rfl
theorem wd_281 : Cond.lays "BottledPost$Sayings" "BottledPost$Sayings" "codes" "I" ∈ aGT := wd_c1 160 rfl rfl
theorem wd_283 : Cond.lays "BottledPost$Sayings" "BottledPost$Sayings" "saids" "I" ∈ aGT := wd_c1 162 rfl rfl
theorem wd_285 : Cond.lays "BottledPost$Sayings" "BottledPost$Sayings" "oddsCome" "I" ∈ aGT := wd_c1 164 rfl rfl
theorem wd_287 : Cond.lays "BottledPost$Sayings" "BottledPost$Sayings" "oddsSink" "I" ∈ aGT := wd_c1 166 rfl rfl
theorem wd_290 : Cond.classLink "BottledPost$World" 39 "BottledPost$Text" ∈ aGT := wd_c1 169 rfl rfl
theorem wd_292 : Cond.fieldLink "BottledPost$World" 12 "BottledPost$World" "shore" "LBottledPost$Shore;" ∈ aGT := wd_c1 171 rfl rfl
theorem wd_293 : Cond.fieldLink "BottledPost" 68 "BottledPost$World" "shore" "LBottledPost$Shore;" ∈ aGT := wd_c1 172 rfl rfl
theorem wd_294 : Cond.fieldLink "BottledPost$World" 21 "BottledPost$World" "sea" "LBottledPost$Sea;" ∈ aGT := wd_c1 173 rfl rfl
theorem wd_295 : Cond.fieldLink "BottledPost" 128 "BottledPost$World" "sea" "LBottledPost$Sea;" ∈ aGT := wd_c1 174 rfl rfl
theorem wd_296 : Cond.fieldLink "BottledPost$World" 28 "BottledPost$World" "steps" "LBottledPost$Steps;" ∈ aGT := wd_c1 175 rfl rfl
theorem wd_297 : Cond.fieldLink "BottledPost" 152 "BottledPost$World" "steps" "LBottledPost$Steps;" ∈ aGT := wd_c1 176 rfl rfl
theorem wd_298 : Cond.fieldLink "BottledPost$World" 35 "BottledPost$World" "sayings" "LBottledPost$Sayings;" ∈ aGT := wd_c1 177 rfl rfl
theorem wd_299 : Cond.fieldLink "BottledPost" 263 "BottledPost$World" "sayings" "LBottledPost$Sayings;" ∈ aGT := wd_c1 178 rfl rfl
theorem wd_300 : Cond.fieldLink "BottledPost$World" 41 "BottledPost$World" "scripts" "[LBottledPost$Text;" ∈ aGT := wd_c1 179 rfl rfl
theorem wd_301 : Cond.fieldLink "BottledPost$World" 45 "BottledPost$World" "texts" "I" ∈ aGT := wd_c1 180 rfl rfl
theorem wd_302 : Cond.fieldLink "BottledPost" 96 "BottledPost$World" "texts" "I" ∈ aGT := wd_c1 181 rfl rfl
theorem wd_303 : Cond.fieldLink "BottledPost$World" 49 "BottledPost$World" "ruling" "I" ∈ aGT := wd_c1 182 rfl rfl
theorem wd_304 : Cond.fieldLink "BottledPost" 113 "BottledPost$World" "ruling" "I" ∈ aGT := wd_c1 183 rfl rfl
theorem wd_305 : Cond.laysFinal "BottledPost$World" "BottledPost$World" "shore" "LBottledPost$Shore;" ∈ aGT := wd_c1 184 rfl rfl
theorem wd_307 : Cond.laysFinal "BottledPost$World" "BottledPost$World" "sea" "LBottledPost$Sea;" ∈ aGT := wd_c1 186 rfl rfl
theorem wd_309 : Cond.laysFinal "BottledPost$World" "BottledPost$World" "steps" "LBottledPost$Steps;" ∈ aGT := wd_c1 188 rfl rfl
theorem wd_311 : Cond.laysFinal "BottledPost$World" "BottledPost$World" "sayings" "LBottledPost$Sayings;" ∈ aGT := wd_c1 190 rfl rfl
theorem wd_313 : Cond.laysFinal "BottledPost$World" "BottledPost$World" "scripts" "[LBottledPost$Text;" ∈ aGT := wd_c1 192 rfl rfl
theorem wd_315 : Cond.lays "BottledPost$World" "BottledPost$World" "texts" "I" ∈ aGT := wd_c1 194 rfl rfl
theorem wd_317 : Cond.lays "BottledPost$World" "BottledPost$World" "ruling" "I" ∈ aGT := wd_c1 196 rfl rfl
theorem wd_320 : Cond.classLink "BottledPost" 19 "BottledPost$Tape" ∈ aGT := wd_c1 199 rfl rfl
theorem wd_321 : Cond.instantiable "BottledPost$Tape" 6 ∈ aGT := wd_c1 200 rfl rfl
theorem wd_323 : Cond.instanceMethod ⟨"BottledPost$Tape", "<init>", "()V"⟩ ∈ aGT := wd_c1 202 rfl rfl
theorem wd_324 : Cond.code ⟨"BottledPost$Tape", "<init>", "()V"⟩ prog_11_method_1_code 1 (none) ∈ aGT := wd_c1 203 rfl rfl
theorem wd_325 : Cond.methodLink "BottledPost$Tape" 3 ⟨"java/lang/Object", "<init>", "()V"⟩ ∈ aGT := wd_c1 204 rfl rfl
theorem wd_326 : Cond.fieldLink "BottledPost$Tape" 9 "BottledPost$Tape" "bytes" "[I" ∈ aGT := wd_c1 205 rfl rfl
theorem wd_327 : Cond.fieldLink "BottledPost$Tape" 15 "BottledPost$Tape" "length" "I" ∈ aGT := wd_c1 206 rfl rfl
theorem wd_328 : Cond.fieldLink "BottledPost" 90 "BottledPost$Tape" "length" "I" ∈ aGT := wd_c1 207 rfl rfl
theorem wd_329 : Cond.fieldLink "BottledPost$Tape" 19 "BottledPost$Tape" "kind" "I" ∈ aGT := wd_c1 208 rfl rfl
theorem wd_330 : Cond.fieldLink "BottledPost$Grammar" 44 "BottledPost$Tape" "kind" "I" ∈ aGT := wd_c1 209 rfl rfl
theorem wd_331 : Cond.fieldLink "BottledPost$Tape" 22 "BottledPost$Tape" "start" "I" ∈ aGT := wd_c1 210 rfl rfl
theorem wd_332 : Cond.fieldLink "BottledPost$Grammar" 70 "BottledPost$Tape" "start" "I" ∈ aGT := wd_c1 211 rfl rfl
theorem wd_333 : Cond.fieldLink "BottledPost$Tape" 25 "BottledPost$Tape" "value" "I" ∈ aGT := wd_c1 212 rfl rfl
theorem wd_334 : Cond.fieldLink "BottledPost$Grammar" 115 "BottledPost$Tape" "value" "I" ∈ aGT := wd_c1 213 rfl rfl
theorem wd_335 : Cond.fieldLink "BottledPost$Tape" 28 "BottledPost$Tape" "next" "I" ∈ aGT := wd_c1 214 rfl rfl
theorem wd_336 : Cond.laysFinal "BottledPost$Tape" "BottledPost$Tape" "bytes" "[I" ∈ aGT := wd_c1 215 rfl rfl
theorem wd_338 : Cond.lays "BottledPost$Tape" "BottledPost$Tape" "length" "I" ∈ aGT := wd_c1 217 rfl rfl
theorem wd_340 : Cond.lays "BottledPost$Tape" "BottledPost$Tape" "kind" "I" ∈ aGT := wd_c1 219 rfl rfl
theorem wd_342 : Cond.lays "BottledPost$Tape" "BottledPost$Tape" "start" "I" ∈ aGT := wd_c1 221 rfl rfl
theorem wd_344 : Cond.lays "BottledPost$Tape" "BottledPost$Tape" "value" "I" ∈ aGT := wd_c1 223 rfl rfl
theorem wd_346 : Cond.lays "BottledPost$Tape" "BottledPost$Tape" "next" "I" ∈ aGT := wd_c1 225 rfl rfl
theorem wd_349 : Cond.classLink "BottledPost" 26 "BottledPost$Grammar" ∈ aGT := wd_c1 228 rfl rfl
theorem wd_350 : Cond.instantiable "BottledPost$Grammar" 10 ∈ aGT := wd_c1 229 rfl rfl
theorem wd_352 : Cond.instanceMethod ⟨"BottledPost$Grammar", "<init>", "()V"⟩ ∈ aGT := wd_c1 231 rfl rfl
theorem wd_353 : Cond.code ⟨"BottledPost$Grammar", "<init>", "()V"⟩ prog_3_method_1_code 1 (none) ∈ aGT := wd_c1 232 rfl rfl
theorem wd_354 : Cond.methodLink "BottledPost$Grammar" 3 ⟨"java/lang/Object", "<init>", "()V"⟩ ∈ aGT := wd_c1 233 rfl rfl
theorem wd_355 : Cond.fieldLink "BottledPost$Grammar" 11 "BottledPost$Grammar" "clauses" "[I" ∈ aGT := wd_c1 234 rfl rfl
theorem wd_356 : Cond.fieldLink "BottledPost$Grammar" 17 "BottledPost$Grammar" "signs" "[I" ∈ aGT := wd_c1 235 rfl rfl
theorem wd_357 : Cond.fieldLink "BottledPost$Grammar" 20 "BottledPost$Grammar" "clauseCount" "I" ∈ aGT := wd_c1 236 rfl rfl
theorem wd_358 : Cond.fieldLink "BottledPost$Grammar" 88 "BottledPost$Grammar" "signCount" "I" ∈ aGT := wd_c1 237 rfl rfl
theorem wd_359 : Cond.fieldLink "BottledPost$Grammar" 24 "BottledPost$Grammar" "open" "I" ∈ aGT := wd_c1 238 rfl rfl
theorem wd_360 : Cond.fieldLink "BottledPost$Grammar" 91 "BottledPost$Grammar" "inWears" "Z" ∈ aGT := wd_c1 239 rfl rfl
theorem wd_361 : Cond.fieldLink "BottledPost$Grammar" 27 "BottledPost$Grammar" "comes" "[I" ∈ aGT := wd_c2 0 rfl rfl
theorem wd_362 : Cond.fieldLink "BottledPost$Grammar" 30 "BottledPost$Grammar" "wears" "[I" ∈ aGT := wd_c2 1 rfl rfl
theorem wd_363 : Cond.fieldLink "BottledPost$Grammar" 33 "BottledPost$Grammar" "fault" "I" ∈ aGT := wd_c2 2 rfl rfl
theorem wd_364 : Cond.fieldLink "BottledPost" 103 "BottledPost$Grammar" "fault" "I" ∈ aGT := wd_c2 3 rfl rfl
theorem wd_365 : Cond.fieldLink "BottledPost$Grammar" 36 "BottledPost$Grammar" "faultPlace" "I" ∈ aGT := wd_c2 4 rfl rfl
theorem wd_366 : Cond.fieldLink "BottledPost" 106 "BottledPost$Grammar" "faultPlace" "I" ∈ aGT := wd_c2 5 rfl rfl
theorem wd_367 : Cond.laysFinal "BottledPost$Grammar" "BottledPost$Grammar" "clauses" "[I" ∈ aGT := wd_c2 6 rfl rfl
theorem wd_369 : Cond.laysFinal "BottledPost$Grammar" "BottledPost$Grammar" "signs" "[I" ∈ aGT := wd_c2 8 rfl rfl
theorem wd_371 : Cond.lays "BottledPost$Grammar" "BottledPost$Grammar" "clauseCount" "I" ∈ aGT := wd_c2 10 rfl rfl
theorem wd_373 : Cond.lays "BottledPost$Grammar" "BottledPost$Grammar" "signCount" "I" ∈ aGT := wd_c2 12 rfl rfl
theorem wd_375 : Cond.lays "BottledPost$Grammar" "BottledPost$Grammar" "open" "I" ∈ aGT := wd_c2 14 rfl rfl
theorem wd_377 : Cond.lays "BottledPost$Grammar" "BottledPost$Grammar" "inWears" "Z" ∈ aGT := wd_c2 16 rfl rfl
theorem wd_379 : Cond.lays "BottledPost$Grammar" "BottledPost$Grammar" "comes" "[I" ∈ aGT := wd_c2 18 rfl rfl
theorem wd_381 : Cond.lays "BottledPost$Grammar" "BottledPost$Grammar" "wears" "[I" ∈ aGT := wd_c2 20 rfl rfl
theorem wd_383 : Cond.lays "BottledPost$Grammar" "BottledPost$Grammar" "fault" "I" ∈ aGT := wd_c2 22 rfl rfl
theorem wd_385 : Cond.lays "BottledPost$Grammar" "BottledPost$Grammar" "faultPlace" "I" ∈ aGT := wd_c2 24 rfl rfl
theorem wd_388 : Cond.classLink "BottledPost" 33 "BottledPost$Laws" ∈ aGT := wd_c2 27 rfl rfl
theorem wd_389 : Cond.instantiable "BottledPost$Laws" 2 ∈ aGT := wd_c2 28 rfl rfl
theorem wd_391 : Cond.instanceMethod ⟨"BottledPost$Laws", "<init>", "()V"⟩ ∈ aGT := wd_c2 30 rfl rfl
theorem wd_392 : Cond.code ⟨"BottledPost$Laws", "<init>", "()V"⟩ prog_4_method_1_code 1 (none) ∈ aGT := wd_c2 31 rfl rfl
theorem wd_393 : Cond.methodLink "BottledPost$Laws" 3 ⟨"java/lang/Object", "<init>", "()V"⟩ ∈ aGT := wd_c2 32 rfl rfl
theorem wd_394 : Cond.fieldLink "BottledPost$Laws" 9 "BottledPost$Laws" "stack" "[I" ∈ aGT := wd_c2 33 rfl rfl
theorem wd_395 : Cond.fieldLink "BottledPost$Laws" 15 "BottledPost$Laws" "top" "I" ∈ aGT := wd_c2 34 rfl rfl
theorem wd_396 : Cond.laysFinal "BottledPost$Laws" "BottledPost$Laws" "stack" "[I" ∈ aGT := wd_c2 35 rfl rfl
theorem wd_398 : Cond.lays "BottledPost$Laws" "BottledPost$Laws" "top" "I" ∈ aGT := wd_c2 37 rfl rfl
theorem wd_401 : Cond.classLink "BottledPost" 40 "BottledPost$Routes" ∈ aGT := wd_c2 40 rfl rfl
theorem wd_402 : Cond.instantiable "BottledPost$Routes" 7 ∈ aGT := wd_c2 41 rfl rfl
theorem wd_404 : Cond.instanceMethod ⟨"BottledPost$Routes", "<init>", "()V"⟩ ∈ aGT := wd_c2 43 rfl rfl
theorem wd_405 : Cond.code ⟨"BottledPost$Routes", "<init>", "()V"⟩ prog_6_method_1_code 1 (none) ∈ aGT := wd_c2 44 rfl rfl
theorem wd_406 : Cond.methodLink "BottledPost$Routes" 3 ⟨"java/lang/Object", "<init>", "()V"⟩ ∈ aGT := wd_c2 45 rfl rfl
theorem wd_407 : Cond.fieldLink "BottledPost$Routes" 9 "BottledPost$Routes" "waited" "I" ∈ aGT := wd_c2 46 rfl rfl
theorem wd_408 : Cond.fieldLink "BottledPost" 289 "BottledPost$Routes" "waited" "I" ∈ aGT := wd_c2 47 rfl rfl
theorem wd_409 : Cond.fieldLink "BottledPost$Routes" 15 "BottledPost$Routes" "between" "[I" ∈ aGT := wd_c2 48 rfl rfl
theorem wd_410 : Cond.fieldLink "BottledPost$Routes" 19 "BottledPost$Routes" "best" "[I" ∈ aGT := wd_c2 49 rfl rfl
theorem wd_411 : Cond.fieldLink "BottledPost$Routes" 22 "BottledPost$Routes" "bestCount" "I" ∈ aGT := wd_c2 50 rfl rfl
theorem wd_412 : Cond.fieldLink "BottledPost" 296 "BottledPost$Routes" "bestCount" "I" ∈ aGT := wd_c2 51 rfl rfl
theorem wd_413 : Cond.fieldLink "BottledPost$Routes" 25 "BottledPost$Routes" "bestTime" "I" ∈ aGT := wd_c2 52 rfl rfl
theorem wd_414 : Cond.fieldLink "BottledPost$Routes" 28 "BottledPost$Routes" "goal" "I" ∈ aGT := wd_c2 53 rfl rfl
theorem wd_415 : Cond.fieldLink "BottledPost$Routes" 31 "BottledPost$Routes" "wanted" "I" ∈ aGT := wd_c2 54 rfl rfl
theorem wd_416 : Cond.lays "BottledPost$Routes" "BottledPost$Routes" "waited" "I" ∈ aGT := wd_c2 55 rfl rfl
theorem wd_418 : Cond.laysFinal "BottledPost$Routes" "BottledPost$Routes" "between" "[I" ∈ aGT := wd_c2 57 rfl rfl
theorem wd_420 : Cond.laysFinal "BottledPost$Routes" "BottledPost$Routes" "best" "[I" ∈ aGT := wd_c2 59 rfl rfl
theorem wd_422 : Cond.lays "BottledPost$Routes" "BottledPost$Routes" "bestCount" "I" ∈ aGT := wd_c2 61 rfl rfl
theorem wd_424 : Cond.lays "BottledPost$Routes" "BottledPost$Routes" "bestTime" "I" ∈ aGT := wd_c2 63 rfl rfl
theorem wd_426 : Cond.lays "BottledPost$Routes" "BottledPost$Routes" "goal" "I" ∈ aGT := wd_c2 65 rfl rfl
theorem wd_428 : Cond.lays "BottledPost$Routes" "BottledPost$Routes" "wanted" "I" ∈ aGT := wd_c2 67 rfl rfl
theorem wd_431 : Cond.classLink "BottledPost" 47 "BottledPost$Riddles" ∈ aGT := wd_c2 70 rfl rfl
theorem wd_432 : Cond.instantiable "BottledPost$Riddles" 6 ∈ aGT := wd_c2 71 rfl rfl
theorem wd_434 : Cond.instanceMethod ⟨"BottledPost$Riddles", "<init>", "()V"⟩ ∈ aGT := wd_c2 73 rfl rfl
theorem wd_435 : Cond.code ⟨"BottledPost$Riddles", "<init>", "()V"⟩ prog_5_method_1_code 1 (none) ∈ aGT := wd_c2 74 rfl rfl
theorem wd_436 : Cond.methodLink "BottledPost$Riddles" 3 ⟨"java/lang/Object", "<init>", "()V"⟩ ∈ aGT := wd_c2 75 rfl rfl
theorem wd_437 : Cond.constant "BottledPost$Riddles" 25 (1000000 : Int32) ∈ aGT := wd_c2 76 rfl rfl
theorem wd_438 : Cond.fieldLink "BottledPost$Riddles" 11 "BottledPost$Riddles" "least" "[I" ∈ aGT := wd_c2 77 rfl rfl
theorem wd_439 : Cond.fieldLink "BottledPost$Riddles" 15 "BottledPost$Riddles" "readings" "[J" ∈ aGT := wd_c2 78 rfl rfl
theorem wd_440 : Cond.fieldLink "BottledPost$Riddles" 19 "BottledPost$Riddles" "sorters" "[I" ∈ aGT := wd_c2 79 rfl rfl
theorem wd_441 : Cond.fieldLink "BottledPost$Riddles" 22 "BottledPost$Riddles" "orderings" "[J" ∈ aGT := wd_c2 80 rfl rfl
theorem wd_442 : Cond.fieldLink "BottledPost$Riddles" 26 "BottledPost$Riddles" "shortest" "I" ∈ aGT := wd_c2 81 rfl rfl
theorem wd_443 : Cond.fieldLink "BottledPost$Riddles" 30 "BottledPost$Riddles" "nearer" "Z" ∈ aGT := wd_c2 82 rfl rfl
theorem wd_444 : Cond.laysFinal "BottledPost$Riddles" "BottledPost$Riddles" "least" "[I" ∈ aGT := wd_c2 83 rfl rfl
theorem wd_446 : Cond.laysFinal "BottledPost$Riddles" "BottledPost$Riddles" "readings" "[J" ∈ aGT := wd_c2 85 rfl rfl
theorem wd_448 : Cond.laysFinal "BottledPost$Riddles" "BottledPost$Riddles" "sorters" "[I" ∈ aGT := wd_c2 87 rfl rfl
theorem wd_450 : Cond.laysFinal "BottledPost$Riddles" "BottledPost$Riddles" "orderings" "[J" ∈ aGT := wd_c2 89 rfl rfl
theorem wd_452 : Cond.lays "BottledPost$Riddles" "BottledPost$Riddles" "shortest" "I" ∈ aGT := wd_c2 91 rfl rfl
theorem wd_454 : Cond.lays "BottledPost$Riddles" "BottledPost$Riddles" "nearer" "Z" ∈ aGT := wd_c2 93 rfl rfl
theorem wd_457 : Cond.arrayClass .long ∈ aGT := wd_c2 96 rfl rfl
theorem wd_458 : Cond.classLink "BottledPost" 54 "BottledPost$Sea" ∈ aGT := wd_c2 97 rfl rfl
theorem wd_460 : Cond.fieldLink "BottledPost" 10 "BottledPost" "now" "LBottledPost$World;" ∈ aGT := wd_c2 99 rfl rfl
theorem wd_461 : Cond.fieldLink "BottledPost" 16 "BottledPost" "kept" "LBottledPost$World;" ∈ aGT := wd_c2 100 rfl rfl
theorem wd_462 : Cond.fieldLink "BottledPost" 22 "BottledPost" "tape" "LBottledPost$Tape;" ∈ aGT := wd_c2 101 rfl rfl
theorem wd_463 : Cond.fieldLink "BottledPost" 29 "BottledPost" "grammar" "LBottledPost$Grammar;" ∈ aGT := wd_c2 102 rfl rfl
theorem wd_464 : Cond.fieldLink "BottledPost" 36 "BottledPost" "laws" "LBottledPost$Laws;" ∈ aGT := wd_c2 103 rfl rfl
theorem wd_465 : Cond.fieldLink "BottledPost" 43 "BottledPost" "routes" "LBottledPost$Routes;" ∈ aGT := wd_c2 104 rfl rfl
theorem wd_466 : Cond.fieldLink "BottledPost" 50 "BottledPost" "riddles" "LBottledPost$Riddles;" ∈ aGT := wd_c2 105 rfl rfl
theorem wd_467 : Cond.fieldLink "BottledPost" 57 "BottledPost" "glass" "LBottledPost$Sea;" ∈ aGT := wd_c2 106 rfl rfl
theorem wd_468 : Cond.fieldLink "BottledPost" 61 "BottledPost" "latestFault" "I" ∈ aGT := wd_c2 107 rfl rfl
theorem wd_469 : Cond.fieldLink "BottledPost" 65 "BottledPost" "latestFaultPlace" "I" ∈ aGT := wd_c2 108 rfl rfl
theorem wd_470 : Cond.laysFinal "BottledPost" "BottledPost" "now" "LBottledPost$World;" ∈ aGT := wd_c2 109 rfl rfl
theorem wd_472 : Cond.laysFinal "BottledPost" "BottledPost" "kept" "LBottledPost$World;" ∈ aGT := wd_c2 111 rfl rfl
theorem wd_474 : Cond.laysFinal "BottledPost" "BottledPost" "tape" "LBottledPost$Tape;" ∈ aGT := wd_c2 113 rfl rfl
theorem wd_476 : Cond.laysFinal "BottledPost" "BottledPost" "grammar" "LBottledPost$Grammar;" ∈ aGT := wd_c2 115 rfl rfl
theorem wd_478 : Cond.laysFinal "BottledPost" "BottledPost" "laws" "LBottledPost$Laws;" ∈ aGT := wd_c2 117 rfl rfl
theorem wd_480 : Cond.laysFinal "BottledPost" "BottledPost" "routes" "LBottledPost$Routes;" ∈ aGT := wd_c2 119 rfl rfl
theorem wd_482 : Cond.laysFinal "BottledPost" "BottledPost" "riddles" "LBottledPost$Riddles;" ∈ aGT := wd_c2 121 rfl rfl
theorem wd_484 : Cond.laysFinal "BottledPost" "BottledPost" "glass" "LBottledPost$Sea;" ∈ aGT := wd_c2 123 rfl rfl
theorem wd_486 : Cond.lays "BottledPost" "BottledPost" "latestFault" "I" ∈ aGT := wd_c2 125 rfl rfl
theorem wd_488 : Cond.lays "BottledPost" "BottledPost" "latestFaultPlace" "I" ∈ aGT := wd_c2 127 rfl rfl
theorem wd_491 : Cond.methodLink "BottledPostLaw" 13 ⟨"BottledPost", "person", "(II)I"⟩ ∈ aGT := wd_c2 130 rfl rfl
theorem wd_492 : Cond.instanceMethod ⟨"BottledPost", "person", "(II)I"⟩ ∈ aGT := wd_c2 131 rfl rfl
theorem wd_493 : Cond.selects "BottledPost" ⟨"BottledPost", "person", "(II)I"⟩ ⟨"BottledPost", "person", "(II)I"⟩ ∈ aGT := wd_c2 132 rfl rfl
theorem wd_494 : Cond.code ⟨"BottledPost", "person", "(II)I"⟩ prog_1_method_2_code 3 ((some FieldType.int)) ∈ aGT := wd_c2 133 rfl rfl
theorem wd_495 : Cond.methodLink "BottledPost" 72 ⟨"BottledPost$Shore", "addPerson", "(II)I"⟩ ∈ aGT := wd_c2 134 rfl rfl
theorem wd_496 : Cond.instanceMethod ⟨"BottledPost$Shore", "addPerson", "(II)I"⟩ ∈ aGT := wd_c2 135 rfl rfl
theorem wd_497 : Cond.selects "BottledPost$Shore" ⟨"BottledPost$Shore", "addPerson", "(II)I"⟩ ⟨"BottledPost$Shore", "addPerson", "(II)I"⟩ ∈ aGT := wd_c2 136 rfl rfl
theorem wd_498 : Cond.code ⟨"BottledPost$Shore", "addPerson", "(II)I"⟩ prog_9_method_3_code 3 ((some FieldType.int)) ∈ aGT := wd_c2 137 rfl rfl
theorem wd_500 : Cond.static ⟨"BottledPost", "isPlace", "(I)Z"⟩ ∈ aGT := wd_c2 139 rfl rfl
theorem wd_501 : Cond.code ⟨"BottledPost", "isPlace", "(I)Z"⟩ prog_1_method_57_code 1 ((some FieldType.boolean)) ∈ aGT := wd_c2 140 rfl rfl
theorem wd_502 : Cond.methodLink "BottledPost" 93 ⟨"BottledPost", "within", "(III)Z"⟩ ∈ aGT := wd_c2 141 rfl rfl
theorem wd_503 : Cond.static ⟨"BottledPost", "within", "(III)Z"⟩ ∈ aGT := wd_c2 142 rfl rfl
theorem wd_504 : Cond.code ⟨"BottledPost", "within", "(III)Z"⟩ prog_1_method_56_code 3 ((some FieldType.boolean)) ∈ aGT := wd_c2 143 rfl rfl
theorem wd_506 : Cond.methodLink "BottledPostLaw" 18 ⟨"BottledPost", "current", "(III)Z"⟩ ∈ aGT := wd_c2 145 rfl rfl
theorem wd_507 : Cond.instanceMethod ⟨"BottledPost", "current", "(III)Z"⟩ ∈ aGT := wd_c2 146 rfl rfl
theorem wd_508 : Cond.selects "BottledPost" ⟨"BottledPost", "current", "(III)Z"⟩ ⟨"BottledPost", "current", "(III)Z"⟩ ∈ aGT := wd_c2 147 rfl rfl
theorem wd_509 : Cond.code ⟨"BottledPost", "current", "(III)Z"⟩ prog_1_method_3_code 4 ((some FieldType.boolean)) ∈ aGT := wd_c2 148 rfl rfl
theorem wd_510 : Cond.methodLink "BottledPost" 78 ⟨"BottledPost$Shore", "tellCurrent", "(III)Z"⟩ ∈ aGT := wd_c2 149 rfl rfl
theorem wd_511 : Cond.instanceMethod ⟨"BottledPost$Shore", "tellCurrent", "(III)Z"⟩ ∈ aGT := wd_c2 150 rfl rfl
theorem wd_512 : Cond.selects "BottledPost$Shore" ⟨"BottledPost$Shore", "tellCurrent", "(III)Z"⟩ ⟨"BottledPost$Shore", "tellCurrent", "(III)Z"⟩ ∈ aGT := wd_c2 151 rfl rfl
theorem wd_513 : Cond.code ⟨"BottledPost$Shore", "tellCurrent", "(III)Z"⟩ prog_9_method_4_code 4 ((some FieldType.boolean)) ∈ aGT := wd_c2 152 rfl rfl
theorem wd_514 : Cond.methodLink "BottledPostLaw" 23 ⟨"BottledPost", "feed", "(IIIII)I"⟩ ∈ aGT := wd_c2 153 rfl rfl
theorem wd_515 : Cond.instanceMethod ⟨"BottledPost", "feed", "(IIIII)I"⟩ ∈ aGT := wd_c2 154 rfl rfl
theorem wd_516 : Cond.selects "BottledPost" ⟨"BottledPost", "feed", "(IIIII)I"⟩ ⟨"BottledPost", "feed", "(IIIII)I"⟩ ∈ aGT := wd_c2 155 rfl rfl
theorem wd_517 : Cond.code ⟨"BottledPost", "feed", "(IIIII)I"⟩ prog_1_method_4_code 6 ((some FieldType.int)) ∈ aGT := wd_c2 156 rfl rfl
theorem wd_518 : Cond.methodLink "BottledPost" 82 ⟨"BottledPost$Tape", "hasRoom", "(I)Z"⟩ ∈ aGT := wd_c2 157 rfl rfl
theorem wd_519 : Cond.instanceMethod ⟨"BottledPost$Tape", "hasRoom", "(I)Z"⟩ ∈ aGT := wd_c2 158 rfl rfl
theorem wd_520 : Cond.selects "BottledPost$Tape" ⟨"BottledPost$Tape", "hasRoom", "(I)Z"⟩ ⟨"BottledPost$Tape", "hasRoom", "(I)Z"⟩ ∈ aGT := wd_c2 159 rfl rfl
theorem wd_521 : Cond.code ⟨"BottledPost$Tape", "hasRoom", "(I)Z"⟩ prog_11_method_2_code 2 ((some FieldType.boolean)) ∈ aGT := wd_c2 160 rfl rfl
theorem wd_522 : Cond.methodLink "BottledPost" 86 ⟨"BottledPost$Tape", "addFour", "(I)V"⟩ ∈ aGT := wd_c2 161 rfl rfl
theorem wd_523 : Cond.instanceMethod ⟨"BottledPost$Tape", "addFour", "(I)V"⟩ ∈ aGT := wd_c2 162 rfl rfl
theorem wd_524 : Cond.selects "BottledPost$Tape" ⟨"BottledPost$Tape", "addFour", "(I)V"⟩ ⟨"BottledPost$Tape", "addFour", "(I)V"⟩ ∈ aGT := wd_c2 163 rfl rfl
theorem wd_525 : Cond.code ⟨"BottledPost$Tape", "addFour", "(I)V"⟩ prog_11_method_3_code 3 (none) ∈ aGT := wd_c2 164 rfl rfl
theorem wd_527 : Cond.methodLink "BottledPostLaw" 28 ⟨"BottledPost", "end", "(I)I"⟩ ∈ aGT := wd_c2 166 rfl rfl
theorem wd_528 : Cond.instanceMethod ⟨"BottledPost", "end", "(I)I"⟩ ∈ aGT := wd_c2 167 rfl rfl
theorem wd_529 : Cond.selects "BottledPost" ⟨"BottledPost", "end", "(I)I"⟩ ⟨"BottledPost", "end", "(I)I"⟩ ∈ aGT := wd_c2 168 rfl rfl
theorem wd_530 : Cond.code ⟨"BottledPost", "end", "(I)I"⟩ prog_1_method_5_code 2 ((some FieldType.int)) ∈ aGT := wd_c2 169 rfl rfl
theorem wd_531 : Cond.methodLink "BottledPostLaw" 33 ⟨"BottledPost", "text", "()I"⟩ ∈ aGT := wd_c2 170 rfl rfl
theorem wd_532 : Cond.instanceMethod ⟨"BottledPost", "text", "()I"⟩ ∈ aGT := wd_c2 171 rfl rfl
theorem wd_533 : Cond.selects "BottledPost" ⟨"BottledPost", "text", "()I"⟩ ⟨"BottledPost", "text", "()I"⟩ ∈ aGT := wd_c2 172 rfl rfl
theorem wd_534 : Cond.code ⟨"BottledPost", "text", "()I"⟩ prog_1_method_6_code 2 ((some FieldType.int)) ∈ aGT := wd_c2 173 rfl rfl
theorem wd_535 : Cond.methodLink "BottledPost" 99 ⟨"BottledPost$Grammar", "readAll", "(LBottledPost$Tape;)LBottledPost$Text;"⟩ ∈ aGT := wd_c2 174 rfl rfl
theorem wd_536 : Cond.instanceMethod ⟨"BottledPost$Grammar", "readAll", "(LBottledPost$Tape;)LBottledPost$Text;"⟩ ∈ aGT := wd_c2 175 rfl rfl
theorem wd_537 : Cond.selects "BottledPost$Grammar" ⟨"BottledPost$Grammar", "readAll", "(LBottledPost$Tape;)LBottledPost$Text;"⟩ ⟨"BottledPost$Grammar", "readAll", "(LBottledPost$Tape;)LBottledPost$Text;"⟩ ∈ aGT := wd_c2 176 rfl rfl
theorem wd_538 : Cond.code ⟨"BottledPost$Grammar", "readAll", "(LBottledPost$Tape;)LBottledPost$Text;"⟩ prog_3_method_2_code 3 ((some (FieldType.object "BottledPost$Text"))) ∈ aGT := wd_c2 177 rfl rfl
theorem wd_539 : Cond.methodLink "BottledPost$Grammar" 39 ⟨"BottledPost$Tape", "comeToFirst", "()V"⟩ ∈ aGT := wd_c2 178 rfl rfl
theorem wd_540 : Cond.instanceMethod ⟨"BottledPost$Tape", "comeToFirst", "()V"⟩ ∈ aGT := wd_c2 179 rfl rfl
theorem wd_541 : Cond.selects "BottledPost$Tape" ⟨"BottledPost$Tape", "comeToFirst", "()V"⟩ ⟨"BottledPost$Tape", "comeToFirst", "()V"⟩ ∈ aGT := wd_c2 180 rfl rfl
theorem wd_542 : Cond.code ⟨"BottledPost$Tape", "comeToFirst", "()V"⟩ prog_11_method_4_code 1 (none) ∈ aGT := wd_c2 181 rfl rfl
theorem wd_543 : Cond.methodLink "BottledPost$Tape" 35 ⟨"BottledPost$Tape", "comeToNext", "()V"⟩ ∈ aGT := wd_c2 182 rfl rfl
theorem wd_544 : Cond.instanceMethod ⟨"BottledPost$Tape", "comeToNext", "()V"⟩ ∈ aGT := wd_c2 183 rfl rfl
theorem wd_545 : Cond.selects "BottledPost$Tape" ⟨"BottledPost$Tape", "comeToNext", "()V"⟩ ⟨"BottledPost$Tape", "comeToNext", "()V"⟩ ∈ aGT := wd_c2 184 rfl rfl
theorem wd_546 : Cond.code ⟨"BottledPost$Tape", "comeToNext", "()V"⟩ prog_11_method_5_code 2 (none) ∈ aGT := wd_c2 185 rfl rfl
theorem wd_547 : Cond.methodLink "BottledPost$Tape" 38 ⟨"BottledPost$Tape", "byteAt", "(I)I"⟩ ∈ aGT := wd_c2 186 rfl rfl
theorem wd_549 : Cond.instanceMethod ⟨"BottledPost$Tape", "byteAt", "(I)I"⟩ ∈ aGT := wd_c2 188 rfl rfl
theorem wd_550 : Cond.code ⟨"BottledPost$Tape", "byteAt", "(I)I"⟩ prog_11_method_6_code 2 ((some FieldType.int)) ∈ aGT := wd_c2 189 rfl rfl
theorem wd_551 : Cond.methodLink "BottledPost$Tape" 42 ⟨"BottledPost$Tape", "isDigit", "(I)Z"⟩ ∈ aGT := wd_c2 190 rfl rfl
theorem wd_552 : Cond.static ⟨"BottledPost$Tape", "isDigit", "(I)Z"⟩ ∈ aGT := wd_c2 191 rfl rfl
theorem wd_553 : Cond.code ⟨"BottledPost$Tape", "isDigit", "(I)Z"⟩ prog_11_method_7_code 1 ((some FieldType.boolean)) ∈ aGT := wd_c2 192 rfl rfl
theorem wd_554 : Cond.methodLink "BottledPost$Tape" 46 ⟨"BottledPost$Tape", "readNumber", "()V"⟩ ∈ aGT := wd_c2 193 rfl rfl
theorem wd_556 : Cond.instanceMethod ⟨"BottledPost$Tape", "readNumber", "()V"⟩ ∈ aGT := wd_c2 195 rfl rfl
theorem wd_557 : Cond.code ⟨"BottledPost$Tape", "readNumber", "()V"⟩ prog_11_method_9_code 2 (none) ∈ aGT := wd_c2 196 rfl rfl
theorem wd_558 : Cond.methodLink "BottledPost$Tape" 59 ⟨"java/lang/Math", "min", "(II)I"⟩ ∈ aGT := wd_c2 197 rfl rfl
theorem wd_559 : Cond.static ⟨"java/lang/Math", "min", "(II)I"⟩ ∈ aGT := wd_c2 198 rfl rfl
theorem wd_560 : Cond.code ⟨"java/lang/Math", "min", "(II)I"⟩ prog_17_method_69_code 2 ((some FieldType.int)) ∈ aGT := wd_c2 199 rfl rfl
theorem wd_561 : Cond.methodLink "BottledPost$Tape" 49 ⟨"BottledPost$Tape", "isLetter", "(I)Z"⟩ ∈ aGT := wd_c2 200 rfl rfl
theorem wd_562 : Cond.static ⟨"BottledPost$Tape", "isLetter", "(I)Z"⟩ ∈ aGT := wd_c2 201 rfl rfl
theorem wd_563 : Cond.code ⟨"BottledPost$Tape", "isLetter", "(I)Z"⟩ prog_11_method_8_code 1 ((some FieldType.boolean)) ∈ aGT := wd_c2 202 rfl rfl
theorem wd_564 : Cond.methodLink "BottledPost$Tape" 52 ⟨"BottledPost$Tape", "readWord", "()V"⟩ ∈ aGT := wd_c2 203 rfl rfl
theorem wd_566 : Cond.instanceMethod ⟨"BottledPost$Tape", "readWord", "()V"⟩ ∈ aGT := wd_c2 205 rfl rfl
theorem wd_567 : Cond.code ⟨"BottledPost$Tape", "readWord", "()V"⟩ prog_11_method_10_code 5 (none) ∈ aGT := wd_c2 206 rfl rfl
theorem wd_569 : Cond.methodLink "BottledPost$Tape" 67 ⟨"java/lang/String", "length", "()I"⟩ ∈ aGT := wd_c2 208 rfl rfl
theorem wd_570 : Cond.instanceMethod ⟨"java/lang/String", "length", "()I"⟩ ∈ aGT := wd_c2 209 rfl rfl
theorem wd_571 : Cond.selects "java/lang/String" ⟨"java/lang/String", "length", "()I"⟩ ⟨"java/lang/String", "length", "()I"⟩ ∈ aGT := wd_c2 210 rfl rfl
theorem wd_572 : Cond.code ⟨"java/lang/String", "length", "()I"⟩ prog_18_method_54_code 1 ((some FieldType.int)) ∈ aGT := wd_c2 211 rfl rfl
theorem wd_573 : Cond.methodLink "java/lang/String" 335 ⟨"java/lang/String", "coder", "()B"⟩ ∈ aGT := wd_c2 212 rfl rfl
theorem wd_574 : Cond.instanceMethod ⟨"java/lang/String", "coder", "()B"⟩ ∈ aGT := wd_c2 213 rfl rfl
theorem wd_575 : Cond.selects "java/lang/String" ⟨"java/lang/String", "coder", "()B"⟩ ⟨"java/lang/String", "coder", "()B"⟩ ∈ aGT := wd_c2 214 rfl rfl
theorem wd_576 : Cond.code ⟨"java/lang/String", "coder", "()B"⟩ prog_18_method_152_code 1 ((some FieldType.byte)) ∈ aGT := wd_c2 215 rfl rfl
theorem wd_577 : Cond.fieldLink "java/lang/String" 38 "java/lang/String" "COMPACT_STRINGS" "Z" ∈ aGT := wd_c2 216 rfl rfl
theorem wd_579 : Cond.methodLink "BottledPost$Tape" 72 ⟨"java/lang/String", "charAt", "(I)C"⟩ ∈ aGT := wd_c2 218 rfl rfl
theorem wd_580 : Cond.instanceMethod ⟨"java/lang/String", "charAt", "(I)C"⟩ ∈ aGT := wd_c2 219 rfl rfl
theorem wd_581 : Cond.selects "java/lang/String" ⟨"java/lang/String", "charAt", "(I)C"⟩ ⟨"java/lang/String", "charAt", "(I)C"⟩ ∈ aGT := wd_c2 220 rfl rfl
theorem wd_582 : Cond.code ⟨"java/lang/String", "charAt", "(I)C"⟩ prog_18_method_56_code 2 ((some FieldType.char)) ∈ aGT := wd_c2 221 rfl rfl
theorem wd_583 : Cond.methodLink "java/lang/String" 492 ⟨"java/lang/String", "isLatin1", "()Z"⟩ ∈ aGT := wd_c2 222 rfl rfl
theorem wd_584 : Cond.instanceMethod ⟨"java/lang/String", "isLatin1", "()Z"⟩ ∈ aGT := wd_c2 223 rfl rfl
theorem wd_585 : Cond.selects "java/lang/String" ⟨"java/lang/String", "isLatin1", "()Z"⟩ ⟨"java/lang/String", "isLatin1", "()Z"⟩ ∈ aGT := wd_c2 224 rfl rfl
theorem wd_586 : Cond.code ⟨"java/lang/String", "isLatin1", "()Z"⟩ prog_18_method_154_code 1 ((some FieldType.boolean)) ∈ aGT := wd_c2 225 rfl rfl
theorem wd_587 : Cond.methodLink "java/lang/String" 495 ⟨"java/lang/StringLatin1", "charAt", "([BI)C"⟩ ∈ aGT := wd_c2 226 rfl rfl
theorem wd_588 : Cond.static ⟨"java/lang/StringLatin1", "charAt", "([BI)C"⟩ ∈ aGT := wd_c2 227 rfl rfl
theorem wd_589 : Cond.code ⟨"java/lang/StringLatin1", "charAt", "([BI)C"⟩ prog_19_method_2_code 2 ((some FieldType.char)) ∈ aGT := wd_c2 228 rfl rfl
theorem wd_590 : Cond.methodLink "java/lang/StringLatin1" 9 ⟨"java/lang/String", "checkIndex", "(II)V"⟩ ∈ aGT := wd_c2 229 rfl rfl
theorem wd_591 : Cond.static ⟨"java/lang/String", "checkIndex", "(II)V"⟩ ∈ aGT := wd_c2 230 rfl rfl
theorem wd_592 : Cond.code ⟨"java/lang/String", "checkIndex", "(II)V"⟩ prog_18_method_155_code 2 (none) ∈ aGT := wd_c2 231 rfl rfl
theorem wd_593 : Cond.fieldLink "java/lang/String" 1053 "jdk/internal/util/Preconditions" "SIOOBE_FORMATTER" "Ljava/util/function/BiFunction;" ∈ aGT := wd_c2 232 rfl rfl
theorem wd_595 : Cond.methodLink "java/lang/String" 1059 ⟨"jdk/internal/util/Preconditions", "checkIndex", "(IILjava/util/function/BiFunction;)I"⟩ ∈ aGT := wd_c2 234 rfl rfl
theorem wd_596 : Cond.static ⟨"jdk/internal/util/Preconditions", "checkIndex", "(IILjava/util/function/BiFunction;)I"⟩ ∈ aGT := wd_c2 235 rfl rfl
theorem wd_597 : Cond.code ⟨"jdk/internal/util/Preconditions", "checkIndex", "(IILjava/util/function/BiFunction;)I"⟩ prog_23_method_11_code 3 ((some FieldType.int)) ∈ aGT := wd_c2 236 rfl rfl
theorem wd_598 : Cond.methodLink "java/lang/String" 498 ⟨"java/lang/StringUTF16", "charAt", "([BI)C"⟩ ∈ aGT := wd_c2 237 rfl rfl
theorem wd_617 : Cond.methodLink "BottledPost$Tape" 55 ⟨"BottledPost$Tape", "readSign", "(I)V"⟩ ∈ aGT := wd_c3 16 rfl rfl
theorem wd_619 : Cond.instanceMethod ⟨"BottledPost$Tape", "readSign", "(I)V"⟩ ∈ aGT := wd_c3 18 rfl rfl
theorem wd_620 : Cond.code ⟨"BottledPost$Tape", "readSign", "(I)V"⟩ prog_11_method_11_code 3 (none) ∈ aGT := wd_c3 19 rfl rfl
theorem wd_621 : Cond.methodLink "BottledPost$Tape" 76 ⟨"BottledPost$Tape", "signKind", "(I)I"⟩ ∈ aGT := wd_c3 20 rfl rfl
theorem wd_622 : Cond.static ⟨"BottledPost$Tape", "signKind", "(I)I"⟩ ∈ aGT := wd_c3 21 rfl rfl
theorem wd_623 : Cond.code ⟨"BottledPost$Tape", "signKind", "(I)I"⟩ prog_11_method_12_code 1 ((some FieldType.int)) ∈ aGT := wd_c3 22 rfl rfl
theorem wd_624 : Cond.methodLink "BottledPost$Grammar" 47 ⟨"BottledPost$Grammar", "canBegin", "(LBottledPost$Tape;)Z"⟩ ∈ aGT := wd_c3 23 rfl rfl
theorem wd_626 : Cond.instanceMethod ⟨"BottledPost$Grammar", "canBegin", "(LBottledPost$Tape;)Z"⟩ ∈ aGT := wd_c3 25 rfl rfl
theorem wd_627 : Cond.code ⟨"BottledPost$Grammar", "canBegin", "(LBottledPost$Tape;)Z"⟩ prog_3_method_6_code 3 ((some FieldType.boolean)) ∈ aGT := wd_c3 26 rfl rfl
theorem wd_628 : Cond.methodLink "BottledPost$Grammar" 80 ⟨"BottledPost$Grammar", "refuse", "(LBottledPost$Tape;I)V"⟩ ∈ aGT := wd_c3 27 rfl rfl
theorem wd_630 : Cond.instanceMethod ⟨"BottledPost$Grammar", "refuse", "(LBottledPost$Tape;I)V"⟩ ∈ aGT := wd_c3 29 rfl rfl
theorem wd_631 : Cond.code ⟨"BottledPost$Grammar", "refuse", "(LBottledPost$Tape;I)V"⟩ prog_3_method_3_code 3 (none) ∈ aGT := wd_c3 30 rfl rfl
theorem wd_632 : Cond.methodLink "BottledPost$Grammar" 51 ⟨"BottledPost$Grammar", "readClause", "(LBottledPost$Tape;)V"⟩ ∈ aGT := wd_c3 31 rfl rfl
theorem wd_634 : Cond.instanceMethod ⟨"BottledPost$Grammar", "readClause", "(LBottledPost$Tape;)V"⟩ ∈ aGT := wd_c3 33 rfl rfl
theorem wd_635 : Cond.code ⟨"BottledPost$Grammar", "readClause", "(LBottledPost$Tape;)V"⟩ prog_3_method_7_code 3 (none) ∈ aGT := wd_c3 34 rfl rfl
theorem wd_636 : Cond.methodLink "BottledPost$Grammar" 84 ⟨"BottledPost$Grammar", "notePart", "(II)V"⟩ ∈ aGT := wd_c3 35 rfl rfl
theorem wd_638 : Cond.instanceMethod ⟨"BottledPost$Grammar", "notePart", "(II)V"⟩ ∈ aGT := wd_c3 37 rfl rfl
theorem wd_639 : Cond.code ⟨"BottledPost$Grammar", "notePart", "(II)V"⟩ prog_3_method_9_code 3 (none) ∈ aGT := wd_c3 38 rfl rfl
theorem wd_641 : Cond.methodLink "BottledPost$Grammar" 77 ⟨"BottledPost$Tape", "comeToNext", "()V"⟩ ∈ aGT := wd_c3 40 rfl rfl
theorem wd_642 : Cond.methodLink "BottledPost$Grammar" 95 ⟨"BottledPost$Grammar", "readSum", "(LBottledPost$Tape;)V"⟩ ∈ aGT := wd_c3 41 rfl rfl
theorem wd_644 : Cond.instanceMethod ⟨"BottledPost$Grammar", "readSum", "(LBottledPost$Tape;)V"⟩ ∈ aGT := wd_c3 43 rfl rfl
theorem wd_645 : Cond.code ⟨"BottledPost$Grammar", "readSum", "(LBottledPost$Tape;)V"⟩ prog_3_method_14_code 4 (none) ∈ aGT := wd_c3 44 rfl rfl
theorem wd_646 : Cond.methodLink "BottledPost$Grammar" 127 ⟨"BottledPost$Grammar", "readProduct", "(LBottledPost$Tape;)V"⟩ ∈ aGT := wd_c3 45 rfl rfl
theorem wd_648 : Cond.instanceMethod ⟨"BottledPost$Grammar", "readProduct", "(LBottledPost$Tape;)V"⟩ ∈ aGT := wd_c3 47 rfl rfl
theorem wd_649 : Cond.code ⟨"BottledPost$Grammar", "readProduct", "(LBottledPost$Tape;)V"⟩ prog_3_method_15_code 4 (none) ∈ aGT := wd_c3 48 rfl rfl
theorem wd_650 : Cond.methodLink "BottledPost$Grammar" 133 ⟨"BottledPost$Grammar", "readOne", "(LBottledPost$Tape;)V"⟩ ∈ aGT := wd_c3 49 rfl rfl
theorem wd_652 : Cond.instanceMethod ⟨"BottledPost$Grammar", "readOne", "(LBottledPost$Tape;)V"⟩ ∈ aGT := wd_c3 51 rfl rfl
theorem wd_653 : Cond.code ⟨"BottledPost$Grammar", "readOne", "(LBottledPost$Tape;)V"⟩ prog_3_method_16_code 2 (none) ∈ aGT := wd_c3 52 rfl rfl
theorem wd_654 : Cond.methodLink "BottledPost$Grammar" 136 ⟨"BottledPost$Grammar", "readPlainNumber", "(LBottledPost$Tape;)V"⟩ ∈ aGT := wd_c3 53 rfl rfl
theorem wd_656 : Cond.instanceMethod ⟨"BottledPost$Grammar", "readPlainNumber", "(LBottledPost$Tape;)V"⟩ ∈ aGT := wd_c3 55 rfl rfl
theorem wd_657 : Cond.code ⟨"BottledPost$Grammar", "readPlainNumber", "(LBottledPost$Tape;)V"⟩ prog_3_method_18_code 2 (none) ∈ aGT := wd_c3 56 rfl rfl
theorem wd_658 : Cond.methodLink "BottledPost$Grammar" 130 ⟨"BottledPost$Grammar", "addSign", "(II)I"⟩ ∈ aGT := wd_c3 57 rfl rfl
theorem wd_660 : Cond.instanceMethod ⟨"BottledPost$Grammar", "addSign", "(II)I"⟩ ∈ aGT := wd_c3 59 rfl rfl
theorem wd_661 : Cond.code ⟨"BottledPost$Grammar", "addSign", "(II)I"⟩ prog_3_method_12_code 4 ((some FieldType.int)) ∈ aGT := wd_c3 60 rfl rfl
theorem wd_662 : Cond.methodLink "BottledPost$Grammar" 122 ⟨"BottledPost$Laws", "sign", "(II)I"⟩ ∈ aGT := wd_c3 61 rfl rfl
theorem wd_663 : Cond.static ⟨"BottledPost$Laws", "sign", "(II)I"⟩ ∈ aGT := wd_c3 62 rfl rfl
theorem wd_664 : Cond.code ⟨"BottledPost$Laws", "sign", "(II)I"⟩ prog_4_method_2_code 2 ((some FieldType.int)) ∈ aGT := wd_c3 63 rfl rfl
theorem wd_665 : Cond.methodLink "BottledPost$Grammar" 139 ⟨"BottledPost$Grammar", "readName", "(LBottledPost$Tape;)V"⟩ ∈ aGT := wd_c3 64 rfl rfl
theorem wd_667 : Cond.instanceMethod ⟨"BottledPost$Grammar", "readName", "(LBottledPost$Tape;)V"⟩ ∈ aGT := wd_c3 66 rfl rfl
theorem wd_668 : Cond.code ⟨"BottledPost$Grammar", "readName", "(LBottledPost$Tape;)V"⟩ prog_3_method_19_code 2 (none) ∈ aGT := wd_c3 67 rfl rfl
theorem wd_669 : Cond.methodLink "BottledPost$Grammar" 142 ⟨"BottledPost$Grammar", "isOpener", "(I)Z"⟩ ∈ aGT := wd_c3 68 rfl rfl
theorem wd_670 : Cond.static ⟨"BottledPost$Grammar", "isOpener", "(I)Z"⟩ ∈ aGT := wd_c3 69 rfl rfl
theorem wd_671 : Cond.code ⟨"BottledPost$Grammar", "isOpener", "(I)Z"⟩ prog_3_method_17_code 1 ((some FieldType.boolean)) ∈ aGT := wd_c3 70 rfl rfl
theorem wd_672 : Cond.methodLink "BottledPost$Grammar" 146 ⟨"BottledPost$Grammar", "readOpened", "(LBottledPost$Tape;)V"⟩ ∈ aGT := wd_c3 71 rfl rfl
theorem wd_674 : Cond.instanceMethod ⟨"BottledPost$Grammar", "readOpened", "(LBottledPost$Tape;)V"⟩ ∈ aGT := wd_c3 73 rfl rfl
theorem wd_675 : Cond.code ⟨"BottledPost$Grammar", "readOpened", "(LBottledPost$Tape;)V"⟩ prog_3_method_20_code 3 (none) ∈ aGT := wd_c3 74 rfl rfl
theorem wd_676 : Cond.methodLink "BottledPost$Grammar" 104 ⟨"BottledPost$Grammar", "want", "(LBottledPost$Tape;I)V"⟩ ∈ aGT := wd_c3 75 rfl rfl
theorem wd_678 : Cond.instanceMethod ⟨"BottledPost$Grammar", "want", "(LBottledPost$Tape;I)V"⟩ ∈ aGT := wd_c3 77 rfl rfl
theorem wd_679 : Cond.code ⟨"BottledPost$Grammar", "want", "(LBottledPost$Tape;I)V"⟩ prog_3_method_5_code 3 (none) ∈ aGT := wd_c3 78 rfl rfl
theorem wd_680 : Cond.methodLink "BottledPost$Grammar" 73 ⟨"BottledPost$Grammar", "sees", "(LBottledPost$Tape;I)Z"⟩ ∈ aGT := wd_c3 79 rfl rfl
theorem wd_682 : Cond.instanceMethod ⟨"BottledPost$Grammar", "sees", "(LBottledPost$Tape;I)Z"⟩ ∈ aGT := wd_c3 81 rfl rfl
theorem wd_683 : Cond.code ⟨"BottledPost$Grammar", "sees", "(LBottledPost$Tape;I)Z"⟩ prog_3_method_4_code 3 ((some FieldType.boolean)) ∈ aGT := wd_c3 82 rfl rfl
theorem wd_684 : Cond.methodLink "BottledPost$Grammar" 149 ⟨"BottledPost$Grammar", "readIf", "(LBottledPost$Tape;)V"⟩ ∈ aGT := wd_c3 83 rfl rfl
theorem wd_686 : Cond.instanceMethod ⟨"BottledPost$Grammar", "readIf", "(LBottledPost$Tape;)V"⟩ ∈ aGT := wd_c3 85 rfl rfl
theorem wd_687 : Cond.code ⟨"BottledPost$Grammar", "readIf", "(LBottledPost$Tape;)V"⟩ prog_3_method_21_code 4 (none) ∈ aGT := wd_c3 86 rfl rfl
theorem wd_688 : Cond.methodLink "BottledPost$Grammar" 152 ⟨"BottledPost$Grammar", "readEither", "(LBottledPost$Tape;)V"⟩ ∈ aGT := wd_c3 87 rfl rfl
theorem wd_690 : Cond.instanceMethod ⟨"BottledPost$Grammar", "readEither", "(LBottledPost$Tape;)V"⟩ ∈ aGT := wd_c3 89 rfl rfl
theorem wd_691 : Cond.code ⟨"BottledPost$Grammar", "readEither", "(LBottledPost$Tape;)V"⟩ prog_3_method_22_code 3 (none) ∈ aGT := wd_c3 90 rfl rfl
theorem wd_692 : Cond.methodLink "BottledPost$Grammar" 158 ⟨"BottledPost$Grammar", "readBoth", "(LBottledPost$Tape;)V"⟩ ∈ aGT := wd_c3 91 rfl rfl
theorem wd_694 : Cond.instanceMethod ⟨"BottledPost$Grammar", "readBoth", "(LBottledPost$Tape;)V"⟩ ∈ aGT := wd_c3 93 rfl rfl
theorem wd_695 : Cond.code ⟨"BottledPost$Grammar", "readBoth", "(LBottledPost$Tape;)V"⟩ prog_3_method_23_code 3 (none) ∈ aGT := wd_c3 94 rfl rfl
theorem wd_696 : Cond.methodLink "BottledPost$Grammar" 161 ⟨"BottledPost$Grammar", "readAsk", "(LBottledPost$Tape;)V"⟩ ∈ aGT := wd_c3 95 rfl rfl
theorem wd_698 : Cond.instanceMethod ⟨"BottledPost$Grammar", "readAsk", "(LBottledPost$Tape;)V"⟩ ∈ aGT := wd_c3 97 rfl rfl
theorem wd_699 : Cond.code ⟨"BottledPost$Grammar", "readAsk", "(LBottledPost$Tape;)V"⟩ prog_3_method_24_code 2 (none) ∈ aGT := wd_c3 98 rfl rfl
theorem wd_700 : Cond.methodLink "BottledPost$Grammar" 164 ⟨"BottledPost$Grammar", "readComparison", "(LBottledPost$Tape;)V"⟩ ∈ aGT := wd_c3 99 rfl rfl
theorem wd_702 : Cond.instanceMethod ⟨"BottledPost$Grammar", "readComparison", "(LBottledPost$Tape;)V"⟩ ∈ aGT := wd_c3 101 rfl rfl
theorem wd_703 : Cond.code ⟨"BottledPost$Grammar", "readComparison", "(LBottledPost$Tape;)V"⟩ prog_3_method_26_code 3 (none) ∈ aGT := wd_c3 102 rfl rfl
theorem wd_704 : Cond.methodLink "BottledPost$Grammar" 167 ⟨"BottledPost$Grammar", "readDenied", "(LBottledPost$Tape;)V"⟩ ∈ aGT := wd_c3 103 rfl rfl
theorem wd_706 : Cond.instanceMethod ⟨"BottledPost$Grammar", "readDenied", "(LBottledPost$Tape;)V"⟩ ∈ aGT := wd_c3 105 rfl rfl
theorem wd_707 : Cond.code ⟨"BottledPost$Grammar", "readDenied", "(LBottledPost$Tape;)V"⟩ prog_3_method_25_code 2 (none) ∈ aGT := wd_c3 106 rfl rfl
theorem wd_708 : Cond.methodLink "BottledPost$Grammar" 155 ⟨"BottledPost$Grammar", "leadHere", "(II)V"⟩ ∈ aGT := wd_c3 107 rfl rfl
theorem wd_710 : Cond.instanceMethod ⟨"BottledPost$Grammar", "leadHere", "(II)V"⟩ ∈ aGT := wd_c3 109 rfl rfl
theorem wd_711 : Cond.code ⟨"BottledPost$Grammar", "leadHere", "(II)V"⟩ prog_3_method_13_code 3 (none) ∈ aGT := wd_c3 110 rfl rfl
theorem wd_712 : Cond.methodLink "BottledPost$Grammar" 98 ⟨"BottledPost$Grammar", "endLaw", "()V"⟩ ∈ aGT := wd_c3 111 rfl rfl
theorem wd_714 : Cond.instanceMethod ⟨"BottledPost$Grammar", "endLaw", "()V"⟩ ∈ aGT := wd_c3 113 rfl rfl
theorem wd_715 : Cond.code ⟨"BottledPost$Grammar", "endLaw", "()V"⟩ prog_3_method_8_code 2 (none) ∈ aGT := wd_c3 114 rfl rfl
theorem wd_716 : Cond.methodLink "BottledPost$Grammar" 55 ⟨"java/lang/Math", "max", "(II)I"⟩ ∈ aGT := wd_c3 115 rfl rfl
theorem wd_717 : Cond.static ⟨"java/lang/Math", "max", "(II)I"⟩ ∈ aGT := wd_c3 116 rfl rfl
theorem wd_718 : Cond.code ⟨"java/lang/Math", "max", "(II)I"⟩ prog_17_method_65_code 2 ((some FieldType.int)) ∈ aGT := wd_c3 117 rfl rfl
theorem wd_719 : Cond.methodLink "BottledPost$Grammar" 61 ⟨"java/util/Arrays", "copyOf", "([II)[I"⟩ ∈ aGT := wd_c3 118 rfl rfl
theorem wd_720 : Cond.static ⟨"java/util/Arrays", "copyOf", "([II)[I"⟩ ∈ aGT := wd_c3 119 rfl rfl
theorem wd_721 : Cond.code ⟨"java/util/Arrays", "copyOf", "([II)[I"⟩ prog_22_method_123_code 3 ((some (FieldType.array FieldType.int))) ∈ aGT := wd_c3 120 rfl rfl
theorem wd_722 : Cond.methodLink "java/util/Arrays" 316 ⟨"[I", "clone", "()Ljava/lang/Object;"⟩ ∈ aGT := wd_c3 121 rfl rfl
theorem wd_723 : Cond.sameMethod "[I" "java/lang/Object" "clone" "()Ljava/lang/Object;" ∈ aGT := wd_c3 122 rfl rfl
theorem wd_724 : Cond.native ⟨"java/lang/Object", "clone", "()Ljava/lang/Object;"⟩ ∈ aGT := wd_c3 123 rfl rfl
theorem wd_725 : Cond.instanceMethod ⟨"java/lang/Object", "clone", "()Ljava/lang/Object;"⟩ ∈ aGT := wd_c3 124 rfl rfl
theorem wd_726 : Cond.selects "[I" ⟨"[I", "clone", "()Ljava/lang/Object;"⟩ ⟨"java/lang/Object", "clone", "()Ljava/lang/Object;"⟩ ∈ aGT := wd_c3 125 rfl rfl
theorem wd_728 : Cond.classLink "java/util/Arrays" 317 "[I" ∈ aGT := wd_c3 127 rfl rfl
theorem wd_729 : Cond.methodLink "java/util/Arrays" 304 ⟨"java/lang/Math", "min", "(II)I"⟩ ∈ aGT := wd_c3 128 rfl rfl
theorem wd_730 : Cond.methodLink "java/util/Arrays" 150 ⟨"java/lang/System", "arraycopy", "(Ljava/lang/Object;ILjava/lang/Object;II)V"⟩ ∈ aGT := wd_c3 129 rfl rfl
theorem wd_731 : Cond.static ⟨"java/lang/System", "arraycopy", "(Ljava/lang/Object;ILjava/lang/Object;II)V"⟩ ∈ aGT := wd_c3 130 rfl rfl
theorem wd_732 : Cond.native ⟨"java/lang/System", "arraycopy", "(Ljava/lang/Object;ILjava/lang/Object;II)V"⟩ ∈ aGT := wd_c3 131 rfl rfl
theorem wd_733 : Cond.methodLink "BottledPost$Grammar" 101 ⟨"BottledPost$Grammar", "readNumbers", "(LBottledPost$Tape;I)V"⟩ ∈ aGT := wd_c3 132 rfl rfl
theorem wd_735 : Cond.instanceMethod ⟨"BottledPost$Grammar", "readNumbers", "(LBottledPost$Tape;I)V"⟩ ∈ aGT := wd_c3 134 rfl rfl
theorem wd_736 : Cond.code ⟨"BottledPost$Grammar", "readNumbers", "(LBottledPost$Tape;I)V"⟩ prog_3_method_10_code 3 (none) ∈ aGT := wd_c3 135 rfl rfl
theorem wd_737 : Cond.methodLink "BottledPost$Grammar" 111 ⟨"BottledPost$Grammar", "readNumber", "(LBottledPost$Tape;III)V"⟩ ∈ aGT := wd_c3 136 rfl rfl
theorem wd_739 : Cond.instanceMethod ⟨"BottledPost$Grammar", "readNumber", "(LBottledPost$Tape;III)V"⟩ ∈ aGT := wd_c3 138 rfl rfl
theorem wd_740 : Cond.code ⟨"BottledPost$Grammar", "readNumber", "(LBottledPost$Tape;III)V"⟩ prog_3_method_11_code 5 (none) ∈ aGT := wd_c3 139 rfl rfl
theorem wd_742 : Cond.classLink "BottledPost$Grammar" 9 "BottledPost$Text" ∈ aGT := wd_c3 141 rfl rfl
theorem wd_743 : Cond.instantiable "BottledPost$Text" 3 ∈ aGT := wd_c3 142 rfl rfl
theorem wd_744 : Cond.methodLink "BottledPost$Grammar" 67 ⟨"BottledPost$Text", "<init>", "([I[I[I)V"⟩ ∈ aGT := wd_c3 143 rfl rfl
theorem wd_745 : Cond.instanceMethod ⟨"BottledPost$Text", "<init>", "([I[I[I)V"⟩ ∈ aGT := wd_c3 144 rfl rfl
theorem wd_746 : Cond.code ⟨"BottledPost$Text", "<init>", "([I[I[I)V"⟩ prog_12_method_1_code 4 (none) ∈ aGT := wd_c3 145 rfl rfl
theorem wd_747 : Cond.methodLink "BottledPost$Text" 1 ⟨"java/lang/Object", "<init>", "()V"⟩ ∈ aGT := wd_c3 146 rfl rfl
theorem wd_748 : Cond.fieldLink "BottledPost$Text" 7 "BottledPost$Text" "clauses" "[I" ∈ aGT := wd_c3 147 rfl rfl
theorem wd_749 : Cond.fieldLink "BottledPost$Text" 13 "BottledPost$Text" "comes" "[I" ∈ aGT := wd_c3 148 rfl rfl
theorem wd_750 : Cond.fieldLink "BottledPost$Laws" 64 "BottledPost$Text" "comes" "[I" ∈ aGT := wd_c3 149 rfl rfl
theorem wd_751 : Cond.fieldLink "BottledPost$Text" 16 "BottledPost$Text" "wears" "[I" ∈ aGT := wd_c3 150 rfl rfl
theorem wd_752 : Cond.fieldLink "BottledPost$Laws" 79 "BottledPost$Text" "wears" "[I" ∈ aGT := wd_c3 151 rfl rfl
theorem wd_753 : Cond.laysFinal "BottledPost$Text" "BottledPost$Text" "clauses" "[I" ∈ aGT := wd_c3 152 rfl rfl
theorem wd_755 : Cond.laysFinal "BottledPost$Text" "BottledPost$Text" "comes" "[I" ∈ aGT := wd_c3 154 rfl rfl
theorem wd_757 : Cond.laysFinal "BottledPost$Text" "BottledPost$Text" "wears" "[I" ∈ aGT := wd_c3 156 rfl rfl
theorem wd_760 : Cond.arrayClass .byte ∈ aGT := wd_c3 159 rfl rfl
theorem wd_761 : Cond.methodLink "BottledPost" 109 ⟨"BottledPost$World", "addText", "(LBottledPost$Text;)I"⟩ ∈ aGT := wd_c3 160 rfl rfl
theorem wd_762 : Cond.instanceMethod ⟨"BottledPost$World", "addText", "(LBottledPost$Text;)I"⟩ ∈ aGT := wd_c3 161 rfl rfl
theorem wd_763 : Cond.selects "BottledPost$World" ⟨"BottledPost$World", "addText", "(LBottledPost$Text;)I"⟩ ⟨"BottledPost$World", "addText", "(LBottledPost$Text;)I"⟩ ∈ aGT := wd_c3 162 rfl rfl
theorem wd_764 : Cond.code ⟨"BottledPost$World", "addText", "(LBottledPost$Text;)I"⟩ prog_13_method_3_code 2 ((some FieldType.int)) ∈ aGT := wd_c3 163 rfl rfl
theorem wd_765 : Cond.methodLink "BottledPostLaw" 38 ⟨"BottledPost", "fault", "(I)I"⟩ ∈ aGT := wd_c3 164 rfl rfl
theorem wd_766 : Cond.instanceMethod ⟨"BottledPost", "fault", "(I)I"⟩ ∈ aGT := wd_c3 165 rfl rfl
theorem wd_767 : Cond.selects "BottledPost" ⟨"BottledPost", "fault", "(I)I"⟩ ⟨"BottledPost", "fault", "(I)I"⟩ ∈ aGT := wd_c3 166 rfl rfl
theorem wd_768 : Cond.code ⟨"BottledPost", "fault", "(I)I"⟩ prog_1_method_7_code 2 ((some FieldType.int)) ∈ aGT := wd_c3 167 rfl rfl
theorem wd_769 : Cond.methodLink "BottledPostLaw" 42 ⟨"BottledPost", "by", "(I)Z"⟩ ∈ aGT := wd_c3 168 rfl rfl
theorem wd_770 : Cond.instanceMethod ⟨"BottledPost", "by", "(I)Z"⟩ ∈ aGT := wd_c3 169 rfl rfl
theorem wd_771 : Cond.selects "BottledPost" ⟨"BottledPost", "by", "(I)Z"⟩ ⟨"BottledPost", "by", "(I)Z"⟩ ∈ aGT := wd_c3 170 rfl rfl
theorem wd_772 : Cond.code ⟨"BottledPost", "by", "(I)Z"⟩ prog_1_method_8_code 2 ((some FieldType.boolean)) ∈ aGT := wd_c3 171 rfl rfl
theorem wd_773 : Cond.methodLink "BottledPostLaw" 47 ⟨"BottledPost", "toss", "(III)I"⟩ ∈ aGT := wd_c3 172 rfl rfl
theorem wd_774 : Cond.instanceMethod ⟨"BottledPost", "toss", "(III)I"⟩ ∈ aGT := wd_c3 173 rfl rfl
theorem wd_775 : Cond.selects "BottledPost" ⟨"BottledPost", "toss", "(III)I"⟩ ⟨"BottledPost", "toss", "(III)I"⟩ ∈ aGT := wd_c3 174 rfl rfl
theorem wd_776 : Cond.code ⟨"BottledPost", "toss", "(III)I"⟩ prog_1_method_9_code 4 ((some FieldType.int)) ∈ aGT := wd_c3 175 rfl rfl
theorem wd_777 : Cond.methodLink "BottledPost" 116 ⟨"BottledPost", "tossBottle", "(IIIZ)I"⟩ ∈ aGT := wd_c3 176 rfl rfl
theorem wd_779 : Cond.instanceMethod ⟨"BottledPost", "tossBottle", "(IIIZ)I"⟩ ∈ aGT := wd_c3 178 rfl rfl
theorem wd_780 : Cond.code ⟨"BottledPost", "tossBottle", "(IIIZ)I"⟩ prog_1_method_16_code 6 ((some FieldType.int)) ∈ aGT := wd_c3 179 rfl rfl
theorem wd_781 : Cond.methodLink "BottledPost" 175 ⟨"BottledPost$Shore", "hasPerson", "(I)Z"⟩ ∈ aGT := wd_c3 180 rfl rfl
theorem wd_782 : Cond.instanceMethod ⟨"BottledPost$Shore", "hasPerson", "(I)Z"⟩ ∈ aGT := wd_c3 181 rfl rfl
theorem wd_783 : Cond.selects "BottledPost$Shore" ⟨"BottledPost$Shore", "hasPerson", "(I)Z"⟩ ⟨"BottledPost$Shore", "hasPerson", "(I)Z"⟩ ∈ aGT := wd_c3 182 rfl rfl
theorem wd_784 : Cond.code ⟨"BottledPost$Shore", "hasPerson", "(I)Z"⟩ prog_9_method_5_code 2 ((some FieldType.boolean)) ∈ aGT := wd_c3 183 rfl rfl
theorem wd_785 : Cond.methodLink "BottledPost" 156 ⟨"BottledPost$Steps", "keep", "(LBottledPost$Sea;)V"⟩ ∈ aGT := wd_c3 184 rfl rfl
theorem wd_786 : Cond.instanceMethod ⟨"BottledPost$Steps", "keep", "(LBottledPost$Sea;)V"⟩ ∈ aGT := wd_c3 185 rfl rfl
theorem wd_787 : Cond.selects "BottledPost$Steps" ⟨"BottledPost$Steps", "keep", "(LBottledPost$Sea;)V"⟩ ⟨"BottledPost$Steps", "keep", "(LBottledPost$Sea;)V"⟩ ∈ aGT := wd_c3 186 rfl rfl
theorem wd_788 : Cond.code ⟨"BottledPost$Steps", "keep", "(LBottledPost$Sea;)V"⟩ prog_10_method_4_code 3 (none) ∈ aGT := wd_c3 187 rfl rfl
theorem wd_789 : Cond.methodLink "BottledPost$Steps" 30 ⟨"BottledPost$Steps", "forgetEldest", "()V"⟩ ∈ aGT := wd_c3 188 rfl rfl
theorem wd_791 : Cond.instanceMethod ⟨"BottledPost$Steps", "forgetEldest", "()V"⟩ ∈ aGT := wd_c3 190 rfl rfl
theorem wd_792 : Cond.code ⟨"BottledPost$Steps", "forgetEldest", "()V"⟩ prog_10_method_5_code 3 (none) ∈ aGT := wd_c3 191 rfl rfl
theorem wd_793 : Cond.methodLink "BottledPost$Steps" 22 ⟨"BottledPost$Steps", "seaOf", "(I)LBottledPost$Sea;"⟩ ∈ aGT := wd_c3 192 rfl rfl
theorem wd_795 : Cond.instanceMethod ⟨"BottledPost$Steps", "seaOf", "(I)LBottledPost$Sea;"⟩ ∈ aGT := wd_c3 194 rfl rfl
theorem wd_796 : Cond.code ⟨"BottledPost$Steps", "seaOf", "(I)LBottledPost$Sea;"⟩ prog_10_method_3_code 2 ((some (FieldType.object "BottledPost$Sea"))) ∈ aGT := wd_c3 195 rfl rfl
theorem wd_797 : Cond.methodLink "BottledPost$Steps" 26 ⟨"BottledPost$Sea", "copyFrom", "(LBottledPost$Sea;)V"⟩ ∈ aGT := wd_c3 196 rfl rfl
theorem wd_798 : Cond.instanceMethod ⟨"BottledPost$Sea", "copyFrom", "(LBottledPost$Sea;)V"⟩ ∈ aGT := wd_c3 197 rfl rfl
theorem wd_799 : Cond.selects "BottledPost$Sea" ⟨"BottledPost$Sea", "copyFrom", "(LBottledPost$Sea;)V"⟩ ⟨"BottledPost$Sea", "copyFrom", "(LBottledPost$Sea;)V"⟩ ∈ aGT := wd_c3 198 rfl rfl
theorem wd_800 : Cond.code ⟨"BottledPost$Sea", "copyFrom", "(LBottledPost$Sea;)V"⟩ prog_8_method_2_code 2 (none) ∈ aGT := wd_c3 199 rfl rfl
theorem wd_802 : Cond.static ⟨"BottledPost", "copyRow", "([I[I)V"⟩ ∈ aGT := wd_c3 201 rfl rfl
theorem wd_803 : Cond.code ⟨"BottledPost", "copyRow", "([I[I)V"⟩ prog_1_method_60_code 2 (none) ∈ aGT := wd_c3 202 rfl rfl
theorem wd_804 : Cond.methodLink "BottledPost" 381 ⟨"java/lang/Math", "min", "(II)I"⟩ ∈ aGT := wd_c3 203 rfl rfl
theorem wd_805 : Cond.methodLink "BottledPost" 386 ⟨"java/lang/System", "arraycopy", "(Ljava/lang/Object;ILjava/lang/Object;II)V"⟩ ∈ aGT := wd_c3 204 rfl rfl
theorem wd_806 : Cond.methodLink "BottledPost$Sea" 36 ⟨"BottledPost$Book", "copyFrom", "(LBottledPost$Book;)V"⟩ ∈ aGT := wd_c3 205 rfl rfl
theorem wd_807 : Cond.instanceMethod ⟨"BottledPost$Book", "copyFrom", "(LBottledPost$Book;)V"⟩ ∈ aGT := wd_c3 206 rfl rfl
theorem wd_808 : Cond.selects "BottledPost$Book" ⟨"BottledPost$Book", "copyFrom", "(LBottledPost$Book;)V"⟩ ⟨"BottledPost$Book", "copyFrom", "(LBottledPost$Book;)V"⟩ ∈ aGT := wd_c3 207 rfl rfl
theorem wd_809 : Cond.code ⟨"BottledPost$Book", "copyFrom", "(LBottledPost$Book;)V"⟩ prog_2_method_2_code 2 (none) ∈ aGT := wd_c3 208 rfl rfl
theorem wd_811 : Cond.methodLink "BottledPost" 181 ⟨"BottledPost$Shore", "placeOf", "(I)I"⟩ ∈ aGT := wd_c3 210 rfl rfl
theorem wd_812 : Cond.instanceMethod ⟨"BottledPost$Shore", "placeOf", "(I)I"⟩ ∈ aGT := wd_c3 211 rfl rfl
theorem wd_813 : Cond.selects "BottledPost$Shore" ⟨"BottledPost$Shore", "placeOf", "(I)I"⟩ ⟨"BottledPost$Shore", "placeOf", "(I)I"⟩ ∈ aGT := wd_c3 212 rfl rfl
theorem wd_814 : Cond.code ⟨"BottledPost$Shore", "placeOf", "(I)I"⟩ prog_9_method_6_code 2 ((some FieldType.int)) ∈ aGT := wd_c3 213 rfl rfl
theorem wd_815 : Cond.methodLink "BottledPost" 184 ⟨"BottledPost$Sea", "addBottle", "(IIII)I"⟩ ∈ aGT := wd_c3 214 rfl rfl
theorem wd_816 : Cond.instanceMethod ⟨"BottledPost$Sea", "addBottle", "(IIII)I"⟩ ∈ aGT := wd_c3 215 rfl rfl
theorem wd_817 : Cond.selects "BottledPost$Sea" ⟨"BottledPost$Sea", "addBottle", "(IIII)I"⟩ ⟨"BottledPost$Sea", "addBottle", "(IIII)I"⟩ ∈ aGT := wd_c3 216 rfl rfl
theorem wd_818 : Cond.code ⟨"BottledPost$Sea", "addBottle", "(IIII)I"⟩ prog_8_method_7_code 6 ((some FieldType.int)) ∈ aGT := wd_c3 217 rfl rfl
theorem wd_819 : Cond.methodLink "BottledPost$Sea" 48 ⟨"BottledPost$Sea", "set", "(III)V"⟩ ∈ aGT := wd_c3 218 rfl rfl
theorem wd_820 : Cond.instanceMethod ⟨"BottledPost$Sea", "set", "(III)V"⟩ ∈ aGT := wd_c3 219 rfl rfl
theorem wd_821 : Cond.selects "BottledPost$Sea" ⟨"BottledPost$Sea", "set", "(III)V"⟩ ⟨"BottledPost$Sea", "set", "(III)V"⟩ ∈ aGT := wd_c3 220 rfl rfl
theorem wd_822 : Cond.code ⟨"BottledPost$Sea", "set", "(III)V"⟩ prog_8_method_4_code 5 (none) ∈ aGT := wd_c3 221 rfl rfl
theorem wd_823 : Cond.methodLink "BottledPostLaw" 52 ⟨"BottledPost", "fish", "(II)Z"⟩ ∈ aGT := wd_c3 222 rfl rfl
theorem wd_824 : Cond.instanceMethod ⟨"BottledPost", "fish", "(II)Z"⟩ ∈ aGT := wd_c3 223 rfl rfl
theorem wd_825 : Cond.selects "BottledPost" ⟨"BottledPost", "fish", "(II)Z"⟩ ⟨"BottledPost", "fish", "(II)Z"⟩ ∈ aGT := wd_c3 224 rfl rfl
theorem wd_826 : Cond.code ⟨"BottledPost", "fish", "(II)Z"⟩ prog_1_method_10_code 3 ((some FieldType.boolean)) ∈ aGT := wd_c3 225 rfl rfl
theorem wd_827 : Cond.methodLink "BottledPost" 120 ⟨"BottledPost", "fishBottle", "(IIZ)Z"⟩ ∈ aGT := wd_c3 226 rfl rfl
theorem wd_829 : Cond.instanceMethod ⟨"BottledPost", "fishBottle", "(IIZ)Z"⟩ ∈ aGT := wd_c3 228 rfl rfl
theorem wd_830 : Cond.code ⟨"BottledPost", "fishBottle", "(IIZ)Z"⟩ prog_1_method_17_code 6 ((some FieldType.boolean)) ∈ aGT := wd_c3 229 rfl rfl
theorem wd_831 : Cond.methodLink "BottledPost" 188 ⟨"BottledPost$Sea", "isAfloat", "(I)Z"⟩ ∈ aGT := wd_c3 230 rfl rfl
theorem wd_832 : Cond.instanceMethod ⟨"BottledPost$Sea", "isAfloat", "(I)Z"⟩ ∈ aGT := wd_c3 231 rfl rfl
theorem wd_833 : Cond.selects "BottledPost$Sea" ⟨"BottledPost$Sea", "isAfloat", "(I)Z"⟩ ⟨"BottledPost$Sea", "isAfloat", "(I)Z"⟩ ∈ aGT := wd_c3 232 rfl rfl
theorem wd_834 : Cond.code ⟨"BottledPost$Sea", "isAfloat", "(I)Z"⟩ prog_8_method_6_code 2 ((some FieldType.boolean)) ∈ aGT := wd_c3 233 rfl rfl
theorem wd_835 : Cond.methodLink "BottledPost$Sea" 40 ⟨"BottledPost$Sea", "hasBottle", "(I)Z"⟩ ∈ aGT := wd_c3 234 rfl rfl
theorem wd_836 : Cond.instanceMethod ⟨"BottledPost$Sea", "hasBottle", "(I)Z"⟩ ∈ aGT := wd_c3 235 rfl rfl
theorem wd_837 : Cond.selects "BottledPost$Sea" ⟨"BottledPost$Sea", "hasBottle", "(I)Z"⟩ ⟨"BottledPost$Sea", "hasBottle", "(I)Z"⟩ ∈ aGT := wd_c3 236 rfl rfl
theorem wd_838 : Cond.code ⟨"BottledPost$Sea", "hasBottle", "(I)Z"⟩ prog_8_method_5_code 2 ((some FieldType.boolean)) ∈ aGT := wd_c3 237 rfl rfl
theorem wd_839 : Cond.methodLink "BottledPost$Sea" 44 ⟨"BottledPost$Sea", "get", "(II)I"⟩ ∈ aGT := wd_c3 238 rfl rfl
theorem wd_840 : Cond.instanceMethod ⟨"BottledPost$Sea", "get", "(II)I"⟩ ∈ aGT := wd_c3 239 rfl rfl
theorem wd_841 : Cond.selects "BottledPost$Sea" ⟨"BottledPost$Sea", "get", "(II)I"⟩ ⟨"BottledPost$Sea", "get", "(II)I"⟩ ∈ aGT := wd_c4 0 rfl rfl
theorem wd_842 : Cond.code ⟨"BottledPost$Sea", "get", "(II)I"⟩ prog_8_method_3_code 4 ((some FieldType.int)) ∈ aGT := wd_c4 1 rfl rfl
theorem wd_843 : Cond.methodLink "BottledPost" 191 ⟨"BottledPost$Sea", "get", "(II)I"⟩ ∈ aGT := wd_c4 2 rfl rfl
theorem wd_844 : Cond.methodLink "BottledPost" 194 ⟨"BottledPost$Sea", "set", "(III)V"⟩ ∈ aGT := wd_c4 3 rfl rfl
theorem wd_845 : Cond.methodLink "BottledPost" 198 ⟨"BottledPost$Sea", "writeDown", "(II)V"⟩ ∈ aGT := wd_c4 4 rfl rfl
theorem wd_846 : Cond.instanceMethod ⟨"BottledPost$Sea", "writeDown", "(II)V"⟩ ∈ aGT := wd_c4 5 rfl rfl
theorem wd_847 : Cond.selects "BottledPost$Sea" ⟨"BottledPost$Sea", "writeDown", "(II)V"⟩ ⟨"BottledPost$Sea", "writeDown", "(II)V"⟩ ∈ aGT := wd_c4 6 rfl rfl
theorem wd_848 : Cond.code ⟨"BottledPost$Sea", "writeDown", "(II)V"⟩ prog_8_method_9_code 3 (none) ∈ aGT := wd_c4 7 rfl rfl
theorem wd_849 : Cond.methodLink "BottledPost$Sea" 52 ⟨"BottledPost$Book", "addLine", "(IIII)V"⟩ ∈ aGT := wd_c4 8 rfl rfl
theorem wd_850 : Cond.instanceMethod ⟨"BottledPost$Book", "addLine", "(IIII)V"⟩ ∈ aGT := wd_c4 9 rfl rfl
theorem wd_851 : Cond.selects "BottledPost$Book" ⟨"BottledPost$Book", "addLine", "(IIII)V"⟩ ⟨"BottledPost$Book", "addLine", "(IIII)V"⟩ ∈ aGT := wd_c4 10 rfl rfl
theorem wd_852 : Cond.code ⟨"BottledPost$Book", "addLine", "(IIII)V"⟩ prog_2_method_3_code 6 (none) ∈ aGT := wd_c4 11 rfl rfl
theorem wd_853 : Cond.methodLink "BottledPost$Book" 23 ⟨"java/lang/System", "arraycopy", "(Ljava/lang/Object;ILjava/lang/Object;II)V"⟩ ∈ aGT := wd_c4 12 rfl rfl
theorem wd_854 : Cond.methodLink "BottledPostLaw" 57 ⟨"BottledPost", "again", "(I)Z"⟩ ∈ aGT := wd_c4 13 rfl rfl
theorem wd_855 : Cond.instanceMethod ⟨"BottledPost", "again", "(I)Z"⟩ ∈ aGT := wd_c4 14 rfl rfl
theorem wd_856 : Cond.selects "BottledPost" ⟨"BottledPost", "again", "(I)Z"⟩ ⟨"BottledPost", "again", "(I)Z"⟩ ∈ aGT := wd_c4 15 rfl rfl
theorem wd_857 : Cond.code ⟨"BottledPost", "again", "(I)Z"⟩ prog_1_method_11_code 2 ((some FieldType.boolean)) ∈ aGT := wd_c4 16 rfl rfl
theorem wd_858 : Cond.methodLink "BottledPost" 124 ⟨"BottledPost", "tossAgain", "(IZ)Z"⟩ ∈ aGT := wd_c4 17 rfl rfl
theorem wd_860 : Cond.instanceMethod ⟨"BottledPost", "tossAgain", "(IZ)Z"⟩ ∈ aGT := wd_c4 19 rfl rfl
theorem wd_861 : Cond.code ⟨"BottledPost", "tossAgain", "(IZ)Z"⟩ prog_1_method_18_code 4 ((some FieldType.boolean)) ∈ aGT := wd_c4 20 rfl rfl
theorem wd_862 : Cond.methodLink "BottledPost" 202 ⟨"BottledPost$Sea", "hasBottle", "(I)Z"⟩ ∈ aGT := wd_c4 21 rfl rfl
theorem wd_863 : Cond.methodLink "BottledPostLaw" 61 ⟨"BottledPost", "tide", "(I)I"⟩ ∈ aGT := wd_c4 22 rfl rfl
theorem wd_864 : Cond.instanceMethod ⟨"BottledPost", "tide", "(I)I"⟩ ∈ aGT := wd_c4 23 rfl rfl
theorem wd_865 : Cond.selects "BottledPost" ⟨"BottledPost", "tide", "(I)I"⟩ ⟨"BottledPost", "tide", "(I)I"⟩ ∈ aGT := wd_c4 24 rfl rfl
theorem wd_866 : Cond.code ⟨"BottledPost", "tide", "(I)I"⟩ prog_1_method_12_code 2 ((some FieldType.int)) ∈ aGT := wd_c4 25 rfl rfl
theorem wd_867 : Cond.methodLink "BottledPost" 134 ⟨"BottledPost", "passTides", "(I)I"⟩ ∈ aGT := wd_c4 26 rfl rfl
theorem wd_869 : Cond.instanceMethod ⟨"BottledPost", "passTides", "(I)I"⟩ ∈ aGT := wd_c4 28 rfl rfl
theorem wd_870 : Cond.code ⟨"BottledPost", "passTides", "(I)I"⟩ prog_1_method_19_code 4 ((some FieldType.int)) ∈ aGT := wd_c4 29 rfl rfl
theorem wd_871 : Cond.methodLink "BottledPost" 205 ⟨"BottledPost$World", "rules", "()LBottledPost$Text;"⟩ ∈ aGT := wd_c4 30 rfl rfl
theorem wd_872 : Cond.instanceMethod ⟨"BottledPost$World", "rules", "()LBottledPost$Text;"⟩ ∈ aGT := wd_c4 31 rfl rfl
theorem wd_873 : Cond.selects "BottledPost$World" ⟨"BottledPost$World", "rules", "()LBottledPost$Text;"⟩ ⟨"BottledPost$World", "rules", "()LBottledPost$Text;"⟩ ∈ aGT := wd_c4 32 rfl rfl
theorem wd_874 : Cond.code ⟨"BottledPost$World", "rules", "()LBottledPost$Text;"⟩ prog_13_method_5_code 1 ((some (FieldType.object "BottledPost$Text"))) ∈ aGT := wd_c4 33 rfl rfl
theorem wd_875 : Cond.methodLink "BottledPost$World" 65 ⟨"BottledPost$World", "textOf", "(I)LBottledPost$Text;"⟩ ∈ aGT := wd_c4 34 rfl rfl
theorem wd_876 : Cond.instanceMethod ⟨"BottledPost$World", "textOf", "(I)LBottledPost$Text;"⟩ ∈ aGT := wd_c4 35 rfl rfl
theorem wd_877 : Cond.selects "BottledPost$World" ⟨"BottledPost$World", "textOf", "(I)LBottledPost$Text;"⟩ ⟨"BottledPost$World", "textOf", "(I)LBottledPost$Text;"⟩ ∈ aGT := wd_c4 36 rfl rfl
theorem wd_878 : Cond.code ⟨"BottledPost$World", "textOf", "(I)LBottledPost$Text;"⟩ prog_13_method_4_code 2 ((some (FieldType.object "BottledPost$Text"))) ∈ aGT := wd_c4 37 rfl rfl
theorem wd_879 : Cond.methodLink "BottledPost" 209 ⟨"BottledPost$Laws", "passTide", "(LBottledPost$Sea;LBottledPost$Shore;LBottledPost$Text;)I"⟩ ∈ aGT := wd_c4 38 rfl rfl
theorem wd_880 : Cond.instanceMethod ⟨"BottledPost$Laws", "passTide", "(LBottledPost$Sea;LBottledPost$Shore;LBottledPost$Text;)I"⟩ ∈ aGT := wd_c4 39 rfl rfl
theorem wd_881 : Cond.selects "BottledPost$Laws" ⟨"BottledPost$Laws", "passTide", "(LBottledPost$Sea;LBottledPost$Shore;LBottledPost$Text;)I"⟩ ⟨"BottledPost$Laws", "passTide", "(LBottledPost$Sea;LBottledPost$Shore;LBottledPost$Text;)I"⟩ ∈ aGT := wd_c4 40 rfl rfl
theorem wd_882 : Cond.code ⟨"BottledPost$Laws", "passTide", "(LBottledPost$Sea;LBottledPost$Shore;LBottledPost$Text;)I"⟩ prog_4_method_3_code 8 ((some FieldType.int)) ∈ aGT := wd_c4 41 rfl rfl
theorem wd_883 : Cond.methodLink "BottledPost$Laws" 24 ⟨"BottledPost$Sea", "get", "(II)I"⟩ ∈ aGT := wd_c4 42 rfl rfl
theorem wd_884 : Cond.methodLink "BottledPost$Laws" 31 ⟨"BottledPost$Shore", "leadsTo", "(II)I"⟩ ∈ aGT := wd_c4 43 rfl rfl
theorem wd_885 : Cond.instanceMethod ⟨"BottledPost$Shore", "leadsTo", "(II)I"⟩ ∈ aGT := wd_c4 44 rfl rfl
theorem wd_886 : Cond.selects "BottledPost$Shore" ⟨"BottledPost$Shore", "leadsTo", "(II)I"⟩ ⟨"BottledPost$Shore", "leadsTo", "(II)I"⟩ ∈ aGT := wd_c4 45 rfl rfl
theorem wd_887 : Cond.code ⟨"BottledPost$Shore", "leadsTo", "(II)I"⟩ prog_9_method_9_code 4 ((some FieldType.int)) ∈ aGT := wd_c4 46 rfl rfl
theorem wd_888 : Cond.methodLink "BottledPost$Shore" 45 ⟨"java/lang/Math", "floorMod", "(II)I"⟩ ∈ aGT := wd_c4 47 rfl rfl
theorem wd_889 : Cond.static ⟨"java/lang/Math", "floorMod", "(II)I"⟩ ∈ aGT := wd_c4 48 rfl rfl
theorem wd_890 : Cond.code ⟨"java/lang/Math", "floorMod", "(II)I"⟩ prog_17_method_50_code 3 ((some FieldType.int)) ∈ aGT := wd_c4 49 rfl rfl
theorem wd_891 : Cond.methodLink "BottledPost$Laws" 36 ⟨"BottledPost$Sea", "set", "(III)V"⟩ ∈ aGT := wd_c4 50 rfl rfl
theorem wd_892 : Cond.methodLink "BottledPost$Laws" 40 ⟨"BottledPost$Laws", "wearsOf", "(LBottledPost$Text;LBottledPost$Sea;LBottledPost$Shore;I)I"⟩ ∈ aGT := wd_c4 51 rfl rfl
theorem wd_893 : Cond.instanceMethod ⟨"BottledPost$Laws", "wearsOf", "(LBottledPost$Text;LBottledPost$Sea;LBottledPost$Shore;I)I"⟩ ∈ aGT := wd_c4 52 rfl rfl
theorem wd_894 : Cond.selects "BottledPost$Laws" ⟨"BottledPost$Laws", "wearsOf", "(LBottledPost$Text;LBottledPost$Sea;LBottledPost$Shore;I)I"⟩ ⟨"BottledPost$Laws", "wearsOf", "(LBottledPost$Text;LBottledPost$Sea;LBottledPost$Shore;I)I"⟩ ∈ aGT := wd_c4 53 rfl rfl
theorem wd_895 : Cond.code ⟨"BottledPost$Laws", "wearsOf", "(LBottledPost$Text;LBottledPost$Sea;LBottledPost$Shore;I)I"⟩ prog_4_method_5_code 5 ((some FieldType.int)) ∈ aGT := wd_c4 54 rfl rfl
theorem wd_896 : Cond.methodLink "BottledPost$Laws" 72 ⟨"BottledPost$Laws", "workOff", "([ILBottledPost$Sea;LBottledPost$Shore;I)I"⟩ ∈ aGT := wd_c4 55 rfl rfl
theorem wd_898 : Cond.instanceMethod ⟨"BottledPost$Laws", "workOff", "([ILBottledPost$Sea;LBottledPost$Shore;I)I"⟩ ∈ aGT := wd_c4 57 rfl rfl
theorem wd_899 : Cond.code ⟨"BottledPost$Laws", "workOff", "([ILBottledPost$Sea;LBottledPost$Shore;I)I"⟩ prog_4_method_6_code 9 ((some FieldType.int)) ∈ aGT := wd_c4 58 rfl rfl
theorem wd_900 : Cond.methodLink "BottledPost$Laws" 44 ⟨"java/lang/Math", "max", "(II)I"⟩ ∈ aGT := wd_c4 59 rfl rfl
theorem wd_901 : Cond.methodLink "BottledPost$Laws" 82 ⟨"BottledPost$Laws", "pop", "()I"⟩ ∈ aGT := wd_c4 60 rfl rfl
theorem wd_903 : Cond.instanceMethod ⟨"BottledPost$Laws", "pop", "()I"⟩ ∈ aGT := wd_c4 62 rfl rfl
theorem wd_904 : Cond.code ⟨"BottledPost$Laws", "pop", "()I"⟩ prog_4_method_8_code 1 ((some FieldType.int)) ∈ aGT := wd_c4 63 rfl rfl
theorem wd_905 : Cond.methodLink "BottledPost$Laws" 87 ⟨"BottledPost$Laws", "push", "(I)V"⟩ ∈ aGT := wd_c4 64 rfl rfl
theorem wd_907 : Cond.instanceMethod ⟨"BottledPost$Laws", "push", "(I)V"⟩ ∈ aGT := wd_c4 66 rfl rfl
theorem wd_908 : Cond.code ⟨"BottledPost$Laws", "push", "(I)V"⟩ prog_4_method_7_code 2 (none) ∈ aGT := wd_c4 67 rfl rfl
theorem wd_909 : Cond.methodLink "BottledPost$Laws" 91 ⟨"BottledPost$Laws", "named", "(ILBottledPost$Sea;LBottledPost$Shore;I)I"⟩ ∈ aGT := wd_c4 68 rfl rfl
theorem wd_910 : Cond.static ⟨"BottledPost$Laws", "named", "(ILBottledPost$Sea;LBottledPost$Shore;I)I"⟩ ∈ aGT := wd_c4 69 rfl rfl
theorem wd_911 : Cond.code ⟨"BottledPost$Laws", "named", "(ILBottledPost$Sea;LBottledPost$Shore;I)I"⟩ prog_4_method_9_code 4 ((some FieldType.int)) ∈ aGT := wd_c4 70 rfl rfl
theorem wd_912 : Cond.methodLink "BottledPost$Laws" 69 ⟨"BottledPost$Shore", "luckOf", "(I)I"⟩ ∈ aGT := wd_c4 71 rfl rfl
theorem wd_913 : Cond.instanceMethod ⟨"BottledPost$Shore", "luckOf", "(I)I"⟩ ∈ aGT := wd_c4 72 rfl rfl
theorem wd_914 : Cond.selects "BottledPost$Shore" ⟨"BottledPost$Shore", "luckOf", "(I)I"⟩ ⟨"BottledPost$Shore", "luckOf", "(I)I"⟩ ∈ aGT := wd_c4 73 rfl rfl
theorem wd_915 : Cond.code ⟨"BottledPost$Shore", "luckOf", "(I)I"⟩ prog_9_method_7_code 2 ((some FieldType.int)) ∈ aGT := wd_c4 74 rfl rfl
theorem wd_916 : Cond.methodLink "BottledPost$Laws" 99 ⟨"BottledPost$Sea", "countAfloatAt", "(I)I"⟩ ∈ aGT := wd_c4 75 rfl rfl
theorem wd_917 : Cond.instanceMethod ⟨"BottledPost$Sea", "countAfloatAt", "(I)I"⟩ ∈ aGT := wd_c4 76 rfl rfl
theorem wd_918 : Cond.selects "BottledPost$Sea" ⟨"BottledPost$Sea", "countAfloatAt", "(I)I"⟩ ⟨"BottledPost$Sea", "countAfloatAt", "(I)I"⟩ ∈ aGT := wd_c4 77 rfl rfl
theorem wd_919 : Cond.code ⟨"BottledPost$Sea", "countAfloatAt", "(I)I"⟩ prog_8_method_11_code 5 ((some FieldType.int)) ∈ aGT := wd_c4 78 rfl rfl
theorem wd_920 : Cond.methodLink "BottledPost$Sea" 56 ⟨"java/lang/Math", "min", "(II)I"⟩ ∈ aGT := wd_c4 79 rfl rfl
theorem wd_921 : Cond.methodLink "BottledPost$Laws" 53 ⟨"BottledPost$Shore", "placeOf", "(I)I"⟩ ∈ aGT := wd_c4 80 rfl rfl
theorem wd_922 : Cond.methodLink "BottledPost$Laws" 95 ⟨"BottledPost$Laws", "joined", "(III)I"⟩ ∈ aGT := wd_c4 81 rfl rfl
theorem wd_923 : Cond.static ⟨"BottledPost$Laws", "joined", "(III)I"⟩ ∈ aGT := wd_c4 82 rfl rfl
theorem wd_924 : Cond.code ⟨"BottledPost$Laws", "joined", "(III)I"⟩ prog_4_method_10_code 3 ((some FieldType.int)) ∈ aGT := wd_c4 83 rfl rfl
theorem wd_925 : Cond.methodLink "BottledPost$Laws" 102 ⟨"BottledPost$Laws", "limited", "(J)I"⟩ ∈ aGT := wd_c4 84 rfl rfl
theorem wd_926 : Cond.static ⟨"BottledPost$Laws", "limited", "(J)I"⟩ ∈ aGT := wd_c4 85 rfl rfl
theorem wd_927 : Cond.code ⟨"BottledPost$Laws", "limited", "(J)I"⟩ prog_4_method_11_code 2 ((some FieldType.int)) ∈ aGT := wd_c4 86 rfl rfl
theorem wd_928 : Cond.constantLong "BottledPost$Laws" 113 ((-1000000) : Int64) ∈ aGT := wd_c4 87 rfl rfl
theorem wd_929 : Cond.constantLong "BottledPost$Laws" 115 (1000000 : Int64) ∈ aGT := wd_c4 88 rfl rfl
theorem wd_930 : Cond.methodLink "BottledPost$Laws" 117 ⟨"java/lang/Math", "min", "(JJ)J"⟩ ∈ aGT := wd_c4 89 rfl rfl
theorem wd_931 : Cond.static ⟨"java/lang/Math", "min", "(JJ)J"⟩ ∈ aGT := wd_c4 90 rfl rfl
theorem wd_932 : Cond.code ⟨"java/lang/Math", "min", "(JJ)J"⟩ prog_17_method_70_code 4 ((some FieldType.long)) ∈ aGT := wd_c4 91 rfl rfl
theorem wd_933 : Cond.methodLink "BottledPost$Laws" 106 ⟨"java/lang/Math", "max", "(JJ)J"⟩ ∈ aGT := wd_c4 92 rfl rfl
theorem wd_934 : Cond.static ⟨"java/lang/Math", "max", "(JJ)J"⟩ ∈ aGT := wd_c4 93 rfl rfl
theorem wd_935 : Cond.code ⟨"java/lang/Math", "max", "(JJ)J"⟩ prog_17_method_66_code 4 ((some FieldType.long)) ∈ aGT := wd_c4 94 rfl rfl
theorem wd_936 : Cond.methodLink "BottledPost$Laws" 109 ⟨"BottledPost$Laws", "compares", "(III)Z"⟩ ∈ aGT := wd_c4 95 rfl rfl
theorem wd_937 : Cond.static ⟨"BottledPost$Laws", "compares", "(III)Z"⟩ ∈ aGT := wd_c4 96 rfl rfl
theorem wd_938 : Cond.code ⟨"BottledPost$Laws", "compares", "(III)Z"⟩ prog_4_method_12_code 3 ((some FieldType.boolean)) ∈ aGT := wd_c4 97 rfl rfl
theorem wd_939 : Cond.methodLink "BottledPost$Laws" 76 ⟨"java/lang/Math", "min", "(II)I"⟩ ∈ aGT := wd_c4 98 rfl rfl
theorem wd_940 : Cond.methodLink "BottledPost$Laws" 49 ⟨"BottledPost$Sea", "writeDown", "(II)V"⟩ ∈ aGT := wd_c4 99 rfl rfl
theorem wd_941 : Cond.methodLink "BottledPost$Laws" 57 ⟨"BottledPost$Sea", "draw", "()I"⟩ ∈ aGT := wd_c4 100 rfl rfl
theorem wd_942 : Cond.instanceMethod ⟨"BottledPost$Sea", "draw", "()I"⟩ ∈ aGT := wd_c4 101 rfl rfl
theorem wd_943 : Cond.selects "BottledPost$Sea" ⟨"BottledPost$Sea", "draw", "()I"⟩ ⟨"BottledPost$Sea", "draw", "()I"⟩ ∈ aGT := wd_c4 102 rfl rfl
theorem wd_944 : Cond.code ⟨"BottledPost$Sea", "draw", "()I"⟩ prog_8_method_8_code 2 ((some FieldType.int)) ∈ aGT := wd_c4 103 rfl rfl
theorem wd_945 : Cond.methodLink "BottledPost$Laws" 61 ⟨"BottledPost$Laws", "comesOf", "(LBottledPost$Text;LBottledPost$Sea;LBottledPost$Shore;I)I"⟩ ∈ aGT := wd_c4 104 rfl rfl
theorem wd_946 : Cond.instanceMethod ⟨"BottledPost$Laws", "comesOf", "(LBottledPost$Text;LBottledPost$Sea;LBottledPost$Shore;I)I"⟩ ∈ aGT := wd_c4 105 rfl rfl
theorem wd_947 : Cond.selects "BottledPost$Laws" ⟨"BottledPost$Laws", "comesOf", "(LBottledPost$Text;LBottledPost$Sea;LBottledPost$Shore;I)I"⟩ ⟨"BottledPost$Laws", "comesOf", "(LBottledPost$Text;LBottledPost$Sea;LBottledPost$Shore;I)I"⟩ ∈ aGT := wd_c4 106 rfl rfl
theorem wd_948 : Cond.code ⟨"BottledPost$Laws", "comesOf", "(LBottledPost$Text;LBottledPost$Sea;LBottledPost$Shore;I)I"⟩ prog_4_method_4_code 5 ((some FieldType.int)) ∈ aGT := wd_c4 107 rfl rfl
theorem wd_949 : Cond.methodLink "BottledPostLaw" 65 ⟨"BottledPost", "played", "(I)I"⟩ ∈ aGT := wd_c4 108 rfl rfl
theorem wd_950 : Cond.instanceMethod ⟨"BottledPost", "played", "(I)I"⟩ ∈ aGT := wd_c4 109 rfl rfl
theorem wd_951 : Cond.selects "BottledPost" ⟨"BottledPost", "played", "(I)I"⟩ ⟨"BottledPost", "played", "(I)I"⟩ ∈ aGT := wd_c4 110 rfl rfl
theorem wd_952 : Cond.code ⟨"BottledPost", "played", "(I)I"⟩ prog_1_method_13_code 5 ((some FieldType.int)) ∈ aGT := wd_c4 111 rfl rfl
theorem wd_953 : Cond.methodLink "BottledPost" 138 ⟨"BottledPost$World", "textOf", "(I)LBottledPost$Text;"⟩ ∈ aGT := wd_c4 112 rfl rfl
theorem wd_954 : Cond.methodLink "BottledPost" 142 ⟨"BottledPost$Text", "countClauses", "()I"⟩ ∈ aGT := wd_c4 113 rfl rfl
theorem wd_955 : Cond.instanceMethod ⟨"BottledPost$Text", "countClauses", "()I"⟩ ∈ aGT := wd_c4 114 rfl rfl
theorem wd_956 : Cond.selects "BottledPost$Text" ⟨"BottledPost$Text", "countClauses", "()I"⟩ ⟨"BottledPost$Text", "countClauses", "()I"⟩ ∈ aGT := wd_c4 115 rfl rfl
theorem wd_957 : Cond.code ⟨"BottledPost$Text", "countClauses", "()I"⟩ prog_12_method_2_code 1 ((some FieldType.int)) ∈ aGT := wd_c4 116 rfl rfl
theorem wd_958 : Cond.methodLink "BottledPost" 148 ⟨"BottledPost", "playClause", "(LBottledPost$Text;I)Z"⟩ ∈ aGT := wd_c4 117 rfl rfl
theorem wd_960 : Cond.instanceMethod ⟨"BottledPost", "playClause", "(LBottledPost$Text;I)Z"⟩ ∈ aGT := wd_c4 119 rfl rfl
theorem wd_961 : Cond.code ⟨"BottledPost", "playClause", "(LBottledPost$Text;I)Z"⟩ prog_1_method_20_code 7 ((some FieldType.boolean)) ∈ aGT := wd_c4 120 rfl rfl
theorem wd_962 : Cond.methodLink "BottledPost" 213 ⟨"BottledPost$Text", "part", "(II)I"⟩ ∈ aGT := wd_c4 121 rfl rfl
theorem wd_963 : Cond.instanceMethod ⟨"BottledPost$Text", "part", "(II)I"⟩ ∈ aGT := wd_c4 122 rfl rfl
theorem wd_964 : Cond.selects "BottledPost$Text" ⟨"BottledPost$Text", "part", "(II)I"⟩ ⟨"BottledPost$Text", "part", "(II)I"⟩ ∈ aGT := wd_c4 123 rfl rfl
theorem wd_965 : Cond.code ⟨"BottledPost$Text", "part", "(II)I"⟩ prog_12_method_3_code 3 ((some FieldType.int)) ∈ aGT := wd_c4 124 rfl rfl
theorem wd_967 : Cond.static ⟨"BottledPost", "cell", "([II)I"⟩ ∈ aGT := wd_c4 126 rfl rfl
theorem wd_968 : Cond.code ⟨"BottledPost", "cell", "([II)I"⟩ prog_1_method_58_code 2 ((some FieldType.int)) ∈ aGT := wd_c4 127 rfl rfl
theorem wd_969 : Cond.methodLink "BottledPostLaw" 69 ⟨"BottledPost", "years", "(II)I"⟩ ∈ aGT := wd_c4 128 rfl rfl
theorem wd_970 : Cond.instanceMethod ⟨"BottledPost", "years", "(II)I"⟩ ∈ aGT := wd_c4 129 rfl rfl
theorem wd_971 : Cond.selects "BottledPost" ⟨"BottledPost", "years", "(II)I"⟩ ⟨"BottledPost", "years", "(II)I"⟩ ∈ aGT := wd_c4 130 rfl rfl
theorem wd_972 : Cond.code ⟨"BottledPost", "years", "(II)I"⟩ prog_1_method_14_code 4 ((some FieldType.int)) ∈ aGT := wd_c4 131 rfl rfl
theorem wd_973 : Cond.methodLink "BottledPost" 165 ⟨"BottledPost$Sea", "draw", "()I"⟩ ∈ aGT := wd_c4 132 rfl rfl
theorem wd_974 : Cond.methodLink "BottledPost" 168 ⟨"BottledPost", "liveYear", "(I)V"⟩ ∈ aGT := wd_c4 133 rfl rfl
theorem wd_976 : Cond.instanceMethod ⟨"BottledPost", "liveYear", "(I)V"⟩ ∈ aGT := wd_c4 135 rfl rfl
theorem wd_977 : Cond.code ⟨"BottledPost", "liveYear", "(I)V"⟩ prog_1_method_21_code 5 (none) ∈ aGT := wd_c4 136 rfl rfl
theorem wd_978 : Cond.methodLink "BottledPostLaw" 73 ⟨"BottledPost", "undo", "()I"⟩ ∈ aGT := wd_c4 137 rfl rfl
theorem wd_979 : Cond.instanceMethod ⟨"BottledPost", "undo", "()I"⟩ ∈ aGT := wd_c4 138 rfl rfl
theorem wd_980 : Cond.selects "BottledPost" ⟨"BottledPost", "undo", "()I"⟩ ⟨"BottledPost", "undo", "()I"⟩ ∈ aGT := wd_c4 139 rfl rfl
theorem wd_981 : Cond.code ⟨"BottledPost", "undo", "()I"⟩ prog_1_method_15_code 1 ((some FieldType.int)) ∈ aGT := wd_c4 140 rfl rfl
theorem wd_982 : Cond.methodLink "BottledPost" 171 ⟨"BottledPost$Steps", "takeBack", "(LBottledPost$Sea;)I"⟩ ∈ aGT := wd_c4 141 rfl rfl
theorem wd_983 : Cond.instanceMethod ⟨"BottledPost$Steps", "takeBack", "(LBottledPost$Sea;)I"⟩ ∈ aGT := wd_c4 142 rfl rfl
theorem wd_984 : Cond.selects "BottledPost$Steps" ⟨"BottledPost$Steps", "takeBack", "(LBottledPost$Sea;)I"⟩ ⟨"BottledPost$Steps", "takeBack", "(LBottledPost$Sea;)I"⟩ ∈ aGT := wd_c4 143 rfl rfl
theorem wd_985 : Cond.code ⟨"BottledPost$Steps", "takeBack", "(LBottledPost$Sea;)I"⟩ prog_10_method_6_code 3 ((some FieldType.int)) ∈ aGT := wd_c4 144 rfl rfl
theorem wd_986 : Cond.methodLink "BottledPostLaw" 77 ⟨"BottledPost", "of", "(II)I"⟩ ∈ aGT := wd_c4 145 rfl rfl
theorem wd_987 : Cond.instanceMethod ⟨"BottledPost", "of", "(II)I"⟩ ∈ aGT := wd_c4 146 rfl rfl
theorem wd_988 : Cond.selects "BottledPost" ⟨"BottledPost", "of", "(II)I"⟩ ⟨"BottledPost", "of", "(II)I"⟩ ∈ aGT := wd_c4 147 rfl rfl
theorem wd_989 : Cond.code ⟨"BottledPost", "of", "(II)I"⟩ prog_1_method_22_code 3 ((some FieldType.int)) ∈ aGT := wd_c4 148 rfl rfl
theorem wd_990 : Cond.methodLink "BottledPost" 219 ⟨"BottledPost$Shore", "luckOf", "(I)I"⟩ ∈ aGT := wd_c4 149 rfl rfl
theorem wd_991 : Cond.methodLink "BottledPost" 222 ⟨"BottledPost$Sea", "countComeTo", "(I)I"⟩ ∈ aGT := wd_c4 150 rfl rfl
theorem wd_992 : Cond.instanceMethod ⟨"BottledPost$Sea", "countComeTo", "(I)I"⟩ ∈ aGT := wd_c4 151 rfl rfl
theorem wd_993 : Cond.selects "BottledPost$Sea" ⟨"BottledPost$Sea", "countComeTo", "(I)I"⟩ ⟨"BottledPost$Sea", "countComeTo", "(I)I"⟩ ∈ aGT := wd_c4 152 rfl rfl
theorem wd_994 : Cond.code ⟨"BottledPost$Sea", "countComeTo", "(I)I"⟩ prog_8_method_10_code 4 ((some FieldType.int)) ∈ aGT := wd_c4 153 rfl rfl
theorem wd_995 : Cond.methodLink "BottledPost" 225 ⟨"BottledPost$Sea", "bottlesThatAre", "(I)I"⟩ ∈ aGT := wd_c4 154 rfl rfl
theorem wd_996 : Cond.instanceMethod ⟨"BottledPost$Sea", "bottlesThatAre", "(I)I"⟩ ∈ aGT := wd_c4 155 rfl rfl
theorem wd_997 : Cond.selects "BottledPost$Sea" ⟨"BottledPost$Sea", "bottlesThatAre", "(I)I"⟩ ⟨"BottledPost$Sea", "bottlesThatAre", "(I)I"⟩ ∈ aGT := wd_c4 156 rfl rfl
theorem wd_998 : Cond.code ⟨"BottledPost$Sea", "bottlesThatAre", "(I)I"⟩ prog_8_method_12_code 4 ((some FieldType.int)) ∈ aGT := wd_c4 157 rfl rfl
theorem wd_999 : Cond.methodLink "BottledPostLaw" 81 ⟨"BottledPost", "ofBottle", "(II)I"⟩ ∈ aGT := wd_c4 158 rfl rfl
theorem wd_1000 : Cond.instanceMethod ⟨"BottledPost", "ofBottle", "(II)I"⟩ ∈ aGT := wd_c4 159 rfl rfl
theorem wd_1001 : Cond.selects "BottledPost" ⟨"BottledPost", "ofBottle", "(II)I"⟩ ⟨"BottledPost", "ofBottle", "(II)I"⟩ ∈ aGT := wd_c4 160 rfl rfl
theorem wd_1002 : Cond.code ⟨"BottledPost", "ofBottle", "(II)I"⟩ prog_1_method_23_code 3 ((some FieldType.int)) ∈ aGT := wd_c4 161 rfl rfl
theorem wd_1003 : Cond.methodLink "BottledPost" 228 ⟨"BottledPost$Laws", "comesOf", "(LBottledPost$Text;LBottledPost$Sea;LBottledPost$Shore;I)I"⟩ ∈ aGT := wd_c4 162 rfl rfl
theorem wd_1004 : Cond.methodLink "BottledPost" 232 ⟨"BottledPost$Laws", "wearsOf", "(LBottledPost$Text;LBottledPost$Sea;LBottledPost$Shore;I)I"⟩ ∈ aGT := wd_c4 163 rfl rfl
theorem wd_1005 : Cond.methodLink "BottledPostLaw" 85 ⟨"BottledPost", "told", "(II)I"⟩ ∈ aGT := wd_c4 164 rfl rfl
theorem wd_1006 : Cond.instanceMethod ⟨"BottledPost", "told", "(II)I"⟩ ∈ aGT := wd_c4 165 rfl rfl
theorem wd_1007 : Cond.selects "BottledPost" ⟨"BottledPost", "told", "(II)I"⟩ ⟨"BottledPost", "told", "(II)I"⟩ ∈ aGT := wd_c4 166 rfl rfl
theorem wd_1008 : Cond.code ⟨"BottledPost", "told", "(II)I"⟩ prog_1_method_24_code 3 ((some FieldType.int)) ∈ aGT := wd_c4 167 rfl rfl
theorem wd_1009 : Cond.methodLink "BottledPost" 235 ⟨"BottledPost", "isPlace", "(I)Z"⟩ ∈ aGT := wd_c4 168 rfl rfl
theorem wd_1010 : Cond.methodLink "BottledPost" 238 ⟨"BottledPost$Shore", "leadsTo", "(II)I"⟩ ∈ aGT := wd_c4 169 rfl rfl
theorem wd_1011 : Cond.methodLink "BottledPostLaw" 89 ⟨"BottledPost", "is", "(I)I"⟩ ∈ aGT := wd_c4 170 rfl rfl
theorem wd_1012 : Cond.instanceMethod ⟨"BottledPost", "is", "(I)I"⟩ ∈ aGT := wd_c4 171 rfl rfl
theorem wd_1013 : Cond.selects "BottledPost" ⟨"BottledPost", "is", "(I)I"⟩ ⟨"BottledPost", "is", "(I)I"⟩ ∈ aGT := wd_c4 172 rfl rfl
theorem wd_1014 : Cond.code ⟨"BottledPost", "is", "(I)I"⟩ prog_1_method_25_code 2 ((some FieldType.int)) ∈ aGT := wd_c4 173 rfl rfl
theorem wd_1015 : Cond.methodLink "BottledPostLaw" 93 ⟨"BottledPost", "book", "(II)I"⟩ ∈ aGT := wd_c4 174 rfl rfl
theorem wd_1016 : Cond.instanceMethod ⟨"BottledPost", "book", "(II)I"⟩ ∈ aGT := wd_c4 175 rfl rfl
theorem wd_1017 : Cond.selects "BottledPost" ⟨"BottledPost", "book", "(II)I"⟩ ⟨"BottledPost", "book", "(II)I"⟩ ∈ aGT := wd_c4 176 rfl rfl
theorem wd_1018 : Cond.code ⟨"BottledPost", "book", "(II)I"⟩ prog_1_method_26_code 3 ((some FieldType.int)) ∈ aGT := wd_c4 177 rfl rfl
theorem wd_1019 : Cond.methodLink "BottledPost" 250 ⟨"BottledPost$Book", "part", "(II)I"⟩ ∈ aGT := wd_c4 178 rfl rfl
theorem wd_1020 : Cond.instanceMethod ⟨"BottledPost$Book", "part", "(II)I"⟩ ∈ aGT := wd_c4 179 rfl rfl
theorem wd_1021 : Cond.selects "BottledPost$Book" ⟨"BottledPost$Book", "part", "(II)I"⟩ ⟨"BottledPost$Book", "part", "(II)I"⟩ ∈ aGT := wd_c4 180 rfl rfl
theorem wd_1022 : Cond.code ⟨"BottledPost$Book", "part", "(II)I"⟩ prog_2_method_4_code 3 ((some FieldType.int)) ∈ aGT := wd_c4 181 rfl rfl
theorem wd_1024 : Cond.methodLink "BottledPostLaw" 179 ⟨"BottledPost", "luckiest", "()I"⟩ ∈ aGT := wd_c4 183 rfl rfl
theorem wd_1025 : Cond.instanceMethod ⟨"BottledPost", "luckiest", "()I"⟩ ∈ aGT := wd_c4 184 rfl rfl
theorem wd_1026 : Cond.selects "BottledPost" ⟨"BottledPost", "luckiest", "()I"⟩ ⟨"BottledPost", "luckiest", "()I"⟩ ∈ aGT := wd_c4 185 rfl rfl
theorem wd_1027 : Cond.code ⟨"BottledPost", "luckiest", "()I"⟩ prog_1_method_27_code 5 ((some FieldType.int)) ∈ aGT := wd_c4 186 rfl rfl
theorem wd_1028 : Cond.methodLink "BottledPostLaw" 183 ⟨"BottledPost", "eldest", "()I"⟩ ∈ aGT := wd_c4 187 rfl rfl
theorem wd_1029 : Cond.instanceMethod ⟨"BottledPost", "eldest", "()I"⟩ ∈ aGT := wd_c4 188 rfl rfl
theorem wd_1030 : Cond.selects "BottledPost" ⟨"BottledPost", "eldest", "()I"⟩ ⟨"BottledPost", "eldest", "()I"⟩ ∈ aGT := wd_c4 189 rfl rfl
theorem wd_1031 : Cond.code ⟨"BottledPost", "eldest", "()I"⟩ prog_1_method_28_code 3 ((some FieldType.int)) ∈ aGT := wd_c4 190 rfl rfl
theorem wd_1032 : Cond.methodLink "BottledPostLaw" 187 ⟨"BottledPost", "crowd", "()I"⟩ ∈ aGT := wd_c4 191 rfl rfl
theorem wd_1033 : Cond.instanceMethod ⟨"BottledPost", "crowd", "()I"⟩ ∈ aGT := wd_c4 192 rfl rfl
theorem wd_1034 : Cond.selects "BottledPost" ⟨"BottledPost", "crowd", "()I"⟩ ⟨"BottledPost", "crowd", "()I"⟩ ∈ aGT := wd_c4 193 rfl rfl
theorem wd_1035 : Cond.code ⟨"BottledPost", "crowd", "()I"⟩ prog_1_method_29_code 5 ((some FieldType.int)) ∈ aGT := wd_c4 194 rfl rfl
theorem wd_1036 : Cond.methodLink "BottledPost" 251 ⟨"BottledPost$Sea", "countAfloatAt", "(I)I"⟩ ∈ aGT := wd_c4 195 rfl rfl
theorem wd_1037 : Cond.methodLink "BottledPostLaw" 191 ⟨"BottledPost", "empty", "()I"⟩ ∈ aGT := wd_c4 196 rfl rfl
theorem wd_1038 : Cond.instanceMethod ⟨"BottledPost", "empty", "()I"⟩ ∈ aGT := wd_c4 197 rfl rfl
theorem wd_1039 : Cond.selects "BottledPost" ⟨"BottledPost", "empty", "()I"⟩ ⟨"BottledPost", "empty", "()I"⟩ ∈ aGT := wd_c4 198 rfl rfl
theorem wd_1040 : Cond.code ⟨"BottledPost", "empty", "()I"⟩ prog_1_method_30_code 3 ((some FieldType.int)) ∈ aGT := wd_c4 199 rfl rfl
theorem wd_1041 : Cond.methodLink "BottledPost" 254 ⟨"BottledPost$Shore", "isInhabited", "(I)Z"⟩ ∈ aGT := wd_c4 200 rfl rfl
theorem wd_1042 : Cond.instanceMethod ⟨"BottledPost$Shore", "isInhabited", "(I)Z"⟩ ∈ aGT := wd_c4 201 rfl rfl
theorem wd_1043 : Cond.selects "BottledPost$Shore" ⟨"BottledPost$Shore", "isInhabited", "(I)Z"⟩ ⟨"BottledPost$Shore", "isInhabited", "(I)Z"⟩ ∈ aGT := wd_c4 202 rfl rfl
theorem wd_1044 : Cond.code ⟨"BottledPost$Shore", "isInhabited", "(I)Z"⟩ prog_9_method_8_code 3 ((some FieldType.boolean)) ∈ aGT := wd_c4 203 rfl rfl
theorem wd_1045 : Cond.methodLink "BottledPost$Shore" 41 ⟨"BottledPost$Shore", "placeOf", "(I)I"⟩ ∈ aGT := wd_c4 204 rfl rfl
theorem wd_1046 : Cond.methodLink "BottledPostLaw" 195 ⟨"BottledPost", "ledger", "(I)I"⟩ ∈ aGT := wd_c4 205 rfl rfl
theorem wd_1047 : Cond.instanceMethod ⟨"BottledPost", "ledger", "(I)I"⟩ ∈ aGT := wd_c4 206 rfl rfl
theorem wd_1048 : Cond.selects "BottledPost" ⟨"BottledPost", "ledger", "(I)I"⟩ ⟨"BottledPost", "ledger", "(I)I"⟩ ∈ aGT := wd_c4 207 rfl rfl
theorem wd_1049 : Cond.code ⟨"BottledPost", "ledger", "(I)I"⟩ prog_1_method_31_code 2 ((some FieldType.int)) ∈ aGT := wd_c4 208 rfl rfl
theorem wd_1050 : Cond.methodLink "BottledPost" 257 ⟨"BottledPost$Book", "countOf", "(I)I"⟩ ∈ aGT := wd_c4 209 rfl rfl
theorem wd_1051 : Cond.instanceMethod ⟨"BottledPost$Book", "countOf", "(I)I"⟩ ∈ aGT := wd_c4 210 rfl rfl
theorem wd_1052 : Cond.selects "BottledPost$Book" ⟨"BottledPost$Book", "countOf", "(I)I"⟩ ⟨"BottledPost$Book", "countOf", "(I)I"⟩ ∈ aGT := wd_c4 211 rfl rfl
theorem wd_1053 : Cond.code ⟨"BottledPost$Book", "countOf", "(I)I"⟩ prog_2_method_5_code 4 ((some FieldType.int)) ∈ aGT := wd_c4 212 rfl rfl
theorem wd_1054 : Cond.methodLink "BottledPost$Book" 33 ⟨"BottledPost$Book", "part", "(II)I"⟩ ∈ aGT := wd_c4 213 rfl rfl
theorem wd_1055 : Cond.methodLink "BottledPostLaw" 207 ⟨"BottledPost", "about", "(I)I"⟩ ∈ aGT := wd_c4 214 rfl rfl
theorem wd_1056 : Cond.instanceMethod ⟨"BottledPost", "about", "(I)I"⟩ ∈ aGT := wd_c4 215 rfl rfl
theorem wd_1057 : Cond.selects "BottledPost" ⟨"BottledPost", "about", "(I)I"⟩ ⟨"BottledPost", "about", "(I)I"⟩ ∈ aGT := wd_c4 216 rfl rfl
theorem wd_1058 : Cond.code ⟨"BottledPost", "about", "(I)I"⟩ prog_1_method_32_code 2 ((some FieldType.int)) ∈ aGT := wd_c4 217 rfl rfl
theorem wd_1059 : Cond.methodLink "BottledPostLaw" 97 ⟨"BottledPost", "foretold", "(III)I"⟩ ∈ aGT := wd_c4 218 rfl rfl
theorem wd_1060 : Cond.instanceMethod ⟨"BottledPost", "foretold", "(III)I"⟩ ∈ aGT := wd_c4 219 rfl rfl
theorem wd_1061 : Cond.selects "BottledPost" ⟨"BottledPost", "foretold", "(III)I"⟩ ⟨"BottledPost", "foretold", "(III)I"⟩ ∈ aGT := wd_c4 220 rfl rfl
theorem wd_1062 : Cond.code ⟨"BottledPost", "foretold", "(III)I"⟩ prog_1_method_33_code 5 ((some FieldType.int)) ∈ aGT := wd_c4 221 rfl rfl
theorem wd_1063 : Cond.methodLink "BottledPost" 278 ⟨"BottledPost$Sea", "copyFrom", "(LBottledPost$Sea;)V"⟩ ∈ aGT := wd_c4 222 rfl rfl
theorem wd_1064 : Cond.methodLink "BottledPostLaw" 101 ⟨"BottledPost", "ends", "(I)I"⟩ ∈ aGT := wd_c4 223 rfl rfl
theorem wd_1065 : Cond.instanceMethod ⟨"BottledPost", "ends", "(I)I"⟩ ∈ aGT := wd_c4 224 rfl rfl
theorem wd_1066 : Cond.selects "BottledPost" ⟨"BottledPost", "ends", "(I)I"⟩ ⟨"BottledPost", "ends", "(I)I"⟩ ∈ aGT := wd_c4 225 rfl rfl
theorem wd_1067 : Cond.code ⟨"BottledPost", "ends", "(I)I"⟩ prog_1_method_34_code 3 ((some FieldType.int)) ∈ aGT := wd_c4 226 rfl rfl
theorem wd_1068 : Cond.methodLink "BottledPostLaw" 105 ⟨"BottledPost", "drift", "(II)I"⟩ ∈ aGT := wd_c4 227 rfl rfl
theorem wd_1069 : Cond.instanceMethod ⟨"BottledPost", "drift", "(II)I"⟩ ∈ aGT := wd_c4 228 rfl rfl
theorem wd_1070 : Cond.selects "BottledPost" ⟨"BottledPost", "drift", "(II)I"⟩ ⟨"BottledPost", "drift", "(II)I"⟩ ∈ aGT := wd_c4 229 rfl rfl
theorem wd_1071 : Cond.code ⟨"BottledPost", "drift", "(II)I"⟩ prog_1_method_35_code 3 ((some FieldType.int)) ∈ aGT := wd_c4 230 rfl rfl
theorem wd_1072 : Cond.methodLink "BottledPost" 281 ⟨"BottledPost$Shore", "driftsTo", "(III)I"⟩ ∈ aGT := wd_c4 231 rfl rfl
theorem wd_1073 : Cond.instanceMethod ⟨"BottledPost$Shore", "driftsTo", "(III)I"⟩ ∈ aGT := wd_c4 232 rfl rfl
theorem wd_1074 : Cond.selects "BottledPost$Shore" ⟨"BottledPost$Shore", "driftsTo", "(III)I"⟩ ⟨"BottledPost$Shore", "driftsTo", "(III)I"⟩ ∈ aGT := wd_c4 233 rfl rfl
theorem wd_1075 : Cond.code ⟨"BottledPost$Shore", "driftsTo", "(III)I"⟩ prog_9_method_10_code 6 ((some FieldType.int)) ∈ aGT := wd_c4 234 rfl rfl
theorem wd_1076 : Cond.methodLink "BottledPost$Shore" 51 ⟨"BottledPost$Shore", "leadsTo", "(II)I"⟩ ∈ aGT := wd_c4 235 rfl rfl
theorem wd_1077 : Cond.methodLink "BottledPostLaw" 109 ⟨"BottledPost", "soonest", "(III)I"⟩ ∈ aGT := wd_c4 236 rfl rfl
theorem wd_1078 : Cond.instanceMethod ⟨"BottledPost", "soonest", "(III)I"⟩ ∈ aGT := wd_c4 237 rfl rfl
theorem wd_1079 : Cond.selects "BottledPost" ⟨"BottledPost", "soonest", "(III)I"⟩ ⟨"BottledPost", "soonest", "(III)I"⟩ ∈ aGT := wd_c4 238 rfl rfl
theorem wd_1080 : Cond.code ⟨"BottledPost", "soonest", "(III)I"⟩ prog_1_method_36_code 5 ((some FieldType.int)) ∈ aGT := wd_c4 239 rfl rfl
theorem wd_1081 : Cond.methodLink "BottledPost" 285 ⟨"BottledPost$Routes", "meet", "(LBottledPost$Shore;IIII)I"⟩ ∈ aGT := wd_c5 0 rfl rfl
theorem wd_1082 : Cond.instanceMethod ⟨"BottledPost$Routes", "meet", "(LBottledPost$Shore;IIII)I"⟩ ∈ aGT := wd_c5 1 rfl rfl
theorem wd_1083 : Cond.selects "BottledPost$Routes" ⟨"BottledPost$Routes", "meet", "(LBottledPost$Shore;IIII)I"⟩ ⟨"BottledPost$Routes", "meet", "(LBottledPost$Shore;IIII)I"⟩ ∈ aGT := wd_c5 2 rfl rfl
theorem wd_1084 : Cond.code ⟨"BottledPost$Routes", "meet", "(LBottledPost$Shore;IIII)I"⟩ prog_6_method_2_code 11 ((some FieldType.int)) ∈ aGT := wd_c5 3 rfl rfl
theorem wd_1085 : Cond.methodLink "BottledPost$Routes" 34 ⟨"BottledPost$Shore", "placeOf", "(I)I"⟩ ∈ aGT := wd_c5 4 rfl rfl
theorem wd_1086 : Cond.methodLink "BottledPost$Routes" 40 ⟨"java/lang/Math", "min", "(II)I"⟩ ∈ aGT := wd_c5 5 rfl rfl
theorem wd_1087 : Cond.methodLink "BottledPost$Routes" 46 ⟨"BottledPost$Shore", "leadsTo", "(II)I"⟩ ∈ aGT := wd_c5 6 rfl rfl
theorem wd_1088 : Cond.methodLink "BottledPostLaw" 113 ⟨"BottledPost", "relay", "(III)I"⟩ ∈ aGT := wd_c5 7 rfl rfl
theorem wd_1089 : Cond.instanceMethod ⟨"BottledPost", "relay", "(III)I"⟩ ∈ aGT := wd_c5 8 rfl rfl
theorem wd_1090 : Cond.selects "BottledPost" ⟨"BottledPost", "relay", "(III)I"⟩ ⟨"BottledPost", "relay", "(III)I"⟩ ∈ aGT := wd_c5 9 rfl rfl
theorem wd_1091 : Cond.code ⟨"BottledPost", "relay", "(III)I"⟩ prog_1_method_37_code 5 ((some FieldType.int)) ∈ aGT := wd_c5 10 rfl rfl
theorem wd_1092 : Cond.methodLink "BottledPost" 292 ⟨"BottledPost$Routes", "relayTime", "(LBottledPost$Shore;III)I"⟩ ∈ aGT := wd_c5 11 rfl rfl
theorem wd_1093 : Cond.instanceMethod ⟨"BottledPost$Routes", "relayTime", "(LBottledPost$Shore;III)I"⟩ ∈ aGT := wd_c5 12 rfl rfl
theorem wd_1094 : Cond.selects "BottledPost$Routes" ⟨"BottledPost$Routes", "relayTime", "(LBottledPost$Shore;III)I"⟩ ⟨"BottledPost$Routes", "relayTime", "(LBottledPost$Shore;III)I"⟩ ∈ aGT := wd_c5 13 rfl rfl
theorem wd_1095 : Cond.code ⟨"BottledPost$Routes", "relayTime", "(LBottledPost$Shore;III)I"⟩ prog_6_method_3_code 7 ((some FieldType.int)) ∈ aGT := wd_c5 14 rfl rfl
theorem wd_1096 : Cond.methodLink "BottledPost$Routes" 52 ⟨"BottledPost$Routes", "goOn", "(LBottledPost$Shore;IIIII)V"⟩ ∈ aGT := wd_c5 15 rfl rfl
theorem wd_1098 : Cond.instanceMethod ⟨"BottledPost$Routes", "goOn", "(LBottledPost$Shore;IIIII)V"⟩ ∈ aGT := wd_c5 17 rfl rfl
theorem wd_1099 : Cond.code ⟨"BottledPost$Routes", "goOn", "(LBottledPost$Shore;IIIII)V"⟩ prog_6_method_5_code 8 (none) ∈ aGT := wd_c5 18 rfl rfl
theorem wd_1100 : Cond.methodLink "BottledPost$Routes" 60 ⟨"BottledPost$Routes", "arrive", "(LBottledPost$Shore;III)V"⟩ ∈ aGT := wd_c5 19 rfl rfl
theorem wd_1102 : Cond.instanceMethod ⟨"BottledPost$Routes", "arrive", "(LBottledPost$Shore;III)V"⟩ ∈ aGT := wd_c5 21 rfl rfl
theorem wd_1103 : Cond.code ⟨"BottledPost$Routes", "arrive", "(LBottledPost$Shore;III)V"⟩ prog_6_method_7_code 6 (none) ∈ aGT := wd_c5 22 rfl rfl
theorem wd_1104 : Cond.methodLink "BottledPost$Routes" 68 ⟨"BottledPost$Routes", "meet", "(LBottledPost$Shore;IIII)I"⟩ ∈ aGT := wd_c5 23 rfl rfl
theorem wd_1106 : Cond.methodLink "BottledPost$Routes" 64 ⟨"BottledPost$Routes", "goBy", "(ILBottledPost$Shore;IIIII)V"⟩ ∈ aGT := wd_c5 25 rfl rfl
theorem wd_1108 : Cond.instanceMethod ⟨"BottledPost$Routes", "goBy", "(ILBottledPost$Shore;IIIII)V"⟩ ∈ aGT := wd_c5 27 rfl rfl
theorem wd_1109 : Cond.code ⟨"BottledPost$Routes", "goBy", "(ILBottledPost$Shore;IIIII)V"⟩ prog_6_method_6_code 9 (none) ∈ aGT := wd_c5 28 rfl rfl
theorem wd_1111 : Cond.methodLink "BottledPost" 299 ⟨"BottledPost$Routes", "bestBetween", "(I)I"⟩ ∈ aGT := wd_c5 30 rfl rfl
theorem wd_1112 : Cond.instanceMethod ⟨"BottledPost$Routes", "bestBetween", "(I)I"⟩ ∈ aGT := wd_c5 31 rfl rfl
theorem wd_1113 : Cond.selects "BottledPost$Routes" ⟨"BottledPost$Routes", "bestBetween", "(I)I"⟩ ⟨"BottledPost$Routes", "bestBetween", "(I)I"⟩ ∈ aGT := wd_c5 32 rfl rfl
theorem wd_1114 : Cond.code ⟨"BottledPost$Routes", "bestBetween", "(I)I"⟩ prog_6_method_4_code 2 ((some FieldType.int)) ∈ aGT := wd_c5 33 rfl rfl
theorem wd_1116 : Cond.methodLink "BottledPostLaw" 117 ⟨"BottledPost", "found", "(II)I"⟩ ∈ aGT := wd_c5 35 rfl rfl
theorem wd_1117 : Cond.instanceMethod ⟨"BottledPost", "found", "(II)I"⟩ ∈ aGT := wd_c5 36 rfl rfl
theorem wd_1118 : Cond.selects "BottledPost" ⟨"BottledPost", "found", "(II)I"⟩ ⟨"BottledPost", "found", "(II)I"⟩ ∈ aGT := wd_c5 37 rfl rfl
theorem wd_1119 : Cond.code ⟨"BottledPost", "found", "(II)I"⟩ prog_1_method_38_code 3 ((some FieldType.int)) ∈ aGT := wd_c5 38 rfl rfl
theorem wd_1120 : Cond.methodLink "BottledPost" 302 ⟨"BottledPost$Sayings", "forgetFound", "()I"⟩ ∈ aGT := wd_c5 39 rfl rfl
theorem wd_1121 : Cond.instanceMethod ⟨"BottledPost$Sayings", "forgetFound", "()I"⟩ ∈ aGT := wd_c5 40 rfl rfl
theorem wd_1122 : Cond.selects "BottledPost$Sayings" ⟨"BottledPost$Sayings", "forgetFound", "()I"⟩ ⟨"BottledPost$Sayings", "forgetFound", "()I"⟩ ∈ aGT := wd_c5 41 rfl rfl
theorem wd_1123 : Cond.code ⟨"BottledPost$Sayings", "forgetFound", "()I"⟩ prog_7_method_3_code 1 ((some FieldType.int)) ∈ aGT := wd_c5 42 rfl rfl
theorem wd_1124 : Cond.methodLink "BottledPost" 305 ⟨"BottledPost$Sayings", "addFound", "(II)I"⟩ ∈ aGT := wd_c5 43 rfl rfl
theorem wd_1125 : Cond.instanceMethod ⟨"BottledPost$Sayings", "addFound", "(II)I"⟩ ∈ aGT := wd_c5 44 rfl rfl
theorem wd_1126 : Cond.selects "BottledPost$Sayings" ⟨"BottledPost$Sayings", "addFound", "(II)I"⟩ ⟨"BottledPost$Sayings", "addFound", "(II)I"⟩ ∈ aGT := wd_c5 45 rfl rfl
theorem wd_1127 : Cond.code ⟨"BottledPost$Sayings", "addFound", "(II)I"⟩ prog_7_method_4_code 3 ((some FieldType.int)) ∈ aGT := wd_c5 46 rfl rfl
theorem wd_1129 : Cond.methodLink "BottledPostLaw" 121 ⟨"BottledPost", "tossed", "(I)I"⟩ ∈ aGT := wd_c5 48 rfl rfl
theorem wd_1130 : Cond.instanceMethod ⟨"BottledPost", "tossed", "(I)I"⟩ ∈ aGT := wd_c5 49 rfl rfl
theorem wd_1131 : Cond.selects "BottledPost" ⟨"BottledPost", "tossed", "(I)I"⟩ ⟨"BottledPost", "tossed", "(I)I"⟩ ∈ aGT := wd_c5 50 rfl rfl
theorem wd_1132 : Cond.code ⟨"BottledPost", "tossed", "(I)I"⟩ prog_1_method_39_code 6 ((some FieldType.int)) ∈ aGT := wd_c5 51 rfl rfl
theorem wd_1133 : Cond.methodLink "BottledPost" 308 ⟨"BottledPost$Sayings", "allFoundFrom", "(LBottledPost$Shore;II)Z"⟩ ∈ aGT := wd_c5 52 rfl rfl
theorem wd_1134 : Cond.instanceMethod ⟨"BottledPost$Sayings", "allFoundFrom", "(LBottledPost$Shore;II)Z"⟩ ∈ aGT := wd_c5 53 rfl rfl
theorem wd_1135 : Cond.selects "BottledPost$Sayings" ⟨"BottledPost$Sayings", "allFoundFrom", "(LBottledPost$Shore;II)Z"⟩ ⟨"BottledPost$Sayings", "allFoundFrom", "(LBottledPost$Shore;II)Z"⟩ ∈ aGT := wd_c5 54 rfl rfl
theorem wd_1136 : Cond.code ⟨"BottledPost$Sayings", "allFoundFrom", "(LBottledPost$Shore;II)Z"⟩ prog_7_method_5_code 5 ((some FieldType.boolean)) ∈ aGT := wd_c5 55 rfl rfl
theorem wd_1138 : Cond.methodLink "BottledPost$Sayings" 61 ⟨"BottledPost$Shore", "driftsTo", "(III)I"⟩ ∈ aGT := wd_c5 57 rfl rfl
theorem wd_1139 : Cond.methodLink "BottledPostLaw" 125 ⟨"BottledPost", "likely", "(IIIZ)J"⟩ ∈ aGT := wd_c5 58 rfl rfl
theorem wd_1140 : Cond.instanceMethod ⟨"BottledPost", "likely", "(IIIZ)J"⟩ ∈ aGT := wd_c5 59 rfl rfl
theorem wd_1141 : Cond.selects "BottledPost" ⟨"BottledPost", "likely", "(IIIZ)J"⟩ ⟨"BottledPost", "likely", "(IIIZ)J"⟩ ∈ aGT := wd_c5 60 rfl rfl
theorem wd_1142 : Cond.code ⟨"BottledPost", "likely", "(IIIZ)J"⟩ prog_1_method_40_code 16 ((some FieldType.long)) ∈ aGT := wd_c5 61 rfl rfl
theorem wd_1143 : Cond.constantLong "BottledPost" 312 ((-1) : Int64) ∈ aGT := wd_c5 62 rfl rfl
theorem wd_1144 : Cond.constantLong "BottledPost" 320 (10 : Int64) ∈ aGT := wd_c5 63 rfl rfl
theorem wd_1145 : Cond.methodLink "BottledPost" 322 ⟨"BottledPost", "sharedDivisor", "(JJ)J"⟩ ∈ aGT := wd_c5 64 rfl rfl
theorem wd_1146 : Cond.static ⟨"BottledPost", "sharedDivisor", "(JJ)J"⟩ ∈ aGT := wd_c5 65 rfl rfl
theorem wd_1147 : Cond.code ⟨"BottledPost", "sharedDivisor", "(JJ)J"⟩ prog_1_method_61_code 11 ((some FieldType.long)) ∈ aGT := wd_c5 66 rfl rfl
theorem wd_1148 : Cond.methodLink "BottledPostLaw" 130 ⟨"BottledPost", "odds", "(II)Z"⟩ ∈ aGT := wd_c5 67 rfl rfl
theorem wd_1149 : Cond.instanceMethod ⟨"BottledPost", "odds", "(II)Z"⟩ ∈ aGT := wd_c5 68 rfl rfl
theorem wd_1150 : Cond.selects "BottledPost" ⟨"BottledPost", "odds", "(II)Z"⟩ ⟨"BottledPost", "odds", "(II)Z"⟩ ∈ aGT := wd_c5 69 rfl rfl
theorem wd_1151 : Cond.code ⟨"BottledPost", "odds", "(II)Z"⟩ prog_1_method_41_code 3 ((some FieldType.boolean)) ∈ aGT := wd_c5 70 rfl rfl
theorem wd_1152 : Cond.methodLink "BottledPostLaw" 134 ⟨"BottledPost", "code", "(I)I"⟩ ∈ aGT := wd_c5 71 rfl rfl
theorem wd_1153 : Cond.instanceMethod ⟨"BottledPost", "code", "(I)I"⟩ ∈ aGT := wd_c5 72 rfl rfl
theorem wd_1154 : Cond.selects "BottledPost" ⟨"BottledPost", "code", "(I)I"⟩ ⟨"BottledPost", "code", "(I)I"⟩ ∈ aGT := wd_c5 73 rfl rfl
theorem wd_1155 : Cond.code ⟨"BottledPost", "code", "(I)I"⟩ prog_1_method_42_code 2 ((some FieldType.int)) ∈ aGT := wd_c5 74 rfl rfl
theorem wd_1156 : Cond.methodLink "BottledPost" 326 ⟨"BottledPost$Sayings", "forgetCodes", "()I"⟩ ∈ aGT := wd_c5 75 rfl rfl
theorem wd_1157 : Cond.instanceMethod ⟨"BottledPost$Sayings", "forgetCodes", "()I"⟩ ∈ aGT := wd_c5 76 rfl rfl
theorem wd_1158 : Cond.selects "BottledPost$Sayings" ⟨"BottledPost$Sayings", "forgetCodes", "()I"⟩ ⟨"BottledPost$Sayings", "forgetCodes", "()I"⟩ ∈ aGT := wd_c5 77 rfl rfl
theorem wd_1159 : Cond.code ⟨"BottledPost$Sayings", "forgetCodes", "()I"⟩ prog_7_method_6_code 1 ((some FieldType.int)) ∈ aGT := wd_c5 78 rfl rfl
theorem wd_1160 : Cond.methodLink "BottledPost" 329 ⟨"BottledPost$Riddles", "isWord", "(I)Z"⟩ ∈ aGT := wd_c5 79 rfl rfl
theorem wd_1161 : Cond.instanceMethod ⟨"BottledPost$Riddles", "isWord", "(I)Z"⟩ ∈ aGT := wd_c5 80 rfl rfl
theorem wd_1162 : Cond.selects "BottledPost$Riddles" ⟨"BottledPost$Riddles", "isWord", "(I)Z"⟩ ⟨"BottledPost$Riddles", "isWord", "(I)Z"⟩ ∈ aGT := wd_c5 81 rfl rfl
theorem wd_1163 : Cond.code ⟨"BottledPost$Riddles", "isWord", "(I)Z"⟩ prog_5_method_2_code 4 ((some FieldType.boolean)) ∈ aGT := wd_c5 82 rfl rfl
theorem wd_1165 : Cond.methodLink "BottledPost" 332 ⟨"BottledPost$Sayings", "addCode", "(I)I"⟩ ∈ aGT := wd_c5 84 rfl rfl
theorem wd_1166 : Cond.instanceMethod ⟨"BottledPost$Sayings", "addCode", "(I)I"⟩ ∈ aGT := wd_c5 85 rfl rfl
theorem wd_1167 : Cond.selects "BottledPost$Sayings" ⟨"BottledPost$Sayings", "addCode", "(I)I"⟩ ⟨"BottledPost$Sayings", "addCode", "(I)I"⟩ ∈ aGT := wd_c5 86 rfl rfl
theorem wd_1168 : Cond.code ⟨"BottledPost$Sayings", "addCode", "(I)I"⟩ prog_7_method_7_code 3 ((some FieldType.int)) ∈ aGT := wd_c5 87 rfl rfl
theorem wd_1169 : Cond.methodLink "BottledPost$Sayings" 67 ⟨"BottledPost$Sayings", "word", "(I)I"⟩ ∈ aGT := wd_c5 88 rfl rfl
theorem wd_1170 : Cond.instanceMethod ⟨"BottledPost$Sayings", "word", "(I)I"⟩ ∈ aGT := wd_c5 89 rfl rfl
theorem wd_1171 : Cond.selects "BottledPost$Sayings" ⟨"BottledPost$Sayings", "word", "(I)I"⟩ ⟨"BottledPost$Sayings", "word", "(I)I"⟩ ∈ aGT := wd_c5 90 rfl rfl
theorem wd_1172 : Cond.code ⟨"BottledPost$Sayings", "word", "(I)I"⟩ prog_7_method_8_code 2 ((some FieldType.int)) ∈ aGT := wd_c5 91 rfl rfl
theorem wd_1173 : Cond.methodLink "BottledPostLaw" 138 ⟨"BottledPost", "clear", "(I)I"⟩ ∈ aGT := wd_c5 92 rfl rfl
theorem wd_1174 : Cond.instanceMethod ⟨"BottledPost", "clear", "(I)I"⟩ ∈ aGT := wd_c5 93 rfl rfl
theorem wd_1175 : Cond.selects "BottledPost" ⟨"BottledPost", "clear", "(I)I"⟩ ⟨"BottledPost", "clear", "(I)I"⟩ ∈ aGT := wd_c5 94 rfl rfl
theorem wd_1176 : Cond.code ⟨"BottledPost", "clear", "(I)I"⟩ prog_1_method_43_code 3 ((some FieldType.int)) ∈ aGT := wd_c5 95 rfl rfl
theorem wd_1177 : Cond.methodLink "BottledPost" 335 ⟨"BottledPost$Riddles", "shortestUnclear", "(LBottledPost$Sayings;)I"⟩ ∈ aGT := wd_c5 96 rfl rfl
theorem wd_1178 : Cond.instanceMethod ⟨"BottledPost$Riddles", "shortestUnclear", "(LBottledPost$Sayings;)I"⟩ ∈ aGT := wd_c5 97 rfl rfl
theorem wd_1179 : Cond.selects "BottledPost$Riddles" ⟨"BottledPost$Riddles", "shortestUnclear", "(LBottledPost$Sayings;)I"⟩ ⟨"BottledPost$Riddles", "shortestUnclear", "(LBottledPost$Sayings;)I"⟩ ∈ aGT := wd_c5 98 rfl rfl
theorem wd_1180 : Cond.code ⟨"BottledPost$Riddles", "shortestUnclear", "(LBottledPost$Sayings;)I"⟩ prog_5_method_8_code 6 ((some FieldType.int)) ∈ aGT := wd_c5 99 rfl rfl
theorem wd_1181 : Cond.methodLink "BottledPost$Riddles" 49 ⟨"java/util/Arrays", "fill", "([II)V"⟩ ∈ aGT := wd_c5 100 rfl rfl
theorem wd_1182 : Cond.static ⟨"java/util/Arrays", "fill", "([II)V"⟩ ∈ aGT := wd_c5 101 rfl rfl
theorem wd_1183 : Cond.code ⟨"java/util/Arrays", "fill", "([II)V"⟩ prog_22_method_103_code 4 (none) ∈ aGT := wd_c5 102 rfl rfl
theorem wd_1184 : Cond.methodLink "BottledPost$Riddles" 60 ⟨"BottledPost$Sayings", "word", "(I)I"⟩ ∈ aGT := wd_c5 103 rfl rfl
theorem wd_1185 : Cond.methodLink "BottledPost$Riddles" 63 ⟨"BottledPost$Riddles", "startsWith", "(II)Z"⟩ ∈ aGT := wd_c5 104 rfl rfl
theorem wd_1186 : Cond.static ⟨"BottledPost$Riddles", "startsWith", "(II)Z"⟩ ∈ aGT := wd_c5 105 rfl rfl
theorem wd_1187 : Cond.code ⟨"BottledPost$Riddles", "startsWith", "(II)Z"⟩ prog_5_method_7_code 3 ((some FieldType.boolean)) ∈ aGT := wd_c5 106 rfl rfl
theorem wd_1188 : Cond.methodLink "BottledPost$Riddles" 42 ⟨"BottledPost$Riddles", "digitsOf", "(I)I"⟩ ∈ aGT := wd_c5 107 rfl rfl
theorem wd_1189 : Cond.static ⟨"BottledPost$Riddles", "digitsOf", "(I)I"⟩ ∈ aGT := wd_c5 108 rfl rfl
theorem wd_1190 : Cond.code ⟨"BottledPost$Riddles", "digitsOf", "(I)I"⟩ prog_5_method_6_code 3 ((some FieldType.int)) ∈ aGT := wd_c5 109 rfl rfl
theorem wd_1191 : Cond.methodLink "BottledPost$Riddles" 45 ⟨"BottledPost$Riddles", "withoutLast", "(II)I"⟩ ∈ aGT := wd_c5 110 rfl rfl
theorem wd_1192 : Cond.static ⟨"BottledPost$Riddles", "withoutLast", "(II)I"⟩ ∈ aGT := wd_c5 111 rfl rfl
theorem wd_1193 : Cond.code ⟨"BottledPost$Riddles", "withoutLast", "(II)I"⟩ prog_5_method_4_code 3 ((some FieldType.int)) ∈ aGT := wd_c5 112 rfl rfl
theorem wd_1194 : Cond.methodLink "BottledPost$Riddles" 38 ⟨"BottledPost$Riddles", "tenTo", "(I)I"⟩ ∈ aGT := wd_c5 113 rfl rfl
theorem wd_1195 : Cond.static ⟨"BottledPost$Riddles", "tenTo", "(I)I"⟩ ∈ aGT := wd_c5 114 rfl rfl
theorem wd_1196 : Cond.code ⟨"BottledPost$Riddles", "tenTo", "(I)I"⟩ prog_5_method_3_code 3 ((some FieldType.int)) ∈ aGT := wd_c5 115 rfl rfl
theorem wd_1197 : Cond.methodLink "BottledPost$Riddles" 67 ⟨"BottledPost$Riddles", "come", "(III)V"⟩ ∈ aGT := wd_c5 116 rfl rfl
theorem wd_1199 : Cond.instanceMethod ⟨"BottledPost$Riddles", "come", "(III)V"⟩ ∈ aGT := wd_c5 118 rfl rfl
theorem wd_1200 : Cond.code ⟨"BottledPost$Riddles", "come", "(III)V"⟩ prog_5_method_11_code 5 (none) ∈ aGT := wd_c5 119 rfl rfl
theorem wd_1203 : Cond.methodLink "BottledPost$Riddles" 71 ⟨"BottledPost$Riddles", "passOver", "(LBottledPost$Sayings;)V"⟩ ∈ aGT := wd_c5 122 rfl rfl
theorem wd_1205 : Cond.instanceMethod ⟨"BottledPost$Riddles", "passOver", "(LBottledPost$Sayings;)V"⟩ ∈ aGT := wd_c5 124 rfl rfl
theorem wd_1206 : Cond.code ⟨"BottledPost$Riddles", "passOver", "(LBottledPost$Sayings;)V"⟩ prog_5_method_9_code 6 (none) ∈ aGT := wd_c5 125 rfl rfl
theorem wd_1207 : Cond.methodLink "BottledPost$Riddles" 79 ⟨"BottledPost$Riddles", "putBehind", "(LBottledPost$Sayings;IIII)V"⟩ ∈ aGT := wd_c5 126 rfl rfl
theorem wd_1209 : Cond.instanceMethod ⟨"BottledPost$Riddles", "putBehind", "(LBottledPost$Sayings;IIII)V"⟩ ∈ aGT := wd_c5 128 rfl rfl
theorem wd_1210 : Cond.code ⟨"BottledPost$Riddles", "putBehind", "(LBottledPost$Sayings;IIII)V"⟩ prog_5_method_10_code 10 (none) ∈ aGT := wd_c5 129 rfl rfl
theorem wd_1211 : Cond.methodLink "BottledPost$Riddles" 83 ⟨"BottledPost$Riddles", "lastOf", "(II)I"⟩ ∈ aGT := wd_c5 130 rfl rfl
theorem wd_1212 : Cond.static ⟨"BottledPost$Riddles", "lastOf", "(II)I"⟩ ∈ aGT := wd_c5 131 rfl rfl
theorem wd_1213 : Cond.code ⟨"BottledPost$Riddles", "lastOf", "(II)I"⟩ prog_5_method_5_code 3 ((some FieldType.int)) ∈ aGT := wd_c5 132 rfl rfl
theorem wd_1214 : Cond.methodLink "BottledPost$Riddles" 86 ⟨"java/lang/Math", "min", "(II)I"⟩ ∈ aGT := wd_c5 133 rfl rfl
theorem wd_1215 : Cond.methodLink "BottledPostLaw" 142 ⟨"BottledPost", "reads", "(I)J"⟩ ∈ aGT := wd_c5 134 rfl rfl
theorem wd_1216 : Cond.instanceMethod ⟨"BottledPost", "reads", "(I)J"⟩ ∈ aGT := wd_c5 135 rfl rfl
theorem wd_1217 : Cond.selects "BottledPost" ⟨"BottledPost", "reads", "(I)J"⟩ ⟨"BottledPost", "reads", "(I)J"⟩ ∈ aGT := wd_c5 136 rfl rfl
theorem wd_1218 : Cond.code ⟨"BottledPost", "reads", "(I)J"⟩ prog_1_method_44_code 2 ((some FieldType.long)) ∈ aGT := wd_c5 137 rfl rfl
theorem wd_1219 : Cond.constant "BottledPost" 339 (999999999 : Int32) ∈ aGT := wd_c5 138 rfl rfl
theorem wd_1220 : Cond.methodLink "BottledPost" 340 ⟨"BottledPost$Riddles", "countReadings", "(LBottledPost$Sayings;I)J"⟩ ∈ aGT := wd_c5 139 rfl rfl
theorem wd_1221 : Cond.instanceMethod ⟨"BottledPost$Riddles", "countReadings", "(LBottledPost$Sayings;I)J"⟩ ∈ aGT := wd_c5 140 rfl rfl
theorem wd_1222 : Cond.selects "BottledPost$Riddles" ⟨"BottledPost$Riddles", "countReadings", "(LBottledPost$Sayings;I)J"⟩ ⟨"BottledPost$Riddles", "countReadings", "(LBottledPost$Sayings;I)J"⟩ ∈ aGT := wd_c5 141 rfl rfl
theorem wd_1223 : Cond.code ⟨"BottledPost$Riddles", "countReadings", "(LBottledPost$Sayings;I)J"⟩ prog_5_method_12_code 9 ((some FieldType.long)) ∈ aGT := wd_c5 142 rfl rfl
theorem wd_1224 : Cond.methodLink "BottledPostLaw" 147 ⟨"BottledPost", "halves", "(II)Z"⟩ ∈ aGT := wd_c5 143 rfl rfl
theorem wd_1225 : Cond.instanceMethod ⟨"BottledPost", "halves", "(II)Z"⟩ ∈ aGT := wd_c5 144 rfl rfl
theorem wd_1226 : Cond.selects "BottledPost" ⟨"BottledPost", "halves", "(II)Z"⟩ ⟨"BottledPost", "halves", "(II)Z"⟩ ∈ aGT := wd_c5 145 rfl rfl
theorem wd_1227 : Cond.code ⟨"BottledPost", "halves", "(II)Z"⟩ prog_1_method_45_code 3 ((some FieldType.boolean)) ∈ aGT := wd_c5 146 rfl rfl
theorem wd_1228 : Cond.methodLink "BottledPost" 344 ⟨"BottledPost$Sayings", "addHalves", "(II)Z"⟩ ∈ aGT := wd_c5 147 rfl rfl
theorem wd_1229 : Cond.instanceMethod ⟨"BottledPost$Sayings", "addHalves", "(II)Z"⟩ ∈ aGT := wd_c5 148 rfl rfl
theorem wd_1230 : Cond.selects "BottledPost$Sayings" ⟨"BottledPost$Sayings", "addHalves", "(II)Z"⟩ ⟨"BottledPost$Sayings", "addHalves", "(II)Z"⟩ ∈ aGT := wd_c5 149 rfl rfl
theorem wd_1231 : Cond.code ⟨"BottledPost$Sayings", "addHalves", "(II)Z"⟩ prog_7_method_9_code 3 ((some FieldType.boolean)) ∈ aGT := wd_c5 150 rfl rfl
theorem wd_1232 : Cond.methodLink "BottledPost$Sayings" 71 ⟨"BottledPost$Sayings", "areUnlikeLetters", "(II)Z"⟩ ∈ aGT := wd_c5 151 rfl rfl
theorem wd_1233 : Cond.static ⟨"BottledPost$Sayings", "areUnlikeLetters", "(II)Z"⟩ ∈ aGT := wd_c5 152 rfl rfl
theorem wd_1234 : Cond.code ⟨"BottledPost$Sayings", "areUnlikeLetters", "(II)Z"⟩ prog_7_method_13_code 2 ((some FieldType.boolean)) ∈ aGT := wd_c5 153 rfl rfl
theorem wd_1236 : Cond.methodLink "BottledPost$Sayings" 75 ⟨"BottledPost$Sayings", "unlikeOf", "(I)I"⟩ ∈ aGT := wd_c5 155 rfl rfl
theorem wd_1237 : Cond.instanceMethod ⟨"BottledPost$Sayings", "unlikeOf", "(I)I"⟩ ∈ aGT := wd_c5 156 rfl rfl
theorem wd_1238 : Cond.selects "BottledPost$Sayings" ⟨"BottledPost$Sayings", "unlikeOf", "(I)I"⟩ ⟨"BottledPost$Sayings", "unlikeOf", "(I)I"⟩ ∈ aGT := wd_c5 157 rfl rfl
theorem wd_1239 : Cond.code ⟨"BottledPost$Sayings", "unlikeOf", "(I)I"⟩ prog_7_method_10_code 2 ((some FieldType.int)) ∈ aGT := wd_c5 158 rfl rfl
theorem wd_1240 : Cond.methodLink "BottledPostLaw" 151 ⟨"BottledPost", "sorters", "(I)I"⟩ ∈ aGT := wd_c5 159 rfl rfl
theorem wd_1241 : Cond.instanceMethod ⟨"BottledPost", "sorters", "(I)I"⟩ ∈ aGT := wd_c5 160 rfl rfl
theorem wd_1242 : Cond.selects "BottledPost" ⟨"BottledPost", "sorters", "(I)I"⟩ ⟨"BottledPost", "sorters", "(I)I"⟩ ∈ aGT := wd_c5 161 rfl rfl
theorem wd_1243 : Cond.code ⟨"BottledPost", "sorters", "(I)I"⟩ prog_1_method_46_code 2 ((some FieldType.int)) ∈ aGT := wd_c5 162 rfl rfl
theorem wd_1244 : Cond.methodLink "BottledPost" 348 ⟨"BottledPost$Riddles", "fewestSorters", "(LBottledPost$Sayings;I)I"⟩ ∈ aGT := wd_c5 163 rfl rfl
theorem wd_1245 : Cond.instanceMethod ⟨"BottledPost$Riddles", "fewestSorters", "(LBottledPost$Sayings;I)I"⟩ ∈ aGT := wd_c5 164 rfl rfl
theorem wd_1246 : Cond.selects "BottledPost$Riddles" ⟨"BottledPost$Riddles", "fewestSorters", "(LBottledPost$Sayings;I)I"⟩ ⟨"BottledPost$Riddles", "fewestSorters", "(LBottledPost$Sayings;I)I"⟩ ∈ aGT := wd_c5 165 rfl rfl
theorem wd_1247 : Cond.code ⟨"BottledPost$Riddles", "fewestSorters", "(LBottledPost$Sayings;I)I"⟩ prog_5_method_13_code 4 ((some FieldType.int)) ∈ aGT := wd_c5 166 rfl rfl
theorem wd_1248 : Cond.methodLink "BottledPost$Riddles" 95 ⟨"BottledPost$Riddles", "share", "(LBottledPost$Sayings;[IIII)Z"⟩ ∈ aGT := wd_c5 167 rfl rfl
theorem wd_1249 : Cond.static ⟨"BottledPost$Riddles", "share", "(LBottledPost$Sayings;[IIII)Z"⟩ ∈ aGT := wd_c5 168 rfl rfl
theorem wd_1250 : Cond.code ⟨"BottledPost$Riddles", "share", "(LBottledPost$Sayings;[IIII)Z"⟩ prog_5_method_15_code 6 ((some FieldType.boolean)) ∈ aGT := wd_c5 169 rfl rfl
theorem wd_1251 : Cond.methodLink "BottledPost$Riddles" 99 ⟨"BottledPost$Riddles", "mayRead", "(LBottledPost$Sayings;[III)Z"⟩ ∈ aGT := wd_c5 170 rfl rfl
theorem wd_1252 : Cond.static ⟨"BottledPost$Riddles", "mayRead", "(LBottledPost$Sayings;[III)Z"⟩ ∈ aGT := wd_c5 171 rfl rfl
theorem wd_1253 : Cond.code ⟨"BottledPost$Riddles", "mayRead", "(LBottledPost$Sayings;[III)Z"⟩ prog_5_method_16_code 5 ((some FieldType.boolean)) ∈ aGT := wd_c5 172 rfl rfl
theorem wd_1254 : Cond.methodLink "BottledPost$Riddles" 103 ⟨"BottledPost$Sayings", "unlikeOf", "(I)I"⟩ ∈ aGT := wd_c5 173 rfl rfl
theorem wd_1255 : Cond.methodLink "BottledPostLaw" 155 ⟨"BottledPost", "sorter", "(II)I"⟩ ∈ aGT := wd_c5 174 rfl rfl
theorem wd_1256 : Cond.instanceMethod ⟨"BottledPost", "sorter", "(II)I"⟩ ∈ aGT := wd_c5 175 rfl rfl
theorem wd_1257 : Cond.selects "BottledPost" ⟨"BottledPost", "sorter", "(II)I"⟩ ⟨"BottledPost", "sorter", "(II)I"⟩ ∈ aGT := wd_c5 176 rfl rfl
theorem wd_1258 : Cond.code ⟨"BottledPost", "sorter", "(II)I"⟩ prog_1_method_47_code 3 ((some FieldType.int)) ∈ aGT := wd_c5 177 rfl rfl
theorem wd_1259 : Cond.methodLink "BottledPost" 352 ⟨"BottledPost$Riddles", "sorterOf", "(I)I"⟩ ∈ aGT := wd_c5 178 rfl rfl
theorem wd_1260 : Cond.instanceMethod ⟨"BottledPost$Riddles", "sorterOf", "(I)I"⟩ ∈ aGT := wd_c5 179 rfl rfl
theorem wd_1261 : Cond.selects "BottledPost$Riddles" ⟨"BottledPost$Riddles", "sorterOf", "(I)I"⟩ ⟨"BottledPost$Riddles", "sorterOf", "(I)I"⟩ ∈ aGT := wd_c5 180 rfl rfl
theorem wd_1262 : Cond.code ⟨"BottledPost$Riddles", "sorterOf", "(I)I"⟩ prog_5_method_14_code 2 ((some FieldType.int)) ∈ aGT := wd_c5 181 rfl rfl
theorem wd_1263 : Cond.methodLink "BottledPostLaw" 159 ⟨"BottledPost", "writes", "(II)Z"⟩ ∈ aGT := wd_c5 182 rfl rfl
theorem wd_1264 : Cond.instanceMethod ⟨"BottledPost", "writes", "(II)Z"⟩ ∈ aGT := wd_c5 183 rfl rfl
theorem wd_1265 : Cond.selects "BottledPost" ⟨"BottledPost", "writes", "(II)Z"⟩ ⟨"BottledPost", "writes", "(II)Z"⟩ ∈ aGT := wd_c5 184 rfl rfl
theorem wd_1266 : Cond.code ⟨"BottledPost", "writes", "(II)Z"⟩ prog_1_method_48_code 3 ((some FieldType.boolean)) ∈ aGT := wd_c5 185 rfl rfl
theorem wd_1267 : Cond.methodLink "BottledPost" 355 ⟨"BottledPost$Sayings", "addWrites", "(II)Z"⟩ ∈ aGT := wd_c5 186 rfl rfl
theorem wd_1268 : Cond.instanceMethod ⟨"BottledPost$Sayings", "addWrites", "(II)Z"⟩ ∈ aGT := wd_c5 187 rfl rfl
theorem wd_1269 : Cond.selects "BottledPost$Sayings" ⟨"BottledPost$Sayings", "addWrites", "(II)Z"⟩ ⟨"BottledPost$Sayings", "addWrites", "(II)Z"⟩ ∈ aGT := wd_c5 188 rfl rfl
theorem wd_1270 : Cond.code ⟨"BottledPost$Sayings", "addWrites", "(II)Z"⟩ prog_7_method_11_code 3 ((some FieldType.boolean)) ∈ aGT := wd_c5 189 rfl rfl
theorem wd_1271 : Cond.methodLink "BottledPost$Sayings" 78 ⟨"BottledPost$Sayings", "earlierThan", "(I)I"⟩ ∈ aGT := wd_c5 190 rfl rfl
theorem wd_1272 : Cond.instanceMethod ⟨"BottledPost$Sayings", "earlierThan", "(I)I"⟩ ∈ aGT := wd_c5 191 rfl rfl
theorem wd_1273 : Cond.selects "BottledPost$Sayings" ⟨"BottledPost$Sayings", "earlierThan", "(I)I"⟩ ⟨"BottledPost$Sayings", "earlierThan", "(I)I"⟩ ∈ aGT := wd_c5 192 rfl rfl
theorem wd_1274 : Cond.code ⟨"BottledPost$Sayings", "earlierThan", "(I)I"⟩ prog_7_method_12_code 2 ((some FieldType.int)) ∈ aGT := wd_c5 193 rfl rfl
theorem wd_1275 : Cond.methodLink "BottledPostLaw" 163 ⟨"BottledPost", "orders", "(I)J"⟩ ∈ aGT := wd_c5 194 rfl rfl
theorem wd_1276 : Cond.instanceMethod ⟨"BottledPost", "orders", "(I)J"⟩ ∈ aGT := wd_c5 195 rfl rfl
theorem wd_1277 : Cond.selects "BottledPost" ⟨"BottledPost", "orders", "(I)J"⟩ ⟨"BottledPost", "orders", "(I)J"⟩ ∈ aGT := wd_c5 196 rfl rfl
theorem wd_1278 : Cond.code ⟨"BottledPost", "orders", "(I)J"⟩ prog_1_method_49_code 2 ((some FieldType.long)) ∈ aGT := wd_c5 197 rfl rfl
theorem wd_1279 : Cond.methodLink "BottledPost" 358 ⟨"BottledPost$Riddles", "countOrders", "(LBottledPost$Sayings;III)J"⟩ ∈ aGT := wd_c5 198 rfl rfl
theorem wd_1280 : Cond.instanceMethod ⟨"BottledPost$Riddles", "countOrders", "(LBottledPost$Sayings;III)J"⟩ ∈ aGT := wd_c5 199 rfl rfl
theorem wd_1281 : Cond.selects "BottledPost$Riddles" ⟨"BottledPost$Riddles", "countOrders", "(LBottledPost$Sayings;III)J"⟩ ⟨"BottledPost$Riddles", "countOrders", "(LBottledPost$Sayings;III)J"⟩ ∈ aGT := wd_c5 200 rfl rfl
theorem wd_1282 : Cond.code ⟨"BottledPost$Riddles", "countOrders", "(LBottledPost$Sayings;III)J"⟩ prog_5_method_17_code 10 ((some FieldType.long)) ∈ aGT := wd_c5 201 rfl rfl
theorem wd_1283 : Cond.methodLink "BottledPost$Riddles" 106 ⟨"BottledPost$Sayings", "earlierThan", "(I)I"⟩ ∈ aGT := wd_c5 202 rfl rfl
theorem wd_1284 : Cond.methodLink "BottledPostLaw" 167 ⟨"BottledPost", "sure", "(III)I"⟩ ∈ aGT := wd_c5 203 rfl rfl
theorem wd_1285 : Cond.instanceMethod ⟨"BottledPost", "sure", "(III)I"⟩ ∈ aGT := wd_c5 204 rfl rfl
theorem wd_1286 : Cond.selects "BottledPost" ⟨"BottledPost", "sure", "(III)I"⟩ ⟨"BottledPost", "sure", "(III)I"⟩ ∈ aGT := wd_c5 205 rfl rfl
theorem wd_1287 : Cond.code ⟨"BottledPost", "sure", "(III)I"⟩ prog_1_method_50_code 9 ((some FieldType.int)) ∈ aGT := wd_c5 206 rfl rfl
theorem wd_1288 : Cond.methodLink "BottledPostLaw" 171 ⟨"BottledPost", "said", "(II)I"⟩ ∈ aGT := wd_c5 207 rfl rfl
theorem wd_1289 : Cond.instanceMethod ⟨"BottledPost", "said", "(II)I"⟩ ∈ aGT := wd_c5 208 rfl rfl
theorem wd_1290 : Cond.selects "BottledPost" ⟨"BottledPost", "said", "(II)I"⟩ ⟨"BottledPost", "said", "(II)I"⟩ ∈ aGT := wd_c5 209 rfl rfl
theorem wd_1291 : Cond.code ⟨"BottledPost", "said", "(II)I"⟩ prog_1_method_51_code 3 ((some FieldType.int)) ∈ aGT := wd_c5 210 rfl rfl
theorem wd_1292 : Cond.methodLink "BottledPost" 362 ⟨"BottledPost$Sayings", "forgetSaid", "()I"⟩ ∈ aGT := wd_c5 211 rfl rfl
theorem wd_1293 : Cond.instanceMethod ⟨"BottledPost$Sayings", "forgetSaid", "()I"⟩ ∈ aGT := wd_c5 212 rfl rfl
theorem wd_1294 : Cond.selects "BottledPost$Sayings" ⟨"BottledPost$Sayings", "forgetSaid", "()I"⟩ ⟨"BottledPost$Sayings", "forgetSaid", "()I"⟩ ∈ aGT := wd_c5 213 rfl rfl
theorem wd_1295 : Cond.code ⟨"BottledPost$Sayings", "forgetSaid", "()I"⟩ prog_7_method_14_code 1 ((some FieldType.int)) ∈ aGT := wd_c5 214 rfl rfl
theorem wd_1296 : Cond.methodLink "BottledPost" 365 ⟨"BottledPost$Sayings", "addSaid", "(II)I"⟩ ∈ aGT := wd_c5 215 rfl rfl
theorem wd_1297 : Cond.instanceMethod ⟨"BottledPost$Sayings", "addSaid", "(II)I"⟩ ∈ aGT := wd_c5 216 rfl rfl
theorem wd_1298 : Cond.selects "BottledPost$Sayings" ⟨"BottledPost$Sayings", "addSaid", "(II)I"⟩ ⟨"BottledPost$Sayings", "addSaid", "(II)I"⟩ ∈ aGT := wd_c5 217 rfl rfl
theorem wd_1299 : Cond.code ⟨"BottledPost$Sayings", "addSaid", "(II)I"⟩ prog_7_method_15_code 3 ((some FieldType.int)) ∈ aGT := wd_c5 218 rfl rfl
theorem wd_1300 : Cond.methodLink "BottledPostLaw" 175 ⟨"BottledPost", "whose", "()I"⟩ ∈ aGT := wd_c5 219 rfl rfl
theorem wd_1301 : Cond.instanceMethod ⟨"BottledPost", "whose", "()I"⟩ ∈ aGT := wd_c5 220 rfl rfl
theorem wd_1302 : Cond.selects "BottledPost" ⟨"BottledPost", "whose", "()I"⟩ ⟨"BottledPost", "whose", "()I"⟩ ∈ aGT := wd_c5 221 rfl rfl
theorem wd_1303 : Cond.code ⟨"BottledPost", "whose", "()I"⟩ prog_1_method_52_code 3 ((some FieldType.int)) ∈ aGT := wd_c5 222 rfl rfl
theorem wd_1304 : Cond.methodLink "BottledPost" 368 ⟨"BottledPost", "allSaidBy", "(LBottledPost$Text;)Z"⟩ ∈ aGT := wd_c5 223 rfl rfl
theorem wd_1306 : Cond.instanceMethod ⟨"BottledPost", "allSaidBy", "(LBottledPost$Text;)Z"⟩ ∈ aGT := wd_c5 225 rfl rfl
theorem wd_1307 : Cond.code ⟨"BottledPost", "allSaidBy", "(LBottledPost$Text;)Z"⟩ prog_1_method_53_code 4 ((some FieldType.boolean)) ∈ aGT := wd_c5 226 rfl rfl
theorem wd_1308 : Cond.methodLink "BottledPost" 372 ⟨"BottledPost$Sayings", "saidBottle", "(I)I"⟩ ∈ aGT := wd_c5 227 rfl rfl
theorem wd_1309 : Cond.instanceMethod ⟨"BottledPost$Sayings", "saidBottle", "(I)I"⟩ ∈ aGT := wd_c5 228 rfl rfl
theorem wd_1310 : Cond.selects "BottledPost$Sayings" ⟨"BottledPost$Sayings", "saidBottle", "(I)I"⟩ ⟨"BottledPost$Sayings", "saidBottle", "(I)I"⟩ ∈ aGT := wd_c5 229 rfl rfl
theorem wd_1311 : Cond.code ⟨"BottledPost$Sayings", "saidBottle", "(I)I"⟩ prog_7_method_16_code 2 ((some FieldType.int)) ∈ aGT := wd_c5 230 rfl rfl
theorem wd_1312 : Cond.methodLink "BottledPost" 375 ⟨"BottledPost$Sayings", "saidComes", "(I)I"⟩ ∈ aGT := wd_c5 231 rfl rfl
theorem wd_1313 : Cond.instanceMethod ⟨"BottledPost$Sayings", "saidComes", "(I)I"⟩ ∈ aGT := wd_c5 232 rfl rfl
theorem wd_1314 : Cond.selects "BottledPost$Sayings" ⟨"BottledPost$Sayings", "saidComes", "(I)I"⟩ ⟨"BottledPost$Sayings", "saidComes", "(I)I"⟩ ∈ aGT := wd_c5 233 rfl rfl
theorem wd_1315 : Cond.code ⟨"BottledPost$Sayings", "saidComes", "(I)I"⟩ prog_7_method_17_code 2 ((some FieldType.int)) ∈ aGT := wd_c5 234 rfl rfl
theorem wd_1316 : Cond.methodLink "BottledPostLaw" 199 ⟨"BottledPost", "image", "()I"⟩ ∈ aGT := wd_c5 235 rfl rfl
theorem wd_1317 : Cond.instanceMethod ⟨"BottledPost", "image", "()I"⟩ ∈ aGT := wd_c5 236 rfl rfl
theorem wd_1318 : Cond.selects "BottledPost" ⟨"BottledPost", "image", "()I"⟩ ⟨"BottledPost", "image", "()I"⟩ ∈ aGT := wd_c5 237 rfl rfl
theorem wd_1319 : Cond.code ⟨"BottledPost", "image", "()I"⟩ prog_1_method_54_code 1 ((some FieldType.int)) ∈ aGT := wd_c5 238 rfl rfl
theorem wd_1320 : Cond.methodLink "BottledPost" 378 ⟨"BottledPost$World", "copyFrom", "(LBottledPost$World;)V"⟩ ∈ aGT := wd_c5 239 rfl rfl
theorem wd_1321 : Cond.instanceMethod ⟨"BottledPost$World", "copyFrom", "(LBottledPost$World;)V"⟩ ∈ aGT := wd_c6 0 rfl rfl
theorem wd_1322 : Cond.selects "BottledPost$World" ⟨"BottledPost$World", "copyFrom", "(LBottledPost$World;)V"⟩ ⟨"BottledPost$World", "copyFrom", "(LBottledPost$World;)V"⟩ ∈ aGT := wd_c6 1 rfl rfl
theorem wd_1323 : Cond.code ⟨"BottledPost$World", "copyFrom", "(LBottledPost$World;)V"⟩ prog_13_method_2_code 3 (none) ∈ aGT := wd_c6 2 rfl rfl
theorem wd_1324 : Cond.methodLink "BottledPost$World" 52 ⟨"BottledPost$Shore", "copyFrom", "(LBottledPost$Shore;)V"⟩ ∈ aGT := wd_c6 3 rfl rfl
theorem wd_1325 : Cond.instanceMethod ⟨"BottledPost$Shore", "copyFrom", "(LBottledPost$Shore;)V"⟩ ∈ aGT := wd_c6 4 rfl rfl
theorem wd_1326 : Cond.selects "BottledPost$Shore" ⟨"BottledPost$Shore", "copyFrom", "(LBottledPost$Shore;)V"⟩ ⟨"BottledPost$Shore", "copyFrom", "(LBottledPost$Shore;)V"⟩ ∈ aGT := wd_c6 5 rfl rfl
theorem wd_1327 : Cond.code ⟨"BottledPost$Shore", "copyFrom", "(LBottledPost$Shore;)V"⟩ prog_9_method_2_code 2 (none) ∈ aGT := wd_c6 6 rfl rfl
theorem wd_1329 : Cond.methodLink "BottledPost$World" 56 ⟨"BottledPost$Sea", "copyFrom", "(LBottledPost$Sea;)V"⟩ ∈ aGT := wd_c6 8 rfl rfl
theorem wd_1330 : Cond.methodLink "BottledPost$World" 59 ⟨"BottledPost$Steps", "copyFrom", "(LBottledPost$Steps;)V"⟩ ∈ aGT := wd_c6 9 rfl rfl
theorem wd_1331 : Cond.instanceMethod ⟨"BottledPost$Steps", "copyFrom", "(LBottledPost$Steps;)V"⟩ ∈ aGT := wd_c6 10 rfl rfl
theorem wd_1332 : Cond.selects "BottledPost$Steps" ⟨"BottledPost$Steps", "copyFrom", "(LBottledPost$Steps;)V"⟩ ⟨"BottledPost$Steps", "copyFrom", "(LBottledPost$Steps;)V"⟩ ∈ aGT := wd_c6 11 rfl rfl
theorem wd_1333 : Cond.code ⟨"BottledPost$Steps", "copyFrom", "(LBottledPost$Steps;)V"⟩ prog_10_method_2_code 5 (none) ∈ aGT := wd_c6 12 rfl rfl
theorem wd_1334 : Cond.methodLink "BottledPost$World" 62 ⟨"BottledPost$Sayings", "copyFrom", "(LBottledPost$Sayings;)V"⟩ ∈ aGT := wd_c6 13 rfl rfl
theorem wd_1335 : Cond.instanceMethod ⟨"BottledPost$Sayings", "copyFrom", "(LBottledPost$Sayings;)V"⟩ ∈ aGT := wd_c6 14 rfl rfl
theorem wd_1336 : Cond.selects "BottledPost$Sayings" ⟨"BottledPost$Sayings", "copyFrom", "(LBottledPost$Sayings;)V"⟩ ⟨"BottledPost$Sayings", "copyFrom", "(LBottledPost$Sayings;)V"⟩ ∈ aGT := wd_c6 15 rfl rfl
theorem wd_1337 : Cond.code ⟨"BottledPost$Sayings", "copyFrom", "(LBottledPost$Sayings;)V"⟩ prog_7_method_2_code 2 (none) ∈ aGT := wd_c6 16 rfl rfl
theorem wd_1339 : Cond.methodLink "BottledPostLaw" 203 ⟨"BottledPost", "back", "()I"⟩ ∈ aGT := wd_c6 18 rfl rfl
theorem wd_1340 : Cond.instanceMethod ⟨"BottledPost", "back", "()I"⟩ ∈ aGT := wd_c6 19 rfl rfl
theorem wd_1341 : Cond.selects "BottledPost" ⟨"BottledPost", "back", "()I"⟩ ⟨"BottledPost", "back", "()I"⟩ ∈ aGT := wd_c6 20 rfl rfl
theorem wd_1342 : Cond.code ⟨"BottledPost", "back", "()I"⟩ prog_1_method_55_code 1 ((some FieldType.int)) ∈ aGT := wd_c6 21 rfl rfl
theorem wd_1343 : Cond.classLink "BottledPostLaw" 10 "BottledPostModel" ∈ aGT := wd_c6 22 rfl rfl
theorem wd_1344 : Cond.instantiable "BottledPostModel" 34 ∈ aGT := wd_c6 23 rfl rfl
theorem wd_1345 : Cond.methodLink "BottledPostLaw" 12 ⟨"BottledPostModel", "<init>", "()V"⟩ ∈ aGT := wd_c6 24 rfl rfl
theorem wd_1346 : Cond.instanceMethod ⟨"BottledPostModel", "<init>", "()V"⟩ ∈ aGT := wd_c6 25 rfl rfl
theorem wd_1347 : Cond.code ⟨"BottledPostModel", "<init>", "()V"⟩ prog_15_method_1_code 2 (none) ∈ aGT := wd_c6 26 rfl rfl
theorem wd_1348 : Cond.methodLink "BottledPostModel" 1 ⟨"java/lang/Object", "<init>", "()V"⟩ ∈ aGT := wd_c6 27 rfl rfl
theorem wd_1349 : Cond.methodLink "BottledPostModel" 68 ⟨"BottledPostModel", "copy", "([I[I)V"⟩ ∈ aGT := wd_c6 28 rfl rfl
theorem wd_1350 : Cond.static ⟨"BottledPostModel", "copy", "([I[I)V"⟩ ∈ aGT := wd_c6 29 rfl rfl
theorem wd_1351 : Cond.code ⟨"BottledPostModel", "copy", "([I[I)V"⟩ prog_15_method_2_code 3 (none) ∈ aGT := wd_c6 30 rfl rfl
theorem wd_1352 : Cond.fieldLink "BottledPostModel" 7 "BottledPostModel" "a" "[I" ∈ aGT := wd_c6 31 rfl rfl
theorem wd_1353 : Cond.fieldLink "BottledPostModel" 13 "BottledPostModel" "image" "[I" ∈ aGT := wd_c6 32 rfl rfl
theorem wd_1354 : Cond.fieldLink "BottledPostModel" 16 "BottledPostModel" "texts" "[I" ∈ aGT := wd_c6 33 rfl rfl
theorem wd_1355 : Cond.fieldLink "BottledPostModel" 19 "BottledPostModel" "tape" "[I" ∈ aGT := wd_c6 34 rfl rfl
theorem wd_1356 : Cond.fieldLink "BottledPostModel" 87 "BottledPostModel" "taped" "I" ∈ aGT := wd_c6 35 rfl rfl
theorem wd_1357 : Cond.fieldLink "BottledPostModel" 22 "BottledPostModel" "fault" "I" ∈ aGT := wd_c6 36 rfl rfl
theorem wd_1358 : Cond.fieldLink "BottledPostModel" 26 "BottledPostModel" "faultPlace" "I" ∈ aGT := wd_c6 37 rfl rfl
theorem wd_1359 : Cond.fieldLink "BottledPostModel" 94 "BottledPostModel" "at" "I" ∈ aGT := wd_c6 38 rfl rfl
theorem wd_1360 : Cond.fieldLink "BottledPostModel" 101 "BottledPostModel" "place" "I" ∈ aGT := wd_c6 39 rfl rfl
theorem wd_1361 : Cond.fieldLink "BottledPostModel" 104 "BottledPostModel" "token" "I" ∈ aGT := wd_c6 40 rfl rfl
theorem wd_1362 : Cond.fieldLink "BottledPostModel" 110 "BottledPostModel" "number" "I" ∈ aGT := wd_c6 41 rfl rfl
theorem wd_1363 : Cond.fieldLink "BottledPostModel" 117 "BottledPostModel" "word" "J" ∈ aGT := wd_c6 42 rfl rfl
theorem wd_1364 : Cond.fieldLink "BottledPostModel" 142 "BottledPostModel" "text0" "I" ∈ aGT := wd_c6 43 rfl rfl
theorem wd_1365 : Cond.fieldLink "BottledPostModel" 145 "BottledPostModel" "written" "I" ∈ aGT := wd_c6 44 rfl rfl
theorem wd_1366 : Cond.fieldLink "BottledPostModel" 174 "BottledPostModel" "sort0" "I" ∈ aGT := wd_c6 45 rfl rfl
theorem wd_1367 : Cond.fieldLink "BottledPostModel" 29 "BottledPostModel" "pile" "[I" ∈ aGT := wd_c6 46 rfl rfl
theorem wd_1368 : Cond.fieldLink "BottledPostModel" 148 "BottledPostModel" "piled" "I" ∈ aGT := wd_c6 47 rfl rfl
theorem wd_1369 : Cond.fieldLink "BottledPostModel" 158 "BottledPostModel" "opens" "I" ∈ aGT := wd_c6 48 rfl rfl
theorem wd_1370 : Cond.fieldLink "BottledPostModel" 198 "BottledPostModel" "isWhole" "Z" ∈ aGT := wd_c6 49 rfl rfl
theorem wd_1371 : Cond.fieldLink "BottledPostModel" 243 "BottledPostModel" "once" "I" ∈ aGT := wd_c6 50 rfl rfl
theorem wd_1372 : Cond.fieldLink "BottledPostModel" 32 "BottledPostModel" "named" "[I" ∈ aGT := wd_c6 51 rfl rfl
theorem wd_1373 : Cond.fieldLink "BottledPostModel" 35 "BottledPostModel" "values" "[J" ∈ aGT := wd_c6 52 rfl rfl
theorem wd_1374 : Cond.fieldLink "BottledPostModel" 39 "BottledPostModel" "truth" "[Z" ∈ aGT := wd_c6 53 rfl rfl
theorem wd_1375 : Cond.fieldLink "BottledPostModel" 43 "BottledPostModel" "isWritten" "Z" ∈ aGT := wd_c6 54 rfl rfl
theorem wd_1376 : Cond.fieldLink "BottledPostModel" 319 "BottledPostModel" "came" "I" ∈ aGT := wd_c6 55 rfl rfl
theorem wd_1377 : Cond.fieldLink "BottledPostModel" 47 "BottledPostModel" "aside" "[I" ∈ aGT := wd_c6 56 rfl rfl
theorem wd_1378 : Cond.fieldLink "BottledPostModel" 50 "BottledPostModel" "between" "[I" ∈ aGT := wd_c6 57 rfl rfl
theorem wd_1379 : Cond.fieldLink "BottledPostModel" 53 "BottledPostModel" "bestBetween" "[I" ∈ aGT := wd_c6 58 rfl rfl
theorem wd_1380 : Cond.fieldLink "BottledPostModel" 429 "BottledPostModel" "bestMany" "I" ∈ aGT := wd_c6 59 rfl rfl
theorem wd_1381 : Cond.fieldLink "BottledPostModel" 419 "BottledPostModel" "bestWhen" "I" ∈ aGT := wd_c6 60 rfl rfl
theorem wd_1382 : Cond.fieldLink "BottledPostModel" 56 "BottledPostModel" "longBy" "[I" ∈ aGT := wd_c6 61 rfl rfl
theorem wd_1383 : Cond.fieldLink "BottledPostModel" 59 "BottledPostModel" "readingsTo" "[J" ∈ aGT := wd_c6 62 rfl rfl
theorem wd_1384 : Cond.fieldLink "BottledPostModel" 62 "BottledPostModel" "sorterOf" "[I" ∈ aGT := wd_c6 63 rfl rfl
theorem wd_1385 : Cond.fieldLink "BottledPostModel" 65 "BottledPostModel" "ordersOf" "[J" ∈ aGT := wd_c6 64 rfl rfl
theorem wd_1386 : Cond.laysFinal "BottledPostModel" "BottledPostModel" "a" "[I" ∈ aGT := wd_c6 65 rfl rfl
theorem wd_1388 : Cond.laysFinal "BottledPostModel" "BottledPostModel" "image" "[I" ∈ aGT := wd_c6 67 rfl rfl
theorem wd_1390 : Cond.laysFinal "BottledPostModel" "BottledPostModel" "texts" "[I" ∈ aGT := wd_c6 69 rfl rfl
theorem wd_1392 : Cond.laysFinal "BottledPostModel" "BottledPostModel" "tape" "[I" ∈ aGT := wd_c6 71 rfl rfl
theorem wd_1394 : Cond.lays "BottledPostModel" "BottledPostModel" "taped" "I" ∈ aGT := wd_c6 73 rfl rfl
theorem wd_1396 : Cond.lays "BottledPostModel" "BottledPostModel" "fault" "I" ∈ aGT := wd_c6 75 rfl rfl
theorem wd_1398 : Cond.lays "BottledPostModel" "BottledPostModel" "faultPlace" "I" ∈ aGT := wd_c6 77 rfl rfl
theorem wd_1400 : Cond.lays "BottledPostModel" "BottledPostModel" "at" "I" ∈ aGT := wd_c6 79 rfl rfl
theorem wd_1402 : Cond.lays "BottledPostModel" "BottledPostModel" "place" "I" ∈ aGT := wd_c6 81 rfl rfl
theorem wd_1404 : Cond.lays "BottledPostModel" "BottledPostModel" "token" "I" ∈ aGT := wd_c6 83 rfl rfl
theorem wd_1406 : Cond.lays "BottledPostModel" "BottledPostModel" "number" "I" ∈ aGT := wd_c6 85 rfl rfl
theorem wd_1408 : Cond.lays "BottledPostModel" "BottledPostModel" "word" "J" ∈ aGT := wd_c6 87 rfl rfl
theorem wd_1410 : Cond.lays "BottledPostModel" "BottledPostModel" "text0" "I" ∈ aGT := wd_c6 89 rfl rfl
theorem wd_1412 : Cond.lays "BottledPostModel" "BottledPostModel" "written" "I" ∈ aGT := wd_c6 91 rfl rfl
theorem wd_1414 : Cond.lays "BottledPostModel" "BottledPostModel" "sort0" "I" ∈ aGT := wd_c6 93 rfl rfl
theorem wd_1416 : Cond.laysFinal "BottledPostModel" "BottledPostModel" "pile" "[I" ∈ aGT := wd_c6 95 rfl rfl
theorem wd_1418 : Cond.lays "BottledPostModel" "BottledPostModel" "piled" "I" ∈ aGT := wd_c6 97 rfl rfl
theorem wd_1420 : Cond.lays "BottledPostModel" "BottledPostModel" "opens" "I" ∈ aGT := wd_c6 99 rfl rfl
theorem wd_1422 : Cond.lays "BottledPostModel" "BottledPostModel" "isWhole" "Z" ∈ aGT := wd_c6 101 rfl rfl
theorem wd_1424 : Cond.lays "BottledPostModel" "BottledPostModel" "once" "I" ∈ aGT := wd_c6 103 rfl rfl
theorem wd_1426 : Cond.laysFinal "BottledPostModel" "BottledPostModel" "named" "[I" ∈ aGT := wd_c6 105 rfl rfl
theorem wd_1428 : Cond.laysFinal "BottledPostModel" "BottledPostModel" "values" "[J" ∈ aGT := wd_c6 107 rfl rfl
theorem wd_1430 : Cond.laysFinal "BottledPostModel" "BottledPostModel" "truth" "[Z" ∈ aGT := wd_c6 109 rfl rfl
theorem wd_1432 : Cond.lays "BottledPostModel" "BottledPostModel" "isWritten" "Z" ∈ aGT := wd_c6 111 rfl rfl
theorem wd_1434 : Cond.lays "BottledPostModel" "BottledPostModel" "came" "I" ∈ aGT := wd_c6 113 rfl rfl
theorem wd_1436 : Cond.laysFinal "BottledPostModel" "BottledPostModel" "aside" "[I" ∈ aGT := wd_c6 115 rfl rfl
theorem wd_1438 : Cond.laysFinal "BottledPostModel" "BottledPostModel" "between" "[I" ∈ aGT := wd_c6 117 rfl rfl
theorem wd_1440 : Cond.laysFinal "BottledPostModel" "BottledPostModel" "bestBetween" "[I" ∈ aGT := wd_c6 119 rfl rfl
theorem wd_1442 : Cond.lays "BottledPostModel" "BottledPostModel" "bestMany" "I" ∈ aGT := wd_c6 121 rfl rfl
theorem wd_1444 : Cond.lays "BottledPostModel" "BottledPostModel" "bestWhen" "I" ∈ aGT := wd_c6 123 rfl rfl
theorem wd_1446 : Cond.laysFinal "BottledPostModel" "BottledPostModel" "longBy" "[I" ∈ aGT := wd_c6 125 rfl rfl
theorem wd_1448 : Cond.laysFinal "BottledPostModel" "BottledPostModel" "readingsTo" "[J" ∈ aGT := wd_c6 127 rfl rfl
theorem wd_1450 : Cond.laysFinal "BottledPostModel" "BottledPostModel" "sorterOf" "[I" ∈ aGT := wd_c6 129 rfl rfl
theorem wd_1452 : Cond.laysFinal "BottledPostModel" "BottledPostModel" "ordersOf" "[J" ∈ aGT := wd_c6 131 rfl rfl
theorem wd_1455 : Cond.arrayClass .boolean ∈ aGT := wd_c6 134 rfl rfl
theorem wd_1456 : Cond.methodLink "BottledPostLaw" 17 ⟨"BottledPostModel", "person", "(II)I"⟩ ∈ aGT := wd_c6 135 rfl rfl
theorem wd_1457 : Cond.instanceMethod ⟨"BottledPostModel", "person", "(II)I"⟩ ∈ aGT := wd_c6 136 rfl rfl
theorem wd_1458 : Cond.selects "BottledPostModel" ⟨"BottledPostModel", "person", "(II)I"⟩ ⟨"BottledPostModel", "person", "(II)I"⟩ ∈ aGT := wd_c6 137 rfl rfl
theorem wd_1459 : Cond.code ⟨"BottledPostModel", "person", "(II)I"⟩ prog_15_method_14_code 3 ((some FieldType.int)) ∈ aGT := wd_c6 138 rfl rfl
theorem wd_1460 : Cond.methodLink "BottledPostModel" 84 ⟨"BottledPostModel", "isPlace", "(I)Z"⟩ ∈ aGT := wd_c6 139 rfl rfl
theorem wd_1461 : Cond.static ⟨"BottledPostModel", "isPlace", "(I)Z"⟩ ∈ aGT := wd_c6 140 rfl rfl
theorem wd_1462 : Cond.code ⟨"BottledPostModel", "isPlace", "(I)Z"⟩ prog_15_method_8_code 1 ((some FieldType.boolean)) ∈ aGT := wd_c6 141 rfl rfl
theorem wd_1463 : Cond.methodLink "BottledPostModel" 72 ⟨"BottledPostModel", "isIn", "(III)Z"⟩ ∈ aGT := wd_c6 142 rfl rfl
theorem wd_1464 : Cond.static ⟨"BottledPostModel", "isIn", "(III)Z"⟩ ∈ aGT := wd_c6 143 rfl rfl
theorem wd_1465 : Cond.code ⟨"BottledPostModel", "isIn", "(III)Z"⟩ prog_15_method_3_code 3 ((some FieldType.boolean)) ∈ aGT := wd_c6 144 rfl rfl
theorem wd_1466 : Cond.methodLink "BottledPostLaw" 22 ⟨"BottledPostModel", "current", "(III)Z"⟩ ∈ aGT := wd_c6 145 rfl rfl
theorem wd_1467 : Cond.instanceMethod ⟨"BottledPostModel", "current", "(III)Z"⟩ ∈ aGT := wd_c6 146 rfl rfl
theorem wd_1468 : Cond.selects "BottledPostModel" ⟨"BottledPostModel", "current", "(III)Z"⟩ ⟨"BottledPostModel", "current", "(III)Z"⟩ ∈ aGT := wd_c6 147 rfl rfl
theorem wd_1469 : Cond.code ⟨"BottledPostModel", "current", "(III)Z"⟩ prog_15_method_15_code 4 ((some FieldType.boolean)) ∈ aGT := wd_c6 148 rfl rfl
theorem wd_1470 : Cond.methodLink "BottledPostLaw" 27 ⟨"BottledPostModel", "feed", "(IIIII)I"⟩ ∈ aGT := wd_c6 149 rfl rfl
theorem wd_1471 : Cond.instanceMethod ⟨"BottledPostModel", "feed", "(IIIII)I"⟩ ∈ aGT := wd_c6 150 rfl rfl
theorem wd_1472 : Cond.selects "BottledPostModel" ⟨"BottledPostModel", "feed", "(IIIII)I"⟩ ⟨"BottledPostModel", "feed", "(IIIII)I"⟩ ∈ aGT := wd_c6 151 rfl rfl
theorem wd_1473 : Cond.code ⟨"BottledPostModel", "feed", "(IIIII)I"⟩ prog_15_method_17_code 6 ((some FieldType.int)) ∈ aGT := wd_c6 152 rfl rfl
theorem wd_1474 : Cond.methodLink "BottledPostModel" 90 ⟨"BottledPostModel", "four", "(I)V"⟩ ∈ aGT := wd_c6 153 rfl rfl
theorem wd_1476 : Cond.instanceMethod ⟨"BottledPostModel", "four", "(I)V"⟩ ∈ aGT := wd_c6 155 rfl rfl
theorem wd_1477 : Cond.code ⟨"BottledPostModel", "four", "(I)V"⟩ prog_15_method_16_code 3 (none) ∈ aGT := wd_c6 156 rfl rfl
theorem wd_1478 : Cond.methodLink "BottledPostLaw" 32 ⟨"BottledPostModel", "end", "(I)I"⟩ ∈ aGT := wd_c6 157 rfl rfl
theorem wd_1479 : Cond.instanceMethod ⟨"BottledPostModel", "end", "(I)I"⟩ ∈ aGT := wd_c6 158 rfl rfl
theorem wd_1480 : Cond.selects "BottledPostModel" ⟨"BottledPostModel", "end", "(I)I"⟩ ⟨"BottledPostModel", "end", "(I)I"⟩ ∈ aGT := wd_c6 159 rfl rfl
theorem wd_1481 : Cond.code ⟨"BottledPostModel", "end", "(I)I"⟩ prog_15_method_18_code 2 ((some FieldType.int)) ∈ aGT := wd_c6 160 rfl rfl
theorem wd_1482 : Cond.methodLink "BottledPostLaw" 37 ⟨"BottledPostModel", "text", "()I"⟩ ∈ aGT := wd_c6 161 rfl rfl
theorem wd_1483 : Cond.instanceMethod ⟨"BottledPostModel", "text", "()I"⟩ ∈ aGT := wd_c6 162 rfl rfl
theorem wd_1484 : Cond.selects "BottledPostModel" ⟨"BottledPostModel", "text", "()I"⟩ ⟨"BottledPostModel", "text", "()I"⟩ ∈ aGT := wd_c6 163 rfl rfl
theorem wd_1485 : Cond.code ⟨"BottledPostModel", "text", "()I"⟩ prog_15_method_55_code 1 ((some FieldType.int)) ∈ aGT := wd_c6 164 rfl rfl
theorem wd_1486 : Cond.methodLink "BottledPostModel" 256 ⟨"BottledPostModel", "readText", "()I"⟩ ∈ aGT := wd_c6 165 rfl rfl
theorem wd_1488 : Cond.instanceMethod ⟨"BottledPostModel", "readText", "()I"⟩ ∈ aGT := wd_c6 167 rfl rfl
theorem wd_1489 : Cond.code ⟨"BottledPostModel", "readText", "()I"⟩ prog_15_method_54_code 2 ((some FieldType.int)) ∈ aGT := wd_c6 168 rfl rfl
theorem wd_1490 : Cond.methodLink "BottledPostModel" 168 ⟨"BottledPostModel", "nextToken", "()V"⟩ ∈ aGT := wd_c6 169 rfl rfl
theorem wd_1492 : Cond.instanceMethod ⟨"BottledPostModel", "nextToken", "()V"⟩ ∈ aGT := wd_c6 171 rfl rfl
theorem wd_1493 : Cond.code ⟨"BottledPostModel", "nextToken", "()V"⟩ prog_15_method_23_code 2 (none) ∈ aGT := wd_c6 172 rfl rfl
theorem wd_1494 : Cond.methodLink "BottledPostModel" 97 ⟨"BottledPostModel", "byteAt", "(I)I"⟩ ∈ aGT := wd_c6 173 rfl rfl
theorem wd_1496 : Cond.instanceMethod ⟨"BottledPostModel", "byteAt", "(I)I"⟩ ∈ aGT := wd_c6 175 rfl rfl
theorem wd_1497 : Cond.code ⟨"BottledPostModel", "byteAt", "(I)I"⟩ prog_15_method_19_code 2 ((some FieldType.int)) ∈ aGT := wd_c6 176 rfl rfl
theorem wd_1498 : Cond.methodLink "BottledPostModel" 107 ⟨"BottledPostModel", "isFigure", "(I)Z"⟩ ∈ aGT := wd_c6 177 rfl rfl
theorem wd_1499 : Cond.static ⟨"BottledPostModel", "isFigure", "(I)Z"⟩ ∈ aGT := wd_c6 178 rfl rfl
theorem wd_1500 : Cond.code ⟨"BottledPostModel", "isFigure", "(I)Z"⟩ prog_15_method_21_code 1 ((some FieldType.boolean)) ∈ aGT := wd_c6 179 rfl rfl
theorem wd_1501 : Cond.constant "BottledPostModel" 113 (99999 : Int32) ∈ aGT := wd_c6 180 rfl rfl
theorem wd_1502 : Cond.methodLink "BottledPostModel" 114 ⟨"BottledPostModel", "isLetterByte", "(I)Z"⟩ ∈ aGT := wd_c6 181 rfl rfl
theorem wd_1503 : Cond.static ⟨"BottledPostModel", "isLetterByte", "(I)Z"⟩ ∈ aGT := wd_c6 182 rfl rfl
theorem wd_1504 : Cond.code ⟨"BottledPostModel", "isLetterByte", "(I)Z"⟩ prog_15_method_20_code 1 ((some FieldType.boolean)) ∈ aGT := wd_c6 183 rfl rfl
theorem wd_1505 : Cond.constantLong "BottledPostModel" 121 (1152921504606846976 : Int64) ∈ aGT := wd_c6 184 rfl rfl
theorem wd_1506 : Cond.methodLink "BottledPostModel" 123 ⟨"BottledPostModel", "isSign", "(I)Z"⟩ ∈ aGT := wd_c6 185 rfl rfl
theorem wd_1507 : Cond.static ⟨"BottledPostModel", "isSign", "(I)Z"⟩ ∈ aGT := wd_c6 186 rfl rfl
theorem wd_1508 : Cond.code ⟨"BottledPostModel", "isSign", "(I)Z"⟩ prog_15_method_22_code 1 ((some FieldType.boolean)) ∈ aGT := wd_c6 187 rfl rfl
theorem wd_1509 : Cond.methodLink "BottledPostModel" 253 ⟨"BottledPostModel", "clause", "()I"⟩ ∈ aGT := wd_c6 188 rfl rfl
theorem wd_1511 : Cond.instanceMethod ⟨"BottledPostModel", "clause", "()I"⟩ ∈ aGT := wd_c6 190 rfl rfl
theorem wd_1512 : Cond.code ⟨"BottledPostModel", "clause", "()I"⟩ prog_15_method_53_code 5 ((some FieldType.int)) ∈ aGT := wd_c6 191 rfl rfl
theorem wd_1513 : Cond.methodLink "BottledPostModel" 240 ⟨"BottledPostModel", "sortOf", "()I"⟩ ∈ aGT := wd_c6 192 rfl rfl
theorem wd_1515 : Cond.instanceMethod ⟨"BottledPostModel", "sortOf", "()I"⟩ ∈ aGT := wd_c6 194 rfl rfl
theorem wd_1516 : Cond.code ⟨"BottledPostModel", "sortOf", "()I"⟩ prog_15_method_52_code 1 ((some FieldType.int)) ∈ aGT := wd_c6 195 rfl rfl
theorem wd_1517 : Cond.methodLink "BottledPostModel" 138 ⟨"BottledPostModel", "w5", "(IIIII)J"⟩ ∈ aGT := wd_c6 196 rfl rfl
theorem wd_1518 : Cond.static ⟨"BottledPostModel", "w5", "(IIIII)J"⟩ ∈ aGT := wd_c6 197 rfl rfl
theorem wd_1519 : Cond.code ⟨"BottledPostModel", "w5", "(IIIII)J"⟩ prog_15_method_27_code 5 ((some FieldType.long)) ∈ aGT := wd_c6 198 rfl rfl
theorem wd_1520 : Cond.methodLink "BottledPostModel" 134 ⟨"BottledPostModel", "w4", "(IIII)J"⟩ ∈ aGT := wd_c6 199 rfl rfl
theorem wd_1521 : Cond.static ⟨"BottledPostModel", "w4", "(IIII)J"⟩ ∈ aGT := wd_c6 200 rfl rfl
theorem wd_1522 : Cond.code ⟨"BottledPostModel", "w4", "(IIII)J"⟩ prog_15_method_26_code 4 ((some FieldType.long)) ∈ aGT := wd_c6 201 rfl rfl
theorem wd_1523 : Cond.methodLink "BottledPostModel" 130 ⟨"BottledPostModel", "w3", "(III)J"⟩ ∈ aGT := wd_c6 202 rfl rfl
theorem wd_1524 : Cond.static ⟨"BottledPostModel", "w3", "(III)J"⟩ ∈ aGT := wd_c6 203 rfl rfl
theorem wd_1525 : Cond.code ⟨"BottledPostModel", "w3", "(III)J"⟩ prog_15_method_25_code 3 ((some FieldType.long)) ∈ aGT := wd_c6 204 rfl rfl
theorem wd_1526 : Cond.methodLink "BottledPostModel" 126 ⟨"BottledPostModel", "w2", "(II)J"⟩ ∈ aGT := wd_c6 205 rfl rfl
theorem wd_1527 : Cond.static ⟨"BottledPostModel", "w2", "(II)J"⟩ ∈ aGT := wd_c6 206 rfl rfl
theorem wd_1528 : Cond.code ⟨"BottledPostModel", "w2", "(II)J"⟩ prog_15_method_24_code 2 ((some FieldType.long)) ∈ aGT := wd_c6 207 rfl rfl
theorem wd_1529 : Cond.methodLink "BottledPostModel" 183 ⟨"BottledPostModel", "isWord", "(J)Z"⟩ ∈ aGT := wd_c6 208 rfl rfl
theorem wd_1531 : Cond.instanceMethod ⟨"BottledPostModel", "isWord", "(J)Z"⟩ ∈ aGT := wd_c6 210 rfl rfl
theorem wd_1532 : Cond.code ⟨"BottledPostModel", "isWord", "(J)Z"⟩ prog_15_method_29_code 3 ((some FieldType.boolean)) ∈ aGT := wd_c6 211 rfl rfl
theorem wd_1533 : Cond.methodLink "BottledPostModel" 187 ⟨"BottledPostModel", "w6", "(IIIIII)J"⟩ ∈ aGT := wd_c6 212 rfl rfl
theorem wd_1534 : Cond.static ⟨"BottledPostModel", "w6", "(IIIIII)J"⟩ ∈ aGT := wd_c6 213 rfl rfl
theorem wd_1535 : Cond.code ⟨"BottledPostModel", "w6", "(IIIIII)J"⟩ prog_15_method_28_code 6 ((some FieldType.long)) ∈ aGT := wd_c6 214 rfl rfl
theorem wd_1536 : Cond.methodLink "BottledPostModel" 237 ⟨"BottledPostModel", "isCurrent", "()Z"⟩ ∈ aGT := wd_c6 215 rfl rfl
theorem wd_1538 : Cond.instanceMethod ⟨"BottledPostModel", "isCurrent", "()Z"⟩ ∈ aGT := wd_c6 217 rfl rfl
theorem wd_1539 : Cond.code ⟨"BottledPostModel", "isCurrent", "()Z"⟩ prog_15_method_31_code 1 ((some FieldType.boolean)) ∈ aGT := wd_c6 218 rfl rfl
theorem wd_1540 : Cond.methodLink "BottledPostModel" 246 ⟨"BottledPostModel", "has", "(II)Z"⟩ ∈ aGT := wd_c6 219 rfl rfl
theorem wd_1541 : Cond.static ⟨"BottledPostModel", "has", "(II)Z"⟩ ∈ aGT := wd_c6 220 rfl rfl
theorem wd_1542 : Cond.code ⟨"BottledPostModel", "has", "(II)Z"⟩ prog_15_method_5_code 2 ((some FieldType.boolean)) ∈ aGT := wd_c6 221 rfl rfl
theorem wd_1543 : Cond.methodLink "BottledPostModel" 250 ⟨"BottledPostModel", "body", "(II)I"⟩ ∈ aGT := wd_c6 222 rfl rfl
theorem wd_1545 : Cond.instanceMethod ⟨"BottledPostModel", "body", "(II)I"⟩ ∈ aGT := wd_c6 224 rfl rfl
theorem wd_1546 : Cond.code ⟨"BottledPostModel", "body", "(II)I"⟩ prog_15_method_51_code 4 ((some FieldType.int)) ∈ aGT := wd_c6 225 rfl rfl
theorem wd_1547 : Cond.methodLink "BottledPostModel" 230 ⟨"BottledPostModel", "pair", "(IIJI)I"⟩ ∈ aGT := wd_c6 226 rfl rfl
theorem wd_1549 : Cond.instanceMethod ⟨"BottledPostModel", "pair", "(IIJI)I"⟩ ∈ aGT := wd_c6 228 rfl rfl
theorem wd_1550 : Cond.code ⟨"BottledPostModel", "pair", "(IIJI)I"⟩ prog_15_method_50_code 7 ((some FieldType.int)) ∈ aGT := wd_c6 229 rfl rfl
theorem wd_1551 : Cond.methodLink "BottledPostModel" 219 ⟨"BottledPostModel", "figure", "(III)I"⟩ ∈ aGT := wd_c6 230 rfl rfl
theorem wd_1553 : Cond.instanceMethod ⟨"BottledPostModel", "figure", "(III)I"⟩ ∈ aGT := wd_c6 232 rfl rfl
theorem wd_1554 : Cond.code ⟨"BottledPostModel", "figure", "(III)I"⟩ prog_15_method_47_code 4 ((some FieldType.int)) ∈ aGT := wd_c6 233 rfl rfl
theorem wd_1555 : Cond.methodLink "BottledPostModel" 226 ⟨"BottledPostModel", "worded", "(JIII)I"⟩ ∈ aGT := wd_c6 234 rfl rfl
theorem wd_1557 : Cond.instanceMethod ⟨"BottledPostModel", "worded", "(JIII)I"⟩ ∈ aGT := wd_c6 236 rfl rfl
theorem wd_1558 : Cond.code ⟨"BottledPostModel", "worded", "(JIII)I"⟩ prog_15_method_48_code 6 ((some FieldType.int)) ∈ aGT := wd_c6 237 rfl rfl
theorem wd_1559 : Cond.methodLink "BottledPostModel" 234 ⟨"BottledPostModel", "lawClause", "(I)I"⟩ ∈ aGT := wd_c6 238 rfl rfl
theorem wd_1561 : Cond.instanceMethod ⟨"BottledPostModel", "lawClause", "(I)I"⟩ ∈ aGT := wd_c7 0 rfl rfl
theorem wd_1562 : Cond.code ⟨"BottledPostModel", "lawClause", "(I)I"⟩ prog_15_method_49_code 3 ((some FieldType.int)) ∈ aGT := wd_c7 1 rfl rfl
theorem wd_1563 : Cond.methodLink "BottledPostModel" 223 ⟨"BottledPostModel", "summed", "()I"⟩ ∈ aGT := wd_c7 2 rfl rfl
theorem wd_1565 : Cond.instanceMethod ⟨"BottledPostModel", "summed", "()I"⟩ ∈ aGT := wd_c7 4 rfl rfl
theorem wd_1566 : Cond.code ⟨"BottledPostModel", "summed", "()I"⟩ prog_15_method_46_code 2 ((some FieldType.int)) ∈ aGT := wd_c7 5 rfl rfl
theorem wd_1567 : Cond.methodLink "BottledPostModel" 213 ⟨"BottledPostModel", "behindOne", "()I"⟩ ∈ aGT := wd_c7 6 rfl rfl
theorem wd_1569 : Cond.instanceMethod ⟨"BottledPostModel", "behindOne", "()I"⟩ ∈ aGT := wd_c7 8 rfl rfl
theorem wd_1570 : Cond.code ⟨"BottledPostModel", "behindOne", "()I"⟩ prog_15_method_45_code 4 ((some FieldType.int)) ∈ aGT := wd_c7 9 rfl rfl
theorem wd_1571 : Cond.methodLink "BottledPostModel" 207 ⟨"BottledPostModel", "betweenOf", "()I"⟩ ∈ aGT := wd_c7 10 rfl rfl
theorem wd_1573 : Cond.instanceMethod ⟨"BottledPostModel", "betweenOf", "()I"⟩ ∈ aGT := wd_c7 12 rfl rfl
theorem wd_1574 : Cond.code ⟨"BottledPostModel", "betweenOf", "()I"⟩ prog_15_method_43_code 1 ((some FieldType.int)) ∈ aGT := wd_c7 13 rfl rfl
theorem wd_1575 : Cond.methodLink "BottledPostModel" 165 ⟨"BottledPostModel", "openNow", "()I"⟩ ∈ aGT := wd_c7 14 rfl rfl
theorem wd_1577 : Cond.instanceMethod ⟨"BottledPostModel", "openNow", "()I"⟩ ∈ aGT := wd_c7 16 rfl rfl
theorem wd_1578 : Cond.code ⟨"BottledPostModel", "openNow", "()I"⟩ prog_15_method_36_code 1 ((some FieldType.int)) ∈ aGT := wd_c7 17 rfl rfl
theorem wd_1579 : Cond.methodLink "BottledPostModel" 161 ⟨"BottledPostModel", "openAt", "()I"⟩ ∈ aGT := wd_c7 18 rfl rfl
theorem wd_1581 : Cond.instanceMethod ⟨"BottledPostModel", "openAt", "()I"⟩ ∈ aGT := wd_c7 20 rfl rfl
theorem wd_1582 : Cond.code ⟨"BottledPostModel", "openAt", "()I"⟩ prog_15_method_35_code 2 ((some FieldType.int)) ∈ aGT := wd_c7 21 rfl rfl
theorem wd_1583 : Cond.methodLink "BottledPostModel" 201 ⟨"BottledPostModel", "isCompared", "()Z"⟩ ∈ aGT := wd_c7 22 rfl rfl
theorem wd_1585 : Cond.instanceMethod ⟨"BottledPostModel", "isCompared", "()Z"⟩ ∈ aGT := wd_c7 24 rfl rfl
theorem wd_1586 : Cond.code ⟨"BottledPostModel", "isCompared", "()Z"⟩ prog_15_method_37_code 2 ((some FieldType.boolean)) ∈ aGT := wd_c7 25 rfl rfl
theorem wd_1587 : Cond.methodLink "BottledPostModel" 151 ⟨"BottledPostModel", "rank", "(I)I"⟩ ∈ aGT := wd_c7 26 rfl rfl
theorem wd_1588 : Cond.static ⟨"BottledPostModel", "rank", "(I)I"⟩ ∈ aGT := wd_c7 27 rfl rfl
theorem wd_1589 : Cond.code ⟨"BottledPostModel", "rank", "(I)I"⟩ prog_15_method_33_code 1 ((some FieldType.int)) ∈ aGT := wd_c7 28 rfl rfl
theorem wd_1590 : Cond.methodLink "BottledPostModel" 204 ⟨"BottledPostModel", "compareOf", "()I"⟩ ∈ aGT := wd_c7 29 rfl rfl
theorem wd_1592 : Cond.instanceMethod ⟨"BottledPostModel", "compareOf", "()I"⟩ ∈ aGT := wd_c7 31 rfl rfl
theorem wd_1593 : Cond.code ⟨"BottledPostModel", "compareOf", "()I"⟩ prog_15_method_42_code 1 ((some FieldType.int)) ∈ aGT := wd_c7 32 rfl rfl
theorem wd_1594 : Cond.methodLink "BottledPostModel" 195 ⟨"BottledPostModel", "settle", "(I)V"⟩ ∈ aGT := wd_c7 33 rfl rfl
theorem wd_1596 : Cond.instanceMethod ⟨"BottledPostModel", "settle", "(I)V"⟩ ∈ aGT := wd_c7 35 rfl rfl
theorem wd_1597 : Cond.code ⟨"BottledPostModel", "settle", "(I)V"⟩ prog_15_method_34_code 2 (none) ∈ aGT := wd_c7 36 rfl rfl
theorem wd_1598 : Cond.methodLink "BottledPostModel" 154 ⟨"BottledPostModel", "emit", "(II)V"⟩ ∈ aGT := wd_c7 37 rfl rfl
theorem wd_1600 : Cond.instanceMethod ⟨"BottledPostModel", "emit", "(II)V"⟩ ∈ aGT := wd_c7 39 rfl rfl
theorem wd_1601 : Cond.code ⟨"BottledPostModel", "emit", "(II)V"⟩ prog_15_method_30_code 3 (none) ∈ aGT := wd_c7 40 rfl rfl
theorem wd_1602 : Cond.methodLink "BottledPostModel" 210 ⟨"BottledPostModel", "partOf", "(I)I"⟩ ∈ aGT := wd_c7 41 rfl rfl
theorem wd_1604 : Cond.instanceMethod ⟨"BottledPostModel", "partOf", "(I)I"⟩ ∈ aGT := wd_c7 43 rfl rfl
theorem wd_1605 : Cond.code ⟨"BottledPostModel", "partOf", "(I)I"⟩ prog_15_method_44_code 2 ((some FieldType.int)) ∈ aGT := wd_c7 44 rfl rfl
theorem wd_1606 : Cond.methodLink "BottledPostModel" 177 ⟨"BottledPostModel", "endOne", "()I"⟩ ∈ aGT := wd_c7 45 rfl rfl
theorem wd_1608 : Cond.instanceMethod ⟨"BottledPostModel", "endOne", "()I"⟩ ∈ aGT := wd_c7 47 rfl rfl
theorem wd_1609 : Cond.code ⟨"BottledPostModel", "endOne", "()I"⟩ prog_15_method_41_code 1 ((some FieldType.int)) ∈ aGT := wd_c7 48 rfl rfl
theorem wd_1610 : Cond.methodLink "BottledPostModel" 216 ⟨"BottledPostModel", "beginOne", "()I"⟩ ∈ aGT := wd_c7 49 rfl rfl
theorem wd_1612 : Cond.instanceMethod ⟨"BottledPostModel", "beginOne", "()I"⟩ ∈ aGT := wd_c7 51 rfl rfl
theorem wd_1613 : Cond.code ⟨"BottledPostModel", "beginOne", "()I"⟩ prog_15_method_40_code 2 ((some FieldType.int)) ∈ aGT := wd_c7 52 rfl rfl
theorem wd_1614 : Cond.methodLink "BottledPostModel" 171 ⟨"BottledPostModel", "nameOf", "()I"⟩ ∈ aGT := wd_c7 53 rfl rfl
theorem wd_1616 : Cond.instanceMethod ⟨"BottledPostModel", "nameOf", "()I"⟩ ∈ aGT := wd_c7 55 rfl rfl
theorem wd_1617 : Cond.code ⟨"BottledPostModel", "nameOf", "()I"⟩ prog_15_method_32_code 1 ((some FieldType.int)) ∈ aGT := wd_c7 56 rfl rfl
theorem wd_1618 : Cond.methodLink "BottledPostModel" 180 ⟨"BottledPostModel", "opened", "(I)I"⟩ ∈ aGT := wd_c7 57 rfl rfl
theorem wd_1620 : Cond.instanceMethod ⟨"BottledPostModel", "opened", "(I)I"⟩ ∈ aGT := wd_c7 59 rfl rfl
theorem wd_1621 : Cond.code ⟨"BottledPostModel", "opened", "(I)I"⟩ prog_15_method_39_code 2 ((some FieldType.int)) ∈ aGT := wd_c7 60 rfl rfl
theorem wd_1622 : Cond.methodLink "BottledPostModel" 191 ⟨"BottledPostModel", "isAskAhead", "()Z"⟩ ∈ aGT := wd_c7 61 rfl rfl
theorem wd_1624 : Cond.instanceMethod ⟨"BottledPostModel", "isAskAhead", "()Z"⟩ ∈ aGT := wd_c7 63 rfl rfl
theorem wd_1625 : Cond.code ⟨"BottledPostModel", "isAskAhead", "()Z"⟩ prog_15_method_38_code 1 ((some FieldType.boolean)) ∈ aGT := wd_c7 64 rfl rfl
theorem wd_1626 : Cond.methodLink "BottledPostLaw" 41 ⟨"BottledPostModel", "fault", "(I)I"⟩ ∈ aGT := wd_c7 65 rfl rfl
theorem wd_1627 : Cond.instanceMethod ⟨"BottledPostModel", "fault", "(I)I"⟩ ∈ aGT := wd_c7 66 rfl rfl
theorem wd_1628 : Cond.selects "BottledPostModel" ⟨"BottledPostModel", "fault", "(I)I"⟩ ⟨"BottledPostModel", "fault", "(I)I"⟩ ∈ aGT := wd_c7 67 rfl rfl
theorem wd_1629 : Cond.code ⟨"BottledPostModel", "fault", "(I)I"⟩ prog_15_method_56_code 2 ((some FieldType.int)) ∈ aGT := wd_c7 68 rfl rfl
theorem wd_1630 : Cond.methodLink "BottledPostLaw" 46 ⟨"BottledPostModel", "by", "(I)Z"⟩ ∈ aGT := wd_c7 69 rfl rfl
theorem wd_1631 : Cond.instanceMethod ⟨"BottledPostModel", "by", "(I)Z"⟩ ∈ aGT := wd_c7 70 rfl rfl
theorem wd_1632 : Cond.selects "BottledPostModel" ⟨"BottledPostModel", "by", "(I)Z"⟩ ⟨"BottledPostModel", "by", "(I)Z"⟩ ∈ aGT := wd_c7 71 rfl rfl
theorem wd_1633 : Cond.code ⟨"BottledPostModel", "by", "(I)Z"⟩ prog_15_method_57_code 2 ((some FieldType.boolean)) ∈ aGT := wd_c7 72 rfl rfl
theorem wd_1634 : Cond.methodLink "BottledPostLaw" 76 ⟨"BottledPostModel", "undo", "()I"⟩ ∈ aGT := wd_c7 73 rfl rfl
theorem wd_1635 : Cond.instanceMethod ⟨"BottledPostModel", "undo", "()I"⟩ ∈ aGT := wd_c7 74 rfl rfl
theorem wd_1636 : Cond.selects "BottledPostModel" ⟨"BottledPostModel", "undo", "()I"⟩ ⟨"BottledPostModel", "undo", "()I"⟩ ∈ aGT := wd_c7 75 rfl rfl
theorem wd_1637 : Cond.code ⟨"BottledPostModel", "undo", "()I"⟩ prog_15_method_76_code 3 ((some FieldType.int)) ∈ aGT := wd_c7 76 rfl rfl
theorem wd_1638 : Cond.methodLink "BottledPostLaw" 51 ⟨"BottledPostModel", "toss", "(III)I"⟩ ∈ aGT := wd_c7 77 rfl rfl
theorem wd_1639 : Cond.instanceMethod ⟨"BottledPostModel", "toss", "(III)I"⟩ ∈ aGT := wd_c7 78 rfl rfl
theorem wd_1640 : Cond.selects "BottledPostModel" ⟨"BottledPostModel", "toss", "(III)I"⟩ ⟨"BottledPostModel", "toss", "(III)I"⟩ ∈ aGT := wd_c7 79 rfl rfl
theorem wd_1641 : Cond.code ⟨"BottledPostModel", "toss", "(III)I"⟩ prog_15_method_79_code 4 ((some FieldType.int)) ∈ aGT := wd_c7 80 rfl rfl
theorem wd_1642 : Cond.methodLink "BottledPostModel" 346 ⟨"BottledPostModel", "canToss", "(II)Z"⟩ ∈ aGT := wd_c7 81 rfl rfl
theorem wd_1644 : Cond.instanceMethod ⟨"BottledPostModel", "canToss", "(II)Z"⟩ ∈ aGT := wd_c7 83 rfl rfl
theorem wd_1645 : Cond.code ⟨"BottledPostModel", "canToss", "(II)Z"⟩ prog_15_method_77_code 3 ((some FieldType.boolean)) ∈ aGT := wd_c7 84 rfl rfl
theorem wd_1646 : Cond.methodLink "BottledPostModel" 343 ⟨"BottledPostModel", "isPerson", "(I)Z"⟩ ∈ aGT := wd_c7 85 rfl rfl
theorem wd_1648 : Cond.instanceMethod ⟨"BottledPostModel", "isPerson", "(I)Z"⟩ ∈ aGT := wd_c7 87 rfl rfl
theorem wd_1649 : Cond.code ⟨"BottledPostModel", "isPerson", "(I)Z"⟩ prog_15_method_6_code 2 ((some FieldType.boolean)) ∈ aGT := wd_c7 88 rfl rfl
theorem wd_1650 : Cond.methodLink "BottledPostModel" 349 ⟨"BottledPostModel", "keep", "()V"⟩ ∈ aGT := wd_c7 89 rfl rfl
theorem wd_1652 : Cond.instanceMethod ⟨"BottledPostModel", "keep", "()V"⟩ ∈ aGT := wd_c7 91 rfl rfl
theorem wd_1653 : Cond.code ⟨"BottledPostModel", "keep", "()V"⟩ prog_15_method_75_code 3 (none) ∈ aGT := wd_c7 92 rfl rfl
theorem wd_1654 : Cond.methodLink "BottledPostModel" 352 ⟨"BottledPostModel", "tossNow", "(III)V"⟩ ∈ aGT := wd_c7 93 rfl rfl
theorem wd_1656 : Cond.instanceMethod ⟨"BottledPostModel", "tossNow", "(III)V"⟩ ∈ aGT := wd_c7 95 rfl rfl
theorem wd_1657 : Cond.code ⟨"BottledPostModel", "tossNow", "(III)V"⟩ prog_15_method_78_code 5 (none) ∈ aGT := wd_c7 96 rfl rfl
theorem wd_1658 : Cond.methodLink "BottledPostModel" 315 ⟨"BottledPostModel", "put", "(III)V"⟩ ∈ aGT := wd_c7 97 rfl rfl
theorem wd_1660 : Cond.instanceMethod ⟨"BottledPostModel", "put", "(III)V"⟩ ∈ aGT := wd_c7 99 rfl rfl
theorem wd_1661 : Cond.code ⟨"BottledPostModel", "put", "(III)V"⟩ prog_15_method_10_code 4 (none) ∈ aGT := wd_c7 100 rfl rfl
theorem wd_1662 : Cond.methodLink "BottledPostModel" 267 ⟨"BottledPostModel", "own", "(II)I"⟩ ∈ aGT := wd_c7 101 rfl rfl
theorem wd_1664 : Cond.instanceMethod ⟨"BottledPostModel", "own", "(II)I"⟩ ∈ aGT := wd_c7 103 rfl rfl
theorem wd_1665 : Cond.code ⟨"BottledPostModel", "own", "(II)I"⟩ prog_15_method_11_code 3 ((some FieldType.int)) ∈ aGT := wd_c7 104 rfl rfl
theorem wd_1666 : Cond.methodLink "BottledPostLaw" 56 ⟨"BottledPostModel", "fish", "(II)Z"⟩ ∈ aGT := wd_c7 105 rfl rfl
theorem wd_1667 : Cond.instanceMethod ⟨"BottledPostModel", "fish", "(II)Z"⟩ ∈ aGT := wd_c7 106 rfl rfl
theorem wd_1668 : Cond.selects "BottledPostModel" ⟨"BottledPostModel", "fish", "(II)Z"⟩ ⟨"BottledPostModel", "fish", "(II)Z"⟩ ∈ aGT := wd_c7 107 rfl rfl
theorem wd_1669 : Cond.code ⟨"BottledPostModel", "fish", "(II)Z"⟩ prog_15_method_82_code 3 ((some FieldType.boolean)) ∈ aGT := wd_c7 108 rfl rfl
theorem wd_1670 : Cond.methodLink "BottledPostModel" 355 ⟨"BottledPostModel", "canFish", "(II)Z"⟩ ∈ aGT := wd_c7 109 rfl rfl
theorem wd_1672 : Cond.instanceMethod ⟨"BottledPostModel", "canFish", "(II)Z"⟩ ∈ aGT := wd_c7 111 rfl rfl
theorem wd_1673 : Cond.code ⟨"BottledPostModel", "canFish", "(II)Z"⟩ prog_15_method_80_code 3 ((some FieldType.boolean)) ∈ aGT := wd_c7 112 rfl rfl
theorem wd_1674 : Cond.methodLink "BottledPostModel" 296 ⟨"BottledPostModel", "isAfloat", "(I)Z"⟩ ∈ aGT := wd_c7 113 rfl rfl
theorem wd_1676 : Cond.instanceMethod ⟨"BottledPostModel", "isAfloat", "(I)Z"⟩ ∈ aGT := wd_c7 115 rfl rfl
theorem wd_1677 : Cond.code ⟨"BottledPostModel", "isAfloat", "(I)Z"⟩ prog_15_method_12_code 2 ((some FieldType.boolean)) ∈ aGT := wd_c7 116 rfl rfl
theorem wd_1678 : Cond.methodLink "BottledPostModel" 76 ⟨"BottledPostModel", "isBottle", "(I)Z"⟩ ∈ aGT := wd_c7 117 rfl rfl
theorem wd_1680 : Cond.instanceMethod ⟨"BottledPostModel", "isBottle", "(I)Z"⟩ ∈ aGT := wd_c7 119 rfl rfl
theorem wd_1681 : Cond.code ⟨"BottledPostModel", "isBottle", "(I)Z"⟩ prog_15_method_7_code 2 ((some FieldType.boolean)) ∈ aGT := wd_c7 120 rfl rfl
theorem wd_1682 : Cond.methodLink "BottledPostModel" 80 ⟨"BottledPostModel", "get", "(II)I"⟩ ∈ aGT := wd_c7 121 rfl rfl
theorem wd_1684 : Cond.instanceMethod ⟨"BottledPostModel", "get", "(II)I"⟩ ∈ aGT := wd_c7 123 rfl rfl
theorem wd_1685 : Cond.code ⟨"BottledPostModel", "get", "(II)I"⟩ prog_15_method_9_code 3 ((some FieldType.int)) ∈ aGT := wd_c7 124 rfl rfl
theorem wd_1686 : Cond.methodLink "BottledPostModel" 358 ⟨"BottledPostModel", "fishNow", "(II)V"⟩ ∈ aGT := wd_c7 125 rfl rfl
theorem wd_1688 : Cond.instanceMethod ⟨"BottledPostModel", "fishNow", "(II)V"⟩ ∈ aGT := wd_c7 127 rfl rfl
theorem wd_1689 : Cond.code ⟨"BottledPostModel", "fishNow", "(II)V"⟩ prog_15_method_81_code 3 (none) ∈ aGT := wd_c7 128 rfl rfl
theorem wd_1690 : Cond.methodLink "BottledPostModel" 322 ⟨"BottledPostModel", "write", "(II)V"⟩ ∈ aGT := wd_c7 129 rfl rfl
theorem wd_1692 : Cond.instanceMethod ⟨"BottledPostModel", "write", "(II)V"⟩ ∈ aGT := wd_c7 131 rfl rfl
theorem wd_1693 : Cond.code ⟨"BottledPostModel", "write", "(II)V"⟩ prog_15_method_70_code 4 (none) ∈ aGT := wd_c7 132 rfl rfl
theorem wd_1694 : Cond.methodLink "BottledPostLaw" 60 ⟨"BottledPostModel", "again", "(I)Z"⟩ ∈ aGT := wd_c7 133 rfl rfl
theorem wd_1695 : Cond.instanceMethod ⟨"BottledPostModel", "again", "(I)Z"⟩ ∈ aGT := wd_c7 134 rfl rfl
theorem wd_1696 : Cond.selects "BottledPostModel" ⟨"BottledPostModel", "again", "(I)Z"⟩ ⟨"BottledPostModel", "again", "(I)Z"⟩ ∈ aGT := wd_c7 135 rfl rfl
theorem wd_1697 : Cond.code ⟨"BottledPostModel", "again", "(I)Z"⟩ prog_15_method_85_code 2 ((some FieldType.boolean)) ∈ aGT := wd_c7 136 rfl rfl
theorem wd_1698 : Cond.methodLink "BottledPostModel" 361 ⟨"BottledPostModel", "canAgain", "(I)Z"⟩ ∈ aGT := wd_c7 137 rfl rfl
theorem wd_1700 : Cond.instanceMethod ⟨"BottledPostModel", "canAgain", "(I)Z"⟩ ∈ aGT := wd_c7 139 rfl rfl
theorem wd_1701 : Cond.code ⟨"BottledPostModel", "canAgain", "(I)Z"⟩ prog_15_method_83_code 2 ((some FieldType.boolean)) ∈ aGT := wd_c7 140 rfl rfl
theorem wd_1702 : Cond.methodLink "BottledPostModel" 364 ⟨"BottledPostModel", "againNow", "(I)V"⟩ ∈ aGT := wd_c7 141 rfl rfl
theorem wd_1704 : Cond.instanceMethod ⟨"BottledPostModel", "againNow", "(I)V"⟩ ∈ aGT := wd_c7 143 rfl rfl
theorem wd_1705 : Cond.code ⟨"BottledPostModel", "againNow", "(I)V"⟩ prog_15_method_84_code 2 (none) ∈ aGT := wd_c7 144 rfl rfl
theorem wd_1706 : Cond.methodLink "BottledPostLaw" 64 ⟨"BottledPostModel", "tide", "(I)I"⟩ ∈ aGT := wd_c7 145 rfl rfl
theorem wd_1707 : Cond.instanceMethod ⟨"BottledPostModel", "tide", "(I)I"⟩ ∈ aGT := wd_c7 146 rfl rfl
theorem wd_1708 : Cond.selects "BottledPostModel" ⟨"BottledPostModel", "tide", "(I)I"⟩ ⟨"BottledPostModel", "tide", "(I)I"⟩ ∈ aGT := wd_c7 147 rfl rfl
theorem wd_1709 : Cond.code ⟨"BottledPostModel", "tide", "(I)I"⟩ prog_15_method_87_code 2 ((some FieldType.int)) ∈ aGT := wd_c7 148 rfl rfl
theorem wd_1710 : Cond.methodLink "BottledPostModel" 370 ⟨"BottledPostModel", "arePassed", "(I)Z"⟩ ∈ aGT := wd_c7 149 rfl rfl
theorem wd_1712 : Cond.instanceMethod ⟨"BottledPostModel", "arePassed", "(I)Z"⟩ ∈ aGT := wd_c7 151 rfl rfl
theorem wd_1713 : Cond.code ⟨"BottledPostModel", "arePassed", "(I)Z"⟩ prog_15_method_86_code 3 ((some FieldType.boolean)) ∈ aGT := wd_c7 152 rfl rfl
theorem wd_1714 : Cond.methodLink "BottledPostModel" 367 ⟨"BottledPostModel", "pass", "()V"⟩ ∈ aGT := wd_c7 153 rfl rfl
theorem wd_1716 : Cond.instanceMethod ⟨"BottledPostModel", "pass", "()V"⟩ ∈ aGT := wd_c7 155 rfl rfl
theorem wd_1717 : Cond.code ⟨"BottledPostModel", "pass", "()V"⟩ prog_15_method_74_code 2 (none) ∈ aGT := wd_c7 156 rfl rfl
theorem wd_1718 : Cond.methodLink "BottledPostModel" 340 ⟨"BottledPostModel", "floatOn", "(I)V"⟩ ∈ aGT := wd_c7 157 rfl rfl
theorem wd_1720 : Cond.instanceMethod ⟨"BottledPostModel", "floatOn", "(I)V"⟩ ∈ aGT := wd_c7 159 rfl rfl
theorem wd_1721 : Cond.code ⟨"BottledPostModel", "floatOn", "(I)V"⟩ prog_15_method_73_code 3 (none) ∈ aGT := wd_c7 160 rfl rfl
theorem wd_1722 : Cond.methodLink "BottledPostModel" 325 ⟨"BottledPostModel", "flowsTo", "(II)I"⟩ ∈ aGT := wd_c7 161 rfl rfl
theorem wd_1724 : Cond.instanceMethod ⟨"BottledPostModel", "flowsTo", "(II)I"⟩ ∈ aGT := wd_c7 163 rfl rfl
theorem wd_1725 : Cond.code ⟨"BottledPostModel", "flowsTo", "(II)I"⟩ prog_15_method_13_code 3 ((some FieldType.int)) ∈ aGT := wd_c7 164 rfl rfl
theorem wd_1726 : Cond.methodLink "BottledPostModel" 328 ⟨"BottledPostModel", "wearsOf", "(I)I"⟩ ∈ aGT := wd_c7 165 rfl rfl
theorem wd_1728 : Cond.instanceMethod ⟨"BottledPostModel", "wearsOf", "(I)I"⟩ ∈ aGT := wd_c7 167 rfl rfl
theorem wd_1729 : Cond.code ⟨"BottledPostModel", "wearsOf", "(I)I"⟩ prog_15_method_69_code 2 ((some FieldType.int)) ∈ aGT := wd_c7 168 rfl rfl
theorem wd_1730 : Cond.methodLink "BottledPostModel" 302 ⟨"BottledPostModel", "name", "(I)V"⟩ ∈ aGT := wd_c7 169 rfl rfl
theorem wd_1732 : Cond.instanceMethod ⟨"BottledPostModel", "name", "(I)V"⟩ ∈ aGT := wd_c7 171 rfl rfl
theorem wd_1733 : Cond.code ⟨"BottledPostModel", "name", "(I)V"⟩ prog_15_method_67_code 2 (none) ∈ aGT := wd_c7 172 rfl rfl
theorem wd_1734 : Cond.methodLink "BottledPostModel" 299 ⟨"BottledPostModel", "afloatAt", "(I)I"⟩ ∈ aGT := wd_c7 173 rfl rfl
theorem wd_1736 : Cond.instanceMethod ⟨"BottledPostModel", "afloatAt", "(I)I"⟩ ∈ aGT := wd_c7 175 rfl rfl
theorem wd_1737 : Cond.code ⟨"BottledPostModel", "afloatAt", "(I)I"⟩ prog_15_method_66_code 4 ((some FieldType.int)) ∈ aGT := wd_c7 176 rfl rfl
theorem wd_1738 : Cond.methodLink "BottledPostModel" 305 ⟨"BottledPostModel", "says", "(IIII)I"⟩ ∈ aGT := wd_c7 177 rfl rfl
theorem wd_1740 : Cond.instanceMethod ⟨"BottledPostModel", "says", "(IIII)I"⟩ ∈ aGT := wd_c7 179 rfl rfl
theorem wd_1741 : Cond.code ⟨"BottledPostModel", "says", "(IIII)I"⟩ prog_15_method_65_code 6 ((some FieldType.int)) ∈ aGT := wd_c7 180 rfl rfl
theorem wd_1742 : Cond.methodLink "BottledPostModel" 289 ⟨"BottledPostModel", "summedUp", "(II)J"⟩ ∈ aGT := wd_c7 181 rfl rfl
theorem wd_1744 : Cond.instanceMethod ⟨"BottledPostModel", "summedUp", "(II)J"⟩ ∈ aGT := wd_c7 183 rfl rfl
theorem wd_1745 : Cond.code ⟨"BottledPostModel", "summedUp", "(II)J"⟩ prog_15_method_64_code 10 ((some FieldType.long)) ∈ aGT := wd_c7 184 rfl rfl
theorem wd_1746 : Cond.methodLink "BottledPostModel" 270 ⟨"BottledPostModel", "placesOf", "(J)J"⟩ ∈ aGT := wd_c7 185 rfl rfl
theorem wd_1748 : Cond.instanceMethod ⟨"BottledPostModel", "placesOf", "(J)J"⟩ ∈ aGT := wd_c7 187 rfl rfl
theorem wd_1749 : Cond.code ⟨"BottledPostModel", "placesOf", "(J)J"⟩ prog_15_method_61_code 3 ((some FieldType.long)) ∈ aGT := wd_c7 188 rfl rfl
theorem wd_1750 : Cond.methodLink "BottledPostModel" 273 ⟨"BottledPostModel", "laterBy", "(JJ)J"⟩ ∈ aGT := wd_c7 189 rfl rfl
theorem wd_1751 : Cond.static ⟨"BottledPostModel", "laterBy", "(JJ)J"⟩ ∈ aGT := wd_c7 190 rfl rfl
theorem wd_1752 : Cond.code ⟨"BottledPostModel", "laterBy", "(JJ)J"⟩ prog_15_method_62_code 6 ((some FieldType.long)) ∈ aGT := wd_c7 191 rfl rfl
theorem wd_1753 : Cond.constantLong "BottledPostModel" 259 (1000000 : Int64) ∈ aGT := wd_c7 192 rfl rfl
theorem wd_1754 : Cond.methodLink "BottledPostModel" 277 ⟨"BottledPostModel", "two", "(IJJ)J"⟩ ∈ aGT := wd_c7 193 rfl rfl
theorem wd_1755 : Cond.static ⟨"BottledPostModel", "two", "(IJJ)J"⟩ ∈ aGT := wd_c7 194 rfl rfl
theorem wd_1756 : Cond.code ⟨"BottledPostModel", "two", "(IJJ)J"⟩ prog_15_method_59_code 5 ((some FieldType.long)) ∈ aGT := wd_c7 195 rfl rfl
theorem wd_1757 : Cond.methodLink "BottledPostModel" 263 ⟨"BottledPostModel", "clip", "(J)J"⟩ ∈ aGT := wd_c7 196 rfl rfl
theorem wd_1758 : Cond.static ⟨"BottledPostModel", "clip", "(J)J"⟩ ∈ aGT := wd_c7 197 rfl rfl
theorem wd_1759 : Cond.code ⟨"BottledPostModel", "clip", "(J)J"⟩ prog_15_method_58_code 2 ((some FieldType.long)) ∈ aGT := wd_c7 198 rfl rfl
theorem wd_1760 : Cond.constantLong "BottledPostModel" 261 ((-1000000) : Int64) ∈ aGT := wd_c7 199 rfl rfl
theorem wd_1761 : Cond.methodLink "BottledPostModel" 281 ⟨"BottledPostModel", "isAsked", "(IJJ)Z"⟩ ∈ aGT := wd_c7 200 rfl rfl
theorem wd_1762 : Cond.static ⟨"BottledPostModel", "isAsked", "(IJJ)Z"⟩ ∈ aGT := wd_c7 201 rfl rfl
theorem wd_1763 : Cond.code ⟨"BottledPostModel", "isAsked", "(IJJ)Z"⟩ prog_15_method_60_code 5 ((some FieldType.boolean)) ∈ aGT := wd_c7 202 rfl rfl
theorem wd_1764 : Cond.methodLink "BottledPostModel" 285 ⟨"BottledPostModel", "joined", "(IZZ)Z"⟩ ∈ aGT := wd_c7 203 rfl rfl
theorem wd_1765 : Cond.static ⟨"BottledPostModel", "joined", "(IZZ)Z"⟩ ∈ aGT := wd_c7 204 rfl rfl
theorem wd_1766 : Cond.code ⟨"BottledPostModel", "joined", "(IZZ)Z"⟩ prog_15_method_63_code 3 ((some FieldType.boolean)) ∈ aGT := wd_c7 205 rfl rfl
theorem wd_1767 : Cond.methodLink "BottledPostModel" 292 ⟨"BottledPostModel", "cut", "(JII)I"⟩ ∈ aGT := wd_c7 206 rfl rfl
theorem wd_1768 : Cond.static ⟨"BottledPostModel", "cut", "(JII)I"⟩ ∈ aGT := wd_c7 207 rfl rfl
theorem wd_1769 : Cond.code ⟨"BottledPostModel", "cut", "(JII)I"⟩ prog_15_method_4_code 4 ((some FieldType.int)) ∈ aGT := wd_c7 208 rfl rfl
theorem wd_1770 : Cond.methodLink "BottledPostModel" 331 ⟨"BottledPostModel", "finish", "(II)V"⟩ ∈ aGT := wd_c7 209 rfl rfl
theorem wd_1772 : Cond.instanceMethod ⟨"BottledPostModel", "finish", "(II)V"⟩ ∈ aGT := wd_c7 211 rfl rfl
theorem wd_1773 : Cond.code ⟨"BottledPostModel", "finish", "(II)V"⟩ prog_15_method_72_code 3 (none) ∈ aGT := wd_c7 212 rfl rfl
theorem wd_1774 : Cond.methodLink "BottledPostModel" 334 ⟨"BottledPostModel", "comesOf", "(II)I"⟩ ∈ aGT := wd_c7 213 rfl rfl
theorem wd_1776 : Cond.instanceMethod ⟨"BottledPostModel", "comesOf", "(II)I"⟩ ∈ aGT := wd_c7 215 rfl rfl
theorem wd_1777 : Cond.code ⟨"BottledPostModel", "comesOf", "(II)I"⟩ prog_15_method_68_code 3 ((some FieldType.int)) ∈ aGT := wd_c7 216 rfl rfl
theorem wd_1778 : Cond.methodLink "BottledPostModel" 337 ⟨"BottledPostModel", "anew", "()V"⟩ ∈ aGT := wd_c7 217 rfl rfl
theorem wd_1780 : Cond.instanceMethod ⟨"BottledPostModel", "anew", "()V"⟩ ∈ aGT := wd_c7 219 rfl rfl
theorem wd_1781 : Cond.code ⟨"BottledPostModel", "anew", "()V"⟩ prog_15_method_71_code 1 (none) ∈ aGT := wd_c7 220 rfl rfl
theorem wd_1782 : Cond.constantLong "BottledPostModel" 309 (461 : Int64) ∈ aGT := wd_c7 221 rfl rfl
theorem wd_1783 : Cond.constantLong "BottledPostModel" 311 (349 : Int64) ∈ aGT := wd_c7 222 rfl rfl
theorem wd_1784 : Cond.constantLong "BottledPostModel" 313 (30637 : Int64) ∈ aGT := wd_c7 223 rfl rfl
theorem wd_1785 : Cond.methodLink "BottledPostLaw" 68 ⟨"BottledPostModel", "played", "(I)I"⟩ ∈ aGT := wd_c7 224 rfl rfl
theorem wd_1786 : Cond.instanceMethod ⟨"BottledPostModel", "played", "(I)I"⟩ ∈ aGT := wd_c7 225 rfl rfl
theorem wd_1787 : Cond.selects "BottledPostModel" ⟨"BottledPostModel", "played", "(I)I"⟩ ⟨"BottledPostModel", "played", "(I)I"⟩ ∈ aGT := wd_c7 226 rfl rfl
theorem wd_1788 : Cond.code ⟨"BottledPostModel", "played", "(I)I"⟩ prog_15_method_89_code 3 ((some FieldType.int)) ∈ aGT := wd_c7 227 rfl rfl
theorem wd_1789 : Cond.methodLink "BottledPostModel" 388 ⟨"BottledPostModel", "isPlayed", "(I)Z"⟩ ∈ aGT := wd_c7 228 rfl rfl
theorem wd_1791 : Cond.instanceMethod ⟨"BottledPostModel", "isPlayed", "(I)Z"⟩ ∈ aGT := wd_c7 230 rfl rfl
theorem wd_1792 : Cond.code ⟨"BottledPostModel", "isPlayed", "(I)Z"⟩ prog_15_method_88_code 4 ((some FieldType.boolean)) ∈ aGT := wd_c7 231 rfl rfl
theorem wd_1793 : Cond.methodLink "BottledPostModel" 373 ⟨"BottledPostModel", "person", "(II)I"⟩ ∈ aGT := wd_c7 232 rfl rfl
theorem wd_1794 : Cond.methodLink "BottledPostModel" 376 ⟨"BottledPostModel", "current", "(III)Z"⟩ ∈ aGT := wd_c7 233 rfl rfl
theorem wd_1795 : Cond.methodLink "BottledPostModel" 379 ⟨"BottledPostModel", "toss", "(III)I"⟩ ∈ aGT := wd_c7 234 rfl rfl
theorem wd_1796 : Cond.methodLink "BottledPostModel" 382 ⟨"BottledPostModel", "fish", "(II)Z"⟩ ∈ aGT := wd_c7 235 rfl rfl
theorem wd_1797 : Cond.methodLink "BottledPostModel" 385 ⟨"BottledPostModel", "again", "(I)Z"⟩ ∈ aGT := wd_c7 236 rfl rfl
theorem wd_1798 : Cond.methodLink "BottledPostLaw" 72 ⟨"BottledPostModel", "years", "(II)I"⟩ ∈ aGT := wd_c7 237 rfl rfl
theorem wd_1799 : Cond.instanceMethod ⟨"BottledPostModel", "years", "(II)I"⟩ ∈ aGT := wd_c7 238 rfl rfl
theorem wd_1800 : Cond.selects "BottledPostModel" ⟨"BottledPostModel", "years", "(II)I"⟩ ⟨"BottledPostModel", "years", "(II)I"⟩ ∈ aGT := wd_c7 239 rfl rfl
theorem wd_1801 : Cond.code ⟨"BottledPostModel", "years", "(II)I"⟩ prog_15_method_91_code 5 ((some FieldType.int)) ∈ aGT := wd_c8 0 rfl rfl
theorem wd_1802 : Cond.methodLink "BottledPostModel" 391 ⟨"BottledPostModel", "happens", "(I)V"⟩ ∈ aGT := wd_c8 1 rfl rfl
theorem wd_1804 : Cond.instanceMethod ⟨"BottledPostModel", "happens", "(I)V"⟩ ∈ aGT := wd_c8 3 rfl rfl
theorem wd_1805 : Cond.code ⟨"BottledPostModel", "happens", "(I)V"⟩ prog_15_method_90_code 3 (none) ∈ aGT := wd_c8 4 rfl rfl
theorem wd_1806 : Cond.methodLink "BottledPostLaw" 80 ⟨"BottledPostModel", "of", "(II)I"⟩ ∈ aGT := wd_c8 5 rfl rfl
theorem wd_1807 : Cond.instanceMethod ⟨"BottledPostModel", "of", "(II)I"⟩ ∈ aGT := wd_c8 6 rfl rfl
theorem wd_1808 : Cond.selects "BottledPostModel" ⟨"BottledPostModel", "of", "(II)I"⟩ ⟨"BottledPostModel", "of", "(II)I"⟩ ∈ aGT := wd_c8 7 rfl rfl
theorem wd_1809 : Cond.code ⟨"BottledPostModel", "of", "(II)I"⟩ prog_15_method_94_code 3 ((some FieldType.int)) ∈ aGT := wd_c8 8 rfl rfl
theorem wd_1810 : Cond.methodLink "BottledPostModel" 394 ⟨"BottledPostModel", "cameTo", "(I)I"⟩ ∈ aGT := wd_c8 9 rfl rfl
theorem wd_1812 : Cond.instanceMethod ⟨"BottledPostModel", "cameTo", "(I)I"⟩ ∈ aGT := wd_c8 11 rfl rfl
theorem wd_1813 : Cond.code ⟨"BottledPostModel", "cameTo", "(I)I"⟩ prog_15_method_92_code 4 ((some FieldType.int)) ∈ aGT := wd_c8 12 rfl rfl
theorem wd_1814 : Cond.methodLink "BottledPostModel" 397 ⟨"BottledPostModel", "withHow", "(I)I"⟩ ∈ aGT := wd_c8 13 rfl rfl
theorem wd_1816 : Cond.instanceMethod ⟨"BottledPostModel", "withHow", "(I)I"⟩ ∈ aGT := wd_c8 15 rfl rfl
theorem wd_1817 : Cond.code ⟨"BottledPostModel", "withHow", "(I)I"⟩ prog_15_method_93_code 4 ((some FieldType.int)) ∈ aGT := wd_c8 16 rfl rfl
theorem wd_1818 : Cond.methodLink "BottledPostLaw" 84 ⟨"BottledPostModel", "ofBottle", "(II)I"⟩ ∈ aGT := wd_c8 17 rfl rfl
theorem wd_1819 : Cond.instanceMethod ⟨"BottledPostModel", "ofBottle", "(II)I"⟩ ∈ aGT := wd_c8 18 rfl rfl
theorem wd_1820 : Cond.selects "BottledPostModel" ⟨"BottledPostModel", "ofBottle", "(II)I"⟩ ⟨"BottledPostModel", "ofBottle", "(II)I"⟩ ∈ aGT := wd_c8 19 rfl rfl
theorem wd_1821 : Cond.code ⟨"BottledPostModel", "ofBottle", "(II)I"⟩ prog_15_method_95_code 3 ((some FieldType.int)) ∈ aGT := wd_c8 20 rfl rfl
theorem wd_1822 : Cond.methodLink "BottledPostLaw" 88 ⟨"BottledPostModel", "told", "(II)I"⟩ ∈ aGT := wd_c8 21 rfl rfl
theorem wd_1823 : Cond.instanceMethod ⟨"BottledPostModel", "told", "(II)I"⟩ ∈ aGT := wd_c8 22 rfl rfl
theorem wd_1824 : Cond.selects "BottledPostModel" ⟨"BottledPostModel", "told", "(II)I"⟩ ⟨"BottledPostModel", "told", "(II)I"⟩ ∈ aGT := wd_c8 23 rfl rfl
theorem wd_1825 : Cond.code ⟨"BottledPostModel", "told", "(II)I"⟩ prog_15_method_96_code 3 ((some FieldType.int)) ∈ aGT := wd_c8 24 rfl rfl
theorem wd_1826 : Cond.methodLink "BottledPostLaw" 92 ⟨"BottledPostModel", "is", "(I)I"⟩ ∈ aGT := wd_c8 25 rfl rfl
theorem wd_1827 : Cond.instanceMethod ⟨"BottledPostModel", "is", "(I)I"⟩ ∈ aGT := wd_c8 26 rfl rfl
theorem wd_1828 : Cond.selects "BottledPostModel" ⟨"BottledPostModel", "is", "(I)I"⟩ ⟨"BottledPostModel", "is", "(I)I"⟩ ∈ aGT := wd_c8 27 rfl rfl
theorem wd_1829 : Cond.code ⟨"BottledPostModel", "is", "(I)I"⟩ prog_15_method_97_code 2 ((some FieldType.int)) ∈ aGT := wd_c8 28 rfl rfl
theorem wd_1830 : Cond.methodLink "BottledPostLaw" 96 ⟨"BottledPostModel", "book", "(II)I"⟩ ∈ aGT := wd_c8 29 rfl rfl
theorem wd_1831 : Cond.instanceMethod ⟨"BottledPostModel", "book", "(II)I"⟩ ∈ aGT := wd_c8 30 rfl rfl
theorem wd_1832 : Cond.selects "BottledPostModel" ⟨"BottledPostModel", "book", "(II)I"⟩ ⟨"BottledPostModel", "book", "(II)I"⟩ ∈ aGT := wd_c8 31 rfl rfl
theorem wd_1833 : Cond.code ⟨"BottledPostModel", "book", "(II)I"⟩ prog_15_method_99_code 3 ((some FieldType.int)) ∈ aGT := wd_c8 32 rfl rfl
theorem wd_1834 : Cond.methodLink "BottledPostModel" 400 ⟨"BottledPostModel", "entry", "(II)I"⟩ ∈ aGT := wd_c8 33 rfl rfl
theorem wd_1836 : Cond.instanceMethod ⟨"BottledPostModel", "entry", "(II)I"⟩ ∈ aGT := wd_c8 35 rfl rfl
theorem wd_1837 : Cond.code ⟨"BottledPostModel", "entry", "(II)I"⟩ prog_15_method_98_code 4 ((some FieldType.int)) ∈ aGT := wd_c8 36 rfl rfl
theorem wd_1838 : Cond.methodLink "BottledPostLaw" 198 ⟨"BottledPostModel", "ledger", "(I)I"⟩ ∈ aGT := wd_c8 37 rfl rfl
theorem wd_1839 : Cond.instanceMethod ⟨"BottledPostModel", "ledger", "(I)I"⟩ ∈ aGT := wd_c8 38 rfl rfl
theorem wd_1840 : Cond.selects "BottledPostModel" ⟨"BottledPostModel", "ledger", "(I)I"⟩ ⟨"BottledPostModel", "ledger", "(I)I"⟩ ∈ aGT := wd_c8 39 rfl rfl
theorem wd_1841 : Cond.code ⟨"BottledPostModel", "ledger", "(I)I"⟩ prog_15_method_100_code 4 ((some FieldType.int)) ∈ aGT := wd_c8 40 rfl rfl
theorem wd_1842 : Cond.methodLink "BottledPostLaw" 182 ⟨"BottledPostModel", "luckiest", "()I"⟩ ∈ aGT := wd_c8 41 rfl rfl
theorem wd_1843 : Cond.instanceMethod ⟨"BottledPostModel", "luckiest", "()I"⟩ ∈ aGT := wd_c8 42 rfl rfl
theorem wd_1844 : Cond.selects "BottledPostModel" ⟨"BottledPostModel", "luckiest", "()I"⟩ ⟨"BottledPostModel", "luckiest", "()I"⟩ ∈ aGT := wd_c8 43 rfl rfl
theorem wd_1845 : Cond.code ⟨"BottledPostModel", "luckiest", "()I"⟩ prog_15_method_101_code 3 ((some FieldType.int)) ∈ aGT := wd_c8 44 rfl rfl
theorem wd_1846 : Cond.methodLink "BottledPostLaw" 186 ⟨"BottledPostModel", "eldest", "()I"⟩ ∈ aGT := wd_c8 45 rfl rfl
theorem wd_1847 : Cond.instanceMethod ⟨"BottledPostModel", "eldest", "()I"⟩ ∈ aGT := wd_c8 46 rfl rfl
theorem wd_1848 : Cond.selects "BottledPostModel" ⟨"BottledPostModel", "eldest", "()I"⟩ ⟨"BottledPostModel", "eldest", "()I"⟩ ∈ aGT := wd_c8 47 rfl rfl
theorem wd_1849 : Cond.code ⟨"BottledPostModel", "eldest", "()I"⟩ prog_15_method_102_code 3 ((some FieldType.int)) ∈ aGT := wd_c8 48 rfl rfl
theorem wd_1850 : Cond.methodLink "BottledPostLaw" 190 ⟨"BottledPostModel", "crowd", "()I"⟩ ∈ aGT := wd_c8 49 rfl rfl
theorem wd_1851 : Cond.instanceMethod ⟨"BottledPostModel", "crowd", "()I"⟩ ∈ aGT := wd_c8 50 rfl rfl
theorem wd_1852 : Cond.selects "BottledPostModel" ⟨"BottledPostModel", "crowd", "()I"⟩ ⟨"BottledPostModel", "crowd", "()I"⟩ ∈ aGT := wd_c8 51 rfl rfl
theorem wd_1853 : Cond.code ⟨"BottledPostModel", "crowd", "()I"⟩ prog_15_method_103_code 3 ((some FieldType.int)) ∈ aGT := wd_c8 52 rfl rfl
theorem wd_1854 : Cond.methodLink "BottledPostLaw" 194 ⟨"BottledPostModel", "empty", "()I"⟩ ∈ aGT := wd_c8 53 rfl rfl
theorem wd_1855 : Cond.instanceMethod ⟨"BottledPostModel", "empty", "()I"⟩ ∈ aGT := wd_c8 54 rfl rfl
theorem wd_1856 : Cond.selects "BottledPostModel" ⟨"BottledPostModel", "empty", "()I"⟩ ⟨"BottledPostModel", "empty", "()I"⟩ ∈ aGT := wd_c8 55 rfl rfl
theorem wd_1857 : Cond.code ⟨"BottledPostModel", "empty", "()I"⟩ prog_15_method_104_code 3 ((some FieldType.int)) ∈ aGT := wd_c8 56 rfl rfl
theorem wd_1858 : Cond.methodLink "BottledPostLaw" 100 ⟨"BottledPostModel", "foretold", "(III)I"⟩ ∈ aGT := wd_c8 57 rfl rfl
theorem wd_1859 : Cond.instanceMethod ⟨"BottledPostModel", "foretold", "(III)I"⟩ ∈ aGT := wd_c8 58 rfl rfl
theorem wd_1860 : Cond.selects "BottledPostModel" ⟨"BottledPostModel", "foretold", "(III)I"⟩ ⟨"BottledPostModel", "foretold", "(III)I"⟩ ∈ aGT := wd_c8 59 rfl rfl
theorem wd_1861 : Cond.code ⟨"BottledPostModel", "foretold", "(III)I"⟩ prog_15_method_107_code 5 ((some FieldType.int)) ∈ aGT := wd_c8 60 rfl rfl
theorem wd_1862 : Cond.methodLink "BottledPostModel" 403 ⟨"BottledPostModel", "setAside", "()V"⟩ ∈ aGT := wd_c8 61 rfl rfl
theorem wd_1864 : Cond.instanceMethod ⟨"BottledPostModel", "setAside", "()V"⟩ ∈ aGT := wd_c8 63 rfl rfl
theorem wd_1865 : Cond.code ⟨"BottledPostModel", "setAside", "()V"⟩ prog_15_method_105_code 2 (none) ∈ aGT := wd_c8 64 rfl rfl
theorem wd_1866 : Cond.methodLink "BottledPostModel" 406 ⟨"BottledPostModel", "putBack", "()V"⟩ ∈ aGT := wd_c8 65 rfl rfl
theorem wd_1868 : Cond.instanceMethod ⟨"BottledPostModel", "putBack", "()V"⟩ ∈ aGT := wd_c8 67 rfl rfl
theorem wd_1869 : Cond.code ⟨"BottledPostModel", "putBack", "()V"⟩ prog_15_method_106_code 2 (none) ∈ aGT := wd_c8 68 rfl rfl
theorem wd_1870 : Cond.methodLink "BottledPostLaw" 104 ⟨"BottledPostModel", "ends", "(I)I"⟩ ∈ aGT := wd_c8 69 rfl rfl
theorem wd_1871 : Cond.instanceMethod ⟨"BottledPostModel", "ends", "(I)I"⟩ ∈ aGT := wd_c8 70 rfl rfl
theorem wd_1872 : Cond.selects "BottledPostModel" ⟨"BottledPostModel", "ends", "(I)I"⟩ ⟨"BottledPostModel", "ends", "(I)I"⟩ ∈ aGT := wd_c8 71 rfl rfl
theorem wd_1873 : Cond.code ⟨"BottledPostModel", "ends", "(I)I"⟩ prog_15_method_108_code 4 ((some FieldType.int)) ∈ aGT := wd_c8 72 rfl rfl
theorem wd_1874 : Cond.methodLink "BottledPostLaw" 108 ⟨"BottledPostModel", "drift", "(II)I"⟩ ∈ aGT := wd_c8 73 rfl rfl
theorem wd_1875 : Cond.instanceMethod ⟨"BottledPostModel", "drift", "(II)I"⟩ ∈ aGT := wd_c8 74 rfl rfl
theorem wd_1876 : Cond.selects "BottledPostModel" ⟨"BottledPostModel", "drift", "(II)I"⟩ ⟨"BottledPostModel", "drift", "(II)I"⟩ ∈ aGT := wd_c8 75 rfl rfl
theorem wd_1877 : Cond.code ⟨"BottledPostModel", "drift", "(II)I"⟩ prog_15_method_110_code 3 ((some FieldType.int)) ∈ aGT := wd_c8 76 rfl rfl
theorem wd_1878 : Cond.methodLink "BottledPostModel" 409 ⟨"BottledPostModel", "drifted", "(III)I"⟩ ∈ aGT := wd_c8 77 rfl rfl
theorem wd_1880 : Cond.instanceMethod ⟨"BottledPostModel", "drifted", "(III)I"⟩ ∈ aGT := wd_c8 79 rfl rfl
theorem wd_1881 : Cond.code ⟨"BottledPostModel", "drifted", "(III)I"⟩ prog_15_method_109_code 6 ((some FieldType.int)) ∈ aGT := wd_c8 80 rfl rfl
theorem wd_1882 : Cond.methodLink "BottledPostLaw" 112 ⟨"BottledPostModel", "soonest", "(III)I"⟩ ∈ aGT := wd_c8 81 rfl rfl
theorem wd_1883 : Cond.instanceMethod ⟨"BottledPostModel", "soonest", "(III)I"⟩ ∈ aGT := wd_c8 82 rfl rfl
theorem wd_1884 : Cond.selects "BottledPostModel" ⟨"BottledPostModel", "soonest", "(III)I"⟩ ⟨"BottledPostModel", "soonest", "(III)I"⟩ ∈ aGT := wd_c8 83 rfl rfl
theorem wd_1885 : Cond.code ⟨"BottledPostModel", "soonest", "(III)I"⟩ prog_15_method_111_code 6 ((some FieldType.int)) ∈ aGT := wd_c8 84 rfl rfl
theorem wd_1886 : Cond.methodLink "BottledPostLaw" 116 ⟨"BottledPostModel", "relay", "(III)I"⟩ ∈ aGT := wd_c8 85 rfl rfl
theorem wd_1887 : Cond.instanceMethod ⟨"BottledPostModel", "relay", "(III)I"⟩ ∈ aGT := wd_c8 86 rfl rfl
theorem wd_1888 : Cond.selects "BottledPostModel" ⟨"BottledPostModel", "relay", "(III)I"⟩ ⟨"BottledPostModel", "relay", "(III)I"⟩ ∈ aGT := wd_c8 87 rfl rfl
theorem wd_1889 : Cond.code ⟨"BottledPostModel", "relay", "(III)I"⟩ prog_15_method_117_code 4 ((some FieldType.int)) ∈ aGT := wd_c8 88 rfl rfl
theorem wd_1890 : Cond.methodLink "BottledPostModel" 432 ⟨"BottledPostModel", "layRelay", "(II)V"⟩ ∈ aGT := wd_c8 89 rfl rfl
theorem wd_1892 : Cond.instanceMethod ⟨"BottledPostModel", "layRelay", "(II)V"⟩ ∈ aGT := wd_c8 91 rfl rfl
theorem wd_1893 : Cond.code ⟨"BottledPostModel", "layRelay", "(II)V"⟩ prog_15_method_116_code 7 (none) ∈ aGT := wd_c8 92 rfl rfl
theorem wd_1894 : Cond.constant "BottledPostModel" 412 (1000000 : Int32) ∈ aGT := wd_c8 93 rfl rfl
theorem wd_1895 : Cond.methodLink "BottledPostModel" 422 ⟨"BottledPostModel", "isNextRow", "(IIII)Z"⟩ ∈ aGT := wd_c8 94 rfl rfl
theorem wd_1897 : Cond.instanceMethod ⟨"BottledPostModel", "isNextRow", "(IIII)Z"⟩ ∈ aGT := wd_c8 96 rfl rfl
theorem wd_1898 : Cond.code ⟨"BottledPostModel", "isNextRow", "(IIII)Z"⟩ prog_15_method_114_code 6 ((some FieldType.boolean)) ∈ aGT := wd_c8 97 rfl rfl
theorem wd_1899 : Cond.methodLink "BottledPostModel" 416 ⟨"BottledPostModel", "isNew", "(III)Z"⟩ ∈ aGT := wd_c8 98 rfl rfl
theorem wd_1901 : Cond.instanceMethod ⟨"BottledPostModel", "isNew", "(III)Z"⟩ ∈ aGT := wd_c8 100 rfl rfl
theorem wd_1902 : Cond.code ⟨"BottledPostModel", "isNew", "(III)Z"⟩ prog_15_method_115_code 5 ((some FieldType.boolean)) ∈ aGT := wd_c8 101 rfl rfl
theorem wd_1903 : Cond.methodLink "BottledPostModel" 426 ⟨"BottledPostModel", "whenBy", "(III)I"⟩ ∈ aGT := wd_c8 102 rfl rfl
theorem wd_1905 : Cond.instanceMethod ⟨"BottledPostModel", "whenBy", "(III)I"⟩ ∈ aGT := wd_c8 104 rfl rfl
theorem wd_1906 : Cond.code ⟨"BottledPostModel", "whenBy", "(III)I"⟩ prog_15_method_113_code 8 ((some FieldType.int)) ∈ aGT := wd_c8 105 rfl rfl
theorem wd_1907 : Cond.methodLink "BottledPostModel" 413 ⟨"BottledPostModel", "hopOf", "(III)I"⟩ ∈ aGT := wd_c8 106 rfl rfl
theorem wd_1909 : Cond.instanceMethod ⟨"BottledPostModel", "hopOf", "(III)I"⟩ ∈ aGT := wd_c8 108 rfl rfl
theorem wd_1910 : Cond.code ⟨"BottledPostModel", "hopOf", "(III)I"⟩ prog_15_method_112_code 7 ((some FieldType.int)) ∈ aGT := wd_c8 109 rfl rfl
theorem wd_1911 : Cond.methodLink "BottledPostLaw" 120 ⟨"BottledPostModel", "found", "(II)I"⟩ ∈ aGT := wd_c8 110 rfl rfl
theorem wd_1912 : Cond.instanceMethod ⟨"BottledPostModel", "found", "(II)I"⟩ ∈ aGT := wd_c8 111 rfl rfl
theorem wd_1913 : Cond.selects "BottledPostModel" ⟨"BottledPostModel", "found", "(II)I"⟩ ⟨"BottledPostModel", "found", "(II)I"⟩ ∈ aGT := wd_c8 112 rfl rfl
theorem wd_1914 : Cond.code ⟨"BottledPostModel", "found", "(II)I"⟩ prog_15_method_118_code 3 ((some FieldType.int)) ∈ aGT := wd_c8 113 rfl rfl
theorem wd_1915 : Cond.methodLink "BottledPostLaw" 124 ⟨"BottledPostModel", "tossed", "(I)I"⟩ ∈ aGT := wd_c8 114 rfl rfl
theorem wd_1916 : Cond.instanceMethod ⟨"BottledPostModel", "tossed", "(I)I"⟩ ∈ aGT := wd_c8 115 rfl rfl
theorem wd_1917 : Cond.selects "BottledPostModel" ⟨"BottledPostModel", "tossed", "(I)I"⟩ ⟨"BottledPostModel", "tossed", "(I)I"⟩ ∈ aGT := wd_c8 116 rfl rfl
theorem wd_1918 : Cond.code ⟨"BottledPostModel", "tossed", "(I)I"⟩ prog_15_method_120_code 6 ((some FieldType.int)) ∈ aGT := wd_c8 117 rfl rfl
theorem wd_1919 : Cond.methodLink "BottledPostModel" 435 ⟨"BottledPostModel", "isFrom", "(II)Z"⟩ ∈ aGT := wd_c8 118 rfl rfl
theorem wd_1921 : Cond.instanceMethod ⟨"BottledPostModel", "isFrom", "(II)Z"⟩ ∈ aGT := wd_c8 120 rfl rfl
theorem wd_1922 : Cond.code ⟨"BottledPostModel", "isFrom", "(II)Z"⟩ prog_15_method_119_code 6 ((some FieldType.boolean)) ∈ aGT := wd_c8 121 rfl rfl
theorem wd_1923 : Cond.methodLink "BottledPostLaw" 133 ⟨"BottledPostModel", "odds", "(II)Z"⟩ ∈ aGT := wd_c8 122 rfl rfl
theorem wd_1924 : Cond.instanceMethod ⟨"BottledPostModel", "odds", "(II)Z"⟩ ∈ aGT := wd_c8 123 rfl rfl
theorem wd_1925 : Cond.selects "BottledPostModel" ⟨"BottledPostModel", "odds", "(II)Z"⟩ ⟨"BottledPostModel", "odds", "(II)Z"⟩ ∈ aGT := wd_c8 124 rfl rfl
theorem wd_1926 : Cond.code ⟨"BottledPostModel", "odds", "(II)Z"⟩ prog_15_method_121_code 3 ((some FieldType.boolean)) ∈ aGT := wd_c8 125 rfl rfl
theorem wd_1927 : Cond.methodLink "BottledPostLaw" 129 ⟨"BottledPostModel", "likely", "(IIIZ)J"⟩ ∈ aGT := wd_c8 126 rfl rfl
theorem wd_1928 : Cond.instanceMethod ⟨"BottledPostModel", "likely", "(IIIZ)J"⟩ ∈ aGT := wd_c8 127 rfl rfl
theorem wd_1929 : Cond.selects "BottledPostModel" ⟨"BottledPostModel", "likely", "(IIIZ)J"⟩ ⟨"BottledPostModel", "likely", "(IIIZ)J"⟩ ∈ aGT := wd_c8 128 rfl rfl
theorem wd_1930 : Cond.code ⟨"BottledPostModel", "likely", "(IIIZ)J"⟩ prog_15_method_123_code 14 ((some FieldType.long)) ∈ aGT := wd_c8 129 rfl rfl
theorem wd_1931 : Cond.constantLong "BottledPostModel" 438 ((-1) : Int64) ∈ aGT := wd_c8 130 rfl rfl
theorem wd_1932 : Cond.constantLong "BottledPostModel" 440 (10 : Int64) ∈ aGT := wd_c8 131 rfl rfl
theorem wd_1933 : Cond.methodLink "BottledPostModel" 442 ⟨"BottledPostModel", "divisor", "(JJ)J"⟩ ∈ aGT := wd_c8 132 rfl rfl
theorem wd_1934 : Cond.static ⟨"BottledPostModel", "divisor", "(JJ)J"⟩ ∈ aGT := wd_c8 133 rfl rfl
theorem wd_1935 : Cond.code ⟨"BottledPostModel", "divisor", "(JJ)J"⟩ prog_15_method_122_code 10 ((some FieldType.long)) ∈ aGT := wd_c8 134 rfl rfl
theorem wd_1936 : Cond.methodLink "BottledPostLaw" 137 ⟨"BottledPostModel", "code", "(I)I"⟩ ∈ aGT := wd_c8 135 rfl rfl
theorem wd_1937 : Cond.instanceMethod ⟨"BottledPostModel", "code", "(I)I"⟩ ∈ aGT := wd_c8 136 rfl rfl
theorem wd_1938 : Cond.selects "BottledPostModel" ⟨"BottledPostModel", "code", "(I)I"⟩ ⟨"BottledPostModel", "code", "(I)I"⟩ ∈ aGT := wd_c8 137 rfl rfl
theorem wd_1939 : Cond.code ⟨"BottledPostModel", "code", "(I)I"⟩ prog_15_method_125_code 3 ((some FieldType.int)) ∈ aGT := wd_c8 138 rfl rfl
theorem wd_1940 : Cond.methodLink "BottledPostModel" 445 ⟨"BottledPostModel", "isWithoutNought", "(I)Z"⟩ ∈ aGT := wd_c8 139 rfl rfl
theorem wd_1941 : Cond.static ⟨"BottledPostModel", "isWithoutNought", "(I)Z"⟩ ∈ aGT := wd_c8 140 rfl rfl
theorem wd_1942 : Cond.code ⟨"BottledPostModel", "isWithoutNought", "(I)Z"⟩ prog_15_method_124_code 2 ((some FieldType.boolean)) ∈ aGT := wd_c8 141 rfl rfl
theorem wd_1943 : Cond.methodLink "BottledPostLaw" 141 ⟨"BottledPostModel", "clear", "(I)I"⟩ ∈ aGT := wd_c8 142 rfl rfl
theorem wd_1944 : Cond.instanceMethod ⟨"BottledPostModel", "clear", "(I)I"⟩ ∈ aGT := wd_c8 143 rfl rfl
theorem wd_1945 : Cond.selects "BottledPostModel" ⟨"BottledPostModel", "clear", "(I)I"⟩ ⟨"BottledPostModel", "clear", "(I)I"⟩ ∈ aGT := wd_c8 144 rfl rfl
theorem wd_1946 : Cond.code ⟨"BottledPostModel", "clear", "(I)I"⟩ prog_15_method_132_code 3 ((some FieldType.int)) ∈ aGT := wd_c8 145 rfl rfl
theorem wd_1947 : Cond.methodLink "BottledPostModel" 463 ⟨"BottledPostModel", "shortestTwo", "()I"⟩ ∈ aGT := wd_c8 146 rfl rfl
theorem wd_1949 : Cond.instanceMethod ⟨"BottledPostModel", "shortestTwo", "()I"⟩ ∈ aGT := wd_c8 148 rfl rfl
theorem wd_1950 : Cond.code ⟨"BottledPostModel", "shortestTwo", "()I"⟩ prog_15_method_131_code 4 ((some FieldType.int)) ∈ aGT := wd_c8 149 rfl rfl
theorem wd_1951 : Cond.methodLink "BottledPostModel" 454 ⟨"BottledPostModel", "restOf", "(II)I"⟩ ∈ aGT := wd_c8 150 rfl rfl
theorem wd_1952 : Cond.static ⟨"BottledPostModel", "restOf", "(II)I"⟩ ∈ aGT := wd_c8 151 rfl rfl
theorem wd_1953 : Cond.code ⟨"BottledPostModel", "restOf", "(II)I"⟩ prog_15_method_128_code 3 ((some FieldType.int)) ∈ aGT := wd_c8 152 rfl rfl
theorem wd_1954 : Cond.methodLink "BottledPostModel" 448 ⟨"BottledPostModel", "longOf", "(I)I"⟩ ∈ aGT := wd_c8 153 rfl rfl
theorem wd_1955 : Cond.static ⟨"BottledPostModel", "longOf", "(I)I"⟩ ∈ aGT := wd_c8 154 rfl rfl
theorem wd_1956 : Cond.code ⟨"BottledPostModel", "longOf", "(I)I"⟩ prog_15_method_126_code 1 ((some FieldType.int)) ∈ aGT := wd_c8 155 rfl rfl
theorem wd_1957 : Cond.methodLink "BottledPostModel" 451 ⟨"BottledPostModel", "tensOf", "(I)I"⟩ ∈ aGT := wd_c8 156 rfl rfl
theorem wd_1958 : Cond.static ⟨"BottledPostModel", "tensOf", "(I)I"⟩ ∈ aGT := wd_c8 157 rfl rfl
theorem wd_1959 : Cond.code ⟨"BottledPostModel", "tensOf", "(I)I"⟩ prog_15_method_127_code 3 ((some FieldType.int)) ∈ aGT := wd_c8 158 rfl rfl
theorem wd_1960 : Cond.methodLink "BottledPostModel" 457 ⟨"BottledPostModel", "isShorter", "(II)Z"⟩ ∈ aGT := wd_c8 159 rfl rfl
theorem wd_1962 : Cond.instanceMethod ⟨"BottledPostModel", "isShorter", "(II)Z"⟩ ∈ aGT := wd_c8 161 rfl rfl
theorem wd_1963 : Cond.code ⟨"BottledPostModel", "isShorter", "(II)Z"⟩ prog_15_method_129_code 3 ((some FieldType.boolean)) ∈ aGT := wd_c8 162 rfl rfl
theorem wd_1964 : Cond.methodLink "BottledPostModel" 460 ⟨"BottledPostModel", "isSpread", "(I)Z"⟩ ∈ aGT := wd_c8 163 rfl rfl
theorem wd_1966 : Cond.instanceMethod ⟨"BottledPostModel", "isSpread", "(I)Z"⟩ ∈ aGT := wd_c8 165 rfl rfl
theorem wd_1967 : Cond.code ⟨"BottledPostModel", "isSpread", "(I)Z"⟩ prog_15_method_130_code 7 ((some FieldType.boolean)) ∈ aGT := wd_c8 166 rfl rfl
theorem wd_1968 : Cond.methodLink "BottledPostLaw" 146 ⟨"BottledPostModel", "reads", "(I)J"⟩ ∈ aGT := wd_c8 167 rfl rfl
theorem wd_1969 : Cond.instanceMethod ⟨"BottledPostModel", "reads", "(I)J"⟩ ∈ aGT := wd_c8 168 rfl rfl
theorem wd_1970 : Cond.selects "BottledPostModel" ⟨"BottledPostModel", "reads", "(I)J"⟩ ⟨"BottledPostModel", "reads", "(I)J"⟩ ∈ aGT := wd_c8 169 rfl rfl
theorem wd_1971 : Cond.code ⟨"BottledPostModel", "reads", "(I)J"⟩ prog_15_method_134_code 7 ((some FieldType.long)) ∈ aGT := wd_c8 170 rfl rfl
theorem wd_1972 : Cond.constant "BottledPostModel" 466 (999999999 : Int32) ∈ aGT := wd_c8 171 rfl rfl
theorem wd_1973 : Cond.methodLink "BottledPostModel" 467 ⟨"BottledPostModel", "digitsOf", "(I)I"⟩ ∈ aGT := wd_c8 172 rfl rfl
theorem wd_1974 : Cond.static ⟨"BottledPostModel", "digitsOf", "(I)I"⟩ ∈ aGT := wd_c8 173 rfl rfl
theorem wd_1975 : Cond.code ⟨"BottledPostModel", "digitsOf", "(I)I"⟩ prog_15_method_133_code 3 ((some FieldType.int)) ∈ aGT := wd_c8 174 rfl rfl
theorem wd_1976 : Cond.methodLink "BottledPostLaw" 150 ⟨"BottledPostModel", "halves", "(II)Z"⟩ ∈ aGT := wd_c8 175 rfl rfl
theorem wd_1977 : Cond.instanceMethod ⟨"BottledPostModel", "halves", "(II)Z"⟩ ∈ aGT := wd_c8 176 rfl rfl
theorem wd_1978 : Cond.selects "BottledPostModel" ⟨"BottledPostModel", "halves", "(II)Z"⟩ ⟨"BottledPostModel", "halves", "(II)Z"⟩ ∈ aGT := wd_c8 177 rfl rfl
theorem wd_1979 : Cond.code ⟨"BottledPostModel", "halves", "(II)Z"⟩ prog_15_method_136_code 3 ((some FieldType.boolean)) ∈ aGT := wd_c8 178 rfl rfl
theorem wd_1980 : Cond.methodLink "BottledPostModel" 470 ⟨"BottledPostModel", "isLetter", "(I)Z"⟩ ∈ aGT := wd_c8 179 rfl rfl
theorem wd_1981 : Cond.static ⟨"BottledPostModel", "isLetter", "(I)Z"⟩ ∈ aGT := wd_c8 180 rfl rfl
theorem wd_1982 : Cond.code ⟨"BottledPostModel", "isLetter", "(I)Z"⟩ prog_15_method_135_code 1 ((some FieldType.boolean)) ∈ aGT := wd_c8 181 rfl rfl
theorem wd_1983 : Cond.methodLink "BottledPostLaw" 154 ⟨"BottledPostModel", "sorters", "(I)I"⟩ ∈ aGT := wd_c8 182 rfl rfl
theorem wd_1984 : Cond.instanceMethod ⟨"BottledPostModel", "sorters", "(I)I"⟩ ∈ aGT := wd_c8 183 rfl rfl
theorem wd_1985 : Cond.selects "BottledPostModel" ⟨"BottledPostModel", "sorters", "(I)I"⟩ ⟨"BottledPostModel", "sorters", "(I)I"⟩ ∈ aGT := wd_c8 184 rfl rfl
theorem wd_1986 : Cond.code ⟨"BottledPostModel", "sorters", "(I)I"⟩ prog_15_method_140_code 2 ((some FieldType.int)) ∈ aGT := wd_c8 185 rfl rfl
theorem wd_1987 : Cond.methodLink "BottledPostModel" 479 ⟨"BottledPostModel", "laySorters", "(I)I"⟩ ∈ aGT := wd_c8 186 rfl rfl
theorem wd_1989 : Cond.instanceMethod ⟨"BottledPostModel", "laySorters", "(I)I"⟩ ∈ aGT := wd_c8 188 rfl rfl
theorem wd_1990 : Cond.code ⟨"BottledPostModel", "laySorters", "(I)I"⟩ prog_15_method_139_code 3 ((some FieldType.int)) ∈ aGT := wd_c8 189 rfl rfl
theorem wd_1991 : Cond.methodLink "BottledPostModel" 476 ⟨"BottledPostModel", "areSorted", "(II)Z"⟩ ∈ aGT := wd_c8 190 rfl rfl
theorem wd_1993 : Cond.instanceMethod ⟨"BottledPostModel", "areSorted", "(II)Z"⟩ ∈ aGT := wd_c8 192 rfl rfl
theorem wd_1994 : Cond.code ⟨"BottledPostModel", "areSorted", "(II)Z"⟩ prog_15_method_138_code 5 ((some FieldType.boolean)) ∈ aGT := wd_c8 193 rfl rfl
theorem wd_1995 : Cond.methodLink "BottledPostModel" 473 ⟨"BottledPostModel", "canSort", "(I)Z"⟩ ∈ aGT := wd_c8 194 rfl rfl
theorem wd_1997 : Cond.instanceMethod ⟨"BottledPostModel", "canSort", "(I)Z"⟩ ∈ aGT := wd_c8 196 rfl rfl
theorem wd_1998 : Cond.code ⟨"BottledPostModel", "canSort", "(I)Z"⟩ prog_15_method_137_code 3 ((some FieldType.boolean)) ∈ aGT := wd_c8 197 rfl rfl
theorem wd_1999 : Cond.methodLink "BottledPostLaw" 158 ⟨"BottledPostModel", "sorter", "(II)I"⟩ ∈ aGT := wd_c8 198 rfl rfl
theorem wd_2000 : Cond.instanceMethod ⟨"BottledPostModel", "sorter", "(II)I"⟩ ∈ aGT := wd_c8 199 rfl rfl
theorem wd_2001 : Cond.selects "BottledPostModel" ⟨"BottledPostModel", "sorter", "(II)I"⟩ ⟨"BottledPostModel", "sorter", "(II)I"⟩ ∈ aGT := wd_c8 200 rfl rfl
theorem wd_2002 : Cond.code ⟨"BottledPostModel", "sorter", "(II)I"⟩ prog_15_method_141_code 3 ((some FieldType.int)) ∈ aGT := wd_c8 201 rfl rfl
theorem wd_2003 : Cond.methodLink "BottledPostLaw" 162 ⟨"BottledPostModel", "writes", "(II)Z"⟩ ∈ aGT := wd_c8 202 rfl rfl
theorem wd_2004 : Cond.instanceMethod ⟨"BottledPostModel", "writes", "(II)Z"⟩ ∈ aGT := wd_c8 203 rfl rfl
theorem wd_2005 : Cond.selects "BottledPostModel" ⟨"BottledPostModel", "writes", "(II)Z"⟩ ⟨"BottledPostModel", "writes", "(II)Z"⟩ ∈ aGT := wd_c8 204 rfl rfl
theorem wd_2006 : Cond.code ⟨"BottledPostModel", "writes", "(II)Z"⟩ prog_15_method_142_code 3 ((some FieldType.boolean)) ∈ aGT := wd_c8 205 rfl rfl
theorem wd_2007 : Cond.methodLink "BottledPostLaw" 166 ⟨"BottledPostModel", "orders", "(I)J"⟩ ∈ aGT := wd_c8 206 rfl rfl
theorem wd_2008 : Cond.instanceMethod ⟨"BottledPostModel", "orders", "(I)J"⟩ ∈ aGT := wd_c8 207 rfl rfl
theorem wd_2009 : Cond.selects "BottledPostModel" ⟨"BottledPostModel", "orders", "(I)J"⟩ ⟨"BottledPostModel", "orders", "(I)J"⟩ ∈ aGT := wd_c8 208 rfl rfl
theorem wd_2010 : Cond.code ⟨"BottledPostModel", "orders", "(I)J"⟩ prog_15_method_144_code 2 ((some FieldType.long)) ∈ aGT := wd_c8 209 rfl rfl
theorem wd_2011 : Cond.methodLink "BottledPostModel" 482 ⟨"BottledPostModel", "countOrders", "(III)J"⟩ ∈ aGT := wd_c8 210 rfl rfl
theorem wd_2013 : Cond.instanceMethod ⟨"BottledPostModel", "countOrders", "(III)J"⟩ ∈ aGT := wd_c8 212 rfl rfl
theorem wd_2014 : Cond.code ⟨"BottledPostModel", "countOrders", "(III)J"⟩ prog_15_method_143_code 8 ((some FieldType.long)) ∈ aGT := wd_c8 213 rfl rfl
theorem wd_2015 : Cond.methodLink "BottledPostLaw" 170 ⟨"BottledPostModel", "sure", "(III)I"⟩ ∈ aGT := wd_c8 214 rfl rfl
theorem wd_2016 : Cond.instanceMethod ⟨"BottledPostModel", "sure", "(III)I"⟩ ∈ aGT := wd_c8 215 rfl rfl
theorem wd_2017 : Cond.selects "BottledPostModel" ⟨"BottledPostModel", "sure", "(III)I"⟩ ⟨"BottledPostModel", "sure", "(III)I"⟩ ∈ aGT := wd_c8 216 rfl rfl
theorem wd_2018 : Cond.code ⟨"BottledPostModel", "sure", "(III)I"⟩ prog_15_method_145_code 8 ((some FieldType.int)) ∈ aGT := wd_c8 217 rfl rfl
theorem wd_2019 : Cond.methodLink "BottledPostLaw" 174 ⟨"BottledPostModel", "said", "(II)I"⟩ ∈ aGT := wd_c8 218 rfl rfl
theorem wd_2020 : Cond.instanceMethod ⟨"BottledPostModel", "said", "(II)I"⟩ ∈ aGT := wd_c8 219 rfl rfl
theorem wd_2021 : Cond.selects "BottledPostModel" ⟨"BottledPostModel", "said", "(II)I"⟩ ⟨"BottledPostModel", "said", "(II)I"⟩ ∈ aGT := wd_c8 220 rfl rfl
theorem wd_2022 : Cond.code ⟨"BottledPostModel", "said", "(II)I"⟩ prog_15_method_146_code 3 ((some FieldType.int)) ∈ aGT := wd_c8 221 rfl rfl
theorem wd_2023 : Cond.methodLink "BottledPostLaw" 178 ⟨"BottledPostModel", "whose", "()I"⟩ ∈ aGT := wd_c8 222 rfl rfl
theorem wd_2024 : Cond.instanceMethod ⟨"BottledPostModel", "whose", "()I"⟩ ∈ aGT := wd_c8 223 rfl rfl
theorem wd_2025 : Cond.selects "BottledPostModel" ⟨"BottledPostModel", "whose", "()I"⟩ ⟨"BottledPostModel", "whose", "()I"⟩ ∈ aGT := wd_c8 224 rfl rfl
theorem wd_2026 : Cond.code ⟨"BottledPostModel", "whose", "()I"⟩ prog_15_method_147_code 5 ((some FieldType.int)) ∈ aGT := wd_c8 225 rfl rfl
theorem wd_2027 : Cond.methodLink "BottledPostLaw" 202 ⟨"BottledPostModel", "image", "()I"⟩ ∈ aGT := wd_c8 226 rfl rfl
theorem wd_2028 : Cond.instanceMethod ⟨"BottledPostModel", "image", "()I"⟩ ∈ aGT := wd_c8 227 rfl rfl
theorem wd_2029 : Cond.selects "BottledPostModel" ⟨"BottledPostModel", "image", "()I"⟩ ⟨"BottledPostModel", "image", "()I"⟩ ∈ aGT := wd_c8 228 rfl rfl
theorem wd_2030 : Cond.code ⟨"BottledPostModel", "image", "()I"⟩ prog_15_method_148_code 1 ((some FieldType.int)) ∈ aGT := wd_c8 229 rfl rfl
theorem wd_2031 : Cond.methodLink "BottledPostLaw" 206 ⟨"BottledPostModel", "back", "()I"⟩ ∈ aGT := wd_c8 230 rfl rfl
theorem wd_2032 : Cond.instanceMethod ⟨"BottledPostModel", "back", "()I"⟩ ∈ aGT := wd_c8 231 rfl rfl
theorem wd_2033 : Cond.selects "BottledPostModel" ⟨"BottledPostModel", "back", "()I"⟩ ⟨"BottledPostModel", "back", "()I"⟩ ∈ aGT := wd_c8 232 rfl rfl
theorem wd_2034 : Cond.code ⟨"BottledPostModel", "back", "()I"⟩ prog_15_method_149_code 1 ((some FieldType.int)) ∈ aGT := wd_c8 233 rfl rfl
theorem wd_2035 : Cond.methodLink "BottledPostLaw" 210 ⟨"BottledPostModel", "about", "(I)I"⟩ ∈ aGT := wd_c8 234 rfl rfl
theorem wd_2036 : Cond.instanceMethod ⟨"BottledPostModel", "about", "(I)I"⟩ ∈ aGT := wd_c8 235 rfl rfl
theorem wd_2037 : Cond.selects "BottledPostModel" ⟨"BottledPostModel", "about", "(I)I"⟩ ⟨"BottledPostModel", "about", "(I)I"⟩ ∈ aGT := wd_c8 236 rfl rfl
theorem wd_2038 : Cond.code ⟨"BottledPostModel", "about", "(I)I"⟩ prog_15_method_150_code 2 ((some FieldType.int)) ∈ aGT := wd_c8 237 rfl rfl
theorem wd_2039 : Cond.fieldLink "java/lang/String" 9 "java/lang/String" "value" "[B" ∈ aGT := wd_c8 238 rfl rfl
theorem wd_2040 : Cond.fieldLink "java/lang/String" 15 "java/lang/String" "coder" "B" ∈ aGT := wd_c8 239 rfl rfl
abbrev mX0_init : aM := (yX0_init, cX0_init, 1, none)
theorem fx_X0_init : aFix mX0_init 0 := ⟨by decide +kernel, wd_192, Nat.le_of_ble_eq_true rfl, wd_126, ⟨by decide +kernel, by decide +kernel⟩, by decide +kernel⟩
abbrev mX0_copyFrom : aM := (yX0_copyFrom, cX0_copyFrom, 2, none)
theorem fx_X0_copyFrom : aFix mX0_copyFrom 1 := ⟨by decide +kernel, wd_809, Nat.le_of_ble_eq_true rfl, wd_126, ⟨by decide +kernel, by decide +kernel⟩, by decide +kernel⟩
abbrev mX0_addLine : aM := (yX0_addLine, cX0_addLine, 6, none)
theorem fx_X0_addLine : aFix mX0_addLine 4 := ⟨by decide +kernel, wd_852, Nat.le_of_ble_eq_true rfl, wd_126, ⟨by decide +kernel, by decide +kernel⟩, by decide +kernel⟩
abbrev mX0_part : aM := (yX0_part, cX0_part, 3, some .int)
theorem fx_X0_part : aFix mX0_part 2 := ⟨by decide +kernel, wd_1022, Nat.le_of_ble_eq_true rfl, wd_126, ⟨by decide +kernel, by decide +kernel⟩, by decide +kernel⟩
abbrev mX0_countOf : aM := (yX0_countOf, cX0_countOf, 4, some .int)
theorem fx_X0_countOf : aFix mX0_countOf 1 := ⟨by decide +kernel, wd_1053, Nat.le_of_ble_eq_true rfl, wd_126, ⟨by decide +kernel, by decide +kernel⟩, by decide +kernel⟩
abbrev mX1_init : aM := (yX1_init, cX1_init, 1, none)
theorem fx_X1_init : aFix mX1_init 0 := ⟨by decide +kernel, wd_353, Nat.le_of_ble_eq_true rfl, wd_130, ⟨by decide +kernel, by decide +kernel⟩, by decide +kernel⟩
abbrev mX1_readAll : aM := (yX1_readAll, cX1_readAll, 3, some (.object "BottledPost$Text"))
theorem fx_X1_readAll : aFix mX1_readAll 1 := ⟨by decide +kernel, wd_538, Nat.le_of_ble_eq_true rfl, wd_130, ⟨by decide +kernel, by decide +kernel⟩, by decide +kernel⟩
abbrev mX1_refuse : aM := (yX1_refuse, cX1_refuse, 3, none)
theorem fx_X1_refuse : aFix mX1_refuse 2 := ⟨by decide +kernel, wd_631, Nat.le_of_ble_eq_true rfl, wd_130, ⟨by decide +kernel, by decide +kernel⟩, by decide +kernel⟩
abbrev mX1_sees : aM := (yX1_sees, cX1_sees, 3, some .boolean)
theorem fx_X1_sees : aFix mX1_sees 2 := ⟨by decide +kernel, wd_683, Nat.le_of_ble_eq_true rfl, wd_130, ⟨by decide +kernel, by decide +kernel⟩, by decide +kernel⟩
abbrev mX1_want : aM := (yX1_want, cX1_want, 3, none)
theorem fx_X1_want : aFix mX1_want 2 := ⟨by decide +kernel, wd_679, Nat.le_of_ble_eq_true rfl, wd_130, ⟨by decide +kernel, by decide +kernel⟩, by decide +kernel⟩
abbrev mX1_canBegin : aM := (yX1_canBegin, cX1_canBegin, 3, some .boolean)
theorem fx_X1_canBegin : aFix mX1_canBegin 1 := ⟨by decide +kernel, wd_627, Nat.le_of_ble_eq_true rfl, wd_130, ⟨by decide +kernel, by decide +kernel⟩, by decide +kernel⟩
abbrev mX1_readClause : aM := (yX1_readClause, cX1_readClause, 3, none)
theorem fx_X1_readClause : aFix mX1_readClause 1 := ⟨by decide +kernel, wd_635, Nat.le_of_ble_eq_true rfl, wd_130, ⟨by decide +kernel, by decide +kernel⟩, by decide +kernel⟩
abbrev mX1_endLaw : aM := (yX1_endLaw, cX1_endLaw, 2, none)
theorem fx_X1_endLaw : aFix mX1_endLaw 0 := ⟨by decide +kernel, wd_715, Nat.le_of_ble_eq_true rfl, wd_130, ⟨by decide +kernel, by decide +kernel⟩, by decide +kernel⟩
abbrev mX1_notePart : aM := (yX1_notePart, cX1_notePart, 3, none)
theorem fx_X1_notePart : aFix mX1_notePart 2 := ⟨by decide +kernel, wd_639, Nat.le_of_ble_eq_true rfl, wd_130, ⟨by decide +kernel, by decide +kernel⟩, by decide +kernel⟩
abbrev mX1_readNumbers : aM := (yX1_readNumbers, cX1_readNumbers, 3, none)
theorem fx_X1_readNumbers : aFix mX1_readNumbers 2 := ⟨by decide +kernel, wd_736, Nat.le_of_ble_eq_true rfl, wd_130, ⟨by decide +kernel, by decide +kernel⟩, by decide +kernel⟩
abbrev mX1_readNumber : aM := (yX1_readNumber, cX1_readNumber, 5, none)
theorem fx_X1_readNumber : aFix mX1_readNumber 4 := ⟨by decide +kernel, wd_740, Nat.le_of_ble_eq_true rfl, wd_130, ⟨by decide +kernel, by decide +kernel⟩, by decide +kernel⟩
abbrev mX1_addSign : aM := (yX1_addSign, cX1_addSign, 4, some .int)
theorem fx_X1_addSign : aFix mX1_addSign 2 := ⟨by decide +kernel, wd_661, Nat.le_of_ble_eq_true rfl, wd_130, ⟨by decide +kernel, by decide +kernel⟩, by decide +kernel⟩
abbrev mX1_leadHere : aM := (yX1_leadHere, cX1_leadHere, 3, none)
theorem fx_X1_leadHere : aFix mX1_leadHere 2 := ⟨by decide +kernel, wd_711, Nat.le_of_ble_eq_true rfl, wd_130, ⟨by decide +kernel, by decide +kernel⟩, by decide +kernel⟩
abbrev mX1_readSum : aM := (yX1_readSum, cX1_readSum, 4, none)
theorem fx_X1_readSum : aFix mX1_readSum 1 := ⟨by decide +kernel, wd_645, Nat.le_of_ble_eq_true rfl, wd_130, ⟨by decide +kernel, by decide +kernel⟩, by decide +kernel⟩
abbrev mX1_readProduct : aM := (yX1_readProduct, cX1_readProduct, 4, none)
theorem fx_X1_readProduct : aFix mX1_readProduct 1 := ⟨by decide +kernel, wd_649, Nat.le_of_ble_eq_true rfl, wd_130, ⟨by decide +kernel, by decide +kernel⟩, by decide +kernel⟩
abbrev mX1_readOne : aM := (yX1_readOne, cX1_readOne, 2, none)
theorem fx_X1_readOne : aFix mX1_readOne 1 := ⟨by decide +kernel, wd_653, Nat.le_of_ble_eq_true rfl, wd_130, ⟨by decide +kernel, by decide +kernel⟩, by decide +kernel⟩
abbrev mX1_isOpener : aM := (yX1_isOpener, cX1_isOpener, 1, some .boolean)
theorem fx_X1_isOpener : aFix mX1_isOpener 1 := ⟨by decide +kernel, wd_671, Nat.le_of_ble_eq_true rfl, wd_130, ⟨by decide +kernel, by decide +kernel⟩, by decide +kernel⟩
abbrev mX1_readPlainNumber : aM := (yX1_readPlainNumber, cX1_readPlainNumber, 2, none)
theorem fx_X1_readPlainNumber : aFix mX1_readPlainNumber 1 := ⟨by decide +kernel, wd_657, Nat.le_of_ble_eq_true rfl, wd_130, ⟨by decide +kernel, by decide +kernel⟩, by decide +kernel⟩
abbrev mX1_readName : aM := (yX1_readName, cX1_readName, 2, none)
theorem fx_X1_readName : aFix mX1_readName 1 := ⟨by decide +kernel, wd_668, Nat.le_of_ble_eq_true rfl, wd_130, ⟨by decide +kernel, by decide +kernel⟩, by decide +kernel⟩
abbrev mX1_readOpened : aM := (yX1_readOpened, cX1_readOpened, 3, none)
theorem fx_X1_readOpened : aFix mX1_readOpened 1 := ⟨by decide +kernel, wd_675, Nat.le_of_ble_eq_true rfl, wd_130, ⟨by decide +kernel, by decide +kernel⟩, by decide +kernel⟩
abbrev mX1_readIf : aM := (yX1_readIf, cX1_readIf, 4, none)
theorem fx_X1_readIf : aFix mX1_readIf 1 := ⟨by decide +kernel, wd_687, Nat.le_of_ble_eq_true rfl, wd_130, ⟨by decide +kernel, by decide +kernel⟩, by decide +kernel⟩
abbrev mX1_readEither : aM := (yX1_readEither, cX1_readEither, 3, none)
theorem fx_X1_readEither : aFix mX1_readEither 1 := ⟨by decide +kernel, wd_691, Nat.le_of_ble_eq_true rfl, wd_130, ⟨by decide +kernel, by decide +kernel⟩, by decide +kernel⟩
abbrev mX1_readBoth : aM := (yX1_readBoth, cX1_readBoth, 3, none)
theorem fx_X1_readBoth : aFix mX1_readBoth 1 := ⟨by decide +kernel, wd_695, Nat.le_of_ble_eq_true rfl, wd_130, ⟨by decide +kernel, by decide +kernel⟩, by decide +kernel⟩
abbrev mX1_readAsk : aM := (yX1_readAsk, cX1_readAsk, 2, none)
theorem fx_X1_readAsk : aFix mX1_readAsk 1 := ⟨by decide +kernel, wd_699, Nat.le_of_ble_eq_true rfl, wd_130, ⟨by decide +kernel, by decide +kernel⟩, by decide +kernel⟩
abbrev mX1_readDenied : aM := (yX1_readDenied, cX1_readDenied, 2, none)
theorem fx_X1_readDenied : aFix mX1_readDenied 1 := ⟨by decide +kernel, wd_707, Nat.le_of_ble_eq_true rfl, wd_130, ⟨by decide +kernel, by decide +kernel⟩, by decide +kernel⟩
abbrev mX1_readComparison : aM := (yX1_readComparison, cX1_readComparison, 3, none)
theorem fx_X1_readComparison : aFix mX1_readComparison 1 := ⟨by decide +kernel, wd_703, Nat.le_of_ble_eq_true rfl, wd_130, ⟨by decide +kernel, by decide +kernel⟩, by decide +kernel⟩
abbrev mX2_init : aM := (yX2_init, cX2_init, 1, none)
theorem fx_X2_init : aFix mX2_init 0 := ⟨by decide +kernel, wd_392, Nat.le_of_ble_eq_true rfl, wd_131, ⟨by decide +kernel, by decide +kernel⟩, by decide +kernel⟩
abbrev mX2_sign : aM := (yX2_sign, cX2_sign, 2, some .int)
theorem fx_X2_sign : aFix mX2_sign 2 := ⟨by decide +kernel, wd_664, Nat.le_of_ble_eq_true rfl, wd_131, ⟨by decide +kernel, by decide +kernel⟩, by decide +kernel⟩
abbrev mX2_passTide : aM := (yX2_passTide, cX2_passTide, 8, some .int)
theorem fx_X2_passTide : aFix mX2_passTide 3 := ⟨by decide +kernel, wd_882, Nat.le_of_ble_eq_true rfl, wd_131, ⟨by decide +kernel, by decide +kernel⟩, by decide +kernel⟩
abbrev mX2_comesOf : aM := (yX2_comesOf, cX2_comesOf, 5, some .int)
theorem fx_X2_comesOf : aFix mX2_comesOf 4 := ⟨by decide +kernel, wd_948, Nat.le_of_ble_eq_true rfl, wd_131, ⟨by decide +kernel, by decide +kernel⟩, by decide +kernel⟩
abbrev mX2_wearsOf : aM := (yX2_wearsOf, cX2_wearsOf, 5, some .int)
theorem fx_X2_wearsOf : aFix mX2_wearsOf 4 := ⟨by decide +kernel, wd_895, Nat.le_of_ble_eq_true rfl, wd_131, ⟨by decide +kernel, by decide +kernel⟩, by decide +kernel⟩
abbrev mX2_workOff : aM := (yX2_workOff, cX2_workOff, 9, some .int)
theorem fx_X2_workOff : aFix mX2_workOff 4 := ⟨by decide +kernel, wd_899, Nat.le_of_ble_eq_true rfl, wd_131, ⟨by decide +kernel, by decide +kernel⟩, by decide +kernel⟩
abbrev mX2_push : aM := (yX2_push, cX2_push, 2, none)
theorem fx_X2_push : aFix mX2_push 1 := ⟨by decide +kernel, wd_908, Nat.le_of_ble_eq_true rfl, wd_131, ⟨by decide +kernel, by decide +kernel⟩, by decide +kernel⟩
abbrev mX2_pop : aM := (yX2_pop, cX2_pop, 1, some .int)
theorem fx_X2_pop : aFix mX2_pop 0 := ⟨by decide +kernel, wd_904, Nat.le_of_ble_eq_true rfl, wd_131, ⟨by decide +kernel, by decide +kernel⟩, by decide +kernel⟩
abbrev mX2_named : aM := (yX2_named, cX2_named, 4, some .int)
theorem fx_X2_named : aFix mX2_named 4 := ⟨by decide +kernel, wd_911, Nat.le_of_ble_eq_true rfl, wd_131, ⟨by decide +kernel, by decide +kernel⟩, by decide +kernel⟩
abbrev mX2_joined : aM := (yX2_joined, cX2_joined, 3, some .int)
theorem fx_X2_joined : aFix mX2_joined 3 := ⟨by decide +kernel, wd_924, Nat.le_of_ble_eq_true rfl, wd_131, ⟨by decide +kernel, by decide +kernel⟩, by decide +kernel⟩
abbrev mX2_limited : aM := (yX2_limited, cX2_limited, 2, some .int)
theorem fx_X2_limited : aFix mX2_limited 1 := ⟨by decide +kernel, wd_927, Nat.le_of_ble_eq_true rfl, wd_131, ⟨by decide +kernel, by decide +kernel⟩, by decide +kernel⟩
abbrev mX2_compares : aM := (yX2_compares, cX2_compares, 3, some .boolean)
theorem fx_X2_compares : aFix mX2_compares 3 := ⟨by decide +kernel, wd_938, Nat.le_of_ble_eq_true rfl, wd_131, ⟨by decide +kernel, by decide +kernel⟩, by decide +kernel⟩
abbrev mX3_init : aM := (yX3_init, cX3_init, 1, none)
theorem fx_X3_init : aFix mX3_init 0 := ⟨by decide +kernel, wd_435, Nat.le_of_ble_eq_true rfl, wd_133, ⟨by decide +kernel, by decide +kernel⟩, by decide +kernel⟩
abbrev mX3_isWord : aM := (yX3_isWord, cX3_isWord, 4, some .boolean)
theorem fx_X3_isWord : aFix mX3_isWord 1 := ⟨by decide +kernel, wd_1163, Nat.le_of_ble_eq_true rfl, wd_133, ⟨by decide +kernel, by decide +kernel⟩, by decide +kernel⟩
abbrev mX3_tenTo : aM := (yX3_tenTo, cX3_tenTo, 3, some .int)
theorem fx_X3_tenTo : aFix mX3_tenTo 1 := ⟨by decide +kernel, wd_1196, Nat.le_of_ble_eq_true rfl, wd_133, ⟨by decide +kernel, by decide +kernel⟩, by decide +kernel⟩
abbrev mX3_withoutLast : aM := (yX3_withoutLast, cX3_withoutLast, 3, some .int)
theorem fx_X3_withoutLast : aFix mX3_withoutLast 2 := ⟨by decide +kernel, wd_1193, Nat.le_of_ble_eq_true rfl, wd_133, ⟨by decide +kernel, by decide +kernel⟩, by decide +kernel⟩
abbrev mX3_lastOf : aM := (yX3_lastOf, cX3_lastOf, 3, some .int)
theorem fx_X3_lastOf : aFix mX3_lastOf 2 := ⟨by decide +kernel, wd_1213, Nat.le_of_ble_eq_true rfl, wd_133, ⟨by decide +kernel, by decide +kernel⟩, by decide +kernel⟩
abbrev mX3_digitsOf : aM := (yX3_digitsOf, cX3_digitsOf, 3, some .int)
theorem fx_X3_digitsOf : aFix mX3_digitsOf 1 := ⟨by decide +kernel, wd_1190, Nat.le_of_ble_eq_true rfl, wd_133, ⟨by decide +kernel, by decide +kernel⟩, by decide +kernel⟩
abbrev mX3_startsWith : aM := (yX3_startsWith, cX3_startsWith, 3, some .boolean)
theorem fx_X3_startsWith : aFix mX3_startsWith 2 := ⟨by decide +kernel, wd_1187, Nat.le_of_ble_eq_true rfl, wd_133, ⟨by decide +kernel, by decide +kernel⟩, by decide +kernel⟩
abbrev mX3_shortestUnclear : aM := (yX3_shortestUnclear, cX3_shortestUnclear, 6, some .int)
theorem fx_X3_shortestUnclear : aFix mX3_shortestUnclear 1 := ⟨by decide +kernel, wd_1180, Nat.le_of_ble_eq_true rfl, wd_133, ⟨by decide +kernel, by decide +kernel⟩, by decide +kernel⟩
abbrev mX3_passOver : aM := (yX3_passOver, cX3_passOver, 6, none)
theorem fx_X3_passOver : aFix mX3_passOver 1 := ⟨by decide +kernel, wd_1206, Nat.le_of_ble_eq_true rfl, wd_133, ⟨by decide +kernel, by decide +kernel⟩, by decide +kernel⟩
abbrev mX3_putBehind : aM := (yX3_putBehind, cX3_putBehind, 10, none)
theorem fx_X3_putBehind : aFix mX3_putBehind 5 := ⟨by decide +kernel, wd_1210, Nat.le_of_ble_eq_true rfl, wd_133, ⟨by decide +kernel, by decide +kernel⟩, by decide +kernel⟩
abbrev mX3_come : aM := (yX3_come, cX3_come, 5, none)
theorem fx_X3_come : aFix mX3_come 3 := ⟨by decide +kernel, wd_1200, Nat.le_of_ble_eq_true rfl, wd_133, ⟨by decide +kernel, by decide +kernel⟩, by decide +kernel⟩
abbrev mX3_countReadings : aM := (yX3_countReadings, cX3_countReadings, 9, some .long)
theorem fx_X3_countReadings : aFix mX3_countReadings 2 := ⟨by decide +kernel, wd_1223, Nat.le_of_ble_eq_true rfl, wd_133, ⟨by decide +kernel, by decide +kernel⟩, by decide +kernel⟩
abbrev mX3_fewestSorters : aM := (yX3_fewestSorters, cX3_fewestSorters, 4, some .int)
theorem fx_X3_fewestSorters : aFix mX3_fewestSorters 2 := ⟨by decide +kernel, wd_1247, Nat.le_of_ble_eq_true rfl, wd_133, ⟨by decide +kernel, by decide +kernel⟩, by decide +kernel⟩
abbrev mX3_sorterOf : aM := (yX3_sorterOf, cX3_sorterOf, 2, some .int)
theorem fx_X3_sorterOf : aFix mX3_sorterOf 1 := ⟨by decide +kernel, wd_1262, Nat.le_of_ble_eq_true rfl, wd_133, ⟨by decide +kernel, by decide +kernel⟩, by decide +kernel⟩
abbrev mX3_share : aM := (yX3_share, cX3_share, 6, some .boolean)
theorem fx_X3_share : aFix mX3_share 5 := ⟨by decide +kernel, wd_1250, Nat.le_of_ble_eq_true rfl, wd_133, ⟨by decide +kernel, by decide +kernel⟩, by decide +kernel⟩
abbrev mX3_mayRead : aM := (yX3_mayRead, cX3_mayRead, 5, some .boolean)
theorem fx_X3_mayRead : aFix mX3_mayRead 4 := ⟨by decide +kernel, wd_1253, Nat.le_of_ble_eq_true rfl, wd_133, ⟨by decide +kernel, by decide +kernel⟩, by decide +kernel⟩
abbrev mX3_countOrders : aM := (yX3_countOrders, cX3_countOrders, 10, some .long)
theorem fx_X3_countOrders : aFix mX3_countOrders 4 := ⟨by decide +kernel, wd_1282, Nat.le_of_ble_eq_true rfl, wd_133, ⟨by decide +kernel, by decide +kernel⟩, by decide +kernel⟩
abbrev mX4_init : aM := (yX4_init, cX4_init, 1, none)
theorem fx_X4_init : aFix mX4_init 0 := ⟨by decide +kernel, wd_405, Nat.le_of_ble_eq_true rfl, wd_132, ⟨by decide +kernel, by decide +kernel⟩, by decide +kernel⟩
abbrev mX4_meet : aM := (yX4_meet, cX4_meet, 11, some .int)
theorem fx_X4_meet : aFix mX4_meet 5 := ⟨by decide +kernel, wd_1084, Nat.le_of_ble_eq_true rfl, wd_132, ⟨by decide +kernel, by decide +kernel⟩, by decide +kernel⟩
abbrev mX4_relayTime : aM := (yX4_relayTime, cX4_relayTime, 7, some .int)
theorem fx_X4_relayTime : aFix mX4_relayTime 4 := ⟨by decide +kernel, wd_1095, Nat.le_of_ble_eq_true rfl, wd_132, ⟨by decide +kernel, by decide +kernel⟩, by decide +kernel⟩
abbrev mX4_bestBetween : aM := (yX4_bestBetween, cX4_bestBetween, 2, some .int)
theorem fx_X4_bestBetween : aFix mX4_bestBetween 1 := ⟨by decide +kernel, wd_1114, Nat.le_of_ble_eq_true rfl, wd_132, ⟨by decide +kernel, by decide +kernel⟩, by decide +kernel⟩
abbrev mX4_goOn : aM := (yX4_goOn, cX4_goOn, 8, none)
theorem fx_X4_goOn : aFix mX4_goOn 6 := ⟨by decide +kernel, wd_1099, Nat.le_of_ble_eq_true rfl, wd_132, ⟨by decide +kernel, by decide +kernel⟩, by decide +kernel⟩
abbrev mX4_goBy : aM := (yX4_goBy, cX4_goBy, 9, none)
theorem fx_X4_goBy : aFix mX4_goBy 7 := ⟨by decide +kernel, wd_1109, Nat.le_of_ble_eq_true rfl, wd_132, ⟨by decide +kernel, by decide +kernel⟩, by decide +kernel⟩
abbrev mX4_arrive : aM := (yX4_arrive, cX4_arrive, 6, none)
theorem fx_X4_arrive : aFix mX4_arrive 4 := ⟨by decide +kernel, wd_1103, Nat.le_of_ble_eq_true rfl, wd_132, ⟨by decide +kernel, by decide +kernel⟩, by decide +kernel⟩
abbrev mX5_init : aM := (yX5_init, cX5_init, 1, none)
theorem fx_X5_init : aFix mX5_init 0 := ⟨by decide +kernel, wd_245, Nat.le_of_ble_eq_true rfl, wd_128, ⟨by decide +kernel, by decide +kernel⟩, by decide +kernel⟩
abbrev mX5_copyFrom : aM := (yX5_copyFrom, cX5_copyFrom, 2, none)
theorem fx_X5_copyFrom : aFix mX5_copyFrom 1 := ⟨by decide +kernel, wd_1337, Nat.le_of_ble_eq_true rfl, wd_128, ⟨by decide +kernel, by decide +kernel⟩, by decide +kernel⟩
abbrev mX5_forgetFound : aM := (yX5_forgetFound, cX5_forgetFound, 1, some .int)
theorem fx_X5_forgetFound : aFix mX5_forgetFound 0 := ⟨by decide +kernel, wd_1123, Nat.le_of_ble_eq_true rfl, wd_128, ⟨by decide +kernel, by decide +kernel⟩, by decide +kernel⟩
abbrev mX5_addFound : aM := (yX5_addFound, cX5_addFound, 3, some .int)
theorem fx_X5_addFound : aFix mX5_addFound 2 := ⟨by decide +kernel, wd_1127, Nat.le_of_ble_eq_true rfl, wd_128, ⟨by decide +kernel, by decide +kernel⟩, by decide +kernel⟩
abbrev mX5_allFoundFrom : aM := (yX5_allFoundFrom, cX5_allFoundFrom, 5, some .boolean)
theorem fx_X5_allFoundFrom : aFix mX5_allFoundFrom 3 := ⟨by decide +kernel, wd_1136, Nat.le_of_ble_eq_true rfl, wd_128, ⟨by decide +kernel, by decide +kernel⟩, by decide +kernel⟩
abbrev mX5_forgetCodes : aM := (yX5_forgetCodes, cX5_forgetCodes, 1, some .int)
theorem fx_X5_forgetCodes : aFix mX5_forgetCodes 0 := ⟨by decide +kernel, wd_1159, Nat.le_of_ble_eq_true rfl, wd_128, ⟨by decide +kernel, by decide +kernel⟩, by decide +kernel⟩
abbrev mX5_addCode : aM := (yX5_addCode, cX5_addCode, 3, some .int)
theorem fx_X5_addCode : aFix mX5_addCode 1 := ⟨by decide +kernel, wd_1168, Nat.le_of_ble_eq_true rfl, wd_128, ⟨by decide +kernel, by decide +kernel⟩, by decide +kernel⟩
abbrev mX5_word : aM := (yX5_word, cX5_word, 2, some .int)
theorem fx_X5_word : aFix mX5_word 1 := ⟨by decide +kernel, wd_1172, Nat.le_of_ble_eq_true rfl, wd_128, ⟨by decide +kernel, by decide +kernel⟩, by decide +kernel⟩
abbrev mX5_addHalves : aM := (yX5_addHalves, cX5_addHalves, 3, some .boolean)
theorem fx_X5_addHalves : aFix mX5_addHalves 2 := ⟨by decide +kernel, wd_1231, Nat.le_of_ble_eq_true rfl, wd_128, ⟨by decide +kernel, by decide +kernel⟩, by decide +kernel⟩
abbrev mX5_unlikeOf : aM := (yX5_unlikeOf, cX5_unlikeOf, 2, some .int)
theorem fx_X5_unlikeOf : aFix mX5_unlikeOf 1 := ⟨by decide +kernel, wd_1239, Nat.le_of_ble_eq_true rfl, wd_128, ⟨by decide +kernel, by decide +kernel⟩, by decide +kernel⟩
abbrev mX5_addWrites : aM := (yX5_addWrites, cX5_addWrites, 3, some .boolean)
theorem fx_X5_addWrites : aFix mX5_addWrites 2 := ⟨by decide +kernel, wd_1270, Nat.le_of_ble_eq_true rfl, wd_128, ⟨by decide +kernel, by decide +kernel⟩, by decide +kernel⟩
abbrev mX5_earlierThan : aM := (yX5_earlierThan, cX5_earlierThan, 2, some .int)
theorem fx_X5_earlierThan : aFix mX5_earlierThan 1 := ⟨by decide +kernel, wd_1274, Nat.le_of_ble_eq_true rfl, wd_128, ⟨by decide +kernel, by decide +kernel⟩, by decide +kernel⟩
abbrev mX5_areUnlikeLetters : aM := (yX5_areUnlikeLetters, cX5_areUnlikeLetters, 2, some .boolean)
theorem fx_X5_areUnlikeLetters : aFix mX5_areUnlikeLetters 2 := ⟨by decide +kernel, wd_1234, Nat.le_of_ble_eq_true rfl, wd_128, ⟨by decide +kernel, by decide +kernel⟩, by decide +kernel⟩
abbrev mX5_forgetSaid : aM := (yX5_forgetSaid, cX5_forgetSaid, 1, some .int)
theorem fx_X5_forgetSaid : aFix mX5_forgetSaid 0 := ⟨by decide +kernel, wd_1295, Nat.le_of_ble_eq_true rfl, wd_128, ⟨by decide +kernel, by decide +kernel⟩, by decide +kernel⟩
abbrev mX5_addSaid : aM := (yX5_addSaid, cX5_addSaid, 3, some .int)
theorem fx_X5_addSaid : aFix mX5_addSaid 2 := ⟨by decide +kernel, wd_1299, Nat.le_of_ble_eq_true rfl, wd_128, ⟨by decide +kernel, by decide +kernel⟩, by decide +kernel⟩
abbrev mX5_saidBottle : aM := (yX5_saidBottle, cX5_saidBottle, 2, some .int)
theorem fx_X5_saidBottle : aFix mX5_saidBottle 1 := ⟨by decide +kernel, wd_1311, Nat.le_of_ble_eq_true rfl, wd_128, ⟨by decide +kernel, by decide +kernel⟩, by decide +kernel⟩
abbrev mX5_saidComes : aM := (yX5_saidComes, cX5_saidComes, 2, some .int)
theorem fx_X5_saidComes : aFix mX5_saidComes 1 := ⟨by decide +kernel, wd_1315, Nat.le_of_ble_eq_true rfl, wd_128, ⟨by decide +kernel, by decide +kernel⟩, by decide +kernel⟩
abbrev mX6_init : aM := (yX6_init, cX6_init, 1, none)
theorem fx_X6_init : aFix mX6_init 0 := ⟨by decide +kernel, wd_186, Nat.le_of_ble_eq_true rfl, wd_125, ⟨by decide +kernel, by decide +kernel⟩, by decide +kernel⟩
abbrev mX6_copyFrom : aM := (yX6_copyFrom, cX6_copyFrom, 2, none)
theorem fx_X6_copyFrom : aFix mX6_copyFrom 1 := ⟨by decide +kernel, wd_800, Nat.le_of_ble_eq_true rfl, wd_125, ⟨by decide +kernel, by decide +kernel⟩, by decide +kernel⟩
abbrev mX6_get : aM := (yX6_get, cX6_get, 4, some .int)
theorem fx_X6_get : aFix mX6_get 2 := ⟨by decide +kernel, wd_842, Nat.le_of_ble_eq_true rfl, wd_125, ⟨by decide +kernel, by decide +kernel⟩, by decide +kernel⟩
abbrev mX6_set : aM := (yX6_set, cX6_set, 5, none)
theorem fx_X6_set : aFix mX6_set 3 := ⟨by decide +kernel, wd_822, Nat.le_of_ble_eq_true rfl, wd_125, ⟨by decide +kernel, by decide +kernel⟩, by decide +kernel⟩
abbrev mX6_hasBottle : aM := (yX6_hasBottle, cX6_hasBottle, 2, some .boolean)
theorem fx_X6_hasBottle : aFix mX6_hasBottle 1 := ⟨by decide +kernel, wd_838, Nat.le_of_ble_eq_true rfl, wd_125, ⟨by decide +kernel, by decide +kernel⟩, by decide +kernel⟩
abbrev mX6_isAfloat : aM := (yX6_isAfloat, cX6_isAfloat, 2, some .boolean)
theorem fx_X6_isAfloat : aFix mX6_isAfloat 1 := ⟨by decide +kernel, wd_834, Nat.le_of_ble_eq_true rfl, wd_125, ⟨by decide +kernel, by decide +kernel⟩, by decide +kernel⟩
abbrev mX6_addBottle : aM := (yX6_addBottle, cX6_addBottle, 6, some .int)
theorem fx_X6_addBottle : aFix mX6_addBottle 4 := ⟨by decide +kernel, wd_818, Nat.le_of_ble_eq_true rfl, wd_125, ⟨by decide +kernel, by decide +kernel⟩, by decide +kernel⟩
abbrev mX6_draw : aM := (yX6_draw, cX6_draw, 2, some .int)
theorem fx_X6_draw : aFix mX6_draw 0 := ⟨by decide +kernel, wd_944, Nat.le_of_ble_eq_true rfl, wd_125, ⟨by decide +kernel, by decide +kernel⟩, by decide +kernel⟩
abbrev mX6_writeDown : aM := (yX6_writeDown, cX6_writeDown, 3, none)
theorem fx_X6_writeDown : aFix mX6_writeDown 2 := ⟨by decide +kernel, wd_848, Nat.le_of_ble_eq_true rfl, wd_125, ⟨by decide +kernel, by decide +kernel⟩, by decide +kernel⟩
abbrev mX6_countComeTo : aM := (yX6_countComeTo, cX6_countComeTo, 4, some .int)
theorem fx_X6_countComeTo : aFix mX6_countComeTo 1 := ⟨by decide +kernel, wd_994, Nat.le_of_ble_eq_true rfl, wd_125, ⟨by decide +kernel, by decide +kernel⟩, by decide +kernel⟩
abbrev mX6_countAfloatAt : aM := (yX6_countAfloatAt, cX6_countAfloatAt, 5, some .int)
theorem fx_X6_countAfloatAt : aFix mX6_countAfloatAt 1 := ⟨by decide +kernel, wd_919, Nat.le_of_ble_eq_true rfl, wd_125, ⟨by decide +kernel, by decide +kernel⟩, by decide +kernel⟩
abbrev mX6_bottlesThatAre : aM := (yX6_bottlesThatAre, cX6_bottlesThatAre, 4, some .int)
theorem fx_X6_bottlesThatAre : aFix mX6_bottlesThatAre 1 := ⟨by decide +kernel, wd_998, Nat.le_of_ble_eq_true rfl, wd_125, ⟨by decide +kernel, by decide +kernel⟩, by decide +kernel⟩
abbrev mX7_init : aM := (yX7_init, cX7_init, 2, none)
theorem fx_X7_init : aFix mX7_init 0 := ⟨by decide +kernel, wd_161, Nat.le_of_ble_eq_true rfl, wd_124, ⟨by decide +kernel, by decide +kernel⟩, by decide +kernel⟩
abbrev mX7_copyFrom : aM := (yX7_copyFrom, cX7_copyFrom, 2, none)
theorem fx_X7_copyFrom : aFix mX7_copyFrom 1 := ⟨by decide +kernel, wd_1327, Nat.le_of_ble_eq_true rfl, wd_124, ⟨by decide +kernel, by decide +kernel⟩, by decide +kernel⟩
abbrev mX7_addPerson : aM := (yX7_addPerson, cX7_addPerson, 3, some .int)
theorem fx_X7_addPerson : aFix mX7_addPerson 2 := ⟨by decide +kernel, wd_498, Nat.le_of_ble_eq_true rfl, wd_124, ⟨by decide +kernel, by decide +kernel⟩, by decide +kernel⟩
abbrev mX7_tellCurrent : aM := (yX7_tellCurrent, cX7_tellCurrent, 4, some .boolean)
theorem fx_X7_tellCurrent : aFix mX7_tellCurrent 3 := ⟨by decide +kernel, wd_513, Nat.le_of_ble_eq_true rfl, wd_124, ⟨by decide +kernel, by decide +kernel⟩, by decide +kernel⟩
abbrev mX7_hasPerson : aM := (yX7_hasPerson, cX7_hasPerson, 2, some .boolean)
theorem fx_X7_hasPerson : aFix mX7_hasPerson 1 := ⟨by decide +kernel, wd_784, Nat.le_of_ble_eq_true rfl, wd_124, ⟨by decide +kernel, by decide +kernel⟩, by decide +kernel⟩
abbrev mX7_placeOf : aM := (yX7_placeOf, cX7_placeOf, 2, some .int)
theorem fx_X7_placeOf : aFix mX7_placeOf 1 := ⟨by decide +kernel, wd_814, Nat.le_of_ble_eq_true rfl, wd_124, ⟨by decide +kernel, by decide +kernel⟩, by decide +kernel⟩
abbrev mX7_luckOf : aM := (yX7_luckOf, cX7_luckOf, 2, some .int)
theorem fx_X7_luckOf : aFix mX7_luckOf 1 := ⟨by decide +kernel, wd_915, Nat.le_of_ble_eq_true rfl, wd_124, ⟨by decide +kernel, by decide +kernel⟩, by decide +kernel⟩
abbrev mX7_isInhabited : aM := (yX7_isInhabited, cX7_isInhabited, 3, some .boolean)
theorem fx_X7_isInhabited : aFix mX7_isInhabited 1 := ⟨by decide +kernel, wd_1044, Nat.le_of_ble_eq_true rfl, wd_124, ⟨by decide +kernel, by decide +kernel⟩, by decide +kernel⟩
abbrev mX7_leadsTo : aM := (yX7_leadsTo, cX7_leadsTo, 4, some .int)
theorem fx_X7_leadsTo : aFix mX7_leadsTo 2 := ⟨by decide +kernel, wd_887, Nat.le_of_ble_eq_true rfl, wd_124, ⟨by decide +kernel, by decide +kernel⟩, by decide +kernel⟩
abbrev mX7_driftsTo : aM := (yX7_driftsTo, cX7_driftsTo, 6, some .int)
theorem fx_X7_driftsTo : aFix mX7_driftsTo 3 := ⟨by decide +kernel, wd_1075, Nat.le_of_ble_eq_true rfl, wd_124, ⟨by decide +kernel, by decide +kernel⟩, by decide +kernel⟩
abbrev mX8_init : aM := (yX8_init, cX8_init, 2, none)
theorem fx_X8_init : aFix mX8_init 0 := ⟨by decide +kernel, wd_228, Nat.le_of_ble_eq_true rfl, wd_127, ⟨by decide +kernel, by decide +kernel⟩, by decide +kernel⟩
abbrev mX8_copyFrom : aM := (yX8_copyFrom, cX8_copyFrom, 5, none)
theorem fx_X8_copyFrom : aFix mX8_copyFrom 1 := ⟨by decide +kernel, wd_1333, Nat.le_of_ble_eq_true rfl, wd_127, ⟨by decide +kernel, by decide +kernel⟩, by decide +kernel⟩
abbrev mX8_seaOf : aM := (yX8_seaOf, cX8_seaOf, 2, some (.object "BottledPost$Sea"))
theorem fx_X8_seaOf : aFix mX8_seaOf 1 := ⟨by decide +kernel, wd_796, Nat.le_of_ble_eq_true rfl, wd_127, ⟨by decide +kernel, by decide +kernel⟩, by decide +kernel⟩
abbrev mX8_keep : aM := (yX8_keep, cX8_keep, 3, none)
theorem fx_X8_keep : aFix mX8_keep 1 := ⟨by decide +kernel, wd_788, Nat.le_of_ble_eq_true rfl, wd_127, ⟨by decide +kernel, by decide +kernel⟩, by decide +kernel⟩
abbrev mX8_forgetEldest : aM := (yX8_forgetEldest, cX8_forgetEldest, 3, none)
theorem fx_X8_forgetEldest : aFix mX8_forgetEldest 0 := ⟨by decide +kernel, wd_792, Nat.le_of_ble_eq_true rfl, wd_127, ⟨by decide +kernel, by decide +kernel⟩, by decide +kernel⟩
abbrev mX8_takeBack : aM := (yX8_takeBack, cX8_takeBack, 3, some .int)
theorem fx_X8_takeBack : aFix mX8_takeBack 1 := ⟨by decide +kernel, wd_985, Nat.le_of_ble_eq_true rfl, wd_127, ⟨by decide +kernel, by decide +kernel⟩, by decide +kernel⟩
abbrev mX9_init : aM := (yX9_init, cX9_init, 1, none)
theorem fx_X9_init : aFix mX9_init 0 := ⟨by decide +kernel, wd_324, Nat.le_of_ble_eq_true rfl, wd_129, ⟨by decide +kernel, by decide +kernel⟩, by decide +kernel⟩
abbrev mX9_hasRoom : aM := (yX9_hasRoom, cX9_hasRoom, 2, some .boolean)
theorem fx_X9_hasRoom : aFix mX9_hasRoom 1 := ⟨by decide +kernel, wd_521, Nat.le_of_ble_eq_true rfl, wd_129, ⟨by decide +kernel, by decide +kernel⟩, by decide +kernel⟩
abbrev mX9_addFour : aM := (yX9_addFour, cX9_addFour, 3, none)
theorem fx_X9_addFour : aFix mX9_addFour 1 := ⟨by decide +kernel, wd_525, Nat.le_of_ble_eq_true rfl, wd_129, ⟨by decide +kernel, by decide +kernel⟩, by decide +kernel⟩
abbrev mX9_comeToFirst : aM := (yX9_comeToFirst, cX9_comeToFirst, 1, none)
theorem fx_X9_comeToFirst : aFix mX9_comeToFirst 0 := ⟨by decide +kernel, wd_542, Nat.le_of_ble_eq_true rfl, wd_129, ⟨by decide +kernel, by decide +kernel⟩, by decide +kernel⟩
abbrev mX9_comeToNext : aM := (yX9_comeToNext, cX9_comeToNext, 2, none)
theorem fx_X9_comeToNext : aFix mX9_comeToNext 0 := ⟨by decide +kernel, wd_546, Nat.le_of_ble_eq_true rfl, wd_129, ⟨by decide +kernel, by decide +kernel⟩, by decide +kernel⟩
abbrev mX9_byteAt : aM := (yX9_byteAt, cX9_byteAt, 2, some .int)
theorem fx_X9_byteAt : aFix mX9_byteAt 1 := ⟨by decide +kernel, wd_550, Nat.le_of_ble_eq_true rfl, wd_129, ⟨by decide +kernel, by decide +kernel⟩, by decide +kernel⟩
abbrev mX9_isDigit : aM := (yX9_isDigit, cX9_isDigit, 1, some .boolean)
theorem fx_X9_isDigit : aFix mX9_isDigit 1 := ⟨by decide +kernel, wd_553, Nat.le_of_ble_eq_true rfl, wd_129, ⟨by decide +kernel, by decide +kernel⟩, by decide +kernel⟩
abbrev mX9_isLetter : aM := (yX9_isLetter, cX9_isLetter, 1, some .boolean)
theorem fx_X9_isLetter : aFix mX9_isLetter 1 := ⟨by decide +kernel, wd_563, Nat.le_of_ble_eq_true rfl, wd_129, ⟨by decide +kernel, by decide +kernel⟩, by decide +kernel⟩
abbrev mX9_readNumber : aM := (yX9_readNumber, cX9_readNumber, 2, none)
theorem fx_X9_readNumber : aFix mX9_readNumber 0 := ⟨by decide +kernel, wd_557, Nat.le_of_ble_eq_true rfl, wd_129, ⟨by decide +kernel, by decide +kernel⟩, by decide +kernel⟩
abbrev mX9_readWord : aM := (yX9_readWord, cX9_readWord, 5, none)
theorem fx_X9_readWord : aFix mX9_readWord 0 := ⟨by decide +kernel, wd_567, Nat.le_of_ble_eq_true rfl, wd_129, ⟨by decide +kernel, by decide +kernel⟩, by decide +kernel⟩
abbrev mX9_readSign : aM := (yX9_readSign, cX9_readSign, 3, none)
theorem fx_X9_readSign : aFix mX9_readSign 1 := ⟨by decide +kernel, wd_620, Nat.le_of_ble_eq_true rfl, wd_129, ⟨by decide +kernel, by decide +kernel⟩, by decide +kernel⟩
abbrev mX9_signKind : aM := (yX9_signKind, cX9_signKind, 1, some .int)
theorem fx_X9_signKind : aFix mX9_signKind 1 := ⟨by decide +kernel, wd_623, Nat.le_of_ble_eq_true rfl, wd_129, ⟨by decide +kernel, by decide +kernel⟩, by decide +kernel⟩
abbrev mX10_init : aM := (yX10_init, cX10_init, 4, none)
theorem fx_X10_init : aFix mX10_init 3 := ⟨by decide +kernel, wd_746, Nat.le_of_ble_eq_true rfl, wd_142, ⟨by decide +kernel, by decide +kernel⟩, by decide +kernel⟩
abbrev mX10_countClauses : aM := (yX10_countClauses, cX10_countClauses, 1, some .int)
theorem fx_X10_countClauses : aFix mX10_countClauses 0 := ⟨by decide +kernel, wd_957, Nat.le_of_ble_eq_true rfl, wd_142, ⟨by decide +kernel, by decide +kernel⟩, by decide +kernel⟩
abbrev mX10_part : aM := (yX10_part, cX10_part, 3, some .int)
theorem fx_X10_part : aFix mX10_part 2 := ⟨by decide +kernel, wd_965, Nat.le_of_ble_eq_true rfl, wd_142, ⟨by decide +kernel, by decide +kernel⟩, by decide +kernel⟩
abbrev mX11_init : aM := (yX11_init, cX11_init, 1, none)
theorem fx_X11_init : aFix mX11_init 0 := ⟨by decide +kernel, wd_155, Nat.le_of_ble_eq_true rfl, wd_123, ⟨by decide +kernel, by decide +kernel⟩, by decide +kernel⟩
abbrev mX11_copyFrom : aM := (yX11_copyFrom, cX11_copyFrom, 3, none)
theorem fx_X11_copyFrom : aFix mX11_copyFrom 1 := ⟨by decide +kernel, wd_1323, Nat.le_of_ble_eq_true rfl, wd_123, ⟨by decide +kernel, by decide +kernel⟩, by decide +kernel⟩
abbrev mX11_addText : aM := (yX11_addText, cX11_addText, 2, some .int)
theorem fx_X11_addText : aFix mX11_addText 1 := ⟨by decide +kernel, wd_764, Nat.le_of_ble_eq_true rfl, wd_123, ⟨by decide +kernel, by decide +kernel⟩, by decide +kernel⟩
abbrev mX11_textOf : aM := (yX11_textOf, cX11_textOf, 2, some (.object "BottledPost$Text"))
theorem fx_X11_textOf : aFix mX11_textOf 1 := ⟨by decide +kernel, wd_878, Nat.le_of_ble_eq_true rfl, wd_123, ⟨by decide +kernel, by decide +kernel⟩, by decide +kernel⟩
abbrev mX11_rules : aM := (yX11_rules, cX11_rules, 1, some (.object "BottledPost$Text"))
theorem fx_X11_rules : aFix mX11_rules 0 := ⟨by decide +kernel, wd_874, Nat.le_of_ble_eq_true rfl, wd_123, ⟨by decide +kernel, by decide +kernel⟩, by decide +kernel⟩
abbrev mX12_init : aM := (yX12_init, cX12_init, 1, none)
theorem fx_X12_init : aFix mX12_init 0 := ⟨by decide +kernel, wd_147, Nat.le_of_ble_eq_true rfl, wd_122, ⟨by decide +kernel, by decide +kernel⟩, by decide +kernel⟩
abbrev mX12_person : aM := (yX12_person, cX12_person, 3, some .int)
theorem fx_X12_person : aFix mX12_person 2 := ⟨by decide +kernel, wd_494, Nat.le_of_ble_eq_true rfl, wd_122, ⟨by decide +kernel, by decide +kernel⟩, by decide +kernel⟩
abbrev mX12_current : aM := (yX12_current, cX12_current, 4, some .boolean)
theorem fx_X12_current : aFix mX12_current 3 := ⟨by decide +kernel, wd_509, Nat.le_of_ble_eq_true rfl, wd_122, ⟨by decide +kernel, by decide +kernel⟩, by decide +kernel⟩
abbrev mX12_feed : aM := (yX12_feed, cX12_feed, 6, some .int)
theorem fx_X12_feed : aFix mX12_feed 5 := ⟨by decide +kernel, wd_517, Nat.le_of_ble_eq_true rfl, wd_122, ⟨by decide +kernel, by decide +kernel⟩, by decide +kernel⟩
abbrev mX12_end : aM := (yX12_end, cX12_end, 2, some .int)
theorem fx_X12_end : aFix mX12_end 1 := ⟨by decide +kernel, wd_530, Nat.le_of_ble_eq_true rfl, wd_122, ⟨by decide +kernel, by decide +kernel⟩, by decide +kernel⟩
abbrev mX12_text : aM := (yX12_text, cX12_text, 2, some .int)
theorem fx_X12_text : aFix mX12_text 0 := ⟨by decide +kernel, wd_534, Nat.le_of_ble_eq_true rfl, wd_122, ⟨by decide +kernel, by decide +kernel⟩, by decide +kernel⟩
abbrev mX12_fault : aM := (yX12_fault, cX12_fault, 2, some .int)
theorem fx_X12_fault : aFix mX12_fault 1 := ⟨by decide +kernel, wd_768, Nat.le_of_ble_eq_true rfl, wd_122, ⟨by decide +kernel, by decide +kernel⟩, by decide +kernel⟩
abbrev mX12_by : aM := (yX12_by, cX12_by, 2, some .boolean)
theorem fx_X12_by : aFix mX12_by 1 := ⟨by decide +kernel, wd_772, Nat.le_of_ble_eq_true rfl, wd_122, ⟨by decide +kernel, by decide +kernel⟩, by decide +kernel⟩
abbrev mX12_toss : aM := (yX12_toss, cX12_toss, 4, some .int)
theorem fx_X12_toss : aFix mX12_toss 3 := ⟨by decide +kernel, wd_776, Nat.le_of_ble_eq_true rfl, wd_122, ⟨by decide +kernel, by decide +kernel⟩, by decide +kernel⟩
abbrev mX12_fish : aM := (yX12_fish, cX12_fish, 3, some .boolean)
theorem fx_X12_fish : aFix mX12_fish 2 := ⟨by decide +kernel, wd_826, Nat.le_of_ble_eq_true rfl, wd_122, ⟨by decide +kernel, by decide +kernel⟩, by decide +kernel⟩
abbrev mX12_again : aM := (yX12_again, cX12_again, 2, some .boolean)
theorem fx_X12_again : aFix mX12_again 1 := ⟨by decide +kernel, wd_857, Nat.le_of_ble_eq_true rfl, wd_122, ⟨by decide +kernel, by decide +kernel⟩, by decide +kernel⟩
abbrev mX12_tide : aM := (yX12_tide, cX12_tide, 2, some .int)
theorem fx_X12_tide : aFix mX12_tide 1 := ⟨by decide +kernel, wd_866, Nat.le_of_ble_eq_true rfl, wd_122, ⟨by decide +kernel, by decide +kernel⟩, by decide +kernel⟩
abbrev mX12_played : aM := (yX12_played, cX12_played, 5, some .int)
theorem fx_X12_played : aFix mX12_played 1 := ⟨by decide +kernel, wd_952, Nat.le_of_ble_eq_true rfl, wd_122, ⟨by decide +kernel, by decide +kernel⟩, by decide +kernel⟩
abbrev mX12_years : aM := (yX12_years, cX12_years, 4, some .int)
theorem fx_X12_years : aFix mX12_years 2 := ⟨by decide +kernel, wd_972, Nat.le_of_ble_eq_true rfl, wd_122, ⟨by decide +kernel, by decide +kernel⟩, by decide +kernel⟩
abbrev mX12_undo : aM := (yX12_undo, cX12_undo, 1, some .int)
theorem fx_X12_undo : aFix mX12_undo 0 := ⟨by decide +kernel, wd_981, Nat.le_of_ble_eq_true rfl, wd_122, ⟨by decide +kernel, by decide +kernel⟩, by decide +kernel⟩
abbrev mX12_tossBottle : aM := (yX12_tossBottle, cX12_tossBottle, 6, some .int)
theorem fx_X12_tossBottle : aFix mX12_tossBottle 4 := ⟨by decide +kernel, wd_780, Nat.le_of_ble_eq_true rfl, wd_122, ⟨by decide +kernel, by decide +kernel⟩, by decide +kernel⟩
abbrev mX12_fishBottle : aM := (yX12_fishBottle, cX12_fishBottle, 6, some .boolean)
theorem fx_X12_fishBottle : aFix mX12_fishBottle 3 := ⟨by decide +kernel, wd_830, Nat.le_of_ble_eq_true rfl, wd_122, ⟨by decide +kernel, by decide +kernel⟩, by decide +kernel⟩
abbrev mX12_tossAgain : aM := (yX12_tossAgain, cX12_tossAgain, 4, some .boolean)
theorem fx_X12_tossAgain : aFix mX12_tossAgain 2 := ⟨by decide +kernel, wd_861, Nat.le_of_ble_eq_true rfl, wd_122, ⟨by decide +kernel, by decide +kernel⟩, by decide +kernel⟩
abbrev mX12_passTides : aM := (yX12_passTides, cX12_passTides, 4, some .int)
theorem fx_X12_passTides : aFix mX12_passTides 1 := ⟨by decide +kernel, wd_870, Nat.le_of_ble_eq_true rfl, wd_122, ⟨by decide +kernel, by decide +kernel⟩, by decide +kernel⟩
abbrev mX12_playClause : aM := (yX12_playClause, cX12_playClause, 7, some .boolean)
theorem fx_X12_playClause : aFix mX12_playClause 2 := ⟨by decide +kernel, wd_961, Nat.le_of_ble_eq_true rfl, wd_122, ⟨by decide +kernel, by decide +kernel⟩, by decide +kernel⟩
abbrev mX12_liveYear : aM := (yX12_liveYear, cX12_liveYear, 5, none)
theorem fx_X12_liveYear : aFix mX12_liveYear 1 := ⟨by decide +kernel, wd_977, Nat.le_of_ble_eq_true rfl, wd_122, ⟨by decide +kernel, by decide +kernel⟩, by decide +kernel⟩
abbrev mX12_of : aM := (yX12_of, cX12_of, 3, some .int)
theorem fx_X12_of : aFix mX12_of 2 := ⟨by decide +kernel, wd_989, Nat.le_of_ble_eq_true rfl, wd_122, ⟨by decide +kernel, by decide +kernel⟩, by decide +kernel⟩
abbrev mX12_ofBottle : aM := (yX12_ofBottle, cX12_ofBottle, 3, some .int)
theorem fx_X12_ofBottle : aFix mX12_ofBottle 2 := ⟨by decide +kernel, wd_1002, Nat.le_of_ble_eq_true rfl, wd_122, ⟨by decide +kernel, by decide +kernel⟩, by decide +kernel⟩
abbrev mX12_told : aM := (yX12_told, cX12_told, 3, some .int)
theorem fx_X12_told : aFix mX12_told 2 := ⟨by decide +kernel, wd_1008, Nat.le_of_ble_eq_true rfl, wd_122, ⟨by decide +kernel, by decide +kernel⟩, by decide +kernel⟩
abbrev mX12_is : aM := (yX12_is, cX12_is, 2, some .int)
theorem fx_X12_is : aFix mX12_is 1 := ⟨by decide +kernel, wd_1014, Nat.le_of_ble_eq_true rfl, wd_122, ⟨by decide +kernel, by decide +kernel⟩, by decide +kernel⟩
abbrev mX12_book : aM := (yX12_book, cX12_book, 3, some .int)
theorem fx_X12_book : aFix mX12_book 2 := ⟨by decide +kernel, wd_1018, Nat.le_of_ble_eq_true rfl, wd_122, ⟨by decide +kernel, by decide +kernel⟩, by decide +kernel⟩
abbrev mX12_luckiest : aM := (yX12_luckiest, cX12_luckiest, 5, some .int)
theorem fx_X12_luckiest : aFix mX12_luckiest 0 := ⟨by decide +kernel, wd_1027, Nat.le_of_ble_eq_true rfl, wd_122, ⟨by decide +kernel, by decide +kernel⟩, by decide +kernel⟩
abbrev mX12_eldest : aM := (yX12_eldest, cX12_eldest, 3, some .int)
theorem fx_X12_eldest : aFix mX12_eldest 0 := ⟨by decide +kernel, wd_1031, Nat.le_of_ble_eq_true rfl, wd_122, ⟨by decide +kernel, by decide +kernel⟩, by decide +kernel⟩
abbrev mX12_crowd : aM := (yX12_crowd, cX12_crowd, 5, some .int)
theorem fx_X12_crowd : aFix mX12_crowd 0 := ⟨by decide +kernel, wd_1035, Nat.le_of_ble_eq_true rfl, wd_122, ⟨by decide +kernel, by decide +kernel⟩, by decide +kernel⟩
abbrev mX12_empty : aM := (yX12_empty, cX12_empty, 3, some .int)
theorem fx_X12_empty : aFix mX12_empty 0 := ⟨by decide +kernel, wd_1040, Nat.le_of_ble_eq_true rfl, wd_122, ⟨by decide +kernel, by decide +kernel⟩, by decide +kernel⟩
abbrev mX12_ledger : aM := (yX12_ledger, cX12_ledger, 2, some .int)
theorem fx_X12_ledger : aFix mX12_ledger 1 := ⟨by decide +kernel, wd_1049, Nat.le_of_ble_eq_true rfl, wd_122, ⟨by decide +kernel, by decide +kernel⟩, by decide +kernel⟩
abbrev mX12_about : aM := (yX12_about, cX12_about, 2, some .int)
theorem fx_X12_about : aFix mX12_about 1 := ⟨by decide +kernel, wd_1058, Nat.le_of_ble_eq_true rfl, wd_122, ⟨by decide +kernel, by decide +kernel⟩, by decide +kernel⟩
abbrev mX12_foretold : aM := (yX12_foretold, cX12_foretold, 5, some .int)
theorem fx_X12_foretold : aFix mX12_foretold 3 := ⟨by decide +kernel, wd_1062, Nat.le_of_ble_eq_true rfl, wd_122, ⟨by decide +kernel, by decide +kernel⟩, by decide +kernel⟩
abbrev mX12_ends : aM := (yX12_ends, cX12_ends, 3, some .int)
theorem fx_X12_ends : aFix mX12_ends 1 := ⟨by decide +kernel, wd_1067, Nat.le_of_ble_eq_true rfl, wd_122, ⟨by decide +kernel, by decide +kernel⟩, by decide +kernel⟩
abbrev mX12_drift : aM := (yX12_drift, cX12_drift, 3, some .int)
theorem fx_X12_drift : aFix mX12_drift 2 := ⟨by decide +kernel, wd_1071, Nat.le_of_ble_eq_true rfl, wd_122, ⟨by decide +kernel, by decide +kernel⟩, by decide +kernel⟩
abbrev mX12_soonest : aM := (yX12_soonest, cX12_soonest, 5, some .int)
theorem fx_X12_soonest : aFix mX12_soonest 3 := ⟨by decide +kernel, wd_1080, Nat.le_of_ble_eq_true rfl, wd_122, ⟨by decide +kernel, by decide +kernel⟩, by decide +kernel⟩
abbrev mX12_relay : aM := (yX12_relay, cX12_relay, 5, some .int)
theorem fx_X12_relay : aFix mX12_relay 3 := ⟨by decide +kernel, wd_1091, Nat.le_of_ble_eq_true rfl, wd_122, ⟨by decide +kernel, by decide +kernel⟩, by decide +kernel⟩
abbrev mX12_found : aM := (yX12_found, cX12_found, 3, some .int)
theorem fx_X12_found : aFix mX12_found 2 := ⟨by decide +kernel, wd_1119, Nat.le_of_ble_eq_true rfl, wd_122, ⟨by decide +kernel, by decide +kernel⟩, by decide +kernel⟩
abbrev mX12_tossed : aM := (yX12_tossed, cX12_tossed, 6, some .int)
theorem fx_X12_tossed : aFix mX12_tossed 1 := ⟨by decide +kernel, wd_1132, Nat.le_of_ble_eq_true rfl, wd_122, ⟨by decide +kernel, by decide +kernel⟩, by decide +kernel⟩
abbrev mX12_likely : aM := (yX12_likely, cX12_likely, 16, some .long)
theorem fx_X12_likely : aFix mX12_likely 4 := ⟨by decide +kernel, wd_1142, Nat.le_of_ble_eq_true rfl, wd_122, ⟨by decide +kernel, by decide +kernel⟩, by decide +kernel⟩
abbrev mX12_odds : aM := (yX12_odds, cX12_odds, 3, some .boolean)
theorem fx_X12_odds : aFix mX12_odds 2 := ⟨by decide +kernel, wd_1151, Nat.le_of_ble_eq_true rfl, wd_122, ⟨by decide +kernel, by decide +kernel⟩, by decide +kernel⟩
abbrev mX12_code : aM := (yX12_code, cX12_code, 2, some .int)
theorem fx_X12_code : aFix mX12_code 1 := ⟨by decide +kernel, wd_1155, Nat.le_of_ble_eq_true rfl, wd_122, ⟨by decide +kernel, by decide +kernel⟩, by decide +kernel⟩
abbrev mX12_clear : aM := (yX12_clear, cX12_clear, 3, some .int)
theorem fx_X12_clear : aFix mX12_clear 1 := ⟨by decide +kernel, wd_1176, Nat.le_of_ble_eq_true rfl, wd_122, ⟨by decide +kernel, by decide +kernel⟩, by decide +kernel⟩
abbrev mX12_reads : aM := (yX12_reads, cX12_reads, 2, some .long)
theorem fx_X12_reads : aFix mX12_reads 1 := ⟨by decide +kernel, wd_1218, Nat.le_of_ble_eq_true rfl, wd_122, ⟨by decide +kernel, by decide +kernel⟩, by decide +kernel⟩
abbrev mX12_halves : aM := (yX12_halves, cX12_halves, 3, some .boolean)
theorem fx_X12_halves : aFix mX12_halves 2 := ⟨by decide +kernel, wd_1227, Nat.le_of_ble_eq_true rfl, wd_122, ⟨by decide +kernel, by decide +kernel⟩, by decide +kernel⟩
abbrev mX12_sorters : aM := (yX12_sorters, cX12_sorters, 2, some .int)
theorem fx_X12_sorters : aFix mX12_sorters 1 := ⟨by decide +kernel, wd_1243, Nat.le_of_ble_eq_true rfl, wd_122, ⟨by decide +kernel, by decide +kernel⟩, by decide +kernel⟩
abbrev mX12_sorter : aM := (yX12_sorter, cX12_sorter, 3, some .int)
theorem fx_X12_sorter : aFix mX12_sorter 2 := ⟨by decide +kernel, wd_1258, Nat.le_of_ble_eq_true rfl, wd_122, ⟨by decide +kernel, by decide +kernel⟩, by decide +kernel⟩
abbrev mX12_writes : aM := (yX12_writes, cX12_writes, 3, some .boolean)
theorem fx_X12_writes : aFix mX12_writes 2 := ⟨by decide +kernel, wd_1266, Nat.le_of_ble_eq_true rfl, wd_122, ⟨by decide +kernel, by decide +kernel⟩, by decide +kernel⟩
abbrev mX12_orders : aM := (yX12_orders, cX12_orders, 2, some .long)
theorem fx_X12_orders : aFix mX12_orders 1 := ⟨by decide +kernel, wd_1278, Nat.le_of_ble_eq_true rfl, wd_122, ⟨by decide +kernel, by decide +kernel⟩, by decide +kernel⟩
abbrev mX12_sure : aM := (yX12_sure, cX12_sure, 9, some .int)
theorem fx_X12_sure : aFix mX12_sure 3 := ⟨by decide +kernel, wd_1287, Nat.le_of_ble_eq_true rfl, wd_122, ⟨by decide +kernel, by decide +kernel⟩, by decide +kernel⟩
abbrev mX12_said : aM := (yX12_said, cX12_said, 3, some .int)
theorem fx_X12_said : aFix mX12_said 2 := ⟨by decide +kernel, wd_1291, Nat.le_of_ble_eq_true rfl, wd_122, ⟨by decide +kernel, by decide +kernel⟩, by decide +kernel⟩
abbrev mX12_whose : aM := (yX12_whose, cX12_whose, 3, some .int)
theorem fx_X12_whose : aFix mX12_whose 0 := ⟨by decide +kernel, wd_1303, Nat.le_of_ble_eq_true rfl, wd_122, ⟨by decide +kernel, by decide +kernel⟩, by decide +kernel⟩
abbrev mX12_allSaidBy : aM := (yX12_allSaidBy, cX12_allSaidBy, 4, some .boolean)
theorem fx_X12_allSaidBy : aFix mX12_allSaidBy 1 := ⟨by decide +kernel, wd_1307, Nat.le_of_ble_eq_true rfl, wd_122, ⟨by decide +kernel, by decide +kernel⟩, by decide +kernel⟩
abbrev mX12_image : aM := (yX12_image, cX12_image, 1, some .int)
theorem fx_X12_image : aFix mX12_image 0 := ⟨by decide +kernel, wd_1319, Nat.le_of_ble_eq_true rfl, wd_122, ⟨by decide +kernel, by decide +kernel⟩, by decide +kernel⟩
abbrev mX12_back : aM := (yX12_back, cX12_back, 1, some .int)
theorem fx_X12_back : aFix mX12_back 0 := ⟨by decide +kernel, wd_1342, Nat.le_of_ble_eq_true rfl, wd_122, ⟨by decide +kernel, by decide +kernel⟩, by decide +kernel⟩
abbrev mX12_within : aM := (yX12_within, cX12_within, 3, some .boolean)
theorem fx_X12_within : aFix mX12_within 3 := ⟨by decide +kernel, wd_504, Nat.le_of_ble_eq_true rfl, wd_122, ⟨by decide +kernel, by decide +kernel⟩, by decide +kernel⟩
abbrev mX12_isPlace : aM := (yX12_isPlace, cX12_isPlace, 1, some .boolean)
theorem fx_X12_isPlace : aFix mX12_isPlace 1 := ⟨by decide +kernel, wd_501, Nat.le_of_ble_eq_true rfl, wd_122, ⟨by decide +kernel, by decide +kernel⟩, by decide +kernel⟩
abbrev mX12_cell : aM := (yX12_cell, cX12_cell, 2, some .int)
theorem fx_X12_cell : aFix mX12_cell 2 := ⟨by decide +kernel, wd_968, Nat.le_of_ble_eq_true rfl, wd_122, ⟨by decide +kernel, by decide +kernel⟩, by decide +kernel⟩
abbrev mX12_setCell : aM := (yX12_setCell, cX12_setCell, 3, none)
theorem fx_X12_setCell : aFix mX12_setCell 3 := ⟨by decide +kernel, wd_165, Nat.le_of_ble_eq_true rfl, wd_122, ⟨by decide +kernel, by decide +kernel⟩, by decide +kernel⟩
abbrev mX12_copyRow : aM := (yX12_copyRow, cX12_copyRow, 2, none)
theorem fx_X12_copyRow : aFix mX12_copyRow 2 := ⟨by decide +kernel, wd_803, Nat.le_of_ble_eq_true rfl, wd_122, ⟨by decide +kernel, by decide +kernel⟩, by decide +kernel⟩
abbrev mX12_sharedDivisor : aM := (yX12_sharedDivisor, cX12_sharedDivisor, 11, some .long)
theorem fx_X12_sharedDivisor : aFix mX12_sharedDivisor 2 := ⟨by decide +kernel, wd_1147, Nat.le_of_ble_eq_true rfl, wd_122, ⟨by decide +kernel, by decide +kernel⟩, by decide +kernel⟩
abbrev mX13_init : aM := (yX13_init, cX13_init, 2, none)
theorem fx_X13_init : aFix mX13_init 0 := ⟨by decide +kernel, wd_1347, Nat.le_of_ble_eq_true rfl, wd_134, ⟨by decide +kernel, by decide +kernel⟩, by decide +kernel⟩
abbrev mX13_copy : aM := (yX13_copy, cX13_copy, 3, none)
theorem fx_X13_copy : aFix mX13_copy 2 := ⟨by decide +kernel, wd_1351, Nat.le_of_ble_eq_true rfl, wd_134, ⟨by decide +kernel, by decide +kernel⟩, by decide +kernel⟩
abbrev mX13_isIn : aM := (yX13_isIn, cX13_isIn, 3, some .boolean)
theorem fx_X13_isIn : aFix mX13_isIn 3 := ⟨by decide +kernel, wd_1465, Nat.le_of_ble_eq_true rfl, wd_134, ⟨by decide +kernel, by decide +kernel⟩, by decide +kernel⟩
abbrev mX13_cut : aM := (yX13_cut, cX13_cut, 4, some .int)
theorem fx_X13_cut : aFix mX13_cut 3 := ⟨by decide +kernel, wd_1769, Nat.le_of_ble_eq_true rfl, wd_134, ⟨by decide +kernel, by decide +kernel⟩, by decide +kernel⟩
abbrev mX13_has : aM := (yX13_has, cX13_has, 2, some .boolean)
theorem fx_X13_has : aFix mX13_has 2 := ⟨by decide +kernel, wd_1542, Nat.le_of_ble_eq_true rfl, wd_134, ⟨by decide +kernel, by decide +kernel⟩, by decide +kernel⟩
abbrev mX13_isPerson : aM := (yX13_isPerson, cX13_isPerson, 2, some .boolean)
theorem fx_X13_isPerson : aFix mX13_isPerson 1 := ⟨by decide +kernel, wd_1649, Nat.le_of_ble_eq_true rfl, wd_134, ⟨by decide +kernel, by decide +kernel⟩, by decide +kernel⟩
abbrev mX13_isBottle : aM := (yX13_isBottle, cX13_isBottle, 2, some .boolean)
theorem fx_X13_isBottle : aFix mX13_isBottle 1 := ⟨by decide +kernel, wd_1681, Nat.le_of_ble_eq_true rfl, wd_134, ⟨by decide +kernel, by decide +kernel⟩, by decide +kernel⟩
abbrev mX13_isPlace : aM := (yX13_isPlace, cX13_isPlace, 1, some .boolean)
theorem fx_X13_isPlace : aFix mX13_isPlace 1 := ⟨by decide +kernel, wd_1462, Nat.le_of_ble_eq_true rfl, wd_134, ⟨by decide +kernel, by decide +kernel⟩, by decide +kernel⟩
abbrev mX13_get : aM := (yX13_get, cX13_get, 3, some .int)
theorem fx_X13_get : aFix mX13_get 2 := ⟨by decide +kernel, wd_1685, Nat.le_of_ble_eq_true rfl, wd_134, ⟨by decide +kernel, by decide +kernel⟩, by decide +kernel⟩
abbrev mX13_put : aM := (yX13_put, cX13_put, 4, none)
theorem fx_X13_put : aFix mX13_put 3 := ⟨by decide +kernel, wd_1661, Nat.le_of_ble_eq_true rfl, wd_134, ⟨by decide +kernel, by decide +kernel⟩, by decide +kernel⟩
abbrev mX13_own : aM := (yX13_own, cX13_own, 3, some .int)
theorem fx_X13_own : aFix mX13_own 2 := ⟨by decide +kernel, wd_1665, Nat.le_of_ble_eq_true rfl, wd_134, ⟨by decide +kernel, by decide +kernel⟩, by decide +kernel⟩
abbrev mX13_isAfloat : aM := (yX13_isAfloat, cX13_isAfloat, 2, some .boolean)
theorem fx_X13_isAfloat : aFix mX13_isAfloat 1 := ⟨by decide +kernel, wd_1677, Nat.le_of_ble_eq_true rfl, wd_134, ⟨by decide +kernel, by decide +kernel⟩, by decide +kernel⟩
abbrev mX13_flowsTo : aM := (yX13_flowsTo, cX13_flowsTo, 3, some .int)
theorem fx_X13_flowsTo : aFix mX13_flowsTo 2 := ⟨by decide +kernel, wd_1725, Nat.le_of_ble_eq_true rfl, wd_134, ⟨by decide +kernel, by decide +kernel⟩, by decide +kernel⟩
abbrev mX13_person : aM := (yX13_person, cX13_person, 3, some .int)
theorem fx_X13_person : aFix mX13_person 2 := ⟨by decide +kernel, wd_1459, Nat.le_of_ble_eq_true rfl, wd_134, ⟨by decide +kernel, by decide +kernel⟩, by decide +kernel⟩
abbrev mX13_current : aM := (yX13_current, cX13_current, 4, some .boolean)
theorem fx_X13_current : aFix mX13_current 3 := ⟨by decide +kernel, wd_1469, Nat.le_of_ble_eq_true rfl, wd_134, ⟨by decide +kernel, by decide +kernel⟩, by decide +kernel⟩
abbrev mX13_four : aM := (yX13_four, cX13_four, 3, none)
theorem fx_X13_four : aFix mX13_four 1 := ⟨by decide +kernel, wd_1477, Nat.le_of_ble_eq_true rfl, wd_134, ⟨by decide +kernel, by decide +kernel⟩, by decide +kernel⟩
abbrev mX13_feed : aM := (yX13_feed, cX13_feed, 6, some .int)
theorem fx_X13_feed : aFix mX13_feed 5 := ⟨by decide +kernel, wd_1473, Nat.le_of_ble_eq_true rfl, wd_134, ⟨by decide +kernel, by decide +kernel⟩, by decide +kernel⟩
abbrev mX13_end : aM := (yX13_end, cX13_end, 2, some .int)
theorem fx_X13_end : aFix mX13_end 1 := ⟨by decide +kernel, wd_1481, Nat.le_of_ble_eq_true rfl, wd_134, ⟨by decide +kernel, by decide +kernel⟩, by decide +kernel⟩
abbrev mX13_byteAt : aM := (yX13_byteAt, cX13_byteAt, 2, some .int)
theorem fx_X13_byteAt : aFix mX13_byteAt 1 := ⟨by decide +kernel, wd_1497, Nat.le_of_ble_eq_true rfl, wd_134, ⟨by decide +kernel, by decide +kernel⟩, by decide +kernel⟩
abbrev mX13_isLetterByte : aM := (yX13_isLetterByte, cX13_isLetterByte, 1, some .boolean)
theorem fx_X13_isLetterByte : aFix mX13_isLetterByte 1 := ⟨by decide +kernel, wd_1504, Nat.le_of_ble_eq_true rfl, wd_134, ⟨by decide +kernel, by decide +kernel⟩, by decide +kernel⟩
abbrev mX13_isFigure : aM := (yX13_isFigure, cX13_isFigure, 1, some .boolean)
theorem fx_X13_isFigure : aFix mX13_isFigure 1 := ⟨by decide +kernel, wd_1500, Nat.le_of_ble_eq_true rfl, wd_134, ⟨by decide +kernel, by decide +kernel⟩, by decide +kernel⟩
abbrev mX13_isSign : aM := (yX13_isSign, cX13_isSign, 1, some .boolean)
theorem fx_X13_isSign : aFix mX13_isSign 1 := ⟨by decide +kernel, wd_1508, Nat.le_of_ble_eq_true rfl, wd_134, ⟨by decide +kernel, by decide +kernel⟩, by decide +kernel⟩
abbrev mX13_nextToken : aM := (yX13_nextToken, cX13_nextToken, 2, none)
theorem fx_X13_nextToken : aFix mX13_nextToken 0 := ⟨by decide +kernel, wd_1493, Nat.le_of_ble_eq_true rfl, wd_134, ⟨by decide +kernel, by decide +kernel⟩, by decide +kernel⟩
abbrev mX13_w2 : aM := (yX13_w2, cX13_w2, 2, some .long)
theorem fx_X13_w2 : aFix mX13_w2 2 := ⟨by decide +kernel, wd_1528, Nat.le_of_ble_eq_true rfl, wd_134, ⟨by decide +kernel, by decide +kernel⟩, by decide +kernel⟩
abbrev mX13_w3 : aM := (yX13_w3, cX13_w3, 3, some .long)
theorem fx_X13_w3 : aFix mX13_w3 3 := ⟨by decide +kernel, wd_1525, Nat.le_of_ble_eq_true rfl, wd_134, ⟨by decide +kernel, by decide +kernel⟩, by decide +kernel⟩
abbrev mX13_w4 : aM := (yX13_w4, cX13_w4, 4, some .long)
theorem fx_X13_w4 : aFix mX13_w4 4 := ⟨by decide +kernel, wd_1522, Nat.le_of_ble_eq_true rfl, wd_134, ⟨by decide +kernel, by decide +kernel⟩, by decide +kernel⟩
abbrev mX13_w5 : aM := (yX13_w5, cX13_w5, 5, some .long)
theorem fx_X13_w5 : aFix mX13_w5 5 := ⟨by decide +kernel, wd_1519, Nat.le_of_ble_eq_true rfl, wd_134, ⟨by decide +kernel, by decide +kernel⟩, by decide +kernel⟩
abbrev mX13_w6 : aM := (yX13_w6, cX13_w6, 6, some .long)
theorem fx_X13_w6 : aFix mX13_w6 6 := ⟨by decide +kernel, wd_1535, Nat.le_of_ble_eq_true rfl, wd_134, ⟨by decide +kernel, by decide +kernel⟩, by decide +kernel⟩
abbrev mX13_isWord : aM := (yX13_isWord, cX13_isWord, 3, some .boolean)
theorem fx_X13_isWord : aFix mX13_isWord 1 := ⟨by decide +kernel, wd_1532, Nat.le_of_ble_eq_true rfl, wd_134, ⟨by decide +kernel, by decide +kernel⟩, by decide +kernel⟩
abbrev mX13_emit : aM := (yX13_emit, cX13_emit, 3, none)
theorem fx_X13_emit : aFix mX13_emit 2 := ⟨by decide +kernel, wd_1601, Nat.le_of_ble_eq_true rfl, wd_134, ⟨by decide +kernel, by decide +kernel⟩, by decide +kernel⟩
abbrev mX13_isCurrent : aM := (yX13_isCurrent, cX13_isCurrent, 1, some .boolean)
theorem fx_X13_isCurrent : aFix mX13_isCurrent 0 := ⟨by decide +kernel, wd_1539, Nat.le_of_ble_eq_true rfl, wd_134, ⟨by decide +kernel, by decide +kernel⟩, by decide +kernel⟩
abbrev mX13_nameOf : aM := (yX13_nameOf, cX13_nameOf, 1, some .int)
theorem fx_X13_nameOf : aFix mX13_nameOf 0 := ⟨by decide +kernel, wd_1617, Nat.le_of_ble_eq_true rfl, wd_134, ⟨by decide +kernel, by decide +kernel⟩, by decide +kernel⟩
abbrev mX13_rank : aM := (yX13_rank, cX13_rank, 1, some .int)
theorem fx_X13_rank : aFix mX13_rank 1 := ⟨by decide +kernel, wd_1589, Nat.le_of_ble_eq_true rfl, wd_134, ⟨by decide +kernel, by decide +kernel⟩, by decide +kernel⟩
abbrev mX13_settle : aM := (yX13_settle, cX13_settle, 2, none)
theorem fx_X13_settle : aFix mX13_settle 1 := ⟨by decide +kernel, wd_1597, Nat.le_of_ble_eq_true rfl, wd_134, ⟨by decide +kernel, by decide +kernel⟩, by decide +kernel⟩
abbrev mX13_openAt : aM := (yX13_openAt, cX13_openAt, 2, some .int)
theorem fx_X13_openAt : aFix mX13_openAt 0 := ⟨by decide +kernel, wd_1582, Nat.le_of_ble_eq_true rfl, wd_134, ⟨by decide +kernel, by decide +kernel⟩, by decide +kernel⟩
abbrev mX13_openNow : aM := (yX13_openNow, cX13_openNow, 1, some .int)
theorem fx_X13_openNow : aFix mX13_openNow 0 := ⟨by decide +kernel, wd_1578, Nat.le_of_ble_eq_true rfl, wd_134, ⟨by decide +kernel, by decide +kernel⟩, by decide +kernel⟩
abbrev mX13_isCompared : aM := (yX13_isCompared, cX13_isCompared, 2, some .boolean)
theorem fx_X13_isCompared : aFix mX13_isCompared 0 := ⟨by decide +kernel, wd_1586, Nat.le_of_ble_eq_true rfl, wd_134, ⟨by decide +kernel, by decide +kernel⟩, by decide +kernel⟩
abbrev mX13_isAskAhead : aM := (yX13_isAskAhead, cX13_isAskAhead, 1, some .boolean)
theorem fx_X13_isAskAhead : aFix mX13_isAskAhead 0 := ⟨by decide +kernel, wd_1625, Nat.le_of_ble_eq_true rfl, wd_134, ⟨by decide +kernel, by decide +kernel⟩, by decide +kernel⟩
abbrev mX13_opened : aM := (yX13_opened, cX13_opened, 2, some .int)
theorem fx_X13_opened : aFix mX13_opened 1 := ⟨by decide +kernel, wd_1621, Nat.le_of_ble_eq_true rfl, wd_134, ⟨by decide +kernel, by decide +kernel⟩, by decide +kernel⟩
abbrev mX13_beginOne : aM := (yX13_beginOne, cX13_beginOne, 2, some .int)
theorem fx_X13_beginOne : aFix mX13_beginOne 0 := ⟨by decide +kernel, wd_1613, Nat.le_of_ble_eq_true rfl, wd_134, ⟨by decide +kernel, by decide +kernel⟩, by decide +kernel⟩
abbrev mX13_endOne : aM := (yX13_endOne, cX13_endOne, 1, some .int)
theorem fx_X13_endOne : aFix mX13_endOne 0 := ⟨by decide +kernel, wd_1609, Nat.le_of_ble_eq_true rfl, wd_134, ⟨by decide +kernel, by decide +kernel⟩, by decide +kernel⟩
abbrev mX13_compareOf : aM := (yX13_compareOf, cX13_compareOf, 1, some .int)
theorem fx_X13_compareOf : aFix mX13_compareOf 0 := ⟨by decide +kernel, wd_1593, Nat.le_of_ble_eq_true rfl, wd_134, ⟨by decide +kernel, by decide +kernel⟩, by decide +kernel⟩
abbrev mX13_betweenOf : aM := (yX13_betweenOf, cX13_betweenOf, 1, some .int)
theorem fx_X13_betweenOf : aFix mX13_betweenOf 0 := ⟨by decide +kernel, wd_1574, Nat.le_of_ble_eq_true rfl, wd_134, ⟨by decide +kernel, by decide +kernel⟩, by decide +kernel⟩
abbrev mX13_partOf : aM := (yX13_partOf, cX13_partOf, 2, some .int)
theorem fx_X13_partOf : aFix mX13_partOf 1 := ⟨by decide +kernel, wd_1605, Nat.le_of_ble_eq_true rfl, wd_134, ⟨by decide +kernel, by decide +kernel⟩, by decide +kernel⟩
abbrev mX13_behindOne : aM := (yX13_behindOne, cX13_behindOne, 4, some .int)
theorem fx_X13_behindOne : aFix mX13_behindOne 0 := ⟨by decide +kernel, wd_1570, Nat.le_of_ble_eq_true rfl, wd_134, ⟨by decide +kernel, by decide +kernel⟩, by decide +kernel⟩
abbrev mX13_summed : aM := (yX13_summed, cX13_summed, 2, some .int)
theorem fx_X13_summed : aFix mX13_summed 0 := ⟨by decide +kernel, wd_1566, Nat.le_of_ble_eq_true rfl, wd_134, ⟨by decide +kernel, by decide +kernel⟩, by decide +kernel⟩
abbrev mX13_figure : aM := (yX13_figure, cX13_figure, 4, some .int)
theorem fx_X13_figure : aFix mX13_figure 3 := ⟨by decide +kernel, wd_1554, Nat.le_of_ble_eq_true rfl, wd_134, ⟨by decide +kernel, by decide +kernel⟩, by decide +kernel⟩
abbrev mX13_worded : aM := (yX13_worded, cX13_worded, 6, some .int)
theorem fx_X13_worded : aFix mX13_worded 4 := ⟨by decide +kernel, wd_1558, Nat.le_of_ble_eq_true rfl, wd_134, ⟨by decide +kernel, by decide +kernel⟩, by decide +kernel⟩
abbrev mX13_lawClause : aM := (yX13_lawClause, cX13_lawClause, 3, some .int)
theorem fx_X13_lawClause : aFix mX13_lawClause 1 := ⟨by decide +kernel, wd_1562, Nat.le_of_ble_eq_true rfl, wd_134, ⟨by decide +kernel, by decide +kernel⟩, by decide +kernel⟩
abbrev mX13_pair : aM := (yX13_pair, cX13_pair, 7, some .int)
theorem fx_X13_pair : aFix mX13_pair 4 := ⟨by decide +kernel, wd_1550, Nat.le_of_ble_eq_true rfl, wd_134, ⟨by decide +kernel, by decide +kernel⟩, by decide +kernel⟩
abbrev mX13_body : aM := (yX13_body, cX13_body, 4, some .int)
theorem fx_X13_body : aFix mX13_body 2 := ⟨by decide +kernel, wd_1546, Nat.le_of_ble_eq_true rfl, wd_134, ⟨by decide +kernel, by decide +kernel⟩, by decide +kernel⟩
abbrev mX13_sortOf : aM := (yX13_sortOf, cX13_sortOf, 1, some .int)
theorem fx_X13_sortOf : aFix mX13_sortOf 0 := ⟨by decide +kernel, wd_1516, Nat.le_of_ble_eq_true rfl, wd_134, ⟨by decide +kernel, by decide +kernel⟩, by decide +kernel⟩
abbrev mX13_clause : aM := (yX13_clause, cX13_clause, 5, some .int)
theorem fx_X13_clause : aFix mX13_clause 0 := ⟨by decide +kernel, wd_1512, Nat.le_of_ble_eq_true rfl, wd_134, ⟨by decide +kernel, by decide +kernel⟩, by decide +kernel⟩
abbrev mX13_readText : aM := (yX13_readText, cX13_readText, 2, some .int)
theorem fx_X13_readText : aFix mX13_readText 0 := ⟨by decide +kernel, wd_1489, Nat.le_of_ble_eq_true rfl, wd_134, ⟨by decide +kernel, by decide +kernel⟩, by decide +kernel⟩
abbrev mX13_text : aM := (yX13_text, cX13_text, 1, some .int)
theorem fx_X13_text : aFix mX13_text 0 := ⟨by decide +kernel, wd_1485, Nat.le_of_ble_eq_true rfl, wd_134, ⟨by decide +kernel, by decide +kernel⟩, by decide +kernel⟩
abbrev mX13_fault : aM := (yX13_fault, cX13_fault, 2, some .int)
theorem fx_X13_fault : aFix mX13_fault 1 := ⟨by decide +kernel, wd_1629, Nat.le_of_ble_eq_true rfl, wd_134, ⟨by decide +kernel, by decide +kernel⟩, by decide +kernel⟩
abbrev mX13_by : aM := (yX13_by, cX13_by, 2, some .boolean)
theorem fx_X13_by : aFix mX13_by 1 := ⟨by decide +kernel, wd_1633, Nat.le_of_ble_eq_true rfl, wd_134, ⟨by decide +kernel, by decide +kernel⟩, by decide +kernel⟩
abbrev mX13_clip : aM := (yX13_clip, cX13_clip, 2, some .long)
theorem fx_X13_clip : aFix mX13_clip 1 := ⟨by decide +kernel, wd_1759, Nat.le_of_ble_eq_true rfl, wd_134, ⟨by decide +kernel, by decide +kernel⟩, by decide +kernel⟩
abbrev mX13_two : aM := (yX13_two, cX13_two, 5, some .long)
theorem fx_X13_two : aFix mX13_two 3 := ⟨by decide +kernel, wd_1756, Nat.le_of_ble_eq_true rfl, wd_134, ⟨by decide +kernel, by decide +kernel⟩, by decide +kernel⟩
abbrev mX13_isAsked : aM := (yX13_isAsked, cX13_isAsked, 5, some .boolean)
theorem fx_X13_isAsked : aFix mX13_isAsked 3 := ⟨by decide +kernel, wd_1763, Nat.le_of_ble_eq_true rfl, wd_134, ⟨by decide +kernel, by decide +kernel⟩, by decide +kernel⟩
abbrev mX13_placesOf : aM := (yX13_placesOf, cX13_placesOf, 3, some .long)
theorem fx_X13_placesOf : aFix mX13_placesOf 1 := ⟨by decide +kernel, wd_1749, Nat.le_of_ble_eq_true rfl, wd_134, ⟨by decide +kernel, by decide +kernel⟩, by decide +kernel⟩
abbrev mX13_laterBy : aM := (yX13_laterBy, cX13_laterBy, 6, some .long)
theorem fx_X13_laterBy : aFix mX13_laterBy 2 := ⟨by decide +kernel, wd_1752, Nat.le_of_ble_eq_true rfl, wd_134, ⟨by decide +kernel, by decide +kernel⟩, by decide +kernel⟩
abbrev mX13_joined : aM := (yX13_joined, cX13_joined, 3, some .boolean)
theorem fx_X13_joined : aFix mX13_joined 3 := ⟨by decide +kernel, wd_1766, Nat.le_of_ble_eq_true rfl, wd_134, ⟨by decide +kernel, by decide +kernel⟩, by decide +kernel⟩
abbrev mX13_summedUp : aM := (yX13_summedUp, cX13_summedUp, 10, some .long)
theorem fx_X13_summedUp : aFix mX13_summedUp 2 := ⟨by decide +kernel, wd_1745, Nat.le_of_ble_eq_true rfl, wd_134, ⟨by decide +kernel, by decide +kernel⟩, by decide +kernel⟩
abbrev mX13_says : aM := (yX13_says, cX13_says, 6, some .int)
theorem fx_X13_says : aFix mX13_says 4 := ⟨by decide +kernel, wd_1741, Nat.le_of_ble_eq_true rfl, wd_134, ⟨by decide +kernel, by decide +kernel⟩, by decide +kernel⟩
abbrev mX13_afloatAt : aM := (yX13_afloatAt, cX13_afloatAt, 4, some .int)
theorem fx_X13_afloatAt : aFix mX13_afloatAt 1 := ⟨by decide +kernel, wd_1737, Nat.le_of_ble_eq_true rfl, wd_134, ⟨by decide +kernel, by decide +kernel⟩, by decide +kernel⟩
abbrev mX13_name : aM := (yX13_name, cX13_name, 2, none)
theorem fx_X13_name : aFix mX13_name 1 := ⟨by decide +kernel, wd_1733, Nat.le_of_ble_eq_true rfl, wd_134, ⟨by decide +kernel, by decide +kernel⟩, by decide +kernel⟩
abbrev mX13_comesOf : aM := (yX13_comesOf, cX13_comesOf, 3, some .int)
theorem fx_X13_comesOf : aFix mX13_comesOf 2 := ⟨by decide +kernel, wd_1777, Nat.le_of_ble_eq_true rfl, wd_134, ⟨by decide +kernel, by decide +kernel⟩, by decide +kernel⟩
abbrev mX13_wearsOf : aM := (yX13_wearsOf, cX13_wearsOf, 2, some .int)
theorem fx_X13_wearsOf : aFix mX13_wearsOf 1 := ⟨by decide +kernel, wd_1729, Nat.le_of_ble_eq_true rfl, wd_134, ⟨by decide +kernel, by decide +kernel⟩, by decide +kernel⟩
abbrev mX13_write : aM := (yX13_write, cX13_write, 4, none)
theorem fx_X13_write : aFix mX13_write 2 := ⟨by decide +kernel, wd_1693, Nat.le_of_ble_eq_true rfl, wd_134, ⟨by decide +kernel, by decide +kernel⟩, by decide +kernel⟩
abbrev mX13_anew : aM := (yX13_anew, cX13_anew, 1, none)
theorem fx_X13_anew : aFix mX13_anew 0 := ⟨by decide +kernel, wd_1781, Nat.le_of_ble_eq_true rfl, wd_134, ⟨by decide +kernel, by decide +kernel⟩, by decide +kernel⟩
abbrev mX13_finish : aM := (yX13_finish, cX13_finish, 3, none)
theorem fx_X13_finish : aFix mX13_finish 2 := ⟨by decide +kernel, wd_1773, Nat.le_of_ble_eq_true rfl, wd_134, ⟨by decide +kernel, by decide +kernel⟩, by decide +kernel⟩
abbrev mX13_floatOn : aM := (yX13_floatOn, cX13_floatOn, 3, none)
theorem fx_X13_floatOn : aFix mX13_floatOn 1 := ⟨by decide +kernel, wd_1721, Nat.le_of_ble_eq_true rfl, wd_134, ⟨by decide +kernel, by decide +kernel⟩, by decide +kernel⟩
abbrev mX13_pass : aM := (yX13_pass, cX13_pass, 2, none)
theorem fx_X13_pass : aFix mX13_pass 0 := ⟨by decide +kernel, wd_1717, Nat.le_of_ble_eq_true rfl, wd_134, ⟨by decide +kernel, by decide +kernel⟩, by decide +kernel⟩
abbrev mX13_keep : aM := (yX13_keep, cX13_keep, 3, none)
theorem fx_X13_keep : aFix mX13_keep 0 := ⟨by decide +kernel, wd_1653, Nat.le_of_ble_eq_true rfl, wd_134, ⟨by decide +kernel, by decide +kernel⟩, by decide +kernel⟩
abbrev mX13_undo : aM := (yX13_undo, cX13_undo, 3, some .int)
theorem fx_X13_undo : aFix mX13_undo 0 := ⟨by decide +kernel, wd_1637, Nat.le_of_ble_eq_true rfl, wd_134, ⟨by decide +kernel, by decide +kernel⟩, by decide +kernel⟩
abbrev mX13_canToss : aM := (yX13_canToss, cX13_canToss, 3, some .boolean)
theorem fx_X13_canToss : aFix mX13_canToss 2 := ⟨by decide +kernel, wd_1645, Nat.le_of_ble_eq_true rfl, wd_134, ⟨by decide +kernel, by decide +kernel⟩, by decide +kernel⟩
abbrev mX13_tossNow : aM := (yX13_tossNow, cX13_tossNow, 5, none)
theorem fx_X13_tossNow : aFix mX13_tossNow 3 := ⟨by decide +kernel, wd_1657, Nat.le_of_ble_eq_true rfl, wd_134, ⟨by decide +kernel, by decide +kernel⟩, by decide +kernel⟩
abbrev mX13_toss : aM := (yX13_toss, cX13_toss, 4, some .int)
theorem fx_X13_toss : aFix mX13_toss 3 := ⟨by decide +kernel, wd_1641, Nat.le_of_ble_eq_true rfl, wd_134, ⟨by decide +kernel, by decide +kernel⟩, by decide +kernel⟩
abbrev mX13_canFish : aM := (yX13_canFish, cX13_canFish, 3, some .boolean)
theorem fx_X13_canFish : aFix mX13_canFish 2 := ⟨by decide +kernel, wd_1673, Nat.le_of_ble_eq_true rfl, wd_134, ⟨by decide +kernel, by decide +kernel⟩, by decide +kernel⟩
abbrev mX13_fishNow : aM := (yX13_fishNow, cX13_fishNow, 3, none)
theorem fx_X13_fishNow : aFix mX13_fishNow 2 := ⟨by decide +kernel, wd_1689, Nat.le_of_ble_eq_true rfl, wd_134, ⟨by decide +kernel, by decide +kernel⟩, by decide +kernel⟩
abbrev mX13_fish : aM := (yX13_fish, cX13_fish, 3, some .boolean)
theorem fx_X13_fish : aFix mX13_fish 2 := ⟨by decide +kernel, wd_1669, Nat.le_of_ble_eq_true rfl, wd_134, ⟨by decide +kernel, by decide +kernel⟩, by decide +kernel⟩
abbrev mX13_canAgain : aM := (yX13_canAgain, cX13_canAgain, 2, some .boolean)
theorem fx_X13_canAgain : aFix mX13_canAgain 1 := ⟨by decide +kernel, wd_1701, Nat.le_of_ble_eq_true rfl, wd_134, ⟨by decide +kernel, by decide +kernel⟩, by decide +kernel⟩
abbrev mX13_againNow : aM := (yX13_againNow, cX13_againNow, 2, none)
theorem fx_X13_againNow : aFix mX13_againNow 1 := ⟨by decide +kernel, wd_1705, Nat.le_of_ble_eq_true rfl, wd_134, ⟨by decide +kernel, by decide +kernel⟩, by decide +kernel⟩
abbrev mX13_again : aM := (yX13_again, cX13_again, 2, some .boolean)
theorem fx_X13_again : aFix mX13_again 1 := ⟨by decide +kernel, wd_1697, Nat.le_of_ble_eq_true rfl, wd_134, ⟨by decide +kernel, by decide +kernel⟩, by decide +kernel⟩
abbrev mX13_arePassed : aM := (yX13_arePassed, cX13_arePassed, 3, some .boolean)
theorem fx_X13_arePassed : aFix mX13_arePassed 1 := ⟨by decide +kernel, wd_1713, Nat.le_of_ble_eq_true rfl, wd_134, ⟨by decide +kernel, by decide +kernel⟩, by decide +kernel⟩
abbrev mX13_tide : aM := (yX13_tide, cX13_tide, 2, some .int)
theorem fx_X13_tide : aFix mX13_tide 1 := ⟨by decide +kernel, wd_1709, Nat.le_of_ble_eq_true rfl, wd_134, ⟨by decide +kernel, by decide +kernel⟩, by decide +kernel⟩
abbrev mX13_isPlayed : aM := (yX13_isPlayed, cX13_isPlayed, 4, some .boolean)
theorem fx_X13_isPlayed : aFix mX13_isPlayed 1 := ⟨by decide +kernel, wd_1792, Nat.le_of_ble_eq_true rfl, wd_134, ⟨by decide +kernel, by decide +kernel⟩, by decide +kernel⟩
abbrev mX13_played : aM := (yX13_played, cX13_played, 3, some .int)
theorem fx_X13_played : aFix mX13_played 1 := ⟨by decide +kernel, wd_1788, Nat.le_of_ble_eq_true rfl, wd_134, ⟨by decide +kernel, by decide +kernel⟩, by decide +kernel⟩
abbrev mX13_happens : aM := (yX13_happens, cX13_happens, 3, none)
theorem fx_X13_happens : aFix mX13_happens 1 := ⟨by decide +kernel, wd_1805, Nat.le_of_ble_eq_true rfl, wd_134, ⟨by decide +kernel, by decide +kernel⟩, by decide +kernel⟩
abbrev mX13_years : aM := (yX13_years, cX13_years, 5, some .int)
theorem fx_X13_years : aFix mX13_years 2 := ⟨by decide +kernel, wd_1801, Nat.le_of_ble_eq_true rfl, wd_134, ⟨by decide +kernel, by decide +kernel⟩, by decide +kernel⟩
abbrev mX13_cameTo : aM := (yX13_cameTo, cX13_cameTo, 4, some .int)
theorem fx_X13_cameTo : aFix mX13_cameTo 1 := ⟨by decide +kernel, wd_1813, Nat.le_of_ble_eq_true rfl, wd_134, ⟨by decide +kernel, by decide +kernel⟩, by decide +kernel⟩
abbrev mX13_withHow : aM := (yX13_withHow, cX13_withHow, 4, some .int)
theorem fx_X13_withHow : aFix mX13_withHow 1 := ⟨by decide +kernel, wd_1817, Nat.le_of_ble_eq_true rfl, wd_134, ⟨by decide +kernel, by decide +kernel⟩, by decide +kernel⟩
abbrev mX13_of : aM := (yX13_of, cX13_of, 3, some .int)
theorem fx_X13_of : aFix mX13_of 2 := ⟨by decide +kernel, wd_1809, Nat.le_of_ble_eq_true rfl, wd_134, ⟨by decide +kernel, by decide +kernel⟩, by decide +kernel⟩
abbrev mX13_ofBottle : aM := (yX13_ofBottle, cX13_ofBottle, 3, some .int)
theorem fx_X13_ofBottle : aFix mX13_ofBottle 2 := ⟨by decide +kernel, wd_1821, Nat.le_of_ble_eq_true rfl, wd_134, ⟨by decide +kernel, by decide +kernel⟩, by decide +kernel⟩
abbrev mX13_told : aM := (yX13_told, cX13_told, 3, some .int)
theorem fx_X13_told : aFix mX13_told 2 := ⟨by decide +kernel, wd_1825, Nat.le_of_ble_eq_true rfl, wd_134, ⟨by decide +kernel, by decide +kernel⟩, by decide +kernel⟩
abbrev mX13_is : aM := (yX13_is, cX13_is, 2, some .int)
theorem fx_X13_is : aFix mX13_is 1 := ⟨by decide +kernel, wd_1829, Nat.le_of_ble_eq_true rfl, wd_134, ⟨by decide +kernel, by decide +kernel⟩, by decide +kernel⟩
abbrev mX13_entry : aM := (yX13_entry, cX13_entry, 4, some .int)
theorem fx_X13_entry : aFix mX13_entry 2 := ⟨by decide +kernel, wd_1837, Nat.le_of_ble_eq_true rfl, wd_134, ⟨by decide +kernel, by decide +kernel⟩, by decide +kernel⟩
abbrev mX13_book : aM := (yX13_book, cX13_book, 3, some .int)
theorem fx_X13_book : aFix mX13_book 2 := ⟨by decide +kernel, wd_1833, Nat.le_of_ble_eq_true rfl, wd_134, ⟨by decide +kernel, by decide +kernel⟩, by decide +kernel⟩
abbrev mX13_ledger : aM := (yX13_ledger, cX13_ledger, 4, some .int)
theorem fx_X13_ledger : aFix mX13_ledger 1 := ⟨by decide +kernel, wd_1841, Nat.le_of_ble_eq_true rfl, wd_134, ⟨by decide +kernel, by decide +kernel⟩, by decide +kernel⟩
abbrev mX13_luckiest : aM := (yX13_luckiest, cX13_luckiest, 3, some .int)
theorem fx_X13_luckiest : aFix mX13_luckiest 0 := ⟨by decide +kernel, wd_1845, Nat.le_of_ble_eq_true rfl, wd_134, ⟨by decide +kernel, by decide +kernel⟩, by decide +kernel⟩
abbrev mX13_eldest : aM := (yX13_eldest, cX13_eldest, 3, some .int)
theorem fx_X13_eldest : aFix mX13_eldest 0 := ⟨by decide +kernel, wd_1849, Nat.le_of_ble_eq_true rfl, wd_134, ⟨by decide +kernel, by decide +kernel⟩, by decide +kernel⟩
abbrev mX13_crowd : aM := (yX13_crowd, cX13_crowd, 3, some .int)
theorem fx_X13_crowd : aFix mX13_crowd 0 := ⟨by decide +kernel, wd_1853, Nat.le_of_ble_eq_true rfl, wd_134, ⟨by decide +kernel, by decide +kernel⟩, by decide +kernel⟩
abbrev mX13_empty : aM := (yX13_empty, cX13_empty, 3, some .int)
theorem fx_X13_empty : aFix mX13_empty 0 := ⟨by decide +kernel, wd_1857, Nat.le_of_ble_eq_true rfl, wd_134, ⟨by decide +kernel, by decide +kernel⟩, by decide +kernel⟩
abbrev mX13_setAside : aM := (yX13_setAside, cX13_setAside, 2, none)
theorem fx_X13_setAside : aFix mX13_setAside 0 := ⟨by decide +kernel, wd_1865, Nat.le_of_ble_eq_true rfl, wd_134, ⟨by decide +kernel, by decide +kernel⟩, by decide +kernel⟩
abbrev mX13_putBack : aM := (yX13_putBack, cX13_putBack, 2, none)
theorem fx_X13_putBack : aFix mX13_putBack 0 := ⟨by decide +kernel, wd_1869, Nat.le_of_ble_eq_true rfl, wd_134, ⟨by decide +kernel, by decide +kernel⟩, by decide +kernel⟩
abbrev mX13_foretold : aM := (yX13_foretold, cX13_foretold, 5, some .int)
theorem fx_X13_foretold : aFix mX13_foretold 3 := ⟨by decide +kernel, wd_1861, Nat.le_of_ble_eq_true rfl, wd_134, ⟨by decide +kernel, by decide +kernel⟩, by decide +kernel⟩
abbrev mX13_ends : aM := (yX13_ends, cX13_ends, 4, some .int)
theorem fx_X13_ends : aFix mX13_ends 1 := ⟨by decide +kernel, wd_1873, Nat.le_of_ble_eq_true rfl, wd_134, ⟨by decide +kernel, by decide +kernel⟩, by decide +kernel⟩
abbrev mX13_drifted : aM := (yX13_drifted, cX13_drifted, 6, some .int)
theorem fx_X13_drifted : aFix mX13_drifted 3 := ⟨by decide +kernel, wd_1881, Nat.le_of_ble_eq_true rfl, wd_134, ⟨by decide +kernel, by decide +kernel⟩, by decide +kernel⟩
abbrev mX13_drift : aM := (yX13_drift, cX13_drift, 3, some .int)
theorem fx_X13_drift : aFix mX13_drift 2 := ⟨by decide +kernel, wd_1877, Nat.le_of_ble_eq_true rfl, wd_134, ⟨by decide +kernel, by decide +kernel⟩, by decide +kernel⟩
abbrev mX13_soonest : aM := (yX13_soonest, cX13_soonest, 6, some .int)
theorem fx_X13_soonest : aFix mX13_soonest 3 := ⟨by decide +kernel, wd_1885, Nat.le_of_ble_eq_true rfl, wd_134, ⟨by decide +kernel, by decide +kernel⟩, by decide +kernel⟩
abbrev mX13_hopOf : aM := (yX13_hopOf, cX13_hopOf, 7, some .int)
theorem fx_X13_hopOf : aFix mX13_hopOf 3 := ⟨by decide +kernel, wd_1910, Nat.le_of_ble_eq_true rfl, wd_134, ⟨by decide +kernel, by decide +kernel⟩, by decide +kernel⟩
abbrev mX13_whenBy : aM := (yX13_whenBy, cX13_whenBy, 8, some .int)
theorem fx_X13_whenBy : aFix mX13_whenBy 3 := ⟨by decide +kernel, wd_1906, Nat.le_of_ble_eq_true rfl, wd_134, ⟨by decide +kernel, by decide +kernel⟩, by decide +kernel⟩
abbrev mX13_isNextRow : aM := (yX13_isNextRow, cX13_isNextRow, 6, some .boolean)
theorem fx_X13_isNextRow : aFix mX13_isNextRow 4 := ⟨by decide +kernel, wd_1898, Nat.le_of_ble_eq_true rfl, wd_134, ⟨by decide +kernel, by decide +kernel⟩, by decide +kernel⟩
abbrev mX13_isNew : aM := (yX13_isNew, cX13_isNew, 5, some .boolean)
theorem fx_X13_isNew : aFix mX13_isNew 3 := ⟨by decide +kernel, wd_1902, Nat.le_of_ble_eq_true rfl, wd_134, ⟨by decide +kernel, by decide +kernel⟩, by decide +kernel⟩
abbrev mX13_layRelay : aM := (yX13_layRelay, cX13_layRelay, 7, none)
theorem fx_X13_layRelay : aFix mX13_layRelay 2 := ⟨by decide +kernel, wd_1893, Nat.le_of_ble_eq_true rfl, wd_134, ⟨by decide +kernel, by decide +kernel⟩, by decide +kernel⟩
abbrev mX13_relay : aM := (yX13_relay, cX13_relay, 4, some .int)
theorem fx_X13_relay : aFix mX13_relay 3 := ⟨by decide +kernel, wd_1889, Nat.le_of_ble_eq_true rfl, wd_134, ⟨by decide +kernel, by decide +kernel⟩, by decide +kernel⟩
abbrev mX13_found : aM := (yX13_found, cX13_found, 3, some .int)
theorem fx_X13_found : aFix mX13_found 2 := ⟨by decide +kernel, wd_1914, Nat.le_of_ble_eq_true rfl, wd_134, ⟨by decide +kernel, by decide +kernel⟩, by decide +kernel⟩
abbrev mX13_isFrom : aM := (yX13_isFrom, cX13_isFrom, 6, some .boolean)
theorem fx_X13_isFrom : aFix mX13_isFrom 2 := ⟨by decide +kernel, wd_1922, Nat.le_of_ble_eq_true rfl, wd_134, ⟨by decide +kernel, by decide +kernel⟩, by decide +kernel⟩
abbrev mX13_tossed : aM := (yX13_tossed, cX13_tossed, 6, some .int)
theorem fx_X13_tossed : aFix mX13_tossed 1 := ⟨by decide +kernel, wd_1918, Nat.le_of_ble_eq_true rfl, wd_134, ⟨by decide +kernel, by decide +kernel⟩, by decide +kernel⟩
abbrev mX13_odds : aM := (yX13_odds, cX13_odds, 3, some .boolean)
theorem fx_X13_odds : aFix mX13_odds 2 := ⟨by decide +kernel, wd_1926, Nat.le_of_ble_eq_true rfl, wd_134, ⟨by decide +kernel, by decide +kernel⟩, by decide +kernel⟩
abbrev mX13_divisor : aM := (yX13_divisor, cX13_divisor, 10, some .long)
theorem fx_X13_divisor : aFix mX13_divisor 2 := ⟨by decide +kernel, wd_1935, Nat.le_of_ble_eq_true rfl, wd_134, ⟨by decide +kernel, by decide +kernel⟩, by decide +kernel⟩
abbrev mX13_likely : aM := (yX13_likely, cX13_likely, 14, some .long)
theorem fx_X13_likely : aFix mX13_likely 4 := ⟨by decide +kernel, wd_1930, Nat.le_of_ble_eq_true rfl, wd_134, ⟨by decide +kernel, by decide +kernel⟩, by decide +kernel⟩
abbrev mX13_isWithoutNought : aM := (yX13_isWithoutNought, cX13_isWithoutNought, 2, some .boolean)
theorem fx_X13_isWithoutNought : aFix mX13_isWithoutNought 1 := ⟨by decide +kernel, wd_1942, Nat.le_of_ble_eq_true rfl, wd_134, ⟨by decide +kernel, by decide +kernel⟩, by decide +kernel⟩
abbrev mX13_code : aM := (yX13_code, cX13_code, 3, some .int)
theorem fx_X13_code : aFix mX13_code 1 := ⟨by decide +kernel, wd_1939, Nat.le_of_ble_eq_true rfl, wd_134, ⟨by decide +kernel, by decide +kernel⟩, by decide +kernel⟩
abbrev mX13_longOf : aM := (yX13_longOf, cX13_longOf, 1, some .int)
theorem fx_X13_longOf : aFix mX13_longOf 1 := ⟨by decide +kernel, wd_1956, Nat.le_of_ble_eq_true rfl, wd_134, ⟨by decide +kernel, by decide +kernel⟩, by decide +kernel⟩
abbrev mX13_tensOf : aM := (yX13_tensOf, cX13_tensOf, 3, some .int)
theorem fx_X13_tensOf : aFix mX13_tensOf 1 := ⟨by decide +kernel, wd_1959, Nat.le_of_ble_eq_true rfl, wd_134, ⟨by decide +kernel, by decide +kernel⟩, by decide +kernel⟩
abbrev mX13_restOf : aM := (yX13_restOf, cX13_restOf, 3, some .int)
theorem fx_X13_restOf : aFix mX13_restOf 2 := ⟨by decide +kernel, wd_1953, Nat.le_of_ble_eq_true rfl, wd_134, ⟨by decide +kernel, by decide +kernel⟩, by decide +kernel⟩
abbrev mX13_isShorter : aM := (yX13_isShorter, cX13_isShorter, 3, some .boolean)
theorem fx_X13_isShorter : aFix mX13_isShorter 2 := ⟨by decide +kernel, wd_1963, Nat.le_of_ble_eq_true rfl, wd_134, ⟨by decide +kernel, by decide +kernel⟩, by decide +kernel⟩
abbrev mX13_isSpread : aM := (yX13_isSpread, cX13_isSpread, 7, some .boolean)
theorem fx_X13_isSpread : aFix mX13_isSpread 1 := ⟨by decide +kernel, wd_1967, Nat.le_of_ble_eq_true rfl, wd_134, ⟨by decide +kernel, by decide +kernel⟩, by decide +kernel⟩
abbrev mX13_shortestTwo : aM := (yX13_shortestTwo, cX13_shortestTwo, 4, some .int)
theorem fx_X13_shortestTwo : aFix mX13_shortestTwo 0 := ⟨by decide +kernel, wd_1950, Nat.le_of_ble_eq_true rfl, wd_134, ⟨by decide +kernel, by decide +kernel⟩, by decide +kernel⟩
abbrev mX13_clear : aM := (yX13_clear, cX13_clear, 3, some .int)
theorem fx_X13_clear : aFix mX13_clear 1 := ⟨by decide +kernel, wd_1946, Nat.le_of_ble_eq_true rfl, wd_134, ⟨by decide +kernel, by decide +kernel⟩, by decide +kernel⟩
abbrev mX13_digitsOf : aM := (yX13_digitsOf, cX13_digitsOf, 3, some .int)
theorem fx_X13_digitsOf : aFix mX13_digitsOf 1 := ⟨by decide +kernel, wd_1975, Nat.le_of_ble_eq_true rfl, wd_134, ⟨by decide +kernel, by decide +kernel⟩, by decide +kernel⟩
abbrev mX13_reads : aM := (yX13_reads, cX13_reads, 7, some .long)
theorem fx_X13_reads : aFix mX13_reads 1 := ⟨by decide +kernel, wd_1971, Nat.le_of_ble_eq_true rfl, wd_134, ⟨by decide +kernel, by decide +kernel⟩, by decide +kernel⟩
abbrev mX13_isLetter : aM := (yX13_isLetter, cX13_isLetter, 1, some .boolean)
theorem fx_X13_isLetter : aFix mX13_isLetter 1 := ⟨by decide +kernel, wd_1982, Nat.le_of_ble_eq_true rfl, wd_134, ⟨by decide +kernel, by decide +kernel⟩, by decide +kernel⟩
abbrev mX13_halves : aM := (yX13_halves, cX13_halves, 3, some .boolean)
theorem fx_X13_halves : aFix mX13_halves 2 := ⟨by decide +kernel, wd_1979, Nat.le_of_ble_eq_true rfl, wd_134, ⟨by decide +kernel, by decide +kernel⟩, by decide +kernel⟩
abbrev mX13_canSort : aM := (yX13_canSort, cX13_canSort, 3, some .boolean)
theorem fx_X13_canSort : aFix mX13_canSort 1 := ⟨by decide +kernel, wd_1998, Nat.le_of_ble_eq_true rfl, wd_134, ⟨by decide +kernel, by decide +kernel⟩, by decide +kernel⟩
abbrev mX13_areSorted : aM := (yX13_areSorted, cX13_areSorted, 5, some .boolean)
theorem fx_X13_areSorted : aFix mX13_areSorted 2 := ⟨by decide +kernel, wd_1994, Nat.le_of_ble_eq_true rfl, wd_134, ⟨by decide +kernel, by decide +kernel⟩, by decide +kernel⟩
abbrev mX13_laySorters : aM := (yX13_laySorters, cX13_laySorters, 3, some .int)
theorem fx_X13_laySorters : aFix mX13_laySorters 1 := ⟨by decide +kernel, wd_1990, Nat.le_of_ble_eq_true rfl, wd_134, ⟨by decide +kernel, by decide +kernel⟩, by decide +kernel⟩
abbrev mX13_sorters : aM := (yX13_sorters, cX13_sorters, 2, some .int)
theorem fx_X13_sorters : aFix mX13_sorters 1 := ⟨by decide +kernel, wd_1986, Nat.le_of_ble_eq_true rfl, wd_134, ⟨by decide +kernel, by decide +kernel⟩, by decide +kernel⟩
abbrev mX13_sorter : aM := (yX13_sorter, cX13_sorter, 3, some .int)
theorem fx_X13_sorter : aFix mX13_sorter 2 := ⟨by decide +kernel, wd_2002, Nat.le_of_ble_eq_true rfl, wd_134, ⟨by decide +kernel, by decide +kernel⟩, by decide +kernel⟩
abbrev mX13_writes : aM := (yX13_writes, cX13_writes, 3, some .boolean)
theorem fx_X13_writes : aFix mX13_writes 2 := ⟨by decide +kernel, wd_2006, Nat.le_of_ble_eq_true rfl, wd_134, ⟨by decide +kernel, by decide +kernel⟩, by decide +kernel⟩
abbrev mX13_countOrders : aM := (yX13_countOrders, cX13_countOrders, 8, some .long)
theorem fx_X13_countOrders : aFix mX13_countOrders 3 := ⟨by decide +kernel, wd_2014, Nat.le_of_ble_eq_true rfl, wd_134, ⟨by decide +kernel, by decide +kernel⟩, by decide +kernel⟩
abbrev mX13_orders : aM := (yX13_orders, cX13_orders, 2, some .long)
theorem fx_X13_orders : aFix mX13_orders 1 := ⟨by decide +kernel, wd_2010, Nat.le_of_ble_eq_true rfl, wd_134, ⟨by decide +kernel, by decide +kernel⟩, by decide +kernel⟩
abbrev mX13_sure : aM := (yX13_sure, cX13_sure, 8, some .int)
theorem fx_X13_sure : aFix mX13_sure 3 := ⟨by decide +kernel, wd_2018, Nat.le_of_ble_eq_true rfl, wd_134, ⟨by decide +kernel, by decide +kernel⟩, by decide +kernel⟩
abbrev mX13_said : aM := (yX13_said, cX13_said, 3, some .int)
theorem fx_X13_said : aFix mX13_said 2 := ⟨by decide +kernel, wd_2022, Nat.le_of_ble_eq_true rfl, wd_134, ⟨by decide +kernel, by decide +kernel⟩, by decide +kernel⟩
abbrev mX13_whose : aM := (yX13_whose, cX13_whose, 5, some .int)
theorem fx_X13_whose : aFix mX13_whose 0 := ⟨by decide +kernel, wd_2026, Nat.le_of_ble_eq_true rfl, wd_134, ⟨by decide +kernel, by decide +kernel⟩, by decide +kernel⟩
abbrev mX13_image : aM := (yX13_image, cX13_image, 1, some .int)
theorem fx_X13_image : aFix mX13_image 0 := ⟨by decide +kernel, wd_2030, Nat.le_of_ble_eq_true rfl, wd_134, ⟨by decide +kernel, by decide +kernel⟩, by decide +kernel⟩
abbrev mX13_back : aM := (yX13_back, cX13_back, 1, some .int)
theorem fx_X13_back : aFix mX13_back 0 := ⟨by decide +kernel, wd_2034, Nat.le_of_ble_eq_true rfl, wd_134, ⟨by decide +kernel, by decide +kernel⟩, by decide +kernel⟩
abbrev mX13_about : aM := (yX13_about, cX13_about, 2, some .int)
theorem fx_X13_about : aFix mX13_about 1 := ⟨by decide +kernel, wd_2038, Nat.le_of_ble_eq_true rfl, wd_134, ⟨by decide +kernel, by decide +kernel⟩, by decide +kernel⟩
abbrev mJ9_floorMod_7cf53 : aM := (yJ9_floorMod_7cf53, cJ9_floorMod_7cf53, 3, some .int)
theorem fx_J9_floorMod_7cf53 : aFix mJ9_floorMod_7cf53 2 := ⟨by decide +kernel, wd_890, Nat.le_of_ble_eq_true rfl, wd_135, ⟨by decide +kernel, by decide +kernel⟩, by decide +kernel⟩
abbrev mJ9_max_7cf53 : aM := (yJ9_max_7cf53, cJ9_max_7cf53, 2, some .int)
theorem fx_J9_max_7cf53 : aFix mJ9_max_7cf53 2 := ⟨by decide +kernel, wd_718, Nat.le_of_ble_eq_true rfl, wd_135, ⟨by decide +kernel, by decide +kernel⟩, by decide +kernel⟩
abbrev mJ9_max_f86c9 : aM := (yJ9_max_f86c9, cJ9_max_f86c9, 4, some .long)
theorem fx_J9_max_f86c9 : aFix mJ9_max_f86c9 2 := ⟨by decide +kernel, wd_935, Nat.le_of_ble_eq_true rfl, wd_135, ⟨by decide +kernel, by decide +kernel⟩, by decide +kernel⟩
abbrev mJ9_min_7cf53 : aM := (yJ9_min_7cf53, cJ9_min_7cf53, 2, some .int)
theorem fx_J9_min_7cf53 : aFix mJ9_min_7cf53 2 := ⟨by decide +kernel, wd_560, Nat.le_of_ble_eq_true rfl, wd_135, ⟨by decide +kernel, by decide +kernel⟩, by decide +kernel⟩
abbrev mJ9_min_f86c9 : aM := (yJ9_min_f86c9, cJ9_min_f86c9, 4, some .long)
theorem fx_J9_min_f86c9 : aFix mJ9_min_f86c9 2 := ⟨by decide +kernel, wd_932, Nat.le_of_ble_eq_true rfl, wd_135, ⟨by decide +kernel, by decide +kernel⟩, by decide +kernel⟩
abbrev mJ0_length_8abf5 : aM := (yJ0_length_8abf5, cJ0_length_8abf5, 1, some .int)
theorem fx_J0_length_8abf5 : aFix mJ0_length_8abf5 0 := ⟨by decide +kernel, wd_572, Nat.le_of_ble_eq_true rfl, wd_136, ⟨by decide +kernel, by decide +kernel⟩, by decide +kernel⟩
abbrev mJ0_charAt_5068e : aM := (yJ0_charAt_5068e, cJ0_charAt_5068e, 2, some .char)
theorem fx_J0_charAt_5068e : aFix mJ0_charAt_5068e 1 := ⟨by decide +kernel, wd_582, Nat.le_of_ble_eq_true rfl, wd_136, ⟨by decide +kernel, by decide +kernel⟩, by decide +kernel⟩
abbrev mJ0_coder_7d493 : aM := (yJ0_coder_7d493, cJ0_coder_7d493, 1, some .byte)
theorem fx_J0_coder_7d493 : aFix mJ0_coder_7d493 0 := ⟨by decide +kernel, wd_576, Nat.le_of_ble_eq_true rfl, wd_136, ⟨by decide +kernel, by decide +kernel⟩, by decide +kernel⟩
abbrev mJ0_isLatin1_aae02 : aM := (yJ0_isLatin1_aae02, cJ0_isLatin1_aae02, 1, some .boolean)
theorem fx_J0_isLatin1_aae02 : aFix mJ0_isLatin1_aae02 0 := ⟨by decide +kernel, wd_586, Nat.le_of_ble_eq_true rfl, wd_136, ⟨by decide +kernel, by decide +kernel⟩, by decide +kernel⟩
abbrev mJ0_checkIndex_df160 : aM := (yJ0_checkIndex_df160, cJ0_checkIndex_df160, 2, none)
theorem fx_J0_checkIndex_df160 : aFix mJ0_checkIndex_df160 2 := ⟨by decide +kernel, wd_592, Nat.le_of_ble_eq_true rfl, wd_136, ⟨by decide +kernel, by decide +kernel⟩, by decide +kernel⟩
abbrev mJ1_charAt_3b067 : aM := (yJ1_charAt_3b067, cJ1_charAt_3b067, 2, some .char)
theorem fx_J1_charAt_3b067 : aFix mJ1_charAt_3b067 2 := ⟨by decide +kernel, wd_589, Nat.le_of_ble_eq_true rfl, wd_137, ⟨by decide +kernel, by decide +kernel⟩, by decide +kernel⟩
abbrev mJ7_fill_53178 : aM := (yJ7_fill_53178, cJ7_fill_53178, 4, none)
theorem fx_J7_fill_53178 : aFix mJ7_fill_53178 2 := ⟨by decide +kernel, wd_1183, Nat.le_of_ble_eq_true rfl, wd_140, ⟨by decide +kernel, by decide +kernel⟩, by decide +kernel⟩
abbrev mJ7_copyOf_59c91 : aM := (yJ7_copyOf_59c91, cJ7_copyOf_59c91, 3, some (.array .int))
theorem fx_J7_copyOf_59c91 : aFix mJ7_copyOf_59c91 2 := ⟨by decide +kernel, wd_721, Nat.le_of_ble_eq_true rfl, wd_140, ⟨by decide +kernel, by decide +kernel⟩, by decide +kernel⟩
abbrev mJ3_checkIndex_8e157 : aM := (yJ3_checkIndex_8e157, cJ3_checkIndex_8e157, 3, some .int)
theorem fx_J3_checkIndex_8e157 : aFix mJ3_checkIndex_8e157 3 := ⟨by decide +kernel, wd_597, Nat.le_of_ble_eq_true rfl, wd_138, ⟨by decide +kernel, by decide +kernel⟩, by decide +kernel⟩
abbrev mL_law : aM := (yL_law, cL_law, 4, some .boolean)
theorem in_0 : ∀ w ∈ u_ws RX0 TX0 2, w ∈ aGT := by
  intro w hw
  obtain ⟨k, hk, rfl⟩ := List.mem_map.mp hw
  have hk := List.mem_range.mp hk
  rcases (show k = 0 ∨ k = 1 by omega) with rfl | rfl
  · exact wd_197
  · exact wd_199
theorem nf_0 : ∀ k, k < 2 → nfl (tyX0 k) = true := by decide +kernel
theorem in_1 : ∀ w ∈ u_ws RX1 TX1 10, w ∈ aGT := by
  intro w hw
  obtain ⟨k, hk, rfl⟩ := List.mem_map.mp hw
  have hk := List.mem_range.mp hk
  rcases (show k = 0 ∨ k = 1 ∨ k = 2 ∨ k = 3 ∨ k = 4 ∨ k = 5 ∨ k = 6 ∨ k = 7 ∨ k = 8 ∨ k = 9 by omega) with rfl | rfl | rfl | rfl | rfl | rfl | rfl | rfl | rfl | rfl
  · exact wd_367
  · exact wd_369
  · exact wd_371
  · exact wd_373
  · exact wd_375
  · exact wd_377
  · exact wd_379
  · exact wd_381
  · exact wd_383
  · exact wd_385
theorem nf_1 : ∀ k, k < 10 → nfl (tyX1 k) = true := by decide +kernel
theorem in_2 : ∀ w ∈ u_ws RX2 TX2 2, w ∈ aGT := by
  intro w hw
  obtain ⟨k, hk, rfl⟩ := List.mem_map.mp hw
  have hk := List.mem_range.mp hk
  rcases (show k = 0 ∨ k = 1 by omega) with rfl | rfl
  · exact wd_396
  · exact wd_398
theorem nf_2 : ∀ k, k < 2 → nfl (tyX2 k) = true := by decide +kernel
theorem in_3 : ∀ w ∈ u_ws RX3 TX3 6, w ∈ aGT := by
  intro w hw
  obtain ⟨k, hk, rfl⟩ := List.mem_map.mp hw
  have hk := List.mem_range.mp hk
  rcases (show k = 0 ∨ k = 1 ∨ k = 2 ∨ k = 3 ∨ k = 4 ∨ k = 5 by omega) with rfl | rfl | rfl | rfl | rfl | rfl
  · exact wd_444
  · exact wd_446
  · exact wd_448
  · exact wd_450
  · exact wd_452
  · exact wd_454
theorem nf_3 : ∀ k, k < 6 → nfl (tyX3 k) = true := by decide +kernel
theorem in_4 : ∀ w ∈ u_ws RX4 TX4 7, w ∈ aGT := by
  intro w hw
  obtain ⟨k, hk, rfl⟩ := List.mem_map.mp hw
  have hk := List.mem_range.mp hk
  rcases (show k = 0 ∨ k = 1 ∨ k = 2 ∨ k = 3 ∨ k = 4 ∨ k = 5 ∨ k = 6 by omega) with rfl | rfl | rfl | rfl | rfl | rfl | rfl
  · exact wd_416
  · exact wd_418
  · exact wd_420
  · exact wd_422
  · exact wd_424
  · exact wd_426
  · exact wd_428
theorem nf_4 : ∀ k, k < 7 → nfl (tyX4 k) = true := by decide +kernel
theorem in_5 : ∀ w ∈ u_ws RX5 TX5 12, w ∈ aGT := by
  intro w hw
  obtain ⟨k, hk, rfl⟩ := List.mem_map.mp hw
  have hk := List.mem_range.mp hk
  rcases (show k = 0 ∨ k = 1 ∨ k = 2 ∨ k = 3 ∨ k = 4 ∨ k = 5 ∨ k = 6 ∨ k = 7 ∨ k = 8 ∨ k = 9 ∨ k = 10 ∨ k = 11 by omega) with rfl | rfl | rfl | rfl | rfl | rfl | rfl | rfl | rfl | rfl | rfl | rfl
  · exact wd_265
  · exact wd_267
  · exact wd_269
  · exact wd_271
  · exact wd_273
  · exact wd_275
  · exact wd_277
  · exact wd_279
  · exact wd_281
  · exact wd_283
  · exact wd_285
  · exact wd_287
theorem nf_5 : ∀ k, k < 12 → nfl (tyX5 k) = true := by decide +kernel
theorem in_6 : ∀ w ∈ u_ws RX6 TX6 5, w ∈ aGT := by
  intro w hw
  obtain ⟨k, hk, rfl⟩ := List.mem_map.mp hw
  have hk := List.mem_range.mp hk
  rcases (show k = 0 ∨ k = 1 ∨ k = 2 ∨ k = 3 ∨ k = 4 by omega) with rfl | rfl | rfl | rfl | rfl
  · exact wd_213
  · exact wd_215
  · exact wd_217
  · exact wd_219
  · exact wd_221
theorem nf_6 : ∀ k, k < 5 → nfl (tyX6 k) = true := by decide +kernel
theorem in_7 : ∀ w ∈ u_ws RX7 TX7 4, w ∈ aGT := by
  intro w hw
  obtain ⟨k, hk, rfl⟩ := List.mem_map.mp hw
  have hk := List.mem_range.mp hk
  rcases (show k = 0 ∨ k = 1 ∨ k = 2 ∨ k = 3 by omega) with rfl | rfl | rfl | rfl
  · exact wd_172
  · exact wd_174
  · exact wd_176
  · exact wd_178
theorem nf_7 : ∀ k, k < 4 → nfl (tyX7 k) = true := by decide +kernel
theorem in_8 : ∀ w ∈ u_ws RX8 TX8 2, w ∈ aGT := by
  intro w hw
  obtain ⟨k, hk, rfl⟩ := List.mem_map.mp hw
  have hk := List.mem_range.mp hk
  rcases (show k = 0 ∨ k = 1 by omega) with rfl | rfl
  · exact wd_236
  · exact wd_238
theorem nf_8 : ∀ k, k < 2 → nfl (tyX8 k) = true := by decide +kernel
theorem in_9 : ∀ w ∈ u_ws RX9 TX9 6, w ∈ aGT := by
  intro w hw
  obtain ⟨k, hk, rfl⟩ := List.mem_map.mp hw
  have hk := List.mem_range.mp hk
  rcases (show k = 0 ∨ k = 1 ∨ k = 2 ∨ k = 3 ∨ k = 4 ∨ k = 5 by omega) with rfl | rfl | rfl | rfl | rfl | rfl
  · exact wd_336
  · exact wd_338
  · exact wd_340
  · exact wd_342
  · exact wd_344
  · exact wd_346
theorem nf_9 : ∀ k, k < 6 → nfl (tyX9 k) = true := by decide +kernel
theorem in_10 : ∀ w ∈ u_ws RX10 TX10 3, w ∈ aGT := by
  intro w hw
  obtain ⟨k, hk, rfl⟩ := List.mem_map.mp hw
  have hk := List.mem_range.mp hk
  rcases (show k = 0 ∨ k = 1 ∨ k = 2 by omega) with rfl | rfl | rfl
  · exact wd_753
  · exact wd_755
  · exact wd_757
theorem nf_10 : ∀ k, k < 3 → nfl (tyX10 k) = true := by decide +kernel
theorem in_11 : ∀ w ∈ u_ws RX11 TX11 7, w ∈ aGT := by
  intro w hw
  obtain ⟨k, hk, rfl⟩ := List.mem_map.mp hw
  have hk := List.mem_range.mp hk
  rcases (show k = 0 ∨ k = 1 ∨ k = 2 ∨ k = 3 ∨ k = 4 ∨ k = 5 ∨ k = 6 by omega) with rfl | rfl | rfl | rfl | rfl | rfl | rfl
  · exact wd_305
  · exact wd_307
  · exact wd_309
  · exact wd_311
  · exact wd_313
  · exact wd_315
  · exact wd_317
theorem nf_11 : ∀ k, k < 7 → nfl (tyX11 k) = true := by decide +kernel
theorem in_12 : ∀ w ∈ u_ws RX12 TX12 10, w ∈ aGT := by
  intro w hw
  obtain ⟨k, hk, rfl⟩ := List.mem_map.mp hw
  have hk := List.mem_range.mp hk
  rcases (show k = 0 ∨ k = 1 ∨ k = 2 ∨ k = 3 ∨ k = 4 ∨ k = 5 ∨ k = 6 ∨ k = 7 ∨ k = 8 ∨ k = 9 by omega) with rfl | rfl | rfl | rfl | rfl | rfl | rfl | rfl | rfl | rfl
  · exact wd_470
  · exact wd_472
  · exact wd_474
  · exact wd_476
  · exact wd_478
  · exact wd_480
  · exact wd_482
  · exact wd_484
  · exact wd_486
  · exact wd_488
theorem nf_12 : ∀ k, k < 10 → nfl (tyX12 k) = true := by decide +kernel
theorem in_13 : ∀ w ∈ u_ws RX13 TX13 34, w ∈ aGT := by
  intro w hw
  obtain ⟨k, hk, rfl⟩ := List.mem_map.mp hw
  have hk := List.mem_range.mp hk
  rcases (show k = 0 ∨ k = 1 ∨ k = 2 ∨ k = 3 ∨ k = 4 ∨ k = 5 ∨ k = 6 ∨ k = 7 ∨ k = 8 ∨ k = 9 ∨ k = 10 ∨ k = 11 ∨ k = 12 ∨ k = 13 ∨ k = 14 ∨ k = 15 ∨ k = 16 ∨ k = 17 ∨ k = 18 ∨ k = 19 ∨ k = 20 ∨ k = 21 ∨ k = 22 ∨ k = 23 ∨ k = 24 ∨ k = 25 ∨ k = 26 ∨ k = 27 ∨ k = 28 ∨ k = 29 ∨ k = 30 ∨ k = 31 ∨ k = 32 ∨ k = 33 by omega) with rfl | rfl | rfl | rfl | rfl | rfl | rfl | rfl | rfl | rfl | rfl | rfl | rfl | rfl | rfl | rfl | rfl | rfl | rfl | rfl | rfl | rfl | rfl | rfl | rfl | rfl | rfl | rfl | rfl | rfl | rfl | rfl | rfl | rfl
  · exact wd_1386
  · exact wd_1388
  · exact wd_1390
  · exact wd_1392
  · exact wd_1394
  · exact wd_1396
  · exact wd_1398
  · exact wd_1400
  · exact wd_1402
  · exact wd_1404
  · exact wd_1406
  · exact wd_1408
  · exact wd_1410
  · exact wd_1412
  · exact wd_1414
  · exact wd_1416
  · exact wd_1418
  · exact wd_1420
  · exact wd_1422
  · exact wd_1424
  · exact wd_1426
  · exact wd_1428
  · exact wd_1430
  · exact wd_1432
  · exact wd_1434
  · exact wd_1436
  · exact wd_1438
  · exact wd_1440
  · exact wd_1442
  · exact wd_1444
  · exact wd_1446
  · exact wd_1448
  · exact wd_1450
  · exact wd_1452
theorem nf_13 : ∀ k, k < 34 → nfl (tyX13 k) = true := by decide +kernel
