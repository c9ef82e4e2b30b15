-- ===== PART A: goes FIRST, ahead of the names: the tables' words, and 'selects' of the private methods out of them =====
/-- a private method of a class that the tables say can be made, by its rows of tables_1 -/
def lw_okq (q : MethodName × Nat) : Prop := (q.1.cls ≠ "java/lang/invoke/MethodHandle" ∧ q.1.cls ≠ "java/lang/invoke/VarHandle") ∧ Cond.instantiable q.1.cls q.2 ∈ tables_1 ∧ Cond.privateMethod q.1 ∈ tables_1 ∧ Cond.instanceMethod q.1 ∈ tables_1
theorem lw_p0 : lw_okq (⟨"CartRows$Text", "advance", "()V"⟩, 5) := ⟨⟨by decide +kernel, by decide +kernel⟩, List.mem_of_getElem? (i := 27) (by decide +kernel), List.mem_of_getElem? (i := 392) (by decide +kernel), List.mem_of_getElem? (i := 393) (by decide +kernel)⟩
theorem lw_p1 : lw_okq (⟨"CartRows$Text", "isAtEnd", "()Z"⟩, 5) := ⟨⟨by decide +kernel, by decide +kernel⟩, List.mem_of_getElem? (i := 27) (by decide +kernel), List.mem_of_getElem? (i := 396) (by decide +kernel), List.mem_of_getElem? (i := 397) (by decide +kernel)⟩
theorem lw_p2 : lw_okq (⟨"CartRows$Text", "parseLine", "(I)Z"⟩, 5) := ⟨⟨by decide +kernel, by decide +kernel⟩, List.mem_of_getElem? (i := 27) (by decide +kernel), List.mem_of_getElem? (i := 406) (by decide +kernel), List.mem_of_getElem? (i := 407) (by decide +kernel)⟩
theorem lw_p3 : lw_okq (⟨"CartRows$Text", "parseWish", "(I)Z"⟩, 5) := ⟨⟨by decide +kernel, by decide +kernel⟩, List.mem_of_getElem? (i := 27) (by decide +kernel), List.mem_of_getElem? (i := 410) (by decide +kernel), List.mem_of_getElem? (i := 411) (by decide +kernel)⟩
theorem lw_p4 : lw_okq (⟨"CartRows$Text", "isWord", "(Ljava/lang/String;)Z"⟩, 5) := ⟨⟨by decide +kernel, by decide +kernel⟩, List.mem_of_getElem? (i := 27) (by decide +kernel), List.mem_of_getElem? (i := 415) (by decide +kernel), List.mem_of_getElem? (i := 416) (by decide +kernel)⟩
theorem lw_p5 : lw_okq (⟨"CartRows$Text", "isNumber", "()Z"⟩, 5) := ⟨⟨by decide +kernel, by decide +kernel⟩, List.mem_of_getElem? (i := 27) (by decide +kernel), List.mem_of_getElem? (i := 469) (by decide +kernel), List.mem_of_getElem? (i := 470) (by decide +kernel)⟩
theorem lw_p6 : lw_okq (⟨"CartRows$Text", "number", "()I"⟩, 5) := ⟨⟨by decide +kernel, by decide +kernel⟩, List.mem_of_getElem? (i := 27) (by decide +kernel), List.mem_of_getElem? (i := 473) (by decide +kernel), List.mem_of_getElem? (i := 474) (by decide +kernel)⟩
theorem lw_p7 : lw_okq (⟨"CartRows$Text", "parseTest", "(II)Z"⟩, 5) := ⟨⟨by decide +kernel, by decide +kernel⟩, List.mem_of_getElem? (i := 27) (by decide +kernel), List.mem_of_getElem? (i := 478) (by decide +kernel), List.mem_of_getElem? (i := 479) (by decide +kernel)⟩
theorem lw_p8 : lw_okq (⟨"CartRows$Text", "readingNamed", "()I"⟩, 5) := ⟨⟨by decide +kernel, by decide +kernel⟩, List.mem_of_getElem? (i := 27) (by decide +kernel), List.mem_of_getElem? (i := 482) (by decide +kernel), List.mem_of_getElem? (i := 483) (by decide +kernel)⟩
theorem lw_p9 : lw_okq (⟨"CartRows$Text", "isSign", "(I)Z"⟩, 5) := ⟨⟨by decide +kernel, by decide +kernel⟩, List.mem_of_getElem? (i := 27) (by decide +kernel), List.mem_of_getElem? (i := 495) (by decide +kernel), List.mem_of_getElem? (i := 496) (by decide +kernel)⟩
theorem lw_p10 : lw_okq (⟨"CartRows", "isNoFollower", "(I)Z"⟩, 6) := ⟨⟨by decide +kernel, by decide +kernel⟩, List.mem_of_getElem? (i := 19) (by decide +kernel), List.mem_of_getElem? (i := 539) (by decide +kernel), List.mem_of_getElem? (i := 540) (by decide +kernel)⟩
theorem lw_p11 : lw_okq (⟨"CartRows", "isNoLorry", "(I)Z"⟩, 6) := ⟨⟨by decide +kernel, by decide +kernel⟩, List.mem_of_getElem? (i := 19) (by decide +kernel), List.mem_of_getElem? (i := 547) (by decide +kernel), List.mem_of_getElem? (i := 548) (by decide +kernel)⟩
theorem lw_p12 : lw_okq (⟨"CartRows", "driveAsTold", "()V"⟩, 6) := ⟨⟨by decide +kernel, by decide +kernel⟩, List.mem_of_getElem? (i := 19) (by decide +kernel), List.mem_of_getElem? (i := 552) (by decide +kernel), List.mem_of_getElem? (i := 553) (by decide +kernel)⟩
theorem lw_p13 : lw_okq (⟨"CartRows$Run", "begin", "(LCartRows$Road;I)V"⟩, 10) := ⟨⟨by decide +kernel, by decide +kernel⟩, List.mem_of_getElem? (i := 202) (by decide +kernel), List.mem_of_getElem? (i := 560) (by decide +kernel), List.mem_of_getElem? (i := 561) (by decide +kernel)⟩
theorem lw_p14 : lw_okq (⟨"CartRows$Run", "pass", "(LCartRows$Road;III)V"⟩, 10) := ⟨⟨by decide +kernel, by decide +kernel⟩, List.mem_of_getElem? (i := 202) (by decide +kernel), List.mem_of_getElem? (i := 564) (by decide +kernel), List.mem_of_getElem? (i := 565) (by decide +kernel)⟩
theorem lw_p15 : lw_okq (⟨"CartRows$Run", "meetStranger", "(LCartRows$Road;I)V"⟩, 10) := ⟨⟨by decide +kernel, by decide +kernel⟩, List.mem_of_getElem? (i := 202) (by decide +kernel), List.mem_of_getElem? (i := 568) (by decide +kernel), List.mem_of_getElem? (i := 569) (by decide +kernel)⟩
def lw_privs_1 : List (MethodName × Nat) := [(⟨"CartRows$Text", "advance", "()V"⟩, 5), (⟨"CartRows$Text", "isAtEnd", "()Z"⟩, 5), (⟨"CartRows$Text", "parseLine", "(I)Z"⟩, 5), (⟨"CartRows$Text", "parseWish", "(I)Z"⟩, 5), (⟨"CartRows$Text", "isWord", "(Ljava/lang/String;)Z"⟩, 5), (⟨"CartRows$Text", "isNumber", "()Z"⟩, 5), (⟨"CartRows$Text", "number", "()I"⟩, 5), (⟨"CartRows$Text", "parseTest", "(II)Z"⟩, 5), (⟨"CartRows$Text", "readingNamed", "()I"⟩, 5), (⟨"CartRows$Text", "isSign", "(I)Z"⟩, 5), (⟨"CartRows", "isNoFollower", "(I)Z"⟩, 6), (⟨"CartRows", "isNoLorry", "(I)Z"⟩, 6), (⟨"CartRows", "driveAsTold", "()V"⟩, 6), (⟨"CartRows$Run", "begin", "(LCartRows$Road;I)V"⟩, 10), (⟨"CartRows$Run", "pass", "(LCartRows$Road;III)V"⟩, 10), (⟨"CartRows$Run", "meetStranger", "(LCartRows$Road;I)V"⟩, 10)]
theorem lw_r1 : ∀ q ∈ lw_privs_1, lw_okq q := List.forall_mem_cons.mpr ⟨lw_p0, List.forall_mem_cons.mpr ⟨lw_p1, List.forall_mem_cons.mpr ⟨lw_p2, List.forall_mem_cons.mpr ⟨lw_p3, List.forall_mem_cons.mpr ⟨lw_p4, List.forall_mem_cons.mpr ⟨lw_p5, List.forall_mem_cons.mpr ⟨lw_p6, List.forall_mem_cons.mpr ⟨lw_p7, List.forall_mem_cons.mpr ⟨lw_p8, List.forall_mem_cons.mpr ⟨lw_p9, List.forall_mem_cons.mpr ⟨lw_p10, List.forall_mem_cons.mpr ⟨lw_p11, List.forall_mem_cons.mpr ⟨lw_p12, List.forall_mem_cons.mpr ⟨lw_p13, List.forall_mem_cons.mpr ⟨lw_p14, List.forall_mem_cons.mpr ⟨lw_p15, fun _ h => absurd h List.not_mem_nil⟩⟩⟩⟩⟩⟩⟩⟩⟩⟩⟩⟩⟩⟩⟩⟩
theorem lw_p16 : lw_okq (⟨"CartRows$Run", "hear", "(III)V"⟩, 10) := ⟨⟨by decide +kernel, by decide +kernel⟩, List.mem_of_getElem? (i := 202) (by decide +kernel), List.mem_of_getElem? (i := 572) (by decide +kernel), List.mem_of_getElem? (i := 573) (by decide +kernel)⟩
theorem lw_p17 : lw_okq (⟨"CartRows$Run", "read", "(LCartRows$Road;II)V"⟩, 10) := ⟨⟨by decide +kernel, by decide +kernel⟩, List.mem_of_getElem? (i := 202) (by decide +kernel), List.mem_of_getElem? (i := 595) (by decide +kernel), List.mem_of_getElem? (i := 596) (by decide +kernel)⟩
theorem lw_p18 : lw_okq (⟨"CartRows$Table", "holds", "(I[I)Z"⟩, 6) := ⟨⟨by decide +kernel, by decide +kernel⟩, List.mem_of_getElem? (i := 33) (by decide +kernel), List.mem_of_getElem? (i := 608) (by decide +kernel), List.mem_of_getElem? (i := 609) (by decide +kernel)⟩
theorem lw_p19 : lw_okq (⟨"CartRows$Run", "speedBehind", "(LCartRows$Road;II)I"⟩, 10) := ⟨⟨by decide +kernel, by decide +kernel⟩, List.mem_of_getElem? (i := 202) (by decide +kernel), List.mem_of_getElem? (i := 612) (by decide +kernel), List.mem_of_getElem? (i := 613) (by decide +kernel)⟩
theorem lw_p20 : lw_okq (⟨"CartRows$Run", "go", "(LCartRows$Road;I)V"⟩, 10) := ⟨⟨by decide +kernel, by decide +kernel⟩, List.mem_of_getElem? (i := 202) (by decide +kernel), List.mem_of_getElem? (i := 621) (by decide +kernel), List.mem_of_getElem? (i := 622) (by decide +kernel)⟩
theorem lw_p21 : lw_okq (⟨"CartRows$Run", "noteTouch", "(LCartRows$Road;I)V"⟩, 10) := ⟨⟨by decide +kernel, by decide +kernel⟩, List.mem_of_getElem? (i := 202) (by decide +kernel), List.mem_of_getElem? (i := 625) (by decide +kernel), List.mem_of_getElem? (i := 626) (by decide +kernel)⟩
theorem lw_p22 : lw_okq (⟨"CartRows$Journeys", "burnt", "(LCartRows$Road;II)I"⟩, 8) := ⟨⟨by decide +kernel, by decide +kernel⟩, List.mem_of_getElem? (i := 248) (by decide +kernel), List.mem_of_getElem? (i := 717) (by decide +kernel), List.mem_of_getElem? (i := 718) (by decide +kernel)⟩
theorem lw_p23 : lw_okq (⟨"CartRows$Journeys", "leavesWith", "(III)Z"⟩, 8) := ⟨⟨by decide +kernel, by decide +kernel⟩, List.mem_of_getElem? (i := 248) (by decide +kernel), List.mem_of_getElem? (i := 721) (by decide +kernel), List.mem_of_getElem? (i := 722) (by decide +kernel)⟩
theorem lw_p24 : lw_okq (⟨"CartRows$Journeys", "leads", "(LCartRows$Road;II)Z"⟩, 8) := ⟨⟨by decide +kernel, by decide +kernel⟩, List.mem_of_getElem? (i := 248) (by decide +kernel), List.mem_of_getElem? (i := 725) (by decide +kernel), List.mem_of_getElem? (i := 726) (by decide +kernel)⟩
theorem lw_p25 : lw_okq (⟨"CartRows$Journeys", "choices", "()I"⟩, 8) := ⟨⟨by decide +kernel, by decide +kernel⟩, List.mem_of_getElem? (i := 248) (by decide +kernel), List.mem_of_getElem? (i := 733) (by decide +kernel), List.mem_of_getElem? (i := 734) (by decide +kernel)⟩
theorem lw_p26 : lw_okq (⟨"CartRows$Journeys", "turn", "()V"⟩, 8) := ⟨⟨by decide +kernel, by decide +kernel⟩, List.mem_of_getElem? (i := 248) (by decide +kernel), List.mem_of_getElem? (i := 737) (by decide +kernel), List.mem_of_getElem? (i := 738) (by decide +kernel)⟩
theorem lw_p27 : lw_okq (⟨"CartRows$Shares", "sumOverOrders", "(II)I"⟩, 1) := ⟨⟨by decide +kernel, by decide +kernel⟩, List.mem_of_getElem? (i := 287) (by decide +kernel), List.mem_of_getElem? (i := 769) (by decide +kernel), List.mem_of_getElem? (i := 770) (by decide +kernel)⟩
theorem lw_p28 : lw_okq (⟨"CartRows", "isNoEvent", "(I)Z"⟩, 6) := ⟨⟨by decide +kernel, by decide +kernel⟩, List.mem_of_getElem? (i := 19) (by decide +kernel), List.mem_of_getElem? (i := 809) (by decide +kernel), List.mem_of_getElem? (i := 810) (by decide +kernel)⟩
theorem lw_p29 : lw_okq (⟨"CartRows$Clocks", "startLags", "()V"⟩, 9) := ⟨⟨by decide +kernel, by decide +kernel⟩, List.mem_of_getElem? (i := 299) (by decide +kernel), List.mem_of_getElem? (i := 821) (by decide +kernel), List.mem_of_getElem? (i := 822) (by decide +kernel)⟩
theorem lw_p30 : lw_okq (⟨"CartRows$Clocks", "heedAfter", "(III)V"⟩, 9) := ⟨⟨by decide +kernel, by decide +kernel⟩, List.mem_of_getElem? (i := 299) (by decide +kernel), List.mem_of_getElem? (i := 825) (by decide +kernel), List.mem_of_getElem? (i := 826) (by decide +kernel)⟩
theorem lw_p31 : lw_okq (⟨"CartRows$Clocks", "narrowLags", "()V"⟩, 9) := ⟨⟨by decide +kernel, by decide +kernel⟩, List.mem_of_getElem? (i := 299) (by decide +kernel), List.mem_of_getElem? (i := 830) (by decide +kernel), List.mem_of_getElem? (i := 831) (by decide +kernel)⟩
def lw_privs_2 : List (MethodName × Nat) := [(⟨"CartRows$Run", "hear", "(III)V"⟩, 10), (⟨"CartRows$Run", "read", "(LCartRows$Road;II)V"⟩, 10), (⟨"CartRows$Table", "holds", "(I[I)Z"⟩, 6), (⟨"CartRows$Run", "speedBehind", "(LCartRows$Road;II)I"⟩, 10), (⟨"CartRows$Run", "go", "(LCartRows$Road;I)V"⟩, 10), (⟨"CartRows$Run", "noteTouch", "(LCartRows$Road;I)V"⟩, 10), (⟨"CartRows$Journeys", "burnt", "(LCartRows$Road;II)I"⟩, 8), (⟨"CartRows$Journeys", "leavesWith", "(III)Z"⟩, 8), (⟨"CartRows$Journeys", "leads", "(LCartRows$Road;II)Z"⟩, 8), (⟨"CartRows$Journeys", "choices", "()I"⟩, 8), (⟨"CartRows$Journeys", "turn", "()V"⟩, 8), (⟨"CartRows$Shares", "sumOverOrders", "(II)I"⟩, 1), (⟨"CartRows", "isNoEvent", "(I)Z"⟩, 6), (⟨"CartRows$Clocks", "startLags", "()V"⟩, 9), (⟨"CartRows$Clocks", "heedAfter", "(III)V"⟩, 9), (⟨"CartRows$Clocks", "narrowLags", "()V"⟩, 9)]
theorem lw_r2 : ∀ q ∈ lw_privs_2, lw_okq q := List.forall_mem_cons.mpr ⟨lw_p16, List.forall_mem_cons.mpr ⟨lw_p17, List.forall_mem_cons.mpr ⟨lw_p18, List.forall_mem_cons.mpr ⟨lw_p19, List.forall_mem_cons.mpr ⟨lw_p20, List.forall_mem_cons.mpr ⟨lw_p21, List.forall_mem_cons.mpr ⟨lw_p22, List.forall_mem_cons.mpr ⟨lw_p23, List.forall_mem_cons.mpr ⟨lw_p24, List.forall_mem_cons.mpr ⟨lw_p25, List.forall_mem_cons.mpr ⟨lw_p26, List.forall_mem_cons.mpr ⟨lw_p27, List.forall_mem_cons.mpr ⟨lw_p28, List.forall_mem_cons.mpr ⟨lw_p29, List.forall_mem_cons.mpr ⟨lw_p30, List.forall_mem_cons.mpr ⟨lw_p31, fun _ h => absurd h List.not_mem_nil⟩⟩⟩⟩⟩⟩⟩⟩⟩⟩⟩⟩⟩⟩⟩⟩
theorem lw_p32 : lw_okq (⟨"CartRowsModel", "token", "()V"⟩, 65) := ⟨⟨by decide +kernel, by decide +kernel⟩, List.mem_of_getElem? (i := 850) (by decide +kernel), List.mem_of_getElem? (i := 1080) (by decide +kernel), List.mem_of_getElem? (i := 1081) (by decide +kernel)⟩
theorem lw_p33 : lw_okq (⟨"CartRowsModel", "readsLine", "()Z"⟩, 65) := ⟨⟨by decide +kernel, by decide +kernel⟩, List.mem_of_getElem? (i := 850) (by decide +kernel), List.mem_of_getElem? (i := 1087) (by decide +kernel), List.mem_of_getElem? (i := 1088) (by decide +kernel)⟩
theorem lw_p34 : lw_okq (⟨"CartRowsModel", "isWord", "(JI)Z"⟩, 65) := ⟨⟨by decide +kernel, by decide +kernel⟩, List.mem_of_getElem? (i := 850) (by decide +kernel), List.mem_of_getElem? (i := 1092) (by decide +kernel), List.mem_of_getElem? (i := 1093) (by decide +kernel)⟩
theorem lw_p35 : lw_okq (⟨"CartRowsModel", "skipsNumber", "()Z"⟩, 65) := ⟨⟨by decide +kernel, by decide +kernel⟩, List.mem_of_getElem? (i := 850) (by decide +kernel), List.mem_of_getElem? (i := 1099) (by decide +kernel), List.mem_of_getElem? (i := 1100) (by decide +kernel)⟩
theorem lw_p36 : lw_okq (⟨"CartRowsModel", "skips", "(JI)Z"⟩, 65) := ⟨⟨by decide +kernel, by decide +kernel⟩, List.mem_of_getElem? (i := 850) (by decide +kernel), List.mem_of_getElem? (i := 1104) (by decide +kernel), List.mem_of_getElem? (i := 1105) (by decide +kernel)⟩
theorem lw_p37 : lw_okq (⟨"CartRowsModel", "readsTest", "(I)Z"⟩, 65) := ⟨⟨by decide +kernel, by decide +kernel⟩, List.mem_of_getElem? (i := 850) (by decide +kernel), List.mem_of_getElem? (i := 1108) (by decide +kernel), List.mem_of_getElem? (i := 1109) (by decide +kernel)⟩
theorem lw_p38 : lw_okq (⟨"CartRowsModel", "readingWord", "()I"⟩, 65) := ⟨⟨by decide +kernel, by decide +kernel⟩, List.mem_of_getElem? (i := 850) (by decide +kernel), List.mem_of_getElem? (i := 1112) (by decide +kernel), List.mem_of_getElem? (i := 1113) (by decide +kernel)⟩
theorem lw_p39 : lw_okq (⟨"CartRowsModel", "isLorry", "(I)Z"⟩, 65) := ⟨⟨by decide +kernel, by decide +kernel⟩, List.mem_of_getElem? (i := 850) (by decide +kernel), List.mem_of_getElem? (i := 1163) (by decide +kernel), List.mem_of_getElem? (i := 1164) (by decide +kernel)⟩
theorem lw_p40 : lw_okq (⟨"CartRowsModel", "layTold", "()V"⟩, 65) := ⟨⟨by decide +kernel, by decide +kernel⟩, List.mem_of_getElem? (i := 850) (by decide +kernel), List.mem_of_getElem? (i := 1172) (by decide +kernel), List.mem_of_getElem? (i := 1173) (by decide +kernel)⟩
theorem lw_p41 : lw_okq (⟨"CartRowsModel", "layRun", "(III)V"⟩, 65) := ⟨⟨by decide +kernel, by decide +kernel⟩, List.mem_of_getElem? (i := 850) (by decide +kernel), List.mem_of_getElem? (i := 1176) (by decide +kernel), List.mem_of_getElem? (i := 1177) (by decide +kernel)⟩
theorem lw_p42 : lw_okq (⟨"CartRowsModel", "layWishes", "(III)V"⟩, 65) := ⟨⟨by decide +kernel, by decide +kernel⟩, List.mem_of_getElem? (i := 850) (by decide +kernel), List.mem_of_getElem? (i := 1180) (by decide +kernel), List.mem_of_getElem? (i := 1181) (by decide +kernel)⟩
theorem lw_p43 : lw_okq (⟨"CartRowsModel", "isStrange", "(II)Z"⟩, 65) := ⟨⟨by decide +kernel, by decide +kernel⟩, List.mem_of_getElem? (i := 850) (by decide +kernel), List.mem_of_getElem? (i := 1184) (by decide +kernel), List.mem_of_getElem? (i := 1185) (by decide +kernel)⟩
theorem lw_p44 : lw_okq (⟨"CartRowsModel", "wishBy", "(IIIIII)I"⟩, 65) := ⟨⟨by decide +kernel, by decide +kernel⟩, List.mem_of_getElem? (i := 850) (by decide +kernel), List.mem_of_getElem? (i := 1188) (by decide +kernel), List.mem_of_getElem? (i := 1189) (by decide +kernel)⟩
theorem lw_p45 : lw_okq (⟨"CartRowsModel", "pushedIn", "(I)I"⟩, 65) := ⟨⟨by decide +kernel, by decide +kernel⟩, List.mem_of_getElem? (i := 850) (by decide +kernel), List.mem_of_getElem? (i := 1195) (by decide +kernel), List.mem_of_getElem? (i := 1196) (by decide +kernel)⟩
theorem lw_p46 : lw_okq (⟨"CartRowsModel", "goOn", "(I)V"⟩, 65) := ⟨⟨by decide +kernel, by decide +kernel⟩, List.mem_of_getElem? (i := 850) (by decide +kernel), List.mem_of_getElem? (i := 1199) (by decide +kernel), List.mem_of_getElem? (i := 1200) (by decide +kernel)⟩
theorem lw_p47 : lw_okq (⟨"CartRowsModel", "slopeFor", "(I)I"⟩, 65) := ⟨⟨by decide +kernel, by decide +kernel⟩, List.mem_of_getElem? (i := 850) (by decide +kernel), List.mem_of_getElem? (i := 1203) (by decide +kernel), List.mem_of_getElem? (i := 1204) (by decide +kernel)⟩
def lw_privs_3 : List (MethodName × Nat) := [(⟨"CartRowsModel", "token", "()V"⟩, 65), (⟨"CartRowsModel", "readsLine", "()Z"⟩, 65), (⟨"CartRowsModel", "isWord", "(JI)Z"⟩, 65), (⟨"CartRowsModel", "skipsNumber", "()Z"⟩, 65), (⟨"CartRowsModel", "skips", "(JI)Z"⟩, 65), (⟨"CartRowsModel", "readsTest", "(I)Z"⟩, 65), (⟨"CartRowsModel", "readingWord", "()I"⟩, 65), (⟨"CartRowsModel", "isLorry", "(I)Z"⟩, 65), (⟨"CartRowsModel", "layTold", "()V"⟩, 65), (⟨"CartRowsModel", "layRun", "(III)V"⟩, 65), (⟨"CartRowsModel", "layWishes", "(III)V"⟩, 65), (⟨"CartRowsModel", "isStrange", "(II)Z"⟩, 65), (⟨"CartRowsModel", "wishBy", "(IIIIII)I"⟩, 65), (⟨"CartRowsModel", "pushedIn", "(I)I"⟩, 65), (⟨"CartRowsModel", "goOn", "(I)V"⟩, 65), (⟨"CartRowsModel", "slopeFor", "(I)I"⟩, 65)]
theorem lw_r3 : ∀ q ∈ lw_privs_3, lw_okq q := List.forall_mem_cons.mpr ⟨lw_p32, List.forall_mem_cons.mpr ⟨lw_p33, List.forall_mem_cons.mpr ⟨lw_p34, List.forall_mem_cons.mpr ⟨lw_p35, List.forall_mem_cons.mpr ⟨lw_p36, List.forall_mem_cons.mpr ⟨lw_p37, List.forall_mem_cons.mpr ⟨lw_p38, List.forall_mem_cons.mpr ⟨lw_p39, List.forall_mem_cons.mpr ⟨lw_p40, List.forall_mem_cons.mpr ⟨lw_p41, List.forall_mem_cons.mpr ⟨lw_p42, List.forall_mem_cons.mpr ⟨lw_p43, List.forall_mem_cons.mpr ⟨lw_p44, List.forall_mem_cons.mpr ⟨lw_p45, List.forall_mem_cons.mpr ⟨lw_p46, List.forall_mem_cons.mpr ⟨lw_p47, fun _ h => absurd h List.not_mem_nil⟩⟩⟩⟩⟩⟩⟩⟩⟩⟩⟩⟩⟩⟩⟩⟩
theorem lw_p48 : lw_okq (⟨"CartRowsModel", "dipOf", "(I)I"⟩, 65) := ⟨⟨by decide +kernel, by decide +kernel⟩, List.mem_of_getElem? (i := 850) (by decide +kernel), List.mem_of_getElem? (i := 1220) (by decide +kernel), List.mem_of_getElem? (i := 1221) (by decide +kernel)⟩
theorem lw_p49 : lw_okq (⟨"CartRowsModel", "worstOf", "(III)I"⟩, 65) := ⟨⟨by decide +kernel, by decide +kernel⟩, List.mem_of_getElem? (i := 850) (by decide +kernel), List.mem_of_getElem? (i := 1236) (by decide +kernel), List.mem_of_getElem? (i := 1237) (by decide +kernel)⟩
theorem lw_p50 : lw_okq (⟨"CartRowsModel", "burnt", "()I"⟩, 65) := ⟨⟨by decide +kernel, by decide +kernel⟩, List.mem_of_getElem? (i := 850) (by decide +kernel), List.mem_of_getElem? (i := 1272) (by decide +kernel), List.mem_of_getElem? (i := 1273) (by decide +kernel)⟩
theorem lw_p51 : lw_okq (⟨"CartRowsModel", "leads", "(III)Z"⟩, 65) := ⟨⟨by decide +kernel, by decide +kernel⟩, List.mem_of_getElem? (i := 850) (by decide +kernel), List.mem_of_getElem? (i := 1276) (by decide +kernel), List.mem_of_getElem? (i := 1277) (by decide +kernel)⟩
theorem lw_p52 : lw_okq (⟨"CartRowsModel", "goes", "(III)Z"⟩, 65) := ⟨⟨by decide +kernel, by decide +kernel⟩, List.mem_of_getElem? (i := 850) (by decide +kernel), List.mem_of_getElem? (i := 1280) (by decide +kernel), List.mem_of_getElem? (i := 1281) (by decide +kernel)⟩
theorem lw_p53 : lw_okq (⟨"CartRowsModel", "sparedIn", "(I)I"⟩, 65) := ⟨⟨by decide +kernel, by decide +kernel⟩, List.mem_of_getElem? (i := 850) (by decide +kernel), List.mem_of_getElem? (i := 1300) (by decide +kernel), List.mem_of_getElem? (i := 1301) (by decide +kernel)⟩
theorem lw_p54 : lw_okq (⟨"CartRowsModel", "coins", "(II)I"⟩, 65) := ⟨⟨by decide +kernel, by decide +kernel⟩, List.mem_of_getElem? (i := 850) (by decide +kernel), List.mem_of_getElem? (i := 1308) (by decide +kernel), List.mem_of_getElem? (i := 1309) (by decide +kernel)⟩
theorem lw_p55 : lw_okq (⟨"CartRowsModel", "shareOf", "(II)I"⟩, 65) := ⟨⟨by decide +kernel, by decide +kernel⟩, List.mem_of_getElem? (i := 850) (by decide +kernel), List.mem_of_getElem? (i := 1315) (by decide +kernel), List.mem_of_getElem? (i := 1316) (by decide +kernel)⟩
theorem lw_p56 : lw_okq (⟨"CartRowsModel", "isEvent", "(I)Z"⟩, 65) := ⟨⟨by decide +kernel, by decide +kernel⟩, List.mem_of_getElem? (i := 850) (by decide +kernel), List.mem_of_getElem? (i := 1339) (by decide +kernel), List.mem_of_getElem? (i := 1340) (by decide +kernel)⟩
theorem lw_p57 : lw_okq (⟨"CartRowsModel", "layOffs", "()Z"⟩, 65) := ⟨⟨by decide +kernel, by decide +kernel⟩, List.mem_of_getElem? (i := 850) (by decide +kernel), List.mem_of_getElem? (i := 1347) (by decide +kernel), List.mem_of_getElem? (i := 1348) (by decide +kernel)⟩
def lw_privs_4 : List (MethodName × Nat) := [(⟨"CartRowsModel", "dipOf", "(I)I"⟩, 65), (⟨"CartRowsModel", "worstOf", "(III)I"⟩, 65), (⟨"CartRowsModel", "burnt", "()I"⟩, 65), (⟨"CartRowsModel", "leads", "(III)Z"⟩, 65), (⟨"CartRowsModel", "goes", "(III)Z"⟩, 65), (⟨"CartRowsModel", "sparedIn", "(I)I"⟩, 65), (⟨"CartRowsModel", "coins", "(II)I"⟩, 65), (⟨"CartRowsModel", "shareOf", "(II)I"⟩, 65), (⟨"CartRowsModel", "isEvent", "(I)Z"⟩, 65), (⟨"CartRowsModel", "layOffs", "()Z"⟩, 65)]
theorem lw_r4 : ∀ q ∈ lw_privs_4, lw_okq q := List.forall_mem_cons.mpr ⟨lw_p48, List.forall_mem_cons.mpr ⟨lw_p49, List.forall_mem_cons.mpr ⟨lw_p50, List.forall_mem_cons.mpr ⟨lw_p51, List.forall_mem_cons.mpr ⟨lw_p52, List.forall_mem_cons.mpr ⟨lw_p53, List.forall_mem_cons.mpr ⟨lw_p54, List.forall_mem_cons.mpr ⟨lw_p55, List.forall_mem_cons.mpr ⟨lw_p56, List.forall_mem_cons.mpr ⟨lw_p57, fun _ h => absurd h List.not_mem_nil⟩⟩⟩⟩⟩⟩⟩⟩⟩⟩
def lw_privs : List (MethodName × Nat) := lw_privs_1 ++ (lw_privs_2 ++ (lw_privs_3 ++ (lw_privs_4)))
def lw_tbl : List Cond := k2_sels lw_privs ++ tables_1
theorem lw_privs_ok : ∀ q ∈ lw_privs, lw_okq q := by
  show ∀ q ∈ lw_privs_1 ++ (lw_privs_2 ++ (lw_privs_3 ++ (lw_privs_4))), lw_okq q
  exact List.forall_mem_append.mpr ⟨lw_r1, List.forall_mem_append.mpr ⟨lw_r2, List.forall_mem_append.mpr ⟨lw_r3, lw_r4⟩⟩⟩

def RX0 : String := "CartRows$Clocks"
def TX0 : u_T := fun k => match k with
  | 0 => ("CartRows$Clocks", "off", "[I", true)
  | 1 => ("CartRows$Clocks", "events", "I", false)
  | 2 => ("CartRows$Clocks", "eventClock", "[I", true)
  | 3 => ("CartRows$Clocks", "eventTime", "[I", true)
  | 4 => ("CartRows$Clocks", "afters", "I", false)
  | 5 => ("CartRows$Clocks", "afterOne", "[I", true)
  | 6 => ("CartRows$Clocks", "afterTwo", "[I", true)
  | 7 => ("CartRows$Clocks", "afterBy", "[I", true)
  | _ => ("CartRows$Clocks", "lag", "[[I", true)
def tyX0 : Nat → FieldType := fun k => match k with
  | 0 => .array .int
  | 1 => .int
  | 2 => .array .int
  | 3 => .array .int
  | 4 => .int
  | 5 => .array .int
  | 6 => .array .int
  | 7 => .array .int
  | _ => .array (.array .int)
theorem nmX0 : ∀ a, a < 9 → ∀ b, b < 9 → a ≠ b → (TX0 a).2.1 ≠ (TX0 b).2.1 := by decide +kernel
theorem tyX0_ok : ∀ k, k < 9 → parseFieldDescriptor (TX0 k).2.2.1 = some (tyX0 k) := by decide +kernel
abbrev cX0_init : ByteArray := prog_2_method_1_code
def yX0_init : MethodName := ⟨RX0, "<init>", "()V"⟩
abbrev cX0_layTogether : ByteArray := prog_2_method_2_code
def yX0_layTogether : MethodName := ⟨RX0, "layTogether", "()Z"⟩
abbrev cX0_earliest : ByteArray := prog_2_method_3_code
def yX0_earliest : MethodName := ⟨RX0, "earliest", "(I)I"⟩
abbrev cX0_latest : ByteArray := prog_2_method_4_code
def yX0_latest : MethodName := ⟨RX0, "latest", "(I)I"⟩
abbrev cX0_startLags : ByteArray := prog_2_method_5_code
def yX0_startLags : MethodName := ⟨RX0, "startLags", "()V"⟩
abbrev cX0_heedAfter : ByteArray := prog_2_method_6_code
def yX0_heedAfter : MethodName := ⟨RX0, "heedAfter", "(III)V"⟩
abbrev cX0_narrowLags : ByteArray := prog_2_method_7_code
def yX0_narrowLags : MethodName := ⟨RX0, "narrowLags", "()V"⟩
def RX1 : String := "CartRows$Journeys"
def TX1 : u_T := fun k => match k with
  | 0 => ("CartRows$Journeys", "number", "I", false)
  | 1 => ("CartRows$Journeys", "from", "[I", true)
  | 2 => ("CartRows$Journeys", "to", "[I", true)
  | 3 => ("CartRows$Journeys", "first", "[I", true)
  | 4 => ("CartRows$Journeys", "last", "[I", true)
  | 5 => ("CartRows$Journeys", "make", "[I", true)
  | 6 => ("CartRows$Journeys", "hour", "[I", true)
  | _ => ("CartRows$Journeys", "bestHour", "[I", true)
def tyX1 : Nat → FieldType := fun k => match k with
  | 0 => .int
  | 1 => .array .int
  | 2 => .array .int
  | 3 => .array .int
  | 4 => .array .int
  | 5 => .array .int
  | 6 => .array .int
  | _ => .array .int
theorem nmX1 : ∀ a, a < 8 → ∀ b, b < 8 → a ≠ b → (TX1 a).2.1 ≠ (TX1 b).2.1 := by decide +kernel
theorem tyX1_ok : ∀ k, k < 8 → parseFieldDescriptor (TX1 k).2.2.1 = some (tyX1 k) := by decide +kernel
abbrev cX1_init : ByteArray := prog_3_method_1_code
def yX1_init : MethodName := ⟨RX1, "<init>", "()V"⟩
abbrev cX1_cost : ByteArray := prog_3_method_2_code
def yX1_cost : MethodName := ⟨RX1, "cost", "(LCartRows$Road;)I"⟩
abbrev cX1_burnt : ByteArray := prog_3_method_3_code
def yX1_burnt : MethodName := ⟨RX1, "burnt", "(LCartRows$Road;II)I"⟩
abbrev cX1_leavesWith : ByteArray := prog_3_method_4_code
def yX1_leavesWith : MethodName := ⟨RX1, "leavesWith", "(III)Z"⟩
abbrev cX1_leads : ByteArray := prog_3_method_5_code
def yX1_leads : MethodName := ⟨RX1, "leads", "(LCartRows$Road;II)Z"⟩
abbrev cX1_findBest : ByteArray := prog_3_method_6_code
def yX1_findBest : MethodName := ⟨RX1, "findBest", "(LCartRows$Road;)I"⟩
abbrev cX1_choices : ByteArray := prog_3_method_7_code
def yX1_choices : MethodName := ⟨RX1, "choices", "()I"⟩
abbrev cX1_turn : ByteArray := prog_3_method_8_code
def yX1_turn : MethodName := ⟨RX1, "turn", "()V"⟩
def RX2 : String := "CartRows$Make"
def TX2 : u_T := fun k => match k with
  | 0 => ("CartRows$Make", "weight", "I", false)
  | 1 => ("CartRows$Make", "brake", "I", false)
  | 2 => ("CartRows$Make", "pull", "I", false)
  | 3 => ("CartRows$Make", "foot", "I", false)
  | _ => ("CartRows$Make", "table", "LCartRows$Table;", false)
def tyX2 : Nat → FieldType := fun k => match k with
  | 0 => .int
  | 1 => .int
  | 2 => .int
  | 3 => .int
  | _ => .object "CartRows$Table"
theorem nmX2 : ∀ a, a < 5 → ∀ b, b < 5 → a ≠ b → (TX2 a).2.1 ≠ (TX2 b).2.1 := by decide +kernel
theorem tyX2_ok : ∀ k, k < 5 → parseFieldDescriptor (TX2 k).2.2.1 = some (tyX2 k) := by decide +kernel
abbrev cX2_init : ByteArray := prog_4_method_1_code
def yX2_init : MethodName := ⟨RX2, "<init>", "()V"⟩
abbrev cX2_bounded : ByteArray := prog_4_method_2_code
def yX2_bounded : MethodName := ⟨RX2, "bounded", "(I)I"⟩
def RX3 : String := "CartRows$Road"
def TX3 : u_T := fun k => match k with
  | 0 => ("CartRows$Road", "makes", "[LCartRows$Make;", true)
  | 1 => ("CartRows$Road", "lorries", "I", false)
  | 2 => ("CartRows$Road", "makeOf", "[I", true)
  | 3 => ("CartRows$Road", "settings", "[I", true)
  | 4 => ("CartRows$Road", "lost", "I", false)
  | 5 => ("CartRows$Road", "pushes", "I", false)
  | 6 => ("CartRows$Road", "pushTick", "[I", true)
  | 7 => ("CartRows$Road", "pushWish", "[I", true)
  | 8 => ("CartRows$Road", "hills", "I", false)
  | 9 => ("CartRows$Road", "hillFrom", "[I", true)
  | 10 => ("CartRows$Road", "hillTo", "[I", true)
  | 11 => ("CartRows$Road", "hillWeight", "[I", true)
  | 12 => ("CartRows$Road", "hillSlope", "[I", true)
  | 13 => ("CartRows$Road", "strangerLorry", "I", false)
  | 14 => ("CartRows$Road", "strangerFrom", "I", false)
  | 15 => ("CartRows$Road", "strangerTo", "I", false)
  | _ => ("CartRows$Road", "strangerSpeed", "I", false)
def tyX3 : Nat → FieldType := fun k => match k with
  | 0 => .array (.object "CartRows$Make")
  | 1 => .int
  | 2 => .array .int
  | 3 => .array .int
  | 4 => .int
  | 5 => .int
  | 6 => .array .int
  | 7 => .array .int
  | 8 => .int
  | 9 => .array .int
  | 10 => .array .int
  | 11 => .array .int
  | 12 => .array .int
  | 13 => .int
  | 14 => .int
  | 15 => .int
  | _ => .int
theorem nmX3 : ∀ a, a < 17 → ∀ b, b < 17 → a ≠ b → (TX3 a).2.1 ≠ (TX3 b).2.1 := by decide +kernel
theorem tyX3_ok : ∀ k, k < 17 → parseFieldDescriptor (TX3 k).2.2.1 = some (tyX3 k) := by decide +kernel
abbrev cX3_init : ByteArray := prog_5_method_1_code
def yX3_init : MethodName := ⟨RX3, "<init>", "()V"⟩
abbrev cX3_makeOfLorry : ByteArray := prog_5_method_2_code
def yX3_makeOfLorry : MethodName := ⟨RX3, "makeOfLorry", "(I)LCartRows$Make;"⟩
abbrev cX3_pushIn : ByteArray := prog_5_method_3_code
def yX3_pushIn : MethodName := ⟨RX3, "pushIn", "(I)I"⟩
abbrev cX3_mostSpeed : ByteArray := prog_5_method_4_code
def yX3_mostSpeed : MethodName := ⟨RX3, "mostSpeed", "(II)I"⟩
abbrev cX3_hasStrangerAhead : ByteArray := prog_5_method_5_code
def yX3_hasStrangerAhead : MethodName := ⟨RX3, "hasStrangerAhead", "(II)Z"⟩
def RX4 : String := "CartRows$Run"
def TX4 : u_T := fun k => match k with
  | 0 => ("CartRows$Run", "speed", "[[I", true)
  | 1 => ("CartRows$Run", "gap", "[[I", true)
  | 2 => ("CartRows$Run", "place", "[[I", true)
  | 3 => ("CartRows$Run", "wish", "[[I", true)
  | 4 => ("CartRows$Run", "heard", "[I", true)
  | 5 => ("CartRows$Run", "old", "[I", true)
  | 6 => ("CartRows$Run", "touchTick", "I", false)
  | 7 => ("CartRows$Run", "touchLorry", "I", false)
  | 8 => ("CartRows$Run", "readings", "[I", true)
  | _ => ("CartRows$Run", "strangerGap", "I", false)
def tyX4 : Nat → FieldType := fun k => match k with
  | 0 => .array (.array .int)
  | 1 => .array (.array .int)
  | 2 => .array (.array .int)
  | 3 => .array (.array .int)
  | 4 => .array .int
  | 5 => .array .int
  | 6 => .int
  | 7 => .int
  | 8 => .array .int
  | _ => .int
theorem nmX4 : ∀ a, a < 10 → ∀ b, b < 10 → a ≠ b → (TX4 a).2.1 ≠ (TX4 b).2.1 := by decide +kernel
theorem tyX4_ok : ∀ k, k < 10 → parseFieldDescriptor (TX4 k).2.2.1 = some (tyX4 k) := by decide +kernel
abbrev cX4_init : ByteArray := prog_6_method_1_code
def yX4_init : MethodName := ⟨RX4, "<init>", "()V"⟩
abbrev cX4_drive : ByteArray := prog_6_method_2_code
def yX4_drive : MethodName := ⟨RX4, "drive", "(LCartRows$Road;III)V"⟩
abbrev cX4_touches : ByteArray := prog_6_method_3_code
def yX4_touches : MethodName := ⟨RX4, "touches", "(LCartRows$Road;III)Z"⟩
abbrev cX4_firstTouching : ByteArray := prog_6_method_4_code
def yX4_firstTouching : MethodName := ⟨RX4, "firstTouching", "(LCartRows$Road;III)I"⟩
abbrev cX4_leastGap : ByteArray := prog_6_method_5_code
def yX4_leastGap : MethodName := ⟨RX4, "leastGap", "(I)I"⟩
abbrev cX4_dipOf : ByteArray := prog_6_method_6_code
def yX4_dipOf : MethodName := ⟨RX4, "dipOf", "(I)I"⟩
abbrev cX4_weightBetween : ByteArray := prog_6_method_7_code
def yX4_weightBetween : MethodName := ⟨RX4, "weightBetween", "(LCartRows$Road;III)I"⟩
abbrev cX4_begin : ByteArray := prog_6_method_8_code
def yX4_begin : MethodName := ⟨RX4, "begin", "(LCartRows$Road;I)V"⟩
abbrev cX4_pass : ByteArray := prog_6_method_9_code
def yX4_pass : MethodName := ⟨RX4, "pass", "(LCartRows$Road;III)V"⟩
abbrev cX4_meetStranger : ByteArray := prog_6_method_10_code
def yX4_meetStranger : MethodName := ⟨RX4, "meetStranger", "(LCartRows$Road;I)V"⟩
abbrev cX4_hear : ByteArray := prog_6_method_11_code
def yX4_hear : MethodName := ⟨RX4, "hear", "(III)V"⟩
abbrev cX4_read : ByteArray := prog_6_method_12_code
def yX4_read : MethodName := ⟨RX4, "read", "(LCartRows$Road;II)V"⟩
abbrev cX4_speedBehind : ByteArray := prog_6_method_13_code
def yX4_speedBehind : MethodName := ⟨RX4, "speedBehind", "(LCartRows$Road;II)I"⟩
abbrev cX4_go : ByteArray := prog_6_method_14_code
def yX4_go : MethodName := ⟨RX4, "go", "(LCartRows$Road;I)V"⟩
abbrev cX4_noteTouch : ByteArray := prog_6_method_15_code
def yX4_noteTouch : MethodName := ⟨RX4, "noteTouch", "(LCartRows$Road;I)V"⟩
def RX5 : String := "CartRows$Shares"
def TX5 : u_T := fun k => match k with
  | _ => ("CartRows$Shares", "sparedBehind", "[[I", true)
def tyX5 : Nat → FieldType := fun k => match k with
  | _ => .array (.array .int)
theorem nmX5 : ∀ a, a < 1 → ∀ b, b < 1 → a ≠ b → (TX5 a).2.1 ≠ (TX5 b).2.1 := by decide +kernel
theorem tyX5_ok : ∀ k, k < 1 → parseFieldDescriptor (TX5 k).2.2.1 = some (tyX5 k) := by decide +kernel
abbrev cX5_init : ByteArray := prog_7_method_1_code
def yX5_init : MethodName := ⟨RX5, "<init>", "()V"⟩
abbrev cX5_sparedOf : ByteArray := prog_7_method_2_code
def yX5_sparedOf : MethodName := ⟨RX5, "sparedOf", "(I)I"⟩
abbrev cX5_above : ByteArray := prog_7_method_3_code
def yX5_above : MethodName := ⟨RX5, "above", "(II)I"⟩
abbrev cX5_below : ByteArray := prog_7_method_4_code
def yX5_below : MethodName := ⟨RX5, "below", "(II)I"⟩
abbrev cX5_coins : ByteArray := prog_7_method_5_code
def yX5_coins : MethodName := ⟨RX5, "coins", "(II)I"⟩
abbrev cX5_sumOverOrders : ByteArray := prog_7_method_6_code
def yX5_sumOverOrders : MethodName := ⟨RX5, "sumOverOrders", "(II)I"⟩
abbrev cX5_greatestDivisor : ByteArray := prog_7_method_7_code
def yX5_greatestDivisor : MethodName := ⟨RX5, "greatestDivisor", "(II)I"⟩
def RX6 : String := "CartRows$Table"
def TX6 : u_T := fun k => match k with
  | 0 => ("CartRows$Table", "lines", "I", false)
  | 1 => ("CartRows$Table", "wish", "[I", true)
  | 2 => ("CartRows$Table", "tests", "[I", true)
  | 3 => ("CartRows$Table", "reading", "[[I", true)
  | 4 => ("CartRows$Table", "bound", "[[I", true)
  | _ => ("CartRows$Table", "above", "[[I", true)
def tyX6 : Nat → FieldType := fun k => match k with
  | 0 => .int
  | 1 => .array .int
  | 2 => .array .int
  | 3 => .array (.array .int)
  | 4 => .array (.array .int)
  | _ => .array (.array .int)
theorem nmX6 : ∀ a, a < 6 → ∀ b, b < 6 → a ≠ b → (TX6 a).2.1 ≠ (TX6 b).2.1 := by decide +kernel
theorem tyX6_ok : ∀ k, k < 6 → parseFieldDescriptor (TX6 k).2.2.1 = some (tyX6 k) := by decide +kernel
abbrev cX6_init : ByteArray := prog_8_method_1_code
def yX6_init : MethodName := ⟨RX6, "<init>", "()V"⟩
abbrev cX6_wishBy : ByteArray := prog_8_method_2_code
def yX6_wishBy : MethodName := ⟨RX6, "wishBy", "([I)I"⟩
abbrev cX6_holds : ByteArray := prog_8_method_3_code
def yX6_holds : MethodName := ⟨RX6, "holds", "(I[I)Z"⟩
def RX7 : String := "CartRows$Text"
def TX7 : u_T := fun k => match k with
  | 0 => ("CartRows$Text", "bytes", "[I", true)
  | 1 => ("CartRows$Text", "length", "I", false)
  | 2 => ("CartRows$Text", "parsed", "LCartRows$Table;", false)
  | 3 => ("CartRows$Text", "start", "I", false)
  | _ => ("CartRows$Text", "end", "I", false)
def tyX7 : Nat → FieldType := fun k => match k with
  | 0 => .array .int
  | 1 => .int
  | 2 => .object "CartRows$Table"
  | 3 => .int
  | _ => .int
theorem nmX7 : ∀ a, a < 5 → ∀ b, b < 5 → a ≠ b → (TX7 a).2.1 ≠ (TX7 b).2.1 := by decide +kernel
theorem tyX7_ok : ∀ k, k < 5 → parseFieldDescriptor (TX7 k).2.2.1 = some (tyX7 k) := by decide +kernel
abbrev cX7_init : ByteArray := prog_9_method_1_code
def yX7_init : MethodName := ⟨RX7, "<init>", "()V"⟩
abbrev cX7_add : ByteArray := prog_9_method_2_code
def yX7_add : MethodName := ⟨RX7, "add", "(I)V"⟩
abbrev cX7_parse : ByteArray := prog_9_method_3_code
def yX7_parse : MethodName := ⟨RX7, "parse", "()I"⟩
abbrev cX7_parseLine : ByteArray := prog_9_method_4_code
def yX7_parseLine : MethodName := ⟨RX7, "parseLine", "(I)Z"⟩
abbrev cX7_parseWish : ByteArray := prog_9_method_5_code
def yX7_parseWish : MethodName := ⟨RX7, "parseWish", "(I)Z"⟩
abbrev cX7_parseTest : ByteArray := prog_9_method_6_code
def yX7_parseTest : MethodName := ⟨RX7, "parseTest", "(II)Z"⟩
abbrev cX7_readingNamed : ByteArray := prog_9_method_7_code
def yX7_readingNamed : MethodName := ⟨RX7, "readingNamed", "()I"⟩
abbrev cX7_advance : ByteArray := prog_9_method_8_code
def yX7_advance : MethodName := ⟨RX7, "advance", "()V"⟩
abbrev cX7_kindOf : ByteArray := prog_9_method_9_code
def yX7_kindOf : MethodName := ⟨RX7, "kindOf", "(I)I"⟩
abbrev cX7_isDigit : ByteArray := prog_9_method_10_code
def yX7_isDigit : MethodName := ⟨RX7, "isDigit", "(I)Z"⟩
abbrev cX7_isAtEnd : ByteArray := prog_9_method_11_code
def yX7_isAtEnd : MethodName := ⟨RX7, "isAtEnd", "()Z"⟩
abbrev cX7_isSign : ByteArray := prog_9_method_12_code
def yX7_isSign : MethodName := ⟨RX7, "isSign", "(I)Z"⟩
abbrev cX7_isWord : ByteArray := prog_9_method_13_code
def yX7_isWord : MethodName := ⟨RX7, "isWord", "(Ljava/lang/String;)Z"⟩
abbrev cX7_isNumber : ByteArray := prog_9_method_14_code
def yX7_isNumber : MethodName := ⟨RX7, "isNumber", "()Z"⟩
abbrev cX7_number : ByteArray := prog_9_method_15_code
def yX7_number : MethodName := ⟨RX7, "number", "()I"⟩
def RX8 : String := "CartRows"
def TX8 : u_T := fun k => match k with
  | 0 => ("CartRows", "text", "LCartRows$Text;", true)
  | 1 => ("CartRows", "road", "LCartRows$Road;", true)
  | 2 => ("CartRows", "run", "LCartRows$Run;", true)
  | 3 => ("CartRows", "journeys", "LCartRows$Journeys;", true)
  | 4 => ("CartRows", "shares", "LCartRows$Shares;", true)
  | _ => ("CartRows", "clocks", "LCartRows$Clocks;", true)
def tyX8 : Nat → FieldType := fun k => match k with
  | 0 => .object "CartRows$Text"
  | 1 => .object "CartRows$Road"
  | 2 => .object "CartRows$Run"
  | 3 => .object "CartRows$Journeys"
  | 4 => .object "CartRows$Shares"
  | _ => .object "CartRows$Clocks"
theorem nmX8 : ∀ a, a < 6 → ∀ b, b < 6 → a ≠ b → (TX8 a).2.1 ≠ (TX8 b).2.1 := by decide +kernel
theorem tyX8_ok : ∀ k, k < 6 → parseFieldDescriptor (TX8 k).2.2.1 = some (tyX8 k) := by decide +kernel
abbrev cX8_init : ByteArray := prog_1_method_1_code
def yX8_init : MethodName := ⟨RX8, "<init>", "()V"⟩
abbrev cX8_make : ByteArray := prog_1_method_2_code
def yX8_make : MethodName := ⟨RX8, "make", "(IIIII)I"⟩
abbrev cX8_write : ByteArray := prog_1_method_3_code
def yX8_write : MethodName := ⟨RX8, "write", "(JI)I"⟩
abbrev cX8_erase : ByteArray := prog_1_method_4_code
def yX8_erase : MethodName := ⟨RX8, "erase", "()I"⟩
abbrev cX8_fault : ByteArray := prog_1_method_5_code
def yX8_fault : MethodName := ⟨RX8, "fault", "()I"⟩
abbrev cX8_table : ByteArray := prog_1_method_6_code
def yX8_table : MethodName := ⟨RX8, "table", "(I)I"⟩
abbrev cX8_row : ByteArray := prog_1_method_7_code
def yX8_row : MethodName := ⟨RX8, "row", "(II)I"⟩
abbrev cX8_set : ByteArray := prog_1_method_8_code
def yX8_set : MethodName := ⟨RX8, "set", "(II)I"⟩
abbrev cX8_push : ByteArray := prog_1_method_9_code
def yX8_push : MethodName := ⟨RX8, "push", "(II)I"⟩
abbrev cX8_calm : ByteArray := prog_1_method_10_code
def yX8_calm : MethodName := ⟨RX8, "calm", "()I"⟩
abbrev cX8_lose : ByteArray := prog_1_method_11_code
def yX8_lose : MethodName := ⟨RX8, "lose", "(I)I"⟩
abbrev cX8_hill : ByteArray := prog_1_method_12_code
def yX8_hill : MethodName := ⟨RX8, "hill", "(IIII)I"⟩
abbrev cX8_stranger : ByteArray := prog_1_method_13_code
def yX8_stranger : MethodName := ⟨RX8, "stranger", "(IIII)I"⟩
abbrev cX8_at : ByteArray := prog_1_method_14_code
def yX8_at : MethodName := ⟨RX8, "at", "(III)I"⟩
abbrev cX8_touch : ByteArray := prog_1_method_15_code
def yX8_touch : MethodName := ⟨RX8, "touch", "(I)I"⟩
abbrev cX8_least : ByteArray := prog_1_method_16_code
def yX8_least : MethodName := ⟨RX8, "least", "(I)I"⟩
abbrev cX8_dip : ByteArray := prog_1_method_17_code
def yX8_dip : MethodName := ⟨RX8, "dip", "(I)I"⟩
abbrev cX8_grows : ByteArray := prog_1_method_18_code
def yX8_grows : MethodName := ⟨RX8, "grows", "()I"⟩
abbrev cX8_safe : ByteArray := prog_1_method_19_code
def yX8_safe : MethodName := ⟨RX8, "safe", "(III)I"⟩
abbrev cX8_need : ByteArray := prog_1_method_20_code
def yX8_need : MethodName := ⟨RX8, "need", "(II)I"⟩
abbrev cX8_worst : ByteArray := prog_1_method_21_code
def yX8_worst : MethodName := ⟨RX8, "worst", "(III)I"⟩
abbrev cX8_sparing : ByteArray := prog_1_method_22_code
def yX8_sparing : MethodName := ⟨RX8, "sparing", "()I"⟩
abbrev cX8_bears : ByteArray := prog_1_method_23_code
def yX8_bears : MethodName := ⟨RX8, "bears", "(II)I"⟩
abbrev cX8_journey : ByteArray := prog_1_method_24_code
def yX8_journey : MethodName := ⟨RX8, "journey", "(IIIII)I"⟩
abbrev cX8_clear : ByteArray := prog_1_method_25_code
def yX8_clear : MethodName := ⟨RX8, "clear", "()I"⟩
abbrev cX8_best : ByteArray := prog_1_method_26_code
def yX8_best : MethodName := ⟨RX8, "best", "(I)I"⟩
abbrev cX8_judge : ByteArray := prog_1_method_27_code
def yX8_judge : MethodName := ⟨RX8, "judge", "(I)I"⟩
abbrev cX8_spared : ByteArray := prog_1_method_28_code
def yX8_spared : MethodName := ⟨RX8, "spared", "(III)I"⟩
abbrev cX8_together : ByteArray := prog_1_method_29_code
def yX8_together : MethodName := ⟨RX8, "together", "(I)I"⟩
abbrev cX8_share : ByteArray := prog_1_method_30_code
def yX8_share : MethodName := ⟨RX8, "share", "(III)I"⟩
abbrev cX8_clock : ByteArray := prog_1_method_31_code
def yX8_clock : MethodName := ⟨RX8, "clock", "(II)I"⟩
abbrev cX8_event : ByteArray := prog_1_method_32_code
def yX8_event : MethodName := ⟨RX8, "event", "(II)I"⟩
abbrev cX8_after : ByteArray := prog_1_method_33_code
def yX8_after : MethodName := ⟨RX8, "after", "(III)I"⟩
abbrev cX8_agree : ByteArray := prog_1_method_34_code
def yX8_agree : MethodName := ⟨RX8, "agree", "()I"⟩
abbrev cX8_span : ByteArray := prog_1_method_35_code
def yX8_span : MethodName := ⟨RX8, "span", "(II)I"⟩
abbrev cX8_count : ByteArray := prog_1_method_36_code
def yX8_count : MethodName := ⟨RX8, "count", "(I)I"⟩
abbrev cX8_isOutside : ByteArray := prog_1_method_37_code
def yX8_isOutside : MethodName := ⟨RX8, "isOutside", "(III)Z"⟩
abbrev cX8_isNoMake : ByteArray := prog_1_method_38_code
def yX8_isNoMake : MethodName := ⟨RX8, "isNoMake", "(I)Z"⟩
abbrev cX8_isNoPerson : ByteArray := prog_1_method_39_code
def yX8_isNoPerson : MethodName := ⟨RX8, "isNoPerson", "(I)Z"⟩
abbrev cX8_isNoClock : ByteArray := prog_1_method_40_code
def yX8_isNoClock : MethodName := ⟨RX8, "isNoClock", "(I)Z"⟩
abbrev cX8_isNoEvent : ByteArray := prog_1_method_41_code
def yX8_isNoEvent : MethodName := ⟨RX8, "isNoEvent", "(I)Z"⟩
abbrev cX8_isNoLorry : ByteArray := prog_1_method_42_code
def yX8_isNoLorry : MethodName := ⟨RX8, "isNoLorry", "(I)Z"⟩
abbrev cX8_isNoFollower : ByteArray := prog_1_method_43_code
def yX8_isNoFollower : MethodName := ⟨RX8, "isNoFollower", "(I)Z"⟩
abbrev cX8_areNoPlaces : ByteArray := prog_1_method_44_code
def yX8_areNoPlaces : MethodName := ⟨RX8, "areNoPlaces", "(II)Z"⟩
abbrev cX8_areNoChances : ByteArray := prog_1_method_45_code
def yX8_areNoChances : MethodName := ⟨RX8, "areNoChances", "(II)Z"⟩
abbrev cX8_driveAsTold : ByteArray := prog_1_method_46_code
def yX8_driveAsTold : MethodName := ⟨RX8, "driveAsTold", "()V"⟩
def RX9 : String := "CartRowsModel"
def TX9 : u_T := fun k => match k with
  | 0 => ("CartRowsModel", "weights", "[I", true)
  | 1 => ("CartRowsModel", "brakes", "[I", true)
  | 2 => ("CartRowsModel", "pulls", "[I", true)
  | 3 => ("CartRowsModel", "feet", "[I", true)
  | 4 => ("CartRowsModel", "text", "[I", true)
  | 5 => ("CartRowsModel", "length", "I", false)
  | 6 => ("CartRowsModel", "lineMany", "[I", true)
  | 7 => ("CartRowsModel", "lineKind", "[I", true)
  | 8 => ("CartRowsModel", "lineN", "[I", true)
  | 9 => ("CartRowsModel", "testMany", "[I", true)
  | 10 => ("CartRowsModel", "testReading", "[I", true)
  | 11 => ("CartRowsModel", "testAbove", "[I", true)
  | 12 => ("CartRowsModel", "testN", "[I", true)
  | 13 => ("CartRowsModel", "lorries", "I", false)
  | 14 => ("CartRowsModel", "makes", "[I", true)
  | 15 => ("CartRowsModel", "settings", "[I", true)
  | 16 => ("CartRowsModel", "pushTick", "[I", true)
  | 17 => ("CartRowsModel", "pushBy", "[I", true)
  | 18 => ("CartRowsModel", "pushes", "I", false)
  | 19 => ("CartRowsModel", "lost", "I", false)
  | 20 => ("CartRowsModel", "hillFrom", "[I", true)
  | 21 => ("CartRowsModel", "hillTo", "[I", true)
  | 22 => ("CartRowsModel", "hillWeight", "[I", true)
  | 23 => ("CartRowsModel", "hillSlope", "[I", true)
  | 24 => ("CartRowsModel", "hills", "I", false)
  | 25 => ("CartRowsModel", "strangerOf", "I", false)
  | 26 => ("CartRowsModel", "strangerFrom", "I", false)
  | 27 => ("CartRowsModel", "strangerTo", "I", false)
  | 28 => ("CartRowsModel", "strangerSpeed", "I", false)
  | 29 => ("CartRowsModel", "goFrom", "[I", true)
  | 30 => ("CartRowsModel", "goTo", "[I", true)
  | 31 => ("CartRowsModel", "goFirst", "[I", true)
  | 32 => ("CartRowsModel", "goLast", "[I", true)
  | 33 => ("CartRowsModel", "goMake", "[I", true)
  | 34 => ("CartRowsModel", "journeys", "I", false)
  | 35 => ("CartRowsModel", "sparedBy", "[I", true)
  | 36 => ("CartRowsModel", "offs", "[I", true)
  | 37 => ("CartRowsModel", "eventClock", "[I", true)
  | 38 => ("CartRowsModel", "eventTime", "[I", true)
  | 39 => ("CartRowsModel", "events", "I", false)
  | 40 => ("CartRowsModel", "afterOne", "[I", true)
  | 41 => ("CartRowsModel", "afterTwo", "[I", true)
  | 42 => ("CartRowsModel", "afterBy", "[I", true)
  | 43 => ("CartRowsModel", "afters", "I", false)
  | 44 => ("CartRowsModel", "at", "I", false)
  | 45 => ("CartRowsModel", "place", "I", false)
  | 46 => ("CartRowsModel", "end", "I", false)
  | 47 => ("CartRowsModel", "figure", "I", false)
  | 48 => ("CartRowsModel", "speeds", "[I", true)
  | 49 => ("CartRowsModel", "gaps", "[I", true)
  | 50 => ("CartRowsModel", "places", "[I", true)
  | 51 => ("CartRowsModel", "wishes", "[I", true)
  | 52 => ("CartRowsModel", "heards", "[I", true)
  | 53 => ("CartRowsModel", "olds", "[I", true)
  | 54 => ("CartRowsModel", "says", "[I", true)
  | 55 => ("CartRowsModel", "touchTick", "I", false)
  | 56 => ("CartRowsModel", "touchLorry", "I", false)
  | 57 => ("CartRowsModel", "speedNow", "[I", true)
  | 58 => ("CartRowsModel", "gapNow", "[I", true)
  | 59 => ("CartRowsModel", "placeNow", "[I", true)
  | 60 => ("CartRowsModel", "strangerGap", "I", false)
  | 61 => ("CartRowsModel", "leaves", "[I", true)
  | 62 => ("CartRowsModel", "bestLeaves", "[I", true)
  | 63 => ("CartRowsModel", "low", "[I", true)
  | _ => ("CartRowsModel", "high", "[I", true)
def tyX9 : Nat → FieldType := fun k => match k with
  | 0 => .array .int
  | 1 => .array .int
  | 2 => .array .int
  | 3 => .array .int
  | 4 => .array .int
  | 5 => .int
  | 6 => .array .int
  | 7 => .array .int
  | 8 => .array .int
  | 9 => .array .int
  | 10 => .array .int
  | 11 => .array .int
  | 12 => .array .int
  | 13 => .int
  | 14 => .array .int
  | 15 => .array .int
  | 16 => .array .int
  | 17 => .array .int
  | 18 => .int
  | 19 => .int
  | 20 => .array .int
  | 21 => .array .int
  | 22 => .array .int
  | 23 => .array .int
  | 24 => .int
  | 25 => .int
  | 26 => .int
  | 27 => .int
  | 28 => .int
  | 29 => .array .int
  | 30 => .array .int
  | 31 => .array .int
  | 32 => .array .int
  | 33 => .array .int
  | 34 => .int
  | 35 => .array .int
  | 36 => .array .int
  | 37 => .array .int
  | 38 => .array .int
  | 39 => .int
  | 40 => .array .int
  | 41 => .array .int
  | 42 => .array .int
  | 43 => .int
  | 44 => .int
  | 45 => .int
  | 46 => .int
  | 47 => .int
  | 48 => .array .int
  | 49 => .array .int
  | 50 => .array .int
  | 51 => .array .int
  | 52 => .array .int
  | 53 => .array .int
  | 54 => .array .int
  | 55 => .int
  | 56 => .int
  | 57 => .array .int
  | 58 => .array .int
  | 59 => .array .int
  | 60 => .int
  | 61 => .array .int
  | 62 => .array .int
  | 63 => .array .int
  | _ => .array .int
theorem nmX9 : ∀ a, a < 65 → ∀ b, b < 65 → a ≠ b → (TX9 a).2.1 ≠ (TX9 b).2.1 := by decide +kernel
theorem tyX9_ok : ∀ k, k < 65 → parseFieldDescriptor (TX9 k).2.2.1 = some (tyX9 k) := by decide +kernel
abbrev cX9_init : ByteArray := prog_11_method_1_code
def yX9_init : MethodName := ⟨RX9, "<init>", "()V"⟩
abbrev cX9_in : ByteArray := prog_11_method_2_code
def yX9_in : MethodName := ⟨RX9, "in", "(JJJ)Z"⟩
abbrev cX9_isMake : ByteArray := prog_11_method_3_code
def yX9_isMake : MethodName := ⟨RX9, "isMake", "(I)Z"⟩
abbrev cX9_isSix : ByteArray := prog_11_method_4_code
def yX9_isSix : MethodName := ⟨RX9, "isSix", "(I)Z"⟩
abbrev cX9_lesser : ByteArray := prog_11_method_5_code
def yX9_lesser : MethodName := ⟨RX9, "lesser", "(II)I"⟩
abbrev cX9_make : ByteArray := prog_11_method_6_code
def yX9_make : MethodName := ⟨RX9, "make", "(IIIII)I"⟩
abbrev cX9_write : ByteArray := prog_11_method_7_code
def yX9_write : MethodName := ⟨RX9, "write", "(JI)I"⟩
abbrev cX9_erase : ByteArray := prog_11_method_8_code
def yX9_erase : MethodName := ⟨RX9, "erase", "()I"⟩
abbrev cX9_sort : ByteArray := prog_11_method_9_code
def yX9_sort : MethodName := ⟨RX9, "sort", "(I)I"⟩
abbrev cX9_token : ByteArray := prog_11_method_10_code
def yX9_token : MethodName := ⟨RX9, "token", "()V"⟩
abbrev cX9_isWord : ByteArray := prog_11_method_11_code
def yX9_isWord : MethodName := ⟨RX9, "isWord", "(JI)Z"⟩
abbrev cX9_skips : ByteArray := prog_11_method_12_code
def yX9_skips : MethodName := ⟨RX9, "skips", "(JI)Z"⟩
abbrev cX9_skipsNumber : ByteArray := prog_11_method_13_code
def yX9_skipsNumber : MethodName := ⟨RX9, "skipsNumber", "()Z"⟩
abbrev cX9_readingWord : ByteArray := prog_11_method_14_code
def yX9_readingWord : MethodName := ⟨RX9, "readingWord", "()I"⟩
abbrev cX9_readsTest : ByteArray := prog_11_method_15_code
def yX9_readsTest : MethodName := ⟨RX9, "readsTest", "(I)Z"⟩
abbrev cX9_readsLine : ByteArray := prog_11_method_16_code
def yX9_readsLine : MethodName := ⟨RX9, "readsLine", "()Z"⟩
abbrev cX9_fault : ByteArray := prog_11_method_17_code
def yX9_fault : MethodName := ⟨RX9, "fault", "()I"⟩
abbrev cX9_table : ByteArray := prog_11_method_18_code
def yX9_table : MethodName := ⟨RX9, "table", "(I)I"⟩
abbrev cX9_row : ByteArray := prog_11_method_19_code
def yX9_row : MethodName := ⟨RX9, "row", "(II)I"⟩
abbrev cX9_set : ByteArray := prog_11_method_20_code
def yX9_set : MethodName := ⟨RX9, "set", "(II)I"⟩
abbrev cX9_push : ByteArray := prog_11_method_21_code
def yX9_push : MethodName := ⟨RX9, "push", "(II)I"⟩
abbrev cX9_calm : ByteArray := prog_11_method_22_code
def yX9_calm : MethodName := ⟨RX9, "calm", "()I"⟩
abbrev cX9_lose : ByteArray := prog_11_method_23_code
def yX9_lose : MethodName := ⟨RX9, "lose", "(I)I"⟩
abbrev cX9_hill : ByteArray := prog_11_method_24_code
def yX9_hill : MethodName := ⟨RX9, "hill", "(IIII)I"⟩
abbrev cX9_isLorry : ByteArray := prog_11_method_25_code
def yX9_isLorry : MethodName := ⟨RX9, "isLorry", "(I)Z"⟩
abbrev cX9_stranger : ByteArray := prog_11_method_26_code
def yX9_stranger : MethodName := ⟨RX9, "stranger", "(IIII)I"⟩
abbrev cX9_pushedIn : ByteArray := prog_11_method_27_code
def yX9_pushedIn : MethodName := ⟨RX9, "pushedIn", "(I)I"⟩
abbrev cX9_isStrange : ByteArray := prog_11_method_28_code
def yX9_isStrange : MethodName := ⟨RX9, "isStrange", "(II)Z"⟩
abbrev cX9_wishBy : ByteArray := prog_11_method_29_code
def yX9_wishBy : MethodName := ⟨RX9, "wishBy", "(IIIIII)I"⟩
abbrev cX9_slopeFor : ByteArray := prog_11_method_30_code
def yX9_slopeFor : MethodName := ⟨RX9, "slopeFor", "(I)I"⟩
abbrev cX9_layRun : ByteArray := prog_11_method_31_code
def yX9_layRun : MethodName := ⟨RX9, "layRun", "(III)V"⟩
abbrev cX9_layWishes : ByteArray := prog_11_method_32_code
def yX9_layWishes : MethodName := ⟨RX9, "layWishes", "(III)V"⟩
abbrev cX9_goOn : ByteArray := prog_11_method_33_code
def yX9_goOn : MethodName := ⟨RX9, "goOn", "(I)V"⟩
abbrev cX9_layTold : ByteArray := prog_11_method_34_code
def yX9_layTold : MethodName := ⟨RX9, "layTold", "()V"⟩
abbrev cX9_at : ByteArray := prog_11_method_35_code
def yX9_at : MethodName := ⟨RX9, "at", "(III)I"⟩
abbrev cX9_touch : ByteArray := prog_11_method_36_code
def yX9_touch : MethodName := ⟨RX9, "touch", "(I)I"⟩
abbrev cX9_least : ByteArray := prog_11_method_37_code
def yX9_least : MethodName := ⟨RX9, "least", "(I)I"⟩
abbrev cX9_dipOf : ByteArray := prog_11_method_38_code
def yX9_dipOf : MethodName := ⟨RX9, "dipOf", "(I)I"⟩
abbrev cX9_dip : ByteArray := prog_11_method_39_code
def yX9_dip : MethodName := ⟨RX9, "dip", "(I)I"⟩
abbrev cX9_grows : ByteArray := prog_11_method_40_code
def yX9_grows : MethodName := ⟨RX9, "grows", "()I"⟩
abbrev cX9_bits : ByteArray := prog_11_method_41_code
def yX9_bits : MethodName := ⟨RX9, "bits", "(I)I"⟩
abbrev cX9_worstOf : ByteArray := prog_11_method_42_code
def yX9_worstOf : MethodName := ⟨RX9, "worstOf", "(III)I"⟩
abbrev cX9_areMishaps : ByteArray := prog_11_method_43_code
def yX9_areMishaps : MethodName := ⟨RX9, "areMishaps", "(II)Z"⟩
abbrev cX9_safe : ByteArray := prog_11_method_44_code
def yX9_safe : MethodName := ⟨RX9, "safe", "(III)I"⟩
abbrev cX9_need : ByteArray := prog_11_method_45_code
def yX9_need : MethodName := ⟨RX9, "need", "(II)I"⟩
abbrev cX9_worst : ByteArray := prog_11_method_46_code
def yX9_worst : MethodName := ⟨RX9, "worst", "(III)I"⟩
abbrev cX9_sparing : ByteArray := prog_11_method_47_code
def yX9_sparing : MethodName := ⟨RX9, "sparing", "()I"⟩
abbrev cX9_bears : ByteArray := prog_11_method_48_code
def yX9_bears : MethodName := ⟨RX9, "bears", "(II)I"⟩
abbrev cX9_journey : ByteArray := prog_11_method_49_code
def yX9_journey : MethodName := ⟨RX9, "journey", "(IIIII)I"⟩
abbrev cX9_clear : ByteArray := prog_11_method_50_code
def yX9_clear : MethodName := ⟨RX9, "clear", "()I"⟩
abbrev cX9_goes : ByteArray := prog_11_method_51_code
def yX9_goes : MethodName := ⟨RX9, "goes", "(III)Z"⟩
abbrev cX9_leads : ByteArray := prog_11_method_52_code
def yX9_leads : MethodName := ⟨RX9, "leads", "(III)Z"⟩
abbrev cX9_burnt : ByteArray := prog_11_method_53_code
def yX9_burnt : MethodName := ⟨RX9, "burnt", "()I"⟩
abbrev cX9_best : ByteArray := prog_11_method_54_code
def yX9_best : MethodName := ⟨RX9, "best", "(I)I"⟩
abbrev cX9_judge : ByteArray := prog_11_method_55_code
def yX9_judge : MethodName := ⟨RX9, "judge", "(I)I"⟩
abbrev cX9_spared : ByteArray := prog_11_method_56_code
def yX9_spared : MethodName := ⟨RX9, "spared", "(III)I"⟩
abbrev cX9_sparedIn : ByteArray := prog_11_method_57_code
def yX9_sparedIn : MethodName := ⟨RX9, "sparedIn", "(I)I"⟩
abbrev cX9_together : ByteArray := prog_11_method_58_code
def yX9_together : MethodName := ⟨RX9, "together", "(I)I"⟩
abbrev cX9_factorial : ByteArray := prog_11_method_59_code
def yX9_factorial : MethodName := ⟨RX9, "factorial", "(I)I"⟩
abbrev cX9_shareOf : ByteArray := prog_11_method_60_code
def yX9_shareOf : MethodName := ⟨RX9, "shareOf", "(II)I"⟩
abbrev cX9_divisor : ByteArray := prog_11_method_61_code
def yX9_divisor : MethodName := ⟨RX9, "divisor", "(II)I"⟩
abbrev cX9_cut : ByteArray := prog_11_method_62_code
def yX9_cut : MethodName := ⟨RX9, "cut", "(II)I"⟩
abbrev cX9_coins : ByteArray := prog_11_method_63_code
def yX9_coins : MethodName := ⟨RX9, "coins", "(II)I"⟩
abbrev cX9_share : ByteArray := prog_11_method_64_code
def yX9_share : MethodName := ⟨RX9, "share", "(III)I"⟩
abbrev cX9_clock : ByteArray := prog_11_method_65_code
def yX9_clock : MethodName := ⟨RX9, "clock", "(II)I"⟩
abbrev cX9_event : ByteArray := prog_11_method_66_code
def yX9_event : MethodName := ⟨RX9, "event", "(II)I"⟩
abbrev cX9_isEvent : ByteArray := prog_11_method_67_code
def yX9_isEvent : MethodName := ⟨RX9, "isEvent", "(I)Z"⟩
abbrev cX9_after : ByteArray := prog_11_method_68_code
def yX9_after : MethodName := ⟨RX9, "after", "(III)I"⟩
abbrev cX9_layOffs : ByteArray := prog_11_method_69_code
def yX9_layOffs : MethodName := ⟨RX9, "layOffs", "()Z"⟩
abbrev cX9_agree : ByteArray := prog_11_method_70_code
def yX9_agree : MethodName := ⟨RX9, "agree", "()I"⟩
abbrev cX9_span : ByteArray := prog_11_method_71_code
def yX9_span : MethodName := ⟨RX9, "span", "(II)I"⟩
abbrev cX9_count : ByteArray := prog_11_method_72_code
def yX9_count : MethodName := ⟨RX9, "count", "(I)I"⟩
def RJ6 : String := "java/lang/Integer"
def TJ6 : u_T := fun k => match k with
  | _ => ("", "", "", false)
def tyJ6 : Nat → FieldType := fun k => match k with
  | _ => .int
theorem nmJ6 : ∀ a, a < 0 → ∀ b, b < 0 → a ≠ b → (TJ6 a).2.1 ≠ (TJ6 b).2.1 := by decide +kernel
theorem tyJ6_ok : ∀ k, k < 0 → parseFieldDescriptor (TJ6 k).2.2.1 = some (tyJ6 k) := by decide +kernel
abbrev cJ6_bitCount_0f7a4 : ByteArray := prog_12_method_49_code
def yJ6_bitCount_0f7a4 : MethodName := ⟨RJ6, "bitCount", "(I)I"⟩
def RJ9 : String := "java/lang/Math"
def TJ9 : u_T := fun k => match k with
  | _ => ("", "", "", false)
def tyJ9 : Nat → FieldType := fun k => match k with
  | _ => .int
theorem nmJ9 : ∀ a, a < 0 → ∀ b, b < 0 → a ≠ b → (TJ9 a).2.1 ≠ (TJ9 b).2.1 := by decide +kernel
theorem tyJ9_ok : ∀ k, k < 0 → parseFieldDescriptor (TJ9 k).2.2.1 = some (tyJ9 k) := by decide +kernel
abbrev cJ9_floorDiv_7cf53 : ByteArray := prog_13_method_47_code
def yJ9_floorDiv_7cf53 : MethodName := ⟨RJ9, "floorDiv", "(II)I"⟩
abbrev cJ9_floorMod_7cf53 : ByteArray := prog_13_method_50_code
def yJ9_floorMod_7cf53 : MethodName := ⟨RJ9, "floorMod", "(II)I"⟩
abbrev cJ9_max_7cf53 : ByteArray := prog_13_method_65_code
def yJ9_max_7cf53 : MethodName := ⟨RJ9, "max", "(II)I"⟩
abbrev cJ9_min_7cf53 : ByteArray := prog_13_method_69_code
def yJ9_min_7cf53 : MethodName := ⟨RJ9, "min", "(II)I"⟩
def RJ0 : String := "java/lang/String"
def TJ0 : u_T := fun k => match k with
  | _ => ("", "", "", false)
def tyJ0 : Nat → FieldType := fun k => match k with
  | _ => .int
theorem nmJ0 : ∀ a, a < 0 → ∀ b, b < 0 → a ≠ b → (TJ0 a).2.1 ≠ (TJ0 b).2.1 := by decide +kernel
theorem tyJ0_ok : ∀ k, k < 0 → parseFieldDescriptor (TJ0 k).2.2.1 = some (tyJ0 k) := by decide +kernel
abbrev cJ0_length_8abf5 : ByteArray := prog_14_method_54_code
def yJ0_length_8abf5 : MethodName := ⟨RJ0, "length", "()I"⟩
abbrev cJ0_charAt_5068e : ByteArray := prog_14_method_56_code
def yJ0_charAt_5068e : MethodName := ⟨RJ0, "charAt", "(I)C"⟩
abbrev cJ0_coder_7d493 : ByteArray := prog_14_method_152_code
def yJ0_coder_7d493 : MethodName := ⟨RJ0, "coder", "()B"⟩
abbrev cJ0_isLatin1_aae02 : ByteArray := prog_14_method_154_code
def yJ0_isLatin1_aae02 : MethodName := ⟨RJ0, "isLatin1", "()Z"⟩
abbrev cJ0_checkIndex_df160 : ByteArray := prog_14_method_155_code
def yJ0_checkIndex_df160 : MethodName := ⟨RJ0, "checkIndex", "(II)V"⟩
def RJ1 : String := "java/lang/StringLatin1"
def TJ1 : u_T := fun k => match k with
  | _ => ("", "", "", false)
def tyJ1 : Nat → FieldType := fun k => match k with
  | _ => .int
theorem nmJ1 : ∀ a, a < 0 → ∀ b, b < 0 → a ≠ b → (TJ1 a).2.1 ≠ (TJ1 b).2.1 := by decide +kernel
theorem tyJ1_ok : ∀ k, k < 0 → parseFieldDescriptor (TJ1 k).2.2.1 = some (tyJ1 k) := by decide +kernel
abbrev cJ1_charAt_3b067 : ByteArray := prog_15_method_2_code
def yJ1_charAt_3b067 : MethodName := ⟨RJ1, "charAt", "([BI)C"⟩
def RJ2 : String := "java/lang/StringUTF16"
def TJ2 : u_T := fun k => match k with
  | _ => ("", "", "", false)
def tyJ2 : Nat → FieldType := fun k => match k with
  | _ => .int
theorem nmJ2 : ∀ a, a < 0 → ∀ b, b < 0 → a ≠ b → (TJ2 a).2.1 ≠ (TJ2 b).2.1 := by decide +kernel
theorem tyJ2_ok : ∀ k, k < 0 → parseFieldDescriptor (TJ2 k).2.2.1 = some (tyJ2 k) := by decide +kernel
abbrev cJ2_getChar_3b067 : ByteArray := prog_16_method_5_code
def yJ2_getChar_3b067 : MethodName := ⟨RJ2, "getChar", "([BI)C"⟩
abbrev cJ2_length_9d52b : ByteArray := prog_16_method_6_code
def yJ2_length_9d52b : MethodName := ⟨RJ2, "length", "([B)I"⟩
abbrev cJ2_charAt_3b067 : ByteArray := prog_16_method_83_code
def yJ2_charAt_3b067 : MethodName := ⟨RJ2, "charAt", "([BI)C"⟩
abbrev cJ2_checkIndex_2214a : ByteArray := prog_16_method_91_code
def yJ2_checkIndex_2214a : MethodName := ⟨RJ2, "checkIndex", "(I[B)V"⟩
def RJ10 : String := "java/lang/System"
def TJ10 : u_T := fun k => match k with
  | _ => ("", "", "", false)
def tyJ10 : Nat → FieldType := fun k => match k with
  | _ => .int
theorem nmJ10 : ∀ a, a < 0 → ∀ b, b < 0 → a ≠ b → (TJ10 a).2.1 ≠ (TJ10 b).2.1 := by decide +kernel
theorem tyJ10_ok : ∀ k, k < 0 → parseFieldDescriptor (TJ10 k).2.2.1 = some (tyJ10 k) := by decide +kernel
def RJ3 : String := "jdk/internal/util/Preconditions"
def TJ3 : u_T := fun k => match k with
  | _ => ("", "", "", false)
def tyJ3 : Nat → FieldType := fun k => match k with
  | _ => .int
theorem nmJ3 : ∀ a, a < 0 → ∀ b, b < 0 → a ≠ b → (TJ3 a).2.1 ≠ (TJ3 b).2.1 := by decide +kernel
theorem tyJ3_ok : ∀ k, k < 0 → parseFieldDescriptor (TJ3 k).2.2.1 = some (tyJ3 k) := by decide +kernel
abbrev cJ3_checkIndex_8e157 : ByteArray := prog_18_method_11_code
def yJ3_checkIndex_8e157 : MethodName := ⟨RJ3, "checkIndex", "(IILjava/util/function/BiFunction;)I"⟩
def RL : String := "CartRowsLaw"
abbrev cL_law : ByteArray := code
def yL_law : MethodName := ⟨RL, "law", "([I)Z"⟩

def cr_GW : List Cond := lw_tbl.filter goodWord
theorem cr_gw {w : Cond} (i : Nat) (h : lw_tbl[i]? = some w) (g : goodWord w = true) : w ∈ cr_GW := List.mem_filter.mpr ⟨List.mem_of_getElem? h, g⟩
theorem cr_gws {ws : List Cond} (ps : List Nat) (hp : ws = ps.filterMap (fun i => lw_tbl[i]?)) (g : ws.all goodWord = true) : ∀ w ∈ ws, w ∈ cr_GW := by
  intro w hw
  have h1 := List.all_eq_true.mp g w hw
  rw [hp] at hw
  obtain ⟨i, -, hi⟩ := List.mem_filterMap.mp hw
  exact cr_gw i hi h1
theorem cr_good {y : MethodName} {cc : ByteArray} {nL : Nat} {ret : Option FieldType} {big : List Cond} (hb : ∀ w ∈ cr_GW, w ∈ big) (h : Cond.code y cc nL ret ∈ cr_GW) : GoodIn big (Cond.code y cc nL ret :: cr_GW) := by
  intro w hw
  rcases List.mem_cons.mp hw with rfl | hw
  · exact ⟨hb _ h, good_of_word (List.mem_filter.mp h).2⟩
  · exact ⟨hb _ hw, good_of_word (List.mem_filter.mp hw).2⟩

theorem cr_inX0 : ∀ w ∈ u_ws RX0 TX0 9, w ∈ cr_GW := cr_gws [380, 382, 384, 386, 388, 390, 392, 394, 396] (by decide +kernel) (by decide +kernel)
theorem cr_inX1 : ∀ w ∈ u_ws RX1 TX1 8, w ∈ cr_GW := cr_gws [327, 329, 331, 333, 335, 337, 339, 341] (by decide +kernel) (by decide +kernel)
theorem cr_inX2 : ∀ w ∈ u_ws RX2 TX2 5, w ∈ cr_GW := cr_gws [172, 174, 176, 178, 180] (by decide +kernel) (by decide +kernel)
theorem cr_inX3 : ∀ w ∈ u_ws RX3 TX3 17, w ∈ cr_GW := cr_gws [224, 226, 228, 230, 232, 234, 236, 238, 240, 242, 244, 246, 248, 250, 252, 254, 256] (by decide +kernel) (by decide +kernel)
theorem cr_inX4 : ∀ w ∈ u_ws RX4 TX4 10, w ∈ cr_GW := cr_gws [284, 286, 288, 290, 292, 294, 296, 298, 300, 302] (by decide +kernel) (by decide +kernel)
theorem cr_inX5 : ∀ w ∈ u_ws RX5 TX5 1, w ∈ cr_GW := cr_gws [353] (by decide +kernel) (by decide +kernel)
theorem cr_inX6 : ∀ w ∈ u_ws RX6 TX6 6, w ∈ cr_GW := cr_gws [111, 113, 115, 117, 119, 121] (by decide +kernel) (by decide +kernel)
theorem cr_inX7 : ∀ w ∈ u_ws RX7 TX7 5, w ∈ cr_GW := cr_gws [132, 134, 136, 138, 140] (by decide +kernel) (by decide +kernel)
theorem cr_inX8 : ∀ w ∈ u_ws RX8 TX8 6, w ∈ cr_GW := cr_gws [405, 407, 409, 411, 413, 415] (by decide +kernel) (by decide +kernel)
theorem cr_inX9 : ∀ w ∈ u_ws RX9 TX9 65, w ∈ cr_GW := cr_gws [978, 980, 982, 984, 986, 988, 990, 992, 994, 996, 998, 1000, 1002, 1004, 1006, 1008, 1010, 1012, 1014, 1016, 1018, 1020, 1022, 1024, 1026, 1028, 1030, 1032, 1034, 1036, 1038, 1040, 1042, 1044, 1046, 1048, 1050, 1052, 1054, 1056, 1058, 1060, 1062, 1064, 1066, 1068, 1070, 1072, 1074, 1076, 1078, 1080, 1082, 1084, 1086, 1088, 1090, 1092, 1094, 1096, 1098, 1100, 1102, 1104, 1106] (by decide +kernel) (by decide +kernel)
