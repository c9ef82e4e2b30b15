section
-- ===== PART A: goes FIRST, ahead of the names: the tables' words, and 'selects' of the private methods out of them =====
/-- a private method of a class that the tables say can be made, by its rows of tables_1 -/
def lw_okq (q : MethodName × Nat) : Prop := (q.1.cls ≠ "java/lang/invoke/MethodHandle" ∧ q.1.cls ≠ "java/lang/invoke/VarHandle") ∧ Cond.instantiable q.1.cls q.2 ∈ tables_1 ∧ Cond.privateMethod q.1 ∈ tables_1 ∧ Cond.instanceMethod q.1 ∈ tables_1
theorem lw_p0 : lw_okq (⟨"CartRows$Text", "advance", "()V"⟩, 5) := ⟨⟨by decide +kernel, by decide +kernel⟩, List.mem_of_getElem? (i := 27) (by decide +kernel), List.mem_of_getElem? (i := 392) (by decide +kernel), List.mem_of_getElem? (i := 393) (by decide +kernel)⟩
theorem lw_p1 : lw_okq (⟨"CartRows$Text", "isAtEnd", "()Z"⟩, 5) := ⟨⟨by decide +kernel, by decide +kernel⟩, List.mem_of_getElem? (i := 27) (by decide +kernel), List.mem_of_getElem? (i := 396) (by decide +kernel), List.mem_of_getElem? (i := 397) (by decide +kernel)⟩
theorem lw_p2 : lw_okq (⟨"CartRows$Text", "parseLine", "(I)Z"⟩, 5) := ⟨⟨by decide +kernel, by decide +kernel⟩, List.mem_of_getElem? (i := 27) (by decide +kernel), List.mem_of_getElem? (i := 406) (by decide +kernel), List.mem_of_getElem? (i := 407) (by decide +kernel)⟩
theorem lw_p3 : lw_okq (⟨"CartRows$Text", "parseWish", "(I)Z"⟩, 5) := ⟨⟨by decide +kernel, by decide +kernel⟩, List.mem_of_getElem? (i := 27) (by decide +kernel), List.mem_of_getElem? (i := 410) (by decide +kernel), List.mem_of_getElem? (i := 411) (by decide +kernel)⟩
theorem lw_p4 : lw_okq (⟨"CartRows$Text", "isWord", "(Ljava/lang/String;)Z"⟩, 5) := ⟨⟨by decide +kernel, by decide +kernel⟩, List.mem_of_getElem? (i := 27) (by decide +kernel), List.mem_of_getElem? (i := 415) (by decide +kernel), List.mem_of_getElem? (i := 416) (by decide +kernel)⟩
theorem lw_p5 : lw_okq (⟨"CartRows$Text", "isNumber", "()Z"⟩, 5) := ⟨⟨by decide +kernel, by decide +kernel⟩, List.mem_of_getElem? (i := 27) (by decide +kernel), List.mem_of_getElem? (i := 469) (by decide +kernel), List.mem_of_getElem? (i := 470) (by decide +kernel)⟩
theorem lw_p6 : lw_okq (⟨"CartRows$Text", "number", "()I"⟩, 5) := ⟨⟨by decide +kernel, by decide +kernel⟩, List.mem_of_getElem? (i := 27) (by decide +kernel), List.mem_of_getElem? (i := 473) (by decide +kernel), List.mem_of_getElem? (i := 474) (by decide +kernel)⟩
theorem lw_p7 : lw_okq (⟨"CartRows$Text", "parseTest", "(II)Z"⟩, 5) := ⟨⟨by decide +kernel, by decide +kernel⟩, List.mem_of_getElem? (i := 27) (by decide +kernel), List.mem_of_getElem? (i := 478) (by decide +kernel), List.mem_of_getElem? (i := 479) (by decide +kernel)⟩
theorem lw_p8 : lw_okq (⟨"CartRows$Text", "readingNamed", "()I"⟩, 5) := ⟨⟨by decide +kernel, by decide +kernel⟩, List.mem_of_getElem? (i := 27) (by decide +kernel), List.mem_of_getElem? (i := 482) (by decide +kernel), List.mem_of_getElem? (i := 483) (by decide +kernel)⟩
theorem lw_p9 : lw_okq (⟨"CartRows$Text", "isSign", "(I)Z"⟩, 5) := ⟨⟨by decide +kernel, by decide +kernel⟩, List.mem_of_getElem? (i := 27) (by decide +kernel), List.mem_of_getElem? (i := 495) (by decide +kernel), List.mem_of_getElem? (i := 496) (by decide +kernel)⟩
theorem lw_p10 : lw_okq (⟨"CartRows", "isNoFollower", "(I)Z"⟩, 6) := ⟨⟨by decide +kernel, by decide +kernel⟩, List.mem_of_getElem? (i := 19) (by decide +kernel), List.mem_of_getElem? (i := 539) (by decide +kernel), List.mem_of_getElem? (i := 540) (by decide +kernel)⟩
theorem lw_p11 : lw_okq (⟨"CartRows", "isNoLorry", "(I)Z"⟩, 6) := ⟨⟨by decide +kernel, by decide +kernel⟩, List.mem_of_getElem? (i := 19) (by decide +kernel), List.mem_of_getElem? (i := 547) (by decide +kernel), List.mem_of_getElem? (i := 548) (by decide +kernel)⟩
theorem lw_p12 : lw_okq (⟨"CartRows", "driveAsTold", "()V"⟩, 6) := ⟨⟨by decide +kernel, by decide +kernel⟩, List.mem_of_getElem? (i := 19) (by decide +kernel), List.mem_of_getElem? (i := 552) (by decide +kernel), List.mem_of_getElem? (i := 553) (by decide +kernel)⟩
theorem lw_p13 : lw_okq (⟨"CartRows$Run", "begin", "(LCartRows$Road;I)V"⟩, 10) := ⟨⟨by decide +kernel, by decide +kernel⟩, List.mem_of_getElem? (i := 202) (by decide +kernel), List.mem_of_getElem? (i := 560) (by decide +kernel), List.mem_of_getElem? (i := 561) (by decide +kernel)⟩
theorem lw_p14 : lw_okq (⟨"CartRows$Run", "pass", "(LCartRows$Road;III)V"⟩, 10) := ⟨⟨by decide +kernel, by decide +kernel⟩, List.mem_of_getElem? (i := 202) (by decide +kernel), List.mem_of_getElem? (i := 564) (by decide +kernel), List.mem_of_getElem? (i := 565) (by decide +kernel)⟩
theorem lw_p15 : lw_okq (⟨"CartRows$Run", "meetStranger", "(LCartRows$Road;I)V"⟩, 10) := ⟨⟨by decide +kernel, by decide +kernel⟩, List.mem_of_getElem? (i := 202) (by decide +kernel), List.mem_of_getElem? (i := 568) (by decide +kernel), List.mem_of_getElem? (i := 569) (by decide +kernel)⟩
def lw_privs_1 : List (MethodName × Nat) := [(⟨"CartRows$Text", "advance", "()V"⟩, 5), (⟨"CartRows$Text", "isAtEnd", "()Z"⟩, 5), (⟨"CartRows$Text", "parseLine", "(I)Z"⟩, 5), (⟨"CartRows$Text", "parseWish", "(I)Z"⟩, 5), (⟨"CartRows$Text", "isWord", "(Ljava/lang/String;)Z"⟩, 5), (⟨"CartRows$Text", "isNumber", "()Z"⟩, 5), (⟨"CartRows$Text", "number", "()I"⟩, 5), (⟨"CartRows$Text", "parseTest", "(II)Z"⟩, 5), (⟨"CartRows$Text", "readingNamed", "()I"⟩, 5), (⟨"CartRows$Text", "isSign", "(I)Z"⟩, 5), (⟨"CartRows", "isNoFollower", "(I)Z"⟩, 6), (⟨"CartRows", "isNoLorry", "(I)Z"⟩, 6), (⟨"CartRows", "driveAsTold", "()V"⟩, 6), (⟨"CartRows$Run", "begin", "(LCartRows$Road;I)V"⟩, 10), (⟨"CartRows$Run", "pass", "(LCartRows$Road;III)V"⟩, 10), (⟨"CartRows$Run", "meetStranger", "(LCartRows$Road;I)V"⟩, 10)]
theorem lw_r1 : ∀ q ∈ lw_privs_1, lw_okq q := List.forall_mem_cons.mpr ⟨lw_p0, List.forall_mem_cons.mpr ⟨lw_p1, List.forall_mem_cons.mpr ⟨lw_p2, List.forall_mem_cons.mpr ⟨lw_p3, List.forall_mem_cons.mpr ⟨lw_p4, List.forall_mem_cons.mpr ⟨lw_p5, List.forall_mem_cons.mpr ⟨lw_p6, List.forall_mem_cons.mpr ⟨lw_p7, List.forall_mem_cons.mpr ⟨lw_p8, List.forall_mem_cons.mpr ⟨lw_p9, List.forall_mem_cons.mpr ⟨lw_p10, List.forall_mem_cons.mpr ⟨lw_p11, List.forall_mem_cons.mpr ⟨lw_p12, List.forall_mem_cons.mpr ⟨lw_p13, List.forall_mem_cons.mpr ⟨lw_p14, List.forall_mem_cons.mpr ⟨lw_p15, fun _ h => absurd h List.not_mem_nil⟩⟩⟩⟩⟩⟩⟩⟩⟩⟩⟩⟩⟩⟩⟩⟩
theorem lw_p16 : lw_okq (⟨"CartRows$Run", "hear", "(III)V"⟩, 10) := ⟨⟨by decide +kernel, by decide +kernel⟩, List.mem_of_getElem? (i := 202) (by decide +kernel), List.mem_of_getElem? (i := 572) (by decide +kernel), List.mem_of_getElem? (i := 573) (by decide +kernel)⟩
theorem lw_p17 : lw_okq (⟨"CartRows$Run", "read", "(LCartRows$Road;II)V"⟩, 10) := ⟨⟨by decide +kernel, by decide +kernel⟩, List.mem_of_getElem? (i := 202) (by decide +kernel), List.mem_of_getElem? (i := 595) (by decide +kernel), List.mem_of_getElem? (i := 596) (by decide +kernel)⟩
theorem lw_p18 : lw_okq (⟨"CartRows$Table", "holds", "(I[I)Z"⟩, 6) := ⟨⟨by decide +kernel, by decide +kernel⟩, List.mem_of_getElem? (i := 33) (by decide +kernel), List.mem_of_getElem? (i := 608) (by decide +kernel), List.mem_of_getElem? (i := 609) (by decide +kernel)⟩
theorem lw_p19 : lw_okq (⟨"CartRows$Run", "speedBehind", "(LCartRows$Road;II)I"⟩, 10) := ⟨⟨by decide +kernel, by decide +kernel⟩, List.mem_of_getElem? (i := 202) (by decide +kernel), List.mem_of_getElem? (i := 612) (by decide +kernel), List.mem_of_getElem? (i := 613) (by decide +kernel)⟩
theorem lw_p20 : lw_okq (⟨"CartRows$Run", "go", "(LCartRows$Road;I)V"⟩, 10) := ⟨⟨by decide +kernel, by decide +kernel⟩, List.mem_of_getElem? (i := 202) (by decide +kernel), List.mem_of_getElem? (i := 621) (by decide +kernel), List.mem_of_getElem? (i := 622) (by decide +kernel)⟩
theorem lw_p21 : lw_okq (⟨"CartRows$Run", "noteTouch", "(LCartRows$Road;I)V"⟩, 10) := ⟨⟨by decide +kernel, by decide +kernel⟩, List.mem_of_getElem? (i := 202) (by decide +kernel), List.mem_of_getElem? (i := 625) (by decide +kernel), List.mem_of_getElem? (i := 626) (by decide +kernel)⟩
theorem lw_p22 : lw_okq (⟨"CartRows$Journeys", "burnt", "(LCartRows$Road;II)I"⟩, 8) := ⟨⟨by decide +kernel, by decide +kernel⟩, List.mem_of_getElem? (i := 248) (by decide +kernel), List.mem_of_getElem? (i := 717) (by decide +kernel), List.mem_of_getElem? (i := 718) (by decide +kernel)⟩
theorem lw_p23 : lw_okq (⟨"CartRows$Journeys", "leavesWith", "(III)Z"⟩, 8) := ⟨⟨by decide +kernel, by decide +kernel⟩, List.mem_of_getElem? (i := 248) (by decide +kernel), List.mem_of_getElem? (i := 721) (by decide +kernel), List.mem_of_getElem? (i := 722) (by decide +kernel)⟩
theorem lw_p24 : lw_okq (⟨"CartRows$Journeys", "leads", "(LCartRows$Road;II)Z"⟩, 8) := ⟨⟨by decide +kernel, by decide +kernel⟩, List.mem_of_getElem? (i := 248) (by decide +kernel), List.mem_of_getElem? (i := 725) (by decide +kernel), List.mem_of_getElem? (i := 726) (by decide +kernel)⟩
theorem lw_p25 : lw_okq (⟨"CartRows$Journeys", "choices", "()I"⟩, 8) := ⟨⟨by decide +kernel, by decide +kernel⟩, List.mem_of_getElem? (i := 248) (by decide +kernel), List.mem_of_getElem? (i := 733) (by decide +kernel), List.mem_of_getElem? (i := 734) (by decide +kernel)⟩
theorem lw_p26 : lw_okq (⟨"CartRows$Journeys", "turn", "()V"⟩, 8) := ⟨⟨by decide +kernel, by decide +kernel⟩, List.mem_of_getElem? (i := 248) (by decide +kernel), List.mem_of_getElem? (i := 737) (by decide +kernel), List.mem_of_getElem? (i := 738) (by decide +kernel)⟩
theorem lw_p27 : lw_okq (⟨"CartRows$Shares", "sumOverOrders", "(II)I"⟩, 1) := ⟨⟨by decide +kernel, by decide +kernel⟩, List.mem_of_getElem? (i := 287) (by decide +kernel), List.mem_of_getElem? (i := 769) (by decide +kernel), List.mem_of_getElem? (i := 770) (by decide +kernel)⟩
theorem lw_p28 : lw_okq (⟨"CartRows", "isNoEvent", "(I)Z"⟩, 6) := ⟨⟨by decide +kernel, by decide +kernel⟩, List.mem_of_getElem? (i := 19) (by decide +kernel), List.mem_of_getElem? (i := 809) (by decide +kernel), List.mem_of_getElem? (i := 810) (by decide +kernel)⟩
theorem lw_p29 : lw_okq (⟨"CartRows$Clocks", "startLags", "()V"⟩, 9) := ⟨⟨by decide +kernel, by decide +kernel⟩, List.mem_of_getElem? (i := 299) (by decide +kernel), List.mem_of_getElem? (i := 821) (by decide +kernel), List.mem_of_getElem? (i := 822) (by decide +kernel)⟩
theorem lw_p30 : lw_okq (⟨"CartRows$Clocks", "heedAfter", "(III)V"⟩, 9) := ⟨⟨by decide +kernel, by decide +kernel⟩, List.mem_of_getElem? (i := 299) (by decide +kernel), List.mem_of_getElem? (i := 825) (by decide +kernel), List.mem_of_getElem? (i := 826) (by decide +kernel)⟩
theorem lw_p31 : lw_okq (⟨"CartRows$Clocks", "narrowLags", "()V"⟩, 9) := ⟨⟨by decide +kernel, by decide +kernel⟩, List.mem_of_getElem? (i := 299) (by decide +kernel), List.mem_of_getElem? (i := 830) (by decide +kernel), List.mem_of_getElem? (i := 831) (by decide +kernel)⟩
def lw_privs_2 : List (MethodName × Nat) := [(⟨"CartRows$Run", "hear", "(III)V"⟩, 10), (⟨"CartRows$Run", "read", "(LCartRows$Road;II)V"⟩, 10), (⟨"CartRows$Table", "holds", "(I[I)Z"⟩, 6), (⟨"CartRows$Run", "speedBehind", "(LCartRows$Road;II)I"⟩, 10), (⟨"CartRows$Run", "go", "(LCartRows$Road;I)V"⟩, 10), (⟨"CartRows$Run", "noteTouch", "(LCartRows$Road;I)V"⟩, 10), (⟨"CartRows$Journeys", "burnt", "(LCartRows$Road;II)I"⟩, 8), (⟨"CartRows$Journeys", "leavesWith", "(III)Z"⟩, 8), (⟨"CartRows$Journeys", "leads", "(LCartRows$Road;II)Z"⟩, 8), (⟨"CartRows$Journeys", "choices", "()I"⟩, 8), (⟨"CartRows$Journeys", "turn", "()V"⟩, 8), (⟨"CartRows$Shares", "sumOverOrders", "(II)I"⟩, 1), (⟨"CartRows", "isNoEvent", "(I)Z"⟩, 6), (⟨"CartRows$Clocks", "startLags", "()V"⟩, 9), (⟨"CartRows$Clocks", "heedAfter", "(III)V"⟩, 9), (⟨"CartRows$Clocks", "narrowLags", "()V"⟩, 9)]
theorem lw_r2 : ∀ q ∈ lw_privs_2, lw_okq q := List.forall_mem_cons.mpr ⟨lw_p16, List.forall_mem_cons.mpr ⟨lw_p17, List.forall_mem_cons.mpr ⟨lw_p18, List.forall_mem_cons.mpr ⟨lw_p19, List.forall_mem_cons.mpr ⟨lw_p20, List.forall_mem_cons.mpr ⟨lw_p21, List.forall_mem_cons.mpr ⟨lw_p22, List.forall_mem_cons.mpr ⟨lw_p23, List.forall_mem_cons.mpr ⟨lw_p24, List.forall_mem_cons.mpr ⟨lw_p25, List.forall_mem_cons.mpr ⟨lw_p26, List.forall_mem_cons.mpr ⟨lw_p27, List.forall_mem_cons.mpr ⟨lw_p28, List.forall_mem_cons.mpr ⟨lw_p29, List.forall_mem_cons.mpr ⟨lw_p30, List.forall_mem_cons.mpr ⟨lw_p31, fun _ h => absurd h List.not_mem_nil⟩⟩⟩⟩⟩⟩⟩⟩⟩⟩⟩⟩⟩⟩⟩⟩
theorem lw_p32 : lw_okq (⟨"CartRowsModel", "token", "()V"⟩, 65) := ⟨⟨by decide +kernel, by decide +kernel⟩, List.mem_of_getElem? (i := 850) (by decide +kernel), List.mem_of_getElem? (i := 1080) (by decide +kernel), List.mem_of_getElem? (i := 1081) (by decide +kernel)⟩
theorem lw_p33 : lw_okq (⟨"CartRowsModel", "readsLine", "()Z"⟩, 65) := ⟨⟨by decide +kernel, by decide +kernel⟩, List.mem_of_getElem? (i := 850) (by decide +kernel), List.mem_of_getElem? (i := 1087) (by decide +kernel), List.mem_of_getElem? (i := 1088) (by decide +kernel)⟩
theorem lw_p34 : lw_okq (⟨"CartRowsModel", "isWord", "(JI)Z"⟩, 65) := ⟨⟨by decide +kernel, by decide +kernel⟩, List.mem_of_getElem? (i := 850) (by decide +kernel), List.mem_of_getElem? (i := 1092) (by decide +kernel), List.mem_of_getElem? (i := 1093) (by decide +kernel)⟩
theorem lw_p35 : lw_okq (⟨"CartRowsModel", "skipsNumber", "()Z"⟩, 65) := ⟨⟨by decide +kernel, by decide +kernel⟩, List.mem_of_getElem? (i := 850) (by decide +kernel), List.mem_of_getElem? (i := 1099) (by decide +kernel), List.mem_of_getElem? (i := 1100) (by decide +kernel)⟩
theorem lw_p36 : lw_okq (⟨"CartRowsModel", "skips", "(JI)Z"⟩, 65) := ⟨⟨by decide +kernel, by decide +kernel⟩, List.mem_of_getElem? (i := 850) (by decide +kernel), List.mem_of_getElem? (i := 1104) (by decide +kernel), List.mem_of_getElem? (i := 1105) (by decide +kernel)⟩
theorem lw_p37 : lw_okq (⟨"CartRowsModel", "readsTest", "(I)Z"⟩, 65) := ⟨⟨by decide +kernel, by decide +kernel⟩, List.mem_of_getElem? (i := 850) (by decide +kernel), List.mem_of_getElem? (i := 1108) (by decide +kernel), List.mem_of_getElem? (i := 1109) (by decide +kernel)⟩
theorem lw_p38 : lw_okq (⟨"CartRowsModel", "readingWord", "()I"⟩, 65) := ⟨⟨by decide +kernel, by decide +kernel⟩, List.mem_of_getElem? (i := 850) (by decide +kernel), List.mem_of_getElem? (i := 1112) (by decide +kernel), List.mem_of_getElem? (i := 1113) (by decide +kernel)⟩
theorem lw_p39 : lw_okq (⟨"CartRowsModel", "isLorry", "(I)Z"⟩, 65) := ⟨⟨by decide +kernel, by decide +kernel⟩, List.mem_of_getElem? (i := 850) (by decide +kernel), List.mem_of_getElem? (i := 1163) (by decide +kernel), List.mem_of_getElem? (i := 1164) (by decide +kernel)⟩
theorem lw_p40 : lw_okq (⟨"CartRowsModel", "layTold", "()V"⟩, 65) := ⟨⟨by decide +kernel, by decide +kernel⟩, List.mem_of_getElem? (i := 850) (by decide +kernel), List.mem_of_getElem? (i := 1172) (by decide +kernel), List.mem_of_getElem? (i := 1173) (by decide +kernel)⟩
theorem lw_p41 : lw_okq (⟨"CartRowsModel", "layRun", "(III)V"⟩, 65) := ⟨⟨by decide +kernel, by decide +kernel⟩, List.mem_of_getElem? (i := 850) (by decide +kernel), List.mem_of_getElem? (i := 1176) (by decide +kernel), List.mem_of_getElem? (i := 1177) (by decide +kernel)⟩
theorem lw_p42 : lw_okq (⟨"CartRowsModel", "layWishes", "(III)V"⟩, 65) := ⟨⟨by decide +kernel, by decide +kernel⟩, List.mem_of_getElem? (i := 850) (by decide +kernel), List.mem_of_getElem? (i := 1180) (by decide +kernel), List.mem_of_getElem? (i := 1181) (by decide +kernel)⟩
theorem lw_p43 : lw_okq (⟨"CartRowsModel", "isStrange", "(II)Z"⟩, 65) := ⟨⟨by decide +kernel, by decide +kernel⟩, List.mem_of_getElem? (i := 850) (by decide +kernel), List.mem_of_getElem? (i := 1184) (by decide +kernel), List.mem_of_getElem? (i := 1185) (by decide +kernel)⟩
theorem lw_p44 : lw_okq (⟨"CartRowsModel", "wishBy", "(IIIIII)I"⟩, 65) := ⟨⟨by decide +kernel, by decide +kernel⟩, List.mem_of_getElem? (i := 850) (by decide +kernel), List.mem_of_getElem? (i := 1188) (by decide +kernel), List.mem_of_getElem? (i := 1189) (by decide +kernel)⟩
theorem lw_p45 : lw_okq (⟨"CartRowsModel", "pushedIn", "(I)I"⟩, 65) := ⟨⟨by decide +kernel, by decide +kernel⟩, List.mem_of_getElem? (i := 850) (by decide +kernel), List.mem_of_getElem? (i := 1195) (by decide +kernel), List.mem_of_getElem? (i := 1196) (by decide +kernel)⟩
theorem lw_p46 : lw_okq (⟨"CartRowsModel", "goOn", "(I)V"⟩, 65) := ⟨⟨by decide +kernel, by decide +kernel⟩, List.mem_of_getElem? (i := 850) (by decide +kernel), List.mem_of_getElem? (i := 1199) (by decide +kernel), List.mem_of_getElem? (i := 1200) (by decide +kernel)⟩
theorem lw_p47 : lw_okq (⟨"CartRowsModel", "slopeFor", "(I)I"⟩, 65) := ⟨⟨by decide +kernel, by decide +kernel⟩, List.mem_of_getElem? (i := 850) (by decide +kernel), List.mem_of_getElem? (i := 1203) (by decide +kernel), List.mem_of_getElem? (i := 1204) (by decide +kernel)⟩
def lw_privs_3 : List (MethodName × Nat) := [(⟨"CartRowsModel", "token", "()V"⟩, 65), (⟨"CartRowsModel", "readsLine", "()Z"⟩, 65), (⟨"CartRowsModel", "isWord", "(JI)Z"⟩, 65), (⟨"CartRowsModel", "skipsNumber", "()Z"⟩, 65), (⟨"CartRowsModel", "skips", "(JI)Z"⟩, 65), (⟨"CartRowsModel", "readsTest", "(I)Z"⟩, 65), (⟨"CartRowsModel", "readingWord", "()I"⟩, 65), (⟨"CartRowsModel", "isLorry", "(I)Z"⟩, 65), (⟨"CartRowsModel", "layTold", "()V"⟩, 65), (⟨"CartRowsModel", "layRun", "(III)V"⟩, 65), (⟨"CartRowsModel", "layWishes", "(III)V"⟩, 65), (⟨"CartRowsModel", "isStrange", "(II)Z"⟩, 65), (⟨"CartRowsModel", "wishBy", "(IIIIII)I"⟩, 65), (⟨"CartRowsModel", "pushedIn", "(I)I"⟩, 65), (⟨"CartRowsModel", "goOn", "(I)V"⟩, 65), (⟨"CartRowsModel", "slopeFor", "(I)I"⟩, 65)]
theorem lw_r3 : ∀ q ∈ lw_privs_3, lw_okq q := List.forall_mem_cons.mpr ⟨lw_p32, List.forall_mem_cons.mpr ⟨lw_p33, List.forall_mem_cons.mpr ⟨lw_p34, List.forall_mem_cons.mpr ⟨lw_p35, List.forall_mem_cons.mpr ⟨lw_p36, List.forall_mem_cons.mpr ⟨lw_p37, List.forall_mem_cons.mpr ⟨lw_p38, List.forall_mem_cons.mpr ⟨lw_p39, List.forall_mem_cons.mpr ⟨lw_p40, List.forall_mem_cons.mpr ⟨lw_p41, List.forall_mem_cons.mpr ⟨lw_p42, List.forall_mem_cons.mpr ⟨lw_p43, List.forall_mem_cons.mpr ⟨lw_p44, List.forall_mem_cons.mpr ⟨lw_p45, List.forall_mem_cons.mpr ⟨lw_p46, List.forall_mem_cons.mpr ⟨lw_p47, fun _ h => absurd h List.not_mem_nil⟩⟩⟩⟩⟩⟩⟩⟩⟩⟩⟩⟩⟩⟩⟩⟩
theorem lw_p48 : lw_okq (⟨"CartRowsModel", "dipOf", "(I)I"⟩, 65) := ⟨⟨by decide +kernel, by decide +kernel⟩, List.mem_of_getElem? (i := 850) (by decide +kernel), List.mem_of_getElem? (i := 1220) (by decide +kernel), List.mem_of_getElem? (i := 1221) (by decide +kernel)⟩
theorem lw_p49 : lw_okq (⟨"CartRowsModel", "worstOf", "(III)I"⟩, 65) := ⟨⟨by decide +kernel, by decide +kernel⟩, List.mem_of_getElem? (i := 850) (by decide +kernel), List.mem_of_getElem? (i := 1236) (by decide +kernel), List.mem_of_getElem? (i := 1237) (by decide +kernel)⟩
theorem lw_p50 : lw_okq (⟨"CartRowsModel", "burnt", "()I"⟩, 65) := ⟨⟨by decide +kernel, by decide +kernel⟩, List.mem_of_getElem? (i := 850) (by decide +kernel), List.mem_of_getElem? (i := 1272) (by decide +kernel), List.mem_of_getElem? (i := 1273) (by decide +kernel)⟩
theorem lw_p51 : lw_okq (⟨"CartRowsModel", "leads", "(III)Z"⟩, 65) := ⟨⟨by decide +kernel, by decide +kernel⟩, List.mem_of_getElem? (i := 850) (by decide +kernel), List.mem_of_getElem? (i := 1276) (by decide +kernel), List.mem_of_getElem? (i := 1277) (by decide +kernel)⟩
theorem lw_p52 : lw_okq (⟨"CartRowsModel", "goes", "(III)Z"⟩, 65) := ⟨⟨by decide +kernel, by decide +kernel⟩, List.mem_of_getElem? (i := 850) (by decide +kernel), List.mem_of_getElem? (i := 1280) (by decide +kernel), List.mem_of_getElem? (i := 1281) (by decide +kernel)⟩
theorem lw_p53 : lw_okq (⟨"CartRowsModel", "sparedIn", "(I)I"⟩, 65) := ⟨⟨by decide +kernel, by decide +kernel⟩, List.mem_of_getElem? (i := 850) (by decide +kernel), List.mem_of_getElem? (i := 1300) (by decide +kernel), List.mem_of_getElem? (i := 1301) (by decide +kernel)⟩
theorem lw_p54 : lw_okq (⟨"CartRowsModel", "coins", "(II)I"⟩, 65) := ⟨⟨by decide +kernel, by decide +kernel⟩, List.mem_of_getElem? (i := 850) (by decide +kernel), List.mem_of_getElem? (i := 1308) (by decide +kernel), List.mem_of_getElem? (i := 1309) (by decide +kernel)⟩
theorem lw_p55 : lw_okq (⟨"CartRowsModel", "shareOf", "(II)I"⟩, 65) := ⟨⟨by decide +kernel, by decide +kernel⟩, List.mem_of_getElem? (i := 850) (by decide +kernel), List.mem_of_getElem? (i := 1315) (by decide +kernel), List.mem_of_getElem? (i := 1316) (by decide +kernel)⟩
theorem lw_p56 : lw_okq (⟨"CartRowsModel", "isEvent", "(I)Z"⟩, 65) := ⟨⟨by decide +kernel, by decide +kernel⟩, List.mem_of_getElem? (i := 850) (by decide +kernel), List.mem_of_getElem? (i := 1339) (by decide +kernel), List.mem_of_getElem? (i := 1340) (by decide +kernel)⟩
theorem lw_p57 : lw_okq (⟨"CartRowsModel", "layOffs", "()Z"⟩, 65) := ⟨⟨by decide +kernel, by decide +kernel⟩, List.mem_of_getElem? (i := 850) (by decide +kernel), List.mem_of_getElem? (i := 1347) (by decide +kernel), List.mem_of_getElem? (i := 1348) (by decide +kernel)⟩
def lw_privs_4 : List (MethodName × Nat) := [(⟨"CartRowsModel", "dipOf", "(I)I"⟩, 65), (⟨"CartRowsModel", "worstOf", "(III)I"⟩, 65), (⟨"CartRowsModel", "burnt", "()I"⟩, 65), (⟨"CartRowsModel", "leads", "(III)Z"⟩, 65), (⟨"CartRowsModel", "goes", "(III)Z"⟩, 65), (⟨"CartRowsModel", "sparedIn", "(I)I"⟩, 65), (⟨"CartRowsModel", "coins", "(II)I"⟩, 65), (⟨"CartRowsModel", "shareOf", "(II)I"⟩, 65), (⟨"CartRowsModel", "isEvent", "(I)Z"⟩, 65), (⟨"CartRowsModel", "layOffs", "()Z"⟩, 65)]
theorem lw_r4 : ∀ q ∈ lw_privs_4, lw_okq q := List.forall_mem_cons.mpr ⟨lw_p48, List.forall_mem_cons.mpr ⟨lw_p49, List.forall_mem_cons.mpr ⟨lw_p50, List.forall_mem_cons.mpr ⟨lw_p51, List.forall_mem_cons.mpr ⟨lw_p52, List.forall_mem_cons.mpr ⟨lw_p53, List.forall_mem_cons.mpr ⟨lw_p54, List.forall_mem_cons.mpr ⟨lw_p55, List.forall_mem_cons.mpr ⟨lw_p56, List.forall_mem_cons.mpr ⟨lw_p57, fun _ h => absurd h List.not_mem_nil⟩⟩⟩⟩⟩⟩⟩⟩⟩⟩
def lw_privs : List (MethodName × Nat) := lw_privs_1 ++ (lw_privs_2 ++ (lw_privs_3 ++ (lw_privs_4)))
def lw_tbl : List Cond := k2_sels lw_privs ++ tables_1
theorem lw_privs_ok : ∀ q ∈ lw_privs, lw_okq q := by
  show ∀ q ∈ lw_privs_1 ++ (lw_privs_2 ++ (lw_privs_3 ++ (lw_privs_4))), lw_okq q
  exact List.forall_mem_append.mpr ⟨lw_r1, List.forall_mem_append.mpr ⟨lw_r2, List.forall_mem_append.mpr ⟨lw_r3, lw_r4⟩⟩⟩

def RX0 : String := "CartRows$Clocks"
def TX0 : u_T := fun k => match k with
  | 0 => ("CartRows$Clocks", "off", "[I", true)
  | 1 => ("CartRows$Clocks", "events", "I", false)
  | 2 => ("CartRows$Clocks", "eventClock", "[I", true)
  | 3 => ("CartRows$Clocks", "eventTime", "[I", true)
  | 4 => ("CartRows$Clocks", "afters", "I", false)
  | 5 => ("CartRows$Clocks", "afterOne", "[I", true)
  | 6 => ("CartRows$Clocks", "afterTwo", "[I", true)
  | 7 => ("CartRows$Clocks", "afterBy", "[I", true)
  | _ => ("CartRows$Clocks", "lag", "[[I", true)
def tyX0 : Nat → FieldType := fun k => match k with
  | 0 => .array .int
  | 1 => .int
  | 2 => .array .int
  | 3 => .array .int
  | 4 => .int
  | 5 => .array .int
  | 6 => .array .int
  | 7 => .array .int
  | _ => .array (.array .int)
theorem nmX0 : ∀ a, a < 9 → ∀ b, b < 9 → a ≠ b → (TX0 a).2.1 ≠ (TX0 b).2.1 := by decide +kernel
theorem tyX0_ok : ∀ k, k < 9 → parseFieldDescriptor (TX0 k).2.2.1 = some (tyX0 k) := by decide +kernel
abbrev cX0_init : ByteArray := prog_2_method_1_code
def yX0_init : MethodName := ⟨RX0, "<init>", "()V"⟩
abbrev cX0_layTogether : ByteArray := prog_2_method_2_code
def yX0_layTogether : MethodName := ⟨RX0, "layTogether", "()Z"⟩
abbrev cX0_earliest : ByteArray := prog_2_method_3_code
def yX0_earliest : MethodName := ⟨RX0, "earliest", "(I)I"⟩
abbrev cX0_latest : ByteArray := prog_2_method_4_code
def yX0_latest : MethodName := ⟨RX0, "latest", "(I)I"⟩
abbrev cX0_startLags : ByteArray := prog_2_method_5_code
def yX0_startLags : MethodName := ⟨RX0, "startLags", "()V"⟩
abbrev cX0_heedAfter : ByteArray := prog_2_method_6_code
def yX0_heedAfter : MethodName := ⟨RX0, "heedAfter", "(III)V"⟩
abbrev cX0_narrowLags : ByteArray := prog_2_method_7_code
def yX0_narrowLags : MethodName := ⟨RX0, "narrowLags", "()V"⟩
def RX1 : String := "CartRows$Journeys"
def TX1 : u_T := fun k => match k with
  | 0 => ("CartRows$Journeys", "number", "I", false)
  | 1 => ("CartRows$Journeys", "from", "[I", true)
  | 2 => ("CartRows$Journeys", "to", "[I", true)
  | 3 => ("CartRows$Journeys", "first", "[I", true)
  | 4 => ("CartRows$Journeys", "last", "[I", true)
  | 5 => ("CartRows$Journeys", "make", "[I", true)
  | 6 => ("CartRows$Journeys", "hour", "[I", true)
  | _ => ("CartRows$Journeys", "bestHour", "[I", true)
def tyX1 : Nat → FieldType := fun k => match k with
  | 0 => .int
  | 1 => .array .int
  | 2 => .array .int
  | 3 => .array .int
  | 4 => .array .int
  | 5 => .array .int
  | 6 => .array .int
  | _ => .array .int
theorem nmX1 : ∀ a, a < 8 → ∀ b, b < 8 → a ≠ b → (TX1 a).2.1 ≠ (TX1 b).2.1 := by decide +kernel
theorem tyX1_ok : ∀ k, k < 8 → parseFieldDescriptor (TX1 k).2.2.1 = some (tyX1 k) := by decide +kernel
abbrev cX1_init : ByteArray := prog_3_method_1_code
def yX1_init : MethodName := ⟨RX1, "<init>", "()V"⟩
abbrev cX1_cost : ByteArray := prog_3_method_2_code
def yX1_cost : MethodName := ⟨RX1, "cost", "(LCartRows$Road;)I"⟩
abbrev cX1_burnt : ByteArray := prog_3_method_3_code
def yX1_burnt : MethodName := ⟨RX1, "burnt", "(LCartRows$Road;II)I"⟩
abbrev cX1_leavesWith : ByteArray := prog_3_method_4_code
def yX1_leavesWith : MethodName := ⟨RX1, "leavesWith", "(III)Z"⟩
abbrev cX1_leads : ByteArray := prog_3_method_5_code
def yX1_leads : MethodName := ⟨RX1, "leads", "(LCartRows$Road;II)Z"⟩
abbrev cX1_findBest : ByteArray := prog_3_method_6_code
def yX1_findBest : MethodName := ⟨RX1, "findBest", "(LCartRows$Road;)I"⟩
abbrev cX1_choices : ByteArray := prog_3_method_7_code
def yX1_choices : MethodName := ⟨RX1, "choices", "()I"⟩
abbrev cX1_turn : ByteArray := prog_3_method_8_code
def yX1_turn : MethodName := ⟨RX1, "turn", "()V"⟩
def RX2 : String := "CartRows$Make"
def TX2 : u_T := fun k => match k with
  | 0 => ("CartRows$Make", "weight", "I", false)
  | 1 => ("CartRows$Make", "brake", "I", false)
  | 2 => ("CartRows$Make", "pull", "I", false)
  | 3 => ("CartRows$Make", "foot", "I", false)
  | _ => ("CartRows$Make", "table", "LCartRows$Table;", false)
def tyX2 : Nat → FieldType := fun k => match k with
  | 0 => .int
  | 1 => .int
  | 2 => .int
  | 3 => .int
  | _ => .object "CartRows$Table"
theorem nmX2 : ∀ a, a < 5 → ∀ b, b < 5 → a ≠ b → (TX2 a).2.1 ≠ (TX2 b).2.1 := by decide +kernel
theorem tyX2_ok : ∀ k, k < 5 → parseFieldDescriptor (TX2 k).2.2.1 = some (tyX2 k) := by decide +kernel
abbrev cX2_init : ByteArray := prog_4_method_1_code
def yX2_init : MethodName := ⟨RX2, "<init>", "()V"⟩
abbrev cX2_bounded : ByteArray := prog_4_method_2_code
def yX2_bounded : MethodName := ⟨RX2, "bounded", "(I)I"⟩
def RX3 : String := "CartRows$Road"
def TX3 : u_T := fun k => match k with
  | 0 => ("CartRows$Road", "makes", "[LCartRows$Make;", true)
  | 1 => ("CartRows$Road", "lorries", "I", false)
  | 2 => ("CartRows$Road", "makeOf", "[I", true)
  | 3 => ("CartRows$Road", "settings", "[I", true)
  | 4 => ("CartRows$Road", "lost", "I", false)
  | 5 => ("CartRows$Road", "pushes", "I", false)
  | 6 => ("CartRows$Road", "pushTick", "[I", true)
  | 7 => ("CartRows$Road", "pushWish", "[I", true)
  | 8 => ("CartRows$Road", "hills", "I", false)
  | 9 => ("CartRows$Road", "hillFrom", "[I", true)
  | 10 => ("CartRows$Road", "hillTo", "[I", true)
  | 11 => ("CartRows$Road", "hillWeight", "[I", true)
  | 12 => ("CartRows$Road", "hillSlope", "[I", true)
  | 13 => ("CartRows$Road", "strangerLorry", "I", false)
  | 14 => ("CartRows$Road", "strangerFrom", "I", false)
  | 15 => ("CartRows$Road", "strangerTo", "I", false)
  | _ => ("CartRows$Road", "strangerSpeed", "I", false)
def tyX3 : Nat → FieldType := fun k => match k with
  | 0 => .array (.object "CartRows$Make")
  | 1 => .int
  | 2 => .array .int
  | 3 => .array .int
  | 4 => .int
  | 5 => .int
  | 6 => .array .int
  | 7 => .array .int
  | 8 => .int
  | 9 => .array .int
  | 10 => .array .int
  | 11 => .array .int
  | 12 => .array .int
  | 13 => .int
  | 14 => .int
  | 15 => .int
  | _ => .int
theorem nmX3 : ∀ a, a < 17 → ∀ b, b < 17 → a ≠ b → (TX3 a).2.1 ≠ (TX3 b).2.1 := by decide +kernel
theorem tyX3_ok : ∀ k, k < 17 → parseFieldDescriptor (TX3 k).2.2.1 = some (tyX3 k) := by decide +kernel
abbrev cX3_init : ByteArray := prog_5_method_1_code
def yX3_init : MethodName := ⟨RX3, "<init>", "()V"⟩
abbrev cX3_makeOfLorry : ByteArray := prog_5_method_2_code
def yX3_makeOfLorry : MethodName := ⟨RX3, "makeOfLorry", "(I)LCartRows$Make;"⟩
abbrev cX3_pushIn : ByteArray := prog_5_method_3_code
def yX3_pushIn : MethodName := ⟨RX3, "pushIn", "(I)I"⟩
abbrev cX3_mostSpeed : ByteArray := prog_5_method_4_code
def yX3_mostSpeed : MethodName := ⟨RX3, "mostSpeed", "(II)I"⟩
abbrev cX3_hasStrangerAhead : ByteArray := prog_5_method_5_code
def yX3_hasStrangerAhead : MethodName := ⟨RX3, "hasStrangerAhead", "(II)Z"⟩
def RX4 : String := "CartRows$Run"
def TX4 : u_T := fun k => match k with
  | 0 => ("CartRows$Run", "speed", "[[I", true)
  | 1 => ("CartRows$Run", "gap", "[[I", true)
  | 2 => ("CartRows$Run", "place", "[[I", true)
  | 3 => ("CartRows$Run", "wish", "[[I", true)
  | 4 => ("CartRows$Run", "heard", "[I", true)
  | 5 => ("CartRows$Run", "old", "[I", true)
  | 6 => ("CartRows$Run", "touchTick", "I", false)
  | 7 => ("CartRows$Run", "touchLorry", "I", false)
  | 8 => ("CartRows$Run", "readings", "[I", true)
  | _ => ("CartRows$Run", "strangerGap", "I", false)
def tyX4 : Nat → FieldType := fun k => match k with
  | 0 => .array (.array .int)
  | 1 => .array (.array .int)
  | 2 => .array (.array .int)
  | 3 => .array (.array .int)
  | 4 => .array .int
  | 5 => .array .int
  | 6 => .int
  | 7 => .int
  | 8 => .array .int
  | _ => .int
theorem nmX4 : ∀ a, a < 10 → ∀ b, b < 10 → a ≠ b → (TX4 a).2.1 ≠ (TX4 b).2.1 := by decide +kernel
theorem tyX4_ok : ∀ k, k < 10 → parseFieldDescriptor (TX4 k).2.2.1 = some (tyX4 k) := by decide +kernel
abbrev cX4_init : ByteArray := prog_6_method_1_code
def yX4_init : MethodName := ⟨RX4, "<init>", "()V"⟩
abbrev cX4_drive : ByteArray := prog_6_method_2_code
def yX4_drive : MethodName := ⟨RX4, "drive", "(LCartRows$Road;III)V"⟩
abbrev cX4_touches : ByteArray := prog_6_method_3_code
def yX4_touches : MethodName := ⟨RX4, "touches", "(LCartRows$Road;III)Z"⟩
abbrev cX4_firstTouching : ByteArray := prog_6_method_4_code
def yX4_firstTouching : MethodName := ⟨RX4, "firstTouching", "(LCartRows$Road;III)I"⟩
abbrev cX4_leastGap : ByteArray := prog_6_method_5_code
def yX4_leastGap : MethodName := ⟨RX4, "leastGap", "(I)I"⟩
abbrev cX4_dipOf : ByteArray := prog_6_method_6_code
def yX4_dipOf : MethodName := ⟨RX4, "dipOf", "(I)I"⟩
abbrev cX4_weightBetween : ByteArray := prog_6_method_7_code
def yX4_weightBetween : MethodName := ⟨RX4, "weightBetween", "(LCartRows$Road;III)I"⟩
abbrev cX4_begin : ByteArray := prog_6_method_8_code
def yX4_begin : MethodName := ⟨RX4, "begin", "(LCartRows$Road;I)V"⟩
abbrev cX4_pass : ByteArray := prog_6_method_9_code
def yX4_pass : MethodName := ⟨RX4, "pass", "(LCartRows$Road;III)V"⟩
abbrev cX4_meetStranger : ByteArray := prog_6_method_10_code
def yX4_meetStranger : MethodName := ⟨RX4, "meetStranger", "(LCartRows$Road;I)V"⟩
abbrev cX4_hear : ByteArray := prog_6_method_11_code
def yX4_hear : MethodName := ⟨RX4, "hear", "(III)V"⟩
abbrev cX4_read : ByteArray := prog_6_method_12_code
def yX4_read : MethodName := ⟨RX4, "read", "(LCartRows$Road;II)V"⟩
abbrev cX4_speedBehind : ByteArray := prog_6_method_13_code
def yX4_speedBehind : MethodName := ⟨RX4, "speedBehind", "(LCartRows$Road;II)I"⟩
abbrev cX4_go : ByteArray := prog_6_method_14_code
def yX4_go : MethodName := ⟨RX4, "go", "(LCartRows$Road;I)V"⟩
abbrev cX4_noteTouch : ByteArray := prog_6_method_15_code
def yX4_noteTouch : MethodName := ⟨RX4, "noteTouch", "(LCartRows$Road;I)V"⟩
def RX5 : String := "CartRows$Shares"
def TX5 : u_T := fun k => match k with
  | _ => ("CartRows$Shares", "sparedBehind", "[[I", true)
def tyX5 : Nat → FieldType := fun k => match k with
  | _ => .array (.array .int)
theorem nmX5 : ∀ a, a < 1 → ∀ b, b < 1 → a ≠ b → (TX5 a).2.1 ≠ (TX5 b).2.1 := by decide +kernel
theorem tyX5_ok : ∀ k, k < 1 → parseFieldDescriptor (TX5 k).2.2.1 = some (tyX5 k) := by decide +kernel
abbrev cX5_init : ByteArray := prog_7_method_1_code
def yX5_init : MethodName := ⟨RX5, "<init>", "()V"⟩
abbrev cX5_sparedOf : ByteArray := prog_7_method_2_code
def yX5_sparedOf : MethodName := ⟨RX5, "sparedOf", "(I)I"⟩
abbrev cX5_above : ByteArray := prog_7_method_3_code
def yX5_above : MethodName := ⟨RX5, "above", "(II)I"⟩
abbrev cX5_below : ByteArray := prog_7_method_4_code
def yX5_below : MethodName := ⟨RX5, "below", "(II)I"⟩
abbrev cX5_coins : ByteArray := prog_7_method_5_code
def yX5_coins : MethodName := ⟨RX5, "coins", "(II)I"⟩
abbrev cX5_sumOverOrders : ByteArray := prog_7_method_6_code
def yX5_sumOverOrders : MethodName := ⟨RX5, "sumOverOrders", "(II)I"⟩
abbrev cX5_greatestDivisor : ByteArray := prog_7_method_7_code
def yX5_greatestDivisor : MethodName := ⟨RX5, "greatestDivisor", "(II)I"⟩
def RX6 : String := "CartRows$Table"
def TX6 : u_T := fun k => match k with
  | 0 => ("CartRows$Table", "lines", "I", false)
  | 1 => ("CartRows$Table", "wish", "[I", true)
  | 2 => ("CartRows$Table", "tests", "[I", true)
  | 3 => ("CartRows$Table", "reading", "[[I", true)
  | 4 => ("CartRows$Table", "bound", "[[I", true)
  | _ => ("CartRows$Table", "above", "[[I", true)
def tyX6 : Nat → FieldType := fun k => match k with
  | 0 => .int
  | 1 => .array .int
  | 2 => .array .int
  | 3 => .array (.array .int)
  | 4 => .array (.array .int)
  | _ => .array (.array .int)
theorem nmX6 : ∀ a, a < 6 → ∀ b, b < 6 → a ≠ b → (TX6 a).2.1 ≠ (TX6 b).2.1 := by decide +kernel
theorem tyX6_ok : ∀ k, k < 6 → parseFieldDescriptor (TX6 k).2.2.1 = some (tyX6 k) := by decide +kernel
abbrev cX6_init : ByteArray := prog_8_method_1_code
def yX6_init : MethodName := ⟨RX6, "<init>", "()V"⟩
abbrev cX6_wishBy : ByteArray := prog_8_method_2_code
def yX6_wishBy : MethodName := ⟨RX6, "wishBy", "([I)I"⟩
abbrev cX6_holds : ByteArray := prog_8_method_3_code
def yX6_holds : MethodName := ⟨RX6, "holds", "(I[I)Z"⟩
def RX7 : String := "CartRows$Text"
def TX7 : u_T := fun k => match k with
  | 0 => ("CartRows$Text", "bytes", "[I", true)
  | 1 => ("CartRows$Text", "length", "I", false)
  | 2 => ("CartRows$Text", "parsed", "LCartRows$Table;", false)
  | 3 => ("CartRows$Text", "start", "I", false)
  | _ => ("CartRows$Text", "end", "I", false)
def tyX7 : Nat → FieldType := fun k => match k with
  | 0 => .array .int
  | 1 => .int
  | 2 => .object "CartRows$Table"
  | 3 => .int
  | _ => .int
theorem nmX7 : ∀ a, a < 5 → ∀ b, b < 5 → a ≠ b → (TX7 a).2.1 ≠ (TX7 b).2.1 := by decide +kernel
theorem tyX7_ok : ∀ k, k < 5 → parseFieldDescriptor (TX7 k).2.2.1 = some (tyX7 k) := by decide +kernel
abbrev cX7_init : ByteArray := prog_9_method_1_code
def yX7_init : MethodName := ⟨RX7, "<init>", "()V"⟩
abbrev cX7_add : ByteArray := prog_9_method_2_code
def yX7_add : MethodName := ⟨RX7, "add", "(I)V"⟩
abbrev cX7_parse : ByteArray := prog_9_method_3_code
def yX7_parse : MethodName := ⟨RX7, "parse", "()I"⟩
abbrev cX7_parseLine : ByteArray := prog_9_method_4_code
def yX7_parseLine : MethodName := ⟨RX7, "parseLine", "(I)Z"⟩
abbrev cX7_parseWish : ByteArray := prog_9_method_5_code
def yX7_parseWish : MethodName := ⟨RX7, "parseWish", "(I)Z"⟩
abbrev cX7_parseTest : ByteArray := prog_9_method_6_code
def yX7_parseTest : MethodName := ⟨RX7, "parseTest", "(II)Z"⟩
abbrev cX7_readingNamed : ByteArray := prog_9_method_7_code
def yX7_readingNamed : MethodName := ⟨RX7, "readingNamed", "()I"⟩
abbrev cX7_advance : ByteArray := prog_9_method_8_code
def yX7_advance : MethodName := ⟨RX7, "advance", "()V"⟩
abbrev cX7_kindOf : ByteArray := prog_9_method_9_code
def yX7_kindOf : MethodName := ⟨RX7, "kindOf", "(I)I"⟩
abbrev cX7_isDigit : ByteArray := prog_9_method_10_code
def yX7_isDigit : MethodName := ⟨RX7, "isDigit", "(I)Z"⟩
abbrev cX7_isAtEnd : ByteArray := prog_9_method_11_code
def yX7_isAtEnd : MethodName := ⟨RX7, "isAtEnd", "()Z"⟩
abbrev cX7_isSign : ByteArray := prog_9_method_12_code
def yX7_isSign : MethodName := ⟨RX7, "isSign", "(I)Z"⟩
abbrev cX7_isWord : ByteArray := prog_9_method_13_code
def yX7_isWord : MethodName := ⟨RX7, "isWord", "(Ljava/lang/String;)Z"⟩
abbrev cX7_isNumber : ByteArray := prog_9_method_14_code
def yX7_isNumber : MethodName := ⟨RX7, "isNumber", "()Z"⟩
abbrev cX7_number : ByteArray := prog_9_method_15_code
def yX7_number : MethodName := ⟨RX7, "number", "()I"⟩
def RX8 : String := "CartRows"
def TX8 : u_T := fun k => match k with
  | 0 => ("CartRows", "text", "LCartRows$Text;", true)
  | 1 => ("CartRows", "road", "LCartRows$Road;", true)
  | 2 => ("CartRows", "run", "LCartRows$Run;", true)
  | 3 => ("CartRows", "journeys", "LCartRows$Journeys;", true)
  | 4 => ("CartRows", "shares", "LCartRows$Shares;", true)
  | _ => ("CartRows", "clocks", "LCartRows$Clocks;", true)
def tyX8 : Nat → FieldType := fun k => match k with
  | 0 => .object "CartRows$Text"
  | 1 => .object "CartRows$Road"
  | 2 => .object "CartRows$Run"
  | 3 => .object "CartRows$Journeys"
  | 4 => .object "CartRows$Shares"
  | _ => .object "CartRows$Clocks"
theorem nmX8 : ∀ a, a < 6 → ∀ b, b < 6 → a ≠ b → (TX8 a).2.1 ≠ (TX8 b).2.1 := by decide +kernel
theorem tyX8_ok : ∀ k, k < 6 → parseFieldDescriptor (TX8 k).2.2.1 = some (tyX8 k) := by decide +kernel
abbrev cX8_init : ByteArray := prog_1_method_1_code
def yX8_init : MethodName := ⟨RX8, "<init>", "()V"⟩
abbrev cX8_make : ByteArray := prog_1_method_2_code
def yX8_make : MethodName := ⟨RX8, "make", "(IIIII)I"⟩
abbrev cX8_write : ByteArray := prog_1_method_3_code
def yX8_write : MethodName := ⟨RX8, "write", "(JI)I"⟩
abbrev cX8_erase : ByteArray := prog_1_method_4_code
def yX8_erase : MethodName := ⟨RX8, "erase", "()I"⟩
abbrev cX8_fault : ByteArray := prog_1_method_5_code
def yX8_fault : MethodName := ⟨RX8, "fault", "()I"⟩
abbrev cX8_table : ByteArray := prog_1_method_6_code
def yX8_table : MethodName := ⟨RX8, "table", "(I)I"⟩
abbrev cX8_row : ByteArray := prog_1_method_7_code
def yX8_row : MethodName := ⟨RX8, "row", "(II)I"⟩
abbrev cX8_set : ByteArray := prog_1_method_8_code
def yX8_set : MethodName := ⟨RX8, "set", "(II)I"⟩
abbrev cX8_push : ByteArray := prog_1_method_9_code
def yX8_push : MethodName := ⟨RX8, "push", "(II)I"⟩
abbrev cX8_calm : ByteArray := prog_1_method_10_code
def yX8_calm : MethodName := ⟨RX8, "calm", "()I"⟩
abbrev cX8_lose : ByteArray := prog_1_method_11_code
def yX8_lose : MethodName := ⟨RX8, "lose", "(I)I"⟩
abbrev cX8_hill : ByteArray := prog_1_method_12_code
def yX8_hill : MethodName := ⟨RX8, "hill", "(IIII)I"⟩
abbrev cX8_stranger : ByteArray := prog_1_method_13_code
def yX8_stranger : MethodName := ⟨RX8, "stranger", "(IIII)I"⟩
abbrev cX8_at : ByteArray := prog_1_method_14_code
def yX8_at : MethodName := ⟨RX8, "at", "(III)I"⟩
abbrev cX8_touch : ByteArray := prog_1_method_15_code
def yX8_touch : MethodName := ⟨RX8, "touch", "(I)I"⟩
abbrev cX8_least : ByteArray := prog_1_method_16_code
def yX8_least : MethodName := ⟨RX8, "least", "(I)I"⟩
abbrev cX8_dip : ByteArray := prog_1_method_17_code
def yX8_dip : MethodName := ⟨RX8, "dip", "(I)I"⟩
abbrev cX8_grows : ByteArray := prog_1_method_18_code
def yX8_grows : MethodName := ⟨RX8, "grows", "()I"⟩
abbrev cX8_safe : ByteArray := prog_1_method_19_code
def yX8_safe : MethodName := ⟨RX8, "safe", "(III)I"⟩
abbrev cX8_need : ByteArray := prog_1_method_20_code
def yX8_need : MethodName := ⟨RX8, "need", "(II)I"⟩
abbrev cX8_worst : ByteArray := prog_1_method_21_code
def yX8_worst : MethodName := ⟨RX8, "worst", "(III)I"⟩
abbrev cX8_sparing : ByteArray := prog_1_method_22_code
def yX8_sparing : MethodName := ⟨RX8, "sparing", "()I"⟩
abbrev cX8_bears : ByteArray := prog_1_method_23_code
def yX8_bears : MethodName := ⟨RX8, "bears", "(II)I"⟩
abbrev cX8_journey : ByteArray := prog_1_method_24_code
def yX8_journey : MethodName := ⟨RX8, "journey", "(IIIII)I"⟩
abbrev cX8_clear : ByteArray := prog_1_method_25_code
def yX8_clear : MethodName := ⟨RX8, "clear", "()I"⟩
abbrev cX8_best : ByteArray := prog_1_method_26_code
def yX8_best : MethodName := ⟨RX8, "best", "(I)I"⟩
abbrev cX8_judge : ByteArray := prog_1_method_27_code
def yX8_judge : MethodName := ⟨RX8, "judge", "(I)I"⟩
abbrev cX8_spared : ByteArray := prog_1_method_28_code
def yX8_spared : MethodName := ⟨RX8, "spared", "(III)I"⟩
abbrev cX8_together : ByteArray := prog_1_method_29_code
def yX8_together : MethodName := ⟨RX8, "together", "(I)I"⟩
abbrev cX8_share : ByteArray := prog_1_method_30_code
def yX8_share : MethodName := ⟨RX8, "share", "(III)I"⟩
abbrev cX8_clock : ByteArray := prog_1_method_31_code
def yX8_clock : MethodName := ⟨RX8, "clock", "(II)I"⟩
abbrev cX8_event : ByteArray := prog_1_method_32_code
def yX8_event : MethodName := ⟨RX8, "event", "(II)I"⟩
abbrev cX8_after : ByteArray := prog_1_method_33_code
def yX8_after : MethodName := ⟨RX8, "after", "(III)I"⟩
abbrev cX8_agree : ByteArray := prog_1_method_34_code
def yX8_agree : MethodName := ⟨RX8, "agree", "()I"⟩
abbrev cX8_span : ByteArray := prog_1_method_35_code
def yX8_span : MethodName := ⟨RX8, "span", "(II)I"⟩
abbrev cX8_count : ByteArray := prog_1_method_36_code
def yX8_count : MethodName := ⟨RX8, "count", "(I)I"⟩
abbrev cX8_isOutside : ByteArray := prog_1_method_37_code
def yX8_isOutside : MethodName := ⟨RX8, "isOutside", "(III)Z"⟩
abbrev cX8_isNoMake : ByteArray := prog_1_method_38_code
def yX8_isNoMake : MethodName := ⟨RX8, "isNoMake", "(I)Z"⟩
abbrev cX8_isNoPerson : ByteArray := prog_1_method_39_code
def yX8_isNoPerson : MethodName := ⟨RX8, "isNoPerson", "(I)Z"⟩
abbrev cX8_isNoClock : ByteArray := prog_1_method_40_code
def yX8_isNoClock : MethodName := ⟨RX8, "isNoClock", "(I)Z"⟩
abbrev cX8_isNoEvent : ByteArray := prog_1_method_41_code
def yX8_isNoEvent : MethodName := ⟨RX8, "isNoEvent", "(I)Z"⟩
abbrev cX8_isNoLorry : ByteArray := prog_1_method_42_code
def yX8_isNoLorry : MethodName := ⟨RX8, "isNoLorry", "(I)Z"⟩
abbrev cX8_isNoFollower : ByteArray := prog_1_method_43_code
def yX8_isNoFollower : MethodName := ⟨RX8, "isNoFollower", "(I)Z"⟩
abbrev cX8_areNoPlaces : ByteArray := prog_1_method_44_code
def yX8_areNoPlaces : MethodName := ⟨RX8, "areNoPlaces", "(II)Z"⟩
abbrev cX8_areNoChances : ByteArray := prog_1_method_45_code
def yX8_areNoChances : MethodName := ⟨RX8, "areNoChances", "(II)Z"⟩
abbrev cX8_driveAsTold : ByteArray := prog_1_method_46_code
def yX8_driveAsTold : MethodName := ⟨RX8, "driveAsTold", "()V"⟩
def RX9 : String := "CartRowsModel"
def TX9 : u_T := fun k => match k with
  | 0 => ("CartRowsModel", "weights", "[I", true)
  | 1 => ("CartRowsModel", "brakes", "[I", true)
  | 2 => ("CartRowsModel", "pulls", "[I", true)
  | 3 => ("CartRowsModel", "feet", "[I", true)
  | 4 => ("CartRowsModel", "text", "[I", true)
  | 5 => ("CartRowsModel", "length", "I", false)
  | 6 => ("CartRowsModel", "lineMany", "[I", true)
  | 7 => ("CartRowsModel", "lineKind", "[I", true)
  | 8 => ("CartRowsModel", "lineN", "[I", true)
  | 9 => ("CartRowsModel", "testMany", "[I", true)
  | 10 => ("CartRowsModel", "testReading", "[I", true)
  | 11 => ("CartRowsModel", "testAbove", "[I", true)
  | 12 => ("CartRowsModel", "testN", "[I", true)
  | 13 => ("CartRowsModel", "lorries", "I", false)
  | 14 => ("CartRowsModel", "makes", "[I", true)
  | 15 => ("CartRowsModel", "settings", "[I", true)
  | 16 => ("CartRowsModel", "pushTick", "[I", true)
  | 17 => ("CartRowsModel", "pushBy", "[I", true)
  | 18 => ("CartRowsModel", "pushes", "I", false)
  | 19 => ("CartRowsModel", "lost", "I", false)
  | 20 => ("CartRowsModel", "hillFrom", "[I", true)
  | 21 => ("CartRowsModel", "hillTo", "[I", true)
  | 22 => ("CartRowsModel", "hillWeight", "[I", true)
  | 23 => ("CartRowsModel", "hillSlope", "[I", true)
  | 24 => ("CartRowsModel", "hills", "I", false)
  | 25 => ("CartRowsModel", "strangerOf", "I", false)
  | 26 => ("CartRowsModel", "strangerFrom", "I", false)
  | 27 => ("CartRowsModel", "strangerTo", "I", false)
  | 28 => ("CartRowsModel", "strangerSpeed", "I", false)
  | 29 => ("CartRowsModel", "goFrom", "[I", true)
  | 30 => ("CartRowsModel", "goTo", "[I", true)
  | 31 => ("CartRowsModel", "goFirst", "[I", true)
  | 32 => ("CartRowsModel", "goLast", "[I", true)
  | 33 => ("CartRowsModel", "goMake", "[I", true)
  | 34 => ("CartRowsModel", "journeys", "I", false)
  | 35 => ("CartRowsModel", "sparedBy", "[I", true)
  | 36 => ("CartRowsModel", "offs", "[I", true)
  | 37 => ("CartRowsModel", "eventClock", "[I", true)
  | 38 => ("CartRowsModel", "eventTime", "[I", true)
  | 39 => ("CartRowsModel", "events", "I", false)
  | 40 => ("CartRowsModel", "afterOne", "[I", true)
  | 41 => ("CartRowsModel", "afterTwo", "[I", true)
  | 42 => ("CartRowsModel", "afterBy", "[I", true)
  | 43 => ("CartRowsModel", "afters", "I", false)
  | 44 => ("CartRowsModel", "at", "I", false)
  | 45 => ("CartRowsModel", "place", "I", false)
  | 46 => ("CartRowsModel", "end", "I", false)
  | 47 => ("CartRowsModel", "figure", "I", false)
  | 48 => ("CartRowsModel", "speeds", "[I", true)
  | 49 => ("CartRowsModel", "gaps", "[I", true)
  | 50 => ("CartRowsModel", "places", "[I", true)
  | 51 => ("CartRowsModel", "wishes", "[I", true)
  | 52 => ("CartRowsModel", "heards", "[I", true)
  | 53 => ("CartRowsModel", "olds", "[I", true)
  | 54 => ("CartRowsModel", "says", "[I", true)
  | 55 => ("CartRowsModel", "touchTick", "I", false)
  | 56 => ("CartRowsModel", "touchLorry", "I", false)
  | 57 => ("CartRowsModel", "speedNow", "[I", true)
  | 58 => ("CartRowsModel", "gapNow", "[I", true)
  | 59 => ("CartRowsModel", "placeNow", "[I", true)
  | 60 => ("CartRowsModel", "strangerGap", "I", false)
  | 61 => ("CartRowsModel", "leaves", "[I", true)
  | 62 => ("CartRowsModel", "bestLeaves", "[I", true)
  | 63 => ("CartRowsModel", "low", "[I", true)
  | _ => ("CartRowsModel", "high", "[I", true)
def tyX9 : Nat → FieldType := fun k => match k with
  | 0 => .array .int
  | 1 => .array .int
  | 2 => .array .int
  | 3 => .array .int
  | 4 => .array .int
  | 5 => .int
  | 6 => .array .int
  | 7 => .array .int
  | 8 => .array .int
  | 9 => .array .int
  | 10 => .array .int
  | 11 => .array .int
  | 12 => .array .int
  | 13 => .int
  | 14 => .array .int
  | 15 => .array .int
  | 16 => .array .int
  | 17 => .array .int
  | 18 => .int
  | 19 => .int
  | 20 => .array .int
  | 21 => .array .int
  | 22 => .array .int
  | 23 => .array .int
  | 24 => .int
  | 25 => .int
  | 26 => .int
  | 27 => .int
  | 28 => .int
  | 29 => .array .int
  | 30 => .array .int
  | 31 => .array .int
  | 32 => .array .int
  | 33 => .array .int
  | 34 => .int
  | 35 => .array .int
  | 36 => .array .int
  | 37 => .array .int
  | 38 => .array .int
  | 39 => .int
  | 40 => .array .int
  | 41 => .array .int
  | 42 => .array .int
  | 43 => .int
  | 44 => .int
  | 45 => .int
  | 46 => .int
  | 47 => .int
  | 48 => .array .int
  | 49 => .array .int
  | 50 => .array .int
  | 51 => .array .int
  | 52 => .array .int
  | 53 => .array .int
  | 54 => .array .int
  | 55 => .int
  | 56 => .int
  | 57 => .array .int
  | 58 => .array .int
  | 59 => .array .int
  | 60 => .int
  | 61 => .array .int
  | 62 => .array .int
  | 63 => .array .int
  | _ => .array .int
theorem nmX9 : ∀ a, a < 65 → ∀ b, b < 65 → a ≠ b → (TX9 a).2.1 ≠ (TX9 b).2.1 := by decide +kernel
theorem tyX9_ok : ∀ k, k < 65 → parseFieldDescriptor (TX9 k).2.2.1 = some (tyX9 k) := by decide +kernel
abbrev cX9_init : ByteArray := prog_11_method_1_code
def yX9_init : MethodName := ⟨RX9, "<init>", "()V"⟩
abbrev cX9_in : ByteArray := prog_11_method_2_code
def yX9_in : MethodName := ⟨RX9, "in", "(JJJ)Z"⟩
abbrev cX9_isMake : ByteArray := prog_11_method_3_code
def yX9_isMake : MethodName := ⟨RX9, "isMake", "(I)Z"⟩
abbrev cX9_isSix : ByteArray := prog_11_method_4_code
def yX9_isSix : MethodName := ⟨RX9, "isSix", "(I)Z"⟩
abbrev cX9_lesser : ByteArray := prog_11_method_5_code
def yX9_lesser : MethodName := ⟨RX9, "lesser", "(II)I"⟩
abbrev cX9_make : ByteArray := prog_11_method_6_code
def yX9_make : MethodName := ⟨RX9, "make", "(IIIII)I"⟩
abbrev cX9_write : ByteArray := prog_11_method_7_code
def yX9_write : MethodName := ⟨RX9, "write", "(JI)I"⟩
abbrev cX9_erase : ByteArray := prog_11_method_8_code
def yX9_erase : MethodName := ⟨RX9, "erase", "()I"⟩
abbrev cX9_sort : ByteArray := prog_11_method_9_code
def yX9_sort : MethodName := ⟨RX9, "sort", "(I)I"⟩
abbrev cX9_token : ByteArray := prog_11_method_10_code
def yX9_token : MethodName := ⟨RX9, "token", "()V"⟩
abbrev cX9_isWord : ByteArray := prog_11_method_11_code
def yX9_isWord : MethodName := ⟨RX9, "isWord", "(JI)Z"⟩
abbrev cX9_skips : ByteArray := prog_11_method_12_code
def yX9_skips : MethodName := ⟨RX9, "skips", "(JI)Z"⟩
abbrev cX9_skipsNumber : ByteArray := prog_11_method_13_code
def yX9_skipsNumber : MethodName := ⟨RX9, "skipsNumber", "()Z"⟩
abbrev cX9_readingWord : ByteArray := prog_11_method_14_code
def yX9_readingWord : MethodName := ⟨RX9, "readingWord", "()I"⟩
abbrev cX9_readsTest : ByteArray := prog_11_method_15_code
def yX9_readsTest : MethodName := ⟨RX9, "readsTest", "(I)Z"⟩
abbrev cX9_readsLine : ByteArray := prog_11_method_16_code
def yX9_readsLine : MethodName := ⟨RX9, "readsLine", "()Z"⟩
abbrev cX9_fault : ByteArray := prog_11_method_17_code
def yX9_fault : MethodName := ⟨RX9, "fault", "()I"⟩
abbrev cX9_table : ByteArray := prog_11_method_18_code
def yX9_table : MethodName := ⟨RX9, "table", "(I)I"⟩
abbrev cX9_row : ByteArray := prog_11_method_19_code
def yX9_row : MethodName := ⟨RX9, "row", "(II)I"⟩
abbrev cX9_set : ByteArray := prog_11_method_20_code
def yX9_set : MethodName := ⟨RX9, "set", "(II)I"⟩
abbrev cX9_push : ByteArray := prog_11_method_21_code
def yX9_push : MethodName := ⟨RX9, "push", "(II)I"⟩
abbrev cX9_calm : ByteArray := prog_11_method_22_code
def yX9_calm : MethodName := ⟨RX9, "calm", "()I"⟩
abbrev cX9_lose : ByteArray := prog_11_method_23_code
def yX9_lose : MethodName := ⟨RX9, "lose", "(I)I"⟩
abbrev cX9_hill : ByteArray := prog_11_method_24_code
def yX9_hill : MethodName := ⟨RX9, "hill", "(IIII)I"⟩
abbrev cX9_isLorry : ByteArray := prog_11_method_25_code
def yX9_isLorry : MethodName := ⟨RX9, "isLorry", "(I)Z"⟩
abbrev cX9_stranger : ByteArray := prog_11_method_26_code
def yX9_stranger : MethodName := ⟨RX9, "stranger", "(IIII)I"⟩
abbrev cX9_pushedIn : ByteArray := prog_11_method_27_code
def yX9_pushedIn : MethodName := ⟨RX9, "pushedIn", "(I)I"⟩
abbrev cX9_isStrange : ByteArray := prog_11_method_28_code
def yX9_isStrange : MethodName := ⟨RX9, "isStrange", "(II)Z"⟩
abbrev cX9_wishBy : ByteArray := prog_11_method_29_code
def yX9_wishBy : MethodName := ⟨RX9, "wishBy", "(IIIIII)I"⟩
abbrev cX9_slopeFor : ByteArray := prog_11_method_30_code
def yX9_slopeFor : MethodName := ⟨RX9, "slopeFor", "(I)I"⟩
abbrev cX9_layRun : ByteArray := prog_11_method_31_code
def yX9_layRun : MethodName := ⟨RX9, "layRun", "(III)V"⟩
abbrev cX9_layWishes : ByteArray := prog_11_method_32_code
def yX9_layWishes : MethodName := ⟨RX9, "layWishes", "(III)V"⟩
abbrev cX9_goOn : ByteArray := prog_11_method_33_code
def yX9_goOn : MethodName := ⟨RX9, "goOn", "(I)V"⟩
abbrev cX9_layTold : ByteArray := prog_11_method_34_code
def yX9_layTold : MethodName := ⟨RX9, "layTold", "()V"⟩
abbrev cX9_at : ByteArray := prog_11_method_35_code
def yX9_at : MethodName := ⟨RX9, "at", "(III)I"⟩
abbrev cX9_touch : ByteArray := prog_11_method_36_code
def yX9_touch : MethodName := ⟨RX9, "touch", "(I)I"⟩
abbrev cX9_least : ByteArray := prog_11_method_37_code
def yX9_least : MethodName := ⟨RX9, "least", "(I)I"⟩
abbrev cX9_dipOf : ByteArray := prog_11_method_38_code
def yX9_dipOf : MethodName := ⟨RX9, "dipOf", "(I)I"⟩
abbrev cX9_dip : ByteArray := prog_11_method_39_code
def yX9_dip : MethodName := ⟨RX9, "dip", "(I)I"⟩
abbrev cX9_grows : ByteArray := prog_11_method_40_code
def yX9_grows : MethodName := ⟨RX9, "grows", "()I"⟩
abbrev cX9_bits : ByteArray := prog_11_method_41_code
def yX9_bits : MethodName := ⟨RX9, "bits", "(I)I"⟩
abbrev cX9_worstOf : ByteArray := prog_11_method_42_code
def yX9_worstOf : MethodName := ⟨RX9, "worstOf", "(III)I"⟩
abbrev cX9_areMishaps : ByteArray := prog_11_method_43_code
def yX9_areMishaps : MethodName := ⟨RX9, "areMishaps", "(II)Z"⟩
abbrev cX9_safe : ByteArray := prog_11_method_44_code
def yX9_safe : MethodName := ⟨RX9, "safe", "(III)I"⟩
abbrev cX9_need : ByteArray := prog_11_method_45_code
def yX9_need : MethodName := ⟨RX9, "need", "(II)I"⟩
abbrev cX9_worst : ByteArray := prog_11_method_46_code
def yX9_worst : MethodName := ⟨RX9, "worst", "(III)I"⟩
abbrev cX9_sparing : ByteArray := prog_11_method_47_code
def yX9_sparing : MethodName := ⟨RX9, "sparing", "()I"⟩
abbrev cX9_bears : ByteArray := prog_11_method_48_code
def yX9_bears : MethodName := ⟨RX9, "bears", "(II)I"⟩
abbrev cX9_journey : ByteArray := prog_11_method_49_code
def yX9_journey : MethodName := ⟨RX9, "journey", "(IIIII)I"⟩
abbrev cX9_clear : ByteArray := prog_11_method_50_code
def yX9_clear : MethodName := ⟨RX9, "clear", "()I"⟩
abbrev cX9_goes : ByteArray := prog_11_method_51_code
def yX9_goes : MethodName := ⟨RX9, "goes", "(III)Z"⟩
abbrev cX9_leads : ByteArray := prog_11_method_52_code
def yX9_leads : MethodName := ⟨RX9, "leads", "(III)Z"⟩
abbrev cX9_burnt : ByteArray := prog_11_method_53_code
def yX9_burnt : MethodName := ⟨RX9, "burnt", "()I"⟩
abbrev cX9_best : ByteArray := prog_11_method_54_code
def yX9_best : MethodName := ⟨RX9, "best", "(I)I"⟩
abbrev cX9_judge : ByteArray := prog_11_method_55_code
def yX9_judge : MethodName := ⟨RX9, "judge", "(I)I"⟩
abbrev cX9_spared : ByteArray := prog_11_method_56_code
def yX9_spared : MethodName := ⟨RX9, "spared", "(III)I"⟩
abbrev cX9_sparedIn : ByteArray := prog_11_method_57_code
def yX9_sparedIn : MethodName := ⟨RX9, "sparedIn", "(I)I"⟩
abbrev cX9_together : ByteArray := prog_11_method_58_code
def yX9_together : MethodName := ⟨RX9, "together", "(I)I"⟩
abbrev cX9_factorial : ByteArray := prog_11_method_59_code
def yX9_factorial : MethodName := ⟨RX9, "factorial", "(I)I"⟩
abbrev cX9_shareOf : ByteArray := prog_11_method_60_code
def yX9_shareOf : MethodName := ⟨RX9, "shareOf", "(II)I"⟩
abbrev cX9_divisor : ByteArray := prog_11_method_61_code
def yX9_divisor : MethodName := ⟨RX9, "divisor", "(II)I"⟩
abbrev cX9_cut : ByteArray := prog_11_method_62_code
def yX9_cut : MethodName := ⟨RX9, "cut", "(II)I"⟩
abbrev cX9_coins : ByteArray := prog_11_method_63_code
def yX9_coins : MethodName := ⟨RX9, "coins", "(II)I"⟩
abbrev cX9_share : ByteArray := prog_11_method_64_code
def yX9_share : MethodName := ⟨RX9, "share", "(III)I"⟩
abbrev cX9_clock : ByteArray := prog_11_method_65_code
def yX9_clock : MethodName := ⟨RX9, "clock", "(II)I"⟩
abbrev cX9_event : ByteArray := prog_11_method_66_code
def yX9_event : MethodName := ⟨RX9, "event", "(II)I"⟩
abbrev cX9_isEvent : ByteArray := prog_11_method_67_code
def yX9_isEvent : MethodName := ⟨RX9, "isEvent", "(I)Z"⟩
abbrev cX9_after : ByteArray := prog_11_method_68_code
def yX9_after : MethodName := ⟨RX9, "after", "(III)I"⟩
abbrev cX9_layOffs : ByteArray := prog_11_method_69_code
def yX9_layOffs : MethodName := ⟨RX9, "layOffs", "()Z"⟩
abbrev cX9_agree : ByteArray := prog_11_method_70_code
def yX9_agree : MethodName := ⟨RX9, "agree", "()I"⟩
abbrev cX9_span : ByteArray := prog_11_method_71_code
def yX9_span : MethodName := ⟨RX9, "span", "(II)I"⟩
abbrev cX9_count : ByteArray := prog_11_method_72_code
def yX9_count : MethodName := ⟨RX9, "count", "(I)I"⟩
def RJ6 : String := "java/lang/Integer"
def TJ6 : u_T := fun k => match k with
  | _ => ("", "", "", false)
def tyJ6 : Nat → FieldType := fun k => match k with
  | _ => .int
theorem nmJ6 : ∀ a, a < 0 → ∀ b, b < 0 → a ≠ b → (TJ6 a).2.1 ≠ (TJ6 b).2.1 := by decide +kernel
theorem tyJ6_ok : ∀ k, k < 0 → parseFieldDescriptor (TJ6 k).2.2.1 = some (tyJ6 k) := by decide +kernel
abbrev cJ6_bitCount_0f7a4 : ByteArray := prog_12_method_49_code
def yJ6_bitCount_0f7a4 : MethodName := ⟨RJ6, "bitCount", "(I)I"⟩
def RJ9 : String := "java/lang/Math"
def TJ9 : u_T := fun k => match k with
  | _ => ("", "", "", false)
def tyJ9 : Nat → FieldType := fun k => match k with
  | _ => .int
theorem nmJ9 : ∀ a, a < 0 → ∀ b, b < 0 → a ≠ b → (TJ9 a).2.1 ≠ (TJ9 b).2.1 := by decide +kernel
theorem tyJ9_ok : ∀ k, k < 0 → parseFieldDescriptor (TJ9 k).2.2.1 = some (tyJ9 k) := by decide +kernel
abbrev cJ9_floorDiv_7cf53 : ByteArray := prog_13_method_47_code
def yJ9_floorDiv_7cf53 : MethodName := ⟨RJ9, "floorDiv", "(II)I"⟩
abbrev cJ9_floorMod_7cf53 : ByteArray := prog_13_method_50_code
def yJ9_floorMod_7cf53 : MethodName := ⟨RJ9, "floorMod", "(II)I"⟩
abbrev cJ9_max_7cf53 : ByteArray := prog_13_method_65_code
def yJ9_max_7cf53 : MethodName := ⟨RJ9, "max", "(II)I"⟩
abbrev cJ9_min_7cf53 : ByteArray := prog_13_method_69_code
def yJ9_min_7cf53 : MethodName := ⟨RJ9, "min", "(II)I"⟩
def RJ0 : String := "java/lang/String"
def TJ0 : u_T := fun k => match k with
  | _ => ("", "", "", false)
def tyJ0 : Nat → FieldType := fun k => match k with
  | _ => .int
theorem nmJ0 : ∀ a, a < 0 → ∀ b, b < 0 → a ≠ b → (TJ0 a).2.1 ≠ (TJ0 b).2.1 := by decide +kernel
theorem tyJ0_ok : ∀ k, k < 0 → parseFieldDescriptor (TJ0 k).2.2.1 = some (tyJ0 k) := by decide +kernel
abbrev cJ0_length_8abf5 : ByteArray := prog_14_method_54_code
def yJ0_length_8abf5 : MethodName := ⟨RJ0, "length", "()I"⟩
abbrev cJ0_charAt_5068e : ByteArray := prog_14_method_56_code
def yJ0_charAt_5068e : MethodName := ⟨RJ0, "charAt", "(I)C"⟩
abbrev cJ0_coder_7d493 : ByteArray := prog_14_method_152_code
def yJ0_coder_7d493 : MethodName := ⟨RJ0, "coder", "()B"⟩
abbrev cJ0_isLatin1_aae02 : ByteArray := prog_14_method_154_code
def yJ0_isLatin1_aae02 : MethodName := ⟨RJ0, "isLatin1", "()Z"⟩
abbrev cJ0_checkIndex_df160 : ByteArray := prog_14_method_155_code
def yJ0_checkIndex_df160 : MethodName := ⟨RJ0, "checkIndex", "(II)V"⟩
def RJ1 : String := "java/lang/StringLatin1"
def TJ1 : u_T := fun k => match k with
  | _ => ("", "", "", false)
def tyJ1 : Nat → FieldType := fun k => match k with
  | _ => .int
theorem nmJ1 : ∀ a, a < 0 → ∀ b, b < 0 → a ≠ b → (TJ1 a).2.1 ≠ (TJ1 b).2.1 := by decide +kernel
theorem tyJ1_ok : ∀ k, k < 0 → parseFieldDescriptor (TJ1 k).2.2.1 = some (tyJ1 k) := by decide +kernel
abbrev cJ1_charAt_3b067 : ByteArray := prog_15_method_2_code
def yJ1_charAt_3b067 : MethodName := ⟨RJ1, "charAt", "([BI)C"⟩
def RJ2 : String := "java/lang/StringUTF16"
def TJ2 : u_T := fun k => match k with
  | _ => ("", "", "", false)
def tyJ2 : Nat → FieldType := fun k => match k with
  | _ => .int
theorem nmJ2 : ∀ a, a < 0 → ∀ b, b < 0 → a ≠ b → (TJ2 a).2.1 ≠ (TJ2 b).2.1 := by decide +kernel
theorem tyJ2_ok : ∀ k, k < 0 → parseFieldDescriptor (TJ2 k).2.2.1 = some (tyJ2 k) := by decide +kernel
abbrev cJ2_getChar_3b067 : ByteArray := prog_16_method_5_code
def yJ2_getChar_3b067 : MethodName := ⟨RJ2, "getChar", "([BI)C"⟩
abbrev cJ2_length_9d52b : ByteArray := prog_16_method_6_code
def yJ2_length_9d52b : MethodName := ⟨RJ2, "length", "([B)I"⟩
abbrev cJ2_charAt_3b067 : ByteArray := prog_16_method_83_code
def yJ2_charAt_3b067 : MethodName := ⟨RJ2, "charAt", "([BI)C"⟩
abbrev cJ2_checkIndex_2214a : ByteArray := prog_16_method_91_code
def yJ2_checkIndex_2214a : MethodName := ⟨RJ2, "checkIndex", "(I[B)V"⟩
def RJ10 : String := "java/lang/System"
def TJ10 : u_T := fun k => match k with
  | _ => ("", "", "", false)
def tyJ10 : Nat → FieldType := fun k => match k with
  | _ => .int
theorem nmJ10 : ∀ a, a < 0 → ∀ b, b < 0 → a ≠ b → (TJ10 a).2.1 ≠ (TJ10 b).2.1 := by decide +kernel
theorem tyJ10_ok : ∀ k, k < 0 → parseFieldDescriptor (TJ10 k).2.2.1 = some (tyJ10 k) := by decide +kernel
def RJ3 : String := "jdk/internal/util/Preconditions"
def TJ3 : u_T := fun k => match k with
  | _ => ("", "", "", false)
def tyJ3 : Nat → FieldType := fun k => match k with
  | _ => .int
theorem nmJ3 : ∀ a, a < 0 → ∀ b, b < 0 → a ≠ b → (TJ3 a).2.1 ≠ (TJ3 b).2.1 := by decide +kernel
theorem tyJ3_ok : ∀ k, k < 0 → parseFieldDescriptor (TJ3 k).2.2.1 = some (tyJ3 k) := by decide +kernel
abbrev cJ3_checkIndex_8e157 : ByteArray := prog_18_method_11_code
def yJ3_checkIndex_8e157 : MethodName := ⟨RJ3, "checkIndex", "(IILjava/util/function/BiFunction;)I"⟩
def RL : String := "CartRowsLaw"
abbrev cL_law : ByteArray := code
def yL_law : MethodName := ⟨RL, "law", "([I)Z"⟩

def cr_GW : List Cond := lw_tbl.filter goodWord
theorem cr_gw {w : Cond} (i : Nat) (h : lw_tbl[i]? = some w) (g : goodWord w = true) : w ∈ cr_GW := List.mem_filter.mpr ⟨List.mem_of_getElem? h, g⟩
theorem cr_gws {ws : List Cond} (ps : List Nat) (hp : ws = ps.filterMap (fun i => lw_tbl[i]?)) (g : ws.all goodWord = true) : ∀ w ∈ ws, w ∈ cr_GW := by
  intro w hw
  have h1 := List.all_eq_true.mp g w hw
  rw [hp] at hw
  obtain ⟨i, -, hi⟩ := List.mem_filterMap.mp hw
  exact cr_gw i hi h1
theorem cr_good {y : MethodName} {cc : ByteArray} {nL : Nat} {ret : Option FieldType} {big : List Cond} (hb : ∀ w ∈ cr_GW, w ∈ big) (h : Cond.code y cc nL ret ∈ cr_GW) : GoodIn big (Cond.code y cc nL ret :: cr_GW) := by
  intro w hw
  rcases List.mem_cons.mp hw with rfl | hw
  · exact ⟨hb _ h, good_of_word (List.mem_filter.mp h).2⟩
  · exact ⟨hb _ hw, good_of_word (List.mem_filter.mp hw).2⟩

theorem cr_inX0 : ∀ w ∈ u_ws RX0 TX0 9, w ∈ cr_GW := cr_gws [380, 382, 384, 386, 388, 390, 392, 394, 396] (by decide +kernel) (by decide +kernel)
theorem cr_inX1 : ∀ w ∈ u_ws RX1 TX1 8, w ∈ cr_GW := cr_gws [327, 329, 331, 333, 335, 337, 339, 341] (by decide +kernel) (by decide +kernel)
theorem cr_inX2 : ∀ w ∈ u_ws RX2 TX2 5, w ∈ cr_GW := cr_gws [172, 174, 176, 178, 180] (by decide +kernel) (by decide +kernel)
theorem cr_inX3 : ∀ w ∈ u_ws RX3 TX3 17, w ∈ cr_GW := cr_gws [224, 226, 228, 230, 232, 234, 236, 238, 240, 242, 244, 246, 248, 250, 252, 254, 256] (by decide +kernel) (by decide +kernel)
theorem cr_inX4 : ∀ w ∈ u_ws RX4 TX4 10, w ∈ cr_GW := cr_gws [284, 286, 288, 290, 292, 294, 296, 298, 300, 302] (by decide +kernel) (by decide +kernel)
theorem cr_inX5 : ∀ w ∈ u_ws RX5 TX5 1, w ∈ cr_GW := cr_gws [353] (by decide +kernel) (by decide +kernel)
theorem cr_inX6 : ∀ w ∈ u_ws RX6 TX6 6, w ∈ cr_GW := cr_gws [111, 113, 115, 117, 119, 121] (by decide +kernel) (by decide +kernel)
theorem cr_inX7 : ∀ w ∈ u_ws RX7 TX7 5, w ∈ cr_GW := cr_gws [132, 134, 136, 138, 140] (by decide +kernel) (by decide +kernel)
theorem cr_inX8 : ∀ w ∈ u_ws RX8 TX8 6, w ∈ cr_GW := cr_gws [405, 407, 409, 411, 413, 415] (by decide +kernel) (by decide +kernel)
theorem cr_inX9 : ∀ w ∈ u_ws RX9 TX9 65, w ∈ cr_GW := cr_gws [978, 980, 982, 984, 986, 988, 990, 992, 994, 996, 998, 1000, 1002, 1004, 1006, 1008, 1010, 1012, 1014, 1016, 1018, 1020, 1022, 1024, 1026, 1028, 1030, 1032, 1034, 1036, 1038, 1040, 1042, 1044, 1046, 1048, 1050, 1052, 1054, 1056, 1058, 1060, 1062, 1064, 1066, 1068, 1070, 1072, 1074, 1076, 1078, 1080, 1082, 1084, 1086, 1088, 1090, 1092, 1094, 1096, 1098, 1100, 1102, 1104, 1106] (by decide +kernel) (by decide +kernel)
end
section
/-! THE WORLD: blocks in the order in which the constructors make them; kind 0 int[], 1 int[][], 2 Make[], c+3 an object of class c -/
def cr_kdT : List (Nat × Nat) := [(11, 6), (10, 5), (0, 160), (9, 6), (0, 6), (0, 6), (1, 6), (0, 4), (0, 4), (0, 4), (0, 4), (0, 4), (0, 4), (1, 6), (0, 4), (0, 4), (0, 4), (0, 4), (0, 4), (0, 4), (1, 6), (0, 4), (0, 4), (0, 4), (0, 4), (0, 4), (0, 4), (6, 17), (2, 4), (5, 5), (9, 6), (0, 6), (0, 6), (1, 6), (0, 4), (0, 4), (0, 4), (0, 4), (0, 4), (0, 4), (1, 6), (0, 4), (0, 4), (0, 4), (0, 4), (0, 4), (0, 4), (1, 6), (0, 4), (0, 4), (0, 4), (0, 4), (0, 4), (0, 4), (5, 5), (9, 6), (0, 6), (0, 6), (1, 6), (0, 4), (0, 4), (0, 4), (0, 4), (0, 4), (0, 4), (1, 6), (0, 4), (0, 4), (0, 4), (0, 4), (0, 4), (0, 4), (1, 6), (0, 4), (0, 4), (0, 4), (0, 4), (0, 4), (0, 4), (5, 5), (9, 6), (0, 6), (0, 6), (1, 6), (0, 4), (0, 4), (0, 4), (0, 4), (0, 4), (0, 4), (1, 6), (0, 4), (0, 4), (0, 4), (0, 4), (0, 4), (0, 4), (1, 6), (0, 4), (0, 4), (0, 4), (0, 4), (0, 4), (0, 4), (5, 5), (9, 6), (0, 6), (0, 6), (1, 6), (0, 4), (0, 4), (0, 4), (0, 4), (0, 4), (0, 4), (1, 6), (0, 4), (0, 4), (0, 4), (0, 4), (0, 4), (0, 4), (1, 6), (0, 4), (0, 4), (0, 4), (0, 4), (0, 4), (0, 4), (0, 6), (0, 5), (0, 8), (0, 8), (0, 2), (0, 2), (0, 2), (0, 2), (7, 10), (1, 6), (0, 33), (0, 33), (0, 33), (0, 33), (0, 33), (0, 33), (1, 6), (0, 33), (0, 33), (0, 33), (0, 33), (0, 33), (0, 33), (1, 6), (0, 33), (0, 33), (0, 33), (0, 33), (0, 33), (0, 33), (1, 6), (0, 32), (0, 32), (0, 32), (0, 32), (0, 32), (0, 32), (0, 32), (0, 32), (0, 6), (4, 8), (0, 5), (0, 5), (0, 5), (0, 5), (0, 5), (0, 5), (0, 5), (8, 1), (1, 6), (0, 6), (0, 6), (0, 6), (0, 6), (0, 6), (0, 6), (3, 9), (0, 7), (0, 12), (0, 12), (0, 12), (0, 12), (0, 12), (1, 7), (0, 7), (0, 7), (0, 7), (0, 7), (0, 7), (0, 7), (0, 7), (12, 65), (0, 4), (0, 4), (0, 4), (0, 4), (0, 160), (0, 5), (0, 30), (0, 30), (0, 30), (0, 120), (0, 120), (0, 120), (0, 6), (0, 5), (0, 8), (0, 8), (0, 2), (0, 2), (0, 2), (0, 2), (0, 5), (0, 5), (0, 5), (0, 5), (0, 5), (0, 36), (0, 6), (0, 12), (0, 12), (0, 12), (0, 12), (0, 12), (0, 192), (0, 192), (0, 192), (0, 192), (0, 192), (0, 192), (0, 32), (0, 6), (0, 6), (0, 6), (0, 5), (0, 5), (0, 6), (0, 6)]
def cr_fiT : List (List Bool) := [[false, true, false, false, true, false, false, false, false], [true, false, false, false, false, false, false, false], [true, true, true, true, false], [false, true, false, false, true, true, false, false, true, false, false, false, false, true, true, true, true], [false, false, false, false, false, false, true, true, false, true], [false], [true, false, false, false, false, false], [false, true, false, true, true], [false, false, false, false, false, false], [false, false, false, false, false, true, false, false, false, false, false, false, false, true, false, false, false, false, true, true, false, false, false, false, true, true, true, true, true, false, false, false, false, false, true, false, false, false, false, true, false, false, false, true, true, true, true, true, false, false, false, false, false, false, false, true, true, false, false, false, true, false, false, false, false]]
abbrev cr_cl : List vw_C := [(RX0, TX0, 9), (RX1, TX1, 8), (RX2, TX2, 5), (RX3, TX3, 17), (RX4, TX4, 10), (RX5, TX5, 1), (RX6, TX6, 6), (RX7, TX7, 5), (RX8, TX8, 6), (RX9, TX9, 65)]
abbrev cr_I : Type := Nat → Nat → Int32
abbrev cr_R : Type := Nat → Nat → Option Nat
def cr_up {α : Type} (f : Nat → Nat → α) (b k : Nat) (v : α) : Nat → Nat → α := fun b' k' => if b' = b ∧ k' = k then v else f b' k'
theorem cr_up_s {α : Type} {f : Nat → Nat → α} {b k : Nat} {v : α} : cr_up f b k v b k = v := by simp [cr_up]
theorem cr_up_b {α : Type} {f : Nat → Nat → α} {b k b' k' : Nat} {v : α} (h : b' ≠ b) : cr_up f b k v b' k' = f b' k' := by simp [cr_up, h]
theorem cr_up_k {α : Type} {f : Nat → Nat → α} {b k b' k' : Nat} {v : α} (h : k' ≠ k) : cr_up f b k v b' k' = f b' k' := by simp [cr_up, h]
def cr_kd (b : Nat) : Nat × Nat := cr_kdT.getD b (0, 0)
def cr_fi (c k : Nat) : Bool := (cr_fiT.getD c []).getD k false
def cr_sl (n : Nat) : Nat := ((cr_kdT.take n).map (fun q => q.2)).sum
abbrev cr_g : Type := ClassId × ClassId × ClassId
def cr_tr (ad : Nat → Nat) (v : Value) : Value := match v with
  | .ref b => .ref (ad b)
  | w => w
theorem cr_tr_cat (ad : Nat → Nat) (v : Value) : (cr_tr ad v).category = v.category := by cases v <;> rfl
def cr_fs (ad : Nat → Nat) (I : cr_I) (R : cr_R) (c N b : Nat) : List Value := (List.range N).map fun k => if cr_fi c k = true then .int (I b k) else va_rf ((R b k).map ad)
def cr_ce (ad : Nat → Nat) (g : cr_g) (I : cr_I) (R : cr_R) (b : Nat) : va_E := match (cr_kd b).1 with
  | 0 => .inl (g.1, (cr_kd b).2, .inl (I b))
  | 1 => .inl (g.2.1, (cr_kd b).2, .inr (.inr (.inr (.inr (fun j => (R b j).map ad)))))
  | 2 => .inl (g.2.2, (cr_kd b).2, .inr (.inr (.inr (.inr (fun j => (R b j).map ad)))))
  | c + 3 => .inr (c, cr_fs ad I R c (cr_kd b).2 b)
def cr_wd (ad : Nat → Nat) (g : cr_g) (I : cr_I) (R : cr_R) (n : Nat) : va_W := (List.range n).map fun b => (ad b, cr_ce ad g I R b)
abbrev cr_ty (g : cr_g) : List (ClassId × FieldType) := [(g.1, .int), (g.2.1, .array .int), (g.2.2, .object "CartRows$Make")]
def cr_ad (ad : Nat → Nat) (base : Nat) : Prop := ∀ b, b < 1000 → ad b = base + b
theorem cr_wd_at {ad : Nat → Nat} {g : cr_g} {I : cr_I} {R : cr_R} {n b : Nat} (h : b < n) : (cr_wd ad g I R n)[b]? = some (ad b, cr_ce ad g I R b) := by
  unfold cr_wd
  rw [List.getElem?_map, List.getElem?_range h]
  rfl
theorem cr_wd_get {ad : Nat → Nat} {g : cr_g} {I : cr_I} {R : cr_R} {n b : Nat} {q : Nat × va_E} (h : (cr_wd ad g I R n)[b]? = some q) : b < n ∧ q = (ad b, cr_ce ad g I R b) := by
  have hb : b < n := by
    have := (List.getElem?_eq_some_iff.mp h).1
    simpa [cr_wd] using this
  rw [cr_wd_at hb] at h
  exact ⟨hb, (Option.some.inj h).symm⟩
theorem cr_wd_D {ad : Nat → Nat} {g : cr_g} {I : cr_I} {R : cr_R} {n base : Nat} (ha : cr_ad ad base) (hn : n ≤ 1000) : va_D (fun q => base ≤ q) (cr_wd ad g I R n) := by
  refine ⟨fun i j p q hp hq e => ?_, fun k q hq => ?_⟩
  · obtain ⟨h1, rfl⟩ := cr_wd_get hp
    obtain ⟨h2, rfl⟩ := cr_wd_get hq
    have e1 := ha i (by omega)
    have e2 := ha j (by omega)
    simp only at e
    omega
  · obtain ⟨h1, rfl⟩ := cr_wd_get hq
    have e1 := ha k (by omega)
    simp only
    omega
theorem cr_wd_set {ad : Nat → Nat} {g : cr_g} {I I' : cr_I} {R R' : cr_R} {n b : Nat} (hb : b < n) (h : ∀ x, x < n → x ≠ b → cr_ce ad g I' R' x = cr_ce ad g I R x) : (cr_wd ad g I R n).set b (ad b, cr_ce ad g I' R' b) = cr_wd ad g I' R' n := by
  apply List.ext_getElem?
  intro k
  by_cases hk : k = b
  · subst hk
    rw [List.getElem?_set_self (by simp [cr_wd]; exact hb), cr_wd_at hb]
  · rw [List.getElem?_set_ne (Ne.symm hk)]
    by_cases hn : k < n
    · rw [cr_wd_at hn, cr_wd_at hn, h k hn hk]
    · rw [List.getElem?_eq_none (by simp [cr_wd]; omega), List.getElem?_eq_none (by simp [cr_wd]; omega)]
theorem cr_ce_upI {ad : Nat → Nat} {g : cr_g} {I : cr_I} {R : cr_R} {b k x : Nat} {v : Int32} (h : x ≠ b) : cr_ce ad g (cr_up I b k v) R x = cr_ce ad g I R x := by
  have e : ∀ j, cr_up I b k v x j = I x j := fun j => cr_up_b h
  have e2 : cr_up I b k v x = I x := funext e
  unfold cr_ce cr_fs
  simp only [e, e2]
theorem cr_ce_upR {ad : Nat → Nat} {g : cr_g} {I : cr_I} {R : cr_R} {b k x : Nat} {v : Option Nat} (h : x ≠ b) : cr_ce ad g I (cr_up R b k v) x = cr_ce ad g I R x := by
  have e : ∀ j, cr_up R b k v x j = R x j := fun j => cr_up_b h
  unfold cr_ce cr_fs
  simp only [e]
theorem cr_fs_at {ad : Nat → Nat} {I : cr_I} {R : cr_R} {c N b k : Nat} (h : k < N) : (cr_fs ad I R c N b)[k]? = some (if cr_fi c k = true then .int (I b k) else va_rf ((R b k).map ad)) := by
  unfold cr_fs
  rw [List.getElem?_map, List.getElem?_range h]
  rfl
theorem cr_fs_len {ad : Nat → Nat} {I : cr_I} {R : cr_R} {c N b : Nat} : (cr_fs ad I R c N b).length = N := by simp [cr_fs]
theorem cr_fs_upI {ad : Nat → Nat} {I : cr_I} {R : cr_R} {c N b k : Nat} {v : Int32} (h : cr_fi c k = true) : (cr_fs ad I R c N b).set k (.int v) = cr_fs ad (cr_up I b k v) R c N b := by
  apply List.ext_getElem?
  intro j
  by_cases hj : j < N
  · by_cases e : j = k
    · subst e
      rw [List.getElem?_set_self (by rw [cr_fs_len]; exact hj), cr_fs_at hj, if_pos h, cr_up_s]
    · rw [List.getElem?_set_ne (Ne.symm e), cr_fs_at hj, cr_fs_at hj, cr_up_k e]
  · rw [List.getElem?_eq_none (by simp [cr_fs]; omega), List.getElem?_eq_none (by simp [cr_fs]; omega)]
theorem cr_fs_upR {ad : Nat → Nat} {I : cr_I} {R : cr_R} {c N b k x : Nat} (h : cr_fi c k = false) : (cr_fs ad I R c N b).set k (.ref (ad x)) = cr_fs ad I (cr_up R b k (some x)) c N b := by
  apply List.ext_getElem?
  intro j
  by_cases hj : j < N
  · by_cases e : j = k
    · subst e
      rw [List.getElem?_set_self (by rw [cr_fs_len]; exact hj), cr_fs_at hj, if_neg (by rw [h]; decide), cr_up_s]
      rfl
    · rw [List.getElem?_set_ne (Ne.symm e), cr_fs_at hj, cr_fs_at hj, cr_up_k e]
  · rw [List.getElem?_eq_none (by simp [cr_fs]; omega), List.getElem?_eq_none (by simp [cr_fs]; omega)]
/-- the locals: a .null in the list says nothing -/
def cr_la (ad : Nat → Nat) (ls : List Value) : List (Nat × Value) := (List.range ls.length).filterMap fun i => match ls[i]? with
  | none => none
  | some Value.null => none
  | some v => some (i, cr_tr ad v)
theorem cr_la_in {ad : Nat → Nat} {ls : List Value} {i : Nat} {v : Value} (h : ls[i]? = some v) (hn : v ≠ .null) : (i, cr_tr ad v) ∈ cr_la ad ls := by
  refine List.mem_filterMap.mpr ⟨i, List.mem_range.mpr (List.getElem?_eq_some_iff.mp h).1, ?_⟩
  rw [h]
  cases v <;> first | exact absurd rfl hn | rfl
theorem cr_la_of {ad : Nat → Nat} {ls : List Value} {q : Nat × Value} (h : q ∈ cr_la ad ls) : ∃ v, ls[q.1]? = some v ∧ v ≠ .null ∧ q.2 = cr_tr ad v := by
  obtain ⟨i, -, hi⟩ := List.mem_filterMap.mp h
  cases hv : ls[i]? with
  | none => rw [hv] at hi; cases hi
  | some v =>
    rw [hv] at hi
    cases v <;> first | (cases hi; exact ⟨_, hv, (fun e => by cases e), rfl⟩) | cases hi
def cr_nl (ls : List Value) (i : Nat) : Bool := match i with
  | 0 => true
  | k + 1 => match ls[k]? with
    | some (Value.long _) => false
    | some (Value.double _) => false
    | _ => true
theorem cr_mono {la : Array Slot} {nL : Nat} {l l' : List (Nat × Value)} (h : lv_has la nL l) (hs : ∀ q ∈ l', q ∈ l) : lv_has la nL l' := ⟨h.1, h.2.1, fun q hq => h.2.2 q (hs q hq)⟩
theorem cr_la_set {ad : Nat → Nat} {ls : List Value} {i : Nat} {v : Value} (h0 : cr_nl ls i = true) : ∀ q ∈ cr_la ad (ls.set i v), q ∈ (i, cr_tr ad v) :: (cr_la ad ls).filter (fun q => !(q.1 == i) && !(q.1 + 1 == i && q.2.category == 2)) := by
  intro q hq
  obtain ⟨w, h1, h2, h3⟩ := cr_la_of hq
  by_cases e : q.1 = i
  · have hl : i < (ls.set i v).length := e ▸ (List.getElem?_eq_some_iff.mp h1).1
    rw [List.length_set] at hl
    rw [e, List.getElem?_set_self hl] at h1
    cases h1
    refine List.mem_cons.mpr (Or.inl ?_)
    obtain ⟨q1, q2⟩ := q
    simp only at e h3
    rw [e, h3]
  · rw [List.getElem?_set_ne (Ne.symm e)] at h1
    refine List.mem_cons.mpr (Or.inr (List.mem_filter.mpr ⟨?_, ?_⟩))
    · obtain ⟨q1, q2⟩ := q
      simp only at h3 h1
      rw [h3]
      exact cr_la_in h1 h2
    · simp only [Bool.and_eq_true, Bool.not_eq_true', beq_eq_false_iff_ne, ne_eq, Bool.and_eq_false_iff]
      refine ⟨e, ?_⟩
      by_cases e2 : q.1 + 1 = i
      · right
        rw [h3, cr_tr_cat]
        intro hc
        subst e2
        simp only [cr_nl, h1] at h0
        cases w <;> first | exact Bool.noConfusion h0 | (simp [Value.category] at hc)
      · exact Or.inl e2
/-- the context of a walk -/
abbrev cr_G : Type := (Program × Launch × Env × Room × State × MethodId × Array Value × List Frame × Method × Code) × ((State → Prop) × va_G × cr_g × (Nat → Nat) × Nat × Nat)
def cr_V (Γ : cr_G) (pc : Nat) (ls st : List Value) (I : cr_I) (R : cr_R) (n : Nat) : Prop := match Γ with
  | ((p, l, e, Rm, s, m, args, below, meth, c), (Q, D, g, ad, base, n0)) =>
    ∀ (H : Heap) (locs : List Loc) (la : Array Slot), va_P D cr_cl (cr_wd ad g I R n) H → (n < 247 → H.size = base + n) → va_S (fun q => base ≤ q) s.heap H locs → lv_has la c.maxLocals (cr_la ad ls) → W p l e Rm s m args below meth c H locs (n - n0) (cr_sl n - cr_sl n0) Q (F0 m pc la (st.map (cr_tr ad)))
/-- what a method ends with -/
abbrev cr_K : Type := Option Value → cr_I → cr_R → Prop
def cr_PQ (D : va_G) (g : cr_g) (ad : Nat → Nat) (base : Nat) (K : cr_K) (nE : Nat) : Array Value → State → Outcome → State → Prop := fun _ st oc t =>
  (∃ (v : Option Value) (I : cr_I) (R : cr_R), oc = .returned (v.map (cr_tr ad)) ∧ K v I R ∧ va_P D cr_cl (cr_wd ad g I R nE) t.heap ∧ (nE < 247 → t.heap.size = base + nE)) ∧ va_F (fun q => base ≤ q) st t

def cr_fA (comp : ClassId) (x : Class) : Bool := match x.kind with | .array component _ => component == comp | _ => false
def cr_AOA (U : State) : Prop := (Cond.arrayOver (.array .int)).before #[] U = true
theorem cr_AOA.use {A : Array Value} {U : State} (h : cr_AOA U) : (Cond.arrayOver (.array .int)).before A U = true := h
theorem cr_AOA.moved {u U : State} (hvm : u.vm.Alike U.vm) (h : cr_AOA u) : cr_AOA U := by
  obtain ⟨comp, c, k, h1, h2, h3, h4, h5⟩ := arrayOverA_spec h
  obtain ⟨k', hk', he⟩ := hvm.2.2 _ _ h3
  have hb : ∀ vm : Vm, vm.bare.classes.findIdx? (cr_fA comp) = vm.classes.findIdx? (cr_fA comp) := fun vm => by
    simp only [Vm.bare, Array.findIdx?_map]
    rfl
  have h2' : u.vm.classes.findIdx? (cr_fA comp) = some c := h2
  have hi : U.vm.classes.findIdx? (cr_fA comp) = some c := by
    rw [← hb]
    first | rw [hvm.bare_eq] | rw [← hvm.bare_eq]
    rw [hb]
    exact h2'
  have hkind : k'.kind = .array comp (.array .int) := by rw [he]; exact h4
  have f1 : U.vm.findClass (FieldType.array .int).toString = some comp := by rw [hvm.findClass]; exact h1
  have f2 : U.vm.findClass ("[" ++ (FieldType.array .int).toString) = some c := by rw [hvm.findClass]; exact h5
  unfold cr_AOA Cond.before Cond.holds
  simp only [Cond.value]
  rw [f1, Option.bind_some]
  refine (congrArg (fun o : Option Nat => (o.bind (fun c => (U.vm.classes[c]?).map fun (k : Class) => match k.kind with | .array _ ty => decide (ty = FieldType.array .int) && decide (U.vm.findClass ("[" ++ (FieldType.array .int).toString) = some c) | _ => false) == some true)) hi).trans ?_
  simp [hk', hkind, f2]
/-- the class's static tables and texts: blocks 1000 .. are outside of the world, and nobody writes them -/
def cr_txL : List Nat := [4, 4, 4, 4, 3, 7, 7, 5, 5, 3, 5, 5, 3]
def cr_txB : List (List Int32) := [[107, 101, 101, 112], [115, 108, 111, 119], [102, 97, 115, 116], [119, 104, 101, 110], [103, 97, 112], [99, 108, 111, 115, 105, 110, 103], [111, 112, 101, 110, 105, 110, 103], [115, 112, 101, 101, 100], [104, 101, 97, 114, 100], [111, 108, 100], [97, 98, 111, 118, 101], [98, 101, 108, 111, 119], [97, 110, 100]]
def cr_tabT : List (List Int32) := [[1, 1, 2, 6, 24, 120, 720], [1, 0, 0, 0, 0], [99, 40, 4, 9, 9]]
def cr_tab (i j : Nat) : Int32 := (cr_tabT.getD i []).getD j 0
def cr_ST (ad : Nat → Nat) (base : Nat) (U : State) (H : Heap) : Prop :=
  (va_Z "CartRows" "FACTORIALS" "[I" (.ref (ad 1000)) (fun q => base ≤ q) U H ∧ va_Z "CartRows" "LEAST_SETTING" "[I" (.ref (ad 1001)) (fun q => base ≤ q) U H ∧ va_Z "CartRows" "MOST_SETTING" "[I" (.ref (ad 1002)) (fun q => base ≤ q) U H) ∧
  (va_T .int (ad 1000) 7 (fun j => .int (cr_tab 0 j)) (fun q => base ≤ q) U H ∧ va_T .int (ad 1001) 5 (fun j => .int (cr_tab 1 j)) (fun q => base ≤ q) U H ∧ va_T .int (ad 1002) 5 (fun j => .int (cr_tab 2 j)) (fun q => base ≤ q) U H) ∧
  va_Z "java/lang/String" "COMPACT_STRINGS" "Z" (.int 1) (fun q => base ≤ q) U H ∧
  vk_S 13 cr_txL cr_txB (fun i => ad (1003 + i)) (fun i => ad (1100 + i)) (fun q => base ≤ q) U H ∧
  (vk_R RX7 67 "keep" (ad 1003) U ∧ vk_R RX7 72 "slow" (ad 1004) U ∧ vk_R RX7 74 "fast" (ad 1005) U ∧ vk_R RX7 55 "when" (ad 1006) U ∧ vk_R RX7 99 "gap" (ad 1007) U ∧ vk_R RX7 101 "closing" (ad 1008) U ∧ vk_R RX7 103 "opening" (ad 1009) U ∧ vk_R RX7 105 "speed" (ad 1010) U ∧ vk_R RX7 107 "heard" (ad 1011) U ∧ vk_R RX7 109 "old" (ad 1012) U ∧ vk_R RX7 90 "above" (ad 1013) U ∧ vk_R RX7 92 "below" (ad 1014) U ∧ vk_R RX7 65 "and" (ad 1015) U) ∧
  (va_Nw (.methodLinkNest RX8 9 yX7_init "CartRows") U ∧ va_Nw (.methodLinkNest RX7 21 yX6_init "CartRows") U ∧ va_Nw (.methodLinkNest RX8 18 yX3_init "CartRows") U ∧ va_Nw (.methodLinkNest RX3 11 yX2_init "CartRows") U ∧ va_Nw (.methodLinkNest RX2 24 yX6_init "CartRows") U ∧ va_Nw (.methodLinkNest RX8 25 yX4_init "CartRows") U ∧ va_Nw (.methodLinkNest RX8 32 yX1_init "CartRows") U ∧ va_Nw (.methodLinkNest RX8 39 yX5_init "CartRows") U ∧ va_Nw (.methodLinkNest RX8 46 yX0_init "CartRows") U ∧ va_Nw (.fieldLinkNest "CartRows$Shares" 20 "CartRows" "FACTORIALS" "[I" "CartRows") U) ∧
  (cr_AOA U ∧ va_AO "CartRows$Make" U)
end
section
/-- what holds in the walk of a method -/
def cr_Ok (y : MethodName) (cc : ByteArray) (nL : Nat) (ret : Option FieldType) (rm : Room) (K : cr_K) (nS nE : Nat) (Γ : cr_G) : Prop := match Γ with
  | ((p, l, e, Rm, s, m, args, below, meth, c), (Q, D, g, ad, base, n0)) =>
    p.tables.exec = Jvm.exec ∧ c.code = cc ∧ c.maxLocals = nL ∧ s.vm.findClass y.cls = some m.cls ∧ (∀ w ∈ cr_GW, w.before args s = true) ∧ va_K D cr_cl (cr_ty g) s ∧ cr_ST ad base s s.heap ∧ meth.locks = false ∧ meth.sig.returnType = ret ∧ cr_ad ad base ∧ (n0 < 247 → s.heap.size = base + n0) ∧ Q = MQ below (cr_PQ D g ad base K nE) args s (nE - n0) (cr_sl nE - cr_sl n0) (fun q => base ≤ q) ∧ Rm = rm ∧ meth.name = y.name ∧ n0 = nS
/-- a method's start -/
def cr_PP (D : va_G) (g : cr_g) (ad : Nat → Nat) (base : Nat) (vs : List Value) (I : cr_I) (R : cr_R) (n : Nat) : Array Value → State → Prop := fun v U =>
  v = (vs.map (cr_tr ad)).toArray ∧ va_P D cr_cl (cr_wd ad g I R n) U.heap ∧ (n < 247 → U.heap.size = base + n) ∧ va_K D cr_cl (cr_ty g) U ∧ cr_ST ad base U U.heap
abbrev cr_T : Type := List Value → cr_I → cr_R → cr_K → Prop
/-- THE CONTRACT of a method: from every start at which T holds (of arguments, ints, references and what is wanted behind it) it returns, and what is wanted holds -/
def cr_C (y : MethodName) (cc : ByteArray) (nL : Nat) (ret : Option FieldType) (rm : Room) (n nE : Nat) (T : cr_T) : Prop :=
  ∀ (l : Launch) (D : va_G) (g : cr_g) (ad : Nat → Nat) (base : Nat), cr_ad ad base → ∀ (vs : List Value) (I : cr_I) (R : cr_R) (K : cr_K), T vs I R K →
    Met l y (Cond.code y cc nL ret :: cr_GW) rm (cr_PP D g ad base vs I R n) (cr_PQ D g ad base K nE) (nE - n) (cr_sl nE - cr_sl n) (fun q => base ≤ q)
/-- the locals at a method's start -/
def cr_sl1 (v : Value) : List Value := match v with
  | .long _ => [v, .null]
  | .double _ => [v, .null]
  | _ => [v]
def cr_ent (nL : Nat) (vs : List Value) : List Value := vs.flatMap cr_sl1 ++ List.replicate (nL - (vs.flatMap cr_sl1).length) .null
theorem cr_sl_len (ad : Nat → Nat) (vs : List Value) : (lg_sl (vs.map (cr_tr ad))).length = (vs.flatMap cr_sl1).length := by
  induction vs with
  | nil => rfl
  | cons v vs ih =>
    simp only [lg_sl, List.map_cons, List.flatMap_cons, List.length_append] at ih ⊢
    rw [ih]
    cases v <;> simp [cr_tr, cr_sl1, Value.category]
theorem cr_la_null {ad : Nat → Nat} {ls : List Value} {k : Nat} {q : Nat × Value} (h : q ∈ cr_la ad (ls ++ List.replicate k .null)) : ∃ v, ls[q.1]? = some v ∧ v ≠ .null ∧ q.2 = cr_tr ad v := by
  obtain ⟨v, h1, h2, h3⟩ := cr_la_of h
  by_cases hl : q.1 < ls.length
  · rw [List.getElem?_append_left hl] at h1
    exact ⟨v, h1, h2, h3⟩
  · rw [List.getElem?_append_right (by omega)] at h1
    have := List.mem_of_getElem? h1
    exact absurd (List.eq_of_mem_replicate this) h2
theorem cr_args_in {ad : Nat → Nat} : ∀ (vs : List Value) (i j : Nat) (v : Value), (vs.flatMap cr_sl1)[j]? = some v → v ≠ .null → (i + j, cr_tr ad v) ∈ lv_args i (vs.map (cr_tr ad))
  | [], i, j, v, h, _ => by simp at h
  | x :: vs, i, j, v, h, hn => by
    have step : ∀ (k : Nat), (k = 1 ∨ k = 2) → (cr_sl1 x).length = k → (if (cr_tr ad x).category = 2 then i + 2 else i + 1) = i + k → (∀ m, m < k → (cr_sl1 x)[m]? = some v → v ≠ .null → m = 0 ∧ v = x) → (i + j, cr_tr ad v) ∈ lv_args i ((x :: vs).map (cr_tr ad)) := by
      intro k hk hl hi hm
      rw [List.flatMap_cons] at h
      simp only [List.map_cons, lv_args]
      by_cases hj : j < k
      · rw [List.getElem?_append_left (by omega)] at h
        obtain ⟨e1, e2⟩ := hm j hj h hn
        subst e1; subst e2
        exact List.mem_cons_self
      · rw [List.getElem?_append_right (by omega), hl] at h
        have := cr_args_in (ad := ad) vs (i + k) (j - k) v h hn
        rw [show i + k + (j - k) = i + j by omega] at this
        rw [hi]
        exact List.mem_cons_of_mem _ this
    cases x with
    | long z => exact step 2 (Or.inr rfl) rfl rfl (fun m hm e hn => by
        match m, e with
        | 0, e => simp [cr_sl1] at e; exact ⟨rfl, e.symm⟩
        | 1, e => simp [cr_sl1] at e; exact absurd e.symm hn)
    | double z => exact step 2 (Or.inr rfl) rfl rfl (fun m hm e hn => by
        match m, e with
        | 0, e => simp [cr_sl1] at e; exact ⟨rfl, e.symm⟩
        | 1, e => simp [cr_sl1] at e; exact absurd e.symm hn)
    | int z => exact step 1 (Or.inl rfl) rfl rfl (fun m hm e hn => by
        match m, e with
        | 0, e => simp [cr_sl1] at e; exact ⟨rfl, e.symm⟩)
    | float z => exact step 1 (Or.inl rfl) rfl rfl (fun m hm e hn => by
        match m, e with
        | 0, e => simp [cr_sl1] at e; exact ⟨rfl, e.symm⟩)
    | null => exact step 1 (Or.inl rfl) rfl rfl (fun m hm e hn => by
        match m, e with
        | 0, e => simp [cr_sl1] at e; exact ⟨rfl, e.symm⟩)
    | ref z => exact step 1 (Or.inl rfl) rfl rfl (fun m hm e hn => by
        match m, e with
        | 0, e => simp [cr_sl1] at e; exact ⟨rfl, e.symm⟩)
    | retAddr z => exact step 1 (Or.inl rfl) rfl rfl (fun m hm e hn => by
        match m, e with
        | 0, e => simp [cr_sl1] at e; exact ⟨rfl, e.symm⟩)
/-- a contract out of a walk from the method's entry -/
theorem cr_C.of {y : MethodName} {cc : ByteArray} {nL : Nat} {ret : Option FieldType} {rm : Room} {n nE : Nat} {T : cr_T} (hy : plainName y.cls = true) (hL : ∀ vs I R K, T vs I R K → (vs.flatMap cr_sl1).length ≤ nL)
    (body : ∀ (Γ : cr_G) (K : cr_K), cr_Ok y cc nL ret rm K n nE Γ → ∀ (vs : List Value) (I : cr_I) (R : cr_R), T vs I R K → cr_V Γ 0 (cr_ent nL vs) [] I R n) : cr_C y cc nL ret rm n nE T := by
  intro l D g ad base hA vs I R K hT
  refine Met.ofW (cc := cc) (maxL := nL) (ret := ret) hy rfl ?_
  intro p e s m args below meth c s₁ B hml hv
  obtain ⟨rfl, hP, hz, hK, hST⟩ := hv
  have hts := atoms_spec (ws := Cond.code y cc nL ret :: cr_GW) B.pre
  have hown : s.vm.findClass y.cls = some m.cls := findClass_of_methodNamed B.named
  have hnm : meth.name = y.name := (name_of_methodNamed B.named B.method).1
  have ok : cr_Ok y cc nL ret rm K n nE ((p, l, e, (headSpec (Cond.code y cc nL ret :: cr_GW) rm).room, s, m, (vs.map (cr_tr ad)).toArray, below, meth, c), (MQ below (cr_PQ D g ad base K nE) (vs.map (cr_tr ad)).toArray s (nE - n) (cr_sl nE - cr_sl n) (fun q => base ≤ q), D, g, ad, base, n)) :=
    ⟨B.exec, B.bytes, hml, hown, fun w hw => hts w (List.mem_cons_of_mem _ hw), hK, hST, B.notSynchronized, B.returns, hA, hz, rfl, rfl, hnm, rfl⟩
  have hb := body _ K ok vs I R hT
  have hlen := cr_sl_len ad vs
  have hl := lv_entry (vs.map (cr_tr ad)) (n := nL) (by rw [hlen]; exact hL vs I R K hT)
  rw [lg_entry_eq]
  have h2 := hb s.heap [] _ hP hz va_S.rf (by
    rw [hml]
    refine cr_mono hl fun q hq => ?_
    obtain ⟨v, h1, h2, h3⟩ := cr_la_null hq
    have := cr_args_in (ad := ad) vs 0 q.1 v h1 h2
    rw [Nat.zero_add, ← h3] at this
    exact this)
  rw [Nat.sub_self, Nat.sub_self] at h2
  exact h2
section CRR
variable {y : MethodName} {cc : ByteArray} {nL : Nat} {ret : Option FieldType} {rm : Room} {K : cr_K} {nS nE : Nat} {Γ : cr_G} {pc : Nat} {ls st : List Value} {I : cr_I} {R : cr_R} {n : Nat}
theorem cr_iconst (h : cr_Ok y cc nL ret rm K nS nE Γ) {i : Int} {v : Int32} (hv : Int32.ofInt i = v) (d : decode cc pc = .ok (.iconst i, 1)) (k : cr_V Γ (pc + 1) ls (.int v :: st) I R n) : cr_V Γ pc ls st I R n := by
  obtain ⟨⟨p, l, e, Rm, s, m, args, below, meth, c⟩, Q, D, g, ad, base, n0⟩ := Γ
  obtain ⟨hx, hb, hml, hown, hts, hK, hST, hlk, hrt, hA, hs0, hQ, hrm, hnm, hn0⟩ := h
  intro H locs la hP hz hS hl
  exact lv_iconst hx hb d hv (k H locs la hP hz hS hl)
theorem cr_bipush (h : cr_Ok y cc nL ret rm K nS nE Γ) {i : Int} {v : Int32} (hv : (Int8.ofInt i).toInt32 = v) (d : decode cc pc = .ok (.bipush i, 2)) (k : cr_V Γ (pc + 2) ls (.int v :: st) I R n) : cr_V Γ pc ls st I R n := by
  obtain ⟨⟨p, l, e, Rm, s, m, args, below, meth, c⟩, Q, D, g, ad, base, n0⟩ := Γ
  obtain ⟨hx, hb, hml, hown, hts, hK, hST, hlk, hrt, hA, hs0, hQ, hrm, hnm, hn0⟩ := h
  intro H locs la hP hz hS hl
  exact lv_bipush hx hb d hv (k H locs la hP hz hS hl)
theorem cr_sipush (h : cr_Ok y cc nL ret rm K nS nE Γ) {i : Int} {v : Int32} (hv : (Int16.ofInt i).toInt32 = v) (d : decode cc pc = .ok (.sipush i, 3)) (k : cr_V Γ (pc + 3) ls (.int v :: st) I R n) : cr_V Γ pc ls st I R n := by
  obtain ⟨⟨p, l, e, Rm, s, m, args, below, meth, c⟩, Q, D, g, ad, base, n0⟩ := Γ
  obtain ⟨hx, hb, hml, hown, hts, hK, hST, hlk, hrt, hA, hs0, hQ, hrm, hnm, hn0⟩ := h
  intro H locs la hP hz hS hl
  exact lv_sipush hx hb d hv (k H locs la hP hz hS hl)
theorem cr_lconst (h : cr_Ok y cc nL ret rm K nS nE Γ) {i : Fin 2} {v : Int64} (hv : Int64.ofNat (i : Nat) = v) (d : decode cc pc = .ok (.lconst i, 1)) (k : cr_V Γ (pc + 1) ls (.long v :: st) I R n) : cr_V Γ pc ls st I R n := by
  obtain ⟨⟨p, l, e, Rm, s, m, args, below, meth, c⟩, Q, D, g, ad, base, n0⟩ := Γ
  obtain ⟨hx, hb, hml, hown, hts, hK, hST, hlk, hrt, hA, hs0, hQ, hrm, hnm, hn0⟩ := h
  intro H locs la hP hz hS hl
  exact lv_lconst hx hb d hv (k H locs la hP hz hS hl)
theorem cr_ldc (h : cr_Ok y cc nL ret rm K nS nE Γ) {i : Nat} {v : Int32} (hw : Cond.constant y.cls i v ∈ cr_GW) (d : decode cc pc = .ok (.ldc i, 2)) (k : cr_V Γ (pc + 2) ls (.int v :: st) I R n) : cr_V Γ pc ls st I R n := by
  obtain ⟨⟨p, l, e, Rm, s, m, args, below, meth, c⟩, Q, D, g, ad, base, n0⟩ := Γ
  obtain ⟨hx, hb, hml, hown, hts, hK, hST, hlk, hrt, hA, hs0, hQ, hrm, hnm, hn0⟩ := h
  intro H locs la hP hz hS hl
  exact lv_ldc hx hb hown (hts _ hw) d (k H locs la hP hz hS hl)
theorem cr_ldcw (h : cr_Ok y cc nL ret rm K nS nE Γ) {i : Nat} {v : Int32} (hw : Cond.constant y.cls i v ∈ cr_GW) (d : decode cc pc = .ok (.ldc_w i, 3)) (k : cr_V Γ (pc + 3) ls (.int v :: st) I R n) : cr_V Γ pc ls st I R n := by
  obtain ⟨⟨p, l, e, Rm, s, m, args, below, meth, c⟩, Q, D, g, ad, base, n0⟩ := Γ
  obtain ⟨hx, hb, hml, hown, hts, hK, hST, hlk, hrt, hA, hs0, hQ, hrm, hnm, hn0⟩ := h
  intro H locs la hP hz hS hl
  exact lv_ldcw hx hb hown (hts _ hw) d (k H locs la hP hz hS hl)
theorem cr_ldc2 (h : cr_Ok y cc nL ret rm K nS nE Γ) {i : Nat} {v : Int64} (hw : Cond.constantLong y.cls i v ∈ cr_GW) (d : decode cc pc = .ok (.ldc2_w i, 3)) (k : cr_V Γ (pc + 3) ls (.long v :: st) I R n) : cr_V Γ pc ls st I R n := by
  obtain ⟨⟨p, l, e, Rm, s, m, args, below, meth, c⟩, Q, D, g, ad, base, n0⟩ := Γ
  obtain ⟨hx, hb, hml, hown, hts, hK, hST, hlk, hrt, hA, hs0, hQ, hrm, hnm, hn0⟩ := h
  intro H locs la hP hz hS hl
  exact lv_ldc2 hx hb hown (hts _ hw) d (k H locs la hP hz hS hl)
theorem cr_iload_n (h : cr_Ok y cc nL ret rm K nS nE Γ) {i : Fin 4} {j : Nat} {x : Int32} (hi : (i : Nat) = j) (hv : ls[j]? = some (.int x)) (d : decode cc pc = .ok (.iload_n i, 1)) (k : cr_V Γ (pc + 1) ls (.int x :: st) I R n) : cr_V Γ pc ls st I R n := by
  obtain ⟨⟨p, l, e, Rm, s, m, args, below, meth, c⟩, Q, D, g, ad, base, n0⟩ := Γ
  obtain ⟨hx, hb, hml, hown, hts, hK, hST, hlk, hrt, hA, hs0, hQ, hrm, hnm, hn0⟩ := h
  intro H locs la hP hz hS hl
  exact lv_iload_n hx hb d hi (hl.2.2 _ (cr_la_in hv (fun q => by cases q))) (k H locs la hP hz hS hl)
theorem cr_iload (h : cr_Ok y cc nL ret rm K nS nE Γ) {i : Nat} {x : Int32} (hv : ls[i]? = some (.int x)) (d : decode cc pc = .ok (.iload i, 2)) (k : cr_V Γ (pc + 2) ls (.int x :: st) I R n) : cr_V Γ pc ls st I R n := by
  obtain ⟨⟨p, l, e, Rm, s, m, args, below, meth, c⟩, Q, D, g, ad, base, n0⟩ := Γ
  obtain ⟨hx, hb, hml, hown, hts, hK, hST, hlk, hrt, hA, hs0, hQ, hrm, hnm, hn0⟩ := h
  intro H locs la hP hz hS hl
  exact lv_iload hx hb d (hl.2.2 _ (cr_la_in hv (fun q => by cases q))) (k H locs la hP hz hS hl)
theorem cr_lload_n (h : cr_Ok y cc nL ret rm K nS nE Γ) {i : Fin 4} {j : Nat} {x : Int64} (hi : (i : Nat) = j) (hv : ls[j]? = some (.long x)) (d : decode cc pc = .ok (.lload_n i, 1)) (k : cr_V Γ (pc + 1) ls (.long x :: st) I R n) : cr_V Γ pc ls st I R n := by
  obtain ⟨⟨p, l, e, Rm, s, m, args, below, meth, c⟩, Q, D, g, ad, base, n0⟩ := Γ
  obtain ⟨hx, hb, hml, hown, hts, hK, hST, hlk, hrt, hA, hs0, hQ, hrm, hnm, hn0⟩ := h
  intro H locs la hP hz hS hl
  exact lv_lload_n hx hb d hi (hl.2.2 _ (cr_la_in hv (fun q => by cases q))) (k H locs la hP hz hS hl)
theorem cr_lload (h : cr_Ok y cc nL ret rm K nS nE Γ) {i : Nat} {x : Int64} (hv : ls[i]? = some (.long x)) (d : decode cc pc = .ok (.lload i, 2)) (k : cr_V Γ (pc + 2) ls (.long x :: st) I R n) : cr_V Γ pc ls st I R n := by
  obtain ⟨⟨p, l, e, Rm, s, m, args, below, meth, c⟩, Q, D, g, ad, base, n0⟩ := Γ
  obtain ⟨hx, hb, hml, hown, hts, hK, hST, hlk, hrt, hA, hs0, hQ, hrm, hnm, hn0⟩ := h
  intro H locs la hP hz hS hl
  exact lv_lload hx hb d (hl.2.2 _ (cr_la_in hv (fun q => by cases q))) (k H locs la hP hz hS hl)
theorem cr_aload_n (h : cr_Ok y cc nL ret rm K nS nE Γ) {i : Fin 4} {j : Nat} {x : Nat} (hi : (i : Nat) = j) (hv : ls[j]? = some (.ref x)) (d : decode cc pc = .ok (.aload_n i, 1)) (k : cr_V Γ (pc + 1) ls (.ref x :: st) I R n) : cr_V Γ pc ls st I R n := by
  obtain ⟨⟨p, l, e, Rm, s, m, args, below, meth, c⟩, Q, D, g, ad, base, n0⟩ := Γ
  obtain ⟨hx, hb, hml, hown, hts, hK, hST, hlk, hrt, hA, hs0, hQ, hrm, hnm, hn0⟩ := h
  intro H locs la hP hz hS hl
  exact lv_aload_n hx hb d hi (hl.2.2 _ (cr_la_in hv (fun q => by cases q))) (k H locs la hP hz hS hl)
theorem cr_aload (h : cr_Ok y cc nL ret rm K nS nE Γ) {i : Nat} {x : Nat} (hv : ls[i]? = some (.ref x)) (d : decode cc pc = .ok (.aload i, 2)) (k : cr_V Γ (pc + 2) ls (.ref x :: st) I R n) : cr_V Γ pc ls st I R n := by
  obtain ⟨⟨p, l, e, Rm, s, m, args, below, meth, c⟩, Q, D, g, ad, base, n0⟩ := Γ
  obtain ⟨hx, hb, hml, hown, hts, hK, hST, hlk, hrt, hA, hs0, hQ, hrm, hnm, hn0⟩ := h
  intro H locs la hP hz hS hl
  exact lv_aload hx hb d (hl.2.2 _ (cr_la_in hv (fun q => by cases q))) (k H locs la hP hz hS hl)
theorem cr_istore_n (h : cr_Ok y cc nL ret rm K nS nE Γ) {i : Fin 4} {j : Nat} (hi : (i : Nat) = j) {x : Int32} (hj : j < nL) (hn : cr_nl ls j = true) (d : decode cc pc = .ok (.istore_n i, 1)) (k : cr_V Γ (pc + 1) (ls.set j (.int x)) st I R n) : cr_V Γ pc ls (.int x :: st) I R n := by
  obtain ⟨⟨p, l, e, Rm, s, m, args, below, meth, c⟩, Q, D, g, ad, base, n0⟩ := Γ
  obtain ⟨hx, hb, hml, hown, hts, hK, hST, hlk, hrt, hA, hs0, hQ, hrm, hnm, hn0⟩ := h
  intro H locs la hP hz hS hl
  exact lv_istore_n hx hb d hi hl (by rw [hml]; exact hj) rfl (fun ls' hl' => k H locs ls' hP hz hS (cr_mono hl' (cr_la_set hn)))
theorem cr_istore (h : cr_Ok y cc nL ret rm K nS nE Γ) {j : Nat} {x : Int32} (hj : j < nL) (hn : cr_nl ls j = true) (d : decode cc pc = .ok (.istore j, 2)) (k : cr_V Γ (pc + 2) (ls.set j (.int x)) st I R n) : cr_V Γ pc ls (.int x :: st) I R n := by
  obtain ⟨⟨p, l, e, Rm, s, m, args, below, meth, c⟩, Q, D, g, ad, base, n0⟩ := Γ
  obtain ⟨hx, hb, hml, hown, hts, hK, hST, hlk, hrt, hA, hs0, hQ, hrm, hnm, hn0⟩ := h
  intro H locs la hP hz hS hl
  exact lv_istore hx hb d hl (by rw [hml]; exact hj) rfl (fun ls' hl' => k H locs ls' hP hz hS (cr_mono hl' (cr_la_set hn)))
theorem cr_astore_n (h : cr_Ok y cc nL ret rm K nS nE Γ) {i : Fin 4} {j : Nat} (hi : (i : Nat) = j) {x : Nat} (hj : j < nL) (hn : cr_nl ls j = true) (d : decode cc pc = .ok (.astore_n i, 1)) (k : cr_V Γ (pc + 1) (ls.set j (.ref x)) st I R n) : cr_V Γ pc ls (.ref x :: st) I R n := by
  obtain ⟨⟨p, l, e, Rm, s, m, args, below, meth, c⟩, Q, D, g, ad, base, n0⟩ := Γ
  obtain ⟨hx, hb, hml, hown, hts, hK, hST, hlk, hrt, hA, hs0, hQ, hrm, hnm, hn0⟩ := h
  intro H locs la hP hz hS hl
  exact lv_astore_n hx hb d hi hl (by rw [hml]; exact hj) rfl (fun ls' hl' => k H locs ls' hP hz hS (cr_mono hl' (cr_la_set hn)))
theorem cr_astore (h : cr_Ok y cc nL ret rm K nS nE Γ) {j : Nat} {x : Nat} (hj : j < nL) (hn : cr_nl ls j = true) (d : decode cc pc = .ok (.astore j, 2)) (k : cr_V Γ (pc + 2) (ls.set j (.ref x)) st I R n) : cr_V Γ pc ls (.ref x :: st) I R n := by
  obtain ⟨⟨p, l, e, Rm, s, m, args, below, meth, c⟩, Q, D, g, ad, base, n0⟩ := Γ
  obtain ⟨hx, hb, hml, hown, hts, hK, hST, hlk, hrt, hA, hs0, hQ, hrm, hnm, hn0⟩ := h
  intro H locs la hP hz hS hl
  exact lv_astore hx hb d hl (by rw [hml]; exact hj) rfl (fun ls' hl' => k H locs ls' hP hz hS (cr_mono hl' (cr_la_set hn)))
theorem cr_iinc (h : cr_Ok y cc nL ret rm K nS nE Γ) {j : Nat} {i : Int} {x v : Int32} (hv : ls[j]? = some (.int x)) (he : x + Int32.ofInt i = v) (hj : j < nL) (hn : cr_nl ls j = true) (d : decode cc pc = .ok (.iinc j i, 3)) (k : cr_V Γ (pc + 3) (ls.set j (.int v)) st I R n) : cr_V Γ pc ls st I R n := by
  obtain ⟨⟨p, l, e, Rm, s, m, args, below, meth, c⟩, Q, D, g, ad, base, n0⟩ := Γ
  obtain ⟨hx, hb, hml, hown, hts, hK, hST, hlk, hrt, hA, hs0, hQ, hrm, hnm, hn0⟩ := h
  intro H locs la hP hz hS hl
  obtain ⟨k0, hk0⟩ := List.getElem?_of_mem (cr_la_in (ad := ad) hv (fun q => by cases q))
  exact lv_iinc hx hb d hl (k := k0) (x := x) hk0 he (by rw [hml]; exact hj) rfl (fun ls' hl' => k H locs ls' hP hz hS (cr_mono hl' (cr_la_set (v := .int v) hn)))
theorem cr_iadd (h : cr_Ok y cc nL ret rm K nS nE Γ) {x0 y0 : Int32}  (d : decode cc pc = .ok (.iadd, 1)) (k : cr_V Γ (pc + 1) ls (.int (x0 + y0) :: st) I R n) : cr_V Γ pc ls (.int y0 :: .int x0 :: st) I R n := by
  obtain ⟨⟨p, l, e, Rm, s, m, args, below, meth, c⟩, Q, D, g, ad, base, n0⟩ := Γ
  obtain ⟨hx, hb, hml, hown, hts, hK, hST, hlk, hrt, hA, hs0, hQ, hrm, hnm, hn0⟩ := h
  intro H locs la hP hz hS hl
  exact lv_iadd hx hb d (k H locs la hP hz hS hl)
theorem cr_isub (h : cr_Ok y cc nL ret rm K nS nE Γ) {x0 y0 : Int32}  (d : decode cc pc = .ok (.isub, 1)) (k : cr_V Γ (pc + 1) ls (.int (x0 - y0) :: st) I R n) : cr_V Γ pc ls (.int y0 :: .int x0 :: st) I R n := by
  obtain ⟨⟨p, l, e, Rm, s, m, args, below, meth, c⟩, Q, D, g, ad, base, n0⟩ := Γ
  obtain ⟨hx, hb, hml, hown, hts, hK, hST, hlk, hrt, hA, hs0, hQ, hrm, hnm, hn0⟩ := h
  intro H locs la hP hz hS hl
  exact lv_isub hx hb d (k H locs la hP hz hS hl)
theorem cr_imul (h : cr_Ok y cc nL ret rm K nS nE Γ) {x0 y0 : Int32}  (d : decode cc pc = .ok (.imul, 1)) (k : cr_V Γ (pc + 1) ls (.int (x0 * y0) :: st) I R n) : cr_V Γ pc ls (.int y0 :: .int x0 :: st) I R n := by
  obtain ⟨⟨p, l, e, Rm, s, m, args, below, meth, c⟩, Q, D, g, ad, base, n0⟩ := Γ
  obtain ⟨hx, hb, hml, hown, hts, hK, hST, hlk, hrt, hA, hs0, hQ, hrm, hnm, hn0⟩ := h
  intro H locs la hP hz hS hl
  exact lv_imul hx hb d (k H locs la hP hz hS hl)
theorem cr_iand (h : cr_Ok y cc nL ret rm K nS nE Γ) {x0 y0 : Int32}  (d : decode cc pc = .ok (.iand, 1)) (k : cr_V Γ (pc + 1) ls (.int (x0 &&& y0) :: st) I R n) : cr_V Γ pc ls (.int y0 :: .int x0 :: st) I R n := by
  obtain ⟨⟨p, l, e, Rm, s, m, args, below, meth, c⟩, Q, D, g, ad, base, n0⟩ := Γ
  obtain ⟨hx, hb, hml, hown, hts, hK, hST, hlk, hrt, hA, hs0, hQ, hrm, hnm, hn0⟩ := h
  intro H locs la hP hz hS hl
  exact lv_iand hx hb d (k H locs la hP hz hS hl)
theorem cr_ior (h : cr_Ok y cc nL ret rm K nS nE Γ) {x0 y0 : Int32}  (d : decode cc pc = .ok (.ior, 1)) (k : cr_V Γ (pc + 1) ls (.int (x0 ||| y0) :: st) I R n) : cr_V Γ pc ls (.int y0 :: .int x0 :: st) I R n := by
  obtain ⟨⟨p, l, e, Rm, s, m, args, below, meth, c⟩, Q, D, g, ad, base, n0⟩ := Γ
  obtain ⟨hx, hb, hml, hown, hts, hK, hST, hlk, hrt, hA, hs0, hQ, hrm, hnm, hn0⟩ := h
  intro H locs la hP hz hS hl
  exact lv_ior hx hb d (k H locs la hP hz hS hl)
theorem cr_ixor (h : cr_Ok y cc nL ret rm K nS nE Γ) {x0 y0 : Int32}  (d : decode cc pc = .ok (.ixor, 1)) (k : cr_V Γ (pc + 1) ls (.int (x0 ^^^ y0) :: st) I R n) : cr_V Γ pc ls (.int y0 :: .int x0 :: st) I R n := by
  obtain ⟨⟨p, l, e, Rm, s, m, args, below, meth, c⟩, Q, D, g, ad, base, n0⟩ := Γ
  obtain ⟨hx, hb, hml, hown, hts, hK, hST, hlk, hrt, hA, hs0, hQ, hrm, hnm, hn0⟩ := h
  intro H locs la hP hz hS hl
  exact lv_ixor hx hb d (k H locs la hP hz hS hl)
theorem cr_idiv (h : cr_Ok y cc nL ret rm K nS nE Γ) {x0 y0 : Int32} (hne : ¬ y0 = 0) (d : decode cc pc = .ok (.idiv, 1)) (k : cr_V Γ (pc + 1) ls (.int (x0 / y0) :: st) I R n) : cr_V Γ pc ls (.int y0 :: .int x0 :: st) I R n := by
  obtain ⟨⟨p, l, e, Rm, s, m, args, below, meth, c⟩, Q, D, g, ad, base, n0⟩ := Γ
  obtain ⟨hx, hb, hml, hown, hts, hK, hST, hlk, hrt, hA, hs0, hQ, hrm, hnm, hn0⟩ := h
  intro H locs la hP hz hS hl
  exact lv_idiv hx hb d hne (k H locs la hP hz hS hl)
theorem cr_irem (h : cr_Ok y cc nL ret rm K nS nE Γ) {x0 y0 : Int32} (hne : ¬ y0 = 0) (d : decode cc pc = .ok (.irem, 1)) (k : cr_V Γ (pc + 1) ls (.int (x0 - x0 / y0 * y0) :: st) I R n) : cr_V Γ pc ls (.int y0 :: .int x0 :: st) I R n := by
  obtain ⟨⟨p, l, e, Rm, s, m, args, below, meth, c⟩, Q, D, g, ad, base, n0⟩ := Γ
  obtain ⟨hx, hb, hml, hown, hts, hK, hST, hlk, hrt, hA, hs0, hQ, hrm, hnm, hn0⟩ := h
  intro H locs la hP hz hS hl
  exact lv_irem hx hb d hne (k H locs la hP hz hS hl)
theorem cr_ishl (h : cr_Ok y cc nL ret rm K nS nE Γ) {x0 y0 : Int32}  (d : decode cc pc = .ok (.ishl, 1)) (k : cr_V Γ (pc + 1) ls (.int (x0 <<< (y0 &&& 31)) :: st) I R n) : cr_V Γ pc ls (.int y0 :: .int x0 :: st) I R n := by
  obtain ⟨⟨p, l, e, Rm, s, m, args, below, meth, c⟩, Q, D, g, ad, base, n0⟩ := Γ
  obtain ⟨hx, hb, hml, hown, hts, hK, hST, hlk, hrt, hA, hs0, hQ, hrm, hnm, hn0⟩ := h
  intro H locs la hP hz hS hl
  exact lv_ishl hx hb d (k H locs la hP hz hS hl)
theorem cr_ishr (h : cr_Ok y cc nL ret rm K nS nE Γ) {x0 y0 : Int32}  (d : decode cc pc = .ok (.ishr, 1)) (k : cr_V Γ (pc + 1) ls (.int (x0 >>> (y0 &&& 31)) :: st) I R n) : cr_V Γ pc ls (.int y0 :: .int x0 :: st) I R n := by
  obtain ⟨⟨p, l, e, Rm, s, m, args, below, meth, c⟩, Q, D, g, ad, base, n0⟩ := Γ
  obtain ⟨hx, hb, hml, hown, hts, hK, hST, hlk, hrt, hA, hs0, hQ, hrm, hnm, hn0⟩ := h
  intro H locs la hP hz hS hl
  exact lv_ishr hx hb d (k H locs la hP hz hS hl)
theorem cr_iushr (h : cr_Ok y cc nL ret rm K nS nE Γ) {x0 y0 : Int32}  (d : decode cc pc = .ok (.iushr, 1)) (k : cr_V Γ (pc + 1) ls (.int (x0.toUInt32 >>> (y0.toUInt32 &&& Int32.toUInt32 31)).toInt32 :: st) I R n) : cr_V Γ pc ls (.int y0 :: .int x0 :: st) I R n := by
  obtain ⟨⟨p, l, e, Rm, s, m, args, below, meth, c⟩, Q, D, g, ad, base, n0⟩ := Γ
  obtain ⟨hx, hb, hml, hown, hts, hK, hST, hlk, hrt, hA, hs0, hQ, hrm, hnm, hn0⟩ := h
  intro H locs la hP hz hS hl
  exact lv_iushr hx hb d rfl (k H locs la hP hz hS hl)
theorem cr_land (h : cr_Ok y cc nL ret rm K nS nE Γ) {x0 y0 : Int64}  (d : decode cc pc = .ok (.land, 1)) (k : cr_V Γ (pc + 1) ls (.long (x0 &&& y0) :: st) I R n) : cr_V Γ pc ls (.long y0 :: .long x0 :: st) I R n := by
  obtain ⟨⟨p, l, e, Rm, s, m, args, below, meth, c⟩, Q, D, g, ad, base, n0⟩ := Γ
  obtain ⟨hx, hb, hml, hown, hts, hK, hST, hlk, hrt, hA, hs0, hQ, hrm, hnm, hn0⟩ := h
  intro H locs la hP hz hS hl
  exact lv_land hx hb d (k H locs la hP hz hS hl)
theorem cr_lor (h : cr_Ok y cc nL ret rm K nS nE Γ) {x0 y0 : Int64}  (d : decode cc pc = .ok (.lor, 1)) (k : cr_V Γ (pc + 1) ls (.long (x0 ||| y0) :: st) I R n) : cr_V Γ pc ls (.long y0 :: .long x0 :: st) I R n := by
  obtain ⟨⟨p, l, e, Rm, s, m, args, below, meth, c⟩, Q, D, g, ad, base, n0⟩ := Γ
  obtain ⟨hx, hb, hml, hown, hts, hK, hST, hlk, hrt, hA, hs0, hQ, hrm, hnm, hn0⟩ := h
  intro H locs la hP hz hS hl
  exact lv_lor hx hb d (k H locs la hP hz hS hl)
theorem cr_lcmp (h : cr_Ok y cc nL ret rm K nS nE Γ) {x0 y0 : Int64} (d : decode cc pc = .ok (.lcmp, 1)) (k : cr_V Γ (pc + 1) ls (.int (lg_cmp x0 y0) :: st) I R n) : cr_V Γ pc ls (.long y0 :: .long x0 :: st) I R n := by
  obtain ⟨⟨p, l, e, Rm, s, m, args, below, meth, c⟩, Q, D, g, ad, base, n0⟩ := Γ
  obtain ⟨hx, hb, hml, hown, hts, hK, hST, hlk, hrt, hA, hs0, hQ, hrm, hnm, hn0⟩ := h
  intro H locs la hP hz hS hl
  exact W.lcmp hx hb d (k H locs la hP hz hS hl)
theorem cr_ineg (h : cr_Ok y cc nL ret rm K nS nE Γ) {x0 : Int32} (d : decode cc pc = .ok (.ineg, 1)) (k : cr_V Γ (pc + 1) ls (.int (-x0) :: st) I R n) : cr_V Γ pc ls (.int x0 :: st) I R n := by
  obtain ⟨⟨p, l, e, Rm, s, m, args, below, meth, c⟩, Q, D, g, ad, base, n0⟩ := Γ
  obtain ⟨hx, hb, hml, hown, hts, hK, hST, hlk, hrt, hA, hs0, hQ, hrm, hnm, hn0⟩ := h
  intro H locs la hP hz hS hl
  exact lv_ineg hx hb d (k H locs la hP hz hS hl)
theorem cr_i2l (h : cr_Ok y cc nL ret rm K nS nE Γ) {x0 : Int32} (d : decode cc pc = .ok (.i2l, 1)) (k : cr_V Γ (pc + 1) ls (.long x0.toInt64 :: st) I R n) : cr_V Γ pc ls (.int x0 :: st) I R n := by
  obtain ⟨⟨p, l, e, Rm, s, m, args, below, meth, c⟩, Q, D, g, ad, base, n0⟩ := Γ
  obtain ⟨hx, hb, hml, hown, hts, hK, hST, hlk, hrt, hA, hs0, hQ, hrm, hnm, hn0⟩ := h
  intro H locs la hP hz hS hl
  exact lv_i2l hx hb d rfl (k H locs la hP hz hS hl)
theorem cr_l2i (h : cr_Ok y cc nL ret rm K nS nE Γ) {x0 : Int64} (d : decode cc pc = .ok (.l2i, 1)) (k : cr_V Γ (pc + 1) ls (.int x0.toInt32 :: st) I R n) : cr_V Γ pc ls (.long x0 :: st) I R n := by
  obtain ⟨⟨p, l, e, Rm, s, m, args, below, meth, c⟩, Q, D, g, ad, base, n0⟩ := Γ
  obtain ⟨hx, hb, hml, hown, hts, hK, hST, hlk, hrt, hA, hs0, hQ, hrm, hnm, hn0⟩ := h
  intro H locs la hP hz hS hl
  exact lv_l2i hx hb d rfl (k H locs la hP hz hS hl)
theorem cr_i2c (h : cr_Ok y cc nL ret rm K nS nE Γ) {x0 : Int32} (d : decode cc pc = .ok (.i2c, 1)) (k : cr_V Γ (pc + 1) ls (.int (x0.toUInt32 % 65536).toInt32 :: st) I R n) : cr_V Γ pc ls (.int x0 :: st) I R n := by
  obtain ⟨⟨p, l, e, Rm, s, m, args, below, meth, c⟩, Q, D, g, ad, base, n0⟩ := Γ
  obtain ⟨hx, hb, hml, hown, hts, hK, hST, hlk, hrt, hA, hs0, hQ, hrm, hnm, hn0⟩ := h
  intro H locs la hP hz hS hl
  exact lv_i2c hx hb d rfl (k H locs la hP hz hS hl)
theorem cr_dup (h : cr_Ok y cc nL ret rm K nS nE Γ) {v : Value} (hv : v.category = 1) (d : decode cc pc = .ok (.dup, 1)) (k : cr_V Γ (pc + 1) ls (v :: v :: st) I R n) : cr_V Γ pc ls (v :: st) I R n := by
  obtain ⟨⟨p, l, e, Rm, s, m, args, below, meth, c⟩, Q, D, g, ad, base, n0⟩ := Γ
  obtain ⟨hx, hb, hml, hown, hts, hK, hST, hlk, hrt, hA, hs0, hQ, hrm, hnm, hn0⟩ := h
  intro H locs la hP hz hS hl
  exact lv_dup hx hb d (by rw [cr_tr_cat]; exact hv) (k H locs la hP hz hS hl)
theorem cr_pop (h : cr_Ok y cc nL ret rm K nS nE Γ) {v : Value} (hv : v.category = 1) (d : decode cc pc = .ok (.pop, 1)) (k : cr_V Γ (pc + 1) ls st I R n) : cr_V Γ pc ls (v :: st) I R n := by
  obtain ⟨⟨p, l, e, Rm, s, m, args, below, meth, c⟩, Q, D, g, ad, base, n0⟩ := Γ
  obtain ⟨hx, hb, hml, hown, hts, hK, hST, hlk, hrt, hA, hs0, hQ, hrm, hnm, hn0⟩ := h
  intro H locs la hP hz hS hl
  exact lv_pop hx hb d (by rw [cr_tr_cat]; exact hv) (k H locs la hP hz hS hl)
theorem cr_dup2 (h : cr_Ok y cc nL ret rm K nS nE Γ) {v u : Value} (hv : v.category = 1) (hu : u.category = 1) (d : decode cc pc = .ok (.dup2, 1)) (k : cr_V Γ (pc + 1) ls (v :: u :: v :: u :: st) I R n) : cr_V Γ pc ls (v :: u :: st) I R n := by
  obtain ⟨⟨p, l, e, Rm, s, m, args, below, meth, c⟩, Q, D, g, ad, base, n0⟩ := Γ
  obtain ⟨hx, hb, hml, hown, hts, hK, hST, hlk, hrt, hA, hs0, hQ, hrm, hnm, hn0⟩ := h
  intro H locs la hP hz hS hl
  exact lv_dup2_11 hx hb d (by rw [cr_tr_cat]; exact hv) (by rw [cr_tr_cat]; exact hu) (k H locs la hP hz hS hl)
theorem cr_if_eq (h : cr_Ok y cc nL ret rm K nS nE Γ) {x0 : Int32} {off : Int} {tgt : Nat} (ht : (pc : Int) + off = (tgt : Int)) (d : decode cc pc = .ok (.ifCond .eq off, 3)) (kt : x0 = 0 → cr_V Γ tgt ls st I R n) (kf : ¬ x0 = 0 → cr_V Γ (pc + 3) ls st I R n) : cr_V Γ pc ls (.int x0 :: st) I R n := by
  obtain ⟨⟨p, l, e, Rm, s, m, args, below, meth, c⟩, Q, D, g, ad, base, n0⟩ := Γ
  obtain ⟨hx, hb, hml, hown, hts, hK, hST, hlk, hrt, hA, hs0, hQ, hrm, hnm, hn0⟩ := h
  intro H locs la hP hz hS hl
  exact lv_if_eq hx hb d ht (fun q => kt q H locs la hP hz hS hl) (fun q => kf q H locs la hP hz hS hl)
theorem cr_icmp_eq (h : cr_Ok y cc nL ret rm K nS nE Γ) {x0 y0 : Int32} {off : Int} {tgt : Nat} (ht : (pc : Int) + off = (tgt : Int)) (d : decode cc pc = .ok (.if_icmp .eq off, 3)) (kt : x0 = y0 → cr_V Γ tgt ls st I R n) (kf : ¬ x0 = y0 → cr_V Γ (pc + 3) ls st I R n) : cr_V Γ pc ls (.int y0 :: .int x0 :: st) I R n := by
  obtain ⟨⟨p, l, e, Rm, s, m, args, below, meth, c⟩, Q, D, g, ad, base, n0⟩ := Γ
  obtain ⟨hx, hb, hml, hown, hts, hK, hST, hlk, hrt, hA, hs0, hQ, hrm, hnm, hn0⟩ := h
  intro H locs la hP hz hS hl
  exact lv_icmp_eq hx hb d ht (fun q => kt q H locs la hP hz hS hl) (fun q => kf q H locs la hP hz hS hl)
theorem cr_if_ne (h : cr_Ok y cc nL ret rm K nS nE Γ) {x0 : Int32} {off : Int} {tgt : Nat} (ht : (pc : Int) + off = (tgt : Int)) (d : decode cc pc = .ok (.ifCond .ne off, 3)) (kt : ¬ x0 = 0 → cr_V Γ tgt ls st I R n) (kf : x0 = 0 → cr_V Γ (pc + 3) ls st I R n) : cr_V Γ pc ls (.int x0 :: st) I R n := by
  obtain ⟨⟨p, l, e, Rm, s, m, args, below, meth, c⟩, Q, D, g, ad, base, n0⟩ := Γ
  obtain ⟨hx, hb, hml, hown, hts, hK, hST, hlk, hrt, hA, hs0, hQ, hrm, hnm, hn0⟩ := h
  intro H locs la hP hz hS hl
  exact lv_if_ne hx hb d ht (fun q => kt q H locs la hP hz hS hl) (fun q => kf q H locs la hP hz hS hl)
theorem cr_icmp_ne (h : cr_Ok y cc nL ret rm K nS nE Γ) {x0 y0 : Int32} {off : Int} {tgt : Nat} (ht : (pc : Int) + off = (tgt : Int)) (d : decode cc pc = .ok (.if_icmp .ne off, 3)) (kt : ¬ x0 = y0 → cr_V Γ tgt ls st I R n) (kf : x0 = y0 → cr_V Γ (pc + 3) ls st I R n) : cr_V Γ pc ls (.int y0 :: .int x0 :: st) I R n := by
  obtain ⟨⟨p, l, e, Rm, s, m, args, below, meth, c⟩, Q, D, g, ad, base, n0⟩ := Γ
  obtain ⟨hx, hb, hml, hown, hts, hK, hST, hlk, hrt, hA, hs0, hQ, hrm, hnm, hn0⟩ := h
  intro H locs la hP hz hS hl
  exact lv_icmp_ne hx hb d ht (fun q => kt q H locs la hP hz hS hl) (fun q => kf q H locs la hP hz hS hl)
theorem cr_if_lt (h : cr_Ok y cc nL ret rm K nS nE Γ) {x0 : Int32} {off : Int} {tgt : Nat} (ht : (pc : Int) + off = (tgt : Int)) (d : decode cc pc = .ok (.ifCond .lt off, 3)) (kt : x0 < 0 → cr_V Γ tgt ls st I R n) (kf : ¬ x0 < 0 → cr_V Γ (pc + 3) ls st I R n) : cr_V Γ pc ls (.int x0 :: st) I R n := by
  obtain ⟨⟨p, l, e, Rm, s, m, args, below, meth, c⟩, Q, D, g, ad, base, n0⟩ := Γ
  obtain ⟨hx, hb, hml, hown, hts, hK, hST, hlk, hrt, hA, hs0, hQ, hrm, hnm, hn0⟩ := h
  intro H locs la hP hz hS hl
  exact lv_if_lt hx hb d ht (fun q => kt q H locs la hP hz hS hl) (fun q => kf q H locs la hP hz hS hl)
theorem cr_icmp_lt (h : cr_Ok y cc nL ret rm K nS nE Γ) {x0 y0 : Int32} {off : Int} {tgt : Nat} (ht : (pc : Int) + off = (tgt : Int)) (d : decode cc pc = .ok (.if_icmp .lt off, 3)) (kt : x0 < y0 → cr_V Γ tgt ls st I R n) (kf : ¬ x0 < y0 → cr_V Γ (pc + 3) ls st I R n) : cr_V Γ pc ls (.int y0 :: .int x0 :: st) I R n := by
  obtain ⟨⟨p, l, e, Rm, s, m, args, below, meth, c⟩, Q, D, g, ad, base, n0⟩ := Γ
  obtain ⟨hx, hb, hml, hown, hts, hK, hST, hlk, hrt, hA, hs0, hQ, hrm, hnm, hn0⟩ := h
  intro H locs la hP hz hS hl
  exact lv_icmp_lt hx hb d ht (fun q => kt q H locs la hP hz hS hl) (fun q => kf q H locs la hP hz hS hl)
theorem cr_if_ge (h : cr_Ok y cc nL ret rm K nS nE Γ) {x0 : Int32} {off : Int} {tgt : Nat} (ht : (pc : Int) + off = (tgt : Int)) (d : decode cc pc = .ok (.ifCond .ge off, 3)) (kt : 0 ≤ x0 → cr_V Γ tgt ls st I R n) (kf : ¬ 0 ≤ x0 → cr_V Γ (pc + 3) ls st I R n) : cr_V Γ pc ls (.int x0 :: st) I R n := by
  obtain ⟨⟨p, l, e, Rm, s, m, args, below, meth, c⟩, Q, D, g, ad, base, n0⟩ := Γ
  obtain ⟨hx, hb, hml, hown, hts, hK, hST, hlk, hrt, hA, hs0, hQ, hrm, hnm, hn0⟩ := h
  intro H locs la hP hz hS hl
  exact lv_if_ge hx hb d ht (fun q => kt q H locs la hP hz hS hl) (fun q => kf q H locs la hP hz hS hl)
theorem cr_icmp_ge (h : cr_Ok y cc nL ret rm K nS nE Γ) {x0 y0 : Int32} {off : Int} {tgt : Nat} (ht : (pc : Int) + off = (tgt : Int)) (d : decode cc pc = .ok (.if_icmp .ge off, 3)) (kt : y0 ≤ x0 → cr_V Γ tgt ls st I R n) (kf : ¬ y0 ≤ x0 → cr_V Γ (pc + 3) ls st I R n) : cr_V Γ pc ls (.int y0 :: .int x0 :: st) I R n := by
  obtain ⟨⟨p, l, e, Rm, s, m, args, below, meth, c⟩, Q, D, g, ad, base, n0⟩ := Γ
  obtain ⟨hx, hb, hml, hown, hts, hK, hST, hlk, hrt, hA, hs0, hQ, hrm, hnm, hn0⟩ := h
  intro H locs la hP hz hS hl
  exact lv_icmp_ge hx hb d ht (fun q => kt q H locs la hP hz hS hl) (fun q => kf q H locs la hP hz hS hl)
theorem cr_if_gt (h : cr_Ok y cc nL ret rm K nS nE Γ) {x0 : Int32} {off : Int} {tgt : Nat} (ht : (pc : Int) + off = (tgt : Int)) (d : decode cc pc = .ok (.ifCond .gt off, 3)) (kt : 0 < x0 → cr_V Γ tgt ls st I R n) (kf : ¬ 0 < x0 → cr_V Γ (pc + 3) ls st I R n) : cr_V Γ pc ls (.int x0 :: st) I R n := by
  obtain ⟨⟨p, l, e, Rm, s, m, args, below, meth, c⟩, Q, D, g, ad, base, n0⟩ := Γ
  obtain ⟨hx, hb, hml, hown, hts, hK, hST, hlk, hrt, hA, hs0, hQ, hrm, hnm, hn0⟩ := h
  intro H locs la hP hz hS hl
  exact lv_if_gt hx hb d ht (fun q => kt q H locs la hP hz hS hl) (fun q => kf q H locs la hP hz hS hl)
theorem cr_icmp_gt (h : cr_Ok y cc nL ret rm K nS nE Γ) {x0 y0 : Int32} {off : Int} {tgt : Nat} (ht : (pc : Int) + off = (tgt : Int)) (d : decode cc pc = .ok (.if_icmp .gt off, 3)) (kt : y0 < x0 → cr_V Γ tgt ls st I R n) (kf : ¬ y0 < x0 → cr_V Γ (pc + 3) ls st I R n) : cr_V Γ pc ls (.int y0 :: .int x0 :: st) I R n := by
  obtain ⟨⟨p, l, e, Rm, s, m, args, below, meth, c⟩, Q, D, g, ad, base, n0⟩ := Γ
  obtain ⟨hx, hb, hml, hown, hts, hK, hST, hlk, hrt, hA, hs0, hQ, hrm, hnm, hn0⟩ := h
  intro H locs la hP hz hS hl
  exact lv_icmp_gt hx hb d ht (fun q => kt q H locs la hP hz hS hl) (fun q => kf q H locs la hP hz hS hl)
theorem cr_if_le (h : cr_Ok y cc nL ret rm K nS nE Γ) {x0 : Int32} {off : Int} {tgt : Nat} (ht : (pc : Int) + off = (tgt : Int)) (d : decode cc pc = .ok (.ifCond .le off, 3)) (kt : x0 ≤ 0 → cr_V Γ tgt ls st I R n) (kf : ¬ x0 ≤ 0 → cr_V Γ (pc + 3) ls st I R n) : cr_V Γ pc ls (.int x0 :: st) I R n := by
  obtain ⟨⟨p, l, e, Rm, s, m, args, below, meth, c⟩, Q, D, g, ad, base, n0⟩ := Γ
  obtain ⟨hx, hb, hml, hown, hts, hK, hST, hlk, hrt, hA, hs0, hQ, hrm, hnm, hn0⟩ := h
  intro H locs la hP hz hS hl
  exact lv_if_le hx hb d ht (fun q => kt q H locs la hP hz hS hl) (fun q => kf q H locs la hP hz hS hl)
theorem cr_icmp_le (h : cr_Ok y cc nL ret rm K nS nE Γ) {x0 y0 : Int32} {off : Int} {tgt : Nat} (ht : (pc : Int) + off = (tgt : Int)) (d : decode cc pc = .ok (.if_icmp .le off, 3)) (kt : x0 ≤ y0 → cr_V Γ tgt ls st I R n) (kf : ¬ x0 ≤ y0 → cr_V Γ (pc + 3) ls st I R n) : cr_V Γ pc ls (.int y0 :: .int x0 :: st) I R n := by
  obtain ⟨⟨p, l, e, Rm, s, m, args, below, meth, c⟩, Q, D, g, ad, base, n0⟩ := Γ
  obtain ⟨hx, hb, hml, hown, hts, hK, hST, hlk, hrt, hA, hs0, hQ, hrm, hnm, hn0⟩ := h
  intro H locs la hP hz hS hl
  exact lv_icmp_le hx hb d ht (fun q => kt q H locs la hP hz hS hl) (fun q => kf q H locs la hP hz hS hl)
theorem cr_goto (h : cr_Ok y cc nL ret rm K nS nE Γ) {off : Int} {tgt : Nat} (ht : (pc : Int) + off = (tgt : Int)) (d : decode cc pc = .ok (.goto off, 3)) (k : cr_V Γ tgt ls st I R n) : cr_V Γ pc ls st I R n := by
  obtain ⟨⟨p, l, e, Rm, s, m, args, below, meth, c⟩, Q, D, g, ad, base, n0⟩ := Γ
  obtain ⟨hx, hb, hml, hown, hts, hK, hST, hlk, hrt, hA, hs0, hQ, hrm, hnm, hn0⟩ := h
  intro H locs la hP hz hS hl
  exact lv_goto hx hb d ht (k H locs la hP hz hS hl)
theorem cr_swOut (h : cr_Ok y cc nL ret rm K nS nE Γ) {dflt lo hi : Int} {offs : Array Int} {len : Nat} {x0 : Int32} {tgt : Nat} (hr : x0.toInt < lo ∨ hi < x0.toInt) (ht : (pc : Int) + dflt = (tgt : Int)) (d : decode cc pc = .ok (.tableswitch dflt lo hi offs, len)) (k : cr_V Γ tgt ls st I R n) : cr_V Γ pc ls (.int x0 :: st) I R n := by
  obtain ⟨⟨p, l, e, Rm, s, m, args, below, meth, c⟩, Q, D, g, ad, base, n0⟩ := Γ
  obtain ⟨hx, hb, hml, hown, hts, hK, hST, hlk, hrt, hA, hs0, hQ, hrm, hnm, hn0⟩ := h
  intro H locs la hP hz hS hl
  exact lv_tableOut hx hb d hr ht (k H locs la hP hz hS hl)
theorem cr_swIn (h : cr_Ok y cc nL ret rm K nS nE Γ) {dflt lo hi : Int} {offs : Array Int} {len : Nat} {x0 : Int32} {off : Int} {tgt : Nat} (h1 : ¬ x0.toInt < lo) (h2 : ¬ hi < x0.toInt) (ho : offs[(x0.toInt - lo).toNat]? = some off) (ht : (pc : Int) + off = (tgt : Int)) (d : decode cc pc = .ok (.tableswitch dflt lo hi offs, len)) (k : cr_V Γ tgt ls st I R n) : cr_V Γ pc ls (.int x0 :: st) I R n := by
  obtain ⟨⟨p, l, e, Rm, s, m, args, below, meth, c⟩, Q, D, g, ad, base, n0⟩ := Γ
  obtain ⟨hx, hb, hml, hown, hts, hK, hST, hlk, hrt, hA, hs0, hQ, hrm, hnm, hn0⟩ := h
  intro H locs la hP hz hS hl
  exact lv_tableIn hx hb d h1 h2 ho ht (k H locs la hP hz hS hl)
theorem cr_iret (h : cr_Ok y cc nL ret rm K nS nE Γ) {x0 : Int32} {ty : FieldType} (hr : ret = some ty) (hn : narrow ty (.int x0) = .int x0) (he : n = nE) (d : decode cc pc = .ok (.ireturn, 1)) (k : K (some (.int x0)) I R) : cr_V Γ pc ls [.int x0] I R n := by
  obtain ⟨⟨p, l, e, Rm, s, m, args, below, meth, c⟩, Q, D, g, ad, base, n0⟩ := Γ
  obtain ⟨hx, hb, hml, hown, hts, hK, hST, hlk, hrt, hA, hs0, hQ, hrm, hnm, hn0⟩ := h
  intro H locs la hP hz hS hl
  subst he
  subst hQ
  exact W.zret hx hb (hrt.trans hr) hn (fun t ht hW => ⟨⟨some (.int x0), I, R, rfl, k, by rw [ht]; exact hP, by rw [ht]; exact hz⟩, hS.F ht⟩) hS.2.2 d hlk
theorem cr_aret (h : cr_Ok y cc nL ret rm K nS nE Γ) {x0 : Nat} {rt : FieldType} (hr : ret = some rt) (hrt0 : (∃ n, rt = .object n) ∨ ∃ t, rt = .array t) (he : n = nE) (d : decode cc pc = .ok (.areturn, 1)) (k : K (some (.ref x0)) I R) : cr_V Γ pc ls [.ref x0] I R n := by
  obtain ⟨⟨p, l, e, Rm, s, m, args, below, meth, c⟩, Q, D, g, ad, base, n0⟩ := Γ
  obtain ⟨hx, hb, hml, hown, hts, hK, hST, hlk, hrt, hA, hs0, hQ, hrm, hnm, hn0⟩ := h
  intro H locs la hP hz hS hl
  subst he
  subst hQ
  exact W.aret hx hb (hrt.trans hr) hrt0 (Or.inr ⟨ad x0, rfl⟩) (fun t ht hW => ⟨⟨some (.ref x0), I, R, rfl, k, by rw [ht]; exact hP, by rw [ht]; exact hz⟩, hS.F ht⟩) hS.2.2 d hlk
theorem cr_vret (h : cr_Ok y cc nL ret rm K nS nE Γ) (hr : ret = none) (he : n = nE) (d : decode cc pc = .ok (.return_, 1)) (k : K none I R) : cr_V Γ pc ls [] I R n := by
  obtain ⟨⟨p, l, e, Rm, s, m, args, below, meth, c⟩, Q, D, g, ad, base, n0⟩ := Γ
  obtain ⟨hx, hb, hml, hown, hts, hK, hST, hlk, hrt, hA, hs0, hQ, hrm, hnm, hn0⟩ := h
  intro H locs la hP hz hS hl
  subst he
  subst hQ
  exact W.vret hx hb (hrt.trans hr) (fun t ht hW => ⟨⟨none, I, R, rfl, k, by rw [ht]; exact hP, by rw [ht]; exact hz⟩, hS.F ht⟩) hS.2.2 d hlk
end CRR
end
section
theorem cr_sl_mono {a b : Nat} (h : a ≤ b) : cr_sl a ≤ cr_sl b := by
  induction b with
  | zero => rw [Nat.le_zero.mp h]; exact Nat.le_refl _
  | succ b ih =>
    rcases Nat.lt_or_ge a (b + 1) with q | q
    · refine Nat.le_trans (ih (by omega)) ?_
      unfold cr_sl
      rw [List.take_succ]
      simp
    · rw [show a = b + 1 by omega]; exact Nat.le_refl _
theorem cr_ce_obj {ad : Nat → Nat} {g : cr_g} {I : cr_I} {R : cr_R} {b c N : Nat} (h : cr_kd b = (c + 3, N)) : cr_ce ad g I R b = .inr (c, cr_fs ad I R c N b) := by simp only [cr_ce, h]
theorem cr_ce_int {ad : Nat → Nat} {g : cr_g} {I : cr_I} {R : cr_R} {b N : Nat} (h : cr_kd b = (0, N)) : cr_ce ad g I R b = .inl (g.1, N, .inl (I b)) := by simp only [cr_ce, h]
theorem cr_ce_row {ad : Nat → Nat} {g : cr_g} {I : cr_I} {R : cr_R} {b N : Nat} (h : cr_kd b = (1, N)) : cr_ce ad g I R b = .inl (g.2.1, N, .inr (.inr (.inr (.inr (fun j => (R b j).map ad))))) := by simp only [cr_ce, h]
theorem cr_ce_mak {ad : Nat → Nat} {g : cr_g} {I : cr_I} {R : cr_R} {b N : Nat} (h : cr_kd b = (2, N)) : cr_ce ad g I R b = .inl (g.2.2, N, .inr (.inr (.inr (.inr (fun j => (R b j).map ad))))) := by simp only [cr_ce, h]
theorem cr_vin {i : Int32} {N : Nat} (h0 : 0 ≤ i.toInt) (h1 : i.toInt < N) : vp_in i N := vp_in_iff.mpr ⟨h0, h1⟩
/-- a class of the world by its number -/
def cr_cls (c : Nat) (C : String) (T : u_T) (N : Nat) (ty : Nat → FieldType) : Prop := cr_cl[c]? = some (C, T, N) ∧ (∀ w ∈ u_ws C T N, w ∈ cr_GW) ∧ (∀ k, k < N → parseFieldDescriptor (T k).2.2.1 = some (ty k)) ∧ ∀ a, a < N → ∀ b, b < N → a ≠ b → (T a).2.1 ≠ (T b).2.1
theorem cr_clsX0 : cr_cls 0 RX0 TX0 9 tyX0 := ⟨rfl, cr_inX0, tyX0_ok, nmX0⟩
theorem cr_clsX1 : cr_cls 1 RX1 TX1 8 tyX1 := ⟨rfl, cr_inX1, tyX1_ok, nmX1⟩
theorem cr_clsX2 : cr_cls 2 RX2 TX2 5 tyX2 := ⟨rfl, cr_inX2, tyX2_ok, nmX2⟩
theorem cr_clsX3 : cr_cls 3 RX3 TX3 17 tyX3 := ⟨rfl, cr_inX3, tyX3_ok, nmX3⟩
theorem cr_clsX4 : cr_cls 4 RX4 TX4 10 tyX4 := ⟨rfl, cr_inX4, tyX4_ok, nmX4⟩
theorem cr_clsX5 : cr_cls 5 RX5 TX5 1 tyX5 := ⟨rfl, cr_inX5, tyX5_ok, nmX5⟩
theorem cr_clsX6 : cr_cls 6 RX6 TX6 6 tyX6 := ⟨rfl, cr_inX6, tyX6_ok, nmX6⟩
theorem cr_clsX7 : cr_cls 7 RX7 TX7 5 tyX7 := ⟨rfl, cr_inX7, tyX7_ok, nmX7⟩
theorem cr_clsX8 : cr_cls 8 RX8 TX8 6 tyX8 := ⟨rfl, cr_inX8, tyX8_ok, nmX8⟩
theorem cr_clsX9 : cr_cls 9 RX9 TX9 65 tyX9 := ⟨rfl, cr_inX9, tyX9_ok, nmX9⟩
section CRH
variable {y : MethodName} {cc : ByteArray} {nL : Nat} {ret : Option FieldType} {rm : Room} {K : cr_K} {nS nE : Nat} {Γ : cr_G} {pc : Nat} {ls st : List Value} {I : cr_I} {R : cr_R} {n : Nat}
theorem cr_getI (h : cr_Ok y cc nL ret rm K nS nE Γ) {i b k c0 N : Nat} {C : String} {T : u_T} {ty : Nat → FieldType} (hc : cr_cls c0 C T N ty) (hk : k < N) (hf : cr_fi c0 k = true) (hT : (T k).1 = C) (hw : Cond.fieldLink y.cls i C (T k).2.1 (T k).2.2.1 ∈ cr_GW) (hbn : b < n) (hkd : cr_kd b = (c0 + 3, N)) (d : decode cc pc = .ok (.getfield i, 3)) (k1 : cr_V Γ (pc + 3) ls (.int (I b k) :: st) I R n) : cr_V Γ pc ls (.ref b :: st) I R n := by
  obtain ⟨⟨p, l, e, Rm, s, m, args, below, meth, c⟩, Q, D, g, ad, base, n0⟩ := Γ
  obtain ⟨hx, hb, hml, hown, hts, hK, hST, hlk, hrt, hA, hs0, hQ, hrm, hnm, hn0⟩ := h
  intro H locs la hP hz hS hl
  exact va_get (D := D) (C := C) (T := T) (N := N) hx hb hts hc.2.1 hown hK hP b (by rw [cr_wd_at hbn, cr_ce_obj hkd]) hc.1 k hk (hts _ hw) (fun x hx => by rw [hT] at hx; exact hx) (v := .int (I b k)) (by rw [cr_fs_at hk, if_pos hf]) d (k1 H locs la hP hz hS hl)
theorem cr_getR (h : cr_Ok y cc nL ret rm K nS nE Γ) {i b k c0 N x : Nat} {C : String} {T : u_T} {ty : Nat → FieldType} (hc : cr_cls c0 C T N ty) (hk : k < N) (hf : cr_fi c0 k = false) (hT : (T k).1 = C) (hw : Cond.fieldLink y.cls i C (T k).2.1 (T k).2.2.1 ∈ cr_GW) (hbn : b < n) (hkd : cr_kd b = (c0 + 3, N)) (hR : R b k = some x) (d : decode cc pc = .ok (.getfield i, 3)) (k1 : cr_V Γ (pc + 3) ls (.ref x :: st) I R n) : cr_V Γ pc ls (.ref b :: st) I R n := by
  obtain ⟨⟨p, l, e, Rm, s, m, args, below, meth, c⟩, Q, D, g, ad, base, n0⟩ := Γ
  obtain ⟨hx, hb, hml, hown, hts, hK, hST, hlk, hrt, hA, hs0, hQ, hrm, hnm, hn0⟩ := h
  intro H locs la hP hz hS hl
  exact va_get (D := D) (C := C) (T := T) (N := N) hx hb hts hc.2.1 hown hK hP b (by rw [cr_wd_at hbn, cr_ce_obj hkd]) hc.1 k hk (hts _ hw) (fun x hx => by rw [hT] at hx; exact hx) (v := .ref (ad x)) (by rw [cr_fs_at hk, if_neg (by rw [hf]; decide), hR]; rfl) d (k1 H locs la hP hz hS hl)
theorem cr_put0 {D : va_G} {g : cr_g} {ad : Nat → Nat} {p : Program} {l : Launch} {e : Env} {Rm : Room} {s : State} {m : MethodId} {args : Array Value} {below : List Frame} {meth : Method} {c : Code} {Q : State → Prop} {base : Nat} {H : Heap} {locs : List Loc} {la : Array Slot} {cells slots : Nat} {rest : List Value} {own : String}
    (hx : p.tables.exec = Jvm.exec) (hb : c.code = cc) (hown : s.vm.findClass own = some m.cls) (hts : ∀ w ∈ cr_GW, w.before args s = true) (hK : va_K D cr_cl (cr_ty g) s) (hA : cr_ad ad base) (hP : va_P D cr_cl (cr_wd ad g I R n) H) (hS : va_S (fun q => base ≤ q) s.heap H locs)
    {i b k c0 N : Nat} {C : String} {T : u_T} {ty : Nat → FieldType} {v : Value} {I' : cr_I} {R' : cr_R} (hc : cr_cls c0 C T N ty) (hk : k < N) (hT : (T k).1 = C) (hfin : (T k).2.2.2 = false ∨ ((T k).2.2.2 = true ∧ meth.name = "<init>" ∧ C = own)) (hw : Cond.fieldLink own i C (T k).2.1 (T k).2.2.1 ∈ cr_GW) (hbn : b < n) (hnn : n ≤ 1000) (hkd : cr_kd b = (c0 + 3, N))
    (hn : narrow (ty k) v = v) (hfit : fits (ty k) v = true) (hset : (cr_fs ad I R c0 N b).set k v = cr_fs ad I' R' c0 N b) (hoth : ∀ x, x < n → x ≠ b → cr_ce ad g I' R' x = cr_ce ad g I R x) (d : decode cc pc = .ok (.putfield i, 3))
    (kk : ∀ (H1 : Heap) (locs1 : List Loc), va_P D cr_cl (cr_wd ad g I' R' n) H1 → H1.size = H.size → va_S (fun q => base ≤ q) s.heap H1 locs1 → W p l e Rm s m args below meth c H1 locs1 cells slots Q (F0 m (pc + 3) la rest)) : W p l e Rm s m args below meth c H locs cells slots Q (F0 m pc la (v :: .ref (ad b) :: rest)) := by
  obtain ⟨hcl, hin, hty, hnmz⟩ := hc
  have hap := va_apart (own := own) hts hin ty hty hnmz hK hcl
  have hD := cr_wd_D (g := g) (I := I) (R := R) hA hnn
  have he : (cr_wd ad g I R n)[b]? = some (ad b, .inr (c0, cr_fs ad I R c0 N b)) := by rw [cr_wd_at hbn, cr_ce_obj hkd]
  obtain ⟨r, h1, cell, q1, q2, q3, q4⟩ := hP b _ he
  have hr : r = (C, T, N) := Option.some.inj (h1.symm.trans hcl)
  subst hr
  obtain ⟨hSl, hfc, kC, hkC, hkind⟩ := hK.1 c0 _ hcl
  obtain ⟨cf, kf, fi, f, hi, hsl⟩ := hSl k hk
  have hlay := hts _ (hin _ (u_in_lay hk))
  have hst := (u_facts hfc hkC (u_lays hts hin hk) hi).1
  have hlinkf : s.fieldFound? C (T k).2.1 (T k).2.2.1 = some (cf, kf, fi, f) := by rw [← hT]; exact hi
  have fin : ∀ (H' : Heap) (locs' : List Loc), H'[ad b]? = some (cell.setSlot f.slot v) → H'.size = H.size → (∀ q : Nat, q ≠ ad b → H'[q]? = H[q]?) → locs' = locs ++ [⟨ad b, f.slot⟩] → W p l e Rm s m args below meth c H' locs' cells slots Q (F0 m (pc + 3) la rest) := by
    intro H' locs' e1 e2 e3 e4
    rw [hsl] at e1
    have hP' := hP.set hD he (e := .inr (c0, (cr_fs ad I R c0 N b).set k v)) ⟨_, hcl, t_OB.to (V := updV (vp_V (cr_fs ad I R c0 N b)) k v) ⟨_, e1, q2, q3, t_set q4 hap hk v⟩ (fun j _ => vp_updV_set (by rw [cr_fs_len]; exact hk) v j)⟩ e3
    rw [hset, ← cr_ce_obj (g := g) hkd, cr_wd_set hbn hoth] at hP'
    rw [e4]
    exact kk H' _ hP' e2 (hS.put e2 e3 (hD.2 b _ he))
  unfold u_lay at hlay
  rcases hfin with hf | ⟨hf, hin2, hco⟩
  · rw [if_neg (by rw [hf]; decide)] at hlay
    have h6 := u_store hfc hkC hkind hlay hi (hty k hk) hn hfit
    exact W.putK hx hb (f := f) ⟨hown, hts _ hw, ⟨_, _, _, hlinkf⟩, hst⟩ (by rw [q2]; exact h6) q1 q3 (by rw [hsl]; exact k2_hasslot (q4 k hk)) rfl rfl d fun H' e1 e2 e3 => fin H' _ e1 e2 e3 rfl
  · rw [if_pos hf] at hlay
    have hcf : m.cls = cf := by
      obtain ⟨_, _, c', _, _, _, -, -, hf', -, -, -, hown2, -⟩ := Cond.laysFinal_spec hlay
      have e1 : c' = cf := by have := hi.symm.trans hf'; simp at this; exact this.1.symm
      rw [hT, hco] at hown2
      rw [← e1]; exact Option.some.inj (hown.symm.trans hown2)
    have h6 := u_fits hfc hkC hkind (Or.inr hlay) hi (hty k hk) hn hfit
    exact W.putFinK hx hb hown (hts _ hw) hlinkf hst hcf hin2 (by rw [q2]; exact h6) q1 q3 (by rw [hsl]; exact k2_hasslot (q4 k hk)) rfl rfl d fun H' e1 e2 e3 => fin H' _ e1 e2 e3 rfl
theorem cr_putI (h : cr_Ok y cc nL ret rm K nS nE Γ) {i b k c0 N : Nat} {C : String} {T : u_T} {ty : Nat → FieldType} {x0 : Int32} (hc : cr_cls c0 C T N ty) (hk : k < N) (hf : cr_fi c0 k = true) (hty : ty k = .int) (hT : (T k).1 = C) (hfin : (T k).2.2.2 = false) (hw : Cond.fieldLink y.cls i C (T k).2.1 (T k).2.2.1 ∈ cr_GW) (hbn : b < n) (hnn : n ≤ 1000) (hkd : cr_kd b = (c0 + 3, N)) (d : decode cc pc = .ok (.putfield i, 3)) (k1 : cr_V Γ (pc + 3) ls st (cr_up I b k x0) R n) : cr_V Γ pc ls (.int x0 :: .ref b :: st) I R n := by
  obtain ⟨⟨p, l, e, Rm, s, m, args, below, meth, c⟩, Q, D, g, ad, base, n0⟩ := Γ
  obtain ⟨hx, hb, hml, hown, hts, hK, hST, hlk, hrt, hA, hs0, hQ, hrm, hnm, hn0⟩ := h
  intro H locs la hP hz hS hl
  exact cr_put0 (I' := cr_up I b k x0) (R' := R) (v := .int x0) hx hb hown hts hK hA hP hS hc hk hT (Or.inl hfin) hw hbn hnn hkd (by rw [hty]; rfl) (by rw [hty]; rfl) (cr_fs_upI hf) (fun x _ hx => cr_ce_upI hx) d (fun H1 locs1 hP1 z1 hS1 => k1 H1 locs1 la hP1 (fun q => z1.trans (hz q)) hS1 hl)
theorem cr_putR (h : cr_Ok y cc nL ret rm K nS nE Γ) {i b k c0 N x : Nat} {C : String} {T : u_T} {ty : Nat → FieldType} (hc : cr_cls c0 C T N ty) (hk : k < N) (hf : cr_fi c0 k = false) (hty : (∃ q, ty k = .object q) ∨ ∃ q, ty k = .array q) (hT : (T k).1 = C) (hfin : (T k).2.2.2 = false) (hw : Cond.fieldLink y.cls i C (T k).2.1 (T k).2.2.1 ∈ cr_GW) (hbn : b < n) (hnn : n ≤ 1000) (hkd : cr_kd b = (c0 + 3, N)) (d : decode cc pc = .ok (.putfield i, 3)) (k1 : cr_V Γ (pc + 3) ls st I (cr_up R b k (some x)) n) : cr_V Γ pc ls (.ref x :: .ref b :: st) I R n := by
  obtain ⟨⟨p, l, e, Rm, s, m, args, below, meth, c⟩, Q, D, g, ad, base, n0⟩ := Γ
  obtain ⟨hx, hb, hml, hown, hts, hK, hST, hlk, hrt, hA, hs0, hQ, hrm, hnm, hn0⟩ := h
  intro H locs la hP hz hS hl
  exact cr_put0 (I' := I) (R' := cr_up R b k (some x)) (v := .ref (ad x)) hx hb hown hts hK hA hP hS hc hk hT (Or.inl hfin) hw hbn hnn hkd (by rcases hty with ⟨q, e⟩ | ⟨q, e⟩ <;> rw [e] <;> rfl) (by rcases hty with ⟨q, e⟩ | ⟨q, e⟩ <;> rw [e] <;> rfl) (cr_fs_upR hf) (fun x _ hx => cr_ce_upR hx) d (fun H1 locs1 hP1 z1 hS1 => k1 H1 locs1 la hP1 (fun q => z1.trans (hz q)) hS1 hl)
theorem cr_putIF (h : cr_Ok y cc nL ret rm K nS nE Γ) {i b k c0 N : Nat} {C : String} {T : u_T} {ty : Nat → FieldType} {x0 : Int32} (hc : cr_cls c0 C T N ty) (hk : k < N) (hf : cr_fi c0 k = true) (hty : ty k = .int) (hT : (T k).1 = C) (hfin : (T k).2.2.2 = true) (hin0 : y.name = "<init>") (hco : C = y.cls) (hw : Cond.fieldLink y.cls i C (T k).2.1 (T k).2.2.1 ∈ cr_GW) (hbn : b < n) (hnn : n ≤ 1000) (hkd : cr_kd b = (c0 + 3, N)) (d : decode cc pc = .ok (.putfield i, 3)) (k1 : cr_V Γ (pc + 3) ls st (cr_up I b k x0) R n) : cr_V Γ pc ls (.int x0 :: .ref b :: st) I R n := by
  obtain ⟨⟨p, l, e, Rm, s, m, args, below, meth, c⟩, Q, D, g, ad, base, n0⟩ := Γ
  obtain ⟨hx, hb, hml, hown, hts, hK, hST, hlk, hrt, hA, hs0, hQ, hrm, hnm, hn0⟩ := h
  intro H locs la hP hz hS hl
  exact cr_put0 (I' := cr_up I b k x0) (R' := R) (v := .int x0) hx hb hown hts hK hA hP hS hc hk hT (Or.inr ⟨hfin, hnm.trans hin0, hco⟩) hw hbn hnn hkd (by rw [hty]; rfl) (by rw [hty]; rfl) (cr_fs_upI hf) (fun x _ hx => cr_ce_upI hx) d (fun H1 locs1 hP1 z1 hS1 => k1 H1 locs1 la hP1 (fun q => z1.trans (hz q)) hS1 hl)
theorem cr_putRF (h : cr_Ok y cc nL ret rm K nS nE Γ) {i b k c0 N x : Nat} {C : String} {T : u_T} {ty : Nat → FieldType} (hc : cr_cls c0 C T N ty) (hk : k < N) (hf : cr_fi c0 k = false) (hty : (∃ q, ty k = .object q) ∨ ∃ q, ty k = .array q) (hT : (T k).1 = C) (hfin : (T k).2.2.2 = true) (hin0 : y.name = "<init>") (hco : C = y.cls) (hw : Cond.fieldLink y.cls i C (T k).2.1 (T k).2.2.1 ∈ cr_GW) (hbn : b < n) (hnn : n ≤ 1000) (hkd : cr_kd b = (c0 + 3, N)) (d : decode cc pc = .ok (.putfield i, 3)) (k1 : cr_V Γ (pc + 3) ls st I (cr_up R b k (some x)) n) : cr_V Γ pc ls (.ref x :: .ref b :: st) I R n := by
  obtain ⟨⟨p, l, e, Rm, s, m, args, below, meth, c⟩, Q, D, g, ad, base, n0⟩ := Γ
  obtain ⟨hx, hb, hml, hown, hts, hK, hST, hlk, hrt, hA, hs0, hQ, hrm, hnm, hn0⟩ := h
  intro H locs la hP hz hS hl
  exact cr_put0 (I' := I) (R' := cr_up R b k (some x)) (v := .ref (ad x)) hx hb hown hts hK hA hP hS hc hk hT (Or.inr ⟨hfin, hnm.trans hin0, hco⟩) hw hbn hnn hkd (by rcases hty with ⟨q, e⟩ | ⟨q, e⟩ <;> rw [e] <;> rfl) (by rcases hty with ⟨q, e⟩ | ⟨q, e⟩ <;> rw [e] <;> rfl) (cr_fs_upR hf) (fun x _ hx => cr_ce_upR hx) d (fun H1 locs1 hP1 z1 hS1 => k1 H1 locs1 la hP1 (fun q => z1.trans (hz q)) hS1 hl)
theorem cr_iald (h : cr_Ok y cc nL ret rm K nS nE Γ) {b N : Nat} {i : Int32} (hbn : b < n) (hkd : cr_kd b = (0, N)) (h0 : 0 ≤ i.toInt ∧ i.toInt < N) (d : decode cc pc = .ok (.iaload, 1)) (k1 : cr_V Γ (pc + 1) ls (.int (I b i.toNatClampNeg) :: st) I R n) : cr_V Γ pc ls (.int i :: .ref b :: st) I R n := by
  obtain ⟨⟨p, l, e, Rm, s, m, args, below, meth, c⟩, Q, D, g, ad, base, n0⟩ := Γ
  obtain ⟨hx, hb, hml, hown, hts, hK, hST, hlk, hrt, hA, hs0, hQ, hrm, hnm, hn0⟩ := h
  intro H locs la hP hz hS hl
  exact va_iald (D := D) hx hb hK hP b 0 (by rw [cr_wd_at hbn, cr_ce_int hkd]) rfl (cr_vin h0.1 h0.2) d (k1 H locs la hP hz hS hl)
theorem cr_iast (h : cr_Ok y cc nL ret rm K nS nE Γ) {b N : Nat} {i x0 : Int32} (hbn : b < n) (hnn : n ≤ 1000) (hkd : cr_kd b = (0, N)) (h0 : 0 ≤ i.toInt ∧ i.toInt < N) (d : decode cc pc = .ok (.iastore, 1)) (k1 : cr_V Γ (pc + 1) ls st (cr_up I b i.toNatClampNeg x0) R n) : cr_V Γ pc ls (.int x0 :: .int i :: .ref b :: st) I R n := by
  obtain ⟨⟨p, l, e, Rm, s, m, args, below, meth, c⟩, Q, D, g, ad, base, n0⟩ := Γ
  obtain ⟨hx, hb, hml, hown, hts, hK, hST, hlk, hrt, hA, hs0, hQ, hrm, hnm, hn0⟩ := h
  intro H locs la hP hz hS hl
  have hD := cr_wd_D (g := g) (I := I) (R := R) hA hnn
  have he : (cr_wd ad g I R n)[b]? = some (ad b, .inl (g.1, N, .inl (I b))) := by rw [cr_wd_at hbn, cr_ce_int hkd]
  refine W.iast hx hb (hP b _ he) ((hK.2 0 _ rfl).1 N (fun j => .int (I b j))) (fun q => by cases q) (by show ¬ (i < 0 ∨ (arrV _ _ _).slots.size ≤ _); rw [arrV_size]; exact cr_vin h0.1 h0.2) rfl rfl d fun H1 e z oq => ?_
  have hP' := hP.set hD he (e := .inl (g.1, N, .inl (cr_up I b i.toNatClampNeg x0 b))) (by
    show H1[ad b]? = some (vp_cell _ _)
    rw [e, vp_cell_i, vp_cell_i, arrV_store]
    congr 2
    funext q
    by_cases hq : q = i.toNatClampNeg
    · subst hq
      simp [updV, cr_up]
    · simp [updV, cr_up, hq]) oq
  rw [← cr_ce_int (ad := ad) (g := g) (R := R) hkd, cr_wd_set hbn (fun x _ hx => cr_ce_upI hx)] at hP'
  exact k1 H1 _ la hP' (fun q => z.trans (hz q)) (hS.put z oq (hD.2 b _ he)) hl
theorem cr_aald (h : cr_Ok y cc nL ret rm K nS nE Γ) {b N x : Nat} {i : Int32} (hbn : b < n) (hkd : cr_kd b = (1, N)) (h0 : 0 ≤ i.toInt ∧ i.toInt < N) (hR : R b i.toNatClampNeg = some x) (d : decode cc pc = .ok (.aaload, 1)) (k1 : cr_V Γ (pc + 1) ls (.ref x :: st) I R n) : cr_V Γ pc ls (.int i :: .ref b :: st) I R n := by
  obtain ⟨⟨p, l, e, Rm, s, m, args, below, meth, c⟩, Q, D, g, ad, base, n0⟩ := Γ
  obtain ⟨hx, hb, hml, hown, hts, hK, hST, hlk, hrt, hA, hs0, hQ, hrm, hnm, hn0⟩ := h
  intro H locs la hP hz hS hl
  have hin := cr_vin h0.1 h0.2
  have hlt : i.toNatClampNeg < N := Nat.not_le.mp fun q => hin (Or.inr q)
  have he : (cr_wd ad g I R n)[b]? = some (ad b, .inl (g.2.1, N, .inr (.inr (.inr (.inr (fun j => (R b j).map ad)))))) := by rw [cr_wd_at hbn, cr_ce_row hkd]
  exact W.aald (v := .ref (ad x)) (ty := .array .int) hx hb (hP b _ he) ((hK.2 1 _ rfl).1 N (fun j => va_rf ((R b j).map ad))) rfl (fun q => by cases q) (by show ¬ (i < 0 ∨ (arrV _ _ _).slots.size ≤ _); rw [arrV_size]; exact hin) (by show (arrV _ _ _).slots[_]? = _; rw [arrV_read _ _ hlt]; simp only [hR]; rfl) rfl rfl d (k1 H locs la hP hz hS hl)
theorem cr_aaldM (h : cr_Ok y cc nL ret rm K nS nE Γ) {b N x : Nat} {i : Int32} (hbn : b < n) (hkd : cr_kd b = (2, N)) (h0 : 0 ≤ i.toInt ∧ i.toInt < N) (hR : R b i.toNatClampNeg = some x) (d : decode cc pc = .ok (.aaload, 1)) (k1 : cr_V Γ (pc + 1) ls (.ref x :: st) I R n) : cr_V Γ pc ls (.int i :: .ref b :: st) I R n := by
  obtain ⟨⟨p, l, e, Rm, s, m, args, below, meth, c⟩, Q, D, g, ad, base, n0⟩ := Γ
  obtain ⟨hx, hb, hml, hown, hts, hK, hST, hlk, hrt, hA, hs0, hQ, hrm, hnm, hn0⟩ := h
  intro H locs la hP hz hS hl
  have hin := cr_vin h0.1 h0.2
  have hlt : i.toNatClampNeg < N := Nat.not_le.mp fun q => hin (Or.inr q)
  have he : (cr_wd ad g I R n)[b]? = some (ad b, .inl (g.2.2, N, .inr (.inr (.inr (.inr (fun j => (R b j).map ad)))))) := by rw [cr_wd_at hbn, cr_ce_mak hkd]
  exact W.aald (v := .ref (ad x)) (ty := .object "CartRows$Make") hx hb (hP b _ he) ((hK.2 2 _ rfl).1 N (fun j => va_rf ((R b j).map ad))) rfl (fun q => by cases q) (by show ¬ (i < 0 ∨ (arrV _ _ _).slots.size ≤ _); rw [arrV_size]; exact hin) (by show (arrV _ _ _).slots[_]? = _; rw [arrV_read _ _ hlt]; simp only [hR]; rfl) rfl rfl d (k1 H locs la hP hz hS hl)
theorem cr_gets1000 (h : cr_Ok y cc nL ret rm K nS nE Γ) {i : Nat} (hw : Cond.fieldLink y.cls i "CartRows" "FACTORIALS" "[I" ∈ cr_GW) (d : decode cc pc = .ok (.getstatic i, 3)) (k1 : cr_V Γ (pc + 3) ls (.ref 1000 :: st) I R n) : cr_V Γ pc ls st I R n := by
  obtain ⟨⟨p, l, e, Rm, s, m, args, below, meth, c⟩, Q, D, g, ad, base, n0⟩ := Γ
  obtain ⟨hx, hb, hml, hown, hts, hK, hST, hlk, hrt, hA, hs0, hQ, hrm, hnm, hn0⟩ := h
  intro H locs la hP hz hS hl
  exact va_gets hx hb hST.1.1 hS hown (hts _ hw) (fun _ q => q) d (k1 H locs la hP hz hS hl)
theorem cr_sald1000 (h : cr_Ok y cc nL ret rm K nS nE Γ) {i : Int32} (h0 : 0 ≤ i.toInt ∧ i.toInt < 7) (d : decode cc pc = .ok (.iaload, 1)) (k1 : cr_V Γ (pc + 1) ls (.int (cr_tab 0 i.toNatClampNeg) :: st) I R n) : cr_V Γ pc ls (.int i :: .ref 1000 :: st) I R n := by
  obtain ⟨⟨p, l, e, Rm, s, m, args, below, meth, c⟩, Q, D, g, ad, base, n0⟩ := Γ
  obtain ⟨hx, hb, hml, hown, hts, hK, hST, hlk, hrt, hA, hs0, hQ, hrm, hnm, hn0⟩ := h
  intro H locs la hP hz hS hl
  exact va_ti hx hb hST.2.1.1 hS (cr_vin h0.1 h0.2) rfl d (k1 H locs la hP hz hS hl)
theorem cr_gets1001 (h : cr_Ok y cc nL ret rm K nS nE Γ) {i : Nat} (hw : Cond.fieldLink y.cls i "CartRows" "LEAST_SETTING" "[I" ∈ cr_GW) (d : decode cc pc = .ok (.getstatic i, 3)) (k1 : cr_V Γ (pc + 3) ls (.ref 1001 :: st) I R n) : cr_V Γ pc ls st I R n := by
  obtain ⟨⟨p, l, e, Rm, s, m, args, below, meth, c⟩, Q, D, g, ad, base, n0⟩ := Γ
  obtain ⟨hx, hb, hml, hown, hts, hK, hST, hlk, hrt, hA, hs0, hQ, hrm, hnm, hn0⟩ := h
  intro H locs la hP hz hS hl
  exact va_gets hx hb hST.1.2.1 hS hown (hts _ hw) (fun _ q => q) d (k1 H locs la hP hz hS hl)
theorem cr_sald1001 (h : cr_Ok y cc nL ret rm K nS nE Γ) {i : Int32} (h0 : 0 ≤ i.toInt ∧ i.toInt < 5) (d : decode cc pc = .ok (.iaload, 1)) (k1 : cr_V Γ (pc + 1) ls (.int (cr_tab 1 i.toNatClampNeg) :: st) I R n) : cr_V Γ pc ls (.int i :: .ref 1001 :: st) I R n := by
  obtain ⟨⟨p, l, e, Rm, s, m, args, below, meth, c⟩, Q, D, g, ad, base, n0⟩ := Γ
  obtain ⟨hx, hb, hml, hown, hts, hK, hST, hlk, hrt, hA, hs0, hQ, hrm, hnm, hn0⟩ := h
  intro H locs la hP hz hS hl
  exact va_ti hx hb hST.2.1.2.1 hS (cr_vin h0.1 h0.2) rfl d (k1 H locs la hP hz hS hl)
theorem cr_gets1002 (h : cr_Ok y cc nL ret rm K nS nE Γ) {i : Nat} (hw : Cond.fieldLink y.cls i "CartRows" "MOST_SETTING" "[I" ∈ cr_GW) (d : decode cc pc = .ok (.getstatic i, 3)) (k1 : cr_V Γ (pc + 3) ls (.ref 1002 :: st) I R n) : cr_V Γ pc ls st I R n := by
  obtain ⟨⟨p, l, e, Rm, s, m, args, below, meth, c⟩, Q, D, g, ad, base, n0⟩ := Γ
  obtain ⟨hx, hb, hml, hown, hts, hK, hST, hlk, hrt, hA, hs0, hQ, hrm, hnm, hn0⟩ := h
  intro H locs la hP hz hS hl
  exact va_gets hx hb hST.1.2.2 hS hown (hts _ hw) (fun _ q => q) d (k1 H locs la hP hz hS hl)
theorem cr_sald1002 (h : cr_Ok y cc nL ret rm K nS nE Γ) {i : Int32} (h0 : 0 ≤ i.toInt ∧ i.toInt < 5) (d : decode cc pc = .ok (.iaload, 1)) (k1 : cr_V Γ (pc + 1) ls (.int (cr_tab 2 i.toNatClampNeg) :: st) I R n) : cr_V Γ pc ls (.int i :: .ref 1002 :: st) I R n := by
  obtain ⟨⟨p, l, e, Rm, s, m, args, below, meth, c⟩, Q, D, g, ad, base, n0⟩ := Γ
  obtain ⟨hx, hb, hml, hown, hts, hK, hST, hlk, hrt, hA, hs0, hQ, hrm, hnm, hn0⟩ := h
  intro H locs la hP hz hS hl
  exact va_ti hx hb hST.2.1.2.2 hS (cr_vin h0.1 h0.2) rfl d (k1 H locs la hP hz hS hl)
theorem cr_getsN (h : cr_Ok y cc nL ret rm K nS nE Γ) (hy : y.cls = "CartRows$Shares") (d : decode cc pc = .ok (.getstatic 20, 3)) (k1 : cr_V Γ (pc + 3) ls (.ref 1000 :: st) I R n) : cr_V Γ pc ls st I R n := by
  obtain ⟨⟨p, l, e, Rm, s, m, args, below, meth, c⟩, Q, D, g, ad, base, n0⟩ := Γ
  obtain ⟨hx, hb, hml, hown, hts, hK, hST, hlk, hrt, hA, hs0, hQ, hrm, hnm, hn0⟩ := h
  intro H locs la hP hz hS hl
  rw [hy] at hown
  exact va_getsN hx hb hST.1.1 hS hown (va_Nw.use rfl hST.2.2.2.2.2.1.2.2.2.2.2.2.2.2.2) (fun _ q => q) d (k1 H locs la hP hz hS hl)
end CRH
end
section
def cr_STn (U : State) : Prop := va_Nw (.methodLinkNest RX8 9 yX7_init "CartRows") U ∧ va_Nw (.methodLinkNest RX7 21 yX6_init "CartRows") U ∧ va_Nw (.methodLinkNest RX8 18 yX3_init "CartRows") U ∧ va_Nw (.methodLinkNest RX3 11 yX2_init "CartRows") U ∧ va_Nw (.methodLinkNest RX2 24 yX6_init "CartRows") U ∧ va_Nw (.methodLinkNest RX8 25 yX4_init "CartRows") U ∧ va_Nw (.methodLinkNest RX8 32 yX1_init "CartRows") U ∧ va_Nw (.methodLinkNest RX8 39 yX5_init "CartRows") U ∧ va_Nw (.methodLinkNest RX8 46 yX0_init "CartRows") U ∧ va_Nw (.fieldLinkNest "CartRows$Shares" 20 "CartRows" "FACTORIALS" "[I" "CartRows") U
theorem cr_ST.warm {ad : Nat → Nat} {base : Nat} {s U : State} {H : Heap} {locs : List Loc} (h : cr_ST ad base s s.heap) (hS : va_S (fun q => base ≤ q) s.heap H locs) (hU : U.heap = H) (hW : s.WarmedH U.vm) : cr_ST ad base U U.heap := by
  obtain ⟨⟨z1, z2, z3⟩, ⟨t1, t2, t3⟩, cz, ks, rs, ⟨n0, n1, n2, n3, n4, n5, n6, n7, n8, nf⟩, a1, a2⟩ := h
  obtain ⟨r0, r1, r2, r3, r4, r5, r6, r7, r8, r9, r10, r11, r12⟩ := rs
  rw [hU]
  have al := hW.alike
  exact ⟨⟨(z1.kept hS.2.1).moved al, (z2.kept hS.2.1).moved al, (z3.kept hS.2.1).moved al⟩, ⟨(t1.kept hS.2.1).moved al, (t2.kept hS.2.1).moved al, (t3.kept hS.2.1).moved al⟩, (cz.kept hS.2.1).moved al, (ks.kept hS.2.1).moved al, ⟨r0.warm hW, r1.warm hW, r2.warm hW, r3.warm hW, r4.warm hW, r5.warm hW, r6.warm hW, r7.warm hW, r8.warm hW, r9.warm hW, r10.warm hW, r11.warm hW, r12.warm hW⟩, ⟨va_Nw.warmM hW n0, va_Nw.warmM hW n1, va_Nw.warmM hW n2, va_Nw.warmM hW n3, va_Nw.warmM hW n4, va_Nw.warmM hW n5, va_Nw.warmM hW n6, va_Nw.warmM hW n7, va_Nw.warmM hW n8, va_Nw.warmF hW nf⟩, a1.moved al, a2.moved al⟩
theorem cr_ST.calling {ad : Nat → Nat} {base : Nat} {U : State} {f : JFrame} {mk : MethodId} {a : Array Value} (h : cr_ST ad base U U.heap) : cr_ST ad base (U.calling f mk a) (U.calling f mk a).heap := by
  obtain ⟨⟨z1, z2, z3⟩, ⟨t1, t2, t3⟩, cz, ks, rs, ⟨n0, n1, n2, n3, n4, n5, n6, n7, n8, nf⟩, a1, a2⟩ := h
  obtain ⟨r0, r1, r2, r3, r4, r5, r6, r7, r8, r9, r10, r11, r12⟩ := rs
  have al : U.vm.Alike (U.calling f mk a).vm := Vm.Alike.refl U.vm
  exact ⟨⟨z1.moved al, z2.moved al, z3.moved al⟩, ⟨t1.moved al, t2.moved al, t3.moved al⟩, cz.moved al, ks.moved al, ⟨r0.same rfl, r1.same rfl, r2.same rfl, r3.same rfl, r4.same rfl, r5.same rfl, r6.same rfl, r7.same rfl, r8.same rfl, r9.same rfl, r10.same rfl, r11.same rfl, r12.same rfl⟩, ⟨va_Nw.same rfl rfl n0, va_Nw.same rfl rfl n1, va_Nw.same rfl rfl n2, va_Nw.same rfl rfl n3, va_Nw.same rfl rfl n4, va_Nw.same rfl rfl n5, va_Nw.same rfl rfl n6, va_Nw.same rfl rfl n7, va_Nw.same rfl rfl n8, va_Nw.same rfl rfl nf⟩, a1.moved al, a2.moved al⟩
theorem cr_blind {D : va_G} {g : cr_g} {ad : Nat → Nat} {base : Nat} {vs : List Value} {I : cr_I} {R : cr_R} {n : Nat} : FrameBlind (cr_PP D g ad base vs I R n) := by
  intro a U f mk hq
  obtain ⟨q0, qP, qz, qK, qS⟩ := hq
  exact ⟨q0, qP, qz, va_K.moved (u := U) (U := U.calling f mk a) (Vm.Alike.refl U.vm) qK, qS.calling⟩
/-- what the tables say of a method that is called -/
def cr_Z (z : MethodName) (cz : ByteArray) (nLz : Nat) (rz : Option FieldType) (np : Nat) : Prop := Cond.code z cz nLz rz ∈ cr_GW ∧ Cond.initialized z.cls ∈ cr_GW ∧ (z.cls ≠ "java/lang/invoke/MethodHandle" ∧ z.cls ≠ "java/lang/invoke/VarHandle" ∧ (parseMethodDescriptor z.desc).map (fun d => d.parameters.length) = some np)
/-- the room that a call wants -/
def cr_rm (rm rmz : Room) (nLz nS n n' nE : Nat) : Prop := (rmz.frames + 1 ≤ rm.frames ∧ 8 + (nLz + 11) + rmz.locals ≤ rm.locals) ∧ (rmz.cells = n' - n ∧ rmz.slots = cr_sl n' - cr_sl n) ∧ (nS ≤ n ∧ n ≤ n' ∧ n' ≤ nE) ∧ rm.cells = nE - nS ∧ rm.slots = cr_sl nE - cr_sl nS
section CRC
variable {y : MethodName} {cc : ByteArray} {nL : Nat} {ret : Option FieldType} {rm : Room} {K : cr_K} {nS nE : Nat} {Γ : cr_G} {pc : Nat} {ls st : List Value} {I : cr_I} {R : cr_R} {n : Nat}
variable {z : MethodName} {cz : ByteArray} {nLz : Nat} {rz : Option FieldType} {rmz : Room} {n' idx : Nat} {T : cr_T} {As stk : List Value}
theorem cr_behind {D : va_G} {g : cr_g} {ad : Nat → Nat} {p : Program} {l : Launch} {e : Env} {Rm : Room} {s : State} {m : MethodId} {args : Array Value} {below : List Frame} {meth : Method} {c : Code} {Q : State → Prop} {base n0 : Nat} {H : Heap} {locs : List Loc} {la : Array Slot} {a : Array Value} {K' : cr_K} {st0 rest : List Value} (hle : n0 ≤ n ∧ n ≤ n')
    (hr : va_Run p l e Rm s m args below meth c H locs (n - n0) (cr_sl n - cr_sl n0) (n' - n) (cr_sl n' - cr_sl n) (F0 m pc la st0) rest (cr_PQ D g ad base K' n' a) (fun q => base ≤ q)) (hS : va_S (fun q => base ≤ q) s.heap H locs)
    (kk : ∀ (v : Option Value) (I' : cr_I) (R' : cr_R), K' v I' R' → ∀ (H1 : Heap) (locs1 : List Loc), va_P D cr_cl (cr_wd ad g I' R' n') H1 → (n' < 247 → H1.size = base + n') → va_S (fun q => base ≤ q) s.heap H1 locs1 → W p l e Rm s m args below meth c H1 locs1 (n' - n0) (cr_sl n' - cr_sl n0) Q (F0 m (pc + 3) la ((v.map (cr_tr ad)).toList ++ rest))) : W p l e Rm s m args below meth c H locs (n - n0) (cr_sl n - cr_sl n0) Q (F0 m pc la st0) := by
  intro T hT X
  obtain ⟨v, st₀, t, T', L, h0, X', hL, e1, e2, ⟨⟨w, I', R', hv, hK', hP', hz'⟩, hF1, hF2⟩, stp⟩ := hr T hT X
  cases hv
  rw [h0] at hF1 hF2
  have c1 : n - n0 + (n' - n) = n' - n0 := by omega
  have m1 := cr_sl_mono hle.1
  have m2 := cr_sl_mono hle.2
  have c2 : cr_sl n - cr_sl n0 + (cr_sl n' - cr_sl n) = cr_sl n' - cr_sl n0 := by omega
  rw [c1, c2] at X'
  obtain ⟨t2, a1, b1⟩ := kk w I' R' hK' T'.heap (locs ++ L) (by rw [e1]; exact hP') (by rw [e1]; exact hz')
    ⟨Nat.le_trans hS.1 (by rw [e1]; exact hF1), fun q h1 h2 => by rw [e1, hF2 q (Nat.lt_of_lt_of_le h1 hS.1) h2]; exact hS.2.1 q h1 h2, fun q hq => by
      rcases List.mem_append.mp hq with h | h
      · exact hS.2.2 q h
      · exact hL q h⟩ T' rfl X'
  exact ⟨t2, stp t2 a1, b1⟩
theorem cr_callS (h : cr_Ok y cc nL ret rm K nS nE Γ) (hC : cr_C z cz nLz rz rmz n n' T) (hZ : cr_Z z cz nLz rz As.length) (hli : Cond.methodLink y.cls idx z ∈ cr_GW) (hsta : Cond.static z ∈ cr_GW) (hrm0 : cr_rm rm rmz nLz nS n n' nE) (hst : stk = As.reverse ++ st) (h8 : (st.map fun v => v.category).sum ≤ 8) (d : decode cc pc = .ok (.invokestatic idx, 3)) (hT : T (As) I R (fun v I' R' => cr_V Γ (pc + 3) ls (v.toList ++ st) I' R' n')) : cr_V Γ pc ls stk I R n := by
  obtain ⟨⟨p, l, e, Rm, s, m, args, below, meth, c⟩, Q, D, g, ad, base, n0⟩ := Γ
  obtain ⟨hx, hb, hml, hown, hts, hK, hST, hlk, hrt, hA, hs0, hQ, hrm, hnm, hn0⟩ := h
  intro H locs la hP hz hS hl
  subst hst
  subst hn0
  subst hrm
  have hmet := hC l D g ad base hA _ I R _ hT
  obtain ⟨hz1, hz2, hz3⟩ := hZ
  obtain ⟨hr1, ⟨hr2, hr3⟩, ⟨hr4, hr5, hr6⟩, hr7, hr8⟩ := hrm0
  have ms1 := cr_sl_mono hr4
  have ms2 := cr_sl_mono hr5
  have ms3 := cr_sl_mono hr6
  have hgood : GoodIn cr_GW (Cond.code z cz nLz rz :: cr_GW) := cr_good (fun _ q => q) hz1
  have h8' : ((st.map (cr_tr ad)).map fun v => v.category).sum ≤ 8 := by
    rw [List.map_map]
    have : ((fun v : Value => v.category) ∘ cr_tr ad) = fun v => v.category := funext fun v => cr_tr_cat ad v
    rw [this]
    exact h8
  refine cr_behind (n := n) (n' := n') ⟨hr4, hr5⟩ (st0 := (As.reverse ++ st).map (cr_tr ad)) (rest := st.map (cr_tr ad)) (va_runS (As := As.map (cr_tr ad)) (Ts := cr_GW) (own := y.cls) (nL := nL) ⟨hx, hb, hml, hown, hts⟩ hmet ⟨callB_of As.length hts hgood rfl hr2 hr3 (hts _ hz2) (hts _ hli) hz3 hr1, hts _ hsta⟩ ⟨cr_blind, fun U hU hW => ⟨rfl, by rw [hU]; exact hP, fun q => by rw [hU]; exact hz q, va_K.moved hW.alike hK, hST.warm hS hU hW⟩⟩ rfl (by simp) (hl.1.trans hml) (by simp [List.map_reverse]) (lv_room h8') d ⟨by omega, by omega⟩) hS (fun v I' R' hv H1 locs1 hP1 hz1 hS1 => ?_)
  have := hv H1 locs1 la hP1 hz1 hS1 hl
  rw [List.map_append] at this
  have e : (v.map (cr_tr ad)).toList = v.toList.map (cr_tr ad) := by cases v <;> rfl
  rw [e]
  exact this
theorem cr_callV (h : cr_Ok y cc nL ret rm K nS nE Γ) (hC : cr_C z cz nLz rz rmz n n' T) (hZ : cr_Z z cz nLz rz As.length) {b c0 N : Nat} {T0 : u_T} (hli : Cond.methodLink y.cls idx z ∈ cr_GW) (hins : Cond.instanceMethod z ∈ cr_GW) (hsel : Cond.selects z.cls z z ∈ cr_GW) (hbn : b < n) (hkd : cr_kd b = (c0 + 3, N)) (hcl : cr_cl[c0]? = some (z.cls, T0, N)) (hrm0 : cr_rm rm rmz nLz nS n n' nE) (hst : stk = As.reverse ++ .ref b :: st) (h8 : (st.map fun v => v.category).sum ≤ 8) (d : decode cc pc = .ok (.invokevirtual idx, 3)) (hT : T (.ref b :: As) I R (fun v I' R' => cr_V Γ (pc + 3) ls (v.toList ++ st) I' R' n')) : cr_V Γ pc ls stk I R n := by
  obtain ⟨⟨p, l, e, Rm, s, m, args, below, meth, c⟩, Q, D, g, ad, base, n0⟩ := Γ
  obtain ⟨hx, hb, hml, hown, hts, hK, hST, hlk, hrt, hA, hs0, hQ, hrm, hnm, hn0⟩ := h
  intro H locs la hP hz hS hl
  subst hst
  subst hn0
  subst hrm
  have hmet := hC l D g ad base hA _ I R _ hT
  obtain ⟨hz1, hz2, hz3⟩ := hZ
  obtain ⟨hr1, ⟨hr2, hr3⟩, ⟨hr4, hr5, hr6⟩, hr7, hr8⟩ := hrm0
  have ms1 := cr_sl_mono hr4
  have ms2 := cr_sl_mono hr5
  have ms3 := cr_sl_mono hr6
  have hgood : GoodIn cr_GW (Cond.code z cz nLz rz :: cr_GW) := cr_good (fun _ q => q) hz1
  have h8' : ((st.map (cr_tr ad)).map fun v => v.category).sum ≤ 8 := by
    rw [List.map_map]
    have : ((fun v : Value => v.category) ∘ cr_tr ad) = fun v => v.category := funext fun v => cr_tr_cat ad v
    rw [this]
    exact h8
  refine cr_behind (n := n) (n' := n') ⟨hr4, hr5⟩ (st0 := (As.reverse ++ .ref b :: st).map (cr_tr ad)) (rest := st.map (cr_tr ad)) (va_runV (As := As.map (cr_tr ad)) (b := ad b) (C := z.cls) (Ts := cr_GW) (own := y.cls) (nL := nL) ⟨hx, hb, hml, hown, hts⟩ hmet ⟨callB_of As.length hts hgood rfl hr2 hr3 (hts _ hz2) (hts _ hli) hz3 hr1, hts _ hins, hts _ hsel⟩ ⟨cr_blind, va_recv hK hP (ci := c0) (q0 := b) hcl (by rw [cr_wd_at hbn, cr_ce_obj hkd]), fun U hU hW => ⟨rfl, by rw [hU]; exact hP, fun q => by rw [hU]; exact hz q, va_K.moved hW.alike hK, hST.warm hS hU hW⟩⟩ rfl (by simp) (hl.1.trans hml) (by simp [List.map_reverse, cr_tr]) (lv_room h8') d ⟨by omega, by omega⟩) hS (fun v I' R' hv H1 locs1 hP1 hz1 hS1 => ?_)
  have := hv H1 locs1 la hP1 hz1 hS1 hl
  rw [List.map_append] at this
  have e : (v.map (cr_tr ad)).toList = v.toList.map (cr_tr ad) := by cases v <;> rfl
  rw [e]
  exact this
theorem cr_callIN (h : cr_Ok y cc nL ret rm K nS nE Γ) (hC : cr_C z cz nLz rz rmz n n' T) (hZ : cr_Z z cz nLz rz As.length) {b : Nat} (hy1 : z.name = "<init>") (hrz : rz = none) (hli : ∀ U : State, cr_STn U → va_Nw (.methodLinkNest y.cls idx z "CartRows") U) (hins : Cond.instanceMethod z ∈ cr_GW) (hrm0 : cr_rm rm rmz nLz nS n n' nE) (hst : stk = As.reverse ++ .ref b :: st) (h8 : (st.map fun v => v.category).sum ≤ 8) (d : decode cc pc = .ok (.invokespecial idx, 3)) (hT : T (.ref b :: As) I R (fun v I' R' => cr_V Γ (pc + 3) ls (v.toList ++ st) I' R' n')) : cr_V Γ pc ls stk I R n := by
  obtain ⟨⟨p, l, e, Rm, s, m, args, below, meth, c⟩, Q, D, g, ad, base, n0⟩ := Γ
  obtain ⟨hx, hb, hml, hown, hts, hK, hST, hlk, hrt, hA, hs0, hQ, hrm, hnm, hn0⟩ := h
  intro H locs la hP hz hS hl
  subst hst
  subst hn0
  subst hrm
  have hmet := hC l D g ad base hA _ I R _ hT
  obtain ⟨hz1, hz2, hz3⟩ := hZ
  obtain ⟨hr1, ⟨hr2, hr3⟩, ⟨hr4, hr5, hr6⟩, hr7, hr8⟩ := hrm0
  have ms1 := cr_sl_mono hr4
  have ms2 := cr_sl_mono hr5
  have ms3 := cr_sl_mono hr6
  have hgood : GoodIn cr_GW (Cond.code z cz nLz rz :: cr_GW) := cr_good (fun _ q => q) hz1
  have h8' : ((st.map (cr_tr ad)).map fun v => v.category).sum ≤ 8 := by
    rw [List.map_map]
    have : ((fun v : Value => v.category) ∘ cr_tr ad) = fun v => v.category := funext fun v => cr_tr_cat ad v
    rw [this]
    exact h8
  refine cr_behind (n := n) (n' := n') ⟨hr4, hr5⟩ (st0 := (As.reverse ++ .ref b :: st).map (cr_tr ad)) (rest := st.map (cr_tr ad)) (by subst hrz; exact va_runIN (As := As.map (cr_tr ad)) (b := ad b) (Ts := cr_GW) (own := y.cls) (nL := nL) ⟨hx, hb, hml, hown, hts⟩ hmet ⟨va_cnB As.length hts hgood rfl hr2 hr3 (hli s hST.2.2.2.2.2.1) (hts _ hz2) hz3 hr1, hy1, hts _ hins⟩ ⟨cr_blind, fun U hU hW => ⟨rfl, by rw [hU]; exact hP, fun q => by rw [hU]; exact hz q, va_K.moved hW.alike hK, hST.warm hS hU hW⟩⟩ rfl (by simp) (hl.1.trans hml) (by simp [List.map_reverse, cr_tr]) (lv_room h8') d ⟨by omega, by omega⟩) hS (fun v I' R' hv H1 locs1 hP1 hz1 hS1 => ?_)
  have := hv H1 locs1 la hP1 hz1 hS1 hl
  rw [List.map_append] at this
  have e : (v.map (cr_tr ad)).toList = v.toList.map (cr_tr ad) := by cases v <;> rfl
  rw [e]
  exact this
theorem cr_callI (h : cr_Ok y cc nL ret rm K nS nE Γ) (hC : cr_C z cz nLz rz rmz n n' T) (hZ : cr_Z z cz nLz rz As.length) {b : Nat} (hy1 : z.name = "<init>") (hrz : rz = none) (hli : Cond.methodLink y.cls idx z ∈ cr_GW) (hins : Cond.instanceMethod z ∈ cr_GW) (hrm0 : cr_rm rm rmz nLz nS n n' nE) (hst : stk = As.reverse ++ .ref b :: st) (h8 : (st.map fun v => v.category).sum ≤ 8) (d : decode cc pc = .ok (.invokespecial idx, 3)) (hT : T (.ref b :: As) I R (fun v I' R' => cr_V Γ (pc + 3) ls (v.toList ++ st) I' R' n')) : cr_V Γ pc ls stk I R n := by
  obtain ⟨⟨p, l, e, Rm, s, m, args, below, meth, c⟩, Q, D, g, ad, base, n0⟩ := Γ
  obtain ⟨hx, hb, hml, hown, hts, hK, hST, hlk, hrt, hA, hs0, hQ, hrm, hnm, hn0⟩ := h
  intro H locs la hP hz hS hl
  subst hst
  subst hn0
  subst hrm
  have hmet := hC l D g ad base hA _ I R _ hT
  obtain ⟨hz1, hz2, hz3⟩ := hZ
  obtain ⟨hr1, ⟨hr2, hr3⟩, ⟨hr4, hr5, hr6⟩, hr7, hr8⟩ := hrm0
  have ms1 := cr_sl_mono hr4
  have ms2 := cr_sl_mono hr5
  have ms3 := cr_sl_mono hr6
  have hgood : GoodIn cr_GW (Cond.code z cz nLz rz :: cr_GW) := cr_good (fun _ q => q) hz1
  have h8' : ((st.map (cr_tr ad)).map fun v => v.category).sum ≤ 8 := by
    rw [List.map_map]
    have : ((fun v : Value => v.category) ∘ cr_tr ad) = fun v => v.category := funext fun v => cr_tr_cat ad v
    rw [this]
    exact h8
  refine cr_behind (n := n) (n' := n') ⟨hr4, hr5⟩ (st0 := (As.reverse ++ .ref b :: st).map (cr_tr ad)) (rest := st.map (cr_tr ad)) (by subst hrz; exact va_runI (As := As.map (cr_tr ad)) (b := ad b) (Ts := cr_GW) (own := y.cls) (nL := nL) ⟨hx, hb, hml, hown, hts⟩ hmet ⟨callB_of As.length hts hgood rfl hr2 hr3 (hts _ hz2) (hts _ hli) hz3 hr1, hy1, hts _ hins⟩ ⟨cr_blind, fun U hU hW => ⟨rfl, by rw [hU]; exact hP, fun q => by rw [hU]; exact hz q, va_K.moved hW.alike hK, hST.warm hS hU hW⟩⟩ rfl (by simp) (hl.1.trans hml) (by simp [List.map_reverse, cr_tr]) (lv_room h8') d ⟨by omega, by omega⟩) hS (fun v I' R' hv H1 locs1 hP1 hz1 hS1 => ?_)
  have := hv H1 locs1 la hP1 hz1 hS1 hl
  rw [List.map_append] at this
  have e : (v.map (cr_tr ad)).toList = v.toList.map (cr_tr ad) := by cases v <;> rfl
  rw [e]
  exact this
theorem cr_objI (h : cr_Ok y cc nL ret rm K nS nE Γ) {b : Nat} (hw : Cond.methodLink y.cls idx objectInit ∈ cr_GW) (hins : Cond.instanceMethod objectInit ∈ cr_GW) (hco : Cond.code objectInit ⟨#[0xb1]⟩ 1 none ∈ cr_GW) (h8 : (st.map fun v => v.category).sum ≤ 8) (hf : 1 ≤ rm.frames ∧ 20 ≤ rm.locals) (d : decode cc pc = .ok (.invokespecial idx, 3)) (k : cr_V Γ (pc + 3) ls st I R n) : cr_V Γ pc ls (.ref b :: st) I R n := by
  obtain ⟨⟨p, l, e, Rm, s, m, args, below, meth, c⟩, Q, D, g, ad, base, n0⟩ := Γ
  obtain ⟨hx, hb, hml, hown, hts, hK, hST, hlk, hrt, hA, hs0, hQ, hrm, hnm, hn0⟩ := h
  intro H locs la hP hz hS hl
  subst hrm
  have h8' : ((st.map (cr_tr ad)).map fun v => v.category).sum ≤ 8 := by
    rw [List.map_map]
    have : ((fun v : Value => v.category) ∘ cr_tr ad) = fun v => v.category := funext fun v => cr_tr_cat ad v
    rw [this]
    exact h8
  exact W.objInit hx hb hown (hts _ hw) (hts _ hins) (hts _ hco) rfl (hl.1.trans rfl) (a := ad b) (rest := st.map (cr_tr ad)) rfl d hf.1 (by show 2 * 0 + _ + 12 ≤ _; omega) (k H locs la hP hz hS hl)
end CRC
end
section
theorem cr_wd_app {ad : Nat → Nat} {g : cr_g} {I : cr_I} {R : cr_R} {n : Nat} : cr_wd ad g I R (n + 1) = cr_wd ad g I R n ++ [(ad n, cr_ce ad g I R n)] := by
  unfold cr_wd
  rw [List.range_succ, List.map_append]
  rfl
theorem cr_sl_succ {n k N : Nat} (h : cr_kd n = (k, N)) (hn : n < 247) : cr_sl (n + 1) = cr_sl n + N := by
  unfold cr_sl
  rw [List.take_succ]
  have hl : n < cr_kdT.length := by
    have : cr_kdT.length = 247 := by decide +kernel
    omega
  have e : cr_kdT[n]? = some (cr_kdT[n]'hl) := List.getElem?_eq_getElem hl
  have e2 : cr_kdT[n]'hl = (k, N) := by
    have : cr_kd n = cr_kdT[n]'hl := by
      unfold cr_kd
      rw [List.getD_eq_getElem?_getD, e]
      rfl
    rw [← this, h]
  rw [e, e2]
  simp
theorem cr_push {D : va_G} {ad : Nat → Nat} {g : cr_g} {I : cr_I} {R : cr_R} {n base : Nat} {H H1 : Heap} (hA : cr_ad ad base) (hn : n < 247) (hP : va_P D cr_cl (cr_wd ad g I R n) H) (hz : H.size = base + n) (hk : ∀ q : Nat, q < H.size → H1[q]? = H[q]?) (hc : va_at D cr_cl (ad n, cr_ce ad g I R n) H1) : va_P D cr_cl (cr_wd ad g I R (n + 1)) H1 := by
  rw [cr_wd_app]
  refine va_P.app (hP.kept fun k q hq => hk q.1 ?_) (fun k q hq => ?_)
  · exact (hP k q hq).lt
  · have h0 : k < 1 := (List.getElem?_eq_some_iff.mp hq).1
    rw [show k = 0 by omega] at hq
    cases hq
    exact hc
theorem cr_grow {base : Nat} {H0 H H1 : Heap} {locs : List Loc} (hS : va_S (fun q => base ≤ q) H0 H locs) (hz : H.size ≤ H1.size) (hk : ∀ q : Nat, q < H.size → H1[q]? = H[q]?) : va_S (fun q => base ≤ q) H0 H1 locs :=
  ⟨Nat.le_trans hS.1 hz, fun q h1 h2 => (hk q (Nat.lt_of_lt_of_le h1 hS.1)).trans (hS.2.1 q h1 h2), hS.2.2⟩
section CRN
variable {y : MethodName} {cc : ByteArray} {nL : Nat} {ret : Option FieldType} {rm : Room} {K : cr_K} {nS nE : Nat} {Γ : cr_G} {pc : Nat} {ls st : List Value} {I : cr_I} {R : cr_R} {n : Nat}
/-- the room that a making wants -/
def cr_rn (rm : Room) (nS n n' nE : Nat) : Prop := (nS ≤ n ∧ n < n' ∧ n' ≤ nE ∧ nE ≤ 247) ∧ rm.cells = nE - nS ∧ rm.slots = cr_sl nE - cr_sl nS
theorem cr_new (h : cr_Ok y cc nL ret rm K nS nE Γ) {i c0 N : Nat} {C : String} {T : u_T} {ty : Nat → FieldType} (hc : cr_cls c0 C T N ty) (hw1 : Cond.classLink y.cls i C ∈ cr_GW) (hw2 : Cond.instantiable C N ∈ cr_GW) (hw3 : Cond.initialized C ∈ cr_GW) (hkd : cr_kd n = (c0 + 3, N)) (hI : ∀ k, k < N → I n k = 0) (hR : ∀ k, k < N → R n k = none) (htf : ∀ k, k < N → defaultValue (ty k) = if cr_fi c0 k = true then .int 0 else .null) (hrn : cr_rn rm nS n (n + 1) nE) (d : decode cc pc = .ok (.new i, 3)) (k1 : cr_V Γ (pc + 3) ls (.ref n :: st) I R (n + 1)) : cr_V Γ pc ls st I R n := by
  obtain ⟨⟨p, l, e, Rm, s, m, args, below, meth, c⟩, Q, D, g, ad, base, n0⟩ := Γ
  obtain ⟨hx, hb, hml, hown, hts, hK, hST, hlk, hrt, hA, hs0, hQ, hrm, hnm, hn0⟩ := h
  intro H locs la hP hz hS hl
  subst hn0
  subst hrm
  obtain ⟨⟨hr4, hr5, hr6, hr9⟩, hr7, hr8⟩ := hrn
  have hn : n < 247 := by omega
  have hz := hz hn
  have ms1 := cr_sl_mono hr4
  have ms2 := cr_sl_mono hr6
  have ms3 := cr_sl_succ hkd hn
  obtain ⟨hcl, hin, hty, -⟩ := hc
  have hKn := hK.1 c0 _ hcl
  refine W.newcK hx hb hown (hts _ hw1) (hts _ hw2) (hts _ hw3) rfl d (by omega) (by omega) hKn.2.1 rfl fun H1 kC hkC e1 z1 o1 => ?_
  have c1 : n - n0 + 1 = n + 1 - n0 := by omega
  have c2 : cr_sl n - cr_sl n0 + N = cr_sl (n + 1) - cr_sl n0 := by omega
  rw [c1, c2]
  have ea : ad n = H.size := by rw [hA n (by omega), hz]
  have hP1 : va_P D cr_cl (cr_wd ad g I R (n + 1)) H1 := by
    refine cr_push hA hn hP hz o1 ?_
    rw [cr_ce_obj hkd, ea]
    refine ⟨_, hcl, (u_born ty hts hin hKn hkC e1 hty).to fun j hj => ?_⟩
    rw [htf j hj]
    simp only [vp_V, List.getD_eq_getElem?_getD, cr_fs_at hj, hI j hj, hR j hj]
    rfl
  have := k1 H1 locs la hP1 (fun _ => by rw [z1, hz]; omega) (cr_grow hS (by omega) o1) hl
  rw [List.map_cons, show cr_tr ad (.ref n) = .ref (ad n) from rfl, ea] at this
  exact this
theorem cr_newa (h : cr_Ok y cc nL ret rm K nS nE Γ) {N : Nat} {i : Int32} (harr : Cond.arrayClass .int ∈ cr_GW) (hi : i.toInt = N) (hN : N ≤ 1000) (hkd : cr_kd n = (0, N)) (hI : ∀ k, I n k = 0) (hrn : cr_rn rm nS n (n + 1) nE) (d : decode cc pc = .ok (.newarray .int, 2)) (k1 : cr_V Γ (pc + 2) ls (.ref n :: st) I R (n + 1)) : cr_V Γ pc ls (.int i :: st) I R n := by
  obtain ⟨⟨p, l, e, Rm, s, m, args, below, meth, c⟩, Q, D, g, ad, base, n0⟩ := Γ
  obtain ⟨hx, hb, hml, hown, hts, hK, hST, hlk, hrt, hA, hs0, hQ, hrm, hnm, hn0⟩ := h
  intro H locs la hP hz hS hl
  subst hn0
  subst hrm
  obtain ⟨⟨hr4, hr5, hr6, hr9⟩, hr7, hr8⟩ := hrn
  have hn : n < 247 := by omega
  have hz := hz hn
  have ms1 := cr_sl_mono hr4
  have ms2 := cr_sl_mono hr6
  have ms3 := cr_sl_succ hkd hn
  have hi0 : ¬ i < 0 := by
    rw [Int32.lt_iff_toInt_lt, hi]
    simp
  have hi1 : i.toNatClampNeg = N := by
    show i.toInt.toNat = N
    rw [hi]
    simp
  refine va_newaK hx hb (atype := .int) (hts _ harr) rfl d rfl hi0 hi1 (by show N * 4 ≤ _; omega) (by omega) (by omega) rfl fun H1 cA e1 z1 o1 hAr hNm => ?_
  have c1 : n - n0 + 1 = n + 1 - n0 := by omega
  have c2 : cr_sl n - cr_sl n0 + N = cr_sl (n + 1) - cr_sl n0 := by omega
  rw [c1, c2]
  have ea : ad n = H.size := by rw [hA n (by omega), hz]
  have ec : cA = g.1 := by
    have h1 : s.vm.findClass ("[" ++ FieldType.int.toString) = some g.1 := (hK.2 0 _ rfl).2
    exact Option.some.inj (hNm.symm.trans h1)
  subst ec
  have hP1 : va_P D cr_cl (cr_wd ad g I R (n + 1)) H1 := by
    refine cr_push hA hn hP hz o1 ?_
    rw [cr_ce_int hkd, ea]
    show H1[H.size]? = some (vp_cell _ _)
    rw [e1, vp_cell_i]
    congr 2
    funext j
    rw [hI j]
    rfl
  have := k1 H1 locs la hP1 (fun _ => by rw [z1, hz]; omega) (cr_grow hS (by omega) o1) hl
  rw [List.map_cons, show cr_tr ad (.ref n) = .ref (ad n) from rfl, ea] at this
  exact this
theorem cr_anew (h : cr_Ok y cc nL ret rm K nS nE Γ) {N j : Nat} {i : Int32} (hw : Cond.classLink y.cls j "CartRows$Make" ∈ cr_GW) (hi : i.toInt = N) (hN : N ≤ 1000) (hkd : cr_kd n = (2, N)) (hR : ∀ k, R n k = none) (hrn : cr_rn rm nS n (n + 1) nE) (d : decode cc pc = .ok (.anewarray j, 3)) (k1 : cr_V Γ (pc + 3) ls (.ref n :: st) I R (n + 1)) : cr_V Γ pc ls (.int i :: st) I R n := by
  obtain ⟨⟨p, l, e, Rm, s, m, args, below, meth, c⟩, Q, D, g, ad, base, n0⟩ := Γ
  obtain ⟨hx, hb, hml, hown, hts, hK, hST, hlk, hrt, hA, hs0, hQ, hrm, hnm, hn0⟩ := h
  intro H locs la hP hz hS hl
  subst hn0
  subst hrm
  obtain ⟨⟨hr4, hr5, hr6, hr9⟩, hr7, hr8⟩ := hrn
  have hn : n < 247 := by omega
  have hz := hz hn
  have ms1 := cr_sl_mono hr4
  have ms2 := cr_sl_mono hr6
  have ms3 := cr_sl_succ hkd hn
  have hi0 : ¬ i < 0 := by
    rw [Int32.lt_iff_toInt_lt, hi]
    simp
  have hi1 : i.toNatClampNeg = N := by
    show i.toInt.toNat = N
    rw [hi]
    simp
  refine W.anew hx hb hown (hts _ hw) (va_AO.use hST.2.2.2.2.2.2.2) rfl d rfl hi0 (by rw [hi1]; omega) (by omega) (by rw [hi1]; omega) fun cA kA comp f1 f2 f3 f4 => ?_
  have c1 : n - n0 + 1 = n + 1 - n0 := by omega
  have c2 : cr_sl n - cr_sl n0 + N = cr_sl (n + 1) - cr_sl n0 := by omega
  rw [hi1, c1, c2]
  have ea : ad n = H.size := by rw [hA n (by omega), hz]
  have ec : cA = g.2.2 := by
    obtain ⟨_, _, -, -, -, h4⟩ := (hK.2 2 _ rfl).2
    exact Option.some.inj (f1.symm.trans h4)
  subst ec
  have o1 : ∀ q : Nat, q < H.size → (H.push { cls := g.2.2, slots := Array.replicate N .null, vm := .none })[q]? = H[q]? := fun q hq => by
    rw [Array.getElem?_push, if_neg (Nat.ne_of_lt hq)]
  have hP1 : va_P D cr_cl (cr_wd ad g I R (n + 1)) (H.push { cls := g.2.2, slots := Array.replicate N .null, vm := .none }) := by
    refine cr_push hA hn hP hz o1 ?_
    rw [cr_ce_mak hkd, ea]
    show (H.push _)[H.size]? = some (vp_cell _ _)
    rw [Array.getElem?_push, if_pos rfl, vp_cell_q, arrV_new]
    congr 2
    funext j
    rw [hR j]
    rfl
  have := k1 _ locs la hP1 (fun _ => by simp; rw [hz]; omega) (cr_grow hS (by simp) o1) hl
  rw [List.map_cons, show cr_tr ad (.ref n) = .ref (ad n) from rfl, ea] at this
  exact this
theorem cr_aast (h : cr_Ok y cc nL ret rm K nS nE Γ) {b N x c0 N0 : Nat} {i : Int32} {r : vw_C} (hbn : b < n) (hnn : n ≤ 1000) (hkd : cr_kd b = (2, N)) (hxn : x < n) (hkx : cr_kd x = (c0 + 3, N0)) (hc0 : cr_cl[c0]? = some r) (hr0 : r.1 = "CartRows$Make") (h0 : 0 ≤ i.toInt ∧ i.toInt < N) (d : decode cc pc = .ok (.aastore, 1)) (k1 : cr_V Γ (pc + 1) ls st I (cr_up R b i.toNatClampNeg (some x)) n) : cr_V Γ pc ls (.ref x :: .int i :: .ref b :: st) I R n := by
  obtain ⟨⟨p, l, e, Rm, s, m, args, below, meth, c⟩, Q, D, g, ad, base, n0⟩ := Γ
  obtain ⟨hx, hb, hml, hown, hts, hK, hST, hlk, hrt, hA, hs0, hQ, hrm, hnm, hn0⟩ := h
  intro H locs la hP hz hS hl
  have hD := cr_wd_D (g := g) (I := I) (R := R) hA hnn
  have hin := cr_vin h0.1 h0.2
  have hlt : i.toNatClampNeg < N := Nat.not_le.mp fun q => hin (Or.inr q)
  have h00 : ¬ i < 0 := fun q => hin (Or.inl q)
  have he : (cr_wd ad g I R n)[b]? = some (ad b, .inl (g.2.2, N, .inr (.inr (.inr (.inr (fun j => (R b j).map ad)))))) := by rw [cr_wd_at hbn, cr_ce_mak hkd]
  have hv : (cr_wd ad g I R n)[x]? = some (ad x, .inr (c0, cr_fs ad I R c0 N0 x)) := by rw [cr_wd_at hxn, cr_ce_obj hkx]
  obtain ⟨r', hr', cellV, g1, g2, g3, -⟩ := hP x _ hv
  have hcls := (hK.1 c0 r hc0).2
  obtain ⟨kA, comp, k1', k2, k3, -⟩ := (hK.2 2 _ rfl).2
  have hcomp : comp = D.1 c0 := Option.some.inj (k3.symm.trans (by rw [← hr0]; exact hcls.1))
  subst hcomp
  obtain ⟨kC, hkC, -⟩ := hcls.2
  refine W.aast hx hb (hP b _ he) (fun q h => by cases h) (fun h => by cases h) k1' k2 rfl hkC ⟨h00, by show _ < (arrV _ _ _).slots.size; rw [arrV_size]; exact hlt⟩ g1 (fun q h => by rw [g3] at h; cases h) (by rw [g2]; exact hkC) (by rw [g2]; exact va_assign hcls) rfl rfl d fun H1 e z oq => ?_
  have hP' := hP.set hD he (e := .inl (g.2.2, N, .inr (.inr (.inr (.inr (fun j => (cr_up R b i.toNatClampNeg (some x) b j).map ad)))))) (by
    show H1[ad b]? = some (vp_cell _ _)
    rw [e, vp_cell_q, vp_cell_q, arrV_store]
    congr 2
    funext q
    by_cases hq : q = i.toNatClampNeg
    · subst hq
      simp [updV, cr_up, va_rf]
    · simp [updV, cr_up, hq]) oq
  rw [← cr_ce_mak (ad := ad) (g := g) (I := I) hkd, cr_wd_set hbn (fun x _ hx => cr_ce_upR hx)] at hP'
  exact k1 H1 _ la hP' (fun q => z.trans (hz q)) (hS.put z oq (hD.2 b _ he)) hl
end CRN
end
section
theorem cr_outer (c : ClassId) (N h0 : Nat) : ∀ i : Nat, Jvm.Free.Multi.outerC c N h0 i = arrV c N (fun j => va_rf (if j < i then some (h0 + 1 + j) else none))
  | 0 => by
    show ({ cls := c, slots := Array.replicate N .null, vm := .none } : Cell) = _
    rw [arrV_new]
    refine congrArg (arrV c N) (funext fun j => ?_)
    simp [va_rf]
  | i + 1 => by
    show (Jvm.Free.Multi.outerC c N h0 i).setSlot i (.ref (h0 + 1 + i)) = _
    rw [cr_outer c N h0 i, arrV_store]
    refine congrArg (arrV c N) (funext fun j => ?_)
    by_cases e : j = i
    · subst e
      simp [updV, va_rf]
    · by_cases h : j < i
      · simp [updV, e, h, Nat.lt_succ_of_lt h]
      · simp [updV, e, h, show ¬ j < i + 1 by omega]
theorem cr_arr_ext {c : ClassId} {N : Nat} {f f' : Nat → Value} (h : ∀ j, j < N → f j = f' j) : arrV c N f = arrV c N f' := by
  unfold arrV
  congr 1
  apply Array.ext
  · simp
  · intro i h1 h2
    simp only [Array.getElem_ofFn]
    exact h i (by simpa using h1)
theorem cr_ce_off {ad : Nat → Nat} {g : cr_g} {I I' : cr_I} {R : cr_R} {x : Nat} (h : ∀ j, I' x j = I x j) : cr_ce ad g I' R x = cr_ce ad g I R x := by
  have e2 : I' x = I x := funext h
  unfold cr_ce cr_fs
  simp only [h, e2]
section CRM
variable {y : MethodName} {cc : ByteArray} {nL : Nat} {ret : Option FieldType} {rm : Room} {K : cr_K} {nS nE : Nat} {Γ : cr_G} {pc : Nat} {ls st : List Value} {I : cr_I} {R : cr_R} {n : Nat}
theorem cr_rows {D : va_G} {ad : Nat → Nat} {g : cr_g} {base : Nat} {H H1 : Heap} {M : Nat} (hA : cr_ad ad base) (hz : H.size = base + n) : ∀ N : Nat, n + 1 + N ≤ 247 → (∀ j, j < N → cr_kd (n + 1 + j) = (0, M)) → va_P D cr_cl (cr_wd ad g I R (n + 1)) H1 → (∀ j, j < N → ∀ k, I (n + 1 + j) k = 0) → (∀ j, j < N → H1[H.size + 1 + j]? = some (arrV g.1 M (fun _ => .int 0))) → va_P D cr_cl (cr_wd ad g I R (n + 1 + N)) H1
  | 0, _, _, hP, _, _ => hP
  | N + 1, hle, hk, hP, hI, hc => by
    have ih := cr_rows hA hz N (by omega) (fun j hj => hk j (by omega)) hP (fun j hj => hI j (by omega)) (fun j hj => hc j (by omega))
    rw [show n + 1 + (N + 1) = (n + 1 + N) + 1 by omega, cr_wd_app]
    refine va_P.app ih (fun k q hq => ?_)
    have h0 : k < 1 := (List.getElem?_eq_some_iff.mp hq).1
    rw [show k = 0 by omega] at hq
    cases hq
    rw [cr_ce_int (hk N (by omega))]
    show H1[ad (n + 1 + N)]? = some (vp_cell _ _)
    rw [hA _ (by omega), show base + (n + 1 + N) = H.size + 1 + N by omega, hc N (by omega), vp_cell_i]
    congr 2
    funext j
    rw [hI N (by omega) j]
theorem cr_sl_rows {M : Nat} : ∀ N : Nat, n + 1 + N ≤ 247 → (∀ j, j < N → cr_kd (n + 1 + j) = (0, M)) → cr_sl (n + 1 + N) = cr_sl (n + 1) + N * M
  | 0, _, _ => by simp
  | N + 1, hle, hk => by
    rw [show n + 1 + (N + 1) = (n + 1 + N) + 1 by omega, cr_sl_succ (hk N (by omega)) (by omega), cr_sl_rows N (by omega) (fun j hj => hk j (by omega)), Nat.succ_mul]
    omega
theorem cr_mna (h : cr_Ok y cc nL ret rm K nS nE Γ) {j N M : Nat} {i k : Int32} (hw : Cond.classLink y.cls j "[[I" ∈ cr_GW) (harr : Cond.arrayClass .int ∈ cr_GW) (hi : i.toInt = N) (hk : k.toInt = M) (hN : N ≤ 1000) (hM : M ≤ 1000) (hkd : cr_kd n = (1, N)) (hkr : ∀ j, j < N → cr_kd (n + 1 + j) = (0, M)) (hR : ∀ j, j < N → R n j = some (n + 1 + j)) (hI : ∀ j, j < N → ∀ k, I (n + 1 + j) k = 0) (hrn : cr_rn rm nS n (n + 1 + N) nE) (d : decode cc pc = .ok (.multianewarray j 2, 4)) (k1 : cr_V Γ (pc + 4) ls (.ref n :: st) I R (n + 1 + N)) : cr_V Γ pc ls (.int k :: .int i :: st) I R n := by
  obtain ⟨⟨p, l, e, Rm, s, m, args, below, meth, c⟩, Q, D, g, ad, base, n0⟩ := Γ
  obtain ⟨hx, hb, hml, hown, hts, hK, hST, hlk, hrt, hA, hs0, hQ, hrm, hnm, hn0⟩ := h
  intro H locs la hP hz hS hl
  subst hn0
  subst hrm
  obtain ⟨⟨hr4, hr5, hr6, hr9⟩, hr7, hr8⟩ := hrn
  have hn : n < 247 := by omega
  have hz := hz hn
  have ms1 := cr_sl_mono hr4
  have ms2 := cr_sl_mono hr6
  have ms3 := cr_sl_succ hkd hn
  have ms4 := cr_sl_rows (n := n) (M := M) N (by omega) hkr
  have nz : ∀ (z : Int32) (q : Nat), z.toInt = q → ¬ z < 0 ∧ z.toNatClampNeg = q := fun z q hq => ⟨by rw [Int32.lt_iff_toInt_lt, hq]; simp, by show z.toInt.toNat = q; rw [hq]; simp⟩
  obtain ⟨hi0, hi1⟩ := nz i N hi
  obtain ⟨hk0, hk1⟩ := nz k M hk
  intro T hT X
  obtain ⟨vm₁, cA, comp, -, fA, fC, hO, -, X', step⟩ := X.multianewarray2F hx hown (ty := .int) (hts _ hw) (cr_AOA.use hST.2.2.2.2.2.2.1) (hts _ harr) (g := F0 m pc la (.int k :: .int i :: st.map (cr_tr ad))) rfl (by rw [hb]; exact d) rfl hi0 hk0 (by rw [hi1]; omega) (by rw [hk1]; show M * 4 ≤ _; omega) (by rw [hk1]; omega) rfl rfl (by rw [hi1]; omega) (by rw [hi1, hk1]; omega)
  have ec1 : comp = g.1 := by
    have h1 : s.vm.findClass ("[" ++ FieldType.int.toString) = some g.1 := (hK.2 0 _ rfl).2
    have h2 : s.vm.findClass ("[" ++ FieldType.int.toString) = some comp := fC
    exact Option.some.inj (h2.symm.trans h1)
  have ec2 : cA = g.2.1 := by
    have h1 : s.vm.findClass ("[" ++ (FieldType.array .int).toString) = some g.2.1 := (hK.2 1 _ rfl).2
    exact Option.some.inj (fA.symm.trans h1)
  subst ec1
  subst ec2
  rw [hi1, hk1] at X' step
  generalize hF : Jvm.Free.Multi.fill (T.setVm vm₁) g.2.1 g.1 N M (defaultValue .int) N = F at X' step
  have hTh : (T.setVm vm₁).heap = H := hT
  obtain ⟨f1, f2, -, -⟩ := Jvm.Free.Multi.fill_facts (T.setVm vm₁) g.2.1 g.1 N M (defaultValue .int) N
  rw [hF, hTh] at f1 f2
  have hold : ∀ x : Nat, x < H.size → F.heap[x]? = H[x]? := fun x hx => by
    have := Jvm.Free.Multi.fill_old (T.setVm vm₁) g.2.1 g.1 N M (defaultValue .int) (a := x) (by rw [hTh]; exact hx) N
    rw [hF, hTh] at this
    exact this
  have hrow : ∀ j : Nat, j < N → F.heap[H.size + 1 + j]? = some (arrV g.1 M (fun _ => .int 0)) := fun j hj => by
    have := Jvm.Free.Multi.fill_inner (T.setVm vm₁) g.2.1 g.1 N M (defaultValue .int) N j hj
    rw [hF, hTh] at this
    rw [this]
    show some ({ cls := g.1, slots := Array.replicate M (.int 0), vm := .none } : Cell) = _
    rw [arrV_new]
  have ea : ad n = H.size := by rw [hA n (by omega), hz]
  have hP1 : va_P D cr_cl (cr_wd ad g I R (n + 1)) F.heap := by
    refine cr_push hA hn hP hz hold ?_
    rw [cr_ce_row hkd, ea]
    show F.heap[H.size]? = some (vp_cell _ _)
    rw [f2, cr_outer, vp_cell_q]
    congr 1
    refine cr_arr_ext fun j hj => ?_
    rw [if_pos hj, hR j hj]
    show va_rf (some _) = va_rf (some _)
    rw [hA _ (by omega), hz]
    congr 2
    omega
  have hP2 := cr_rows (D := D) (R := R) hA hz N (by omega) hkr hP1 hI hrow
  have c1 : n - n0 + 1 + N = n + 1 + N - n0 := by omega
  have c2 : cr_sl n - cr_sl n0 + N + N * M = cr_sl (n + 1 + N) - cr_sl n0 := by omega
  rw [c1, c2] at X'
  obtain ⟨t, a1, b1⟩ := k1 F.heap locs la hP2 (fun _ => by rw [f1, hz]; omega) (cr_grow hS (by rw [f1]; omega) hold) hl F rfl X'
  refine ⟨t, step t ?_, b1⟩
  have e : T.heap.size = H.size := by rw [hT]
  rw [e]
  rw [List.map_cons, show cr_tr ad (.ref n) = .ref (ad n) from rfl, ea] at a1
  exact a1
theorem cr_acopy (h : cr_Ok y cc nL ret rm K nS nE Γ) {j b0 b1 N0 N1 : Nat} {sp dp k : Int32} (hw : Cond.methodLink y.cls j arraycopyName ∈ cr_GW) (hw2 : Cond.native arraycopyName ∈ cr_GW) (hw3 : Cond.static arraycopyName ∈ cr_GW) (hw4 : Cond.initialized "java/lang/System" ∈ cr_GW) (hn : n = 247) (hb0 : b0 < n) (hb1 : b1 < n) (hk0 : cr_kd b0 = (0, N0)) (hk1 : cr_kd b1 = (0, N1)) (h1 : ¬ sp < 0) (h2 : ¬ dp < 0) (h3 : ¬ k < 0) (h4 : sp.toNatClampNeg + k.toNatClampNeg ≤ N0) (h5 : dp.toNatClampNeg + k.toNatClampNeg ≤ N1) (h8 : (st.map fun v => v.category).sum ≤ 8) (hf : 1 ≤ rm.frames ∧ 40 ≤ rm.locals) (d : decode cc pc = .ok (.invokestatic j, 3)) (k1 : cr_V Γ (pc + 3) ls st (fun b q => if b = b1 then va_cpy (I b0) (I b1) sp.toNatClampNeg dp.toNatClampNeg k.toNatClampNeg q else I b q) R n) : cr_V Γ pc ls (.int k :: .int dp :: .ref b1 :: .int sp :: .ref b0 :: st) I R n := by
  obtain ⟨⟨p, l, e, Rm, s, m, args, below, meth, c⟩, Q, D, g, ad, base, n0⟩ := Γ
  obtain ⟨hx, hb, hml, hown, hts, hK, hST, hlk, hrt, hA, hs0, hQ, hrm, hnm, hn0⟩ := h
  intro H locs la hP hz hS hl
  subst hrm
  have hD := cr_wd_D (g := g) (I := I) (R := R) hA (show n ≤ 1000 by omega)
  have h8' : ((st.map (cr_tr ad)).map fun v => v.category).sum ≤ 8 := by
    rw [List.map_map]
    have : ((fun v : Value => v.category) ∘ cr_tr ad) = fun v => v.category := funext fun v => cr_tr_cat ad v
    rw [this]
    exact h8
  have hnf : nativeFrameWords "java/lang/System" "arraycopy" 5 + 11 ≤ 32 := by decide +kernel
  refine va_copyi (D := D) (rest := st.map (cr_tr ad)) (A := fun q => base ≤ q) hx hb hl.1.symm hown (hts _ hw) (hts _ hw2) (hts _ hw3) (hts _ hw4) hK hP hD hS b0 b1 0 0 (ty := .int) (by rw [cr_wd_at hb0, cr_ce_int hk0]) (by rw [cr_wd_at hb1, cr_ce_int hk1]) rfl rfl rfl h1 h2 h3 h4 h5 (fun i hi => rfl) hf.1 (by omega) d (fun H1 locs1 hP1 hD1 hS1 => ?_)
  refine k1 H1 locs1 la ?_ (fun q => by omega) hS1 hl
  have e := cr_wd_set (ad := ad) (g := g) (I := I) (R := R) (I' := fun b q => if b = b1 then va_cpy (I b0) (I b1) sp.toNatClampNeg dp.toNatClampNeg k.toNatClampNeg q else I b q) (R' := R) hb1 (fun x _ hx => cr_ce_off (fun j => if_neg hx))
  rw [cr_ce_int hk1, show (fun q => if b1 = b1 then va_cpy (I b0) (I b1) sp.toNatClampNeg dp.toNatClampNeg k.toNatClampNeg q else I b1 q) = va_cpy (I b0) (I b1) sp.toNatClampNeg dp.toNatClampNeg k.toNatClampNeg from funext fun q => if_pos rfl] at e
  rw [← e]
  exact hP1
theorem cr_ldcS67 (h : cr_Ok y cc nL ret rm K nS nE Γ) (hy : y.cls = RX7) (d : decode cc pc = .ok (.ldc 67, 2)) (k1 : cr_V Γ (pc + 2) ls (.ref 1003 :: st) I R n) : cr_V Γ pc ls st I R n := by
  obtain ⟨⟨p, l, e, Rm, s, m, args, below, meth, c⟩, Q, D, g, ad, base, n0⟩ := Γ
  obtain ⟨hx, hb, hml, hown, hts, hK, hST, hlk, hrt, hA, hs0, hQ, hrm, hnm, hn0⟩ := h
  intro H locs la hP hz hS hl
  rw [hy] at hown
  exact va_ldcS hx hb hown hST.2.2.2.2.1.1 d (k1 H locs la hP hz hS hl)
theorem cr_ldcS72 (h : cr_Ok y cc nL ret rm K nS nE Γ) (hy : y.cls = RX7) (d : decode cc pc = .ok (.ldc 72, 2)) (k1 : cr_V Γ (pc + 2) ls (.ref 1004 :: st) I R n) : cr_V Γ pc ls st I R n := by
  obtain ⟨⟨p, l, e, Rm, s, m, args, below, meth, c⟩, Q, D, g, ad, base, n0⟩ := Γ
  obtain ⟨hx, hb, hml, hown, hts, hK, hST, hlk, hrt, hA, hs0, hQ, hrm, hnm, hn0⟩ := h
  intro H locs la hP hz hS hl
  rw [hy] at hown
  exact va_ldcS hx hb hown hST.2.2.2.2.1.2.1 d (k1 H locs la hP hz hS hl)
theorem cr_ldcS74 (h : cr_Ok y cc nL ret rm K nS nE Γ) (hy : y.cls = RX7) (d : decode cc pc = .ok (.ldc 74, 2)) (k1 : cr_V Γ (pc + 2) ls (.ref 1005 :: st) I R n) : cr_V Γ pc ls st I R n := by
  obtain ⟨⟨p, l, e, Rm, s, m, args, below, meth, c⟩, Q, D, g, ad, base, n0⟩ := Γ
  obtain ⟨hx, hb, hml, hown, hts, hK, hST, hlk, hrt, hA, hs0, hQ, hrm, hnm, hn0⟩ := h
  intro H locs la hP hz hS hl
  rw [hy] at hown
  exact va_ldcS hx hb hown hST.2.2.2.2.1.2.2.1 d (k1 H locs la hP hz hS hl)
theorem cr_ldcS55 (h : cr_Ok y cc nL ret rm K nS nE Γ) (hy : y.cls = RX7) (d : decode cc pc = .ok (.ldc 55, 2)) (k1 : cr_V Γ (pc + 2) ls (.ref 1006 :: st) I R n) : cr_V Γ pc ls st I R n := by
  obtain ⟨⟨p, l, e, Rm, s, m, args, below, meth, c⟩, Q, D, g, ad, base, n0⟩ := Γ
  obtain ⟨hx, hb, hml, hown, hts, hK, hST, hlk, hrt, hA, hs0, hQ, hrm, hnm, hn0⟩ := h
  intro H locs la hP hz hS hl
  rw [hy] at hown
  exact va_ldcS hx hb hown hST.2.2.2.2.1.2.2.2.1 d (k1 H locs la hP hz hS hl)
theorem cr_ldcS99 (h : cr_Ok y cc nL ret rm K nS nE Γ) (hy : y.cls = RX7) (d : decode cc pc = .ok (.ldc 99, 2)) (k1 : cr_V Γ (pc + 2) ls (.ref 1007 :: st) I R n) : cr_V Γ pc ls st I R n := by
  obtain ⟨⟨p, l, e, Rm, s, m, args, below, meth, c⟩, Q, D, g, ad, base, n0⟩ := Γ
  obtain ⟨hx, hb, hml, hown, hts, hK, hST, hlk, hrt, hA, hs0, hQ, hrm, hnm, hn0⟩ := h
  intro H locs la hP hz hS hl
  rw [hy] at hown
  exact va_ldcS hx hb hown hST.2.2.2.2.1.2.2.2.2.1 d (k1 H locs la hP hz hS hl)
theorem cr_ldcS101 (h : cr_Ok y cc nL ret rm K nS nE Γ) (hy : y.cls = RX7) (d : decode cc pc = .ok (.ldc 101, 2)) (k1 : cr_V Γ (pc + 2) ls (.ref 1008 :: st) I R n) : cr_V Γ pc ls st I R n := by
  obtain ⟨⟨p, l, e, Rm, s, m, args, below, meth, c⟩, Q, D, g, ad, base, n0⟩ := Γ
  obtain ⟨hx, hb, hml, hown, hts, hK, hST, hlk, hrt, hA, hs0, hQ, hrm, hnm, hn0⟩ := h
  intro H locs la hP hz hS hl
  rw [hy] at hown
  exact va_ldcS hx hb hown hST.2.2.2.2.1.2.2.2.2.2.1 d (k1 H locs la hP hz hS hl)
theorem cr_ldcS103 (h : cr_Ok y cc nL ret rm K nS nE Γ) (hy : y.cls = RX7) (d : decode cc pc = .ok (.ldc 103, 2)) (k1 : cr_V Γ (pc + 2) ls (.ref 1009 :: st) I R n) : cr_V Γ pc ls st I R n := by
  obtain ⟨⟨p, l, e, Rm, s, m, args, below, meth, c⟩, Q, D, g, ad, base, n0⟩ := Γ
  obtain ⟨hx, hb, hml, hown, hts, hK, hST, hlk, hrt, hA, hs0, hQ, hrm, hnm, hn0⟩ := h
  intro H locs la hP hz hS hl
  rw [hy] at hown
  exact va_ldcS hx hb hown hST.2.2.2.2.1.2.2.2.2.2.2.1 d (k1 H locs la hP hz hS hl)
theorem cr_ldcS105 (h : cr_Ok y cc nL ret rm K nS nE Γ) (hy : y.cls = RX7) (d : decode cc pc = .ok (.ldc 105, 2)) (k1 : cr_V Γ (pc + 2) ls (.ref 1010 :: st) I R n) : cr_V Γ pc ls st I R n := by
  obtain ⟨⟨p, l, e, Rm, s, m, args, below, meth, c⟩, Q, D, g, ad, base, n0⟩ := Γ
  obtain ⟨hx, hb, hml, hown, hts, hK, hST, hlk, hrt, hA, hs0, hQ, hrm, hnm, hn0⟩ := h
  intro H locs la hP hz hS hl
  rw [hy] at hown
  exact va_ldcS hx hb hown hST.2.2.2.2.1.2.2.2.2.2.2.2.1 d (k1 H locs la hP hz hS hl)
theorem cr_ldcS107 (h : cr_Ok y cc nL ret rm K nS nE Γ) (hy : y.cls = RX7) (d : decode cc pc = .ok (.ldc 107, 2)) (k1 : cr_V Γ (pc + 2) ls (.ref 1011 :: st) I R n) : cr_V Γ pc ls st I R n := by
  obtain ⟨⟨p, l, e, Rm, s, m, args, below, meth, c⟩, Q, D, g, ad, base, n0⟩ := Γ
  obtain ⟨hx, hb, hml, hown, hts, hK, hST, hlk, hrt, hA, hs0, hQ, hrm, hnm, hn0⟩ := h
  intro H locs la hP hz hS hl
  rw [hy] at hown
  exact va_ldcS hx hb hown hST.2.2.2.2.1.2.2.2.2.2.2.2.2.1 d (k1 H locs la hP hz hS hl)
theorem cr_ldcS109 (h : cr_Ok y cc nL ret rm K nS nE Γ) (hy : y.cls = RX7) (d : decode cc pc = .ok (.ldc 109, 2)) (k1 : cr_V Γ (pc + 2) ls (.ref 1012 :: st) I R n) : cr_V Γ pc ls st I R n := by
  obtain ⟨⟨p, l, e, Rm, s, m, args, below, meth, c⟩, Q, D, g, ad, base, n0⟩ := Γ
  obtain ⟨hx, hb, hml, hown, hts, hK, hST, hlk, hrt, hA, hs0, hQ, hrm, hnm, hn0⟩ := h
  intro H locs la hP hz hS hl
  rw [hy] at hown
  exact va_ldcS hx hb hown hST.2.2.2.2.1.2.2.2.2.2.2.2.2.2.1 d (k1 H locs la hP hz hS hl)
theorem cr_ldcS90 (h : cr_Ok y cc nL ret rm K nS nE Γ) (hy : y.cls = RX7) (d : decode cc pc = .ok (.ldc 90, 2)) (k1 : cr_V Γ (pc + 2) ls (.ref 1013 :: st) I R n) : cr_V Γ pc ls st I R n := by
  obtain ⟨⟨p, l, e, Rm, s, m, args, below, meth, c⟩, Q, D, g, ad, base, n0⟩ := Γ
  obtain ⟨hx, hb, hml, hown, hts, hK, hST, hlk, hrt, hA, hs0, hQ, hrm, hnm, hn0⟩ := h
  intro H locs la hP hz hS hl
  rw [hy] at hown
  exact va_ldcS hx hb hown hST.2.2.2.2.1.2.2.2.2.2.2.2.2.2.2.1 d (k1 H locs la hP hz hS hl)
theorem cr_ldcS92 (h : cr_Ok y cc nL ret rm K nS nE Γ) (hy : y.cls = RX7) (d : decode cc pc = .ok (.ldc 92, 2)) (k1 : cr_V Γ (pc + 2) ls (.ref 1014 :: st) I R n) : cr_V Γ pc ls st I R n := by
  obtain ⟨⟨p, l, e, Rm, s, m, args, below, meth, c⟩, Q, D, g, ad, base, n0⟩ := Γ
  obtain ⟨hx, hb, hml, hown, hts, hK, hST, hlk, hrt, hA, hs0, hQ, hrm, hnm, hn0⟩ := h
  intro H locs la hP hz hS hl
  rw [hy] at hown
  exact va_ldcS hx hb hown hST.2.2.2.2.1.2.2.2.2.2.2.2.2.2.2.2.1 d (k1 H locs la hP hz hS hl)
theorem cr_ldcS65 (h : cr_Ok y cc nL ret rm K nS nE Γ) (hy : y.cls = RX7) (d : decode cc pc = .ok (.ldc 65, 2)) (k1 : cr_V Γ (pc + 2) ls (.ref 1015 :: st) I R n) : cr_V Γ pc ls st I R n := by
  obtain ⟨⟨p, l, e, Rm, s, m, args, below, meth, c⟩, Q, D, g, ad, base, n0⟩ := Γ
  obtain ⟨hx, hb, hml, hown, hts, hK, hST, hlk, hrt, hA, hs0, hQ, hrm, hnm, hn0⟩ := h
  intro H locs la hP hz hS hl
  rw [hy] at hown
  exact va_ldcS hx hb hown hST.2.2.2.2.1.2.2.2.2.2.2.2.2.2.2.2.2 d (k1 H locs la hP hz hS hl)
end CRM
end
