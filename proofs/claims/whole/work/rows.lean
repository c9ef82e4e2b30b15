section
-- ===== PART A: goes FIRST, ahead of the names: the tables' words, and 'selects' of the private methods out of them =====
/-- a private method of a class that the tables say can be made, by its rows of tables_1 -/
def lw_okq (q : MethodName × Nat) : Prop := (q.1.cls ≠ "java/lang/invoke/MethodHandle" ∧ q.1.cls ≠ "java/lang/invoke/VarHandle") ∧ Cond.instantiable q.1.cls q.2 ∈ tables_1 ∧ Cond.privateMethod q.1 ∈ tables_1 ∧ Cond.instanceMethod q.1 ∈ tables_1
theorem lw_p0 : lw_okq (⟨"CartRows$Text", "advance", "()V"⟩, 5) := ⟨⟨by decide +kernel, by decide +kernel⟩, List.mem_of_getElem? (i := 27) (by decide +kernel), List.mem_of_getElem? (i := 392) (by decide +kernel), List.mem_of_getElem? (i := 393) (by decide +kernel)⟩
theorem lw_p1 : lw_okq (⟨"CartRows$Text", "isAtEnd", "()Z"⟩, 5) := ⟨⟨by decide +kernel, by decide +kernel⟩, List.mem_of_getElem? (i := 27) (by decide +kernel), List.mem_of_getElem? (i := 396) (by decide +kernel), List.mem_of_getElem? (i := 397) (by decide +kernel)⟩
theorem lw_p2 : lw_okq (⟨"CartRows$Text", "parseLine", "(I)Z"⟩, 5) := ⟨⟨by decide +kernel, by decide +kernel⟩, List.mem_of_getElem? (i := 27) (by decide +kernel), List.mem_of_getElem? (i := 406) (by decide +kernel), List.mem_of_getElem? (i := 407) (by decide +kernel)⟩
theorem lw_p3 : lw_okq (⟨"CartRows$Text", "parseWish", "(I)Z"⟩, 5) := ⟨⟨by decide +kernel, by decide +kernel⟩, List.mem_of_getElem? (i := 27) (by decide +kernel), List.mem_of_getElem? (i := 410) (by decide +kernel), List.mem_of_getElem? (i := 411) (by decide +kernel)⟩
theorem lw_p4 : lw_okq (⟨"CartRows$Text", "isWord", "(Ljava/lang/String;)Z"⟩, 5) := ⟨⟨by decide +kernel, by decide +kernel⟩, List.mem_of_getElem? (i := 27) (by decide +kernel), List.mem_of_getElem? (i := 415) (by decide +kernel), List.mem_of_getElem? (i := 416) (by decide +kernel)⟩
theorem lw_p5 : lw_okq (⟨"CartRows$Text", "isNumber", "()Z"⟩, 5) := ⟨⟨by decide +kernel, by decide +kernel⟩, List.mem_of_getElem? (i := 27) (by decide +kernel), List.mem_of_getElem? (i := 469) (by decide +kernel), List.mem_of_getElem? (i := 470) (by decide +kernel)⟩
theorem lw_p6 : lw_okq (⟨"CartRows$Text", "number", "()I"⟩, 5) := ⟨⟨by decide +kernel, by decide +kernel⟩, List.mem_of_getElem? (i := 27) (by decide +kernel), List.mem_of_getElem? (i := 473) (by decide +kernel), List.mem_of_getElem? (i := 474) (by decide +kernel)⟩
theorem lw_p7 : lw_okq (⟨"CartRows$Text", "parseTest", "(II)Z"⟩, 5) := ⟨⟨by decide +kernel, by decide +kernel⟩, List.mem_of_getElem? (i := 27) (by decide +kernel), List.mem_of_getElem? (i := 478) (by decide +kernel), List.mem_of_getElem? (i := 479) (by decide +kernel)⟩
theorem lw_p8 : lw_okq (⟨"CartRows$Text", "readingNamed", "()I"⟩, 5) := ⟨⟨by decide +kernel, by decide +kernel⟩, List.mem_of_getElem? (i := 27) (by decide +kernel), List.mem_of_getElem? (i := 482) (by decide +kernel), List.mem_of_getElem? (i := 483) (by decide +kernel)⟩
theorem lw_p9 : lw_okq (⟨"CartRows$Text", "isSign", "(I)Z"⟩, 5) := ⟨⟨by decide +kernel, by decide +kernel⟩, List.mem_of_getElem? (i := 27) (by decide +kernel), List.mem_of_getElem? (i := 495) (by decide +kernel), List.mem_of_getElem? (i := 496) (by decide +kernel)⟩
theorem lw_p10 : lw_okq (⟨"CartRows", "isNoFollower", "(I)Z"⟩, 6) := ⟨⟨by decide +kernel, by decide +kernel⟩, List.mem_of_getElem? (i := 19) (by decide +kernel), List.mem_of_getElem? (i := 539) (by decide +kernel), List.mem_of_getElem? (i := 540) (by decide +kernel)⟩
theorem lw_p11 : lw_okq (⟨"CartRows", "isNoLorry", "(I)Z"⟩, 6) := ⟨⟨by decide +kernel, by decide +kernel⟩, List.mem_of_getElem? (i := 19) (by decide +kernel), List.mem_of_getElem? (i := 547) (by decide +kernel), List.mem_of_getElem? (i := 548) (by decide +kernel)⟩
theorem lw_p12 : lw_okq (⟨"CartRows", "driveAsTold", "()V"⟩, 6) := ⟨⟨by decide +kernel, by decide +kernel⟩, List.mem_of_getElem? (i := 19) (by decide +kernel), List.mem_of_getElem? (i := 552) (by decide +kernel), List.mem_of_getElem? (i := 553) (by decide +kernel)⟩
theorem lw_p13 : lw_okq (⟨"CartRows$Run", "begin", "(LCartRows$Road;I)V"⟩, 10) := ⟨⟨by decide +kernel, by decide +kernel⟩, List.mem_of_getElem? (i := 202) (by decide +kernel), List.mem_of_getElem? (i := 560) (by decide +kernel), List.mem_of_getElem? (i := 561) (by decide +kernel)⟩
theorem lw_p14 : lw_okq (⟨"CartRows$Run", "pass", "(LCartRows$Road;III)V"⟩, 10) := ⟨⟨by decide +kernel, by decide +kernel⟩, List.mem_of_getElem? (i := 202) (by decide +kernel), List.mem_of_getElem? (i := 564) (by decide +kernel), List.mem_of_getElem? (i := 565) (by decide +kernel)⟩
theorem lw_p15 : lw_okq (⟨"CartRows$Run", "meetStranger", "(LCartRows$Road;I)V"⟩, 10) := ⟨⟨by decide +kernel, by decide +kernel⟩, List.mem_of_getElem? (i := 202) (by decide +kernel), List.mem_of_getElem? (i := 568) (by decide +kernel), List.mem_of_getElem? (i := 569) (by decide +kernel)⟩
def lw_privs_1 : List (MethodName × Nat) := [(⟨"CartRows$Text", "advance", "()V"⟩, 5), (⟨"CartRows$Text", "isAtEnd", "()Z"⟩, 5), (⟨"CartRows$Text", "parseLine", "(I)Z"⟩, 5), (⟨"CartRows$Text", "parseWish", "(I)Z"⟩, 5), (⟨"CartRows$Text", "isWord", "(Ljava/lang/String;)Z"⟩, 5), (⟨"CartRows$Text", "isNumber", "()Z"⟩, 5), (⟨"CartRows$Text", "number", "()I"⟩, 5), (⟨"CartRows$Text", "parseTest", "(II)Z"⟩, 5), (⟨"CartRows$Text", "readingNamed", "()I"⟩, 5), (⟨"CartRows$Text", "isSign", "(I)Z"⟩, 5), (⟨"CartRows", "isNoFollower", "(I)Z"⟩, 6), (⟨"CartRows", "isNoLorry", "(I)Z"⟩, 6), (⟨"CartRows", "driveAsTold", "()V"⟩, 6), (⟨"CartRows$Run", "begin", "(LCartRows$Road;I)V"⟩, 10), (⟨"CartRows$Run", "pass", "(LCartRows$Road;III)V"⟩, 10), (⟨"CartRows$Run", "meetStranger", "(LCartRows$Road;I)V"⟩, 10)]
theorem lw_r1 : ∀ q ∈ lw_privs_1, lw_okq q := List.forall_mem_cons.mpr ⟨lw_p0, List.forall_mem_cons.mpr ⟨lw_p1, List.forall_mem_cons.mpr ⟨lw_p2, List.forall_mem_cons.mpr ⟨lw_p3, List.forall_mem_cons.mpr ⟨lw_p4, List.forall_mem_cons.mpr ⟨lw_p5, List.forall_mem_cons.mpr ⟨lw_p6, List.forall_mem_cons.mpr ⟨lw_p7, List.forall_mem_cons.mpr ⟨lw_p8, List.forall_mem_cons.mpr ⟨lw_p9, List.forall_mem_cons.mpr ⟨lw_p10, List.forall_mem_cons.mpr ⟨lw_p11, List.forall_mem_cons.mpr ⟨lw_p12, List.forall_mem_cons.mpr ⟨lw_p13, List.forall_mem_cons.mpr ⟨lw_p14, List.forall_mem_cons.mpr ⟨lw_p15, fun _ h => absurd h List.not_mem_nil⟩⟩⟩⟩⟩⟩⟩⟩⟩⟩⟩⟩⟩⟩⟩⟩
theorem lw_p16 : lw_okq (⟨"CartRows$Run", "hear", "(III)V"⟩, 10) := ⟨⟨by decide +kernel, by decide +kernel⟩, List.mem_of_getElem? (i := 202) (by decide +kernel), List.mem_of_getElem? (i := 572) (by decide +kernel), List.mem_of_getElem? (i := 573) (by decide +kernel)⟩
theorem lw_p17 : lw_okq (⟨"CartRows$Run", "read", "(LCartRows$Road;II)V"⟩, 10) := ⟨⟨by decide +kernel, by decide +kernel⟩, List.mem_of_getElem? (i := 202) (by decide +kernel), List.mem_of_getElem? (i := 595) (by decide +kernel), List.mem_of_getElem? (i := 596) (by decide +kernel)⟩
theorem lw_p18 : lw_okq (⟨"CartRows$Table", "holds", "(I[I)Z"⟩, 6) := ⟨⟨by decide +kernel, by decide +kernel⟩, List.mem_of_getElem? (i := 33) (by decide +kernel), List.mem_of_getElem? (i := 608) (by decide +kernel), List.mem_of_getElem? (i := 609) (by decide +kernel)⟩
theorem lw_p19 : lw_okq (⟨"CartRows$Run", "speedBehind", "(LCartRows$Road;II)I"⟩, 10) := ⟨⟨by decide +kernel, by decide +kernel⟩, List.mem_of_getElem? (i := 202) (by decide +kernel), List.mem_of_getElem? (i := 612) (by decide +kernel), List.mem_of_getElem? (i := 613) (by decide +kernel)⟩
theorem lw_p20 : lw_okq (⟨"CartRows$Run", "go", "(LCartRows$Road;I)V"⟩, 10) := ⟨⟨by decide +kernel, by decide +kernel⟩, List.mem_of_getElem? (i := 202) (by decide +kernel), List.mem_of_getElem? (i := 621) (by decide +kernel), List.mem_of_getElem? (i := 622) (by decide +kernel)⟩
theorem lw_p21 : lw_okq (⟨"CartRows$Run", "noteTouch", "(LCartRows$Road;I)V"⟩, 10) := ⟨⟨by decide +kernel, by decide +kernel⟩, List.mem_of_getElem? (i := 202) (by decide +kernel), List.mem_of_getElem? (i := 625) (by decide +kernel), List.mem_of_getElem? (i := 626) (by decide +kernel)⟩
theorem lw_p22 : lw_okq (⟨"CartRows$Journeys", "burnt", "(LCartRows$Road;II)I"⟩, 8) := ⟨⟨by decide +kernel, by decide +kernel⟩, List.mem_of_getElem? (i := 248) (by decide +kernel), List.mem_of_getElem? (i := 717) (by decide +kernel), List.mem_of_getElem? (i := 718) (by decide +kernel)⟩
theorem lw_p23 : lw_okq (⟨"CartRows$Journeys", "leavesWith", "(III)Z"⟩, 8) := ⟨⟨by decide +kernel, by decide +kernel⟩, List.mem_of_getElem? (i := 248) (by decide +kernel), List.mem_of_getElem? (i := 721) (by decide +kernel), List.mem_of_getElem? (i := 722) (by decide +kernel)⟩
theorem lw_p24 : lw_okq (⟨"CartRows$Journeys", "leads", "(LCartRows$Road;II)Z"⟩, 8) := ⟨⟨by decide +kernel, by decide +kernel⟩, List.mem_of_getElem? (i := 248) (by decide +kernel), List.mem_of_getElem? (i := 725) (by decide +kernel), List.mem_of_getElem? (i := 726) (by decide +kernel)⟩
theorem lw_p25 : lw_okq (⟨"CartRows$Journeys", "choices", "()I"⟩, 8) := ⟨⟨by decide +kernel, by decide +kernel⟩, List.mem_of_getElem? (i := 248) (by decide +kernel), List.mem_of_getElem? (i := 733) (by decide +kernel), List.mem_of_getElem? (i := 734) (by decide +kernel)⟩
theorem lw_p26 : lw_okq (⟨"CartRows$Journeys", "turn", "()V"⟩, 8) := ⟨⟨by decide +kernel, by decide +kernel⟩, List.mem_of_getElem? (i := 248) (by decide +kernel), List.mem_of_getElem? (i := 737) (by decide +kernel), List.mem_of_getElem? (i := 738) (by decide +kernel)⟩
theorem lw_p27 : lw_okq (⟨"CartRows$Shares", "sumOverOrders", "(II)I"⟩, 1) := ⟨⟨by decide +kernel, by decide +kernel⟩, List.mem_of_getElem? (i := 287) (by decide +kernel), List.mem_of_getElem? (i := 769) (by decide +kernel), List.mem_of_getElem? (i := 770) (by decide +kernel)⟩
theorem lw_p28 : lw_okq (⟨"CartRows", "isNoEvent", "(I)Z"⟩, 6) := ⟨⟨by decide +kernel, by decide +kernel⟩, List.mem_of_getElem? (i := 19) (by decide +kernel), List.mem_of_getElem? (i := 809) (by decide +kernel), List.mem_of_getElem? (i := 810) (by decide +kernel)⟩
theorem lw_p29 : lw_okq (⟨"CartRows$Clocks", "startLags", "()V"⟩, 9) := ⟨⟨by decide +kernel, by decide +kernel⟩, List.mem_of_getElem? (i := 299) (by decide +kernel), List.mem_of_getElem? (i := 821) (by decide +kernel), List.mem_of_getElem? (i := 822) (by decide +kernel)⟩
theorem lw_p30 : lw_okq (⟨"CartRows$Clocks", "heedAfter", "(III)V"⟩, 9) := ⟨⟨by decide +kernel, by decide +kernel⟩, List.mem_of_getElem? (i := 299) (by decide +kernel), List.mem_of_getElem? (i := 825) (by decide +kernel), List.mem_of_getElem? (i := 826) (by decide +kernel)⟩
theorem lw_p31 : lw_okq (⟨"CartRows$Clocks", "narrowLags", "()V"⟩, 9) := ⟨⟨by decide +kernel, by decide +kernel⟩, List.mem_of_getElem? (i := 299) (by decide +kernel), List.mem_of_getElem? (i := 830) (by decide +kernel), List.mem_of_getElem? (i := 831) (by decide +kernel)⟩
def lw_privs_2 : List (MethodName × Nat) := [(⟨"CartRows$Run", "hear", "(III)V"⟩, 10), (⟨"CartRows$Run", "read", "(LCartRows$Road;II)V"⟩, 10), (⟨"CartRows$Table", "holds", "(I[I)Z"⟩, 6), (⟨"CartRows$Run", "speedBehind", "(LCartRows$Road;II)I"⟩, 10), (⟨"CartRows$Run", "go", "(LCartRows$Road;I)V"⟩, 10), (⟨"CartRows$Run", "noteTouch", "(LCartRows$Road;I)V"⟩, 10), (⟨"CartRows$Journeys", "burnt", "(LCartRows$Road;II)I"⟩, 8), (⟨"CartRows$Journeys", "leavesWith", "(III)Z"⟩, 8), (⟨"CartRows$Journeys", "leads", "(LCartRows$Road;II)Z"⟩, 8), (⟨"CartRows$Journeys", "choices", "()I"⟩, 8), (⟨"CartRows$Journeys", "turn", "()V"⟩, 8), (⟨"CartRows$Shares", "sumOverOrders", "(II)I"⟩, 1), (⟨"CartRows", "isNoEvent", "(I)Z"⟩, 6), (⟨"CartRows$Clocks", "startLags", "()V"⟩, 9), (⟨"CartRows$Clocks", "heedAfter", "(III)V"⟩, 9), (⟨"CartRows$Clocks", "narrowLags", "()V"⟩, 9)]
theorem lw_r2 : ∀ q ∈ lw_privs_2, lw_okq q := List.forall_mem_cons.mpr ⟨lw_p16, List.forall_mem_cons.mpr ⟨lw_p17, List.forall_mem_cons.mpr ⟨lw_p18, List.forall_mem_cons.mpr ⟨lw_p19, List.forall_mem_cons.mpr ⟨lw_p20, List.forall_mem_cons.mpr ⟨lw_p21, List.forall_mem_cons.mpr ⟨lw_p22, List.forall_mem_cons.mpr ⟨lw_p23, List.forall_mem_cons.mpr ⟨lw_p24, List.forall_mem_cons.mpr ⟨lw_p25, List.forall_mem_cons.mpr ⟨lw_p26, List.forall_mem_cons.mpr ⟨lw_p27, List.forall_mem_cons.mpr ⟨lw_p28, List.forall_mem_cons.mpr ⟨lw_p29, List.forall_mem_cons.mpr ⟨lw_p30, List.forall_mem_cons.mpr ⟨lw_p31, fun _ h => absurd h List.not_mem_nil⟩⟩⟩⟩⟩⟩⟩⟩⟩⟩⟩⟩⟩⟩⟩⟩
theorem lw_p32 : lw_okq (⟨"CartRowsModel", "token", "()V"⟩, 65) := ⟨⟨by decide +kernel, by decide +kernel⟩, List.mem_of_getElem? (i := 850) (by decide +kernel), List.mem_of_getElem? (i := 1080) (by decide +kernel), List.mem_of_getElem? (i := 1081) (by decide +kernel)⟩
theorem lw_p33 : lw_okq (⟨"CartRowsModel", "readsLine", "()Z"⟩, 65) := ⟨⟨by decide +kernel, by decide +kernel⟩, List.mem_of_getElem? (i := 850) (by decide +kernel), List.mem_of_getElem? (i := 1087) (by decide +kernel), List.mem_of_getElem? (i := 1088) (by decide +kernel)⟩
theorem lw_p34 : lw_okq (⟨"CartRowsModel", "isWord", "(JI)Z"⟩, 65) := ⟨⟨by decide +kernel, by decide +kernel⟩, List.mem_of_getElem? (i := 850) (by decide +kernel), List.mem_of_getElem? (i := 1092) (by decide +kernel), List.mem_of_getElem? (i := 1093) (by decide +kernel)⟩
theorem lw_p35 : lw_okq (⟨"CartRowsModel", "skipsNumber", "()Z"⟩, 65) := ⟨⟨by decide +kernel, by decide +kernel⟩, List.mem_of_getElem? (i := 850) (by decide +kernel), List.mem_of_getElem? (i := 1099) (by decide +kernel), List.mem_of_getElem? (i := 1100) (by decide +kernel)⟩
theorem lw_p36 : lw_okq (⟨"CartRowsModel", "skips", "(JI)Z"⟩, 65) := ⟨⟨by decide +kernel, by decide +kernel⟩, List.mem_of_getElem? (i := 850) (by decide +kernel), List.mem_of_getElem? (i := 1104) (by decide +kernel), List.mem_of_getElem? (i := 1105) (by decide +kernel)⟩
theorem lw_p37 : lw_okq (⟨"CartRowsModel", "readsTest", "(I)Z"⟩, 65) := ⟨⟨by decide +kernel, by decide +kernel⟩, List.mem_of_getElem? (i := 850) (by decide +kernel), List.mem_of_getElem? (i := 1108) (by decide +kernel), List.mem_of_getElem? (i := 1109) (by decide +kernel)⟩
theorem lw_p38 : lw_okq (⟨"CartRowsModel", "readingWord", "()I"⟩, 65) := ⟨⟨by decide +kernel, by decide +kernel⟩, List.mem_of_getElem? (i := 850) (by decide +kernel), List.mem_of_getElem? (i := 1112) (by decide +kernel), List.mem_of_getElem? (i := 1113) (by decide +kernel)⟩
theorem lw_p39 : lw_okq (⟨"CartRowsModel", "isLorry", "(I)Z"⟩, 65) := ⟨⟨by decide +kernel, by decide +kernel⟩, List.mem_of_getElem? (i := 850) (by decide +kernel), List.mem_of_getElem? (i := 1163) (by decide +kernel), List.mem_of_getElem? (i := 1164) (by decide +kernel)⟩
theorem lw_p40 : lw_okq (⟨"CartRowsModel", "layTold", "()V"⟩, 65) := ⟨⟨by decide +kernel, by decide +kernel⟩, List.mem_of_getElem? (i := 850) (by decide +kernel), List.mem_of_getElem? (i := 1172) (by decide +kernel), List.mem_of_getElem? (i := 1173) (by decide +kernel)⟩
theorem lw_p41 : lw_okq (⟨"CartRowsModel", "layRun", "(III)V"⟩, 65) := ⟨⟨by decide +kernel, by decide +kernel⟩, List.mem_of_getElem? (i := 850) (by decide +kernel), List.mem_of_getElem? (i := 1176) (by decide +kernel), List.mem_of_getElem? (i := 1177) (by decide +kernel)⟩
theorem lw_p42 : lw_okq (⟨"CartRowsModel", "layWishes", "(III)V"⟩, 65) := ⟨⟨by decide +kernel, by decide +kernel⟩, List.mem_of_getElem? (i := 850) (by decide +kernel), List.mem_of_getElem? (i := 1180) (by decide +kernel), List.mem_of_getElem? (i := 1181) (by decide +kernel)⟩
theorem lw_p43 : lw_okq (⟨"CartRowsModel", "isStrange", "(II)Z"⟩, 65) := ⟨⟨by decide +kernel, by decide +kernel⟩, List.mem_of_getElem? (i := 850) (by decide +kernel), List.mem_of_getElem? (i := 1184) (by decide +kernel), List.mem_of_getElem? (i := 1185) (by decide +kernel)⟩
theorem lw_p44 : lw_okq (⟨"CartRowsModel", "wishBy", "(IIIIII)I"⟩, 65) := ⟨⟨by decide +kernel, by decide +kernel⟩, List.mem_of_getElem? (i := 850) (by decide +kernel), List.mem_of_getElem? (i := 1188) (by decide +kernel), List.mem_of_getElem? (i := 1189) (by decide +kernel)⟩
theorem lw_p45 : lw_okq (⟨"CartRowsModel", "pushedIn", "(I)I"⟩, 65) := ⟨⟨by decide +kernel, by decide +kernel⟩, List.mem_of_getElem? (i := 850) (by decide +kernel), List.mem_of_getElem? (i := 1195) (by decide +kernel), List.mem_of_getElem? (i := 1196) (by decide +kernel)⟩
theorem lw_p46 : lw_okq (⟨"CartRowsModel", "goOn", "(I)V"⟩, 65) := ⟨⟨by decide +kernel, by decide +kernel⟩, List.mem_of_getElem? (i := 850) (by decide +kernel), List.mem_of_getElem? (i := 1199) (by decide +kernel), List.mem_of_getElem? (i := 1200) (by decide +kernel)⟩
theorem lw_p47 : lw_okq (⟨"CartRowsModel", "slopeFor", "(I)I"⟩, 65) := ⟨⟨by decide +kernel, by decide +kernel⟩, List.mem_of_getElem? (i := 850) (by decide +kernel), List.mem_of_getElem? (i := 1203) (by decide +kernel), List.mem_of_getElem? (i := 1204) (by decide +kernel)⟩
def lw_privs_3 : List (MethodName × Nat) := [(⟨"CartRowsModel", "token", "()V"⟩, 65), (⟨"CartRowsModel", "readsLine", "()Z"⟩, 65), (⟨"CartRowsModel", "isWord", "(JI)Z"⟩, 65), (⟨"CartRowsModel", "skipsNumber", "()Z"⟩, 65), (⟨"CartRowsModel", "skips", "(JI)Z"⟩, 65), (⟨"CartRowsModel", "readsTest", "(I)Z"⟩, 65), (⟨"CartRowsModel", "readingWord", "()I"⟩, 65), (⟨"CartRowsModel", "isLorry", "(I)Z"⟩, 65), (⟨"CartRowsModel", "layTold", "()V"⟩, 65), (⟨"CartRowsModel", "layRun", "(III)V"⟩, 65), (⟨"CartRowsModel", "layWishes", "(III)V"⟩, 65), (⟨"CartRowsModel", "isStrange", "(II)Z"⟩, 65), (⟨"CartRowsModel", "wishBy", "(IIIIII)I"⟩, 65), (⟨"CartRowsModel", "pushedIn", "(I)I"⟩, 65), (⟨"CartRowsModel", "goOn", "(I)V"⟩, 65), (⟨"CartRowsModel", "slopeFor", "(I)I"⟩, 65)]
theorem lw_r3 : ∀ q ∈ lw_privs_3, lw_okq q := List.forall_mem_cons.mpr ⟨lw_p32, List.forall_mem_cons.mpr ⟨lw_p33, List.forall_mem_cons.mpr ⟨lw_p34, List.forall_mem_cons.mpr ⟨lw_p35, List.forall_mem_cons.mpr ⟨lw_p36, List.forall_mem_cons.mpr ⟨lw_p37, List.forall_mem_cons.mpr ⟨lw_p38, List.forall_mem_cons.mpr ⟨lw_p39, List.forall_mem_cons.mpr ⟨lw_p40, List.forall_mem_cons.mpr ⟨lw_p41, List.forall_mem_cons.mpr ⟨lw_p42, List.forall_mem_cons.mpr ⟨lw_p43, List.forall_mem_cons.mpr ⟨lw_p44, List.forall_mem_cons.mpr ⟨lw_p45, List.forall_mem_cons.mpr ⟨lw_p46, List.forall_mem_cons.mpr ⟨lw_p47, fun _ h => absurd h List.not_mem_nil⟩⟩⟩⟩⟩⟩⟩⟩⟩⟩⟩⟩⟩⟩⟩⟩
theorem lw_p48 : lw_okq (⟨"CartRowsModel", "dipOf", "(I)I"⟩, 65) := ⟨⟨by decide +kernel, by decide +kernel⟩, List.mem_of_getElem? (i := 850) (by decide +kernel), List.mem_of_getElem? (i := 1220) (by decide +kernel), List.mem_of_getElem? (i := 1221) (by decide +kernel)⟩
theorem lw_p49 : lw_okq (⟨"CartRowsModel", "worstOf", "(III)I"⟩, 65) := ⟨⟨by decide +kernel, by decide +kernel⟩, List.mem_of_getElem? (i := 850) (by decide +kernel), List.mem_of_getElem? (i := 1236) (by decide +kernel), List.mem_of_getElem? (i := 1237) (by decide +kernel)⟩
theorem lw_p50 : lw_okq (⟨"CartRowsModel", "burnt", "()I"⟩, 65) := ⟨⟨by decide +kernel, by decide +kernel⟩, List.mem_of_getElem? (i := 850) (by decide +kernel), List.mem_of_getElem? (i := 1272) (by decide +kernel), List.mem_of_getElem? (i := 1273) (by decide +kernel)⟩
theorem lw_p51 : lw_okq (⟨"CartRowsModel", "leads", "(III)Z"⟩, 65) := ⟨⟨by decide +kernel, by decide +kernel⟩, List.mem_of_getElem? (i := 850) (by decide +kernel), List.mem_of_getElem? (i := 1276) (by decide +kernel), List.mem_of_getElem? (i := 1277) (by decide +kernel)⟩
theorem lw_p52 : lw_okq (⟨"CartRowsModel", "goes", "(III)Z"⟩, 65) := ⟨⟨by decide +kernel, by decide +kernel⟩, List.mem_of_getElem? (i := 850) (by decide +kernel), List.mem_of_getElem? (i := 1280) (by decide +kernel), List.mem_of_getElem? (i := 1281) (by decide +kernel)⟩
theorem lw_p53 : lw_okq (⟨"CartRowsModel", "sparedIn", "(I)I"⟩, 65) := ⟨⟨by decide +kernel, by decide +kernel⟩, List.mem_of_getElem? (i := 850) (by decide +kernel), List.mem_of_getElem? (i := 1300) (by decide +kernel), List.mem_of_getElem? (i := 1301) (by decide +kernel)⟩
theorem lw_p54 : lw_okq (⟨"CartRowsModel", "coins", "(II)I"⟩, 65) := ⟨⟨by decide +kernel, by decide +kernel⟩, List.mem_of_getElem? (i := 850) (by decide +kernel), List.mem_of_getElem? (i := 1308) (by decide +kernel), List.mem_of_getElem? (i := 1309) (by decide +kernel)⟩
theorem lw_p55 : lw_okq (⟨"CartRowsModel", "shareOf", "(II)I"⟩, 65) := ⟨⟨by decide +kernel, by decide +kernel⟩, List.mem_of_getElem? (i := 850) (by decide +kernel), List.mem_of_getElem? (i := 1315) (by decide +kernel), List.mem_of_getElem? (i := 1316) (by decide +kernel)⟩
theorem lw_p56 : lw_okq (⟨"CartRowsModel", "isEvent", "(I)Z"⟩, 65) := ⟨⟨by decide +kernel, by decide +kernel⟩, List.mem_of_getElem? (i := 850) (by decide +kernel), List.mem_of_getElem? (i := 1339) (by decide +kernel), List.mem_of_getElem? (i := 1340) (by decide +kernel)⟩
theorem lw_p57 : lw_okq (⟨"CartRowsModel", "layOffs", "()Z"⟩, 65) := ⟨⟨by decide +kernel, by decide +kernel⟩, List.mem_of_getElem? (i := 850) (by decide +kernel), List.mem_of_getElem? (i := 1347) (by decide +kernel), List.mem_of_getElem? (i := 1348) (by decide +kernel)⟩
def lw_privs_4 : List (MethodName × Nat) := [(⟨"CartRowsModel", "dipOf", "(I)I"⟩, 65), (⟨"CartRowsModel", "worstOf", "(III)I"⟩, 65), (⟨"CartRowsModel", "burnt", "()I"⟩, 65), (⟨"CartRowsModel", "leads", "(III)Z"⟩, 65), (⟨"CartRowsModel", "goes", "(III)Z"⟩, 65), (⟨"CartRowsModel", "sparedIn", "(I)I"⟩, 65), (⟨"CartRowsModel", "coins", "(II)I"⟩, 65), (⟨"CartRowsModel", "shareOf", "(II)I"⟩, 65), (⟨"CartRowsModel", "isEvent", "(I)Z"⟩, 65), (⟨"CartRowsModel", "layOffs", "()Z"⟩, 65)]
theorem lw_r4 : ∀ q ∈ lw_privs_4, lw_okq q := List.forall_mem_cons.mpr ⟨lw_p48, List.forall_mem_cons.mpr ⟨lw_p49, List.forall_mem_cons.mpr ⟨lw_p50, List.forall_mem_cons.mpr ⟨lw_p51, List.forall_mem_cons.mpr ⟨lw_p52, List.forall_mem_cons.mpr ⟨lw_p53, List.forall_mem_cons.mpr ⟨lw_p54, List.forall_mem_cons.mpr ⟨lw_p55, List.forall_mem_cons.mpr ⟨lw_p56, List.forall_mem_cons.mpr ⟨lw_p57, fun _ h => absurd h List.not_mem_nil⟩⟩⟩⟩⟩⟩⟩⟩⟩⟩
def lw_privs : List (MethodName × Nat) := lw_privs_1 ++ (lw_privs_2 ++ (lw_privs_3 ++ (lw_privs_4)))
def lw_tbl : List Cond := k2_sels lw_privs ++ tables_1
theorem lw_privs_ok : ∀ q ∈ lw_privs, lw_okq q := by
  show ∀ q ∈ lw_privs_1 ++ (lw_privs_2 ++ (lw_privs_3 ++ (lw_privs_4))), lw_okq q
  exact List.forall_mem_append.mpr ⟨lw_r1, List.forall_mem_append.mpr ⟨lw_r2, List.forall_mem_append.mpr ⟨lw_r3, lw_r4⟩⟩⟩

def RX0 : String := "CartRows$Clocks"
def TX0 : u_T := fun k => match k with
  | 0 => ("CartRows$Clocks", "off", "[I", true)
  | 1 => ("CartRows$Clocks", "events", "I", false)
  | 2 => ("CartRows$Clocks", "eventClock", "[I", true)
  | 3 => ("CartRows$Clocks", "eventTime", "[I", true)
  | 4 => ("CartRows$Clocks", "afters", "I", false)
  | 5 => ("CartRows$Clocks", "afterOne", "[I", true)
  | 6 => ("CartRows$Clocks", "afterTwo", "[I", true)
  | 7 => ("CartRows$Clocks", "afterBy", "[I", true)
  | _ => ("CartRows$Clocks", "lag", "[[I", true)
def tyX0 : Nat → FieldType := fun k => match k with
  | 0 => .array .int
  | 1 => .int
  | 2 => .array .int
  | 3 => .array .int
  | 4 => .int
  | 5 => .array .int
  | 6 => .array .int
  | 7 => .array .int
  | _ => .array (.array .int)
theorem nmX0 : ∀ a, a < 9 → ∀ b, b < 9 → a ≠ b → (TX0 a).2.1 ≠ (TX0 b).2.1 := by decide +kernel
theorem tyX0_ok : ∀ k, k < 9 → parseFieldDescriptor (TX0 k).2.2.1 = some (tyX0 k) := by decide +kernel
abbrev cX0_init : ByteArray := prog_2_method_1_code
def yX0_init : MethodName := ⟨RX0, "<init>", "()V"⟩
abbrev cX0_layTogether : ByteArray := prog_2_method_2_code
def yX0_layTogether : MethodName := ⟨RX0, "layTogether", "()Z"⟩
abbrev cX0_earliest : ByteArray := prog_2_method_3_code
def yX0_earliest : MethodName := ⟨RX0, "earliest", "(I)I"⟩
abbrev cX0_latest : ByteArray := prog_2_method_4_code
def yX0_latest : MethodName := ⟨RX0, "latest", "(I)I"⟩
abbrev cX0_startLags : ByteArray := prog_2_method_5_code
def yX0_startLags : MethodName := ⟨RX0, "startLags", "()V"⟩
abbrev cX0_heedAfter : ByteArray := prog_2_method_6_code
def yX0_heedAfter : MethodName := ⟨RX0, "heedAfter", "(III)V"⟩
abbrev cX0_narrowLags : ByteArray := prog_2_method_7_code
def yX0_narrowLags : MethodName := ⟨RX0, "narrowLags", "()V"⟩
def RX1 : String := "CartRows$Journeys"
def TX1 : u_T := fun k => match k with
  | 0 => ("CartRows$Journeys", "number", "I", false)
  | 1 => ("CartRows$Journeys", "from", "[I", true)
  | 2 => ("CartRows$Journeys", "to", "[I", true)
  | 3 => ("CartRows$Journeys", "first", "[I", true)
  | 4 => ("CartRows$Journeys", "last", "[I", true)
  | 5 => ("CartRows$Journeys", "make", "[I", true)
  | 6 => ("CartRows$Journeys", "hour", "[I", true)
  | _ => ("CartRows$Journeys", "bestHour", "[I", true)
def tyX1 : Nat → FieldType := fun k => match k with
  | 0 => .int
  | 1 => .array .int
  | 2 => .array .int
  | 3 => .array .int
  | 4 => .array .int
  | 5 => .array .int
  | 6 => .array .int
  | _ => .array .int
theorem nmX1 : ∀ a, a < 8 → ∀ b, b < 8 → a ≠ b → (TX1 a).2.1 ≠ (TX1 b).2.1 := by decide +kernel
theorem tyX1_ok : ∀ k, k < 8 → parseFieldDescriptor (TX1 k).2.2.1 = some (tyX1 k) := by decide +kernel
abbrev cX1_init : ByteArray := prog_3_method_1_code
def yX1_init : MethodName := ⟨RX1, "<init>", "()V"⟩
abbrev cX1_cost : ByteArray := prog_3_method_2_code
def yX1_cost : MethodName := ⟨RX1, "cost", "(LCartRows$Road;)I"⟩
abbrev cX1_burnt : ByteArray := prog_3_method_3_code
def yX1_burnt : MethodName := ⟨RX1, "burnt", "(LCartRows$Road;II)I"⟩
abbrev cX1_leavesWith : ByteArray := prog_3_method_4_code
def yX1_leavesWith : MethodName := ⟨RX1, "leavesWith", "(III)Z"⟩
abbrev cX1_leads : ByteArray := prog_3_method_5_code
def yX1_leads : MethodName := ⟨RX1, "leads", "(LCartRows$Road;II)Z"⟩
abbrev cX1_findBest : ByteArray := prog_3_method_6_code
def yX1_findBest : MethodName := ⟨RX1, "findBest", "(LCartRows$Road;)I"⟩
abbrev cX1_choices : ByteArray := prog_3_method_7_code
def yX1_choices : MethodName := ⟨RX1, "choices", "()I"⟩
abbrev cX1_turn : ByteArray := prog_3_method_8_code
def yX1_turn : MethodName := ⟨RX1, "turn", "()V"⟩
def RX2 : String := "CartRows$Make"
def TX2 : u_T := fun k => match k with
  | 0 => ("CartRows$Make", "weight", "I", false)
  | 1 => ("CartRows$Make", "brake", "I", false)
  | 2 => ("CartRows$Make", "pull", "I", false)
  | 3 => ("CartRows$Make", "foot", "I", false)
  | _ => ("CartRows$Make", "table", "LCartRows$Table;", false)
def tyX2 : Nat → FieldType := fun k => match k with
  | 0 => .int
  | 1 => .int
  | 2 => .int
  | 3 => .int
  | _ => .object "CartRows$Table"
theorem nmX2 : ∀ a, a < 5 → ∀ b, b < 5 → a ≠ b → (TX2 a).2.1 ≠ (TX2 b).2.1 := by decide +kernel
theorem tyX2_ok : ∀ k, k < 5 → parseFieldDescriptor (TX2 k).2.2.1 = some (tyX2 k) := by decide +kernel
abbrev cX2_init : ByteArray := prog_4_method_1_code
def yX2_init : MethodName := ⟨RX2, "<init>", "()V"⟩
abbrev cX2_bounded : ByteArray := prog_4_method_2_code
def yX2_bounded : MethodName := ⟨RX2, "bounded", "(I)I"⟩
def RX3 : String := "CartRows$Road"
def TX3 : u_T := fun k => match k with
  | 0 => ("CartRows$Road", "makes", "[LCartRows$Make;", true)
  | 1 => ("CartRows$Road", "lorries", "I", false)
  | 2 => ("CartRows$Road", "makeOf", "[I", true)
  | 3 => ("CartRows$Road", "settings", "[I", true)
  | 4 => ("CartRows$Road", "lost", "I", false)
  | 5 => ("CartRows$Road", "pushes", "I", false)
  | 6 => ("CartRows$Road", "pushTick", "[I", true)
  | 7 => ("CartRows$Road", "pushWish", "[I", true)
  | 8 => ("CartRows$Road", "hills", "I", false)
  | 9 => ("CartRows$Road", "hillFrom", "[I", true)
  | 10 => ("CartRows$Road", "hillTo", "[I", true)
  | 11 => ("CartRows$Road", "hillWeight", "[I", true)
  | 12 => ("CartRows$Road", "hillSlope", "[I", true)
  | 13 => ("CartRows$Road", "strangerLorry", "I", false)
  | 14 => ("CartRows$Road", "strangerFrom", "I", false)
  | 15 => ("CartRows$Road", "strangerTo", "I", false)
  | _ => ("CartRows$Road", "strangerSpeed", "I", false)
def tyX3 : Nat → FieldType := fun k => match k with
  | 0 => .array (.object "CartRows$Make")
  | 1 => .int
  | 2 => .array .int
  | 3 => .array .int
  | 4 => .int
  | 5 => .int
  | 6 => .array .int
  | 7 => .array .int
  | 8 => .int
  | 9 => .array .int
  | 10 => .array .int
  | 11 => .array .int
  | 12 => .array .int
  | 13 => .int
  | 14 => .int
  | 15 => .int
  | _ => .int
theorem nmX3 : ∀ a, a < 17 → ∀ b, b < 17 → a ≠ b → (TX3 a).2.1 ≠ (TX3 b).2.1 := by decide +kernel
theorem tyX3_ok : ∀ k, k < 17 → parseFieldDescriptor (TX3 k).2.2.1 = some (tyX3 k) := by decide +kernel
abbrev cX3_init : ByteArray := prog_5_method_1_code
def yX3_init : MethodName := ⟨RX3, "<init>", "()V"⟩
abbrev cX3_makeOfLorry : ByteArray := prog_5_method_2_code
def yX3_makeOfLorry : MethodName := ⟨RX3, "makeOfLorry", "(I)LCartRows$Make;"⟩
abbrev cX3_pushIn : ByteArray := prog_5_method_3_code
def yX3_pushIn : MethodName := ⟨RX3, "pushIn", "(I)I"⟩
abbrev cX3_mostSpeed : ByteArray := prog_5_method_4_code
def yX3_mostSpeed : MethodName := ⟨RX3, "mostSpeed", "(II)I"⟩
abbrev cX3_hasStrangerAhead : ByteArray := prog_5_method_5_code
def yX3_hasStrangerAhead : MethodName := ⟨RX3, "hasStrangerAhead", "(II)Z"⟩
def RX4 : String := "CartRows$Run"
def TX4 : u_T := fun k => match k with
  | 0 => ("CartRows$Run", "speed", "[[I", true)
  | 1 => ("CartRows$Run", "gap", "[[I", true)
  | 2 => ("CartRows$Run", "place", "[[I", true)
  | 3 => ("CartRows$Run", "wish", "[[I", true)
  | 4 => ("CartRows$Run", "heard", "[I", true)
  | 5 => ("CartRows$Run", "old", "[I", true)
  | 6 => ("CartRows$Run", "touchTick", "I", false)
  | 7 => ("CartRows$Run", "touchLorry", "I", false)
  | 8 => ("CartRows$Run", "readings", "[I", true)
  | _ => ("CartRows$Run", "strangerGap", "I", false)
def tyX4 : Nat → FieldType := fun k => match k with
  | 0 => .array (.array .int)
  | 1 => .array (.array .int)
  | 2 => .array (.array .int)
  | 3 => .array (.array .int)
  | 4 => .array .int
  | 5 => .array .int
  | 6 => .int
  | 7 => .int
  | 8 => .array .int
  | _ => .int
theorem nmX4 : ∀ a, a < 10 → ∀ b, b < 10 → a ≠ b → (TX4 a).2.1 ≠ (TX4 b).2.1 := by decide +kernel
theorem tyX4_ok : ∀ k, k < 10 → parseFieldDescriptor (TX4 k).2.2.1 = some (tyX4 k) := by decide +kernel
abbrev cX4_init : ByteArray := prog_6_method_1_code
def yX4_init : MethodName := ⟨RX4, "<init>", "()V"⟩
abbrev cX4_drive : ByteArray := prog_6_method_2_code
def yX4_drive : MethodName := ⟨RX4, "drive", "(LCartRows$Road;III)V"⟩
abbrev cX4_touches : ByteArray := prog_6_method_3_code
def yX4_touches : MethodName := ⟨RX4, "touches", "(LCartRows$Road;III)Z"⟩
abbrev cX4_firstTouching : ByteArray := prog_6_method_4_code
def yX4_firstTouching : MethodName := ⟨RX4, "firstTouching", "(LCartRows$Road;III)I"⟩
abbrev cX4_leastGap : ByteArray := prog_6_method_5_code
def yX4_leastGap : MethodName := ⟨RX4, "leastGap", "(I)I"⟩
abbrev cX4_dipOf : ByteArray := prog_6_method_6_code
def yX4_dipOf : MethodName := ⟨RX4, "dipOf", "(I)I"⟩
abbrev cX4_weightBetween : ByteArray := prog_6_method_7_code
def yX4_weightBetween : MethodName := ⟨RX4, "weightBetween", "(LCartRows$Road;III)I"⟩
abbrev cX4_begin : ByteArray := prog_6_method_8_code
def yX4_begin : MethodName := ⟨RX4, "begin", "(LCartRows$Road;I)V"⟩
abbrev cX4_pass : ByteArray := prog_6_method_9_code
def yX4_pass : MethodName := ⟨RX4, "pass", "(LCartRows$Road;III)V"⟩
abbrev cX4_meetStranger : ByteArray := prog_6_method_10_code
def yX4_meetStranger : MethodName := ⟨RX4, "meetStranger", "(LCartRows$Road;I)V"⟩
abbrev cX4_hear : ByteArray := prog_6_method_11_code
def yX4_hear : MethodName := ⟨RX4, "hear", "(III)V"⟩
abbrev cX4_read : ByteArray := prog_6_method_12_code
def yX4_read : MethodName := ⟨RX4, "read", "(LCartRows$Road;II)V"⟩
abbrev cX4_speedBehind : ByteArray := prog_6_method_13_code
def yX4_speedBehind : MethodName := ⟨RX4, "speedBehind", "(LCartRows$Road;II)I"⟩
abbrev cX4_go : ByteArray := prog_6_method_14_code
def yX4_go : MethodName := ⟨RX4, "go", "(LCartRows$Road;I)V"⟩
abbrev cX4_noteTouch : ByteArray := prog_6_method_15_code
def yX4_noteTouch : MethodName := ⟨RX4, "noteTouch", "(LCartRows$Road;I)V"⟩
def RX5 : String := "CartRows$Shares"
def TX5 : u_T := fun k => match k with
  | _ => ("CartRows$Shares", "sparedBehind", "[[I", true)
def tyX5 : Nat → FieldType := fun k => match k with
  | _ => .array (.array .int)
theorem nmX5 : ∀ a, a < 1 → ∀ b, b < 1 → a ≠ b → (TX5 a).2.1 ≠ (TX5 b).2.1 := by decide +kernel
theorem tyX5_ok : ∀ k, k < 1 → parseFieldDescriptor (TX5 k).2.2.1 = some (tyX5 k) := by decide +kernel
abbrev cX5_init : ByteArray := prog_7_method_1_code
def yX5_init : MethodName := ⟨RX5, "<init>", "()V"⟩
abbrev cX5_sparedOf : ByteArray := prog_7_method_2_code
def yX5_sparedOf : MethodName := ⟨RX5, "sparedOf", "(I)I"⟩
abbrev cX5_above : ByteArray := prog_7_method_3_code
def yX5_above : MethodName := ⟨RX5, "above", "(II)I"⟩
abbrev cX5_below : ByteArray := prog_7_method_4_code
def yX5_below : MethodName := ⟨RX5, "below", "(II)I"⟩
abbrev cX5_coins : ByteArray := prog_7_method_5_code
def yX5_coins : MethodName := ⟨RX5, "coins", "(II)I"⟩
abbrev cX5_sumOverOrders : ByteArray := prog_7_method_6_code
def yX5_sumOverOrders : MethodName := ⟨RX5, "sumOverOrders", "(II)I"⟩
abbrev cX5_greatestDivisor : ByteArray := prog_7_method_7_code
def yX5_greatestDivisor : MethodName := ⟨RX5, "greatestDivisor", "(II)I"⟩
def RX6 : String := "CartRows$Table"
def TX6 : u_T := fun k => match k with
  | 0 => ("CartRows$Table", "lines", "I", false)
  | 1 => ("CartRows$Table", "wish", "[I", true)
  | 2 => ("CartRows$Table", "tests", "[I", true)
  | 3 => ("CartRows$Table", "reading", "[[I", true)
  | 4 => ("CartRows$Table", "bound", "[[I", true)
  | _ => ("CartRows$Table", "above", "[[I", true)
def tyX6 : Nat → FieldType := fun k => match k with
  | 0 => .int
  | 1 => .array .int
  | 2 => .array .int
  | 3 => .array (.array .int)
  | 4 => .array (.array .int)
  | _ => .array (.array .int)
theorem nmX6 : ∀ a, a < 6 → ∀ b, b < 6 → a ≠ b → (TX6 a).2.1 ≠ (TX6 b).2.1 := by decide +kernel
theorem tyX6_ok : ∀ k, k < 6 → parseFieldDescriptor (TX6 k).2.2.1 = some (tyX6 k) := by decide +kernel
abbrev cX6_init : ByteArray := prog_8_method_1_code
def yX6_init : MethodName := ⟨RX6, "<init>", "()V"⟩
abbrev cX6_wishBy : ByteArray := prog_8_method_2_code
def yX6_wishBy : MethodName := ⟨RX6, "wishBy", "([I)I"⟩
abbrev cX6_holds : ByteArray := prog_8_method_3_code
def yX6_holds : MethodName := ⟨RX6, "holds", "(I[I)Z"⟩
def RX7 : String := "CartRows$Text"
def TX7 : u_T := fun k => match k with
  | 0 => ("CartRows$Text", "bytes", "[I", true)
  | 1 => ("CartRows$Text", "length", "I", false)
  | 2 => ("CartRows$Text", "parsed", "LCartRows$Table;", false)
  | 3 => ("CartRows$Text", "start", "I", false)
  | _ => ("CartRows$Text", "end", "I", false)
def tyX7 : Nat → FieldType := fun k => match k with
  | 0 => .array .int
  | 1 => .int
  | 2 => .object "CartRows$Table"
  | 3 => .int
  | _ => .int
theorem nmX7 : ∀ a, a < 5 → ∀ b, b < 5 → a ≠ b → (TX7 a).2.1 ≠ (TX7 b).2.1 := by decide +kernel
theorem tyX7_ok : ∀ k, k < 5 → parseFieldDescriptor (TX7 k).2.2.1 = some (tyX7 k) := by decide +kernel
abbrev cX7_init : ByteArray := prog_9_method_1_code
def yX7_init : MethodName := ⟨RX7, "<init>", "()V"⟩
abbrev cX7_add : ByteArray := prog_9_method_2_code
def yX7_add : MethodName := ⟨RX7, "add", "(I)V"⟩
abbrev cX7_parse : ByteArray := prog_9_method_3_code
def yX7_parse : MethodName := ⟨RX7, "parse", "()I"⟩
abbrev cX7_parseLine : ByteArray := prog_9_method_4_code
def yX7_parseLine : MethodName := ⟨RX7, "parseLine", "(I)Z"⟩
abbrev cX7_parseWish : ByteArray := prog_9_method_5_code
def yX7_parseWish : MethodName := ⟨RX7, "parseWish", "(I)Z"⟩
abbrev cX7_parseTest : ByteArray := prog_9_method_6_code
def yX7_parseTest : MethodName := ⟨RX7, "parseTest", "(II)Z"⟩
abbrev cX7_readingNamed : ByteArray := prog_9_method_7_code
def yX7_readingNamed : MethodName := ⟨RX7, "readingNamed", "()I"⟩
abbrev cX7_advance : ByteArray := prog_9_method_8_code
def yX7_advance : MethodName := ⟨RX7, "advance", "()V"⟩
abbrev cX7_kindOf : ByteArray := prog_9_method_9_code
def yX7_kindOf : MethodName := ⟨RX7, "kindOf", "(I)I"⟩
abbrev cX7_isDigit : ByteArray := prog_9_method_10_code
def yX7_isDigit : MethodName := ⟨RX7, "isDigit", "(I)Z"⟩
abbrev cX7_isAtEnd : ByteArray := prog_9_method_11_code
def yX7_isAtEnd : MethodName := ⟨RX7, "isAtEnd", "()Z"⟩
abbrev cX7_isSign : ByteArray := prog_9_method_12_code
def yX7_isSign : MethodName := ⟨RX7, "isSign", "(I)Z"⟩
abbrev cX7_isWord : ByteArray := prog_9_method_13_code
def yX7_isWord : MethodName := ⟨RX7, "isWord", "(Ljava/lang/String;)Z"⟩
abbrev cX7_isNumber : ByteArray := prog_9_method_14_code
def yX7_isNumber : MethodName := ⟨RX7, "isNumber", "()Z"⟩
abbrev cX7_number : ByteArray := prog_9_method_15_code
def yX7_number : MethodName := ⟨RX7, "number", "()I"⟩
def RX8 : String := "CartRows"
def TX8 : u_T := fun k => match k with
  | 0 => ("CartRows", "text", "LCartRows$Text;", true)
  | 1 => ("CartRows", "road", "LCartRows$Road;", true)
  | 2 => ("CartRows", "run", "LCartRows$Run;", true)
  | 3 => ("CartRows", "journeys", "LCartRows$Journeys;", true)
  | 4 => ("CartRows", "shares", "LCartRows$Shares;", true)
  | _ => ("CartRows", "clocks", "LCartRows$Clocks;", true)
def tyX8 : Nat → FieldType := fun k => match k with
  | 0 => .object "CartRows$Text"
  | 1 => .object "CartRows$Road"
  | 2 => .object "CartRows$Run"
  | 3 => .object "CartRows$Journeys"
  | 4 => .object "CartRows$Shares"
  | _ => .object "CartRows$Clocks"
theorem nmX8 : ∀ a, a < 6 → ∀ b, b < 6 → a ≠ b → (TX8 a).2.1 ≠ (TX8 b).2.1 := by decide +kernel
theorem tyX8_ok : ∀ k, k < 6 → parseFieldDescriptor (TX8 k).2.2.1 = some (tyX8 k) := by decide +kernel
abbrev cX8_init : ByteArray := prog_1_method_1_code
def yX8_init : MethodName := ⟨RX8, "<init>", "()V"⟩
abbrev cX8_make : ByteArray := prog_1_method_2_code
def yX8_make : MethodName := ⟨RX8, "make", "(IIIII)I"⟩
abbrev cX8_write : ByteArray := prog_1_method_3_code
def yX8_write : MethodName := ⟨RX8, "write", "(JI)I"⟩
abbrev cX8_erase : ByteArray := prog_1_method_4_code
def yX8_erase : MethodName := ⟨RX8, "erase", "()I"⟩
abbrev cX8_fault : ByteArray := prog_1_method_5_code
def yX8_fault : MethodName := ⟨RX8, "fault", "()I"⟩
abbrev cX8_table : ByteArray := prog_1_method_6_code
def yX8_table : MethodName := ⟨RX8, "table", "(I)I"⟩
abbrev cX8_row : ByteArray := prog_1_method_7_code
def yX8_row : MethodName := ⟨RX8, "row", "(II)I"⟩
abbrev cX8_set : ByteArray := prog_1_method_8_code
def yX8_set : MethodName := ⟨RX8, "set", "(II)I"⟩
abbrev cX8_push : ByteArray := prog_1_method_9_code
def yX8_push : MethodName := ⟨RX8, "push", "(II)I"⟩
abbrev cX8_calm : ByteArray := prog_1_method_10_code
def yX8_calm : MethodName := ⟨RX8, "calm", "()I"⟩
abbrev cX8_lose : ByteArray := prog_1_method_11_code
def yX8_lose : MethodName := ⟨RX8, "lose", "(I)I"⟩
abbrev cX8_hill : ByteArray := prog_1_method_12_code
def yX8_hill : MethodName := ⟨RX8, "hill", "(IIII)I"⟩
abbrev cX8_stranger : ByteArray := prog_1_method_13_code
def yX8_stranger : MethodName := ⟨RX8, "stranger", "(IIII)I"⟩
abbrev cX8_at : ByteArray := prog_1_method_14_code
def yX8_at : MethodName := ⟨RX8, "at", "(III)I"⟩
abbrev cX8_touch : ByteArray := prog_1_method_15_code
def yX8_touch : MethodName := ⟨RX8, "touch", "(I)I"⟩
abbrev cX8_least : ByteArray := prog_1_method_16_code
def yX8_least : MethodName := ⟨RX8, "least", "(I)I"⟩
abbrev cX8_dip : ByteArray := prog_1_method_17_code
def yX8_dip : MethodName := ⟨RX8, "dip", "(I)I"⟩
abbrev cX8_grows : ByteArray := prog_1_method_18_code
def yX8_grows : MethodName := ⟨RX8, "grows", "()I"⟩
abbrev cX8_safe : ByteArray := prog_1_method_19_code
def yX8_safe : MethodName := ⟨RX8, "safe", "(III)I"⟩
abbrev cX8_need : ByteArray := prog_1_method_20_code
def yX8_need : MethodName := ⟨RX8, "need", "(II)I"⟩
abbrev cX8_worst : ByteArray := prog_1_method_21_code
def yX8_worst : MethodName := ⟨RX8, "worst", "(III)I"⟩
abbrev cX8_sparing : ByteArray := prog_1_method_22_code
def yX8_sparing : MethodName := ⟨RX8, "sparing", "()I"⟩
abbrev cX8_bears : ByteArray := prog_1_method_23_code
def yX8_bears : MethodName := ⟨RX8, "bears", "(II)I"⟩
abbrev cX8_journey : ByteArray := prog_1_method_24_code
def yX8_journey : MethodName := ⟨RX8, "journey", "(IIIII)I"⟩
abbrev cX8_clear : ByteArray := prog_1_method_25_code
def yX8_clear : MethodName := ⟨RX8, "clear", "()I"⟩
abbrev cX8_best : ByteArray := prog_1_method_26_code
def yX8_best : MethodName := ⟨RX8, "best", "(I)I"⟩
abbrev cX8_judge : ByteArray := prog_1_method_27_code
def yX8_judge : MethodName := ⟨RX8, "judge", "(I)I"⟩
abbrev cX8_spared : ByteArray := prog_1_method_28_code
def yX8_spared : MethodName := ⟨RX8, "spared", "(III)I"⟩
abbrev cX8_together : ByteArray := prog_1_method_29_code
def yX8_together : MethodName := ⟨RX8, "together", "(I)I"⟩
abbrev cX8_share : ByteArray := prog_1_method_30_code
def yX8_share : MethodName := ⟨RX8, "share", "(III)I"⟩
abbrev cX8_clock : ByteArray := prog_1_method_31_code
def yX8_clock : MethodName := ⟨RX8, "clock", "(II)I"⟩
abbrev cX8_event : ByteArray := prog_1_method_32_code
def yX8_event : MethodName := ⟨RX8, "event", "(II)I"⟩
abbrev cX8_after : ByteArray := prog_1_method_33_code
def yX8_after : MethodName := ⟨RX8, "after", "(III)I"⟩
abbrev cX8_agree : ByteArray := prog_1_method_34_code
def yX8_agree : MethodName := ⟨RX8, "agree", "()I"⟩
abbrev cX8_span : ByteArray := prog_1_method_35_code
def yX8_span : MethodName := ⟨RX8, "span", "(II)I"⟩
abbrev cX8_count : ByteArray := prog_1_method_36_code
def yX8_count : MethodName := ⟨RX8, "count", "(I)I"⟩
abbrev cX8_isOutside : ByteArray := prog_1_method_37_code
def yX8_isOutside : MethodName := ⟨RX8, "isOutside", "(III)Z"⟩
abbrev cX8_isNoMake : ByteArray := prog_1_method_38_code
def yX8_isNoMake : MethodName := ⟨RX8, "isNoMake", "(I)Z"⟩
abbrev cX8_isNoPerson : ByteArray := prog_1_method_39_code
def yX8_isNoPerson : MethodName := ⟨RX8, "isNoPerson", "(I)Z"⟩
abbrev cX8_isNoClock : ByteArray := prog_1_method_40_code
def yX8_isNoClock : MethodName := ⟨RX8, "isNoClock", "(I)Z"⟩
abbrev cX8_isNoEvent : ByteArray := prog_1_method_41_code
def yX8_isNoEvent : MethodName := ⟨RX8, "isNoEvent", "(I)Z"⟩
abbrev cX8_isNoLorry : ByteArray := prog_1_method_42_code
def yX8_isNoLorry : MethodName := ⟨RX8, "isNoLorry", "(I)Z"⟩
abbrev cX8_isNoFollower : ByteArray := prog_1_method_43_code
def yX8_isNoFollower : MethodName := ⟨RX8, "isNoFollower", "(I)Z"⟩
abbrev cX8_areNoPlaces : ByteArray := prog_1_method_44_code
def yX8_areNoPlaces : MethodName := ⟨RX8, "areNoPlaces", "(II)Z"⟩
abbrev cX8_areNoChances : ByteArray := prog_1_method_45_code
def yX8_areNoChances : MethodName := ⟨RX8, "areNoChances", "(II)Z"⟩
abbrev cX8_driveAsTold : ByteArray := prog_1_method_46_code
def yX8_driveAsTold : MethodName := ⟨RX8, "driveAsTold", "()V"⟩
def RX9 : String := "CartRowsModel"
def TX9 : u_T := fun k => match k with
  | 0 => ("CartRowsModel", "weights", "[I", true)
  | 1 => ("CartRowsModel", "brakes", "[I", true)
  | 2 => ("CartRowsModel", "pulls", "[I", true)
  | 3 => ("CartRowsModel", "feet", "[I", true)
  | 4 => ("CartRowsModel", "text", "[I", true)
  | 5 => ("CartRowsModel", "length", "I", false)
  | 6 => ("CartRowsModel", "lineMany", "[I", true)
  | 7 => ("CartRowsModel", "lineKind", "[I", true)
  | 8 => ("CartRowsModel", "lineN", "[I", true)
  | 9 => ("CartRowsModel", "testMany", "[I", true)
  | 10 => ("CartRowsModel", "testReading", "[I", true)
  | 11 => ("CartRowsModel", "testAbove", "[I", true)
  | 12 => ("CartRowsModel", "testN", "[I", true)
  | 13 => ("CartRowsModel", "lorries", "I", false)
  | 14 => ("CartRowsModel", "makes", "[I", true)
  | 15 => ("CartRowsModel", "settings", "[I", true)
  | 16 => ("CartRowsModel", "pushTick", "[I", true)
  | 17 => ("CartRowsModel", "pushBy", "[I", true)
  | 18 => ("CartRowsModel", "pushes", "I", false)
  | 19 => ("CartRowsModel", "lost", "I", false)
  | 20 => ("CartRowsModel", "hillFrom", "[I", true)
  | 21 => ("CartRowsModel", "hillTo", "[I", true)
  | 22 => ("CartRowsModel", "hillWeight", "[I", true)
  | 23 => ("CartRowsModel", "hillSlope", "[I", true)
  | 24 => ("CartRowsModel", "hills", "I", false)
  | 25 => ("CartRowsModel", "strangerOf", "I", false)
  | 26 => ("CartRowsModel", "strangerFrom", "I", false)
  | 27 => ("CartRowsModel", "strangerTo", "I", false)
  | 28 => ("CartRowsModel", "strangerSpeed", "I", false)
  | 29 => ("CartRowsModel", "goFrom", "[I", true)
  | 30 => ("CartRowsModel", "goTo", "[I", true)
  | 31 => ("CartRowsModel", "goFirst", "[I", true)
  | 32 => ("CartRowsModel", "goLast", "[I", true)
  | 33 => ("CartRowsModel", "goMake", "[I", true)
  | 34 => ("CartRowsModel", "journeys", "I", false)
  | 35 => ("CartRowsModel", "sparedBy", "[I", true)
  | 36 => ("CartRowsModel", "offs", "[I", true)
  | 37 => ("CartRowsModel", "eventClock", "[I", true)
  | 38 => ("CartRowsModel", "eventTime", "[I", true)
  | 39 => ("CartRowsModel", "events", "I", false)
  | 40 => ("CartRowsModel", "afterOne", "[I", true)
  | 41 => ("CartRowsModel", "afterTwo", "[I", true)
  | 42 => ("CartRowsModel", "afterBy", "[I", true)
  | 43 => ("CartRowsModel", "afters", "I", false)
  | 44 => ("CartRowsModel", "at", "I", false)
  | 45 => ("CartRowsModel", "place", "I", false)
  | 46 => ("CartRowsModel", "end", "I", false)
  | 47 => ("CartRowsModel", "figure", "I", false)
  | 48 => ("CartRowsModel", "speeds", "[I", true)
  | 49 => ("CartRowsModel", "gaps", "[I", true)
  | 50 => ("CartRowsModel", "places", "[I", true)
  | 51 => ("CartRowsModel", "wishes", "[I", true)
  | 52 => ("CartRowsModel", "heards", "[I", true)
  | 53 => ("CartRowsModel", "olds", "[I", true)
  | 54 => ("CartRowsModel", "says", "[I", true)
  | 55 => ("CartRowsModel", "touchTick", "I", false)
  | 56 => ("CartRowsModel", "touchLorry", "I", false)
  | 57 => ("CartRowsModel", "speedNow", "[I", true)
  | 58 => ("CartRowsModel", "gapNow", "[I", true)
  | 59 => ("CartRowsModel", "placeNow", "[I", true)
  | 60 => ("CartRowsModel", "strangerGap", "I", false)
  | 61 => ("CartRowsModel", "leaves", "[I", true)
  | 62 => ("CartRowsModel", "bestLeaves", "[I", true)
  | 63 => ("CartRowsModel", "low", "[I", true)
  | _ => ("CartRowsModel", "high", "[I", true)
def tyX9 : Nat → FieldType := fun k => match k with
  | 0 => .array .int
  | 1 => .array .int
  | 2 => .array .int
  | 3 => .array .int
  | 4 => .array .int
  | 5 => .int
  | 6 => .array .int
  | 7 => .array .int
  | 8 => .array .int
  | 9 => .array .int
  | 10 => .array .int
  | 11 => .array .int
  | 12 => .array .int
  | 13 => .int
  | 14 => .array .int
  | 15 => .array .int
  | 16 => .array .int
  | 17 => .array .int
  | 18 => .int
  | 19 => .int
  | 20 => .array .int
  | 21 => .array .int
  | 22 => .array .int
  | 23 => .array .int
  | 24 => .int
  | 25 => .int
  | 26 => .int
  | 27 => .int
  | 28 => .int
  | 29 => .array .int
  | 30 => .array .int
  | 31 => .array .int
  | 32 => .array .int
  | 33 => .array .int
  | 34 => .int
  | 35 => .array .int
  | 36 => .array .int
  | 37 => .array .int
  | 38 => .array .int
  | 39 => .int
  | 40 => .array .int
  | 41 => .array .int
  | 42 => .array .int
  | 43 => .int
  | 44 => .int
  | 45 => .int
  | 46 => .int
  | 47 => .int
  | 48 => .array .int
  | 49 => .array .int
  | 50 => .array .int
  | 51 => .array .int
  | 52 => .array .int
  | 53 => .array .int
  | 54 => .array .int
  | 55 => .int
  | 56 => .int
  | 57 => .array .int
  | 58 => .array .int
  | 59 => .array .int
  | 60 => .int
  | 61 => .array .int
  | 62 => .array .int
  | 63 => .array .int
  | _ => .array .int
theorem nmX9 : ∀ a, a < 65 → ∀ b, b < 65 → a ≠ b → (TX9 a).2.1 ≠ (TX9 b).2.1 := by decide +kernel
theorem tyX9_ok : ∀ k, k < 65 → parseFieldDescriptor (TX9 k).2.2.1 = some (tyX9 k) := by decide +kernel
abbrev cX9_init : ByteArray := prog_11_method_1_code
def yX9_init : MethodName := ⟨RX9, "<init>", "()V"⟩
abbrev cX9_in : ByteArray := prog_11_method_2_code
def yX9_in : MethodName := ⟨RX9, "in", "(JJJ)Z"⟩
abbrev cX9_isMake : ByteArray := prog_11_method_3_code
def yX9_isMake : MethodName := ⟨RX9, "isMake", "(I)Z"⟩
abbrev cX9_isSix : ByteArray := prog_11_method_4_code
def yX9_isSix : MethodName := ⟨RX9, "isSix", "(I)Z"⟩
abbrev cX9_lesser : ByteArray := prog_11_method_5_code
def yX9_lesser : MethodName := ⟨RX9, "lesser", "(II)I"⟩
abbrev cX9_make : ByteArray := prog_11_method_6_code
def yX9_make : MethodName := ⟨RX9, "make", "(IIIII)I"⟩
abbrev cX9_write : ByteArray := prog_11_method_7_code
def yX9_write : MethodName := ⟨RX9, "write", "(JI)I"⟩
abbrev cX9_erase : ByteArray := prog_11_method_8_code
def yX9_erase : MethodName := ⟨RX9, "erase", "()I"⟩
abbrev cX9_sort : ByteArray := prog_11_method_9_code
def yX9_sort : MethodName := ⟨RX9, "sort", "(I)I"⟩
abbrev cX9_token : ByteArray := prog_11_method_10_code
def yX9_token : MethodName := ⟨RX9, "token", "()V"⟩
abbrev cX9_isWord : ByteArray := prog_11_method_11_code
def yX9_isWord : MethodName := ⟨RX9, "isWord", "(JI)Z"⟩
abbrev cX9_skips : ByteArray := prog_11_method_12_code
def yX9_skips : MethodName := ⟨RX9, "skips", "(JI)Z"⟩
abbrev cX9_skipsNumber : ByteArray := prog_11_method_13_code
def yX9_skipsNumber : MethodName := ⟨RX9, "skipsNumber", "()Z"⟩
abbrev cX9_readingWord : ByteArray := prog_11_method_14_code
def yX9_readingWord : MethodName := ⟨RX9, "readingWord", "()I"⟩
abbrev cX9_readsTest : ByteArray := prog_11_method_15_code
def yX9_readsTest : MethodName := ⟨RX9, "readsTest", "(I)Z"⟩
abbrev cX9_readsLine : ByteArray := prog_11_method_16_code
def yX9_readsLine : MethodName := ⟨RX9, "readsLine", "()Z"⟩
abbrev cX9_fault : ByteArray := prog_11_method_17_code
def yX9_fault : MethodName := ⟨RX9, "fault", "()I"⟩
abbrev cX9_table : ByteArray := prog_11_method_18_code
def yX9_table : MethodName := ⟨RX9, "table", "(I)I"⟩
abbrev cX9_row : ByteArray := prog_11_method_19_code
def yX9_row : MethodName := ⟨RX9, "row", "(II)I"⟩
abbrev cX9_set : ByteArray := prog_11_method_20_code
def yX9_set : MethodName := ⟨RX9, "set", "(II)I"⟩
abbrev cX9_push : ByteArray := prog_11_method_21_code
def yX9_push : MethodName := ⟨RX9, "push", "(II)I"⟩
abbrev cX9_calm : ByteArray := prog_11_method_22_code
def yX9_calm : MethodName := ⟨RX9, "calm", "()I"⟩
abbrev cX9_lose : ByteArray := prog_11_method_23_code
def yX9_lose : MethodName := ⟨RX9, "lose", "(I)I"⟩
abbrev cX9_hill : ByteArray := prog_11_method_24_code
def yX9_hill : MethodName := ⟨RX9, "hill", "(IIII)I"⟩
abbrev cX9_isLorry : ByteArray := prog_11_method_25_code
def yX9_isLorry : MethodName := ⟨RX9, "isLorry", "(I)Z"⟩
abbrev cX9_stranger : ByteArray := prog_11_method_26_code
def yX9_stranger : MethodName := ⟨RX9, "stranger", "(IIII)I"⟩
abbrev cX9_pushedIn : ByteArray := prog_11_method_27_code
def yX9_pushedIn : MethodName := ⟨RX9, "pushedIn", "(I)I"⟩
abbrev cX9_isStrange : ByteArray := prog_11_method_28_code
def yX9_isStrange : MethodName := ⟨RX9, "isStrange", "(II)Z"⟩
abbrev cX9_wishBy : ByteArray := prog_11_method_29_code
def yX9_wishBy : MethodName := ⟨RX9, "wishBy", "(IIIIII)I"⟩
abbrev cX9_slopeFor : ByteArray := prog_11_method_30_code
def yX9_slopeFor : MethodName := ⟨RX9, "slopeFor", "(I)I"⟩
abbrev cX9_layRun : ByteArray := prog_11_method_31_code
def yX9_layRun : MethodName := ⟨RX9, "layRun", "(III)V"⟩
abbrev cX9_layWishes : ByteArray := prog_11_method_32_code
def yX9_layWishes : MethodName := ⟨RX9, "layWishes", "(III)V"⟩
abbrev cX9_goOn : ByteArray := prog_11_method_33_code
def yX9_goOn : MethodName := ⟨RX9, "goOn", "(I)V"⟩
abbrev cX9_layTold : ByteArray := prog_11_method_34_code
def yX9_layTold : MethodName := ⟨RX9, "layTold", "()V"⟩
abbrev cX9_at : ByteArray := prog_11_method_35_code
def yX9_at : MethodName := ⟨RX9, "at", "(III)I"⟩
abbrev cX9_touch : ByteArray := prog_11_method_36_code
def yX9_touch : MethodName := ⟨RX9, "touch", "(I)I"⟩
abbrev cX9_least : ByteArray := prog_11_method_37_code
def yX9_least : MethodName := ⟨RX9, "least", "(I)I"⟩
abbrev cX9_dipOf : ByteArray := prog_11_method_38_code
def yX9_dipOf : MethodName := ⟨RX9, "dipOf", "(I)I"⟩
abbrev cX9_dip : ByteArray := prog_11_method_39_code
def yX9_dip : MethodName := ⟨RX9, "dip", "(I)I"⟩
abbrev cX9_grows : ByteArray := prog_11_method_40_code
def yX9_grows : MethodName := ⟨RX9, "grows", "()I"⟩
abbrev cX9_bits : ByteArray := prog_11_method_41_code
def yX9_bits : MethodName := ⟨RX9, "bits", "(I)I"⟩
abbrev cX9_worstOf : ByteArray := prog_11_method_42_code
def yX9_worstOf : MethodName := ⟨RX9, "worstOf", "(III)I"⟩
abbrev cX9_areMishaps : ByteArray := prog_11_method_43_code
def yX9_areMishaps : MethodName := ⟨RX9, "areMishaps", "(II)Z"⟩
abbrev cX9_safe : ByteArray := prog_11_method_44_code
def yX9_safe : MethodName := ⟨RX9, "safe", "(III)I"⟩
abbrev cX9_need : ByteArray := prog_11_method_45_code
def yX9_need : MethodName := ⟨RX9, "need", "(II)I"⟩
abbrev cX9_worst : ByteArray := prog_11_method_46_code
def yX9_worst : MethodName := ⟨RX9, "worst", "(III)I"⟩
abbrev cX9_sparing : ByteArray := prog_11_method_47_code
def yX9_sparing : MethodName := ⟨RX9, "sparing", "()I"⟩
abbrev cX9_bears : ByteArray := prog_11_method_48_code
def yX9_bears : MethodName := ⟨RX9, "bears", "(II)I"⟩
abbrev cX9_journey : ByteArray := prog_11_method_49_code
def yX9_journey : MethodName := ⟨RX9, "journey", "(IIIII)I"⟩
abbrev cX9_clear : ByteArray := prog_11_method_50_code
def yX9_clear : MethodName := ⟨RX9, "clear", "()I"⟩
abbrev cX9_goes : ByteArray := prog_11_method_51_code
def yX9_goes : MethodName := ⟨RX9, "goes", "(III)Z"⟩
abbrev cX9_leads : ByteArray := prog_11_method_52_code
def yX9_leads : MethodName := ⟨RX9, "leads", "(III)Z"⟩
abbrev cX9_burnt : ByteArray := prog_11_method_53_code
def yX9_burnt : MethodName := ⟨RX9, "burnt", "()I"⟩
abbrev cX9_best : ByteArray := prog_11_method_54_code
def yX9_best : MethodName := ⟨RX9, "best", "(I)I"⟩
abbrev cX9_judge : ByteArray := prog_11_method_55_code
def yX9_judge : MethodName := ⟨RX9, "judge", "(I)I"⟩
abbrev cX9_spared : ByteArray := prog_11_method_56_code
def yX9_spared : MethodName := ⟨RX9, "spared", "(III)I"⟩
abbrev cX9_sparedIn : ByteArray := prog_11_method_57_code
def yX9_sparedIn : MethodName := ⟨RX9, "sparedIn", "(I)I"⟩
abbrev cX9_together : ByteArray := prog_11_method_58_code
def yX9_together : MethodName := ⟨RX9, "together", "(I)I"⟩
abbrev cX9_factorial : ByteArray := prog_11_method_59_code
def yX9_factorial : MethodName := ⟨RX9, "factorial", "(I)I"⟩
abbrev cX9_shareOf : ByteArray := prog_11_method_60_code
def yX9_shareOf : MethodName := ⟨RX9, "shareOf", "(II)I"⟩
abbrev cX9_divisor : ByteArray := prog_11_method_61_code
def yX9_divisor : MethodName := ⟨RX9, "divisor", "(II)I"⟩
abbrev cX9_cut : ByteArray := prog_11_method_62_code
def yX9_cut : MethodName := ⟨RX9, "cut", "(II)I"⟩
abbrev cX9_coins : ByteArray := prog_11_method_63_code
def yX9_coins : MethodName := ⟨RX9, "coins", "(II)I"⟩
abbrev cX9_share : ByteArray := prog_11_method_64_code
def yX9_share : MethodName := ⟨RX9, "share", "(III)I"⟩
abbrev cX9_clock : ByteArray := prog_11_method_65_code
def yX9_clock : MethodName := ⟨RX9, "clock", "(II)I"⟩
abbrev cX9_event : ByteArray := prog_11_method_66_code
def yX9_event : MethodName := ⟨RX9, "event", "(II)I"⟩
abbrev cX9_isEvent : ByteArray := prog_11_method_67_code
def yX9_isEvent : MethodName := ⟨RX9, "isEvent", "(I)Z"⟩
abbrev cX9_after : ByteArray := prog_11_method_68_code
def yX9_after : MethodName := ⟨RX9, "after", "(III)I"⟩
abbrev cX9_layOffs : ByteArray := prog_11_method_69_code
def yX9_layOffs : MethodName := ⟨RX9, "layOffs", "()Z"⟩
abbrev cX9_agree : ByteArray := prog_11_method_70_code
def yX9_agree : MethodName := ⟨RX9, "agree", "()I"⟩
abbrev cX9_span : ByteArray := prog_11_method_71_code
def yX9_span : MethodName := ⟨RX9, "span", "(II)I"⟩
abbrev cX9_count : ByteArray := prog_11_method_72_code
def yX9_count : MethodName := ⟨RX9, "count", "(I)I"⟩
def RJ6 : String := "java/lang/Integer"
def TJ6 : u_T := fun k => match k with
  | _ => ("", "", "", false)
def tyJ6 : Nat → FieldType := fun k => match k with
  | _ => .int
theorem nmJ6 : ∀ a, a < 0 → ∀ b, b < 0 → a ≠ b → (TJ6 a).2.1 ≠ (TJ6 b).2.1 := by decide +kernel
theorem tyJ6_ok : ∀ k, k < 0 → parseFieldDescriptor (TJ6 k).2.2.1 = some (tyJ6 k) := by decide +kernel
abbrev cJ6_bitCount_0f7a4 : ByteArray := prog_12_method_49_code
def yJ6_bitCount_0f7a4 : MethodName := ⟨RJ6, "bitCount", "(I)I"⟩
def RJ9 : String := "java/lang/Math"
def TJ9 : u_T := fun k => match k with
  | _ => ("", "", "", false)
def tyJ9 : Nat → FieldType := fun k => match k with
  | _ => .int
theorem nmJ9 : ∀ a, a < 0 → ∀ b, b < 0 → a ≠ b → (TJ9 a).2.1 ≠ (TJ9 b).2.1 := by decide +kernel
theorem tyJ9_ok : ∀ k, k < 0 → parseFieldDescriptor (TJ9 k).2.2.1 = some (tyJ9 k) := by decide +kernel
abbrev cJ9_floorDiv_7cf53 : ByteArray := prog_13_method_47_code
def yJ9_floorDiv_7cf53 : MethodName := ⟨RJ9, "floorDiv", "(II)I"⟩
abbrev cJ9_floorMod_7cf53 : ByteArray := prog_13_method_50_code
def yJ9_floorMod_7cf53 : MethodName := ⟨RJ9, "floorMod", "(II)I"⟩
abbrev cJ9_max_7cf53 : ByteArray := prog_13_method_65_code
def yJ9_max_7cf53 : MethodName := ⟨RJ9, "max", "(II)I"⟩
abbrev cJ9_min_7cf53 : ByteArray := prog_13_method_69_code
def yJ9_min_7cf53 : MethodName := ⟨RJ9, "min", "(II)I"⟩
def RJ0 : String := "java/lang/String"
def TJ0 : u_T := fun k => match k with
  | _ => ("", "", "", false)
def tyJ0 : Nat → FieldType := fun k => match k with
  | _ => .int
theorem nmJ0 : ∀ a, a < 0 → ∀ b, b < 0 → a ≠ b → (TJ0 a).2.1 ≠ (TJ0 b).2.1 := by decide +kernel
theorem tyJ0_ok : ∀ k, k < 0 → parseFieldDescriptor (TJ0 k).2.2.1 = some (tyJ0 k) := by decide +kernel
abbrev cJ0_length_8abf5 : ByteArray := prog_14_method_54_code
def yJ0_length_8abf5 : MethodName := ⟨RJ0, "length", "()I"⟩
abbrev cJ0_charAt_5068e : ByteArray := prog_14_method_56_code
def yJ0_charAt_5068e : MethodName := ⟨RJ0, "charAt", "(I)C"⟩
abbrev cJ0_coder_7d493 : ByteArray := prog_14_method_152_code
def yJ0_coder_7d493 : MethodName := ⟨RJ0, "coder", "()B"⟩
abbrev cJ0_isLatin1_aae02 : ByteArray := prog_14_method_154_code
def yJ0_isLatin1_aae02 : MethodName := ⟨RJ0, "isLatin1", "()Z"⟩
abbrev cJ0_checkIndex_df160 : ByteArray := prog_14_method_155_code
def yJ0_checkIndex_df160 : MethodName := ⟨RJ0, "checkIndex", "(II)V"⟩
def RJ1 : String := "java/lang/StringLatin1"
def TJ1 : u_T := fun k => match k with
  | _ => ("", "", "", false)
def tyJ1 : Nat → FieldType := fun k => match k with
  | _ => .int
theorem nmJ1 : ∀ a, a < 0 → ∀ b, b < 0 → a ≠ b → (TJ1 a).2.1 ≠ (TJ1 b).2.1 := by decide +kernel
theorem tyJ1_ok : ∀ k, k < 0 → parseFieldDescriptor (TJ1 k).2.2.1 = some (tyJ1 k) := by decide +kernel
abbrev cJ1_charAt_3b067 : ByteArray := prog_15_method_2_code
def yJ1_charAt_3b067 : MethodName := ⟨RJ1, "charAt", "([BI)C"⟩
def RJ2 : String := "java/lang/StringUTF16"
def TJ2 : u_T := fun k => match k with
  | _ => ("", "", "", false)
def tyJ2 : Nat → FieldType := fun k => match k with
  | _ => .int
theorem nmJ2 : ∀ a, a < 0 → ∀ b, b < 0 → a ≠ b → (TJ2 a).2.1 ≠ (TJ2 b).2.1 := by decide +kernel
theorem tyJ2_ok : ∀ k, k < 0 → parseFieldDescriptor (TJ2 k).2.2.1 = some (tyJ2 k) := by decide +kernel
abbrev cJ2_getChar_3b067 : ByteArray := prog_16_method_5_code
def yJ2_getChar_3b067 : MethodName := ⟨RJ2, "getChar", "([BI)C"⟩
abbrev cJ2_length_9d52b : ByteArray := prog_16_method_6_code
def yJ2_length_9d52b : MethodName := ⟨RJ2, "length", "([B)I"⟩
abbrev cJ2_charAt_3b067 : ByteArray := prog_16_method_83_code
def yJ2_charAt_3b067 : MethodName := ⟨RJ2, "charAt", "([BI)C"⟩
abbrev cJ2_checkIndex_2214a : ByteArray := prog_16_method_91_code
def yJ2_checkIndex_2214a : MethodName := ⟨RJ2, "checkIndex", "(I[B)V"⟩
def RJ10 : String := "java/lang/System"
def TJ10 : u_T := fun k => match k with
  | _ => ("", "", "", false)
def tyJ10 : Nat → FieldType := fun k => match k with
  | _ => .int
theorem nmJ10 : ∀ a, a < 0 → ∀ b, b < 0 → a ≠ b → (TJ10 a).2.1 ≠ (TJ10 b).2.1 := by decide +kernel
theorem tyJ10_ok : ∀ k, k < 0 → parseFieldDescriptor (TJ10 k).2.2.1 = some (tyJ10 k) := by decide +kernel
def RJ3 : String := "jdk/internal/util/Preconditions"
def TJ3 : u_T := fun k => match k with
  | _ => ("", "", "", false)
def tyJ3 : Nat → FieldType := fun k => match k with
  | _ => .int
theorem nmJ3 : ∀ a, a < 0 → ∀ b, b < 0 → a ≠ b → (TJ3 a).2.1 ≠ (TJ3 b).2.1 := by decide +kernel
theorem tyJ3_ok : ∀ k, k < 0 → parseFieldDescriptor (TJ3 k).2.2.1 = some (tyJ3 k) := by decide +kernel
abbrev cJ3_checkIndex_8e157 : ByteArray := prog_18_method_11_code
def yJ3_checkIndex_8e157 : MethodName := ⟨RJ3, "checkIndex", "(IILjava/util/function/BiFunction;)I"⟩
def RL : String := "CartRowsLaw"
abbrev cL_law : ByteArray := code
def yL_law : MethodName := ⟨RL, "law", "([I)Z"⟩

def cr_GW : List Cond := lw_tbl.filter goodWord
theorem cr_gw {w : Cond} (i : Nat) (h : lw_tbl[i]? = some w) (g : goodWord w = true) : w ∈ cr_GW := List.mem_filter.mpr ⟨List.mem_of_getElem? h, g⟩
theorem cr_gws {ws : List Cond} (ps : List Nat) (hp : ws = ps.filterMap (fun i => lw_tbl[i]?)) (g : ws.all goodWord = true) : ∀ w ∈ ws, w ∈ cr_GW := by
  intro w hw
  have h1 := List.all_eq_true.mp g w hw
  rw [hp] at hw
  obtain ⟨i, -, hi⟩ := List.mem_filterMap.mp hw
  exact cr_gw i hi h1
theorem cr_good {y : MethodName} {cc : ByteArray} {nL : Nat} {ret : Option FieldType} {big : List Cond} (hb : ∀ w ∈ cr_GW, w ∈ big) (h : Cond.code y cc nL ret ∈ cr_GW) : GoodIn big (Cond.code y cc nL ret :: cr_GW) := by
  intro w hw
  rcases List.mem_cons.mp hw with rfl | hw
  · exact ⟨hb _ h, good_of_word (List.mem_filter.mp h).2⟩
  · exact ⟨hb _ hw, good_of_word (List.mem_filter.mp hw).2⟩

theorem cr_inX0 : ∀ w ∈ u_ws RX0 TX0 9, w ∈ cr_GW := cr_gws [380, 382, 384, 386, 388, 390, 392, 394, 396] (by decide +kernel) (by decide +kernel)
theorem cr_inX1 : ∀ w ∈ u_ws RX1 TX1 8, w ∈ cr_GW := cr_gws [327, 329, 331, 333, 335, 337, 339, 341] (by decide +kernel) (by decide +kernel)
theorem cr_inX2 : ∀ w ∈ u_ws RX2 TX2 5, w ∈ cr_GW := cr_gws [172, 174, 176, 178, 180] (by decide +kernel) (by decide +kernel)
theorem cr_inX3 : ∀ w ∈ u_ws RX3 TX3 17, w ∈ cr_GW := cr_gws [224, 226, 228, 230, 232, 234, 236, 238, 240, 242, 244, 246, 248, 250, 252, 254, 256] (by decide +kernel) (by decide +kernel)
theorem cr_inX4 : ∀ w ∈ u_ws RX4 TX4 10, w ∈ cr_GW := cr_gws [284, 286, 288, 290, 292, 294, 296, 298, 300, 302] (by decide +kernel) (by decide +kernel)
theorem cr_inX5 : ∀ w ∈ u_ws RX5 TX5 1, w ∈ cr_GW := cr_gws [353] (by decide +kernel) (by decide +kernel)
theorem cr_inX6 : ∀ w ∈ u_ws RX6 TX6 6, w ∈ cr_GW := cr_gws [111, 113, 115, 117, 119, 121] (by decide +kernel) (by decide +kernel)
theorem cr_inX7 : ∀ w ∈ u_ws RX7 TX7 5, w ∈ cr_GW := cr_gws [132, 134, 136, 138, 140] (by decide +kernel) (by decide +kernel)
theorem cr_inX8 : ∀ w ∈ u_ws RX8 TX8 6, w ∈ cr_GW := cr_gws [405, 407, 409, 411, 413, 415] (by decide +kernel) (by decide +kernel)
theorem cr_inX9 : ∀ w ∈ u_ws RX9 TX9 65, w ∈ cr_GW := cr_gws [978, 980, 982, 984, 986, 988, 990, 992, 994, 996, 998, 1000, 1002, 1004, 1006, 1008, 1010, 1012, 1014, 1016, 1018, 1020, 1022, 1024, 1026, 1028, 1030, 1032, 1034, 1036, 1038, 1040, 1042, 1044, 1046, 1048, 1050, 1052, 1054, 1056, 1058, 1060, 1062, 1064, 1066, 1068, 1070, 1072, 1074, 1076, 1078, 1080, 1082, 1084, 1086, 1088, 1090, 1092, 1094, 1096, 1098, 1100, 1102, 1104, 1106] (by decide +kernel) (by decide +kernel)
end
section
/-! THE WORLD: blocks in the order in which the constructors make them; kind 0 int[], 1 int[][], 2 Make[], c+3 an object of class c -/
def cr_kdT : List (Nat × Nat) := [(11, 6), (10, 5), (0, 160), (9, 6), (0, 6), (0, 6), (1, 6), (0, 4), (0, 4), (0, 4), (0, 4), (0, 4), (0, 4), (1, 6), (0, 4), (0, 4), (0, 4), (0, 4), (0, 4), (0, 4), (1, 6), (0, 4), (0, 4), (0, 4), (0, 4), (0, 4), (0, 4), (6, 17), (2, 4), (5, 5), (9, 6), (0, 6), (0, 6), (1, 6), (0, 4), (0, 4), (0, 4), (0, 4), (0, 4), (0, 4), (1, 6), (0, 4), (0, 4), (0, 4), (0, 4), (0, 4), (0, 4), (1, 6), (0, 4), (0, 4), (0, 4), (0, 4), (0, 4), (0, 4), (5, 5), (9, 6), (0, 6), (0, 6), (1, 6), (0, 4), (0, 4), (0, 4), (0, 4), (0, 4), (0, 4), (1, 6), (0, 4), (0, 4), (0, 4), (0, 4), (0, 4), (0, 4), (1, 6), (0, 4), (0, 4), (0, 4), (0, 4), (0, 4), (0, 4), (5, 5), (9, 6), (0, 6), (0, 6), (1, 6), (0, 4), (0, 4), (0, 4), (0, 4), (0, 4), (0, 4), (1, 6), (0, 4), (0, 4), (0, 4), (0, 4), (0, 4), (0, 4), (1, 6), (0, 4), (0, 4), (0, 4), (0, 4), (0, 4), (0, 4), (5, 5), (9, 6), (0, 6), (0, 6), (1, 6), (0, 4), (0, 4), (0, 4), (0, 4), (0, 4), (0, 4), (1, 6), (0, 4), (0, 4), (0, 4), (0, 4), (0, 4), (0, 4), (1, 6), (0, 4), (0, 4), (0, 4), (0, 4), (0, 4), (0, 4), (0, 6), (0, 5), (0, 8), (0, 8), (0, 2), (0, 2), (0, 2), (0, 2), (7, 10), (1, 6), (0, 33), (0, 33), (0, 33), (0, 33), (0, 33), (0, 33), (1, 6), (0, 33), (0, 33), (0, 33), (0, 33), (0, 33), (0, 33), (1, 6), (0, 33), (0, 33), (0, 33), (0, 33), (0, 33), (0, 33), (1, 6), (0, 32), (0, 32), (0, 32), (0, 32), (0, 32), (0, 32), (0, 32), (0, 32), (0, 6), (4, 8), (0, 5), (0, 5), (0, 5), (0, 5), (0, 5), (0, 5), (0, 5), (8, 1), (1, 6), (0, 6), (0, 6), (0, 6), (0, 6), (0, 6), (0, 6), (3, 9), (0, 7), (0, 12), (0, 12), (0, 12), (0, 12), (0, 12), (1, 7), (0, 7), (0, 7), (0, 7), (0, 7), (0, 7), (0, 7), (0, 7), (12, 65), (0, 4), (0, 4), (0, 4), (0, 4), (0, 160), (0, 5), (0, 30), (0, 30), (0, 30), (0, 120), (0, 120), (0, 120), (0, 6), (0, 5), (0, 8), (0, 8), (0, 2), (0, 2), (0, 2), (0, 2), (0, 5), (0, 5), (0, 5), (0, 5), (0, 5), (0, 36), (0, 6), (0, 12), (0, 12), (0, 12), (0, 12), (0, 12), (0, 192), (0, 192), (0, 192), (0, 192), (0, 192), (0, 192), (0, 32), (0, 6), (0, 6), (0, 6), (0, 5), (0, 5), (0, 6), (0, 6)]
def cr_fiT : List (List Bool) := [[false, true, false, false, true, false, false, false, false], [true, false, false, false, false, false, false, false], [true, true, true, true, false], [false, true, false, false, true, true, false, false, true, false, false, false, false, true, true, true, true], [false, false, false, false, false, false, true, true, false, true], [false], [true, false, false, false, false, false], [false, true, false, true, true], [false, false, false, false, false, false], [false, false, false, false, false, true, false, false, false, false, false, false, false, true, false, false, false, false, true, true, false, false, false, false, true, true, true, true, true, false, false, false, false, false, true, false, false, false, false, true, false, false, false, true, true, true, true, true, false, false, false, false, false, false, false, true, true, false, false, false, true, false, false, false, false]]
abbrev cr_cl : List vw_C := [(RX0, TX0, 9), (RX1, TX1, 8), (RX2, TX2, 5), (RX3, TX3, 17), (RX4, TX4, 10), (RX5, TX5, 1), (RX6, TX6, 6), (RX7, TX7, 5), (RX8, TX8, 6), (RX9, TX9, 65)]
abbrev cr_I : Type := Nat → Nat → Int32
abbrev cr_R : Type := Nat → Nat → Option Nat
def cr_up {α : Type} (f : Nat → Nat → α) (b k : Nat) (v : α) : Nat → Nat → α := fun b' k' => if b' = b ∧ k' = k then v else f b' k'
theorem cr_up_s {α : Type} {f : Nat → Nat → α} {b k : Nat} {v : α} : cr_up f b k v b k = v := by simp [cr_up]
theorem cr_up_b {α : Type} {f : Nat → Nat → α} {b k b' k' : Nat} {v : α} (h : b' ≠ b) : cr_up f b k v b' k' = f b' k' := by simp [cr_up, h]
theorem cr_up_k {α : Type} {f : Nat → Nat → α} {b k b' k' : Nat} {v : α} (h : k' ≠ k) : cr_up f b k v b' k' = f b' k' := by simp [cr_up, h]
def cr_kd (b : Nat) : Nat × Nat := cr_kdT.getD b (0, 0)
def cr_fi (c k : Nat) : Bool := (cr_fiT.getD c []).getD k false
def cr_sl (n : Nat) : Nat := ((cr_kdT.take n).map (fun q => q.2)).sum
abbrev cr_g : Type := ClassId × ClassId × ClassId
def cr_tr (ad : Nat → Nat) (v : Value) : Value := match v with
  | .ref b => .ref (ad b)
  | w => w
theorem cr_tr_cat (ad : Nat → Nat) (v : Value) : (cr_tr ad v).category = v.category := by cases v <;> rfl
def cr_fs (ad : Nat → Nat) (I : cr_I) (R : cr_R) (c N b : Nat) : List Value := (List.range N).map fun k => if cr_fi c k = true then .int (I b k) else va_rf ((R b k).map ad)
def cr_ce (ad : Nat → Nat) (g : cr_g) (I : cr_I) (R : cr_R) (b : Nat) : va_E := match (cr_kd b).1 with
  | 0 => .inl (g.1, (cr_kd b).2, .inl (I b))
  | 1 => .inl (g.2.1, (cr_kd b).2, .inr (.inr (.inr (.inr (fun j => (R b j).map ad)))))
  | 2 => .inl (g.2.2, (cr_kd b).2, .inr (.inr (.inr (.inr (fun j => (R b j).map ad)))))
  | c + 3 => .inr (c, cr_fs ad I R c (cr_kd b).2 b)
def cr_wd (ad : Nat → Nat) (g : cr_g) (I : cr_I) (R : cr_R) (n : Nat) : va_W := (List.range n).map fun b => (ad b, cr_ce ad g I R b)
abbrev cr_ty (g : cr_g) : List (ClassId × FieldType) := [(g.1, .int), (g.2.1, .array .int), (g.2.2, .object "CartRows$Make")]
def cr_ad (ad : Nat → Nat) (base : Nat) : Prop := ∀ b, b < 1000 → ad b = base + b
theorem cr_wd_at {ad : Nat → Nat} {g : cr_g} {I : cr_I} {R : cr_R} {n b : Nat} (h : b < n) : (cr_wd ad g I R n)[b]? = some (ad b, cr_ce ad g I R b) := by
  unfold cr_wd
  rw [List.getElem?_map, List.getElem?_range h]
  rfl
theorem cr_wd_get {ad : Nat → Nat} {g : cr_g} {I : cr_I} {R : cr_R} {n b : Nat} {q : Nat × va_E} (h : (cr_wd ad g I R n)[b]? = some q) : b < n ∧ q = (ad b, cr_ce ad g I R b) := by
  have hb : b < n := by
    have := (List.getElem?_eq_some_iff.mp h).1
    simpa [cr_wd] using this
  rw [cr_wd_at hb] at h
  exact ⟨hb, (Option.some.inj h).symm⟩
theorem cr_wd_D {ad : Nat → Nat} {g : cr_g} {I : cr_I} {R : cr_R} {n base : Nat} (ha : cr_ad ad base) (hn : n ≤ 1000) : va_D (fun q => base ≤ q) (cr_wd ad g I R n) := by
  refine ⟨fun i j p q hp hq e => ?_, fun k q hq => ?_⟩
  · obtain ⟨h1, rfl⟩ := cr_wd_get hp
    obtain ⟨h2, rfl⟩ := cr_wd_get hq
    have e1 := ha i (by omega)
    have e2 := ha j (by omega)
    simp only at e
    omega
  · obtain ⟨h1, rfl⟩ := cr_wd_get hq
    have e1 := ha k (by omega)
    simp only
    omega
theorem cr_wd_set {ad : Nat → Nat} {g : cr_g} {I I' : cr_I} {R R' : cr_R} {n b : Nat} (hb : b < n) (h : ∀ x, x < n → x ≠ b → cr_ce ad g I' R' x = cr_ce ad g I R x) : (cr_wd ad g I R n).set b (ad b, cr_ce ad g I' R' b) = cr_wd ad g I' R' n := by
  apply List.ext_getElem?
  intro k
  by_cases hk : k = b
  · subst hk
    rw [List.getElem?_set_self (by simp [cr_wd]; exact hb), cr_wd_at hb]
  · rw [List.getElem?_set_ne (Ne.symm hk)]
    by_cases hn : k < n
    · rw [cr_wd_at hn, cr_wd_at hn, h k hn hk]
    · rw [List.getElem?_eq_none (by simp [cr_wd]; omega), List.getElem?_eq_none (by simp [cr_wd]; omega)]
theorem cr_ce_upI {ad : Nat → Nat} {g : cr_g} {I : cr_I} {R : cr_R} {b k x : Nat} {v : Int32} (h : x ≠ b) : cr_ce ad g (cr_up I b k v) R x = cr_ce ad g I R x := by
  have e : ∀ j, cr_up I b k v x j = I x j := fun j => cr_up_b h
  have e2 : cr_up I b k v x = I x := funext e
  unfold cr_ce cr_fs
  simp only [e, e2]
theorem cr_ce_upR {ad : Nat → Nat} {g : cr_g} {I : cr_I} {R : cr_R} {b k x : Nat} {v : Option Nat} (h : x ≠ b) : cr_ce ad g I (cr_up R b k v) x = cr_ce ad g I R x := by
  have e : ∀ j, cr_up R b k v x j = R x j := fun j => cr_up_b h
  unfold cr_ce cr_fs
  simp only [e]
theorem cr_fs_at {ad : Nat → Nat} {I : cr_I} {R : cr_R} {c N b k : Nat} (h : k < N) : (cr_fs ad I R c N b)[k]? = some (if cr_fi c k = true then .int (I b k) else va_rf ((R b k).map ad)) := by
  unfold cr_fs
  rw [List.getElem?_map, List.getElem?_range h]
  rfl
theorem cr_fs_len {ad : Nat → Nat} {I : cr_I} {R : cr_R} {c N b : Nat} : (cr_fs ad I R c N b).length = N := by simp [cr_fs]
theorem cr_fs_upI {ad : Nat → Nat} {I : cr_I} {R : cr_R} {c N b k : Nat} {v : Int32} (h : cr_fi c k = true) : (cr_fs ad I R c N b).set k (.int v) = cr_fs ad (cr_up I b k v) R c N b := by
  apply List.ext_getElem?
  intro j
  by_cases hj : j < N
  · by_cases e : j = k
    · subst e
      rw [List.getElem?_set_self (by rw [cr_fs_len]; exact hj), cr_fs_at hj, if_pos h, cr_up_s]
    · rw [List.getElem?_set_ne (Ne.symm e), cr_fs_at hj, cr_fs_at hj, cr_up_k e]
  · rw [List.getElem?_eq_none (by simp [cr_fs]; omega), List.getElem?_eq_none (by simp [cr_fs]; omega)]
theorem cr_fs_upR {ad : Nat → Nat} {I : cr_I} {R : cr_R} {c N b k x : Nat} (h : cr_fi c k = false) : (cr_fs ad I R c N b).set k (.ref (ad x)) = cr_fs ad I (cr_up R b k (some x)) c N b := by
  apply List.ext_getElem?
  intro j
  by_cases hj : j < N
  · by_cases e : j = k
    · subst e
      rw [List.getElem?_set_self (by rw [cr_fs_len]; exact hj), cr_fs_at hj, if_neg (by rw [h]; decide), cr_up_s]
      rfl
    · rw [List.getElem?_set_ne (Ne.symm e), cr_fs_at hj, cr_fs_at hj, cr_up_k e]
  · rw [List.getElem?_eq_none (by simp [cr_fs]; omega), List.getElem?_eq_none (by simp [cr_fs]; omega)]
/-- the locals: a .null in the list says nothing -/
def cr_la (ad : Nat → Nat) (ls : List Value) : List (Nat × Value) := (List.range ls.length).filterMap fun i => match ls[i]? with
  | none => none
  | some Value.null => none
  | some v => some (i, cr_tr ad v)
theorem cr_la_in {ad : Nat → Nat} {ls : List Value} {i : Nat} {v : Value} (h : ls[i]? = some v) (hn : v ≠ .null) : (i, cr_tr ad v) ∈ cr_la ad ls := by
  refine List.mem_filterMap.mpr ⟨i, List.mem_range.mpr (List.getElem?_eq_some_iff.mp h).1, ?_⟩
  rw [h]
  cases v <;> first | exact absurd rfl hn | rfl
theorem cr_la_of {ad : Nat → Nat} {ls : List Value} {q : Nat × Value} (h : q ∈ cr_la ad ls) : ∃ v, ls[q.1]? = some v ∧ v ≠ .null ∧ q.2 = cr_tr ad v := by
  obtain ⟨i, -, hi⟩ := List.mem_filterMap.mp h
  cases hv : ls[i]? with
  | none => rw [hv] at hi; cases hi
  | some v =>
    rw [hv] at hi
    cases v <;> first | (cases hi; exact ⟨_, hv, (fun e => by cases e), rfl⟩) | cases hi
def cr_nl (ls : List Value) (i : Nat) : Bool := match i with
  | 0 => true
  | k + 1 => match ls[k]? with
    | some (Value.long _) => false
    | some (Value.double _) => false
    | _ => true
theorem cr_mono {la : Array Slot} {nL : Nat} {l l' : List (Nat × Value)} (h : lv_has la nL l) (hs : ∀ q ∈ l', q ∈ l) : lv_has la nL l' := ⟨h.1, h.2.1, fun q hq => h.2.2 q (hs q hq)⟩
theorem cr_la_set {ad : Nat → Nat} {ls : List Value} {i : Nat} {v : Value} (h0 : cr_nl ls i = true) : ∀ q ∈ cr_la ad (ls.set i v), q ∈ (i, cr_tr ad v) :: (cr_la ad ls).filter (fun q => !(q.1 == i) && !(q.1 + 1 == i && q.2.category == 2)) := by
  intro q hq
  obtain ⟨w, h1, h2, h3⟩ := cr_la_of hq
  by_cases e : q.1 = i
  · have hl : i < (ls.set i v).length := e ▸ (List.getElem?_eq_some_iff.mp h1).1
    rw [List.length_set] at hl
    rw [e, List.getElem?_set_self hl] at h1
    cases h1
    refine List.mem_cons.mpr (Or.inl ?_)
    obtain ⟨q1, q2⟩ := q
    simp only at e h3
    rw [e, h3]
  · rw [List.getElem?_set_ne (Ne.symm e)] at h1
    refine List.mem_cons.mpr (Or.inr (List.mem_filter.mpr ⟨?_, ?_⟩))
    · obtain ⟨q1, q2⟩ := q
      simp only at h3 h1
      rw [h3]
      exact cr_la_in h1 h2
    · simp only [Bool.and_eq_true, Bool.not_eq_true', beq_eq_false_iff_ne, ne_eq, Bool.and_eq_false_iff]
      refine ⟨e, ?_⟩
      by_cases e2 : q.1 + 1 = i
      · right
        rw [h3, cr_tr_cat]
        intro hc
        subst e2
        simp only [cr_nl, h1] at h0
        cases w <;> first | exact Bool.noConfusion h0 | (simp [Value.category] at hc)
      · exact Or.inl e2
/-- the context of a walk -/
abbrev cr_G : Type := (Program × Launch × Env × Room × State × MethodId × Array Value × List Frame × Method × Code) × ((State → Prop) × va_G × cr_g × (Nat → Nat) × Nat × Nat)
def cr_V (Γ : cr_G) (pc : Nat) (ls st : List Value) (I : cr_I) (R : cr_R) (n : Nat) : Prop := match Γ with
  | ((p, l, e, Rm, s, m, args, below, meth, c), (Q, D, g, ad, base, n0)) =>
    ∀ (H : Heap) (locs : List Loc) (la : Array Slot), va_P D cr_cl (cr_wd ad g I R n) H → (n < 247 → H.size = base + n) → va_S (fun q => base ≤ q) s.heap H locs → lv_has la c.maxLocals (cr_la ad ls) → W p l e Rm s m args below meth c H locs (n - n0) (cr_sl n - cr_sl n0) Q (F0 m pc la (st.map (cr_tr ad)))
/-- what a method ends with -/
abbrev cr_K : Type := Option Value → cr_I → cr_R → Prop
def cr_PQ (D : va_G) (g : cr_g) (ad : Nat → Nat) (base : Nat) (K : cr_K) (nE : Nat) : Array Value → State → Outcome → State → Prop := fun _ st oc t =>
  (∃ (v : Option Value) (I : cr_I) (R : cr_R), oc = .returned (v.map (cr_tr ad)) ∧ K v I R ∧ va_P D cr_cl (cr_wd ad g I R nE) t.heap ∧ (nE < 247 → t.heap.size = base + nE)) ∧ va_F (fun q => base ≤ q) st t

def cr_fA (comp : ClassId) (x : Class) : Bool := match x.kind with | .array component _ => component == comp | _ => false
def cr_AOA (U : State) : Prop := (Cond.arrayOver (.array .int)).before #[] U = true
theorem cr_AOA.use {A : Array Value} {U : State} (h : cr_AOA U) : (Cond.arrayOver (.array .int)).before A U = true := h
theorem cr_AOA.moved {u U : State} (hvm : u.vm.Alike U.vm) (h : cr_AOA u) : cr_AOA U := by
  obtain ⟨comp, c, k, h1, h2, h3, h4, h5⟩ := arrayOverA_spec h
  obtain ⟨k', hk', he⟩ := hvm.2.2 _ _ h3
  have hb : ∀ vm : Vm, vm.bare.classes.findIdx? (cr_fA comp) = vm.classes.findIdx? (cr_fA comp) := fun vm => by
    simp only [Vm.bare, Array.findIdx?_map]
    rfl
  have h2' : u.vm.classes.findIdx? (cr_fA comp) = some c := h2
  have hi : U.vm.classes.findIdx? (cr_fA comp) = some c := by
    rw [← hb]
    first | rw [hvm.bare_eq] | rw [← hvm.bare_eq]
    rw [hb]
    exact h2'
  have hkind : k'.kind = .array comp (.array .int) := by rw [he]; exact h4
  have f1 : U.vm.findClass (FieldType.array .int).toString = some comp := by rw [hvm.findClass]; exact h1
  have f2 : U.vm.findClass ("[" ++ (FieldType.array .int).toString) = some c := by rw [hvm.findClass]; exact h5
  unfold cr_AOA Cond.before Cond.holds
  simp only [Cond.value]
  rw [f1, Option.bind_some]
  refine (congrArg (fun o : Option Nat => (o.bind (fun c => (U.vm.classes[c]?).map fun (k : Class) => match k.kind with | .array _ ty => decide (ty = FieldType.array .int) && decide (U.vm.findClass ("[" ++ (FieldType.array .int).toString) = some c) | _ => false) == some true)) hi).trans ?_
  simp [hk', hkind, f2]
/-- the class's static tables and texts: blocks 1000 .. are outside of the world, and nobody writes them -/
def cr_txL : List Nat := [4, 4, 4, 4, 3, 7, 7, 5, 5, 3, 5, 5, 3]
def cr_txB : List (List Int32) := [[107, 101, 101, 112], [115, 108, 111, 119], [102, 97, 115, 116], [119, 104, 101, 110], [103, 97, 112], [99, 108, 111, 115, 105, 110, 103], [111, 112, 101, 110, 105, 110, 103], [115, 112, 101, 101, 100], [104, 101, 97, 114, 100], [111, 108, 100], [97, 98, 111, 118, 101], [98, 101, 108, 111, 119], [97, 110, 100]]
def cr_tabT : List (List Int32) := [[1, 1, 2, 6, 24, 120, 720], [1, 0, 0, 0, 0], [99, 40, 4, 9, 9]]
def cr_tab (i j : Nat) : Int32 := (cr_tabT.getD i []).getD j 0
def cr_ST (ad : Nat → Nat) (base : Nat) (U : State) (H : Heap) : Prop :=
  (va_Z "CartRows" "FACTORIALS" "[I" (.ref (ad 1000)) (fun q => base ≤ q) U H ∧ va_Z "CartRows" "LEAST_SETTING" "[I" (.ref (ad 1001)) (fun q => base ≤ q) U H ∧ va_Z "CartRows" "MOST_SETTING" "[I" (.ref (ad 1002)) (fun q => base ≤ q) U H) ∧
  (va_T .int (ad 1000) 7 (fun j => .int (cr_tab 0 j)) (fun q => base ≤ q) U H ∧ va_T .int (ad 1001) 5 (fun j => .int (cr_tab 1 j)) (fun q => base ≤ q) U H ∧ va_T .int (ad 1002) 5 (fun j => .int (cr_tab 2 j)) (fun q => base ≤ q) U H) ∧
  va_Z "java/lang/String" "COMPACT_STRINGS" "Z" (.int 1) (fun q => base ≤ q) U H ∧
  vk_S 13 cr_txL cr_txB (fun i => ad (1003 + i)) (fun i => ad (1100 + i)) (fun q => base ≤ q) U H ∧
  (vk_R RX7 67 "keep" (ad 1003) U ∧ vk_R RX7 72 "slow" (ad 1004) U ∧ vk_R RX7 74 "fast" (ad 1005) U ∧ vk_R RX7 55 "when" (ad 1006) U ∧ vk_R RX7 99 "gap" (ad 1007) U ∧ vk_R RX7 101 "closing" (ad 1008) U ∧ vk_R RX7 103 "opening" (ad 1009) U ∧ vk_R RX7 105 "speed" (ad 1010) U ∧ vk_R RX7 107 "heard" (ad 1011) U ∧ vk_R RX7 109 "old" (ad 1012) U ∧ vk_R RX7 90 "above" (ad 1013) U ∧ vk_R RX7 92 "below" (ad 1014) U ∧ vk_R RX7 65 "and" (ad 1015) U) ∧
  (va_Nw (.methodLinkNest RX8 9 yX7_init "CartRows") U ∧ va_Nw (.methodLinkNest RX7 21 yX6_init "CartRows") U ∧ va_Nw (.methodLinkNest RX8 18 yX3_init "CartRows") U ∧ va_Nw (.methodLinkNest RX3 11 yX2_init "CartRows") U ∧ va_Nw (.methodLinkNest RX2 24 yX6_init "CartRows") U ∧ va_Nw (.methodLinkNest RX8 25 yX4_init "CartRows") U ∧ va_Nw (.methodLinkNest RX8 32 yX1_init "CartRows") U ∧ va_Nw (.methodLinkNest RX8 39 yX5_init "CartRows") U ∧ va_Nw (.methodLinkNest RX8 46 yX0_init "CartRows") U ∧ va_Nw (.fieldLinkNest "CartRows$Shares" 20 "CartRows" "FACTORIALS" "[I" "CartRows") U) ∧
  (cr_AOA U ∧ va_AO "CartRows$Make" U)
end
section
/-- what holds in the walk of a method -/
def cr_Ok (y : MethodName) (cc : ByteArray) (nL : Nat) (ret : Option FieldType) (rm : Room) (K : cr_K) (nS nE : Nat) (Γ : cr_G) : Prop := match Γ with
  | ((p, l, e, Rm, s, m, args, below, meth, c), (Q, D, g, ad, base, n0)) =>
    p.tables.exec = Jvm.exec ∧ c.code = cc ∧ c.maxLocals = nL ∧ s.vm.findClass y.cls = some m.cls ∧ (∀ w ∈ cr_GW, w.before args s = true) ∧ va_K D cr_cl (cr_ty g) s ∧ cr_ST ad base s s.heap ∧ meth.locks = false ∧ meth.sig.returnType = ret ∧ cr_ad ad base ∧ (n0 < 247 → s.heap.size = base + n0) ∧ Q = MQ below (cr_PQ D g ad base K nE) args s (nE - n0) (cr_sl nE - cr_sl n0) (fun q => base ≤ q) ∧ Rm = rm ∧ meth.name = y.name ∧ n0 = nS
/-- a method's start -/
def cr_PP (D : va_G) (g : cr_g) (ad : Nat → Nat) (base : Nat) (vs : List Value) (I : cr_I) (R : cr_R) (n : Nat) : Array Value → State → Prop := fun v U =>
  v = (vs.map (cr_tr ad)).toArray ∧ va_P D cr_cl (cr_wd ad g I R n) U.heap ∧ (n < 247 → U.heap.size = base + n) ∧ va_K D cr_cl (cr_ty g) U ∧ cr_ST ad base U U.heap
abbrev cr_T : Type := List Value → cr_I → cr_R → cr_K → Prop
/-- THE CONTRACT of a method: from every start at which T holds (of arguments, ints, references and what is wanted behind it) it returns, and what is wanted holds -/
def cr_C (y : MethodName) (cc : ByteArray) (nL : Nat) (ret : Option FieldType) (rm : Room) (n nE : Nat) (T : cr_T) : Prop :=
  ∀ (l : Launch) (D : va_G) (g : cr_g) (ad : Nat → Nat) (base : Nat), cr_ad ad base → ∀ (vs : List Value) (I : cr_I) (R : cr_R) (K : cr_K), T vs I R K →
    Met l y (Cond.code y cc nL ret :: cr_GW) rm (cr_PP D g ad base vs I R n) (cr_PQ D g ad base K nE) (nE - n) (cr_sl nE - cr_sl n) (fun q => base ≤ q)
/-- the locals at a method's start -/
def cr_sl1 (v : Value) : List Value := match v with
  | .long _ => [v, .null]
  | .double _ => [v, .null]
  | _ => [v]
def cr_ent (nL : Nat) (vs : List Value) : List Value := vs.flatMap cr_sl1 ++ List.replicate (nL - (vs.flatMap cr_sl1).length) .null
theorem cr_sl_len (ad : Nat → Nat) (vs : List Value) : (lg_sl (vs.map (cr_tr ad))).length = (vs.flatMap cr_sl1).length := by
  induction vs with
  | nil => rfl
  | cons v vs ih =>
    simp only [lg_sl, List.map_cons, List.flatMap_cons, List.length_append] at ih ⊢
    rw [ih]
    cases v <;> simp [cr_tr, cr_sl1, Value.category]
theorem cr_la_null {ad : Nat → Nat} {ls : List Value} {k : Nat} {q : Nat × Value} (h : q ∈ cr_la ad (ls ++ List.replicate k .null)) : ∃ v, ls[q.1]? = some v ∧ v ≠ .null ∧ q.2 = cr_tr ad v := by
  obtain ⟨v, h1, h2, h3⟩ := cr_la_of h
  by_cases hl : q.1 < ls.length
  · rw [List.getElem?_append_left hl] at h1
    exact ⟨v, h1, h2, h3⟩
  · rw [List.getElem?_append_right (by omega)] at h1
    have := List.mem_of_getElem? h1
    exact absurd (List.eq_of_mem_replicate this) h2
theorem cr_args_in {ad : Nat → Nat} : ∀ (vs : List Value) (i j : Nat) (v : Value), (vs.flatMap cr_sl1)[j]? = some v → v ≠ .null → (i + j, cr_tr ad v) ∈ lv_args i (vs.map (cr_tr ad))
  | [], i, j, v, h, _ => by simp at h
  | x :: vs, i, j, v, h, hn => by
    have step : ∀ (k : Nat), (k = 1 ∨ k = 2) → (cr_sl1 x).length = k → (if (cr_tr ad x).category = 2 then i + 2 else i + 1) = i + k → (∀ m, m < k → (cr_sl1 x)[m]? = some v → v ≠ .null → m = 0 ∧ v = x) → (i + j, cr_tr ad v) ∈ lv_args i ((x :: vs).map (cr_tr ad)) := by
      intro k hk hl hi hm
      rw [List.flatMap_cons] at h
      simp only [List.map_cons, lv_args]
      by_cases hj : j < k
      · rw [List.getElem?_append_left (by omega)] at h
        obtain ⟨e1, e2⟩ := hm j hj h hn
        subst e1; subst e2
        exact List.mem_cons_self
      · rw [List.getElem?_append_right (by omega), hl] at h
        have := cr_args_in (ad := ad) vs (i + k) (j - k) v h hn
        rw [show i + k + (j - k) = i + j by omega] at this
        rw [hi]
        exact List.mem_cons_of_mem _ this
    cases x with
    | long z => exact step 2 (Or.inr rfl) rfl rfl (fun m hm e hn => by
        match m, e with
        | 0, e => simp [cr_sl1] at e; exact ⟨rfl, e.symm⟩
        | 1, e => simp [cr_sl1] at e; exact absurd e.symm hn)
    | double z => exact step 2 (Or.inr rfl) rfl rfl (fun m hm e hn => by
        match m, e with
        | 0, e => simp [cr_sl1] at e; exact ⟨rfl, e.symm⟩
        | 1, e => simp [cr_sl1] at e; exact absurd e.symm hn)
    | int z => exact step 1 (Or.inl rfl) rfl rfl (fun m hm e hn => by
        match m, e with
        | 0, e => simp [cr_sl1] at e; exact ⟨rfl, e.symm⟩)
    | float z => exact step 1 (Or.inl rfl) rfl rfl (fun m hm e hn => by
        match m, e with
        | 0, e => simp [cr_sl1] at e; exact ⟨rfl, e.symm⟩)
    | null => exact step 1 (Or.inl rfl) rfl rfl (fun m hm e hn => by
        match m, e with
        | 0, e => simp [cr_sl1] at e; exact ⟨rfl, e.symm⟩)
    | ref z => exact step 1 (Or.inl rfl) rfl rfl (fun m hm e hn => by
        match m, e with
        | 0, e => simp [cr_sl1] at e; exact ⟨rfl, e.symm⟩)
    | retAddr z => exact step 1 (Or.inl rfl) rfl rfl (fun m hm e hn => by
        match m, e with
        | 0, e => simp [cr_sl1] at e; exact ⟨rfl, e.symm⟩)
/-- a contract out of a walk from the method's entry -/
theorem cr_C.of {y : MethodName} {cc : ByteArray} {nL : Nat} {ret : Option FieldType} {rm : Room} {n nE : Nat} {T : cr_T} (hy : plainName y.cls = true) (hL : ∀ vs I R K, T vs I R K → (vs.flatMap cr_sl1).length ≤ nL)
    (body : ∀ (Γ : cr_G) (K : cr_K), cr_Ok y cc nL ret rm K n nE Γ → ∀ (vs : List Value) (I : cr_I) (R : cr_R), T vs I R K → cr_V Γ 0 (cr_ent nL vs) [] I R n) : cr_C y cc nL ret rm n nE T := by
  intro l D g ad base hA vs I R K hT
  refine Met.ofW (cc := cc) (maxL := nL) (ret := ret) hy rfl ?_
  intro p e s m args below meth c s₁ B hml hv
  obtain ⟨rfl, hP, hz, hK, hST⟩ := hv
  have hts := atoms_spec (ws := Cond.code y cc nL ret :: cr_GW) B.pre
  have hown : s.vm.findClass y.cls = some m.cls := findClass_of_methodNamed B.named
  have hnm : meth.name = y.name := (name_of_methodNamed B.named B.method).1
  have ok : cr_Ok y cc nL ret rm K n nE ((p, l, e, (headSpec (Cond.code y cc nL ret :: cr_GW) rm).room, s, m, (vs.map (cr_tr ad)).toArray, below, meth, c), (MQ below (cr_PQ D g ad base K nE) (vs.map (cr_tr ad)).toArray s (nE - n) (cr_sl nE - cr_sl n) (fun q => base ≤ q), D, g, ad, base, n)) :=
    ⟨B.exec, B.bytes, hml, hown, fun w hw => hts w (List.mem_cons_of_mem _ hw), hK, hST, B.notSynchronized, B.returns, hA, hz, rfl, rfl, hnm, rfl⟩
  have hb := body _ K ok vs I R hT
  have hlen := cr_sl_len ad vs
  have hl := lv_entry (vs.map (cr_tr ad)) (n := nL) (by rw [hlen]; exact hL vs I R K hT)
  rw [lg_entry_eq]
  have h2 := hb s.heap [] _ hP hz va_S.rf (by
    rw [hml]
    refine cr_mono hl fun q hq => ?_
    obtain ⟨v, h1, h2, h3⟩ := cr_la_null hq
    have := cr_args_in (ad := ad) vs 0 q.1 v h1 h2
    rw [Nat.zero_add, ← h3] at this
    exact this)
  rw [Nat.sub_self, Nat.sub_self] at h2
  exact h2
section CRR
variable {y : MethodName} {cc : ByteArray} {nL : Nat} {ret : Option FieldType} {rm : Room} {K : cr_K} {nS nE : Nat} {Γ : cr_G} {pc : Nat} {ls st : List Value} {I : cr_I} {R : cr_R} {n : Nat}
theorem cr_iconst (h : cr_Ok y cc nL ret rm K nS nE Γ) {i : Int} {v : Int32} (hv : Int32.ofInt i = v) (d : decode cc pc = .ok (.iconst i, 1)) (k : cr_V Γ (pc + 1) ls (.int v :: st) I R n) : cr_V Γ pc ls st I R n := by
  obtain ⟨⟨p, l, e, Rm, s, m, args, below, meth, c⟩, Q, D, g, ad, base, n0⟩ := Γ
  obtain ⟨hx, hb, hml, hown, hts, hK, hST, hlk, hrt, hA, hs0, hQ, hrm, hnm, hn0⟩ := h
  intro H locs la hP hz hS hl
  exact lv_iconst hx hb d hv (k H locs la hP hz hS hl)
theorem cr_bipush (h : cr_Ok y cc nL ret rm K nS nE Γ) {i : Int} {v : Int32} (hv : (Int8.ofInt i).toInt32 = v) (d : decode cc pc = .ok (.bipush i, 2)) (k : cr_V Γ (pc + 2) ls (.int v :: st) I R n) : cr_V Γ pc ls st I R n := by
  obtain ⟨⟨p, l, e, Rm, s, m, args, below, meth, c⟩, Q, D, g, ad, base, n0⟩ := Γ
  obtain ⟨hx, hb, hml, hown, hts, hK, hST, hlk, hrt, hA, hs0, hQ, hrm, hnm, hn0⟩ := h
  intro H locs la hP hz hS hl
  exact lv_bipush hx hb d hv (k H locs la hP hz hS hl)
theorem cr_sipush (h : cr_Ok y cc nL ret rm K nS nE Γ) {i : Int} {v : Int32} (hv : (Int16.ofInt i).toInt32 = v) (d : decode cc pc = .ok (.sipush i, 3)) (k : cr_V Γ (pc + 3) ls (.int v :: st) I R n) : cr_V Γ pc ls st I R n := by
  obtain ⟨⟨p, l, e, Rm, s, m, args, below, meth, c⟩, Q, D, g, ad, base, n0⟩ := Γ
  obtain ⟨hx, hb, hml, hown, hts, hK, hST, hlk, hrt, hA, hs0, hQ, hrm, hnm, hn0⟩ := h
  intro H locs la hP hz hS hl
  exact lv_sipush hx hb d hv (k H locs la hP hz hS hl)
theorem cr_lconst (h : cr_Ok y cc nL ret rm K nS nE Γ) {i : Fin 2} {v : Int64} (hv : Int64.ofNat (i : Nat) = v) (d : decode cc pc = .ok (.lconst i, 1)) (k : cr_V Γ (pc + 1) ls (.long v :: st) I R n) : cr_V Γ pc ls st I R n := by
  obtain ⟨⟨p, l, e, Rm, s, m, args, below, meth, c⟩, Q, D, g, ad, base, n0⟩ := Γ
  obtain ⟨hx, hb, hml, hown, hts, hK, hST, hlk, hrt, hA, hs0, hQ, hrm, hnm, hn0⟩ := h
  intro H locs la hP hz hS hl
  exact lv_lconst hx hb d hv (k H locs la hP hz hS hl)
theorem cr_ldc (h : cr_Ok y cc nL ret rm K nS nE Γ) {i : Nat} {v : Int32} (hw : Cond.constant y.cls i v ∈ cr_GW) (d : decode cc pc = .ok (.ldc i, 2)) (k : cr_V Γ (pc + 2) ls (.int v :: st) I R n) : cr_V Γ pc ls st I R n := by
  obtain ⟨⟨p, l, e, Rm, s, m, args, below, meth, c⟩, Q, D, g, ad, base, n0⟩ := Γ
  obtain ⟨hx, hb, hml, hown, hts, hK, hST, hlk, hrt, hA, hs0, hQ, hrm, hnm, hn0⟩ := h
  intro H locs la hP hz hS hl
  exact lv_ldc hx hb hown (hts _ hw) d (k H locs la hP hz hS hl)
theorem cr_ldcw (h : cr_Ok y cc nL ret rm K nS nE Γ) {i : Nat} {v : Int32} (hw : Cond.constant y.cls i v ∈ cr_GW) (d : decode cc pc = .ok (.ldc_w i, 3)) (k : cr_V Γ (pc + 3) ls (.int v :: st) I R n) : cr_V Γ pc ls st I R n := by
  obtain ⟨⟨p, l, e, Rm, s, m, args, below, meth, c⟩, Q, D, g, ad, base, n0⟩ := Γ
  obtain ⟨hx, hb, hml, hown, hts, hK, hST, hlk, hrt, hA, hs0, hQ, hrm, hnm, hn0⟩ := h
  intro H locs la hP hz hS hl
  exact lv_ldcw hx hb hown (hts _ hw) d (k H locs la hP hz hS hl)
theorem cr_ldc2 (h : cr_Ok y cc nL ret rm K nS nE Γ) {i : Nat} {v : Int64} (hw : Cond.constantLong y.cls i v ∈ cr_GW) (d : decode cc pc = .ok (.ldc2_w i, 3)) (k : cr_V Γ (pc + 3) ls (.long v :: st) I R n) : cr_V Γ pc ls st I R n := by
  obtain ⟨⟨p, l, e, Rm, s, m, args, below, meth, c⟩, Q, D, g, ad, base, n0⟩ := Γ
  obtain ⟨hx, hb, hml, hown, hts, hK, hST, hlk, hrt, hA, hs0, hQ, hrm, hnm, hn0⟩ := h
  intro H locs la hP hz hS hl
  exact lv_ldc2 hx hb hown (hts _ hw) d (k H locs la hP hz hS hl)
theorem cr_iload_n (h : cr_Ok y cc nL ret rm K nS nE Γ) {i : Fin 4} {j : Nat} {x : Int32} (hi : (i : Nat) = j) (hv : ls[j]? = some (.int x)) (d : decode cc pc = .ok (.iload_n i, 1)) (k : cr_V Γ (pc + 1) ls (.int x :: st) I R n) : cr_V Γ pc ls st I R n := by
  obtain ⟨⟨p, l, e, Rm, s, m, args, below, meth, c⟩, Q, D, g, ad, base, n0⟩ := Γ
  obtain ⟨hx, hb, hml, hown, hts, hK, hST, hlk, hrt, hA, hs0, hQ, hrm, hnm, hn0⟩ := h
  intro H locs la hP hz hS hl
  exact lv_iload_n hx hb d hi (hl.2.2 _ (cr_la_in hv (fun q => by cases q))) (k H locs la hP hz hS hl)
theorem cr_iload (h : cr_Ok y cc nL ret rm K nS nE Γ) {i : Nat} {x : Int32} (hv : ls[i]? = some (.int x)) (d : decode cc pc = .ok (.iload i, 2)) (k : cr_V Γ (pc + 2) ls (.int x :: st) I R n) : cr_V Γ pc ls st I R n := by
  obtain ⟨⟨p, l, e, Rm, s, m, args, below, meth, c⟩, Q, D, g, ad, base, n0⟩ := Γ
  obtain ⟨hx, hb, hml, hown, hts, hK, hST, hlk, hrt, hA, hs0, hQ, hrm, hnm, hn0⟩ := h
  intro H locs la hP hz hS hl
  exact lv_iload hx hb d (hl.2.2 _ (cr_la_in hv (fun q => by cases q))) (k H locs la hP hz hS hl)
theorem cr_lload_n (h : cr_Ok y cc nL ret rm K nS nE Γ) {i : Fin 4} {j : Nat} {x : Int64} (hi : (i : Nat) = j) (hv : ls[j]? = some (.long x)) (d : decode cc pc = .ok (.lload_n i, 1)) (k : cr_V Γ (pc + 1) ls (.long x :: st) I R n) : cr_V Γ pc ls st I R n := by
  obtain ⟨⟨p, l, e, Rm, s, m, args, below, meth, c⟩, Q, D, g, ad, base, n0⟩ := Γ
  obtain ⟨hx, hb, hml, hown, hts, hK, hST, hlk, hrt, hA, hs0, hQ, hrm, hnm, hn0⟩ := h
  intro H locs la hP hz hS hl
  exact lv_lload_n hx hb d hi (hl.2.2 _ (cr_la_in hv (fun q => by cases q))) (k H locs la hP hz hS hl)
theorem cr_lload (h : cr_Ok y cc nL ret rm K nS nE Γ) {i : Nat} {x : Int64} (hv : ls[i]? = some (.long x)) (d : decode cc pc = .ok (.lload i, 2)) (k : cr_V Γ (pc + 2) ls (.long x :: st) I R n) : cr_V Γ pc ls st I R n := by
  obtain ⟨⟨p, l, e, Rm, s, m, args, below, meth, c⟩, Q, D, g, ad, base, n0⟩ := Γ
  obtain ⟨hx, hb, hml, hown, hts, hK, hST, hlk, hrt, hA, hs0, hQ, hrm, hnm, hn0⟩ := h
  intro H locs la hP hz hS hl
  exact lv_lload hx hb d (hl.2.2 _ (cr_la_in hv (fun q => by cases q))) (k H locs la hP hz hS hl)
theorem cr_aload_n (h : cr_Ok y cc nL ret rm K nS nE Γ) {i : Fin 4} {j : Nat} {x : Nat} (hi : (i : Nat) = j) (hv : ls[j]? = some (.ref x)) (d : decode cc pc = .ok (.aload_n i, 1)) (k : cr_V Γ (pc + 1) ls (.ref x :: st) I R n) : cr_V Γ pc ls st I R n := by
  obtain ⟨⟨p, l, e, Rm, s, m, args, below, meth, c⟩, Q, D, g, ad, base, n0⟩ := Γ
  obtain ⟨hx, hb, hml, hown, hts, hK, hST, hlk, hrt, hA, hs0, hQ, hrm, hnm, hn0⟩ := h
  intro H locs la hP hz hS hl
  exact lv_aload_n hx hb d hi (hl.2.2 _ (cr_la_in hv (fun q => by cases q))) (k H locs la hP hz hS hl)
theorem cr_aload (h : cr_Ok y cc nL ret rm K nS nE Γ) {i : Nat} {x : Nat} (hv : ls[i]? = some (.ref x)) (d : decode cc pc = .ok (.aload i, 2)) (k : cr_V Γ (pc + 2) ls (.ref x :: st) I R n) : cr_V Γ pc ls st I R n := by
  obtain ⟨⟨p, l, e, Rm, s, m, args, below, meth, c⟩, Q, D, g, ad, base, n0⟩ := Γ
  obtain ⟨hx, hb, hml, hown, hts, hK, hST, hlk, hrt, hA, hs0, hQ, hrm, hnm, hn0⟩ := h
  intro H locs la hP hz hS hl
  exact lv_aload hx hb d (hl.2.2 _ (cr_la_in hv (fun q => by cases q))) (k H locs la hP hz hS hl)
theorem cr_istore_n (h : cr_Ok y cc nL ret rm K nS nE Γ) {i : Fin 4} {j : Nat} (hi : (i : Nat) = j) {x : Int32} (hj : j < nL) (hn : cr_nl ls j = true) (d : decode cc pc = .ok (.istore_n i, 1)) (k : cr_V Γ (pc + 1) (ls.set j (.int x)) st I R n) : cr_V Γ pc ls (.int x :: st) I R n := by
  obtain ⟨⟨p, l, e, Rm, s, m, args, below, meth, c⟩, Q, D, g, ad, base, n0⟩ := Γ
  obtain ⟨hx, hb, hml, hown, hts, hK, hST, hlk, hrt, hA, hs0, hQ, hrm, hnm, hn0⟩ := h
  intro H locs la hP hz hS hl
  exact lv_istore_n hx hb d hi hl (by rw [hml]; exact hj) rfl (fun ls' hl' => k H locs ls' hP hz hS (cr_mono hl' (cr_la_set hn)))
theorem cr_istore (h : cr_Ok y cc nL ret rm K nS nE Γ) {j : Nat} {x : Int32} (hj : j < nL) (hn : cr_nl ls j = true) (d : decode cc pc = .ok (.istore j, 2)) (k : cr_V Γ (pc + 2) (ls.set j (.int x)) st I R n) : cr_V Γ pc ls (.int x :: st) I R n := by
  obtain ⟨⟨p, l, e, Rm, s, m, args, below, meth, c⟩, Q, D, g, ad, base, n0⟩ := Γ
  obtain ⟨hx, hb, hml, hown, hts, hK, hST, hlk, hrt, hA, hs0, hQ, hrm, hnm, hn0⟩ := h
  intro H locs la hP hz hS hl
  exact lv_istore hx hb d hl (by rw [hml]; exact hj) rfl (fun ls' hl' => k H locs ls' hP hz hS (cr_mono hl' (cr_la_set hn)))
theorem cr_astore_n (h : cr_Ok y cc nL ret rm K nS nE Γ) {i : Fin 4} {j : Nat} (hi : (i : Nat) = j) {x : Nat} (hj : j < nL) (hn : cr_nl ls j = true) (d : decode cc pc = .ok (.astore_n i, 1)) (k : cr_V Γ (pc + 1) (ls.set j (.ref x)) st I R n) : cr_V Γ pc ls (.ref x :: st) I R n := by
  obtain ⟨⟨p, l, e, Rm, s, m, args, below, meth, c⟩, Q, D, g, ad, base, n0⟩ := Γ
  obtain ⟨hx, hb, hml, hown, hts, hK, hST, hlk, hrt, hA, hs0, hQ, hrm, hnm, hn0⟩ := h
  intro H locs la hP hz hS hl
  exact lv_astore_n hx hb d hi hl (by rw [hml]; exact hj) rfl (fun ls' hl' => k H locs ls' hP hz hS (cr_mono hl' (cr_la_set hn)))
theorem cr_astore (h : cr_Ok y cc nL ret rm K nS nE Γ) {j : Nat} {x : Nat} (hj : j < nL) (hn : cr_nl ls j = true) (d : decode cc pc = .ok (.astore j, 2)) (k : cr_V Γ (pc + 2) (ls.set j (.ref x)) st I R n) : cr_V Γ pc ls (.ref x :: st) I R n := by
  obtain ⟨⟨p, l, e, Rm, s, m, args, below, meth, c⟩, Q, D, g, ad, base, n0⟩ := Γ
  obtain ⟨hx, hb, hml, hown, hts, hK, hST, hlk, hrt, hA, hs0, hQ, hrm, hnm, hn0⟩ := h
  intro H locs la hP hz hS hl
  exact lv_astore hx hb d hl (by rw [hml]; exact hj) rfl (fun ls' hl' => k H locs ls' hP hz hS (cr_mono hl' (cr_la_set hn)))
theorem cr_iinc (h : cr_Ok y cc nL ret rm K nS nE Γ) {j : Nat} {i : Int} {x v : Int32} (hv : ls[j]? = some (.int x)) (he : x + Int32.ofInt i = v) (hj : j < nL) (hn : cr_nl ls j = true) (d : decode cc pc = .ok (.iinc j i, 3)) (k : cr_V Γ (pc + 3) (ls.set j (.int v)) st I R n) : cr_V Γ pc ls st I R n := by
  obtain ⟨⟨p, l, e, Rm, s, m, args, below, meth, c⟩, Q, D, g, ad, base, n0⟩ := Γ
  obtain ⟨hx, hb, hml, hown, hts, hK, hST, hlk, hrt, hA, hs0, hQ, hrm, hnm, hn0⟩ := h
  intro H locs la hP hz hS hl
  obtain ⟨k0, hk0⟩ := List.getElem?_of_mem (cr_la_in (ad := ad) hv (fun q => by cases q))
  exact lv_iinc hx hb d hl (k := k0) (x := x) hk0 he (by rw [hml]; exact hj) rfl (fun ls' hl' => k H locs ls' hP hz hS (cr_mono hl' (cr_la_set (v := .int v) hn)))
theorem cr_iadd (h : cr_Ok y cc nL ret rm K nS nE Γ) {x0 y0 : Int32}  (d : decode cc pc = .ok (.iadd, 1)) (k : cr_V Γ (pc + 1) ls (.int (x0 + y0) :: st) I R n) : cr_V Γ pc ls (.int y0 :: .int x0 :: st) I R n := by
  obtain ⟨⟨p, l, e, Rm, s, m, args, below, meth, c⟩, Q, D, g, ad, base, n0⟩ := Γ
  obtain ⟨hx, hb, hml, hown, hts, hK, hST, hlk, hrt, hA, hs0, hQ, hrm, hnm, hn0⟩ := h
  intro H locs la hP hz hS hl
  exact lv_iadd hx hb d (k H locs la hP hz hS hl)
theorem cr_isub (h : cr_Ok y cc nL ret rm K nS nE Γ) {x0 y0 : Int32}  (d : decode cc pc = .ok (.isub, 1)) (k : cr_V Γ (pc + 1) ls (.int (x0 - y0) :: st) I R n) : cr_V Γ pc ls (.int y0 :: .int x0 :: st) I R n := by
  obtain ⟨⟨p, l, e, Rm, s, m, args, below, meth, c⟩, Q, D, g, ad, base, n0⟩ := Γ
  obtain ⟨hx, hb, hml, hown, hts, hK, hST, hlk, hrt, hA, hs0, hQ, hrm, hnm, hn0⟩ := h
  intro H locs la hP hz hS hl
  exact lv_isub hx hb d (k H locs la hP hz hS hl)
theorem cr_imul (h : cr_Ok y cc nL ret rm K nS nE Γ) {x0 y0 : Int32}  (d : decode cc pc = .ok (.imul, 1)) (k : cr_V Γ (pc + 1) ls (.int (x0 * y0) :: st) I R n) : cr_V Γ pc ls (.int y0 :: .int x0 :: st) I R n := by
  obtain ⟨⟨p, l, e, Rm, s, m, args, below, meth, c⟩, Q, D, g, ad, base, n0⟩ := Γ
  obtain ⟨hx, hb, hml, hown, hts, hK, hST, hlk, hrt, hA, hs0, hQ, hrm, hnm, hn0⟩ := h
  intro H locs la hP hz hS hl
  exact lv_imul hx hb d (k H locs la hP hz hS hl)
theorem cr_iand (h : cr_Ok y cc nL ret rm K nS nE Γ) {x0 y0 : Int32}  (d : decode cc pc = .ok (.iand, 1)) (k : cr_V Γ (pc + 1) ls (.int (x0 &&& y0) :: st) I R n) : cr_V Γ pc ls (.int y0 :: .int x0 :: st) I R n := by
  obtain ⟨⟨p, l, e, Rm, s, m, args, below, meth, c⟩, Q, D, g, ad, base, n0⟩ := Γ
  obtain ⟨hx, hb, hml, hown, hts, hK, hST, hlk, hrt, hA, hs0, hQ, hrm, hnm, hn0⟩ := h
  intro H locs la hP hz hS hl
  exact lv_iand hx hb d (k H locs la hP hz hS hl)
theorem cr_ior (h : cr_Ok y cc nL ret rm K nS nE Γ) {x0 y0 : Int32}  (d : decode cc pc = .ok (.ior, 1)) (k : cr_V Γ (pc + 1) ls (.int (x0 ||| y0) :: st) I R n) : cr_V Γ pc ls (.int y0 :: .int x0 :: st) I R n := by
  obtain ⟨⟨p, l, e, Rm, s, m, args, below, meth, c⟩, Q, D, g, ad, base, n0⟩ := Γ
  obtain ⟨hx, hb, hml, hown, hts, hK, hST, hlk, hrt, hA, hs0, hQ, hrm, hnm, hn0⟩ := h
  intro H locs la hP hz hS hl
  exact lv_ior hx hb d (k H locs la hP hz hS hl)
theorem cr_ixor (h : cr_Ok y cc nL ret rm K nS nE Γ) {x0 y0 : Int32}  (d : decode cc pc = .ok (.ixor, 1)) (k : cr_V Γ (pc + 1) ls (.int (x0 ^^^ y0) :: st) I R n) : cr_V Γ pc ls (.int y0 :: .int x0 :: st) I R n := by
  obtain ⟨⟨p, l, e, Rm, s, m, args, below, meth, c⟩, Q, D, g, ad, base, n0⟩ := Γ
  obtain ⟨hx, hb, hml, hown, hts, hK, hST, hlk, hrt, hA, hs0, hQ, hrm, hnm, hn0⟩ := h
  intro H locs la hP hz hS hl
  exact lv_ixor hx hb d (k H locs la hP hz hS hl)
theorem cr_idiv (h : cr_Ok y cc nL ret rm K nS nE Γ) {x0 y0 : Int32} (hne : ¬ y0 = 0) (d : decode cc pc = .ok (.idiv, 1)) (k : cr_V Γ (pc + 1) ls (.int (x0 / y0) :: st) I R n) : cr_V Γ pc ls (.int y0 :: .int x0 :: st) I R n := by
  obtain ⟨⟨p, l, e, Rm, s, m, args, below, meth, c⟩, Q, D, g, ad, base, n0⟩ := Γ
  obtain ⟨hx, hb, hml, hown, hts, hK, hST, hlk, hrt, hA, hs0, hQ, hrm, hnm, hn0⟩ := h
  intro H locs la hP hz hS hl
  exact lv_idiv hx hb d hne (k H locs la hP hz hS hl)
theorem cr_irem (h : cr_Ok y cc nL ret rm K nS nE Γ) {x0 y0 : Int32} (hne : ¬ y0 = 0) (d : decode cc pc = .ok (.irem, 1)) (k : cr_V Γ (pc + 1) ls (.int (x0 - x0 / y0 * y0) :: st) I R n) : cr_V Γ pc ls (.int y0 :: .int x0 :: st) I R n := by
  obtain ⟨⟨p, l, e, Rm, s, m, args, below, meth, c⟩, Q, D, g, ad, base, n0⟩ := Γ
  obtain ⟨hx, hb, hml, hown, hts, hK, hST, hlk, hrt, hA, hs0, hQ, hrm, hnm, hn0⟩ := h
  intro H locs la hP hz hS hl
  exact lv_irem hx hb d hne (k H locs la hP hz hS hl)
theorem cr_ishl (h : cr_Ok y cc nL ret rm K nS nE Γ) {x0 y0 : Int32}  (d : decode cc pc = .ok (.ishl, 1)) (k : cr_V Γ (pc + 1) ls (.int (x0 <<< (y0 &&& 31)) :: st) I R n) : cr_V Γ pc ls (.int y0 :: .int x0 :: st) I R n := by
  obtain ⟨⟨p, l, e, Rm, s, m, args, below, meth, c⟩, Q, D, g, ad, base, n0⟩ := Γ
  obtain ⟨hx, hb, hml, hown, hts, hK, hST, hlk, hrt, hA, hs0, hQ, hrm, hnm, hn0⟩ := h
  intro H locs la hP hz hS hl
  exact lv_ishl hx hb d (k H locs la hP hz hS hl)
theorem cr_ishr (h : cr_Ok y cc nL ret rm K nS nE Γ) {x0 y0 : Int32}  (d : decode cc pc = .ok (.ishr, 1)) (k : cr_V Γ (pc + 1) ls (.int (x0 >>> (y0 &&& 31)) :: st) I R n) : cr_V Γ pc ls (.int y0 :: .int x0 :: st) I R n := by
  obtain ⟨⟨p, l, e, Rm, s, m, args, below, meth, c⟩, Q, D, g, ad, base, n0⟩ := Γ
  obtain ⟨hx, hb, hml, hown, hts, hK, hST, hlk, hrt, hA, hs0, hQ, hrm, hnm, hn0⟩ := h
  intro H locs la hP hz hS hl
  exact lv_ishr hx hb d (k H locs la hP hz hS hl)
theorem cr_iushr (h : cr_Ok y cc nL ret rm K nS nE Γ) {x0 y0 : Int32}  (d : decode cc pc = .ok (.iushr, 1)) (k : cr_V Γ (pc + 1) ls (.int (x0.toUInt32 >>> (y0.toUInt32 &&& Int32.toUInt32 31)).toInt32 :: st) I R n) : cr_V Γ pc ls (.int y0 :: .int x0 :: st) I R n := by
  obtain ⟨⟨p, l, e, Rm, s, m, args, below, meth, c⟩, Q, D, g, ad, base, n0⟩ := Γ
  obtain ⟨hx, hb, hml, hown, hts, hK, hST, hlk, hrt, hA, hs0, hQ, hrm, hnm, hn0⟩ := h
  intro H locs la hP hz hS hl
  exact lv_iushr hx hb d rfl (k H locs la hP hz hS hl)
theorem cr_land (h : cr_Ok y cc nL ret rm K nS nE Γ) {x0 y0 : Int64}  (d : decode cc pc = .ok (.land, 1)) (k : cr_V Γ (pc + 1) ls (.long (x0 &&& y0) :: st) I R n) : cr_V Γ pc ls (.long y0 :: .long x0 :: st) I R n := by
  obtain ⟨⟨p, l, e, Rm, s, m, args, below, meth, c⟩, Q, D, g, ad, base, n0⟩ := Γ
  obtain ⟨hx, hb, hml, hown, hts, hK, hST, hlk, hrt, hA, hs0, hQ, hrm, hnm, hn0⟩ := h
  intro H locs la hP hz hS hl
  exact lv_land hx hb d (k H locs la hP hz hS hl)
theorem cr_lor (h : cr_Ok y cc nL ret rm K nS nE Γ) {x0 y0 : Int64}  (d : decode cc pc = .ok (.lor, 1)) (k : cr_V Γ (pc + 1) ls (.long (x0 ||| y0) :: st) I R n) : cr_V Γ pc ls (.long y0 :: .long x0 :: st) I R n := by
  obtain ⟨⟨p, l, e, Rm, s, m, args, below, meth, c⟩, Q, D, g, ad, base, n0⟩ := Γ
  obtain ⟨hx, hb, hml, hown, hts, hK, hST, hlk, hrt, hA, hs0, hQ, hrm, hnm, hn0⟩ := h
  intro H locs la hP hz hS hl
  exact lv_lor hx hb d (k H locs la hP hz hS hl)
theorem cr_lcmp (h : cr_Ok y cc nL ret rm K nS nE Γ) {x0 y0 : Int64} (d : decode cc pc = .ok (.lcmp, 1)) (k : cr_V Γ (pc + 1) ls (.int (lg_cmp x0 y0) :: st) I R n) : cr_V Γ pc ls (.long y0 :: .long x0 :: st) I R n := by
  obtain ⟨⟨p, l, e, Rm, s, m, args, below, meth, c⟩, Q, D, g, ad, base, n0⟩ := Γ
  obtain ⟨hx, hb, hml, hown, hts, hK, hST, hlk, hrt, hA, hs0, hQ, hrm, hnm, hn0⟩ := h
  intro H locs la hP hz hS hl
  exact W.lcmp hx hb d (k H locs la hP hz hS hl)
theorem cr_ineg (h : cr_Ok y cc nL ret rm K nS nE Γ) {x0 : Int32} (d : decode cc pc = .ok (.ineg, 1)) (k : cr_V Γ (pc + 1) ls (.int (-x0) :: st) I R n) : cr_V Γ pc ls (.int x0 :: st) I R n := by
  obtain ⟨⟨p, l, e, Rm, s, m, args, below, meth, c⟩, Q, D, g, ad, base, n0⟩ := Γ
  obtain ⟨hx, hb, hml, hown, hts, hK, hST, hlk, hrt, hA, hs0, hQ, hrm, hnm, hn0⟩ := h
  intro H locs la hP hz hS hl
  exact lv_ineg hx hb d (k H locs la hP hz hS hl)
theorem cr_i2l (h : cr_Ok y cc nL ret rm K nS nE Γ) {x0 : Int32} (d : decode cc pc = .ok (.i2l, 1)) (k : cr_V Γ (pc + 1) ls (.long x0.toInt64 :: st) I R n) : cr_V Γ pc ls (.int x0 :: st) I R n := by
  obtain ⟨⟨p, l, e, Rm, s, m, args, below, meth, c⟩, Q, D, g, ad, base, n0⟩ := Γ
  obtain ⟨hx, hb, hml, hown, hts, hK, hST, hlk, hrt, hA, hs0, hQ, hrm, hnm, hn0⟩ := h
  intro H locs la hP hz hS hl
  exact lv_i2l hx hb d rfl (k H locs la hP hz hS hl)
theorem cr_l2i (h : cr_Ok y cc nL ret rm K nS nE Γ) {x0 : Int64} (d : decode cc pc = .ok (.l2i, 1)) (k : cr_V Γ (pc + 1) ls (.int x0.toInt32 :: st) I R n) : cr_V Γ pc ls (.long x0 :: st) I R n := by
  obtain ⟨⟨p, l, e, Rm, s, m, args, below, meth, c⟩, Q, D, g, ad, base, n0⟩ := Γ
  obtain ⟨hx, hb, hml, hown, hts, hK, hST, hlk, hrt, hA, hs0, hQ, hrm, hnm, hn0⟩ := h
  intro H locs la hP hz hS hl
  exact lv_l2i hx hb d rfl (k H locs la hP hz hS hl)
theorem cr_i2c (h : cr_Ok y cc nL ret rm K nS nE Γ) {x0 : Int32} (d : decode cc pc = .ok (.i2c, 1)) (k : cr_V Γ (pc + 1) ls (.int (x0.toUInt32 % 65536).toInt32 :: st) I R n) : cr_V Γ pc ls (.int x0 :: st) I R n := by
  obtain ⟨⟨p, l, e, Rm, s, m, args, below, meth, c⟩, Q, D, g, ad, base, n0⟩ := Γ
  obtain ⟨hx, hb, hml, hown, hts, hK, hST, hlk, hrt, hA, hs0, hQ, hrm, hnm, hn0⟩ := h
  intro H locs la hP hz hS hl
  exact lv_i2c hx hb d rfl (k H locs la hP hz hS hl)
theorem cr_dup (h : cr_Ok y cc nL ret rm K nS nE Γ) {v : Value} (hv : v.category = 1) (d : decode cc pc = .ok (.dup, 1)) (k : cr_V Γ (pc + 1) ls (v :: v :: st) I R n) : cr_V Γ pc ls (v :: st) I R n := by
  obtain ⟨⟨p, l, e, Rm, s, m, args, below, meth, c⟩, Q, D, g, ad, base, n0⟩ := Γ
  obtain ⟨hx, hb, hml, hown, hts, hK, hST, hlk, hrt, hA, hs0, hQ, hrm, hnm, hn0⟩ := h
  intro H locs la hP hz hS hl
  exact lv_dup hx hb d (by rw [cr_tr_cat]; exact hv) (k H locs la hP hz hS hl)
theorem cr_pop (h : cr_Ok y cc nL ret rm K nS nE Γ) {v : Value} (hv : v.category = 1) (d : decode cc pc = .ok (.pop, 1)) (k : cr_V Γ (pc + 1) ls st I R n) : cr_V Γ pc ls (v :: st) I R n := by
  obtain ⟨⟨p, l, e, Rm, s, m, args, below, meth, c⟩, Q, D, g, ad, base, n0⟩ := Γ
  obtain ⟨hx, hb, hml, hown, hts, hK, hST, hlk, hrt, hA, hs0, hQ, hrm, hnm, hn0⟩ := h
  intro H locs la hP hz hS hl
  exact lv_pop hx hb d (by rw [cr_tr_cat]; exact hv) (k H locs la hP hz hS hl)
theorem cr_dup2 (h : cr_Ok y cc nL ret rm K nS nE Γ) {v u : Value} (hv : v.category = 1) (hu : u.category = 1) (d : decode cc pc = .ok (.dup2, 1)) (k : cr_V Γ (pc + 1) ls (v :: u :: v :: u :: st) I R n) : cr_V Γ pc ls (v :: u :: st) I R n := by
  obtain ⟨⟨p, l, e, Rm, s, m, args, below, meth, c⟩, Q, D, g, ad, base, n0⟩ := Γ
  obtain ⟨hx, hb, hml, hown, hts, hK, hST, hlk, hrt, hA, hs0, hQ, hrm, hnm, hn0⟩ := h
  intro H locs la hP hz hS hl
  exact lv_dup2_11 hx hb d (by rw [cr_tr_cat]; exact hv) (by rw [cr_tr_cat]; exact hu) (k H locs la hP hz hS hl)
theorem cr_if_eq (h : cr_Ok y cc nL ret rm K nS nE Γ) {x0 : Int32} {off : Int} {tgt : Nat} (ht : (pc : Int) + off = (tgt : Int)) (d : decode cc pc = .ok (.ifCond .eq off, 3)) (kt : x0 = 0 → cr_V Γ tgt ls st I R n) (kf : ¬ x0 = 0 → cr_V Γ (pc + 3) ls st I R n) : cr_V Γ pc ls (.int x0 :: st) I R n := by
  obtain ⟨⟨p, l, e, Rm, s, m, args, below, meth, c⟩, Q, D, g, ad, base, n0⟩ := Γ
  obtain ⟨hx, hb, hml, hown, hts, hK, hST, hlk, hrt, hA, hs0, hQ, hrm, hnm, hn0⟩ := h
  intro H locs la hP hz hS hl
  exact lv_if_eq hx hb d ht (fun q => kt q H locs la hP hz hS hl) (fun q => kf q H locs la hP hz hS hl)
theorem cr_icmp_eq (h : cr_Ok y cc nL ret rm K nS nE Γ) {x0 y0 : Int32} {off : Int} {tgt : Nat} (ht : (pc : Int) + off = (tgt : Int)) (d : decode cc pc = .ok (.if_icmp .eq off, 3)) (kt : x0 = y0 → cr_V Γ tgt ls st I R n) (kf : ¬ x0 = y0 → cr_V Γ (pc + 3) ls st I R n) : cr_V Γ pc ls (.int y0 :: .int x0 :: st) I R n := by
  obtain ⟨⟨p, l, e, Rm, s, m, args, below, meth, c⟩, Q, D, g, ad, base, n0⟩ := Γ
  obtain ⟨hx, hb, hml, hown, hts, hK, hST, hlk, hrt, hA, hs0, hQ, hrm, hnm, hn0⟩ := h
  intro H locs la hP hz hS hl
  exact lv_icmp_eq hx hb d ht (fun q => kt q H locs la hP hz hS hl) (fun q => kf q H locs la hP hz hS hl)
theorem cr_if_ne (h : cr_Ok y cc nL ret rm K nS nE Γ) {x0 : Int32} {off : Int} {tgt : Nat} (ht : (pc : Int) + off = (tgt : Int)) (d : decode cc pc = .ok (.ifCond .ne off, 3)) (kt : ¬ x0 = 0 → cr_V Γ tgt ls st I R n) (kf : x0 = 0 → cr_V Γ (pc + 3) ls st I R n) : cr_V Γ pc ls (.int x0 :: st) I R n := by
  obtain ⟨⟨p, l, e, Rm, s, m, args, below, meth, c⟩, Q, D, g, ad, base, n0⟩ := Γ
  obtain ⟨hx, hb, hml, hown, hts, hK, hST, hlk, hrt, hA, hs0, hQ, hrm, hnm, hn0⟩ := h
  intro H locs la hP hz hS hl
  exact lv_if_ne hx hb d ht (fun q => kt q H locs la hP hz hS hl) (fun q => kf q H locs la hP hz hS hl)
theorem cr_icmp_ne (h : cr_Ok y cc nL ret rm K nS nE Γ) {x0 y0 : Int32} {off : Int} {tgt : Nat} (ht : (pc : Int) + off = (tgt : Int)) (d : decode cc pc = .ok (.if_icmp .ne off, 3)) (kt : ¬ x0 = y0 → cr_V Γ tgt ls st I R n) (kf : x0 = y0 → cr_V Γ (pc + 3) ls st I R n) : cr_V Γ pc ls (.int y0 :: .int x0 :: st) I R n := by
  obtain ⟨⟨p, l, e, Rm, s, m, args, below, meth, c⟩, Q, D, g, ad, base, n0⟩ := Γ
  obtain ⟨hx, hb, hml, hown, hts, hK, hST, hlk, hrt, hA, hs0, hQ, hrm, hnm, hn0⟩ := h
  intro H locs la hP hz hS hl
  exact lv_icmp_ne hx hb d ht (fun q => kt q H locs la hP hz hS hl) (fun q => kf q H locs la hP hz hS hl)
theorem cr_if_lt (h : cr_Ok y cc nL ret rm K nS nE Γ) {x0 : Int32} {off : Int} {tgt : Nat} (ht : (pc : Int) + off = (tgt : Int)) (d : decode cc pc = .ok (.ifCond .lt off, 3)) (kt : x0 < 0 → cr_V Γ tgt ls st I R n) (kf : ¬ x0 < 0 → cr_V Γ (pc + 3) ls st I R n) : cr_V Γ pc ls (.int x0 :: st) I R n := by
  obtain ⟨⟨p, l, e, Rm, s, m, args, below, meth, c⟩, Q, D, g, ad, base, n0⟩ := Γ
  obtain ⟨hx, hb, hml, hown, hts, hK, hST, hlk, hrt, hA, hs0, hQ, hrm, hnm, hn0⟩ := h
  intro H locs la hP hz hS hl
  exact lv_if_lt hx hb d ht (fun q => kt q H locs la hP hz hS hl) (fun q => kf q H locs la hP hz hS hl)
theorem cr_icmp_lt (h : cr_Ok y cc nL ret rm K nS nE Γ) {x0 y0 : Int32} {off : Int} {tgt : Nat} (ht : (pc : Int) + off = (tgt : Int)) (d : decode cc pc = .ok (.if_icmp .lt off, 3)) (kt : x0 < y0 → cr_V Γ tgt ls st I R n) (kf : ¬ x0 < y0 → cr_V Γ (pc + 3) ls st I R n) : cr_V Γ pc ls (.int y0 :: .int x0 :: st) I R n := by
  obtain ⟨⟨p, l, e, Rm, s, m, args, below, meth, c⟩, Q, D, g, ad, base, n0⟩ := Γ
  obtain ⟨hx, hb, hml, hown, hts, hK, hST, hlk, hrt, hA, hs0, hQ, hrm, hnm, hn0⟩ := h
  intro H locs la hP hz hS hl
  exact lv_icmp_lt hx hb d ht (fun q => kt q H locs la hP hz hS hl) (fun q => kf q H locs la hP hz hS hl)
theorem cr_if_ge (h : cr_Ok y cc nL ret rm K nS nE Γ) {x0 : Int32} {off : Int} {tgt : Nat} (ht : (pc : Int) + off = (tgt : Int)) (d : decode cc pc = .ok (.ifCond .ge off, 3)) (kt : 0 ≤ x0 → cr_V Γ tgt ls st I R n) (kf : ¬ 0 ≤ x0 → cr_V Γ (pc + 3) ls st I R n) : cr_V Γ pc ls (.int x0 :: st) I R n := by
  obtain ⟨⟨p, l, e, Rm, s, m, args, below, meth, c⟩, Q, D, g, ad, base, n0⟩ := Γ
  obtain ⟨hx, hb, hml, hown, hts, hK, hST, hlk, hrt, hA, hs0, hQ, hrm, hnm, hn0⟩ := h
  intro H locs la hP hz hS hl
  exact lv_if_ge hx hb d ht (fun q => kt q H locs la hP hz hS hl) (fun q => kf q H locs la hP hz hS hl)
theorem cr_icmp_ge (h : cr_Ok y cc nL ret rm K nS nE Γ) {x0 y0 : Int32} {off : Int} {tgt : Nat} (ht : (pc : Int) + off = (tgt : Int)) (d : decode cc pc = .ok (.if_icmp .ge off, 3)) (kt : y0 ≤ x0 → cr_V Γ tgt ls st I R n) (kf : ¬ y0 ≤ x0 → cr_V Γ (pc + 3) ls st I R n) : cr_V Γ pc ls (.int y0 :: .int x0 :: st) I R n := by
  obtain ⟨⟨p, l, e, Rm, s, m, args, below, meth, c⟩, Q, D, g, ad, base, n0⟩ := Γ
  obtain ⟨hx, hb, hml, hown, hts, hK, hST, hlk, hrt, hA, hs0, hQ, hrm, hnm, hn0⟩ := h
  intro H locs la hP hz hS hl
  exact lv_icmp_ge hx hb d ht (fun q => kt q H locs la hP hz hS hl) (fun q => kf q H locs la hP hz hS hl)
theorem cr_if_gt (h : cr_Ok y cc nL ret rm K nS nE Γ) {x0 : Int32} {off : Int} {tgt : Nat} (ht : (pc : Int) + off = (tgt : Int)) (d : decode cc pc = .ok (.ifCond .gt off, 3)) (kt : 0 < x0 → cr_V Γ tgt ls st I R n) (kf : ¬ 0 < x0 → cr_V Γ (pc + 3) ls st I R n) : cr_V Γ pc ls (.int x0 :: st) I R n := by
  obtain ⟨⟨p, l, e, Rm, s, m, args, below, meth, c⟩, Q, D, g, ad, base, n0⟩ := Γ
  obtain ⟨hx, hb, hml, hown, hts, hK, hST, hlk, hrt, hA, hs0, hQ, hrm, hnm, hn0⟩ := h
  intro H locs la hP hz hS hl
  exact lv_if_gt hx hb d ht (fun q => kt q H locs la hP hz hS hl) (fun q => kf q H locs la hP hz hS hl)
theorem cr_icmp_gt (h : cr_Ok y cc nL ret rm K nS nE Γ) {x0 y0 : Int32} {off : Int} {tgt : Nat} (ht : (pc : Int) + off = (tgt : Int)) (d : decode cc pc = .ok (.if_icmp .gt off, 3)) (kt : y0 < x0 → cr_V Γ tgt ls st I R n) (kf : ¬ y0 < x0 → cr_V Γ (pc + 3) ls st I R n) : cr_V Γ pc ls (.int y0 :: .int x0 :: st) I R n := by
  obtain ⟨⟨p, l, e, Rm, s, m, args, below, meth, c⟩, Q, D, g, ad, base, n0⟩ := Γ
  obtain ⟨hx, hb, hml, hown, hts, hK, hST, hlk, hrt, hA, hs0, hQ, hrm, hnm, hn0⟩ := h
  intro H locs la hP hz hS hl
  exact lv_icmp_gt hx hb d ht (fun q => kt q H locs la hP hz hS hl) (fun q => kf q H locs la hP hz hS hl)
theorem cr_if_le (h : cr_Ok y cc nL ret rm K nS nE Γ) {x0 : Int32} {off : Int} {tgt : Nat} (ht : (pc : Int) + off = (tgt : Int)) (d : decode cc pc = .ok (.ifCond .le off, 3)) (kt : x0 ≤ 0 → cr_V Γ tgt ls st I R n) (kf : ¬ x0 ≤ 0 → cr_V Γ (pc + 3) ls st I R n) : cr_V Γ pc ls (.int x0 :: st) I R n := by
  obtain ⟨⟨p, l, e, Rm, s, m, args, below, meth, c⟩, Q, D, g, ad, base, n0⟩ := Γ
  obtain ⟨hx, hb, hml, hown, hts, hK, hST, hlk, hrt, hA, hs0, hQ, hrm, hnm, hn0⟩ := h
  intro H locs la hP hz hS hl
  exact lv_if_le hx hb d ht (fun q => kt q H locs la hP hz hS hl) (fun q => kf q H locs la hP hz hS hl)
theorem cr_icmp_le (h : cr_Ok y cc nL ret rm K nS nE Γ) {x0 y0 : Int32} {off : Int} {tgt : Nat} (ht : (pc : Int) + off = (tgt : Int)) (d : decode cc pc = .ok (.if_icmp .le off, 3)) (kt : x0 ≤ y0 → cr_V Γ tgt ls st I R n) (kf : ¬ x0 ≤ y0 → cr_V Γ (pc + 3) ls st I R n) : cr_V Γ pc ls (.int y0 :: .int x0 :: st) I R n := by
  obtain ⟨⟨p, l, e, Rm, s, m, args, below, meth, c⟩, Q, D, g, ad, base, n0⟩ := Γ
  obtain ⟨hx, hb, hml, hown, hts, hK, hST, hlk, hrt, hA, hs0, hQ, hrm, hnm, hn0⟩ := h
  intro H locs la hP hz hS hl
  exact lv_icmp_le hx hb d ht (fun q => kt q H locs la hP hz hS hl) (fun q => kf q H locs la hP hz hS hl)
theorem cr_goto (h : cr_Ok y cc nL ret rm K nS nE Γ) {off : Int} {tgt : Nat} (ht : (pc : Int) + off = (tgt : Int)) (d : decode cc pc = .ok (.goto off, 3)) (k : cr_V Γ tgt ls st I R n) : cr_V Γ pc ls st I R n := by
  obtain ⟨⟨p, l, e, Rm, s, m, args, below, meth, c⟩, Q, D, g, ad, base, n0⟩ := Γ
  obtain ⟨hx, hb, hml, hown, hts, hK, hST, hlk, hrt, hA, hs0, hQ, hrm, hnm, hn0⟩ := h
  intro H locs la hP hz hS hl
  exact lv_goto hx hb d ht (k H locs la hP hz hS hl)
theorem cr_swOut (h : cr_Ok y cc nL ret rm K nS nE Γ) {dflt lo hi : Int} {offs : Array Int} {len : Nat} {x0 : Int32} {tgt : Nat} (hr : x0.toInt < lo ∨ hi < x0.toInt) (ht : (pc : Int) + dflt = (tgt : Int)) (d : decode cc pc = .ok (.tableswitch dflt lo hi offs, len)) (k : cr_V Γ tgt ls st I R n) : cr_V Γ pc ls (.int x0 :: st) I R n := by
  obtain ⟨⟨p, l, e, Rm, s, m, args, below, meth, c⟩, Q, D, g, ad, base, n0⟩ := Γ
  obtain ⟨hx, hb, hml, hown, hts, hK, hST, hlk, hrt, hA, hs0, hQ, hrm, hnm, hn0⟩ := h
  intro H locs la hP hz hS hl
  exact lv_tableOut hx hb d hr ht (k H locs la hP hz hS hl)
theorem cr_swIn (h : cr_Ok y cc nL ret rm K nS nE Γ) {dflt lo hi : Int} {offs : Array Int} {len : Nat} {x0 : Int32} {off : Int} {tgt : Nat} (h1 : ¬ x0.toInt < lo) (h2 : ¬ hi < x0.toInt) (ho : offs[(x0.toInt - lo).toNat]? = some off) (ht : (pc : Int) + off = (tgt : Int)) (d : decode cc pc = .ok (.tableswitch dflt lo hi offs, len)) (k : cr_V Γ tgt ls st I R n) : cr_V Γ pc ls (.int x0 :: st) I R n := by
  obtain ⟨⟨p, l, e, Rm, s, m, args, below, meth, c⟩, Q, D, g, ad, base, n0⟩ := Γ
  obtain ⟨hx, hb, hml, hown, hts, hK, hST, hlk, hrt, hA, hs0, hQ, hrm, hnm, hn0⟩ := h
  intro H locs la hP hz hS hl
  exact lv_tableIn hx hb d h1 h2 ho ht (k H locs la hP hz hS hl)
theorem cr_iret (h : cr_Ok y cc nL ret rm K nS nE Γ) {x0 : Int32} {ty : FieldType} (hr : ret = some ty) (hn : narrow ty (.int x0) = .int x0) (he : n = nE) (d : decode cc pc = .ok (.ireturn, 1)) (k : K (some (.int x0)) I R) : cr_V Γ pc ls [.int x0] I R n := by
  obtain ⟨⟨p, l, e, Rm, s, m, args, below, meth, c⟩, Q, D, g, ad, base, n0⟩ := Γ
  obtain ⟨hx, hb, hml, hown, hts, hK, hST, hlk, hrt, hA, hs0, hQ, hrm, hnm, hn0⟩ := h
  intro H locs la hP hz hS hl
  subst he
  subst hQ
  exact W.zret hx hb (hrt.trans hr) hn (fun t ht hW => ⟨⟨some (.int x0), I, R, rfl, k, by rw [ht]; exact hP, by rw [ht]; exact hz⟩, hS.F ht⟩) hS.2.2 d hlk
theorem cr_aret (h : cr_Ok y cc nL ret rm K nS nE Γ) {x0 : Nat} {rt : FieldType} (hr : ret = some rt) (hrt0 : (∃ n, rt = .object n) ∨ ∃ t, rt = .array t) (he : n = nE) (d : decode cc pc = .ok (.areturn, 1)) (k : K (some (.ref x0)) I R) : cr_V Γ pc ls [.ref x0] I R n := by
  obtain ⟨⟨p, l, e, Rm, s, m, args, below, meth, c⟩, Q, D, g, ad, base, n0⟩ := Γ
  obtain ⟨hx, hb, hml, hown, hts, hK, hST, hlk, hrt, hA, hs0, hQ, hrm, hnm, hn0⟩ := h
  intro H locs la hP hz hS hl
  subst he
  subst hQ
  exact W.aret hx hb (hrt.trans hr) hrt0 (Or.inr ⟨ad x0, rfl⟩) (fun t ht hW => ⟨⟨some (.ref x0), I, R, rfl, k, by rw [ht]; exact hP, by rw [ht]; exact hz⟩, hS.F ht⟩) hS.2.2 d hlk
theorem cr_vret (h : cr_Ok y cc nL ret rm K nS nE Γ) (hr : ret = none) (he : n = nE) (d : decode cc pc = .ok (.return_, 1)) (k : K none I R) : cr_V Γ pc ls [] I R n := by
  obtain ⟨⟨p, l, e, Rm, s, m, args, below, meth, c⟩, Q, D, g, ad, base, n0⟩ := Γ
  obtain ⟨hx, hb, hml, hown, hts, hK, hST, hlk, hrt, hA, hs0, hQ, hrm, hnm, hn0⟩ := h
  intro H locs la hP hz hS hl
  subst he
  subst hQ
  exact W.vret hx hb (hrt.trans hr) (fun t ht hW => ⟨⟨none, I, R, rfl, k, by rw [ht]; exact hP, by rw [ht]; exact hz⟩, hS.F ht⟩) hS.2.2 d hlk
end CRR
end
section
theorem cr_sl_mono {a b : Nat} (h : a ≤ b) : cr_sl a ≤ cr_sl b := by
  induction b with
  | zero => rw [Nat.le_zero.mp h]; exact Nat.le_refl _
  | succ b ih =>
    rcases Nat.lt_or_ge a (b + 1) with q | q
    · refine Nat.le_trans (ih (by omega)) ?_
      unfold cr_sl
      rw [List.take_succ]
      simp
    · rw [show a = b + 1 by omega]; exact Nat.le_refl _
theorem cr_ce_obj {ad : Nat → Nat} {g : cr_g} {I : cr_I} {R : cr_R} {b c N : Nat} (h : cr_kd b = (c + 3, N)) : cr_ce ad g I R b = .inr (c, cr_fs ad I R c N b) := by simp only [cr_ce, h]
theorem cr_ce_int {ad : Nat → Nat} {g : cr_g} {I : cr_I} {R : cr_R} {b N : Nat} (h : cr_kd b = (0, N)) : cr_ce ad g I R b = .inl (g.1, N, .inl (I b)) := by simp only [cr_ce, h]
theorem cr_ce_row {ad : Nat → Nat} {g : cr_g} {I : cr_I} {R : cr_R} {b N : Nat} (h : cr_kd b = (1, N)) : cr_ce ad g I R b = .inl (g.2.1, N, .inr (.inr (.inr (.inr (fun j => (R b j).map ad))))) := by simp only [cr_ce, h]
theorem cr_ce_mak {ad : Nat → Nat} {g : cr_g} {I : cr_I} {R : cr_R} {b N : Nat} (h : cr_kd b = (2, N)) : cr_ce ad g I R b = .inl (g.2.2, N, .inr (.inr (.inr (.inr (fun j => (R b j).map ad))))) := by simp only [cr_ce, h]
theorem cr_vin {i : Int32} {N : Nat} (h0 : 0 ≤ i.toInt) (h1 : i.toInt < N) : vp_in i N := vp_in_iff.mpr ⟨h0, h1⟩
/-- a class of the world by its number -/
def cr_cls (c : Nat) (C : String) (T : u_T) (N : Nat) (ty : Nat → FieldType) : Prop := cr_cl[c]? = some (C, T, N) ∧ (∀ w ∈ u_ws C T N, w ∈ cr_GW) ∧ (∀ k, k < N → parseFieldDescriptor (T k).2.2.1 = some (ty k)) ∧ ∀ a, a < N → ∀ b, b < N → a ≠ b → (T a).2.1 ≠ (T b).2.1
theorem cr_clsX0 : cr_cls 0 RX0 TX0 9 tyX0 := ⟨rfl, cr_inX0, tyX0_ok, nmX0⟩
theorem cr_clsX1 : cr_cls 1 RX1 TX1 8 tyX1 := ⟨rfl, cr_inX1, tyX1_ok, nmX1⟩
theorem cr_clsX2 : cr_cls 2 RX2 TX2 5 tyX2 := ⟨rfl, cr_inX2, tyX2_ok, nmX2⟩
theorem cr_clsX3 : cr_cls 3 RX3 TX3 17 tyX3 := ⟨rfl, cr_inX3, tyX3_ok, nmX3⟩
theorem cr_clsX4 : cr_cls 4 RX4 TX4 10 tyX4 := ⟨rfl, cr_inX4, tyX4_ok, nmX4⟩
theorem cr_clsX5 : cr_cls 5 RX5 TX5 1 tyX5 := ⟨rfl, cr_inX5, tyX5_ok, nmX5⟩
theorem cr_clsX6 : cr_cls 6 RX6 TX6 6 tyX6 := ⟨rfl, cr_inX6, tyX6_ok, nmX6⟩
theorem cr_clsX7 : cr_cls 7 RX7 TX7 5 tyX7 := ⟨rfl, cr_inX7, tyX7_ok, nmX7⟩
theorem cr_clsX8 : cr_cls 8 RX8 TX8 6 tyX8 := ⟨rfl, cr_inX8, tyX8_ok, nmX8⟩
theorem cr_clsX9 : cr_cls 9 RX9 TX9 65 tyX9 := ⟨rfl, cr_inX9, tyX9_ok, nmX9⟩
section CRH
variable {y : MethodName} {cc : ByteArray} {nL : Nat} {ret : Option FieldType} {rm : Room} {K : cr_K} {nS nE : Nat} {Γ : cr_G} {pc : Nat} {ls st : List Value} {I : cr_I} {R : cr_R} {n : Nat}
theorem cr_getI (h : cr_Ok y cc nL ret rm K nS nE Γ) {i b k c0 N : Nat} {C : String} {T : u_T} {ty : Nat → FieldType} (hc : cr_cls c0 C T N ty) (hk : k < N) (hf : cr_fi c0 k = true) (hT : (T k).1 = C) (hw : Cond.fieldLink y.cls i C (T k).2.1 (T k).2.2.1 ∈ cr_GW) (hbn : b < n) (hkd : cr_kd b = (c0 + 3, N)) (d : decode cc pc = .ok (.getfield i, 3)) (k1 : cr_V Γ (pc + 3) ls (.int (I b k) :: st) I R n) : cr_V Γ pc ls (.ref b :: st) I R n := by
  obtain ⟨⟨p, l, e, Rm, s, m, args, below, meth, c⟩, Q, D, g, ad, base, n0⟩ := Γ
  obtain ⟨hx, hb, hml, hown, hts, hK, hST, hlk, hrt, hA, hs0, hQ, hrm, hnm, hn0⟩ := h
  intro H locs la hP hz hS hl
  exact va_get (D := D) (C := C) (T := T) (N := N) hx hb hts hc.2.1 hown hK hP b (by rw [cr_wd_at hbn, cr_ce_obj hkd]) hc.1 k hk (hts _ hw) (fun x hx => by rw [hT] at hx; exact hx) (v := .int (I b k)) (by rw [cr_fs_at hk, if_pos hf]) d (k1 H locs la hP hz hS hl)
theorem cr_getR (h : cr_Ok y cc nL ret rm K nS nE Γ) {i b k c0 N x : Nat} {C : String} {T : u_T} {ty : Nat → FieldType} (hc : cr_cls c0 C T N ty) (hk : k < N) (hf : cr_fi c0 k = false) (hT : (T k).1 = C) (hw : Cond.fieldLink y.cls i C (T k).2.1 (T k).2.2.1 ∈ cr_GW) (hbn : b < n) (hkd : cr_kd b = (c0 + 3, N)) (hR : R b k = some x) (d : decode cc pc = .ok (.getfield i, 3)) (k1 : cr_V Γ (pc + 3) ls (.ref x :: st) I R n) : cr_V Γ pc ls (.ref b :: st) I R n := by
  obtain ⟨⟨p, l, e, Rm, s, m, args, below, meth, c⟩, Q, D, g, ad, base, n0⟩ := Γ
  obtain ⟨hx, hb, hml, hown, hts, hK, hST, hlk, hrt, hA, hs0, hQ, hrm, hnm, hn0⟩ := h
  intro H locs la hP hz hS hl
  exact va_get (D := D) (C := C) (T := T) (N := N) hx hb hts hc.2.1 hown hK hP b (by rw [cr_wd_at hbn, cr_ce_obj hkd]) hc.1 k hk (hts _ hw) (fun x hx => by rw [hT] at hx; exact hx) (v := .ref (ad x)) (by rw [cr_fs_at hk, if_neg (by rw [hf]; decide), hR]; rfl) d (k1 H locs la hP hz hS hl)
theorem cr_put0 {D : va_G} {g : cr_g} {ad : Nat → Nat} {p : Program} {l : Launch} {e : Env} {Rm : Room} {s : State} {m : MethodId} {args : Array Value} {below : List Frame} {meth : Method} {c : Code} {Q : State → Prop} {base : Nat} {H : Heap} {locs : List Loc} {la : Array Slot} {cells slots : Nat} {rest : List Value} {own : String}
    (hx : p.tables.exec = Jvm.exec) (hb : c.code = cc) (hown : s.vm.findClass own = some m.cls) (hts : ∀ w ∈ cr_GW, w.before args s = true) (hK : va_K D cr_cl (cr_ty g) s) (hA : cr_ad ad base) (hP : va_P D cr_cl (cr_wd ad g I R n) H) (hS : va_S (fun q => base ≤ q) s.heap H locs)
    {i b k c0 N : Nat} {C : String} {T : u_T} {ty : Nat → FieldType} {v : Value} {I' : cr_I} {R' : cr_R} (hc : cr_cls c0 C T N ty) (hk : k < N) (hT : (T k).1 = C) (hfin : (T k).2.2.2 = false ∨ ((T k).2.2.2 = true ∧ meth.name = "<init>" ∧ C = own)) (hw : Cond.fieldLink own i C (T k).2.1 (T k).2.2.1 ∈ cr_GW) (hbn : b < n) (hnn : n ≤ 1000) (hkd : cr_kd b = (c0 + 3, N))
    (hn : narrow (ty k) v = v) (hfit : fits (ty k) v = true) (hset : (cr_fs ad I R c0 N b).set k v = cr_fs ad I' R' c0 N b) (hoth : ∀ x, x < n → x ≠ b → cr_ce ad g I' R' x = cr_ce ad g I R x) (d : decode cc pc = .ok (.putfield i, 3))
    (kk : ∀ (H1 : Heap) (locs1 : List Loc), va_P D cr_cl (cr_wd ad g I' R' n) H1 → H1.size = H.size → va_S (fun q => base ≤ q) s.heap H1 locs1 → W p l e Rm s m args below meth c H1 locs1 cells slots Q (F0 m (pc + 3) la rest)) : W p l e Rm s m args below meth c H locs cells slots Q (F0 m pc la (v :: .ref (ad b) :: rest)) := by
  obtain ⟨hcl, hin, hty, hnmz⟩ := hc
  have hap := va_apart (own := own) hts hin ty hty hnmz hK hcl
  have hD := cr_wd_D (g := g) (I := I) (R := R) hA hnn
  have he : (cr_wd ad g I R n)[b]? = some (ad b, .inr (c0, cr_fs ad I R c0 N b)) := by rw [cr_wd_at hbn, cr_ce_obj hkd]
  obtain ⟨r, h1, cell, q1, q2, q3, q4⟩ := hP b _ he
  have hr : r = (C, T, N) := Option.some.inj (h1.symm.trans hcl)
  subst hr
  obtain ⟨hSl, hfc, kC, hkC, hkind⟩ := hK.1 c0 _ hcl
  obtain ⟨cf, kf, fi, f, hi, hsl⟩ := hSl k hk
  have hlay := hts _ (hin _ (u_in_lay hk))
  have hst := (u_facts hfc hkC (u_lays hts hin hk) hi).1
  have hlinkf : s.fieldFound? C (T k).2.1 (T k).2.2.1 = some (cf, kf, fi, f) := by rw [← hT]; exact hi
  have fin : ∀ (H' : Heap) (locs' : List Loc), H'[ad b]? = some (cell.setSlot f.slot v) → H'.size = H.size → (∀ q : Nat, q ≠ ad b → H'[q]? = H[q]?) → locs' = locs ++ [⟨ad b, f.slot⟩] → W p l e Rm s m args below meth c H' locs' cells slots Q (F0 m (pc + 3) la rest) := by
    intro H' locs' e1 e2 e3 e4
    rw [hsl] at e1
    have hP' := hP.set hD he (e := .inr (c0, (cr_fs ad I R c0 N b).set k v)) ⟨_, hcl, t_OB.to (V := updV (vp_V (cr_fs ad I R c0 N b)) k v) ⟨_, e1, q2, q3, t_set q4 hap hk v⟩ (fun j _ => vp_updV_set (by rw [cr_fs_len]; exact hk) v j)⟩ e3
    rw [hset, ← cr_ce_obj (g := g) hkd, cr_wd_set hbn hoth] at hP'
    rw [e4]
    exact kk H' _ hP' e2 (hS.put e2 e3 (hD.2 b _ he))
  unfold u_lay at hlay
  rcases hfin with hf | ⟨hf, hin2, hco⟩
  · rw [if_neg (by rw [hf]; decide)] at hlay
    have h6 := u_store hfc hkC hkind hlay hi (hty k hk) hn hfit
    exact W.putK hx hb (f := f) ⟨hown, hts _ hw, ⟨_, _, _, hlinkf⟩, hst⟩ (by rw [q2]; exact h6) q1 q3 (by rw [hsl]; exact k2_hasslot (q4 k hk)) rfl rfl d fun H' e1 e2 e3 => fin H' _ e1 e2 e3 rfl
  · rw [if_pos hf] at hlay
    have hcf : m.cls = cf := by
      obtain ⟨_, _, c', _, _, _, -, -, hf', -, -, -, hown2, -⟩ := Cond.laysFinal_spec hlay
      have e1 : c' = cf := by have := hi.symm.trans hf'; simp at this; exact this.1.symm
      rw [hT, hco] at hown2
      rw [← e1]; exact Option.some.inj (hown.symm.trans hown2)
    have h6 := u_fits hfc hkC hkind (Or.inr hlay) hi (hty k hk) hn hfit
    exact W.putFinK hx hb hown (hts _ hw) hlinkf hst hcf hin2 (by rw [q2]; exact h6) q1 q3 (by rw [hsl]; exact k2_hasslot (q4 k hk)) rfl rfl d fun H' e1 e2 e3 => fin H' _ e1 e2 e3 rfl
theorem cr_putI (h : cr_Ok y cc nL ret rm K nS nE Γ) {i b k c0 N : Nat} {C : String} {T : u_T} {ty : Nat → FieldType} {x0 : Int32} (hc : cr_cls c0 C T N ty) (hk : k < N) (hf : cr_fi c0 k = true) (hty : ty k = .int) (hT : (T k).1 = C) (hfin : (T k).2.2.2 = false) (hw : Cond.fieldLink y.cls i C (T k).2.1 (T k).2.2.1 ∈ cr_GW) (hbn : b < n) (hnn : n ≤ 1000) (hkd : cr_kd b = (c0 + 3, N)) (d : decode cc pc = .ok (.putfield i, 3)) (k1 : cr_V Γ (pc + 3) ls st (cr_up I b k x0) R n) : cr_V Γ pc ls (.int x0 :: .ref b :: st) I R n := by
  obtain ⟨⟨p, l, e, Rm, s, m, args, below, meth, c⟩, Q, D, g, ad, base, n0⟩ := Γ
  obtain ⟨hx, hb, hml, hown, hts, hK, hST, hlk, hrt, hA, hs0, hQ, hrm, hnm, hn0⟩ := h
  intro H locs la hP hz hS hl
  exact cr_put0 (I' := cr_up I b k x0) (R' := R) (v := .int x0) hx hb hown hts hK hA hP hS hc hk hT (Or.inl hfin) hw hbn hnn hkd (by rw [hty]; rfl) (by rw [hty]; rfl) (cr_fs_upI hf) (fun x _ hx => cr_ce_upI hx) d (fun H1 locs1 hP1 z1 hS1 => k1 H1 locs1 la hP1 (fun q => z1.trans (hz q)) hS1 hl)
theorem cr_putR (h : cr_Ok y cc nL ret rm K nS nE Γ) {i b k c0 N x : Nat} {C : String} {T : u_T} {ty : Nat → FieldType} (hc : cr_cls c0 C T N ty) (hk : k < N) (hf : cr_fi c0 k = false) (hty : (∃ q, ty k = .object q) ∨ ∃ q, ty k = .array q) (hT : (T k).1 = C) (hfin : (T k).2.2.2 = false) (hw : Cond.fieldLink y.cls i C (T k).2.1 (T k).2.2.1 ∈ cr_GW) (hbn : b < n) (hnn : n ≤ 1000) (hkd : cr_kd b = (c0 + 3, N)) (d : decode cc pc = .ok (.putfield i, 3)) (k1 : cr_V Γ (pc + 3) ls st I (cr_up R b k (some x)) n) : cr_V Γ pc ls (.ref x :: .ref b :: st) I R n := by
  obtain ⟨⟨p, l, e, Rm, s, m, args, below, meth, c⟩, Q, D, g, ad, base, n0⟩ := Γ
  obtain ⟨hx, hb, hml, hown, hts, hK, hST, hlk, hrt, hA, hs0, hQ, hrm, hnm, hn0⟩ := h
  intro H locs la hP hz hS hl
  exact cr_put0 (I' := I) (R' := cr_up R b k (some x)) (v := .ref (ad x)) hx hb hown hts hK hA hP hS hc hk hT (Or.inl hfin) hw hbn hnn hkd (by rcases hty with ⟨q, e⟩ | ⟨q, e⟩ <;> rw [e] <;> rfl) (by rcases hty with ⟨q, e⟩ | ⟨q, e⟩ <;> rw [e] <;> rfl) (cr_fs_upR hf) (fun x _ hx => cr_ce_upR hx) d (fun H1 locs1 hP1 z1 hS1 => k1 H1 locs1 la hP1 (fun q => z1.trans (hz q)) hS1 hl)
theorem cr_putIF (h : cr_Ok y cc nL ret rm K nS nE Γ) {i b k c0 N : Nat} {C : String} {T : u_T} {ty : Nat → FieldType} {x0 : Int32} (hc : cr_cls c0 C T N ty) (hk : k < N) (hf : cr_fi c0 k = true) (hty : ty k = .int) (hT : (T k).1 = C) (hfin : (T k).2.2.2 = true) (hin0 : y.name = "<init>") (hco : C = y.cls) (hw : Cond.fieldLink y.cls i C (T k).2.1 (T k).2.2.1 ∈ cr_GW) (hbn : b < n) (hnn : n ≤ 1000) (hkd : cr_kd b = (c0 + 3, N)) (d : decode cc pc = .ok (.putfield i, 3)) (k1 : cr_V Γ (pc + 3) ls st (cr_up I b k x0) R n) : cr_V Γ pc ls (.int x0 :: .ref b :: st) I R n := by
  obtain ⟨⟨p, l, e, Rm, s, m, args, below, meth, c⟩, Q, D, g, ad, base, n0⟩ := Γ
  obtain ⟨hx, hb, hml, hown, hts, hK, hST, hlk, hrt, hA, hs0, hQ, hrm, hnm, hn0⟩ := h
  intro H locs la hP hz hS hl
  exact cr_put0 (I' := cr_up I b k x0) (R' := R) (v := .int x0) hx hb hown hts hK hA hP hS hc hk hT (Or.inr ⟨hfin, hnm.trans hin0, hco⟩) hw hbn hnn hkd (by rw [hty]; rfl) (by rw [hty]; rfl) (cr_fs_upI hf) (fun x _ hx => cr_ce_upI hx) d (fun H1 locs1 hP1 z1 hS1 => k1 H1 locs1 la hP1 (fun q => z1.trans (hz q)) hS1 hl)
theorem cr_putRF (h : cr_Ok y cc nL ret rm K nS nE Γ) {i b k c0 N x : Nat} {C : String} {T : u_T} {ty : Nat → FieldType} (hc : cr_cls c0 C T N ty) (hk : k < N) (hf : cr_fi c0 k = false) (hty : (∃ q, ty k = .object q) ∨ ∃ q, ty k = .array q) (hT : (T k).1 = C) (hfin : (T k).2.2.2 = true) (hin0 : y.name = "<init>") (hco : C = y.cls) (hw : Cond.fieldLink y.cls i C (T k).2.1 (T k).2.2.1 ∈ cr_GW) (hbn : b < n) (hnn : n ≤ 1000) (hkd : cr_kd b = (c0 + 3, N)) (d : decode cc pc = .ok (.putfield i, 3)) (k1 : cr_V Γ (pc + 3) ls st I (cr_up R b k (some x)) n) : cr_V Γ pc ls (.ref x :: .ref b :: st) I R n := by
  obtain ⟨⟨p, l, e, Rm, s, m, args, below, meth, c⟩, Q, D, g, ad, base, n0⟩ := Γ
  obtain ⟨hx, hb, hml, hown, hts, hK, hST, hlk, hrt, hA, hs0, hQ, hrm, hnm, hn0⟩ := h
  intro H locs la hP hz hS hl
  exact cr_put0 (I' := I) (R' := cr_up R b k (some x)) (v := .ref (ad x)) hx hb hown hts hK hA hP hS hc hk hT (Or.inr ⟨hfin, hnm.trans hin0, hco⟩) hw hbn hnn hkd (by rcases hty with ⟨q, e⟩ | ⟨q, e⟩ <;> rw [e] <;> rfl) (by rcases hty with ⟨q, e⟩ | ⟨q, e⟩ <;> rw [e] <;> rfl) (cr_fs_upR hf) (fun x _ hx => cr_ce_upR hx) d (fun H1 locs1 hP1 z1 hS1 => k1 H1 locs1 la hP1 (fun q => z1.trans (hz q)) hS1 hl)
theorem cr_iald (h : cr_Ok y cc nL ret rm K nS nE Γ) {b N : Nat} {i : Int32} (hbn : b < n) (hkd : cr_kd b = (0, N)) (h0 : 0 ≤ i.toInt ∧ i.toInt < N) (d : decode cc pc = .ok (.iaload, 1)) (k1 : cr_V Γ (pc + 1) ls (.int (I b i.toNatClampNeg) :: st) I R n) : cr_V Γ pc ls (.int i :: .ref b :: st) I R n := by
  obtain ⟨⟨p, l, e, Rm, s, m, args, below, meth, c⟩, Q, D, g, ad, base, n0⟩ := Γ
  obtain ⟨hx, hb, hml, hown, hts, hK, hST, hlk, hrt, hA, hs0, hQ, hrm, hnm, hn0⟩ := h
  intro H locs la hP hz hS hl
  exact va_iald (D := D) hx hb hK hP b 0 (by rw [cr_wd_at hbn, cr_ce_int hkd]) rfl (cr_vin h0.1 h0.2) d (k1 H locs la hP hz hS hl)
theorem cr_iast (h : cr_Ok y cc nL ret rm K nS nE Γ) {b N : Nat} {i x0 : Int32} (hbn : b < n) (hnn : n ≤ 1000) (hkd : cr_kd b = (0, N)) (h0 : 0 ≤ i.toInt ∧ i.toInt < N) (d : decode cc pc = .ok (.iastore, 1)) (k1 : cr_V Γ (pc + 1) ls st (cr_up I b i.toNatClampNeg x0) R n) : cr_V Γ pc ls (.int x0 :: .int i :: .ref b :: st) I R n := by
  obtain ⟨⟨p, l, e, Rm, s, m, args, below, meth, c⟩, Q, D, g, ad, base, n0⟩ := Γ
  obtain ⟨hx, hb, hml, hown, hts, hK, hST, hlk, hrt, hA, hs0, hQ, hrm, hnm, hn0⟩ := h
  intro H locs la hP hz hS hl
  have hD := cr_wd_D (g := g) (I := I) (R := R) hA hnn
  have he : (cr_wd ad g I R n)[b]? = some (ad b, .inl (g.1, N, .inl (I b))) := by rw [cr_wd_at hbn, cr_ce_int hkd]
  refine W.iast hx hb (hP b _ he) ((hK.2 0 _ rfl).1 N (fun j => .int (I b j))) (fun q => by cases q) (by show ¬ (i < 0 ∨ (arrV _ _ _).slots.size ≤ _); rw [arrV_size]; exact cr_vin h0.1 h0.2) rfl rfl d fun H1 e z oq => ?_
  have hP' := hP.set hD he (e := .inl (g.1, N, .inl (cr_up I b i.toNatClampNeg x0 b))) (by
    show H1[ad b]? = some (vp_cell _ _)
    rw [e, vp_cell_i, vp_cell_i, arrV_store]
    congr 2
    funext q
    by_cases hq : q = i.toNatClampNeg
    · subst hq
      simp [updV, cr_up]
    · simp [updV, cr_up, hq]) oq
  rw [← cr_ce_int (ad := ad) (g := g) (R := R) hkd, cr_wd_set hbn (fun x _ hx => cr_ce_upI hx)] at hP'
  exact k1 H1 _ la hP' (fun q => z.trans (hz q)) (hS.put z oq (hD.2 b _ he)) hl
theorem cr_aald (h : cr_Ok y cc nL ret rm K nS nE Γ) {b N x : Nat} {i : Int32} (hbn : b < n) (hkd : cr_kd b = (1, N)) (h0 : 0 ≤ i.toInt ∧ i.toInt < N) (hR : R b i.toNatClampNeg = some x) (d : decode cc pc = .ok (.aaload, 1)) (k1 : cr_V Γ (pc + 1) ls (.ref x :: st) I R n) : cr_V Γ pc ls (.int i :: .ref b :: st) I R n := by
  obtain ⟨⟨p, l, e, Rm, s, m, args, below, meth, c⟩, Q, D, g, ad, base, n0⟩ := Γ
  obtain ⟨hx, hb, hml, hown, hts, hK, hST, hlk, hrt, hA, hs0, hQ, hrm, hnm, hn0⟩ := h
  intro H locs la hP hz hS hl
  have hin := cr_vin h0.1 h0.2
  have hlt : i.toNatClampNeg < N := Nat.not_le.mp fun q => hin (Or.inr q)
  have he : (cr_wd ad g I R n)[b]? = some (ad b, .inl (g.2.1, N, .inr (.inr (.inr (.inr (fun j => (R b j).map ad)))))) := by rw [cr_wd_at hbn, cr_ce_row hkd]
  exact W.aald (v := .ref (ad x)) (ty := .array .int) hx hb (hP b _ he) ((hK.2 1 _ rfl).1 N (fun j => va_rf ((R b j).map ad))) rfl (fun q => by cases q) (by show ¬ (i < 0 ∨ (arrV _ _ _).slots.size ≤ _); rw [arrV_size]; exact hin) (by show (arrV _ _ _).slots[_]? = _; rw [arrV_read _ _ hlt]; simp only [hR]; rfl) rfl rfl d (k1 H locs la hP hz hS hl)
theorem cr_aaldM (h : cr_Ok y cc nL ret rm K nS nE Γ) {b N x : Nat} {i : Int32} (hbn : b < n) (hkd : cr_kd b = (2, N)) (h0 : 0 ≤ i.toInt ∧ i.toInt < N) (hR : R b i.toNatClampNeg = some x) (d : decode cc pc = .ok (.aaload, 1)) (k1 : cr_V Γ (pc + 1) ls (.ref x :: st) I R n) : cr_V Γ pc ls (.int i :: .ref b :: st) I R n := by
  obtain ⟨⟨p, l, e, Rm, s, m, args, below, meth, c⟩, Q, D, g, ad, base, n0⟩ := Γ
  obtain ⟨hx, hb, hml, hown, hts, hK, hST, hlk, hrt, hA, hs0, hQ, hrm, hnm, hn0⟩ := h
  intro H locs la hP hz hS hl
  have hin := cr_vin h0.1 h0.2
  have hlt : i.toNatClampNeg < N := Nat.not_le.mp fun q => hin (Or.inr q)
  have he : (cr_wd ad g I R n)[b]? = some (ad b, .inl (g.2.2, N, .inr (.inr (.inr (.inr (fun j => (R b j).map ad)))))) := by rw [cr_wd_at hbn, cr_ce_mak hkd]
  exact W.aald (v := .ref (ad x)) (ty := .object "CartRows$Make") hx hb (hP b _ he) ((hK.2 2 _ rfl).1 N (fun j => va_rf ((R b j).map ad))) rfl (fun q => by cases q) (by show ¬ (i < 0 ∨ (arrV _ _ _).slots.size ≤ _); rw [arrV_size]; exact hin) (by show (arrV _ _ _).slots[_]? = _; rw [arrV_read _ _ hlt]; simp only [hR]; rfl) rfl rfl d (k1 H locs la hP hz hS hl)
theorem cr_gets1000 (h : cr_Ok y cc nL ret rm K nS nE Γ) {i : Nat} (hw : Cond.fieldLink y.cls i "CartRows" "FACTORIALS" "[I" ∈ cr_GW) (d : decode cc pc = .ok (.getstatic i, 3)) (k1 : cr_V Γ (pc + 3) ls (.ref 1000 :: st) I R n) : cr_V Γ pc ls st I R n := by
  obtain ⟨⟨p, l, e, Rm, s, m, args, below, meth, c⟩, Q, D, g, ad, base, n0⟩ := Γ
  obtain ⟨hx, hb, hml, hown, hts, hK, hST, hlk, hrt, hA, hs0, hQ, hrm, hnm, hn0⟩ := h
  intro H locs la hP hz hS hl
  exact va_gets hx hb hST.1.1 hS hown (hts _ hw) (fun _ q => q) d (k1 H locs la hP hz hS hl)
theorem cr_sald1000 (h : cr_Ok y cc nL ret rm K nS nE Γ) {i : Int32} (h0 : 0 ≤ i.toInt ∧ i.toInt < 7) (d : decode cc pc = .ok (.iaload, 1)) (k1 : cr_V Γ (pc + 1) ls (.int (cr_tab 0 i.toNatClampNeg) :: st) I R n) : cr_V Γ pc ls (.int i :: .ref 1000 :: st) I R n := by
  obtain ⟨⟨p, l, e, Rm, s, m, args, below, meth, c⟩, Q, D, g, ad, base, n0⟩ := Γ
  obtain ⟨hx, hb, hml, hown, hts, hK, hST, hlk, hrt, hA, hs0, hQ, hrm, hnm, hn0⟩ := h
  intro H locs la hP hz hS hl
  exact va_ti hx hb hST.2.1.1 hS (cr_vin h0.1 h0.2) rfl d (k1 H locs la hP hz hS hl)
theorem cr_gets1001 (h : cr_Ok y cc nL ret rm K nS nE Γ) {i : Nat} (hw : Cond.fieldLink y.cls i "CartRows" "LEAST_SETTING" "[I" ∈ cr_GW) (d : decode cc pc = .ok (.getstatic i, 3)) (k1 : cr_V Γ (pc + 3) ls (.ref 1001 :: st) I R n) : cr_V Γ pc ls st I R n := by
  obtain ⟨⟨p, l, e, Rm, s, m, args, below, meth, c⟩, Q, D, g, ad, base, n0⟩ := Γ
  obtain ⟨hx, hb, hml, hown, hts, hK, hST, hlk, hrt, hA, hs0, hQ, hrm, hnm, hn0⟩ := h
  intro H locs la hP hz hS hl
  exact va_gets hx hb hST.1.2.1 hS hown (hts _ hw) (fun _ q => q) d (k1 H locs la hP hz hS hl)
theorem cr_sald1001 (h : cr_Ok y cc nL ret rm K nS nE Γ) {i : Int32} (h0 : 0 ≤ i.toInt ∧ i.toInt < 5) (d : decode cc pc = .ok (.iaload, 1)) (k1 : cr_V Γ (pc + 1) ls (.int (cr_tab 1 i.toNatClampNeg) :: st) I R n) : cr_V Γ pc ls (.int i :: .ref 1001 :: st) I R n := by
  obtain ⟨⟨p, l, e, Rm, s, m, args, below, meth, c⟩, Q, D, g, ad, base, n0⟩ := Γ
  obtain ⟨hx, hb, hml, hown, hts, hK, hST, hlk, hrt, hA, hs0, hQ, hrm, hnm, hn0⟩ := h
  intro H locs la hP hz hS hl
  exact va_ti hx hb hST.2.1.2.1 hS (cr_vin h0.1 h0.2) rfl d (k1 H locs la hP hz hS hl)
theorem cr_gets1002 (h : cr_Ok y cc nL ret rm K nS nE Γ) {i : Nat} (hw : Cond.fieldLink y.cls i "CartRows" "MOST_SETTING" "[I" ∈ cr_GW) (d : decode cc pc = .ok (.getstatic i, 3)) (k1 : cr_V Γ (pc + 3) ls (.ref 1002 :: st) I R n) : cr_V Γ pc ls st I R n := by
  obtain ⟨⟨p, l, e, Rm, s, m, args, below, meth, c⟩, Q, D, g, ad, base, n0⟩ := Γ
  obtain ⟨hx, hb, hml, hown, hts, hK, hST, hlk, hrt, hA, hs0, hQ, hrm, hnm, hn0⟩ := h
  intro H locs la hP hz hS hl
  exact va_gets hx hb hST.1.2.2 hS hown (hts _ hw) (fun _ q => q) d (k1 H locs la hP hz hS hl)
theorem cr_sald1002 (h : cr_Ok y cc nL ret rm K nS nE Γ) {i : Int32} (h0 : 0 ≤ i.toInt ∧ i.toInt < 5) (d : decode cc pc = .ok (.iaload, 1)) (k1 : cr_V Γ (pc + 1) ls (.int (cr_tab 2 i.toNatClampNeg) :: st) I R n) : cr_V Γ pc ls (.int i :: .ref 1002 :: st) I R n := by
  obtain ⟨⟨p, l, e, Rm, s, m, args, below, meth, c⟩, Q, D, g, ad, base, n0⟩ := Γ
  obtain ⟨hx, hb, hml, hown, hts, hK, hST, hlk, hrt, hA, hs0, hQ, hrm, hnm, hn0⟩ := h
  intro H locs la hP hz hS hl
  exact va_ti hx hb hST.2.1.2.2 hS (cr_vin h0.1 h0.2) rfl d (k1 H locs la hP hz hS hl)
theorem cr_getsN (h : cr_Ok y cc nL ret rm K nS nE Γ) (hy : y.cls = "CartRows$Shares") (d : decode cc pc = .ok (.getstatic 20, 3)) (k1 : cr_V Γ (pc + 3) ls (.ref 1000 :: st) I R n) : cr_V Γ pc ls st I R n := by
  obtain ⟨⟨p, l, e, Rm, s, m, args, below, meth, c⟩, Q, D, g, ad, base, n0⟩ := Γ
  obtain ⟨hx, hb, hml, hown, hts, hK, hST, hlk, hrt, hA, hs0, hQ, hrm, hnm, hn0⟩ := h
  intro H locs la hP hz hS hl
  rw [hy] at hown
  exact va_getsN hx hb hST.1.1 hS hown (va_Nw.use rfl hST.2.2.2.2.2.1.2.2.2.2.2.2.2.2.2) (fun _ q => q) d (k1 H locs la hP hz hS hl)
end CRH
end
section
def cr_STn (U : State) : Prop := va_Nw (.methodLinkNest RX8 9 yX7_init "CartRows") U ∧ va_Nw (.methodLinkNest RX7 21 yX6_init "CartRows") U ∧ va_Nw (.methodLinkNest RX8 18 yX3_init "CartRows") U ∧ va_Nw (.methodLinkNest RX3 11 yX2_init "CartRows") U ∧ va_Nw (.methodLinkNest RX2 24 yX6_init "CartRows") U ∧ va_Nw (.methodLinkNest RX8 25 yX4_init "CartRows") U ∧ va_Nw (.methodLinkNest RX8 32 yX1_init "CartRows") U ∧ va_Nw (.methodLinkNest RX8 39 yX5_init "CartRows") U ∧ va_Nw (.methodLinkNest RX8 46 yX0_init "CartRows") U ∧ va_Nw (.fieldLinkNest "CartRows$Shares" 20 "CartRows" "FACTORIALS" "[I" "CartRows") U
theorem cr_ST.warm {ad : Nat → Nat} {base : Nat} {s U : State} {H : Heap} {locs : List Loc} (h : cr_ST ad base s s.heap) (hS : va_S (fun q => base ≤ q) s.heap H locs) (hU : U.heap = H) (hW : s.WarmedH U.vm) : cr_ST ad base U U.heap := by
  obtain ⟨⟨z1, z2, z3⟩, ⟨t1, t2, t3⟩, cz, ks, rs, ⟨n0, n1, n2, n3, n4, n5, n6, n7, n8, nf⟩, a1, a2⟩ := h
  obtain ⟨r0, r1, r2, r3, r4, r5, r6, r7, r8, r9, r10, r11, r12⟩ := rs
  rw [hU]
  have al := hW.alike
  exact ⟨⟨(z1.kept hS.2.1).moved al, (z2.kept hS.2.1).moved al, (z3.kept hS.2.1).moved al⟩, ⟨(t1.kept hS.2.1).moved al, (t2.kept hS.2.1).moved al, (t3.kept hS.2.1).moved al⟩, (cz.kept hS.2.1).moved al, (ks.kept hS.2.1).moved al, ⟨r0.warm hW, r1.warm hW, r2.warm hW, r3.warm hW, r4.warm hW, r5.warm hW, r6.warm hW, r7.warm hW, r8.warm hW, r9.warm hW, r10.warm hW, r11.warm hW, r12.warm hW⟩, ⟨va_Nw.warmM hW n0, va_Nw.warmM hW n1, va_Nw.warmM hW n2, va_Nw.warmM hW n3, va_Nw.warmM hW n4, va_Nw.warmM hW n5, va_Nw.warmM hW n6, va_Nw.warmM hW n7, va_Nw.warmM hW n8, va_Nw.warmF hW nf⟩, a1.moved al, a2.moved al⟩
theorem cr_ST.calling {ad : Nat → Nat} {base : Nat} {U : State} {f : JFrame} {mk : MethodId} {a : Array Value} (h : cr_ST ad base U U.heap) : cr_ST ad base (U.calling f mk a) (U.calling f mk a).heap := by
  obtain ⟨⟨z1, z2, z3⟩, ⟨t1, t2, t3⟩, cz, ks, rs, ⟨n0, n1, n2, n3, n4, n5, n6, n7, n8, nf⟩, a1, a2⟩ := h
  obtain ⟨r0, r1, r2, r3, r4, r5, r6, r7, r8, r9, r10, r11, r12⟩ := rs
  have al : U.vm.Alike (U.calling f mk a).vm := Vm.Alike.refl U.vm
  exact ⟨⟨z1.moved al, z2.moved al, z3.moved al⟩, ⟨t1.moved al, t2.moved al, t3.moved al⟩, cz.moved al, ks.moved al, ⟨r0.same rfl, r1.same rfl, r2.same rfl, r3.same rfl, r4.same rfl, r5.same rfl, r6.same rfl, r7.same rfl, r8.same rfl, r9.same rfl, r10.same rfl, r11.same rfl, r12.same rfl⟩, ⟨va_Nw.same rfl rfl n0, va_Nw.same rfl rfl n1, va_Nw.same rfl rfl n2, va_Nw.same rfl rfl n3, va_Nw.same rfl rfl n4, va_Nw.same rfl rfl n5, va_Nw.same rfl rfl n6, va_Nw.same rfl rfl n7, va_Nw.same rfl rfl n8, va_Nw.same rfl rfl nf⟩, a1.moved al, a2.moved al⟩
theorem cr_blind {D : va_G} {g : cr_g} {ad : Nat → Nat} {base : Nat} {vs : List Value} {I : cr_I} {R : cr_R} {n : Nat} : FrameBlind (cr_PP D g ad base vs I R n) := by
  intro a U f mk hq
  obtain ⟨q0, qP, qz, qK, qS⟩ := hq
  exact ⟨q0, qP, qz, va_K.moved (u := U) (U := U.calling f mk a) (Vm.Alike.refl U.vm) qK, qS.calling⟩
/-- what the tables say of a method that is called -/
def cr_Z (z : MethodName) (cz : ByteArray) (nLz : Nat) (rz : Option FieldType) (np : Nat) : Prop := Cond.code z cz nLz rz ∈ cr_GW ∧ Cond.initialized z.cls ∈ cr_GW ∧ (z.cls ≠ "java/lang/invoke/MethodHandle" ∧ z.cls ≠ "java/lang/invoke/VarHandle" ∧ (parseMethodDescriptor z.desc).map (fun d => d.parameters.length) = some np)
/-- the room that a call wants -/
def cr_rm (rm rmz : Room) (nLz nS n n' nE : Nat) : Prop := (rmz.frames + 1 ≤ rm.frames ∧ 8 + (nLz + 11) + rmz.locals ≤ rm.locals) ∧ (rmz.cells = n' - n ∧ rmz.slots = cr_sl n' - cr_sl n) ∧ (nS ≤ n ∧ n ≤ n' ∧ n' ≤ nE) ∧ rm.cells = nE - nS ∧ rm.slots = cr_sl nE - cr_sl nS
section CRC
variable {y : MethodName} {cc : ByteArray} {nL : Nat} {ret : Option FieldType} {rm : Room} {K : cr_K} {nS nE : Nat} {Γ : cr_G} {pc : Nat} {ls st : List Value} {I : cr_I} {R : cr_R} {n : Nat}
variable {z : MethodName} {cz : ByteArray} {nLz : Nat} {rz : Option FieldType} {rmz : Room} {n' idx : Nat} {T : cr_T} {As stk : List Value}
theorem cr_behind {D : va_G} {g : cr_g} {ad : Nat → Nat} {p : Program} {l : Launch} {e : Env} {Rm : Room} {s : State} {m : MethodId} {args : Array Value} {below : List Frame} {meth : Method} {c : Code} {Q : State → Prop} {base n0 : Nat} {H : Heap} {locs : List Loc} {la : Array Slot} {a : Array Value} {K' : cr_K} {st0 rest : List Value} (hle : n0 ≤ n ∧ n ≤ n')
    (hr : va_Run p l e Rm s m args below meth c H locs (n - n0) (cr_sl n - cr_sl n0) (n' - n) (cr_sl n' - cr_sl n) (F0 m pc la st0) rest (cr_PQ D g ad base K' n' a) (fun q => base ≤ q)) (hS : va_S (fun q => base ≤ q) s.heap H locs)
    (kk : ∀ (v : Option Value) (I' : cr_I) (R' : cr_R), K' v I' R' → ∀ (H1 : Heap) (locs1 : List Loc), va_P D cr_cl (cr_wd ad g I' R' n') H1 → (n' < 247 → H1.size = base + n') → va_S (fun q => base ≤ q) s.heap H1 locs1 → W p l e Rm s m args below meth c H1 locs1 (n' - n0) (cr_sl n' - cr_sl n0) Q (F0 m (pc + 3) la ((v.map (cr_tr ad)).toList ++ rest))) : W p l e Rm s m args below meth c H locs (n - n0) (cr_sl n - cr_sl n0) Q (F0 m pc la st0) := by
  intro T hT X
  obtain ⟨v, st₀, t, T', L, h0, X', hL, e1, e2, ⟨⟨w, I', R', hv, hK', hP', hz'⟩, hF1, hF2⟩, stp⟩ := hr T hT X
  cases hv
  rw [h0] at hF1 hF2
  have c1 : n - n0 + (n' - n) = n' - n0 := by omega
  have m1 := cr_sl_mono hle.1
  have m2 := cr_sl_mono hle.2
  have c2 : cr_sl n - cr_sl n0 + (cr_sl n' - cr_sl n) = cr_sl n' - cr_sl n0 := by omega
  rw [c1, c2] at X'
  obtain ⟨t2, a1, b1⟩ := kk w I' R' hK' T'.heap (locs ++ L) (by rw [e1]; exact hP') (by rw [e1]; exact hz')
    ⟨Nat.le_trans hS.1 (by rw [e1]; exact hF1), fun q h1 h2 => by rw [e1, hF2 q (Nat.lt_of_lt_of_le h1 hS.1) h2]; exact hS.2.1 q h1 h2, fun q hq => by
      rcases List.mem_append.mp hq with h | h
      · exact hS.2.2 q h
      · exact hL q h⟩ T' rfl X'
  exact ⟨t2, stp t2 a1, b1⟩
theorem cr_callS (h : cr_Ok y cc nL ret rm K nS nE Γ) (hC : cr_C z cz nLz rz rmz n n' T) (hZ : cr_Z z cz nLz rz As.length) (hli : Cond.methodLink y.cls idx z ∈ cr_GW) (hsta : Cond.static z ∈ cr_GW) (hrm0 : cr_rm rm rmz nLz nS n n' nE) (hst : stk = As.reverse ++ st) (h8 : (st.map fun v => v.category).sum ≤ 8) (d : decode cc pc = .ok (.invokestatic idx, 3)) (hT : T (As) I R (fun v I' R' => cr_V Γ (pc + 3) ls (v.toList ++ st) I' R' n')) : cr_V Γ pc ls stk I R n := by
  obtain ⟨⟨p, l, e, Rm, s, m, args, below, meth, c⟩, Q, D, g, ad, base, n0⟩ := Γ
  obtain ⟨hx, hb, hml, hown, hts, hK, hST, hlk, hrt, hA, hs0, hQ, hrm, hnm, hn0⟩ := h
  intro H locs la hP hz hS hl
  subst hst
  subst hn0
  subst hrm
  have hmet := hC l D g ad base hA _ I R _ hT
  obtain ⟨hz1, hz2, hz3⟩ := hZ
  obtain ⟨hr1, ⟨hr2, hr3⟩, ⟨hr4, hr5, hr6⟩, hr7, hr8⟩ := hrm0
  have ms1 := cr_sl_mono hr4
  have ms2 := cr_sl_mono hr5
  have ms3 := cr_sl_mono hr6
  have hgood : GoodIn cr_GW (Cond.code z cz nLz rz :: cr_GW) := cr_good (fun _ q => q) hz1
  have h8' : ((st.map (cr_tr ad)).map fun v => v.category).sum ≤ 8 := by
    rw [List.map_map]
    have : ((fun v : Value => v.category) ∘ cr_tr ad) = fun v => v.category := funext fun v => cr_tr_cat ad v
    rw [this]
    exact h8
  refine cr_behind (n := n) (n' := n') ⟨hr4, hr5⟩ (st0 := (As.reverse ++ st).map (cr_tr ad)) (rest := st.map (cr_tr ad)) (va_runS (As := As.map (cr_tr ad)) (Ts := cr_GW) (own := y.cls) (nL := nL) ⟨hx, hb, hml, hown, hts⟩ hmet ⟨callB_of As.length hts hgood rfl hr2 hr3 (hts _ hz2) (hts _ hli) hz3 hr1, hts _ hsta⟩ ⟨cr_blind, fun U hU hW => ⟨rfl, by rw [hU]; exact hP, fun q => by rw [hU]; exact hz q, va_K.moved hW.alike hK, hST.warm hS hU hW⟩⟩ rfl (by simp) (hl.1.trans hml) (by simp [List.map_reverse]) (lv_room h8') d ⟨by omega, by omega⟩) hS (fun v I' R' hv H1 locs1 hP1 hz1 hS1 => ?_)
  have := hv H1 locs1 la hP1 hz1 hS1 hl
  rw [List.map_append] at this
  have e : (v.map (cr_tr ad)).toList = v.toList.map (cr_tr ad) := by cases v <;> rfl
  rw [e]
  exact this
theorem cr_callV (h : cr_Ok y cc nL ret rm K nS nE Γ) (hC : cr_C z cz nLz rz rmz n n' T) (hZ : cr_Z z cz nLz rz As.length) {b c0 N : Nat} {T0 : u_T} (hli : Cond.methodLink y.cls idx z ∈ cr_GW) (hins : Cond.instanceMethod z ∈ cr_GW) (hsel : Cond.selects z.cls z z ∈ cr_GW) (hbn : b < n) (hkd : cr_kd b = (c0 + 3, N)) (hcl : cr_cl[c0]? = some (z.cls, T0, N)) (hrm0 : cr_rm rm rmz nLz nS n n' nE) (hst : stk = As.reverse ++ .ref b :: st) (h8 : (st.map fun v => v.category).sum ≤ 8) (d : decode cc pc = .ok (.invokevirtual idx, 3)) (hT : T (.ref b :: As) I R (fun v I' R' => cr_V Γ (pc + 3) ls (v.toList ++ st) I' R' n')) : cr_V Γ pc ls stk I R n := by
  obtain ⟨⟨p, l, e, Rm, s, m, args, below, meth, c⟩, Q, D, g, ad, base, n0⟩ := Γ
  obtain ⟨hx, hb, hml, hown, hts, hK, hST, hlk, hrt, hA, hs0, hQ, hrm, hnm, hn0⟩ := h
  intro H locs la hP hz hS hl
  subst hst
  subst hn0
  subst hrm
  have hmet := hC l D g ad base hA _ I R _ hT
  obtain ⟨hz1, hz2, hz3⟩ := hZ
  obtain ⟨hr1, ⟨hr2, hr3⟩, ⟨hr4, hr5, hr6⟩, hr7, hr8⟩ := hrm0
  have ms1 := cr_sl_mono hr4
  have ms2 := cr_sl_mono hr5
  have ms3 := cr_sl_mono hr6
  have hgood : GoodIn cr_GW (Cond.code z cz nLz rz :: cr_GW) := cr_good (fun _ q => q) hz1
  have h8' : ((st.map (cr_tr ad)).map fun v => v.category).sum ≤ 8 := by
    rw [List.map_map]
    have : ((fun v : Value => v.category) ∘ cr_tr ad) = fun v => v.category := funext fun v => cr_tr_cat ad v
    rw [this]
    exact h8
  refine cr_behind (n := n) (n' := n') ⟨hr4, hr5⟩ (st0 := (As.reverse ++ .ref b :: st).map (cr_tr ad)) (rest := st.map (cr_tr ad)) (va_runV (As := As.map (cr_tr ad)) (b := ad b) (C := z.cls) (Ts := cr_GW) (own := y.cls) (nL := nL) ⟨hx, hb, hml, hown, hts⟩ hmet ⟨callB_of As.length hts hgood rfl hr2 hr3 (hts _ hz2) (hts _ hli) hz3 hr1, hts _ hins, hts _ hsel⟩ ⟨cr_blind, va_recv hK hP (ci := c0) (q0 := b) hcl (by rw [cr_wd_at hbn, cr_ce_obj hkd]), fun U hU hW => ⟨rfl, by rw [hU]; exact hP, fun q => by rw [hU]; exact hz q, va_K.moved hW.alike hK, hST.warm hS hU hW⟩⟩ rfl (by simp) (hl.1.trans hml) (by simp [List.map_reverse, cr_tr]) (lv_room h8') d ⟨by omega, by omega⟩) hS (fun v I' R' hv H1 locs1 hP1 hz1 hS1 => ?_)
  have := hv H1 locs1 la hP1 hz1 hS1 hl
  rw [List.map_append] at this
  have e : (v.map (cr_tr ad)).toList = v.toList.map (cr_tr ad) := by cases v <;> rfl
  rw [e]
  exact this
theorem cr_callIN (h : cr_Ok y cc nL ret rm K nS nE Γ) (hC : cr_C z cz nLz rz rmz n n' T) (hZ : cr_Z z cz nLz rz As.length) {b : Nat} (hy1 : z.name = "<init>") (hrz : rz = none) (hli : ∀ U : State, cr_STn U → va_Nw (.methodLinkNest y.cls idx z "CartRows") U) (hins : Cond.instanceMethod z ∈ cr_GW) (hrm0 : cr_rm rm rmz nLz nS n n' nE) (hst : stk = As.reverse ++ .ref b :: st) (h8 : (st.map fun v => v.category).sum ≤ 8) (d : decode cc pc = .ok (.invokespecial idx, 3)) (hT : T (.ref b :: As) I R (fun v I' R' => cr_V Γ (pc + 3) ls (v.toList ++ st) I' R' n')) : cr_V Γ pc ls stk I R n := by
  obtain ⟨⟨p, l, e, Rm, s, m, args, below, meth, c⟩, Q, D, g, ad, base, n0⟩ := Γ
  obtain ⟨hx, hb, hml, hown, hts, hK, hST, hlk, hrt, hA, hs0, hQ, hrm, hnm, hn0⟩ := h
  intro H locs la hP hz hS hl
  subst hst
  subst hn0
  subst hrm
  have hmet := hC l D g ad base hA _ I R _ hT
  obtain ⟨hz1, hz2, hz3⟩ := hZ
  obtain ⟨hr1, ⟨hr2, hr3⟩, ⟨hr4, hr5, hr6⟩, hr7, hr8⟩ := hrm0
  have ms1 := cr_sl_mono hr4
  have ms2 := cr_sl_mono hr5
  have ms3 := cr_sl_mono hr6
  have hgood : GoodIn cr_GW (Cond.code z cz nLz rz :: cr_GW) := cr_good (fun _ q => q) hz1
  have h8' : ((st.map (cr_tr ad)).map fun v => v.category).sum ≤ 8 := by
    rw [List.map_map]
    have : ((fun v : Value => v.category) ∘ cr_tr ad) = fun v => v.category := funext fun v => cr_tr_cat ad v
    rw [this]
    exact h8
  refine cr_behind (n := n) (n' := n') ⟨hr4, hr5⟩ (st0 := (As.reverse ++ .ref b :: st).map (cr_tr ad)) (rest := st.map (cr_tr ad)) (by subst hrz; exact va_runIN (As := As.map (cr_tr ad)) (b := ad b) (Ts := cr_GW) (own := y.cls) (nL := nL) ⟨hx, hb, hml, hown, hts⟩ hmet ⟨va_cnB As.length hts hgood rfl hr2 hr3 (hli s hST.2.2.2.2.2.1) (hts _ hz2) hz3 hr1, hy1, hts _ hins⟩ ⟨cr_blind, fun U hU hW => ⟨rfl, by rw [hU]; exact hP, fun q => by rw [hU]; exact hz q, va_K.moved hW.alike hK, hST.warm hS hU hW⟩⟩ rfl (by simp) (hl.1.trans hml) (by simp [List.map_reverse, cr_tr]) (lv_room h8') d ⟨by omega, by omega⟩) hS (fun v I' R' hv H1 locs1 hP1 hz1 hS1 => ?_)
  have := hv H1 locs1 la hP1 hz1 hS1 hl
  rw [List.map_append] at this
  have e : (v.map (cr_tr ad)).toList = v.toList.map (cr_tr ad) := by cases v <;> rfl
  rw [e]
  exact this
theorem cr_callI (h : cr_Ok y cc nL ret rm K nS nE Γ) (hC : cr_C z cz nLz rz rmz n n' T) (hZ : cr_Z z cz nLz rz As.length) {b : Nat} (hy1 : z.name = "<init>") (hrz : rz = none) (hli : Cond.methodLink y.cls idx z ∈ cr_GW) (hins : Cond.instanceMethod z ∈ cr_GW) (hrm0 : cr_rm rm rmz nLz nS n n' nE) (hst : stk = As.reverse ++ .ref b :: st) (h8 : (st.map fun v => v.category).sum ≤ 8) (d : decode cc pc = .ok (.invokespecial idx, 3)) (hT : T (.ref b :: As) I R (fun v I' R' => cr_V Γ (pc + 3) ls (v.toList ++ st) I' R' n')) : cr_V Γ pc ls stk I R n := by
  obtain ⟨⟨p, l, e, Rm, s, m, args, below, meth, c⟩, Q, D, g, ad, base, n0⟩ := Γ
  obtain ⟨hx, hb, hml, hown, hts, hK, hST, hlk, hrt, hA, hs0, hQ, hrm, hnm, hn0⟩ := h
  intro H locs la hP hz hS hl
  subst hst
  subst hn0
  subst hrm
  have hmet := hC l D g ad base hA _ I R _ hT
  obtain ⟨hz1, hz2, hz3⟩ := hZ
  obtain ⟨hr1, ⟨hr2, hr3⟩, ⟨hr4, hr5, hr6⟩, hr7, hr8⟩ := hrm0
  have ms1 := cr_sl_mono hr4
  have ms2 := cr_sl_mono hr5
  have ms3 := cr_sl_mono hr6
  have hgood : GoodIn cr_GW (Cond.code z cz nLz rz :: cr_GW) := cr_good (fun _ q => q) hz1
  have h8' : ((st.map (cr_tr ad)).map fun v => v.category).sum ≤ 8 := by
    rw [List.map_map]
    have : ((fun v : Value => v.category) ∘ cr_tr ad) = fun v => v.category := funext fun v => cr_tr_cat ad v
    rw [this]
    exact h8
  refine cr_behind (n := n) (n' := n') ⟨hr4, hr5⟩ (st0 := (As.reverse ++ .ref b :: st).map (cr_tr ad)) (rest := st.map (cr_tr ad)) (by subst hrz; exact va_runI (As := As.map (cr_tr ad)) (b := ad b) (Ts := cr_GW) (own := y.cls) (nL := nL) ⟨hx, hb, hml, hown, hts⟩ hmet ⟨callB_of As.length hts hgood rfl hr2 hr3 (hts _ hz2) (hts _ hli) hz3 hr1, hy1, hts _ hins⟩ ⟨cr_blind, fun U hU hW => ⟨rfl, by rw [hU]; exact hP, fun q => by rw [hU]; exact hz q, va_K.moved hW.alike hK, hST.warm hS hU hW⟩⟩ rfl (by simp) (hl.1.trans hml) (by simp [List.map_reverse, cr_tr]) (lv_room h8') d ⟨by omega, by omega⟩) hS (fun v I' R' hv H1 locs1 hP1 hz1 hS1 => ?_)
  have := hv H1 locs1 la hP1 hz1 hS1 hl
  rw [List.map_append] at this
  have e : (v.map (cr_tr ad)).toList = v.toList.map (cr_tr ad) := by cases v <;> rfl
  rw [e]
  exact this
theorem cr_objI (h : cr_Ok y cc nL ret rm K nS nE Γ) {b : Nat} (hw : Cond.methodLink y.cls idx objectInit ∈ cr_GW) (hins : Cond.instanceMethod objectInit ∈ cr_GW) (hco : Cond.code objectInit ⟨#[0xb1]⟩ 1 none ∈ cr_GW) (h8 : (st.map fun v => v.category).sum ≤ 8) (hf : 1 ≤ rm.frames ∧ 20 ≤ rm.locals) (d : decode cc pc = .ok (.invokespecial idx, 3)) (k : cr_V Γ (pc + 3) ls st I R n) : cr_V Γ pc ls (.ref b :: st) I R n := by
  obtain ⟨⟨p, l, e, Rm, s, m, args, below, meth, c⟩, Q, D, g, ad, base, n0⟩ := Γ
  obtain ⟨hx, hb, hml, hown, hts, hK, hST, hlk, hrt, hA, hs0, hQ, hrm, hnm, hn0⟩ := h
  intro H locs la hP hz hS hl
  subst hrm
  have h8' : ((st.map (cr_tr ad)).map fun v => v.category).sum ≤ 8 := by
    rw [List.map_map]
    have : ((fun v : Value => v.category) ∘ cr_tr ad) = fun v => v.category := funext fun v => cr_tr_cat ad v
    rw [this]
    exact h8
  exact W.objInit hx hb hown (hts _ hw) (hts _ hins) (hts _ hco) rfl (hl.1.trans rfl) (a := ad b) (rest := st.map (cr_tr ad)) rfl d hf.1 (by show 2 * 0 + _ + 12 ≤ _; omega) (k H locs la hP hz hS hl)
end CRC
end
section
theorem cr_wd_app {ad : Nat → Nat} {g : cr_g} {I : cr_I} {R : cr_R} {n : Nat} : cr_wd ad g I R (n + 1) = cr_wd ad g I R n ++ [(ad n, cr_ce ad g I R n)] := by
  unfold cr_wd
  rw [List.range_succ, List.map_append]
  rfl
theorem cr_sl_succ {n k N : Nat} (h : cr_kd n = (k, N)) (hn : n < 247) : cr_sl (n + 1) = cr_sl n + N := by
  unfold cr_sl
  rw [List.take_succ]
  have hl : n < cr_kdT.length := by
    have : cr_kdT.length = 247 := by decide +kernel
    omega
  have e : cr_kdT[n]? = some (cr_kdT[n]'hl) := List.getElem?_eq_getElem hl
  have e2 : cr_kdT[n]'hl = (k, N) := by
    have : cr_kd n = cr_kdT[n]'hl := by
      unfold cr_kd
      rw [List.getD_eq_getElem?_getD, e]
      rfl
    rw [← this, h]
  rw [e, e2]
  simp
theorem cr_push {D : va_G} {ad : Nat → Nat} {g : cr_g} {I : cr_I} {R : cr_R} {n base : Nat} {H H1 : Heap} (hA : cr_ad ad base) (hn : n < 247) (hP : va_P D cr_cl (cr_wd ad g I R n) H) (hz : H.size = base + n) (hk : ∀ q : Nat, q < H.size → H1[q]? = H[q]?) (hc : va_at D cr_cl (ad n, cr_ce ad g I R n) H1) : va_P D cr_cl (cr_wd ad g I R (n + 1)) H1 := by
  rw [cr_wd_app]
  refine va_P.app (hP.kept fun k q hq => hk q.1 ?_) (fun k q hq => ?_)
  · exact (hP k q hq).lt
  · have h0 : k < 1 := (List.getElem?_eq_some_iff.mp hq).1
    rw [show k = 0 by omega] at hq
    cases hq
    exact hc
theorem cr_grow {base : Nat} {H0 H H1 : Heap} {locs : List Loc} (hS : va_S (fun q => base ≤ q) H0 H locs) (hz : H.size ≤ H1.size) (hk : ∀ q : Nat, q < H.size → H1[q]? = H[q]?) : va_S (fun q => base ≤ q) H0 H1 locs :=
  ⟨Nat.le_trans hS.1 hz, fun q h1 h2 => (hk q (Nat.lt_of_lt_of_le h1 hS.1)).trans (hS.2.1 q h1 h2), hS.2.2⟩
section CRN
variable {y : MethodName} {cc : ByteArray} {nL : Nat} {ret : Option FieldType} {rm : Room} {K : cr_K} {nS nE : Nat} {Γ : cr_G} {pc : Nat} {ls st : List Value} {I : cr_I} {R : cr_R} {n : Nat}
/-- the room that a making wants -/
def cr_rn (rm : Room) (nS n n' nE : Nat) : Prop := (nS ≤ n ∧ n < n' ∧ n' ≤ nE ∧ nE ≤ 247) ∧ rm.cells = nE - nS ∧ rm.slots = cr_sl nE - cr_sl nS
theorem cr_new (h : cr_Ok y cc nL ret rm K nS nE Γ) {i c0 N : Nat} {C : String} {T : u_T} {ty : Nat → FieldType} (hc : cr_cls c0 C T N ty) (hw1 : Cond.classLink y.cls i C ∈ cr_GW) (hw2 : Cond.instantiable C N ∈ cr_GW) (hw3 : Cond.initialized C ∈ cr_GW) (hkd : cr_kd n = (c0 + 3, N)) (hI : ∀ k, k < N → I n k = 0) (hR : ∀ k, k < N → R n k = none) (htf : ∀ k, k < N → defaultValue (ty k) = if cr_fi c0 k = true then .int 0 else .null) (hrn : cr_rn rm nS n (n + 1) nE) (d : decode cc pc = .ok (.new i, 3)) (k1 : cr_V Γ (pc + 3) ls (.ref n :: st) I R (n + 1)) : cr_V Γ pc ls st I R n := by
  obtain ⟨⟨p, l, e, Rm, s, m, args, below, meth, c⟩, Q, D, g, ad, base, n0⟩ := Γ
  obtain ⟨hx, hb, hml, hown, hts, hK, hST, hlk, hrt, hA, hs0, hQ, hrm, hnm, hn0⟩ := h
  intro H locs la hP hz hS hl
  subst hn0
  subst hrm
  obtain ⟨⟨hr4, hr5, hr6, hr9⟩, hr7, hr8⟩ := hrn
  have hn : n < 247 := by omega
  have hz := hz hn
  have ms1 := cr_sl_mono hr4
  have ms2 := cr_sl_mono hr6
  have ms3 := cr_sl_succ hkd hn
  obtain ⟨hcl, hin, hty, -⟩ := hc
  have hKn := hK.1 c0 _ hcl
  refine W.newcK hx hb hown (hts _ hw1) (hts _ hw2) (hts _ hw3) rfl d (by omega) (by omega) hKn.2.1 rfl fun H1 kC hkC e1 z1 o1 => ?_
  have c1 : n - n0 + 1 = n + 1 - n0 := by omega
  have c2 : cr_sl n - cr_sl n0 + N = cr_sl (n + 1) - cr_sl n0 := by omega
  rw [c1, c2]
  have ea : ad n = H.size := by rw [hA n (by omega), hz]
  have hP1 : va_P D cr_cl (cr_wd ad g I R (n + 1)) H1 := by
    refine cr_push hA hn hP hz o1 ?_
    rw [cr_ce_obj hkd, ea]
    refine ⟨_, hcl, (u_born ty hts hin hKn hkC e1 hty).to fun j hj => ?_⟩
    rw [htf j hj]
    simp only [vp_V, List.getD_eq_getElem?_getD, cr_fs_at hj, hI j hj, hR j hj]
    rfl
  have := k1 H1 locs la hP1 (fun _ => by rw [z1, hz]; omega) (cr_grow hS (by omega) o1) hl
  rw [List.map_cons, show cr_tr ad (.ref n) = .ref (ad n) from rfl, ea] at this
  exact this
theorem cr_newa (h : cr_Ok y cc nL ret rm K nS nE Γ) {N : Nat} {i : Int32} (harr : Cond.arrayClass .int ∈ cr_GW) (hi : i.toInt = N) (hN : N ≤ 1000) (hkd : cr_kd n = (0, N)) (hI : ∀ k, I n k = 0) (hrn : cr_rn rm nS n (n + 1) nE) (d : decode cc pc = .ok (.newarray .int, 2)) (k1 : cr_V Γ (pc + 2) ls (.ref n :: st) I R (n + 1)) : cr_V Γ pc ls (.int i :: st) I R n := by
  obtain ⟨⟨p, l, e, Rm, s, m, args, below, meth, c⟩, Q, D, g, ad, base, n0⟩ := Γ
  obtain ⟨hx, hb, hml, hown, hts, hK, hST, hlk, hrt, hA, hs0, hQ, hrm, hnm, hn0⟩ := h
  intro H locs la hP hz hS hl
  subst hn0
  subst hrm
  obtain ⟨⟨hr4, hr5, hr6, hr9⟩, hr7, hr8⟩ := hrn
  have hn : n < 247 := by omega
  have hz := hz hn
  have ms1 := cr_sl_mono hr4
  have ms2 := cr_sl_mono hr6
  have ms3 := cr_sl_succ hkd hn
  have hi0 : ¬ i < 0 := by
    rw [Int32.lt_iff_toInt_lt, hi]
    simp
  have hi1 : i.toNatClampNeg = N := by
    show i.toInt.toNat = N
    rw [hi]
    simp
  refine va_newaK hx hb (atype := .int) (hts _ harr) rfl d rfl hi0 hi1 (by show N * 4 ≤ _; omega) (by omega) (by omega) rfl fun H1 cA e1 z1 o1 hAr hNm => ?_
  have c1 : n - n0 + 1 = n + 1 - n0 := by omega
  have c2 : cr_sl n - cr_sl n0 + N = cr_sl (n + 1) - cr_sl n0 := by omega
  rw [c1, c2]
  have ea : ad n = H.size := by rw [hA n (by omega), hz]
  have ec : cA = g.1 := by
    have h1 : s.vm.findClass ("[" ++ FieldType.int.toString) = some g.1 := (hK.2 0 _ rfl).2
    exact Option.some.inj (hNm.symm.trans h1)
  subst ec
  have hP1 : va_P D cr_cl (cr_wd ad g I R (n + 1)) H1 := by
    refine cr_push hA hn hP hz o1 ?_
    rw [cr_ce_int hkd, ea]
    show H1[H.size]? = some (vp_cell _ _)
    rw [e1, vp_cell_i]
    congr 2
    funext j
    rw [hI j]
    rfl
  have := k1 H1 locs la hP1 (fun _ => by rw [z1, hz]; omega) (cr_grow hS (by omega) o1) hl
  rw [List.map_cons, show cr_tr ad (.ref n) = .ref (ad n) from rfl, ea] at this
  exact this
theorem cr_anew (h : cr_Ok y cc nL ret rm K nS nE Γ) {N j : Nat} {i : Int32} (hw : Cond.classLink y.cls j "CartRows$Make" ∈ cr_GW) (hi : i.toInt = N) (hN : N ≤ 1000) (hkd : cr_kd n = (2, N)) (hR : ∀ k, R n k = none) (hrn : cr_rn rm nS n (n + 1) nE) (d : decode cc pc = .ok (.anewarray j, 3)) (k1 : cr_V Γ (pc + 3) ls (.ref n :: st) I R (n + 1)) : cr_V Γ pc ls (.int i :: st) I R n := by
  obtain ⟨⟨p, l, e, Rm, s, m, args, below, meth, c⟩, Q, D, g, ad, base, n0⟩ := Γ
  obtain ⟨hx, hb, hml, hown, hts, hK, hST, hlk, hrt, hA, hs0, hQ, hrm, hnm, hn0⟩ := h
  intro H locs la hP hz hS hl
  subst hn0
  subst hrm
  obtain ⟨⟨hr4, hr5, hr6, hr9⟩, hr7, hr8⟩ := hrn
  have hn : n < 247 := by omega
  have hz := hz hn
  have ms1 := cr_sl_mono hr4
  have ms2 := cr_sl_mono hr6
  have ms3 := cr_sl_succ hkd hn
  have hi0 : ¬ i < 0 := by
    rw [Int32.lt_iff_toInt_lt, hi]
    simp
  have hi1 : i.toNatClampNeg = N := by
    show i.toInt.toNat = N
    rw [hi]
    simp
  refine W.anew hx hb hown (hts _ hw) (va_AO.use hST.2.2.2.2.2.2.2) rfl d rfl hi0 (by rw [hi1]; omega) (by omega) (by rw [hi1]; omega) fun cA kA comp f1 f2 f3 f4 => ?_
  have c1 : n - n0 + 1 = n + 1 - n0 := by omega
  have c2 : cr_sl n - cr_sl n0 + N = cr_sl (n + 1) - cr_sl n0 := by omega
  rw [hi1, c1, c2]
  have ea : ad n = H.size := by rw [hA n (by omega), hz]
  have ec : cA = g.2.2 := by
    obtain ⟨_, _, -, -, -, h4⟩ := (hK.2 2 _ rfl).2
    exact Option.some.inj (f1.symm.trans h4)
  subst ec
  have o1 : ∀ q : Nat, q < H.size → (H.push { cls := g.2.2, slots := Array.replicate N .null, vm := .none })[q]? = H[q]? := fun q hq => by
    rw [Array.getElem?_push, if_neg (Nat.ne_of_lt hq)]
  have hP1 : va_P D cr_cl (cr_wd ad g I R (n + 1)) (H.push { cls := g.2.2, slots := Array.replicate N .null, vm := .none }) := by
    refine cr_push hA hn hP hz o1 ?_
    rw [cr_ce_mak hkd, ea]
    show (H.push _)[H.size]? = some (vp_cell _ _)
    rw [Array.getElem?_push, if_pos rfl, vp_cell_q, arrV_new]
    congr 2
    funext j
    rw [hR j]
    rfl
  have := k1 _ locs la hP1 (fun _ => by simp; rw [hz]; omega) (cr_grow hS (by simp) o1) hl
  rw [List.map_cons, show cr_tr ad (.ref n) = .ref (ad n) from rfl, ea] at this
  exact this
theorem cr_aast (h : cr_Ok y cc nL ret rm K nS nE Γ) {b N x c0 N0 : Nat} {i : Int32} {r : vw_C} (hbn : b < n) (hnn : n ≤ 1000) (hkd : cr_kd b = (2, N)) (hxn : x < n) (hkx : cr_kd x = (c0 + 3, N0)) (hc0 : cr_cl[c0]? = some r) (hr0 : r.1 = "CartRows$Make") (h0 : 0 ≤ i.toInt ∧ i.toInt < N) (d : decode cc pc = .ok (.aastore, 1)) (k1 : cr_V Γ (pc + 1) ls st I (cr_up R b i.toNatClampNeg (some x)) n) : cr_V Γ pc ls (.ref x :: .int i :: .ref b :: st) I R n := by
  obtain ⟨⟨p, l, e, Rm, s, m, args, below, meth, c⟩, Q, D, g, ad, base, n0⟩ := Γ
  obtain ⟨hx, hb, hml, hown, hts, hK, hST, hlk, hrt, hA, hs0, hQ, hrm, hnm, hn0⟩ := h
  intro H locs la hP hz hS hl
  have hD := cr_wd_D (g := g) (I := I) (R := R) hA hnn
  have hin := cr_vin h0.1 h0.2
  have hlt : i.toNatClampNeg < N := Nat.not_le.mp fun q => hin (Or.inr q)
  have h00 : ¬ i < 0 := fun q => hin (Or.inl q)
  have he : (cr_wd ad g I R n)[b]? = some (ad b, .inl (g.2.2, N, .inr (.inr (.inr (.inr (fun j => (R b j).map ad)))))) := by rw [cr_wd_at hbn, cr_ce_mak hkd]
  have hv : (cr_wd ad g I R n)[x]? = some (ad x, .inr (c0, cr_fs ad I R c0 N0 x)) := by rw [cr_wd_at hxn, cr_ce_obj hkx]
  obtain ⟨r', hr', cellV, g1, g2, g3, -⟩ := hP x _ hv
  have hcls := (hK.1 c0 r hc0).2
  obtain ⟨kA, comp, k1', k2, k3, -⟩ := (hK.2 2 _ rfl).2
  have hcomp : comp = D.1 c0 := Option.some.inj (k3.symm.trans (by rw [← hr0]; exact hcls.1))
  subst hcomp
  obtain ⟨kC, hkC, -⟩ := hcls.2
  refine W.aast hx hb (hP b _ he) (fun q h => by cases h) (fun h => by cases h) k1' k2 rfl hkC ⟨h00, by show _ < (arrV _ _ _).slots.size; rw [arrV_size]; exact hlt⟩ g1 (fun q h => by rw [g3] at h; cases h) (by rw [g2]; exact hkC) (by rw [g2]; exact va_assign hcls) rfl rfl d fun H1 e z oq => ?_
  have hP' := hP.set hD he (e := .inl (g.2.2, N, .inr (.inr (.inr (.inr (fun j => (cr_up R b i.toNatClampNeg (some x) b j).map ad)))))) (by
    show H1[ad b]? = some (vp_cell _ _)
    rw [e, vp_cell_q, vp_cell_q, arrV_store]
    congr 2
    funext q
    by_cases hq : q = i.toNatClampNeg
    · subst hq
      simp [updV, cr_up, va_rf]
    · simp [updV, cr_up, hq]) oq
  rw [← cr_ce_mak (ad := ad) (g := g) (I := I) hkd, cr_wd_set hbn (fun x _ hx => cr_ce_upR hx)] at hP'
  exact k1 H1 _ la hP' (fun q => z.trans (hz q)) (hS.put z oq (hD.2 b _ he)) hl
end CRN
end
section
theorem cr_outer (c : ClassId) (N h0 : Nat) : ∀ i : Nat, Jvm.Free.Multi.outerC c N h0 i = arrV c N (fun j => va_rf (if j < i then some (h0 + 1 + j) else none))
  | 0 => by
    show ({ cls := c, slots := Array.replicate N .null, vm := .none } : Cell) = _
    rw [arrV_new]
    refine congrArg (arrV c N) (funext fun j => ?_)
    simp [va_rf]
  | i + 1 => by
    show (Jvm.Free.Multi.outerC c N h0 i).setSlot i (.ref (h0 + 1 + i)) = _
    rw [cr_outer c N h0 i, arrV_store]
    refine congrArg (arrV c N) (funext fun j => ?_)
    by_cases e : j = i
    · subst e
      simp [updV, va_rf]
    · by_cases h : j < i
      · simp [updV, e, h, Nat.lt_succ_of_lt h]
      · simp [updV, e, h, show ¬ j < i + 1 by omega]
theorem cr_arr_ext {c : ClassId} {N : Nat} {f f' : Nat → Value} (h : ∀ j, j < N → f j = f' j) : arrV c N f = arrV c N f' := by
  unfold arrV
  congr 1
  apply Array.ext
  · simp
  · intro i h1 h2
    simp only [Array.getElem_ofFn]
    exact h i (by simpa using h1)
theorem cr_ce_off {ad : Nat → Nat} {g : cr_g} {I I' : cr_I} {R : cr_R} {x : Nat} (h : ∀ j, I' x j = I x j) : cr_ce ad g I' R x = cr_ce ad g I R x := by
  have e2 : I' x = I x := funext h
  unfold cr_ce cr_fs
  simp only [h, e2]
section CRM
variable {y : MethodName} {cc : ByteArray} {nL : Nat} {ret : Option FieldType} {rm : Room} {K : cr_K} {nS nE : Nat} {Γ : cr_G} {pc : Nat} {ls st : List Value} {I : cr_I} {R : cr_R} {n : Nat}
theorem cr_rows {D : va_G} {ad : Nat → Nat} {g : cr_g} {base : Nat} {H H1 : Heap} {M : Nat} (hA : cr_ad ad base) (hz : H.size = base + n) : ∀ N : Nat, n + 1 + N ≤ 247 → (∀ j, j < N → cr_kd (n + 1 + j) = (0, M)) → va_P D cr_cl (cr_wd ad g I R (n + 1)) H1 → (∀ j, j < N → ∀ k, I (n + 1 + j) k = 0) → (∀ j, j < N → H1[H.size + 1 + j]? = some (arrV g.1 M (fun _ => .int 0))) → va_P D cr_cl (cr_wd ad g I R (n + 1 + N)) H1
  | 0, _, _, hP, _, _ => hP
  | N + 1, hle, hk, hP, hI, hc => by
    have ih := cr_rows hA hz N (by omega) (fun j hj => hk j (by omega)) hP (fun j hj => hI j (by omega)) (fun j hj => hc j (by omega))
    rw [show n + 1 + (N + 1) = (n + 1 + N) + 1 by omega, cr_wd_app]
    refine va_P.app ih (fun k q hq => ?_)
    have h0 : k < 1 := (List.getElem?_eq_some_iff.mp hq).1
    rw [show k = 0 by omega] at hq
    cases hq
    rw [cr_ce_int (hk N (by omega))]
    show H1[ad (n + 1 + N)]? = some (vp_cell _ _)
    rw [hA _ (by omega), show base + (n + 1 + N) = H.size + 1 + N by omega, hc N (by omega), vp_cell_i]
    congr 2
    funext j
    rw [hI N (by omega) j]
theorem cr_sl_rows {M : Nat} : ∀ N : Nat, n + 1 + N ≤ 247 → (∀ j, j < N → cr_kd (n + 1 + j) = (0, M)) → cr_sl (n + 1 + N) = cr_sl (n + 1) + N * M
  | 0, _, _ => by simp
  | N + 1, hle, hk => by
    rw [show n + 1 + (N + 1) = (n + 1 + N) + 1 by omega, cr_sl_succ (hk N (by omega)) (by omega), cr_sl_rows N (by omega) (fun j hj => hk j (by omega)), Nat.succ_mul]
    omega
theorem cr_mna (h : cr_Ok y cc nL ret rm K nS nE Γ) {j N M : Nat} {i k : Int32} (hw : Cond.classLink y.cls j "[[I" ∈ cr_GW) (harr : Cond.arrayClass .int ∈ cr_GW) (hi : i.toInt = N) (hk : k.toInt = M) (hN : N ≤ 1000) (hM : M ≤ 1000) (hkd : cr_kd n = (1, N)) (hkr : ∀ j, j < N → cr_kd (n + 1 + j) = (0, M)) (hR : ∀ j, j < N → R n j = some (n + 1 + j)) (hI : ∀ j, j < N → ∀ k, I (n + 1 + j) k = 0) (hrn : cr_rn rm nS n (n + 1 + N) nE) (d : decode cc pc = .ok (.multianewarray j 2, 4)) (k1 : cr_V Γ (pc + 4) ls (.ref n :: st) I R (n + 1 + N)) : cr_V Γ pc ls (.int k :: .int i :: st) I R n := by
  obtain ⟨⟨p, l, e, Rm, s, m, args, below, meth, c⟩, Q, D, g, ad, base, n0⟩ := Γ
  obtain ⟨hx, hb, hml, hown, hts, hK, hST, hlk, hrt, hA, hs0, hQ, hrm, hnm, hn0⟩ := h
  intro H locs la hP hz hS hl
  subst hn0
  subst hrm
  obtain ⟨⟨hr4, hr5, hr6, hr9⟩, hr7, hr8⟩ := hrn
  have hn : n < 247 := by omega
  have hz := hz hn
  have ms1 := cr_sl_mono hr4
  have ms2 := cr_sl_mono hr6
  have ms3 := cr_sl_succ hkd hn
  have ms4 := cr_sl_rows (n := n) (M := M) N (by omega) hkr
  have nz : ∀ (z : Int32) (q : Nat), z.toInt = q → ¬ z < 0 ∧ z.toNatClampNeg = q := fun z q hq => ⟨by rw [Int32.lt_iff_toInt_lt, hq]; simp, by show z.toInt.toNat = q; rw [hq]; simp⟩
  obtain ⟨hi0, hi1⟩ := nz i N hi
  obtain ⟨hk0, hk1⟩ := nz k M hk
  intro T hT X
  obtain ⟨vm₁, cA, comp, -, fA, fC, hO, -, X', step⟩ := X.multianewarray2F hx hown (ty := .int) (hts _ hw) (cr_AOA.use hST.2.2.2.2.2.2.1) (hts _ harr) (g := F0 m pc la (.int k :: .int i :: st.map (cr_tr ad))) rfl (by rw [hb]; exact d) rfl hi0 hk0 (by rw [hi1]; omega) (by rw [hk1]; show M * 4 ≤ _; omega) (by rw [hk1]; omega) rfl rfl (by rw [hi1]; omega) (by rw [hi1, hk1]; omega)
  have ec1 : comp = g.1 := by
    have h1 : s.vm.findClass ("[" ++ FieldType.int.toString) = some g.1 := (hK.2 0 _ rfl).2
    have h2 : s.vm.findClass ("[" ++ FieldType.int.toString) = some comp := fC
    exact Option.some.inj (h2.symm.trans h1)
  have ec2 : cA = g.2.1 := by
    have h1 : s.vm.findClass ("[" ++ (FieldType.array .int).toString) = some g.2.1 := (hK.2 1 _ rfl).2
    exact Option.some.inj (fA.symm.trans h1)
  subst ec1
  subst ec2
  rw [hi1, hk1] at X' step
  generalize hF : Jvm.Free.Multi.fill (T.setVm vm₁) g.2.1 g.1 N M (defaultValue .int) N = F at X' step
  have hTh : (T.setVm vm₁).heap = H := hT
  obtain ⟨f1, f2, -, -⟩ := Jvm.Free.Multi.fill_facts (T.setVm vm₁) g.2.1 g.1 N M (defaultValue .int) N
  rw [hF, hTh] at f1 f2
  have hold : ∀ x : Nat, x < H.size → F.heap[x]? = H[x]? := fun x hx => by
    have := Jvm.Free.Multi.fill_old (T.setVm vm₁) g.2.1 g.1 N M (defaultValue .int) (a := x) (by rw [hTh]; exact hx) N
    rw [hF, hTh] at this
    exact this
  have hrow : ∀ j : Nat, j < N → F.heap[H.size + 1 + j]? = some (arrV g.1 M (fun _ => .int 0)) := fun j hj => by
    have := Jvm.Free.Multi.fill_inner (T.setVm vm₁) g.2.1 g.1 N M (defaultValue .int) N j hj
    rw [hF, hTh] at this
    rw [this]
    show some ({ cls := g.1, slots := Array.replicate M (.int 0), vm := .none } : Cell) = _
    rw [arrV_new]
  have ea : ad n = H.size := by rw [hA n (by omega), hz]
  have hP1 : va_P D cr_cl (cr_wd ad g I R (n + 1)) F.heap := by
    refine cr_push hA hn hP hz hold ?_
    rw [cr_ce_row hkd, ea]
    show F.heap[H.size]? = some (vp_cell _ _)
    rw [f2, cr_outer, vp_cell_q]
    congr 1
    refine cr_arr_ext fun j hj => ?_
    rw [if_pos hj, hR j hj]
    show va_rf (some _) = va_rf (some _)
    rw [hA _ (by omega), hz]
    congr 2
    omega
  have hP2 := cr_rows (D := D) (R := R) hA hz N (by omega) hkr hP1 hI hrow
  have c1 : n - n0 + 1 + N = n + 1 + N - n0 := by omega
  have c2 : cr_sl n - cr_sl n0 + N + N * M = cr_sl (n + 1 + N) - cr_sl n0 := by omega
  rw [c1, c2] at X'
  obtain ⟨t, a1, b1⟩ := k1 F.heap locs la hP2 (fun _ => by rw [f1, hz]; omega) (cr_grow hS (by rw [f1]; omega) hold) hl F rfl X'
  refine ⟨t, step t ?_, b1⟩
  have e : T.heap.size = H.size := by rw [hT]
  rw [e]
  rw [List.map_cons, show cr_tr ad (.ref n) = .ref (ad n) from rfl, ea] at a1
  exact a1
theorem cr_acopy (h : cr_Ok y cc nL ret rm K nS nE Γ) {j b0 b1 N0 N1 : Nat} {sp dp k : Int32} (hw : Cond.methodLink y.cls j arraycopyName ∈ cr_GW) (hw2 : Cond.native arraycopyName ∈ cr_GW) (hw3 : Cond.static arraycopyName ∈ cr_GW) (hw4 : Cond.initialized "java/lang/System" ∈ cr_GW) (hn : n = 247) (hb0 : b0 < n) (hb1 : b1 < n) (hk0 : cr_kd b0 = (0, N0)) (hk1 : cr_kd b1 = (0, N1)) (h1 : ¬ sp < 0) (h2 : ¬ dp < 0) (h3 : ¬ k < 0) (h4 : sp.toNatClampNeg + k.toNatClampNeg ≤ N0) (h5 : dp.toNatClampNeg + k.toNatClampNeg ≤ N1) (h8 : (st.map fun v => v.category).sum ≤ 8) (hf : 1 ≤ rm.frames ∧ 40 ≤ rm.locals) (d : decode cc pc = .ok (.invokestatic j, 3)) (k1 : cr_V Γ (pc + 3) ls st (fun b q => if b = b1 then va_cpy (I b0) (I b1) sp.toNatClampNeg dp.toNatClampNeg k.toNatClampNeg q else I b q) R n) : cr_V Γ pc ls (.int k :: .int dp :: .ref b1 :: .int sp :: .ref b0 :: st) I R n := by
  obtain ⟨⟨p, l, e, Rm, s, m, args, below, meth, c⟩, Q, D, g, ad, base, n0⟩ := Γ
  obtain ⟨hx, hb, hml, hown, hts, hK, hST, hlk, hrt, hA, hs0, hQ, hrm, hnm, hn0⟩ := h
  intro H locs la hP hz hS hl
  subst hrm
  have hD := cr_wd_D (g := g) (I := I) (R := R) hA (show n ≤ 1000 by omega)
  have h8' : ((st.map (cr_tr ad)).map fun v => v.category).sum ≤ 8 := by
    rw [List.map_map]
    have : ((fun v : Value => v.category) ∘ cr_tr ad) = fun v => v.category := funext fun v => cr_tr_cat ad v
    rw [this]
    exact h8
  have hnf : nativeFrameWords "java/lang/System" "arraycopy" 5 + 11 ≤ 32 := by decide +kernel
  refine va_copyi (D := D) (rest := st.map (cr_tr ad)) (A := fun q => base ≤ q) hx hb hl.1.symm hown (hts _ hw) (hts _ hw2) (hts _ hw3) (hts _ hw4) hK hP hD hS b0 b1 0 0 (ty := .int) (by rw [cr_wd_at hb0, cr_ce_int hk0]) (by rw [cr_wd_at hb1, cr_ce_int hk1]) rfl rfl rfl h1 h2 h3 h4 h5 (fun i hi => rfl) hf.1 (by omega) d (fun H1 locs1 hP1 hD1 hS1 => ?_)
  refine k1 H1 locs1 la ?_ (fun q => by omega) hS1 hl
  have e := cr_wd_set (ad := ad) (g := g) (I := I) (R := R) (I' := fun b q => if b = b1 then va_cpy (I b0) (I b1) sp.toNatClampNeg dp.toNatClampNeg k.toNatClampNeg q else I b q) (R' := R) hb1 (fun x _ hx => cr_ce_off (fun j => if_neg hx))
  rw [cr_ce_int hk1, show (fun q => if b1 = b1 then va_cpy (I b0) (I b1) sp.toNatClampNeg dp.toNatClampNeg k.toNatClampNeg q else I b1 q) = va_cpy (I b0) (I b1) sp.toNatClampNeg dp.toNatClampNeg k.toNatClampNeg from funext fun q => if_pos rfl] at e
  rw [← e]
  exact hP1
theorem cr_ldcS67 (h : cr_Ok y cc nL ret rm K nS nE Γ) (hy : y.cls = RX7) (d : decode cc pc = .ok (.ldc 67, 2)) (k1 : cr_V Γ (pc + 2) ls (.ref 1003 :: st) I R n) : cr_V Γ pc ls st I R n := by
  obtain ⟨⟨p, l, e, Rm, s, m, args, below, meth, c⟩, Q, D, g, ad, base, n0⟩ := Γ
  obtain ⟨hx, hb, hml, hown, hts, hK, hST, hlk, hrt, hA, hs0, hQ, hrm, hnm, hn0⟩ := h
  intro H locs la hP hz hS hl
  rw [hy] at hown
  exact va_ldcS hx hb hown hST.2.2.2.2.1.1 d (k1 H locs la hP hz hS hl)
theorem cr_ldcS72 (h : cr_Ok y cc nL ret rm K nS nE Γ) (hy : y.cls = RX7) (d : decode cc pc = .ok (.ldc 72, 2)) (k1 : cr_V Γ (pc + 2) ls (.ref 1004 :: st) I R n) : cr_V Γ pc ls st I R n := by
  obtain ⟨⟨p, l, e, Rm, s, m, args, below, meth, c⟩, Q, D, g, ad, base, n0⟩ := Γ
  obtain ⟨hx, hb, hml, hown, hts, hK, hST, hlk, hrt, hA, hs0, hQ, hrm, hnm, hn0⟩ := h
  intro H locs la hP hz hS hl
  rw [hy] at hown
  exact va_ldcS hx hb hown hST.2.2.2.2.1.2.1 d (k1 H locs la hP hz hS hl)
theorem cr_ldcS74 (h : cr_Ok y cc nL ret rm K nS nE Γ) (hy : y.cls = RX7) (d : decode cc pc = .ok (.ldc 74, 2)) (k1 : cr_V Γ (pc + 2) ls (.ref 1005 :: st) I R n) : cr_V Γ pc ls st I R n := by
  obtain ⟨⟨p, l, e, Rm, s, m, args, below, meth, c⟩, Q, D, g, ad, base, n0⟩ := Γ
  obtain ⟨hx, hb, hml, hown, hts, hK, hST, hlk, hrt, hA, hs0, hQ, hrm, hnm, hn0⟩ := h
  intro H locs la hP hz hS hl
  rw [hy] at hown
  exact va_ldcS hx hb hown hST.2.2.2.2.1.2.2.1 d (k1 H locs la hP hz hS hl)
theorem cr_ldcS55 (h : cr_Ok y cc nL ret rm K nS nE Γ) (hy : y.cls = RX7) (d : decode cc pc = .ok (.ldc 55, 2)) (k1 : cr_V Γ (pc + 2) ls (.ref 1006 :: st) I R n) : cr_V Γ pc ls st I R n := by
  obtain ⟨⟨p, l, e, Rm, s, m, args, below, meth, c⟩, Q, D, g, ad, base, n0⟩ := Γ
  obtain ⟨hx, hb, hml, hown, hts, hK, hST, hlk, hrt, hA, hs0, hQ, hrm, hnm, hn0⟩ := h
  intro H locs la hP hz hS hl
  rw [hy] at hown
  exact va_ldcS hx hb hown hST.2.2.2.2.1.2.2.2.1 d (k1 H locs la hP hz hS hl)
theorem cr_ldcS99 (h : cr_Ok y cc nL ret rm K nS nE Γ) (hy : y.cls = RX7) (d : decode cc pc = .ok (.ldc 99, 2)) (k1 : cr_V Γ (pc + 2) ls (.ref 1007 :: st) I R n) : cr_V Γ pc ls st I R n := by
  obtain ⟨⟨p, l, e, Rm, s, m, args, below, meth, c⟩, Q, D, g, ad, base, n0⟩ := Γ
  obtain ⟨hx, hb, hml, hown, hts, hK, hST, hlk, hrt, hA, hs0, hQ, hrm, hnm, hn0⟩ := h
  intro H locs la hP hz hS hl
  rw [hy] at hown
  exact va_ldcS hx hb hown hST.2.2.2.2.1.2.2.2.2.1 d (k1 H locs la hP hz hS hl)
theorem cr_ldcS101 (h : cr_Ok y cc nL ret rm K nS nE Γ) (hy : y.cls = RX7) (d : decode cc pc = .ok (.ldc 101, 2)) (k1 : cr_V Γ (pc + 2) ls (.ref 1008 :: st) I R n) : cr_V Γ pc ls st I R n := by
  obtain ⟨⟨p, l, e, Rm, s, m, args, below, meth, c⟩, Q, D, g, ad, base, n0⟩ := Γ
  obtain ⟨hx, hb, hml, hown, hts, hK, hST, hlk, hrt, hA, hs0, hQ, hrm, hnm, hn0⟩ := h
  intro H locs la hP hz hS hl
  rw [hy] at hown
  exact va_ldcS hx hb hown hST.2.2.2.2.1.2.2.2.2.2.1 d (k1 H locs la hP hz hS hl)
theorem cr_ldcS103 (h : cr_Ok y cc nL ret rm K nS nE Γ) (hy : y.cls = RX7) (d : decode cc pc = .ok (.ldc 103, 2)) (k1 : cr_V Γ (pc + 2) ls (.ref 1009 :: st) I R n) : cr_V Γ pc ls st I R n := by
  obtain ⟨⟨p, l, e, Rm, s, m, args, below, meth, c⟩, Q, D, g, ad, base, n0⟩ := Γ
  obtain ⟨hx, hb, hml, hown, hts, hK, hST, hlk, hrt, hA, hs0, hQ, hrm, hnm, hn0⟩ := h
  intro H locs la hP hz hS hl
  rw [hy] at hown
  exact va_ldcS hx hb hown hST.2.2.2.2.1.2.2.2.2.2.2.1 d (k1 H locs la hP hz hS hl)
theorem cr_ldcS105 (h : cr_Ok y cc nL ret rm K nS nE Γ) (hy : y.cls = RX7) (d : decode cc pc = .ok (.ldc 105, 2)) (k1 : cr_V Γ (pc + 2) ls (.ref 1010 :: st) I R n) : cr_V Γ pc ls st I R n := by
  obtain ⟨⟨p, l, e, Rm, s, m, args, below, meth, c⟩, Q, D, g, ad, base, n0⟩ := Γ
  obtain ⟨hx, hb, hml, hown, hts, hK, hST, hlk, hrt, hA, hs0, hQ, hrm, hnm, hn0⟩ := h
  intro H locs la hP hz hS hl
  rw [hy] at hown
  exact va_ldcS hx hb hown hST.2.2.2.2.1.2.2.2.2.2.2.2.1 d (k1 H locs la hP hz hS hl)
theorem cr_ldcS107 (h : cr_Ok y cc nL ret rm K nS nE Γ) (hy : y.cls = RX7) (d : decode cc pc = .ok (.ldc 107, 2)) (k1 : cr_V Γ (pc + 2) ls (.ref 1011 :: st) I R n) : cr_V Γ pc ls st I R n := by
  obtain ⟨⟨p, l, e, Rm, s, m, args, below, meth, c⟩, Q, D, g, ad, base, n0⟩ := Γ
  obtain ⟨hx, hb, hml, hown, hts, hK, hST, hlk, hrt, hA, hs0, hQ, hrm, hnm, hn0⟩ := h
  intro H locs la hP hz hS hl
  rw [hy] at hown
  exact va_ldcS hx hb hown hST.2.2.2.2.1.2.2.2.2.2.2.2.2.1 d (k1 H locs la hP hz hS hl)
theorem cr_ldcS109 (h : cr_Ok y cc nL ret rm K nS nE Γ) (hy : y.cls = RX7) (d : decode cc pc = .ok (.ldc 109, 2)) (k1 : cr_V Γ (pc + 2) ls (.ref 1012 :: st) I R n) : cr_V Γ pc ls st I R n := by
  obtain ⟨⟨p, l, e, Rm, s, m, args, below, meth, c⟩, Q, D, g, ad, base, n0⟩ := Γ
  obtain ⟨hx, hb, hml, hown, hts, hK, hST, hlk, hrt, hA, hs0, hQ, hrm, hnm, hn0⟩ := h
  intro H locs la hP hz hS hl
  rw [hy] at hown
  exact va_ldcS hx hb hown hST.2.2.2.2.1.2.2.2.2.2.2.2.2.2.1 d (k1 H locs la hP hz hS hl)
theorem cr_ldcS90 (h : cr_Ok y cc nL ret rm K nS nE Γ) (hy : y.cls = RX7) (d : decode cc pc = .ok (.ldc 90, 2)) (k1 : cr_V Γ (pc + 2) ls (.ref 1013 :: st) I R n) : cr_V Γ pc ls st I R n := by
  obtain ⟨⟨p, l, e, Rm, s, m, args, below, meth, c⟩, Q, D, g, ad, base, n0⟩ := Γ
  obtain ⟨hx, hb, hml, hown, hts, hK, hST, hlk, hrt, hA, hs0, hQ, hrm, hnm, hn0⟩ := h
  intro H locs la hP hz hS hl
  rw [hy] at hown
  exact va_ldcS hx hb hown hST.2.2.2.2.1.2.2.2.2.2.2.2.2.2.2.1 d (k1 H locs la hP hz hS hl)
theorem cr_ldcS92 (h : cr_Ok y cc nL ret rm K nS nE Γ) (hy : y.cls = RX7) (d : decode cc pc = .ok (.ldc 92, 2)) (k1 : cr_V Γ (pc + 2) ls (.ref 1014 :: st) I R n) : cr_V Γ pc ls st I R n := by
  obtain ⟨⟨p, l, e, Rm, s, m, args, below, meth, c⟩, Q, D, g, ad, base, n0⟩ := Γ
  obtain ⟨hx, hb, hml, hown, hts, hK, hST, hlk, hrt, hA, hs0, hQ, hrm, hnm, hn0⟩ := h
  intro H locs la hP hz hS hl
  rw [hy] at hown
  exact va_ldcS hx hb hown hST.2.2.2.2.1.2.2.2.2.2.2.2.2.2.2.2.1 d (k1 H locs la hP hz hS hl)
theorem cr_ldcS65 (h : cr_Ok y cc nL ret rm K nS nE Γ) (hy : y.cls = RX7) (d : decode cc pc = .ok (.ldc 65, 2)) (k1 : cr_V Γ (pc + 2) ls (.ref 1015 :: st) I R n) : cr_V Γ pc ls st I R n := by
  obtain ⟨⟨p, l, e, Rm, s, m, args, below, meth, c⟩, Q, D, g, ad, base, n0⟩ := Γ
  obtain ⟨hx, hb, hml, hown, hts, hK, hST, hlk, hrt, hA, hs0, hQ, hrm, hnm, hn0⟩ := h
  intro H locs la hP hz hS hl
  rw [hy] at hown
  exact va_ldcS hx hb hown hST.2.2.2.2.1.2.2.2.2.2.2.2.2.2.2.2.2 d (k1 H locs la hP hz hS hl)
end CRM
end
section
theorem wf_X8_10 : Cond.fieldLink RX8 10 RX8 (TX8 0).2.1 (TX8 0).2.2.1 ∈ cr_GW := cr_gw 399 (by decide +kernel) (by decide +kernel)
theorem wf_X8_19 : Cond.fieldLink RX8 19 RX8 (TX8 1).2.1 (TX8 1).2.2.1 ∈ cr_GW := cr_gw 400 (by decide +kernel) (by decide +kernel)
theorem wf_X8_26 : Cond.fieldLink RX8 26 RX8 (TX8 2).2.1 (TX8 2).2.2.1 ∈ cr_GW := cr_gw 401 (by decide +kernel) (by decide +kernel)
theorem wf_X8_33 : Cond.fieldLink RX8 33 RX8 (TX8 3).2.1 (TX8 3).2.2.1 ∈ cr_GW := cr_gw 402 (by decide +kernel) (by decide +kernel)
theorem wf_X8_40 : Cond.fieldLink RX8 40 RX8 (TX8 4).2.1 (TX8 4).2.2.1 ∈ cr_GW := cr_gw 403 (by decide +kernel) (by decide +kernel)
theorem wf_X8_47 : Cond.fieldLink RX8 47 RX8 (TX8 5).2.1 (TX8 5).2.2.1 ∈ cr_GW := cr_gw 404 (by decide +kernel) (by decide +kernel)
theorem wf_X8_59 : Cond.fieldLink RX8 59 RX3 (TX3 0).2.1 (TX3 0).2.2.1 ∈ cr_GW := cr_gw 184 (by decide +kernel) (by decide +kernel)
theorem wf_X8_63 : Cond.fieldLink RX8 63 RX2 (TX2 0).2.1 (TX2 0).2.2.1 ∈ cr_GW := cr_gw 159 (by decide +kernel) (by decide +kernel)
theorem wf_X8_69 : Cond.fieldLink RX8 69 RX2 (TX2 1).2.1 (TX2 1).2.2.1 ∈ cr_GW := cr_gw 163 (by decide +kernel) (by decide +kernel)
theorem wf_X8_72 : Cond.fieldLink RX8 72 RX2 (TX2 2).2.1 (TX2 2).2.2.1 ∈ cr_GW := cr_gw 165 (by decide +kernel) (by decide +kernel)
theorem wf_X8_75 : Cond.fieldLink RX8 75 RX2 (TX2 3).2.1 (TX2 3).2.2.1 ∈ cr_GW := cr_gw 167 (by decide +kernel) (by decide +kernel)
theorem wf_X8_78 : Cond.fieldLink RX8 78 RX7 (TX7 1).2.1 (TX7 1).2.2.1 ∈ cr_GW := cr_gw 127 (by decide +kernel) (by decide +kernel)
theorem wf_X8_91 : Cond.fieldLink RX8 91 RX7 (TX7 2).2.1 (TX7 2).2.2.1 ∈ cr_GW := cr_gw 129 (by decide +kernel) (by decide +kernel)
theorem wf_X8_95 : Cond.fieldLink RX8 95 RX2 (TX2 4).2.1 (TX2 4).2.2.1 ∈ cr_GW := cr_gw 170 (by decide +kernel) (by decide +kernel)
theorem wf_X8_98 : Cond.fieldLink RX8 98 RX6 (TX6 0).2.1 (TX6 0).2.2.1 ∈ cr_GW := cr_gw 100 (by decide +kernel) (by decide +kernel)
theorem wf_X8_103 : Cond.fieldLink RX8 103 RX3 (TX3 1).2.1 (TX3 1).2.2.1 ∈ cr_GW := cr_gw 188 (by decide +kernel) (by decide +kernel)
theorem wf_X8_106 : Cond.fieldLink RX8 106 RX3 (TX3 2).2.1 (TX3 2).2.2.1 ∈ cr_GW := cr_gw 190 (by decide +kernel) (by decide +kernel)
theorem wf_X8_110 : Cond.fieldLink RX8 110 "CartRows" "LEAST_SETTING" "[I" ∈ cr_GW := cr_gw 569 (by decide +kernel) (by decide +kernel)
theorem wf_X8_113 : Cond.fieldLink RX8 113 "CartRows" "MOST_SETTING" "[I" ∈ cr_GW := cr_gw 571 (by decide +kernel) (by decide +kernel)
theorem wf_X8_116 : Cond.fieldLink RX8 116 RX3 (TX3 3).2.1 (TX3 3).2.2.1 ∈ cr_GW := cr_gw 194 (by decide +kernel) (by decide +kernel)
theorem wf_X8_119 : Cond.fieldLink RX8 119 RX3 (TX3 5).2.1 (TX3 5).2.2.1 ∈ cr_GW := cr_gw 198 (by decide +kernel) (by decide +kernel)
theorem wf_X8_122 : Cond.fieldLink RX8 122 RX3 (TX3 6).2.1 (TX3 6).2.2.1 ∈ cr_GW := cr_gw 200 (by decide +kernel) (by decide +kernel)
theorem wf_X8_125 : Cond.fieldLink RX8 125 RX3 (TX3 7).2.1 (TX3 7).2.2.1 ∈ cr_GW := cr_gw 202 (by decide +kernel) (by decide +kernel)
theorem wf_X8_128 : Cond.fieldLink RX8 128 RX3 (TX3 4).2.1 (TX3 4).2.2.1 ∈ cr_GW := cr_gw 196 (by decide +kernel) (by decide +kernel)
theorem wf_X8_135 : Cond.fieldLink RX8 135 RX3 (TX3 8).2.1 (TX3 8).2.2.1 ∈ cr_GW := cr_gw 204 (by decide +kernel) (by decide +kernel)
theorem wf_X8_138 : Cond.fieldLink RX8 138 RX3 (TX3 9).2.1 (TX3 9).2.2.1 ∈ cr_GW := cr_gw 206 (by decide +kernel) (by decide +kernel)
theorem wf_X8_141 : Cond.fieldLink RX8 141 RX3 (TX3 10).2.1 (TX3 10).2.2.1 ∈ cr_GW := cr_gw 208 (by decide +kernel) (by decide +kernel)
theorem wf_X8_144 : Cond.fieldLink RX8 144 RX3 (TX3 11).2.1 (TX3 11).2.2.1 ∈ cr_GW := cr_gw 210 (by decide +kernel) (by decide +kernel)
theorem wf_X8_147 : Cond.fieldLink RX8 147 RX3 (TX3 12).2.1 (TX3 12).2.2.1 ∈ cr_GW := cr_gw 212 (by decide +kernel) (by decide +kernel)
theorem wf_X8_153 : Cond.fieldLink RX8 153 RX3 (TX3 13).2.1 (TX3 13).2.2.1 ∈ cr_GW := cr_gw 215 (by decide +kernel) (by decide +kernel)
theorem wf_X8_156 : Cond.fieldLink RX8 156 RX3 (TX3 14).2.1 (TX3 14).2.2.1 ∈ cr_GW := cr_gw 218 (by decide +kernel) (by decide +kernel)
theorem wf_X8_159 : Cond.fieldLink RX8 159 RX3 (TX3 15).2.1 (TX3 15).2.2.1 ∈ cr_GW := cr_gw 220 (by decide +kernel) (by decide +kernel)
theorem wf_X8_162 : Cond.fieldLink RX8 162 RX3 (TX3 16).2.1 (TX3 16).2.2.1 ∈ cr_GW := cr_gw 223 (by decide +kernel) (by decide +kernel)
theorem wf_X8_172 : Cond.fieldLink RX8 172 RX4 (TX4 0).2.1 (TX4 0).2.2.1 ∈ cr_GW := cr_gw 267 (by decide +kernel) (by decide +kernel)
theorem wf_X8_176 : Cond.fieldLink RX8 176 RX4 (TX4 1).2.1 (TX4 1).2.2.1 ∈ cr_GW := cr_gw 269 (by decide +kernel) (by decide +kernel)
theorem wf_X8_179 : Cond.fieldLink RX8 179 RX4 (TX4 2).2.1 (TX4 2).2.2.1 ∈ cr_GW := cr_gw 271 (by decide +kernel) (by decide +kernel)
theorem wf_X8_182 : Cond.fieldLink RX8 182 RX4 (TX4 3).2.1 (TX4 3).2.2.1 ∈ cr_GW := cr_gw 273 (by decide +kernel) (by decide +kernel)
theorem wf_X8_185 : Cond.fieldLink RX8 185 RX4 (TX4 4).2.1 (TX4 4).2.2.1 ∈ cr_GW := cr_gw 275 (by decide +kernel) (by decide +kernel)
theorem wf_X8_188 : Cond.fieldLink RX8 188 RX4 (TX4 5).2.1 (TX4 5).2.2.1 ∈ cr_GW := cr_gw 277 (by decide +kernel) (by decide +kernel)
theorem wf_X8_191 : Cond.fieldLink RX8 191 RX4 (TX4 6).2.1 (TX4 6).2.2.1 ∈ cr_GW := cr_gw 279 (by decide +kernel) (by decide +kernel)
theorem wf_X8_194 : Cond.fieldLink RX8 194 RX4 (TX4 7).2.1 (TX4 7).2.2.1 ∈ cr_GW := cr_gw 281 (by decide +kernel) (by decide +kernel)
theorem wf_X8_227 : Cond.fieldLink RX8 227 RX1 (TX1 0).2.1 (TX1 0).2.2.1 ∈ cr_GW := cr_gw 312 (by decide +kernel) (by decide +kernel)
theorem wf_X8_230 : Cond.fieldLink RX8 230 RX1 (TX1 1).2.1 (TX1 1).2.2.1 ∈ cr_GW := cr_gw 314 (by decide +kernel) (by decide +kernel)
theorem wf_X8_233 : Cond.fieldLink RX8 233 RX1 (TX1 2).2.1 (TX1 2).2.2.1 ∈ cr_GW := cr_gw 316 (by decide +kernel) (by decide +kernel)
theorem wf_X8_236 : Cond.fieldLink RX8 236 RX1 (TX1 3).2.1 (TX1 3).2.2.1 ∈ cr_GW := cr_gw 318 (by decide +kernel) (by decide +kernel)
theorem wf_X8_239 : Cond.fieldLink RX8 239 RX1 (TX1 4).2.1 (TX1 4).2.2.1 ∈ cr_GW := cr_gw 320 (by decide +kernel) (by decide +kernel)
theorem wf_X8_242 : Cond.fieldLink RX8 242 RX1 (TX1 5).2.1 (TX1 5).2.2.1 ∈ cr_GW := cr_gw 322 (by decide +kernel) (by decide +kernel)
theorem wf_X8_249 : Cond.fieldLink RX8 249 RX1 (TX1 7).2.1 (TX1 7).2.2.1 ∈ cr_GW := cr_gw 326 (by decide +kernel) (by decide +kernel)
theorem wf_X8_252 : Cond.fieldLink RX8 252 RX1 (TX1 6).2.1 (TX1 6).2.2.1 ∈ cr_GW := cr_gw 324 (by decide +kernel) (by decide +kernel)
theorem wf_X8_261 : Cond.fieldLink RX8 261 RX5 (TX5 0).2.1 (TX5 0).2.2.1 ∈ cr_GW := cr_gw 352 (by decide +kernel) (by decide +kernel)
theorem wf_X8_279 : Cond.fieldLink RX8 279 RX0 (TX0 0).2.1 (TX0 0).2.2.1 ∈ cr_GW := cr_gw 364 (by decide +kernel) (by decide +kernel)
theorem wf_X8_282 : Cond.fieldLink RX8 282 RX0 (TX0 1).2.1 (TX0 1).2.2.1 ∈ cr_GW := cr_gw 366 (by decide +kernel) (by decide +kernel)
theorem wf_X8_285 : Cond.fieldLink RX8 285 RX0 (TX0 2).2.1 (TX0 2).2.2.1 ∈ cr_GW := cr_gw 368 (by decide +kernel) (by decide +kernel)
theorem wf_X8_288 : Cond.fieldLink RX8 288 RX0 (TX0 3).2.1 (TX0 3).2.2.1 ∈ cr_GW := cr_gw 370 (by decide +kernel) (by decide +kernel)
theorem wf_X8_294 : Cond.fieldLink RX8 294 RX0 (TX0 4).2.1 (TX0 4).2.2.1 ∈ cr_GW := cr_gw 372 (by decide +kernel) (by decide +kernel)
theorem wf_X8_297 : Cond.fieldLink RX8 297 RX0 (TX0 5).2.1 (TX0 5).2.2.1 ∈ cr_GW := cr_gw 374 (by decide +kernel) (by decide +kernel)
theorem wf_X8_300 : Cond.fieldLink RX8 300 RX0 (TX0 6).2.1 (TX0 6).2.2.1 ∈ cr_GW := cr_gw 376 (by decide +kernel) (by decide +kernel)
theorem wf_X8_303 : Cond.fieldLink RX8 303 RX0 (TX0 7).2.1 (TX0 7).2.2.1 ∈ cr_GW := cr_gw 378 (by decide +kernel) (by decide +kernel)
theorem wf_X0_9 : Cond.fieldLink RX0 9 RX0 (TX0 0).2.1 (TX0 0).2.2.1 ∈ cr_GW := cr_gw 363 (by decide +kernel) (by decide +kernel)
theorem wf_X0_15 : Cond.fieldLink RX0 15 RX0 (TX0 1).2.1 (TX0 1).2.2.1 ∈ cr_GW := cr_gw 365 (by decide +kernel) (by decide +kernel)
theorem wf_X0_19 : Cond.fieldLink RX0 19 RX0 (TX0 2).2.1 (TX0 2).2.2.1 ∈ cr_GW := cr_gw 367 (by decide +kernel) (by decide +kernel)
theorem wf_X0_22 : Cond.fieldLink RX0 22 RX0 (TX0 3).2.1 (TX0 3).2.2.1 ∈ cr_GW := cr_gw 369 (by decide +kernel) (by decide +kernel)
theorem wf_X0_25 : Cond.fieldLink RX0 25 RX0 (TX0 4).2.1 (TX0 4).2.2.1 ∈ cr_GW := cr_gw 371 (by decide +kernel) (by decide +kernel)
theorem wf_X0_28 : Cond.fieldLink RX0 28 RX0 (TX0 5).2.1 (TX0 5).2.2.1 ∈ cr_GW := cr_gw 373 (by decide +kernel) (by decide +kernel)
theorem wf_X0_31 : Cond.fieldLink RX0 31 RX0 (TX0 6).2.1 (TX0 6).2.2.1 ∈ cr_GW := cr_gw 375 (by decide +kernel) (by decide +kernel)
theorem wf_X0_34 : Cond.fieldLink RX0 34 RX0 (TX0 7).2.1 (TX0 7).2.2.1 ∈ cr_GW := cr_gw 377 (by decide +kernel) (by decide +kernel)
theorem wf_X0_39 : Cond.fieldLink RX0 39 RX0 (TX0 8).2.1 (TX0 8).2.2.1 ∈ cr_GW := cr_gw 379 (by decide +kernel) (by decide +kernel)
theorem wf_X1_9 : Cond.fieldLink RX1 9 RX1 (TX1 0).2.1 (TX1 0).2.2.1 ∈ cr_GW := cr_gw 311 (by decide +kernel) (by decide +kernel)
theorem wf_X1_15 : Cond.fieldLink RX1 15 RX1 (TX1 1).2.1 (TX1 1).2.2.1 ∈ cr_GW := cr_gw 313 (by decide +kernel) (by decide +kernel)
theorem wf_X1_19 : Cond.fieldLink RX1 19 RX1 (TX1 2).2.1 (TX1 2).2.2.1 ∈ cr_GW := cr_gw 315 (by decide +kernel) (by decide +kernel)
theorem wf_X1_22 : Cond.fieldLink RX1 22 RX1 (TX1 3).2.1 (TX1 3).2.2.1 ∈ cr_GW := cr_gw 317 (by decide +kernel) (by decide +kernel)
theorem wf_X1_25 : Cond.fieldLink RX1 25 RX1 (TX1 4).2.1 (TX1 4).2.2.1 ∈ cr_GW := cr_gw 319 (by decide +kernel) (by decide +kernel)
theorem wf_X1_28 : Cond.fieldLink RX1 28 RX1 (TX1 5).2.1 (TX1 5).2.2.1 ∈ cr_GW := cr_gw 321 (by decide +kernel) (by decide +kernel)
theorem wf_X1_31 : Cond.fieldLink RX1 31 RX1 (TX1 6).2.1 (TX1 6).2.2.1 ∈ cr_GW := cr_gw 323 (by decide +kernel) (by decide +kernel)
theorem wf_X1_34 : Cond.fieldLink RX1 34 RX1 (TX1 7).2.1 (TX1 7).2.2.1 ∈ cr_GW := cr_gw 325 (by decide +kernel) (by decide +kernel)
theorem wf_X1_37 : Cond.fieldLink RX1 37 RX3 (TX3 3).2.1 (TX3 3).2.2.1 ∈ cr_GW := cr_gw 192 (by decide +kernel) (by decide +kernel)
theorem wf_X1_46 : Cond.fieldLink RX1 46 RX3 (TX3 0).2.1 (TX3 0).2.2.1 ∈ cr_GW := cr_gw 185 (by decide +kernel) (by decide +kernel)
theorem wf_X1_50 : Cond.fieldLink RX1 50 RX2 (TX2 0).2.1 (TX2 0).2.2.1 ∈ cr_GW := cr_gw 160 (by decide +kernel) (by decide +kernel)
theorem wf_X2_7 : Cond.fieldLink RX2 7 RX2 (TX2 0).2.1 (TX2 0).2.2.1 ∈ cr_GW := cr_gw 158 (by decide +kernel) (by decide +kernel)
theorem wf_X2_13 : Cond.fieldLink RX2 13 RX2 (TX2 1).2.1 (TX2 1).2.2.1 ∈ cr_GW := cr_gw 162 (by decide +kernel) (by decide +kernel)
theorem wf_X2_16 : Cond.fieldLink RX2 16 RX2 (TX2 2).2.1 (TX2 2).2.2.1 ∈ cr_GW := cr_gw 164 (by decide +kernel) (by decide +kernel)
theorem wf_X2_19 : Cond.fieldLink RX2 19 RX2 (TX2 3).2.1 (TX2 3).2.2.1 ∈ cr_GW := cr_gw 166 (by decide +kernel) (by decide +kernel)
theorem wf_X2_25 : Cond.fieldLink RX2 25 RX2 (TX2 4).2.1 (TX2 4).2.2.1 ∈ cr_GW := cr_gw 169 (by decide +kernel) (by decide +kernel)
theorem wf_X3_12 : Cond.fieldLink RX3 12 RX3 (TX3 0).2.1 (TX3 0).2.2.1 ∈ cr_GW := cr_gw 183 (by decide +kernel) (by decide +kernel)
theorem wf_X3_18 : Cond.fieldLink RX3 18 RX3 (TX3 1).2.1 (TX3 1).2.2.1 ∈ cr_GW := cr_gw 186 (by decide +kernel) (by decide +kernel)
theorem wf_X3_22 : Cond.fieldLink RX3 22 RX3 (TX3 2).2.1 (TX3 2).2.2.1 ∈ cr_GW := cr_gw 189 (by decide +kernel) (by decide +kernel)
theorem wf_X3_26 : Cond.fieldLink RX3 26 RX3 (TX3 3).2.1 (TX3 3).2.2.1 ∈ cr_GW := cr_gw 191 (by decide +kernel) (by decide +kernel)
theorem wf_X3_29 : Cond.fieldLink RX3 29 RX3 (TX3 4).2.1 (TX3 4).2.2.1 ∈ cr_GW := cr_gw 195 (by decide +kernel) (by decide +kernel)
theorem wf_X3_32 : Cond.fieldLink RX3 32 RX3 (TX3 5).2.1 (TX3 5).2.2.1 ∈ cr_GW := cr_gw 197 (by decide +kernel) (by decide +kernel)
theorem wf_X3_35 : Cond.fieldLink RX3 35 RX3 (TX3 6).2.1 (TX3 6).2.2.1 ∈ cr_GW := cr_gw 199 (by decide +kernel) (by decide +kernel)
theorem wf_X3_38 : Cond.fieldLink RX3 38 RX3 (TX3 7).2.1 (TX3 7).2.2.1 ∈ cr_GW := cr_gw 201 (by decide +kernel) (by decide +kernel)
theorem wf_X3_41 : Cond.fieldLink RX3 41 RX3 (TX3 8).2.1 (TX3 8).2.2.1 ∈ cr_GW := cr_gw 203 (by decide +kernel) (by decide +kernel)
theorem wf_X3_44 : Cond.fieldLink RX3 44 RX3 (TX3 9).2.1 (TX3 9).2.2.1 ∈ cr_GW := cr_gw 205 (by decide +kernel) (by decide +kernel)
theorem wf_X3_47 : Cond.fieldLink RX3 47 RX3 (TX3 10).2.1 (TX3 10).2.2.1 ∈ cr_GW := cr_gw 207 (by decide +kernel) (by decide +kernel)
theorem wf_X3_50 : Cond.fieldLink RX3 50 RX3 (TX3 11).2.1 (TX3 11).2.2.1 ∈ cr_GW := cr_gw 209 (by decide +kernel) (by decide +kernel)
theorem wf_X3_53 : Cond.fieldLink RX3 53 RX3 (TX3 12).2.1 (TX3 12).2.2.1 ∈ cr_GW := cr_gw 211 (by decide +kernel) (by decide +kernel)
theorem wf_X3_56 : Cond.fieldLink RX3 56 RX3 (TX3 13).2.1 (TX3 13).2.2.1 ∈ cr_GW := cr_gw 213 (by decide +kernel) (by decide +kernel)
theorem wf_X3_59 : Cond.fieldLink RX3 59 RX3 (TX3 14).2.1 (TX3 14).2.2.1 ∈ cr_GW := cr_gw 216 (by decide +kernel) (by decide +kernel)
theorem wf_X3_62 : Cond.fieldLink RX3 62 RX3 (TX3 15).2.1 (TX3 15).2.2.1 ∈ cr_GW := cr_gw 219 (by decide +kernel) (by decide +kernel)
theorem wf_X3_65 : Cond.fieldLink RX3 65 RX3 (TX3 16).2.1 (TX3 16).2.2.1 ∈ cr_GW := cr_gw 221 (by decide +kernel) (by decide +kernel)
theorem wf_X4_11 : Cond.fieldLink RX4 11 RX4 (TX4 0).2.1 (TX4 0).2.2.1 ∈ cr_GW := cr_gw 266 (by decide +kernel) (by decide +kernel)
theorem wf_X4_16 : Cond.fieldLink RX4 16 RX4 (TX4 1).2.1 (TX4 1).2.2.1 ∈ cr_GW := cr_gw 268 (by decide +kernel) (by decide +kernel)
theorem wf_X4_19 : Cond.fieldLink RX4 19 RX4 (TX4 2).2.1 (TX4 2).2.2.1 ∈ cr_GW := cr_gw 270 (by decide +kernel) (by decide +kernel)
theorem wf_X4_22 : Cond.fieldLink RX4 22 RX4 (TX4 3).2.1 (TX4 3).2.2.1 ∈ cr_GW := cr_gw 272 (by decide +kernel) (by decide +kernel)
theorem wf_X4_25 : Cond.fieldLink RX4 25 RX4 (TX4 4).2.1 (TX4 4).2.2.1 ∈ cr_GW := cr_gw 274 (by decide +kernel) (by decide +kernel)
theorem wf_X4_29 : Cond.fieldLink RX4 29 RX4 (TX4 5).2.1 (TX4 5).2.2.1 ∈ cr_GW := cr_gw 276 (by decide +kernel) (by decide +kernel)
theorem wf_X4_32 : Cond.fieldLink RX4 32 RX4 (TX4 6).2.1 (TX4 6).2.2.1 ∈ cr_GW := cr_gw 278 (by decide +kernel) (by decide +kernel)
theorem wf_X4_36 : Cond.fieldLink RX4 36 RX4 (TX4 7).2.1 (TX4 7).2.2.1 ∈ cr_GW := cr_gw 280 (by decide +kernel) (by decide +kernel)
theorem wf_X4_39 : Cond.fieldLink RX4 39 RX4 (TX4 8).2.1 (TX4 8).2.2.1 ∈ cr_GW := cr_gw 282 (by decide +kernel) (by decide +kernel)
theorem wf_X4_42 : Cond.fieldLink RX4 42 RX4 (TX4 9).2.1 (TX4 9).2.2.1 ∈ cr_GW := cr_gw 283 (by decide +kernel) (by decide +kernel)
theorem wf_X4_69 : Cond.fieldLink RX4 69 RX3 (TX3 1).2.1 (TX3 1).2.2.1 ∈ cr_GW := cr_gw 187 (by decide +kernel) (by decide +kernel)
theorem wf_X4_78 : Cond.fieldLink RX4 78 RX2 (TX2 0).2.1 (TX2 0).2.2.1 ∈ cr_GW := cr_gw 161 (by decide +kernel) (by decide +kernel)
theorem wf_X4_83 : Cond.fieldLink RX4 83 RX3 (TX3 3).2.1 (TX3 3).2.2.1 ∈ cr_GW := cr_gw 193 (by decide +kernel) (by decide +kernel)
theorem wf_X4_86 : Cond.fieldLink RX4 86 RX3 (TX3 14).2.1 (TX3 14).2.2.1 ∈ cr_GW := cr_gw 217 (by decide +kernel) (by decide +kernel)
theorem wf_X4_106 : Cond.fieldLink RX4 106 RX2 (TX2 4).2.1 (TX2 4).2.2.1 ∈ cr_GW := cr_gw 171 (by decide +kernel) (by decide +kernel)
theorem wf_X4_126 : Cond.fieldLink RX4 126 RX3 (TX3 13).2.1 (TX3 13).2.2.1 ∈ cr_GW := cr_gw 214 (by decide +kernel) (by decide +kernel)
theorem wf_X4_136 : Cond.fieldLink RX4 136 RX3 (TX3 16).2.1 (TX3 16).2.2.1 ∈ cr_GW := cr_gw 222 (by decide +kernel) (by decide +kernel)
theorem wf_X4_139 : Cond.fieldLink RX4 139 RX2 (TX2 3).2.1 (TX2 3).2.2.1 ∈ cr_GW := cr_gw 168 (by decide +kernel) (by decide +kernel)
theorem wf_X5_11 : Cond.fieldLink RX5 11 RX5 (TX5 0).2.1 (TX5 0).2.2.1 ∈ cr_GW := cr_gw 351 (by decide +kernel) (by decide +kernel)
theorem wf_X6_9 : Cond.fieldLink RX6 9 RX6 (TX6 0).2.1 (TX6 0).2.2.1 ∈ cr_GW := cr_gw 98 (by decide +kernel) (by decide +kernel)
theorem wf_X6_15 : Cond.fieldLink RX6 15 RX6 (TX6 1).2.1 (TX6 1).2.2.1 ∈ cr_GW := cr_gw 101 (by decide +kernel) (by decide +kernel)
theorem wf_X6_19 : Cond.fieldLink RX6 19 RX6 (TX6 2).2.1 (TX6 2).2.2.1 ∈ cr_GW := cr_gw 103 (by decide +kernel) (by decide +kernel)
theorem wf_X6_24 : Cond.fieldLink RX6 24 RX6 (TX6 3).2.1 (TX6 3).2.2.1 ∈ cr_GW := cr_gw 105 (by decide +kernel) (by decide +kernel)
theorem wf_X6_27 : Cond.fieldLink RX6 27 RX6 (TX6 4).2.1 (TX6 4).2.2.1 ∈ cr_GW := cr_gw 107 (by decide +kernel) (by decide +kernel)
theorem wf_X6_30 : Cond.fieldLink RX6 30 RX6 (TX6 5).2.1 (TX6 5).2.2.1 ∈ cr_GW := cr_gw 109 (by decide +kernel) (by decide +kernel)
theorem wf_X7_9 : Cond.fieldLink RX7 9 RX7 (TX7 0).2.1 (TX7 0).2.2.1 ∈ cr_GW := cr_gw 125 (by decide +kernel) (by decide +kernel)
theorem wf_X7_15 : Cond.fieldLink RX7 15 RX7 (TX7 1).2.1 (TX7 1).2.2.1 ∈ cr_GW := cr_gw 126 (by decide +kernel) (by decide +kernel)
theorem wf_X7_22 : Cond.fieldLink RX7 22 RX7 (TX7 2).2.1 (TX7 2).2.2.1 ∈ cr_GW := cr_gw 128 (by decide +kernel) (by decide +kernel)
theorem wf_X7_26 : Cond.fieldLink RX7 26 RX7 (TX7 3).2.1 (TX7 3).2.2.1 ∈ cr_GW := cr_gw 130 (by decide +kernel) (by decide +kernel)
theorem wf_X7_29 : Cond.fieldLink RX7 29 RX7 (TX7 4).2.1 (TX7 4).2.2.1 ∈ cr_GW := cr_gw 131 (by decide +kernel) (by decide +kernel)
theorem wf_X7_43 : Cond.fieldLink RX7 43 RX6 (TX6 0).2.1 (TX6 0).2.2.1 ∈ cr_GW := cr_gw 99 (by decide +kernel) (by decide +kernel)
theorem wf_X7_49 : Cond.fieldLink RX7 49 RX6 (TX6 2).2.1 (TX6 2).2.2.1 ∈ cr_GW := cr_gw 104 (by decide +kernel) (by decide +kernel)
theorem wf_X7_69 : Cond.fieldLink RX7 69 RX6 (TX6 1).2.1 (TX6 1).2.2.1 ∈ cr_GW := cr_gw 102 (by decide +kernel) (by decide +kernel)
theorem wf_X7_86 : Cond.fieldLink RX7 86 RX6 (TX6 3).2.1 (TX6 3).2.2.1 ∈ cr_GW := cr_gw 106 (by decide +kernel) (by decide +kernel)
theorem wf_X7_94 : Cond.fieldLink RX7 94 RX6 (TX6 5).2.1 (TX6 5).2.2.1 ∈ cr_GW := cr_gw 110 (by decide +kernel) (by decide +kernel)
theorem wf_X7_96 : Cond.fieldLink RX7 96 RX6 (TX6 4).2.1 (TX6 4).2.2.1 ∈ cr_GW := cr_gw 108 (by decide +kernel) (by decide +kernel)
theorem wf_X9_7 : Cond.fieldLink RX9 7 RX9 (TX9 0).2.1 (TX9 0).2.2.1 ∈ cr_GW := cr_gw 913 (by decide +kernel) (by decide +kernel)
theorem wf_X9_13 : Cond.fieldLink RX9 13 RX9 (TX9 1).2.1 (TX9 1).2.2.1 ∈ cr_GW := cr_gw 914 (by decide +kernel) (by decide +kernel)
theorem wf_X9_16 : Cond.fieldLink RX9 16 RX9 (TX9 2).2.1 (TX9 2).2.2.1 ∈ cr_GW := cr_gw 915 (by decide +kernel) (by decide +kernel)
theorem wf_X9_19 : Cond.fieldLink RX9 19 RX9 (TX9 3).2.1 (TX9 3).2.2.1 ∈ cr_GW := cr_gw 916 (by decide +kernel) (by decide +kernel)
theorem wf_X9_22 : Cond.fieldLink RX9 22 RX9 (TX9 4).2.1 (TX9 4).2.2.1 ∈ cr_GW := cr_gw 917 (by decide +kernel) (by decide +kernel)
theorem wf_X9_25 : Cond.fieldLink RX9 25 RX9 (TX9 6).2.1 (TX9 6).2.2.1 ∈ cr_GW := cr_gw 919 (by decide +kernel) (by decide +kernel)
theorem wf_X9_28 : Cond.fieldLink RX9 28 RX9 (TX9 7).2.1 (TX9 7).2.2.1 ∈ cr_GW := cr_gw 920 (by decide +kernel) (by decide +kernel)
theorem wf_X9_31 : Cond.fieldLink RX9 31 RX9 (TX9 8).2.1 (TX9 8).2.2.1 ∈ cr_GW := cr_gw 921 (by decide +kernel) (by decide +kernel)
theorem wf_X9_34 : Cond.fieldLink RX9 34 RX9 (TX9 9).2.1 (TX9 9).2.2.1 ∈ cr_GW := cr_gw 922 (by decide +kernel) (by decide +kernel)
theorem wf_X9_37 : Cond.fieldLink RX9 37 RX9 (TX9 10).2.1 (TX9 10).2.2.1 ∈ cr_GW := cr_gw 923 (by decide +kernel) (by decide +kernel)
theorem wf_X9_40 : Cond.fieldLink RX9 40 RX9 (TX9 11).2.1 (TX9 11).2.2.1 ∈ cr_GW := cr_gw 924 (by decide +kernel) (by decide +kernel)
theorem wf_X9_43 : Cond.fieldLink RX9 43 RX9 (TX9 12).2.1 (TX9 12).2.2.1 ∈ cr_GW := cr_gw 925 (by decide +kernel) (by decide +kernel)
theorem wf_X9_46 : Cond.fieldLink RX9 46 RX9 (TX9 13).2.1 (TX9 13).2.2.1 ∈ cr_GW := cr_gw 926 (by decide +kernel) (by decide +kernel)
theorem wf_X9_50 : Cond.fieldLink RX9 50 RX9 (TX9 14).2.1 (TX9 14).2.2.1 ∈ cr_GW := cr_gw 927 (by decide +kernel) (by decide +kernel)
theorem wf_X9_53 : Cond.fieldLink RX9 53 RX9 (TX9 15).2.1 (TX9 15).2.2.1 ∈ cr_GW := cr_gw 928 (by decide +kernel) (by decide +kernel)
theorem wf_X9_56 : Cond.fieldLink RX9 56 RX9 (TX9 16).2.1 (TX9 16).2.2.1 ∈ cr_GW := cr_gw 929 (by decide +kernel) (by decide +kernel)
theorem wf_X9_59 : Cond.fieldLink RX9 59 RX9 (TX9 17).2.1 (TX9 17).2.2.1 ∈ cr_GW := cr_gw 930 (by decide +kernel) (by decide +kernel)
theorem wf_X9_62 : Cond.fieldLink RX9 62 RX9 (TX9 20).2.1 (TX9 20).2.2.1 ∈ cr_GW := cr_gw 933 (by decide +kernel) (by decide +kernel)
theorem wf_X9_65 : Cond.fieldLink RX9 65 RX9 (TX9 21).2.1 (TX9 21).2.2.1 ∈ cr_GW := cr_gw 934 (by decide +kernel) (by decide +kernel)
theorem wf_X9_68 : Cond.fieldLink RX9 68 RX9 (TX9 22).2.1 (TX9 22).2.2.1 ∈ cr_GW := cr_gw 935 (by decide +kernel) (by decide +kernel)
theorem wf_X9_71 : Cond.fieldLink RX9 71 RX9 (TX9 23).2.1 (TX9 23).2.2.1 ∈ cr_GW := cr_gw 936 (by decide +kernel) (by decide +kernel)
theorem wf_X9_74 : Cond.fieldLink RX9 74 RX9 (TX9 29).2.1 (TX9 29).2.2.1 ∈ cr_GW := cr_gw 942 (by decide +kernel) (by decide +kernel)
theorem wf_X9_77 : Cond.fieldLink RX9 77 RX9 (TX9 30).2.1 (TX9 30).2.2.1 ∈ cr_GW := cr_gw 943 (by decide +kernel) (by decide +kernel)
theorem wf_X9_80 : Cond.fieldLink RX9 80 RX9 (TX9 31).2.1 (TX9 31).2.2.1 ∈ cr_GW := cr_gw 944 (by decide +kernel) (by decide +kernel)
theorem wf_X9_83 : Cond.fieldLink RX9 83 RX9 (TX9 32).2.1 (TX9 32).2.2.1 ∈ cr_GW := cr_gw 945 (by decide +kernel) (by decide +kernel)
theorem wf_X9_86 : Cond.fieldLink RX9 86 RX9 (TX9 33).2.1 (TX9 33).2.2.1 ∈ cr_GW := cr_gw 946 (by decide +kernel) (by decide +kernel)
theorem wf_X9_89 : Cond.fieldLink RX9 89 RX9 (TX9 35).2.1 (TX9 35).2.2.1 ∈ cr_GW := cr_gw 948 (by decide +kernel) (by decide +kernel)
theorem wf_X9_92 : Cond.fieldLink RX9 92 RX9 (TX9 36).2.1 (TX9 36).2.2.1 ∈ cr_GW := cr_gw 949 (by decide +kernel) (by decide +kernel)
theorem wf_X9_95 : Cond.fieldLink RX9 95 RX9 (TX9 37).2.1 (TX9 37).2.2.1 ∈ cr_GW := cr_gw 950 (by decide +kernel) (by decide +kernel)
theorem wf_X9_98 : Cond.fieldLink RX9 98 RX9 (TX9 38).2.1 (TX9 38).2.2.1 ∈ cr_GW := cr_gw 951 (by decide +kernel) (by decide +kernel)
theorem wf_X9_101 : Cond.fieldLink RX9 101 RX9 (TX9 40).2.1 (TX9 40).2.2.1 ∈ cr_GW := cr_gw 953 (by decide +kernel) (by decide +kernel)
theorem wf_X9_104 : Cond.fieldLink RX9 104 RX9 (TX9 41).2.1 (TX9 41).2.2.1 ∈ cr_GW := cr_gw 954 (by decide +kernel) (by decide +kernel)
theorem wf_X9_107 : Cond.fieldLink RX9 107 RX9 (TX9 42).2.1 (TX9 42).2.2.1 ∈ cr_GW := cr_gw 955 (by decide +kernel) (by decide +kernel)
theorem wf_X9_110 : Cond.fieldLink RX9 110 RX9 (TX9 48).2.1 (TX9 48).2.2.1 ∈ cr_GW := cr_gw 961 (by decide +kernel) (by decide +kernel)
theorem wf_X9_113 : Cond.fieldLink RX9 113 RX9 (TX9 49).2.1 (TX9 49).2.2.1 ∈ cr_GW := cr_gw 962 (by decide +kernel) (by decide +kernel)
theorem wf_X9_116 : Cond.fieldLink RX9 116 RX9 (TX9 50).2.1 (TX9 50).2.2.1 ∈ cr_GW := cr_gw 963 (by decide +kernel) (by decide +kernel)
theorem wf_X9_119 : Cond.fieldLink RX9 119 RX9 (TX9 51).2.1 (TX9 51).2.2.1 ∈ cr_GW := cr_gw 964 (by decide +kernel) (by decide +kernel)
theorem wf_X9_122 : Cond.fieldLink RX9 122 RX9 (TX9 52).2.1 (TX9 52).2.2.1 ∈ cr_GW := cr_gw 965 (by decide +kernel) (by decide +kernel)
theorem wf_X9_125 : Cond.fieldLink RX9 125 RX9 (TX9 53).2.1 (TX9 53).2.2.1 ∈ cr_GW := cr_gw 966 (by decide +kernel) (by decide +kernel)
theorem wf_X9_128 : Cond.fieldLink RX9 128 RX9 (TX9 54).2.1 (TX9 54).2.2.1 ∈ cr_GW := cr_gw 967 (by decide +kernel) (by decide +kernel)
theorem wf_X9_131 : Cond.fieldLink RX9 131 RX9 (TX9 57).2.1 (TX9 57).2.2.1 ∈ cr_GW := cr_gw 970 (by decide +kernel) (by decide +kernel)
theorem wf_X9_134 : Cond.fieldLink RX9 134 RX9 (TX9 58).2.1 (TX9 58).2.2.1 ∈ cr_GW := cr_gw 971 (by decide +kernel) (by decide +kernel)
theorem wf_X9_137 : Cond.fieldLink RX9 137 RX9 (TX9 59).2.1 (TX9 59).2.2.1 ∈ cr_GW := cr_gw 972 (by decide +kernel) (by decide +kernel)
theorem wf_X9_140 : Cond.fieldLink RX9 140 RX9 (TX9 61).2.1 (TX9 61).2.2.1 ∈ cr_GW := cr_gw 974 (by decide +kernel) (by decide +kernel)
theorem wf_X9_143 : Cond.fieldLink RX9 143 RX9 (TX9 62).2.1 (TX9 62).2.2.1 ∈ cr_GW := cr_gw 975 (by decide +kernel) (by decide +kernel)
theorem wf_X9_146 : Cond.fieldLink RX9 146 RX9 (TX9 63).2.1 (TX9 63).2.2.1 ∈ cr_GW := cr_gw 976 (by decide +kernel) (by decide +kernel)
theorem wf_X9_149 : Cond.fieldLink RX9 149 RX9 (TX9 64).2.1 (TX9 64).2.2.1 ∈ cr_GW := cr_gw 977 (by decide +kernel) (by decide +kernel)
theorem wf_X9_170 : Cond.fieldLink RX9 170 RX9 (TX9 5).2.1 (TX9 5).2.2.1 ∈ cr_GW := cr_gw 918 (by decide +kernel) (by decide +kernel)
theorem wf_X9_175 : Cond.fieldLink RX9 175 RX9 (TX9 44).2.1 (TX9 44).2.2.1 ∈ cr_GW := cr_gw 957 (by decide +kernel) (by decide +kernel)
theorem wf_X9_178 : Cond.fieldLink RX9 178 RX9 (TX9 45).2.1 (TX9 45).2.2.1 ∈ cr_GW := cr_gw 958 (by decide +kernel) (by decide +kernel)
theorem wf_X9_185 : Cond.fieldLink RX9 185 RX9 (TX9 46).2.1 (TX9 46).2.2.1 ∈ cr_GW := cr_gw 959 (by decide +kernel) (by decide +kernel)
theorem wf_X9_197 : Cond.fieldLink RX9 197 RX9 (TX9 47).2.1 (TX9 47).2.2.1 ∈ cr_GW := cr_gw 960 (by decide +kernel) (by decide +kernel)
theorem wf_X9_254 : Cond.fieldLink RX9 254 RX9 (TX9 18).2.1 (TX9 18).2.2.1 ∈ cr_GW := cr_gw 931 (by decide +kernel) (by decide +kernel)
theorem wf_X9_257 : Cond.fieldLink RX9 257 RX9 (TX9 19).2.1 (TX9 19).2.2.1 ∈ cr_GW := cr_gw 932 (by decide +kernel) (by decide +kernel)
theorem wf_X9_262 : Cond.fieldLink RX9 262 RX9 (TX9 24).2.1 (TX9 24).2.2.1 ∈ cr_GW := cr_gw 937 (by decide +kernel) (by decide +kernel)
theorem wf_X9_268 : Cond.fieldLink RX9 268 RX9 (TX9 25).2.1 (TX9 25).2.2.1 ∈ cr_GW := cr_gw 938 (by decide +kernel) (by decide +kernel)
theorem wf_X9_271 : Cond.fieldLink RX9 271 RX9 (TX9 26).2.1 (TX9 26).2.2.1 ∈ cr_GW := cr_gw 939 (by decide +kernel) (by decide +kernel)
theorem wf_X9_274 : Cond.fieldLink RX9 274 RX9 (TX9 27).2.1 (TX9 27).2.2.1 ∈ cr_GW := cr_gw 940 (by decide +kernel) (by decide +kernel)
theorem wf_X9_277 : Cond.fieldLink RX9 277 RX9 (TX9 28).2.1 (TX9 28).2.2.1 ∈ cr_GW := cr_gw 941 (by decide +kernel) (by decide +kernel)
theorem wf_X9_284 : Cond.fieldLink RX9 284 RX9 (TX9 55).2.1 (TX9 55).2.2.1 ∈ cr_GW := cr_gw 968 (by decide +kernel) (by decide +kernel)
theorem wf_X9_287 : Cond.fieldLink RX9 287 RX9 (TX9 56).2.1 (TX9 56).2.2.1 ∈ cr_GW := cr_gw 969 (by decide +kernel) (by decide +kernel)
theorem wf_X9_302 : Cond.fieldLink RX9 302 RX9 (TX9 60).2.1 (TX9 60).2.2.1 ∈ cr_GW := cr_gw 973 (by decide +kernel) (by decide +kernel)
theorem wf_X9_340 : Cond.fieldLink RX9 340 RX9 (TX9 34).2.1 (TX9 34).2.2.1 ∈ cr_GW := cr_gw 947 (by decide +kernel) (by decide +kernel)
theorem wf_X9_380 : Cond.fieldLink RX9 380 RX9 (TX9 39).2.1 (TX9 39).2.2.1 ∈ cr_GW := cr_gw 952 (by decide +kernel) (by decide +kernel)
theorem wf_X9_386 : Cond.fieldLink RX9 386 RX9 (TX9 43).2.1 (TX9 43).2.2.1 ∈ cr_GW := cr_gw 956 (by decide +kernel) (by decide +kernel)
theorem wf_J0_9 : Cond.fieldLink RJ0 9 "java/lang/String" "value" "[B" ∈ cr_GW := cr_gw 1417 (by decide +kernel) (by decide +kernel)
theorem wf_J0_15 : Cond.fieldLink RJ0 15 "java/lang/String" "coder" "B" ∈ cr_GW := cr_gw 1418 (by decide +kernel) (by decide +kernel)
theorem wf_J0_38 : Cond.fieldLink RJ0 38 "java/lang/String" "COMPACT_STRINGS" "Z" ∈ cr_GW := cr_gw 484 (by decide +kernel) (by decide +kernel)
theorem wf_J0_1053 : Cond.fieldLink RJ0 1053 "jdk/internal/util/Preconditions" "SIOOBE_FORMATTER" "Ljava/util/function/BiFunction;" ∈ cr_GW := cr_gw 500 (by decide +kernel) (by decide +kernel)
theorem wf_J2_44 : Cond.fieldLink RJ2 44 "java/lang/StringUTF16" "$assertionsDisabled" "Z" ∈ cr_GW := cr_gw 518 (by decide +kernel) (by decide +kernel)
theorem wf_J2_59 : Cond.fieldLink RJ2 59 "java/lang/StringUTF16" "HI_BYTE_SHIFT" "I" ∈ cr_GW := cr_gw 520 (by decide +kernel) (by decide +kernel)
theorem wf_J2_63 : Cond.fieldLink RJ2 63 "java/lang/StringUTF16" "LO_BYTE_SHIFT" "I" ∈ cr_GW := cr_gw 522 (by decide +kernel) (by decide +kernel)
theorem wm_X8_1 : Cond.methodLink RX8 1 objectInit ∈ cr_GW := cr_gw 81 (by decide +kernel) (by decide +kernel)
theorem wm_X8_51 : Cond.methodLink RX8 51 yX8_isNoMake ∈ cr_GW := cr_gw 422 (by decide +kernel) (by decide +kernel)
theorem wm_X8_55 : Cond.methodLink RX8 55 yX8_isOutside ∈ cr_GW := cr_gw 425 (by decide +kernel) (by decide +kernel)
theorem wm_X8_83 : Cond.methodLink RX8 83 yX7_add ∈ cr_GW := cr_gw 433 (by decide +kernel) (by decide +kernel)
theorem wm_X8_87 : Cond.methodLink RX8 87 yX7_parse ∈ cr_GW := cr_gw 445 (by decide +kernel) (by decide +kernel)
theorem wm_X8_131 : Cond.methodLink RX8 131 yX8_areNoPlaces ∈ cr_GW := cr_gw 589 (by decide +kernel) (by decide +kernel)
theorem wm_X8_150 : Cond.methodLink RX8 150 yX8_isNoFollower ∈ cr_GW := cr_gw 596 (by decide +kernel) (by decide +kernel)
theorem wm_X8_165 : Cond.methodLink RX8 165 yX8_isNoLorry ∈ cr_GW := cr_gw 604 (by decide +kernel) (by decide +kernel)
theorem wm_X8_169 : Cond.methodLink RX8 169 yX8_driveAsTold ∈ cr_GW := cr_gw 609 (by decide +kernel) (by decide +kernel)
theorem wm_X8_197 : Cond.methodLink RX8 197 yX4_leastGap ∈ cr_GW := cr_gw 694 (by decide +kernel) (by decide +kernel)
theorem wm_X8_201 : Cond.methodLink RX8 201 yX4_dipOf ∈ cr_GW := cr_gw 702 (by decide +kernel) (by decide +kernel)
theorem wm_X8_204 : Cond.methodLink RX8 204 yX8_areNoChances ∈ cr_GW := cr_gw 714 (by decide +kernel) (by decide +kernel)
theorem wm_X8_207 : Cond.methodLink RX8 207 yX4_firstTouching ∈ cr_GW := cr_gw 717 (by decide +kernel) (by decide +kernel)
theorem wm_X8_211 : Cond.methodLink RX8 211 yX4_touches ∈ cr_GW := cr_gw 735 (by decide +kernel) (by decide +kernel)
theorem wm_X8_215 : Cond.methodLink RX8 215 yX4_weightBetween ∈ cr_GW := cr_gw 748 (by decide +kernel) (by decide +kernel)
theorem wm_X8_218 : Cond.methodLink RX8 218 yJ9_max_7cf53 ∈ cr_GW := cr_gw 752 (by decide +kernel) (by decide +kernel)
theorem wm_X8_224 : Cond.methodLink RX8 224 yJ9_min_7cf53 ∈ cr_GW := cr_gw 757 (by decide +kernel) (by decide +kernel)
theorem wm_X8_245 : Cond.methodLink RX8 245 yX1_findBest ∈ cr_GW := cr_gw 766 (by decide +kernel) (by decide +kernel)
theorem wm_X8_255 : Cond.methodLink RX8 255 yX1_cost ∈ cr_GW := cr_gw 802 (by decide +kernel) (by decide +kernel)
theorem wm_X8_258 : Cond.methodLink RX8 258 yX8_isNoPerson ∈ cr_GW := cr_gw 807 (by decide +kernel) (by decide +kernel)
theorem wm_X8_264 : Cond.methodLink RX8 264 yX5_sparedOf ∈ cr_GW := cr_gw 814 (by decide +kernel) (by decide +kernel)
theorem wm_X8_267 : Cond.methodLink RX8 267 yX5_above ∈ cr_GW := cr_gw 822 (by decide +kernel) (by decide +kernel)
theorem wm_X8_270 : Cond.methodLink RX8 270 yX5_below ∈ cr_GW := cr_gw 837 (by decide +kernel) (by decide +kernel)
theorem wm_X8_273 : Cond.methodLink RX8 273 yX5_coins ∈ cr_GW := cr_gw 841 (by decide +kernel) (by decide +kernel)
theorem wm_X8_276 : Cond.methodLink RX8 276 yX8_isNoClock ∈ cr_GW := cr_gw 855 (by decide +kernel) (by decide +kernel)
theorem wm_X8_291 : Cond.methodLink RX8 291 yX8_isNoEvent ∈ cr_GW := cr_gw 866 (by decide +kernel) (by decide +kernel)
theorem wm_X8_306 : Cond.methodLink RX8 306 yX0_layTogether ∈ cr_GW := cr_gw 874 (by decide +kernel) (by decide +kernel)
theorem wm_X8_310 : Cond.methodLink RX8 310 yX0_earliest ∈ cr_GW := cr_gw 895 (by decide +kernel) (by decide +kernel)
theorem wm_X8_313 : Cond.methodLink RX8 313 yX0_latest ∈ cr_GW := cr_gw 899 (by decide +kernel) (by decide +kernel)
theorem wm_X8_316 : Cond.methodLink RX8 316 yX4_drive ∈ cr_GW := cr_gw 613 (by decide +kernel) (by decide +kernel)
theorem wm_X0_3 : Cond.methodLink RX0 3 objectInit ∈ cr_GW := cr_gw 361 (by decide +kernel) (by decide +kernel)
theorem wm_X0_42 : Cond.methodLink RX0 42 yX0_startLags ∈ cr_GW := cr_gw 878 (by decide +kernel) (by decide +kernel)
theorem wm_X0_45 : Cond.methodLink RX0 45 yX0_heedAfter ∈ cr_GW := cr_gw 882 (by decide +kernel) (by decide +kernel)
theorem wm_X0_49 : Cond.methodLink RX0 49 yX0_narrowLags ∈ cr_GW := cr_gw 887 (by decide +kernel) (by decide +kernel)
theorem wm_X0_52 : Cond.methodLink RX0 52 yJ9_min_7cf53 ∈ cr_GW := cr_gw 886 (by decide +kernel) (by decide +kernel)
theorem wm_X1_3 : Cond.methodLink RX1 3 objectInit ∈ cr_GW := cr_gw 310 (by decide +kernel) (by decide +kernel)
theorem wm_X1_42 : Cond.methodLink RX1 42 yX1_burnt ∈ cr_GW := cr_gw 774 (by decide +kernel) (by decide +kernel)
theorem wm_X1_55 : Cond.methodLink RX1 55 yX1_leavesWith ∈ cr_GW := cr_gw 778 (by decide +kernel) (by decide +kernel)
theorem wm_X1_59 : Cond.methodLink RX1 59 yX1_leads ∈ cr_GW := cr_gw 782 (by decide +kernel) (by decide +kernel)
theorem wm_X1_63 : Cond.methodLink RX1 63 yJ9_max_7cf53 ∈ cr_GW := cr_gw 786 (by decide +kernel) (by decide +kernel)
theorem wm_X1_69 : Cond.methodLink RX1 69 yX1_cost ∈ cr_GW := cr_gw 770 (by decide +kernel) (by decide +kernel)
theorem wm_X1_73 : Cond.methodLink RX1 73 arraycopyName ∈ cr_GW := cr_gw 787 (by decide +kernel) (by decide +kernel)
theorem wm_X1_79 : Cond.methodLink RX1 79 yX1_choices ∈ cr_GW := cr_gw 790 (by decide +kernel) (by decide +kernel)
theorem wm_X1_83 : Cond.methodLink RX1 83 yX1_turn ∈ cr_GW := cr_gw 794 (by decide +kernel) (by decide +kernel)
theorem wm_X2_1 : Cond.methodLink RX2 1 objectInit ∈ cr_GW := cr_gw 155 (by decide +kernel) (by decide +kernel)
theorem wm_X2_29 : Cond.methodLink RX2 29 yJ9_min_7cf53 ∈ cr_GW := cr_gw 648 (by decide +kernel) (by decide +kernel)
theorem wm_X2_35 : Cond.methodLink RX2 35 yJ9_max_7cf53 ∈ cr_GW := cr_gw 651 (by decide +kernel) (by decide +kernel)
theorem wm_X3_3 : Cond.methodLink RX3 3 objectInit ∈ cr_GW := cr_gw 148 (by decide +kernel) (by decide +kernel)
theorem wm_X3_68 : Cond.methodLink RX3 68 yJ9_min_7cf53 ∈ cr_GW := cr_gw 677 (by decide +kernel) (by decide +kernel)
theorem wm_X4_3 : Cond.methodLink RX4 3 objectInit ∈ cr_GW := cr_gw 264 (by decide +kernel) (by decide +kernel)
theorem wm_X4_45 : Cond.methodLink RX4 45 yX4_begin ∈ cr_GW := cr_gw 617 (by decide +kernel) (by decide +kernel)
theorem wm_X4_49 : Cond.methodLink RX4 49 yX4_pass ∈ cr_GW := cr_gw 621 (by decide +kernel) (by decide +kernel)
theorem wm_X4_53 : Cond.methodLink RX4 53 yJ6_bitCount_0f7a4 ∈ cr_GW := cr_gw 721 (by decide +kernel) (by decide +kernel)
theorem wm_X4_59 : Cond.methodLink RX4 59 yX4_touches ∈ cr_GW := cr_gw 727 (by decide +kernel) (by decide +kernel)
theorem wm_X4_63 : Cond.methodLink RX4 63 yJ9_min_7cf53 ∈ cr_GW := cr_gw 660 (by decide +kernel) (by decide +kernel)
theorem wm_X4_74 : Cond.methodLink RX4 74 yX3_makeOfLorry ∈ cr_GW := cr_gw 636 (by decide +kernel) (by decide +kernel)
theorem wm_X4_89 : Cond.methodLink RX4 89 yX4_meetStranger ∈ cr_GW := cr_gw 625 (by decide +kernel) (by decide +kernel)
theorem wm_X4_92 : Cond.methodLink RX4 92 yX4_hear ∈ cr_GW := cr_gw 629 (by decide +kernel) (by decide +kernel)
theorem wm_X4_96 : Cond.methodLink RX4 96 yX3_pushIn ∈ cr_GW := cr_gw 640 (by decide +kernel) (by decide +kernel)
theorem wm_X4_99 : Cond.methodLink RX4 99 yX2_bounded ∈ cr_GW := cr_gw 644 (by decide +kernel) (by decide +kernel)
theorem wm_X4_102 : Cond.methodLink RX4 102 yX4_read ∈ cr_GW := cr_gw 652 (by decide +kernel) (by decide +kernel)
theorem wm_X4_110 : Cond.methodLink RX4 110 yX6_wishBy ∈ cr_GW := cr_gw 661 (by decide +kernel) (by decide +kernel)
theorem wm_X4_116 : Cond.methodLink RX4 116 yX4_speedBehind ∈ cr_GW := cr_gw 669 (by decide +kernel) (by decide +kernel)
theorem wm_X4_120 : Cond.methodLink RX4 120 yX4_go ∈ cr_GW := cr_gw 678 (by decide +kernel) (by decide +kernel)
theorem wm_X4_123 : Cond.methodLink RX4 123 yX4_noteTouch ∈ cr_GW := cr_gw 682 (by decide +kernel) (by decide +kernel)
theorem wm_X4_129 : Cond.methodLink RX4 129 yJ9_max_7cf53 ∈ cr_GW := cr_gw 633 (by decide +kernel) (by decide +kernel)
theorem wm_X4_132 : Cond.methodLink RX4 132 yX3_hasStrangerAhead ∈ cr_GW := cr_gw 656 (by decide +kernel) (by decide +kernel)
theorem wm_X4_142 : Cond.methodLink RX4 142 yX3_mostSpeed ∈ cr_GW := cr_gw 673 (by decide +kernel) (by decide +kernel)
theorem wm_X5_3 : Cond.methodLink RX5 3 objectInit ∈ cr_GW := cr_gw 349 (by decide +kernel) (by decide +kernel)
theorem wm_X5_16 : Cond.methodLink RX5 16 yX5_sumOverOrders ∈ cr_GW := cr_gw 826 (by decide +kernel) (by decide +kernel)
theorem wm_X5_24 : Cond.methodLink RX5 24 yX5_greatestDivisor ∈ cr_GW := cr_gw 834 (by decide +kernel) (by decide +kernel)
theorem wm_X5_27 : Cond.methodLink RX5 27 yX5_sparedOf ∈ cr_GW := cr_gw 833 (by decide +kernel) (by decide +kernel)
theorem wm_X5_31 : Cond.methodLink RX5 31 yJ9_floorMod_7cf53 ∈ cr_GW := cr_gw 845 (by decide +kernel) (by decide +kernel)
theorem wm_X5_36 : Cond.methodLink RX5 36 yJ9_floorDiv_7cf53 ∈ cr_GW := cr_gw 848 (by decide +kernel) (by decide +kernel)
theorem wm_X5_39 : Cond.methodLink RX5 39 yJ6_bitCount_0f7a4 ∈ cr_GW := cr_gw 830 (by decide +kernel) (by decide +kernel)
theorem wm_X6_3 : Cond.methodLink RX6 3 objectInit ∈ cr_GW := cr_gw 95 (by decide +kernel) (by decide +kernel)
theorem wm_X6_33 : Cond.methodLink RX6 33 yX6_holds ∈ cr_GW := cr_gw 665 (by decide +kernel) (by decide +kernel)
theorem wm_X7_3 : Cond.methodLink RX7 3 objectInit ∈ cr_GW := cr_gw 89 (by decide +kernel) (by decide +kernel)
theorem wm_X7_32 : Cond.methodLink RX7 32 yX7_advance ∈ cr_GW := cr_gw 449 (by decide +kernel) (by decide +kernel)
theorem wm_X7_35 : Cond.methodLink RX7 35 yX7_parseLine ∈ cr_GW := cr_gw 463 (by decide +kernel) (by decide +kernel)
theorem wm_X7_39 : Cond.methodLink RX7 39 yX7_isAtEnd ∈ cr_GW := cr_gw 453 (by decide +kernel) (by decide +kernel)
theorem wm_X7_46 : Cond.methodLink RX7 46 yX7_isSign ∈ cr_GW := cr_gw 552 (by decide +kernel) (by decide +kernel)
theorem wm_X7_52 : Cond.methodLink RX7 52 yX7_parseWish ∈ cr_GW := cr_gw 467 (by decide +kernel) (by decide +kernel)
theorem wm_X7_57 : Cond.methodLink RX7 57 yX7_isWord ∈ cr_GW := cr_gw 472 (by decide +kernel) (by decide +kernel)
theorem wm_X7_61 : Cond.methodLink RX7 61 yX7_parseTest ∈ cr_GW := cr_gw 535 (by decide +kernel) (by decide +kernel)
theorem wm_X7_76 : Cond.methodLink RX7 76 yX7_isNumber ∈ cr_GW := cr_gw 526 (by decide +kernel) (by decide +kernel)
theorem wm_X7_79 : Cond.methodLink RX7 79 yX7_number ∈ cr_GW := cr_gw 530 (by decide +kernel) (by decide +kernel)
theorem wm_X7_83 : Cond.methodLink RX7 83 yX7_readingNamed ∈ cr_GW := cr_gw 539 (by decide +kernel) (by decide +kernel)
theorem wm_X7_111 : Cond.methodLink RX7 111 yX7_kindOf ∈ cr_GW := cr_gw 457 (by decide +kernel) (by decide +kernel)
theorem wm_X7_115 : Cond.methodLink RX7 115 yX7_isDigit ∈ cr_GW := cr_gw 460 (by decide +kernel) (by decide +kernel)
theorem wm_X7_118 : Cond.methodLink RX7 118 yJ0_length_8abf5 ∈ cr_GW := cr_gw 476 (by decide +kernel) (by decide +kernel)
theorem wm_X7_122 : Cond.methodLink RX7 122 yJ0_charAt_5068e ∈ cr_GW := cr_gw 486 (by decide +kernel) (by decide +kernel)
theorem wm_L_9 : Cond.methodLink RL 9 yX8_init ∈ cr_GW := cr_gw 78 (by decide +kernel) (by decide +kernel)
theorem wm_L_12 : Cond.methodLink RL 12 yX9_init ∈ cr_GW := cr_gw 909 (by decide +kernel) (by decide +kernel)
theorem wm_L_13 : Cond.methodLink RL 13 yX8_make ∈ cr_GW := cr_gw 418 (by decide +kernel) (by decide +kernel)
theorem wm_L_17 : Cond.methodLink RL 17 yX9_make ∈ cr_GW := cr_gw 1109 (by decide +kernel) (by decide +kernel)
theorem wm_L_20 : Cond.methodLink RL 20 yX8_write ∈ cr_GW := cr_gw 428 (by decide +kernel) (by decide +kernel)
theorem wm_L_24 : Cond.methodLink RL 24 yX9_write ∈ cr_GW := cr_gw 1123 (by decide +kernel) (by decide +kernel)
theorem wm_L_25 : Cond.methodLink RL 25 yX8_erase ∈ cr_GW := cr_gw 437 (by decide +kernel) (by decide +kernel)
theorem wm_L_29 : Cond.methodLink RL 29 yX9_erase ∈ cr_GW := cr_gw 1129 (by decide +kernel) (by decide +kernel)
theorem wm_L_30 : Cond.methodLink RL 30 yX8_fault ∈ cr_GW := cr_gw 441 (by decide +kernel) (by decide +kernel)
theorem wm_L_33 : Cond.methodLink RL 33 yX9_fault ∈ cr_GW := cr_gw 1133 (by decide +kernel) (by decide +kernel)
theorem wm_L_34 : Cond.methodLink RL 34 yX8_table ∈ cr_GW := cr_gw 557 (by decide +kernel) (by decide +kernel)
theorem wm_L_38 : Cond.methodLink RL 38 yX9_table ∈ cr_GW := cr_gw 1182 (by decide +kernel) (by decide +kernel)
theorem wm_L_39 : Cond.methodLink RL 39 yX8_row ∈ cr_GW := cr_gw 561 (by decide +kernel) (by decide +kernel)
theorem wm_L_43 : Cond.methodLink RL 43 yX9_row ∈ cr_GW := cr_gw 1187 (by decide +kernel) (by decide +kernel)
theorem wm_L_44 : Cond.methodLink RL 44 yX8_set ∈ cr_GW := cr_gw 565 (by decide +kernel) (by decide +kernel)
theorem wm_L_47 : Cond.methodLink RL 47 yX9_set ∈ cr_GW := cr_gw 1192 (by decide +kernel) (by decide +kernel)
theorem wm_L_48 : Cond.methodLink RL 48 yX8_push ∈ cr_GW := cr_gw 573 (by decide +kernel) (by decide +kernel)
theorem wm_L_51 : Cond.methodLink RL 51 yX9_push ∈ cr_GW := cr_gw 1198 (by decide +kernel) (by decide +kernel)
theorem wm_L_52 : Cond.methodLink RL 52 yX8_calm ∈ cr_GW := cr_gw 577 (by decide +kernel) (by decide +kernel)
theorem wm_L_55 : Cond.methodLink RL 55 yX9_calm ∈ cr_GW := cr_gw 1203 (by decide +kernel) (by decide +kernel)
theorem wm_L_56 : Cond.methodLink RL 56 yX8_lose ∈ cr_GW := cr_gw 581 (by decide +kernel) (by decide +kernel)
theorem wm_L_59 : Cond.methodLink RL 59 yX9_lose ∈ cr_GW := cr_gw 1207 (by decide +kernel) (by decide +kernel)
theorem wm_L_60 : Cond.methodLink RL 60 yX8_hill ∈ cr_GW := cr_gw 585 (by decide +kernel) (by decide +kernel)
theorem wm_L_64 : Cond.methodLink RL 64 yX9_hill ∈ cr_GW := cr_gw 1211 (by decide +kernel) (by decide +kernel)
theorem wm_L_65 : Cond.methodLink RL 65 yX8_stranger ∈ cr_GW := cr_gw 592 (by decide +kernel) (by decide +kernel)
theorem wm_L_68 : Cond.methodLink RL 68 yX9_stranger ∈ cr_GW := cr_gw 1216 (by decide +kernel) (by decide +kernel)
theorem wm_L_69 : Cond.methodLink RL 69 yX8_at ∈ cr_GW := cr_gw 600 (by decide +kernel) (by decide +kernel)
theorem wm_L_73 : Cond.methodLink RL 73 yX9_at ∈ cr_GW := cr_gw 1224 (by decide +kernel) (by decide +kernel)
theorem wm_L_74 : Cond.methodLink RL 74 yX8_touch ∈ cr_GW := cr_gw 686 (by decide +kernel) (by decide +kernel)
theorem wm_L_77 : Cond.methodLink RL 77 yX9_touch ∈ cr_GW := cr_gw 1264 (by decide +kernel) (by decide +kernel)
theorem wm_L_78 : Cond.methodLink RL 78 yX8_least ∈ cr_GW := cr_gw 690 (by decide +kernel) (by decide +kernel)
theorem wm_L_81 : Cond.methodLink RL 81 yX9_least ∈ cr_GW := cr_gw 1268 (by decide +kernel) (by decide +kernel)
theorem wm_L_82 : Cond.methodLink RL 82 yX8_dip ∈ cr_GW := cr_gw 698 (by decide +kernel) (by decide +kernel)
theorem wm_L_85 : Cond.methodLink RL 85 yX9_dip ∈ cr_GW := cr_gw 1273 (by decide +kernel) (by decide +kernel)
theorem wm_L_86 : Cond.methodLink RL 86 yX8_grows ∈ cr_GW := cr_gw 706 (by decide +kernel) (by decide +kernel)
theorem wm_L_89 : Cond.methodLink RL 89 yX9_grows ∈ cr_GW := cr_gw 1281 (by decide +kernel) (by decide +kernel)
theorem wm_L_90 : Cond.methodLink RL 90 yX8_safe ∈ cr_GW := cr_gw 710 (by decide +kernel) (by decide +kernel)
theorem wm_L_93 : Cond.methodLink RL 93 yX9_safe ∈ cr_GW := cr_gw 1285 (by decide +kernel) (by decide +kernel)
theorem wm_L_94 : Cond.methodLink RL 94 yX8_need ∈ cr_GW := cr_gw 731 (by decide +kernel) (by decide +kernel)
theorem wm_L_97 : Cond.methodLink RL 97 yX9_need ∈ cr_GW := cr_gw 1300 (by decide +kernel) (by decide +kernel)
theorem wm_L_98 : Cond.methodLink RL 98 yX8_worst ∈ cr_GW := cr_gw 736 (by decide +kernel) (by decide +kernel)
theorem wm_L_101 : Cond.methodLink RL 101 yX9_worst ∈ cr_GW := cr_gw 1304 (by decide +kernel) (by decide +kernel)
theorem wm_L_102 : Cond.methodLink RL 102 yX8_sparing ∈ cr_GW := cr_gw 740 (by decide +kernel) (by decide +kernel)
theorem wm_L_105 : Cond.methodLink RL 105 yX9_sparing ∈ cr_GW := cr_gw 1308 (by decide +kernel) (by decide +kernel)
theorem wm_L_106 : Cond.methodLink RL 106 yX8_bears ∈ cr_GW := cr_gw 744 (by decide +kernel) (by decide +kernel)
theorem wm_L_109 : Cond.methodLink RL 109 yX9_bears ∈ cr_GW := cr_gw 1312 (by decide +kernel) (by decide +kernel)
theorem wm_L_110 : Cond.methodLink RL 110 yX8_journey ∈ cr_GW := cr_gw 753 (by decide +kernel) (by decide +kernel)
theorem wm_L_113 : Cond.methodLink RL 113 yX9_journey ∈ cr_GW := cr_gw 1316 (by decide +kernel) (by decide +kernel)
theorem wm_L_114 : Cond.methodLink RL 114 yX8_clear ∈ cr_GW := cr_gw 758 (by decide +kernel) (by decide +kernel)
theorem wm_L_117 : Cond.methodLink RL 117 yX9_clear ∈ cr_GW := cr_gw 1321 (by decide +kernel) (by decide +kernel)
theorem wm_L_118 : Cond.methodLink RL 118 yX8_best ∈ cr_GW := cr_gw 762 (by decide +kernel) (by decide +kernel)
theorem wm_L_121 : Cond.methodLink RL 121 yX9_best ∈ cr_GW := cr_gw 1325 (by decide +kernel) (by decide +kernel)
theorem wm_L_122 : Cond.methodLink RL 122 yX8_judge ∈ cr_GW := cr_gw 798 (by decide +kernel) (by decide +kernel)
theorem wm_L_125 : Cond.methodLink RL 125 yX9_judge ∈ cr_GW := cr_gw 1341 (by decide +kernel) (by decide +kernel)
theorem wm_L_126 : Cond.methodLink RL 126 yX8_spared ∈ cr_GW := cr_gw 803 (by decide +kernel) (by decide +kernel)
theorem wm_L_129 : Cond.methodLink RL 129 yX9_spared ∈ cr_GW := cr_gw 1345 (by decide +kernel) (by decide +kernel)
theorem wm_L_130 : Cond.methodLink RL 130 yX8_together ∈ cr_GW := cr_gw 810 (by decide +kernel) (by decide +kernel)
theorem wm_L_133 : Cond.methodLink RL 133 yX9_together ∈ cr_GW := cr_gw 1352 (by decide +kernel) (by decide +kernel)
theorem wm_L_134 : Cond.methodLink RL 134 yX8_share ∈ cr_GW := cr_gw 818 (by decide +kernel) (by decide +kernel)
theorem wm_L_137 : Cond.methodLink RL 137 yX9_share ∈ cr_GW := cr_gw 1361 (by decide +kernel) (by decide +kernel)
theorem wm_L_138 : Cond.methodLink RL 138 yX8_clock ∈ cr_GW := cr_gw 851 (by decide +kernel) (by decide +kernel)
theorem wm_L_141 : Cond.methodLink RL 141 yX9_clock ∈ cr_GW := cr_gw 1382 (by decide +kernel) (by decide +kernel)
theorem wm_L_142 : Cond.methodLink RL 142 yX8_event ∈ cr_GW := cr_gw 858 (by decide +kernel) (by decide +kernel)
theorem wm_L_145 : Cond.methodLink RL 145 yX9_event ∈ cr_GW := cr_gw 1387 (by decide +kernel) (by decide +kernel)
theorem wm_L_146 : Cond.methodLink RL 146 yX8_after ∈ cr_GW := cr_gw 862 (by decide +kernel) (by decide +kernel)
theorem wm_L_149 : Cond.methodLink RL 149 yX9_after ∈ cr_GW := cr_gw 1392 (by decide +kernel) (by decide +kernel)
theorem wm_L_150 : Cond.methodLink RL 150 yX8_agree ∈ cr_GW := cr_gw 870 (by decide +kernel) (by decide +kernel)
theorem wm_L_153 : Cond.methodLink RL 153 yX9_agree ∈ cr_GW := cr_gw 1400 (by decide +kernel) (by decide +kernel)
theorem wm_L_154 : Cond.methodLink RL 154 yX8_span ∈ cr_GW := cr_gw 891 (by decide +kernel) (by decide +kernel)
theorem wm_L_157 : Cond.methodLink RL 157 yX9_span ∈ cr_GW := cr_gw 1408 (by decide +kernel) (by decide +kernel)
theorem wm_L_158 : Cond.methodLink RL 158 yX8_count ∈ cr_GW := cr_gw 903 (by decide +kernel) (by decide +kernel)
theorem wm_L_161 : Cond.methodLink RL 161 yX9_count ∈ cr_GW := cr_gw 1412 (by decide +kernel) (by decide +kernel)
theorem wm_X9_1 : Cond.methodLink RX9 1 objectInit ∈ cr_GW := cr_gw 912 (by decide +kernel) (by decide +kernel)
theorem wm_X9_154 : Cond.methodLink RX9 154 yX9_in ∈ cr_GW := cr_gw 1117 (by decide +kernel) (by decide +kernel)
theorem wm_X9_160 : Cond.methodLink RX9 160 yX9_isMake ∈ cr_GW := cr_gw 1113 (by decide +kernel) (by decide +kernel)
theorem wm_X9_181 : Cond.methodLink RX9 181 yX9_sort ∈ cr_GW := cr_gw 1141 (by decide +kernel) (by decide +kernel)
theorem wm_X9_190 : Cond.methodLink RX9 190 yX9_isWord ∈ cr_GW := cr_gw 1149 (by decide +kernel) (by decide +kernel)
theorem wm_X9_194 : Cond.methodLink RX9 194 yX9_token ∈ cr_GW := cr_gw 1137 (by decide +kernel) (by decide +kernel)
theorem wm_X9_212 : Cond.methodLink RX9 212 yX9_readingWord ∈ cr_GW := cr_gw 1169 (by decide +kernel) (by decide +kernel)
theorem wm_X9_220 : Cond.methodLink RX9 220 yX9_skipsNumber ∈ cr_GW := cr_gw 1156 (by decide +kernel) (by decide +kernel)
theorem wm_X9_232 : Cond.methodLink RX9 232 yX9_skips ∈ cr_GW := cr_gw 1161 (by decide +kernel) (by decide +kernel)
theorem wm_X9_235 : Cond.methodLink RX9 235 yX9_readsTest ∈ cr_GW := cr_gw 1165 (by decide +kernel) (by decide +kernel)
theorem wm_X9_240 : Cond.methodLink RX9 240 yX9_readsLine ∈ cr_GW := cr_gw 1144 (by decide +kernel) (by decide +kernel)
theorem wm_X9_243 : Cond.methodLink RX9 243 yX9_fault ∈ cr_GW := cr_gw 1186 (by decide +kernel) (by decide +kernel)
theorem wm_X9_265 : Cond.methodLink RX9 265 yX9_isLorry ∈ cr_GW := cr_gw 1220 (by decide +kernel) (by decide +kernel)
theorem wm_X9_280 : Cond.methodLink RX9 280 yX9_lesser ∈ cr_GW := cr_gw 1249 (by decide +kernel) (by decide +kernel)
theorem wm_X9_290 : Cond.methodLink RX9 290 yX9_layWishes ∈ cr_GW := cr_gw 1237 (by decide +kernel) (by decide +kernel)
theorem wm_X9_294 : Cond.methodLink RX9 294 yX9_goOn ∈ cr_GW := cr_gw 1256 (by decide +kernel) (by decide +kernel)
theorem wm_X9_298 : Cond.methodLink RX9 298 yX9_isStrange ∈ cr_GW := cr_gw 1241 (by decide +kernel) (by decide +kernel)
theorem wm_X9_305 : Cond.methodLink RX9 305 yX9_wishBy ∈ cr_GW := cr_gw 1245 (by decide +kernel) (by decide +kernel)
theorem wm_X9_309 : Cond.methodLink RX9 309 yX9_pushedIn ∈ cr_GW := cr_gw 1252 (by decide +kernel) (by decide +kernel)
theorem wm_X9_312 : Cond.methodLink RX9 312 yX9_slopeFor ∈ cr_GW := cr_gw 1260 (by decide +kernel) (by decide +kernel)
theorem wm_X9_315 : Cond.methodLink RX9 315 yX9_layRun ∈ cr_GW := cr_gw 1233 (by decide +kernel) (by decide +kernel)
theorem wm_X9_319 : Cond.methodLink RX9 319 yX9_layTold ∈ cr_GW := cr_gw 1229 (by decide +kernel) (by decide +kernel)
theorem wm_X9_323 : Cond.methodLink RX9 323 yX9_dipOf ∈ cr_GW := cr_gw 1277 (by decide +kernel) (by decide +kernel)
theorem wm_X9_326 : Cond.methodLink RX9 326 yX9_bits ∈ cr_GW := cr_gw 1297 (by decide +kernel) (by decide +kernel)
theorem wm_X9_331 : Cond.methodLink RX9 331 yX9_areMishaps ∈ cr_GW := cr_gw 1289 (by decide +kernel) (by decide +kernel)
theorem wm_X9_334 : Cond.methodLink RX9 334 yX9_worstOf ∈ cr_GW := cr_gw 1293 (by decide +kernel) (by decide +kernel)
theorem wm_X9_343 : Cond.methodLink RX9 343 yX9_goes ∈ cr_GW := cr_gw 1337 (by decide +kernel) (by decide +kernel)
theorem wm_X9_347 : Cond.methodLink RX9 347 yX9_leads ∈ cr_GW := cr_gw 1333 (by decide +kernel) (by decide +kernel)
theorem wm_X9_350 : Cond.methodLink RX9 350 yX9_burnt ∈ cr_GW := cr_gw 1329 (by decide +kernel) (by decide +kernel)
theorem wm_X9_353 : Cond.methodLink RX9 353 yX9_isSix ∈ cr_GW := cr_gw 1349 (by decide +kernel) (by decide +kernel)
theorem wm_X9_358 : Cond.methodLink RX9 358 yX9_sparedIn ∈ cr_GW := cr_gw 1357 (by decide +kernel) (by decide +kernel)
theorem wm_X9_361 : Cond.methodLink RX9 361 yX9_factorial ∈ cr_GW := cr_gw 1369 (by decide +kernel) (by decide +kernel)
theorem wm_X9_364 : Cond.methodLink RX9 364 yX9_shareOf ∈ cr_GW := cr_gw 1372 (by decide +kernel) (by decide +kernel)
theorem wm_X9_367 : Cond.methodLink RX9 367 yX9_cut ∈ cr_GW := cr_gw 1376 (by decide +kernel) (by decide +kernel)
theorem wm_X9_370 : Cond.methodLink RX9 370 yX9_coins ∈ cr_GW := cr_gw 1365 (by decide +kernel) (by decide +kernel)
theorem wm_X9_373 : Cond.methodLink RX9 373 yX9_divisor ∈ cr_GW := cr_gw 1379 (by decide +kernel) (by decide +kernel)
theorem wm_X9_383 : Cond.methodLink RX9 383 yX9_isEvent ∈ cr_GW := cr_gw 1396 (by decide +kernel) (by decide +kernel)
theorem wm_X9_389 : Cond.methodLink RX9 389 yX9_layOffs ∈ cr_GW := cr_gw 1404 (by decide +kernel) (by decide +kernel)
theorem wm_J0_335 : Cond.methodLink RJ0 335 yJ0_coder_7d493 ∈ cr_GW := cr_gw 480 (by decide +kernel) (by decide +kernel)
theorem wm_J0_492 : Cond.methodLink RJ0 492 yJ0_isLatin1_aae02 ∈ cr_GW := cr_gw 490 (by decide +kernel) (by decide +kernel)
theorem wm_J0_495 : Cond.methodLink RJ0 495 yJ1_charAt_3b067 ∈ cr_GW := cr_gw 494 (by decide +kernel) (by decide +kernel)
theorem wm_J0_498 : Cond.methodLink RJ0 498 yJ2_charAt_3b067 ∈ cr_GW := cr_gw 505 (by decide +kernel) (by decide +kernel)
theorem wm_J0_1059 : Cond.methodLink RJ0 1059 yJ3_checkIndex_8e157 ∈ cr_GW := cr_gw 502 (by decide +kernel) (by decide +kernel)
theorem wm_J1_9 : Cond.methodLink RJ1 9 yJ0_checkIndex_df160 ∈ cr_GW := cr_gw 497 (by decide +kernel) (by decide +kernel)
theorem wm_J2_48 : Cond.methodLink RJ2 48 yJ2_length_9d52b ∈ cr_GW := cr_gw 511 (by decide +kernel) (by decide +kernel)
theorem wm_J2_67 : Cond.methodLink RJ2 67 yJ2_checkIndex_2214a ∈ cr_GW := cr_gw 508 (by decide +kernel) (by decide +kernel)
theorem wm_J2_71 : Cond.methodLink RJ2 71 yJ2_getChar_3b067 ∈ cr_GW := cr_gw 515 (by decide +kernel) (by decide +kernel)
theorem wm_J2_414 : Cond.methodLink RJ2 414 yJ0_checkIndex_df160 ∈ cr_GW := cr_gw 514 (by decide +kernel) (by decide +kernel)
theorem wc_X8_168 : Cond.constant RX8 168 (-2147483648) ∈ cr_GW := cr_gw 608 (by decide +kernel) (by decide +kernel)
theorem wc_X9_318 : Cond.constant RX9 318 (-2147483648) ∈ cr_GW := cr_gw 1228 (by decide +kernel) (by decide +kernel)
theorem wc_X9_322 : Cond.constant RX9 322 (268435456) ∈ cr_GW := cr_gw 1272 (by decide +kernel) (by decide +kernel)
theorem wc_J6_265 : Cond.constant RJ6 265 (1431655765) ∈ cr_GW := cr_gw 724 (by decide +kernel) (by decide +kernel)
theorem wc_J6_266 : Cond.constant RJ6 266 (858993459) ∈ cr_GW := cr_gw 725 (by decide +kernel) (by decide +kernel)
theorem wc_J6_267 : Cond.constant RJ6 267 (252645135) ∈ cr_GW := cr_gw 726 (by decide +kernel) (by decide +kernel)
theorem wc_X8_81 : Cond.constantLong RX8 81 (255) ∈ cr_GW := cr_gw 432 (by decide +kernel) (by decide +kernel)
theorem wc_L_18 : Cond.constantLong RL 18 (4294967295) ∈ cr_GW := cr_gw 1416 (by decide +kernel) (by decide +kernel)
theorem wc_X9_152 : Cond.constantLong RX9 152 (3) ∈ cr_GW := cr_gw 1116 (by decide +kernel) (by decide +kernel)
theorem wc_X9_158 : Cond.constantLong RX9 158 (5) ∈ cr_GW := cr_gw 1122 (by decide +kernel) (by decide +kernel)
theorem wc_X9_164 : Cond.constantLong RX9 164 (40) ∈ cr_GW := cr_gw 1120 (by decide +kernel) (by decide +kernel)
theorem wc_X9_166 : Cond.constantLong RX9 166 (9) ∈ cr_GW := cr_gw 1121 (by decide +kernel) (by decide +kernel)
theorem wc_X9_168 : Cond.constantLong RX9 168 (8) ∈ cr_GW := cr_gw 1127 (by decide +kernel) (by decide +kernel)
theorem wc_X9_173 : Cond.constantLong RX9 173 (255) ∈ cr_GW := cr_gw 1128 (by decide +kernel) (by decide +kernel)
theorem wc_X9_188 : Cond.constantLong RX9 188 (31) ∈ cr_GW := cr_gw 1153 (by decide +kernel) (by decide +kernel)
theorem wc_X9_200 : Cond.constantLong RX9 200 (16423) ∈ cr_GW := cr_gw 1173 (by decide +kernel) (by decide +kernel)
theorem wc_X9_202 : Cond.constantLong RX9 202 (7996030339) ∈ cr_GW := cr_gw 1174 (by decide +kernel) (by decide +kernel)
theorem wc_X9_204 : Cond.constantLong RX9 204 (7995856399) ∈ cr_GW := cr_gw 1175 (by decide +kernel) (by decide +kernel)
theorem wc_X9_206 : Cond.constantLong RX9 206 (4363795) ∈ cr_GW := cr_gw 1176 (by decide +kernel) (by decide +kernel)
theorem wc_X9_208 : Cond.constantLong RX9 208 (4785320) ∈ cr_GW := cr_gw 1177 (by decide +kernel) (by decide +kernel)
theorem wc_X9_210 : Cond.constantLong RX9 210 (4495) ∈ cr_GW := cr_gw 1178 (by decide +kernel) (by decide +kernel)
theorem wc_X9_216 : Cond.constantLong RX9 216 (5979201) ∈ cr_GW := cr_gw 1179 (by decide +kernel) (by decide +kernel)
theorem wc_X9_218 : Cond.constantLong RX9 218 (24621218) ∈ cr_GW := cr_gw 1180 (by decide +kernel) (by decide +kernel)
theorem wc_X9_224 : Cond.constantLong RX9 224 (769427) ∈ cr_GW := cr_gw 1148 (by decide +kernel) (by decide +kernel)
theorem wc_X9_226 : Cond.constantLong RX9 226 (674854) ∈ cr_GW := cr_gw 1154 (by decide +kernel) (by decide +kernel)
theorem wc_X9_228 : Cond.constantLong RX9 228 (529579) ∈ cr_GW := cr_gw 1155 (by decide +kernel) (by decide +kernel)
theorem wc_X9_230 : Cond.constantLong RX9 230 (464151) ∈ cr_GW := cr_gw 1160 (by decide +kernel) (by decide +kernel)
theorem wc_X9_238 : Cond.constantLong RX9 238 (4545) ∈ cr_GW := cr_gw 1181 (by decide +kernel) (by decide +kernel)
theorem wc_X9_246 : Cond.constantLong RX9 246 (6) ∈ cr_GW := cr_gw 1191 (by decide +kernel) (by decide +kernel)
theorem wc_X9_248 : Cond.constantLong RX9 248 (4) ∈ cr_GW := cr_gw 1196 (by decide +kernel) (by decide +kernel)
theorem wc_X9_250 : Cond.constantLong RX9 250 (99) ∈ cr_GW := cr_gw 1197 (by decide +kernel) (by decide +kernel)
theorem wc_X9_252 : Cond.constantLong RX9 252 (-9) ∈ cr_GW := cr_gw 1202 (by decide +kernel) (by decide +kernel)
theorem wc_X9_260 : Cond.constantLong RX9 260 (2000) ∈ cr_GW := cr_gw 1215 (by decide +kernel) (by decide +kernel)
theorem wc_X9_329 : Cond.constantLong RX9 329 (2) ∈ cr_GW := cr_gw 1292 (by decide +kernel) (by decide +kernel)
theorem wc_X9_338 : Cond.constantLong RX9 338 (23) ∈ cr_GW := cr_gw 1320 (by decide +kernel) (by decide +kernel)
theorem wc_X9_356 : Cond.constantLong RX9 356 (63) ∈ cr_GW := cr_gw 1356 (by decide +kernel) (by decide +kernel)
theorem wc_X9_376 : Cond.constantLong RX9 376 (60) ∈ cr_GW := cr_gw 1386 (by decide +kernel) (by decide +kernel)
theorem wc_X9_378 : Cond.constantLong RX9 378 (999) ∈ cr_GW := cr_gw 1391 (by decide +kernel) (by decide +kernel)
theorem wl_X8_7 : Cond.classLink RX8 7 "CartRows$Text" ∈ cr_GW := cr_gw 84 (by decide +kernel) (by decide +kernel)
theorem wl_X8_16 : Cond.classLink RX8 16 "CartRows$Road" ∈ cr_GW := cr_gw 143 (by decide +kernel) (by decide +kernel)
theorem wl_X8_23 : Cond.classLink RX8 23 "CartRows$Run" ∈ cr_GW := cr_gw 259 (by decide +kernel) (by decide +kernel)
theorem wl_X8_30 : Cond.classLink RX8 30 "CartRows$Journeys" ∈ cr_GW := cr_gw 305 (by decide +kernel) (by decide +kernel)
theorem wl_X8_37 : Cond.classLink RX8 37 "CartRows$Shares" ∈ cr_GW := cr_gw 344 (by decide +kernel) (by decide +kernel)
theorem wl_X8_44 : Cond.classLink RX8 44 "CartRows$Clocks" ∈ cr_GW := cr_gw 356 (by decide +kernel) (by decide +kernel)
theorem wl_X0_37 : Cond.classLink RX0 37 "[[I" ∈ cr_GW := cr_gw 362 (by decide +kernel) (by decide +kernel)
theorem wl_X2_22 : Cond.classLink RX2 22 "CartRows$Table" ∈ cr_GW := cr_gw 156 (by decide +kernel) (by decide +kernel)
theorem wl_X3_9 : Cond.classLink RX3 9 "CartRows$Make" ∈ cr_GW := cr_gw 149 (by decide +kernel) (by decide +kernel)
theorem wl_X4_9 : Cond.classLink RX4 9 "[[I" ∈ cr_GW := cr_gw 265 (by decide +kernel) (by decide +kernel)
theorem wl_X5_9 : Cond.classLink RX5 9 "[[I" ∈ cr_GW := cr_gw 350 (by decide +kernel) (by decide +kernel)
theorem wl_X6_22 : Cond.classLink RX6 22 "[[I" ∈ cr_GW := cr_gw 96 (by decide +kernel) (by decide +kernel)
theorem wl_X7_19 : Cond.classLink RX7 19 "CartRows$Table" ∈ cr_GW := cr_gw 90 (by decide +kernel) (by decide +kernel)
theorem wl_L_7 : Cond.classLink RL 7 "CartRows" ∈ cr_GW := cr_gw 76 (by decide +kernel) (by decide +kernel)
theorem wl_L_10 : Cond.classLink RL 10 "CartRowsModel" ∈ cr_GW := cr_gw 907 (by decide +kernel) (by decide +kernel)
theorem wI_L : Cond.initialized RL ∈ cr_GW := cr_gw 58 (by decide +kernel) (by decide +kernel)
theorem wI_X8 : Cond.initialized RX8 ∈ cr_GW := cr_gw 59 (by decide +kernel) (by decide +kernel)
theorem wI_X7 : Cond.initialized RX7 ∈ cr_GW := cr_gw 60 (by decide +kernel) (by decide +kernel)
theorem wI_X6 : Cond.initialized RX6 ∈ cr_GW := cr_gw 61 (by decide +kernel) (by decide +kernel)
theorem wI_X3 : Cond.initialized RX3 ∈ cr_GW := cr_gw 62 (by decide +kernel) (by decide +kernel)
theorem wI_X2 : Cond.initialized RX2 ∈ cr_GW := cr_gw 63 (by decide +kernel) (by decide +kernel)
theorem wI_X4 : Cond.initialized RX4 ∈ cr_GW := cr_gw 64 (by decide +kernel) (by decide +kernel)
theorem wI_X1 : Cond.initialized RX1 ∈ cr_GW := cr_gw 65 (by decide +kernel) (by decide +kernel)
theorem wI_X5 : Cond.initialized RX5 ∈ cr_GW := cr_gw 66 (by decide +kernel) (by decide +kernel)
theorem wI_X0 : Cond.initialized RX0 ∈ cr_GW := cr_gw 67 (by decide +kernel) (by decide +kernel)
theorem wI_X9 : Cond.initialized RX9 ∈ cr_GW := cr_gw 68 (by decide +kernel) (by decide +kernel)
theorem wI_J0 : Cond.initialized RJ0 ∈ cr_GW := cr_gw 69 (by decide +kernel) (by decide +kernel)
theorem wI_J1 : Cond.initialized RJ1 ∈ cr_GW := cr_gw 70 (by decide +kernel) (by decide +kernel)
theorem wI_J3 : Cond.initialized RJ3 ∈ cr_GW := cr_gw 71 (by decide +kernel) (by decide +kernel)
theorem wI_J2 : Cond.initialized RJ2 ∈ cr_GW := cr_gw 72 (by decide +kernel) (by decide +kernel)
theorem wI_J9 : Cond.initialized RJ9 ∈ cr_GW := cr_gw 73 (by decide +kernel) (by decide +kernel)
theorem wI_J6 : Cond.initialized RJ6 ∈ cr_GW := cr_gw 74 (by decide +kernel) (by decide +kernel)
theorem wI_J10 : Cond.initialized RJ10 ∈ cr_GW := cr_gw 75 (by decide +kernel) (by decide +kernel)
theorem wN_X8 : Cond.instantiable RX8 6 ∈ cr_GW := cr_gw 77 (by decide +kernel) (by decide +kernel)
theorem wv_yX8_init : Cond.instanceMethod yX8_init ∈ cr_GW := cr_gw 79 (by decide +kernel) (by decide +kernel)
theorem wv_objectInit : Cond.instanceMethod objectInit ∈ cr_GW := cr_gw 82 (by decide +kernel) (by decide +kernel)
theorem wN_X7 : Cond.instantiable RX7 5 ∈ cr_GW := cr_gw 85 (by decide +kernel) (by decide +kernel)
theorem wv_yX7_init : Cond.instanceMethod yX7_init ∈ cr_GW := cr_gw 87 (by decide +kernel) (by decide +kernel)
theorem wN_X6 : Cond.instantiable RX6 6 ∈ cr_GW := cr_gw 91 (by decide +kernel) (by decide +kernel)
theorem wv_yX6_init : Cond.instanceMethod yX6_init ∈ cr_GW := cr_gw 93 (by decide +kernel) (by decide +kernel)
theorem wA_int : Cond.arrayClass .int ∈ cr_GW := cr_gw 124 (by decide +kernel) (by decide +kernel)
theorem wN_X3 : Cond.instantiable RX3 17 ∈ cr_GW := cr_gw 144 (by decide +kernel) (by decide +kernel)
theorem wv_yX3_init : Cond.instanceMethod yX3_init ∈ cr_GW := cr_gw 146 (by decide +kernel) (by decide +kernel)
theorem wN_X2 : Cond.instantiable RX2 5 ∈ cr_GW := cr_gw 151 (by decide +kernel) (by decide +kernel)
theorem wv_yX2_init : Cond.instanceMethod yX2_init ∈ cr_GW := cr_gw 153 (by decide +kernel) (by decide +kernel)
theorem wN_X4 : Cond.instantiable RX4 10 ∈ cr_GW := cr_gw 260 (by decide +kernel) (by decide +kernel)
theorem wv_yX4_init : Cond.instanceMethod yX4_init ∈ cr_GW := cr_gw 262 (by decide +kernel) (by decide +kernel)
theorem wN_X1 : Cond.instantiable RX1 8 ∈ cr_GW := cr_gw 306 (by decide +kernel) (by decide +kernel)
theorem wv_yX1_init : Cond.instanceMethod yX1_init ∈ cr_GW := cr_gw 308 (by decide +kernel) (by decide +kernel)
theorem wN_X5 : Cond.instantiable RX5 1 ∈ cr_GW := cr_gw 345 (by decide +kernel) (by decide +kernel)
theorem wv_yX5_init : Cond.instanceMethod yX5_init ∈ cr_GW := cr_gw 347 (by decide +kernel) (by decide +kernel)
theorem wN_X0 : Cond.instantiable RX0 9 ∈ cr_GW := cr_gw 357 (by decide +kernel) (by decide +kernel)
theorem wv_yX0_init : Cond.instanceMethod yX0_init ∈ cr_GW := cr_gw 359 (by decide +kernel) (by decide +kernel)
theorem wv_yX8_make : Cond.instanceMethod yX8_make ∈ cr_GW := cr_gw 419 (by decide +kernel) (by decide +kernel)
theorem we_yX8_make : Cond.selects yX8_make.cls yX8_make yX8_make ∈ cr_GW := cr_gw 420 (by decide +kernel) (by decide +kernel)
theorem ws_yX8_isNoMake : Cond.static yX8_isNoMake ∈ cr_GW := cr_gw 423 (by decide +kernel) (by decide +kernel)
theorem ws_yX8_isOutside : Cond.static yX8_isOutside ∈ cr_GW := cr_gw 426 (by decide +kernel) (by decide +kernel)
theorem wv_yX8_write : Cond.instanceMethod yX8_write ∈ cr_GW := cr_gw 429 (by decide +kernel) (by decide +kernel)
theorem we_yX8_write : Cond.selects yX8_write.cls yX8_write yX8_write ∈ cr_GW := cr_gw 430 (by decide +kernel) (by decide +kernel)
theorem wv_yX7_add : Cond.instanceMethod yX7_add ∈ cr_GW := cr_gw 434 (by decide +kernel) (by decide +kernel)
theorem we_yX7_add : Cond.selects yX7_add.cls yX7_add yX7_add ∈ cr_GW := cr_gw 435 (by decide +kernel) (by decide +kernel)
theorem wv_yX8_erase : Cond.instanceMethod yX8_erase ∈ cr_GW := cr_gw 438 (by decide +kernel) (by decide +kernel)
theorem we_yX8_erase : Cond.selects yX8_erase.cls yX8_erase yX8_erase ∈ cr_GW := cr_gw 439 (by decide +kernel) (by decide +kernel)
theorem wv_yX8_fault : Cond.instanceMethod yX8_fault ∈ cr_GW := cr_gw 442 (by decide +kernel) (by decide +kernel)
theorem we_yX8_fault : Cond.selects yX8_fault.cls yX8_fault yX8_fault ∈ cr_GW := cr_gw 443 (by decide +kernel) (by decide +kernel)
theorem wv_yX7_parse : Cond.instanceMethod yX7_parse ∈ cr_GW := cr_gw 446 (by decide +kernel) (by decide +kernel)
theorem we_yX7_parse : Cond.selects yX7_parse.cls yX7_parse yX7_parse ∈ cr_GW := cr_gw 447 (by decide +kernel) (by decide +kernel)
theorem wv_yX7_advance : Cond.instanceMethod yX7_advance ∈ cr_GW := cr_gw 451 (by decide +kernel) (by decide +kernel)
theorem wv_yX7_isAtEnd : Cond.instanceMethod yX7_isAtEnd ∈ cr_GW := cr_gw 455 (by decide +kernel) (by decide +kernel)
theorem ws_yX7_kindOf : Cond.static yX7_kindOf ∈ cr_GW := cr_gw 458 (by decide +kernel) (by decide +kernel)
theorem ws_yX7_isDigit : Cond.static yX7_isDigit ∈ cr_GW := cr_gw 461 (by decide +kernel) (by decide +kernel)
theorem wv_yX7_parseLine : Cond.instanceMethod yX7_parseLine ∈ cr_GW := cr_gw 465 (by decide +kernel) (by decide +kernel)
theorem wv_yX7_parseWish : Cond.instanceMethod yX7_parseWish ∈ cr_GW := cr_gw 469 (by decide +kernel) (by decide +kernel)
theorem wv_yX7_isWord : Cond.instanceMethod yX7_isWord ∈ cr_GW := cr_gw 474 (by decide +kernel) (by decide +kernel)
theorem wv_yJ0_length_8abf5 : Cond.instanceMethod yJ0_length_8abf5 ∈ cr_GW := cr_gw 477 (by decide +kernel) (by decide +kernel)
theorem we_yJ0_length_8abf5 : Cond.selects yJ0_length_8abf5.cls yJ0_length_8abf5 yJ0_length_8abf5 ∈ cr_GW := cr_gw 478 (by decide +kernel) (by decide +kernel)
theorem wv_yJ0_coder_7d493 : Cond.instanceMethod yJ0_coder_7d493 ∈ cr_GW := cr_gw 481 (by decide +kernel) (by decide +kernel)
theorem we_yJ0_coder_7d493 : Cond.selects yJ0_coder_7d493.cls yJ0_coder_7d493 yJ0_coder_7d493 ∈ cr_GW := cr_gw 482 (by decide +kernel) (by decide +kernel)
theorem wv_yJ0_charAt_5068e : Cond.instanceMethod yJ0_charAt_5068e ∈ cr_GW := cr_gw 487 (by decide +kernel) (by decide +kernel)
theorem we_yJ0_charAt_5068e : Cond.selects yJ0_charAt_5068e.cls yJ0_charAt_5068e yJ0_charAt_5068e ∈ cr_GW := cr_gw 488 (by decide +kernel) (by decide +kernel)
theorem wv_yJ0_isLatin1_aae02 : Cond.instanceMethod yJ0_isLatin1_aae02 ∈ cr_GW := cr_gw 491 (by decide +kernel) (by decide +kernel)
theorem we_yJ0_isLatin1_aae02 : Cond.selects yJ0_isLatin1_aae02.cls yJ0_isLatin1_aae02 yJ0_isLatin1_aae02 ∈ cr_GW := cr_gw 492 (by decide +kernel) (by decide +kernel)
theorem ws_yJ1_charAt_3b067 : Cond.static yJ1_charAt_3b067 ∈ cr_GW := cr_gw 495 (by decide +kernel) (by decide +kernel)
theorem ws_yJ0_checkIndex_df160 : Cond.static yJ0_checkIndex_df160 ∈ cr_GW := cr_gw 498 (by decide +kernel) (by decide +kernel)
theorem ws_yJ3_checkIndex_8e157 : Cond.static yJ3_checkIndex_8e157 ∈ cr_GW := cr_gw 503 (by decide +kernel) (by decide +kernel)
theorem ws_yJ2_charAt_3b067 : Cond.static yJ2_charAt_3b067 ∈ cr_GW := cr_gw 506 (by decide +kernel) (by decide +kernel)
theorem ws_yJ2_checkIndex_2214a : Cond.static yJ2_checkIndex_2214a ∈ cr_GW := cr_gw 509 (by decide +kernel) (by decide +kernel)
theorem ws_yJ2_length_9d52b : Cond.static yJ2_length_9d52b ∈ cr_GW := cr_gw 512 (by decide +kernel) (by decide +kernel)
theorem ws_yJ2_getChar_3b067 : Cond.static yJ2_getChar_3b067 ∈ cr_GW := cr_gw 516 (by decide +kernel) (by decide +kernel)
theorem wv_yX7_isNumber : Cond.instanceMethod yX7_isNumber ∈ cr_GW := cr_gw 528 (by decide +kernel) (by decide +kernel)
theorem wv_yX7_number : Cond.instanceMethod yX7_number ∈ cr_GW := cr_gw 532 (by decide +kernel) (by decide +kernel)
theorem wv_yX7_parseTest : Cond.instanceMethod yX7_parseTest ∈ cr_GW := cr_gw 537 (by decide +kernel) (by decide +kernel)
theorem wv_yX7_readingNamed : Cond.instanceMethod yX7_readingNamed ∈ cr_GW := cr_gw 541 (by decide +kernel) (by decide +kernel)
theorem wv_yX7_isSign : Cond.instanceMethod yX7_isSign ∈ cr_GW := cr_gw 554 (by decide +kernel) (by decide +kernel)
theorem wv_yX8_table : Cond.instanceMethod yX8_table ∈ cr_GW := cr_gw 558 (by decide +kernel) (by decide +kernel)
theorem we_yX8_table : Cond.selects yX8_table.cls yX8_table yX8_table ∈ cr_GW := cr_gw 559 (by decide +kernel) (by decide +kernel)
theorem wv_yX8_row : Cond.instanceMethod yX8_row ∈ cr_GW := cr_gw 562 (by decide +kernel) (by decide +kernel)
theorem we_yX8_row : Cond.selects yX8_row.cls yX8_row yX8_row ∈ cr_GW := cr_gw 563 (by decide +kernel) (by decide +kernel)
theorem wv_yX8_set : Cond.instanceMethod yX8_set ∈ cr_GW := cr_gw 566 (by decide +kernel) (by decide +kernel)
theorem we_yX8_set : Cond.selects yX8_set.cls yX8_set yX8_set ∈ cr_GW := cr_gw 567 (by decide +kernel) (by decide +kernel)
theorem wv_yX8_push : Cond.instanceMethod yX8_push ∈ cr_GW := cr_gw 574 (by decide +kernel) (by decide +kernel)
theorem we_yX8_push : Cond.selects yX8_push.cls yX8_push yX8_push ∈ cr_GW := cr_gw 575 (by decide +kernel) (by decide +kernel)
theorem wv_yX8_calm : Cond.instanceMethod yX8_calm ∈ cr_GW := cr_gw 578 (by decide +kernel) (by decide +kernel)
theorem we_yX8_calm : Cond.selects yX8_calm.cls yX8_calm yX8_calm ∈ cr_GW := cr_gw 579 (by decide +kernel) (by decide +kernel)
theorem wv_yX8_lose : Cond.instanceMethod yX8_lose ∈ cr_GW := cr_gw 582 (by decide +kernel) (by decide +kernel)
theorem we_yX8_lose : Cond.selects yX8_lose.cls yX8_lose yX8_lose ∈ cr_GW := cr_gw 583 (by decide +kernel) (by decide +kernel)
theorem wv_yX8_hill : Cond.instanceMethod yX8_hill ∈ cr_GW := cr_gw 586 (by decide +kernel) (by decide +kernel)
theorem we_yX8_hill : Cond.selects yX8_hill.cls yX8_hill yX8_hill ∈ cr_GW := cr_gw 587 (by decide +kernel) (by decide +kernel)
theorem ws_yX8_areNoPlaces : Cond.static yX8_areNoPlaces ∈ cr_GW := cr_gw 590 (by decide +kernel) (by decide +kernel)
theorem wv_yX8_stranger : Cond.instanceMethod yX8_stranger ∈ cr_GW := cr_gw 593 (by decide +kernel) (by decide +kernel)
theorem we_yX8_stranger : Cond.selects yX8_stranger.cls yX8_stranger yX8_stranger ∈ cr_GW := cr_gw 594 (by decide +kernel) (by decide +kernel)
theorem wv_yX8_isNoFollower : Cond.instanceMethod yX8_isNoFollower ∈ cr_GW := cr_gw 598 (by decide +kernel) (by decide +kernel)
theorem wv_yX8_at : Cond.instanceMethod yX8_at ∈ cr_GW := cr_gw 601 (by decide +kernel) (by decide +kernel)
theorem we_yX8_at : Cond.selects yX8_at.cls yX8_at yX8_at ∈ cr_GW := cr_gw 602 (by decide +kernel) (by decide +kernel)
theorem wv_yX8_isNoLorry : Cond.instanceMethod yX8_isNoLorry ∈ cr_GW := cr_gw 606 (by decide +kernel) (by decide +kernel)
theorem wv_yX8_driveAsTold : Cond.instanceMethod yX8_driveAsTold ∈ cr_GW := cr_gw 611 (by decide +kernel) (by decide +kernel)
theorem wv_yX4_drive : Cond.instanceMethod yX4_drive ∈ cr_GW := cr_gw 614 (by decide +kernel) (by decide +kernel)
theorem we_yX4_drive : Cond.selects yX4_drive.cls yX4_drive yX4_drive ∈ cr_GW := cr_gw 615 (by decide +kernel) (by decide +kernel)
theorem wv_yX4_begin : Cond.instanceMethod yX4_begin ∈ cr_GW := cr_gw 619 (by decide +kernel) (by decide +kernel)
theorem wv_yX4_pass : Cond.instanceMethod yX4_pass ∈ cr_GW := cr_gw 623 (by decide +kernel) (by decide +kernel)
theorem wv_yX4_meetStranger : Cond.instanceMethod yX4_meetStranger ∈ cr_GW := cr_gw 627 (by decide +kernel) (by decide +kernel)
theorem wv_yX4_hear : Cond.instanceMethod yX4_hear ∈ cr_GW := cr_gw 631 (by decide +kernel) (by decide +kernel)
theorem ws_yJ9_max_7cf53 : Cond.static yJ9_max_7cf53 ∈ cr_GW := cr_gw 634 (by decide +kernel) (by decide +kernel)
theorem wv_yX3_makeOfLorry : Cond.instanceMethod yX3_makeOfLorry ∈ cr_GW := cr_gw 637 (by decide +kernel) (by decide +kernel)
theorem we_yX3_makeOfLorry : Cond.selects yX3_makeOfLorry.cls yX3_makeOfLorry yX3_makeOfLorry ∈ cr_GW := cr_gw 638 (by decide +kernel) (by decide +kernel)
theorem wv_yX3_pushIn : Cond.instanceMethod yX3_pushIn ∈ cr_GW := cr_gw 641 (by decide +kernel) (by decide +kernel)
theorem we_yX3_pushIn : Cond.selects yX3_pushIn.cls yX3_pushIn yX3_pushIn ∈ cr_GW := cr_gw 642 (by decide +kernel) (by decide +kernel)
theorem wv_yX2_bounded : Cond.instanceMethod yX2_bounded ∈ cr_GW := cr_gw 645 (by decide +kernel) (by decide +kernel)
theorem we_yX2_bounded : Cond.selects yX2_bounded.cls yX2_bounded yX2_bounded ∈ cr_GW := cr_gw 646 (by decide +kernel) (by decide +kernel)
theorem ws_yJ9_min_7cf53 : Cond.static yJ9_min_7cf53 ∈ cr_GW := cr_gw 649 (by decide +kernel) (by decide +kernel)
theorem wv_yX4_read : Cond.instanceMethod yX4_read ∈ cr_GW := cr_gw 654 (by decide +kernel) (by decide +kernel)
theorem wv_yX3_hasStrangerAhead : Cond.instanceMethod yX3_hasStrangerAhead ∈ cr_GW := cr_gw 657 (by decide +kernel) (by decide +kernel)
theorem we_yX3_hasStrangerAhead : Cond.selects yX3_hasStrangerAhead.cls yX3_hasStrangerAhead yX3_hasStrangerAhead ∈ cr_GW := cr_gw 658 (by decide +kernel) (by decide +kernel)
theorem wv_yX6_wishBy : Cond.instanceMethod yX6_wishBy ∈ cr_GW := cr_gw 662 (by decide +kernel) (by decide +kernel)
theorem we_yX6_wishBy : Cond.selects yX6_wishBy.cls yX6_wishBy yX6_wishBy ∈ cr_GW := cr_gw 663 (by decide +kernel) (by decide +kernel)
theorem wv_yX6_holds : Cond.instanceMethod yX6_holds ∈ cr_GW := cr_gw 667 (by decide +kernel) (by decide +kernel)
theorem wv_yX4_speedBehind : Cond.instanceMethod yX4_speedBehind ∈ cr_GW := cr_gw 671 (by decide +kernel) (by decide +kernel)
theorem wv_yX3_mostSpeed : Cond.instanceMethod yX3_mostSpeed ∈ cr_GW := cr_gw 674 (by decide +kernel) (by decide +kernel)
theorem we_yX3_mostSpeed : Cond.selects yX3_mostSpeed.cls yX3_mostSpeed yX3_mostSpeed ∈ cr_GW := cr_gw 675 (by decide +kernel) (by decide +kernel)
theorem wv_yX4_go : Cond.instanceMethod yX4_go ∈ cr_GW := cr_gw 680 (by decide +kernel) (by decide +kernel)
theorem wv_yX4_noteTouch : Cond.instanceMethod yX4_noteTouch ∈ cr_GW := cr_gw 684 (by decide +kernel) (by decide +kernel)
theorem wv_yX8_touch : Cond.instanceMethod yX8_touch ∈ cr_GW := cr_gw 687 (by decide +kernel) (by decide +kernel)
theorem we_yX8_touch : Cond.selects yX8_touch.cls yX8_touch yX8_touch ∈ cr_GW := cr_gw 688 (by decide +kernel) (by decide +kernel)
theorem wv_yX8_least : Cond.instanceMethod yX8_least ∈ cr_GW := cr_gw 691 (by decide +kernel) (by decide +kernel)
theorem we_yX8_least : Cond.selects yX8_least.cls yX8_least yX8_least ∈ cr_GW := cr_gw 692 (by decide +kernel) (by decide +kernel)
theorem wv_yX4_leastGap : Cond.instanceMethod yX4_leastGap ∈ cr_GW := cr_gw 695 (by decide +kernel) (by decide +kernel)
theorem we_yX4_leastGap : Cond.selects yX4_leastGap.cls yX4_leastGap yX4_leastGap ∈ cr_GW := cr_gw 696 (by decide +kernel) (by decide +kernel)
theorem wv_yX8_dip : Cond.instanceMethod yX8_dip ∈ cr_GW := cr_gw 699 (by decide +kernel) (by decide +kernel)
theorem we_yX8_dip : Cond.selects yX8_dip.cls yX8_dip yX8_dip ∈ cr_GW := cr_gw 700 (by decide +kernel) (by decide +kernel)
theorem wv_yX4_dipOf : Cond.instanceMethod yX4_dipOf ∈ cr_GW := cr_gw 703 (by decide +kernel) (by decide +kernel)
theorem we_yX4_dipOf : Cond.selects yX4_dipOf.cls yX4_dipOf yX4_dipOf ∈ cr_GW := cr_gw 704 (by decide +kernel) (by decide +kernel)
theorem wv_yX8_grows : Cond.instanceMethod yX8_grows ∈ cr_GW := cr_gw 707 (by decide +kernel) (by decide +kernel)
theorem we_yX8_grows : Cond.selects yX8_grows.cls yX8_grows yX8_grows ∈ cr_GW := cr_gw 708 (by decide +kernel) (by decide +kernel)
theorem wv_yX8_safe : Cond.instanceMethod yX8_safe ∈ cr_GW := cr_gw 711 (by decide +kernel) (by decide +kernel)
theorem we_yX8_safe : Cond.selects yX8_safe.cls yX8_safe yX8_safe ∈ cr_GW := cr_gw 712 (by decide +kernel) (by decide +kernel)
theorem ws_yX8_areNoChances : Cond.static yX8_areNoChances ∈ cr_GW := cr_gw 715 (by decide +kernel) (by decide +kernel)
theorem wv_yX4_firstTouching : Cond.instanceMethod yX4_firstTouching ∈ cr_GW := cr_gw 718 (by decide +kernel) (by decide +kernel)
theorem we_yX4_firstTouching : Cond.selects yX4_firstTouching.cls yX4_firstTouching yX4_firstTouching ∈ cr_GW := cr_gw 719 (by decide +kernel) (by decide +kernel)
theorem ws_yJ6_bitCount_0f7a4 : Cond.static yJ6_bitCount_0f7a4 ∈ cr_GW := cr_gw 722 (by decide +kernel) (by decide +kernel)
theorem wv_yX4_touches : Cond.instanceMethod yX4_touches ∈ cr_GW := cr_gw 728 (by decide +kernel) (by decide +kernel)
theorem we_yX4_touches : Cond.selects yX4_touches.cls yX4_touches yX4_touches ∈ cr_GW := cr_gw 729 (by decide +kernel) (by decide +kernel)
theorem wv_yX8_need : Cond.instanceMethod yX8_need ∈ cr_GW := cr_gw 732 (by decide +kernel) (by decide +kernel)
theorem we_yX8_need : Cond.selects yX8_need.cls yX8_need yX8_need ∈ cr_GW := cr_gw 733 (by decide +kernel) (by decide +kernel)
theorem wv_yX8_worst : Cond.instanceMethod yX8_worst ∈ cr_GW := cr_gw 737 (by decide +kernel) (by decide +kernel)
theorem we_yX8_worst : Cond.selects yX8_worst.cls yX8_worst yX8_worst ∈ cr_GW := cr_gw 738 (by decide +kernel) (by decide +kernel)
theorem wv_yX8_sparing : Cond.instanceMethod yX8_sparing ∈ cr_GW := cr_gw 741 (by decide +kernel) (by decide +kernel)
theorem we_yX8_sparing : Cond.selects yX8_sparing.cls yX8_sparing yX8_sparing ∈ cr_GW := cr_gw 742 (by decide +kernel) (by decide +kernel)
theorem wv_yX8_bears : Cond.instanceMethod yX8_bears ∈ cr_GW := cr_gw 745 (by decide +kernel) (by decide +kernel)
theorem we_yX8_bears : Cond.selects yX8_bears.cls yX8_bears yX8_bears ∈ cr_GW := cr_gw 746 (by decide +kernel) (by decide +kernel)
theorem wv_yX4_weightBetween : Cond.instanceMethod yX4_weightBetween ∈ cr_GW := cr_gw 749 (by decide +kernel) (by decide +kernel)
theorem we_yX4_weightBetween : Cond.selects yX4_weightBetween.cls yX4_weightBetween yX4_weightBetween ∈ cr_GW := cr_gw 750 (by decide +kernel) (by decide +kernel)
theorem wv_yX8_journey : Cond.instanceMethod yX8_journey ∈ cr_GW := cr_gw 754 (by decide +kernel) (by decide +kernel)
theorem we_yX8_journey : Cond.selects yX8_journey.cls yX8_journey yX8_journey ∈ cr_GW := cr_gw 755 (by decide +kernel) (by decide +kernel)
theorem wv_yX8_clear : Cond.instanceMethod yX8_clear ∈ cr_GW := cr_gw 759 (by decide +kernel) (by decide +kernel)
theorem we_yX8_clear : Cond.selects yX8_clear.cls yX8_clear yX8_clear ∈ cr_GW := cr_gw 760 (by decide +kernel) (by decide +kernel)
theorem wv_yX8_best : Cond.instanceMethod yX8_best ∈ cr_GW := cr_gw 763 (by decide +kernel) (by decide +kernel)
theorem we_yX8_best : Cond.selects yX8_best.cls yX8_best yX8_best ∈ cr_GW := cr_gw 764 (by decide +kernel) (by decide +kernel)
theorem wv_yX1_findBest : Cond.instanceMethod yX1_findBest ∈ cr_GW := cr_gw 767 (by decide +kernel) (by decide +kernel)
theorem we_yX1_findBest : Cond.selects yX1_findBest.cls yX1_findBest yX1_findBest ∈ cr_GW := cr_gw 768 (by decide +kernel) (by decide +kernel)
theorem wv_yX1_cost : Cond.instanceMethod yX1_cost ∈ cr_GW := cr_gw 771 (by decide +kernel) (by decide +kernel)
theorem we_yX1_cost : Cond.selects yX1_cost.cls yX1_cost yX1_cost ∈ cr_GW := cr_gw 772 (by decide +kernel) (by decide +kernel)
theorem wv_yX1_burnt : Cond.instanceMethod yX1_burnt ∈ cr_GW := cr_gw 776 (by decide +kernel) (by decide +kernel)
theorem wv_yX1_leavesWith : Cond.instanceMethod yX1_leavesWith ∈ cr_GW := cr_gw 780 (by decide +kernel) (by decide +kernel)
theorem wv_yX1_leads : Cond.instanceMethod yX1_leads ∈ cr_GW := cr_gw 784 (by decide +kernel) (by decide +kernel)
theorem ws_arraycopyName : Cond.static arraycopyName ∈ cr_GW := cr_gw 788 (by decide +kernel) (by decide +kernel)
theorem wn_arraycopyName : Cond.native arraycopyName ∈ cr_GW := cr_gw 789 (by decide +kernel) (by decide +kernel)
theorem wv_yX1_choices : Cond.instanceMethod yX1_choices ∈ cr_GW := cr_gw 792 (by decide +kernel) (by decide +kernel)
theorem wv_yX1_turn : Cond.instanceMethod yX1_turn ∈ cr_GW := cr_gw 796 (by decide +kernel) (by decide +kernel)
theorem wv_yX8_judge : Cond.instanceMethod yX8_judge ∈ cr_GW := cr_gw 799 (by decide +kernel) (by decide +kernel)
theorem we_yX8_judge : Cond.selects yX8_judge.cls yX8_judge yX8_judge ∈ cr_GW := cr_gw 800 (by decide +kernel) (by decide +kernel)
theorem wv_yX8_spared : Cond.instanceMethod yX8_spared ∈ cr_GW := cr_gw 804 (by decide +kernel) (by decide +kernel)
theorem we_yX8_spared : Cond.selects yX8_spared.cls yX8_spared yX8_spared ∈ cr_GW := cr_gw 805 (by decide +kernel) (by decide +kernel)
theorem ws_yX8_isNoPerson : Cond.static yX8_isNoPerson ∈ cr_GW := cr_gw 808 (by decide +kernel) (by decide +kernel)
theorem wv_yX8_together : Cond.instanceMethod yX8_together ∈ cr_GW := cr_gw 811 (by decide +kernel) (by decide +kernel)
theorem we_yX8_together : Cond.selects yX8_together.cls yX8_together yX8_together ∈ cr_GW := cr_gw 812 (by decide +kernel) (by decide +kernel)
theorem wv_yX5_sparedOf : Cond.instanceMethod yX5_sparedOf ∈ cr_GW := cr_gw 815 (by decide +kernel) (by decide +kernel)
theorem we_yX5_sparedOf : Cond.selects yX5_sparedOf.cls yX5_sparedOf yX5_sparedOf ∈ cr_GW := cr_gw 816 (by decide +kernel) (by decide +kernel)
theorem wv_yX8_share : Cond.instanceMethod yX8_share ∈ cr_GW := cr_gw 819 (by decide +kernel) (by decide +kernel)
theorem we_yX8_share : Cond.selects yX8_share.cls yX8_share yX8_share ∈ cr_GW := cr_gw 820 (by decide +kernel) (by decide +kernel)
theorem wv_yX5_above : Cond.instanceMethod yX5_above ∈ cr_GW := cr_gw 823 (by decide +kernel) (by decide +kernel)
theorem we_yX5_above : Cond.selects yX5_above.cls yX5_above yX5_above ∈ cr_GW := cr_gw 824 (by decide +kernel) (by decide +kernel)
theorem wv_yX5_sumOverOrders : Cond.instanceMethod yX5_sumOverOrders ∈ cr_GW := cr_gw 828 (by decide +kernel) (by decide +kernel)
theorem ws_yX5_greatestDivisor : Cond.static yX5_greatestDivisor ∈ cr_GW := cr_gw 835 (by decide +kernel) (by decide +kernel)
theorem wv_yX5_below : Cond.instanceMethod yX5_below ∈ cr_GW := cr_gw 838 (by decide +kernel) (by decide +kernel)
theorem we_yX5_below : Cond.selects yX5_below.cls yX5_below yX5_below ∈ cr_GW := cr_gw 839 (by decide +kernel) (by decide +kernel)
theorem wv_yX5_coins : Cond.instanceMethod yX5_coins ∈ cr_GW := cr_gw 842 (by decide +kernel) (by decide +kernel)
theorem we_yX5_coins : Cond.selects yX5_coins.cls yX5_coins yX5_coins ∈ cr_GW := cr_gw 843 (by decide +kernel) (by decide +kernel)
theorem ws_yJ9_floorMod_7cf53 : Cond.static yJ9_floorMod_7cf53 ∈ cr_GW := cr_gw 846 (by decide +kernel) (by decide +kernel)
theorem ws_yJ9_floorDiv_7cf53 : Cond.static yJ9_floorDiv_7cf53 ∈ cr_GW := cr_gw 849 (by decide +kernel) (by decide +kernel)
theorem wv_yX8_clock : Cond.instanceMethod yX8_clock ∈ cr_GW := cr_gw 852 (by decide +kernel) (by decide +kernel)
theorem we_yX8_clock : Cond.selects yX8_clock.cls yX8_clock yX8_clock ∈ cr_GW := cr_gw 853 (by decide +kernel) (by decide +kernel)
theorem ws_yX8_isNoClock : Cond.static yX8_isNoClock ∈ cr_GW := cr_gw 856 (by decide +kernel) (by decide +kernel)
theorem wv_yX8_event : Cond.instanceMethod yX8_event ∈ cr_GW := cr_gw 859 (by decide +kernel) (by decide +kernel)
theorem we_yX8_event : Cond.selects yX8_event.cls yX8_event yX8_event ∈ cr_GW := cr_gw 860 (by decide +kernel) (by decide +kernel)
theorem wv_yX8_after : Cond.instanceMethod yX8_after ∈ cr_GW := cr_gw 863 (by decide +kernel) (by decide +kernel)
theorem we_yX8_after : Cond.selects yX8_after.cls yX8_after yX8_after ∈ cr_GW := cr_gw 864 (by decide +kernel) (by decide +kernel)
theorem wv_yX8_isNoEvent : Cond.instanceMethod yX8_isNoEvent ∈ cr_GW := cr_gw 868 (by decide +kernel) (by decide +kernel)
theorem wv_yX8_agree : Cond.instanceMethod yX8_agree ∈ cr_GW := cr_gw 871 (by decide +kernel) (by decide +kernel)
theorem we_yX8_agree : Cond.selects yX8_agree.cls yX8_agree yX8_agree ∈ cr_GW := cr_gw 872 (by decide +kernel) (by decide +kernel)
theorem wv_yX0_layTogether : Cond.instanceMethod yX0_layTogether ∈ cr_GW := cr_gw 875 (by decide +kernel) (by decide +kernel)
theorem we_yX0_layTogether : Cond.selects yX0_layTogether.cls yX0_layTogether yX0_layTogether ∈ cr_GW := cr_gw 876 (by decide +kernel) (by decide +kernel)
theorem wv_yX0_startLags : Cond.instanceMethod yX0_startLags ∈ cr_GW := cr_gw 880 (by decide +kernel) (by decide +kernel)
theorem wv_yX0_heedAfter : Cond.instanceMethod yX0_heedAfter ∈ cr_GW := cr_gw 884 (by decide +kernel) (by decide +kernel)
theorem wv_yX0_narrowLags : Cond.instanceMethod yX0_narrowLags ∈ cr_GW := cr_gw 889 (by decide +kernel) (by decide +kernel)
theorem wv_yX8_span : Cond.instanceMethod yX8_span ∈ cr_GW := cr_gw 892 (by decide +kernel) (by decide +kernel)
theorem we_yX8_span : Cond.selects yX8_span.cls yX8_span yX8_span ∈ cr_GW := cr_gw 893 (by decide +kernel) (by decide +kernel)
theorem wv_yX0_earliest : Cond.instanceMethod yX0_earliest ∈ cr_GW := cr_gw 896 (by decide +kernel) (by decide +kernel)
theorem we_yX0_earliest : Cond.selects yX0_earliest.cls yX0_earliest yX0_earliest ∈ cr_GW := cr_gw 897 (by decide +kernel) (by decide +kernel)
theorem wv_yX0_latest : Cond.instanceMethod yX0_latest ∈ cr_GW := cr_gw 900 (by decide +kernel) (by decide +kernel)
theorem we_yX0_latest : Cond.selects yX0_latest.cls yX0_latest yX0_latest ∈ cr_GW := cr_gw 901 (by decide +kernel) (by decide +kernel)
theorem wv_yX8_count : Cond.instanceMethod yX8_count ∈ cr_GW := cr_gw 904 (by decide +kernel) (by decide +kernel)
theorem we_yX8_count : Cond.selects yX8_count.cls yX8_count yX8_count ∈ cr_GW := cr_gw 905 (by decide +kernel) (by decide +kernel)
theorem wN_X9 : Cond.instantiable RX9 65 ∈ cr_GW := cr_gw 908 (by decide +kernel) (by decide +kernel)
theorem wv_yX9_init : Cond.instanceMethod yX9_init ∈ cr_GW := cr_gw 910 (by decide +kernel) (by decide +kernel)
theorem wv_yX9_make : Cond.instanceMethod yX9_make ∈ cr_GW := cr_gw 1110 (by decide +kernel) (by decide +kernel)
theorem we_yX9_make : Cond.selects yX9_make.cls yX9_make yX9_make ∈ cr_GW := cr_gw 1111 (by decide +kernel) (by decide +kernel)
theorem ws_yX9_isMake : Cond.static yX9_isMake ∈ cr_GW := cr_gw 1114 (by decide +kernel) (by decide +kernel)
theorem ws_yX9_in : Cond.static yX9_in ∈ cr_GW := cr_gw 1118 (by decide +kernel) (by decide +kernel)
theorem wv_yX9_write : Cond.instanceMethod yX9_write ∈ cr_GW := cr_gw 1124 (by decide +kernel) (by decide +kernel)
theorem we_yX9_write : Cond.selects yX9_write.cls yX9_write yX9_write ∈ cr_GW := cr_gw 1125 (by decide +kernel) (by decide +kernel)
theorem wv_yX9_erase : Cond.instanceMethod yX9_erase ∈ cr_GW := cr_gw 1130 (by decide +kernel) (by decide +kernel)
theorem we_yX9_erase : Cond.selects yX9_erase.cls yX9_erase yX9_erase ∈ cr_GW := cr_gw 1131 (by decide +kernel) (by decide +kernel)
theorem wv_yX9_fault : Cond.instanceMethod yX9_fault ∈ cr_GW := cr_gw 1134 (by decide +kernel) (by decide +kernel)
theorem we_yX9_fault : Cond.selects yX9_fault.cls yX9_fault yX9_fault ∈ cr_GW := cr_gw 1135 (by decide +kernel) (by decide +kernel)
theorem wv_yX9_token : Cond.instanceMethod yX9_token ∈ cr_GW := cr_gw 1139 (by decide +kernel) (by decide +kernel)
theorem ws_yX9_sort : Cond.static yX9_sort ∈ cr_GW := cr_gw 1142 (by decide +kernel) (by decide +kernel)
theorem wv_yX9_readsLine : Cond.instanceMethod yX9_readsLine ∈ cr_GW := cr_gw 1146 (by decide +kernel) (by decide +kernel)
theorem wv_yX9_isWord : Cond.instanceMethod yX9_isWord ∈ cr_GW := cr_gw 1151 (by decide +kernel) (by decide +kernel)
theorem wv_yX9_skipsNumber : Cond.instanceMethod yX9_skipsNumber ∈ cr_GW := cr_gw 1158 (by decide +kernel) (by decide +kernel)
theorem wv_yX9_skips : Cond.instanceMethod yX9_skips ∈ cr_GW := cr_gw 1163 (by decide +kernel) (by decide +kernel)
theorem wv_yX9_readsTest : Cond.instanceMethod yX9_readsTest ∈ cr_GW := cr_gw 1167 (by decide +kernel) (by decide +kernel)
theorem wv_yX9_readingWord : Cond.instanceMethod yX9_readingWord ∈ cr_GW := cr_gw 1171 (by decide +kernel) (by decide +kernel)
theorem wv_yX9_table : Cond.instanceMethod yX9_table ∈ cr_GW := cr_gw 1183 (by decide +kernel) (by decide +kernel)
theorem we_yX9_table : Cond.selects yX9_table.cls yX9_table yX9_table ∈ cr_GW := cr_gw 1184 (by decide +kernel) (by decide +kernel)
theorem wv_yX9_row : Cond.instanceMethod yX9_row ∈ cr_GW := cr_gw 1188 (by decide +kernel) (by decide +kernel)
theorem we_yX9_row : Cond.selects yX9_row.cls yX9_row yX9_row ∈ cr_GW := cr_gw 1189 (by decide +kernel) (by decide +kernel)
theorem wv_yX9_set : Cond.instanceMethod yX9_set ∈ cr_GW := cr_gw 1193 (by decide +kernel) (by decide +kernel)
theorem we_yX9_set : Cond.selects yX9_set.cls yX9_set yX9_set ∈ cr_GW := cr_gw 1194 (by decide +kernel) (by decide +kernel)
theorem wv_yX9_push : Cond.instanceMethod yX9_push ∈ cr_GW := cr_gw 1199 (by decide +kernel) (by decide +kernel)
theorem we_yX9_push : Cond.selects yX9_push.cls yX9_push yX9_push ∈ cr_GW := cr_gw 1200 (by decide +kernel) (by decide +kernel)
theorem wv_yX9_calm : Cond.instanceMethod yX9_calm ∈ cr_GW := cr_gw 1204 (by decide +kernel) (by decide +kernel)
theorem we_yX9_calm : Cond.selects yX9_calm.cls yX9_calm yX9_calm ∈ cr_GW := cr_gw 1205 (by decide +kernel) (by decide +kernel)
theorem wv_yX9_lose : Cond.instanceMethod yX9_lose ∈ cr_GW := cr_gw 1208 (by decide +kernel) (by decide +kernel)
theorem we_yX9_lose : Cond.selects yX9_lose.cls yX9_lose yX9_lose ∈ cr_GW := cr_gw 1209 (by decide +kernel) (by decide +kernel)
theorem wv_yX9_hill : Cond.instanceMethod yX9_hill ∈ cr_GW := cr_gw 1212 (by decide +kernel) (by decide +kernel)
theorem we_yX9_hill : Cond.selects yX9_hill.cls yX9_hill yX9_hill ∈ cr_GW := cr_gw 1213 (by decide +kernel) (by decide +kernel)
theorem wv_yX9_stranger : Cond.instanceMethod yX9_stranger ∈ cr_GW := cr_gw 1217 (by decide +kernel) (by decide +kernel)
theorem we_yX9_stranger : Cond.selects yX9_stranger.cls yX9_stranger yX9_stranger ∈ cr_GW := cr_gw 1218 (by decide +kernel) (by decide +kernel)
theorem wv_yX9_isLorry : Cond.instanceMethod yX9_isLorry ∈ cr_GW := cr_gw 1222 (by decide +kernel) (by decide +kernel)
theorem wv_yX9_at : Cond.instanceMethod yX9_at ∈ cr_GW := cr_gw 1225 (by decide +kernel) (by decide +kernel)
theorem we_yX9_at : Cond.selects yX9_at.cls yX9_at yX9_at ∈ cr_GW := cr_gw 1226 (by decide +kernel) (by decide +kernel)
theorem wv_yX9_layTold : Cond.instanceMethod yX9_layTold ∈ cr_GW := cr_gw 1231 (by decide +kernel) (by decide +kernel)
theorem wv_yX9_layRun : Cond.instanceMethod yX9_layRun ∈ cr_GW := cr_gw 1235 (by decide +kernel) (by decide +kernel)
theorem wv_yX9_layWishes : Cond.instanceMethod yX9_layWishes ∈ cr_GW := cr_gw 1239 (by decide +kernel) (by decide +kernel)
theorem wv_yX9_isStrange : Cond.instanceMethod yX9_isStrange ∈ cr_GW := cr_gw 1243 (by decide +kernel) (by decide +kernel)
theorem wv_yX9_wishBy : Cond.instanceMethod yX9_wishBy ∈ cr_GW := cr_gw 1247 (by decide +kernel) (by decide +kernel)
theorem ws_yX9_lesser : Cond.static yX9_lesser ∈ cr_GW := cr_gw 1250 (by decide +kernel) (by decide +kernel)
theorem wv_yX9_pushedIn : Cond.instanceMethod yX9_pushedIn ∈ cr_GW := cr_gw 1254 (by decide +kernel) (by decide +kernel)
theorem wv_yX9_goOn : Cond.instanceMethod yX9_goOn ∈ cr_GW := cr_gw 1258 (by decide +kernel) (by decide +kernel)
theorem wv_yX9_slopeFor : Cond.instanceMethod yX9_slopeFor ∈ cr_GW := cr_gw 1262 (by decide +kernel) (by decide +kernel)
theorem wv_yX9_touch : Cond.instanceMethod yX9_touch ∈ cr_GW := cr_gw 1265 (by decide +kernel) (by decide +kernel)
theorem we_yX9_touch : Cond.selects yX9_touch.cls yX9_touch yX9_touch ∈ cr_GW := cr_gw 1266 (by decide +kernel) (by decide +kernel)
theorem wv_yX9_least : Cond.instanceMethod yX9_least ∈ cr_GW := cr_gw 1269 (by decide +kernel) (by decide +kernel)
theorem we_yX9_least : Cond.selects yX9_least.cls yX9_least yX9_least ∈ cr_GW := cr_gw 1270 (by decide +kernel) (by decide +kernel)
theorem wv_yX9_dip : Cond.instanceMethod yX9_dip ∈ cr_GW := cr_gw 1274 (by decide +kernel) (by decide +kernel)
theorem we_yX9_dip : Cond.selects yX9_dip.cls yX9_dip yX9_dip ∈ cr_GW := cr_gw 1275 (by decide +kernel) (by decide +kernel)
theorem wv_yX9_dipOf : Cond.instanceMethod yX9_dipOf ∈ cr_GW := cr_gw 1279 (by decide +kernel) (by decide +kernel)
theorem wv_yX9_grows : Cond.instanceMethod yX9_grows ∈ cr_GW := cr_gw 1282 (by decide +kernel) (by decide +kernel)
theorem we_yX9_grows : Cond.selects yX9_grows.cls yX9_grows yX9_grows ∈ cr_GW := cr_gw 1283 (by decide +kernel) (by decide +kernel)
theorem wv_yX9_safe : Cond.instanceMethod yX9_safe ∈ cr_GW := cr_gw 1286 (by decide +kernel) (by decide +kernel)
theorem we_yX9_safe : Cond.selects yX9_safe.cls yX9_safe yX9_safe ∈ cr_GW := cr_gw 1287 (by decide +kernel) (by decide +kernel)
theorem ws_yX9_areMishaps : Cond.static yX9_areMishaps ∈ cr_GW := cr_gw 1290 (by decide +kernel) (by decide +kernel)
theorem wv_yX9_worstOf : Cond.instanceMethod yX9_worstOf ∈ cr_GW := cr_gw 1295 (by decide +kernel) (by decide +kernel)
theorem ws_yX9_bits : Cond.static yX9_bits ∈ cr_GW := cr_gw 1298 (by decide +kernel) (by decide +kernel)
theorem wv_yX9_need : Cond.instanceMethod yX9_need ∈ cr_GW := cr_gw 1301 (by decide +kernel) (by decide +kernel)
theorem we_yX9_need : Cond.selects yX9_need.cls yX9_need yX9_need ∈ cr_GW := cr_gw 1302 (by decide +kernel) (by decide +kernel)
theorem wv_yX9_worst : Cond.instanceMethod yX9_worst ∈ cr_GW := cr_gw 1305 (by decide +kernel) (by decide +kernel)
theorem we_yX9_worst : Cond.selects yX9_worst.cls yX9_worst yX9_worst ∈ cr_GW := cr_gw 1306 (by decide +kernel) (by decide +kernel)
theorem wv_yX9_sparing : Cond.instanceMethod yX9_sparing ∈ cr_GW := cr_gw 1309 (by decide +kernel) (by decide +kernel)
theorem we_yX9_sparing : Cond.selects yX9_sparing.cls yX9_sparing yX9_sparing ∈ cr_GW := cr_gw 1310 (by decide +kernel) (by decide +kernel)
theorem wv_yX9_bears : Cond.instanceMethod yX9_bears ∈ cr_GW := cr_gw 1313 (by decide +kernel) (by decide +kernel)
theorem we_yX9_bears : Cond.selects yX9_bears.cls yX9_bears yX9_bears ∈ cr_GW := cr_gw 1314 (by decide +kernel) (by decide +kernel)
theorem wv_yX9_journey : Cond.instanceMethod yX9_journey ∈ cr_GW := cr_gw 1317 (by decide +kernel) (by decide +kernel)
theorem we_yX9_journey : Cond.selects yX9_journey.cls yX9_journey yX9_journey ∈ cr_GW := cr_gw 1318 (by decide +kernel) (by decide +kernel)
theorem wv_yX9_clear : Cond.instanceMethod yX9_clear ∈ cr_GW := cr_gw 1322 (by decide +kernel) (by decide +kernel)
theorem we_yX9_clear : Cond.selects yX9_clear.cls yX9_clear yX9_clear ∈ cr_GW := cr_gw 1323 (by decide +kernel) (by decide +kernel)
theorem wv_yX9_best : Cond.instanceMethod yX9_best ∈ cr_GW := cr_gw 1326 (by decide +kernel) (by decide +kernel)
theorem we_yX9_best : Cond.selects yX9_best.cls yX9_best yX9_best ∈ cr_GW := cr_gw 1327 (by decide +kernel) (by decide +kernel)
theorem wv_yX9_burnt : Cond.instanceMethod yX9_burnt ∈ cr_GW := cr_gw 1331 (by decide +kernel) (by decide +kernel)
theorem wv_yX9_leads : Cond.instanceMethod yX9_leads ∈ cr_GW := cr_gw 1335 (by decide +kernel) (by decide +kernel)
theorem wv_yX9_goes : Cond.instanceMethod yX9_goes ∈ cr_GW := cr_gw 1339 (by decide +kernel) (by decide +kernel)
theorem wv_yX9_judge : Cond.instanceMethod yX9_judge ∈ cr_GW := cr_gw 1342 (by decide +kernel) (by decide +kernel)
theorem we_yX9_judge : Cond.selects yX9_judge.cls yX9_judge yX9_judge ∈ cr_GW := cr_gw 1343 (by decide +kernel) (by decide +kernel)
theorem wv_yX9_spared : Cond.instanceMethod yX9_spared ∈ cr_GW := cr_gw 1346 (by decide +kernel) (by decide +kernel)
theorem we_yX9_spared : Cond.selects yX9_spared.cls yX9_spared yX9_spared ∈ cr_GW := cr_gw 1347 (by decide +kernel) (by decide +kernel)
theorem ws_yX9_isSix : Cond.static yX9_isSix ∈ cr_GW := cr_gw 1350 (by decide +kernel) (by decide +kernel)
theorem wv_yX9_together : Cond.instanceMethod yX9_together ∈ cr_GW := cr_gw 1353 (by decide +kernel) (by decide +kernel)
theorem we_yX9_together : Cond.selects yX9_together.cls yX9_together yX9_together ∈ cr_GW := cr_gw 1354 (by decide +kernel) (by decide +kernel)
theorem wv_yX9_sparedIn : Cond.instanceMethod yX9_sparedIn ∈ cr_GW := cr_gw 1359 (by decide +kernel) (by decide +kernel)
theorem wv_yX9_share : Cond.instanceMethod yX9_share ∈ cr_GW := cr_gw 1362 (by decide +kernel) (by decide +kernel)
theorem we_yX9_share : Cond.selects yX9_share.cls yX9_share yX9_share ∈ cr_GW := cr_gw 1363 (by decide +kernel) (by decide +kernel)
theorem wv_yX9_coins : Cond.instanceMethod yX9_coins ∈ cr_GW := cr_gw 1367 (by decide +kernel) (by decide +kernel)
theorem ws_yX9_factorial : Cond.static yX9_factorial ∈ cr_GW := cr_gw 1370 (by decide +kernel) (by decide +kernel)
theorem wv_yX9_shareOf : Cond.instanceMethod yX9_shareOf ∈ cr_GW := cr_gw 1374 (by decide +kernel) (by decide +kernel)
theorem ws_yX9_cut : Cond.static yX9_cut ∈ cr_GW := cr_gw 1377 (by decide +kernel) (by decide +kernel)
theorem ws_yX9_divisor : Cond.static yX9_divisor ∈ cr_GW := cr_gw 1380 (by decide +kernel) (by decide +kernel)
theorem wv_yX9_clock : Cond.instanceMethod yX9_clock ∈ cr_GW := cr_gw 1383 (by decide +kernel) (by decide +kernel)
theorem we_yX9_clock : Cond.selects yX9_clock.cls yX9_clock yX9_clock ∈ cr_GW := cr_gw 1384 (by decide +kernel) (by decide +kernel)
theorem wv_yX9_event : Cond.instanceMethod yX9_event ∈ cr_GW := cr_gw 1388 (by decide +kernel) (by decide +kernel)
theorem we_yX9_event : Cond.selects yX9_event.cls yX9_event yX9_event ∈ cr_GW := cr_gw 1389 (by decide +kernel) (by decide +kernel)
theorem wv_yX9_after : Cond.instanceMethod yX9_after ∈ cr_GW := cr_gw 1393 (by decide +kernel) (by decide +kernel)
theorem we_yX9_after : Cond.selects yX9_after.cls yX9_after yX9_after ∈ cr_GW := cr_gw 1394 (by decide +kernel) (by decide +kernel)
theorem wv_yX9_isEvent : Cond.instanceMethod yX9_isEvent ∈ cr_GW := cr_gw 1398 (by decide +kernel) (by decide +kernel)
theorem wv_yX9_agree : Cond.instanceMethod yX9_agree ∈ cr_GW := cr_gw 1401 (by decide +kernel) (by decide +kernel)
theorem we_yX9_agree : Cond.selects yX9_agree.cls yX9_agree yX9_agree ∈ cr_GW := cr_gw 1402 (by decide +kernel) (by decide +kernel)
theorem wv_yX9_layOffs : Cond.instanceMethod yX9_layOffs ∈ cr_GW := cr_gw 1406 (by decide +kernel) (by decide +kernel)
theorem wv_yX9_span : Cond.instanceMethod yX9_span ∈ cr_GW := cr_gw 1409 (by decide +kernel) (by decide +kernel)
theorem we_yX9_span : Cond.selects yX9_span.cls yX9_span yX9_span ∈ cr_GW := cr_gw 1410 (by decide +kernel) (by decide +kernel)
theorem wv_yX9_count : Cond.instanceMethod yX9_count ∈ cr_GW := cr_gw 1413 (by decide +kernel) (by decide +kernel)
theorem we_yX9_count : Cond.selects yX9_count.cls yX9_count yX9_count ∈ cr_GW := cr_gw 1414 (by decide +kernel) (by decide +kernel)
theorem we_yX7_advance : Cond.selects yX7_advance.cls yX7_advance yX7_advance ∈ cr_GW := cr_gw 0 (by decide +kernel) (by decide +kernel)
theorem we_yX7_isAtEnd : Cond.selects yX7_isAtEnd.cls yX7_isAtEnd yX7_isAtEnd ∈ cr_GW := cr_gw 1 (by decide +kernel) (by decide +kernel)
theorem we_yX7_parseLine : Cond.selects yX7_parseLine.cls yX7_parseLine yX7_parseLine ∈ cr_GW := cr_gw 2 (by decide +kernel) (by decide +kernel)
theorem we_yX7_parseWish : Cond.selects yX7_parseWish.cls yX7_parseWish yX7_parseWish ∈ cr_GW := cr_gw 3 (by decide +kernel) (by decide +kernel)
theorem we_yX7_isWord : Cond.selects yX7_isWord.cls yX7_isWord yX7_isWord ∈ cr_GW := cr_gw 4 (by decide +kernel) (by decide +kernel)
theorem we_yX7_isNumber : Cond.selects yX7_isNumber.cls yX7_isNumber yX7_isNumber ∈ cr_GW := cr_gw 5 (by decide +kernel) (by decide +kernel)
theorem we_yX7_number : Cond.selects yX7_number.cls yX7_number yX7_number ∈ cr_GW := cr_gw 6 (by decide +kernel) (by decide +kernel)
theorem we_yX7_parseTest : Cond.selects yX7_parseTest.cls yX7_parseTest yX7_parseTest ∈ cr_GW := cr_gw 7 (by decide +kernel) (by decide +kernel)
theorem we_yX7_readingNamed : Cond.selects yX7_readingNamed.cls yX7_readingNamed yX7_readingNamed ∈ cr_GW := cr_gw 8 (by decide +kernel) (by decide +kernel)
theorem we_yX7_isSign : Cond.selects yX7_isSign.cls yX7_isSign yX7_isSign ∈ cr_GW := cr_gw 9 (by decide +kernel) (by decide +kernel)
theorem we_yX8_isNoFollower : Cond.selects yX8_isNoFollower.cls yX8_isNoFollower yX8_isNoFollower ∈ cr_GW := cr_gw 10 (by decide +kernel) (by decide +kernel)
theorem we_yX8_isNoLorry : Cond.selects yX8_isNoLorry.cls yX8_isNoLorry yX8_isNoLorry ∈ cr_GW := cr_gw 11 (by decide +kernel) (by decide +kernel)
theorem we_yX8_driveAsTold : Cond.selects yX8_driveAsTold.cls yX8_driveAsTold yX8_driveAsTold ∈ cr_GW := cr_gw 12 (by decide +kernel) (by decide +kernel)
theorem we_yX4_begin : Cond.selects yX4_begin.cls yX4_begin yX4_begin ∈ cr_GW := cr_gw 13 (by decide +kernel) (by decide +kernel)
theorem we_yX4_pass : Cond.selects yX4_pass.cls yX4_pass yX4_pass ∈ cr_GW := cr_gw 14 (by decide +kernel) (by decide +kernel)
theorem we_yX4_meetStranger : Cond.selects yX4_meetStranger.cls yX4_meetStranger yX4_meetStranger ∈ cr_GW := cr_gw 15 (by decide +kernel) (by decide +kernel)
theorem we_yX4_hear : Cond.selects yX4_hear.cls yX4_hear yX4_hear ∈ cr_GW := cr_gw 16 (by decide +kernel) (by decide +kernel)
theorem we_yX4_read : Cond.selects yX4_read.cls yX4_read yX4_read ∈ cr_GW := cr_gw 17 (by decide +kernel) (by decide +kernel)
theorem we_yX6_holds : Cond.selects yX6_holds.cls yX6_holds yX6_holds ∈ cr_GW := cr_gw 18 (by decide +kernel) (by decide +kernel)
theorem we_yX4_speedBehind : Cond.selects yX4_speedBehind.cls yX4_speedBehind yX4_speedBehind ∈ cr_GW := cr_gw 19 (by decide +kernel) (by decide +kernel)
theorem we_yX4_go : Cond.selects yX4_go.cls yX4_go yX4_go ∈ cr_GW := cr_gw 20 (by decide +kernel) (by decide +kernel)
theorem we_yX4_noteTouch : Cond.selects yX4_noteTouch.cls yX4_noteTouch yX4_noteTouch ∈ cr_GW := cr_gw 21 (by decide +kernel) (by decide +kernel)
theorem we_yX1_burnt : Cond.selects yX1_burnt.cls yX1_burnt yX1_burnt ∈ cr_GW := cr_gw 22 (by decide +kernel) (by decide +kernel)
theorem we_yX1_leavesWith : Cond.selects yX1_leavesWith.cls yX1_leavesWith yX1_leavesWith ∈ cr_GW := cr_gw 23 (by decide +kernel) (by decide +kernel)
theorem we_yX1_leads : Cond.selects yX1_leads.cls yX1_leads yX1_leads ∈ cr_GW := cr_gw 24 (by decide +kernel) (by decide +kernel)
theorem we_yX1_choices : Cond.selects yX1_choices.cls yX1_choices yX1_choices ∈ cr_GW := cr_gw 25 (by decide +kernel) (by decide +kernel)
theorem we_yX1_turn : Cond.selects yX1_turn.cls yX1_turn yX1_turn ∈ cr_GW := cr_gw 26 (by decide +kernel) (by decide +kernel)
theorem we_yX5_sumOverOrders : Cond.selects yX5_sumOverOrders.cls yX5_sumOverOrders yX5_sumOverOrders ∈ cr_GW := cr_gw 27 (by decide +kernel) (by decide +kernel)
theorem we_yX8_isNoEvent : Cond.selects yX8_isNoEvent.cls yX8_isNoEvent yX8_isNoEvent ∈ cr_GW := cr_gw 28 (by decide +kernel) (by decide +kernel)
theorem we_yX0_startLags : Cond.selects yX0_startLags.cls yX0_startLags yX0_startLags ∈ cr_GW := cr_gw 29 (by decide +kernel) (by decide +kernel)
theorem we_yX0_heedAfter : Cond.selects yX0_heedAfter.cls yX0_heedAfter yX0_heedAfter ∈ cr_GW := cr_gw 30 (by decide +kernel) (by decide +kernel)
theorem we_yX0_narrowLags : Cond.selects yX0_narrowLags.cls yX0_narrowLags yX0_narrowLags ∈ cr_GW := cr_gw 31 (by decide +kernel) (by decide +kernel)
theorem we_yX9_token : Cond.selects yX9_token.cls yX9_token yX9_token ∈ cr_GW := cr_gw 32 (by decide +kernel) (by decide +kernel)
theorem we_yX9_readsLine : Cond.selects yX9_readsLine.cls yX9_readsLine yX9_readsLine ∈ cr_GW := cr_gw 33 (by decide +kernel) (by decide +kernel)
theorem we_yX9_isWord : Cond.selects yX9_isWord.cls yX9_isWord yX9_isWord ∈ cr_GW := cr_gw 34 (by decide +kernel) (by decide +kernel)
theorem we_yX9_skipsNumber : Cond.selects yX9_skipsNumber.cls yX9_skipsNumber yX9_skipsNumber ∈ cr_GW := cr_gw 35 (by decide +kernel) (by decide +kernel)
theorem we_yX9_skips : Cond.selects yX9_skips.cls yX9_skips yX9_skips ∈ cr_GW := cr_gw 36 (by decide +kernel) (by decide +kernel)
theorem we_yX9_readsTest : Cond.selects yX9_readsTest.cls yX9_readsTest yX9_readsTest ∈ cr_GW := cr_gw 37 (by decide +kernel) (by decide +kernel)
theorem we_yX9_readingWord : Cond.selects yX9_readingWord.cls yX9_readingWord yX9_readingWord ∈ cr_GW := cr_gw 38 (by decide +kernel) (by decide +kernel)
theorem we_yX9_isLorry : Cond.selects yX9_isLorry.cls yX9_isLorry yX9_isLorry ∈ cr_GW := cr_gw 39 (by decide +kernel) (by decide +kernel)
theorem we_yX9_layTold : Cond.selects yX9_layTold.cls yX9_layTold yX9_layTold ∈ cr_GW := cr_gw 40 (by decide +kernel) (by decide +kernel)
theorem we_yX9_layRun : Cond.selects yX9_layRun.cls yX9_layRun yX9_layRun ∈ cr_GW := cr_gw 41 (by decide +kernel) (by decide +kernel)
theorem we_yX9_layWishes : Cond.selects yX9_layWishes.cls yX9_layWishes yX9_layWishes ∈ cr_GW := cr_gw 42 (by decide +kernel) (by decide +kernel)
theorem we_yX9_isStrange : Cond.selects yX9_isStrange.cls yX9_isStrange yX9_isStrange ∈ cr_GW := cr_gw 43 (by decide +kernel) (by decide +kernel)
theorem we_yX9_wishBy : Cond.selects yX9_wishBy.cls yX9_wishBy yX9_wishBy ∈ cr_GW := cr_gw 44 (by decide +kernel) (by decide +kernel)
theorem we_yX9_pushedIn : Cond.selects yX9_pushedIn.cls yX9_pushedIn yX9_pushedIn ∈ cr_GW := cr_gw 45 (by decide +kernel) (by decide +kernel)
theorem we_yX9_goOn : Cond.selects yX9_goOn.cls yX9_goOn yX9_goOn ∈ cr_GW := cr_gw 46 (by decide +kernel) (by decide +kernel)
theorem we_yX9_slopeFor : Cond.selects yX9_slopeFor.cls yX9_slopeFor yX9_slopeFor ∈ cr_GW := cr_gw 47 (by decide +kernel) (by decide +kernel)
theorem we_yX9_dipOf : Cond.selects yX9_dipOf.cls yX9_dipOf yX9_dipOf ∈ cr_GW := cr_gw 48 (by decide +kernel) (by decide +kernel)
theorem we_yX9_worstOf : Cond.selects yX9_worstOf.cls yX9_worstOf yX9_worstOf ∈ cr_GW := cr_gw 49 (by decide +kernel) (by decide +kernel)
theorem we_yX9_burnt : Cond.selects yX9_burnt.cls yX9_burnt yX9_burnt ∈ cr_GW := cr_gw 50 (by decide +kernel) (by decide +kernel)
theorem we_yX9_leads : Cond.selects yX9_leads.cls yX9_leads yX9_leads ∈ cr_GW := cr_gw 51 (by decide +kernel) (by decide +kernel)
theorem we_yX9_goes : Cond.selects yX9_goes.cls yX9_goes yX9_goes ∈ cr_GW := cr_gw 52 (by decide +kernel) (by decide +kernel)
theorem we_yX9_sparedIn : Cond.selects yX9_sparedIn.cls yX9_sparedIn yX9_sparedIn ∈ cr_GW := cr_gw 53 (by decide +kernel) (by decide +kernel)
theorem we_yX9_coins : Cond.selects yX9_coins.cls yX9_coins yX9_coins ∈ cr_GW := cr_gw 54 (by decide +kernel) (by decide +kernel)
theorem we_yX9_shareOf : Cond.selects yX9_shareOf.cls yX9_shareOf yX9_shareOf ∈ cr_GW := cr_gw 55 (by decide +kernel) (by decide +kernel)
theorem we_yX9_isEvent : Cond.selects yX9_isEvent.cls yX9_isEvent yX9_isEvent ∈ cr_GW := cr_gw 56 (by decide +kernel) (by decide +kernel)
theorem we_yX9_layOffs : Cond.selects yX9_layOffs.cls yX9_layOffs yX9_layOffs ∈ cr_GW := cr_gw 57 (by decide +kernel) (by decide +kernel)
theorem cZ_yX8_init : cr_Z yX8_init cX8_init 1 none 0 := ⟨cr_gw 80 (by decide +kernel) (by decide +kernel), wI_X8, by decide +kernel⟩
theorem cr_oc : Cond.code objectInit ⟨#[0xb1]⟩ 1 none ∈ cr_GW := cr_gw 83 (by decide +kernel) (by decide +kernel)
theorem cZ_yX7_init : cr_Z yX7_init cX7_init 1 none 0 := ⟨cr_gw 88 (by decide +kernel) (by decide +kernel), wI_X7, by decide +kernel⟩
theorem cZ_yX6_init : cr_Z yX6_init cX6_init 1 none 0 := ⟨cr_gw 94 (by decide +kernel) (by decide +kernel), wI_X6, by decide +kernel⟩
theorem cZ_yX3_init : cr_Z yX3_init cX3_init 1 none 0 := ⟨cr_gw 147 (by decide +kernel) (by decide +kernel), wI_X3, by decide +kernel⟩
theorem cZ_yX2_init : cr_Z yX2_init cX2_init 1 none 0 := ⟨cr_gw 154 (by decide +kernel) (by decide +kernel), wI_X2, by decide +kernel⟩
theorem cZ_yX4_init : cr_Z yX4_init cX4_init 1 none 0 := ⟨cr_gw 263 (by decide +kernel) (by decide +kernel), wI_X4, by decide +kernel⟩
theorem cZ_yX1_init : cr_Z yX1_init cX1_init 1 none 0 := ⟨cr_gw 309 (by decide +kernel) (by decide +kernel), wI_X1, by decide +kernel⟩
theorem cZ_yX5_init : cr_Z yX5_init cX5_init 1 none 0 := ⟨cr_gw 348 (by decide +kernel) (by decide +kernel), wI_X5, by decide +kernel⟩
theorem cZ_yX0_init : cr_Z yX0_init cX0_init 1 none 0 := ⟨cr_gw 360 (by decide +kernel) (by decide +kernel), wI_X0, by decide +kernel⟩
theorem cZ_yX8_make : cr_Z yX8_make cX8_make 7 (some .int) 5 := ⟨cr_gw 421 (by decide +kernel) (by decide +kernel), wI_X8, by decide +kernel⟩
theorem cZ_yX8_isNoMake : cr_Z yX8_isNoMake cX8_isNoMake 1 (some .boolean) 1 := ⟨cr_gw 424 (by decide +kernel) (by decide +kernel), wI_X8, by decide +kernel⟩
theorem cZ_yX8_isOutside : cr_Z yX8_isOutside cX8_isOutside 3 (some .boolean) 3 := ⟨cr_gw 427 (by decide +kernel) (by decide +kernel), wI_X8, by decide +kernel⟩
theorem cZ_yX8_write : cr_Z yX8_write cX8_write 5 (some .int) 2 := ⟨cr_gw 431 (by decide +kernel) (by decide +kernel), wI_X8, by decide +kernel⟩
theorem cZ_yX7_add : cr_Z yX7_add cX7_add 2 none 1 := ⟨cr_gw 436 (by decide +kernel) (by decide +kernel), wI_X7, by decide +kernel⟩
theorem cZ_yX8_erase : cr_Z yX8_erase cX8_erase 2 (some .int) 0 := ⟨cr_gw 440 (by decide +kernel) (by decide +kernel), wI_X8, by decide +kernel⟩
theorem cZ_yX8_fault : cr_Z yX8_fault cX8_fault 1 (some .int) 0 := ⟨cr_gw 444 (by decide +kernel) (by decide +kernel), wI_X8, by decide +kernel⟩
theorem cZ_yX7_parse : cr_Z yX7_parse cX7_parse 2 (some .int) 0 := ⟨cr_gw 448 (by decide +kernel) (by decide +kernel), wI_X7, by decide +kernel⟩
theorem cZ_yX7_advance : cr_Z yX7_advance cX7_advance 2 none 0 := ⟨cr_gw 452 (by decide +kernel) (by decide +kernel), wI_X7, by decide +kernel⟩
theorem cZ_yX7_isAtEnd : cr_Z yX7_isAtEnd cX7_isAtEnd 1 (some .boolean) 0 := ⟨cr_gw 456 (by decide +kernel) (by decide +kernel), wI_X7, by decide +kernel⟩
theorem cZ_yX7_kindOf : cr_Z yX7_kindOf cX7_kindOf 1 (some .int) 1 := ⟨cr_gw 459 (by decide +kernel) (by decide +kernel), wI_X7, by decide +kernel⟩
theorem cZ_yX7_isDigit : cr_Z yX7_isDigit cX7_isDigit 1 (some .boolean) 1 := ⟨cr_gw 462 (by decide +kernel) (by decide +kernel), wI_X7, by decide +kernel⟩
theorem cZ_yX7_parseLine : cr_Z yX7_parseLine cX7_parseLine 3 (some .boolean) 1 := ⟨cr_gw 466 (by decide +kernel) (by decide +kernel), wI_X7, by decide +kernel⟩
theorem cZ_yX7_parseWish : cr_Z yX7_parseWish cX7_parseWish 3 (some .boolean) 1 := ⟨cr_gw 470 (by decide +kernel) (by decide +kernel), wI_X7, by decide +kernel⟩
theorem cZ_yX7_isWord : cr_Z yX7_isWord cX7_isWord 3 (some .boolean) 1 := ⟨cr_gw 475 (by decide +kernel) (by decide +kernel), wI_X7, by decide +kernel⟩
theorem cZ_yJ0_length_8abf5 : cr_Z yJ0_length_8abf5 cJ0_length_8abf5 1 (some .int) 0 := ⟨cr_gw 479 (by decide +kernel) (by decide +kernel), wI_J0, by decide +kernel⟩
theorem cZ_yJ0_coder_7d493 : cr_Z yJ0_coder_7d493 cJ0_coder_7d493 1 (some .byte) 0 := ⟨cr_gw 483 (by decide +kernel) (by decide +kernel), wI_J0, by decide +kernel⟩
theorem cZ_yJ0_charAt_5068e : cr_Z yJ0_charAt_5068e cJ0_charAt_5068e 2 (some .char) 1 := ⟨cr_gw 489 (by decide +kernel) (by decide +kernel), wI_J0, by decide +kernel⟩
theorem cZ_yJ0_isLatin1_aae02 : cr_Z yJ0_isLatin1_aae02 cJ0_isLatin1_aae02 1 (some .boolean) 0 := ⟨cr_gw 493 (by decide +kernel) (by decide +kernel), wI_J0, by decide +kernel⟩
theorem cZ_yJ1_charAt_3b067 : cr_Z yJ1_charAt_3b067 cJ1_charAt_3b067 2 (some .char) 2 := ⟨cr_gw 496 (by decide +kernel) (by decide +kernel), wI_J1, by decide +kernel⟩
theorem cZ_yJ0_checkIndex_df160 : cr_Z yJ0_checkIndex_df160 cJ0_checkIndex_df160 2 none 2 := ⟨cr_gw 499 (by decide +kernel) (by decide +kernel), wI_J0, by decide +kernel⟩
theorem cZ_yJ3_checkIndex_8e157 : cr_Z yJ3_checkIndex_8e157 cJ3_checkIndex_8e157 3 (some .int) 3 := ⟨cr_gw 504 (by decide +kernel) (by decide +kernel), wI_J3, by decide +kernel⟩
theorem cZ_yJ2_charAt_3b067 : cr_Z yJ2_charAt_3b067 cJ2_charAt_3b067 2 (some .char) 2 := ⟨cr_gw 507 (by decide +kernel) (by decide +kernel), wI_J2, by decide +kernel⟩
theorem cZ_yJ2_checkIndex_2214a : cr_Z yJ2_checkIndex_2214a cJ2_checkIndex_2214a 2 none 2 := ⟨cr_gw 510 (by decide +kernel) (by decide +kernel), wI_J2, by decide +kernel⟩
theorem cZ_yJ2_length_9d52b : cr_Z yJ2_length_9d52b cJ2_length_9d52b 1 (some .int) 1 := ⟨cr_gw 513 (by decide +kernel) (by decide +kernel), wI_J2, by decide +kernel⟩
theorem cZ_yJ2_getChar_3b067 : cr_Z yJ2_getChar_3b067 cJ2_getChar_3b067 2 (some .char) 2 := ⟨cr_gw 517 (by decide +kernel) (by decide +kernel), wI_J2, by decide +kernel⟩
theorem cZ_yX7_isNumber : cr_Z yX7_isNumber cX7_isNumber 1 (some .boolean) 0 := ⟨cr_gw 529 (by decide +kernel) (by decide +kernel), wI_X7, by decide +kernel⟩
theorem cZ_yX7_number : cr_Z yX7_number cX7_number 3 (some .int) 0 := ⟨cr_gw 533 (by decide +kernel) (by decide +kernel), wI_X7, by decide +kernel⟩
theorem cZ_yX7_parseTest : cr_Z yX7_parseTest cX7_parseTest 5 (some .boolean) 2 := ⟨cr_gw 538 (by decide +kernel) (by decide +kernel), wI_X7, by decide +kernel⟩
theorem cZ_yX7_readingNamed : cr_Z yX7_readingNamed cX7_readingNamed 1 (some .int) 0 := ⟨cr_gw 542 (by decide +kernel) (by decide +kernel), wI_X7, by decide +kernel⟩
theorem cZ_yX7_isSign : cr_Z yX7_isSign cX7_isSign 2 (some .boolean) 1 := ⟨cr_gw 555 (by decide +kernel) (by decide +kernel), wI_X7, by decide +kernel⟩
theorem cZ_yX8_table : cr_Z yX8_table cX8_table 4 (some .int) 1 := ⟨cr_gw 560 (by decide +kernel) (by decide +kernel), wI_X8, by decide +kernel⟩
theorem cZ_yX8_row : cr_Z yX8_row cX8_row 4 (some .int) 2 := ⟨cr_gw 564 (by decide +kernel) (by decide +kernel), wI_X8, by decide +kernel⟩
theorem cZ_yX8_set : cr_Z yX8_set cX8_set 4 (some .int) 2 := ⟨cr_gw 568 (by decide +kernel) (by decide +kernel), wI_X8, by decide +kernel⟩
theorem cZ_yX8_push : cr_Z yX8_push cX8_push 3 (some .int) 2 := ⟨cr_gw 576 (by decide +kernel) (by decide +kernel), wI_X8, by decide +kernel⟩
theorem cZ_yX8_calm : cr_Z yX8_calm cX8_calm 2 (some .int) 0 := ⟨cr_gw 580 (by decide +kernel) (by decide +kernel), wI_X8, by decide +kernel⟩
theorem cZ_yX8_lose : cr_Z yX8_lose cX8_lose 2 (some .int) 1 := ⟨cr_gw 584 (by decide +kernel) (by decide +kernel), wI_X8, by decide +kernel⟩
theorem cZ_yX8_hill : cr_Z yX8_hill cX8_hill 5 (some .int) 4 := ⟨cr_gw 588 (by decide +kernel) (by decide +kernel), wI_X8, by decide +kernel⟩
theorem cZ_yX8_areNoPlaces : cr_Z yX8_areNoPlaces cX8_areNoPlaces 2 (some .boolean) 2 := ⟨cr_gw 591 (by decide +kernel) (by decide +kernel), wI_X8, by decide +kernel⟩
theorem cZ_yX8_stranger : cr_Z yX8_stranger cX8_stranger 5 (some .int) 4 := ⟨cr_gw 595 (by decide +kernel) (by decide +kernel), wI_X8, by decide +kernel⟩
theorem cZ_yX8_isNoFollower : cr_Z yX8_isNoFollower cX8_isNoFollower 2 (some .boolean) 1 := ⟨cr_gw 599 (by decide +kernel) (by decide +kernel), wI_X8, by decide +kernel⟩
theorem cZ_yX8_at : cr_Z yX8_at cX8_at 5 (some .int) 3 := ⟨cr_gw 603 (by decide +kernel) (by decide +kernel), wI_X8, by decide +kernel⟩
theorem cZ_yX8_isNoLorry : cr_Z yX8_isNoLorry cX8_isNoLorry 2 (some .boolean) 1 := ⟨cr_gw 607 (by decide +kernel) (by decide +kernel), wI_X8, by decide +kernel⟩
theorem cZ_yX8_driveAsTold : cr_Z yX8_driveAsTold cX8_driveAsTold 1 none 0 := ⟨cr_gw 612 (by decide +kernel) (by decide +kernel), wI_X8, by decide +kernel⟩
theorem cZ_yX4_drive : cr_Z yX4_drive cX4_drive 6 none 4 := ⟨cr_gw 616 (by decide +kernel) (by decide +kernel), wI_X4, by decide +kernel⟩
theorem cZ_yX4_begin : cr_Z yX4_begin cX4_begin 4 none 2 := ⟨cr_gw 620 (by decide +kernel) (by decide +kernel), wI_X4, by decide +kernel⟩
theorem cZ_yX4_pass : cr_Z yX4_pass cX4_pass 7 none 4 := ⟨cr_gw 624 (by decide +kernel) (by decide +kernel), wI_X4, by decide +kernel⟩
theorem cZ_yX4_meetStranger : cr_Z yX4_meetStranger cX4_meetStranger 4 none 2 := ⟨cr_gw 628 (by decide +kernel) (by decide +kernel), wI_X4, by decide +kernel⟩
theorem cZ_yX4_hear : cr_Z yX4_hear cX4_hear 5 none 3 := ⟨cr_gw 632 (by decide +kernel) (by decide +kernel), wI_X4, by decide +kernel⟩
theorem cZ_yJ9_max_7cf53 : cr_Z yJ9_max_7cf53 cJ9_max_7cf53 2 (some .int) 2 := ⟨cr_gw 635 (by decide +kernel) (by decide +kernel), wI_J9, by decide +kernel⟩
theorem cZ_yX3_makeOfLorry : cr_Z yX3_makeOfLorry cX3_makeOfLorry 2 (some (.object "CartRows$Make")) 1 := ⟨cr_gw 639 (by decide +kernel) (by decide +kernel), wI_X3, by decide +kernel⟩
theorem cZ_yX3_pushIn : cr_Z yX3_pushIn cX3_pushIn 4 (some .int) 1 := ⟨cr_gw 643 (by decide +kernel) (by decide +kernel), wI_X3, by decide +kernel⟩
theorem cZ_yX2_bounded : cr_Z yX2_bounded cX2_bounded 2 (some .int) 1 := ⟨cr_gw 647 (by decide +kernel) (by decide +kernel), wI_X2, by decide +kernel⟩
theorem cZ_yJ9_min_7cf53 : cr_Z yJ9_min_7cf53 cJ9_min_7cf53 2 (some .int) 2 := ⟨cr_gw 650 (by decide +kernel) (by decide +kernel), wI_J9, by decide +kernel⟩
theorem cZ_yX4_read : cr_Z yX4_read cX4_read 8 none 3 := ⟨cr_gw 655 (by decide +kernel) (by decide +kernel), wI_X4, by decide +kernel⟩
theorem cZ_yX3_hasStrangerAhead : cr_Z yX3_hasStrangerAhead cX3_hasStrangerAhead 3 (some .boolean) 2 := ⟨cr_gw 659 (by decide +kernel) (by decide +kernel), wI_X3, by decide +kernel⟩
theorem cZ_yX6_wishBy : cr_Z yX6_wishBy cX6_wishBy 3 (some .int) 1 := ⟨cr_gw 664 (by decide +kernel) (by decide +kernel), wI_X6, by decide +kernel⟩
theorem cZ_yX6_holds : cr_Z yX6_holds cX6_holds 7 (some .boolean) 2 := ⟨cr_gw 668 (by decide +kernel) (by decide +kernel), wI_X6, by decide +kernel⟩
theorem cZ_yX4_speedBehind : cr_Z yX4_speedBehind cX4_speedBehind 8 (some .int) 3 := ⟨cr_gw 672 (by decide +kernel) (by decide +kernel), wI_X4, by decide +kernel⟩
theorem cZ_yX3_mostSpeed : cr_Z yX3_mostSpeed cX3_mostSpeed 6 (some .int) 2 := ⟨cr_gw 676 (by decide +kernel) (by decide +kernel), wI_X3, by decide +kernel⟩
theorem cZ_yX4_go : cr_Z yX4_go cX4_go 5 none 2 := ⟨cr_gw 681 (by decide +kernel) (by decide +kernel), wI_X4, by decide +kernel⟩
theorem cZ_yX4_noteTouch : cr_Z yX4_noteTouch cX4_noteTouch 5 none 2 := ⟨cr_gw 685 (by decide +kernel) (by decide +kernel), wI_X4, by decide +kernel⟩
theorem cZ_yX8_touch : cr_Z yX8_touch cX8_touch 2 (some .int) 1 := ⟨cr_gw 689 (by decide +kernel) (by decide +kernel), wI_X8, by decide +kernel⟩
theorem cZ_yX8_least : cr_Z yX8_least cX8_least 2 (some .int) 1 := ⟨cr_gw 693 (by decide +kernel) (by decide +kernel), wI_X8, by decide +kernel⟩
theorem cZ_yX4_leastGap : cr_Z yX4_leastGap cX4_leastGap 4 (some .int) 1 := ⟨cr_gw 697 (by decide +kernel) (by decide +kernel), wI_X4, by decide +kernel⟩
theorem cZ_yX8_dip : cr_Z yX8_dip cX8_dip 2 (some .int) 1 := ⟨cr_gw 701 (by decide +kernel) (by decide +kernel), wI_X8, by decide +kernel⟩
theorem cZ_yX4_dipOf : cr_Z yX4_dipOf cX4_dipOf 4 (some .int) 1 := ⟨cr_gw 705 (by decide +kernel) (by decide +kernel), wI_X4, by decide +kernel⟩
theorem cZ_yX8_grows : cr_Z yX8_grows cX8_grows 3 (some .int) 0 := ⟨cr_gw 709 (by decide +kernel) (by decide +kernel), wI_X8, by decide +kernel⟩
theorem cZ_yX8_safe : cr_Z yX8_safe cX8_safe 4 (some .int) 3 := ⟨cr_gw 713 (by decide +kernel) (by decide +kernel), wI_X8, by decide +kernel⟩
theorem cZ_yX8_areNoChances : cr_Z yX8_areNoChances cX8_areNoChances 2 (some .boolean) 2 := ⟨cr_gw 716 (by decide +kernel) (by decide +kernel), wI_X8, by decide +kernel⟩
theorem cZ_yX4_firstTouching : cr_Z yX4_firstTouching cX4_firstTouching 7 (some .int) 4 := ⟨cr_gw 720 (by decide +kernel) (by decide +kernel), wI_X4, by decide +kernel⟩
theorem cZ_yJ6_bitCount_0f7a4 : cr_Z yJ6_bitCount_0f7a4 cJ6_bitCount_0f7a4 1 (some .int) 1 := ⟨cr_gw 723 (by decide +kernel) (by decide +kernel), wI_J6, by decide +kernel⟩
theorem cZ_yX4_touches : cr_Z yX4_touches cX4_touches 6 (some .boolean) 4 := ⟨cr_gw 730 (by decide +kernel) (by decide +kernel), wI_X4, by decide +kernel⟩
theorem cZ_yX8_need : cr_Z yX8_need cX8_need 6 (some .int) 2 := ⟨cr_gw 734 (by decide +kernel) (by decide +kernel), wI_X8, by decide +kernel⟩
theorem cZ_yX8_worst : cr_Z yX8_worst cX8_worst 4 (some .int) 3 := ⟨cr_gw 739 (by decide +kernel) (by decide +kernel), wI_X8, by decide +kernel⟩
theorem cZ_yX8_sparing : cr_Z yX8_sparing cX8_sparing 6 (some .int) 0 := ⟨cr_gw 743 (by decide +kernel) (by decide +kernel), wI_X8, by decide +kernel⟩
theorem cZ_yX8_bears : cr_Z yX8_bears cX8_bears 5 (some .int) 2 := ⟨cr_gw 747 (by decide +kernel) (by decide +kernel), wI_X8, by decide +kernel⟩
theorem cZ_yX4_weightBetween : cr_Z yX4_weightBetween cX4_weightBetween 8 (some .int) 4 := ⟨cr_gw 751 (by decide +kernel) (by decide +kernel), wI_X4, by decide +kernel⟩
theorem cZ_yX8_journey : cr_Z yX8_journey cX8_journey 7 (some .int) 5 := ⟨cr_gw 756 (by decide +kernel) (by decide +kernel), wI_X8, by decide +kernel⟩
theorem cZ_yX8_clear : cr_Z yX8_clear cX8_clear 2 (some .int) 0 := ⟨cr_gw 761 (by decide +kernel) (by decide +kernel), wI_X8, by decide +kernel⟩
theorem cZ_yX8_best : cr_Z yX8_best cX8_best 3 (some .int) 1 := ⟨cr_gw 765 (by decide +kernel) (by decide +kernel), wI_X8, by decide +kernel⟩
theorem cZ_yX1_findBest : cr_Z yX1_findBest cX1_findBest 6 (some .int) 1 := ⟨cr_gw 769 (by decide +kernel) (by decide +kernel), wI_X1, by decide +kernel⟩
theorem cZ_yX1_cost : cr_Z yX1_cost cX1_cost 5 (some .int) 1 := ⟨cr_gw 773 (by decide +kernel) (by decide +kernel), wI_X1, by decide +kernel⟩
theorem cZ_yX1_burnt : cr_Z yX1_burnt cX1_burnt 6 (some .int) 3 := ⟨cr_gw 777 (by decide +kernel) (by decide +kernel), wI_X1, by decide +kernel⟩
theorem cZ_yX1_leavesWith : cr_Z yX1_leavesWith cX1_leavesWith 4 (some .boolean) 3 := ⟨cr_gw 781 (by decide +kernel) (by decide +kernel), wI_X1, by decide +kernel⟩
theorem cZ_yX1_leads : cr_Z yX1_leads cX1_leads 6 (some .boolean) 3 := ⟨cr_gw 785 (by decide +kernel) (by decide +kernel), wI_X1, by decide +kernel⟩
theorem cZ_yX1_choices : cr_Z yX1_choices cX1_choices 3 (some .int) 0 := ⟨cr_gw 793 (by decide +kernel) (by decide +kernel), wI_X1, by decide +kernel⟩
theorem cZ_yX1_turn : cr_Z yX1_turn cX1_turn 2 none 0 := ⟨cr_gw 797 (by decide +kernel) (by decide +kernel), wI_X1, by decide +kernel⟩
theorem cZ_yX8_judge : cr_Z yX8_judge cX8_judge 4 (some .int) 1 := ⟨cr_gw 801 (by decide +kernel) (by decide +kernel), wI_X8, by decide +kernel⟩
theorem cZ_yX8_spared : cr_Z yX8_spared cX8_spared 5 (some .int) 3 := ⟨cr_gw 806 (by decide +kernel) (by decide +kernel), wI_X8, by decide +kernel⟩
theorem cZ_yX8_isNoPerson : cr_Z yX8_isNoPerson cX8_isNoPerson 1 (some .boolean) 1 := ⟨cr_gw 809 (by decide +kernel) (by decide +kernel), wI_X8, by decide +kernel⟩
theorem cZ_yX8_together : cr_Z yX8_together cX8_together 2 (some .int) 1 := ⟨cr_gw 813 (by decide +kernel) (by decide +kernel), wI_X8, by decide +kernel⟩
theorem cZ_yX5_sparedOf : cr_Z yX5_sparedOf cX5_sparedOf 5 (some .int) 1 := ⟨cr_gw 817 (by decide +kernel) (by decide +kernel), wI_X5, by decide +kernel⟩
theorem cZ_yX8_share : cr_Z yX8_share cX8_share 4 (some .int) 3 := ⟨cr_gw 821 (by decide +kernel) (by decide +kernel), wI_X8, by decide +kernel⟩
theorem cZ_yX5_above : cr_Z yX5_above cX5_above 4 (some .int) 2 := ⟨cr_gw 825 (by decide +kernel) (by decide +kernel), wI_X5, by decide +kernel⟩
theorem cZ_yX5_sumOverOrders : cr_Z yX5_sumOverOrders cX5_sumOverOrders 7 (some .int) 2 := ⟨cr_gw 829 (by decide +kernel) (by decide +kernel), wI_X5, by decide +kernel⟩
theorem cZ_yX5_greatestDivisor : cr_Z yX5_greatestDivisor cX5_greatestDivisor 3 (some .int) 2 := ⟨cr_gw 836 (by decide +kernel) (by decide +kernel), wI_X5, by decide +kernel⟩
theorem cZ_yX5_below : cr_Z yX5_below cX5_below 4 (some .int) 2 := ⟨cr_gw 840 (by decide +kernel) (by decide +kernel), wI_X5, by decide +kernel⟩
theorem cZ_yX5_coins : cr_Z yX5_coins cX5_coins 10 (some .int) 2 := ⟨cr_gw 844 (by decide +kernel) (by decide +kernel), wI_X5, by decide +kernel⟩
theorem cZ_yJ9_floorMod_7cf53 : cr_Z yJ9_floorMod_7cf53 cJ9_floorMod_7cf53 3 (some .int) 2 := ⟨cr_gw 847 (by decide +kernel) (by decide +kernel), wI_J9, by decide +kernel⟩
theorem cZ_yJ9_floorDiv_7cf53 : cr_Z yJ9_floorDiv_7cf53 cJ9_floorDiv_7cf53 3 (some .int) 2 := ⟨cr_gw 850 (by decide +kernel) (by decide +kernel), wI_J9, by decide +kernel⟩
theorem cZ_yX8_clock : cr_Z yX8_clock cX8_clock 4 (some .int) 2 := ⟨cr_gw 854 (by decide +kernel) (by decide +kernel), wI_X8, by decide +kernel⟩
theorem cZ_yX8_isNoClock : cr_Z yX8_isNoClock cX8_isNoClock 1 (some .boolean) 1 := ⟨cr_gw 857 (by decide +kernel) (by decide +kernel), wI_X8, by decide +kernel⟩
theorem cZ_yX8_event : cr_Z yX8_event cX8_event 4 (some .int) 2 := ⟨cr_gw 861 (by decide +kernel) (by decide +kernel), wI_X8, by decide +kernel⟩
theorem cZ_yX8_after : cr_Z yX8_after cX8_after 4 (some .int) 3 := ⟨cr_gw 865 (by decide +kernel) (by decide +kernel), wI_X8, by decide +kernel⟩
theorem cZ_yX8_isNoEvent : cr_Z yX8_isNoEvent cX8_isNoEvent 2 (some .boolean) 1 := ⟨cr_gw 869 (by decide +kernel) (by decide +kernel), wI_X8, by decide +kernel⟩
theorem cZ_yX8_agree : cr_Z yX8_agree cX8_agree 1 (some .int) 0 := ⟨cr_gw 873 (by decide +kernel) (by decide +kernel), wI_X8, by decide +kernel⟩
theorem cZ_yX0_layTogether : cr_Z yX0_layTogether cX0_layTogether 2 (some .boolean) 0 := ⟨cr_gw 877 (by decide +kernel) (by decide +kernel), wI_X0, by decide +kernel⟩
theorem cZ_yX0_startLags : cr_Z yX0_startLags cX0_startLags 3 none 0 := ⟨cr_gw 881 (by decide +kernel) (by decide +kernel), wI_X0, by decide +kernel⟩
theorem cZ_yX0_heedAfter : cr_Z yX0_heedAfter cX0_heedAfter 7 none 3 := ⟨cr_gw 885 (by decide +kernel) (by decide +kernel), wI_X0, by decide +kernel⟩
theorem cZ_yX0_narrowLags : cr_Z yX0_narrowLags cX0_narrowLags 4 none 0 := ⟨cr_gw 890 (by decide +kernel) (by decide +kernel), wI_X0, by decide +kernel⟩
theorem cZ_yX8_span : cr_Z yX8_span cX8_span 3 (some .int) 2 := ⟨cr_gw 894 (by decide +kernel) (by decide +kernel), wI_X8, by decide +kernel⟩
theorem cZ_yX0_earliest : cr_Z yX0_earliest cX0_earliest 2 (some .int) 1 := ⟨cr_gw 898 (by decide +kernel) (by decide +kernel), wI_X0, by decide +kernel⟩
theorem cZ_yX0_latest : cr_Z yX0_latest cX0_latest 2 (some .int) 1 := ⟨cr_gw 902 (by decide +kernel) (by decide +kernel), wI_X0, by decide +kernel⟩
theorem cZ_yX8_count : cr_Z yX8_count cX8_count 2 (some .int) 1 := ⟨cr_gw 906 (by decide +kernel) (by decide +kernel), wI_X8, by decide +kernel⟩
theorem cZ_yX9_init : cr_Z yX9_init cX9_init 1 none 0 := ⟨cr_gw 911 (by decide +kernel) (by decide +kernel), wI_X9, by decide +kernel⟩
theorem cZ_yX9_make : cr_Z yX9_make cX9_make 6 (some .int) 5 := ⟨cr_gw 1112 (by decide +kernel) (by decide +kernel), wI_X9, by decide +kernel⟩
theorem cZ_yX9_isMake : cr_Z yX9_isMake cX9_isMake 1 (some .boolean) 1 := ⟨cr_gw 1115 (by decide +kernel) (by decide +kernel), wI_X9, by decide +kernel⟩
theorem cZ_yX9_in : cr_Z yX9_in cX9_in 6 (some .boolean) 3 := ⟨cr_gw 1119 (by decide +kernel) (by decide +kernel), wI_X9, by decide +kernel⟩
theorem cZ_yX9_write : cr_Z yX9_write cX9_write 5 (some .int) 2 := ⟨cr_gw 1126 (by decide +kernel) (by decide +kernel), wI_X9, by decide +kernel⟩
theorem cZ_yX9_erase : cr_Z yX9_erase cX9_erase 2 (some .int) 0 := ⟨cr_gw 1132 (by decide +kernel) (by decide +kernel), wI_X9, by decide +kernel⟩
theorem cZ_yX9_fault : cr_Z yX9_fault cX9_fault 2 (some .int) 0 := ⟨cr_gw 1136 (by decide +kernel) (by decide +kernel), wI_X9, by decide +kernel⟩
theorem cZ_yX9_token : cr_Z yX9_token cX9_token 1 none 0 := ⟨cr_gw 1140 (by decide +kernel) (by decide +kernel), wI_X9, by decide +kernel⟩
theorem cZ_yX9_sort : cr_Z yX9_sort cX9_sort 1 (some .int) 1 := ⟨cr_gw 1143 (by decide +kernel) (by decide +kernel), wI_X9, by decide +kernel⟩
theorem cZ_yX9_readsLine : cr_Z yX9_readsLine cX9_readsLine 4 (some .boolean) 0 := ⟨cr_gw 1147 (by decide +kernel) (by decide +kernel), wI_X9, by decide +kernel⟩
theorem cZ_yX9_isWord : cr_Z yX9_isWord cX9_isWord 6 (some .boolean) 2 := ⟨cr_gw 1152 (by decide +kernel) (by decide +kernel), wI_X9, by decide +kernel⟩
theorem cZ_yX9_skipsNumber : cr_Z yX9_skipsNumber cX9_skipsNumber 3 (some .boolean) 0 := ⟨cr_gw 1159 (by decide +kernel) (by decide +kernel), wI_X9, by decide +kernel⟩
theorem cZ_yX9_skips : cr_Z yX9_skips cX9_skips 5 (some .boolean) 2 := ⟨cr_gw 1164 (by decide +kernel) (by decide +kernel), wI_X9, by decide +kernel⟩
theorem cZ_yX9_readsTest : cr_Z yX9_readsTest cX9_readsTest 4 (some .boolean) 1 := ⟨cr_gw 1168 (by decide +kernel) (by decide +kernel), wI_X9, by decide +kernel⟩
theorem cZ_yX9_readingWord : cr_Z yX9_readingWord cX9_readingWord 1 (some .int) 0 := ⟨cr_gw 1172 (by decide +kernel) (by decide +kernel), wI_X9, by decide +kernel⟩
theorem cZ_yX9_table : cr_Z yX9_table cX9_table 4 (some .int) 1 := ⟨cr_gw 1185 (by decide +kernel) (by decide +kernel), wI_X9, by decide +kernel⟩
theorem cZ_yX9_row : cr_Z yX9_row cX9_row 4 (some .int) 2 := ⟨cr_gw 1190 (by decide +kernel) (by decide +kernel), wI_X9, by decide +kernel⟩
theorem cZ_yX9_set : cr_Z yX9_set cX9_set 4 (some .int) 2 := ⟨cr_gw 1195 (by decide +kernel) (by decide +kernel), wI_X9, by decide +kernel⟩
theorem cZ_yX9_push : cr_Z yX9_push cX9_push 3 (some .int) 2 := ⟨cr_gw 1201 (by decide +kernel) (by decide +kernel), wI_X9, by decide +kernel⟩
theorem cZ_yX9_calm : cr_Z yX9_calm cX9_calm 2 (some .int) 0 := ⟨cr_gw 1206 (by decide +kernel) (by decide +kernel), wI_X9, by decide +kernel⟩
theorem cZ_yX9_lose : cr_Z yX9_lose cX9_lose 2 (some .int) 1 := ⟨cr_gw 1210 (by decide +kernel) (by decide +kernel), wI_X9, by decide +kernel⟩
theorem cZ_yX9_hill : cr_Z yX9_hill cX9_hill 5 (some .int) 4 := ⟨cr_gw 1214 (by decide +kernel) (by decide +kernel), wI_X9, by decide +kernel⟩
theorem cZ_yX9_stranger : cr_Z yX9_stranger cX9_stranger 5 (some .int) 4 := ⟨cr_gw 1219 (by decide +kernel) (by decide +kernel), wI_X9, by decide +kernel⟩
theorem cZ_yX9_isLorry : cr_Z yX9_isLorry cX9_isLorry 2 (some .boolean) 1 := ⟨cr_gw 1223 (by decide +kernel) (by decide +kernel), wI_X9, by decide +kernel⟩
theorem cZ_yX9_at : cr_Z yX9_at cX9_at 5 (some .int) 3 := ⟨cr_gw 1227 (by decide +kernel) (by decide +kernel), wI_X9, by decide +kernel⟩
theorem cZ_yX9_layTold : cr_Z yX9_layTold cX9_layTold 1 none 0 := ⟨cr_gw 1232 (by decide +kernel) (by decide +kernel), wI_X9, by decide +kernel⟩
theorem cZ_yX9_layRun : cr_Z yX9_layRun cX9_layRun 5 none 3 := ⟨cr_gw 1236 (by decide +kernel) (by decide +kernel), wI_X9, by decide +kernel⟩
theorem cZ_yX9_layWishes : cr_Z yX9_layWishes cX9_layWishes 7 none 3 := ⟨cr_gw 1240 (by decide +kernel) (by decide +kernel), wI_X9, by decide +kernel⟩
theorem cZ_yX9_isStrange : cr_Z yX9_isStrange cX9_isStrange 3 (some .boolean) 2 := ⟨cr_gw 1244 (by decide +kernel) (by decide +kernel), wI_X9, by decide +kernel⟩
theorem cZ_yX9_wishBy : cr_Z yX9_wishBy cX9_wishBy 12 (some .int) 6 := ⟨cr_gw 1248 (by decide +kernel) (by decide +kernel), wI_X9, by decide +kernel⟩
theorem cZ_yX9_lesser : cr_Z yX9_lesser cX9_lesser 2 (some .int) 2 := ⟨cr_gw 1251 (by decide +kernel) (by decide +kernel), wI_X9, by decide +kernel⟩
theorem cZ_yX9_pushedIn : cr_Z yX9_pushedIn cX9_pushedIn 4 (some .int) 1 := ⟨cr_gw 1255 (by decide +kernel) (by decide +kernel), wI_X9, by decide +kernel⟩
theorem cZ_yX9_goOn : cr_Z yX9_goOn cX9_goOn 5 none 1 := ⟨cr_gw 1259 (by decide +kernel) (by decide +kernel), wI_X9, by decide +kernel⟩
theorem cZ_yX9_slopeFor : cr_Z yX9_slopeFor cX9_slopeFor 5 (some .int) 1 := ⟨cr_gw 1263 (by decide +kernel) (by decide +kernel), wI_X9, by decide +kernel⟩
theorem cZ_yX9_touch : cr_Z yX9_touch cX9_touch 2 (some .int) 1 := ⟨cr_gw 1267 (by decide +kernel) (by decide +kernel), wI_X9, by decide +kernel⟩
theorem cZ_yX9_least : cr_Z yX9_least cX9_least 4 (some .int) 1 := ⟨cr_gw 1271 (by decide +kernel) (by decide +kernel), wI_X9, by decide +kernel⟩
theorem cZ_yX9_dip : cr_Z yX9_dip cX9_dip 2 (some .int) 1 := ⟨cr_gw 1276 (by decide +kernel) (by decide +kernel), wI_X9, by decide +kernel⟩
theorem cZ_yX9_dipOf : cr_Z yX9_dipOf cX9_dipOf 4 (some .int) 1 := ⟨cr_gw 1280 (by decide +kernel) (by decide +kernel), wI_X9, by decide +kernel⟩
theorem cZ_yX9_grows : cr_Z yX9_grows cX9_grows 3 (some .int) 0 := ⟨cr_gw 1284 (by decide +kernel) (by decide +kernel), wI_X9, by decide +kernel⟩
theorem cZ_yX9_safe : cr_Z yX9_safe cX9_safe 4 (some .int) 3 := ⟨cr_gw 1288 (by decide +kernel) (by decide +kernel), wI_X9, by decide +kernel⟩
theorem cZ_yX9_areMishaps : cr_Z yX9_areMishaps cX9_areMishaps 2 (some .boolean) 2 := ⟨cr_gw 1291 (by decide +kernel) (by decide +kernel), wI_X9, by decide +kernel⟩
theorem cZ_yX9_worstOf : cr_Z yX9_worstOf cX9_worstOf 6 (some .int) 3 := ⟨cr_gw 1296 (by decide +kernel) (by decide +kernel), wI_X9, by decide +kernel⟩
theorem cZ_yX9_bits : cr_Z yX9_bits cX9_bits 3 (some .int) 1 := ⟨cr_gw 1299 (by decide +kernel) (by decide +kernel), wI_X9, by decide +kernel⟩
theorem cZ_yX9_need : cr_Z yX9_need cX9_need 4 (some .int) 2 := ⟨cr_gw 1303 (by decide +kernel) (by decide +kernel), wI_X9, by decide +kernel⟩
theorem cZ_yX9_worst : cr_Z yX9_worst cX9_worst 4 (some .int) 3 := ⟨cr_gw 1307 (by decide +kernel) (by decide +kernel), wI_X9, by decide +kernel⟩
theorem cZ_yX9_sparing : cr_Z yX9_sparing cX9_sparing 3 (some .int) 0 := ⟨cr_gw 1311 (by decide +kernel) (by decide +kernel), wI_X9, by decide +kernel⟩
theorem cZ_yX9_bears : cr_Z yX9_bears cX9_bears 7 (some .int) 2 := ⟨cr_gw 1315 (by decide +kernel) (by decide +kernel), wI_X9, by decide +kernel⟩
theorem cZ_yX9_journey : cr_Z yX9_journey cX9_journey 6 (some .int) 5 := ⟨cr_gw 1319 (by decide +kernel) (by decide +kernel), wI_X9, by decide +kernel⟩
theorem cZ_yX9_clear : cr_Z yX9_clear cX9_clear 2 (some .int) 0 := ⟨cr_gw 1324 (by decide +kernel) (by decide +kernel), wI_X9, by decide +kernel⟩
theorem cZ_yX9_best : cr_Z yX9_best cX9_best 6 (some .int) 1 := ⟨cr_gw 1328 (by decide +kernel) (by decide +kernel), wI_X9, by decide +kernel⟩
theorem cZ_yX9_burnt : cr_Z yX9_burnt cX9_burnt 6 (some .int) 0 := ⟨cr_gw 1332 (by decide +kernel) (by decide +kernel), wI_X9, by decide +kernel⟩
theorem cZ_yX9_leads : cr_Z yX9_leads cX9_leads 7 (some .boolean) 3 := ⟨cr_gw 1336 (by decide +kernel) (by decide +kernel), wI_X9, by decide +kernel⟩
theorem cZ_yX9_goes : cr_Z yX9_goes cX9_goes 4 (some .boolean) 3 := ⟨cr_gw 1340 (by decide +kernel) (by decide +kernel), wI_X9, by decide +kernel⟩
theorem cZ_yX9_judge : cr_Z yX9_judge cX9_judge 3 (some .int) 1 := ⟨cr_gw 1344 (by decide +kernel) (by decide +kernel), wI_X9, by decide +kernel⟩
theorem cZ_yX9_spared : cr_Z yX9_spared cX9_spared 5 (some .int) 3 := ⟨cr_gw 1348 (by decide +kernel) (by decide +kernel), wI_X9, by decide +kernel⟩
theorem cZ_yX9_isSix : cr_Z yX9_isSix cX9_isSix 1 (some .boolean) 1 := ⟨cr_gw 1351 (by decide +kernel) (by decide +kernel), wI_X9, by decide +kernel⟩
theorem cZ_yX9_together : cr_Z yX9_together cX9_together 2 (some .int) 1 := ⟨cr_gw 1355 (by decide +kernel) (by decide +kernel), wI_X9, by decide +kernel⟩
theorem cZ_yX9_sparedIn : cr_Z yX9_sparedIn cX9_sparedIn 5 (some .int) 1 := ⟨cr_gw 1360 (by decide +kernel) (by decide +kernel), wI_X9, by decide +kernel⟩
theorem cZ_yX9_share : cr_Z yX9_share cX9_share 6 (some .int) 3 := ⟨cr_gw 1364 (by decide +kernel) (by decide +kernel), wI_X9, by decide +kernel⟩
theorem cZ_yX9_coins : cr_Z yX9_coins cX9_coins 10 (some .int) 2 := ⟨cr_gw 1368 (by decide +kernel) (by decide +kernel), wI_X9, by decide +kernel⟩
theorem cZ_yX9_factorial : cr_Z yX9_factorial cX9_factorial 3 (some .int) 1 := ⟨cr_gw 1371 (by decide +kernel) (by decide +kernel), wI_X9, by decide +kernel⟩
theorem cZ_yX9_shareOf : cr_Z yX9_shareOf cX9_shareOf 6 (some .int) 2 := ⟨cr_gw 1375 (by decide +kernel) (by decide +kernel), wI_X9, by decide +kernel⟩
theorem cZ_yX9_cut : cr_Z yX9_cut cX9_cut 2 (some .int) 2 := ⟨cr_gw 1378 (by decide +kernel) (by decide +kernel), wI_X9, by decide +kernel⟩
theorem cZ_yX9_divisor : cr_Z yX9_divisor cX9_divisor 5 (some .int) 2 := ⟨cr_gw 1381 (by decide +kernel) (by decide +kernel), wI_X9, by decide +kernel⟩
theorem cZ_yX9_clock : cr_Z yX9_clock cX9_clock 4 (some .int) 2 := ⟨cr_gw 1385 (by decide +kernel) (by decide +kernel), wI_X9, by decide +kernel⟩
theorem cZ_yX9_event : cr_Z yX9_event cX9_event 3 (some .int) 2 := ⟨cr_gw 1390 (by decide +kernel) (by decide +kernel), wI_X9, by decide +kernel⟩
theorem cZ_yX9_after : cr_Z yX9_after cX9_after 4 (some .int) 3 := ⟨cr_gw 1395 (by decide +kernel) (by decide +kernel), wI_X9, by decide +kernel⟩
theorem cZ_yX9_isEvent : cr_Z yX9_isEvent cX9_isEvent 2 (some .boolean) 1 := ⟨cr_gw 1399 (by decide +kernel) (by decide +kernel), wI_X9, by decide +kernel⟩
theorem cZ_yX9_agree : cr_Z yX9_agree cX9_agree 1 (some .int) 0 := ⟨cr_gw 1403 (by decide +kernel) (by decide +kernel), wI_X9, by decide +kernel⟩
theorem cZ_yX9_layOffs : cr_Z yX9_layOffs cX9_layOffs 6 (some .boolean) 0 := ⟨cr_gw 1407 (by decide +kernel) (by decide +kernel), wI_X9, by decide +kernel⟩
theorem cZ_yX9_span : cr_Z yX9_span cX9_span 3 (some .int) 2 := ⟨cr_gw 1411 (by decide +kernel) (by decide +kernel), wI_X9, by decide +kernel⟩
theorem cZ_yX9_count : cr_Z yX9_count cX9_count 2 (some .int) 1 := ⟨cr_gw 1415 (by decide +kernel) (by decide +kernel), wI_X9, by decide +kernel⟩
end
section
theorem dX0_init_0 : decode cX0_init 0 = .ok (.aload_n 0, 1) := by decide +kernel
theorem dX0_init_1 : decode cX0_init 1 = .ok (.invokespecial 3, 3) := by decide +kernel
theorem dX0_init_4 : decode cX0_init 4 = .ok (.aload_n 0, 1) := by decide +kernel
theorem dX0_init_5 : decode cX0_init 5 = .ok (.bipush 7, 2) := by decide +kernel
theorem dX0_init_7 : decode cX0_init 7 = .ok (.newarray .int, 2) := by decide +kernel
theorem dX0_init_9 : decode cX0_init 9 = .ok (.putfield 9, 3) := by decide +kernel
theorem dX0_init_12 : decode cX0_init 12 = .ok (.aload_n 0, 1) := by decide +kernel
theorem dX0_init_13 : decode cX0_init 13 = .ok (.iconst 0, 1) := by decide +kernel
theorem dX0_init_14 : decode cX0_init 14 = .ok (.putfield 15, 3) := by decide +kernel
theorem dX0_init_17 : decode cX0_init 17 = .ok (.aload_n 0, 1) := by decide +kernel
theorem dX0_init_18 : decode cX0_init 18 = .ok (.bipush 12, 2) := by decide +kernel
theorem dX0_init_20 : decode cX0_init 20 = .ok (.newarray .int, 2) := by decide +kernel
theorem dX0_init_22 : decode cX0_init 22 = .ok (.putfield 19, 3) := by decide +kernel
theorem dX0_init_25 : decode cX0_init 25 = .ok (.aload_n 0, 1) := by decide +kernel
theorem dX0_init_26 : decode cX0_init 26 = .ok (.bipush 12, 2) := by decide +kernel
theorem dX0_init_28 : decode cX0_init 28 = .ok (.newarray .int, 2) := by decide +kernel
theorem dX0_init_30 : decode cX0_init 30 = .ok (.putfield 22, 3) := by decide +kernel
theorem dX0_init_33 : decode cX0_init 33 = .ok (.aload_n 0, 1) := by decide +kernel
theorem dX0_init_34 : decode cX0_init 34 = .ok (.iconst 0, 1) := by decide +kernel
theorem dX0_init_35 : decode cX0_init 35 = .ok (.putfield 25, 3) := by decide +kernel
theorem dX0_init_38 : decode cX0_init 38 = .ok (.aload_n 0, 1) := by decide +kernel
theorem dX0_init_39 : decode cX0_init 39 = .ok (.bipush 12, 2) := by decide +kernel
theorem dX0_init_41 : decode cX0_init 41 = .ok (.newarray .int, 2) := by decide +kernel
theorem dX0_init_43 : decode cX0_init 43 = .ok (.putfield 28, 3) := by decide +kernel
theorem dX0_init_46 : decode cX0_init 46 = .ok (.aload_n 0, 1) := by decide +kernel
theorem dX0_init_47 : decode cX0_init 47 = .ok (.bipush 12, 2) := by decide +kernel
theorem dX0_init_49 : decode cX0_init 49 = .ok (.newarray .int, 2) := by decide +kernel
theorem dX0_init_51 : decode cX0_init 51 = .ok (.putfield 31, 3) := by decide +kernel
theorem dX0_init_54 : decode cX0_init 54 = .ok (.aload_n 0, 1) := by decide +kernel
theorem dX0_init_55 : decode cX0_init 55 = .ok (.bipush 12, 2) := by decide +kernel
theorem dX0_init_57 : decode cX0_init 57 = .ok (.newarray .int, 2) := by decide +kernel
theorem dX0_init_59 : decode cX0_init 59 = .ok (.putfield 34, 3) := by decide +kernel
theorem dX0_init_62 : decode cX0_init 62 = .ok (.aload_n 0, 1) := by decide +kernel
theorem dX0_init_63 : decode cX0_init 63 = .ok (.bipush 7, 2) := by decide +kernel
theorem dX0_init_65 : decode cX0_init 65 = .ok (.bipush 7, 2) := by decide +kernel
theorem dX0_init_67 : decode cX0_init 67 = .ok (.multianewarray 37 2, 4) := by decide +kernel
theorem dX0_init_71 : decode cX0_init 71 = .ok (.putfield 39, 3) := by decide +kernel
theorem dX0_init_74 : decode cX0_init 74 = .ok (.return_, 1) := by decide +kernel
theorem dX0_layTogether_0 : decode cX0_layTogether 0 = .ok (.aload_n 0, 1) := by decide +kernel
theorem dX0_layTogether_1 : decode cX0_layTogether 1 = .ok (.invokevirtual 42, 3) := by decide +kernel
theorem dX0_layTogether_4 : decode cX0_layTogether 4 = .ok (.iconst 0, 1) := by decide +kernel
theorem dX0_layTogether_5 : decode cX0_layTogether 5 = .ok (.istore_n 1, 1) := by decide +kernel
theorem dX0_layTogether_6 : decode cX0_layTogether 6 = .ok (.iload_n 1, 1) := by decide +kernel
theorem dX0_layTogether_7 : decode cX0_layTogether 7 = .ok (.aload_n 0, 1) := by decide +kernel
theorem dX0_layTogether_8 : decode cX0_layTogether 8 = .ok (.getfield 25, 3) := by decide +kernel
theorem dX0_layTogether_11 : decode cX0_layTogether 11 = .ok (.if_icmp .ge 31, 3) := by decide +kernel
theorem dX0_layTogether_14 : decode cX0_layTogether 14 = .ok (.aload_n 0, 1) := by decide +kernel
theorem dX0_layTogether_15 : decode cX0_layTogether 15 = .ok (.aload_n 0, 1) := by decide +kernel
theorem dX0_layTogether_16 : decode cX0_layTogether 16 = .ok (.getfield 28, 3) := by decide +kernel
theorem dX0_layTogether_19 : decode cX0_layTogether 19 = .ok (.iload_n 1, 1) := by decide +kernel
theorem dX0_layTogether_20 : decode cX0_layTogether 20 = .ok (.iaload, 1) := by decide +kernel
theorem dX0_layTogether_21 : decode cX0_layTogether 21 = .ok (.aload_n 0, 1) := by decide +kernel
theorem dX0_layTogether_22 : decode cX0_layTogether 22 = .ok (.getfield 31, 3) := by decide +kernel
theorem dX0_layTogether_25 : decode cX0_layTogether 25 = .ok (.iload_n 1, 1) := by decide +kernel
theorem dX0_layTogether_26 : decode cX0_layTogether 26 = .ok (.iaload, 1) := by decide +kernel
theorem dX0_layTogether_27 : decode cX0_layTogether 27 = .ok (.aload_n 0, 1) := by decide +kernel
theorem dX0_layTogether_28 : decode cX0_layTogether 28 = .ok (.getfield 34, 3) := by decide +kernel
theorem dX0_layTogether_31 : decode cX0_layTogether 31 = .ok (.iload_n 1, 1) := by decide +kernel
theorem dX0_layTogether_32 : decode cX0_layTogether 32 = .ok (.iaload, 1) := by decide +kernel
theorem dX0_layTogether_33 : decode cX0_layTogether 33 = .ok (.invokevirtual 45, 3) := by decide +kernel
theorem dX0_layTogether_36 : decode cX0_layTogether 36 = .ok (.iinc 1 1, 3) := by decide +kernel
theorem dX0_layTogether_39 : decode cX0_layTogether 39 = .ok (.goto (-33), 3) := by decide +kernel
theorem dX0_layTogether_42 : decode cX0_layTogether 42 = .ok (.aload_n 0, 1) := by decide +kernel
theorem dX0_layTogether_43 : decode cX0_layTogether 43 = .ok (.invokevirtual 49, 3) := by decide +kernel
theorem dX0_layTogether_46 : decode cX0_layTogether 46 = .ok (.iconst 0, 1) := by decide +kernel
theorem dX0_layTogether_47 : decode cX0_layTogether 47 = .ok (.istore_n 1, 1) := by decide +kernel
theorem dX0_layTogether_48 : decode cX0_layTogether 48 = .ok (.iload_n 1, 1) := by decide +kernel
theorem dX0_layTogether_49 : decode cX0_layTogether 49 = .ok (.bipush 6, 2) := by decide +kernel
theorem dX0_layTogether_51 : decode cX0_layTogether 51 = .ok (.if_icmp .gt 22, 3) := by decide +kernel
theorem dX0_layTogether_54 : decode cX0_layTogether 54 = .ok (.aload_n 0, 1) := by decide +kernel
theorem dX0_layTogether_55 : decode cX0_layTogether 55 = .ok (.getfield 39, 3) := by decide +kernel
theorem dX0_layTogether_58 : decode cX0_layTogether 58 = .ok (.iload_n 1, 1) := by decide +kernel
theorem dX0_layTogether_59 : decode cX0_layTogether 59 = .ok (.aaload, 1) := by decide +kernel
theorem dX0_layTogether_60 : decode cX0_layTogether 60 = .ok (.iload_n 1, 1) := by decide +kernel
theorem dX0_layTogether_61 : decode cX0_layTogether 61 = .ok (.iaload, 1) := by decide +kernel
theorem dX0_layTogether_62 : decode cX0_layTogether 62 = .ok (.ifCond .ge 5, 3) := by decide +kernel
theorem dX0_layTogether_65 : decode cX0_layTogether 65 = .ok (.iconst 0, 1) := by decide +kernel
theorem dX0_layTogether_66 : decode cX0_layTogether 66 = .ok (.ireturn, 1) := by decide +kernel
theorem dX0_layTogether_67 : decode cX0_layTogether 67 = .ok (.iinc 1 1, 3) := by decide +kernel
theorem dX0_layTogether_70 : decode cX0_layTogether 70 = .ok (.goto (-22), 3) := by decide +kernel
theorem dX0_layTogether_73 : decode cX0_layTogether 73 = .ok (.iconst 1, 1) := by decide +kernel
theorem dX0_layTogether_74 : decode cX0_layTogether 74 = .ok (.ireturn, 1) := by decide +kernel
theorem dX0_earliest_0 : decode cX0_earliest 0 = .ok (.aload_n 0, 1) := by decide +kernel
theorem dX0_earliest_1 : decode cX0_earliest 1 = .ok (.getfield 22, 3) := by decide +kernel
theorem dX0_earliest_4 : decode cX0_earliest 4 = .ok (.iload_n 1, 1) := by decide +kernel
theorem dX0_earliest_5 : decode cX0_earliest 5 = .ok (.iaload, 1) := by decide +kernel
theorem dX0_earliest_6 : decode cX0_earliest 6 = .ok (.aload_n 0, 1) := by decide +kernel
theorem dX0_earliest_7 : decode cX0_earliest 7 = .ok (.getfield 39, 3) := by decide +kernel
theorem dX0_earliest_10 : decode cX0_earliest 10 = .ok (.bipush 6, 2) := by decide +kernel
theorem dX0_earliest_12 : decode cX0_earliest 12 = .ok (.aaload, 1) := by decide +kernel
theorem dX0_earliest_13 : decode cX0_earliest 13 = .ok (.aload_n 0, 1) := by decide +kernel
theorem dX0_earliest_14 : decode cX0_earliest 14 = .ok (.getfield 19, 3) := by decide +kernel
theorem dX0_earliest_17 : decode cX0_earliest 17 = .ok (.iload_n 1, 1) := by decide +kernel
theorem dX0_earliest_18 : decode cX0_earliest 18 = .ok (.iaload, 1) := by decide +kernel
theorem dX0_earliest_19 : decode cX0_earliest 19 = .ok (.iaload, 1) := by decide +kernel
theorem dX0_earliest_20 : decode cX0_earliest 20 = .ok (.isub, 1) := by decide +kernel
theorem dX0_earliest_21 : decode cX0_earliest 21 = .ok (.ireturn, 1) := by decide +kernel
theorem dX0_latest_0 : decode cX0_latest 0 = .ok (.aload_n 0, 1) := by decide +kernel
theorem dX0_latest_1 : decode cX0_latest 1 = .ok (.getfield 22, 3) := by decide +kernel
theorem dX0_latest_4 : decode cX0_latest 4 = .ok (.iload_n 1, 1) := by decide +kernel
theorem dX0_latest_5 : decode cX0_latest 5 = .ok (.iaload, 1) := by decide +kernel
theorem dX0_latest_6 : decode cX0_latest 6 = .ok (.aload_n 0, 1) := by decide +kernel
theorem dX0_latest_7 : decode cX0_latest 7 = .ok (.getfield 39, 3) := by decide +kernel
theorem dX0_latest_10 : decode cX0_latest 10 = .ok (.aload_n 0, 1) := by decide +kernel
theorem dX0_latest_11 : decode cX0_latest 11 = .ok (.getfield 19, 3) := by decide +kernel
theorem dX0_latest_14 : decode cX0_latest 14 = .ok (.iload_n 1, 1) := by decide +kernel
theorem dX0_latest_15 : decode cX0_latest 15 = .ok (.iaload, 1) := by decide +kernel
theorem dX0_latest_16 : decode cX0_latest 16 = .ok (.aaload, 1) := by decide +kernel
theorem dX0_latest_17 : decode cX0_latest 17 = .ok (.bipush 6, 2) := by decide +kernel
theorem dX0_latest_19 : decode cX0_latest 19 = .ok (.iaload, 1) := by decide +kernel
theorem dX0_latest_20 : decode cX0_latest 20 = .ok (.iadd, 1) := by decide +kernel
theorem dX0_latest_21 : decode cX0_latest 21 = .ok (.ireturn, 1) := by decide +kernel
theorem dX0_startLags_0 : decode cX0_startLags 0 = .ok (.iconst 0, 1) := by decide +kernel
theorem dX0_startLags_1 : decode cX0_startLags 1 = .ok (.istore_n 1, 1) := by decide +kernel
theorem dX0_startLags_2 : decode cX0_startLags 2 = .ok (.iload_n 1, 1) := by decide +kernel
theorem dX0_startLags_3 : decode cX0_startLags 3 = .ok (.bipush 6, 2) := by decide +kernel
theorem dX0_startLags_5 : decode cX0_startLags 5 = .ok (.if_icmp .gt 53, 3) := by decide +kernel
theorem dX0_startLags_8 : decode cX0_startLags 8 = .ok (.iconst 0, 1) := by decide +kernel
theorem dX0_startLags_9 : decode cX0_startLags 9 = .ok (.istore_n 2, 1) := by decide +kernel
theorem dX0_startLags_10 : decode cX0_startLags 10 = .ok (.iload_n 2, 1) := by decide +kernel
theorem dX0_startLags_11 : decode cX0_startLags 11 = .ok (.bipush 6, 2) := by decide +kernel
theorem dX0_startLags_13 : decode cX0_startLags 13 = .ok (.if_icmp .gt 39, 3) := by decide +kernel
theorem dX0_startLags_16 : decode cX0_startLags 16 = .ok (.aload_n 0, 1) := by decide +kernel
theorem dX0_startLags_17 : decode cX0_startLags 17 = .ok (.getfield 39, 3) := by decide +kernel
theorem dX0_startLags_20 : decode cX0_startLags 20 = .ok (.iload_n 1, 1) := by decide +kernel
theorem dX0_startLags_21 : decode cX0_startLags 21 = .ok (.aaload, 1) := by decide +kernel
theorem dX0_startLags_22 : decode cX0_startLags 22 = .ok (.iload_n 2, 1) := by decide +kernel
theorem dX0_startLags_23 : decode cX0_startLags 23 = .ok (.iload_n 1, 1) := by decide +kernel
theorem dX0_startLags_24 : decode cX0_startLags 24 = .ok (.iload_n 2, 1) := by decide +kernel
theorem dX0_startLags_25 : decode cX0_startLags 25 = .ok (.if_icmp .ne 7, 3) := by decide +kernel
theorem dX0_startLags_28 : decode cX0_startLags 28 = .ok (.iconst 0, 1) := by decide +kernel
theorem dX0_startLags_29 : decode cX0_startLags 29 = .ok (.goto 16, 3) := by decide +kernel
theorem dX0_startLags_32 : decode cX0_startLags 32 = .ok (.aload_n 0, 1) := by decide +kernel
theorem dX0_startLags_33 : decode cX0_startLags 33 = .ok (.getfield 9, 3) := by decide +kernel
theorem dX0_startLags_36 : decode cX0_startLags 36 = .ok (.iload_n 1, 1) := by decide +kernel
theorem dX0_startLags_37 : decode cX0_startLags 37 = .ok (.iaload, 1) := by decide +kernel
theorem dX0_startLags_38 : decode cX0_startLags 38 = .ok (.aload_n 0, 1) := by decide +kernel
theorem dX0_startLags_39 : decode cX0_startLags 39 = .ok (.getfield 9, 3) := by decide +kernel
theorem dX0_startLags_42 : decode cX0_startLags 42 = .ok (.iload_n 2, 1) := by decide +kernel
theorem dX0_startLags_43 : decode cX0_startLags 43 = .ok (.iaload, 1) := by decide +kernel
theorem dX0_startLags_44 : decode cX0_startLags 44 = .ok (.iadd, 1) := by decide +kernel
theorem dX0_startLags_45 : decode cX0_startLags 45 = .ok (.iastore, 1) := by decide +kernel
theorem dX0_startLags_46 : decode cX0_startLags 46 = .ok (.iinc 2 1, 3) := by decide +kernel
theorem dX0_startLags_49 : decode cX0_startLags 49 = .ok (.goto (-39), 3) := by decide +kernel
theorem dX0_startLags_52 : decode cX0_startLags 52 = .ok (.iinc 1 1, 3) := by decide +kernel
theorem dX0_startLags_55 : decode cX0_startLags 55 = .ok (.goto (-53), 3) := by decide +kernel
theorem dX0_startLags_58 : decode cX0_startLags 58 = .ok (.return_, 1) := by decide +kernel
theorem dX0_heedAfter_0 : decode cX0_heedAfter 0 = .ok (.aload_n 0, 1) := by decide +kernel
theorem dX0_heedAfter_1 : decode cX0_heedAfter 1 = .ok (.getfield 22, 3) := by decide +kernel
theorem dX0_heedAfter_4 : decode cX0_heedAfter 4 = .ok (.iload_n 2, 1) := by decide +kernel
theorem dX0_heedAfter_5 : decode cX0_heedAfter 5 = .ok (.iaload, 1) := by decide +kernel
theorem dX0_heedAfter_6 : decode cX0_heedAfter 6 = .ok (.aload_n 0, 1) := by decide +kernel
theorem dX0_heedAfter_7 : decode cX0_heedAfter 7 = .ok (.getfield 22, 3) := by decide +kernel
theorem dX0_heedAfter_10 : decode cX0_heedAfter 10 = .ok (.iload_n 1, 1) := by decide +kernel
theorem dX0_heedAfter_11 : decode cX0_heedAfter 11 = .ok (.iaload, 1) := by decide +kernel
theorem dX0_heedAfter_12 : decode cX0_heedAfter 12 = .ok (.isub, 1) := by decide +kernel
theorem dX0_heedAfter_13 : decode cX0_heedAfter 13 = .ok (.iload_n 3, 1) := by decide +kernel
theorem dX0_heedAfter_14 : decode cX0_heedAfter 14 = .ok (.isub, 1) := by decide +kernel
theorem dX0_heedAfter_15 : decode cX0_heedAfter 15 = .ok (.istore 4, 2) := by decide +kernel
theorem dX0_heedAfter_17 : decode cX0_heedAfter 17 = .ok (.aload_n 0, 1) := by decide +kernel
theorem dX0_heedAfter_18 : decode cX0_heedAfter 18 = .ok (.getfield 19, 3) := by decide +kernel
theorem dX0_heedAfter_21 : decode cX0_heedAfter 21 = .ok (.iload_n 1, 1) := by decide +kernel
theorem dX0_heedAfter_22 : decode cX0_heedAfter 22 = .ok (.iaload, 1) := by decide +kernel
theorem dX0_heedAfter_23 : decode cX0_heedAfter 23 = .ok (.istore 5, 2) := by decide +kernel
theorem dX0_heedAfter_25 : decode cX0_heedAfter 25 = .ok (.aload_n 0, 1) := by decide +kernel
theorem dX0_heedAfter_26 : decode cX0_heedAfter 26 = .ok (.getfield 19, 3) := by decide +kernel
theorem dX0_heedAfter_29 : decode cX0_heedAfter 29 = .ok (.iload_n 2, 1) := by decide +kernel
theorem dX0_heedAfter_30 : decode cX0_heedAfter 30 = .ok (.iaload, 1) := by decide +kernel
theorem dX0_heedAfter_31 : decode cX0_heedAfter 31 = .ok (.istore 6, 2) := by decide +kernel
theorem dX0_heedAfter_33 : decode cX0_heedAfter 33 = .ok (.aload_n 0, 1) := by decide +kernel
theorem dX0_heedAfter_34 : decode cX0_heedAfter 34 = .ok (.getfield 39, 3) := by decide +kernel
theorem dX0_heedAfter_37 : decode cX0_heedAfter 37 = .ok (.iload 5, 2) := by decide +kernel
theorem dX0_heedAfter_39 : decode cX0_heedAfter 39 = .ok (.aaload, 1) := by decide +kernel
theorem dX0_heedAfter_40 : decode cX0_heedAfter 40 = .ok (.iload 6, 2) := by decide +kernel
theorem dX0_heedAfter_42 : decode cX0_heedAfter 42 = .ok (.aload_n 0, 1) := by decide +kernel
theorem dX0_heedAfter_43 : decode cX0_heedAfter 43 = .ok (.getfield 39, 3) := by decide +kernel
theorem dX0_heedAfter_46 : decode cX0_heedAfter 46 = .ok (.iload 5, 2) := by decide +kernel
theorem dX0_heedAfter_48 : decode cX0_heedAfter 48 = .ok (.aaload, 1) := by decide +kernel
theorem dX0_heedAfter_49 : decode cX0_heedAfter 49 = .ok (.iload 6, 2) := by decide +kernel
theorem dX0_heedAfter_51 : decode cX0_heedAfter 51 = .ok (.iaload, 1) := by decide +kernel
theorem dX0_heedAfter_52 : decode cX0_heedAfter 52 = .ok (.iload 4, 2) := by decide +kernel
theorem dX0_heedAfter_54 : decode cX0_heedAfter 54 = .ok (.invokestatic 52, 3) := by decide +kernel
theorem dX0_heedAfter_57 : decode cX0_heedAfter 57 = .ok (.iastore, 1) := by decide +kernel
theorem dX0_heedAfter_58 : decode cX0_heedAfter 58 = .ok (.return_, 1) := by decide +kernel
theorem dX0_narrowLags_0 : decode cX0_narrowLags 0 = .ok (.iconst 0, 1) := by decide +kernel
theorem dX0_narrowLags_1 : decode cX0_narrowLags 1 = .ok (.istore_n 1, 1) := by decide +kernel
theorem dX0_narrowLags_2 : decode cX0_narrowLags 2 = .ok (.iload_n 1, 1) := by decide +kernel
theorem dX0_narrowLags_3 : decode cX0_narrowLags 3 = .ok (.bipush 6, 2) := by decide +kernel
theorem dX0_narrowLags_5 : decode cX0_narrowLags 5 = .ok (.if_icmp .gt 73, 3) := by decide +kernel
theorem dX0_narrowLags_8 : decode cX0_narrowLags 8 = .ok (.iconst 0, 1) := by decide +kernel
theorem dX0_narrowLags_9 : decode cX0_narrowLags 9 = .ok (.istore_n 2, 1) := by decide +kernel
theorem dX0_narrowLags_10 : decode cX0_narrowLags 10 = .ok (.iload_n 2, 1) := by decide +kernel
theorem dX0_narrowLags_11 : decode cX0_narrowLags 11 = .ok (.bipush 6, 2) := by decide +kernel
theorem dX0_narrowLags_13 : decode cX0_narrowLags 13 = .ok (.if_icmp .gt 59, 3) := by decide +kernel
theorem dX0_narrowLags_16 : decode cX0_narrowLags 16 = .ok (.iconst 0, 1) := by decide +kernel
theorem dX0_narrowLags_17 : decode cX0_narrowLags 17 = .ok (.istore_n 3, 1) := by decide +kernel
theorem dX0_narrowLags_18 : decode cX0_narrowLags 18 = .ok (.iload_n 3, 1) := by decide +kernel
theorem dX0_narrowLags_19 : decode cX0_narrowLags 19 = .ok (.bipush 6, 2) := by decide +kernel
theorem dX0_narrowLags_21 : decode cX0_narrowLags 21 = .ok (.if_icmp .gt 45, 3) := by decide +kernel
theorem dX0_narrowLags_24 : decode cX0_narrowLags 24 = .ok (.aload_n 0, 1) := by decide +kernel
theorem dX0_narrowLags_25 : decode cX0_narrowLags 25 = .ok (.getfield 39, 3) := by decide +kernel
theorem dX0_narrowLags_28 : decode cX0_narrowLags 28 = .ok (.iload_n 2, 1) := by decide +kernel
theorem dX0_narrowLags_29 : decode cX0_narrowLags 29 = .ok (.aaload, 1) := by decide +kernel
theorem dX0_narrowLags_30 : decode cX0_narrowLags 30 = .ok (.iload_n 3, 1) := by decide +kernel
theorem dX0_narrowLags_31 : decode cX0_narrowLags 31 = .ok (.aload_n 0, 1) := by decide +kernel
theorem dX0_narrowLags_32 : decode cX0_narrowLags 32 = .ok (.getfield 39, 3) := by decide +kernel
theorem dX0_narrowLags_35 : decode cX0_narrowLags 35 = .ok (.iload_n 2, 1) := by decide +kernel
theorem dX0_narrowLags_36 : decode cX0_narrowLags 36 = .ok (.aaload, 1) := by decide +kernel
theorem dX0_narrowLags_37 : decode cX0_narrowLags 37 = .ok (.iload_n 3, 1) := by decide +kernel
theorem dX0_narrowLags_38 : decode cX0_narrowLags 38 = .ok (.iaload, 1) := by decide +kernel
theorem dX0_narrowLags_39 : decode cX0_narrowLags 39 = .ok (.aload_n 0, 1) := by decide +kernel
theorem dX0_narrowLags_40 : decode cX0_narrowLags 40 = .ok (.getfield 39, 3) := by decide +kernel
theorem dX0_narrowLags_43 : decode cX0_narrowLags 43 = .ok (.iload_n 2, 1) := by decide +kernel
theorem dX0_narrowLags_44 : decode cX0_narrowLags 44 = .ok (.aaload, 1) := by decide +kernel
theorem dX0_narrowLags_45 : decode cX0_narrowLags 45 = .ok (.iload_n 1, 1) := by decide +kernel
theorem dX0_narrowLags_46 : decode cX0_narrowLags 46 = .ok (.iaload, 1) := by decide +kernel
theorem dX0_narrowLags_47 : decode cX0_narrowLags 47 = .ok (.aload_n 0, 1) := by decide +kernel
theorem dX0_narrowLags_48 : decode cX0_narrowLags 48 = .ok (.getfield 39, 3) := by decide +kernel
theorem dX0_narrowLags_51 : decode cX0_narrowLags 51 = .ok (.iload_n 1, 1) := by decide +kernel
theorem dX0_narrowLags_52 : decode cX0_narrowLags 52 = .ok (.aaload, 1) := by decide +kernel
theorem dX0_narrowLags_53 : decode cX0_narrowLags 53 = .ok (.iload_n 3, 1) := by decide +kernel
theorem dX0_narrowLags_54 : decode cX0_narrowLags 54 = .ok (.iaload, 1) := by decide +kernel
theorem dX0_narrowLags_55 : decode cX0_narrowLags 55 = .ok (.iadd, 1) := by decide +kernel
theorem dX0_narrowLags_56 : decode cX0_narrowLags 56 = .ok (.invokestatic 52, 3) := by decide +kernel
theorem dX0_narrowLags_59 : decode cX0_narrowLags 59 = .ok (.iastore, 1) := by decide +kernel
theorem dX0_narrowLags_60 : decode cX0_narrowLags 60 = .ok (.iinc 3 1, 3) := by decide +kernel
theorem dX0_narrowLags_63 : decode cX0_narrowLags 63 = .ok (.goto (-45), 3) := by decide +kernel
theorem dX0_narrowLags_66 : decode cX0_narrowLags 66 = .ok (.iinc 2 1, 3) := by decide +kernel
theorem dX0_narrowLags_69 : decode cX0_narrowLags 69 = .ok (.goto (-59), 3) := by decide +kernel
theorem dX0_narrowLags_72 : decode cX0_narrowLags 72 = .ok (.iinc 1 1, 3) := by decide +kernel
theorem dX0_narrowLags_75 : decode cX0_narrowLags 75 = .ok (.goto (-73), 3) := by decide +kernel
theorem dX0_narrowLags_78 : decode cX0_narrowLags 78 = .ok (.return_, 1) := by decide +kernel
theorem dX1_init_0 : decode cX1_init 0 = .ok (.aload_n 0, 1) := by decide +kernel
theorem dX1_init_1 : decode cX1_init 1 = .ok (.invokespecial 3, 3) := by decide +kernel
theorem dX1_init_4 : decode cX1_init 4 = .ok (.aload_n 0, 1) := by decide +kernel
theorem dX1_init_5 : decode cX1_init 5 = .ok (.iconst 0, 1) := by decide +kernel
theorem dX1_init_6 : decode cX1_init 6 = .ok (.putfield 9, 3) := by decide +kernel
theorem dX1_init_9 : decode cX1_init 9 = .ok (.aload_n 0, 1) := by decide +kernel
theorem dX1_init_10 : decode cX1_init 10 = .ok (.iconst 5, 1) := by decide +kernel
theorem dX1_init_11 : decode cX1_init 11 = .ok (.newarray .int, 2) := by decide +kernel
theorem dX1_init_13 : decode cX1_init 13 = .ok (.putfield 15, 3) := by decide +kernel
theorem dX1_init_16 : decode cX1_init 16 = .ok (.aload_n 0, 1) := by decide +kernel
theorem dX1_init_17 : decode cX1_init 17 = .ok (.iconst 5, 1) := by decide +kernel
theorem dX1_init_18 : decode cX1_init 18 = .ok (.newarray .int, 2) := by decide +kernel
theorem dX1_init_20 : decode cX1_init 20 = .ok (.putfield 19, 3) := by decide +kernel
theorem dX1_init_23 : decode cX1_init 23 = .ok (.aload_n 0, 1) := by decide +kernel
theorem dX1_init_24 : decode cX1_init 24 = .ok (.iconst 5, 1) := by decide +kernel
theorem dX1_init_25 : decode cX1_init 25 = .ok (.newarray .int, 2) := by decide +kernel
theorem dX1_init_27 : decode cX1_init 27 = .ok (.putfield 22, 3) := by decide +kernel
theorem dX1_init_30 : decode cX1_init 30 = .ok (.aload_n 0, 1) := by decide +kernel
theorem dX1_init_31 : decode cX1_init 31 = .ok (.iconst 5, 1) := by decide +kernel
theorem dX1_init_32 : decode cX1_init 32 = .ok (.newarray .int, 2) := by decide +kernel
theorem dX1_init_34 : decode cX1_init 34 = .ok (.putfield 25, 3) := by decide +kernel
theorem dX1_init_37 : decode cX1_init 37 = .ok (.aload_n 0, 1) := by decide +kernel
theorem dX1_init_38 : decode cX1_init 38 = .ok (.iconst 5, 1) := by decide +kernel
theorem dX1_init_39 : decode cX1_init 39 = .ok (.newarray .int, 2) := by decide +kernel
theorem dX1_init_41 : decode cX1_init 41 = .ok (.putfield 28, 3) := by decide +kernel
theorem dX1_init_44 : decode cX1_init 44 = .ok (.aload_n 0, 1) := by decide +kernel
theorem dX1_init_45 : decode cX1_init 45 = .ok (.iconst 5, 1) := by decide +kernel
theorem dX1_init_46 : decode cX1_init 46 = .ok (.newarray .int, 2) := by decide +kernel
theorem dX1_init_48 : decode cX1_init 48 = .ok (.putfield 31, 3) := by decide +kernel
theorem dX1_init_51 : decode cX1_init 51 = .ok (.aload_n 0, 1) := by decide +kernel
theorem dX1_init_52 : decode cX1_init 52 = .ok (.iconst 5, 1) := by decide +kernel
theorem dX1_init_53 : decode cX1_init 53 = .ok (.newarray .int, 2) := by decide +kernel
theorem dX1_init_55 : decode cX1_init 55 = .ok (.putfield 34, 3) := by decide +kernel
theorem dX1_init_58 : decode cX1_init 58 = .ok (.return_, 1) := by decide +kernel
theorem dX1_cost_0 : decode cX1_cost 0 = .ok (.iconst 0, 1) := by decide +kernel
theorem dX1_cost_1 : decode cX1_cost 1 = .ok (.istore_n 2, 1) := by decide +kernel
theorem dX1_cost_2 : decode cX1_cost 2 = .ok (.iconst 0, 1) := by decide +kernel
theorem dX1_cost_3 : decode cX1_cost 3 = .ok (.istore_n 3, 1) := by decide +kernel
theorem dX1_cost_4 : decode cX1_cost 4 = .ok (.iload_n 3, 1) := by decide +kernel
theorem dX1_cost_5 : decode cX1_cost 5 = .ok (.aload_n 0, 1) := by decide +kernel
theorem dX1_cost_6 : decode cX1_cost 6 = .ok (.getfield 9, 3) := by decide +kernel
theorem dX1_cost_9 : decode cX1_cost 9 = .ok (.if_icmp .ge 68, 3) := by decide +kernel
theorem dX1_cost_12 : decode cX1_cost 12 = .ok (.iload_n 2, 1) := by decide +kernel
theorem dX1_cost_13 : decode cX1_cost 13 = .ok (.aload_n 1, 1) := by decide +kernel
theorem dX1_cost_14 : decode cX1_cost 14 = .ok (.getfield 37, 3) := by decide +kernel
theorem dX1_cost_17 : decode cX1_cost 17 = .ok (.iconst 4, 1) := by decide +kernel
theorem dX1_cost_18 : decode cX1_cost 18 = .ok (.iaload, 1) := by decide +kernel
theorem dX1_cost_19 : decode cX1_cost 19 = .ok (.aload_n 0, 1) := by decide +kernel
theorem dX1_cost_20 : decode cX1_cost 20 = .ok (.getfield 31, 3) := by decide +kernel
theorem dX1_cost_23 : decode cX1_cost 23 = .ok (.iload_n 3, 1) := by decide +kernel
theorem dX1_cost_24 : decode cX1_cost 24 = .ok (.iaload, 1) := by decide +kernel
theorem dX1_cost_25 : decode cX1_cost 25 = .ok (.aload_n 0, 1) := by decide +kernel
theorem dX1_cost_26 : decode cX1_cost 26 = .ok (.getfield 22, 3) := by decide +kernel
theorem dX1_cost_29 : decode cX1_cost 29 = .ok (.iload_n 3, 1) := by decide +kernel
theorem dX1_cost_30 : decode cX1_cost 30 = .ok (.iaload, 1) := by decide +kernel
theorem dX1_cost_31 : decode cX1_cost 31 = .ok (.isub, 1) := by decide +kernel
theorem dX1_cost_32 : decode cX1_cost 32 = .ok (.imul, 1) := by decide +kernel
theorem dX1_cost_33 : decode cX1_cost 33 = .ok (.iadd, 1) := by decide +kernel
theorem dX1_cost_34 : decode cX1_cost 34 = .ok (.istore_n 2, 1) := by decide +kernel
theorem dX1_cost_35 : decode cX1_cost 35 = .ok (.aload_n 0, 1) := by decide +kernel
theorem dX1_cost_36 : decode cX1_cost 36 = .ok (.getfield 15, 3) := by decide +kernel
theorem dX1_cost_39 : decode cX1_cost 39 = .ok (.iload_n 3, 1) := by decide +kernel
theorem dX1_cost_40 : decode cX1_cost 40 = .ok (.iaload, 1) := by decide +kernel
theorem dX1_cost_41 : decode cX1_cost 41 = .ok (.istore 4, 2) := by decide +kernel
theorem dX1_cost_43 : decode cX1_cost 43 = .ok (.iload 4, 2) := by decide +kernel
theorem dX1_cost_45 : decode cX1_cost 45 = .ok (.aload_n 0, 1) := by decide +kernel
theorem dX1_cost_46 : decode cX1_cost 46 = .ok (.getfield 19, 3) := by decide +kernel
theorem dX1_cost_49 : decode cX1_cost 49 = .ok (.iload_n 3, 1) := by decide +kernel
theorem dX1_cost_50 : decode cX1_cost 50 = .ok (.iaload, 1) := by decide +kernel
theorem dX1_cost_51 : decode cX1_cost 51 = .ok (.if_icmp .ge 20, 3) := by decide +kernel
theorem dX1_cost_54 : decode cX1_cost 54 = .ok (.iload_n 2, 1) := by decide +kernel
theorem dX1_cost_55 : decode cX1_cost 55 = .ok (.aload_n 0, 1) := by decide +kernel
theorem dX1_cost_56 : decode cX1_cost 56 = .ok (.aload_n 1, 1) := by decide +kernel
theorem dX1_cost_57 : decode cX1_cost 57 = .ok (.iload_n 3, 1) := by decide +kernel
theorem dX1_cost_58 : decode cX1_cost 58 = .ok (.iload 4, 2) := by decide +kernel
theorem dX1_cost_60 : decode cX1_cost 60 = .ok (.invokevirtual 42, 3) := by decide +kernel
theorem dX1_cost_63 : decode cX1_cost 63 = .ok (.iadd, 1) := by decide +kernel
theorem dX1_cost_64 : decode cX1_cost 64 = .ok (.istore_n 2, 1) := by decide +kernel
theorem dX1_cost_65 : decode cX1_cost 65 = .ok (.iinc 4 1, 3) := by decide +kernel
theorem dX1_cost_68 : decode cX1_cost 68 = .ok (.goto (-25), 3) := by decide +kernel
theorem dX1_cost_71 : decode cX1_cost 71 = .ok (.iinc 3 1, 3) := by decide +kernel
theorem dX1_cost_74 : decode cX1_cost 74 = .ok (.goto (-70), 3) := by decide +kernel
theorem dX1_cost_77 : decode cX1_cost 77 = .ok (.iload_n 2, 1) := by decide +kernel
theorem dX1_cost_78 : decode cX1_cost 78 = .ok (.ireturn, 1) := by decide +kernel
theorem dX1_burnt_0 : decode cX1_burnt 0 = .ok (.aload_n 1, 1) := by decide +kernel
theorem dX1_burnt_1 : decode cX1_burnt 1 = .ok (.getfield 46, 3) := by decide +kernel
theorem dX1_burnt_4 : decode cX1_burnt 4 = .ok (.aload_n 0, 1) := by decide +kernel
theorem dX1_burnt_5 : decode cX1_burnt 5 = .ok (.getfield 28, 3) := by decide +kernel
theorem dX1_burnt_8 : decode cX1_burnt 8 = .ok (.iload_n 2, 1) := by decide +kernel
theorem dX1_burnt_9 : decode cX1_burnt 9 = .ok (.iaload, 1) := by decide +kernel
theorem dX1_burnt_10 : decode cX1_burnt 10 = .ok (.aaload, 1) := by decide +kernel
theorem dX1_burnt_11 : decode cX1_burnt 11 = .ok (.getfield 50, 3) := by decide +kernel
theorem dX1_burnt_14 : decode cX1_burnt 14 = .ok (.istore 4, 2) := by decide +kernel
theorem dX1_burnt_16 : decode cX1_burnt 16 = .ok (.iconst 0, 1) := by decide +kernel
theorem dX1_burnt_17 : decode cX1_burnt 17 = .ok (.istore 5, 2) := by decide +kernel
theorem dX1_burnt_19 : decode cX1_burnt 19 = .ok (.iload 5, 2) := by decide +kernel
theorem dX1_burnt_21 : decode cX1_burnt 21 = .ok (.aload_n 0, 1) := by decide +kernel
theorem dX1_burnt_22 : decode cX1_burnt 22 = .ok (.getfield 9, 3) := by decide +kernel
theorem dX1_burnt_25 : decode cX1_burnt 25 = .ok (.if_icmp .ge 51, 3) := by decide +kernel
theorem dX1_burnt_28 : decode cX1_burnt 28 = .ok (.iload 5, 2) := by decide +kernel
theorem dX1_burnt_30 : decode cX1_burnt 30 = .ok (.iload_n 2, 1) := by decide +kernel
theorem dX1_burnt_31 : decode cX1_burnt 31 = .ok (.if_icmp .eq 39, 3) := by decide +kernel
theorem dX1_burnt_34 : decode cX1_burnt 34 = .ok (.aload_n 0, 1) := by decide +kernel
theorem dX1_burnt_35 : decode cX1_burnt 35 = .ok (.iload_n 2, 1) := by decide +kernel
theorem dX1_burnt_36 : decode cX1_burnt 36 = .ok (.iload 5, 2) := by decide +kernel
theorem dX1_burnt_38 : decode cX1_burnt 38 = .ok (.iload_n 3, 1) := by decide +kernel
theorem dX1_burnt_39 : decode cX1_burnt 39 = .ok (.invokevirtual 55, 3) := by decide +kernel
theorem dX1_burnt_42 : decode cX1_burnt 42 = .ok (.ifCond .eq 28, 3) := by decide +kernel
theorem dX1_burnt_45 : decode cX1_burnt 45 = .ok (.aload_n 0, 1) := by decide +kernel
theorem dX1_burnt_46 : decode cX1_burnt 46 = .ok (.aload_n 1, 1) := by decide +kernel
theorem dX1_burnt_47 : decode cX1_burnt 47 = .ok (.iload 5, 2) := by decide +kernel
theorem dX1_burnt_49 : decode cX1_burnt 49 = .ok (.iload_n 2, 1) := by decide +kernel
theorem dX1_burnt_50 : decode cX1_burnt 50 = .ok (.invokevirtual 59, 3) := by decide +kernel
theorem dX1_burnt_53 : decode cX1_burnt 53 = .ok (.ifCond .eq 17, 3) := by decide +kernel
theorem dX1_burnt_56 : decode cX1_burnt 56 = .ok (.iconst 1, 1) := by decide +kernel
theorem dX1_burnt_57 : decode cX1_burnt 57 = .ok (.iload 4, 2) := by decide +kernel
theorem dX1_burnt_59 : decode cX1_burnt 59 = .ok (.aload_n 1, 1) := by decide +kernel
theorem dX1_burnt_60 : decode cX1_burnt 60 = .ok (.getfield 37, 3) := by decide +kernel
theorem dX1_burnt_63 : decode cX1_burnt 63 = .ok (.iconst 3, 1) := by decide +kernel
theorem dX1_burnt_64 : decode cX1_burnt 64 = .ok (.iaload, 1) := by decide +kernel
theorem dX1_burnt_65 : decode cX1_burnt 65 = .ok (.isub, 1) := by decide +kernel
theorem dX1_burnt_66 : decode cX1_burnt 66 = .ok (.invokestatic 63, 3) := by decide +kernel
theorem dX1_burnt_69 : decode cX1_burnt 69 = .ok (.ireturn, 1) := by decide +kernel
theorem dX1_burnt_70 : decode cX1_burnt 70 = .ok (.iinc 5 1, 3) := by decide +kernel
theorem dX1_burnt_73 : decode cX1_burnt 73 = .ok (.goto (-54), 3) := by decide +kernel
theorem dX1_burnt_76 : decode cX1_burnt 76 = .ok (.iload 4, 2) := by decide +kernel
theorem dX1_burnt_78 : decode cX1_burnt 78 = .ok (.ireturn, 1) := by decide +kernel
theorem dX1_leavesWith_0 : decode cX1_leavesWith 0 = .ok (.iload_n 3, 1) := by decide +kernel
theorem dX1_leavesWith_1 : decode cX1_leavesWith 1 = .ok (.aload_n 0, 1) := by decide +kernel
theorem dX1_leavesWith_2 : decode cX1_leavesWith 2 = .ok (.getfield 15, 3) := by decide +kernel
theorem dX1_leavesWith_5 : decode cX1_leavesWith 5 = .ok (.iload_n 2, 1) := by decide +kernel
theorem dX1_leavesWith_6 : decode cX1_leavesWith 6 = .ok (.iaload, 1) := by decide +kernel
theorem dX1_leavesWith_7 : decode cX1_leavesWith 7 = .ok (.if_icmp .lt 46, 3) := by decide +kernel
theorem dX1_leavesWith_10 : decode cX1_leavesWith 10 = .ok (.iload_n 3, 1) := by decide +kernel
theorem dX1_leavesWith_11 : decode cX1_leavesWith 11 = .ok (.aload_n 0, 1) := by decide +kernel
theorem dX1_leavesWith_12 : decode cX1_leavesWith 12 = .ok (.getfield 19, 3) := by decide +kernel
theorem dX1_leavesWith_15 : decode cX1_leavesWith 15 = .ok (.iload_n 2, 1) := by decide +kernel
theorem dX1_leavesWith_16 : decode cX1_leavesWith 16 = .ok (.iaload, 1) := by decide +kernel
theorem dX1_leavesWith_17 : decode cX1_leavesWith 17 = .ok (.if_icmp .ge 36, 3) := by decide +kernel
theorem dX1_leavesWith_20 : decode cX1_leavesWith 20 = .ok (.aload_n 0, 1) := by decide +kernel
theorem dX1_leavesWith_21 : decode cX1_leavesWith 21 = .ok (.getfield 31, 3) := by decide +kernel
theorem dX1_leavesWith_24 : decode cX1_leavesWith 24 = .ok (.iload_n 2, 1) := by decide +kernel
theorem dX1_leavesWith_25 : decode cX1_leavesWith 25 = .ok (.iaload, 1) := by decide +kernel
theorem dX1_leavesWith_26 : decode cX1_leavesWith 26 = .ok (.aload_n 0, 1) := by decide +kernel
theorem dX1_leavesWith_27 : decode cX1_leavesWith 27 = .ok (.getfield 15, 3) := by decide +kernel
theorem dX1_leavesWith_30 : decode cX1_leavesWith 30 = .ok (.iload_n 2, 1) := by decide +kernel
theorem dX1_leavesWith_31 : decode cX1_leavesWith 31 = .ok (.iaload, 1) := by decide +kernel
theorem dX1_leavesWith_32 : decode cX1_leavesWith 32 = .ok (.isub, 1) := by decide +kernel
theorem dX1_leavesWith_33 : decode cX1_leavesWith 33 = .ok (.aload_n 0, 1) := by decide +kernel
theorem dX1_leavesWith_34 : decode cX1_leavesWith 34 = .ok (.getfield 31, 3) := by decide +kernel
theorem dX1_leavesWith_37 : decode cX1_leavesWith 37 = .ok (.iload_n 1, 1) := by decide +kernel
theorem dX1_leavesWith_38 : decode cX1_leavesWith 38 = .ok (.iaload, 1) := by decide +kernel
theorem dX1_leavesWith_39 : decode cX1_leavesWith 39 = .ok (.aload_n 0, 1) := by decide +kernel
theorem dX1_leavesWith_40 : decode cX1_leavesWith 40 = .ok (.getfield 15, 3) := by decide +kernel
theorem dX1_leavesWith_43 : decode cX1_leavesWith 43 = .ok (.iload_n 1, 1) := by decide +kernel
theorem dX1_leavesWith_44 : decode cX1_leavesWith 44 = .ok (.iaload, 1) := by decide +kernel
theorem dX1_leavesWith_45 : decode cX1_leavesWith 45 = .ok (.isub, 1) := by decide +kernel
theorem dX1_leavesWith_46 : decode cX1_leavesWith 46 = .ok (.if_icmp .ne 7, 3) := by decide +kernel
theorem dX1_leavesWith_49 : decode cX1_leavesWith 49 = .ok (.iconst 1, 1) := by decide +kernel
theorem dX1_leavesWith_50 : decode cX1_leavesWith 50 = .ok (.goto 4, 3) := by decide +kernel
theorem dX1_leavesWith_53 : decode cX1_leavesWith 53 = .ok (.iconst 0, 1) := by decide +kernel
theorem dX1_leavesWith_54 : decode cX1_leavesWith 54 = .ok (.ireturn, 1) := by decide +kernel
theorem dX1_leads_0 : decode cX1_leads 0 = .ok (.aload_n 1, 1) := by decide +kernel
theorem dX1_leads_1 : decode cX1_leads 1 = .ok (.getfield 46, 3) := by decide +kernel
theorem dX1_leads_4 : decode cX1_leads 4 = .ok (.aload_n 0, 1) := by decide +kernel
theorem dX1_leads_5 : decode cX1_leads 5 = .ok (.getfield 28, 3) := by decide +kernel
theorem dX1_leads_8 : decode cX1_leads 8 = .ok (.iload_n 2, 1) := by decide +kernel
theorem dX1_leads_9 : decode cX1_leads 9 = .ok (.iaload, 1) := by decide +kernel
theorem dX1_leads_10 : decode cX1_leads 10 = .ok (.aaload, 1) := by decide +kernel
theorem dX1_leads_11 : decode cX1_leads 11 = .ok (.getfield 50, 3) := by decide +kernel
theorem dX1_leads_14 : decode cX1_leads 14 = .ok (.istore 4, 2) := by decide +kernel
theorem dX1_leads_16 : decode cX1_leads 16 = .ok (.aload_n 1, 1) := by decide +kernel
theorem dX1_leads_17 : decode cX1_leads 17 = .ok (.getfield 46, 3) := by decide +kernel
theorem dX1_leads_20 : decode cX1_leads 20 = .ok (.aload_n 0, 1) := by decide +kernel
theorem dX1_leads_21 : decode cX1_leads 21 = .ok (.getfield 28, 3) := by decide +kernel
theorem dX1_leads_24 : decode cX1_leads 24 = .ok (.iload_n 3, 1) := by decide +kernel
theorem dX1_leads_25 : decode cX1_leads 25 = .ok (.iaload, 1) := by decide +kernel
theorem dX1_leads_26 : decode cX1_leads 26 = .ok (.aaload, 1) := by decide +kernel
theorem dX1_leads_27 : decode cX1_leads 27 = .ok (.getfield 50, 3) := by decide +kernel
theorem dX1_leads_30 : decode cX1_leads 30 = .ok (.istore 5, 2) := by decide +kernel
theorem dX1_leads_32 : decode cX1_leads 32 = .ok (.iload 4, 2) := by decide +kernel
theorem dX1_leads_34 : decode cX1_leads 34 = .ok (.iload 5, 2) := by decide +kernel
theorem dX1_leads_36 : decode cX1_leads 36 = .ok (.if_icmp .gt 15, 3) := by decide +kernel
theorem dX1_leads_39 : decode cX1_leads 39 = .ok (.iload 4, 2) := by decide +kernel
theorem dX1_leads_41 : decode cX1_leads 41 = .ok (.iload 5, 2) := by decide +kernel
theorem dX1_leads_43 : decode cX1_leads 43 = .ok (.if_icmp .ne 12, 3) := by decide +kernel
theorem dX1_leads_46 : decode cX1_leads 46 = .ok (.iload_n 2, 1) := by decide +kernel
theorem dX1_leads_47 : decode cX1_leads 47 = .ok (.iload_n 3, 1) := by decide +kernel
theorem dX1_leads_48 : decode cX1_leads 48 = .ok (.if_icmp .ge 7, 3) := by decide +kernel
theorem dX1_leads_51 : decode cX1_leads 51 = .ok (.iconst 1, 1) := by decide +kernel
theorem dX1_leads_52 : decode cX1_leads 52 = .ok (.goto 4, 3) := by decide +kernel
theorem dX1_leads_55 : decode cX1_leads 55 = .ok (.iconst 0, 1) := by decide +kernel
theorem dX1_leads_56 : decode cX1_leads 56 = .ok (.ireturn, 1) := by decide +kernel
theorem dX1_findBest_0 : decode cX1_findBest 0 = .ok (.iconst 0, 1) := by decide +kernel
theorem dX1_findBest_1 : decode cX1_findBest 1 = .ok (.istore_n 2, 1) := by decide +kernel
theorem dX1_findBest_2 : decode cX1_findBest 2 = .ok (.iload_n 2, 1) := by decide +kernel
theorem dX1_findBest_3 : decode cX1_findBest 3 = .ok (.aload_n 0, 1) := by decide +kernel
theorem dX1_findBest_4 : decode cX1_findBest 4 = .ok (.getfield 9, 3) := by decide +kernel
theorem dX1_findBest_7 : decode cX1_findBest 7 = .ok (.if_icmp .ge 21, 3) := by decide +kernel
theorem dX1_findBest_10 : decode cX1_findBest 10 = .ok (.aload_n 0, 1) := by decide +kernel
theorem dX1_findBest_11 : decode cX1_findBest 11 = .ok (.getfield 31, 3) := by decide +kernel
theorem dX1_findBest_14 : decode cX1_findBest 14 = .ok (.iload_n 2, 1) := by decide +kernel
theorem dX1_findBest_15 : decode cX1_findBest 15 = .ok (.aload_n 0, 1) := by decide +kernel
theorem dX1_findBest_16 : decode cX1_findBest 16 = .ok (.getfield 22, 3) := by decide +kernel
theorem dX1_findBest_19 : decode cX1_findBest 19 = .ok (.iload_n 2, 1) := by decide +kernel
theorem dX1_findBest_20 : decode cX1_findBest 20 = .ok (.iaload, 1) := by decide +kernel
theorem dX1_findBest_21 : decode cX1_findBest 21 = .ok (.iastore, 1) := by decide +kernel
theorem dX1_findBest_22 : decode cX1_findBest 22 = .ok (.iinc 2 1, 3) := by decide +kernel
theorem dX1_findBest_25 : decode cX1_findBest 25 = .ok (.goto (-23), 3) := by decide +kernel
theorem dX1_findBest_28 : decode cX1_findBest 28 = .ok (.aload_n 0, 1) := by decide +kernel
theorem dX1_findBest_29 : decode cX1_findBest 29 = .ok (.aload_n 1, 1) := by decide +kernel
theorem dX1_findBest_30 : decode cX1_findBest 30 = .ok (.invokevirtual 69, 3) := by decide +kernel
theorem dX1_findBest_33 : decode cX1_findBest 33 = .ok (.istore_n 2, 1) := by decide +kernel
theorem dX1_findBest_34 : decode cX1_findBest 34 = .ok (.aload_n 0, 1) := by decide +kernel
theorem dX1_findBest_35 : decode cX1_findBest 35 = .ok (.getfield 31, 3) := by decide +kernel
theorem dX1_findBest_38 : decode cX1_findBest 38 = .ok (.iconst 0, 1) := by decide +kernel
theorem dX1_findBest_39 : decode cX1_findBest 39 = .ok (.aload_n 0, 1) := by decide +kernel
theorem dX1_findBest_40 : decode cX1_findBest 40 = .ok (.getfield 34, 3) := by decide +kernel
theorem dX1_findBest_43 : decode cX1_findBest 43 = .ok (.iconst 0, 1) := by decide +kernel
theorem dX1_findBest_44 : decode cX1_findBest 44 = .ok (.iconst 5, 1) := by decide +kernel
theorem dX1_findBest_45 : decode cX1_findBest 45 = .ok (.invokestatic 73, 3) := by decide +kernel
theorem dX1_findBest_48 : decode cX1_findBest 48 = .ok (.aload_n 0, 1) := by decide +kernel
theorem dX1_findBest_49 : decode cX1_findBest 49 = .ok (.invokevirtual 79, 3) := by decide +kernel
theorem dX1_findBest_52 : decode cX1_findBest 52 = .ok (.istore_n 3, 1) := by decide +kernel
theorem dX1_findBest_53 : decode cX1_findBest 53 = .ok (.iconst 1, 1) := by decide +kernel
theorem dX1_findBest_54 : decode cX1_findBest 54 = .ok (.istore 4, 2) := by decide +kernel
theorem dX1_findBest_56 : decode cX1_findBest 56 = .ok (.iload 4, 2) := by decide +kernel
theorem dX1_findBest_58 : decode cX1_findBest 58 = .ok (.iload_n 3, 1) := by decide +kernel
theorem dX1_findBest_59 : decode cX1_findBest 59 = .ok (.if_icmp .ge 43, 3) := by decide +kernel
theorem dX1_findBest_62 : decode cX1_findBest 62 = .ok (.aload_n 0, 1) := by decide +kernel
theorem dX1_findBest_63 : decode cX1_findBest 63 = .ok (.invokevirtual 83, 3) := by decide +kernel
theorem dX1_findBest_66 : decode cX1_findBest 66 = .ok (.aload_n 0, 1) := by decide +kernel
theorem dX1_findBest_67 : decode cX1_findBest 67 = .ok (.aload_n 1, 1) := by decide +kernel
theorem dX1_findBest_68 : decode cX1_findBest 68 = .ok (.invokevirtual 69, 3) := by decide +kernel
theorem dX1_findBest_71 : decode cX1_findBest 71 = .ok (.istore 5, 2) := by decide +kernel
theorem dX1_findBest_73 : decode cX1_findBest 73 = .ok (.iload 5, 2) := by decide +kernel
theorem dX1_findBest_75 : decode cX1_findBest 75 = .ok (.iload_n 2, 1) := by decide +kernel
theorem dX1_findBest_76 : decode cX1_findBest 76 = .ok (.if_icmp .ge 20, 3) := by decide +kernel
theorem dX1_findBest_79 : decode cX1_findBest 79 = .ok (.iload 5, 2) := by decide +kernel
theorem dX1_findBest_81 : decode cX1_findBest 81 = .ok (.istore_n 2, 1) := by decide +kernel
theorem dX1_findBest_82 : decode cX1_findBest 82 = .ok (.aload_n 0, 1) := by decide +kernel
theorem dX1_findBest_83 : decode cX1_findBest 83 = .ok (.getfield 31, 3) := by decide +kernel
theorem dX1_findBest_86 : decode cX1_findBest 86 = .ok (.iconst 0, 1) := by decide +kernel
theorem dX1_findBest_87 : decode cX1_findBest 87 = .ok (.aload_n 0, 1) := by decide +kernel
theorem dX1_findBest_88 : decode cX1_findBest 88 = .ok (.getfield 34, 3) := by decide +kernel
theorem dX1_findBest_91 : decode cX1_findBest 91 = .ok (.iconst 0, 1) := by decide +kernel
theorem dX1_findBest_92 : decode cX1_findBest 92 = .ok (.iconst 5, 1) := by decide +kernel
theorem dX1_findBest_93 : decode cX1_findBest 93 = .ok (.invokestatic 73, 3) := by decide +kernel
theorem dX1_findBest_96 : decode cX1_findBest 96 = .ok (.iinc 4 1, 3) := by decide +kernel
theorem dX1_findBest_99 : decode cX1_findBest 99 = .ok (.goto (-43), 3) := by decide +kernel
theorem dX1_findBest_102 : decode cX1_findBest 102 = .ok (.iload_n 2, 1) := by decide +kernel
theorem dX1_findBest_103 : decode cX1_findBest 103 = .ok (.ireturn, 1) := by decide +kernel
theorem dX1_choices_0 : decode cX1_choices 0 = .ok (.iconst 1, 1) := by decide +kernel
theorem dX1_choices_1 : decode cX1_choices 1 = .ok (.istore_n 1, 1) := by decide +kernel
theorem dX1_choices_2 : decode cX1_choices 2 = .ok (.iconst 0, 1) := by decide +kernel
theorem dX1_choices_3 : decode cX1_choices 3 = .ok (.istore_n 2, 1) := by decide +kernel
theorem dX1_choices_4 : decode cX1_choices 4 = .ok (.iload_n 2, 1) := by decide +kernel
theorem dX1_choices_5 : decode cX1_choices 5 = .ok (.aload_n 0, 1) := by decide +kernel
theorem dX1_choices_6 : decode cX1_choices 6 = .ok (.getfield 9, 3) := by decide +kernel
theorem dX1_choices_9 : decode cX1_choices 9 = .ok (.if_icmp .ge 27, 3) := by decide +kernel
theorem dX1_choices_12 : decode cX1_choices 12 = .ok (.iload_n 1, 1) := by decide +kernel
theorem dX1_choices_13 : decode cX1_choices 13 = .ok (.aload_n 0, 1) := by decide +kernel
theorem dX1_choices_14 : decode cX1_choices 14 = .ok (.getfield 25, 3) := by decide +kernel
theorem dX1_choices_17 : decode cX1_choices 17 = .ok (.iload_n 2, 1) := by decide +kernel
theorem dX1_choices_18 : decode cX1_choices 18 = .ok (.iaload, 1) := by decide +kernel
theorem dX1_choices_19 : decode cX1_choices 19 = .ok (.aload_n 0, 1) := by decide +kernel
theorem dX1_choices_20 : decode cX1_choices 20 = .ok (.getfield 22, 3) := by decide +kernel
theorem dX1_choices_23 : decode cX1_choices 23 = .ok (.iload_n 2, 1) := by decide +kernel
theorem dX1_choices_24 : decode cX1_choices 24 = .ok (.iaload, 1) := by decide +kernel
theorem dX1_choices_25 : decode cX1_choices 25 = .ok (.isub, 1) := by decide +kernel
theorem dX1_choices_26 : decode cX1_choices 26 = .ok (.iconst 1, 1) := by decide +kernel
theorem dX1_choices_27 : decode cX1_choices 27 = .ok (.iadd, 1) := by decide +kernel
theorem dX1_choices_28 : decode cX1_choices 28 = .ok (.imul, 1) := by decide +kernel
theorem dX1_choices_29 : decode cX1_choices 29 = .ok (.istore_n 1, 1) := by decide +kernel
theorem dX1_choices_30 : decode cX1_choices 30 = .ok (.iinc 2 1, 3) := by decide +kernel
theorem dX1_choices_33 : decode cX1_choices 33 = .ok (.goto (-29), 3) := by decide +kernel
theorem dX1_choices_36 : decode cX1_choices 36 = .ok (.iload_n 1, 1) := by decide +kernel
theorem dX1_choices_37 : decode cX1_choices 37 = .ok (.ireturn, 1) := by decide +kernel
theorem dX1_turn_0 : decode cX1_turn 0 = .ok (.aload_n 0, 1) := by decide +kernel
theorem dX1_turn_1 : decode cX1_turn 1 = .ok (.getfield 9, 3) := by decide +kernel
theorem dX1_turn_4 : decode cX1_turn 4 = .ok (.iconst 1, 1) := by decide +kernel
theorem dX1_turn_5 : decode cX1_turn 5 = .ok (.isub, 1) := by decide +kernel
theorem dX1_turn_6 : decode cX1_turn 6 = .ok (.istore_n 1, 1) := by decide +kernel
theorem dX1_turn_7 : decode cX1_turn 7 = .ok (.iload_n 1, 1) := by decide +kernel
theorem dX1_turn_8 : decode cX1_turn 8 = .ok (.ifCond .lt 47, 3) := by decide +kernel
theorem dX1_turn_11 : decode cX1_turn 11 = .ok (.aload_n 0, 1) := by decide +kernel
theorem dX1_turn_12 : decode cX1_turn 12 = .ok (.getfield 31, 3) := by decide +kernel
theorem dX1_turn_15 : decode cX1_turn 15 = .ok (.iload_n 1, 1) := by decide +kernel
theorem dX1_turn_16 : decode cX1_turn 16 = .ok (.iaload, 1) := by decide +kernel
theorem dX1_turn_17 : decode cX1_turn 17 = .ok (.aload_n 0, 1) := by decide +kernel
theorem dX1_turn_18 : decode cX1_turn 18 = .ok (.getfield 25, 3) := by decide +kernel
theorem dX1_turn_21 : decode cX1_turn 21 = .ok (.iload_n 1, 1) := by decide +kernel
theorem dX1_turn_22 : decode cX1_turn 22 = .ok (.iaload, 1) := by decide +kernel
theorem dX1_turn_23 : decode cX1_turn 23 = .ok (.if_icmp .ge 14, 3) := by decide +kernel
theorem dX1_turn_26 : decode cX1_turn 26 = .ok (.aload_n 0, 1) := by decide +kernel
theorem dX1_turn_27 : decode cX1_turn 27 = .ok (.getfield 31, 3) := by decide +kernel
theorem dX1_turn_30 : decode cX1_turn 30 = .ok (.iload_n 1, 1) := by decide +kernel
theorem dX1_turn_31 : decode cX1_turn 31 = .ok (.dup2, 1) := by decide +kernel
theorem dX1_turn_32 : decode cX1_turn 32 = .ok (.iaload, 1) := by decide +kernel
theorem dX1_turn_33 : decode cX1_turn 33 = .ok (.iconst 1, 1) := by decide +kernel
theorem dX1_turn_34 : decode cX1_turn 34 = .ok (.iadd, 1) := by decide +kernel
theorem dX1_turn_35 : decode cX1_turn 35 = .ok (.iastore, 1) := by decide +kernel
theorem dX1_turn_36 : decode cX1_turn 36 = .ok (.return_, 1) := by decide +kernel
theorem dX1_turn_37 : decode cX1_turn 37 = .ok (.aload_n 0, 1) := by decide +kernel
theorem dX1_turn_38 : decode cX1_turn 38 = .ok (.getfield 31, 3) := by decide +kernel
theorem dX1_turn_41 : decode cX1_turn 41 = .ok (.iload_n 1, 1) := by decide +kernel
theorem dX1_turn_42 : decode cX1_turn 42 = .ok (.aload_n 0, 1) := by decide +kernel
theorem dX1_turn_43 : decode cX1_turn 43 = .ok (.getfield 22, 3) := by decide +kernel
theorem dX1_turn_46 : decode cX1_turn 46 = .ok (.iload_n 1, 1) := by decide +kernel
theorem dX1_turn_47 : decode cX1_turn 47 = .ok (.iaload, 1) := by decide +kernel
theorem dX1_turn_48 : decode cX1_turn 48 = .ok (.iastore, 1) := by decide +kernel
theorem dX1_turn_49 : decode cX1_turn 49 = .ok (.iinc 1 (-1), 3) := by decide +kernel
theorem dX1_turn_52 : decode cX1_turn 52 = .ok (.goto (-45), 3) := by decide +kernel
theorem dX1_turn_55 : decode cX1_turn 55 = .ok (.return_, 1) := by decide +kernel
theorem dX2_init_0 : decode cX2_init 0 = .ok (.aload_n 0, 1) := by decide +kernel
theorem dX2_init_1 : decode cX2_init 1 = .ok (.invokespecial 1, 3) := by decide +kernel
theorem dX2_init_4 : decode cX2_init 4 = .ok (.aload_n 0, 1) := by decide +kernel
theorem dX2_init_5 : decode cX2_init 5 = .ok (.iconst 1, 1) := by decide +kernel
theorem dX2_init_6 : decode cX2_init 6 = .ok (.putfield 7, 3) := by decide +kernel
theorem dX2_init_9 : decode cX2_init 9 = .ok (.aload_n 0, 1) := by decide +kernel
theorem dX2_init_10 : decode cX2_init 10 = .ok (.iconst 4, 1) := by decide +kernel
theorem dX2_init_11 : decode cX2_init 11 = .ok (.putfield 13, 3) := by decide +kernel
theorem dX2_init_14 : decode cX2_init 14 = .ok (.aload_n 0, 1) := by decide +kernel
theorem dX2_init_15 : decode cX2_init 15 = .ok (.iconst 2, 1) := by decide +kernel
theorem dX2_init_16 : decode cX2_init 16 = .ok (.putfield 16, 3) := by decide +kernel
theorem dX2_init_19 : decode cX2_init 19 = .ok (.aload_n 0, 1) := by decide +kernel
theorem dX2_init_20 : decode cX2_init 20 = .ok (.iconst 0, 1) := by decide +kernel
theorem dX2_init_21 : decode cX2_init 21 = .ok (.putfield 19, 3) := by decide +kernel
theorem dX2_init_24 : decode cX2_init 24 = .ok (.aload_n 0, 1) := by decide +kernel
theorem dX2_init_25 : decode cX2_init 25 = .ok (.new 22, 3) := by decide +kernel
theorem dX2_init_28 : decode cX2_init 28 = .ok (.dup, 1) := by decide +kernel
theorem dX2_init_29 : decode cX2_init 29 = .ok (.invokespecial 24, 3) := by decide +kernel
theorem dX2_init_32 : decode cX2_init 32 = .ok (.putfield 25, 3) := by decide +kernel
theorem dX2_init_35 : decode cX2_init 35 = .ok (.return_, 1) := by decide +kernel
theorem dX2_bounded_0 : decode cX2_bounded 0 = .ok (.aload_n 0, 1) := by decide +kernel
theorem dX2_bounded_1 : decode cX2_bounded 1 = .ok (.getfield 13, 3) := by decide +kernel
theorem dX2_bounded_4 : decode cX2_bounded 4 = .ok (.ineg, 1) := by decide +kernel
theorem dX2_bounded_5 : decode cX2_bounded 5 = .ok (.aload_n 0, 1) := by decide +kernel
theorem dX2_bounded_6 : decode cX2_bounded 6 = .ok (.getfield 16, 3) := by decide +kernel
theorem dX2_bounded_9 : decode cX2_bounded 9 = .ok (.iload_n 1, 1) := by decide +kernel
theorem dX2_bounded_10 : decode cX2_bounded 10 = .ok (.invokestatic 29, 3) := by decide +kernel
theorem dX2_bounded_13 : decode cX2_bounded 13 = .ok (.invokestatic 35, 3) := by decide +kernel
theorem dX2_bounded_16 : decode cX2_bounded 16 = .ok (.ireturn, 1) := by decide +kernel
theorem dX3_init_0 : decode cX3_init 0 = .ok (.aload_n 0, 1) := by decide +kernel
theorem dX3_init_1 : decode cX3_init 1 = .ok (.invokespecial 3, 3) := by decide +kernel
theorem dX3_init_4 : decode cX3_init 4 = .ok (.aload_n 0, 1) := by decide +kernel
theorem dX3_init_5 : decode cX3_init 5 = .ok (.iconst 4, 1) := by decide +kernel
theorem dX3_init_6 : decode cX3_init 6 = .ok (.anewarray 9, 3) := by decide +kernel
theorem dX3_init_9 : decode cX3_init 9 = .ok (.dup, 1) := by decide +kernel
theorem dX3_init_10 : decode cX3_init 10 = .ok (.iconst 0, 1) := by decide +kernel
theorem dX3_init_11 : decode cX3_init 11 = .ok (.new 9, 3) := by decide +kernel
theorem dX3_init_14 : decode cX3_init 14 = .ok (.dup, 1) := by decide +kernel
theorem dX3_init_15 : decode cX3_init 15 = .ok (.invokespecial 11, 3) := by decide +kernel
theorem dX3_init_18 : decode cX3_init 18 = .ok (.aastore, 1) := by decide +kernel
theorem dX3_init_19 : decode cX3_init 19 = .ok (.dup, 1) := by decide +kernel
theorem dX3_init_20 : decode cX3_init 20 = .ok (.iconst 1, 1) := by decide +kernel
theorem dX3_init_21 : decode cX3_init 21 = .ok (.new 9, 3) := by decide +kernel
theorem dX3_init_24 : decode cX3_init 24 = .ok (.dup, 1) := by decide +kernel
theorem dX3_init_25 : decode cX3_init 25 = .ok (.invokespecial 11, 3) := by decide +kernel
theorem dX3_init_28 : decode cX3_init 28 = .ok (.aastore, 1) := by decide +kernel
theorem dX3_init_29 : decode cX3_init 29 = .ok (.dup, 1) := by decide +kernel
theorem dX3_init_30 : decode cX3_init 30 = .ok (.iconst 2, 1) := by decide +kernel
theorem dX3_init_31 : decode cX3_init 31 = .ok (.new 9, 3) := by decide +kernel
theorem dX3_init_34 : decode cX3_init 34 = .ok (.dup, 1) := by decide +kernel
theorem dX3_init_35 : decode cX3_init 35 = .ok (.invokespecial 11, 3) := by decide +kernel
theorem dX3_init_38 : decode cX3_init 38 = .ok (.aastore, 1) := by decide +kernel
theorem dX3_init_39 : decode cX3_init 39 = .ok (.dup, 1) := by decide +kernel
theorem dX3_init_40 : decode cX3_init 40 = .ok (.iconst 3, 1) := by decide +kernel
theorem dX3_init_41 : decode cX3_init 41 = .ok (.new 9, 3) := by decide +kernel
theorem dX3_init_44 : decode cX3_init 44 = .ok (.dup, 1) := by decide +kernel
theorem dX3_init_45 : decode cX3_init 45 = .ok (.invokespecial 11, 3) := by decide +kernel
theorem dX3_init_48 : decode cX3_init 48 = .ok (.aastore, 1) := by decide +kernel
theorem dX3_init_49 : decode cX3_init 49 = .ok (.putfield 12, 3) := by decide +kernel
theorem dX3_init_52 : decode cX3_init 52 = .ok (.aload_n 0, 1) := by decide +kernel
theorem dX3_init_53 : decode cX3_init 53 = .ok (.iconst 1, 1) := by decide +kernel
theorem dX3_init_54 : decode cX3_init 54 = .ok (.putfield 18, 3) := by decide +kernel
theorem dX3_init_57 : decode cX3_init 57 = .ok (.aload_n 0, 1) := by decide +kernel
theorem dX3_init_58 : decode cX3_init 58 = .ok (.bipush 6, 2) := by decide +kernel
theorem dX3_init_60 : decode cX3_init 60 = .ok (.newarray .int, 2) := by decide +kernel
theorem dX3_init_62 : decode cX3_init 62 = .ok (.putfield 22, 3) := by decide +kernel
theorem dX3_init_65 : decode cX3_init 65 = .ok (.aload_n 0, 1) := by decide +kernel
theorem dX3_init_66 : decode cX3_init 66 = .ok (.iconst 5, 1) := by decide +kernel
theorem dX3_init_67 : decode cX3_init 67 = .ok (.newarray .int, 2) := by decide +kernel
theorem dX3_init_69 : decode cX3_init 69 = .ok (.dup, 1) := by decide +kernel
theorem dX3_init_70 : decode cX3_init 70 = .ok (.iconst 0, 1) := by decide +kernel
theorem dX3_init_71 : decode cX3_init 71 = .ok (.bipush 10, 2) := by decide +kernel
theorem dX3_init_73 : decode cX3_init 73 = .ok (.iastore, 1) := by decide +kernel
theorem dX3_init_74 : decode cX3_init 74 = .ok (.dup, 1) := by decide +kernel
theorem dX3_init_75 : decode cX3_init 75 = .ok (.iconst 1, 1) := by decide +kernel
theorem dX3_init_76 : decode cX3_init 76 = .ok (.bipush 20, 2) := by decide +kernel
theorem dX3_init_78 : decode cX3_init 78 = .ok (.iastore, 1) := by decide +kernel
theorem dX3_init_79 : decode cX3_init 79 = .ok (.dup, 1) := by decide +kernel
theorem dX3_init_80 : decode cX3_init 80 = .ok (.iconst 2, 1) := by decide +kernel
theorem dX3_init_81 : decode cX3_init 81 = .ok (.iconst 1, 1) := by decide +kernel
theorem dX3_init_82 : decode cX3_init 82 = .ok (.iastore, 1) := by decide +kernel
theorem dX3_init_83 : decode cX3_init 83 = .ok (.dup, 1) := by decide +kernel
theorem dX3_init_84 : decode cX3_init 84 = .ok (.iconst 3, 1) := by decide +kernel
theorem dX3_init_85 : decode cX3_init 85 = .ok (.iconst 2, 1) := by decide +kernel
theorem dX3_init_86 : decode cX3_init 86 = .ok (.iastore, 1) := by decide +kernel
theorem dX3_init_87 : decode cX3_init 87 = .ok (.dup, 1) := by decide +kernel
theorem dX3_init_88 : decode cX3_init 88 = .ok (.iconst 4, 1) := by decide +kernel
theorem dX3_init_89 : decode cX3_init 89 = .ok (.iconst 1, 1) := by decide +kernel
theorem dX3_init_90 : decode cX3_init 90 = .ok (.iastore, 1) := by decide +kernel
theorem dX3_init_91 : decode cX3_init 91 = .ok (.putfield 26, 3) := by decide +kernel
theorem dX3_init_94 : decode cX3_init 94 = .ok (.aload_n 0, 1) := by decide +kernel
theorem dX3_init_95 : decode cX3_init 95 = .ok (.iconst 0, 1) := by decide +kernel
theorem dX3_init_96 : decode cX3_init 96 = .ok (.putfield 29, 3) := by decide +kernel
theorem dX3_init_99 : decode cX3_init 99 = .ok (.aload_n 0, 1) := by decide +kernel
theorem dX3_init_100 : decode cX3_init 100 = .ok (.iconst 0, 1) := by decide +kernel
theorem dX3_init_101 : decode cX3_init 101 = .ok (.putfield 32, 3) := by decide +kernel
theorem dX3_init_104 : decode cX3_init 104 = .ok (.aload_n 0, 1) := by decide +kernel
theorem dX3_init_105 : decode cX3_init 105 = .ok (.bipush 8, 2) := by decide +kernel
theorem dX3_init_107 : decode cX3_init 107 = .ok (.newarray .int, 2) := by decide +kernel
theorem dX3_init_109 : decode cX3_init 109 = .ok (.putfield 35, 3) := by decide +kernel
theorem dX3_init_112 : decode cX3_init 112 = .ok (.aload_n 0, 1) := by decide +kernel
theorem dX3_init_113 : decode cX3_init 113 = .ok (.bipush 8, 2) := by decide +kernel
theorem dX3_init_115 : decode cX3_init 115 = .ok (.newarray .int, 2) := by decide +kernel
theorem dX3_init_117 : decode cX3_init 117 = .ok (.putfield 38, 3) := by decide +kernel
theorem dX3_init_120 : decode cX3_init 120 = .ok (.aload_n 0, 1) := by decide +kernel
theorem dX3_init_121 : decode cX3_init 121 = .ok (.iconst 0, 1) := by decide +kernel
theorem dX3_init_122 : decode cX3_init 122 = .ok (.putfield 41, 3) := by decide +kernel
theorem dX3_init_125 : decode cX3_init 125 = .ok (.aload_n 0, 1) := by decide +kernel
theorem dX3_init_126 : decode cX3_init 126 = .ok (.iconst 2, 1) := by decide +kernel
theorem dX3_init_127 : decode cX3_init 127 = .ok (.newarray .int, 2) := by decide +kernel
theorem dX3_init_129 : decode cX3_init 129 = .ok (.putfield 44, 3) := by decide +kernel
theorem dX3_init_132 : decode cX3_init 132 = .ok (.aload_n 0, 1) := by decide +kernel
theorem dX3_init_133 : decode cX3_init 133 = .ok (.iconst 2, 1) := by decide +kernel
theorem dX3_init_134 : decode cX3_init 134 = .ok (.newarray .int, 2) := by decide +kernel
theorem dX3_init_136 : decode cX3_init 136 = .ok (.putfield 47, 3) := by decide +kernel
theorem dX3_init_139 : decode cX3_init 139 = .ok (.aload_n 0, 1) := by decide +kernel
theorem dX3_init_140 : decode cX3_init 140 = .ok (.iconst 2, 1) := by decide +kernel
theorem dX3_init_141 : decode cX3_init 141 = .ok (.newarray .int, 2) := by decide +kernel
theorem dX3_init_143 : decode cX3_init 143 = .ok (.putfield 50, 3) := by decide +kernel
theorem dX3_init_146 : decode cX3_init 146 = .ok (.aload_n 0, 1) := by decide +kernel
theorem dX3_init_147 : decode cX3_init 147 = .ok (.iconst 2, 1) := by decide +kernel
theorem dX3_init_148 : decode cX3_init 148 = .ok (.newarray .int, 2) := by decide +kernel
theorem dX3_init_150 : decode cX3_init 150 = .ok (.putfield 53, 3) := by decide +kernel
theorem dX3_init_153 : decode cX3_init 153 = .ok (.aload_n 0, 1) := by decide +kernel
theorem dX3_init_154 : decode cX3_init 154 = .ok (.iconst 0, 1) := by decide +kernel
theorem dX3_init_155 : decode cX3_init 155 = .ok (.putfield 56, 3) := by decide +kernel
theorem dX3_init_158 : decode cX3_init 158 = .ok (.aload_n 0, 1) := by decide +kernel
theorem dX3_init_159 : decode cX3_init 159 = .ok (.iconst 0, 1) := by decide +kernel
theorem dX3_init_160 : decode cX3_init 160 = .ok (.putfield 59, 3) := by decide +kernel
theorem dX3_init_163 : decode cX3_init 163 = .ok (.aload_n 0, 1) := by decide +kernel
theorem dX3_init_164 : decode cX3_init 164 = .ok (.iconst 0, 1) := by decide +kernel
theorem dX3_init_165 : decode cX3_init 165 = .ok (.putfield 62, 3) := by decide +kernel
theorem dX3_init_168 : decode cX3_init 168 = .ok (.aload_n 0, 1) := by decide +kernel
theorem dX3_init_169 : decode cX3_init 169 = .ok (.iconst 0, 1) := by decide +kernel
theorem dX3_init_170 : decode cX3_init 170 = .ok (.putfield 65, 3) := by decide +kernel
theorem dX3_init_173 : decode cX3_init 173 = .ok (.return_, 1) := by decide +kernel
theorem dX3_makeOfLorry_0 : decode cX3_makeOfLorry 0 = .ok (.aload_n 0, 1) := by decide +kernel
theorem dX3_makeOfLorry_1 : decode cX3_makeOfLorry 1 = .ok (.getfield 12, 3) := by decide +kernel
theorem dX3_makeOfLorry_4 : decode cX3_makeOfLorry 4 = .ok (.aload_n 0, 1) := by decide +kernel
theorem dX3_makeOfLorry_5 : decode cX3_makeOfLorry 5 = .ok (.getfield 22, 3) := by decide +kernel
theorem dX3_makeOfLorry_8 : decode cX3_makeOfLorry 8 = .ok (.iload_n 1, 1) := by decide +kernel
theorem dX3_makeOfLorry_9 : decode cX3_makeOfLorry 9 = .ok (.iaload, 1) := by decide +kernel
theorem dX3_makeOfLorry_10 : decode cX3_makeOfLorry 10 = .ok (.aaload, 1) := by decide +kernel
theorem dX3_makeOfLorry_11 : decode cX3_makeOfLorry 11 = .ok (.areturn, 1) := by decide +kernel
theorem dX3_pushIn_0 : decode cX3_pushIn 0 = .ok (.iconst 0, 1) := by decide +kernel
theorem dX3_pushIn_1 : decode cX3_pushIn 1 = .ok (.istore_n 2, 1) := by decide +kernel
theorem dX3_pushIn_2 : decode cX3_pushIn 2 = .ok (.iconst 0, 1) := by decide +kernel
theorem dX3_pushIn_3 : decode cX3_pushIn 3 = .ok (.istore_n 3, 1) := by decide +kernel
theorem dX3_pushIn_4 : decode cX3_pushIn 4 = .ok (.iload_n 3, 1) := by decide +kernel
theorem dX3_pushIn_5 : decode cX3_pushIn 5 = .ok (.aload_n 0, 1) := by decide +kernel
theorem dX3_pushIn_6 : decode cX3_pushIn 6 = .ok (.getfield 32, 3) := by decide +kernel
theorem dX3_pushIn_9 : decode cX3_pushIn 9 = .ok (.if_icmp .ge 26, 3) := by decide +kernel
theorem dX3_pushIn_12 : decode cX3_pushIn 12 = .ok (.aload_n 0, 1) := by decide +kernel
theorem dX3_pushIn_13 : decode cX3_pushIn 13 = .ok (.getfield 35, 3) := by decide +kernel
theorem dX3_pushIn_16 : decode cX3_pushIn 16 = .ok (.iload_n 3, 1) := by decide +kernel
theorem dX3_pushIn_17 : decode cX3_pushIn 17 = .ok (.iaload, 1) := by decide +kernel
theorem dX3_pushIn_18 : decode cX3_pushIn 18 = .ok (.iload_n 1, 1) := by decide +kernel
theorem dX3_pushIn_19 : decode cX3_pushIn 19 = .ok (.if_icmp .ne 10, 3) := by decide +kernel
theorem dX3_pushIn_22 : decode cX3_pushIn 22 = .ok (.aload_n 0, 1) := by decide +kernel
theorem dX3_pushIn_23 : decode cX3_pushIn 23 = .ok (.getfield 38, 3) := by decide +kernel
theorem dX3_pushIn_26 : decode cX3_pushIn 26 = .ok (.iload_n 3, 1) := by decide +kernel
theorem dX3_pushIn_27 : decode cX3_pushIn 27 = .ok (.iaload, 1) := by decide +kernel
theorem dX3_pushIn_28 : decode cX3_pushIn 28 = .ok (.istore_n 2, 1) := by decide +kernel
theorem dX3_pushIn_29 : decode cX3_pushIn 29 = .ok (.iinc 3 1, 3) := by decide +kernel
theorem dX3_pushIn_32 : decode cX3_pushIn 32 = .ok (.goto (-28), 3) := by decide +kernel
theorem dX3_pushIn_35 : decode cX3_pushIn 35 = .ok (.iload_n 2, 1) := by decide +kernel
theorem dX3_pushIn_36 : decode cX3_pushIn 36 = .ok (.ireturn, 1) := by decide +kernel
theorem dX3_mostSpeed_0 : decode cX3_mostSpeed 0 = .ok (.bipush 40, 2) := by decide +kernel
theorem dX3_mostSpeed_2 : decode cX3_mostSpeed 2 = .ok (.istore_n 3, 1) := by decide +kernel
theorem dX3_mostSpeed_3 : decode cX3_mostSpeed 3 = .ok (.iconst 0, 1) := by decide +kernel
theorem dX3_mostSpeed_4 : decode cX3_mostSpeed 4 = .ok (.istore 4, 2) := by decide +kernel
theorem dX3_mostSpeed_6 : decode cX3_mostSpeed 6 = .ok (.iload 4, 2) := by decide +kernel
theorem dX3_mostSpeed_8 : decode cX3_mostSpeed 8 = .ok (.aload_n 0, 1) := by decide +kernel
theorem dX3_mostSpeed_9 : decode cX3_mostSpeed 9 = .ok (.getfield 41, 3) := by decide +kernel
theorem dX3_mostSpeed_12 : decode cX3_mostSpeed 12 = .ok (.if_icmp .ge 66, 3) := by decide +kernel
theorem dX3_mostSpeed_15 : decode cX3_mostSpeed 15 = .ok (.iload_n 2, 1) := by decide +kernel
theorem dX3_mostSpeed_16 : decode cX3_mostSpeed 16 = .ok (.aload_n 0, 1) := by decide +kernel
theorem dX3_mostSpeed_17 : decode cX3_mostSpeed 17 = .ok (.getfield 44, 3) := by decide +kernel
theorem dX3_mostSpeed_20 : decode cX3_mostSpeed 20 = .ok (.iload 4, 2) := by decide +kernel
theorem dX3_mostSpeed_22 : decode cX3_mostSpeed 22 = .ok (.iaload, 1) := by decide +kernel
theorem dX3_mostSpeed_23 : decode cX3_mostSpeed 23 = .ok (.if_icmp .lt 18, 3) := by decide +kernel
theorem dX3_mostSpeed_26 : decode cX3_mostSpeed 26 = .ok (.iload_n 2, 1) := by decide +kernel
theorem dX3_mostSpeed_27 : decode cX3_mostSpeed 27 = .ok (.aload_n 0, 1) := by decide +kernel
theorem dX3_mostSpeed_28 : decode cX3_mostSpeed 28 = .ok (.getfield 47, 3) := by decide +kernel
theorem dX3_mostSpeed_31 : decode cX3_mostSpeed 31 = .ok (.iload 4, 2) := by decide +kernel
theorem dX3_mostSpeed_33 : decode cX3_mostSpeed 33 = .ok (.iaload, 1) := by decide +kernel
theorem dX3_mostSpeed_34 : decode cX3_mostSpeed 34 = .ok (.if_icmp .gt 7, 3) := by decide +kernel
theorem dX3_mostSpeed_37 : decode cX3_mostSpeed 37 = .ok (.iconst 1, 1) := by decide +kernel
theorem dX3_mostSpeed_38 : decode cX3_mostSpeed 38 = .ok (.goto 4, 3) := by decide +kernel
theorem dX3_mostSpeed_41 : decode cX3_mostSpeed 41 = .ok (.iconst 0, 1) := by decide +kernel
theorem dX3_mostSpeed_42 : decode cX3_mostSpeed 42 = .ok (.istore 5, 2) := by decide +kernel
theorem dX3_mostSpeed_44 : decode cX3_mostSpeed 44 = .ok (.iload 5, 2) := by decide +kernel
theorem dX3_mostSpeed_46 : decode cX3_mostSpeed 46 = .ok (.ifCond .eq 26, 3) := by decide +kernel
theorem dX3_mostSpeed_49 : decode cX3_mostSpeed 49 = .ok (.iload_n 1, 1) := by decide +kernel
theorem dX3_mostSpeed_50 : decode cX3_mostSpeed 50 = .ok (.aload_n 0, 1) := by decide +kernel
theorem dX3_mostSpeed_51 : decode cX3_mostSpeed 51 = .ok (.getfield 50, 3) := by decide +kernel
theorem dX3_mostSpeed_54 : decode cX3_mostSpeed 54 = .ok (.iload 4, 2) := by decide +kernel
theorem dX3_mostSpeed_56 : decode cX3_mostSpeed 56 = .ok (.iaload, 1) := by decide +kernel
theorem dX3_mostSpeed_57 : decode cX3_mostSpeed 57 = .ok (.if_icmp .le 15, 3) := by decide +kernel
theorem dX3_mostSpeed_60 : decode cX3_mostSpeed 60 = .ok (.iload_n 3, 1) := by decide +kernel
theorem dX3_mostSpeed_61 : decode cX3_mostSpeed 61 = .ok (.aload_n 0, 1) := by decide +kernel
theorem dX3_mostSpeed_62 : decode cX3_mostSpeed 62 = .ok (.getfield 53, 3) := by decide +kernel
theorem dX3_mostSpeed_65 : decode cX3_mostSpeed 65 = .ok (.iload 4, 2) := by decide +kernel
theorem dX3_mostSpeed_67 : decode cX3_mostSpeed 67 = .ok (.iaload, 1) := by decide +kernel
theorem dX3_mostSpeed_68 : decode cX3_mostSpeed 68 = .ok (.invokestatic 68, 3) := by decide +kernel
theorem dX3_mostSpeed_71 : decode cX3_mostSpeed 71 = .ok (.istore_n 3, 1) := by decide +kernel
theorem dX3_mostSpeed_72 : decode cX3_mostSpeed 72 = .ok (.iinc 4 1, 3) := by decide +kernel
theorem dX3_mostSpeed_75 : decode cX3_mostSpeed 75 = .ok (.goto (-69), 3) := by decide +kernel
theorem dX3_mostSpeed_78 : decode cX3_mostSpeed 78 = .ok (.iload_n 3, 1) := by decide +kernel
theorem dX3_mostSpeed_79 : decode cX3_mostSpeed 79 = .ok (.ireturn, 1) := by decide +kernel
theorem dX3_hasStrangerAhead_0 : decode cX3_hasStrangerAhead 0 = .ok (.iload_n 1, 1) := by decide +kernel
theorem dX3_hasStrangerAhead_1 : decode cX3_hasStrangerAhead 1 = .ok (.ifCond .le 31, 3) := by decide +kernel
theorem dX3_hasStrangerAhead_4 : decode cX3_hasStrangerAhead 4 = .ok (.iload_n 1, 1) := by decide +kernel
theorem dX3_hasStrangerAhead_5 : decode cX3_hasStrangerAhead 5 = .ok (.aload_n 0, 1) := by decide +kernel
theorem dX3_hasStrangerAhead_6 : decode cX3_hasStrangerAhead 6 = .ok (.getfield 56, 3) := by decide +kernel
theorem dX3_hasStrangerAhead_9 : decode cX3_hasStrangerAhead 9 = .ok (.if_icmp .ne 23, 3) := by decide +kernel
theorem dX3_hasStrangerAhead_12 : decode cX3_hasStrangerAhead 12 = .ok (.iload_n 2, 1) := by decide +kernel
theorem dX3_hasStrangerAhead_13 : decode cX3_hasStrangerAhead 13 = .ok (.aload_n 0, 1) := by decide +kernel
theorem dX3_hasStrangerAhead_14 : decode cX3_hasStrangerAhead 14 = .ok (.getfield 59, 3) := by decide +kernel
theorem dX3_hasStrangerAhead_17 : decode cX3_hasStrangerAhead 17 = .ok (.if_icmp .lt 15, 3) := by decide +kernel
theorem dX3_hasStrangerAhead_20 : decode cX3_hasStrangerAhead 20 = .ok (.iload_n 2, 1) := by decide +kernel
theorem dX3_hasStrangerAhead_21 : decode cX3_hasStrangerAhead 21 = .ok (.aload_n 0, 1) := by decide +kernel
theorem dX3_hasStrangerAhead_22 : decode cX3_hasStrangerAhead 22 = .ok (.getfield 62, 3) := by decide +kernel
theorem dX3_hasStrangerAhead_25 : decode cX3_hasStrangerAhead 25 = .ok (.if_icmp .gt 7, 3) := by decide +kernel
theorem dX3_hasStrangerAhead_28 : decode cX3_hasStrangerAhead 28 = .ok (.iconst 1, 1) := by decide +kernel
theorem dX3_hasStrangerAhead_29 : decode cX3_hasStrangerAhead 29 = .ok (.goto 4, 3) := by decide +kernel
theorem dX3_hasStrangerAhead_32 : decode cX3_hasStrangerAhead 32 = .ok (.iconst 0, 1) := by decide +kernel
theorem dX3_hasStrangerAhead_33 : decode cX3_hasStrangerAhead 33 = .ok (.ireturn, 1) := by decide +kernel
theorem dX4_init_0 : decode cX4_init 0 = .ok (.aload_n 0, 1) := by decide +kernel
theorem dX4_init_1 : decode cX4_init 1 = .ok (.invokespecial 3, 3) := by decide +kernel
theorem dX4_init_4 : decode cX4_init 4 = .ok (.aload_n 0, 1) := by decide +kernel
theorem dX4_init_5 : decode cX4_init 5 = .ok (.bipush 6, 2) := by decide +kernel
theorem dX4_init_7 : decode cX4_init 7 = .ok (.bipush 33, 2) := by decide +kernel
theorem dX4_init_9 : decode cX4_init 9 = .ok (.multianewarray 9 2, 4) := by decide +kernel
theorem dX4_init_13 : decode cX4_init 13 = .ok (.putfield 11, 3) := by decide +kernel
theorem dX4_init_16 : decode cX4_init 16 = .ok (.aload_n 0, 1) := by decide +kernel
theorem dX4_init_17 : decode cX4_init 17 = .ok (.bipush 6, 2) := by decide +kernel
theorem dX4_init_19 : decode cX4_init 19 = .ok (.bipush 33, 2) := by decide +kernel
theorem dX4_init_21 : decode cX4_init 21 = .ok (.multianewarray 9 2, 4) := by decide +kernel
theorem dX4_init_25 : decode cX4_init 25 = .ok (.putfield 16, 3) := by decide +kernel
theorem dX4_init_28 : decode cX4_init 28 = .ok (.aload_n 0, 1) := by decide +kernel
theorem dX4_init_29 : decode cX4_init 29 = .ok (.bipush 6, 2) := by decide +kernel
theorem dX4_init_31 : decode cX4_init 31 = .ok (.bipush 33, 2) := by decide +kernel
theorem dX4_init_33 : decode cX4_init 33 = .ok (.multianewarray 9 2, 4) := by decide +kernel
theorem dX4_init_37 : decode cX4_init 37 = .ok (.putfield 19, 3) := by decide +kernel
theorem dX4_init_40 : decode cX4_init 40 = .ok (.aload_n 0, 1) := by decide +kernel
theorem dX4_init_41 : decode cX4_init 41 = .ok (.bipush 6, 2) := by decide +kernel
theorem dX4_init_43 : decode cX4_init 43 = .ok (.bipush 32, 2) := by decide +kernel
theorem dX4_init_45 : decode cX4_init 45 = .ok (.multianewarray 9 2, 4) := by decide +kernel
theorem dX4_init_49 : decode cX4_init 49 = .ok (.putfield 22, 3) := by decide +kernel
theorem dX4_init_52 : decode cX4_init 52 = .ok (.aload_n 0, 1) := by decide +kernel
theorem dX4_init_53 : decode cX4_init 53 = .ok (.bipush 32, 2) := by decide +kernel
theorem dX4_init_55 : decode cX4_init 55 = .ok (.newarray .int, 2) := by decide +kernel
theorem dX4_init_57 : decode cX4_init 57 = .ok (.putfield 25, 3) := by decide +kernel
theorem dX4_init_60 : decode cX4_init 60 = .ok (.aload_n 0, 1) := by decide +kernel
theorem dX4_init_61 : decode cX4_init 61 = .ok (.bipush 32, 2) := by decide +kernel
theorem dX4_init_63 : decode cX4_init 63 = .ok (.newarray .int, 2) := by decide +kernel
theorem dX4_init_65 : decode cX4_init 65 = .ok (.putfield 29, 3) := by decide +kernel
theorem dX4_init_68 : decode cX4_init 68 = .ok (.aload_n 0, 1) := by decide +kernel
theorem dX4_init_69 : decode cX4_init 69 = .ok (.iconst (-1), 1) := by decide +kernel
theorem dX4_init_70 : decode cX4_init 70 = .ok (.putfield 32, 3) := by decide +kernel
theorem dX4_init_73 : decode cX4_init 73 = .ok (.aload_n 0, 1) := by decide +kernel
theorem dX4_init_74 : decode cX4_init 74 = .ok (.iconst (-1), 1) := by decide +kernel
theorem dX4_init_75 : decode cX4_init 75 = .ok (.putfield 36, 3) := by decide +kernel
theorem dX4_init_78 : decode cX4_init 78 = .ok (.aload_n 0, 1) := by decide +kernel
theorem dX4_init_79 : decode cX4_init 79 = .ok (.bipush 6, 2) := by decide +kernel
theorem dX4_init_81 : decode cX4_init 81 = .ok (.newarray .int, 2) := by decide +kernel
theorem dX4_init_83 : decode cX4_init 83 = .ok (.putfield 39, 3) := by decide +kernel
theorem dX4_init_86 : decode cX4_init 86 = .ok (.aload_n 0, 1) := by decide +kernel
theorem dX4_init_87 : decode cX4_init 87 = .ok (.iconst 0, 1) := by decide +kernel
theorem dX4_init_88 : decode cX4_init 88 = .ok (.putfield 42, 3) := by decide +kernel
theorem dX4_init_91 : decode cX4_init 91 = .ok (.return_, 1) := by decide +kernel
theorem dX4_drive_0 : decode cX4_drive 0 = .ok (.aload_n 0, 1) := by decide +kernel
theorem dX4_drive_1 : decode cX4_drive 1 = .ok (.aload_n 1, 1) := by decide +kernel
theorem dX4_drive_2 : decode cX4_drive 2 = .ok (.iload_n 2, 1) := by decide +kernel
theorem dX4_drive_3 : decode cX4_drive 3 = .ok (.invokevirtual 45, 3) := by decide +kernel
theorem dX4_drive_6 : decode cX4_drive 6 = .ok (.iconst 0, 1) := by decide +kernel
theorem dX4_drive_7 : decode cX4_drive 7 = .ok (.istore 5, 2) := by decide +kernel
theorem dX4_drive_9 : decode cX4_drive 9 = .ok (.iload 5, 2) := by decide +kernel
theorem dX4_drive_11 : decode cX4_drive 11 = .ok (.bipush 32, 2) := by decide +kernel
theorem dX4_drive_13 : decode cX4_drive 13 = .ok (.if_icmp .ge 19, 3) := by decide +kernel
theorem dX4_drive_16 : decode cX4_drive 16 = .ok (.aload_n 0, 1) := by decide +kernel
theorem dX4_drive_17 : decode cX4_drive 17 = .ok (.aload_n 1, 1) := by decide +kernel
theorem dX4_drive_18 : decode cX4_drive 18 = .ok (.iload 5, 2) := by decide +kernel
theorem dX4_drive_20 : decode cX4_drive 20 = .ok (.iload_n 3, 1) := by decide +kernel
theorem dX4_drive_21 : decode cX4_drive 21 = .ok (.iload 4, 2) := by decide +kernel
theorem dX4_drive_23 : decode cX4_drive 23 = .ok (.invokevirtual 49, 3) := by decide +kernel
theorem dX4_drive_26 : decode cX4_drive 26 = .ok (.iinc 5 1, 3) := by decide +kernel
theorem dX4_drive_29 : decode cX4_drive 29 = .ok (.goto (-20), 3) := by decide +kernel
theorem dX4_drive_32 : decode cX4_drive 32 = .ok (.return_, 1) := by decide +kernel
theorem dX4_touches_0 : decode cX4_touches 0 = .ok (.aload_n 0, 1) := by decide +kernel
theorem dX4_touches_1 : decode cX4_touches 1 = .ok (.aload_n 1, 1) := by decide +kernel
theorem dX4_touches_2 : decode cX4_touches 2 = .ok (.iload_n 2, 1) := by decide +kernel
theorem dX4_touches_3 : decode cX4_touches 3 = .ok (.invokevirtual 45, 3) := by decide +kernel
theorem dX4_touches_6 : decode cX4_touches 6 = .ok (.iconst 0, 1) := by decide +kernel
theorem dX4_touches_7 : decode cX4_touches 7 = .ok (.istore 5, 2) := by decide +kernel
theorem dX4_touches_9 : decode cX4_touches 9 = .ok (.iload 5, 2) := by decide +kernel
theorem dX4_touches_11 : decode cX4_touches 11 = .ok (.bipush 32, 2) := by decide +kernel
theorem dX4_touches_13 : decode cX4_touches 13 = .ok (.if_icmp .ge 27, 3) := by decide +kernel
theorem dX4_touches_16 : decode cX4_touches 16 = .ok (.aload_n 0, 1) := by decide +kernel
theorem dX4_touches_17 : decode cX4_touches 17 = .ok (.getfield 32, 3) := by decide +kernel
theorem dX4_touches_20 : decode cX4_touches 20 = .ok (.iconst (-1), 1) := by decide +kernel
theorem dX4_touches_21 : decode cX4_touches 21 = .ok (.if_icmp .ne 19, 3) := by decide +kernel
theorem dX4_touches_24 : decode cX4_touches 24 = .ok (.aload_n 0, 1) := by decide +kernel
theorem dX4_touches_25 : decode cX4_touches 25 = .ok (.aload_n 1, 1) := by decide +kernel
theorem dX4_touches_26 : decode cX4_touches 26 = .ok (.iload 5, 2) := by decide +kernel
theorem dX4_touches_28 : decode cX4_touches 28 = .ok (.iload_n 3, 1) := by decide +kernel
theorem dX4_touches_29 : decode cX4_touches 29 = .ok (.iload 4, 2) := by decide +kernel
theorem dX4_touches_31 : decode cX4_touches 31 = .ok (.invokevirtual 49, 3) := by decide +kernel
theorem dX4_touches_34 : decode cX4_touches 34 = .ok (.iinc 5 1, 3) := by decide +kernel
theorem dX4_touches_37 : decode cX4_touches 37 = .ok (.goto (-28), 3) := by decide +kernel
theorem dX4_touches_40 : decode cX4_touches 40 = .ok (.aload_n 0, 1) := by decide +kernel
theorem dX4_touches_41 : decode cX4_touches 41 = .ok (.getfield 32, 3) := by decide +kernel
theorem dX4_touches_44 : decode cX4_touches 44 = .ok (.iconst (-1), 1) := by decide +kernel
theorem dX4_touches_45 : decode cX4_touches 45 = .ok (.if_icmp .eq 7, 3) := by decide +kernel
theorem dX4_touches_48 : decode cX4_touches 48 = .ok (.iconst 1, 1) := by decide +kernel
theorem dX4_touches_49 : decode cX4_touches 49 = .ok (.goto 4, 3) := by decide +kernel
theorem dX4_touches_52 : decode cX4_touches 52 = .ok (.iconst 0, 1) := by decide +kernel
theorem dX4_touches_53 : decode cX4_touches 53 = .ok (.ireturn, 1) := by decide +kernel
theorem dX4_firstTouching_0 : decode cX4_firstTouching 0 = .ok (.iconst 0, 1) := by decide +kernel
theorem dX4_firstTouching_1 : decode cX4_firstTouching 1 = .ok (.istore 5, 2) := by decide +kernel
theorem dX4_firstTouching_3 : decode cX4_firstTouching 3 = .ok (.iload 5, 2) := by decide +kernel
theorem dX4_firstTouching_5 : decode cX4_firstTouching 5 = .ok (.iload_n 3, 1) := by decide +kernel
theorem dX4_firstTouching_6 : decode cX4_firstTouching 6 = .ok (.if_icmp .gt 68, 3) := by decide +kernel
theorem dX4_firstTouching_9 : decode cX4_firstTouching 9 = .ok (.iload 5, 2) := by decide +kernel
theorem dX4_firstTouching_11 : decode cX4_firstTouching 11 = .ok (.iconst 1, 1) := by decide +kernel
theorem dX4_firstTouching_12 : decode cX4_firstTouching 12 = .ok (.if_icmp .ne 6, 3) := by decide +kernel
theorem dX4_firstTouching_15 : decode cX4_firstTouching 15 = .ok (.goto 53, 3) := by decide +kernel
theorem dX4_firstTouching_18 : decode cX4_firstTouching 18 = .ok (.iconst 0, 1) := by decide +kernel
theorem dX4_firstTouching_19 : decode cX4_firstTouching 19 = .ok (.istore 6, 2) := by decide +kernel
theorem dX4_firstTouching_21 : decode cX4_firstTouching 21 = .ok (.iload 6, 2) := by decide +kernel
theorem dX4_firstTouching_23 : decode cX4_firstTouching 23 = .ok (.sipush 256, 3) := by decide +kernel
theorem dX4_firstTouching_26 : decode cX4_firstTouching 26 = .ok (.if_icmp .ge 42, 3) := by decide +kernel
theorem dX4_firstTouching_29 : decode cX4_firstTouching 29 = .ok (.iload 6, 2) := by decide +kernel
theorem dX4_firstTouching_31 : decode cX4_firstTouching 31 = .ok (.invokestatic 53, 3) := by decide +kernel
theorem dX4_firstTouching_34 : decode cX4_firstTouching 34 = .ok (.iload 4, 2) := by decide +kernel
theorem dX4_firstTouching_36 : decode cX4_firstTouching 36 = .ok (.if_icmp .gt 26, 3) := by decide +kernel
theorem dX4_firstTouching_39 : decode cX4_firstTouching 39 = .ok (.aload_n 0, 1) := by decide +kernel
theorem dX4_firstTouching_40 : decode cX4_firstTouching 40 = .ok (.aload_n 1, 1) := by decide +kernel
theorem dX4_firstTouching_41 : decode cX4_firstTouching 41 = .ok (.iload_n 2, 1) := by decide +kernel
theorem dX4_firstTouching_42 : decode cX4_firstTouching 42 = .ok (.iload 5, 2) := by decide +kernel
theorem dX4_firstTouching_44 : decode cX4_firstTouching 44 = .ok (.iload 6, 2) := by decide +kernel
theorem dX4_firstTouching_46 : decode cX4_firstTouching 46 = .ok (.invokevirtual 59, 3) := by decide +kernel
theorem dX4_firstTouching_49 : decode cX4_firstTouching 49 = .ok (.ifCond .eq 13, 3) := by decide +kernel
theorem dX4_firstTouching_52 : decode cX4_firstTouching 52 = .ok (.sipush 256, 3) := by decide +kernel
theorem dX4_firstTouching_55 : decode cX4_firstTouching 55 = .ok (.iload 5, 2) := by decide +kernel
theorem dX4_firstTouching_57 : decode cX4_firstTouching 57 = .ok (.imul, 1) := by decide +kernel
theorem dX4_firstTouching_58 : decode cX4_firstTouching 58 = .ok (.iload 6, 2) := by decide +kernel
theorem dX4_firstTouching_60 : decode cX4_firstTouching 60 = .ok (.iadd, 1) := by decide +kernel
theorem dX4_firstTouching_61 : decode cX4_firstTouching 61 = .ok (.ireturn, 1) := by decide +kernel
theorem dX4_firstTouching_62 : decode cX4_firstTouching 62 = .ok (.iinc 6 1, 3) := by decide +kernel
theorem dX4_firstTouching_65 : decode cX4_firstTouching 65 = .ok (.goto (-44), 3) := by decide +kernel
theorem dX4_firstTouching_68 : decode cX4_firstTouching 68 = .ok (.iinc 5 1, 3) := by decide +kernel
theorem dX4_firstTouching_71 : decode cX4_firstTouching 71 = .ok (.goto (-68), 3) := by decide +kernel
theorem dX4_firstTouching_74 : decode cX4_firstTouching 74 = .ok (.iconst (-1), 1) := by decide +kernel
theorem dX4_firstTouching_75 : decode cX4_firstTouching 75 = .ok (.ireturn, 1) := by decide +kernel
theorem dX4_leastGap_0 : decode cX4_leastGap 0 = .ok (.aload_n 0, 1) := by decide +kernel
theorem dX4_leastGap_1 : decode cX4_leastGap 1 = .ok (.getfield 16, 3) := by decide +kernel
theorem dX4_leastGap_4 : decode cX4_leastGap 4 = .ok (.iload_n 1, 1) := by decide +kernel
theorem dX4_leastGap_5 : decode cX4_leastGap 5 = .ok (.aaload, 1) := by decide +kernel
theorem dX4_leastGap_6 : decode cX4_leastGap 6 = .ok (.iconst 1, 1) := by decide +kernel
theorem dX4_leastGap_7 : decode cX4_leastGap 7 = .ok (.iaload, 1) := by decide +kernel
theorem dX4_leastGap_8 : decode cX4_leastGap 8 = .ok (.istore_n 2, 1) := by decide +kernel
theorem dX4_leastGap_9 : decode cX4_leastGap 9 = .ok (.iconst 2, 1) := by decide +kernel
theorem dX4_leastGap_10 : decode cX4_leastGap 10 = .ok (.istore_n 3, 1) := by decide +kernel
theorem dX4_leastGap_11 : decode cX4_leastGap 11 = .ok (.iload_n 3, 1) := by decide +kernel
theorem dX4_leastGap_12 : decode cX4_leastGap 12 = .ok (.bipush 32, 2) := by decide +kernel
theorem dX4_leastGap_14 : decode cX4_leastGap 14 = .ok (.if_icmp .gt 22, 3) := by decide +kernel
theorem dX4_leastGap_17 : decode cX4_leastGap 17 = .ok (.iload_n 2, 1) := by decide +kernel
theorem dX4_leastGap_18 : decode cX4_leastGap 18 = .ok (.aload_n 0, 1) := by decide +kernel
theorem dX4_leastGap_19 : decode cX4_leastGap 19 = .ok (.getfield 16, 3) := by decide +kernel
theorem dX4_leastGap_22 : decode cX4_leastGap 22 = .ok (.iload_n 1, 1) := by decide +kernel
theorem dX4_leastGap_23 : decode cX4_leastGap 23 = .ok (.aaload, 1) := by decide +kernel
theorem dX4_leastGap_24 : decode cX4_leastGap 24 = .ok (.iload_n 3, 1) := by decide +kernel
theorem dX4_leastGap_25 : decode cX4_leastGap 25 = .ok (.iaload, 1) := by decide +kernel
theorem dX4_leastGap_26 : decode cX4_leastGap 26 = .ok (.invokestatic 63, 3) := by decide +kernel
theorem dX4_leastGap_29 : decode cX4_leastGap 29 = .ok (.istore_n 2, 1) := by decide +kernel
theorem dX4_leastGap_30 : decode cX4_leastGap 30 = .ok (.iinc 3 1, 3) := by decide +kernel
theorem dX4_leastGap_33 : decode cX4_leastGap 33 = .ok (.goto (-22), 3) := by decide +kernel
theorem dX4_leastGap_36 : decode cX4_leastGap 36 = .ok (.iload_n 2, 1) := by decide +kernel
theorem dX4_leastGap_37 : decode cX4_leastGap 37 = .ok (.ireturn, 1) := by decide +kernel
theorem dX4_dipOf_0 : decode cX4_dipOf 0 = .ok (.aload_n 0, 1) := by decide +kernel
theorem dX4_dipOf_1 : decode cX4_dipOf 1 = .ok (.getfield 11, 3) := by decide +kernel
theorem dX4_dipOf_4 : decode cX4_dipOf 4 = .ok (.iload_n 1, 1) := by decide +kernel
theorem dX4_dipOf_5 : decode cX4_dipOf 5 = .ok (.aaload, 1) := by decide +kernel
theorem dX4_dipOf_6 : decode cX4_dipOf 6 = .ok (.iconst 0, 1) := by decide +kernel
theorem dX4_dipOf_7 : decode cX4_dipOf 7 = .ok (.iaload, 1) := by decide +kernel
theorem dX4_dipOf_8 : decode cX4_dipOf 8 = .ok (.istore_n 2, 1) := by decide +kernel
theorem dX4_dipOf_9 : decode cX4_dipOf 9 = .ok (.iconst 1, 1) := by decide +kernel
theorem dX4_dipOf_10 : decode cX4_dipOf 10 = .ok (.istore_n 3, 1) := by decide +kernel
theorem dX4_dipOf_11 : decode cX4_dipOf 11 = .ok (.iload_n 3, 1) := by decide +kernel
theorem dX4_dipOf_12 : decode cX4_dipOf 12 = .ok (.bipush 32, 2) := by decide +kernel
theorem dX4_dipOf_14 : decode cX4_dipOf 14 = .ok (.if_icmp .gt 22, 3) := by decide +kernel
theorem dX4_dipOf_17 : decode cX4_dipOf 17 = .ok (.iload_n 2, 1) := by decide +kernel
theorem dX4_dipOf_18 : decode cX4_dipOf 18 = .ok (.aload_n 0, 1) := by decide +kernel
theorem dX4_dipOf_19 : decode cX4_dipOf 19 = .ok (.getfield 11, 3) := by decide +kernel
theorem dX4_dipOf_22 : decode cX4_dipOf 22 = .ok (.iload_n 1, 1) := by decide +kernel
theorem dX4_dipOf_23 : decode cX4_dipOf 23 = .ok (.aaload, 1) := by decide +kernel
theorem dX4_dipOf_24 : decode cX4_dipOf 24 = .ok (.iload_n 3, 1) := by decide +kernel
theorem dX4_dipOf_25 : decode cX4_dipOf 25 = .ok (.iaload, 1) := by decide +kernel
theorem dX4_dipOf_26 : decode cX4_dipOf 26 = .ok (.invokestatic 63, 3) := by decide +kernel
theorem dX4_dipOf_29 : decode cX4_dipOf 29 = .ok (.istore_n 2, 1) := by decide +kernel
theorem dX4_dipOf_30 : decode cX4_dipOf 30 = .ok (.iinc 3 1, 3) := by decide +kernel
theorem dX4_dipOf_33 : decode cX4_dipOf 33 = .ok (.goto (-22), 3) := by decide +kernel
theorem dX4_dipOf_36 : decode cX4_dipOf 36 = .ok (.aload_n 0, 1) := by decide +kernel
theorem dX4_dipOf_37 : decode cX4_dipOf 37 = .ok (.getfield 11, 3) := by decide +kernel
theorem dX4_dipOf_40 : decode cX4_dipOf 40 = .ok (.iload_n 1, 1) := by decide +kernel
theorem dX4_dipOf_41 : decode cX4_dipOf 41 = .ok (.aaload, 1) := by decide +kernel
theorem dX4_dipOf_42 : decode cX4_dipOf 42 = .ok (.iconst 0, 1) := by decide +kernel
theorem dX4_dipOf_43 : decode cX4_dipOf 43 = .ok (.iaload, 1) := by decide +kernel
theorem dX4_dipOf_44 : decode cX4_dipOf 44 = .ok (.iload_n 2, 1) := by decide +kernel
theorem dX4_dipOf_45 : decode cX4_dipOf 45 = .ok (.isub, 1) := by decide +kernel
theorem dX4_dipOf_46 : decode cX4_dipOf 46 = .ok (.ireturn, 1) := by decide +kernel
theorem dX4_weightBetween_0 : decode cX4_weightBetween 0 = .ok (.iconst 0, 1) := by decide +kernel
theorem dX4_weightBetween_1 : decode cX4_weightBetween 1 = .ok (.istore 5, 2) := by decide +kernel
theorem dX4_weightBetween_3 : decode cX4_weightBetween 3 = .ok (.iconst 0, 1) := by decide +kernel
theorem dX4_weightBetween_4 : decode cX4_weightBetween 4 = .ok (.istore 6, 2) := by decide +kernel
theorem dX4_weightBetween_6 : decode cX4_weightBetween 6 = .ok (.iload 6, 2) := by decide +kernel
theorem dX4_weightBetween_8 : decode cX4_weightBetween 8 = .ok (.aload_n 1, 1) := by decide +kernel
theorem dX4_weightBetween_9 : decode cX4_weightBetween 9 = .ok (.getfield 69, 3) := by decide +kernel
theorem dX4_weightBetween_12 : decode cX4_weightBetween 12 = .ok (.if_icmp .ge 49, 3) := by decide +kernel
theorem dX4_weightBetween_15 : decode cX4_weightBetween 15 = .ok (.aload_n 0, 1) := by decide +kernel
theorem dX4_weightBetween_16 : decode cX4_weightBetween 16 = .ok (.getfield 19, 3) := by decide +kernel
theorem dX4_weightBetween_19 : decode cX4_weightBetween 19 = .ok (.iload 6, 2) := by decide +kernel
theorem dX4_weightBetween_21 : decode cX4_weightBetween 21 = .ok (.aaload, 1) := by decide +kernel
theorem dX4_weightBetween_22 : decode cX4_weightBetween 22 = .ok (.iload 4, 2) := by decide +kernel
theorem dX4_weightBetween_24 : decode cX4_weightBetween 24 = .ok (.iconst 1, 1) := by decide +kernel
theorem dX4_weightBetween_25 : decode cX4_weightBetween 25 = .ok (.iadd, 1) := by decide +kernel
theorem dX4_weightBetween_26 : decode cX4_weightBetween 26 = .ok (.iaload, 1) := by decide +kernel
theorem dX4_weightBetween_27 : decode cX4_weightBetween 27 = .ok (.istore 7, 2) := by decide +kernel
theorem dX4_weightBetween_29 : decode cX4_weightBetween 29 = .ok (.iload 7, 2) := by decide +kernel
theorem dX4_weightBetween_31 : decode cX4_weightBetween 31 = .ok (.iload_n 2, 1) := by decide +kernel
theorem dX4_weightBetween_32 : decode cX4_weightBetween 32 = .ok (.if_icmp .lt 23, 3) := by decide +kernel
theorem dX4_weightBetween_35 : decode cX4_weightBetween 35 = .ok (.iload 7, 2) := by decide +kernel
theorem dX4_weightBetween_37 : decode cX4_weightBetween 37 = .ok (.iload_n 3, 1) := by decide +kernel
theorem dX4_weightBetween_38 : decode cX4_weightBetween 38 = .ok (.if_icmp .gt 17, 3) := by decide +kernel
theorem dX4_weightBetween_41 : decode cX4_weightBetween 41 = .ok (.iload 5, 2) := by decide +kernel
theorem dX4_weightBetween_43 : decode cX4_weightBetween 43 = .ok (.aload_n 1, 1) := by decide +kernel
theorem dX4_weightBetween_44 : decode cX4_weightBetween 44 = .ok (.iload 6, 2) := by decide +kernel
theorem dX4_weightBetween_46 : decode cX4_weightBetween 46 = .ok (.invokevirtual 74, 3) := by decide +kernel
theorem dX4_weightBetween_49 : decode cX4_weightBetween 49 = .ok (.getfield 78, 3) := by decide +kernel
theorem dX4_weightBetween_52 : decode cX4_weightBetween 52 = .ok (.iadd, 1) := by decide +kernel
theorem dX4_weightBetween_53 : decode cX4_weightBetween 53 = .ok (.istore 5, 2) := by decide +kernel
theorem dX4_weightBetween_55 : decode cX4_weightBetween 55 = .ok (.iinc 6 1, 3) := by decide +kernel
theorem dX4_weightBetween_58 : decode cX4_weightBetween 58 = .ok (.goto (-52), 3) := by decide +kernel
theorem dX4_weightBetween_61 : decode cX4_weightBetween 61 = .ok (.iload 5, 2) := by decide +kernel
theorem dX4_weightBetween_63 : decode cX4_weightBetween 63 = .ok (.ireturn, 1) := by decide +kernel
theorem dX4_begin_0 : decode cX4_begin 0 = .ok (.aload_n 0, 1) := by decide +kernel
theorem dX4_begin_1 : decode cX4_begin 1 = .ok (.iconst (-1), 1) := by decide +kernel
theorem dX4_begin_2 : decode cX4_begin 2 = .ok (.putfield 32, 3) := by decide +kernel
theorem dX4_begin_5 : decode cX4_begin 5 = .ok (.aload_n 0, 1) := by decide +kernel
theorem dX4_begin_6 : decode cX4_begin 6 = .ok (.iconst (-1), 1) := by decide +kernel
theorem dX4_begin_7 : decode cX4_begin 7 = .ok (.putfield 36, 3) := by decide +kernel
theorem dX4_begin_10 : decode cX4_begin 10 = .ok (.iconst 0, 1) := by decide +kernel
theorem dX4_begin_11 : decode cX4_begin 11 = .ok (.istore_n 3, 1) := by decide +kernel
theorem dX4_begin_12 : decode cX4_begin 12 = .ok (.iload_n 3, 1) := by decide +kernel
theorem dX4_begin_13 : decode cX4_begin 13 = .ok (.aload_n 1, 1) := by decide +kernel
theorem dX4_begin_14 : decode cX4_begin 14 = .ok (.getfield 69, 3) := by decide +kernel
theorem dX4_begin_17 : decode cX4_begin 17 = .ok (.if_icmp .ge 47, 3) := by decide +kernel
theorem dX4_begin_20 : decode cX4_begin 20 = .ok (.aload_n 0, 1) := by decide +kernel
theorem dX4_begin_21 : decode cX4_begin 21 = .ok (.getfield 11, 3) := by decide +kernel
theorem dX4_begin_24 : decode cX4_begin 24 = .ok (.iload_n 3, 1) := by decide +kernel
theorem dX4_begin_25 : decode cX4_begin 25 = .ok (.aaload, 1) := by decide +kernel
theorem dX4_begin_26 : decode cX4_begin 26 = .ok (.iconst 0, 1) := by decide +kernel
theorem dX4_begin_27 : decode cX4_begin 27 = .ok (.aload_n 1, 1) := by decide +kernel
theorem dX4_begin_28 : decode cX4_begin 28 = .ok (.getfield 83, 3) := by decide +kernel
theorem dX4_begin_31 : decode cX4_begin 31 = .ok (.iconst 1, 1) := by decide +kernel
theorem dX4_begin_32 : decode cX4_begin 32 = .ok (.iaload, 1) := by decide +kernel
theorem dX4_begin_33 : decode cX4_begin 33 = .ok (.iastore, 1) := by decide +kernel
theorem dX4_begin_34 : decode cX4_begin 34 = .ok (.aload_n 0, 1) := by decide +kernel
theorem dX4_begin_35 : decode cX4_begin 35 = .ok (.getfield 16, 3) := by decide +kernel
theorem dX4_begin_38 : decode cX4_begin 38 = .ok (.iload_n 3, 1) := by decide +kernel
theorem dX4_begin_39 : decode cX4_begin 39 = .ok (.aaload, 1) := by decide +kernel
theorem dX4_begin_40 : decode cX4_begin 40 = .ok (.iconst 0, 1) := by decide +kernel
theorem dX4_begin_41 : decode cX4_begin 41 = .ok (.iload_n 2, 1) := by decide +kernel
theorem dX4_begin_42 : decode cX4_begin 42 = .ok (.iastore, 1) := by decide +kernel
theorem dX4_begin_43 : decode cX4_begin 43 = .ok (.aload_n 0, 1) := by decide +kernel
theorem dX4_begin_44 : decode cX4_begin 44 = .ok (.getfield 19, 3) := by decide +kernel
theorem dX4_begin_47 : decode cX4_begin 47 = .ok (.iload_n 3, 1) := by decide +kernel
theorem dX4_begin_48 : decode cX4_begin 48 = .ok (.aaload, 1) := by decide +kernel
theorem dX4_begin_49 : decode cX4_begin 49 = .ok (.iconst 0, 1) := by decide +kernel
theorem dX4_begin_50 : decode cX4_begin 50 = .ok (.sipush 300, 3) := by decide +kernel
theorem dX4_begin_53 : decode cX4_begin 53 = .ok (.iload_n 3, 1) := by decide +kernel
theorem dX4_begin_54 : decode cX4_begin 54 = .ok (.iload_n 2, 1) := by decide +kernel
theorem dX4_begin_55 : decode cX4_begin 55 = .ok (.imul, 1) := by decide +kernel
theorem dX4_begin_56 : decode cX4_begin 56 = .ok (.isub, 1) := by decide +kernel
theorem dX4_begin_57 : decode cX4_begin 57 = .ok (.iastore, 1) := by decide +kernel
theorem dX4_begin_58 : decode cX4_begin 58 = .ok (.iinc 3 1, 3) := by decide +kernel
theorem dX4_begin_61 : decode cX4_begin 61 = .ok (.goto (-49), 3) := by decide +kernel
theorem dX4_begin_64 : decode cX4_begin 64 = .ok (.return_, 1) := by decide +kernel
theorem dX4_pass_0 : decode cX4_pass 0 = .ok (.iload_n 2, 1) := by decide +kernel
theorem dX4_pass_1 : decode cX4_pass 1 = .ok (.aload_n 1, 1) := by decide +kernel
theorem dX4_pass_2 : decode cX4_pass 2 = .ok (.getfield 86, 3) := by decide +kernel
theorem dX4_pass_5 : decode cX4_pass 5 = .ok (.if_icmp .ne 9, 3) := by decide +kernel
theorem dX4_pass_8 : decode cX4_pass 8 = .ok (.aload_n 0, 1) := by decide +kernel
theorem dX4_pass_9 : decode cX4_pass 9 = .ok (.aload_n 1, 1) := by decide +kernel
theorem dX4_pass_10 : decode cX4_pass 10 = .ok (.iload_n 2, 1) := by decide +kernel
theorem dX4_pass_11 : decode cX4_pass 11 = .ok (.invokevirtual 89, 3) := by decide +kernel
theorem dX4_pass_14 : decode cX4_pass 14 = .ok (.aload_n 0, 1) := by decide +kernel
theorem dX4_pass_15 : decode cX4_pass 15 = .ok (.iload_n 2, 1) := by decide +kernel
theorem dX4_pass_16 : decode cX4_pass 16 = .ok (.iload_n 3, 1) := by decide +kernel
theorem dX4_pass_17 : decode cX4_pass 17 = .ok (.iload 4, 2) := by decide +kernel
theorem dX4_pass_19 : decode cX4_pass 19 = .ok (.invokevirtual 92, 3) := by decide +kernel
theorem dX4_pass_22 : decode cX4_pass 22 = .ok (.aload_n 0, 1) := by decide +kernel
theorem dX4_pass_23 : decode cX4_pass 23 = .ok (.getfield 22, 3) := by decide +kernel
theorem dX4_pass_26 : decode cX4_pass 26 = .ok (.iconst 0, 1) := by decide +kernel
theorem dX4_pass_27 : decode cX4_pass 27 = .ok (.aaload, 1) := by decide +kernel
theorem dX4_pass_28 : decode cX4_pass 28 = .ok (.iload_n 2, 1) := by decide +kernel
theorem dX4_pass_29 : decode cX4_pass 29 = .ok (.aload_n 1, 1) := by decide +kernel
theorem dX4_pass_30 : decode cX4_pass 30 = .ok (.iconst 0, 1) := by decide +kernel
theorem dX4_pass_31 : decode cX4_pass 31 = .ok (.invokevirtual 74, 3) := by decide +kernel
theorem dX4_pass_34 : decode cX4_pass 34 = .ok (.aload_n 1, 1) := by decide +kernel
theorem dX4_pass_35 : decode cX4_pass 35 = .ok (.iload_n 2, 1) := by decide +kernel
theorem dX4_pass_36 : decode cX4_pass 36 = .ok (.invokevirtual 96, 3) := by decide +kernel
theorem dX4_pass_39 : decode cX4_pass 39 = .ok (.invokevirtual 99, 3) := by decide +kernel
theorem dX4_pass_42 : decode cX4_pass 42 = .ok (.iastore, 1) := by decide +kernel
theorem dX4_pass_43 : decode cX4_pass 43 = .ok (.iconst 1, 1) := by decide +kernel
theorem dX4_pass_44 : decode cX4_pass 44 = .ok (.istore 5, 2) := by decide +kernel
theorem dX4_pass_46 : decode cX4_pass 46 = .ok (.iload 5, 2) := by decide +kernel
theorem dX4_pass_48 : decode cX4_pass 48 = .ok (.aload_n 1, 1) := by decide +kernel
theorem dX4_pass_49 : decode cX4_pass 49 = .ok (.getfield 69, 3) := by decide +kernel
theorem dX4_pass_52 : decode cX4_pass 52 = .ok (.if_icmp .ge 51, 3) := by decide +kernel
theorem dX4_pass_55 : decode cX4_pass 55 = .ok (.aload_n 0, 1) := by decide +kernel
theorem dX4_pass_56 : decode cX4_pass 56 = .ok (.aload_n 1, 1) := by decide +kernel
theorem dX4_pass_57 : decode cX4_pass 57 = .ok (.iload 5, 2) := by decide +kernel
theorem dX4_pass_59 : decode cX4_pass 59 = .ok (.iload_n 2, 1) := by decide +kernel
theorem dX4_pass_60 : decode cX4_pass 60 = .ok (.invokevirtual 102, 3) := by decide +kernel
theorem dX4_pass_63 : decode cX4_pass 63 = .ok (.aload_n 1, 1) := by decide +kernel
theorem dX4_pass_64 : decode cX4_pass 64 = .ok (.iload 5, 2) := by decide +kernel
theorem dX4_pass_66 : decode cX4_pass 66 = .ok (.invokevirtual 74, 3) := by decide +kernel
theorem dX4_pass_69 : decode cX4_pass 69 = .ok (.astore 6, 2) := by decide +kernel
theorem dX4_pass_71 : decode cX4_pass 71 = .ok (.aload_n 0, 1) := by decide +kernel
theorem dX4_pass_72 : decode cX4_pass 72 = .ok (.getfield 22, 3) := by decide +kernel
theorem dX4_pass_75 : decode cX4_pass 75 = .ok (.iload 5, 2) := by decide +kernel
theorem dX4_pass_77 : decode cX4_pass 77 = .ok (.aaload, 1) := by decide +kernel
theorem dX4_pass_78 : decode cX4_pass 78 = .ok (.iload_n 2, 1) := by decide +kernel
theorem dX4_pass_79 : decode cX4_pass 79 = .ok (.aload 6, 2) := by decide +kernel
theorem dX4_pass_81 : decode cX4_pass 81 = .ok (.aload 6, 2) := by decide +kernel
theorem dX4_pass_83 : decode cX4_pass 83 = .ok (.getfield 106, 3) := by decide +kernel
theorem dX4_pass_86 : decode cX4_pass 86 = .ok (.aload_n 0, 1) := by decide +kernel
theorem dX4_pass_87 : decode cX4_pass 87 = .ok (.getfield 39, 3) := by decide +kernel
theorem dX4_pass_90 : decode cX4_pass 90 = .ok (.invokevirtual 110, 3) := by decide +kernel
theorem dX4_pass_93 : decode cX4_pass 93 = .ok (.invokevirtual 99, 3) := by decide +kernel
theorem dX4_pass_96 : decode cX4_pass 96 = .ok (.iastore, 1) := by decide +kernel
theorem dX4_pass_97 : decode cX4_pass 97 = .ok (.iinc 5 1, 3) := by decide +kernel
theorem dX4_pass_100 : decode cX4_pass 100 = .ok (.goto (-54), 3) := by decide +kernel
theorem dX4_pass_103 : decode cX4_pass 103 = .ok (.iconst 0, 1) := by decide +kernel
theorem dX4_pass_104 : decode cX4_pass 104 = .ok (.istore 5, 2) := by decide +kernel
theorem dX4_pass_106 : decode cX4_pass 106 = .ok (.iload 5, 2) := by decide +kernel
theorem dX4_pass_108 : decode cX4_pass 108 = .ok (.aload_n 1, 1) := by decide +kernel
theorem dX4_pass_109 : decode cX4_pass 109 = .ok (.getfield 69, 3) := by decide +kernel
theorem dX4_pass_112 : decode cX4_pass 112 = .ok (.if_icmp .ge 28, 3) := by decide +kernel
theorem dX4_pass_115 : decode cX4_pass 115 = .ok (.aload_n 0, 1) := by decide +kernel
theorem dX4_pass_116 : decode cX4_pass 116 = .ok (.getfield 11, 3) := by decide +kernel
theorem dX4_pass_119 : decode cX4_pass 119 = .ok (.iload 5, 2) := by decide +kernel
theorem dX4_pass_121 : decode cX4_pass 121 = .ok (.aaload, 1) := by decide +kernel
theorem dX4_pass_122 : decode cX4_pass 122 = .ok (.iload_n 2, 1) := by decide +kernel
theorem dX4_pass_123 : decode cX4_pass 123 = .ok (.iconst 1, 1) := by decide +kernel
theorem dX4_pass_124 : decode cX4_pass 124 = .ok (.iadd, 1) := by decide +kernel
theorem dX4_pass_125 : decode cX4_pass 125 = .ok (.aload_n 0, 1) := by decide +kernel
theorem dX4_pass_126 : decode cX4_pass 126 = .ok (.aload_n 1, 1) := by decide +kernel
theorem dX4_pass_127 : decode cX4_pass 127 = .ok (.iload 5, 2) := by decide +kernel
theorem dX4_pass_129 : decode cX4_pass 129 = .ok (.iload_n 2, 1) := by decide +kernel
theorem dX4_pass_130 : decode cX4_pass 130 = .ok (.invokevirtual 116, 3) := by decide +kernel
theorem dX4_pass_133 : decode cX4_pass 133 = .ok (.iastore, 1) := by decide +kernel
theorem dX4_pass_134 : decode cX4_pass 134 = .ok (.iinc 5 1, 3) := by decide +kernel
theorem dX4_pass_137 : decode cX4_pass 137 = .ok (.goto (-31), 3) := by decide +kernel
theorem dX4_pass_140 : decode cX4_pass 140 = .ok (.aload_n 0, 1) := by decide +kernel
theorem dX4_pass_141 : decode cX4_pass 141 = .ok (.aload_n 1, 1) := by decide +kernel
theorem dX4_pass_142 : decode cX4_pass 142 = .ok (.iload_n 2, 1) := by decide +kernel
theorem dX4_pass_143 : decode cX4_pass 143 = .ok (.invokevirtual 120, 3) := by decide +kernel
theorem dX4_pass_146 : decode cX4_pass 146 = .ok (.aload_n 0, 1) := by decide +kernel
theorem dX4_pass_147 : decode cX4_pass 147 = .ok (.aload_n 1, 1) := by decide +kernel
theorem dX4_pass_148 : decode cX4_pass 148 = .ok (.iload_n 2, 1) := by decide +kernel
theorem dX4_pass_149 : decode cX4_pass 149 = .ok (.invokevirtual 123, 3) := by decide +kernel
theorem dX4_pass_152 : decode cX4_pass 152 = .ok (.return_, 1) := by decide +kernel
theorem dX4_meetStranger_0 : decode cX4_meetStranger 0 = .ok (.aload_n 1, 1) := by decide +kernel
theorem dX4_meetStranger_1 : decode cX4_meetStranger 1 = .ok (.getfield 126, 3) := by decide +kernel
theorem dX4_meetStranger_4 : decode cX4_meetStranger 4 = .ok (.istore_n 3, 1) := by decide +kernel
theorem dX4_meetStranger_5 : decode cX4_meetStranger 5 = .ok (.iload_n 3, 1) := by decide +kernel
theorem dX4_meetStranger_6 : decode cX4_meetStranger 6 = .ok (.ifCond .le 25, 3) := by decide +kernel
theorem dX4_meetStranger_9 : decode cX4_meetStranger 9 = .ok (.iload_n 3, 1) := by decide +kernel
theorem dX4_meetStranger_10 : decode cX4_meetStranger 10 = .ok (.aload_n 1, 1) := by decide +kernel
theorem dX4_meetStranger_11 : decode cX4_meetStranger 11 = .ok (.getfield 69, 3) := by decide +kernel
theorem dX4_meetStranger_14 : decode cX4_meetStranger 14 = .ok (.if_icmp .ge 17, 3) := by decide +kernel
theorem dX4_meetStranger_17 : decode cX4_meetStranger 17 = .ok (.aload_n 0, 1) := by decide +kernel
theorem dX4_meetStranger_18 : decode cX4_meetStranger 18 = .ok (.aload_n 0, 1) := by decide +kernel
theorem dX4_meetStranger_19 : decode cX4_meetStranger 19 = .ok (.getfield 16, 3) := by decide +kernel
theorem dX4_meetStranger_22 : decode cX4_meetStranger 22 = .ok (.iload_n 3, 1) := by decide +kernel
theorem dX4_meetStranger_23 : decode cX4_meetStranger 23 = .ok (.aaload, 1) := by decide +kernel
theorem dX4_meetStranger_24 : decode cX4_meetStranger 24 = .ok (.iload_n 2, 1) := by decide +kernel
theorem dX4_meetStranger_25 : decode cX4_meetStranger 25 = .ok (.iaload, 1) := by decide +kernel
theorem dX4_meetStranger_26 : decode cX4_meetStranger 26 = .ok (.iconst 2, 1) := by decide +kernel
theorem dX4_meetStranger_27 : decode cX4_meetStranger 27 = .ok (.idiv, 1) := by decide +kernel
theorem dX4_meetStranger_28 : decode cX4_meetStranger 28 = .ok (.putfield 42, 3) := by decide +kernel
theorem dX4_meetStranger_31 : decode cX4_meetStranger 31 = .ok (.return_, 1) := by decide +kernel
theorem dX4_hear_0 : decode cX4_hear 0 = .ok (.aload_n 0, 1) := by decide +kernel
theorem dX4_hear_1 : decode cX4_hear 1 = .ok (.getfield 25, 3) := by decide +kernel
theorem dX4_hear_4 : decode cX4_hear 4 = .ok (.iload_n 1, 1) := by decide +kernel
theorem dX4_hear_5 : decode cX4_hear 5 = .ok (.iconst 0, 1) := by decide +kernel
theorem dX4_hear_6 : decode cX4_hear 6 = .ok (.iastore, 1) := by decide +kernel
theorem dX4_hear_7 : decode cX4_hear 7 = .ok (.aload_n 0, 1) := by decide +kernel
theorem dX4_hear_8 : decode cX4_hear 8 = .ok (.getfield 29, 3) := by decide +kernel
theorem dX4_hear_11 : decode cX4_hear 11 = .ok (.iload_n 1, 1) := by decide +kernel
theorem dX4_hear_12 : decode cX4_hear 12 = .ok (.bipush 99, 2) := by decide +kernel
theorem dX4_hear_14 : decode cX4_hear 14 = .ok (.iastore, 1) := by decide +kernel
theorem dX4_hear_15 : decode cX4_hear 15 = .ok (.iload_n 1, 1) := by decide +kernel
theorem dX4_hear_16 : decode cX4_hear 16 = .ok (.iconst 1, 1) := by decide +kernel
theorem dX4_hear_17 : decode cX4_hear 17 = .ok (.iload_n 2, 1) := by decide +kernel
theorem dX4_hear_18 : decode cX4_hear 18 = .ok (.invokestatic 129, 3) := by decide +kernel
theorem dX4_hear_21 : decode cX4_hear 21 = .ok (.isub, 1) := by decide +kernel
theorem dX4_hear_22 : decode cX4_hear 22 = .ok (.istore 4, 2) := by decide +kernel
theorem dX4_hear_24 : decode cX4_hear 24 = .ok (.iload 4, 2) := by decide +kernel
theorem dX4_hear_26 : decode cX4_hear 26 = .ok (.ifCond .lt 49, 3) := by decide +kernel
theorem dX4_hear_29 : decode cX4_hear 29 = .ok (.iload_n 3, 1) := by decide +kernel
theorem dX4_hear_30 : decode cX4_hear 30 = .ok (.iload 4, 2) := by decide +kernel
theorem dX4_hear_32 : decode cX4_hear 32 = .ok (.ishr, 1) := by decide +kernel
theorem dX4_hear_33 : decode cX4_hear 33 = .ok (.iconst 1, 1) := by decide +kernel
theorem dX4_hear_34 : decode cX4_hear 34 = .ok (.iand, 1) := by decide +kernel
theorem dX4_hear_35 : decode cX4_hear 35 = .ok (.ifCond .ne 34, 3) := by decide +kernel
theorem dX4_hear_38 : decode cX4_hear 38 = .ok (.aload_n 0, 1) := by decide +kernel
theorem dX4_hear_39 : decode cX4_hear 39 = .ok (.getfield 25, 3) := by decide +kernel
theorem dX4_hear_42 : decode cX4_hear 42 = .ok (.iload_n 1, 1) := by decide +kernel
theorem dX4_hear_43 : decode cX4_hear 43 = .ok (.iconst 0, 1) := by decide +kernel
theorem dX4_hear_44 : decode cX4_hear 44 = .ok (.aload_n 0, 1) := by decide +kernel
theorem dX4_hear_45 : decode cX4_hear 45 = .ok (.getfield 22, 3) := by decide +kernel
theorem dX4_hear_48 : decode cX4_hear 48 = .ok (.iconst 0, 1) := by decide +kernel
theorem dX4_hear_49 : decode cX4_hear 49 = .ok (.aaload, 1) := by decide +kernel
theorem dX4_hear_50 : decode cX4_hear 50 = .ok (.iload 4, 2) := by decide +kernel
theorem dX4_hear_52 : decode cX4_hear 52 = .ok (.iaload, 1) := by decide +kernel
theorem dX4_hear_53 : decode cX4_hear 53 = .ok (.ineg, 1) := by decide +kernel
theorem dX4_hear_54 : decode cX4_hear 54 = .ok (.invokestatic 129, 3) := by decide +kernel
theorem dX4_hear_57 : decode cX4_hear 57 = .ok (.iastore, 1) := by decide +kernel
theorem dX4_hear_58 : decode cX4_hear 58 = .ok (.aload_n 0, 1) := by decide +kernel
theorem dX4_hear_59 : decode cX4_hear 59 = .ok (.getfield 29, 3) := by decide +kernel
theorem dX4_hear_62 : decode cX4_hear 62 = .ok (.iload_n 1, 1) := by decide +kernel
theorem dX4_hear_63 : decode cX4_hear 63 = .ok (.iload_n 1, 1) := by decide +kernel
theorem dX4_hear_64 : decode cX4_hear 64 = .ok (.iload 4, 2) := by decide +kernel
theorem dX4_hear_66 : decode cX4_hear 66 = .ok (.isub, 1) := by decide +kernel
theorem dX4_hear_67 : decode cX4_hear 67 = .ok (.iastore, 1) := by decide +kernel
theorem dX4_hear_68 : decode cX4_hear 68 = .ok (.return_, 1) := by decide +kernel
theorem dX4_hear_69 : decode cX4_hear 69 = .ok (.iinc 4 (-1), 3) := by decide +kernel
theorem dX4_hear_72 : decode cX4_hear 72 = .ok (.goto (-48), 3) := by decide +kernel
theorem dX4_hear_75 : decode cX4_hear 75 = .ok (.return_, 1) := by decide +kernel
theorem dX4_read_0 : decode cX4_read 0 = .ok (.aload_n 1, 1) := by decide +kernel
theorem dX4_read_1 : decode cX4_read 1 = .ok (.iload_n 2, 1) := by decide +kernel
theorem dX4_read_2 : decode cX4_read 2 = .ok (.iload_n 3, 1) := by decide +kernel
theorem dX4_read_3 : decode cX4_read 3 = .ok (.invokevirtual 132, 3) := by decide +kernel
theorem dX4_read_6 : decode cX4_read 6 = .ok (.istore 4, 2) := by decide +kernel
theorem dX4_read_8 : decode cX4_read 8 = .ok (.iload 4, 2) := by decide +kernel
theorem dX4_read_10 : decode cX4_read 10 = .ok (.ifCond .eq 10, 3) := by decide +kernel
theorem dX4_read_13 : decode cX4_read 13 = .ok (.aload_n 1, 1) := by decide +kernel
theorem dX4_read_14 : decode cX4_read 14 = .ok (.getfield 136, 3) := by decide +kernel
theorem dX4_read_17 : decode cX4_read 17 = .ok (.goto 13, 3) := by decide +kernel
theorem dX4_read_20 : decode cX4_read 20 = .ok (.aload_n 0, 1) := by decide +kernel
theorem dX4_read_21 : decode cX4_read 21 = .ok (.getfield 11, 3) := by decide +kernel
theorem dX4_read_24 : decode cX4_read 24 = .ok (.iload_n 2, 1) := by decide +kernel
theorem dX4_read_25 : decode cX4_read 25 = .ok (.iconst 1, 1) := by decide +kernel
theorem dX4_read_26 : decode cX4_read 26 = .ok (.isub, 1) := by decide +kernel
theorem dX4_read_27 : decode cX4_read 27 = .ok (.aaload, 1) := by decide +kernel
theorem dX4_read_28 : decode cX4_read 28 = .ok (.iload_n 3, 1) := by decide +kernel
theorem dX4_read_29 : decode cX4_read 29 = .ok (.iaload, 1) := by decide +kernel
theorem dX4_read_30 : decode cX4_read 30 = .ok (.istore 5, 2) := by decide +kernel
theorem dX4_read_32 : decode cX4_read 32 = .ok (.iload 4, 2) := by decide +kernel
theorem dX4_read_34 : decode cX4_read 34 = .ok (.ifCond .eq 10, 3) := by decide +kernel
theorem dX4_read_37 : decode cX4_read 37 = .ok (.aload_n 0, 1) := by decide +kernel
theorem dX4_read_38 : decode cX4_read 38 = .ok (.getfield 42, 3) := by decide +kernel
theorem dX4_read_41 : decode cX4_read 41 = .ok (.goto 11, 3) := by decide +kernel
theorem dX4_read_44 : decode cX4_read 44 = .ok (.aload_n 0, 1) := by decide +kernel
theorem dX4_read_45 : decode cX4_read 45 = .ok (.getfield 16, 3) := by decide +kernel
theorem dX4_read_48 : decode cX4_read 48 = .ok (.iload_n 2, 1) := by decide +kernel
theorem dX4_read_49 : decode cX4_read 49 = .ok (.aaload, 1) := by decide +kernel
theorem dX4_read_50 : decode cX4_read 50 = .ok (.iload_n 3, 1) := by decide +kernel
theorem dX4_read_51 : decode cX4_read 51 = .ok (.iaload, 1) := by decide +kernel
theorem dX4_read_52 : decode cX4_read 52 = .ok (.istore 6, 2) := by decide +kernel
theorem dX4_read_54 : decode cX4_read 54 = .ok (.aload_n 0, 1) := by decide +kernel
theorem dX4_read_55 : decode cX4_read 55 = .ok (.getfield 11, 3) := by decide +kernel
theorem dX4_read_58 : decode cX4_read 58 = .ok (.iload_n 2, 1) := by decide +kernel
theorem dX4_read_59 : decode cX4_read 59 = .ok (.aaload, 1) := by decide +kernel
theorem dX4_read_60 : decode cX4_read 60 = .ok (.iload_n 3, 1) := by decide +kernel
theorem dX4_read_61 : decode cX4_read 61 = .ok (.iaload, 1) := by decide +kernel
theorem dX4_read_62 : decode cX4_read 62 = .ok (.istore 7, 2) := by decide +kernel
theorem dX4_read_64 : decode cX4_read 64 = .ok (.aload_n 0, 1) := by decide +kernel
theorem dX4_read_65 : decode cX4_read 65 = .ok (.getfield 39, 3) := by decide +kernel
theorem dX4_read_68 : decode cX4_read 68 = .ok (.iconst 0, 1) := by decide +kernel
theorem dX4_read_69 : decode cX4_read 69 = .ok (.bipush 99, 2) := by decide +kernel
theorem dX4_read_71 : decode cX4_read 71 = .ok (.iload 6, 2) := by decide +kernel
theorem dX4_read_73 : decode cX4_read 73 = .ok (.invokestatic 63, 3) := by decide +kernel
theorem dX4_read_76 : decode cX4_read 76 = .ok (.iastore, 1) := by decide +kernel
theorem dX4_read_77 : decode cX4_read 77 = .ok (.aload_n 0, 1) := by decide +kernel
theorem dX4_read_78 : decode cX4_read 78 = .ok (.getfield 39, 3) := by decide +kernel
theorem dX4_read_81 : decode cX4_read 81 = .ok (.iconst 1, 1) := by decide +kernel
theorem dX4_read_82 : decode cX4_read 82 = .ok (.iconst 0, 1) := by decide +kernel
theorem dX4_read_83 : decode cX4_read 83 = .ok (.iload 7, 2) := by decide +kernel
theorem dX4_read_85 : decode cX4_read 85 = .ok (.iload 5, 2) := by decide +kernel
theorem dX4_read_87 : decode cX4_read 87 = .ok (.isub, 1) := by decide +kernel
theorem dX4_read_88 : decode cX4_read 88 = .ok (.invokestatic 129, 3) := by decide +kernel
theorem dX4_read_91 : decode cX4_read 91 = .ok (.iastore, 1) := by decide +kernel
theorem dX4_read_92 : decode cX4_read 92 = .ok (.aload_n 0, 1) := by decide +kernel
theorem dX4_read_93 : decode cX4_read 93 = .ok (.getfield 39, 3) := by decide +kernel
theorem dX4_read_96 : decode cX4_read 96 = .ok (.iconst 2, 1) := by decide +kernel
theorem dX4_read_97 : decode cX4_read 97 = .ok (.iconst 0, 1) := by decide +kernel
theorem dX4_read_98 : decode cX4_read 98 = .ok (.iload 5, 2) := by decide +kernel
theorem dX4_read_100 : decode cX4_read 100 = .ok (.iload 7, 2) := by decide +kernel
theorem dX4_read_102 : decode cX4_read 102 = .ok (.isub, 1) := by decide +kernel
theorem dX4_read_103 : decode cX4_read 103 = .ok (.invokestatic 129, 3) := by decide +kernel
theorem dX4_read_106 : decode cX4_read 106 = .ok (.iastore, 1) := by decide +kernel
theorem dX4_read_107 : decode cX4_read 107 = .ok (.aload_n 0, 1) := by decide +kernel
theorem dX4_read_108 : decode cX4_read 108 = .ok (.getfield 39, 3) := by decide +kernel
theorem dX4_read_111 : decode cX4_read 111 = .ok (.iconst 3, 1) := by decide +kernel
theorem dX4_read_112 : decode cX4_read 112 = .ok (.iload 7, 2) := by decide +kernel
theorem dX4_read_114 : decode cX4_read 114 = .ok (.iastore, 1) := by decide +kernel
theorem dX4_read_115 : decode cX4_read 115 = .ok (.aload_n 0, 1) := by decide +kernel
theorem dX4_read_116 : decode cX4_read 116 = .ok (.getfield 39, 3) := by decide +kernel
theorem dX4_read_119 : decode cX4_read 119 = .ok (.iconst 4, 1) := by decide +kernel
theorem dX4_read_120 : decode cX4_read 120 = .ok (.aload_n 0, 1) := by decide +kernel
theorem dX4_read_121 : decode cX4_read 121 = .ok (.getfield 25, 3) := by decide +kernel
theorem dX4_read_124 : decode cX4_read 124 = .ok (.iload_n 3, 1) := by decide +kernel
theorem dX4_read_125 : decode cX4_read 125 = .ok (.iaload, 1) := by decide +kernel
theorem dX4_read_126 : decode cX4_read 126 = .ok (.iastore, 1) := by decide +kernel
theorem dX4_read_127 : decode cX4_read 127 = .ok (.aload_n 0, 1) := by decide +kernel
theorem dX4_read_128 : decode cX4_read 128 = .ok (.getfield 39, 3) := by decide +kernel
theorem dX4_read_131 : decode cX4_read 131 = .ok (.iconst 5, 1) := by decide +kernel
theorem dX4_read_132 : decode cX4_read 132 = .ok (.aload_n 0, 1) := by decide +kernel
theorem dX4_read_133 : decode cX4_read 133 = .ok (.getfield 29, 3) := by decide +kernel
theorem dX4_read_136 : decode cX4_read 136 = .ok (.iload_n 3, 1) := by decide +kernel
theorem dX4_read_137 : decode cX4_read 137 = .ok (.iaload, 1) := by decide +kernel
theorem dX4_read_138 : decode cX4_read 138 = .ok (.iastore, 1) := by decide +kernel
theorem dX4_read_139 : decode cX4_read 139 = .ok (.return_, 1) := by decide +kernel
theorem dX4_speedBehind_0 : decode cX4_speedBehind 0 = .ok (.aload_n 1, 1) := by decide +kernel
theorem dX4_speedBehind_1 : decode cX4_speedBehind 1 = .ok (.iload_n 2, 1) := by decide +kernel
theorem dX4_speedBehind_2 : decode cX4_speedBehind 2 = .ok (.invokevirtual 74, 3) := by decide +kernel
theorem dX4_speedBehind_5 : decode cX4_speedBehind 5 = .ok (.astore 4, 2) := by decide +kernel
theorem dX4_speedBehind_7 : decode cX4_speedBehind 7 = .ok (.iload_n 3, 1) := by decide +kernel
theorem dX4_speedBehind_8 : decode cX4_speedBehind 8 = .ok (.aload 4, 2) := by decide +kernel
theorem dX4_speedBehind_10 : decode cX4_speedBehind 10 = .ok (.getfield 139, 3) := by decide +kernel
theorem dX4_speedBehind_13 : decode cX4_speedBehind 13 = .ok (.isub, 1) := by decide +kernel
theorem dX4_speedBehind_14 : decode cX4_speedBehind 14 = .ok (.istore 5, 2) := by decide +kernel
theorem dX4_speedBehind_16 : decode cX4_speedBehind 16 = .ok (.iload 5, 2) := by decide +kernel
theorem dX4_speedBehind_18 : decode cX4_speedBehind 18 = .ok (.ifCond .ge 7, 3) := by decide +kernel
theorem dX4_speedBehind_21 : decode cX4_speedBehind 21 = .ok (.iconst 0, 1) := by decide +kernel
theorem dX4_speedBehind_22 : decode cX4_speedBehind 22 = .ok (.goto 12, 3) := by decide +kernel
theorem dX4_speedBehind_25 : decode cX4_speedBehind 25 = .ok (.aload_n 0, 1) := by decide +kernel
theorem dX4_speedBehind_26 : decode cX4_speedBehind 26 = .ok (.getfield 22, 3) := by decide +kernel
theorem dX4_speedBehind_29 : decode cX4_speedBehind 29 = .ok (.iload_n 2, 1) := by decide +kernel
theorem dX4_speedBehind_30 : decode cX4_speedBehind 30 = .ok (.aaload, 1) := by decide +kernel
theorem dX4_speedBehind_31 : decode cX4_speedBehind 31 = .ok (.iload 5, 2) := by decide +kernel
theorem dX4_speedBehind_33 : decode cX4_speedBehind 33 = .ok (.iaload, 1) := by decide +kernel
theorem dX4_speedBehind_34 : decode cX4_speedBehind 34 = .ok (.istore 6, 2) := by decide +kernel
theorem dX4_speedBehind_36 : decode cX4_speedBehind 36 = .ok (.aload_n 1, 1) := by decide +kernel
theorem dX4_speedBehind_37 : decode cX4_speedBehind 37 = .ok (.aload 4, 2) := by decide +kernel
theorem dX4_speedBehind_39 : decode cX4_speedBehind 39 = .ok (.getfield 78, 3) := by decide +kernel
theorem dX4_speedBehind_42 : decode cX4_speedBehind 42 = .ok (.aload_n 0, 1) := by decide +kernel
theorem dX4_speedBehind_43 : decode cX4_speedBehind 43 = .ok (.getfield 19, 3) := by decide +kernel
theorem dX4_speedBehind_46 : decode cX4_speedBehind 46 = .ok (.iload_n 2, 1) := by decide +kernel
theorem dX4_speedBehind_47 : decode cX4_speedBehind 47 = .ok (.aaload, 1) := by decide +kernel
theorem dX4_speedBehind_48 : decode cX4_speedBehind 48 = .ok (.iload_n 3, 1) := by decide +kernel
theorem dX4_speedBehind_49 : decode cX4_speedBehind 49 = .ok (.iaload, 1) := by decide +kernel
theorem dX4_speedBehind_50 : decode cX4_speedBehind 50 = .ok (.invokevirtual 142, 3) := by decide +kernel
theorem dX4_speedBehind_53 : decode cX4_speedBehind 53 = .ok (.istore 7, 2) := by decide +kernel
theorem dX4_speedBehind_55 : decode cX4_speedBehind 55 = .ok (.iconst 0, 1) := by decide +kernel
theorem dX4_speedBehind_56 : decode cX4_speedBehind 56 = .ok (.iload 7, 2) := by decide +kernel
theorem dX4_speedBehind_58 : decode cX4_speedBehind 58 = .ok (.aload_n 0, 1) := by decide +kernel
theorem dX4_speedBehind_59 : decode cX4_speedBehind 59 = .ok (.getfield 11, 3) := by decide +kernel
theorem dX4_speedBehind_62 : decode cX4_speedBehind 62 = .ok (.iload_n 2, 1) := by decide +kernel
theorem dX4_speedBehind_63 : decode cX4_speedBehind 63 = .ok (.aaload, 1) := by decide +kernel
theorem dX4_speedBehind_64 : decode cX4_speedBehind 64 = .ok (.iload_n 3, 1) := by decide +kernel
theorem dX4_speedBehind_65 : decode cX4_speedBehind 65 = .ok (.iaload, 1) := by decide +kernel
theorem dX4_speedBehind_66 : decode cX4_speedBehind 66 = .ok (.iload 6, 2) := by decide +kernel
theorem dX4_speedBehind_68 : decode cX4_speedBehind 68 = .ok (.iadd, 1) := by decide +kernel
theorem dX4_speedBehind_69 : decode cX4_speedBehind 69 = .ok (.invokestatic 63, 3) := by decide +kernel
theorem dX4_speedBehind_72 : decode cX4_speedBehind 72 = .ok (.invokestatic 129, 3) := by decide +kernel
theorem dX4_speedBehind_75 : decode cX4_speedBehind 75 = .ok (.ireturn, 1) := by decide +kernel
theorem dX4_go_0 : decode cX4_go 0 = .ok (.iconst 0, 1) := by decide +kernel
theorem dX4_go_1 : decode cX4_go 1 = .ok (.istore_n 3, 1) := by decide +kernel
theorem dX4_go_2 : decode cX4_go 2 = .ok (.iload_n 3, 1) := by decide +kernel
theorem dX4_go_3 : decode cX4_go 3 = .ok (.aload_n 1, 1) := by decide +kernel
theorem dX4_go_4 : decode cX4_go 4 = .ok (.getfield 69, 3) := by decide +kernel
theorem dX4_go_7 : decode cX4_go 7 = .ok (.if_icmp .ge 105, 3) := by decide +kernel
theorem dX4_go_10 : decode cX4_go 10 = .ok (.aload_n 0, 1) := by decide +kernel
theorem dX4_go_11 : decode cX4_go 11 = .ok (.getfield 11, 3) := by decide +kernel
theorem dX4_go_14 : decode cX4_go 14 = .ok (.iload_n 3, 1) := by decide +kernel
theorem dX4_go_15 : decode cX4_go 15 = .ok (.aaload, 1) := by decide +kernel
theorem dX4_go_16 : decode cX4_go 16 = .ok (.iload_n 2, 1) := by decide +kernel
theorem dX4_go_17 : decode cX4_go 17 = .ok (.iconst 1, 1) := by decide +kernel
theorem dX4_go_18 : decode cX4_go 18 = .ok (.iadd, 1) := by decide +kernel
theorem dX4_go_19 : decode cX4_go 19 = .ok (.iaload, 1) := by decide +kernel
theorem dX4_go_20 : decode cX4_go 20 = .ok (.istore 4, 2) := by decide +kernel
theorem dX4_go_22 : decode cX4_go 22 = .ok (.aload_n 0, 1) := by decide +kernel
theorem dX4_go_23 : decode cX4_go 23 = .ok (.getfield 19, 3) := by decide +kernel
theorem dX4_go_26 : decode cX4_go 26 = .ok (.iload_n 3, 1) := by decide +kernel
theorem dX4_go_27 : decode cX4_go 27 = .ok (.aaload, 1) := by decide +kernel
theorem dX4_go_28 : decode cX4_go 28 = .ok (.iload_n 2, 1) := by decide +kernel
theorem dX4_go_29 : decode cX4_go 29 = .ok (.iconst 1, 1) := by decide +kernel
theorem dX4_go_30 : decode cX4_go 30 = .ok (.iadd, 1) := by decide +kernel
theorem dX4_go_31 : decode cX4_go 31 = .ok (.aload_n 0, 1) := by decide +kernel
theorem dX4_go_32 : decode cX4_go 32 = .ok (.getfield 19, 3) := by decide +kernel
theorem dX4_go_35 : decode cX4_go 35 = .ok (.iload_n 3, 1) := by decide +kernel
theorem dX4_go_36 : decode cX4_go 36 = .ok (.aaload, 1) := by decide +kernel
theorem dX4_go_37 : decode cX4_go 37 = .ok (.iload_n 2, 1) := by decide +kernel
theorem dX4_go_38 : decode cX4_go 38 = .ok (.iaload, 1) := by decide +kernel
theorem dX4_go_39 : decode cX4_go 39 = .ok (.iload 4, 2) := by decide +kernel
theorem dX4_go_41 : decode cX4_go 41 = .ok (.iadd, 1) := by decide +kernel
theorem dX4_go_42 : decode cX4_go 42 = .ok (.iastore, 1) := by decide +kernel
theorem dX4_go_43 : decode cX4_go 43 = .ok (.iload_n 3, 1) := by decide +kernel
theorem dX4_go_44 : decode cX4_go 44 = .ok (.ifCond .le 37, 3) := by decide +kernel
theorem dX4_go_47 : decode cX4_go 47 = .ok (.aload_n 0, 1) := by decide +kernel
theorem dX4_go_48 : decode cX4_go 48 = .ok (.getfield 16, 3) := by decide +kernel
theorem dX4_go_51 : decode cX4_go 51 = .ok (.iload_n 3, 1) := by decide +kernel
theorem dX4_go_52 : decode cX4_go 52 = .ok (.aaload, 1) := by decide +kernel
theorem dX4_go_53 : decode cX4_go 53 = .ok (.iload_n 2, 1) := by decide +kernel
theorem dX4_go_54 : decode cX4_go 54 = .ok (.iconst 1, 1) := by decide +kernel
theorem dX4_go_55 : decode cX4_go 55 = .ok (.iadd, 1) := by decide +kernel
theorem dX4_go_56 : decode cX4_go 56 = .ok (.aload_n 0, 1) := by decide +kernel
theorem dX4_go_57 : decode cX4_go 57 = .ok (.getfield 16, 3) := by decide +kernel
theorem dX4_go_60 : decode cX4_go 60 = .ok (.iload_n 3, 1) := by decide +kernel
theorem dX4_go_61 : decode cX4_go 61 = .ok (.aaload, 1) := by decide +kernel
theorem dX4_go_62 : decode cX4_go 62 = .ok (.iload_n 2, 1) := by decide +kernel
theorem dX4_go_63 : decode cX4_go 63 = .ok (.iaload, 1) := by decide +kernel
theorem dX4_go_64 : decode cX4_go 64 = .ok (.aload_n 0, 1) := by decide +kernel
theorem dX4_go_65 : decode cX4_go 65 = .ok (.getfield 11, 3) := by decide +kernel
theorem dX4_go_68 : decode cX4_go 68 = .ok (.iload_n 3, 1) := by decide +kernel
theorem dX4_go_69 : decode cX4_go 69 = .ok (.iconst 1, 1) := by decide +kernel
theorem dX4_go_70 : decode cX4_go 70 = .ok (.isub, 1) := by decide +kernel
theorem dX4_go_71 : decode cX4_go 71 = .ok (.aaload, 1) := by decide +kernel
theorem dX4_go_72 : decode cX4_go 72 = .ok (.iload_n 2, 1) := by decide +kernel
theorem dX4_go_73 : decode cX4_go 73 = .ok (.iconst 1, 1) := by decide +kernel
theorem dX4_go_74 : decode cX4_go 74 = .ok (.iadd, 1) := by decide +kernel
theorem dX4_go_75 : decode cX4_go 75 = .ok (.iaload, 1) := by decide +kernel
theorem dX4_go_76 : decode cX4_go 76 = .ok (.iadd, 1) := by decide +kernel
theorem dX4_go_77 : decode cX4_go 77 = .ok (.iload 4, 2) := by decide +kernel
theorem dX4_go_79 : decode cX4_go 79 = .ok (.isub, 1) := by decide +kernel
theorem dX4_go_80 : decode cX4_go 80 = .ok (.iastore, 1) := by decide +kernel
theorem dX4_go_81 : decode cX4_go 81 = .ok (.aload_n 1, 1) := by decide +kernel
theorem dX4_go_82 : decode cX4_go 82 = .ok (.iload_n 3, 1) := by decide +kernel
theorem dX4_go_83 : decode cX4_go 83 = .ok (.iload_n 2, 1) := by decide +kernel
theorem dX4_go_84 : decode cX4_go 84 = .ok (.invokevirtual 132, 3) := by decide +kernel
theorem dX4_go_87 : decode cX4_go 87 = .ok (.ifCond .eq 19, 3) := by decide +kernel
theorem dX4_go_90 : decode cX4_go 90 = .ok (.aload_n 0, 1) := by decide +kernel
theorem dX4_go_91 : decode cX4_go 91 = .ok (.dup, 1) := by decide +kernel
theorem dX4_go_92 : decode cX4_go 92 = .ok (.getfield 42, 3) := by decide +kernel
theorem dX4_go_95 : decode cX4_go 95 = .ok (.aload_n 1, 1) := by decide +kernel
theorem dX4_go_96 : decode cX4_go 96 = .ok (.getfield 136, 3) := by decide +kernel
theorem dX4_go_99 : decode cX4_go 99 = .ok (.iload 4, 2) := by decide +kernel
theorem dX4_go_101 : decode cX4_go 101 = .ok (.isub, 1) := by decide +kernel
theorem dX4_go_102 : decode cX4_go 102 = .ok (.iadd, 1) := by decide +kernel
theorem dX4_go_103 : decode cX4_go 103 = .ok (.putfield 42, 3) := by decide +kernel
theorem dX4_go_106 : decode cX4_go 106 = .ok (.iinc 3 1, 3) := by decide +kernel
theorem dX4_go_109 : decode cX4_go 109 = .ok (.goto (-107), 3) := by decide +kernel
theorem dX4_go_112 : decode cX4_go 112 = .ok (.return_, 1) := by decide +kernel
theorem dX4_noteTouch_0 : decode cX4_noteTouch 0 = .ok (.iconst 1, 1) := by decide +kernel
theorem dX4_noteTouch_1 : decode cX4_noteTouch 1 = .ok (.istore_n 3, 1) := by decide +kernel
theorem dX4_noteTouch_2 : decode cX4_noteTouch 2 = .ok (.iload_n 3, 1) := by decide +kernel
theorem dX4_noteTouch_3 : decode cX4_noteTouch 3 = .ok (.aload_n 1, 1) := by decide +kernel
theorem dX4_noteTouch_4 : decode cX4_noteTouch 4 = .ok (.getfield 69, 3) := by decide +kernel
theorem dX4_noteTouch_7 : decode cX4_noteTouch 7 = .ok (.if_icmp .ge 68, 3) := by decide +kernel
theorem dX4_noteTouch_10 : decode cX4_noteTouch 10 = .ok (.aload_n 0, 1) := by decide +kernel
theorem dX4_noteTouch_11 : decode cX4_noteTouch 11 = .ok (.getfield 32, 3) := by decide +kernel
theorem dX4_noteTouch_14 : decode cX4_noteTouch 14 = .ok (.iconst (-1), 1) := by decide +kernel
theorem dX4_noteTouch_15 : decode cX4_noteTouch 15 = .ok (.if_icmp .ne 60, 3) := by decide +kernel
theorem dX4_noteTouch_18 : decode cX4_noteTouch 18 = .ok (.aload_n 1, 1) := by decide +kernel
theorem dX4_noteTouch_19 : decode cX4_noteTouch 19 = .ok (.iload_n 3, 1) := by decide +kernel
theorem dX4_noteTouch_20 : decode cX4_noteTouch 20 = .ok (.iload_n 2, 1) := by decide +kernel
theorem dX4_noteTouch_21 : decode cX4_noteTouch 21 = .ok (.invokevirtual 132, 3) := by decide +kernel
theorem dX4_noteTouch_24 : decode cX4_noteTouch 24 = .ok (.ifCond .eq 14, 3) := by decide +kernel
theorem dX4_noteTouch_27 : decode cX4_noteTouch 27 = .ok (.aload_n 0, 1) := by decide +kernel
theorem dX4_noteTouch_28 : decode cX4_noteTouch 28 = .ok (.getfield 42, 3) := by decide +kernel
theorem dX4_noteTouch_31 : decode cX4_noteTouch 31 = .ok (.ifCond .gt 7, 3) := by decide +kernel
theorem dX4_noteTouch_34 : decode cX4_noteTouch 34 = .ok (.iconst 1, 1) := by decide +kernel
theorem dX4_noteTouch_35 : decode cX4_noteTouch 35 = .ok (.goto 4, 3) := by decide +kernel
theorem dX4_noteTouch_38 : decode cX4_noteTouch 38 = .ok (.iconst 0, 1) := by decide +kernel
theorem dX4_noteTouch_39 : decode cX4_noteTouch 39 = .ok (.istore 4, 2) := by decide +kernel
theorem dX4_noteTouch_41 : decode cX4_noteTouch 41 = .ok (.aload_n 0, 1) := by decide +kernel
theorem dX4_noteTouch_42 : decode cX4_noteTouch 42 = .ok (.getfield 16, 3) := by decide +kernel
theorem dX4_noteTouch_45 : decode cX4_noteTouch 45 = .ok (.iload_n 3, 1) := by decide +kernel
theorem dX4_noteTouch_46 : decode cX4_noteTouch 46 = .ok (.aaload, 1) := by decide +kernel
theorem dX4_noteTouch_47 : decode cX4_noteTouch 47 = .ok (.iload_n 2, 1) := by decide +kernel
theorem dX4_noteTouch_48 : decode cX4_noteTouch 48 = .ok (.iconst 1, 1) := by decide +kernel
theorem dX4_noteTouch_49 : decode cX4_noteTouch 49 = .ok (.iadd, 1) := by decide +kernel
theorem dX4_noteTouch_50 : decode cX4_noteTouch 50 = .ok (.iaload, 1) := by decide +kernel
theorem dX4_noteTouch_51 : decode cX4_noteTouch 51 = .ok (.ifCond .le 8, 3) := by decide +kernel
theorem dX4_noteTouch_54 : decode cX4_noteTouch 54 = .ok (.iload 4, 2) := by decide +kernel
theorem dX4_noteTouch_56 : decode cX4_noteTouch 56 = .ok (.ifCond .eq 13, 3) := by decide +kernel
theorem dX4_noteTouch_59 : decode cX4_noteTouch 59 = .ok (.aload_n 0, 1) := by decide +kernel
theorem dX4_noteTouch_60 : decode cX4_noteTouch 60 = .ok (.iload_n 2, 1) := by decide +kernel
theorem dX4_noteTouch_61 : decode cX4_noteTouch 61 = .ok (.putfield 32, 3) := by decide +kernel
theorem dX4_noteTouch_64 : decode cX4_noteTouch 64 = .ok (.aload_n 0, 1) := by decide +kernel
theorem dX4_noteTouch_65 : decode cX4_noteTouch 65 = .ok (.iload_n 3, 1) := by decide +kernel
theorem dX4_noteTouch_66 : decode cX4_noteTouch 66 = .ok (.putfield 36, 3) := by decide +kernel
theorem dX4_noteTouch_69 : decode cX4_noteTouch 69 = .ok (.iinc 3 1, 3) := by decide +kernel
theorem dX4_noteTouch_72 : decode cX4_noteTouch 72 = .ok (.goto (-70), 3) := by decide +kernel
theorem dX4_noteTouch_75 : decode cX4_noteTouch 75 = .ok (.return_, 1) := by decide +kernel
theorem dX5_init_0 : decode cX5_init 0 = .ok (.aload_n 0, 1) := by decide +kernel
theorem dX5_init_1 : decode cX5_init 1 = .ok (.invokespecial 3, 3) := by decide +kernel
theorem dX5_init_4 : decode cX5_init 4 = .ok (.aload_n 0, 1) := by decide +kernel
theorem dX5_init_5 : decode cX5_init 5 = .ok (.bipush 6, 2) := by decide +kernel
theorem dX5_init_7 : decode cX5_init 7 = .ok (.bipush 6, 2) := by decide +kernel
theorem dX5_init_9 : decode cX5_init 9 = .ok (.multianewarray 9 2, 4) := by decide +kernel
theorem dX5_init_13 : decode cX5_init 13 = .ok (.putfield 11, 3) := by decide +kernel
theorem dX5_init_16 : decode cX5_init 16 = .ok (.return_, 1) := by decide +kernel
theorem dX5_sparedOf_0 : decode cX5_sparedOf 0 = .ok (.iconst 0, 1) := by decide +kernel
theorem dX5_sparedOf_1 : decode cX5_sparedOf 1 = .ok (.istore_n 2, 1) := by decide +kernel
theorem dX5_sparedOf_2 : decode cX5_sparedOf 2 = .ok (.iconst (-1), 1) := by decide +kernel
theorem dX5_sparedOf_3 : decode cX5_sparedOf 3 = .ok (.istore_n 3, 1) := by decide +kernel
theorem dX5_sparedOf_4 : decode cX5_sparedOf 4 = .ok (.iconst 0, 1) := by decide +kernel
theorem dX5_sparedOf_5 : decode cX5_sparedOf 5 = .ok (.istore 4, 2) := by decide +kernel
theorem dX5_sparedOf_7 : decode cX5_sparedOf 7 = .ok (.iload 4, 2) := by decide +kernel
theorem dX5_sparedOf_9 : decode cX5_sparedOf 9 = .ok (.bipush 6, 2) := by decide +kernel
theorem dX5_sparedOf_11 : decode cX5_sparedOf 11 = .ok (.if_icmp .ge 41, 3) := by decide +kernel
theorem dX5_sparedOf_14 : decode cX5_sparedOf 14 = .ok (.iload_n 1, 1) := by decide +kernel
theorem dX5_sparedOf_15 : decode cX5_sparedOf 15 = .ok (.iload 4, 2) := by decide +kernel
theorem dX5_sparedOf_17 : decode cX5_sparedOf 17 = .ok (.ishr, 1) := by decide +kernel
theorem dX5_sparedOf_18 : decode cX5_sparedOf 18 = .ok (.iconst 1, 1) := by decide +kernel
theorem dX5_sparedOf_19 : decode cX5_sparedOf 19 = .ok (.iand, 1) := by decide +kernel
theorem dX5_sparedOf_20 : decode cX5_sparedOf 20 = .ok (.ifCond .ne 6, 3) := by decide +kernel
theorem dX5_sparedOf_23 : decode cX5_sparedOf 23 = .ok (.goto 23, 3) := by decide +kernel
theorem dX5_sparedOf_26 : decode cX5_sparedOf 26 = .ok (.iload_n 3, 1) := by decide +kernel
theorem dX5_sparedOf_27 : decode cX5_sparedOf 27 = .ok (.iconst (-1), 1) := by decide +kernel
theorem dX5_sparedOf_28 : decode cX5_sparedOf 28 = .ok (.if_icmp .eq 15, 3) := by decide +kernel
theorem dX5_sparedOf_31 : decode cX5_sparedOf 31 = .ok (.iload_n 2, 1) := by decide +kernel
theorem dX5_sparedOf_32 : decode cX5_sparedOf 32 = .ok (.aload_n 0, 1) := by decide +kernel
theorem dX5_sparedOf_33 : decode cX5_sparedOf 33 = .ok (.getfield 11, 3) := by decide +kernel
theorem dX5_sparedOf_36 : decode cX5_sparedOf 36 = .ok (.iload 4, 2) := by decide +kernel
theorem dX5_sparedOf_38 : decode cX5_sparedOf 38 = .ok (.aaload, 1) := by decide +kernel
theorem dX5_sparedOf_39 : decode cX5_sparedOf 39 = .ok (.iload_n 3, 1) := by decide +kernel
theorem dX5_sparedOf_40 : decode cX5_sparedOf 40 = .ok (.iaload, 1) := by decide +kernel
theorem dX5_sparedOf_41 : decode cX5_sparedOf 41 = .ok (.iadd, 1) := by decide +kernel
theorem dX5_sparedOf_42 : decode cX5_sparedOf 42 = .ok (.istore_n 2, 1) := by decide +kernel
theorem dX5_sparedOf_43 : decode cX5_sparedOf 43 = .ok (.iload 4, 2) := by decide +kernel
theorem dX5_sparedOf_45 : decode cX5_sparedOf 45 = .ok (.istore_n 3, 1) := by decide +kernel
theorem dX5_sparedOf_46 : decode cX5_sparedOf 46 = .ok (.iinc 4 1, 3) := by decide +kernel
theorem dX5_sparedOf_49 : decode cX5_sparedOf 49 = .ok (.goto (-42), 3) := by decide +kernel
theorem dX5_sparedOf_52 : decode cX5_sparedOf 52 = .ok (.iload_n 2, 1) := by decide +kernel
theorem dX5_sparedOf_53 : decode cX5_sparedOf 53 = .ok (.ireturn, 1) := by decide +kernel
theorem dX5_above_0 : decode cX5_above 0 = .ok (.aload_n 0, 1) := by decide +kernel
theorem dX5_above_1 : decode cX5_above 1 = .ok (.iload_n 1, 1) := by decide +kernel
theorem dX5_above_2 : decode cX5_above 2 = .ok (.iload_n 2, 1) := by decide +kernel
theorem dX5_above_3 : decode cX5_above 3 = .ok (.invokevirtual 16, 3) := by decide +kernel
theorem dX5_above_6 : decode cX5_above 6 = .ok (.istore_n 3, 1) := by decide +kernel
theorem dX5_above_7 : decode cX5_above 7 = .ok (.iload_n 3, 1) := by decide +kernel
theorem dX5_above_8 : decode cX5_above 8 = .ok (.iload_n 3, 1) := by decide +kernel
theorem dX5_above_9 : decode cX5_above 9 = .ok (.getstatic 20, 3) := by decide +kernel
theorem dX5_above_12 : decode cX5_above 12 = .ok (.iload_n 2, 1) := by decide +kernel
theorem dX5_above_13 : decode cX5_above 13 = .ok (.iaload, 1) := by decide +kernel
theorem dX5_above_14 : decode cX5_above 14 = .ok (.invokestatic 24, 3) := by decide +kernel
theorem dX5_above_17 : decode cX5_above 17 = .ok (.idiv, 1) := by decide +kernel
theorem dX5_above_18 : decode cX5_above 18 = .ok (.ireturn, 1) := by decide +kernel
theorem dX5_below_0 : decode cX5_below 0 = .ok (.getstatic 20, 3) := by decide +kernel
theorem dX5_below_3 : decode cX5_below 3 = .ok (.iload_n 2, 1) := by decide +kernel
theorem dX5_below_4 : decode cX5_below 4 = .ok (.iaload, 1) := by decide +kernel
theorem dX5_below_5 : decode cX5_below 5 = .ok (.istore_n 3, 1) := by decide +kernel
theorem dX5_below_6 : decode cX5_below 6 = .ok (.iload_n 3, 1) := by decide +kernel
theorem dX5_below_7 : decode cX5_below 7 = .ok (.aload_n 0, 1) := by decide +kernel
theorem dX5_below_8 : decode cX5_below 8 = .ok (.iload_n 1, 1) := by decide +kernel
theorem dX5_below_9 : decode cX5_below 9 = .ok (.iload_n 2, 1) := by decide +kernel
theorem dX5_below_10 : decode cX5_below 10 = .ok (.invokevirtual 16, 3) := by decide +kernel
theorem dX5_below_13 : decode cX5_below 13 = .ok (.iload_n 3, 1) := by decide +kernel
theorem dX5_below_14 : decode cX5_below 14 = .ok (.invokestatic 24, 3) := by decide +kernel
theorem dX5_below_17 : decode cX5_below 17 = .ok (.idiv, 1) := by decide +kernel
theorem dX5_below_18 : decode cX5_below 18 = .ok (.ireturn, 1) := by decide +kernel
theorem dX5_coins_0 : decode cX5_coins 0 = .ok (.getstatic 20, 3) := by decide +kernel
theorem dX5_coins_3 : decode cX5_coins 3 = .ok (.iload_n 2, 1) := by decide +kernel
theorem dX5_coins_4 : decode cX5_coins 4 = .ok (.iaload, 1) := by decide +kernel
theorem dX5_coins_5 : decode cX5_coins 5 = .ok (.istore_n 3, 1) := by decide +kernel
theorem dX5_coins_6 : decode cX5_coins 6 = .ok (.aload_n 0, 1) := by decide +kernel
theorem dX5_coins_7 : decode cX5_coins 7 = .ok (.iconst 1, 1) := by decide +kernel
theorem dX5_coins_8 : decode cX5_coins 8 = .ok (.iload_n 2, 1) := by decide +kernel
theorem dX5_coins_9 : decode cX5_coins 9 = .ok (.ishl, 1) := by decide +kernel
theorem dX5_coins_10 : decode cX5_coins 10 = .ok (.iconst 1, 1) := by decide +kernel
theorem dX5_coins_11 : decode cX5_coins 11 = .ok (.isub, 1) := by decide +kernel
theorem dX5_coins_12 : decode cX5_coins 12 = .ok (.invokevirtual 27, 3) := by decide +kernel
theorem dX5_coins_15 : decode cX5_coins 15 = .ok (.istore 4, 2) := by decide +kernel
theorem dX5_coins_17 : decode cX5_coins 17 = .ok (.aload_n 0, 1) := by decide +kernel
theorem dX5_coins_18 : decode cX5_coins 18 = .ok (.iload_n 1, 1) := by decide +kernel
theorem dX5_coins_19 : decode cX5_coins 19 = .ok (.iload_n 2, 1) := by decide +kernel
theorem dX5_coins_20 : decode cX5_coins 20 = .ok (.invokevirtual 16, 3) := by decide +kernel
theorem dX5_coins_23 : decode cX5_coins 23 = .ok (.iload_n 3, 1) := by decide +kernel
theorem dX5_coins_24 : decode cX5_coins 24 = .ok (.invokestatic 31, 3) := by decide +kernel
theorem dX5_coins_27 : decode cX5_coins 27 = .ok (.istore 5, 2) := by decide +kernel
theorem dX5_coins_29 : decode cX5_coins 29 = .ok (.iconst 0, 1) := by decide +kernel
theorem dX5_coins_30 : decode cX5_coins 30 = .ok (.istore 6, 2) := by decide +kernel
theorem dX5_coins_32 : decode cX5_coins 32 = .ok (.iconst 0, 1) := by decide +kernel
theorem dX5_coins_33 : decode cX5_coins 33 = .ok (.istore 7, 2) := by decide +kernel
theorem dX5_coins_35 : decode cX5_coins 35 = .ok (.iload 7, 2) := by decide +kernel
theorem dX5_coins_37 : decode cX5_coins 37 = .ok (.iload_n 2, 1) := by decide +kernel
theorem dX5_coins_38 : decode cX5_coins 38 = .ok (.if_icmp .ge 60, 3) := by decide +kernel
theorem dX5_coins_41 : decode cX5_coins 41 = .ok (.aload_n 0, 1) := by decide +kernel
theorem dX5_coins_42 : decode cX5_coins 42 = .ok (.iload 7, 2) := by decide +kernel
theorem dX5_coins_44 : decode cX5_coins 44 = .ok (.iload_n 2, 1) := by decide +kernel
theorem dX5_coins_45 : decode cX5_coins 45 = .ok (.invokevirtual 16, 3) := by decide +kernel
theorem dX5_coins_48 : decode cX5_coins 48 = .ok (.istore 8, 2) := by decide +kernel
theorem dX5_coins_50 : decode cX5_coins 50 = .ok (.iload 4, 2) := by decide +kernel
theorem dX5_coins_52 : decode cX5_coins 52 = .ok (.iload 8, 2) := by decide +kernel
theorem dX5_coins_54 : decode cX5_coins 54 = .ok (.iload_n 3, 1) := by decide +kernel
theorem dX5_coins_55 : decode cX5_coins 55 = .ok (.invokestatic 36, 3) := by decide +kernel
theorem dX5_coins_58 : decode cX5_coins 58 = .ok (.isub, 1) := by decide +kernel
theorem dX5_coins_59 : decode cX5_coins 59 = .ok (.istore 4, 2) := by decide +kernel
theorem dX5_coins_61 : decode cX5_coins 61 = .ok (.iload 8, 2) := by decide +kernel
theorem dX5_coins_63 : decode cX5_coins 63 = .ok (.iload_n 3, 1) := by decide +kernel
theorem dX5_coins_64 : decode cX5_coins 64 = .ok (.invokestatic 31, 3) := by decide +kernel
theorem dX5_coins_67 : decode cX5_coins 67 = .ok (.istore 9, 2) := by decide +kernel
theorem dX5_coins_69 : decode cX5_coins 69 = .ok (.iload 9, 2) := by decide +kernel
theorem dX5_coins_71 : decode cX5_coins 71 = .ok (.iload 5, 2) := by decide +kernel
theorem dX5_coins_73 : decode cX5_coins 73 = .ok (.if_icmp .gt 16, 3) := by decide +kernel
theorem dX5_coins_76 : decode cX5_coins 76 = .ok (.iload 9, 2) := by decide +kernel
theorem dX5_coins_78 : decode cX5_coins 78 = .ok (.iload 5, 2) := by decide +kernel
theorem dX5_coins_80 : decode cX5_coins 80 = .ok (.if_icmp .ne 12, 3) := by decide +kernel
theorem dX5_coins_83 : decode cX5_coins 83 = .ok (.iload 7, 2) := by decide +kernel
theorem dX5_coins_85 : decode cX5_coins 85 = .ok (.iload_n 1, 1) := by decide +kernel
theorem dX5_coins_86 : decode cX5_coins 86 = .ok (.if_icmp .ge 6, 3) := by decide +kernel
theorem dX5_coins_89 : decode cX5_coins 89 = .ok (.iinc 6 1, 3) := by decide +kernel
theorem dX5_coins_92 : decode cX5_coins 92 = .ok (.iinc 7 1, 3) := by decide +kernel
theorem dX5_coins_95 : decode cX5_coins 95 = .ok (.goto (-60), 3) := by decide +kernel
theorem dX5_coins_98 : decode cX5_coins 98 = .ok (.aload_n 0, 1) := by decide +kernel
theorem dX5_coins_99 : decode cX5_coins 99 = .ok (.iload_n 1, 1) := by decide +kernel
theorem dX5_coins_100 : decode cX5_coins 100 = .ok (.iload_n 2, 1) := by decide +kernel
theorem dX5_coins_101 : decode cX5_coins 101 = .ok (.invokevirtual 16, 3) := by decide +kernel
theorem dX5_coins_104 : decode cX5_coins 104 = .ok (.iload_n 3, 1) := by decide +kernel
theorem dX5_coins_105 : decode cX5_coins 105 = .ok (.invokestatic 36, 3) := by decide +kernel
theorem dX5_coins_108 : decode cX5_coins 108 = .ok (.istore 7, 2) := by decide +kernel
theorem dX5_coins_110 : decode cX5_coins 110 = .ok (.iload 6, 2) := by decide +kernel
theorem dX5_coins_112 : decode cX5_coins 112 = .ok (.iload 4, 2) := by decide +kernel
theorem dX5_coins_114 : decode cX5_coins 114 = .ok (.if_icmp .ge 10, 3) := by decide +kernel
theorem dX5_coins_117 : decode cX5_coins 117 = .ok (.iload 7, 2) := by decide +kernel
theorem dX5_coins_119 : decode cX5_coins 119 = .ok (.iconst 1, 1) := by decide +kernel
theorem dX5_coins_120 : decode cX5_coins 120 = .ok (.iadd, 1) := by decide +kernel
theorem dX5_coins_121 : decode cX5_coins 121 = .ok (.goto 5, 3) := by decide +kernel
theorem dX5_coins_124 : decode cX5_coins 124 = .ok (.iload 7, 2) := by decide +kernel
theorem dX5_coins_126 : decode cX5_coins 126 = .ok (.ireturn, 1) := by decide +kernel
theorem dX5_sumOverOrders_0 : decode cX5_sumOverOrders 0 = .ok (.iconst 0, 1) := by decide +kernel
theorem dX5_sumOverOrders_1 : decode cX5_sumOverOrders 1 = .ok (.istore_n 3, 1) := by decide +kernel
theorem dX5_sumOverOrders_2 : decode cX5_sumOverOrders 2 = .ok (.iconst 0, 1) := by decide +kernel
theorem dX5_sumOverOrders_3 : decode cX5_sumOverOrders 3 = .ok (.istore 4, 2) := by decide +kernel
theorem dX5_sumOverOrders_5 : decode cX5_sumOverOrders 5 = .ok (.iload 4, 2) := by decide +kernel
theorem dX5_sumOverOrders_7 : decode cX5_sumOverOrders 7 = .ok (.iconst 1, 1) := by decide +kernel
theorem dX5_sumOverOrders_8 : decode cX5_sumOverOrders 8 = .ok (.iload_n 2, 1) := by decide +kernel
theorem dX5_sumOverOrders_9 : decode cX5_sumOverOrders 9 = .ok (.ishl, 1) := by decide +kernel
theorem dX5_sumOverOrders_10 : decode cX5_sumOverOrders 10 = .ok (.if_icmp .ge 70, 3) := by decide +kernel
theorem dX5_sumOverOrders_13 : decode cX5_sumOverOrders 13 = .ok (.iload 4, 2) := by decide +kernel
theorem dX5_sumOverOrders_15 : decode cX5_sumOverOrders 15 = .ok (.iload_n 1, 1) := by decide +kernel
theorem dX5_sumOverOrders_16 : decode cX5_sumOverOrders 16 = .ok (.ishr, 1) := by decide +kernel
theorem dX5_sumOverOrders_17 : decode cX5_sumOverOrders 17 = .ok (.iconst 1, 1) := by decide +kernel
theorem dX5_sumOverOrders_18 : decode cX5_sumOverOrders 18 = .ok (.iand, 1) := by decide +kernel
theorem dX5_sumOverOrders_19 : decode cX5_sumOverOrders 19 = .ok (.ifCond .eq 6, 3) := by decide +kernel
theorem dX5_sumOverOrders_22 : decode cX5_sumOverOrders 22 = .ok (.goto 52, 3) := by decide +kernel
theorem dX5_sumOverOrders_25 : decode cX5_sumOverOrders 25 = .ok (.iload 4, 2) := by decide +kernel
theorem dX5_sumOverOrders_27 : decode cX5_sumOverOrders 27 = .ok (.invokestatic 39, 3) := by decide +kernel
theorem dX5_sumOverOrders_30 : decode cX5_sumOverOrders 30 = .ok (.istore 5, 2) := by decide +kernel
theorem dX5_sumOverOrders_32 : decode cX5_sumOverOrders 32 = .ok (.getstatic 20, 3) := by decide +kernel
theorem dX5_sumOverOrders_35 : decode cX5_sumOverOrders 35 = .ok (.iload 5, 2) := by decide +kernel
theorem dX5_sumOverOrders_37 : decode cX5_sumOverOrders 37 = .ok (.iaload, 1) := by decide +kernel
theorem dX5_sumOverOrders_38 : decode cX5_sumOverOrders 38 = .ok (.getstatic 20, 3) := by decide +kernel
theorem dX5_sumOverOrders_41 : decode cX5_sumOverOrders 41 = .ok (.iload_n 2, 1) := by decide +kernel
theorem dX5_sumOverOrders_42 : decode cX5_sumOverOrders 42 = .ok (.iconst 1, 1) := by decide +kernel
theorem dX5_sumOverOrders_43 : decode cX5_sumOverOrders 43 = .ok (.isub, 1) := by decide +kernel
theorem dX5_sumOverOrders_44 : decode cX5_sumOverOrders 44 = .ok (.iload 5, 2) := by decide +kernel
theorem dX5_sumOverOrders_46 : decode cX5_sumOverOrders 46 = .ok (.isub, 1) := by decide +kernel
theorem dX5_sumOverOrders_47 : decode cX5_sumOverOrders 47 = .ok (.iaload, 1) := by decide +kernel
theorem dX5_sumOverOrders_48 : decode cX5_sumOverOrders 48 = .ok (.imul, 1) := by decide +kernel
theorem dX5_sumOverOrders_49 : decode cX5_sumOverOrders 49 = .ok (.istore 6, 2) := by decide +kernel
theorem dX5_sumOverOrders_51 : decode cX5_sumOverOrders 51 = .ok (.iload_n 3, 1) := by decide +kernel
theorem dX5_sumOverOrders_52 : decode cX5_sumOverOrders 52 = .ok (.iload 6, 2) := by decide +kernel
theorem dX5_sumOverOrders_54 : decode cX5_sumOverOrders 54 = .ok (.aload_n 0, 1) := by decide +kernel
theorem dX5_sumOverOrders_55 : decode cX5_sumOverOrders 55 = .ok (.iload 4, 2) := by decide +kernel
theorem dX5_sumOverOrders_57 : decode cX5_sumOverOrders 57 = .ok (.iconst 1, 1) := by decide +kernel
theorem dX5_sumOverOrders_58 : decode cX5_sumOverOrders 58 = .ok (.iload_n 1, 1) := by decide +kernel
theorem dX5_sumOverOrders_59 : decode cX5_sumOverOrders 59 = .ok (.ishl, 1) := by decide +kernel
theorem dX5_sumOverOrders_60 : decode cX5_sumOverOrders 60 = .ok (.ior, 1) := by decide +kernel
theorem dX5_sumOverOrders_61 : decode cX5_sumOverOrders 61 = .ok (.invokevirtual 27, 3) := by decide +kernel
theorem dX5_sumOverOrders_64 : decode cX5_sumOverOrders 64 = .ok (.aload_n 0, 1) := by decide +kernel
theorem dX5_sumOverOrders_65 : decode cX5_sumOverOrders 65 = .ok (.iload 4, 2) := by decide +kernel
theorem dX5_sumOverOrders_67 : decode cX5_sumOverOrders 67 = .ok (.invokevirtual 27, 3) := by decide +kernel
theorem dX5_sumOverOrders_70 : decode cX5_sumOverOrders 70 = .ok (.isub, 1) := by decide +kernel
theorem dX5_sumOverOrders_71 : decode cX5_sumOverOrders 71 = .ok (.imul, 1) := by decide +kernel
theorem dX5_sumOverOrders_72 : decode cX5_sumOverOrders 72 = .ok (.iadd, 1) := by decide +kernel
theorem dX5_sumOverOrders_73 : decode cX5_sumOverOrders 73 = .ok (.istore_n 3, 1) := by decide +kernel
theorem dX5_sumOverOrders_74 : decode cX5_sumOverOrders 74 = .ok (.iinc 4 1, 3) := by decide +kernel
theorem dX5_sumOverOrders_77 : decode cX5_sumOverOrders 77 = .ok (.goto (-72), 3) := by decide +kernel
theorem dX5_sumOverOrders_80 : decode cX5_sumOverOrders 80 = .ok (.iload_n 3, 1) := by decide +kernel
theorem dX5_sumOverOrders_81 : decode cX5_sumOverOrders 81 = .ok (.ireturn, 1) := by decide +kernel
theorem dX5_greatestDivisor_0 : decode cX5_greatestDivisor 0 = .ok (.iload_n 1, 1) := by decide +kernel
theorem dX5_greatestDivisor_1 : decode cX5_greatestDivisor 1 = .ok (.istore_n 2, 1) := by decide +kernel
theorem dX5_greatestDivisor_2 : decode cX5_greatestDivisor 2 = .ok (.iload_n 2, 1) := by decide +kernel
theorem dX5_greatestDivisor_3 : decode cX5_greatestDivisor 3 = .ok (.iconst 1, 1) := by decide +kernel
theorem dX5_greatestDivisor_4 : decode cX5_greatestDivisor 4 = .ok (.if_icmp .le 23, 3) := by decide +kernel
theorem dX5_greatestDivisor_7 : decode cX5_greatestDivisor 7 = .ok (.iload_n 1, 1) := by decide +kernel
theorem dX5_greatestDivisor_8 : decode cX5_greatestDivisor 8 = .ok (.iload_n 2, 1) := by decide +kernel
theorem dX5_greatestDivisor_9 : decode cX5_greatestDivisor 9 = .ok (.irem, 1) := by decide +kernel
theorem dX5_greatestDivisor_10 : decode cX5_greatestDivisor 10 = .ok (.ifCond .ne 11, 3) := by decide +kernel
theorem dX5_greatestDivisor_13 : decode cX5_greatestDivisor 13 = .ok (.iload_n 0, 1) := by decide +kernel
theorem dX5_greatestDivisor_14 : decode cX5_greatestDivisor 14 = .ok (.iload_n 2, 1) := by decide +kernel
theorem dX5_greatestDivisor_15 : decode cX5_greatestDivisor 15 = .ok (.irem, 1) := by decide +kernel
theorem dX5_greatestDivisor_16 : decode cX5_greatestDivisor 16 = .ok (.ifCond .ne 5, 3) := by decide +kernel
theorem dX5_greatestDivisor_19 : decode cX5_greatestDivisor 19 = .ok (.iload_n 2, 1) := by decide +kernel
theorem dX5_greatestDivisor_20 : decode cX5_greatestDivisor 20 = .ok (.ireturn, 1) := by decide +kernel
theorem dX5_greatestDivisor_21 : decode cX5_greatestDivisor 21 = .ok (.iinc 2 (-1), 3) := by decide +kernel
theorem dX5_greatestDivisor_24 : decode cX5_greatestDivisor 24 = .ok (.goto (-22), 3) := by decide +kernel
theorem dX5_greatestDivisor_27 : decode cX5_greatestDivisor 27 = .ok (.iconst 1, 1) := by decide +kernel
theorem dX5_greatestDivisor_28 : decode cX5_greatestDivisor 28 = .ok (.ireturn, 1) := by decide +kernel
theorem dX6_init_0 : decode cX6_init 0 = .ok (.aload_n 0, 1) := by decide +kernel
theorem dX6_init_1 : decode cX6_init 1 = .ok (.invokespecial 3, 3) := by decide +kernel
theorem dX6_init_4 : decode cX6_init 4 = .ok (.aload_n 0, 1) := by decide +kernel
theorem dX6_init_5 : decode cX6_init 5 = .ok (.iconst 0, 1) := by decide +kernel
theorem dX6_init_6 : decode cX6_init 6 = .ok (.putfield 9, 3) := by decide +kernel
theorem dX6_init_9 : decode cX6_init 9 = .ok (.aload_n 0, 1) := by decide +kernel
theorem dX6_init_10 : decode cX6_init 10 = .ok (.bipush 6, 2) := by decide +kernel
theorem dX6_init_12 : decode cX6_init 12 = .ok (.newarray .int, 2) := by decide +kernel
theorem dX6_init_14 : decode cX6_init 14 = .ok (.putfield 15, 3) := by decide +kernel
theorem dX6_init_17 : decode cX6_init 17 = .ok (.aload_n 0, 1) := by decide +kernel
theorem dX6_init_18 : decode cX6_init 18 = .ok (.bipush 6, 2) := by decide +kernel
theorem dX6_init_20 : decode cX6_init 20 = .ok (.newarray .int, 2) := by decide +kernel
theorem dX6_init_22 : decode cX6_init 22 = .ok (.putfield 19, 3) := by decide +kernel
theorem dX6_init_25 : decode cX6_init 25 = .ok (.aload_n 0, 1) := by decide +kernel
theorem dX6_init_26 : decode cX6_init 26 = .ok (.bipush 6, 2) := by decide +kernel
theorem dX6_init_28 : decode cX6_init 28 = .ok (.iconst 4, 1) := by decide +kernel
theorem dX6_init_29 : decode cX6_init 29 = .ok (.multianewarray 22 2, 4) := by decide +kernel
theorem dX6_init_33 : decode cX6_init 33 = .ok (.putfield 24, 3) := by decide +kernel
theorem dX6_init_36 : decode cX6_init 36 = .ok (.aload_n 0, 1) := by decide +kernel
theorem dX6_init_37 : decode cX6_init 37 = .ok (.bipush 6, 2) := by decide +kernel
theorem dX6_init_39 : decode cX6_init 39 = .ok (.iconst 4, 1) := by decide +kernel
theorem dX6_init_40 : decode cX6_init 40 = .ok (.multianewarray 22 2, 4) := by decide +kernel
theorem dX6_init_44 : decode cX6_init 44 = .ok (.putfield 27, 3) := by decide +kernel
theorem dX6_init_47 : decode cX6_init 47 = .ok (.aload_n 0, 1) := by decide +kernel
theorem dX6_init_48 : decode cX6_init 48 = .ok (.bipush 6, 2) := by decide +kernel
theorem dX6_init_50 : decode cX6_init 50 = .ok (.iconst 4, 1) := by decide +kernel
theorem dX6_init_51 : decode cX6_init 51 = .ok (.multianewarray 22 2, 4) := by decide +kernel
theorem dX6_init_55 : decode cX6_init 55 = .ok (.putfield 30, 3) := by decide +kernel
theorem dX6_init_58 : decode cX6_init 58 = .ok (.return_, 1) := by decide +kernel
theorem dX6_wishBy_0 : decode cX6_wishBy 0 = .ok (.iconst 0, 1) := by decide +kernel
theorem dX6_wishBy_1 : decode cX6_wishBy 1 = .ok (.istore_n 2, 1) := by decide +kernel
theorem dX6_wishBy_2 : decode cX6_wishBy 2 = .ok (.iload_n 2, 1) := by decide +kernel
theorem dX6_wishBy_3 : decode cX6_wishBy 3 = .ok (.aload_n 0, 1) := by decide +kernel
theorem dX6_wishBy_4 : decode cX6_wishBy 4 = .ok (.getfield 9, 3) := by decide +kernel
theorem dX6_wishBy_7 : decode cX6_wishBy 7 = .ok (.if_icmp .ge 25, 3) := by decide +kernel
theorem dX6_wishBy_10 : decode cX6_wishBy 10 = .ok (.aload_n 0, 1) := by decide +kernel
theorem dX6_wishBy_11 : decode cX6_wishBy 11 = .ok (.iload_n 2, 1) := by decide +kernel
theorem dX6_wishBy_12 : decode cX6_wishBy 12 = .ok (.aload_n 1, 1) := by decide +kernel
theorem dX6_wishBy_13 : decode cX6_wishBy 13 = .ok (.invokevirtual 33, 3) := by decide +kernel
theorem dX6_wishBy_16 : decode cX6_wishBy 16 = .ok (.ifCond .eq 10, 3) := by decide +kernel
theorem dX6_wishBy_19 : decode cX6_wishBy 19 = .ok (.aload_n 0, 1) := by decide +kernel
theorem dX6_wishBy_20 : decode cX6_wishBy 20 = .ok (.getfield 15, 3) := by decide +kernel
theorem dX6_wishBy_23 : decode cX6_wishBy 23 = .ok (.iload_n 2, 1) := by decide +kernel
theorem dX6_wishBy_24 : decode cX6_wishBy 24 = .ok (.iaload, 1) := by decide +kernel
theorem dX6_wishBy_25 : decode cX6_wishBy 25 = .ok (.ireturn, 1) := by decide +kernel
theorem dX6_wishBy_26 : decode cX6_wishBy 26 = .ok (.iinc 2 1, 3) := by decide +kernel
theorem dX6_wishBy_29 : decode cX6_wishBy 29 = .ok (.goto (-27), 3) := by decide +kernel
theorem dX6_wishBy_32 : decode cX6_wishBy 32 = .ok (.iconst 0, 1) := by decide +kernel
theorem dX6_wishBy_33 : decode cX6_wishBy 33 = .ok (.ireturn, 1) := by decide +kernel
theorem dX6_holds_0 : decode cX6_holds 0 = .ok (.iconst 0, 1) := by decide +kernel
theorem dX6_holds_1 : decode cX6_holds 1 = .ok (.istore_n 3, 1) := by decide +kernel
theorem dX6_holds_2 : decode cX6_holds 2 = .ok (.iload_n 3, 1) := by decide +kernel
theorem dX6_holds_3 : decode cX6_holds 3 = .ok (.aload_n 0, 1) := by decide +kernel
theorem dX6_holds_4 : decode cX6_holds 4 = .ok (.getfield 19, 3) := by decide +kernel
theorem dX6_holds_7 : decode cX6_holds 7 = .ok (.iload_n 1, 1) := by decide +kernel
theorem dX6_holds_8 : decode cX6_holds 8 = .ok (.iaload, 1) := by decide +kernel
theorem dX6_holds_9 : decode cX6_holds 9 = .ok (.if_icmp .ge 79, 3) := by decide +kernel
theorem dX6_holds_12 : decode cX6_holds 12 = .ok (.aload_n 2, 1) := by decide +kernel
theorem dX6_holds_13 : decode cX6_holds 13 = .ok (.aload_n 0, 1) := by decide +kernel
theorem dX6_holds_14 : decode cX6_holds 14 = .ok (.getfield 24, 3) := by decide +kernel
theorem dX6_holds_17 : decode cX6_holds 17 = .ok (.iload_n 1, 1) := by decide +kernel
theorem dX6_holds_18 : decode cX6_holds 18 = .ok (.aaload, 1) := by decide +kernel
theorem dX6_holds_19 : decode cX6_holds 19 = .ok (.iload_n 3, 1) := by decide +kernel
theorem dX6_holds_20 : decode cX6_holds 20 = .ok (.iaload, 1) := by decide +kernel
theorem dX6_holds_21 : decode cX6_holds 21 = .ok (.iaload, 1) := by decide +kernel
theorem dX6_holds_22 : decode cX6_holds 22 = .ok (.istore 4, 2) := by decide +kernel
theorem dX6_holds_24 : decode cX6_holds 24 = .ok (.aload_n 0, 1) := by decide +kernel
theorem dX6_holds_25 : decode cX6_holds 25 = .ok (.getfield 27, 3) := by decide +kernel
theorem dX6_holds_28 : decode cX6_holds 28 = .ok (.iload_n 1, 1) := by decide +kernel
theorem dX6_holds_29 : decode cX6_holds 29 = .ok (.aaload, 1) := by decide +kernel
theorem dX6_holds_30 : decode cX6_holds 30 = .ok (.iload_n 3, 1) := by decide +kernel
theorem dX6_holds_31 : decode cX6_holds 31 = .ok (.iaload, 1) := by decide +kernel
theorem dX6_holds_32 : decode cX6_holds 32 = .ok (.istore 5, 2) := by decide +kernel
theorem dX6_holds_34 : decode cX6_holds 34 = .ok (.aload_n 0, 1) := by decide +kernel
theorem dX6_holds_35 : decode cX6_holds 35 = .ok (.getfield 30, 3) := by decide +kernel
theorem dX6_holds_38 : decode cX6_holds 38 = .ok (.iload_n 1, 1) := by decide +kernel
theorem dX6_holds_39 : decode cX6_holds 39 = .ok (.aaload, 1) := by decide +kernel
theorem dX6_holds_40 : decode cX6_holds 40 = .ok (.iload_n 3, 1) := by decide +kernel
theorem dX6_holds_41 : decode cX6_holds 41 = .ok (.iaload, 1) := by decide +kernel
theorem dX6_holds_42 : decode cX6_holds 42 = .ok (.iconst 1, 1) := by decide +kernel
theorem dX6_holds_43 : decode cX6_holds 43 = .ok (.if_icmp .ne 18, 3) := by decide +kernel
theorem dX6_holds_46 : decode cX6_holds 46 = .ok (.iload 4, 2) := by decide +kernel
theorem dX6_holds_48 : decode cX6_holds 48 = .ok (.iload 5, 2) := by decide +kernel
theorem dX6_holds_50 : decode cX6_holds 50 = .ok (.if_icmp .le 7, 3) := by decide +kernel
theorem dX6_holds_53 : decode cX6_holds 53 = .ok (.iconst 1, 1) := by decide +kernel
theorem dX6_holds_54 : decode cX6_holds 54 = .ok (.goto 19, 3) := by decide +kernel
theorem dX6_holds_57 : decode cX6_holds 57 = .ok (.iconst 0, 1) := by decide +kernel
theorem dX6_holds_58 : decode cX6_holds 58 = .ok (.goto 15, 3) := by decide +kernel
theorem dX6_holds_61 : decode cX6_holds 61 = .ok (.iload 4, 2) := by decide +kernel
theorem dX6_holds_63 : decode cX6_holds 63 = .ok (.iload 5, 2) := by decide +kernel
theorem dX6_holds_65 : decode cX6_holds 65 = .ok (.if_icmp .ge 7, 3) := by decide +kernel
theorem dX6_holds_68 : decode cX6_holds 68 = .ok (.iconst 1, 1) := by decide +kernel
theorem dX6_holds_69 : decode cX6_holds 69 = .ok (.goto 4, 3) := by decide +kernel
theorem dX6_holds_72 : decode cX6_holds 72 = .ok (.iconst 0, 1) := by decide +kernel
theorem dX6_holds_73 : decode cX6_holds 73 = .ok (.istore 6, 2) := by decide +kernel
theorem dX6_holds_75 : decode cX6_holds 75 = .ok (.iload 6, 2) := by decide +kernel
theorem dX6_holds_77 : decode cX6_holds 77 = .ok (.ifCond .ne 5, 3) := by decide +kernel
theorem dX6_holds_80 : decode cX6_holds 80 = .ok (.iconst 0, 1) := by decide +kernel
theorem dX6_holds_81 : decode cX6_holds 81 = .ok (.ireturn, 1) := by decide +kernel
theorem dX6_holds_82 : decode cX6_holds 82 = .ok (.iinc 3 1, 3) := by decide +kernel
theorem dX6_holds_85 : decode cX6_holds 85 = .ok (.goto (-83), 3) := by decide +kernel
theorem dX6_holds_88 : decode cX6_holds 88 = .ok (.iconst 1, 1) := by decide +kernel
theorem dX6_holds_89 : decode cX6_holds 89 = .ok (.ireturn, 1) := by decide +kernel
end
section
theorem dX7_init_0 : decode cX7_init 0 = .ok (.aload_n 0, 1) := by decide +kernel
theorem dX7_init_1 : decode cX7_init 1 = .ok (.invokespecial 3, 3) := by decide +kernel
theorem dX7_init_4 : decode cX7_init 4 = .ok (.aload_n 0, 1) := by decide +kernel
theorem dX7_init_5 : decode cX7_init 5 = .ok (.sipush 160, 3) := by decide +kernel
theorem dX7_init_8 : decode cX7_init 8 = .ok (.newarray .int, 2) := by decide +kernel
theorem dX7_init_10 : decode cX7_init 10 = .ok (.putfield 9, 3) := by decide +kernel
theorem dX7_init_13 : decode cX7_init 13 = .ok (.aload_n 0, 1) := by decide +kernel
theorem dX7_init_14 : decode cX7_init 14 = .ok (.iconst 0, 1) := by decide +kernel
theorem dX7_init_15 : decode cX7_init 15 = .ok (.putfield 15, 3) := by decide +kernel
theorem dX7_init_18 : decode cX7_init 18 = .ok (.aload_n 0, 1) := by decide +kernel
theorem dX7_init_19 : decode cX7_init 19 = .ok (.new 19, 3) := by decide +kernel
theorem dX7_init_22 : decode cX7_init 22 = .ok (.dup, 1) := by decide +kernel
theorem dX7_init_23 : decode cX7_init 23 = .ok (.invokespecial 21, 3) := by decide +kernel
theorem dX7_init_26 : decode cX7_init 26 = .ok (.putfield 22, 3) := by decide +kernel
theorem dX7_init_29 : decode cX7_init 29 = .ok (.aload_n 0, 1) := by decide +kernel
theorem dX7_init_30 : decode cX7_init 30 = .ok (.iconst 0, 1) := by decide +kernel
theorem dX7_init_31 : decode cX7_init 31 = .ok (.putfield 26, 3) := by decide +kernel
theorem dX7_init_34 : decode cX7_init 34 = .ok (.aload_n 0, 1) := by decide +kernel
theorem dX7_init_35 : decode cX7_init 35 = .ok (.iconst 0, 1) := by decide +kernel
theorem dX7_init_36 : decode cX7_init 36 = .ok (.putfield 29, 3) := by decide +kernel
theorem dX7_init_39 : decode cX7_init 39 = .ok (.return_, 1) := by decide +kernel
theorem dX7_add_0 : decode cX7_add 0 = .ok (.aload_n 0, 1) := by decide +kernel
theorem dX7_add_1 : decode cX7_add 1 = .ok (.getfield 15, 3) := by decide +kernel
theorem dX7_add_4 : decode cX7_add 4 = .ok (.sipush 160, 3) := by decide +kernel
theorem dX7_add_7 : decode cX7_add 7 = .ok (.if_icmp .ge 23, 3) := by decide +kernel
theorem dX7_add_10 : decode cX7_add 10 = .ok (.aload_n 0, 1) := by decide +kernel
theorem dX7_add_11 : decode cX7_add 11 = .ok (.getfield 9, 3) := by decide +kernel
theorem dX7_add_14 : decode cX7_add 14 = .ok (.aload_n 0, 1) := by decide +kernel
theorem dX7_add_15 : decode cX7_add 15 = .ok (.getfield 15, 3) := by decide +kernel
theorem dX7_add_18 : decode cX7_add 18 = .ok (.iload_n 1, 1) := by decide +kernel
theorem dX7_add_19 : decode cX7_add 19 = .ok (.iastore, 1) := by decide +kernel
theorem dX7_add_20 : decode cX7_add 20 = .ok (.aload_n 0, 1) := by decide +kernel
theorem dX7_add_21 : decode cX7_add 21 = .ok (.dup, 1) := by decide +kernel
theorem dX7_add_22 : decode cX7_add 22 = .ok (.getfield 15, 3) := by decide +kernel
theorem dX7_add_25 : decode cX7_add 25 = .ok (.iconst 1, 1) := by decide +kernel
theorem dX7_add_26 : decode cX7_add 26 = .ok (.iadd, 1) := by decide +kernel
theorem dX7_add_27 : decode cX7_add 27 = .ok (.putfield 15, 3) := by decide +kernel
theorem dX7_add_30 : decode cX7_add 30 = .ok (.return_, 1) := by decide +kernel
theorem dX7_parse_0 : decode cX7_parse 0 = .ok (.aload_n 0, 1) := by decide +kernel
theorem dX7_parse_1 : decode cX7_parse 1 = .ok (.iconst 0, 1) := by decide +kernel
theorem dX7_parse_2 : decode cX7_parse 2 = .ok (.putfield 29, 3) := by decide +kernel
theorem dX7_parse_5 : decode cX7_parse 5 = .ok (.iconst 0, 1) := by decide +kernel
theorem dX7_parse_6 : decode cX7_parse 6 = .ok (.istore_n 1, 1) := by decide +kernel
theorem dX7_parse_7 : decode cX7_parse 7 = .ok (.iload_n 1, 1) := by decide +kernel
theorem dX7_parse_8 : decode cX7_parse 8 = .ok (.bipush 6, 2) := by decide +kernel
theorem dX7_parse_10 : decode cX7_parse 10 = .ok (.if_icmp .ge 59, 3) := by decide +kernel
theorem dX7_parse_13 : decode cX7_parse 13 = .ok (.aload_n 0, 1) := by decide +kernel
theorem dX7_parse_14 : decode cX7_parse 14 = .ok (.invokevirtual 32, 3) := by decide +kernel
theorem dX7_parse_17 : decode cX7_parse 17 = .ok (.aload_n 0, 1) := by decide +kernel
theorem dX7_parse_18 : decode cX7_parse 18 = .ok (.iload_n 1, 1) := by decide +kernel
theorem dX7_parse_19 : decode cX7_parse 19 = .ok (.invokevirtual 35, 3) := by decide +kernel
theorem dX7_parse_22 : decode cX7_parse 22 = .ok (.ifCond .ne 8, 3) := by decide +kernel
theorem dX7_parse_25 : decode cX7_parse 25 = .ok (.aload_n 0, 1) := by decide +kernel
theorem dX7_parse_26 : decode cX7_parse 26 = .ok (.getfield 26, 3) := by decide +kernel
theorem dX7_parse_29 : decode cX7_parse 29 = .ok (.ireturn, 1) := by decide +kernel
theorem dX7_parse_30 : decode cX7_parse 30 = .ok (.aload_n 0, 1) := by decide +kernel
theorem dX7_parse_31 : decode cX7_parse 31 = .ok (.invokevirtual 39, 3) := by decide +kernel
theorem dX7_parse_34 : decode cX7_parse 34 = .ok (.ifCond .eq 15, 3) := by decide +kernel
theorem dX7_parse_37 : decode cX7_parse 37 = .ok (.aload_n 0, 1) := by decide +kernel
theorem dX7_parse_38 : decode cX7_parse 38 = .ok (.getfield 22, 3) := by decide +kernel
theorem dX7_parse_41 : decode cX7_parse 41 = .ok (.iload_n 1, 1) := by decide +kernel
theorem dX7_parse_42 : decode cX7_parse 42 = .ok (.iconst 1, 1) := by decide +kernel
theorem dX7_parse_43 : decode cX7_parse 43 = .ok (.iadd, 1) := by decide +kernel
theorem dX7_parse_44 : decode cX7_parse 44 = .ok (.putfield 43, 3) := by decide +kernel
theorem dX7_parse_47 : decode cX7_parse 47 = .ok (.iconst (-1), 1) := by decide +kernel
theorem dX7_parse_48 : decode cX7_parse 48 = .ok (.ireturn, 1) := by decide +kernel
theorem dX7_parse_49 : decode cX7_parse 49 = .ok (.aload_n 0, 1) := by decide +kernel
theorem dX7_parse_50 : decode cX7_parse 50 = .ok (.bipush 59, 2) := by decide +kernel
theorem dX7_parse_52 : decode cX7_parse 52 = .ok (.invokevirtual 46, 3) := by decide +kernel
theorem dX7_parse_55 : decode cX7_parse 55 = .ok (.ifCond .ne 8, 3) := by decide +kernel
theorem dX7_parse_58 : decode cX7_parse 58 = .ok (.aload_n 0, 1) := by decide +kernel
theorem dX7_parse_59 : decode cX7_parse 59 = .ok (.getfield 26, 3) := by decide +kernel
theorem dX7_parse_62 : decode cX7_parse 62 = .ok (.ireturn, 1) := by decide +kernel
theorem dX7_parse_63 : decode cX7_parse 63 = .ok (.iinc 1 1, 3) := by decide +kernel
theorem dX7_parse_66 : decode cX7_parse 66 = .ok (.goto (-59), 3) := by decide +kernel
theorem dX7_parse_69 : decode cX7_parse 69 = .ok (.aload_n 0, 1) := by decide +kernel
theorem dX7_parse_70 : decode cX7_parse 70 = .ok (.getfield 26, 3) := by decide +kernel
theorem dX7_parse_73 : decode cX7_parse 73 = .ok (.ireturn, 1) := by decide +kernel
theorem dX7_parseLine_0 : decode cX7_parseLine 0 = .ok (.aload_n 0, 1) := by decide +kernel
theorem dX7_parseLine_1 : decode cX7_parseLine 1 = .ok (.getfield 22, 3) := by decide +kernel
theorem dX7_parseLine_4 : decode cX7_parseLine 4 = .ok (.getfield 49, 3) := by decide +kernel
theorem dX7_parseLine_7 : decode cX7_parseLine 7 = .ok (.iload_n 1, 1) := by decide +kernel
theorem dX7_parseLine_8 : decode cX7_parseLine 8 = .ok (.iconst 0, 1) := by decide +kernel
theorem dX7_parseLine_9 : decode cX7_parseLine 9 = .ok (.iastore, 1) := by decide +kernel
theorem dX7_parseLine_10 : decode cX7_parseLine 10 = .ok (.aload_n 0, 1) := by decide +kernel
theorem dX7_parseLine_11 : decode cX7_parseLine 11 = .ok (.iload_n 1, 1) := by decide +kernel
theorem dX7_parseLine_12 : decode cX7_parseLine 12 = .ok (.invokevirtual 52, 3) := by decide +kernel
theorem dX7_parseLine_15 : decode cX7_parseLine 15 = .ok (.ifCond .ne 5, 3) := by decide +kernel
theorem dX7_parseLine_18 : decode cX7_parseLine 18 = .ok (.iconst 0, 1) := by decide +kernel
theorem dX7_parseLine_19 : decode cX7_parseLine 19 = .ok (.ireturn, 1) := by decide +kernel
theorem dX7_parseLine_20 : decode cX7_parseLine 20 = .ok (.aload_n 0, 1) := by decide +kernel
theorem dX7_parseLine_21 : decode cX7_parseLine 21 = .ok (.ldc 55, 2) := by decide +kernel
theorem dX7_parseLine_23 : decode cX7_parseLine 23 = .ok (.invokevirtual 57, 3) := by decide +kernel
theorem dX7_parseLine_26 : decode cX7_parseLine 26 = .ok (.ifCond .ne 5, 3) := by decide +kernel
theorem dX7_parseLine_29 : decode cX7_parseLine 29 = .ok (.iconst 1, 1) := by decide +kernel
theorem dX7_parseLine_30 : decode cX7_parseLine 30 = .ok (.ireturn, 1) := by decide +kernel
theorem dX7_parseLine_31 : decode cX7_parseLine 31 = .ok (.iconst 0, 1) := by decide +kernel
theorem dX7_parseLine_32 : decode cX7_parseLine 32 = .ok (.istore_n 2, 1) := by decide +kernel
theorem dX7_parseLine_33 : decode cX7_parseLine 33 = .ok (.iload_n 2, 1) := by decide +kernel
theorem dX7_parseLine_34 : decode cX7_parseLine 34 = .ok (.iconst 4, 1) := by decide +kernel
theorem dX7_parseLine_35 : decode cX7_parseLine 35 = .ok (.if_icmp .ge 47, 3) := by decide +kernel
theorem dX7_parseLine_38 : decode cX7_parseLine 38 = .ok (.aload_n 0, 1) := by decide +kernel
theorem dX7_parseLine_39 : decode cX7_parseLine 39 = .ok (.invokevirtual 32, 3) := by decide +kernel
theorem dX7_parseLine_42 : decode cX7_parseLine 42 = .ok (.aload_n 0, 1) := by decide +kernel
theorem dX7_parseLine_43 : decode cX7_parseLine 43 = .ok (.iload_n 1, 1) := by decide +kernel
theorem dX7_parseLine_44 : decode cX7_parseLine 44 = .ok (.iload_n 2, 1) := by decide +kernel
theorem dX7_parseLine_45 : decode cX7_parseLine 45 = .ok (.invokevirtual 61, 3) := by decide +kernel
theorem dX7_parseLine_48 : decode cX7_parseLine 48 = .ok (.ifCond .ne 5, 3) := by decide +kernel
theorem dX7_parseLine_51 : decode cX7_parseLine 51 = .ok (.iconst 0, 1) := by decide +kernel
theorem dX7_parseLine_52 : decode cX7_parseLine 52 = .ok (.ireturn, 1) := by decide +kernel
theorem dX7_parseLine_53 : decode cX7_parseLine 53 = .ok (.aload_n 0, 1) := by decide +kernel
theorem dX7_parseLine_54 : decode cX7_parseLine 54 = .ok (.getfield 22, 3) := by decide +kernel
theorem dX7_parseLine_57 : decode cX7_parseLine 57 = .ok (.getfield 49, 3) := by decide +kernel
theorem dX7_parseLine_60 : decode cX7_parseLine 60 = .ok (.iload_n 1, 1) := by decide +kernel
theorem dX7_parseLine_61 : decode cX7_parseLine 61 = .ok (.iload_n 2, 1) := by decide +kernel
theorem dX7_parseLine_62 : decode cX7_parseLine 62 = .ok (.iconst 1, 1) := by decide +kernel
theorem dX7_parseLine_63 : decode cX7_parseLine 63 = .ok (.iadd, 1) := by decide +kernel
theorem dX7_parseLine_64 : decode cX7_parseLine 64 = .ok (.iastore, 1) := by decide +kernel
theorem dX7_parseLine_65 : decode cX7_parseLine 65 = .ok (.aload_n 0, 1) := by decide +kernel
theorem dX7_parseLine_66 : decode cX7_parseLine 66 = .ok (.ldc 65, 2) := by decide +kernel
theorem dX7_parseLine_68 : decode cX7_parseLine 68 = .ok (.invokevirtual 57, 3) := by decide +kernel
theorem dX7_parseLine_71 : decode cX7_parseLine 71 = .ok (.ifCond .ne 5, 3) := by decide +kernel
theorem dX7_parseLine_74 : decode cX7_parseLine 74 = .ok (.iconst 1, 1) := by decide +kernel
theorem dX7_parseLine_75 : decode cX7_parseLine 75 = .ok (.ireturn, 1) := by decide +kernel
theorem dX7_parseLine_76 : decode cX7_parseLine 76 = .ok (.iinc 2 1, 3) := by decide +kernel
theorem dX7_parseLine_79 : decode cX7_parseLine 79 = .ok (.goto (-46), 3) := by decide +kernel
theorem dX7_parseLine_82 : decode cX7_parseLine 82 = .ok (.iconst 0, 1) := by decide +kernel
theorem dX7_parseLine_83 : decode cX7_parseLine 83 = .ok (.ireturn, 1) := by decide +kernel
theorem dX7_parseWish_0 : decode cX7_parseWish 0 = .ok (.aload_n 0, 1) := by decide +kernel
theorem dX7_parseWish_1 : decode cX7_parseWish 1 = .ok (.ldc 67, 2) := by decide +kernel
theorem dX7_parseWish_3 : decode cX7_parseWish 3 = .ok (.invokevirtual 57, 3) := by decide +kernel
theorem dX7_parseWish_6 : decode cX7_parseWish 6 = .ok (.ifCond .eq 19, 3) := by decide +kernel
theorem dX7_parseWish_9 : decode cX7_parseWish 9 = .ok (.aload_n 0, 1) := by decide +kernel
theorem dX7_parseWish_10 : decode cX7_parseWish 10 = .ok (.getfield 22, 3) := by decide +kernel
theorem dX7_parseWish_13 : decode cX7_parseWish 13 = .ok (.getfield 69, 3) := by decide +kernel
theorem dX7_parseWish_16 : decode cX7_parseWish 16 = .ok (.iload_n 1, 1) := by decide +kernel
theorem dX7_parseWish_17 : decode cX7_parseWish 17 = .ok (.iconst 0, 1) := by decide +kernel
theorem dX7_parseWish_18 : decode cX7_parseWish 18 = .ok (.iastore, 1) := by decide +kernel
theorem dX7_parseWish_19 : decode cX7_parseWish 19 = .ok (.aload_n 0, 1) := by decide +kernel
theorem dX7_parseWish_20 : decode cX7_parseWish 20 = .ok (.invokevirtual 32, 3) := by decide +kernel
theorem dX7_parseWish_23 : decode cX7_parseWish 23 = .ok (.iconst 1, 1) := by decide +kernel
theorem dX7_parseWish_24 : decode cX7_parseWish 24 = .ok (.ireturn, 1) := by decide +kernel
theorem dX7_parseWish_25 : decode cX7_parseWish 25 = .ok (.aload_n 0, 1) := by decide +kernel
theorem dX7_parseWish_26 : decode cX7_parseWish 26 = .ok (.ldc 72, 2) := by decide +kernel
theorem dX7_parseWish_28 : decode cX7_parseWish 28 = .ok (.invokevirtual 57, 3) := by decide +kernel
theorem dX7_parseWish_31 : decode cX7_parseWish 31 = .ok (.istore_n 2, 1) := by decide +kernel
theorem dX7_parseWish_32 : decode cX7_parseWish 32 = .ok (.iload_n 2, 1) := by decide +kernel
theorem dX7_parseWish_33 : decode cX7_parseWish 33 = .ok (.ifCond .ne 14, 3) := by decide +kernel
theorem dX7_parseWish_36 : decode cX7_parseWish 36 = .ok (.aload_n 0, 1) := by decide +kernel
theorem dX7_parseWish_37 : decode cX7_parseWish 37 = .ok (.ldc 74, 2) := by decide +kernel
theorem dX7_parseWish_39 : decode cX7_parseWish 39 = .ok (.invokevirtual 57, 3) := by decide +kernel
theorem dX7_parseWish_42 : decode cX7_parseWish 42 = .ok (.ifCond .ne 5, 3) := by decide +kernel
theorem dX7_parseWish_45 : decode cX7_parseWish 45 = .ok (.iconst 0, 1) := by decide +kernel
theorem dX7_parseWish_46 : decode cX7_parseWish 46 = .ok (.ireturn, 1) := by decide +kernel
theorem dX7_parseWish_47 : decode cX7_parseWish 47 = .ok (.aload_n 0, 1) := by decide +kernel
theorem dX7_parseWish_48 : decode cX7_parseWish 48 = .ok (.invokevirtual 32, 3) := by decide +kernel
theorem dX7_parseWish_51 : decode cX7_parseWish 51 = .ok (.aload_n 0, 1) := by decide +kernel
theorem dX7_parseWish_52 : decode cX7_parseWish 52 = .ok (.invokevirtual 76, 3) := by decide +kernel
theorem dX7_parseWish_55 : decode cX7_parseWish 55 = .ok (.ifCond .ne 5, 3) := by decide +kernel
theorem dX7_parseWish_58 : decode cX7_parseWish 58 = .ok (.iconst 0, 1) := by decide +kernel
theorem dX7_parseWish_59 : decode cX7_parseWish 59 = .ok (.ireturn, 1) := by decide +kernel
theorem dX7_parseWish_60 : decode cX7_parseWish 60 = .ok (.aload_n 0, 1) := by decide +kernel
theorem dX7_parseWish_61 : decode cX7_parseWish 61 = .ok (.getfield 22, 3) := by decide +kernel
theorem dX7_parseWish_64 : decode cX7_parseWish 64 = .ok (.getfield 69, 3) := by decide +kernel
theorem dX7_parseWish_67 : decode cX7_parseWish 67 = .ok (.iload_n 1, 1) := by decide +kernel
theorem dX7_parseWish_68 : decode cX7_parseWish 68 = .ok (.iload_n 2, 1) := by decide +kernel
theorem dX7_parseWish_69 : decode cX7_parseWish 69 = .ok (.ifCond .eq 11, 3) := by decide +kernel
theorem dX7_parseWish_72 : decode cX7_parseWish 72 = .ok (.aload_n 0, 1) := by decide +kernel
theorem dX7_parseWish_73 : decode cX7_parseWish 73 = .ok (.invokevirtual 79, 3) := by decide +kernel
theorem dX7_parseWish_76 : decode cX7_parseWish 76 = .ok (.ineg, 1) := by decide +kernel
theorem dX7_parseWish_77 : decode cX7_parseWish 77 = .ok (.goto 7, 3) := by decide +kernel
theorem dX7_parseWish_80 : decode cX7_parseWish 80 = .ok (.aload_n 0, 1) := by decide +kernel
theorem dX7_parseWish_81 : decode cX7_parseWish 81 = .ok (.invokevirtual 79, 3) := by decide +kernel
theorem dX7_parseWish_84 : decode cX7_parseWish 84 = .ok (.iastore, 1) := by decide +kernel
theorem dX7_parseWish_85 : decode cX7_parseWish 85 = .ok (.aload_n 0, 1) := by decide +kernel
theorem dX7_parseWish_86 : decode cX7_parseWish 86 = .ok (.invokevirtual 32, 3) := by decide +kernel
theorem dX7_parseWish_89 : decode cX7_parseWish 89 = .ok (.iconst 1, 1) := by decide +kernel
theorem dX7_parseWish_90 : decode cX7_parseWish 90 = .ok (.ireturn, 1) := by decide +kernel
theorem dX7_parseTest_0 : decode cX7_parseTest 0 = .ok (.aload_n 0, 1) := by decide +kernel
theorem dX7_parseTest_1 : decode cX7_parseTest 1 = .ok (.invokevirtual 83, 3) := by decide +kernel
theorem dX7_parseTest_4 : decode cX7_parseTest 4 = .ok (.istore_n 3, 1) := by decide +kernel
theorem dX7_parseTest_5 : decode cX7_parseTest 5 = .ok (.iload_n 3, 1) := by decide +kernel
theorem dX7_parseTest_6 : decode cX7_parseTest 6 = .ok (.iconst (-1), 1) := by decide +kernel
theorem dX7_parseTest_7 : decode cX7_parseTest 7 = .ok (.if_icmp .ne 5, 3) := by decide +kernel
theorem dX7_parseTest_10 : decode cX7_parseTest 10 = .ok (.iconst 0, 1) := by decide +kernel
theorem dX7_parseTest_11 : decode cX7_parseTest 11 = .ok (.ireturn, 1) := by decide +kernel
theorem dX7_parseTest_12 : decode cX7_parseTest 12 = .ok (.aload_n 0, 1) := by decide +kernel
theorem dX7_parseTest_13 : decode cX7_parseTest 13 = .ok (.getfield 22, 3) := by decide +kernel
theorem dX7_parseTest_16 : decode cX7_parseTest 16 = .ok (.getfield 86, 3) := by decide +kernel
theorem dX7_parseTest_19 : decode cX7_parseTest 19 = .ok (.iload_n 1, 1) := by decide +kernel
theorem dX7_parseTest_20 : decode cX7_parseTest 20 = .ok (.aaload, 1) := by decide +kernel
theorem dX7_parseTest_21 : decode cX7_parseTest 21 = .ok (.iload_n 2, 1) := by decide +kernel
theorem dX7_parseTest_22 : decode cX7_parseTest 22 = .ok (.iload_n 3, 1) := by decide +kernel
theorem dX7_parseTest_23 : decode cX7_parseTest 23 = .ok (.iastore, 1) := by decide +kernel
theorem dX7_parseTest_24 : decode cX7_parseTest 24 = .ok (.aload_n 0, 1) := by decide +kernel
theorem dX7_parseTest_25 : decode cX7_parseTest 25 = .ok (.invokevirtual 32, 3) := by decide +kernel
theorem dX7_parseTest_28 : decode cX7_parseTest 28 = .ok (.aload_n 0, 1) := by decide +kernel
theorem dX7_parseTest_29 : decode cX7_parseTest 29 = .ok (.ldc 90, 2) := by decide +kernel
theorem dX7_parseTest_31 : decode cX7_parseTest 31 = .ok (.invokevirtual 57, 3) := by decide +kernel
theorem dX7_parseTest_34 : decode cX7_parseTest 34 = .ok (.istore 4, 2) := by decide +kernel
theorem dX7_parseTest_36 : decode cX7_parseTest 36 = .ok (.iload 4, 2) := by decide +kernel
theorem dX7_parseTest_38 : decode cX7_parseTest 38 = .ok (.ifCond .ne 14, 3) := by decide +kernel
theorem dX7_parseTest_41 : decode cX7_parseTest 41 = .ok (.aload_n 0, 1) := by decide +kernel
theorem dX7_parseTest_42 : decode cX7_parseTest 42 = .ok (.ldc 92, 2) := by decide +kernel
theorem dX7_parseTest_44 : decode cX7_parseTest 44 = .ok (.invokevirtual 57, 3) := by decide +kernel
theorem dX7_parseTest_47 : decode cX7_parseTest 47 = .ok (.ifCond .ne 5, 3) := by decide +kernel
theorem dX7_parseTest_50 : decode cX7_parseTest 50 = .ok (.iconst 0, 1) := by decide +kernel
theorem dX7_parseTest_51 : decode cX7_parseTest 51 = .ok (.ireturn, 1) := by decide +kernel
theorem dX7_parseTest_52 : decode cX7_parseTest 52 = .ok (.aload_n 0, 1) := by decide +kernel
theorem dX7_parseTest_53 : decode cX7_parseTest 53 = .ok (.getfield 22, 3) := by decide +kernel
theorem dX7_parseTest_56 : decode cX7_parseTest 56 = .ok (.getfield 94, 3) := by decide +kernel
theorem dX7_parseTest_59 : decode cX7_parseTest 59 = .ok (.iload_n 1, 1) := by decide +kernel
theorem dX7_parseTest_60 : decode cX7_parseTest 60 = .ok (.aaload, 1) := by decide +kernel
theorem dX7_parseTest_61 : decode cX7_parseTest 61 = .ok (.iload_n 2, 1) := by decide +kernel
theorem dX7_parseTest_62 : decode cX7_parseTest 62 = .ok (.iload 4, 2) := by decide +kernel
theorem dX7_parseTest_64 : decode cX7_parseTest 64 = .ok (.ifCond .eq 7, 3) := by decide +kernel
theorem dX7_parseTest_67 : decode cX7_parseTest 67 = .ok (.iconst 1, 1) := by decide +kernel
theorem dX7_parseTest_68 : decode cX7_parseTest 68 = .ok (.goto 4, 3) := by decide +kernel
theorem dX7_parseTest_71 : decode cX7_parseTest 71 = .ok (.iconst 0, 1) := by decide +kernel
theorem dX7_parseTest_72 : decode cX7_parseTest 72 = .ok (.iastore, 1) := by decide +kernel
theorem dX7_parseTest_73 : decode cX7_parseTest 73 = .ok (.aload_n 0, 1) := by decide +kernel
theorem dX7_parseTest_74 : decode cX7_parseTest 74 = .ok (.invokevirtual 32, 3) := by decide +kernel
theorem dX7_parseTest_77 : decode cX7_parseTest 77 = .ok (.aload_n 0, 1) := by decide +kernel
theorem dX7_parseTest_78 : decode cX7_parseTest 78 = .ok (.invokevirtual 76, 3) := by decide +kernel
theorem dX7_parseTest_81 : decode cX7_parseTest 81 = .ok (.ifCond .ne 5, 3) := by decide +kernel
theorem dX7_parseTest_84 : decode cX7_parseTest 84 = .ok (.iconst 0, 1) := by decide +kernel
theorem dX7_parseTest_85 : decode cX7_parseTest 85 = .ok (.ireturn, 1) := by decide +kernel
theorem dX7_parseTest_86 : decode cX7_parseTest 86 = .ok (.aload_n 0, 1) := by decide +kernel
theorem dX7_parseTest_87 : decode cX7_parseTest 87 = .ok (.getfield 22, 3) := by decide +kernel
theorem dX7_parseTest_90 : decode cX7_parseTest 90 = .ok (.getfield 96, 3) := by decide +kernel
theorem dX7_parseTest_93 : decode cX7_parseTest 93 = .ok (.iload_n 1, 1) := by decide +kernel
theorem dX7_parseTest_94 : decode cX7_parseTest 94 = .ok (.aaload, 1) := by decide +kernel
theorem dX7_parseTest_95 : decode cX7_parseTest 95 = .ok (.iload_n 2, 1) := by decide +kernel
theorem dX7_parseTest_96 : decode cX7_parseTest 96 = .ok (.aload_n 0, 1) := by decide +kernel
theorem dX7_parseTest_97 : decode cX7_parseTest 97 = .ok (.invokevirtual 79, 3) := by decide +kernel
theorem dX7_parseTest_100 : decode cX7_parseTest 100 = .ok (.iastore, 1) := by decide +kernel
theorem dX7_parseTest_101 : decode cX7_parseTest 101 = .ok (.aload_n 0, 1) := by decide +kernel
theorem dX7_parseTest_102 : decode cX7_parseTest 102 = .ok (.invokevirtual 32, 3) := by decide +kernel
theorem dX7_parseTest_105 : decode cX7_parseTest 105 = .ok (.iconst 1, 1) := by decide +kernel
theorem dX7_parseTest_106 : decode cX7_parseTest 106 = .ok (.ireturn, 1) := by decide +kernel
theorem dX7_readingNamed_0 : decode cX7_readingNamed 0 = .ok (.aload_n 0, 1) := by decide +kernel
theorem dX7_readingNamed_1 : decode cX7_readingNamed 1 = .ok (.ldc 99, 2) := by decide +kernel
theorem dX7_readingNamed_3 : decode cX7_readingNamed 3 = .ok (.invokevirtual 57, 3) := by decide +kernel
theorem dX7_readingNamed_6 : decode cX7_readingNamed 6 = .ok (.ifCond .eq 5, 3) := by decide +kernel
theorem dX7_readingNamed_9 : decode cX7_readingNamed 9 = .ok (.iconst 0, 1) := by decide +kernel
theorem dX7_readingNamed_10 : decode cX7_readingNamed 10 = .ok (.ireturn, 1) := by decide +kernel
theorem dX7_readingNamed_11 : decode cX7_readingNamed 11 = .ok (.aload_n 0, 1) := by decide +kernel
theorem dX7_readingNamed_12 : decode cX7_readingNamed 12 = .ok (.ldc 101, 2) := by decide +kernel
theorem dX7_readingNamed_14 : decode cX7_readingNamed 14 = .ok (.invokevirtual 57, 3) := by decide +kernel
theorem dX7_readingNamed_17 : decode cX7_readingNamed 17 = .ok (.ifCond .eq 5, 3) := by decide +kernel
theorem dX7_readingNamed_20 : decode cX7_readingNamed 20 = .ok (.iconst 1, 1) := by decide +kernel
theorem dX7_readingNamed_21 : decode cX7_readingNamed 21 = .ok (.ireturn, 1) := by decide +kernel
theorem dX7_readingNamed_22 : decode cX7_readingNamed 22 = .ok (.aload_n 0, 1) := by decide +kernel
theorem dX7_readingNamed_23 : decode cX7_readingNamed 23 = .ok (.ldc 103, 2) := by decide +kernel
theorem dX7_readingNamed_25 : decode cX7_readingNamed 25 = .ok (.invokevirtual 57, 3) := by decide +kernel
theorem dX7_readingNamed_28 : decode cX7_readingNamed 28 = .ok (.ifCond .eq 5, 3) := by decide +kernel
theorem dX7_readingNamed_31 : decode cX7_readingNamed 31 = .ok (.iconst 2, 1) := by decide +kernel
theorem dX7_readingNamed_32 : decode cX7_readingNamed 32 = .ok (.ireturn, 1) := by decide +kernel
theorem dX7_readingNamed_33 : decode cX7_readingNamed 33 = .ok (.aload_n 0, 1) := by decide +kernel
theorem dX7_readingNamed_34 : decode cX7_readingNamed 34 = .ok (.ldc 105, 2) := by decide +kernel
theorem dX7_readingNamed_36 : decode cX7_readingNamed 36 = .ok (.invokevirtual 57, 3) := by decide +kernel
theorem dX7_readingNamed_39 : decode cX7_readingNamed 39 = .ok (.ifCond .eq 5, 3) := by decide +kernel
theorem dX7_readingNamed_42 : decode cX7_readingNamed 42 = .ok (.iconst 3, 1) := by decide +kernel
theorem dX7_readingNamed_43 : decode cX7_readingNamed 43 = .ok (.ireturn, 1) := by decide +kernel
theorem dX7_readingNamed_44 : decode cX7_readingNamed 44 = .ok (.aload_n 0, 1) := by decide +kernel
theorem dX7_readingNamed_45 : decode cX7_readingNamed 45 = .ok (.ldc 107, 2) := by decide +kernel
theorem dX7_readingNamed_47 : decode cX7_readingNamed 47 = .ok (.invokevirtual 57, 3) := by decide +kernel
theorem dX7_readingNamed_50 : decode cX7_readingNamed 50 = .ok (.ifCond .eq 5, 3) := by decide +kernel
theorem dX7_readingNamed_53 : decode cX7_readingNamed 53 = .ok (.iconst 4, 1) := by decide +kernel
theorem dX7_readingNamed_54 : decode cX7_readingNamed 54 = .ok (.ireturn, 1) := by decide +kernel
theorem dX7_readingNamed_55 : decode cX7_readingNamed 55 = .ok (.aload_n 0, 1) := by decide +kernel
theorem dX7_readingNamed_56 : decode cX7_readingNamed 56 = .ok (.ldc 109, 2) := by decide +kernel
theorem dX7_readingNamed_58 : decode cX7_readingNamed 58 = .ok (.invokevirtual 57, 3) := by decide +kernel
theorem dX7_readingNamed_61 : decode cX7_readingNamed 61 = .ok (.ifCond .eq 7, 3) := by decide +kernel
theorem dX7_readingNamed_64 : decode cX7_readingNamed 64 = .ok (.iconst 5, 1) := by decide +kernel
theorem dX7_readingNamed_65 : decode cX7_readingNamed 65 = .ok (.goto 4, 3) := by decide +kernel
theorem dX7_readingNamed_68 : decode cX7_readingNamed 68 = .ok (.iconst (-1), 1) := by decide +kernel
theorem dX7_readingNamed_69 : decode cX7_readingNamed 69 = .ok (.ireturn, 1) := by decide +kernel
theorem dX7_advance_0 : decode cX7_advance 0 = .ok (.aload_n 0, 1) := by decide +kernel
theorem dX7_advance_1 : decode cX7_advance 1 = .ok (.aload_n 0, 1) := by decide +kernel
theorem dX7_advance_2 : decode cX7_advance 2 = .ok (.getfield 29, 3) := by decide +kernel
theorem dX7_advance_5 : decode cX7_advance 5 = .ok (.putfield 26, 3) := by decide +kernel
theorem dX7_advance_8 : decode cX7_advance 8 = .ok (.aload_n 0, 1) := by decide +kernel
theorem dX7_advance_9 : decode cX7_advance 9 = .ok (.getfield 26, 3) := by decide +kernel
theorem dX7_advance_12 : decode cX7_advance 12 = .ok (.aload_n 0, 1) := by decide +kernel
theorem dX7_advance_13 : decode cX7_advance 13 = .ok (.getfield 15, 3) := by decide +kernel
theorem dX7_advance_16 : decode cX7_advance 16 = .ok (.if_icmp .ge 30, 3) := by decide +kernel
theorem dX7_advance_19 : decode cX7_advance 19 = .ok (.aload_n 0, 1) := by decide +kernel
theorem dX7_advance_20 : decode cX7_advance 20 = .ok (.getfield 9, 3) := by decide +kernel
theorem dX7_advance_23 : decode cX7_advance 23 = .ok (.aload_n 0, 1) := by decide +kernel
theorem dX7_advance_24 : decode cX7_advance 24 = .ok (.getfield 26, 3) := by decide +kernel
theorem dX7_advance_27 : decode cX7_advance 27 = .ok (.iaload, 1) := by decide +kernel
theorem dX7_advance_28 : decode cX7_advance 28 = .ok (.bipush 32, 2) := by decide +kernel
theorem dX7_advance_30 : decode cX7_advance 30 = .ok (.if_icmp .ne 16, 3) := by decide +kernel
theorem dX7_advance_33 : decode cX7_advance 33 = .ok (.aload_n 0, 1) := by decide +kernel
theorem dX7_advance_34 : decode cX7_advance 34 = .ok (.dup, 1) := by decide +kernel
theorem dX7_advance_35 : decode cX7_advance 35 = .ok (.getfield 26, 3) := by decide +kernel
theorem dX7_advance_38 : decode cX7_advance 38 = .ok (.iconst 1, 1) := by decide +kernel
theorem dX7_advance_39 : decode cX7_advance 39 = .ok (.iadd, 1) := by decide +kernel
theorem dX7_advance_40 : decode cX7_advance 40 = .ok (.putfield 26, 3) := by decide +kernel
theorem dX7_advance_43 : decode cX7_advance 43 = .ok (.goto (-35), 3) := by decide +kernel
theorem dX7_advance_46 : decode cX7_advance 46 = .ok (.aload_n 0, 1) := by decide +kernel
theorem dX7_advance_47 : decode cX7_advance 47 = .ok (.aload_n 0, 1) := by decide +kernel
theorem dX7_advance_48 : decode cX7_advance 48 = .ok (.getfield 26, 3) := by decide +kernel
theorem dX7_advance_51 : decode cX7_advance 51 = .ok (.putfield 29, 3) := by decide +kernel
theorem dX7_advance_54 : decode cX7_advance 54 = .ok (.aload_n 0, 1) := by decide +kernel
theorem dX7_advance_55 : decode cX7_advance 55 = .ok (.invokevirtual 39, 3) := by decide +kernel
theorem dX7_advance_58 : decode cX7_advance 58 = .ok (.ifCond .eq 4, 3) := by decide +kernel
theorem dX7_advance_61 : decode cX7_advance 61 = .ok (.return_, 1) := by decide +kernel
theorem dX7_advance_62 : decode cX7_advance 62 = .ok (.aload_n 0, 1) := by decide +kernel
theorem dX7_advance_63 : decode cX7_advance 63 = .ok (.getfield 9, 3) := by decide +kernel
theorem dX7_advance_66 : decode cX7_advance 66 = .ok (.aload_n 0, 1) := by decide +kernel
theorem dX7_advance_67 : decode cX7_advance 67 = .ok (.getfield 26, 3) := by decide +kernel
theorem dX7_advance_70 : decode cX7_advance 70 = .ok (.iaload, 1) := by decide +kernel
theorem dX7_advance_71 : decode cX7_advance 71 = .ok (.invokestatic 111, 3) := by decide +kernel
theorem dX7_advance_74 : decode cX7_advance 74 = .ok (.istore_n 1, 1) := by decide +kernel
theorem dX7_advance_75 : decode cX7_advance 75 = .ok (.aload_n 0, 1) := by decide +kernel
theorem dX7_advance_76 : decode cX7_advance 76 = .ok (.dup, 1) := by decide +kernel
theorem dX7_advance_77 : decode cX7_advance 77 = .ok (.getfield 29, 3) := by decide +kernel
theorem dX7_advance_80 : decode cX7_advance 80 = .ok (.iconst 1, 1) := by decide +kernel
theorem dX7_advance_81 : decode cX7_advance 81 = .ok (.iadd, 1) := by decide +kernel
theorem dX7_advance_82 : decode cX7_advance 82 = .ok (.putfield 29, 3) := by decide +kernel
theorem dX7_advance_85 : decode cX7_advance 85 = .ok (.iload_n 1, 1) := by decide +kernel
theorem dX7_advance_86 : decode cX7_advance 86 = .ok (.iconst 2, 1) := by decide +kernel
theorem dX7_advance_87 : decode cX7_advance 87 = .ok (.if_icmp .eq 43, 3) := by decide +kernel
theorem dX7_advance_90 : decode cX7_advance 90 = .ok (.aload_n 0, 1) := by decide +kernel
theorem dX7_advance_91 : decode cX7_advance 91 = .ok (.getfield 29, 3) := by decide +kernel
theorem dX7_advance_94 : decode cX7_advance 94 = .ok (.aload_n 0, 1) := by decide +kernel
theorem dX7_advance_95 : decode cX7_advance 95 = .ok (.getfield 15, 3) := by decide +kernel
theorem dX7_advance_98 : decode cX7_advance 98 = .ok (.if_icmp .ge 32, 3) := by decide +kernel
theorem dX7_advance_101 : decode cX7_advance 101 = .ok (.aload_n 0, 1) := by decide +kernel
theorem dX7_advance_102 : decode cX7_advance 102 = .ok (.getfield 9, 3) := by decide +kernel
theorem dX7_advance_105 : decode cX7_advance 105 = .ok (.aload_n 0, 1) := by decide +kernel
theorem dX7_advance_106 : decode cX7_advance 106 = .ok (.getfield 29, 3) := by decide +kernel
theorem dX7_advance_109 : decode cX7_advance 109 = .ok (.iaload, 1) := by decide +kernel
theorem dX7_advance_110 : decode cX7_advance 110 = .ok (.invokestatic 111, 3) := by decide +kernel
theorem dX7_advance_113 : decode cX7_advance 113 = .ok (.iload_n 1, 1) := by decide +kernel
theorem dX7_advance_114 : decode cX7_advance 114 = .ok (.if_icmp .ne 16, 3) := by decide +kernel
theorem dX7_advance_117 : decode cX7_advance 117 = .ok (.aload_n 0, 1) := by decide +kernel
theorem dX7_advance_118 : decode cX7_advance 118 = .ok (.dup, 1) := by decide +kernel
theorem dX7_advance_119 : decode cX7_advance 119 = .ok (.getfield 29, 3) := by decide +kernel
theorem dX7_advance_122 : decode cX7_advance 122 = .ok (.iconst 1, 1) := by decide +kernel
theorem dX7_advance_123 : decode cX7_advance 123 = .ok (.iadd, 1) := by decide +kernel
theorem dX7_advance_124 : decode cX7_advance 124 = .ok (.putfield 29, 3) := by decide +kernel
theorem dX7_advance_127 : decode cX7_advance 127 = .ok (.goto (-42), 3) := by decide +kernel
theorem dX7_advance_130 : decode cX7_advance 130 = .ok (.return_, 1) := by decide +kernel
theorem dX7_kindOf_0 : decode cX7_kindOf 0 = .ok (.iload_n 0, 1) := by decide +kernel
theorem dX7_kindOf_1 : decode cX7_kindOf 1 = .ok (.bipush 97, 2) := by decide +kernel
theorem dX7_kindOf_3 : decode cX7_kindOf 3 = .ok (.if_icmp .lt 11, 3) := by decide +kernel
theorem dX7_kindOf_6 : decode cX7_kindOf 6 = .ok (.iload_n 0, 1) := by decide +kernel
theorem dX7_kindOf_7 : decode cX7_kindOf 7 = .ok (.bipush 122, 2) := by decide +kernel
theorem dX7_kindOf_9 : decode cX7_kindOf 9 = .ok (.if_icmp .gt 5, 3) := by decide +kernel
theorem dX7_kindOf_12 : decode cX7_kindOf 12 = .ok (.iconst 0, 1) := by decide +kernel
theorem dX7_kindOf_13 : decode cX7_kindOf 13 = .ok (.ireturn, 1) := by decide +kernel
theorem dX7_kindOf_14 : decode cX7_kindOf 14 = .ok (.iload_n 0, 1) := by decide +kernel
theorem dX7_kindOf_15 : decode cX7_kindOf 15 = .ok (.invokestatic 115, 3) := by decide +kernel
theorem dX7_kindOf_18 : decode cX7_kindOf 18 = .ok (.ifCond .eq 7, 3) := by decide +kernel
theorem dX7_kindOf_21 : decode cX7_kindOf 21 = .ok (.iconst 1, 1) := by decide +kernel
theorem dX7_kindOf_22 : decode cX7_kindOf 22 = .ok (.goto 4, 3) := by decide +kernel
theorem dX7_kindOf_25 : decode cX7_kindOf 25 = .ok (.iconst 2, 1) := by decide +kernel
theorem dX7_kindOf_26 : decode cX7_kindOf 26 = .ok (.ireturn, 1) := by decide +kernel
theorem dX7_isDigit_0 : decode cX7_isDigit 0 = .ok (.iload_n 0, 1) := by decide +kernel
theorem dX7_isDigit_1 : decode cX7_isDigit 1 = .ok (.bipush 48, 2) := by decide +kernel
theorem dX7_isDigit_3 : decode cX7_isDigit 3 = .ok (.if_icmp .lt 13, 3) := by decide +kernel
theorem dX7_isDigit_6 : decode cX7_isDigit 6 = .ok (.iload_n 0, 1) := by decide +kernel
theorem dX7_isDigit_7 : decode cX7_isDigit 7 = .ok (.bipush 57, 2) := by decide +kernel
theorem dX7_isDigit_9 : decode cX7_isDigit 9 = .ok (.if_icmp .gt 7, 3) := by decide +kernel
theorem dX7_isDigit_12 : decode cX7_isDigit 12 = .ok (.iconst 1, 1) := by decide +kernel
theorem dX7_isDigit_13 : decode cX7_isDigit 13 = .ok (.goto 4, 3) := by decide +kernel
theorem dX7_isDigit_16 : decode cX7_isDigit 16 = .ok (.iconst 0, 1) := by decide +kernel
theorem dX7_isDigit_17 : decode cX7_isDigit 17 = .ok (.ireturn, 1) := by decide +kernel
theorem dX7_isAtEnd_0 : decode cX7_isAtEnd 0 = .ok (.aload_n 0, 1) := by decide +kernel
theorem dX7_isAtEnd_1 : decode cX7_isAtEnd 1 = .ok (.getfield 26, 3) := by decide +kernel
theorem dX7_isAtEnd_4 : decode cX7_isAtEnd 4 = .ok (.aload_n 0, 1) := by decide +kernel
theorem dX7_isAtEnd_5 : decode cX7_isAtEnd 5 = .ok (.getfield 15, 3) := by decide +kernel
theorem dX7_isAtEnd_8 : decode cX7_isAtEnd 8 = .ok (.if_icmp .lt 7, 3) := by decide +kernel
theorem dX7_isAtEnd_11 : decode cX7_isAtEnd 11 = .ok (.iconst 1, 1) := by decide +kernel
theorem dX7_isAtEnd_12 : decode cX7_isAtEnd 12 = .ok (.goto 4, 3) := by decide +kernel
theorem dX7_isAtEnd_15 : decode cX7_isAtEnd 15 = .ok (.iconst 0, 1) := by decide +kernel
theorem dX7_isAtEnd_16 : decode cX7_isAtEnd 16 = .ok (.ireturn, 1) := by decide +kernel
theorem dX7_isSign_0 : decode cX7_isSign 0 = .ok (.aload_n 0, 1) := by decide +kernel
theorem dX7_isSign_1 : decode cX7_isSign 1 = .ok (.invokevirtual 39, 3) := by decide +kernel
theorem dX7_isSign_4 : decode cX7_isSign 4 = .ok (.ifCond .ne 20, 3) := by decide +kernel
theorem dX7_isSign_7 : decode cX7_isSign 7 = .ok (.aload_n 0, 1) := by decide +kernel
theorem dX7_isSign_8 : decode cX7_isSign 8 = .ok (.getfield 9, 3) := by decide +kernel
theorem dX7_isSign_11 : decode cX7_isSign 11 = .ok (.aload_n 0, 1) := by decide +kernel
theorem dX7_isSign_12 : decode cX7_isSign 12 = .ok (.getfield 26, 3) := by decide +kernel
theorem dX7_isSign_15 : decode cX7_isSign 15 = .ok (.iaload, 1) := by decide +kernel
theorem dX7_isSign_16 : decode cX7_isSign 16 = .ok (.iload_n 1, 1) := by decide +kernel
theorem dX7_isSign_17 : decode cX7_isSign 17 = .ok (.if_icmp .ne 7, 3) := by decide +kernel
theorem dX7_isSign_20 : decode cX7_isSign 20 = .ok (.iconst 1, 1) := by decide +kernel
theorem dX7_isSign_21 : decode cX7_isSign 21 = .ok (.goto 4, 3) := by decide +kernel
theorem dX7_isSign_24 : decode cX7_isSign 24 = .ok (.iconst 0, 1) := by decide +kernel
theorem dX7_isSign_25 : decode cX7_isSign 25 = .ok (.ireturn, 1) := by decide +kernel
theorem dX7_isWord_0 : decode cX7_isWord 0 = .ok (.aload_n 0, 1) := by decide +kernel
theorem dX7_isWord_1 : decode cX7_isWord 1 = .ok (.getfield 29, 3) := by decide +kernel
theorem dX7_isWord_4 : decode cX7_isWord 4 = .ok (.aload_n 0, 1) := by decide +kernel
theorem dX7_isWord_5 : decode cX7_isWord 5 = .ok (.getfield 26, 3) := by decide +kernel
theorem dX7_isWord_8 : decode cX7_isWord 8 = .ok (.isub, 1) := by decide +kernel
theorem dX7_isWord_9 : decode cX7_isWord 9 = .ok (.aload_n 1, 1) := by decide +kernel
theorem dX7_isWord_10 : decode cX7_isWord 10 = .ok (.invokevirtual 118, 3) := by decide +kernel
theorem dX7_isWord_13 : decode cX7_isWord 13 = .ok (.if_icmp .eq 5, 3) := by decide +kernel
theorem dX7_isWord_16 : decode cX7_isWord 16 = .ok (.iconst 0, 1) := by decide +kernel
theorem dX7_isWord_17 : decode cX7_isWord 17 = .ok (.ireturn, 1) := by decide +kernel
theorem dX7_isWord_18 : decode cX7_isWord 18 = .ok (.iconst 0, 1) := by decide +kernel
theorem dX7_isWord_19 : decode cX7_isWord 19 = .ok (.istore_n 2, 1) := by decide +kernel
theorem dX7_isWord_20 : decode cX7_isWord 20 = .ok (.iload_n 2, 1) := by decide +kernel
theorem dX7_isWord_21 : decode cX7_isWord 21 = .ok (.aload_n 1, 1) := by decide +kernel
theorem dX7_isWord_22 : decode cX7_isWord 22 = .ok (.invokevirtual 118, 3) := by decide +kernel
theorem dX7_isWord_25 : decode cX7_isWord 25 = .ok (.if_icmp .ge 30, 3) := by decide +kernel
theorem dX7_isWord_28 : decode cX7_isWord 28 = .ok (.aload_n 0, 1) := by decide +kernel
theorem dX7_isWord_29 : decode cX7_isWord 29 = .ok (.getfield 9, 3) := by decide +kernel
theorem dX7_isWord_32 : decode cX7_isWord 32 = .ok (.aload_n 0, 1) := by decide +kernel
theorem dX7_isWord_33 : decode cX7_isWord 33 = .ok (.getfield 26, 3) := by decide +kernel
theorem dX7_isWord_36 : decode cX7_isWord 36 = .ok (.iload_n 2, 1) := by decide +kernel
theorem dX7_isWord_37 : decode cX7_isWord 37 = .ok (.iadd, 1) := by decide +kernel
theorem dX7_isWord_38 : decode cX7_isWord 38 = .ok (.iaload, 1) := by decide +kernel
theorem dX7_isWord_39 : decode cX7_isWord 39 = .ok (.aload_n 1, 1) := by decide +kernel
theorem dX7_isWord_40 : decode cX7_isWord 40 = .ok (.iload_n 2, 1) := by decide +kernel
theorem dX7_isWord_41 : decode cX7_isWord 41 = .ok (.invokevirtual 122, 3) := by decide +kernel
theorem dX7_isWord_44 : decode cX7_isWord 44 = .ok (.if_icmp .eq 5, 3) := by decide +kernel
theorem dX7_isWord_47 : decode cX7_isWord 47 = .ok (.iconst 0, 1) := by decide +kernel
theorem dX7_isWord_48 : decode cX7_isWord 48 = .ok (.ireturn, 1) := by decide +kernel
theorem dX7_isWord_49 : decode cX7_isWord 49 = .ok (.iinc 2 1, 3) := by decide +kernel
theorem dX7_isWord_52 : decode cX7_isWord 52 = .ok (.goto (-32), 3) := by decide +kernel
theorem dX7_isWord_55 : decode cX7_isWord 55 = .ok (.iconst 1, 1) := by decide +kernel
theorem dX7_isWord_56 : decode cX7_isWord 56 = .ok (.ireturn, 1) := by decide +kernel
theorem dX7_isNumber_0 : decode cX7_isNumber 0 = .ok (.aload_n 0, 1) := by decide +kernel
theorem dX7_isNumber_1 : decode cX7_isNumber 1 = .ok (.invokevirtual 39, 3) := by decide +kernel
theorem dX7_isNumber_4 : decode cX7_isNumber 4 = .ok (.ifCond .ne 35, 3) := by decide +kernel
theorem dX7_isNumber_7 : decode cX7_isNumber 7 = .ok (.aload_n 0, 1) := by decide +kernel
theorem dX7_isNumber_8 : decode cX7_isNumber 8 = .ok (.getfield 9, 3) := by decide +kernel
theorem dX7_isNumber_11 : decode cX7_isNumber 11 = .ok (.aload_n 0, 1) := by decide +kernel
theorem dX7_isNumber_12 : decode cX7_isNumber 12 = .ok (.getfield 26, 3) := by decide +kernel
theorem dX7_isNumber_15 : decode cX7_isNumber 15 = .ok (.iaload, 1) := by decide +kernel
theorem dX7_isNumber_16 : decode cX7_isNumber 16 = .ok (.invokestatic 115, 3) := by decide +kernel
theorem dX7_isNumber_19 : decode cX7_isNumber 19 = .ok (.ifCond .eq 20, 3) := by decide +kernel
theorem dX7_isNumber_22 : decode cX7_isNumber 22 = .ok (.aload_n 0, 1) := by decide +kernel
theorem dX7_isNumber_23 : decode cX7_isNumber 23 = .ok (.getfield 29, 3) := by decide +kernel
theorem dX7_isNumber_26 : decode cX7_isNumber 26 = .ok (.aload_n 0, 1) := by decide +kernel
theorem dX7_isNumber_27 : decode cX7_isNumber 27 = .ok (.getfield 26, 3) := by decide +kernel
theorem dX7_isNumber_30 : decode cX7_isNumber 30 = .ok (.isub, 1) := by decide +kernel
theorem dX7_isNumber_31 : decode cX7_isNumber 31 = .ok (.iconst 2, 1) := by decide +kernel
theorem dX7_isNumber_32 : decode cX7_isNumber 32 = .ok (.if_icmp .gt 7, 3) := by decide +kernel
theorem dX7_isNumber_35 : decode cX7_isNumber 35 = .ok (.iconst 1, 1) := by decide +kernel
theorem dX7_isNumber_36 : decode cX7_isNumber 36 = .ok (.goto 4, 3) := by decide +kernel
theorem dX7_isNumber_39 : decode cX7_isNumber 39 = .ok (.iconst 0, 1) := by decide +kernel
theorem dX7_isNumber_40 : decode cX7_isNumber 40 = .ok (.ireturn, 1) := by decide +kernel
theorem dX7_number_0 : decode cX7_number 0 = .ok (.iconst 0, 1) := by decide +kernel
theorem dX7_number_1 : decode cX7_number 1 = .ok (.istore_n 1, 1) := by decide +kernel
theorem dX7_number_2 : decode cX7_number 2 = .ok (.aload_n 0, 1) := by decide +kernel
theorem dX7_number_3 : decode cX7_number 3 = .ok (.getfield 26, 3) := by decide +kernel
theorem dX7_number_6 : decode cX7_number 6 = .ok (.istore_n 2, 1) := by decide +kernel
theorem dX7_number_7 : decode cX7_number 7 = .ok (.iload_n 2, 1) := by decide +kernel
theorem dX7_number_8 : decode cX7_number 8 = .ok (.aload_n 0, 1) := by decide +kernel
theorem dX7_number_9 : decode cX7_number 9 = .ok (.getfield 29, 3) := by decide +kernel
theorem dX7_number_12 : decode cX7_number 12 = .ok (.if_icmp .ge 24, 3) := by decide +kernel
theorem dX7_number_15 : decode cX7_number 15 = .ok (.bipush 10, 2) := by decide +kernel
theorem dX7_number_17 : decode cX7_number 17 = .ok (.iload_n 1, 1) := by decide +kernel
theorem dX7_number_18 : decode cX7_number 18 = .ok (.imul, 1) := by decide +kernel
theorem dX7_number_19 : decode cX7_number 19 = .ok (.aload_n 0, 1) := by decide +kernel
theorem dX7_number_20 : decode cX7_number 20 = .ok (.getfield 9, 3) := by decide +kernel
theorem dX7_number_23 : decode cX7_number 23 = .ok (.iload_n 2, 1) := by decide +kernel
theorem dX7_number_24 : decode cX7_number 24 = .ok (.iaload, 1) := by decide +kernel
theorem dX7_number_25 : decode cX7_number 25 = .ok (.iadd, 1) := by decide +kernel
theorem dX7_number_26 : decode cX7_number 26 = .ok (.bipush 48, 2) := by decide +kernel
theorem dX7_number_28 : decode cX7_number 28 = .ok (.isub, 1) := by decide +kernel
theorem dX7_number_29 : decode cX7_number 29 = .ok (.istore_n 1, 1) := by decide +kernel
theorem dX7_number_30 : decode cX7_number 30 = .ok (.iinc 2 1, 3) := by decide +kernel
theorem dX7_number_33 : decode cX7_number 33 = .ok (.goto (-26), 3) := by decide +kernel
theorem dX7_number_36 : decode cX7_number 36 = .ok (.iload_n 1, 1) := by decide +kernel
theorem dX7_number_37 : decode cX7_number 37 = .ok (.ireturn, 1) := by decide +kernel
theorem dX8_init_0 : decode cX8_init 0 = .ok (.aload_n 0, 1) := by decide +kernel
theorem dX8_init_1 : decode cX8_init 1 = .ok (.invokespecial 1, 3) := by decide +kernel
theorem dX8_init_4 : decode cX8_init 4 = .ok (.aload_n 0, 1) := by decide +kernel
theorem dX8_init_5 : decode cX8_init 5 = .ok (.new 7, 3) := by decide +kernel
theorem dX8_init_8 : decode cX8_init 8 = .ok (.dup, 1) := by decide +kernel
theorem dX8_init_9 : decode cX8_init 9 = .ok (.invokespecial 9, 3) := by decide +kernel
theorem dX8_init_12 : decode cX8_init 12 = .ok (.putfield 10, 3) := by decide +kernel
theorem dX8_init_15 : decode cX8_init 15 = .ok (.aload_n 0, 1) := by decide +kernel
theorem dX8_init_16 : decode cX8_init 16 = .ok (.new 16, 3) := by decide +kernel
theorem dX8_init_19 : decode cX8_init 19 = .ok (.dup, 1) := by decide +kernel
theorem dX8_init_20 : decode cX8_init 20 = .ok (.invokespecial 18, 3) := by decide +kernel
theorem dX8_init_23 : decode cX8_init 23 = .ok (.putfield 19, 3) := by decide +kernel
theorem dX8_init_26 : decode cX8_init 26 = .ok (.aload_n 0, 1) := by decide +kernel
theorem dX8_init_27 : decode cX8_init 27 = .ok (.new 23, 3) := by decide +kernel
theorem dX8_init_30 : decode cX8_init 30 = .ok (.dup, 1) := by decide +kernel
theorem dX8_init_31 : decode cX8_init 31 = .ok (.invokespecial 25, 3) := by decide +kernel
theorem dX8_init_34 : decode cX8_init 34 = .ok (.putfield 26, 3) := by decide +kernel
theorem dX8_init_37 : decode cX8_init 37 = .ok (.aload_n 0, 1) := by decide +kernel
theorem dX8_init_38 : decode cX8_init 38 = .ok (.new 30, 3) := by decide +kernel
theorem dX8_init_41 : decode cX8_init 41 = .ok (.dup, 1) := by decide +kernel
theorem dX8_init_42 : decode cX8_init 42 = .ok (.invokespecial 32, 3) := by decide +kernel
theorem dX8_init_45 : decode cX8_init 45 = .ok (.putfield 33, 3) := by decide +kernel
theorem dX8_init_48 : decode cX8_init 48 = .ok (.aload_n 0, 1) := by decide +kernel
theorem dX8_init_49 : decode cX8_init 49 = .ok (.new 37, 3) := by decide +kernel
theorem dX8_init_52 : decode cX8_init 52 = .ok (.dup, 1) := by decide +kernel
theorem dX8_init_53 : decode cX8_init 53 = .ok (.invokespecial 39, 3) := by decide +kernel
theorem dX8_init_56 : decode cX8_init 56 = .ok (.putfield 40, 3) := by decide +kernel
theorem dX8_init_59 : decode cX8_init 59 = .ok (.aload_n 0, 1) := by decide +kernel
theorem dX8_init_60 : decode cX8_init 60 = .ok (.new 44, 3) := by decide +kernel
theorem dX8_init_63 : decode cX8_init 63 = .ok (.dup, 1) := by decide +kernel
theorem dX8_init_64 : decode cX8_init 64 = .ok (.invokespecial 46, 3) := by decide +kernel
theorem dX8_init_67 : decode cX8_init 67 = .ok (.putfield 47, 3) := by decide +kernel
theorem dX8_init_70 : decode cX8_init 70 = .ok (.return_, 1) := by decide +kernel
theorem dX8_make_0 : decode cX8_make 0 = .ok (.iload_n 1, 1) := by decide +kernel
theorem dX8_make_1 : decode cX8_make 1 = .ok (.invokestatic 51, 3) := by decide +kernel
theorem dX8_make_4 : decode cX8_make 4 = .ok (.ifCond .eq 6, 3) := by decide +kernel
theorem dX8_make_7 : decode cX8_make 7 = .ok (.bipush (-2), 2) := by decide +kernel
theorem dX8_make_9 : decode cX8_make 9 = .ok (.ireturn, 1) := by decide +kernel
theorem dX8_make_10 : decode cX8_make 10 = .ok (.iload_n 2, 1) := by decide +kernel
theorem dX8_make_11 : decode cX8_make 11 = .ok (.iconst 1, 1) := by decide +kernel
theorem dX8_make_12 : decode cX8_make 12 = .ok (.bipush 40, 2) := by decide +kernel
theorem dX8_make_14 : decode cX8_make 14 = .ok (.invokestatic 55, 3) := by decide +kernel
theorem dX8_make_17 : decode cX8_make 17 = .ok (.ifCond .ne 33, 3) := by decide +kernel
theorem dX8_make_20 : decode cX8_make 20 = .ok (.iload_n 3, 1) := by decide +kernel
theorem dX8_make_21 : decode cX8_make 21 = .ok (.iconst 1, 1) := by decide +kernel
theorem dX8_make_22 : decode cX8_make 22 = .ok (.bipush 9, 2) := by decide +kernel
theorem dX8_make_24 : decode cX8_make 24 = .ok (.invokestatic 55, 3) := by decide +kernel
theorem dX8_make_27 : decode cX8_make 27 = .ok (.ifCond .ne 23, 3) := by decide +kernel
theorem dX8_make_30 : decode cX8_make 30 = .ok (.iload 4, 2) := by decide +kernel
theorem dX8_make_32 : decode cX8_make 32 = .ok (.iconst 1, 1) := by decide +kernel
theorem dX8_make_33 : decode cX8_make 33 = .ok (.iconst 5, 1) := by decide +kernel
theorem dX8_make_34 : decode cX8_make 34 = .ok (.invokestatic 55, 3) := by decide +kernel
theorem dX8_make_37 : decode cX8_make 37 = .ok (.ifCond .ne 13, 3) := by decide +kernel
theorem dX8_make_40 : decode cX8_make 40 = .ok (.iload 5, 2) := by decide +kernel
theorem dX8_make_42 : decode cX8_make 42 = .ok (.iconst 0, 1) := by decide +kernel
theorem dX8_make_43 : decode cX8_make 43 = .ok (.iconst 3, 1) := by decide +kernel
theorem dX8_make_44 : decode cX8_make 44 = .ok (.invokestatic 55, 3) := by decide +kernel
theorem dX8_make_47 : decode cX8_make 47 = .ok (.ifCond .eq 6, 3) := by decide +kernel
theorem dX8_make_50 : decode cX8_make 50 = .ok (.bipush (-3), 2) := by decide +kernel
theorem dX8_make_52 : decode cX8_make 52 = .ok (.ireturn, 1) := by decide +kernel
theorem dX8_make_53 : decode cX8_make 53 = .ok (.aload_n 0, 1) := by decide +kernel
theorem dX8_make_54 : decode cX8_make 54 = .ok (.getfield 19, 3) := by decide +kernel
theorem dX8_make_57 : decode cX8_make 57 = .ok (.getfield 59, 3) := by decide +kernel
theorem dX8_make_60 : decode cX8_make 60 = .ok (.iload_n 1, 1) := by decide +kernel
theorem dX8_make_61 : decode cX8_make 61 = .ok (.aaload, 1) := by decide +kernel
theorem dX8_make_62 : decode cX8_make 62 = .ok (.astore 6, 2) := by decide +kernel
theorem dX8_make_64 : decode cX8_make 64 = .ok (.aload 6, 2) := by decide +kernel
theorem dX8_make_66 : decode cX8_make 66 = .ok (.iload_n 2, 1) := by decide +kernel
theorem dX8_make_67 : decode cX8_make 67 = .ok (.putfield 63, 3) := by decide +kernel
theorem dX8_make_70 : decode cX8_make 70 = .ok (.aload 6, 2) := by decide +kernel
theorem dX8_make_72 : decode cX8_make 72 = .ok (.iload_n 3, 1) := by decide +kernel
theorem dX8_make_73 : decode cX8_make 73 = .ok (.putfield 69, 3) := by decide +kernel
theorem dX8_make_76 : decode cX8_make 76 = .ok (.aload 6, 2) := by decide +kernel
theorem dX8_make_78 : decode cX8_make 78 = .ok (.iload 4, 2) := by decide +kernel
theorem dX8_make_80 : decode cX8_make 80 = .ok (.putfield 72, 3) := by decide +kernel
theorem dX8_make_83 : decode cX8_make 83 = .ok (.aload 6, 2) := by decide +kernel
theorem dX8_make_85 : decode cX8_make 85 = .ok (.iload 5, 2) := by decide +kernel
theorem dX8_make_87 : decode cX8_make 87 = .ok (.putfield 75, 3) := by decide +kernel
theorem dX8_make_90 : decode cX8_make 90 = .ok (.iconst 1, 1) := by decide +kernel
theorem dX8_make_91 : decode cX8_make 91 = .ok (.ireturn, 1) := by decide +kernel
theorem dX8_write_0 : decode cX8_write 0 = .ok (.iload_n 3, 1) := by decide +kernel
theorem dX8_write_1 : decode cX8_write 1 = .ok (.iconst 1, 1) := by decide +kernel
theorem dX8_write_2 : decode cX8_write 2 = .ok (.bipush 8, 2) := by decide +kernel
theorem dX8_write_4 : decode cX8_write 4 = .ok (.invokestatic 55, 3) := by decide +kernel
theorem dX8_write_7 : decode cX8_write 7 = .ok (.ifCond .eq 6, 3) := by decide +kernel
theorem dX8_write_10 : decode cX8_write 10 = .ok (.bipush (-3), 2) := by decide +kernel
theorem dX8_write_12 : decode cX8_write 12 = .ok (.ireturn, 1) := by decide +kernel
theorem dX8_write_13 : decode cX8_write 13 = .ok (.aload_n 0, 1) := by decide +kernel
theorem dX8_write_14 : decode cX8_write 14 = .ok (.getfield 10, 3) := by decide +kernel
theorem dX8_write_17 : decode cX8_write 17 = .ok (.getfield 78, 3) := by decide +kernel
theorem dX8_write_20 : decode cX8_write 20 = .ok (.iload_n 3, 1) := by decide +kernel
theorem dX8_write_21 : decode cX8_write 21 = .ok (.iadd, 1) := by decide +kernel
theorem dX8_write_22 : decode cX8_write 22 = .ok (.sipush 160, 3) := by decide +kernel
theorem dX8_write_25 : decode cX8_write 25 = .ok (.if_icmp .le 6, 3) := by decide +kernel
theorem dX8_write_28 : decode cX8_write 28 = .ok (.bipush (-5), 2) := by decide +kernel
theorem dX8_write_30 : decode cX8_write 30 = .ok (.ireturn, 1) := by decide +kernel
theorem dX8_write_31 : decode cX8_write 31 = .ok (.iconst 0, 1) := by decide +kernel
theorem dX8_write_32 : decode cX8_write 32 = .ok (.istore 4, 2) := by decide +kernel
theorem dX8_write_34 : decode cX8_write 34 = .ok (.iload 4, 2) := by decide +kernel
theorem dX8_write_36 : decode cX8_write 36 = .ok (.iload_n 3, 1) := by decide +kernel
theorem dX8_write_37 : decode cX8_write 37 = .ok (.if_icmp .ge 28, 3) := by decide +kernel
theorem dX8_write_40 : decode cX8_write 40 = .ok (.aload_n 0, 1) := by decide +kernel
theorem dX8_write_41 : decode cX8_write 41 = .ok (.getfield 10, 3) := by decide +kernel
theorem dX8_write_44 : decode cX8_write 44 = .ok (.lload_n 1, 1) := by decide +kernel
theorem dX8_write_45 : decode cX8_write 45 = .ok (.bipush 8, 2) := by decide +kernel
theorem dX8_write_47 : decode cX8_write 47 = .ok (.iload 4, 2) := by decide +kernel
theorem dX8_write_49 : decode cX8_write 49 = .ok (.imul, 1) := by decide +kernel
theorem dX8_write_50 : decode cX8_write 50 = .ok (.lshr, 1) := by decide +kernel
theorem dX8_write_51 : decode cX8_write 51 = .ok (.ldc2_w 81, 3) := by decide +kernel
theorem dX8_write_54 : decode cX8_write 54 = .ok (.land, 1) := by decide +kernel
theorem dX8_write_55 : decode cX8_write 55 = .ok (.l2i, 1) := by decide +kernel
theorem dX8_write_56 : decode cX8_write 56 = .ok (.invokevirtual 83, 3) := by decide +kernel
theorem dX8_write_59 : decode cX8_write 59 = .ok (.iinc 4 1, 3) := by decide +kernel
theorem dX8_write_62 : decode cX8_write 62 = .ok (.goto (-28), 3) := by decide +kernel
theorem dX8_write_65 : decode cX8_write 65 = .ok (.aload_n 0, 1) := by decide +kernel
theorem dX8_write_66 : decode cX8_write 66 = .ok (.getfield 10, 3) := by decide +kernel
theorem dX8_write_69 : decode cX8_write 69 = .ok (.getfield 78, 3) := by decide +kernel
theorem dX8_write_72 : decode cX8_write 72 = .ok (.ireturn, 1) := by decide +kernel
theorem dX8_erase_0 : decode cX8_erase 0 = .ok (.aload_n 0, 1) := by decide +kernel
theorem dX8_erase_1 : decode cX8_erase 1 = .ok (.getfield 10, 3) := by decide +kernel
theorem dX8_erase_4 : decode cX8_erase 4 = .ok (.getfield 78, 3) := by decide +kernel
theorem dX8_erase_7 : decode cX8_erase 7 = .ok (.istore_n 1, 1) := by decide +kernel
theorem dX8_erase_8 : decode cX8_erase 8 = .ok (.aload_n 0, 1) := by decide +kernel
theorem dX8_erase_9 : decode cX8_erase 9 = .ok (.getfield 10, 3) := by decide +kernel
theorem dX8_erase_12 : decode cX8_erase 12 = .ok (.iconst 0, 1) := by decide +kernel
theorem dX8_erase_13 : decode cX8_erase 13 = .ok (.putfield 78, 3) := by decide +kernel
theorem dX8_erase_16 : decode cX8_erase 16 = .ok (.iload_n 1, 1) := by decide +kernel
theorem dX8_erase_17 : decode cX8_erase 17 = .ok (.ireturn, 1) := by decide +kernel
theorem dX8_fault_0 : decode cX8_fault 0 = .ok (.aload_n 0, 1) := by decide +kernel
theorem dX8_fault_1 : decode cX8_fault 1 = .ok (.getfield 10, 3) := by decide +kernel
theorem dX8_fault_4 : decode cX8_fault 4 = .ok (.invokevirtual 87, 3) := by decide +kernel
theorem dX8_fault_7 : decode cX8_fault 7 = .ok (.ireturn, 1) := by decide +kernel
theorem dX8_table_0 : decode cX8_table 0 = .ok (.iload_n 1, 1) := by decide +kernel
theorem dX8_table_1 : decode cX8_table 1 = .ok (.invokestatic 51, 3) := by decide +kernel
theorem dX8_table_4 : decode cX8_table 4 = .ok (.ifCond .eq 6, 3) := by decide +kernel
theorem dX8_table_7 : decode cX8_table 7 = .ok (.bipush (-2), 2) := by decide +kernel
theorem dX8_table_9 : decode cX8_table 9 = .ok (.ireturn, 1) := by decide +kernel
theorem dX8_table_10 : decode cX8_table 10 = .ok (.aload_n 0, 1) := by decide +kernel
theorem dX8_table_11 : decode cX8_table 11 = .ok (.getfield 10, 3) := by decide +kernel
theorem dX8_table_14 : decode cX8_table 14 = .ok (.invokevirtual 87, 3) := by decide +kernel
theorem dX8_table_17 : decode cX8_table 17 = .ok (.iconst (-1), 1) := by decide +kernel
theorem dX8_table_18 : decode cX8_table 18 = .ok (.if_icmp .eq 6, 3) := by decide +kernel
theorem dX8_table_21 : decode cX8_table 21 = .ok (.bipush (-4), 2) := by decide +kernel
theorem dX8_table_23 : decode cX8_table 23 = .ok (.ireturn, 1) := by decide +kernel
theorem dX8_table_24 : decode cX8_table 24 = .ok (.aload_n 0, 1) := by decide +kernel
theorem dX8_table_25 : decode cX8_table 25 = .ok (.getfield 19, 3) := by decide +kernel
theorem dX8_table_28 : decode cX8_table 28 = .ok (.getfield 59, 3) := by decide +kernel
theorem dX8_table_31 : decode cX8_table 31 = .ok (.iload_n 1, 1) := by decide +kernel
theorem dX8_table_32 : decode cX8_table 32 = .ok (.aaload, 1) := by decide +kernel
theorem dX8_table_33 : decode cX8_table 33 = .ok (.astore_n 2, 1) := by decide +kernel
theorem dX8_table_34 : decode cX8_table 34 = .ok (.aload_n 0, 1) := by decide +kernel
theorem dX8_table_35 : decode cX8_table 35 = .ok (.getfield 10, 3) := by decide +kernel
theorem dX8_table_38 : decode cX8_table 38 = .ok (.getfield 91, 3) := by decide +kernel
theorem dX8_table_41 : decode cX8_table 41 = .ok (.astore_n 3, 1) := by decide +kernel
theorem dX8_table_42 : decode cX8_table 42 = .ok (.aload_n 0, 1) := by decide +kernel
theorem dX8_table_43 : decode cX8_table 43 = .ok (.getfield 10, 3) := by decide +kernel
theorem dX8_table_46 : decode cX8_table 46 = .ok (.aload_n 2, 1) := by decide +kernel
theorem dX8_table_47 : decode cX8_table 47 = .ok (.getfield 95, 3) := by decide +kernel
theorem dX8_table_50 : decode cX8_table 50 = .ok (.putfield 91, 3) := by decide +kernel
theorem dX8_table_53 : decode cX8_table 53 = .ok (.aload_n 2, 1) := by decide +kernel
theorem dX8_table_54 : decode cX8_table 54 = .ok (.aload_n 3, 1) := by decide +kernel
theorem dX8_table_55 : decode cX8_table 55 = .ok (.putfield 95, 3) := by decide +kernel
theorem dX8_table_58 : decode cX8_table 58 = .ok (.aload_n 0, 1) := by decide +kernel
theorem dX8_table_59 : decode cX8_table 59 = .ok (.getfield 10, 3) := by decide +kernel
theorem dX8_table_62 : decode cX8_table 62 = .ok (.iconst 0, 1) := by decide +kernel
theorem dX8_table_63 : decode cX8_table 63 = .ok (.putfield 78, 3) := by decide +kernel
theorem dX8_table_66 : decode cX8_table 66 = .ok (.aload_n 3, 1) := by decide +kernel
theorem dX8_table_67 : decode cX8_table 67 = .ok (.getfield 98, 3) := by decide +kernel
theorem dX8_table_70 : decode cX8_table 70 = .ok (.ireturn, 1) := by decide +kernel
theorem dX8_row_0 : decode cX8_row 0 = .ok (.iload_n 2, 1) := by decide +kernel
theorem dX8_row_1 : decode cX8_row 1 = .ok (.iconst 1, 1) := by decide +kernel
theorem dX8_row_2 : decode cX8_row 2 = .ok (.bipush 6, 2) := by decide +kernel
theorem dX8_row_4 : decode cX8_row 4 = .ok (.invokestatic 55, 3) := by decide +kernel
theorem dX8_row_7 : decode cX8_row 7 = .ok (.ifCond .eq 6, 3) := by decide +kernel
theorem dX8_row_10 : decode cX8_row 10 = .ok (.bipush (-3), 2) := by decide +kernel
theorem dX8_row_12 : decode cX8_row 12 = .ok (.ireturn, 1) := by decide +kernel
theorem dX8_row_13 : decode cX8_row 13 = .ok (.aload_n 0, 1) := by decide +kernel
theorem dX8_row_14 : decode cX8_row 14 = .ok (.getfield 19, 3) := by decide +kernel
theorem dX8_row_17 : decode cX8_row 17 = .ok (.iload_n 2, 1) := by decide +kernel
theorem dX8_row_18 : decode cX8_row 18 = .ok (.putfield 103, 3) := by decide +kernel
theorem dX8_row_21 : decode cX8_row 21 = .ok (.iconst 0, 1) := by decide +kernel
theorem dX8_row_22 : decode cX8_row 22 = .ok (.istore_n 3, 1) := by decide +kernel
theorem dX8_row_23 : decode cX8_row 23 = .ok (.iload_n 3, 1) := by decide +kernel
theorem dX8_row_24 : decode cX8_row 24 = .ok (.iload_n 2, 1) := by decide +kernel
theorem dX8_row_25 : decode cX8_row 25 = .ok (.if_icmp .ge 25, 3) := by decide +kernel
theorem dX8_row_28 : decode cX8_row 28 = .ok (.aload_n 0, 1) := by decide +kernel
theorem dX8_row_29 : decode cX8_row 29 = .ok (.getfield 19, 3) := by decide +kernel
theorem dX8_row_32 : decode cX8_row 32 = .ok (.getfield 106, 3) := by decide +kernel
theorem dX8_row_35 : decode cX8_row 35 = .ok (.iload_n 3, 1) := by decide +kernel
theorem dX8_row_36 : decode cX8_row 36 = .ok (.iload_n 1, 1) := by decide +kernel
theorem dX8_row_37 : decode cX8_row 37 = .ok (.iconst 2, 1) := by decide +kernel
theorem dX8_row_38 : decode cX8_row 38 = .ok (.iload_n 3, 1) := by decide +kernel
theorem dX8_row_39 : decode cX8_row 39 = .ok (.imul, 1) := by decide +kernel
theorem dX8_row_40 : decode cX8_row 40 = .ok (.ishr, 1) := by decide +kernel
theorem dX8_row_41 : decode cX8_row 41 = .ok (.iconst 3, 1) := by decide +kernel
theorem dX8_row_42 : decode cX8_row 42 = .ok (.iand, 1) := by decide +kernel
theorem dX8_row_43 : decode cX8_row 43 = .ok (.iastore, 1) := by decide +kernel
theorem dX8_row_44 : decode cX8_row 44 = .ok (.iinc 3 1, 3) := by decide +kernel
theorem dX8_row_47 : decode cX8_row 47 = .ok (.goto (-24), 3) := by decide +kernel
theorem dX8_row_50 : decode cX8_row 50 = .ok (.iconst 1, 1) := by decide +kernel
theorem dX8_row_51 : decode cX8_row 51 = .ok (.ireturn, 1) := by decide +kernel
theorem dX8_set_0 : decode cX8_set 0 = .ok (.iload_n 1, 1) := by decide +kernel
theorem dX8_set_1 : decode cX8_set 1 = .ok (.iconst 0, 1) := by decide +kernel
theorem dX8_set_2 : decode cX8_set 2 = .ok (.iconst 4, 1) := by decide +kernel
theorem dX8_set_3 : decode cX8_set 3 = .ok (.invokestatic 55, 3) := by decide +kernel
theorem dX8_set_6 : decode cX8_set 6 = .ok (.ifCond .ne 20, 3) := by decide +kernel
theorem dX8_set_9 : decode cX8_set 9 = .ok (.iload_n 2, 1) := by decide +kernel
theorem dX8_set_10 : decode cX8_set 10 = .ok (.getstatic 110, 3) := by decide +kernel
theorem dX8_set_13 : decode cX8_set 13 = .ok (.iload_n 1, 1) := by decide +kernel
theorem dX8_set_14 : decode cX8_set 14 = .ok (.iaload, 1) := by decide +kernel
theorem dX8_set_15 : decode cX8_set 15 = .ok (.getstatic 113, 3) := by decide +kernel
theorem dX8_set_18 : decode cX8_set 18 = .ok (.iload_n 1, 1) := by decide +kernel
theorem dX8_set_19 : decode cX8_set 19 = .ok (.iaload, 1) := by decide +kernel
theorem dX8_set_20 : decode cX8_set 20 = .ok (.invokestatic 55, 3) := by decide +kernel
theorem dX8_set_23 : decode cX8_set 23 = .ok (.ifCond .eq 6, 3) := by decide +kernel
theorem dX8_set_26 : decode cX8_set 26 = .ok (.bipush (-3), 2) := by decide +kernel
theorem dX8_set_28 : decode cX8_set 28 = .ok (.ireturn, 1) := by decide +kernel
theorem dX8_set_29 : decode cX8_set 29 = .ok (.aload_n 0, 1) := by decide +kernel
theorem dX8_set_30 : decode cX8_set 30 = .ok (.getfield 19, 3) := by decide +kernel
theorem dX8_set_33 : decode cX8_set 33 = .ok (.getfield 116, 3) := by decide +kernel
theorem dX8_set_36 : decode cX8_set 36 = .ok (.iload_n 1, 1) := by decide +kernel
theorem dX8_set_37 : decode cX8_set 37 = .ok (.iaload, 1) := by decide +kernel
theorem dX8_set_38 : decode cX8_set 38 = .ok (.istore_n 3, 1) := by decide +kernel
theorem dX8_set_39 : decode cX8_set 39 = .ok (.aload_n 0, 1) := by decide +kernel
theorem dX8_set_40 : decode cX8_set 40 = .ok (.getfield 19, 3) := by decide +kernel
theorem dX8_set_43 : decode cX8_set 43 = .ok (.getfield 116, 3) := by decide +kernel
theorem dX8_set_46 : decode cX8_set 46 = .ok (.iload_n 1, 1) := by decide +kernel
theorem dX8_set_47 : decode cX8_set 47 = .ok (.iload_n 2, 1) := by decide +kernel
theorem dX8_set_48 : decode cX8_set 48 = .ok (.iastore, 1) := by decide +kernel
theorem dX8_set_49 : decode cX8_set 49 = .ok (.iload_n 3, 1) := by decide +kernel
theorem dX8_set_50 : decode cX8_set 50 = .ok (.ireturn, 1) := by decide +kernel
theorem dX8_push_0 : decode cX8_push 0 = .ok (.iload_n 1, 1) := by decide +kernel
theorem dX8_push_1 : decode cX8_push 1 = .ok (.iconst 0, 1) := by decide +kernel
theorem dX8_push_2 : decode cX8_push 2 = .ok (.bipush 31, 2) := by decide +kernel
theorem dX8_push_4 : decode cX8_push 4 = .ok (.invokestatic 55, 3) := by decide +kernel
theorem dX8_push_7 : decode cX8_push 7 = .ok (.ifCond .ne 13, 3) := by decide +kernel
theorem dX8_push_10 : decode cX8_push 10 = .ok (.iload_n 2, 1) := by decide +kernel
theorem dX8_push_11 : decode cX8_push 11 = .ok (.bipush (-9), 2) := by decide +kernel
theorem dX8_push_13 : decode cX8_push 13 = .ok (.iconst 5, 1) := by decide +kernel
theorem dX8_push_14 : decode cX8_push 14 = .ok (.invokestatic 55, 3) := by decide +kernel
theorem dX8_push_17 : decode cX8_push 17 = .ok (.ifCond .eq 6, 3) := by decide +kernel
theorem dX8_push_20 : decode cX8_push 20 = .ok (.bipush (-3), 2) := by decide +kernel
theorem dX8_push_22 : decode cX8_push 22 = .ok (.ireturn, 1) := by decide +kernel
theorem dX8_push_23 : decode cX8_push 23 = .ok (.aload_n 0, 1) := by decide +kernel
theorem dX8_push_24 : decode cX8_push 24 = .ok (.getfield 19, 3) := by decide +kernel
theorem dX8_push_27 : decode cX8_push 27 = .ok (.getfield 119, 3) := by decide +kernel
theorem dX8_push_30 : decode cX8_push 30 = .ok (.bipush 8, 2) := by decide +kernel
theorem dX8_push_32 : decode cX8_push 32 = .ok (.if_icmp .lt 6, 3) := by decide +kernel
theorem dX8_push_35 : decode cX8_push 35 = .ok (.bipush (-5), 2) := by decide +kernel
theorem dX8_push_37 : decode cX8_push 37 = .ok (.ireturn, 1) := by decide +kernel
theorem dX8_push_38 : decode cX8_push 38 = .ok (.aload_n 0, 1) := by decide +kernel
theorem dX8_push_39 : decode cX8_push 39 = .ok (.getfield 19, 3) := by decide +kernel
theorem dX8_push_42 : decode cX8_push 42 = .ok (.getfield 122, 3) := by decide +kernel
theorem dX8_push_45 : decode cX8_push 45 = .ok (.aload_n 0, 1) := by decide +kernel
theorem dX8_push_46 : decode cX8_push 46 = .ok (.getfield 19, 3) := by decide +kernel
theorem dX8_push_49 : decode cX8_push 49 = .ok (.getfield 119, 3) := by decide +kernel
theorem dX8_push_52 : decode cX8_push 52 = .ok (.iload_n 1, 1) := by decide +kernel
theorem dX8_push_53 : decode cX8_push 53 = .ok (.iastore, 1) := by decide +kernel
theorem dX8_push_54 : decode cX8_push 54 = .ok (.aload_n 0, 1) := by decide +kernel
theorem dX8_push_55 : decode cX8_push 55 = .ok (.getfield 19, 3) := by decide +kernel
theorem dX8_push_58 : decode cX8_push 58 = .ok (.getfield 125, 3) := by decide +kernel
theorem dX8_push_61 : decode cX8_push 61 = .ok (.aload_n 0, 1) := by decide +kernel
theorem dX8_push_62 : decode cX8_push 62 = .ok (.getfield 19, 3) := by decide +kernel
theorem dX8_push_65 : decode cX8_push 65 = .ok (.getfield 119, 3) := by decide +kernel
theorem dX8_push_68 : decode cX8_push 68 = .ok (.iload_n 2, 1) := by decide +kernel
theorem dX8_push_69 : decode cX8_push 69 = .ok (.iastore, 1) := by decide +kernel
theorem dX8_push_70 : decode cX8_push 70 = .ok (.aload_n 0, 1) := by decide +kernel
theorem dX8_push_71 : decode cX8_push 71 = .ok (.getfield 19, 3) := by decide +kernel
theorem dX8_push_74 : decode cX8_push 74 = .ok (.dup, 1) := by decide +kernel
theorem dX8_push_75 : decode cX8_push 75 = .ok (.getfield 119, 3) := by decide +kernel
theorem dX8_push_78 : decode cX8_push 78 = .ok (.iconst 1, 1) := by decide +kernel
theorem dX8_push_79 : decode cX8_push 79 = .ok (.iadd, 1) := by decide +kernel
theorem dX8_push_80 : decode cX8_push 80 = .ok (.putfield 119, 3) := by decide +kernel
theorem dX8_push_83 : decode cX8_push 83 = .ok (.aload_n 0, 1) := by decide +kernel
theorem dX8_push_84 : decode cX8_push 84 = .ok (.getfield 19, 3) := by decide +kernel
theorem dX8_push_87 : decode cX8_push 87 = .ok (.getfield 119, 3) := by decide +kernel
theorem dX8_push_90 : decode cX8_push 90 = .ok (.ireturn, 1) := by decide +kernel
theorem dX8_calm_0 : decode cX8_calm 0 = .ok (.aload_n 0, 1) := by decide +kernel
theorem dX8_calm_1 : decode cX8_calm 1 = .ok (.getfield 19, 3) := by decide +kernel
theorem dX8_calm_4 : decode cX8_calm 4 = .ok (.getfield 119, 3) := by decide +kernel
theorem dX8_calm_7 : decode cX8_calm 7 = .ok (.istore_n 1, 1) := by decide +kernel
theorem dX8_calm_8 : decode cX8_calm 8 = .ok (.aload_n 0, 1) := by decide +kernel
theorem dX8_calm_9 : decode cX8_calm 9 = .ok (.getfield 19, 3) := by decide +kernel
theorem dX8_calm_12 : decode cX8_calm 12 = .ok (.iconst 0, 1) := by decide +kernel
theorem dX8_calm_13 : decode cX8_calm 13 = .ok (.putfield 119, 3) := by decide +kernel
theorem dX8_calm_16 : decode cX8_calm 16 = .ok (.iload_n 1, 1) := by decide +kernel
theorem dX8_calm_17 : decode cX8_calm 17 = .ok (.ireturn, 1) := by decide +kernel
theorem dX8_lose_0 : decode cX8_lose 0 = .ok (.aload_n 0, 1) := by decide +kernel
theorem dX8_lose_1 : decode cX8_lose 1 = .ok (.getfield 19, 3) := by decide +kernel
theorem dX8_lose_4 : decode cX8_lose 4 = .ok (.iload_n 1, 1) := by decide +kernel
theorem dX8_lose_5 : decode cX8_lose 5 = .ok (.putfield 128, 3) := by decide +kernel
theorem dX8_lose_8 : decode cX8_lose 8 = .ok (.iconst 1, 1) := by decide +kernel
theorem dX8_lose_9 : decode cX8_lose 9 = .ok (.ireturn, 1) := by decide +kernel
theorem dX8_hill_0 : decode cX8_hill 0 = .ok (.iload_n 1, 1) := by decide +kernel
theorem dX8_hill_1 : decode cX8_hill 1 = .ok (.iload_n 2, 1) := by decide +kernel
theorem dX8_hill_2 : decode cX8_hill 2 = .ok (.invokestatic 131, 3) := by decide +kernel
theorem dX8_hill_5 : decode cX8_hill 5 = .ok (.ifCond .ne 24, 3) := by decide +kernel
theorem dX8_hill_8 : decode cX8_hill 8 = .ok (.iload_n 3, 1) := by decide +kernel
theorem dX8_hill_9 : decode cX8_hill 9 = .ok (.iconst 0, 1) := by decide +kernel
theorem dX8_hill_10 : decode cX8_hill 10 = .ok (.bipush 40, 2) := by decide +kernel
theorem dX8_hill_12 : decode cX8_hill 12 = .ok (.invokestatic 55, 3) := by decide +kernel
theorem dX8_hill_15 : decode cX8_hill 15 = .ok (.ifCond .ne 14, 3) := by decide +kernel
theorem dX8_hill_18 : decode cX8_hill 18 = .ok (.iload 4, 2) := by decide +kernel
theorem dX8_hill_20 : decode cX8_hill 20 = .ok (.iconst 0, 1) := by decide +kernel
theorem dX8_hill_21 : decode cX8_hill 21 = .ok (.bipush 40, 2) := by decide +kernel
theorem dX8_hill_23 : decode cX8_hill 23 = .ok (.invokestatic 55, 3) := by decide +kernel
theorem dX8_hill_26 : decode cX8_hill 26 = .ok (.ifCond .eq 6, 3) := by decide +kernel
theorem dX8_hill_29 : decode cX8_hill 29 = .ok (.bipush (-3), 2) := by decide +kernel
theorem dX8_hill_31 : decode cX8_hill 31 = .ok (.ireturn, 1) := by decide +kernel
theorem dX8_hill_32 : decode cX8_hill 32 = .ok (.aload_n 0, 1) := by decide +kernel
theorem dX8_hill_33 : decode cX8_hill 33 = .ok (.getfield 19, 3) := by decide +kernel
theorem dX8_hill_36 : decode cX8_hill 36 = .ok (.getfield 135, 3) := by decide +kernel
theorem dX8_hill_39 : decode cX8_hill 39 = .ok (.iconst 2, 1) := by decide +kernel
theorem dX8_hill_40 : decode cX8_hill 40 = .ok (.if_icmp .lt 6, 3) := by decide +kernel
theorem dX8_hill_43 : decode cX8_hill 43 = .ok (.bipush (-5), 2) := by decide +kernel
theorem dX8_hill_45 : decode cX8_hill 45 = .ok (.ireturn, 1) := by decide +kernel
theorem dX8_hill_46 : decode cX8_hill 46 = .ok (.aload_n 0, 1) := by decide +kernel
theorem dX8_hill_47 : decode cX8_hill 47 = .ok (.getfield 19, 3) := by decide +kernel
theorem dX8_hill_50 : decode cX8_hill 50 = .ok (.getfield 138, 3) := by decide +kernel
theorem dX8_hill_53 : decode cX8_hill 53 = .ok (.aload_n 0, 1) := by decide +kernel
theorem dX8_hill_54 : decode cX8_hill 54 = .ok (.getfield 19, 3) := by decide +kernel
theorem dX8_hill_57 : decode cX8_hill 57 = .ok (.getfield 135, 3) := by decide +kernel
theorem dX8_hill_60 : decode cX8_hill 60 = .ok (.iload_n 1, 1) := by decide +kernel
theorem dX8_hill_61 : decode cX8_hill 61 = .ok (.iastore, 1) := by decide +kernel
theorem dX8_hill_62 : decode cX8_hill 62 = .ok (.aload_n 0, 1) := by decide +kernel
theorem dX8_hill_63 : decode cX8_hill 63 = .ok (.getfield 19, 3) := by decide +kernel
theorem dX8_hill_66 : decode cX8_hill 66 = .ok (.getfield 141, 3) := by decide +kernel
theorem dX8_hill_69 : decode cX8_hill 69 = .ok (.aload_n 0, 1) := by decide +kernel
theorem dX8_hill_70 : decode cX8_hill 70 = .ok (.getfield 19, 3) := by decide +kernel
theorem dX8_hill_73 : decode cX8_hill 73 = .ok (.getfield 135, 3) := by decide +kernel
theorem dX8_hill_76 : decode cX8_hill 76 = .ok (.iload_n 2, 1) := by decide +kernel
theorem dX8_hill_77 : decode cX8_hill 77 = .ok (.iastore, 1) := by decide +kernel
theorem dX8_hill_78 : decode cX8_hill 78 = .ok (.aload_n 0, 1) := by decide +kernel
theorem dX8_hill_79 : decode cX8_hill 79 = .ok (.getfield 19, 3) := by decide +kernel
theorem dX8_hill_82 : decode cX8_hill 82 = .ok (.getfield 144, 3) := by decide +kernel
theorem dX8_hill_85 : decode cX8_hill 85 = .ok (.aload_n 0, 1) := by decide +kernel
theorem dX8_hill_86 : decode cX8_hill 86 = .ok (.getfield 19, 3) := by decide +kernel
theorem dX8_hill_89 : decode cX8_hill 89 = .ok (.getfield 135, 3) := by decide +kernel
theorem dX8_hill_92 : decode cX8_hill 92 = .ok (.iload_n 3, 1) := by decide +kernel
theorem dX8_hill_93 : decode cX8_hill 93 = .ok (.iastore, 1) := by decide +kernel
theorem dX8_hill_94 : decode cX8_hill 94 = .ok (.aload_n 0, 1) := by decide +kernel
theorem dX8_hill_95 : decode cX8_hill 95 = .ok (.getfield 19, 3) := by decide +kernel
theorem dX8_hill_98 : decode cX8_hill 98 = .ok (.getfield 147, 3) := by decide +kernel
theorem dX8_hill_101 : decode cX8_hill 101 = .ok (.aload_n 0, 1) := by decide +kernel
theorem dX8_hill_102 : decode cX8_hill 102 = .ok (.getfield 19, 3) := by decide +kernel
theorem dX8_hill_105 : decode cX8_hill 105 = .ok (.getfield 135, 3) := by decide +kernel
theorem dX8_hill_108 : decode cX8_hill 108 = .ok (.iload 4, 2) := by decide +kernel
theorem dX8_hill_110 : decode cX8_hill 110 = .ok (.iastore, 1) := by decide +kernel
theorem dX8_hill_111 : decode cX8_hill 111 = .ok (.aload_n 0, 1) := by decide +kernel
theorem dX8_hill_112 : decode cX8_hill 112 = .ok (.getfield 19, 3) := by decide +kernel
theorem dX8_hill_115 : decode cX8_hill 115 = .ok (.dup, 1) := by decide +kernel
theorem dX8_hill_116 : decode cX8_hill 116 = .ok (.getfield 135, 3) := by decide +kernel
theorem dX8_hill_119 : decode cX8_hill 119 = .ok (.iconst 1, 1) := by decide +kernel
theorem dX8_hill_120 : decode cX8_hill 120 = .ok (.iadd, 1) := by decide +kernel
theorem dX8_hill_121 : decode cX8_hill 121 = .ok (.putfield 135, 3) := by decide +kernel
theorem dX8_hill_124 : decode cX8_hill 124 = .ok (.aload_n 0, 1) := by decide +kernel
theorem dX8_hill_125 : decode cX8_hill 125 = .ok (.getfield 19, 3) := by decide +kernel
theorem dX8_hill_128 : decode cX8_hill 128 = .ok (.getfield 135, 3) := by decide +kernel
theorem dX8_hill_131 : decode cX8_hill 131 = .ok (.ireturn, 1) := by decide +kernel
theorem dX8_stranger_0 : decode cX8_stranger 0 = .ok (.aload_n 0, 1) := by decide +kernel
theorem dX8_stranger_1 : decode cX8_stranger 1 = .ok (.iload_n 1, 1) := by decide +kernel
theorem dX8_stranger_2 : decode cX8_stranger 2 = .ok (.invokevirtual 150, 3) := by decide +kernel
theorem dX8_stranger_5 : decode cX8_stranger 5 = .ok (.ifCond .eq 6, 3) := by decide +kernel
theorem dX8_stranger_8 : decode cX8_stranger 8 = .ok (.bipush (-2), 2) := by decide +kernel
theorem dX8_stranger_10 : decode cX8_stranger 10 = .ok (.ireturn, 1) := by decide +kernel
theorem dX8_stranger_11 : decode cX8_stranger 11 = .ok (.iload_n 2, 1) := by decide +kernel
theorem dX8_stranger_12 : decode cX8_stranger 12 = .ok (.iconst 0, 1) := by decide +kernel
theorem dX8_stranger_13 : decode cX8_stranger 13 = .ok (.bipush 31, 2) := by decide +kernel
theorem dX8_stranger_15 : decode cX8_stranger 15 = .ok (.invokestatic 55, 3) := by decide +kernel
theorem dX8_stranger_18 : decode cX8_stranger 18 = .ok (.ifCond .ne 24, 3) := by decide +kernel
theorem dX8_stranger_21 : decode cX8_stranger 21 = .ok (.iload_n 3, 1) := by decide +kernel
theorem dX8_stranger_22 : decode cX8_stranger 22 = .ok (.iload_n 2, 1) := by decide +kernel
theorem dX8_stranger_23 : decode cX8_stranger 23 = .ok (.bipush 31, 2) := by decide +kernel
theorem dX8_stranger_25 : decode cX8_stranger 25 = .ok (.invokestatic 55, 3) := by decide +kernel
theorem dX8_stranger_28 : decode cX8_stranger 28 = .ok (.ifCond .ne 14, 3) := by decide +kernel
theorem dX8_stranger_31 : decode cX8_stranger 31 = .ok (.iload 4, 2) := by decide +kernel
theorem dX8_stranger_33 : decode cX8_stranger 33 = .ok (.iconst 0, 1) := by decide +kernel
theorem dX8_stranger_34 : decode cX8_stranger 34 = .ok (.bipush 40, 2) := by decide +kernel
theorem dX8_stranger_36 : decode cX8_stranger 36 = .ok (.invokestatic 55, 3) := by decide +kernel
theorem dX8_stranger_39 : decode cX8_stranger 39 = .ok (.ifCond .eq 6, 3) := by decide +kernel
theorem dX8_stranger_42 : decode cX8_stranger 42 = .ok (.bipush (-3), 2) := by decide +kernel
theorem dX8_stranger_44 : decode cX8_stranger 44 = .ok (.ireturn, 1) := by decide +kernel
theorem dX8_stranger_45 : decode cX8_stranger 45 = .ok (.aload_n 0, 1) := by decide +kernel
theorem dX8_stranger_46 : decode cX8_stranger 46 = .ok (.getfield 19, 3) := by decide +kernel
theorem dX8_stranger_49 : decode cX8_stranger 49 = .ok (.iload_n 1, 1) := by decide +kernel
theorem dX8_stranger_50 : decode cX8_stranger 50 = .ok (.putfield 153, 3) := by decide +kernel
theorem dX8_stranger_53 : decode cX8_stranger 53 = .ok (.aload_n 0, 1) := by decide +kernel
theorem dX8_stranger_54 : decode cX8_stranger 54 = .ok (.getfield 19, 3) := by decide +kernel
theorem dX8_stranger_57 : decode cX8_stranger 57 = .ok (.iload_n 2, 1) := by decide +kernel
theorem dX8_stranger_58 : decode cX8_stranger 58 = .ok (.putfield 156, 3) := by decide +kernel
theorem dX8_stranger_61 : decode cX8_stranger 61 = .ok (.aload_n 0, 1) := by decide +kernel
theorem dX8_stranger_62 : decode cX8_stranger 62 = .ok (.getfield 19, 3) := by decide +kernel
theorem dX8_stranger_65 : decode cX8_stranger 65 = .ok (.iload_n 3, 1) := by decide +kernel
theorem dX8_stranger_66 : decode cX8_stranger 66 = .ok (.putfield 159, 3) := by decide +kernel
theorem dX8_stranger_69 : decode cX8_stranger 69 = .ok (.aload_n 0, 1) := by decide +kernel
theorem dX8_stranger_70 : decode cX8_stranger 70 = .ok (.getfield 19, 3) := by decide +kernel
theorem dX8_stranger_73 : decode cX8_stranger 73 = .ok (.iload 4, 2) := by decide +kernel
theorem dX8_stranger_75 : decode cX8_stranger 75 = .ok (.putfield 162, 3) := by decide +kernel
theorem dX8_stranger_78 : decode cX8_stranger 78 = .ok (.iconst 1, 1) := by decide +kernel
theorem dX8_stranger_79 : decode cX8_stranger 79 = .ok (.ireturn, 1) := by decide +kernel
theorem dX8_at_0 : decode cX8_at 0 = .ok (.aload_n 0, 1) := by decide +kernel
theorem dX8_at_1 : decode cX8_at 1 = .ok (.iload_n 1, 1) := by decide +kernel
theorem dX8_at_2 : decode cX8_at 2 = .ok (.invokevirtual 165, 3) := by decide +kernel
theorem dX8_at_5 : decode cX8_at 5 = .ok (.ifCond .ne 22, 3) := by decide +kernel
theorem dX8_at_8 : decode cX8_at 8 = .ok (.iload_n 2, 1) := by decide +kernel
theorem dX8_at_9 : decode cX8_at 9 = .ok (.iconst 0, 1) := by decide +kernel
theorem dX8_at_10 : decode cX8_at 10 = .ok (.bipush 31, 2) := by decide +kernel
theorem dX8_at_12 : decode cX8_at 12 = .ok (.invokestatic 55, 3) := by decide +kernel
theorem dX8_at_15 : decode cX8_at 15 = .ok (.ifCond .ne 12, 3) := by decide +kernel
theorem dX8_at_18 : decode cX8_at 18 = .ok (.iload_n 3, 1) := by decide +kernel
theorem dX8_at_19 : decode cX8_at 19 = .ok (.iconst 0, 1) := by decide +kernel
theorem dX8_at_20 : decode cX8_at 20 = .ok (.iconst 5, 1) := by decide +kernel
theorem dX8_at_21 : decode cX8_at 21 = .ok (.invokestatic 55, 3) := by decide +kernel
theorem dX8_at_24 : decode cX8_at 24 = .ok (.ifCond .eq 6, 3) := by decide +kernel
theorem dX8_at_27 : decode cX8_at 27 = .ok (.ldc 168, 2) := by decide +kernel
theorem dX8_at_29 : decode cX8_at 29 = .ok (.ireturn, 1) := by decide +kernel
theorem dX8_at_30 : decode cX8_at 30 = .ok (.aload_n 0, 1) := by decide +kernel
theorem dX8_at_31 : decode cX8_at 31 = .ok (.invokevirtual 169, 3) := by decide +kernel
theorem dX8_at_34 : decode cX8_at 34 = .ok (.iload_n 1, 1) := by decide +kernel
theorem dX8_at_35 : decode cX8_at 35 = .ok (.ifCond .ne 7, 3) := by decide +kernel
theorem dX8_at_38 : decode cX8_at 38 = .ok (.iconst 1, 1) := by decide +kernel
theorem dX8_at_39 : decode cX8_at 39 = .ok (.goto 4, 3) := by decide +kernel
theorem dX8_at_42 : decode cX8_at 42 = .ok (.iconst 0, 1) := by decide +kernel
theorem dX8_at_43 : decode cX8_at 43 = .ok (.istore 4, 2) := by decide +kernel
theorem dX8_at_45 : decode cX8_at 45 = .ok (.iload_n 3, 1) := by decide +kernel
theorem dX8_at_46 : decode cX8_at 46 = .ok (.tableswitch 116 0 4 #[34, 48, 71, 85, 97], 34) := by decide +kernel
theorem dX8_at_80 : decode cX8_at 80 = .ok (.aload_n 0, 1) := by decide +kernel
theorem dX8_at_81 : decode cX8_at 81 = .ok (.getfield 26, 3) := by decide +kernel
theorem dX8_at_84 : decode cX8_at 84 = .ok (.getfield 172, 3) := by decide +kernel
theorem dX8_at_87 : decode cX8_at 87 = .ok (.iload_n 1, 1) := by decide +kernel
theorem dX8_at_88 : decode cX8_at 88 = .ok (.aaload, 1) := by decide +kernel
theorem dX8_at_89 : decode cX8_at 89 = .ok (.iload_n 2, 1) := by decide +kernel
theorem dX8_at_90 : decode cX8_at 90 = .ok (.iconst 1, 1) := by decide +kernel
theorem dX8_at_91 : decode cX8_at 91 = .ok (.iadd, 1) := by decide +kernel
theorem dX8_at_92 : decode cX8_at 92 = .ok (.iaload, 1) := by decide +kernel
theorem dX8_at_93 : decode cX8_at 93 = .ok (.ireturn, 1) := by decide +kernel
theorem dX8_at_94 : decode cX8_at 94 = .ok (.iload 4, 2) := by decide +kernel
theorem dX8_at_96 : decode cX8_at 96 = .ok (.ifCond .eq 7, 3) := by decide +kernel
theorem dX8_at_99 : decode cX8_at 99 = .ok (.iconst (-1), 1) := by decide +kernel
theorem dX8_at_100 : decode cX8_at 100 = .ok (.goto 16, 3) := by decide +kernel
theorem dX8_at_103 : decode cX8_at 103 = .ok (.aload_n 0, 1) := by decide +kernel
theorem dX8_at_104 : decode cX8_at 104 = .ok (.getfield 26, 3) := by decide +kernel
theorem dX8_at_107 : decode cX8_at 107 = .ok (.getfield 176, 3) := by decide +kernel
theorem dX8_at_110 : decode cX8_at 110 = .ok (.iload_n 1, 1) := by decide +kernel
theorem dX8_at_111 : decode cX8_at 111 = .ok (.aaload, 1) := by decide +kernel
theorem dX8_at_112 : decode cX8_at 112 = .ok (.iload_n 2, 1) := by decide +kernel
theorem dX8_at_113 : decode cX8_at 113 = .ok (.iconst 1, 1) := by decide +kernel
theorem dX8_at_114 : decode cX8_at 114 = .ok (.iadd, 1) := by decide +kernel
theorem dX8_at_115 : decode cX8_at 115 = .ok (.iaload, 1) := by decide +kernel
theorem dX8_at_116 : decode cX8_at 116 = .ok (.ireturn, 1) := by decide +kernel
theorem dX8_at_117 : decode cX8_at 117 = .ok (.aload_n 0, 1) := by decide +kernel
theorem dX8_at_118 : decode cX8_at 118 = .ok (.getfield 26, 3) := by decide +kernel
theorem dX8_at_121 : decode cX8_at 121 = .ok (.getfield 179, 3) := by decide +kernel
theorem dX8_at_124 : decode cX8_at 124 = .ok (.iload_n 1, 1) := by decide +kernel
theorem dX8_at_125 : decode cX8_at 125 = .ok (.aaload, 1) := by decide +kernel
theorem dX8_at_126 : decode cX8_at 126 = .ok (.iload_n 2, 1) := by decide +kernel
theorem dX8_at_127 : decode cX8_at 127 = .ok (.iconst 1, 1) := by decide +kernel
theorem dX8_at_128 : decode cX8_at 128 = .ok (.iadd, 1) := by decide +kernel
theorem dX8_at_129 : decode cX8_at 129 = .ok (.iaload, 1) := by decide +kernel
theorem dX8_at_130 : decode cX8_at 130 = .ok (.ireturn, 1) := by decide +kernel
theorem dX8_at_131 : decode cX8_at 131 = .ok (.aload_n 0, 1) := by decide +kernel
theorem dX8_at_132 : decode cX8_at 132 = .ok (.getfield 26, 3) := by decide +kernel
theorem dX8_at_135 : decode cX8_at 135 = .ok (.getfield 182, 3) := by decide +kernel
theorem dX8_at_138 : decode cX8_at 138 = .ok (.iload_n 1, 1) := by decide +kernel
theorem dX8_at_139 : decode cX8_at 139 = .ok (.aaload, 1) := by decide +kernel
theorem dX8_at_140 : decode cX8_at 140 = .ok (.iload_n 2, 1) := by decide +kernel
theorem dX8_at_141 : decode cX8_at 141 = .ok (.iaload, 1) := by decide +kernel
theorem dX8_at_142 : decode cX8_at 142 = .ok (.ireturn, 1) := by decide +kernel
theorem dX8_at_143 : decode cX8_at 143 = .ok (.iload 4, 2) := by decide +kernel
theorem dX8_at_145 : decode cX8_at 145 = .ok (.ifCond .eq 7, 3) := by decide +kernel
theorem dX8_at_148 : decode cX8_at 148 = .ok (.iconst 0, 1) := by decide +kernel
theorem dX8_at_149 : decode cX8_at 149 = .ok (.goto 12, 3) := by decide +kernel
theorem dX8_at_152 : decode cX8_at 152 = .ok (.aload_n 0, 1) := by decide +kernel
theorem dX8_at_153 : decode cX8_at 153 = .ok (.getfield 26, 3) := by decide +kernel
theorem dX8_at_156 : decode cX8_at 156 = .ok (.getfield 185, 3) := by decide +kernel
theorem dX8_at_159 : decode cX8_at 159 = .ok (.iload_n 2, 1) := by decide +kernel
theorem dX8_at_160 : decode cX8_at 160 = .ok (.iaload, 1) := by decide +kernel
theorem dX8_at_161 : decode cX8_at 161 = .ok (.ireturn, 1) := by decide +kernel
theorem dX8_at_162 : decode cX8_at 162 = .ok (.iload 4, 2) := by decide +kernel
theorem dX8_at_164 : decode cX8_at 164 = .ok (.ifCond .eq 8, 3) := by decide +kernel
theorem dX8_at_167 : decode cX8_at 167 = .ok (.bipush 99, 2) := by decide +kernel
theorem dX8_at_169 : decode cX8_at 169 = .ok (.goto 12, 3) := by decide +kernel
theorem dX8_at_172 : decode cX8_at 172 = .ok (.aload_n 0, 1) := by decide +kernel
theorem dX8_at_173 : decode cX8_at 173 = .ok (.getfield 26, 3) := by decide +kernel
theorem dX8_at_176 : decode cX8_at 176 = .ok (.getfield 188, 3) := by decide +kernel
theorem dX8_at_179 : decode cX8_at 179 = .ok (.iload_n 2, 1) := by decide +kernel
theorem dX8_at_180 : decode cX8_at 180 = .ok (.iaload, 1) := by decide +kernel
theorem dX8_at_181 : decode cX8_at 181 = .ok (.ireturn, 1) := by decide +kernel
theorem dX8_touch_0 : decode cX8_touch 0 = .ok (.iload_n 1, 1) := by decide +kernel
theorem dX8_touch_1 : decode cX8_touch 1 = .ok (.iconst 0, 1) := by decide +kernel
theorem dX8_touch_2 : decode cX8_touch 2 = .ok (.iconst 1, 1) := by decide +kernel
theorem dX8_touch_3 : decode cX8_touch 3 = .ok (.invokestatic 55, 3) := by decide +kernel
theorem dX8_touch_6 : decode cX8_touch 6 = .ok (.ifCond .eq 6, 3) := by decide +kernel
theorem dX8_touch_9 : decode cX8_touch 9 = .ok (.bipush (-3), 2) := by decide +kernel
theorem dX8_touch_11 : decode cX8_touch 11 = .ok (.ireturn, 1) := by decide +kernel
theorem dX8_touch_12 : decode cX8_touch 12 = .ok (.aload_n 0, 1) := by decide +kernel
theorem dX8_touch_13 : decode cX8_touch 13 = .ok (.invokevirtual 169, 3) := by decide +kernel
theorem dX8_touch_16 : decode cX8_touch 16 = .ok (.iload_n 1, 1) := by decide +kernel
theorem dX8_touch_17 : decode cX8_touch 17 = .ok (.ifCond .ne 13, 3) := by decide +kernel
theorem dX8_touch_20 : decode cX8_touch 20 = .ok (.aload_n 0, 1) := by decide +kernel
theorem dX8_touch_21 : decode cX8_touch 21 = .ok (.getfield 26, 3) := by decide +kernel
theorem dX8_touch_24 : decode cX8_touch 24 = .ok (.getfield 191, 3) := by decide +kernel
theorem dX8_touch_27 : decode cX8_touch 27 = .ok (.goto 10, 3) := by decide +kernel
theorem dX8_touch_30 : decode cX8_touch 30 = .ok (.aload_n 0, 1) := by decide +kernel
theorem dX8_touch_31 : decode cX8_touch 31 = .ok (.getfield 26, 3) := by decide +kernel
theorem dX8_touch_34 : decode cX8_touch 34 = .ok (.getfield 194, 3) := by decide +kernel
theorem dX8_touch_37 : decode cX8_touch 37 = .ok (.ireturn, 1) := by decide +kernel
theorem dX8_least_0 : decode cX8_least 0 = .ok (.aload_n 0, 1) := by decide +kernel
theorem dX8_least_1 : decode cX8_least 1 = .ok (.iload_n 1, 1) := by decide +kernel
theorem dX8_least_2 : decode cX8_least 2 = .ok (.invokevirtual 150, 3) := by decide +kernel
theorem dX8_least_5 : decode cX8_least 5 = .ok (.ifCond .eq 6, 3) := by decide +kernel
theorem dX8_least_8 : decode cX8_least 8 = .ok (.ldc 168, 2) := by decide +kernel
theorem dX8_least_10 : decode cX8_least 10 = .ok (.ireturn, 1) := by decide +kernel
theorem dX8_least_11 : decode cX8_least 11 = .ok (.aload_n 0, 1) := by decide +kernel
theorem dX8_least_12 : decode cX8_least 12 = .ok (.invokevirtual 169, 3) := by decide +kernel
theorem dX8_least_15 : decode cX8_least 15 = .ok (.aload_n 0, 1) := by decide +kernel
theorem dX8_least_16 : decode cX8_least 16 = .ok (.getfield 26, 3) := by decide +kernel
theorem dX8_least_19 : decode cX8_least 19 = .ok (.iload_n 1, 1) := by decide +kernel
theorem dX8_least_20 : decode cX8_least 20 = .ok (.invokevirtual 197, 3) := by decide +kernel
theorem dX8_least_23 : decode cX8_least 23 = .ok (.ireturn, 1) := by decide +kernel
theorem dX8_dip_0 : decode cX8_dip 0 = .ok (.aload_n 0, 1) := by decide +kernel
theorem dX8_dip_1 : decode cX8_dip 1 = .ok (.iload_n 1, 1) := by decide +kernel
theorem dX8_dip_2 : decode cX8_dip 2 = .ok (.invokevirtual 165, 3) := by decide +kernel
theorem dX8_dip_5 : decode cX8_dip 5 = .ok (.ifCond .eq 6, 3) := by decide +kernel
theorem dX8_dip_8 : decode cX8_dip 8 = .ok (.bipush (-2), 2) := by decide +kernel
theorem dX8_dip_10 : decode cX8_dip 10 = .ok (.ireturn, 1) := by decide +kernel
theorem dX8_dip_11 : decode cX8_dip 11 = .ok (.aload_n 0, 1) := by decide +kernel
theorem dX8_dip_12 : decode cX8_dip 12 = .ok (.invokevirtual 169, 3) := by decide +kernel
theorem dX8_dip_15 : decode cX8_dip 15 = .ok (.aload_n 0, 1) := by decide +kernel
theorem dX8_dip_16 : decode cX8_dip 16 = .ok (.getfield 26, 3) := by decide +kernel
theorem dX8_dip_19 : decode cX8_dip 19 = .ok (.iload_n 1, 1) := by decide +kernel
theorem dX8_dip_20 : decode cX8_dip 20 = .ok (.invokevirtual 201, 3) := by decide +kernel
theorem dX8_dip_23 : decode cX8_dip 23 = .ok (.ireturn, 1) := by decide +kernel
theorem dX8_grows_0 : decode cX8_grows 0 = .ok (.aload_n 0, 1) := by decide +kernel
theorem dX8_grows_1 : decode cX8_grows 1 = .ok (.invokevirtual 169, 3) := by decide +kernel
theorem dX8_grows_4 : decode cX8_grows 4 = .ok (.iconst 0, 1) := by decide +kernel
theorem dX8_grows_5 : decode cX8_grows 5 = .ok (.istore_n 1, 1) := by decide +kernel
theorem dX8_grows_6 : decode cX8_grows 6 = .ok (.iconst 1, 1) := by decide +kernel
theorem dX8_grows_7 : decode cX8_grows 7 = .ok (.istore_n 2, 1) := by decide +kernel
theorem dX8_grows_8 : decode cX8_grows 8 = .ok (.iload_n 2, 1) := by decide +kernel
theorem dX8_grows_9 : decode cX8_grows 9 = .ok (.aload_n 0, 1) := by decide +kernel
theorem dX8_grows_10 : decode cX8_grows 10 = .ok (.getfield 19, 3) := by decide +kernel
theorem dX8_grows_13 : decode cX8_grows 13 = .ok (.getfield 103, 3) := by decide +kernel
theorem dX8_grows_16 : decode cX8_grows 16 = .ok (.if_icmp .ge 36, 3) := by decide +kernel
theorem dX8_grows_19 : decode cX8_grows 19 = .ok (.aload_n 0, 1) := by decide +kernel
theorem dX8_grows_20 : decode cX8_grows 20 = .ok (.getfield 26, 3) := by decide +kernel
theorem dX8_grows_23 : decode cX8_grows 23 = .ok (.iload_n 2, 1) := by decide +kernel
theorem dX8_grows_24 : decode cX8_grows 24 = .ok (.invokevirtual 201, 3) := by decide +kernel
theorem dX8_grows_27 : decode cX8_grows 27 = .ok (.aload_n 0, 1) := by decide +kernel
theorem dX8_grows_28 : decode cX8_grows 28 = .ok (.getfield 26, 3) := by decide +kernel
theorem dX8_grows_31 : decode cX8_grows 31 = .ok (.iload_n 2, 1) := by decide +kernel
theorem dX8_grows_32 : decode cX8_grows 32 = .ok (.iconst 1, 1) := by decide +kernel
theorem dX8_grows_33 : decode cX8_grows 33 = .ok (.isub, 1) := by decide +kernel
theorem dX8_grows_34 : decode cX8_grows 34 = .ok (.invokevirtual 201, 3) := by decide +kernel
theorem dX8_grows_37 : decode cX8_grows 37 = .ok (.if_icmp .le 9, 3) := by decide +kernel
theorem dX8_grows_40 : decode cX8_grows 40 = .ok (.iload_n 1, 1) := by decide +kernel
theorem dX8_grows_41 : decode cX8_grows 41 = .ok (.iconst 1, 1) := by decide +kernel
theorem dX8_grows_42 : decode cX8_grows 42 = .ok (.iload_n 2, 1) := by decide +kernel
theorem dX8_grows_43 : decode cX8_grows 43 = .ok (.ishl, 1) := by decide +kernel
theorem dX8_grows_44 : decode cX8_grows 44 = .ok (.ior, 1) := by decide +kernel
theorem dX8_grows_45 : decode cX8_grows 45 = .ok (.istore_n 1, 1) := by decide +kernel
theorem dX8_grows_46 : decode cX8_grows 46 = .ok (.iinc 2 1, 3) := by decide +kernel
theorem dX8_grows_49 : decode cX8_grows 49 = .ok (.goto (-41), 3) := by decide +kernel
theorem dX8_grows_52 : decode cX8_grows 52 = .ok (.iload_n 1, 1) := by decide +kernel
theorem dX8_grows_53 : decode cX8_grows 53 = .ok (.ireturn, 1) := by decide +kernel
theorem dX8_safe_0 : decode cX8_safe 0 = .ok (.iload_n 1, 1) := by decide +kernel
theorem dX8_safe_1 : decode cX8_safe 1 = .ok (.iconst 1, 1) := by decide +kernel
theorem dX8_safe_2 : decode cX8_safe 2 = .ok (.bipush 99, 2) := by decide +kernel
theorem dX8_safe_4 : decode cX8_safe 4 = .ok (.invokestatic 55, 3) := by decide +kernel
theorem dX8_safe_7 : decode cX8_safe 7 = .ok (.ifCond .ne 11, 3) := by decide +kernel
theorem dX8_safe_10 : decode cX8_safe 10 = .ok (.iload_n 2, 1) := by decide +kernel
theorem dX8_safe_11 : decode cX8_safe 11 = .ok (.iload_n 3, 1) := by decide +kernel
theorem dX8_safe_12 : decode cX8_safe 12 = .ok (.invokestatic 204, 3) := by decide +kernel
theorem dX8_safe_15 : decode cX8_safe 15 = .ok (.ifCond .eq 6, 3) := by decide +kernel
theorem dX8_safe_18 : decode cX8_safe 18 = .ok (.bipush (-3), 2) := by decide +kernel
theorem dX8_safe_20 : decode cX8_safe 20 = .ok (.ireturn, 1) := by decide +kernel
theorem dX8_safe_21 : decode cX8_safe 21 = .ok (.aload_n 0, 1) := by decide +kernel
theorem dX8_safe_22 : decode cX8_safe 22 = .ok (.getfield 26, 3) := by decide +kernel
theorem dX8_safe_25 : decode cX8_safe 25 = .ok (.aload_n 0, 1) := by decide +kernel
theorem dX8_safe_26 : decode cX8_safe 26 = .ok (.getfield 19, 3) := by decide +kernel
theorem dX8_safe_29 : decode cX8_safe 29 = .ok (.iload_n 1, 1) := by decide +kernel
theorem dX8_safe_30 : decode cX8_safe 30 = .ok (.iload_n 2, 1) := by decide +kernel
theorem dX8_safe_31 : decode cX8_safe 31 = .ok (.iload_n 3, 1) := by decide +kernel
theorem dX8_safe_32 : decode cX8_safe 32 = .ok (.invokevirtual 207, 3) := by decide +kernel
theorem dX8_safe_35 : decode cX8_safe 35 = .ok (.iconst (-1), 1) := by decide +kernel
theorem dX8_safe_36 : decode cX8_safe 36 = .ok (.if_icmp .ne 7, 3) := by decide +kernel
theorem dX8_safe_39 : decode cX8_safe 39 = .ok (.iconst 1, 1) := by decide +kernel
theorem dX8_safe_40 : decode cX8_safe 40 = .ok (.goto 4, 3) := by decide +kernel
theorem dX8_safe_43 : decode cX8_safe 43 = .ok (.iconst 0, 1) := by decide +kernel
theorem dX8_safe_44 : decode cX8_safe 44 = .ok (.ireturn, 1) := by decide +kernel
theorem dX8_need_0 : decode cX8_need 0 = .ok (.iload_n 1, 1) := by decide +kernel
theorem dX8_need_1 : decode cX8_need 1 = .ok (.iload_n 2, 1) := by decide +kernel
theorem dX8_need_2 : decode cX8_need 2 = .ok (.invokestatic 204, 3) := by decide +kernel
theorem dX8_need_5 : decode cX8_need 5 = .ok (.ifCond .eq 6, 3) := by decide +kernel
theorem dX8_need_8 : decode cX8_need 8 = .ok (.bipush (-3), 2) := by decide +kernel
theorem dX8_need_10 : decode cX8_need 10 = .ok (.ireturn, 1) := by decide +kernel
theorem dX8_need_11 : decode cX8_need 11 = .ok (.iconst 0, 1) := by decide +kernel
theorem dX8_need_12 : decode cX8_need 12 = .ok (.istore_n 3, 1) := by decide +kernel
theorem dX8_need_13 : decode cX8_need 13 = .ok (.iconst 1, 1) := by decide +kernel
theorem dX8_need_14 : decode cX8_need 14 = .ok (.istore 4, 2) := by decide +kernel
theorem dX8_need_16 : decode cX8_need 16 = .ok (.iload 4, 2) := by decide +kernel
theorem dX8_need_18 : decode cX8_need 18 = .ok (.bipush 60, 2) := by decide +kernel
theorem dX8_need_20 : decode cX8_need 20 = .ok (.if_icmp .gt 67, 3) := by decide +kernel
theorem dX8_need_23 : decode cX8_need 23 = .ok (.aload_n 0, 1) := by decide +kernel
theorem dX8_need_24 : decode cX8_need 24 = .ok (.getfield 26, 3) := by decide +kernel
theorem dX8_need_27 : decode cX8_need 27 = .ok (.aload_n 0, 1) := by decide +kernel
theorem dX8_need_28 : decode cX8_need 28 = .ok (.getfield 19, 3) := by decide +kernel
theorem dX8_need_31 : decode cX8_need 31 = .ok (.iload 4, 2) := by decide +kernel
theorem dX8_need_33 : decode cX8_need 33 = .ok (.iload_n 3, 1) := by decide +kernel
theorem dX8_need_34 : decode cX8_need 34 = .ok (.sipush 256, 3) := by decide +kernel
theorem dX8_need_37 : decode cX8_need 37 = .ok (.idiv, 1) := by decide +kernel
theorem dX8_need_38 : decode cX8_need 38 = .ok (.iload_n 3, 1) := by decide +kernel
theorem dX8_need_39 : decode cX8_need 39 = .ok (.sipush 256, 3) := by decide +kernel
theorem dX8_need_42 : decode cX8_need 42 = .ok (.irem, 1) := by decide +kernel
theorem dX8_need_43 : decode cX8_need 43 = .ok (.invokevirtual 211, 3) := by decide +kernel
theorem dX8_need_46 : decode cX8_need 46 = .ok (.ifCond .eq 6, 3) := by decide +kernel
theorem dX8_need_49 : decode cX8_need 49 = .ok (.goto 32, 3) := by decide +kernel
theorem dX8_need_52 : decode cX8_need 52 = .ok (.aload_n 0, 1) := by decide +kernel
theorem dX8_need_53 : decode cX8_need 53 = .ok (.getfield 26, 3) := by decide +kernel
theorem dX8_need_56 : decode cX8_need 56 = .ok (.aload_n 0, 1) := by decide +kernel
theorem dX8_need_57 : decode cX8_need 57 = .ok (.getfield 19, 3) := by decide +kernel
theorem dX8_need_60 : decode cX8_need 60 = .ok (.iload 4, 2) := by decide +kernel
theorem dX8_need_62 : decode cX8_need 62 = .ok (.iload_n 1, 1) := by decide +kernel
theorem dX8_need_63 : decode cX8_need 63 = .ok (.iload_n 2, 1) := by decide +kernel
theorem dX8_need_64 : decode cX8_need 64 = .ok (.invokevirtual 207, 3) := by decide +kernel
theorem dX8_need_67 : decode cX8_need 67 = .ok (.istore 5, 2) := by decide +kernel
theorem dX8_need_69 : decode cX8_need 69 = .ok (.iload 5, 2) := by decide +kernel
theorem dX8_need_71 : decode cX8_need 71 = .ok (.iconst (-1), 1) := by decide +kernel
theorem dX8_need_72 : decode cX8_need 72 = .ok (.if_icmp .ne 6, 3) := by decide +kernel
theorem dX8_need_75 : decode cX8_need 75 = .ok (.iload 4, 2) := by decide +kernel
theorem dX8_need_77 : decode cX8_need 77 = .ok (.ireturn, 1) := by decide +kernel
theorem dX8_need_78 : decode cX8_need 78 = .ok (.iload 5, 2) := by decide +kernel
theorem dX8_need_80 : decode cX8_need 80 = .ok (.istore_n 3, 1) := by decide +kernel
theorem dX8_need_81 : decode cX8_need 81 = .ok (.iinc 4 1, 3) := by decide +kernel
theorem dX8_need_84 : decode cX8_need 84 = .ok (.goto (-68), 3) := by decide +kernel
theorem dX8_need_87 : decode cX8_need 87 = .ok (.iconst (-1), 1) := by decide +kernel
theorem dX8_need_88 : decode cX8_need 88 = .ok (.ireturn, 1) := by decide +kernel
theorem dX8_worst_0 : decode cX8_worst 0 = .ok (.iload_n 1, 1) := by decide +kernel
theorem dX8_worst_1 : decode cX8_worst 1 = .ok (.iconst 1, 1) := by decide +kernel
theorem dX8_worst_2 : decode cX8_worst 2 = .ok (.bipush 99, 2) := by decide +kernel
theorem dX8_worst_4 : decode cX8_worst 4 = .ok (.invokestatic 55, 3) := by decide +kernel
theorem dX8_worst_7 : decode cX8_worst 7 = .ok (.ifCond .ne 11, 3) := by decide +kernel
theorem dX8_worst_10 : decode cX8_worst 10 = .ok (.iload_n 2, 1) := by decide +kernel
theorem dX8_worst_11 : decode cX8_worst 11 = .ok (.iload_n 3, 1) := by decide +kernel
theorem dX8_worst_12 : decode cX8_worst 12 = .ok (.invokestatic 204, 3) := by decide +kernel
theorem dX8_worst_15 : decode cX8_worst 15 = .ok (.ifCond .eq 6, 3) := by decide +kernel
theorem dX8_worst_18 : decode cX8_worst 18 = .ok (.bipush (-3), 2) := by decide +kernel
theorem dX8_worst_20 : decode cX8_worst 20 = .ok (.ireturn, 1) := by decide +kernel
theorem dX8_worst_21 : decode cX8_worst 21 = .ok (.aload_n 0, 1) := by decide +kernel
theorem dX8_worst_22 : decode cX8_worst 22 = .ok (.getfield 26, 3) := by decide +kernel
theorem dX8_worst_25 : decode cX8_worst 25 = .ok (.aload_n 0, 1) := by decide +kernel
theorem dX8_worst_26 : decode cX8_worst 26 = .ok (.getfield 19, 3) := by decide +kernel
theorem dX8_worst_29 : decode cX8_worst 29 = .ok (.iload_n 1, 1) := by decide +kernel
theorem dX8_worst_30 : decode cX8_worst 30 = .ok (.iload_n 2, 1) := by decide +kernel
theorem dX8_worst_31 : decode cX8_worst 31 = .ok (.iload_n 3, 1) := by decide +kernel
theorem dX8_worst_32 : decode cX8_worst 32 = .ok (.invokevirtual 207, 3) := by decide +kernel
theorem dX8_worst_35 : decode cX8_worst 35 = .ok (.ireturn, 1) := by decide +kernel
theorem dX8_sparing_0 : decode cX8_sparing 0 = .ok (.aload_n 0, 1) := by decide +kernel
theorem dX8_sparing_1 : decode cX8_sparing 1 = .ok (.getfield 19, 3) := by decide +kernel
theorem dX8_sparing_4 : decode cX8_sparing 4 = .ok (.getfield 116, 3) := by decide +kernel
theorem dX8_sparing_7 : decode cX8_sparing 7 = .ok (.iconst 0, 1) := by decide +kernel
theorem dX8_sparing_8 : decode cX8_sparing 8 = .ok (.iaload, 1) := by decide +kernel
theorem dX8_sparing_9 : decode cX8_sparing 9 = .ok (.istore_n 1, 1) := by decide +kernel
theorem dX8_sparing_10 : decode cX8_sparing 10 = .ok (.aload_n 0, 1) := by decide +kernel
theorem dX8_sparing_11 : decode cX8_sparing 11 = .ok (.getfield 19, 3) := by decide +kernel
theorem dX8_sparing_14 : decode cX8_sparing 14 = .ok (.getfield 116, 3) := by decide +kernel
theorem dX8_sparing_17 : decode cX8_sparing 17 = .ok (.iconst 2, 1) := by decide +kernel
theorem dX8_sparing_18 : decode cX8_sparing 18 = .ok (.iaload, 1) := by decide +kernel
theorem dX8_sparing_19 : decode cX8_sparing 19 = .ok (.istore_n 2, 1) := by decide +kernel
theorem dX8_sparing_20 : decode cX8_sparing 20 = .ok (.aload_n 0, 1) := by decide +kernel
theorem dX8_sparing_21 : decode cX8_sparing 21 = .ok (.getfield 26, 3) := by decide +kernel
theorem dX8_sparing_24 : decode cX8_sparing 24 = .ok (.aload_n 0, 1) := by decide +kernel
theorem dX8_sparing_25 : decode cX8_sparing 25 = .ok (.getfield 19, 3) := by decide +kernel
theorem dX8_sparing_28 : decode cX8_sparing 28 = .ok (.iload_n 1, 1) := by decide +kernel
theorem dX8_sparing_29 : decode cX8_sparing 29 = .ok (.iload_n 2, 1) := by decide +kernel
theorem dX8_sparing_30 : decode cX8_sparing 30 = .ok (.aload_n 0, 1) := by decide +kernel
theorem dX8_sparing_31 : decode cX8_sparing 31 = .ok (.getfield 19, 3) := by decide +kernel
theorem dX8_sparing_34 : decode cX8_sparing 34 = .ok (.getfield 128, 3) := by decide +kernel
theorem dX8_sparing_37 : decode cX8_sparing 37 = .ok (.invokevirtual 211, 3) := by decide +kernel
theorem dX8_sparing_40 : decode cX8_sparing 40 = .ok (.ifCond .ne 5, 3) := by decide +kernel
theorem dX8_sparing_43 : decode cX8_sparing 43 = .ok (.iconst 0, 1) := by decide +kernel
theorem dX8_sparing_44 : decode cX8_sparing 44 = .ok (.ireturn, 1) := by decide +kernel
theorem dX8_sparing_45 : decode cX8_sparing 45 = .ok (.iconst 0, 1) := by decide +kernel
theorem dX8_sparing_46 : decode cX8_sparing 46 = .ok (.istore_n 3, 1) := by decide +kernel
theorem dX8_sparing_47 : decode cX8_sparing 47 = .ok (.iconst 0, 1) := by decide +kernel
theorem dX8_sparing_48 : decode cX8_sparing 48 = .ok (.istore 4, 2) := by decide +kernel
theorem dX8_sparing_50 : decode cX8_sparing 50 = .ok (.iload 4, 2) := by decide +kernel
theorem dX8_sparing_52 : decode cX8_sparing 52 = .ok (.bipush 32, 2) := by decide +kernel
theorem dX8_sparing_54 : decode cX8_sparing 54 = .ok (.if_icmp .ge 61, 3) := by decide +kernel
theorem dX8_sparing_57 : decode cX8_sparing 57 = .ok (.iconst 1, 1) := by decide +kernel
theorem dX8_sparing_58 : decode cX8_sparing 58 = .ok (.iload 4, 2) := by decide +kernel
theorem dX8_sparing_60 : decode cX8_sparing 60 = .ok (.ishl, 1) := by decide +kernel
theorem dX8_sparing_61 : decode cX8_sparing 61 = .ok (.istore 5, 2) := by decide +kernel
theorem dX8_sparing_63 : decode cX8_sparing 63 = .ok (.aload_n 0, 1) := by decide +kernel
theorem dX8_sparing_64 : decode cX8_sparing 64 = .ok (.getfield 19, 3) := by decide +kernel
theorem dX8_sparing_67 : decode cX8_sparing 67 = .ok (.getfield 128, 3) := by decide +kernel
theorem dX8_sparing_70 : decode cX8_sparing 70 = .ok (.iload 5, 2) := by decide +kernel
theorem dX8_sparing_72 : decode cX8_sparing 72 = .ok (.iand, 1) := by decide +kernel
theorem dX8_sparing_73 : decode cX8_sparing 73 = .ok (.ifCond .eq 36, 3) := by decide +kernel
theorem dX8_sparing_76 : decode cX8_sparing 76 = .ok (.aload_n 0, 1) := by decide +kernel
theorem dX8_sparing_77 : decode cX8_sparing 77 = .ok (.getfield 26, 3) := by decide +kernel
theorem dX8_sparing_80 : decode cX8_sparing 80 = .ok (.aload_n 0, 1) := by decide +kernel
theorem dX8_sparing_81 : decode cX8_sparing 81 = .ok (.getfield 19, 3) := by decide +kernel
theorem dX8_sparing_84 : decode cX8_sparing 84 = .ok (.iload_n 1, 1) := by decide +kernel
theorem dX8_sparing_85 : decode cX8_sparing 85 = .ok (.iload_n 2, 1) := by decide +kernel
theorem dX8_sparing_86 : decode cX8_sparing 86 = .ok (.aload_n 0, 1) := by decide +kernel
theorem dX8_sparing_87 : decode cX8_sparing 87 = .ok (.getfield 19, 3) := by decide +kernel
theorem dX8_sparing_90 : decode cX8_sparing 90 = .ok (.getfield 128, 3) := by decide +kernel
theorem dX8_sparing_93 : decode cX8_sparing 93 = .ok (.iload 5, 2) := by decide +kernel
theorem dX8_sparing_95 : decode cX8_sparing 95 = .ok (.iconst (-1), 1) := by decide +kernel
theorem dX8_sparing_96 : decode cX8_sparing 96 = .ok (.ixor, 1) := by decide +kernel
theorem dX8_sparing_97 : decode cX8_sparing 97 = .ok (.iand, 1) := by decide +kernel
theorem dX8_sparing_98 : decode cX8_sparing 98 = .ok (.invokevirtual 211, 3) := by decide +kernel
theorem dX8_sparing_101 : decode cX8_sparing 101 = .ok (.ifCond .ne 8, 3) := by decide +kernel
theorem dX8_sparing_104 : decode cX8_sparing 104 = .ok (.iload_n 3, 1) := by decide +kernel
theorem dX8_sparing_105 : decode cX8_sparing 105 = .ok (.iload 5, 2) := by decide +kernel
theorem dX8_sparing_107 : decode cX8_sparing 107 = .ok (.ior, 1) := by decide +kernel
theorem dX8_sparing_108 : decode cX8_sparing 108 = .ok (.istore_n 3, 1) := by decide +kernel
theorem dX8_sparing_109 : decode cX8_sparing 109 = .ok (.iinc 4 1, 3) := by decide +kernel
theorem dX8_sparing_112 : decode cX8_sparing 112 = .ok (.goto (-62), 3) := by decide +kernel
theorem dX8_sparing_115 : decode cX8_sparing 115 = .ok (.iload_n 3, 1) := by decide +kernel
theorem dX8_sparing_116 : decode cX8_sparing 116 = .ok (.ireturn, 1) := by decide +kernel
theorem dX8_bears_0 : decode cX8_bears 0 = .ok (.iload_n 1, 1) := by decide +kernel
theorem dX8_bears_1 : decode cX8_bears 1 = .ok (.iload_n 2, 1) := by decide +kernel
theorem dX8_bears_2 : decode cX8_bears 2 = .ok (.invokestatic 131, 3) := by decide +kernel
theorem dX8_bears_5 : decode cX8_bears 5 = .ok (.ifCond .eq 6, 3) := by decide +kernel
theorem dX8_bears_8 : decode cX8_bears 8 = .ok (.bipush (-3), 2) := by decide +kernel
theorem dX8_bears_10 : decode cX8_bears 10 = .ok (.ireturn, 1) := by decide +kernel
theorem dX8_bears_11 : decode cX8_bears 11 = .ok (.aload_n 0, 1) := by decide +kernel
theorem dX8_bears_12 : decode cX8_bears 12 = .ok (.invokevirtual 169, 3) := by decide +kernel
theorem dX8_bears_15 : decode cX8_bears 15 = .ok (.iconst 0, 1) := by decide +kernel
theorem dX8_bears_16 : decode cX8_bears 16 = .ok (.istore_n 3, 1) := by decide +kernel
theorem dX8_bears_17 : decode cX8_bears 17 = .ok (.iconst 0, 1) := by decide +kernel
theorem dX8_bears_18 : decode cX8_bears 18 = .ok (.istore 4, 2) := by decide +kernel
theorem dX8_bears_20 : decode cX8_bears 20 = .ok (.iload 4, 2) := by decide +kernel
theorem dX8_bears_22 : decode cX8_bears 22 = .ok (.bipush 32, 2) := by decide +kernel
theorem dX8_bears_24 : decode cX8_bears 24 = .ok (.if_icmp .ge 29, 3) := by decide +kernel
theorem dX8_bears_27 : decode cX8_bears 27 = .ok (.iload_n 3, 1) := by decide +kernel
theorem dX8_bears_28 : decode cX8_bears 28 = .ok (.aload_n 0, 1) := by decide +kernel
theorem dX8_bears_29 : decode cX8_bears 29 = .ok (.getfield 26, 3) := by decide +kernel
theorem dX8_bears_32 : decode cX8_bears 32 = .ok (.aload_n 0, 1) := by decide +kernel
theorem dX8_bears_33 : decode cX8_bears 33 = .ok (.getfield 19, 3) := by decide +kernel
theorem dX8_bears_36 : decode cX8_bears 36 = .ok (.iload_n 1, 1) := by decide +kernel
theorem dX8_bears_37 : decode cX8_bears 37 = .ok (.iload_n 2, 1) := by decide +kernel
theorem dX8_bears_38 : decode cX8_bears 38 = .ok (.iload 4, 2) := by decide +kernel
theorem dX8_bears_40 : decode cX8_bears 40 = .ok (.invokevirtual 215, 3) := by decide +kernel
theorem dX8_bears_43 : decode cX8_bears 43 = .ok (.invokestatic 218, 3) := by decide +kernel
theorem dX8_bears_46 : decode cX8_bears 46 = .ok (.istore_n 3, 1) := by decide +kernel
theorem dX8_bears_47 : decode cX8_bears 47 = .ok (.iinc 4 1, 3) := by decide +kernel
theorem dX8_bears_50 : decode cX8_bears 50 = .ok (.goto (-30), 3) := by decide +kernel
theorem dX8_bears_53 : decode cX8_bears 53 = .ok (.iload_n 3, 1) := by decide +kernel
theorem dX8_bears_54 : decode cX8_bears 54 = .ok (.ireturn, 1) := by decide +kernel
theorem dX8_journey_0 : decode cX8_journey 0 = .ok (.iload_n 1, 1) := by decide +kernel
theorem dX8_journey_1 : decode cX8_journey 1 = .ok (.iconst 0, 1) := by decide +kernel
theorem dX8_journey_2 : decode cX8_journey 2 = .ok (.bipush 9, 2) := by decide +kernel
theorem dX8_journey_4 : decode cX8_journey 4 = .ok (.invokestatic 55, 3) := by decide +kernel
theorem dX8_journey_7 : decode cX8_journey 7 = .ok (.ifCond .ne 23, 3) := by decide +kernel
theorem dX8_journey_10 : decode cX8_journey 10 = .ok (.iload_n 2, 1) := by decide +kernel
theorem dX8_journey_11 : decode cX8_journey 11 = .ok (.iload_n 1, 1) := by decide +kernel
theorem dX8_journey_12 : decode cX8_journey 12 = .ok (.iconst 1, 1) := by decide +kernel
theorem dX8_journey_13 : decode cX8_journey 13 = .ok (.iadd, 1) := by decide +kernel
theorem dX8_journey_14 : decode cX8_journey 14 = .ok (.bipush 9, 2) := by decide +kernel
theorem dX8_journey_16 : decode cX8_journey 16 = .ok (.invokestatic 55, 3) := by decide +kernel
theorem dX8_journey_19 : decode cX8_journey 19 = .ok (.ifCond .ne 11, 3) := by decide +kernel
theorem dX8_journey_22 : decode cX8_journey 22 = .ok (.iload 5, 2) := by decide +kernel
theorem dX8_journey_24 : decode cX8_journey 24 = .ok (.invokestatic 51, 3) := by decide +kernel
theorem dX8_journey_27 : decode cX8_journey 27 = .ok (.ifCond .eq 6, 3) := by decide +kernel
theorem dX8_journey_30 : decode cX8_journey 30 = .ok (.bipush (-2), 2) := by decide +kernel
theorem dX8_journey_32 : decode cX8_journey 32 = .ok (.ireturn, 1) := by decide +kernel
theorem dX8_journey_33 : decode cX8_journey 33 = .ok (.iload_n 3, 1) := by decide +kernel
theorem dX8_journey_34 : decode cX8_journey 34 = .ok (.iconst 0, 1) := by decide +kernel
theorem dX8_journey_35 : decode cX8_journey 35 = .ok (.bipush 23, 2) := by decide +kernel
theorem dX8_journey_37 : decode cX8_journey 37 = .ok (.invokestatic 55, 3) := by decide +kernel
theorem dX8_journey_40 : decode cX8_journey 40 = .ok (.ifCond .ne 20, 3) := by decide +kernel
theorem dX8_journey_43 : decode cX8_journey 43 = .ok (.iload 4, 2) := by decide +kernel
theorem dX8_journey_45 : decode cX8_journey 45 = .ok (.iload_n 3, 1) := by decide +kernel
theorem dX8_journey_46 : decode cX8_journey 46 = .ok (.bipush 23, 2) := by decide +kernel
theorem dX8_journey_48 : decode cX8_journey 48 = .ok (.iload_n 3, 1) := by decide +kernel
theorem dX8_journey_49 : decode cX8_journey 49 = .ok (.iconst 5, 1) := by decide +kernel
theorem dX8_journey_50 : decode cX8_journey 50 = .ok (.iadd, 1) := by decide +kernel
theorem dX8_journey_51 : decode cX8_journey 51 = .ok (.invokestatic 224, 3) := by decide +kernel
theorem dX8_journey_54 : decode cX8_journey 54 = .ok (.invokestatic 55, 3) := by decide +kernel
theorem dX8_journey_57 : decode cX8_journey 57 = .ok (.ifCond .eq 6, 3) := by decide +kernel
theorem dX8_journey_60 : decode cX8_journey 60 = .ok (.bipush (-3), 2) := by decide +kernel
theorem dX8_journey_62 : decode cX8_journey 62 = .ok (.ireturn, 1) := by decide +kernel
theorem dX8_journey_63 : decode cX8_journey 63 = .ok (.aload_n 0, 1) := by decide +kernel
theorem dX8_journey_64 : decode cX8_journey 64 = .ok (.getfield 33, 3) := by decide +kernel
theorem dX8_journey_67 : decode cX8_journey 67 = .ok (.getfield 227, 3) := by decide +kernel
theorem dX8_journey_70 : decode cX8_journey 70 = .ok (.iconst 5, 1) := by decide +kernel
theorem dX8_journey_71 : decode cX8_journey 71 = .ok (.if_icmp .lt 6, 3) := by decide +kernel
theorem dX8_journey_74 : decode cX8_journey 74 = .ok (.bipush (-5), 2) := by decide +kernel
theorem dX8_journey_76 : decode cX8_journey 76 = .ok (.ireturn, 1) := by decide +kernel
theorem dX8_journey_77 : decode cX8_journey 77 = .ok (.aload_n 0, 1) := by decide +kernel
theorem dX8_journey_78 : decode cX8_journey 78 = .ok (.getfield 33, 3) := by decide +kernel
theorem dX8_journey_81 : decode cX8_journey 81 = .ok (.getfield 227, 3) := by decide +kernel
theorem dX8_journey_84 : decode cX8_journey 84 = .ok (.istore 6, 2) := by decide +kernel
theorem dX8_journey_86 : decode cX8_journey 86 = .ok (.aload_n 0, 1) := by decide +kernel
theorem dX8_journey_87 : decode cX8_journey 87 = .ok (.getfield 33, 3) := by decide +kernel
theorem dX8_journey_90 : decode cX8_journey 90 = .ok (.getfield 230, 3) := by decide +kernel
theorem dX8_journey_93 : decode cX8_journey 93 = .ok (.iload 6, 2) := by decide +kernel
theorem dX8_journey_95 : decode cX8_journey 95 = .ok (.iload_n 1, 1) := by decide +kernel
theorem dX8_journey_96 : decode cX8_journey 96 = .ok (.iastore, 1) := by decide +kernel
theorem dX8_journey_97 : decode cX8_journey 97 = .ok (.aload_n 0, 1) := by decide +kernel
theorem dX8_journey_98 : decode cX8_journey 98 = .ok (.getfield 33, 3) := by decide +kernel
theorem dX8_journey_101 : decode cX8_journey 101 = .ok (.getfield 233, 3) := by decide +kernel
theorem dX8_journey_104 : decode cX8_journey 104 = .ok (.iload 6, 2) := by decide +kernel
theorem dX8_journey_106 : decode cX8_journey 106 = .ok (.iload_n 2, 1) := by decide +kernel
theorem dX8_journey_107 : decode cX8_journey 107 = .ok (.iastore, 1) := by decide +kernel
theorem dX8_journey_108 : decode cX8_journey 108 = .ok (.aload_n 0, 1) := by decide +kernel
theorem dX8_journey_109 : decode cX8_journey 109 = .ok (.getfield 33, 3) := by decide +kernel
theorem dX8_journey_112 : decode cX8_journey 112 = .ok (.getfield 236, 3) := by decide +kernel
theorem dX8_journey_115 : decode cX8_journey 115 = .ok (.iload 6, 2) := by decide +kernel
theorem dX8_journey_117 : decode cX8_journey 117 = .ok (.iload_n 3, 1) := by decide +kernel
theorem dX8_journey_118 : decode cX8_journey 118 = .ok (.iastore, 1) := by decide +kernel
theorem dX8_journey_119 : decode cX8_journey 119 = .ok (.aload_n 0, 1) := by decide +kernel
theorem dX8_journey_120 : decode cX8_journey 120 = .ok (.getfield 33, 3) := by decide +kernel
theorem dX8_journey_123 : decode cX8_journey 123 = .ok (.getfield 239, 3) := by decide +kernel
theorem dX8_journey_126 : decode cX8_journey 126 = .ok (.iload 6, 2) := by decide +kernel
theorem dX8_journey_128 : decode cX8_journey 128 = .ok (.iload 4, 2) := by decide +kernel
theorem dX8_journey_130 : decode cX8_journey 130 = .ok (.iastore, 1) := by decide +kernel
theorem dX8_journey_131 : decode cX8_journey 131 = .ok (.aload_n 0, 1) := by decide +kernel
theorem dX8_journey_132 : decode cX8_journey 132 = .ok (.getfield 33, 3) := by decide +kernel
theorem dX8_journey_135 : decode cX8_journey 135 = .ok (.getfield 242, 3) := by decide +kernel
theorem dX8_journey_138 : decode cX8_journey 138 = .ok (.iload 6, 2) := by decide +kernel
theorem dX8_journey_140 : decode cX8_journey 140 = .ok (.iload 5, 2) := by decide +kernel
theorem dX8_journey_142 : decode cX8_journey 142 = .ok (.iastore, 1) := by decide +kernel
theorem dX8_journey_143 : decode cX8_journey 143 = .ok (.aload_n 0, 1) := by decide +kernel
theorem dX8_journey_144 : decode cX8_journey 144 = .ok (.getfield 33, 3) := by decide +kernel
theorem dX8_journey_147 : decode cX8_journey 147 = .ok (.dup, 1) := by decide +kernel
theorem dX8_journey_148 : decode cX8_journey 148 = .ok (.getfield 227, 3) := by decide +kernel
theorem dX8_journey_151 : decode cX8_journey 151 = .ok (.iconst 1, 1) := by decide +kernel
theorem dX8_journey_152 : decode cX8_journey 152 = .ok (.iadd, 1) := by decide +kernel
theorem dX8_journey_153 : decode cX8_journey 153 = .ok (.putfield 227, 3) := by decide +kernel
theorem dX8_journey_156 : decode cX8_journey 156 = .ok (.iload 6, 2) := by decide +kernel
theorem dX8_journey_158 : decode cX8_journey 158 = .ok (.ireturn, 1) := by decide +kernel
theorem dX8_clear_0 : decode cX8_clear 0 = .ok (.aload_n 0, 1) := by decide +kernel
theorem dX8_clear_1 : decode cX8_clear 1 = .ok (.getfield 33, 3) := by decide +kernel
theorem dX8_clear_4 : decode cX8_clear 4 = .ok (.getfield 227, 3) := by decide +kernel
theorem dX8_clear_7 : decode cX8_clear 7 = .ok (.istore_n 1, 1) := by decide +kernel
theorem dX8_clear_8 : decode cX8_clear 8 = .ok (.aload_n 0, 1) := by decide +kernel
theorem dX8_clear_9 : decode cX8_clear 9 = .ok (.getfield 33, 3) := by decide +kernel
theorem dX8_clear_12 : decode cX8_clear 12 = .ok (.iconst 0, 1) := by decide +kernel
theorem dX8_clear_13 : decode cX8_clear 13 = .ok (.putfield 227, 3) := by decide +kernel
theorem dX8_clear_16 : decode cX8_clear 16 = .ok (.iload_n 1, 1) := by decide +kernel
theorem dX8_clear_17 : decode cX8_clear 17 = .ok (.ireturn, 1) := by decide +kernel
theorem dX8_best_0 : decode cX8_best 0 = .ok (.iload_n 1, 1) := by decide +kernel
theorem dX8_best_1 : decode cX8_best 1 = .ok (.iconst (-1), 1) := by decide +kernel
theorem dX8_best_2 : decode cX8_best 2 = .ok (.if_icmp .ge 6, 3) := by decide +kernel
theorem dX8_best_5 : decode cX8_best 5 = .ok (.bipush (-3), 2) := by decide +kernel
theorem dX8_best_7 : decode cX8_best 7 = .ok (.ireturn, 1) := by decide +kernel
theorem dX8_best_8 : decode cX8_best 8 = .ok (.iload_n 1, 1) := by decide +kernel
theorem dX8_best_9 : decode cX8_best 9 = .ok (.aload_n 0, 1) := by decide +kernel
theorem dX8_best_10 : decode cX8_best 10 = .ok (.getfield 33, 3) := by decide +kernel
theorem dX8_best_13 : decode cX8_best 13 = .ok (.getfield 227, 3) := by decide +kernel
theorem dX8_best_16 : decode cX8_best 16 = .ok (.if_icmp .lt 5, 3) := by decide +kernel
theorem dX8_best_19 : decode cX8_best 19 = .ok (.iconst (-1), 1) := by decide +kernel
theorem dX8_best_20 : decode cX8_best 20 = .ok (.ireturn, 1) := by decide +kernel
theorem dX8_best_21 : decode cX8_best 21 = .ok (.aload_n 0, 1) := by decide +kernel
theorem dX8_best_22 : decode cX8_best 22 = .ok (.getfield 33, 3) := by decide +kernel
theorem dX8_best_25 : decode cX8_best 25 = .ok (.aload_n 0, 1) := by decide +kernel
theorem dX8_best_26 : decode cX8_best 26 = .ok (.getfield 19, 3) := by decide +kernel
theorem dX8_best_29 : decode cX8_best 29 = .ok (.invokevirtual 245, 3) := by decide +kernel
theorem dX8_best_32 : decode cX8_best 32 = .ok (.istore_n 2, 1) := by decide +kernel
theorem dX8_best_33 : decode cX8_best 33 = .ok (.iload_n 1, 1) := by decide +kernel
theorem dX8_best_34 : decode cX8_best 34 = .ok (.iconst (-1), 1) := by decide +kernel
theorem dX8_best_35 : decode cX8_best 35 = .ok (.if_icmp .ne 7, 3) := by decide +kernel
theorem dX8_best_38 : decode cX8_best 38 = .ok (.iload_n 2, 1) := by decide +kernel
theorem dX8_best_39 : decode cX8_best 39 = .ok (.goto 12, 3) := by decide +kernel
theorem dX8_best_42 : decode cX8_best 42 = .ok (.aload_n 0, 1) := by decide +kernel
theorem dX8_best_43 : decode cX8_best 43 = .ok (.getfield 33, 3) := by decide +kernel
theorem dX8_best_46 : decode cX8_best 46 = .ok (.getfield 249, 3) := by decide +kernel
theorem dX8_best_49 : decode cX8_best 49 = .ok (.iload_n 1, 1) := by decide +kernel
theorem dX8_best_50 : decode cX8_best 50 = .ok (.iaload, 1) := by decide +kernel
theorem dX8_best_51 : decode cX8_best 51 = .ok (.ireturn, 1) := by decide +kernel
theorem dX8_judge_0 : decode cX8_judge 0 = .ok (.iconst 0, 1) := by decide +kernel
theorem dX8_judge_1 : decode cX8_judge 1 = .ok (.istore_n 2, 1) := by decide +kernel
theorem dX8_judge_2 : decode cX8_judge 2 = .ok (.iload_n 2, 1) := by decide +kernel
theorem dX8_judge_3 : decode cX8_judge 3 = .ok (.aload_n 0, 1) := by decide +kernel
theorem dX8_judge_4 : decode cX8_judge 4 = .ok (.getfield 33, 3) := by decide +kernel
theorem dX8_judge_7 : decode cX8_judge 7 = .ok (.getfield 227, 3) := by decide +kernel
theorem dX8_judge_10 : decode cX8_judge 10 = .ok (.if_icmp .ge 54, 3) := by decide +kernel
theorem dX8_judge_13 : decode cX8_judge 13 = .ok (.aload_n 0, 1) := by decide +kernel
theorem dX8_judge_14 : decode cX8_judge 14 = .ok (.getfield 33, 3) := by decide +kernel
theorem dX8_judge_17 : decode cX8_judge 17 = .ok (.getfield 236, 3) := by decide +kernel
theorem dX8_judge_20 : decode cX8_judge 20 = .ok (.iload_n 2, 1) := by decide +kernel
theorem dX8_judge_21 : decode cX8_judge 21 = .ok (.iaload, 1) := by decide +kernel
theorem dX8_judge_22 : decode cX8_judge 22 = .ok (.iload_n 1, 1) := by decide +kernel
theorem dX8_judge_23 : decode cX8_judge 23 = .ok (.iconst 3, 1) := by decide +kernel
theorem dX8_judge_24 : decode cX8_judge 24 = .ok (.iload_n 2, 1) := by decide +kernel
theorem dX8_judge_25 : decode cX8_judge 25 = .ok (.imul, 1) := by decide +kernel
theorem dX8_judge_26 : decode cX8_judge 26 = .ok (.ishr, 1) := by decide +kernel
theorem dX8_judge_27 : decode cX8_judge 27 = .ok (.bipush 7, 2) := by decide +kernel
theorem dX8_judge_29 : decode cX8_judge 29 = .ok (.iand, 1) := by decide +kernel
theorem dX8_judge_30 : decode cX8_judge 30 = .ok (.iadd, 1) := by decide +kernel
theorem dX8_judge_31 : decode cX8_judge 31 = .ok (.istore_n 3, 1) := by decide +kernel
theorem dX8_judge_32 : decode cX8_judge 32 = .ok (.iload_n 3, 1) := by decide +kernel
theorem dX8_judge_33 : decode cX8_judge 33 = .ok (.aload_n 0, 1) := by decide +kernel
theorem dX8_judge_34 : decode cX8_judge 34 = .ok (.getfield 33, 3) := by decide +kernel
theorem dX8_judge_37 : decode cX8_judge 37 = .ok (.getfield 239, 3) := by decide +kernel
theorem dX8_judge_40 : decode cX8_judge 40 = .ok (.iload_n 2, 1) := by decide +kernel
theorem dX8_judge_41 : decode cX8_judge 41 = .ok (.iaload, 1) := by decide +kernel
theorem dX8_judge_42 : decode cX8_judge 42 = .ok (.if_icmp .le 6, 3) := by decide +kernel
theorem dX8_judge_45 : decode cX8_judge 45 = .ok (.bipush (-3), 2) := by decide +kernel
theorem dX8_judge_47 : decode cX8_judge 47 = .ok (.ireturn, 1) := by decide +kernel
theorem dX8_judge_48 : decode cX8_judge 48 = .ok (.aload_n 0, 1) := by decide +kernel
theorem dX8_judge_49 : decode cX8_judge 49 = .ok (.getfield 33, 3) := by decide +kernel
theorem dX8_judge_52 : decode cX8_judge 52 = .ok (.getfield 252, 3) := by decide +kernel
theorem dX8_judge_55 : decode cX8_judge 55 = .ok (.iload_n 2, 1) := by decide +kernel
theorem dX8_judge_56 : decode cX8_judge 56 = .ok (.iload_n 3, 1) := by decide +kernel
theorem dX8_judge_57 : decode cX8_judge 57 = .ok (.iastore, 1) := by decide +kernel
theorem dX8_judge_58 : decode cX8_judge 58 = .ok (.iinc 2 1, 3) := by decide +kernel
theorem dX8_judge_61 : decode cX8_judge 61 = .ok (.goto (-59), 3) := by decide +kernel
theorem dX8_judge_64 : decode cX8_judge 64 = .ok (.aload_n 0, 1) := by decide +kernel
theorem dX8_judge_65 : decode cX8_judge 65 = .ok (.getfield 33, 3) := by decide +kernel
theorem dX8_judge_68 : decode cX8_judge 68 = .ok (.aload_n 0, 1) := by decide +kernel
theorem dX8_judge_69 : decode cX8_judge 69 = .ok (.getfield 19, 3) := by decide +kernel
theorem dX8_judge_72 : decode cX8_judge 72 = .ok (.invokevirtual 255, 3) := by decide +kernel
theorem dX8_judge_75 : decode cX8_judge 75 = .ok (.ireturn, 1) := by decide +kernel
theorem dX8_spared_0 : decode cX8_spared 0 = .ok (.iload_n 1, 1) := by decide +kernel
theorem dX8_spared_1 : decode cX8_spared 1 = .ok (.invokestatic 258, 3) := by decide +kernel
theorem dX8_spared_4 : decode cX8_spared 4 = .ok (.ifCond .ne 15, 3) := by decide +kernel
theorem dX8_spared_7 : decode cX8_spared 7 = .ok (.iload_n 2, 1) := by decide +kernel
theorem dX8_spared_8 : decode cX8_spared 8 = .ok (.invokestatic 258, 3) := by decide +kernel
theorem dX8_spared_11 : decode cX8_spared 11 = .ok (.ifCond .ne 8, 3) := by decide +kernel
theorem dX8_spared_14 : decode cX8_spared 14 = .ok (.iload_n 1, 1) := by decide +kernel
theorem dX8_spared_15 : decode cX8_spared 15 = .ok (.iload_n 2, 1) := by decide +kernel
theorem dX8_spared_16 : decode cX8_spared 16 = .ok (.if_icmp .ne 6, 3) := by decide +kernel
theorem dX8_spared_19 : decode cX8_spared 19 = .ok (.bipush (-2), 2) := by decide +kernel
theorem dX8_spared_21 : decode cX8_spared 21 = .ok (.ireturn, 1) := by decide +kernel
theorem dX8_spared_22 : decode cX8_spared 22 = .ok (.iload_n 3, 1) := by decide +kernel
theorem dX8_spared_23 : decode cX8_spared 23 = .ok (.iconst 0, 1) := by decide +kernel
theorem dX8_spared_24 : decode cX8_spared 24 = .ok (.bipush 99, 2) := by decide +kernel
theorem dX8_spared_26 : decode cX8_spared 26 = .ok (.invokestatic 55, 3) := by decide +kernel
theorem dX8_spared_29 : decode cX8_spared 29 = .ok (.ifCond .eq 6, 3) := by decide +kernel
theorem dX8_spared_32 : decode cX8_spared 32 = .ok (.bipush (-3), 2) := by decide +kernel
theorem dX8_spared_34 : decode cX8_spared 34 = .ok (.ireturn, 1) := by decide +kernel
theorem dX8_spared_35 : decode cX8_spared 35 = .ok (.aload_n 0, 1) := by decide +kernel
theorem dX8_spared_36 : decode cX8_spared 36 = .ok (.getfield 40, 3) := by decide +kernel
theorem dX8_spared_39 : decode cX8_spared 39 = .ok (.getfield 261, 3) := by decide +kernel
theorem dX8_spared_42 : decode cX8_spared 42 = .ok (.iload_n 1, 1) := by decide +kernel
theorem dX8_spared_43 : decode cX8_spared 43 = .ok (.aaload, 1) := by decide +kernel
theorem dX8_spared_44 : decode cX8_spared 44 = .ok (.iload_n 2, 1) := by decide +kernel
theorem dX8_spared_45 : decode cX8_spared 45 = .ok (.iaload, 1) := by decide +kernel
theorem dX8_spared_46 : decode cX8_spared 46 = .ok (.istore 4, 2) := by decide +kernel
theorem dX8_spared_48 : decode cX8_spared 48 = .ok (.aload_n 0, 1) := by decide +kernel
theorem dX8_spared_49 : decode cX8_spared 49 = .ok (.getfield 40, 3) := by decide +kernel
theorem dX8_spared_52 : decode cX8_spared 52 = .ok (.getfield 261, 3) := by decide +kernel
theorem dX8_spared_55 : decode cX8_spared 55 = .ok (.iload_n 1, 1) := by decide +kernel
theorem dX8_spared_56 : decode cX8_spared 56 = .ok (.aaload, 1) := by decide +kernel
theorem dX8_spared_57 : decode cX8_spared 57 = .ok (.iload_n 2, 1) := by decide +kernel
theorem dX8_spared_58 : decode cX8_spared 58 = .ok (.iload_n 3, 1) := by decide +kernel
theorem dX8_spared_59 : decode cX8_spared 59 = .ok (.iastore, 1) := by decide +kernel
theorem dX8_spared_60 : decode cX8_spared 60 = .ok (.iload 4, 2) := by decide +kernel
theorem dX8_spared_62 : decode cX8_spared 62 = .ok (.ireturn, 1) := by decide +kernel
theorem dX8_together_0 : decode cX8_together 0 = .ok (.iload_n 1, 1) := by decide +kernel
theorem dX8_together_1 : decode cX8_together 1 = .ok (.iconst 0, 1) := by decide +kernel
theorem dX8_together_2 : decode cX8_together 2 = .ok (.bipush 63, 2) := by decide +kernel
theorem dX8_together_4 : decode cX8_together 4 = .ok (.invokestatic 55, 3) := by decide +kernel
theorem dX8_together_7 : decode cX8_together 7 = .ok (.ifCond .eq 6, 3) := by decide +kernel
theorem dX8_together_10 : decode cX8_together 10 = .ok (.bipush (-3), 2) := by decide +kernel
theorem dX8_together_12 : decode cX8_together 12 = .ok (.ireturn, 1) := by decide +kernel
theorem dX8_together_13 : decode cX8_together 13 = .ok (.aload_n 0, 1) := by decide +kernel
theorem dX8_together_14 : decode cX8_together 14 = .ok (.getfield 40, 3) := by decide +kernel
theorem dX8_together_17 : decode cX8_together 17 = .ok (.iload_n 1, 1) := by decide +kernel
theorem dX8_together_18 : decode cX8_together 18 = .ok (.invokevirtual 264, 3) := by decide +kernel
theorem dX8_together_21 : decode cX8_together 21 = .ok (.ireturn, 1) := by decide +kernel
theorem dX8_share_0 : decode cX8_share 0 = .ok (.iload_n 1, 1) := by decide +kernel
theorem dX8_share_1 : decode cX8_share 1 = .ok (.invokestatic 258, 3) := by decide +kernel
theorem dX8_share_4 : decode cX8_share 4 = .ok (.ifCond .eq 6, 3) := by decide +kernel
theorem dX8_share_7 : decode cX8_share 7 = .ok (.bipush (-2), 2) := by decide +kernel
theorem dX8_share_9 : decode cX8_share 9 = .ok (.ireturn, 1) := by decide +kernel
theorem dX8_share_10 : decode cX8_share 10 = .ok (.iload_n 2, 1) := by decide +kernel
theorem dX8_share_11 : decode cX8_share 11 = .ok (.iconst 1, 1) := by decide +kernel
theorem dX8_share_12 : decode cX8_share 12 = .ok (.bipush 6, 2) := by decide +kernel
theorem dX8_share_14 : decode cX8_share 14 = .ok (.invokestatic 55, 3) := by decide +kernel
theorem dX8_share_17 : decode cX8_share 17 = .ok (.ifCond .eq 6, 3) := by decide +kernel
theorem dX8_share_20 : decode cX8_share 20 = .ok (.bipush (-3), 2) := by decide +kernel
theorem dX8_share_22 : decode cX8_share 22 = .ok (.ireturn, 1) := by decide +kernel
theorem dX8_share_23 : decode cX8_share 23 = .ok (.iload_n 1, 1) := by decide +kernel
theorem dX8_share_24 : decode cX8_share 24 = .ok (.iload_n 2, 1) := by decide +kernel
theorem dX8_share_25 : decode cX8_share 25 = .ok (.if_icmp .lt 6, 3) := by decide +kernel
theorem dX8_share_28 : decode cX8_share 28 = .ok (.bipush (-2), 2) := by decide +kernel
theorem dX8_share_30 : decode cX8_share 30 = .ok (.ireturn, 1) := by decide +kernel
theorem dX8_share_31 : decode cX8_share 31 = .ok (.iload_n 3, 1) := by decide +kernel
theorem dX8_share_32 : decode cX8_share 32 = .ok (.tableswitch 58 0 2 #[28, 38, 48], 28) := by decide +kernel
theorem dX8_share_60 : decode cX8_share 60 = .ok (.aload_n 0, 1) := by decide +kernel
theorem dX8_share_61 : decode cX8_share 61 = .ok (.getfield 40, 3) := by decide +kernel
theorem dX8_share_64 : decode cX8_share 64 = .ok (.iload_n 1, 1) := by decide +kernel
theorem dX8_share_65 : decode cX8_share 65 = .ok (.iload_n 2, 1) := by decide +kernel
theorem dX8_share_66 : decode cX8_share 66 = .ok (.invokevirtual 267, 3) := by decide +kernel
theorem dX8_share_69 : decode cX8_share 69 = .ok (.ireturn, 1) := by decide +kernel
theorem dX8_share_70 : decode cX8_share 70 = .ok (.aload_n 0, 1) := by decide +kernel
theorem dX8_share_71 : decode cX8_share 71 = .ok (.getfield 40, 3) := by decide +kernel
theorem dX8_share_74 : decode cX8_share 74 = .ok (.iload_n 1, 1) := by decide +kernel
theorem dX8_share_75 : decode cX8_share 75 = .ok (.iload_n 2, 1) := by decide +kernel
theorem dX8_share_76 : decode cX8_share 76 = .ok (.invokevirtual 270, 3) := by decide +kernel
theorem dX8_share_79 : decode cX8_share 79 = .ok (.ireturn, 1) := by decide +kernel
theorem dX8_share_80 : decode cX8_share 80 = .ok (.aload_n 0, 1) := by decide +kernel
theorem dX8_share_81 : decode cX8_share 81 = .ok (.getfield 40, 3) := by decide +kernel
theorem dX8_share_84 : decode cX8_share 84 = .ok (.iload_n 1, 1) := by decide +kernel
theorem dX8_share_85 : decode cX8_share 85 = .ok (.iload_n 2, 1) := by decide +kernel
theorem dX8_share_86 : decode cX8_share 86 = .ok (.invokevirtual 273, 3) := by decide +kernel
theorem dX8_share_89 : decode cX8_share 89 = .ok (.ireturn, 1) := by decide +kernel
theorem dX8_share_90 : decode cX8_share 90 = .ok (.bipush (-3), 2) := by decide +kernel
theorem dX8_share_92 : decode cX8_share 92 = .ok (.ireturn, 1) := by decide +kernel
theorem dX8_clock_0 : decode cX8_clock 0 = .ok (.iload_n 1, 1) := by decide +kernel
theorem dX8_clock_1 : decode cX8_clock 1 = .ok (.invokestatic 276, 3) := by decide +kernel
theorem dX8_clock_4 : decode cX8_clock 4 = .ok (.ifCond .eq 6, 3) := by decide +kernel
theorem dX8_clock_7 : decode cX8_clock 7 = .ok (.bipush (-2), 2) := by decide +kernel
theorem dX8_clock_9 : decode cX8_clock 9 = .ok (.ireturn, 1) := by decide +kernel
theorem dX8_clock_10 : decode cX8_clock 10 = .ok (.iload_n 2, 1) := by decide +kernel
theorem dX8_clock_11 : decode cX8_clock 11 = .ok (.iconst 0, 1) := by decide +kernel
theorem dX8_clock_12 : decode cX8_clock 12 = .ok (.bipush 60, 2) := by decide +kernel
theorem dX8_clock_14 : decode cX8_clock 14 = .ok (.invokestatic 55, 3) := by decide +kernel
theorem dX8_clock_17 : decode cX8_clock 17 = .ok (.ifCond .eq 6, 3) := by decide +kernel
theorem dX8_clock_20 : decode cX8_clock 20 = .ok (.bipush (-3), 2) := by decide +kernel
theorem dX8_clock_22 : decode cX8_clock 22 = .ok (.ireturn, 1) := by decide +kernel
theorem dX8_clock_23 : decode cX8_clock 23 = .ok (.aload_n 0, 1) := by decide +kernel
theorem dX8_clock_24 : decode cX8_clock 24 = .ok (.getfield 47, 3) := by decide +kernel
theorem dX8_clock_27 : decode cX8_clock 27 = .ok (.getfield 279, 3) := by decide +kernel
theorem dX8_clock_30 : decode cX8_clock 30 = .ok (.iload_n 1, 1) := by decide +kernel
theorem dX8_clock_31 : decode cX8_clock 31 = .ok (.iaload, 1) := by decide +kernel
theorem dX8_clock_32 : decode cX8_clock 32 = .ok (.istore_n 3, 1) := by decide +kernel
theorem dX8_clock_33 : decode cX8_clock 33 = .ok (.aload_n 0, 1) := by decide +kernel
theorem dX8_clock_34 : decode cX8_clock 34 = .ok (.getfield 47, 3) := by decide +kernel
theorem dX8_clock_37 : decode cX8_clock 37 = .ok (.getfield 279, 3) := by decide +kernel
theorem dX8_clock_40 : decode cX8_clock 40 = .ok (.iload_n 1, 1) := by decide +kernel
theorem dX8_clock_41 : decode cX8_clock 41 = .ok (.iload_n 2, 1) := by decide +kernel
theorem dX8_clock_42 : decode cX8_clock 42 = .ok (.iastore, 1) := by decide +kernel
theorem dX8_clock_43 : decode cX8_clock 43 = .ok (.iload_n 3, 1) := by decide +kernel
theorem dX8_clock_44 : decode cX8_clock 44 = .ok (.ireturn, 1) := by decide +kernel
theorem dX8_event_0 : decode cX8_event 0 = .ok (.iload_n 1, 1) := by decide +kernel
theorem dX8_event_1 : decode cX8_event 1 = .ok (.invokestatic 276, 3) := by decide +kernel
theorem dX8_event_4 : decode cX8_event 4 = .ok (.ifCond .eq 6, 3) := by decide +kernel
theorem dX8_event_7 : decode cX8_event 7 = .ok (.bipush (-2), 2) := by decide +kernel
theorem dX8_event_9 : decode cX8_event 9 = .ok (.ireturn, 1) := by decide +kernel
theorem dX8_event_10 : decode cX8_event 10 = .ok (.iload_n 2, 1) := by decide +kernel
theorem dX8_event_11 : decode cX8_event 11 = .ok (.iconst 0, 1) := by decide +kernel
theorem dX8_event_12 : decode cX8_event 12 = .ok (.sipush 999, 3) := by decide +kernel
theorem dX8_event_15 : decode cX8_event 15 = .ok (.invokestatic 55, 3) := by decide +kernel
theorem dX8_event_18 : decode cX8_event 18 = .ok (.ifCond .eq 6, 3) := by decide +kernel
theorem dX8_event_21 : decode cX8_event 21 = .ok (.bipush (-3), 2) := by decide +kernel
theorem dX8_event_23 : decode cX8_event 23 = .ok (.ireturn, 1) := by decide +kernel
theorem dX8_event_24 : decode cX8_event 24 = .ok (.aload_n 0, 1) := by decide +kernel
theorem dX8_event_25 : decode cX8_event 25 = .ok (.getfield 47, 3) := by decide +kernel
theorem dX8_event_28 : decode cX8_event 28 = .ok (.getfield 282, 3) := by decide +kernel
theorem dX8_event_31 : decode cX8_event 31 = .ok (.bipush 12, 2) := by decide +kernel
theorem dX8_event_33 : decode cX8_event 33 = .ok (.if_icmp .lt 6, 3) := by decide +kernel
theorem dX8_event_36 : decode cX8_event 36 = .ok (.bipush (-5), 2) := by decide +kernel
theorem dX8_event_38 : decode cX8_event 38 = .ok (.ireturn, 1) := by decide +kernel
theorem dX8_event_39 : decode cX8_event 39 = .ok (.aload_n 0, 1) := by decide +kernel
theorem dX8_event_40 : decode cX8_event 40 = .ok (.getfield 47, 3) := by decide +kernel
theorem dX8_event_43 : decode cX8_event 43 = .ok (.getfield 282, 3) := by decide +kernel
theorem dX8_event_46 : decode cX8_event 46 = .ok (.istore_n 3, 1) := by decide +kernel
theorem dX8_event_47 : decode cX8_event 47 = .ok (.aload_n 0, 1) := by decide +kernel
theorem dX8_event_48 : decode cX8_event 48 = .ok (.getfield 47, 3) := by decide +kernel
theorem dX8_event_51 : decode cX8_event 51 = .ok (.getfield 285, 3) := by decide +kernel
theorem dX8_event_54 : decode cX8_event 54 = .ok (.iload_n 3, 1) := by decide +kernel
theorem dX8_event_55 : decode cX8_event 55 = .ok (.iload_n 1, 1) := by decide +kernel
theorem dX8_event_56 : decode cX8_event 56 = .ok (.iastore, 1) := by decide +kernel
theorem dX8_event_57 : decode cX8_event 57 = .ok (.aload_n 0, 1) := by decide +kernel
theorem dX8_event_58 : decode cX8_event 58 = .ok (.getfield 47, 3) := by decide +kernel
theorem dX8_event_61 : decode cX8_event 61 = .ok (.getfield 288, 3) := by decide +kernel
theorem dX8_event_64 : decode cX8_event 64 = .ok (.iload_n 3, 1) := by decide +kernel
theorem dX8_event_65 : decode cX8_event 65 = .ok (.iload_n 2, 1) := by decide +kernel
theorem dX8_event_66 : decode cX8_event 66 = .ok (.iastore, 1) := by decide +kernel
theorem dX8_event_67 : decode cX8_event 67 = .ok (.aload_n 0, 1) := by decide +kernel
theorem dX8_event_68 : decode cX8_event 68 = .ok (.getfield 47, 3) := by decide +kernel
theorem dX8_event_71 : decode cX8_event 71 = .ok (.dup, 1) := by decide +kernel
theorem dX8_event_72 : decode cX8_event 72 = .ok (.getfield 282, 3) := by decide +kernel
theorem dX8_event_75 : decode cX8_event 75 = .ok (.iconst 1, 1) := by decide +kernel
theorem dX8_event_76 : decode cX8_event 76 = .ok (.iadd, 1) := by decide +kernel
theorem dX8_event_77 : decode cX8_event 77 = .ok (.putfield 282, 3) := by decide +kernel
theorem dX8_event_80 : decode cX8_event 80 = .ok (.iload_n 3, 1) := by decide +kernel
theorem dX8_event_81 : decode cX8_event 81 = .ok (.ireturn, 1) := by decide +kernel
theorem dX8_after_0 : decode cX8_after 0 = .ok (.aload_n 0, 1) := by decide +kernel
theorem dX8_after_1 : decode cX8_after 1 = .ok (.iload_n 1, 1) := by decide +kernel
theorem dX8_after_2 : decode cX8_after 2 = .ok (.invokevirtual 291, 3) := by decide +kernel
theorem dX8_after_5 : decode cX8_after 5 = .ok (.ifCond .ne 16, 3) := by decide +kernel
theorem dX8_after_8 : decode cX8_after 8 = .ok (.aload_n 0, 1) := by decide +kernel
theorem dX8_after_9 : decode cX8_after 9 = .ok (.iload_n 2, 1) := by decide +kernel
theorem dX8_after_10 : decode cX8_after 10 = .ok (.invokevirtual 291, 3) := by decide +kernel
theorem dX8_after_13 : decode cX8_after 13 = .ok (.ifCond .ne 8, 3) := by decide +kernel
theorem dX8_after_16 : decode cX8_after 16 = .ok (.iload_n 1, 1) := by decide +kernel
theorem dX8_after_17 : decode cX8_after 17 = .ok (.iload_n 2, 1) := by decide +kernel
theorem dX8_after_18 : decode cX8_after 18 = .ok (.if_icmp .ne 6, 3) := by decide +kernel
theorem dX8_after_21 : decode cX8_after 21 = .ok (.bipush (-2), 2) := by decide +kernel
theorem dX8_after_23 : decode cX8_after 23 = .ok (.ireturn, 1) := by decide +kernel
theorem dX8_after_24 : decode cX8_after 24 = .ok (.iload_n 3, 1) := by decide +kernel
theorem dX8_after_25 : decode cX8_after 25 = .ok (.iconst 0, 1) := by decide +kernel
theorem dX8_after_26 : decode cX8_after 26 = .ok (.bipush 99, 2) := by decide +kernel
theorem dX8_after_28 : decode cX8_after 28 = .ok (.invokestatic 55, 3) := by decide +kernel
theorem dX8_after_31 : decode cX8_after 31 = .ok (.ifCond .eq 6, 3) := by decide +kernel
theorem dX8_after_34 : decode cX8_after 34 = .ok (.bipush (-3), 2) := by decide +kernel
theorem dX8_after_36 : decode cX8_after 36 = .ok (.ireturn, 1) := by decide +kernel
theorem dX8_after_37 : decode cX8_after 37 = .ok (.aload_n 0, 1) := by decide +kernel
theorem dX8_after_38 : decode cX8_after 38 = .ok (.getfield 47, 3) := by decide +kernel
theorem dX8_after_41 : decode cX8_after 41 = .ok (.getfield 294, 3) := by decide +kernel
theorem dX8_after_44 : decode cX8_after 44 = .ok (.bipush 12, 2) := by decide +kernel
theorem dX8_after_46 : decode cX8_after 46 = .ok (.if_icmp .lt 6, 3) := by decide +kernel
theorem dX8_after_49 : decode cX8_after 49 = .ok (.bipush (-5), 2) := by decide +kernel
theorem dX8_after_51 : decode cX8_after 51 = .ok (.ireturn, 1) := by decide +kernel
theorem dX8_after_52 : decode cX8_after 52 = .ok (.aload_n 0, 1) := by decide +kernel
theorem dX8_after_53 : decode cX8_after 53 = .ok (.getfield 47, 3) := by decide +kernel
theorem dX8_after_56 : decode cX8_after 56 = .ok (.getfield 297, 3) := by decide +kernel
theorem dX8_after_59 : decode cX8_after 59 = .ok (.aload_n 0, 1) := by decide +kernel
theorem dX8_after_60 : decode cX8_after 60 = .ok (.getfield 47, 3) := by decide +kernel
theorem dX8_after_63 : decode cX8_after 63 = .ok (.getfield 294, 3) := by decide +kernel
theorem dX8_after_66 : decode cX8_after 66 = .ok (.iload_n 1, 1) := by decide +kernel
theorem dX8_after_67 : decode cX8_after 67 = .ok (.iastore, 1) := by decide +kernel
theorem dX8_after_68 : decode cX8_after 68 = .ok (.aload_n 0, 1) := by decide +kernel
theorem dX8_after_69 : decode cX8_after 69 = .ok (.getfield 47, 3) := by decide +kernel
theorem dX8_after_72 : decode cX8_after 72 = .ok (.getfield 300, 3) := by decide +kernel
theorem dX8_after_75 : decode cX8_after 75 = .ok (.aload_n 0, 1) := by decide +kernel
theorem dX8_after_76 : decode cX8_after 76 = .ok (.getfield 47, 3) := by decide +kernel
theorem dX8_after_79 : decode cX8_after 79 = .ok (.getfield 294, 3) := by decide +kernel
theorem dX8_after_82 : decode cX8_after 82 = .ok (.iload_n 2, 1) := by decide +kernel
theorem dX8_after_83 : decode cX8_after 83 = .ok (.iastore, 1) := by decide +kernel
theorem dX8_after_84 : decode cX8_after 84 = .ok (.aload_n 0, 1) := by decide +kernel
theorem dX8_after_85 : decode cX8_after 85 = .ok (.getfield 47, 3) := by decide +kernel
theorem dX8_after_88 : decode cX8_after 88 = .ok (.getfield 303, 3) := by decide +kernel
theorem dX8_after_91 : decode cX8_after 91 = .ok (.aload_n 0, 1) := by decide +kernel
theorem dX8_after_92 : decode cX8_after 92 = .ok (.getfield 47, 3) := by decide +kernel
theorem dX8_after_95 : decode cX8_after 95 = .ok (.getfield 294, 3) := by decide +kernel
theorem dX8_after_98 : decode cX8_after 98 = .ok (.iload_n 3, 1) := by decide +kernel
theorem dX8_after_99 : decode cX8_after 99 = .ok (.iastore, 1) := by decide +kernel
theorem dX8_after_100 : decode cX8_after 100 = .ok (.aload_n 0, 1) := by decide +kernel
theorem dX8_after_101 : decode cX8_after 101 = .ok (.getfield 47, 3) := by decide +kernel
theorem dX8_after_104 : decode cX8_after 104 = .ok (.dup, 1) := by decide +kernel
theorem dX8_after_105 : decode cX8_after 105 = .ok (.getfield 294, 3) := by decide +kernel
theorem dX8_after_108 : decode cX8_after 108 = .ok (.iconst 1, 1) := by decide +kernel
theorem dX8_after_109 : decode cX8_after 109 = .ok (.iadd, 1) := by decide +kernel
theorem dX8_after_110 : decode cX8_after 110 = .ok (.putfield 294, 3) := by decide +kernel
theorem dX8_after_113 : decode cX8_after 113 = .ok (.aload_n 0, 1) := by decide +kernel
theorem dX8_after_114 : decode cX8_after 114 = .ok (.getfield 47, 3) := by decide +kernel
theorem dX8_after_117 : decode cX8_after 117 = .ok (.getfield 294, 3) := by decide +kernel
theorem dX8_after_120 : decode cX8_after 120 = .ok (.ireturn, 1) := by decide +kernel
theorem dX8_agree_0 : decode cX8_agree 0 = .ok (.aload_n 0, 1) := by decide +kernel
theorem dX8_agree_1 : decode cX8_agree 1 = .ok (.getfield 47, 3) := by decide +kernel
theorem dX8_agree_4 : decode cX8_agree 4 = .ok (.invokevirtual 306, 3) := by decide +kernel
theorem dX8_agree_7 : decode cX8_agree 7 = .ok (.ifCond .eq 7, 3) := by decide +kernel
theorem dX8_agree_10 : decode cX8_agree 10 = .ok (.iconst 1, 1) := by decide +kernel
theorem dX8_agree_11 : decode cX8_agree 11 = .ok (.goto 4, 3) := by decide +kernel
theorem dX8_agree_14 : decode cX8_agree 14 = .ok (.iconst 0, 1) := by decide +kernel
theorem dX8_agree_15 : decode cX8_agree 15 = .ok (.ireturn, 1) := by decide +kernel
theorem dX8_span_0 : decode cX8_span 0 = .ok (.aload_n 0, 1) := by decide +kernel
theorem dX8_span_1 : decode cX8_span 1 = .ok (.iload_n 1, 1) := by decide +kernel
theorem dX8_span_2 : decode cX8_span 2 = .ok (.invokevirtual 291, 3) := by decide +kernel
theorem dX8_span_5 : decode cX8_span 5 = .ok (.ifCond .ne 22, 3) := by decide +kernel
theorem dX8_span_8 : decode cX8_span 8 = .ok (.iload_n 2, 1) := by decide +kernel
theorem dX8_span_9 : decode cX8_span 9 = .ok (.iconst 0, 1) := by decide +kernel
theorem dX8_span_10 : decode cX8_span 10 = .ok (.iconst 1, 1) := by decide +kernel
theorem dX8_span_11 : decode cX8_span 11 = .ok (.invokestatic 55, 3) := by decide +kernel
theorem dX8_span_14 : decode cX8_span 14 = .ok (.ifCond .ne 13, 3) := by decide +kernel
theorem dX8_span_17 : decode cX8_span 17 = .ok (.aload_n 0, 1) := by decide +kernel
theorem dX8_span_18 : decode cX8_span 18 = .ok (.getfield 47, 3) := by decide +kernel
theorem dX8_span_21 : decode cX8_span 21 = .ok (.invokevirtual 306, 3) := by decide +kernel
theorem dX8_span_24 : decode cX8_span 24 = .ok (.ifCond .ne 6, 3) := by decide +kernel
theorem dX8_span_27 : decode cX8_span 27 = .ok (.ldc 168, 2) := by decide +kernel
theorem dX8_span_29 : decode cX8_span 29 = .ok (.ireturn, 1) := by decide +kernel
theorem dX8_span_30 : decode cX8_span 30 = .ok (.iload_n 2, 1) := by decide +kernel
theorem dX8_span_31 : decode cX8_span 31 = .ok (.ifCond .ne 14, 3) := by decide +kernel
theorem dX8_span_34 : decode cX8_span 34 = .ok (.aload_n 0, 1) := by decide +kernel
theorem dX8_span_35 : decode cX8_span 35 = .ok (.getfield 47, 3) := by decide +kernel
theorem dX8_span_38 : decode cX8_span 38 = .ok (.iload_n 1, 1) := by decide +kernel
theorem dX8_span_39 : decode cX8_span 39 = .ok (.invokevirtual 310, 3) := by decide +kernel
theorem dX8_span_42 : decode cX8_span 42 = .ok (.goto 11, 3) := by decide +kernel
theorem dX8_span_45 : decode cX8_span 45 = .ok (.aload_n 0, 1) := by decide +kernel
theorem dX8_span_46 : decode cX8_span 46 = .ok (.getfield 47, 3) := by decide +kernel
theorem dX8_span_49 : decode cX8_span 49 = .ok (.iload_n 1, 1) := by decide +kernel
theorem dX8_span_50 : decode cX8_span 50 = .ok (.invokevirtual 313, 3) := by decide +kernel
theorem dX8_span_53 : decode cX8_span 53 = .ok (.ireturn, 1) := by decide +kernel
theorem dX8_count_0 : decode cX8_count 0 = .ok (.iload_n 1, 1) := by decide +kernel
theorem dX8_count_1 : decode cX8_count 1 = .ok (.tableswitch 99 0 6 #[43, 51, 59, 67, 75, 83, 91], 43) := by decide +kernel
theorem dX8_count_44 : decode cX8_count 44 = .ok (.aload_n 0, 1) := by decide +kernel
theorem dX8_count_45 : decode cX8_count 45 = .ok (.getfield 19, 3) := by decide +kernel
theorem dX8_count_48 : decode cX8_count 48 = .ok (.getfield 103, 3) := by decide +kernel
theorem dX8_count_51 : decode cX8_count 51 = .ok (.ireturn, 1) := by decide +kernel
theorem dX8_count_52 : decode cX8_count 52 = .ok (.aload_n 0, 1) := by decide +kernel
theorem dX8_count_53 : decode cX8_count 53 = .ok (.getfield 19, 3) := by decide +kernel
theorem dX8_count_56 : decode cX8_count 56 = .ok (.getfield 119, 3) := by decide +kernel
theorem dX8_count_59 : decode cX8_count 59 = .ok (.ireturn, 1) := by decide +kernel
theorem dX8_count_60 : decode cX8_count 60 = .ok (.aload_n 0, 1) := by decide +kernel
theorem dX8_count_61 : decode cX8_count 61 = .ok (.getfield 19, 3) := by decide +kernel
theorem dX8_count_64 : decode cX8_count 64 = .ok (.getfield 135, 3) := by decide +kernel
theorem dX8_count_67 : decode cX8_count 67 = .ok (.ireturn, 1) := by decide +kernel
theorem dX8_count_68 : decode cX8_count 68 = .ok (.aload_n 0, 1) := by decide +kernel
theorem dX8_count_69 : decode cX8_count 69 = .ok (.getfield 33, 3) := by decide +kernel
theorem dX8_count_72 : decode cX8_count 72 = .ok (.getfield 227, 3) := by decide +kernel
theorem dX8_count_75 : decode cX8_count 75 = .ok (.ireturn, 1) := by decide +kernel
theorem dX8_count_76 : decode cX8_count 76 = .ok (.aload_n 0, 1) := by decide +kernel
theorem dX8_count_77 : decode cX8_count 77 = .ok (.getfield 47, 3) := by decide +kernel
theorem dX8_count_80 : decode cX8_count 80 = .ok (.getfield 282, 3) := by decide +kernel
theorem dX8_count_83 : decode cX8_count 83 = .ok (.ireturn, 1) := by decide +kernel
theorem dX8_count_84 : decode cX8_count 84 = .ok (.aload_n 0, 1) := by decide +kernel
theorem dX8_count_85 : decode cX8_count 85 = .ok (.getfield 47, 3) := by decide +kernel
theorem dX8_count_88 : decode cX8_count 88 = .ok (.getfield 294, 3) := by decide +kernel
theorem dX8_count_91 : decode cX8_count 91 = .ok (.ireturn, 1) := by decide +kernel
theorem dX8_count_92 : decode cX8_count 92 = .ok (.aload_n 0, 1) := by decide +kernel
theorem dX8_count_93 : decode cX8_count 93 = .ok (.getfield 10, 3) := by decide +kernel
theorem dX8_count_96 : decode cX8_count 96 = .ok (.getfield 78, 3) := by decide +kernel
theorem dX8_count_99 : decode cX8_count 99 = .ok (.ireturn, 1) := by decide +kernel
theorem dX8_count_100 : decode cX8_count 100 = .ok (.bipush (-3), 2) := by decide +kernel
theorem dX8_count_102 : decode cX8_count 102 = .ok (.ireturn, 1) := by decide +kernel
theorem dX8_isOutside_0 : decode cX8_isOutside 0 = .ok (.iload_n 0, 1) := by decide +kernel
theorem dX8_isOutside_1 : decode cX8_isOutside 1 = .ok (.iload_n 1, 1) := by decide +kernel
theorem dX8_isOutside_2 : decode cX8_isOutside 2 = .ok (.if_icmp .lt 8, 3) := by decide +kernel
theorem dX8_isOutside_5 : decode cX8_isOutside 5 = .ok (.iload_n 0, 1) := by decide +kernel
theorem dX8_isOutside_6 : decode cX8_isOutside 6 = .ok (.iload_n 2, 1) := by decide +kernel
theorem dX8_isOutside_7 : decode cX8_isOutside 7 = .ok (.if_icmp .le 7, 3) := by decide +kernel
theorem dX8_isOutside_10 : decode cX8_isOutside 10 = .ok (.iconst 1, 1) := by decide +kernel
theorem dX8_isOutside_11 : decode cX8_isOutside 11 = .ok (.goto 4, 3) := by decide +kernel
theorem dX8_isOutside_14 : decode cX8_isOutside 14 = .ok (.iconst 0, 1) := by decide +kernel
theorem dX8_isOutside_15 : decode cX8_isOutside 15 = .ok (.ireturn, 1) := by decide +kernel
theorem dX8_isNoMake_0 : decode cX8_isNoMake 0 = .ok (.iload_n 0, 1) := by decide +kernel
theorem dX8_isNoMake_1 : decode cX8_isNoMake 1 = .ok (.iconst 0, 1) := by decide +kernel
theorem dX8_isNoMake_2 : decode cX8_isNoMake 2 = .ok (.iconst 3, 1) := by decide +kernel
theorem dX8_isNoMake_3 : decode cX8_isNoMake 3 = .ok (.invokestatic 55, 3) := by decide +kernel
theorem dX8_isNoMake_6 : decode cX8_isNoMake 6 = .ok (.ireturn, 1) := by decide +kernel
theorem dX8_isNoPerson_0 : decode cX8_isNoPerson 0 = .ok (.iload_n 0, 1) := by decide +kernel
theorem dX8_isNoPerson_1 : decode cX8_isNoPerson 1 = .ok (.iconst 0, 1) := by decide +kernel
theorem dX8_isNoPerson_2 : decode cX8_isNoPerson 2 = .ok (.iconst 5, 1) := by decide +kernel
theorem dX8_isNoPerson_3 : decode cX8_isNoPerson 3 = .ok (.invokestatic 55, 3) := by decide +kernel
theorem dX8_isNoPerson_6 : decode cX8_isNoPerson 6 = .ok (.ireturn, 1) := by decide +kernel
theorem dX8_isNoClock_0 : decode cX8_isNoClock 0 = .ok (.iload_n 0, 1) := by decide +kernel
theorem dX8_isNoClock_1 : decode cX8_isNoClock 1 = .ok (.iconst 0, 1) := by decide +kernel
theorem dX8_isNoClock_2 : decode cX8_isNoClock 2 = .ok (.iconst 5, 1) := by decide +kernel
theorem dX8_isNoClock_3 : decode cX8_isNoClock 3 = .ok (.invokestatic 55, 3) := by decide +kernel
theorem dX8_isNoClock_6 : decode cX8_isNoClock 6 = .ok (.ireturn, 1) := by decide +kernel
end
section
theorem dX8_isNoEvent_0 : decode cX8_isNoEvent 0 = .ok (.iload_n 1, 1) := by decide +kernel
theorem dX8_isNoEvent_1 : decode cX8_isNoEvent 1 = .ok (.iconst 0, 1) := by decide +kernel
theorem dX8_isNoEvent_2 : decode cX8_isNoEvent 2 = .ok (.aload_n 0, 1) := by decide +kernel
theorem dX8_isNoEvent_3 : decode cX8_isNoEvent 3 = .ok (.getfield 47, 3) := by decide +kernel
theorem dX8_isNoEvent_6 : decode cX8_isNoEvent 6 = .ok (.getfield 282, 3) := by decide +kernel
theorem dX8_isNoEvent_9 : decode cX8_isNoEvent 9 = .ok (.iconst 1, 1) := by decide +kernel
theorem dX8_isNoEvent_10 : decode cX8_isNoEvent 10 = .ok (.isub, 1) := by decide +kernel
theorem dX8_isNoEvent_11 : decode cX8_isNoEvent 11 = .ok (.invokestatic 55, 3) := by decide +kernel
theorem dX8_isNoEvent_14 : decode cX8_isNoEvent 14 = .ok (.ireturn, 1) := by decide +kernel
theorem dX8_isNoLorry_0 : decode cX8_isNoLorry 0 = .ok (.iload_n 1, 1) := by decide +kernel
theorem dX8_isNoLorry_1 : decode cX8_isNoLorry 1 = .ok (.iconst 0, 1) := by decide +kernel
theorem dX8_isNoLorry_2 : decode cX8_isNoLorry 2 = .ok (.aload_n 0, 1) := by decide +kernel
theorem dX8_isNoLorry_3 : decode cX8_isNoLorry 3 = .ok (.getfield 19, 3) := by decide +kernel
theorem dX8_isNoLorry_6 : decode cX8_isNoLorry 6 = .ok (.getfield 103, 3) := by decide +kernel
theorem dX8_isNoLorry_9 : decode cX8_isNoLorry 9 = .ok (.iconst 1, 1) := by decide +kernel
theorem dX8_isNoLorry_10 : decode cX8_isNoLorry 10 = .ok (.isub, 1) := by decide +kernel
theorem dX8_isNoLorry_11 : decode cX8_isNoLorry 11 = .ok (.invokestatic 55, 3) := by decide +kernel
theorem dX8_isNoLorry_14 : decode cX8_isNoLorry 14 = .ok (.ireturn, 1) := by decide +kernel
theorem dX8_isNoFollower_0 : decode cX8_isNoFollower 0 = .ok (.iload_n 1, 1) := by decide +kernel
theorem dX8_isNoFollower_1 : decode cX8_isNoFollower 1 = .ok (.iconst 1, 1) := by decide +kernel
theorem dX8_isNoFollower_2 : decode cX8_isNoFollower 2 = .ok (.aload_n 0, 1) := by decide +kernel
theorem dX8_isNoFollower_3 : decode cX8_isNoFollower 3 = .ok (.getfield 19, 3) := by decide +kernel
theorem dX8_isNoFollower_6 : decode cX8_isNoFollower 6 = .ok (.getfield 103, 3) := by decide +kernel
theorem dX8_isNoFollower_9 : decode cX8_isNoFollower 9 = .ok (.iconst 1, 1) := by decide +kernel
theorem dX8_isNoFollower_10 : decode cX8_isNoFollower 10 = .ok (.isub, 1) := by decide +kernel
theorem dX8_isNoFollower_11 : decode cX8_isNoFollower 11 = .ok (.invokestatic 55, 3) := by decide +kernel
theorem dX8_isNoFollower_14 : decode cX8_isNoFollower 14 = .ok (.ireturn, 1) := by decide +kernel
theorem dX8_areNoPlaces_0 : decode cX8_areNoPlaces 0 = .ok (.iload_n 0, 1) := by decide +kernel
theorem dX8_areNoPlaces_1 : decode cX8_areNoPlaces 1 = .ok (.iconst 0, 1) := by decide +kernel
theorem dX8_areNoPlaces_2 : decode cX8_areNoPlaces 2 = .ok (.sipush 2000, 3) := by decide +kernel
theorem dX8_areNoPlaces_5 : decode cX8_areNoPlaces 5 = .ok (.invokestatic 55, 3) := by decide +kernel
theorem dX8_areNoPlaces_8 : decode cX8_areNoPlaces 8 = .ok (.ifCond .ne 14, 3) := by decide +kernel
theorem dX8_areNoPlaces_11 : decode cX8_areNoPlaces 11 = .ok (.iload_n 1, 1) := by decide +kernel
theorem dX8_areNoPlaces_12 : decode cX8_areNoPlaces 12 = .ok (.iload_n 0, 1) := by decide +kernel
theorem dX8_areNoPlaces_13 : decode cX8_areNoPlaces 13 = .ok (.sipush 2000, 3) := by decide +kernel
theorem dX8_areNoPlaces_16 : decode cX8_areNoPlaces 16 = .ok (.invokestatic 55, 3) := by decide +kernel
theorem dX8_areNoPlaces_19 : decode cX8_areNoPlaces 19 = .ok (.ifCond .eq 7, 3) := by decide +kernel
theorem dX8_areNoPlaces_22 : decode cX8_areNoPlaces 22 = .ok (.iconst 1, 1) := by decide +kernel
theorem dX8_areNoPlaces_23 : decode cX8_areNoPlaces 23 = .ok (.goto 4, 3) := by decide +kernel
theorem dX8_areNoPlaces_26 : decode cX8_areNoPlaces 26 = .ok (.iconst 0, 1) := by decide +kernel
theorem dX8_areNoPlaces_27 : decode cX8_areNoPlaces 27 = .ok (.ireturn, 1) := by decide +kernel
theorem dX8_areNoChances_0 : decode cX8_areNoChances 0 = .ok (.iload_n 0, 1) := by decide +kernel
theorem dX8_areNoChances_1 : decode cX8_areNoChances 1 = .ok (.iconst 0, 1) := by decide +kernel
theorem dX8_areNoChances_2 : decode cX8_areNoChances 2 = .ok (.iconst 4, 1) := by decide +kernel
theorem dX8_areNoChances_3 : decode cX8_areNoChances 3 = .ok (.invokestatic 55, 3) := by decide +kernel
theorem dX8_areNoChances_6 : decode cX8_areNoChances 6 = .ok (.ifCond .ne 12, 3) := by decide +kernel
theorem dX8_areNoChances_9 : decode cX8_areNoChances 9 = .ok (.iload_n 1, 1) := by decide +kernel
theorem dX8_areNoChances_10 : decode cX8_areNoChances 10 = .ok (.iconst 0, 1) := by decide +kernel
theorem dX8_areNoChances_11 : decode cX8_areNoChances 11 = .ok (.iconst 2, 1) := by decide +kernel
theorem dX8_areNoChances_12 : decode cX8_areNoChances 12 = .ok (.invokestatic 55, 3) := by decide +kernel
theorem dX8_areNoChances_15 : decode cX8_areNoChances 15 = .ok (.ifCond .eq 7, 3) := by decide +kernel
theorem dX8_areNoChances_18 : decode cX8_areNoChances 18 = .ok (.iconst 1, 1) := by decide +kernel
theorem dX8_areNoChances_19 : decode cX8_areNoChances 19 = .ok (.goto 4, 3) := by decide +kernel
theorem dX8_areNoChances_22 : decode cX8_areNoChances 22 = .ok (.iconst 0, 1) := by decide +kernel
theorem dX8_areNoChances_23 : decode cX8_areNoChances 23 = .ok (.ireturn, 1) := by decide +kernel
theorem dX8_driveAsTold_0 : decode cX8_driveAsTold 0 = .ok (.aload_n 0, 1) := by decide +kernel
theorem dX8_driveAsTold_1 : decode cX8_driveAsTold 1 = .ok (.getfield 26, 3) := by decide +kernel
theorem dX8_driveAsTold_4 : decode cX8_driveAsTold 4 = .ok (.aload_n 0, 1) := by decide +kernel
theorem dX8_driveAsTold_5 : decode cX8_driveAsTold 5 = .ok (.getfield 19, 3) := by decide +kernel
theorem dX8_driveAsTold_8 : decode cX8_driveAsTold 8 = .ok (.aload_n 0, 1) := by decide +kernel
theorem dX8_driveAsTold_9 : decode cX8_driveAsTold 9 = .ok (.getfield 19, 3) := by decide +kernel
theorem dX8_driveAsTold_12 : decode cX8_driveAsTold 12 = .ok (.getfield 116, 3) := by decide +kernel
theorem dX8_driveAsTold_15 : decode cX8_driveAsTold 15 = .ok (.iconst 0, 1) := by decide +kernel
theorem dX8_driveAsTold_16 : decode cX8_driveAsTold 16 = .ok (.iaload, 1) := by decide +kernel
theorem dX8_driveAsTold_17 : decode cX8_driveAsTold 17 = .ok (.aload_n 0, 1) := by decide +kernel
theorem dX8_driveAsTold_18 : decode cX8_driveAsTold 18 = .ok (.getfield 19, 3) := by decide +kernel
theorem dX8_driveAsTold_21 : decode cX8_driveAsTold 21 = .ok (.getfield 116, 3) := by decide +kernel
theorem dX8_driveAsTold_24 : decode cX8_driveAsTold 24 = .ok (.iconst 2, 1) := by decide +kernel
theorem dX8_driveAsTold_25 : decode cX8_driveAsTold 25 = .ok (.iaload, 1) := by decide +kernel
theorem dX8_driveAsTold_26 : decode cX8_driveAsTold 26 = .ok (.aload_n 0, 1) := by decide +kernel
theorem dX8_driveAsTold_27 : decode cX8_driveAsTold 27 = .ok (.getfield 19, 3) := by decide +kernel
theorem dX8_driveAsTold_30 : decode cX8_driveAsTold 30 = .ok (.getfield 128, 3) := by decide +kernel
theorem dX8_driveAsTold_33 : decode cX8_driveAsTold 33 = .ok (.invokevirtual 316, 3) := by decide +kernel
theorem dX8_driveAsTold_36 : decode cX8_driveAsTold 36 = .ok (.return_, 1) := by decide +kernel
theorem dX9_init_0 : decode cX9_init 0 = .ok (.aload_n 0, 1) := by decide +kernel
theorem dX9_init_1 : decode cX9_init 1 = .ok (.invokespecial 1, 3) := by decide +kernel
theorem dX9_init_4 : decode cX9_init 4 = .ok (.aload_n 0, 1) := by decide +kernel
theorem dX9_init_5 : decode cX9_init 5 = .ok (.iconst 4, 1) := by decide +kernel
theorem dX9_init_6 : decode cX9_init 6 = .ok (.newarray .int, 2) := by decide +kernel
theorem dX9_init_8 : decode cX9_init 8 = .ok (.dup, 1) := by decide +kernel
theorem dX9_init_9 : decode cX9_init 9 = .ok (.iconst 0, 1) := by decide +kernel
theorem dX9_init_10 : decode cX9_init 10 = .ok (.iconst 1, 1) := by decide +kernel
theorem dX9_init_11 : decode cX9_init 11 = .ok (.iastore, 1) := by decide +kernel
theorem dX9_init_12 : decode cX9_init 12 = .ok (.dup, 1) := by decide +kernel
theorem dX9_init_13 : decode cX9_init 13 = .ok (.iconst 1, 1) := by decide +kernel
theorem dX9_init_14 : decode cX9_init 14 = .ok (.iconst 1, 1) := by decide +kernel
theorem dX9_init_15 : decode cX9_init 15 = .ok (.iastore, 1) := by decide +kernel
theorem dX9_init_16 : decode cX9_init 16 = .ok (.dup, 1) := by decide +kernel
theorem dX9_init_17 : decode cX9_init 17 = .ok (.iconst 2, 1) := by decide +kernel
theorem dX9_init_18 : decode cX9_init 18 = .ok (.iconst 1, 1) := by decide +kernel
theorem dX9_init_19 : decode cX9_init 19 = .ok (.iastore, 1) := by decide +kernel
theorem dX9_init_20 : decode cX9_init 20 = .ok (.dup, 1) := by decide +kernel
theorem dX9_init_21 : decode cX9_init 21 = .ok (.iconst 3, 1) := by decide +kernel
theorem dX9_init_22 : decode cX9_init 22 = .ok (.iconst 1, 1) := by decide +kernel
theorem dX9_init_23 : decode cX9_init 23 = .ok (.iastore, 1) := by decide +kernel
theorem dX9_init_24 : decode cX9_init 24 = .ok (.putfield 7, 3) := by decide +kernel
theorem dX9_init_27 : decode cX9_init 27 = .ok (.aload_n 0, 1) := by decide +kernel
theorem dX9_init_28 : decode cX9_init 28 = .ok (.iconst 4, 1) := by decide +kernel
theorem dX9_init_29 : decode cX9_init 29 = .ok (.newarray .int, 2) := by decide +kernel
theorem dX9_init_31 : decode cX9_init 31 = .ok (.dup, 1) := by decide +kernel
theorem dX9_init_32 : decode cX9_init 32 = .ok (.iconst 0, 1) := by decide +kernel
theorem dX9_init_33 : decode cX9_init 33 = .ok (.iconst 4, 1) := by decide +kernel
theorem dX9_init_34 : decode cX9_init 34 = .ok (.iastore, 1) := by decide +kernel
theorem dX9_init_35 : decode cX9_init 35 = .ok (.dup, 1) := by decide +kernel
theorem dX9_init_36 : decode cX9_init 36 = .ok (.iconst 1, 1) := by decide +kernel
theorem dX9_init_37 : decode cX9_init 37 = .ok (.iconst 4, 1) := by decide +kernel
theorem dX9_init_38 : decode cX9_init 38 = .ok (.iastore, 1) := by decide +kernel
theorem dX9_init_39 : decode cX9_init 39 = .ok (.dup, 1) := by decide +kernel
theorem dX9_init_40 : decode cX9_init 40 = .ok (.iconst 2, 1) := by decide +kernel
theorem dX9_init_41 : decode cX9_init 41 = .ok (.iconst 4, 1) := by decide +kernel
theorem dX9_init_42 : decode cX9_init 42 = .ok (.iastore, 1) := by decide +kernel
theorem dX9_init_43 : decode cX9_init 43 = .ok (.dup, 1) := by decide +kernel
theorem dX9_init_44 : decode cX9_init 44 = .ok (.iconst 3, 1) := by decide +kernel
theorem dX9_init_45 : decode cX9_init 45 = .ok (.iconst 4, 1) := by decide +kernel
theorem dX9_init_46 : decode cX9_init 46 = .ok (.iastore, 1) := by decide +kernel
theorem dX9_init_47 : decode cX9_init 47 = .ok (.putfield 13, 3) := by decide +kernel
theorem dX9_init_50 : decode cX9_init 50 = .ok (.aload_n 0, 1) := by decide +kernel
theorem dX9_init_51 : decode cX9_init 51 = .ok (.iconst 4, 1) := by decide +kernel
theorem dX9_init_52 : decode cX9_init 52 = .ok (.newarray .int, 2) := by decide +kernel
theorem dX9_init_54 : decode cX9_init 54 = .ok (.dup, 1) := by decide +kernel
theorem dX9_init_55 : decode cX9_init 55 = .ok (.iconst 0, 1) := by decide +kernel
theorem dX9_init_56 : decode cX9_init 56 = .ok (.iconst 2, 1) := by decide +kernel
theorem dX9_init_57 : decode cX9_init 57 = .ok (.iastore, 1) := by decide +kernel
theorem dX9_init_58 : decode cX9_init 58 = .ok (.dup, 1) := by decide +kernel
theorem dX9_init_59 : decode cX9_init 59 = .ok (.iconst 1, 1) := by decide +kernel
theorem dX9_init_60 : decode cX9_init 60 = .ok (.iconst 2, 1) := by decide +kernel
theorem dX9_init_61 : decode cX9_init 61 = .ok (.iastore, 1) := by decide +kernel
theorem dX9_init_62 : decode cX9_init 62 = .ok (.dup, 1) := by decide +kernel
theorem dX9_init_63 : decode cX9_init 63 = .ok (.iconst 2, 1) := by decide +kernel
theorem dX9_init_64 : decode cX9_init 64 = .ok (.iconst 2, 1) := by decide +kernel
theorem dX9_init_65 : decode cX9_init 65 = .ok (.iastore, 1) := by decide +kernel
theorem dX9_init_66 : decode cX9_init 66 = .ok (.dup, 1) := by decide +kernel
theorem dX9_init_67 : decode cX9_init 67 = .ok (.iconst 3, 1) := by decide +kernel
theorem dX9_init_68 : decode cX9_init 68 = .ok (.iconst 2, 1) := by decide +kernel
theorem dX9_init_69 : decode cX9_init 69 = .ok (.iastore, 1) := by decide +kernel
theorem dX9_init_70 : decode cX9_init 70 = .ok (.putfield 16, 3) := by decide +kernel
theorem dX9_init_73 : decode cX9_init 73 = .ok (.aload_n 0, 1) := by decide +kernel
theorem dX9_init_74 : decode cX9_init 74 = .ok (.iconst 4, 1) := by decide +kernel
theorem dX9_init_75 : decode cX9_init 75 = .ok (.newarray .int, 2) := by decide +kernel
theorem dX9_init_77 : decode cX9_init 77 = .ok (.putfield 19, 3) := by decide +kernel
theorem dX9_init_80 : decode cX9_init 80 = .ok (.aload_n 0, 1) := by decide +kernel
theorem dX9_init_81 : decode cX9_init 81 = .ok (.sipush 160, 3) := by decide +kernel
theorem dX9_init_84 : decode cX9_init 84 = .ok (.newarray .int, 2) := by decide +kernel
theorem dX9_init_86 : decode cX9_init 86 = .ok (.putfield 22, 3) := by decide +kernel
theorem dX9_init_89 : decode cX9_init 89 = .ok (.aload_n 0, 1) := by decide +kernel
theorem dX9_init_90 : decode cX9_init 90 = .ok (.iconst 5, 1) := by decide +kernel
theorem dX9_init_91 : decode cX9_init 91 = .ok (.newarray .int, 2) := by decide +kernel
theorem dX9_init_93 : decode cX9_init 93 = .ok (.putfield 25, 3) := by decide +kernel
theorem dX9_init_96 : decode cX9_init 96 = .ok (.aload_n 0, 1) := by decide +kernel
theorem dX9_init_97 : decode cX9_init 97 = .ok (.bipush 30, 2) := by decide +kernel
theorem dX9_init_99 : decode cX9_init 99 = .ok (.newarray .int, 2) := by decide +kernel
theorem dX9_init_101 : decode cX9_init 101 = .ok (.putfield 28, 3) := by decide +kernel
theorem dX9_init_104 : decode cX9_init 104 = .ok (.aload_n 0, 1) := by decide +kernel
theorem dX9_init_105 : decode cX9_init 105 = .ok (.bipush 30, 2) := by decide +kernel
theorem dX9_init_107 : decode cX9_init 107 = .ok (.newarray .int, 2) := by decide +kernel
theorem dX9_init_109 : decode cX9_init 109 = .ok (.putfield 31, 3) := by decide +kernel
theorem dX9_init_112 : decode cX9_init 112 = .ok (.aload_n 0, 1) := by decide +kernel
theorem dX9_init_113 : decode cX9_init 113 = .ok (.bipush 30, 2) := by decide +kernel
theorem dX9_init_115 : decode cX9_init 115 = .ok (.newarray .int, 2) := by decide +kernel
theorem dX9_init_117 : decode cX9_init 117 = .ok (.putfield 34, 3) := by decide +kernel
theorem dX9_init_120 : decode cX9_init 120 = .ok (.aload_n 0, 1) := by decide +kernel
theorem dX9_init_121 : decode cX9_init 121 = .ok (.bipush 120, 2) := by decide +kernel
theorem dX9_init_123 : decode cX9_init 123 = .ok (.newarray .int, 2) := by decide +kernel
theorem dX9_init_125 : decode cX9_init 125 = .ok (.putfield 37, 3) := by decide +kernel
theorem dX9_init_128 : decode cX9_init 128 = .ok (.aload_n 0, 1) := by decide +kernel
theorem dX9_init_129 : decode cX9_init 129 = .ok (.bipush 120, 2) := by decide +kernel
theorem dX9_init_131 : decode cX9_init 131 = .ok (.newarray .int, 2) := by decide +kernel
theorem dX9_init_133 : decode cX9_init 133 = .ok (.putfield 40, 3) := by decide +kernel
theorem dX9_init_136 : decode cX9_init 136 = .ok (.aload_n 0, 1) := by decide +kernel
theorem dX9_init_137 : decode cX9_init 137 = .ok (.bipush 120, 2) := by decide +kernel
theorem dX9_init_139 : decode cX9_init 139 = .ok (.newarray .int, 2) := by decide +kernel
theorem dX9_init_141 : decode cX9_init 141 = .ok (.putfield 43, 3) := by decide +kernel
theorem dX9_init_144 : decode cX9_init 144 = .ok (.aload_n 0, 1) := by decide +kernel
theorem dX9_init_145 : decode cX9_init 145 = .ok (.iconst 1, 1) := by decide +kernel
theorem dX9_init_146 : decode cX9_init 146 = .ok (.putfield 46, 3) := by decide +kernel
theorem dX9_init_149 : decode cX9_init 149 = .ok (.aload_n 0, 1) := by decide +kernel
theorem dX9_init_150 : decode cX9_init 150 = .ok (.bipush 6, 2) := by decide +kernel
theorem dX9_init_152 : decode cX9_init 152 = .ok (.newarray .int, 2) := by decide +kernel
theorem dX9_init_154 : decode cX9_init 154 = .ok (.putfield 50, 3) := by decide +kernel
theorem dX9_init_157 : decode cX9_init 157 = .ok (.aload_n 0, 1) := by decide +kernel
theorem dX9_init_158 : decode cX9_init 158 = .ok (.iconst 5, 1) := by decide +kernel
theorem dX9_init_159 : decode cX9_init 159 = .ok (.newarray .int, 2) := by decide +kernel
theorem dX9_init_161 : decode cX9_init 161 = .ok (.dup, 1) := by decide +kernel
theorem dX9_init_162 : decode cX9_init 162 = .ok (.iconst 0, 1) := by decide +kernel
theorem dX9_init_163 : decode cX9_init 163 = .ok (.bipush 10, 2) := by decide +kernel
theorem dX9_init_165 : decode cX9_init 165 = .ok (.iastore, 1) := by decide +kernel
theorem dX9_init_166 : decode cX9_init 166 = .ok (.dup, 1) := by decide +kernel
theorem dX9_init_167 : decode cX9_init 167 = .ok (.iconst 1, 1) := by decide +kernel
theorem dX9_init_168 : decode cX9_init 168 = .ok (.bipush 20, 2) := by decide +kernel
theorem dX9_init_170 : decode cX9_init 170 = .ok (.iastore, 1) := by decide +kernel
theorem dX9_init_171 : decode cX9_init 171 = .ok (.dup, 1) := by decide +kernel
theorem dX9_init_172 : decode cX9_init 172 = .ok (.iconst 2, 1) := by decide +kernel
theorem dX9_init_173 : decode cX9_init 173 = .ok (.iconst 1, 1) := by decide +kernel
theorem dX9_init_174 : decode cX9_init 174 = .ok (.iastore, 1) := by decide +kernel
theorem dX9_init_175 : decode cX9_init 175 = .ok (.dup, 1) := by decide +kernel
theorem dX9_init_176 : decode cX9_init 176 = .ok (.iconst 3, 1) := by decide +kernel
theorem dX9_init_177 : decode cX9_init 177 = .ok (.iconst 2, 1) := by decide +kernel
theorem dX9_init_178 : decode cX9_init 178 = .ok (.iastore, 1) := by decide +kernel
theorem dX9_init_179 : decode cX9_init 179 = .ok (.dup, 1) := by decide +kernel
theorem dX9_init_180 : decode cX9_init 180 = .ok (.iconst 4, 1) := by decide +kernel
theorem dX9_init_181 : decode cX9_init 181 = .ok (.iconst 1, 1) := by decide +kernel
theorem dX9_init_182 : decode cX9_init 182 = .ok (.iastore, 1) := by decide +kernel
theorem dX9_init_183 : decode cX9_init 183 = .ok (.putfield 53, 3) := by decide +kernel
theorem dX9_init_186 : decode cX9_init 186 = .ok (.aload_n 0, 1) := by decide +kernel
theorem dX9_init_187 : decode cX9_init 187 = .ok (.bipush 8, 2) := by decide +kernel
theorem dX9_init_189 : decode cX9_init 189 = .ok (.newarray .int, 2) := by decide +kernel
theorem dX9_init_191 : decode cX9_init 191 = .ok (.putfield 56, 3) := by decide +kernel
theorem dX9_init_194 : decode cX9_init 194 = .ok (.aload_n 0, 1) := by decide +kernel
theorem dX9_init_195 : decode cX9_init 195 = .ok (.bipush 8, 2) := by decide +kernel
theorem dX9_init_197 : decode cX9_init 197 = .ok (.newarray .int, 2) := by decide +kernel
theorem dX9_init_199 : decode cX9_init 199 = .ok (.putfield 59, 3) := by decide +kernel
theorem dX9_init_202 : decode cX9_init 202 = .ok (.aload_n 0, 1) := by decide +kernel
theorem dX9_init_203 : decode cX9_init 203 = .ok (.iconst 2, 1) := by decide +kernel
theorem dX9_init_204 : decode cX9_init 204 = .ok (.newarray .int, 2) := by decide +kernel
theorem dX9_init_206 : decode cX9_init 206 = .ok (.putfield 62, 3) := by decide +kernel
theorem dX9_init_209 : decode cX9_init 209 = .ok (.aload_n 0, 1) := by decide +kernel
theorem dX9_init_210 : decode cX9_init 210 = .ok (.iconst 2, 1) := by decide +kernel
theorem dX9_init_211 : decode cX9_init 211 = .ok (.newarray .int, 2) := by decide +kernel
theorem dX9_init_213 : decode cX9_init 213 = .ok (.putfield 65, 3) := by decide +kernel
theorem dX9_init_216 : decode cX9_init 216 = .ok (.aload_n 0, 1) := by decide +kernel
theorem dX9_init_217 : decode cX9_init 217 = .ok (.iconst 2, 1) := by decide +kernel
theorem dX9_init_218 : decode cX9_init 218 = .ok (.newarray .int, 2) := by decide +kernel
theorem dX9_init_220 : decode cX9_init 220 = .ok (.putfield 68, 3) := by decide +kernel
theorem dX9_init_223 : decode cX9_init 223 = .ok (.aload_n 0, 1) := by decide +kernel
theorem dX9_init_224 : decode cX9_init 224 = .ok (.iconst 2, 1) := by decide +kernel
theorem dX9_init_225 : decode cX9_init 225 = .ok (.newarray .int, 2) := by decide +kernel
theorem dX9_init_227 : decode cX9_init 227 = .ok (.putfield 71, 3) := by decide +kernel
theorem dX9_init_230 : decode cX9_init 230 = .ok (.aload_n 0, 1) := by decide +kernel
theorem dX9_init_231 : decode cX9_init 231 = .ok (.iconst 5, 1) := by decide +kernel
theorem dX9_init_232 : decode cX9_init 232 = .ok (.newarray .int, 2) := by decide +kernel
theorem dX9_init_234 : decode cX9_init 234 = .ok (.putfield 74, 3) := by decide +kernel
theorem dX9_init_237 : decode cX9_init 237 = .ok (.aload_n 0, 1) := by decide +kernel
theorem dX9_init_238 : decode cX9_init 238 = .ok (.iconst 5, 1) := by decide +kernel
theorem dX9_init_239 : decode cX9_init 239 = .ok (.newarray .int, 2) := by decide +kernel
theorem dX9_init_241 : decode cX9_init 241 = .ok (.putfield 77, 3) := by decide +kernel
theorem dX9_init_244 : decode cX9_init 244 = .ok (.aload_n 0, 1) := by decide +kernel
theorem dX9_init_245 : decode cX9_init 245 = .ok (.iconst 5, 1) := by decide +kernel
theorem dX9_init_246 : decode cX9_init 246 = .ok (.newarray .int, 2) := by decide +kernel
theorem dX9_init_248 : decode cX9_init 248 = .ok (.putfield 80, 3) := by decide +kernel
theorem dX9_init_251 : decode cX9_init 251 = .ok (.aload_n 0, 1) := by decide +kernel
theorem dX9_init_252 : decode cX9_init 252 = .ok (.iconst 5, 1) := by decide +kernel
theorem dX9_init_253 : decode cX9_init 253 = .ok (.newarray .int, 2) := by decide +kernel
theorem dX9_init_255 : decode cX9_init 255 = .ok (.putfield 83, 3) := by decide +kernel
theorem dX9_init_258 : decode cX9_init 258 = .ok (.aload_n 0, 1) := by decide +kernel
theorem dX9_init_259 : decode cX9_init 259 = .ok (.iconst 5, 1) := by decide +kernel
theorem dX9_init_260 : decode cX9_init 260 = .ok (.newarray .int, 2) := by decide +kernel
theorem dX9_init_262 : decode cX9_init 262 = .ok (.putfield 86, 3) := by decide +kernel
theorem dX9_init_265 : decode cX9_init 265 = .ok (.aload_n 0, 1) := by decide +kernel
theorem dX9_init_266 : decode cX9_init 266 = .ok (.bipush 36, 2) := by decide +kernel
theorem dX9_init_268 : decode cX9_init 268 = .ok (.newarray .int, 2) := by decide +kernel
theorem dX9_init_270 : decode cX9_init 270 = .ok (.putfield 89, 3) := by decide +kernel
theorem dX9_init_273 : decode cX9_init 273 = .ok (.aload_n 0, 1) := by decide +kernel
theorem dX9_init_274 : decode cX9_init 274 = .ok (.bipush 6, 2) := by decide +kernel
theorem dX9_init_276 : decode cX9_init 276 = .ok (.newarray .int, 2) := by decide +kernel
theorem dX9_init_278 : decode cX9_init 278 = .ok (.putfield 92, 3) := by decide +kernel
theorem dX9_init_281 : decode cX9_init 281 = .ok (.aload_n 0, 1) := by decide +kernel
theorem dX9_init_282 : decode cX9_init 282 = .ok (.bipush 12, 2) := by decide +kernel
theorem dX9_init_284 : decode cX9_init 284 = .ok (.newarray .int, 2) := by decide +kernel
theorem dX9_init_286 : decode cX9_init 286 = .ok (.putfield 95, 3) := by decide +kernel
theorem dX9_init_289 : decode cX9_init 289 = .ok (.aload_n 0, 1) := by decide +kernel
theorem dX9_init_290 : decode cX9_init 290 = .ok (.bipush 12, 2) := by decide +kernel
theorem dX9_init_292 : decode cX9_init 292 = .ok (.newarray .int, 2) := by decide +kernel
theorem dX9_init_294 : decode cX9_init 294 = .ok (.putfield 98, 3) := by decide +kernel
theorem dX9_init_297 : decode cX9_init 297 = .ok (.aload_n 0, 1) := by decide +kernel
theorem dX9_init_298 : decode cX9_init 298 = .ok (.bipush 12, 2) := by decide +kernel
theorem dX9_init_300 : decode cX9_init 300 = .ok (.newarray .int, 2) := by decide +kernel
theorem dX9_init_302 : decode cX9_init 302 = .ok (.putfield 101, 3) := by decide +kernel
theorem dX9_init_305 : decode cX9_init 305 = .ok (.aload_n 0, 1) := by decide +kernel
theorem dX9_init_306 : decode cX9_init 306 = .ok (.bipush 12, 2) := by decide +kernel
theorem dX9_init_308 : decode cX9_init 308 = .ok (.newarray .int, 2) := by decide +kernel
theorem dX9_init_310 : decode cX9_init 310 = .ok (.putfield 104, 3) := by decide +kernel
theorem dX9_init_313 : decode cX9_init 313 = .ok (.aload_n 0, 1) := by decide +kernel
theorem dX9_init_314 : decode cX9_init 314 = .ok (.bipush 12, 2) := by decide +kernel
theorem dX9_init_316 : decode cX9_init 316 = .ok (.newarray .int, 2) := by decide +kernel
theorem dX9_init_318 : decode cX9_init 318 = .ok (.putfield 107, 3) := by decide +kernel
theorem dX9_init_321 : decode cX9_init 321 = .ok (.aload_n 0, 1) := by decide +kernel
theorem dX9_init_322 : decode cX9_init 322 = .ok (.sipush 192, 3) := by decide +kernel
theorem dX9_init_325 : decode cX9_init 325 = .ok (.newarray .int, 2) := by decide +kernel
theorem dX9_init_327 : decode cX9_init 327 = .ok (.putfield 110, 3) := by decide +kernel
theorem dX9_init_330 : decode cX9_init 330 = .ok (.aload_n 0, 1) := by decide +kernel
theorem dX9_init_331 : decode cX9_init 331 = .ok (.sipush 192, 3) := by decide +kernel
theorem dX9_init_334 : decode cX9_init 334 = .ok (.newarray .int, 2) := by decide +kernel
theorem dX9_init_336 : decode cX9_init 336 = .ok (.putfield 113, 3) := by decide +kernel
theorem dX9_init_339 : decode cX9_init 339 = .ok (.aload_n 0, 1) := by decide +kernel
theorem dX9_init_340 : decode cX9_init 340 = .ok (.sipush 192, 3) := by decide +kernel
theorem dX9_init_343 : decode cX9_init 343 = .ok (.newarray .int, 2) := by decide +kernel
theorem dX9_init_345 : decode cX9_init 345 = .ok (.putfield 116, 3) := by decide +kernel
theorem dX9_init_348 : decode cX9_init 348 = .ok (.aload_n 0, 1) := by decide +kernel
theorem dX9_init_349 : decode cX9_init 349 = .ok (.sipush 192, 3) := by decide +kernel
theorem dX9_init_352 : decode cX9_init 352 = .ok (.newarray .int, 2) := by decide +kernel
theorem dX9_init_354 : decode cX9_init 354 = .ok (.putfield 119, 3) := by decide +kernel
theorem dX9_init_357 : decode cX9_init 357 = .ok (.aload_n 0, 1) := by decide +kernel
theorem dX9_init_358 : decode cX9_init 358 = .ok (.sipush 192, 3) := by decide +kernel
theorem dX9_init_361 : decode cX9_init 361 = .ok (.newarray .int, 2) := by decide +kernel
theorem dX9_init_363 : decode cX9_init 363 = .ok (.putfield 122, 3) := by decide +kernel
theorem dX9_init_366 : decode cX9_init 366 = .ok (.aload_n 0, 1) := by decide +kernel
theorem dX9_init_367 : decode cX9_init 367 = .ok (.sipush 192, 3) := by decide +kernel
theorem dX9_init_370 : decode cX9_init 370 = .ok (.newarray .int, 2) := by decide +kernel
theorem dX9_init_372 : decode cX9_init 372 = .ok (.putfield 125, 3) := by decide +kernel
theorem dX9_init_375 : decode cX9_init 375 = .ok (.aload_n 0, 1) := by decide +kernel
theorem dX9_init_376 : decode cX9_init 376 = .ok (.bipush 32, 2) := by decide +kernel
theorem dX9_init_378 : decode cX9_init 378 = .ok (.newarray .int, 2) := by decide +kernel
theorem dX9_init_380 : decode cX9_init 380 = .ok (.putfield 128, 3) := by decide +kernel
theorem dX9_init_383 : decode cX9_init 383 = .ok (.aload_n 0, 1) := by decide +kernel
theorem dX9_init_384 : decode cX9_init 384 = .ok (.bipush 6, 2) := by decide +kernel
theorem dX9_init_386 : decode cX9_init 386 = .ok (.newarray .int, 2) := by decide +kernel
theorem dX9_init_388 : decode cX9_init 388 = .ok (.putfield 131, 3) := by decide +kernel
theorem dX9_init_391 : decode cX9_init 391 = .ok (.aload_n 0, 1) := by decide +kernel
theorem dX9_init_392 : decode cX9_init 392 = .ok (.bipush 6, 2) := by decide +kernel
theorem dX9_init_394 : decode cX9_init 394 = .ok (.newarray .int, 2) := by decide +kernel
theorem dX9_init_396 : decode cX9_init 396 = .ok (.putfield 134, 3) := by decide +kernel
theorem dX9_init_399 : decode cX9_init 399 = .ok (.aload_n 0, 1) := by decide +kernel
theorem dX9_init_400 : decode cX9_init 400 = .ok (.bipush 6, 2) := by decide +kernel
theorem dX9_init_402 : decode cX9_init 402 = .ok (.newarray .int, 2) := by decide +kernel
theorem dX9_init_404 : decode cX9_init 404 = .ok (.putfield 137, 3) := by decide +kernel
theorem dX9_init_407 : decode cX9_init 407 = .ok (.aload_n 0, 1) := by decide +kernel
theorem dX9_init_408 : decode cX9_init 408 = .ok (.iconst 5, 1) := by decide +kernel
theorem dX9_init_409 : decode cX9_init 409 = .ok (.newarray .int, 2) := by decide +kernel
theorem dX9_init_411 : decode cX9_init 411 = .ok (.putfield 140, 3) := by decide +kernel
theorem dX9_init_414 : decode cX9_init 414 = .ok (.aload_n 0, 1) := by decide +kernel
theorem dX9_init_415 : decode cX9_init 415 = .ok (.iconst 5, 1) := by decide +kernel
theorem dX9_init_416 : decode cX9_init 416 = .ok (.newarray .int, 2) := by decide +kernel
theorem dX9_init_418 : decode cX9_init 418 = .ok (.putfield 143, 3) := by decide +kernel
theorem dX9_init_421 : decode cX9_init 421 = .ok (.aload_n 0, 1) := by decide +kernel
theorem dX9_init_422 : decode cX9_init 422 = .ok (.bipush 6, 2) := by decide +kernel
theorem dX9_init_424 : decode cX9_init 424 = .ok (.newarray .int, 2) := by decide +kernel
theorem dX9_init_426 : decode cX9_init 426 = .ok (.putfield 146, 3) := by decide +kernel
theorem dX9_init_429 : decode cX9_init 429 = .ok (.aload_n 0, 1) := by decide +kernel
theorem dX9_init_430 : decode cX9_init 430 = .ok (.bipush 6, 2) := by decide +kernel
theorem dX9_init_432 : decode cX9_init 432 = .ok (.newarray .int, 2) := by decide +kernel
theorem dX9_init_434 : decode cX9_init 434 = .ok (.putfield 149, 3) := by decide +kernel
theorem dX9_init_437 : decode cX9_init 437 = .ok (.return_, 1) := by decide +kernel
theorem dX9_in_0 : decode cX9_in 0 = .ok (.lload_n 0, 1) := by decide +kernel
theorem dX9_in_1 : decode cX9_in 1 = .ok (.lload_n 2, 1) := by decide +kernel
theorem dX9_in_2 : decode cX9_in 2 = .ok (.lcmp, 1) := by decide +kernel
theorem dX9_in_3 : decode cX9_in 3 = .ok (.ifCond .lt 14, 3) := by decide +kernel
theorem dX9_in_6 : decode cX9_in 6 = .ok (.lload_n 0, 1) := by decide +kernel
theorem dX9_in_7 : decode cX9_in 7 = .ok (.lload 4, 2) := by decide +kernel
theorem dX9_in_9 : decode cX9_in 9 = .ok (.lcmp, 1) := by decide +kernel
theorem dX9_in_10 : decode cX9_in 10 = .ok (.ifCond .gt 7, 3) := by decide +kernel
theorem dX9_in_13 : decode cX9_in 13 = .ok (.iconst 1, 1) := by decide +kernel
theorem dX9_in_14 : decode cX9_in 14 = .ok (.goto 4, 3) := by decide +kernel
theorem dX9_in_17 : decode cX9_in 17 = .ok (.iconst 0, 1) := by decide +kernel
theorem dX9_in_18 : decode cX9_in 18 = .ok (.ireturn, 1) := by decide +kernel
theorem dX9_isMake_0 : decode cX9_isMake 0 = .ok (.iload_n 0, 1) := by decide +kernel
theorem dX9_isMake_1 : decode cX9_isMake 1 = .ok (.i2l, 1) := by decide +kernel
theorem dX9_isMake_2 : decode cX9_isMake 2 = .ok (.lconst 0, 1) := by decide +kernel
theorem dX9_isMake_3 : decode cX9_isMake 3 = .ok (.ldc2_w 152, 3) := by decide +kernel
theorem dX9_isMake_6 : decode cX9_isMake 6 = .ok (.invokestatic 154, 3) := by decide +kernel
theorem dX9_isMake_9 : decode cX9_isMake 9 = .ok (.ireturn, 1) := by decide +kernel
theorem dX9_isSix_0 : decode cX9_isSix 0 = .ok (.iload_n 0, 1) := by decide +kernel
theorem dX9_isSix_1 : decode cX9_isSix 1 = .ok (.i2l, 1) := by decide +kernel
theorem dX9_isSix_2 : decode cX9_isSix 2 = .ok (.lconst 0, 1) := by decide +kernel
theorem dX9_isSix_3 : decode cX9_isSix 3 = .ok (.ldc2_w 158, 3) := by decide +kernel
theorem dX9_isSix_6 : decode cX9_isSix 6 = .ok (.invokestatic 154, 3) := by decide +kernel
theorem dX9_isSix_9 : decode cX9_isSix 9 = .ok (.ireturn, 1) := by decide +kernel
theorem dX9_lesser_0 : decode cX9_lesser 0 = .ok (.iload_n 0, 1) := by decide +kernel
theorem dX9_lesser_1 : decode cX9_lesser 1 = .ok (.iload_n 1, 1) := by decide +kernel
theorem dX9_lesser_2 : decode cX9_lesser 2 = .ok (.if_icmp .ge 7, 3) := by decide +kernel
theorem dX9_lesser_5 : decode cX9_lesser 5 = .ok (.iload_n 0, 1) := by decide +kernel
theorem dX9_lesser_6 : decode cX9_lesser 6 = .ok (.goto 4, 3) := by decide +kernel
theorem dX9_lesser_9 : decode cX9_lesser 9 = .ok (.iload_n 1, 1) := by decide +kernel
theorem dX9_lesser_10 : decode cX9_lesser 10 = .ok (.ireturn, 1) := by decide +kernel
theorem dX9_make_0 : decode cX9_make 0 = .ok (.iload_n 1, 1) := by decide +kernel
theorem dX9_make_1 : decode cX9_make 1 = .ok (.invokestatic 160, 3) := by decide +kernel
theorem dX9_make_4 : decode cX9_make 4 = .ok (.ifCond .ne 6, 3) := by decide +kernel
theorem dX9_make_7 : decode cX9_make 7 = .ok (.bipush (-2), 2) := by decide +kernel
theorem dX9_make_9 : decode cX9_make 9 = .ok (.ireturn, 1) := by decide +kernel
theorem dX9_make_10 : decode cX9_make 10 = .ok (.iload_n 2, 1) := by decide +kernel
theorem dX9_make_11 : decode cX9_make 11 = .ok (.i2l, 1) := by decide +kernel
theorem dX9_make_12 : decode cX9_make 12 = .ok (.lconst 1, 1) := by decide +kernel
theorem dX9_make_13 : decode cX9_make 13 = .ok (.ldc2_w 164, 3) := by decide +kernel
theorem dX9_make_16 : decode cX9_make 16 = .ok (.invokestatic 154, 3) := by decide +kernel
theorem dX9_make_19 : decode cX9_make 19 = .ok (.ifCond .eq 41, 3) := by decide +kernel
theorem dX9_make_22 : decode cX9_make 22 = .ok (.iload_n 3, 1) := by decide +kernel
theorem dX9_make_23 : decode cX9_make 23 = .ok (.i2l, 1) := by decide +kernel
theorem dX9_make_24 : decode cX9_make 24 = .ok (.lconst 1, 1) := by decide +kernel
theorem dX9_make_25 : decode cX9_make 25 = .ok (.ldc2_w 166, 3) := by decide +kernel
theorem dX9_make_28 : decode cX9_make 28 = .ok (.invokestatic 154, 3) := by decide +kernel
theorem dX9_make_31 : decode cX9_make 31 = .ok (.ifCond .eq 29, 3) := by decide +kernel
theorem dX9_make_34 : decode cX9_make 34 = .ok (.iload 4, 2) := by decide +kernel
theorem dX9_make_36 : decode cX9_make 36 = .ok (.i2l, 1) := by decide +kernel
theorem dX9_make_37 : decode cX9_make 37 = .ok (.lconst 1, 1) := by decide +kernel
theorem dX9_make_38 : decode cX9_make 38 = .ok (.ldc2_w 158, 3) := by decide +kernel
theorem dX9_make_41 : decode cX9_make 41 = .ok (.invokestatic 154, 3) := by decide +kernel
theorem dX9_make_44 : decode cX9_make 44 = .ok (.ifCond .eq 16, 3) := by decide +kernel
theorem dX9_make_47 : decode cX9_make 47 = .ok (.iload 5, 2) := by decide +kernel
theorem dX9_make_49 : decode cX9_make 49 = .ok (.i2l, 1) := by decide +kernel
theorem dX9_make_50 : decode cX9_make 50 = .ok (.lconst 0, 1) := by decide +kernel
theorem dX9_make_51 : decode cX9_make 51 = .ok (.ldc2_w 152, 3) := by decide +kernel
theorem dX9_make_54 : decode cX9_make 54 = .ok (.invokestatic 154, 3) := by decide +kernel
theorem dX9_make_57 : decode cX9_make 57 = .ok (.ifCond .ne 6, 3) := by decide +kernel
theorem dX9_make_60 : decode cX9_make 60 = .ok (.bipush (-3), 2) := by decide +kernel
theorem dX9_make_62 : decode cX9_make 62 = .ok (.ireturn, 1) := by decide +kernel
theorem dX9_make_63 : decode cX9_make 63 = .ok (.aload_n 0, 1) := by decide +kernel
theorem dX9_make_64 : decode cX9_make 64 = .ok (.getfield 7, 3) := by decide +kernel
theorem dX9_make_67 : decode cX9_make 67 = .ok (.iload_n 1, 1) := by decide +kernel
theorem dX9_make_68 : decode cX9_make 68 = .ok (.iload_n 2, 1) := by decide +kernel
theorem dX9_make_69 : decode cX9_make 69 = .ok (.iastore, 1) := by decide +kernel
theorem dX9_make_70 : decode cX9_make 70 = .ok (.aload_n 0, 1) := by decide +kernel
theorem dX9_make_71 : decode cX9_make 71 = .ok (.getfield 13, 3) := by decide +kernel
theorem dX9_make_74 : decode cX9_make 74 = .ok (.iload_n 1, 1) := by decide +kernel
theorem dX9_make_75 : decode cX9_make 75 = .ok (.iload_n 3, 1) := by decide +kernel
theorem dX9_make_76 : decode cX9_make 76 = .ok (.iastore, 1) := by decide +kernel
theorem dX9_make_77 : decode cX9_make 77 = .ok (.aload_n 0, 1) := by decide +kernel
theorem dX9_make_78 : decode cX9_make 78 = .ok (.getfield 16, 3) := by decide +kernel
theorem dX9_make_81 : decode cX9_make 81 = .ok (.iload_n 1, 1) := by decide +kernel
theorem dX9_make_82 : decode cX9_make 82 = .ok (.iload 4, 2) := by decide +kernel
theorem dX9_make_84 : decode cX9_make 84 = .ok (.iastore, 1) := by decide +kernel
theorem dX9_make_85 : decode cX9_make 85 = .ok (.aload_n 0, 1) := by decide +kernel
theorem dX9_make_86 : decode cX9_make 86 = .ok (.getfield 19, 3) := by decide +kernel
theorem dX9_make_89 : decode cX9_make 89 = .ok (.iload_n 1, 1) := by decide +kernel
theorem dX9_make_90 : decode cX9_make 90 = .ok (.iload 5, 2) := by decide +kernel
theorem dX9_make_92 : decode cX9_make 92 = .ok (.iastore, 1) := by decide +kernel
theorem dX9_make_93 : decode cX9_make 93 = .ok (.iconst 1, 1) := by decide +kernel
theorem dX9_make_94 : decode cX9_make 94 = .ok (.ireturn, 1) := by decide +kernel
theorem dX9_write_0 : decode cX9_write 0 = .ok (.iload_n 3, 1) := by decide +kernel
theorem dX9_write_1 : decode cX9_write 1 = .ok (.i2l, 1) := by decide +kernel
theorem dX9_write_2 : decode cX9_write 2 = .ok (.lconst 1, 1) := by decide +kernel
theorem dX9_write_3 : decode cX9_write 3 = .ok (.ldc2_w 168, 3) := by decide +kernel
theorem dX9_write_6 : decode cX9_write 6 = .ok (.invokestatic 154, 3) := by decide +kernel
theorem dX9_write_9 : decode cX9_write 9 = .ok (.ifCond .ne 6, 3) := by decide +kernel
theorem dX9_write_12 : decode cX9_write 12 = .ok (.bipush (-3), 2) := by decide +kernel
theorem dX9_write_14 : decode cX9_write 14 = .ok (.ireturn, 1) := by decide +kernel
theorem dX9_write_15 : decode cX9_write 15 = .ok (.aload_n 0, 1) := by decide +kernel
theorem dX9_write_16 : decode cX9_write 16 = .ok (.getfield 170, 3) := by decide +kernel
theorem dX9_write_19 : decode cX9_write 19 = .ok (.iload_n 3, 1) := by decide +kernel
theorem dX9_write_20 : decode cX9_write 20 = .ok (.iadd, 1) := by decide +kernel
theorem dX9_write_21 : decode cX9_write 21 = .ok (.sipush 160, 3) := by decide +kernel
theorem dX9_write_24 : decode cX9_write 24 = .ok (.if_icmp .le 6, 3) := by decide +kernel
theorem dX9_write_27 : decode cX9_write 27 = .ok (.bipush (-5), 2) := by decide +kernel
theorem dX9_write_29 : decode cX9_write 29 = .ok (.ireturn, 1) := by decide +kernel
theorem dX9_write_30 : decode cX9_write 30 = .ok (.iconst 0, 1) := by decide +kernel
theorem dX9_write_31 : decode cX9_write 31 = .ok (.istore 4, 2) := by decide +kernel
theorem dX9_write_33 : decode cX9_write 33 = .ok (.iload 4, 2) := by decide +kernel
theorem dX9_write_35 : decode cX9_write 35 = .ok (.iload_n 3, 1) := by decide +kernel
theorem dX9_write_36 : decode cX9_write 36 = .ok (.if_icmp .ge 40, 3) := by decide +kernel
theorem dX9_write_39 : decode cX9_write 39 = .ok (.aload_n 0, 1) := by decide +kernel
theorem dX9_write_40 : decode cX9_write 40 = .ok (.getfield 22, 3) := by decide +kernel
theorem dX9_write_43 : decode cX9_write 43 = .ok (.aload_n 0, 1) := by decide +kernel
theorem dX9_write_44 : decode cX9_write 44 = .ok (.getfield 170, 3) := by decide +kernel
theorem dX9_write_47 : decode cX9_write 47 = .ok (.lload_n 1, 1) := by decide +kernel
theorem dX9_write_48 : decode cX9_write 48 = .ok (.bipush 8, 2) := by decide +kernel
theorem dX9_write_50 : decode cX9_write 50 = .ok (.iload 4, 2) := by decide +kernel
theorem dX9_write_52 : decode cX9_write 52 = .ok (.imul, 1) := by decide +kernel
theorem dX9_write_53 : decode cX9_write 53 = .ok (.lshr, 1) := by decide +kernel
theorem dX9_write_54 : decode cX9_write 54 = .ok (.ldc2_w 173, 3) := by decide +kernel
theorem dX9_write_57 : decode cX9_write 57 = .ok (.land, 1) := by decide +kernel
theorem dX9_write_58 : decode cX9_write 58 = .ok (.l2i, 1) := by decide +kernel
theorem dX9_write_59 : decode cX9_write 59 = .ok (.iastore, 1) := by decide +kernel
theorem dX9_write_60 : decode cX9_write 60 = .ok (.aload_n 0, 1) := by decide +kernel
theorem dX9_write_61 : decode cX9_write 61 = .ok (.dup, 1) := by decide +kernel
theorem dX9_write_62 : decode cX9_write 62 = .ok (.getfield 170, 3) := by decide +kernel
theorem dX9_write_65 : decode cX9_write 65 = .ok (.iconst 1, 1) := by decide +kernel
theorem dX9_write_66 : decode cX9_write 66 = .ok (.iadd, 1) := by decide +kernel
theorem dX9_write_67 : decode cX9_write 67 = .ok (.putfield 170, 3) := by decide +kernel
theorem dX9_write_70 : decode cX9_write 70 = .ok (.iinc 4 1, 3) := by decide +kernel
theorem dX9_write_73 : decode cX9_write 73 = .ok (.goto (-40), 3) := by decide +kernel
theorem dX9_write_76 : decode cX9_write 76 = .ok (.aload_n 0, 1) := by decide +kernel
theorem dX9_write_77 : decode cX9_write 77 = .ok (.getfield 170, 3) := by decide +kernel
theorem dX9_write_80 : decode cX9_write 80 = .ok (.ireturn, 1) := by decide +kernel
theorem dX9_erase_0 : decode cX9_erase 0 = .ok (.aload_n 0, 1) := by decide +kernel
theorem dX9_erase_1 : decode cX9_erase 1 = .ok (.getfield 170, 3) := by decide +kernel
theorem dX9_erase_4 : decode cX9_erase 4 = .ok (.istore_n 1, 1) := by decide +kernel
theorem dX9_erase_5 : decode cX9_erase 5 = .ok (.aload_n 0, 1) := by decide +kernel
theorem dX9_erase_6 : decode cX9_erase 6 = .ok (.iconst 0, 1) := by decide +kernel
theorem dX9_erase_7 : decode cX9_erase 7 = .ok (.putfield 170, 3) := by decide +kernel
theorem dX9_erase_10 : decode cX9_erase 10 = .ok (.iload_n 1, 1) := by decide +kernel
theorem dX9_erase_11 : decode cX9_erase 11 = .ok (.ireturn, 1) := by decide +kernel
theorem dX9_sort_0 : decode cX9_sort 0 = .ok (.iload_n 0, 1) := by decide +kernel
theorem dX9_sort_1 : decode cX9_sort 1 = .ok (.bipush 97, 2) := by decide +kernel
theorem dX9_sort_3 : decode cX9_sort 3 = .ok (.if_icmp .lt 13, 3) := by decide +kernel
theorem dX9_sort_6 : decode cX9_sort 6 = .ok (.iload_n 0, 1) := by decide +kernel
theorem dX9_sort_7 : decode cX9_sort 7 = .ok (.bipush 122, 2) := by decide +kernel
theorem dX9_sort_9 : decode cX9_sort 9 = .ok (.if_icmp .gt 7, 3) := by decide +kernel
theorem dX9_sort_12 : decode cX9_sort 12 = .ok (.iconst 1, 1) := by decide +kernel
theorem dX9_sort_13 : decode cX9_sort 13 = .ok (.goto 20, 3) := by decide +kernel
theorem dX9_sort_16 : decode cX9_sort 16 = .ok (.iload_n 0, 1) := by decide +kernel
theorem dX9_sort_17 : decode cX9_sort 17 = .ok (.bipush 48, 2) := by decide +kernel
theorem dX9_sort_19 : decode cX9_sort 19 = .ok (.if_icmp .lt 13, 3) := by decide +kernel
theorem dX9_sort_22 : decode cX9_sort 22 = .ok (.iload_n 0, 1) := by decide +kernel
theorem dX9_sort_23 : decode cX9_sort 23 = .ok (.bipush 57, 2) := by decide +kernel
theorem dX9_sort_25 : decode cX9_sort 25 = .ok (.if_icmp .gt 7, 3) := by decide +kernel
theorem dX9_sort_28 : decode cX9_sort 28 = .ok (.iconst 2, 1) := by decide +kernel
theorem dX9_sort_29 : decode cX9_sort 29 = .ok (.goto 4, 3) := by decide +kernel
theorem dX9_sort_32 : decode cX9_sort 32 = .ok (.iconst 0, 1) := by decide +kernel
theorem dX9_sort_33 : decode cX9_sort 33 = .ok (.ireturn, 1) := by decide +kernel
theorem dX9_token_0 : decode cX9_token 0 = .ok (.aload_n 0, 1) := by decide +kernel
theorem dX9_token_1 : decode cX9_token 1 = .ok (.getfield 175, 3) := by decide +kernel
theorem dX9_token_4 : decode cX9_token 4 = .ok (.aload_n 0, 1) := by decide +kernel
theorem dX9_token_5 : decode cX9_token 5 = .ok (.getfield 170, 3) := by decide +kernel
theorem dX9_token_8 : decode cX9_token 8 = .ok (.if_icmp .ge 30, 3) := by decide +kernel
theorem dX9_token_11 : decode cX9_token 11 = .ok (.aload_n 0, 1) := by decide +kernel
theorem dX9_token_12 : decode cX9_token 12 = .ok (.getfield 22, 3) := by decide +kernel
theorem dX9_token_15 : decode cX9_token 15 = .ok (.aload_n 0, 1) := by decide +kernel
theorem dX9_token_16 : decode cX9_token 16 = .ok (.getfield 175, 3) := by decide +kernel
theorem dX9_token_19 : decode cX9_token 19 = .ok (.iaload, 1) := by decide +kernel
theorem dX9_token_20 : decode cX9_token 20 = .ok (.bipush 32, 2) := by decide +kernel
theorem dX9_token_22 : decode cX9_token 22 = .ok (.if_icmp .ne 16, 3) := by decide +kernel
theorem dX9_token_25 : decode cX9_token 25 = .ok (.aload_n 0, 1) := by decide +kernel
theorem dX9_token_26 : decode cX9_token 26 = .ok (.dup, 1) := by decide +kernel
theorem dX9_token_27 : decode cX9_token 27 = .ok (.getfield 175, 3) := by decide +kernel
theorem dX9_token_30 : decode cX9_token 30 = .ok (.iconst 1, 1) := by decide +kernel
theorem dX9_token_31 : decode cX9_token 31 = .ok (.iadd, 1) := by decide +kernel
theorem dX9_token_32 : decode cX9_token 32 = .ok (.putfield 175, 3) := by decide +kernel
theorem dX9_token_35 : decode cX9_token 35 = .ok (.goto (-35), 3) := by decide +kernel
theorem dX9_token_38 : decode cX9_token 38 = .ok (.aload_n 0, 1) := by decide +kernel
theorem dX9_token_39 : decode cX9_token 39 = .ok (.aload_n 0, 1) := by decide +kernel
theorem dX9_token_40 : decode cX9_token 40 = .ok (.getfield 175, 3) := by decide +kernel
theorem dX9_token_43 : decode cX9_token 43 = .ok (.putfield 178, 3) := by decide +kernel
theorem dX9_token_46 : decode cX9_token 46 = .ok (.aload_n 0, 1) := by decide +kernel
theorem dX9_token_47 : decode cX9_token 47 = .ok (.dup, 1) := by decide +kernel
theorem dX9_token_48 : decode cX9_token 48 = .ok (.getfield 175, 3) := by decide +kernel
theorem dX9_token_51 : decode cX9_token 51 = .ok (.aload_n 0, 1) := by decide +kernel
theorem dX9_token_52 : decode cX9_token 52 = .ok (.getfield 175, 3) := by decide +kernel
theorem dX9_token_55 : decode cX9_token 55 = .ok (.aload_n 0, 1) := by decide +kernel
theorem dX9_token_56 : decode cX9_token 56 = .ok (.getfield 170, 3) := by decide +kernel
theorem dX9_token_59 : decode cX9_token 59 = .ok (.if_icmp .ge 7, 3) := by decide +kernel
theorem dX9_token_62 : decode cX9_token 62 = .ok (.iconst 1, 1) := by decide +kernel
theorem dX9_token_63 : decode cX9_token 63 = .ok (.goto 4, 3) := by decide +kernel
theorem dX9_token_66 : decode cX9_token 66 = .ok (.iconst 0, 1) := by decide +kernel
theorem dX9_token_67 : decode cX9_token 67 = .ok (.iadd, 1) := by decide +kernel
theorem dX9_token_68 : decode cX9_token 68 = .ok (.putfield 175, 3) := by decide +kernel
theorem dX9_token_71 : decode cX9_token 71 = .ok (.aload_n 0, 1) := by decide +kernel
theorem dX9_token_72 : decode cX9_token 72 = .ok (.getfield 175, 3) := by decide +kernel
theorem dX9_token_75 : decode cX9_token 75 = .ok (.aload_n 0, 1) := by decide +kernel
theorem dX9_token_76 : decode cX9_token 76 = .ok (.getfield 170, 3) := by decide +kernel
theorem dX9_token_79 : decode cX9_token 79 = .ok (.if_icmp .ge 58, 3) := by decide +kernel
theorem dX9_token_82 : decode cX9_token 82 = .ok (.aload_n 0, 1) := by decide +kernel
theorem dX9_token_83 : decode cX9_token 83 = .ok (.getfield 22, 3) := by decide +kernel
theorem dX9_token_86 : decode cX9_token 86 = .ok (.aload_n 0, 1) := by decide +kernel
theorem dX9_token_87 : decode cX9_token 87 = .ok (.getfield 178, 3) := by decide +kernel
theorem dX9_token_90 : decode cX9_token 90 = .ok (.iaload, 1) := by decide +kernel
theorem dX9_token_91 : decode cX9_token 91 = .ok (.invokestatic 181, 3) := by decide +kernel
theorem dX9_token_94 : decode cX9_token 94 = .ok (.ifCond .le 43, 3) := by decide +kernel
theorem dX9_token_97 : decode cX9_token 97 = .ok (.aload_n 0, 1) := by decide +kernel
theorem dX9_token_98 : decode cX9_token 98 = .ok (.getfield 22, 3) := by decide +kernel
theorem dX9_token_101 : decode cX9_token 101 = .ok (.aload_n 0, 1) := by decide +kernel
theorem dX9_token_102 : decode cX9_token 102 = .ok (.getfield 175, 3) := by decide +kernel
theorem dX9_token_105 : decode cX9_token 105 = .ok (.iaload, 1) := by decide +kernel
theorem dX9_token_106 : decode cX9_token 106 = .ok (.invokestatic 181, 3) := by decide +kernel
theorem dX9_token_109 : decode cX9_token 109 = .ok (.aload_n 0, 1) := by decide +kernel
theorem dX9_token_110 : decode cX9_token 110 = .ok (.getfield 22, 3) := by decide +kernel
theorem dX9_token_113 : decode cX9_token 113 = .ok (.aload_n 0, 1) := by decide +kernel
theorem dX9_token_114 : decode cX9_token 114 = .ok (.getfield 178, 3) := by decide +kernel
theorem dX9_token_117 : decode cX9_token 117 = .ok (.iaload, 1) := by decide +kernel
theorem dX9_token_118 : decode cX9_token 118 = .ok (.invokestatic 181, 3) := by decide +kernel
theorem dX9_token_121 : decode cX9_token 121 = .ok (.if_icmp .ne 16, 3) := by decide +kernel
theorem dX9_token_124 : decode cX9_token 124 = .ok (.aload_n 0, 1) := by decide +kernel
theorem dX9_token_125 : decode cX9_token 125 = .ok (.dup, 1) := by decide +kernel
theorem dX9_token_126 : decode cX9_token 126 = .ok (.getfield 175, 3) := by decide +kernel
theorem dX9_token_129 : decode cX9_token 129 = .ok (.iconst 1, 1) := by decide +kernel
theorem dX9_token_130 : decode cX9_token 130 = .ok (.iadd, 1) := by decide +kernel
theorem dX9_token_131 : decode cX9_token 131 = .ok (.putfield 175, 3) := by decide +kernel
theorem dX9_token_134 : decode cX9_token 134 = .ok (.goto (-63), 3) := by decide +kernel
theorem dX9_token_137 : decode cX9_token 137 = .ok (.aload_n 0, 1) := by decide +kernel
theorem dX9_token_138 : decode cX9_token 138 = .ok (.aload_n 0, 1) := by decide +kernel
theorem dX9_token_139 : decode cX9_token 139 = .ok (.getfield 175, 3) := by decide +kernel
theorem dX9_token_142 : decode cX9_token 142 = .ok (.putfield 185, 3) := by decide +kernel
theorem dX9_token_145 : decode cX9_token 145 = .ok (.return_, 1) := by decide +kernel
theorem dX9_isWord_0 : decode cX9_isWord 0 = .ok (.aload_n 0, 1) := by decide +kernel
theorem dX9_isWord_1 : decode cX9_isWord 1 = .ok (.getfield 185, 3) := by decide +kernel
theorem dX9_isWord_4 : decode cX9_isWord 4 = .ok (.aload_n 0, 1) := by decide +kernel
theorem dX9_isWord_5 : decode cX9_isWord 5 = .ok (.getfield 178, 3) := by decide +kernel
theorem dX9_isWord_8 : decode cX9_isWord 8 = .ok (.isub, 1) := by decide +kernel
theorem dX9_isWord_9 : decode cX9_isWord 9 = .ok (.iload_n 3, 1) := by decide +kernel
theorem dX9_isWord_10 : decode cX9_isWord 10 = .ok (.if_icmp .ne 7, 3) := by decide +kernel
theorem dX9_isWord_13 : decode cX9_isWord 13 = .ok (.iconst 1, 1) := by decide +kernel
theorem dX9_isWord_14 : decode cX9_isWord 14 = .ok (.goto 4, 3) := by decide +kernel
theorem dX9_isWord_17 : decode cX9_isWord 17 = .ok (.iconst 0, 1) := by decide +kernel
theorem dX9_isWord_18 : decode cX9_isWord 18 = .ok (.istore 4, 2) := by decide +kernel
theorem dX9_isWord_20 : decode cX9_isWord 20 = .ok (.iconst 0, 1) := by decide +kernel
theorem dX9_isWord_21 : decode cX9_isWord 21 = .ok (.istore 5, 2) := by decide +kernel
theorem dX9_isWord_23 : decode cX9_isWord 23 = .ok (.iload 4, 2) := by decide +kernel
theorem dX9_isWord_25 : decode cX9_isWord 25 = .ok (.ifCond .eq 51, 3) := by decide +kernel
theorem dX9_isWord_28 : decode cX9_isWord 28 = .ok (.iload 5, 2) := by decide +kernel
theorem dX9_isWord_30 : decode cX9_isWord 30 = .ok (.iload_n 3, 1) := by decide +kernel
theorem dX9_isWord_31 : decode cX9_isWord 31 = .ok (.if_icmp .ge 45, 3) := by decide +kernel
theorem dX9_isWord_34 : decode cX9_isWord 34 = .ok (.aload_n 0, 1) := by decide +kernel
theorem dX9_isWord_35 : decode cX9_isWord 35 = .ok (.getfield 22, 3) := by decide +kernel
theorem dX9_isWord_38 : decode cX9_isWord 38 = .ok (.aload_n 0, 1) := by decide +kernel
theorem dX9_isWord_39 : decode cX9_isWord 39 = .ok (.getfield 178, 3) := by decide +kernel
theorem dX9_isWord_42 : decode cX9_isWord 42 = .ok (.iload 5, 2) := by decide +kernel
theorem dX9_isWord_44 : decode cX9_isWord 44 = .ok (.iadd, 1) := by decide +kernel
theorem dX9_isWord_45 : decode cX9_isWord 45 = .ok (.iaload, 1) := by decide +kernel
theorem dX9_isWord_46 : decode cX9_isWord 46 = .ok (.bipush 96, 2) := by decide +kernel
theorem dX9_isWord_48 : decode cX9_isWord 48 = .ok (.lload_n 1, 1) := by decide +kernel
theorem dX9_isWord_49 : decode cX9_isWord 49 = .ok (.iconst 5, 1) := by decide +kernel
theorem dX9_isWord_50 : decode cX9_isWord 50 = .ok (.iload 5, 2) := by decide +kernel
theorem dX9_isWord_52 : decode cX9_isWord 52 = .ok (.imul, 1) := by decide +kernel
theorem dX9_isWord_53 : decode cX9_isWord 53 = .ok (.lshr, 1) := by decide +kernel
theorem dX9_isWord_54 : decode cX9_isWord 54 = .ok (.ldc2_w 188, 3) := by decide +kernel
theorem dX9_isWord_57 : decode cX9_isWord 57 = .ok (.land, 1) := by decide +kernel
theorem dX9_isWord_58 : decode cX9_isWord 58 = .ok (.l2i, 1) := by decide +kernel
theorem dX9_isWord_59 : decode cX9_isWord 59 = .ok (.iadd, 1) := by decide +kernel
theorem dX9_isWord_60 : decode cX9_isWord 60 = .ok (.if_icmp .ne 7, 3) := by decide +kernel
theorem dX9_isWord_63 : decode cX9_isWord 63 = .ok (.iconst 1, 1) := by decide +kernel
theorem dX9_isWord_64 : decode cX9_isWord 64 = .ok (.goto 4, 3) := by decide +kernel
theorem dX9_isWord_67 : decode cX9_isWord 67 = .ok (.iconst 0, 1) := by decide +kernel
theorem dX9_isWord_68 : decode cX9_isWord 68 = .ok (.istore 4, 2) := by decide +kernel
theorem dX9_isWord_70 : decode cX9_isWord 70 = .ok (.iinc 5 1, 3) := by decide +kernel
theorem dX9_isWord_73 : decode cX9_isWord 73 = .ok (.goto (-50), 3) := by decide +kernel
theorem dX9_isWord_76 : decode cX9_isWord 76 = .ok (.iload 4, 2) := by decide +kernel
theorem dX9_isWord_78 : decode cX9_isWord 78 = .ok (.ireturn, 1) := by decide +kernel
theorem dX9_skips_0 : decode cX9_skips 0 = .ok (.aload_n 0, 1) := by decide +kernel
theorem dX9_skips_1 : decode cX9_skips 1 = .ok (.lload_n 1, 1) := by decide +kernel
theorem dX9_skips_2 : decode cX9_skips 2 = .ok (.iload_n 3, 1) := by decide +kernel
theorem dX9_skips_3 : decode cX9_skips 3 = .ok (.invokevirtual 190, 3) := by decide +kernel
theorem dX9_skips_6 : decode cX9_skips 6 = .ok (.istore 4, 2) := by decide +kernel
theorem dX9_skips_8 : decode cX9_skips 8 = .ok (.iload 4, 2) := by decide +kernel
theorem dX9_skips_10 : decode cX9_skips 10 = .ok (.ifCond .eq 7, 3) := by decide +kernel
theorem dX9_skips_13 : decode cX9_skips 13 = .ok (.aload_n 0, 1) := by decide +kernel
theorem dX9_skips_14 : decode cX9_skips 14 = .ok (.invokevirtual 194, 3) := by decide +kernel
theorem dX9_skips_17 : decode cX9_skips 17 = .ok (.iload 4, 2) := by decide +kernel
theorem dX9_skips_19 : decode cX9_skips 19 = .ok (.ireturn, 1) := by decide +kernel
theorem dX9_skipsNumber_0 : decode cX9_skipsNumber 0 = .ok (.aload_n 0, 1) := by decide +kernel
theorem dX9_skipsNumber_1 : decode cX9_skipsNumber 1 = .ok (.getfield 178, 3) := by decide +kernel
theorem dX9_skipsNumber_4 : decode cX9_skipsNumber 4 = .ok (.aload_n 0, 1) := by decide +kernel
theorem dX9_skipsNumber_5 : decode cX9_skipsNumber 5 = .ok (.getfield 170, 3) := by decide +kernel
theorem dX9_skipsNumber_8 : decode cX9_skipsNumber 8 = .ok (.if_icmp .ge 36, 3) := by decide +kernel
theorem dX9_skipsNumber_11 : decode cX9_skipsNumber 11 = .ok (.aload_n 0, 1) := by decide +kernel
theorem dX9_skipsNumber_12 : decode cX9_skipsNumber 12 = .ok (.getfield 22, 3) := by decide +kernel
theorem dX9_skipsNumber_15 : decode cX9_skipsNumber 15 = .ok (.aload_n 0, 1) := by decide +kernel
theorem dX9_skipsNumber_16 : decode cX9_skipsNumber 16 = .ok (.getfield 178, 3) := by decide +kernel
theorem dX9_skipsNumber_19 : decode cX9_skipsNumber 19 = .ok (.iaload, 1) := by decide +kernel
theorem dX9_skipsNumber_20 : decode cX9_skipsNumber 20 = .ok (.invokestatic 181, 3) := by decide +kernel
theorem dX9_skipsNumber_23 : decode cX9_skipsNumber 23 = .ok (.iconst 2, 1) := by decide +kernel
theorem dX9_skipsNumber_24 : decode cX9_skipsNumber 24 = .ok (.if_icmp .ne 20, 3) := by decide +kernel
theorem dX9_skipsNumber_27 : decode cX9_skipsNumber 27 = .ok (.aload_n 0, 1) := by decide +kernel
theorem dX9_skipsNumber_28 : decode cX9_skipsNumber 28 = .ok (.getfield 185, 3) := by decide +kernel
theorem dX9_skipsNumber_31 : decode cX9_skipsNumber 31 = .ok (.aload_n 0, 1) := by decide +kernel
theorem dX9_skipsNumber_32 : decode cX9_skipsNumber 32 = .ok (.getfield 178, 3) := by decide +kernel
theorem dX9_skipsNumber_35 : decode cX9_skipsNumber 35 = .ok (.isub, 1) := by decide +kernel
theorem dX9_skipsNumber_36 : decode cX9_skipsNumber 36 = .ok (.iconst 2, 1) := by decide +kernel
theorem dX9_skipsNumber_37 : decode cX9_skipsNumber 37 = .ok (.if_icmp .gt 7, 3) := by decide +kernel
theorem dX9_skipsNumber_40 : decode cX9_skipsNumber 40 = .ok (.iconst 1, 1) := by decide +kernel
theorem dX9_skipsNumber_41 : decode cX9_skipsNumber 41 = .ok (.goto 4, 3) := by decide +kernel
theorem dX9_skipsNumber_44 : decode cX9_skipsNumber 44 = .ok (.iconst 0, 1) := by decide +kernel
theorem dX9_skipsNumber_45 : decode cX9_skipsNumber 45 = .ok (.istore_n 1, 1) := by decide +kernel
theorem dX9_skipsNumber_46 : decode cX9_skipsNumber 46 = .ok (.aload_n 0, 1) := by decide +kernel
theorem dX9_skipsNumber_47 : decode cX9_skipsNumber 47 = .ok (.iconst 0, 1) := by decide +kernel
theorem dX9_skipsNumber_48 : decode cX9_skipsNumber 48 = .ok (.putfield 197, 3) := by decide +kernel
theorem dX9_skipsNumber_51 : decode cX9_skipsNumber 51 = .ok (.aload_n 0, 1) := by decide +kernel
theorem dX9_skipsNumber_52 : decode cX9_skipsNumber 52 = .ok (.getfield 178, 3) := by decide +kernel
theorem dX9_skipsNumber_55 : decode cX9_skipsNumber 55 = .ok (.istore_n 2, 1) := by decide +kernel
theorem dX9_skipsNumber_56 : decode cX9_skipsNumber 56 = .ok (.iload_n 1, 1) := by decide +kernel
theorem dX9_skipsNumber_57 : decode cX9_skipsNumber 57 = .ok (.ifCond .eq 38, 3) := by decide +kernel
theorem dX9_skipsNumber_60 : decode cX9_skipsNumber 60 = .ok (.iload_n 2, 1) := by decide +kernel
theorem dX9_skipsNumber_61 : decode cX9_skipsNumber 61 = .ok (.aload_n 0, 1) := by decide +kernel
theorem dX9_skipsNumber_62 : decode cX9_skipsNumber 62 = .ok (.getfield 185, 3) := by decide +kernel
theorem dX9_skipsNumber_65 : decode cX9_skipsNumber 65 = .ok (.if_icmp .ge 30, 3) := by decide +kernel
theorem dX9_skipsNumber_68 : decode cX9_skipsNumber 68 = .ok (.aload_n 0, 1) := by decide +kernel
theorem dX9_skipsNumber_69 : decode cX9_skipsNumber 69 = .ok (.bipush 10, 2) := by decide +kernel
theorem dX9_skipsNumber_71 : decode cX9_skipsNumber 71 = .ok (.aload_n 0, 1) := by decide +kernel
theorem dX9_skipsNumber_72 : decode cX9_skipsNumber 72 = .ok (.getfield 197, 3) := by decide +kernel
theorem dX9_skipsNumber_75 : decode cX9_skipsNumber 75 = .ok (.imul, 1) := by decide +kernel
theorem dX9_skipsNumber_76 : decode cX9_skipsNumber 76 = .ok (.aload_n 0, 1) := by decide +kernel
theorem dX9_skipsNumber_77 : decode cX9_skipsNumber 77 = .ok (.getfield 22, 3) := by decide +kernel
theorem dX9_skipsNumber_80 : decode cX9_skipsNumber 80 = .ok (.iload_n 2, 1) := by decide +kernel
theorem dX9_skipsNumber_81 : decode cX9_skipsNumber 81 = .ok (.iaload, 1) := by decide +kernel
theorem dX9_skipsNumber_82 : decode cX9_skipsNumber 82 = .ok (.iadd, 1) := by decide +kernel
theorem dX9_skipsNumber_83 : decode cX9_skipsNumber 83 = .ok (.bipush 48, 2) := by decide +kernel
theorem dX9_skipsNumber_85 : decode cX9_skipsNumber 85 = .ok (.isub, 1) := by decide +kernel
theorem dX9_skipsNumber_86 : decode cX9_skipsNumber 86 = .ok (.putfield 197, 3) := by decide +kernel
theorem dX9_skipsNumber_89 : decode cX9_skipsNumber 89 = .ok (.iinc 2 1, 3) := by decide +kernel
theorem dX9_skipsNumber_92 : decode cX9_skipsNumber 92 = .ok (.goto (-36), 3) := by decide +kernel
theorem dX9_skipsNumber_95 : decode cX9_skipsNumber 95 = .ok (.iload_n 1, 1) := by decide +kernel
theorem dX9_skipsNumber_96 : decode cX9_skipsNumber 96 = .ok (.ifCond .eq 7, 3) := by decide +kernel
theorem dX9_skipsNumber_99 : decode cX9_skipsNumber 99 = .ok (.aload_n 0, 1) := by decide +kernel
theorem dX9_skipsNumber_100 : decode cX9_skipsNumber 100 = .ok (.invokevirtual 194, 3) := by decide +kernel
theorem dX9_skipsNumber_103 : decode cX9_skipsNumber 103 = .ok (.iload_n 1, 1) := by decide +kernel
theorem dX9_skipsNumber_104 : decode cX9_skipsNumber 104 = .ok (.ireturn, 1) := by decide +kernel
theorem dX9_readingWord_0 : decode cX9_readingWord 0 = .ok (.aload_n 0, 1) := by decide +kernel
theorem dX9_readingWord_1 : decode cX9_readingWord 1 = .ok (.ldc2_w 200, 3) := by decide +kernel
theorem dX9_readingWord_4 : decode cX9_readingWord 4 = .ok (.iconst 3, 1) := by decide +kernel
theorem dX9_readingWord_5 : decode cX9_readingWord 5 = .ok (.invokevirtual 190, 3) := by decide +kernel
theorem dX9_readingWord_8 : decode cX9_readingWord 8 = .ok (.ifCond .eq 7, 3) := by decide +kernel
theorem dX9_readingWord_11 : decode cX9_readingWord 11 = .ok (.iconst 0, 1) := by decide +kernel
theorem dX9_readingWord_12 : decode cX9_readingWord 12 = .ok (.goto 81, 3) := by decide +kernel
theorem dX9_readingWord_15 : decode cX9_readingWord 15 = .ok (.aload_n 0, 1) := by decide +kernel
theorem dX9_readingWord_16 : decode cX9_readingWord 16 = .ok (.ldc2_w 202, 3) := by decide +kernel
theorem dX9_readingWord_19 : decode cX9_readingWord 19 = .ok (.bipush 7, 2) := by decide +kernel
theorem dX9_readingWord_21 : decode cX9_readingWord 21 = .ok (.invokevirtual 190, 3) := by decide +kernel
theorem dX9_readingWord_24 : decode cX9_readingWord 24 = .ok (.ifCond .eq 7, 3) := by decide +kernel
theorem dX9_readingWord_27 : decode cX9_readingWord 27 = .ok (.iconst 1, 1) := by decide +kernel
theorem dX9_readingWord_28 : decode cX9_readingWord 28 = .ok (.goto 65, 3) := by decide +kernel
theorem dX9_readingWord_31 : decode cX9_readingWord 31 = .ok (.aload_n 0, 1) := by decide +kernel
theorem dX9_readingWord_32 : decode cX9_readingWord 32 = .ok (.ldc2_w 204, 3) := by decide +kernel
theorem dX9_readingWord_35 : decode cX9_readingWord 35 = .ok (.bipush 7, 2) := by decide +kernel
theorem dX9_readingWord_37 : decode cX9_readingWord 37 = .ok (.invokevirtual 190, 3) := by decide +kernel
theorem dX9_readingWord_40 : decode cX9_readingWord 40 = .ok (.ifCond .eq 7, 3) := by decide +kernel
theorem dX9_readingWord_43 : decode cX9_readingWord 43 = .ok (.iconst 2, 1) := by decide +kernel
theorem dX9_readingWord_44 : decode cX9_readingWord 44 = .ok (.goto 49, 3) := by decide +kernel
theorem dX9_readingWord_47 : decode cX9_readingWord 47 = .ok (.aload_n 0, 1) := by decide +kernel
theorem dX9_readingWord_48 : decode cX9_readingWord 48 = .ok (.ldc2_w 206, 3) := by decide +kernel
theorem dX9_readingWord_51 : decode cX9_readingWord 51 = .ok (.iconst 5, 1) := by decide +kernel
theorem dX9_readingWord_52 : decode cX9_readingWord 52 = .ok (.invokevirtual 190, 3) := by decide +kernel
theorem dX9_readingWord_55 : decode cX9_readingWord 55 = .ok (.ifCond .eq 7, 3) := by decide +kernel
theorem dX9_readingWord_58 : decode cX9_readingWord 58 = .ok (.iconst 3, 1) := by decide +kernel
theorem dX9_readingWord_59 : decode cX9_readingWord 59 = .ok (.goto 34, 3) := by decide +kernel
theorem dX9_readingWord_62 : decode cX9_readingWord 62 = .ok (.aload_n 0, 1) := by decide +kernel
theorem dX9_readingWord_63 : decode cX9_readingWord 63 = .ok (.ldc2_w 208, 3) := by decide +kernel
theorem dX9_readingWord_66 : decode cX9_readingWord 66 = .ok (.iconst 5, 1) := by decide +kernel
theorem dX9_readingWord_67 : decode cX9_readingWord 67 = .ok (.invokevirtual 190, 3) := by decide +kernel
theorem dX9_readingWord_70 : decode cX9_readingWord 70 = .ok (.ifCond .eq 7, 3) := by decide +kernel
theorem dX9_readingWord_73 : decode cX9_readingWord 73 = .ok (.iconst 4, 1) := by decide +kernel
theorem dX9_readingWord_74 : decode cX9_readingWord 74 = .ok (.goto 19, 3) := by decide +kernel
theorem dX9_readingWord_77 : decode cX9_readingWord 77 = .ok (.aload_n 0, 1) := by decide +kernel
theorem dX9_readingWord_78 : decode cX9_readingWord 78 = .ok (.ldc2_w 210, 3) := by decide +kernel
theorem dX9_readingWord_81 : decode cX9_readingWord 81 = .ok (.iconst 3, 1) := by decide +kernel
theorem dX9_readingWord_82 : decode cX9_readingWord 82 = .ok (.invokevirtual 190, 3) := by decide +kernel
theorem dX9_readingWord_85 : decode cX9_readingWord 85 = .ok (.ifCond .eq 7, 3) := by decide +kernel
theorem dX9_readingWord_88 : decode cX9_readingWord 88 = .ok (.iconst 5, 1) := by decide +kernel
theorem dX9_readingWord_89 : decode cX9_readingWord 89 = .ok (.goto 4, 3) := by decide +kernel
theorem dX9_readingWord_92 : decode cX9_readingWord 92 = .ok (.iconst (-1), 1) := by decide +kernel
theorem dX9_readingWord_93 : decode cX9_readingWord 93 = .ok (.ireturn, 1) := by decide +kernel
theorem dX9_readsTest_0 : decode cX9_readsTest 0 = .ok (.iconst 4, 1) := by decide +kernel
theorem dX9_readsTest_1 : decode cX9_readsTest 1 = .ok (.iload_n 1, 1) := by decide +kernel
theorem dX9_readsTest_2 : decode cX9_readsTest 2 = .ok (.imul, 1) := by decide +kernel
theorem dX9_readsTest_3 : decode cX9_readsTest 3 = .ok (.aload_n 0, 1) := by decide +kernel
theorem dX9_readsTest_4 : decode cX9_readsTest 4 = .ok (.getfield 34, 3) := by decide +kernel
theorem dX9_readsTest_7 : decode cX9_readsTest 7 = .ok (.iload_n 1, 1) := by decide +kernel
theorem dX9_readsTest_8 : decode cX9_readsTest 8 = .ok (.iaload, 1) := by decide +kernel
theorem dX9_readsTest_9 : decode cX9_readsTest 9 = .ok (.iadd, 1) := by decide +kernel
theorem dX9_readsTest_10 : decode cX9_readsTest 10 = .ok (.istore_n 2, 1) := by decide +kernel
theorem dX9_readsTest_11 : decode cX9_readsTest 11 = .ok (.aload_n 0, 1) := by decide +kernel
theorem dX9_readsTest_12 : decode cX9_readsTest 12 = .ok (.getfield 37, 3) := by decide +kernel
theorem dX9_readsTest_15 : decode cX9_readsTest 15 = .ok (.iload_n 2, 1) := by decide +kernel
theorem dX9_readsTest_16 : decode cX9_readsTest 16 = .ok (.aload_n 0, 1) := by decide +kernel
theorem dX9_readsTest_17 : decode cX9_readsTest 17 = .ok (.invokevirtual 212, 3) := by decide +kernel
theorem dX9_readsTest_20 : decode cX9_readsTest 20 = .ok (.iastore, 1) := by decide +kernel
theorem dX9_readsTest_21 : decode cX9_readsTest 21 = .ok (.aload_n 0, 1) := by decide +kernel
theorem dX9_readsTest_22 : decode cX9_readsTest 22 = .ok (.getfield 37, 3) := by decide +kernel
theorem dX9_readsTest_25 : decode cX9_readsTest 25 = .ok (.iload_n 2, 1) := by decide +kernel
theorem dX9_readsTest_26 : decode cX9_readsTest 26 = .ok (.iaload, 1) := by decide +kernel
theorem dX9_readsTest_27 : decode cX9_readsTest 27 = .ok (.iconst (-1), 1) := by decide +kernel
theorem dX9_readsTest_28 : decode cX9_readsTest 28 = .ok (.if_icmp .ne 5, 3) := by decide +kernel
theorem dX9_readsTest_31 : decode cX9_readsTest 31 = .ok (.iconst 0, 1) := by decide +kernel
theorem dX9_readsTest_32 : decode cX9_readsTest 32 = .ok (.ireturn, 1) := by decide +kernel
theorem dX9_readsTest_33 : decode cX9_readsTest 33 = .ok (.aload_n 0, 1) := by decide +kernel
theorem dX9_readsTest_34 : decode cX9_readsTest 34 = .ok (.invokevirtual 194, 3) := by decide +kernel
theorem dX9_readsTest_37 : decode cX9_readsTest 37 = .ok (.aload_n 0, 1) := by decide +kernel
theorem dX9_readsTest_38 : decode cX9_readsTest 38 = .ok (.ldc2_w 216, 3) := by decide +kernel
theorem dX9_readsTest_41 : decode cX9_readsTest 41 = .ok (.iconst 5, 1) := by decide +kernel
theorem dX9_readsTest_42 : decode cX9_readsTest 42 = .ok (.invokevirtual 190, 3) := by decide +kernel
theorem dX9_readsTest_45 : decode cX9_readsTest 45 = .ok (.istore_n 3, 1) := by decide +kernel
theorem dX9_readsTest_46 : decode cX9_readsTest 46 = .ok (.iload_n 3, 1) := by decide +kernel
theorem dX9_readsTest_47 : decode cX9_readsTest 47 = .ok (.ifCond .ne 16, 3) := by decide +kernel
theorem dX9_readsTest_50 : decode cX9_readsTest 50 = .ok (.aload_n 0, 1) := by decide +kernel
theorem dX9_readsTest_51 : decode cX9_readsTest 51 = .ok (.ldc2_w 218, 3) := by decide +kernel
theorem dX9_readsTest_54 : decode cX9_readsTest 54 = .ok (.iconst 5, 1) := by decide +kernel
theorem dX9_readsTest_55 : decode cX9_readsTest 55 = .ok (.invokevirtual 190, 3) := by decide +kernel
theorem dX9_readsTest_58 : decode cX9_readsTest 58 = .ok (.ifCond .ne 5, 3) := by decide +kernel
theorem dX9_readsTest_61 : decode cX9_readsTest 61 = .ok (.iconst 0, 1) := by decide +kernel
theorem dX9_readsTest_62 : decode cX9_readsTest 62 = .ok (.ireturn, 1) := by decide +kernel
theorem dX9_readsTest_63 : decode cX9_readsTest 63 = .ok (.aload_n 0, 1) := by decide +kernel
theorem dX9_readsTest_64 : decode cX9_readsTest 64 = .ok (.invokevirtual 194, 3) := by decide +kernel
theorem dX9_readsTest_67 : decode cX9_readsTest 67 = .ok (.aload_n 0, 1) := by decide +kernel
theorem dX9_readsTest_68 : decode cX9_readsTest 68 = .ok (.invokevirtual 220, 3) := by decide +kernel
theorem dX9_readsTest_71 : decode cX9_readsTest 71 = .ok (.ifCond .ne 5, 3) := by decide +kernel
theorem dX9_readsTest_74 : decode cX9_readsTest 74 = .ok (.iconst 0, 1) := by decide +kernel
theorem dX9_readsTest_75 : decode cX9_readsTest 75 = .ok (.ireturn, 1) := by decide +kernel
theorem dX9_readsTest_76 : decode cX9_readsTest 76 = .ok (.aload_n 0, 1) := by decide +kernel
theorem dX9_readsTest_77 : decode cX9_readsTest 77 = .ok (.getfield 40, 3) := by decide +kernel
theorem dX9_readsTest_80 : decode cX9_readsTest 80 = .ok (.iload_n 2, 1) := by decide +kernel
theorem dX9_readsTest_81 : decode cX9_readsTest 81 = .ok (.iload_n 3, 1) := by decide +kernel
theorem dX9_readsTest_82 : decode cX9_readsTest 82 = .ok (.ifCond .eq 7, 3) := by decide +kernel
theorem dX9_readsTest_85 : decode cX9_readsTest 85 = .ok (.iconst 1, 1) := by decide +kernel
theorem dX9_readsTest_86 : decode cX9_readsTest 86 = .ok (.goto 4, 3) := by decide +kernel
theorem dX9_readsTest_89 : decode cX9_readsTest 89 = .ok (.iconst 0, 1) := by decide +kernel
theorem dX9_readsTest_90 : decode cX9_readsTest 90 = .ok (.iastore, 1) := by decide +kernel
theorem dX9_readsTest_91 : decode cX9_readsTest 91 = .ok (.aload_n 0, 1) := by decide +kernel
theorem dX9_readsTest_92 : decode cX9_readsTest 92 = .ok (.getfield 43, 3) := by decide +kernel
theorem dX9_readsTest_95 : decode cX9_readsTest 95 = .ok (.iload_n 2, 1) := by decide +kernel
theorem dX9_readsTest_96 : decode cX9_readsTest 96 = .ok (.aload_n 0, 1) := by decide +kernel
theorem dX9_readsTest_97 : decode cX9_readsTest 97 = .ok (.getfield 197, 3) := by decide +kernel
theorem dX9_readsTest_100 : decode cX9_readsTest 100 = .ok (.iastore, 1) := by decide +kernel
theorem dX9_readsTest_101 : decode cX9_readsTest 101 = .ok (.aload_n 0, 1) := by decide +kernel
theorem dX9_readsTest_102 : decode cX9_readsTest 102 = .ok (.getfield 34, 3) := by decide +kernel
theorem dX9_readsTest_105 : decode cX9_readsTest 105 = .ok (.iload_n 1, 1) := by decide +kernel
theorem dX9_readsTest_106 : decode cX9_readsTest 106 = .ok (.dup2, 1) := by decide +kernel
theorem dX9_readsTest_107 : decode cX9_readsTest 107 = .ok (.iaload, 1) := by decide +kernel
theorem dX9_readsTest_108 : decode cX9_readsTest 108 = .ok (.iconst 1, 1) := by decide +kernel
theorem dX9_readsTest_109 : decode cX9_readsTest 109 = .ok (.iadd, 1) := by decide +kernel
theorem dX9_readsTest_110 : decode cX9_readsTest 110 = .ok (.iastore, 1) := by decide +kernel
theorem dX9_readsTest_111 : decode cX9_readsTest 111 = .ok (.iconst 1, 1) := by decide +kernel
theorem dX9_readsTest_112 : decode cX9_readsTest 112 = .ok (.ireturn, 1) := by decide +kernel
theorem dX9_readsLine_0 : decode cX9_readsLine 0 = .ok (.bipush 24, 2) := by decide +kernel
theorem dX9_readsLine_2 : decode cX9_readsLine 2 = .ok (.aload_n 0, 1) := by decide +kernel
theorem dX9_readsLine_3 : decode cX9_readsLine 3 = .ok (.getfield 25, 3) := by decide +kernel
theorem dX9_readsLine_6 : decode cX9_readsLine 6 = .ok (.iconst 4, 1) := by decide +kernel
theorem dX9_readsLine_7 : decode cX9_readsLine 7 = .ok (.iaload, 1) := by decide +kernel
theorem dX9_readsLine_8 : decode cX9_readsLine 8 = .ok (.iadd, 1) := by decide +kernel
theorem dX9_readsLine_9 : decode cX9_readsLine 9 = .ok (.istore_n 1, 1) := by decide +kernel
theorem dX9_readsLine_10 : decode cX9_readsLine 10 = .ok (.aload_n 0, 1) := by decide +kernel
theorem dX9_readsLine_11 : decode cX9_readsLine 11 = .ok (.getfield 34, 3) := by decide +kernel
theorem dX9_readsLine_14 : decode cX9_readsLine 14 = .ok (.iload_n 1, 1) := by decide +kernel
theorem dX9_readsLine_15 : decode cX9_readsLine 15 = .ok (.iconst 0, 1) := by decide +kernel
theorem dX9_readsLine_16 : decode cX9_readsLine 16 = .ok (.iastore, 1) := by decide +kernel
theorem dX9_readsLine_17 : decode cX9_readsLine 17 = .ok (.aload_n 0, 1) := by decide +kernel
theorem dX9_readsLine_18 : decode cX9_readsLine 18 = .ok (.ldc2_w 224, 3) := by decide +kernel
theorem dX9_readsLine_21 : decode cX9_readsLine 21 = .ok (.iconst 4, 1) := by decide +kernel
theorem dX9_readsLine_22 : decode cX9_readsLine 22 = .ok (.invokevirtual 190, 3) := by decide +kernel
theorem dX9_readsLine_25 : decode cX9_readsLine 25 = .ok (.ifCond .eq 7, 3) := by decide +kernel
theorem dX9_readsLine_28 : decode cX9_readsLine 28 = .ok (.iconst 0, 1) := by decide +kernel
theorem dX9_readsLine_29 : decode cX9_readsLine 29 = .ok (.goto 34, 3) := by decide +kernel
theorem dX9_readsLine_32 : decode cX9_readsLine 32 = .ok (.aload_n 0, 1) := by decide +kernel
theorem dX9_readsLine_33 : decode cX9_readsLine 33 = .ok (.ldc2_w 226, 3) := by decide +kernel
theorem dX9_readsLine_36 : decode cX9_readsLine 36 = .ok (.iconst 4, 1) := by decide +kernel
theorem dX9_readsLine_37 : decode cX9_readsLine 37 = .ok (.invokevirtual 190, 3) := by decide +kernel
theorem dX9_readsLine_40 : decode cX9_readsLine 40 = .ok (.ifCond .eq 7, 3) := by decide +kernel
theorem dX9_readsLine_43 : decode cX9_readsLine 43 = .ok (.iconst 1, 1) := by decide +kernel
theorem dX9_readsLine_44 : decode cX9_readsLine 44 = .ok (.goto 19, 3) := by decide +kernel
theorem dX9_readsLine_47 : decode cX9_readsLine 47 = .ok (.aload_n 0, 1) := by decide +kernel
theorem dX9_readsLine_48 : decode cX9_readsLine 48 = .ok (.ldc2_w 228, 3) := by decide +kernel
theorem dX9_readsLine_51 : decode cX9_readsLine 51 = .ok (.iconst 4, 1) := by decide +kernel
theorem dX9_readsLine_52 : decode cX9_readsLine 52 = .ok (.invokevirtual 190, 3) := by decide +kernel
theorem dX9_readsLine_55 : decode cX9_readsLine 55 = .ok (.ifCond .eq 7, 3) := by decide +kernel
theorem dX9_readsLine_58 : decode cX9_readsLine 58 = .ok (.iconst 2, 1) := by decide +kernel
theorem dX9_readsLine_59 : decode cX9_readsLine 59 = .ok (.goto 4, 3) := by decide +kernel
theorem dX9_readsLine_62 : decode cX9_readsLine 62 = .ok (.iconst (-1), 1) := by decide +kernel
theorem dX9_readsLine_63 : decode cX9_readsLine 63 = .ok (.istore_n 2, 1) := by decide +kernel
theorem dX9_readsLine_64 : decode cX9_readsLine 64 = .ok (.iload_n 2, 1) := by decide +kernel
theorem dX9_readsLine_65 : decode cX9_readsLine 65 = .ok (.iconst (-1), 1) := by decide +kernel
theorem dX9_readsLine_66 : decode cX9_readsLine 66 = .ok (.if_icmp .ne 5, 3) := by decide +kernel
theorem dX9_readsLine_69 : decode cX9_readsLine 69 = .ok (.iconst 0, 1) := by decide +kernel
theorem dX9_readsLine_70 : decode cX9_readsLine 70 = .ok (.ireturn, 1) := by decide +kernel
theorem dX9_readsLine_71 : decode cX9_readsLine 71 = .ok (.aload_n 0, 1) := by decide +kernel
theorem dX9_readsLine_72 : decode cX9_readsLine 72 = .ok (.invokevirtual 194, 3) := by decide +kernel
theorem dX9_readsLine_75 : decode cX9_readsLine 75 = .ok (.aload_n 0, 1) := by decide +kernel
theorem dX9_readsLine_76 : decode cX9_readsLine 76 = .ok (.iconst 0, 1) := by decide +kernel
theorem dX9_readsLine_77 : decode cX9_readsLine 77 = .ok (.putfield 197, 3) := by decide +kernel
theorem dX9_readsLine_80 : decode cX9_readsLine 80 = .ok (.iload_n 2, 1) := by decide +kernel
theorem dX9_readsLine_81 : decode cX9_readsLine 81 = .ok (.iconst 2, 1) := by decide +kernel
theorem dX9_readsLine_82 : decode cX9_readsLine 82 = .ok (.if_icmp .eq 12, 3) := by decide +kernel
theorem dX9_readsLine_85 : decode cX9_readsLine 85 = .ok (.aload_n 0, 1) := by decide +kernel
theorem dX9_readsLine_86 : decode cX9_readsLine 86 = .ok (.invokevirtual 220, 3) := by decide +kernel
theorem dX9_readsLine_89 : decode cX9_readsLine 89 = .ok (.ifCond .ne 5, 3) := by decide +kernel
theorem dX9_readsLine_92 : decode cX9_readsLine 92 = .ok (.iconst 0, 1) := by decide +kernel
theorem dX9_readsLine_93 : decode cX9_readsLine 93 = .ok (.ireturn, 1) := by decide +kernel
theorem dX9_readsLine_94 : decode cX9_readsLine 94 = .ok (.aload_n 0, 1) := by decide +kernel
theorem dX9_readsLine_95 : decode cX9_readsLine 95 = .ok (.getfield 28, 3) := by decide +kernel
theorem dX9_readsLine_98 : decode cX9_readsLine 98 = .ok (.iload_n 1, 1) := by decide +kernel
theorem dX9_readsLine_99 : decode cX9_readsLine 99 = .ok (.iload_n 2, 1) := by decide +kernel
theorem dX9_readsLine_100 : decode cX9_readsLine 100 = .ok (.iastore, 1) := by decide +kernel
theorem dX9_readsLine_101 : decode cX9_readsLine 101 = .ok (.aload_n 0, 1) := by decide +kernel
theorem dX9_readsLine_102 : decode cX9_readsLine 102 = .ok (.getfield 31, 3) := by decide +kernel
theorem dX9_readsLine_105 : decode cX9_readsLine 105 = .ok (.iload_n 1, 1) := by decide +kernel
theorem dX9_readsLine_106 : decode cX9_readsLine 106 = .ok (.aload_n 0, 1) := by decide +kernel
theorem dX9_readsLine_107 : decode cX9_readsLine 107 = .ok (.getfield 197, 3) := by decide +kernel
theorem dX9_readsLine_110 : decode cX9_readsLine 110 = .ok (.iastore, 1) := by decide +kernel
theorem dX9_readsLine_111 : decode cX9_readsLine 111 = .ok (.aload_n 0, 1) := by decide +kernel
theorem dX9_readsLine_112 : decode cX9_readsLine 112 = .ok (.ldc2_w 230, 3) := by decide +kernel
theorem dX9_readsLine_115 : decode cX9_readsLine 115 = .ok (.iconst 4, 1) := by decide +kernel
theorem dX9_readsLine_116 : decode cX9_readsLine 116 = .ok (.invokevirtual 232, 3) := by decide +kernel
theorem dX9_readsLine_119 : decode cX9_readsLine 119 = .ok (.istore_n 3, 1) := by decide +kernel
theorem dX9_readsLine_120 : decode cX9_readsLine 120 = .ok (.iload_n 3, 1) := by decide +kernel
theorem dX9_readsLine_121 : decode cX9_readsLine 121 = .ok (.ifCond .eq 43, 3) := by decide +kernel
theorem dX9_readsLine_124 : decode cX9_readsLine 124 = .ok (.aload_n 0, 1) := by decide +kernel
theorem dX9_readsLine_125 : decode cX9_readsLine 125 = .ok (.iload_n 1, 1) := by decide +kernel
theorem dX9_readsLine_126 : decode cX9_readsLine 126 = .ok (.invokevirtual 235, 3) := by decide +kernel
theorem dX9_readsLine_129 : decode cX9_readsLine 129 = .ok (.ifCond .ne 5, 3) := by decide +kernel
theorem dX9_readsLine_132 : decode cX9_readsLine 132 = .ok (.iconst 0, 1) := by decide +kernel
theorem dX9_readsLine_133 : decode cX9_readsLine 133 = .ok (.ireturn, 1) := by decide +kernel
theorem dX9_readsLine_134 : decode cX9_readsLine 134 = .ok (.aload_n 0, 1) := by decide +kernel
theorem dX9_readsLine_135 : decode cX9_readsLine 135 = .ok (.getfield 34, 3) := by decide +kernel
theorem dX9_readsLine_138 : decode cX9_readsLine 138 = .ok (.iload_n 1, 1) := by decide +kernel
theorem dX9_readsLine_139 : decode cX9_readsLine 139 = .ok (.iaload, 1) := by decide +kernel
theorem dX9_readsLine_140 : decode cX9_readsLine 140 = .ok (.iconst 4, 1) := by decide +kernel
theorem dX9_readsLine_141 : decode cX9_readsLine 141 = .ok (.if_icmp .ge 18, 3) := by decide +kernel
theorem dX9_readsLine_144 : decode cX9_readsLine 144 = .ok (.aload_n 0, 1) := by decide +kernel
theorem dX9_readsLine_145 : decode cX9_readsLine 145 = .ok (.ldc2_w 238, 3) := by decide +kernel
theorem dX9_readsLine_148 : decode cX9_readsLine 148 = .ok (.iconst 3, 1) := by decide +kernel
theorem dX9_readsLine_149 : decode cX9_readsLine 149 = .ok (.invokevirtual 232, 3) := by decide +kernel
theorem dX9_readsLine_152 : decode cX9_readsLine 152 = .ok (.ifCond .eq 7, 3) := by decide +kernel
theorem dX9_readsLine_155 : decode cX9_readsLine 155 = .ok (.iconst 1, 1) := by decide +kernel
theorem dX9_readsLine_156 : decode cX9_readsLine 156 = .ok (.goto 4, 3) := by decide +kernel
theorem dX9_readsLine_159 : decode cX9_readsLine 159 = .ok (.iconst 0, 1) := by decide +kernel
theorem dX9_readsLine_160 : decode cX9_readsLine 160 = .ok (.istore_n 3, 1) := by decide +kernel
theorem dX9_readsLine_161 : decode cX9_readsLine 161 = .ok (.goto (-41), 3) := by decide +kernel
theorem dX9_readsLine_164 : decode cX9_readsLine 164 = .ok (.aload_n 0, 1) := by decide +kernel
theorem dX9_readsLine_165 : decode cX9_readsLine 165 = .ok (.getfield 25, 3) := by decide +kernel
theorem dX9_readsLine_168 : decode cX9_readsLine 168 = .ok (.iconst 4, 1) := by decide +kernel
theorem dX9_readsLine_169 : decode cX9_readsLine 169 = .ok (.dup2, 1) := by decide +kernel
theorem dX9_readsLine_170 : decode cX9_readsLine 170 = .ok (.iaload, 1) := by decide +kernel
theorem dX9_readsLine_171 : decode cX9_readsLine 171 = .ok (.iconst 1, 1) := by decide +kernel
theorem dX9_readsLine_172 : decode cX9_readsLine 172 = .ok (.iadd, 1) := by decide +kernel
theorem dX9_readsLine_173 : decode cX9_readsLine 173 = .ok (.iastore, 1) := by decide +kernel
theorem dX9_readsLine_174 : decode cX9_readsLine 174 = .ok (.iconst 1, 1) := by decide +kernel
theorem dX9_readsLine_175 : decode cX9_readsLine 175 = .ok (.ireturn, 1) := by decide +kernel
theorem dX9_fault_0 : decode cX9_fault 0 = .ok (.aload_n 0, 1) := by decide +kernel
theorem dX9_fault_1 : decode cX9_fault 1 = .ok (.iconst 0, 1) := by decide +kernel
theorem dX9_fault_2 : decode cX9_fault 2 = .ok (.putfield 175, 3) := by decide +kernel
theorem dX9_fault_5 : decode cX9_fault 5 = .ok (.aload_n 0, 1) := by decide +kernel
theorem dX9_fault_6 : decode cX9_fault 6 = .ok (.getfield 25, 3) := by decide +kernel
theorem dX9_fault_9 : decode cX9_fault 9 = .ok (.iconst 4, 1) := by decide +kernel
theorem dX9_fault_10 : decode cX9_fault 10 = .ok (.iconst 0, 1) := by decide +kernel
theorem dX9_fault_11 : decode cX9_fault 11 = .ok (.iastore, 1) := by decide +kernel
theorem dX9_fault_12 : decode cX9_fault 12 = .ok (.aload_n 0, 1) := by decide +kernel
theorem dX9_fault_13 : decode cX9_fault 13 = .ok (.invokevirtual 194, 3) := by decide +kernel
theorem dX9_fault_16 : decode cX9_fault 16 = .ok (.aload_n 0, 1) := by decide +kernel
theorem dX9_fault_17 : decode cX9_fault 17 = .ok (.invokevirtual 240, 3) := by decide +kernel
theorem dX9_fault_20 : decode cX9_fault 20 = .ok (.ifCond .ne 8, 3) := by decide +kernel
theorem dX9_fault_23 : decode cX9_fault 23 = .ok (.aload_n 0, 1) := by decide +kernel
theorem dX9_fault_24 : decode cX9_fault 24 = .ok (.getfield 178, 3) := by decide +kernel
theorem dX9_fault_27 : decode cX9_fault 27 = .ok (.ireturn, 1) := by decide +kernel
theorem dX9_fault_28 : decode cX9_fault 28 = .ok (.aload_n 0, 1) := by decide +kernel
theorem dX9_fault_29 : decode cX9_fault 29 = .ok (.getfield 178, 3) := by decide +kernel
theorem dX9_fault_32 : decode cX9_fault 32 = .ok (.aload_n 0, 1) := by decide +kernel
theorem dX9_fault_33 : decode cX9_fault 33 = .ok (.getfield 170, 3) := by decide +kernel
theorem dX9_fault_36 : decode cX9_fault 36 = .ok (.if_icmp .ge 72, 3) := by decide +kernel
theorem dX9_fault_39 : decode cX9_fault 39 = .ok (.aload_n 0, 1) := by decide +kernel
theorem dX9_fault_40 : decode cX9_fault 40 = .ok (.getfield 185, 3) := by decide +kernel
theorem dX9_fault_43 : decode cX9_fault 43 = .ok (.aload_n 0, 1) := by decide +kernel
theorem dX9_fault_44 : decode cX9_fault 44 = .ok (.getfield 178, 3) := by decide +kernel
theorem dX9_fault_47 : decode cX9_fault 47 = .ok (.isub, 1) := by decide +kernel
theorem dX9_fault_48 : decode cX9_fault 48 = .ok (.iconst 1, 1) := by decide +kernel
theorem dX9_fault_49 : decode cX9_fault 49 = .ok (.if_icmp .ne 32, 3) := by decide +kernel
theorem dX9_fault_52 : decode cX9_fault 52 = .ok (.aload_n 0, 1) := by decide +kernel
theorem dX9_fault_53 : decode cX9_fault 53 = .ok (.getfield 22, 3) := by decide +kernel
theorem dX9_fault_56 : decode cX9_fault 56 = .ok (.aload_n 0, 1) := by decide +kernel
theorem dX9_fault_57 : decode cX9_fault 57 = .ok (.getfield 178, 3) := by decide +kernel
theorem dX9_fault_60 : decode cX9_fault 60 = .ok (.iaload, 1) := by decide +kernel
theorem dX9_fault_61 : decode cX9_fault 61 = .ok (.bipush 59, 2) := by decide +kernel
theorem dX9_fault_63 : decode cX9_fault 63 = .ok (.if_icmp .ne 18, 3) := by decide +kernel
theorem dX9_fault_66 : decode cX9_fault 66 = .ok (.aload_n 0, 1) := by decide +kernel
theorem dX9_fault_67 : decode cX9_fault 67 = .ok (.getfield 25, 3) := by decide +kernel
theorem dX9_fault_70 : decode cX9_fault 70 = .ok (.iconst 4, 1) := by decide +kernel
theorem dX9_fault_71 : decode cX9_fault 71 = .ok (.iaload, 1) := by decide +kernel
theorem dX9_fault_72 : decode cX9_fault 72 = .ok (.bipush 6, 2) := by decide +kernel
theorem dX9_fault_74 : decode cX9_fault 74 = .ok (.if_icmp .ge 7, 3) := by decide +kernel
theorem dX9_fault_77 : decode cX9_fault 77 = .ok (.iconst 1, 1) := by decide +kernel
theorem dX9_fault_78 : decode cX9_fault 78 = .ok (.goto 4, 3) := by decide +kernel
theorem dX9_fault_81 : decode cX9_fault 81 = .ok (.iconst 0, 1) := by decide +kernel
theorem dX9_fault_82 : decode cX9_fault 82 = .ok (.istore_n 1, 1) := by decide +kernel
theorem dX9_fault_83 : decode cX9_fault 83 = .ok (.iload_n 1, 1) := by decide +kernel
theorem dX9_fault_84 : decode cX9_fault 84 = .ok (.ifCond .eq 12, 3) := by decide +kernel
theorem dX9_fault_87 : decode cX9_fault 87 = .ok (.aload_n 0, 1) := by decide +kernel
theorem dX9_fault_88 : decode cX9_fault 88 = .ok (.invokevirtual 194, 3) := by decide +kernel
theorem dX9_fault_91 : decode cX9_fault 91 = .ok (.aload_n 0, 1) := by decide +kernel
theorem dX9_fault_92 : decode cX9_fault 92 = .ok (.invokevirtual 240, 3) := by decide +kernel
theorem dX9_fault_95 : decode cX9_fault 95 = .ok (.istore_n 1, 1) := by decide +kernel
theorem dX9_fault_96 : decode cX9_fault 96 = .ok (.iload_n 1, 1) := by decide +kernel
theorem dX9_fault_97 : decode cX9_fault 97 = .ok (.ifCond .ne 8, 3) := by decide +kernel
theorem dX9_fault_100 : decode cX9_fault 100 = .ok (.aload_n 0, 1) := by decide +kernel
theorem dX9_fault_101 : decode cX9_fault 101 = .ok (.getfield 178, 3) := by decide +kernel
theorem dX9_fault_104 : decode cX9_fault 104 = .ok (.ireturn, 1) := by decide +kernel
theorem dX9_fault_105 : decode cX9_fault 105 = .ok (.goto (-77), 3) := by decide +kernel
theorem dX9_fault_108 : decode cX9_fault 108 = .ok (.iconst (-1), 1) := by decide +kernel
theorem dX9_fault_109 : decode cX9_fault 109 = .ok (.ireturn, 1) := by decide +kernel
theorem dX9_table_0 : decode cX9_table 0 = .ok (.iload_n 1, 1) := by decide +kernel
theorem dX9_table_1 : decode cX9_table 1 = .ok (.invokestatic 160, 3) := by decide +kernel
theorem dX9_table_4 : decode cX9_table 4 = .ok (.ifCond .ne 6, 3) := by decide +kernel
theorem dX9_table_7 : decode cX9_table 7 = .ok (.bipush (-2), 2) := by decide +kernel
theorem dX9_table_9 : decode cX9_table 9 = .ok (.ireturn, 1) := by decide +kernel
theorem dX9_table_10 : decode cX9_table 10 = .ok (.aload_n 0, 1) := by decide +kernel
theorem dX9_table_11 : decode cX9_table 11 = .ok (.invokevirtual 243, 3) := by decide +kernel
theorem dX9_table_14 : decode cX9_table 14 = .ok (.iconst (-1), 1) := by decide +kernel
theorem dX9_table_15 : decode cX9_table 15 = .ok (.if_icmp .eq 6, 3) := by decide +kernel
theorem dX9_table_18 : decode cX9_table 18 = .ok (.bipush (-4), 2) := by decide +kernel
theorem dX9_table_20 : decode cX9_table 20 = .ok (.ireturn, 1) := by decide +kernel
theorem dX9_table_21 : decode cX9_table 21 = .ok (.aload_n 0, 1) := by decide +kernel
theorem dX9_table_22 : decode cX9_table 22 = .ok (.getfield 25, 3) := by decide +kernel
theorem dX9_table_25 : decode cX9_table 25 = .ok (.iload_n 1, 1) := by decide +kernel
theorem dX9_table_26 : decode cX9_table 26 = .ok (.aload_n 0, 1) := by decide +kernel
theorem dX9_table_27 : decode cX9_table 27 = .ok (.getfield 25, 3) := by decide +kernel
theorem dX9_table_30 : decode cX9_table 30 = .ok (.iconst 4, 1) := by decide +kernel
theorem dX9_table_31 : decode cX9_table 31 = .ok (.iaload, 1) := by decide +kernel
theorem dX9_table_32 : decode cX9_table 32 = .ok (.iastore, 1) := by decide +kernel
theorem dX9_table_33 : decode cX9_table 33 = .ok (.iconst 0, 1) := by decide +kernel
theorem dX9_table_34 : decode cX9_table 34 = .ok (.istore_n 2, 1) := by decide +kernel
theorem dX9_table_35 : decode cX9_table 35 = .ok (.iload_n 2, 1) := by decide +kernel
theorem dX9_table_36 : decode cX9_table 36 = .ok (.aload_n 0, 1) := by decide +kernel
theorem dX9_table_37 : decode cX9_table 37 = .ok (.getfield 25, 3) := by decide +kernel
theorem dX9_table_40 : decode cX9_table 40 = .ok (.iload_n 1, 1) := by decide +kernel
theorem dX9_table_41 : decode cX9_table 41 = .ok (.iaload, 1) := by decide +kernel
theorem dX9_table_42 : decode cX9_table 42 = .ok (.if_icmp .ge 166, 3) := by decide +kernel
theorem dX9_table_45 : decode cX9_table 45 = .ok (.aload_n 0, 1) := by decide +kernel
theorem dX9_table_46 : decode cX9_table 46 = .ok (.getfield 28, 3) := by decide +kernel
theorem dX9_table_49 : decode cX9_table 49 = .ok (.bipush 6, 2) := by decide +kernel
theorem dX9_table_51 : decode cX9_table 51 = .ok (.iload_n 1, 1) := by decide +kernel
theorem dX9_table_52 : decode cX9_table 52 = .ok (.imul, 1) := by decide +kernel
theorem dX9_table_53 : decode cX9_table 53 = .ok (.iload_n 2, 1) := by decide +kernel
theorem dX9_table_54 : decode cX9_table 54 = .ok (.iadd, 1) := by decide +kernel
theorem dX9_table_55 : decode cX9_table 55 = .ok (.aload_n 0, 1) := by decide +kernel
theorem dX9_table_56 : decode cX9_table 56 = .ok (.getfield 28, 3) := by decide +kernel
theorem dX9_table_59 : decode cX9_table 59 = .ok (.bipush 24, 2) := by decide +kernel
theorem dX9_table_61 : decode cX9_table 61 = .ok (.iload_n 2, 1) := by decide +kernel
theorem dX9_table_62 : decode cX9_table 62 = .ok (.iadd, 1) := by decide +kernel
theorem dX9_table_63 : decode cX9_table 63 = .ok (.iaload, 1) := by decide +kernel
theorem dX9_table_64 : decode cX9_table 64 = .ok (.iastore, 1) := by decide +kernel
theorem dX9_table_65 : decode cX9_table 65 = .ok (.aload_n 0, 1) := by decide +kernel
theorem dX9_table_66 : decode cX9_table 66 = .ok (.getfield 31, 3) := by decide +kernel
theorem dX9_table_69 : decode cX9_table 69 = .ok (.bipush 6, 2) := by decide +kernel
theorem dX9_table_71 : decode cX9_table 71 = .ok (.iload_n 1, 1) := by decide +kernel
theorem dX9_table_72 : decode cX9_table 72 = .ok (.imul, 1) := by decide +kernel
theorem dX9_table_73 : decode cX9_table 73 = .ok (.iload_n 2, 1) := by decide +kernel
theorem dX9_table_74 : decode cX9_table 74 = .ok (.iadd, 1) := by decide +kernel
theorem dX9_table_75 : decode cX9_table 75 = .ok (.aload_n 0, 1) := by decide +kernel
theorem dX9_table_76 : decode cX9_table 76 = .ok (.getfield 31, 3) := by decide +kernel
theorem dX9_table_79 : decode cX9_table 79 = .ok (.bipush 24, 2) := by decide +kernel
theorem dX9_table_81 : decode cX9_table 81 = .ok (.iload_n 2, 1) := by decide +kernel
theorem dX9_table_82 : decode cX9_table 82 = .ok (.iadd, 1) := by decide +kernel
theorem dX9_table_83 : decode cX9_table 83 = .ok (.iaload, 1) := by decide +kernel
theorem dX9_table_84 : decode cX9_table 84 = .ok (.iastore, 1) := by decide +kernel
theorem dX9_table_85 : decode cX9_table 85 = .ok (.aload_n 0, 1) := by decide +kernel
theorem dX9_table_86 : decode cX9_table 86 = .ok (.getfield 34, 3) := by decide +kernel
theorem dX9_table_89 : decode cX9_table 89 = .ok (.bipush 6, 2) := by decide +kernel
theorem dX9_table_91 : decode cX9_table 91 = .ok (.iload_n 1, 1) := by decide +kernel
theorem dX9_table_92 : decode cX9_table 92 = .ok (.imul, 1) := by decide +kernel
theorem dX9_table_93 : decode cX9_table 93 = .ok (.iload_n 2, 1) := by decide +kernel
theorem dX9_table_94 : decode cX9_table 94 = .ok (.iadd, 1) := by decide +kernel
theorem dX9_table_95 : decode cX9_table 95 = .ok (.aload_n 0, 1) := by decide +kernel
theorem dX9_table_96 : decode cX9_table 96 = .ok (.getfield 34, 3) := by decide +kernel
theorem dX9_table_99 : decode cX9_table 99 = .ok (.bipush 24, 2) := by decide +kernel
theorem dX9_table_101 : decode cX9_table 101 = .ok (.iload_n 2, 1) := by decide +kernel
theorem dX9_table_102 : decode cX9_table 102 = .ok (.iadd, 1) := by decide +kernel
theorem dX9_table_103 : decode cX9_table 103 = .ok (.iaload, 1) := by decide +kernel
theorem dX9_table_104 : decode cX9_table 104 = .ok (.iastore, 1) := by decide +kernel
theorem dX9_table_105 : decode cX9_table 105 = .ok (.iconst 0, 1) := by decide +kernel
theorem dX9_table_106 : decode cX9_table 106 = .ok (.istore_n 3, 1) := by decide +kernel
theorem dX9_table_107 : decode cX9_table 107 = .ok (.iload_n 3, 1) := by decide +kernel
theorem dX9_table_108 : decode cX9_table 108 = .ok (.iconst 4, 1) := by decide +kernel
theorem dX9_table_109 : decode cX9_table 109 = .ok (.if_icmp .ge 93, 3) := by decide +kernel
theorem dX9_table_112 : decode cX9_table 112 = .ok (.aload_n 0, 1) := by decide +kernel
theorem dX9_table_113 : decode cX9_table 113 = .ok (.getfield 37, 3) := by decide +kernel
theorem dX9_table_116 : decode cX9_table 116 = .ok (.bipush 24, 2) := by decide +kernel
theorem dX9_table_118 : decode cX9_table 118 = .ok (.iload_n 1, 1) := by decide +kernel
theorem dX9_table_119 : decode cX9_table 119 = .ok (.imul, 1) := by decide +kernel
theorem dX9_table_120 : decode cX9_table 120 = .ok (.iconst 4, 1) := by decide +kernel
theorem dX9_table_121 : decode cX9_table 121 = .ok (.iload_n 2, 1) := by decide +kernel
theorem dX9_table_122 : decode cX9_table 122 = .ok (.imul, 1) := by decide +kernel
theorem dX9_table_123 : decode cX9_table 123 = .ok (.iadd, 1) := by decide +kernel
theorem dX9_table_124 : decode cX9_table 124 = .ok (.iload_n 3, 1) := by decide +kernel
theorem dX9_table_125 : decode cX9_table 125 = .ok (.iadd, 1) := by decide +kernel
theorem dX9_table_126 : decode cX9_table 126 = .ok (.aload_n 0, 1) := by decide +kernel
theorem dX9_table_127 : decode cX9_table 127 = .ok (.getfield 37, 3) := by decide +kernel
theorem dX9_table_130 : decode cX9_table 130 = .ok (.bipush 96, 2) := by decide +kernel
theorem dX9_table_132 : decode cX9_table 132 = .ok (.iconst 4, 1) := by decide +kernel
theorem dX9_table_133 : decode cX9_table 133 = .ok (.iload_n 2, 1) := by decide +kernel
theorem dX9_table_134 : decode cX9_table 134 = .ok (.imul, 1) := by decide +kernel
theorem dX9_table_135 : decode cX9_table 135 = .ok (.iadd, 1) := by decide +kernel
theorem dX9_table_136 : decode cX9_table 136 = .ok (.iload_n 3, 1) := by decide +kernel
theorem dX9_table_137 : decode cX9_table 137 = .ok (.iadd, 1) := by decide +kernel
theorem dX9_table_138 : decode cX9_table 138 = .ok (.iaload, 1) := by decide +kernel
theorem dX9_table_139 : decode cX9_table 139 = .ok (.iastore, 1) := by decide +kernel
theorem dX9_table_140 : decode cX9_table 140 = .ok (.aload_n 0, 1) := by decide +kernel
theorem dX9_table_141 : decode cX9_table 141 = .ok (.getfield 40, 3) := by decide +kernel
theorem dX9_table_144 : decode cX9_table 144 = .ok (.bipush 24, 2) := by decide +kernel
theorem dX9_table_146 : decode cX9_table 146 = .ok (.iload_n 1, 1) := by decide +kernel
theorem dX9_table_147 : decode cX9_table 147 = .ok (.imul, 1) := by decide +kernel
theorem dX9_table_148 : decode cX9_table 148 = .ok (.iconst 4, 1) := by decide +kernel
theorem dX9_table_149 : decode cX9_table 149 = .ok (.iload_n 2, 1) := by decide +kernel
theorem dX9_table_150 : decode cX9_table 150 = .ok (.imul, 1) := by decide +kernel
theorem dX9_table_151 : decode cX9_table 151 = .ok (.iadd, 1) := by decide +kernel
theorem dX9_table_152 : decode cX9_table 152 = .ok (.iload_n 3, 1) := by decide +kernel
theorem dX9_table_153 : decode cX9_table 153 = .ok (.iadd, 1) := by decide +kernel
theorem dX9_table_154 : decode cX9_table 154 = .ok (.aload_n 0, 1) := by decide +kernel
theorem dX9_table_155 : decode cX9_table 155 = .ok (.getfield 40, 3) := by decide +kernel
theorem dX9_table_158 : decode cX9_table 158 = .ok (.bipush 96, 2) := by decide +kernel
theorem dX9_table_160 : decode cX9_table 160 = .ok (.iconst 4, 1) := by decide +kernel
theorem dX9_table_161 : decode cX9_table 161 = .ok (.iload_n 2, 1) := by decide +kernel
theorem dX9_table_162 : decode cX9_table 162 = .ok (.imul, 1) := by decide +kernel
theorem dX9_table_163 : decode cX9_table 163 = .ok (.iadd, 1) := by decide +kernel
theorem dX9_table_164 : decode cX9_table 164 = .ok (.iload_n 3, 1) := by decide +kernel
theorem dX9_table_165 : decode cX9_table 165 = .ok (.iadd, 1) := by decide +kernel
theorem dX9_table_166 : decode cX9_table 166 = .ok (.iaload, 1) := by decide +kernel
theorem dX9_table_167 : decode cX9_table 167 = .ok (.iastore, 1) := by decide +kernel
theorem dX9_table_168 : decode cX9_table 168 = .ok (.aload_n 0, 1) := by decide +kernel
theorem dX9_table_169 : decode cX9_table 169 = .ok (.getfield 43, 3) := by decide +kernel
theorem dX9_table_172 : decode cX9_table 172 = .ok (.bipush 24, 2) := by decide +kernel
theorem dX9_table_174 : decode cX9_table 174 = .ok (.iload_n 1, 1) := by decide +kernel
theorem dX9_table_175 : decode cX9_table 175 = .ok (.imul, 1) := by decide +kernel
theorem dX9_table_176 : decode cX9_table 176 = .ok (.iconst 4, 1) := by decide +kernel
theorem dX9_table_177 : decode cX9_table 177 = .ok (.iload_n 2, 1) := by decide +kernel
theorem dX9_table_178 : decode cX9_table 178 = .ok (.imul, 1) := by decide +kernel
theorem dX9_table_179 : decode cX9_table 179 = .ok (.iadd, 1) := by decide +kernel
theorem dX9_table_180 : decode cX9_table 180 = .ok (.iload_n 3, 1) := by decide +kernel
theorem dX9_table_181 : decode cX9_table 181 = .ok (.iadd, 1) := by decide +kernel
theorem dX9_table_182 : decode cX9_table 182 = .ok (.aload_n 0, 1) := by decide +kernel
theorem dX9_table_183 : decode cX9_table 183 = .ok (.getfield 43, 3) := by decide +kernel
theorem dX9_table_186 : decode cX9_table 186 = .ok (.bipush 96, 2) := by decide +kernel
theorem dX9_table_188 : decode cX9_table 188 = .ok (.iconst 4, 1) := by decide +kernel
theorem dX9_table_189 : decode cX9_table 189 = .ok (.iload_n 2, 1) := by decide +kernel
theorem dX9_table_190 : decode cX9_table 190 = .ok (.imul, 1) := by decide +kernel
theorem dX9_table_191 : decode cX9_table 191 = .ok (.iadd, 1) := by decide +kernel
theorem dX9_table_192 : decode cX9_table 192 = .ok (.iload_n 3, 1) := by decide +kernel
theorem dX9_table_193 : decode cX9_table 193 = .ok (.iadd, 1) := by decide +kernel
theorem dX9_table_194 : decode cX9_table 194 = .ok (.iaload, 1) := by decide +kernel
theorem dX9_table_195 : decode cX9_table 195 = .ok (.iastore, 1) := by decide +kernel
theorem dX9_table_196 : decode cX9_table 196 = .ok (.iinc 3 1, 3) := by decide +kernel
theorem dX9_table_199 : decode cX9_table 199 = .ok (.goto (-92), 3) := by decide +kernel
theorem dX9_table_202 : decode cX9_table 202 = .ok (.iinc 2 1, 3) := by decide +kernel
theorem dX9_table_205 : decode cX9_table 205 = .ok (.goto (-170), 3) := by decide +kernel
theorem dX9_table_208 : decode cX9_table 208 = .ok (.aload_n 0, 1) := by decide +kernel
theorem dX9_table_209 : decode cX9_table 209 = .ok (.iconst 0, 1) := by decide +kernel
theorem dX9_table_210 : decode cX9_table 210 = .ok (.putfield 170, 3) := by decide +kernel
theorem dX9_table_213 : decode cX9_table 213 = .ok (.aload_n 0, 1) := by decide +kernel
theorem dX9_table_214 : decode cX9_table 214 = .ok (.getfield 25, 3) := by decide +kernel
theorem dX9_table_217 : decode cX9_table 217 = .ok (.iload_n 1, 1) := by decide +kernel
theorem dX9_table_218 : decode cX9_table 218 = .ok (.iaload, 1) := by decide +kernel
theorem dX9_table_219 : decode cX9_table 219 = .ok (.ireturn, 1) := by decide +kernel
theorem dX9_row_0 : decode cX9_row 0 = .ok (.iload_n 2, 1) := by decide +kernel
theorem dX9_row_1 : decode cX9_row 1 = .ok (.i2l, 1) := by decide +kernel
theorem dX9_row_2 : decode cX9_row 2 = .ok (.lconst 1, 1) := by decide +kernel
theorem dX9_row_3 : decode cX9_row 3 = .ok (.ldc2_w 246, 3) := by decide +kernel
theorem dX9_row_6 : decode cX9_row 6 = .ok (.invokestatic 154, 3) := by decide +kernel
theorem dX9_row_9 : decode cX9_row 9 = .ok (.ifCond .ne 6, 3) := by decide +kernel
theorem dX9_row_12 : decode cX9_row 12 = .ok (.bipush (-3), 2) := by decide +kernel
theorem dX9_row_14 : decode cX9_row 14 = .ok (.ireturn, 1) := by decide +kernel
theorem dX9_row_15 : decode cX9_row 15 = .ok (.aload_n 0, 1) := by decide +kernel
theorem dX9_row_16 : decode cX9_row 16 = .ok (.iload_n 2, 1) := by decide +kernel
theorem dX9_row_17 : decode cX9_row 17 = .ok (.putfield 46, 3) := by decide +kernel
theorem dX9_row_20 : decode cX9_row 20 = .ok (.iconst 0, 1) := by decide +kernel
theorem dX9_row_21 : decode cX9_row 21 = .ok (.istore_n 3, 1) := by decide +kernel
theorem dX9_row_22 : decode cX9_row 22 = .ok (.iload_n 3, 1) := by decide +kernel
theorem dX9_row_23 : decode cX9_row 23 = .ok (.iload_n 2, 1) := by decide +kernel
theorem dX9_row_24 : decode cX9_row 24 = .ok (.if_icmp .ge 22, 3) := by decide +kernel
theorem dX9_row_27 : decode cX9_row 27 = .ok (.aload_n 0, 1) := by decide +kernel
theorem dX9_row_28 : decode cX9_row 28 = .ok (.getfield 50, 3) := by decide +kernel
theorem dX9_row_31 : decode cX9_row 31 = .ok (.iload_n 3, 1) := by decide +kernel
theorem dX9_row_32 : decode cX9_row 32 = .ok (.iload_n 1, 1) := by decide +kernel
theorem dX9_row_33 : decode cX9_row 33 = .ok (.iconst 2, 1) := by decide +kernel
theorem dX9_row_34 : decode cX9_row 34 = .ok (.iload_n 3, 1) := by decide +kernel
theorem dX9_row_35 : decode cX9_row 35 = .ok (.imul, 1) := by decide +kernel
theorem dX9_row_36 : decode cX9_row 36 = .ok (.ishr, 1) := by decide +kernel
theorem dX9_row_37 : decode cX9_row 37 = .ok (.iconst 3, 1) := by decide +kernel
theorem dX9_row_38 : decode cX9_row 38 = .ok (.iand, 1) := by decide +kernel
theorem dX9_row_39 : decode cX9_row 39 = .ok (.iastore, 1) := by decide +kernel
theorem dX9_row_40 : decode cX9_row 40 = .ok (.iinc 3 1, 3) := by decide +kernel
theorem dX9_row_43 : decode cX9_row 43 = .ok (.goto (-21), 3) := by decide +kernel
theorem dX9_row_46 : decode cX9_row 46 = .ok (.iconst 1, 1) := by decide +kernel
theorem dX9_row_47 : decode cX9_row 47 = .ok (.ireturn, 1) := by decide +kernel
theorem dX9_set_0 : decode cX9_set 0 = .ok (.iload_n 1, 1) := by decide +kernel
theorem dX9_set_1 : decode cX9_set 1 = .ok (.i2l, 1) := by decide +kernel
theorem dX9_set_2 : decode cX9_set 2 = .ok (.lconst 0, 1) := by decide +kernel
theorem dX9_set_3 : decode cX9_set 3 = .ok (.ldc2_w 248, 3) := by decide +kernel
theorem dX9_set_6 : decode cX9_set 6 = .ok (.invokestatic 154, 3) := by decide +kernel
theorem dX9_set_9 : decode cX9_set 9 = .ok (.ifCond .eq 55, 3) := by decide +kernel
theorem dX9_set_12 : decode cX9_set 12 = .ok (.iload_n 2, 1) := by decide +kernel
theorem dX9_set_13 : decode cX9_set 13 = .ok (.i2l, 1) := by decide +kernel
theorem dX9_set_14 : decode cX9_set 14 = .ok (.iload_n 1, 1) := by decide +kernel
theorem dX9_set_15 : decode cX9_set 15 = .ok (.ifCond .ne 7, 3) := by decide +kernel
theorem dX9_set_18 : decode cX9_set 18 = .ok (.lconst 1, 1) := by decide +kernel
theorem dX9_set_19 : decode cX9_set 19 = .ok (.goto 4, 3) := by decide +kernel
theorem dX9_set_22 : decode cX9_set 22 = .ok (.lconst 0, 1) := by decide +kernel
theorem dX9_set_23 : decode cX9_set 23 = .ok (.iload_n 1, 1) := by decide +kernel
theorem dX9_set_24 : decode cX9_set 24 = .ok (.ifCond .ne 9, 3) := by decide +kernel
theorem dX9_set_27 : decode cX9_set 27 = .ok (.ldc2_w 250, 3) := by decide +kernel
theorem dX9_set_30 : decode cX9_set 30 = .ok (.goto 28, 3) := by decide +kernel
theorem dX9_set_33 : decode cX9_set 33 = .ok (.iload_n 1, 1) := by decide +kernel
theorem dX9_set_34 : decode cX9_set 34 = .ok (.iconst 1, 1) := by decide +kernel
theorem dX9_set_35 : decode cX9_set 35 = .ok (.if_icmp .ne 9, 3) := by decide +kernel
theorem dX9_set_38 : decode cX9_set 38 = .ok (.ldc2_w 164, 3) := by decide +kernel
theorem dX9_set_41 : decode cX9_set 41 = .ok (.goto 17, 3) := by decide +kernel
theorem dX9_set_44 : decode cX9_set 44 = .ok (.iload_n 1, 1) := by decide +kernel
theorem dX9_set_45 : decode cX9_set 45 = .ok (.iconst 2, 1) := by decide +kernel
theorem dX9_set_46 : decode cX9_set 46 = .ok (.if_icmp .ne 9, 3) := by decide +kernel
theorem dX9_set_49 : decode cX9_set 49 = .ok (.ldc2_w 248, 3) := by decide +kernel
theorem dX9_set_52 : decode cX9_set 52 = .ok (.goto 6, 3) := by decide +kernel
theorem dX9_set_55 : decode cX9_set 55 = .ok (.ldc2_w 166, 3) := by decide +kernel
theorem dX9_set_58 : decode cX9_set 58 = .ok (.invokestatic 154, 3) := by decide +kernel
theorem dX9_set_61 : decode cX9_set 61 = .ok (.ifCond .ne 6, 3) := by decide +kernel
theorem dX9_set_64 : decode cX9_set 64 = .ok (.bipush (-3), 2) := by decide +kernel
theorem dX9_set_66 : decode cX9_set 66 = .ok (.ireturn, 1) := by decide +kernel
theorem dX9_set_67 : decode cX9_set 67 = .ok (.aload_n 0, 1) := by decide +kernel
theorem dX9_set_68 : decode cX9_set 68 = .ok (.getfield 53, 3) := by decide +kernel
theorem dX9_set_71 : decode cX9_set 71 = .ok (.iload_n 1, 1) := by decide +kernel
theorem dX9_set_72 : decode cX9_set 72 = .ok (.iaload, 1) := by decide +kernel
theorem dX9_set_73 : decode cX9_set 73 = .ok (.istore_n 3, 1) := by decide +kernel
theorem dX9_set_74 : decode cX9_set 74 = .ok (.aload_n 0, 1) := by decide +kernel
theorem dX9_set_75 : decode cX9_set 75 = .ok (.getfield 53, 3) := by decide +kernel
theorem dX9_set_78 : decode cX9_set 78 = .ok (.iload_n 1, 1) := by decide +kernel
theorem dX9_set_79 : decode cX9_set 79 = .ok (.iload_n 2, 1) := by decide +kernel
theorem dX9_set_80 : decode cX9_set 80 = .ok (.iastore, 1) := by decide +kernel
theorem dX9_set_81 : decode cX9_set 81 = .ok (.iload_n 3, 1) := by decide +kernel
theorem dX9_set_82 : decode cX9_set 82 = .ok (.ireturn, 1) := by decide +kernel
theorem dX9_push_0 : decode cX9_push 0 = .ok (.iload_n 1, 1) := by decide +kernel
theorem dX9_push_1 : decode cX9_push 1 = .ok (.i2l, 1) := by decide +kernel
theorem dX9_push_2 : decode cX9_push 2 = .ok (.lconst 0, 1) := by decide +kernel
theorem dX9_push_3 : decode cX9_push 3 = .ok (.ldc2_w 188, 3) := by decide +kernel
theorem dX9_push_6 : decode cX9_push 6 = .ok (.invokestatic 154, 3) := by decide +kernel
theorem dX9_push_9 : decode cX9_push 9 = .ok (.ifCond .eq 17, 3) := by decide +kernel
theorem dX9_push_12 : decode cX9_push 12 = .ok (.iload_n 2, 1) := by decide +kernel
theorem dX9_push_13 : decode cX9_push 13 = .ok (.i2l, 1) := by decide +kernel
theorem dX9_push_14 : decode cX9_push 14 = .ok (.ldc2_w 252, 3) := by decide +kernel
theorem dX9_push_17 : decode cX9_push 17 = .ok (.ldc2_w 158, 3) := by decide +kernel
theorem dX9_push_20 : decode cX9_push 20 = .ok (.invokestatic 154, 3) := by decide +kernel
theorem dX9_push_23 : decode cX9_push 23 = .ok (.ifCond .ne 6, 3) := by decide +kernel
theorem dX9_push_26 : decode cX9_push 26 = .ok (.bipush (-3), 2) := by decide +kernel
theorem dX9_push_28 : decode cX9_push 28 = .ok (.ireturn, 1) := by decide +kernel
theorem dX9_push_29 : decode cX9_push 29 = .ok (.aload_n 0, 1) := by decide +kernel
theorem dX9_push_30 : decode cX9_push 30 = .ok (.getfield 254, 3) := by decide +kernel
theorem dX9_push_33 : decode cX9_push 33 = .ok (.bipush 8, 2) := by decide +kernel
theorem dX9_push_35 : decode cX9_push 35 = .ok (.if_icmp .ne 6, 3) := by decide +kernel
theorem dX9_push_38 : decode cX9_push 38 = .ok (.bipush (-5), 2) := by decide +kernel
theorem dX9_push_40 : decode cX9_push 40 = .ok (.ireturn, 1) := by decide +kernel
theorem dX9_push_41 : decode cX9_push 41 = .ok (.aload_n 0, 1) := by decide +kernel
theorem dX9_push_42 : decode cX9_push 42 = .ok (.getfield 56, 3) := by decide +kernel
theorem dX9_push_45 : decode cX9_push 45 = .ok (.aload_n 0, 1) := by decide +kernel
theorem dX9_push_46 : decode cX9_push 46 = .ok (.getfield 254, 3) := by decide +kernel
theorem dX9_push_49 : decode cX9_push 49 = .ok (.iload_n 1, 1) := by decide +kernel
theorem dX9_push_50 : decode cX9_push 50 = .ok (.iastore, 1) := by decide +kernel
theorem dX9_push_51 : decode cX9_push 51 = .ok (.aload_n 0, 1) := by decide +kernel
theorem dX9_push_52 : decode cX9_push 52 = .ok (.getfield 59, 3) := by decide +kernel
theorem dX9_push_55 : decode cX9_push 55 = .ok (.aload_n 0, 1) := by decide +kernel
theorem dX9_push_56 : decode cX9_push 56 = .ok (.getfield 254, 3) := by decide +kernel
theorem dX9_push_59 : decode cX9_push 59 = .ok (.iload_n 2, 1) := by decide +kernel
theorem dX9_push_60 : decode cX9_push 60 = .ok (.iastore, 1) := by decide +kernel
theorem dX9_push_61 : decode cX9_push 61 = .ok (.aload_n 0, 1) := by decide +kernel
theorem dX9_push_62 : decode cX9_push 62 = .ok (.dup, 1) := by decide +kernel
theorem dX9_push_63 : decode cX9_push 63 = .ok (.getfield 254, 3) := by decide +kernel
theorem dX9_push_66 : decode cX9_push 66 = .ok (.iconst 1, 1) := by decide +kernel
theorem dX9_push_67 : decode cX9_push 67 = .ok (.iadd, 1) := by decide +kernel
theorem dX9_push_68 : decode cX9_push 68 = .ok (.putfield 254, 3) := by decide +kernel
theorem dX9_push_71 : decode cX9_push 71 = .ok (.aload_n 0, 1) := by decide +kernel
theorem dX9_push_72 : decode cX9_push 72 = .ok (.getfield 254, 3) := by decide +kernel
theorem dX9_push_75 : decode cX9_push 75 = .ok (.ireturn, 1) := by decide +kernel
theorem dX9_calm_0 : decode cX9_calm 0 = .ok (.aload_n 0, 1) := by decide +kernel
theorem dX9_calm_1 : decode cX9_calm 1 = .ok (.getfield 254, 3) := by decide +kernel
theorem dX9_calm_4 : decode cX9_calm 4 = .ok (.istore_n 1, 1) := by decide +kernel
theorem dX9_calm_5 : decode cX9_calm 5 = .ok (.aload_n 0, 1) := by decide +kernel
theorem dX9_calm_6 : decode cX9_calm 6 = .ok (.iconst 0, 1) := by decide +kernel
theorem dX9_calm_7 : decode cX9_calm 7 = .ok (.putfield 254, 3) := by decide +kernel
theorem dX9_calm_10 : decode cX9_calm 10 = .ok (.iload_n 1, 1) := by decide +kernel
theorem dX9_calm_11 : decode cX9_calm 11 = .ok (.ireturn, 1) := by decide +kernel
theorem dX9_lose_0 : decode cX9_lose 0 = .ok (.aload_n 0, 1) := by decide +kernel
theorem dX9_lose_1 : decode cX9_lose 1 = .ok (.iload_n 1, 1) := by decide +kernel
theorem dX9_lose_2 : decode cX9_lose 2 = .ok (.putfield 257, 3) := by decide +kernel
theorem dX9_lose_5 : decode cX9_lose 5 = .ok (.iconst 1, 1) := by decide +kernel
theorem dX9_lose_6 : decode cX9_lose 6 = .ok (.ireturn, 1) := by decide +kernel
theorem dX9_hill_0 : decode cX9_hill 0 = .ok (.iload_n 1, 1) := by decide +kernel
theorem dX9_hill_1 : decode cX9_hill 1 = .ok (.i2l, 1) := by decide +kernel
theorem dX9_hill_2 : decode cX9_hill 2 = .ok (.lconst 0, 1) := by decide +kernel
theorem dX9_hill_3 : decode cX9_hill 3 = .ok (.ldc2_w 260, 3) := by decide +kernel
theorem dX9_hill_6 : decode cX9_hill 6 = .ok (.invokestatic 154, 3) := by decide +kernel
theorem dX9_hill_9 : decode cX9_hill 9 = .ok (.ifCond .eq 41, 3) := by decide +kernel
theorem dX9_hill_12 : decode cX9_hill 12 = .ok (.iload_n 2, 1) := by decide +kernel
theorem dX9_hill_13 : decode cX9_hill 13 = .ok (.i2l, 1) := by decide +kernel
theorem dX9_hill_14 : decode cX9_hill 14 = .ok (.iload_n 1, 1) := by decide +kernel
theorem dX9_hill_15 : decode cX9_hill 15 = .ok (.i2l, 1) := by decide +kernel
theorem dX9_hill_16 : decode cX9_hill 16 = .ok (.ldc2_w 260, 3) := by decide +kernel
theorem dX9_hill_19 : decode cX9_hill 19 = .ok (.invokestatic 154, 3) := by decide +kernel
theorem dX9_hill_22 : decode cX9_hill 22 = .ok (.ifCond .eq 28, 3) := by decide +kernel
theorem dX9_hill_25 : decode cX9_hill 25 = .ok (.iload_n 3, 1) := by decide +kernel
theorem dX9_hill_26 : decode cX9_hill 26 = .ok (.i2l, 1) := by decide +kernel
theorem dX9_hill_27 : decode cX9_hill 27 = .ok (.lconst 0, 1) := by decide +kernel
theorem dX9_hill_28 : decode cX9_hill 28 = .ok (.ldc2_w 164, 3) := by decide +kernel
theorem dX9_hill_31 : decode cX9_hill 31 = .ok (.invokestatic 154, 3) := by decide +kernel
theorem dX9_hill_34 : decode cX9_hill 34 = .ok (.ifCond .eq 16, 3) := by decide +kernel
theorem dX9_hill_37 : decode cX9_hill 37 = .ok (.iload 4, 2) := by decide +kernel
theorem dX9_hill_39 : decode cX9_hill 39 = .ok (.i2l, 1) := by decide +kernel
theorem dX9_hill_40 : decode cX9_hill 40 = .ok (.lconst 0, 1) := by decide +kernel
theorem dX9_hill_41 : decode cX9_hill 41 = .ok (.ldc2_w 164, 3) := by decide +kernel
theorem dX9_hill_44 : decode cX9_hill 44 = .ok (.invokestatic 154, 3) := by decide +kernel
theorem dX9_hill_47 : decode cX9_hill 47 = .ok (.ifCond .ne 6, 3) := by decide +kernel
theorem dX9_hill_50 : decode cX9_hill 50 = .ok (.bipush (-3), 2) := by decide +kernel
theorem dX9_hill_52 : decode cX9_hill 52 = .ok (.ireturn, 1) := by decide +kernel
theorem dX9_hill_53 : decode cX9_hill 53 = .ok (.aload_n 0, 1) := by decide +kernel
theorem dX9_hill_54 : decode cX9_hill 54 = .ok (.getfield 262, 3) := by decide +kernel
theorem dX9_hill_57 : decode cX9_hill 57 = .ok (.iconst 2, 1) := by decide +kernel
theorem dX9_hill_58 : decode cX9_hill 58 = .ok (.if_icmp .ne 6, 3) := by decide +kernel
theorem dX9_hill_61 : decode cX9_hill 61 = .ok (.bipush (-5), 2) := by decide +kernel
theorem dX9_hill_63 : decode cX9_hill 63 = .ok (.ireturn, 1) := by decide +kernel
theorem dX9_hill_64 : decode cX9_hill 64 = .ok (.aload_n 0, 1) := by decide +kernel
theorem dX9_hill_65 : decode cX9_hill 65 = .ok (.getfield 62, 3) := by decide +kernel
theorem dX9_hill_68 : decode cX9_hill 68 = .ok (.aload_n 0, 1) := by decide +kernel
theorem dX9_hill_69 : decode cX9_hill 69 = .ok (.getfield 262, 3) := by decide +kernel
theorem dX9_hill_72 : decode cX9_hill 72 = .ok (.iload_n 1, 1) := by decide +kernel
theorem dX9_hill_73 : decode cX9_hill 73 = .ok (.iastore, 1) := by decide +kernel
theorem dX9_hill_74 : decode cX9_hill 74 = .ok (.aload_n 0, 1) := by decide +kernel
theorem dX9_hill_75 : decode cX9_hill 75 = .ok (.getfield 65, 3) := by decide +kernel
theorem dX9_hill_78 : decode cX9_hill 78 = .ok (.aload_n 0, 1) := by decide +kernel
theorem dX9_hill_79 : decode cX9_hill 79 = .ok (.getfield 262, 3) := by decide +kernel
theorem dX9_hill_82 : decode cX9_hill 82 = .ok (.iload_n 2, 1) := by decide +kernel
theorem dX9_hill_83 : decode cX9_hill 83 = .ok (.iastore, 1) := by decide +kernel
theorem dX9_hill_84 : decode cX9_hill 84 = .ok (.aload_n 0, 1) := by decide +kernel
theorem dX9_hill_85 : decode cX9_hill 85 = .ok (.getfield 68, 3) := by decide +kernel
theorem dX9_hill_88 : decode cX9_hill 88 = .ok (.aload_n 0, 1) := by decide +kernel
theorem dX9_hill_89 : decode cX9_hill 89 = .ok (.getfield 262, 3) := by decide +kernel
theorem dX9_hill_92 : decode cX9_hill 92 = .ok (.iload_n 3, 1) := by decide +kernel
theorem dX9_hill_93 : decode cX9_hill 93 = .ok (.iastore, 1) := by decide +kernel
theorem dX9_hill_94 : decode cX9_hill 94 = .ok (.aload_n 0, 1) := by decide +kernel
theorem dX9_hill_95 : decode cX9_hill 95 = .ok (.getfield 71, 3) := by decide +kernel
theorem dX9_hill_98 : decode cX9_hill 98 = .ok (.aload_n 0, 1) := by decide +kernel
theorem dX9_hill_99 : decode cX9_hill 99 = .ok (.getfield 262, 3) := by decide +kernel
theorem dX9_hill_102 : decode cX9_hill 102 = .ok (.iload 4, 2) := by decide +kernel
theorem dX9_hill_104 : decode cX9_hill 104 = .ok (.iastore, 1) := by decide +kernel
theorem dX9_hill_105 : decode cX9_hill 105 = .ok (.aload_n 0, 1) := by decide +kernel
theorem dX9_hill_106 : decode cX9_hill 106 = .ok (.dup, 1) := by decide +kernel
theorem dX9_hill_107 : decode cX9_hill 107 = .ok (.getfield 262, 3) := by decide +kernel
theorem dX9_hill_110 : decode cX9_hill 110 = .ok (.iconst 1, 1) := by decide +kernel
theorem dX9_hill_111 : decode cX9_hill 111 = .ok (.iadd, 1) := by decide +kernel
theorem dX9_hill_112 : decode cX9_hill 112 = .ok (.putfield 262, 3) := by decide +kernel
theorem dX9_hill_115 : decode cX9_hill 115 = .ok (.aload_n 0, 1) := by decide +kernel
theorem dX9_hill_116 : decode cX9_hill 116 = .ok (.getfield 262, 3) := by decide +kernel
theorem dX9_hill_119 : decode cX9_hill 119 = .ok (.ireturn, 1) := by decide +kernel
theorem dX9_isLorry_0 : decode cX9_isLorry 0 = .ok (.iload_n 1, 1) := by decide +kernel
theorem dX9_isLorry_1 : decode cX9_isLorry 1 = .ok (.i2l, 1) := by decide +kernel
theorem dX9_isLorry_2 : decode cX9_isLorry 2 = .ok (.lconst 0, 1) := by decide +kernel
theorem dX9_isLorry_3 : decode cX9_isLorry 3 = .ok (.aload_n 0, 1) := by decide +kernel
theorem dX9_isLorry_4 : decode cX9_isLorry 4 = .ok (.getfield 46, 3) := by decide +kernel
theorem dX9_isLorry_7 : decode cX9_isLorry 7 = .ok (.iconst 1, 1) := by decide +kernel
theorem dX9_isLorry_8 : decode cX9_isLorry 8 = .ok (.isub, 1) := by decide +kernel
theorem dX9_isLorry_9 : decode cX9_isLorry 9 = .ok (.i2l, 1) := by decide +kernel
theorem dX9_isLorry_10 : decode cX9_isLorry 10 = .ok (.invokestatic 154, 3) := by decide +kernel
theorem dX9_isLorry_13 : decode cX9_isLorry 13 = .ok (.ireturn, 1) := by decide +kernel
theorem dX9_stranger_0 : decode cX9_stranger 0 = .ok (.aload_n 0, 1) := by decide +kernel
theorem dX9_stranger_1 : decode cX9_stranger 1 = .ok (.iload_n 1, 1) := by decide +kernel
theorem dX9_stranger_2 : decode cX9_stranger 2 = .ok (.invokevirtual 265, 3) := by decide +kernel
theorem dX9_stranger_5 : decode cX9_stranger 5 = .ok (.ifCond .eq 7, 3) := by decide +kernel
theorem dX9_stranger_8 : decode cX9_stranger 8 = .ok (.iload_n 1, 1) := by decide +kernel
theorem dX9_stranger_9 : decode cX9_stranger 9 = .ok (.ifCond .ne 6, 3) := by decide +kernel
theorem dX9_stranger_12 : decode cX9_stranger 12 = .ok (.bipush (-2), 2) := by decide +kernel
theorem dX9_stranger_14 : decode cX9_stranger 14 = .ok (.ireturn, 1) := by decide +kernel
theorem dX9_stranger_15 : decode cX9_stranger 15 = .ok (.iload_n 2, 1) := by decide +kernel
theorem dX9_stranger_16 : decode cX9_stranger 16 = .ok (.i2l, 1) := by decide +kernel
theorem dX9_stranger_17 : decode cX9_stranger 17 = .ok (.lconst 0, 1) := by decide +kernel
theorem dX9_stranger_18 : decode cX9_stranger 18 = .ok (.ldc2_w 188, 3) := by decide +kernel
theorem dX9_stranger_21 : decode cX9_stranger 21 = .ok (.invokestatic 154, 3) := by decide +kernel
theorem dX9_stranger_24 : decode cX9_stranger 24 = .ok (.ifCond .eq 29, 3) := by decide +kernel
theorem dX9_stranger_27 : decode cX9_stranger 27 = .ok (.iload_n 3, 1) := by decide +kernel
theorem dX9_stranger_28 : decode cX9_stranger 28 = .ok (.i2l, 1) := by decide +kernel
theorem dX9_stranger_29 : decode cX9_stranger 29 = .ok (.iload_n 2, 1) := by decide +kernel
theorem dX9_stranger_30 : decode cX9_stranger 30 = .ok (.i2l, 1) := by decide +kernel
theorem dX9_stranger_31 : decode cX9_stranger 31 = .ok (.ldc2_w 188, 3) := by decide +kernel
theorem dX9_stranger_34 : decode cX9_stranger 34 = .ok (.invokestatic 154, 3) := by decide +kernel
theorem dX9_stranger_37 : decode cX9_stranger 37 = .ok (.ifCond .eq 16, 3) := by decide +kernel
theorem dX9_stranger_40 : decode cX9_stranger 40 = .ok (.iload 4, 2) := by decide +kernel
theorem dX9_stranger_42 : decode cX9_stranger 42 = .ok (.i2l, 1) := by decide +kernel
theorem dX9_stranger_43 : decode cX9_stranger 43 = .ok (.lconst 0, 1) := by decide +kernel
theorem dX9_stranger_44 : decode cX9_stranger 44 = .ok (.ldc2_w 164, 3) := by decide +kernel
theorem dX9_stranger_47 : decode cX9_stranger 47 = .ok (.invokestatic 154, 3) := by decide +kernel
theorem dX9_stranger_50 : decode cX9_stranger 50 = .ok (.ifCond .ne 6, 3) := by decide +kernel
theorem dX9_stranger_53 : decode cX9_stranger 53 = .ok (.bipush (-3), 2) := by decide +kernel
theorem dX9_stranger_55 : decode cX9_stranger 55 = .ok (.ireturn, 1) := by decide +kernel
theorem dX9_stranger_56 : decode cX9_stranger 56 = .ok (.aload_n 0, 1) := by decide +kernel
theorem dX9_stranger_57 : decode cX9_stranger 57 = .ok (.iload_n 1, 1) := by decide +kernel
theorem dX9_stranger_58 : decode cX9_stranger 58 = .ok (.putfield 268, 3) := by decide +kernel
theorem dX9_stranger_61 : decode cX9_stranger 61 = .ok (.aload_n 0, 1) := by decide +kernel
theorem dX9_stranger_62 : decode cX9_stranger 62 = .ok (.iload_n 2, 1) := by decide +kernel
theorem dX9_stranger_63 : decode cX9_stranger 63 = .ok (.putfield 271, 3) := by decide +kernel
theorem dX9_stranger_66 : decode cX9_stranger 66 = .ok (.aload_n 0, 1) := by decide +kernel
theorem dX9_stranger_67 : decode cX9_stranger 67 = .ok (.iload_n 3, 1) := by decide +kernel
theorem dX9_stranger_68 : decode cX9_stranger 68 = .ok (.putfield 274, 3) := by decide +kernel
theorem dX9_stranger_71 : decode cX9_stranger 71 = .ok (.aload_n 0, 1) := by decide +kernel
theorem dX9_stranger_72 : decode cX9_stranger 72 = .ok (.iload 4, 2) := by decide +kernel
theorem dX9_stranger_74 : decode cX9_stranger 74 = .ok (.putfield 277, 3) := by decide +kernel
theorem dX9_stranger_77 : decode cX9_stranger 77 = .ok (.iconst 1, 1) := by decide +kernel
theorem dX9_stranger_78 : decode cX9_stranger 78 = .ok (.ireturn, 1) := by decide +kernel
theorem dX9_pushedIn_0 : decode cX9_pushedIn 0 = .ok (.iconst 0, 1) := by decide +kernel
theorem dX9_pushedIn_1 : decode cX9_pushedIn 1 = .ok (.istore_n 2, 1) := by decide +kernel
theorem dX9_pushedIn_2 : decode cX9_pushedIn 2 = .ok (.iconst 0, 1) := by decide +kernel
theorem dX9_pushedIn_3 : decode cX9_pushedIn 3 = .ok (.istore_n 3, 1) := by decide +kernel
theorem dX9_pushedIn_4 : decode cX9_pushedIn 4 = .ok (.iload_n 3, 1) := by decide +kernel
theorem dX9_pushedIn_5 : decode cX9_pushedIn 5 = .ok (.aload_n 0, 1) := by decide +kernel
theorem dX9_pushedIn_6 : decode cX9_pushedIn 6 = .ok (.getfield 254, 3) := by decide +kernel
theorem dX9_pushedIn_9 : decode cX9_pushedIn 9 = .ok (.if_icmp .ge 30, 3) := by decide +kernel
theorem dX9_pushedIn_12 : decode cX9_pushedIn 12 = .ok (.aload_n 0, 1) := by decide +kernel
theorem dX9_pushedIn_13 : decode cX9_pushedIn 13 = .ok (.getfield 56, 3) := by decide +kernel
theorem dX9_pushedIn_16 : decode cX9_pushedIn 16 = .ok (.iload_n 3, 1) := by decide +kernel
theorem dX9_pushedIn_17 : decode cX9_pushedIn 17 = .ok (.iaload, 1) := by decide +kernel
theorem dX9_pushedIn_18 : decode cX9_pushedIn 18 = .ok (.iload_n 1, 1) := by decide +kernel
theorem dX9_pushedIn_19 : decode cX9_pushedIn 19 = .ok (.if_icmp .ne 12, 3) := by decide +kernel
theorem dX9_pushedIn_22 : decode cX9_pushedIn 22 = .ok (.aload_n 0, 1) := by decide +kernel
theorem dX9_pushedIn_23 : decode cX9_pushedIn 23 = .ok (.getfield 59, 3) := by decide +kernel
theorem dX9_pushedIn_26 : decode cX9_pushedIn 26 = .ok (.iload_n 3, 1) := by decide +kernel
theorem dX9_pushedIn_27 : decode cX9_pushedIn 27 = .ok (.iaload, 1) := by decide +kernel
theorem dX9_pushedIn_28 : decode cX9_pushedIn 28 = .ok (.goto 4, 3) := by decide +kernel
theorem dX9_pushedIn_31 : decode cX9_pushedIn 31 = .ok (.iload_n 2, 1) := by decide +kernel
theorem dX9_pushedIn_32 : decode cX9_pushedIn 32 = .ok (.istore_n 2, 1) := by decide +kernel
theorem dX9_pushedIn_33 : decode cX9_pushedIn 33 = .ok (.iinc 3 1, 3) := by decide +kernel
theorem dX9_pushedIn_36 : decode cX9_pushedIn 36 = .ok (.goto (-32), 3) := by decide +kernel
theorem dX9_pushedIn_39 : decode cX9_pushedIn 39 = .ok (.aload_n 0, 1) := by decide +kernel
theorem dX9_pushedIn_40 : decode cX9_pushedIn 40 = .ok (.getfield 50, 3) := by decide +kernel
theorem dX9_pushedIn_43 : decode cX9_pushedIn 43 = .ok (.iconst 0, 1) := by decide +kernel
theorem dX9_pushedIn_44 : decode cX9_pushedIn 44 = .ok (.iaload, 1) := by decide +kernel
theorem dX9_pushedIn_45 : decode cX9_pushedIn 45 = .ok (.istore_n 3, 1) := by decide +kernel
theorem dX9_pushedIn_46 : decode cX9_pushedIn 46 = .ok (.iload_n 2, 1) := by decide +kernel
theorem dX9_pushedIn_47 : decode cX9_pushedIn 47 = .ok (.ifCond .ge 18, 3) := by decide +kernel
theorem dX9_pushedIn_50 : decode cX9_pushedIn 50 = .ok (.iload_n 2, 1) := by decide +kernel
theorem dX9_pushedIn_51 : decode cX9_pushedIn 51 = .ok (.ineg, 1) := by decide +kernel
theorem dX9_pushedIn_52 : decode cX9_pushedIn 52 = .ok (.aload_n 0, 1) := by decide +kernel
theorem dX9_pushedIn_53 : decode cX9_pushedIn 53 = .ok (.getfield 13, 3) := by decide +kernel
theorem dX9_pushedIn_56 : decode cX9_pushedIn 56 = .ok (.iload_n 3, 1) := by decide +kernel
theorem dX9_pushedIn_57 : decode cX9_pushedIn 57 = .ok (.iaload, 1) := by decide +kernel
theorem dX9_pushedIn_58 : decode cX9_pushedIn 58 = .ok (.invokestatic 280, 3) := by decide +kernel
theorem dX9_pushedIn_61 : decode cX9_pushedIn 61 = .ok (.ineg, 1) := by decide +kernel
theorem dX9_pushedIn_62 : decode cX9_pushedIn 62 = .ok (.goto 13, 3) := by decide +kernel
theorem dX9_pushedIn_65 : decode cX9_pushedIn 65 = .ok (.iload_n 2, 1) := by decide +kernel
theorem dX9_pushedIn_66 : decode cX9_pushedIn 66 = .ok (.aload_n 0, 1) := by decide +kernel
theorem dX9_pushedIn_67 : decode cX9_pushedIn 67 = .ok (.getfield 16, 3) := by decide +kernel
theorem dX9_pushedIn_70 : decode cX9_pushedIn 70 = .ok (.iload_n 3, 1) := by decide +kernel
theorem dX9_pushedIn_71 : decode cX9_pushedIn 71 = .ok (.iaload, 1) := by decide +kernel
theorem dX9_pushedIn_72 : decode cX9_pushedIn 72 = .ok (.invokestatic 280, 3) := by decide +kernel
theorem dX9_pushedIn_75 : decode cX9_pushedIn 75 = .ok (.ireturn, 1) := by decide +kernel
theorem dX9_isStrange_0 : decode cX9_isStrange 0 = .ok (.aload_n 0, 1) := by decide +kernel
theorem dX9_isStrange_1 : decode cX9_isStrange 1 = .ok (.getfield 268, 3) := by decide +kernel
theorem dX9_isStrange_4 : decode cX9_isStrange 4 = .ok (.ifCond .le 33, 3) := by decide +kernel
theorem dX9_isStrange_7 : decode cX9_isStrange 7 = .ok (.aload_n 0, 1) := by decide +kernel
theorem dX9_isStrange_8 : decode cX9_isStrange 8 = .ok (.getfield 268, 3) := by decide +kernel
theorem dX9_isStrange_11 : decode cX9_isStrange 11 = .ok (.iload_n 1, 1) := by decide +kernel
theorem dX9_isStrange_12 : decode cX9_isStrange 12 = .ok (.if_icmp .ne 25, 3) := by decide +kernel
theorem dX9_isStrange_15 : decode cX9_isStrange 15 = .ok (.iload_n 2, 1) := by decide +kernel
theorem dX9_isStrange_16 : decode cX9_isStrange 16 = .ok (.i2l, 1) := by decide +kernel
theorem dX9_isStrange_17 : decode cX9_isStrange 17 = .ok (.aload_n 0, 1) := by decide +kernel
theorem dX9_isStrange_18 : decode cX9_isStrange 18 = .ok (.getfield 271, 3) := by decide +kernel
theorem dX9_isStrange_21 : decode cX9_isStrange 21 = .ok (.i2l, 1) := by decide +kernel
theorem dX9_isStrange_22 : decode cX9_isStrange 22 = .ok (.aload_n 0, 1) := by decide +kernel
theorem dX9_isStrange_23 : decode cX9_isStrange 23 = .ok (.getfield 274, 3) := by decide +kernel
theorem dX9_isStrange_26 : decode cX9_isStrange 26 = .ok (.i2l, 1) := by decide +kernel
theorem dX9_isStrange_27 : decode cX9_isStrange 27 = .ok (.invokestatic 154, 3) := by decide +kernel
theorem dX9_isStrange_30 : decode cX9_isStrange 30 = .ok (.ifCond .eq 7, 3) := by decide +kernel
theorem dX9_isStrange_33 : decode cX9_isStrange 33 = .ok (.iconst 1, 1) := by decide +kernel
theorem dX9_isStrange_34 : decode cX9_isStrange 34 = .ok (.goto 4, 3) := by decide +kernel
theorem dX9_isStrange_37 : decode cX9_isStrange 37 = .ok (.iconst 0, 1) := by decide +kernel
theorem dX9_isStrange_38 : decode cX9_isStrange 38 = .ok (.ireturn, 1) := by decide +kernel
theorem dX9_wishBy_0 : decode cX9_wishBy 0 = .ok (.bipush 6, 2) := by decide +kernel
theorem dX9_wishBy_2 : decode cX9_wishBy 2 = .ok (.iload_n 1, 1) := by decide +kernel
theorem dX9_wishBy_3 : decode cX9_wishBy 3 = .ok (.imul, 1) := by decide +kernel
theorem dX9_wishBy_4 : decode cX9_wishBy 4 = .ok (.istore 7, 2) := by decide +kernel
theorem dX9_wishBy_6 : decode cX9_wishBy 6 = .ok (.iload 7, 2) := by decide +kernel
theorem dX9_wishBy_8 : decode cX9_wishBy 8 = .ok (.bipush 6, 2) := by decide +kernel
theorem dX9_wishBy_10 : decode cX9_wishBy 10 = .ok (.iload_n 1, 1) := by decide +kernel
theorem dX9_wishBy_11 : decode cX9_wishBy 11 = .ok (.imul, 1) := by decide +kernel
theorem dX9_wishBy_12 : decode cX9_wishBy 12 = .ok (.aload_n 0, 1) := by decide +kernel
theorem dX9_wishBy_13 : decode cX9_wishBy 13 = .ok (.getfield 25, 3) := by decide +kernel
theorem dX9_wishBy_16 : decode cX9_wishBy 16 = .ok (.iload_n 1, 1) := by decide +kernel
theorem dX9_wishBy_17 : decode cX9_wishBy 17 = .ok (.iaload, 1) := by decide +kernel
theorem dX9_wishBy_18 : decode cX9_wishBy 18 = .ok (.iadd, 1) := by decide +kernel
theorem dX9_wishBy_19 : decode cX9_wishBy 19 = .ok (.if_icmp .ge 252, 3) := by decide +kernel
theorem dX9_wishBy_22 : decode cX9_wishBy 22 = .ok (.iconst 1, 1) := by decide +kernel
theorem dX9_wishBy_23 : decode cX9_wishBy 23 = .ok (.istore 8, 2) := by decide +kernel
theorem dX9_wishBy_25 : decode cX9_wishBy 25 = .ok (.iconst 4, 1) := by decide +kernel
theorem dX9_wishBy_26 : decode cX9_wishBy 26 = .ok (.iload 7, 2) := by decide +kernel
theorem dX9_wishBy_28 : decode cX9_wishBy 28 = .ok (.imul, 1) := by decide +kernel
theorem dX9_wishBy_29 : decode cX9_wishBy 29 = .ok (.istore 9, 2) := by decide +kernel
theorem dX9_wishBy_31 : decode cX9_wishBy 31 = .ok (.iload 9, 2) := by decide +kernel
theorem dX9_wishBy_33 : decode cX9_wishBy 33 = .ok (.iconst 4, 1) := by decide +kernel
theorem dX9_wishBy_34 : decode cX9_wishBy 34 = .ok (.iload 7, 2) := by decide +kernel
theorem dX9_wishBy_36 : decode cX9_wishBy 36 = .ok (.imul, 1) := by decide +kernel
theorem dX9_wishBy_37 : decode cX9_wishBy 37 = .ok (.aload_n 0, 1) := by decide +kernel
theorem dX9_wishBy_38 : decode cX9_wishBy 38 = .ok (.getfield 34, 3) := by decide +kernel
theorem dX9_wishBy_41 : decode cX9_wishBy 41 = .ok (.iload 7, 2) := by decide +kernel
theorem dX9_wishBy_43 : decode cX9_wishBy 43 = .ok (.iaload, 1) := by decide +kernel
theorem dX9_wishBy_44 : decode cX9_wishBy 44 = .ok (.iadd, 1) := by decide +kernel
theorem dX9_wishBy_45 : decode cX9_wishBy 45 = .ok (.if_icmp .ge 153, 3) := by decide +kernel
theorem dX9_wishBy_48 : decode cX9_wishBy 48 = .ok (.aload_n 0, 1) := by decide +kernel
theorem dX9_wishBy_49 : decode cX9_wishBy 49 = .ok (.getfield 37, 3) := by decide +kernel
theorem dX9_wishBy_52 : decode cX9_wishBy 52 = .ok (.iload 9, 2) := by decide +kernel
theorem dX9_wishBy_54 : decode cX9_wishBy 54 = .ok (.iaload, 1) := by decide +kernel
theorem dX9_wishBy_55 : decode cX9_wishBy 55 = .ok (.istore 10, 2) := by decide +kernel
theorem dX9_wishBy_57 : decode cX9_wishBy 57 = .ok (.iload 10, 2) := by decide +kernel
theorem dX9_wishBy_59 : decode cX9_wishBy 59 = .ok (.ifCond .ne 12, 3) := by decide +kernel
theorem dX9_wishBy_62 : decode cX9_wishBy 62 = .ok (.iload_n 2, 1) := by decide +kernel
theorem dX9_wishBy_63 : decode cX9_wishBy 63 = .ok (.bipush 99, 2) := by decide +kernel
theorem dX9_wishBy_65 : decode cX9_wishBy 65 = .ok (.invokestatic 280, 3) := by decide +kernel
theorem dX9_wishBy_68 : decode cX9_wishBy 68 = .ok (.goto 72, 3) := by decide +kernel
theorem dX9_wishBy_71 : decode cX9_wishBy 71 = .ok (.iload 10, 2) := by decide +kernel
theorem dX9_wishBy_73 : decode cX9_wishBy 73 = .ok (.iconst 1, 1) := by decide +kernel
theorem dX9_wishBy_74 : decode cX9_wishBy 74 = .ok (.if_icmp .ne 20, 3) := by decide +kernel
theorem dX9_wishBy_77 : decode cX9_wishBy 77 = .ok (.iload_n 3, 1) := by decide +kernel
theorem dX9_wishBy_78 : decode cX9_wishBy 78 = .ok (.iload 4, 2) := by decide +kernel
theorem dX9_wishBy_80 : decode cX9_wishBy 80 = .ok (.if_icmp .le 10, 3) := by decide +kernel
theorem dX9_wishBy_83 : decode cX9_wishBy 83 = .ok (.iload_n 3, 1) := by decide +kernel
theorem dX9_wishBy_84 : decode cX9_wishBy 84 = .ok (.iload 4, 2) := by decide +kernel
theorem dX9_wishBy_86 : decode cX9_wishBy 86 = .ok (.isub, 1) := by decide +kernel
theorem dX9_wishBy_87 : decode cX9_wishBy 87 = .ok (.goto 53, 3) := by decide +kernel
theorem dX9_wishBy_90 : decode cX9_wishBy 90 = .ok (.iconst 0, 1) := by decide +kernel
theorem dX9_wishBy_91 : decode cX9_wishBy 91 = .ok (.goto 49, 3) := by decide +kernel
theorem dX9_wishBy_94 : decode cX9_wishBy 94 = .ok (.iload 10, 2) := by decide +kernel
theorem dX9_wishBy_96 : decode cX9_wishBy 96 = .ok (.iconst 2, 1) := by decide +kernel
theorem dX9_wishBy_97 : decode cX9_wishBy 97 = .ok (.if_icmp .ne 20, 3) := by decide +kernel
theorem dX9_wishBy_100 : decode cX9_wishBy 100 = .ok (.iload 4, 2) := by decide +kernel
theorem dX9_wishBy_102 : decode cX9_wishBy 102 = .ok (.iload_n 3, 1) := by decide +kernel
theorem dX9_wishBy_103 : decode cX9_wishBy 103 = .ok (.if_icmp .le 10, 3) := by decide +kernel
theorem dX9_wishBy_106 : decode cX9_wishBy 106 = .ok (.iload 4, 2) := by decide +kernel
theorem dX9_wishBy_108 : decode cX9_wishBy 108 = .ok (.iload_n 3, 1) := by decide +kernel
theorem dX9_wishBy_109 : decode cX9_wishBy 109 = .ok (.isub, 1) := by decide +kernel
theorem dX9_wishBy_110 : decode cX9_wishBy 110 = .ok (.goto 30, 3) := by decide +kernel
theorem dX9_wishBy_113 : decode cX9_wishBy 113 = .ok (.iconst 0, 1) := by decide +kernel
theorem dX9_wishBy_114 : decode cX9_wishBy 114 = .ok (.goto 26, 3) := by decide +kernel
theorem dX9_wishBy_117 : decode cX9_wishBy 117 = .ok (.iload 10, 2) := by decide +kernel
theorem dX9_wishBy_119 : decode cX9_wishBy 119 = .ok (.iconst 3, 1) := by decide +kernel
theorem dX9_wishBy_120 : decode cX9_wishBy 120 = .ok (.if_icmp .ne 7, 3) := by decide +kernel
theorem dX9_wishBy_123 : decode cX9_wishBy 123 = .ok (.iload_n 3, 1) := by decide +kernel
theorem dX9_wishBy_124 : decode cX9_wishBy 124 = .ok (.goto 16, 3) := by decide +kernel
theorem dX9_wishBy_127 : decode cX9_wishBy 127 = .ok (.iload 10, 2) := by decide +kernel
theorem dX9_wishBy_129 : decode cX9_wishBy 129 = .ok (.iconst 4, 1) := by decide +kernel
theorem dX9_wishBy_130 : decode cX9_wishBy 130 = .ok (.if_icmp .ne 8, 3) := by decide +kernel
theorem dX9_wishBy_133 : decode cX9_wishBy 133 = .ok (.iload 5, 2) := by decide +kernel
theorem dX9_wishBy_135 : decode cX9_wishBy 135 = .ok (.goto 5, 3) := by decide +kernel
theorem dX9_wishBy_138 : decode cX9_wishBy 138 = .ok (.iload 6, 2) := by decide +kernel
theorem dX9_wishBy_140 : decode cX9_wishBy 140 = .ok (.istore 11, 2) := by decide +kernel
theorem dX9_wishBy_142 : decode cX9_wishBy 142 = .ok (.iload 8, 2) := by decide +kernel
theorem dX9_wishBy_144 : decode cX9_wishBy 144 = .ok (.ifCond .eq 45, 3) := by decide +kernel
theorem dX9_wishBy_147 : decode cX9_wishBy 147 = .ok (.aload_n 0, 1) := by decide +kernel
theorem dX9_wishBy_148 : decode cX9_wishBy 148 = .ok (.getfield 40, 3) := by decide +kernel
theorem dX9_wishBy_151 : decode cX9_wishBy 151 = .ok (.iload 9, 2) := by decide +kernel
theorem dX9_wishBy_153 : decode cX9_wishBy 153 = .ok (.iaload, 1) := by decide +kernel
theorem dX9_wishBy_154 : decode cX9_wishBy 154 = .ok (.iconst 1, 1) := by decide +kernel
theorem dX9_wishBy_155 : decode cX9_wishBy 155 = .ok (.if_icmp .ne 18, 3) := by decide +kernel
theorem dX9_wishBy_158 : decode cX9_wishBy 158 = .ok (.iload 11, 2) := by decide +kernel
theorem dX9_wishBy_160 : decode cX9_wishBy 160 = .ok (.aload_n 0, 1) := by decide +kernel
theorem dX9_wishBy_161 : decode cX9_wishBy 161 = .ok (.getfield 43, 3) := by decide +kernel
theorem dX9_wishBy_164 : decode cX9_wishBy 164 = .ok (.iload 9, 2) := by decide +kernel
theorem dX9_wishBy_166 : decode cX9_wishBy 166 = .ok (.iaload, 1) := by decide +kernel
theorem dX9_wishBy_167 : decode cX9_wishBy 167 = .ok (.if_icmp .le 22, 3) := by decide +kernel
theorem dX9_wishBy_170 : decode cX9_wishBy 170 = .ok (.goto 15, 3) := by decide +kernel
theorem dX9_wishBy_173 : decode cX9_wishBy 173 = .ok (.iload 11, 2) := by decide +kernel
theorem dX9_wishBy_175 : decode cX9_wishBy 175 = .ok (.aload_n 0, 1) := by decide +kernel
theorem dX9_wishBy_176 : decode cX9_wishBy 176 = .ok (.getfield 43, 3) := by decide +kernel
theorem dX9_wishBy_179 : decode cX9_wishBy 179 = .ok (.iload 9, 2) := by decide +kernel
theorem dX9_wishBy_181 : decode cX9_wishBy 181 = .ok (.iaload, 1) := by decide +kernel
theorem dX9_wishBy_182 : decode cX9_wishBy 182 = .ok (.if_icmp .ge 7, 3) := by decide +kernel
theorem dX9_wishBy_185 : decode cX9_wishBy 185 = .ok (.iconst 1, 1) := by decide +kernel
theorem dX9_wishBy_186 : decode cX9_wishBy 186 = .ok (.goto 4, 3) := by decide +kernel
theorem dX9_wishBy_189 : decode cX9_wishBy 189 = .ok (.iconst 0, 1) := by decide +kernel
theorem dX9_wishBy_190 : decode cX9_wishBy 190 = .ok (.istore 8, 2) := by decide +kernel
theorem dX9_wishBy_192 : decode cX9_wishBy 192 = .ok (.iinc 9 1, 3) := by decide +kernel
theorem dX9_wishBy_195 : decode cX9_wishBy 195 = .ok (.goto (-164), 3) := by decide +kernel
theorem dX9_wishBy_198 : decode cX9_wishBy 198 = .ok (.iload 8, 2) := by decide +kernel
theorem dX9_wishBy_200 : decode cX9_wishBy 200 = .ok (.ifCond .eq 65, 3) := by decide +kernel
theorem dX9_wishBy_203 : decode cX9_wishBy 203 = .ok (.aload_n 0, 1) := by decide +kernel
theorem dX9_wishBy_204 : decode cX9_wishBy 204 = .ok (.getfield 28, 3) := by decide +kernel
theorem dX9_wishBy_207 : decode cX9_wishBy 207 = .ok (.iload 7, 2) := by decide +kernel
theorem dX9_wishBy_209 : decode cX9_wishBy 209 = .ok (.iaload, 1) := by decide +kernel
theorem dX9_wishBy_210 : decode cX9_wishBy 210 = .ok (.ifCond .ne 23, 3) := by decide +kernel
theorem dX9_wishBy_213 : decode cX9_wishBy 213 = .ok (.aload_n 0, 1) := by decide +kernel
theorem dX9_wishBy_214 : decode cX9_wishBy 214 = .ok (.getfield 31, 3) := by decide +kernel
theorem dX9_wishBy_217 : decode cX9_wishBy 217 = .ok (.iload 7, 2) := by decide +kernel
theorem dX9_wishBy_219 : decode cX9_wishBy 219 = .ok (.iaload, 1) := by decide +kernel
theorem dX9_wishBy_220 : decode cX9_wishBy 220 = .ok (.aload_n 0, 1) := by decide +kernel
theorem dX9_wishBy_221 : decode cX9_wishBy 221 = .ok (.getfield 13, 3) := by decide +kernel
theorem dX9_wishBy_224 : decode cX9_wishBy 224 = .ok (.iload_n 1, 1) := by decide +kernel
theorem dX9_wishBy_225 : decode cX9_wishBy 225 = .ok (.iaload, 1) := by decide +kernel
theorem dX9_wishBy_226 : decode cX9_wishBy 226 = .ok (.invokestatic 280, 3) := by decide +kernel
theorem dX9_wishBy_229 : decode cX9_wishBy 229 = .ok (.ineg, 1) := by decide +kernel
theorem dX9_wishBy_230 : decode cX9_wishBy 230 = .ok (.goto 34, 3) := by decide +kernel
theorem dX9_wishBy_233 : decode cX9_wishBy 233 = .ok (.aload_n 0, 1) := by decide +kernel
theorem dX9_wishBy_234 : decode cX9_wishBy 234 = .ok (.getfield 28, 3) := by decide +kernel
theorem dX9_wishBy_237 : decode cX9_wishBy 237 = .ok (.iload 7, 2) := by decide +kernel
theorem dX9_wishBy_239 : decode cX9_wishBy 239 = .ok (.iaload, 1) := by decide +kernel
theorem dX9_wishBy_240 : decode cX9_wishBy 240 = .ok (.iconst 1, 1) := by decide +kernel
theorem dX9_wishBy_241 : decode cX9_wishBy 241 = .ok (.if_icmp .ne 22, 3) := by decide +kernel
theorem dX9_wishBy_244 : decode cX9_wishBy 244 = .ok (.aload_n 0, 1) := by decide +kernel
theorem dX9_wishBy_245 : decode cX9_wishBy 245 = .ok (.getfield 31, 3) := by decide +kernel
theorem dX9_wishBy_248 : decode cX9_wishBy 248 = .ok (.iload 7, 2) := by decide +kernel
theorem dX9_wishBy_250 : decode cX9_wishBy 250 = .ok (.iaload, 1) := by decide +kernel
theorem dX9_wishBy_251 : decode cX9_wishBy 251 = .ok (.aload_n 0, 1) := by decide +kernel
theorem dX9_wishBy_252 : decode cX9_wishBy 252 = .ok (.getfield 16, 3) := by decide +kernel
theorem dX9_wishBy_255 : decode cX9_wishBy 255 = .ok (.iload_n 1, 1) := by decide +kernel
theorem dX9_wishBy_256 : decode cX9_wishBy 256 = .ok (.iaload, 1) := by decide +kernel
theorem dX9_wishBy_257 : decode cX9_wishBy 257 = .ok (.invokestatic 280, 3) := by decide +kernel
theorem dX9_wishBy_260 : decode cX9_wishBy 260 = .ok (.goto 4, 3) := by decide +kernel
theorem dX9_wishBy_263 : decode cX9_wishBy 263 = .ok (.iconst 0, 1) := by decide +kernel
theorem dX9_wishBy_264 : decode cX9_wishBy 264 = .ok (.ireturn, 1) := by decide +kernel
theorem dX9_wishBy_265 : decode cX9_wishBy 265 = .ok (.iinc 7 1, 3) := by decide +kernel
theorem dX9_wishBy_268 : decode cX9_wishBy 268 = .ok (.goto (-262), 3) := by decide +kernel
theorem dX9_wishBy_271 : decode cX9_wishBy 271 = .ok (.iconst 0, 1) := by decide +kernel
theorem dX9_wishBy_272 : decode cX9_wishBy 272 = .ok (.ireturn, 1) := by decide +kernel
theorem dX9_slopeFor_0 : decode cX9_slopeFor 0 = .ok (.bipush 40, 2) := by decide +kernel
theorem dX9_slopeFor_2 : decode cX9_slopeFor 2 = .ok (.istore_n 2, 1) := by decide +kernel
theorem dX9_slopeFor_3 : decode cX9_slopeFor 3 = .ok (.iconst 0, 1) := by decide +kernel
theorem dX9_slopeFor_4 : decode cX9_slopeFor 4 = .ok (.istore_n 3, 1) := by decide +kernel
theorem dX9_slopeFor_5 : decode cX9_slopeFor 5 = .ok (.iload_n 3, 1) := by decide +kernel
theorem dX9_slopeFor_6 : decode cX9_slopeFor 6 = .ok (.aload_n 0, 1) := by decide +kernel
theorem dX9_slopeFor_7 : decode cX9_slopeFor 7 = .ok (.getfield 262, 3) := by decide +kernel
theorem dX9_slopeFor_10 : decode cX9_slopeFor 10 = .ok (.if_icmp .ge 83, 3) := by decide +kernel
theorem dX9_slopeFor_13 : decode cX9_slopeFor 13 = .ok (.aload_n 0, 1) := by decide +kernel
theorem dX9_slopeFor_14 : decode cX9_slopeFor 14 = .ok (.getfield 7, 3) := by decide +kernel
theorem dX9_slopeFor_17 : decode cX9_slopeFor 17 = .ok (.aload_n 0, 1) := by decide +kernel
theorem dX9_slopeFor_18 : decode cX9_slopeFor 18 = .ok (.getfield 50, 3) := by decide +kernel
theorem dX9_slopeFor_21 : decode cX9_slopeFor 21 = .ok (.iload_n 1, 1) := by decide +kernel
theorem dX9_slopeFor_22 : decode cX9_slopeFor 22 = .ok (.iaload, 1) := by decide +kernel
theorem dX9_slopeFor_23 : decode cX9_slopeFor 23 = .ok (.iaload, 1) := by decide +kernel
theorem dX9_slopeFor_24 : decode cX9_slopeFor 24 = .ok (.aload_n 0, 1) := by decide +kernel
theorem dX9_slopeFor_25 : decode cX9_slopeFor 25 = .ok (.getfield 68, 3) := by decide +kernel
theorem dX9_slopeFor_28 : decode cX9_slopeFor 28 = .ok (.iload_n 3, 1) := by decide +kernel
theorem dX9_slopeFor_29 : decode cX9_slopeFor 29 = .ok (.iaload, 1) := by decide +kernel
theorem dX9_slopeFor_30 : decode cX9_slopeFor 30 = .ok (.if_icmp .le 34, 3) := by decide +kernel
theorem dX9_slopeFor_33 : decode cX9_slopeFor 33 = .ok (.aload_n 0, 1) := by decide +kernel
theorem dX9_slopeFor_34 : decode cX9_slopeFor 34 = .ok (.getfield 137, 3) := by decide +kernel
theorem dX9_slopeFor_37 : decode cX9_slopeFor 37 = .ok (.iload_n 1, 1) := by decide +kernel
theorem dX9_slopeFor_38 : decode cX9_slopeFor 38 = .ok (.iaload, 1) := by decide +kernel
theorem dX9_slopeFor_39 : decode cX9_slopeFor 39 = .ok (.i2l, 1) := by decide +kernel
theorem dX9_slopeFor_40 : decode cX9_slopeFor 40 = .ok (.aload_n 0, 1) := by decide +kernel
theorem dX9_slopeFor_41 : decode cX9_slopeFor 41 = .ok (.getfield 62, 3) := by decide +kernel
theorem dX9_slopeFor_44 : decode cX9_slopeFor 44 = .ok (.iload_n 3, 1) := by decide +kernel
theorem dX9_slopeFor_45 : decode cX9_slopeFor 45 = .ok (.iaload, 1) := by decide +kernel
theorem dX9_slopeFor_46 : decode cX9_slopeFor 46 = .ok (.i2l, 1) := by decide +kernel
theorem dX9_slopeFor_47 : decode cX9_slopeFor 47 = .ok (.aload_n 0, 1) := by decide +kernel
theorem dX9_slopeFor_48 : decode cX9_slopeFor 48 = .ok (.getfield 65, 3) := by decide +kernel
theorem dX9_slopeFor_51 : decode cX9_slopeFor 51 = .ok (.iload_n 3, 1) := by decide +kernel
theorem dX9_slopeFor_52 : decode cX9_slopeFor 52 = .ok (.iaload, 1) := by decide +kernel
theorem dX9_slopeFor_53 : decode cX9_slopeFor 53 = .ok (.i2l, 1) := by decide +kernel
theorem dX9_slopeFor_54 : decode cX9_slopeFor 54 = .ok (.invokestatic 154, 3) := by decide +kernel
theorem dX9_slopeFor_57 : decode cX9_slopeFor 57 = .ok (.ifCond .eq 7, 3) := by decide +kernel
theorem dX9_slopeFor_60 : decode cX9_slopeFor 60 = .ok (.iconst 1, 1) := by decide +kernel
theorem dX9_slopeFor_61 : decode cX9_slopeFor 61 = .ok (.goto 4, 3) := by decide +kernel
theorem dX9_slopeFor_64 : decode cX9_slopeFor 64 = .ok (.iconst 0, 1) := by decide +kernel
theorem dX9_slopeFor_65 : decode cX9_slopeFor 65 = .ok (.istore 4, 2) := by decide +kernel
theorem dX9_slopeFor_67 : decode cX9_slopeFor 67 = .ok (.iload 4, 2) := by decide +kernel
theorem dX9_slopeFor_69 : decode cX9_slopeFor 69 = .ok (.ifCond .eq 16, 3) := by decide +kernel
theorem dX9_slopeFor_72 : decode cX9_slopeFor 72 = .ok (.iload_n 2, 1) := by decide +kernel
theorem dX9_slopeFor_73 : decode cX9_slopeFor 73 = .ok (.aload_n 0, 1) := by decide +kernel
theorem dX9_slopeFor_74 : decode cX9_slopeFor 74 = .ok (.getfield 71, 3) := by decide +kernel
theorem dX9_slopeFor_77 : decode cX9_slopeFor 77 = .ok (.iload_n 3, 1) := by decide +kernel
theorem dX9_slopeFor_78 : decode cX9_slopeFor 78 = .ok (.iaload, 1) := by decide +kernel
theorem dX9_slopeFor_79 : decode cX9_slopeFor 79 = .ok (.invokestatic 280, 3) := by decide +kernel
theorem dX9_slopeFor_82 : decode cX9_slopeFor 82 = .ok (.goto 4, 3) := by decide +kernel
theorem dX9_slopeFor_85 : decode cX9_slopeFor 85 = .ok (.iload_n 2, 1) := by decide +kernel
theorem dX9_slopeFor_86 : decode cX9_slopeFor 86 = .ok (.istore_n 2, 1) := by decide +kernel
theorem dX9_slopeFor_87 : decode cX9_slopeFor 87 = .ok (.iinc 3 1, 3) := by decide +kernel
theorem dX9_slopeFor_90 : decode cX9_slopeFor 90 = .ok (.goto (-85), 3) := by decide +kernel
theorem dX9_slopeFor_93 : decode cX9_slopeFor 93 = .ok (.iload_n 2, 1) := by decide +kernel
theorem dX9_slopeFor_94 : decode cX9_slopeFor 94 = .ok (.ireturn, 1) := by decide +kernel
theorem dX9_layRun_0 : decode cX9_layRun 0 = .ok (.aload_n 0, 1) := by decide +kernel
theorem dX9_layRun_1 : decode cX9_layRun 1 = .ok (.iconst (-1), 1) := by decide +kernel
theorem dX9_layRun_2 : decode cX9_layRun 2 = .ok (.putfield 284, 3) := by decide +kernel
theorem dX9_layRun_5 : decode cX9_layRun 5 = .ok (.aload_n 0, 1) := by decide +kernel
theorem dX9_layRun_6 : decode cX9_layRun 6 = .ok (.iconst (-1), 1) := by decide +kernel
theorem dX9_layRun_7 : decode cX9_layRun 7 = .ok (.putfield 287, 3) := by decide +kernel
theorem dX9_layRun_10 : decode cX9_layRun 10 = .ok (.iconst 0, 1) := by decide +kernel
theorem dX9_layRun_11 : decode cX9_layRun 11 = .ok (.istore 4, 2) := by decide +kernel
theorem dX9_layRun_13 : decode cX9_layRun 13 = .ok (.iload 4, 2) := by decide +kernel
theorem dX9_layRun_15 : decode cX9_layRun 15 = .ok (.aload_n 0, 1) := by decide +kernel
theorem dX9_layRun_16 : decode cX9_layRun 16 = .ok (.getfield 46, 3) := by decide +kernel
theorem dX9_layRun_19 : decode cX9_layRun 19 = .ok (.if_icmp .ge 45, 3) := by decide +kernel
theorem dX9_layRun_22 : decode cX9_layRun 22 = .ok (.aload_n 0, 1) := by decide +kernel
theorem dX9_layRun_23 : decode cX9_layRun 23 = .ok (.getfield 131, 3) := by decide +kernel
theorem dX9_layRun_26 : decode cX9_layRun 26 = .ok (.iload 4, 2) := by decide +kernel
theorem dX9_layRun_28 : decode cX9_layRun 28 = .ok (.aload_n 0, 1) := by decide +kernel
theorem dX9_layRun_29 : decode cX9_layRun 29 = .ok (.getfield 53, 3) := by decide +kernel
theorem dX9_layRun_32 : decode cX9_layRun 32 = .ok (.iconst 1, 1) := by decide +kernel
theorem dX9_layRun_33 : decode cX9_layRun 33 = .ok (.iaload, 1) := by decide +kernel
theorem dX9_layRun_34 : decode cX9_layRun 34 = .ok (.iastore, 1) := by decide +kernel
theorem dX9_layRun_35 : decode cX9_layRun 35 = .ok (.aload_n 0, 1) := by decide +kernel
theorem dX9_layRun_36 : decode cX9_layRun 36 = .ok (.getfield 134, 3) := by decide +kernel
theorem dX9_layRun_39 : decode cX9_layRun 39 = .ok (.iload 4, 2) := by decide +kernel
theorem dX9_layRun_41 : decode cX9_layRun 41 = .ok (.iload_n 1, 1) := by decide +kernel
theorem dX9_layRun_42 : decode cX9_layRun 42 = .ok (.iastore, 1) := by decide +kernel
theorem dX9_layRun_43 : decode cX9_layRun 43 = .ok (.aload_n 0, 1) := by decide +kernel
theorem dX9_layRun_44 : decode cX9_layRun 44 = .ok (.getfield 137, 3) := by decide +kernel
theorem dX9_layRun_47 : decode cX9_layRun 47 = .ok (.iload 4, 2) := by decide +kernel
theorem dX9_layRun_49 : decode cX9_layRun 49 = .ok (.sipush 300, 3) := by decide +kernel
theorem dX9_layRun_52 : decode cX9_layRun 52 = .ok (.iload 4, 2) := by decide +kernel
theorem dX9_layRun_54 : decode cX9_layRun 54 = .ok (.iload_n 1, 1) := by decide +kernel
theorem dX9_layRun_55 : decode cX9_layRun 55 = .ok (.imul, 1) := by decide +kernel
theorem dX9_layRun_56 : decode cX9_layRun 56 = .ok (.isub, 1) := by decide +kernel
theorem dX9_layRun_57 : decode cX9_layRun 57 = .ok (.iastore, 1) := by decide +kernel
theorem dX9_layRun_58 : decode cX9_layRun 58 = .ok (.iinc 4 1, 3) := by decide +kernel
theorem dX9_layRun_61 : decode cX9_layRun 61 = .ok (.goto (-48), 3) := by decide +kernel
theorem dX9_layRun_64 : decode cX9_layRun 64 = .ok (.iconst 0, 1) := by decide +kernel
theorem dX9_layRun_65 : decode cX9_layRun 65 = .ok (.istore 4, 2) := by decide +kernel
theorem dX9_layRun_67 : decode cX9_layRun 67 = .ok (.iload 4, 2) := by decide +kernel
theorem dX9_layRun_69 : decode cX9_layRun 69 = .ok (.bipush 32, 2) := by decide +kernel
theorem dX9_layRun_71 : decode cX9_layRun 71 = .ok (.if_icmp .ge 32, 3) := by decide +kernel
theorem dX9_layRun_74 : decode cX9_layRun 74 = .ok (.aload_n 0, 1) := by decide +kernel
theorem dX9_layRun_75 : decode cX9_layRun 75 = .ok (.iload 4, 2) := by decide +kernel
theorem dX9_layRun_77 : decode cX9_layRun 77 = .ok (.iload_n 2, 1) := by decide +kernel
theorem dX9_layRun_78 : decode cX9_layRun 78 = .ok (.iconst 1, 1) := by decide +kernel
theorem dX9_layRun_79 : decode cX9_layRun 79 = .ok (.if_icmp .ge 7, 3) := by decide +kernel
theorem dX9_layRun_82 : decode cX9_layRun 82 = .ok (.iconst 1, 1) := by decide +kernel
theorem dX9_layRun_83 : decode cX9_layRun 83 = .ok (.goto 4, 3) := by decide +kernel
theorem dX9_layRun_86 : decode cX9_layRun 86 = .ok (.iload_n 2, 1) := by decide +kernel
theorem dX9_layRun_87 : decode cX9_layRun 87 = .ok (.iload_n 3, 1) := by decide +kernel
theorem dX9_layRun_88 : decode cX9_layRun 88 = .ok (.invokevirtual 290, 3) := by decide +kernel
theorem dX9_layRun_91 : decode cX9_layRun 91 = .ok (.aload_n 0, 1) := by decide +kernel
theorem dX9_layRun_92 : decode cX9_layRun 92 = .ok (.iload 4, 2) := by decide +kernel
theorem dX9_layRun_94 : decode cX9_layRun 94 = .ok (.invokevirtual 294, 3) := by decide +kernel
theorem dX9_layRun_97 : decode cX9_layRun 97 = .ok (.iinc 4 1, 3) := by decide +kernel
theorem dX9_layRun_100 : decode cX9_layRun 100 = .ok (.goto (-33), 3) := by decide +kernel
theorem dX9_layRun_103 : decode cX9_layRun 103 = .ok (.return_, 1) := by decide +kernel
theorem dX9_layWishes_0 : decode cX9_layWishes 0 = .ok (.iconst (-1), 1) := by decide +kernel
theorem dX9_layWishes_1 : decode cX9_layWishes 1 = .ok (.istore 4, 2) := by decide +kernel
theorem dX9_layWishes_3 : decode cX9_layWishes 3 = .ok (.iconst 0, 1) := by decide +kernel
theorem dX9_layWishes_4 : decode cX9_layWishes 4 = .ok (.istore 5, 2) := by decide +kernel
theorem dX9_layWishes_6 : decode cX9_layWishes 6 = .ok (.iload 5, 2) := by decide +kernel
theorem dX9_layWishes_8 : decode cX9_layWishes 8 = .ok (.iload_n 2, 1) := by decide +kernel
theorem dX9_layWishes_9 : decode cX9_layWishes 9 = .ok (.iadd, 1) := by decide +kernel
theorem dX9_layWishes_10 : decode cX9_layWishes 10 = .ok (.iload_n 1, 1) := by decide +kernel
theorem dX9_layWishes_11 : decode cX9_layWishes 11 = .ok (.if_icmp .gt 27, 3) := by decide +kernel
theorem dX9_layWishes_14 : decode cX9_layWishes 14 = .ok (.iload_n 3, 1) := by decide +kernel
theorem dX9_layWishes_15 : decode cX9_layWishes 15 = .ok (.iload 5, 2) := by decide +kernel
theorem dX9_layWishes_17 : decode cX9_layWishes 17 = .ok (.ishr, 1) := by decide +kernel
theorem dX9_layWishes_18 : decode cX9_layWishes 18 = .ok (.iconst 1, 1) := by decide +kernel
theorem dX9_layWishes_19 : decode cX9_layWishes 19 = .ok (.iand, 1) := by decide +kernel
theorem dX9_layWishes_20 : decode cX9_layWishes 20 = .ok (.ifCond .ne 8, 3) := by decide +kernel
theorem dX9_layWishes_23 : decode cX9_layWishes 23 = .ok (.iload 5, 2) := by decide +kernel
theorem dX9_layWishes_25 : decode cX9_layWishes 25 = .ok (.goto 5, 3) := by decide +kernel
theorem dX9_layWishes_28 : decode cX9_layWishes 28 = .ok (.iload 4, 2) := by decide +kernel
theorem dX9_layWishes_30 : decode cX9_layWishes 30 = .ok (.istore 4, 2) := by decide +kernel
theorem dX9_layWishes_32 : decode cX9_layWishes 32 = .ok (.iinc 5 1, 3) := by decide +kernel
theorem dX9_layWishes_35 : decode cX9_layWishes 35 = .ok (.goto (-29), 3) := by decide +kernel
theorem dX9_layWishes_38 : decode cX9_layWishes 38 = .ok (.iconst 0, 1) := by decide +kernel
theorem dX9_layWishes_39 : decode cX9_layWishes 39 = .ok (.istore 5, 2) := by decide +kernel
theorem dX9_layWishes_41 : decode cX9_layWishes 41 = .ok (.iload 5, 2) := by decide +kernel
theorem dX9_layWishes_43 : decode cX9_layWishes 43 = .ok (.aload_n 0, 1) := by decide +kernel
theorem dX9_layWishes_44 : decode cX9_layWishes 44 = .ok (.getfield 46, 3) := by decide +kernel
theorem dX9_layWishes_47 : decode cX9_layWishes 47 = .ok (.if_icmp .ge 230, 3) := by decide +kernel
theorem dX9_layWishes_50 : decode cX9_layWishes 50 = .ok (.bipush 6, 2) := by decide +kernel
theorem dX9_layWishes_52 : decode cX9_layWishes 52 = .ok (.iload_n 1, 1) := by decide +kernel
theorem dX9_layWishes_53 : decode cX9_layWishes 53 = .ok (.imul, 1) := by decide +kernel
theorem dX9_layWishes_54 : decode cX9_layWishes 54 = .ok (.iload 5, 2) := by decide +kernel
theorem dX9_layWishes_56 : decode cX9_layWishes 56 = .ok (.iadd, 1) := by decide +kernel
theorem dX9_layWishes_57 : decode cX9_layWishes 57 = .ok (.istore 6, 2) := by decide +kernel
theorem dX9_layWishes_59 : decode cX9_layWishes 59 = .ok (.aload_n 0, 1) := by decide +kernel
theorem dX9_layWishes_60 : decode cX9_layWishes 60 = .ok (.getfield 122, 3) := by decide +kernel
theorem dX9_layWishes_63 : decode cX9_layWishes 63 = .ok (.iload 6, 2) := by decide +kernel
theorem dX9_layWishes_65 : decode cX9_layWishes 65 = .ok (.iload 5, 2) := by decide +kernel
theorem dX9_layWishes_67 : decode cX9_layWishes 67 = .ok (.ifCond .eq 9, 3) := by decide +kernel
theorem dX9_layWishes_70 : decode cX9_layWishes 70 = .ok (.iload 4, 2) := by decide +kernel
theorem dX9_layWishes_72 : decode cX9_layWishes 72 = .ok (.iconst (-1), 1) := by decide +kernel
theorem dX9_layWishes_73 : decode cX9_layWishes 73 = .ok (.if_icmp .ne 7, 3) := by decide +kernel
theorem dX9_layWishes_76 : decode cX9_layWishes 76 = .ok (.iconst 0, 1) := by decide +kernel
theorem dX9_layWishes_77 : decode cX9_layWishes 77 = .ok (.goto 10, 3) := by decide +kernel
theorem dX9_layWishes_80 : decode cX9_layWishes 80 = .ok (.aload_n 0, 1) := by decide +kernel
theorem dX9_layWishes_81 : decode cX9_layWishes 81 = .ok (.getfield 128, 3) := by decide +kernel
theorem dX9_layWishes_84 : decode cX9_layWishes 84 = .ok (.iload 4, 2) := by decide +kernel
theorem dX9_layWishes_86 : decode cX9_layWishes 86 = .ok (.iaload, 1) := by decide +kernel
theorem dX9_layWishes_87 : decode cX9_layWishes 87 = .ok (.iastore, 1) := by decide +kernel
theorem dX9_layWishes_88 : decode cX9_layWishes 88 = .ok (.aload_n 0, 1) := by decide +kernel
theorem dX9_layWishes_89 : decode cX9_layWishes 89 = .ok (.getfield 125, 3) := by decide +kernel
theorem dX9_layWishes_92 : decode cX9_layWishes 92 = .ok (.iload 6, 2) := by decide +kernel
theorem dX9_layWishes_94 : decode cX9_layWishes 94 = .ok (.iload 5, 2) := by decide +kernel
theorem dX9_layWishes_96 : decode cX9_layWishes 96 = .ok (.ifCond .eq 9, 3) := by decide +kernel
theorem dX9_layWishes_99 : decode cX9_layWishes 99 = .ok (.iload 4, 2) := by decide +kernel
theorem dX9_layWishes_101 : decode cX9_layWishes 101 = .ok (.iconst (-1), 1) := by decide +kernel
theorem dX9_layWishes_102 : decode cX9_layWishes 102 = .ok (.if_icmp .ne 8, 3) := by decide +kernel
theorem dX9_layWishes_105 : decode cX9_layWishes 105 = .ok (.bipush 99, 2) := by decide +kernel
theorem dX9_layWishes_107 : decode cX9_layWishes 107 = .ok (.goto 7, 3) := by decide +kernel
theorem dX9_layWishes_110 : decode cX9_layWishes 110 = .ok (.iload_n 1, 1) := by decide +kernel
theorem dX9_layWishes_111 : decode cX9_layWishes 111 = .ok (.iload 4, 2) := by decide +kernel
theorem dX9_layWishes_113 : decode cX9_layWishes 113 = .ok (.isub, 1) := by decide +kernel
theorem dX9_layWishes_114 : decode cX9_layWishes 114 = .ok (.iastore, 1) := by decide +kernel
theorem dX9_layWishes_115 : decode cX9_layWishes 115 = .ok (.aload_n 0, 1) := by decide +kernel
theorem dX9_layWishes_116 : decode cX9_layWishes 116 = .ok (.iload 5, 2) := by decide +kernel
theorem dX9_layWishes_118 : decode cX9_layWishes 118 = .ok (.iload_n 1, 1) := by decide +kernel
theorem dX9_layWishes_119 : decode cX9_layWishes 119 = .ok (.invokevirtual 298, 3) := by decide +kernel
theorem dX9_layWishes_122 : decode cX9_layWishes 122 = .ok (.ifCond .eq 81, 3) := by decide +kernel
theorem dX9_layWishes_125 : decode cX9_layWishes 125 = .ok (.aload_n 0, 1) := by decide +kernel
theorem dX9_layWishes_126 : decode cX9_layWishes 126 = .ok (.iload_n 1, 1) := by decide +kernel
theorem dX9_layWishes_127 : decode cX9_layWishes 127 = .ok (.aload_n 0, 1) := by decide +kernel
theorem dX9_layWishes_128 : decode cX9_layWishes 128 = .ok (.getfield 271, 3) := by decide +kernel
theorem dX9_layWishes_131 : decode cX9_layWishes 131 = .ok (.if_icmp .ne 15, 3) := by decide +kernel
theorem dX9_layWishes_134 : decode cX9_layWishes 134 = .ok (.aload_n 0, 1) := by decide +kernel
theorem dX9_layWishes_135 : decode cX9_layWishes 135 = .ok (.getfield 134, 3) := by decide +kernel
theorem dX9_layWishes_138 : decode cX9_layWishes 138 = .ok (.iload 5, 2) := by decide +kernel
theorem dX9_layWishes_140 : decode cX9_layWishes 140 = .ok (.iaload, 1) := by decide +kernel
theorem dX9_layWishes_141 : decode cX9_layWishes 141 = .ok (.iconst 2, 1) := by decide +kernel
theorem dX9_layWishes_142 : decode cX9_layWishes 142 = .ok (.idiv, 1) := by decide +kernel
theorem dX9_layWishes_143 : decode cX9_layWishes 143 = .ok (.goto 7, 3) := by decide +kernel
theorem dX9_layWishes_146 : decode cX9_layWishes 146 = .ok (.aload_n 0, 1) := by decide +kernel
theorem dX9_layWishes_147 : decode cX9_layWishes 147 = .ok (.getfield 302, 3) := by decide +kernel
theorem dX9_layWishes_150 : decode cX9_layWishes 150 = .ok (.putfield 302, 3) := by decide +kernel
theorem dX9_layWishes_153 : decode cX9_layWishes 153 = .ok (.aload_n 0, 1) := by decide +kernel
theorem dX9_layWishes_154 : decode cX9_layWishes 154 = .ok (.getfield 119, 3) := by decide +kernel
theorem dX9_layWishes_157 : decode cX9_layWishes 157 = .ok (.iload 6, 2) := by decide +kernel
theorem dX9_layWishes_159 : decode cX9_layWishes 159 = .ok (.aload_n 0, 1) := by decide +kernel
theorem dX9_layWishes_160 : decode cX9_layWishes 160 = .ok (.aload_n 0, 1) := by decide +kernel
theorem dX9_layWishes_161 : decode cX9_layWishes 161 = .ok (.getfield 50, 3) := by decide +kernel
theorem dX9_layWishes_164 : decode cX9_layWishes 164 = .ok (.iload 5, 2) := by decide +kernel
theorem dX9_layWishes_166 : decode cX9_layWishes 166 = .ok (.iaload, 1) := by decide +kernel
theorem dX9_layWishes_167 : decode cX9_layWishes 167 = .ok (.aload_n 0, 1) := by decide +kernel
theorem dX9_layWishes_168 : decode cX9_layWishes 168 = .ok (.getfield 302, 3) := by decide +kernel
theorem dX9_layWishes_171 : decode cX9_layWishes 171 = .ok (.aload_n 0, 1) := by decide +kernel
theorem dX9_layWishes_172 : decode cX9_layWishes 172 = .ok (.getfield 131, 3) := by decide +kernel
theorem dX9_layWishes_175 : decode cX9_layWishes 175 = .ok (.iload 5, 2) := by decide +kernel
theorem dX9_layWishes_177 : decode cX9_layWishes 177 = .ok (.iaload, 1) := by decide +kernel
theorem dX9_layWishes_178 : decode cX9_layWishes 178 = .ok (.aload_n 0, 1) := by decide +kernel
theorem dX9_layWishes_179 : decode cX9_layWishes 179 = .ok (.getfield 277, 3) := by decide +kernel
theorem dX9_layWishes_182 : decode cX9_layWishes 182 = .ok (.aload_n 0, 1) := by decide +kernel
theorem dX9_layWishes_183 : decode cX9_layWishes 183 = .ok (.getfield 122, 3) := by decide +kernel
theorem dX9_layWishes_186 : decode cX9_layWishes 186 = .ok (.iload 6, 2) := by decide +kernel
theorem dX9_layWishes_188 : decode cX9_layWishes 188 = .ok (.iaload, 1) := by decide +kernel
theorem dX9_layWishes_189 : decode cX9_layWishes 189 = .ok (.aload_n 0, 1) := by decide +kernel
theorem dX9_layWishes_190 : decode cX9_layWishes 190 = .ok (.getfield 125, 3) := by decide +kernel
theorem dX9_layWishes_193 : decode cX9_layWishes 193 = .ok (.iload 6, 2) := by decide +kernel
theorem dX9_layWishes_195 : decode cX9_layWishes 195 = .ok (.iaload, 1) := by decide +kernel
theorem dX9_layWishes_196 : decode cX9_layWishes 196 = .ok (.invokevirtual 305, 3) := by decide +kernel
theorem dX9_layWishes_199 : decode cX9_layWishes 199 = .ok (.iastore, 1) := by decide +kernel
theorem dX9_layWishes_200 : decode cX9_layWishes 200 = .ok (.goto 71, 3) := by decide +kernel
theorem dX9_layWishes_203 : decode cX9_layWishes 203 = .ok (.aload_n 0, 1) := by decide +kernel
theorem dX9_layWishes_204 : decode cX9_layWishes 204 = .ok (.getfield 119, 3) := by decide +kernel
theorem dX9_layWishes_207 : decode cX9_layWishes 207 = .ok (.iload 6, 2) := by decide +kernel
theorem dX9_layWishes_209 : decode cX9_layWishes 209 = .ok (.iload 5, 2) := by decide +kernel
theorem dX9_layWishes_211 : decode cX9_layWishes 211 = .ok (.ifCond .ne 11, 3) := by decide +kernel
theorem dX9_layWishes_214 : decode cX9_layWishes 214 = .ok (.aload_n 0, 1) := by decide +kernel
theorem dX9_layWishes_215 : decode cX9_layWishes 215 = .ok (.iload_n 1, 1) := by decide +kernel
theorem dX9_layWishes_216 : decode cX9_layWishes 216 = .ok (.invokevirtual 309, 3) := by decide +kernel
theorem dX9_layWishes_219 : decode cX9_layWishes 219 = .ok (.goto 51, 3) := by decide +kernel
theorem dX9_layWishes_222 : decode cX9_layWishes 222 = .ok (.aload_n 0, 1) := by decide +kernel
theorem dX9_layWishes_223 : decode cX9_layWishes 223 = .ok (.aload_n 0, 1) := by decide +kernel
theorem dX9_layWishes_224 : decode cX9_layWishes 224 = .ok (.getfield 50, 3) := by decide +kernel
theorem dX9_layWishes_227 : decode cX9_layWishes 227 = .ok (.iload 5, 2) := by decide +kernel
theorem dX9_layWishes_229 : decode cX9_layWishes 229 = .ok (.iaload, 1) := by decide +kernel
theorem dX9_layWishes_230 : decode cX9_layWishes 230 = .ok (.aload_n 0, 1) := by decide +kernel
theorem dX9_layWishes_231 : decode cX9_layWishes 231 = .ok (.getfield 134, 3) := by decide +kernel
theorem dX9_layWishes_234 : decode cX9_layWishes 234 = .ok (.iload 5, 2) := by decide +kernel
theorem dX9_layWishes_236 : decode cX9_layWishes 236 = .ok (.iaload, 1) := by decide +kernel
theorem dX9_layWishes_237 : decode cX9_layWishes 237 = .ok (.aload_n 0, 1) := by decide +kernel
theorem dX9_layWishes_238 : decode cX9_layWishes 238 = .ok (.getfield 131, 3) := by decide +kernel
theorem dX9_layWishes_241 : decode cX9_layWishes 241 = .ok (.iload 5, 2) := by decide +kernel
theorem dX9_layWishes_243 : decode cX9_layWishes 243 = .ok (.iaload, 1) := by decide +kernel
theorem dX9_layWishes_244 : decode cX9_layWishes 244 = .ok (.aload_n 0, 1) := by decide +kernel
theorem dX9_layWishes_245 : decode cX9_layWishes 245 = .ok (.getfield 131, 3) := by decide +kernel
theorem dX9_layWishes_248 : decode cX9_layWishes 248 = .ok (.iload 5, 2) := by decide +kernel
theorem dX9_layWishes_250 : decode cX9_layWishes 250 = .ok (.iconst 1, 1) := by decide +kernel
theorem dX9_layWishes_251 : decode cX9_layWishes 251 = .ok (.isub, 1) := by decide +kernel
theorem dX9_layWishes_252 : decode cX9_layWishes 252 = .ok (.iaload, 1) := by decide +kernel
theorem dX9_layWishes_253 : decode cX9_layWishes 253 = .ok (.aload_n 0, 1) := by decide +kernel
theorem dX9_layWishes_254 : decode cX9_layWishes 254 = .ok (.getfield 122, 3) := by decide +kernel
theorem dX9_layWishes_257 : decode cX9_layWishes 257 = .ok (.iload 6, 2) := by decide +kernel
theorem dX9_layWishes_259 : decode cX9_layWishes 259 = .ok (.iaload, 1) := by decide +kernel
theorem dX9_layWishes_260 : decode cX9_layWishes 260 = .ok (.aload_n 0, 1) := by decide +kernel
theorem dX9_layWishes_261 : decode cX9_layWishes 261 = .ok (.getfield 125, 3) := by decide +kernel
theorem dX9_layWishes_264 : decode cX9_layWishes 264 = .ok (.iload 6, 2) := by decide +kernel
theorem dX9_layWishes_266 : decode cX9_layWishes 266 = .ok (.iaload, 1) := by decide +kernel
theorem dX9_layWishes_267 : decode cX9_layWishes 267 = .ok (.invokevirtual 305, 3) := by decide +kernel
theorem dX9_layWishes_270 : decode cX9_layWishes 270 = .ok (.iastore, 1) := by decide +kernel
theorem dX9_layWishes_271 : decode cX9_layWishes 271 = .ok (.iinc 5 1, 3) := by decide +kernel
theorem dX9_layWishes_274 : decode cX9_layWishes 274 = .ok (.goto (-233), 3) := by decide +kernel
theorem dX9_layWishes_277 : decode cX9_layWishes 277 = .ok (.aload_n 0, 1) := by decide +kernel
theorem dX9_layWishes_278 : decode cX9_layWishes 278 = .ok (.getfield 128, 3) := by decide +kernel
theorem dX9_layWishes_281 : decode cX9_layWishes 281 = .ok (.iload_n 1, 1) := by decide +kernel
theorem dX9_layWishes_282 : decode cX9_layWishes 282 = .ok (.aload_n 0, 1) := by decide +kernel
theorem dX9_layWishes_283 : decode cX9_layWishes 283 = .ok (.getfield 119, 3) := by decide +kernel
theorem dX9_layWishes_286 : decode cX9_layWishes 286 = .ok (.bipush 6, 2) := by decide +kernel
theorem dX9_layWishes_288 : decode cX9_layWishes 288 = .ok (.iload_n 1, 1) := by decide +kernel
theorem dX9_layWishes_289 : decode cX9_layWishes 289 = .ok (.imul, 1) := by decide +kernel
theorem dX9_layWishes_290 : decode cX9_layWishes 290 = .ok (.iaload, 1) := by decide +kernel
theorem dX9_layWishes_291 : decode cX9_layWishes 291 = .ok (.ifCond .ge 16, 3) := by decide +kernel
theorem dX9_layWishes_294 : decode cX9_layWishes 294 = .ok (.aload_n 0, 1) := by decide +kernel
theorem dX9_layWishes_295 : decode cX9_layWishes 295 = .ok (.getfield 119, 3) := by decide +kernel
theorem dX9_layWishes_298 : decode cX9_layWishes 298 = .ok (.bipush 6, 2) := by decide +kernel
theorem dX9_layWishes_300 : decode cX9_layWishes 300 = .ok (.iload_n 1, 1) := by decide +kernel
theorem dX9_layWishes_301 : decode cX9_layWishes 301 = .ok (.imul, 1) := by decide +kernel
theorem dX9_layWishes_302 : decode cX9_layWishes 302 = .ok (.iaload, 1) := by decide +kernel
theorem dX9_layWishes_303 : decode cX9_layWishes 303 = .ok (.ineg, 1) := by decide +kernel
theorem dX9_layWishes_304 : decode cX9_layWishes 304 = .ok (.goto 4, 3) := by decide +kernel
theorem dX9_layWishes_307 : decode cX9_layWishes 307 = .ok (.iconst 0, 1) := by decide +kernel
theorem dX9_layWishes_308 : decode cX9_layWishes 308 = .ok (.iastore, 1) := by decide +kernel
theorem dX9_layWishes_309 : decode cX9_layWishes 309 = .ok (.return_, 1) := by decide +kernel
end
section
theorem dX9_goOn_0 : decode cX9_goOn 0 = .ok (.iconst 0, 1) := by decide +kernel
theorem dX9_goOn_1 : decode cX9_goOn 1 = .ok (.istore_n 2, 1) := by decide +kernel
theorem dX9_goOn_2 : decode cX9_goOn 2 = .ok (.iload_n 2, 1) := by decide +kernel
theorem dX9_goOn_3 : decode cX9_goOn 3 = .ok (.aload_n 0, 1) := by decide +kernel
theorem dX9_goOn_4 : decode cX9_goOn 4 = .ok (.getfield 46, 3) := by decide +kernel
theorem dX9_goOn_7 : decode cX9_goOn 7 = .ok (.if_icmp .ge 81, 3) := by decide +kernel
theorem dX9_goOn_10 : decode cX9_goOn 10 = .ok (.aload_n 0, 1) := by decide +kernel
theorem dX9_goOn_11 : decode cX9_goOn 11 = .ok (.getfield 19, 3) := by decide +kernel
theorem dX9_goOn_14 : decode cX9_goOn 14 = .ok (.aload_n 0, 1) := by decide +kernel
theorem dX9_goOn_15 : decode cX9_goOn 15 = .ok (.getfield 50, 3) := by decide +kernel
theorem dX9_goOn_18 : decode cX9_goOn 18 = .ok (.iload_n 2, 1) := by decide +kernel
theorem dX9_goOn_19 : decode cX9_goOn 19 = .ok (.iaload, 1) := by decide +kernel
theorem dX9_goOn_20 : decode cX9_goOn 20 = .ok (.iaload, 1) := by decide +kernel
theorem dX9_goOn_21 : decode cX9_goOn 21 = .ok (.istore_n 3, 1) := by decide +kernel
theorem dX9_goOn_22 : decode cX9_goOn 22 = .ok (.aload_n 0, 1) := by decide +kernel
theorem dX9_goOn_23 : decode cX9_goOn 23 = .ok (.getfield 131, 3) := by decide +kernel
theorem dX9_goOn_26 : decode cX9_goOn 26 = .ok (.iload_n 2, 1) := by decide +kernel
theorem dX9_goOn_27 : decode cX9_goOn 27 = .ok (.iaload, 1) := by decide +kernel
theorem dX9_goOn_28 : decode cX9_goOn 28 = .ok (.iload_n 1, 1) := by decide +kernel
theorem dX9_goOn_29 : decode cX9_goOn 29 = .ok (.iload_n 3, 1) := by decide +kernel
theorem dX9_goOn_30 : decode cX9_goOn 30 = .ok (.if_icmp .ge 7, 3) := by decide +kernel
theorem dX9_goOn_33 : decode cX9_goOn 33 = .ok (.iconst 0, 1) := by decide +kernel
theorem dX9_goOn_34 : decode cX9_goOn 34 = .ok (.goto 16, 3) := by decide +kernel
theorem dX9_goOn_37 : decode cX9_goOn 37 = .ok (.aload_n 0, 1) := by decide +kernel
theorem dX9_goOn_38 : decode cX9_goOn 38 = .ok (.getfield 119, 3) := by decide +kernel
theorem dX9_goOn_41 : decode cX9_goOn 41 = .ok (.bipush 6, 2) := by decide +kernel
theorem dX9_goOn_43 : decode cX9_goOn 43 = .ok (.iload_n 1, 1) := by decide +kernel
theorem dX9_goOn_44 : decode cX9_goOn 44 = .ok (.iload_n 3, 1) := by decide +kernel
theorem dX9_goOn_45 : decode cX9_goOn 45 = .ok (.isub, 1) := by decide +kernel
theorem dX9_goOn_46 : decode cX9_goOn 46 = .ok (.imul, 1) := by decide +kernel
theorem dX9_goOn_47 : decode cX9_goOn 47 = .ok (.iload_n 2, 1) := by decide +kernel
theorem dX9_goOn_48 : decode cX9_goOn 48 = .ok (.iadd, 1) := by decide +kernel
theorem dX9_goOn_49 : decode cX9_goOn 49 = .ok (.iaload, 1) := by decide +kernel
theorem dX9_goOn_50 : decode cX9_goOn 50 = .ok (.iadd, 1) := by decide +kernel
theorem dX9_goOn_51 : decode cX9_goOn 51 = .ok (.istore 4, 2) := by decide +kernel
theorem dX9_goOn_53 : decode cX9_goOn 53 = .ok (.iload 4, 2) := by decide +kernel
theorem dX9_goOn_55 : decode cX9_goOn 55 = .ok (.ifCond .ge 7, 3) := by decide +kernel
theorem dX9_goOn_58 : decode cX9_goOn 58 = .ok (.iconst 0, 1) := by decide +kernel
theorem dX9_goOn_59 : decode cX9_goOn 59 = .ok (.goto 5, 3) := by decide +kernel
theorem dX9_goOn_62 : decode cX9_goOn 62 = .ok (.iload 4, 2) := by decide +kernel
theorem dX9_goOn_64 : decode cX9_goOn 64 = .ok (.istore 4, 2) := by decide +kernel
theorem dX9_goOn_66 : decode cX9_goOn 66 = .ok (.aload_n 0, 1) := by decide +kernel
theorem dX9_goOn_67 : decode cX9_goOn 67 = .ok (.getfield 131, 3) := by decide +kernel
theorem dX9_goOn_70 : decode cX9_goOn 70 = .ok (.iload_n 2, 1) := by decide +kernel
theorem dX9_goOn_71 : decode cX9_goOn 71 = .ok (.iload 4, 2) := by decide +kernel
theorem dX9_goOn_73 : decode cX9_goOn 73 = .ok (.aload_n 0, 1) := by decide +kernel
theorem dX9_goOn_74 : decode cX9_goOn 74 = .ok (.iload_n 2, 1) := by decide +kernel
theorem dX9_goOn_75 : decode cX9_goOn 75 = .ok (.invokevirtual 312, 3) := by decide +kernel
theorem dX9_goOn_78 : decode cX9_goOn 78 = .ok (.invokestatic 280, 3) := by decide +kernel
theorem dX9_goOn_81 : decode cX9_goOn 81 = .ok (.iastore, 1) := by decide +kernel
theorem dX9_goOn_82 : decode cX9_goOn 82 = .ok (.iinc 2 1, 3) := by decide +kernel
theorem dX9_goOn_85 : decode cX9_goOn 85 = .ok (.goto (-83), 3) := by decide +kernel
theorem dX9_goOn_88 : decode cX9_goOn 88 = .ok (.iconst 0, 1) := by decide +kernel
theorem dX9_goOn_89 : decode cX9_goOn 89 = .ok (.istore_n 2, 1) := by decide +kernel
theorem dX9_goOn_90 : decode cX9_goOn 90 = .ok (.iload_n 2, 1) := by decide +kernel
theorem dX9_goOn_91 : decode cX9_goOn 91 = .ok (.aload_n 0, 1) := by decide +kernel
theorem dX9_goOn_92 : decode cX9_goOn 92 = .ok (.getfield 46, 3) := by decide +kernel
theorem dX9_goOn_95 : decode cX9_goOn 95 = .ok (.if_icmp .ge 191, 3) := by decide +kernel
theorem dX9_goOn_98 : decode cX9_goOn 98 = .ok (.bipush 6, 2) := by decide +kernel
theorem dX9_goOn_100 : decode cX9_goOn 100 = .ok (.iload_n 1, 1) := by decide +kernel
theorem dX9_goOn_101 : decode cX9_goOn 101 = .ok (.imul, 1) := by decide +kernel
theorem dX9_goOn_102 : decode cX9_goOn 102 = .ok (.iload_n 2, 1) := by decide +kernel
theorem dX9_goOn_103 : decode cX9_goOn 103 = .ok (.iadd, 1) := by decide +kernel
theorem dX9_goOn_104 : decode cX9_goOn 104 = .ok (.istore_n 3, 1) := by decide +kernel
theorem dX9_goOn_105 : decode cX9_goOn 105 = .ok (.aload_n 0, 1) := by decide +kernel
theorem dX9_goOn_106 : decode cX9_goOn 106 = .ok (.getfield 137, 3) := by decide +kernel
theorem dX9_goOn_109 : decode cX9_goOn 109 = .ok (.iload_n 2, 1) := by decide +kernel
theorem dX9_goOn_110 : decode cX9_goOn 110 = .ok (.dup2, 1) := by decide +kernel
theorem dX9_goOn_111 : decode cX9_goOn 111 = .ok (.iaload, 1) := by decide +kernel
theorem dX9_goOn_112 : decode cX9_goOn 112 = .ok (.aload_n 0, 1) := by decide +kernel
theorem dX9_goOn_113 : decode cX9_goOn 113 = .ok (.getfield 131, 3) := by decide +kernel
theorem dX9_goOn_116 : decode cX9_goOn 116 = .ok (.iload_n 2, 1) := by decide +kernel
theorem dX9_goOn_117 : decode cX9_goOn 117 = .ok (.iaload, 1) := by decide +kernel
theorem dX9_goOn_118 : decode cX9_goOn 118 = .ok (.iadd, 1) := by decide +kernel
theorem dX9_goOn_119 : decode cX9_goOn 119 = .ok (.iastore, 1) := by decide +kernel
theorem dX9_goOn_120 : decode cX9_goOn 120 = .ok (.aload_n 0, 1) := by decide +kernel
theorem dX9_goOn_121 : decode cX9_goOn 121 = .ok (.getfield 134, 3) := by decide +kernel
theorem dX9_goOn_124 : decode cX9_goOn 124 = .ok (.iload_n 2, 1) := by decide +kernel
theorem dX9_goOn_125 : decode cX9_goOn 125 = .ok (.dup2, 1) := by decide +kernel
theorem dX9_goOn_126 : decode cX9_goOn 126 = .ok (.iaload, 1) := by decide +kernel
theorem dX9_goOn_127 : decode cX9_goOn 127 = .ok (.iload_n 2, 1) := by decide +kernel
theorem dX9_goOn_128 : decode cX9_goOn 128 = .ok (.ifCond .ne 7, 3) := by decide +kernel
theorem dX9_goOn_131 : decode cX9_goOn 131 = .ok (.iconst 0, 1) := by decide +kernel
theorem dX9_goOn_132 : decode cX9_goOn 132 = .ok (.goto 18, 3) := by decide +kernel
theorem dX9_goOn_135 : decode cX9_goOn 135 = .ok (.aload_n 0, 1) := by decide +kernel
theorem dX9_goOn_136 : decode cX9_goOn 136 = .ok (.getfield 131, 3) := by decide +kernel
theorem dX9_goOn_139 : decode cX9_goOn 139 = .ok (.iload_n 2, 1) := by decide +kernel
theorem dX9_goOn_140 : decode cX9_goOn 140 = .ok (.iconst 1, 1) := by decide +kernel
theorem dX9_goOn_141 : decode cX9_goOn 141 = .ok (.isub, 1) := by decide +kernel
theorem dX9_goOn_142 : decode cX9_goOn 142 = .ok (.iaload, 1) := by decide +kernel
theorem dX9_goOn_143 : decode cX9_goOn 143 = .ok (.aload_n 0, 1) := by decide +kernel
theorem dX9_goOn_144 : decode cX9_goOn 144 = .ok (.getfield 131, 3) := by decide +kernel
theorem dX9_goOn_147 : decode cX9_goOn 147 = .ok (.iload_n 2, 1) := by decide +kernel
theorem dX9_goOn_148 : decode cX9_goOn 148 = .ok (.iaload, 1) := by decide +kernel
theorem dX9_goOn_149 : decode cX9_goOn 149 = .ok (.isub, 1) := by decide +kernel
theorem dX9_goOn_150 : decode cX9_goOn 150 = .ok (.iadd, 1) := by decide +kernel
theorem dX9_goOn_151 : decode cX9_goOn 151 = .ok (.iastore, 1) := by decide +kernel
theorem dX9_goOn_152 : decode cX9_goOn 152 = .ok (.aload_n 0, 1) := by decide +kernel
theorem dX9_goOn_153 : decode cX9_goOn 153 = .ok (.dup, 1) := by decide +kernel
theorem dX9_goOn_154 : decode cX9_goOn 154 = .ok (.getfield 302, 3) := by decide +kernel
theorem dX9_goOn_157 : decode cX9_goOn 157 = .ok (.aload_n 0, 1) := by decide +kernel
theorem dX9_goOn_158 : decode cX9_goOn 158 = .ok (.iload_n 2, 1) := by decide +kernel
theorem dX9_goOn_159 : decode cX9_goOn 159 = .ok (.iload_n 1, 1) := by decide +kernel
theorem dX9_goOn_160 : decode cX9_goOn 160 = .ok (.invokevirtual 298, 3) := by decide +kernel
theorem dX9_goOn_163 : decode cX9_goOn 163 = .ok (.ifCond .eq 17, 3) := by decide +kernel
theorem dX9_goOn_166 : decode cX9_goOn 166 = .ok (.aload_n 0, 1) := by decide +kernel
theorem dX9_goOn_167 : decode cX9_goOn 167 = .ok (.getfield 277, 3) := by decide +kernel
theorem dX9_goOn_170 : decode cX9_goOn 170 = .ok (.aload_n 0, 1) := by decide +kernel
theorem dX9_goOn_171 : decode cX9_goOn 171 = .ok (.getfield 131, 3) := by decide +kernel
theorem dX9_goOn_174 : decode cX9_goOn 174 = .ok (.iload_n 2, 1) := by decide +kernel
theorem dX9_goOn_175 : decode cX9_goOn 175 = .ok (.iaload, 1) := by decide +kernel
theorem dX9_goOn_176 : decode cX9_goOn 176 = .ok (.isub, 1) := by decide +kernel
theorem dX9_goOn_177 : decode cX9_goOn 177 = .ok (.goto 4, 3) := by decide +kernel
theorem dX9_goOn_180 : decode cX9_goOn 180 = .ok (.iconst 0, 1) := by decide +kernel
theorem dX9_goOn_181 : decode cX9_goOn 181 = .ok (.iadd, 1) := by decide +kernel
theorem dX9_goOn_182 : decode cX9_goOn 182 = .ok (.putfield 302, 3) := by decide +kernel
theorem dX9_goOn_185 : decode cX9_goOn 185 = .ok (.aload_n 0, 1) := by decide +kernel
theorem dX9_goOn_186 : decode cX9_goOn 186 = .ok (.getfield 110, 3) := by decide +kernel
theorem dX9_goOn_189 : decode cX9_goOn 189 = .ok (.iload_n 3, 1) := by decide +kernel
theorem dX9_goOn_190 : decode cX9_goOn 190 = .ok (.aload_n 0, 1) := by decide +kernel
theorem dX9_goOn_191 : decode cX9_goOn 191 = .ok (.getfield 131, 3) := by decide +kernel
theorem dX9_goOn_194 : decode cX9_goOn 194 = .ok (.iload_n 2, 1) := by decide +kernel
theorem dX9_goOn_195 : decode cX9_goOn 195 = .ok (.iaload, 1) := by decide +kernel
theorem dX9_goOn_196 : decode cX9_goOn 196 = .ok (.iastore, 1) := by decide +kernel
theorem dX9_goOn_197 : decode cX9_goOn 197 = .ok (.aload_n 0, 1) := by decide +kernel
theorem dX9_goOn_198 : decode cX9_goOn 198 = .ok (.getfield 113, 3) := by decide +kernel
theorem dX9_goOn_201 : decode cX9_goOn 201 = .ok (.iload_n 3, 1) := by decide +kernel
theorem dX9_goOn_202 : decode cX9_goOn 202 = .ok (.aload_n 0, 1) := by decide +kernel
theorem dX9_goOn_203 : decode cX9_goOn 203 = .ok (.getfield 134, 3) := by decide +kernel
theorem dX9_goOn_206 : decode cX9_goOn 206 = .ok (.iload_n 2, 1) := by decide +kernel
theorem dX9_goOn_207 : decode cX9_goOn 207 = .ok (.iaload, 1) := by decide +kernel
theorem dX9_goOn_208 : decode cX9_goOn 208 = .ok (.iastore, 1) := by decide +kernel
theorem dX9_goOn_209 : decode cX9_goOn 209 = .ok (.aload_n 0, 1) := by decide +kernel
theorem dX9_goOn_210 : decode cX9_goOn 210 = .ok (.getfield 116, 3) := by decide +kernel
theorem dX9_goOn_213 : decode cX9_goOn 213 = .ok (.iload_n 3, 1) := by decide +kernel
theorem dX9_goOn_214 : decode cX9_goOn 214 = .ok (.aload_n 0, 1) := by decide +kernel
theorem dX9_goOn_215 : decode cX9_goOn 215 = .ok (.getfield 137, 3) := by decide +kernel
theorem dX9_goOn_218 : decode cX9_goOn 218 = .ok (.iload_n 2, 1) := by decide +kernel
theorem dX9_goOn_219 : decode cX9_goOn 219 = .ok (.iaload, 1) := by decide +kernel
theorem dX9_goOn_220 : decode cX9_goOn 220 = .ok (.iastore, 1) := by decide +kernel
theorem dX9_goOn_221 : decode cX9_goOn 221 = .ok (.iload_n 2, 1) := by decide +kernel
theorem dX9_goOn_222 : decode cX9_goOn 222 = .ok (.ifCond .le 12, 3) := by decide +kernel
theorem dX9_goOn_225 : decode cX9_goOn 225 = .ok (.aload_n 0, 1) := by decide +kernel
theorem dX9_goOn_226 : decode cX9_goOn 226 = .ok (.getfield 134, 3) := by decide +kernel
theorem dX9_goOn_229 : decode cX9_goOn 229 = .ok (.iload_n 2, 1) := by decide +kernel
theorem dX9_goOn_230 : decode cX9_goOn 230 = .ok (.iaload, 1) := by decide +kernel
theorem dX9_goOn_231 : decode cX9_goOn 231 = .ok (.ifCond .le 19, 3) := by decide +kernel
theorem dX9_goOn_234 : decode cX9_goOn 234 = .ok (.aload_n 0, 1) := by decide +kernel
theorem dX9_goOn_235 : decode cX9_goOn 235 = .ok (.iload_n 2, 1) := by decide +kernel
theorem dX9_goOn_236 : decode cX9_goOn 236 = .ok (.iload_n 1, 1) := by decide +kernel
theorem dX9_goOn_237 : decode cX9_goOn 237 = .ok (.invokevirtual 298, 3) := by decide +kernel
theorem dX9_goOn_240 : decode cX9_goOn 240 = .ok (.ifCond .eq 14, 3) := by decide +kernel
theorem dX9_goOn_243 : decode cX9_goOn 243 = .ok (.aload_n 0, 1) := by decide +kernel
theorem dX9_goOn_244 : decode cX9_goOn 244 = .ok (.getfield 302, 3) := by decide +kernel
theorem dX9_goOn_247 : decode cX9_goOn 247 = .ok (.ifCond .gt 7, 3) := by decide +kernel
theorem dX9_goOn_250 : decode cX9_goOn 250 = .ok (.iconst 1, 1) := by decide +kernel
theorem dX9_goOn_251 : decode cX9_goOn 251 = .ok (.goto 4, 3) := by decide +kernel
theorem dX9_goOn_254 : decode cX9_goOn 254 = .ok (.iconst 0, 1) := by decide +kernel
theorem dX9_goOn_255 : decode cX9_goOn 255 = .ok (.istore 4, 2) := by decide +kernel
theorem dX9_goOn_257 : decode cX9_goOn 257 = .ok (.iload 4, 2) := by decide +kernel
theorem dX9_goOn_259 : decode cX9_goOn 259 = .ok (.ifCond .eq 21, 3) := by decide +kernel
theorem dX9_goOn_262 : decode cX9_goOn 262 = .ok (.aload_n 0, 1) := by decide +kernel
theorem dX9_goOn_263 : decode cX9_goOn 263 = .ok (.getfield 284, 3) := by decide +kernel
theorem dX9_goOn_266 : decode cX9_goOn 266 = .ok (.iconst (-1), 1) := by decide +kernel
theorem dX9_goOn_267 : decode cX9_goOn 267 = .ok (.if_icmp .ne 13, 3) := by decide +kernel
theorem dX9_goOn_270 : decode cX9_goOn 270 = .ok (.aload_n 0, 1) := by decide +kernel
theorem dX9_goOn_271 : decode cX9_goOn 271 = .ok (.iload_n 1, 1) := by decide +kernel
theorem dX9_goOn_272 : decode cX9_goOn 272 = .ok (.putfield 284, 3) := by decide +kernel
theorem dX9_goOn_275 : decode cX9_goOn 275 = .ok (.aload_n 0, 1) := by decide +kernel
theorem dX9_goOn_276 : decode cX9_goOn 276 = .ok (.iload_n 2, 1) := by decide +kernel
theorem dX9_goOn_277 : decode cX9_goOn 277 = .ok (.putfield 287, 3) := by decide +kernel
theorem dX9_goOn_280 : decode cX9_goOn 280 = .ok (.iinc 2 1, 3) := by decide +kernel
theorem dX9_goOn_283 : decode cX9_goOn 283 = .ok (.goto (-193), 3) := by decide +kernel
theorem dX9_goOn_286 : decode cX9_goOn 286 = .ok (.return_, 1) := by decide +kernel
theorem dX9_layTold_0 : decode cX9_layTold 0 = .ok (.aload_n 0, 1) := by decide +kernel
theorem dX9_layTold_1 : decode cX9_layTold 1 = .ok (.aload_n 0, 1) := by decide +kernel
theorem dX9_layTold_2 : decode cX9_layTold 2 = .ok (.getfield 53, 3) := by decide +kernel
theorem dX9_layTold_5 : decode cX9_layTold 5 = .ok (.iconst 0, 1) := by decide +kernel
theorem dX9_layTold_6 : decode cX9_layTold 6 = .ok (.iaload, 1) := by decide +kernel
theorem dX9_layTold_7 : decode cX9_layTold 7 = .ok (.aload_n 0, 1) := by decide +kernel
theorem dX9_layTold_8 : decode cX9_layTold 8 = .ok (.getfield 53, 3) := by decide +kernel
theorem dX9_layTold_11 : decode cX9_layTold 11 = .ok (.iconst 2, 1) := by decide +kernel
theorem dX9_layTold_12 : decode cX9_layTold 12 = .ok (.iaload, 1) := by decide +kernel
theorem dX9_layTold_13 : decode cX9_layTold 13 = .ok (.aload_n 0, 1) := by decide +kernel
theorem dX9_layTold_14 : decode cX9_layTold 14 = .ok (.getfield 257, 3) := by decide +kernel
theorem dX9_layTold_17 : decode cX9_layTold 17 = .ok (.invokevirtual 315, 3) := by decide +kernel
theorem dX9_layTold_20 : decode cX9_layTold 20 = .ok (.return_, 1) := by decide +kernel
theorem dX9_at_0 : decode cX9_at 0 = .ok (.aload_n 0, 1) := by decide +kernel
theorem dX9_at_1 : decode cX9_at 1 = .ok (.iload_n 1, 1) := by decide +kernel
theorem dX9_at_2 : decode cX9_at 2 = .ok (.invokevirtual 265, 3) := by decide +kernel
theorem dX9_at_5 : decode cX9_at 5 = .ok (.ifCond .eq 27, 3) := by decide +kernel
theorem dX9_at_8 : decode cX9_at 8 = .ok (.iload_n 2, 1) := by decide +kernel
theorem dX9_at_9 : decode cX9_at 9 = .ok (.i2l, 1) := by decide +kernel
theorem dX9_at_10 : decode cX9_at 10 = .ok (.lconst 0, 1) := by decide +kernel
theorem dX9_at_11 : decode cX9_at 11 = .ok (.ldc2_w 188, 3) := by decide +kernel
theorem dX9_at_14 : decode cX9_at 14 = .ok (.invokestatic 154, 3) := by decide +kernel
theorem dX9_at_17 : decode cX9_at 17 = .ok (.ifCond .eq 15, 3) := by decide +kernel
theorem dX9_at_20 : decode cX9_at 20 = .ok (.iload_n 3, 1) := by decide +kernel
theorem dX9_at_21 : decode cX9_at 21 = .ok (.i2l, 1) := by decide +kernel
theorem dX9_at_22 : decode cX9_at 22 = .ok (.lconst 0, 1) := by decide +kernel
theorem dX9_at_23 : decode cX9_at 23 = .ok (.ldc2_w 158, 3) := by decide +kernel
theorem dX9_at_26 : decode cX9_at 26 = .ok (.invokestatic 154, 3) := by decide +kernel
theorem dX9_at_29 : decode cX9_at 29 = .ok (.ifCond .ne 7, 3) := by decide +kernel
theorem dX9_at_32 : decode cX9_at 32 = .ok (.ldc_w 318, 3) := by decide +kernel
theorem dX9_at_35 : decode cX9_at 35 = .ok (.ireturn, 1) := by decide +kernel
theorem dX9_at_36 : decode cX9_at 36 = .ok (.aload_n 0, 1) := by decide +kernel
theorem dX9_at_37 : decode cX9_at 37 = .ok (.invokevirtual 319, 3) := by decide +kernel
theorem dX9_at_40 : decode cX9_at 40 = .ok (.bipush 6, 2) := by decide +kernel
theorem dX9_at_42 : decode cX9_at 42 = .ok (.iload_n 2, 1) := by decide +kernel
theorem dX9_at_43 : decode cX9_at 43 = .ok (.imul, 1) := by decide +kernel
theorem dX9_at_44 : decode cX9_at 44 = .ok (.iload_n 1, 1) := by decide +kernel
theorem dX9_at_45 : decode cX9_at 45 = .ok (.iadd, 1) := by decide +kernel
theorem dX9_at_46 : decode cX9_at 46 = .ok (.istore 4, 2) := by decide +kernel
theorem dX9_at_48 : decode cX9_at 48 = .ok (.iload_n 3, 1) := by decide +kernel
theorem dX9_at_49 : decode cX9_at 49 = .ok (.ifCond .ne 13, 3) := by decide +kernel
theorem dX9_at_52 : decode cX9_at 52 = .ok (.aload_n 0, 1) := by decide +kernel
theorem dX9_at_53 : decode cX9_at 53 = .ok (.getfield 110, 3) := by decide +kernel
theorem dX9_at_56 : decode cX9_at 56 = .ok (.iload 4, 2) := by decide +kernel
theorem dX9_at_58 : decode cX9_at 58 = .ok (.iaload, 1) := by decide +kernel
theorem dX9_at_59 : decode cX9_at 59 = .ok (.goto 78, 3) := by decide +kernel
theorem dX9_at_62 : decode cX9_at 62 = .ok (.iload_n 3, 1) := by decide +kernel
theorem dX9_at_63 : decode cX9_at 63 = .ok (.iconst 1, 1) := by decide +kernel
theorem dX9_at_64 : decode cX9_at 64 = .ok (.if_icmp .ne 21, 3) := by decide +kernel
theorem dX9_at_67 : decode cX9_at 67 = .ok (.iload_n 1, 1) := by decide +kernel
theorem dX9_at_68 : decode cX9_at 68 = .ok (.ifCond .ne 7, 3) := by decide +kernel
theorem dX9_at_71 : decode cX9_at 71 = .ok (.iconst (-1), 1) := by decide +kernel
theorem dX9_at_72 : decode cX9_at 72 = .ok (.goto 65, 3) := by decide +kernel
theorem dX9_at_75 : decode cX9_at 75 = .ok (.aload_n 0, 1) := by decide +kernel
theorem dX9_at_76 : decode cX9_at 76 = .ok (.getfield 113, 3) := by decide +kernel
theorem dX9_at_79 : decode cX9_at 79 = .ok (.iload 4, 2) := by decide +kernel
theorem dX9_at_81 : decode cX9_at 81 = .ok (.iaload, 1) := by decide +kernel
theorem dX9_at_82 : decode cX9_at 82 = .ok (.goto 55, 3) := by decide +kernel
theorem dX9_at_85 : decode cX9_at 85 = .ok (.iload_n 3, 1) := by decide +kernel
theorem dX9_at_86 : decode cX9_at 86 = .ok (.iconst 2, 1) := by decide +kernel
theorem dX9_at_87 : decode cX9_at 87 = .ok (.if_icmp .ne 13, 3) := by decide +kernel
theorem dX9_at_90 : decode cX9_at 90 = .ok (.aload_n 0, 1) := by decide +kernel
theorem dX9_at_91 : decode cX9_at 91 = .ok (.getfield 116, 3) := by decide +kernel
theorem dX9_at_94 : decode cX9_at 94 = .ok (.iload 4, 2) := by decide +kernel
theorem dX9_at_96 : decode cX9_at 96 = .ok (.iaload, 1) := by decide +kernel
theorem dX9_at_97 : decode cX9_at 97 = .ok (.goto 40, 3) := by decide +kernel
theorem dX9_at_100 : decode cX9_at 100 = .ok (.iload_n 3, 1) := by decide +kernel
theorem dX9_at_101 : decode cX9_at 101 = .ok (.iconst 3, 1) := by decide +kernel
theorem dX9_at_102 : decode cX9_at 102 = .ok (.if_icmp .ne 13, 3) := by decide +kernel
theorem dX9_at_105 : decode cX9_at 105 = .ok (.aload_n 0, 1) := by decide +kernel
theorem dX9_at_106 : decode cX9_at 106 = .ok (.getfield 119, 3) := by decide +kernel
theorem dX9_at_109 : decode cX9_at 109 = .ok (.iload 4, 2) := by decide +kernel
theorem dX9_at_111 : decode cX9_at 111 = .ok (.iaload, 1) := by decide +kernel
theorem dX9_at_112 : decode cX9_at 112 = .ok (.goto 25, 3) := by decide +kernel
theorem dX9_at_115 : decode cX9_at 115 = .ok (.iload_n 3, 1) := by decide +kernel
theorem dX9_at_116 : decode cX9_at 116 = .ok (.iconst 4, 1) := by decide +kernel
theorem dX9_at_117 : decode cX9_at 117 = .ok (.if_icmp .ne 13, 3) := by decide +kernel
theorem dX9_at_120 : decode cX9_at 120 = .ok (.aload_n 0, 1) := by decide +kernel
theorem dX9_at_121 : decode cX9_at 121 = .ok (.getfield 122, 3) := by decide +kernel
theorem dX9_at_124 : decode cX9_at 124 = .ok (.iload 4, 2) := by decide +kernel
theorem dX9_at_126 : decode cX9_at 126 = .ok (.iaload, 1) := by decide +kernel
theorem dX9_at_127 : decode cX9_at 127 = .ok (.goto 10, 3) := by decide +kernel
theorem dX9_at_130 : decode cX9_at 130 = .ok (.aload_n 0, 1) := by decide +kernel
theorem dX9_at_131 : decode cX9_at 131 = .ok (.getfield 125, 3) := by decide +kernel
theorem dX9_at_134 : decode cX9_at 134 = .ok (.iload 4, 2) := by decide +kernel
theorem dX9_at_136 : decode cX9_at 136 = .ok (.iaload, 1) := by decide +kernel
theorem dX9_at_137 : decode cX9_at 137 = .ok (.ireturn, 1) := by decide +kernel
theorem dX9_touch_0 : decode cX9_touch 0 = .ok (.iload_n 1, 1) := by decide +kernel
theorem dX9_touch_1 : decode cX9_touch 1 = .ok (.i2l, 1) := by decide +kernel
theorem dX9_touch_2 : decode cX9_touch 2 = .ok (.lconst 0, 1) := by decide +kernel
theorem dX9_touch_3 : decode cX9_touch 3 = .ok (.lconst 1, 1) := by decide +kernel
theorem dX9_touch_4 : decode cX9_touch 4 = .ok (.invokestatic 154, 3) := by decide +kernel
theorem dX9_touch_7 : decode cX9_touch 7 = .ok (.ifCond .ne 6, 3) := by decide +kernel
theorem dX9_touch_10 : decode cX9_touch 10 = .ok (.bipush (-3), 2) := by decide +kernel
theorem dX9_touch_12 : decode cX9_touch 12 = .ok (.ireturn, 1) := by decide +kernel
theorem dX9_touch_13 : decode cX9_touch 13 = .ok (.aload_n 0, 1) := by decide +kernel
theorem dX9_touch_14 : decode cX9_touch 14 = .ok (.invokevirtual 319, 3) := by decide +kernel
theorem dX9_touch_17 : decode cX9_touch 17 = .ok (.iload_n 1, 1) := by decide +kernel
theorem dX9_touch_18 : decode cX9_touch 18 = .ok (.ifCond .ne 10, 3) := by decide +kernel
theorem dX9_touch_21 : decode cX9_touch 21 = .ok (.aload_n 0, 1) := by decide +kernel
theorem dX9_touch_22 : decode cX9_touch 22 = .ok (.getfield 284, 3) := by decide +kernel
theorem dX9_touch_25 : decode cX9_touch 25 = .ok (.goto 7, 3) := by decide +kernel
theorem dX9_touch_28 : decode cX9_touch 28 = .ok (.aload_n 0, 1) := by decide +kernel
theorem dX9_touch_29 : decode cX9_touch 29 = .ok (.getfield 287, 3) := by decide +kernel
theorem dX9_touch_32 : decode cX9_touch 32 = .ok (.ireturn, 1) := by decide +kernel
theorem dX9_least_0 : decode cX9_least 0 = .ok (.aload_n 0, 1) := by decide +kernel
theorem dX9_least_1 : decode cX9_least 1 = .ok (.iload_n 1, 1) := by decide +kernel
theorem dX9_least_2 : decode cX9_least 2 = .ok (.invokevirtual 265, 3) := by decide +kernel
theorem dX9_least_5 : decode cX9_least 5 = .ok (.ifCond .eq 7, 3) := by decide +kernel
theorem dX9_least_8 : decode cX9_least 8 = .ok (.iload_n 1, 1) := by decide +kernel
theorem dX9_least_9 : decode cX9_least 9 = .ok (.ifCond .ne 7, 3) := by decide +kernel
theorem dX9_least_12 : decode cX9_least 12 = .ok (.ldc_w 318, 3) := by decide +kernel
theorem dX9_least_15 : decode cX9_least 15 = .ok (.ireturn, 1) := by decide +kernel
theorem dX9_least_16 : decode cX9_least 16 = .ok (.aload_n 0, 1) := by decide +kernel
theorem dX9_least_17 : decode cX9_least 17 = .ok (.invokevirtual 319, 3) := by decide +kernel
theorem dX9_least_20 : decode cX9_least 20 = .ok (.ldc_w 322, 3) := by decide +kernel
theorem dX9_least_23 : decode cX9_least 23 = .ok (.istore_n 2, 1) := by decide +kernel
theorem dX9_least_24 : decode cX9_least 24 = .ok (.iconst 0, 1) := by decide +kernel
theorem dX9_least_25 : decode cX9_least 25 = .ok (.istore_n 3, 1) := by decide +kernel
theorem dX9_least_26 : decode cX9_least 26 = .ok (.iload_n 3, 1) := by decide +kernel
theorem dX9_least_27 : decode cX9_least 27 = .ok (.bipush 32, 2) := by decide +kernel
theorem dX9_least_29 : decode cX9_least 29 = .ok (.if_icmp .ge 25, 3) := by decide +kernel
theorem dX9_least_32 : decode cX9_least 32 = .ok (.iload_n 2, 1) := by decide +kernel
theorem dX9_least_33 : decode cX9_least 33 = .ok (.aload_n 0, 1) := by decide +kernel
theorem dX9_least_34 : decode cX9_least 34 = .ok (.getfield 113, 3) := by decide +kernel
theorem dX9_least_37 : decode cX9_least 37 = .ok (.bipush 6, 2) := by decide +kernel
theorem dX9_least_39 : decode cX9_least 39 = .ok (.iload_n 3, 1) := by decide +kernel
theorem dX9_least_40 : decode cX9_least 40 = .ok (.imul, 1) := by decide +kernel
theorem dX9_least_41 : decode cX9_least 41 = .ok (.iload_n 1, 1) := by decide +kernel
theorem dX9_least_42 : decode cX9_least 42 = .ok (.iadd, 1) := by decide +kernel
theorem dX9_least_43 : decode cX9_least 43 = .ok (.iaload, 1) := by decide +kernel
theorem dX9_least_44 : decode cX9_least 44 = .ok (.invokestatic 280, 3) := by decide +kernel
theorem dX9_least_47 : decode cX9_least 47 = .ok (.istore_n 2, 1) := by decide +kernel
theorem dX9_least_48 : decode cX9_least 48 = .ok (.iinc 3 1, 3) := by decide +kernel
theorem dX9_least_51 : decode cX9_least 51 = .ok (.goto (-25), 3) := by decide +kernel
theorem dX9_least_54 : decode cX9_least 54 = .ok (.iload_n 2, 1) := by decide +kernel
theorem dX9_least_55 : decode cX9_least 55 = .ok (.ireturn, 1) := by decide +kernel
theorem dX9_dipOf_0 : decode cX9_dipOf 0 = .ok (.aload_n 0, 1) := by decide +kernel
theorem dX9_dipOf_1 : decode cX9_dipOf 1 = .ok (.getfield 53, 3) := by decide +kernel
theorem dX9_dipOf_4 : decode cX9_dipOf 4 = .ok (.iconst 1, 1) := by decide +kernel
theorem dX9_dipOf_5 : decode cX9_dipOf 5 = .ok (.iaload, 1) := by decide +kernel
theorem dX9_dipOf_6 : decode cX9_dipOf 6 = .ok (.istore_n 2, 1) := by decide +kernel
theorem dX9_dipOf_7 : decode cX9_dipOf 7 = .ok (.iconst 0, 1) := by decide +kernel
theorem dX9_dipOf_8 : decode cX9_dipOf 8 = .ok (.istore_n 3, 1) := by decide +kernel
theorem dX9_dipOf_9 : decode cX9_dipOf 9 = .ok (.iload_n 3, 1) := by decide +kernel
theorem dX9_dipOf_10 : decode cX9_dipOf 10 = .ok (.bipush 32, 2) := by decide +kernel
theorem dX9_dipOf_12 : decode cX9_dipOf 12 = .ok (.if_icmp .ge 25, 3) := by decide +kernel
theorem dX9_dipOf_15 : decode cX9_dipOf 15 = .ok (.iload_n 2, 1) := by decide +kernel
theorem dX9_dipOf_16 : decode cX9_dipOf 16 = .ok (.aload_n 0, 1) := by decide +kernel
theorem dX9_dipOf_17 : decode cX9_dipOf 17 = .ok (.getfield 110, 3) := by decide +kernel
theorem dX9_dipOf_20 : decode cX9_dipOf 20 = .ok (.bipush 6, 2) := by decide +kernel
theorem dX9_dipOf_22 : decode cX9_dipOf 22 = .ok (.iload_n 3, 1) := by decide +kernel
theorem dX9_dipOf_23 : decode cX9_dipOf 23 = .ok (.imul, 1) := by decide +kernel
theorem dX9_dipOf_24 : decode cX9_dipOf 24 = .ok (.iload_n 1, 1) := by decide +kernel
theorem dX9_dipOf_25 : decode cX9_dipOf 25 = .ok (.iadd, 1) := by decide +kernel
theorem dX9_dipOf_26 : decode cX9_dipOf 26 = .ok (.iaload, 1) := by decide +kernel
theorem dX9_dipOf_27 : decode cX9_dipOf 27 = .ok (.invokestatic 280, 3) := by decide +kernel
theorem dX9_dipOf_30 : decode cX9_dipOf 30 = .ok (.istore_n 2, 1) := by decide +kernel
theorem dX9_dipOf_31 : decode cX9_dipOf 31 = .ok (.iinc 3 1, 3) := by decide +kernel
theorem dX9_dipOf_34 : decode cX9_dipOf 34 = .ok (.goto (-25), 3) := by decide +kernel
theorem dX9_dipOf_37 : decode cX9_dipOf 37 = .ok (.aload_n 0, 1) := by decide +kernel
theorem dX9_dipOf_38 : decode cX9_dipOf 38 = .ok (.getfield 53, 3) := by decide +kernel
theorem dX9_dipOf_41 : decode cX9_dipOf 41 = .ok (.iconst 1, 1) := by decide +kernel
theorem dX9_dipOf_42 : decode cX9_dipOf 42 = .ok (.iaload, 1) := by decide +kernel
theorem dX9_dipOf_43 : decode cX9_dipOf 43 = .ok (.iload_n 2, 1) := by decide +kernel
theorem dX9_dipOf_44 : decode cX9_dipOf 44 = .ok (.isub, 1) := by decide +kernel
theorem dX9_dipOf_45 : decode cX9_dipOf 45 = .ok (.ireturn, 1) := by decide +kernel
theorem dX9_dip_0 : decode cX9_dip 0 = .ok (.aload_n 0, 1) := by decide +kernel
theorem dX9_dip_1 : decode cX9_dip 1 = .ok (.iload_n 1, 1) := by decide +kernel
theorem dX9_dip_2 : decode cX9_dip 2 = .ok (.invokevirtual 265, 3) := by decide +kernel
theorem dX9_dip_5 : decode cX9_dip 5 = .ok (.ifCond .ne 6, 3) := by decide +kernel
theorem dX9_dip_8 : decode cX9_dip 8 = .ok (.bipush (-2), 2) := by decide +kernel
theorem dX9_dip_10 : decode cX9_dip 10 = .ok (.ireturn, 1) := by decide +kernel
theorem dX9_dip_11 : decode cX9_dip 11 = .ok (.aload_n 0, 1) := by decide +kernel
theorem dX9_dip_12 : decode cX9_dip 12 = .ok (.invokevirtual 319, 3) := by decide +kernel
theorem dX9_dip_15 : decode cX9_dip 15 = .ok (.aload_n 0, 1) := by decide +kernel
theorem dX9_dip_16 : decode cX9_dip 16 = .ok (.iload_n 1, 1) := by decide +kernel
theorem dX9_dip_17 : decode cX9_dip 17 = .ok (.invokevirtual 323, 3) := by decide +kernel
theorem dX9_dip_20 : decode cX9_dip 20 = .ok (.ireturn, 1) := by decide +kernel
theorem dX9_grows_0 : decode cX9_grows 0 = .ok (.aload_n 0, 1) := by decide +kernel
theorem dX9_grows_1 : decode cX9_grows 1 = .ok (.invokevirtual 319, 3) := by decide +kernel
theorem dX9_grows_4 : decode cX9_grows 4 = .ok (.iconst 0, 1) := by decide +kernel
theorem dX9_grows_5 : decode cX9_grows 5 = .ok (.istore_n 1, 1) := by decide +kernel
theorem dX9_grows_6 : decode cX9_grows 6 = .ok (.iconst 1, 1) := by decide +kernel
theorem dX9_grows_7 : decode cX9_grows 7 = .ok (.istore_n 2, 1) := by decide +kernel
theorem dX9_grows_8 : decode cX9_grows 8 = .ok (.iload_n 2, 1) := by decide +kernel
theorem dX9_grows_9 : decode cX9_grows 9 = .ok (.aload_n 0, 1) := by decide +kernel
theorem dX9_grows_10 : decode cX9_grows 10 = .ok (.getfield 46, 3) := by decide +kernel
theorem dX9_grows_13 : decode cX9_grows 13 = .ok (.if_icmp .ge 34, 3) := by decide +kernel
theorem dX9_grows_16 : decode cX9_grows 16 = .ok (.iload_n 1, 1) := by decide +kernel
theorem dX9_grows_17 : decode cX9_grows 17 = .ok (.aload_n 0, 1) := by decide +kernel
theorem dX9_grows_18 : decode cX9_grows 18 = .ok (.iload_n 2, 1) := by decide +kernel
theorem dX9_grows_19 : decode cX9_grows 19 = .ok (.invokevirtual 323, 3) := by decide +kernel
theorem dX9_grows_22 : decode cX9_grows 22 = .ok (.aload_n 0, 1) := by decide +kernel
theorem dX9_grows_23 : decode cX9_grows 23 = .ok (.iload_n 2, 1) := by decide +kernel
theorem dX9_grows_24 : decode cX9_grows 24 = .ok (.iconst 1, 1) := by decide +kernel
theorem dX9_grows_25 : decode cX9_grows 25 = .ok (.isub, 1) := by decide +kernel
theorem dX9_grows_26 : decode cX9_grows 26 = .ok (.invokevirtual 323, 3) := by decide +kernel
theorem dX9_grows_29 : decode cX9_grows 29 = .ok (.if_icmp .le 9, 3) := by decide +kernel
theorem dX9_grows_32 : decode cX9_grows 32 = .ok (.iconst 1, 1) := by decide +kernel
theorem dX9_grows_33 : decode cX9_grows 33 = .ok (.iload_n 2, 1) := by decide +kernel
theorem dX9_grows_34 : decode cX9_grows 34 = .ok (.ishl, 1) := by decide +kernel
theorem dX9_grows_35 : decode cX9_grows 35 = .ok (.goto 4, 3) := by decide +kernel
theorem dX9_grows_38 : decode cX9_grows 38 = .ok (.iconst 0, 1) := by decide +kernel
theorem dX9_grows_39 : decode cX9_grows 39 = .ok (.ior, 1) := by decide +kernel
theorem dX9_grows_40 : decode cX9_grows 40 = .ok (.istore_n 1, 1) := by decide +kernel
theorem dX9_grows_41 : decode cX9_grows 41 = .ok (.iinc 2 1, 3) := by decide +kernel
theorem dX9_grows_44 : decode cX9_grows 44 = .ok (.goto (-36), 3) := by decide +kernel
theorem dX9_grows_47 : decode cX9_grows 47 = .ok (.iload_n 1, 1) := by decide +kernel
theorem dX9_grows_48 : decode cX9_grows 48 = .ok (.ireturn, 1) := by decide +kernel
theorem dX9_bits_0 : decode cX9_bits 0 = .ok (.iconst 0, 1) := by decide +kernel
theorem dX9_bits_1 : decode cX9_bits 1 = .ok (.istore_n 1, 1) := by decide +kernel
theorem dX9_bits_2 : decode cX9_bits 2 = .ok (.iconst 0, 1) := by decide +kernel
theorem dX9_bits_3 : decode cX9_bits 3 = .ok (.istore_n 2, 1) := by decide +kernel
theorem dX9_bits_4 : decode cX9_bits 4 = .ok (.iload_n 2, 1) := by decide +kernel
theorem dX9_bits_5 : decode cX9_bits 5 = .ok (.bipush 8, 2) := by decide +kernel
theorem dX9_bits_7 : decode cX9_bits 7 = .ok (.if_icmp .ge 17, 3) := by decide +kernel
theorem dX9_bits_10 : decode cX9_bits 10 = .ok (.iload_n 1, 1) := by decide +kernel
theorem dX9_bits_11 : decode cX9_bits 11 = .ok (.iload_n 0, 1) := by decide +kernel
theorem dX9_bits_12 : decode cX9_bits 12 = .ok (.iload_n 2, 1) := by decide +kernel
theorem dX9_bits_13 : decode cX9_bits 13 = .ok (.ishr, 1) := by decide +kernel
theorem dX9_bits_14 : decode cX9_bits 14 = .ok (.iconst 1, 1) := by decide +kernel
theorem dX9_bits_15 : decode cX9_bits 15 = .ok (.iand, 1) := by decide +kernel
theorem dX9_bits_16 : decode cX9_bits 16 = .ok (.iadd, 1) := by decide +kernel
theorem dX9_bits_17 : decode cX9_bits 17 = .ok (.istore_n 1, 1) := by decide +kernel
theorem dX9_bits_18 : decode cX9_bits 18 = .ok (.iinc 2 1, 3) := by decide +kernel
theorem dX9_bits_21 : decode cX9_bits 21 = .ok (.goto (-17), 3) := by decide +kernel
theorem dX9_bits_24 : decode cX9_bits 24 = .ok (.iload_n 1, 1) := by decide +kernel
theorem dX9_bits_25 : decode cX9_bits 25 = .ok (.ireturn, 1) := by decide +kernel
theorem dX9_worstOf_0 : decode cX9_worstOf 0 = .ok (.iconst 0, 1) := by decide +kernel
theorem dX9_worstOf_1 : decode cX9_worstOf 1 = .ok (.istore 4, 2) := by decide +kernel
theorem dX9_worstOf_3 : decode cX9_worstOf 3 = .ok (.iload 4, 2) := by decide +kernel
theorem dX9_worstOf_5 : decode cX9_worstOf 5 = .ok (.iload_n 2, 1) := by decide +kernel
theorem dX9_worstOf_6 : decode cX9_worstOf 6 = .ok (.if_icmp .gt 62, 3) := by decide +kernel
theorem dX9_worstOf_9 : decode cX9_worstOf 9 = .ok (.iconst 0, 1) := by decide +kernel
theorem dX9_worstOf_10 : decode cX9_worstOf 10 = .ok (.istore 5, 2) := by decide +kernel
theorem dX9_worstOf_12 : decode cX9_worstOf 12 = .ok (.iload 5, 2) := by decide +kernel
theorem dX9_worstOf_14 : decode cX9_worstOf 14 = .ok (.sipush 256, 3) := by decide +kernel
theorem dX9_worstOf_17 : decode cX9_worstOf 17 = .ok (.if_icmp .ge 45, 3) := by decide +kernel
theorem dX9_worstOf_20 : decode cX9_worstOf 20 = .ok (.iload 5, 2) := by decide +kernel
theorem dX9_worstOf_22 : decode cX9_worstOf 22 = .ok (.invokestatic 326, 3) := by decide +kernel
theorem dX9_worstOf_25 : decode cX9_worstOf 25 = .ok (.iload_n 3, 1) := by decide +kernel
theorem dX9_worstOf_26 : decode cX9_worstOf 26 = .ok (.if_icmp .gt 30, 3) := by decide +kernel
theorem dX9_worstOf_29 : decode cX9_worstOf 29 = .ok (.aload_n 0, 1) := by decide +kernel
theorem dX9_worstOf_30 : decode cX9_worstOf 30 = .ok (.iload_n 1, 1) := by decide +kernel
theorem dX9_worstOf_31 : decode cX9_worstOf 31 = .ok (.iload 4, 2) := by decide +kernel
theorem dX9_worstOf_33 : decode cX9_worstOf 33 = .ok (.iload 5, 2) := by decide +kernel
theorem dX9_worstOf_35 : decode cX9_worstOf 35 = .ok (.invokevirtual 315, 3) := by decide +kernel
theorem dX9_worstOf_38 : decode cX9_worstOf 38 = .ok (.aload_n 0, 1) := by decide +kernel
theorem dX9_worstOf_39 : decode cX9_worstOf 39 = .ok (.getfield 284, 3) := by decide +kernel
theorem dX9_worstOf_42 : decode cX9_worstOf 42 = .ok (.iconst (-1), 1) := by decide +kernel
theorem dX9_worstOf_43 : decode cX9_worstOf 43 = .ok (.if_icmp .eq 13, 3) := by decide +kernel
theorem dX9_worstOf_46 : decode cX9_worstOf 46 = .ok (.sipush 256, 3) := by decide +kernel
theorem dX9_worstOf_49 : decode cX9_worstOf 49 = .ok (.iload 4, 2) := by decide +kernel
theorem dX9_worstOf_51 : decode cX9_worstOf 51 = .ok (.imul, 1) := by decide +kernel
theorem dX9_worstOf_52 : decode cX9_worstOf 52 = .ok (.iload 5, 2) := by decide +kernel
theorem dX9_worstOf_54 : decode cX9_worstOf 54 = .ok (.iadd, 1) := by decide +kernel
theorem dX9_worstOf_55 : decode cX9_worstOf 55 = .ok (.ireturn, 1) := by decide +kernel
theorem dX9_worstOf_56 : decode cX9_worstOf 56 = .ok (.iinc 5 1, 3) := by decide +kernel
theorem dX9_worstOf_59 : decode cX9_worstOf 59 = .ok (.goto (-47), 3) := by decide +kernel
theorem dX9_worstOf_62 : decode cX9_worstOf 62 = .ok (.iinc 4 1, 3) := by decide +kernel
theorem dX9_worstOf_65 : decode cX9_worstOf 65 = .ok (.goto (-62), 3) := by decide +kernel
theorem dX9_worstOf_68 : decode cX9_worstOf 68 = .ok (.iconst (-1), 1) := by decide +kernel
theorem dX9_worstOf_69 : decode cX9_worstOf 69 = .ok (.ireturn, 1) := by decide +kernel
theorem dX9_areMishaps_0 : decode cX9_areMishaps 0 = .ok (.iload_n 0, 1) := by decide +kernel
theorem dX9_areMishaps_1 : decode cX9_areMishaps 1 = .ok (.i2l, 1) := by decide +kernel
theorem dX9_areMishaps_2 : decode cX9_areMishaps 2 = .ok (.lconst 0, 1) := by decide +kernel
theorem dX9_areMishaps_3 : decode cX9_areMishaps 3 = .ok (.ldc2_w 248, 3) := by decide +kernel
theorem dX9_areMishaps_6 : decode cX9_areMishaps 6 = .ok (.invokestatic 154, 3) := by decide +kernel
theorem dX9_areMishaps_9 : decode cX9_areMishaps 9 = .ok (.ifCond .eq 19, 3) := by decide +kernel
theorem dX9_areMishaps_12 : decode cX9_areMishaps 12 = .ok (.iload_n 1, 1) := by decide +kernel
theorem dX9_areMishaps_13 : decode cX9_areMishaps 13 = .ok (.i2l, 1) := by decide +kernel
theorem dX9_areMishaps_14 : decode cX9_areMishaps 14 = .ok (.lconst 0, 1) := by decide +kernel
theorem dX9_areMishaps_15 : decode cX9_areMishaps 15 = .ok (.ldc2_w 329, 3) := by decide +kernel
theorem dX9_areMishaps_18 : decode cX9_areMishaps 18 = .ok (.invokestatic 154, 3) := by decide +kernel
theorem dX9_areMishaps_21 : decode cX9_areMishaps 21 = .ok (.ifCond .eq 7, 3) := by decide +kernel
theorem dX9_areMishaps_24 : decode cX9_areMishaps 24 = .ok (.iconst 1, 1) := by decide +kernel
theorem dX9_areMishaps_25 : decode cX9_areMishaps 25 = .ok (.goto 4, 3) := by decide +kernel
theorem dX9_areMishaps_28 : decode cX9_areMishaps 28 = .ok (.iconst 0, 1) := by decide +kernel
theorem dX9_areMishaps_29 : decode cX9_areMishaps 29 = .ok (.ireturn, 1) := by decide +kernel
theorem dX9_safe_0 : decode cX9_safe 0 = .ok (.iload_n 1, 1) := by decide +kernel
theorem dX9_safe_1 : decode cX9_safe 1 = .ok (.i2l, 1) := by decide +kernel
theorem dX9_safe_2 : decode cX9_safe 2 = .ok (.lconst 1, 1) := by decide +kernel
theorem dX9_safe_3 : decode cX9_safe 3 = .ok (.ldc2_w 250, 3) := by decide +kernel
theorem dX9_safe_6 : decode cX9_safe 6 = .ok (.invokestatic 154, 3) := by decide +kernel
theorem dX9_safe_9 : decode cX9_safe 9 = .ok (.ifCond .eq 11, 3) := by decide +kernel
theorem dX9_safe_12 : decode cX9_safe 12 = .ok (.iload_n 2, 1) := by decide +kernel
theorem dX9_safe_13 : decode cX9_safe 13 = .ok (.iload_n 3, 1) := by decide +kernel
theorem dX9_safe_14 : decode cX9_safe 14 = .ok (.invokestatic 331, 3) := by decide +kernel
theorem dX9_safe_17 : decode cX9_safe 17 = .ok (.ifCond .ne 8, 3) := by decide +kernel
theorem dX9_safe_20 : decode cX9_safe 20 = .ok (.bipush (-3), 2) := by decide +kernel
theorem dX9_safe_22 : decode cX9_safe 22 = .ok (.goto 19, 3) := by decide +kernel
theorem dX9_safe_25 : decode cX9_safe 25 = .ok (.aload_n 0, 1) := by decide +kernel
theorem dX9_safe_26 : decode cX9_safe 26 = .ok (.iload_n 1, 1) := by decide +kernel
theorem dX9_safe_27 : decode cX9_safe 27 = .ok (.iload_n 2, 1) := by decide +kernel
theorem dX9_safe_28 : decode cX9_safe 28 = .ok (.iload_n 3, 1) := by decide +kernel
theorem dX9_safe_29 : decode cX9_safe 29 = .ok (.invokevirtual 334, 3) := by decide +kernel
theorem dX9_safe_32 : decode cX9_safe 32 = .ok (.iconst (-1), 1) := by decide +kernel
theorem dX9_safe_33 : decode cX9_safe 33 = .ok (.if_icmp .ne 7, 3) := by decide +kernel
theorem dX9_safe_36 : decode cX9_safe 36 = .ok (.iconst 1, 1) := by decide +kernel
theorem dX9_safe_37 : decode cX9_safe 37 = .ok (.goto 4, 3) := by decide +kernel
theorem dX9_safe_40 : decode cX9_safe 40 = .ok (.iconst 0, 1) := by decide +kernel
theorem dX9_safe_41 : decode cX9_safe 41 = .ok (.ireturn, 1) := by decide +kernel
theorem dX9_need_0 : decode cX9_need 0 = .ok (.iload_n 1, 1) := by decide +kernel
theorem dX9_need_1 : decode cX9_need 1 = .ok (.iload_n 2, 1) := by decide +kernel
theorem dX9_need_2 : decode cX9_need 2 = .ok (.invokestatic 331, 3) := by decide +kernel
theorem dX9_need_5 : decode cX9_need 5 = .ok (.ifCond .ne 6, 3) := by decide +kernel
theorem dX9_need_8 : decode cX9_need 8 = .ok (.bipush (-3), 2) := by decide +kernel
theorem dX9_need_10 : decode cX9_need 10 = .ok (.ireturn, 1) := by decide +kernel
theorem dX9_need_11 : decode cX9_need 11 = .ok (.iconst 1, 1) := by decide +kernel
theorem dX9_need_12 : decode cX9_need 12 = .ok (.istore_n 3, 1) := by decide +kernel
theorem dX9_need_13 : decode cX9_need 13 = .ok (.iload_n 3, 1) := by decide +kernel
theorem dX9_need_14 : decode cX9_need 14 = .ok (.bipush 60, 2) := by decide +kernel
theorem dX9_need_16 : decode cX9_need 16 = .ok (.if_icmp .gt 22, 3) := by decide +kernel
theorem dX9_need_19 : decode cX9_need 19 = .ok (.aload_n 0, 1) := by decide +kernel
theorem dX9_need_20 : decode cX9_need 20 = .ok (.iload_n 3, 1) := by decide +kernel
theorem dX9_need_21 : decode cX9_need 21 = .ok (.iload_n 1, 1) := by decide +kernel
theorem dX9_need_22 : decode cX9_need 22 = .ok (.iload_n 2, 1) := by decide +kernel
theorem dX9_need_23 : decode cX9_need 23 = .ok (.invokevirtual 334, 3) := by decide +kernel
theorem dX9_need_26 : decode cX9_need 26 = .ok (.iconst (-1), 1) := by decide +kernel
theorem dX9_need_27 : decode cX9_need 27 = .ok (.if_icmp .ne 5, 3) := by decide +kernel
theorem dX9_need_30 : decode cX9_need 30 = .ok (.iload_n 3, 1) := by decide +kernel
theorem dX9_need_31 : decode cX9_need 31 = .ok (.ireturn, 1) := by decide +kernel
theorem dX9_need_32 : decode cX9_need 32 = .ok (.iinc 3 1, 3) := by decide +kernel
theorem dX9_need_35 : decode cX9_need 35 = .ok (.goto (-22), 3) := by decide +kernel
theorem dX9_need_38 : decode cX9_need 38 = .ok (.iconst (-1), 1) := by decide +kernel
theorem dX9_need_39 : decode cX9_need 39 = .ok (.ireturn, 1) := by decide +kernel
theorem dX9_worst_0 : decode cX9_worst 0 = .ok (.iload_n 1, 1) := by decide +kernel
theorem dX9_worst_1 : decode cX9_worst 1 = .ok (.i2l, 1) := by decide +kernel
theorem dX9_worst_2 : decode cX9_worst 2 = .ok (.lconst 1, 1) := by decide +kernel
theorem dX9_worst_3 : decode cX9_worst 3 = .ok (.ldc2_w 250, 3) := by decide +kernel
theorem dX9_worst_6 : decode cX9_worst 6 = .ok (.invokestatic 154, 3) := by decide +kernel
theorem dX9_worst_9 : decode cX9_worst 9 = .ok (.ifCond .eq 21, 3) := by decide +kernel
theorem dX9_worst_12 : decode cX9_worst 12 = .ok (.iload_n 2, 1) := by decide +kernel
theorem dX9_worst_13 : decode cX9_worst 13 = .ok (.iload_n 3, 1) := by decide +kernel
theorem dX9_worst_14 : decode cX9_worst 14 = .ok (.invokestatic 331, 3) := by decide +kernel
theorem dX9_worst_17 : decode cX9_worst 17 = .ok (.ifCond .eq 13, 3) := by decide +kernel
theorem dX9_worst_20 : decode cX9_worst 20 = .ok (.aload_n 0, 1) := by decide +kernel
theorem dX9_worst_21 : decode cX9_worst 21 = .ok (.iload_n 1, 1) := by decide +kernel
theorem dX9_worst_22 : decode cX9_worst 22 = .ok (.iload_n 2, 1) := by decide +kernel
theorem dX9_worst_23 : decode cX9_worst 23 = .ok (.iload_n 3, 1) := by decide +kernel
theorem dX9_worst_24 : decode cX9_worst 24 = .ok (.invokevirtual 334, 3) := by decide +kernel
theorem dX9_worst_27 : decode cX9_worst 27 = .ok (.goto 5, 3) := by decide +kernel
theorem dX9_worst_30 : decode cX9_worst 30 = .ok (.bipush (-3), 2) := by decide +kernel
theorem dX9_worst_32 : decode cX9_worst 32 = .ok (.ireturn, 1) := by decide +kernel
theorem dX9_sparing_0 : decode cX9_sparing 0 = .ok (.aload_n 0, 1) := by decide +kernel
theorem dX9_sparing_1 : decode cX9_sparing 1 = .ok (.invokevirtual 319, 3) := by decide +kernel
theorem dX9_sparing_4 : decode cX9_sparing 4 = .ok (.aload_n 0, 1) := by decide +kernel
theorem dX9_sparing_5 : decode cX9_sparing 5 = .ok (.getfield 284, 3) := by decide +kernel
theorem dX9_sparing_8 : decode cX9_sparing 8 = .ok (.iconst (-1), 1) := by decide +kernel
theorem dX9_sparing_9 : decode cX9_sparing 9 = .ok (.if_icmp .ne 5, 3) := by decide +kernel
theorem dX9_sparing_12 : decode cX9_sparing 12 = .ok (.iconst 0, 1) := by decide +kernel
theorem dX9_sparing_13 : decode cX9_sparing 13 = .ok (.ireturn, 1) := by decide +kernel
theorem dX9_sparing_14 : decode cX9_sparing 14 = .ok (.iconst 0, 1) := by decide +kernel
theorem dX9_sparing_15 : decode cX9_sparing 15 = .ok (.istore_n 1, 1) := by decide +kernel
theorem dX9_sparing_16 : decode cX9_sparing 16 = .ok (.iconst 0, 1) := by decide +kernel
theorem dX9_sparing_17 : decode cX9_sparing 17 = .ok (.istore_n 2, 1) := by decide +kernel
theorem dX9_sparing_18 : decode cX9_sparing 18 = .ok (.iload_n 2, 1) := by decide +kernel
theorem dX9_sparing_19 : decode cX9_sparing 19 = .ok (.bipush 32, 2) := by decide +kernel
theorem dX9_sparing_21 : decode cX9_sparing 21 = .ok (.if_icmp .ge 65, 3) := by decide +kernel
theorem dX9_sparing_24 : decode cX9_sparing 24 = .ok (.aload_n 0, 1) := by decide +kernel
theorem dX9_sparing_25 : decode cX9_sparing 25 = .ok (.getfield 257, 3) := by decide +kernel
theorem dX9_sparing_28 : decode cX9_sparing 28 = .ok (.iload_n 2, 1) := by decide +kernel
theorem dX9_sparing_29 : decode cX9_sparing 29 = .ok (.ishr, 1) := by decide +kernel
theorem dX9_sparing_30 : decode cX9_sparing 30 = .ok (.iconst 1, 1) := by decide +kernel
theorem dX9_sparing_31 : decode cX9_sparing 31 = .ok (.iand, 1) := by decide +kernel
theorem dX9_sparing_32 : decode cX9_sparing 32 = .ok (.iconst 1, 1) := by decide +kernel
theorem dX9_sparing_33 : decode cX9_sparing 33 = .ok (.if_icmp .ne 47, 3) := by decide +kernel
theorem dX9_sparing_36 : decode cX9_sparing 36 = .ok (.aload_n 0, 1) := by decide +kernel
theorem dX9_sparing_37 : decode cX9_sparing 37 = .ok (.aload_n 0, 1) := by decide +kernel
theorem dX9_sparing_38 : decode cX9_sparing 38 = .ok (.getfield 53, 3) := by decide +kernel
theorem dX9_sparing_41 : decode cX9_sparing 41 = .ok (.iconst 0, 1) := by decide +kernel
theorem dX9_sparing_42 : decode cX9_sparing 42 = .ok (.iaload, 1) := by decide +kernel
theorem dX9_sparing_43 : decode cX9_sparing 43 = .ok (.aload_n 0, 1) := by decide +kernel
theorem dX9_sparing_44 : decode cX9_sparing 44 = .ok (.getfield 53, 3) := by decide +kernel
theorem dX9_sparing_47 : decode cX9_sparing 47 = .ok (.iconst 2, 1) := by decide +kernel
theorem dX9_sparing_48 : decode cX9_sparing 48 = .ok (.iaload, 1) := by decide +kernel
theorem dX9_sparing_49 : decode cX9_sparing 49 = .ok (.aload_n 0, 1) := by decide +kernel
theorem dX9_sparing_50 : decode cX9_sparing 50 = .ok (.getfield 257, 3) := by decide +kernel
theorem dX9_sparing_53 : decode cX9_sparing 53 = .ok (.iconst 1, 1) := by decide +kernel
theorem dX9_sparing_54 : decode cX9_sparing 54 = .ok (.iload_n 2, 1) := by decide +kernel
theorem dX9_sparing_55 : decode cX9_sparing 55 = .ok (.ishl, 1) := by decide +kernel
theorem dX9_sparing_56 : decode cX9_sparing 56 = .ok (.iconst (-1), 1) := by decide +kernel
theorem dX9_sparing_57 : decode cX9_sparing 57 = .ok (.ixor, 1) := by decide +kernel
theorem dX9_sparing_58 : decode cX9_sparing 58 = .ok (.iand, 1) := by decide +kernel
theorem dX9_sparing_59 : decode cX9_sparing 59 = .ok (.invokevirtual 315, 3) := by decide +kernel
theorem dX9_sparing_62 : decode cX9_sparing 62 = .ok (.iload_n 1, 1) := by decide +kernel
theorem dX9_sparing_63 : decode cX9_sparing 63 = .ok (.aload_n 0, 1) := by decide +kernel
theorem dX9_sparing_64 : decode cX9_sparing 64 = .ok (.getfield 284, 3) := by decide +kernel
theorem dX9_sparing_67 : decode cX9_sparing 67 = .ok (.iconst (-1), 1) := by decide +kernel
theorem dX9_sparing_68 : decode cX9_sparing 68 = .ok (.if_icmp .ne 9, 3) := by decide +kernel
theorem dX9_sparing_71 : decode cX9_sparing 71 = .ok (.iconst 1, 1) := by decide +kernel
theorem dX9_sparing_72 : decode cX9_sparing 72 = .ok (.iload_n 2, 1) := by decide +kernel
theorem dX9_sparing_73 : decode cX9_sparing 73 = .ok (.ishl, 1) := by decide +kernel
theorem dX9_sparing_74 : decode cX9_sparing 74 = .ok (.goto 4, 3) := by decide +kernel
theorem dX9_sparing_77 : decode cX9_sparing 77 = .ok (.iconst 0, 1) := by decide +kernel
theorem dX9_sparing_78 : decode cX9_sparing 78 = .ok (.ior, 1) := by decide +kernel
theorem dX9_sparing_79 : decode cX9_sparing 79 = .ok (.istore_n 1, 1) := by decide +kernel
theorem dX9_sparing_80 : decode cX9_sparing 80 = .ok (.iinc 2 1, 3) := by decide +kernel
theorem dX9_sparing_83 : decode cX9_sparing 83 = .ok (.goto (-65), 3) := by decide +kernel
theorem dX9_sparing_86 : decode cX9_sparing 86 = .ok (.iload_n 1, 1) := by decide +kernel
theorem dX9_sparing_87 : decode cX9_sparing 87 = .ok (.ireturn, 1) := by decide +kernel
theorem dX9_bears_0 : decode cX9_bears 0 = .ok (.iload_n 1, 1) := by decide +kernel
theorem dX9_bears_1 : decode cX9_bears 1 = .ok (.i2l, 1) := by decide +kernel
theorem dX9_bears_2 : decode cX9_bears 2 = .ok (.lconst 0, 1) := by decide +kernel
theorem dX9_bears_3 : decode cX9_bears 3 = .ok (.ldc2_w 260, 3) := by decide +kernel
theorem dX9_bears_6 : decode cX9_bears 6 = .ok (.invokestatic 154, 3) := by decide +kernel
theorem dX9_bears_9 : decode cX9_bears 9 = .ok (.ifCond .eq 16, 3) := by decide +kernel
theorem dX9_bears_12 : decode cX9_bears 12 = .ok (.iload_n 2, 1) := by decide +kernel
theorem dX9_bears_13 : decode cX9_bears 13 = .ok (.i2l, 1) := by decide +kernel
theorem dX9_bears_14 : decode cX9_bears 14 = .ok (.iload_n 1, 1) := by decide +kernel
theorem dX9_bears_15 : decode cX9_bears 15 = .ok (.i2l, 1) := by decide +kernel
theorem dX9_bears_16 : decode cX9_bears 16 = .ok (.ldc2_w 260, 3) := by decide +kernel
theorem dX9_bears_19 : decode cX9_bears 19 = .ok (.invokestatic 154, 3) := by decide +kernel
theorem dX9_bears_22 : decode cX9_bears 22 = .ok (.ifCond .ne 6, 3) := by decide +kernel
theorem dX9_bears_25 : decode cX9_bears 25 = .ok (.bipush (-3), 2) := by decide +kernel
theorem dX9_bears_27 : decode cX9_bears 27 = .ok (.ireturn, 1) := by decide +kernel
theorem dX9_bears_28 : decode cX9_bears 28 = .ok (.aload_n 0, 1) := by decide +kernel
theorem dX9_bears_29 : decode cX9_bears 29 = .ok (.invokevirtual 319, 3) := by decide +kernel
theorem dX9_bears_32 : decode cX9_bears 32 = .ok (.iconst 0, 1) := by decide +kernel
theorem dX9_bears_33 : decode cX9_bears 33 = .ok (.istore_n 3, 1) := by decide +kernel
theorem dX9_bears_34 : decode cX9_bears 34 = .ok (.iconst 0, 1) := by decide +kernel
theorem dX9_bears_35 : decode cX9_bears 35 = .ok (.istore 4, 2) := by decide +kernel
theorem dX9_bears_37 : decode cX9_bears 37 = .ok (.iload 4, 2) := by decide +kernel
theorem dX9_bears_39 : decode cX9_bears 39 = .ok (.bipush 32, 2) := by decide +kernel
theorem dX9_bears_41 : decode cX9_bears 41 = .ok (.if_icmp .ge 88, 3) := by decide +kernel
theorem dX9_bears_44 : decode cX9_bears 44 = .ok (.iconst 0, 1) := by decide +kernel
theorem dX9_bears_45 : decode cX9_bears 45 = .ok (.istore 5, 2) := by decide +kernel
theorem dX9_bears_47 : decode cX9_bears 47 = .ok (.iconst 0, 1) := by decide +kernel
theorem dX9_bears_48 : decode cX9_bears 48 = .ok (.istore 6, 2) := by decide +kernel
theorem dX9_bears_50 : decode cX9_bears 50 = .ok (.iload 6, 2) := by decide +kernel
theorem dX9_bears_52 : decode cX9_bears 52 = .ok (.aload_n 0, 1) := by decide +kernel
theorem dX9_bears_53 : decode cX9_bears 53 = .ok (.getfield 46, 3) := by decide +kernel
theorem dX9_bears_56 : decode cX9_bears 56 = .ok (.if_icmp .ge 54, 3) := by decide +kernel
theorem dX9_bears_59 : decode cX9_bears 59 = .ok (.iload 5, 2) := by decide +kernel
theorem dX9_bears_61 : decode cX9_bears 61 = .ok (.aload_n 0, 1) := by decide +kernel
theorem dX9_bears_62 : decode cX9_bears 62 = .ok (.getfield 116, 3) := by decide +kernel
theorem dX9_bears_65 : decode cX9_bears 65 = .ok (.bipush 6, 2) := by decide +kernel
theorem dX9_bears_67 : decode cX9_bears 67 = .ok (.iload 4, 2) := by decide +kernel
theorem dX9_bears_69 : decode cX9_bears 69 = .ok (.imul, 1) := by decide +kernel
theorem dX9_bears_70 : decode cX9_bears 70 = .ok (.iload 6, 2) := by decide +kernel
theorem dX9_bears_72 : decode cX9_bears 72 = .ok (.iadd, 1) := by decide +kernel
theorem dX9_bears_73 : decode cX9_bears 73 = .ok (.iaload, 1) := by decide +kernel
theorem dX9_bears_74 : decode cX9_bears 74 = .ok (.i2l, 1) := by decide +kernel
theorem dX9_bears_75 : decode cX9_bears 75 = .ok (.iload_n 1, 1) := by decide +kernel
theorem dX9_bears_76 : decode cX9_bears 76 = .ok (.i2l, 1) := by decide +kernel
theorem dX9_bears_77 : decode cX9_bears 77 = .ok (.iload_n 2, 1) := by decide +kernel
theorem dX9_bears_78 : decode cX9_bears 78 = .ok (.i2l, 1) := by decide +kernel
theorem dX9_bears_79 : decode cX9_bears 79 = .ok (.invokestatic 154, 3) := by decide +kernel
theorem dX9_bears_82 : decode cX9_bears 82 = .ok (.ifCond .eq 18, 3) := by decide +kernel
theorem dX9_bears_85 : decode cX9_bears 85 = .ok (.aload_n 0, 1) := by decide +kernel
theorem dX9_bears_86 : decode cX9_bears 86 = .ok (.getfield 7, 3) := by decide +kernel
theorem dX9_bears_89 : decode cX9_bears 89 = .ok (.aload_n 0, 1) := by decide +kernel
theorem dX9_bears_90 : decode cX9_bears 90 = .ok (.getfield 50, 3) := by decide +kernel
theorem dX9_bears_93 : decode cX9_bears 93 = .ok (.iload 6, 2) := by decide +kernel
theorem dX9_bears_95 : decode cX9_bears 95 = .ok (.iaload, 1) := by decide +kernel
theorem dX9_bears_96 : decode cX9_bears 96 = .ok (.iaload, 1) := by decide +kernel
theorem dX9_bears_97 : decode cX9_bears 97 = .ok (.goto 4, 3) := by decide +kernel
theorem dX9_bears_100 : decode cX9_bears 100 = .ok (.iconst 0, 1) := by decide +kernel
theorem dX9_bears_101 : decode cX9_bears 101 = .ok (.iadd, 1) := by decide +kernel
theorem dX9_bears_102 : decode cX9_bears 102 = .ok (.istore 5, 2) := by decide +kernel
theorem dX9_bears_104 : decode cX9_bears 104 = .ok (.iinc 6 1, 3) := by decide +kernel
theorem dX9_bears_107 : decode cX9_bears 107 = .ok (.goto (-57), 3) := by decide +kernel
theorem dX9_bears_110 : decode cX9_bears 110 = .ok (.iload 5, 2) := by decide +kernel
theorem dX9_bears_112 : decode cX9_bears 112 = .ok (.iload_n 3, 1) := by decide +kernel
theorem dX9_bears_113 : decode cX9_bears 113 = .ok (.if_icmp .le 8, 3) := by decide +kernel
theorem dX9_bears_116 : decode cX9_bears 116 = .ok (.iload 5, 2) := by decide +kernel
theorem dX9_bears_118 : decode cX9_bears 118 = .ok (.goto 4, 3) := by decide +kernel
theorem dX9_bears_121 : decode cX9_bears 121 = .ok (.iload_n 3, 1) := by decide +kernel
theorem dX9_bears_122 : decode cX9_bears 122 = .ok (.istore_n 3, 1) := by decide +kernel
theorem dX9_bears_123 : decode cX9_bears 123 = .ok (.iinc 4 1, 3) := by decide +kernel
theorem dX9_bears_126 : decode cX9_bears 126 = .ok (.goto (-89), 3) := by decide +kernel
theorem dX9_bears_129 : decode cX9_bears 129 = .ok (.iload_n 3, 1) := by decide +kernel
theorem dX9_bears_130 : decode cX9_bears 130 = .ok (.ireturn, 1) := by decide +kernel
theorem dX9_journey_0 : decode cX9_journey 0 = .ok (.iload_n 1, 1) := by decide +kernel
theorem dX9_journey_1 : decode cX9_journey 1 = .ok (.i2l, 1) := by decide +kernel
theorem dX9_journey_2 : decode cX9_journey 2 = .ok (.lconst 0, 1) := by decide +kernel
theorem dX9_journey_3 : decode cX9_journey 3 = .ok (.ldc2_w 166, 3) := by decide +kernel
theorem dX9_journey_6 : decode cX9_journey 6 = .ok (.invokestatic 154, 3) := by decide +kernel
theorem dX9_journey_9 : decode cX9_journey 9 = .ok (.ifCond .eq 26, 3) := by decide +kernel
theorem dX9_journey_12 : decode cX9_journey 12 = .ok (.iload_n 2, 1) := by decide +kernel
theorem dX9_journey_13 : decode cX9_journey 13 = .ok (.i2l, 1) := by decide +kernel
theorem dX9_journey_14 : decode cX9_journey 14 = .ok (.iload_n 1, 1) := by decide +kernel
theorem dX9_journey_15 : decode cX9_journey 15 = .ok (.iconst 1, 1) := by decide +kernel
theorem dX9_journey_16 : decode cX9_journey 16 = .ok (.iadd, 1) := by decide +kernel
theorem dX9_journey_17 : decode cX9_journey 17 = .ok (.i2l, 1) := by decide +kernel
theorem dX9_journey_18 : decode cX9_journey 18 = .ok (.ldc2_w 166, 3) := by decide +kernel
theorem dX9_journey_21 : decode cX9_journey 21 = .ok (.invokestatic 154, 3) := by decide +kernel
theorem dX9_journey_24 : decode cX9_journey 24 = .ok (.ifCond .eq 11, 3) := by decide +kernel
theorem dX9_journey_27 : decode cX9_journey 27 = .ok (.iload 5, 2) := by decide +kernel
theorem dX9_journey_29 : decode cX9_journey 29 = .ok (.invokestatic 160, 3) := by decide +kernel
theorem dX9_journey_32 : decode cX9_journey 32 = .ok (.ifCond .ne 6, 3) := by decide +kernel
theorem dX9_journey_35 : decode cX9_journey 35 = .ok (.bipush (-2), 2) := by decide +kernel
theorem dX9_journey_37 : decode cX9_journey 37 = .ok (.ireturn, 1) := by decide +kernel
theorem dX9_journey_38 : decode cX9_journey 38 = .ok (.iload_n 3, 1) := by decide +kernel
theorem dX9_journey_39 : decode cX9_journey 39 = .ok (.i2l, 1) := by decide +kernel
theorem dX9_journey_40 : decode cX9_journey 40 = .ok (.lconst 0, 1) := by decide +kernel
theorem dX9_journey_41 : decode cX9_journey 41 = .ok (.ldc2_w 338, 3) := by decide +kernel
theorem dX9_journey_44 : decode cX9_journey 44 = .ok (.invokestatic 154, 3) := by decide +kernel
theorem dX9_journey_47 : decode cX9_journey 47 = .ok (.ifCond .eq 25, 3) := by decide +kernel
theorem dX9_journey_50 : decode cX9_journey 50 = .ok (.iload 4, 2) := by decide +kernel
theorem dX9_journey_52 : decode cX9_journey 52 = .ok (.i2l, 1) := by decide +kernel
theorem dX9_journey_53 : decode cX9_journey 53 = .ok (.iload_n 3, 1) := by decide +kernel
theorem dX9_journey_54 : decode cX9_journey 54 = .ok (.i2l, 1) := by decide +kernel
theorem dX9_journey_55 : decode cX9_journey 55 = .ok (.ldc2_w 338, 3) := by decide +kernel
theorem dX9_journey_58 : decode cX9_journey 58 = .ok (.invokestatic 154, 3) := by decide +kernel
theorem dX9_journey_61 : decode cX9_journey 61 = .ok (.ifCond .eq 11, 3) := by decide +kernel
theorem dX9_journey_64 : decode cX9_journey 64 = .ok (.iload 4, 2) := by decide +kernel
theorem dX9_journey_66 : decode cX9_journey 66 = .ok (.iload_n 3, 1) := by decide +kernel
theorem dX9_journey_67 : decode cX9_journey 67 = .ok (.isub, 1) := by decide +kernel
theorem dX9_journey_68 : decode cX9_journey 68 = .ok (.iconst 5, 1) := by decide +kernel
theorem dX9_journey_69 : decode cX9_journey 69 = .ok (.if_icmp .le 6, 3) := by decide +kernel
theorem dX9_journey_72 : decode cX9_journey 72 = .ok (.bipush (-3), 2) := by decide +kernel
theorem dX9_journey_74 : decode cX9_journey 74 = .ok (.ireturn, 1) := by decide +kernel
theorem dX9_journey_75 : decode cX9_journey 75 = .ok (.aload_n 0, 1) := by decide +kernel
theorem dX9_journey_76 : decode cX9_journey 76 = .ok (.getfield 340, 3) := by decide +kernel
theorem dX9_journey_79 : decode cX9_journey 79 = .ok (.iconst 5, 1) := by decide +kernel
theorem dX9_journey_80 : decode cX9_journey 80 = .ok (.if_icmp .ne 6, 3) := by decide +kernel
theorem dX9_journey_83 : decode cX9_journey 83 = .ok (.bipush (-5), 2) := by decide +kernel
theorem dX9_journey_85 : decode cX9_journey 85 = .ok (.ireturn, 1) := by decide +kernel
theorem dX9_journey_86 : decode cX9_journey 86 = .ok (.aload_n 0, 1) := by decide +kernel
theorem dX9_journey_87 : decode cX9_journey 87 = .ok (.getfield 74, 3) := by decide +kernel
theorem dX9_journey_90 : decode cX9_journey 90 = .ok (.aload_n 0, 1) := by decide +kernel
theorem dX9_journey_91 : decode cX9_journey 91 = .ok (.getfield 340, 3) := by decide +kernel
theorem dX9_journey_94 : decode cX9_journey 94 = .ok (.iload_n 1, 1) := by decide +kernel
theorem dX9_journey_95 : decode cX9_journey 95 = .ok (.iastore, 1) := by decide +kernel
theorem dX9_journey_96 : decode cX9_journey 96 = .ok (.aload_n 0, 1) := by decide +kernel
theorem dX9_journey_97 : decode cX9_journey 97 = .ok (.getfield 77, 3) := by decide +kernel
theorem dX9_journey_100 : decode cX9_journey 100 = .ok (.aload_n 0, 1) := by decide +kernel
theorem dX9_journey_101 : decode cX9_journey 101 = .ok (.getfield 340, 3) := by decide +kernel
theorem dX9_journey_104 : decode cX9_journey 104 = .ok (.iload_n 2, 1) := by decide +kernel
theorem dX9_journey_105 : decode cX9_journey 105 = .ok (.iastore, 1) := by decide +kernel
theorem dX9_journey_106 : decode cX9_journey 106 = .ok (.aload_n 0, 1) := by decide +kernel
theorem dX9_journey_107 : decode cX9_journey 107 = .ok (.getfield 80, 3) := by decide +kernel
theorem dX9_journey_110 : decode cX9_journey 110 = .ok (.aload_n 0, 1) := by decide +kernel
theorem dX9_journey_111 : decode cX9_journey 111 = .ok (.getfield 340, 3) := by decide +kernel
theorem dX9_journey_114 : decode cX9_journey 114 = .ok (.iload_n 3, 1) := by decide +kernel
theorem dX9_journey_115 : decode cX9_journey 115 = .ok (.iastore, 1) := by decide +kernel
theorem dX9_journey_116 : decode cX9_journey 116 = .ok (.aload_n 0, 1) := by decide +kernel
theorem dX9_journey_117 : decode cX9_journey 117 = .ok (.getfield 83, 3) := by decide +kernel
theorem dX9_journey_120 : decode cX9_journey 120 = .ok (.aload_n 0, 1) := by decide +kernel
theorem dX9_journey_121 : decode cX9_journey 121 = .ok (.getfield 340, 3) := by decide +kernel
theorem dX9_journey_124 : decode cX9_journey 124 = .ok (.iload 4, 2) := by decide +kernel
theorem dX9_journey_126 : decode cX9_journey 126 = .ok (.iastore, 1) := by decide +kernel
theorem dX9_journey_127 : decode cX9_journey 127 = .ok (.aload_n 0, 1) := by decide +kernel
theorem dX9_journey_128 : decode cX9_journey 128 = .ok (.getfield 86, 3) := by decide +kernel
theorem dX9_journey_131 : decode cX9_journey 131 = .ok (.aload_n 0, 1) := by decide +kernel
theorem dX9_journey_132 : decode cX9_journey 132 = .ok (.getfield 340, 3) := by decide +kernel
theorem dX9_journey_135 : decode cX9_journey 135 = .ok (.iload 5, 2) := by decide +kernel
theorem dX9_journey_137 : decode cX9_journey 137 = .ok (.iastore, 1) := by decide +kernel
theorem dX9_journey_138 : decode cX9_journey 138 = .ok (.aload_n 0, 1) := by decide +kernel
theorem dX9_journey_139 : decode cX9_journey 139 = .ok (.dup, 1) := by decide +kernel
theorem dX9_journey_140 : decode cX9_journey 140 = .ok (.getfield 340, 3) := by decide +kernel
theorem dX9_journey_143 : decode cX9_journey 143 = .ok (.iconst 1, 1) := by decide +kernel
theorem dX9_journey_144 : decode cX9_journey 144 = .ok (.iadd, 1) := by decide +kernel
theorem dX9_journey_145 : decode cX9_journey 145 = .ok (.putfield 340, 3) := by decide +kernel
theorem dX9_journey_148 : decode cX9_journey 148 = .ok (.aload_n 0, 1) := by decide +kernel
theorem dX9_journey_149 : decode cX9_journey 149 = .ok (.getfield 340, 3) := by decide +kernel
theorem dX9_journey_152 : decode cX9_journey 152 = .ok (.iconst 1, 1) := by decide +kernel
theorem dX9_journey_153 : decode cX9_journey 153 = .ok (.isub, 1) := by decide +kernel
theorem dX9_journey_154 : decode cX9_journey 154 = .ok (.ireturn, 1) := by decide +kernel
theorem dX9_clear_0 : decode cX9_clear 0 = .ok (.aload_n 0, 1) := by decide +kernel
theorem dX9_clear_1 : decode cX9_clear 1 = .ok (.getfield 340, 3) := by decide +kernel
theorem dX9_clear_4 : decode cX9_clear 4 = .ok (.istore_n 1, 1) := by decide +kernel
theorem dX9_clear_5 : decode cX9_clear 5 = .ok (.aload_n 0, 1) := by decide +kernel
theorem dX9_clear_6 : decode cX9_clear 6 = .ok (.iconst 0, 1) := by decide +kernel
theorem dX9_clear_7 : decode cX9_clear 7 = .ok (.putfield 340, 3) := by decide +kernel
theorem dX9_clear_10 : decode cX9_clear 10 = .ok (.iload_n 1, 1) := by decide +kernel
theorem dX9_clear_11 : decode cX9_clear 11 = .ok (.ireturn, 1) := by decide +kernel
theorem dX9_goes_0 : decode cX9_goes 0 = .ok (.iload_n 2, 1) := by decide +kernel
theorem dX9_goes_1 : decode cX9_goes 1 = .ok (.i2l, 1) := by decide +kernel
theorem dX9_goes_2 : decode cX9_goes 2 = .ok (.aload_n 0, 1) := by decide +kernel
theorem dX9_goes_3 : decode cX9_goes 3 = .ok (.getfield 74, 3) := by decide +kernel
theorem dX9_goes_6 : decode cX9_goes 6 = .ok (.iload_n 1, 1) := by decide +kernel
theorem dX9_goes_7 : decode cX9_goes 7 = .ok (.iaload, 1) := by decide +kernel
theorem dX9_goes_8 : decode cX9_goes 8 = .ok (.i2l, 1) := by decide +kernel
theorem dX9_goes_9 : decode cX9_goes 9 = .ok (.aload_n 0, 1) := by decide +kernel
theorem dX9_goes_10 : decode cX9_goes 10 = .ok (.getfield 77, 3) := by decide +kernel
theorem dX9_goes_13 : decode cX9_goes 13 = .ok (.iload_n 1, 1) := by decide +kernel
theorem dX9_goes_14 : decode cX9_goes 14 = .ok (.iaload, 1) := by decide +kernel
theorem dX9_goes_15 : decode cX9_goes 15 = .ok (.iconst 1, 1) := by decide +kernel
theorem dX9_goes_16 : decode cX9_goes 16 = .ok (.isub, 1) := by decide +kernel
theorem dX9_goes_17 : decode cX9_goes 17 = .ok (.i2l, 1) := by decide +kernel
theorem dX9_goes_18 : decode cX9_goes 18 = .ok (.invokestatic 154, 3) := by decide +kernel
theorem dX9_goes_21 : decode cX9_goes 21 = .ok (.ifCond .eq 26, 3) := by decide +kernel
theorem dX9_goes_24 : decode cX9_goes 24 = .ok (.aload_n 0, 1) := by decide +kernel
theorem dX9_goes_25 : decode cX9_goes 25 = .ok (.getfield 140, 3) := by decide +kernel
theorem dX9_goes_28 : decode cX9_goes 28 = .ok (.iload_n 1, 1) := by decide +kernel
theorem dX9_goes_29 : decode cX9_goes 29 = .ok (.iaload, 1) := by decide +kernel
theorem dX9_goes_30 : decode cX9_goes 30 = .ok (.iload_n 2, 1) := by decide +kernel
theorem dX9_goes_31 : decode cX9_goes 31 = .ok (.iadd, 1) := by decide +kernel
theorem dX9_goes_32 : decode cX9_goes 32 = .ok (.aload_n 0, 1) := by decide +kernel
theorem dX9_goes_33 : decode cX9_goes 33 = .ok (.getfield 74, 3) := by decide +kernel
theorem dX9_goes_36 : decode cX9_goes 36 = .ok (.iload_n 1, 1) := by decide +kernel
theorem dX9_goes_37 : decode cX9_goes 37 = .ok (.iaload, 1) := by decide +kernel
theorem dX9_goes_38 : decode cX9_goes 38 = .ok (.isub, 1) := by decide +kernel
theorem dX9_goes_39 : decode cX9_goes 39 = .ok (.iload_n 3, 1) := by decide +kernel
theorem dX9_goes_40 : decode cX9_goes 40 = .ok (.if_icmp .ne 7, 3) := by decide +kernel
theorem dX9_goes_43 : decode cX9_goes 43 = .ok (.iconst 1, 1) := by decide +kernel
theorem dX9_goes_44 : decode cX9_goes 44 = .ok (.goto 4, 3) := by decide +kernel
theorem dX9_goes_47 : decode cX9_goes 47 = .ok (.iconst 0, 1) := by decide +kernel
theorem dX9_goes_48 : decode cX9_goes 48 = .ok (.ireturn, 1) := by decide +kernel
theorem dX9_leads_0 : decode cX9_leads 0 = .ok (.iconst 1, 1) := by decide +kernel
theorem dX9_leads_1 : decode cX9_leads 1 = .ok (.istore 4, 2) := by decide +kernel
theorem dX9_leads_3 : decode cX9_leads 3 = .ok (.iconst 0, 1) := by decide +kernel
theorem dX9_leads_4 : decode cX9_leads 4 = .ok (.istore 5, 2) := by decide +kernel
theorem dX9_leads_6 : decode cX9_leads 6 = .ok (.iload 5, 2) := by decide +kernel
theorem dX9_leads_8 : decode cX9_leads 8 = .ok (.aload_n 0, 1) := by decide +kernel
theorem dX9_leads_9 : decode cX9_leads 9 = .ok (.getfield 340, 3) := by decide +kernel
theorem dX9_leads_12 : decode cX9_leads 12 = .ok (.if_icmp .ge 80, 3) := by decide +kernel
theorem dX9_leads_15 : decode cX9_leads 15 = .ok (.aload_n 0, 1) := by decide +kernel
theorem dX9_leads_16 : decode cX9_leads 16 = .ok (.getfield 7, 3) := by decide +kernel
theorem dX9_leads_19 : decode cX9_leads 19 = .ok (.aload_n 0, 1) := by decide +kernel
theorem dX9_leads_20 : decode cX9_leads 20 = .ok (.getfield 86, 3) := by decide +kernel
theorem dX9_leads_23 : decode cX9_leads 23 = .ok (.iload 5, 2) := by decide +kernel
theorem dX9_leads_25 : decode cX9_leads 25 = .ok (.iaload, 1) := by decide +kernel
theorem dX9_leads_26 : decode cX9_leads 26 = .ok (.iaload, 1) := by decide +kernel
theorem dX9_leads_27 : decode cX9_leads 27 = .ok (.aload_n 0, 1) := by decide +kernel
theorem dX9_leads_28 : decode cX9_leads 28 = .ok (.getfield 7, 3) := by decide +kernel
theorem dX9_leads_31 : decode cX9_leads 31 = .ok (.aload_n 0, 1) := by decide +kernel
theorem dX9_leads_32 : decode cX9_leads 32 = .ok (.getfield 86, 3) := by decide +kernel
theorem dX9_leads_35 : decode cX9_leads 35 = .ok (.iload_n 1, 1) := by decide +kernel
theorem dX9_leads_36 : decode cX9_leads 36 = .ok (.iaload, 1) := by decide +kernel
theorem dX9_leads_37 : decode cX9_leads 37 = .ok (.iaload, 1) := by decide +kernel
theorem dX9_leads_38 : decode cX9_leads 38 = .ok (.isub, 1) := by decide +kernel
theorem dX9_leads_39 : decode cX9_leads 39 = .ok (.istore 6, 2) := by decide +kernel
theorem dX9_leads_41 : decode cX9_leads 41 = .ok (.iload 4, 2) := by decide +kernel
theorem dX9_leads_43 : decode cX9_leads 43 = .ok (.ifCond .eq 40, 3) := by decide +kernel
theorem dX9_leads_46 : decode cX9_leads 46 = .ok (.iload 5, 2) := by decide +kernel
theorem dX9_leads_48 : decode cX9_leads 48 = .ok (.iload_n 1, 1) := by decide +kernel
theorem dX9_leads_49 : decode cX9_leads 49 = .ok (.if_icmp .eq 30, 3) := by decide +kernel
theorem dX9_leads_52 : decode cX9_leads 52 = .ok (.aload_n 0, 1) := by decide +kernel
theorem dX9_leads_53 : decode cX9_leads 53 = .ok (.iload 5, 2) := by decide +kernel
theorem dX9_leads_55 : decode cX9_leads 55 = .ok (.iload_n 2, 1) := by decide +kernel
theorem dX9_leads_56 : decode cX9_leads 56 = .ok (.iload_n 3, 1) := by decide +kernel
theorem dX9_leads_57 : decode cX9_leads 57 = .ok (.invokevirtual 343, 3) := by decide +kernel
theorem dX9_leads_60 : decode cX9_leads 60 = .ok (.ifCond .eq 19, 3) := by decide +kernel
theorem dX9_leads_63 : decode cX9_leads 63 = .ok (.iload 6, 2) := by decide +kernel
theorem dX9_leads_65 : decode cX9_leads 65 = .ok (.ifCond .gt 18, 3) := by decide +kernel
theorem dX9_leads_68 : decode cX9_leads 68 = .ok (.iload 6, 2) := by decide +kernel
theorem dX9_leads_70 : decode cX9_leads 70 = .ok (.ifCond .ne 9, 3) := by decide +kernel
theorem dX9_leads_73 : decode cX9_leads 73 = .ok (.iload 5, 2) := by decide +kernel
theorem dX9_leads_75 : decode cX9_leads 75 = .ok (.iload_n 1, 1) := by decide +kernel
theorem dX9_leads_76 : decode cX9_leads 76 = .ok (.if_icmp .lt 7, 3) := by decide +kernel
theorem dX9_leads_79 : decode cX9_leads 79 = .ok (.iconst 1, 1) := by decide +kernel
theorem dX9_leads_80 : decode cX9_leads 80 = .ok (.goto 4, 3) := by decide +kernel
theorem dX9_leads_83 : decode cX9_leads 83 = .ok (.iconst 0, 1) := by decide +kernel
theorem dX9_leads_84 : decode cX9_leads 84 = .ok (.istore 4, 2) := by decide +kernel
theorem dX9_leads_86 : decode cX9_leads 86 = .ok (.iinc 5 1, 3) := by decide +kernel
theorem dX9_leads_89 : decode cX9_leads 89 = .ok (.goto (-83), 3) := by decide +kernel
theorem dX9_leads_92 : decode cX9_leads 92 = .ok (.iload 4, 2) := by decide +kernel
theorem dX9_leads_94 : decode cX9_leads 94 = .ok (.ireturn, 1) := by decide +kernel
theorem dX9_burnt_0 : decode cX9_burnt 0 = .ok (.iconst 0, 1) := by decide +kernel
theorem dX9_burnt_1 : decode cX9_burnt 1 = .ok (.istore_n 1, 1) := by decide +kernel
theorem dX9_burnt_2 : decode cX9_burnt 2 = .ok (.iconst 0, 1) := by decide +kernel
theorem dX9_burnt_3 : decode cX9_burnt 3 = .ok (.istore_n 2, 1) := by decide +kernel
theorem dX9_burnt_4 : decode cX9_burnt 4 = .ok (.iload_n 2, 1) := by decide +kernel
theorem dX9_burnt_5 : decode cX9_burnt 5 = .ok (.aload_n 0, 1) := by decide +kernel
theorem dX9_burnt_6 : decode cX9_burnt 6 = .ok (.getfield 340, 3) := by decide +kernel
theorem dX9_burnt_9 : decode cX9_burnt 9 = .ok (.if_icmp .ge 128, 3) := by decide +kernel
theorem dX9_burnt_12 : decode cX9_burnt 12 = .ok (.aload_n 0, 1) := by decide +kernel
theorem dX9_burnt_13 : decode cX9_burnt 13 = .ok (.getfield 7, 3) := by decide +kernel
theorem dX9_burnt_16 : decode cX9_burnt 16 = .ok (.aload_n 0, 1) := by decide +kernel
theorem dX9_burnt_17 : decode cX9_burnt 17 = .ok (.getfield 86, 3) := by decide +kernel
theorem dX9_burnt_20 : decode cX9_burnt 20 = .ok (.iload_n 2, 1) := by decide +kernel
theorem dX9_burnt_21 : decode cX9_burnt 21 = .ok (.iaload, 1) := by decide +kernel
theorem dX9_burnt_22 : decode cX9_burnt 22 = .ok (.iaload, 1) := by decide +kernel
theorem dX9_burnt_23 : decode cX9_burnt 23 = .ok (.istore_n 3, 1) := by decide +kernel
theorem dX9_burnt_24 : decode cX9_burnt 24 = .ok (.iload_n 3, 1) := by decide +kernel
theorem dX9_burnt_25 : decode cX9_burnt 25 = .ok (.aload_n 0, 1) := by decide +kernel
theorem dX9_burnt_26 : decode cX9_burnt 26 = .ok (.getfield 53, 3) := by decide +kernel
theorem dX9_burnt_29 : decode cX9_burnt 29 = .ok (.iconst 3, 1) := by decide +kernel
theorem dX9_burnt_30 : decode cX9_burnt 30 = .ok (.iaload, 1) := by decide +kernel
theorem dX9_burnt_31 : decode cX9_burnt 31 = .ok (.isub, 1) := by decide +kernel
theorem dX9_burnt_32 : decode cX9_burnt 32 = .ok (.istore 4, 2) := by decide +kernel
theorem dX9_burnt_34 : decode cX9_burnt 34 = .ok (.iload 4, 2) := by decide +kernel
theorem dX9_burnt_36 : decode cX9_burnt 36 = .ok (.iconst 1, 1) := by decide +kernel
theorem dX9_burnt_37 : decode cX9_burnt 37 = .ok (.if_icmp .ge 7, 3) := by decide +kernel
theorem dX9_burnt_40 : decode cX9_burnt 40 = .ok (.iconst 1, 1) := by decide +kernel
theorem dX9_burnt_41 : decode cX9_burnt 41 = .ok (.goto 5, 3) := by decide +kernel
theorem dX9_burnt_44 : decode cX9_burnt 44 = .ok (.iload 4, 2) := by decide +kernel
theorem dX9_burnt_46 : decode cX9_burnt 46 = .ok (.istore 4, 2) := by decide +kernel
theorem dX9_burnt_48 : decode cX9_burnt 48 = .ok (.aload_n 0, 1) := by decide +kernel
theorem dX9_burnt_49 : decode cX9_burnt 49 = .ok (.getfield 74, 3) := by decide +kernel
theorem dX9_burnt_52 : decode cX9_burnt 52 = .ok (.iload_n 2, 1) := by decide +kernel
theorem dX9_burnt_53 : decode cX9_burnt 53 = .ok (.iaload, 1) := by decide +kernel
theorem dX9_burnt_54 : decode cX9_burnt 54 = .ok (.istore 5, 2) := by decide +kernel
theorem dX9_burnt_56 : decode cX9_burnt 56 = .ok (.iload 5, 2) := by decide +kernel
theorem dX9_burnt_58 : decode cX9_burnt 58 = .ok (.aload_n 0, 1) := by decide +kernel
theorem dX9_burnt_59 : decode cX9_burnt 59 = .ok (.getfield 77, 3) := by decide +kernel
theorem dX9_burnt_62 : decode cX9_burnt 62 = .ok (.iload_n 2, 1) := by decide +kernel
theorem dX9_burnt_63 : decode cX9_burnt 63 = .ok (.iaload, 1) := by decide +kernel
theorem dX9_burnt_64 : decode cX9_burnt 64 = .ok (.if_icmp .ge 44, 3) := by decide +kernel
theorem dX9_burnt_67 : decode cX9_burnt 67 = .ok (.iload_n 1, 1) := by decide +kernel
theorem dX9_burnt_68 : decode cX9_burnt 68 = .ok (.aload_n 0, 1) := by decide +kernel
theorem dX9_burnt_69 : decode cX9_burnt 69 = .ok (.iload_n 2, 1) := by decide +kernel
theorem dX9_burnt_70 : decode cX9_burnt 70 = .ok (.iload 5, 2) := by decide +kernel
theorem dX9_burnt_72 : decode cX9_burnt 72 = .ok (.aload_n 0, 1) := by decide +kernel
theorem dX9_burnt_73 : decode cX9_burnt 73 = .ok (.getfield 140, 3) := by decide +kernel
theorem dX9_burnt_76 : decode cX9_burnt 76 = .ok (.iload_n 2, 1) := by decide +kernel
theorem dX9_burnt_77 : decode cX9_burnt 77 = .ok (.iaload, 1) := by decide +kernel
theorem dX9_burnt_78 : decode cX9_burnt 78 = .ok (.iload 5, 2) := by decide +kernel
theorem dX9_burnt_80 : decode cX9_burnt 80 = .ok (.iadd, 1) := by decide +kernel
theorem dX9_burnt_81 : decode cX9_burnt 81 = .ok (.aload_n 0, 1) := by decide +kernel
theorem dX9_burnt_82 : decode cX9_burnt 82 = .ok (.getfield 74, 3) := by decide +kernel
theorem dX9_burnt_85 : decode cX9_burnt 85 = .ok (.iload_n 2, 1) := by decide +kernel
theorem dX9_burnt_86 : decode cX9_burnt 86 = .ok (.iaload, 1) := by decide +kernel
theorem dX9_burnt_87 : decode cX9_burnt 87 = .ok (.isub, 1) := by decide +kernel
theorem dX9_burnt_88 : decode cX9_burnt 88 = .ok (.invokevirtual 347, 3) := by decide +kernel
theorem dX9_burnt_91 : decode cX9_burnt 91 = .ok (.ifCond .eq 7, 3) := by decide +kernel
theorem dX9_burnt_94 : decode cX9_burnt 94 = .ok (.iload_n 3, 1) := by decide +kernel
theorem dX9_burnt_95 : decode cX9_burnt 95 = .ok (.goto 5, 3) := by decide +kernel
theorem dX9_burnt_98 : decode cX9_burnt 98 = .ok (.iload 4, 2) := by decide +kernel
theorem dX9_burnt_100 : decode cX9_burnt 100 = .ok (.iadd, 1) := by decide +kernel
theorem dX9_burnt_101 : decode cX9_burnt 101 = .ok (.istore_n 1, 1) := by decide +kernel
theorem dX9_burnt_102 : decode cX9_burnt 102 = .ok (.iinc 5 1, 3) := by decide +kernel
theorem dX9_burnt_105 : decode cX9_burnt 105 = .ok (.goto (-49), 3) := by decide +kernel
theorem dX9_burnt_108 : decode cX9_burnt 108 = .ok (.iload_n 1, 1) := by decide +kernel
theorem dX9_burnt_109 : decode cX9_burnt 109 = .ok (.aload_n 0, 1) := by decide +kernel
theorem dX9_burnt_110 : decode cX9_burnt 110 = .ok (.getfield 53, 3) := by decide +kernel
theorem dX9_burnt_113 : decode cX9_burnt 113 = .ok (.iconst 4, 1) := by decide +kernel
theorem dX9_burnt_114 : decode cX9_burnt 114 = .ok (.iaload, 1) := by decide +kernel
theorem dX9_burnt_115 : decode cX9_burnt 115 = .ok (.aload_n 0, 1) := by decide +kernel
theorem dX9_burnt_116 : decode cX9_burnt 116 = .ok (.getfield 140, 3) := by decide +kernel
theorem dX9_burnt_119 : decode cX9_burnt 119 = .ok (.iload_n 2, 1) := by decide +kernel
theorem dX9_burnt_120 : decode cX9_burnt 120 = .ok (.iaload, 1) := by decide +kernel
theorem dX9_burnt_121 : decode cX9_burnt 121 = .ok (.aload_n 0, 1) := by decide +kernel
theorem dX9_burnt_122 : decode cX9_burnt 122 = .ok (.getfield 80, 3) := by decide +kernel
theorem dX9_burnt_125 : decode cX9_burnt 125 = .ok (.iload_n 2, 1) := by decide +kernel
theorem dX9_burnt_126 : decode cX9_burnt 126 = .ok (.iaload, 1) := by decide +kernel
theorem dX9_burnt_127 : decode cX9_burnt 127 = .ok (.isub, 1) := by decide +kernel
theorem dX9_burnt_128 : decode cX9_burnt 128 = .ok (.imul, 1) := by decide +kernel
theorem dX9_burnt_129 : decode cX9_burnt 129 = .ok (.iadd, 1) := by decide +kernel
theorem dX9_burnt_130 : decode cX9_burnt 130 = .ok (.istore_n 1, 1) := by decide +kernel
theorem dX9_burnt_131 : decode cX9_burnt 131 = .ok (.iinc 2 1, 3) := by decide +kernel
theorem dX9_burnt_134 : decode cX9_burnt 134 = .ok (.goto (-130), 3) := by decide +kernel
theorem dX9_burnt_137 : decode cX9_burnt 137 = .ok (.iload_n 1, 1) := by decide +kernel
theorem dX9_burnt_138 : decode cX9_burnt 138 = .ok (.ireturn, 1) := by decide +kernel
theorem dX9_best_0 : decode cX9_best 0 = .ok (.iload_n 1, 1) := by decide +kernel
theorem dX9_best_1 : decode cX9_best 1 = .ok (.iconst (-1), 1) := by decide +kernel
theorem dX9_best_2 : decode cX9_best 2 = .ok (.if_icmp .ge 6, 3) := by decide +kernel
theorem dX9_best_5 : decode cX9_best 5 = .ok (.bipush (-3), 2) := by decide +kernel
theorem dX9_best_7 : decode cX9_best 7 = .ok (.ireturn, 1) := by decide +kernel
theorem dX9_best_8 : decode cX9_best 8 = .ok (.iload_n 1, 1) := by decide +kernel
theorem dX9_best_9 : decode cX9_best 9 = .ok (.aload_n 0, 1) := by decide +kernel
theorem dX9_best_10 : decode cX9_best 10 = .ok (.getfield 340, 3) := by decide +kernel
theorem dX9_best_13 : decode cX9_best 13 = .ok (.if_icmp .lt 5, 3) := by decide +kernel
theorem dX9_best_16 : decode cX9_best 16 = .ok (.iconst (-1), 1) := by decide +kernel
theorem dX9_best_17 : decode cX9_best 17 = .ok (.ireturn, 1) := by decide +kernel
theorem dX9_best_18 : decode cX9_best 18 = .ok (.iconst 0, 1) := by decide +kernel
theorem dX9_best_19 : decode cX9_best 19 = .ok (.istore_n 2, 1) := by decide +kernel
theorem dX9_best_20 : decode cX9_best 20 = .ok (.iload_n 2, 1) := by decide +kernel
theorem dX9_best_21 : decode cX9_best 21 = .ok (.aload_n 0, 1) := by decide +kernel
theorem dX9_best_22 : decode cX9_best 22 = .ok (.getfield 340, 3) := by decide +kernel
theorem dX9_best_25 : decode cX9_best 25 = .ok (.if_icmp .ge 21, 3) := by decide +kernel
theorem dX9_best_28 : decode cX9_best 28 = .ok (.aload_n 0, 1) := by decide +kernel
theorem dX9_best_29 : decode cX9_best 29 = .ok (.getfield 140, 3) := by decide +kernel
theorem dX9_best_32 : decode cX9_best 32 = .ok (.iload_n 2, 1) := by decide +kernel
theorem dX9_best_33 : decode cX9_best 33 = .ok (.aload_n 0, 1) := by decide +kernel
theorem dX9_best_34 : decode cX9_best 34 = .ok (.getfield 80, 3) := by decide +kernel
theorem dX9_best_37 : decode cX9_best 37 = .ok (.iload_n 2, 1) := by decide +kernel
theorem dX9_best_38 : decode cX9_best 38 = .ok (.iaload, 1) := by decide +kernel
theorem dX9_best_39 : decode cX9_best 39 = .ok (.iastore, 1) := by decide +kernel
theorem dX9_best_40 : decode cX9_best 40 = .ok (.iinc 2 1, 3) := by decide +kernel
theorem dX9_best_43 : decode cX9_best 43 = .ok (.goto (-23), 3) := by decide +kernel
theorem dX9_best_46 : decode cX9_best 46 = .ok (.ldc_w 322, 3) := by decide +kernel
theorem dX9_best_49 : decode cX9_best 49 = .ok (.istore_n 2, 1) := by decide +kernel
theorem dX9_best_50 : decode cX9_best 50 = .ok (.iconst 1, 1) := by decide +kernel
theorem dX9_best_51 : decode cX9_best 51 = .ok (.istore_n 3, 1) := by decide +kernel
theorem dX9_best_52 : decode cX9_best 52 = .ok (.iload_n 3, 1) := by decide +kernel
theorem dX9_best_53 : decode cX9_best 53 = .ok (.ifCond .eq 141, 3) := by decide +kernel
theorem dX9_best_56 : decode cX9_best 56 = .ok (.aload_n 0, 1) := by decide +kernel
theorem dX9_best_57 : decode cX9_best 57 = .ok (.invokevirtual 350, 3) := by decide +kernel
theorem dX9_best_60 : decode cX9_best 60 = .ok (.istore 4, 2) := by decide +kernel
theorem dX9_best_62 : decode cX9_best 62 = .ok (.iload 4, 2) := by decide +kernel
theorem dX9_best_64 : decode cX9_best 64 = .ok (.iload_n 2, 1) := by decide +kernel
theorem dX9_best_65 : decode cX9_best 65 = .ok (.if_icmp .ge 38, 3) := by decide +kernel
theorem dX9_best_68 : decode cX9_best 68 = .ok (.iload 4, 2) := by decide +kernel
theorem dX9_best_70 : decode cX9_best 70 = .ok (.istore_n 2, 1) := by decide +kernel
theorem dX9_best_71 : decode cX9_best 71 = .ok (.iconst 0, 1) := by decide +kernel
theorem dX9_best_72 : decode cX9_best 72 = .ok (.istore 5, 2) := by decide +kernel
theorem dX9_best_74 : decode cX9_best 74 = .ok (.iload 5, 2) := by decide +kernel
theorem dX9_best_76 : decode cX9_best 76 = .ok (.aload_n 0, 1) := by decide +kernel
theorem dX9_best_77 : decode cX9_best 77 = .ok (.getfield 340, 3) := by decide +kernel
theorem dX9_best_80 : decode cX9_best 80 = .ok (.if_icmp .ge 23, 3) := by decide +kernel
theorem dX9_best_83 : decode cX9_best 83 = .ok (.aload_n 0, 1) := by decide +kernel
theorem dX9_best_84 : decode cX9_best 84 = .ok (.getfield 143, 3) := by decide +kernel
theorem dX9_best_87 : decode cX9_best 87 = .ok (.iload 5, 2) := by decide +kernel
theorem dX9_best_89 : decode cX9_best 89 = .ok (.aload_n 0, 1) := by decide +kernel
theorem dX9_best_90 : decode cX9_best 90 = .ok (.getfield 140, 3) := by decide +kernel
theorem dX9_best_93 : decode cX9_best 93 = .ok (.iload 5, 2) := by decide +kernel
theorem dX9_best_95 : decode cX9_best 95 = .ok (.iaload, 1) := by decide +kernel
theorem dX9_best_96 : decode cX9_best 96 = .ok (.iastore, 1) := by decide +kernel
theorem dX9_best_97 : decode cX9_best 97 = .ok (.iinc 5 1, 3) := by decide +kernel
theorem dX9_best_100 : decode cX9_best 100 = .ok (.goto (-26), 3) := by decide +kernel
theorem dX9_best_103 : decode cX9_best 103 = .ok (.aload_n 0, 1) := by decide +kernel
theorem dX9_best_104 : decode cX9_best 104 = .ok (.getfield 340, 3) := by decide +kernel
theorem dX9_best_107 : decode cX9_best 107 = .ok (.iconst 1, 1) := by decide +kernel
theorem dX9_best_108 : decode cX9_best 108 = .ok (.isub, 1) := by decide +kernel
theorem dX9_best_109 : decode cX9_best 109 = .ok (.istore 5, 2) := by decide +kernel
theorem dX9_best_111 : decode cX9_best 111 = .ok (.iload 5, 2) := by decide +kernel
theorem dX9_best_113 : decode cX9_best 113 = .ok (.ifCond .lt 40, 3) := by decide +kernel
theorem dX9_best_116 : decode cX9_best 116 = .ok (.aload_n 0, 1) := by decide +kernel
theorem dX9_best_117 : decode cX9_best 117 = .ok (.getfield 140, 3) := by decide +kernel
theorem dX9_best_120 : decode cX9_best 120 = .ok (.iload 5, 2) := by decide +kernel
theorem dX9_best_122 : decode cX9_best 122 = .ok (.iaload, 1) := by decide +kernel
theorem dX9_best_123 : decode cX9_best 123 = .ok (.aload_n 0, 1) := by decide +kernel
theorem dX9_best_124 : decode cX9_best 124 = .ok (.getfield 83, 3) := by decide +kernel
theorem dX9_best_127 : decode cX9_best 127 = .ok (.iload 5, 2) := by decide +kernel
theorem dX9_best_129 : decode cX9_best 129 = .ok (.iaload, 1) := by decide +kernel
theorem dX9_best_130 : decode cX9_best 130 = .ok (.if_icmp .ne 23, 3) := by decide +kernel
theorem dX9_best_133 : decode cX9_best 133 = .ok (.aload_n 0, 1) := by decide +kernel
theorem dX9_best_134 : decode cX9_best 134 = .ok (.getfield 140, 3) := by decide +kernel
theorem dX9_best_137 : decode cX9_best 137 = .ok (.iload 5, 2) := by decide +kernel
theorem dX9_best_139 : decode cX9_best 139 = .ok (.aload_n 0, 1) := by decide +kernel
theorem dX9_best_140 : decode cX9_best 140 = .ok (.getfield 80, 3) := by decide +kernel
theorem dX9_best_143 : decode cX9_best 143 = .ok (.iload 5, 2) := by decide +kernel
theorem dX9_best_145 : decode cX9_best 145 = .ok (.iaload, 1) := by decide +kernel
theorem dX9_best_146 : decode cX9_best 146 = .ok (.iastore, 1) := by decide +kernel
theorem dX9_best_147 : decode cX9_best 147 = .ok (.iinc 5 (-1), 3) := by decide +kernel
theorem dX9_best_150 : decode cX9_best 150 = .ok (.goto (-39), 3) := by decide +kernel
theorem dX9_best_153 : decode cX9_best 153 = .ok (.iload 5, 2) := by decide +kernel
theorem dX9_best_155 : decode cX9_best 155 = .ok (.ifCond .lt 7, 3) := by decide +kernel
theorem dX9_best_158 : decode cX9_best 158 = .ok (.iconst 1, 1) := by decide +kernel
theorem dX9_best_159 : decode cX9_best 159 = .ok (.goto 4, 3) := by decide +kernel
theorem dX9_best_162 : decode cX9_best 162 = .ok (.iconst 0, 1) := by decide +kernel
theorem dX9_best_163 : decode cX9_best 163 = .ok (.istore_n 3, 1) := by decide +kernel
theorem dX9_best_164 : decode cX9_best 164 = .ok (.aload_n 0, 1) := by decide +kernel
theorem dX9_best_165 : decode cX9_best 165 = .ok (.getfield 140, 3) := by decide +kernel
theorem dX9_best_168 : decode cX9_best 168 = .ok (.iload_n 3, 1) := by decide +kernel
theorem dX9_best_169 : decode cX9_best 169 = .ok (.ifCond .eq 8, 3) := by decide +kernel
theorem dX9_best_172 : decode cX9_best 172 = .ok (.iload 5, 2) := by decide +kernel
theorem dX9_best_174 : decode cX9_best 174 = .ok (.goto 4, 3) := by decide +kernel
theorem dX9_best_177 : decode cX9_best 177 = .ok (.iconst 0, 1) := by decide +kernel
theorem dX9_best_178 : decode cX9_best 178 = .ok (.dup2, 1) := by decide +kernel
theorem dX9_best_179 : decode cX9_best 179 = .ok (.iaload, 1) := by decide +kernel
theorem dX9_best_180 : decode cX9_best 180 = .ok (.iload_n 3, 1) := by decide +kernel
theorem dX9_best_181 : decode cX9_best 181 = .ok (.ifCond .eq 7, 3) := by decide +kernel
theorem dX9_best_184 : decode cX9_best 184 = .ok (.iconst 1, 1) := by decide +kernel
theorem dX9_best_185 : decode cX9_best 185 = .ok (.goto 4, 3) := by decide +kernel
theorem dX9_best_188 : decode cX9_best 188 = .ok (.iconst 0, 1) := by decide +kernel
theorem dX9_best_189 : decode cX9_best 189 = .ok (.iadd, 1) := by decide +kernel
theorem dX9_best_190 : decode cX9_best 190 = .ok (.iastore, 1) := by decide +kernel
theorem dX9_best_191 : decode cX9_best 191 = .ok (.goto (-139), 3) := by decide +kernel
theorem dX9_best_194 : decode cX9_best 194 = .ok (.iload_n 1, 1) := by decide +kernel
theorem dX9_best_195 : decode cX9_best 195 = .ok (.iconst (-1), 1) := by decide +kernel
theorem dX9_best_196 : decode cX9_best 196 = .ok (.if_icmp .ne 7, 3) := by decide +kernel
theorem dX9_best_199 : decode cX9_best 199 = .ok (.iload_n 2, 1) := by decide +kernel
theorem dX9_best_200 : decode cX9_best 200 = .ok (.goto 9, 3) := by decide +kernel
theorem dX9_best_203 : decode cX9_best 203 = .ok (.aload_n 0, 1) := by decide +kernel
theorem dX9_best_204 : decode cX9_best 204 = .ok (.getfield 143, 3) := by decide +kernel
theorem dX9_best_207 : decode cX9_best 207 = .ok (.iload_n 1, 1) := by decide +kernel
theorem dX9_best_208 : decode cX9_best 208 = .ok (.iaload, 1) := by decide +kernel
theorem dX9_best_209 : decode cX9_best 209 = .ok (.ireturn, 1) := by decide +kernel
theorem dX9_judge_0 : decode cX9_judge 0 = .ok (.iconst 0, 1) := by decide +kernel
theorem dX9_judge_1 : decode cX9_judge 1 = .ok (.istore_n 2, 1) := by decide +kernel
theorem dX9_judge_2 : decode cX9_judge 2 = .ok (.iload_n 2, 1) := by decide +kernel
theorem dX9_judge_3 : decode cX9_judge 3 = .ok (.aload_n 0, 1) := by decide +kernel
theorem dX9_judge_4 : decode cX9_judge 4 = .ok (.getfield 340, 3) := by decide +kernel
theorem dX9_judge_7 : decode cX9_judge 7 = .ok (.if_icmp .ge 48, 3) := by decide +kernel
theorem dX9_judge_10 : decode cX9_judge 10 = .ok (.aload_n 0, 1) := by decide +kernel
theorem dX9_judge_11 : decode cX9_judge 11 = .ok (.getfield 140, 3) := by decide +kernel
theorem dX9_judge_14 : decode cX9_judge 14 = .ok (.iload_n 2, 1) := by decide +kernel
theorem dX9_judge_15 : decode cX9_judge 15 = .ok (.aload_n 0, 1) := by decide +kernel
theorem dX9_judge_16 : decode cX9_judge 16 = .ok (.getfield 80, 3) := by decide +kernel
theorem dX9_judge_19 : decode cX9_judge 19 = .ok (.iload_n 2, 1) := by decide +kernel
theorem dX9_judge_20 : decode cX9_judge 20 = .ok (.iaload, 1) := by decide +kernel
theorem dX9_judge_21 : decode cX9_judge 21 = .ok (.iload_n 1, 1) := by decide +kernel
theorem dX9_judge_22 : decode cX9_judge 22 = .ok (.iconst 3, 1) := by decide +kernel
theorem dX9_judge_23 : decode cX9_judge 23 = .ok (.iload_n 2, 1) := by decide +kernel
theorem dX9_judge_24 : decode cX9_judge 24 = .ok (.imul, 1) := by decide +kernel
theorem dX9_judge_25 : decode cX9_judge 25 = .ok (.ishr, 1) := by decide +kernel
theorem dX9_judge_26 : decode cX9_judge 26 = .ok (.bipush 7, 2) := by decide +kernel
theorem dX9_judge_28 : decode cX9_judge 28 = .ok (.iand, 1) := by decide +kernel
theorem dX9_judge_29 : decode cX9_judge 29 = .ok (.iadd, 1) := by decide +kernel
theorem dX9_judge_30 : decode cX9_judge 30 = .ok (.iastore, 1) := by decide +kernel
theorem dX9_judge_31 : decode cX9_judge 31 = .ok (.aload_n 0, 1) := by decide +kernel
theorem dX9_judge_32 : decode cX9_judge 32 = .ok (.getfield 140, 3) := by decide +kernel
theorem dX9_judge_35 : decode cX9_judge 35 = .ok (.iload_n 2, 1) := by decide +kernel
theorem dX9_judge_36 : decode cX9_judge 36 = .ok (.iaload, 1) := by decide +kernel
theorem dX9_judge_37 : decode cX9_judge 37 = .ok (.aload_n 0, 1) := by decide +kernel
theorem dX9_judge_38 : decode cX9_judge 38 = .ok (.getfield 83, 3) := by decide +kernel
theorem dX9_judge_41 : decode cX9_judge 41 = .ok (.iload_n 2, 1) := by decide +kernel
theorem dX9_judge_42 : decode cX9_judge 42 = .ok (.iaload, 1) := by decide +kernel
theorem dX9_judge_43 : decode cX9_judge 43 = .ok (.if_icmp .le 6, 3) := by decide +kernel
theorem dX9_judge_46 : decode cX9_judge 46 = .ok (.bipush (-3), 2) := by decide +kernel
theorem dX9_judge_48 : decode cX9_judge 48 = .ok (.ireturn, 1) := by decide +kernel
theorem dX9_judge_49 : decode cX9_judge 49 = .ok (.iinc 2 1, 3) := by decide +kernel
theorem dX9_judge_52 : decode cX9_judge 52 = .ok (.goto (-50), 3) := by decide +kernel
theorem dX9_judge_55 : decode cX9_judge 55 = .ok (.aload_n 0, 1) := by decide +kernel
theorem dX9_judge_56 : decode cX9_judge 56 = .ok (.invokevirtual 350, 3) := by decide +kernel
theorem dX9_judge_59 : decode cX9_judge 59 = .ok (.ireturn, 1) := by decide +kernel
theorem dX9_spared_0 : decode cX9_spared 0 = .ok (.iload_n 1, 1) := by decide +kernel
theorem dX9_spared_1 : decode cX9_spared 1 = .ok (.invokestatic 353, 3) := by decide +kernel
theorem dX9_spared_4 : decode cX9_spared 4 = .ok (.ifCond .eq 15, 3) := by decide +kernel
theorem dX9_spared_7 : decode cX9_spared 7 = .ok (.iload_n 2, 1) := by decide +kernel
theorem dX9_spared_8 : decode cX9_spared 8 = .ok (.invokestatic 353, 3) := by decide +kernel
theorem dX9_spared_11 : decode cX9_spared 11 = .ok (.ifCond .eq 8, 3) := by decide +kernel
theorem dX9_spared_14 : decode cX9_spared 14 = .ok (.iload_n 1, 1) := by decide +kernel
theorem dX9_spared_15 : decode cX9_spared 15 = .ok (.iload_n 2, 1) := by decide +kernel
theorem dX9_spared_16 : decode cX9_spared 16 = .ok (.if_icmp .ne 6, 3) := by decide +kernel
theorem dX9_spared_19 : decode cX9_spared 19 = .ok (.bipush (-2), 2) := by decide +kernel
theorem dX9_spared_21 : decode cX9_spared 21 = .ok (.ireturn, 1) := by decide +kernel
theorem dX9_spared_22 : decode cX9_spared 22 = .ok (.iload_n 3, 1) := by decide +kernel
theorem dX9_spared_23 : decode cX9_spared 23 = .ok (.i2l, 1) := by decide +kernel
theorem dX9_spared_24 : decode cX9_spared 24 = .ok (.lconst 0, 1) := by decide +kernel
theorem dX9_spared_25 : decode cX9_spared 25 = .ok (.ldc2_w 250, 3) := by decide +kernel
theorem dX9_spared_28 : decode cX9_spared 28 = .ok (.invokestatic 154, 3) := by decide +kernel
theorem dX9_spared_31 : decode cX9_spared 31 = .ok (.ifCond .ne 6, 3) := by decide +kernel
theorem dX9_spared_34 : decode cX9_spared 34 = .ok (.bipush (-3), 2) := by decide +kernel
theorem dX9_spared_36 : decode cX9_spared 36 = .ok (.ireturn, 1) := by decide +kernel
theorem dX9_spared_37 : decode cX9_spared 37 = .ok (.aload_n 0, 1) := by decide +kernel
theorem dX9_spared_38 : decode cX9_spared 38 = .ok (.getfield 89, 3) := by decide +kernel
theorem dX9_spared_41 : decode cX9_spared 41 = .ok (.bipush 6, 2) := by decide +kernel
theorem dX9_spared_43 : decode cX9_spared 43 = .ok (.iload_n 1, 1) := by decide +kernel
theorem dX9_spared_44 : decode cX9_spared 44 = .ok (.imul, 1) := by decide +kernel
theorem dX9_spared_45 : decode cX9_spared 45 = .ok (.iload_n 2, 1) := by decide +kernel
theorem dX9_spared_46 : decode cX9_spared 46 = .ok (.iadd, 1) := by decide +kernel
theorem dX9_spared_47 : decode cX9_spared 47 = .ok (.iaload, 1) := by decide +kernel
theorem dX9_spared_48 : decode cX9_spared 48 = .ok (.istore 4, 2) := by decide +kernel
theorem dX9_spared_50 : decode cX9_spared 50 = .ok (.aload_n 0, 1) := by decide +kernel
theorem dX9_spared_51 : decode cX9_spared 51 = .ok (.getfield 89, 3) := by decide +kernel
theorem dX9_spared_54 : decode cX9_spared 54 = .ok (.bipush 6, 2) := by decide +kernel
theorem dX9_spared_56 : decode cX9_spared 56 = .ok (.iload_n 1, 1) := by decide +kernel
theorem dX9_spared_57 : decode cX9_spared 57 = .ok (.imul, 1) := by decide +kernel
theorem dX9_spared_58 : decode cX9_spared 58 = .ok (.iload_n 2, 1) := by decide +kernel
theorem dX9_spared_59 : decode cX9_spared 59 = .ok (.iadd, 1) := by decide +kernel
theorem dX9_spared_60 : decode cX9_spared 60 = .ok (.iload_n 3, 1) := by decide +kernel
theorem dX9_spared_61 : decode cX9_spared 61 = .ok (.iastore, 1) := by decide +kernel
theorem dX9_spared_62 : decode cX9_spared 62 = .ok (.iload 4, 2) := by decide +kernel
theorem dX9_spared_64 : decode cX9_spared 64 = .ok (.ireturn, 1) := by decide +kernel
theorem dX9_sparedIn_0 : decode cX9_sparedIn 0 = .ok (.iconst 0, 1) := by decide +kernel
theorem dX9_sparedIn_1 : decode cX9_sparedIn 1 = .ok (.istore_n 2, 1) := by decide +kernel
theorem dX9_sparedIn_2 : decode cX9_sparedIn 2 = .ok (.iconst (-1), 1) := by decide +kernel
theorem dX9_sparedIn_3 : decode cX9_sparedIn 3 = .ok (.istore_n 3, 1) := by decide +kernel
theorem dX9_sparedIn_4 : decode cX9_sparedIn 4 = .ok (.iconst 0, 1) := by decide +kernel
theorem dX9_sparedIn_5 : decode cX9_sparedIn 5 = .ok (.istore 4, 2) := by decide +kernel
theorem dX9_sparedIn_7 : decode cX9_sparedIn 7 = .ok (.iload 4, 2) := by decide +kernel
theorem dX9_sparedIn_9 : decode cX9_sparedIn 9 = .ok (.bipush 6, 2) := by decide +kernel
theorem dX9_sparedIn_11 : decode cX9_sparedIn 11 = .ok (.if_icmp .ge 46, 3) := by decide +kernel
theorem dX9_sparedIn_14 : decode cX9_sparedIn 14 = .ok (.iload_n 1, 1) := by decide +kernel
theorem dX9_sparedIn_15 : decode cX9_sparedIn 15 = .ok (.iload 4, 2) := by decide +kernel
theorem dX9_sparedIn_17 : decode cX9_sparedIn 17 = .ok (.ishr, 1) := by decide +kernel
theorem dX9_sparedIn_18 : decode cX9_sparedIn 18 = .ok (.iconst 1, 1) := by decide +kernel
theorem dX9_sparedIn_19 : decode cX9_sparedIn 19 = .ok (.iand, 1) := by decide +kernel
theorem dX9_sparedIn_20 : decode cX9_sparedIn 20 = .ok (.iconst 1, 1) := by decide +kernel
theorem dX9_sparedIn_21 : decode cX9_sparedIn 21 = .ok (.if_icmp .ne 30, 3) := by decide +kernel
theorem dX9_sparedIn_24 : decode cX9_sparedIn 24 = .ok (.iload_n 2, 1) := by decide +kernel
theorem dX9_sparedIn_25 : decode cX9_sparedIn 25 = .ok (.iload_n 3, 1) := by decide +kernel
theorem dX9_sparedIn_26 : decode cX9_sparedIn 26 = .ok (.iconst (-1), 1) := by decide +kernel
theorem dX9_sparedIn_27 : decode cX9_sparedIn 27 = .ok (.if_icmp .ne 7, 3) := by decide +kernel
theorem dX9_sparedIn_30 : decode cX9_sparedIn 30 = .ok (.iconst 0, 1) := by decide +kernel
theorem dX9_sparedIn_31 : decode cX9_sparedIn 31 = .ok (.goto 15, 3) := by decide +kernel
theorem dX9_sparedIn_34 : decode cX9_sparedIn 34 = .ok (.aload_n 0, 1) := by decide +kernel
theorem dX9_sparedIn_35 : decode cX9_sparedIn 35 = .ok (.getfield 89, 3) := by decide +kernel
theorem dX9_sparedIn_38 : decode cX9_sparedIn 38 = .ok (.bipush 6, 2) := by decide +kernel
theorem dX9_sparedIn_40 : decode cX9_sparedIn 40 = .ok (.iload 4, 2) := by decide +kernel
theorem dX9_sparedIn_42 : decode cX9_sparedIn 42 = .ok (.imul, 1) := by decide +kernel
theorem dX9_sparedIn_43 : decode cX9_sparedIn 43 = .ok (.iload_n 3, 1) := by decide +kernel
theorem dX9_sparedIn_44 : decode cX9_sparedIn 44 = .ok (.iadd, 1) := by decide +kernel
theorem dX9_sparedIn_45 : decode cX9_sparedIn 45 = .ok (.iaload, 1) := by decide +kernel
theorem dX9_sparedIn_46 : decode cX9_sparedIn 46 = .ok (.iadd, 1) := by decide +kernel
theorem dX9_sparedIn_47 : decode cX9_sparedIn 47 = .ok (.istore_n 2, 1) := by decide +kernel
theorem dX9_sparedIn_48 : decode cX9_sparedIn 48 = .ok (.iload 4, 2) := by decide +kernel
theorem dX9_sparedIn_50 : decode cX9_sparedIn 50 = .ok (.istore_n 3, 1) := by decide +kernel
theorem dX9_sparedIn_51 : decode cX9_sparedIn 51 = .ok (.iinc 4 1, 3) := by decide +kernel
theorem dX9_sparedIn_54 : decode cX9_sparedIn 54 = .ok (.goto (-47), 3) := by decide +kernel
theorem dX9_sparedIn_57 : decode cX9_sparedIn 57 = .ok (.iload_n 2, 1) := by decide +kernel
theorem dX9_sparedIn_58 : decode cX9_sparedIn 58 = .ok (.ireturn, 1) := by decide +kernel
theorem dX9_together_0 : decode cX9_together 0 = .ok (.iload_n 1, 1) := by decide +kernel
theorem dX9_together_1 : decode cX9_together 1 = .ok (.i2l, 1) := by decide +kernel
theorem dX9_together_2 : decode cX9_together 2 = .ok (.lconst 0, 1) := by decide +kernel
theorem dX9_together_3 : decode cX9_together 3 = .ok (.ldc2_w 356, 3) := by decide +kernel
theorem dX9_together_6 : decode cX9_together 6 = .ok (.invokestatic 154, 3) := by decide +kernel
theorem dX9_together_9 : decode cX9_together 9 = .ok (.ifCond .eq 11, 3) := by decide +kernel
theorem dX9_together_12 : decode cX9_together 12 = .ok (.aload_n 0, 1) := by decide +kernel
theorem dX9_together_13 : decode cX9_together 13 = .ok (.iload_n 1, 1) := by decide +kernel
theorem dX9_together_14 : decode cX9_together 14 = .ok (.invokevirtual 358, 3) := by decide +kernel
theorem dX9_together_17 : decode cX9_together 17 = .ok (.goto 5, 3) := by decide +kernel
theorem dX9_together_20 : decode cX9_together 20 = .ok (.bipush (-3), 2) := by decide +kernel
theorem dX9_together_22 : decode cX9_together 22 = .ok (.ireturn, 1) := by decide +kernel
theorem dX9_factorial_0 : decode cX9_factorial 0 = .ok (.iconst 1, 1) := by decide +kernel
theorem dX9_factorial_1 : decode cX9_factorial 1 = .ok (.istore_n 1, 1) := by decide +kernel
theorem dX9_factorial_2 : decode cX9_factorial 2 = .ok (.iconst 2, 1) := by decide +kernel
theorem dX9_factorial_3 : decode cX9_factorial 3 = .ok (.istore_n 2, 1) := by decide +kernel
theorem dX9_factorial_4 : decode cX9_factorial 4 = .ok (.iload_n 2, 1) := by decide +kernel
theorem dX9_factorial_5 : decode cX9_factorial 5 = .ok (.iload_n 0, 1) := by decide +kernel
theorem dX9_factorial_6 : decode cX9_factorial 6 = .ok (.if_icmp .gt 13, 3) := by decide +kernel
theorem dX9_factorial_9 : decode cX9_factorial 9 = .ok (.iload_n 1, 1) := by decide +kernel
theorem dX9_factorial_10 : decode cX9_factorial 10 = .ok (.iload_n 2, 1) := by decide +kernel
theorem dX9_factorial_11 : decode cX9_factorial 11 = .ok (.imul, 1) := by decide +kernel
theorem dX9_factorial_12 : decode cX9_factorial 12 = .ok (.istore_n 1, 1) := by decide +kernel
theorem dX9_factorial_13 : decode cX9_factorial 13 = .ok (.iinc 2 1, 3) := by decide +kernel
theorem dX9_factorial_16 : decode cX9_factorial 16 = .ok (.goto (-12), 3) := by decide +kernel
theorem dX9_factorial_19 : decode cX9_factorial 19 = .ok (.iload_n 1, 1) := by decide +kernel
theorem dX9_factorial_20 : decode cX9_factorial 20 = .ok (.ireturn, 1) := by decide +kernel
theorem dX9_shareOf_0 : decode cX9_shareOf 0 = .ok (.iconst 0, 1) := by decide +kernel
theorem dX9_shareOf_1 : decode cX9_shareOf 1 = .ok (.istore_n 3, 1) := by decide +kernel
theorem dX9_shareOf_2 : decode cX9_shareOf 2 = .ok (.iconst 0, 1) := by decide +kernel
theorem dX9_shareOf_3 : decode cX9_shareOf 3 = .ok (.istore 4, 2) := by decide +kernel
theorem dX9_shareOf_5 : decode cX9_shareOf 5 = .ok (.iload 4, 2) := by decide +kernel
theorem dX9_shareOf_7 : decode cX9_shareOf 7 = .ok (.iconst 1, 1) := by decide +kernel
theorem dX9_shareOf_8 : decode cX9_shareOf 8 = .ok (.iload_n 2, 1) := by decide +kernel
theorem dX9_shareOf_9 : decode cX9_shareOf 9 = .ok (.ishl, 1) := by decide +kernel
theorem dX9_shareOf_10 : decode cX9_shareOf 10 = .ok (.if_icmp .ge 61, 3) := by decide +kernel
theorem dX9_shareOf_13 : decode cX9_shareOf 13 = .ok (.iload 4, 2) := by decide +kernel
theorem dX9_shareOf_15 : decode cX9_shareOf 15 = .ok (.iload_n 1, 1) := by decide +kernel
theorem dX9_shareOf_16 : decode cX9_shareOf 16 = .ok (.ishr, 1) := by decide +kernel
theorem dX9_shareOf_17 : decode cX9_shareOf 17 = .ok (.iconst 1, 1) := by decide +kernel
theorem dX9_shareOf_18 : decode cX9_shareOf 18 = .ok (.iand, 1) := by decide +kernel
theorem dX9_shareOf_19 : decode cX9_shareOf 19 = .ok (.ifCond .ne 46, 3) := by decide +kernel
theorem dX9_shareOf_22 : decode cX9_shareOf 22 = .ok (.iload 4, 2) := by decide +kernel
theorem dX9_shareOf_24 : decode cX9_shareOf 24 = .ok (.invokestatic 326, 3) := by decide +kernel
theorem dX9_shareOf_27 : decode cX9_shareOf 27 = .ok (.istore 5, 2) := by decide +kernel
theorem dX9_shareOf_29 : decode cX9_shareOf 29 = .ok (.iload_n 3, 1) := by decide +kernel
theorem dX9_shareOf_30 : decode cX9_shareOf 30 = .ok (.iload 5, 2) := by decide +kernel
theorem dX9_shareOf_32 : decode cX9_shareOf 32 = .ok (.invokestatic 361, 3) := by decide +kernel
theorem dX9_shareOf_35 : decode cX9_shareOf 35 = .ok (.iload_n 2, 1) := by decide +kernel
theorem dX9_shareOf_36 : decode cX9_shareOf 36 = .ok (.iload 5, 2) := by decide +kernel
theorem dX9_shareOf_38 : decode cX9_shareOf 38 = .ok (.isub, 1) := by decide +kernel
theorem dX9_shareOf_39 : decode cX9_shareOf 39 = .ok (.iconst 1, 1) := by decide +kernel
theorem dX9_shareOf_40 : decode cX9_shareOf 40 = .ok (.isub, 1) := by decide +kernel
theorem dX9_shareOf_41 : decode cX9_shareOf 41 = .ok (.invokestatic 361, 3) := by decide +kernel
theorem dX9_shareOf_44 : decode cX9_shareOf 44 = .ok (.imul, 1) := by decide +kernel
theorem dX9_shareOf_45 : decode cX9_shareOf 45 = .ok (.aload_n 0, 1) := by decide +kernel
theorem dX9_shareOf_46 : decode cX9_shareOf 46 = .ok (.iload 4, 2) := by decide +kernel
theorem dX9_shareOf_48 : decode cX9_shareOf 48 = .ok (.iconst 1, 1) := by decide +kernel
theorem dX9_shareOf_49 : decode cX9_shareOf 49 = .ok (.iload_n 1, 1) := by decide +kernel
theorem dX9_shareOf_50 : decode cX9_shareOf 50 = .ok (.ishl, 1) := by decide +kernel
theorem dX9_shareOf_51 : decode cX9_shareOf 51 = .ok (.ior, 1) := by decide +kernel
theorem dX9_shareOf_52 : decode cX9_shareOf 52 = .ok (.invokevirtual 358, 3) := by decide +kernel
theorem dX9_shareOf_55 : decode cX9_shareOf 55 = .ok (.aload_n 0, 1) := by decide +kernel
theorem dX9_shareOf_56 : decode cX9_shareOf 56 = .ok (.iload 4, 2) := by decide +kernel
theorem dX9_shareOf_58 : decode cX9_shareOf 58 = .ok (.invokevirtual 358, 3) := by decide +kernel
theorem dX9_shareOf_61 : decode cX9_shareOf 61 = .ok (.isub, 1) := by decide +kernel
theorem dX9_shareOf_62 : decode cX9_shareOf 62 = .ok (.imul, 1) := by decide +kernel
theorem dX9_shareOf_63 : decode cX9_shareOf 63 = .ok (.iadd, 1) := by decide +kernel
theorem dX9_shareOf_64 : decode cX9_shareOf 64 = .ok (.istore_n 3, 1) := by decide +kernel
theorem dX9_shareOf_65 : decode cX9_shareOf 65 = .ok (.iinc 4 1, 3) := by decide +kernel
theorem dX9_shareOf_68 : decode cX9_shareOf 68 = .ok (.goto (-63), 3) := by decide +kernel
theorem dX9_shareOf_71 : decode cX9_shareOf 71 = .ok (.iload_n 3, 1) := by decide +kernel
theorem dX9_shareOf_72 : decode cX9_shareOf 72 = .ok (.ireturn, 1) := by decide +kernel
theorem dX9_divisor_0 : decode cX9_divisor 0 = .ok (.iload_n 0, 1) := by decide +kernel
theorem dX9_divisor_1 : decode cX9_divisor 1 = .ok (.ifCond .ge 8, 3) := by decide +kernel
theorem dX9_divisor_4 : decode cX9_divisor 4 = .ok (.iload_n 0, 1) := by decide +kernel
theorem dX9_divisor_5 : decode cX9_divisor 5 = .ok (.ineg, 1) := by decide +kernel
theorem dX9_divisor_6 : decode cX9_divisor 6 = .ok (.goto 4, 3) := by decide +kernel
theorem dX9_divisor_9 : decode cX9_divisor 9 = .ok (.iload_n 0, 1) := by decide +kernel
theorem dX9_divisor_10 : decode cX9_divisor 10 = .ok (.istore_n 2, 1) := by decide +kernel
theorem dX9_divisor_11 : decode cX9_divisor 11 = .ok (.iload_n 1, 1) := by decide +kernel
theorem dX9_divisor_12 : decode cX9_divisor 12 = .ok (.istore_n 3, 1) := by decide +kernel
theorem dX9_divisor_13 : decode cX9_divisor 13 = .ok (.iload_n 3, 1) := by decide +kernel
theorem dX9_divisor_14 : decode cX9_divisor 14 = .ok (.ifCond .eq 16, 3) := by decide +kernel
theorem dX9_divisor_17 : decode cX9_divisor 17 = .ok (.iload_n 2, 1) := by decide +kernel
theorem dX9_divisor_18 : decode cX9_divisor 18 = .ok (.iload_n 3, 1) := by decide +kernel
theorem dX9_divisor_19 : decode cX9_divisor 19 = .ok (.irem, 1) := by decide +kernel
theorem dX9_divisor_20 : decode cX9_divisor 20 = .ok (.istore 4, 2) := by decide +kernel
theorem dX9_divisor_22 : decode cX9_divisor 22 = .ok (.iload_n 3, 1) := by decide +kernel
theorem dX9_divisor_23 : decode cX9_divisor 23 = .ok (.istore_n 2, 1) := by decide +kernel
theorem dX9_divisor_24 : decode cX9_divisor 24 = .ok (.iload 4, 2) := by decide +kernel
theorem dX9_divisor_26 : decode cX9_divisor 26 = .ok (.istore_n 3, 1) := by decide +kernel
theorem dX9_divisor_27 : decode cX9_divisor 27 = .ok (.goto (-14), 3) := by decide +kernel
theorem dX9_divisor_30 : decode cX9_divisor 30 = .ok (.iload_n 2, 1) := by decide +kernel
theorem dX9_divisor_31 : decode cX9_divisor 31 = .ok (.ireturn, 1) := by decide +kernel
theorem dX9_cut_0 : decode cX9_cut 0 = .ok (.iload_n 0, 1) := by decide +kernel
theorem dX9_cut_1 : decode cX9_cut 1 = .ok (.ifCond .lt 9, 3) := by decide +kernel
theorem dX9_cut_4 : decode cX9_cut 4 = .ok (.iload_n 0, 1) := by decide +kernel
theorem dX9_cut_5 : decode cX9_cut 5 = .ok (.iload_n 1, 1) := by decide +kernel
theorem dX9_cut_6 : decode cX9_cut 6 = .ok (.idiv, 1) := by decide +kernel
theorem dX9_cut_7 : decode cX9_cut 7 = .ok (.goto 11, 3) := by decide +kernel
theorem dX9_cut_10 : decode cX9_cut 10 = .ok (.iload_n 1, 1) := by decide +kernel
theorem dX9_cut_11 : decode cX9_cut 11 = .ok (.iconst 1, 1) := by decide +kernel
theorem dX9_cut_12 : decode cX9_cut 12 = .ok (.isub, 1) := by decide +kernel
theorem dX9_cut_13 : decode cX9_cut 13 = .ok (.iload_n 0, 1) := by decide +kernel
theorem dX9_cut_14 : decode cX9_cut 14 = .ok (.isub, 1) := by decide +kernel
theorem dX9_cut_15 : decode cX9_cut 15 = .ok (.iload_n 1, 1) := by decide +kernel
theorem dX9_cut_16 : decode cX9_cut 16 = .ok (.idiv, 1) := by decide +kernel
theorem dX9_cut_17 : decode cX9_cut 17 = .ok (.ineg, 1) := by decide +kernel
theorem dX9_cut_18 : decode cX9_cut 18 = .ok (.ireturn, 1) := by decide +kernel
theorem dX9_coins_0 : decode cX9_coins 0 = .ok (.iload_n 2, 1) := by decide +kernel
theorem dX9_coins_1 : decode cX9_coins 1 = .ok (.invokestatic 361, 3) := by decide +kernel
theorem dX9_coins_4 : decode cX9_coins 4 = .ok (.istore_n 3, 1) := by decide +kernel
theorem dX9_coins_5 : decode cX9_coins 5 = .ok (.aload_n 0, 1) := by decide +kernel
theorem dX9_coins_6 : decode cX9_coins 6 = .ok (.iconst 1, 1) := by decide +kernel
theorem dX9_coins_7 : decode cX9_coins 7 = .ok (.iload_n 2, 1) := by decide +kernel
theorem dX9_coins_8 : decode cX9_coins 8 = .ok (.ishl, 1) := by decide +kernel
theorem dX9_coins_9 : decode cX9_coins 9 = .ok (.iconst 1, 1) := by decide +kernel
theorem dX9_coins_10 : decode cX9_coins 10 = .ok (.isub, 1) := by decide +kernel
theorem dX9_coins_11 : decode cX9_coins 11 = .ok (.invokevirtual 358, 3) := by decide +kernel
theorem dX9_coins_14 : decode cX9_coins 14 = .ok (.istore 4, 2) := by decide +kernel
theorem dX9_coins_16 : decode cX9_coins 16 = .ok (.iconst 0, 1) := by decide +kernel
theorem dX9_coins_17 : decode cX9_coins 17 = .ok (.istore 5, 2) := by decide +kernel
theorem dX9_coins_19 : decode cX9_coins 19 = .ok (.aload_n 0, 1) := by decide +kernel
theorem dX9_coins_20 : decode cX9_coins 20 = .ok (.iload_n 1, 1) := by decide +kernel
theorem dX9_coins_21 : decode cX9_coins 21 = .ok (.iload_n 2, 1) := by decide +kernel
theorem dX9_coins_22 : decode cX9_coins 22 = .ok (.invokevirtual 364, 3) := by decide +kernel
theorem dX9_coins_25 : decode cX9_coins 25 = .ok (.iload_n 3, 1) := by decide +kernel
theorem dX9_coins_26 : decode cX9_coins 26 = .ok (.aload_n 0, 1) := by decide +kernel
theorem dX9_coins_27 : decode cX9_coins 27 = .ok (.iload_n 1, 1) := by decide +kernel
theorem dX9_coins_28 : decode cX9_coins 28 = .ok (.iload_n 2, 1) := by decide +kernel
theorem dX9_coins_29 : decode cX9_coins 29 = .ok (.invokevirtual 364, 3) := by decide +kernel
theorem dX9_coins_32 : decode cX9_coins 32 = .ok (.iload_n 3, 1) := by decide +kernel
theorem dX9_coins_33 : decode cX9_coins 33 = .ok (.invokestatic 367, 3) := by decide +kernel
theorem dX9_coins_36 : decode cX9_coins 36 = .ok (.imul, 1) := by decide +kernel
theorem dX9_coins_37 : decode cX9_coins 37 = .ok (.isub, 1) := by decide +kernel
theorem dX9_coins_38 : decode cX9_coins 38 = .ok (.istore 6, 2) := by decide +kernel
theorem dX9_coins_40 : decode cX9_coins 40 = .ok (.iconst 0, 1) := by decide +kernel
theorem dX9_coins_41 : decode cX9_coins 41 = .ok (.istore 7, 2) := by decide +kernel
theorem dX9_coins_43 : decode cX9_coins 43 = .ok (.iload 7, 2) := by decide +kernel
theorem dX9_coins_45 : decode cX9_coins 45 = .ok (.iload_n 2, 1) := by decide +kernel
theorem dX9_coins_46 : decode cX9_coins 46 = .ok (.if_icmp .ge 72, 3) := by decide +kernel
theorem dX9_coins_49 : decode cX9_coins 49 = .ok (.aload_n 0, 1) := by decide +kernel
theorem dX9_coins_50 : decode cX9_coins 50 = .ok (.iload 7, 2) := by decide +kernel
theorem dX9_coins_52 : decode cX9_coins 52 = .ok (.iload_n 2, 1) := by decide +kernel
theorem dX9_coins_53 : decode cX9_coins 53 = .ok (.invokevirtual 364, 3) := by decide +kernel
theorem dX9_coins_56 : decode cX9_coins 56 = .ok (.istore 8, 2) := by decide +kernel
theorem dX9_coins_58 : decode cX9_coins 58 = .ok (.iload 8, 2) := by decide +kernel
theorem dX9_coins_60 : decode cX9_coins 60 = .ok (.iload_n 3, 1) := by decide +kernel
theorem dX9_coins_61 : decode cX9_coins 61 = .ok (.iload 8, 2) := by decide +kernel
theorem dX9_coins_63 : decode cX9_coins 63 = .ok (.iload_n 3, 1) := by decide +kernel
theorem dX9_coins_64 : decode cX9_coins 64 = .ok (.invokestatic 367, 3) := by decide +kernel
theorem dX9_coins_67 : decode cX9_coins 67 = .ok (.imul, 1) := by decide +kernel
theorem dX9_coins_68 : decode cX9_coins 68 = .ok (.isub, 1) := by decide +kernel
theorem dX9_coins_69 : decode cX9_coins 69 = .ok (.istore 9, 2) := by decide +kernel
theorem dX9_coins_71 : decode cX9_coins 71 = .ok (.iload 4, 2) := by decide +kernel
theorem dX9_coins_73 : decode cX9_coins 73 = .ok (.iload 8, 2) := by decide +kernel
theorem dX9_coins_75 : decode cX9_coins 75 = .ok (.iload_n 3, 1) := by decide +kernel
theorem dX9_coins_76 : decode cX9_coins 76 = .ok (.invokestatic 367, 3) := by decide +kernel
theorem dX9_coins_79 : decode cX9_coins 79 = .ok (.isub, 1) := by decide +kernel
theorem dX9_coins_80 : decode cX9_coins 80 = .ok (.istore 4, 2) := by decide +kernel
theorem dX9_coins_82 : decode cX9_coins 82 = .ok (.iload 5, 2) := by decide +kernel
theorem dX9_coins_84 : decode cX9_coins 84 = .ok (.iload 9, 2) := by decide +kernel
theorem dX9_coins_86 : decode cX9_coins 86 = .ok (.iload 6, 2) := by decide +kernel
theorem dX9_coins_88 : decode cX9_coins 88 = .ok (.if_icmp .gt 16, 3) := by decide +kernel
theorem dX9_coins_91 : decode cX9_coins 91 = .ok (.iload 9, 2) := by decide +kernel
theorem dX9_coins_93 : decode cX9_coins 93 = .ok (.iload 6, 2) := by decide +kernel
theorem dX9_coins_95 : decode cX9_coins 95 = .ok (.if_icmp .ne 13, 3) := by decide +kernel
theorem dX9_coins_98 : decode cX9_coins 98 = .ok (.iload 7, 2) := by decide +kernel
theorem dX9_coins_100 : decode cX9_coins 100 = .ok (.iload_n 1, 1) := by decide +kernel
theorem dX9_coins_101 : decode cX9_coins 101 = .ok (.if_icmp .ge 7, 3) := by decide +kernel
theorem dX9_coins_104 : decode cX9_coins 104 = .ok (.iconst 1, 1) := by decide +kernel
theorem dX9_coins_105 : decode cX9_coins 105 = .ok (.goto 4, 3) := by decide +kernel
theorem dX9_coins_108 : decode cX9_coins 108 = .ok (.iconst 0, 1) := by decide +kernel
theorem dX9_coins_109 : decode cX9_coins 109 = .ok (.iadd, 1) := by decide +kernel
theorem dX9_coins_110 : decode cX9_coins 110 = .ok (.istore 5, 2) := by decide +kernel
theorem dX9_coins_112 : decode cX9_coins 112 = .ok (.iinc 7 1, 3) := by decide +kernel
theorem dX9_coins_115 : decode cX9_coins 115 = .ok (.goto (-72), 3) := by decide +kernel
theorem dX9_coins_118 : decode cX9_coins 118 = .ok (.aload_n 0, 1) := by decide +kernel
theorem dX9_coins_119 : decode cX9_coins 119 = .ok (.iload_n 1, 1) := by decide +kernel
theorem dX9_coins_120 : decode cX9_coins 120 = .ok (.iload_n 2, 1) := by decide +kernel
theorem dX9_coins_121 : decode cX9_coins 121 = .ok (.invokevirtual 364, 3) := by decide +kernel
theorem dX9_coins_124 : decode cX9_coins 124 = .ok (.iload_n 3, 1) := by decide +kernel
theorem dX9_coins_125 : decode cX9_coins 125 = .ok (.invokestatic 367, 3) := by decide +kernel
theorem dX9_coins_128 : decode cX9_coins 128 = .ok (.iload 5, 2) := by decide +kernel
theorem dX9_coins_130 : decode cX9_coins 130 = .ok (.iload 4, 2) := by decide +kernel
theorem dX9_coins_132 : decode cX9_coins 132 = .ok (.if_icmp .ge 7, 3) := by decide +kernel
theorem dX9_coins_135 : decode cX9_coins 135 = .ok (.iconst 1, 1) := by decide +kernel
theorem dX9_coins_136 : decode cX9_coins 136 = .ok (.goto 4, 3) := by decide +kernel
theorem dX9_coins_139 : decode cX9_coins 139 = .ok (.iconst 0, 1) := by decide +kernel
theorem dX9_coins_140 : decode cX9_coins 140 = .ok (.iadd, 1) := by decide +kernel
theorem dX9_coins_141 : decode cX9_coins 141 = .ok (.ireturn, 1) := by decide +kernel
theorem dX9_share_0 : decode cX9_share 0 = .ok (.iload_n 2, 1) := by decide +kernel
theorem dX9_share_1 : decode cX9_share 1 = .ok (.i2l, 1) := by decide +kernel
theorem dX9_share_2 : decode cX9_share 2 = .ok (.lconst 1, 1) := by decide +kernel
theorem dX9_share_3 : decode cX9_share 3 = .ok (.ldc2_w 246, 3) := by decide +kernel
theorem dX9_share_6 : decode cX9_share 6 = .ok (.invokestatic 154, 3) := by decide +kernel
theorem dX9_share_9 : decode cX9_share 9 = .ok (.ifCond .eq 15, 3) := by decide +kernel
theorem dX9_share_12 : decode cX9_share 12 = .ok (.iload_n 3, 1) := by decide +kernel
theorem dX9_share_13 : decode cX9_share 13 = .ok (.i2l, 1) := by decide +kernel
theorem dX9_share_14 : decode cX9_share 14 = .ok (.lconst 0, 1) := by decide +kernel
theorem dX9_share_15 : decode cX9_share 15 = .ok (.ldc2_w 329, 3) := by decide +kernel
theorem dX9_share_18 : decode cX9_share 18 = .ok (.invokestatic 154, 3) := by decide +kernel
theorem dX9_share_21 : decode cX9_share 21 = .ok (.ifCond .ne 43, 3) := by decide +kernel
theorem dX9_share_24 : decode cX9_share 24 = .ok (.iload_n 2, 1) := by decide +kernel
theorem dX9_share_25 : decode cX9_share 25 = .ok (.i2l, 1) := by decide +kernel
theorem dX9_share_26 : decode cX9_share 26 = .ok (.lconst 1, 1) := by decide +kernel
theorem dX9_share_27 : decode cX9_share 27 = .ok (.ldc2_w 246, 3) := by decide +kernel
theorem dX9_share_30 : decode cX9_share 30 = .ok (.invokestatic 154, 3) := by decide +kernel
theorem dX9_share_33 : decode cX9_share 33 = .ok (.ifCond .eq 16, 3) := by decide +kernel
theorem dX9_share_36 : decode cX9_share 36 = .ok (.iload_n 1, 1) := by decide +kernel
theorem dX9_share_37 : decode cX9_share 37 = .ok (.i2l, 1) := by decide +kernel
theorem dX9_share_38 : decode cX9_share 38 = .ok (.lconst 0, 1) := by decide +kernel
theorem dX9_share_39 : decode cX9_share 39 = .ok (.iload_n 2, 1) := by decide +kernel
theorem dX9_share_40 : decode cX9_share 40 = .ok (.iconst 1, 1) := by decide +kernel
theorem dX9_share_41 : decode cX9_share 41 = .ok (.isub, 1) := by decide +kernel
theorem dX9_share_42 : decode cX9_share 42 = .ok (.i2l, 1) := by decide +kernel
theorem dX9_share_43 : decode cX9_share 43 = .ok (.invokestatic 154, 3) := by decide +kernel
theorem dX9_share_46 : decode cX9_share 46 = .ok (.ifCond .eq 10, 3) := by decide +kernel
theorem dX9_share_49 : decode cX9_share 49 = .ok (.iload_n 1, 1) := by decide +kernel
theorem dX9_share_50 : decode cX9_share 50 = .ok (.invokestatic 353, 3) := by decide +kernel
theorem dX9_share_53 : decode cX9_share 53 = .ok (.ifCond .ne 8, 3) := by decide +kernel
theorem dX9_share_56 : decode cX9_share 56 = .ok (.bipush (-2), 2) := by decide +kernel
theorem dX9_share_58 : decode cX9_share 58 = .ok (.goto 5, 3) := by decide +kernel
theorem dX9_share_61 : decode cX9_share 61 = .ok (.bipush (-3), 2) := by decide +kernel
theorem dX9_share_63 : decode cX9_share 63 = .ok (.ireturn, 1) := by decide +kernel
theorem dX9_share_64 : decode cX9_share 64 = .ok (.iload_n 1, 1) := by decide +kernel
theorem dX9_share_65 : decode cX9_share 65 = .ok (.i2l, 1) := by decide +kernel
theorem dX9_share_66 : decode cX9_share 66 = .ok (.lconst 0, 1) := by decide +kernel
theorem dX9_share_67 : decode cX9_share 67 = .ok (.iload_n 2, 1) := by decide +kernel
theorem dX9_share_68 : decode cX9_share 68 = .ok (.iconst 1, 1) := by decide +kernel
theorem dX9_share_69 : decode cX9_share 69 = .ok (.isub, 1) := by decide +kernel
theorem dX9_share_70 : decode cX9_share 70 = .ok (.i2l, 1) := by decide +kernel
theorem dX9_share_71 : decode cX9_share 71 = .ok (.invokestatic 154, 3) := by decide +kernel
theorem dX9_share_74 : decode cX9_share 74 = .ok (.ifCond .ne 6, 3) := by decide +kernel
theorem dX9_share_77 : decode cX9_share 77 = .ok (.bipush (-2), 2) := by decide +kernel
theorem dX9_share_79 : decode cX9_share 79 = .ok (.ireturn, 1) := by decide +kernel
theorem dX9_share_80 : decode cX9_share 80 = .ok (.iload_n 3, 1) := by decide +kernel
theorem dX9_share_81 : decode cX9_share 81 = .ok (.iconst 2, 1) := by decide +kernel
theorem dX9_share_82 : decode cX9_share 82 = .ok (.if_icmp .ne 10, 3) := by decide +kernel
theorem dX9_share_85 : decode cX9_share 85 = .ok (.aload_n 0, 1) := by decide +kernel
theorem dX9_share_86 : decode cX9_share 86 = .ok (.iload_n 1, 1) := by decide +kernel
theorem dX9_share_87 : decode cX9_share 87 = .ok (.iload_n 2, 1) := by decide +kernel
theorem dX9_share_88 : decode cX9_share 88 = .ok (.invokevirtual 370, 3) := by decide +kernel
theorem dX9_share_91 : decode cX9_share 91 = .ok (.ireturn, 1) := by decide +kernel
theorem dX9_share_92 : decode cX9_share 92 = .ok (.aload_n 0, 1) := by decide +kernel
theorem dX9_share_93 : decode cX9_share 93 = .ok (.iload_n 1, 1) := by decide +kernel
theorem dX9_share_94 : decode cX9_share 94 = .ok (.iload_n 2, 1) := by decide +kernel
theorem dX9_share_95 : decode cX9_share 95 = .ok (.invokevirtual 364, 3) := by decide +kernel
theorem dX9_share_98 : decode cX9_share 98 = .ok (.istore 4, 2) := by decide +kernel
theorem dX9_share_100 : decode cX9_share 100 = .ok (.iload 4, 2) := by decide +kernel
theorem dX9_share_102 : decode cX9_share 102 = .ok (.iload_n 2, 1) := by decide +kernel
theorem dX9_share_103 : decode cX9_share 103 = .ok (.invokestatic 361, 3) := by decide +kernel
theorem dX9_share_106 : decode cX9_share 106 = .ok (.invokestatic 373, 3) := by decide +kernel
theorem dX9_share_109 : decode cX9_share 109 = .ok (.istore 5, 2) := by decide +kernel
theorem dX9_share_111 : decode cX9_share 111 = .ok (.iload_n 3, 1) := by decide +kernel
theorem dX9_share_112 : decode cX9_share 112 = .ok (.ifCond .ne 11, 3) := by decide +kernel
theorem dX9_share_115 : decode cX9_share 115 = .ok (.iload 4, 2) := by decide +kernel
theorem dX9_share_117 : decode cX9_share 117 = .ok (.iload 5, 2) := by decide +kernel
theorem dX9_share_119 : decode cX9_share 119 = .ok (.idiv, 1) := by decide +kernel
theorem dX9_share_120 : decode cX9_share 120 = .ok (.goto 10, 3) := by decide +kernel
theorem dX9_share_123 : decode cX9_share 123 = .ok (.iload_n 2, 1) := by decide +kernel
theorem dX9_share_124 : decode cX9_share 124 = .ok (.invokestatic 361, 3) := by decide +kernel
theorem dX9_share_127 : decode cX9_share 127 = .ok (.iload 5, 2) := by decide +kernel
theorem dX9_share_129 : decode cX9_share 129 = .ok (.idiv, 1) := by decide +kernel
theorem dX9_share_130 : decode cX9_share 130 = .ok (.ireturn, 1) := by decide +kernel
theorem dX9_clock_0 : decode cX9_clock 0 = .ok (.iload_n 1, 1) := by decide +kernel
theorem dX9_clock_1 : decode cX9_clock 1 = .ok (.invokestatic 353, 3) := by decide +kernel
theorem dX9_clock_4 : decode cX9_clock 4 = .ok (.ifCond .ne 6, 3) := by decide +kernel
theorem dX9_clock_7 : decode cX9_clock 7 = .ok (.bipush (-2), 2) := by decide +kernel
theorem dX9_clock_9 : decode cX9_clock 9 = .ok (.ireturn, 1) := by decide +kernel
theorem dX9_clock_10 : decode cX9_clock 10 = .ok (.iload_n 2, 1) := by decide +kernel
theorem dX9_clock_11 : decode cX9_clock 11 = .ok (.i2l, 1) := by decide +kernel
theorem dX9_clock_12 : decode cX9_clock 12 = .ok (.lconst 0, 1) := by decide +kernel
theorem dX9_clock_13 : decode cX9_clock 13 = .ok (.ldc2_w 376, 3) := by decide +kernel
theorem dX9_clock_16 : decode cX9_clock 16 = .ok (.invokestatic 154, 3) := by decide +kernel
theorem dX9_clock_19 : decode cX9_clock 19 = .ok (.ifCond .ne 6, 3) := by decide +kernel
theorem dX9_clock_22 : decode cX9_clock 22 = .ok (.bipush (-3), 2) := by decide +kernel
theorem dX9_clock_24 : decode cX9_clock 24 = .ok (.ireturn, 1) := by decide +kernel
theorem dX9_clock_25 : decode cX9_clock 25 = .ok (.aload_n 0, 1) := by decide +kernel
theorem dX9_clock_26 : decode cX9_clock 26 = .ok (.getfield 92, 3) := by decide +kernel
theorem dX9_clock_29 : decode cX9_clock 29 = .ok (.iload_n 1, 1) := by decide +kernel
theorem dX9_clock_30 : decode cX9_clock 30 = .ok (.iaload, 1) := by decide +kernel
theorem dX9_clock_31 : decode cX9_clock 31 = .ok (.istore_n 3, 1) := by decide +kernel
theorem dX9_clock_32 : decode cX9_clock 32 = .ok (.aload_n 0, 1) := by decide +kernel
theorem dX9_clock_33 : decode cX9_clock 33 = .ok (.getfield 92, 3) := by decide +kernel
theorem dX9_clock_36 : decode cX9_clock 36 = .ok (.iload_n 1, 1) := by decide +kernel
theorem dX9_clock_37 : decode cX9_clock 37 = .ok (.iload_n 2, 1) := by decide +kernel
theorem dX9_clock_38 : decode cX9_clock 38 = .ok (.iastore, 1) := by decide +kernel
theorem dX9_clock_39 : decode cX9_clock 39 = .ok (.iload_n 3, 1) := by decide +kernel
theorem dX9_clock_40 : decode cX9_clock 40 = .ok (.ireturn, 1) := by decide +kernel
theorem dX9_event_0 : decode cX9_event 0 = .ok (.iload_n 1, 1) := by decide +kernel
theorem dX9_event_1 : decode cX9_event 1 = .ok (.invokestatic 353, 3) := by decide +kernel
theorem dX9_event_4 : decode cX9_event 4 = .ok (.ifCond .ne 6, 3) := by decide +kernel
theorem dX9_event_7 : decode cX9_event 7 = .ok (.bipush (-2), 2) := by decide +kernel
theorem dX9_event_9 : decode cX9_event 9 = .ok (.ireturn, 1) := by decide +kernel
theorem dX9_event_10 : decode cX9_event 10 = .ok (.iload_n 2, 1) := by decide +kernel
theorem dX9_event_11 : decode cX9_event 11 = .ok (.i2l, 1) := by decide +kernel
theorem dX9_event_12 : decode cX9_event 12 = .ok (.lconst 0, 1) := by decide +kernel
theorem dX9_event_13 : decode cX9_event 13 = .ok (.ldc2_w 378, 3) := by decide +kernel
theorem dX9_event_16 : decode cX9_event 16 = .ok (.invokestatic 154, 3) := by decide +kernel
theorem dX9_event_19 : decode cX9_event 19 = .ok (.ifCond .ne 6, 3) := by decide +kernel
theorem dX9_event_22 : decode cX9_event 22 = .ok (.bipush (-3), 2) := by decide +kernel
theorem dX9_event_24 : decode cX9_event 24 = .ok (.ireturn, 1) := by decide +kernel
theorem dX9_event_25 : decode cX9_event 25 = .ok (.aload_n 0, 1) := by decide +kernel
theorem dX9_event_26 : decode cX9_event 26 = .ok (.getfield 380, 3) := by decide +kernel
theorem dX9_event_29 : decode cX9_event 29 = .ok (.bipush 12, 2) := by decide +kernel
theorem dX9_event_31 : decode cX9_event 31 = .ok (.if_icmp .ne 6, 3) := by decide +kernel
theorem dX9_event_34 : decode cX9_event 34 = .ok (.bipush (-5), 2) := by decide +kernel
theorem dX9_event_36 : decode cX9_event 36 = .ok (.ireturn, 1) := by decide +kernel
theorem dX9_event_37 : decode cX9_event 37 = .ok (.aload_n 0, 1) := by decide +kernel
theorem dX9_event_38 : decode cX9_event 38 = .ok (.getfield 95, 3) := by decide +kernel
theorem dX9_event_41 : decode cX9_event 41 = .ok (.aload_n 0, 1) := by decide +kernel
theorem dX9_event_42 : decode cX9_event 42 = .ok (.getfield 380, 3) := by decide +kernel
theorem dX9_event_45 : decode cX9_event 45 = .ok (.iload_n 1, 1) := by decide +kernel
theorem dX9_event_46 : decode cX9_event 46 = .ok (.iastore, 1) := by decide +kernel
theorem dX9_event_47 : decode cX9_event 47 = .ok (.aload_n 0, 1) := by decide +kernel
theorem dX9_event_48 : decode cX9_event 48 = .ok (.getfield 98, 3) := by decide +kernel
theorem dX9_event_51 : decode cX9_event 51 = .ok (.aload_n 0, 1) := by decide +kernel
theorem dX9_event_52 : decode cX9_event 52 = .ok (.getfield 380, 3) := by decide +kernel
theorem dX9_event_55 : decode cX9_event 55 = .ok (.iload_n 2, 1) := by decide +kernel
theorem dX9_event_56 : decode cX9_event 56 = .ok (.iastore, 1) := by decide +kernel
theorem dX9_event_57 : decode cX9_event 57 = .ok (.aload_n 0, 1) := by decide +kernel
theorem dX9_event_58 : decode cX9_event 58 = .ok (.dup, 1) := by decide +kernel
theorem dX9_event_59 : decode cX9_event 59 = .ok (.getfield 380, 3) := by decide +kernel
theorem dX9_event_62 : decode cX9_event 62 = .ok (.iconst 1, 1) := by decide +kernel
theorem dX9_event_63 : decode cX9_event 63 = .ok (.iadd, 1) := by decide +kernel
theorem dX9_event_64 : decode cX9_event 64 = .ok (.putfield 380, 3) := by decide +kernel
theorem dX9_event_67 : decode cX9_event 67 = .ok (.aload_n 0, 1) := by decide +kernel
theorem dX9_event_68 : decode cX9_event 68 = .ok (.getfield 380, 3) := by decide +kernel
theorem dX9_event_71 : decode cX9_event 71 = .ok (.iconst 1, 1) := by decide +kernel
theorem dX9_event_72 : decode cX9_event 72 = .ok (.isub, 1) := by decide +kernel
theorem dX9_event_73 : decode cX9_event 73 = .ok (.ireturn, 1) := by decide +kernel
theorem dX9_isEvent_0 : decode cX9_isEvent 0 = .ok (.iload_n 1, 1) := by decide +kernel
theorem dX9_isEvent_1 : decode cX9_isEvent 1 = .ok (.i2l, 1) := by decide +kernel
theorem dX9_isEvent_2 : decode cX9_isEvent 2 = .ok (.lconst 0, 1) := by decide +kernel
theorem dX9_isEvent_3 : decode cX9_isEvent 3 = .ok (.aload_n 0, 1) := by decide +kernel
theorem dX9_isEvent_4 : decode cX9_isEvent 4 = .ok (.getfield 380, 3) := by decide +kernel
theorem dX9_isEvent_7 : decode cX9_isEvent 7 = .ok (.iconst 1, 1) := by decide +kernel
theorem dX9_isEvent_8 : decode cX9_isEvent 8 = .ok (.isub, 1) := by decide +kernel
theorem dX9_isEvent_9 : decode cX9_isEvent 9 = .ok (.i2l, 1) := by decide +kernel
theorem dX9_isEvent_10 : decode cX9_isEvent 10 = .ok (.invokestatic 154, 3) := by decide +kernel
theorem dX9_isEvent_13 : decode cX9_isEvent 13 = .ok (.ireturn, 1) := by decide +kernel
theorem dX9_after_0 : decode cX9_after 0 = .ok (.aload_n 0, 1) := by decide +kernel
theorem dX9_after_1 : decode cX9_after 1 = .ok (.iload_n 1, 1) := by decide +kernel
theorem dX9_after_2 : decode cX9_after 2 = .ok (.invokevirtual 383, 3) := by decide +kernel
theorem dX9_after_5 : decode cX9_after 5 = .ok (.ifCond .eq 16, 3) := by decide +kernel
theorem dX9_after_8 : decode cX9_after 8 = .ok (.aload_n 0, 1) := by decide +kernel
theorem dX9_after_9 : decode cX9_after 9 = .ok (.iload_n 2, 1) := by decide +kernel
theorem dX9_after_10 : decode cX9_after 10 = .ok (.invokevirtual 383, 3) := by decide +kernel
theorem dX9_after_13 : decode cX9_after 13 = .ok (.ifCond .eq 8, 3) := by decide +kernel
theorem dX9_after_16 : decode cX9_after 16 = .ok (.iload_n 1, 1) := by decide +kernel
theorem dX9_after_17 : decode cX9_after 17 = .ok (.iload_n 2, 1) := by decide +kernel
theorem dX9_after_18 : decode cX9_after 18 = .ok (.if_icmp .ne 6, 3) := by decide +kernel
theorem dX9_after_21 : decode cX9_after 21 = .ok (.bipush (-2), 2) := by decide +kernel
theorem dX9_after_23 : decode cX9_after 23 = .ok (.ireturn, 1) := by decide +kernel
theorem dX9_after_24 : decode cX9_after 24 = .ok (.iload_n 3, 1) := by decide +kernel
theorem dX9_after_25 : decode cX9_after 25 = .ok (.i2l, 1) := by decide +kernel
theorem dX9_after_26 : decode cX9_after 26 = .ok (.lconst 0, 1) := by decide +kernel
theorem dX9_after_27 : decode cX9_after 27 = .ok (.ldc2_w 250, 3) := by decide +kernel
theorem dX9_after_30 : decode cX9_after 30 = .ok (.invokestatic 154, 3) := by decide +kernel
theorem dX9_after_33 : decode cX9_after 33 = .ok (.ifCond .ne 6, 3) := by decide +kernel
theorem dX9_after_36 : decode cX9_after 36 = .ok (.bipush (-3), 2) := by decide +kernel
theorem dX9_after_38 : decode cX9_after 38 = .ok (.ireturn, 1) := by decide +kernel
theorem dX9_after_39 : decode cX9_after 39 = .ok (.aload_n 0, 1) := by decide +kernel
theorem dX9_after_40 : decode cX9_after 40 = .ok (.getfield 386, 3) := by decide +kernel
theorem dX9_after_43 : decode cX9_after 43 = .ok (.bipush 12, 2) := by decide +kernel
theorem dX9_after_45 : decode cX9_after 45 = .ok (.if_icmp .ne 6, 3) := by decide +kernel
theorem dX9_after_48 : decode cX9_after 48 = .ok (.bipush (-5), 2) := by decide +kernel
theorem dX9_after_50 : decode cX9_after 50 = .ok (.ireturn, 1) := by decide +kernel
theorem dX9_after_51 : decode cX9_after 51 = .ok (.aload_n 0, 1) := by decide +kernel
theorem dX9_after_52 : decode cX9_after 52 = .ok (.getfield 101, 3) := by decide +kernel
theorem dX9_after_55 : decode cX9_after 55 = .ok (.aload_n 0, 1) := by decide +kernel
theorem dX9_after_56 : decode cX9_after 56 = .ok (.getfield 386, 3) := by decide +kernel
theorem dX9_after_59 : decode cX9_after 59 = .ok (.iload_n 1, 1) := by decide +kernel
theorem dX9_after_60 : decode cX9_after 60 = .ok (.iastore, 1) := by decide +kernel
theorem dX9_after_61 : decode cX9_after 61 = .ok (.aload_n 0, 1) := by decide +kernel
theorem dX9_after_62 : decode cX9_after 62 = .ok (.getfield 104, 3) := by decide +kernel
theorem dX9_after_65 : decode cX9_after 65 = .ok (.aload_n 0, 1) := by decide +kernel
theorem dX9_after_66 : decode cX9_after 66 = .ok (.getfield 386, 3) := by decide +kernel
theorem dX9_after_69 : decode cX9_after 69 = .ok (.iload_n 2, 1) := by decide +kernel
theorem dX9_after_70 : decode cX9_after 70 = .ok (.iastore, 1) := by decide +kernel
theorem dX9_after_71 : decode cX9_after 71 = .ok (.aload_n 0, 1) := by decide +kernel
theorem dX9_after_72 : decode cX9_after 72 = .ok (.getfield 107, 3) := by decide +kernel
theorem dX9_after_75 : decode cX9_after 75 = .ok (.aload_n 0, 1) := by decide +kernel
theorem dX9_after_76 : decode cX9_after 76 = .ok (.getfield 386, 3) := by decide +kernel
theorem dX9_after_79 : decode cX9_after 79 = .ok (.iload_n 3, 1) := by decide +kernel
theorem dX9_after_80 : decode cX9_after 80 = .ok (.iastore, 1) := by decide +kernel
theorem dX9_after_81 : decode cX9_after 81 = .ok (.aload_n 0, 1) := by decide +kernel
theorem dX9_after_82 : decode cX9_after 82 = .ok (.dup, 1) := by decide +kernel
theorem dX9_after_83 : decode cX9_after 83 = .ok (.getfield 386, 3) := by decide +kernel
theorem dX9_after_86 : decode cX9_after 86 = .ok (.iconst 1, 1) := by decide +kernel
theorem dX9_after_87 : decode cX9_after 87 = .ok (.iadd, 1) := by decide +kernel
theorem dX9_after_88 : decode cX9_after 88 = .ok (.putfield 386, 3) := by decide +kernel
theorem dX9_after_91 : decode cX9_after 91 = .ok (.aload_n 0, 1) := by decide +kernel
theorem dX9_after_92 : decode cX9_after 92 = .ok (.getfield 386, 3) := by decide +kernel
theorem dX9_after_95 : decode cX9_after 95 = .ok (.ireturn, 1) := by decide +kernel
theorem dX9_layOffs_0 : decode cX9_layOffs 0 = .ok (.iconst 0, 1) := by decide +kernel
theorem dX9_layOffs_1 : decode cX9_layOffs 1 = .ok (.istore_n 1, 1) := by decide +kernel
theorem dX9_layOffs_2 : decode cX9_layOffs 2 = .ok (.iload_n 1, 1) := by decide +kernel
theorem dX9_layOffs_3 : decode cX9_layOffs 3 = .ok (.bipush 6, 2) := by decide +kernel
theorem dX9_layOffs_5 : decode cX9_layOffs 5 = .ok (.if_icmp .ge 34, 3) := by decide +kernel
theorem dX9_layOffs_8 : decode cX9_layOffs 8 = .ok (.aload_n 0, 1) := by decide +kernel
theorem dX9_layOffs_9 : decode cX9_layOffs 9 = .ok (.getfield 146, 3) := by decide +kernel
theorem dX9_layOffs_12 : decode cX9_layOffs 12 = .ok (.iload_n 1, 1) := by decide +kernel
theorem dX9_layOffs_13 : decode cX9_layOffs 13 = .ok (.aload_n 0, 1) := by decide +kernel
theorem dX9_layOffs_14 : decode cX9_layOffs 14 = .ok (.getfield 92, 3) := by decide +kernel
theorem dX9_layOffs_17 : decode cX9_layOffs 17 = .ok (.iload_n 1, 1) := by decide +kernel
theorem dX9_layOffs_18 : decode cX9_layOffs 18 = .ok (.iaload, 1) := by decide +kernel
theorem dX9_layOffs_19 : decode cX9_layOffs 19 = .ok (.ineg, 1) := by decide +kernel
theorem dX9_layOffs_20 : decode cX9_layOffs 20 = .ok (.iastore, 1) := by decide +kernel
theorem dX9_layOffs_21 : decode cX9_layOffs 21 = .ok (.aload_n 0, 1) := by decide +kernel
theorem dX9_layOffs_22 : decode cX9_layOffs 22 = .ok (.getfield 149, 3) := by decide +kernel
theorem dX9_layOffs_25 : decode cX9_layOffs 25 = .ok (.iload_n 1, 1) := by decide +kernel
theorem dX9_layOffs_26 : decode cX9_layOffs 26 = .ok (.aload_n 0, 1) := by decide +kernel
theorem dX9_layOffs_27 : decode cX9_layOffs 27 = .ok (.getfield 92, 3) := by decide +kernel
theorem dX9_layOffs_30 : decode cX9_layOffs 30 = .ok (.iload_n 1, 1) := by decide +kernel
theorem dX9_layOffs_31 : decode cX9_layOffs 31 = .ok (.iaload, 1) := by decide +kernel
theorem dX9_layOffs_32 : decode cX9_layOffs 32 = .ok (.iastore, 1) := by decide +kernel
theorem dX9_layOffs_33 : decode cX9_layOffs 33 = .ok (.iinc 1 1, 3) := by decide +kernel
theorem dX9_layOffs_36 : decode cX9_layOffs 36 = .ok (.goto (-34), 3) := by decide +kernel
theorem dX9_layOffs_39 : decode cX9_layOffs 39 = .ok (.iconst 1, 1) := by decide +kernel
theorem dX9_layOffs_40 : decode cX9_layOffs 40 = .ok (.istore_n 1, 1) := by decide +kernel
theorem dX9_layOffs_41 : decode cX9_layOffs 41 = .ok (.iload_n 1, 1) := by decide +kernel
theorem dX9_layOffs_42 : decode cX9_layOffs 42 = .ok (.ifCond .eq 215, 3) := by decide +kernel
theorem dX9_layOffs_45 : decode cX9_layOffs 45 = .ok (.iconst 0, 1) := by decide +kernel
theorem dX9_layOffs_46 : decode cX9_layOffs 46 = .ok (.istore_n 1, 1) := by decide +kernel
theorem dX9_layOffs_47 : decode cX9_layOffs 47 = .ok (.iconst 0, 1) := by decide +kernel
theorem dX9_layOffs_48 : decode cX9_layOffs 48 = .ok (.istore_n 2, 1) := by decide +kernel
theorem dX9_layOffs_49 : decode cX9_layOffs 49 = .ok (.iload_n 2, 1) := by decide +kernel
theorem dX9_layOffs_50 : decode cX9_layOffs 50 = .ok (.aload_n 0, 1) := by decide +kernel
theorem dX9_layOffs_51 : decode cX9_layOffs 51 = .ok (.getfield 386, 3) := by decide +kernel
theorem dX9_layOffs_54 : decode cX9_layOffs 54 = .ok (.if_icmp .ge 200, 3) := by decide +kernel
theorem dX9_layOffs_57 : decode cX9_layOffs 57 = .ok (.aload_n 0, 1) := by decide +kernel
theorem dX9_layOffs_58 : decode cX9_layOffs 58 = .ok (.getfield 95, 3) := by decide +kernel
theorem dX9_layOffs_61 : decode cX9_layOffs 61 = .ok (.aload_n 0, 1) := by decide +kernel
theorem dX9_layOffs_62 : decode cX9_layOffs 62 = .ok (.getfield 101, 3) := by decide +kernel
theorem dX9_layOffs_65 : decode cX9_layOffs 65 = .ok (.iload_n 2, 1) := by decide +kernel
theorem dX9_layOffs_66 : decode cX9_layOffs 66 = .ok (.iaload, 1) := by decide +kernel
theorem dX9_layOffs_67 : decode cX9_layOffs 67 = .ok (.iaload, 1) := by decide +kernel
theorem dX9_layOffs_68 : decode cX9_layOffs 68 = .ok (.istore_n 3, 1) := by decide +kernel
theorem dX9_layOffs_69 : decode cX9_layOffs 69 = .ok (.aload_n 0, 1) := by decide +kernel
theorem dX9_layOffs_70 : decode cX9_layOffs 70 = .ok (.getfield 95, 3) := by decide +kernel
theorem dX9_layOffs_73 : decode cX9_layOffs 73 = .ok (.aload_n 0, 1) := by decide +kernel
theorem dX9_layOffs_74 : decode cX9_layOffs 74 = .ok (.getfield 104, 3) := by decide +kernel
theorem dX9_layOffs_77 : decode cX9_layOffs 77 = .ok (.iload_n 2, 1) := by decide +kernel
theorem dX9_layOffs_78 : decode cX9_layOffs 78 = .ok (.iaload, 1) := by decide +kernel
theorem dX9_layOffs_79 : decode cX9_layOffs 79 = .ok (.iaload, 1) := by decide +kernel
theorem dX9_layOffs_80 : decode cX9_layOffs 80 = .ok (.istore 4, 2) := by decide +kernel
theorem dX9_layOffs_82 : decode cX9_layOffs 82 = .ok (.aload_n 0, 1) := by decide +kernel
theorem dX9_layOffs_83 : decode cX9_layOffs 83 = .ok (.getfield 107, 3) := by decide +kernel
theorem dX9_layOffs_86 : decode cX9_layOffs 86 = .ok (.iload_n 2, 1) := by decide +kernel
theorem dX9_layOffs_87 : decode cX9_layOffs 87 = .ok (.iaload, 1) := by decide +kernel
theorem dX9_layOffs_88 : decode cX9_layOffs 88 = .ok (.aload_n 0, 1) := by decide +kernel
theorem dX9_layOffs_89 : decode cX9_layOffs 89 = .ok (.getfield 98, 3) := by decide +kernel
theorem dX9_layOffs_92 : decode cX9_layOffs 92 = .ok (.aload_n 0, 1) := by decide +kernel
theorem dX9_layOffs_93 : decode cX9_layOffs 93 = .ok (.getfield 104, 3) := by decide +kernel
theorem dX9_layOffs_96 : decode cX9_layOffs 96 = .ok (.iload_n 2, 1) := by decide +kernel
theorem dX9_layOffs_97 : decode cX9_layOffs 97 = .ok (.iaload, 1) := by decide +kernel
theorem dX9_layOffs_98 : decode cX9_layOffs 98 = .ok (.iaload, 1) := by decide +kernel
theorem dX9_layOffs_99 : decode cX9_layOffs 99 = .ok (.isub, 1) := by decide +kernel
theorem dX9_layOffs_100 : decode cX9_layOffs 100 = .ok (.aload_n 0, 1) := by decide +kernel
theorem dX9_layOffs_101 : decode cX9_layOffs 101 = .ok (.getfield 98, 3) := by decide +kernel
theorem dX9_layOffs_104 : decode cX9_layOffs 104 = .ok (.aload_n 0, 1) := by decide +kernel
theorem dX9_layOffs_105 : decode cX9_layOffs 105 = .ok (.getfield 101, 3) := by decide +kernel
theorem dX9_layOffs_108 : decode cX9_layOffs 108 = .ok (.iload_n 2, 1) := by decide +kernel
theorem dX9_layOffs_109 : decode cX9_layOffs 109 = .ok (.iaload, 1) := by decide +kernel
theorem dX9_layOffs_110 : decode cX9_layOffs 110 = .ok (.iaload, 1) := by decide +kernel
theorem dX9_layOffs_111 : decode cX9_layOffs 111 = .ok (.iadd, 1) := by decide +kernel
theorem dX9_layOffs_112 : decode cX9_layOffs 112 = .ok (.istore 5, 2) := by decide +kernel
theorem dX9_layOffs_114 : decode cX9_layOffs 114 = .ok (.iload_n 3, 1) := by decide +kernel
theorem dX9_layOffs_115 : decode cX9_layOffs 115 = .ok (.iload 4, 2) := by decide +kernel
theorem dX9_layOffs_117 : decode cX9_layOffs 117 = .ok (.if_icmp .ne 10, 3) := by decide +kernel
theorem dX9_layOffs_120 : decode cX9_layOffs 120 = .ok (.iload 5, 2) := by decide +kernel
theorem dX9_layOffs_122 : decode cX9_layOffs 122 = .ok (.ifCond .le 5, 3) := by decide +kernel
theorem dX9_layOffs_125 : decode cX9_layOffs 125 = .ok (.iconst 0, 1) := by decide +kernel
theorem dX9_layOffs_126 : decode cX9_layOffs 126 = .ok (.ireturn, 1) := by decide +kernel
theorem dX9_layOffs_127 : decode cX9_layOffs 127 = .ok (.iload_n 3, 1) := by decide +kernel
theorem dX9_layOffs_128 : decode cX9_layOffs 128 = .ok (.iload 4, 2) := by decide +kernel
theorem dX9_layOffs_130 : decode cX9_layOffs 130 = .ok (.if_icmp .eq 40, 3) := by decide +kernel
theorem dX9_layOffs_133 : decode cX9_layOffs 133 = .ok (.aload_n 0, 1) := by decide +kernel
theorem dX9_layOffs_134 : decode cX9_layOffs 134 = .ok (.getfield 146, 3) := by decide +kernel
theorem dX9_layOffs_137 : decode cX9_layOffs 137 = .ok (.iload_n 3, 1) := by decide +kernel
theorem dX9_layOffs_138 : decode cX9_layOffs 138 = .ok (.iaload, 1) := by decide +kernel
theorem dX9_layOffs_139 : decode cX9_layOffs 139 = .ok (.iload 5, 2) := by decide +kernel
theorem dX9_layOffs_141 : decode cX9_layOffs 141 = .ok (.iadd, 1) := by decide +kernel
theorem dX9_layOffs_142 : decode cX9_layOffs 142 = .ok (.aload_n 0, 1) := by decide +kernel
theorem dX9_layOffs_143 : decode cX9_layOffs 143 = .ok (.getfield 146, 3) := by decide +kernel
theorem dX9_layOffs_146 : decode cX9_layOffs 146 = .ok (.iload 4, 2) := by decide +kernel
theorem dX9_layOffs_148 : decode cX9_layOffs 148 = .ok (.iaload, 1) := by decide +kernel
theorem dX9_layOffs_149 : decode cX9_layOffs 149 = .ok (.if_icmp .le 21, 3) := by decide +kernel
theorem dX9_layOffs_152 : decode cX9_layOffs 152 = .ok (.aload_n 0, 1) := by decide +kernel
theorem dX9_layOffs_153 : decode cX9_layOffs 153 = .ok (.getfield 146, 3) := by decide +kernel
theorem dX9_layOffs_156 : decode cX9_layOffs 156 = .ok (.iload 4, 2) := by decide +kernel
theorem dX9_layOffs_158 : decode cX9_layOffs 158 = .ok (.aload_n 0, 1) := by decide +kernel
theorem dX9_layOffs_159 : decode cX9_layOffs 159 = .ok (.getfield 146, 3) := by decide +kernel
theorem dX9_layOffs_162 : decode cX9_layOffs 162 = .ok (.iload_n 3, 1) := by decide +kernel
theorem dX9_layOffs_163 : decode cX9_layOffs 163 = .ok (.iaload, 1) := by decide +kernel
theorem dX9_layOffs_164 : decode cX9_layOffs 164 = .ok (.iload 5, 2) := by decide +kernel
theorem dX9_layOffs_166 : decode cX9_layOffs 166 = .ok (.iadd, 1) := by decide +kernel
theorem dX9_layOffs_167 : decode cX9_layOffs 167 = .ok (.iastore, 1) := by decide +kernel
theorem dX9_layOffs_168 : decode cX9_layOffs 168 = .ok (.iconst 1, 1) := by decide +kernel
theorem dX9_layOffs_169 : decode cX9_layOffs 169 = .ok (.istore_n 1, 1) := by decide +kernel
theorem dX9_layOffs_170 : decode cX9_layOffs 170 = .ok (.iload_n 3, 1) := by decide +kernel
theorem dX9_layOffs_171 : decode cX9_layOffs 171 = .ok (.iload 4, 2) := by decide +kernel
theorem dX9_layOffs_173 : decode cX9_layOffs 173 = .ok (.if_icmp .eq 40, 3) := by decide +kernel
theorem dX9_layOffs_176 : decode cX9_layOffs 176 = .ok (.aload_n 0, 1) := by decide +kernel
theorem dX9_layOffs_177 : decode cX9_layOffs 177 = .ok (.getfield 149, 3) := by decide +kernel
theorem dX9_layOffs_180 : decode cX9_layOffs 180 = .ok (.iload 4, 2) := by decide +kernel
theorem dX9_layOffs_182 : decode cX9_layOffs 182 = .ok (.iaload, 1) := by decide +kernel
theorem dX9_layOffs_183 : decode cX9_layOffs 183 = .ok (.iload 5, 2) := by decide +kernel
theorem dX9_layOffs_185 : decode cX9_layOffs 185 = .ok (.isub, 1) := by decide +kernel
theorem dX9_layOffs_186 : decode cX9_layOffs 186 = .ok (.aload_n 0, 1) := by decide +kernel
theorem dX9_layOffs_187 : decode cX9_layOffs 187 = .ok (.getfield 149, 3) := by decide +kernel
theorem dX9_layOffs_190 : decode cX9_layOffs 190 = .ok (.iload_n 3, 1) := by decide +kernel
theorem dX9_layOffs_191 : decode cX9_layOffs 191 = .ok (.iaload, 1) := by decide +kernel
theorem dX9_layOffs_192 : decode cX9_layOffs 192 = .ok (.if_icmp .ge 21, 3) := by decide +kernel
theorem dX9_layOffs_195 : decode cX9_layOffs 195 = .ok (.aload_n 0, 1) := by decide +kernel
theorem dX9_layOffs_196 : decode cX9_layOffs 196 = .ok (.getfield 149, 3) := by decide +kernel
theorem dX9_layOffs_199 : decode cX9_layOffs 199 = .ok (.iload_n 3, 1) := by decide +kernel
theorem dX9_layOffs_200 : decode cX9_layOffs 200 = .ok (.aload_n 0, 1) := by decide +kernel
theorem dX9_layOffs_201 : decode cX9_layOffs 201 = .ok (.getfield 149, 3) := by decide +kernel
theorem dX9_layOffs_204 : decode cX9_layOffs 204 = .ok (.iload 4, 2) := by decide +kernel
theorem dX9_layOffs_206 : decode cX9_layOffs 206 = .ok (.iaload, 1) := by decide +kernel
theorem dX9_layOffs_207 : decode cX9_layOffs 207 = .ok (.iload 5, 2) := by decide +kernel
theorem dX9_layOffs_209 : decode cX9_layOffs 209 = .ok (.isub, 1) := by decide +kernel
theorem dX9_layOffs_210 : decode cX9_layOffs 210 = .ok (.iastore, 1) := by decide +kernel
theorem dX9_layOffs_211 : decode cX9_layOffs 211 = .ok (.iconst 1, 1) := by decide +kernel
theorem dX9_layOffs_212 : decode cX9_layOffs 212 = .ok (.istore_n 1, 1) := by decide +kernel
theorem dX9_layOffs_213 : decode cX9_layOffs 213 = .ok (.aload_n 0, 1) := by decide +kernel
theorem dX9_layOffs_214 : decode cX9_layOffs 214 = .ok (.getfield 146, 3) := by decide +kernel
theorem dX9_layOffs_217 : decode cX9_layOffs 217 = .ok (.iload 4, 2) := by decide +kernel
theorem dX9_layOffs_219 : decode cX9_layOffs 219 = .ok (.iaload, 1) := by decide +kernel
theorem dX9_layOffs_220 : decode cX9_layOffs 220 = .ok (.aload_n 0, 1) := by decide +kernel
theorem dX9_layOffs_221 : decode cX9_layOffs 221 = .ok (.getfield 92, 3) := by decide +kernel
theorem dX9_layOffs_224 : decode cX9_layOffs 224 = .ok (.iload 4, 2) := by decide +kernel
theorem dX9_layOffs_226 : decode cX9_layOffs 226 = .ok (.iaload, 1) := by decide +kernel
theorem dX9_layOffs_227 : decode cX9_layOffs 227 = .ok (.if_icmp .gt 19, 3) := by decide +kernel
theorem dX9_layOffs_230 : decode cX9_layOffs 230 = .ok (.aload_n 0, 1) := by decide +kernel
theorem dX9_layOffs_231 : decode cX9_layOffs 231 = .ok (.getfield 149, 3) := by decide +kernel
theorem dX9_layOffs_234 : decode cX9_layOffs 234 = .ok (.iload_n 3, 1) := by decide +kernel
theorem dX9_layOffs_235 : decode cX9_layOffs 235 = .ok (.iaload, 1) := by decide +kernel
theorem dX9_layOffs_236 : decode cX9_layOffs 236 = .ok (.aload_n 0, 1) := by decide +kernel
theorem dX9_layOffs_237 : decode cX9_layOffs 237 = .ok (.getfield 92, 3) := by decide +kernel
theorem dX9_layOffs_240 : decode cX9_layOffs 240 = .ok (.iload_n 3, 1) := by decide +kernel
theorem dX9_layOffs_241 : decode cX9_layOffs 241 = .ok (.iaload, 1) := by decide +kernel
theorem dX9_layOffs_242 : decode cX9_layOffs 242 = .ok (.ineg, 1) := by decide +kernel
theorem dX9_layOffs_243 : decode cX9_layOffs 243 = .ok (.if_icmp .ge 5, 3) := by decide +kernel
theorem dX9_layOffs_246 : decode cX9_layOffs 246 = .ok (.iconst 0, 1) := by decide +kernel
theorem dX9_layOffs_247 : decode cX9_layOffs 247 = .ok (.ireturn, 1) := by decide +kernel
theorem dX9_layOffs_248 : decode cX9_layOffs 248 = .ok (.iinc 2 1, 3) := by decide +kernel
theorem dX9_layOffs_251 : decode cX9_layOffs 251 = .ok (.goto (-202), 3) := by decide +kernel
theorem dX9_layOffs_254 : decode cX9_layOffs 254 = .ok (.goto (-213), 3) := by decide +kernel
theorem dX9_layOffs_257 : decode cX9_layOffs 257 = .ok (.iconst 1, 1) := by decide +kernel
theorem dX9_layOffs_258 : decode cX9_layOffs 258 = .ok (.ireturn, 1) := by decide +kernel
theorem dX9_agree_0 : decode cX9_agree 0 = .ok (.aload_n 0, 1) := by decide +kernel
theorem dX9_agree_1 : decode cX9_agree 1 = .ok (.invokevirtual 389, 3) := by decide +kernel
theorem dX9_agree_4 : decode cX9_agree 4 = .ok (.ifCond .eq 7, 3) := by decide +kernel
theorem dX9_agree_7 : decode cX9_agree 7 = .ok (.iconst 1, 1) := by decide +kernel
theorem dX9_agree_8 : decode cX9_agree 8 = .ok (.goto 4, 3) := by decide +kernel
theorem dX9_agree_11 : decode cX9_agree 11 = .ok (.iconst 0, 1) := by decide +kernel
theorem dX9_agree_12 : decode cX9_agree 12 = .ok (.ireturn, 1) := by decide +kernel
end
section
theorem dX9_span_0 : decode cX9_span 0 = .ok (.aload_n 0, 1) := by decide +kernel
theorem dX9_span_1 : decode cX9_span 1 = .ok (.iload_n 1, 1) := by decide +kernel
theorem dX9_span_2 : decode cX9_span 2 = .ok (.invokevirtual 383, 3) := by decide +kernel
theorem dX9_span_5 : decode cX9_span 5 = .ok (.ifCond .eq 20, 3) := by decide +kernel
theorem dX9_span_8 : decode cX9_span 8 = .ok (.iload_n 2, 1) := by decide +kernel
theorem dX9_span_9 : decode cX9_span 9 = .ok (.i2l, 1) := by decide +kernel
theorem dX9_span_10 : decode cX9_span 10 = .ok (.lconst 0, 1) := by decide +kernel
theorem dX9_span_11 : decode cX9_span 11 = .ok (.lconst 1, 1) := by decide +kernel
theorem dX9_span_12 : decode cX9_span 12 = .ok (.invokestatic 154, 3) := by decide +kernel
theorem dX9_span_15 : decode cX9_span 15 = .ok (.ifCond .eq 10, 3) := by decide +kernel
theorem dX9_span_18 : decode cX9_span 18 = .ok (.aload_n 0, 1) := by decide +kernel
theorem dX9_span_19 : decode cX9_span 19 = .ok (.invokevirtual 389, 3) := by decide +kernel
theorem dX9_span_22 : decode cX9_span 22 = .ok (.ifCond .ne 7, 3) := by decide +kernel
theorem dX9_span_25 : decode cX9_span 25 = .ok (.ldc_w 318, 3) := by decide +kernel
theorem dX9_span_28 : decode cX9_span 28 = .ok (.ireturn, 1) := by decide +kernel
theorem dX9_span_29 : decode cX9_span 29 = .ok (.aload_n 0, 1) := by decide +kernel
theorem dX9_span_30 : decode cX9_span 30 = .ok (.getfield 98, 3) := by decide +kernel
theorem dX9_span_33 : decode cX9_span 33 = .ok (.iload_n 1, 1) := by decide +kernel
theorem dX9_span_34 : decode cX9_span 34 = .ok (.iaload, 1) := by decide +kernel
theorem dX9_span_35 : decode cX9_span 35 = .ok (.iload_n 2, 1) := by decide +kernel
theorem dX9_span_36 : decode cX9_span 36 = .ok (.ifCond .ne 17, 3) := by decide +kernel
theorem dX9_span_39 : decode cX9_span 39 = .ok (.aload_n 0, 1) := by decide +kernel
theorem dX9_span_40 : decode cX9_span 40 = .ok (.getfield 146, 3) := by decide +kernel
theorem dX9_span_43 : decode cX9_span 43 = .ok (.aload_n 0, 1) := by decide +kernel
theorem dX9_span_44 : decode cX9_span 44 = .ok (.getfield 95, 3) := by decide +kernel
theorem dX9_span_47 : decode cX9_span 47 = .ok (.iload_n 1, 1) := by decide +kernel
theorem dX9_span_48 : decode cX9_span 48 = .ok (.iaload, 1) := by decide +kernel
theorem dX9_span_49 : decode cX9_span 49 = .ok (.iaload, 1) := by decide +kernel
theorem dX9_span_50 : decode cX9_span 50 = .ok (.goto 14, 3) := by decide +kernel
theorem dX9_span_53 : decode cX9_span 53 = .ok (.aload_n 0, 1) := by decide +kernel
theorem dX9_span_54 : decode cX9_span 54 = .ok (.getfield 149, 3) := by decide +kernel
theorem dX9_span_57 : decode cX9_span 57 = .ok (.aload_n 0, 1) := by decide +kernel
theorem dX9_span_58 : decode cX9_span 58 = .ok (.getfield 95, 3) := by decide +kernel
theorem dX9_span_61 : decode cX9_span 61 = .ok (.iload_n 1, 1) := by decide +kernel
theorem dX9_span_62 : decode cX9_span 62 = .ok (.iaload, 1) := by decide +kernel
theorem dX9_span_63 : decode cX9_span 63 = .ok (.iaload, 1) := by decide +kernel
theorem dX9_span_64 : decode cX9_span 64 = .ok (.iadd, 1) := by decide +kernel
theorem dX9_span_65 : decode cX9_span 65 = .ok (.ireturn, 1) := by decide +kernel
theorem dX9_count_0 : decode cX9_count 0 = .ok (.iload_n 1, 1) := by decide +kernel
theorem dX9_count_1 : decode cX9_count 1 = .ok (.tableswitch 78 0 6 #[43, 48, 53, 58, 63, 68, 73], 43) := by decide +kernel
theorem dX9_count_44 : decode cX9_count 44 = .ok (.aload_n 0, 1) := by decide +kernel
theorem dX9_count_45 : decode cX9_count 45 = .ok (.getfield 46, 3) := by decide +kernel
theorem dX9_count_48 : decode cX9_count 48 = .ok (.ireturn, 1) := by decide +kernel
theorem dX9_count_49 : decode cX9_count 49 = .ok (.aload_n 0, 1) := by decide +kernel
theorem dX9_count_50 : decode cX9_count 50 = .ok (.getfield 254, 3) := by decide +kernel
theorem dX9_count_53 : decode cX9_count 53 = .ok (.ireturn, 1) := by decide +kernel
theorem dX9_count_54 : decode cX9_count 54 = .ok (.aload_n 0, 1) := by decide +kernel
theorem dX9_count_55 : decode cX9_count 55 = .ok (.getfield 262, 3) := by decide +kernel
theorem dX9_count_58 : decode cX9_count 58 = .ok (.ireturn, 1) := by decide +kernel
theorem dX9_count_59 : decode cX9_count 59 = .ok (.aload_n 0, 1) := by decide +kernel
theorem dX9_count_60 : decode cX9_count 60 = .ok (.getfield 340, 3) := by decide +kernel
theorem dX9_count_63 : decode cX9_count 63 = .ok (.ireturn, 1) := by decide +kernel
theorem dX9_count_64 : decode cX9_count 64 = .ok (.aload_n 0, 1) := by decide +kernel
theorem dX9_count_65 : decode cX9_count 65 = .ok (.getfield 380, 3) := by decide +kernel
theorem dX9_count_68 : decode cX9_count 68 = .ok (.ireturn, 1) := by decide +kernel
theorem dX9_count_69 : decode cX9_count 69 = .ok (.aload_n 0, 1) := by decide +kernel
theorem dX9_count_70 : decode cX9_count 70 = .ok (.getfield 386, 3) := by decide +kernel
theorem dX9_count_73 : decode cX9_count 73 = .ok (.ireturn, 1) := by decide +kernel
theorem dX9_count_74 : decode cX9_count 74 = .ok (.aload_n 0, 1) := by decide +kernel
theorem dX9_count_75 : decode cX9_count 75 = .ok (.getfield 170, 3) := by decide +kernel
theorem dX9_count_78 : decode cX9_count 78 = .ok (.ireturn, 1) := by decide +kernel
theorem dX9_count_79 : decode cX9_count 79 = .ok (.bipush (-3), 2) := by decide +kernel
theorem dX9_count_81 : decode cX9_count 81 = .ok (.ireturn, 1) := by decide +kernel
theorem dJ6_bitCount_0f7a4_0 : decode cJ6_bitCount_0f7a4 0 = .ok (.iload_n 0, 1) := by decide +kernel
theorem dJ6_bitCount_0f7a4_1 : decode cJ6_bitCount_0f7a4 1 = .ok (.iload_n 0, 1) := by decide +kernel
theorem dJ6_bitCount_0f7a4_2 : decode cJ6_bitCount_0f7a4 2 = .ok (.iconst 1, 1) := by decide +kernel
theorem dJ6_bitCount_0f7a4_3 : decode cJ6_bitCount_0f7a4 3 = .ok (.iushr, 1) := by decide +kernel
theorem dJ6_bitCount_0f7a4_4 : decode cJ6_bitCount_0f7a4 4 = .ok (.ldc_w 265, 3) := by decide +kernel
theorem dJ6_bitCount_0f7a4_7 : decode cJ6_bitCount_0f7a4 7 = .ok (.iand, 1) := by decide +kernel
theorem dJ6_bitCount_0f7a4_8 : decode cJ6_bitCount_0f7a4 8 = .ok (.isub, 1) := by decide +kernel
theorem dJ6_bitCount_0f7a4_9 : decode cJ6_bitCount_0f7a4 9 = .ok (.istore_n 0, 1) := by decide +kernel
theorem dJ6_bitCount_0f7a4_10 : decode cJ6_bitCount_0f7a4 10 = .ok (.iload_n 0, 1) := by decide +kernel
theorem dJ6_bitCount_0f7a4_11 : decode cJ6_bitCount_0f7a4 11 = .ok (.ldc_w 266, 3) := by decide +kernel
theorem dJ6_bitCount_0f7a4_14 : decode cJ6_bitCount_0f7a4 14 = .ok (.iand, 1) := by decide +kernel
theorem dJ6_bitCount_0f7a4_15 : decode cJ6_bitCount_0f7a4 15 = .ok (.iload_n 0, 1) := by decide +kernel
theorem dJ6_bitCount_0f7a4_16 : decode cJ6_bitCount_0f7a4 16 = .ok (.iconst 2, 1) := by decide +kernel
theorem dJ6_bitCount_0f7a4_17 : decode cJ6_bitCount_0f7a4 17 = .ok (.iushr, 1) := by decide +kernel
theorem dJ6_bitCount_0f7a4_18 : decode cJ6_bitCount_0f7a4 18 = .ok (.ldc_w 266, 3) := by decide +kernel
theorem dJ6_bitCount_0f7a4_21 : decode cJ6_bitCount_0f7a4 21 = .ok (.iand, 1) := by decide +kernel
theorem dJ6_bitCount_0f7a4_22 : decode cJ6_bitCount_0f7a4 22 = .ok (.iadd, 1) := by decide +kernel
theorem dJ6_bitCount_0f7a4_23 : decode cJ6_bitCount_0f7a4 23 = .ok (.istore_n 0, 1) := by decide +kernel
theorem dJ6_bitCount_0f7a4_24 : decode cJ6_bitCount_0f7a4 24 = .ok (.iload_n 0, 1) := by decide +kernel
theorem dJ6_bitCount_0f7a4_25 : decode cJ6_bitCount_0f7a4 25 = .ok (.iload_n 0, 1) := by decide +kernel
theorem dJ6_bitCount_0f7a4_26 : decode cJ6_bitCount_0f7a4 26 = .ok (.iconst 4, 1) := by decide +kernel
theorem dJ6_bitCount_0f7a4_27 : decode cJ6_bitCount_0f7a4 27 = .ok (.iushr, 1) := by decide +kernel
theorem dJ6_bitCount_0f7a4_28 : decode cJ6_bitCount_0f7a4 28 = .ok (.iadd, 1) := by decide +kernel
theorem dJ6_bitCount_0f7a4_29 : decode cJ6_bitCount_0f7a4 29 = .ok (.ldc_w 267, 3) := by decide +kernel
theorem dJ6_bitCount_0f7a4_32 : decode cJ6_bitCount_0f7a4 32 = .ok (.iand, 1) := by decide +kernel
theorem dJ6_bitCount_0f7a4_33 : decode cJ6_bitCount_0f7a4 33 = .ok (.istore_n 0, 1) := by decide +kernel
theorem dJ6_bitCount_0f7a4_34 : decode cJ6_bitCount_0f7a4 34 = .ok (.iload_n 0, 1) := by decide +kernel
theorem dJ6_bitCount_0f7a4_35 : decode cJ6_bitCount_0f7a4 35 = .ok (.iload_n 0, 1) := by decide +kernel
theorem dJ6_bitCount_0f7a4_36 : decode cJ6_bitCount_0f7a4 36 = .ok (.bipush 8, 2) := by decide +kernel
theorem dJ6_bitCount_0f7a4_38 : decode cJ6_bitCount_0f7a4 38 = .ok (.iushr, 1) := by decide +kernel
theorem dJ6_bitCount_0f7a4_39 : decode cJ6_bitCount_0f7a4 39 = .ok (.iadd, 1) := by decide +kernel
theorem dJ6_bitCount_0f7a4_40 : decode cJ6_bitCount_0f7a4 40 = .ok (.istore_n 0, 1) := by decide +kernel
theorem dJ6_bitCount_0f7a4_41 : decode cJ6_bitCount_0f7a4 41 = .ok (.iload_n 0, 1) := by decide +kernel
theorem dJ6_bitCount_0f7a4_42 : decode cJ6_bitCount_0f7a4 42 = .ok (.iload_n 0, 1) := by decide +kernel
theorem dJ6_bitCount_0f7a4_43 : decode cJ6_bitCount_0f7a4 43 = .ok (.bipush 16, 2) := by decide +kernel
theorem dJ6_bitCount_0f7a4_45 : decode cJ6_bitCount_0f7a4 45 = .ok (.iushr, 1) := by decide +kernel
theorem dJ6_bitCount_0f7a4_46 : decode cJ6_bitCount_0f7a4 46 = .ok (.iadd, 1) := by decide +kernel
theorem dJ6_bitCount_0f7a4_47 : decode cJ6_bitCount_0f7a4 47 = .ok (.istore_n 0, 1) := by decide +kernel
theorem dJ6_bitCount_0f7a4_48 : decode cJ6_bitCount_0f7a4 48 = .ok (.iload_n 0, 1) := by decide +kernel
theorem dJ6_bitCount_0f7a4_49 : decode cJ6_bitCount_0f7a4 49 = .ok (.bipush 63, 2) := by decide +kernel
theorem dJ6_bitCount_0f7a4_51 : decode cJ6_bitCount_0f7a4 51 = .ok (.iand, 1) := by decide +kernel
theorem dJ6_bitCount_0f7a4_52 : decode cJ6_bitCount_0f7a4 52 = .ok (.ireturn, 1) := by decide +kernel
theorem dJ9_floorDiv_7cf53_0 : decode cJ9_floorDiv_7cf53 0 = .ok (.iload_n 0, 1) := by decide +kernel
theorem dJ9_floorDiv_7cf53_1 : decode cJ9_floorDiv_7cf53 1 = .ok (.iload_n 1, 1) := by decide +kernel
theorem dJ9_floorDiv_7cf53_2 : decode cJ9_floorDiv_7cf53 2 = .ok (.idiv, 1) := by decide +kernel
theorem dJ9_floorDiv_7cf53_3 : decode cJ9_floorDiv_7cf53 3 = .ok (.istore_n 2, 1) := by decide +kernel
theorem dJ9_floorDiv_7cf53_4 : decode cJ9_floorDiv_7cf53 4 = .ok (.iload_n 0, 1) := by decide +kernel
theorem dJ9_floorDiv_7cf53_5 : decode cJ9_floorDiv_7cf53 5 = .ok (.iload_n 1, 1) := by decide +kernel
theorem dJ9_floorDiv_7cf53_6 : decode cJ9_floorDiv_7cf53 6 = .ok (.ixor, 1) := by decide +kernel
theorem dJ9_floorDiv_7cf53_7 : decode cJ9_floorDiv_7cf53 7 = .ok (.ifCond .ge 14, 3) := by decide +kernel
theorem dJ9_floorDiv_7cf53_10 : decode cJ9_floorDiv_7cf53 10 = .ok (.iload_n 2, 1) := by decide +kernel
theorem dJ9_floorDiv_7cf53_11 : decode cJ9_floorDiv_7cf53 11 = .ok (.iload_n 1, 1) := by decide +kernel
theorem dJ9_floorDiv_7cf53_12 : decode cJ9_floorDiv_7cf53 12 = .ok (.imul, 1) := by decide +kernel
theorem dJ9_floorDiv_7cf53_13 : decode cJ9_floorDiv_7cf53 13 = .ok (.iload_n 0, 1) := by decide +kernel
theorem dJ9_floorDiv_7cf53_14 : decode cJ9_floorDiv_7cf53 14 = .ok (.if_icmp .eq 7, 3) := by decide +kernel
theorem dJ9_floorDiv_7cf53_17 : decode cJ9_floorDiv_7cf53 17 = .ok (.iload_n 2, 1) := by decide +kernel
theorem dJ9_floorDiv_7cf53_18 : decode cJ9_floorDiv_7cf53 18 = .ok (.iconst 1, 1) := by decide +kernel
theorem dJ9_floorDiv_7cf53_19 : decode cJ9_floorDiv_7cf53 19 = .ok (.isub, 1) := by decide +kernel
theorem dJ9_floorDiv_7cf53_20 : decode cJ9_floorDiv_7cf53 20 = .ok (.ireturn, 1) := by decide +kernel
theorem dJ9_floorDiv_7cf53_21 : decode cJ9_floorDiv_7cf53 21 = .ok (.iload_n 2, 1) := by decide +kernel
theorem dJ9_floorDiv_7cf53_22 : decode cJ9_floorDiv_7cf53 22 = .ok (.ireturn, 1) := by decide +kernel
theorem dJ9_floorMod_7cf53_0 : decode cJ9_floorMod_7cf53 0 = .ok (.iload_n 0, 1) := by decide +kernel
theorem dJ9_floorMod_7cf53_1 : decode cJ9_floorMod_7cf53 1 = .ok (.iload_n 1, 1) := by decide +kernel
theorem dJ9_floorMod_7cf53_2 : decode cJ9_floorMod_7cf53 2 = .ok (.irem, 1) := by decide +kernel
theorem dJ9_floorMod_7cf53_3 : decode cJ9_floorMod_7cf53 3 = .ok (.istore_n 2, 1) := by decide +kernel
theorem dJ9_floorMod_7cf53_4 : decode cJ9_floorMod_7cf53 4 = .ok (.iload_n 0, 1) := by decide +kernel
theorem dJ9_floorMod_7cf53_5 : decode cJ9_floorMod_7cf53 5 = .ok (.iload_n 1, 1) := by decide +kernel
theorem dJ9_floorMod_7cf53_6 : decode cJ9_floorMod_7cf53 6 = .ok (.ixor, 1) := by decide +kernel
theorem dJ9_floorMod_7cf53_7 : decode cJ9_floorMod_7cf53 7 = .ok (.ifCond .ge 11, 3) := by decide +kernel
theorem dJ9_floorMod_7cf53_10 : decode cJ9_floorMod_7cf53 10 = .ok (.iload_n 2, 1) := by decide +kernel
theorem dJ9_floorMod_7cf53_11 : decode cJ9_floorMod_7cf53 11 = .ok (.ifCond .eq 7, 3) := by decide +kernel
theorem dJ9_floorMod_7cf53_14 : decode cJ9_floorMod_7cf53 14 = .ok (.iload_n 2, 1) := by decide +kernel
theorem dJ9_floorMod_7cf53_15 : decode cJ9_floorMod_7cf53 15 = .ok (.iload_n 1, 1) := by decide +kernel
theorem dJ9_floorMod_7cf53_16 : decode cJ9_floorMod_7cf53 16 = .ok (.iadd, 1) := by decide +kernel
theorem dJ9_floorMod_7cf53_17 : decode cJ9_floorMod_7cf53 17 = .ok (.ireturn, 1) := by decide +kernel
theorem dJ9_floorMod_7cf53_18 : decode cJ9_floorMod_7cf53 18 = .ok (.iload_n 2, 1) := by decide +kernel
theorem dJ9_floorMod_7cf53_19 : decode cJ9_floorMod_7cf53 19 = .ok (.ireturn, 1) := by decide +kernel
theorem dJ9_max_7cf53_0 : decode cJ9_max_7cf53 0 = .ok (.iload_n 0, 1) := by decide +kernel
theorem dJ9_max_7cf53_1 : decode cJ9_max_7cf53 1 = .ok (.iload_n 1, 1) := by decide +kernel
theorem dJ9_max_7cf53_2 : decode cJ9_max_7cf53 2 = .ok (.if_icmp .lt 7, 3) := by decide +kernel
theorem dJ9_max_7cf53_5 : decode cJ9_max_7cf53 5 = .ok (.iload_n 0, 1) := by decide +kernel
theorem dJ9_max_7cf53_6 : decode cJ9_max_7cf53 6 = .ok (.goto 4, 3) := by decide +kernel
theorem dJ9_max_7cf53_9 : decode cJ9_max_7cf53 9 = .ok (.iload_n 1, 1) := by decide +kernel
theorem dJ9_max_7cf53_10 : decode cJ9_max_7cf53 10 = .ok (.ireturn, 1) := by decide +kernel
theorem dJ9_min_7cf53_0 : decode cJ9_min_7cf53 0 = .ok (.iload_n 0, 1) := by decide +kernel
theorem dJ9_min_7cf53_1 : decode cJ9_min_7cf53 1 = .ok (.iload_n 1, 1) := by decide +kernel
theorem dJ9_min_7cf53_2 : decode cJ9_min_7cf53 2 = .ok (.if_icmp .gt 7, 3) := by decide +kernel
theorem dJ9_min_7cf53_5 : decode cJ9_min_7cf53 5 = .ok (.iload_n 0, 1) := by decide +kernel
theorem dJ9_min_7cf53_6 : decode cJ9_min_7cf53 6 = .ok (.goto 4, 3) := by decide +kernel
theorem dJ9_min_7cf53_9 : decode cJ9_min_7cf53 9 = .ok (.iload_n 1, 1) := by decide +kernel
theorem dJ9_min_7cf53_10 : decode cJ9_min_7cf53 10 = .ok (.ireturn, 1) := by decide +kernel
theorem dJ0_length_8abf5_0 : decode cJ0_length_8abf5 0 = .ok (.aload_n 0, 1) := by decide +kernel
theorem dJ0_length_8abf5_1 : decode cJ0_length_8abf5 1 = .ok (.getfield 9, 3) := by decide +kernel
theorem dJ0_length_8abf5_4 : decode cJ0_length_8abf5 4 = .ok (.arraylength, 1) := by decide +kernel
theorem dJ0_length_8abf5_5 : decode cJ0_length_8abf5 5 = .ok (.aload_n 0, 1) := by decide +kernel
theorem dJ0_length_8abf5_6 : decode cJ0_length_8abf5 6 = .ok (.invokevirtual 335, 3) := by decide +kernel
theorem dJ0_length_8abf5_9 : decode cJ0_length_8abf5 9 = .ok (.ishr, 1) := by decide +kernel
theorem dJ0_length_8abf5_10 : decode cJ0_length_8abf5 10 = .ok (.ireturn, 1) := by decide +kernel
theorem dJ0_charAt_5068e_0 : decode cJ0_charAt_5068e 0 = .ok (.aload_n 0, 1) := by decide +kernel
theorem dJ0_charAt_5068e_1 : decode cJ0_charAt_5068e 1 = .ok (.invokevirtual 492, 3) := by decide +kernel
theorem dJ0_charAt_5068e_4 : decode cJ0_charAt_5068e 4 = .ok (.ifCond .eq 12, 3) := by decide +kernel
theorem dJ0_charAt_5068e_7 : decode cJ0_charAt_5068e 7 = .ok (.aload_n 0, 1) := by decide +kernel
theorem dJ0_charAt_5068e_8 : decode cJ0_charAt_5068e 8 = .ok (.getfield 9, 3) := by decide +kernel
theorem dJ0_charAt_5068e_11 : decode cJ0_charAt_5068e 11 = .ok (.iload_n 1, 1) := by decide +kernel
theorem dJ0_charAt_5068e_12 : decode cJ0_charAt_5068e 12 = .ok (.invokestatic 495, 3) := by decide +kernel
theorem dJ0_charAt_5068e_15 : decode cJ0_charAt_5068e 15 = .ok (.ireturn, 1) := by decide +kernel
theorem dJ0_charAt_5068e_16 : decode cJ0_charAt_5068e 16 = .ok (.aload_n 0, 1) := by decide +kernel
theorem dJ0_charAt_5068e_17 : decode cJ0_charAt_5068e 17 = .ok (.getfield 9, 3) := by decide +kernel
theorem dJ0_charAt_5068e_20 : decode cJ0_charAt_5068e 20 = .ok (.iload_n 1, 1) := by decide +kernel
theorem dJ0_charAt_5068e_21 : decode cJ0_charAt_5068e 21 = .ok (.invokestatic 498, 3) := by decide +kernel
theorem dJ0_charAt_5068e_24 : decode cJ0_charAt_5068e 24 = .ok (.ireturn, 1) := by decide +kernel
theorem dJ0_coder_7d493_0 : decode cJ0_coder_7d493 0 = .ok (.getstatic 38, 3) := by decide +kernel
theorem dJ0_coder_7d493_3 : decode cJ0_coder_7d493 3 = .ok (.ifCond .eq 10, 3) := by decide +kernel
theorem dJ0_coder_7d493_6 : decode cJ0_coder_7d493 6 = .ok (.aload_n 0, 1) := by decide +kernel
theorem dJ0_coder_7d493_7 : decode cJ0_coder_7d493 7 = .ok (.getfield 15, 3) := by decide +kernel
theorem dJ0_coder_7d493_10 : decode cJ0_coder_7d493 10 = .ok (.goto 4, 3) := by decide +kernel
theorem dJ0_coder_7d493_13 : decode cJ0_coder_7d493 13 = .ok (.iconst 1, 1) := by decide +kernel
theorem dJ0_coder_7d493_14 : decode cJ0_coder_7d493 14 = .ok (.ireturn, 1) := by decide +kernel
theorem dJ0_isLatin1_aae02_0 : decode cJ0_isLatin1_aae02 0 = .ok (.getstatic 38, 3) := by decide +kernel
theorem dJ0_isLatin1_aae02_3 : decode cJ0_isLatin1_aae02 3 = .ok (.ifCond .eq 14, 3) := by decide +kernel
theorem dJ0_isLatin1_aae02_6 : decode cJ0_isLatin1_aae02 6 = .ok (.aload_n 0, 1) := by decide +kernel
theorem dJ0_isLatin1_aae02_7 : decode cJ0_isLatin1_aae02 7 = .ok (.getfield 15, 3) := by decide +kernel
theorem dJ0_isLatin1_aae02_10 : decode cJ0_isLatin1_aae02 10 = .ok (.ifCond .ne 7, 3) := by decide +kernel
theorem dJ0_isLatin1_aae02_13 : decode cJ0_isLatin1_aae02 13 = .ok (.iconst 1, 1) := by decide +kernel
theorem dJ0_isLatin1_aae02_14 : decode cJ0_isLatin1_aae02 14 = .ok (.goto 4, 3) := by decide +kernel
theorem dJ0_isLatin1_aae02_17 : decode cJ0_isLatin1_aae02 17 = .ok (.iconst 0, 1) := by decide +kernel
theorem dJ0_isLatin1_aae02_18 : decode cJ0_isLatin1_aae02 18 = .ok (.ireturn, 1) := by decide +kernel
theorem dJ0_checkIndex_df160_0 : decode cJ0_checkIndex_df160 0 = .ok (.iload_n 0, 1) := by decide +kernel
theorem dJ0_checkIndex_df160_1 : decode cJ0_checkIndex_df160 1 = .ok (.iload_n 1, 1) := by decide +kernel
theorem dJ0_checkIndex_df160_2 : decode cJ0_checkIndex_df160 2 = .ok (.getstatic 1053, 3) := by decide +kernel
theorem dJ0_checkIndex_df160_5 : decode cJ0_checkIndex_df160 5 = .ok (.invokestatic 1059, 3) := by decide +kernel
theorem dJ0_checkIndex_df160_8 : decode cJ0_checkIndex_df160 8 = .ok (.pop, 1) := by decide +kernel
theorem dJ0_checkIndex_df160_9 : decode cJ0_checkIndex_df160 9 = .ok (.return_, 1) := by decide +kernel
theorem dJ1_charAt_3b067_0 : decode cJ1_charAt_3b067 0 = .ok (.iload_n 1, 1) := by decide +kernel
theorem dJ1_charAt_3b067_1 : decode cJ1_charAt_3b067 1 = .ok (.aload_n 0, 1) := by decide +kernel
theorem dJ1_charAt_3b067_2 : decode cJ1_charAt_3b067 2 = .ok (.arraylength, 1) := by decide +kernel
theorem dJ1_charAt_3b067_3 : decode cJ1_charAt_3b067 3 = .ok (.invokestatic 9, 3) := by decide +kernel
theorem dJ1_charAt_3b067_6 : decode cJ1_charAt_3b067 6 = .ok (.aload_n 0, 1) := by decide +kernel
theorem dJ1_charAt_3b067_7 : decode cJ1_charAt_3b067 7 = .ok (.iload_n 1, 1) := by decide +kernel
theorem dJ1_charAt_3b067_8 : decode cJ1_charAt_3b067 8 = .ok (.baload, 1) := by decide +kernel
theorem dJ1_charAt_3b067_9 : decode cJ1_charAt_3b067 9 = .ok (.sipush 255, 3) := by decide +kernel
theorem dJ1_charAt_3b067_12 : decode cJ1_charAt_3b067 12 = .ok (.iand, 1) := by decide +kernel
theorem dJ1_charAt_3b067_13 : decode cJ1_charAt_3b067 13 = .ok (.i2c, 1) := by decide +kernel
theorem dJ1_charAt_3b067_14 : decode cJ1_charAt_3b067 14 = .ok (.ireturn, 1) := by decide +kernel
theorem dJ2_getChar_3b067_0 : decode cJ2_getChar_3b067 0 = .ok (.getstatic 44, 3) := by decide +kernel
theorem dJ2_getChar_3b067_3 : decode cJ2_getChar_3b067 3 = .ok (.ifCond .ne 25, 3) := by decide +kernel
theorem dJ2_getChar_3b067_6 : decode cJ2_getChar_3b067 6 = .ok (.iload_n 1, 1) := by decide +kernel
theorem dJ2_getChar_3b067_7 : decode cJ2_getChar_3b067 7 = .ok (.ifCond .lt 11, 3) := by decide +kernel
theorem dJ2_getChar_3b067_10 : decode cJ2_getChar_3b067 10 = .ok (.iload_n 1, 1) := by decide +kernel
theorem dJ2_getChar_3b067_11 : decode cJ2_getChar_3b067 11 = .ok (.aload_n 0, 1) := by decide +kernel
theorem dJ2_getChar_3b067_12 : decode cJ2_getChar_3b067 12 = .ok (.invokestatic 48, 3) := by decide +kernel
theorem dJ2_getChar_3b067_15 : decode cJ2_getChar_3b067 15 = .ok (.if_icmp .lt 13, 3) := by decide +kernel
theorem dJ2_getChar_3b067_18 : decode cJ2_getChar_3b067 18 = .ok (.new 52, 3) := by decide +kernel
theorem dJ2_getChar_3b067_21 : decode cJ2_getChar_3b067 21 = .ok (.dup, 1) := by decide +kernel
theorem dJ2_getChar_3b067_22 : decode cJ2_getChar_3b067 22 = .ok (.ldc 54, 2) := by decide +kernel
theorem dJ2_getChar_3b067_24 : decode cJ2_getChar_3b067 24 = .ok (.invokespecial 56, 3) := by decide +kernel
theorem dJ2_getChar_3b067_27 : decode cJ2_getChar_3b067 27 = .ok (.athrow, 1) := by decide +kernel
theorem dJ2_getChar_3b067_28 : decode cJ2_getChar_3b067 28 = .ok (.iload_n 1, 1) := by decide +kernel
theorem dJ2_getChar_3b067_29 : decode cJ2_getChar_3b067 29 = .ok (.iconst 1, 1) := by decide +kernel
theorem dJ2_getChar_3b067_30 : decode cJ2_getChar_3b067 30 = .ok (.ishl, 1) := by decide +kernel
theorem dJ2_getChar_3b067_31 : decode cJ2_getChar_3b067 31 = .ok (.istore_n 1, 1) := by decide +kernel
theorem dJ2_getChar_3b067_32 : decode cJ2_getChar_3b067 32 = .ok (.aload_n 0, 1) := by decide +kernel
theorem dJ2_getChar_3b067_33 : decode cJ2_getChar_3b067 33 = .ok (.iload_n 1, 1) := by decide +kernel
theorem dJ2_getChar_3b067_34 : decode cJ2_getChar_3b067 34 = .ok (.iinc 1 1, 3) := by decide +kernel
theorem dJ2_getChar_3b067_37 : decode cJ2_getChar_3b067 37 = .ok (.baload, 1) := by decide +kernel
theorem dJ2_getChar_3b067_38 : decode cJ2_getChar_3b067 38 = .ok (.sipush 255, 3) := by decide +kernel
theorem dJ2_getChar_3b067_41 : decode cJ2_getChar_3b067 41 = .ok (.iand, 1) := by decide +kernel
theorem dJ2_getChar_3b067_42 : decode cJ2_getChar_3b067 42 = .ok (.getstatic 59, 3) := by decide +kernel
theorem dJ2_getChar_3b067_45 : decode cJ2_getChar_3b067 45 = .ok (.ishl, 1) := by decide +kernel
theorem dJ2_getChar_3b067_46 : decode cJ2_getChar_3b067 46 = .ok (.aload_n 0, 1) := by decide +kernel
theorem dJ2_getChar_3b067_47 : decode cJ2_getChar_3b067 47 = .ok (.iload_n 1, 1) := by decide +kernel
theorem dJ2_getChar_3b067_48 : decode cJ2_getChar_3b067 48 = .ok (.baload, 1) := by decide +kernel
theorem dJ2_getChar_3b067_49 : decode cJ2_getChar_3b067 49 = .ok (.sipush 255, 3) := by decide +kernel
theorem dJ2_getChar_3b067_52 : decode cJ2_getChar_3b067 52 = .ok (.iand, 1) := by decide +kernel
theorem dJ2_getChar_3b067_53 : decode cJ2_getChar_3b067 53 = .ok (.getstatic 63, 3) := by decide +kernel
theorem dJ2_getChar_3b067_56 : decode cJ2_getChar_3b067 56 = .ok (.ishl, 1) := by decide +kernel
theorem dJ2_getChar_3b067_57 : decode cJ2_getChar_3b067 57 = .ok (.ior, 1) := by decide +kernel
theorem dJ2_getChar_3b067_58 : decode cJ2_getChar_3b067 58 = .ok (.i2c, 1) := by decide +kernel
theorem dJ2_getChar_3b067_59 : decode cJ2_getChar_3b067 59 = .ok (.ireturn, 1) := by decide +kernel
theorem dJ2_length_9d52b_0 : decode cJ2_length_9d52b 0 = .ok (.aload_n 0, 1) := by decide +kernel
theorem dJ2_length_9d52b_1 : decode cJ2_length_9d52b 1 = .ok (.arraylength, 1) := by decide +kernel
theorem dJ2_length_9d52b_2 : decode cJ2_length_9d52b 2 = .ok (.iconst 1, 1) := by decide +kernel
theorem dJ2_length_9d52b_3 : decode cJ2_length_9d52b 3 = .ok (.ishr, 1) := by decide +kernel
theorem dJ2_length_9d52b_4 : decode cJ2_length_9d52b 4 = .ok (.ireturn, 1) := by decide +kernel
theorem dJ2_charAt_3b067_0 : decode cJ2_charAt_3b067 0 = .ok (.iload_n 1, 1) := by decide +kernel
theorem dJ2_charAt_3b067_1 : decode cJ2_charAt_3b067 1 = .ok (.aload_n 0, 1) := by decide +kernel
theorem dJ2_charAt_3b067_2 : decode cJ2_charAt_3b067 2 = .ok (.invokestatic 67, 3) := by decide +kernel
theorem dJ2_charAt_3b067_5 : decode cJ2_charAt_3b067 5 = .ok (.aload_n 0, 1) := by decide +kernel
theorem dJ2_charAt_3b067_6 : decode cJ2_charAt_3b067 6 = .ok (.iload_n 1, 1) := by decide +kernel
theorem dJ2_charAt_3b067_7 : decode cJ2_charAt_3b067 7 = .ok (.invokestatic 71, 3) := by decide +kernel
theorem dJ2_charAt_3b067_10 : decode cJ2_charAt_3b067 10 = .ok (.ireturn, 1) := by decide +kernel
theorem dJ2_checkIndex_2214a_0 : decode cJ2_checkIndex_2214a 0 = .ok (.iload_n 0, 1) := by decide +kernel
theorem dJ2_checkIndex_2214a_1 : decode cJ2_checkIndex_2214a 1 = .ok (.aload_n 1, 1) := by decide +kernel
theorem dJ2_checkIndex_2214a_2 : decode cJ2_checkIndex_2214a 2 = .ok (.invokestatic 48, 3) := by decide +kernel
theorem dJ2_checkIndex_2214a_5 : decode cJ2_checkIndex_2214a 5 = .ok (.invokestatic 414, 3) := by decide +kernel
theorem dJ2_checkIndex_2214a_8 : decode cJ2_checkIndex_2214a 8 = .ok (.return_, 1) := by decide +kernel
theorem dJ3_checkIndex_8e157_0 : decode cJ3_checkIndex_8e157 0 = .ok (.iload_n 0, 1) := by decide +kernel
theorem dJ3_checkIndex_8e157_1 : decode cJ3_checkIndex_8e157 1 = .ok (.ifCond .lt 8, 3) := by decide +kernel
theorem dJ3_checkIndex_8e157_4 : decode cJ3_checkIndex_8e157 4 = .ok (.iload_n 0, 1) := by decide +kernel
theorem dJ3_checkIndex_8e157_5 : decode cJ3_checkIndex_8e157 5 = .ok (.iload_n 1, 1) := by decide +kernel
theorem dJ3_checkIndex_8e157_6 : decode cJ3_checkIndex_8e157 6 = .ok (.if_icmp .lt 10, 3) := by decide +kernel
theorem dJ3_checkIndex_8e157_9 : decode cJ3_checkIndex_8e157 9 = .ok (.aload_n 2, 1) := by decide +kernel
theorem dJ3_checkIndex_8e157_10 : decode cJ3_checkIndex_8e157 10 = .ok (.iload_n 0, 1) := by decide +kernel
theorem dJ3_checkIndex_8e157_11 : decode cJ3_checkIndex_8e157 11 = .ok (.iload_n 1, 1) := by decide +kernel
theorem dJ3_checkIndex_8e157_12 : decode cJ3_checkIndex_8e157 12 = .ok (.invokestatic 95, 3) := by decide +kernel
theorem dJ3_checkIndex_8e157_15 : decode cJ3_checkIndex_8e157 15 = .ok (.athrow, 1) := by decide +kernel
theorem dJ3_checkIndex_8e157_16 : decode cJ3_checkIndex_8e157 16 = .ok (.iload_n 0, 1) := by decide +kernel
theorem dJ3_checkIndex_8e157_17 : decode cJ3_checkIndex_8e157 17 = .ok (.ireturn, 1) := by decide +kernel
end
