-- ===== PART A: goes FIRST, ahead of the names: the tables' words, and 'selects' of the private methods out of them =====
/-- a private method of a class that the tables say can be made, by its rows of tables_1 -/
def lw_okq (q : MethodName × Nat) : Prop := (q.1.cls ≠ "java/lang/invoke/MethodHandle" ∧ q.1.cls ≠ "java/lang/invoke/VarHandle") ∧ Cond.instantiable q.1.cls q.2 ∈ tables_1 ∧ Cond.privateMethod q.1 ∈ tables_1 ∧ Cond.instanceMethod q.1 ∈ tables_1
theorem lw_p0 : lw_okq (⟨"OwedDays", "debtComes", "(LOwedDays$Shelf;J)Z"⟩, 12) := ⟨⟨by decide +kernel, by decide +kernel⟩, List.mem_of_getElem? (i := 15) (by decide +kernel), List.mem_of_getElem? (i := 362) (by decide +kernel), List.mem_of_getElem? (i := 363) (by decide +kernel)⟩
theorem lw_p1 : lw_okq (⟨"OwedDays$Changes", "forgetOldest", "()V"⟩, 6) := ⟨⟨by decide +kernel, by decide +kernel⟩, List.mem_of_getElem? (i := 51) (by decide +kernel), List.mem_of_getElem? (i := 392) (by decide +kernel), List.mem_of_getElem? (i := 393) (by decide +kernel)⟩
theorem lw_p2 : lw_okq (⟨"OwedDays", "ofDebt", "(II)I"⟩, 12) := ⟨⟨by decide +kernel, by decide +kernel⟩, List.mem_of_getElem? (i := 15) (by decide +kernel), List.mem_of_getElem? (i := 412) (by decide +kernel), List.mem_of_getElem? (i := 413) (by decide +kernel)⟩
theorem lw_p3 : lw_okq (⟨"OwedDays", "ofPerson", "(II)I"⟩, 12) := ⟨⟨by decide +kernel, by decide +kernel⟩, List.mem_of_getElem? (i := 15) (by decide +kernel), List.mem_of_getElem? (i := 418) (by decide +kernel), List.mem_of_getElem? (i := 419) (by decide +kernel)⟩
theorem lw_p4 : lw_okq (⟨"OwedDays", "ofAsk", "(II)I"⟩, 12) := ⟨⟨by decide +kernel, by decide +kernel⟩, List.mem_of_getElem? (i := 15) (by decide +kernel), List.mem_of_getElem? (i := 439) (by decide +kernel), List.mem_of_getElem? (i := 440) (by decide +kernel)⟩
theorem lw_p5 : lw_okq (⟨"OwedDays$Law", "faultOfTape", "()I"⟩, 15) := ⟨⟨by decide +kernel, by decide +kernel⟩, List.mem_of_getElem? (i := 78) (by decide +kernel), List.mem_of_getElem? (i := 459) (by decide +kernel), List.mem_of_getElem? (i := 460) (by decide +kernel)⟩
theorem lw_p6 : lw_okq (⟨"OwedDays$Law", "takeForOperand", "(I)Z"⟩, 15) := ⟨⟨by decide +kernel, by decide +kernel⟩, List.mem_of_getElem? (i := 78) (by decide +kernel), List.mem_of_getElem? (i := 463) (by decide +kernel), List.mem_of_getElem? (i := 464) (by decide +kernel)⟩
theorem lw_p7 : lw_okq (⟨"OwedDays$Law", "endOperand", "(II)V"⟩, 15) := ⟨⟨by decide +kernel, by decide +kernel⟩, List.mem_of_getElem? (i := 78) (by decide +kernel), List.mem_of_getElem? (i := 471) (by decide +kernel), List.mem_of_getElem? (i := 472) (by decide +kernel)⟩
theorem lw_p8 : lw_okq (⟨"OwedDays$Law", "emit", "(I)V"⟩, 15) := ⟨⟨by decide +kernel, by decide +kernel⟩, List.mem_of_getElem? (i := 78) (by decide +kernel), List.mem_of_getElem? (i := 475) (by decide +kernel), List.mem_of_getElem? (i := 476) (by decide +kernel)⟩
theorem lw_p9 : lw_okq (⟨"OwedDays$Law", "push", "(I)V"⟩, 15) := ⟨⟨by decide +kernel, by decide +kernel⟩, List.mem_of_getElem? (i := 78) (by decide +kernel), List.mem_of_getElem? (i := 482) (by decide +kernel), List.mem_of_getElem? (i := 483) (by decide +kernel)⟩
theorem lw_p10 : lw_okq (⟨"OwedDays$Law", "takeBehindOperand", "(I)Z"⟩, 15) := ⟨⟨by decide +kernel, by decide +kernel⟩, List.mem_of_getElem? (i := 78) (by decide +kernel), List.mem_of_getElem? (i := 486) (by decide +kernel), List.mem_of_getElem? (i := 487) (by decide +kernel)⟩
theorem lw_p11 : lw_okq (⟨"OwedDays$Law", "takeNextDigit", "(I)Z"⟩, 15) := ⟨⟨by decide +kernel, by decide +kernel⟩, List.mem_of_getElem? (i := 78) (by decide +kernel), List.mem_of_getElem? (i := 490) (by decide +kernel), List.mem_of_getElem? (i := 491) (by decide +kernel)⟩
theorem lw_p12 : lw_okq (⟨"OwedDays$Law", "takeBracketsEnd", "()Z"⟩, 15) := ⟨⟨by decide +kernel, by decide +kernel⟩, List.mem_of_getElem? (i := 78) (by decide +kernel), List.mem_of_getElem? (i := 494) (by decide +kernel), List.mem_of_getElem? (i := 495) (by decide +kernel)⟩
theorem lw_p13 : lw_okq (⟨"OwedDays$Law", "settle", "(I)V"⟩, 15) := ⟨⟨by decide +kernel, by decide +kernel⟩, List.mem_of_getElem? (i := 78) (by decide +kernel), List.mem_of_getElem? (i := 498) (by decide +kernel), List.mem_of_getElem? (i := 499) (by decide +kernel)⟩
theorem lw_p14 : lw_okq (⟨"OwedDays$Law", "takeExpressionsEnd", "(I)Z"⟩, 15) := ⟨⟨by decide +kernel, by decide +kernel⟩, List.mem_of_getElem? (i := 78) (by decide +kernel), List.mem_of_getElem? (i := 505) (by decide +kernel), List.mem_of_getElem? (i := 506) (by decide +kernel)⟩
theorem lw_p15 : lw_okq (⟨"OwedDays", "worthOf", "(III)I"⟩, 12) := ⟨⟨by decide +kernel, by decide +kernel⟩, List.mem_of_getElem? (i := 15) (by decide +kernel), List.mem_of_getElem? (i := 517) (by decide +kernel), List.mem_of_getElem? (i := 518) (by decide +kernel)⟩
def lw_privs_1 : List (MethodName × Nat) := [(⟨"OwedDays", "debtComes", "(LOwedDays$Shelf;J)Z"⟩, 12), (⟨"OwedDays$Changes", "forgetOldest", "()V"⟩, 6), (⟨"OwedDays", "ofDebt", "(II)I"⟩, 12), (⟨"OwedDays", "ofPerson", "(II)I"⟩, 12), (⟨"OwedDays", "ofAsk", "(II)I"⟩, 12), (⟨"OwedDays$Law", "faultOfTape", "()I"⟩, 15), (⟨"OwedDays$Law", "takeForOperand", "(I)Z"⟩, 15), (⟨"OwedDays$Law", "endOperand", "(II)V"⟩, 15), (⟨"OwedDays$Law", "emit", "(I)V"⟩, 15), (⟨"OwedDays$Law", "push", "(I)V"⟩, 15), (⟨"OwedDays$Law", "takeBehindOperand", "(I)Z"⟩, 15), (⟨"OwedDays$Law", "takeNextDigit", "(I)Z"⟩, 15), (⟨"OwedDays$Law", "takeBracketsEnd", "()Z"⟩, 15), (⟨"OwedDays$Law", "settle", "(I)V"⟩, 15), (⟨"OwedDays$Law", "takeExpressionsEnd", "(I)Z"⟩, 15), (⟨"OwedDays", "worthOf", "(III)I"⟩, 12)]
theorem lw_r1 : ∀ q ∈ lw_privs_1, lw_okq q := List.forall_mem_cons.mpr ⟨lw_p0, List.forall_mem_cons.mpr ⟨lw_p1, List.forall_mem_cons.mpr ⟨lw_p2, List.forall_mem_cons.mpr ⟨lw_p3, List.forall_mem_cons.mpr ⟨lw_p4, List.forall_mem_cons.mpr ⟨lw_p5, List.forall_mem_cons.mpr ⟨lw_p6, List.forall_mem_cons.mpr ⟨lw_p7, List.forall_mem_cons.mpr ⟨lw_p8, List.forall_mem_cons.mpr ⟨lw_p9, List.forall_mem_cons.mpr ⟨lw_p10, List.forall_mem_cons.mpr ⟨lw_p11, List.forall_mem_cons.mpr ⟨lw_p12, List.forall_mem_cons.mpr ⟨lw_p13, List.forall_mem_cons.mpr ⟨lw_p14, List.forall_mem_cons.mpr ⟨lw_p15, fun _ h => absurd h List.not_mem_nil⟩⟩⟩⟩⟩⟩⟩⟩⟩⟩⟩⟩⟩⟩⟩⟩
theorem lw_p16 : lw_okq (⟨"OwedDays", "debtToWork", "(II)I"⟩, 12) := ⟨⟨by decide +kernel, by decide +kernel⟩, List.mem_of_getElem? (i := 15) (by decide +kernel), List.mem_of_getElem? (i := 564) (by decide +kernel), List.mem_of_getElem? (i := 565) (by decide +kernel)⟩
theorem lw_p17 : lw_okq (⟨"OwedDays", "meritOf", "(II)I"⟩, 12) := ⟨⟨by decide +kernel, by decide +kernel⟩, List.mem_of_getElem? (i := 15) (by decide +kernel), List.mem_of_getElem? (i := 568) (by decide +kernel), List.mem_of_getElem? (i := 569) (by decide +kernel)⟩
theorem lw_p18 : lw_okq (⟨"OwedDays", "worksToday", "(I)Z"⟩, 12) := ⟨⟨by decide +kernel, by decide +kernel⟩, List.mem_of_getElem? (i := 15) (by decide +kernel), List.mem_of_getElem? (i := 577) (by decide +kernel), List.mem_of_getElem? (i := 578) (by decide +kernel)⟩
theorem lw_p19 : lw_okq (⟨"OwedDays$Ledger", "lessen", "(II)V"⟩, 6) := ⟨⟨by decide +kernel, by decide +kernel⟩, List.mem_of_getElem? (i := 131) (by decide +kernel), List.mem_of_getElem? (i := 592) (by decide +kernel), List.mem_of_getElem? (i := 593) (by decide +kernel)⟩
theorem lw_p20 : lw_okq (⟨"OwedDays", "worthOfBestDays", "(IIII)I"⟩, 12) := ⟨⟨by decide +kernel, by decide +kernel⟩, List.mem_of_getElem? (i := 15) (by decide +kernel), List.mem_of_getElem? (i := 621) (by decide +kernel), List.mem_of_getElem? (i := 622) (by decide +kernel)⟩
theorem lw_p21 : lw_okq (⟨"OwedDays$Wiper", "takeNet", "(LOwedDays$Ledger;)V"⟩, 3) := ⟨⟨by decide +kernel, by decide +kernel⟩, List.mem_of_getElem? (i := 211) (by decide +kernel), List.mem_of_getElem? (i := 652) (by decide +kernel), List.mem_of_getElem? (i := 653) (by decide +kernel)⟩
theorem lw_p22 : lw_okq (⟨"OwedDays", "isThreeSo", "(LOwedDays$Shelf;I)Z"⟩, 12) := ⟨⟨by decide +kernel, by decide +kernel⟩, List.mem_of_getElem? (i := 15) (by decide +kernel), List.mem_of_getElem? (i := 699) (by decide +kernel), List.mem_of_getElem? (i := 700) (by decide +kernel)⟩
theorem lw_p23 : lw_okq (⟨"OwedDays$Bodies", "own", "(III)I"⟩, 5) := ⟨⟨by decide +kernel, by decide +kernel⟩, List.mem_of_getElem? (i := 227) (by decide +kernel), List.mem_of_getElem? (i := 763) (by decide +kernel), List.mem_of_getElem? (i := 764) (by decide +kernel)⟩
theorem lw_p24 : lw_okq (⟨"OwedDays$Bodies", "from", "(IIII)I"⟩, 5) := ⟨⟨by decide +kernel, by decide +kernel⟩, List.mem_of_getElem? (i := 227) (by decide +kernel), List.mem_of_getElem? (i := 767) (by decide +kernel), List.mem_of_getElem? (i := 768) (by decide +kernel)⟩
theorem lw_p25 : lw_okq (⟨"OwedDays$Bodies", "note", "(I)V"⟩, 5) := ⟨⟨by decide +kernel, by decide +kernel⟩, List.mem_of_getElem? (i := 227) (by decide +kernel), List.mem_of_getElem? (i := 775) (by decide +kernel), List.mem_of_getElem? (i := 776) (by decide +kernel)⟩
theorem lw_p26 : lw_okq (⟨"OwedDays$Bodies", "runOfDay", "(III)I"⟩, 5) := ⟨⟨by decide +kernel, by decide +kernel⟩, List.mem_of_getElem? (i := 227) (by decide +kernel), List.mem_of_getElem? (i := 779) (by decide +kernel), List.mem_of_getElem? (i := 780) (by decide +kernel)⟩
theorem lw_p27 : lw_okq (⟨"OwedDays$Bodies", "runUnderDay", "(IIII)I"⟩, 5) := ⟨⟨by decide +kernel, by decide +kernel⟩, List.mem_of_getElem? (i := 227) (by decide +kernel), List.mem_of_getElem? (i := 783) (by decide +kernel), List.mem_of_getElem? (i := 784) (by decide +kernel)⟩
theorem lw_p28 : lw_okq (⟨"OwedDays", "refusalOfElement", "(II)I"⟩, 12) := ⟨⟨by decide +kernel, by decide +kernel⟩, List.mem_of_getElem? (i := 15) (by decide +kernel), List.mem_of_getElem? (i := 811) (by decide +kernel), List.mem_of_getElem? (i := 812) (by decide +kernel)⟩
theorem lw_p29 : lw_okq (⟨"OwedDaysModel", "isOne", "(JJJJ)Z"⟩, 49) := ⟨⟨by decide +kernel, by decide +kernel⟩, List.mem_of_getElem? (i := 852) (by decide +kernel), List.mem_of_getElem? (i := 1026) (by decide +kernel), List.mem_of_getElem? (i := 1027) (by decide +kernel)⟩
theorem lw_p30 : lw_okq (⟨"OwedDaysModel", "adds", "(IIII)V"⟩, 49) := ⟨⟨by decide +kernel, by decide +kernel⟩, List.mem_of_getElem? (i := 852) (by decide +kernel), List.mem_of_getElem? (i := 1031) (by decide +kernel), List.mem_of_getElem? (i := 1032) (by decide +kernel)⟩
theorem lw_p31 : lw_okq (⟨"OwedDaysModel", "becomes", "(II)I"⟩, 49) := ⟨⟨by decide +kernel, by decide +kernel⟩, List.mem_of_getElem? (i := 852) (by decide +kernel), List.mem_of_getElem? (i := 1049) (by decide +kernel), List.mem_of_getElem? (i := 1050) (by decide +kernel)⟩
def lw_privs_2 : List (MethodName × Nat) := [(⟨"OwedDays", "debtToWork", "(II)I"⟩, 12), (⟨"OwedDays", "meritOf", "(II)I"⟩, 12), (⟨"OwedDays", "worksToday", "(I)Z"⟩, 12), (⟨"OwedDays$Ledger", "lessen", "(II)V"⟩, 6), (⟨"OwedDays", "worthOfBestDays", "(IIII)I"⟩, 12), (⟨"OwedDays$Wiper", "takeNet", "(LOwedDays$Ledger;)V"⟩, 3), (⟨"OwedDays", "isThreeSo", "(LOwedDays$Shelf;I)Z"⟩, 12), (⟨"OwedDays$Bodies", "own", "(III)I"⟩, 5), (⟨"OwedDays$Bodies", "from", "(IIII)I"⟩, 5), (⟨"OwedDays$Bodies", "note", "(I)V"⟩, 5), (⟨"OwedDays$Bodies", "runOfDay", "(III)I"⟩, 5), (⟨"OwedDays$Bodies", "runUnderDay", "(IIII)I"⟩, 5), (⟨"OwedDays", "refusalOfElement", "(II)I"⟩, 12), (⟨"OwedDaysModel", "isOne", "(JJJJ)Z"⟩, 49), (⟨"OwedDaysModel", "adds", "(IIII)V"⟩, 49), (⟨"OwedDaysModel", "becomes", "(II)I"⟩, 49)]
theorem lw_r2 : ∀ q ∈ lw_privs_2, lw_okq q := List.forall_mem_cons.mpr ⟨lw_p16, List.forall_mem_cons.mpr ⟨lw_p17, List.forall_mem_cons.mpr ⟨lw_p18, List.forall_mem_cons.mpr ⟨lw_p19, List.forall_mem_cons.mpr ⟨lw_p20, List.forall_mem_cons.mpr ⟨lw_p21, List.forall_mem_cons.mpr ⟨lw_p22, List.forall_mem_cons.mpr ⟨lw_p23, List.forall_mem_cons.mpr ⟨lw_p24, List.forall_mem_cons.mpr ⟨lw_p25, List.forall_mem_cons.mpr ⟨lw_p26, List.forall_mem_cons.mpr ⟨lw_p27, List.forall_mem_cons.mpr ⟨lw_p28, List.forall_mem_cons.mpr ⟨lw_p29, List.forall_mem_cons.mpr ⟨lw_p30, List.forall_mem_cons.mpr ⟨lw_p31, fun _ h => absurd h List.not_mem_nil⟩⟩⟩⟩⟩⟩⟩⟩⟩⟩⟩⟩⟩⟩⟩⟩
theorem lw_p32 : lw_okq (⟨"OwedDaysModel", "isPerson", "(I)Z"⟩, 49) := ⟨⟨by decide +kernel, by decide +kernel⟩, List.mem_of_getElem? (i := 852) (by decide +kernel), List.mem_of_getElem? (i := 1053) (by decide +kernel), List.mem_of_getElem? (i := 1054) (by decide +kernel)⟩
theorem lw_p33 : lw_okq (⟨"OwedDaysModel", "isDebt", "(I)Z"⟩, 49) := ⟨⟨by decide +kernel, by decide +kernel⟩, List.mem_of_getElem? (i := 852) (by decide +kernel), List.mem_of_getElem? (i := 1063) (by decide +kernel), List.mem_of_getElem? (i := 1064) (by decide +kernel)⟩
theorem lw_p34 : lw_okq (⟨"OwedDaysModel", "ofPerson", "(II)I"⟩, 49) := ⟨⟨by decide +kernel, by decide +kernel⟩, List.mem_of_getElem? (i := 852) (by decide +kernel), List.mem_of_getElem? (i := 1070) (by decide +kernel), List.mem_of_getElem? (i := 1071) (by decide +kernel)⟩
theorem lw_p35 : lw_okq (⟨"OwedDaysModel", "sumOf", "(II)I"⟩, 49) := ⟨⟨by decide +kernel, by decide +kernel⟩, List.mem_of_getElem? (i := 852) (by decide +kernel), List.mem_of_getElem? (i := 1074) (by decide +kernel), List.mem_of_getElem? (i := 1075) (by decide +kernel)⟩
theorem lw_p36 : lw_okq (⟨"OwedDaysModel", "isPq", "(I)Z"⟩, 49) := ⟨⟨by decide +kernel, by decide +kernel⟩, List.mem_of_getElem? (i := 852) (by decide +kernel), List.mem_of_getElem? (i := 1080) (by decide +kernel), List.mem_of_getElem? (i := 1081) (by decide +kernel)⟩
theorem lw_p37 : lw_okq (⟨"OwedDaysModel", "owedBetween", "(II)I"⟩, 49) := ⟨⟨by decide +kernel, by decide +kernel⟩, List.mem_of_getElem? (i := 852) (by decide +kernel), List.mem_of_getElem? (i := 1084) (by decide +kernel), List.mem_of_getElem? (i := 1085) (by decide +kernel)⟩
theorem lw_p38 : lw_okq (⟨"OwedDaysModel", "workOut", "(II)I"⟩, 49) := ⟨⟨by decide +kernel, by decide +kernel⟩, List.mem_of_getElem? (i := 852) (by decide +kernel), List.mem_of_getElem? (i := 1097) (by decide +kernel), List.mem_of_getElem? (i := 1098) (by decide +kernel)⟩
theorem lw_p39 : lw_okq (⟨"OwedDaysModel", "either", "()I"⟩, 49) := ⟨⟨by decide +kernel, by decide +kernel⟩, List.mem_of_getElem? (i := 852) (by decide +kernel), List.mem_of_getElem? (i := 1101) (by decide +kernel), List.mem_of_getElem? (i := 1102) (by decide +kernel)⟩
theorem lw_p40 : lw_okq (⟨"OwedDaysModel", "both", "()I"⟩, 49) := ⟨⟨by decide +kernel, by decide +kernel⟩, List.mem_of_getElem? (i := 852) (by decide +kernel), List.mem_of_getElem? (i := 1105) (by decide +kernel), List.mem_of_getElem? (i := 1106) (by decide +kernel)⟩
theorem lw_p41 : lw_okq (⟨"OwedDaysModel", "compared", "()I"⟩, 49) := ⟨⟨by decide +kernel, by decide +kernel⟩, List.mem_of_getElem? (i := 852) (by decide +kernel), List.mem_of_getElem? (i := 1109) (by decide +kernel), List.mem_of_getElem? (i := 1110) (by decide +kernel)⟩
theorem lw_p42 : lw_okq (⟨"OwedDaysModel", "sums", "()I"⟩, 49) := ⟨⟨by decide +kernel, by decide +kernel⟩, List.mem_of_getElem? (i := 852) (by decide +kernel), List.mem_of_getElem? (i := 1113) (by decide +kernel), List.mem_of_getElem? (i := 1114) (by decide +kernel)⟩
theorem lw_p43 : lw_okq (⟨"OwedDaysModel", "product", "()I"⟩, 49) := ⟨⟨by decide +kernel, by decide +kernel⟩, List.mem_of_getElem? (i := 852) (by decide +kernel), List.mem_of_getElem? (i := 1117) (by decide +kernel), List.mem_of_getElem? (i := 1118) (by decide +kernel)⟩
theorem lw_p44 : lw_okq (⟨"OwedDaysModel", "one", "()I"⟩, 49) := ⟨⟨by decide +kernel, by decide +kernel⟩, List.mem_of_getElem? (i := 852) (by decide +kernel), List.mem_of_getElem? (i := 1121) (by decide +kernel), List.mem_of_getElem? (i := 1122) (by decide +kernel)⟩
theorem lw_p45 : lw_okq (⟨"OwedDaysModel", "byteAt", "()I"⟩, 49) := ⟨⟨by decide +kernel, by decide +kernel⟩, List.mem_of_getElem? (i := 852) (by decide +kernel), List.mem_of_getElem? (i := 1125) (by decide +kernel), List.mem_of_getElem? (i := 1126) (by decide +kernel)⟩
theorem lw_p46 : lw_okq (⟨"OwedDaysModel", "wrong", "()I"⟩, 49) := ⟨⟨by decide +kernel, by decide +kernel⟩, List.mem_of_getElem? (i := 852) (by decide +kernel), List.mem_of_getElem? (i := 1129) (by decide +kernel), List.mem_of_getElem? (i := 1130) (by decide +kernel)⟩
theorem lw_p47 : lw_okq (⟨"OwedDaysModel", "takes", "(I)Z"⟩, 49) := ⟨⟨by decide +kernel, by decide +kernel⟩, List.mem_of_getElem? (i := 852) (by decide +kernel), List.mem_of_getElem? (i := 1133) (by decide +kernel), List.mem_of_getElem? (i := 1134) (by decide +kernel)⟩
def lw_privs_3 : List (MethodName × Nat) := [(⟨"OwedDaysModel", "isPerson", "(I)Z"⟩, 49), (⟨"OwedDaysModel", "isDebt", "(I)Z"⟩, 49), (⟨"OwedDaysModel", "ofPerson", "(II)I"⟩, 49), (⟨"OwedDaysModel", "sumOf", "(II)I"⟩, 49), (⟨"OwedDaysModel", "isPq", "(I)Z"⟩, 49), (⟨"OwedDaysModel", "owedBetween", "(II)I"⟩, 49), (⟨"OwedDaysModel", "workOut", "(II)I"⟩, 49), (⟨"OwedDaysModel", "either", "()I"⟩, 49), (⟨"OwedDaysModel", "both", "()I"⟩, 49), (⟨"OwedDaysModel", "compared", "()I"⟩, 49), (⟨"OwedDaysModel", "sums", "()I"⟩, 49), (⟨"OwedDaysModel", "product", "()I"⟩, 49), (⟨"OwedDaysModel", "one", "()I"⟩, 49), (⟨"OwedDaysModel", "byteAt", "()I"⟩, 49), (⟨"OwedDaysModel", "wrong", "()I"⟩, 49), (⟨"OwedDaysModel", "takes", "(I)Z"⟩, 49)]
theorem lw_r3 : ∀ q ∈ lw_privs_3, lw_okq q := List.forall_mem_cons.mpr ⟨lw_p32, List.forall_mem_cons.mpr ⟨lw_p33, List.forall_mem_cons.mpr ⟨lw_p34, List.forall_mem_cons.mpr ⟨lw_p35, List.forall_mem_cons.mpr ⟨lw_p36, List.forall_mem_cons.mpr ⟨lw_p37, List.forall_mem_cons.mpr ⟨lw_p38, List.forall_mem_cons.mpr ⟨lw_p39, List.forall_mem_cons.mpr ⟨lw_p40, List.forall_mem_cons.mpr ⟨lw_p41, List.forall_mem_cons.mpr ⟨lw_p42, List.forall_mem_cons.mpr ⟨lw_p43, List.forall_mem_cons.mpr ⟨lw_p44, List.forall_mem_cons.mpr ⟨lw_p45, List.forall_mem_cons.mpr ⟨lw_p46, List.forall_mem_cons.mpr ⟨lw_p47, fun _ h => absurd h List.not_mem_nil⟩⟩⟩⟩⟩⟩⟩⟩⟩⟩⟩⟩⟩⟩⟩⟩
theorem lw_p48 : lw_okq (⟨"OwedDaysModel", "worthOf", "(III)I"⟩, 49) := ⟨⟨by decide +kernel, by decide +kernel⟩, List.mem_of_getElem? (i := 852) (by decide +kernel), List.mem_of_getElem? (i := 1148) (by decide +kernel), List.mem_of_getElem? (i := 1149) (by decide +kernel)⟩
theorem lw_p49 : lw_okq (⟨"OwedDaysModel", "mayAsk", "(I)Z"⟩, 49) := ⟨⟨by decide +kernel, by decide +kernel⟩, List.mem_of_getElem? (i := 852) (by decide +kernel), List.mem_of_getElem? (i := 1156) (by decide +kernel), List.mem_of_getElem? (i := 1157) (by decide +kernel)⟩
theorem lw_p50 : lw_okq (⟨"OwedDaysModel", "isOpen", "(I)Z"⟩, 49) := ⟨⟨by decide +kernel, by decide +kernel⟩, List.mem_of_getElem? (i := 852) (by decide +kernel), List.mem_of_getElem? (i := 1163) (by decide +kernel), List.mem_of_getElem? (i := 1164) (by decide +kernel)⟩
theorem lw_p51 : lw_okq (⟨"OwedDaysModel", "askFor", "(II)I"⟩, 49) := ⟨⟨by decide +kernel, by decide +kernel⟩, List.mem_of_getElem? (i := 852) (by decide +kernel), List.mem_of_getElem? (i := 1171) (by decide +kernel), List.mem_of_getElem? (i := 1172) (by decide +kernel)⟩
theorem lw_p52 : lw_okq (⟨"OwedDaysModel", "weightOf", "(I)I"⟩, 49) := ⟨⟨by decide +kernel, by decide +kernel⟩, List.mem_of_getElem? (i := 852) (by decide +kernel), List.mem_of_getElem? (i := 1175) (by decide +kernel), List.mem_of_getElem? (i := 1176) (by decide +kernel)⟩
theorem lw_p53 : lw_okq (⟨"OwedDaysModel", "dayGoes", "()I"⟩, 49) := ⟨⟨by decide +kernel, by decide +kernel⟩, List.mem_of_getElem? (i := 852) (by decide +kernel), List.mem_of_getElem? (i := 1188) (by decide +kernel), List.mem_of_getElem? (i := 1189) (by decide +kernel)⟩
theorem lw_p54 : lw_okq (⟨"OwedDaysModel", "worksOff", "(II)V"⟩, 49) := ⟨⟨by decide +kernel, by decide +kernel⟩, List.mem_of_getElem? (i := 852) (by decide +kernel), List.mem_of_getElem? (i := 1193) (by decide +kernel), List.mem_of_getElem? (i := 1194) (by decide +kernel)⟩
theorem lw_p55 : lw_okq (⟨"OwedDaysModel", "loses", "(II)V"⟩, 49) := ⟨⟨by decide +kernel, by decide +kernel⟩, List.mem_of_getElem? (i := 852) (by decide +kernel), List.mem_of_getElem? (i := 1197) (by decide +kernel), List.mem_of_getElem? (i := 1198) (by decide +kernel)⟩
theorem lw_p56 : lw_okq (⟨"OwedDaysModel", "bestSum", "(IIII)I"⟩, 49) := ⟨⟨by decide +kernel, by decide +kernel⟩, List.mem_of_getElem? (i := 852) (by decide +kernel), List.mem_of_getElem? (i := 1213) (by decide +kernel), List.mem_of_getElem? (i := 1214) (by decide +kernel)⟩
theorem lw_p57 : lw_okq (⟨"OwedDaysModel", "ringsFrom", "(IIII)V"⟩, 49) := ⟨⟨by decide +kernel, by decide +kernel⟩, List.mem_of_getElem? (i := 852) (by decide +kernel), List.mem_of_getElem? (i := 1225) (by decide +kernel), List.mem_of_getElem? (i := 1226) (by decide +kernel)⟩
theorem lw_p58 : lw_okq (⟨"OwedDaysModel", "balanceOfAny", "(I)I"⟩, 49) := ⟨⟨by decide +kernel, by decide +kernel⟩, List.mem_of_getElem? (i := 852) (by decide +kernel), List.mem_of_getElem? (i := 1236) (by decide +kernel), List.mem_of_getElem? (i := 1237) (by decide +kernel)⟩
theorem lw_p59 : lw_okq (⟨"OwedDaysModel", "bookIs", "(I)I"⟩, 49) := ⟨⟨by decide +kernel, by decide +kernel⟩, List.mem_of_getElem? (i := 852) (by decide +kernel), List.mem_of_getElem? (i := 1265) (by decide +kernel), List.mem_of_getElem? (i := 1266) (by decide +kernel)⟩
theorem lw_p60 : lw_okq (⟨"OwedDaysModel", "isSo", "(JJJ)Z"⟩, 49) := ⟨⟨by decide +kernel, by decide +kernel⟩, List.mem_of_getElem? (i := 852) (by decide +kernel), List.mem_of_getElem? (i := 1269) (by decide +kernel), List.mem_of_getElem? (i := 1270) (by decide +kernel)⟩
theorem lw_p61 : lw_okq (⟨"OwedDaysModel", "isBody", "(I)Z"⟩, 49) := ⟨⟨by decide +kernel, by decide +kernel⟩, List.mem_of_getElem? (i := 852) (by decide +kernel), List.mem_of_getElem? (i := 1298) (by decide +kernel), List.mem_of_getElem? (i := 1299) (by decide +kernel)⟩
theorem lw_p62 : lw_okq (⟨"OwedDaysModel", "owesAs", "(II)I"⟩, 49) := ⟨⟨by decide +kernel, by decide +kernel⟩, List.mem_of_getElem? (i := 852) (by decide +kernel), List.mem_of_getElem? (i := 1302) (by decide +kernel), List.mem_of_getElem? (i := 1303) (by decide +kernel)⟩
theorem lw_p63 : lw_okq (⟨"OwedDaysModel", "begins", "(I)V"⟩, 49) := ⟨⟨by decide +kernel, by decide +kernel⟩, List.mem_of_getElem? (i := 852) (by decide +kernel), List.mem_of_getElem? (i := 1306) (by decide +kernel), List.mem_of_getElem? (i := 1307) (by decide +kernel)⟩
def lw_privs_4 : List (MethodName × Nat) := [(⟨"OwedDaysModel", "worthOf", "(III)I"⟩, 49), (⟨"OwedDaysModel", "mayAsk", "(I)Z"⟩, 49), (⟨"OwedDaysModel", "isOpen", "(I)Z"⟩, 49), (⟨"OwedDaysModel", "askFor", "(II)I"⟩, 49), (⟨"OwedDaysModel", "weightOf", "(I)I"⟩, 49), (⟨"OwedDaysModel", "dayGoes", "()I"⟩, 49), (⟨"OwedDaysModel", "worksOff", "(II)V"⟩, 49), (⟨"OwedDaysModel", "loses", "(II)V"⟩, 49), (⟨"OwedDaysModel", "bestSum", "(IIII)I"⟩, 49), (⟨"OwedDaysModel", "ringsFrom", "(IIII)V"⟩, 49), (⟨"OwedDaysModel", "balanceOfAny", "(I)I"⟩, 49), (⟨"OwedDaysModel", "bookIs", "(I)I"⟩, 49), (⟨"OwedDaysModel", "isSo", "(JJJ)Z"⟩, 49), (⟨"OwedDaysModel", "isBody", "(I)Z"⟩, 49), (⟨"OwedDaysModel", "owesAs", "(II)I"⟩, 49), (⟨"OwedDaysModel", "begins", "(I)V"⟩, 49)]
theorem lw_r4 : ∀ q ∈ lw_privs_4, lw_okq q := List.forall_mem_cons.mpr ⟨lw_p48, List.forall_mem_cons.mpr ⟨lw_p49, List.forall_mem_cons.mpr ⟨lw_p50, List.forall_mem_cons.mpr ⟨lw_p51, List.forall_mem_cons.mpr ⟨lw_p52, List.forall_mem_cons.mpr ⟨lw_p53, List.forall_mem_cons.mpr ⟨lw_p54, List.forall_mem_cons.mpr ⟨lw_p55, List.forall_mem_cons.mpr ⟨lw_p56, List.forall_mem_cons.mpr ⟨lw_p57, List.forall_mem_cons.mpr ⟨lw_p58, List.forall_mem_cons.mpr ⟨lw_p59, List.forall_mem_cons.mpr ⟨lw_p60, List.forall_mem_cons.mpr ⟨lw_p61, List.forall_mem_cons.mpr ⟨lw_p62, List.forall_mem_cons.mpr ⟨lw_p63, fun _ h => absurd h List.not_mem_nil⟩⟩⟩⟩⟩⟩⟩⟩⟩⟩⟩⟩⟩⟩⟩⟩
theorem lw_p64 : lw_okq (⟨"OwedDaysModel", "worksAs", "(II)I"⟩, 49) := ⟨⟨by decide +kernel, by decide +kernel⟩, List.mem_of_getElem? (i := 852) (by decide +kernel), List.mem_of_getElem? (i := 1310) (by decide +kernel), List.mem_of_getElem? (i := 1311) (by decide +kernel)⟩
theorem lw_p65 : lw_okq (⟨"OwedDaysModel", "asksAs", "(II)I"⟩, 49) := ⟨⟨by decide +kernel, by decide +kernel⟩, List.mem_of_getElem? (i := 852) (by decide +kernel), List.mem_of_getElem? (i := 1314) (by decide +kernel), List.mem_of_getElem? (i := 1315) (by decide +kernel)⟩
theorem lw_p66 : lw_okq (⟨"OwedDaysModel", "tellsAs", "(II)I"⟩, 49) := ⟨⟨by decide +kernel, by decide +kernel⟩, List.mem_of_getElem? (i := 852) (by decide +kernel), List.mem_of_getElem? (i := 1318) (by decide +kernel), List.mem_of_getElem? (i := 1319) (by decide +kernel)⟩
theorem lw_p67 : lw_okq (⟨"OwedDaysModel", "refusal", "(II)I"⟩, 49) := ⟨⟨by decide +kernel, by decide +kernel⟩, List.mem_of_getElem? (i := 852) (by decide +kernel), List.mem_of_getElem? (i := 1338) (by decide +kernel), List.mem_of_getElem? (i := 1339) (by decide +kernel)⟩
theorem lw_p68 : lw_okq (⟨"OwedDaysModel", "kindOf", "(I)I"⟩, 49) := ⟨⟨by decide +kernel, by decide +kernel⟩, List.mem_of_getElem? (i := 852) (by decide +kernel), List.mem_of_getElem? (i := 1358) (by decide +kernel), List.mem_of_getElem? (i := 1359) (by decide +kernel)⟩
theorem lw_p69 : lw_okq (⟨"OwedDaysModel", "openMany", "()I"⟩, 49) := ⟨⟨by decide +kernel, by decide +kernel⟩, List.mem_of_getElem? (i := 852) (by decide +kernel), List.mem_of_getElem? (i := 1369) (by decide +kernel), List.mem_of_getElem? (i := 1370) (by decide +kernel)⟩
def lw_privs_5 : List (MethodName × Nat) := [(⟨"OwedDaysModel", "worksAs", "(II)I"⟩, 49), (⟨"OwedDaysModel", "asksAs", "(II)I"⟩, 49), (⟨"OwedDaysModel", "tellsAs", "(II)I"⟩, 49), (⟨"OwedDaysModel", "refusal", "(II)I"⟩, 49), (⟨"OwedDaysModel", "kindOf", "(I)I"⟩, 49), (⟨"OwedDaysModel", "openMany", "()I"⟩, 49)]
theorem lw_r5 : ∀ q ∈ lw_privs_5, lw_okq q := List.forall_mem_cons.mpr ⟨lw_p64, List.forall_mem_cons.mpr ⟨lw_p65, List.forall_mem_cons.mpr ⟨lw_p66, List.forall_mem_cons.mpr ⟨lw_p67, List.forall_mem_cons.mpr ⟨lw_p68, List.forall_mem_cons.mpr ⟨lw_p69, fun _ h => absurd h List.not_mem_nil⟩⟩⟩⟩⟩⟩
def lw_privs : List (MethodName × Nat) := lw_privs_1 ++ (lw_privs_2 ++ (lw_privs_3 ++ (lw_privs_4 ++ (lw_privs_5))))
def lw_tbl : List Cond := k2_sels lw_privs ++ tables_1
theorem lw_privs_ok : ∀ q ∈ lw_privs, lw_okq q := by
  show ∀ q ∈ lw_privs_1 ++ (lw_privs_2 ++ (lw_privs_3 ++ (lw_privs_4 ++ (lw_privs_5)))), lw_okq q
  exact List.forall_mem_append.mpr ⟨lw_r1, List.forall_mem_append.mpr ⟨lw_r2, List.forall_mem_append.mpr ⟨lw_r3, List.forall_mem_append.mpr ⟨lw_r4, lw_r5⟩⟩⟩⟩
def RX0 : String := "OwedDays$Bodies"
def TX0 : u_T := fun k => match k with
  | 0 => ("OwedDays$Bodies", "kinds", "[I", true)
  | 1 => ("OwedDays$Bodies", "traced", "[I", true)
  | 2 => ("OwedDays$Bodies", "count", "I", false)
  | 3 => ("OwedDays$Bodies", "ran", "I", false)
  | _ => ("OwedDays$Bodies", "actor", "I", false)
def tyX0 : Nat → FieldType := fun k => match k with
  | 0 => .array .int
  | 1 => .array .int
  | 2 => .int
  | 3 => .int
  | _ => .int
abbrev wsX00 : List Cond := u_ws RX0 TX0 5
theorem nmX0 : ∀ a, a < 5 → ∀ b, b < 5 → a ≠ b → (TX0 a).2.1 ≠ (TX0 b).2.1 := by decide +kernel
theorem tyX0_ok : ∀ k, k < 5 → parseFieldDescriptor (TX0 k).2.2.1 = some (tyX0 k) := by decide +kernel
abbrev cX0_init : ByteArray := prog_2_method_1_code
def yX0_init : MethodName := ⟨RX0, "<init>", "()V"⟩
abbrev cX0_add : ByteArray := prog_2_method_2_code
def yX0_add : MethodName := ⟨RX0, "add", "(I)I"⟩
abbrev cX0_isBody : ByteArray := prog_2_method_3_code
def yX0_isBody : MethodName := ⟨RX0, "isBody", "(I)Z"⟩
abbrev cX0_isUnder : ByteArray := prog_2_method_4_code
def yX0_isUnder : MethodName := ⟨RX0, "isUnder", "(II)Z"⟩
abbrev cX0_perform : ByteArray := prog_2_method_5_code
def yX0_perform : MethodName := ⟨RX0, "perform", "(III)I"⟩
abbrev cX0_own : ByteArray := prog_2_method_6_code
def yX0_own : MethodName := ⟨RX0, "own", "(III)I"⟩
abbrev cX0_from : ByteArray := prog_2_method_7_code
def yX0_from : MethodName := ⟨RX0, "from", "(IIII)I"⟩
abbrev cX0_note : ByteArray := prog_2_method_8_code
def yX0_note : MethodName := ⟨RX0, "note", "(I)V"⟩
abbrev cX0_runOfDay : ByteArray := prog_2_method_9_code
def yX0_runOfDay : MethodName := ⟨RX0, "runOfDay", "(III)I"⟩
abbrev cX0_runUnderDay : ByteArray := prog_2_method_10_code
def yX0_runUnderDay : MethodName := ⟨RX0, "runUnderDay", "(IIII)I"⟩
def RX1 : String := "OwedDays$Changes"
def TX1 : u_T := fun k => match k with
  | 0 => ("OwedDays$Changes", "number", "[I", true)
  | 1 => ("OwedDays$Changes", "what", "[I", true)
  | 2 => ("OwedDays$Changes", "before", "[I", true)
  | 3 => ("OwedDays$Changes", "after", "[I", true)
  | 4 => ("OwedDays$Changes", "done", "I", false)
  | _ => ("OwedDays$Changes", "undone", "I", false)
def tyX1 : Nat → FieldType := fun k => match k with
  | 0 => .array .int
  | 1 => .array .int
  | 2 => .array .int
  | 3 => .array .int
  | 4 => .int
  | _ => .int
abbrev wsX10 : List Cond := u_ws RX1 TX1 6
theorem nmX1 : ∀ a, a < 6 → ∀ b, b < 6 → a ≠ b → (TX1 a).2.1 ≠ (TX1 b).2.1 := by decide +kernel
theorem tyX1_ok : ∀ k, k < 6 → parseFieldDescriptor (TX1 k).2.2.1 = some (tyX1 k) := by decide +kernel
abbrev cX1_init : ByteArray := prog_3_method_1_code
def yX1_init : MethodName := ⟨RX1, "<init>", "()V"⟩
abbrev cX1_note : ByteArray := prog_3_method_2_code
def yX1_note : MethodName := ⟨RX1, "note", "(IIII)V"⟩
abbrev cX1_forgetOldest : ByteArray := prog_3_method_3_code
def yX1_forgetOldest : MethodName := ⟨RX1, "forgetOldest", "()V"⟩
abbrev cX1_takeBack : ByteArray := prog_3_method_4_code
def yX1_takeBack : MethodName := ⟨RX1, "takeBack", "(LOwedDays$Settings;)I"⟩
abbrev cX1_doAgain : ByteArray := prog_3_method_5_code
def yX1_doAgain : MethodName := ⟨RX1, "doAgain", "(LOwedDays$Settings;)I"⟩
def RX2 : String := "OwedDays$Diary"
def TX2 : u_T := fun k => match k with
  | 0 => ("OwedDays$Diary", "askDebt", "[I", true)
  | 1 => ("OwedDays$Diary", "askDay", "[I", true)
  | 2 => ("OwedDays$Diary", "askDone", "[Z", true)
  | 3 => ("OwedDays$Diary", "ledWhom", "[I", true)
  | 4 => ("OwedDays$Diary", "ledDebt", "[I", true)
  | 5 => ("OwedDays$Diary", "got", "[I", true)
  | 6 => ("OwedDays$Diary", "asks", "I", false)
  | _ => ("OwedDays$Diary", "now", "I", false)
def tyX2 : Nat → FieldType := fun k => match k with
  | 0 => .array .int
  | 1 => .array .int
  | 2 => .array .boolean
  | 3 => .array .int
  | 4 => .array .int
  | 5 => .array .int
  | 6 => .int
  | _ => .int
abbrev wsX20 : List Cond := u_ws RX2 TX2 8
theorem nmX2 : ∀ a, a < 8 → ∀ b, b < 8 → a ≠ b → (TX2 a).2.1 ≠ (TX2 b).2.1 := by decide +kernel
theorem tyX2_ok : ∀ k, k < 8 → parseFieldDescriptor (TX2 k).2.2.1 = some (tyX2 k) := by decide +kernel
abbrev cX2_init : ByteArray := prog_4_method_1_code
def yX2_init : MethodName := ⟨RX2, "<init>", "()V"⟩
abbrev cX2_place : ByteArray := prog_4_method_2_code
def yX2_place : MethodName := ⟨RX2, "place", "(II)I"⟩
abbrev cX2_copyFrom : ByteArray := prog_4_method_3_code
def yX2_copyFrom : MethodName := ⟨RX2, "copyFrom", "(LOwedDays$Diary;)V"⟩
abbrev cX2_isAsk : ByteArray := prog_4_method_4_code
def yX2_isAsk : MethodName := ⟨RX2, "isAsk", "(I)Z"⟩
abbrev cX2_addAsk : ByteArray := prog_4_method_5_code
def yX2_addAsk : MethodName := ⟨RX2, "addAsk", "(II)I"⟩
abbrev cX2_waiting : ByteArray := prog_4_method_6_code
def yX2_waiting : MethodName := ⟨RX2, "waiting", "()I"⟩
abbrev cX2_lead : ByteArray := prog_4_method_7_code
def yX2_lead : MethodName := ⟨RX2, "lead", "(IIII)V"⟩
abbrev cX2_endDay : ByteArray := prog_4_method_8_code
def yX2_endDay : MethodName := ⟨RX2, "endDay", "()V"⟩
def RX3 : String := "OwedDays$Law"
def TX3 : u_T := fun k => match k with
  | 0 => ("OwedDays$Law", "tape", "[I", true)
  | 1 => ("OwedDays$Law", "code", "[I", true)
  | 2 => ("OwedDays$Law", "draft", "[I", true)
  | 3 => ("OwedDays$Law", "operators", "[I", true)
  | 4 => ("OwedDays$Law", "values", "[I", true)
  | 5 => ("OwedDays$Law", "names", "[I", true)
  | 6 => ("OwedDays$Law", "taped", "I", false)
  | 7 => ("OwedDays$Law", "coded", "I", false)
  | 8 => ("OwedDays$Law", "drafted", "I", false)
  | 9 => ("OwedDays$Law", "pending", "I", false)
  | 10 => ("OwedDays$Law", "open", "I", false)
  | 11 => ("OwedDays$Law", "brackets", "I", false)
  | 12 => ("OwedDays$Law", "digitsToCome", "I", false)
  | 13 => ("OwedDays$Law", "operandIsDue", "Z", false)
  | _ => ("OwedDays$Law", "conditionIsBehind", "Z", false)
def tyX3 : Nat → FieldType := fun k => match k with
  | 0 => .array .int
  | 1 => .array .int
  | 2 => .array .int
  | 3 => .array .int
  | 4 => .array .int
  | 5 => .array .int
  | 6 => .int
  | 7 => .int
  | 8 => .int
  | 9 => .int
  | 10 => .int
  | 11 => .int
  | 12 => .int
  | 13 => .boolean
  | _ => .boolean
abbrev wsX30 : List Cond := u_ws RX3 TX3 15
theorem nmX3 : ∀ a, a < 15 → ∀ b, b < 15 → a ≠ b → (TX3 a).2.1 ≠ (TX3 b).2.1 := by decide +kernel
theorem tyX3_ok : ∀ k, k < 15 → parseFieldDescriptor (TX3 k).2.2.1 = some (tyX3 k) := by decide +kernel
abbrev cX3_init : ByteArray := prog_5_method_1_code
def yX3_init : MethodName := ⟨RX3, "<init>", "()V"⟩
abbrev cX3_tapeOn : ByteArray := prog_5_method_2_code
def yX3_tapeOn : MethodName := ⟨RX3, "tapeOn", "(I)I"⟩
abbrev cX3_isGiven : ByteArray := prog_5_method_3_code
def yX3_isGiven : MethodName := ⟨RX3, "isGiven", "()Z"⟩
abbrev cX3_adoptTape : ByteArray := prog_5_method_4_code
def yX3_adoptTape : MethodName := ⟨RX3, "adoptTape", "()I"⟩
abbrev cX3_faultOfTape : ByteArray := prog_5_method_5_code
def yX3_faultOfTape : MethodName := ⟨RX3, "faultOfTape", "()I"⟩
abbrev cX3_takeForOperand : ByteArray := prog_5_method_6_code
def yX3_takeForOperand : MethodName := ⟨RX3, "takeForOperand", "(I)Z"⟩
abbrev cX3_endOperand : ByteArray := prog_5_method_7_code
def yX3_endOperand : MethodName := ⟨RX3, "endOperand", "(II)V"⟩
abbrev cX3_takeBehindOperand : ByteArray := prog_5_method_8_code
def yX3_takeBehindOperand : MethodName := ⟨RX3, "takeBehindOperand", "(I)Z"⟩
abbrev cX3_takeNextDigit : ByteArray := prog_5_method_9_code
def yX3_takeNextDigit : MethodName := ⟨RX3, "takeNextDigit", "(I)Z"⟩
abbrev cX3_takeBracketsEnd : ByteArray := prog_5_method_10_code
def yX3_takeBracketsEnd : MethodName := ⟨RX3, "takeBracketsEnd", "()Z"⟩
abbrev cX3_takeExpressionsEnd : ByteArray := prog_5_method_11_code
def yX3_takeExpressionsEnd : MethodName := ⟨RX3, "takeExpressionsEnd", "(I)Z"⟩
abbrev cX3_settle : ByteArray := prog_5_method_12_code
def yX3_settle : MethodName := ⟨RX3, "settle", "(I)V"⟩
abbrev cX3_push : ByteArray := prog_5_method_13_code
def yX3_push : MethodName := ⟨RX3, "push", "(I)V"⟩
abbrev cX3_emit : ByteArray := prog_5_method_14_code
def yX3_emit : MethodName := ⟨RX3, "emit", "(I)V"⟩
abbrev cX3_isDigit : ByteArray := prog_5_method_15_code
def yX3_isDigit : MethodName := ⟨RX3, "isDigit", "(I)Z"⟩
abbrev cX3_nameOf : ByteArray := prog_5_method_16_code
def yX3_nameOf : MethodName := ⟨RX3, "nameOf", "(I)I"⟩
abbrev cX3_rankOf : ByteArray := prog_5_method_17_code
def yX3_rankOf : MethodName := ⟨RX3, "rankOf", "(I)I"⟩
abbrev cX3_value : ByteArray := prog_5_method_18_code
def yX3_value : MethodName := ⟨RX3, "value", "(IIIII)I"⟩
abbrev cX3_operandsOf : ByteArray := prog_5_method_19_code
def yX3_operandsOf : MethodName := ⟨RX3, "operandsOf", "(I)I"⟩
abbrev cX3_ofOne : ByteArray := prog_5_method_20_code
def yX3_ofOne : MethodName := ⟨RX3, "ofOne", "(II)I"⟩
abbrev cX3_ofTwo : ByteArray := prog_5_method_21_code
def yX3_ofTwo : MethodName := ⟨RX3, "ofTwo", "(III)I"⟩
def RX4 : String := "OwedDays$Ledger"
def TX4 : u_T := fun k => match k with
  | 0 => ("OwedDays$Ledger", "owes", "[I", true)
  | 1 => ("OwedDays$Ledger", "whom", "[I", true)
  | 2 => ("OwedDays$Ledger", "days", "[I", true)
  | 3 => ("OwedDays$Ledger", "kind", "[I", true)
  | 4 => ("OwedDays$Ledger", "nick", "[I", true)
  | _ => ("OwedDays$Ledger", "count", "I", false)
def tyX4 : Nat → FieldType := fun k => match k with
  | 0 => .array .int
  | 1 => .array .int
  | 2 => .array .int
  | 3 => .array .int
  | 4 => .array .int
  | _ => .int
abbrev wsX40 : List Cond := u_ws RX4 TX4 6
theorem nmX4 : ∀ a, a < 6 → ∀ b, b < 6 → a ≠ b → (TX4 a).2.1 ≠ (TX4 b).2.1 := by decide +kernel
theorem tyX4_ok : ∀ k, k < 6 → parseFieldDescriptor (TX4 k).2.2.1 = some (tyX4 k) := by decide +kernel
abbrev cX4_init : ByteArray := prog_6_method_1_code
def yX4_init : MethodName := ⟨RX4, "<init>", "()V"⟩
abbrev cX4_copyFrom : ByteArray := prog_6_method_2_code
def yX4_copyFrom : MethodName := ⟨RX4, "copyFrom", "(LOwedDays$Ledger;)V"⟩
abbrev cX4_isDebt : ByteArray := prog_6_method_3_code
def yX4_isDebt : MethodName := ⟨RX4, "isDebt", "(I)Z"⟩
abbrev cX4_isOpen : ByteArray := prog_6_method_4_code
def yX4_isOpen : MethodName := ⟨RX4, "isOpen", "(I)Z"⟩
abbrev cX4_add : ByteArray := prog_6_method_5_code
def yX4_add : MethodName := ⟨RX4, "add", "(IIII)I"⟩
abbrev cX4_open : ByteArray := prog_6_method_6_code
def yX4_open : MethodName := ⟨RX4, "open", "()I"⟩
abbrev cX4_owed : ByteArray := prog_6_method_7_code
def yX4_owed : MethodName := ⟨RX4, "owed", "(II)I"⟩
abbrev cX4_owedBy : ByteArray := prog_6_method_8_code
def yX4_owedBy : MethodName := ⟨RX4, "owedBy", "(I)I"⟩
abbrev cX4_owedTo : ByteArray := prog_6_method_9_code
def yX4_owedTo : MethodName := ⟨RX4, "owedTo", "(I)I"⟩
abbrev cX4_lessen : ByteArray := prog_6_method_10_code
def yX4_lessen : MethodName := ⟨RX4, "lessen", "(II)V"⟩
abbrev cX4_workOff : ByteArray := prog_6_method_11_code
def yX4_workOff : MethodName := ⟨RX4, "workOff", "(IZ)V"⟩
abbrev cX4_handOn : ByteArray := prog_6_method_12_code
def yX4_handOn : MethodName := ⟨RX4, "handOn", "(II)Z"⟩
abbrev cX4_strikeOut : ByteArray := prog_6_method_13_code
def yX4_strikeOut : MethodName := ⟨RX4, "strikeOut", "(I)I"⟩
abbrev cX4_dropAllBy : ByteArray := prog_6_method_14_code
def yX4_dropAllBy : MethodName := ⟨RX4, "dropAllBy", "(I)I"⟩
abbrev cX4_inherit : ByteArray := prog_6_method_15_code
def yX4_inherit : MethodName := ⟨RX4, "inherit", "(II)I"⟩
def RX5 : String := "OwedDays$Rings"
def TX5 : u_T := fun k => match k with
  | _ => ("", "", "", false)
def tyX5 : Nat → FieldType := fun k => match k with
  | _ => .int
abbrev wsX50 : List Cond := u_ws RX5 TX5 0
theorem nmX5 : ∀ a, a < 0 → ∀ b, b < 0 → a ≠ b → (TX5 a).2.1 ≠ (TX5 b).2.1 := by decide +kernel
theorem tyX5_ok : ∀ k, k < 0 → parseFieldDescriptor (TX5 k).2.2.1 = some (tyX5 k) := by decide +kernel
abbrev cX5_least : ByteArray := prog_7_method_2_code
def yX5_least : MethodName := ⟨RX5, "least", "(LOwedDays$Ledger;)I"⟩
abbrev cX5_follow : ByteArray := prog_7_method_3_code
def yX5_follow : MethodName := ⟨RX5, "follow", "(LOwedDays$Ledger;IIIII)I"⟩
abbrev cX5_lesser : ByteArray := prog_7_method_4_code
def yX5_lesser : MethodName := ⟨RX5, "lesser", "(II)I"⟩
def RX6 : String := "OwedDays$Settings"
def TX6 : u_T := fun k => match k with
  | 0 => ("OwedDays$Settings", "light", "[I", true)
  | 1 => ("OwedDays$Settings", "skill", "[I", true)
  | 2 => ("OwedDays$Settings", "people", "I", false)
  | 3 => ("OwedDays$Settings", "rule", "I", false)
  | _ => ("OwedDays$Settings", "ill", "I", false)
def tyX6 : Nat → FieldType := fun k => match k with
  | 0 => .array .int
  | 1 => .array .int
  | 2 => .int
  | 3 => .int
  | _ => .int
abbrev wsX60 : List Cond := u_ws RX6 TX6 5
theorem nmX6 : ∀ a, a < 5 → ∀ b, b < 5 → a ≠ b → (TX6 a).2.1 ≠ (TX6 b).2.1 := by decide +kernel
theorem tyX6_ok : ∀ k, k < 5 → parseFieldDescriptor (TX6 k).2.2.1 = some (tyX6 k) := by decide +kernel
abbrev cX6_init : ByteArray := prog_8_method_1_code
def yX6_init : MethodName := ⟨RX6, "<init>", "()V"⟩
abbrev cX6_addPerson : ByteArray := prog_8_method_2_code
def yX6_addPerson : MethodName := ⟨RX6, "addPerson", "(I)I"⟩
abbrev cX6_isPerson : ByteArray := prog_8_method_3_code
def yX6_isPerson : MethodName := ⟨RX6, "isPerson", "(I)Z"⟩
abbrev cX6_areUnlike : ByteArray := prog_8_method_4_code
def yX6_areUnlike : MethodName := ⟨RX6, "areUnlike", "(II)Z"⟩
abbrev cX6_isPair : ByteArray := prog_8_method_5_code
def yX6_isPair : MethodName := ⟨RX6, "isPair", "(I)Z"⟩
abbrev cX6_isNumber : ByteArray := prog_8_method_6_code
def yX6_isNumber : MethodName := ⟨RX6, "isNumber", "(II)Z"⟩
abbrev cX6_allows : ByteArray := prog_8_method_7_code
def yX6_allows : MethodName := ⟨RX6, "allows", "(II)Z"⟩
abbrev cX6_told : ByteArray := prog_8_method_8_code
def yX6_told : MethodName := ⟨RX6, "told", "(II)I"⟩
abbrev cX6_tell : ByteArray := prog_8_method_9_code
def yX6_tell : MethodName := ⟨RX6, "tell", "(III)V"⟩
def RX7 : String := "OwedDays$Shelf"
def TX7 : u_T := fun k => match k with
  | 0 => ("OwedDays$Shelf", "elements", "[J", true)
  | 1 => ("OwedDays$Shelf", "body", "I", false)
  | 2 => ("OwedDays$Shelf", "sort", "I", false)
  | _ => ("OwedDays$Shelf", "length", "I", false)
def tyX7 : Nat → FieldType := fun k => match k with
  | 0 => .array .long
  | 1 => .int
  | 2 => .int
  | _ => .int
abbrev wsX70 : List Cond := u_ws RX7 TX7 4
theorem nmX7 : ∀ a, a < 4 → ∀ b, b < 4 → a ≠ b → (TX7 a).2.1 ≠ (TX7 b).2.1 := by decide +kernel
theorem tyX7_ok : ∀ k, k < 4 → parseFieldDescriptor (TX7 k).2.2.1 = some (tyX7 k) := by decide +kernel
abbrev cX7_init : ByteArray := prog_9_method_1_code
def yX7_init : MethodName := ⟨RX7, "<init>", "()V"⟩
abbrev cX7_holdsNothing : ByteArray := prog_9_method_2_code
def yX7_holdsNothing : MethodName := ⟨RX7, "holdsNothing", "()Z"⟩
abbrev cX7_holdsRow : ByteArray := prog_9_method_3_code
def yX7_holdsRow : MethodName := ⟨RX7, "holdsRow", "()Z"⟩
abbrev cX7_holdDay : ByteArray := prog_9_method_4_code
def yX7_holdDay : MethodName := ⟨RX7, "holdDay", "(I)V"⟩
abbrev cX7_holdRow : ByteArray := prog_9_method_5_code
def yX7_holdRow : MethodName := ⟨RX7, "holdRow", "(II)V"⟩
abbrev cX7_hasPlaces : ByteArray := prog_9_method_6_code
def yX7_hasPlaces : MethodName := ⟨RX7, "hasPlaces", "(II)Z"⟩
abbrev cX7_number : ByteArray := prog_9_method_7_code
def yX7_number : MethodName := ⟨RX7, "number", "(I)I"⟩
abbrev cX7_setElement : ByteArray := prog_9_method_8_code
def yX7_setElement : MethodName := ⟨RX7, "setElement", "(IJ)V"⟩
def RX8 : String := "OwedDays$Wiper"
def TX8 : u_T := fun k => match k with
  | 0 => ("OwedDays$Wiper", "net", "[I", true)
  | 1 => ("OwedDays$Wiper", "sum", "[I", true)
  | _ => ("OwedDays$Wiper", "evenSets", "[I", true)
def tyX8 : Nat → FieldType := fun k => match k with
  | 0 => .array .int
  | 1 => .array .int
  | _ => .array .int
abbrev wsX80 : List Cond := u_ws RX8 TX8 3
theorem nmX8 : ∀ a, a < 3 → ∀ b, b < 3 → a ≠ b → (TX8 a).2.1 ≠ (TX8 b).2.1 := by decide +kernel
theorem tyX8_ok : ∀ k, k < 3 → parseFieldDescriptor (TX8 k).2.2.1 = some (tyX8 k) := by decide +kernel
abbrev cX8_init : ByteArray := prog_10_method_1_code
def yX8_init : MethodName := ⟨RX8, "<init>", "()V"⟩
abbrev cX8_fewest : ByteArray := prog_10_method_2_code
def yX8_fewest : MethodName := ⟨RX8, "fewest", "(LOwedDays$Ledger;I)I"⟩
abbrev cX8_takeNet : ByteArray := prog_10_method_3_code
def yX8_takeNet : MethodName := ⟨RX8, "takeNet", "(LOwedDays$Ledger;)V"⟩
def RX9 : String := "OwedDays"
def TX9 : u_T := fun k => match k with
  | 0 => ("OwedDays", "settings", "LOwedDays$Settings;", true)
  | 1 => ("OwedDays", "changes", "LOwedDays$Changes;", true)
  | 2 => ("OwedDays", "text", "LOwedDays$Law;", true)
  | 3 => ("OwedDays", "ledger", "LOwedDays$Ledger;", true)
  | 4 => ("OwedDays", "diary", "LOwedDays$Diary;", true)
  | 5 => ("OwedDays", "keptLedger", "LOwedDays$Ledger;", true)
  | 6 => ("OwedDays", "keptDiary", "LOwedDays$Diary;", true)
  | 7 => ("OwedDays", "wiper", "LOwedDays$Wiper;", true)
  | 8 => ("OwedDays", "bodies", "LOwedDays$Bodies;", true)
  | 9 => ("OwedDays", "shelves", "[LOwedDays$Shelf;", true)
  | 10 => ("OwedDays", "daysOfWorth", "[I", true)
  | _ => ("OwedDays", "imageIsKept", "Z", false)
def tyX9 : Nat → FieldType := fun k => match k with
  | 0 => .object "OwedDays$Settings"
  | 1 => .object "OwedDays$Changes"
  | 2 => .object "OwedDays$Law"
  | 3 => .object "OwedDays$Ledger"
  | 4 => .object "OwedDays$Diary"
  | 5 => .object "OwedDays$Ledger"
  | 6 => .object "OwedDays$Diary"
  | 7 => .object "OwedDays$Wiper"
  | 8 => .object "OwedDays$Bodies"
  | 9 => .array (.object "OwedDays$Shelf")
  | 10 => .array .int
  | _ => .boolean
abbrev wsX90 : List Cond := u_ws RX9 TX9 12
theorem nmX9 : ∀ a, a < 12 → ∀ b, b < 12 → a ≠ b → (TX9 a).2.1 ≠ (TX9 b).2.1 := by decide +kernel
theorem tyX9_ok : ∀ k, k < 12 → parseFieldDescriptor (TX9 k).2.2.1 = some (tyX9 k) := by decide +kernel
abbrev cX9_init : ByteArray := prog_1_method_1_code
def yX9_init : MethodName := ⟨RX9, "<init>", "()V"⟩
abbrev cX9_person : ByteArray := prog_1_method_2_code
def yX9_person : MethodName := ⟨RX9, "person", "(I)I"⟩
abbrev cX9_debt : ByteArray := prog_1_method_3_code
def yX9_debt : MethodName := ⟨RX9, "debt", "(II)I"⟩
abbrev cX9_debts : ByteArray := prog_1_method_4_code
def yX9_debts : MethodName := ⟨RX9, "debts", "(III)I"⟩
abbrev cX9_mend : ByteArray := prog_1_method_5_code
def yX9_mend : MethodName := ⟨RX9, "mend", "(III)I"⟩
abbrev cX9_of : ByteArray := prog_1_method_6_code
def yX9_of : MethodName := ⟨RX9, "of", "(II)I"⟩
abbrev cX9_feed : ByteArray := prog_1_method_7_code
def yX9_feed : MethodName := ⟨RX9, "feed", "(I)I"⟩
abbrev cX9_law : ByteArray := prog_1_method_8_code
def yX9_law : MethodName := ⟨RX9, "law", "()I"⟩
abbrev cX9_worth : ByteArray := prog_1_method_9_code
def yX9_worth : MethodName := ⟨RX9, "worth", "(II)I"⟩
abbrev cX9_ask : ByteArray := prog_1_method_10_code
def yX9_ask : MethodName := ⟨RX9, "ask", "(II)I"⟩
abbrev cX9_has : ByteArray := prog_1_method_11_code
def yX9_has : MethodName := ⟨RX9, "has", "(II)I"⟩
abbrev cX9_go : ByteArray := prog_1_method_12_code
def yX9_go : MethodName := ⟨RX9, "go", "(II)I"⟩
abbrev cX9_led : ByteArray := prog_1_method_13_code
def yX9_led : MethodName := ⟨RX9, "led", "(II)I"⟩
abbrev cX9_waits : ByteArray := prog_1_method_14_code
def yX9_waits : MethodName := ⟨RX9, "waits", "()I"⟩
abbrev cX9_bestDay : ByteArray := prog_1_method_15_code
def yX9_bestDay : MethodName := ⟨RX9, "bestDay", "(II)I"⟩
abbrev cX9_plan : ByteArray := prog_1_method_16_code
def yX9_plan : MethodName := ⟨RX9, "plan", "(II)I"⟩
abbrev cX9_free : ByteArray := prog_1_method_17_code
def yX9_free : MethodName := ⟨RX9, "free", "(II)I"⟩
abbrev cX9_ring : ByteArray := prog_1_method_18_code
def yX9_ring : MethodName := ⟨RX9, "ring", "()I"⟩
abbrev cX9_wiped : ByteArray := prog_1_method_19_code
def yX9_wiped : MethodName := ⟨RX9, "wiped", "()I"⟩
abbrev cX9_balance : ByteArray := prog_1_method_20_code
def yX9_balance : MethodName := ⟨RX9, "balance", "(I)I"⟩
abbrev cX9_hand : ByteArray := prog_1_method_21_code
def yX9_hand : MethodName := ⟨RX9, "hand", "(I)I"⟩
abbrev cX9_strike : ByteArray := prog_1_method_22_code
def yX9_strike : MethodName := ⟨RX9, "strike", "()I"⟩
abbrev cX9_runaway : ByteArray := prog_1_method_23_code
def yX9_runaway : MethodName := ⟨RX9, "runaway", "(I)I"⟩
abbrev cX9_heir : ByteArray := prog_1_method_24_code
def yX9_heir : MethodName := ⟨RX9, "heir", "(I)I"⟩
abbrev cX9_judge : ByteArray := prog_1_method_25_code
def yX9_judge : MethodName := ⟨RX9, "judge", "(I)I"⟩
abbrev cX9_wet : ByteArray := prog_1_method_26_code
def yX9_wet : MethodName := ⟨RX9, "wet", "(II)I"⟩
abbrev cX9_image : ByteArray := prog_1_method_27_code
def yX9_image : MethodName := ⟨RX9, "image", "()I"⟩
abbrev cX9_back : ByteArray := prog_1_method_28_code
def yX9_back : MethodName := ⟨RX9, "back", "()I"⟩
abbrev cX9_undo : ByteArray := prog_1_method_29_code
def yX9_undo : MethodName := ⟨RX9, "undo", "()I"⟩
abbrev cX9_redo : ByteArray := prog_1_method_30_code
def yX9_redo : MethodName := ⟨RX9, "redo", "()I"⟩
abbrev cX9_body : ByteArray := prog_1_method_31_code
def yX9_body : MethodName := ⟨RX9, "body", "(I)I"⟩
abbrev cX9_act : ByteArray := prog_1_method_32_code
def yX9_act : MethodName := ⟨RX9, "act", "(III)I"⟩
abbrev cX9_trace : ByteArray := prog_1_method_33_code
def yX9_trace : MethodName := ⟨RX9, "trace", "(I)I"⟩
abbrev cX9_keep : ByteArray := prog_1_method_34_code
def yX9_keep : MethodName := ⟨RX9, "keep", "(II)I"⟩
abbrev cX9_row : ByteArray := prog_1_method_35_code
def yX9_row : MethodName := ⟨RX9, "row", "(III)I"⟩
abbrev cX9_put : ByteArray := prog_1_method_36_code
def yX9_put : MethodName := ⟨RX9, "put", "(IIJ)I"⟩
abbrev cX9_element : ByteArray := prog_1_method_37_code
def yX9_element : MethodName := ⟨RX9, "element", "(II)J"⟩
abbrev cX9_shift : ByteArray := prog_1_method_38_code
def yX9_shift : MethodName := ⟨RX9, "shift", "(IIIII)I"⟩
abbrev cX9_taken : ByteArray := prog_1_method_39_code
def yX9_taken : MethodName := ⟨RX9, "taken", "(II)I"⟩
abbrev cX9_count : ByteArray := prog_1_method_40_code
def yX9_count : MethodName := ⟨RX9, "count", "(I)I"⟩
abbrev cX9_within : ByteArray := prog_1_method_41_code
def yX9_within : MethodName := ⟨RX9, "within", "(III)Z"⟩
abbrev cX9_isDay : ByteArray := prog_1_method_42_code
def yX9_isDay : MethodName := ⟨RX9, "isDay", "(I)Z"⟩
abbrev cX9_isHoly : ByteArray := prog_1_method_43_code
def yX9_isHoly : MethodName := ⟨RX9, "isHoly", "(I)Z"⟩
abbrev cX9_isShelf : ByteArray := prog_1_method_44_code
def yX9_isShelf : MethodName := ⟨RX9, "isShelf", "(I)Z"⟩
abbrev cX9_isDebtSo : ByteArray := prog_1_method_45_code
def yX9_isDebtSo : MethodName := ⟨RX9, "isDebtSo", "(II)Z"⟩
abbrev cX9_debtComes : ByteArray := prog_1_method_46_code
def yX9_debtComes : MethodName := ⟨RX9, "debtComes", "(LOwedDays$Shelf;J)Z"⟩
abbrev cX9_ofDebt : ByteArray := prog_1_method_47_code
def yX9_ofDebt : MethodName := ⟨RX9, "ofDebt", "(II)I"⟩
abbrev cX9_ofPerson : ByteArray := prog_1_method_48_code
def yX9_ofPerson : MethodName := ⟨RX9, "ofPerson", "(II)I"⟩
abbrev cX9_ofAsk : ByteArray := prog_1_method_49_code
def yX9_ofAsk : MethodName := ⟨RX9, "ofAsk", "(II)I"⟩
abbrev cX9_worthOf : ByteArray := prog_1_method_50_code
def yX9_worthOf : MethodName := ⟨RX9, "worthOf", "(III)I"⟩
abbrev cX9_debtToWork : ByteArray := prog_1_method_51_code
def yX9_debtToWork : MethodName := ⟨RX9, "debtToWork", "(II)I"⟩
abbrev cX9_meritOf : ByteArray := prog_1_method_52_code
def yX9_meritOf : MethodName := ⟨RX9, "meritOf", "(II)I"⟩
abbrev cX9_worksToday : ByteArray := prog_1_method_53_code
def yX9_worksToday : MethodName := ⟨RX9, "worksToday", "(I)Z"⟩
abbrev cX9_worthOfBestDays : ByteArray := prog_1_method_54_code
def yX9_worthOfBestDays : MethodName := ⟨RX9, "worthOfBestDays", "(IIII)I"⟩
abbrev cX9_isThreeSo : ByteArray := prog_1_method_55_code
def yX9_isThreeSo : MethodName := ⟨RX9, "isThreeSo", "(LOwedDays$Shelf;I)Z"⟩
abbrev cX9_refusalOfElement : ByteArray := prog_1_method_56_code
def yX9_refusalOfElement : MethodName := ⟨RX9, "refusalOfElement", "(II)I"⟩
def RX10 : String := "OwedDaysModel"
def TX10 : u_T := fun k => match k with
  | 0 => ("OwedDaysModel", "may", "[I", true)
  | 1 => ("OwedDaysModel", "changeAt", "[I", true)
  | 2 => ("OwedDaysModel", "changeWas", "[I", true)
  | 3 => ("OwedDaysModel", "changeIs", "[I", true)
  | 4 => ("OwedDaysModel", "keptMany", "I", false)
  | 5 => ("OwedDaysModel", "done", "I", false)
  | 6 => ("OwedDaysModel", "people", "I", false)
  | 7 => ("OwedDaysModel", "debts", "I", false)
  | 8 => ("OwedDaysModel", "debt", "[I", true)
  | 9 => ("OwedDaysModel", "now", "I", false)
  | 10 => ("OwedDaysModel", "tape", "[I", true)
  | 11 => ("OwedDaysModel", "tapeMany", "I", false)
  | 12 => ("OwedDaysModel", "text", "[I", true)
  | 13 => ("OwedDaysModel", "textMany", "I", false)
  | 14 => ("OwedDaysModel", "base", "I", false)
  | 15 => ("OwedDaysModel", "at", "I", false)
  | 16 => ("OwedDaysModel", "ends", "I", false)
  | 17 => ("OwedDaysModel", "fault", "I", false)
  | 18 => ("OwedDaysModel", "opened", "I", false)
  | 19 => ("OwedDaysModel", "names", "[I", true)
  | 20 => ("OwedDaysModel", "asks", "I", false)
  | 21 => ("OwedDaysModel", "ask", "[I", true)
  | 22 => ("OwedDaysModel", "got", "[I", true)
  | 23 => ("OwedDaysModel", "ledFor", "[I", true)
  | 24 => ("OwedDaysModel", "ledOn", "[I", true)
  | 25 => ("OwedDaysModel", "z", "I", false)
  | 26 => ("OwedDaysModel", "isTaken", "[Z", true)
  | 27 => ("OwedDaysModel", "ringBest", "I", false)
  | 28 => ("OwedDaysModel", "sums", "[I", true)
  | 29 => ("OwedDaysModel", "parts", "[I", true)
  | 30 => ("OwedDaysModel", "isKept", "Z", false)
  | 31 => ("OwedDaysModel", "imageDebts", "I", false)
  | 32 => ("OwedDaysModel", "imageAsks", "I", false)
  | 33 => ("OwedDaysModel", "imageNow", "I", false)
  | 34 => ("OwedDaysModel", "imageDebt", "[I", true)
  | 35 => ("OwedDaysModel", "imageAsk", "[I", true)
  | 36 => ("OwedDaysModel", "imageGot", "[I", true)
  | 37 => ("OwedDaysModel", "imageFor", "[I", true)
  | 38 => ("OwedDaysModel", "imageOn", "[I", true)
  | 39 => ("OwedDaysModel", "bodies", "I", false)
  | 40 => ("OwedDaysModel", "bodyKind", "[I", true)
  | 41 => ("OwedDaysModel", "trace", "[I", true)
  | 42 => ("OwedDaysModel", "ran", "I", false)
  | 43 => ("OwedDaysModel", "ownKind", "I", false)
  | 44 => ("OwedDaysModel", "ownNumber", "I", false)
  | 45 => ("OwedDaysModel", "shelf", "[I", true)
  | 46 => ("OwedDaysModel", "many", "[I", true)
  | 47 => ("OwedDaysModel", "items", "[J", true)
  | _ => ("OwedDaysModel", "carried", "[J", true)
def tyX10 : Nat → FieldType := fun k => match k with
  | 0 => .array .int
  | 1 => .array .int
  | 2 => .array .int
  | 3 => .array .int
  | 4 => .int
  | 5 => .int
  | 6 => .int
  | 7 => .int
  | 8 => .array .int
  | 9 => .int
  | 10 => .array .int
  | 11 => .int
  | 12 => .array .int
  | 13 => .int
  | 14 => .int
  | 15 => .int
  | 16 => .int
  | 17 => .int
  | 18 => .int
  | 19 => .array .int
  | 20 => .int
  | 21 => .array .int
  | 22 => .array .int
  | 23 => .array .int
  | 24 => .array .int
  | 25 => .int
  | 26 => .array .boolean
  | 27 => .int
  | 28 => .array .int
  | 29 => .array .int
  | 30 => .boolean
  | 31 => .int
  | 32 => .int
  | 33 => .int
  | 34 => .array .int
  | 35 => .array .int
  | 36 => .array .int
  | 37 => .array .int
  | 38 => .array .int
  | 39 => .int
  | 40 => .array .int
  | 41 => .array .int
  | 42 => .int
  | 43 => .int
  | 44 => .int
  | 45 => .array .int
  | 46 => .array .int
  | 47 => .array .long
  | _ => .array .long
abbrev wsX100 : List Cond := u_ws RX10 TX10 49
theorem nmX10 : ∀ a, a < 49 → ∀ b, b < 49 → a ≠ b → (TX10 a).2.1 ≠ (TX10 b).2.1 := by decide +kernel
theorem tyX10_ok : ∀ k, k < 49 → parseFieldDescriptor (TX10 k).2.2.1 = some (tyX10 k) := by decide +kernel
abbrev cX10_within : ByteArray := prog_12_method_1_code
def yX10_within : MethodName := ⟨RX10, "within", "(JJJ)Z"⟩
abbrev cX10_init : ByteArray := prog_12_method_2_code
def yX10_init : MethodName := ⟨RX10, "<init>", "()V"⟩
abbrev cX10_becomes : ByteArray := prog_12_method_3_code
def yX10_becomes : MethodName := ⟨RX10, "becomes", "(II)I"⟩
abbrev cX10_undo : ByteArray := prog_12_method_4_code
def yX10_undo : MethodName := ⟨RX10, "undo", "()I"⟩
abbrev cX10_redo : ByteArray := prog_12_method_5_code
def yX10_redo : MethodName := ⟨RX10, "redo", "()I"⟩
abbrev cX10_isPerson : ByteArray := prog_12_method_6_code
def yX10_isPerson : MethodName := ⟨RX10, "isPerson", "(I)Z"⟩
abbrev cX10_isPq : ByteArray := prog_12_method_7_code
def yX10_isPq : MethodName := ⟨RX10, "isPq", "(I)Z"⟩
abbrev cX10_isDebt : ByteArray := prog_12_method_8_code
def yX10_isDebt : MethodName := ⟨RX10, "isDebt", "(I)Z"⟩
abbrev cX10_isDay : ByteArray := prog_12_method_9_code
def yX10_isDay : MethodName := ⟨RX10, "isDay", "(I)Z"⟩
abbrev cX10_isHoly : ByteArray := prog_12_method_10_code
def yX10_isHoly : MethodName := ⟨RX10, "isHoly", "(I)Z"⟩
abbrev cX10_isOpen : ByteArray := prog_12_method_11_code
def yX10_isOpen : MethodName := ⟨RX10, "isOpen", "(I)Z"⟩
abbrev cX10_person : ByteArray := prog_12_method_12_code
def yX10_person : MethodName := ⟨RX10, "person", "(I)I"⟩
abbrev cX10_isOne : ByteArray := prog_12_method_13_code
def yX10_isOne : MethodName := ⟨RX10, "isOne", "(JJJJ)Z"⟩
abbrev cX10_adds : ByteArray := prog_12_method_14_code
def yX10_adds : MethodName := ⟨RX10, "adds", "(IIII)V"⟩
abbrev cX10_debt : ByteArray := prog_12_method_15_code
def yX10_debt : MethodName := ⟨RX10, "debt", "(II)I"⟩
abbrev cX10_debts : ByteArray := prog_12_method_16_code
def yX10_debts : MethodName := ⟨RX10, "debts", "(III)I"⟩
abbrev cX10_mend : ByteArray := prog_12_method_17_code
def yX10_mend : MethodName := ⟨RX10, "mend", "(III)I"⟩
abbrev cX10_owedBetween : ByteArray := prog_12_method_18_code
def yX10_owedBetween : MethodName := ⟨RX10, "owedBetween", "(II)I"⟩
abbrev cX10_sumOf : ByteArray := prog_12_method_19_code
def yX10_sumOf : MethodName := ⟨RX10, "sumOf", "(II)I"⟩
abbrev cX10_ofPerson : ByteArray := prog_12_method_20_code
def yX10_ofPerson : MethodName := ⟨RX10, "ofPerson", "(II)I"⟩
abbrev cX10_of : ByteArray := prog_12_method_21_code
def yX10_of : MethodName := ⟨RX10, "of", "(II)I"⟩
abbrev cX10_feed : ByteArray := prog_12_method_22_code
def yX10_feed : MethodName := ⟨RX10, "feed", "(I)I"⟩
abbrev cX10_byteAt : ByteArray := prog_12_method_23_code
def yX10_byteAt : MethodName := ⟨RX10, "byteAt", "()I"⟩
abbrev cX10_wrong : ByteArray := prog_12_method_24_code
def yX10_wrong : MethodName := ⟨RX10, "wrong", "()I"⟩
abbrev cX10_takes : ByteArray := prog_12_method_25_code
def yX10_takes : MethodName := ⟨RX10, "takes", "(I)Z"⟩
abbrev cX10_either : ByteArray := prog_12_method_26_code
def yX10_either : MethodName := ⟨RX10, "either", "()I"⟩
abbrev cX10_both : ByteArray := prog_12_method_27_code
def yX10_both : MethodName := ⟨RX10, "both", "()I"⟩
abbrev cX10_compared : ByteArray := prog_12_method_28_code
def yX10_compared : MethodName := ⟨RX10, "compared", "()I"⟩
abbrev cX10_sums : ByteArray := prog_12_method_29_code
def yX10_sums : MethodName := ⟨RX10, "sums", "()I"⟩
abbrev cX10_product : ByteArray := prog_12_method_30_code
def yX10_product : MethodName := ⟨RX10, "product", "()I"⟩
abbrev cX10_nameOf : ByteArray := prog_12_method_31_code
def yX10_nameOf : MethodName := ⟨RX10, "nameOf", "(I)I"⟩
abbrev cX10_one : ByteArray := prog_12_method_32_code
def yX10_one : MethodName := ⟨RX10, "one", "()I"⟩
abbrev cX10_workOut : ByteArray := prog_12_method_33_code
def yX10_workOut : MethodName := ⟨RX10, "workOut", "(II)I"⟩
abbrev cX10_law : ByteArray := prog_12_method_34_code
def yX10_law : MethodName := ⟨RX10, "law", "()I"⟩
abbrev cX10_worthOf : ByteArray := prog_12_method_35_code
def yX10_worthOf : MethodName := ⟨RX10, "worthOf", "(III)I"⟩
abbrev cX10_worth : ByteArray := prog_12_method_36_code
def yX10_worth : MethodName := ⟨RX10, "worth", "(II)I"⟩
abbrev cX10_mayAsk : ByteArray := prog_12_method_37_code
def yX10_mayAsk : MethodName := ⟨RX10, "mayAsk", "(I)Z"⟩
abbrev cX10_ask : ByteArray := prog_12_method_38_code
def yX10_ask : MethodName := ⟨RX10, "ask", "(II)I"⟩
abbrev cX10_weightOf : ByteArray := prog_12_method_39_code
def yX10_weightOf : MethodName := ⟨RX10, "weightOf", "(I)I"⟩
abbrev cX10_askFor : ByteArray := prog_12_method_40_code
def yX10_askFor : MethodName := ⟨RX10, "askFor", "(II)I"⟩
abbrev cX10_has : ByteArray := prog_12_method_41_code
def yX10_has : MethodName := ⟨RX10, "has", "(II)I"⟩
abbrev cX10_waits : ByteArray := prog_12_method_42_code
def yX10_waits : MethodName := ⟨RX10, "waits", "()I"⟩
abbrev cX10_loses : ByteArray := prog_12_method_43_code
def yX10_loses : MethodName := ⟨RX10, "loses", "(II)V"⟩
abbrev cX10_worksOff : ByteArray := prog_12_method_44_code
def yX10_worksOff : MethodName := ⟨RX10, "worksOff", "(II)V"⟩
abbrev cX10_dayGoes : ByteArray := prog_12_method_45_code
def yX10_dayGoes : MethodName := ⟨RX10, "dayGoes", "()I"⟩
abbrev cX10_go : ByteArray := prog_12_method_46_code
def yX10_go : MethodName := ⟨RX10, "go", "(II)I"⟩
abbrev cX10_led : ByteArray := prog_12_method_47_code
def yX10_led : MethodName := ⟨RX10, "led", "(II)I"⟩
abbrev cX10_bestDay : ByteArray := prog_12_method_48_code
def yX10_bestDay : MethodName := ⟨RX10, "bestDay", "(II)I"⟩
abbrev cX10_bestSum : ByteArray := prog_12_method_49_code
def yX10_bestSum : MethodName := ⟨RX10, "bestSum", "(IIII)I"⟩
abbrev cX10_plan : ByteArray := prog_12_method_50_code
def yX10_plan : MethodName := ⟨RX10, "plan", "(II)I"⟩
abbrev cX10_free : ByteArray := prog_12_method_51_code
def yX10_free : MethodName := ⟨RX10, "free", "(II)I"⟩
abbrev cX10_bitsOf : ByteArray := prog_12_method_52_code
def yX10_bitsOf : MethodName := ⟨RX10, "bitsOf", "(I)I"⟩
abbrev cX10_ringsFrom : ByteArray := prog_12_method_53_code
def yX10_ringsFrom : MethodName := ⟨RX10, "ringsFrom", "(IIII)V"⟩
abbrev cX10_ring : ByteArray := prog_12_method_54_code
def yX10_ring : MethodName := ⟨RX10, "ring", "()I"⟩
abbrev cX10_balanceOfAny : ByteArray := prog_12_method_55_code
def yX10_balanceOfAny : MethodName := ⟨RX10, "balanceOfAny", "(I)I"⟩
abbrev cX10_wiped : ByteArray := prog_12_method_56_code
def yX10_wiped : MethodName := ⟨RX10, "wiped", "()I"⟩
abbrev cX10_balance : ByteArray := prog_12_method_57_code
def yX10_balance : MethodName := ⟨RX10, "balance", "(I)I"⟩
abbrev cX10_hand : ByteArray := prog_12_method_58_code
def yX10_hand : MethodName := ⟨RX10, "hand", "(I)I"⟩
abbrev cX10_strike : ByteArray := prog_12_method_59_code
def yX10_strike : MethodName := ⟨RX10, "strike", "()I"⟩
abbrev cX10_runaway : ByteArray := prog_12_method_60_code
def yX10_runaway : MethodName := ⟨RX10, "runaway", "(I)I"⟩
abbrev cX10_heir : ByteArray := prog_12_method_61_code
def yX10_heir : MethodName := ⟨RX10, "heir", "(I)I"⟩
abbrev cX10_bookIs : ByteArray := prog_12_method_62_code
def yX10_bookIs : MethodName := ⟨RX10, "bookIs", "(I)I"⟩
abbrev cX10_isSo : ByteArray := prog_12_method_63_code
def yX10_isSo : MethodName := ⟨RX10, "isSo", "(JJJ)Z"⟩
abbrev cX10_judge : ByteArray := prog_12_method_64_code
def yX10_judge : MethodName := ⟨RX10, "judge", "(I)I"⟩
abbrev cX10_wet : ByteArray := prog_12_method_65_code
def yX10_wet : MethodName := ⟨RX10, "wet", "(II)I"⟩
abbrev cX10_copies : ByteArray := prog_12_method_66_code
def yX10_copies : MethodName := ⟨RX10, "copies", "([I[I)V"⟩
abbrev cX10_image : ByteArray := prog_12_method_67_code
def yX10_image : MethodName := ⟨RX10, "image", "()I"⟩
abbrev cX10_back : ByteArray := prog_12_method_68_code
def yX10_back : MethodName := ⟨RX10, "back", "()I"⟩
abbrev cX10_openMany : ByteArray := prog_12_method_69_code
def yX10_openMany : MethodName := ⟨RX10, "openMany", "()I"⟩
abbrev cX10_isBody : ByteArray := prog_12_method_70_code
def yX10_isBody : MethodName := ⟨RX10, "isBody", "(I)Z"⟩
abbrev cX10_kindOf : ByteArray := prog_12_method_71_code
def yX10_kindOf : MethodName := ⟨RX10, "kindOf", "(I)I"⟩
abbrev cX10_body : ByteArray := prog_12_method_72_code
def yX10_body : MethodName := ⟨RX10, "body", "(I)I"⟩
abbrev cX10_above : ByteArray := prog_12_method_73_code
def yX10_above : MethodName := ⟨RX10, "above", "(I)I"⟩
abbrev cX10_begins : ByteArray := prog_12_method_74_code
def yX10_begins : MethodName := ⟨RX10, "begins", "(I)V"⟩
abbrev cX10_owesAs : ByteArray := prog_12_method_75_code
def yX10_owesAs : MethodName := ⟨RX10, "owesAs", "(II)I"⟩
abbrev cX10_worksAs : ByteArray := prog_12_method_76_code
def yX10_worksAs : MethodName := ⟨RX10, "worksAs", "(II)I"⟩
abbrev cX10_asksAs : ByteArray := prog_12_method_77_code
def yX10_asksAs : MethodName := ⟨RX10, "asksAs", "(II)I"⟩
abbrev cX10_tellsAs : ByteArray := prog_12_method_78_code
def yX10_tellsAs : MethodName := ⟨RX10, "tellsAs", "(II)I"⟩
abbrev cX10_act : ByteArray := prog_12_method_79_code
def yX10_act : MethodName := ⟨RX10, "act", "(III)I"⟩
abbrev cX10_trace : ByteArray := prog_12_method_80_code
def yX10_trace : MethodName := ⟨RX10, "trace", "(I)I"⟩
abbrev cX10_isShelf : ByteArray := prog_12_method_81_code
def yX10_isShelf : MethodName := ⟨RX10, "isShelf", "(I)Z"⟩
abbrev cX10_keep : ByteArray := prog_12_method_82_code
def yX10_keep : MethodName := ⟨RX10, "keep", "(II)I"⟩
abbrev cX10_row : ByteArray := prog_12_method_83_code
def yX10_row : MethodName := ⟨RX10, "row", "(III)I"⟩
abbrev cX10_refusal : ByteArray := prog_12_method_84_code
def yX10_refusal : MethodName := ⟨RX10, "refusal", "(II)I"⟩
abbrev cX10_asSort : ByteArray := prog_12_method_85_code
def yX10_asSort : MethodName := ⟨RX10, "asSort", "(IJ)J"⟩
abbrev cX10_put : ByteArray := prog_12_method_86_code
def yX10_put : MethodName := ⟨RX10, "put", "(IIJ)I"⟩
abbrev cX10_element : ByteArray := prog_12_method_87_code
def yX10_element : MethodName := ⟨RX10, "element", "(II)J"⟩
abbrev cX10_shift : ByteArray := prog_12_method_88_code
def yX10_shift : MethodName := ⟨RX10, "shift", "(IIIII)I"⟩
abbrev cX10_taken : ByteArray := prog_12_method_89_code
def yX10_taken : MethodName := ⟨RX10, "taken", "(II)I"⟩
abbrev cX10_count : ByteArray := prog_12_method_90_code
def yX10_count : MethodName := ⟨RX10, "count", "(I)I"⟩
def RJ9 : String := "java/lang/Math"
abbrev cJ9_max_7cf53 : ByteArray := prog_13_method_65_code
def yJ9_max_7cf53 : MethodName := ⟨RJ9, "max", "(II)I"⟩
abbrev cJ9_min_7cf53 : ByteArray := prog_13_method_69_code
def yJ9_min_7cf53 : MethodName := ⟨RJ9, "min", "(II)I"⟩
def RJ10 : String := "java/lang/System"
def RL : String := "OwedDaysLaw"
abbrev cL_law : ByteArray := code
def yL_law : MethodName := ⟨RL, "law", "([I)Z"⟩
abbrev vwCl : List vw_C := [(RX0, TX0, 5), (RX1, TX1, 6), (RX2, TX2, 8), (RX3, TX3, 15), (RX4, TX4, 6), (RX6, TX6, 5), (RX7, TX7, 4), (RX8, TX8, 3), (RX9, TX9, 12), (RX10, TX10, 49)]
