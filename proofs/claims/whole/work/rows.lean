section
-- ===== PART A: goes FIRST, ahead of the names: the tables' words, and 'selects' of the private methods out of them =====
/-- a private method of a class that the tables say can be made, by its rows of tables_1 -/
def lw_okq (q : MethodName × Nat) : Prop := (q.1.cls ≠ "java/lang/invoke/MethodHandle" ∧ q.1.cls ≠ "java/lang/invoke/VarHandle") ∧ Cond.instantiable q.1.cls q.2 ∈ tables_1 ∧ Cond.privateMethod q.1 ∈ tables_1 ∧ Cond.instanceMethod q.1 ∈ tables_1
theorem lw_p0 : lw_okq (⟨"KeysForSecond", "isPerson", "(I)Z"⟩, 9) := ⟨⟨by decide +kernel, by decide +kernel⟩, List.mem_of_getElem? (i := 17) (by decide +kernel), List.mem_of_getElem? (i := 243) (by decide +kernel), List.mem_of_getElem? (i := 244) (by decide +kernel)⟩
theorem lw_p1 : lw_okq (⟨"KeysForSecond$Tape", "readWord", "()V"⟩, 6) := ⟨⟨by decide +kernel, by decide +kernel⟩, List.mem_of_getElem? (i := 29) (by decide +kernel), List.mem_of_getElem? (i := 285) (by decide +kernel), List.mem_of_getElem? (i := 286) (by decide +kernel)⟩
theorem lw_p2 : lw_okq (⟨"KeysForSecond$Tape", "spells", "(Ljava/lang/String;)Z"⟩, 6) := ⟨⟨by decide +kernel, by decide +kernel⟩, List.mem_of_getElem? (i := 29) (by decide +kernel), List.mem_of_getElem? (i := 290) (by decide +kernel), List.mem_of_getElem? (i := 291) (by decide +kernel)⟩
theorem lw_p3 : lw_okq (⟨"KeysForSecond$Tape", "readNumber", "()V"⟩, 6) := ⟨⟨by decide +kernel, by decide +kernel⟩, List.mem_of_getElem? (i := 29) (by decide +kernel), List.mem_of_getElem? (i := 356) (by decide +kernel), List.mem_of_getElem? (i := 357) (by decide +kernel)⟩
theorem lw_p4 : lw_okq (⟨"KeysForSecond$Grammar", "expect", "(I)V"⟩, 2) := ⟨⟨by decide +kernel, by decide +kernel⟩, List.mem_of_getElem? (i := 59) (by decide +kernel), List.mem_of_getElem? (i := 363) (by decide +kernel), List.mem_of_getElem? (i := 364) (by decide +kernel)⟩
theorem lw_p5 : lw_okq (⟨"KeysForSecond$Grammar", "refuse", "()V"⟩, 2) := ⟨⟨by decide +kernel, by decide +kernel⟩, List.mem_of_getElem? (i := 59) (by decide +kernel), List.mem_of_getElem? (i := 367) (by decide +kernel), List.mem_of_getElem? (i := 368) (by decide +kernel)⟩
theorem lw_p6 : lw_okq (⟨"KeysForSecond$Grammar", "side", "(LKeysForSecond$Text;II)V"⟩, 2) := ⟨⟨by decide +kernel, by decide +kernel⟩, List.mem_of_getElem? (i := 59) (by decide +kernel), List.mem_of_getElem? (i := 372) (by decide +kernel), List.mem_of_getElem? (i := 373) (by decide +kernel)⟩
theorem lw_p7 : lw_okq (⟨"KeysForSecond$Grammar", "one", "(LKeysForSecond$Text;I)V"⟩, 2) := ⟨⟨by decide +kernel, by decide +kernel⟩, List.mem_of_getElem? (i := 59) (by decide +kernel), List.mem_of_getElem? (i := 377) (by decide +kernel), List.mem_of_getElem? (i := 378) (by decide +kernel)⟩
theorem lw_p8 : lw_okq (⟨"KeysForSecond", "passThought", "(I)V"⟩, 9) := ⟨⟨by decide +kernel, by decide +kernel⟩, List.mem_of_getElem? (i := 17) (by decide +kernel), List.mem_of_getElem? (i := 489) (by decide +kernel), List.mem_of_getElem? (i := 490) (by decide +kernel)⟩
theorem lw_p9 : lw_okq (⟨"KeysForSecond", "eggsOfSecond", "(III)I"⟩, 9) := ⟨⟨by decide +kernel, by decide +kernel⟩, List.mem_of_getElem? (i := 17) (by decide +kernel), List.mem_of_getElem? (i := 528) (by decide +kernel), List.mem_of_getElem? (i := 529) (by decide +kernel)⟩
theorem lw_p10 : lw_okq (⟨"KeysForSecond", "refusalOfTold", "(II)I"⟩, 9) := ⟨⟨by decide +kernel, by decide +kernel⟩, List.mem_of_getElem? (i := 17) (by decide +kernel), List.mem_of_getElem? (i := 560) (by decide +kernel), List.mem_of_getElem? (i := 561) (by decide +kernel)⟩
theorem lw_p11 : lw_okq (⟨"KeysForSecond", "refusalOfSheet", "(I)I"⟩, 9) := ⟨⟨by decide +kernel, by decide +kernel⟩, List.mem_of_getElem? (i := 17) (by decide +kernel), List.mem_of_getElem? (i := 564) (by decide +kernel), List.mem_of_getElem? (i := 565) (by decide +kernel)⟩
theorem lw_p12 : lw_okq (⟨"KeysForSecond", "otherwise", "(LKeysForSecond$Sheet;I)I"⟩, 9) := ⟨⟨by decide +kernel, by decide +kernel⟩, List.mem_of_getElem? (i := 17) (by decide +kernel), List.mem_of_getElem? (i := 571) (by decide +kernel), List.mem_of_getElem? (i := 572) (by decide +kernel)⟩
theorem lw_p13 : lw_okq (⟨"KeysForSecond", "thinkByLots", "(II)I"⟩, 9) := ⟨⟨by decide +kernel, by decide +kernel⟩, List.mem_of_getElem? (i := 17) (by decide +kernel), List.mem_of_getElem? (i := 617) (by decide +kernel), List.mem_of_getElem? (i := 618) (by decide +kernel)⟩
theorem lw_p14 : lw_okq (⟨"KeysForSecondModel", "next", "()V"⟩, 32) := ⟨⟨by decide +kernel, by decide +kernel⟩, List.mem_of_getElem? (i := 672) (by decide +kernel), List.mem_of_getElem? (i := 682) (by decide +kernel), List.mem_of_getElem? (i := 683) (by decide +kernel)⟩
theorem lw_p15 : lw_okq (⟨"KeysForSecondModel", "wordFrom", "(II)I"⟩, 32) := ⟨⟨by decide +kernel, by decide +kernel⟩, List.mem_of_getElem? (i := 672) (by decide +kernel), List.mem_of_getElem? (i := 689) (by decide +kernel), List.mem_of_getElem? (i := 690) (by decide +kernel)⟩
def lw_privs_1 : List (MethodName × Nat) := [(⟨"KeysForSecond", "isPerson", "(I)Z"⟩, 9), (⟨"KeysForSecond$Tape", "readWord", "()V"⟩, 6), (⟨"KeysForSecond$Tape", "spells", "(Ljava/lang/String;)Z"⟩, 6), (⟨"KeysForSecond$Tape", "readNumber", "()V"⟩, 6), (⟨"KeysForSecond$Grammar", "expect", "(I)V"⟩, 2), (⟨"KeysForSecond$Grammar", "refuse", "()V"⟩, 2), (⟨"KeysForSecond$Grammar", "side", "(LKeysForSecond$Text;II)V"⟩, 2), (⟨"KeysForSecond$Grammar", "one", "(LKeysForSecond$Text;I)V"⟩, 2), (⟨"KeysForSecond", "passThought", "(I)V"⟩, 9), (⟨"KeysForSecond", "eggsOfSecond", "(III)I"⟩, 9), (⟨"KeysForSecond", "refusalOfTold", "(II)I"⟩, 9), (⟨"KeysForSecond", "refusalOfSheet", "(I)I"⟩, 9), (⟨"KeysForSecond", "otherwise", "(LKeysForSecond$Sheet;I)I"⟩, 9), (⟨"KeysForSecond", "thinkByLots", "(II)I"⟩, 9), (⟨"KeysForSecondModel", "next", "()V"⟩, 32), (⟨"KeysForSecondModel", "wordFrom", "(II)I"⟩, 32)]
theorem lw_r1 : ∀ q ∈ lw_privs_1, lw_okq q := List.forall_mem_cons.mpr ⟨lw_p0, List.forall_mem_cons.mpr ⟨lw_p1, List.forall_mem_cons.mpr ⟨lw_p2, List.forall_mem_cons.mpr ⟨lw_p3, List.forall_mem_cons.mpr ⟨lw_p4, List.forall_mem_cons.mpr ⟨lw_p5, List.forall_mem_cons.mpr ⟨lw_p6, List.forall_mem_cons.mpr ⟨lw_p7, List.forall_mem_cons.mpr ⟨lw_p8, List.forall_mem_cons.mpr ⟨lw_p9, List.forall_mem_cons.mpr ⟨lw_p10, List.forall_mem_cons.mpr ⟨lw_p11, List.forall_mem_cons.mpr ⟨lw_p12, List.forall_mem_cons.mpr ⟨lw_p13, List.forall_mem_cons.mpr ⟨lw_p14, List.forall_mem_cons.mpr ⟨lw_p15, fun _ h => absurd h List.not_mem_nil⟩⟩⟩⟩⟩⟩⟩⟩⟩⟩⟩⟩⟩⟩⟩⟩
theorem lw_p16 : lw_okq (⟨"KeysForSecondModel", "eRead", "()Z"⟩, 32) := ⟨⟨by decide +kernel, by decide +kernel⟩, List.mem_of_getElem? (i := 672) (by decide +kernel), List.mem_of_getElem? (i := 693) (by decide +kernel), List.mem_of_getElem? (i := 694) (by decide +kernel)⟩
theorem lw_p17 : lw_okq (⟨"KeysForSecondModel", "puts", "(I)V"⟩, 32) := ⟨⟨by decide +kernel, by decide +kernel⟩, List.mem_of_getElem? (i := 672) (by decide +kernel), List.mem_of_getElem? (i := 698) (by decide +kernel), List.mem_of_getElem? (i := 699) (by decide +kernel)⟩
theorem lw_p18 : lw_okq (⟨"KeysForSecondModel", "unwinds", "(I)V"⟩, 32) := ⟨⟨by decide +kernel, by decide +kernel⟩, List.mem_of_getElem? (i := 672) (by decide +kernel), List.mem_of_getElem? (i := 702) (by decide +kernel), List.mem_of_getElem? (i := 703) (by decide +kernel)⟩
theorem lw_p19 : lw_okq (⟨"KeysForSecondModel", "opensOne", "(I)Z"⟩, 32) := ⟨⟨by decide +kernel, by decide +kernel⟩, List.mem_of_getElem? (i := 672) (by decide +kernel), List.mem_of_getElem? (i := 709) (by decide +kernel), List.mem_of_getElem? (i := 710) (by decide +kernel)⟩
theorem lw_p20 : lw_okq (⟨"KeysForSecondModel", "holds", "(I)V"⟩, 32) := ⟨⟨by decide +kernel, by decide +kernel⟩, List.mem_of_getElem? (i := 672) (by decide +kernel), List.mem_of_getElem? (i := 713) (by decide +kernel), List.mem_of_getElem? (i := 714) (by decide +kernel)⟩
theorem lw_p21 : lw_okq (⟨"KeysForSecondModel", "signOf", "()I"⟩, 32) := ⟨⟨by decide +kernel, by decide +kernel⟩, List.mem_of_getElem? (i := 672) (by decide +kernel), List.mem_of_getElem? (i := 717) (by decide +kernel), List.mem_of_getElem? (i := 718) (by decide +kernel)⟩
theorem lw_p22 : lw_okq (⟨"KeysForSecondModel", "between", "(I)Z"⟩, 32) := ⟨⟨by decide +kernel, by decide +kernel⟩, List.mem_of_getElem? (i := 672) (by decide +kernel), List.mem_of_getElem? (i := 721) (by decide +kernel), List.mem_of_getElem? (i := 722) (by decide +kernel)⟩
theorem lw_p23 : lw_okq (⟨"KeysForSecondModel", "having", "(I)I"⟩, 32) := ⟨⟨by decide +kernel, by decide +kernel⟩, List.mem_of_getElem? (i := 672) (by decide +kernel), List.mem_of_getElem? (i := 826) (by decide +kernel), List.mem_of_getElem? (i := 827) (by decide +kernel)⟩
theorem lw_p24 : lw_okq (⟨"KeysForSecondModel", "isOne", "(I)Z"⟩, 32) := ⟨⟨by decide +kernel, by decide +kernel⟩, List.mem_of_getElem? (i := 672) (by decide +kernel), List.mem_of_getElem? (i := 840) (by decide +kernel), List.mem_of_getElem? (i := 841) (by decide +kernel)⟩
theorem lw_p25 : lw_okq (⟨"KeysForSecondModel", "whoAt", "(I)I"⟩, 32) := ⟨⟨by decide +kernel, by decide +kernel⟩, List.mem_of_getElem? (i := 672) (by decide +kernel), List.mem_of_getElem? (i := 848) (by decide +kernel), List.mem_of_getElem? (i := 849) (by decide +kernel)⟩
theorem lw_p26 : lw_okq (⟨"KeysForSecondModel", "asksOf", "(II)I"⟩, 32) := ⟨⟨by decide +kernel, by decide +kernel⟩, List.mem_of_getElem? (i := 672) (by decide +kernel), List.mem_of_getElem? (i := 868) (by decide +kernel), List.mem_of_getElem? (i := 869) (by decide +kernel)⟩
theorem lw_p27 : lw_okq (⟨"KeysForSecondModel", "hasFirst", "(I)Z"⟩, 32) := ⟨⟨by decide +kernel, by decide +kernel⟩, List.mem_of_getElem? (i := 672) (by decide +kernel), List.mem_of_getElem? (i := 872) (by decide +kernel), List.mem_of_getElem? (i := 873) (by decide +kernel)⟩
theorem lw_p28 : lw_okq (⟨"KeysForSecondModel", "says", "(I)I"⟩, 32) := ⟨⟨by decide +kernel, by decide +kernel⟩, List.mem_of_getElem? (i := 672) (by decide +kernel), List.mem_of_getElem? (i := 876) (by decide +kernel), List.mem_of_getElem? (i := 877) (by decide +kernel)⟩
theorem lw_p29 : lw_okq (⟨"KeysForSecondModel", "doesTry", "(I)Z"⟩, 32) := ⟨⟨by decide +kernel, by decide +kernel⟩, List.mem_of_getElem? (i := 672) (by decide +kernel), List.mem_of_getElem? (i := 898) (by decide +kernel), List.mem_of_getElem? (i := 899) (by decide +kernel)⟩
theorem lw_p30 : lw_okq (⟨"KeysForSecondModel", "paysOf", "(I)I"⟩, 32) := ⟨⟨by decide +kernel, by decide +kernel⟩, List.mem_of_getElem? (i := 672) (by decide +kernel), List.mem_of_getElem? (i := 902) (by decide +kernel), List.mem_of_getElem? (i := 903) (by decide +kernel)⟩
theorem lw_p31 : lw_okq (⟨"KeysForSecondModel", "goesOf", "(I)I"⟩, 32) := ⟨⟨by decide +kernel, by decide +kernel⟩, List.mem_of_getElem? (i := 672) (by decide +kernel), List.mem_of_getElem? (i := 906) (by decide +kernel), List.mem_of_getElem? (i := 907) (by decide +kernel)⟩
def lw_privs_2 : List (MethodName × Nat) := [(⟨"KeysForSecondModel", "eRead", "()Z"⟩, 32), (⟨"KeysForSecondModel", "puts", "(I)V"⟩, 32), (⟨"KeysForSecondModel", "unwinds", "(I)V"⟩, 32), (⟨"KeysForSecondModel", "opensOne", "(I)Z"⟩, 32), (⟨"KeysForSecondModel", "holds", "(I)V"⟩, 32), (⟨"KeysForSecondModel", "signOf", "()I"⟩, 32), (⟨"KeysForSecondModel", "between", "(I)Z"⟩, 32), (⟨"KeysForSecondModel", "having", "(I)I"⟩, 32), (⟨"KeysForSecondModel", "isOne", "(I)Z"⟩, 32), (⟨"KeysForSecondModel", "whoAt", "(I)I"⟩, 32), (⟨"KeysForSecondModel", "asksOf", "(II)I"⟩, 32), (⟨"KeysForSecondModel", "hasFirst", "(I)Z"⟩, 32), (⟨"KeysForSecondModel", "says", "(I)I"⟩, 32), (⟨"KeysForSecondModel", "doesTry", "(I)Z"⟩, 32), (⟨"KeysForSecondModel", "paysOf", "(I)I"⟩, 32), (⟨"KeysForSecondModel", "goesOf", "(I)I"⟩, 32)]
theorem lw_r2 : ∀ q ∈ lw_privs_2, lw_okq q := List.forall_mem_cons.mpr ⟨lw_p16, List.forall_mem_cons.mpr ⟨lw_p17, List.forall_mem_cons.mpr ⟨lw_p18, List.forall_mem_cons.mpr ⟨lw_p19, List.forall_mem_cons.mpr ⟨lw_p20, List.forall_mem_cons.mpr ⟨lw_p21, List.forall_mem_cons.mpr ⟨lw_p22, List.forall_mem_cons.mpr ⟨lw_p23, List.forall_mem_cons.mpr ⟨lw_p24, List.forall_mem_cons.mpr ⟨lw_p25, List.forall_mem_cons.mpr ⟨lw_p26, List.forall_mem_cons.mpr ⟨lw_p27, List.forall_mem_cons.mpr ⟨lw_p28, List.forall_mem_cons.mpr ⟨lw_p29, List.forall_mem_cons.mpr ⟨lw_p30, List.forall_mem_cons.mpr ⟨lw_p31, fun _ h => absurd h List.not_mem_nil⟩⟩⟩⟩⟩⟩⟩⟩⟩⟩⟩⟩⟩⟩⟩⟩
theorem lw_p32 : lw_okq (⟨"KeysForSecondModel", "tryNow", "(I)I"⟩, 32) := ⟨⟨by decide +kernel, by decide +kernel⟩, List.mem_of_getElem? (i := 672) (by decide +kernel), List.mem_of_getElem? (i := 913) (by decide +kernel), List.mem_of_getElem? (i := 914) (by decide +kernel)⟩
theorem lw_p33 : lw_okq (⟨"KeysForSecondModel", "tryOf", "(II)I"⟩, 32) := ⟨⟨by decide +kernel, by decide +kernel⟩, List.mem_of_getElem? (i := 672) (by decide +kernel), List.mem_of_getElem? (i := 921) (by decide +kernel), List.mem_of_getElem? (i := 922) (by decide +kernel)⟩
theorem lw_p34 : lw_okq (⟨"KeysForSecondModel", "minuteOf", "()I"⟩, 32) := ⟨⟨by decide +kernel, by decide +kernel⟩, List.mem_of_getElem? (i := 672) (by decide +kernel), List.mem_of_getElem? (i := 933) (by decide +kernel), List.mem_of_getElem? (i := 934) (by decide +kernel)⟩
theorem lw_p35 : lw_okq (⟨"KeysForSecondModel", "keeps", "()V"⟩, 32) := ⟨⟨by decide +kernel, by decide +kernel⟩, List.mem_of_getElem? (i := 672) (by decide +kernel), List.mem_of_getElem? (i := 941) (by decide +kernel), List.mem_of_getElem? (i := 942) (by decide +kernel)⟩
theorem lw_p36 : lw_okq (⟨"KeysForSecondModel", "goes", "(I)V"⟩, 32) := ⟨⟨by decide +kernel, by decide +kernel⟩, List.mem_of_getElem? (i := 672) (by decide +kernel), List.mem_of_getElem? (i := 945) (by decide +kernel), List.mem_of_getElem? (i := 946) (by decide +kernel)⟩
theorem lw_p37 : lw_okq (⟨"KeysForSecondModel", "behindAll", "()I"⟩, 32) := ⟨⟨by decide +kernel, by decide +kernel⟩, List.mem_of_getElem? (i := 672) (by decide +kernel), List.mem_of_getElem? (i := 949) (by decide +kernel), List.mem_of_getElem? (i := 950) (by decide +kernel)⟩
theorem lw_p38 : lw_okq (⟨"KeysForSecondModel", "lays", "()V"⟩, 32) := ⟨⟨by decide +kernel, by decide +kernel⟩, List.mem_of_getElem? (i := 672) (by decide +kernel), List.mem_of_getElem? (i := 953) (by decide +kernel), List.mem_of_getElem? (i := 954) (by decide +kernel)⟩
theorem lw_p39 : lw_okq (⟨"KeysForSecondModel", "isAnyAlone", "()Z"⟩, 32) := ⟨⟨by decide +kernel, by decide +kernel⟩, List.mem_of_getElem? (i := 672) (by decide +kernel), List.mem_of_getElem? (i := 961) (by decide +kernel), List.mem_of_getElem? (i := 962) (by decide +kernel)⟩
theorem lw_p40 : lw_okq (⟨"KeysForSecondModel", "toldWrong", "(II)I"⟩, 32) := ⟨⟨by decide +kernel, by decide +kernel⟩, List.mem_of_getElem? (i := 672) (by decide +kernel), List.mem_of_getElem? (i := 997) (by decide +kernel), List.mem_of_getElem? (i := 998) (by decide +kernel)⟩
theorem lw_p41 : lw_okq (⟨"KeysForSecondModel", "sheetWrong", "(I)I"⟩, 32) := ⟨⟨by decide +kernel, by decide +kernel⟩, List.mem_of_getElem? (i := 672) (by decide +kernel), List.mem_of_getElem? (i := 1001) (by decide +kernel), List.mem_of_getElem? (i := 1002) (by decide +kernel)⟩
theorem lw_p42 : lw_okq (⟨"KeysForSecondModel", "unlike", "(II)I"⟩, 32) := ⟨⟨by decide +kernel, by decide +kernel⟩, List.mem_of_getElem? (i := 672) (by decide +kernel), List.mem_of_getElem? (i := 1005) (by decide +kernel), List.mem_of_getElem? (i := 1006) (by decide +kernel)⟩
theorem lw_p43 : lw_okq (⟨"KeysForSecondModel", "lotDay", "(II)I"⟩, 32) := ⟨⟨by decide +kernel, by decide +kernel⟩, List.mem_of_getElem? (i := 672) (by decide +kernel), List.mem_of_getElem? (i := 1042) (by decide +kernel), List.mem_of_getElem? (i := 1043) (by decide +kernel)⟩
def lw_privs_3 : List (MethodName × Nat) := [(⟨"KeysForSecondModel", "tryNow", "(I)I"⟩, 32), (⟨"KeysForSecondModel", "tryOf", "(II)I"⟩, 32), (⟨"KeysForSecondModel", "minuteOf", "()I"⟩, 32), (⟨"KeysForSecondModel", "keeps", "()V"⟩, 32), (⟨"KeysForSecondModel", "goes", "(I)V"⟩, 32), (⟨"KeysForSecondModel", "behindAll", "()I"⟩, 32), (⟨"KeysForSecondModel", "lays", "()V"⟩, 32), (⟨"KeysForSecondModel", "isAnyAlone", "()Z"⟩, 32), (⟨"KeysForSecondModel", "toldWrong", "(II)I"⟩, 32), (⟨"KeysForSecondModel", "sheetWrong", "(I)I"⟩, 32), (⟨"KeysForSecondModel", "unlike", "(II)I"⟩, 32), (⟨"KeysForSecondModel", "lotDay", "(II)I"⟩, 32)]
theorem lw_r3 : ∀ q ∈ lw_privs_3, lw_okq q := List.forall_mem_cons.mpr ⟨lw_p32, List.forall_mem_cons.mpr ⟨lw_p33, List.forall_mem_cons.mpr ⟨lw_p34, List.forall_mem_cons.mpr ⟨lw_p35, List.forall_mem_cons.mpr ⟨lw_p36, List.forall_mem_cons.mpr ⟨lw_p37, List.forall_mem_cons.mpr ⟨lw_p38, List.forall_mem_cons.mpr ⟨lw_p39, List.forall_mem_cons.mpr ⟨lw_p40, List.forall_mem_cons.mpr ⟨lw_p41, List.forall_mem_cons.mpr ⟨lw_p42, List.forall_mem_cons.mpr ⟨lw_p43, fun _ h => absurd h List.not_mem_nil⟩⟩⟩⟩⟩⟩⟩⟩⟩⟩⟩⟩
def lw_privs : List (MethodName × Nat) := lw_privs_1 ++ (lw_privs_2 ++ (lw_privs_3))
def lw_tbl : List Cond := k2_sels lw_privs ++ tables_1
theorem lw_privs_ok : ∀ q ∈ lw_privs, lw_okq q := by
  show ∀ q ∈ lw_privs_1 ++ (lw_privs_2 ++ (lw_privs_3)), lw_okq q
  exact List.forall_mem_append.mpr ⟨lw_r1, List.forall_mem_append.mpr ⟨lw_r2, lw_r3⟩⟩
end
section
abbrev MD : Type := MethodName × ByteArray × Nat × Option FieldType
def q_tbl : List Cond := lw_tbl.filter goodWord
theorem q_in1 {w : Cond} (i : Nat) (h : tables_1[i]? = some w) (g : goodWord w = true) : w ∈ q_tbl := List.mem_filter.mpr ⟨List.mem_append_right _ (List.mem_of_getElem? h), g⟩
theorem q_in2 {w : Cond} (i : Nat) (h : (k2_sels lw_privs)[i]? = some w) (g : goodWord w = true) : w ∈ q_tbl := List.mem_filter.mpr ⟨List.mem_append_left _ (List.mem_of_getElem? h), g⟩
theorem q_t1_in {w : Cond} (i : Nat) (h : tables_1_1[i]? = some w) : w ∈ lw_tbl := List.mem_append_right _ (List.mem_append_left _ (List.mem_of_getElem? h))
theorem q_t1 {w : Cond} (i : Nat) (h : tables_1_1[i]? = some w) (g : goodWord w = true) : w ∈ q_tbl := List.mem_filter.mpr ⟨List.mem_append_right _ (List.mem_append_left _ (List.mem_of_getElem? h)), g⟩
theorem q_t2_in {w : Cond} (i : Nat) (h : tables_1_2[i]? = some w) : w ∈ lw_tbl := List.mem_append_right _ (List.mem_append_right _ (List.mem_append_left _ (List.mem_of_getElem? h)))
theorem q_t2 {w : Cond} (i : Nat) (h : tables_1_2[i]? = some w) (g : goodWord w = true) : w ∈ q_tbl := List.mem_filter.mpr ⟨List.mem_append_right _ (List.mem_append_right _ (List.mem_append_left _ (List.mem_of_getElem? h))), g⟩
theorem q_t3_in {w : Cond} (i : Nat) (h : tables_1_3[i]? = some w) : w ∈ lw_tbl := List.mem_append_right _ (List.mem_append_right _ (List.mem_append_right _ (List.mem_append_left _ (List.mem_of_getElem? h))))
theorem q_t3 {w : Cond} (i : Nat) (h : tables_1_3[i]? = some w) (g : goodWord w = true) : w ∈ q_tbl := List.mem_filter.mpr ⟨List.mem_append_right _ (List.mem_append_right _ (List.mem_append_right _ (List.mem_append_left _ (List.mem_of_getElem? h)))), g⟩
theorem q_t4_in {w : Cond} (i : Nat) (h : tables_1_4[i]? = some w) : w ∈ lw_tbl := List.mem_append_right _ (List.mem_append_right _ (List.mem_append_right _ (List.mem_append_right _ (List.mem_append_left _ (List.mem_of_getElem? h)))))
theorem q_t4 {w : Cond} (i : Nat) (h : tables_1_4[i]? = some w) (g : goodWord w = true) : w ∈ q_tbl := List.mem_filter.mpr ⟨List.mem_append_right _ (List.mem_append_right _ (List.mem_append_right _ (List.mem_append_right _ (List.mem_append_left _ (List.mem_of_getElem? h))))), g⟩
theorem q_t5_in {w : Cond} (i : Nat) (h : tables_1_5[i]? = some w) : w ∈ lw_tbl := List.mem_append_right _ (List.mem_append_right _ (List.mem_append_right _ (List.mem_append_right _ (List.mem_append_right _ (List.mem_of_getElem? h)))))
theorem q_t5 {w : Cond} (i : Nat) (h : tables_1_5[i]? = some w) (g : goodWord w = true) : w ∈ q_tbl := List.mem_filter.mpr ⟨List.mem_append_right _ (List.mem_append_right _ (List.mem_append_right _ (List.mem_append_right _ (List.mem_append_right _ (List.mem_of_getElem? h))))), g⟩
def RX0 : String := "KeysForSecond$Grammar"
def TX0 : u_T := fun k => match k with
  | 0 => ("KeysForSecond$Grammar", "tape", "LKeysForSecond$Tape;", true)
  | _ => ("KeysForSecond$Grammar", "fault", "I", false)
def tyX0 : Nat → FieldType := fun k => match k with
  | 0 => .object "KeysForSecond$Tape"
  | _ => .int
abbrev wsX00 : List Cond := u_ws RX0 TX0 2
theorem nmX0 : ∀ a, a < 2 → ∀ b, b < 2 → a ≠ b → (TX0 a).2.1 ≠ (TX0 b).2.1 := by decide +kernel
theorem tyX0_ok : ∀ k, k < 2 → parseFieldDescriptor (TX0 k).2.2.1 = some (tyX0 k) := by decide +kernel
abbrev cX0_init : ByteArray := prog_2_method_1_code
def yX0_init : MethodName := ⟨RX0, "<init>", "(LKeysForSecond$Tape;)V"⟩
abbrev cX0_read : ByteArray := prog_2_method_2_code
def yX0_read : MethodName := ⟨RX0, "read", "(LKeysForSecond$Text;)I"⟩
abbrev cX0_expect : ByteArray := prog_2_method_3_code
def yX0_expect : MethodName := ⟨RX0, "expect", "(I)V"⟩
abbrev cX0_refuse : ByteArray := prog_2_method_4_code
def yX0_refuse : MethodName := ⟨RX0, "refuse", "()V"⟩
abbrev cX0_side : ByteArray := prog_2_method_5_code
def yX0_side : MethodName := ⟨RX0, "side", "(LKeysForSecond$Text;II)V"⟩
abbrev cX0_one : ByteArray := prog_2_method_6_code
def yX0_one : MethodName := ⟨RX0, "one", "(LKeysForSecond$Text;I)V"⟩
abbrev cX0_rankOf : ByteArray := prog_2_method_7_code
def yX0_rankOf : MethodName := ⟨RX0, "rankOf", "(I)I"⟩
def RX1 : String := "KeysForSecond$Sheet"
def TX1 : u_T := fun k => match k with
  | 0 => ("KeysForSecond$Sheet", "cells", "[I", true)
  | 1 => ("KeysForSecond$Sheet", "sort", "I", false)
  | _ => ("KeysForSecond$Sheet", "size", "I", false)
def tyX1 : Nat → FieldType := fun k => match k with
  | 0 => .array .int
  | 1 => .int
  | _ => .int
abbrev wsX10 : List Cond := u_ws RX1 TX1 3
theorem nmX1 : ∀ a, a < 3 → ∀ b, b < 3 → a ≠ b → (TX1 a).2.1 ≠ (TX1 b).2.1 := by decide +kernel
theorem tyX1_ok : ∀ k, k < 3 → parseFieldDescriptor (TX1 k).2.2.1 = some (tyX1 k) := by decide +kernel
abbrev cX1_init : ByteArray := prog_3_method_1_code
def yX1_init : MethodName := ⟨RX1, "<init>", "()V"⟩
abbrev cX1_become : ByteArray := prog_3_method_2_code
def yX1_become : MethodName := ⟨RX1, "become", "(II)V"⟩
abbrev cX1_has : ByteArray := prog_3_method_3_code
def yX1_has : MethodName := ⟨RX1, "has", "(I)Z"⟩
abbrev cX1_hasRow : ByteArray := prog_3_method_4_code
def yX1_hasRow : MethodName := ⟨RX1, "hasRow", "(II)Z"⟩
abbrev cX1_write : ByteArray := prog_3_method_5_code
def yX1_write : MethodName := ⟨RX1, "write", "(II)V"⟩
def RX2 : String := "KeysForSecond$Tape"
def TX2 : u_T := fun k => match k with
  | 0 => ("KeysForSecond$Tape", "bytes", "[I", true)
  | 1 => ("KeysForSecond$Tape", "size", "I", false)
  | 2 => ("KeysForSecond$Tape", "next", "I", false)
  | 3 => ("KeysForSecond$Tape", "place", "I", false)
  | 4 => ("KeysForSecond$Tape", "token", "I", false)
  | _ => ("KeysForSecond$Tape", "number", "I", false)
def tyX2 : Nat → FieldType := fun k => match k with
  | 0 => .array .int
  | 1 => .int
  | 2 => .int
  | 3 => .int
  | 4 => .int
  | _ => .int
abbrev wsX20 : List Cond := u_ws RX2 TX2 6
theorem nmX2 : ∀ a, a < 6 → ∀ b, b < 6 → a ≠ b → (TX2 a).2.1 ≠ (TX2 b).2.1 := by decide +kernel
theorem tyX2_ok : ∀ k, k < 6 → parseFieldDescriptor (TX2 k).2.2.1 = some (tyX2 k) := by decide +kernel
abbrev cX2_init : ByteArray := prog_4_method_1_code
def yX2_init : MethodName := ⟨RX2, "<init>", "()V"⟩
abbrev cX2_add : ByteArray := prog_4_method_2_code
def yX2_add : MethodName := ⟨RX2, "add", "(I)V"⟩
abbrev cX2_rewind : ByteArray := prog_4_method_3_code
def yX2_rewind : MethodName := ⟨RX2, "rewind", "()V"⟩
abbrev cX2_advance : ByteArray := prog_4_method_4_code
def yX2_advance : MethodName := ⟨RX2, "advance", "()V"⟩
abbrev cX2_readWord : ByteArray := prog_4_method_5_code
def yX2_readWord : MethodName := ⟨RX2, "readWord", "()V"⟩
abbrev cX2_spells : ByteArray := prog_4_method_6_code
def yX2_spells : MethodName := ⟨RX2, "spells", "(Ljava/lang/String;)Z"⟩
abbrev cX2_readNumber : ByteArray := prog_4_method_7_code
def yX2_readNumber : MethodName := ⟨RX2, "readNumber", "()V"⟩
abbrev cX2_isLetter : ByteArray := prog_4_method_8_code
def yX2_isLetter : MethodName := ⟨RX2, "isLetter", "(I)Z"⟩
abbrev cX2_isDigit : ByteArray := prog_4_method_9_code
def yX2_isDigit : MethodName := ⟨RX2, "isDigit", "(I)Z"⟩
abbrev cX2_isSign : ByteArray := prog_4_method_10_code
def yX2_isSign : MethodName := ⟨RX2, "isSign", "(I)Z"⟩
def RX3 : String := "KeysForSecond$Text"
def TX3 : u_T := fun k => match k with
  | 0 => ("KeysForSecond$Text", "steps", "[I", true)
  | 1 => ("KeysForSecond$Text", "ends", "[I", true)
  | 2 => ("KeysForSecond$Text", "stack", "[I", true)
  | _ => ("KeysForSecond$Text", "size", "I", false)
def tyX3 : Nat → FieldType := fun k => match k with
  | 0 => .array .int
  | 1 => .array .int
  | 2 => .array .int
  | _ => .int
abbrev wsX30 : List Cond := u_ws RX3 TX3 4
theorem nmX3 : ∀ a, a < 4 → ∀ b, b < 4 → a ≠ b → (TX3 a).2.1 ≠ (TX3 b).2.1 := by decide +kernel
theorem tyX3_ok : ∀ k, k < 4 → parseFieldDescriptor (TX3 k).2.2.1 = some (tyX3 k) := by decide +kernel
abbrev cX3_init : ByteArray := prog_5_method_1_code
def yX3_init : MethodName := ⟨RX3, "<init>", "()V"⟩
abbrev cX3_becomePlain : ByteArray := prog_5_method_2_code
def yX3_becomePlain : MethodName := ⟨RX3, "becomePlain", "(III)V"⟩
abbrev cX3_add : ByteArray := prog_5_method_3_code
def yX3_add : MethodName := ⟨RX3, "add", "(I)V"⟩
abbrev cX3_endPart : ByteArray := prog_5_method_4_code
def yX3_endPart : MethodName := ⟨RX3, "endPart", "(I)V"⟩
abbrev cX3_worth : ByteArray := prog_5_method_5_code
def yX3_worth : MethodName := ⟨RX3, "worth", "(I[I)I"⟩
abbrev cX3_isName : ByteArray := prog_5_method_6_code
def yX3_isName : MethodName := ⟨RX3, "isName", "(I)Z"⟩
abbrev cX3_joined : ByteArray := prog_5_method_7_code
def yX3_joined : MethodName := ⟨RX3, "joined", "(III)I"⟩
def RX4 : String := "KeysForSecond$Town"
def TX4 : u_T := fun k => match k with
  | 0 => ("KeysForSecond$Town", "texts", "[LKeysForSecond$Text;", true)
  | 1 => ("KeysForSecond$Town", "behind", "[I", true)
  | 2 => ("KeysForSecond$Town", "first", "[I", true)
  | 3 => ("KeysForSecond$Town", "second", "[I", true)
  | 4 => ("KeysForSecond$Town", "at", "[I", true)
  | 5 => ("KeysForSecond$Town", "eggs", "[I", true)
  | 6 => ("KeysForSecond$Town", "came", "[I", true)
  | 7 => ("KeysForSecond$Town", "kind", "[I", true)
  | 8 => ("KeysForSecond$Town", "more", "[I", true)
  | 9 => ("KeysForSecond$Town", "names", "[I", true)
  | 10 => ("KeysForSecond$Town", "people", "I", false)
  | 11 => ("KeysForSecond$Town", "clock", "I", false)
  | _ => ("KeysForSecond$Town", "law", "I", false)
def tyX4 : Nat → FieldType := fun k => match k with
  | 0 => .array (.object "KeysForSecond$Text")
  | 1 => .array .int
  | 2 => .array .int
  | 3 => .array .int
  | 4 => .array .int
  | 5 => .array .int
  | 6 => .array .int
  | 7 => .array .int
  | 8 => .array .int
  | 9 => .array .int
  | 10 => .int
  | 11 => .int
  | _ => .int
abbrev wsX40 : List Cond := u_ws RX4 TX4 13
theorem nmX4 : ∀ a, a < 13 → ∀ b, b < 13 → a ≠ b → (TX4 a).2.1 ≠ (TX4 b).2.1 := by decide +kernel
theorem tyX4_ok : ∀ k, k < 13 → parseFieldDescriptor (TX4 k).2.2.1 = some (tyX4 k) := by decide +kernel
abbrev cX4_init : ByteArray := prog_6_method_1_code
def yX4_init : MethodName := ⟨RX4, "<init>", "([LKeysForSecond$Text;)V"⟩
abbrev cX4_become : ByteArray := prog_6_method_2_code
def yX4_become : MethodName := ⟨RX4, "become", "(LKeysForSecond$Town;)V"⟩
abbrev cX4_setClock : ByteArray := prog_6_method_3_code
def yX4_setClock : MethodName := ⟨RX4, "setClock", "(I)I"⟩
abbrev cX4_welcome : ByteArray := prog_6_method_4_code
def yX4_welcome : MethodName := ⟨RX4, "welcome", "(II)I"⟩
abbrev cX4_says : ByteArray := prog_6_method_5_code
def yX4_says : MethodName := ⟨RX4, "says", "(II)I"⟩
abbrev cX4_wouldTry : ByteArray := prog_6_method_6_code
def yX4_wouldTry : MethodName := ⟨RX4, "wouldTry", "(I)Z"⟩
abbrev cX4_wouldPay : ByteArray := prog_6_method_7_code
def yX4_wouldPay : MethodName := ⟨RX4, "wouldPay", "(I)I"⟩
abbrev cX4_wouldGo : ByteArray := prog_6_method_8_code
def yX4_wouldGo : MethodName := ⟨RX4, "wouldGo", "(I)I"⟩
abbrev cX4_outcome : ByteArray := prog_6_method_9_code
def yX4_outcome : MethodName := ⟨RX4, "outcome", "(II)I"⟩
abbrev cX4_attempt : ByteArray := prog_6_method_10_code
def yX4_attempt : MethodName := ⟨RX4, "attempt", "(II)I"⟩
abbrev cX4_pass : ByteArray := prog_6_method_11_code
def yX4_pass : MethodName := ⟨RX4, "pass", "()I"⟩
abbrev cX4_isSo : ByteArray := prog_6_method_12_code
def yX4_isSo : MethodName := ⟨RX4, "isSo", "(I)Z"⟩
abbrev cX4_anyoneAlone : ByteArray := prog_6_method_13_code
def yX4_anyoneAlone : MethodName := ⟨RX4, "anyoneAlone", "()Z"⟩
abbrev cX4_peopleAt : ByteArray := prog_6_method_14_code
def yX4_peopleAt : MethodName := ⟨RX4, "peopleAt", "(I)I"⟩
abbrev cX4_doorsWithFirst : ByteArray := prog_6_method_15_code
def yX4_doorsWithFirst : MethodName := ⟨RX4, "doorsWithFirst", "()I"⟩
abbrev cX4_doorsWithSecond : ByteArray := prog_6_method_16_code
def yX4_doorsWithSecond : MethodName := ⟨RX4, "doorsWithSecond", "()I"⟩
abbrev cX4_bitsOfTaken : ByteArray := prog_6_method_17_code
def yX4_bitsOfTaken : MethodName := ⟨RX4, "bitsOfTaken", "([I)I"⟩
abbrev cX4_allBehind : ByteArray := prog_6_method_18_code
def yX4_allBehind : MethodName := ⟨RX4, "allBehind", "()I"⟩
abbrev cX4_allEggs : ByteArray := prog_6_method_19_code
def yX4_allEggs : MethodName := ⟨RX4, "allEggs", "()I"⟩
def RX5 : String := "KeysForSecond"
def TX5 : u_T := fun k => match k with
  | 0 => ("KeysForSecond", "texts", "[LKeysForSecond$Text;", true)
  | 1 => ("KeysForSecond", "sheets", "[LKeysForSecond$Sheet;", true)
  | 2 => ("KeysForSecond", "tape", "LKeysForSecond$Tape;", true)
  | 3 => ("KeysForSecond", "grammar", "LKeysForSecond$Grammar;", true)
  | 4 => ("KeysForSecond", "now", "LKeysForSecond$Town;", true)
  | 5 => ("KeysForSecond", "thought", "LKeysForSecond$Town;", true)
  | 6 => ("KeysForSecond", "kept", "LKeysForSecond$Town;", true)
  | 7 => ("KeysForSecond", "textsThere", "I", false)
  | _ => ("KeysForSecond", "imageThere", "Z", false)
def tyX5 : Nat → FieldType := fun k => match k with
  | 0 => .array (.object "KeysForSecond$Text")
  | 1 => .array (.object "KeysForSecond$Sheet")
  | 2 => .object "KeysForSecond$Tape"
  | 3 => .object "KeysForSecond$Grammar"
  | 4 => .object "KeysForSecond$Town"
  | 5 => .object "KeysForSecond$Town"
  | 6 => .object "KeysForSecond$Town"
  | 7 => .int
  | _ => .boolean
abbrev wsX50 : List Cond := u_ws RX5 TX5 9
theorem nmX5 : ∀ a, a < 9 → ∀ b, b < 9 → a ≠ b → (TX5 a).2.1 ≠ (TX5 b).2.1 := by decide +kernel
theorem tyX5_ok : ∀ k, k < 9 → parseFieldDescriptor (TX5 k).2.2.1 = some (tyX5 k) := by decide +kernel
abbrev cX5_init : ByteArray := prog_1_method_1_code
def yX5_init : MethodName := ⟨RX5, "<init>", "()V"⟩
abbrev cX5_count : ByteArray := prog_1_method_2_code
def yX5_count : MethodName := ⟨RX5, "count", "(I)I"⟩
abbrev cX5_town : ByteArray := prog_1_method_3_code
def yX5_town : MethodName := ⟨RX5, "town", "(III)I"⟩
abbrev cX5_door : ByteArray := prog_1_method_4_code
def yX5_door : MethodName := ⟨RX5, "door", "(II)I"⟩
abbrev cX5_feed : ByteArray := prog_1_method_5_code
def yX5_feed : MethodName := ⟨RX5, "feed", "(IIIIII)I"⟩
abbrev cX5_text : ByteArray := prog_1_method_6_code
def yX5_text : MethodName := ⟨RX5, "text", "()I"⟩
abbrev cX5_force : ByteArray := prog_1_method_7_code
def yX5_force : MethodName := ⟨RX5, "force", "(I)I"⟩
abbrev cX5_asks : ByteArray := prog_1_method_8_code
def yX5_asks : MethodName := ⟨RX5, "asks", "(II)I"⟩
abbrev cX5_citizen : ByteArray := prog_1_method_9_code
def yX5_citizen : MethodName := ⟨RX5, "citizen", "(II)I"⟩
abbrev cX5_put : ByteArray := prog_1_method_10_code
def yX5_put : MethodName := ⟨RX5, "put", "(III)I"⟩
abbrev cX5_told : ByteArray := prog_1_method_11_code
def yX5_told : MethodName := ⟨RX5, "told", "(II)I"⟩
abbrev cX5_twist : ByteArray := prog_1_method_12_code
def yX5_twist : MethodName := ⟨RX5, "twist", "(I)I"⟩
abbrev cX5_give : ByteArray := prog_1_method_13_code
def yX5_give : MethodName := ⟨RX5, "give", "(III)I"⟩
abbrev cX5_minute : ByteArray := prog_1_method_14_code
def yX5_minute : MethodName := ⟨RX5, "minute", "()I"⟩
abbrev cX5_run : ByteArray := prog_1_method_15_code
def yX5_run : MethodName := ⟨RX5, "run", "(II)I"⟩
abbrev cX5_when : ByteArray := prog_1_method_16_code
def yX5_when : MethodName := ⟨RX5, "when", "(I)I"⟩
abbrev cX5_waits : ByteArray := prog_1_method_17_code
def yX5_waits : MethodName := ⟨RX5, "waits", "(I)I"⟩
abbrev cX5_pair : ByteArray := prog_1_method_18_code
def yX5_pair : MethodName := ⟨RX5, "pair", "(I)I"⟩
abbrev cX5_eggsOfSecond : ByteArray := prog_1_method_19_code
def yX5_eggsOfSecond : MethodName := ⟨RX5, "eggsOfSecond", "(III)I"⟩
abbrev cX5_stand : ByteArray := prog_1_method_20_code
def yX5_stand : MethodName := ⟨RX5, "stand", "(III)I"⟩
abbrev cX5_rounds : ByteArray := prog_1_method_21_code
def yX5_rounds : MethodName := ⟨RX5, "rounds", "(II)I"⟩
abbrev cX5_tries : ByteArray := prog_1_method_22_code
def yX5_tries : MethodName := ⟨RX5, "tries", "(I)I"⟩
abbrev cX5_share : ByteArray := prog_1_method_23_code
def yX5_share : MethodName := ⟨RX5, "share", "(II)J"⟩
abbrev cX5_judge : ByteArray := prog_1_method_24_code
def yX5_judge : MethodName := ⟨RX5, "judge", "(II)I"⟩
abbrev cX5_kinds : ByteArray := prog_1_method_25_code
def yX5_kinds : MethodName := ⟨RX5, "kinds", "(III)I"⟩
abbrev cX5_doors : ByteArray := prog_1_method_26_code
def yX5_doors : MethodName := ⟨RX5, "doors", "(II)I"⟩
abbrev cX5_baskets : ByteArray := prog_1_method_27_code
def yX5_baskets : MethodName := ⟨RX5, "baskets", "(III)I"⟩
abbrev cX5_firsts : ByteArray := prog_1_method_28_code
def yX5_firsts : MethodName := ⟨RX5, "firsts", "(III)I"⟩
abbrev cX5_whose : ByteArray := prog_1_method_29_code
def yX5_whose : MethodName := ⟨RX5, "whose", "(I)I"⟩
abbrev cX5_laws : ByteArray := prog_1_method_30_code
def yX5_laws : MethodName := ⟨RX5, "laws", "(II)I"⟩
abbrev cX5_film : ByteArray := prog_1_method_31_code
def yX5_film : MethodName := ⟨RX5, "film", "(III)I"⟩
abbrev cX5_refusalOfSheet : ByteArray := prog_1_method_32_code
def yX5_refusalOfSheet : MethodName := ⟨RX5, "refusalOfSheet", "(I)I"⟩
abbrev cX5_refusalOfTold : ByteArray := prog_1_method_33_code
def yX5_refusalOfTold : MethodName := ⟨RX5, "refusalOfTold", "(II)I"⟩
abbrev cX5_otherwise : ByteArray := prog_1_method_34_code
def yX5_otherwise : MethodName := ⟨RX5, "otherwise", "(LKeysForSecond$Sheet;I)I"⟩
abbrev cX5_drawn : ByteArray := prog_1_method_35_code
def yX5_drawn : MethodName := ⟨RX5, "drawn", "(III)I"⟩
abbrev cX5_odds : ByteArray := prog_1_method_36_code
def yX5_odds : MethodName := ⟨RX5, "odds", "(IIII)J"⟩
abbrev cX5_image : ByteArray := prog_1_method_37_code
def yX5_image : MethodName := ⟨RX5, "image", "()I"⟩
abbrev cX5_back : ByteArray := prog_1_method_38_code
def yX5_back : MethodName := ⟨RX5, "back", "()I"⟩
abbrev cX5_thinkByLots : ByteArray := prog_1_method_39_code
def yX5_thinkByLots : MethodName := ⟨RX5, "thinkByLots", "(II)I"⟩
abbrev cX5_nextLot : ByteArray := prog_1_method_40_code
def yX5_nextLot : MethodName := ⟨RX5, "nextLot", "(J)J"⟩
abbrev cX5_sheet : ByteArray := prog_1_method_41_code
def yX5_sheet : MethodName := ⟨RX5, "sheet", "(III)I"⟩
abbrev cX5_cell : ByteArray := prog_1_method_42_code
def yX5_cell : MethodName := ⟨RX5, "cell", "(III)I"⟩
abbrev cX5_copy : ByteArray := prog_1_method_43_code
def yX5_copy : MethodName := ⟨RX5, "copy", "(IIIII)I"⟩
abbrev cX5_peopleBy : ByteArray := prog_1_method_44_code
def yX5_peopleBy : MethodName := ⟨RX5, "peopleBy", "(IIII)I"⟩
abbrev cX5_taken : ByteArray := prog_1_method_45_code
def yX5_taken : MethodName := ⟨RX5, "taken", "(II)I"⟩
abbrev cX5_isOneOf : ByteArray := prog_1_method_46_code
def yX5_isOneOf : MethodName := ⟨RX5, "isOneOf", "(II)Z"⟩
abbrev cX5_passThought : ByteArray := prog_1_method_47_code
def yX5_passThought : MethodName := ⟨RX5, "passThought", "(I)V"⟩
abbrev cX5_isPerson : ByteArray := prog_1_method_48_code
def yX5_isPerson : MethodName := ⟨RX5, "isPerson", "(I)Z"⟩
abbrev cX5_isDoor : ByteArray := prog_1_method_49_code
def yX5_isDoor : MethodName := ⟨RX5, "isDoor", "(I)Z"⟩
abbrev cX5_isSheet : ByteArray := prog_1_method_50_code
def yX5_isSheet : MethodName := ⟨RX5, "isSheet", "(I)Z"⟩
abbrev cX5_isByte : ByteArray := prog_1_method_51_code
def yX5_isByte : MethodName := ⟨RX5, "isByte", "(I)Z"⟩
abbrev cX5_within : ByteArray := prog_1_method_52_code
def yX5_within : MethodName := ⟨RX5, "within", "(III)Z"⟩
abbrev cX5_hasBit : ByteArray := prog_1_method_53_code
def yX5_hasBit : MethodName := ⟨RX5, "hasBit", "(II)Z"⟩
abbrev cX5_swapped : ByteArray := prog_1_method_54_code
def yX5_swapped : MethodName := ⟨RX5, "swapped", "([III)I"⟩
abbrev cX5_lowest : ByteArray := prog_1_method_55_code
def yX5_lowest : MethodName := ⟨RX5, "lowest", "(III)J"⟩
def RX6 : String := "KeysForSecondModel"
def TX6 : u_T := fun k => match k with
  | 0 => ("KeysForSecondModel", "people", "I", false)
  | 1 => ("KeysForSecondModel", "kind", "[I", true)
  | 2 => ("KeysForSecondModel", "moreOf", "[I", true)
  | 3 => ("KeysForSecondModel", "rows", "[I", true)
  | 4 => ("KeysForSecondModel", "doors", "[I", true)
  | 5 => ("KeysForSecondModel", "minutes", "I", false)
  | 6 => ("KeysForSecondModel", "tape", "[I", true)
  | 7 => ("KeysForSecondModel", "taped", "I", false)
  | 8 => ("KeysForSecondModel", "codes", "[I", true)
  | 9 => ("KeysForSecondModel", "starts", "[I", true)
  | 10 => ("KeysForSecondModel", "texts", "I", false)
  | 11 => ("KeysForSecondModel", "rule", "I", false)
  | 12 => ("KeysForSecondModel", "hasImage", "Z", false)
  | 13 => ("KeysForSecondModel", "imageRows", "[I", true)
  | 14 => ("KeysForSecondModel", "imageHeld", "[I", true)
  | 15 => ("KeysForSecondModel", "sheetSort", "[I", true)
  | 16 => ("KeysForSecondModel", "sheetSize", "[I", true)
  | 17 => ("KeysForSecondModel", "cells", "[I", true)
  | 18 => ("KeysForSecondModel", "law", "[I", true)
  | 19 => ("KeysForSecondModel", "at", "I", false)
  | 20 => ("KeysForSecondModel", "begun", "I", false)
  | 21 => ("KeysForSecondModel", "token", "I", false)
  | 22 => ("KeysForSecondModel", "value", "I", false)
  | 23 => ("KeysForSecondModel", "words", "[I", true)
  | 24 => ("KeysForSecondModel", "held", "[I", true)
  | 25 => ("KeysForSecondModel", "heldMany", "I", false)
  | 26 => ("KeysForSecondModel", "opens", "I", false)
  | 27 => ("KeysForSecondModel", "out", "I", false)
  | 28 => ("KeysForSecondModel", "stack", "[I", true)
  | 29 => ("KeysForSecondModel", "named", "[I", true)
  | 30 => ("KeysForSecondModel", "kept", "[I", true)
  | _ => ("KeysForSecondModel", "cameThen", "I", false)
def tyX6 : Nat → FieldType := fun k => match k with
  | 0 => .int
  | 1 => .array .int
  | 2 => .array .int
  | 3 => .array .int
  | 4 => .array .int
  | 5 => .int
  | 6 => .array .int
  | 7 => .int
  | 8 => .array .int
  | 9 => .array .int
  | 10 => .int
  | 11 => .int
  | 12 => .boolean
  | 13 => .array .int
  | 14 => .array .int
  | 15 => .array .int
  | 16 => .array .int
  | 17 => .array .int
  | 18 => .array .int
  | 19 => .int
  | 20 => .int
  | 21 => .int
  | 22 => .int
  | 23 => .array .int
  | 24 => .array .int
  | 25 => .int
  | 26 => .int
  | 27 => .int
  | 28 => .array .int
  | 29 => .array .int
  | 30 => .array .int
  | _ => .int
abbrev wsX60 : List Cond := u_ws RX6 TX6 32
theorem nmX6 : ∀ a, a < 32 → ∀ b, b < 32 → a ≠ b → (TX6 a).2.1 ≠ (TX6 b).2.1 := by decide +kernel
theorem tyX6_ok : ∀ k, k < 32 → parseFieldDescriptor (TX6 k).2.2.1 = some (tyX6 k) := by decide +kernel
abbrev cX6_init : ByteArray := prog_8_method_1_code
def yX6_init : MethodName := ⟨RX6, "<init>", "()V"⟩
abbrev cX6_in : ByteArray := prog_8_method_3_code
def yX6_in : MethodName := ⟨RX6, "in", "(III)Z"⟩
abbrev cX6_within : ByteArray := prog_8_method_4_code
def yX6_within : MethodName := ⟨RX6, "within", "(III)I"⟩
abbrev cX6_isOne : ByteArray := prog_8_method_5_code
def yX6_isOne : MethodName := ⟨RX6, "isOne", "(I)Z"⟩
abbrev cX6_isDoor : ByteArray := prog_8_method_6_code
def yX6_isDoor : MethodName := ⟨RX6, "isDoor", "(I)Z"⟩
abbrev cX6_having : ByteArray := prog_8_method_7_code
def yX6_having : MethodName := ⟨RX6, "having", "(I)I"⟩
abbrev cX6_onesOf : ByteArray := prog_8_method_8_code
def yX6_onesOf : MethodName := ⟨RX6, "onesOf", "(I)I"⟩
abbrev cX6_count : ByteArray := prog_8_method_9_code
def yX6_count : MethodName := ⟨RX6, "count", "(I)I"⟩
abbrev cX6_town : ByteArray := prog_8_method_10_code
def yX6_town : MethodName := ⟨RX6, "town", "(III)I"⟩
abbrev cX6_whoAt : ByteArray := prog_8_method_11_code
def yX6_whoAt : MethodName := ⟨RX6, "whoAt", "(I)I"⟩
abbrev cX6_door : ByteArray := prog_8_method_12_code
def yX6_door : MethodName := ⟨RX6, "door", "(II)I"⟩
abbrev cX6_isByte : ByteArray := prog_8_method_13_code
def yX6_isByte : MethodName := ⟨RX6, "isByte", "(I)Z"⟩
abbrev cX6_feed : ByteArray := prog_8_method_14_code
def yX6_feed : MethodName := ⟨RX6, "feed", "(IIIIII)I"⟩
abbrev cX6_wordFrom : ByteArray := prog_8_method_15_code
def yX6_wordFrom : MethodName := ⟨RX6, "wordFrom", "(II)I"⟩
abbrev cX6_next : ByteArray := prog_8_method_16_code
def yX6_next : MethodName := ⟨RX6, "next", "()V"⟩
abbrev cX6_rank : ByteArray := prog_8_method_17_code
def yX6_rank : MethodName := ⟨RX6, "rank", "(I)I"⟩
abbrev cX6_puts : ByteArray := prog_8_method_18_code
def yX6_puts : MethodName := ⟨RX6, "puts", "(I)V"⟩
abbrev cX6_unwinds : ByteArray := prog_8_method_19_code
def yX6_unwinds : MethodName := ⟨RX6, "unwinds", "(I)V"⟩
abbrev cX6_holds : ByteArray := prog_8_method_20_code
def yX6_holds : MethodName := ⟨RX6, "holds", "(I)V"⟩
abbrev cX6_opensOne : ByteArray := prog_8_method_21_code
def yX6_opensOne : MethodName := ⟨RX6, "opensOne", "(I)Z"⟩
abbrev cX6_between : ByteArray := prog_8_method_22_code
def yX6_between : MethodName := ⟨RX6, "between", "(I)Z"⟩
abbrev cX6_signOf : ByteArray := prog_8_method_23_code
def yX6_signOf : MethodName := ⟨RX6, "signOf", "()I"⟩
abbrev cX6_eRead : ByteArray := prog_8_method_24_code
def yX6_eRead : MethodName := ⟨RX6, "eRead", "()Z"⟩
abbrev cX6_text : ByteArray := prog_8_method_25_code
def yX6_text : MethodName := ⟨RX6, "text", "()I"⟩
abbrev cX6_two : ByteArray := prog_8_method_26_code
def yX6_two : MethodName := ⟨RX6, "two", "(III)I"⟩
abbrev cX6_says : ByteArray := prog_8_method_27_code
def yX6_says : MethodName := ⟨RX6, "says", "(I)I"⟩
abbrev cX6_force : ByteArray := prog_8_method_28_code
def yX6_force : MethodName := ⟨RX6, "force", "(I)I"⟩
abbrev cX6_hasFirst : ByteArray := prog_8_method_29_code
def yX6_hasFirst : MethodName := ⟨RX6, "hasFirst", "(I)Z"⟩
abbrev cX6_asksOf : ByteArray := prog_8_method_30_code
def yX6_asksOf : MethodName := ⟨RX6, "asksOf", "(II)I"⟩
abbrev cX6_asks : ByteArray := prog_8_method_31_code
def yX6_asks : MethodName := ⟨RX6, "asks", "(II)I"⟩
abbrev cX6_citizen : ByteArray := prog_8_method_32_code
def yX6_citizen : MethodName := ⟨RX6, "citizen", "(II)I"⟩
abbrev cX6_put : ByteArray := prog_8_method_33_code
def yX6_put : MethodName := ⟨RX6, "put", "(III)I"⟩
abbrev cX6_doesTry : ByteArray := prog_8_method_34_code
def yX6_doesTry : MethodName := ⟨RX6, "doesTry", "(I)Z"⟩
abbrev cX6_paysOf : ByteArray := prog_8_method_35_code
def yX6_paysOf : MethodName := ⟨RX6, "paysOf", "(I)I"⟩
abbrev cX6_goesOf : ByteArray := prog_8_method_36_code
def yX6_goesOf : MethodName := ⟨RX6, "goesOf", "(I)I"⟩
abbrev cX6_signOf_ : ByteArray := prog_8_method_37_code
def yX6_signOf_ : MethodName := ⟨RX6, "signOf", "(I)I"⟩
abbrev cX6_tryNow : ByteArray := prog_8_method_38_code
def yX6_tryNow : MethodName := ⟨RX6, "tryNow", "(I)I"⟩
abbrev cX6_told : ByteArray := prog_8_method_39_code
def yX6_told : MethodName := ⟨RX6, "told", "(II)I"⟩
abbrev cX6_tryOf : ByteArray := prog_8_method_40_code
def yX6_tryOf : MethodName := ⟨RX6, "tryOf", "(II)I"⟩
abbrev cX6_twist : ByteArray := prog_8_method_41_code
def yX6_twist : MethodName := ⟨RX6, "twist", "(I)I"⟩
abbrev cX6_give : ByteArray := prog_8_method_42_code
def yX6_give : MethodName := ⟨RX6, "give", "(III)I"⟩
abbrev cX6_minuteOf : ByteArray := prog_8_method_43_code
def yX6_minuteOf : MethodName := ⟨RX6, "minuteOf", "()I"⟩
abbrev cX6_minute : ByteArray := prog_8_method_44_code
def yX6_minute : MethodName := ⟨RX6, "minute", "()I"⟩
abbrev cX6_behindAll : ByteArray := prog_8_method_45_code
def yX6_behindAll : MethodName := ⟨RX6, "behindAll", "()I"⟩
abbrev cX6_keeps : ByteArray := prog_8_method_46_code
def yX6_keeps : MethodName := ⟨RX6, "keeps", "()V"⟩
abbrev cX6_lays : ByteArray := prog_8_method_47_code
def yX6_lays : MethodName := ⟨RX6, "lays", "()V"⟩
abbrev cX6_goes : ByteArray := prog_8_method_48_code
def yX6_goes : MethodName := ⟨RX6, "goes", "(I)V"⟩
abbrev cX6_run : ByteArray := prog_8_method_49_code
def yX6_run : MethodName := ⟨RX6, "run", "(II)I"⟩
abbrev cX6_isAnyAlone : ByteArray := prog_8_method_50_code
def yX6_isAnyAlone : MethodName := ⟨RX6, "isAnyAlone", "()Z"⟩
abbrev cX6_when : ByteArray := prog_8_method_51_code
def yX6_when : MethodName := ⟨RX6, "when", "(I)I"⟩
abbrev cX6_waits : ByteArray := prog_8_method_52_code
def yX6_waits : MethodName := ⟨RX6, "waits", "(I)I"⟩
abbrev cX6_pair : ByteArray := prog_8_method_53_code
def yX6_pair : MethodName := ⟨RX6, "pair", "(I)I"⟩
abbrev cX6_stand : ByteArray := prog_8_method_54_code
def yX6_stand : MethodName := ⟨RX6, "stand", "(III)I"⟩
abbrev cX6_rounds : ByteArray := prog_8_method_55_code
def yX6_rounds : MethodName := ⟨RX6, "rounds", "(II)I"⟩
abbrev cX6_tries : ByteArray := prog_8_method_56_code
def yX6_tries : MethodName := ⟨RX6, "tries", "(I)I"⟩
abbrev cX6_lowest : ByteArray := prog_8_method_57_code
def yX6_lowest : MethodName := ⟨RX6, "lowest", "(JJI)J"⟩
abbrev cX6_share : ByteArray := prog_8_method_58_code
def yX6_share : MethodName := ⟨RX6, "share", "(II)J"⟩
abbrev cX6_sheetWrong : ByteArray := prog_8_method_59_code
def yX6_sheetWrong : MethodName := ⟨RX6, "sheetWrong", "(I)I"⟩
abbrev cX6_toldWrong : ByteArray := prog_8_method_60_code
def yX6_toldWrong : MethodName := ⟨RX6, "toldWrong", "(II)I"⟩
abbrev cX6_unlike : ByteArray := prog_8_method_61_code
def yX6_unlike : MethodName := ⟨RX6, "unlike", "(II)I"⟩
abbrev cX6_judge : ByteArray := prog_8_method_62_code
def yX6_judge : MethodName := ⟨RX6, "judge", "(II)I"⟩
abbrev cX6_kinds : ByteArray := prog_8_method_63_code
def yX6_kinds : MethodName := ⟨RX6, "kinds", "(III)I"⟩
abbrev cX6_doors : ByteArray := prog_8_method_64_code
def yX6_doors : MethodName := ⟨RX6, "doors", "(II)I"⟩
abbrev cX6_baskets : ByteArray := prog_8_method_65_code
def yX6_baskets : MethodName := ⟨RX6, "baskets", "(III)I"⟩
abbrev cX6_firsts : ByteArray := prog_8_method_66_code
def yX6_firsts : MethodName := ⟨RX6, "firsts", "(III)I"⟩
abbrev cX6_whose : ByteArray := prog_8_method_67_code
def yX6_whose : MethodName := ⟨RX6, "whose", "(I)I"⟩
abbrev cX6_laws : ByteArray := prog_8_method_68_code
def yX6_laws : MethodName := ⟨RX6, "laws", "(II)I"⟩
abbrev cX6_film : ByteArray := prog_8_method_69_code
def yX6_film : MethodName := ⟨RX6, "film", "(III)I"⟩
abbrev cX6_lotDay : ByteArray := prog_8_method_70_code
def yX6_lotDay : MethodName := ⟨RX6, "lotDay", "(II)I"⟩
abbrev cX6_drawn : ByteArray := prog_8_method_71_code
def yX6_drawn : MethodName := ⟨RX6, "drawn", "(III)I"⟩
abbrev cX6_odds : ByteArray := prog_8_method_72_code
def yX6_odds : MethodName := ⟨RX6, "odds", "(IIII)J"⟩
abbrev cX6_image : ByteArray := prog_8_method_73_code
def yX6_image : MethodName := ⟨RX6, "image", "()I"⟩
abbrev cX6_back : ByteArray := prog_8_method_74_code
def yX6_back : MethodName := ⟨RX6, "back", "()I"⟩
abbrev cX6_sheet : ByteArray := prog_8_method_75_code
def yX6_sheet : MethodName := ⟨RX6, "sheet", "(III)I"⟩
abbrev cX6_cell : ByteArray := prog_8_method_76_code
def yX6_cell : MethodName := ⟨RX6, "cell", "(III)I"⟩
abbrev cX6_copy : ByteArray := prog_8_method_77_code
def yX6_copy : MethodName := ⟨RX6, "copy", "(IIIII)I"⟩
abbrev cX6_peopleBy : ByteArray := prog_8_method_78_code
def yX6_peopleBy : MethodName := ⟨RX6, "peopleBy", "(IIII)I"⟩
abbrev cX6_isUnder : ByteArray := prog_8_method_79_code
def yX6_isUnder : MethodName := ⟨RX6, "isUnder", "(II)Z"⟩
abbrev cX6_taken : ByteArray := prog_8_method_80_code
def yX6_taken : MethodName := ⟨RX6, "taken", "(II)I"⟩
def RJx145de : String := "java/io/Serializable"
def RJx9f9b0 : String := "java/lang/CharSequence"
def RJxb160c : String := "java/lang/Comparable"
def RJ6 : String := "java/lang/Integer"
abbrev cJ6_bitCount_0f7a4 : ByteArray := prog_9_method_49_code
def yJ6_bitCount_0f7a4 : MethodName := ⟨RJ6, "bitCount", "(I)I"⟩
def RJ9 : String := "java/lang/Math"
abbrev cJ9_floorMod_7cf53 : ByteArray := prog_10_method_50_code
def yJ9_floorMod_7cf53 : MethodName := ⟨RJ9, "floorMod", "(II)I"⟩
abbrev cJ9_max_7cf53 : ByteArray := prog_10_method_65_code
def yJ9_max_7cf53 : MethodName := ⟨RJ9, "max", "(II)I"⟩
abbrev cJ9_min_7cf53 : ByteArray := prog_10_method_69_code
def yJ9_min_7cf53 : MethodName := ⟨RJ9, "min", "(II)I"⟩
def RJ0 : String := "java/lang/String"
abbrev cJ0_length_8abf5 : ByteArray := prog_11_method_54_code
def yJ0_length_8abf5 : MethodName := ⟨RJ0, "length", "()I"⟩
abbrev cJ0_charAt_5068e : ByteArray := prog_11_method_56_code
def yJ0_charAt_5068e : MethodName := ⟨RJ0, "charAt", "(I)C"⟩
abbrev cJ0_coder_7d493 : ByteArray := prog_11_method_152_code
def yJ0_coder_7d493 : MethodName := ⟨RJ0, "coder", "()B"⟩
abbrev cJ0_isLatin1_aae02 : ByteArray := prog_11_method_154_code
def yJ0_isLatin1_aae02 : MethodName := ⟨RJ0, "isLatin1", "()Z"⟩
abbrev cJ0_checkIndex_df160 : ByteArray := prog_11_method_155_code
def yJ0_checkIndex_df160 : MethodName := ⟨RJ0, "checkIndex", "(II)V"⟩
def RJ1 : String := "java/lang/StringLatin1"
abbrev cJ1_charAt_3b067 : ByteArray := prog_12_method_2_code
def yJ1_charAt_3b067 : MethodName := ⟨RJ1, "charAt", "([BI)C"⟩
def RJ2 : String := "java/lang/StringUTF16"
abbrev cJ2_getChar_3b067 : ByteArray := prog_13_method_5_code
def yJ2_getChar_3b067 : MethodName := ⟨RJ2, "getChar", "([BI)C"⟩
abbrev cJ2_length_9d52b : ByteArray := prog_13_method_6_code
def yJ2_length_9d52b : MethodName := ⟨RJ2, "length", "([B)I"⟩
abbrev cJ2_charAt_3b067 : ByteArray := prog_13_method_83_code
def yJ2_charAt_3b067 : MethodName := ⟨RJ2, "charAt", "([BI)C"⟩
abbrev cJ2_checkIndex_2214a : ByteArray := prog_13_method_91_code
def yJ2_checkIndex_2214a : MethodName := ⟨RJ2, "checkIndex", "(I[B)V"⟩
def RJ10 : String := "java/lang/System"
def RJxfd54e : String := "java/lang/constant/Constable"
def RJx3cf43 : String := "java/lang/constant/ConstantDesc"
def RJ7 : String := "java/util/Arrays"
abbrev cJ7_fill_53178 : ByteArray := prog_15_method_103_code
def yJ7_fill_53178 : MethodName := ⟨RJ7, "fill", "([II)V"⟩
def RJ3 : String := "jdk/internal/util/Preconditions"
abbrev cJ3_checkIndex_8e157 : ByteArray := prog_16_method_11_code
def yJ3_checkIndex_8e157 : MethodName := ⟨RJ3, "checkIndex", "(IILjava/util/function/BiFunction;)I"⟩
def RL : String := "KeysForSecondLaw"
abbrev cL_law : ByteArray := code
def yL_law : MethodName := ⟨RL, "law", "([I)Z"⟩
abbrev vwCl : List vw_C := [(RX0, TX0, 2), (RX1, TX1, 3), (RX2, TX2, 6), (RX3, TX3, 4), (RX4, TX4, 13), (RX5, TX5, 9), (RX6, TX6, 32)]
def kX0_init : MD := (yX0_init, cX0_init, 2, none)
def kX0_read : MD := (yX0_read, cX0_read, 3, some .int)
def kX0_expect : MD := (yX0_expect, cX0_expect, 2, none)
def kX0_refuse : MD := (yX0_refuse, cX0_refuse, 1, none)
def kX0_side : MD := (yX0_side, cX0_side, 7, none)
def kX0_one : MD := (yX0_one, cX0_one, 6, none)
def kX0_rankOf : MD := (yX0_rankOf, cX0_rankOf, 1, some .int)
def kX1_init : MD := (yX1_init, cX1_init, 1, none)
def kX1_become : MD := (yX1_become, cX1_become, 3, none)
def kX1_has : MD := (yX1_has, cX1_has, 2, some .boolean)
def kX1_hasRow : MD := (yX1_hasRow, cX1_hasRow, 3, some .boolean)
def kX1_write : MD := (yX1_write, cX1_write, 3, none)
def kX2_init : MD := (yX2_init, cX2_init, 1, none)
def kX2_add : MD := (yX2_add, cX2_add, 2, none)
def kX2_rewind : MD := (yX2_rewind, cX2_rewind, 1, none)
def kX2_advance : MD := (yX2_advance, cX2_advance, 1, none)
def kX2_readWord : MD := (yX2_readWord, cX2_readWord, 1, none)
def kX2_spells : MD := (yX2_spells, cX2_spells, 3, some .boolean)
def kX2_readNumber : MD := (yX2_readNumber, cX2_readNumber, 1, none)
def kX2_isLetter : MD := (yX2_isLetter, cX2_isLetter, 1, some .boolean)
def kX2_isDigit : MD := (yX2_isDigit, cX2_isDigit, 1, some .boolean)
def kX2_isSign : MD := (yX2_isSign, cX2_isSign, 1, some .boolean)
def kX3_init : MD := (yX3_init, cX3_init, 1, none)
def kX3_becomePlain : MD := (yX3_becomePlain, cX3_becomePlain, 4, none)
def kX3_add : MD := (yX3_add, cX3_add, 2, none)
def kX3_endPart : MD := (yX3_endPart, cX3_endPart, 2, none)
def kX3_worth : MD := (yX3_worth, cX3_worth, 6, some .int)
def kX3_isName : MD := (yX3_isName, cX3_isName, 1, some .boolean)
def kX3_joined : MD := (yX3_joined, cX3_joined, 3, some .int)
def kX4_init : MD := (yX4_init, cX4_init, 2, none)
def kX4_become : MD := (yX4_become, cX4_become, 2, none)
def kX4_setClock : MD := (yX4_setClock, cX4_setClock, 3, some .int)
def kX4_welcome : MD := (yX4_welcome, cX4_welcome, 4, some .int)
def kX4_says : MD := (yX4_says, cX4_says, 4, some .int)
def kX4_wouldTry : MD := (yX4_wouldTry, cX4_wouldTry, 3, some .boolean)
def kX4_wouldPay : MD := (yX4_wouldPay, cX4_wouldPay, 2, some .int)
def kX4_wouldGo : MD := (yX4_wouldGo, cX4_wouldGo, 2, some .int)
def kX4_outcome : MD := (yX4_outcome, cX4_outcome, 3, some .int)
def kX4_attempt : MD := (yX4_attempt, cX4_attempt, 7, some .int)
def kX4_pass : MD := (yX4_pass, cX4_pass, 3, some .int)
def kX4_isSo : MD := (yX4_isSo, cX4_isSo, 2, some .boolean)
def kX4_anyoneAlone : MD := (yX4_anyoneAlone, cX4_anyoneAlone, 2, some .boolean)
def kX4_peopleAt : MD := (yX4_peopleAt, cX4_peopleAt, 4, some .int)
def kX4_doorsWithFirst : MD := (yX4_doorsWithFirst, cX4_doorsWithFirst, 1, some .int)
def kX4_doorsWithSecond : MD := (yX4_doorsWithSecond, cX4_doorsWithSecond, 1, some .int)
def kX4_bitsOfTaken : MD := (yX4_bitsOfTaken, cX4_bitsOfTaken, 3, some .int)
def kX4_allBehind : MD := (yX4_allBehind, cX4_allBehind, 3, some .int)
def kX4_allEggs : MD := (yX4_allEggs, cX4_allEggs, 3, some .int)
def kX5_init : MD := (yX5_init, cX5_init, 2, none)
def kX5_count : MD := (yX5_count, cX5_count, 2, some .int)
def kX5_town : MD := (yX5_town, cX5_town, 4, some .int)
def kX5_door : MD := (yX5_door, cX5_door, 3, some .int)
def kX5_feed : MD := (yX5_feed, cX5_feed, 9, some .int)
def kX5_text : MD := (yX5_text, cX5_text, 2, some .int)
def kX5_force : MD := (yX5_force, cX5_force, 3, some .int)
def kX5_asks : MD := (yX5_asks, cX5_asks, 3, some .int)
def kX5_citizen : MD := (yX5_citizen, cX5_citizen, 3, some .int)
def kX5_put : MD := (yX5_put, cX5_put, 4, some .int)
def kX5_told : MD := (yX5_told, cX5_told, 3, some .int)
def kX5_twist : MD := (yX5_twist, cX5_twist, 2, some .int)
def kX5_give : MD := (yX5_give, cX5_give, 4, some .int)
def kX5_minute : MD := (yX5_minute, cX5_minute, 1, some .int)
def kX5_run : MD := (yX5_run, cX5_run, 6, some .int)
def kX5_when : MD := (yX5_when, cX5_when, 3, some .int)
def kX5_waits : MD := (yX5_waits, cX5_waits, 3, some .int)
def kX5_pair : MD := (yX5_pair, cX5_pair, 8, some .int)
def kX5_eggsOfSecond : MD := (yX5_eggsOfSecond, cX5_eggsOfSecond, 4, some .int)
def kX5_stand : MD := (yX5_stand, cX5_stand, 7, some .int)
def kX5_rounds : MD := (yX5_rounds, cX5_rounds, 7, some .int)
def kX5_tries : MD := (yX5_tries, cX5_tries, 5, some .int)
def kX5_share : MD := (yX5_share, cX5_share, 4, some .long)
def kX5_judge : MD := (yX5_judge, cX5_judge, 4, some .int)
def kX5_kinds : MD := (yX5_kinds, cX5_kinds, 7, some .int)
def kX5_doors : MD := (yX5_doors, cX5_doors, 6, some .int)
def kX5_baskets : MD := (yX5_baskets, cX5_baskets, 8, some .int)
def kX5_firsts : MD := (yX5_firsts, cX5_firsts, 7, some .int)
def kX5_whose : MD := (yX5_whose, cX5_whose, 5, some .int)
def kX5_laws : MD := (yX5_laws, cX5_laws, 6, some .int)
def kX5_film : MD := (yX5_film, cX5_film, 5, some .int)
def kX5_refusalOfSheet : MD := (yX5_refusalOfSheet, cX5_refusalOfSheet, 2, some .int)
def kX5_refusalOfTold : MD := (yX5_refusalOfTold, cX5_refusalOfTold, 4, some .int)
def kX5_otherwise : MD := (yX5_otherwise, cX5_otherwise, 4, some .int)
def kX5_drawn : MD := (yX5_drawn, cX5_drawn, 5, some .int)
def kX5_odds : MD := (yX5_odds, cX5_odds, 8, some .long)
def kX5_image : MD := (yX5_image, cX5_image, 1, some .int)
def kX5_back : MD := (yX5_back, cX5_back, 1, some .int)
def kX5_thinkByLots : MD := (yX5_thinkByLots, cX5_thinkByLots, 9, some .int)
def kX5_nextLot : MD := (yX5_nextLot, cX5_nextLot, 2, some .long)
def kX5_sheet : MD := (yX5_sheet, cX5_sheet, 4, some .int)
def kX5_cell : MD := (yX5_cell, cX5_cell, 4, some .int)
def kX5_copy : MD := (yX5_copy, cX5_copy, 8, some .int)
def kX5_peopleBy : MD := (yX5_peopleBy, cX5_peopleBy, 9, some .int)
def kX5_taken : MD := (yX5_taken, cX5_taken, 3, some .int)
def kX5_isOneOf : MD := (yX5_isOneOf, cX5_isOneOf, 2, some .boolean)
def kX5_passThought : MD := (yX5_passThought, cX5_passThought, 3, none)
def kX5_isPerson : MD := (yX5_isPerson, cX5_isPerson, 2, some .boolean)
def kX5_isDoor : MD := (yX5_isDoor, cX5_isDoor, 1, some .boolean)
def kX5_isSheet : MD := (yX5_isSheet, cX5_isSheet, 1, some .boolean)
def kX5_isByte : MD := (yX5_isByte, cX5_isByte, 1, some .boolean)
def kX5_within : MD := (yX5_within, cX5_within, 3, some .boolean)
def kX5_hasBit : MD := (yX5_hasBit, cX5_hasBit, 2, some .boolean)
def kX5_swapped : MD := (yX5_swapped, cX5_swapped, 4, some .int)
def kX5_lowest : MD := (yX5_lowest, cX5_lowest, 7, some .long)
def kX6_init : MD := (yX6_init, cX6_init, 2, none)
def kX6_in : MD := (yX6_in, cX6_in, 3, some .boolean)
def kX6_within : MD := (yX6_within, cX6_within, 3, some .int)
def kX6_isOne : MD := (yX6_isOne, cX6_isOne, 2, some .boolean)
def kX6_isDoor : MD := (yX6_isDoor, cX6_isDoor, 1, some .boolean)
def kX6_having : MD := (yX6_having, cX6_having, 4, some .int)
def kX6_onesOf : MD := (yX6_onesOf, cX6_onesOf, 3, some .int)
def kX6_count : MD := (yX6_count, cX6_count, 2, some .int)
def kX6_town : MD := (yX6_town, cX6_town, 6, some .int)
def kX6_whoAt : MD := (yX6_whoAt, cX6_whoAt, 4, some .int)
def kX6_door : MD := (yX6_door, cX6_door, 3, some .int)
def kX6_isByte : MD := (yX6_isByte, cX6_isByte, 1, some .boolean)
def kX6_feed : MD := (yX6_feed, cX6_feed, 8, some .int)
def kX6_wordFrom : MD := (yX6_wordFrom, cX6_wordFrom, 6, some .int)
def kX6_next : MD := (yX6_next, cX6_next, 3, none)
def kX6_rank : MD := (yX6_rank, cX6_rank, 1, some .int)
def kX6_puts : MD := (yX6_puts, cX6_puts, 2, none)
def kX6_unwinds : MD := (yX6_unwinds, cX6_unwinds, 3, none)
def kX6_holds : MD := (yX6_holds, cX6_holds, 2, none)
def kX6_opensOne : MD := (yX6_opensOne, cX6_opensOne, 2, some .boolean)
def kX6_between : MD := (yX6_between, cX6_between, 2, some .boolean)
def kX6_signOf : MD := (yX6_signOf, cX6_signOf, 1, some .int)
def kX6_eRead : MD := (yX6_eRead, cX6_eRead, 4, some .boolean)
def kX6_text : MD := (yX6_text, cX6_text, 3, some .int)
def kX6_two : MD := (yX6_two, cX6_two, 3, some .int)
def kX6_says : MD := (yX6_says, cX6_says, 5, some .int)
def kX6_force : MD := (yX6_force, cX6_force, 3, some .int)
def kX6_hasFirst : MD := (yX6_hasFirst, cX6_hasFirst, 2, some .boolean)
def kX6_asksOf : MD := (yX6_asksOf, cX6_asksOf, 3, some .int)
def kX6_asks : MD := (yX6_asks, cX6_asks, 3, some .int)
def kX6_citizen : MD := (yX6_citizen, cX6_citizen, 3, some .int)
def kX6_put : MD := (yX6_put, cX6_put, 5, some .int)
def kX6_doesTry : MD := (yX6_doesTry, cX6_doesTry, 4, some .boolean)
def kX6_paysOf : MD := (yX6_paysOf, cX6_paysOf, 3, some .int)
def kX6_goesOf : MD := (yX6_goesOf, cX6_goesOf, 2, some .int)
def kX6_signOf_ : MD := (yX6_signOf_, cX6_signOf_, 1, some .int)
def kX6_tryNow : MD := (yX6_tryNow, cX6_tryNow, 3, some .int)
def kX6_told : MD := (yX6_told, cX6_told, 3, some .int)
def kX6_tryOf : MD := (yX6_tryOf, cX6_tryOf, 6, some .int)
def kX6_twist : MD := (yX6_twist, cX6_twist, 2, some .int)
def kX6_give : MD := (yX6_give, cX6_give, 4, some .int)
def kX6_minuteOf : MD := (yX6_minuteOf, cX6_minuteOf, 5, some .int)
def kX6_minute : MD := (yX6_minute, cX6_minute, 1, some .int)
def kX6_behindAll : MD := (yX6_behindAll, cX6_behindAll, 3, some .int)
def kX6_keeps : MD := (yX6_keeps, cX6_keeps, 2, none)
def kX6_lays : MD := (yX6_lays, cX6_lays, 2, none)
def kX6_goes : MD := (yX6_goes, cX6_goes, 3, none)
def kX6_run : MD := (yX6_run, cX6_run, 5, some .int)
def kX6_isAnyAlone : MD := (yX6_isAnyAlone, cX6_isAnyAlone, 2, some .boolean)
def kX6_when : MD := (yX6_when, cX6_when, 5, some .int)
def kX6_waits : MD := (yX6_waits, cX6_waits, 4, some .int)
def kX6_pair : MD := (yX6_pair, cX6_pair, 8, some .int)
def kX6_stand : MD := (yX6_stand, cX6_stand, 8, some .int)
def kX6_rounds : MD := (yX6_rounds, cX6_rounds, 7, some .int)
def kX6_tries : MD := (yX6_tries, cX6_tries, 5, some .int)
def kX6_lowest : MD := (yX6_lowest, cX6_lowest, 11, some .long)
def kX6_share : MD := (yX6_share, cX6_share, 5, some .long)
def kX6_sheetWrong : MD := (yX6_sheetWrong, cX6_sheetWrong, 2, some .int)
def kX6_toldWrong : MD := (yX6_toldWrong, cX6_toldWrong, 4, some .int)
def kX6_unlike : MD := (yX6_unlike, cX6_unlike, 5, some .int)
def kX6_judge : MD := (yX6_judge, cX6_judge, 4, some .int)
def kX6_kinds : MD := (yX6_kinds, cX6_kinds, 9, some .int)
def kX6_doors : MD := (yX6_doors, cX6_doors, 7, some .int)
def kX6_baskets : MD := (yX6_baskets, cX6_baskets, 10, some .int)
def kX6_firsts : MD := (yX6_firsts, cX6_firsts, 8, some .int)
def kX6_whose : MD := (yX6_whose, cX6_whose, 5, some .int)
def kX6_laws : MD := (yX6_laws, cX6_laws, 7, some .int)
def kX6_film : MD := (yX6_film, cX6_film, 5, some .int)
def kX6_lotDay : MD := (yX6_lotDay, cX6_lotDay, 7, some .int)
def kX6_drawn : MD := (yX6_drawn, cX6_drawn, 5, some .int)
def kX6_odds : MD := (yX6_odds, cX6_odds, 8, some .long)
def kX6_image : MD := (yX6_image, cX6_image, 2, some .int)
def kX6_back : MD := (yX6_back, cX6_back, 2, some .int)
def kX6_sheet : MD := (yX6_sheet, cX6_sheet, 5, some .int)
def kX6_cell : MD := (yX6_cell, cX6_cell, 4, some .int)
def kX6_copy : MD := (yX6_copy, cX6_copy, 10, some .int)
def kX6_peopleBy : MD := (yX6_peopleBy, cX6_peopleBy, 9, some .int)
def kX6_isUnder : MD := (yX6_isUnder, cX6_isUnder, 2, some .boolean)
def kX6_taken : MD := (yX6_taken, cX6_taken, 3, some .int)
def kJ6_bitCount_0f7a4 : MD := (yJ6_bitCount_0f7a4, cJ6_bitCount_0f7a4, 1, some .int)
def kJ9_floorMod_7cf53 : MD := (yJ9_floorMod_7cf53, cJ9_floorMod_7cf53, 3, some .int)
def kJ9_max_7cf53 : MD := (yJ9_max_7cf53, cJ9_max_7cf53, 2, some .int)
def kJ9_min_7cf53 : MD := (yJ9_min_7cf53, cJ9_min_7cf53, 2, some .int)
def kJ0_length_8abf5 : MD := (yJ0_length_8abf5, cJ0_length_8abf5, 1, some .int)
def kJ0_charAt_5068e : MD := (yJ0_charAt_5068e, cJ0_charAt_5068e, 2, some .char)
def kJ0_coder_7d493 : MD := (yJ0_coder_7d493, cJ0_coder_7d493, 1, some .byte)
def kJ0_isLatin1_aae02 : MD := (yJ0_isLatin1_aae02, cJ0_isLatin1_aae02, 1, some .boolean)
def kJ0_checkIndex_df160 : MD := (yJ0_checkIndex_df160, cJ0_checkIndex_df160, 2, none)
def kJ1_charAt_3b067 : MD := (yJ1_charAt_3b067, cJ1_charAt_3b067, 2, some .char)
def kJ2_getChar_3b067 : MD := (yJ2_getChar_3b067, cJ2_getChar_3b067, 2, some .char)
def kJ2_length_9d52b : MD := (yJ2_length_9d52b, cJ2_length_9d52b, 1, some .int)
def kJ2_charAt_3b067 : MD := (yJ2_charAt_3b067, cJ2_charAt_3b067, 2, some .char)
def kJ2_checkIndex_2214a : MD := (yJ2_checkIndex_2214a, cJ2_checkIndex_2214a, 2, none)
def kJ7_fill_53178 : MD := (yJ7_fill_53178, cJ7_fill_53178, 4, none)
def kJ3_checkIndex_8e157 : MD := (yJ3_checkIndex_8e157, cJ3_checkIndex_8e157, 3, some .int)
def kL_law : MD := (yL_law, cL_law, maxLocals, ret)
def q_nst : List (String × Nat × MethodName × String) := [(RX0, 66, yX3_isName, "KeysForSecond"), (RX4, 65, yX5_within, "KeysForSecond"), (RX4, 115, yX5_hasBit, "KeysForSecond")]
theorem q_nst_in : ∀ q ∈ q_nst, Cond.methodLinkNest q.1 q.2.1 q.2.2.1 q.2.2.2 ∈ lw_tbl := by
  intro q hq
  simp only [q_nst, List.mem_cons, List.not_mem_nil, or_false] at hq
  rcases hq with rfl | rfl | rfl
  · exact q_t2_in 140 rfl
  · exact q_t2_in 182 rfl
  · exact q_t3_in 35 rfl
def Dk (k : MD) (pc : Nat) (i : Instr) (len pc2 : Nat) : Prop := decode k.2.1 pc = .ok (i, len) ∧ pc + len = pc2
def Dj (k : MD) (pc : Nat) (f : Int → Instr) (len pc2 tgt : Nat) : Prop := ∃ off : Int, decode k.2.1 pc = .ok (f off, len) ∧ pc + len = pc2 ∧ (pc : Int) + off = (tgt : Int)
/-- a field that a class reads: class number, field number -/
def Fg (own : String) (idx ci j : Nat) : Prop := ∃ (C : String) (T : u_T) (N : Nat), vwCl[ci]? = some (C, T, N) ∧ j < N ∧ (T j).1 = C ∧ Cond.fieldLink own idx C (T j).2.1 (T j).2.2.1 ∈ q_tbl ∧ ∀ w ∈ u_ws C T N, w ∈ q_tbl
/-- a field that a class writes -/
def Fp (own : String) (idx ci j : Nat) (ty : FieldType) : Prop := ∃ (C : String) (T : u_T) (N : Nat) (ty0 : Nat → FieldType), vwCl[ci]? = some (C, T, N) ∧ j < N ∧ (T j).1 = C ∧ Cond.fieldLink own idx C (T j).2.1 (T j).2.2.1 ∈ q_tbl ∧ (∀ w ∈ u_ws C T N, w ∈ q_tbl) ∧ (∀ k, k < N → parseFieldDescriptor (T k).2.2.1 = some (ty0 k)) ∧ (∀ a, a < N → ∀ b, b < N → a ≠ b → (T a).2.1 ≠ (T b).2.1) ∧ (T j).2.2.2 = false ∧ parseFieldDescriptor (T j).2.2.1 = some ty
/-- the words of a call: np parameters -/
def Cb (y : MD) (np : Nat) : Prop := Cond.initialized y.1.cls ∈ q_tbl ∧ Cond.code y.1 y.2.1 y.2.2.1 y.2.2.2 ∈ q_tbl ∧ (y.1.cls ≠ "java/lang/invoke/MethodHandle" ∧ y.1.cls ≠ "java/lang/invoke/VarHandle" ∧ (parseMethodDescriptor y.1.desc).map (fun d => d.parameters.length) = some np) ∧ y.2.2.1 ≤ 20
def Cs (own : String) (idx : Nat) (y : MD) (np : Nat) : Prop := Cb y np ∧ Cond.methodLink own idx y.1 ∈ q_tbl ∧ Cond.static y.1 ∈ q_tbl
def Cn (own : String) (idx : Nat) (y : MD) (np : Nat) : Prop := Cb y np ∧ (∃ host : String, (own, idx, y.1, host) ∈ q_nst) ∧ Cond.static y.1 ∈ q_tbl
def Cv (own : String) (idx : Nat) (y : MD) (np ci : Nat) : Prop := Cb y np ∧ Cond.methodLink own idx y.1 ∈ q_tbl ∧ Cond.instanceMethod y.1 ∈ q_tbl ∧ Cond.selects y.1.cls y.1 y.1 ∈ q_tbl ∧ ∃ (T : u_T) (N : Nat), vwCl[ci]? = some (y.1.cls, T, N)
theorem uX0 : ∀ w ∈ wsX00, w ∈ q_tbl := by
  intro w hw
  have h : wsX00 = [66, 68].filterMap (fun i => tables_1[i]?) := by decide +kernel
  rw [h] at hw
  obtain ⟨i, -, hi⟩ := List.mem_filterMap.mp hw
  exact q_in1 i hi (List.all_eq_true.mp (show ([66, 68].filterMap (fun i => tables_1[i]?)).all goodWord = true by decide +kernel) w hw)
theorem uX1 : ∀ w ∈ wsX10, w ∈ q_tbl := by
  intro w hw
  have h : wsX10 = [161, 163, 165].filterMap (fun i => tables_1[i]?) := by decide +kernel
  rw [h] at hw
  obtain ⟨i, -, hi⟩ := List.mem_filterMap.mp hw
  exact q_in1 i hi (List.all_eq_true.mp (show ([161, 163, 165].filterMap (fun i => tables_1[i]?)).all goodWord = true by decide +kernel) w hw)
theorem uX2 : ∀ w ∈ wsX20, w ∈ q_tbl := by
  intro w hw
  have h : wsX20 = [44, 46, 48, 50, 52, 54].filterMap (fun i => tables_1[i]?) := by decide +kernel
  rw [h] at hw
  obtain ⟨i, -, hi⟩ := List.mem_filterMap.mp hw
  exact q_in1 i hi (List.all_eq_true.mp (show ([44, 46, 48, 50, 52, 54].filterMap (fun i => tables_1[i]?)).all goodWord = true by decide +kernel) w hw)
theorem uX3 : ∀ w ∈ wsX30, w ∈ q_tbl := by
  intro w hw
  have h : wsX30 = [141, 143, 145, 147].filterMap (fun i => tables_1[i]?) := by decide +kernel
  rw [h] at hw
  obtain ⟨i, -, hi⟩ := List.mem_filterMap.mp hw
  exact q_in1 i hi (List.all_eq_true.mp (show ([141, 143, 145, 147].filterMap (fun i => tables_1[i]?)).all goodWord = true by decide +kernel) w hw)
theorem uX4 : ∀ w ∈ wsX40, w ∈ q_tbl := by
  intro w hw
  have h : wsX40 = [104, 106, 108, 110, 112, 114, 116, 118, 120, 122, 124, 126, 128].filterMap (fun i => tables_1[i]?) := by decide +kernel
  rw [h] at hw
  obtain ⟨i, -, hi⟩ := List.mem_filterMap.mp hw
  exact q_in1 i hi (List.all_eq_true.mp (show ([104, 106, 108, 110, 112, 114, 116, 118, 120, 122, 124, 126, 128].filterMap (fun i => tables_1[i]?)).all goodWord = true by decide +kernel) w hw)
theorem uX5 : ∀ w ∈ wsX50, w ∈ q_tbl := by
  intro w hw
  have h : wsX50 = [189, 191, 193, 195, 197, 199, 201, 203, 205].filterMap (fun i => tables_1[i]?) := by decide +kernel
  rw [h] at hw
  obtain ⟨i, -, hi⟩ := List.mem_filterMap.mp hw
  exact q_in1 i hi (List.all_eq_true.mp (show ([189, 191, 193, 195, 197, 199, 201, 203, 205].filterMap (fun i => tables_1[i]?)).all goodWord = true by decide +kernel) w hw)
theorem uX6 : ∀ w ∈ wsX60, w ∈ q_tbl := by
  intro w hw
  have h : wsX60 = [756, 758, 760, 762, 764, 766, 768, 770, 772, 774, 776, 778, 780, 782, 784, 786, 788, 790, 792, 794, 796, 798, 800, 802, 804, 806, 808, 810, 812, 814, 816, 818].filterMap (fun i => tables_1[i]?) := by decide +kernel
  rw [h] at hw
  obtain ⟨i, -, hi⟩ := List.mem_filterMap.mp hw
  exact q_in1 i hi (List.all_eq_true.mp (show ([756, 758, 760, 762, 764, 766, 768, 770, 772, 774, 776, 778, 780, 782, 784, 786, 788, 790, 792, 794, 796, 798, 800, 802, 804, 806, 808, 810, 812, 814, 816, 818].filterMap (fun i => tables_1[i]?)).all goodWord = true by decide +kernel) w hw)
theorem fX2_9 : Fg RX2 9 2 0 := ⟨RX2, TX2, 6, rfl, by decide, rfl, q_t1 34 rfl rfl, uX2⟩
theorem fX2_15 : Fg RX2 15 2 1 := ⟨RX2, TX2, 6, rfl, by decide, rfl, q_t1 35 rfl rfl, uX2⟩
theorem pX2_15 : Fp RX2 15 2 1 .int := ⟨RX2, TX2, 6, tyX2, rfl, by decide, rfl, q_t1 35 rfl rfl, uX2, tyX2_ok, nmX2, rfl, by decide +kernel⟩
theorem fX5_85 : Fg RX5 85 2 1 := ⟨RX2, TX2, 6, rfl, by decide, rfl, q_t1 36 rfl rfl, uX2⟩
theorem pX5_85 : Fp RX5 85 2 1 .int := ⟨RX2, TX2, 6, tyX2, rfl, by decide, rfl, q_t1 36 rfl rfl, uX2, tyX2_ok, nmX2, rfl, by decide +kernel⟩
theorem fX2_19 : Fg RX2 19 2 2 := ⟨RX2, TX2, 6, rfl, by decide, rfl, q_t1 37 rfl rfl, uX2⟩
theorem pX2_19 : Fp RX2 19 2 2 .int := ⟨RX2, TX2, 6, tyX2, rfl, by decide, rfl, q_t1 37 rfl rfl, uX2, tyX2_ok, nmX2, rfl, by decide +kernel⟩
theorem fX2_22 : Fg RX2 22 2 3 := ⟨RX2, TX2, 6, rfl, by decide, rfl, q_t1 38 rfl rfl, uX2⟩
theorem pX2_22 : Fp RX2 22 2 3 .int := ⟨RX2, TX2, 6, tyX2, rfl, by decide, rfl, q_t1 38 rfl rfl, uX2, tyX2_ok, nmX2, rfl, by decide +kernel⟩
theorem fX0_49 : Fg RX0 49 2 3 := ⟨RX2, TX2, 6, rfl, by decide, rfl, q_t1 39 rfl rfl, uX2⟩
theorem pX0_49 : Fp RX0 49 2 3 .int := ⟨RX2, TX2, 6, tyX2, rfl, by decide, rfl, q_t1 39 rfl rfl, uX2, tyX2_ok, nmX2, rfl, by decide +kernel⟩
theorem fX2_25 : Fg RX2 25 2 4 := ⟨RX2, TX2, 6, rfl, by decide, rfl, q_t1 40 rfl rfl, uX2⟩
theorem pX2_25 : Fp RX2 25 2 4 .int := ⟨RX2, TX2, 6, tyX2, rfl, by decide, rfl, q_t1 40 rfl rfl, uX2, tyX2_ok, nmX2, rfl, by decide +kernel⟩
theorem fX0_40 : Fg RX0 40 2 4 := ⟨RX2, TX2, 6, rfl, by decide, rfl, q_t1 41 rfl rfl, uX2⟩
theorem pX0_40 : Fp RX0 40 2 4 .int := ⟨RX2, TX2, 6, tyX2, rfl, by decide, rfl, q_t1 41 rfl rfl, uX2, tyX2_ok, nmX2, rfl, by decide +kernel⟩
theorem fX2_28 : Fg RX2 28 2 5 := ⟨RX2, TX2, 6, rfl, by decide, rfl, q_t1 42 rfl rfl, uX2⟩
theorem pX2_28 : Fp RX2 28 2 5 .int := ⟨RX2, TX2, 6, tyX2, rfl, by decide, rfl, q_t1 42 rfl rfl, uX2, tyX2_ok, nmX2, rfl, by decide +kernel⟩
theorem fX0_63 : Fg RX0 63 2 5 := ⟨RX2, TX2, 6, rfl, by decide, rfl, q_t1 43 rfl rfl, uX2⟩
theorem pX0_63 : Fp RX0 63 2 5 .int := ⟨RX2, TX2, 6, tyX2, rfl, by decide, rfl, q_t1 43 rfl rfl, uX2, tyX2_ok, nmX2, rfl, by decide +kernel⟩
theorem fX0_15 : Fg RX0 15 0 0 := ⟨RX0, TX0, 2, rfl, by decide, rfl, q_t1 64 rfl rfl, uX0⟩
theorem fX0_9 : Fg RX0 9 0 1 := ⟨RX0, TX0, 2, rfl, by decide, rfl, q_t1 65 rfl rfl, uX0⟩
theorem pX0_9 : Fp RX0 9 0 1 .int := ⟨RX0, TX0, 2, tyX0, rfl, by decide, rfl, q_t1 65 rfl rfl, uX0, tyX0_ok, nmX0, rfl, by decide +kernel⟩
theorem fX4_49 : Fg RX4 49 4 0 := ⟨RX4, TX4, 13, rfl, by decide, rfl, q_t1 80 rfl rfl, uX4⟩
theorem fX4_9 : Fg RX4 9 4 1 := ⟨RX4, TX4, 13, rfl, by decide, rfl, q_t1 81 rfl rfl, uX4⟩
theorem fX5_99 : Fg RX5 99 4 1 := ⟨RX4, TX4, 13, rfl, by decide, rfl, q_t1 82 rfl rfl, uX4⟩
theorem fX4_15 : Fg RX4 15 4 2 := ⟨RX4, TX4, 13, rfl, by decide, rfl, q_t1 83 rfl rfl, uX4⟩
theorem fX5_110 : Fg RX5 110 4 2 := ⟨RX4, TX4, 13, rfl, by decide, rfl, q_t1 84 rfl rfl, uX4⟩
theorem fX4_18 : Fg RX4 18 4 3 := ⟨RX4, TX4, 13, rfl, by decide, rfl, q_t1 85 rfl rfl, uX4⟩
theorem fX5_113 : Fg RX5 113 4 3 := ⟨RX4, TX4, 13, rfl, by decide, rfl, q_t1 86 rfl rfl, uX4⟩
theorem fX4_21 : Fg RX4 21 4 4 := ⟨RX4, TX4, 13, rfl, by decide, rfl, q_t1 87 rfl rfl, uX4⟩
theorem fX5_137 : Fg RX5 137 4 4 := ⟨RX4, TX4, 13, rfl, by decide, rfl, q_t1 88 rfl rfl, uX4⟩
theorem fX4_24 : Fg RX4 24 4 5 := ⟨RX4, TX4, 13, rfl, by decide, rfl, q_t1 89 rfl rfl, uX4⟩
theorem fX5_140 : Fg RX5 140 4 5 := ⟨RX4, TX4, 13, rfl, by decide, rfl, q_t1 90 rfl rfl, uX4⟩
theorem fX4_27 : Fg RX4 27 4 6 := ⟨RX4, TX4, 13, rfl, by decide, rfl, q_t1 91 rfl rfl, uX4⟩
theorem fX5_143 : Fg RX5 143 4 6 := ⟨RX4, TX4, 13, rfl, by decide, rfl, q_t1 92 rfl rfl, uX4⟩
theorem fX4_30 : Fg RX4 30 4 7 := ⟨RX4, TX4, 13, rfl, by decide, rfl, q_t1 93 rfl rfl, uX4⟩
theorem fX5_146 : Fg RX5 146 4 7 := ⟨RX4, TX4, 13, rfl, by decide, rfl, q_t1 94 rfl rfl, uX4⟩
theorem fX4_33 : Fg RX4 33 4 8 := ⟨RX4, TX4, 13, rfl, by decide, rfl, q_t1 95 rfl rfl, uX4⟩
theorem fX5_149 : Fg RX5 149 4 8 := ⟨RX4, TX4, 13, rfl, by decide, rfl, q_t1 96 rfl rfl, uX4⟩
theorem fX4_36 : Fg RX4 36 4 9 := ⟨RX4, TX4, 13, rfl, by decide, rfl, q_t1 97 rfl rfl, uX4⟩
theorem fX4_39 : Fg RX4 39 4 10 := ⟨RX4, TX4, 13, rfl, by decide, rfl, q_t1 98 rfl rfl, uX4⟩
theorem pX4_39 : Fp RX4 39 4 10 .int := ⟨RX4, TX4, 13, tyX4, rfl, by decide, rfl, q_t1 98 rfl rfl, uX4, tyX4_ok, nmX4, rfl, by decide +kernel⟩
theorem fX5_66 : Fg RX5 66 4 10 := ⟨RX4, TX4, 13, rfl, by decide, rfl, q_t1 99 rfl rfl, uX4⟩
theorem pX5_66 : Fp RX5 66 4 10 .int := ⟨RX4, TX4, 13, tyX4, rfl, by decide, rfl, q_t1 99 rfl rfl, uX4, tyX4_ok, nmX4, rfl, by decide +kernel⟩
theorem fX4_43 : Fg RX4 43 4 11 := ⟨RX4, TX4, 13, rfl, by decide, rfl, q_t1 100 rfl rfl, uX4⟩
theorem pX4_43 : Fp RX4 43 4 11 .int := ⟨RX4, TX4, 13, tyX4, rfl, by decide, rfl, q_t1 100 rfl rfl, uX4, tyX4_ok, nmX4, rfl, by decide +kernel⟩
theorem fX5_69 : Fg RX5 69 4 11 := ⟨RX4, TX4, 13, rfl, by decide, rfl, q_t1 101 rfl rfl, uX4⟩
theorem pX5_69 : Fp RX5 69 4 11 .int := ⟨RX4, TX4, 13, tyX4, rfl, by decide, rfl, q_t1 101 rfl rfl, uX4, tyX4_ok, nmX4, rfl, by decide +kernel⟩
theorem fX4_46 : Fg RX4 46 4 12 := ⟨RX4, TX4, 13, rfl, by decide, rfl, q_t1 102 rfl rfl, uX4⟩
theorem pX4_46 : Fp RX4 46 4 12 .int := ⟨RX4, TX4, 13, tyX4, rfl, by decide, rfl, q_t1 102 rfl rfl, uX4, tyX4_ok, nmX4, rfl, by decide +kernel⟩
theorem fX5_82 : Fg RX5 82 4 12 := ⟨RX4, TX4, 13, rfl, by decide, rfl, q_t1 103 rfl rfl, uX4⟩
theorem pX5_82 : Fp RX5 82 4 12 .int := ⟨RX4, TX4, 13, tyX4, rfl, by decide, rfl, q_t1 103 rfl rfl, uX4, tyX4_ok, nmX4, rfl, by decide +kernel⟩
theorem fX3_9 : Fg RX3 9 3 0 := ⟨RX3, TX3, 4, rfl, by decide, rfl, q_t1 136 rfl rfl, uX3⟩
theorem fX3_15 : Fg RX3 15 3 1 := ⟨RX3, TX3, 4, rfl, by decide, rfl, q_t1 137 rfl rfl, uX3⟩
theorem fX3_18 : Fg RX3 18 3 2 := ⟨RX3, TX3, 4, rfl, by decide, rfl, q_t1 138 rfl rfl, uX3⟩
theorem fX3_21 : Fg RX3 21 3 3 := ⟨RX3, TX3, 4, rfl, by decide, rfl, q_t1 139 rfl rfl, uX3⟩
theorem pX3_21 : Fp RX3 21 3 3 .int := ⟨RX3, TX3, 4, tyX3, rfl, by decide, rfl, q_t1 139 rfl rfl, uX3, tyX3_ok, nmX3, rfl, by decide +kernel⟩
theorem fX0_19 : Fg RX0 19 3 3 := ⟨RX3, TX3, 4, rfl, by decide, rfl, q_t1 140 rfl rfl, uX3⟩
theorem pX0_19 : Fp RX0 19 3 3 .int := ⟨RX3, TX3, 4, tyX3, rfl, by decide, rfl, q_t1 140 rfl rfl, uX3, tyX3_ok, nmX3, rfl, by decide +kernel⟩
theorem fX1_9 : Fg RX1 9 1 0 := ⟨RX1, TX1, 3, rfl, by decide, rfl, q_t1 155 rfl rfl, uX1⟩
theorem fX5_231 : Fg RX5 231 1 0 := ⟨RX1, TX1, 3, rfl, by decide, rfl, q_t1 156 rfl rfl, uX1⟩
theorem fX1_15 : Fg RX1 15 1 1 := ⟨RX1, TX1, 3, rfl, by decide, rfl, q_t1 157 rfl rfl, uX1⟩
theorem pX1_15 : Fp RX1 15 1 1 .int := ⟨RX1, TX1, 3, tyX1, rfl, by decide, rfl, q_t1 157 rfl rfl, uX1, tyX1_ok, nmX1, rfl, by decide +kernel⟩
theorem fX5_227 : Fg RX5 227 1 1 := ⟨RX1, TX1, 3, rfl, by decide, rfl, q_t1 158 rfl rfl, uX1⟩
theorem pX5_227 : Fp RX5 227 1 1 .int := ⟨RX1, TX1, 3, tyX1, rfl, by decide, rfl, q_t1 158 rfl rfl, uX1, tyX1_ok, nmX1, rfl, by decide +kernel⟩
theorem fX1_19 : Fg RX1 19 1 2 := ⟨RX1, TX1, 3, rfl, by decide, rfl, q_t1 159 rfl rfl, uX1⟩
theorem pX1_19 : Fp RX1 19 1 2 .int := ⟨RX1, TX1, 3, tyX1, rfl, by decide, rfl, q_t1 159 rfl rfl, uX1, tyX1_ok, nmX1, rfl, by decide +kernel⟩
theorem fX5_230 : Fg RX5 230 1 2 := ⟨RX1, TX1, 3, rfl, by decide, rfl, q_t1 160 rfl rfl, uX1⟩
theorem pX5_230 : Fp RX5 230 1 2 .int := ⟨RX1, TX1, 3, tyX1, rfl, by decide, rfl, q_t1 160 rfl rfl, uX1, tyX1_ok, nmX1, rfl, by decide +kernel⟩
theorem fX5_11 : Fg RX5 11 5 0 := ⟨RX5, TX5, 9, rfl, by decide, rfl, q_t1 180 rfl rfl, uX5⟩
theorem fX5_17 : Fg RX5 17 5 1 := ⟨RX5, TX5, 9, rfl, by decide, rfl, q_t1 181 rfl rfl, uX5⟩
theorem fX5_24 : Fg RX5 24 5 2 := ⟨RX5, TX5, 9, rfl, by decide, rfl, q_t1 182 rfl rfl, uX5⟩
theorem fX5_33 : Fg RX5 33 5 3 := ⟨RX5, TX5, 9, rfl, by decide, rfl, q_t1 183 rfl rfl, uX5⟩
theorem fX5_42 : Fg RX5 42 5 4 := ⟨RX5, TX5, 9, rfl, by decide, rfl, q_t1 184 rfl rfl, uX5⟩
theorem fX5_46 : Fg RX5 46 5 5 := ⟨RX5, TX5, 9, rfl, by decide, rfl, q_t1 185 rfl rfl, uX5⟩
theorem fX5_49 : Fg RX5 49 5 6 := ⟨RX5, TX5, 9, rfl, by decide, rfl, q_t1 186 rfl rfl, uX5⟩
theorem fX5_52 : Fg RX5 52 5 7 := ⟨RX5, TX5, 9, rfl, by decide, rfl, q_t1 187 rfl rfl, uX5⟩
theorem pX5_52 : Fp RX5 52 5 7 .int := ⟨RX5, TX5, 9, tyX5, rfl, by decide, rfl, q_t1 187 rfl rfl, uX5, tyX5_ok, nmX5, rfl, by decide +kernel⟩
theorem fX5_56 : Fg RX5 56 5 8 := ⟨RX5, TX5, 9, rfl, by decide, rfl, q_t1 188 rfl rfl, uX5⟩
theorem pX5_56 : Fp RX5 56 5 8 .boolean := ⟨RX5, TX5, 9, tyX5, rfl, by decide, rfl, q_t1 188 rfl rfl, uX5, tyX5_ok, nmX5, rfl, by decide +kernel⟩
theorem fX6_72 : Fg RX6 72 6 0 := ⟨RX6, TX6, 32, rfl, by decide, rfl, q_t4 4 rfl rfl, uX6⟩
theorem pX6_72 : Fp RX6 72 6 0 .int := ⟨RX6, TX6, 32, tyX6, rfl, by decide, rfl, q_t4 4 rfl rfl, uX6, tyX6_ok, nmX6, rfl, by decide +kernel⟩
theorem fX6_7 : Fg RX6 7 6 1 := ⟨RX6, TX6, 32, rfl, by decide, rfl, q_t4 5 rfl rfl, uX6⟩
theorem fX6_13 : Fg RX6 13 6 2 := ⟨RX6, TX6, 32, rfl, by decide, rfl, q_t4 6 rfl rfl, uX6⟩
theorem fX6_16 : Fg RX6 16 6 3 := ⟨RX6, TX6, 32, rfl, by decide, rfl, q_t4 7 rfl rfl, uX6⟩
theorem fX6_19 : Fg RX6 19 6 4 := ⟨RX6, TX6, 32, rfl, by decide, rfl, q_t4 8 rfl rfl, uX6⟩
theorem fX6_79 : Fg RX6 79 6 5 := ⟨RX6, TX6, 32, rfl, by decide, rfl, q_t4 9 rfl rfl, uX6⟩
theorem pX6_79 : Fp RX6 79 6 5 .int := ⟨RX6, TX6, 32, tyX6, rfl, by decide, rfl, q_t4 9 rfl rfl, uX6, tyX6_ok, nmX6, rfl, by decide +kernel⟩
theorem fX6_22 : Fg RX6 22 6 6 := ⟨RX6, TX6, 32, rfl, by decide, rfl, q_t4 10 rfl rfl, uX6⟩
theorem fX6_64 : Fg RX6 64 6 7 := ⟨RX6, TX6, 32, rfl, by decide, rfl, q_t4 11 rfl rfl, uX6⟩
theorem pX6_64 : Fp RX6 64 6 7 .int := ⟨RX6, TX6, 32, tyX6, rfl, by decide, rfl, q_t4 11 rfl rfl, uX6, tyX6_ok, nmX6, rfl, by decide +kernel⟩
theorem fX6_25 : Fg RX6 25 6 8 := ⟨RX6, TX6, 32, rfl, by decide, rfl, q_t4 12 rfl rfl, uX6⟩
theorem fX6_28 : Fg RX6 28 6 9 := ⟨RX6, TX6, 32, rfl, by decide, rfl, q_t4 13 rfl rfl, uX6⟩
theorem fX6_89 : Fg RX6 89 6 10 := ⟨RX6, TX6, 32, rfl, by decide, rfl, q_t4 14 rfl rfl, uX6⟩
theorem pX6_89 : Fp RX6 89 6 10 .int := ⟨RX6, TX6, 32, tyX6, rfl, by decide, rfl, q_t4 14 rfl rfl, uX6, tyX6_ok, nmX6, rfl, by decide +kernel⟩
theorem fX6_92 : Fg RX6 92 6 11 := ⟨RX6, TX6, 32, rfl, by decide, rfl, q_t4 15 rfl rfl, uX6⟩
theorem pX6_92 : Fp RX6 92 6 11 .int := ⟨RX6, TX6, 32, tyX6, rfl, by decide, rfl, q_t4 15 rfl rfl, uX6, tyX6_ok, nmX6, rfl, by decide +kernel⟩
theorem fX6_244 : Fg RX6 244 6 12 := ⟨RX6, TX6, 32, rfl, by decide, rfl, q_t4 16 rfl rfl, uX6⟩
theorem pX6_244 : Fp RX6 244 6 12 .boolean := ⟨RX6, TX6, 32, tyX6, rfl, by decide, rfl, q_t4 16 rfl rfl, uX6, tyX6_ok, nmX6, rfl, by decide +kernel⟩
theorem fX6_31 : Fg RX6 31 6 13 := ⟨RX6, TX6, 32, rfl, by decide, rfl, q_t4 17 rfl rfl, uX6⟩
theorem fX6_34 : Fg RX6 34 6 14 := ⟨RX6, TX6, 32, rfl, by decide, rfl, q_t4 18 rfl rfl, uX6⟩
theorem fX6_37 : Fg RX6 37 6 15 := ⟨RX6, TX6, 32, rfl, by decide, rfl, q_t4 19 rfl rfl, uX6⟩
theorem fX6_40 : Fg RX6 40 6 16 := ⟨RX6, TX6, 32, rfl, by decide, rfl, q_t4 20 rfl rfl, uX6⟩
theorem fX6_43 : Fg RX6 43 6 17 := ⟨RX6, TX6, 32, rfl, by decide, rfl, q_t4 21 rfl rfl, uX6⟩
theorem fX6_46 : Fg RX6 46 6 18 := ⟨RX6, TX6, 32, rfl, by decide, rfl, q_t4 22 rfl rfl, uX6⟩
theorem fX6_108 : Fg RX6 108 6 19 := ⟨RX6, TX6, 32, rfl, by decide, rfl, q_t4 23 rfl rfl, uX6⟩
theorem pX6_108 : Fp RX6 108 6 19 .int := ⟨RX6, TX6, 32, tyX6, rfl, by decide, rfl, q_t4 23 rfl rfl, uX6, tyX6_ok, nmX6, rfl, by decide +kernel⟩
theorem fX6_111 : Fg RX6 111 6 20 := ⟨RX6, TX6, 32, rfl, by decide, rfl, q_t4 24 rfl rfl, uX6⟩
theorem pX6_111 : Fp RX6 111 6 20 .int := ⟨RX6, TX6, 32, tyX6, rfl, by decide, rfl, q_t4 24 rfl rfl, uX6, tyX6_ok, nmX6, rfl, by decide +kernel⟩
theorem fX6_114 : Fg RX6 114 6 21 := ⟨RX6, TX6, 32, rfl, by decide, rfl, q_t4 25 rfl rfl, uX6⟩
theorem pX6_114 : Fp RX6 114 6 21 .int := ⟨RX6, TX6, 32, tyX6, rfl, by decide, rfl, q_t4 25 rfl rfl, uX6, tyX6_ok, nmX6, rfl, by decide +kernel⟩
theorem fX6_117 : Fg RX6 117 6 22 := ⟨RX6, TX6, 32, rfl, by decide, rfl, q_t4 26 rfl rfl, uX6⟩
theorem pX6_117 : Fp RX6 117 6 22 .int := ⟨RX6, TX6, 32, tyX6, rfl, by decide, rfl, q_t4 26 rfl rfl, uX6, tyX6_ok, nmX6, rfl, by decide +kernel⟩
theorem fX6_49 : Fg RX6 49 6 23 := ⟨RX6, TX6, 32, rfl, by decide, rfl, q_t4 27 rfl rfl, uX6⟩
theorem fX6_52 : Fg RX6 52 6 24 := ⟨RX6, TX6, 32, rfl, by decide, rfl, q_t4 28 rfl rfl, uX6⟩
theorem fX6_127 : Fg RX6 127 6 25 := ⟨RX6, TX6, 32, rfl, by decide, rfl, q_t4 29 rfl rfl, uX6⟩
theorem pX6_127 : Fp RX6 127 6 25 .int := ⟨RX6, TX6, 32, tyX6, rfl, by decide, rfl, q_t4 29 rfl rfl, uX6, tyX6_ok, nmX6, rfl, by decide +kernel⟩
theorem fX6_133 : Fg RX6 133 6 26 := ⟨RX6, TX6, 32, rfl, by decide, rfl, q_t4 30 rfl rfl, uX6⟩
theorem pX6_133 : Fp RX6 133 6 26 .int := ⟨RX6, TX6, 32, tyX6, rfl, by decide, rfl, q_t4 30 rfl rfl, uX6, tyX6_ok, nmX6, rfl, by decide +kernel⟩
theorem fX6_124 : Fg RX6 124 6 27 := ⟨RX6, TX6, 32, rfl, by decide, rfl, q_t4 31 rfl rfl, uX6⟩
theorem pX6_124 : Fp RX6 124 6 27 .int := ⟨RX6, TX6, 32, tyX6, rfl, by decide, rfl, q_t4 31 rfl rfl, uX6, tyX6_ok, nmX6, rfl, by decide +kernel⟩
theorem fX6_55 : Fg RX6 55 6 28 := ⟨RX6, TX6, 32, rfl, by decide, rfl, q_t4 32 rfl rfl, uX6⟩
theorem fX6_58 : Fg RX6 58 6 29 := ⟨RX6, TX6, 32, rfl, by decide, rfl, q_t4 33 rfl rfl, uX6⟩
theorem fX6_61 : Fg RX6 61 6 30 := ⟨RX6, TX6, 32, rfl, by decide, rfl, q_t4 34 rfl rfl, uX6⟩
theorem fX6_229 : Fg RX6 229 6 31 := ⟨RX6, TX6, 32, rfl, by decide, rfl, q_t4 35 rfl rfl, uX6⟩
theorem pX6_229 : Fp RX6 229 6 31 .int := ⟨RX6, TX6, 32, tyX6, rfl, by decide, rfl, q_t4 35 rfl rfl, uX6, tyX6_ok, nmX6, rfl, by decide +kernel⟩
theorem neRX0 : RX0 ≠ "java/lang/invoke/MethodHandle" ∧ RX0 ≠ "java/lang/invoke/VarHandle" ∧ (plainName RX0 = plainName RX0) := ⟨by decide +kernel, by decide +kernel, rfl⟩
theorem neRX1 : RX1 ≠ "java/lang/invoke/MethodHandle" ∧ RX1 ≠ "java/lang/invoke/VarHandle" ∧ (plainName RX1 = plainName RX1) := ⟨by decide +kernel, by decide +kernel, rfl⟩
theorem neRX2 : RX2 ≠ "java/lang/invoke/MethodHandle" ∧ RX2 ≠ "java/lang/invoke/VarHandle" ∧ (plainName RX2 = plainName RX2) := ⟨by decide +kernel, by decide +kernel, rfl⟩
theorem neRX3 : RX3 ≠ "java/lang/invoke/MethodHandle" ∧ RX3 ≠ "java/lang/invoke/VarHandle" ∧ (plainName RX3 = plainName RX3) := ⟨by decide +kernel, by decide +kernel, rfl⟩
theorem neRX4 : RX4 ≠ "java/lang/invoke/MethodHandle" ∧ RX4 ≠ "java/lang/invoke/VarHandle" ∧ (plainName RX4 = plainName RX4) := ⟨by decide +kernel, by decide +kernel, rfl⟩
theorem neRX5 : RX5 ≠ "java/lang/invoke/MethodHandle" ∧ RX5 ≠ "java/lang/invoke/VarHandle" ∧ (plainName RX5 = plainName RX5) := ⟨by decide +kernel, by decide +kernel, rfl⟩
theorem neRX6 : RX6 ≠ "java/lang/invoke/MethodHandle" ∧ RX6 ≠ "java/lang/invoke/VarHandle" ∧ (plainName RX6 = plainName RX6) := ⟨by decide +kernel, by decide +kernel, rfl⟩
theorem neRJ6 : RJ6 ≠ "java/lang/invoke/MethodHandle" ∧ RJ6 ≠ "java/lang/invoke/VarHandle" ∧ (plainName RJ6 = plainName RJ6) := ⟨by decide +kernel, by decide +kernel, rfl⟩
theorem neRJ9 : RJ9 ≠ "java/lang/invoke/MethodHandle" ∧ RJ9 ≠ "java/lang/invoke/VarHandle" ∧ (plainName RJ9 = plainName RJ9) := ⟨by decide +kernel, by decide +kernel, rfl⟩
theorem neRJ0 : RJ0 ≠ "java/lang/invoke/MethodHandle" ∧ RJ0 ≠ "java/lang/invoke/VarHandle" ∧ (plainName RJ0 = plainName RJ0) := ⟨by decide +kernel, by decide +kernel, rfl⟩
theorem neRJ1 : RJ1 ≠ "java/lang/invoke/MethodHandle" ∧ RJ1 ≠ "java/lang/invoke/VarHandle" ∧ (plainName RJ1 = plainName RJ1) := ⟨by decide +kernel, by decide +kernel, rfl⟩
theorem neRJ2 : RJ2 ≠ "java/lang/invoke/MethodHandle" ∧ RJ2 ≠ "java/lang/invoke/VarHandle" ∧ (plainName RJ2 = plainName RJ2) := ⟨by decide +kernel, by decide +kernel, rfl⟩
theorem neRJ10 : RJ10 ≠ "java/lang/invoke/MethodHandle" ∧ RJ10 ≠ "java/lang/invoke/VarHandle" ∧ (plainName RJ10 = plainName RJ10) := ⟨by decide +kernel, by decide +kernel, rfl⟩
theorem neRJ7 : RJ7 ≠ "java/lang/invoke/MethodHandle" ∧ RJ7 ≠ "java/lang/invoke/VarHandle" ∧ (plainName RJ7 = plainName RJ7) := ⟨by decide +kernel, by decide +kernel, rfl⟩
theorem neRJ3 : RJ3 ≠ "java/lang/invoke/MethodHandle" ∧ RJ3 ≠ "java/lang/invoke/VarHandle" ∧ (plainName RJ3 = plainName RJ3) := ⟨by decide +kernel, by decide +kernel, rfl⟩
theorem neRL : RL ≠ "java/lang/invoke/MethodHandle" ∧ RL ≠ "java/lang/invoke/VarHandle" ∧ (plainName RL = plainName RL) := ⟨by decide +kernel, by decide +kernel, rfl⟩
theorem bX0_init : Cb kX0_init 1 := ⟨q_t1 3 rfl rfl, q_t1 62 rfl rfl, ⟨neRX0.1, neRX0.2.1, by decide +kernel⟩, by decide +kernel⟩
theorem bX0_read : Cb kX0_read 1 := ⟨q_t1 3 rfl rfl, q_t2 32 rfl rfl, ⟨neRX0.1, neRX0.2.1, by decide +kernel⟩, by decide +kernel⟩
theorem bX0_expect : Cb kX0_expect 1 := ⟨q_t1 3 rfl rfl, q_t2 125 rfl rfl, ⟨neRX0.1, neRX0.2.1, by decide +kernel⟩, by decide +kernel⟩
theorem bX0_refuse : Cb kX0_refuse 0 := ⟨q_t1 3 rfl rfl, q_t2 129 rfl rfl, ⟨neRX0.1, neRX0.2.1, by decide +kernel⟩, by decide +kernel⟩
theorem bX0_side : Cb kX0_side 3 := ⟨q_t1 3 rfl rfl, q_t2 134 rfl rfl, ⟨neRX0.1, neRX0.2.1, by decide +kernel⟩, by decide +kernel⟩
theorem bX0_one : Cb kX0_one 2 := ⟨q_t1 3 rfl rfl, q_t2 139 rfl rfl, ⟨neRX0.1, neRX0.2.1, by decide +kernel⟩, by decide +kernel⟩
theorem bX0_rankOf : Cb kX0_rankOf 1 := ⟨q_t1 3 rfl rfl, q_t2 145 rfl rfl, ⟨neRX0.1, neRX0.2.1, by decide +kernel⟩, by decide +kernel⟩
theorem bX1_init : Cb kX1_init 0 := ⟨q_t1 7 rfl rfl, q_t1 153 rfl rfl, ⟨neRX1.1, neRX1.2.1, by decide +kernel⟩, by decide +kernel⟩
theorem bX1_become : Cb kX1_become 2 := ⟨q_t1 7 rfl rfl, q_t3 125 rfl rfl, ⟨neRX1.1, neRX1.2.1, by decide +kernel⟩, by decide +kernel⟩
theorem bX1_has : Cb kX1_has 1 := ⟨q_t1 7 rfl rfl, q_t3 170 rfl rfl, ⟨neRX1.1, neRX1.2.1, by decide +kernel⟩, by decide +kernel⟩
theorem bX1_hasRow : Cb kX1_hasRow 2 := ⟨q_t1 7 rfl rfl, q_t3 178 rfl rfl, ⟨neRX1.1, neRX1.2.1, by decide +kernel⟩, by decide +kernel⟩
theorem bX1_write : Cb kX1_write 2 := ⟨q_t1 7 rfl rfl, q_t3 130 rfl rfl, ⟨neRX1.1, neRX1.2.1, by decide +kernel⟩, by decide +kernel⟩
theorem bX2_init : Cb kX2_init 0 := ⟨q_t1 2 rfl rfl, q_t1 32 rfl rfl, ⟨neRX2.1, neRX2.2.1, by decide +kernel⟩, by decide +kernel⟩
theorem bX2_add : Cb kX2_add 1 := ⟨q_t1 2 rfl rfl, q_t2 24 rfl rfl, ⟨neRX2.1, neRX2.2.1, by decide +kernel⟩, by decide +kernel⟩
theorem bX2_rewind : Cb kX2_rewind 0 := ⟨q_t1 2 rfl rfl, q_t2 36 rfl rfl, ⟨neRX2.1, neRX2.2.1, by decide +kernel⟩, by decide +kernel⟩
theorem bX2_advance : Cb kX2_advance 0 := ⟨q_t1 2 rfl rfl, q_t2 40 rfl rfl, ⟨neRX2.1, neRX2.2.1, by decide +kernel⟩, by decide +kernel⟩
theorem bX2_readWord : Cb kX2_readWord 0 := ⟨q_t1 2 rfl rfl, q_t2 47 rfl rfl, ⟨neRX2.1, neRX2.2.1, by decide +kernel⟩, by decide +kernel⟩
theorem bX2_spells : Cb kX2_spells 1 := ⟨q_t1 2 rfl rfl, q_t2 52 rfl rfl, ⟨neRX2.1, neRX2.2.1, by decide +kernel⟩, by decide +kernel⟩
theorem bX2_readNumber : Cb kX2_readNumber 0 := ⟨q_t1 2 rfl rfl, q_t2 118 rfl rfl, ⟨neRX2.1, neRX2.2.1, by decide +kernel⟩, by decide +kernel⟩
theorem bX2_isLetter : Cb kX2_isLetter 1 := ⟨q_t1 2 rfl rfl, q_t2 43 rfl rfl, ⟨neRX2.1, neRX2.2.1, by decide +kernel⟩, by decide +kernel⟩
theorem bX2_isDigit : Cb kX2_isDigit 1 := ⟨q_t1 2 rfl rfl, q_t2 114 rfl rfl, ⟨neRX2.1, neRX2.2.1, by decide +kernel⟩, by decide +kernel⟩
theorem bX2_isSign : Cb kX2_isSign 1 := ⟨q_t1 2 rfl rfl, q_t2 121 rfl rfl, ⟨neRX2.1, neRX2.2.1, by decide +kernel⟩, by decide +kernel⟩
theorem bX3_init : Cb kX3_init 0 := ⟨q_t1 6 rfl rfl, q_t1 134 rfl rfl, ⟨neRX3.1, neRX3.2.1, by decide +kernel⟩, by decide +kernel⟩
theorem bX3_becomePlain : Cb kX3_becomePlain 3 := ⟨q_t1 6 rfl rfl, q_t1 171 rfl rfl, ⟨neRX3.1, neRX3.2.1, by decide +kernel⟩, by decide +kernel⟩
theorem bX3_add : Cb kX3_add 1 := ⟨q_t1 6 rfl rfl, q_t1 175 rfl rfl, ⟨neRX3.1, neRX3.2.1, by decide +kernel⟩, by decide +kernel⟩
theorem bX3_endPart : Cb kX3_endPart 1 := ⟨q_t1 6 rfl rfl, q_t1 179 rfl rfl, ⟨neRX3.1, neRX3.2.1, by decide +kernel⟩, by decide +kernel⟩
theorem bX3_worth : Cb kX3_worth 2 := ⟨q_t1 6 rfl rfl, q_t2 163 rfl rfl, ⟨neRX3.1, neRX3.2.1, by decide +kernel⟩, by decide +kernel⟩
theorem bX3_isName : Cb kX3_isName 1 := ⟨q_t1 6 rfl rfl, q_t2 142 rfl rfl, ⟨neRX3.1, neRX3.2.1, by decide +kernel⟩, by decide +kernel⟩
theorem bX3_joined : Cb kX3_joined 3 := ⟨q_t1 6 rfl rfl, q_t2 167 rfl rfl, ⟨neRX3.1, neRX3.2.1, by decide +kernel⟩, by decide +kernel⟩
theorem bX4_init : Cb kX4_init 1 := ⟨q_t1 4 rfl rfl, q_t1 75 rfl rfl, ⟨neRX4.1, neRX4.2.1, by decide +kernel⟩, by decide +kernel⟩
theorem bX4_become : Cb kX4_become 1 := ⟨q_t1 4 rfl rfl, q_t3 4 rfl rfl, ⟨neRX4.1, neRX4.2.1, by decide +kernel⟩, by decide +kernel⟩
theorem bX4_setClock : Cb kX4_setClock 1 := ⟨q_t1 4 rfl rfl, q_t1 238 rfl rfl, ⟨neRX4.1, neRX4.2.1, by decide +kernel⟩, by decide +kernel⟩
theorem bX4_welcome : Cb kX4_welcome 2 := ⟨q_t1 4 rfl rfl, q_t2 181 rfl rfl, ⟨neRX4.1, neRX4.2.1, by decide +kernel⟩, by decide +kernel⟩
theorem bX4_says : Cb kX4_says 2 := ⟨q_t1 4 rfl rfl, q_t2 159 rfl rfl, ⟨neRX4.1, neRX4.2.1, by decide +kernel⟩, by decide +kernel⟩
theorem bX4_wouldTry : Cb kX4_wouldTry 1 := ⟨q_t1 4 rfl rfl, q_t2 194 rfl rfl, ⟨neRX4.1, neRX4.2.1, by decide +kernel⟩, by decide +kernel⟩
theorem bX4_wouldPay : Cb kX4_wouldPay 1 := ⟨q_t1 4 rfl rfl, q_t2 199 rfl rfl, ⟨neRX4.1, neRX4.2.1, by decide +kernel⟩, by decide +kernel⟩
theorem bX4_wouldGo : Cb kX4_wouldGo 1 := ⟨q_t1 4 rfl rfl, q_t2 203 rfl rfl, ⟨neRX4.1, neRX4.2.1, by decide +kernel⟩, by decide +kernel⟩
theorem bX4_outcome : Cb kX4_outcome 2 := ⟨q_t1 4 rfl rfl, q_t2 207 rfl rfl, ⟨neRX4.1, neRX4.2.1, by decide +kernel⟩, by decide +kernel⟩
theorem bX4_attempt : Cb kX4_attempt 2 := ⟨q_t1 4 rfl rfl, q_t2 215 rfl rfl, ⟨neRX4.1, neRX4.2.1, by decide +kernel⟩, by decide +kernel⟩
theorem bX4_pass : Cb kX4_pass 0 := ⟨q_t1 4 rfl rfl, q_t2 229 rfl rfl, ⟨neRX4.1, neRX4.2.1, by decide +kernel⟩, by decide +kernel⟩
theorem bX4_isSo : Cb kX4_isSo 1 := ⟨q_t1 4 rfl rfl, q_t3 27 rfl rfl, ⟨neRX4.1, neRX4.2.1, by decide +kernel⟩, by decide +kernel⟩
theorem bX4_anyoneAlone : Cb kX4_anyoneAlone 0 := ⟨q_t1 4 rfl rfl, q_t3 32 rfl rfl, ⟨neRX4.1, neRX4.2.1, by decide +kernel⟩, by decide +kernel⟩
theorem bX4_peopleAt : Cb kX4_peopleAt 1 := ⟨q_t1 4 rfl rfl, q_t2 13 rfl rfl, ⟨neRX4.1, neRX4.2.1, by decide +kernel⟩, by decide +kernel⟩
theorem bX4_doorsWithFirst : Cb kX4_doorsWithFirst 0 := ⟨q_t1 4 rfl rfl, q_t3 15 rfl rfl, ⟨neRX4.1, neRX4.2.1, by decide +kernel⟩, by decide +kernel⟩
theorem bX4_doorsWithSecond : Cb kX4_doorsWithSecond 0 := ⟨q_t1 4 rfl rfl, q_t1 215 rfl rfl, ⟨neRX4.1, neRX4.2.1, by decide +kernel⟩, by decide +kernel⟩
theorem bX4_bitsOfTaken : Cb kX4_bitsOfTaken 1 := ⟨q_t1 4 rfl rfl, q_t1 218 rfl rfl, ⟨neRX4.1, neRX4.2.1, by decide +kernel⟩, by decide +kernel⟩
theorem bX4_allBehind : Cb kX4_allBehind 0 := ⟨q_t1 4 rfl rfl, q_t3 19 rfl rfl, ⟨neRX4.1, neRX4.2.1, by decide +kernel⟩, by decide +kernel⟩
theorem bX4_allEggs : Cb kX4_allEggs 0 := ⟨q_t1 4 rfl rfl, q_t3 70 rfl rfl, ⟨neRX4.1, neRX4.2.1, by decide +kernel⟩, by decide +kernel⟩
theorem bX5_init : Cb kX5_init 0 := ⟨q_t1 1 rfl rfl, q_t1 20 rfl rfl, ⟨neRX5.1, neRX5.2.1, by decide +kernel⟩, by decide +kernel⟩
theorem bX5_count : Cb kX5_count 1 := ⟨q_t1 1 rfl rfl, q_t1 211 rfl rfl, ⟨neRX5.1, neRX5.2.1, by decide +kernel⟩, by decide +kernel⟩
theorem bX5_town : Cb kX5_town 3 := ⟨q_t1 1 rfl rfl, q_t1 228 rfl rfl, ⟨neRX5.1, neRX5.2.1, by decide +kernel⟩, by decide +kernel⟩
theorem bX5_door : Cb kX5_door 2 := ⟨q_t1 1 rfl rfl, q_t2 9 rfl rfl, ⟨neRX5.1, neRX5.2.1, by decide +kernel⟩, by decide +kernel⟩
theorem bX5_feed : Cb kX5_feed 6 := ⟨q_t1 1 rfl rfl, q_t2 17 rfl rfl, ⟨neRX5.1, neRX5.2.1, by decide +kernel⟩, by decide +kernel⟩
theorem bX5_text : Cb kX5_text 0 := ⟨q_t1 1 rfl rfl, q_t2 28 rfl rfl, ⟨neRX5.1, neRX5.2.1, by decide +kernel⟩, by decide +kernel⟩
theorem bX5_force : Cb kX5_force 1 := ⟨q_t1 1 rfl rfl, q_t2 151 rfl rfl, ⟨neRX5.1, neRX5.2.1, by decide +kernel⟩, by decide +kernel⟩
theorem bX5_asks : Cb kX5_asks 2 := ⟨q_t1 1 rfl rfl, q_t2 155 rfl rfl, ⟨neRX5.1, neRX5.2.1, by decide +kernel⟩, by decide +kernel⟩
theorem bX5_citizen : Cb kX5_citizen 2 := ⟨q_t1 1 rfl rfl, q_t2 177 rfl rfl, ⟨neRX5.1, neRX5.2.1, by decide +kernel⟩, by decide +kernel⟩
theorem bX5_put : Cb kX5_put 3 := ⟨q_t1 1 rfl rfl, q_t2 186 rfl rfl, ⟨neRX5.1, neRX5.2.1, by decide +kernel⟩, by decide +kernel⟩
theorem bX5_told : Cb kX5_told 2 := ⟨q_t1 1 rfl rfl, q_t2 190 rfl rfl, ⟨neRX5.1, neRX5.2.1, by decide +kernel⟩, by decide +kernel⟩
theorem bX5_twist : Cb kX5_twist 1 := ⟨q_t1 1 rfl rfl, q_t2 211 rfl rfl, ⟨neRX5.1, neRX5.2.1, by decide +kernel⟩, by decide +kernel⟩
theorem bX5_give : Cb kX5_give 3 := ⟨q_t1 1 rfl rfl, q_t2 221 rfl rfl, ⟨neRX5.1, neRX5.2.1, by decide +kernel⟩, by decide +kernel⟩
theorem bX5_minute : Cb kX5_minute 0 := ⟨q_t1 1 rfl rfl, q_t2 225 rfl rfl, ⟨neRX5.1, neRX5.2.1, by decide +kernel⟩, by decide +kernel⟩
theorem bX5_run : Cb kX5_run 2 := ⟨q_t1 1 rfl rfl, q_t2 239 rfl rfl, ⟨neRX5.1, neRX5.2.1, by decide +kernel⟩, by decide +kernel⟩
theorem bX5_when : Cb kX5_when 1 := ⟨q_t1 1 rfl rfl, q_t3 23 rfl rfl, ⟨neRX5.1, neRX5.2.1, by decide +kernel⟩, by decide +kernel⟩
theorem bX5_waits : Cb kX5_waits 1 := ⟨q_t1 1 rfl rfl, q_t3 41 rfl rfl, ⟨neRX5.1, neRX5.2.1, by decide +kernel⟩, by decide +kernel⟩
theorem bX5_pair : Cb kX5_pair 1 := ⟨q_t1 1 rfl rfl, q_t3 46 rfl rfl, ⟨neRX5.1, neRX5.2.1, by decide +kernel⟩, by decide +kernel⟩
theorem bX5_eggsOfSecond : Cb kX5_eggsOfSecond 3 := ⟨q_t1 1 rfl rfl, q_t3 50 rfl rfl, ⟨neRX5.1, neRX5.2.1, by decide +kernel⟩, by decide +kernel⟩
theorem bX5_stand : Cb kX5_stand 3 := ⟨q_t1 1 rfl rfl, q_t3 54 rfl rfl, ⟨neRX5.1, neRX5.2.1, by decide +kernel⟩, by decide +kernel⟩
theorem bX5_rounds : Cb kX5_rounds 2 := ⟨q_t1 1 rfl rfl, q_t3 58 rfl rfl, ⟨neRX5.1, neRX5.2.1, by decide +kernel⟩, by decide +kernel⟩
theorem bX5_tries : Cb kX5_tries 1 := ⟨q_t1 1 rfl rfl, q_t3 62 rfl rfl, ⟨neRX5.1, neRX5.2.1, by decide +kernel⟩, by decide +kernel⟩
theorem bX5_share : Cb kX5_share 2 := ⟨q_t1 1 rfl rfl, q_t3 66 rfl rfl, ⟨neRX5.1, neRX5.2.1, by decide +kernel⟩, by decide +kernel⟩
theorem bX5_judge : Cb kX5_judge 2 := ⟨q_t1 1 rfl rfl, q_t3 78 rfl rfl, ⟨neRX5.1, neRX5.2.1, by decide +kernel⟩, by decide +kernel⟩
theorem bX5_kinds : Cb kX5_kinds 3 := ⟨q_t1 1 rfl rfl, q_t3 97 rfl rfl, ⟨neRX5.1, neRX5.2.1, by decide +kernel⟩, by decide +kernel⟩
theorem bX5_doors : Cb kX5_doors 2 := ⟨q_t1 1 rfl rfl, q_t3 101 rfl rfl, ⟨neRX5.1, neRX5.2.1, by decide +kernel⟩, by decide +kernel⟩
theorem bX5_baskets : Cb kX5_baskets 3 := ⟨q_t1 1 rfl rfl, q_t3 105 rfl rfl, ⟨neRX5.1, neRX5.2.1, by decide +kernel⟩, by decide +kernel⟩
theorem bX5_firsts : Cb kX5_firsts 3 := ⟨q_t1 1 rfl rfl, q_t3 109 rfl rfl, ⟨neRX5.1, neRX5.2.1, by decide +kernel⟩, by decide +kernel⟩
theorem bX5_whose : Cb kX5_whose 1 := ⟨q_t1 1 rfl rfl, q_t3 113 rfl rfl, ⟨neRX5.1, neRX5.2.1, by decide +kernel⟩, by decide +kernel⟩
theorem bX5_laws : Cb kX5_laws 2 := ⟨q_t1 1 rfl rfl, q_t3 117 rfl rfl, ⟨neRX5.1, neRX5.2.1, by decide +kernel⟩, by decide +kernel⟩
theorem bX5_film : Cb kX5_film 3 := ⟨q_t1 1 rfl rfl, q_t3 121 rfl rfl, ⟨neRX5.1, neRX5.2.1, by decide +kernel⟩, by decide +kernel⟩
theorem bX5_refusalOfSheet : Cb kX5_refusalOfSheet 1 := ⟨q_t1 1 rfl rfl, q_t3 86 rfl rfl, ⟨neRX5.1, neRX5.2.1, by decide +kernel⟩, by decide +kernel⟩
theorem bX5_refusalOfTold : Cb kX5_refusalOfTold 2 := ⟨q_t1 1 rfl rfl, q_t3 82 rfl rfl, ⟨neRX5.1, neRX5.2.1, by decide +kernel⟩, by decide +kernel⟩
theorem bX5_otherwise : Cb kX5_otherwise 2 := ⟨q_t1 1 rfl rfl, q_t3 93 rfl rfl, ⟨neRX5.1, neRX5.2.1, by decide +kernel⟩, by decide +kernel⟩
theorem bX5_drawn : Cb kX5_drawn 3 := ⟨q_t1 1 rfl rfl, q_t3 134 rfl rfl, ⟨neRX5.1, neRX5.2.1, by decide +kernel⟩, by decide +kernel⟩
theorem bX5_odds : Cb kX5_odds 4 := ⟨q_t1 1 rfl rfl, q_t3 150 rfl rfl, ⟨neRX5.1, neRX5.2.1, by decide +kernel⟩, by decide +kernel⟩
theorem bX5_image : Cb kX5_image 0 := ⟨q_t1 1 rfl rfl, q_t3 154 rfl rfl, ⟨neRX5.1, neRX5.2.1, by decide +kernel⟩, by decide +kernel⟩
theorem bX5_back : Cb kX5_back 0 := ⟨q_t1 1 rfl rfl, q_t3 158 rfl rfl, ⟨neRX5.1, neRX5.2.1, by decide +kernel⟩, by decide +kernel⟩
theorem bX5_thinkByLots : Cb kX5_thinkByLots 2 := ⟨q_t1 1 rfl rfl, q_t3 139 rfl rfl, ⟨neRX5.1, neRX5.2.1, by decide +kernel⟩, by decide +kernel⟩
theorem bX5_nextLot : Cb kX5_nextLot 1 := ⟨q_t1 1 rfl rfl, q_t3 142 rfl rfl, ⟨neRX5.1, neRX5.2.1, by decide +kernel⟩, by decide +kernel⟩
theorem bX5_sheet : Cb kX5_sheet 3 := ⟨q_t1 1 rfl rfl, q_t3 162 rfl rfl, ⟨neRX5.1, neRX5.2.1, by decide +kernel⟩, by decide +kernel⟩
theorem bX5_cell : Cb kX5_cell 3 := ⟨q_t1 1 rfl rfl, q_t3 166 rfl rfl, ⟨neRX5.1, neRX5.2.1, by decide +kernel⟩, by decide +kernel⟩
theorem bX5_copy : Cb kX5_copy 5 := ⟨q_t1 1 rfl rfl, q_t3 174 rfl rfl, ⟨neRX5.1, neRX5.2.1, by decide +kernel⟩, by decide +kernel⟩
theorem bX5_peopleBy : Cb kX5_peopleBy 4 := ⟨q_t1 1 rfl rfl, q_t3 183 rfl rfl, ⟨neRX5.1, neRX5.2.1, by decide +kernel⟩, by decide +kernel⟩
theorem bX5_taken : Cb kX5_taken 2 := ⟨q_t1 1 rfl rfl, q_t3 187 rfl rfl, ⟨neRX5.1, neRX5.2.1, by decide +kernel⟩, by decide +kernel⟩
theorem bX5_isOneOf : Cb kX5_isOneOf 2 := ⟨q_t1 1 rfl rfl, q_t3 190 rfl rfl, ⟨neRX5.1, neRX5.2.1, by decide +kernel⟩, by decide +kernel⟩
theorem bX5_passThought : Cb kX5_passThought 1 := ⟨q_t1 1 rfl rfl, q_t3 11 rfl rfl, ⟨neRX5.1, neRX5.2.1, by decide +kernel⟩, by decide +kernel⟩
theorem bX5_isPerson : Cb kX5_isPerson 1 := ⟨q_t1 1 rfl rfl, q_t2 5 rfl rfl, ⟨neRX5.1, neRX5.2.1, by decide +kernel⟩, by decide +kernel⟩
theorem bX5_isDoor : Cb kX5_isDoor 1 := ⟨q_t1 1 rfl rfl, q_t1 234 rfl rfl, ⟨neRX5.1, neRX5.2.1, by decide +kernel⟩, by decide +kernel⟩
theorem bX5_isSheet : Cb kX5_isSheet 1 := ⟨q_t1 1 rfl rfl, q_t3 89 rfl rfl, ⟨neRX5.1, neRX5.2.1, by decide +kernel⟩, by decide +kernel⟩
theorem bX5_isByte : Cb kX5_isByte 1 := ⟨q_t1 1 rfl rfl, q_t2 20 rfl rfl, ⟨neRX5.1, neRX5.2.1, by decide +kernel⟩, by decide +kernel⟩
theorem bX5_within : Cb kX5_within 3 := ⟨q_t1 1 rfl rfl, q_t1 231 rfl rfl, ⟨neRX5.1, neRX5.2.1, by decide +kernel⟩, by decide +kernel⟩
theorem bX5_hasBit : Cb kX5_hasBit 2 := ⟨q_t1 1 rfl rfl, q_t3 37 rfl rfl, ⟨neRX5.1, neRX5.2.1, by decide +kernel⟩, by decide +kernel⟩
theorem bX5_swapped : Cb kX5_swapped 3 := ⟨q_t1 1 rfl rfl, q_t2 1 rfl rfl, ⟨neRX5.1, neRX5.2.1, by decide +kernel⟩, by decide +kernel⟩
theorem bX5_lowest : Cb kX5_lowest 3 := ⟨q_t1 1 rfl rfl, q_t3 74 rfl rfl, ⟨neRX5.1, neRX5.2.1, by decide +kernel⟩, by decide +kernel⟩
theorem bX6_init : Cb kX6_init 0 := ⟨q_t1 8 rfl rfl, q_t3 195 rfl rfl, ⟨neRX6.1, neRX6.2.1, by decide +kernel⟩, by decide +kernel⟩
theorem bX6_in : Cb kX6_in 3 := ⟨q_t1 8 rfl rfl, q_t3 207 rfl rfl, ⟨neRX6.1, neRX6.2.1, by decide +kernel⟩, by decide +kernel⟩
theorem bX6_within : Cb kX6_within 3 := ⟨q_t1 8 rfl rfl, q_t4 164 rfl rfl, ⟨neRX6.1, neRX6.2.1, by decide +kernel⟩, by decide +kernel⟩
theorem bX6_isOne : Cb kX6_isOne 1 := ⟨q_t1 8 rfl rfl, q_t4 122 rfl rfl, ⟨neRX6.1, neRX6.2.1, by decide +kernel⟩, by decide +kernel⟩
theorem bX6_isDoor : Cb kX6_isDoor 1 := ⟨q_t1 8 rfl rfl, q_t4 118 rfl rfl, ⟨neRX6.1, neRX6.2.1, by decide +kernel⟩, by decide +kernel⟩
theorem bX6_having : Cb kX6_having 1 := ⟨q_t1 8 rfl rfl, q_t4 108 rfl rfl, ⟨neRX6.1, neRX6.2.1, by decide +kernel⟩, by decide +kernel⟩
theorem bX6_onesOf : Cb kX6_onesOf 1 := ⟨q_t1 8 rfl rfl, q_t4 111 rfl rfl, ⟨neRX6.1, neRX6.2.1, by decide +kernel⟩, by decide +kernel⟩
theorem bX6_count : Cb kX6_count 1 := ⟨q_t1 8 rfl rfl, q_t4 104 rfl rfl, ⟨neRX6.1, neRX6.2.1, by decide +kernel⟩, by decide +kernel⟩
theorem bX6_town : Cb kX6_town 3 := ⟨q_t1 8 rfl rfl, q_t4 115 rfl rfl, ⟨neRX6.1, neRX6.2.1, by decide +kernel⟩, by decide +kernel⟩
theorem bX6_whoAt : Cb kX6_whoAt 1 := ⟨q_t1 8 rfl rfl, q_t4 130 rfl rfl, ⟨neRX6.1, neRX6.2.1, by decide +kernel⟩, by decide +kernel⟩
theorem bX6_door : Cb kX6_door 2 := ⟨q_t1 8 rfl rfl, q_t4 126 rfl rfl, ⟨neRX6.1, neRX6.2.1, by decide +kernel⟩, by decide +kernel⟩
theorem bX6_isByte : Cb kX6_isByte 1 := ⟨q_t1 8 rfl rfl, q_t4 137 rfl rfl, ⟨neRX6.1, neRX6.2.1, by decide +kernel⟩, by decide +kernel⟩
theorem bX6_feed : Cb kX6_feed 6 := ⟨q_t1 8 rfl rfl, q_t4 134 rfl rfl, ⟨neRX6.1, neRX6.2.1, by decide +kernel⟩, by decide +kernel⟩
theorem bX6_wordFrom : Cb kX6_wordFrom 2 := ⟨q_t1 8 rfl rfl, q_t3 211 rfl rfl, ⟨neRX6.1, neRX6.2.1, by decide +kernel⟩, by decide +kernel⟩
theorem bX6_next : Cb kX6_next 0 := ⟨q_t1 8 rfl rfl, q_t3 204 rfl rfl, ⟨neRX6.1, neRX6.2.1, by decide +kernel⟩, by decide +kernel⟩
theorem bX6_rank : Cb kX6_rank 1 := ⟨q_t1 8 rfl rfl, q_t3 227 rfl rfl, ⟨neRX6.1, neRX6.2.1, by decide +kernel⟩, by decide +kernel⟩
theorem bX6_puts : Cb kX6_puts 1 := ⟨q_t1 8 rfl rfl, q_t3 220 rfl rfl, ⟨neRX6.1, neRX6.2.1, by decide +kernel⟩, by decide +kernel⟩
theorem bX6_unwinds : Cb kX6_unwinds 1 := ⟨q_t1 8 rfl rfl, q_t3 224 rfl rfl, ⟨neRX6.1, neRX6.2.1, by decide +kernel⟩, by decide +kernel⟩
theorem bX6_holds : Cb kX6_holds 1 := ⟨q_t1 8 rfl rfl, q_t3 235 rfl rfl, ⟨neRX6.1, neRX6.2.1, by decide +kernel⟩, by decide +kernel⟩
theorem bX6_opensOne : Cb kX6_opensOne 1 := ⟨q_t1 8 rfl rfl, q_t3 231 rfl rfl, ⟨neRX6.1, neRX6.2.1, by decide +kernel⟩, by decide +kernel⟩
theorem bX6_between : Cb kX6_between 1 := ⟨q_t1 8 rfl rfl, q_t4 3 rfl rfl, ⟨neRX6.1, neRX6.2.1, by decide +kernel⟩, by decide +kernel⟩
theorem bX6_signOf : Cb kX6_signOf 0 := ⟨q_t1 8 rfl rfl, q_t3 239 rfl rfl, ⟨neRX6.1, neRX6.2.1, by decide +kernel⟩, by decide +kernel⟩
theorem bX6_eRead : Cb kX6_eRead 0 := ⟨q_t1 8 rfl rfl, q_t3 215 rfl rfl, ⟨neRX6.1, neRX6.2.1, by decide +kernel⟩, by decide +kernel⟩
theorem bX6_text : Cb kX6_text 0 := ⟨q_t1 8 rfl rfl, q_t3 200 rfl rfl, ⟨neRX6.1, neRX6.2.1, by decide +kernel⟩, by decide +kernel⟩
theorem bX6_two : Cb kX6_two 3 := ⟨q_t1 8 rfl rfl, q_t4 161 rfl rfl, ⟨neRX6.1, neRX6.2.1, by decide +kernel⟩, by decide +kernel⟩
theorem bX6_says : Cb kX6_says 1 := ⟨q_t1 8 rfl rfl, q_t4 158 rfl rfl, ⟨neRX6.1, neRX6.2.1, by decide +kernel⟩, by decide +kernel⟩
theorem bX6_force : Cb kX6_force 1 := ⟨q_t1 8 rfl rfl, q_t4 142 rfl rfl, ⟨neRX6.1, neRX6.2.1, by decide +kernel⟩, by decide +kernel⟩
theorem bX6_hasFirst : Cb kX6_hasFirst 1 := ⟨q_t1 8 rfl rfl, q_t4 154 rfl rfl, ⟨neRX6.1, neRX6.2.1, by decide +kernel⟩, by decide +kernel⟩
theorem bX6_asksOf : Cb kX6_asksOf 2 := ⟨q_t1 8 rfl rfl, q_t4 150 rfl rfl, ⟨neRX6.1, neRX6.2.1, by decide +kernel⟩, by decide +kernel⟩
theorem bX6_asks : Cb kX6_asks 2 := ⟨q_t1 8 rfl rfl, q_t4 146 rfl rfl, ⟨neRX6.1, neRX6.2.1, by decide +kernel⟩, by decide +kernel⟩
theorem bX6_citizen : Cb kX6_citizen 2 := ⟨q_t1 8 rfl rfl, q_t4 168 rfl rfl, ⟨neRX6.1, neRX6.2.1, by decide +kernel⟩, by decide +kernel⟩
theorem bX6_put : Cb kX6_put 3 := ⟨q_t1 8 rfl rfl, q_t4 172 rfl rfl, ⟨neRX6.1, neRX6.2.1, by decide +kernel⟩, by decide +kernel⟩
theorem bX6_doesTry : Cb kX6_doesTry 1 := ⟨q_t1 8 rfl rfl, q_t4 180 rfl rfl, ⟨neRX6.1, neRX6.2.1, by decide +kernel⟩, by decide +kernel⟩
theorem bX6_paysOf : Cb kX6_paysOf 1 := ⟨q_t1 8 rfl rfl, q_t4 184 rfl rfl, ⟨neRX6.1, neRX6.2.1, by decide +kernel⟩, by decide +kernel⟩
theorem bX6_goesOf : Cb kX6_goesOf 1 := ⟨q_t1 8 rfl rfl, q_t4 188 rfl rfl, ⟨neRX6.1, neRX6.2.1, by decide +kernel⟩, by decide +kernel⟩
theorem bX6_signOf_ : Cb kX6_signOf_ 1 := ⟨q_t1 8 rfl rfl, q_t4 191 rfl rfl, ⟨neRX6.1, neRX6.2.1, by decide +kernel⟩, by decide +kernel⟩
theorem bX6_tryNow : Cb kX6_tryNow 1 := ⟨q_t1 8 rfl rfl, q_t4 195 rfl rfl, ⟨neRX6.1, neRX6.2.1, by decide +kernel⟩, by decide +kernel⟩
theorem bX6_told : Cb kX6_told 2 := ⟨q_t1 8 rfl rfl, q_t4 176 rfl rfl, ⟨neRX6.1, neRX6.2.1, by decide +kernel⟩, by decide +kernel⟩
theorem bX6_tryOf : Cb kX6_tryOf 2 := ⟨q_t1 8 rfl rfl, q_t4 203 rfl rfl, ⟨neRX6.1, neRX6.2.1, by decide +kernel⟩, by decide +kernel⟩
theorem bX6_twist : Cb kX6_twist 1 := ⟨q_t1 8 rfl rfl, q_t4 199 rfl rfl, ⟨neRX6.1, neRX6.2.1, by decide +kernel⟩, by decide +kernel⟩
theorem bX6_give : Cb kX6_give 3 := ⟨q_t1 8 rfl rfl, q_t4 207 rfl rfl, ⟨neRX6.1, neRX6.2.1, by decide +kernel⟩, by decide +kernel⟩
theorem bX6_minuteOf : Cb kX6_minuteOf 0 := ⟨q_t1 8 rfl rfl, q_t4 215 rfl rfl, ⟨neRX6.1, neRX6.2.1, by decide +kernel⟩, by decide +kernel⟩
theorem bX6_minute : Cb kX6_minute 0 := ⟨q_t1 8 rfl rfl, q_t4 211 rfl rfl, ⟨neRX6.1, neRX6.2.1, by decide +kernel⟩, by decide +kernel⟩
theorem bX6_behindAll : Cb kX6_behindAll 0 := ⟨q_t1 8 rfl rfl, q_t4 231 rfl rfl, ⟨neRX6.1, neRX6.2.1, by decide +kernel⟩, by decide +kernel⟩
theorem bX6_keeps : Cb kX6_keeps 0 := ⟨q_t1 8 rfl rfl, q_t4 223 rfl rfl, ⟨neRX6.1, neRX6.2.1, by decide +kernel⟩, by decide +kernel⟩
theorem bX6_lays : Cb kX6_lays 0 := ⟨q_t1 8 rfl rfl, q_t4 235 rfl rfl, ⟨neRX6.1, neRX6.2.1, by decide +kernel⟩, by decide +kernel⟩
theorem bX6_goes : Cb kX6_goes 1 := ⟨q_t1 8 rfl rfl, q_t4 227 rfl rfl, ⟨neRX6.1, neRX6.2.1, by decide +kernel⟩, by decide +kernel⟩
theorem bX6_run : Cb kX6_run 2 := ⟨q_t1 8 rfl rfl, q_t4 219 rfl rfl, ⟨neRX6.1, neRX6.2.1, by decide +kernel⟩, by decide +kernel⟩
theorem bX6_isAnyAlone : Cb kX6_isAnyAlone 0 := ⟨q_t1 8 rfl rfl, q_t5 3 rfl rfl, ⟨neRX6.1, neRX6.2.1, by decide +kernel⟩, by decide +kernel⟩
theorem bX6_when : Cb kX6_when 1 := ⟨q_t1 8 rfl rfl, q_t4 239 rfl rfl, ⟨neRX6.1, neRX6.2.1, by decide +kernel⟩, by decide +kernel⟩
theorem bX6_waits : Cb kX6_waits 1 := ⟨q_t1 8 rfl rfl, q_t5 7 rfl rfl, ⟨neRX6.1, neRX6.2.1, by decide +kernel⟩, by decide +kernel⟩
theorem bX6_pair : Cb kX6_pair 1 := ⟨q_t1 8 rfl rfl, q_t5 11 rfl rfl, ⟨neRX6.1, neRX6.2.1, by decide +kernel⟩, by decide +kernel⟩
theorem bX6_stand : Cb kX6_stand 3 := ⟨q_t1 8 rfl rfl, q_t5 15 rfl rfl, ⟨neRX6.1, neRX6.2.1, by decide +kernel⟩, by decide +kernel⟩
theorem bX6_rounds : Cb kX6_rounds 2 := ⟨q_t1 8 rfl rfl, q_t5 19 rfl rfl, ⟨neRX6.1, neRX6.2.1, by decide +kernel⟩, by decide +kernel⟩
theorem bX6_tries : Cb kX6_tries 1 := ⟨q_t1 8 rfl rfl, q_t5 23 rfl rfl, ⟨neRX6.1, neRX6.2.1, by decide +kernel⟩, by decide +kernel⟩
theorem bX6_lowest : Cb kX6_lowest 3 := ⟨q_t1 8 rfl rfl, q_t5 30 rfl rfl, ⟨neRX6.1, neRX6.2.1, by decide +kernel⟩, by decide +kernel⟩
theorem bX6_share : Cb kX6_share 2 := ⟨q_t1 8 rfl rfl, q_t5 27 rfl rfl, ⟨neRX6.1, neRX6.2.1, by decide +kernel⟩, by decide +kernel⟩
theorem bX6_sheetWrong : Cb kX6_sheetWrong 1 := ⟨q_t1 8 rfl rfl, q_t5 43 rfl rfl, ⟨neRX6.1, neRX6.2.1, by decide +kernel⟩, by decide +kernel⟩
theorem bX6_toldWrong : Cb kX6_toldWrong 2 := ⟨q_t1 8 rfl rfl, q_t5 39 rfl rfl, ⟨neRX6.1, neRX6.2.1, by decide +kernel⟩, by decide +kernel⟩
theorem bX6_unlike : Cb kX6_unlike 2 := ⟨q_t1 8 rfl rfl, q_t5 47 rfl rfl, ⟨neRX6.1, neRX6.2.1, by decide +kernel⟩, by decide +kernel⟩
theorem bX6_judge : Cb kX6_judge 2 := ⟨q_t1 8 rfl rfl, q_t5 35 rfl rfl, ⟨neRX6.1, neRX6.2.1, by decide +kernel⟩, by decide +kernel⟩
theorem bX6_kinds : Cb kX6_kinds 3 := ⟨q_t1 8 rfl rfl, q_t5 51 rfl rfl, ⟨neRX6.1, neRX6.2.1, by decide +kernel⟩, by decide +kernel⟩
theorem bX6_doors : Cb kX6_doors 2 := ⟨q_t1 8 rfl rfl, q_t5 55 rfl rfl, ⟨neRX6.1, neRX6.2.1, by decide +kernel⟩, by decide +kernel⟩
theorem bX6_baskets : Cb kX6_baskets 3 := ⟨q_t1 8 rfl rfl, q_t5 59 rfl rfl, ⟨neRX6.1, neRX6.2.1, by decide +kernel⟩, by decide +kernel⟩
theorem bX6_firsts : Cb kX6_firsts 3 := ⟨q_t1 8 rfl rfl, q_t5 63 rfl rfl, ⟨neRX6.1, neRX6.2.1, by decide +kernel⟩, by decide +kernel⟩
theorem bX6_whose : Cb kX6_whose 1 := ⟨q_t1 8 rfl rfl, q_t5 67 rfl rfl, ⟨neRX6.1, neRX6.2.1, by decide +kernel⟩, by decide +kernel⟩
theorem bX6_laws : Cb kX6_laws 2 := ⟨q_t1 8 rfl rfl, q_t5 71 rfl rfl, ⟨neRX6.1, neRX6.2.1, by decide +kernel⟩, by decide +kernel⟩
theorem bX6_film : Cb kX6_film 3 := ⟨q_t1 8 rfl rfl, q_t5 75 rfl rfl, ⟨neRX6.1, neRX6.2.1, by decide +kernel⟩, by decide +kernel⟩
theorem bX6_lotDay : Cb kX6_lotDay 2 := ⟨q_t1 8 rfl rfl, q_t5 84 rfl rfl, ⟨neRX6.1, neRX6.2.1, by decide +kernel⟩, by decide +kernel⟩
theorem bX6_drawn : Cb kX6_drawn 3 := ⟨q_t1 8 rfl rfl, q_t5 79 rfl rfl, ⟨neRX6.1, neRX6.2.1, by decide +kernel⟩, by decide +kernel⟩
theorem bX6_odds : Cb kX6_odds 4 := ⟨q_t1 8 rfl rfl, q_t5 92 rfl rfl, ⟨neRX6.1, neRX6.2.1, by decide +kernel⟩, by decide +kernel⟩
theorem bX6_image : Cb kX6_image 0 := ⟨q_t1 8 rfl rfl, q_t5 96 rfl rfl, ⟨neRX6.1, neRX6.2.1, by decide +kernel⟩, by decide +kernel⟩
theorem bX6_back : Cb kX6_back 0 := ⟨q_t1 8 rfl rfl, q_t5 100 rfl rfl, ⟨neRX6.1, neRX6.2.1, by decide +kernel⟩, by decide +kernel⟩
theorem bX6_sheet : Cb kX6_sheet 3 := ⟨q_t1 8 rfl rfl, q_t5 104 rfl rfl, ⟨neRX6.1, neRX6.2.1, by decide +kernel⟩, by decide +kernel⟩
theorem bX6_cell : Cb kX6_cell 3 := ⟨q_t1 8 rfl rfl, q_t5 108 rfl rfl, ⟨neRX6.1, neRX6.2.1, by decide +kernel⟩, by decide +kernel⟩
theorem bX6_copy : Cb kX6_copy 5 := ⟨q_t1 8 rfl rfl, q_t5 112 rfl rfl, ⟨neRX6.1, neRX6.2.1, by decide +kernel⟩, by decide +kernel⟩
theorem bX6_peopleBy : Cb kX6_peopleBy 4 := ⟨q_t1 8 rfl rfl, q_t5 116 rfl rfl, ⟨neRX6.1, neRX6.2.1, by decide +kernel⟩, by decide +kernel⟩
theorem bX6_isUnder : Cb kX6_isUnder 2 := ⟨q_t1 8 rfl rfl, q_t5 124 rfl rfl, ⟨neRX6.1, neRX6.2.1, by decide +kernel⟩, by decide +kernel⟩
theorem bX6_taken : Cb kX6_taken 2 := ⟨q_t1 8 rfl rfl, q_t5 121 rfl rfl, ⟨neRX6.1, neRX6.2.1, by decide +kernel⟩, by decide +kernel⟩
theorem bJ6_bitCount_0f7a4 : Cb kJ6_bitCount_0f7a4 1 := ⟨q_t1 9 rfl rfl, q_t1 221 rfl rfl, ⟨neRJ6.1, neRJ6.2.1, by decide +kernel⟩, by decide +kernel⟩
theorem bJ9_floorMod_7cf53 : Cb kJ9_floorMod_7cf53 2 := ⟨q_t1 14 rfl rfl, q_t2 235 rfl rfl, ⟨neRJ9.1, neRJ9.2.1, by decide +kernel⟩, by decide +kernel⟩
theorem bJ9_max_7cf53 : Cb kJ9_max_7cf53 2 := ⟨q_t1 14 rfl rfl, q_t2 173 rfl rfl, ⟨neRJ9.1, neRJ9.2.1, by decide +kernel⟩, by decide +kernel⟩
theorem bJ9_min_7cf53 : Cb kJ9_min_7cf53 2 := ⟨q_t1 14 rfl rfl, q_t2 170 rfl rfl, ⟨neRJ9.1, neRJ9.2.1, by decide +kernel⟩, by decide +kernel⟩
theorem bJ0_length_8abf5 : Cb kJ0_length_8abf5 0 := ⟨q_t1 10 rfl rfl, q_t2 56 rfl rfl, ⟨neRJ0.1, neRJ0.2.1, by decide +kernel⟩, by decide +kernel⟩
theorem bJ0_charAt_5068e : Cb kJ0_charAt_5068e 1 := ⟨q_t1 10 rfl rfl, q_t2 66 rfl rfl, ⟨neRJ0.1, neRJ0.2.1, by decide +kernel⟩, by decide +kernel⟩
theorem bJ0_coder_7d493 : Cb kJ0_coder_7d493 0 := ⟨q_t1 10 rfl rfl, q_t2 60 rfl rfl, ⟨neRJ0.1, neRJ0.2.1, by decide +kernel⟩, by decide +kernel⟩
theorem bJ0_isLatin1_aae02 : Cb kJ0_isLatin1_aae02 0 := ⟨q_t1 10 rfl rfl, q_t2 70 rfl rfl, ⟨neRJ0.1, neRJ0.2.1, by decide +kernel⟩, by decide +kernel⟩
theorem bJ0_checkIndex_df160 : Cb kJ0_checkIndex_df160 2 := ⟨q_t1 10 rfl rfl, q_t2 76 rfl rfl, ⟨neRJ0.1, neRJ0.2.1, by decide +kernel⟩, by decide +kernel⟩
theorem bJ1_charAt_3b067 : Cb kJ1_charAt_3b067 2 := ⟨q_t1 11 rfl rfl, q_t2 73 rfl rfl, ⟨neRJ1.1, neRJ1.2.1, by decide +kernel⟩, by decide +kernel⟩
theorem bJ2_getChar_3b067 : Cb kJ2_getChar_3b067 2 := ⟨q_t1 13 rfl rfl, q_t2 94 rfl rfl, ⟨neRJ2.1, neRJ2.2.1, by decide +kernel⟩, by decide +kernel⟩
theorem bJ2_length_9d52b : Cb kJ2_length_9d52b 1 := ⟨q_t1 13 rfl rfl, q_t2 90 rfl rfl, ⟨neRJ2.1, neRJ2.2.1, by decide +kernel⟩, by decide +kernel⟩
theorem bJ2_charAt_3b067 : Cb kJ2_charAt_3b067 2 := ⟨q_t1 13 rfl rfl, q_t2 84 rfl rfl, ⟨neRJ2.1, neRJ2.2.1, by decide +kernel⟩, by decide +kernel⟩
theorem bJ2_checkIndex_2214a : Cb kJ2_checkIndex_2214a 2 := ⟨q_t1 13 rfl rfl, q_t2 87 rfl rfl, ⟨neRJ2.1, neRJ2.2.1, by decide +kernel⟩, by decide +kernel⟩
theorem bJ7_fill_53178 : Cb kJ7_fill_53178 2 := ⟨q_t1 5 rfl rfl, q_t1 79 rfl rfl, ⟨neRJ7.1, neRJ7.2.1, by decide +kernel⟩, by decide +kernel⟩
theorem bJ3_checkIndex_8e157 : Cb kJ3_checkIndex_8e157 3 := ⟨q_t1 12 rfl rfl, q_t2 81 rfl rfl, ⟨neRJ3.1, neRJ3.2.1, by decide +kernel⟩, by decide +kernel⟩
theorem sX4_53 : Cs RX4 53 kJ7_fill_53178 2 := ⟨bJ7_fill_53178, q_t1 77 rfl rfl, q_t1 78 rfl rfl⟩
theorem vX5_62 : Cv RX5 62 kX3_becomePlain 3 3 := ⟨bX3_becomePlain, q_t1 168 rfl rfl, q_t1 169 rfl rfl, q_t1 170 rfl rfl, TX3, 4, rfl⟩
theorem vX3_25 : Cv RX3 25 kX3_add 1 3 := ⟨bX3_add, q_t1 172 rfl rfl, q_t1 173 rfl rfl, q_t1 174 rfl rfl, TX3, 4, rfl⟩
theorem vX3_29 : Cv RX3 29 kX3_endPart 1 3 := ⟨bX3_endPart, q_t1 176 rfl rfl, q_t1 177 rfl rfl, q_t1 178 rfl rfl, TX3, 4, rfl⟩
theorem vL_13 : Cv RL 13 kX5_count 1 5 := ⟨bX5_count, q_t1 208 rfl rfl, q_t1 209 rfl rfl, q_t1 210 rfl rfl, TX5, 9, rfl⟩
theorem vX5_72 : Cv RX5 72 kX4_doorsWithSecond 0 4 := ⟨bX4_doorsWithSecond, q_t1 212 rfl rfl, q_t1 213 rfl rfl, q_t1 214 rfl rfl, TX4, 13, rfl⟩
theorem sX4_127 : Cs RX4 127 kX4_bitsOfTaken 1 := ⟨bX4_bitsOfTaken, q_t1 216 rfl rfl, q_t1 217 rfl rfl⟩
theorem sX5_76 : Cs RX5 76 kJ6_bitCount_0f7a4 1 := ⟨bJ6_bitCount_0f7a4, q_t1 219 rfl rfl, q_t1 220 rfl rfl⟩
theorem vL_18 : Cv RL 18 kX5_town 3 5 := ⟨bX5_town, q_t1 225 rfl rfl, q_t1 226 rfl rfl, q_t1 227 rfl rfl, TX5, 9, rfl⟩
theorem sX5_88 : Cs RX5 88 kX5_within 3 := ⟨bX5_within, q_t1 229 rfl rfl, q_t1 230 rfl rfl⟩
theorem sX5_92 : Cs RX5 92 kX5_isDoor 1 := ⟨bX5_isDoor, q_t1 232 rfl rfl, q_t1 233 rfl rfl⟩
theorem vX5_96 : Cv RX5 96 kX4_setClock 1 4 := ⟨bX4_setClock, q_t1 235 rfl rfl, q_t1 236 rfl rfl, q_t1 237 rfl rfl, TX4, 13, rfl⟩
theorem sX5_103 : Cs RX5 103 kX5_swapped 3 := ⟨bX5_swapped, q_t1 239 rfl rfl, q_t2 0 rfl rfl⟩
theorem vX5_107 : Cv RX5 107 kX5_isPerson 1 5 := ⟨bX5_isPerson, q_t2 2 rfl rfl, q_t2 4 rfl rfl, q_in2 0 rfl rfl, TX5, 9, rfl⟩
theorem vL_23 : Cv RL 23 kX5_door 2 5 := ⟨bX5_door, q_t2 6 rfl rfl, q_t2 7 rfl rfl, q_t2 8 rfl rfl, TX5, 9, rfl⟩
theorem vX5_116 : Cv RX5 116 kX4_peopleAt 1 4 := ⟨bX4_peopleAt, q_t2 10 rfl rfl, q_t2 11 rfl rfl, q_t2 12 rfl rfl, TX4, 13, rfl⟩
theorem vL_28 : Cv RL 28 kX5_feed 6 5 := ⟨bX5_feed, q_t2 14 rfl rfl, q_t2 15 rfl rfl, q_t2 16 rfl rfl, TX5, 9, rfl⟩
theorem sX5_119 : Cs RX5 119 kX5_isByte 1 := ⟨bX5_isByte, q_t2 18 rfl rfl, q_t2 19 rfl rfl⟩
theorem vX5_122 : Cv RX5 122 kX2_add 1 2 := ⟨bX2_add, q_t2 21 rfl rfl, q_t2 22 rfl rfl, q_t2 23 rfl rfl, TX2, 6, rfl⟩
theorem vL_33 : Cv RL 33 kX5_text 0 5 := ⟨bX5_text, q_t2 25 rfl rfl, q_t2 26 rfl rfl, q_t2 27 rfl rfl, TX5, 9, rfl⟩
theorem vX5_126 : Cv RX5 126 kX0_read 1 0 := ⟨bX0_read, q_t2 29 rfl rfl, q_t2 30 rfl rfl, q_t2 31 rfl rfl, TX0, 2, rfl⟩
theorem vX0_24 : Cv RX0 24 kX2_rewind 0 2 := ⟨bX2_rewind, q_t2 33 rfl rfl, q_t2 34 rfl rfl, q_t2 35 rfl rfl, TX2, 6, rfl⟩
theorem vX2_31 : Cv RX2 31 kX2_advance 0 2 := ⟨bX2_advance, q_t2 37 rfl rfl, q_t2 38 rfl rfl, q_t2 39 rfl rfl, TX2, 6, rfl⟩
theorem sX2_34 : Cs RX2 34 kX2_isLetter 1 := ⟨bX2_isLetter, q_t2 41 rfl rfl, q_t2 42 rfl rfl⟩
theorem vX2_38 : Cv RX2 38 kX2_readWord 0 2 := ⟨bX2_readWord, q_t2 44 rfl rfl, q_t2 46 rfl rfl, q_in2 1 rfl rfl, TX2, 6, rfl⟩
theorem vX2_52 : Cv RX2 52 kX2_spells 1 2 := ⟨bX2_spells, q_t2 49 rfl rfl, q_t2 51 rfl rfl, q_in2 2 rfl rfl, TX2, 6, rfl⟩
theorem sJ0_495 : Cs RJ0 495 kJ1_charAt_3b067 2 := ⟨bJ1_charAt_3b067, q_t2 71 rfl rfl, q_t2 72 rfl rfl⟩
theorem sJ1_9 : Cs RJ1 9 kJ0_checkIndex_df160 2 := ⟨bJ0_checkIndex_df160, q_t2 74 rfl rfl, q_t2 75 rfl rfl⟩
theorem sJ0_1059 : Cs RJ0 1059 kJ3_checkIndex_8e157 3 := ⟨bJ3_checkIndex_8e157, q_t2 79 rfl rfl, q_t2 80 rfl rfl⟩
theorem sJ0_498 : Cs RJ0 498 kJ2_charAt_3b067 2 := ⟨bJ2_charAt_3b067, q_t2 82 rfl rfl, q_t2 83 rfl rfl⟩
theorem sJ2_67 : Cs RJ2 67 kJ2_checkIndex_2214a 2 := ⟨bJ2_checkIndex_2214a, q_t2 85 rfl rfl, q_t2 86 rfl rfl⟩
theorem sJ2_48 : Cs RJ2 48 kJ2_length_9d52b 1 := ⟨bJ2_length_9d52b, q_t2 88 rfl rfl, q_t2 89 rfl rfl⟩
theorem sJ2_414 : Cs RJ2 414 kJ0_checkIndex_df160 2 := ⟨bJ0_checkIndex_df160, q_t2 91 rfl rfl, q_t2 75 rfl rfl⟩
theorem sJ2_71 : Cs RJ2 71 kJ2_getChar_3b067 2 := ⟨bJ2_getChar_3b067, q_t2 92 rfl rfl, q_t2 93 rfl rfl⟩
theorem sX2_41 : Cs RX2 41 kX2_isDigit 1 := ⟨bX2_isDigit, q_t2 112 rfl rfl, q_t2 113 rfl rfl⟩
theorem vX2_44 : Cv RX2 44 kX2_readNumber 0 2 := ⟨bX2_readNumber, q_t2 115 rfl rfl, q_t2 117 rfl rfl, q_in2 3 rfl rfl, TX2, 6, rfl⟩
theorem sX2_47 : Cs RX2 47 kX2_isSign 1 := ⟨bX2_isSign, q_t2 119 rfl rfl, q_t2 120 rfl rfl⟩
theorem vX0_29 : Cv RX0 29 kX0_expect 1 0 := ⟨bX0_expect, q_t2 122 rfl rfl, q_t2 124 rfl rfl, q_in2 4 rfl rfl, TX0, 2, rfl⟩
theorem vX0_43 : Cv RX0 43 kX0_refuse 0 0 := ⟨bX0_refuse, q_t2 126 rfl rfl, q_t2 128 rfl rfl, q_in2 5 rfl rfl, TX0, 2, rfl⟩
theorem vX0_46 : Cv RX0 46 kX2_advance 0 2 := ⟨bX2_advance, q_t2 130 rfl rfl, q_t2 38 rfl rfl, q_t2 39 rfl rfl, TX2, 6, rfl⟩
theorem vX0_33 : Cv RX0 33 kX0_side 3 0 := ⟨bX0_side, q_t2 131 rfl rfl, q_t2 133 rfl rfl, q_in2 6 rfl rfl, TX0, 2, rfl⟩
theorem vX0_52 : Cv RX0 52 kX3_add 1 3 := ⟨bX3_add, q_t2 135 rfl rfl, q_t1 173 rfl rfl, q_t1 174 rfl rfl, TX3, 4, rfl⟩
theorem vX0_55 : Cv RX0 55 kX0_one 2 0 := ⟨bX0_one, q_t2 136 rfl rfl, q_t2 138 rfl rfl, q_in2 7 rfl rfl, TX0, 2, rfl⟩
theorem nX0_66 : Cn RX0 66 kX3_isName 1 := ⟨bX3_isName, ⟨"KeysForSecond", List.mem_of_getElem? (i := 0) rfl⟩, q_t2 141 rfl rfl⟩
theorem sX0_59 : Cs RX0 59 kX0_rankOf 1 := ⟨bX0_rankOf, q_t2 143 rfl rfl, q_t2 144 rfl rfl⟩
theorem vX0_37 : Cv RX0 37 kX3_endPart 1 3 := ⟨bX3_endPart, q_t2 146 rfl rfl, q_t1 177 rfl rfl, q_t1 178 rfl rfl, TX3, 4, rfl⟩
theorem vL_38 : Cv RL 38 kX5_force 1 5 := ⟨bX5_force, q_t2 148 rfl rfl, q_t2 149 rfl rfl, q_t2 150 rfl rfl, TX5, 9, rfl⟩
theorem vL_42 : Cv RL 42 kX5_asks 2 5 := ⟨bX5_asks, q_t2 152 rfl rfl, q_t2 153 rfl rfl, q_t2 154 rfl rfl, TX5, 9, rfl⟩
theorem vX5_130 : Cv RX5 130 kX4_says 2 4 := ⟨bX4_says, q_t2 156 rfl rfl, q_t2 157 rfl rfl, q_t2 158 rfl rfl, TX4, 13, rfl⟩
theorem vX4_69 : Cv RX4 69 kX3_worth 2 3 := ⟨bX3_worth, q_t2 160 rfl rfl, q_t2 161 rfl rfl, q_t2 162 rfl rfl, TX3, 4, rfl⟩
theorem sX3_32 : Cs RX3 32 kX3_isName 1 := ⟨bX3_isName, q_t2 164 rfl rfl, q_t2 141 rfl rfl⟩
theorem sX3_36 : Cs RX3 36 kX3_joined 3 := ⟨bX3_joined, q_t2 165 rfl rfl, q_t2 166 rfl rfl⟩
theorem sX4_75 : Cs RX4 75 kJ9_min_7cf53 2 := ⟨bJ9_min_7cf53, q_t2 168 rfl rfl, q_t2 169 rfl rfl⟩
theorem sX4_81 : Cs RX4 81 kJ9_max_7cf53 2 := ⟨bJ9_max_7cf53, q_t2 171 rfl rfl, q_t2 172 rfl rfl⟩
theorem vL_46 : Cv RL 46 kX5_citizen 2 5 := ⟨bX5_citizen, q_t2 174 rfl rfl, q_t2 175 rfl rfl, q_t2 176 rfl rfl, TX5, 9, rfl⟩
theorem vX5_134 : Cv RX5 134 kX4_welcome 2 4 := ⟨bX4_welcome, q_t2 178 rfl rfl, q_t2 179 rfl rfl, q_t2 180 rfl rfl, TX4, 13, rfl⟩
theorem nX4_65 : Cn RX4 65 kX5_within 3 := ⟨bX5_within, ⟨"KeysForSecond", List.mem_of_getElem? (i := 1) rfl⟩, q_t1 230 rfl rfl⟩
theorem vL_50 : Cv RL 50 kX5_put 3 5 := ⟨bX5_put, q_t2 183 rfl rfl, q_t2 184 rfl rfl, q_t2 185 rfl rfl, TX5, 9, rfl⟩
theorem vL_54 : Cv RL 54 kX5_told 2 5 := ⟨bX5_told, q_t2 187 rfl rfl, q_t2 188 rfl rfl, q_t2 189 rfl rfl, TX5, 9, rfl⟩
theorem vX5_152 : Cv RX5 152 kX4_wouldTry 1 4 := ⟨bX4_wouldTry, q_t2 191 rfl rfl, q_t2 192 rfl rfl, q_t2 193 rfl rfl, TX4, 13, rfl⟩
theorem vX4_84 : Cv RX4 84 kX4_says 2 4 := ⟨bX4_says, q_t2 195 rfl rfl, q_t2 157 rfl rfl, q_t2 158 rfl rfl, TX4, 13, rfl⟩
theorem vX5_155 : Cv RX5 155 kX4_wouldPay 1 4 := ⟨bX4_wouldPay, q_t2 196 rfl rfl, q_t2 197 rfl rfl, q_t2 198 rfl rfl, TX4, 13, rfl⟩
theorem vX5_158 : Cv RX5 158 kX4_wouldGo 1 4 := ⟨bX4_wouldGo, q_t2 200 rfl rfl, q_t2 201 rfl rfl, q_t2 202 rfl rfl, TX4, 13, rfl⟩
theorem vX5_161 : Cv RX5 161 kX4_outcome 2 4 := ⟨bX4_outcome, q_t2 204 rfl rfl, q_t2 205 rfl rfl, q_t2 206 rfl rfl, TX4, 13, rfl⟩
theorem vL_58 : Cv RL 58 kX5_twist 1 5 := ⟨bX5_twist, q_t2 208 rfl rfl, q_t2 209 rfl rfl, q_t2 210 rfl rfl, TX5, 9, rfl⟩
theorem vX5_164 : Cv RX5 164 kX4_attempt 2 4 := ⟨bX4_attempt, q_t2 212 rfl rfl, q_t2 213 rfl rfl, q_t2 214 rfl rfl, TX4, 13, rfl⟩
theorem vX4_87 : Cv RX4 87 kX4_outcome 2 4 := ⟨bX4_outcome, q_t2 216 rfl rfl, q_t2 205 rfl rfl, q_t2 206 rfl rfl, TX4, 13, rfl⟩
theorem vX4_90 : Cv RX4 90 kX4_wouldPay 1 4 := ⟨bX4_wouldPay, q_t2 217 rfl rfl, q_t2 197 rfl rfl, q_t2 198 rfl rfl, TX4, 13, rfl⟩
theorem vL_62 : Cv RL 62 kX5_give 3 5 := ⟨bX5_give, q_t2 218 rfl rfl, q_t2 219 rfl rfl, q_t2 220 rfl rfl, TX5, 9, rfl⟩
theorem vL_66 : Cv RL 66 kX5_minute 0 5 := ⟨bX5_minute, q_t2 222 rfl rfl, q_t2 223 rfl rfl, q_t2 224 rfl rfl, TX5, 9, rfl⟩
theorem vX5_167 : Cv RX5 167 kX4_pass 0 4 := ⟨bX4_pass, q_t2 226 rfl rfl, q_t2 227 rfl rfl, q_t2 228 rfl rfl, TX4, 13, rfl⟩
theorem vX4_94 : Cv RX4 94 kX4_wouldTry 1 4 := ⟨bX4_wouldTry, q_t2 230 rfl rfl, q_t2 192 rfl rfl, q_t2 193 rfl rfl, TX4, 13, rfl⟩
theorem vX4_98 : Cv RX4 98 kX4_attempt 2 4 := ⟨bX4_attempt, q_t2 231 rfl rfl, q_t2 213 rfl rfl, q_t2 214 rfl rfl, TX4, 13, rfl⟩
theorem vX4_101 : Cv RX4 101 kX4_wouldGo 1 4 := ⟨bX4_wouldGo, q_t2 232 rfl rfl, q_t2 201 rfl rfl, q_t2 202 rfl rfl, TX4, 13, rfl⟩
theorem sX4_104 : Cs RX4 104 kJ9_floorMod_7cf53 2 := ⟨bJ9_floorMod_7cf53, q_t2 233 rfl rfl, q_t2 234 rfl rfl⟩
theorem vL_70 : Cv RL 70 kX5_run 2 5 := ⟨bX5_run, q_t2 236 rfl rfl, q_t2 237 rfl rfl, q_t2 238 rfl rfl, TX5, 9, rfl⟩
theorem sX5_170 : Cs RX5 170 kJ9_floorMod_7cf53 2 := ⟨bJ9_floorMod_7cf53, q_t3 0 rfl rfl, q_t2 234 rfl rfl⟩
theorem vX5_175 : Cv RX5 175 kX4_become 1 4 := ⟨bX4_become, q_t3 1 rfl rfl, q_t3 2 rfl rfl, q_t3 3 rfl rfl, TX4, 13, rfl⟩
theorem vX5_179 : Cv RX5 179 kX5_passThought 1 5 := ⟨bX5_passThought, q_t3 8 rfl rfl, q_t3 10 rfl rfl, q_in2 8 rfl rfl, TX5, 9, rfl⟩
theorem vX5_182 : Cv RX5 182 kX4_doorsWithFirst 0 4 := ⟨bX4_doorsWithFirst, q_t3 12 rfl rfl, q_t3 13 rfl rfl, q_t3 14 rfl rfl, TX4, 13, rfl⟩
theorem vX5_185 : Cv RX5 185 kX4_allBehind 0 4 := ⟨bX4_allBehind, q_t3 16 rfl rfl, q_t3 17 rfl rfl, q_t3 18 rfl rfl, TX4, 13, rfl⟩
theorem vL_74 : Cv RL 74 kX5_when 1 5 := ⟨bX5_when, q_t3 20 rfl rfl, q_t3 21 rfl rfl, q_t3 22 rfl rfl, TX5, 9, rfl⟩
theorem vX5_188 : Cv RX5 188 kX4_isSo 1 4 := ⟨bX4_isSo, q_t3 24 rfl rfl, q_t3 25 rfl rfl, q_t3 26 rfl rfl, TX4, 13, rfl⟩
theorem vX4_107 : Cv RX4 107 kX4_doorsWithSecond 0 4 := ⟨bX4_doorsWithSecond, q_t3 28 rfl rfl, q_t1 213 rfl rfl, q_t1 214 rfl rfl, TX4, 13, rfl⟩
theorem vX4_111 : Cv RX4 111 kX4_anyoneAlone 0 4 := ⟨bX4_anyoneAlone, q_t3 29 rfl rfl, q_t3 30 rfl rfl, q_t3 31 rfl rfl, TX4, 13, rfl⟩
theorem vX4_119 : Cv RX4 119 kX4_peopleAt 1 4 := ⟨bX4_peopleAt, q_t3 33 rfl rfl, q_t2 11 rfl rfl, q_t2 12 rfl rfl, TX4, 13, rfl⟩
theorem sX4_122 : Cs RX4 122 kJ6_bitCount_0f7a4 1 := ⟨bJ6_bitCount_0f7a4, q_t3 34 rfl rfl, q_t1 220 rfl rfl⟩
theorem nX4_115 : Cn RX4 115 kX5_hasBit 2 := ⟨bX5_hasBit, ⟨"KeysForSecond", List.mem_of_getElem? (i := 2) rfl⟩, q_t3 36 rfl rfl⟩
theorem vL_78 : Cv RL 78 kX5_waits 1 5 := ⟨bX5_waits, q_t3 38 rfl rfl, q_t3 39 rfl rfl, q_t3 40 rfl rfl, TX5, 9, rfl⟩
theorem sX5_191 : Cs RX5 191 kX5_hasBit 2 := ⟨bX5_hasBit, q_t3 42 rfl rfl, q_t3 36 rfl rfl⟩
theorem vL_82 : Cv RL 82 kX5_pair 1 5 := ⟨bX5_pair, q_t3 43 rfl rfl, q_t3 44 rfl rfl, q_t3 45 rfl rfl, TX5, 9, rfl⟩
theorem vX5_195 : Cv RX5 195 kX5_eggsOfSecond 3 5 := ⟨bX5_eggsOfSecond, q_t3 47 rfl rfl, q_t3 49 rfl rfl, q_in2 9 rfl rfl, TX5, 9, rfl⟩
theorem vL_86 : Cv RL 86 kX5_stand 3 5 := ⟨bX5_stand, q_t3 51 rfl rfl, q_t3 52 rfl rfl, q_t3 53 rfl rfl, TX5, 9, rfl⟩
theorem vL_90 : Cv RL 90 kX5_rounds 2 5 := ⟨bX5_rounds, q_t3 55 rfl rfl, q_t3 56 rfl rfl, q_t3 57 rfl rfl, TX5, 9, rfl⟩
theorem vL_94 : Cv RL 94 kX5_tries 1 5 := ⟨bX5_tries, q_t3 59 rfl rfl, q_t3 60 rfl rfl, q_t3 61 rfl rfl, TX5, 9, rfl⟩
theorem vL_98 : Cv RL 98 kX5_share 2 5 := ⟨bX5_share, q_t3 63 rfl rfl, q_t3 64 rfl rfl, q_t3 65 rfl rfl, TX5, 9, rfl⟩
theorem vX5_199 : Cv RX5 199 kX4_allEggs 0 4 := ⟨bX4_allEggs, q_t3 67 rfl rfl, q_t3 68 rfl rfl, q_t3 69 rfl rfl, TX4, 13, rfl⟩
theorem sX5_204 : Cs RX5 204 kX5_lowest 3 := ⟨bX5_lowest, q_t3 72 rfl rfl, q_t3 73 rfl rfl⟩
theorem vL_103 : Cv RL 103 kX5_judge 2 5 := ⟨bX5_judge, q_t3 75 rfl rfl, q_t3 76 rfl rfl, q_t3 77 rfl rfl, TX5, 9, rfl⟩
theorem vX5_208 : Cv RX5 208 kX5_refusalOfTold 2 5 := ⟨bX5_refusalOfTold, q_t3 79 rfl rfl, q_t3 81 rfl rfl, q_in2 10 rfl rfl, TX5, 9, rfl⟩
theorem vX5_215 : Cv RX5 215 kX5_refusalOfSheet 1 5 := ⟨bX5_refusalOfSheet, q_t3 83 rfl rfl, q_t3 85 rfl rfl, q_in2 11 rfl rfl, TX5, 9, rfl⟩
theorem sX5_218 : Cs RX5 218 kX5_isSheet 1 := ⟨bX5_isSheet, q_t3 87 rfl rfl, q_t3 88 rfl rfl⟩
theorem vX5_211 : Cv RX5 211 kX5_otherwise 2 5 := ⟨bX5_otherwise, q_t3 90 rfl rfl, q_t3 92 rfl rfl, q_in2 12 rfl rfl, TX5, 9, rfl⟩
theorem vL_107 : Cv RL 107 kX5_kinds 3 5 := ⟨bX5_kinds, q_t3 94 rfl rfl, q_t3 95 rfl rfl, q_t3 96 rfl rfl, TX5, 9, rfl⟩
theorem vL_111 : Cv RL 111 kX5_doors 2 5 := ⟨bX5_doors, q_t3 98 rfl rfl, q_t3 99 rfl rfl, q_t3 100 rfl rfl, TX5, 9, rfl⟩
theorem vL_115 : Cv RL 115 kX5_baskets 3 5 := ⟨bX5_baskets, q_t3 102 rfl rfl, q_t3 103 rfl rfl, q_t3 104 rfl rfl, TX5, 9, rfl⟩
theorem vL_119 : Cv RL 119 kX5_firsts 3 5 := ⟨bX5_firsts, q_t3 106 rfl rfl, q_t3 107 rfl rfl, q_t3 108 rfl rfl, TX5, 9, rfl⟩
theorem vL_123 : Cv RL 123 kX5_whose 1 5 := ⟨bX5_whose, q_t3 110 rfl rfl, q_t3 111 rfl rfl, q_t3 112 rfl rfl, TX5, 9, rfl⟩
theorem vL_127 : Cv RL 127 kX5_laws 2 5 := ⟨bX5_laws, q_t3 114 rfl rfl, q_t3 115 rfl rfl, q_t3 116 rfl rfl, TX5, 9, rfl⟩
theorem vL_131 : Cv RL 131 kX5_film 3 5 := ⟨bX5_film, q_t3 118 rfl rfl, q_t3 119 rfl rfl, q_t3 120 rfl rfl, TX5, 9, rfl⟩
theorem vX5_221 : Cv RX5 221 kX1_become 2 1 := ⟨bX1_become, q_t3 122 rfl rfl, q_t3 123 rfl rfl, q_t3 124 rfl rfl, TX1, 3, rfl⟩
theorem sX1_22 : Cs RX1 22 kJ7_fill_53178 2 := ⟨bJ7_fill_53178, q_t3 126 rfl rfl, q_t1 78 rfl rfl⟩
theorem vX5_224 : Cv RX5 224 kX1_write 2 1 := ⟨bX1_write, q_t3 127 rfl rfl, q_t3 128 rfl rfl, q_t3 129 rfl rfl, TX1, 3, rfl⟩
theorem vL_135 : Cv RL 135 kX5_drawn 3 5 := ⟨bX5_drawn, q_t3 131 rfl rfl, q_t3 132 rfl rfl, q_t3 133 rfl rfl, TX5, 9, rfl⟩
theorem vX5_235 : Cv RX5 235 kX5_thinkByLots 2 5 := ⟨bX5_thinkByLots, q_t3 136 rfl rfl, q_t3 138 rfl rfl, q_in2 13 rfl rfl, TX5, 9, rfl⟩
theorem sX5_238 : Cs RX5 238 kX5_nextLot 1 := ⟨bX5_nextLot, q_t3 140 rfl rfl, q_t3 141 rfl rfl⟩
theorem vL_139 : Cv RL 139 kX5_odds 4 5 := ⟨bX5_odds, q_t3 147 rfl rfl, q_t3 148 rfl rfl, q_t3 149 rfl rfl, TX5, 9, rfl⟩
theorem vL_144 : Cv RL 144 kX5_image 0 5 := ⟨bX5_image, q_t3 151 rfl rfl, q_t3 152 rfl rfl, q_t3 153 rfl rfl, TX5, 9, rfl⟩
theorem vL_148 : Cv RL 148 kX5_back 0 5 := ⟨bX5_back, q_t3 155 rfl rfl, q_t3 156 rfl rfl, q_t3 157 rfl rfl, TX5, 9, rfl⟩
theorem vL_152 : Cv RL 152 kX5_sheet 3 5 := ⟨bX5_sheet, q_t3 159 rfl rfl, q_t3 160 rfl rfl, q_t3 161 rfl rfl, TX5, 9, rfl⟩
theorem vL_156 : Cv RL 156 kX5_cell 3 5 := ⟨bX5_cell, q_t3 163 rfl rfl, q_t3 164 rfl rfl, q_t3 165 rfl rfl, TX5, 9, rfl⟩
theorem vX5_250 : Cv RX5 250 kX1_has 1 1 := ⟨bX1_has, q_t3 167 rfl rfl, q_t3 168 rfl rfl, q_t3 169 rfl rfl, TX1, 3, rfl⟩
theorem vL_160 : Cv RL 160 kX5_copy 5 5 := ⟨bX5_copy, q_t3 171 rfl rfl, q_t3 172 rfl rfl, q_t3 173 rfl rfl, TX5, 9, rfl⟩
theorem vX5_253 : Cv RX5 253 kX1_hasRow 2 1 := ⟨bX1_hasRow, q_t3 175 rfl rfl, q_t3 176 rfl rfl, q_t3 177 rfl rfl, TX1, 3, rfl⟩
theorem vL_165 : Cv RL 165 kX5_peopleBy 4 5 := ⟨bX5_peopleBy, q_t3 180 rfl rfl, q_t3 181 rfl rfl, q_t3 182 rfl rfl, TX5, 9, rfl⟩
theorem vL_170 : Cv RL 170 kX5_taken 2 5 := ⟨bX5_taken, q_t3 184 rfl rfl, q_t3 185 rfl rfl, q_t3 186 rfl rfl, TX5, 9, rfl⟩
theorem sX5_262 : Cs RX5 262 kX5_isOneOf 2 := ⟨bX5_isOneOf, q_t3 188 rfl rfl, q_t3 189 rfl rfl⟩
theorem vX6_68 : Cv RX6 68 kX6_text 0 6 := ⟨bX6_text, q_t3 197 rfl rfl, q_t3 198 rfl rfl, q_t3 199 rfl rfl, TX6, 32, rfl⟩
theorem vX6_146 : Cv RX6 146 kX6_next 0 6 := ⟨bX6_next, q_t3 201 rfl rfl, q_t3 203 rfl rfl, q_in2 14 rfl rfl, TX6, 32, rfl⟩
theorem sX6_75 : Cs RX6 75 kX6_in 3 := ⟨bX6_in, q_t3 205 rfl rfl, q_t3 206 rfl rfl⟩
theorem vX6_120 : Cv RX6 120 kX6_wordFrom 2 6 := ⟨bX6_wordFrom, q_t3 208 rfl rfl, q_t3 210 rfl rfl, q_in2 15 rfl rfl, TX6, 32, rfl⟩
theorem vX6_159 : Cv RX6 159 kX6_eRead 0 6 := ⟨bX6_eRead, q_t3 212 rfl rfl, q_t3 214 rfl rfl, q_in2 16 rfl rfl, TX6, 32, rfl⟩
theorem vX6_136 : Cv RX6 136 kX6_puts 1 6 := ⟨bX6_puts, q_t3 217 rfl rfl, q_t3 219 rfl rfl, q_in2 17 rfl rfl, TX6, 32, rfl⟩
theorem vX6_143 : Cv RX6 143 kX6_unwinds 1 6 := ⟨bX6_unwinds, q_t3 221 rfl rfl, q_t3 223 rfl rfl, q_in2 18 rfl rfl, TX6, 32, rfl⟩
theorem sX6_130 : Cs RX6 130 kX6_rank 1 := ⟨bX6_rank, q_t3 225 rfl rfl, q_t3 226 rfl rfl⟩
theorem vX6_150 : Cv RX6 150 kX6_opensOne 1 6 := ⟨bX6_opensOne, q_t3 228 rfl rfl, q_t3 230 rfl rfl, q_in2 19 rfl rfl, TX6, 32, rfl⟩
theorem vX6_140 : Cv RX6 140 kX6_holds 1 6 := ⟨bX6_holds, q_t3 232 rfl rfl, q_t3 234 rfl rfl, q_in2 20 rfl rfl, TX6, 32, rfl⟩
theorem vX6_153 : Cv RX6 153 kX6_signOf 0 6 := ⟨bX6_signOf, q_t3 236 rfl rfl, q_t3 238 rfl rfl, q_in2 21 rfl rfl, TX6, 32, rfl⟩
theorem vX6_156 : Cv RX6 156 kX6_between 1 6 := ⟨bX6_between, q_t4 0 rfl rfl, q_t4 2 rfl rfl, q_in2 22 rfl rfl, TX6, 32, rfl⟩
theorem vL_17 : Cv RL 17 kX6_count 1 6 := ⟨bX6_count, q_t4 101 rfl rfl, q_t4 102 rfl rfl, q_t4 103 rfl rfl, TX6, 32, rfl⟩
theorem vX6_82 : Cv RX6 82 kX6_having 1 6 := ⟨bX6_having, q_t4 105 rfl rfl, q_t4 107 rfl rfl, q_in2 23 rfl rfl, TX6, 32, rfl⟩
theorem sX6_86 : Cs RX6 86 kX6_onesOf 1 := ⟨bX6_onesOf, q_t4 109 rfl rfl, q_t4 110 rfl rfl⟩
theorem vL_22 : Cv RL 22 kX6_town 3 6 := ⟨bX6_town, q_t4 112 rfl rfl, q_t4 113 rfl rfl, q_t4 114 rfl rfl, TX6, 32, rfl⟩
theorem sX6_95 : Cs RX6 95 kX6_isDoor 1 := ⟨bX6_isDoor, q_t4 116 rfl rfl, q_t4 117 rfl rfl⟩
theorem vX6_99 : Cv RX6 99 kX6_isOne 1 6 := ⟨bX6_isOne, q_t4 119 rfl rfl, q_t4 121 rfl rfl, q_in2 24 rfl rfl, TX6, 32, rfl⟩
theorem vL_27 : Cv RL 27 kX6_door 2 6 := ⟨bX6_door, q_t4 123 rfl rfl, q_t4 124 rfl rfl, q_t4 125 rfl rfl, TX6, 32, rfl⟩
theorem vX6_102 : Cv RX6 102 kX6_whoAt 1 6 := ⟨bX6_whoAt, q_t4 127 rfl rfl, q_t4 129 rfl rfl, q_in2 25 rfl rfl, TX6, 32, rfl⟩
theorem vL_32 : Cv RL 32 kX6_feed 6 6 := ⟨bX6_feed, q_t4 131 rfl rfl, q_t4 132 rfl rfl, q_t4 133 rfl rfl, TX6, 32, rfl⟩
theorem sX6_105 : Cs RX6 105 kX6_isByte 1 := ⟨bX6_isByte, q_t4 135 rfl rfl, q_t4 136 rfl rfl⟩
theorem vL_37 : Cv RL 37 kX6_text 0 6 := ⟨bX6_text, q_t4 138 rfl rfl, q_t3 198 rfl rfl, q_t3 199 rfl rfl, TX6, 32, rfl⟩
theorem vL_41 : Cv RL 41 kX6_force 1 6 := ⟨bX6_force, q_t4 139 rfl rfl, q_t4 140 rfl rfl, q_t4 141 rfl rfl, TX6, 32, rfl⟩
theorem vL_45 : Cv RL 45 kX6_asks 2 6 := ⟨bX6_asks, q_t4 143 rfl rfl, q_t4 144 rfl rfl, q_t4 145 rfl rfl, TX6, 32, rfl⟩
theorem vX6_176 : Cv RX6 176 kX6_asksOf 2 6 := ⟨bX6_asksOf, q_t4 147 rfl rfl, q_t4 149 rfl rfl, q_in2 26 rfl rfl, TX6, 32, rfl⟩
theorem vX6_167 : Cv RX6 167 kX6_hasFirst 1 6 := ⟨bX6_hasFirst, q_t4 151 rfl rfl, q_t4 153 rfl rfl, q_in2 27 rfl rfl, TX6, 32, rfl⟩
theorem vX6_170 : Cv RX6 170 kX6_says 1 6 := ⟨bX6_says, q_t4 155 rfl rfl, q_t4 157 rfl rfl, q_in2 28 rfl rfl, TX6, 32, rfl⟩
theorem sX6_163 : Cs RX6 163 kX6_two 3 := ⟨bX6_two, q_t4 159 rfl rfl, q_t4 160 rfl rfl⟩
theorem sX6_173 : Cs RX6 173 kX6_within 3 := ⟨bX6_within, q_t4 162 rfl rfl, q_t4 163 rfl rfl⟩
theorem vL_49 : Cv RL 49 kX6_citizen 2 6 := ⟨bX6_citizen, q_t4 165 rfl rfl, q_t4 166 rfl rfl, q_t4 167 rfl rfl, TX6, 32, rfl⟩
theorem vL_53 : Cv RL 53 kX6_put 3 6 := ⟨bX6_put, q_t4 169 rfl rfl, q_t4 170 rfl rfl, q_t4 171 rfl rfl, TX6, 32, rfl⟩
theorem vL_57 : Cv RL 57 kX6_told 2 6 := ⟨bX6_told, q_t4 173 rfl rfl, q_t4 174 rfl rfl, q_t4 175 rfl rfl, TX6, 32, rfl⟩
theorem vX6_181 : Cv RX6 181 kX6_doesTry 1 6 := ⟨bX6_doesTry, q_t4 177 rfl rfl, q_t4 179 rfl rfl, q_in2 29 rfl rfl, TX6, 32, rfl⟩
theorem vX6_184 : Cv RX6 184 kX6_paysOf 1 6 := ⟨bX6_paysOf, q_t4 181 rfl rfl, q_t4 183 rfl rfl, q_in2 30 rfl rfl, TX6, 32, rfl⟩
theorem vX6_187 : Cv RX6 187 kX6_goesOf 1 6 := ⟨bX6_goesOf, q_t4 185 rfl rfl, q_t4 187 rfl rfl, q_in2 31 rfl rfl, TX6, 32, rfl⟩
theorem sX6_179 : Cs RX6 179 kX6_signOf_ 1 := ⟨bX6_signOf_, q_t4 189 rfl rfl, q_t4 190 rfl rfl⟩
theorem vX6_190 : Cv RX6 190 kX6_tryNow 1 6 := ⟨bX6_tryNow, q_t4 192 rfl rfl, q_t4 194 rfl rfl, q_in2 32 rfl rfl, TX6, 32, rfl⟩
theorem vL_61 : Cv RL 61 kX6_twist 1 6 := ⟨bX6_twist, q_t4 196 rfl rfl, q_t4 197 rfl rfl, q_t4 198 rfl rfl, TX6, 32, rfl⟩
theorem vX6_193 : Cv RX6 193 kX6_tryOf 2 6 := ⟨bX6_tryOf, q_t4 200 rfl rfl, q_t4 202 rfl rfl, q_in2 33 rfl rfl, TX6, 32, rfl⟩
theorem vL_65 : Cv RL 65 kX6_give 3 6 := ⟨bX6_give, q_t4 204 rfl rfl, q_t4 205 rfl rfl, q_t4 206 rfl rfl, TX6, 32, rfl⟩
theorem vL_69 : Cv RL 69 kX6_minute 0 6 := ⟨bX6_minute, q_t4 208 rfl rfl, q_t4 209 rfl rfl, q_t4 210 rfl rfl, TX6, 32, rfl⟩
theorem vX6_196 : Cv RX6 196 kX6_minuteOf 0 6 := ⟨bX6_minuteOf, q_t4 212 rfl rfl, q_t4 214 rfl rfl, q_in2 34 rfl rfl, TX6, 32, rfl⟩
theorem vL_73 : Cv RL 73 kX6_run 2 6 := ⟨bX6_run, q_t4 216 rfl rfl, q_t4 217 rfl rfl, q_t4 218 rfl rfl, TX6, 32, rfl⟩
theorem vX6_199 : Cv RX6 199 kX6_keeps 0 6 := ⟨bX6_keeps, q_t4 220 rfl rfl, q_t4 222 rfl rfl, q_in2 35 rfl rfl, TX6, 32, rfl⟩
theorem vX6_202 : Cv RX6 202 kX6_goes 1 6 := ⟨bX6_goes, q_t4 224 rfl rfl, q_t4 226 rfl rfl, q_in2 36 rfl rfl, TX6, 32, rfl⟩
theorem vX6_205 : Cv RX6 205 kX6_behindAll 0 6 := ⟨bX6_behindAll, q_t4 228 rfl rfl, q_t4 230 rfl rfl, q_in2 37 rfl rfl, TX6, 32, rfl⟩
theorem vX6_208 : Cv RX6 208 kX6_lays 0 6 := ⟨bX6_lays, q_t4 232 rfl rfl, q_t4 234 rfl rfl, q_in2 38 rfl rfl, TX6, 32, rfl⟩
theorem vL_77 : Cv RL 77 kX6_when 1 6 := ⟨bX6_when, q_t4 236 rfl rfl, q_t4 237 rfl rfl, q_t4 238 rfl rfl, TX6, 32, rfl⟩
theorem vX6_211 : Cv RX6 211 kX6_isAnyAlone 0 6 := ⟨bX6_isAnyAlone, q_t5 0 rfl rfl, q_t5 2 rfl rfl, q_in2 39 rfl rfl, TX6, 32, rfl⟩
theorem vL_81 : Cv RL 81 kX6_waits 1 6 := ⟨bX6_waits, q_t5 4 rfl rfl, q_t5 5 rfl rfl, q_t5 6 rfl rfl, TX6, 32, rfl⟩
theorem vL_85 : Cv RL 85 kX6_pair 1 6 := ⟨bX6_pair, q_t5 8 rfl rfl, q_t5 9 rfl rfl, q_t5 10 rfl rfl, TX6, 32, rfl⟩
theorem vL_89 : Cv RL 89 kX6_stand 3 6 := ⟨bX6_stand, q_t5 12 rfl rfl, q_t5 13 rfl rfl, q_t5 14 rfl rfl, TX6, 32, rfl⟩
theorem vL_93 : Cv RL 93 kX6_rounds 2 6 := ⟨bX6_rounds, q_t5 16 rfl rfl, q_t5 17 rfl rfl, q_t5 18 rfl rfl, TX6, 32, rfl⟩
theorem vL_97 : Cv RL 97 kX6_tries 1 6 := ⟨bX6_tries, q_t5 20 rfl rfl, q_t5 21 rfl rfl, q_t5 22 rfl rfl, TX6, 32, rfl⟩
theorem vL_102 : Cv RL 102 kX6_share 2 6 := ⟨bX6_share, q_t5 24 rfl rfl, q_t5 25 rfl rfl, q_t5 26 rfl rfl, TX6, 32, rfl⟩
theorem sX6_214 : Cs RX6 214 kX6_lowest 3 := ⟨bX6_lowest, q_t5 28 rfl rfl, q_t5 29 rfl rfl⟩
theorem vL_106 : Cv RL 106 kX6_judge 2 6 := ⟨bX6_judge, q_t5 32 rfl rfl, q_t5 33 rfl rfl, q_t5 34 rfl rfl, TX6, 32, rfl⟩
theorem vX6_223 : Cv RX6 223 kX6_toldWrong 2 6 := ⟨bX6_toldWrong, q_t5 36 rfl rfl, q_t5 38 rfl rfl, q_in2 40 rfl rfl, TX6, 32, rfl⟩
theorem vX6_220 : Cv RX6 220 kX6_sheetWrong 1 6 := ⟨bX6_sheetWrong, q_t5 40 rfl rfl, q_t5 42 rfl rfl, q_in2 41 rfl rfl, TX6, 32, rfl⟩
theorem vX6_226 : Cv RX6 226 kX6_unlike 2 6 := ⟨bX6_unlike, q_t5 44 rfl rfl, q_t5 46 rfl rfl, q_in2 42 rfl rfl, TX6, 32, rfl⟩
theorem vL_110 : Cv RL 110 kX6_kinds 3 6 := ⟨bX6_kinds, q_t5 48 rfl rfl, q_t5 49 rfl rfl, q_t5 50 rfl rfl, TX6, 32, rfl⟩
theorem vL_114 : Cv RL 114 kX6_doors 2 6 := ⟨bX6_doors, q_t5 52 rfl rfl, q_t5 53 rfl rfl, q_t5 54 rfl rfl, TX6, 32, rfl⟩
theorem vL_118 : Cv RL 118 kX6_baskets 3 6 := ⟨bX6_baskets, q_t5 56 rfl rfl, q_t5 57 rfl rfl, q_t5 58 rfl rfl, TX6, 32, rfl⟩
theorem vL_122 : Cv RL 122 kX6_firsts 3 6 := ⟨bX6_firsts, q_t5 60 rfl rfl, q_t5 61 rfl rfl, q_t5 62 rfl rfl, TX6, 32, rfl⟩
theorem vL_126 : Cv RL 126 kX6_whose 1 6 := ⟨bX6_whose, q_t5 64 rfl rfl, q_t5 65 rfl rfl, q_t5 66 rfl rfl, TX6, 32, rfl⟩
theorem vL_130 : Cv RL 130 kX6_laws 2 6 := ⟨bX6_laws, q_t5 68 rfl rfl, q_t5 69 rfl rfl, q_t5 70 rfl rfl, TX6, 32, rfl⟩
theorem vL_134 : Cv RL 134 kX6_film 3 6 := ⟨bX6_film, q_t5 72 rfl rfl, q_t5 73 rfl rfl, q_t5 74 rfl rfl, TX6, 32, rfl⟩
theorem vL_138 : Cv RL 138 kX6_drawn 3 6 := ⟨bX6_drawn, q_t5 76 rfl rfl, q_t5 77 rfl rfl, q_t5 78 rfl rfl, TX6, 32, rfl⟩
theorem vX6_241 : Cv RX6 241 kX6_lotDay 2 6 := ⟨bX6_lotDay, q_t5 81 rfl rfl, q_t5 83 rfl rfl, q_in2 43 rfl rfl, TX6, 32, rfl⟩
theorem vL_143 : Cv RL 143 kX6_odds 4 6 := ⟨bX6_odds, q_t5 89 rfl rfl, q_t5 90 rfl rfl, q_t5 91 rfl rfl, TX6, 32, rfl⟩
theorem vL_147 : Cv RL 147 kX6_image 0 6 := ⟨bX6_image, q_t5 93 rfl rfl, q_t5 94 rfl rfl, q_t5 95 rfl rfl, TX6, 32, rfl⟩
theorem vL_151 : Cv RL 151 kX6_back 0 6 := ⟨bX6_back, q_t5 97 rfl rfl, q_t5 98 rfl rfl, q_t5 99 rfl rfl, TX6, 32, rfl⟩
theorem vL_155 : Cv RL 155 kX6_sheet 3 6 := ⟨bX6_sheet, q_t5 101 rfl rfl, q_t5 102 rfl rfl, q_t5 103 rfl rfl, TX6, 32, rfl⟩
theorem vL_159 : Cv RL 159 kX6_cell 3 6 := ⟨bX6_cell, q_t5 105 rfl rfl, q_t5 106 rfl rfl, q_t5 107 rfl rfl, TX6, 32, rfl⟩
theorem vL_164 : Cv RL 164 kX6_copy 5 6 := ⟨bX6_copy, q_t5 109 rfl rfl, q_t5 110 rfl rfl, q_t5 111 rfl rfl, TX6, 32, rfl⟩
theorem vL_169 : Cv RL 169 kX6_peopleBy 4 6 := ⟨bX6_peopleBy, q_t5 113 rfl rfl, q_t5 114 rfl rfl, q_t5 115 rfl rfl, TX6, 32, rfl⟩
theorem vX6_248 : Cv RX6 248 kX6_citizen 2 6 := ⟨bX6_citizen, q_t5 117 rfl rfl, q_t4 166 rfl rfl, q_t4 167 rfl rfl, TX6, 32, rfl⟩
theorem vL_173 : Cv RL 173 kX6_taken 2 6 := ⟨bX6_taken, q_t5 118 rfl rfl, q_t5 119 rfl rfl, q_t5 120 rfl rfl, TX6, 32, rfl⟩
theorem sX6_251 : Cs RX6 251 kX6_isUnder 2 := ⟨bX6_isUnder, q_t5 122 rfl rfl, q_t5 123 rfl rfl⟩
theorem qJ6_265 : Cond.constant RJ6 265 (1431655765) ∈ q_tbl := q_t1 222 rfl rfl
theorem qJ6_266 : Cond.constant RJ6 266 (858993459) ∈ q_tbl := q_t1 223 rfl rfl
theorem qJ6_267 : Cond.constant RJ6 267 (252645135) ∈ q_tbl := q_t1 224 rfl rfl
theorem qX5_202 : Cond.constantLong RX5 202 (-4611686018427387904) ∈ q_tbl := q_t3 71 rfl rfl
theorem qX5_234 : Cond.constant RX5 234 (99999) ∈ q_tbl := q_t3 135 rfl rfl
theorem qX5_246 : Cond.constantLong RX5 246 (48271) ∈ q_tbl := q_t3 143 rfl rfl
theorem qX5_248 : Cond.constantLong RX5 248 (2147483647) ∈ q_tbl := q_t3 144 rfl rfl
theorem qX5_242 : Cond.constantLong RX5 242 (6) ∈ q_tbl := q_t3 145 rfl rfl
theorem qX5_244 : Cond.constantLong RX5 244 (8) ∈ q_tbl := q_t3 146 rfl rfl
theorem qX6_149 : Cond.constant RX6 149 (100000) ∈ q_tbl := q_t3 216 rfl rfl
theorem qX6_218 : Cond.constantLong RX6 218 (-4611686018427387904) ∈ q_tbl := q_t5 31 rfl rfl
theorem qX6_240 : Cond.constant RX6 240 (99999) ∈ q_tbl := q_t5 80 rfl rfl
theorem qX6_232 : Cond.constantLong RX6 232 (48271) ∈ q_tbl := q_t5 85 rfl rfl
theorem qX6_234 : Cond.constantLong RX6 234 (2147483647) ∈ q_tbl := q_t5 86 rfl rfl
theorem qX6_236 : Cond.constantLong RX6 236 (6) ∈ q_tbl := q_t5 87 rfl rfl
theorem qX6_238 : Cond.constantLong RX6 238 (8) ∈ q_tbl := q_t5 88 rfl rfl
end
section
abbrev Mem : Type := Nat → Nat → Int
abbrev PV : Type := Int ⊕ Int ⊕ Nat
abbrev iv (a : Int) : PV := Sum.inl a
abbrev jv (a : Int) : PV := Sum.inr (Sum.inl a)
abbrev rv (k : Nat) : PV := Sum.inr (Sum.inr k)
abbrev ib (a : Int) : Prop := -2147483648 ≤ a ∧ a < 2147483648
abbrev i3 (a : Int) : Int32 := Int32.ofInt a
def tv (ad : Nat → Nat) : PV → Value
  | .inl a => .int (Int32.ofInt a)
  | .inr (.inl a) => .long (Int64.ofInt a)
  | .inr (.inr k) => .ref (ad k)
/-- a cell of the graph: an object of a class (a place of another cell, or a number, a field), a row of ints, a row of references -/
abbrev GD : Type := (Nat × List (Option Nat)) ⊕ Nat ⊕ (Nat × List Nat)
def ce_f (ad : Nat → Nat) (M : Mem) (k : Nat) (j : Nat) (f : Option Nat) : Value := match f with
  | some r => .ref (ad r)
  | none => .int (Int32.ofInt (M k j))
def ce (ad : Nat → Nat) (dA : Nat → ClassId) (M : Mem) (k : Nat) : GD → va_E
  | .inl (ci, fs) => .inr (ci, fs.mapIdx (ce_f ad M k))
  | .inr (.inl n) => .inl (dA 0, n, .inl (fun i => Int32.ofInt (M k i)))
  | .inr (.inr (t, rs)) => .inl (dA t, rs.length, .inr (.inr (.inr (.inr (fun i => (rs[i]?).map ad)))))
def wld (ad : Nat → Nat) (dA : Nat → ClassId) (G : List GD) (M : Mem) : va_W := G.mapIdx (fun k d => (ad k, ce ad dA M k d))
def AA (G : List GD) (ad : Nat → Nat) : Nat → Prop := fun q => ∃ k, k < G.length ∧ q = ad k
def ty_of (dA : Nat → ClassId) : List (ClassId × FieldType) := [(dA 0, .int), (dA 1, .object "KeysForSecond$Text"), (dA 2, .object "KeysForSecond$Sheet")]
def upM (M : Mem) (k i : Nat) (v : Int) : Mem := fun c j => if c = k ∧ j = i then v else M c j
theorem wld_get {ad : Nat → Nat} {dA : Nat → ClassId} {G : List GD} {M : Mem} {k : Nat} {d : GD} (h : G[k]? = some d) : (wld ad dA G M)[k]? = some (ad k, ce ad dA M k d) := by
  simp [wld, List.getElem?_mapIdx, h]
theorem upM_self {M : Mem} {k i : Nat} {v : Int} : upM M k i v k i = v := by simp [upM]
theorem upM_ne {M : Mem} {k i c j : Nat} {v : Int} (h : c ≠ k ∨ j ≠ i) : upM M k i v c j = M c j := by
  unfold upM
  rw [if_neg]
  rintro ⟨h1, h2⟩
  rcases h with h | h
  · exact h h1
  · exact h h2
theorem upM_ib {M : Mem} {k i : Nat} {v : Int} (h : ∀ c j, ib (M c j)) (hv : ib v) : ∀ c j, ib (upM M k i v c j) := by
  intro c j
  unfold upM
  split
  · exact hv
  · exact h c j
theorem wld_ext {ad : Nat → Nat} {dA : Nat → ClassId} {G : List GD} {M M' : Mem} {k : Nat} {d : GD} {x : va_E} (h : G[k]? = some d) (hx : x = ce ad dA M' k d) (ho : ∀ c, c ≠ k → M' c = M c) : (wld ad dA G M).set k (ad k, x) = wld ad dA G M' := by
  apply List.ext_getElem?
  intro j
  have hl : k < (wld ad dA G M).length := by
    have := (List.getElem?_eq_some_iff.mp h).1
    simpa [wld] using this
  by_cases hj : j = k
  · subst hj
    rw [List.getElem?_set_self hl, wld_get h, hx]
  · rw [List.getElem?_set_ne (Ne.symm hj)]
    simp only [wld, List.getElem?_mapIdx]
    cases hg : G[j]? with
    | none => rfl
    | some e =>
      simp only [Option.map_some]
      congr 2
      rcases e with ⟨ci, fs⟩ | n | ⟨t, rs⟩
      · simp only [ce]
        congr 2
        apply List.ext_getElem?
        intro i
        simp only [List.getElem?_mapIdx]
        congr 1
        funext f
        cases f with
        | none => simp only [ce_f]; rw [ho j hj]
        | some r => rfl
      · simp only [ce]; rw [ho j hj]
      · rfl
theorem upM_off {M : Mem} {k i : Nat} {v : Int} (c : Nat) (h : c ≠ k) : upM M k i v c = M c := by
  funext j
  exact upM_ne (Or.inl h)
theorem wld_put {ad : Nat → Nat} {dA : Nat → ClassId} {G : List GD} {M : Mem} {k j ci : Nat} {fs : List (Option Nat)} {v : Int} (h : G[k]? = some (.inl (ci, fs))) (hj : fs[j]? = some none) : (wld ad dA G M).set k (ad k, .inr (ci, (fs.mapIdx (ce_f ad M k)).set j (.int (Int32.ofInt v)))) = wld ad dA G (upM M k j v) := by
  refine wld_ext h ?_ (fun c hc => upM_off c hc)
  simp only [ce]
  congr 2
  apply List.ext_getElem?
  intro i
  have hl : j < (fs.mapIdx (ce_f ad M k)).length := by
    have := (List.getElem?_eq_some_iff.mp hj).1
    simpa using this
  by_cases hi : i = j
  · subst hi
    rw [List.getElem?_set_self hl]
    simp only [List.getElem?_mapIdx, hj, Option.map_some, ce_f, upM_self]
  · rw [List.getElem?_set_ne (Ne.symm hi)]
    simp only [List.getElem?_mapIdx]
    congr 1
    funext f
    cases f with
    | none => simp only [ce_f]; rw [upM_ne (Or.inr hi)]
    | some r => rfl
theorem wld_ast {ad : Nat → Nat} {dA : Nat → ClassId} {G : List GD} {M : Mem} {k n i : Nat} {v : Int} (h : G[k]? = some (.inr (.inl n))) : (wld ad dA G M).set k (ad k, .inl (dA 0, n, .inl (upd (fun j => Int32.ofInt (M k j)) i (Int32.ofInt v)))) = wld ad dA G (upM M k i v) := by
  refine wld_ext h ?_ (fun c hc => upM_off c hc)
  simp only [ce]
  congr 4
  funext j
  by_cases hj : j = i
  · subst hj
    simp [upd, upM]
  · simp [upd, upM, hj]

def s_len : List Nat := [5, 4, 4, 2, 3, 3, 4, 4, 6, 5, 4, 4]
def s_byt : List (List Int32) := [[116, 114, 105, 101, 115], [112, 97, 121, 115], [103, 111, 101, 115], [111, 114], [97, 110, 100], [110, 111, 116], [100, 111, 111, 114], [101, 103, 103, 115], [109, 105, 110, 117, 116, 101], [116, 114, 105, 101, 100], [99, 97, 109, 101], [109, 111, 114, 101]]
def s_ix : List (Nat × String) := [(50, "tries"), (56, "pays"), (58, "goes"), (60, "or"), (62, "and"), (64, "not"), (66, "door"), (68, "eggs"), (70, "minute"), (72, "tried"), (74, "came"), (76, "more")]
/-- what stays at every call: the String constants' cells, the links to nest mates' private members -/
def st_ok (adK adV : Nat → Nat) (A : Nat → Prop) (U : State) : Prop :=
  vk_S 12 s_len s_byt adK adV A U U.heap ∧ (∀ (i : Nat) (q : Nat × String), s_ix[i]? = some q → vk_R RX2 q.1 q.2 (adK i) U) ∧ ∀ q ∈ q_nst, va_Nw (.methodLinkNest q.1 q.2.1 q.2.2.1 q.2.2.2) U
theorem st_ok.go {adK adV : Nat → Nat} {A : Nat → Prop} {s U : State} (h : st_ok adK adV A s) (hW : s.WarmedH U.vm) (hq : ∀ a : Nat, a < s.heap.size → ¬ A a → U.heap[a]? = s.heap[a]?) : st_ok adK adV A U :=
  ⟨(h.1.kept hq).moved hW.alike, fun i q hi => (h.2.1 i q hi).warm hW, fun q hq => va_Nw.warmM hW (h.2.2 q hq)⟩
theorem st_ok.same {adK adV : Nat → Nat} {A : Nat → Prop} {s U : State} (h : st_ok adK adV A s) (hv : U.vm = s.vm) (hh : U.heap = s.heap) : st_ok adK adV A U :=
  ⟨by rw [hh]; exact h.1.moved (by rw [hv]; exact Vm.Alike.refl _), fun i q hi => (h.2.1 i q hi).same hv, fun q hq => va_Nw.same rfl hv.symm (h.2.2 q hq)⟩
def rmd (n : Nat) : Room := { frames := n, cells := 0, slots := 0, locals := 40 * n }
def ad_ok (G : List GD) (ad : Nat → Nat) : Prop := ∀ i j, i < G.length → j < G.length → ad i = ad j → i = j
/-- the world of a method: the cells of the graph G with the numbers M, at the addresses ad -/
def wo (G : List GD) (D : va_G) (dA : Nat → ClassId) (adK adV ad : Nat → Nat) (M : Mem) (U : State) : Prop :=
  va_P D vwCl (wld ad dA G M) U.heap ∧ (∀ c i, ib (M c i)) ∧ va_K D vwCl (ty_of dA) U ∧ ad_ok G ad ∧ st_ok adK adV (AA G ad) U
theorem wld_len {ad : Nat → Nat} {dA : Nat → ClassId} {G : List GD} {M : Mem} : (wld ad dA G M).length = G.length := by simp [wld]
theorem wld_D {ad : Nat → Nat} {dA : Nat → ClassId} {G : List GD} {M : Mem} (h : ad_ok G ad) : va_D (AA G ad) (wld ad dA G M) := by
  have key : ∀ (k : Nat) (q : Nat × va_E), (wld ad dA G M)[k]? = some q → k < G.length ∧ q.1 = ad k := by
    intro k q hk
    have hl : k < G.length := by
      have := (List.getElem?_eq_some_iff.mp hk).1
      rwa [wld_len] at this
    simp only [wld, List.getElem?_mapIdx] at hk
    cases hg : G[k]? with
    | none => rw [hg] at hk; cases hk
    | some d => rw [hg] at hk; cases hk; exact ⟨hl, rfl⟩
  refine ⟨fun i j p q hi hj e => ?_, fun k q hk => ?_⟩
  · obtain ⟨h1, e1⟩ := key i p hi
    obtain ⟨h2, e2⟩ := key j q hj
    exact h i j h1 h2 (by rw [← e1, ← e2]; exact e)
  · obtain ⟨h1, e1⟩ := key k q hk
    exact ⟨k, h1, e1⟩
theorem wo.calling {G : List GD} {D : va_G} {dA : Nat → ClassId} {adK adV ad : Nat → Nat} {M : Mem} {U : State} (h : wo G D dA adK adV ad M U) (g : JFrame) (mk : MethodId) (a : Array Value) : wo G D dA adK adV ad M (U.calling g mk a) :=
  ⟨h.1, h.2.1, va_K.moved (u := U) (U := U.calling g mk a) (Vm.Alike.refl U.vm) h.2.2.1, h.2.2.2.1, h.2.2.2.2.same rfl rfl⟩
abbrev ZZ : Type := Program × Launch × Env × State × MethodId × Array Value × List Frame × Method × Code × va_G × (Nat → ClassId) × (Nat → Nat) × (Nat → Nat) × (Nat → Nat)
def qq (G : List GD) (D : va_G) (dA : Nat → ClassId) (adK adV ad : Nat → Nat) (post : Option PV → Mem → Prop) : Array Value → State → Outcome → State → Prop := fun _ st oc t =>
  (∃ (r : Option PV) (M' : Mem), oc = .returned (r.map (tv ad)) ∧ post r M' ∧ wo G D dA adK adV ad M' t) ∧ va_F (AA G ad) st t
def Cx (k : MD) (G : List GD) (z : ZZ) : Prop := match z with
  | (p, _, _, s, m, args, _, meth, c, D, dA, adK, adV, ad) =>
    p.tables.exec = Jvm.exec ∧ c.code = k.2.1 ∧ c.maxLocals = k.2.2.1 ∧ s.vm.findClass k.1.cls = some m.cls ∧ (∀ w ∈ q_tbl, w.before args s = true) ∧ meth.locks = false ∧ meth.sig.returnType = k.2.2.2 ∧ va_K D vwCl (ty_of dA) s ∧ ad_ok G ad ∧ st_ok adK adV (AA G ad) s
def lh (ad : Nat → Nat) (k : MD) (ls : Array Slot) (L : List (Option PV)) : Prop := ls.size = k.2.2.1 ∧ L.length = k.2.2.1 ∧ lv_wf ls ∧ ∀ (i : Nat) (v : PV), L[i]? = some (some v) → ls[i]? = some (Slot.val (tv ad v))
def Bx (k : MD) (G : List GD) (z : ZZ) (L : List (Option PV)) (M : Mem) (H : Heap) (locs : List Loc) (ls : Array Slot) : Prop := match z with
  | (_, _, _, s, _, _, _, _, _, D, dA, _, _, ad) => va_P D vwCl (wld ad dA G M) H ∧ (∀ c i, ib (M c i)) ∧ va_S (AA G ad) s.heap H locs ∧ lh ad k ls L
/-- the machine, from the place pc with the locals L, the stack S, the numbers M, comes to its end with post -/
def WP (k : MD) (G : List GD) (n : Nat) (post : Option PV → Mem → Prop) (z : ZZ) (pc : Nat) (L : List (Option PV)) (S : List PV) (M : Mem) : Prop := match z with
  | (p, l, e, s, m, args, below, meth, c, D, dA, adK, adV, ad) =>
    Cx k G (p, l, e, s, m, args, below, meth, c, D, dA, adK, adV, ad) → ∀ (H : Heap) (locs : List Loc) (ls : Array Slot), Bx k G (p, l, e, s, m, args, below, meth, c, D, dA, adK, adV, ad) L M H locs ls →
      W p l e (rmd n) s m args below meth c H locs 0 0 (MQ below (qq G D dA adK adV ad post) args s 0 0 (AA G ad)) (F0 m pc ls (S.map (tv ad)))
/-- a method's contract, at a depth: from the numbers M, with the arguments As, it returns with post -/
def Con (G : List GD) (d : Nat) (k : MD) (As : List PV) (M : Mem) (post : Option PV → Mem → Prop) : Prop :=
  ∀ (l : Launch) (D : va_G) (dA : Nat → ClassId) (adK adV ad : Nat → Nat), Met l k.1 (Cond.code k.1 k.2.1 k.2.2.1 k.2.2.2 :: q_tbl) (rmd d) (va_Pc (As.map (tv ad)) (fun U => wo G D dA adK adV ad M U)) (qq G D dA adK adV ad post) 0 0 (AA G ad)
def enL : List PV → List (Option PV)
  | [] => []
  | .inr (.inl a) :: r => some (.inr (.inl a)) :: none :: enL r
  | v :: r => some v :: enL r
end
section
theorem i3_toInt {a : Int} (h : ib a) : (Int32.ofInt a).toInt = a := Int32.toInt_ofInt_of_le (by omega) (by omega)
theorem i3_lt {a b : Int} (ha : ib a) (hb : ib b) : Int32.ofInt a < Int32.ofInt b ↔ a < b := by rw [Int32.lt_iff_toInt_lt, i3_toInt ha, i3_toInt hb]
theorem i3_le {a b : Int} (ha : ib a) (hb : ib b) : Int32.ofInt a ≤ Int32.ofInt b ↔ a ≤ b := by rw [Int32.le_iff_toInt_le, i3_toInt ha, i3_toInt hb]
theorem i3_eq {a b : Int} (ha : ib a) (hb : ib b) : Int32.ofInt a = Int32.ofInt b ↔ a = b := by rw [← Int32.toInt_inj, i3_toInt ha, i3_toInt hb]
theorem i3_0 : Int32.ofInt 0 = 0 := rfl
theorem i3_lt0 {a : Int} (ha : ib a) : Int32.ofInt a < 0 ↔ a < 0 := by rw [← i3_0, i3_lt ha (by omega)]
theorem i3_gt0 {a : Int} (ha : ib a) : 0 < Int32.ofInt a ↔ 0 < a := by rw [← i3_0, i3_lt (by omega) ha]
theorem i3_ge0 {a : Int} (ha : ib a) : 0 ≤ Int32.ofInt a ↔ 0 ≤ a := by rw [← i3_0, i3_le (by omega) ha]
theorem i3_le0 {a : Int} (ha : ib a) : Int32.ofInt a ≤ 0 ↔ a ≤ 0 := by rw [← i3_0, i3_le ha (by omega)]
theorem i3_eq0 {a : Int} (ha : ib a) : Int32.ofInt a = 0 ↔ a = 0 := by rw [← i3_0, i3_eq ha (by omega)]
theorem i3_nat {a : Int} (ha : 0 ≤ a) (h : a < 2147483648) : (Int32.ofInt a).toNatClampNeg = a.toNat := Int32.toNatClampNeg_ofInt_of_le (by omega) (by omega)
theorem i3_in {a : Int} {N : Nat} (h0 : 0 ≤ a) (h1 : a < N) (hN : N < 2147483648) : vp_in (Int32.ofInt a) N := by
  rw [vp_in_iff, i3_toInt (by omega)]
  exact ⟨h0, h1⟩
theorem i3_div {a b : Int} (ha : ib a) (hb : ib b) (h : b ≠ -1) : Int32.ofInt a / Int32.ofInt b = Int32.ofInt (a.tdiv b) := by
  rw [← Int32.toInt_inj, Int32.toInt_div_of_ne_right _ _ (fun q => h ((i3_eq hb (by omega)).mp q)), i3_toInt ha, i3_toInt hb]
  refine (i3_toInt ?_).symm
  have h3 := Int.natAbs_tdiv_le_natAbs a b
  rcases Int.lt_trichotomy (a.tdiv b) 0 with q | q | q
  · constructor
    · omega
    · omega
  · omega
  · constructor
    · omega
    · rcases (by omega : a < 0 ∨ 0 ≤ a) with ha0 | ha0
      · rcases (by omega : a < -2147483647 ∨ -2147483647 ≤ a) with hm | hm
        · have e : a = -2147483648 := by omega
          subst e
          rcases (by omega : b < 0 ∨ 0 ≤ b) with hb0 | hb0
          · have hb2 : b ≤ -2 := by omega
            have h5 : ((-2147483648 : Int).tdiv b).natAbs ≤ 1073741824 := by
              rw [Int.natAbs_tdiv]
              exact Nat.le_trans (Nat.div_le_div_left (show 2 ≤ b.natAbs by omega) (by omega)) (by decide)
            omega
          · have : (-2147483648 : Int).tdiv b ≤ 0 := by
              rw [show (-2147483648 : Int) = -(2147483648) by rfl, Int.neg_tdiv]
              have := Int.tdiv_nonneg (a := 2147483648) (b := b) (by omega) (by omega)
              omega
            omega
        · omega
      · omega
theorem i3_rem {a b : Int} (ha : ib a) (hb : ib b) (hb0 : b ≠ 0) : Int32.ofInt a - Int32.ofInt a / Int32.ofInt b * Int32.ofInt b = Int32.ofInt (a.tmod b) := by
  rw [← Int32.toInt_inj, rem_toInt, i3_toInt ha, i3_toInt hb]
  refine (i3_toInt ?_).symm
  have h1 : (a.tmod b).natAbs ≤ a.natAbs := by
    rw [Int.natAbs_tmod]
    exact Nat.mod_le _ _
  rcases (by omega : a < 0 ∨ 0 ≤ a) with h | h
  · have : a.tmod b ≤ 0 := by
      have := Int.tmod_nonneg (a := -a) b (by omega)
      rw [Int.neg_tmod] at this
      omega
    omega
  · have := Int.tmod_nonneg (a := a) b h
    omega
theorem lh_at {ad : Nat → Nat} {k : MD} {ls : Array Slot} {L : List (Option PV)} {i : Nat} {v : PV} (h : lh ad k ls L) (hi : L[i]? = some (some v)) : ls[i]? = some (Slot.val (tv ad v)) := h.2.2.2 i v hi
def nj : Option PV → Bool
  | some (.inr (.inl _)) => false
  | _ => true
def la (ad : Nat → Nat) (L : List (Option PV)) : List (Nat × Value) := L.zipIdx.filterMap (fun q => q.1.map (fun v => (q.2, tv ad v)))
theorem la_mem {ad : Nat → Nat} {L : List (Option PV)} {q : Nat × Value} : q ∈ la ad L ↔ ∃ v, L[q.1]? = some (some v) ∧ q.2 = tv ad v := by
  unfold la
  rw [List.mem_filterMap]
  constructor
  · rintro ⟨⟨a, i⟩, hm, h⟩
    rw [List.mem_zipIdx_iff_getElem?] at hm
    cases a with
    | none => cases h
    | some v => cases h; exact ⟨v, hm, rfl⟩
  · rintro ⟨v, h1, h2⟩
    refine ⟨(some v, q.1), ?_, ?_⟩
    · rw [List.mem_zipIdx_iff_getElem?]
      exact h1
    · rw [← show (q.1, tv ad v) = q by rw [← h2]]
      rfl
theorem lh_has {ad : Nat → Nat} {k : MD} {ls : Array Slot} {L : List (Option PV)} (h : lh ad k ls L) : lv_has ls k.2.2.1 (la ad L) :=
  ⟨h.1, h.2.2.1, fun q hq => by
    obtain ⟨v, h1, h2⟩ := la_mem.mp hq
    rw [h2]
    exact h.2.2.2 _ _ h1⟩
theorem lh_set1 {ad : Nat → Nat} {k : MD} {ls ls2 : Array Slot} {L : List (Option PV)} {i : Nat} {v : PV} (h : lh ad k ls L) (hi : i < k.2.2.1) (hj : ∀ w, L[i - 1]? = some w → nj w = true)
    (h2 : lv_has ls2 k.2.2.1 ((i, tv ad v) :: (la ad L).filter (fun q => !(q.1 == i) && !(q.1 + 1 == i && q.2.category == 2)))) : lh ad k ls2 (L.set i (some v)) := by
  refine ⟨h2.1, by rw [List.length_set]; exact h.2.1, h2.2.1, fun j w hw => ?_⟩
  by_cases hji : j = i
  · subst hji
    rw [List.getElem?_set_self (by rw [h.2.1]; exact hi)] at hw
    cases hw
    exact h2.2.2 (j, tv ad v) List.mem_cons_self
  · rw [List.getElem?_set_ne (Ne.symm hji)] at hw
    refine h2.2.2 (j, tv ad w) (List.mem_cons_of_mem _ (List.mem_filter.mpr ⟨la_mem.mpr ⟨w, hw, rfl⟩, ?_⟩))
    simp only [Bool.and_eq_true, Bool.not_eq_true', beq_eq_false_iff_ne, ne_eq, hji, not_false_eq_true, true_and]
    by_cases hq : j + 1 = i
    · subst hq
      have := hj (some w) (by simpa using hw)
      rcases w with a | a | a
      · simp [tv, Value.category]
      · simp [nj] at this
      · simp [tv, Value.category]
    · simp [hq]
theorem lh_set2 {ad : Nat → Nat} {k : MD} {ls ls2 : Array Slot} {L : List (Option PV)} {i : Nat} {v : PV} (h : lh ad k ls L) (hi : i + 1 < k.2.2.1) (hj : ∀ w, L[i - 1]? = some w → nj w = true)
    (h2 : lv_has ls2 k.2.2.1 ((i, tv ad v) :: (la ad L).filter (fun q => !(q.1 == i) && (!(q.1 == i + 1) && !(q.1 + 1 == i && q.2.category == 2))))) : lh ad k ls2 ((L.set i (some v)).set (i + 1) none) := by
  refine ⟨h2.1, by rw [List.length_set, List.length_set]; exact h.2.1, h2.2.1, fun j w hw => ?_⟩
  by_cases hj1 : j = i + 1
  · subst hj1
    rw [List.getElem?_set_self (by rw [List.length_set, h.2.1]; exact hi)] at hw
    cases hw
  rw [List.getElem?_set_ne (Ne.symm hj1)] at hw
  by_cases hji : j = i
  · subst hji
    rw [List.getElem?_set_self (by rw [h.2.1]; omega)] at hw
    cases hw
    exact h2.2.2 (j, tv ad v) List.mem_cons_self
  · rw [List.getElem?_set_ne (Ne.symm hji)] at hw
    refine h2.2.2 (j, tv ad w) (List.mem_cons_of_mem _ (List.mem_filter.mpr ⟨la_mem.mpr ⟨w, hw, rfl⟩, ?_⟩))
    simp only [Bool.and_eq_true, Bool.not_eq_true', beq_eq_false_iff_ne, ne_eq, hji, hj1, not_false_eq_true, true_and]
    by_cases hq : j + 1 = i
    · subst hq
      have := hj (some w) (by simpa using hw)
      rcases w with a | a | a
      · simp [tv, Value.category]
      · simp [nj] at this
      · simp [tv, Value.category]
    · simp [hq]

theorem r_iconst {k : MD} {G : List GD} {n : Nat} {post : Option PV → Mem → Prop} {z : ZZ} {pc pc2 : Nat} {L : List (Option PV)} {S : List PV} {M : Mem} {a : Int} (hd : Dk k pc (.iconst a) 1 pc2) (kk : WP k G n post z pc2 L (iv a :: S) M) : WP k G n post z pc L (S) M := by
  obtain ⟨p, l, e, s, m, args, below, meth, c, D, dA, adK, adV, ad⟩ := z
  obtain ⟨hd, rfl⟩ := hd
  intro C H locs ls B
  exact lv_iconst C.1 C.2.1 hd rfl (kk C H locs ls B)
theorem r_bipush {k : MD} {G : List GD} {n : Nat} {post : Option PV → Mem → Prop} {z : ZZ} {pc pc2 : Nat} {L : List (Option PV)} {S : List PV} {M : Mem} {a : Int} (hd : Dk k pc (.bipush a) 2 pc2) (h : -128 ≤ a ∧ a < 128) (kk : WP k G n post z pc2 L (iv a :: S) M) : WP k G n post z pc L (S) M := by
  obtain ⟨p, l, e, s, m, args, below, meth, c, D, dA, adK, adV, ad⟩ := z
  obtain ⟨hd, rfl⟩ := hd
  intro C H locs ls B
  refine lv_bipush C.1 C.2.1 hd ?_ (kk C H locs ls B)
  rw [← Int32.toInt_inj, i3_toInt (by omega), Int8.toInt_toInt32, Int8.toInt_ofInt_of_le (by omega) (by omega)]
theorem r_sipush {k : MD} {G : List GD} {n : Nat} {post : Option PV → Mem → Prop} {z : ZZ} {pc pc2 : Nat} {L : List (Option PV)} {S : List PV} {M : Mem} {a : Int} (hd : Dk k pc (.sipush a) 3 pc2) (h : -32768 ≤ a ∧ a < 32768) (kk : WP k G n post z pc2 L (iv a :: S) M) : WP k G n post z pc L (S) M := by
  obtain ⟨p, l, e, s, m, args, below, meth, c, D, dA, adK, adV, ad⟩ := z
  obtain ⟨hd, rfl⟩ := hd
  intro C H locs ls B
  refine lv_sipush C.1 C.2.1 hd ?_ (kk C H locs ls B)
  rw [← Int32.toInt_inj, i3_toInt (by omega), Int16.toInt_toInt32, Int16.toInt_ofInt_of_le (by omega) (by omega)]
theorem r_lconst0 {k : MD} {G : List GD} {n : Nat} {post : Option PV → Mem → Prop} {z : ZZ} {pc pc2 : Nat} {L : List (Option PV)} {S : List PV} {M : Mem}  (hd : Dk k pc (.lconst 0) 1 pc2) (kk : WP k G n post z pc2 L (jv 0 :: S) M) : WP k G n post z pc L (S) M := by
  obtain ⟨p, l, e, s, m, args, below, meth, c, D, dA, adK, adV, ad⟩ := z
  obtain ⟨hd, rfl⟩ := hd
  intro C H locs ls B
  exact lv_lconst C.1 C.2.1 hd rfl (kk C H locs ls B)
theorem r_lconst1 {k : MD} {G : List GD} {n : Nat} {post : Option PV → Mem → Prop} {z : ZZ} {pc pc2 : Nat} {L : List (Option PV)} {S : List PV} {M : Mem}  (hd : Dk k pc (.lconst 1) 1 pc2) (kk : WP k G n post z pc2 L (jv 1 :: S) M) : WP k G n post z pc L (S) M := by
  obtain ⟨p, l, e, s, m, args, below, meth, c, D, dA, adK, adV, ad⟩ := z
  obtain ⟨hd, rfl⟩ := hd
  intro C H locs ls B
  exact lv_lconst C.1 C.2.1 hd rfl (kk C H locs ls B)
theorem r_ldc {k : MD} {G : List GD} {n : Nat} {post : Option PV → Mem → Prop} {z : ZZ} {pc pc2 : Nat} {L : List (Option PV)} {S : List PV} {M : Mem} {a : Int} {i : Nat} (hd : Dk k pc (.ldc i) 2 pc2) (hq : Cond.constant k.1.cls i (Int32.ofInt a) ∈ q_tbl) (kk : WP k G n post z pc2 L (iv a :: S) M) : WP k G n post z pc L (S) M := by
  obtain ⟨p, l, e, s, m, args, below, meth, c, D, dA, adK, adV, ad⟩ := z
  obtain ⟨hd, rfl⟩ := hd
  intro C H locs ls B
  exact lv_ldc C.1 C.2.1 C.2.2.2.1 (C.2.2.2.2.1 _ hq) hd (kk C H locs ls B)
theorem r_ldc2 {k : MD} {G : List GD} {n : Nat} {post : Option PV → Mem → Prop} {z : ZZ} {pc pc2 : Nat} {L : List (Option PV)} {S : List PV} {M : Mem} {a : Int} {i : Nat} (hd : Dk k pc (.ldc2_w i) 3 pc2) (hq : Cond.constantLong k.1.cls i (Int64.ofInt a) ∈ q_tbl) (kk : WP k G n post z pc2 L (jv a :: S) M) : WP k G n post z pc L (S) M := by
  obtain ⟨p, l, e, s, m, args, below, meth, c, D, dA, adK, adV, ad⟩ := z
  obtain ⟨hd, rfl⟩ := hd
  intro C H locs ls B
  exact lv_ldc2 C.1 C.2.1 C.2.2.2.1 (C.2.2.2.2.1 _ hq) hd (kk C H locs ls B)
theorem r_iadd {k : MD} {G : List GD} {n : Nat} {post : Option PV → Mem → Prop} {z : ZZ} {pc pc2 : Nat} {L : List (Option PV)} {S : List PV} {M : Mem} {a b : Int} (hd : Dk k pc (.iadd) 1 pc2) (kk : WP k G n post z pc2 L (iv (a + b) :: S) M) : WP k G n post z pc L (iv b :: iv a :: S) M := by
  obtain ⟨p, l, e, s, m, args, below, meth, c, D, dA, adK, adV, ad⟩ := z
  obtain ⟨hd, rfl⟩ := hd
  intro C H locs ls B
  exact lv_iadd C.1 C.2.1 hd (by rw [← Int32.ofInt_add]; exact kk C H locs ls B)
theorem r_isub {k : MD} {G : List GD} {n : Nat} {post : Option PV → Mem → Prop} {z : ZZ} {pc pc2 : Nat} {L : List (Option PV)} {S : List PV} {M : Mem} {a b : Int} (hd : Dk k pc (.isub) 1 pc2) (kk : WP k G n post z pc2 L (iv (a - b) :: S) M) : WP k G n post z pc L (iv b :: iv a :: S) M := by
  obtain ⟨p, l, e, s, m, args, below, meth, c, D, dA, adK, adV, ad⟩ := z
  obtain ⟨hd, rfl⟩ := hd
  intro C H locs ls B
  exact lv_isub C.1 C.2.1 hd (by rw [← Int32.ofInt_sub]; exact kk C H locs ls B)
theorem r_imul {k : MD} {G : List GD} {n : Nat} {post : Option PV → Mem → Prop} {z : ZZ} {pc pc2 : Nat} {L : List (Option PV)} {S : List PV} {M : Mem} {a b : Int} (hd : Dk k pc (.imul) 1 pc2) (kk : WP k G n post z pc2 L (iv (a * b) :: S) M) : WP k G n post z pc L (iv b :: iv a :: S) M := by
  obtain ⟨p, l, e, s, m, args, below, meth, c, D, dA, adK, adV, ad⟩ := z
  obtain ⟨hd, rfl⟩ := hd
  intro C H locs ls B
  exact lv_imul C.1 C.2.1 hd (by rw [← Int32.ofInt_mul]; exact kk C H locs ls B)
theorem r_ineg {k : MD} {G : List GD} {n : Nat} {post : Option PV → Mem → Prop} {z : ZZ} {pc pc2 : Nat} {L : List (Option PV)} {S : List PV} {M : Mem} {a : Int} (hd : Dk k pc (.ineg) 1 pc2) (kk : WP k G n post z pc2 L (iv (-a) :: S) M) : WP k G n post z pc L (iv a :: S) M := by
  obtain ⟨p, l, e, s, m, args, below, meth, c, D, dA, adK, adV, ad⟩ := z
  obtain ⟨hd, rfl⟩ := hd
  intro C H locs ls B
  exact lv_ineg C.1 C.2.1 hd (by rw [← Int32.ofInt_neg]; exact kk C H locs ls B)
theorem r_ladd {k : MD} {G : List GD} {n : Nat} {post : Option PV → Mem → Prop} {z : ZZ} {pc pc2 : Nat} {L : List (Option PV)} {S : List PV} {M : Mem} {a b : Int} (hd : Dk k pc (.ladd) 1 pc2) (kk : WP k G n post z pc2 L (jv (a + b) :: S) M) : WP k G n post z pc L (jv b :: jv a :: S) M := by
  obtain ⟨p, l, e, s, m, args, below, meth, c, D, dA, adK, adV, ad⟩ := z
  obtain ⟨hd, rfl⟩ := hd
  intro C H locs ls B
  exact lv_ladd C.1 C.2.1 hd (by rw [← Int64.ofInt_add]; exact kk C H locs ls B)
theorem r_lmul {k : MD} {G : List GD} {n : Nat} {post : Option PV → Mem → Prop} {z : ZZ} {pc pc2 : Nat} {L : List (Option PV)} {S : List PV} {M : Mem} {a b : Int} (hd : Dk k pc (.lmul) 1 pc2) (kk : WP k G n post z pc2 L (jv (a * b) :: S) M) : WP k G n post z pc L (jv b :: jv a :: S) M := by
  obtain ⟨p, l, e, s, m, args, below, meth, c, D, dA, adK, adV, ad⟩ := z
  obtain ⟨hd, rfl⟩ := hd
  intro C H locs ls B
  exact lv_lmul C.1 C.2.1 hd (by rw [← Int64.ofInt_mul]; exact kk C H locs ls B)
theorem r_idiv {k : MD} {G : List GD} {n : Nat} {post : Option PV → Mem → Prop} {z : ZZ} {pc pc2 : Nat} {L : List (Option PV)} {S : List PV} {M : Mem} {a b : Int} (hd : Dk k pc (.idiv) 1 pc2) (ha : ib a) (hb : ib b) (h0 : b ≠ 0) (h1 : b ≠ -1) (kk : WP k G n post z pc2 L (iv (a.tdiv b) :: S) M) : WP k G n post z pc L (iv b :: iv a :: S) M := by
  obtain ⟨p, l, e, s, m, args, below, meth, c, D, dA, adK, adV, ad⟩ := z
  obtain ⟨hd, rfl⟩ := hd
  intro C H locs ls B
  exact lv_idiv C.1 C.2.1 hd (fun q => h0 ((i3_eq0 hb).mp q)) (by rw [i3_div ha hb h1]; exact kk C H locs ls B)
theorem r_irem {k : MD} {G : List GD} {n : Nat} {post : Option PV → Mem → Prop} {z : ZZ} {pc pc2 : Nat} {L : List (Option PV)} {S : List PV} {M : Mem} {a b : Int} (hd : Dk k pc (.irem) 1 pc2) (ha : ib a) (hb : ib b) (h0 : b ≠ 0) (kk : WP k G n post z pc2 L (iv (a.tmod b) :: S) M) : WP k G n post z pc L (iv b :: iv a :: S) M := by
  obtain ⟨p, l, e, s, m, args, below, meth, c, D, dA, adK, adV, ad⟩ := z
  obtain ⟨hd, rfl⟩ := hd
  intro C H locs ls B
  exact lv_irem C.1 C.2.1 hd (fun q => h0 ((i3_eq0 hb).mp q)) (by rw [i3_rem ha hb h0]; exact kk C H locs ls B)
theorem r_as {k : MD} {G : List GD} {n : Nat} {post : Option PV → Mem → Prop} {z : ZZ} {pc : Nat} {L : List (Option PV)} {S : List PV} {M : Mem} {a b : Int} (h : Int32.ofInt a = Int32.ofInt b) (kk : WP k G n post z pc L (iv b :: S) M) : WP k G n post z pc L (iv a :: S) M := by
  obtain ⟨p, l, e, s, m, args, below, meth, c, D, dA, adK, adV, ad⟩ := z
  intro C H locs ls B
  have := kk C H locs ls B
  show W _ _ _ _ _ _ _ _ _ _ _ _ _ _ _ (F0 m pc ls (tv ad (iv a) :: _))
  rw [show tv ad (iv a) = tv ad (iv b) by simp only [tv]; rw [h]]
  exact this
theorem r_asj {k : MD} {G : List GD} {n : Nat} {post : Option PV → Mem → Prop} {z : ZZ} {pc : Nat} {L : List (Option PV)} {S : List PV} {M : Mem} {a b : Int} (h : Int64.ofInt a = Int64.ofInt b) (kk : WP k G n post z pc L (jv b :: S) M) : WP k G n post z pc L (jv a :: S) M := by
  obtain ⟨p, l, e, s, m, args, below, meth, c, D, dA, adK, adV, ad⟩ := z
  intro C H locs ls B
  have := kk C H locs ls B
  show W _ _ _ _ _ _ _ _ _ _ _ _ _ _ _ (F0 m pc ls (tv ad (jv a) :: _))
  rw [show tv ad (jv a) = tv ad (jv b) by simp only [tv]; rw [h]]
  exact this
theorem r_mb {k : MD} {G : List GD} {n : Nat} {post : Option PV → Mem → Prop} {z : ZZ} {pc : Nat} {L : List (Option PV)} {S : List PV} {M : Mem} (kk : (∀ c i, ib (M c i)) → WP k G n post z pc L S M) : WP k G n post z pc L S M := by
  obtain ⟨p, l, e, s, m, args, below, meth, c, D, dA, adK, adV, ad⟩ := z
  intro C H locs ls B
  exact kk B.2.1 C H locs ls B
theorem r_ishl {k : MD} {G : List GD} {n : Nat} {post : Option PV → Mem → Prop} {z : ZZ} {pc pc2 : Nat} {L : List (Option PV)} {S : List PV} {M : Mem} {a b r : Int} (hd : Dk k pc (.ishl) 1 pc2) (h : Int32.ofInt a <<< (Int32.ofInt b &&& 31) = Int32.ofInt r) (kk : WP k G n post z pc2 L (iv r :: S) M) : WP k G n post z pc L (iv b :: iv a :: S) M := by
  obtain ⟨p, l, e, s, m, args, below, meth, c, D, dA, adK, adV, ad⟩ := z
  obtain ⟨hd, rfl⟩ := hd
  intro C H locs ls B
  exact lv_ishl C.1 C.2.1 hd (by rw [h]; exact kk C H locs ls B)
theorem r_ishr {k : MD} {G : List GD} {n : Nat} {post : Option PV → Mem → Prop} {z : ZZ} {pc pc2 : Nat} {L : List (Option PV)} {S : List PV} {M : Mem} {a b r : Int} (hd : Dk k pc (.ishr) 1 pc2) (h : Int32.ofInt a >>> (Int32.ofInt b &&& 31) = Int32.ofInt r) (kk : WP k G n post z pc2 L (iv r :: S) M) : WP k G n post z pc L (iv b :: iv a :: S) M := by
  obtain ⟨p, l, e, s, m, args, below, meth, c, D, dA, adK, adV, ad⟩ := z
  obtain ⟨hd, rfl⟩ := hd
  intro C H locs ls B
  exact lv_ishr C.1 C.2.1 hd (by rw [h]; exact kk C H locs ls B)
theorem r_ior {k : MD} {G : List GD} {n : Nat} {post : Option PV → Mem → Prop} {z : ZZ} {pc pc2 : Nat} {L : List (Option PV)} {S : List PV} {M : Mem} {a b r : Int} (hd : Dk k pc (.ior) 1 pc2) (h : Int32.ofInt a ||| Int32.ofInt b = Int32.ofInt r) (kk : WP k G n post z pc2 L (iv r :: S) M) : WP k G n post z pc L (iv b :: iv a :: S) M := by
  obtain ⟨p, l, e, s, m, args, below, meth, c, D, dA, adK, adV, ad⟩ := z
  obtain ⟨hd, rfl⟩ := hd
  intro C H locs ls B
  exact lv_ior C.1 C.2.1 hd (by rw [h]; exact kk C H locs ls B)
theorem r_iand {k : MD} {G : List GD} {n : Nat} {post : Option PV → Mem → Prop} {z : ZZ} {pc pc2 : Nat} {L : List (Option PV)} {S : List PV} {M : Mem} {a b r : Int} (hd : Dk k pc (.iand) 1 pc2) (h : Int32.ofInt a &&& Int32.ofInt b = Int32.ofInt r) (kk : WP k G n post z pc2 L (iv r :: S) M) : WP k G n post z pc L (iv b :: iv a :: S) M := by
  obtain ⟨p, l, e, s, m, args, below, meth, c, D, dA, adK, adV, ad⟩ := z
  obtain ⟨hd, rfl⟩ := hd
  intro C H locs ls B
  exact lv_iand C.1 C.2.1 hd (by rw [h]; exact kk C H locs ls B)
theorem r_iushr {k : MD} {G : List GD} {n : Nat} {post : Option PV → Mem → Prop} {z : ZZ} {pc pc2 : Nat} {L : List (Option PV)} {S : List PV} {M : Mem} {a b r : Int} (hd : Dk k pc (.iushr) 1 pc2) (h : ((Int32.ofInt a).toUInt32 >>> ((Int32.ofInt b).toUInt32 &&& Int32.toUInt32 31)).toInt32 = Int32.ofInt r) (kk : WP k G n post z pc2 L (iv r :: S) M) : WP k G n post z pc L (iv b :: iv a :: S) M := by
  obtain ⟨p, l, e, s, m, args, below, meth, c, D, dA, adK, adV, ad⟩ := z
  obtain ⟨hd, rfl⟩ := hd
  intro C H locs ls B
  exact lv_iushr C.1 C.2.1 hd h (kk C H locs ls B)
theorem r_i2b {k : MD} {G : List GD} {n : Nat} {post : Option PV → Mem → Prop} {z : ZZ} {pc pc2 : Nat} {L : List (Option PV)} {S : List PV} {M : Mem} {a r : Int} (hd : Dk k pc (.i2b) 1 pc2) (h : (Int32.ofInt a).toInt8.toInt32 = Int32.ofInt r) (kk : WP k G n post z pc2 L (iv r :: S) M) : WP k G n post z pc L (iv a :: S) M := by
  obtain ⟨p, l, e, s, m, args, below, meth, c, D, dA, adK, adV, ad⟩ := z
  obtain ⟨hd, rfl⟩ := hd
  intro C H locs ls B
  exact lv_i2b C.1 C.2.1 hd h (kk C H locs ls B)
theorem r_i2s {k : MD} {G : List GD} {n : Nat} {post : Option PV → Mem → Prop} {z : ZZ} {pc pc2 : Nat} {L : List (Option PV)} {S : List PV} {M : Mem} {a r : Int} (hd : Dk k pc (.i2s) 1 pc2) (h : (Int32.ofInt a).toInt16.toInt32 = Int32.ofInt r) (kk : WP k G n post z pc2 L (iv r :: S) M) : WP k G n post z pc L (iv a :: S) M := by
  obtain ⟨p, l, e, s, m, args, below, meth, c, D, dA, adK, adV, ad⟩ := z
  obtain ⟨hd, rfl⟩ := hd
  intro C H locs ls B
  exact lv_i2s C.1 C.2.1 hd h (kk C H locs ls B)
theorem r_i2l {k : MD} {G : List GD} {n : Nat} {post : Option PV → Mem → Prop} {z : ZZ} {pc pc2 : Nat} {L : List (Option PV)} {S : List PV} {M : Mem} {a : Int} (hd : Dk k pc (.i2l) 1 pc2) (h : ib a) (kk : WP k G n post z pc2 L (jv a :: S) M) : WP k G n post z pc L (iv a :: S) M := by
  obtain ⟨p, l, e, s, m, args, below, meth, c, D, dA, adK, adV, ad⟩ := z
  obtain ⟨hd, rfl⟩ := hd
  intro C H locs ls B
  exact lv_i2l C.1 C.2.1 hd (Int64.toInt_inj.mp (by rw [Int32.toInt_toInt64, i3_toInt h, Int64.toInt_ofInt_of_le (by omega) (by omega)])) (kk C H locs ls B)
theorem r_l2i {k : MD} {G : List GD} {n : Nat} {post : Option PV → Mem → Prop} {z : ZZ} {pc pc2 : Nat} {L : List (Option PV)} {S : List PV} {M : Mem} {a : Int} (hd : Dk k pc (.l2i) 1 pc2) (kk : WP k G n post z pc2 L (iv a :: S) M) : WP k G n post z pc L (jv a :: S) M := by
  obtain ⟨p, l, e, s, m, args, below, meth, c, D, dA, adK, adV, ad⟩ := z
  obtain ⟨hd, rfl⟩ := hd
  intro C H locs ls B
  exact lv_l2i C.1 C.2.1 hd (by rw [Int64.toInt32_ofInt]) (kk C H locs ls B)
theorem r_ldiv {k : MD} {G : List GD} {n : Nat} {post : Option PV → Mem → Prop} {z : ZZ} {pc pc2 : Nat} {L : List (Option PV)} {S : List PV} {M : Mem} {a b r : Int} (hd : Dk k pc (.ldiv) 1 pc2) (h0 : ¬ Int64.ofInt b = 0) (h : Int64.ofInt a / Int64.ofInt b = Int64.ofInt r) (kk : WP k G n post z pc2 L (jv r :: S) M) : WP k G n post z pc L (jv b :: jv a :: S) M := by
  obtain ⟨p, l, e, s, m, args, below, meth, c, D, dA, adK, adV, ad⟩ := z
  obtain ⟨hd, rfl⟩ := hd
  intro C H locs ls B
  exact lv_ldiv C.1 C.2.1 hd h0 (by rw [h]; exact kk C H locs ls B)
theorem r_lrem {k : MD} {G : List GD} {n : Nat} {post : Option PV → Mem → Prop} {z : ZZ} {pc pc2 : Nat} {L : List (Option PV)} {S : List PV} {M : Mem} {a b r : Int} (hd : Dk k pc (.lrem) 1 pc2) (h0 : ¬ Int64.ofInt b = 0) (h : Int64.ofInt a - Int64.ofInt a / Int64.ofInt b * Int64.ofInt b = Int64.ofInt r) (kk : WP k G n post z pc2 L (jv r :: S) M) : WP k G n post z pc L (jv b :: jv a :: S) M := by
  obtain ⟨p, l, e, s, m, args, below, meth, c, D, dA, adK, adV, ad⟩ := z
  obtain ⟨hd, rfl⟩ := hd
  intro C H locs ls B
  exact lv_lrem C.1 C.2.1 hd h0 (by rw [h]; exact kk C H locs ls B)
theorem r_lcmp {k : MD} {G : List GD} {n : Nat} {post : Option PV → Mem → Prop} {z : ZZ} {pc pc2 : Nat} {L : List (Option PV)} {S : List PV} {M : Mem} {a b r : Int} (hd : Dk k pc (.lcmp) 1 pc2) (h : lg_cmp (Int64.ofInt a) (Int64.ofInt b) = Int32.ofInt r) (kk : WP k G n post z pc2 L (iv r :: S) M) : WP k G n post z pc L (jv b :: jv a :: S) M := by
  obtain ⟨p, l, e, s, m, args, below, meth, c, D, dA, adK, adV, ad⟩ := z
  obtain ⟨hd, rfl⟩ := hd
  intro C H locs ls B
  exact W.lcmp C.1 C.2.1 hd (by rw [h]; exact kk C H locs ls B)
theorem r_dup_i {k : MD} {G : List GD} {n : Nat} {post : Option PV → Mem → Prop} {z : ZZ} {pc pc2 : Nat} {L : List (Option PV)} {S : List PV} {M : Mem} {a : Int} (hd : Dk k pc (.dup) 1 pc2) (kk : WP k G n post z pc2 L (iv a :: iv a :: S) M) : WP k G n post z pc L (iv a :: S) M := by
  obtain ⟨p, l, e, s, m, args, below, meth, c, D, dA, adK, adV, ad⟩ := z
  obtain ⟨hd, rfl⟩ := hd
  intro C H locs ls B
  exact lv_dup C.1 C.2.1 hd rfl (kk C H locs ls B)
theorem r_dup_r {k : MD} {G : List GD} {n : Nat} {post : Option PV → Mem → Prop} {z : ZZ} {pc pc2 : Nat} {L : List (Option PV)} {S : List PV} {M : Mem} {a : Nat} (hd : Dk k pc (.dup) 1 pc2) (kk : WP k G n post z pc2 L (rv a :: rv a :: S) M) : WP k G n post z pc L (rv a :: S) M := by
  obtain ⟨p, l, e, s, m, args, below, meth, c, D, dA, adK, adV, ad⟩ := z
  obtain ⟨hd, rfl⟩ := hd
  intro C H locs ls B
  exact lv_dup C.1 C.2.1 hd rfl (kk C H locs ls B)
theorem r_pop_i {k : MD} {G : List GD} {n : Nat} {post : Option PV → Mem → Prop} {z : ZZ} {pc pc2 : Nat} {L : List (Option PV)} {S : List PV} {M : Mem} {a : Int} (hd : Dk k pc (.pop) 1 pc2) (kk : WP k G n post z pc2 L (S) M) : WP k G n post z pc L (iv a :: S) M := by
  obtain ⟨p, l, e, s, m, args, below, meth, c, D, dA, adK, adV, ad⟩ := z
  obtain ⟨hd, rfl⟩ := hd
  intro C H locs ls B
  exact lv_pop C.1 C.2.1 hd rfl (kk C H locs ls B)
theorem r_pop_r {k : MD} {G : List GD} {n : Nat} {post : Option PV → Mem → Prop} {z : ZZ} {pc pc2 : Nat} {L : List (Option PV)} {S : List PV} {M : Mem} {a : Nat} (hd : Dk k pc (.pop) 1 pc2) (kk : WP k G n post z pc2 L (S) M) : WP k G n post z pc L (rv a :: S) M := by
  obtain ⟨p, l, e, s, m, args, below, meth, c, D, dA, adK, adV, ad⟩ := z
  obtain ⟨hd, rfl⟩ := hd
  intro C H locs ls B
  exact lv_pop C.1 C.2.1 hd rfl (kk C H locs ls B)
theorem r_dup2 {k : MD} {G : List GD} {n : Nat} {post : Option PV → Mem → Prop} {z : ZZ} {pc pc2 : Nat} {L : List (Option PV)} {S : List PV} {M : Mem} {a : Int} {b : Nat} (hd : Dk k pc (.dup2) 1 pc2) (kk : WP k G n post z pc2 L (iv a :: rv b :: iv a :: rv b :: S) M) : WP k G n post z pc L (iv a :: rv b :: S) M := by
  obtain ⟨p, l, e, s, m, args, below, meth, c, D, dA, adK, adV, ad⟩ := z
  obtain ⟨hd, rfl⟩ := hd
  intro C H locs ls B
  exact lv_dup2_11 C.1 C.2.1 hd rfl rfl (kk C H locs ls B)
theorem r_icmp_eq {k : MD} {G : List GD} {n : Nat} {post : Option PV → Mem → Prop} {z : ZZ} {pc pc2 : Nat} {L : List (Option PV)} {S : List PV} {M : Mem} {tgt : Nat} {a b : Int} (hd : Dj k pc (fun o => .if_icmp .eq o) 3 pc2 tgt) (ha : ib a) (hb : ib b) (kt : a = b → WP k G n post z tgt L S M) (kf : ¬ a = b → WP k G n post z pc2 L S M) : WP k G n post z pc L (iv b :: iv a :: S) M := by
  obtain ⟨p, l, e, s, m, args, below, meth, c, D, dA, adK, adV, ad⟩ := z
  obtain ⟨off, hd, rfl, ht⟩ := hd
  intro C H locs ls B
  exact lv_icmp_eq C.1 C.2.1 hd ht (fun q => kt ((i3_eq ha hb).mp q) C H locs ls B) (fun q => kf (fun w => q ((i3_eq ha hb).mpr w)) C H locs ls B)
theorem r_if_eq {k : MD} {G : List GD} {n : Nat} {post : Option PV → Mem → Prop} {z : ZZ} {pc pc2 : Nat} {L : List (Option PV)} {S : List PV} {M : Mem} {tgt : Nat} {a : Int} (hd : Dj k pc (fun o => .ifCond .eq o) 3 pc2 tgt) (ha : ib a) (kt : a = 0 → WP k G n post z tgt L S M) (kf : ¬ a = 0 → WP k G n post z pc2 L S M) : WP k G n post z pc L (iv a :: S) M := by
  obtain ⟨p, l, e, s, m, args, below, meth, c, D, dA, adK, adV, ad⟩ := z
  obtain ⟨off, hd, rfl, ht⟩ := hd
  intro C H locs ls B
  exact lv_if_eq C.1 C.2.1 hd ht (fun q => kt ((i3_eq0 ha).mp q) C H locs ls B) (fun q => kf (fun w => q ((i3_eq0 ha).mpr w)) C H locs ls B)
theorem r_icmp_ne {k : MD} {G : List GD} {n : Nat} {post : Option PV → Mem → Prop} {z : ZZ} {pc pc2 : Nat} {L : List (Option PV)} {S : List PV} {M : Mem} {tgt : Nat} {a b : Int} (hd : Dj k pc (fun o => .if_icmp .ne o) 3 pc2 tgt) (ha : ib a) (hb : ib b) (kt : ¬ a = b → WP k G n post z tgt L S M) (kf : a = b → WP k G n post z pc2 L S M) : WP k G n post z pc L (iv b :: iv a :: S) M := by
  obtain ⟨p, l, e, s, m, args, below, meth, c, D, dA, adK, adV, ad⟩ := z
  obtain ⟨off, hd, rfl, ht⟩ := hd
  intro C H locs ls B
  exact lv_icmp_ne C.1 C.2.1 hd ht (fun q => kt (fun w => q ((i3_eq ha hb).mpr w)) C H locs ls B) (fun q => kf ((i3_eq ha hb).mp q) C H locs ls B)
theorem r_if_ne {k : MD} {G : List GD} {n : Nat} {post : Option PV → Mem → Prop} {z : ZZ} {pc pc2 : Nat} {L : List (Option PV)} {S : List PV} {M : Mem} {tgt : Nat} {a : Int} (hd : Dj k pc (fun o => .ifCond .ne o) 3 pc2 tgt) (ha : ib a) (kt : ¬ a = 0 → WP k G n post z tgt L S M) (kf : a = 0 → WP k G n post z pc2 L S M) : WP k G n post z pc L (iv a :: S) M := by
  obtain ⟨p, l, e, s, m, args, below, meth, c, D, dA, adK, adV, ad⟩ := z
  obtain ⟨off, hd, rfl, ht⟩ := hd
  intro C H locs ls B
  exact lv_if_ne C.1 C.2.1 hd ht (fun q => kt (fun w => q ((i3_eq0 ha).mpr w)) C H locs ls B) (fun q => kf ((i3_eq0 ha).mp q) C H locs ls B)
theorem r_icmp_lt {k : MD} {G : List GD} {n : Nat} {post : Option PV → Mem → Prop} {z : ZZ} {pc pc2 : Nat} {L : List (Option PV)} {S : List PV} {M : Mem} {tgt : Nat} {a b : Int} (hd : Dj k pc (fun o => .if_icmp .lt o) 3 pc2 tgt) (ha : ib a) (hb : ib b) (kt : a < b → WP k G n post z tgt L S M) (kf : b ≤ a → WP k G n post z pc2 L S M) : WP k G n post z pc L (iv b :: iv a :: S) M := by
  obtain ⟨p, l, e, s, m, args, below, meth, c, D, dA, adK, adV, ad⟩ := z
  obtain ⟨off, hd, rfl, ht⟩ := hd
  intro C H locs ls B
  exact lv_icmp_lt C.1 C.2.1 hd ht (fun q => kt ((i3_lt ha hb).mp q) C H locs ls B) (fun q => kf (by have w := mt (i3_lt ha hb).mpr q; omega) C H locs ls B)
theorem r_if_lt {k : MD} {G : List GD} {n : Nat} {post : Option PV → Mem → Prop} {z : ZZ} {pc pc2 : Nat} {L : List (Option PV)} {S : List PV} {M : Mem} {tgt : Nat} {a : Int} (hd : Dj k pc (fun o => .ifCond .lt o) 3 pc2 tgt) (ha : ib a) (kt : a < 0 → WP k G n post z tgt L S M) (kf : 0 ≤ a → WP k G n post z pc2 L S M) : WP k G n post z pc L (iv a :: S) M := by
  obtain ⟨p, l, e, s, m, args, below, meth, c, D, dA, adK, adV, ad⟩ := z
  obtain ⟨off, hd, rfl, ht⟩ := hd
  intro C H locs ls B
  exact lv_if_lt C.1 C.2.1 hd ht (fun q => kt ((i3_lt0 ha).mp q) C H locs ls B) (fun q => kf (by have w := mt (i3_lt0 ha).mpr q; omega) C H locs ls B)
theorem r_icmp_ge {k : MD} {G : List GD} {n : Nat} {post : Option PV → Mem → Prop} {z : ZZ} {pc pc2 : Nat} {L : List (Option PV)} {S : List PV} {M : Mem} {tgt : Nat} {a b : Int} (hd : Dj k pc (fun o => .if_icmp .ge o) 3 pc2 tgt) (ha : ib a) (hb : ib b) (kt : b ≤ a → WP k G n post z tgt L S M) (kf : a < b → WP k G n post z pc2 L S M) : WP k G n post z pc L (iv b :: iv a :: S) M := by
  obtain ⟨p, l, e, s, m, args, below, meth, c, D, dA, adK, adV, ad⟩ := z
  obtain ⟨off, hd, rfl, ht⟩ := hd
  intro C H locs ls B
  exact lv_icmp_ge C.1 C.2.1 hd ht (fun q => kt ((i3_le hb ha).mp q) C H locs ls B) (fun q => kf (by have w := mt (i3_le hb ha).mpr q; omega) C H locs ls B)
theorem r_if_ge {k : MD} {G : List GD} {n : Nat} {post : Option PV → Mem → Prop} {z : ZZ} {pc pc2 : Nat} {L : List (Option PV)} {S : List PV} {M : Mem} {tgt : Nat} {a : Int} (hd : Dj k pc (fun o => .ifCond .ge o) 3 pc2 tgt) (ha : ib a) (kt : 0 ≤ a → WP k G n post z tgt L S M) (kf : a < 0 → WP k G n post z pc2 L S M) : WP k G n post z pc L (iv a :: S) M := by
  obtain ⟨p, l, e, s, m, args, below, meth, c, D, dA, adK, adV, ad⟩ := z
  obtain ⟨off, hd, rfl, ht⟩ := hd
  intro C H locs ls B
  exact lv_if_ge C.1 C.2.1 hd ht (fun q => kt ((i3_ge0 ha).mp q) C H locs ls B) (fun q => kf (by have w := mt (i3_ge0 ha).mpr q; omega) C H locs ls B)
theorem r_icmp_gt {k : MD} {G : List GD} {n : Nat} {post : Option PV → Mem → Prop} {z : ZZ} {pc pc2 : Nat} {L : List (Option PV)} {S : List PV} {M : Mem} {tgt : Nat} {a b : Int} (hd : Dj k pc (fun o => .if_icmp .gt o) 3 pc2 tgt) (ha : ib a) (hb : ib b) (kt : b < a → WP k G n post z tgt L S M) (kf : a ≤ b → WP k G n post z pc2 L S M) : WP k G n post z pc L (iv b :: iv a :: S) M := by
  obtain ⟨p, l, e, s, m, args, below, meth, c, D, dA, adK, adV, ad⟩ := z
  obtain ⟨off, hd, rfl, ht⟩ := hd
  intro C H locs ls B
  exact lv_icmp_gt C.1 C.2.1 hd ht (fun q => kt ((i3_lt hb ha).mp q) C H locs ls B) (fun q => kf (by have w := mt (i3_lt hb ha).mpr q; omega) C H locs ls B)
theorem r_if_gt {k : MD} {G : List GD} {n : Nat} {post : Option PV → Mem → Prop} {z : ZZ} {pc pc2 : Nat} {L : List (Option PV)} {S : List PV} {M : Mem} {tgt : Nat} {a : Int} (hd : Dj k pc (fun o => .ifCond .gt o) 3 pc2 tgt) (ha : ib a) (kt : 0 < a → WP k G n post z tgt L S M) (kf : a ≤ 0 → WP k G n post z pc2 L S M) : WP k G n post z pc L (iv a :: S) M := by
  obtain ⟨p, l, e, s, m, args, below, meth, c, D, dA, adK, adV, ad⟩ := z
  obtain ⟨off, hd, rfl, ht⟩ := hd
  intro C H locs ls B
  exact lv_if_gt C.1 C.2.1 hd ht (fun q => kt ((i3_gt0 ha).mp q) C H locs ls B) (fun q => kf (by have w := mt (i3_gt0 ha).mpr q; omega) C H locs ls B)
theorem r_icmp_le {k : MD} {G : List GD} {n : Nat} {post : Option PV → Mem → Prop} {z : ZZ} {pc pc2 : Nat} {L : List (Option PV)} {S : List PV} {M : Mem} {tgt : Nat} {a b : Int} (hd : Dj k pc (fun o => .if_icmp .le o) 3 pc2 tgt) (ha : ib a) (hb : ib b) (kt : a ≤ b → WP k G n post z tgt L S M) (kf : b < a → WP k G n post z pc2 L S M) : WP k G n post z pc L (iv b :: iv a :: S) M := by
  obtain ⟨p, l, e, s, m, args, below, meth, c, D, dA, adK, adV, ad⟩ := z
  obtain ⟨off, hd, rfl, ht⟩ := hd
  intro C H locs ls B
  exact lv_icmp_le C.1 C.2.1 hd ht (fun q => kt ((i3_le ha hb).mp q) C H locs ls B) (fun q => kf (by have w := mt (i3_le ha hb).mpr q; omega) C H locs ls B)
theorem r_if_le {k : MD} {G : List GD} {n : Nat} {post : Option PV → Mem → Prop} {z : ZZ} {pc pc2 : Nat} {L : List (Option PV)} {S : List PV} {M : Mem} {tgt : Nat} {a : Int} (hd : Dj k pc (fun o => .ifCond .le o) 3 pc2 tgt) (ha : ib a) (kt : a ≤ 0 → WP k G n post z tgt L S M) (kf : 0 < a → WP k G n post z pc2 L S M) : WP k G n post z pc L (iv a :: S) M := by
  obtain ⟨p, l, e, s, m, args, below, meth, c, D, dA, adK, adV, ad⟩ := z
  obtain ⟨off, hd, rfl, ht⟩ := hd
  intro C H locs ls B
  exact lv_if_le C.1 C.2.1 hd ht (fun q => kt ((i3_le0 ha).mp q) C H locs ls B) (fun q => kf (by have w := mt (i3_le0 ha).mpr q; omega) C H locs ls B)
def bi (b : Bool) : Int := if b then 1 else 0
theorem bi_ib (b : Bool) : ib (bi b) := by cases b <;> decide
theorem bi_01 (b : Bool) : bi b = 0 ∨ bi b = 1 := by cases b <;> decide
theorem bi_0 {b : Bool} : bi b = 0 ↔ b = false := by cases b <;> decide
theorem r_ifb_eq {k : MD} {G : List GD} {n : Nat} {post : Option PV → Mem → Prop} {z : ZZ} {pc pc2 : Nat} {L : List (Option PV)} {S : List PV} {M : Mem} {tgt : Nat} {b : Bool} (hd : Dj k pc (fun o => .ifCond .eq o) 3 pc2 tgt) (kt : b = false → WP k G n post z tgt L S M) (kf : b = true → WP k G n post z pc2 L S M) : WP k G n post z pc L (iv (bi b) :: S) M :=
  r_if_eq hd (bi_ib b) (fun q => kt (bi_0.mp q)) (fun q => kf (by cases b with | true => rfl | false => exact absurd rfl q))
theorem r_ifd_eq {k : MD} {G : List GD} {n : Nat} {post : Option PV → Mem → Prop} {z : ZZ} {pc pc2 : Nat} {L : List (Option PV)} {S : List PV} {M : Mem} {tgt : Nat} {p0 : Prop} [Decidable p0] (hd : Dj k pc (fun o => .ifCond .eq o) 3 pc2 tgt) (kt : ¬ p0 → WP k G n post z tgt L S M) (kf : p0 → WP k G n post z pc2 L S M) : WP k G n post z pc L (iv (bi (decide p0)) :: S) M :=
  r_ifb_eq hd (fun q => kt (of_decide_eq_false q)) (fun q => kf (of_decide_eq_true q))
theorem r_ifb_ne {k : MD} {G : List GD} {n : Nat} {post : Option PV → Mem → Prop} {z : ZZ} {pc pc2 : Nat} {L : List (Option PV)} {S : List PV} {M : Mem} {tgt : Nat} {b : Bool} (hd : Dj k pc (fun o => .ifCond .ne o) 3 pc2 tgt) (kt : b = true → WP k G n post z tgt L S M) (kf : b = false → WP k G n post z pc2 L S M) : WP k G n post z pc L (iv (bi b) :: S) M :=
  r_if_ne hd (bi_ib b) (fun q => kt (by cases b with | true => rfl | false => exact absurd rfl q)) (fun q => kf (bi_0.mp q))
theorem r_ifd_ne {k : MD} {G : List GD} {n : Nat} {post : Option PV → Mem → Prop} {z : ZZ} {pc pc2 : Nat} {L : List (Option PV)} {S : List PV} {M : Mem} {tgt : Nat} {p0 : Prop} [Decidable p0] (hd : Dj k pc (fun o => .ifCond .ne o) 3 pc2 tgt) (kt : p0 → WP k G n post z tgt L S M) (kf : ¬ p0 → WP k G n post z pc2 L S M) : WP k G n post z pc L (iv (bi (decide p0)) :: S) M :=
  r_ifb_ne hd (fun q => kt (of_decide_eq_true q)) (fun q => kf (of_decide_eq_false q))
theorem r_goto {k : MD} {G : List GD} {n : Nat} {post : Option PV → Mem → Prop} {z : ZZ} {pc pc2 : Nat} {L : List (Option PV)} {S : List PV} {M : Mem} {tgt : Nat} (hd : Dj k pc (fun o => .goto o) 3 pc2 tgt) (kk : WP k G n post z tgt L S M) : WP k G n post z pc L S M := by
  obtain ⟨p, l, e, s, m, args, below, meth, c, D, dA, adK, adV, ad⟩ := z
  obtain ⟨off, hd, rfl, ht⟩ := hd
  intro C H locs ls B
  exact lv_goto C.1 C.2.1 hd ht (kk C H locs ls B)
theorem r_iload_0 {k : MD} {G : List GD} {n : Nat} {post : Option PV → Mem → Prop} {z : ZZ} {pc pc2 : Nat} {S : List PV} {M : Mem}  {R : List (Option PV)} {x : Int} (hd : Dk k pc (.iload_n 0) 1 pc2) (kk : WP k G n post z pc2 (some (iv x) :: R) (iv x :: S) M) : WP k G n post z pc (some (iv x) :: R) S M := by
  obtain ⟨p, l, e, s, m, args, below, meth, c, D, dA, adK, adV, ad⟩ := z
  obtain ⟨hd, rfl⟩ := hd
  intro C H locs ls B
  exact lv_iload_n C.1 C.2.1 hd rfl (lh_at B.2.2.2 (i := 0) rfl) (kk C H locs ls B)
theorem r_aload_0 {k : MD} {G : List GD} {n : Nat} {post : Option PV → Mem → Prop} {z : ZZ} {pc pc2 : Nat} {S : List PV} {M : Mem}  {R : List (Option PV)} {x : Nat} (hd : Dk k pc (.aload_n 0) 1 pc2) (kk : WP k G n post z pc2 (some (rv x) :: R) (rv x :: S) M) : WP k G n post z pc (some (rv x) :: R) S M := by
  obtain ⟨p, l, e, s, m, args, below, meth, c, D, dA, adK, adV, ad⟩ := z
  obtain ⟨hd, rfl⟩ := hd
  intro C H locs ls B
  exact lv_aload_n C.1 C.2.1 hd rfl (lh_at B.2.2.2 (i := 0) rfl) (kk C H locs ls B)
theorem r_lload_0 {k : MD} {G : List GD} {n : Nat} {post : Option PV → Mem → Prop} {z : ZZ} {pc pc2 : Nat} {S : List PV} {M : Mem}  {R : List (Option PV)} {x : Int} (hd : Dk k pc (.lload_n 0) 1 pc2) (kk : WP k G n post z pc2 (some (jv x) :: R) (jv x :: S) M) : WP k G n post z pc (some (jv x) :: R) S M := by
  obtain ⟨p, l, e, s, m, args, below, meth, c, D, dA, adK, adV, ad⟩ := z
  obtain ⟨hd, rfl⟩ := hd
  intro C H locs ls B
  exact lv_lload_n C.1 C.2.1 hd rfl (lh_at B.2.2.2 (i := 0) rfl) (kk C H locs ls B)
theorem r_istore_0 {k : MD} {G : List GD} {n : Nat} {post : Option PV → Mem → Prop} {z : ZZ} {pc pc2 : Nat} {S : List PV} {M : Mem}  {R : List (Option PV)} {o : Option PV} {x : Int} (hd : Dk k pc (.istore_n 0) 1 pc2) (hj : nj o = true) (kk : WP k G n post z pc2 (some (iv x) :: R) S M) : WP k G n post z pc (o :: R) (iv x :: S) M := by
  obtain ⟨p, l, e, s, m, args, below, meth, c, D, dA, adK, adV, ad⟩ := z
  obtain ⟨hd, rfl⟩ := hd
  intro C H locs ls B
  have hn : 0 < k.2.2.1 := by have := B.2.2.2.2.1; simp at this; omega
  refine lv_istore_n C.1 C.2.1 hd rfl (lh_has B.2.2.2) hn rfl (fun ls2 h2 => kk C H locs ls2 ⟨B.1, B.2.1, B.2.2.1, lh_set1 (i := 0) (v := iv x) B.2.2.2 hn (fun w hw => ?_) h2⟩)
  cases hw; exact hj
theorem r_astore_0 {k : MD} {G : List GD} {n : Nat} {post : Option PV → Mem → Prop} {z : ZZ} {pc pc2 : Nat} {S : List PV} {M : Mem}  {R : List (Option PV)} {o : Option PV} {x : Nat} (hd : Dk k pc (.astore_n 0) 1 pc2) (hj : nj o = true) (kk : WP k G n post z pc2 (some (rv x) :: R) S M) : WP k G n post z pc (o :: R) (rv x :: S) M := by
  obtain ⟨p, l, e, s, m, args, below, meth, c, D, dA, adK, adV, ad⟩ := z
  obtain ⟨hd, rfl⟩ := hd
  intro C H locs ls B
  have hn : 0 < k.2.2.1 := by have := B.2.2.2.2.1; simp at this; omega
  refine lv_astore_n C.1 C.2.1 hd rfl (lh_has B.2.2.2) hn rfl (fun ls2 h2 => kk C H locs ls2 ⟨B.1, B.2.1, B.2.2.1, lh_set1 (i := 0) (v := rv x) B.2.2.2 hn (fun w hw => ?_) h2⟩)
  cases hw; exact hj
theorem r_lstore_0 {k : MD} {G : List GD} {n : Nat} {post : Option PV → Mem → Prop} {z : ZZ} {pc pc2 : Nat} {S : List PV} {M : Mem}  {R : List (Option PV)} {o1 o2 : Option PV} {x : Int} (hd : Dk k pc (.lstore_n 0) 1 pc2) (hj : nj o1 = true) (kk : WP k G n post z pc2 (some (jv x) :: none :: R) S M) : WP k G n post z pc (o1 :: o2 :: R) (jv x :: S) M := by
  obtain ⟨p, l, e, s, m, args, below, meth, c, D, dA, adK, adV, ad⟩ := z
  obtain ⟨hd, rfl⟩ := hd
  intro C H locs ls B
  have hn : 0 + 1 < k.2.2.1 := by have := B.2.2.2.2.1; simp at this; omega
  refine lv_lstore_n C.1 C.2.1 hd rfl (lh_has B.2.2.2) hn rfl (fun ls2 h2 => kk C H locs ls2 ⟨B.1, B.2.1, B.2.2.1, lh_set2 (i := 0) (v := jv x) B.2.2.2 hn (fun w hw => ?_) h2⟩)
  cases hw; exact hj
theorem r_iinc_0 {k : MD} {G : List GD} {n : Nat} {post : Option PV → Mem → Prop} {z : ZZ} {pc pc2 : Nat} {S : List PV} {M : Mem}  {R : List (Option PV)} {x d : Int} (hd : Dk k pc (.iinc 0 d) 3 pc2) (kk : WP k G n post z pc2 (some (iv (x + d)) :: R) S M) : WP k G n post z pc (some (iv x) :: R) S M := by
  obtain ⟨p, l, e, s, m, args, below, meth, c, D, dA, adK, adV, ad⟩ := z
  obtain ⟨hd, rfl⟩ := hd
  intro C H locs ls B
  have hn : 0 < k.2.2.1 := by have := B.2.2.2.2.1; simp at this; omega
  obtain ⟨kq, hq⟩ := List.getElem?_of_mem (la_mem (ad := ad) (L := some (iv x) :: R) (q := (0, tv ad (iv x))).mpr ⟨iv x, rfl, rfl⟩)
  refine lv_iinc C.1 C.2.1 hd (lh_has B.2.2.2) hq (v := Int32.ofInt (x + d)) (by rw [Int32.ofInt_add]) hn rfl (fun ls2 h2 => kk C H locs ls2 ⟨B.1, B.2.1, B.2.2.1, lh_set1 (i := 0) (v := iv (x + d)) B.2.2.2 hn (fun w hw => ?_) h2⟩)
  cases hw; rfl
theorem r_iload_1 {k : MD} {G : List GD} {n : Nat} {post : Option PV → Mem → Prop} {z : ZZ} {pc pc2 : Nat} {S : List PV} {M : Mem} {a0 : Option PV} {R : List (Option PV)} {x : Int} (hd : Dk k pc (.iload_n 1) 1 pc2) (kk : WP k G n post z pc2 (a0 :: some (iv x) :: R) (iv x :: S) M) : WP k G n post z pc (a0 :: some (iv x) :: R) S M := by
  obtain ⟨p, l, e, s, m, args, below, meth, c, D, dA, adK, adV, ad⟩ := z
  obtain ⟨hd, rfl⟩ := hd
  intro C H locs ls B
  exact lv_iload_n C.1 C.2.1 hd rfl (lh_at B.2.2.2 (i := 1) rfl) (kk C H locs ls B)
theorem r_aload_1 {k : MD} {G : List GD} {n : Nat} {post : Option PV → Mem → Prop} {z : ZZ} {pc pc2 : Nat} {S : List PV} {M : Mem} {a0 : Option PV} {R : List (Option PV)} {x : Nat} (hd : Dk k pc (.aload_n 1) 1 pc2) (kk : WP k G n post z pc2 (a0 :: some (rv x) :: R) (rv x :: S) M) : WP k G n post z pc (a0 :: some (rv x) :: R) S M := by
  obtain ⟨p, l, e, s, m, args, below, meth, c, D, dA, adK, adV, ad⟩ := z
  obtain ⟨hd, rfl⟩ := hd
  intro C H locs ls B
  exact lv_aload_n C.1 C.2.1 hd rfl (lh_at B.2.2.2 (i := 1) rfl) (kk C H locs ls B)
theorem r_lload_1 {k : MD} {G : List GD} {n : Nat} {post : Option PV → Mem → Prop} {z : ZZ} {pc pc2 : Nat} {S : List PV} {M : Mem} {a0 : Option PV} {R : List (Option PV)} {x : Int} (hd : Dk k pc (.lload_n 1) 1 pc2) (kk : WP k G n post z pc2 (a0 :: some (jv x) :: R) (jv x :: S) M) : WP k G n post z pc (a0 :: some (jv x) :: R) S M := by
  obtain ⟨p, l, e, s, m, args, below, meth, c, D, dA, adK, adV, ad⟩ := z
  obtain ⟨hd, rfl⟩ := hd
  intro C H locs ls B
  exact lv_lload_n C.1 C.2.1 hd rfl (lh_at B.2.2.2 (i := 1) rfl) (kk C H locs ls B)
theorem r_istore_1 {k : MD} {G : List GD} {n : Nat} {post : Option PV → Mem → Prop} {z : ZZ} {pc pc2 : Nat} {S : List PV} {M : Mem} {a0 : Option PV} {R : List (Option PV)} {o : Option PV} {x : Int} (hd : Dk k pc (.istore_n 1) 1 pc2) (hj : nj a0 = true) (kk : WP k G n post z pc2 (a0 :: some (iv x) :: R) S M) : WP k G n post z pc (a0 :: o :: R) (iv x :: S) M := by
  obtain ⟨p, l, e, s, m, args, below, meth, c, D, dA, adK, adV, ad⟩ := z
  obtain ⟨hd, rfl⟩ := hd
  intro C H locs ls B
  have hn : 1 < k.2.2.1 := by have := B.2.2.2.2.1; simp at this; omega
  refine lv_istore_n C.1 C.2.1 hd rfl (lh_has B.2.2.2) hn rfl (fun ls2 h2 => kk C H locs ls2 ⟨B.1, B.2.1, B.2.2.1, lh_set1 (i := 1) (v := iv x) B.2.2.2 hn (fun w hw => ?_) h2⟩)
  cases hw; exact hj
theorem r_astore_1 {k : MD} {G : List GD} {n : Nat} {post : Option PV → Mem → Prop} {z : ZZ} {pc pc2 : Nat} {S : List PV} {M : Mem} {a0 : Option PV} {R : List (Option PV)} {o : Option PV} {x : Nat} (hd : Dk k pc (.astore_n 1) 1 pc2) (hj : nj a0 = true) (kk : WP k G n post z pc2 (a0 :: some (rv x) :: R) S M) : WP k G n post z pc (a0 :: o :: R) (rv x :: S) M := by
  obtain ⟨p, l, e, s, m, args, below, meth, c, D, dA, adK, adV, ad⟩ := z
  obtain ⟨hd, rfl⟩ := hd
  intro C H locs ls B
  have hn : 1 < k.2.2.1 := by have := B.2.2.2.2.1; simp at this; omega
  refine lv_astore_n C.1 C.2.1 hd rfl (lh_has B.2.2.2) hn rfl (fun ls2 h2 => kk C H locs ls2 ⟨B.1, B.2.1, B.2.2.1, lh_set1 (i := 1) (v := rv x) B.2.2.2 hn (fun w hw => ?_) h2⟩)
  cases hw; exact hj
theorem r_lstore_1 {k : MD} {G : List GD} {n : Nat} {post : Option PV → Mem → Prop} {z : ZZ} {pc pc2 : Nat} {S : List PV} {M : Mem} {a0 : Option PV} {R : List (Option PV)} {o1 o2 : Option PV} {x : Int} (hd : Dk k pc (.lstore_n 1) 1 pc2) (hj : nj a0 = true) (kk : WP k G n post z pc2 (a0 :: some (jv x) :: none :: R) S M) : WP k G n post z pc (a0 :: o1 :: o2 :: R) (jv x :: S) M := by
  obtain ⟨p, l, e, s, m, args, below, meth, c, D, dA, adK, adV, ad⟩ := z
  obtain ⟨hd, rfl⟩ := hd
  intro C H locs ls B
  have hn : 1 + 1 < k.2.2.1 := by have := B.2.2.2.2.1; simp at this; omega
  refine lv_lstore_n C.1 C.2.1 hd rfl (lh_has B.2.2.2) hn rfl (fun ls2 h2 => kk C H locs ls2 ⟨B.1, B.2.1, B.2.2.1, lh_set2 (i := 1) (v := jv x) B.2.2.2 hn (fun w hw => ?_) h2⟩)
  cases hw; exact hj
theorem r_iinc_1 {k : MD} {G : List GD} {n : Nat} {post : Option PV → Mem → Prop} {z : ZZ} {pc pc2 : Nat} {S : List PV} {M : Mem} {a0 : Option PV} {R : List (Option PV)} {x d : Int} (hd : Dk k pc (.iinc 1 d) 3 pc2) (hj : nj a0 = true) (kk : WP k G n post z pc2 (a0 :: some (iv (x + d)) :: R) S M) : WP k G n post z pc (a0 :: some (iv x) :: R) S M := by
  obtain ⟨p, l, e, s, m, args, below, meth, c, D, dA, adK, adV, ad⟩ := z
  obtain ⟨hd, rfl⟩ := hd
  intro C H locs ls B
  have hn : 1 < k.2.2.1 := by have := B.2.2.2.2.1; simp at this; omega
  obtain ⟨kq, hq⟩ := List.getElem?_of_mem (la_mem (ad := ad) (L := a0 :: some (iv x) :: R) (q := (1, tv ad (iv x))).mpr ⟨iv x, rfl, rfl⟩)
  refine lv_iinc C.1 C.2.1 hd (lh_has B.2.2.2) hq (v := Int32.ofInt (x + d)) (by rw [Int32.ofInt_add]) hn rfl (fun ls2 h2 => kk C H locs ls2 ⟨B.1, B.2.1, B.2.2.1, lh_set1 (i := 1) (v := iv (x + d)) B.2.2.2 hn (fun w hw => ?_) h2⟩)
  cases hw; exact hj
theorem r_iload_2 {k : MD} {G : List GD} {n : Nat} {post : Option PV → Mem → Prop} {z : ZZ} {pc pc2 : Nat} {S : List PV} {M : Mem} {a0 a1 : Option PV} {R : List (Option PV)} {x : Int} (hd : Dk k pc (.iload_n 2) 1 pc2) (kk : WP k G n post z pc2 (a0 :: a1 :: some (iv x) :: R) (iv x :: S) M) : WP k G n post z pc (a0 :: a1 :: some (iv x) :: R) S M := by
  obtain ⟨p, l, e, s, m, args, below, meth, c, D, dA, adK, adV, ad⟩ := z
  obtain ⟨hd, rfl⟩ := hd
  intro C H locs ls B
  exact lv_iload_n C.1 C.2.1 hd rfl (lh_at B.2.2.2 (i := 2) rfl) (kk C H locs ls B)
theorem r_aload_2 {k : MD} {G : List GD} {n : Nat} {post : Option PV → Mem → Prop} {z : ZZ} {pc pc2 : Nat} {S : List PV} {M : Mem} {a0 a1 : Option PV} {R : List (Option PV)} {x : Nat} (hd : Dk k pc (.aload_n 2) 1 pc2) (kk : WP k G n post z pc2 (a0 :: a1 :: some (rv x) :: R) (rv x :: S) M) : WP k G n post z pc (a0 :: a1 :: some (rv x) :: R) S M := by
  obtain ⟨p, l, e, s, m, args, below, meth, c, D, dA, adK, adV, ad⟩ := z
  obtain ⟨hd, rfl⟩ := hd
  intro C H locs ls B
  exact lv_aload_n C.1 C.2.1 hd rfl (lh_at B.2.2.2 (i := 2) rfl) (kk C H locs ls B)
theorem r_lload_2 {k : MD} {G : List GD} {n : Nat} {post : Option PV → Mem → Prop} {z : ZZ} {pc pc2 : Nat} {S : List PV} {M : Mem} {a0 a1 : Option PV} {R : List (Option PV)} {x : Int} (hd : Dk k pc (.lload_n 2) 1 pc2) (kk : WP k G n post z pc2 (a0 :: a1 :: some (jv x) :: R) (jv x :: S) M) : WP k G n post z pc (a0 :: a1 :: some (jv x) :: R) S M := by
  obtain ⟨p, l, e, s, m, args, below, meth, c, D, dA, adK, adV, ad⟩ := z
  obtain ⟨hd, rfl⟩ := hd
  intro C H locs ls B
  exact lv_lload_n C.1 C.2.1 hd rfl (lh_at B.2.2.2 (i := 2) rfl) (kk C H locs ls B)
theorem r_istore_2 {k : MD} {G : List GD} {n : Nat} {post : Option PV → Mem → Prop} {z : ZZ} {pc pc2 : Nat} {S : List PV} {M : Mem} {a0 a1 : Option PV} {R : List (Option PV)} {o : Option PV} {x : Int} (hd : Dk k pc (.istore_n 2) 1 pc2) (hj : nj a1 = true) (kk : WP k G n post z pc2 (a0 :: a1 :: some (iv x) :: R) S M) : WP k G n post z pc (a0 :: a1 :: o :: R) (iv x :: S) M := by
  obtain ⟨p, l, e, s, m, args, below, meth, c, D, dA, adK, adV, ad⟩ := z
  obtain ⟨hd, rfl⟩ := hd
  intro C H locs ls B
  have hn : 2 < k.2.2.1 := by have := B.2.2.2.2.1; simp at this; omega
  refine lv_istore_n C.1 C.2.1 hd rfl (lh_has B.2.2.2) hn rfl (fun ls2 h2 => kk C H locs ls2 ⟨B.1, B.2.1, B.2.2.1, lh_set1 (i := 2) (v := iv x) B.2.2.2 hn (fun w hw => ?_) h2⟩)
  cases hw; exact hj
theorem r_astore_2 {k : MD} {G : List GD} {n : Nat} {post : Option PV → Mem → Prop} {z : ZZ} {pc pc2 : Nat} {S : List PV} {M : Mem} {a0 a1 : Option PV} {R : List (Option PV)} {o : Option PV} {x : Nat} (hd : Dk k pc (.astore_n 2) 1 pc2) (hj : nj a1 = true) (kk : WP k G n post z pc2 (a0 :: a1 :: some (rv x) :: R) S M) : WP k G n post z pc (a0 :: a1 :: o :: R) (rv x :: S) M := by
  obtain ⟨p, l, e, s, m, args, below, meth, c, D, dA, adK, adV, ad⟩ := z
  obtain ⟨hd, rfl⟩ := hd
  intro C H locs ls B
  have hn : 2 < k.2.2.1 := by have := B.2.2.2.2.1; simp at this; omega
  refine lv_astore_n C.1 C.2.1 hd rfl (lh_has B.2.2.2) hn rfl (fun ls2 h2 => kk C H locs ls2 ⟨B.1, B.2.1, B.2.2.1, lh_set1 (i := 2) (v := rv x) B.2.2.2 hn (fun w hw => ?_) h2⟩)
  cases hw; exact hj
theorem r_lstore_2 {k : MD} {G : List GD} {n : Nat} {post : Option PV → Mem → Prop} {z : ZZ} {pc pc2 : Nat} {S : List PV} {M : Mem} {a0 a1 : Option PV} {R : List (Option PV)} {o1 o2 : Option PV} {x : Int} (hd : Dk k pc (.lstore_n 2) 1 pc2) (hj : nj a1 = true) (kk : WP k G n post z pc2 (a0 :: a1 :: some (jv x) :: none :: R) S M) : WP k G n post z pc (a0 :: a1 :: o1 :: o2 :: R) (jv x :: S) M := by
  obtain ⟨p, l, e, s, m, args, below, meth, c, D, dA, adK, adV, ad⟩ := z
  obtain ⟨hd, rfl⟩ := hd
  intro C H locs ls B
  have hn : 2 + 1 < k.2.2.1 := by have := B.2.2.2.2.1; simp at this; omega
  refine lv_lstore_n C.1 C.2.1 hd rfl (lh_has B.2.2.2) hn rfl (fun ls2 h2 => kk C H locs ls2 ⟨B.1, B.2.1, B.2.2.1, lh_set2 (i := 2) (v := jv x) B.2.2.2 hn (fun w hw => ?_) h2⟩)
  cases hw; exact hj
theorem r_iinc_2 {k : MD} {G : List GD} {n : Nat} {post : Option PV → Mem → Prop} {z : ZZ} {pc pc2 : Nat} {S : List PV} {M : Mem} {a0 a1 : Option PV} {R : List (Option PV)} {x d : Int} (hd : Dk k pc (.iinc 2 d) 3 pc2) (hj : nj a1 = true) (kk : WP k G n post z pc2 (a0 :: a1 :: some (iv (x + d)) :: R) S M) : WP k G n post z pc (a0 :: a1 :: some (iv x) :: R) S M := by
  obtain ⟨p, l, e, s, m, args, below, meth, c, D, dA, adK, adV, ad⟩ := z
  obtain ⟨hd, rfl⟩ := hd
  intro C H locs ls B
  have hn : 2 < k.2.2.1 := by have := B.2.2.2.2.1; simp at this; omega
  obtain ⟨kq, hq⟩ := List.getElem?_of_mem (la_mem (ad := ad) (L := a0 :: a1 :: some (iv x) :: R) (q := (2, tv ad (iv x))).mpr ⟨iv x, rfl, rfl⟩)
  refine lv_iinc C.1 C.2.1 hd (lh_has B.2.2.2) hq (v := Int32.ofInt (x + d)) (by rw [Int32.ofInt_add]) hn rfl (fun ls2 h2 => kk C H locs ls2 ⟨B.1, B.2.1, B.2.2.1, lh_set1 (i := 2) (v := iv (x + d)) B.2.2.2 hn (fun w hw => ?_) h2⟩)
  cases hw; exact hj
theorem r_iload_3 {k : MD} {G : List GD} {n : Nat} {post : Option PV → Mem → Prop} {z : ZZ} {pc pc2 : Nat} {S : List PV} {M : Mem} {a0 a1 a2 : Option PV} {R : List (Option PV)} {x : Int} (hd : Dk k pc (.iload_n 3) 1 pc2) (kk : WP k G n post z pc2 (a0 :: a1 :: a2 :: some (iv x) :: R) (iv x :: S) M) : WP k G n post z pc (a0 :: a1 :: a2 :: some (iv x) :: R) S M := by
  obtain ⟨p, l, e, s, m, args, below, meth, c, D, dA, adK, adV, ad⟩ := z
  obtain ⟨hd, rfl⟩ := hd
  intro C H locs ls B
  exact lv_iload_n C.1 C.2.1 hd rfl (lh_at B.2.2.2 (i := 3) rfl) (kk C H locs ls B)
theorem r_aload_3 {k : MD} {G : List GD} {n : Nat} {post : Option PV → Mem → Prop} {z : ZZ} {pc pc2 : Nat} {S : List PV} {M : Mem} {a0 a1 a2 : Option PV} {R : List (Option PV)} {x : Nat} (hd : Dk k pc (.aload_n 3) 1 pc2) (kk : WP k G n post z pc2 (a0 :: a1 :: a2 :: some (rv x) :: R) (rv x :: S) M) : WP k G n post z pc (a0 :: a1 :: a2 :: some (rv x) :: R) S M := by
  obtain ⟨p, l, e, s, m, args, below, meth, c, D, dA, adK, adV, ad⟩ := z
  obtain ⟨hd, rfl⟩ := hd
  intro C H locs ls B
  exact lv_aload_n C.1 C.2.1 hd rfl (lh_at B.2.2.2 (i := 3) rfl) (kk C H locs ls B)
theorem r_lload_3 {k : MD} {G : List GD} {n : Nat} {post : Option PV → Mem → Prop} {z : ZZ} {pc pc2 : Nat} {S : List PV} {M : Mem} {a0 a1 a2 : Option PV} {R : List (Option PV)} {x : Int} (hd : Dk k pc (.lload_n 3) 1 pc2) (kk : WP k G n post z pc2 (a0 :: a1 :: a2 :: some (jv x) :: R) (jv x :: S) M) : WP k G n post z pc (a0 :: a1 :: a2 :: some (jv x) :: R) S M := by
  obtain ⟨p, l, e, s, m, args, below, meth, c, D, dA, adK, adV, ad⟩ := z
  obtain ⟨hd, rfl⟩ := hd
  intro C H locs ls B
  exact lv_lload_n C.1 C.2.1 hd rfl (lh_at B.2.2.2 (i := 3) rfl) (kk C H locs ls B)
theorem r_istore_3 {k : MD} {G : List GD} {n : Nat} {post : Option PV → Mem → Prop} {z : ZZ} {pc pc2 : Nat} {S : List PV} {M : Mem} {a0 a1 a2 : Option PV} {R : List (Option PV)} {o : Option PV} {x : Int} (hd : Dk k pc (.istore_n 3) 1 pc2) (hj : nj a2 = true) (kk : WP k G n post z pc2 (a0 :: a1 :: a2 :: some (iv x) :: R) S M) : WP k G n post z pc (a0 :: a1 :: a2 :: o :: R) (iv x :: S) M := by
  obtain ⟨p, l, e, s, m, args, below, meth, c, D, dA, adK, adV, ad⟩ := z
  obtain ⟨hd, rfl⟩ := hd
  intro C H locs ls B
  have hn : 3 < k.2.2.1 := by have := B.2.2.2.2.1; simp at this; omega
  refine lv_istore_n C.1 C.2.1 hd rfl (lh_has B.2.2.2) hn rfl (fun ls2 h2 => kk C H locs ls2 ⟨B.1, B.2.1, B.2.2.1, lh_set1 (i := 3) (v := iv x) B.2.2.2 hn (fun w hw => ?_) h2⟩)
  cases hw; exact hj
theorem r_astore_3 {k : MD} {G : List GD} {n : Nat} {post : Option PV → Mem → Prop} {z : ZZ} {pc pc2 : Nat} {S : List PV} {M : Mem} {a0 a1 a2 : Option PV} {R : List (Option PV)} {o : Option PV} {x : Nat} (hd : Dk k pc (.astore_n 3) 1 pc2) (hj : nj a2 = true) (kk : WP k G n post z pc2 (a0 :: a1 :: a2 :: some (rv x) :: R) S M) : WP k G n post z pc (a0 :: a1 :: a2 :: o :: R) (rv x :: S) M := by
  obtain ⟨p, l, e, s, m, args, below, meth, c, D, dA, adK, adV, ad⟩ := z
  obtain ⟨hd, rfl⟩ := hd
  intro C H locs ls B
  have hn : 3 < k.2.2.1 := by have := B.2.2.2.2.1; simp at this; omega
  refine lv_astore_n C.1 C.2.1 hd rfl (lh_has B.2.2.2) hn rfl (fun ls2 h2 => kk C H locs ls2 ⟨B.1, B.2.1, B.2.2.1, lh_set1 (i := 3) (v := rv x) B.2.2.2 hn (fun w hw => ?_) h2⟩)
  cases hw; exact hj
theorem r_lstore_3 {k : MD} {G : List GD} {n : Nat} {post : Option PV → Mem → Prop} {z : ZZ} {pc pc2 : Nat} {S : List PV} {M : Mem} {a0 a1 a2 : Option PV} {R : List (Option PV)} {o1 o2 : Option PV} {x : Int} (hd : Dk k pc (.lstore_n 3) 1 pc2) (hj : nj a2 = true) (kk : WP k G n post z pc2 (a0 :: a1 :: a2 :: some (jv x) :: none :: R) S M) : WP k G n post z pc (a0 :: a1 :: a2 :: o1 :: o2 :: R) (jv x :: S) M := by
  obtain ⟨p, l, e, s, m, args, below, meth, c, D, dA, adK, adV, ad⟩ := z
  obtain ⟨hd, rfl⟩ := hd
  intro C H locs ls B
  have hn : 3 + 1 < k.2.2.1 := by have := B.2.2.2.2.1; simp at this; omega
  refine lv_lstore_n C.1 C.2.1 hd rfl (lh_has B.2.2.2) hn rfl (fun ls2 h2 => kk C H locs ls2 ⟨B.1, B.2.1, B.2.2.1, lh_set2 (i := 3) (v := jv x) B.2.2.2 hn (fun w hw => ?_) h2⟩)
  cases hw; exact hj
theorem r_iinc_3 {k : MD} {G : List GD} {n : Nat} {post : Option PV → Mem → Prop} {z : ZZ} {pc pc2 : Nat} {S : List PV} {M : Mem} {a0 a1 a2 : Option PV} {R : List (Option PV)} {x d : Int} (hd : Dk k pc (.iinc 3 d) 3 pc2) (hj : nj a2 = true) (kk : WP k G n post z pc2 (a0 :: a1 :: a2 :: some (iv (x + d)) :: R) S M) : WP k G n post z pc (a0 :: a1 :: a2 :: some (iv x) :: R) S M := by
  obtain ⟨p, l, e, s, m, args, below, meth, c, D, dA, adK, adV, ad⟩ := z
  obtain ⟨hd, rfl⟩ := hd
  intro C H locs ls B
  have hn : 3 < k.2.2.1 := by have := B.2.2.2.2.1; simp at this; omega
  obtain ⟨kq, hq⟩ := List.getElem?_of_mem (la_mem (ad := ad) (L := a0 :: a1 :: a2 :: some (iv x) :: R) (q := (3, tv ad (iv x))).mpr ⟨iv x, rfl, rfl⟩)
  refine lv_iinc C.1 C.2.1 hd (lh_has B.2.2.2) hq (v := Int32.ofInt (x + d)) (by rw [Int32.ofInt_add]) hn rfl (fun ls2 h2 => kk C H locs ls2 ⟨B.1, B.2.1, B.2.2.1, lh_set1 (i := 3) (v := iv (x + d)) B.2.2.2 hn (fun w hw => ?_) h2⟩)
  cases hw; exact hj
theorem r_iload_4 {k : MD} {G : List GD} {n : Nat} {post : Option PV → Mem → Prop} {z : ZZ} {pc pc2 : Nat} {S : List PV} {M : Mem} {a0 a1 a2 a3 : Option PV} {R : List (Option PV)} {x : Int} (hd : Dk k pc (.iload 4) 2 pc2) (kk : WP k G n post z pc2 (a0 :: a1 :: a2 :: a3 :: some (iv x) :: R) (iv x :: S) M) : WP k G n post z pc (a0 :: a1 :: a2 :: a3 :: some (iv x) :: R) S M := by
  obtain ⟨p, l, e, s, m, args, below, meth, c, D, dA, adK, adV, ad⟩ := z
  obtain ⟨hd, rfl⟩ := hd
  intro C H locs ls B
  exact lv_iload C.1 C.2.1 hd (lh_at B.2.2.2 (i := 4) rfl) (kk C H locs ls B)
theorem r_aload_4 {k : MD} {G : List GD} {n : Nat} {post : Option PV → Mem → Prop} {z : ZZ} {pc pc2 : Nat} {S : List PV} {M : Mem} {a0 a1 a2 a3 : Option PV} {R : List (Option PV)} {x : Nat} (hd : Dk k pc (.aload 4) 2 pc2) (kk : WP k G n post z pc2 (a0 :: a1 :: a2 :: a3 :: some (rv x) :: R) (rv x :: S) M) : WP k G n post z pc (a0 :: a1 :: a2 :: a3 :: some (rv x) :: R) S M := by
  obtain ⟨p, l, e, s, m, args, below, meth, c, D, dA, adK, adV, ad⟩ := z
  obtain ⟨hd, rfl⟩ := hd
  intro C H locs ls B
  exact lv_aload C.1 C.2.1 hd (lh_at B.2.2.2 (i := 4) rfl) (kk C H locs ls B)
theorem r_lload_4 {k : MD} {G : List GD} {n : Nat} {post : Option PV → Mem → Prop} {z : ZZ} {pc pc2 : Nat} {S : List PV} {M : Mem} {a0 a1 a2 a3 : Option PV} {R : List (Option PV)} {x : Int} (hd : Dk k pc (.lload 4) 2 pc2) (kk : WP k G n post z pc2 (a0 :: a1 :: a2 :: a3 :: some (jv x) :: R) (jv x :: S) M) : WP k G n post z pc (a0 :: a1 :: a2 :: a3 :: some (jv x) :: R) S M := by
  obtain ⟨p, l, e, s, m, args, below, meth, c, D, dA, adK, adV, ad⟩ := z
  obtain ⟨hd, rfl⟩ := hd
  intro C H locs ls B
  exact lv_lload C.1 C.2.1 hd (lh_at B.2.2.2 (i := 4) rfl) (kk C H locs ls B)
theorem r_istore_4 {k : MD} {G : List GD} {n : Nat} {post : Option PV → Mem → Prop} {z : ZZ} {pc pc2 : Nat} {S : List PV} {M : Mem} {a0 a1 a2 a3 : Option PV} {R : List (Option PV)} {o : Option PV} {x : Int} (hd : Dk k pc (.istore 4) 2 pc2) (hj : nj a3 = true) (kk : WP k G n post z pc2 (a0 :: a1 :: a2 :: a3 :: some (iv x) :: R) S M) : WP k G n post z pc (a0 :: a1 :: a2 :: a3 :: o :: R) (iv x :: S) M := by
  obtain ⟨p, l, e, s, m, args, below, meth, c, D, dA, adK, adV, ad⟩ := z
  obtain ⟨hd, rfl⟩ := hd
  intro C H locs ls B
  have hn : 4 < k.2.2.1 := by have := B.2.2.2.2.1; simp at this; omega
  refine lv_istore C.1 C.2.1 hd (lh_has B.2.2.2) hn rfl (fun ls2 h2 => kk C H locs ls2 ⟨B.1, B.2.1, B.2.2.1, lh_set1 (i := 4) (v := iv x) B.2.2.2 hn (fun w hw => ?_) h2⟩)
  cases hw; exact hj
theorem r_astore_4 {k : MD} {G : List GD} {n : Nat} {post : Option PV → Mem → Prop} {z : ZZ} {pc pc2 : Nat} {S : List PV} {M : Mem} {a0 a1 a2 a3 : Option PV} {R : List (Option PV)} {o : Option PV} {x : Nat} (hd : Dk k pc (.astore 4) 2 pc2) (hj : nj a3 = true) (kk : WP k G n post z pc2 (a0 :: a1 :: a2 :: a3 :: some (rv x) :: R) S M) : WP k G n post z pc (a0 :: a1 :: a2 :: a3 :: o :: R) (rv x :: S) M := by
  obtain ⟨p, l, e, s, m, args, below, meth, c, D, dA, adK, adV, ad⟩ := z
  obtain ⟨hd, rfl⟩ := hd
  intro C H locs ls B
  have hn : 4 < k.2.2.1 := by have := B.2.2.2.2.1; simp at this; omega
  refine lv_astore C.1 C.2.1 hd (lh_has B.2.2.2) hn rfl (fun ls2 h2 => kk C H locs ls2 ⟨B.1, B.2.1, B.2.2.1, lh_set1 (i := 4) (v := rv x) B.2.2.2 hn (fun w hw => ?_) h2⟩)
  cases hw; exact hj
theorem r_lstore_4 {k : MD} {G : List GD} {n : Nat} {post : Option PV → Mem → Prop} {z : ZZ} {pc pc2 : Nat} {S : List PV} {M : Mem} {a0 a1 a2 a3 : Option PV} {R : List (Option PV)} {o1 o2 : Option PV} {x : Int} (hd : Dk k pc (.lstore 4) 2 pc2) (hj : nj a3 = true) (kk : WP k G n post z pc2 (a0 :: a1 :: a2 :: a3 :: some (jv x) :: none :: R) S M) : WP k G n post z pc (a0 :: a1 :: a2 :: a3 :: o1 :: o2 :: R) (jv x :: S) M := by
  obtain ⟨p, l, e, s, m, args, below, meth, c, D, dA, adK, adV, ad⟩ := z
  obtain ⟨hd, rfl⟩ := hd
  intro C H locs ls B
  have hn : 4 + 1 < k.2.2.1 := by have := B.2.2.2.2.1; simp at this; omega
  refine lv_lstore C.1 C.2.1 hd (lh_has B.2.2.2) hn rfl (fun ls2 h2 => kk C H locs ls2 ⟨B.1, B.2.1, B.2.2.1, lh_set2 (i := 4) (v := jv x) B.2.2.2 hn (fun w hw => ?_) h2⟩)
  cases hw; exact hj
theorem r_iinc_4 {k : MD} {G : List GD} {n : Nat} {post : Option PV → Mem → Prop} {z : ZZ} {pc pc2 : Nat} {S : List PV} {M : Mem} {a0 a1 a2 a3 : Option PV} {R : List (Option PV)} {x d : Int} (hd : Dk k pc (.iinc 4 d) 3 pc2) (hj : nj a3 = true) (kk : WP k G n post z pc2 (a0 :: a1 :: a2 :: a3 :: some (iv (x + d)) :: R) S M) : WP k G n post z pc (a0 :: a1 :: a2 :: a3 :: some (iv x) :: R) S M := by
  obtain ⟨p, l, e, s, m, args, below, meth, c, D, dA, adK, adV, ad⟩ := z
  obtain ⟨hd, rfl⟩ := hd
  intro C H locs ls B
  have hn : 4 < k.2.2.1 := by have := B.2.2.2.2.1; simp at this; omega
  obtain ⟨kq, hq⟩ := List.getElem?_of_mem (la_mem (ad := ad) (L := a0 :: a1 :: a2 :: a3 :: some (iv x) :: R) (q := (4, tv ad (iv x))).mpr ⟨iv x, rfl, rfl⟩)
  refine lv_iinc C.1 C.2.1 hd (lh_has B.2.2.2) hq (v := Int32.ofInt (x + d)) (by rw [Int32.ofInt_add]) hn rfl (fun ls2 h2 => kk C H locs ls2 ⟨B.1, B.2.1, B.2.2.1, lh_set1 (i := 4) (v := iv (x + d)) B.2.2.2 hn (fun w hw => ?_) h2⟩)
  cases hw; exact hj
theorem r_iload_5 {k : MD} {G : List GD} {n : Nat} {post : Option PV → Mem → Prop} {z : ZZ} {pc pc2 : Nat} {S : List PV} {M : Mem} {a0 a1 a2 a3 a4 : Option PV} {R : List (Option PV)} {x : Int} (hd : Dk k pc (.iload 5) 2 pc2) (kk : WP k G n post z pc2 (a0 :: a1 :: a2 :: a3 :: a4 :: some (iv x) :: R) (iv x :: S) M) : WP k G n post z pc (a0 :: a1 :: a2 :: a3 :: a4 :: some (iv x) :: R) S M := by
  obtain ⟨p, l, e, s, m, args, below, meth, c, D, dA, adK, adV, ad⟩ := z
  obtain ⟨hd, rfl⟩ := hd
  intro C H locs ls B
  exact lv_iload C.1 C.2.1 hd (lh_at B.2.2.2 (i := 5) rfl) (kk C H locs ls B)
theorem r_aload_5 {k : MD} {G : List GD} {n : Nat} {post : Option PV → Mem → Prop} {z : ZZ} {pc pc2 : Nat} {S : List PV} {M : Mem} {a0 a1 a2 a3 a4 : Option PV} {R : List (Option PV)} {x : Nat} (hd : Dk k pc (.aload 5) 2 pc2) (kk : WP k G n post z pc2 (a0 :: a1 :: a2 :: a3 :: a4 :: some (rv x) :: R) (rv x :: S) M) : WP k G n post z pc (a0 :: a1 :: a2 :: a3 :: a4 :: some (rv x) :: R) S M := by
  obtain ⟨p, l, e, s, m, args, below, meth, c, D, dA, adK, adV, ad⟩ := z
  obtain ⟨hd, rfl⟩ := hd
  intro C H locs ls B
  exact lv_aload C.1 C.2.1 hd (lh_at B.2.2.2 (i := 5) rfl) (kk C H locs ls B)
theorem r_lload_5 {k : MD} {G : List GD} {n : Nat} {post : Option PV → Mem → Prop} {z : ZZ} {pc pc2 : Nat} {S : List PV} {M : Mem} {a0 a1 a2 a3 a4 : Option PV} {R : List (Option PV)} {x : Int} (hd : Dk k pc (.lload 5) 2 pc2) (kk : WP k G n post z pc2 (a0 :: a1 :: a2 :: a3 :: a4 :: some (jv x) :: R) (jv x :: S) M) : WP k G n post z pc (a0 :: a1 :: a2 :: a3 :: a4 :: some (jv x) :: R) S M := by
  obtain ⟨p, l, e, s, m, args, below, meth, c, D, dA, adK, adV, ad⟩ := z
  obtain ⟨hd, rfl⟩ := hd
  intro C H locs ls B
  exact lv_lload C.1 C.2.1 hd (lh_at B.2.2.2 (i := 5) rfl) (kk C H locs ls B)
theorem r_istore_5 {k : MD} {G : List GD} {n : Nat} {post : Option PV → Mem → Prop} {z : ZZ} {pc pc2 : Nat} {S : List PV} {M : Mem} {a0 a1 a2 a3 a4 : Option PV} {R : List (Option PV)} {o : Option PV} {x : Int} (hd : Dk k pc (.istore 5) 2 pc2) (hj : nj a4 = true) (kk : WP k G n post z pc2 (a0 :: a1 :: a2 :: a3 :: a4 :: some (iv x) :: R) S M) : WP k G n post z pc (a0 :: a1 :: a2 :: a3 :: a4 :: o :: R) (iv x :: S) M := by
  obtain ⟨p, l, e, s, m, args, below, meth, c, D, dA, adK, adV, ad⟩ := z
  obtain ⟨hd, rfl⟩ := hd
  intro C H locs ls B
  have hn : 5 < k.2.2.1 := by have := B.2.2.2.2.1; simp at this; omega
  refine lv_istore C.1 C.2.1 hd (lh_has B.2.2.2) hn rfl (fun ls2 h2 => kk C H locs ls2 ⟨B.1, B.2.1, B.2.2.1, lh_set1 (i := 5) (v := iv x) B.2.2.2 hn (fun w hw => ?_) h2⟩)
  cases hw; exact hj
theorem r_astore_5 {k : MD} {G : List GD} {n : Nat} {post : Option PV → Mem → Prop} {z : ZZ} {pc pc2 : Nat} {S : List PV} {M : Mem} {a0 a1 a2 a3 a4 : Option PV} {R : List (Option PV)} {o : Option PV} {x : Nat} (hd : Dk k pc (.astore 5) 2 pc2) (hj : nj a4 = true) (kk : WP k G n post z pc2 (a0 :: a1 :: a2 :: a3 :: a4 :: some (rv x) :: R) S M) : WP k G n post z pc (a0 :: a1 :: a2 :: a3 :: a4 :: o :: R) (rv x :: S) M := by
  obtain ⟨p, l, e, s, m, args, below, meth, c, D, dA, adK, adV, ad⟩ := z
  obtain ⟨hd, rfl⟩ := hd
  intro C H locs ls B
  have hn : 5 < k.2.2.1 := by have := B.2.2.2.2.1; simp at this; omega
  refine lv_astore C.1 C.2.1 hd (lh_has B.2.2.2) hn rfl (fun ls2 h2 => kk C H locs ls2 ⟨B.1, B.2.1, B.2.2.1, lh_set1 (i := 5) (v := rv x) B.2.2.2 hn (fun w hw => ?_) h2⟩)
  cases hw; exact hj
theorem r_lstore_5 {k : MD} {G : List GD} {n : Nat} {post : Option PV → Mem → Prop} {z : ZZ} {pc pc2 : Nat} {S : List PV} {M : Mem} {a0 a1 a2 a3 a4 : Option PV} {R : List (Option PV)} {o1 o2 : Option PV} {x : Int} (hd : Dk k pc (.lstore 5) 2 pc2) (hj : nj a4 = true) (kk : WP k G n post z pc2 (a0 :: a1 :: a2 :: a3 :: a4 :: some (jv x) :: none :: R) S M) : WP k G n post z pc (a0 :: a1 :: a2 :: a3 :: a4 :: o1 :: o2 :: R) (jv x :: S) M := by
  obtain ⟨p, l, e, s, m, args, below, meth, c, D, dA, adK, adV, ad⟩ := z
  obtain ⟨hd, rfl⟩ := hd
  intro C H locs ls B
  have hn : 5 + 1 < k.2.2.1 := by have := B.2.2.2.2.1; simp at this; omega
  refine lv_lstore C.1 C.2.1 hd (lh_has B.2.2.2) hn rfl (fun ls2 h2 => kk C H locs ls2 ⟨B.1, B.2.1, B.2.2.1, lh_set2 (i := 5) (v := jv x) B.2.2.2 hn (fun w hw => ?_) h2⟩)
  cases hw; exact hj
theorem r_iinc_5 {k : MD} {G : List GD} {n : Nat} {post : Option PV → Mem → Prop} {z : ZZ} {pc pc2 : Nat} {S : List PV} {M : Mem} {a0 a1 a2 a3 a4 : Option PV} {R : List (Option PV)} {x d : Int} (hd : Dk k pc (.iinc 5 d) 3 pc2) (hj : nj a4 = true) (kk : WP k G n post z pc2 (a0 :: a1 :: a2 :: a3 :: a4 :: some (iv (x + d)) :: R) S M) : WP k G n post z pc (a0 :: a1 :: a2 :: a3 :: a4 :: some (iv x) :: R) S M := by
  obtain ⟨p, l, e, s, m, args, below, meth, c, D, dA, adK, adV, ad⟩ := z
  obtain ⟨hd, rfl⟩ := hd
  intro C H locs ls B
  have hn : 5 < k.2.2.1 := by have := B.2.2.2.2.1; simp at this; omega
  obtain ⟨kq, hq⟩ := List.getElem?_of_mem (la_mem (ad := ad) (L := a0 :: a1 :: a2 :: a3 :: a4 :: some (iv x) :: R) (q := (5, tv ad (iv x))).mpr ⟨iv x, rfl, rfl⟩)
  refine lv_iinc C.1 C.2.1 hd (lh_has B.2.2.2) hq (v := Int32.ofInt (x + d)) (by rw [Int32.ofInt_add]) hn rfl (fun ls2 h2 => kk C H locs ls2 ⟨B.1, B.2.1, B.2.2.1, lh_set1 (i := 5) (v := iv (x + d)) B.2.2.2 hn (fun w hw => ?_) h2⟩)
  cases hw; exact hj
theorem r_iload_6 {k : MD} {G : List GD} {n : Nat} {post : Option PV → Mem → Prop} {z : ZZ} {pc pc2 : Nat} {S : List PV} {M : Mem} {a0 a1 a2 a3 a4 a5 : Option PV} {R : List (Option PV)} {x : Int} (hd : Dk k pc (.iload 6) 2 pc2) (kk : WP k G n post z pc2 (a0 :: a1 :: a2 :: a3 :: a4 :: a5 :: some (iv x) :: R) (iv x :: S) M) : WP k G n post z pc (a0 :: a1 :: a2 :: a3 :: a4 :: a5 :: some (iv x) :: R) S M := by
  obtain ⟨p, l, e, s, m, args, below, meth, c, D, dA, adK, adV, ad⟩ := z
  obtain ⟨hd, rfl⟩ := hd
  intro C H locs ls B
  exact lv_iload C.1 C.2.1 hd (lh_at B.2.2.2 (i := 6) rfl) (kk C H locs ls B)
theorem r_aload_6 {k : MD} {G : List GD} {n : Nat} {post : Option PV → Mem → Prop} {z : ZZ} {pc pc2 : Nat} {S : List PV} {M : Mem} {a0 a1 a2 a3 a4 a5 : Option PV} {R : List (Option PV)} {x : Nat} (hd : Dk k pc (.aload 6) 2 pc2) (kk : WP k G n post z pc2 (a0 :: a1 :: a2 :: a3 :: a4 :: a5 :: some (rv x) :: R) (rv x :: S) M) : WP k G n post z pc (a0 :: a1 :: a2 :: a3 :: a4 :: a5 :: some (rv x) :: R) S M := by
  obtain ⟨p, l, e, s, m, args, below, meth, c, D, dA, adK, adV, ad⟩ := z
  obtain ⟨hd, rfl⟩ := hd
  intro C H locs ls B
  exact lv_aload C.1 C.2.1 hd (lh_at B.2.2.2 (i := 6) rfl) (kk C H locs ls B)
theorem r_lload_6 {k : MD} {G : List GD} {n : Nat} {post : Option PV → Mem → Prop} {z : ZZ} {pc pc2 : Nat} {S : List PV} {M : Mem} {a0 a1 a2 a3 a4 a5 : Option PV} {R : List (Option PV)} {x : Int} (hd : Dk k pc (.lload 6) 2 pc2) (kk : WP k G n post z pc2 (a0 :: a1 :: a2 :: a3 :: a4 :: a5 :: some (jv x) :: R) (jv x :: S) M) : WP k G n post z pc (a0 :: a1 :: a2 :: a3 :: a4 :: a5 :: some (jv x) :: R) S M := by
  obtain ⟨p, l, e, s, m, args, below, meth, c, D, dA, adK, adV, ad⟩ := z
  obtain ⟨hd, rfl⟩ := hd
  intro C H locs ls B
  exact lv_lload C.1 C.2.1 hd (lh_at B.2.2.2 (i := 6) rfl) (kk C H locs ls B)
theorem r_istore_6 {k : MD} {G : List GD} {n : Nat} {post : Option PV → Mem → Prop} {z : ZZ} {pc pc2 : Nat} {S : List PV} {M : Mem} {a0 a1 a2 a3 a4 a5 : Option PV} {R : List (Option PV)} {o : Option PV} {x : Int} (hd : Dk k pc (.istore 6) 2 pc2) (hj : nj a5 = true) (kk : WP k G n post z pc2 (a0 :: a1 :: a2 :: a3 :: a4 :: a5 :: some (iv x) :: R) S M) : WP k G n post z pc (a0 :: a1 :: a2 :: a3 :: a4 :: a5 :: o :: R) (iv x :: S) M := by
  obtain ⟨p, l, e, s, m, args, below, meth, c, D, dA, adK, adV, ad⟩ := z
  obtain ⟨hd, rfl⟩ := hd
  intro C H locs ls B
  have hn : 6 < k.2.2.1 := by have := B.2.2.2.2.1; simp at this; omega
  refine lv_istore C.1 C.2.1 hd (lh_has B.2.2.2) hn rfl (fun ls2 h2 => kk C H locs ls2 ⟨B.1, B.2.1, B.2.2.1, lh_set1 (i := 6) (v := iv x) B.2.2.2 hn (fun w hw => ?_) h2⟩)
  cases hw; exact hj
theorem r_astore_6 {k : MD} {G : List GD} {n : Nat} {post : Option PV → Mem → Prop} {z : ZZ} {pc pc2 : Nat} {S : List PV} {M : Mem} {a0 a1 a2 a3 a4 a5 : Option PV} {R : List (Option PV)} {o : Option PV} {x : Nat} (hd : Dk k pc (.astore 6) 2 pc2) (hj : nj a5 = true) (kk : WP k G n post z pc2 (a0 :: a1 :: a2 :: a3 :: a4 :: a5 :: some (rv x) :: R) S M) : WP k G n post z pc (a0 :: a1 :: a2 :: a3 :: a4 :: a5 :: o :: R) (rv x :: S) M := by
  obtain ⟨p, l, e, s, m, args, below, meth, c, D, dA, adK, adV, ad⟩ := z
  obtain ⟨hd, rfl⟩ := hd
  intro C H locs ls B
  have hn : 6 < k.2.2.1 := by have := B.2.2.2.2.1; simp at this; omega
  refine lv_astore C.1 C.2.1 hd (lh_has B.2.2.2) hn rfl (fun ls2 h2 => kk C H locs ls2 ⟨B.1, B.2.1, B.2.2.1, lh_set1 (i := 6) (v := rv x) B.2.2.2 hn (fun w hw => ?_) h2⟩)
  cases hw; exact hj
theorem r_lstore_6 {k : MD} {G : List GD} {n : Nat} {post : Option PV → Mem → Prop} {z : ZZ} {pc pc2 : Nat} {S : List PV} {M : Mem} {a0 a1 a2 a3 a4 a5 : Option PV} {R : List (Option PV)} {o1 o2 : Option PV} {x : Int} (hd : Dk k pc (.lstore 6) 2 pc2) (hj : nj a5 = true) (kk : WP k G n post z pc2 (a0 :: a1 :: a2 :: a3 :: a4 :: a5 :: some (jv x) :: none :: R) S M) : WP k G n post z pc (a0 :: a1 :: a2 :: a3 :: a4 :: a5 :: o1 :: o2 :: R) (jv x :: S) M := by
  obtain ⟨p, l, e, s, m, args, below, meth, c, D, dA, adK, adV, ad⟩ := z
  obtain ⟨hd, rfl⟩ := hd
  intro C H locs ls B
  have hn : 6 + 1 < k.2.2.1 := by have := B.2.2.2.2.1; simp at this; omega
  refine lv_lstore C.1 C.2.1 hd (lh_has B.2.2.2) hn rfl (fun ls2 h2 => kk C H locs ls2 ⟨B.1, B.2.1, B.2.2.1, lh_set2 (i := 6) (v := jv x) B.2.2.2 hn (fun w hw => ?_) h2⟩)
  cases hw; exact hj
theorem r_iinc_6 {k : MD} {G : List GD} {n : Nat} {post : Option PV → Mem → Prop} {z : ZZ} {pc pc2 : Nat} {S : List PV} {M : Mem} {a0 a1 a2 a3 a4 a5 : Option PV} {R : List (Option PV)} {x d : Int} (hd : Dk k pc (.iinc 6 d) 3 pc2) (hj : nj a5 = true) (kk : WP k G n post z pc2 (a0 :: a1 :: a2 :: a3 :: a4 :: a5 :: some (iv (x + d)) :: R) S M) : WP k G n post z pc (a0 :: a1 :: a2 :: a3 :: a4 :: a5 :: some (iv x) :: R) S M := by
  obtain ⟨p, l, e, s, m, args, below, meth, c, D, dA, adK, adV, ad⟩ := z
  obtain ⟨hd, rfl⟩ := hd
  intro C H locs ls B
  have hn : 6 < k.2.2.1 := by have := B.2.2.2.2.1; simp at this; omega
  obtain ⟨kq, hq⟩ := List.getElem?_of_mem (la_mem (ad := ad) (L := a0 :: a1 :: a2 :: a3 :: a4 :: a5 :: some (iv x) :: R) (q := (6, tv ad (iv x))).mpr ⟨iv x, rfl, rfl⟩)
  refine lv_iinc C.1 C.2.1 hd (lh_has B.2.2.2) hq (v := Int32.ofInt (x + d)) (by rw [Int32.ofInt_add]) hn rfl (fun ls2 h2 => kk C H locs ls2 ⟨B.1, B.2.1, B.2.2.1, lh_set1 (i := 6) (v := iv (x + d)) B.2.2.2 hn (fun w hw => ?_) h2⟩)
  cases hw; exact hj
theorem r_iload_7 {k : MD} {G : List GD} {n : Nat} {post : Option PV → Mem → Prop} {z : ZZ} {pc pc2 : Nat} {S : List PV} {M : Mem} {a0 a1 a2 a3 a4 a5 a6 : Option PV} {R : List (Option PV)} {x : Int} (hd : Dk k pc (.iload 7) 2 pc2) (kk : WP k G n post z pc2 (a0 :: a1 :: a2 :: a3 :: a4 :: a5 :: a6 :: some (iv x) :: R) (iv x :: S) M) : WP k G n post z pc (a0 :: a1 :: a2 :: a3 :: a4 :: a5 :: a6 :: some (iv x) :: R) S M := by
  obtain ⟨p, l, e, s, m, args, below, meth, c, D, dA, adK, adV, ad⟩ := z
  obtain ⟨hd, rfl⟩ := hd
  intro C H locs ls B
  exact lv_iload C.1 C.2.1 hd (lh_at B.2.2.2 (i := 7) rfl) (kk C H locs ls B)
theorem r_aload_7 {k : MD} {G : List GD} {n : Nat} {post : Option PV → Mem → Prop} {z : ZZ} {pc pc2 : Nat} {S : List PV} {M : Mem} {a0 a1 a2 a3 a4 a5 a6 : Option PV} {R : List (Option PV)} {x : Nat} (hd : Dk k pc (.aload 7) 2 pc2) (kk : WP k G n post z pc2 (a0 :: a1 :: a2 :: a3 :: a4 :: a5 :: a6 :: some (rv x) :: R) (rv x :: S) M) : WP k G n post z pc (a0 :: a1 :: a2 :: a3 :: a4 :: a5 :: a6 :: some (rv x) :: R) S M := by
  obtain ⟨p, l, e, s, m, args, below, meth, c, D, dA, adK, adV, ad⟩ := z
  obtain ⟨hd, rfl⟩ := hd
  intro C H locs ls B
  exact lv_aload C.1 C.2.1 hd (lh_at B.2.2.2 (i := 7) rfl) (kk C H locs ls B)
theorem r_lload_7 {k : MD} {G : List GD} {n : Nat} {post : Option PV → Mem → Prop} {z : ZZ} {pc pc2 : Nat} {S : List PV} {M : Mem} {a0 a1 a2 a3 a4 a5 a6 : Option PV} {R : List (Option PV)} {x : Int} (hd : Dk k pc (.lload 7) 2 pc2) (kk : WP k G n post z pc2 (a0 :: a1 :: a2 :: a3 :: a4 :: a5 :: a6 :: some (jv x) :: R) (jv x :: S) M) : WP k G n post z pc (a0 :: a1 :: a2 :: a3 :: a4 :: a5 :: a6 :: some (jv x) :: R) S M := by
  obtain ⟨p, l, e, s, m, args, below, meth, c, D, dA, adK, adV, ad⟩ := z
  obtain ⟨hd, rfl⟩ := hd
  intro C H locs ls B
  exact lv_lload C.1 C.2.1 hd (lh_at B.2.2.2 (i := 7) rfl) (kk C H locs ls B)
theorem r_istore_7 {k : MD} {G : List GD} {n : Nat} {post : Option PV → Mem → Prop} {z : ZZ} {pc pc2 : Nat} {S : List PV} {M : Mem} {a0 a1 a2 a3 a4 a5 a6 : Option PV} {R : List (Option PV)} {o : Option PV} {x : Int} (hd : Dk k pc (.istore 7) 2 pc2) (hj : nj a6 = true) (kk : WP k G n post z pc2 (a0 :: a1 :: a2 :: a3 :: a4 :: a5 :: a6 :: some (iv x) :: R) S M) : WP k G n post z pc (a0 :: a1 :: a2 :: a3 :: a4 :: a5 :: a6 :: o :: R) (iv x :: S) M := by
  obtain ⟨p, l, e, s, m, args, below, meth, c, D, dA, adK, adV, ad⟩ := z
  obtain ⟨hd, rfl⟩ := hd
  intro C H locs ls B
  have hn : 7 < k.2.2.1 := by have := B.2.2.2.2.1; simp at this; omega
  refine lv_istore C.1 C.2.1 hd (lh_has B.2.2.2) hn rfl (fun ls2 h2 => kk C H locs ls2 ⟨B.1, B.2.1, B.2.2.1, lh_set1 (i := 7) (v := iv x) B.2.2.2 hn (fun w hw => ?_) h2⟩)
  cases hw; exact hj
theorem r_astore_7 {k : MD} {G : List GD} {n : Nat} {post : Option PV → Mem → Prop} {z : ZZ} {pc pc2 : Nat} {S : List PV} {M : Mem} {a0 a1 a2 a3 a4 a5 a6 : Option PV} {R : List (Option PV)} {o : Option PV} {x : Nat} (hd : Dk k pc (.astore 7) 2 pc2) (hj : nj a6 = true) (kk : WP k G n post z pc2 (a0 :: a1 :: a2 :: a3 :: a4 :: a5 :: a6 :: some (rv x) :: R) S M) : WP k G n post z pc (a0 :: a1 :: a2 :: a3 :: a4 :: a5 :: a6 :: o :: R) (rv x :: S) M := by
  obtain ⟨p, l, e, s, m, args, below, meth, c, D, dA, adK, adV, ad⟩ := z
  obtain ⟨hd, rfl⟩ := hd
  intro C H locs ls B
  have hn : 7 < k.2.2.1 := by have := B.2.2.2.2.1; simp at this; omega
  refine lv_astore C.1 C.2.1 hd (lh_has B.2.2.2) hn rfl (fun ls2 h2 => kk C H locs ls2 ⟨B.1, B.2.1, B.2.2.1, lh_set1 (i := 7) (v := rv x) B.2.2.2 hn (fun w hw => ?_) h2⟩)
  cases hw; exact hj
theorem r_lstore_7 {k : MD} {G : List GD} {n : Nat} {post : Option PV → Mem → Prop} {z : ZZ} {pc pc2 : Nat} {S : List PV} {M : Mem} {a0 a1 a2 a3 a4 a5 a6 : Option PV} {R : List (Option PV)} {o1 o2 : Option PV} {x : Int} (hd : Dk k pc (.lstore 7) 2 pc2) (hj : nj a6 = true) (kk : WP k G n post z pc2 (a0 :: a1 :: a2 :: a3 :: a4 :: a5 :: a6 :: some (jv x) :: none :: R) S M) : WP k G n post z pc (a0 :: a1 :: a2 :: a3 :: a4 :: a5 :: a6 :: o1 :: o2 :: R) (jv x :: S) M := by
  obtain ⟨p, l, e, s, m, args, below, meth, c, D, dA, adK, adV, ad⟩ := z
  obtain ⟨hd, rfl⟩ := hd
  intro C H locs ls B
  have hn : 7 + 1 < k.2.2.1 := by have := B.2.2.2.2.1; simp at this; omega
  refine lv_lstore C.1 C.2.1 hd (lh_has B.2.2.2) hn rfl (fun ls2 h2 => kk C H locs ls2 ⟨B.1, B.2.1, B.2.2.1, lh_set2 (i := 7) (v := jv x) B.2.2.2 hn (fun w hw => ?_) h2⟩)
  cases hw; exact hj
theorem r_iinc_7 {k : MD} {G : List GD} {n : Nat} {post : Option PV → Mem → Prop} {z : ZZ} {pc pc2 : Nat} {S : List PV} {M : Mem} {a0 a1 a2 a3 a4 a5 a6 : Option PV} {R : List (Option PV)} {x d : Int} (hd : Dk k pc (.iinc 7 d) 3 pc2) (hj : nj a6 = true) (kk : WP k G n post z pc2 (a0 :: a1 :: a2 :: a3 :: a4 :: a5 :: a6 :: some (iv (x + d)) :: R) S M) : WP k G n post z pc (a0 :: a1 :: a2 :: a3 :: a4 :: a5 :: a6 :: some (iv x) :: R) S M := by
  obtain ⟨p, l, e, s, m, args, below, meth, c, D, dA, adK, adV, ad⟩ := z
  obtain ⟨hd, rfl⟩ := hd
  intro C H locs ls B
  have hn : 7 < k.2.2.1 := by have := B.2.2.2.2.1; simp at this; omega
  obtain ⟨kq, hq⟩ := List.getElem?_of_mem (la_mem (ad := ad) (L := a0 :: a1 :: a2 :: a3 :: a4 :: a5 :: a6 :: some (iv x) :: R) (q := (7, tv ad (iv x))).mpr ⟨iv x, rfl, rfl⟩)
  refine lv_iinc C.1 C.2.1 hd (lh_has B.2.2.2) hq (v := Int32.ofInt (x + d)) (by rw [Int32.ofInt_add]) hn rfl (fun ls2 h2 => kk C H locs ls2 ⟨B.1, B.2.1, B.2.2.1, lh_set1 (i := 7) (v := iv (x + d)) B.2.2.2 hn (fun w hw => ?_) h2⟩)
  cases hw; exact hj
theorem r_iload_8 {k : MD} {G : List GD} {n : Nat} {post : Option PV → Mem → Prop} {z : ZZ} {pc pc2 : Nat} {S : List PV} {M : Mem} {a0 a1 a2 a3 a4 a5 a6 a7 : Option PV} {R : List (Option PV)} {x : Int} (hd : Dk k pc (.iload 8) 2 pc2) (kk : WP k G n post z pc2 (a0 :: a1 :: a2 :: a3 :: a4 :: a5 :: a6 :: a7 :: some (iv x) :: R) (iv x :: S) M) : WP k G n post z pc (a0 :: a1 :: a2 :: a3 :: a4 :: a5 :: a6 :: a7 :: some (iv x) :: R) S M := by
  obtain ⟨p, l, e, s, m, args, below, meth, c, D, dA, adK, adV, ad⟩ := z
  obtain ⟨hd, rfl⟩ := hd
  intro C H locs ls B
  exact lv_iload C.1 C.2.1 hd (lh_at B.2.2.2 (i := 8) rfl) (kk C H locs ls B)
theorem r_aload_8 {k : MD} {G : List GD} {n : Nat} {post : Option PV → Mem → Prop} {z : ZZ} {pc pc2 : Nat} {S : List PV} {M : Mem} {a0 a1 a2 a3 a4 a5 a6 a7 : Option PV} {R : List (Option PV)} {x : Nat} (hd : Dk k pc (.aload 8) 2 pc2) (kk : WP k G n post z pc2 (a0 :: a1 :: a2 :: a3 :: a4 :: a5 :: a6 :: a7 :: some (rv x) :: R) (rv x :: S) M) : WP k G n post z pc (a0 :: a1 :: a2 :: a3 :: a4 :: a5 :: a6 :: a7 :: some (rv x) :: R) S M := by
  obtain ⟨p, l, e, s, m, args, below, meth, c, D, dA, adK, adV, ad⟩ := z
  obtain ⟨hd, rfl⟩ := hd
  intro C H locs ls B
  exact lv_aload C.1 C.2.1 hd (lh_at B.2.2.2 (i := 8) rfl) (kk C H locs ls B)
theorem r_lload_8 {k : MD} {G : List GD} {n : Nat} {post : Option PV → Mem → Prop} {z : ZZ} {pc pc2 : Nat} {S : List PV} {M : Mem} {a0 a1 a2 a3 a4 a5 a6 a7 : Option PV} {R : List (Option PV)} {x : Int} (hd : Dk k pc (.lload 8) 2 pc2) (kk : WP k G n post z pc2 (a0 :: a1 :: a2 :: a3 :: a4 :: a5 :: a6 :: a7 :: some (jv x) :: R) (jv x :: S) M) : WP k G n post z pc (a0 :: a1 :: a2 :: a3 :: a4 :: a5 :: a6 :: a7 :: some (jv x) :: R) S M := by
  obtain ⟨p, l, e, s, m, args, below, meth, c, D, dA, adK, adV, ad⟩ := z
  obtain ⟨hd, rfl⟩ := hd
  intro C H locs ls B
  exact lv_lload C.1 C.2.1 hd (lh_at B.2.2.2 (i := 8) rfl) (kk C H locs ls B)
theorem r_istore_8 {k : MD} {G : List GD} {n : Nat} {post : Option PV → Mem → Prop} {z : ZZ} {pc pc2 : Nat} {S : List PV} {M : Mem} {a0 a1 a2 a3 a4 a5 a6 a7 : Option PV} {R : List (Option PV)} {o : Option PV} {x : Int} (hd : Dk k pc (.istore 8) 2 pc2) (hj : nj a7 = true) (kk : WP k G n post z pc2 (a0 :: a1 :: a2 :: a3 :: a4 :: a5 :: a6 :: a7 :: some (iv x) :: R) S M) : WP k G n post z pc (a0 :: a1 :: a2 :: a3 :: a4 :: a5 :: a6 :: a7 :: o :: R) (iv x :: S) M := by
  obtain ⟨p, l, e, s, m, args, below, meth, c, D, dA, adK, adV, ad⟩ := z
  obtain ⟨hd, rfl⟩ := hd
  intro C H locs ls B
  have hn : 8 < k.2.2.1 := by have := B.2.2.2.2.1; simp at this; omega
  refine lv_istore C.1 C.2.1 hd (lh_has B.2.2.2) hn rfl (fun ls2 h2 => kk C H locs ls2 ⟨B.1, B.2.1, B.2.2.1, lh_set1 (i := 8) (v := iv x) B.2.2.2 hn (fun w hw => ?_) h2⟩)
  cases hw; exact hj
theorem r_astore_8 {k : MD} {G : List GD} {n : Nat} {post : Option PV → Mem → Prop} {z : ZZ} {pc pc2 : Nat} {S : List PV} {M : Mem} {a0 a1 a2 a3 a4 a5 a6 a7 : Option PV} {R : List (Option PV)} {o : Option PV} {x : Nat} (hd : Dk k pc (.astore 8) 2 pc2) (hj : nj a7 = true) (kk : WP k G n post z pc2 (a0 :: a1 :: a2 :: a3 :: a4 :: a5 :: a6 :: a7 :: some (rv x) :: R) S M) : WP k G n post z pc (a0 :: a1 :: a2 :: a3 :: a4 :: a5 :: a6 :: a7 :: o :: R) (rv x :: S) M := by
  obtain ⟨p, l, e, s, m, args, below, meth, c, D, dA, adK, adV, ad⟩ := z
  obtain ⟨hd, rfl⟩ := hd
  intro C H locs ls B
  have hn : 8 < k.2.2.1 := by have := B.2.2.2.2.1; simp at this; omega
  refine lv_astore C.1 C.2.1 hd (lh_has B.2.2.2) hn rfl (fun ls2 h2 => kk C H locs ls2 ⟨B.1, B.2.1, B.2.2.1, lh_set1 (i := 8) (v := rv x) B.2.2.2 hn (fun w hw => ?_) h2⟩)
  cases hw; exact hj
theorem r_lstore_8 {k : MD} {G : List GD} {n : Nat} {post : Option PV → Mem → Prop} {z : ZZ} {pc pc2 : Nat} {S : List PV} {M : Mem} {a0 a1 a2 a3 a4 a5 a6 a7 : Option PV} {R : List (Option PV)} {o1 o2 : Option PV} {x : Int} (hd : Dk k pc (.lstore 8) 2 pc2) (hj : nj a7 = true) (kk : WP k G n post z pc2 (a0 :: a1 :: a2 :: a3 :: a4 :: a5 :: a6 :: a7 :: some (jv x) :: none :: R) S M) : WP k G n post z pc (a0 :: a1 :: a2 :: a3 :: a4 :: a5 :: a6 :: a7 :: o1 :: o2 :: R) (jv x :: S) M := by
  obtain ⟨p, l, e, s, m, args, below, meth, c, D, dA, adK, adV, ad⟩ := z
  obtain ⟨hd, rfl⟩ := hd
  intro C H locs ls B
  have hn : 8 + 1 < k.2.2.1 := by have := B.2.2.2.2.1; simp at this; omega
  refine lv_lstore C.1 C.2.1 hd (lh_has B.2.2.2) hn rfl (fun ls2 h2 => kk C H locs ls2 ⟨B.1, B.2.1, B.2.2.1, lh_set2 (i := 8) (v := jv x) B.2.2.2 hn (fun w hw => ?_) h2⟩)
  cases hw; exact hj
theorem r_iinc_8 {k : MD} {G : List GD} {n : Nat} {post : Option PV → Mem → Prop} {z : ZZ} {pc pc2 : Nat} {S : List PV} {M : Mem} {a0 a1 a2 a3 a4 a5 a6 a7 : Option PV} {R : List (Option PV)} {x d : Int} (hd : Dk k pc (.iinc 8 d) 3 pc2) (hj : nj a7 = true) (kk : WP k G n post z pc2 (a0 :: a1 :: a2 :: a3 :: a4 :: a5 :: a6 :: a7 :: some (iv (x + d)) :: R) S M) : WP k G n post z pc (a0 :: a1 :: a2 :: a3 :: a4 :: a5 :: a6 :: a7 :: some (iv x) :: R) S M := by
  obtain ⟨p, l, e, s, m, args, below, meth, c, D, dA, adK, adV, ad⟩ := z
  obtain ⟨hd, rfl⟩ := hd
  intro C H locs ls B
  have hn : 8 < k.2.2.1 := by have := B.2.2.2.2.1; simp at this; omega
  obtain ⟨kq, hq⟩ := List.getElem?_of_mem (la_mem (ad := ad) (L := a0 :: a1 :: a2 :: a3 :: a4 :: a5 :: a6 :: a7 :: some (iv x) :: R) (q := (8, tv ad (iv x))).mpr ⟨iv x, rfl, rfl⟩)
  refine lv_iinc C.1 C.2.1 hd (lh_has B.2.2.2) hq (v := Int32.ofInt (x + d)) (by rw [Int32.ofInt_add]) hn rfl (fun ls2 h2 => kk C H locs ls2 ⟨B.1, B.2.1, B.2.2.1, lh_set1 (i := 8) (v := iv (x + d)) B.2.2.2 hn (fun w hw => ?_) h2⟩)
  cases hw; exact hj
theorem r_iload_9 {k : MD} {G : List GD} {n : Nat} {post : Option PV → Mem → Prop} {z : ZZ} {pc pc2 : Nat} {S : List PV} {M : Mem} {a0 a1 a2 a3 a4 a5 a6 a7 a8 : Option PV} {R : List (Option PV)} {x : Int} (hd : Dk k pc (.iload 9) 2 pc2) (kk : WP k G n post z pc2 (a0 :: a1 :: a2 :: a3 :: a4 :: a5 :: a6 :: a7 :: a8 :: some (iv x) :: R) (iv x :: S) M) : WP k G n post z pc (a0 :: a1 :: a2 :: a3 :: a4 :: a5 :: a6 :: a7 :: a8 :: some (iv x) :: R) S M := by
  obtain ⟨p, l, e, s, m, args, below, meth, c, D, dA, adK, adV, ad⟩ := z
  obtain ⟨hd, rfl⟩ := hd
  intro C H locs ls B
  exact lv_iload C.1 C.2.1 hd (lh_at B.2.2.2 (i := 9) rfl) (kk C H locs ls B)
theorem r_aload_9 {k : MD} {G : List GD} {n : Nat} {post : Option PV → Mem → Prop} {z : ZZ} {pc pc2 : Nat} {S : List PV} {M : Mem} {a0 a1 a2 a3 a4 a5 a6 a7 a8 : Option PV} {R : List (Option PV)} {x : Nat} (hd : Dk k pc (.aload 9) 2 pc2) (kk : WP k G n post z pc2 (a0 :: a1 :: a2 :: a3 :: a4 :: a5 :: a6 :: a7 :: a8 :: some (rv x) :: R) (rv x :: S) M) : WP k G n post z pc (a0 :: a1 :: a2 :: a3 :: a4 :: a5 :: a6 :: a7 :: a8 :: some (rv x) :: R) S M := by
  obtain ⟨p, l, e, s, m, args, below, meth, c, D, dA, adK, adV, ad⟩ := z
  obtain ⟨hd, rfl⟩ := hd
  intro C H locs ls B
  exact lv_aload C.1 C.2.1 hd (lh_at B.2.2.2 (i := 9) rfl) (kk C H locs ls B)
theorem r_lload_9 {k : MD} {G : List GD} {n : Nat} {post : Option PV → Mem → Prop} {z : ZZ} {pc pc2 : Nat} {S : List PV} {M : Mem} {a0 a1 a2 a3 a4 a5 a6 a7 a8 : Option PV} {R : List (Option PV)} {x : Int} (hd : Dk k pc (.lload 9) 2 pc2) (kk : WP k G n post z pc2 (a0 :: a1 :: a2 :: a3 :: a4 :: a5 :: a6 :: a7 :: a8 :: some (jv x) :: R) (jv x :: S) M) : WP k G n post z pc (a0 :: a1 :: a2 :: a3 :: a4 :: a5 :: a6 :: a7 :: a8 :: some (jv x) :: R) S M := by
  obtain ⟨p, l, e, s, m, args, below, meth, c, D, dA, adK, adV, ad⟩ := z
  obtain ⟨hd, rfl⟩ := hd
  intro C H locs ls B
  exact lv_lload C.1 C.2.1 hd (lh_at B.2.2.2 (i := 9) rfl) (kk C H locs ls B)
theorem r_istore_9 {k : MD} {G : List GD} {n : Nat} {post : Option PV → Mem → Prop} {z : ZZ} {pc pc2 : Nat} {S : List PV} {M : Mem} {a0 a1 a2 a3 a4 a5 a6 a7 a8 : Option PV} {R : List (Option PV)} {o : Option PV} {x : Int} (hd : Dk k pc (.istore 9) 2 pc2) (hj : nj a8 = true) (kk : WP k G n post z pc2 (a0 :: a1 :: a2 :: a3 :: a4 :: a5 :: a6 :: a7 :: a8 :: some (iv x) :: R) S M) : WP k G n post z pc (a0 :: a1 :: a2 :: a3 :: a4 :: a5 :: a6 :: a7 :: a8 :: o :: R) (iv x :: S) M := by
  obtain ⟨p, l, e, s, m, args, below, meth, c, D, dA, adK, adV, ad⟩ := z
  obtain ⟨hd, rfl⟩ := hd
  intro C H locs ls B
  have hn : 9 < k.2.2.1 := by have := B.2.2.2.2.1; simp at this; omega
  refine lv_istore C.1 C.2.1 hd (lh_has B.2.2.2) hn rfl (fun ls2 h2 => kk C H locs ls2 ⟨B.1, B.2.1, B.2.2.1, lh_set1 (i := 9) (v := iv x) B.2.2.2 hn (fun w hw => ?_) h2⟩)
  cases hw; exact hj
theorem r_astore_9 {k : MD} {G : List GD} {n : Nat} {post : Option PV → Mem → Prop} {z : ZZ} {pc pc2 : Nat} {S : List PV} {M : Mem} {a0 a1 a2 a3 a4 a5 a6 a7 a8 : Option PV} {R : List (Option PV)} {o : Option PV} {x : Nat} (hd : Dk k pc (.astore 9) 2 pc2) (hj : nj a8 = true) (kk : WP k G n post z pc2 (a0 :: a1 :: a2 :: a3 :: a4 :: a5 :: a6 :: a7 :: a8 :: some (rv x) :: R) S M) : WP k G n post z pc (a0 :: a1 :: a2 :: a3 :: a4 :: a5 :: a6 :: a7 :: a8 :: o :: R) (rv x :: S) M := by
  obtain ⟨p, l, e, s, m, args, below, meth, c, D, dA, adK, adV, ad⟩ := z
  obtain ⟨hd, rfl⟩ := hd
  intro C H locs ls B
  have hn : 9 < k.2.2.1 := by have := B.2.2.2.2.1; simp at this; omega
  refine lv_astore C.1 C.2.1 hd (lh_has B.2.2.2) hn rfl (fun ls2 h2 => kk C H locs ls2 ⟨B.1, B.2.1, B.2.2.1, lh_set1 (i := 9) (v := rv x) B.2.2.2 hn (fun w hw => ?_) h2⟩)
  cases hw; exact hj
theorem r_lstore_9 {k : MD} {G : List GD} {n : Nat} {post : Option PV → Mem → Prop} {z : ZZ} {pc pc2 : Nat} {S : List PV} {M : Mem} {a0 a1 a2 a3 a4 a5 a6 a7 a8 : Option PV} {R : List (Option PV)} {o1 o2 : Option PV} {x : Int} (hd : Dk k pc (.lstore 9) 2 pc2) (hj : nj a8 = true) (kk : WP k G n post z pc2 (a0 :: a1 :: a2 :: a3 :: a4 :: a5 :: a6 :: a7 :: a8 :: some (jv x) :: none :: R) S M) : WP k G n post z pc (a0 :: a1 :: a2 :: a3 :: a4 :: a5 :: a6 :: a7 :: a8 :: o1 :: o2 :: R) (jv x :: S) M := by
  obtain ⟨p, l, e, s, m, args, below, meth, c, D, dA, adK, adV, ad⟩ := z
  obtain ⟨hd, rfl⟩ := hd
  intro C H locs ls B
  have hn : 9 + 1 < k.2.2.1 := by have := B.2.2.2.2.1; simp at this; omega
  refine lv_lstore C.1 C.2.1 hd (lh_has B.2.2.2) hn rfl (fun ls2 h2 => kk C H locs ls2 ⟨B.1, B.2.1, B.2.2.1, lh_set2 (i := 9) (v := jv x) B.2.2.2 hn (fun w hw => ?_) h2⟩)
  cases hw; exact hj
theorem r_iinc_9 {k : MD} {G : List GD} {n : Nat} {post : Option PV → Mem → Prop} {z : ZZ} {pc pc2 : Nat} {S : List PV} {M : Mem} {a0 a1 a2 a3 a4 a5 a6 a7 a8 : Option PV} {R : List (Option PV)} {x d : Int} (hd : Dk k pc (.iinc 9 d) 3 pc2) (hj : nj a8 = true) (kk : WP k G n post z pc2 (a0 :: a1 :: a2 :: a3 :: a4 :: a5 :: a6 :: a7 :: a8 :: some (iv (x + d)) :: R) S M) : WP k G n post z pc (a0 :: a1 :: a2 :: a3 :: a4 :: a5 :: a6 :: a7 :: a8 :: some (iv x) :: R) S M := by
  obtain ⟨p, l, e, s, m, args, below, meth, c, D, dA, adK, adV, ad⟩ := z
  obtain ⟨hd, rfl⟩ := hd
  intro C H locs ls B
  have hn : 9 < k.2.2.1 := by have := B.2.2.2.2.1; simp at this; omega
  obtain ⟨kq, hq⟩ := List.getElem?_of_mem (la_mem (ad := ad) (L := a0 :: a1 :: a2 :: a3 :: a4 :: a5 :: a6 :: a7 :: a8 :: some (iv x) :: R) (q := (9, tv ad (iv x))).mpr ⟨iv x, rfl, rfl⟩)
  refine lv_iinc C.1 C.2.1 hd (lh_has B.2.2.2) hq (v := Int32.ofInt (x + d)) (by rw [Int32.ofInt_add]) hn rfl (fun ls2 h2 => kk C H locs ls2 ⟨B.1, B.2.1, B.2.2.1, lh_set1 (i := 9) (v := iv (x + d)) B.2.2.2 hn (fun w hw => ?_) h2⟩)
  cases hw; exact hj
theorem r_iload_10 {k : MD} {G : List GD} {n : Nat} {post : Option PV → Mem → Prop} {z : ZZ} {pc pc2 : Nat} {S : List PV} {M : Mem} {a0 a1 a2 a3 a4 a5 a6 a7 a8 a9 : Option PV} {R : List (Option PV)} {x : Int} (hd : Dk k pc (.iload 10) 2 pc2) (kk : WP k G n post z pc2 (a0 :: a1 :: a2 :: a3 :: a4 :: a5 :: a6 :: a7 :: a8 :: a9 :: some (iv x) :: R) (iv x :: S) M) : WP k G n post z pc (a0 :: a1 :: a2 :: a3 :: a4 :: a5 :: a6 :: a7 :: a8 :: a9 :: some (iv x) :: R) S M := by
  obtain ⟨p, l, e, s, m, args, below, meth, c, D, dA, adK, adV, ad⟩ := z
  obtain ⟨hd, rfl⟩ := hd
  intro C H locs ls B
  exact lv_iload C.1 C.2.1 hd (lh_at B.2.2.2 (i := 10) rfl) (kk C H locs ls B)
theorem r_aload_10 {k : MD} {G : List GD} {n : Nat} {post : Option PV → Mem → Prop} {z : ZZ} {pc pc2 : Nat} {S : List PV} {M : Mem} {a0 a1 a2 a3 a4 a5 a6 a7 a8 a9 : Option PV} {R : List (Option PV)} {x : Nat} (hd : Dk k pc (.aload 10) 2 pc2) (kk : WP k G n post z pc2 (a0 :: a1 :: a2 :: a3 :: a4 :: a5 :: a6 :: a7 :: a8 :: a9 :: some (rv x) :: R) (rv x :: S) M) : WP k G n post z pc (a0 :: a1 :: a2 :: a3 :: a4 :: a5 :: a6 :: a7 :: a8 :: a9 :: some (rv x) :: R) S M := by
  obtain ⟨p, l, e, s, m, args, below, meth, c, D, dA, adK, adV, ad⟩ := z
  obtain ⟨hd, rfl⟩ := hd
  intro C H locs ls B
  exact lv_aload C.1 C.2.1 hd (lh_at B.2.2.2 (i := 10) rfl) (kk C H locs ls B)
theorem r_lload_10 {k : MD} {G : List GD} {n : Nat} {post : Option PV → Mem → Prop} {z : ZZ} {pc pc2 : Nat} {S : List PV} {M : Mem} {a0 a1 a2 a3 a4 a5 a6 a7 a8 a9 : Option PV} {R : List (Option PV)} {x : Int} (hd : Dk k pc (.lload 10) 2 pc2) (kk : WP k G n post z pc2 (a0 :: a1 :: a2 :: a3 :: a4 :: a5 :: a6 :: a7 :: a8 :: a9 :: some (jv x) :: R) (jv x :: S) M) : WP k G n post z pc (a0 :: a1 :: a2 :: a3 :: a4 :: a5 :: a6 :: a7 :: a8 :: a9 :: some (jv x) :: R) S M := by
  obtain ⟨p, l, e, s, m, args, below, meth, c, D, dA, adK, adV, ad⟩ := z
  obtain ⟨hd, rfl⟩ := hd
  intro C H locs ls B
  exact lv_lload C.1 C.2.1 hd (lh_at B.2.2.2 (i := 10) rfl) (kk C H locs ls B)
theorem r_istore_10 {k : MD} {G : List GD} {n : Nat} {post : Option PV → Mem → Prop} {z : ZZ} {pc pc2 : Nat} {S : List PV} {M : Mem} {a0 a1 a2 a3 a4 a5 a6 a7 a8 a9 : Option PV} {R : List (Option PV)} {o : Option PV} {x : Int} (hd : Dk k pc (.istore 10) 2 pc2) (hj : nj a9 = true) (kk : WP k G n post z pc2 (a0 :: a1 :: a2 :: a3 :: a4 :: a5 :: a6 :: a7 :: a8 :: a9 :: some (iv x) :: R) S M) : WP k G n post z pc (a0 :: a1 :: a2 :: a3 :: a4 :: a5 :: a6 :: a7 :: a8 :: a9 :: o :: R) (iv x :: S) M := by
  obtain ⟨p, l, e, s, m, args, below, meth, c, D, dA, adK, adV, ad⟩ := z
  obtain ⟨hd, rfl⟩ := hd
  intro C H locs ls B
  have hn : 10 < k.2.2.1 := by have := B.2.2.2.2.1; simp at this; omega
  refine lv_istore C.1 C.2.1 hd (lh_has B.2.2.2) hn rfl (fun ls2 h2 => kk C H locs ls2 ⟨B.1, B.2.1, B.2.2.1, lh_set1 (i := 10) (v := iv x) B.2.2.2 hn (fun w hw => ?_) h2⟩)
  cases hw; exact hj
theorem r_astore_10 {k : MD} {G : List GD} {n : Nat} {post : Option PV → Mem → Prop} {z : ZZ} {pc pc2 : Nat} {S : List PV} {M : Mem} {a0 a1 a2 a3 a4 a5 a6 a7 a8 a9 : Option PV} {R : List (Option PV)} {o : Option PV} {x : Nat} (hd : Dk k pc (.astore 10) 2 pc2) (hj : nj a9 = true) (kk : WP k G n post z pc2 (a0 :: a1 :: a2 :: a3 :: a4 :: a5 :: a6 :: a7 :: a8 :: a9 :: some (rv x) :: R) S M) : WP k G n post z pc (a0 :: a1 :: a2 :: a3 :: a4 :: a5 :: a6 :: a7 :: a8 :: a9 :: o :: R) (rv x :: S) M := by
  obtain ⟨p, l, e, s, m, args, below, meth, c, D, dA, adK, adV, ad⟩ := z
  obtain ⟨hd, rfl⟩ := hd
  intro C H locs ls B
  have hn : 10 < k.2.2.1 := by have := B.2.2.2.2.1; simp at this; omega
  refine lv_astore C.1 C.2.1 hd (lh_has B.2.2.2) hn rfl (fun ls2 h2 => kk C H locs ls2 ⟨B.1, B.2.1, B.2.2.1, lh_set1 (i := 10) (v := rv x) B.2.2.2 hn (fun w hw => ?_) h2⟩)
  cases hw; exact hj
theorem r_lstore_10 {k : MD} {G : List GD} {n : Nat} {post : Option PV → Mem → Prop} {z : ZZ} {pc pc2 : Nat} {S : List PV} {M : Mem} {a0 a1 a2 a3 a4 a5 a6 a7 a8 a9 : Option PV} {R : List (Option PV)} {o1 o2 : Option PV} {x : Int} (hd : Dk k pc (.lstore 10) 2 pc2) (hj : nj a9 = true) (kk : WP k G n post z pc2 (a0 :: a1 :: a2 :: a3 :: a4 :: a5 :: a6 :: a7 :: a8 :: a9 :: some (jv x) :: none :: R) S M) : WP k G n post z pc (a0 :: a1 :: a2 :: a3 :: a4 :: a5 :: a6 :: a7 :: a8 :: a9 :: o1 :: o2 :: R) (jv x :: S) M := by
  obtain ⟨p, l, e, s, m, args, below, meth, c, D, dA, adK, adV, ad⟩ := z
  obtain ⟨hd, rfl⟩ := hd
  intro C H locs ls B
  have hn : 10 + 1 < k.2.2.1 := by have := B.2.2.2.2.1; simp at this; omega
  refine lv_lstore C.1 C.2.1 hd (lh_has B.2.2.2) hn rfl (fun ls2 h2 => kk C H locs ls2 ⟨B.1, B.2.1, B.2.2.1, lh_set2 (i := 10) (v := jv x) B.2.2.2 hn (fun w hw => ?_) h2⟩)
  cases hw; exact hj
theorem r_iinc_10 {k : MD} {G : List GD} {n : Nat} {post : Option PV → Mem → Prop} {z : ZZ} {pc pc2 : Nat} {S : List PV} {M : Mem} {a0 a1 a2 a3 a4 a5 a6 a7 a8 a9 : Option PV} {R : List (Option PV)} {x d : Int} (hd : Dk k pc (.iinc 10 d) 3 pc2) (hj : nj a9 = true) (kk : WP k G n post z pc2 (a0 :: a1 :: a2 :: a3 :: a4 :: a5 :: a6 :: a7 :: a8 :: a9 :: some (iv (x + d)) :: R) S M) : WP k G n post z pc (a0 :: a1 :: a2 :: a3 :: a4 :: a5 :: a6 :: a7 :: a8 :: a9 :: some (iv x) :: R) S M := by
  obtain ⟨p, l, e, s, m, args, below, meth, c, D, dA, adK, adV, ad⟩ := z
  obtain ⟨hd, rfl⟩ := hd
  intro C H locs ls B
  have hn : 10 < k.2.2.1 := by have := B.2.2.2.2.1; simp at this; omega
  obtain ⟨kq, hq⟩ := List.getElem?_of_mem (la_mem (ad := ad) (L := a0 :: a1 :: a2 :: a3 :: a4 :: a5 :: a6 :: a7 :: a8 :: a9 :: some (iv x) :: R) (q := (10, tv ad (iv x))).mpr ⟨iv x, rfl, rfl⟩)
  refine lv_iinc C.1 C.2.1 hd (lh_has B.2.2.2) hq (v := Int32.ofInt (x + d)) (by rw [Int32.ofInt_add]) hn rfl (fun ls2 h2 => kk C H locs ls2 ⟨B.1, B.2.1, B.2.2.1, lh_set1 (i := 10) (v := iv (x + d)) B.2.2.2 hn (fun w hw => ?_) h2⟩)
  cases hw; exact hj
theorem r_iload_11 {k : MD} {G : List GD} {n : Nat} {post : Option PV → Mem → Prop} {z : ZZ} {pc pc2 : Nat} {S : List PV} {M : Mem} {a0 a1 a2 a3 a4 a5 a6 a7 a8 a9 a10 : Option PV} {R : List (Option PV)} {x : Int} (hd : Dk k pc (.iload 11) 2 pc2) (kk : WP k G n post z pc2 (a0 :: a1 :: a2 :: a3 :: a4 :: a5 :: a6 :: a7 :: a8 :: a9 :: a10 :: some (iv x) :: R) (iv x :: S) M) : WP k G n post z pc (a0 :: a1 :: a2 :: a3 :: a4 :: a5 :: a6 :: a7 :: a8 :: a9 :: a10 :: some (iv x) :: R) S M := by
  obtain ⟨p, l, e, s, m, args, below, meth, c, D, dA, adK, adV, ad⟩ := z
  obtain ⟨hd, rfl⟩ := hd
  intro C H locs ls B
  exact lv_iload C.1 C.2.1 hd (lh_at B.2.2.2 (i := 11) rfl) (kk C H locs ls B)
theorem r_aload_11 {k : MD} {G : List GD} {n : Nat} {post : Option PV → Mem → Prop} {z : ZZ} {pc pc2 : Nat} {S : List PV} {M : Mem} {a0 a1 a2 a3 a4 a5 a6 a7 a8 a9 a10 : Option PV} {R : List (Option PV)} {x : Nat} (hd : Dk k pc (.aload 11) 2 pc2) (kk : WP k G n post z pc2 (a0 :: a1 :: a2 :: a3 :: a4 :: a5 :: a6 :: a7 :: a8 :: a9 :: a10 :: some (rv x) :: R) (rv x :: S) M) : WP k G n post z pc (a0 :: a1 :: a2 :: a3 :: a4 :: a5 :: a6 :: a7 :: a8 :: a9 :: a10 :: some (rv x) :: R) S M := by
  obtain ⟨p, l, e, s, m, args, below, meth, c, D, dA, adK, adV, ad⟩ := z
  obtain ⟨hd, rfl⟩ := hd
  intro C H locs ls B
  exact lv_aload C.1 C.2.1 hd (lh_at B.2.2.2 (i := 11) rfl) (kk C H locs ls B)
theorem r_lload_11 {k : MD} {G : List GD} {n : Nat} {post : Option PV → Mem → Prop} {z : ZZ} {pc pc2 : Nat} {S : List PV} {M : Mem} {a0 a1 a2 a3 a4 a5 a6 a7 a8 a9 a10 : Option PV} {R : List (Option PV)} {x : Int} (hd : Dk k pc (.lload 11) 2 pc2) (kk : WP k G n post z pc2 (a0 :: a1 :: a2 :: a3 :: a4 :: a5 :: a6 :: a7 :: a8 :: a9 :: a10 :: some (jv x) :: R) (jv x :: S) M) : WP k G n post z pc (a0 :: a1 :: a2 :: a3 :: a4 :: a5 :: a6 :: a7 :: a8 :: a9 :: a10 :: some (jv x) :: R) S M := by
  obtain ⟨p, l, e, s, m, args, below, meth, c, D, dA, adK, adV, ad⟩ := z
  obtain ⟨hd, rfl⟩ := hd
  intro C H locs ls B
  exact lv_lload C.1 C.2.1 hd (lh_at B.2.2.2 (i := 11) rfl) (kk C H locs ls B)
theorem r_istore_11 {k : MD} {G : List GD} {n : Nat} {post : Option PV → Mem → Prop} {z : ZZ} {pc pc2 : Nat} {S : List PV} {M : Mem} {a0 a1 a2 a3 a4 a5 a6 a7 a8 a9 a10 : Option PV} {R : List (Option PV)} {o : Option PV} {x : Int} (hd : Dk k pc (.istore 11) 2 pc2) (hj : nj a10 = true) (kk : WP k G n post z pc2 (a0 :: a1 :: a2 :: a3 :: a4 :: a5 :: a6 :: a7 :: a8 :: a9 :: a10 :: some (iv x) :: R) S M) : WP k G n post z pc (a0 :: a1 :: a2 :: a3 :: a4 :: a5 :: a6 :: a7 :: a8 :: a9 :: a10 :: o :: R) (iv x :: S) M := by
  obtain ⟨p, l, e, s, m, args, below, meth, c, D, dA, adK, adV, ad⟩ := z
  obtain ⟨hd, rfl⟩ := hd
  intro C H locs ls B
  have hn : 11 < k.2.2.1 := by have := B.2.2.2.2.1; simp at this; omega
  refine lv_istore C.1 C.2.1 hd (lh_has B.2.2.2) hn rfl (fun ls2 h2 => kk C H locs ls2 ⟨B.1, B.2.1, B.2.2.1, lh_set1 (i := 11) (v := iv x) B.2.2.2 hn (fun w hw => ?_) h2⟩)
  cases hw; exact hj
theorem r_astore_11 {k : MD} {G : List GD} {n : Nat} {post : Option PV → Mem → Prop} {z : ZZ} {pc pc2 : Nat} {S : List PV} {M : Mem} {a0 a1 a2 a3 a4 a5 a6 a7 a8 a9 a10 : Option PV} {R : List (Option PV)} {o : Option PV} {x : Nat} (hd : Dk k pc (.astore 11) 2 pc2) (hj : nj a10 = true) (kk : WP k G n post z pc2 (a0 :: a1 :: a2 :: a3 :: a4 :: a5 :: a6 :: a7 :: a8 :: a9 :: a10 :: some (rv x) :: R) S M) : WP k G n post z pc (a0 :: a1 :: a2 :: a3 :: a4 :: a5 :: a6 :: a7 :: a8 :: a9 :: a10 :: o :: R) (rv x :: S) M := by
  obtain ⟨p, l, e, s, m, args, below, meth, c, D, dA, adK, adV, ad⟩ := z
  obtain ⟨hd, rfl⟩ := hd
  intro C H locs ls B
  have hn : 11 < k.2.2.1 := by have := B.2.2.2.2.1; simp at this; omega
  refine lv_astore C.1 C.2.1 hd (lh_has B.2.2.2) hn rfl (fun ls2 h2 => kk C H locs ls2 ⟨B.1, B.2.1, B.2.2.1, lh_set1 (i := 11) (v := rv x) B.2.2.2 hn (fun w hw => ?_) h2⟩)
  cases hw; exact hj
theorem r_lstore_11 {k : MD} {G : List GD} {n : Nat} {post : Option PV → Mem → Prop} {z : ZZ} {pc pc2 : Nat} {S : List PV} {M : Mem} {a0 a1 a2 a3 a4 a5 a6 a7 a8 a9 a10 : Option PV} {R : List (Option PV)} {o1 o2 : Option PV} {x : Int} (hd : Dk k pc (.lstore 11) 2 pc2) (hj : nj a10 = true) (kk : WP k G n post z pc2 (a0 :: a1 :: a2 :: a3 :: a4 :: a5 :: a6 :: a7 :: a8 :: a9 :: a10 :: some (jv x) :: none :: R) S M) : WP k G n post z pc (a0 :: a1 :: a2 :: a3 :: a4 :: a5 :: a6 :: a7 :: a8 :: a9 :: a10 :: o1 :: o2 :: R) (jv x :: S) M := by
  obtain ⟨p, l, e, s, m, args, below, meth, c, D, dA, adK, adV, ad⟩ := z
  obtain ⟨hd, rfl⟩ := hd
  intro C H locs ls B
  have hn : 11 + 1 < k.2.2.1 := by have := B.2.2.2.2.1; simp at this; omega
  refine lv_lstore C.1 C.2.1 hd (lh_has B.2.2.2) hn rfl (fun ls2 h2 => kk C H locs ls2 ⟨B.1, B.2.1, B.2.2.1, lh_set2 (i := 11) (v := jv x) B.2.2.2 hn (fun w hw => ?_) h2⟩)
  cases hw; exact hj
theorem r_iinc_11 {k : MD} {G : List GD} {n : Nat} {post : Option PV → Mem → Prop} {z : ZZ} {pc pc2 : Nat} {S : List PV} {M : Mem} {a0 a1 a2 a3 a4 a5 a6 a7 a8 a9 a10 : Option PV} {R : List (Option PV)} {x d : Int} (hd : Dk k pc (.iinc 11 d) 3 pc2) (hj : nj a10 = true) (kk : WP k G n post z pc2 (a0 :: a1 :: a2 :: a3 :: a4 :: a5 :: a6 :: a7 :: a8 :: a9 :: a10 :: some (iv (x + d)) :: R) S M) : WP k G n post z pc (a0 :: a1 :: a2 :: a3 :: a4 :: a5 :: a6 :: a7 :: a8 :: a9 :: a10 :: some (iv x) :: R) S M := by
  obtain ⟨p, l, e, s, m, args, below, meth, c, D, dA, adK, adV, ad⟩ := z
  obtain ⟨hd, rfl⟩ := hd
  intro C H locs ls B
  have hn : 11 < k.2.2.1 := by have := B.2.2.2.2.1; simp at this; omega
  obtain ⟨kq, hq⟩ := List.getElem?_of_mem (la_mem (ad := ad) (L := a0 :: a1 :: a2 :: a3 :: a4 :: a5 :: a6 :: a7 :: a8 :: a9 :: a10 :: some (iv x) :: R) (q := (11, tv ad (iv x))).mpr ⟨iv x, rfl, rfl⟩)
  refine lv_iinc C.1 C.2.1 hd (lh_has B.2.2.2) hq (v := Int32.ofInt (x + d)) (by rw [Int32.ofInt_add]) hn rfl (fun ls2 h2 => kk C H locs ls2 ⟨B.1, B.2.1, B.2.2.1, lh_set1 (i := 11) (v := iv (x + d)) B.2.2.2 hn (fun w hw => ?_) h2⟩)
  cases hw; exact hj
theorem r_iload_12 {k : MD} {G : List GD} {n : Nat} {post : Option PV → Mem → Prop} {z : ZZ} {pc pc2 : Nat} {S : List PV} {M : Mem} {a0 a1 a2 a3 a4 a5 a6 a7 a8 a9 a10 a11 : Option PV} {R : List (Option PV)} {x : Int} (hd : Dk k pc (.iload 12) 2 pc2) (kk : WP k G n post z pc2 (a0 :: a1 :: a2 :: a3 :: a4 :: a5 :: a6 :: a7 :: a8 :: a9 :: a10 :: a11 :: some (iv x) :: R) (iv x :: S) M) : WP k G n post z pc (a0 :: a1 :: a2 :: a3 :: a4 :: a5 :: a6 :: a7 :: a8 :: a9 :: a10 :: a11 :: some (iv x) :: R) S M := by
  obtain ⟨p, l, e, s, m, args, below, meth, c, D, dA, adK, adV, ad⟩ := z
  obtain ⟨hd, rfl⟩ := hd
  intro C H locs ls B
  exact lv_iload C.1 C.2.1 hd (lh_at B.2.2.2 (i := 12) rfl) (kk C H locs ls B)
theorem r_aload_12 {k : MD} {G : List GD} {n : Nat} {post : Option PV → Mem → Prop} {z : ZZ} {pc pc2 : Nat} {S : List PV} {M : Mem} {a0 a1 a2 a3 a4 a5 a6 a7 a8 a9 a10 a11 : Option PV} {R : List (Option PV)} {x : Nat} (hd : Dk k pc (.aload 12) 2 pc2) (kk : WP k G n post z pc2 (a0 :: a1 :: a2 :: a3 :: a4 :: a5 :: a6 :: a7 :: a8 :: a9 :: a10 :: a11 :: some (rv x) :: R) (rv x :: S) M) : WP k G n post z pc (a0 :: a1 :: a2 :: a3 :: a4 :: a5 :: a6 :: a7 :: a8 :: a9 :: a10 :: a11 :: some (rv x) :: R) S M := by
  obtain ⟨p, l, e, s, m, args, below, meth, c, D, dA, adK, adV, ad⟩ := z
  obtain ⟨hd, rfl⟩ := hd
  intro C H locs ls B
  exact lv_aload C.1 C.2.1 hd (lh_at B.2.2.2 (i := 12) rfl) (kk C H locs ls B)
theorem r_lload_12 {k : MD} {G : List GD} {n : Nat} {post : Option PV → Mem → Prop} {z : ZZ} {pc pc2 : Nat} {S : List PV} {M : Mem} {a0 a1 a2 a3 a4 a5 a6 a7 a8 a9 a10 a11 : Option PV} {R : List (Option PV)} {x : Int} (hd : Dk k pc (.lload 12) 2 pc2) (kk : WP k G n post z pc2 (a0 :: a1 :: a2 :: a3 :: a4 :: a5 :: a6 :: a7 :: a8 :: a9 :: a10 :: a11 :: some (jv x) :: R) (jv x :: S) M) : WP k G n post z pc (a0 :: a1 :: a2 :: a3 :: a4 :: a5 :: a6 :: a7 :: a8 :: a9 :: a10 :: a11 :: some (jv x) :: R) S M := by
  obtain ⟨p, l, e, s, m, args, below, meth, c, D, dA, adK, adV, ad⟩ := z
  obtain ⟨hd, rfl⟩ := hd
  intro C H locs ls B
  exact lv_lload C.1 C.2.1 hd (lh_at B.2.2.2 (i := 12) rfl) (kk C H locs ls B)
theorem r_istore_12 {k : MD} {G : List GD} {n : Nat} {post : Option PV → Mem → Prop} {z : ZZ} {pc pc2 : Nat} {S : List PV} {M : Mem} {a0 a1 a2 a3 a4 a5 a6 a7 a8 a9 a10 a11 : Option PV} {R : List (Option PV)} {o : Option PV} {x : Int} (hd : Dk k pc (.istore 12) 2 pc2) (hj : nj a11 = true) (kk : WP k G n post z pc2 (a0 :: a1 :: a2 :: a3 :: a4 :: a5 :: a6 :: a7 :: a8 :: a9 :: a10 :: a11 :: some (iv x) :: R) S M) : WP k G n post z pc (a0 :: a1 :: a2 :: a3 :: a4 :: a5 :: a6 :: a7 :: a8 :: a9 :: a10 :: a11 :: o :: R) (iv x :: S) M := by
  obtain ⟨p, l, e, s, m, args, below, meth, c, D, dA, adK, adV, ad⟩ := z
  obtain ⟨hd, rfl⟩ := hd
  intro C H locs ls B
  have hn : 12 < k.2.2.1 := by have := B.2.2.2.2.1; simp at this; omega
  refine lv_istore C.1 C.2.1 hd (lh_has B.2.2.2) hn rfl (fun ls2 h2 => kk C H locs ls2 ⟨B.1, B.2.1, B.2.2.1, lh_set1 (i := 12) (v := iv x) B.2.2.2 hn (fun w hw => ?_) h2⟩)
  cases hw; exact hj
theorem r_astore_12 {k : MD} {G : List GD} {n : Nat} {post : Option PV → Mem → Prop} {z : ZZ} {pc pc2 : Nat} {S : List PV} {M : Mem} {a0 a1 a2 a3 a4 a5 a6 a7 a8 a9 a10 a11 : Option PV} {R : List (Option PV)} {o : Option PV} {x : Nat} (hd : Dk k pc (.astore 12) 2 pc2) (hj : nj a11 = true) (kk : WP k G n post z pc2 (a0 :: a1 :: a2 :: a3 :: a4 :: a5 :: a6 :: a7 :: a8 :: a9 :: a10 :: a11 :: some (rv x) :: R) S M) : WP k G n post z pc (a0 :: a1 :: a2 :: a3 :: a4 :: a5 :: a6 :: a7 :: a8 :: a9 :: a10 :: a11 :: o :: R) (rv x :: S) M := by
  obtain ⟨p, l, e, s, m, args, below, meth, c, D, dA, adK, adV, ad⟩ := z
  obtain ⟨hd, rfl⟩ := hd
  intro C H locs ls B
  have hn : 12 < k.2.2.1 := by have := B.2.2.2.2.1; simp at this; omega
  refine lv_astore C.1 C.2.1 hd (lh_has B.2.2.2) hn rfl (fun ls2 h2 => kk C H locs ls2 ⟨B.1, B.2.1, B.2.2.1, lh_set1 (i := 12) (v := rv x) B.2.2.2 hn (fun w hw => ?_) h2⟩)
  cases hw; exact hj
theorem r_lstore_12 {k : MD} {G : List GD} {n : Nat} {post : Option PV → Mem → Prop} {z : ZZ} {pc pc2 : Nat} {S : List PV} {M : Mem} {a0 a1 a2 a3 a4 a5 a6 a7 a8 a9 a10 a11 : Option PV} {R : List (Option PV)} {o1 o2 : Option PV} {x : Int} (hd : Dk k pc (.lstore 12) 2 pc2) (hj : nj a11 = true) (kk : WP k G n post z pc2 (a0 :: a1 :: a2 :: a3 :: a4 :: a5 :: a6 :: a7 :: a8 :: a9 :: a10 :: a11 :: some (jv x) :: none :: R) S M) : WP k G n post z pc (a0 :: a1 :: a2 :: a3 :: a4 :: a5 :: a6 :: a7 :: a8 :: a9 :: a10 :: a11 :: o1 :: o2 :: R) (jv x :: S) M := by
  obtain ⟨p, l, e, s, m, args, below, meth, c, D, dA, adK, adV, ad⟩ := z
  obtain ⟨hd, rfl⟩ := hd
  intro C H locs ls B
  have hn : 12 + 1 < k.2.2.1 := by have := B.2.2.2.2.1; simp at this; omega
  refine lv_lstore C.1 C.2.1 hd (lh_has B.2.2.2) hn rfl (fun ls2 h2 => kk C H locs ls2 ⟨B.1, B.2.1, B.2.2.1, lh_set2 (i := 12) (v := jv x) B.2.2.2 hn (fun w hw => ?_) h2⟩)
  cases hw; exact hj
theorem r_iinc_12 {k : MD} {G : List GD} {n : Nat} {post : Option PV → Mem → Prop} {z : ZZ} {pc pc2 : Nat} {S : List PV} {M : Mem} {a0 a1 a2 a3 a4 a5 a6 a7 a8 a9 a10 a11 : Option PV} {R : List (Option PV)} {x d : Int} (hd : Dk k pc (.iinc 12 d) 3 pc2) (hj : nj a11 = true) (kk : WP k G n post z pc2 (a0 :: a1 :: a2 :: a3 :: a4 :: a5 :: a6 :: a7 :: a8 :: a9 :: a10 :: a11 :: some (iv (x + d)) :: R) S M) : WP k G n post z pc (a0 :: a1 :: a2 :: a3 :: a4 :: a5 :: a6 :: a7 :: a8 :: a9 :: a10 :: a11 :: some (iv x) :: R) S M := by
  obtain ⟨p, l, e, s, m, args, below, meth, c, D, dA, adK, adV, ad⟩ := z
  obtain ⟨hd, rfl⟩ := hd
  intro C H locs ls B
  have hn : 12 < k.2.2.1 := by have := B.2.2.2.2.1; simp at this; omega
  obtain ⟨kq, hq⟩ := List.getElem?_of_mem (la_mem (ad := ad) (L := a0 :: a1 :: a2 :: a3 :: a4 :: a5 :: a6 :: a7 :: a8 :: a9 :: a10 :: a11 :: some (iv x) :: R) (q := (12, tv ad (iv x))).mpr ⟨iv x, rfl, rfl⟩)
  refine lv_iinc C.1 C.2.1 hd (lh_has B.2.2.2) hq (v := Int32.ofInt (x + d)) (by rw [Int32.ofInt_add]) hn rfl (fun ls2 h2 => kk C H locs ls2 ⟨B.1, B.2.1, B.2.2.1, lh_set1 (i := 12) (v := iv (x + d)) B.2.2.2 hn (fun w hw => ?_) h2⟩)
  cases hw; exact hj
theorem r_iload_13 {k : MD} {G : List GD} {n : Nat} {post : Option PV → Mem → Prop} {z : ZZ} {pc pc2 : Nat} {S : List PV} {M : Mem} {a0 a1 a2 a3 a4 a5 a6 a7 a8 a9 a10 a11 a12 : Option PV} {R : List (Option PV)} {x : Int} (hd : Dk k pc (.iload 13) 2 pc2) (kk : WP k G n post z pc2 (a0 :: a1 :: a2 :: a3 :: a4 :: a5 :: a6 :: a7 :: a8 :: a9 :: a10 :: a11 :: a12 :: some (iv x) :: R) (iv x :: S) M) : WP k G n post z pc (a0 :: a1 :: a2 :: a3 :: a4 :: a5 :: a6 :: a7 :: a8 :: a9 :: a10 :: a11 :: a12 :: some (iv x) :: R) S M := by
  obtain ⟨p, l, e, s, m, args, below, meth, c, D, dA, adK, adV, ad⟩ := z
  obtain ⟨hd, rfl⟩ := hd
  intro C H locs ls B
  exact lv_iload C.1 C.2.1 hd (lh_at B.2.2.2 (i := 13) rfl) (kk C H locs ls B)
theorem r_aload_13 {k : MD} {G : List GD} {n : Nat} {post : Option PV → Mem → Prop} {z : ZZ} {pc pc2 : Nat} {S : List PV} {M : Mem} {a0 a1 a2 a3 a4 a5 a6 a7 a8 a9 a10 a11 a12 : Option PV} {R : List (Option PV)} {x : Nat} (hd : Dk k pc (.aload 13) 2 pc2) (kk : WP k G n post z pc2 (a0 :: a1 :: a2 :: a3 :: a4 :: a5 :: a6 :: a7 :: a8 :: a9 :: a10 :: a11 :: a12 :: some (rv x) :: R) (rv x :: S) M) : WP k G n post z pc (a0 :: a1 :: a2 :: a3 :: a4 :: a5 :: a6 :: a7 :: a8 :: a9 :: a10 :: a11 :: a12 :: some (rv x) :: R) S M := by
  obtain ⟨p, l, e, s, m, args, below, meth, c, D, dA, adK, adV, ad⟩ := z
  obtain ⟨hd, rfl⟩ := hd
  intro C H locs ls B
  exact lv_aload C.1 C.2.1 hd (lh_at B.2.2.2 (i := 13) rfl) (kk C H locs ls B)
theorem r_lload_13 {k : MD} {G : List GD} {n : Nat} {post : Option PV → Mem → Prop} {z : ZZ} {pc pc2 : Nat} {S : List PV} {M : Mem} {a0 a1 a2 a3 a4 a5 a6 a7 a8 a9 a10 a11 a12 : Option PV} {R : List (Option PV)} {x : Int} (hd : Dk k pc (.lload 13) 2 pc2) (kk : WP k G n post z pc2 (a0 :: a1 :: a2 :: a3 :: a4 :: a5 :: a6 :: a7 :: a8 :: a9 :: a10 :: a11 :: a12 :: some (jv x) :: R) (jv x :: S) M) : WP k G n post z pc (a0 :: a1 :: a2 :: a3 :: a4 :: a5 :: a6 :: a7 :: a8 :: a9 :: a10 :: a11 :: a12 :: some (jv x) :: R) S M := by
  obtain ⟨p, l, e, s, m, args, below, meth, c, D, dA, adK, adV, ad⟩ := z
  obtain ⟨hd, rfl⟩ := hd
  intro C H locs ls B
  exact lv_lload C.1 C.2.1 hd (lh_at B.2.2.2 (i := 13) rfl) (kk C H locs ls B)
theorem r_istore_13 {k : MD} {G : List GD} {n : Nat} {post : Option PV → Mem → Prop} {z : ZZ} {pc pc2 : Nat} {S : List PV} {M : Mem} {a0 a1 a2 a3 a4 a5 a6 a7 a8 a9 a10 a11 a12 : Option PV} {R : List (Option PV)} {o : Option PV} {x : Int} (hd : Dk k pc (.istore 13) 2 pc2) (hj : nj a12 = true) (kk : WP k G n post z pc2 (a0 :: a1 :: a2 :: a3 :: a4 :: a5 :: a6 :: a7 :: a8 :: a9 :: a10 :: a11 :: a12 :: some (iv x) :: R) S M) : WP k G n post z pc (a0 :: a1 :: a2 :: a3 :: a4 :: a5 :: a6 :: a7 :: a8 :: a9 :: a10 :: a11 :: a12 :: o :: R) (iv x :: S) M := by
  obtain ⟨p, l, e, s, m, args, below, meth, c, D, dA, adK, adV, ad⟩ := z
  obtain ⟨hd, rfl⟩ := hd
  intro C H locs ls B
  have hn : 13 < k.2.2.1 := by have := B.2.2.2.2.1; simp at this; omega
  refine lv_istore C.1 C.2.1 hd (lh_has B.2.2.2) hn rfl (fun ls2 h2 => kk C H locs ls2 ⟨B.1, B.2.1, B.2.2.1, lh_set1 (i := 13) (v := iv x) B.2.2.2 hn (fun w hw => ?_) h2⟩)
  cases hw; exact hj
theorem r_astore_13 {k : MD} {G : List GD} {n : Nat} {post : Option PV → Mem → Prop} {z : ZZ} {pc pc2 : Nat} {S : List PV} {M : Mem} {a0 a1 a2 a3 a4 a5 a6 a7 a8 a9 a10 a11 a12 : Option PV} {R : List (Option PV)} {o : Option PV} {x : Nat} (hd : Dk k pc (.astore 13) 2 pc2) (hj : nj a12 = true) (kk : WP k G n post z pc2 (a0 :: a1 :: a2 :: a3 :: a4 :: a5 :: a6 :: a7 :: a8 :: a9 :: a10 :: a11 :: a12 :: some (rv x) :: R) S M) : WP k G n post z pc (a0 :: a1 :: a2 :: a3 :: a4 :: a5 :: a6 :: a7 :: a8 :: a9 :: a10 :: a11 :: a12 :: o :: R) (rv x :: S) M := by
  obtain ⟨p, l, e, s, m, args, below, meth, c, D, dA, adK, adV, ad⟩ := z
  obtain ⟨hd, rfl⟩ := hd
  intro C H locs ls B
  have hn : 13 < k.2.2.1 := by have := B.2.2.2.2.1; simp at this; omega
  refine lv_astore C.1 C.2.1 hd (lh_has B.2.2.2) hn rfl (fun ls2 h2 => kk C H locs ls2 ⟨B.1, B.2.1, B.2.2.1, lh_set1 (i := 13) (v := rv x) B.2.2.2 hn (fun w hw => ?_) h2⟩)
  cases hw; exact hj
theorem r_lstore_13 {k : MD} {G : List GD} {n : Nat} {post : Option PV → Mem → Prop} {z : ZZ} {pc pc2 : Nat} {S : List PV} {M : Mem} {a0 a1 a2 a3 a4 a5 a6 a7 a8 a9 a10 a11 a12 : Option PV} {R : List (Option PV)} {o1 o2 : Option PV} {x : Int} (hd : Dk k pc (.lstore 13) 2 pc2) (hj : nj a12 = true) (kk : WP k G n post z pc2 (a0 :: a1 :: a2 :: a3 :: a4 :: a5 :: a6 :: a7 :: a8 :: a9 :: a10 :: a11 :: a12 :: some (jv x) :: none :: R) S M) : WP k G n post z pc (a0 :: a1 :: a2 :: a3 :: a4 :: a5 :: a6 :: a7 :: a8 :: a9 :: a10 :: a11 :: a12 :: o1 :: o2 :: R) (jv x :: S) M := by
  obtain ⟨p, l, e, s, m, args, below, meth, c, D, dA, adK, adV, ad⟩ := z
  obtain ⟨hd, rfl⟩ := hd
  intro C H locs ls B
  have hn : 13 + 1 < k.2.2.1 := by have := B.2.2.2.2.1; simp at this; omega
  refine lv_lstore C.1 C.2.1 hd (lh_has B.2.2.2) hn rfl (fun ls2 h2 => kk C H locs ls2 ⟨B.1, B.2.1, B.2.2.1, lh_set2 (i := 13) (v := jv x) B.2.2.2 hn (fun w hw => ?_) h2⟩)
  cases hw; exact hj
theorem r_iinc_13 {k : MD} {G : List GD} {n : Nat} {post : Option PV → Mem → Prop} {z : ZZ} {pc pc2 : Nat} {S : List PV} {M : Mem} {a0 a1 a2 a3 a4 a5 a6 a7 a8 a9 a10 a11 a12 : Option PV} {R : List (Option PV)} {x d : Int} (hd : Dk k pc (.iinc 13 d) 3 pc2) (hj : nj a12 = true) (kk : WP k G n post z pc2 (a0 :: a1 :: a2 :: a3 :: a4 :: a5 :: a6 :: a7 :: a8 :: a9 :: a10 :: a11 :: a12 :: some (iv (x + d)) :: R) S M) : WP k G n post z pc (a0 :: a1 :: a2 :: a3 :: a4 :: a5 :: a6 :: a7 :: a8 :: a9 :: a10 :: a11 :: a12 :: some (iv x) :: R) S M := by
  obtain ⟨p, l, e, s, m, args, below, meth, c, D, dA, adK, adV, ad⟩ := z
  obtain ⟨hd, rfl⟩ := hd
  intro C H locs ls B
  have hn : 13 < k.2.2.1 := by have := B.2.2.2.2.1; simp at this; omega
  obtain ⟨kq, hq⟩ := List.getElem?_of_mem (la_mem (ad := ad) (L := a0 :: a1 :: a2 :: a3 :: a4 :: a5 :: a6 :: a7 :: a8 :: a9 :: a10 :: a11 :: a12 :: some (iv x) :: R) (q := (13, tv ad (iv x))).mpr ⟨iv x, rfl, rfl⟩)
  refine lv_iinc C.1 C.2.1 hd (lh_has B.2.2.2) hq (v := Int32.ofInt (x + d)) (by rw [Int32.ofInt_add]) hn rfl (fun ls2 h2 => kk C H locs ls2 ⟨B.1, B.2.1, B.2.2.1, lh_set1 (i := 13) (v := iv (x + d)) B.2.2.2 hn (fun w hw => ?_) h2⟩)
  cases hw; exact hj
theorem r_iload_14 {k : MD} {G : List GD} {n : Nat} {post : Option PV → Mem → Prop} {z : ZZ} {pc pc2 : Nat} {S : List PV} {M : Mem} {a0 a1 a2 a3 a4 a5 a6 a7 a8 a9 a10 a11 a12 a13 : Option PV} {R : List (Option PV)} {x : Int} (hd : Dk k pc (.iload 14) 2 pc2) (kk : WP k G n post z pc2 (a0 :: a1 :: a2 :: a3 :: a4 :: a5 :: a6 :: a7 :: a8 :: a9 :: a10 :: a11 :: a12 :: a13 :: some (iv x) :: R) (iv x :: S) M) : WP k G n post z pc (a0 :: a1 :: a2 :: a3 :: a4 :: a5 :: a6 :: a7 :: a8 :: a9 :: a10 :: a11 :: a12 :: a13 :: some (iv x) :: R) S M := by
  obtain ⟨p, l, e, s, m, args, below, meth, c, D, dA, adK, adV, ad⟩ := z
  obtain ⟨hd, rfl⟩ := hd
  intro C H locs ls B
  exact lv_iload C.1 C.2.1 hd (lh_at B.2.2.2 (i := 14) rfl) (kk C H locs ls B)
theorem r_aload_14 {k : MD} {G : List GD} {n : Nat} {post : Option PV → Mem → Prop} {z : ZZ} {pc pc2 : Nat} {S : List PV} {M : Mem} {a0 a1 a2 a3 a4 a5 a6 a7 a8 a9 a10 a11 a12 a13 : Option PV} {R : List (Option PV)} {x : Nat} (hd : Dk k pc (.aload 14) 2 pc2) (kk : WP k G n post z pc2 (a0 :: a1 :: a2 :: a3 :: a4 :: a5 :: a6 :: a7 :: a8 :: a9 :: a10 :: a11 :: a12 :: a13 :: some (rv x) :: R) (rv x :: S) M) : WP k G n post z pc (a0 :: a1 :: a2 :: a3 :: a4 :: a5 :: a6 :: a7 :: a8 :: a9 :: a10 :: a11 :: a12 :: a13 :: some (rv x) :: R) S M := by
  obtain ⟨p, l, e, s, m, args, below, meth, c, D, dA, adK, adV, ad⟩ := z
  obtain ⟨hd, rfl⟩ := hd
  intro C H locs ls B
  exact lv_aload C.1 C.2.1 hd (lh_at B.2.2.2 (i := 14) rfl) (kk C H locs ls B)
theorem r_lload_14 {k : MD} {G : List GD} {n : Nat} {post : Option PV → Mem → Prop} {z : ZZ} {pc pc2 : Nat} {S : List PV} {M : Mem} {a0 a1 a2 a3 a4 a5 a6 a7 a8 a9 a10 a11 a12 a13 : Option PV} {R : List (Option PV)} {x : Int} (hd : Dk k pc (.lload 14) 2 pc2) (kk : WP k G n post z pc2 (a0 :: a1 :: a2 :: a3 :: a4 :: a5 :: a6 :: a7 :: a8 :: a9 :: a10 :: a11 :: a12 :: a13 :: some (jv x) :: R) (jv x :: S) M) : WP k G n post z pc (a0 :: a1 :: a2 :: a3 :: a4 :: a5 :: a6 :: a7 :: a8 :: a9 :: a10 :: a11 :: a12 :: a13 :: some (jv x) :: R) S M := by
  obtain ⟨p, l, e, s, m, args, below, meth, c, D, dA, adK, adV, ad⟩ := z
  obtain ⟨hd, rfl⟩ := hd
  intro C H locs ls B
  exact lv_lload C.1 C.2.1 hd (lh_at B.2.2.2 (i := 14) rfl) (kk C H locs ls B)
theorem r_istore_14 {k : MD} {G : List GD} {n : Nat} {post : Option PV → Mem → Prop} {z : ZZ} {pc pc2 : Nat} {S : List PV} {M : Mem} {a0 a1 a2 a3 a4 a5 a6 a7 a8 a9 a10 a11 a12 a13 : Option PV} {R : List (Option PV)} {o : Option PV} {x : Int} (hd : Dk k pc (.istore 14) 2 pc2) (hj : nj a13 = true) (kk : WP k G n post z pc2 (a0 :: a1 :: a2 :: a3 :: a4 :: a5 :: a6 :: a7 :: a8 :: a9 :: a10 :: a11 :: a12 :: a13 :: some (iv x) :: R) S M) : WP k G n post z pc (a0 :: a1 :: a2 :: a3 :: a4 :: a5 :: a6 :: a7 :: a8 :: a9 :: a10 :: a11 :: a12 :: a13 :: o :: R) (iv x :: S) M := by
  obtain ⟨p, l, e, s, m, args, below, meth, c, D, dA, adK, adV, ad⟩ := z
  obtain ⟨hd, rfl⟩ := hd
  intro C H locs ls B
  have hn : 14 < k.2.2.1 := by have := B.2.2.2.2.1; simp at this; omega
  refine lv_istore C.1 C.2.1 hd (lh_has B.2.2.2) hn rfl (fun ls2 h2 => kk C H locs ls2 ⟨B.1, B.2.1, B.2.2.1, lh_set1 (i := 14) (v := iv x) B.2.2.2 hn (fun w hw => ?_) h2⟩)
  cases hw; exact hj
theorem r_astore_14 {k : MD} {G : List GD} {n : Nat} {post : Option PV → Mem → Prop} {z : ZZ} {pc pc2 : Nat} {S : List PV} {M : Mem} {a0 a1 a2 a3 a4 a5 a6 a7 a8 a9 a10 a11 a12 a13 : Option PV} {R : List (Option PV)} {o : Option PV} {x : Nat} (hd : Dk k pc (.astore 14) 2 pc2) (hj : nj a13 = true) (kk : WP k G n post z pc2 (a0 :: a1 :: a2 :: a3 :: a4 :: a5 :: a6 :: a7 :: a8 :: a9 :: a10 :: a11 :: a12 :: a13 :: some (rv x) :: R) S M) : WP k G n post z pc (a0 :: a1 :: a2 :: a3 :: a4 :: a5 :: a6 :: a7 :: a8 :: a9 :: a10 :: a11 :: a12 :: a13 :: o :: R) (rv x :: S) M := by
  obtain ⟨p, l, e, s, m, args, below, meth, c, D, dA, adK, adV, ad⟩ := z
  obtain ⟨hd, rfl⟩ := hd
  intro C H locs ls B
  have hn : 14 < k.2.2.1 := by have := B.2.2.2.2.1; simp at this; omega
  refine lv_astore C.1 C.2.1 hd (lh_has B.2.2.2) hn rfl (fun ls2 h2 => kk C H locs ls2 ⟨B.1, B.2.1, B.2.2.1, lh_set1 (i := 14) (v := rv x) B.2.2.2 hn (fun w hw => ?_) h2⟩)
  cases hw; exact hj
theorem r_lstore_14 {k : MD} {G : List GD} {n : Nat} {post : Option PV → Mem → Prop} {z : ZZ} {pc pc2 : Nat} {S : List PV} {M : Mem} {a0 a1 a2 a3 a4 a5 a6 a7 a8 a9 a10 a11 a12 a13 : Option PV} {R : List (Option PV)} {o1 o2 : Option PV} {x : Int} (hd : Dk k pc (.lstore 14) 2 pc2) (hj : nj a13 = true) (kk : WP k G n post z pc2 (a0 :: a1 :: a2 :: a3 :: a4 :: a5 :: a6 :: a7 :: a8 :: a9 :: a10 :: a11 :: a12 :: a13 :: some (jv x) :: none :: R) S M) : WP k G n post z pc (a0 :: a1 :: a2 :: a3 :: a4 :: a5 :: a6 :: a7 :: a8 :: a9 :: a10 :: a11 :: a12 :: a13 :: o1 :: o2 :: R) (jv x :: S) M := by
  obtain ⟨p, l, e, s, m, args, below, meth, c, D, dA, adK, adV, ad⟩ := z
  obtain ⟨hd, rfl⟩ := hd
  intro C H locs ls B
  have hn : 14 + 1 < k.2.2.1 := by have := B.2.2.2.2.1; simp at this; omega
  refine lv_lstore C.1 C.2.1 hd (lh_has B.2.2.2) hn rfl (fun ls2 h2 => kk C H locs ls2 ⟨B.1, B.2.1, B.2.2.1, lh_set2 (i := 14) (v := jv x) B.2.2.2 hn (fun w hw => ?_) h2⟩)
  cases hw; exact hj
theorem r_iinc_14 {k : MD} {G : List GD} {n : Nat} {post : Option PV → Mem → Prop} {z : ZZ} {pc pc2 : Nat} {S : List PV} {M : Mem} {a0 a1 a2 a3 a4 a5 a6 a7 a8 a9 a10 a11 a12 a13 : Option PV} {R : List (Option PV)} {x d : Int} (hd : Dk k pc (.iinc 14 d) 3 pc2) (hj : nj a13 = true) (kk : WP k G n post z pc2 (a0 :: a1 :: a2 :: a3 :: a4 :: a5 :: a6 :: a7 :: a8 :: a9 :: a10 :: a11 :: a12 :: a13 :: some (iv (x + d)) :: R) S M) : WP k G n post z pc (a0 :: a1 :: a2 :: a3 :: a4 :: a5 :: a6 :: a7 :: a8 :: a9 :: a10 :: a11 :: a12 :: a13 :: some (iv x) :: R) S M := by
  obtain ⟨p, l, e, s, m, args, below, meth, c, D, dA, adK, adV, ad⟩ := z
  obtain ⟨hd, rfl⟩ := hd
  intro C H locs ls B
  have hn : 14 < k.2.2.1 := by have := B.2.2.2.2.1; simp at this; omega
  obtain ⟨kq, hq⟩ := List.getElem?_of_mem (la_mem (ad := ad) (L := a0 :: a1 :: a2 :: a3 :: a4 :: a5 :: a6 :: a7 :: a8 :: a9 :: a10 :: a11 :: a12 :: a13 :: some (iv x) :: R) (q := (14, tv ad (iv x))).mpr ⟨iv x, rfl, rfl⟩)
  refine lv_iinc C.1 C.2.1 hd (lh_has B.2.2.2) hq (v := Int32.ofInt (x + d)) (by rw [Int32.ofInt_add]) hn rfl (fun ls2 h2 => kk C H locs ls2 ⟨B.1, B.2.1, B.2.2.1, lh_set1 (i := 14) (v := iv (x + d)) B.2.2.2 hn (fun w hw => ?_) h2⟩)
  cases hw; exact hj
theorem r_iload_15 {k : MD} {G : List GD} {n : Nat} {post : Option PV → Mem → Prop} {z : ZZ} {pc pc2 : Nat} {S : List PV} {M : Mem} {a0 a1 a2 a3 a4 a5 a6 a7 a8 a9 a10 a11 a12 a13 a14 : Option PV} {R : List (Option PV)} {x : Int} (hd : Dk k pc (.iload 15) 2 pc2) (kk : WP k G n post z pc2 (a0 :: a1 :: a2 :: a3 :: a4 :: a5 :: a6 :: a7 :: a8 :: a9 :: a10 :: a11 :: a12 :: a13 :: a14 :: some (iv x) :: R) (iv x :: S) M) : WP k G n post z pc (a0 :: a1 :: a2 :: a3 :: a4 :: a5 :: a6 :: a7 :: a8 :: a9 :: a10 :: a11 :: a12 :: a13 :: a14 :: some (iv x) :: R) S M := by
  obtain ⟨p, l, e, s, m, args, below, meth, c, D, dA, adK, adV, ad⟩ := z
  obtain ⟨hd, rfl⟩ := hd
  intro C H locs ls B
  exact lv_iload C.1 C.2.1 hd (lh_at B.2.2.2 (i := 15) rfl) (kk C H locs ls B)
theorem r_aload_15 {k : MD} {G : List GD} {n : Nat} {post : Option PV → Mem → Prop} {z : ZZ} {pc pc2 : Nat} {S : List PV} {M : Mem} {a0 a1 a2 a3 a4 a5 a6 a7 a8 a9 a10 a11 a12 a13 a14 : Option PV} {R : List (Option PV)} {x : Nat} (hd : Dk k pc (.aload 15) 2 pc2) (kk : WP k G n post z pc2 (a0 :: a1 :: a2 :: a3 :: a4 :: a5 :: a6 :: a7 :: a8 :: a9 :: a10 :: a11 :: a12 :: a13 :: a14 :: some (rv x) :: R) (rv x :: S) M) : WP k G n post z pc (a0 :: a1 :: a2 :: a3 :: a4 :: a5 :: a6 :: a7 :: a8 :: a9 :: a10 :: a11 :: a12 :: a13 :: a14 :: some (rv x) :: R) S M := by
  obtain ⟨p, l, e, s, m, args, below, meth, c, D, dA, adK, adV, ad⟩ := z
  obtain ⟨hd, rfl⟩ := hd
  intro C H locs ls B
  exact lv_aload C.1 C.2.1 hd (lh_at B.2.2.2 (i := 15) rfl) (kk C H locs ls B)
theorem r_lload_15 {k : MD} {G : List GD} {n : Nat} {post : Option PV → Mem → Prop} {z : ZZ} {pc pc2 : Nat} {S : List PV} {M : Mem} {a0 a1 a2 a3 a4 a5 a6 a7 a8 a9 a10 a11 a12 a13 a14 : Option PV} {R : List (Option PV)} {x : Int} (hd : Dk k pc (.lload 15) 2 pc2) (kk : WP k G n post z pc2 (a0 :: a1 :: a2 :: a3 :: a4 :: a5 :: a6 :: a7 :: a8 :: a9 :: a10 :: a11 :: a12 :: a13 :: a14 :: some (jv x) :: R) (jv x :: S) M) : WP k G n post z pc (a0 :: a1 :: a2 :: a3 :: a4 :: a5 :: a6 :: a7 :: a8 :: a9 :: a10 :: a11 :: a12 :: a13 :: a14 :: some (jv x) :: R) S M := by
  obtain ⟨p, l, e, s, m, args, below, meth, c, D, dA, adK, adV, ad⟩ := z
  obtain ⟨hd, rfl⟩ := hd
  intro C H locs ls B
  exact lv_lload C.1 C.2.1 hd (lh_at B.2.2.2 (i := 15) rfl) (kk C H locs ls B)
theorem r_istore_15 {k : MD} {G : List GD} {n : Nat} {post : Option PV → Mem → Prop} {z : ZZ} {pc pc2 : Nat} {S : List PV} {M : Mem} {a0 a1 a2 a3 a4 a5 a6 a7 a8 a9 a10 a11 a12 a13 a14 : Option PV} {R : List (Option PV)} {o : Option PV} {x : Int} (hd : Dk k pc (.istore 15) 2 pc2) (hj : nj a14 = true) (kk : WP k G n post z pc2 (a0 :: a1 :: a2 :: a3 :: a4 :: a5 :: a6 :: a7 :: a8 :: a9 :: a10 :: a11 :: a12 :: a13 :: a14 :: some (iv x) :: R) S M) : WP k G n post z pc (a0 :: a1 :: a2 :: a3 :: a4 :: a5 :: a6 :: a7 :: a8 :: a9 :: a10 :: a11 :: a12 :: a13 :: a14 :: o :: R) (iv x :: S) M := by
  obtain ⟨p, l, e, s, m, args, below, meth, c, D, dA, adK, adV, ad⟩ := z
  obtain ⟨hd, rfl⟩ := hd
  intro C H locs ls B
  have hn : 15 < k.2.2.1 := by have := B.2.2.2.2.1; simp at this; omega
  refine lv_istore C.1 C.2.1 hd (lh_has B.2.2.2) hn rfl (fun ls2 h2 => kk C H locs ls2 ⟨B.1, B.2.1, B.2.2.1, lh_set1 (i := 15) (v := iv x) B.2.2.2 hn (fun w hw => ?_) h2⟩)
  cases hw; exact hj
theorem r_astore_15 {k : MD} {G : List GD} {n : Nat} {post : Option PV → Mem → Prop} {z : ZZ} {pc pc2 : Nat} {S : List PV} {M : Mem} {a0 a1 a2 a3 a4 a5 a6 a7 a8 a9 a10 a11 a12 a13 a14 : Option PV} {R : List (Option PV)} {o : Option PV} {x : Nat} (hd : Dk k pc (.astore 15) 2 pc2) (hj : nj a14 = true) (kk : WP k G n post z pc2 (a0 :: a1 :: a2 :: a3 :: a4 :: a5 :: a6 :: a7 :: a8 :: a9 :: a10 :: a11 :: a12 :: a13 :: a14 :: some (rv x) :: R) S M) : WP k G n post z pc (a0 :: a1 :: a2 :: a3 :: a4 :: a5 :: a6 :: a7 :: a8 :: a9 :: a10 :: a11 :: a12 :: a13 :: a14 :: o :: R) (rv x :: S) M := by
  obtain ⟨p, l, e, s, m, args, below, meth, c, D, dA, adK, adV, ad⟩ := z
  obtain ⟨hd, rfl⟩ := hd
  intro C H locs ls B
  have hn : 15 < k.2.2.1 := by have := B.2.2.2.2.1; simp at this; omega
  refine lv_astore C.1 C.2.1 hd (lh_has B.2.2.2) hn rfl (fun ls2 h2 => kk C H locs ls2 ⟨B.1, B.2.1, B.2.2.1, lh_set1 (i := 15) (v := rv x) B.2.2.2 hn (fun w hw => ?_) h2⟩)
  cases hw; exact hj
theorem r_lstore_15 {k : MD} {G : List GD} {n : Nat} {post : Option PV → Mem → Prop} {z : ZZ} {pc pc2 : Nat} {S : List PV} {M : Mem} {a0 a1 a2 a3 a4 a5 a6 a7 a8 a9 a10 a11 a12 a13 a14 : Option PV} {R : List (Option PV)} {o1 o2 : Option PV} {x : Int} (hd : Dk k pc (.lstore 15) 2 pc2) (hj : nj a14 = true) (kk : WP k G n post z pc2 (a0 :: a1 :: a2 :: a3 :: a4 :: a5 :: a6 :: a7 :: a8 :: a9 :: a10 :: a11 :: a12 :: a13 :: a14 :: some (jv x) :: none :: R) S M) : WP k G n post z pc (a0 :: a1 :: a2 :: a3 :: a4 :: a5 :: a6 :: a7 :: a8 :: a9 :: a10 :: a11 :: a12 :: a13 :: a14 :: o1 :: o2 :: R) (jv x :: S) M := by
  obtain ⟨p, l, e, s, m, args, below, meth, c, D, dA, adK, adV, ad⟩ := z
  obtain ⟨hd, rfl⟩ := hd
  intro C H locs ls B
  have hn : 15 + 1 < k.2.2.1 := by have := B.2.2.2.2.1; simp at this; omega
  refine lv_lstore C.1 C.2.1 hd (lh_has B.2.2.2) hn rfl (fun ls2 h2 => kk C H locs ls2 ⟨B.1, B.2.1, B.2.2.1, lh_set2 (i := 15) (v := jv x) B.2.2.2 hn (fun w hw => ?_) h2⟩)
  cases hw; exact hj
theorem r_iinc_15 {k : MD} {G : List GD} {n : Nat} {post : Option PV → Mem → Prop} {z : ZZ} {pc pc2 : Nat} {S : List PV} {M : Mem} {a0 a1 a2 a3 a4 a5 a6 a7 a8 a9 a10 a11 a12 a13 a14 : Option PV} {R : List (Option PV)} {x d : Int} (hd : Dk k pc (.iinc 15 d) 3 pc2) (hj : nj a14 = true) (kk : WP k G n post z pc2 (a0 :: a1 :: a2 :: a3 :: a4 :: a5 :: a6 :: a7 :: a8 :: a9 :: a10 :: a11 :: a12 :: a13 :: a14 :: some (iv (x + d)) :: R) S M) : WP k G n post z pc (a0 :: a1 :: a2 :: a3 :: a4 :: a5 :: a6 :: a7 :: a8 :: a9 :: a10 :: a11 :: a12 :: a13 :: a14 :: some (iv x) :: R) S M := by
  obtain ⟨p, l, e, s, m, args, below, meth, c, D, dA, adK, adV, ad⟩ := z
  obtain ⟨hd, rfl⟩ := hd
  intro C H locs ls B
  have hn : 15 < k.2.2.1 := by have := B.2.2.2.2.1; simp at this; omega
  obtain ⟨kq, hq⟩ := List.getElem?_of_mem (la_mem (ad := ad) (L := a0 :: a1 :: a2 :: a3 :: a4 :: a5 :: a6 :: a7 :: a8 :: a9 :: a10 :: a11 :: a12 :: a13 :: a14 :: some (iv x) :: R) (q := (15, tv ad (iv x))).mpr ⟨iv x, rfl, rfl⟩)
  refine lv_iinc C.1 C.2.1 hd (lh_has B.2.2.2) hq (v := Int32.ofInt (x + d)) (by rw [Int32.ofInt_add]) hn rfl (fun ls2 h2 => kk C H locs ls2 ⟨B.1, B.2.1, B.2.2.1, lh_set1 (i := 15) (v := iv (x + d)) B.2.2.2 hn (fun w hw => ?_) h2⟩)
  cases hw; exact hj
end
section
theorem Cx.hts {k : MD} {G : List GD} {p : Program} {l : Launch} {e : Env} {s : State} {m : MethodId} {args : Array Value} {below : List Frame} {meth : Method} {c : Code} {D : va_G} {dA : Nat → ClassId} {adK adV ad : Nat → Nat} (C : Cx k G (p, l, e, s, m, args, below, meth, c, D, dA, adK, adV, ad)) : ∀ w ∈ q_tbl, w.before args s = true := C.2.2.2.2.1
theorem Cx.K {k : MD} {G : List GD} {p : Program} {l : Launch} {e : Env} {s : State} {m : MethodId} {args : Array Value} {below : List Frame} {meth : Method} {c : Code} {D : va_G} {dA : Nat → ClassId} {adK adV ad : Nat → Nat} (C : Cx k G (p, l, e, s, m, args, below, meth, c, D, dA, adK, adV, ad)) : va_K D vwCl (ty_of dA) s := C.2.2.2.2.2.2.2.1
theorem Cx.inj {k : MD} {G : List GD} {p : Program} {l : Launch} {e : Env} {s : State} {m : MethodId} {args : Array Value} {below : List Frame} {meth : Method} {c : Code} {D : va_G} {dA : Nat → ClassId} {adK adV ad : Nat → Nat} (C : Cx k G (p, l, e, s, m, args, below, meth, c, D, dA, adK, adV, ad)) : ad_ok G ad := C.2.2.2.2.2.2.2.2.1
theorem Cx.str {k : MD} {G : List GD} {p : Program} {l : Launch} {e : Env} {s : State} {m : MethodId} {args : Array Value} {below : List Frame} {meth : Method} {c : Code} {D : va_G} {dA : Nat → ClassId} {adK adV ad : Nat → Nat} (C : Cx k G (p, l, e, s, m, args, below, meth, c, D, dA, adK, adV, ad)) : st_ok adK adV (AA G ad) s := C.2.2.2.2.2.2.2.2.2
theorem r_getI {k : MD} {G : List GD} {n : Nat} {post : Option PV → Mem → Prop} {z : ZZ} {pc pc2 : Nat} {L : List (Option PV)} {S : List PV} {M : Mem} {idx ci j q : Nat} {fs : List (Option Nat)} (hd : Dk k pc (.getfield idx) 3 pc2) (hf : Fg k.1.cls idx ci j) (hg : G[q]? = some (.inl (ci, fs))) (hj : fs[j]? = some none) (kk : WP k G n post z pc2 L (iv (M q j) :: S) M) : WP k G n post z pc L (rv q :: S) M := by
  obtain ⟨p, l, e, s, m, args, below, meth, c, D, dA, adK, adV, ad⟩ := z
  obtain ⟨hd, rfl⟩ := hd
  intro C H locs ls B
  obtain ⟨C1, T, N, h1, h2, h3, h4, h5⟩ := hf
  subst h3
  exact va_get (D := (D)) (ci := ci) (v := .int (Int32.ofInt (M q j))) C.1 C.2.1 C.hts h5 C.2.2.2.1 C.K B.1 q (wld_get hg) h1 j h2 (C.hts _ h4) (fun _ h9 => h9) (by rw [List.getElem?_mapIdx, hj]; rfl) hd (kk C H locs ls B)
theorem r_getR {k : MD} {G : List GD} {n : Nat} {post : Option PV → Mem → Prop} {z : ZZ} {pc pc2 : Nat} {L : List (Option PV)} {S : List PV} {M : Mem} {idx ci j q r : Nat} {fs : List (Option Nat)} (hd : Dk k pc (.getfield idx) 3 pc2) (hf : Fg k.1.cls idx ci j) (hg : G[q]? = some (.inl (ci, fs))) (hj : fs[j]? = some (some r)) (kk : WP k G n post z pc2 L (rv r :: S) M) : WP k G n post z pc L (rv q :: S) M := by
  obtain ⟨p, l, e, s, m, args, below, meth, c, D, dA, adK, adV, ad⟩ := z
  obtain ⟨hd, rfl⟩ := hd
  intro C H locs ls B
  obtain ⟨C1, T, N, h1, h2, h3, h4, h5⟩ := hf
  subst h3
  exact va_get (D := (D)) (ci := ci) (v := .ref (ad r)) C.1 C.2.1 C.hts h5 C.2.2.2.1 C.K B.1 q (wld_get hg) h1 j h2 (C.hts _ h4) (fun _ h9 => h9) (by rw [List.getElem?_mapIdx, hj]; rfl) hd (kk C H locs ls B)
theorem r_put {k : MD} {G : List GD} {n : Nat} {post : Option PV → Mem → Prop} {z : ZZ} {pc pc2 : Nat} {L : List (Option PV)} {S : List PV} {M : Mem} {idx ci j q : Nat} {fs : List (Option Nat)} {v : Int} (hd : Dk k pc (.putfield idx) 3 pc2) (hf : Fp k.1.cls idx ci j .int) (hg : G[q]? = some (.inl (ci, fs))) (hj : fs[j]? = some none) (hv : ib v) (kk : WP k G n post z pc2 L S (upM M q j v)) : WP k G n post z pc L (iv v :: rv q :: S) M := by
  obtain ⟨p, l, e, s, m, args, below, meth, c, D, dA, adK, adV, ad⟩ := z
  obtain ⟨hd, rfl⟩ := hd
  intro C H locs ls B
  obtain ⟨C1, T, N, ty0, h1, h2, h3, h4, h5, h6, h7, h8, h9⟩ := hf
  subst h3
  have hl : j < (fs.mapIdx (ce_f ad M q)).length := by
    have := (List.getElem?_eq_some_iff.mp hj).1
    simpa using this
  have hvb : ib v := hv
  have hnw : narrow .int (.int (Int32.ofInt v)) = .int (Int32.ofInt v) ∧ fits .int (.int (Int32.ofInt v)) = true := ⟨rfl, rfl⟩
  refine va_put (D := D) (ci := ci) (v := .int (Int32.ofInt v)) (ty := .int) C.1 C.2.1 C.hts h5 ty0 h6 h7 C.2.2.2.1 C.K B.1 (wld_D C.inj) B.2.2.1 q (wld_get hg) h1 j h2 (C.hts _ h4) (fun _ w => w) h8 h9 hnw.1 hnw.2 hl hd (fun H1 locs1 hP hD hS => ?_)
  have hP : va_P D vwCl ((wld ad dA G M).set q (ad q, .inr (ci, (fs.mapIdx (ce_f ad M q)).set j (.int (Int32.ofInt v))))) H1 := hP
  rw [wld_put hg hj] at hP
  exact kk C H1 locs1 ls ⟨hP, upM_ib B.2.1 hvb, hS, B.2.2.2⟩
theorem r_putZ {k : MD} {G : List GD} {n : Nat} {post : Option PV → Mem → Prop} {z : ZZ} {pc pc2 : Nat} {L : List (Option PV)} {S : List PV} {M : Mem} {idx ci j q : Nat} {fs : List (Option Nat)} {v : Int} (hd : Dk k pc (.putfield idx) 3 pc2) (hf : Fp k.1.cls idx ci j .boolean) (hg : G[q]? = some (.inl (ci, fs))) (hj : fs[j]? = some none) (hv : v = 0 ∨ v = 1) (kk : WP k G n post z pc2 L S (upM M q j v)) : WP k G n post z pc L (iv v :: rv q :: S) M := by
  obtain ⟨p, l, e, s, m, args, below, meth, c, D, dA, adK, adV, ad⟩ := z
  obtain ⟨hd, rfl⟩ := hd
  intro C H locs ls B
  obtain ⟨C1, T, N, ty0, h1, h2, h3, h4, h5, h6, h7, h8, h9⟩ := hf
  subst h3
  have hl : j < (fs.mapIdx (ce_f ad M q)).length := by
    have := (List.getElem?_eq_some_iff.mp hj).1
    simpa using this
  have hvb : ib v := by omega
  have hnw : narrow .boolean (.int (Int32.ofInt v)) = .int (Int32.ofInt v) ∧ fits .boolean (.int (Int32.ofInt v)) = true := by rcases hv with rfl | rfl <;> exact ⟨rfl, rfl⟩
  refine va_put (D := D) (ci := ci) (v := .int (Int32.ofInt v)) (ty := .boolean) C.1 C.2.1 C.hts h5 ty0 h6 h7 C.2.2.2.1 C.K B.1 (wld_D C.inj) B.2.2.1 q (wld_get hg) h1 j h2 (C.hts _ h4) (fun _ w => w) h8 h9 hnw.1 hnw.2 hl hd (fun H1 locs1 hP hD hS => ?_)
  have hP : va_P D vwCl ((wld ad dA G M).set q (ad q, .inr (ci, (fs.mapIdx (ce_f ad M q)).set j (.int (Int32.ofInt v))))) H1 := hP
  rw [wld_put hg hj] at hP
  exact kk C H1 locs1 ls ⟨hP, upM_ib B.2.1 hvb, hS, B.2.2.2⟩
theorem r_iaload {k : MD} {G : List GD} {n : Nat} {post : Option PV → Mem → Prop} {z : ZZ} {pc pc2 : Nat} {L : List (Option PV)} {S : List PV} {M : Mem} {q N : Nat} {a : Int} (hd : Dk k pc .iaload 1 pc2) (hg : G[q]? = some (.inr (.inl N))) (hi : 0 ≤ a ∧ a < N) (hN : N < 2147483648) (kk : WP k G n post z pc2 L (iv (M q a.toNat) :: S) M) : WP k G n post z pc L (iv a :: rv q :: S) M := by
  obtain ⟨p, l, e, s, m, args, below, meth, c, D, dA, adK, adV, ad⟩ := z
  obtain ⟨hd, rfl⟩ := hd
  intro C H locs ls B
  refine va_iald (n := N) (cA := dA 0) (f := fun i => Int32.ofInt (M q i)) C.1 C.2.1 C.K B.1 q 0 (wld_get hg) rfl (i3_in hi.1 hi.2 hN) hd ?_
  rw [i3_nat hi.1 (by omega)]
  exact kk C H locs ls B
theorem r_iastore {k : MD} {G : List GD} {n : Nat} {post : Option PV → Mem → Prop} {z : ZZ} {pc pc2 : Nat} {L : List (Option PV)} {S : List PV} {M : Mem} {q N : Nat} {a v : Int} (hd : Dk k pc .iastore 1 pc2) (hg : G[q]? = some (.inr (.inl N))) (hi : 0 ≤ a ∧ a < N) (hN : N < 2147483648) (hv : ib v) (kk : WP k G n post z pc2 L S (upM M q a.toNat v)) : WP k G n post z pc L (iv v :: iv a :: rv q :: S) M := by
  obtain ⟨p, l, e, s, m, args, below, meth, c, D, dA, adK, adV, ad⟩ := z
  obtain ⟨hd, rfl⟩ := hd
  intro C H locs ls B
  refine va_iast (n := N) (cA := dA 0) (f := fun i => Int32.ofInt (M q i)) C.1 C.2.1 C.K B.1 (wld_D C.inj) B.2.2.1 q 0 (wld_get hg) rfl (i3_in hi.1 hi.2 hN) hd (fun H1 locs1 hP hD hS => ?_)
  rw [i3_nat hi.1 (by omega)] at hP
  have hP : va_P D vwCl ((wld ad dA G M).set q (ad q, .inl (dA 0, N, .inl (upd (fun j => Int32.ofInt (M q j)) a.toNat (Int32.ofInt v))))) H1 := hP
  rw [wld_ast hg] at hP
  exact kk C H1 locs1 ls ⟨hP, upM_ib B.2.1 hv, hS, B.2.2.2⟩
theorem r_alen {k : MD} {G : List GD} {n : Nat} {post : Option PV → Mem → Prop} {z : ZZ} {pc pc2 : Nat} {L : List (Option PV)} {S : List PV} {M : Mem} {q N : Nat} (hd : Dk k pc .arraylength 1 pc2) (hg : G[q]? = some (.inr (.inl N))) (kk : WP k G n post z pc2 L (iv N :: S) M) : WP k G n post z pc L (rv q :: S) M := by
  obtain ⟨p, l, e, s, m, args, below, meth, c, D, dA, adK, adV, ad⟩ := z
  obtain ⟨hd, rfl⟩ := hd
  intro C H locs ls B
  exact va_alen (cA := dA 0) (ty := .int) (v := Int32.ofInt N) C.1 C.2.1 C.K B.1 q 0 (wld_get hg) rfl (by show Int32.ofNat N = _; rfl) hd (kk C H locs ls B)
theorem r_aaload {k : MD} {G : List GD} {n : Nat} {post : Option PV → Mem → Prop} {z : ZZ} {pc pc2 : Nat} {L : List (Option PV)} {S : List PV} {M : Mem} {q t r : Nat} {rs : List Nat} {a : Int} (hd : Dk k pc .aaload 1 pc2) (hg : G[q]? = some (.inr (.inr (t, rs)))) (ht : t = 1 ∨ t = 2) (hi : 0 ≤ a ∧ a < 2147483648) (hr : rs[a.toNat]? = some r) (kk : WP k G n post z pc2 L (rv r :: S) M) : WP k G n post z pc L (iv a :: rv q :: S) M := by
  obtain ⟨p, l, e, s, m, args, below, meth, c, D, dA, adK, adV, ad⟩ := z
  obtain ⟨hd, rfl⟩ := hd
  intro C H locs ls B
  have hl := (List.getElem?_eq_some_iff.mp hr).1
  have hin : vp_in (Int32.ofInt a) rs.length := by
    rw [vp_in_iff, i3_toInt (by omega)]
    omega
  have hX : (wld ad dA G M)[q]? = some (ad q, .inl (dA t, rs.length, .inr (.inr (.inr (.inr (fun i => (rs[i]?).map ad)))))) := wld_get hg
  have go : W p l e (rmd n) s m args below meth c H locs 0 0 (MQ below (qq G D dA adK adV ad post) args s 0 0 (AA G ad)) (F0 m (pc + 1) ls (va_rf (((fun i => (rs[i]?).map ad) : Nat → Option Nat) (Int32.ofInt a).toNatClampNeg) :: S.map (tv ad))) := by
    rw [i3_nat hi.1 hi.2]
    show W p l e (rmd n) s m args below meth c H locs 0 0 _ (F0 m (pc + 1) ls (va_rf ((rs[a.toNat]?).map ad) :: S.map (tv ad)))
    rw [hr]
    exact kk C H locs ls B
  rcases ht with rfl | rfl
  · exact va_aldq C.1 C.2.1 C.K B.1 q 1 hX rfl hin hd go
  · exact va_aldq C.1 C.2.1 C.K B.1 q 2 hX rfl hin hd go
theorem q_gin (y : MD) (h : Cond.code y.1 y.2.1 y.2.2.1 y.2.2.2 ∈ q_tbl) : GoodIn q_tbl (Cond.code y.1 y.2.1 y.2.2.1 y.2.2.2 :: q_tbl) := by
  intro w hw
  have hm : w ∈ q_tbl := by
    rcases List.mem_cons.mp hw with rfl | hw
    · exact h
    · exact hw
  exact ⟨hm, good_of_word (List.mem_filter.mp hm).2⟩
def cat : PV → Nat
  | .inr (.inl _) => 2
  | _ => 1
theorem cat_tv (ad : Nat → Nat) (S : List PV) : ((S.map (tv ad)).map fun v => v.category) = S.map cat := by
  rw [List.map_map]
  apply List.map_congr_left
  intro v _
  rcases v with a | a | a <;> rfl
theorem wo_pre {G : List GD} {D : va_G} {dA : Nat → ClassId} {adK adV ad : Nat → Nat} {M : Mem} {s U : State} {H : Heap} {locs : List Loc} (hP : va_P D vwCl (wld ad dA G M) H) (hM : ∀ c i, ib (M c i)) (hS : va_S (AA G ad) s.heap H locs) (hK : va_K D vwCl (ty_of dA) s) (hA : ad_ok G ad) (hE : st_ok adK adV (AA G ad) s) (hU : U.heap = H) (hW : s.WarmedH U.vm) : wo G D dA adK adV ad M U :=
  ⟨by rw [hU]; exact hP, hM, va_K.moved hW.alike hK, hA, hE.go hW (fun a h1 h2 => by rw [hU]; exact hS.2.1 a h1 h2)⟩
theorem blind_wo {G : List GD} {D : va_G} {dA : Nat → ClassId} {adK adV ad : Nat → Nat} {M : Mem} {av : List Value} : FrameBlind (va_Pc av (fun U => wo G D dA adK adV ad M U)) := by
  intro a U g mk h
  exact ⟨h.1, h.2.calling g mk a⟩
theorem rmd_fit {d n ml : Nat} (h : d < n) (hm : ml ≤ 20) : (rmd d).frames + 1 ≤ (rmd n).frames ∧ 8 + (ml + 11) + (rmd d).locals ≤ (rmd n).locals := by
  simp only [rmd]
  omega
theorem wp_back {k : MD} {G : List GD} {n : Nat} {post : Option PV → Mem → Prop} {pc : Nat} {L : List (Option PV)} {S : List PV} {M : Mem} {post2 : Option PV → Mem → Prop} {p : Program} {l : Launch} {e : Env} {s : State} {m : MethodId} {args a2 : Array Value} {below : List Frame} {meth : Method} {c : Code} {D : va_G} {dA : Nat → ClassId} {adK adV ad : Nat → Nat} {H : Heap} {locs : List Loc} {ls : Array Slot} {st0 : List Value}
    (C : Cx k G (p, l, e, s, m, args, below, meth, c, D, dA, adK, adV, ad)) (B : Bx k G (p, l, e, s, m, args, below, meth, c, D, dA, adK, adV, ad) L M H locs ls)
    (hr : va_Run p l e (rmd n) s m args below meth c H locs 0 0 0 0 (F0 m pc ls st0) (S.map (tv ad)) (qq G D dA adK adV ad post2 a2) (AA G ad))
    (kk : ∀ r M2, post2 r M2 → WP k G n post (p, l, e, s, m, args, below, meth, c, D, dA, adK, adV, ad) (pc + 3) L (r.toList ++ S) M2) :
    W p l e (rmd n) s m args below meth c H locs 0 0 (MQ below (qq G D dA adK adV ad post) args s 0 0 (AA G ad)) (F0 m pc ls st0) := by
  intro T hT X
  obtain ⟨v, st₀, t, T', L1, h0, X', hL, e1, e2, ⟨⟨r, M2, hv, hp, hw⟩, hz, hk⟩, st⟩ := hr T hT X
  have hv : v = r.map (tv ad) := by injection hv
  subst hv
  rw [h0] at hz hk
  have hS : va_S (AA G ad) s.heap T'.heap (locs ++ L1) := by
    obtain ⟨g1, g2, g3⟩ := B.2.2.1
    refine ⟨Nat.le_trans g1 (by rw [e1]; exact hz), fun q h1 h2 => by rw [e1, hk q (Nat.lt_of_lt_of_le h1 g1) h2]; exact g2 q h1 h2, fun q hq => ?_⟩
    rcases List.mem_append.mp hq with h | h
    · exact g3 q h
    · exact hL q h
  obtain ⟨t2, a1, b1⟩ := kk r M2 hp C T'.heap (locs ++ L1) ls ⟨by rw [e1]; exact hw.1, hw.2.1, hS, B.2.2.2⟩ T' rfl X'
  refine ⟨t2, st t2 ?_, b1⟩
  have e3 : (r.map (tv ad)).toList ++ S.map (tv ad) = (r.toList ++ S).map (tv ad) := by cases r <;> simp
  rw [e3]
  exact a1
theorem r_callS {k : MD} {G : List GD} {n : Nat} {post : Option PV → Mem → Prop} {z : ZZ} {pc pc2 : Nat} {L : List (Option PV)} {S : List PV} {M : Mem} {idx np d : Nat} {y : MD} {As : List PV} {post2 : Option PV → Mem → Prop} (hd : Dk k pc (.invokestatic idx) 3 pc2) (hs : Cs k.1.cls idx y np) (hC : Con G d y As M post2) (hnp : As.length = np) (hdn : d < n) (hW : (S.map cat).sum ≤ 8) (kk : ∀ r M2, post2 r M2 → WP k G n post z pc2 L (r.toList ++ S) M2) : WP k G n post z pc L (As.reverse ++ S) M := by
  obtain ⟨p, l, e, s, m, args, below, meth, c, D, dA, adK, adV, ad⟩ := z
  obtain ⟨hd, rfl⟩ := hd
  intro C H locs ls B
  refine wp_back C B (va_runS (As := As.map (tv ad)) (n := np) ⟨C.1, C.2.1, C.2.2.1, C.2.2.2.1, C.hts⟩ (hC l D dA adK adV ad) ⟨callB_of np C.hts (q_gin y hs.1.2.1) rfl rfl rfl (C.hts _ hs.1.1) (C.hts _ hs.2.1) hs.1.2.2.1 (rmd_fit hdn hs.1.2.2.2), C.hts _ hs.2.2⟩ ⟨blind_wo, fun U hU hW2 => ⟨rfl, wo_pre B.1 B.2.1 B.2.2.1 C.K C.inj C.str hU hW2⟩⟩ rfl (by rw [List.length_map]; exact hnp) B.2.2.2.1 (by simp [List.map_append, List.map_reverse]) (lv_room (by rw [cat_tv]; exact hW)) hd ⟨Nat.zero_le _, Nat.zero_le _⟩) kk
theorem r_callN {k : MD} {G : List GD} {n : Nat} {post : Option PV → Mem → Prop} {z : ZZ} {pc pc2 : Nat} {L : List (Option PV)} {S : List PV} {M : Mem} {idx np d : Nat} {y : MD} {As : List PV} {post2 : Option PV → Mem → Prop} (hd : Dk k pc (.invokestatic idx) 3 pc2) (hs : Cn k.1.cls idx y np) (hC : Con G d y As M post2) (hnp : As.length = np) (hdn : d < n) (hW : (S.map cat).sum ≤ 8) (kk : ∀ r M2, post2 r M2 → WP k G n post z pc2 L (r.toList ++ S) M2) : WP k G n post z pc L (As.reverse ++ S) M := by
  obtain ⟨p, l, e, s, m, args, below, meth, c, D, dA, adK, adV, ad⟩ := z
  obtain ⟨hd, rfl⟩ := hd
  intro C H locs ls B
  obtain ⟨h1, ⟨host, h2⟩, h3⟩ := hs
  refine wp_back C B (va_runSN (As := As.map (tv ad)) (n := np) ⟨C.1, C.2.1, C.2.2.1, C.2.2.2.1, C.hts⟩ (hC l D dA adK adV ad) ⟨va_cnB np C.hts (q_gin y h1.2.1) rfl rfl rfl (C.str.2.2 _ h2) (C.hts _ h1.1) h1.2.2.1 (rmd_fit hdn h1.2.2.2), C.hts _ h3, trivial⟩ ⟨blind_wo, fun U hU hW2 => ⟨rfl, wo_pre B.1 B.2.1 B.2.2.1 C.K C.inj C.str hU hW2⟩⟩ rfl (by rw [List.length_map]; exact hnp) B.2.2.2.1 (by simp [List.map_append, List.map_reverse]) (lv_room (by rw [cat_tv]; exact hW)) hd ⟨Nat.zero_le _, Nat.zero_le _⟩) kk
theorem r_callV {k : MD} {G : List GD} {n : Nat} {post : Option PV → Mem → Prop} {z : ZZ} {pc pc2 : Nat} {L : List (Option PV)} {S : List PV} {M : Mem} {idx np d ci q : Nat} {fs : List (Option Nat)} {y : MD} {As : List PV} {post2 : Option PV → Mem → Prop} (hd : Dk k pc (.invokevirtual idx) 3 pc2) (hs : Cv k.1.cls idx y np ci) (hg : G[q]? = some (.inl (ci, fs))) (hC : Con G d y (rv q :: As) M post2) (hnp : As.length = np) (hdn : d < n) (hW : (S.map cat).sum ≤ 8) (kk : ∀ r M2, post2 r M2 → WP k G n post z pc2 L (r.toList ++ S) M2) : WP k G n post z pc L (As.reverse ++ rv q :: S) M := by
  obtain ⟨p, l, e, s, m, args, below, meth, c, D, dA, adK, adV, ad⟩ := z
  obtain ⟨hd, rfl⟩ := hd
  intro C H locs ls B
  obtain ⟨h1, h2, h3, h4, T, N, h5⟩ := hs
  refine wp_back C B (va_runV (As := As.map (tv ad)) (b := ad q) (n := np) ⟨C.1, C.2.1, C.2.2.1, C.2.2.2.1, C.hts⟩ (hC l D dA adK adV ad) ⟨callB_of np C.hts (q_gin y h1.2.1) rfl rfl rfl (C.hts _ h1.1) (C.hts _ h2) h1.2.2.1 (rmd_fit hdn h1.2.2.2), C.hts _ h3, C.hts _ h4⟩ ⟨blind_wo, va_recv C.K B.1 h5 (wld_get hg), fun U hU hW2 => ⟨rfl, wo_pre B.1 B.2.1 B.2.2.1 C.K C.inj C.str hU hW2⟩⟩ rfl (by rw [List.length_map]; exact hnp) B.2.2.2.1 (by simp [List.map_append, List.map_reverse, tv]) (lv_room (by rw [cat_tv]; exact hW)) hd ⟨Nat.zero_le _, Nat.zero_le _⟩) kk
/-- ends: a number, a long, nothing -/
def pI (Q : Int → Mem → Prop) : Option PV → Mem → Prop := fun r M => ∃ a, r = some (iv a) ∧ Q a M
def pJ (Q : Int → Mem → Prop) : Option PV → Mem → Prop := fun r M => ∃ a, r = some (jv a) ∧ Q a M
def pV (Q : Mem → Prop) : Option PV → Mem → Prop := fun r M => r = none ∧ Q M
theorem r_cSI0 {k : MD} {G : List GD} {n : Nat} {post : Option PV → Mem → Prop} {z : ZZ} {pc pc2 : Nat} {L : List (Option PV)} {S : List PV} {M : Mem} {idx d : Nat} {y : MD} {Qp : Int → Mem → Prop} (hd : Dk k pc (.invokestatic idx) 3 pc2) (hs : Cs k.1.cls idx y 0) (hC : Con G d y [] M (pI Qp)) (hdn : d < n) (hW : (S.map cat).sum ≤ 8) (kk : ∀ b M2, Qp b M2 → WP k G n post z pc2 L (iv b :: S) M2) : WP k G n post z pc L (S) M := r_callS hd hs hC rfl hdn hW (fun r M2 h => by obtain ⟨b, rfl, hb⟩ := h; exact kk b M2 hb)
theorem r_cSI1 {k : MD} {G : List GD} {n : Nat} {post : Option PV → Mem → Prop} {z : ZZ} {pc pc2 : Nat} {L : List (Option PV)} {S : List PV} {M : Mem} {idx d : Nat} {y : MD} {x0 : PV} {Qp : Int → Mem → Prop} (hd : Dk k pc (.invokestatic idx) 3 pc2) (hs : Cs k.1.cls idx y 1) (hC : Con G d y [x0] M (pI Qp)) (hdn : d < n) (hW : (S.map cat).sum ≤ 8) (kk : ∀ b M2, Qp b M2 → WP k G n post z pc2 L (iv b :: S) M2) : WP k G n post z pc L (x0 :: S) M := r_callS hd hs hC rfl hdn hW (fun r M2 h => by obtain ⟨b, rfl, hb⟩ := h; exact kk b M2 hb)
theorem r_cSI2 {k : MD} {G : List GD} {n : Nat} {post : Option PV → Mem → Prop} {z : ZZ} {pc pc2 : Nat} {L : List (Option PV)} {S : List PV} {M : Mem} {idx d : Nat} {y : MD} {x0 x1 : PV} {Qp : Int → Mem → Prop} (hd : Dk k pc (.invokestatic idx) 3 pc2) (hs : Cs k.1.cls idx y 2) (hC : Con G d y [x0, x1] M (pI Qp)) (hdn : d < n) (hW : (S.map cat).sum ≤ 8) (kk : ∀ b M2, Qp b M2 → WP k G n post z pc2 L (iv b :: S) M2) : WP k G n post z pc L (x1 :: x0 :: S) M := r_callS hd hs hC rfl hdn hW (fun r M2 h => by obtain ⟨b, rfl, hb⟩ := h; exact kk b M2 hb)
theorem r_cSI3 {k : MD} {G : List GD} {n : Nat} {post : Option PV → Mem → Prop} {z : ZZ} {pc pc2 : Nat} {L : List (Option PV)} {S : List PV} {M : Mem} {idx d : Nat} {y : MD} {x0 x1 x2 : PV} {Qp : Int → Mem → Prop} (hd : Dk k pc (.invokestatic idx) 3 pc2) (hs : Cs k.1.cls idx y 3) (hC : Con G d y [x0, x1, x2] M (pI Qp)) (hdn : d < n) (hW : (S.map cat).sum ≤ 8) (kk : ∀ b M2, Qp b M2 → WP k G n post z pc2 L (iv b :: S) M2) : WP k G n post z pc L (x2 :: x1 :: x0 :: S) M := r_callS hd hs hC rfl hdn hW (fun r M2 h => by obtain ⟨b, rfl, hb⟩ := h; exact kk b M2 hb)
theorem r_cSI4 {k : MD} {G : List GD} {n : Nat} {post : Option PV → Mem → Prop} {z : ZZ} {pc pc2 : Nat} {L : List (Option PV)} {S : List PV} {M : Mem} {idx d : Nat} {y : MD} {x0 x1 x2 x3 : PV} {Qp : Int → Mem → Prop} (hd : Dk k pc (.invokestatic idx) 3 pc2) (hs : Cs k.1.cls idx y 4) (hC : Con G d y [x0, x1, x2, x3] M (pI Qp)) (hdn : d < n) (hW : (S.map cat).sum ≤ 8) (kk : ∀ b M2, Qp b M2 → WP k G n post z pc2 L (iv b :: S) M2) : WP k G n post z pc L (x3 :: x2 :: x1 :: x0 :: S) M := r_callS hd hs hC rfl hdn hW (fun r M2 h => by obtain ⟨b, rfl, hb⟩ := h; exact kk b M2 hb)
theorem r_cSJ0 {k : MD} {G : List GD} {n : Nat} {post : Option PV → Mem → Prop} {z : ZZ} {pc pc2 : Nat} {L : List (Option PV)} {S : List PV} {M : Mem} {idx d : Nat} {y : MD} {Qp : Int → Mem → Prop} (hd : Dk k pc (.invokestatic idx) 3 pc2) (hs : Cs k.1.cls idx y 0) (hC : Con G d y [] M (pJ Qp)) (hdn : d < n) (hW : (S.map cat).sum ≤ 8) (kk : ∀ b M2, Qp b M2 → WP k G n post z pc2 L (jv b :: S) M2) : WP k G n post z pc L (S) M := r_callS hd hs hC rfl hdn hW (fun r M2 h => by obtain ⟨b, rfl, hb⟩ := h; exact kk b M2 hb)
theorem r_cSJ1 {k : MD} {G : List GD} {n : Nat} {post : Option PV → Mem → Prop} {z : ZZ} {pc pc2 : Nat} {L : List (Option PV)} {S : List PV} {M : Mem} {idx d : Nat} {y : MD} {x0 : PV} {Qp : Int → Mem → Prop} (hd : Dk k pc (.invokestatic idx) 3 pc2) (hs : Cs k.1.cls idx y 1) (hC : Con G d y [x0] M (pJ Qp)) (hdn : d < n) (hW : (S.map cat).sum ≤ 8) (kk : ∀ b M2, Qp b M2 → WP k G n post z pc2 L (jv b :: S) M2) : WP k G n post z pc L (x0 :: S) M := r_callS hd hs hC rfl hdn hW (fun r M2 h => by obtain ⟨b, rfl, hb⟩ := h; exact kk b M2 hb)
theorem r_cSJ2 {k : MD} {G : List GD} {n : Nat} {post : Option PV → Mem → Prop} {z : ZZ} {pc pc2 : Nat} {L : List (Option PV)} {S : List PV} {M : Mem} {idx d : Nat} {y : MD} {x0 x1 : PV} {Qp : Int → Mem → Prop} (hd : Dk k pc (.invokestatic idx) 3 pc2) (hs : Cs k.1.cls idx y 2) (hC : Con G d y [x0, x1] M (pJ Qp)) (hdn : d < n) (hW : (S.map cat).sum ≤ 8) (kk : ∀ b M2, Qp b M2 → WP k G n post z pc2 L (jv b :: S) M2) : WP k G n post z pc L (x1 :: x0 :: S) M := r_callS hd hs hC rfl hdn hW (fun r M2 h => by obtain ⟨b, rfl, hb⟩ := h; exact kk b M2 hb)
theorem r_cSJ3 {k : MD} {G : List GD} {n : Nat} {post : Option PV → Mem → Prop} {z : ZZ} {pc pc2 : Nat} {L : List (Option PV)} {S : List PV} {M : Mem} {idx d : Nat} {y : MD} {x0 x1 x2 : PV} {Qp : Int → Mem → Prop} (hd : Dk k pc (.invokestatic idx) 3 pc2) (hs : Cs k.1.cls idx y 3) (hC : Con G d y [x0, x1, x2] M (pJ Qp)) (hdn : d < n) (hW : (S.map cat).sum ≤ 8) (kk : ∀ b M2, Qp b M2 → WP k G n post z pc2 L (jv b :: S) M2) : WP k G n post z pc L (x2 :: x1 :: x0 :: S) M := r_callS hd hs hC rfl hdn hW (fun r M2 h => by obtain ⟨b, rfl, hb⟩ := h; exact kk b M2 hb)
theorem r_cSJ4 {k : MD} {G : List GD} {n : Nat} {post : Option PV → Mem → Prop} {z : ZZ} {pc pc2 : Nat} {L : List (Option PV)} {S : List PV} {M : Mem} {idx d : Nat} {y : MD} {x0 x1 x2 x3 : PV} {Qp : Int → Mem → Prop} (hd : Dk k pc (.invokestatic idx) 3 pc2) (hs : Cs k.1.cls idx y 4) (hC : Con G d y [x0, x1, x2, x3] M (pJ Qp)) (hdn : d < n) (hW : (S.map cat).sum ≤ 8) (kk : ∀ b M2, Qp b M2 → WP k G n post z pc2 L (jv b :: S) M2) : WP k G n post z pc L (x3 :: x2 :: x1 :: x0 :: S) M := r_callS hd hs hC rfl hdn hW (fun r M2 h => by obtain ⟨b, rfl, hb⟩ := h; exact kk b M2 hb)
theorem r_cSV0 {k : MD} {G : List GD} {n : Nat} {post : Option PV → Mem → Prop} {z : ZZ} {pc pc2 : Nat} {L : List (Option PV)} {S : List PV} {M : Mem} {idx d : Nat} {y : MD} {Qp : Mem → Prop} (hd : Dk k pc (.invokestatic idx) 3 pc2) (hs : Cs k.1.cls idx y 0) (hC : Con G d y [] M (pV Qp)) (hdn : d < n) (hW : (S.map cat).sum ≤ 8) (kk : ∀ M2, Qp M2 → WP k G n post z pc2 L S M2) : WP k G n post z pc L (S) M := r_callS hd hs hC rfl hdn hW (fun r M2 h => by obtain ⟨rfl, hb⟩ := h; exact kk M2 hb)
theorem r_cSV1 {k : MD} {G : List GD} {n : Nat} {post : Option PV → Mem → Prop} {z : ZZ} {pc pc2 : Nat} {L : List (Option PV)} {S : List PV} {M : Mem} {idx d : Nat} {y : MD} {x0 : PV} {Qp : Mem → Prop} (hd : Dk k pc (.invokestatic idx) 3 pc2) (hs : Cs k.1.cls idx y 1) (hC : Con G d y [x0] M (pV Qp)) (hdn : d < n) (hW : (S.map cat).sum ≤ 8) (kk : ∀ M2, Qp M2 → WP k G n post z pc2 L S M2) : WP k G n post z pc L (x0 :: S) M := r_callS hd hs hC rfl hdn hW (fun r M2 h => by obtain ⟨rfl, hb⟩ := h; exact kk M2 hb)
theorem r_cSV2 {k : MD} {G : List GD} {n : Nat} {post : Option PV → Mem → Prop} {z : ZZ} {pc pc2 : Nat} {L : List (Option PV)} {S : List PV} {M : Mem} {idx d : Nat} {y : MD} {x0 x1 : PV} {Qp : Mem → Prop} (hd : Dk k pc (.invokestatic idx) 3 pc2) (hs : Cs k.1.cls idx y 2) (hC : Con G d y [x0, x1] M (pV Qp)) (hdn : d < n) (hW : (S.map cat).sum ≤ 8) (kk : ∀ M2, Qp M2 → WP k G n post z pc2 L S M2) : WP k G n post z pc L (x1 :: x0 :: S) M := r_callS hd hs hC rfl hdn hW (fun r M2 h => by obtain ⟨rfl, hb⟩ := h; exact kk M2 hb)
theorem r_cSV3 {k : MD} {G : List GD} {n : Nat} {post : Option PV → Mem → Prop} {z : ZZ} {pc pc2 : Nat} {L : List (Option PV)} {S : List PV} {M : Mem} {idx d : Nat} {y : MD} {x0 x1 x2 : PV} {Qp : Mem → Prop} (hd : Dk k pc (.invokestatic idx) 3 pc2) (hs : Cs k.1.cls idx y 3) (hC : Con G d y [x0, x1, x2] M (pV Qp)) (hdn : d < n) (hW : (S.map cat).sum ≤ 8) (kk : ∀ M2, Qp M2 → WP k G n post z pc2 L S M2) : WP k G n post z pc L (x2 :: x1 :: x0 :: S) M := r_callS hd hs hC rfl hdn hW (fun r M2 h => by obtain ⟨rfl, hb⟩ := h; exact kk M2 hb)
theorem r_cSV4 {k : MD} {G : List GD} {n : Nat} {post : Option PV → Mem → Prop} {z : ZZ} {pc pc2 : Nat} {L : List (Option PV)} {S : List PV} {M : Mem} {idx d : Nat} {y : MD} {x0 x1 x2 x3 : PV} {Qp : Mem → Prop} (hd : Dk k pc (.invokestatic idx) 3 pc2) (hs : Cs k.1.cls idx y 4) (hC : Con G d y [x0, x1, x2, x3] M (pV Qp)) (hdn : d < n) (hW : (S.map cat).sum ≤ 8) (kk : ∀ M2, Qp M2 → WP k G n post z pc2 L S M2) : WP k G n post z pc L (x3 :: x2 :: x1 :: x0 :: S) M := r_callS hd hs hC rfl hdn hW (fun r M2 h => by obtain ⟨rfl, hb⟩ := h; exact kk M2 hb)
theorem r_cNI0 {k : MD} {G : List GD} {n : Nat} {post : Option PV → Mem → Prop} {z : ZZ} {pc pc2 : Nat} {L : List (Option PV)} {S : List PV} {M : Mem} {idx d : Nat} {y : MD} {Qp : Int → Mem → Prop} (hd : Dk k pc (.invokestatic idx) 3 pc2) (hs : Cn k.1.cls idx y 0) (hC : Con G d y [] M (pI Qp)) (hdn : d < n) (hW : (S.map cat).sum ≤ 8) (kk : ∀ b M2, Qp b M2 → WP k G n post z pc2 L (iv b :: S) M2) : WP k G n post z pc L (S) M := r_callN hd hs hC rfl hdn hW (fun r M2 h => by obtain ⟨b, rfl, hb⟩ := h; exact kk b M2 hb)
theorem r_cNI1 {k : MD} {G : List GD} {n : Nat} {post : Option PV → Mem → Prop} {z : ZZ} {pc pc2 : Nat} {L : List (Option PV)} {S : List PV} {M : Mem} {idx d : Nat} {y : MD} {x0 : PV} {Qp : Int → Mem → Prop} (hd : Dk k pc (.invokestatic idx) 3 pc2) (hs : Cn k.1.cls idx y 1) (hC : Con G d y [x0] M (pI Qp)) (hdn : d < n) (hW : (S.map cat).sum ≤ 8) (kk : ∀ b M2, Qp b M2 → WP k G n post z pc2 L (iv b :: S) M2) : WP k G n post z pc L (x0 :: S) M := r_callN hd hs hC rfl hdn hW (fun r M2 h => by obtain ⟨b, rfl, hb⟩ := h; exact kk b M2 hb)
theorem r_cNI2 {k : MD} {G : List GD} {n : Nat} {post : Option PV → Mem → Prop} {z : ZZ} {pc pc2 : Nat} {L : List (Option PV)} {S : List PV} {M : Mem} {idx d : Nat} {y : MD} {x0 x1 : PV} {Qp : Int → Mem → Prop} (hd : Dk k pc (.invokestatic idx) 3 pc2) (hs : Cn k.1.cls idx y 2) (hC : Con G d y [x0, x1] M (pI Qp)) (hdn : d < n) (hW : (S.map cat).sum ≤ 8) (kk : ∀ b M2, Qp b M2 → WP k G n post z pc2 L (iv b :: S) M2) : WP k G n post z pc L (x1 :: x0 :: S) M := r_callN hd hs hC rfl hdn hW (fun r M2 h => by obtain ⟨b, rfl, hb⟩ := h; exact kk b M2 hb)
theorem r_cNI3 {k : MD} {G : List GD} {n : Nat} {post : Option PV → Mem → Prop} {z : ZZ} {pc pc2 : Nat} {L : List (Option PV)} {S : List PV} {M : Mem} {idx d : Nat} {y : MD} {x0 x1 x2 : PV} {Qp : Int → Mem → Prop} (hd : Dk k pc (.invokestatic idx) 3 pc2) (hs : Cn k.1.cls idx y 3) (hC : Con G d y [x0, x1, x2] M (pI Qp)) (hdn : d < n) (hW : (S.map cat).sum ≤ 8) (kk : ∀ b M2, Qp b M2 → WP k G n post z pc2 L (iv b :: S) M2) : WP k G n post z pc L (x2 :: x1 :: x0 :: S) M := r_callN hd hs hC rfl hdn hW (fun r M2 h => by obtain ⟨b, rfl, hb⟩ := h; exact kk b M2 hb)
theorem r_cNI4 {k : MD} {G : List GD} {n : Nat} {post : Option PV → Mem → Prop} {z : ZZ} {pc pc2 : Nat} {L : List (Option PV)} {S : List PV} {M : Mem} {idx d : Nat} {y : MD} {x0 x1 x2 x3 : PV} {Qp : Int → Mem → Prop} (hd : Dk k pc (.invokestatic idx) 3 pc2) (hs : Cn k.1.cls idx y 4) (hC : Con G d y [x0, x1, x2, x3] M (pI Qp)) (hdn : d < n) (hW : (S.map cat).sum ≤ 8) (kk : ∀ b M2, Qp b M2 → WP k G n post z pc2 L (iv b :: S) M2) : WP k G n post z pc L (x3 :: x2 :: x1 :: x0 :: S) M := r_callN hd hs hC rfl hdn hW (fun r M2 h => by obtain ⟨b, rfl, hb⟩ := h; exact kk b M2 hb)
theorem r_cNJ0 {k : MD} {G : List GD} {n : Nat} {post : Option PV → Mem → Prop} {z : ZZ} {pc pc2 : Nat} {L : List (Option PV)} {S : List PV} {M : Mem} {idx d : Nat} {y : MD} {Qp : Int → Mem → Prop} (hd : Dk k pc (.invokestatic idx) 3 pc2) (hs : Cn k.1.cls idx y 0) (hC : Con G d y [] M (pJ Qp)) (hdn : d < n) (hW : (S.map cat).sum ≤ 8) (kk : ∀ b M2, Qp b M2 → WP k G n post z pc2 L (jv b :: S) M2) : WP k G n post z pc L (S) M := r_callN hd hs hC rfl hdn hW (fun r M2 h => by obtain ⟨b, rfl, hb⟩ := h; exact kk b M2 hb)
theorem r_cNJ1 {k : MD} {G : List GD} {n : Nat} {post : Option PV → Mem → Prop} {z : ZZ} {pc pc2 : Nat} {L : List (Option PV)} {S : List PV} {M : Mem} {idx d : Nat} {y : MD} {x0 : PV} {Qp : Int → Mem → Prop} (hd : Dk k pc (.invokestatic idx) 3 pc2) (hs : Cn k.1.cls idx y 1) (hC : Con G d y [x0] M (pJ Qp)) (hdn : d < n) (hW : (S.map cat).sum ≤ 8) (kk : ∀ b M2, Qp b M2 → WP k G n post z pc2 L (jv b :: S) M2) : WP k G n post z pc L (x0 :: S) M := r_callN hd hs hC rfl hdn hW (fun r M2 h => by obtain ⟨b, rfl, hb⟩ := h; exact kk b M2 hb)
theorem r_cNJ2 {k : MD} {G : List GD} {n : Nat} {post : Option PV → Mem → Prop} {z : ZZ} {pc pc2 : Nat} {L : List (Option PV)} {S : List PV} {M : Mem} {idx d : Nat} {y : MD} {x0 x1 : PV} {Qp : Int → Mem → Prop} (hd : Dk k pc (.invokestatic idx) 3 pc2) (hs : Cn k.1.cls idx y 2) (hC : Con G d y [x0, x1] M (pJ Qp)) (hdn : d < n) (hW : (S.map cat).sum ≤ 8) (kk : ∀ b M2, Qp b M2 → WP k G n post z pc2 L (jv b :: S) M2) : WP k G n post z pc L (x1 :: x0 :: S) M := r_callN hd hs hC rfl hdn hW (fun r M2 h => by obtain ⟨b, rfl, hb⟩ := h; exact kk b M2 hb)
theorem r_cNJ3 {k : MD} {G : List GD} {n : Nat} {post : Option PV → Mem → Prop} {z : ZZ} {pc pc2 : Nat} {L : List (Option PV)} {S : List PV} {M : Mem} {idx d : Nat} {y : MD} {x0 x1 x2 : PV} {Qp : Int → Mem → Prop} (hd : Dk k pc (.invokestatic idx) 3 pc2) (hs : Cn k.1.cls idx y 3) (hC : Con G d y [x0, x1, x2] M (pJ Qp)) (hdn : d < n) (hW : (S.map cat).sum ≤ 8) (kk : ∀ b M2, Qp b M2 → WP k G n post z pc2 L (jv b :: S) M2) : WP k G n post z pc L (x2 :: x1 :: x0 :: S) M := r_callN hd hs hC rfl hdn hW (fun r M2 h => by obtain ⟨b, rfl, hb⟩ := h; exact kk b M2 hb)
theorem r_cNJ4 {k : MD} {G : List GD} {n : Nat} {post : Option PV → Mem → Prop} {z : ZZ} {pc pc2 : Nat} {L : List (Option PV)} {S : List PV} {M : Mem} {idx d : Nat} {y : MD} {x0 x1 x2 x3 : PV} {Qp : Int → Mem → Prop} (hd : Dk k pc (.invokestatic idx) 3 pc2) (hs : Cn k.1.cls idx y 4) (hC : Con G d y [x0, x1, x2, x3] M (pJ Qp)) (hdn : d < n) (hW : (S.map cat).sum ≤ 8) (kk : ∀ b M2, Qp b M2 → WP k G n post z pc2 L (jv b :: S) M2) : WP k G n post z pc L (x3 :: x2 :: x1 :: x0 :: S) M := r_callN hd hs hC rfl hdn hW (fun r M2 h => by obtain ⟨b, rfl, hb⟩ := h; exact kk b M2 hb)
theorem r_cNV0 {k : MD} {G : List GD} {n : Nat} {post : Option PV → Mem → Prop} {z : ZZ} {pc pc2 : Nat} {L : List (Option PV)} {S : List PV} {M : Mem} {idx d : Nat} {y : MD} {Qp : Mem → Prop} (hd : Dk k pc (.invokestatic idx) 3 pc2) (hs : Cn k.1.cls idx y 0) (hC : Con G d y [] M (pV Qp)) (hdn : d < n) (hW : (S.map cat).sum ≤ 8) (kk : ∀ M2, Qp M2 → WP k G n post z pc2 L S M2) : WP k G n post z pc L (S) M := r_callN hd hs hC rfl hdn hW (fun r M2 h => by obtain ⟨rfl, hb⟩ := h; exact kk M2 hb)
theorem r_cNV1 {k : MD} {G : List GD} {n : Nat} {post : Option PV → Mem → Prop} {z : ZZ} {pc pc2 : Nat} {L : List (Option PV)} {S : List PV} {M : Mem} {idx d : Nat} {y : MD} {x0 : PV} {Qp : Mem → Prop} (hd : Dk k pc (.invokestatic idx) 3 pc2) (hs : Cn k.1.cls idx y 1) (hC : Con G d y [x0] M (pV Qp)) (hdn : d < n) (hW : (S.map cat).sum ≤ 8) (kk : ∀ M2, Qp M2 → WP k G n post z pc2 L S M2) : WP k G n post z pc L (x0 :: S) M := r_callN hd hs hC rfl hdn hW (fun r M2 h => by obtain ⟨rfl, hb⟩ := h; exact kk M2 hb)
theorem r_cNV2 {k : MD} {G : List GD} {n : Nat} {post : Option PV → Mem → Prop} {z : ZZ} {pc pc2 : Nat} {L : List (Option PV)} {S : List PV} {M : Mem} {idx d : Nat} {y : MD} {x0 x1 : PV} {Qp : Mem → Prop} (hd : Dk k pc (.invokestatic idx) 3 pc2) (hs : Cn k.1.cls idx y 2) (hC : Con G d y [x0, x1] M (pV Qp)) (hdn : d < n) (hW : (S.map cat).sum ≤ 8) (kk : ∀ M2, Qp M2 → WP k G n post z pc2 L S M2) : WP k G n post z pc L (x1 :: x0 :: S) M := r_callN hd hs hC rfl hdn hW (fun r M2 h => by obtain ⟨rfl, hb⟩ := h; exact kk M2 hb)
theorem r_cNV3 {k : MD} {G : List GD} {n : Nat} {post : Option PV → Mem → Prop} {z : ZZ} {pc pc2 : Nat} {L : List (Option PV)} {S : List PV} {M : Mem} {idx d : Nat} {y : MD} {x0 x1 x2 : PV} {Qp : Mem → Prop} (hd : Dk k pc (.invokestatic idx) 3 pc2) (hs : Cn k.1.cls idx y 3) (hC : Con G d y [x0, x1, x2] M (pV Qp)) (hdn : d < n) (hW : (S.map cat).sum ≤ 8) (kk : ∀ M2, Qp M2 → WP k G n post z pc2 L S M2) : WP k G n post z pc L (x2 :: x1 :: x0 :: S) M := r_callN hd hs hC rfl hdn hW (fun r M2 h => by obtain ⟨rfl, hb⟩ := h; exact kk M2 hb)
theorem r_cNV4 {k : MD} {G : List GD} {n : Nat} {post : Option PV → Mem → Prop} {z : ZZ} {pc pc2 : Nat} {L : List (Option PV)} {S : List PV} {M : Mem} {idx d : Nat} {y : MD} {x0 x1 x2 x3 : PV} {Qp : Mem → Prop} (hd : Dk k pc (.invokestatic idx) 3 pc2) (hs : Cn k.1.cls idx y 4) (hC : Con G d y [x0, x1, x2, x3] M (pV Qp)) (hdn : d < n) (hW : (S.map cat).sum ≤ 8) (kk : ∀ M2, Qp M2 → WP k G n post z pc2 L S M2) : WP k G n post z pc L (x3 :: x2 :: x1 :: x0 :: S) M := r_callN hd hs hC rfl hdn hW (fun r M2 h => by obtain ⟨rfl, hb⟩ := h; exact kk M2 hb)
theorem r_cVI0 {k : MD} {G : List GD} {n : Nat} {post : Option PV → Mem → Prop} {z : ZZ} {pc pc2 : Nat} {L : List (Option PV)} {S : List PV} {M : Mem} {idx d ci q : Nat} {fs : List (Option Nat)} {y : MD} {Qp : Int → Mem → Prop} (hd : Dk k pc (.invokevirtual idx) 3 pc2) (hs : Cv k.1.cls idx y 0 ci) (hg : G[q]? = some (.inl (ci, fs))) (hC : Con G d y (rv q :: []) M (pI Qp)) (hdn : d < n) (hW : (S.map cat).sum ≤ 8) (kk : ∀ b M2, Qp b M2 → WP k G n post z pc2 L (iv b :: S) M2) : WP k G n post z pc L (rv q :: S) M := r_callV hd hs hg hC rfl hdn hW (fun r M2 h => by obtain ⟨b, rfl, hb⟩ := h; exact kk b M2 hb)
theorem r_cVI1 {k : MD} {G : List GD} {n : Nat} {post : Option PV → Mem → Prop} {z : ZZ} {pc pc2 : Nat} {L : List (Option PV)} {S : List PV} {M : Mem} {idx d ci q : Nat} {fs : List (Option Nat)} {y : MD} {x0 : PV} {Qp : Int → Mem → Prop} (hd : Dk k pc (.invokevirtual idx) 3 pc2) (hs : Cv k.1.cls idx y 1 ci) (hg : G[q]? = some (.inl (ci, fs))) (hC : Con G d y (rv q :: [x0]) M (pI Qp)) (hdn : d < n) (hW : (S.map cat).sum ≤ 8) (kk : ∀ b M2, Qp b M2 → WP k G n post z pc2 L (iv b :: S) M2) : WP k G n post z pc L (x0 :: rv q :: S) M := r_callV hd hs hg hC rfl hdn hW (fun r M2 h => by obtain ⟨b, rfl, hb⟩ := h; exact kk b M2 hb)
theorem r_cVI2 {k : MD} {G : List GD} {n : Nat} {post : Option PV → Mem → Prop} {z : ZZ} {pc pc2 : Nat} {L : List (Option PV)} {S : List PV} {M : Mem} {idx d ci q : Nat} {fs : List (Option Nat)} {y : MD} {x0 x1 : PV} {Qp : Int → Mem → Prop} (hd : Dk k pc (.invokevirtual idx) 3 pc2) (hs : Cv k.1.cls idx y 2 ci) (hg : G[q]? = some (.inl (ci, fs))) (hC : Con G d y (rv q :: [x0, x1]) M (pI Qp)) (hdn : d < n) (hW : (S.map cat).sum ≤ 8) (kk : ∀ b M2, Qp b M2 → WP k G n post z pc2 L (iv b :: S) M2) : WP k G n post z pc L (x1 :: x0 :: rv q :: S) M := r_callV hd hs hg hC rfl hdn hW (fun r M2 h => by obtain ⟨b, rfl, hb⟩ := h; exact kk b M2 hb)
theorem r_cVI3 {k : MD} {G : List GD} {n : Nat} {post : Option PV → Mem → Prop} {z : ZZ} {pc pc2 : Nat} {L : List (Option PV)} {S : List PV} {M : Mem} {idx d ci q : Nat} {fs : List (Option Nat)} {y : MD} {x0 x1 x2 : PV} {Qp : Int → Mem → Prop} (hd : Dk k pc (.invokevirtual idx) 3 pc2) (hs : Cv k.1.cls idx y 3 ci) (hg : G[q]? = some (.inl (ci, fs))) (hC : Con G d y (rv q :: [x0, x1, x2]) M (pI Qp)) (hdn : d < n) (hW : (S.map cat).sum ≤ 8) (kk : ∀ b M2, Qp b M2 → WP k G n post z pc2 L (iv b :: S) M2) : WP k G n post z pc L (x2 :: x1 :: x0 :: rv q :: S) M := r_callV hd hs hg hC rfl hdn hW (fun r M2 h => by obtain ⟨b, rfl, hb⟩ := h; exact kk b M2 hb)
theorem r_cVI4 {k : MD} {G : List GD} {n : Nat} {post : Option PV → Mem → Prop} {z : ZZ} {pc pc2 : Nat} {L : List (Option PV)} {S : List PV} {M : Mem} {idx d ci q : Nat} {fs : List (Option Nat)} {y : MD} {x0 x1 x2 x3 : PV} {Qp : Int → Mem → Prop} (hd : Dk k pc (.invokevirtual idx) 3 pc2) (hs : Cv k.1.cls idx y 4 ci) (hg : G[q]? = some (.inl (ci, fs))) (hC : Con G d y (rv q :: [x0, x1, x2, x3]) M (pI Qp)) (hdn : d < n) (hW : (S.map cat).sum ≤ 8) (kk : ∀ b M2, Qp b M2 → WP k G n post z pc2 L (iv b :: S) M2) : WP k G n post z pc L (x3 :: x2 :: x1 :: x0 :: rv q :: S) M := r_callV hd hs hg hC rfl hdn hW (fun r M2 h => by obtain ⟨b, rfl, hb⟩ := h; exact kk b M2 hb)
theorem r_cVJ0 {k : MD} {G : List GD} {n : Nat} {post : Option PV → Mem → Prop} {z : ZZ} {pc pc2 : Nat} {L : List (Option PV)} {S : List PV} {M : Mem} {idx d ci q : Nat} {fs : List (Option Nat)} {y : MD} {Qp : Int → Mem → Prop} (hd : Dk k pc (.invokevirtual idx) 3 pc2) (hs : Cv k.1.cls idx y 0 ci) (hg : G[q]? = some (.inl (ci, fs))) (hC : Con G d y (rv q :: []) M (pJ Qp)) (hdn : d < n) (hW : (S.map cat).sum ≤ 8) (kk : ∀ b M2, Qp b M2 → WP k G n post z pc2 L (jv b :: S) M2) : WP k G n post z pc L (rv q :: S) M := r_callV hd hs hg hC rfl hdn hW (fun r M2 h => by obtain ⟨b, rfl, hb⟩ := h; exact kk b M2 hb)
theorem r_cVJ1 {k : MD} {G : List GD} {n : Nat} {post : Option PV → Mem → Prop} {z : ZZ} {pc pc2 : Nat} {L : List (Option PV)} {S : List PV} {M : Mem} {idx d ci q : Nat} {fs : List (Option Nat)} {y : MD} {x0 : PV} {Qp : Int → Mem → Prop} (hd : Dk k pc (.invokevirtual idx) 3 pc2) (hs : Cv k.1.cls idx y 1 ci) (hg : G[q]? = some (.inl (ci, fs))) (hC : Con G d y (rv q :: [x0]) M (pJ Qp)) (hdn : d < n) (hW : (S.map cat).sum ≤ 8) (kk : ∀ b M2, Qp b M2 → WP k G n post z pc2 L (jv b :: S) M2) : WP k G n post z pc L (x0 :: rv q :: S) M := r_callV hd hs hg hC rfl hdn hW (fun r M2 h => by obtain ⟨b, rfl, hb⟩ := h; exact kk b M2 hb)
theorem r_cVJ2 {k : MD} {G : List GD} {n : Nat} {post : Option PV → Mem → Prop} {z : ZZ} {pc pc2 : Nat} {L : List (Option PV)} {S : List PV} {M : Mem} {idx d ci q : Nat} {fs : List (Option Nat)} {y : MD} {x0 x1 : PV} {Qp : Int → Mem → Prop} (hd : Dk k pc (.invokevirtual idx) 3 pc2) (hs : Cv k.1.cls idx y 2 ci) (hg : G[q]? = some (.inl (ci, fs))) (hC : Con G d y (rv q :: [x0, x1]) M (pJ Qp)) (hdn : d < n) (hW : (S.map cat).sum ≤ 8) (kk : ∀ b M2, Qp b M2 → WP k G n post z pc2 L (jv b :: S) M2) : WP k G n post z pc L (x1 :: x0 :: rv q :: S) M := r_callV hd hs hg hC rfl hdn hW (fun r M2 h => by obtain ⟨b, rfl, hb⟩ := h; exact kk b M2 hb)
theorem r_cVJ3 {k : MD} {G : List GD} {n : Nat} {post : Option PV → Mem → Prop} {z : ZZ} {pc pc2 : Nat} {L : List (Option PV)} {S : List PV} {M : Mem} {idx d ci q : Nat} {fs : List (Option Nat)} {y : MD} {x0 x1 x2 : PV} {Qp : Int → Mem → Prop} (hd : Dk k pc (.invokevirtual idx) 3 pc2) (hs : Cv k.1.cls idx y 3 ci) (hg : G[q]? = some (.inl (ci, fs))) (hC : Con G d y (rv q :: [x0, x1, x2]) M (pJ Qp)) (hdn : d < n) (hW : (S.map cat).sum ≤ 8) (kk : ∀ b M2, Qp b M2 → WP k G n post z pc2 L (jv b :: S) M2) : WP k G n post z pc L (x2 :: x1 :: x0 :: rv q :: S) M := r_callV hd hs hg hC rfl hdn hW (fun r M2 h => by obtain ⟨b, rfl, hb⟩ := h; exact kk b M2 hb)
theorem r_cVJ4 {k : MD} {G : List GD} {n : Nat} {post : Option PV → Mem → Prop} {z : ZZ} {pc pc2 : Nat} {L : List (Option PV)} {S : List PV} {M : Mem} {idx d ci q : Nat} {fs : List (Option Nat)} {y : MD} {x0 x1 x2 x3 : PV} {Qp : Int → Mem → Prop} (hd : Dk k pc (.invokevirtual idx) 3 pc2) (hs : Cv k.1.cls idx y 4 ci) (hg : G[q]? = some (.inl (ci, fs))) (hC : Con G d y (rv q :: [x0, x1, x2, x3]) M (pJ Qp)) (hdn : d < n) (hW : (S.map cat).sum ≤ 8) (kk : ∀ b M2, Qp b M2 → WP k G n post z pc2 L (jv b :: S) M2) : WP k G n post z pc L (x3 :: x2 :: x1 :: x0 :: rv q :: S) M := r_callV hd hs hg hC rfl hdn hW (fun r M2 h => by obtain ⟨b, rfl, hb⟩ := h; exact kk b M2 hb)
theorem r_cVV0 {k : MD} {G : List GD} {n : Nat} {post : Option PV → Mem → Prop} {z : ZZ} {pc pc2 : Nat} {L : List (Option PV)} {S : List PV} {M : Mem} {idx d ci q : Nat} {fs : List (Option Nat)} {y : MD} {Qp : Mem → Prop} (hd : Dk k pc (.invokevirtual idx) 3 pc2) (hs : Cv k.1.cls idx y 0 ci) (hg : G[q]? = some (.inl (ci, fs))) (hC : Con G d y (rv q :: []) M (pV Qp)) (hdn : d < n) (hW : (S.map cat).sum ≤ 8) (kk : ∀ M2, Qp M2 → WP k G n post z pc2 L S M2) : WP k G n post z pc L (rv q :: S) M := r_callV hd hs hg hC rfl hdn hW (fun r M2 h => by obtain ⟨rfl, hb⟩ := h; exact kk M2 hb)
theorem r_cVV1 {k : MD} {G : List GD} {n : Nat} {post : Option PV → Mem → Prop} {z : ZZ} {pc pc2 : Nat} {L : List (Option PV)} {S : List PV} {M : Mem} {idx d ci q : Nat} {fs : List (Option Nat)} {y : MD} {x0 : PV} {Qp : Mem → Prop} (hd : Dk k pc (.invokevirtual idx) 3 pc2) (hs : Cv k.1.cls idx y 1 ci) (hg : G[q]? = some (.inl (ci, fs))) (hC : Con G d y (rv q :: [x0]) M (pV Qp)) (hdn : d < n) (hW : (S.map cat).sum ≤ 8) (kk : ∀ M2, Qp M2 → WP k G n post z pc2 L S M2) : WP k G n post z pc L (x0 :: rv q :: S) M := r_callV hd hs hg hC rfl hdn hW (fun r M2 h => by obtain ⟨rfl, hb⟩ := h; exact kk M2 hb)
theorem r_cVV2 {k : MD} {G : List GD} {n : Nat} {post : Option PV → Mem → Prop} {z : ZZ} {pc pc2 : Nat} {L : List (Option PV)} {S : List PV} {M : Mem} {idx d ci q : Nat} {fs : List (Option Nat)} {y : MD} {x0 x1 : PV} {Qp : Mem → Prop} (hd : Dk k pc (.invokevirtual idx) 3 pc2) (hs : Cv k.1.cls idx y 2 ci) (hg : G[q]? = some (.inl (ci, fs))) (hC : Con G d y (rv q :: [x0, x1]) M (pV Qp)) (hdn : d < n) (hW : (S.map cat).sum ≤ 8) (kk : ∀ M2, Qp M2 → WP k G n post z pc2 L S M2) : WP k G n post z pc L (x1 :: x0 :: rv q :: S) M := r_callV hd hs hg hC rfl hdn hW (fun r M2 h => by obtain ⟨rfl, hb⟩ := h; exact kk M2 hb)
theorem r_cVV3 {k : MD} {G : List GD} {n : Nat} {post : Option PV → Mem → Prop} {z : ZZ} {pc pc2 : Nat} {L : List (Option PV)} {S : List PV} {M : Mem} {idx d ci q : Nat} {fs : List (Option Nat)} {y : MD} {x0 x1 x2 : PV} {Qp : Mem → Prop} (hd : Dk k pc (.invokevirtual idx) 3 pc2) (hs : Cv k.1.cls idx y 3 ci) (hg : G[q]? = some (.inl (ci, fs))) (hC : Con G d y (rv q :: [x0, x1, x2]) M (pV Qp)) (hdn : d < n) (hW : (S.map cat).sum ≤ 8) (kk : ∀ M2, Qp M2 → WP k G n post z pc2 L S M2) : WP k G n post z pc L (x2 :: x1 :: x0 :: rv q :: S) M := r_callV hd hs hg hC rfl hdn hW (fun r M2 h => by obtain ⟨rfl, hb⟩ := h; exact kk M2 hb)
theorem r_cVV4 {k : MD} {G : List GD} {n : Nat} {post : Option PV → Mem → Prop} {z : ZZ} {pc pc2 : Nat} {L : List (Option PV)} {S : List PV} {M : Mem} {idx d ci q : Nat} {fs : List (Option Nat)} {y : MD} {x0 x1 x2 x3 : PV} {Qp : Mem → Prop} (hd : Dk k pc (.invokevirtual idx) 3 pc2) (hs : Cv k.1.cls idx y 4 ci) (hg : G[q]? = some (.inl (ci, fs))) (hC : Con G d y (rv q :: [x0, x1, x2, x3]) M (pV Qp)) (hdn : d < n) (hW : (S.map cat).sum ≤ 8) (kk : ∀ M2, Qp M2 → WP k G n post z pc2 L S M2) : WP k G n post z pc L (x3 :: x2 :: x1 :: x0 :: rv q :: S) M := r_callV hd hs hg hC rfl hdn hW (fun r M2 h => by obtain ⟨rfl, hb⟩ := h; exact kk M2 hb)
theorem r_ireturn {k : MD} {G : List GD} {n : Nat} {post : Option PV → Mem → Prop} {z : ZZ} {pc pc2 : Nat} {L : List (Option PV)} {M : Mem} {a : Int} (hd : Dk k pc (.ireturn) 1 pc2) (hr : k.2.2.2 = some .int) (hp : post (some (iv a)) M) : WP k G n post z pc L [iv a] M := by
  obtain ⟨p, l, e, s, m, args, below, meth, c, D, dA, adK, adV, ad⟩ := z
  obtain ⟨hd, -⟩ := hd
  intro C H locs ls B
  have hlocks : meth.locks = false := C.2.2.2.2.2.1
  refine W.iret C.1 C.2.1 (C.2.2.2.2.2.2.1.trans hr) (fun t ht hW => ?_) B.2.2.1.2.2 hd
  exact ⟨⟨some (iv a), M, rfl, hp, wo_pre B.1 B.2.1 B.2.2.1 C.K C.inj C.str ht hW⟩, B.2.2.1.F ht⟩
theorem r_zreturn {k : MD} {G : List GD} {n : Nat} {post : Option PV → Mem → Prop} {z : ZZ} {pc pc2 : Nat} {L : List (Option PV)} {M : Mem} {a : Int} (hd : Dk k pc (.ireturn) 1 pc2) (hr : k.2.2.2 = some .boolean) (hb : a = 0 ∨ a = 1) (hp : post (some (iv a)) M) : WP k G n post z pc L [iv a] M := by
  obtain ⟨p, l, e, s, m, args, below, meth, c, D, dA, adK, adV, ad⟩ := z
  obtain ⟨hd, -⟩ := hd
  intro C H locs ls B
  have hlocks : meth.locks = false := C.2.2.2.2.2.1
  refine W.zret (ty := .boolean) C.1 C.2.1 (C.2.2.2.2.2.2.1.trans hr) (by rcases hb with rfl | rfl <;> rfl) (fun t ht hW => ?_) B.2.2.1.2.2 hd
  exact ⟨⟨some (iv a), M, rfl, hp, wo_pre B.1 B.2.1 B.2.2.1 C.K C.inj C.str ht hW⟩, B.2.2.1.F ht⟩
theorem r_lreturn {k : MD} {G : List GD} {n : Nat} {post : Option PV → Mem → Prop} {z : ZZ} {pc pc2 : Nat} {L : List (Option PV)} {M : Mem} {a : Int} (hd : Dk k pc (.lreturn) 1 pc2) (hr : k.2.2.2 = some .long) (hp : post (some (jv a)) M) : WP k G n post z pc L [jv a] M := by
  obtain ⟨p, l, e, s, m, args, below, meth, c, D, dA, adK, adV, ad⟩ := z
  obtain ⟨hd, -⟩ := hd
  intro C H locs ls B
  have hlocks : meth.locks = false := C.2.2.2.2.2.1
  refine W.lret C.1 C.2.1 (C.2.2.2.2.2.2.1.trans hr) (fun t ht hW => ?_) B.2.2.1.2.2 hd
  exact ⟨⟨some (jv a), M, rfl, hp, wo_pre B.1 B.2.1 B.2.2.1 C.K C.inj C.str ht hW⟩, B.2.2.1.F ht⟩
theorem r_vreturn {k : MD} {G : List GD} {n : Nat} {post : Option PV → Mem → Prop} {z : ZZ} {pc pc2 : Nat} {L : List (Option PV)} {M : Mem} (hd : Dk k pc (.return_) 1 pc2) (hr : k.2.2.2 = none) (hp : post (none) M) : WP k G n post z pc L [] M := by
  obtain ⟨p, l, e, s, m, args, below, meth, c, D, dA, adK, adV, ad⟩ := z
  obtain ⟨hd, -⟩ := hd
  intro C H locs ls B
  have hlocks : meth.locks = false := C.2.2.2.2.2.1
  refine W.vret C.1 C.2.1 (C.2.2.2.2.2.2.1.trans hr) (fun t ht hW => ?_) B.2.2.1.2.2 hd
  exact ⟨⟨none, M, rfl, hp, wo_pre B.1 B.2.1 B.2.2.1 C.K C.inj C.str ht hW⟩, B.2.2.1.F ht⟩
theorem lg_c (v : Value) (vs : List Value) : (lg_sl (v :: vs)).length = (if v.category = 2 then 2 else 1) + (lg_sl vs).length := by
  simp only [lg_sl, List.flatMap_cons, List.length_append]
  split <;> rfl
theorem enL_len (ad : Nat → Nat) : ∀ As : List PV, (lg_sl (As.map (tv ad))).length = (enL As).length
  | [] => rfl
  | .inl a :: r => by
    rw [List.map_cons, lg_c, enL_len ad r]
    show (if (1 : Nat) = 2 then 2 else 1) + _ = (some _ :: enL r).length
    rw [List.length_cons]
    simp only [Nat.reduceEqDiff, if_false]
    omega
  | .inr (.inl a) :: r => by
    rw [List.map_cons, lg_c, enL_len ad r]
    show (if (2 : Nat) = 2 then 2 else 1) + _ = (some _ :: none :: enL r).length
    rw [List.length_cons, List.length_cons]
    simp only [if_true]
    omega
  | .inr (.inr a) :: r => by
    rw [List.map_cons, lg_c, enL_len ad r]
    show (if (1 : Nat) = 2 then 2 else 1) + _ = (some _ :: enL r).length
    rw [List.length_cons]
    simp only [Nat.reduceEqDiff, if_false]
    omega
theorem enL_at (ad : Nat → Nat) : ∀ (As : List PV) (b i : Nat) (v : PV), (enL As)[i]? = some (some v) → (b + i, tv ad v) ∈ lv_args b (As.map (tv ad))
  | [], b, i, v, h => by simp [enL] at h
  | .inl a :: r, b, i, v, h => by
    cases i with
    | zero => simp [enL] at h; subst h; simp [lv_args]
    | succ i =>
      simp only [enL, List.getElem?_cons_succ] at h
      have := enL_at ad r (b + 1) i v h
      simp only [List.map_cons, lv_args, tv, Value.category]
      refine List.mem_cons_of_mem _ ?_
      rw [show b + (i + 1) = b + 1 + i by omega]
      exact this
  | .inr (.inl a) :: r, b, i, v, h => by
    match i, h with
    | 0, h => simp [enL] at h; subst h; simp [lv_args]
    | 1, h => simp [enL] at h
    | i + 2, h =>
      simp only [enL, List.getElem?_cons_succ] at h
      have := enL_at ad r (b + 2) i v h
      simp only [List.map_cons, lv_args, tv, Value.category]
      refine List.mem_cons_of_mem _ ?_
      rw [show b + (i + 2) = b + 2 + i by omega]
      exact this
  | .inr (.inr a) :: r, b, i, v, h => by
    cases i with
    | zero => simp [enL] at h; subst h; simp [lv_args]
    | succ i =>
      simp only [enL, List.getElem?_cons_succ] at h
      have := enL_at ad r (b + 1) i v h
      simp only [List.map_cons, lv_args, tv, Value.category]
      refine List.mem_cons_of_mem _ ?_
      rw [show b + (i + 1) = b + 1 + i by omega]
      exact this
theorem con_of {k : MD} {G : List GD} {d : Nat} {As : List PV} {M : Mem} {post : Option PV → Mem → Prop} (L : List (Option PV)) (hpl : plainName k.1.cls = true) (hL : enL As ++ List.replicate (k.2.2.1 - (enL As).length) none = L) (hlen : (enL As).length ≤ k.2.2.1) (h : ∀ z, WP k G d post z 0 L [] M) : Con G d k As M post := by
  intro l D dA adK adV ad
  refine Met.ofW (cc := k.2.1) (maxL := k.2.2.1) (ret := k.2.2.2) hpl rfl ?_
  intro p e s m args below meth c s₁ B hml hv
  obtain ⟨rfl, hP, hM, hK, hA, hS⟩ := hv
  have hts := atoms_spec (ws := Cond.code k.1 k.2.1 k.2.2.1 k.2.2.2 :: q_tbl) B.pre
  have hl := lv_entry (As.map (tv ad)) (n := k.2.2.1) (by rw [enL_len]; exact hlen)
  rw [lg_entry_eq]
  refine h (p, l, e, s, m, _, below, meth, c, D, dA, adK, adV, ad) ⟨B.exec, B.bytes, hml, findClass_of_methodNamed B.named, fun w hw => hts w (List.mem_cons_of_mem _ hw), B.notSynchronized, B.returns, hK, hA, hS⟩ s.heap [] _ ⟨hP, hM, va_S.rf, hl.1, ?_, hl.2.1, fun i v hi => ?_⟩
  · rw [← hL, List.length_append, List.length_replicate]
    omega
  · refine hl.2.2 (i, tv ad v) ?_
    rw [← hL] at hi
    have := enL_at ad As 0 i v (by
      by_cases q : i < (enL As).length
      · rwa [List.getElem?_append_left q] at hi
      · rw [List.getElem?_append_right (by omega)] at hi
        have := List.eq_of_mem_replicate (List.mem_of_getElem? hi)
        cases this)
    simpa using this
theorem Con.mono {G : List GD} {d : Nat} {k : MD} {As : List PV} {M : Mem} {p1 p2 : Option PV → Mem → Prop} (h : Con G d k As M p1) (hp : ∀ r M2, p1 r M2 → p2 r M2) : Con G d k As M p2 := by
  intro l D dA adK adV ad p e ha hc hk s m args below hf happ hpre htr
  obtain ⟨kk, o, h1, h2, h3, ⟨⟨r, M2, g1, g2, g3⟩, hF⟩, hL⟩ := h l D dA adK adV ad p e ha hc hk s m args below hf happ hpre htr
  exact ⟨kk, o, h1, h2, h3, ⟨⟨r, M2, g1, hp r M2 g2, g3⟩, hF⟩, hL⟩
end
