-- ===== PART A: goes FIRST, ahead of the names: the tables' words, and 'selects' of the private methods out of them =====
/-- a private method of a class that the tables say can be made, by its rows of tables_1 -/
def lw_okq (q : MethodName × Nat) : Prop := (q.1.cls ≠ "java/lang/invoke/MethodHandle" ∧ q.1.cls ≠ "java/lang/invoke/VarHandle") ∧ Cond.instantiable q.1.cls q.2 ∈ tables_1 ∧ Cond.privateMethod q.1 ∈ tables_1 ∧ Cond.instanceMethod q.1 ∈ tables_1
theorem lw_p0 : lw_okq (⟨"RemontoirClock$Winders", "copyWinder", "(LRemontoirClock$Winders;II)V"⟩, 6) := ⟨⟨by decide +kernel, by decide +kernel⟩, List.mem_of_getElem? (i := 55) (by decide +kernel), List.mem_of_getElem? (i := 281) (by decide +kernel), List.mem_of_getElem? (i := 282) (by decide +kernel)⟩
theorem lw_p1 : lw_okq (⟨"RemontoirClock$Reader", "readsWeight", "(C)Z"⟩, 4) := ⟨⟨by decide +kernel, by decide +kernel⟩, List.mem_of_getElem? (i := 210) (by decide +kernel), List.mem_of_getElem? (i := 317) (by decide +kernel), List.mem_of_getElem? (i := 318) (by decide +kernel)⟩
theorem lw_p2 : lw_okq (⟨"RemontoirClock$Reader", "readsTurns", "(C)Z"⟩, 4) := ⟨⟨by decide +kernel, by decide +kernel⟩, List.mem_of_getElem? (i := 210) (by decide +kernel), List.mem_of_getElem? (i := 324) (by decide +kernel), List.mem_of_getElem? (i := 325) (by decide +kernel)⟩
theorem lw_p3 : lw_okq (⟨"RemontoirClock$Reader", "readsPeriod", "(C)Z"⟩, 4) := ⟨⟨by decide +kernel, by decide +kernel⟩, List.mem_of_getElem? (i := 210) (by decide +kernel), List.mem_of_getElem? (i := 331) (by decide +kernel), List.mem_of_getElem? (i := 332) (by decide +kernel)⟩
theorem lw_p4 : lw_okq (⟨"RemontoirClock$State", "passUpToDebts", "()V"⟩, 16) := ⟨⟨by decide +kernel, by decide +kernel⟩, List.mem_of_getElem? (i := 28) (by decide +kernel), List.mem_of_getElem? (i := 344) (by decide +kernel), List.mem_of_getElem? (i := 345) (by decide +kernel)⟩
theorem lw_p5 : lw_okq (⟨"RemontoirClock$State", "letWinderCome", "()V"⟩, 16) := ⟨⟨by decide +kernel, by decide +kernel⟩, List.mem_of_getElem? (i := 28) (by decide +kernel), List.mem_of_getElem? (i := 348) (by decide +kernel), List.mem_of_getElem? (i := 349) (by decide +kernel)⟩
theorem lw_p6 : lw_okq (⟨"RemontoirClock$State", "areStrikersKeptOut", "()Z"⟩, 16) := ⟨⟨by decide +kernel, by decide +kernel⟩, List.mem_of_getElem? (i := 28) (by decide +kernel), List.mem_of_getElem? (i := 352) (by decide +kernel), List.mem_of_getElem? (i := 353) (by decide +kernel)⟩
theorem lw_p7 : lw_okq (⟨"RemontoirClock$State", "moveHands", "()Z"⟩, 16) := ⟨⟨by decide +kernel, by decide +kernel⟩, List.mem_of_getElem? (i := 28) (by decide +kernel), List.mem_of_getElem? (i := 376) (by decide +kernel), List.mem_of_getElem? (i := 377) (by decide +kernel)⟩
theorem lw_p8 : lw_okq (⟨"RemontoirClock$State", "isSlippery", "()Z"⟩, 16) := ⟨⟨by decide +kernel, by decide +kernel⟩, List.mem_of_getElem? (i := 28) (by decide +kernel), List.mem_of_getElem? (i := 380) (by decide +kernel), List.mem_of_getElem? (i := 381) (by decide +kernel)⟩
theorem lw_p9 : lw_okq (⟨"RemontoirClock$State", "slip", "()V"⟩, 16) := ⟨⟨by decide +kernel, by decide +kernel⟩, List.mem_of_getElem? (i := 28) (by decide +kernel), List.mem_of_getElem? (i := 384) (by decide +kernel), List.mem_of_getElem? (i := 385) (by decide +kernel)⟩
theorem lw_p10 : lw_okq (⟨"RemontoirClock$State", "chime", "()V"⟩, 16) := ⟨⟨by decide +kernel, by decide +kernel⟩, List.mem_of_getElem? (i := 28) (by decide +kernel), List.mem_of_getElem? (i := 388) (by decide +kernel), List.mem_of_getElem? (i := 389) (by decide +kernel)⟩
theorem lw_p11 : lw_okq (⟨"RemontoirClock$State", "hourShown", "()I"⟩, 16) := ⟨⟨by decide +kernel, by decide +kernel⟩, List.mem_of_getElem? (i := 28) (by decide +kernel), List.mem_of_getElem? (i := 396) (by decide +kernel), List.mem_of_getElem? (i := 397) (by decide +kernel)⟩
theorem lw_p12 : lw_okq (⟨"RemontoirClock$State", "owe", "()V"⟩, 16) := ⟨⟨by decide +kernel, by decide +kernel⟩, List.mem_of_getElem? (i := 28) (by decide +kernel), List.mem_of_getElem? (i := 401) (by decide +kernel), List.mem_of_getElem? (i := 402) (by decide +kernel)⟩
theorem lw_p13 : lw_okq (⟨"RemontoirClock$State", "strike", "()V"⟩, 16) := ⟨⟨by decide +kernel, by decide +kernel⟩, List.mem_of_getElem? (i := 28) (by decide +kernel), List.mem_of_getElem? (i := 413) (by decide +kernel), List.mem_of_getElem? (i := 414) (by decide +kernel)⟩
theorem lw_p14 : lw_okq (⟨"RemontoirClock", "hashOfParts", "(J)J"⟩, 5) := ⟨⟨by decide +kernel, by decide +kernel⟩, List.mem_of_getElem? (i := 20) (by decide +kernel), List.mem_of_getElem? (i := 443) (by decide +kernel), List.mem_of_getElem? (i := 444) (by decide +kernel)⟩
theorem lw_p15 : lw_okq (⟨"java/lang/Throwable", "fillInStackTrace", "(I)Ljava/lang/Throwable;"⟩, 6) := ⟨⟨by decide +kernel, by decide +kernel⟩, List.mem_of_getElem? (i := 491) (by decide +kernel), List.mem_of_getElem? (i := 489) (by decide +kernel), List.mem_of_getElem? (i := 490) (by decide +kernel)⟩
def lw_privs_1 : List (MethodName × Nat) := [(⟨"RemontoirClock$Winders", "copyWinder", "(LRemontoirClock$Winders;II)V"⟩, 6), (⟨"RemontoirClock$Reader", "readsWeight", "(C)Z"⟩, 4), (⟨"RemontoirClock$Reader", "readsTurns", "(C)Z"⟩, 4), (⟨"RemontoirClock$Reader", "readsPeriod", "(C)Z"⟩, 4), (⟨"RemontoirClock$State", "passUpToDebts", "()V"⟩, 16), (⟨"RemontoirClock$State", "letWinderCome", "()V"⟩, 16), (⟨"RemontoirClock$State", "areStrikersKeptOut", "()Z"⟩, 16), (⟨"RemontoirClock$State", "moveHands", "()Z"⟩, 16), (⟨"RemontoirClock$State", "isSlippery", "()Z"⟩, 16), (⟨"RemontoirClock$State", "slip", "()V"⟩, 16), (⟨"RemontoirClock$State", "chime", "()V"⟩, 16), (⟨"RemontoirClock$State", "hourShown", "()I"⟩, 16), (⟨"RemontoirClock$State", "owe", "()V"⟩, 16), (⟨"RemontoirClock$State", "strike", "()V"⟩, 16), (⟨"RemontoirClock", "hashOfParts", "(J)J"⟩, 5), (⟨"java/lang/Throwable", "fillInStackTrace", "(I)Ljava/lang/Throwable;"⟩, 6)]
theorem lw_r1 : ∀ q ∈ lw_privs_1, lw_okq q := List.forall_mem_cons.mpr ⟨lw_p0, List.forall_mem_cons.mpr ⟨lw_p1, List.forall_mem_cons.mpr ⟨lw_p2, List.forall_mem_cons.mpr ⟨lw_p3, List.forall_mem_cons.mpr ⟨lw_p4, List.forall_mem_cons.mpr ⟨lw_p5, List.forall_mem_cons.mpr ⟨lw_p6, List.forall_mem_cons.mpr ⟨lw_p7, List.forall_mem_cons.mpr ⟨lw_p8, List.forall_mem_cons.mpr ⟨lw_p9, List.forall_mem_cons.mpr ⟨lw_p10, List.forall_mem_cons.mpr ⟨lw_p11, List.forall_mem_cons.mpr ⟨lw_p12, List.forall_mem_cons.mpr ⟨lw_p13, List.forall_mem_cons.mpr ⟨lw_p14, List.forall_mem_cons.mpr ⟨lw_p15, fun _ h => absurd h List.not_mem_nil⟩⟩⟩⟩⟩⟩⟩⟩⟩⟩⟩⟩⟩⟩⟩⟩
theorem lw_p16 : lw_okq (⟨"RemontoirClock", "requireWinder", "(I)V"⟩, 5) := ⟨⟨by decide +kernel, by decide +kernel⟩, List.mem_of_getElem? (i := 20) (by decide +kernel), List.mem_of_getElem? (i := 561) (by decide +kernel), List.mem_of_getElem? (i := 562) (by decide +kernel)⟩
theorem lw_p17 : lw_okq (⟨"RemontoirClock", "noteGoingRounds", "(I)I"⟩, 5) := ⟨⟨by decide +kernel, by decide +kernel⟩, List.mem_of_getElem? (i := 20) (by decide +kernel), List.mem_of_getElem? (i := 618) (by decide +kernel), List.mem_of_getElem? (i := 619) (by decide +kernel)⟩
theorem lw_p18 : lw_okq (⟨"RemontoirClock", "goesOnFor", "(II)Z"⟩, 5) := ⟨⟨by decide +kernel, by decide +kernel⟩, List.mem_of_getElem? (i := 20) (by decide +kernel), List.mem_of_getElem? (i := 626) (by decide +kernel), List.mem_of_getElem? (i := 627) (by decide +kernel)⟩
theorem lw_p19 : lw_okq (⟨"RemontoirClock", "hashOfText", "(J)J"⟩, 5) := ⟨⟨by decide +kernel, by decide +kernel⟩, List.mem_of_getElem? (i := 20) (by decide +kernel), List.mem_of_getElem? (i := 641) (by decide +kernel), List.mem_of_getElem? (i := 642) (by decide +kernel)⟩
theorem lw_p20 : lw_okq (⟨"RemontoirClockModel", "save", "()V"⟩, 11) := ⟨⟨by decide +kernel, by decide +kernel⟩, List.mem_of_getElem? (i := 817) (by decide +kernel), List.mem_of_getElem? (i := 874) (by decide +kernel), List.mem_of_getElem? (i := 875) (by decide +kernel)⟩
theorem lw_p21 : lw_okq (⟨"RemontoirClockModel", "winds", "(II)I"⟩, 11) := ⟨⟨by decide +kernel, by decide +kernel⟩, List.mem_of_getElem? (i := 817) (by decide +kernel), List.mem_of_getElem? (i := 878) (by decide +kernel), List.mem_of_getElem? (i := 879) (by decide +kernel)⟩
theorem lw_p22 : lw_okq (⟨"RemontoirClockModel", "owed", "()I"⟩, 11) := ⟨⟨by decide +kernel, by decide +kernel⟩, List.mem_of_getElem? (i := 817) (by decide +kernel), List.mem_of_getElem? (i := 908) (by decide +kernel), List.mem_of_getElem? (i := 909) (by decide +kernel)⟩
theorem lw_p23 : lw_okq (⟨"RemontoirClockModel", "comes", "(III)V"⟩, 11) := ⟨⟨by decide +kernel, by decide +kernel⟩, List.mem_of_getElem? (i := 817) (by decide +kernel), List.mem_of_getElem? (i := 919) (by decide +kernel), List.mem_of_getElem? (i := 920) (by decide +kernel)⟩
theorem lw_p24 : lw_okq (⟨"RemontoirClockModel", "isWinder", "(I)Z"⟩, 11) := ⟨⟨by decide +kernel, by decide +kernel⟩, List.mem_of_getElem? (i := 817) (by decide +kernel), List.mem_of_getElem? (i := 930) (by decide +kernel), List.mem_of_getElem? (i := 931) (by decide +kernel)⟩
theorem lw_p25 : lw_okq (⟨"RemontoirClockModel", "goOn", "(I)V"⟩, 11) := ⟨⟨by decide +kernel, by decide +kernel⟩, List.mem_of_getElem? (i := 817) (by decide +kernel), List.mem_of_getElem? (i := 938) (by decide +kernel), List.mem_of_getElem? (i := 939) (by decide +kernel)⟩
theorem lw_p26 : lw_okq (⟨"RemontoirClockModel", "minute", "()Z"⟩, 11) := ⟨⟨by decide +kernel, by decide +kernel⟩, List.mem_of_getElem? (i := 817) (by decide +kernel), List.mem_of_getElem? (i := 942) (by decide +kernel), List.mem_of_getElem? (i := 943) (by decide +kernel)⟩
theorem lw_p27 : lw_okq (⟨"RemontoirClockModel", "firstParts", "()I"⟩, 11) := ⟨⟨by decide +kernel, by decide +kernel⟩, List.mem_of_getElem? (i := 817) (by decide +kernel), List.mem_of_getElem? (i := 946) (by decide +kernel), List.mem_of_getElem? (i := 947) (by decide +kernel)⟩
theorem lw_p28 : lw_okq (⟨"RemontoirClockModel", "partOne", "()V"⟩, 11) := ⟨⟨by decide +kernel, by decide +kernel⟩, List.mem_of_getElem? (i := 817) (by decide +kernel), List.mem_of_getElem? (i := 950) (by decide +kernel), List.mem_of_getElem? (i := 951) (by decide +kernel)⟩
theorem lw_p29 : lw_okq (⟨"RemontoirClockModel", "comer", "()I"⟩, 11) := ⟨⟨by decide +kernel, by decide +kernel⟩, List.mem_of_getElem? (i := 817) (by decide +kernel), List.mem_of_getElem? (i := 954) (by decide +kernel), List.mem_of_getElem? (i := 955) (by decide +kernel)⟩
theorem lw_p30 : lw_okq (⟨"RemontoirClockModel", "isDue", "(I)Z"⟩, 11) := ⟨⟨by decide +kernel, by decide +kernel⟩, List.mem_of_getElem? (i := 817) (by decide +kernel), List.mem_of_getElem? (i := 958) (by decide +kernel), List.mem_of_getElem? (i := 959) (by decide +kernel)⟩
theorem lw_p31 : lw_okq (⟨"RemontoirClockModel", "isKept", "(I)Z"⟩, 11) := ⟨⟨by decide +kernel, by decide +kernel⟩, List.mem_of_getElem? (i := 817) (by decide +kernel), List.mem_of_getElem? (i := 962) (by decide +kernel), List.mem_of_getElem? (i := 963) (by decide +kernel)⟩
def lw_privs_2 : List (MethodName × Nat) := [(⟨"RemontoirClock", "requireWinder", "(I)V"⟩, 5), (⟨"RemontoirClock", "noteGoingRounds", "(I)I"⟩, 5), (⟨"RemontoirClock", "goesOnFor", "(II)Z"⟩, 5), (⟨"RemontoirClock", "hashOfText", "(J)J"⟩, 5), (⟨"RemontoirClockModel", "save", "()V"⟩, 11), (⟨"RemontoirClockModel", "winds", "(II)I"⟩, 11), (⟨"RemontoirClockModel", "owed", "()I"⟩, 11), (⟨"RemontoirClockModel", "comes", "(III)V"⟩, 11), (⟨"RemontoirClockModel", "isWinder", "(I)Z"⟩, 11), (⟨"RemontoirClockModel", "goOn", "(I)V"⟩, 11), (⟨"RemontoirClockModel", "minute", "()Z"⟩, 11), (⟨"RemontoirClockModel", "firstParts", "()I"⟩, 11), (⟨"RemontoirClockModel", "partOne", "()V"⟩, 11), (⟨"RemontoirClockModel", "comer", "()I"⟩, 11), (⟨"RemontoirClockModel", "isDue", "(I)Z"⟩, 11), (⟨"RemontoirClockModel", "isKept", "(I)Z"⟩, 11)]
theorem lw_r2 : ∀ q ∈ lw_privs_2, lw_okq q := List.forall_mem_cons.mpr ⟨lw_p16, List.forall_mem_cons.mpr ⟨lw_p17, List.forall_mem_cons.mpr ⟨lw_p18, List.forall_mem_cons.mpr ⟨lw_p19, List.forall_mem_cons.mpr ⟨lw_p20, List.forall_mem_cons.mpr ⟨lw_p21, List.forall_mem_cons.mpr ⟨lw_p22, List.forall_mem_cons.mpr ⟨lw_p23, List.forall_mem_cons.mpr ⟨lw_p24, List.forall_mem_cons.mpr ⟨lw_p25, List.forall_mem_cons.mpr ⟨lw_p26, List.forall_mem_cons.mpr ⟨lw_p27, List.forall_mem_cons.mpr ⟨lw_p28, List.forall_mem_cons.mpr ⟨lw_p29, List.forall_mem_cons.mpr ⟨lw_p30, List.forall_mem_cons.mpr ⟨lw_p31, fun _ h => absurd h List.not_mem_nil⟩⟩⟩⟩⟩⟩⟩⟩⟩⟩⟩⟩⟩⟩⟩⟩
theorem lw_p32 : lw_okq (⟨"RemontoirClockModel", "partTwo", "()V"⟩, 11) := ⟨⟨by decide +kernel, by decide +kernel⟩, List.mem_of_getElem? (i := 817) (by decide +kernel), List.mem_of_getElem? (i := 966) (by decide +kernel), List.mem_of_getElem? (i := 967) (by decide +kernel)⟩
theorem lw_p33 : lw_okq (⟨"RemontoirClockModel", "takes", "(II)V"⟩, 11) := ⟨⟨by decide +kernel, by decide +kernel⟩, List.mem_of_getElem? (i := 817) (by decide +kernel), List.mem_of_getElem? (i := 970) (by decide +kernel), List.mem_of_getElem? (i := 971) (by decide +kernel)⟩
theorem lw_p34 : lw_okq (⟨"RemontoirClockModel", "partThree", "()I"⟩, 11) := ⟨⟨by decide +kernel, by decide +kernel⟩, List.mem_of_getElem? (i := 817) (by decide +kernel), List.mem_of_getElem? (i := 974) (by decide +kernel), List.mem_of_getElem? (i := 975) (by decide +kernel)⟩
theorem lw_p35 : lw_okq (⟨"RemontoirClockModel", "partFour", "()V"⟩, 11) := ⟨⟨by decide +kernel, by decide +kernel⟩, List.mem_of_getElem? (i := 817) (by decide +kernel), List.mem_of_getElem? (i := 978) (by decide +kernel), List.mem_of_getElem? (i := 979) (by decide +kernel)⟩
theorem lw_p36 : lw_okq (⟨"RemontoirClockModel", "isSilent", "()Z"⟩, 11) := ⟨⟨by decide +kernel, by decide +kernel⟩, List.mem_of_getElem? (i := 817) (by decide +kernel), List.mem_of_getElem? (i := 982) (by decide +kernel), List.mem_of_getElem? (i := 983) (by decide +kernel)⟩
theorem lw_p37 : lw_okq (⟨"RemontoirClockModel", "partFive", "()V"⟩, 11) := ⟨⟨by decide +kernel, by decide +kernel⟩, List.mem_of_getElem? (i := 817) (by decide +kernel), List.mem_of_getElem? (i := 989) (by decide +kernel), List.mem_of_getElem? (i := 990) (by decide +kernel)⟩
theorem lw_p38 : lw_okq (⟨"RemontoirClockModel", "dropDebt", "()V"⟩, 11) := ⟨⟨by decide +kernel, by decide +kernel⟩, List.mem_of_getElem? (i := 817) (by decide +kernel), List.mem_of_getElem? (i := 993) (by decide +kernel), List.mem_of_getElem? (i := 994) (by decide +kernel)⟩
theorem lw_p39 : lw_okq (⟨"RemontoirClockModel", "partSix", "()V"⟩, 11) := ⟨⟨by decide +kernel, by decide +kernel⟩, List.mem_of_getElem? (i := 817) (by decide +kernel), List.mem_of_getElem? (i := 997) (by decide +kernel), List.mem_of_getElem? (i := 998) (by decide +kernel)⟩
theorem lw_p40 : lw_okq (⟨"RemontoirClockModel", "rightUpTo", "()I"⟩, 11) := ⟨⟨by decide +kernel, by decide +kernel⟩, List.mem_of_getElem? (i := 817) (by decide +kernel), List.mem_of_getElem? (i := 1013) (by decide +kernel), List.mem_of_getElem? (i := 1014) (by decide +kernel)⟩
theorem lw_p41 : lw_okq (⟨"RemontoirClockModel", "takes", "(I)Z"⟩, 11) := ⟨⟨by decide +kernel, by decide +kernel⟩, List.mem_of_getElem? (i := 817) (by decide +kernel), List.mem_of_getElem? (i := 1017) (by decide +kernel), List.mem_of_getElem? (i := 1018) (by decide +kernel)⟩
theorem lw_p42 : lw_okq (⟨"RemontoirClockModel", "takesLetter", "(I)Z"⟩, 11) := ⟨⟨by decide +kernel, by decide +kernel⟩, List.mem_of_getElem? (i := 817) (by decide +kernel), List.mem_of_getElem? (i := 1021) (by decide +kernel), List.mem_of_getElem? (i := 1022) (by decide +kernel)⟩
theorem lw_p43 : lw_okq (⟨"RemontoirClockModel", "takesDigit", "(I)Z"⟩, 11) := ⟨⟨by decide +kernel, by decide +kernel⟩, List.mem_of_getElem? (i := 817) (by decide +kernel), List.mem_of_getElem? (i := 1025) (by decide +kernel), List.mem_of_getElem? (i := 1026) (by decide +kernel)⟩
theorem lw_p44 : lw_okq (⟨"RemontoirClockModel", "weightNow", "(II)I"⟩, 11) := ⟨⟨by decide +kernel, by decide +kernel⟩, List.mem_of_getElem? (i := 817) (by decide +kernel), List.mem_of_getElem? (i := 1041) (by decide +kernel), List.mem_of_getElem? (i := 1042) (by decide +kernel)⟩
theorem lw_p45 : lw_okq (⟨"RemontoirClockModel", "winderNow", "(II)I"⟩, 11) := ⟨⟨by decide +kernel, by decide +kernel⟩, List.mem_of_getElem? (i := 817) (by decide +kernel), List.mem_of_getElem? (i := 1049) (by decide +kernel), List.mem_of_getElem? (i := 1050) (by decide +kernel)⟩
theorem lw_p46 : lw_okq (⟨"RemontoirClockModel", "counted", "(I)I"⟩, 11) := ⟨⟨by decide +kernel, by decide +kernel⟩, List.mem_of_getElem? (i := 817) (by decide +kernel), List.mem_of_getElem? (i := 1061) (by decide +kernel), List.mem_of_getElem? (i := 1062) (by decide +kernel)⟩
theorem lw_p47 : lw_okq (⟨"RemontoirClockModel", "whyNow", "(I)I"⟩, 11) := ⟨⟨by decide +kernel, by decide +kernel⟩, List.mem_of_getElem? (i := 817) (by decide +kernel), List.mem_of_getElem? (i := 1073) (by decide +kernel), List.mem_of_getElem? (i := 1074) (by decide +kernel)⟩
def lw_privs_3 : List (MethodName × Nat) := [(⟨"RemontoirClockModel", "partTwo", "()V"⟩, 11), (⟨"RemontoirClockModel", "takes", "(II)V"⟩, 11), (⟨"RemontoirClockModel", "partThree", "()I"⟩, 11), (⟨"RemontoirClockModel", "partFour", "()V"⟩, 11), (⟨"RemontoirClockModel", "isSilent", "()Z"⟩, 11), (⟨"RemontoirClockModel", "partFive", "()V"⟩, 11), (⟨"RemontoirClockModel", "dropDebt", "()V"⟩, 11), (⟨"RemontoirClockModel", "partSix", "()V"⟩, 11), (⟨"RemontoirClockModel", "rightUpTo", "()I"⟩, 11), (⟨"RemontoirClockModel", "takes", "(I)Z"⟩, 11), (⟨"RemontoirClockModel", "takesLetter", "(I)Z"⟩, 11), (⟨"RemontoirClockModel", "takesDigit", "(I)Z"⟩, 11), (⟨"RemontoirClockModel", "weightNow", "(II)I"⟩, 11), (⟨"RemontoirClockModel", "winderNow", "(II)I"⟩, 11), (⟨"RemontoirClockModel", "counted", "(I)I"⟩, 11), (⟨"RemontoirClockModel", "whyNow", "(I)I"⟩, 11)]
theorem lw_r3 : ∀ q ∈ lw_privs_3, lw_okq q := List.forall_mem_cons.mpr ⟨lw_p32, List.forall_mem_cons.mpr ⟨lw_p33, List.forall_mem_cons.mpr ⟨lw_p34, List.forall_mem_cons.mpr ⟨lw_p35, List.forall_mem_cons.mpr ⟨lw_p36, List.forall_mem_cons.mpr ⟨lw_p37, List.forall_mem_cons.mpr ⟨lw_p38, List.forall_mem_cons.mpr ⟨lw_p39, List.forall_mem_cons.mpr ⟨lw_p40, List.forall_mem_cons.mpr ⟨lw_p41, List.forall_mem_cons.mpr ⟨lw_p42, List.forall_mem_cons.mpr ⟨lw_p43, List.forall_mem_cons.mpr ⟨lw_p44, List.forall_mem_cons.mpr ⟨lw_p45, List.forall_mem_cons.mpr ⟨lw_p46, List.forall_mem_cons.mpr ⟨lw_p47, fun _ h => absurd h List.not_mem_nil⟩⟩⟩⟩⟩⟩⟩⟩⟩⟩⟩⟩⟩⟩⟩⟩
theorem lw_p48 : lw_okq (⟨"RemontoirClockModel", "dueMany", "()I"⟩, 11) := ⟨⟨by decide +kernel, by decide +kernel⟩, List.mem_of_getElem? (i := 817) (by decide +kernel), List.mem_of_getElem? (i := 1077) (by decide +kernel), List.mem_of_getElem? (i := 1078) (by decide +kernel)⟩
theorem lw_p49 : lw_okq (⟨"RemontoirClockModel", "layAside", "()V"⟩, 11) := ⟨⟨by decide +kernel, by decide +kernel⟩, List.mem_of_getElem? (i := 817) (by decide +kernel), List.mem_of_getElem? (i := 1081) (by decide +kernel), List.mem_of_getElem? (i := 1082) (by decide +kernel)⟩
theorem lw_p50 : lw_okq (⟨"RemontoirClockModel", "whyNoStroke", "()I"⟩, 11) := ⟨⟨by decide +kernel, by decide +kernel⟩, List.mem_of_getElem? (i := 817) (by decide +kernel), List.mem_of_getElem? (i := 1085) (by decide +kernel), List.mem_of_getElem? (i := 1086) (by decide +kernel)⟩
theorem lw_p51 : lw_okq (⟨"RemontoirClockModel", "layBack", "()V"⟩, 11) := ⟨⟨by decide +kernel, by decide +kernel⟩, List.mem_of_getElem? (i := 817) (by decide +kernel), List.mem_of_getElem? (i := 1089) (by decide +kernel), List.mem_of_getElem? (i := 1090) (by decide +kernel)⟩
theorem lw_p52 : lw_okq (⟨"RemontoirClockModel", "passed", "(II)I"⟩, 11) := ⟨⟨by decide +kernel, by decide +kernel⟩, List.mem_of_getElem? (i := 817) (by decide +kernel), List.mem_of_getElem? (i := 1097) (by decide +kernel), List.mem_of_getElem? (i := 1098) (by decide +kernel)⟩
theorem lw_p53 : lw_okq (⟨"RemontoirClockModel", "toldNow", "(I)I"⟩, 11) := ⟨⟨by decide +kernel, by decide +kernel⟩, List.mem_of_getElem? (i := 817) (by decide +kernel), List.mem_of_getElem? (i := 1101) (by decide +kernel), List.mem_of_getElem? (i := 1102) (by decide +kernel)⟩
theorem lw_p54 : lw_okq (⟨"RemontoirClockModel", "standing", "()I"⟩, 11) := ⟨⟨by decide +kernel, by decide +kernel⟩, List.mem_of_getElem? (i := 817) (by decide +kernel), List.mem_of_getElem? (i := 1109) (by decide +kernel), List.mem_of_getElem? (i := 1110) (by decide +kernel)⟩
theorem lw_p55 : lw_okq (⟨"RemontoirClockModel", "paid", "()I"⟩, 11) := ⟨⟨by decide +kernel, by decide +kernel⟩, List.mem_of_getElem? (i := 817) (by decide +kernel), List.mem_of_getElem? (i := 1117) (by decide +kernel), List.mem_of_getElem? (i := 1118) (by decide +kernel)⟩
theorem lw_p56 : lw_okq (⟨"RemontoirClockModel", "least", "(I)I"⟩, 11) := ⟨⟨by decide +kernel, by decide +kernel⟩, List.mem_of_getElem? (i := 817) (by decide +kernel), List.mem_of_getElem? (i := 1125) (by decide +kernel), List.mem_of_getElem? (i := 1126) (by decide +kernel)⟩
theorem lw_p57 : lw_okq (⟨"RemontoirClockModel", "goesOn", "(II)Z"⟩, 11) := ⟨⟨by decide +kernel, by decide +kernel⟩, List.mem_of_getElem? (i := 817) (by decide +kernel), List.mem_of_getElem? (i := 1129) (by decide +kernel), List.mem_of_getElem? (i := 1130) (by decide +kernel)⟩
theorem lw_p58 : lw_okq (⟨"RemontoirClockModel", "firstDown", "()I"⟩, 11) := ⟨⟨by decide +kernel, by decide +kernel⟩, List.mem_of_getElem? (i := 817) (by decide +kernel), List.mem_of_getElem? (i := 1137) (by decide +kernel), List.mem_of_getElem? (i := 1138) (by decide +kernel)⟩
theorem lw_p59 : lw_okq (⟨"RemontoirClockModel", "downNow", "()I"⟩, 11) := ⟨⟨by decide +kernel, by decide +kernel⟩, List.mem_of_getElem? (i := 817) (by decide +kernel), List.mem_of_getElem? (i := 1141) (by decide +kernel), List.mem_of_getElem? (i := 1142) (by decide +kernel)⟩
theorem lw_p60 : lw_okq (⟨"RemontoirClockModel", "lost", "()D"⟩, 11) := ⟨⟨by decide +kernel, by decide +kernel⟩, List.mem_of_getElem? (i := 817) (by decide +kernel), List.mem_of_getElem? (i := 1149) (by decide +kernel), List.mem_of_getElem? (i := 1150) (by decide +kernel)⟩
theorem lw_p61 : lw_okq (⟨"RemontoirClockModel", "mix", "(J)V"⟩, 11) := ⟨⟨by decide +kernel, by decide +kernel⟩, List.mem_of_getElem? (i := 817) (by decide +kernel), List.mem_of_getElem? (i := 1158) (by decide +kernel), List.mem_of_getElem? (i := 1159) (by decide +kernel)⟩
def lw_privs_4 : List (MethodName × Nat) := [(⟨"RemontoirClockModel", "dueMany", "()I"⟩, 11), (⟨"RemontoirClockModel", "layAside", "()V"⟩, 11), (⟨"RemontoirClockModel", "whyNoStroke", "()I"⟩, 11), (⟨"RemontoirClockModel", "layBack", "()V"⟩, 11), (⟨"RemontoirClockModel", "passed", "(II)I"⟩, 11), (⟨"RemontoirClockModel", "toldNow", "(I)I"⟩, 11), (⟨"RemontoirClockModel", "standing", "()I"⟩, 11), (⟨"RemontoirClockModel", "paid", "()I"⟩, 11), (⟨"RemontoirClockModel", "least", "(I)I"⟩, 11), (⟨"RemontoirClockModel", "goesOn", "(II)Z"⟩, 11), (⟨"RemontoirClockModel", "firstDown", "()I"⟩, 11), (⟨"RemontoirClockModel", "downNow", "()I"⟩, 11), (⟨"RemontoirClockModel", "lost", "()D"⟩, 11), (⟨"RemontoirClockModel", "mix", "(J)V"⟩, 11)]
theorem lw_r4 : ∀ q ∈ lw_privs_4, lw_okq q := List.forall_mem_cons.mpr ⟨lw_p48, List.forall_mem_cons.mpr ⟨lw_p49, List.forall_mem_cons.mpr ⟨lw_p50, List.forall_mem_cons.mpr ⟨lw_p51, List.forall_mem_cons.mpr ⟨lw_p52, List.forall_mem_cons.mpr ⟨lw_p53, List.forall_mem_cons.mpr ⟨lw_p54, List.forall_mem_cons.mpr ⟨lw_p55, List.forall_mem_cons.mpr ⟨lw_p56, List.forall_mem_cons.mpr ⟨lw_p57, List.forall_mem_cons.mpr ⟨lw_p58, List.forall_mem_cons.mpr ⟨lw_p59, List.forall_mem_cons.mpr ⟨lw_p60, List.forall_mem_cons.mpr ⟨lw_p61, fun _ h => absurd h List.not_mem_nil⟩⟩⟩⟩⟩⟩⟩⟩⟩⟩⟩⟩⟩⟩
def lw_privs : List (MethodName × Nat) := lw_privs_1 ++ (lw_privs_2 ++ (lw_privs_3 ++ (lw_privs_4)))
def lw_tbl : List Cond := k2_sels lw_privs ++ tables_1
theorem lw_privs_ok : ∀ q ∈ lw_privs, lw_okq q := by
  show ∀ q ∈ lw_privs_1 ++ (lw_privs_2 ++ (lw_privs_3 ++ (lw_privs_4))), lw_okq q
  exact List.forall_mem_append.mpr ⟨lw_r1, List.forall_mem_append.mpr ⟨lw_r2, List.forall_mem_append.mpr ⟨lw_r3, lw_r4⟩⟩⟩
/-- the streams that the claim lets the run draw from -/
abbrev lw_cs : List Choice := [Jvm.Choice.named "NaN.bits"]
theorem lw_bits : nanBits ∈ lw_cs := by first | decide | exact List.mem_cons_self | simp [lw_cs, nanBits]
def RX0 : String := "RemontoirClock$Debts"
def TX0 : u_T := fun k => match k with
  | 0 => ("RemontoirClock$Debts", "size", "I", false)
  | 1 => ("RemontoirClock$Debts", "hour", "[I", true)
  | _ => ("RemontoirClock$Debts", "left", "[I", true)
def tyX0 : Nat → FieldType := fun k => match k with
  | 0 => .int
  | 1 => .array .int
  | _ => .array .int
abbrev wsX00 : List Cond := u_ws RX0 TX0 3
theorem nmX0 : ∀ a, a < 3 → ∀ b, b < 3 → a ≠ b → (TX0 a).2.1 ≠ (TX0 b).2.1 := by decide +kernel
theorem tyX0_ok : ∀ k, k < 3 → parseFieldDescriptor (TX0 k).2.2.1 = some (tyX0 k) := by decide +kernel
abbrev cX0_init : ByteArray := prog_2_method_1_code
def yX0_init : MethodName := ⟨RX0, "<init>", "()V"⟩
abbrev cX0_copyFrom : ByteArray := prog_2_method_2_code
def yX0_copyFrom : MethodName := ⟨RX0, "copyFrom", "(LRemontoirClock$Debts;)V"⟩
abbrev cX0_owed : ByteArray := prog_2_method_3_code
def yX0_owed : MethodName := ⟨RX0, "owed", "()I"⟩
abbrev cX0_add : ByteArray := prog_2_method_4_code
def yX0_add : MethodName := ⟨RX0, "add", "(I)V"⟩
abbrev cX0_payFirst : ByteArray := prog_2_method_5_code
def yX0_payFirst : MethodName := ⟨RX0, "payFirst", "(I)V"⟩
abbrev cX0_dropFirst : ByteArray := prog_2_method_6_code
def yX0_dropFirst : MethodName := ⟨RX0, "dropFirst", "()V"⟩
def RX1 : String := "RemontoirClock$History"
def TX1 : u_T := fun k => match k with
  | 0 => ("RemontoirClock$History", "size", "I", false)
  | 1 => ("RemontoirClock$History", "oldest", "I", false)
  | _ => ("RemontoirClock$History", "saved", "[LRemontoirClock$State;", true)
def tyX1 : Nat → FieldType := fun k => match k with
  | 0 => .int
  | 1 => .int
  | _ => .array (.object "RemontoirClock$State")
abbrev wsX10 : List Cond := u_ws RX1 TX1 3
theorem nmX1 : ∀ a, a < 3 → ∀ b, b < 3 → a ≠ b → (TX1 a).2.1 ≠ (TX1 b).2.1 := by decide +kernel
theorem tyX1_ok : ∀ k, k < 3 → parseFieldDescriptor (TX1 k).2.2.1 = some (tyX1 k) := by decide +kernel
abbrev cX1_init : ByteArray := prog_3_method_1_code
def yX1_init : MethodName := ⟨RX1, "<init>", "()V"⟩
abbrev cX1_keep : ByteArray := prog_3_method_2_code
def yX1_keep : MethodName := ⟨RX1, "keep", "(LRemontoirClock$State;)V"⟩
abbrev cX1_giveBack : ByteArray := prog_3_method_3_code
def yX1_giveBack : MethodName := ⟨RX1, "giveBack", "(LRemontoirClock$State;)V"⟩
def RX2 : String := "RemontoirClock$Reader"
def TX2 : u_T := fun k => match k with
  | 0 => ("RemontoirClock$Reader", "place", "I", false)
  | 1 => ("RemontoirClock$Reader", "weightRead", "I", false)
  | 2 => ("RemontoirClock$Reader", "turnsRead", "I", false)
  | _ => ("RemontoirClock$Reader", "periodRead", "I", false)
def tyX2 : Nat → FieldType := fun k => match k with
  | 0 => .int
  | 1 => .int
  | 2 => .int
  | _ => .int
abbrev wsX20 : List Cond := u_ws RX2 TX2 4
theorem nmX2 : ∀ a, a < 4 → ∀ b, b < 4 → a ≠ b → (TX2 a).2.1 ≠ (TX2 b).2.1 := by decide +kernel
theorem tyX2_ok : ∀ k, k < 4 → parseFieldDescriptor (TX2 k).2.2.1 = some (tyX2 k) := by decide +kernel
abbrev cX2_init : ByteArray := prog_4_method_1_code
def yX2_init : MethodName := ⟨RX2, "<init>", "()V"⟩
abbrev cX2_begin : ByteArray := prog_4_method_2_code
def yX2_begin : MethodName := ⟨RX2, "begin", "()V"⟩
abbrev cX2_hasWholeRound : ByteArray := prog_4_method_3_code
def yX2_hasWholeRound : MethodName := ⟨RX2, "hasWholeRound", "()Z"⟩
abbrev cX2_hireInto : ByteArray := prog_4_method_4_code
def yX2_hireInto : MethodName := ⟨RX2, "hireInto", "(LRemontoirClock$Winders;I)V"⟩
abbrev cX2_reads : ByteArray := prog_4_method_5_code
def yX2_reads : MethodName := ⟨RX2, "reads", "(C)Z"⟩
abbrev cX2_readsWeight : ByteArray := prog_4_method_6_code
def yX2_readsWeight : MethodName := ⟨RX2, "readsWeight", "(C)Z"⟩
abbrev cX2_weightNamed : ByteArray := prog_4_method_7_code
def yX2_weightNamed : MethodName := ⟨RX2, "weightNamed", "(C)I"⟩
abbrev cX2_readsTurns : ByteArray := prog_4_method_8_code
def yX2_readsTurns : MethodName := ⟨RX2, "readsTurns", "(C)Z"⟩
abbrev cX2_readsPeriod : ByteArray := prog_4_method_9_code
def yX2_readsPeriod : MethodName := ⟨RX2, "readsPeriod", "(C)Z"⟩
abbrev cX2_withDigit : ByteArray := prog_4_method_10_code
def yX2_withDigit : MethodName := ⟨RX2, "withDigit", "(ICI)I"⟩
def RX3 : String := "RemontoirClock$State"
def TX3 : u_T := fun k => match k with
  | 0 => ("RemontoirClock$State", "weights", "LRemontoirClock$Weights;", true)
  | 1 => ("RemontoirClock$State", "winders", "LRemontoirClock$Winders;", true)
  | 2 => ("RemontoirClock$State", "debts", "LRemontoirClock$Debts;", true)
  | 3 => ("RemontoirClock$State", "settings", "[I", true)
  | 4 => ("RemontoirClock$State", "minute", "I", false)
  | 5 => ("RemontoirClock$State", "time", "I", false)
  | 6 => ("RemontoirClock$State", "charge", "I", false)
  | 7 => ("RemontoirClock$State", "snow", "I", false)
  | 8 => ("RemontoirClock$State", "wear", "I", false)
  | 9 => ("RemontoirClock$State", "struck", "I", false)
  | 10 => ("RemontoirClock$State", "forgiven", "I", false)
  | 11 => ("RemontoirClock$State", "chimed", "I", false)
  | 12 => ("RemontoirClock$State", "missed", "I", false)
  | 13 => ("RemontoirClock$State", "slips", "I", false)
  | 14 => ("RemontoirClock$State", "stood", "I", false)
  | _ => ("RemontoirClock$State", "rewindings", "I", false)
def tyX3 : Nat → FieldType := fun k => match k with
  | 0 => .object "RemontoirClock$Weights"
  | 1 => .object "RemontoirClock$Winders"
  | 2 => .object "RemontoirClock$Debts"
  | 3 => .array .int
  | 4 => .int
  | 5 => .int
  | 6 => .int
  | 7 => .int
  | 8 => .int
  | 9 => .int
  | 10 => .int
  | 11 => .int
  | 12 => .int
  | 13 => .int
  | 14 => .int
  | _ => .int
abbrev wsX30 : List Cond := u_ws RX3 TX3 16
theorem nmX3 : ∀ a, a < 16 → ∀ b, b < 16 → a ≠ b → (TX3 a).2.1 ≠ (TX3 b).2.1 := by decide +kernel
theorem tyX3_ok : ∀ k, k < 16 → parseFieldDescriptor (TX3 k).2.2.1 = some (tyX3 k) := by decide +kernel
abbrev cX3_init : ByteArray := prog_5_method_1_code
def yX3_init : MethodName := ⟨RX3, "<init>", "()V"⟩
abbrev cX3_copyFrom : ByteArray := prog_5_method_2_code
def yX3_copyFrom : MethodName := ⟨RX3, "copyFrom", "(LRemontoirClock$State;)V"⟩
abbrev cX3_isSilent : ByteArray := prog_5_method_3_code
def yX3_isSilent : MethodName := ⟨RX3, "isSilent", "()Z"⟩
abbrev cX3_hourShown : ByteArray := prog_5_method_4_code
def yX3_hourShown : MethodName := ⟨RX3, "hourShown", "()I"⟩
abbrev cX3_passMinutes : ByteArray := prog_5_method_5_code
def yX3_passMinutes : MethodName := ⟨RX3, "passMinutes", "(I)V"⟩
abbrev cX3_passMinute : ByteArray := prog_5_method_6_code
def yX3_passMinute : MethodName := ⟨RX3, "passMinute", "()V"⟩
abbrev cX3_passUpToDebts : ByteArray := prog_5_method_7_code
def yX3_passUpToDebts : MethodName := ⟨RX3, "passUpToDebts", "()V"⟩
abbrev cX3_letWinderCome : ByteArray := prog_5_method_8_code
def yX3_letWinderCome : MethodName := ⟨RX3, "letWinderCome", "()V"⟩
abbrev cX3_areStrikersKeptOut : ByteArray := prog_5_method_9_code
def yX3_areStrikersKeptOut : MethodName := ⟨RX3, "areStrikersKeptOut", "()Z"⟩
abbrev cX3_rewind : ByteArray := prog_5_method_10_code
def yX3_rewind : MethodName := ⟨RX3, "rewind", "()V"⟩
abbrev cX3_moveHands : ByteArray := prog_5_method_11_code
def yX3_moveHands : MethodName := ⟨RX3, "moveHands", "()Z"⟩
abbrev cX3_isSlippery : ByteArray := prog_5_method_12_code
def yX3_isSlippery : MethodName := ⟨RX3, "isSlippery", "()Z"⟩
abbrev cX3_slip : ByteArray := prog_5_method_13_code
def yX3_slip : MethodName := ⟨RX3, "slip", "()V"⟩
abbrev cX3_chime : ByteArray := prog_5_method_14_code
def yX3_chime : MethodName := ⟨RX3, "chime", "()V"⟩
abbrev cX3_owe : ByteArray := prog_5_method_15_code
def yX3_owe : MethodName := ⟨RX3, "owe", "()V"⟩
abbrev cX3_strike : ByteArray := prog_5_method_16_code
def yX3_strike : MethodName := ⟨RX3, "strike", "()V"⟩
abbrev cX3_isDueAndKeptOut : ByteArray := prog_5_method_17_code
def yX3_isDueAndKeptOut : MethodName := ⟨RX3, "isDueAndKeptOut", "(I)Z"⟩
abbrev cX3_goingTurnsThatCome : ByteArray := prog_5_method_18_code
def yX3_goingTurnsThatCome : MethodName := ⟨RX3, "goingTurnsThatCome", "()I"⟩
abbrev cX3_reasonNotToGoOn : ByteArray := prog_5_method_19_code
def yX3_reasonNotToGoOn : MethodName := ⟨RX3, "reasonNotToGoOn", "()I"⟩
abbrev cX3_reasonNotToStrike : ByteArray := prog_5_method_20_code
def yX3_reasonNotToStrike : MethodName := ⟨RX3, "reasonNotToStrike", "()I"⟩
abbrev cX3_reasonNotToCome : ByteArray := prog_5_method_21_code
def yX3_reasonNotToCome : MethodName := ⟨RX3, "reasonNotToCome", "()I"⟩
abbrev cX3_outcome : ByteArray := prog_5_method_22_code
def yX3_outcome : MethodName := ⟨RX3, "outcome", "(I)I"⟩
def RX4 : String := "RemontoirClock$Text"
def TX4 : u_T := fun k => match k with
  | 0 => ("RemontoirClock$Text", "length", "I", false)
  | 1 => ("RemontoirClock$Text", "signs", "[C", true)
  | _ => ("RemontoirClock$Text", "reader", "LRemontoirClock$Reader;", true)
def tyX4 : Nat → FieldType := fun k => match k with
  | 0 => .int
  | 1 => .array .char
  | _ => .object "RemontoirClock$Reader"
abbrev wsX40 : List Cond := u_ws RX4 TX4 3
theorem nmX4 : ∀ a, a < 3 → ∀ b, b < 3 → a ≠ b → (TX4 a).2.1 ≠ (TX4 b).2.1 := by decide +kernel
theorem tyX4_ok : ∀ k, k < 3 → parseFieldDescriptor (TX4 k).2.2.1 = some (tyX4 k) := by decide +kernel
abbrev cX4_init : ByteArray := prog_6_method_1_code
def yX4_init : MethodName := ⟨RX4, "<init>", "()V"⟩
abbrev cX4_add : ByteArray := prog_6_method_2_code
def yX4_add : MethodName := ⟨RX4, "add", "(C)V"⟩
abbrev cX4_readToError : ByteArray := prog_6_method_3_code
def yX4_readToError : MethodName := ⟨RX4, "readToError", "()I"⟩
abbrev cX4_isListOfRounds : ByteArray := prog_6_method_4_code
def yX4_isListOfRounds : MethodName := ⟨RX4, "isListOfRounds", "()Z"⟩
abbrev cX4_separators : ByteArray := prog_6_method_5_code
def yX4_separators : MethodName := ⟨RX4, "separators", "()I"⟩
abbrev cX4_hireInto : ByteArray := prog_6_method_6_code
def yX4_hireInto : MethodName := ⟨RX4, "hireInto", "(LRemontoirClock$Winders;I)V"⟩
def RX5 : String := "RemontoirClock$Weights"
def TX5 : u_T := fun k => match k with
  | 0 => ("RemontoirClock$Weights", "height", "[I", true)
  | 1 => ("RemontoirClock$Weights", "taken", "[I", true)
  | _ => ("RemontoirClock$Weights", "wound", "[I", true)
def tyX5 : Nat → FieldType := fun k => match k with
  | 0 => .array .int
  | 1 => .array .int
  | _ => .array .int
abbrev wsX50 : List Cond := u_ws RX5 TX5 3
theorem nmX5 : ∀ a, a < 3 → ∀ b, b < 3 → a ≠ b → (TX5 a).2.1 ≠ (TX5 b).2.1 := by decide +kernel
theorem tyX5_ok : ∀ k, k < 3 → parseFieldDescriptor (TX5 k).2.2.1 = some (tyX5 k) := by decide +kernel
abbrev cX5_init : ByteArray := prog_7_method_1_code
def yX5_init : MethodName := ⟨RX5, "<init>", "()V"⟩
abbrev cX5_copyFrom : ByteArray := prog_7_method_2_code
def yX5_copyFrom : MethodName := ⟨RX5, "copyFrom", "(LRemontoirClock$Weights;)V"⟩
abbrev cX5_raise : ByteArray := prog_7_method_3_code
def yX5_raise : MethodName := ⟨RX5, "raise", "(II)I"⟩
abbrev cX5_take : ByteArray := prog_7_method_4_code
def yX5_take : MethodName := ⟨RX5, "take", "(II)V"⟩
abbrev cX5_firstDown : ByteArray := prog_7_method_5_code
def yX5_firstDown : MethodName := ⟨RX5, "firstDown", "()I"⟩
def RX6 : String := "RemontoirClock$Winders"
def TX6 : u_T := fun k => match k with
  | 0 => ("RemontoirClock$Winders", "size", "I", false)
  | 1 => ("RemontoirClock$Winders", "weightOf", "[I", true)
  | 2 => ("RemontoirClock$Winders", "turns", "[I", true)
  | 3 => ("RemontoirClock$Winders", "period", "[I", true)
  | 4 => ("RemontoirClock$Winders", "dueFrom", "[I", true)
  | _ => ("RemontoirClock$Winders", "came", "[I", true)
def tyX6 : Nat → FieldType := fun k => match k with
  | 0 => .int
  | 1 => .array .int
  | 2 => .array .int
  | 3 => .array .int
  | 4 => .array .int
  | _ => .array .int
abbrev wsX60 : List Cond := u_ws RX6 TX6 6
theorem nmX6 : ∀ a, a < 6 → ∀ b, b < 6 → a ≠ b → (TX6 a).2.1 ≠ (TX6 b).2.1 := by decide +kernel
theorem tyX6_ok : ∀ k, k < 6 → parseFieldDescriptor (TX6 k).2.2.1 = some (tyX6 k) := by decide +kernel
abbrev cX6_init : ByteArray := prog_8_method_1_code
def yX6_init : MethodName := ⟨RX6, "<init>", "()V"⟩
abbrev cX6_copyFrom : ByteArray := prog_8_method_2_code
def yX6_copyFrom : MethodName := ⟨RX6, "copyFrom", "(LRemontoirClock$Winders;)V"⟩
abbrev cX6_copyWinder : ByteArray := prog_8_method_3_code
def yX6_copyWinder : MethodName := ⟨RX6, "copyWinder", "(LRemontoirClock$Winders;II)V"⟩
abbrev cX6_add : ByteArray := prog_8_method_4_code
def yX6_add : MethodName := ⟨RX6, "add", "(IIII)V"⟩
abbrev cX6_remove : ByteArray := prog_8_method_5_code
def yX6_remove : MethodName := ⟨RX6, "remove", "(I)V"⟩
abbrev cX6_isOneDue : ByteArray := prog_8_method_6_code
def yX6_isOneDue : MethodName := ⟨RX6, "isOneDue", "(I)Z"⟩
abbrev cX6_whoComes : ByteArray := prog_8_method_7_code
def yX6_whoComes : MethodName := ⟨RX6, "whoComes", "(IZ)I"⟩
def RX7 : String := "RemontoirClock"
def TX7 : u_T := fun k => match k with
  | 0 => ("RemontoirClock", "now", "LRemontoirClock$State;", true)
  | 1 => ("RemontoirClock", "trial", "LRemontoirClock$State;", true)
  | 2 => ("RemontoirClock", "history", "LRemontoirClock$History;", true)
  | 3 => ("RemontoirClock", "text", "LRemontoirClock$Text;", true)
  | _ => ("RemontoirClock", "goingRounds", "[I", true)
def tyX7 : Nat → FieldType := fun k => match k with
  | 0 => .object "RemontoirClock$State"
  | 1 => .object "RemontoirClock$State"
  | 2 => .object "RemontoirClock$History"
  | 3 => .object "RemontoirClock$Text"
  | _ => .array .int
abbrev wsX70 : List Cond := u_ws RX7 TX7 5
theorem nmX7 : ∀ a, a < 5 → ∀ b, b < 5 → a ≠ b → (TX7 a).2.1 ≠ (TX7 b).2.1 := by decide +kernel
theorem tyX7_ok : ∀ k, k < 5 → parseFieldDescriptor (TX7 k).2.2.1 = some (tyX7 k) := by decide +kernel
abbrev cX7_init : ByteArray := prog_1_method_1_code
def yX7_init : MethodName := ⟨RX7, "<init>", "()V"⟩
abbrev cX7_wind : ByteArray := prog_1_method_2_code
def yX7_wind : MethodName := ⟨RX7, "wind", "(II)I"⟩
abbrev cX7_set : ByteArray := prog_1_method_3_code
def yX7_set : MethodName := ⟨RX7, "set", "(II)I"⟩
abbrev cX7_setSnow : ByteArray := prog_1_method_4_code
def yX7_setSnow : MethodName := ⟨RX7, "setSnow", "(I)I"⟩
abbrev cX7_setHands : ByteArray := prog_1_method_5_code
def yX7_setHands : MethodName := ⟨RX7, "setHands", "(I)I"⟩
abbrev cX7_mend : ByteArray := prog_1_method_6_code
def yX7_mend : MethodName := ⟨RX7, "mend", "()I"⟩
abbrev cX7_forgive : ByteArray := prog_1_method_7_code
def yX7_forgive : MethodName := ⟨RX7, "forgive", "()I"⟩
abbrev cX7_hire : ByteArray := prog_1_method_8_code
def yX7_hire : MethodName := ⟨RX7, "hire", "(III)I"⟩
abbrev cX7_dismiss : ByteArray := prog_1_method_9_code
def yX7_dismiss : MethodName := ⟨RX7, "dismiss", "(I)I"⟩
abbrev cX7_pass : ByteArray := prog_1_method_10_code
def yX7_pass : MethodName := ⟨RX7, "pass", "(I)I"⟩
abbrev cX7_append : ByteArray := prog_1_method_11_code
def yX7_append : MethodName := ⟨RX7, "append", "(I)I"⟩
abbrev cX7_clearBuffer : ByteArray := prog_1_method_12_code
def yX7_clearBuffer : MethodName := ⟨RX7, "clearBuffer", "()I"⟩
abbrev cX7_firstError : ByteArray := prog_1_method_13_code
def yX7_firstError : MethodName := ⟨RX7, "firstError", "()I"⟩
abbrev cX7_load : ByteArray := prog_1_method_14_code
def yX7_load : MethodName := ⟨RX7, "load", "()I"⟩
abbrev cX7_undo : ByteArray := prog_1_method_15_code
def yX7_undo : MethodName := ⟨RX7, "undo", "()I"⟩
abbrev cX7_weight : ByteArray := prog_1_method_16_code
def yX7_weight : MethodName := ⟨RX7, "weight", "(II)I"⟩
abbrev cX7_winder : ByteArray := prog_1_method_17_code
def yX7_winder : MethodName := ⟨RX7, "winder", "(II)I"⟩
abbrev cX7_debt : ByteArray := prog_1_method_18_code
def yX7_debt : MethodName := ⟨RX7, "debt", "(II)I"⟩
abbrev cX7_count : ByteArray := prog_1_method_19_code
def yX7_count : MethodName := ⟨RX7, "count", "(I)I"⟩
abbrev cX7_setting : ByteArray := prog_1_method_20_code
def yX7_setting : MethodName := ⟨RX7, "setting", "(I)I"⟩
abbrev cX7_why : ByteArray := prog_1_method_21_code
def yX7_why : MethodName := ⟨RX7, "why", "(I)I"⟩
abbrev cX7_ifPassed : ByteArray := prog_1_method_22_code
def yX7_ifPassed : MethodName := ⟨RX7, "ifPassed", "(II)I"⟩
abbrev cX7_standsIn : ByteArray := prog_1_method_23_code
def yX7_standsIn : MethodName := ⟨RX7, "standsIn", "()I"⟩
abbrev cX7_paidIn : ByteArray := prog_1_method_24_code
def yX7_paidIn : MethodName := ⟨RX7, "paidIn", "()I"⟩
abbrev cX7_leastTurns : ByteArray := prog_1_method_25_code
def yX7_leastTurns : MethodName := ⟨RX7, "leastTurns", "(I)I"⟩
abbrev cX7_downFirst : ByteArray := prog_1_method_26_code
def yX7_downFirst : MethodName := ⟨RX7, "downFirst", "()I"⟩
abbrev cX7_lostShare : ByteArray := prog_1_method_27_code
def yX7_lostShare : MethodName := ⟨RX7, "lostShare", "()D"⟩
abbrev cX7_digest : ByteArray := prog_1_method_28_code
def yX7_digest : MethodName := ⟨RX7, "digest", "()J"⟩
abbrev cX7_requireWeight : ByteArray := prog_1_method_29_code
def yX7_requireWeight : MethodName := ⟨RX7, "requireWeight", "(I)V"⟩
abbrev cX7_requireSetting : ByteArray := prog_1_method_30_code
def yX7_requireSetting : MethodName := ⟨RX7, "requireSetting", "(I)V"⟩
abbrev cX7_requireWinder : ByteArray := prog_1_method_31_code
def yX7_requireWinder : MethodName := ⟨RX7, "requireWinder", "(I)V"⟩
abbrev cX7_requireRange : ByteArray := prog_1_method_32_code
def yX7_requireRange : MethodName := ⟨RX7, "requireRange", "(III)V"⟩
abbrev cX7_noteGoingRounds : ByteArray := prog_1_method_33_code
def yX7_noteGoingRounds : MethodName := ⟨RX7, "noteGoingRounds", "(I)I"⟩
abbrev cX7_goesOnFor : ByteArray := prog_1_method_34_code
def yX7_goesOnFor : MethodName := ⟨RX7, "goesOnFor", "(II)Z"⟩
abbrev cX7_hashWith : ByteArray := prog_1_method_35_code
def yX7_hashWith : MethodName := ⟨RX7, "hashWith", "(JJ)J"⟩
abbrev cX7_hashOfParts : ByteArray := prog_1_method_36_code
def yX7_hashOfParts : MethodName := ⟨RX7, "hashOfParts", "(J)J"⟩
abbrev cX7_hashOfText : ByteArray := prog_1_method_37_code
def yX7_hashOfText : MethodName := ⟨RX7, "hashOfText", "(J)J"⟩
abbrev cX7_bitsOfShare : ByteArray := prog_1_method_38_code
def yX7_bitsOfShare : MethodName := ⟨RX7, "bitsOfShare", "(D)J"⟩
def RX8 : String := "RemontoirClockModel"
def TX8 : u_T := fun k => match k with
  | 0 => ("RemontoirClockModel", "z", "[I", true)
  | 1 => ("RemontoirClockModel", "states", "I", false)
  | 2 => ("RemontoirClockModel", "history", "[I", true)
  | 3 => ("RemontoirClockModel", "length", "I", false)
  | 4 => ("RemontoirClockModel", "text", "[I", true)
  | 5 => ("RemontoirClockModel", "thrown", "I", false)
  | 6 => ("RemontoirClockModel", "aside", "[I", true)
  | 7 => ("RemontoirClockModel", "rounds", "[I", true)
  | 8 => ("RemontoirClockModel", "read", "I", false)
  | 9 => ("RemontoirClockModel", "due", "I", false)
  | _ => ("RemontoirClockModel", "hash", "J", false)
def tyX8 : Nat → FieldType := fun k => match k with
  | 0 => .array .int
  | 1 => .int
  | 2 => .array .int
  | 3 => .int
  | 4 => .array .int
  | 5 => .int
  | 6 => .array .int
  | 7 => .array .int
  | 8 => .int
  | 9 => .int
  | _ => .long
abbrev wsX80 : List Cond := u_ws RX8 TX8 11
theorem nmX8 : ∀ a, a < 11 → ∀ b, b < 11 → a ≠ b → (TX8 a).2.1 ≠ (TX8 b).2.1 := by decide +kernel
theorem tyX8_ok : ∀ k, k < 11 → parseFieldDescriptor (TX8 k).2.2.1 = some (tyX8 k) := by decide +kernel
abbrev cX8_init : ByteArray := prog_10_method_1_code
def yX8_init : MethodName := ⟨RX8, "<init>", "()V"⟩
abbrev cX8_thrown : ByteArray := prog_10_method_2_code
def yX8_thrown : MethodName := ⟨RX8, "thrown", "()I"⟩
abbrev cX8_within : ByteArray := prog_10_method_3_code
def yX8_within : MethodName := ⟨RX8, "within", "(III)Z"⟩
abbrev cX8_lesser : ByteArray := prog_10_method_4_code
def yX8_lesser : MethodName := ⟨RX8, "lesser", "(II)I"⟩
abbrev cX8_save : ByteArray := prog_10_method_5_code
def yX8_save : MethodName := ⟨RX8, "save", "()V"⟩
abbrev cX8_layAside : ByteArray := prog_10_method_6_code
def yX8_layAside : MethodName := ⟨RX8, "layAside", "()V"⟩
abbrev cX8_layBack : ByteArray := prog_10_method_7_code
def yX8_layBack : MethodName := ⟨RX8, "layBack", "()V"⟩
abbrev cX8_hourOf : ByteArray := prog_10_method_8_code
def yX8_hourOf : MethodName := ⟨RX8, "hourOf", "(I)I"⟩
abbrev cX8_isSilent : ByteArray := prog_10_method_9_code
def yX8_isSilent : MethodName := ⟨RX8, "isSilent", "()Z"⟩
abbrev cX8_owed : ByteArray := prog_10_method_10_code
def yX8_owed : MethodName := ⟨RX8, "owed", "()I"⟩
abbrev cX8_at : ByteArray := prog_10_method_11_code
def yX8_at : MethodName := ⟨RX8, "at", "(I)I"⟩
abbrev cX8_isDue : ByteArray := prog_10_method_12_code
def yX8_isDue : MethodName := ⟨RX8, "isDue", "(I)Z"⟩
abbrev cX8_isKept : ByteArray := prog_10_method_13_code
def yX8_isKept : MethodName := ⟨RX8, "isKept", "(I)Z"⟩
abbrev cX8_comer : ByteArray := prog_10_method_14_code
def yX8_comer : MethodName := ⟨RX8, "comer", "()I"⟩
abbrev cX8_winds : ByteArray := prog_10_method_15_code
def yX8_winds : MethodName := ⟨RX8, "winds", "(II)I"⟩
abbrev cX8_takes : ByteArray := prog_10_method_16_code
def yX8_takes : MethodName := ⟨RX8, "takes", "(II)V"⟩
abbrev cX8_partOne : ByteArray := prog_10_method_17_code
def yX8_partOne : MethodName := ⟨RX8, "partOne", "()V"⟩
abbrev cX8_partTwo : ByteArray := prog_10_method_18_code
def yX8_partTwo : MethodName := ⟨RX8, "partTwo", "()V"⟩
abbrev cX8_partThree : ByteArray := prog_10_method_19_code
def yX8_partThree : MethodName := ⟨RX8, "partThree", "()I"⟩
abbrev cX8_partFour : ByteArray := prog_10_method_20_code
def yX8_partFour : MethodName := ⟨RX8, "partFour", "()V"⟩
abbrev cX8_dropDebt : ByteArray := prog_10_method_21_code
def yX8_dropDebt : MethodName := ⟨RX8, "dropDebt", "()V"⟩
abbrev cX8_partFive : ByteArray := prog_10_method_22_code
def yX8_partFive : MethodName := ⟨RX8, "partFive", "()V"⟩
abbrev cX8_partSix : ByteArray := prog_10_method_23_code
def yX8_partSix : MethodName := ⟨RX8, "partSix", "()V"⟩
abbrev cX8_firstParts : ByteArray := prog_10_method_24_code
def yX8_firstParts : MethodName := ⟨RX8, "firstParts", "()I"⟩
abbrev cX8_minute : ByteArray := prog_10_method_25_code
def yX8_minute : MethodName := ⟨RX8, "minute", "()Z"⟩
abbrev cX8_goOn : ByteArray := prog_10_method_26_code
def yX8_goOn : MethodName := ⟨RX8, "goOn", "(I)V"⟩
abbrev cX8_isWeight : ByteArray := prog_10_method_27_code
def yX8_isWeight : MethodName := ⟨RX8, "isWeight", "(I)Z"⟩
abbrev cX8_areTurns : ByteArray := prog_10_method_28_code
def yX8_areTurns : MethodName := ⟨RX8, "areTurns", "(I)Z"⟩
abbrev cX8_isPeriod : ByteArray := prog_10_method_29_code
def yX8_isPeriod : MethodName := ⟨RX8, "isPeriod", "(I)Z"⟩
abbrev cX8_wind : ByteArray := prog_10_method_30_code
def yX8_wind : MethodName := ⟨RX8, "wind", "(II)I"⟩
abbrev cX8_isValue : ByteArray := prog_10_method_31_code
def yX8_isValue : MethodName := ⟨RX8, "isValue", "(II)Z"⟩
abbrev cX8_set : ByteArray := prog_10_method_32_code
def yX8_set : MethodName := ⟨RX8, "set", "(II)I"⟩
abbrev cX8_setSnow : ByteArray := prog_10_method_33_code
def yX8_setSnow : MethodName := ⟨RX8, "setSnow", "(I)I"⟩
abbrev cX8_setHands : ByteArray := prog_10_method_34_code
def yX8_setHands : MethodName := ⟨RX8, "setHands", "(I)I"⟩
abbrev cX8_mend : ByteArray := prog_10_method_35_code
def yX8_mend : MethodName := ⟨RX8, "mend", "()I"⟩
abbrev cX8_forgive : ByteArray := prog_10_method_36_code
def yX8_forgive : MethodName := ⟨RX8, "forgive", "()I"⟩
abbrev cX8_comes : ByteArray := prog_10_method_37_code
def yX8_comes : MethodName := ⟨RX8, "comes", "(III)V"⟩
abbrev cX8_hire : ByteArray := prog_10_method_38_code
def yX8_hire : MethodName := ⟨RX8, "hire", "(III)I"⟩
abbrev cX8_isWinder : ByteArray := prog_10_method_39_code
def yX8_isWinder : MethodName := ⟨RX8, "isWinder", "(I)Z"⟩
abbrev cX8_dismiss : ByteArray := prog_10_method_40_code
def yX8_dismiss : MethodName := ⟨RX8, "dismiss", "(I)I"⟩
abbrev cX8_pass : ByteArray := prog_10_method_41_code
def yX8_pass : MethodName := ⟨RX8, "pass", "(I)I"⟩
abbrev cX8_append : ByteArray := prog_10_method_42_code
def yX8_append : MethodName := ⟨RX8, "append", "(I)I"⟩
abbrev cX8_clearBuffer : ByteArray := prog_10_method_43_code
def yX8_clearBuffer : MethodName := ⟨RX8, "clearBuffer", "()I"⟩
abbrev cX8_takesDigit : ByteArray := prog_10_method_44_code
def yX8_takesDigit : MethodName := ⟨RX8, "takesDigit", "(I)Z"⟩
abbrev cX8_takesLetter : ByteArray := prog_10_method_45_code
def yX8_takesLetter : MethodName := ⟨RX8, "takesLetter", "(I)Z"⟩
abbrev cX8_takes_ : ByteArray := prog_10_method_46_code
def yX8_takes_ : MethodName := ⟨RX8, "takes", "(I)Z"⟩
abbrev cX8_rightUpTo : ByteArray := prog_10_method_47_code
def yX8_rightUpTo : MethodName := ⟨RX8, "rightUpTo", "()I"⟩
abbrev cX8_firstError : ByteArray := prog_10_method_48_code
def yX8_firstError : MethodName := ⟨RX8, "firstError", "()I"⟩
abbrev cX8_load : ByteArray := prog_10_method_49_code
def yX8_load : MethodName := ⟨RX8, "load", "()I"⟩
abbrev cX8_undo : ByteArray := prog_10_method_50_code
def yX8_undo : MethodName := ⟨RX8, "undo", "()I"⟩
abbrev cX8_weightNow : ByteArray := prog_10_method_51_code
def yX8_weightNow : MethodName := ⟨RX8, "weightNow", "(II)I"⟩
abbrev cX8_weight : ByteArray := prog_10_method_52_code
def yX8_weight : MethodName := ⟨RX8, "weight", "(II)I"⟩
abbrev cX8_winderNow : ByteArray := prog_10_method_53_code
def yX8_winderNow : MethodName := ⟨RX8, "winderNow", "(II)I"⟩
abbrev cX8_winder : ByteArray := prog_10_method_54_code
def yX8_winder : MethodName := ⟨RX8, "winder", "(II)I"⟩
abbrev cX8_debt : ByteArray := prog_10_method_55_code
def yX8_debt : MethodName := ⟨RX8, "debt", "(II)I"⟩
abbrev cX8_counted : ByteArray := prog_10_method_56_code
def yX8_counted : MethodName := ⟨RX8, "counted", "(I)I"⟩
abbrev cX8_count : ByteArray := prog_10_method_57_code
def yX8_count : MethodName := ⟨RX8, "count", "(I)I"⟩
abbrev cX8_setting : ByteArray := prog_10_method_58_code
def yX8_setting : MethodName := ⟨RX8, "setting", "(I)I"⟩
abbrev cX8_dueMany : ByteArray := prog_10_method_59_code
def yX8_dueMany : MethodName := ⟨RX8, "dueMany", "()I"⟩
abbrev cX8_whyNoStroke : ByteArray := prog_10_method_60_code
def yX8_whyNoStroke : MethodName := ⟨RX8, "whyNoStroke", "()I"⟩
abbrev cX8_whyNow : ByteArray := prog_10_method_61_code
def yX8_whyNow : MethodName := ⟨RX8, "whyNow", "(I)I"⟩
abbrev cX8_why : ByteArray := prog_10_method_62_code
def yX8_why : MethodName := ⟨RX8, "why", "(I)I"⟩
abbrev cX8_toldNow : ByteArray := prog_10_method_63_code
def yX8_toldNow : MethodName := ⟨RX8, "toldNow", "(I)I"⟩
abbrev cX8_passed : ByteArray := prog_10_method_64_code
def yX8_passed : MethodName := ⟨RX8, "passed", "(II)I"⟩
abbrev cX8_ifPassed : ByteArray := prog_10_method_65_code
def yX8_ifPassed : MethodName := ⟨RX8, "ifPassed", "(II)I"⟩
abbrev cX8_standing : ByteArray := prog_10_method_66_code
def yX8_standing : MethodName := ⟨RX8, "standing", "()I"⟩
abbrev cX8_standsIn : ByteArray := prog_10_method_67_code
def yX8_standsIn : MethodName := ⟨RX8, "standsIn", "()I"⟩
abbrev cX8_paid : ByteArray := prog_10_method_68_code
def yX8_paid : MethodName := ⟨RX8, "paid", "()I"⟩
abbrev cX8_paidIn : ByteArray := prog_10_method_69_code
def yX8_paidIn : MethodName := ⟨RX8, "paidIn", "()I"⟩
abbrev cX8_goesOn : ByteArray := prog_10_method_70_code
def yX8_goesOn : MethodName := ⟨RX8, "goesOn", "(II)Z"⟩
abbrev cX8_least : ByteArray := prog_10_method_71_code
def yX8_least : MethodName := ⟨RX8, "least", "(I)I"⟩
abbrev cX8_leastTurns : ByteArray := prog_10_method_72_code
def yX8_leastTurns : MethodName := ⟨RX8, "leastTurns", "(I)I"⟩
abbrev cX8_downNow : ByteArray := prog_10_method_73_code
def yX8_downNow : MethodName := ⟨RX8, "downNow", "()I"⟩
abbrev cX8_firstDown : ByteArray := prog_10_method_74_code
def yX8_firstDown : MethodName := ⟨RX8, "firstDown", "()I"⟩
abbrev cX8_downFirst : ByteArray := prog_10_method_75_code
def yX8_downFirst : MethodName := ⟨RX8, "downFirst", "()I"⟩
abbrev cX8_lost : ByteArray := prog_10_method_76_code
def yX8_lost : MethodName := ⟨RX8, "lost", "()D"⟩
abbrev cX8_lostShare : ByteArray := prog_10_method_77_code
def yX8_lostShare : MethodName := ⟨RX8, "lostShare", "()D"⟩
abbrev cX8_mix : ByteArray := prog_10_method_78_code
def yX8_mix : MethodName := ⟨RX8, "mix", "(J)V"⟩
abbrev cX8_digest : ByteArray := prog_10_method_79_code
def yX8_digest : MethodName := ⟨RX8, "digest", "()J"⟩
def RJxe99ae : String := "java/lang/Double"
def TJxe99ae : u_T := fun k => match k with
  | _ => ("", "", "", false)
def tyJxe99ae : Nat → FieldType := fun k => match k with
  | _ => .int
abbrev wsJxe99ae0 : List Cond := u_ws RJxe99ae TJxe99ae 0
theorem nmJxe99ae : ∀ a, a < 0 → ∀ b, b < 0 → a ≠ b → (TJxe99ae a).2.1 ≠ (TJxe99ae b).2.1 := by decide +kernel
theorem tyJxe99ae_ok : ∀ k, k < 0 → parseFieldDescriptor (TJxe99ae k).2.2.1 = some (tyJxe99ae k) := by decide +kernel
abbrev cJxe99ae_isNaN_b9ae7 : ByteArray := prog_11_method_6_code
def yJxe99ae_isNaN_b9ae7 : MethodName := ⟨RJxe99ae, "isNaN", "(D)Z"⟩
abbrev cJxe99ae_doubleToLongBits_ccdee : ByteArray := prog_11_method_23_code
def yJxe99ae_doubleToLongBits_ccdee : MethodName := ⟨RJxe99ae, "doubleToLongBits", "(D)J"⟩
def RJ9 : String := "java/lang/Math"
def TJ9 : u_T := fun k => match k with
  | _ => ("", "", "", false)
def tyJ9 : Nat → FieldType := fun k => match k with
  | _ => .int
abbrev wsJ90 : List Cond := u_ws RJ9 TJ9 0
theorem nmJ9 : ∀ a, a < 0 → ∀ b, b < 0 → a ≠ b → (TJ9 a).2.1 ≠ (TJ9 b).2.1 := by decide +kernel
theorem tyJ9_ok : ∀ k, k < 0 → parseFieldDescriptor (TJ9 k).2.2.1 = some (tyJ9 k) := by decide +kernel
abbrev cJ9_floorMod_7cf53 : ByteArray := prog_16_method_50_code
def yJ9_floorMod_7cf53 : MethodName := ⟨RJ9, "floorMod", "(II)I"⟩
abbrev cJ9_max_7cf53 : ByteArray := prog_16_method_65_code
def yJ9_max_7cf53 : MethodName := ⟨RJ9, "max", "(II)I"⟩
abbrev cJ9_min_7cf53 : ByteArray := prog_16_method_69_code
def yJ9_min_7cf53 : MethodName := ⟨RJ9, "min", "(II)I"⟩
def RJ0 : String := "java/lang/String"
def TJ0 : u_T := fun k => match k with
  | _ => ("", "", "", false)
def tyJ0 : Nat → FieldType := fun k => match k with
  | _ => .int
abbrev wsJ00 : List Cond := u_ws RJ0 TJ0 0
theorem nmJ0 : ∀ a, a < 0 → ∀ b, b < 0 → a ≠ b → (TJ0 a).2.1 ≠ (TJ0 b).2.1 := by decide +kernel
theorem tyJ0_ok : ∀ k, k < 0 → parseFieldDescriptor (TJ0 k).2.2.1 = some (tyJ0 k) := by decide +kernel
def RJ10 : String := "java/lang/System"
def TJ10 : u_T := fun k => match k with
  | _ => ("", "", "", false)
def tyJ10 : Nat → FieldType := fun k => match k with
  | _ => .int
abbrev wsJ100 : List Cond := u_ws RJ10 TJ10 0
theorem nmJ10 : ∀ a, a < 0 → ∀ b, b < 0 → a ≠ b → (TJ10 a).2.1 ≠ (TJ10 b).2.1 := by decide +kernel
theorem tyJ10_ok : ∀ k, k < 0 → parseFieldDescriptor (TJ10 k).2.2.1 = some (tyJ10 k) := by decide +kernel
def RL : String := "RemontoirClockLaw"
abbrev cL_wind : ByteArray := method_3_code
def yL_wind : MethodName := ⟨RL, "wind", "(LRemontoirClock;II[J)I"⟩
abbrev cL_set : ByteArray := method_4_code
def yL_set : MethodName := ⟨RL, "set", "(LRemontoirClock;II[J)I"⟩
abbrev cL_setSnow : ByteArray := method_5_code
def yL_setSnow : MethodName := ⟨RL, "setSnow", "(LRemontoirClock;I[J)I"⟩
abbrev cL_setHands : ByteArray := method_6_code
def yL_setHands : MethodName := ⟨RL, "setHands", "(LRemontoirClock;I[J)I"⟩
abbrev cL_hire : ByteArray := method_7_code
def yL_hire : MethodName := ⟨RL, "hire", "(LRemontoirClock;III[J)I"⟩
abbrev cL_dismiss : ByteArray := method_8_code
def yL_dismiss : MethodName := ⟨RL, "dismiss", "(LRemontoirClock;I[J)I"⟩
abbrev cL_pass : ByteArray := method_9_code
def yL_pass : MethodName := ⟨RL, "pass", "(LRemontoirClock;I[J)I"⟩
abbrev cL_append : ByteArray := method_10_code
def yL_append : MethodName := ⟨RL, "append", "(LRemontoirClock;I[J)I"⟩
abbrev cL_load : ByteArray := method_11_code
def yL_load : MethodName := ⟨RL, "load", "(LRemontoirClock;[J)I"⟩
abbrev cL_undo : ByteArray := method_12_code
def yL_undo : MethodName := ⟨RL, "undo", "(LRemontoirClock;[J)I"⟩
abbrev cL_weight : ByteArray := method_13_code
def yL_weight : MethodName := ⟨RL, "weight", "(LRemontoirClock;II[J)I"⟩
abbrev cL_winder : ByteArray := method_14_code
def yL_winder : MethodName := ⟨RL, "winder", "(LRemontoirClock;II[J)I"⟩
abbrev cL_debt : ByteArray := method_15_code
def yL_debt : MethodName := ⟨RL, "debt", "(LRemontoirClock;II[J)I"⟩
abbrev cL_count : ByteArray := method_16_code
def yL_count : MethodName := ⟨RL, "count", "(LRemontoirClock;I[J)I"⟩
abbrev cL_setting : ByteArray := method_17_code
def yL_setting : MethodName := ⟨RL, "setting", "(LRemontoirClock;I[J)I"⟩
abbrev cL_why : ByteArray := method_18_code
def yL_why : MethodName := ⟨RL, "why", "(LRemontoirClock;I[J)I"⟩
abbrev cL_ifPassed : ByteArray := method_19_code
def yL_ifPassed : MethodName := ⟨RL, "ifPassed", "(LRemontoirClock;II[J)I"⟩
abbrev cL_leastTurns : ByteArray := method_20_code
def yL_leastTurns : MethodName := ⟨RL, "leastTurns", "(LRemontoirClock;I[J)I"⟩
abbrev cL_law : ByteArray := code
def yL_law : MethodName := ⟨RL, "law", "([I)Z"⟩
abbrev vwCl : List vw_C := [(RX0, TX0, 3), (RX1, TX1, 3), (RX2, TX2, 4), (RX3, TX3, 16), (RX4, TX4, 3), (RX5, TX5, 3), (RX6, TX6, 6), (RX7, TX7, 5), (RX8, TX8, 11)]
