-- begun from the starting texts: the skeleton's PART A and the printed names
/-- a private method of a class that the tables say can be made, by its rows of tables_1 -/
def lw_okq (q : MethodName × Nat) : Prop := (q.1.cls ≠ "java/lang/invoke/MethodHandle" ∧ q.1.cls ≠ "java/lang/invoke/VarHandle") ∧ Cond.instantiable q.1.cls q.2 ∈ tables_1 ∧ Cond.privateMethod q.1 ∈ tables_1 ∧ Cond.instanceMethod q.1 ∈ tables_1
theorem lw_p0 : lw_okq (⟨"AdaptiveQueryExecutor$Ledger", "put", "(IJ)V"⟩, 3) := ⟨⟨by decide +kernel, by decide +kernel⟩, List.mem_of_getElem? (i := 149) (by decide +kernel), List.mem_of_getElem? (i := 322) (by decide +kernel), List.mem_of_getElem? (i := 323) (by decide +kernel)⟩
theorem lw_p1 : lw_okq (⟨"AdaptiveQueryExecutor$Ledger", "grow", "()V"⟩, 3) := ⟨⟨by decide +kernel, by decide +kernel⟩, List.mem_of_getElem? (i := 149) (by decide +kernel), List.mem_of_getElem? (i := 364) (by decide +kernel), List.mem_of_getElem? (i := 365) (by decide +kernel)⟩
theorem lw_p2 : lw_okq (⟨"AdaptiveQueryExecutor$TextReader", "readNumber", "(II)I"⟩, 4) := ⟨⟨by decide +kernel, by decide +kernel⟩, List.mem_of_getElem? (i := 387) (by decide +kernel), List.mem_of_getElem? (i := 411) (by decide +kernel), List.mem_of_getElem? (i := 412) (by decide +kernel)⟩
theorem lw_p3 : lw_okq (⟨"AdaptiveQueryExecutor$TextReader", "readDigit", "(II)I"⟩, 4) := ⟨⟨by decide +kernel, by decide +kernel⟩, List.mem_of_getElem? (i := 387) (by decide +kernel), List.mem_of_getElem? (i := 418) (by decide +kernel), List.mem_of_getElem? (i := 419) (by decide +kernel)⟩
theorem lw_p4 : lw_okq (⟨"AdaptiveQueryExecutor$TextReader", "expect", "(C)V"⟩, 4) := ⟨⟨by decide +kernel, by decide +kernel⟩, List.mem_of_getElem? (i := 387) (by decide +kernel), List.mem_of_getElem? (i := 429) (by decide +kernel), List.mem_of_getElem? (i := 430) (by decide +kernel)⟩
theorem lw_p5 : lw_okq (⟨"AdaptiveQueryExecutor$TextReader", "readValueOf", "(I)I"⟩, 4) := ⟨⟨by decide +kernel, by decide +kernel⟩, List.mem_of_getElem? (i := 387) (by decide +kernel), List.mem_of_getElem? (i := 433) (by decide +kernel), List.mem_of_getElem? (i := 434) (by decide +kernel)⟩
theorem lw_p6 : lw_okq (⟨"AdaptiveQueryExecutor$TextReader", "readCondition", "(LAdaptiveQueryExecutor$Operator;)V"⟩, 4) := ⟨⟨by decide +kernel, by decide +kernel⟩, List.mem_of_getElem? (i := 387) (by decide +kernel), List.mem_of_getElem? (i := 438) (by decide +kernel), List.mem_of_getElem? (i := 439) (by decide +kernel)⟩
theorem lw_p7 : lw_okq (⟨"AdaptiveQueryExecutor$TextReader", "take", "(C)Z"⟩, 4) := ⟨⟨by decide +kernel, by decide +kernel⟩, List.mem_of_getElem? (i := 387) (by decide +kernel), List.mem_of_getElem? (i := 442) (by decide +kernel), List.mem_of_getElem? (i := 443) (by decide +kernel)⟩
theorem lw_p8 : lw_okq (⟨"AdaptiveQueryExecutor$TextReader", "readSigned", "()I"⟩, 4) := ⟨⟨by decide +kernel, by decide +kernel⟩, List.mem_of_getElem? (i := 387) (by decide +kernel), List.mem_of_getElem? (i := 446) (by decide +kernel), List.mem_of_getElem? (i := 447) (by decide +kernel)⟩
theorem lw_p9 : lw_okq (⟨"AdaptiveQueryExecutor$TextReader", "readOther", "(LAdaptiveQueryExecutor$Operator;)V"⟩, 4) := ⟨⟨by decide +kernel, by decide +kernel⟩, List.mem_of_getElem? (i := 387) (by decide +kernel), List.mem_of_getElem? (i := 450) (by decide +kernel), List.mem_of_getElem? (i := 451) (by decide +kernel)⟩
theorem lw_p10 : lw_okq (⟨"AdaptiveQueryExecutor$TextReader", "readComparison", "(LAdaptiveQueryExecutor$Operator;II)V"⟩, 4) := ⟨⟨by decide +kernel, by decide +kernel⟩, List.mem_of_getElem? (i := 387) (by decide +kernel), List.mem_of_getElem? (i := 454) (by decide +kernel), List.mem_of_getElem? (i := 455) (by decide +kernel)⟩
theorem lw_p11 : lw_okq (⟨"AdaptiveQueryExecutor$State", "probeAgain", "(J)V"⟩, 15) := ⟨⟨by decide +kernel, by decide +kernel⟩, List.mem_of_getElem? (i := 24) (by decide +kernel), List.mem_of_getElem? (i := 527) (by decide +kernel), List.mem_of_getElem? (i := 528) (by decide +kernel)⟩
theorem lw_p12 : lw_okq (⟨"AdaptiveQueryExecutor$State", "candidatesIn", "(IJIZ)I"⟩, 15) := ⟨⟨by decide +kernel, by decide +kernel⟩, List.mem_of_getElem? (i := 24) (by decide +kernel), List.mem_of_getElem? (i := 537) (by decide +kernel), List.mem_of_getElem? (i := 538) (by decide +kernel)⟩
theorem lw_p13 : lw_okq (⟨"AdaptiveQueryExecutor$State", "extend", "(JII)V"⟩, 15) := ⟨⟨by decide +kernel, by decide +kernel⟩, List.mem_of_getElem? (i := 24) (by decide +kernel), List.mem_of_getElem? (i := 568) (by decide +kernel), List.mem_of_getElem? (i := 569) (by decide +kernel)⟩
theorem lw_p14 : lw_okq (⟨"AdaptiveQueryExecutor$State", "isPreferred", "(LAdaptiveQueryExecutor$Operator;LAdaptiveQueryExecutor$Operator;)Z"⟩, 15) := ⟨⟨by decide +kernel, by decide +kernel⟩, List.mem_of_getElem? (i := 24) (by decide +kernel), List.mem_of_getElem? (i := 588) (by decide +kernel), List.mem_of_getElem? (i := 589) (by decide +kernel)⟩
theorem lw_p15 : lw_okq (⟨"AdaptiveQueryExecutor$State", "evaluate", "(IJ)V"⟩, 15) := ⟨⟨by decide +kernel, by decide +kernel⟩, List.mem_of_getElem? (i := 24) (by decide +kernel), List.mem_of_getElem? (i := 604) (by decide +kernel), List.mem_of_getElem? (i := 605) (by decide +kernel)⟩
def lw_privs_1 : List (MethodName × Nat) := [(⟨"AdaptiveQueryExecutor$Ledger", "put", "(IJ)V"⟩, 3), (⟨"AdaptiveQueryExecutor$Ledger", "grow", "()V"⟩, 3), (⟨"AdaptiveQueryExecutor$TextReader", "readNumber", "(II)I"⟩, 4), (⟨"AdaptiveQueryExecutor$TextReader", "readDigit", "(II)I"⟩, 4), (⟨"AdaptiveQueryExecutor$TextReader", "expect", "(C)V"⟩, 4), (⟨"AdaptiveQueryExecutor$TextReader", "readValueOf", "(I)I"⟩, 4), (⟨"AdaptiveQueryExecutor$TextReader", "readCondition", "(LAdaptiveQueryExecutor$Operator;)V"⟩, 4), (⟨"AdaptiveQueryExecutor$TextReader", "take", "(C)Z"⟩, 4), (⟨"AdaptiveQueryExecutor$TextReader", "readSigned", "()I"⟩, 4), (⟨"AdaptiveQueryExecutor$TextReader", "readOther", "(LAdaptiveQueryExecutor$Operator;)V"⟩, 4), (⟨"AdaptiveQueryExecutor$TextReader", "readComparison", "(LAdaptiveQueryExecutor$Operator;II)V"⟩, 4), (⟨"AdaptiveQueryExecutor$State", "probeAgain", "(J)V"⟩, 15), (⟨"AdaptiveQueryExecutor$State", "candidatesIn", "(IJIZ)I"⟩, 15), (⟨"AdaptiveQueryExecutor$State", "extend", "(JII)V"⟩, 15), (⟨"AdaptiveQueryExecutor$State", "isPreferred", "(LAdaptiveQueryExecutor$Operator;LAdaptiveQueryExecutor$Operator;)Z"⟩, 15), (⟨"AdaptiveQueryExecutor$State", "evaluate", "(IJ)V"⟩, 15)]
theorem lw_r1 : ∀ q ∈ lw_privs_1, lw_okq q := List.forall_mem_cons.mpr ⟨lw_p0, List.forall_mem_cons.mpr ⟨lw_p1, List.forall_mem_cons.mpr ⟨lw_p2, List.forall_mem_cons.mpr ⟨lw_p3, List.forall_mem_cons.mpr ⟨lw_p4, List.forall_mem_cons.mpr ⟨lw_p5, List.forall_mem_cons.mpr ⟨lw_p6, List.forall_mem_cons.mpr ⟨lw_p7, List.forall_mem_cons.mpr ⟨lw_p8, List.forall_mem_cons.mpr ⟨lw_p9, List.forall_mem_cons.mpr ⟨lw_p10, List.forall_mem_cons.mpr ⟨lw_p11, List.forall_mem_cons.mpr ⟨lw_p12, List.forall_mem_cons.mpr ⟨lw_p13, List.forall_mem_cons.mpr ⟨lw_p14, List.forall_mem_cons.mpr ⟨lw_p15, fun _ h => absurd h List.not_mem_nil⟩⟩⟩⟩⟩⟩⟩⟩⟩⟩⟩⟩⟩⟩⟩⟩
theorem lw_p16 : lw_okq (⟨"AdaptiveQueryExecutor$State", "guideTo", "(IJ)I"⟩, 15) := ⟨⟨by decide +kernel, by decide +kernel⟩, List.mem_of_getElem? (i := 24) (by decide +kernel), List.mem_of_getElem? (i := 618) (by decide +kernel), List.mem_of_getElem? (i := 619) (by decide +kernel)⟩
theorem lw_p17 : lw_okq (⟨"AdaptiveQueryExecutor$State", "probe", "(IJ)V"⟩, 15) := ⟨⟨by decide +kernel, by decide +kernel⟩, List.mem_of_getElem? (i := 24) (by decide +kernel), List.mem_of_getElem? (i := 622) (by decide +kernel), List.mem_of_getElem? (i := 623) (by decide +kernel)⟩
theorem lw_p18 : lw_okq (⟨"AdaptiveQueryExecutor", "pendingRow", "(JI)I"⟩, 3) := ⟨⟨by decide +kernel, by decide +kernel⟩, List.mem_of_getElem? (i := 16) (by decide +kernel), List.mem_of_getElem? (i := 658) (by decide +kernel), List.mem_of_getElem? (i := 659) (by decide +kernel)⟩
theorem lw_p19 : lw_okq (⟨"AdaptiveQueryExecutor$State", "missedBy", "(JJ)Z"⟩, 15) := ⟨⟨by decide +kernel, by decide +kernel⟩, List.mem_of_getElem? (i := 24) (by decide +kernel), List.mem_of_getElem? (i := 718) (by decide +kernel), List.mem_of_getElem? (i := 719) (by decide +kernel)⟩
theorem lw_p20 : lw_okq (⟨"AdaptiveQueryExecutor$State", "tallyFrom", "(IJILAdaptiveQueryExecutor$Tally;)V"⟩, 15) := ⟨⟨by decide +kernel, by decide +kernel⟩, List.mem_of_getElem? (i := 24) (by decide +kernel), List.mem_of_getElem? (i := 741) (by decide +kernel), List.mem_of_getElem? (i := 742) (by decide +kernel)⟩
theorem lw_p21 : lw_okq (⟨"AdaptiveQueryExecutor$State", "allHold", "(J)Z"⟩, 15) := ⟨⟨by decide +kernel, by decide +kernel⟩, List.mem_of_getElem? (i := 24) (by decide +kernel), List.mem_of_getElem? (i := 745) (by decide +kernel), List.mem_of_getElem? (i := 746) (by decide +kernel)⟩
theorem lw_p22 : lw_okq (⟨"AdaptiveQueryExecutor", "simulated", "(I)LAdaptiveQueryExecutor$State;"⟩, 3) := ⟨⟨by decide +kernel, by decide +kernel⟩, List.mem_of_getElem? (i := 16) (by decide +kernel), List.mem_of_getElem? (i := 772) (by decide +kernel), List.mem_of_getElem? (i := 773) (by decide +kernel)⟩
theorem lw_p23 : lw_okq (⟨"AdaptiveQueryExecutorModel", "isSource", "(I)Z"⟩, 17) := ⟨⟨by decide +kernel, by decide +kernel⟩, List.mem_of_getElem? (i := 842) (by decide +kernel), List.mem_of_getElem? (i := 913) (by decide +kernel), List.mem_of_getElem? (i := 914) (by decide +kernel)⟩
theorem lw_p24 : lw_okq (⟨"AdaptiveQueryExecutorModel", "slides", "(I)V"⟩, 17) := ⟨⟨by decide +kernel, by decide +kernel⟩, List.mem_of_getElem? (i := 842) (by decide +kernel), List.mem_of_getElem? (i := 917) (by decide +kernel), List.mem_of_getElem? (i := 918) (by decide +kernel)⟩
theorem lw_p25 : lw_okq (⟨"AdaptiveQueryExecutorModel", "liveMany", "(I)I"⟩, 17) := ⟨⟨by decide +kernel, by decide +kernel⟩, List.mem_of_getElem? (i := 842) (by decide +kernel), List.mem_of_getElem? (i := 921) (by decide +kernel), List.mem_of_getElem? (i := 922) (by decide +kernel)⟩
theorem lw_p26 : lw_okq (⟨"AdaptiveQueryExecutorModel", "drops", "(II)I"⟩, 17) := ⟨⟨by decide +kernel, by decide +kernel⟩, List.mem_of_getElem? (i := 842) (by decide +kernel), List.mem_of_getElem? (i := 925) (by decide +kernel), List.mem_of_getElem? (i := 926) (by decide +kernel)⟩
theorem lw_p27 : lw_okq (⟨"AdaptiveQueryExecutorModel", "happens", "(I)V"⟩, 17) := ⟨⟨by decide +kernel, by decide +kernel⟩, List.mem_of_getElem? (i := 842) (by decide +kernel), List.mem_of_getElem? (i := 929) (by decide +kernel), List.mem_of_getElem? (i := 930) (by decide +kernel)⟩
theorem lw_p28 : lw_okq (⟨"AdaptiveQueryExecutorModel", "leaves", "(III)I"⟩, 17) := ⟨⟨by decide +kernel, by decide +kernel⟩, List.mem_of_getElem? (i := 842) (by decide +kernel), List.mem_of_getElem? (i := 933) (by decide +kernel), List.mem_of_getElem? (i := 934) (by decide +kernel)⟩
theorem lw_p29 : lw_okq (⟨"AdaptiveQueryExecutorModel", "sizeOf", "(I)I"⟩, 17) := ⟨⟨by decide +kernel, by decide +kernel⟩, List.mem_of_getElem? (i := 842) (by decide +kernel), List.mem_of_getElem? (i := 937) (by decide +kernel), List.mem_of_getElem? (i := 938) (by decide +kernel)⟩
theorem lw_p30 : lw_okq (⟨"AdaptiveQueryExecutorModel", "isDouble", "(II)Z"⟩, 17) := ⟨⟨by decide +kernel, by decide +kernel⟩, List.mem_of_getElem? (i := 842) (by decide +kernel), List.mem_of_getElem? (i := 945) (by decide +kernel), List.mem_of_getElem? (i := 946) (by decide +kernel)⟩
theorem lw_p31 : lw_okq (⟨"AdaptiveQueryExecutorModel", "append", "(I[I)V"⟩, 17) := ⟨⟨by decide +kernel, by decide +kernel⟩, List.mem_of_getElem? (i := 842) (by decide +kernel), List.mem_of_getElem? (i := 949) (by decide +kernel), List.mem_of_getElem? (i := 950) (by decide +kernel)⟩
def lw_privs_2 : List (MethodName × Nat) := [(⟨"AdaptiveQueryExecutor$State", "guideTo", "(IJ)I"⟩, 15), (⟨"AdaptiveQueryExecutor$State", "probe", "(IJ)V"⟩, 15), (⟨"AdaptiveQueryExecutor", "pendingRow", "(JI)I"⟩, 3), (⟨"AdaptiveQueryExecutor$State", "missedBy", "(JJ)Z"⟩, 15), (⟨"AdaptiveQueryExecutor$State", "tallyFrom", "(IJILAdaptiveQueryExecutor$Tally;)V"⟩, 15), (⟨"AdaptiveQueryExecutor$State", "allHold", "(J)Z"⟩, 15), (⟨"AdaptiveQueryExecutor", "simulated", "(I)LAdaptiveQueryExecutor$State;"⟩, 3), (⟨"AdaptiveQueryExecutorModel", "isSource", "(I)Z"⟩, 17), (⟨"AdaptiveQueryExecutorModel", "slides", "(I)V"⟩, 17), (⟨"AdaptiveQueryExecutorModel", "liveMany", "(I)I"⟩, 17), (⟨"AdaptiveQueryExecutorModel", "drops", "(II)I"⟩, 17), (⟨"AdaptiveQueryExecutorModel", "happens", "(I)V"⟩, 17), (⟨"AdaptiveQueryExecutorModel", "leaves", "(III)I"⟩, 17), (⟨"AdaptiveQueryExecutorModel", "sizeOf", "(I)I"⟩, 17), (⟨"AdaptiveQueryExecutorModel", "isDouble", "(II)Z"⟩, 17), (⟨"AdaptiveQueryExecutorModel", "append", "(I[I)V"⟩, 17)]
theorem lw_r2 : ∀ q ∈ lw_privs_2, lw_okq q := List.forall_mem_cons.mpr ⟨lw_p16, List.forall_mem_cons.mpr ⟨lw_p17, List.forall_mem_cons.mpr ⟨lw_p18, List.forall_mem_cons.mpr ⟨lw_p19, List.forall_mem_cons.mpr ⟨lw_p20, List.forall_mem_cons.mpr ⟨lw_p21, List.forall_mem_cons.mpr ⟨lw_p22, List.forall_mem_cons.mpr ⟨lw_p23, List.forall_mem_cons.mpr ⟨lw_p24, List.forall_mem_cons.mpr ⟨lw_p25, List.forall_mem_cons.mpr ⟨lw_p26, List.forall_mem_cons.mpr ⟨lw_p27, List.forall_mem_cons.mpr ⟨lw_p28, List.forall_mem_cons.mpr ⟨lw_p29, List.forall_mem_cons.mpr ⟨lw_p30, List.forall_mem_cons.mpr ⟨lw_p31, fun _ h => absurd h List.not_mem_nil⟩⟩⟩⟩⟩⟩⟩⟩⟩⟩⟩⟩⟩⟩⟩⟩
theorem lw_p32 : lw_okq (⟨"AdaptiveQueryExecutorModel", "isRow", "(II)Z"⟩, 17) := ⟨⟨by decide +kernel, by decide +kernel⟩, List.mem_of_getElem? (i := 842) (by decide +kernel), List.mem_of_getElem? (i := 957) (by decide +kernel), List.mem_of_getElem? (i := 958) (by decide +kernel)⟩
theorem lw_p33 : lw_okq (⟨"AdaptiveQueryExecutorModel", "readText", "()V"⟩, 17) := ⟨⟨by decide +kernel, by decide +kernel⟩, List.mem_of_getElem? (i := 842) (by decide +kernel), List.mem_of_getElem? (i := 969) (by decide +kernel), List.mem_of_getElem? (i := 970) (by decide +kernel)⟩
theorem lw_p34 : lw_okq (⟨"AdaptiveQueryExecutorModel", "small", "(II)I"⟩, 17) := ⟨⟨by decide +kernel, by decide +kernel⟩, List.mem_of_getElem? (i := 842) (by decide +kernel), List.mem_of_getElem? (i := 973) (by decide +kernel), List.mem_of_getElem? (i := 974) (by decide +kernel)⟩
theorem lw_p35 : lw_okq (⟨"AdaptiveQueryExecutorModel", "digit", "(II)I"⟩, 17) := ⟨⟨by decide +kernel, by decide +kernel⟩, List.mem_of_getElem? (i := 842) (by decide +kernel), List.mem_of_getElem? (i := 978) (by decide +kernel), List.mem_of_getElem? (i := 979) (by decide +kernel)⟩
theorem lw_p36 : lw_okq (⟨"AdaptiveQueryExecutorModel", "here", "()I"⟩, 17) := ⟨⟨by decide +kernel, by decide +kernel⟩, List.mem_of_getElem? (i := 842) (by decide +kernel), List.mem_of_getElem? (i := 982) (by decide +kernel), List.mem_of_getElem? (i := 983) (by decide +kernel)⟩
theorem lw_p37 : lw_okq (⟨"AdaptiveQueryExecutorModel", "take", "(I)V"⟩, 17) := ⟨⟨by decide +kernel, by decide +kernel⟩, List.mem_of_getElem? (i := 842) (by decide +kernel), List.mem_of_getElem? (i := 986) (by decide +kernel), List.mem_of_getElem? (i := 987) (by decide +kernel)⟩
theorem lw_p38 : lw_okq (⟨"AdaptiveQueryExecutorModel", "reference", "(II)I"⟩, 17) := ⟨⟨by decide +kernel, by decide +kernel⟩, List.mem_of_getElem? (i := 842) (by decide +kernel), List.mem_of_getElem? (i := 990) (by decide +kernel), List.mem_of_getElem? (i := 991) (by decide +kernel)⟩
theorem lw_p39 : lw_okq (⟨"AdaptiveQueryExecutorModel", "rest", "(I)V"⟩, 17) := ⟨⟨by decide +kernel, by decide +kernel⟩, List.mem_of_getElem? (i := 842) (by decide +kernel), List.mem_of_getElem? (i := 994) (by decide +kernel), List.mem_of_getElem? (i := 995) (by decide +kernel)⟩
theorem lw_p40 : lw_okq (⟨"AdaptiveQueryExecutorModel", "isOther", "(I)Z"⟩, 17) := ⟨⟨by decide +kernel, by decide +kernel⟩, List.mem_of_getElem? (i := 842) (by decide +kernel), List.mem_of_getElem? (i := 998) (by decide +kernel), List.mem_of_getElem? (i := 999) (by decide +kernel)⟩
theorem lw_p41 : lw_okq (⟨"AdaptiveQueryExecutorModel", "moves", "(III)I"⟩, 17) := ⟨⟨by decide +kernel, by decide +kernel⟩, List.mem_of_getElem? (i := 842) (by decide +kernel), List.mem_of_getElem? (i := 1002) (by decide +kernel), List.mem_of_getElem? (i := 1003) (by decide +kernel)⟩
theorem lw_p42 : lw_okq (⟨"AdaptiveQueryExecutorModel", "fetch", "(II[I)V"⟩, 17) := ⟨⟨by decide +kernel, by decide +kernel⟩, List.mem_of_getElem? (i := 842) (by decide +kernel), List.mem_of_getElem? (i := 1006) (by decide +kernel), List.mem_of_getElem? (i := 1007) (by decide +kernel)⟩
theorem lw_p43 : lw_okq (⟨"AdaptiveQueryExecutorModel", "clear", "(I)V"⟩, 17) := ⟨⟨by decide +kernel, by decide +kernel⟩, List.mem_of_getElem? (i := 842) (by decide +kernel), List.mem_of_getElem? (i := 1010) (by decide +kernel), List.mem_of_getElem? (i := 1011) (by decide +kernel)⟩
theorem lw_p44 : lw_okq (⟨"AdaptiveQueryExecutorModel", "isOperator", "(I)Z"⟩, 17) := ⟨⟨by decide +kernel, by decide +kernel⟩, List.mem_of_getElem? (i := 842) (by decide +kernel), List.mem_of_getElem? (i := 1018) (by decide +kernel), List.mem_of_getElem? (i := 1019) (by decide +kernel)⟩
theorem lw_p45 : lw_okq (⟨"AdaptiveQueryExecutorModel", "op", "(II)I"⟩, 17) := ⟨⟨by decide +kernel, by decide +kernel⟩, List.mem_of_getElem? (i := 842) (by decide +kernel), List.mem_of_getElem? (i := 1022) (by decide +kernel), List.mem_of_getElem? (i := 1023) (by decide +kernel)⟩
theorem lw_p46 : lw_okq (⟨"AdaptiveQueryExecutorModel", "stepOn", "()V"⟩, 17) := ⟨⟨by decide +kernel, by decide +kernel⟩, List.mem_of_getElem? (i := 842) (by decide +kernel), List.mem_of_getElem? (i := 1038) (by decide +kernel), List.mem_of_getElem? (i := 1039) (by decide +kernel)⟩
theorem lw_p47 : lw_okq (⟨"AdaptiveQueryExecutorModel", "spreads", "([IIIZ)I"⟩, 17) := ⟨⟨by decide +kernel, by decide +kernel⟩, List.mem_of_getElem? (i := 842) (by decide +kernel), List.mem_of_getElem? (i := 1042) (by decide +kernel), List.mem_of_getElem? (i := 1043) (by decide +kernel)⟩
def lw_privs_3 : List (MethodName × Nat) := [(⟨"AdaptiveQueryExecutorModel", "isRow", "(II)Z"⟩, 17), (⟨"AdaptiveQueryExecutorModel", "readText", "()V"⟩, 17), (⟨"AdaptiveQueryExecutorModel", "small", "(II)I"⟩, 17), (⟨"AdaptiveQueryExecutorModel", "digit", "(II)I"⟩, 17), (⟨"AdaptiveQueryExecutorModel", "here", "()I"⟩, 17), (⟨"AdaptiveQueryExecutorModel", "take", "(I)V"⟩, 17), (⟨"AdaptiveQueryExecutorModel", "reference", "(II)I"⟩, 17), (⟨"AdaptiveQueryExecutorModel", "rest", "(I)V"⟩, 17), (⟨"AdaptiveQueryExecutorModel", "isOther", "(I)Z"⟩, 17), (⟨"AdaptiveQueryExecutorModel", "moves", "(III)I"⟩, 17), (⟨"AdaptiveQueryExecutorModel", "fetch", "(II[I)V"⟩, 17), (⟨"AdaptiveQueryExecutorModel", "clear", "(I)V"⟩, 17), (⟨"AdaptiveQueryExecutorModel", "isOperator", "(I)Z"⟩, 17), (⟨"AdaptiveQueryExecutorModel", "op", "(II)I"⟩, 17), (⟨"AdaptiveQueryExecutorModel", "stepOn", "()V"⟩, 17), (⟨"AdaptiveQueryExecutorModel", "spreads", "([IIIZ)I"⟩, 17)]
theorem lw_r3 : ∀ q ∈ lw_privs_3, lw_okq q := List.forall_mem_cons.mpr ⟨lw_p32, List.forall_mem_cons.mpr ⟨lw_p33, List.forall_mem_cons.mpr ⟨lw_p34, List.forall_mem_cons.mpr ⟨lw_p35, List.forall_mem_cons.mpr ⟨lw_p36, List.forall_mem_cons.mpr ⟨lw_p37, List.forall_mem_cons.mpr ⟨lw_p38, List.forall_mem_cons.mpr ⟨lw_p39, List.forall_mem_cons.mpr ⟨lw_p40, List.forall_mem_cons.mpr ⟨lw_p41, List.forall_mem_cons.mpr ⟨lw_p42, List.forall_mem_cons.mpr ⟨lw_p43, List.forall_mem_cons.mpr ⟨lw_p44, List.forall_mem_cons.mpr ⟨lw_p45, List.forall_mem_cons.mpr ⟨lw_p46, List.forall_mem_cons.mpr ⟨lw_p47, fun _ h => absurd h List.not_mem_nil⟩⟩⟩⟩⟩⟩⟩⟩⟩⟩⟩⟩⟩⟩⟩⟩
theorem lw_p48 : lw_okq (⟨"AdaptiveQueryExecutorModel", "joins", "([III)Z"⟩, 17) := ⟨⟨by decide +kernel, by decide +kernel⟩, List.mem_of_getElem? (i := 842) (by decide +kernel), List.mem_of_getElem? (i := 1046) (by decide +kernel), List.mem_of_getElem? (i := 1047) (by decide +kernel)⟩
theorem lw_p49 : lw_okq (⟨"AdaptiveQueryExecutorModel", "holds", "(I[I)Z"⟩, 17) := ⟨⟨by decide +kernel, by decide +kernel⟩, List.mem_of_getElem? (i := 842) (by decide +kernel), List.mem_of_getElem? (i := 1050) (by decide +kernel), List.mem_of_getElem? (i := 1051) (by decide +kernel)⟩
theorem lw_p50 : lw_okq (⟨"AdaptiveQueryExecutorModel", "valueOf", "([II)I"⟩, 17) := ⟨⟨by decide +kernel, by decide +kernel⟩, List.mem_of_getElem? (i := 842) (by decide +kernel), List.mem_of_getElem? (i := 1054) (by decide +kernel), List.mem_of_getElem? (i := 1055) (by decide +kernel)⟩
theorem lw_p51 : lw_okq (⟨"AdaptiveQueryExecutorModel", "readyOf", "([I)I"⟩, 17) := ⟨⟨by decide +kernel, by decide +kernel⟩, List.mem_of_getElem? (i := 842) (by decide +kernel), List.mem_of_getElem? (i := 1059) (by decide +kernel), List.mem_of_getElem? (i := 1060) (by decide +kernel)⟩
theorem lw_p52 : lw_okq (⟨"AdaptiveQueryExecutorModel", "coveredOf", "([I)I"⟩, 17) := ⟨⟨by decide +kernel, by decide +kernel⟩, List.mem_of_getElem? (i := 842) (by decide +kernel), List.mem_of_getElem? (i := 1063) (by decide +kernel), List.mem_of_getElem? (i := 1064) (by decide +kernel)⟩
theorem lw_p53 : lw_okq (⟨"AdaptiveQueryExecutorModel", "sourcesOf", "(I)I"⟩, 17) := ⟨⟨by decide +kernel, by decide +kernel⟩, List.mem_of_getElem? (i := 842) (by decide +kernel), List.mem_of_getElem? (i := 1067) (by decide +kernel), List.mem_of_getElem? (i := 1068) (by decide +kernel)⟩
theorem lw_p54 : lw_okq (⟨"AdaptiveQueryExecutorModel", "isRather", "(II)Z"⟩, 17) := ⟨⟨by decide +kernel, by decide +kernel⟩, List.mem_of_getElem? (i := 842) (by decide +kernel), List.mem_of_getElem? (i := 1071) (by decide +kernel), List.mem_of_getElem? (i := 1072) (by decide +kernel)⟩
theorem lw_p55 : lw_okq (⟨"AdaptiveQueryExecutorModel", "isLess", "(II)Z"⟩, 17) := ⟨⟨by decide +kernel, by decide +kernel⟩, List.mem_of_getElem? (i := 842) (by decide +kernel), List.mem_of_getElem? (i := 1075) (by decide +kernel), List.mem_of_getElem? (i := 1076) (by decide +kernel)⟩
theorem lw_p56 : lw_okq (⟨"AdaptiveQueryExecutorModel", "evaluates", "(I)V"⟩, 17) := ⟨⟨by decide +kernel, by decide +kernel⟩, List.mem_of_getElem? (i := 842) (by decide +kernel), List.mem_of_getElem? (i := 1079) (by decide +kernel), List.mem_of_getElem? (i := 1080) (by decide +kernel)⟩
theorem lw_p57 : lw_okq (⟨"AdaptiveQueryExecutorModel", "all", "()I"⟩, 17) := ⟨⟨by decide +kernel, by decide +kernel⟩, List.mem_of_getElem? (i := 842) (by decide +kernel), List.mem_of_getElem? (i := 1083) (by decide +kernel), List.mem_of_getElem? (i := 1084) (by decide +kernel)⟩
theorem lw_p58 : lw_okq (⟨"AdaptiveQueryExecutorModel", "probedOf", "([I)I"⟩, 17) := ⟨⟨by decide +kernel, by decide +kernel⟩, List.mem_of_getElem? (i := 842) (by decide +kernel), List.mem_of_getElem? (i := 1087) (by decide +kernel), List.mem_of_getElem? (i := 1088) (by decide +kernel)⟩
theorem lw_p59 : lw_okq (⟨"AdaptiveQueryExecutorModel", "candidates", "([II)I"⟩, 17) := ⟨⟨by decide +kernel, by decide +kernel⟩, List.mem_of_getElem? (i := 842) (by decide +kernel), List.mem_of_getElem? (i := 1091) (by decide +kernel), List.mem_of_getElem? (i := 1092) (by decide +kernel)⟩
theorem lw_p60 : lw_okq (⟨"AdaptiveQueryExecutorModel", "guideOf", "([II)I"⟩, 17) := ⟨⟨by decide +kernel, by decide +kernel⟩, List.mem_of_getElem? (i := 842) (by decide +kernel), List.mem_of_getElem? (i := 1095) (by decide +kernel), List.mem_of_getElem? (i := 1096) (by decide +kernel)⟩
theorem lw_p61 : lw_okq (⟨"AdaptiveQueryExecutorModel", "probes", "(I)V"⟩, 17) := ⟨⟨by decide +kernel, by decide +kernel⟩, List.mem_of_getElem? (i := 842) (by decide +kernel), List.mem_of_getElem? (i := 1099) (by decide +kernel), List.mem_of_getElem? (i := 1100) (by decide +kernel)⟩
theorem lw_p62 : lw_okq (⟨"AdaptiveQueryExecutorModel", "isAsked", "(I)Z"⟩, 17) := ⟨⟨by decide +kernel, by decide +kernel⟩, List.mem_of_getElem? (i := 842) (by decide +kernel), List.mem_of_getElem? (i := 1135) (by decide +kernel), List.mem_of_getElem? (i := 1136) (by decide +kernel)⟩
theorem lw_p63 : lw_okq (⟨"AdaptiveQueryExecutorModel", "isPartOf", "([I)Z"⟩, 17) := ⟨⟨by decide +kernel, by decide +kernel⟩, List.mem_of_getElem? (i := 842) (by decide +kernel), List.mem_of_getElem? (i := 1140) (by decide +kernel), List.mem_of_getElem? (i := 1141) (by decide +kernel)⟩
def lw_privs_4 : List (MethodName × Nat) := [(⟨"AdaptiveQueryExecutorModel", "joins", "([III)Z"⟩, 17), (⟨"AdaptiveQueryExecutorModel", "holds", "(I[I)Z"⟩, 17), (⟨"AdaptiveQueryExecutorModel", "valueOf", "([II)I"⟩, 17), (⟨"AdaptiveQueryExecutorModel", "readyOf", "([I)I"⟩, 17), (⟨"AdaptiveQueryExecutorModel", "coveredOf", "([I)I"⟩, 17), (⟨"AdaptiveQueryExecutorModel", "sourcesOf", "(I)I"⟩, 17), (⟨"AdaptiveQueryExecutorModel", "isRather", "(II)Z"⟩, 17), (⟨"AdaptiveQueryExecutorModel", "isLess", "(II)Z"⟩, 17), (⟨"AdaptiveQueryExecutorModel", "evaluates", "(I)V"⟩, 17), (⟨"AdaptiveQueryExecutorModel", "all", "()I"⟩, 17), (⟨"AdaptiveQueryExecutorModel", "probedOf", "([I)I"⟩, 17), (⟨"AdaptiveQueryExecutorModel", "candidates", "([II)I"⟩, 17), (⟨"AdaptiveQueryExecutorModel", "guideOf", "([II)I"⟩, 17), (⟨"AdaptiveQueryExecutorModel", "probes", "(I)V"⟩, 17), (⟨"AdaptiveQueryExecutorModel", "isAsked", "(I)Z"⟩, 17), (⟨"AdaptiveQueryExecutorModel", "isPartOf", "([I)Z"⟩, 17)]
theorem lw_r4 : ∀ q ∈ lw_privs_4, lw_okq q := List.forall_mem_cons.mpr ⟨lw_p48, List.forall_mem_cons.mpr ⟨lw_p49, List.forall_mem_cons.mpr ⟨lw_p50, List.forall_mem_cons.mpr ⟨lw_p51, List.forall_mem_cons.mpr ⟨lw_p52, List.forall_mem_cons.mpr ⟨lw_p53, List.forall_mem_cons.mpr ⟨lw_p54, List.forall_mem_cons.mpr ⟨lw_p55, List.forall_mem_cons.mpr ⟨lw_p56, List.forall_mem_cons.mpr ⟨lw_p57, List.forall_mem_cons.mpr ⟨lw_p58, List.forall_mem_cons.mpr ⟨lw_p59, List.forall_mem_cons.mpr ⟨lw_p60, List.forall_mem_cons.mpr ⟨lw_p61, List.forall_mem_cons.mpr ⟨lw_p62, List.forall_mem_cons.mpr ⟨lw_p63, fun _ h => absurd h List.not_mem_nil⟩⟩⟩⟩⟩⟩⟩⟩⟩⟩⟩⟩⟩⟩⟩⟩
theorem lw_p64 : lw_okq (⟨"AdaptiveQueryExecutorModel", "hangsOn", "(II)Z"⟩, 17) := ⟨⟨by decide +kernel, by decide +kernel⟩, List.mem_of_getElem? (i := 842) (by decide +kernel), List.mem_of_getElem? (i := 1144) (by decide +kernel), List.mem_of_getElem? (i := 1145) (by decide +kernel)⟩
theorem lw_p65 : lw_okq (⟨"AdaptiveQueryExecutorModel", "findAnswer", "()V"⟩, 17) := ⟨⟨by decide +kernel, by decide +kernel⟩, List.mem_of_getElem? (i := 842) (by decide +kernel), List.mem_of_getElem? (i := 1152) (by decide +kernel), List.mem_of_getElem? (i := 1153) (by decide +kernel)⟩
theorem lw_p66 : lw_okq (⟨"AdaptiveQueryExecutorModel", "manyOf", "(I)I"⟩, 17) := ⟨⟨by decide +kernel, by decide +kernel⟩, List.mem_of_getElem? (i := 842) (by decide +kernel), List.mem_of_getElem? (i := 1156) (by decide +kernel), List.mem_of_getElem? (i := 1157) (by decide +kernel)⟩
theorem lw_p67 : lw_okq (⟨"AdaptiveQueryExecutorModel", "isAnswer", "()Z"⟩, 17) := ⟨⟨by decide +kernel, by decide +kernel⟩, List.mem_of_getElem? (i := 842) (by decide +kernel), List.mem_of_getElem? (i := 1160) (by decide +kernel), List.mem_of_getElem? (i := 1161) (by decide +kernel)⟩
theorem lw_p68 : lw_okq (⟨"AdaptiveQueryExecutorModel", "isOutput", "()Z"⟩, 17) := ⟨⟨by decide +kernel, by decide +kernel⟩, List.mem_of_getElem? (i := 842) (by decide +kernel), List.mem_of_getElem? (i := 1164) (by decide +kernel), List.mem_of_getElem? (i := 1165) (by decide +kernel)⟩
theorem lw_p69 : lw_okq (⟨"AdaptiveQueryExecutorModel", "thinks", "(I)V"⟩, 17) := ⟨⟨by decide +kernel, by decide +kernel⟩, List.mem_of_getElem? (i := 842) (by decide +kernel), List.mem_of_getElem? (i := 1177) (by decide +kernel), List.mem_of_getElem? (i := 1178) (by decide +kernel)⟩
theorem lw_p70 : lw_okq (⟨"AdaptiveQueryExecutorModel", "activeMany", "()I"⟩, 17) := ⟨⟨by decide +kernel, by decide +kernel⟩, List.mem_of_getElem? (i := 842) (by decide +kernel), List.mem_of_getElem? (i := 1210) (by decide +kernel), List.mem_of_getElem? (i := 1211) (by decide +kernel)⟩
def lw_privs_5 : List (MethodName × Nat) := [(⟨"AdaptiveQueryExecutorModel", "hangsOn", "(II)Z"⟩, 17), (⟨"AdaptiveQueryExecutorModel", "findAnswer", "()V"⟩, 17), (⟨"AdaptiveQueryExecutorModel", "manyOf", "(I)I"⟩, 17), (⟨"AdaptiveQueryExecutorModel", "isAnswer", "()Z"⟩, 17), (⟨"AdaptiveQueryExecutorModel", "isOutput", "()Z"⟩, 17), (⟨"AdaptiveQueryExecutorModel", "thinks", "(I)V"⟩, 17), (⟨"AdaptiveQueryExecutorModel", "activeMany", "()I"⟩, 17)]
theorem lw_r5 : ∀ q ∈ lw_privs_5, lw_okq q := List.forall_mem_cons.mpr ⟨lw_p64, List.forall_mem_cons.mpr ⟨lw_p65, List.forall_mem_cons.mpr ⟨lw_p66, List.forall_mem_cons.mpr ⟨lw_p67, List.forall_mem_cons.mpr ⟨lw_p68, List.forall_mem_cons.mpr ⟨lw_p69, List.forall_mem_cons.mpr ⟨lw_p70, fun _ h => absurd h List.not_mem_nil⟩⟩⟩⟩⟩⟩⟩
def lw_privs : List (MethodName × Nat) := lw_privs_1 ++ (lw_privs_2 ++ (lw_privs_3 ++ (lw_privs_4 ++ (lw_privs_5))))
def lw_tbl : List Cond := k2_sels lw_privs ++ tables_1
theorem lw_privs_ok : ∀ q ∈ lw_privs, lw_okq q := by
  show ∀ q ∈ lw_privs_1 ++ (lw_privs_2 ++ (lw_privs_3 ++ (lw_privs_4 ++ (lw_privs_5)))), lw_okq q
  exact List.forall_mem_append.mpr ⟨lw_r1, List.forall_mem_append.mpr ⟨lw_r2, List.forall_mem_append.mpr ⟨lw_r3, List.forall_mem_append.mpr ⟨lw_r4, lw_r5⟩⟩⟩⟩
def RX0 : String := "AdaptiveQueryExecutor$Element"
def TX0 : u_T := fun k => match k with
  | _ => ("", "", "", false)
def tyX0 : Nat → FieldType := fun k => match k with
  | _ => .int
theorem nmX0 : ∀ a, a < 0 → ∀ b, b < 0 → a ≠ b → (TX0 a).2.1 ≠ (TX0 b).2.1 := by decide +kernel
theorem tyX0_ok : ∀ k, k < 0 → parseFieldDescriptor (TX0 k).2.2.1 = some (tyX0 k) := by decide +kernel
abbrev cX0_single : ByteArray := prog_2_method_2_code
def yX0_single : MethodName := ⟨RX0, "single", "(III)J"⟩
abbrev cX0_withRow : ByteArray := prog_2_method_3_code
def yX0_withRow : MethodName := ⟨RX0, "withRow", "(JII)J"⟩
abbrev cX0_withOrigin : ByteArray := prog_2_method_4_code
def yX0_withOrigin : MethodName := ⟨RX0, "withOrigin", "(JI)J"⟩
abbrev cX0_withPassed : ByteArray := prog_2_method_5_code
def yX0_withPassed : MethodName := ⟨RX0, "withPassed", "(JI)J"⟩
abbrev cX0_parkedAt : ByteArray := prog_2_method_6_code
def yX0_parkedAt : MethodName := ⟨RX0, "parkedAt", "(JI)J"⟩
abbrev cX0_probeAt : ByteArray := prog_2_method_7_code
def yX0_probeAt : MethodName := ⟨RX0, "probeAt", "(JII)J"⟩
abbrev cX0_repeated : ByteArray := prog_2_method_8_code
def yX0_repeated : MethodName := ⟨RX0, "repeated", "(J)J"⟩
abbrev cX0_partialOf : ByteArray := prog_2_method_9_code
def yX0_partialOf : MethodName := ⟨RX0, "partialOf", "(J)J"⟩
abbrev cX0_rowOf : ByteArray := prog_2_method_10_code
def yX0_rowOf : MethodName := ⟨RX0, "rowOf", "(JI)I"⟩
abbrev cX0_covered : ByteArray := prog_2_method_11_code
def yX0_covered : MethodName := ⟨RX0, "covered", "(J)I"⟩
abbrev cX0_origin : ByteArray := prog_2_method_12_code
def yX0_origin : MethodName := ⟨RX0, "origin", "(J)I"⟩
abbrev cX0_passed : ByteArray := prog_2_method_13_code
def yX0_passed : MethodName := ⟨RX0, "passed", "(J)I"⟩
abbrev cX0_operatorOf : ByteArray := prog_2_method_14_code
def yX0_operatorOf : MethodName := ⟨RX0, "operatorOf", "(J)I"⟩
abbrev cX0_sourceOf : ByteArray := prog_2_method_15_code
def yX0_sourceOf : MethodName := ⟨RX0, "sourceOf", "(J)I"⟩
abbrev cX0_isRepeated : ByteArray := prog_2_method_16_code
def yX0_isRepeated : MethodName := ⟨RX0, "isRepeated", "(J)Z"⟩
abbrev cX0_isPartOf : ByteArray := prog_2_method_17_code
def yX0_isPartOf : MethodName := ⟨RX0, "isPartOf", "(JJ)Z"⟩
def RX1 : String := "AdaptiveQueryExecutor$Events"
def TX1 : u_T := fun k => match k with
  | 0 => ("AdaptiveQueryExecutor$Events", "ring", "[I", true)
  | _ => ("AdaptiveQueryExecutor$Events", "total", "I", false)
def tyX1 : Nat → FieldType := fun k => match k with
  | 0 => .array .int
  | _ => .int
theorem nmX1 : ∀ a, a < 2 → ∀ b, b < 2 → a ≠ b → (TX1 a).2.1 ≠ (TX1 b).2.1 := by decide +kernel
theorem tyX1_ok : ∀ k, k < 2 → parseFieldDescriptor (TX1 k).2.2.1 = some (tyX1 k) := by decide +kernel
abbrev cX1_init : ByteArray := prog_3_method_1_code
def yX1_init : MethodName := ⟨RX1, "<init>", "()V"⟩
abbrev cX1_add : ByteArray := prog_3_method_2_code
def yX1_add : MethodName := ⟨RX1, "add", "(I)V"⟩
abbrev cX1_kept : ByteArray := prog_3_method_3_code
def yX1_kept : MethodName := ⟨RX1, "kept", "()I"⟩
abbrev cX1_get : ByteArray := prog_3_method_4_code
def yX1_get : MethodName := ⟨RX1, "get", "(I)I"⟩
abbrev cX1_copyFrom : ByteArray := prog_3_method_5_code
def yX1_copyFrom : MethodName := ⟨RX1, "copyFrom", "(LAdaptiveQueryExecutor$Events;)V"⟩
def RX2 : String := "AdaptiveQueryExecutor$Ledger"
def TX2 : u_T := fun k => match k with
  | 0 => ("AdaptiveQueryExecutor$Ledger", "ring", "[J", false)
  | 1 => ("AdaptiveQueryExecutor$Ledger", "head", "I", false)
  | _ => ("AdaptiveQueryExecutor$Ledger", "size", "I", false)
def tyX2 : Nat → FieldType := fun k => match k with
  | 0 => .array .long
  | 1 => .int
  | _ => .int
theorem nmX2 : ∀ a, a < 3 → ∀ b, b < 3 → a ≠ b → (TX2 a).2.1 ≠ (TX2 b).2.1 := by decide +kernel
theorem tyX2_ok : ∀ k, k < 3 → parseFieldDescriptor (TX2 k).2.2.1 = some (tyX2 k) := by decide +kernel
abbrev cX2_init : ByteArray := prog_4_method_1_code
def yX2_init : MethodName := ⟨RX2, "<init>", "()V"⟩
abbrev cX2_get : ByteArray := prog_4_method_2_code
def yX2_get : MethodName := ⟨RX2, "get", "(I)J"⟩
abbrev cX2_add : ByteArray := prog_4_method_3_code
def yX2_add : MethodName := ⟨RX2, "add", "(J)V"⟩
abbrev cX2_grow : ByteArray := prog_4_method_4_code
def yX2_grow : MethodName := ⟨RX2, "grow", "()V"⟩
abbrev cX2_takeFirst : ByteArray := prog_4_method_5_code
def yX2_takeFirst : MethodName := ⟨RX2, "takeFirst", "()J"⟩
abbrev cX2_takeLast : ByteArray := prog_4_method_6_code
def yX2_takeLast : MethodName := ⟨RX2, "takeLast", "()J"⟩
abbrev cX2_forgetRow : ByteArray := prog_4_method_7_code
def yX2_forgetRow : MethodName := ⟨RX2, "forgetRow", "(II)I"⟩
abbrev cX2_put : ByteArray := prog_4_method_8_code
def yX2_put : MethodName := ⟨RX2, "put", "(IJ)V"⟩
abbrev cX2_countAt : ByteArray := prog_4_method_9_code
def yX2_countAt : MethodName := ⟨RX2, "countAt", "(I)I"⟩
abbrev cX2_release : ByteArray := prog_4_method_10_code
def yX2_release : MethodName := ⟨RX2, "release", "(IZLAdaptiveQueryExecutor$Ledger;)I"⟩
abbrev cX2_moveAllTo : ByteArray := prog_4_method_11_code
def yX2_moveAllTo : MethodName := ⟨RX2, "moveAllTo", "(LAdaptiveQueryExecutor$Ledger;)V"⟩
abbrev cX2_copyFrom : ByteArray := prog_4_method_12_code
def yX2_copyFrom : MethodName := ⟨RX2, "copyFrom", "(LAdaptiveQueryExecutor$Ledger;)V"⟩
def RX3 : String := "AdaptiveQueryExecutor$Operator"
def TX3 : u_T := fun k => match k with
  | 0 => ("AdaptiveQueryExecutor$Operator", "kind", "I", false)
  | 1 => ("AdaptiveQueryExecutor$Operator", "cost", "I", false)
  | 2 => ("AdaptiveQueryExecutor$Operator", "active", "Z", false)
  | 3 => ("AdaptiveQueryExecutor$Operator", "evaluated", "I", false)
  | 4 => ("AdaptiveQueryExecutor$Operator", "passed", "I", false)
  | 5 => ("AdaptiveQueryExecutor$Operator", "leftSource", "I", false)
  | 6 => ("AdaptiveQueryExecutor$Operator", "leftValue", "I", false)
  | 7 => ("AdaptiveQueryExecutor$Operator", "rightSource", "I", false)
  | 8 => ("AdaptiveQueryExecutor$Operator", "rightValue", "I", false)
  | 9 => ("AdaptiveQueryExecutor$Operator", "relation", "I", false)
  | 10 => ("AdaptiveQueryExecutor$Operator", "number", "I", false)
  | _ => ("AdaptiveQueryExecutor$Operator", "remainder", "I", false)
def tyX3 : Nat → FieldType := fun k => match k with
  | 0 => .int
  | 1 => .int
  | 2 => .boolean
  | 3 => .int
  | 4 => .int
  | 5 => .int
  | 6 => .int
  | 7 => .int
  | 8 => .int
  | 9 => .int
  | 10 => .int
  | _ => .int
theorem nmX3 : ∀ a, a < 12 → ∀ b, b < 12 → a ≠ b → (TX3 a).2.1 ≠ (TX3 b).2.1 := by decide +kernel
theorem tyX3_ok : ∀ k, k < 12 → parseFieldDescriptor (TX3 k).2.2.1 = some (tyX3 k) := by decide +kernel
abbrev cX3_init : ByteArray := prog_5_method_1_code
def yX3_init : MethodName := ⟨RX3, "<init>", "()V"⟩
abbrev cX3_begin : ByteArray := prog_5_method_2_code
def yX3_begin : MethodName := ⟨RX3, "begin", "()V"⟩
abbrev cX3_sources : ByteArray := prog_5_method_3_code
def yX3_sources : MethodName := ⟨RX3, "sources", "()I"⟩
abbrev cX3_holdsFor : ByteArray := prog_5_method_4_code
def yX3_holdsFor : MethodName := ⟨RX3, "holdsFor", "(II)Z"⟩
abbrev cX3_rankNumerator : ByteArray := prog_5_method_5_code
def yX3_rankNumerator : MethodName := ⟨RX3, "rankNumerator", "()J"⟩
abbrev cX3_rankDenominator : ByteArray := prog_5_method_6_code
def yX3_rankDenominator : MethodName := ⟨RX3, "rankDenominator", "()J"⟩
abbrev cX3_ranksBefore : ByteArray := prog_5_method_7_code
def yX3_ranksBefore : MethodName := ⟨RX3, "ranksBefore", "(LAdaptiveQueryExecutor$Operator;)Z"⟩
abbrev cX3_copyFrom : ByteArray := prog_5_method_8_code
def yX3_copyFrom : MethodName := ⟨RX3, "copyFrom", "(LAdaptiveQueryExecutor$Operator;)V"⟩
def RX4 : String := "AdaptiveQueryExecutor$Source"
def TX4 : u_T := fun k => match k with
  | 0 => ("AdaptiveQueryExecutor$Source", "width", "I", false)
  | 1 => ("AdaptiveQueryExecutor$Source", "window", "I", false)
  | 2 => ("AdaptiveQueryExecutor$Source", "rows", "I", false)
  | 3 => ("AdaptiveQueryExecutor$Source", "live", "I", false)
  | 4 => ("AdaptiveQueryExecutor$Source", "probes", "I", false)
  | 5 => ("AdaptiveQueryExecutor$Source", "matches", "I", false)
  | 6 => ("AdaptiveQueryExecutor$Source", "duplicates", "I", false)
  | 7 => ("AdaptiveQueryExecutor$Source", "keys", "[I", true)
  | 8 => ("AdaptiveQueryExecutor$Source", "arrivals", "[I", true)
  | _ => ("AdaptiveQueryExecutor$Source", "values", "[I", true)
def tyX4 : Nat → FieldType := fun k => match k with
  | 0 => .int
  | 1 => .int
  | 2 => .int
  | 3 => .int
  | 4 => .int
  | 5 => .int
  | 6 => .int
  | 7 => .array .int
  | 8 => .array .int
  | _ => .array .int
theorem nmX4 : ∀ a, a < 10 → ∀ b, b < 10 → a ≠ b → (TX4 a).2.1 ≠ (TX4 b).2.1 := by decide +kernel
theorem tyX4_ok : ∀ k, k < 10 → parseFieldDescriptor (TX4 k).2.2.1 = some (tyX4 k) := by decide +kernel
abbrev cX4_init : ByteArray := prog_6_method_1_code
def yX4_init : MethodName := ⟨RX4, "<init>", "()V"⟩
abbrev cX4_hasRow : ByteArray := prog_6_method_2_code
def yX4_hasRow : MethodName := ⟨RX4, "hasRow", "(I)Z"⟩
abbrev cX4_isLive : ByteArray := prog_6_method_3_code
def yX4_isLive : MethodName := ⟨RX4, "isLive", "(I)Z"⟩
abbrev cX4_hasKey : ByteArray := prog_6_method_4_code
def yX4_hasKey : MethodName := ⟨RX4, "hasKey", "(I)Z"⟩
abbrev cX4_addRow : ByteArray := prog_6_method_5_code
def yX4_addRow : MethodName := ⟨RX4, "addRow", "(II)I"⟩
abbrev cX4_setValues : ByteArray := prog_6_method_6_code
def yX4_setValues : MethodName := ⟨RX4, "setValues", "(IIII)V"⟩
abbrev cX4_keyAt : ByteArray := prog_6_method_7_code
def yX4_keyAt : MethodName := ⟨RX4, "keyAt", "(I)I"⟩
abbrev cX4_arrivalAt : ByteArray := prog_6_method_8_code
def yX4_arrivalAt : MethodName := ⟨RX4, "arrivalAt", "(I)I"⟩
abbrev cX4_valueAt : ByteArray := prog_6_method_9_code
def yX4_valueAt : MethodName := ⟨RX4, "valueAt", "(II)I"⟩
abbrev cX4_liveBefore : ByteArray := prog_6_method_10_code
def yX4_liveBefore : MethodName := ⟨RX4, "liveBefore", "(I)I"⟩
abbrev cX4_copyFrom : ByteArray := prog_6_method_11_code
def yX4_copyFrom : MethodName := ⟨RX4, "copyFrom", "(LAdaptiveQueryExecutor$Source;)V"⟩
def RX5 : String := "AdaptiveQueryExecutor$State"
def TX5 : u_T := fun k => match k with
  | 0 => ("AdaptiveQueryExecutor$State", "sources", "[LAdaptiveQueryExecutor$Source;", true)
  | 1 => ("AdaptiveQueryExecutor$State", "sourceCount", "I", false)
  | 2 => ("AdaptiveQueryExecutor$State", "operators", "[LAdaptiveQueryExecutor$Operator;", true)
  | 3 => ("AdaptiveQueryExecutor$State", "operatorCount", "I", false)
  | 4 => ("AdaptiveQueryExecutor$State", "queue", "LAdaptiveQueryExecutor$Ledger;", true)
  | 5 => ("AdaptiveQueryExecutor$State", "parked", "LAdaptiveQueryExecutor$Ledger;", true)
  | 6 => ("AdaptiveQueryExecutor$State", "probes", "LAdaptiveQueryExecutor$Ledger;", true)
  | 7 => ("AdaptiveQueryExecutor$State", "outputs", "LAdaptiveQueryExecutor$Ledger;", true)
  | 8 => ("AdaptiveQueryExecutor$State", "tape", "LAdaptiveQueryExecutor$Tape;", true)
  | 9 => ("AdaptiveQueryExecutor$State", "events", "LAdaptiveQueryExecutor$Events;", true)
  | 10 => ("AdaptiveQueryExecutor$State", "policy", "I", false)
  | 11 => ("AdaptiveQueryExecutor$State", "discipline", "I", false)
  | 12 => ("AdaptiveQueryExecutor$State", "arrivals", "I", false)
  | 13 => ("AdaptiveQueryExecutor$State", "steps", "I", false)
  | _ => ("AdaptiveQueryExecutor$State", "work", "I", false)
def tyX5 : Nat → FieldType := fun k => match k with
  | 0 => .array (.object "AdaptiveQueryExecutor$Source")
  | 1 => .int
  | 2 => .array (.object "AdaptiveQueryExecutor$Operator")
  | 3 => .int
  | 4 => .object "AdaptiveQueryExecutor$Ledger"
  | 5 => .object "AdaptiveQueryExecutor$Ledger"
  | 6 => .object "AdaptiveQueryExecutor$Ledger"
  | 7 => .object "AdaptiveQueryExecutor$Ledger"
  | 8 => .object "AdaptiveQueryExecutor$Tape"
  | 9 => .object "AdaptiveQueryExecutor$Events"
  | 10 => .int
  | 11 => .int
  | 12 => .int
  | 13 => .int
  | _ => .int
theorem nmX5 : ∀ a, a < 15 → ∀ b, b < 15 → a ≠ b → (TX5 a).2.1 ≠ (TX5 b).2.1 := by decide +kernel
theorem tyX5_ok : ∀ k, k < 15 → parseFieldDescriptor (TX5 k).2.2.1 = some (tyX5 k) := by decide +kernel
abbrev cX5_init : ByteArray := prog_7_method_1_code
def yX5_init : MethodName := ⟨RX5, "<init>", "()V"⟩
abbrev cX5_copyFrom : ByteArray := prog_7_method_2_code
def yX5_copyFrom : MethodName := ⟨RX5, "copyFrom", "(LAdaptiveQueryExecutor$State;)V"⟩
abbrev cX5_hasSource : ByteArray := prog_7_method_3_code
def yX5_hasSource : MethodName := ⟨RX5, "hasSource", "(I)Z"⟩
abbrev cX5_addSource : ByteArray := prog_7_method_4_code
def yX5_addSource : MethodName := ⟨RX5, "addSource", "(I)I"⟩
abbrev cX5_keepWindow : ByteArray := prog_7_method_5_code
def yX5_keepWindow : MethodName := ⟨RX5, "keepWindow", "(I)V"⟩
abbrev cX5_dropRow : ByteArray := prog_7_method_6_code
def yX5_dropRow : MethodName := ⟨RX5, "dropRow", "(II)I"⟩
abbrev cX5_hasOperator : ByteArray := prog_7_method_7_code
def yX5_hasOperator : MethodName := ⟨RX5, "hasOperator", "(I)Z"⟩
abbrev cX5_addOperator : ByteArray := prog_7_method_8_code
def yX5_addOperator : MethodName := ⟨RX5, "addOperator", "()I"⟩
abbrev cX5_removeOperator : ByteArray := prog_7_method_9_code
def yX5_removeOperator : MethodName := ⟨RX5, "removeOperator", "(I)I"⟩
abbrev cX5_activeOperators : ByteArray := prog_7_method_10_code
def yX5_activeOperators : MethodName := ⟨RX5, "activeOperators", "()I"⟩
abbrev cX5_holds : ByteArray := prog_7_method_11_code
def yX5_holds : MethodName := ⟨RX5, "holds", "(IJ)Z"⟩
abbrev cX5_nextIndex : ByteArray := prog_7_method_12_code
def yX5_nextIndex : MethodName := ⟨RX5, "nextIndex", "()I"⟩
abbrev cX5_takeStep : ByteArray := prog_7_method_13_code
def yX5_takeStep : MethodName := ⟨RX5, "takeStep", "()V"⟩
abbrev cX5_chooseOperator : ByteArray := prog_7_method_14_code
def yX5_chooseOperator : MethodName := ⟨RX5, "chooseOperator", "(J)I"⟩
abbrev cX5_isPreferred : ByteArray := prog_7_method_15_code
def yX5_isPreferred : MethodName := ⟨RX5, "isPreferred", "(LAdaptiveQueryExecutor$Operator;LAdaptiveQueryExecutor$Operator;)Z"⟩
abbrev cX5_evaluate : ByteArray := prog_7_method_16_code
def yX5_evaluate : MethodName := ⟨RX5, "evaluate", "(IJ)V"⟩
abbrev cX5_chooseSource : ByteArray := prog_7_method_17_code
def yX5_chooseSource : MethodName := ⟨RX5, "chooseSource", "(J)I"⟩
abbrev cX5_guideTo : ByteArray := prog_7_method_18_code
def yX5_guideTo : MethodName := ⟨RX5, "guideTo", "(IJ)I"⟩
abbrev cX5_candidatesIn : ByteArray := prog_7_method_19_code
def yX5_candidatesIn : MethodName := ⟨RX5, "candidatesIn", "(IJIZ)I"⟩
abbrev cX5_probe : ByteArray := prog_7_method_20_code
def yX5_probe : MethodName := ⟨RX5, "probe", "(IJ)V"⟩
abbrev cX5_probeAgain : ByteArray := prog_7_method_21_code
def yX5_probeAgain : MethodName := ⟨RX5, "probeAgain", "(J)V"⟩
abbrev cX5_extend : ByteArray := prog_7_method_22_code
def yX5_extend : MethodName := ⟨RX5, "extend", "(JII)V"⟩
abbrev cX5_combinationOf : ByteArray := prog_7_method_23_code
def yX5_combinationOf : MethodName := ⟨RX5, "combinationOf", "(I)J"⟩
abbrev cX5_placeOf : ByteArray := prog_7_method_24_code
def yX5_placeOf : MethodName := ⟨RX5, "placeOf", "(J)I"⟩
abbrev cX5_missedBy : ByteArray := prog_7_method_25_code
def yX5_missedBy : MethodName := ⟨RX5, "missedBy", "(JJ)Z"⟩
abbrev cX5_tallyFrom : ByteArray := prog_7_method_26_code
def yX5_tallyFrom : MethodName := ⟨RX5, "tallyFrom", "(IJILAdaptiveQueryExecutor$Tally;)V"⟩
abbrev cX5_allHold : ByteArray := prog_7_method_27_code
def yX5_allHold : MethodName := ⟨RX5, "allHold", "(J)Z"⟩
abbrev cX5_isSettledOn : ByteArray := prog_7_method_28_code
def yX5_isSettledOn : MethodName := ⟨RX5, "isSettledOn", "(I)Z"⟩
def RX6 : String := "AdaptiveQueryExecutor$Tally"
def TX6 : u_T := fun k => match k with
  | 0 => ("AdaptiveQueryExecutor$Tally", "combinations", "I", false)
  | _ => ("AdaptiveQueryExecutor$Tally", "leastCode", "I", false)
def tyX6 : Nat → FieldType := fun k => match k with
  | 0 => .int
  | _ => .int
theorem nmX6 : ∀ a, a < 2 → ∀ b, b < 2 → a ≠ b → (TX6 a).2.1 ≠ (TX6 b).2.1 := by decide +kernel
theorem tyX6_ok : ∀ k, k < 2 → parseFieldDescriptor (TX6 k).2.2.1 = some (tyX6 k) := by decide +kernel
abbrev cX6_init : ByteArray := prog_8_method_1_code
def yX6_init : MethodName := ⟨RX6, "<init>", "()V"⟩
abbrev cX6_add : ByteArray := prog_8_method_2_code
def yX6_add : MethodName := ⟨RX6, "add", "(I)V"⟩
def RX7 : String := "AdaptiveQueryExecutor$Tape"
def TX7 : u_T := fun k => match k with
  | 0 => ("AdaptiveQueryExecutor$Tape", "signs", "[B", true)
  | _ => ("AdaptiveQueryExecutor$Tape", "length", "I", false)
def tyX7 : Nat → FieldType := fun k => match k with
  | 0 => .array .byte
  | _ => .int
theorem nmX7 : ∀ a, a < 2 → ∀ b, b < 2 → a ≠ b → (TX7 a).2.1 ≠ (TX7 b).2.1 := by decide +kernel
theorem tyX7_ok : ∀ k, k < 2 → parseFieldDescriptor (TX7 k).2.2.1 = some (tyX7 k) := by decide +kernel
abbrev cX7_init : ByteArray := prog_9_method_1_code
def yX7_init : MethodName := ⟨RX7, "<init>", "()V"⟩
abbrev cX7_append : ByteArray := prog_9_method_2_code
def yX7_append : MethodName := ⟨RX7, "append", "(I)I"⟩
abbrev cX7_signAt : ByteArray := prog_9_method_3_code
def yX7_signAt : MethodName := ⟨RX7, "signAt", "(I)I"⟩
abbrev cX7_copyFrom : ByteArray := prog_9_method_4_code
def yX7_copyFrom : MethodName := ⟨RX7, "copyFrom", "(LAdaptiveQueryExecutor$Tape;)V"⟩
def RX8 : String := "AdaptiveQueryExecutor$TextReader"
def TX8 : u_T := fun k => match k with
  | 0 => ("AdaptiveQueryExecutor$TextReader", "state", "LAdaptiveQueryExecutor$State;", true)
  | 1 => ("AdaptiveQueryExecutor$TextReader", "tape", "LAdaptiveQueryExecutor$Tape;", true)
  | 2 => ("AdaptiveQueryExecutor$TextReader", "at", "I", false)
  | _ => ("AdaptiveQueryExecutor$TextReader", "wrong", "Z", false)
def tyX8 : Nat → FieldType := fun k => match k with
  | 0 => .object "AdaptiveQueryExecutor$State"
  | 1 => .object "AdaptiveQueryExecutor$Tape"
  | 2 => .int
  | _ => .boolean
theorem nmX8 : ∀ a, a < 4 → ∀ b, b < 4 → a ≠ b → (TX8 a).2.1 ≠ (TX8 b).2.1 := by decide +kernel
theorem tyX8_ok : ∀ k, k < 4 → parseFieldDescriptor (TX8 k).2.2.1 = some (tyX8 k) := by decide +kernel
abbrev cX8_init : ByteArray := prog_10_method_1_code
def yX8_init : MethodName := ⟨RX8, "<init>", "(LAdaptiveQueryExecutor$State;)V"⟩
abbrev cX8_readOperator : ByteArray := prog_10_method_2_code
def yX8_readOperator : MethodName := ⟨RX8, "readOperator", "(LAdaptiveQueryExecutor$Operator;)Z"⟩
abbrev cX8_readCondition : ByteArray := prog_10_method_3_code
def yX8_readCondition : MethodName := ⟨RX8, "readCondition", "(LAdaptiveQueryExecutor$Operator;)V"⟩
abbrev cX8_readComparison : ByteArray := prog_10_method_4_code
def yX8_readComparison : MethodName := ⟨RX8, "readComparison", "(LAdaptiveQueryExecutor$Operator;II)V"⟩
abbrev cX8_readOther : ByteArray := prog_10_method_5_code
def yX8_readOther : MethodName := ⟨RX8, "readOther", "(LAdaptiveQueryExecutor$Operator;)V"⟩
abbrev cX8_readValueOf : ByteArray := prog_10_method_6_code
def yX8_readValueOf : MethodName := ⟨RX8, "readValueOf", "(I)I"⟩
abbrev cX8_readSigned : ByteArray := prog_10_method_7_code
def yX8_readSigned : MethodName := ⟨RX8, "readSigned", "()I"⟩
abbrev cX8_readNumber : ByteArray := prog_10_method_8_code
def yX8_readNumber : MethodName := ⟨RX8, "readNumber", "(II)I"⟩
abbrev cX8_isDigit : ByteArray := prog_10_method_9_code
def yX8_isDigit : MethodName := ⟨RX8, "isDigit", "(I)Z"⟩
abbrev cX8_readDigit : ByteArray := prog_10_method_10_code
def yX8_readDigit : MethodName := ⟨RX8, "readDigit", "(II)I"⟩
abbrev cX8_expect : ByteArray := prog_10_method_11_code
def yX8_expect : MethodName := ⟨RX8, "expect", "(C)V"⟩
abbrev cX8_take : ByteArray := prog_10_method_12_code
def yX8_take : MethodName := ⟨RX8, "take", "(C)Z"⟩
def RX9 : String := "AdaptiveQueryExecutor"
def TX9 : u_T := fun k => match k with
  | 0 => ("AdaptiveQueryExecutor", "state", "LAdaptiveQueryExecutor$State;", true)
  | 1 => ("AdaptiveQueryExecutor", "saved", "LAdaptiveQueryExecutor$State;", false)
  | _ => ("AdaptiveQueryExecutor", "trial", "LAdaptiveQueryExecutor$State;", false)
def tyX9 : Nat → FieldType := fun k => match k with
  | 0 => .object "AdaptiveQueryExecutor$State"
  | 1 => .object "AdaptiveQueryExecutor$State"
  | _ => .object "AdaptiveQueryExecutor$State"
theorem nmX9 : ∀ a, a < 3 → ∀ b, b < 3 → a ≠ b → (TX9 a).2.1 ≠ (TX9 b).2.1 := by decide +kernel
theorem tyX9_ok : ∀ k, k < 3 → parseFieldDescriptor (TX9 k).2.2.1 = some (tyX9 k) := by decide +kernel
abbrev cX9_init : ByteArray := prog_1_method_1_code
def yX9_init : MethodName := ⟨RX9, "<init>", "()V"⟩
abbrev cX9_source : ByteArray := prog_1_method_2_code
def yX9_source : MethodName := ⟨RX9, "source", "(I)I"⟩
abbrev cX9_window : ByteArray := prog_1_method_3_code
def yX9_window : MethodName := ⟨RX9, "window", "(II)I"⟩
abbrev cX9_deliver : ByteArray := prog_1_method_4_code
def yX9_deliver : MethodName := ⟨RX9, "deliver", "(IIIII)I"⟩
abbrev cX9_fits : ByteArray := prog_1_method_5_code
def yX9_fits : MethodName := ⟨RX9, "fits", "(I)Z"⟩
abbrev cX9_drop : ByteArray := prog_1_method_6_code
def yX9_drop : MethodName := ⟨RX9, "drop", "(II)I"⟩
abbrev cX9_feed : ByteArray := prog_1_method_7_code
def yX9_feed : MethodName := ⟨RX9, "feed", "(I)I"⟩
abbrev cX9_operator : ByteArray := prog_1_method_8_code
def yX9_operator : MethodName := ⟨RX9, "operator", "()I"⟩
abbrev cX9_remove : ByteArray := prog_1_method_9_code
def yX9_remove : MethodName := ⟨RX9, "remove", "(I)I"⟩
abbrev cX9_policy : ByteArray := prog_1_method_10_code
def yX9_policy : MethodName := ⟨RX9, "policy", "(I)I"⟩
abbrev cX9_discipline : ByteArray := prog_1_method_11_code
def yX9_discipline : MethodName := ⟨RX9, "discipline", "(I)I"⟩
abbrev cX9_step : ByteArray := prog_1_method_12_code
def yX9_step : MethodName := ⟨RX9, "step", "(I)I"⟩
abbrev cX9_run : ByteArray := prog_1_method_13_code
def yX9_run : MethodName := ⟨RX9, "run", "(I)I"⟩
abbrev cX9_next : ByteArray := prog_1_method_14_code
def yX9_next : MethodName := ⟨RX9, "next", "()I"⟩
abbrev cX9_pending : ByteArray := prog_1_method_15_code
def yX9_pending : MethodName := ⟨RX9, "pending", "(II)I"⟩
abbrev cX9_pendingRow : ByteArray := prog_1_method_16_code
def yX9_pendingRow : MethodName := ⟨RX9, "pendingRow", "(JI)I"⟩
abbrev cX9_told : ByteArray := prog_1_method_17_code
def yX9_told : MethodName := ⟨RX9, "told", "(II)I"⟩
abbrev cX9_of : ByteArray := prog_1_method_18_code
def yX9_of : MethodName := ⟨RX9, "of", "(II)I"⟩
abbrev cX9_value : ByteArray := prog_1_method_19_code
def yX9_value : MethodName := ⟨RX9, "value", "(III)I"⟩
abbrev cX9_output : ByteArray := prog_1_method_20_code
def yX9_output : MethodName := ⟨RX9, "output", "(II)I"⟩
abbrev cX9_where : ByteArray := prog_1_method_21_code
def yX9_where : MethodName := ⟨RX9, "where", "(I)I"⟩
abbrev cX9_answer : ByteArray := prog_1_method_22_code
def yX9_answer : MethodName := ⟨RX9, "answer", "(I)I"⟩
abbrev cX9_rank : ByteArray := prog_1_method_23_code
def yX9_rank : MethodName := ⟨RX9, "rank", "(II)J"⟩
abbrev cX9_commonDivisor : ByteArray := prog_1_method_24_code
def yX9_commonDivisor : MethodName := ⟨RX9, "commonDivisor", "(JJ)J"⟩
abbrev cX9_would : ByteArray := prog_1_method_25_code
def yX9_would : MethodName := ⟨RX9, "would", "(II)I"⟩
abbrev cX9_best : ByteArray := prog_1_method_26_code
def yX9_best : MethodName := ⟨RX9, "best", "()I"⟩
abbrev cX9_simulated : ByteArray := prog_1_method_27_code
def yX9_simulated : MethodName := ⟨RX9, "simulated", "(I)LAdaptiveQueryExecutor$State;"⟩
abbrev cX9_age : ByteArray := prog_1_method_28_code
def yX9_age : MethodName := ⟨RX9, "age", "()I"⟩
abbrev cX9_event : ByteArray := prog_1_method_29_code
def yX9_event : MethodName := ⟨RX9, "event", "(I)I"⟩
abbrev cX9_image : ByteArray := prog_1_method_30_code
def yX9_image : MethodName := ⟨RX9, "image", "()I"⟩
abbrev cX9_undo : ByteArray := prog_1_method_31_code
def yX9_undo : MethodName := ⟨RX9, "undo", "()I"⟩
abbrev cX9_count : ByteArray := prog_1_method_32_code
def yX9_count : MethodName := ⟨RX9, "count", "(I)I"⟩
abbrev cX9_asInt : ByteArray := prog_1_method_33_code
def yX9_asInt : MethodName := ⟨RX9, "asInt", "(Z)I"⟩
def RX10 : String := "AdaptiveQueryExecutorModel"
def TX10 : u_T := fun k => match k with
  | 0 => ("AdaptiveQueryExecutorModel", "m", "[I", true)
  | 1 => ("AdaptiveQueryExecutorModel", "list", "[[I", true)
  | 2 => ("AdaptiveQueryExecutorModel", "savedM", "[I", true)
  | 3 => ("AdaptiveQueryExecutorModel", "savedList", "[[I", false)
  | 4 => ("AdaptiveQueryExecutorModel", "isSaved", "Z", false)
  | 5 => ("AdaptiveQueryExecutorModel", "cur", "[I", true)
  | 6 => ("AdaptiveQueryExecutorModel", "size", "I", false)
  | 7 => ("AdaptiveQueryExecutorModel", "place", "I", false)
  | 8 => ("AdaptiveQueryExecutorModel", "isBad", "Z", false)
  | 9 => ("AdaptiveQueryExecutorModel", "read", "[I", true)
  | 10 => ("AdaptiveQueryExecutorModel", "joined", "[I", true)
  | 11 => ("AdaptiveQueryExecutorModel", "asked", "[I", true)
  | 12 => ("AdaptiveQueryExecutorModel", "answers", "I", false)
  | 13 => ("AdaptiveQueryExecutorModel", "leastCode", "I", false)
  | 14 => ("AdaptiveQueryExecutorModel", "areOutputs", "Z", false)
  | 15 => ("AdaptiveQueryExecutorModel", "asideM", "[I", true)
  | _ => ("AdaptiveQueryExecutorModel", "result", "[I", true)
def tyX10 : Nat → FieldType := fun k => match k with
  | 0 => .array .int
  | 1 => .array (.array .int)
  | 2 => .array .int
  | 3 => .array (.array .int)
  | 4 => .boolean
  | 5 => .array .int
  | 6 => .int
  | 7 => .int
  | 8 => .boolean
  | 9 => .array .int
  | 10 => .array .int
  | 11 => .array .int
  | 12 => .int
  | 13 => .int
  | 14 => .boolean
  | 15 => .array .int
  | _ => .array .int
theorem nmX10 : ∀ a, a < 17 → ∀ b, b < 17 → a ≠ b → (TX10 a).2.1 ≠ (TX10 b).2.1 := by decide +kernel
theorem tyX10_ok : ∀ k, k < 17 → parseFieldDescriptor (TX10 k).2.2.1 = some (tyX10 k) := by decide +kernel
abbrev cX10_init : ByteArray := prog_12_method_1_code
def yX10_init : MethodName := ⟨RX10, "<init>", "()V"⟩
abbrev cX10_in : ByteArray := prog_12_method_3_code
def yX10_in : MethodName := ⟨RX10, "in", "(III)Z"⟩
abbrev cX10_isSource : ByteArray := prog_12_method_4_code
def yX10_isSource : MethodName := ⟨RX10, "isSource", "(I)Z"⟩
abbrev cX10_isRow : ByteArray := prog_12_method_5_code
def yX10_isRow : MethodName := ⟨RX10, "isRow", "(II)Z"⟩
abbrev cX10_isOperator : ByteArray := prog_12_method_6_code
def yX10_isOperator : MethodName := ⟨RX10, "isOperator", "(I)Z"⟩
abbrev cX10_op : ByteArray := prog_12_method_7_code
def yX10_op : MethodName := ⟨RX10, "op", "(II)I"⟩
abbrev cX10_sizeOf : ByteArray := prog_12_method_8_code
def yX10_sizeOf : MethodName := ⟨RX10, "sizeOf", "(I)I"⟩
abbrev cX10_happens : ByteArray := prog_12_method_9_code
def yX10_happens : MethodName := ⟨RX10, "happens", "(I)V"⟩
abbrev cX10_append : ByteArray := prog_12_method_10_code
def yX10_append : MethodName := ⟨RX10, "append", "(I[I)V"⟩
abbrev cX10_fetch : ByteArray := prog_12_method_11_code
def yX10_fetch : MethodName := ⟨RX10, "fetch", "(II[I)V"⟩
abbrev cX10_clear : ByteArray := prog_12_method_12_code
def yX10_clear : MethodName := ⟨RX10, "clear", "(I)V"⟩
abbrev cX10_moves : ByteArray := prog_12_method_13_code
def yX10_moves : MethodName := ⟨RX10, "moves", "(III)I"⟩
abbrev cX10_leaves : ByteArray := prog_12_method_14_code
def yX10_leaves : MethodName := ⟨RX10, "leaves", "(III)I"⟩
abbrev cX10_drops : ByteArray := prog_12_method_15_code
def yX10_drops : MethodName := ⟨RX10, "drops", "(II)I"⟩
abbrev cX10_source : ByteArray := prog_12_method_16_code
def yX10_source : MethodName := ⟨RX10, "source", "(I)I"⟩
abbrev cX10_liveMany : ByteArray := prog_12_method_17_code
def yX10_liveMany : MethodName := ⟨RX10, "liveMany", "(I)I"⟩
abbrev cX10_slides : ByteArray := prog_12_method_18_code
def yX10_slides : MethodName := ⟨RX10, "slides", "(I)V"⟩
abbrev cX10_window : ByteArray := prog_12_method_19_code
def yX10_window : MethodName := ⟨RX10, "window", "(II)I"⟩
abbrev cX10_isDouble : ByteArray := prog_12_method_20_code
def yX10_isDouble : MethodName := ⟨RX10, "isDouble", "(II)Z"⟩
abbrev cX10_deliver : ByteArray := prog_12_method_21_code
def yX10_deliver : MethodName := ⟨RX10, "deliver", "(IIIII)I"⟩
abbrev cX10_drop : ByteArray := prog_12_method_22_code
def yX10_drop : MethodName := ⟨RX10, "drop", "(II)I"⟩
abbrev cX10_feed : ByteArray := prog_12_method_23_code
def yX10_feed : MethodName := ⟨RX10, "feed", "(I)I"⟩
abbrev cX10_here : ByteArray := prog_12_method_24_code
def yX10_here : MethodName := ⟨RX10, "here", "()I"⟩
abbrev cX10_take : ByteArray := prog_12_method_25_code
def yX10_take : MethodName := ⟨RX10, "take", "(I)V"⟩
abbrev cX10_digit : ByteArray := prog_12_method_26_code
def yX10_digit : MethodName := ⟨RX10, "digit", "(II)I"⟩
abbrev cX10_small : ByteArray := prog_12_method_27_code
def yX10_small : MethodName := ⟨RX10, "small", "(II)I"⟩
abbrev cX10_rest : ByteArray := prog_12_method_28_code
def yX10_rest : MethodName := ⟨RX10, "rest", "(I)V"⟩
abbrev cX10_reference : ByteArray := prog_12_method_29_code
def yX10_reference : MethodName := ⟨RX10, "reference", "(II)I"⟩
abbrev cX10_isOther : ByteArray := prog_12_method_30_code
def yX10_isOther : MethodName := ⟨RX10, "isOther", "(I)Z"⟩
abbrev cX10_readText : ByteArray := prog_12_method_31_code
def yX10_readText : MethodName := ⟨RX10, "readText", "()V"⟩
abbrev cX10_operator : ByteArray := prog_12_method_32_code
def yX10_operator : MethodName := ⟨RX10, "operator", "()I"⟩
abbrev cX10_remove : ByteArray := prog_12_method_33_code
def yX10_remove : MethodName := ⟨RX10, "remove", "(I)I"⟩
abbrev cX10_sourcesOf : ByteArray := prog_12_method_34_code
def yX10_sourcesOf : MethodName := ⟨RX10, "sourcesOf", "(I)I"⟩
abbrev cX10_valueOf : ByteArray := prog_12_method_35_code
def yX10_valueOf : MethodName := ⟨RX10, "valueOf", "([II)I"⟩
abbrev cX10_holds : ByteArray := prog_12_method_36_code
def yX10_holds : MethodName := ⟨RX10, "holds", "(I[I)Z"⟩
abbrev cX10_policy : ByteArray := prog_12_method_37_code
def yX10_policy : MethodName := ⟨RX10, "policy", "(I)I"⟩
abbrev cX10_discipline : ByteArray := prog_12_method_38_code
def yX10_discipline : MethodName := ⟨RX10, "discipline", "(I)I"⟩
abbrev cX10_coveredOf : ByteArray := prog_12_method_39_code
def yX10_coveredOf : MethodName := ⟨RX10, "coveredOf", "([I)I"⟩
abbrev cX10_all : ByteArray := prog_12_method_40_code
def yX10_all : MethodName := ⟨RX10, "all", "()I"⟩
abbrev cX10_isLess : ByteArray := prog_12_method_41_code
def yX10_isLess : MethodName := ⟨RX10, "isLess", "(II)Z"⟩
abbrev cX10_isRather : ByteArray := prog_12_method_42_code
def yX10_isRather : MethodName := ⟨RX10, "isRather", "(II)Z"⟩
abbrev cX10_readyOf : ByteArray := prog_12_method_43_code
def yX10_readyOf : MethodName := ⟨RX10, "readyOf", "([I)I"⟩
abbrev cX10_guideOf : ByteArray := prog_12_method_44_code
def yX10_guideOf : MethodName := ⟨RX10, "guideOf", "([II)I"⟩
abbrev cX10_joins : ByteArray := prog_12_method_45_code
def yX10_joins : MethodName := ⟨RX10, "joins", "([III)Z"⟩
abbrev cX10_candidates : ByteArray := prog_12_method_46_code
def yX10_candidates : MethodName := ⟨RX10, "candidates", "([II)I"⟩
abbrev cX10_probedOf : ByteArray := prog_12_method_47_code
def yX10_probedOf : MethodName := ⟨RX10, "probedOf", "([I)I"⟩
abbrev cX10_spreads : ByteArray := prog_12_method_48_code
def yX10_spreads : MethodName := ⟨RX10, "spreads", "([IIIZ)I"⟩
abbrev cX10_evaluates : ByteArray := prog_12_method_49_code
def yX10_evaluates : MethodName := ⟨RX10, "evaluates", "(I)V"⟩
abbrev cX10_probes : ByteArray := prog_12_method_50_code
def yX10_probes : MethodName := ⟨RX10, "probes", "(I)V"⟩
abbrev cX10_stepOn : ByteArray := prog_12_method_51_code
def yX10_stepOn : MethodName := ⟨RX10, "stepOn", "()V"⟩
abbrev cX10_step : ByteArray := prog_12_method_52_code
def yX10_step : MethodName := ⟨RX10, "step", "(I)I"⟩
abbrev cX10_run : ByteArray := prog_12_method_53_code
def yX10_run : MethodName := ⟨RX10, "run", "(I)I"⟩
abbrev cX10_next : ByteArray := prog_12_method_54_code
def yX10_next : MethodName := ⟨RX10, "next", "()I"⟩
abbrev cX10_pending : ByteArray := prog_12_method_55_code
def yX10_pending : MethodName := ⟨RX10, "pending", "(II)I"⟩
abbrev cX10_told : ByteArray := prog_12_method_56_code
def yX10_told : MethodName := ⟨RX10, "told", "(II)I"⟩
abbrev cX10_of : ByteArray := prog_12_method_57_code
def yX10_of : MethodName := ⟨RX10, "of", "(II)I"⟩
abbrev cX10_value : ByteArray := prog_12_method_58_code
def yX10_value : MethodName := ⟨RX10, "value", "(III)I"⟩
abbrev cX10_output : ByteArray := prog_12_method_59_code
def yX10_output : MethodName := ⟨RX10, "output", "(II)I"⟩
abbrev cX10_isPartOf : ByteArray := prog_12_method_60_code
def yX10_isPartOf : MethodName := ⟨RX10, "isPartOf", "([I)Z"⟩
abbrev cX10_isAsked : ByteArray := prog_12_method_61_code
def yX10_isAsked : MethodName := ⟨RX10, "isAsked", "(I)Z"⟩
abbrev cX10_hangsOn : ByteArray := prog_12_method_62_code
def yX10_hangsOn : MethodName := ⟨RX10, "hangsOn", "(II)Z"⟩
abbrev cX10_where : ByteArray := prog_12_method_63_code
def yX10_where : MethodName := ⟨RX10, "where", "(I)I"⟩
abbrev cX10_isAnswer : ByteArray := prog_12_method_64_code
def yX10_isAnswer : MethodName := ⟨RX10, "isAnswer", "()Z"⟩
abbrev cX10_isOutput : ByteArray := prog_12_method_65_code
def yX10_isOutput : MethodName := ⟨RX10, "isOutput", "()Z"⟩
abbrev cX10_manyOf : ByteArray := prog_12_method_66_code
def yX10_manyOf : MethodName := ⟨RX10, "manyOf", "(I)I"⟩
abbrev cX10_findAnswer : ByteArray := prog_12_method_67_code
def yX10_findAnswer : MethodName := ⟨RX10, "findAnswer", "()V"⟩
abbrev cX10_answer : ByteArray := prog_12_method_68_code
def yX10_answer : MethodName := ⟨RX10, "answer", "(I)I"⟩
abbrev cX10_rank : ByteArray := prog_12_method_69_code
def yX10_rank : MethodName := ⟨RX10, "rank", "(II)J"⟩
abbrev cX10_copyOf : ByteArray := prog_12_method_70_code
def yX10_copyOf : MethodName := ⟨RX10, "copyOf", "([[I)[[I"⟩
abbrev cX10_thinks : ByteArray := prog_12_method_71_code
def yX10_thinks : MethodName := ⟨RX10, "thinks", "(I)V"⟩
abbrev cX10_would : ByteArray := prog_12_method_72_code
def yX10_would : MethodName := ⟨RX10, "would", "(II)I"⟩
abbrev cX10_best : ByteArray := prog_12_method_73_code
def yX10_best : MethodName := ⟨RX10, "best", "()I"⟩
abbrev cX10_age : ByteArray := prog_12_method_74_code
def yX10_age : MethodName := ⟨RX10, "age", "()I"⟩
abbrev cX10_event : ByteArray := prog_12_method_75_code
def yX10_event : MethodName := ⟨RX10, "event", "(I)I"⟩
abbrev cX10_image : ByteArray := prog_12_method_76_code
def yX10_image : MethodName := ⟨RX10, "image", "()I"⟩
abbrev cX10_undo : ByteArray := prog_12_method_77_code
def yX10_undo : MethodName := ⟨RX10, "undo", "()I"⟩
abbrev cX10_activeMany : ByteArray := prog_12_method_78_code
def yX10_activeMany : MethodName := ⟨RX10, "activeMany", "()I"⟩
abbrev cX10_count : ByteArray := prog_12_method_79_code
def yX10_count : MethodName := ⟨RX10, "count", "(I)I"⟩
def RJ6 : String := "java/lang/Integer"
def TJ6 : u_T := fun k => match k with
  | _ => ("", "", "", false)
def tyJ6 : Nat → FieldType := fun k => match k with
  | _ => .int
abbrev wsJ60 : List Cond := u_ws RJ6 TJ6 0
theorem nmJ6 : ∀ a, a < 0 → ∀ b, b < 0 → a ≠ b → (TJ6 a).2.1 ≠ (TJ6 b).2.1 := by decide +kernel
theorem tyJ6_ok : ∀ k, k < 0 → parseFieldDescriptor (TJ6 k).2.2.1 = some (tyJ6 k) := by decide +kernel
abbrev cJ6_bitCount_0f7a4 : ByteArray := prog_13_method_49_code
def yJ6_bitCount_0f7a4 : MethodName := ⟨RJ6, "bitCount", "(I)I"⟩
def RJ9 : String := "java/lang/Math"
def TJ9 : u_T := fun k => match k with
  | _ => ("", "", "", false)
def tyJ9 : Nat → FieldType := fun k => match k with
  | _ => .int
abbrev wsJ90 : List Cond := u_ws RJ9 TJ9 0
theorem nmJ9 : ∀ a, a < 0 → ∀ b, b < 0 → a ≠ b → (TJ9 a).2.1 ≠ (TJ9 b).2.1 := by decide +kernel
theorem tyJ9_ok : ∀ k, k < 0 → parseFieldDescriptor (TJ9 k).2.2.1 = some (tyJ9 k) := by decide +kernel
abbrev cJ9_floorMod_7cf53 : ByteArray := prog_14_method_50_code
def yJ9_floorMod_7cf53 : MethodName := ⟨RJ9, "floorMod", "(II)I"⟩
abbrev cJ9_abs_0f7a4 : ByteArray := prog_14_method_59_code
def yJ9_abs_0f7a4 : MethodName := ⟨RJ9, "abs", "(I)I"⟩
abbrev cJ9_max_7cf53 : ByteArray := prog_14_method_65_code
def yJ9_max_7cf53 : MethodName := ⟨RJ9, "max", "(II)I"⟩
abbrev cJ9_min_7cf53 : ByteArray := prog_14_method_69_code
def yJ9_min_7cf53 : MethodName := ⟨RJ9, "min", "(II)I"⟩
def RJ10 : String := "java/lang/System"
def TJ10 : u_T := fun k => match k with
  | _ => ("", "", "", false)
def tyJ10 : Nat → FieldType := fun k => match k with
  | _ => .int
abbrev wsJ100 : List Cond := u_ws RJ10 TJ10 0
theorem nmJ10 : ∀ a, a < 0 → ∀ b, b < 0 → a ≠ b → (TJ10 a).2.1 ≠ (TJ10 b).2.1 := by decide +kernel
theorem tyJ10_ok : ∀ k, k < 0 → parseFieldDescriptor (TJ10 k).2.2.1 = some (tyJ10 k) := by decide +kernel
