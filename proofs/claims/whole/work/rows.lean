section
-- ===== PART A: goes FIRST, ahead of the names: the tables' words, and 'selects' of the private methods out of them =====
/-- a private method of a class that the tables say can be made, by its rows of tables_1 -/
def lw_okq (q : MethodName × Nat) : Prop := (q.1.cls ≠ "java/lang/invoke/MethodHandle" ∧ q.1.cls ≠ "java/lang/invoke/VarHandle") ∧ Cond.instantiable q.1.cls q.2 ∈ tables_1 ∧ Cond.privateMethod q.1 ∈ tables_1 ∧ Cond.instanceMethod q.1 ∈ tables_1
theorem lw_p0 : lw_okq (⟨"LostDays", "found", "(I)I"⟩, 12) := ⟨⟨by decide +kernel, by decide +kernel⟩, List.mem_of_getElem? (i := 11) (by decide +kernel), List.mem_of_getElem? (i := 153) (by decide +kernel), List.mem_of_getElem? (i := 154) (by decide +kernel)⟩
theorem lw_p1 : lw_okq (⟨"LostDays", "refusedPlace", "(II)I"⟩, 12) := ⟨⟨by decide +kernel, by decide +kernel⟩, List.mem_of_getElem? (i := 11) (by decide +kernel), List.mem_of_getElem? (i := 165) (by decide +kernel), List.mem_of_getElem? (i := 166) (by decide +kernel)⟩
theorem lw_p2 : lw_okq (⟨"LostDays", "refusedRow", "(I)I"⟩, 12) := ⟨⟨by decide +kernel, by decide +kernel⟩, List.mem_of_getElem? (i := 11) (by decide +kernel), List.mem_of_getElem? (i := 169) (by decide +kernel), List.mem_of_getElem? (i := 170) (by decide +kernel)⟩
theorem lw_p3 : lw_okq (⟨"LostDays", "refusedText", "(I)I"⟩, 12) := ⟨⟨by decide +kernel, by decide +kernel⟩, List.mem_of_getElem? (i := 11) (by decide +kernel), List.mem_of_getElem? (i := 215) (by decide +kernel), List.mem_of_getElem? (i := 216) (by decide +kernel)⟩
theorem lw_p4 : lw_okq (⟨"LostDays", "isTown", "(I)Z"⟩, 12) := ⟨⟨by decide +kernel, by decide +kernel⟩, List.mem_of_getElem? (i := 11) (by decide +kernel), List.mem_of_getElem? (i := 261) (by decide +kernel), List.mem_of_getElem? (i := 262) (by decide +kernel)⟩
theorem lw_p5 : lw_okq (⟨"LostDays", "ofTown", "(II)I"⟩, 12) := ⟨⟨by decide +kernel, by decide +kernel⟩, List.mem_of_getElem? (i := 11) (by decide +kernel), List.mem_of_getElem? (i := 265) (by decide +kernel), List.mem_of_getElem? (i := 266) (by decide +kernel)⟩
theorem lw_p6 : lw_okq (⟨"LostDays", "stretchEnd", "(III)I"⟩, 12) := ⟨⟨by decide +kernel, by decide +kernel⟩, List.mem_of_getElem? (i := 11) (by decide +kernel), List.mem_of_getElem? (i := 450) (by decide +kernel), List.mem_of_getElem? (i := 451) (by decide +kernel)⟩
theorem lw_p7 : lw_okq (⟨"LostDays", "haveSameDate", "(III)Z"⟩, 12) := ⟨⟨by decide +kernel, by decide +kernel⟩, List.mem_of_getElem? (i := 11) (by decide +kernel), List.mem_of_getElem? (i := 462) (by decide +kernel), List.mem_of_getElem? (i := 463) (by decide +kernel)⟩
theorem lw_p8 : lw_okq (⟨"LostDays", "refusedContracts", "(I)I"⟩, 12) := ⟨⟨by decide +kernel, by decide +kernel⟩, List.mem_of_getElem? (i := 11) (by decide +kernel), List.mem_of_getElem? (i := 490) (by decide +kernel), List.mem_of_getElem? (i := 491) (by decide +kernel)⟩
theorem lw_p9 : lw_okq (⟨"LostDays", "hasMissingDate", "(LLostDays$Row;)Z"⟩, 12) := ⟨⟨by decide +kernel, by decide +kernel⟩, List.mem_of_getElem? (i := 11) (by decide +kernel), List.mem_of_getElem? (i := 494) (by decide +kernel), List.mem_of_getElem? (i := 495) (by decide +kernel)⟩
theorem lw_p10 : lw_okq (⟨"LostDays", "quarrelsAt", "(LLostDays$Row;II)Z"⟩, 12) := ⟨⟨by decide +kernel, by decide +kernel⟩, List.mem_of_getElem? (i := 11) (by decide +kernel), List.mem_of_getElem? (i := 498) (by decide +kernel), List.mem_of_getElem? (i := 499) (by decide +kernel)⟩
theorem lw_p11 : lw_okq (⟨"LostDays", "quarrelsOnTrial", "(LLostDays$Row;I)I"⟩, 12) := ⟨⟨by decide +kernel, by decide +kernel⟩, List.mem_of_getElem? (i := 11) (by decide +kernel), List.mem_of_getElem? (i := 510) (by decide +kernel), List.mem_of_getElem? (i := 511) (by decide +kernel)⟩
theorem lw_p12 : lw_okq (⟨"LostDays", "tellFraction", "(JJ)V"⟩, 12) := ⟨⟨by decide +kernel, by decide +kernel⟩, List.mem_of_getElem? (i := 11) (by decide +kernel), List.mem_of_getElem? (i := 520) (by decide +kernel), List.mem_of_getElem? (i := 521) (by decide +kernel)⟩
theorem lw_p13 : lw_okq (⟨"LostDays", "townsOf", "(I)I"⟩, 12) := ⟨⟨by decide +kernel, by decide +kernel⟩, List.mem_of_getElem? (i := 11) (by decide +kernel), List.mem_of_getElem? (i := 605) (by decide +kernel), List.mem_of_getElem? (i := 606) (by decide +kernel)⟩
theorem lw_p14 : lw_okq (⟨"LostDays", "rowsThere", "()I"⟩, 12) := ⟨⟨by decide +kernel, by decide +kernel⟩, List.mem_of_getElem? (i := 11) (by decide +kernel), List.mem_of_getElem? (i := 609) (by decide +kernel), List.mem_of_getElem? (i := 610) (by decide +kernel)⟩
theorem lw_p15 : lw_okq (⟨"LostDays", "textsThere", "()I"⟩, 12) := ⟨⟨by decide +kernel, by decide +kernel⟩, List.mem_of_getElem? (i := 11) (by decide +kernel), List.mem_of_getElem? (i := 613) (by decide +kernel), List.mem_of_getElem? (i := 614) (by decide +kernel)⟩
def lw_privs_1 : List (MethodName × Nat) := [(⟨"LostDays", "found", "(I)I"⟩, 12), (⟨"LostDays", "refusedPlace", "(II)I"⟩, 12), (⟨"LostDays", "refusedRow", "(I)I"⟩, 12), (⟨"LostDays", "refusedText", "(I)I"⟩, 12), (⟨"LostDays", "isTown", "(I)Z"⟩, 12), (⟨"LostDays", "ofTown", "(II)I"⟩, 12), (⟨"LostDays", "stretchEnd", "(III)I"⟩, 12), (⟨"LostDays", "haveSameDate", "(III)Z"⟩, 12), (⟨"LostDays", "refusedContracts", "(I)I"⟩, 12), (⟨"LostDays", "hasMissingDate", "(LLostDays$Row;)Z"⟩, 12), (⟨"LostDays", "quarrelsAt", "(LLostDays$Row;II)Z"⟩, 12), (⟨"LostDays", "quarrelsOnTrial", "(LLostDays$Row;I)I"⟩, 12), (⟨"LostDays", "tellFraction", "(JJ)V"⟩, 12), (⟨"LostDays", "townsOf", "(I)I"⟩, 12), (⟨"LostDays", "rowsThere", "()I"⟩, 12), (⟨"LostDays", "textsThere", "()I"⟩, 12)]
theorem lw_r1 : ∀ q ∈ lw_privs_1, lw_okq q := List.forall_mem_cons.mpr ⟨lw_p0, List.forall_mem_cons.mpr ⟨lw_p1, List.forall_mem_cons.mpr ⟨lw_p2, List.forall_mem_cons.mpr ⟨lw_p3, List.forall_mem_cons.mpr ⟨lw_p4, List.forall_mem_cons.mpr ⟨lw_p5, List.forall_mem_cons.mpr ⟨lw_p6, List.forall_mem_cons.mpr ⟨lw_p7, List.forall_mem_cons.mpr ⟨lw_p8, List.forall_mem_cons.mpr ⟨lw_p9, List.forall_mem_cons.mpr ⟨lw_p10, List.forall_mem_cons.mpr ⟨lw_p11, List.forall_mem_cons.mpr ⟨lw_p12, List.forall_mem_cons.mpr ⟨lw_p13, List.forall_mem_cons.mpr ⟨lw_p14, List.forall_mem_cons.mpr ⟨lw_p15, fun _ h => absurd h List.not_mem_nil⟩⟩⟩⟩⟩⟩⟩⟩⟩⟩⟩⟩⟩⟩⟩⟩
theorem lw_p16 : lw_okq (⟨"LostDays", "almanacsKept", "()I"⟩, 12) := ⟨⟨by decide +kernel, by decide +kernel⟩, List.mem_of_getElem? (i := 11) (by decide +kernel), List.mem_of_getElem? (i := 617) (by decide +kernel), List.mem_of_getElem? (i := 618) (by decide +kernel)⟩
theorem lw_p17 : lw_okq (⟨"LostDaysModel", "meet", "(I)I"⟩, 25) := ⟨⟨by decide +kernel, by decide +kernel⟩, List.mem_of_getElem? (i := 646) (by decide +kernel), List.mem_of_getElem? (i := 738) (by decide +kernel), List.mem_of_getElem? (i := 739) (by decide +kernel)⟩
theorem lw_p18 : lw_okq (⟨"LostDaysModel", "setRow", "(III)V"⟩, 25) := ⟨⟨by decide +kernel, by decide +kernel⟩, List.mem_of_getElem? (i := 646) (by decide +kernel), List.mem_of_getElem? (i := 742) (by decide +kernel), List.mem_of_getElem? (i := 743) (by decide +kernel)⟩
theorem lw_p19 : lw_okq (⟨"LostDaysModel", "askedRow", "(I)I"⟩, 25) := ⟨⟨by decide +kernel, by decide +kernel⟩, List.mem_of_getElem? (i := 646) (by decide +kernel), List.mem_of_getElem? (i := 750) (by decide +kernel), List.mem_of_getElem? (i := 751) (by decide +kernel)⟩
theorem lw_p20 : lw_okq (⟨"LostDaysModel", "rowAt", "(II)I"⟩, 25) := ⟨⟨by decide +kernel, by decide +kernel⟩, List.mem_of_getElem? (i := 646) (by decide +kernel), List.mem_of_getElem? (i := 754) (by decide +kernel), List.mem_of_getElem? (i := 755) (by decide +kernel)⟩
theorem lw_p21 : lw_okq (⟨"LostDaysModel", "ask", "(II)I"⟩, 25) := ⟨⟨by decide +kernel, by decide +kernel⟩, List.mem_of_getElem? (i := 646) (by decide +kernel), List.mem_of_getElem? (i := 758) (by decide +kernel), List.mem_of_getElem? (i := 759) (by decide +kernel)⟩
theorem lw_p22 : lw_okq (⟨"LostDaysModel", "askedText", "(I)I"⟩, 25) := ⟨⟨by decide +kernel, by decide +kernel⟩, List.mem_of_getElem? (i := 646) (by decide +kernel), List.mem_of_getElem? (i := 790) (by decide +kernel), List.mem_of_getElem? (i := 791) (by decide +kernel)⟩
theorem lw_p23 : lw_okq (⟨"LostDaysModel", "goesOn", "(I)I"⟩, 25) := ⟨⟨by decide +kernel, by decide +kernel⟩, List.mem_of_getElem? (i := 646) (by decide +kernel), List.mem_of_getElem? (i := 798) (by decide +kernel), List.mem_of_getElem? (i := 799) (by decide +kernel)⟩
theorem lw_p24 : lw_okq (⟨"LostDaysModel", "here", "(I)I"⟩, 25) := ⟨⟨by decide +kernel, by decide +kernel⟩, List.mem_of_getElem? (i := 646) (by decide +kernel), List.mem_of_getElem? (i := 802) (by decide +kernel), List.mem_of_getElem? (i := 803) (by decide +kernel)⟩
theorem lw_p25 : lw_okq (⟨"LostDaysModel", "readsTown", "(I)Z"⟩, 25) := ⟨⟨by decide +kernel, by decide +kernel⟩, List.mem_of_getElem? (i := 646) (by decide +kernel), List.mem_of_getElem? (i := 806) (by decide +kernel), List.mem_of_getElem? (i := 807) (by decide +kernel)⟩
theorem lw_p26 : lw_okq (⟨"LostDaysModel", "figure", "(II)I"⟩, 25) := ⟨⟨by decide +kernel, by decide +kernel⟩, List.mem_of_getElem? (i := 646) (by decide +kernel), List.mem_of_getElem? (i := 813) (by decide +kernel), List.mem_of_getElem? (i := 814) (by decide +kernel)⟩
theorem lw_p27 : lw_okq (⟨"LostDaysModel", "isTown", "(I)Z"⟩, 25) := ⟨⟨by decide +kernel, by decide +kernel⟩, List.mem_of_getElem? (i := 646) (by decide +kernel), List.mem_of_getElem? (i := 825) (by decide +kernel), List.mem_of_getElem? (i := 826) (by decide +kernel)⟩
theorem lw_p28 : lw_okq (⟨"LostDaysModel", "townOf", "(II)I"⟩, 25) := ⟨⟨by decide +kernel, by decide +kernel⟩, List.mem_of_getElem? (i := 646) (by decide +kernel), List.mem_of_getElem? (i := 829) (by decide +kernel), List.mem_of_getElem? (i := 830) (by decide +kernel)⟩
theorem lw_p29 : lw_okq (⟨"LostDaysModel", "dateIn", "(II)I"⟩, 25) := ⟨⟨by decide +kernel, by decide +kernel⟩, List.mem_of_getElem? (i := 646) (by decide +kernel), List.mem_of_getElem? (i := 833) (by decide +kernel), List.mem_of_getElem? (i := 834) (by decide +kernel)⟩
theorem lw_p30 : lw_okq (⟨"LostDaysModel", "take", "(I)V"⟩, 25) := ⟨⟨by decide +kernel, by decide +kernel⟩, List.mem_of_getElem? (i := 646) (by decide +kernel), List.mem_of_getElem? (i := 837) (by decide +kernel), List.mem_of_getElem? (i := 838) (by decide +kernel)⟩
theorem lw_p31 : lw_okq (⟨"LostDaysModel", "dateOfDay", "(I)I"⟩, 25) := ⟨⟨by decide +kernel, by decide +kernel⟩, List.mem_of_getElem? (i := 646) (by decide +kernel), List.mem_of_getElem? (i := 841) (by decide +kernel), List.mem_of_getElem? (i := 842) (by decide +kernel)⟩
def lw_privs_2 : List (MethodName × Nat) := [(⟨"LostDays", "almanacsKept", "()I"⟩, 12), (⟨"LostDaysModel", "meet", "(I)I"⟩, 25), (⟨"LostDaysModel", "setRow", "(III)V"⟩, 25), (⟨"LostDaysModel", "askedRow", "(I)I"⟩, 25), (⟨"LostDaysModel", "rowAt", "(II)I"⟩, 25), (⟨"LostDaysModel", "ask", "(II)I"⟩, 25), (⟨"LostDaysModel", "askedText", "(I)I"⟩, 25), (⟨"LostDaysModel", "goesOn", "(I)I"⟩, 25), (⟨"LostDaysModel", "here", "(I)I"⟩, 25), (⟨"LostDaysModel", "readsTown", "(I)Z"⟩, 25), (⟨"LostDaysModel", "figure", "(II)I"⟩, 25), (⟨"LostDaysModel", "isTown", "(I)Z"⟩, 25), (⟨"LostDaysModel", "townOf", "(II)I"⟩, 25), (⟨"LostDaysModel", "dateIn", "(II)I"⟩, 25), (⟨"LostDaysModel", "take", "(I)V"⟩, 25), (⟨"LostDaysModel", "dateOfDay", "(I)I"⟩, 25)]
theorem lw_r2 : ∀ q ∈ lw_privs_2, lw_okq q := List.forall_mem_cons.mpr ⟨lw_p16, List.forall_mem_cons.mpr ⟨lw_p17, List.forall_mem_cons.mpr ⟨lw_p18, List.forall_mem_cons.mpr ⟨lw_p19, List.forall_mem_cons.mpr ⟨lw_p20, List.forall_mem_cons.mpr ⟨lw_p21, List.forall_mem_cons.mpr ⟨lw_p22, List.forall_mem_cons.mpr ⟨lw_p23, List.forall_mem_cons.mpr ⟨lw_p24, List.forall_mem_cons.mpr ⟨lw_p25, List.forall_mem_cons.mpr ⟨lw_p26, List.forall_mem_cons.mpr ⟨lw_p27, List.forall_mem_cons.mpr ⟨lw_p28, List.forall_mem_cons.mpr ⟨lw_p29, List.forall_mem_cons.mpr ⟨lw_p30, List.forall_mem_cons.mpr ⟨lw_p31, fun _ h => absurd h List.not_mem_nil⟩⟩⟩⟩⟩⟩⟩⟩⟩⟩⟩⟩⟩⟩⟩⟩
theorem lw_p32 : lw_okq (⟨"LostDaysModel", "countOfDay", "(I)I"⟩, 25) := ⟨⟨by decide +kernel, by decide +kernel⟩, List.mem_of_getElem? (i := 646) (by decide +kernel), List.mem_of_getElem? (i := 845) (by decide +kernel), List.mem_of_getElem? (i := 846) (by decide +kernel)⟩
theorem lw_p33 : lw_okq (⟨"LostDaysModel", "cuts", "()Z"⟩, 25) := ⟨⟨by decide +kernel, by decide +kernel⟩, List.mem_of_getElem? (i := 646) (by decide +kernel), List.mem_of_getElem? (i := 849) (by decide +kernel), List.mem_of_getElem? (i := 850) (by decide +kernel)⟩
theorem lw_p34 : lw_okq (⟨"LostDaysModel", "dateOfCount", "(I)I"⟩, 25) := ⟨⟨by decide +kernel, by decide +kernel⟩, List.mem_of_getElem? (i := 646) (by decide +kernel), List.mem_of_getElem? (i := 853) (by decide +kernel), List.mem_of_getElem? (i := 854) (by decide +kernel)⟩
theorem lw_p35 : lw_okq (⟨"LostDaysModel", "beginOf", "(I)I"⟩, 25) := ⟨⟨by decide +kernel, by decide +kernel⟩, List.mem_of_getElem? (i := 646) (by decide +kernel), List.mem_of_getElem? (i := 857) (by decide +kernel), List.mem_of_getElem? (i := 858) (by decide +kernel)⟩
theorem lw_p36 : lw_okq (⟨"LostDaysModel", "leaps", "()Z"⟩, 25) := ⟨⟨by decide +kernel, by decide +kernel⟩, List.mem_of_getElem? (i := 646) (by decide +kernel), List.mem_of_getElem? (i := 861) (by decide +kernel), List.mem_of_getElem? (i := 862) (by decide +kernel)⟩
theorem lw_p37 : lw_okq (⟨"LostDaysModel", "isA", "(II)Z"⟩, 25) := ⟨⟨by decide +kernel, by decide +kernel⟩, List.mem_of_getElem? (i := 646) (by decide +kernel), List.mem_of_getElem? (i := 869) (by decide +kernel), List.mem_of_getElem? (i := 870) (by decide +kernel)⟩
theorem lw_p38 : lw_okq (⟨"LostDaysModel", "marked", "(II)I"⟩, 25) := ⟨⟨by decide +kernel, by decide +kernel⟩, List.mem_of_getElem? (i := 646) (by decide +kernel), List.mem_of_getElem? (i := 873) (by decide +kernel), List.mem_of_getElem? (i := 874) (by decide +kernel)⟩
theorem lw_p39 : lw_okq (⟨"LostDaysModel", "dayIn", "(II)I"⟩, 25) := ⟨⟨by decide +kernel, by decide +kernel⟩, List.mem_of_getElem? (i := 646) (by decide +kernel), List.mem_of_getElem? (i := 919) (by decide +kernel), List.mem_of_getElem? (i := 920) (by decide +kernel)⟩
theorem lw_p40 : lw_okq (⟨"LostDaysModel", "dayOfDate", "(I)I"⟩, 25) := ⟨⟨by decide +kernel, by decide +kernel⟩, List.mem_of_getElem? (i := 646) (by decide +kernel), List.mem_of_getElem? (i := 923) (by decide +kernel), List.mem_of_getElem? (i := 924) (by decide +kernel)⟩
theorem lw_p41 : lw_okq (⟨"LostDaysModel", "yearDays", "(I)I"⟩, 25) := ⟨⟨by decide +kernel, by decide +kernel⟩, List.mem_of_getElem? (i := 646) (by decide +kernel), List.mem_of_getElem? (i := 927) (by decide +kernel), List.mem_of_getElem? (i := 928) (by decide +kernel)⟩
theorem lw_p42 : lw_okq (⟨"LostDaysModel", "ageOf", "(I)I"⟩, 25) := ⟨⟨by decide +kernel, by decide +kernel⟩, List.mem_of_getElem? (i := 646) (by decide +kernel), List.mem_of_getElem? (i := 963) (by decide +kernel), List.mem_of_getElem? (i := 964) (by decide +kernel)⟩
theorem lw_p43 : lw_okq (⟨"LostDaysModel", "doAgree", "(III)Z"⟩, 25) := ⟨⟨by decide +kernel, by decide +kernel⟩, List.mem_of_getElem? (i := 646) (by decide +kernel), List.mem_of_getElem? (i := 976) (by decide +kernel), List.mem_of_getElem? (i := 977) (by decide +kernel)⟩
theorem lw_p44 : lw_okq (⟨"LostDaysModel", "countIn", "(II)I"⟩, 25) := ⟨⟨by decide +kernel, by decide +kernel⟩, List.mem_of_getElem? (i := 646) (by decide +kernel), List.mem_of_getElem? (i := 988) (by decide +kernel), List.mem_of_getElem? (i := 989) (by decide +kernel)⟩
theorem lw_p45 : lw_okq (⟨"LostDaysModel", "askedContracts", "(IZ)I"⟩, 25) := ⟨⟨by decide +kernel, by decide +kernel⟩, List.mem_of_getElem? (i := 646) (by decide +kernel), List.mem_of_getElem? (i := 1003) (by decide +kernel), List.mem_of_getElem? (i := 1004) (by decide +kernel)⟩
theorem lw_p46 : lw_okq (⟨"LostDaysModel", "doesQuarrel", "(II)Z"⟩, 25) := ⟨⟨by decide +kernel, by decide +kernel⟩, List.mem_of_getElem? (i := 646) (by decide +kernel), List.mem_of_getElem? (i := 1007) (by decide +kernel), List.mem_of_getElem? (i := 1008) (by decide +kernel)⟩
theorem lw_p47 : lw_okq (⟨"LostDaysModel", "quarrelMany", "(I)I"⟩, 25) := ⟨⟨by decide +kernel, by decide +kernel⟩, List.mem_of_getElem? (i := 646) (by decide +kernel), List.mem_of_getElem? (i := 1011) (by decide +kernel), List.mem_of_getElem? (i := 1012) (by decide +kernel)⟩
def lw_privs_3 : List (MethodName × Nat) := [(⟨"LostDaysModel", "countOfDay", "(I)I"⟩, 25), (⟨"LostDaysModel", "cuts", "()Z"⟩, 25), (⟨"LostDaysModel", "dateOfCount", "(I)I"⟩, 25), (⟨"LostDaysModel", "beginOf", "(I)I"⟩, 25), (⟨"LostDaysModel", "leaps", "()Z"⟩, 25), (⟨"LostDaysModel", "isA", "(II)Z"⟩, 25), (⟨"LostDaysModel", "marked", "(II)I"⟩, 25), (⟨"LostDaysModel", "dayIn", "(II)I"⟩, 25), (⟨"LostDaysModel", "dayOfDate", "(I)I"⟩, 25), (⟨"LostDaysModel", "yearDays", "(I)I"⟩, 25), (⟨"LostDaysModel", "ageOf", "(I)I"⟩, 25), (⟨"LostDaysModel", "doAgree", "(III)Z"⟩, 25), (⟨"LostDaysModel", "countIn", "(II)I"⟩, 25), (⟨"LostDaysModel", "askedContracts", "(IZ)I"⟩, 25), (⟨"LostDaysModel", "doesQuarrel", "(II)Z"⟩, 25), (⟨"LostDaysModel", "quarrelMany", "(I)I"⟩, 25)]
theorem lw_r3 : ∀ q ∈ lw_privs_3, lw_okq q := List.forall_mem_cons.mpr ⟨lw_p32, List.forall_mem_cons.mpr ⟨lw_p33, List.forall_mem_cons.mpr ⟨lw_p34, List.forall_mem_cons.mpr ⟨lw_p35, List.forall_mem_cons.mpr ⟨lw_p36, List.forall_mem_cons.mpr ⟨lw_p37, List.forall_mem_cons.mpr ⟨lw_p38, List.forall_mem_cons.mpr ⟨lw_p39, List.forall_mem_cons.mpr ⟨lw_p40, List.forall_mem_cons.mpr ⟨lw_p41, List.forall_mem_cons.mpr ⟨lw_p42, List.forall_mem_cons.mpr ⟨lw_p43, List.forall_mem_cons.mpr ⟨lw_p44, List.forall_mem_cons.mpr ⟨lw_p45, List.forall_mem_cons.mpr ⟨lw_p46, List.forall_mem_cons.mpr ⟨lw_p47, fun _ h => absurd h List.not_mem_nil⟩⟩⟩⟩⟩⟩⟩⟩⟩⟩⟩⟩⟩⟩⟩⟩
theorem lw_p48 : lw_okq (⟨"LostDaysModel", "part", "(JJ)I"⟩, 25) := ⟨⟨by decide +kernel, by decide +kernel⟩, List.mem_of_getElem? (i := 646) (by decide +kernel), List.mem_of_getElem? (i := 1024) (by decide +kernel), List.mem_of_getElem? (i := 1025) (by decide +kernel)⟩
theorem lw_p49 : lw_okq (⟨"LostDaysModel", "feastOf", "(II)I"⟩, 25) := ⟨⟨by decide +kernel, by decide +kernel⟩, List.mem_of_getElem? (i := 646) (by decide +kernel), List.mem_of_getElem? (i := 1051) (by decide +kernel), List.mem_of_getElem? (i := 1052) (by decide +kernel)⟩
theorem lw_p50 : lw_okq (⟨"LostDaysModel", "tells", "(I)I"⟩, 25) := ⟨⟨by decide +kernel, by decide +kernel⟩, List.mem_of_getElem? (i := 646) (by decide +kernel), List.mem_of_getElem? (i := 1094) (by decide +kernel), List.mem_of_getElem? (i := 1095) (by decide +kernel)⟩
theorem lw_p51 : lw_okq (⟨"LostDaysModel", "mix", "(I)V"⟩, 25) := ⟨⟨by decide +kernel, by decide +kernel⟩, List.mem_of_getElem? (i := 646) (by decide +kernel), List.mem_of_getElem? (i := 1111) (by decide +kernel), List.mem_of_getElem? (i := 1112) (by decide +kernel)⟩
def lw_privs_4 : List (MethodName × Nat) := [(⟨"LostDaysModel", "part", "(JJ)I"⟩, 25), (⟨"LostDaysModel", "feastOf", "(II)I"⟩, 25), (⟨"LostDaysModel", "tells", "(I)I"⟩, 25), (⟨"LostDaysModel", "mix", "(I)V"⟩, 25)]
theorem lw_r4 : ∀ q ∈ lw_privs_4, lw_okq q := List.forall_mem_cons.mpr ⟨lw_p48, List.forall_mem_cons.mpr ⟨lw_p49, List.forall_mem_cons.mpr ⟨lw_p50, List.forall_mem_cons.mpr ⟨lw_p51, fun _ h => absurd h List.not_mem_nil⟩⟩⟩⟩
def lw_privs : List (MethodName × Nat) := lw_privs_1 ++ (lw_privs_2 ++ (lw_privs_3 ++ (lw_privs_4)))
def lw_tbl : List Cond := k2_sels lw_privs ++ tables_1
theorem lw_privs_ok : ∀ q ∈ lw_privs, lw_okq q := by
  show ∀ q ∈ lw_privs_1 ++ (lw_privs_2 ++ (lw_privs_3 ++ (lw_privs_4))), lw_okq q
  exact List.forall_mem_append.mpr ⟨lw_r1, List.forall_mem_append.mpr ⟨lw_r2, List.forall_mem_append.mpr ⟨lw_r3, lw_r4⟩⟩⟩
end
section
def RX0 : String := "LostDays$Calendar"
def TX0 : u_T := fun k => match k with
  | 0 => ("LostDays$Calendar", "kind", "I", false)
  | 1 => ("LostDays$Calendar", "leap", "I", false)
  | 2 => ("LostDays$Calendar", "order", "I", false)
  | _ => ("LostDays$Calendar", "gap", "I", false)
def tyX0 : Nat → FieldType := fun k => match k with
  | 0 => .int
  | 1 => .int
  | 2 => .int
  | _ => .int
theorem nmX0 : ∀ a, a < 4 → ∀ b, b < 4 → a ≠ b → (TX0 a).2.1 ≠ (TX0 b).2.1 := by decide +kernel
theorem tyX0_ok : ∀ k, k < 4 → parseFieldDescriptor (TX0 k).2.2.1 = some (tyX0 k) := by decide +kernel
abbrev cX0_init : ByteArray := prog_2_method_1_code
def yX0_init : MethodName := ⟨RX0, "<init>", "()V"⟩
abbrev cX0_becomeLike : ByteArray := prog_2_method_2_code
def yX0_becomeLike : MethodName := ⟨RX0, "becomeLike", "(LLostDays$Calendar;)V"⟩
abbrev cX0_isOf : ByteArray := prog_2_method_3_code
def yX0_isOf : MethodName := ⟨RX0, "isOf", "(I)Z"⟩
abbrev cX0_timesCut : ByteArray := prog_2_method_4_code
def yX0_timesCut : MethodName := ⟨RX0, "timesCut", "()I"⟩
abbrev cX0_cutsBy : ByteArray := prog_2_method_5_code
def yX0_cutsBy : MethodName := ⟨RX0, "cutsBy", "(I)I"⟩
abbrev cX0_dayOfCut : ByteArray := prog_2_method_6_code
def yX0_dayOfCut : MethodName := ⟨RX0, "dayOfCut", "(I)I"⟩
abbrev cX0_firstLeftOut : ByteArray := prog_2_method_7_code
def yX0_firstLeftOut : MethodName := ⟨RX0, "firstLeftOut", "(I)I"⟩
abbrev cX0_countOn : ByteArray := prog_2_method_8_code
def yX0_countOn : MethodName := ⟨RX0, "countOn", "(I)I"⟩
abbrev cX0_dayOfCount : ByteArray := prog_2_method_9_code
def yX0_dayOfCount : MethodName := ⟨RX0, "dayOfCount", "(I)I"⟩
abbrev cX0_shortLength : ByteArray := prog_2_method_10_code
def yX0_shortLength : MethodName := ⟨RX0, "shortLength", "()I"⟩
abbrev cX0_lengthOf : ByteArray := prog_2_method_11_code
def yX0_lengthOf : MethodName := ⟨RX0, "lengthOf", "(I)I"⟩
abbrev cX0_startOf : ByteArray := prog_2_method_12_code
def yX0_startOf : MethodName := ⟨RX0, "startOf", "(I)I"⟩
abbrev cX0_dateOfCount : ByteArray := prog_2_method_13_code
def yX0_dateOfCount : MethodName := ⟨RX0, "dateOfCount", "(I)I"⟩
abbrev cX0_dateOn : ByteArray := prog_2_method_14_code
def yX0_dateOn : MethodName := ⟨RX0, "dateOn", "(I)I"⟩
abbrev cX0_dayOfDate : ByteArray := prog_2_method_15_code
def yX0_dayOfDate : MethodName := ⟨RX0, "dayOfDate", "(I)I"⟩
abbrev cX0_stretchEndFrom : ByteArray := prog_2_method_16_code
def yX0_stretchEndFrom : MethodName := ⟨RX0, "stretchEndFrom", "(I)I"⟩
abbrev cX0_timesAgain : ByteArray := prog_2_method_17_code
def yX0_timesAgain : MethodName := ⟨RX0, "timesAgain", "(II)I"⟩
abbrev cX0_markOf : ByteArray := prog_2_method_18_code
def yX0_markOf : MethodName := ⟨RX0, "markOf", "(II)I"⟩
def RX1 : String := "LostDays$Kept"
def TX1 : u_T := fun k => match k with
  | 0 => ("LostDays$Kept", "leaps", "[I", true)
  | 1 => ("LostDays$Kept", "orders", "[I", true)
  | 2 => ("LostDays$Kept", "gaps", "[I", true)
  | 3 => ("LostDays$Kept", "isThere", "Z", false)
  | _ => ("LostDays$Kept", "today", "I", false)
def tyX1 : Nat → FieldType := fun k => match k with
  | 0 => .array .int
  | 1 => .array .int
  | 2 => .array .int
  | 3 => .boolean
  | _ => .int
theorem nmX1 : ∀ a, a < 5 → ∀ b, b < 5 → a ≠ b → (TX1 a).2.1 ≠ (TX1 b).2.1 := by decide +kernel
theorem tyX1_ok : ∀ k, k < 5 → parseFieldDescriptor (TX1 k).2.2.1 = some (tyX1 k) := by decide +kernel
abbrev cX1_init : ByteArray := prog_3_method_1_code
def yX1_init : MethodName := ⟨RX1, "<init>", "()V"⟩
abbrev cX1_take : ByteArray := prog_3_method_2_code
def yX1_take : MethodName := ⟨RX1, "take", "([LLostDays$Calendar;I)V"⟩
abbrev cX1_giveBack : ByteArray := prog_3_method_3_code
def yX1_giveBack : MethodName := ⟨RX1, "giveBack", "([LLostDays$Calendar;)V"⟩
def RX2 : String := "LostDays$Row"
def TX2 : u_T := fun k => match k with
  | 0 => ("LostDays$Row", "places", "[I", true)
  | _ => ("LostDays$Row", "size", "I", false)
def tyX2 : Nat → FieldType := fun k => match k with
  | 0 => .array .int
  | _ => .int
theorem nmX2 : ∀ a, a < 2 → ∀ b, b < 2 → a ≠ b → (TX2 a).2.1 ≠ (TX2 b).2.1 := by decide +kernel
theorem tyX2_ok : ∀ k, k < 2 → parseFieldDescriptor (TX2 k).2.2.1 = some (tyX2 k) := by decide +kernel
abbrev cX2_init : ByteArray := prog_4_method_1_code
def yX2_init : MethodName := ⟨RX2, "<init>", "()V"⟩
abbrev cX2_renew : ByteArray := prog_4_method_2_code
def yX2_renew : MethodName := ⟨RX2, "renew", "(I)V"⟩
abbrev cX2_add : ByteArray := prog_4_method_3_code
def yX2_add : MethodName := ⟨RX2, "add", "(I)V"⟩
abbrev cX2_holds : ByteArray := prog_4_method_4_code
def yX2_holds : MethodName := ⟨RX2, "holds", "(II)Z"⟩
abbrev cX2_sum : ByteArray := prog_4_method_5_code
def yX2_sum : MethodName := ⟨RX2, "sum", "()J"⟩
abbrev cX2_digestFrom : ByteArray := prog_4_method_6_code
def yX2_digestFrom : MethodName := ⟨RX2, "digestFrom", "(J)J"⟩
def RX3 : String := "LostDays$Text"
def TX3 : u_T := fun k => match k with
  | 0 => ("LostDays$Text", "signs", "[B", true)
  | _ => ("LostDays$Text", "size", "I", false)
def tyX3 : Nat → FieldType := fun k => match k with
  | 0 => .array .byte
  | _ => .int
theorem nmX3 : ∀ a, a < 2 → ∀ b, b < 2 → a ≠ b → (TX3 a).2.1 ≠ (TX3 b).2.1 := by decide +kernel
theorem tyX3_ok : ∀ k, k < 2 → parseFieldDescriptor (TX3 k).2.2.1 = some (tyX3 k) := by decide +kernel
abbrev cX3_init : ByteArray := prog_5_method_1_code
def yX3_init : MethodName := ⟨RX3, "<init>", "()V"⟩
abbrev cX3_renew : ByteArray := prog_5_method_2_code
def yX3_renew : MethodName := ⟨RX3, "renew", "(I)V"⟩
abbrev cX3_firstFault : ByteArray := prog_5_method_3_code
def yX3_firstFault : MethodName := ⟨RX3, "firstFault", "()I"⟩
abbrev cX3_faultOfItem : ByteArray := prog_5_method_4_code
def yX3_faultOfItem : MethodName := ⟨RX3, "faultOfItem", "(I)I"⟩
abbrev cX3_fits : ByteArray := prog_5_method_5_code
def yX3_fits : MethodName := ⟨RX3, "fits", "(II)Z"⟩
abbrev cX3_kindOf : ByteArray := prog_5_method_6_code
def yX3_kindOf : MethodName := ⟨RX3, "kindOf", "(I)I"⟩
abbrev cX3_readInto : ByteArray := prog_5_method_7_code
def yX3_readInto : MethodName := ⟨RX3, "readInto", "([LLostDays$Calendar;)I"⟩
abbrev cX3_readItem : ByteArray := prog_5_method_8_code
def yX3_readItem : MethodName := ⟨RX3, "readItem", "(ILLostDays$Calendar;)V"⟩
abbrev cX3_digestFrom : ByteArray := prog_5_method_9_code
def yX3_digestFrom : MethodName := ⟨RX3, "digestFrom", "(J)J"⟩
def RX4 : String := "LostDays"
def TX4 : u_T := fun k => match k with
  | 0 => ("LostDays", "rows", "[LLostDays$Row;", true)
  | 1 => ("LostDays", "texts", "[LLostDays$Text;", true)
  | 2 => ("LostDays", "towns", "[LLostDays$Calendar;", true)
  | 3 => ("LostDays", "kept", "[LLostDays$Kept;", true)
  | 4 => ("LostDays", "trial", "LLostDays$Calendar;", true)
  | 5 => ("LostDays", "timesFound", "[I", true)
  | 6 => ("LostDays", "townCount", "I", false)
  | 7 => ("LostDays", "today", "I", false)
  | 8 => ("LostDays", "told", "I", false)
  | 9 => ("LostDays", "toldUpper", "J", false)
  | 10 => ("LostDays", "toldLower", "J", false)
  | _ => ("LostDays", "latestFinding", "I", false)
def tyX4 : Nat → FieldType := fun k => match k with
  | 0 => .array (.object "LostDays$Row")
  | 1 => .array (.object "LostDays$Text")
  | 2 => .array (.object "LostDays$Calendar")
  | 3 => .array (.object "LostDays$Kept")
  | 4 => .object "LostDays$Calendar"
  | 5 => .array .int
  | 6 => .int
  | 7 => .int
  | 8 => .int
  | 9 => .long
  | 10 => .long
  | _ => .int
theorem nmX4 : ∀ a, a < 12 → ∀ b, b < 12 → a ≠ b → (TX4 a).2.1 ≠ (TX4 b).2.1 := by decide +kernel
theorem tyX4_ok : ∀ k, k < 12 → parseFieldDescriptor (TX4 k).2.2.1 = some (tyX4 k) := by decide +kernel
abbrev cX4_init : ByteArray := prog_1_method_1_code
def yX4_init : MethodName := ⟨RX4, "<init>", "()V"⟩
abbrev cX4_row : ByteArray := prog_1_method_2_code
def yX4_row : MethodName := ⟨RX4, "row", "(II)I"⟩
abbrev cX4_lay : ByteArray := prog_1_method_3_code
def yX4_lay : MethodName := ⟨RX4, "lay", "(III)I"⟩
abbrev cX4_at : ByteArray := prog_1_method_4_code
def yX4_at : MethodName := ⟨RX4, "at", "(II)I"⟩
abbrev cX4_tear : ByteArray := prog_1_method_5_code
def yX4_tear : MethodName := ⟨RX4, "tear", "(I)I"⟩
abbrev cX4_copy : ByteArray := prog_1_method_6_code
def yX4_copy : MethodName := ⟨RX4, "copy", "(IIIII)I"⟩
abbrev cX4_mean : ByteArray := prog_1_method_7_code
def yX4_mean : MethodName := ⟨RX4, "mean", "(I)I"⟩
abbrev cX4_text : ByteArray := prog_1_method_8_code
def yX4_text : MethodName := ⟨RX4, "text", "(II)I"⟩
abbrev cX4_put : ByteArray := prog_1_method_9_code
def yX4_put : MethodName := ⟨RX4, "put", "(III)I"⟩
abbrev cX4_fault : ByteArray := prog_1_method_10_code
def yX4_fault : MethodName := ⟨RX4, "fault", "(I)I"⟩
abbrev cX4_almanac : ByteArray := prog_1_method_11_code
def yX4_almanac : MethodName := ⟨RX4, "almanac", "(I)I"⟩
abbrev cX4_town : ByteArray := prog_1_method_12_code
def yX4_town : MethodName := ⟨RX4, "town", "(II)I"⟩
abbrev cX4_mark : ByteArray := prog_1_method_13_code
def yX4_mark : MethodName := ⟨RX4, "mark", "(II)I"⟩
abbrev cX4_order : ByteArray := prog_1_method_14_code
def yX4_order : MethodName := ⟨RX4, "order", "(II)I"⟩
abbrev cX4_gap : ByteArray := prog_1_method_15_code
def yX4_gap : MethodName := ⟨RX4, "gap", "(II)I"⟩
abbrev cX4_leap : ByteArray := prog_1_method_16_code
def yX4_leap : MethodName := ⟨RX4, "leap", "(II)I"⟩
abbrev cX4_go : ByteArray := prog_1_method_17_code
def yX4_go : MethodName := ⟨RX4, "go", "(I)I"⟩
abbrev cX4_back : ByteArray := prog_1_method_18_code
def yX4_back : MethodName := ⟨RX4, "back", "(I)I"⟩
abbrev cX4_keep : ByteArray := prog_1_method_19_code
def yX4_keep : MethodName := ⟨RX4, "keep", "(I)I"⟩
abbrev cX4_on : ByteArray := prog_1_method_20_code
def yX4_on : MethodName := ⟨RX4, "on", "(I)I"⟩
abbrev cX4_date : ByteArray := prog_1_method_21_code
def yX4_date : MethodName := ⟨RX4, "date", "(II)I"⟩
abbrev cX4_day : ByteArray := prog_1_method_22_code
def yX4_day : MethodName := ⟨RX4, "day", "(II)I"⟩
abbrev cX4_year : ByteArray := prog_1_method_23_code
def yX4_year : MethodName := ⟨RX4, "year", "(II)I"⟩
abbrev cX4_same : ByteArray := prog_1_method_24_code
def yX4_same : MethodName := ⟨RX4, "same", "(III)I"⟩
abbrev cX4_between : ByteArray := prog_1_method_25_code
def yX4_between : MethodName := ⟨RX4, "between", "(III)I"⟩
abbrev cX4_where : ByteArray := prog_1_method_26_code
def yX4_where : MethodName := ⟨RX4, "where", "(II)I"⟩
abbrev cX4_left : ByteArray := prog_1_method_27_code
def yX4_left : MethodName := ⟨RX4, "left", "(II)I"⟩
abbrev cX4_dates : ByteArray := prog_1_method_28_code
def yX4_dates : MethodName := ⟨RX4, "dates", "(IIII)I"⟩
abbrev cX4_age : ByteArray := prog_1_method_29_code
def yX4_age : MethodName := ⟨RX4, "age", "(II)I"⟩
abbrev cX4_eldest : ByteArray := prog_1_method_30_code
def yX4_eldest : MethodName := ⟨RX4, "eldest", "(I)I"⟩
abbrev cX4_agree : ByteArray := prog_1_method_31_code
def yX4_agree : MethodName := ⟨RX4, "agree", "(IIII)I"⟩
abbrev cX4_till : ByteArray := prog_1_method_32_code
def yX4_till : MethodName := ⟨RX4, "till", "(II)I"⟩
abbrev cX4_apart : ByteArray := prog_1_method_33_code
def yX4_apart : MethodName := ⟨RX4, "apart", "(IIII)I"⟩
abbrev cX4_due : ByteArray := prog_1_method_34_code
def yX4_due : MethodName := ⟨RX4, "due", "(III)I"⟩
abbrev cX4_quarrels : ByteArray := prog_1_method_35_code
def yX4_quarrels : MethodName := ⟨RX4, "quarrels", "(I)I"⟩
abbrev cX4_change : ByteArray := prog_1_method_36_code
def yX4_change : MethodName := ⟨RX4, "change", "(IIII)I"⟩
abbrev cX4_rent : ByteArray := prog_1_method_37_code
def yX4_rent : MethodName := ⟨RX4, "rent", "(IIII)I"⟩
abbrev cX4_voyage : ByteArray := prog_1_method_38_code
def yX4_voyage : MethodName := ⟨RX4, "voyage", "(IIII)I"⟩
abbrev cX4_dated : ByteArray := prog_1_method_39_code
def yX4_dated : MethodName := ⟨RX4, "dated", "(III)I"⟩
abbrev cX4_kinds : ByteArray := prog_1_method_40_code
def yX4_kinds : MethodName := ⟨RX4, "kinds", "(II)I"⟩
abbrev cX4_moon : ByteArray := prog_1_method_41_code
def yX4_moon : MethodName := ⟨RX4, "moon", "(I)I"⟩
abbrev cX4_feast : ByteArray := prog_1_method_42_code
def yX4_feast : MethodName := ⟨RX4, "feast", "(II)I"⟩
abbrev cX4_together : ByteArray := prog_1_method_43_code
def yX4_together : MethodName := ⟨RX4, "together", "(IIII)I"⟩
abbrev cX4_keeps : ByteArray := prog_1_method_44_code
def yX4_keeps : MethodName := ⟨RX4, "keeps", "(III)I"⟩
abbrev cX4_fails : ByteArray := prog_1_method_45_code
def yX4_fails : MethodName := ⟨RX4, "fails", "(III)I"⟩
abbrev cX4_lots : ByteArray := prog_1_method_46_code
def yX4_lots : MethodName := ⟨RX4, "lots", "(IIII)I"⟩
abbrev cX4_asked : ByteArray := prog_1_method_47_code
def yX4_asked : MethodName := ⟨RX4, "asked", "()I"⟩
abbrev cX4_upper : ByteArray := prog_1_method_48_code
def yX4_upper : MethodName := ⟨RX4, "upper", "()J"⟩
abbrev cX4_lower : ByteArray := prog_1_method_49_code
def yX4_lower : MethodName := ⟨RX4, "lower", "()J"⟩
abbrev cX4_count : ByteArray := prog_1_method_50_code
def yX4_count : MethodName := ⟨RX4, "count", "(I)I"⟩
abbrev cX4_finding : ByteArray := prog_1_method_51_code
def yX4_finding : MethodName := ⟨RX4, "finding", "()I"⟩
abbrev cX4_findings : ByteArray := prog_1_method_52_code
def yX4_findings : MethodName := ⟨RX4, "findings", "(I)I"⟩
abbrev cX4_digest : ByteArray := prog_1_method_53_code
def yX4_digest : MethodName := ⟨RX4, "digest", "()J"⟩
abbrev cX4_isWithin : ByteArray := prog_1_method_54_code
def yX4_isWithin : MethodName := ⟨RX4, "isWithin", "(III)Z"⟩
abbrev cX4_isRow : ByteArray := prog_1_method_55_code
def yX4_isRow : MethodName := ⟨RX4, "isRow", "(I)Z"⟩
abbrev cX4_isText : ByteArray := prog_1_method_56_code
def yX4_isText : MethodName := ⟨RX4, "isText", "(I)Z"⟩
abbrev cX4_isTown : ByteArray := prog_1_method_57_code
def yX4_isTown : MethodName := ⟨RX4, "isTown", "(I)Z"⟩
abbrev cX4_isPlaceToKeep : ByteArray := prog_1_method_58_code
def yX4_isPlaceToKeep : MethodName := ⟨RX4, "isPlaceToKeep", "(I)Z"⟩
abbrev cX4_isDay : ByteArray := prog_1_method_59_code
def yX4_isDay : MethodName := ⟨RX4, "isDay", "(I)Z"⟩
abbrev cX4_isSpan : ByteArray := prog_1_method_60_code
def yX4_isSpan : MethodName := ⟨RX4, "isSpan", "(II)Z"⟩
abbrev cX4_isLeap : ByteArray := prog_1_method_61_code
def yX4_isLeap : MethodName := ⟨RX4, "isLeap", "(I)Z"⟩
abbrev cX4_isPartOfDay : ByteArray := prog_1_method_62_code
def yX4_isPartOfDay : MethodName := ⟨RX4, "isPartOfDay", "(I)Z"⟩
abbrev cX4_isYearsDue : ByteArray := prog_1_method_63_code
def yX4_isYearsDue : MethodName := ⟨RX4, "isYearsDue", "(I)Z"⟩
abbrev cX4_isFeastYear : ByteArray := prog_1_method_64_code
def yX4_isFeastYear : MethodName := ⟨RX4, "isFeastYear", "(I)Z"⟩
abbrev cX4_found : ByteArray := prog_1_method_65_code
def yX4_found : MethodName := ⟨RX4, "found", "(I)I"⟩
abbrev cX4_refusedRow : ByteArray := prog_1_method_66_code
def yX4_refusedRow : MethodName := ⟨RX4, "refusedRow", "(I)I"⟩
abbrev cX4_refusedPlace : ByteArray := prog_1_method_67_code
def yX4_refusedPlace : MethodName := ⟨RX4, "refusedPlace", "(II)I"⟩
abbrev cX4_refusedText : ByteArray := prog_1_method_68_code
def yX4_refusedText : MethodName := ⟨RX4, "refusedText", "(I)I"⟩
abbrev cX4_refusedContracts : ByteArray := prog_1_method_69_code
def yX4_refusedContracts : MethodName := ⟨RX4, "refusedContracts", "(I)I"⟩
abbrev cX4_ofTown : ByteArray := prog_1_method_70_code
def yX4_ofTown : MethodName := ⟨RX4, "ofTown", "(II)I"⟩
abbrev cX4_haveSameDate : ByteArray := prog_1_method_71_code
def yX4_haveSameDate : MethodName := ⟨RX4, "haveSameDate", "(III)Z"⟩
abbrev cX4_stretchEnd : ByteArray := prog_1_method_72_code
def yX4_stretchEnd : MethodName := ⟨RX4, "stretchEnd", "(III)I"⟩
abbrev cX4_hasMissingDate : ByteArray := prog_1_method_73_code
def yX4_hasMissingDate : MethodName := ⟨RX4, "hasMissingDate", "(LLostDays$Row;)Z"⟩
abbrev cX4_quarrelsOnTrial : ByteArray := prog_1_method_74_code
def yX4_quarrelsOnTrial : MethodName := ⟨RX4, "quarrelsOnTrial", "(LLostDays$Row;I)I"⟩
abbrev cX4_quarrelsAt : ByteArray := prog_1_method_75_code
def yX4_quarrelsAt : MethodName := ⟨RX4, "quarrelsAt", "(LLostDays$Row;II)Z"⟩
abbrev cX4_areLetters : ByteArray := prog_1_method_76_code
def yX4_areLetters : MethodName := ⟨RX4, "areLetters", "(LLostDays$Row;)Z"⟩
abbrev cX4_writesAll : ByteArray := prog_1_method_77_code
def yX4_writesAll : MethodName := ⟨RX4, "writesAll", "(LLostDays$Calendar;LLostDays$Row;)Z"⟩
abbrev cX4_tellFraction : ByteArray := prog_1_method_78_code
def yX4_tellFraction : MethodName := ⟨RX4, "tellFraction", "(JJ)V"⟩
abbrev cX4_commonDivisor : ByteArray := prog_1_method_79_code
def yX4_commonDivisor : MethodName := ⟨RX4, "commonDivisor", "(JJ)J"⟩
abbrev cX4_daysTillFull : ByteArray := prog_1_method_80_code
def yX4_daysTillFull : MethodName := ⟨RX4, "daysTillFull", "(I)I"⟩
abbrev cX4_feastOf : ByteArray := prog_1_method_81_code
def yX4_feastOf : MethodName := ⟨RX4, "feastOf", "(LLostDays$Calendar;I)I"⟩
abbrev cX4_firstYearOff : ByteArray := prog_1_method_82_code
def yX4_firstYearOff : MethodName := ⟨RX4, "firstYearOff", "(IIII)I"⟩
abbrev cX4_longYearsBefore : ByteArray := prog_1_method_83_code
def yX4_longYearsBefore : MethodName := ⟨RX4, "longYearsBefore", "(II)I"⟩
abbrev cX4_townsOf : ByteArray := prog_1_method_84_code
def yX4_townsOf : MethodName := ⟨RX4, "townsOf", "(I)I"⟩
abbrev cX4_rowsThere : ByteArray := prog_1_method_85_code
def yX4_rowsThere : MethodName := ⟨RX4, "rowsThere", "()I"⟩
abbrev cX4_textsThere : ByteArray := prog_1_method_86_code
def yX4_textsThere : MethodName := ⟨RX4, "textsThere", "()I"⟩
abbrev cX4_almanacsKept : ByteArray := prog_1_method_87_code
def yX4_almanacsKept : MethodName := ⟨RX4, "almanacsKept", "()I"⟩
def RX5 : String := "LostDaysModel"
def TX5 : u_T := fun k => match k with
  | 0 => ("LostDaysModel", "finding", "I", false)
  | 1 => ("LostDaysModel", "findings", "[I", true)
  | 2 => ("LostDaysModel", "asked", "I", false)
  | 3 => ("LostDaysModel", "upper", "J", false)
  | 4 => ("LostDaysModel", "lower", "J", false)
  | 5 => ("LostDaysModel", "sizes", "[I", true)
  | 6 => ("LostDaysModel", "rows", "[I", true)
  | 7 => ("LostDaysModel", "moving", "[I", true)
  | 8 => ("LostDaysModel", "lengths", "[I", true)
  | 9 => ("LostDaysModel", "texts", "[I", true)
  | 10 => ("LostDaysModel", "many", "I", false)
  | 11 => ("LostDaysModel", "today", "I", false)
  | 12 => ("LostDaysModel", "kindOf", "[I", true)
  | 13 => ("LostDaysModel", "leapOf", "[I", true)
  | 14 => ("LostDaysModel", "orderOf", "[I", true)
  | 15 => ("LostDaysModel", "gapOf", "[I", true)
  | 16 => ("LostDaysModel", "readAt", "I", false)
  | 17 => ("LostDaysModel", "readMany", "I", false)
  | 18 => ("LostDaysModel", "read", "[I", true)
  | 19 => ("LostDaysModel", "kind", "I", false)
  | 20 => ("LostDaysModel", "leap", "I", false)
  | 21 => ("LostDaysModel", "order", "I", false)
  | 22 => ("LostDaysModel", "gap", "I", false)
  | 23 => ("LostDaysModel", "kept", "[I", true)
  | _ => ("LostDaysModel", "h0", "J", false)
def tyX5 : Nat → FieldType := fun k => match k with
  | 0 => .int
  | 1 => .array .int
  | 2 => .int
  | 3 => .long
  | 4 => .long
  | 5 => .array .int
  | 6 => .array .int
  | 7 => .array .int
  | 8 => .array .int
  | 9 => .array .int
  | 10 => .int
  | 11 => .int
  | 12 => .array .int
  | 13 => .array .int
  | 14 => .array .int
  | 15 => .array .int
  | 16 => .int
  | 17 => .int
  | 18 => .array .int
  | 19 => .int
  | 20 => .int
  | 21 => .int
  | 22 => .int
  | 23 => .array .int
  | _ => .long
theorem nmX5 : ∀ a, a < 25 → ∀ b, b < 25 → a ≠ b → (TX5 a).2.1 ≠ (TX5 b).2.1 := by decide +kernel
theorem tyX5_ok : ∀ k, k < 25 → parseFieldDescriptor (TX5 k).2.2.1 = some (tyX5 k) := by decide +kernel
abbrev cX5_init : ByteArray := prog_7_method_1_code
def yX5_init : MethodName := ⟨RX5, "<init>", "()V"⟩
abbrev cX5_in : ByteArray := prog_7_method_3_code
def yX5_in : MethodName := ⟨RX5, "in", "(III)Z"⟩
abbrev cX5_meet : ByteArray := prog_7_method_4_code
def yX5_meet : MethodName := ⟨RX5, "meet", "(I)I"⟩
abbrev cX5_ask : ByteArray := prog_7_method_5_code
def yX5_ask : MethodName := ⟨RX5, "ask", "(II)I"⟩
abbrev cX5_greater : ByteArray := prog_7_method_6_code
def yX5_greater : MethodName := ⟨RX5, "greater", "(II)I"⟩
abbrev cX5_apartOf : ByteArray := prog_7_method_7_code
def yX5_apartOf : MethodName := ⟨RX5, "apartOf", "(II)I"⟩
abbrev cX5_part : ByteArray := prog_7_method_8_code
def yX5_part : MethodName := ⟨RX5, "part", "(JJ)I"⟩
abbrev cX5_isRow : ByteArray := prog_7_method_9_code
def yX5_isRow : MethodName := ⟨RX5, "isRow", "(I)Z"⟩
abbrev cX5_isText : ByteArray := prog_7_method_10_code
def yX5_isText : MethodName := ⟨RX5, "isText", "(I)Z"⟩
abbrev cX5_askedRow : ByteArray := prog_7_method_11_code
def yX5_askedRow : MethodName := ⟨RX5, "askedRow", "(I)I"⟩
abbrev cX5_askedText : ByteArray := prog_7_method_12_code
def yX5_askedText : MethodName := ⟨RX5, "askedText", "(I)I"⟩
abbrev cX5_rowAt : ByteArray := prog_7_method_13_code
def yX5_rowAt : MethodName := ⟨RX5, "rowAt", "(II)I"⟩
abbrev cX5_setRow : ByteArray := prog_7_method_14_code
def yX5_setRow : MethodName := ⟨RX5, "setRow", "(III)V"⟩
abbrev cX5_row : ByteArray := prog_7_method_15_code
def yX5_row : MethodName := ⟨RX5, "row", "(II)I"⟩
abbrev cX5_at : ByteArray := prog_7_method_16_code
def yX5_at : MethodName := ⟨RX5, "at", "(II)I"⟩
abbrev cX5_lay : ByteArray := prog_7_method_17_code
def yX5_lay : MethodName := ⟨RX5, "lay", "(III)I"⟩
abbrev cX5_tear : ByteArray := prog_7_method_18_code
def yX5_tear : MethodName := ⟨RX5, "tear", "(I)I"⟩
abbrev cX5_copy : ByteArray := prog_7_method_19_code
def yX5_copy : MethodName := ⟨RX5, "copy", "(IIIII)I"⟩
abbrev cX5_mean : ByteArray := prog_7_method_20_code
def yX5_mean : MethodName := ⟨RX5, "mean", "(I)I"⟩
abbrev cX5_text : ByteArray := prog_7_method_21_code
def yX5_text : MethodName := ⟨RX5, "text", "(II)I"⟩
abbrev cX5_put : ByteArray := prog_7_method_22_code
def yX5_put : MethodName := ⟨RX5, "put", "(III)I"⟩
abbrev cX5_here : ByteArray := prog_7_method_23_code
def yX5_here : MethodName := ⟨RX5, "here", "(I)I"⟩
abbrev cX5_kindBy : ByteArray := prog_7_method_24_code
def yX5_kindBy : MethodName := ⟨RX5, "kindBy", "(I)I"⟩
abbrev cX5_figure : ByteArray := prog_7_method_25_code
def yX5_figure : MethodName := ⟨RX5, "figure", "(II)I"⟩
abbrev cX5_readsTown : ByteArray := prog_7_method_26_code
def yX5_readsTown : MethodName := ⟨RX5, "readsTown", "(I)Z"⟩
abbrev cX5_goesOn : ByteArray := prog_7_method_27_code
def yX5_goesOn : MethodName := ⟨RX5, "goesOn", "(I)I"⟩
abbrev cX5_fault : ByteArray := prog_7_method_28_code
def yX5_fault : MethodName := ⟨RX5, "fault", "(I)I"⟩
abbrev cX5_almanac : ByteArray := prog_7_method_29_code
def yX5_almanac : MethodName := ⟨RX5, "almanac", "(I)I"⟩
abbrev cX5_isTown : ByteArray := prog_7_method_30_code
def yX5_isTown : MethodName := ⟨RX5, "isTown", "(I)Z"⟩
abbrev cX5_isDay : ByteArray := prog_7_method_31_code
def yX5_isDay : MethodName := ⟨RX5, "isDay", "(I)Z"⟩
abbrev cX5_areDays : ByteArray := prog_7_method_32_code
def yX5_areDays : MethodName := ⟨RX5, "areDays", "(II)Z"⟩
abbrev cX5_take : ByteArray := prog_7_method_33_code
def yX5_take : MethodName := ⟨RX5, "take", "(I)V"⟩
abbrev cX5_leaps : ByteArray := prog_7_method_34_code
def yX5_leaps : MethodName := ⟨RX5, "leaps", "()Z"⟩
abbrev cX5_cuts : ByteArray := prog_7_method_35_code
def yX5_cuts : MethodName := ⟨RX5, "cuts", "()Z"⟩
abbrev cX5_yearDays : ByteArray := prog_7_method_36_code
def yX5_yearDays : MethodName := ⟨RX5, "yearDays", "(I)I"⟩
abbrev cX5_beginOf : ByteArray := prog_7_method_37_code
def yX5_beginOf : MethodName := ⟨RX5, "beginOf", "(I)I"⟩
abbrev cX5_countIn : ByteArray := prog_7_method_38_code
def yX5_countIn : MethodName := ⟨RX5, "countIn", "(II)I"⟩
abbrev cX5_countOfDay : ByteArray := prog_7_method_39_code
def yX5_countOfDay : MethodName := ⟨RX5, "countOfDay", "(I)I"⟩
abbrev cX5_dateOfCount : ByteArray := prog_7_method_40_code
def yX5_dateOfCount : MethodName := ⟨RX5, "dateOfCount", "(I)I"⟩
abbrev cX5_dateOfDay : ByteArray := prog_7_method_41_code
def yX5_dateOfDay : MethodName := ⟨RX5, "dateOfDay", "(I)I"⟩
abbrev cX5_dateIn : ByteArray := prog_7_method_42_code
def yX5_dateIn : MethodName := ⟨RX5, "dateIn", "(II)I"⟩
abbrev cX5_dayOfDate : ByteArray := prog_7_method_43_code
def yX5_dayOfDate : MethodName := ⟨RX5, "dayOfDate", "(I)I"⟩
abbrev cX5_dayIn : ByteArray := prog_7_method_44_code
def yX5_dayIn : MethodName := ⟨RX5, "dayIn", "(II)I"⟩
abbrev cX5_townOf : ByteArray := prog_7_method_45_code
def yX5_townOf : MethodName := ⟨RX5, "townOf", "(II)I"⟩
abbrev cX5_town : ByteArray := prog_7_method_46_code
def yX5_town : MethodName := ⟨RX5, "town", "(II)I"⟩
abbrev cX5_isA : ByteArray := prog_7_method_47_code
def yX5_isA : MethodName := ⟨RX5, "isA", "(II)Z"⟩
abbrev cX5_marked : ByteArray := prog_7_method_48_code
def yX5_marked : MethodName := ⟨RX5, "marked", "(II)I"⟩
abbrev cX5_mark : ByteArray := prog_7_method_49_code
def yX5_mark : MethodName := ⟨RX5, "mark", "(II)I"⟩
abbrev cX5_order : ByteArray := prog_7_method_50_code
def yX5_order : MethodName := ⟨RX5, "order", "(II)I"⟩
abbrev cX5_gap : ByteArray := prog_7_method_51_code
def yX5_gap : MethodName := ⟨RX5, "gap", "(II)I"⟩
abbrev cX5_leap : ByteArray := prog_7_method_52_code
def yX5_leap : MethodName := ⟨RX5, "leap", "(II)I"⟩
abbrev cX5_go : ByteArray := prog_7_method_53_code
def yX5_go : MethodName := ⟨RX5, "go", "(I)I"⟩
abbrev cX5_back : ByteArray := prog_7_method_54_code
def yX5_back : MethodName := ⟨RX5, "back", "(I)I"⟩
abbrev cX5_keep : ByteArray := prog_7_method_55_code
def yX5_keep : MethodName := ⟨RX5, "keep", "(I)I"⟩
abbrev cX5_on : ByteArray := prog_7_method_56_code
def yX5_on : MethodName := ⟨RX5, "on", "(I)I"⟩
abbrev cX5_date : ByteArray := prog_7_method_57_code
def yX5_date : MethodName := ⟨RX5, "date", "(II)I"⟩
abbrev cX5_day : ByteArray := prog_7_method_58_code
def yX5_day : MethodName := ⟨RX5, "day", "(II)I"⟩
abbrev cX5_year : ByteArray := prog_7_method_59_code
def yX5_year : MethodName := ⟨RX5, "year", "(II)I"⟩
abbrev cX5_same : ByteArray := prog_7_method_60_code
def yX5_same : MethodName := ⟨RX5, "same", "(III)I"⟩
abbrev cX5_between : ByteArray := prog_7_method_61_code
def yX5_between : MethodName := ⟨RX5, "between", "(III)I"⟩
abbrev cX5_where : ByteArray := prog_7_method_62_code
def yX5_where : MethodName := ⟨RX5, "where", "(II)I"⟩
abbrev cX5_left : ByteArray := prog_7_method_63_code
def yX5_left : MethodName := ⟨RX5, "left", "(II)I"⟩
abbrev cX5_dates : ByteArray := prog_7_method_64_code
def yX5_dates : MethodName := ⟨RX5, "dates", "(IIII)I"⟩
abbrev cX5_ageOf : ByteArray := prog_7_method_65_code
def yX5_ageOf : MethodName := ⟨RX5, "ageOf", "(I)I"⟩
abbrev cX5_age : ByteArray := prog_7_method_66_code
def yX5_age : MethodName := ⟨RX5, "age", "(II)I"⟩
abbrev cX5_eldest : ByteArray := prog_7_method_67_code
def yX5_eldest : MethodName := ⟨RX5, "eldest", "(I)I"⟩
abbrev cX5_doAgree : ByteArray := prog_7_method_68_code
def yX5_doAgree : MethodName := ⟨RX5, "doAgree", "(III)Z"⟩
abbrev cX5_agree : ByteArray := prog_7_method_69_code
def yX5_agree : MethodName := ⟨RX5, "agree", "(IIII)I"⟩
abbrev cX5_till : ByteArray := prog_7_method_70_code
def yX5_till : MethodName := ⟨RX5, "till", "(II)I"⟩
abbrev cX5_apart : ByteArray := prog_7_method_71_code
def yX5_apart : MethodName := ⟨RX5, "apart", "(IIII)I"⟩
abbrev cX5_due : ByteArray := prog_7_method_72_code
def yX5_due : MethodName := ⟨RX5, "due", "(III)I"⟩
abbrev cX5_doesQuarrel : ByteArray := prog_7_method_73_code
def yX5_doesQuarrel : MethodName := ⟨RX5, "doesQuarrel", "(II)Z"⟩
abbrev cX5_quarrelMany : ByteArray := prog_7_method_74_code
def yX5_quarrelMany : MethodName := ⟨RX5, "quarrelMany", "(I)I"⟩
abbrev cX5_askedContracts : ByteArray := prog_7_method_75_code
def yX5_askedContracts : MethodName := ⟨RX5, "askedContracts", "(IZ)I"⟩
abbrev cX5_quarrels : ByteArray := prog_7_method_76_code
def yX5_quarrels : MethodName := ⟨RX5, "quarrels", "(I)I"⟩
abbrev cX5_change : ByteArray := prog_7_method_77_code
def yX5_change : MethodName := ⟨RX5, "change", "(IIII)I"⟩
abbrev cX5_rent : ByteArray := prog_7_method_78_code
def yX5_rent : MethodName := ⟨RX5, "rent", "(IIII)I"⟩
abbrev cX5_voyage : ByteArray := prog_7_method_79_code
def yX5_voyage : MethodName := ⟨RX5, "voyage", "(IIII)I"⟩
abbrev cX5_dated : ByteArray := prog_7_method_80_code
def yX5_dated : MethodName := ⟨RX5, "dated", "(III)I"⟩
abbrev cX5_kinds : ByteArray := prog_7_method_81_code
def yX5_kinds : MethodName := ⟨RX5, "kinds", "(II)I"⟩
abbrev cX5_tillFull : ByteArray := prog_7_method_82_code
def yX5_tillFull : MethodName := ⟨RX5, "tillFull", "(I)I"⟩
abbrev cX5_moon : ByteArray := prog_7_method_83_code
def yX5_moon : MethodName := ⟨RX5, "moon", "(I)I"⟩
abbrev cX5_feastOf : ByteArray := prog_7_method_84_code
def yX5_feastOf : MethodName := ⟨RX5, "feastOf", "(II)I"⟩
abbrev cX5_feast : ByteArray := prog_7_method_85_code
def yX5_feast : MethodName := ⟨RX5, "feast", "(II)I"⟩
abbrev cX5_together : ByteArray := prog_7_method_86_code
def yX5_together : MethodName := ⟨RX5, "together", "(IIII)I"⟩
abbrev cX5_isOff : ByteArray := prog_7_method_87_code
def yX5_isOff : MethodName := ⟨RX5, "isOff", "(IIII)Z"⟩
abbrev cX5_keeps : ByteArray := prog_7_method_88_code
def yX5_keeps : MethodName := ⟨RX5, "keeps", "(III)I"⟩
abbrev cX5_fails : ByteArray := prog_7_method_89_code
def yX5_fails : MethodName := ⟨RX5, "fails", "(III)I"⟩
abbrev cX5_lots : ByteArray := prog_7_method_90_code
def yX5_lots : MethodName := ⟨RX5, "lots", "(IIII)I"⟩
abbrev cX5_asked : ByteArray := prog_7_method_91_code
def yX5_asked : MethodName := ⟨RX5, "asked", "()I"⟩
abbrev cX5_upper : ByteArray := prog_7_method_92_code
def yX5_upper : MethodName := ⟨RX5, "upper", "()J"⟩
abbrev cX5_lower : ByteArray := prog_7_method_93_code
def yX5_lower : MethodName := ⟨RX5, "lower", "()J"⟩
abbrev cX5_tells : ByteArray := prog_7_method_94_code
def yX5_tells : MethodName := ⟨RX5, "tells", "(I)I"⟩
abbrev cX5_count : ByteArray := prog_7_method_95_code
def yX5_count : MethodName := ⟨RX5, "count", "(I)I"⟩
abbrev cX5_finding : ByteArray := prog_7_method_96_code
def yX5_finding : MethodName := ⟨RX5, "finding", "()I"⟩
abbrev cX5_findings : ByteArray := prog_7_method_97_code
def yX5_findings : MethodName := ⟨RX5, "findings", "(I)I"⟩
abbrev cX5_mix : ByteArray := prog_7_method_98_code
def yX5_mix : MethodName := ⟨RX5, "mix", "(I)V"⟩
abbrev cX5_digest : ByteArray := prog_7_method_99_code
def yX5_digest : MethodName := ⟨RX5, "digest", "()J"⟩
def RJ6 : String := "java/lang/Integer"
abbrev cJ6_bitCount_0f7a4 : ByteArray := prog_8_method_49_code
def yJ6_bitCount_0f7a4 : MethodName := ⟨RJ6, "bitCount", "(I)I"⟩
def RJ9 : String := "java/lang/Math"
abbrev cJ9_abs_0f7a4 : ByteArray := prog_9_method_59_code
def yJ9_abs_0f7a4 : MethodName := ⟨RJ9, "abs", "(I)I"⟩
abbrev cJ9_max_7cf53 : ByteArray := prog_9_method_65_code
def yJ9_max_7cf53 : MethodName := ⟨RJ9, "max", "(II)I"⟩
abbrev cJ9_min_7cf53 : ByteArray := prog_9_method_69_code
def yJ9_min_7cf53 : MethodName := ⟨RJ9, "min", "(II)I"⟩
def RJ10 : String := "java/lang/System"
def RL : String := "LostDaysLaw"
abbrev cL_law : ByteArray := code
def yL_law : MethodName := ⟨RL, "law", "([I)Z"⟩
end
section
theorem dX0_init_0 : decode cX0_init 0 = .ok (.aload_n 0, 1) := by decide +kernel
theorem dX0_init_1 : decode cX0_init 1 = .ok (.invokespecial 3, 3) := by decide +kernel
theorem dX0_init_4 : decode cX0_init 4 = .ok (.aload_n 0, 1) := by decide +kernel
theorem dX0_init_5 : decode cX0_init 5 = .ok (.iconst 0, 1) := by decide +kernel
theorem dX0_init_6 : decode cX0_init 6 = .ok (.putfield 9, 3) := by decide +kernel
theorem dX0_init_9 : decode cX0_init 9 = .ok (.aload_n 0, 1) := by decide +kernel
theorem dX0_init_10 : decode cX0_init 10 = .ok (.iconst 2, 1) := by decide +kernel
theorem dX0_init_11 : decode cX0_init 11 = .ok (.putfield 15, 3) := by decide +kernel
theorem dX0_init_14 : decode cX0_init 14 = .ok (.aload_n 0, 1) := by decide +kernel
theorem dX0_init_15 : decode cX0_init 15 = .ok (.iconst 0, 1) := by decide +kernel
theorem dX0_init_16 : decode cX0_init 16 = .ok (.putfield 18, 3) := by decide +kernel
theorem dX0_init_19 : decode cX0_init 19 = .ok (.aload_n 0, 1) := by decide +kernel
theorem dX0_init_20 : decode cX0_init 20 = .ok (.iconst 0, 1) := by decide +kernel
theorem dX0_init_21 : decode cX0_init 21 = .ok (.putfield 21, 3) := by decide +kernel
theorem dX0_init_24 : decode cX0_init 24 = .ok (.return_, 1) := by decide +kernel
theorem dX0_becomeLike_0 : decode cX0_becomeLike 0 = .ok (.aload_n 0, 1) := by decide +kernel
theorem dX0_becomeLike_1 : decode cX0_becomeLike 1 = .ok (.aload_n 1, 1) := by decide +kernel
theorem dX0_becomeLike_2 : decode cX0_becomeLike 2 = .ok (.getfield 9, 3) := by decide +kernel
theorem dX0_becomeLike_5 : decode cX0_becomeLike 5 = .ok (.putfield 9, 3) := by decide +kernel
theorem dX0_becomeLike_8 : decode cX0_becomeLike 8 = .ok (.aload_n 0, 1) := by decide +kernel
theorem dX0_becomeLike_9 : decode cX0_becomeLike 9 = .ok (.aload_n 1, 1) := by decide +kernel
theorem dX0_becomeLike_10 : decode cX0_becomeLike 10 = .ok (.getfield 15, 3) := by decide +kernel
theorem dX0_becomeLike_13 : decode cX0_becomeLike 13 = .ok (.putfield 15, 3) := by decide +kernel
theorem dX0_becomeLike_16 : decode cX0_becomeLike 16 = .ok (.aload_n 0, 1) := by decide +kernel
theorem dX0_becomeLike_17 : decode cX0_becomeLike 17 = .ok (.aload_n 1, 1) := by decide +kernel
theorem dX0_becomeLike_18 : decode cX0_becomeLike 18 = .ok (.getfield 18, 3) := by decide +kernel
theorem dX0_becomeLike_21 : decode cX0_becomeLike 21 = .ok (.putfield 18, 3) := by decide +kernel
theorem dX0_becomeLike_24 : decode cX0_becomeLike 24 = .ok (.aload_n 0, 1) := by decide +kernel
theorem dX0_becomeLike_25 : decode cX0_becomeLike 25 = .ok (.aload_n 1, 1) := by decide +kernel
theorem dX0_becomeLike_26 : decode cX0_becomeLike 26 = .ok (.getfield 21, 3) := by decide +kernel
theorem dX0_becomeLike_29 : decode cX0_becomeLike 29 = .ok (.putfield 21, 3) := by decide +kernel
theorem dX0_becomeLike_32 : decode cX0_becomeLike 32 = .ok (.return_, 1) := by decide +kernel
theorem dX0_isOf_0 : decode cX0_isOf 0 = .ok (.iload_n 1, 1) := by decide +kernel
theorem dX0_isOf_1 : decode cX0_isOf 1 = .ok (.ifCond .eq 23, 3) := by decide +kernel
theorem dX0_isOf_4 : decode cX0_isOf 4 = .ok (.aload_n 0, 1) := by decide +kernel
theorem dX0_isOf_5 : decode cX0_isOf 5 = .ok (.getfield 9, 3) := by decide +kernel
theorem dX0_isOf_8 : decode cX0_isOf 8 = .ok (.iload_n 1, 1) := by decide +kernel
theorem dX0_isOf_9 : decode cX0_isOf 9 = .ok (.if_icmp .eq 15, 3) := by decide +kernel
theorem dX0_isOf_12 : decode cX0_isOf 12 = .ok (.getstatic 24, 3) := by decide +kernel
theorem dX0_isOf_15 : decode cX0_isOf 15 = .ok (.aload_n 0, 1) := by decide +kernel
theorem dX0_isOf_16 : decode cX0_isOf 16 = .ok (.getfield 9, 3) := by decide +kernel
theorem dX0_isOf_19 : decode cX0_isOf 19 = .ok (.iaload, 1) := by decide +kernel
theorem dX0_isOf_20 : decode cX0_isOf 20 = .ok (.iload_n 1, 1) := by decide +kernel
theorem dX0_isOf_21 : decode cX0_isOf 21 = .ok (.if_icmp .ne 7, 3) := by decide +kernel
theorem dX0_isOf_24 : decode cX0_isOf 24 = .ok (.iconst 1, 1) := by decide +kernel
theorem dX0_isOf_25 : decode cX0_isOf 25 = .ok (.goto 4, 3) := by decide +kernel
theorem dX0_isOf_28 : decode cX0_isOf 28 = .ok (.iconst 0, 1) := by decide +kernel
theorem dX0_isOf_29 : decode cX0_isOf 29 = .ok (.ireturn, 1) := by decide +kernel
theorem dX0_timesCut_0 : decode cX0_timesCut 0 = .ok (.getstatic 28, 3) := by decide +kernel
theorem dX0_timesCut_3 : decode cX0_timesCut 3 = .ok (.aload_n 0, 1) := by decide +kernel
theorem dX0_timesCut_4 : decode cX0_timesCut 4 = .ok (.getfield 9, 3) := by decide +kernel
theorem dX0_timesCut_7 : decode cX0_timesCut 7 = .ok (.iaload, 1) := by decide +kernel
theorem dX0_timesCut_8 : decode cX0_timesCut 8 = .ok (.ireturn, 1) := by decide +kernel
theorem dX0_cutsBy_0 : decode cX0_cutsBy 0 = .ok (.aload_n 0, 1) := by decide +kernel
theorem dX0_cutsBy_1 : decode cX0_cutsBy 1 = .ok (.invokevirtual 31, 3) := by decide +kernel
theorem dX0_cutsBy_4 : decode cX0_cutsBy 4 = .ok (.istore_n 2, 1) := by decide +kernel
theorem dX0_cutsBy_5 : decode cX0_cutsBy 5 = .ok (.iload_n 2, 1) := by decide +kernel
theorem dX0_cutsBy_6 : decode cX0_cutsBy 6 = .ok (.ifCond .eq 11, 3) := by decide +kernel
theorem dX0_cutsBy_9 : decode cX0_cutsBy 9 = .ok (.iload_n 1, 1) := by decide +kernel
theorem dX0_cutsBy_10 : decode cX0_cutsBy 10 = .ok (.aload_n 0, 1) := by decide +kernel
theorem dX0_cutsBy_11 : decode cX0_cutsBy 11 = .ok (.getfield 18, 3) := by decide +kernel
theorem dX0_cutsBy_14 : decode cX0_cutsBy 14 = .ok (.if_icmp .ge 5, 3) := by decide +kernel
theorem dX0_cutsBy_17 : decode cX0_cutsBy 17 = .ok (.iconst 0, 1) := by decide +kernel
theorem dX0_cutsBy_18 : decode cX0_cutsBy 18 = .ok (.ireturn, 1) := by decide +kernel
theorem dX0_cutsBy_19 : decode cX0_cutsBy 19 = .ok (.iload_n 2, 1) := by decide +kernel
theorem dX0_cutsBy_20 : decode cX0_cutsBy 20 = .ok (.iconst 1, 1) := by decide +kernel
theorem dX0_cutsBy_21 : decode cX0_cutsBy 21 = .ok (.if_icmp .eq 15, 3) := by decide +kernel
theorem dX0_cutsBy_24 : decode cX0_cutsBy 24 = .ok (.iload_n 1, 1) := by decide +kernel
theorem dX0_cutsBy_25 : decode cX0_cutsBy 25 = .ok (.aload_n 0, 1) := by decide +kernel
theorem dX0_cutsBy_26 : decode cX0_cutsBy 26 = .ok (.getfield 18, 3) := by decide +kernel
theorem dX0_cutsBy_29 : decode cX0_cutsBy 29 = .ok (.sipush 1000, 3) := by decide +kernel
theorem dX0_cutsBy_32 : decode cX0_cutsBy 32 = .ok (.iadd, 1) := by decide +kernel
theorem dX0_cutsBy_33 : decode cX0_cutsBy 33 = .ok (.if_icmp .ge 7, 3) := by decide +kernel
theorem dX0_cutsBy_36 : decode cX0_cutsBy 36 = .ok (.iconst 1, 1) := by decide +kernel
theorem dX0_cutsBy_37 : decode cX0_cutsBy 37 = .ok (.goto 4, 3) := by decide +kernel
theorem dX0_cutsBy_40 : decode cX0_cutsBy 40 = .ok (.iconst 2, 1) := by decide +kernel
theorem dX0_cutsBy_41 : decode cX0_cutsBy 41 = .ok (.ireturn, 1) := by decide +kernel
theorem dX0_dayOfCut_0 : decode cX0_dayOfCut 0 = .ok (.iload_n 1, 1) := by decide +kernel
theorem dX0_dayOfCut_1 : decode cX0_dayOfCut 1 = .ok (.iconst 1, 1) := by decide +kernel
theorem dX0_dayOfCut_2 : decode cX0_dayOfCut 2 = .ok (.if_icmp .ne 10, 3) := by decide +kernel
theorem dX0_dayOfCut_5 : decode cX0_dayOfCut 5 = .ok (.aload_n 0, 1) := by decide +kernel
theorem dX0_dayOfCut_6 : decode cX0_dayOfCut 6 = .ok (.getfield 18, 3) := by decide +kernel
theorem dX0_dayOfCut_9 : decode cX0_dayOfCut 9 = .ok (.goto 11, 3) := by decide +kernel
theorem dX0_dayOfCut_12 : decode cX0_dayOfCut 12 = .ok (.aload_n 0, 1) := by decide +kernel
theorem dX0_dayOfCut_13 : decode cX0_dayOfCut 13 = .ok (.getfield 18, 3) := by decide +kernel
theorem dX0_dayOfCut_16 : decode cX0_dayOfCut 16 = .ok (.sipush 1000, 3) := by decide +kernel
theorem dX0_dayOfCut_19 : decode cX0_dayOfCut 19 = .ok (.iadd, 1) := by decide +kernel
theorem dX0_dayOfCut_20 : decode cX0_dayOfCut 20 = .ok (.ireturn, 1) := by decide +kernel
theorem dX0_firstLeftOut_0 : decode cX0_firstLeftOut 0 = .ok (.aload_n 0, 1) := by decide +kernel
theorem dX0_firstLeftOut_1 : decode cX0_firstLeftOut 1 = .ok (.iload_n 1, 1) := by decide +kernel
theorem dX0_firstLeftOut_2 : decode cX0_firstLeftOut 2 = .ok (.invokevirtual 35, 3) := by decide +kernel
theorem dX0_firstLeftOut_5 : decode cX0_firstLeftOut 5 = .ok (.iload_n 1, 1) := by decide +kernel
theorem dX0_firstLeftOut_6 : decode cX0_firstLeftOut 6 = .ok (.iconst 1, 1) := by decide +kernel
theorem dX0_firstLeftOut_7 : decode cX0_firstLeftOut 7 = .ok (.isub, 1) := by decide +kernel
theorem dX0_firstLeftOut_8 : decode cX0_firstLeftOut 8 = .ok (.aload_n 0, 1) := by decide +kernel
theorem dX0_firstLeftOut_9 : decode cX0_firstLeftOut 9 = .ok (.getfield 21, 3) := by decide +kernel
theorem dX0_firstLeftOut_12 : decode cX0_firstLeftOut 12 = .ok (.imul, 1) := by decide +kernel
theorem dX0_firstLeftOut_13 : decode cX0_firstLeftOut 13 = .ok (.iadd, 1) := by decide +kernel
theorem dX0_firstLeftOut_14 : decode cX0_firstLeftOut 14 = .ok (.ireturn, 1) := by decide +kernel
theorem dX0_countOn_0 : decode cX0_countOn 0 = .ok (.iload_n 1, 1) := by decide +kernel
theorem dX0_countOn_1 : decode cX0_countOn 1 = .ok (.aload_n 0, 1) := by decide +kernel
theorem dX0_countOn_2 : decode cX0_countOn 2 = .ok (.getfield 21, 3) := by decide +kernel
theorem dX0_countOn_5 : decode cX0_countOn 5 = .ok (.aload_n 0, 1) := by decide +kernel
theorem dX0_countOn_6 : decode cX0_countOn 6 = .ok (.iload_n 1, 1) := by decide +kernel
theorem dX0_countOn_7 : decode cX0_countOn 7 = .ok (.invokevirtual 39, 3) := by decide +kernel
theorem dX0_countOn_10 : decode cX0_countOn 10 = .ok (.imul, 1) := by decide +kernel
theorem dX0_countOn_11 : decode cX0_countOn 11 = .ok (.iadd, 1) := by decide +kernel
theorem dX0_countOn_12 : decode cX0_countOn 12 = .ok (.ireturn, 1) := by decide +kernel
theorem dX0_dayOfCount_0 : decode cX0_dayOfCount 0 = .ok (.iconst 0, 1) := by decide +kernel
theorem dX0_dayOfCount_1 : decode cX0_dayOfCount 1 = .ok (.istore_n 2, 1) := by decide +kernel
theorem dX0_dayOfCount_2 : decode cX0_dayOfCount 2 = .ok (.iload_n 2, 1) := by decide +kernel
theorem dX0_dayOfCount_3 : decode cX0_dayOfCount 3 = .ok (.aload_n 0, 1) := by decide +kernel
theorem dX0_dayOfCount_4 : decode cX0_dayOfCount 4 = .ok (.invokevirtual 31, 3) := by decide +kernel
theorem dX0_dayOfCount_7 : decode cX0_dayOfCount 7 = .ok (.if_icmp .gt 40, 3) := by decide +kernel
theorem dX0_dayOfCount_10 : decode cX0_dayOfCount 10 = .ok (.iload_n 1, 1) := by decide +kernel
theorem dX0_dayOfCount_11 : decode cX0_dayOfCount 11 = .ok (.iload_n 2, 1) := by decide +kernel
theorem dX0_dayOfCount_12 : decode cX0_dayOfCount 12 = .ok (.aload_n 0, 1) := by decide +kernel
theorem dX0_dayOfCount_13 : decode cX0_dayOfCount 13 = .ok (.getfield 21, 3) := by decide +kernel
theorem dX0_dayOfCount_16 : decode cX0_dayOfCount 16 = .ok (.imul, 1) := by decide +kernel
theorem dX0_dayOfCount_17 : decode cX0_dayOfCount 17 = .ok (.isub, 1) := by decide +kernel
theorem dX0_dayOfCount_18 : decode cX0_dayOfCount 18 = .ok (.istore_n 3, 1) := by decide +kernel
theorem dX0_dayOfCount_19 : decode cX0_dayOfCount 19 = .ok (.aload_n 0, 1) := by decide +kernel
theorem dX0_dayOfCount_20 : decode cX0_dayOfCount 20 = .ok (.iload_n 3, 1) := by decide +kernel
theorem dX0_dayOfCount_21 : decode cX0_dayOfCount 21 = .ok (.invokevirtual 39, 3) := by decide +kernel
theorem dX0_dayOfCount_24 : decode cX0_dayOfCount 24 = .ok (.iload_n 2, 1) := by decide +kernel
theorem dX0_dayOfCount_25 : decode cX0_dayOfCount 25 = .ok (.if_icmp .ne 16, 3) := by decide +kernel
theorem dX0_dayOfCount_28 : decode cX0_dayOfCount 28 = .ok (.iload_n 3, 1) := by decide +kernel
theorem dX0_dayOfCount_29 : decode cX0_dayOfCount 29 = .ok (.sipush 19999, 3) := by decide +kernel
theorem dX0_dayOfCount_32 : decode cX0_dayOfCount 32 = .ok (.if_icmp .gt 7, 3) := by decide +kernel
theorem dX0_dayOfCount_35 : decode cX0_dayOfCount 35 = .ok (.iload_n 3, 1) := by decide +kernel
theorem dX0_dayOfCount_36 : decode cX0_dayOfCount 36 = .ok (.goto 4, 3) := by decide +kernel
theorem dX0_dayOfCount_39 : decode cX0_dayOfCount 39 = .ok (.iconst (-1), 1) := by decide +kernel
theorem dX0_dayOfCount_40 : decode cX0_dayOfCount 40 = .ok (.ireturn, 1) := by decide +kernel
theorem dX0_dayOfCount_41 : decode cX0_dayOfCount 41 = .ok (.iinc 2 1, 3) := by decide +kernel
theorem dX0_dayOfCount_44 : decode cX0_dayOfCount 44 = .ok (.goto (-42), 3) := by decide +kernel
theorem dX0_dayOfCount_47 : decode cX0_dayOfCount 47 = .ok (.iconst (-1), 1) := by decide +kernel
theorem dX0_dayOfCount_48 : decode cX0_dayOfCount 48 = .ok (.ireturn, 1) := by decide +kernel
theorem dX0_shortLength_0 : decode cX0_shortLength 0 = .ok (.aload_n 0, 1) := by decide +kernel
theorem dX0_shortLength_1 : decode cX0_shortLength 1 = .ok (.getfield 9, 3) := by decide +kernel
theorem dX0_shortLength_4 : decode cX0_shortLength 4 = .ok (.iconst 3, 1) := by decide +kernel
theorem dX0_shortLength_5 : decode cX0_shortLength 5 = .ok (.if_icmp .ne 8, 3) := by decide +kernel
theorem dX0_shortLength_8 : decode cX0_shortLength 8 = .ok (.bipush 98, 2) := by decide +kernel
theorem dX0_shortLength_10 : decode cX0_shortLength 10 = .ok (.goto 5, 3) := by decide +kernel
theorem dX0_shortLength_13 : decode cX0_shortLength 13 = .ok (.bipush 100, 2) := by decide +kernel
theorem dX0_shortLength_15 : decode cX0_shortLength 15 = .ok (.ireturn, 1) := by decide +kernel
theorem dX0_lengthOf_0 : decode cX0_lengthOf 0 = .ok (.aload_n 0, 1) := by decide +kernel
theorem dX0_lengthOf_1 : decode cX0_lengthOf 1 = .ok (.iconst 1, 1) := by decide +kernel
theorem dX0_lengthOf_2 : decode cX0_lengthOf 2 = .ok (.invokevirtual 42, 3) := by decide +kernel
theorem dX0_lengthOf_5 : decode cX0_lengthOf 5 = .ok (.ifCond .eq 17, 3) := by decide +kernel
theorem dX0_lengthOf_8 : decode cX0_lengthOf 8 = .ok (.iload_n 1, 1) := by decide +kernel
theorem dX0_lengthOf_9 : decode cX0_lengthOf 9 = .ok (.aload_n 0, 1) := by decide +kernel
theorem dX0_lengthOf_10 : decode cX0_lengthOf 10 = .ok (.getfield 15, 3) := by decide +kernel
theorem dX0_lengthOf_13 : decode cX0_lengthOf 13 = .ok (.irem, 1) := by decide +kernel
theorem dX0_lengthOf_14 : decode cX0_lengthOf 14 = .ok (.ifCond .ne 8, 3) := by decide +kernel
theorem dX0_lengthOf_17 : decode cX0_lengthOf 17 = .ok (.bipush 101, 2) := by decide +kernel
theorem dX0_lengthOf_19 : decode cX0_lengthOf 19 = .ok (.goto 7, 3) := by decide +kernel
theorem dX0_lengthOf_22 : decode cX0_lengthOf 22 = .ok (.aload_n 0, 1) := by decide +kernel
theorem dX0_lengthOf_23 : decode cX0_lengthOf 23 = .ok (.invokevirtual 46, 3) := by decide +kernel
theorem dX0_lengthOf_26 : decode cX0_lengthOf 26 = .ok (.ireturn, 1) := by decide +kernel
theorem dX0_startOf_0 : decode cX0_startOf 0 = .ok (.aload_n 0, 1) := by decide +kernel
theorem dX0_startOf_1 : decode cX0_startOf 1 = .ok (.invokevirtual 46, 3) := by decide +kernel
theorem dX0_startOf_4 : decode cX0_startOf 4 = .ok (.iload_n 1, 1) := by decide +kernel
theorem dX0_startOf_5 : decode cX0_startOf 5 = .ok (.imul, 1) := by decide +kernel
theorem dX0_startOf_6 : decode cX0_startOf 6 = .ok (.aload_n 0, 1) := by decide +kernel
theorem dX0_startOf_7 : decode cX0_startOf 7 = .ok (.iconst 1, 1) := by decide +kernel
theorem dX0_startOf_8 : decode cX0_startOf 8 = .ok (.invokevirtual 42, 3) := by decide +kernel
theorem dX0_startOf_11 : decode cX0_startOf 11 = .ok (.ifCond .eq 14, 3) := by decide +kernel
theorem dX0_startOf_14 : decode cX0_startOf 14 = .ok (.iload_n 1, 1) := by decide +kernel
theorem dX0_startOf_15 : decode cX0_startOf 15 = .ok (.aload_n 0, 1) := by decide +kernel
theorem dX0_startOf_16 : decode cX0_startOf 16 = .ok (.getfield 15, 3) := by decide +kernel
theorem dX0_startOf_19 : decode cX0_startOf 19 = .ok (.invokestatic 49, 3) := by decide +kernel
theorem dX0_startOf_22 : decode cX0_startOf 22 = .ok (.goto 4, 3) := by decide +kernel
theorem dX0_startOf_25 : decode cX0_startOf 25 = .ok (.iconst 0, 1) := by decide +kernel
theorem dX0_startOf_26 : decode cX0_startOf 26 = .ok (.iadd, 1) := by decide +kernel
theorem dX0_startOf_27 : decode cX0_startOf 27 = .ok (.ireturn, 1) := by decide +kernel
theorem dX0_dateOfCount_0 : decode cX0_dateOfCount 0 = .ok (.aload_n 0, 1) := by decide +kernel
theorem dX0_dateOfCount_1 : decode cX0_dateOfCount 1 = .ok (.iconst 1, 1) := by decide +kernel
theorem dX0_dateOfCount_2 : decode cX0_dateOfCount 2 = .ok (.invokevirtual 42, 3) := by decide +kernel
theorem dX0_dateOfCount_5 : decode cX0_dateOfCount 5 = .ok (.ifCond .ne 20, 3) := by decide +kernel
theorem dX0_dateOfCount_8 : decode cX0_dateOfCount 8 = .ok (.aload_n 0, 1) := by decide +kernel
theorem dX0_dateOfCount_9 : decode cX0_dateOfCount 9 = .ok (.invokevirtual 46, 3) := by decide +kernel
theorem dX0_dateOfCount_12 : decode cX0_dateOfCount 12 = .ok (.istore_n 2, 1) := by decide +kernel
theorem dX0_dateOfCount_13 : decode cX0_dateOfCount 13 = .ok (.sipush 1000, 3) := by decide +kernel
theorem dX0_dateOfCount_16 : decode cX0_dateOfCount 16 = .ok (.iload_n 1, 1) := by decide +kernel
theorem dX0_dateOfCount_17 : decode cX0_dateOfCount 17 = .ok (.iload_n 2, 1) := by decide +kernel
theorem dX0_dateOfCount_18 : decode cX0_dateOfCount 18 = .ok (.idiv, 1) := by decide +kernel
theorem dX0_dateOfCount_19 : decode cX0_dateOfCount 19 = .ok (.imul, 1) := by decide +kernel
theorem dX0_dateOfCount_20 : decode cX0_dateOfCount 20 = .ok (.iload_n 1, 1) := by decide +kernel
theorem dX0_dateOfCount_21 : decode cX0_dateOfCount 21 = .ok (.iload_n 2, 1) := by decide +kernel
theorem dX0_dateOfCount_22 : decode cX0_dateOfCount 22 = .ok (.irem, 1) := by decide +kernel
theorem dX0_dateOfCount_23 : decode cX0_dateOfCount 23 = .ok (.iadd, 1) := by decide +kernel
theorem dX0_dateOfCount_24 : decode cX0_dateOfCount 24 = .ok (.ireturn, 1) := by decide +kernel
theorem dX0_dateOfCount_25 : decode cX0_dateOfCount 25 = .ok (.bipush 100, 2) := by decide +kernel
theorem dX0_dateOfCount_27 : decode cX0_dateOfCount 27 = .ok (.aload_n 0, 1) := by decide +kernel
theorem dX0_dateOfCount_28 : decode cX0_dateOfCount 28 = .ok (.getfield 15, 3) := by decide +kernel
theorem dX0_dateOfCount_31 : decode cX0_dateOfCount 31 = .ok (.imul, 1) := by decide +kernel
theorem dX0_dateOfCount_32 : decode cX0_dateOfCount 32 = .ok (.iconst 1, 1) := by decide +kernel
theorem dX0_dateOfCount_33 : decode cX0_dateOfCount 33 = .ok (.iadd, 1) := by decide +kernel
theorem dX0_dateOfCount_34 : decode cX0_dateOfCount 34 = .ok (.istore_n 2, 1) := by decide +kernel
theorem dX0_dateOfCount_35 : decode cX0_dateOfCount 35 = .ok (.iload_n 1, 1) := by decide +kernel
theorem dX0_dateOfCount_36 : decode cX0_dateOfCount 36 = .ok (.iload_n 2, 1) := by decide +kernel
theorem dX0_dateOfCount_37 : decode cX0_dateOfCount 37 = .ok (.idiv, 1) := by decide +kernel
theorem dX0_dateOfCount_38 : decode cX0_dateOfCount 38 = .ok (.aload_n 0, 1) := by decide +kernel
theorem dX0_dateOfCount_39 : decode cX0_dateOfCount 39 = .ok (.getfield 15, 3) := by decide +kernel
theorem dX0_dateOfCount_42 : decode cX0_dateOfCount 42 = .ok (.imul, 1) := by decide +kernel
theorem dX0_dateOfCount_43 : decode cX0_dateOfCount 43 = .ok (.istore_n 3, 1) := by decide +kernel
theorem dX0_dateOfCount_44 : decode cX0_dateOfCount 44 = .ok (.iload_n 1, 1) := by decide +kernel
theorem dX0_dateOfCount_45 : decode cX0_dateOfCount 45 = .ok (.iload_n 2, 1) := by decide +kernel
theorem dX0_dateOfCount_46 : decode cX0_dateOfCount 46 = .ok (.irem, 1) := by decide +kernel
theorem dX0_dateOfCount_47 : decode cX0_dateOfCount 47 = .ok (.istore 4, 2) := by decide +kernel
theorem dX0_dateOfCount_49 : decode cX0_dateOfCount 49 = .ok (.iload 4, 2) := by decide +kernel
theorem dX0_dateOfCount_51 : decode cX0_dateOfCount 51 = .ok (.bipush 101, 2) := by decide +kernel
theorem dX0_dateOfCount_53 : decode cX0_dateOfCount 53 = .ok (.if_icmp .ge 12, 3) := by decide +kernel
theorem dX0_dateOfCount_56 : decode cX0_dateOfCount 56 = .ok (.sipush 1000, 3) := by decide +kernel
theorem dX0_dateOfCount_59 : decode cX0_dateOfCount 59 = .ok (.iload_n 3, 1) := by decide +kernel
theorem dX0_dateOfCount_60 : decode cX0_dateOfCount 60 = .ok (.imul, 1) := by decide +kernel
theorem dX0_dateOfCount_61 : decode cX0_dateOfCount 61 = .ok (.iload 4, 2) := by decide +kernel
theorem dX0_dateOfCount_63 : decode cX0_dateOfCount 63 = .ok (.iadd, 1) := by decide +kernel
theorem dX0_dateOfCount_64 : decode cX0_dateOfCount 64 = .ok (.ireturn, 1) := by decide +kernel
theorem dX0_dateOfCount_65 : decode cX0_dateOfCount 65 = .ok (.sipush 1000, 3) := by decide +kernel
theorem dX0_dateOfCount_68 : decode cX0_dateOfCount 68 = .ok (.iload_n 3, 1) := by decide +kernel
theorem dX0_dateOfCount_69 : decode cX0_dateOfCount 69 = .ok (.iload 4, 2) := by decide +kernel
theorem dX0_dateOfCount_71 : decode cX0_dateOfCount 71 = .ok (.iconst 1, 1) := by decide +kernel
theorem dX0_dateOfCount_72 : decode cX0_dateOfCount 72 = .ok (.isub, 1) := by decide +kernel
theorem dX0_dateOfCount_73 : decode cX0_dateOfCount 73 = .ok (.bipush 100, 2) := by decide +kernel
theorem dX0_dateOfCount_75 : decode cX0_dateOfCount 75 = .ok (.idiv, 1) := by decide +kernel
theorem dX0_dateOfCount_76 : decode cX0_dateOfCount 76 = .ok (.iadd, 1) := by decide +kernel
theorem dX0_dateOfCount_77 : decode cX0_dateOfCount 77 = .ok (.imul, 1) := by decide +kernel
theorem dX0_dateOfCount_78 : decode cX0_dateOfCount 78 = .ok (.iload 4, 2) := by decide +kernel
theorem dX0_dateOfCount_80 : decode cX0_dateOfCount 80 = .ok (.iconst 1, 1) := by decide +kernel
theorem dX0_dateOfCount_81 : decode cX0_dateOfCount 81 = .ok (.isub, 1) := by decide +kernel
theorem dX0_dateOfCount_82 : decode cX0_dateOfCount 82 = .ok (.bipush 100, 2) := by decide +kernel
theorem dX0_dateOfCount_84 : decode cX0_dateOfCount 84 = .ok (.irem, 1) := by decide +kernel
theorem dX0_dateOfCount_85 : decode cX0_dateOfCount 85 = .ok (.iadd, 1) := by decide +kernel
theorem dX0_dateOfCount_86 : decode cX0_dateOfCount 86 = .ok (.ireturn, 1) := by decide +kernel
theorem dX0_dateOn_0 : decode cX0_dateOn 0 = .ok (.aload_n 0, 1) := by decide +kernel
theorem dX0_dateOn_1 : decode cX0_dateOn 1 = .ok (.aload_n 0, 1) := by decide +kernel
theorem dX0_dateOn_2 : decode cX0_dateOn 2 = .ok (.iload_n 1, 1) := by decide +kernel
theorem dX0_dateOn_3 : decode cX0_dateOn 3 = .ok (.invokevirtual 53, 3) := by decide +kernel
theorem dX0_dateOn_6 : decode cX0_dateOn 6 = .ok (.invokevirtual 56, 3) := by decide +kernel
theorem dX0_dateOn_9 : decode cX0_dateOn 9 = .ok (.ireturn, 1) := by decide +kernel
theorem dX0_dayOfDate_0 : decode cX0_dayOfDate 0 = .ok (.iload_n 1, 1) := by decide +kernel
theorem dX0_dayOfDate_1 : decode cX0_dayOfDate 1 = .ok (.ifCond .ge 5, 3) := by decide +kernel
theorem dX0_dayOfDate_4 : decode cX0_dayOfDate 4 = .ok (.iconst (-1), 1) := by decide +kernel
theorem dX0_dayOfDate_5 : decode cX0_dayOfDate 5 = .ok (.ireturn, 1) := by decide +kernel
theorem dX0_dayOfDate_6 : decode cX0_dayOfDate 6 = .ok (.iload_n 1, 1) := by decide +kernel
theorem dX0_dayOfDate_7 : decode cX0_dayOfDate 7 = .ok (.sipush 1000, 3) := by decide +kernel
theorem dX0_dayOfDate_10 : decode cX0_dayOfDate 10 = .ok (.idiv, 1) := by decide +kernel
theorem dX0_dayOfDate_11 : decode cX0_dayOfDate 11 = .ok (.istore_n 2, 1) := by decide +kernel
theorem dX0_dayOfDate_12 : decode cX0_dayOfDate 12 = .ok (.iload_n 1, 1) := by decide +kernel
theorem dX0_dayOfDate_13 : decode cX0_dayOfDate 13 = .ok (.sipush 1000, 3) := by decide +kernel
theorem dX0_dayOfDate_16 : decode cX0_dayOfDate 16 = .ok (.irem, 1) := by decide +kernel
theorem dX0_dayOfDate_17 : decode cX0_dayOfDate 17 = .ok (.istore_n 3, 1) := by decide +kernel
theorem dX0_dayOfDate_18 : decode cX0_dayOfDate 18 = .ok (.iload_n 3, 1) := by decide +kernel
theorem dX0_dayOfDate_19 : decode cX0_dayOfDate 19 = .ok (.aload_n 0, 1) := by decide +kernel
theorem dX0_dayOfDate_20 : decode cX0_dayOfDate 20 = .ok (.iload_n 2, 1) := by decide +kernel
theorem dX0_dayOfDate_21 : decode cX0_dayOfDate 21 = .ok (.invokevirtual 59, 3) := by decide +kernel
theorem dX0_dayOfDate_24 : decode cX0_dayOfDate 24 = .ok (.if_icmp .ge 17, 3) := by decide +kernel
theorem dX0_dayOfDate_27 : decode cX0_dayOfDate 27 = .ok (.aload_n 0, 1) := by decide +kernel
theorem dX0_dayOfDate_28 : decode cX0_dayOfDate 28 = .ok (.aload_n 0, 1) := by decide +kernel
theorem dX0_dayOfDate_29 : decode cX0_dayOfDate 29 = .ok (.iload_n 2, 1) := by decide +kernel
theorem dX0_dayOfDate_30 : decode cX0_dayOfDate 30 = .ok (.invokevirtual 62, 3) := by decide +kernel
theorem dX0_dayOfDate_33 : decode cX0_dayOfDate 33 = .ok (.iload_n 3, 1) := by decide +kernel
theorem dX0_dayOfDate_34 : decode cX0_dayOfDate 34 = .ok (.iadd, 1) := by decide +kernel
theorem dX0_dayOfDate_35 : decode cX0_dayOfDate 35 = .ok (.invokevirtual 65, 3) := by decide +kernel
theorem dX0_dayOfDate_38 : decode cX0_dayOfDate 38 = .ok (.goto 4, 3) := by decide +kernel
theorem dX0_dayOfDate_41 : decode cX0_dayOfDate 41 = .ok (.iconst (-1), 1) := by decide +kernel
theorem dX0_dayOfDate_42 : decode cX0_dayOfDate 42 = .ok (.ireturn, 1) := by decide +kernel
theorem dX0_stretchEndFrom_0 : decode cX0_stretchEndFrom 0 = .ok (.aload_n 0, 1) := by decide +kernel
theorem dX0_stretchEndFrom_1 : decode cX0_stretchEndFrom 1 = .ok (.iload_n 1, 1) := by decide +kernel
theorem dX0_stretchEndFrom_2 : decode cX0_stretchEndFrom 2 = .ok (.invokevirtual 68, 3) := by decide +kernel
theorem dX0_stretchEndFrom_5 : decode cX0_stretchEndFrom 5 = .ok (.istore_n 2, 1) := by decide +kernel
theorem dX0_stretchEndFrom_6 : decode cX0_stretchEndFrom 6 = .ok (.iload_n 1, 1) := by decide +kernel
theorem dX0_stretchEndFrom_7 : decode cX0_stretchEndFrom 7 = .ok (.aload_n 0, 1) := by decide +kernel
theorem dX0_stretchEndFrom_8 : decode cX0_stretchEndFrom 8 = .ok (.iload_n 2, 1) := by decide +kernel
theorem dX0_stretchEndFrom_9 : decode cX0_stretchEndFrom 9 = .ok (.sipush 1000, 3) := by decide +kernel
theorem dX0_stretchEndFrom_12 : decode cX0_stretchEndFrom 12 = .ok (.idiv, 1) := by decide +kernel
theorem dX0_stretchEndFrom_13 : decode cX0_stretchEndFrom 13 = .ok (.invokevirtual 59, 3) := by decide +kernel
theorem dX0_stretchEndFrom_16 : decode cX0_stretchEndFrom 16 = .ok (.iadd, 1) := by decide +kernel
theorem dX0_stretchEndFrom_17 : decode cX0_stretchEndFrom 17 = .ok (.iconst 1, 1) := by decide +kernel
theorem dX0_stretchEndFrom_18 : decode cX0_stretchEndFrom 18 = .ok (.isub, 1) := by decide +kernel
theorem dX0_stretchEndFrom_19 : decode cX0_stretchEndFrom 19 = .ok (.iload_n 2, 1) := by decide +kernel
theorem dX0_stretchEndFrom_20 : decode cX0_stretchEndFrom 20 = .ok (.sipush 1000, 3) := by decide +kernel
theorem dX0_stretchEndFrom_23 : decode cX0_stretchEndFrom 23 = .ok (.irem, 1) := by decide +kernel
theorem dX0_stretchEndFrom_24 : decode cX0_stretchEndFrom 24 = .ok (.isub, 1) := by decide +kernel
theorem dX0_stretchEndFrom_25 : decode cX0_stretchEndFrom 25 = .ok (.istore_n 3, 1) := by decide +kernel
theorem dX0_stretchEndFrom_26 : decode cX0_stretchEndFrom 26 = .ok (.aload_n 0, 1) := by decide +kernel
theorem dX0_stretchEndFrom_27 : decode cX0_stretchEndFrom 27 = .ok (.iload_n 1, 1) := by decide +kernel
theorem dX0_stretchEndFrom_28 : decode cX0_stretchEndFrom 28 = .ok (.invokevirtual 39, 3) := by decide +kernel
theorem dX0_stretchEndFrom_31 : decode cX0_stretchEndFrom 31 = .ok (.iconst 1, 1) := by decide +kernel
theorem dX0_stretchEndFrom_32 : decode cX0_stretchEndFrom 32 = .ok (.iadd, 1) := by decide +kernel
theorem dX0_stretchEndFrom_33 : decode cX0_stretchEndFrom 33 = .ok (.istore 4, 2) := by decide +kernel
theorem dX0_stretchEndFrom_35 : decode cX0_stretchEndFrom 35 = .ok (.iload 4, 2) := by decide +kernel
theorem dX0_stretchEndFrom_37 : decode cX0_stretchEndFrom 37 = .ok (.aload_n 0, 1) := by decide +kernel
theorem dX0_stretchEndFrom_38 : decode cX0_stretchEndFrom 38 = .ok (.invokevirtual 31, 3) := by decide +kernel
theorem dX0_stretchEndFrom_41 : decode cX0_stretchEndFrom 41 = .ok (.if_icmp .le 7, 3) := by decide +kernel
theorem dX0_stretchEndFrom_44 : decode cX0_stretchEndFrom 44 = .ok (.iload_n 3, 1) := by decide +kernel
theorem dX0_stretchEndFrom_45 : decode cX0_stretchEndFrom 45 = .ok (.goto 15, 3) := by decide +kernel
theorem dX0_stretchEndFrom_48 : decode cX0_stretchEndFrom 48 = .ok (.iload_n 3, 1) := by decide +kernel
theorem dX0_stretchEndFrom_49 : decode cX0_stretchEndFrom 49 = .ok (.aload_n 0, 1) := by decide +kernel
theorem dX0_stretchEndFrom_50 : decode cX0_stretchEndFrom 50 = .ok (.iload 4, 2) := by decide +kernel
theorem dX0_stretchEndFrom_52 : decode cX0_stretchEndFrom 52 = .ok (.invokevirtual 35, 3) := by decide +kernel
theorem dX0_stretchEndFrom_55 : decode cX0_stretchEndFrom 55 = .ok (.iconst 1, 1) := by decide +kernel
theorem dX0_stretchEndFrom_56 : decode cX0_stretchEndFrom 56 = .ok (.isub, 1) := by decide +kernel
theorem dX0_stretchEndFrom_57 : decode cX0_stretchEndFrom 57 = .ok (.invokestatic 71, 3) := by decide +kernel
theorem dX0_stretchEndFrom_60 : decode cX0_stretchEndFrom 60 = .ok (.ireturn, 1) := by decide +kernel
theorem dX0_timesAgain_0 : decode cX0_timesAgain 0 = .ok (.iload_n 1, 1) := by decide +kernel
theorem dX0_timesAgain_1 : decode cX0_timesAgain 1 = .ok (.sipush 1000, 3) := by decide +kernel
theorem dX0_timesAgain_4 : decode cX0_timesAgain 4 = .ok (.irem, 1) := by decide +kernel
theorem dX0_timesAgain_5 : decode cX0_timesAgain 5 = .ok (.istore_n 3, 1) := by decide +kernel
theorem dX0_timesAgain_6 : decode cX0_timesAgain 6 = .ok (.aload_n 0, 1) := by decide +kernel
theorem dX0_timesAgain_7 : decode cX0_timesAgain 7 = .ok (.iload_n 2, 1) := by decide +kernel
theorem dX0_timesAgain_8 : decode cX0_timesAgain 8 = .ok (.invokevirtual 68, 3) := by decide +kernel
theorem dX0_timesAgain_11 : decode cX0_timesAgain 11 = .ok (.sipush 1000, 3) := by decide +kernel
theorem dX0_timesAgain_14 : decode cX0_timesAgain 14 = .ok (.idiv, 1) := by decide +kernel
theorem dX0_timesAgain_15 : decode cX0_timesAgain 15 = .ok (.istore 4, 2) := by decide +kernel
theorem dX0_timesAgain_17 : decode cX0_timesAgain 17 = .ok (.iconst 0, 1) := by decide +kernel
theorem dX0_timesAgain_18 : decode cX0_timesAgain 18 = .ok (.istore 5, 2) := by decide +kernel
theorem dX0_timesAgain_20 : decode cX0_timesAgain 20 = .ok (.iload_n 1, 1) := by decide +kernel
theorem dX0_timesAgain_21 : decode cX0_timesAgain 21 = .ok (.sipush 1000, 3) := by decide +kernel
theorem dX0_timesAgain_24 : decode cX0_timesAgain 24 = .ok (.idiv, 1) := by decide +kernel
theorem dX0_timesAgain_25 : decode cX0_timesAgain 25 = .ok (.iconst 1, 1) := by decide +kernel
theorem dX0_timesAgain_26 : decode cX0_timesAgain 26 = .ok (.iadd, 1) := by decide +kernel
theorem dX0_timesAgain_27 : decode cX0_timesAgain 27 = .ok (.istore 6, 2) := by decide +kernel
theorem dX0_timesAgain_29 : decode cX0_timesAgain 29 = .ok (.iload 6, 2) := by decide +kernel
theorem dX0_timesAgain_31 : decode cX0_timesAgain 31 = .ok (.iload 4, 2) := by decide +kernel
theorem dX0_timesAgain_33 : decode cX0_timesAgain 33 = .ok (.if_icmp .gt 38, 3) := by decide +kernel
theorem dX0_timesAgain_36 : decode cX0_timesAgain 36 = .ok (.aload_n 0, 1) := by decide +kernel
theorem dX0_timesAgain_37 : decode cX0_timesAgain 37 = .ok (.sipush 1000, 3) := by decide +kernel
theorem dX0_timesAgain_40 : decode cX0_timesAgain 40 = .ok (.iload 6, 2) := by decide +kernel
theorem dX0_timesAgain_42 : decode cX0_timesAgain 42 = .ok (.imul, 1) := by decide +kernel
theorem dX0_timesAgain_43 : decode cX0_timesAgain 43 = .ok (.iload_n 3, 1) := by decide +kernel
theorem dX0_timesAgain_44 : decode cX0_timesAgain 44 = .ok (.iadd, 1) := by decide +kernel
theorem dX0_timesAgain_45 : decode cX0_timesAgain 45 = .ok (.invokevirtual 76, 3) := by decide +kernel
theorem dX0_timesAgain_48 : decode cX0_timesAgain 48 = .ok (.istore 7, 2) := by decide +kernel
theorem dX0_timesAgain_50 : decode cX0_timesAgain 50 = .ok (.iload 7, 2) := by decide +kernel
theorem dX0_timesAgain_52 : decode cX0_timesAgain 52 = .ok (.iconst (-1), 1) := by decide +kernel
theorem dX0_timesAgain_53 : decode cX0_timesAgain 53 = .ok (.if_icmp .eq 12, 3) := by decide +kernel
theorem dX0_timesAgain_56 : decode cX0_timesAgain 56 = .ok (.iload 7, 2) := by decide +kernel
theorem dX0_timesAgain_58 : decode cX0_timesAgain 58 = .ok (.iload_n 2, 1) := by decide +kernel
theorem dX0_timesAgain_59 : decode cX0_timesAgain 59 = .ok (.if_icmp .gt 6, 3) := by decide +kernel
theorem dX0_timesAgain_62 : decode cX0_timesAgain 62 = .ok (.iinc 5 1, 3) := by decide +kernel
theorem dX0_timesAgain_65 : decode cX0_timesAgain 65 = .ok (.iinc 6 1, 3) := by decide +kernel
theorem dX0_timesAgain_68 : decode cX0_timesAgain 68 = .ok (.goto (-39), 3) := by decide +kernel
theorem dX0_timesAgain_71 : decode cX0_timesAgain 71 = .ok (.iload 5, 2) := by decide +kernel
theorem dX0_timesAgain_73 : decode cX0_timesAgain 73 = .ok (.ireturn, 1) := by decide +kernel
theorem dX0_markOf_0 : decode cX0_markOf 0 = .ok (.iload_n 1, 1) := by decide +kernel
theorem dX0_markOf_1 : decode cX0_markOf 1 = .ok (.tableswitch 90 1 4 #[31, 56, 67, 79], 31) := by decide +kernel
theorem dX0_markOf_32 : decode cX0_markOf 32 = .ok (.aload_n 0, 1) := by decide +kernel
theorem dX0_markOf_33 : decode cX0_markOf 33 = .ok (.getfield 15, 3) := by decide +kernel
theorem dX0_markOf_36 : decode cX0_markOf 36 = .ok (.aload_n 0, 1) := by decide +kernel
theorem dX0_markOf_37 : decode cX0_markOf 37 = .ok (.iload_n 2, 1) := by decide +kernel
theorem dX0_markOf_38 : decode cX0_markOf 38 = .ok (.invokevirtual 68, 3) := by decide +kernel
theorem dX0_markOf_41 : decode cX0_markOf 41 = .ok (.sipush 1000, 3) := by decide +kernel
theorem dX0_markOf_44 : decode cX0_markOf 44 = .ok (.idiv, 1) := by decide +kernel
theorem dX0_markOf_45 : decode cX0_markOf 45 = .ok (.aload_n 0, 1) := by decide +kernel
theorem dX0_markOf_46 : decode cX0_markOf 46 = .ok (.getfield 15, 3) := by decide +kernel
theorem dX0_markOf_49 : decode cX0_markOf 49 = .ok (.irem, 1) := by decide +kernel
theorem dX0_markOf_50 : decode cX0_markOf 50 = .ok (.isub, 1) := by decide +kernel
theorem dX0_markOf_51 : decode cX0_markOf 51 = .ok (.aload_n 0, 1) := by decide +kernel
theorem dX0_markOf_52 : decode cX0_markOf 52 = .ok (.getfield 15, 3) := by decide +kernel
theorem dX0_markOf_55 : decode cX0_markOf 55 = .ok (.irem, 1) := by decide +kernel
theorem dX0_markOf_56 : decode cX0_markOf 56 = .ok (.ireturn, 1) := by decide +kernel
theorem dX0_markOf_57 : decode cX0_markOf 57 = .ok (.iconst 0, 1) := by decide +kernel
theorem dX0_markOf_58 : decode cX0_markOf 58 = .ok (.aload_n 0, 1) := by decide +kernel
theorem dX0_markOf_59 : decode cX0_markOf 59 = .ok (.getfield 18, 3) := by decide +kernel
theorem dX0_markOf_62 : decode cX0_markOf 62 = .ok (.iload_n 2, 1) := by decide +kernel
theorem dX0_markOf_63 : decode cX0_markOf 63 = .ok (.isub, 1) := by decide +kernel
theorem dX0_markOf_64 : decode cX0_markOf 64 = .ok (.invokestatic 79, 3) := by decide +kernel
theorem dX0_markOf_67 : decode cX0_markOf 67 = .ok (.ireturn, 1) := by decide +kernel
theorem dX0_markOf_68 : decode cX0_markOf 68 = .ok (.aload_n 0, 1) := by decide +kernel
theorem dX0_markOf_69 : decode cX0_markOf 69 = .ok (.iload_n 2, 1) := by decide +kernel
theorem dX0_markOf_70 : decode cX0_markOf 70 = .ok (.invokevirtual 68, 3) := by decide +kernel
theorem dX0_markOf_73 : decode cX0_markOf 73 = .ok (.sipush 1000, 3) := by decide +kernel
theorem dX0_markOf_76 : decode cX0_markOf 76 = .ok (.idiv, 1) := by decide +kernel
theorem dX0_markOf_77 : decode cX0_markOf 77 = .ok (.iconst 1, 1) := by decide +kernel
theorem dX0_markOf_78 : decode cX0_markOf 78 = .ok (.iadd, 1) := by decide +kernel
theorem dX0_markOf_79 : decode cX0_markOf 79 = .ok (.ireturn, 1) := by decide +kernel
theorem dX0_markOf_80 : decode cX0_markOf 80 = .ok (.aload_n 0, 1) := by decide +kernel
theorem dX0_markOf_81 : decode cX0_markOf 81 = .ok (.getfield 21, 3) := by decide +kernel
theorem dX0_markOf_84 : decode cX0_markOf 84 = .ok (.aload_n 0, 1) := by decide +kernel
theorem dX0_markOf_85 : decode cX0_markOf 85 = .ok (.iload_n 2, 1) := by decide +kernel
theorem dX0_markOf_86 : decode cX0_markOf 86 = .ok (.invokevirtual 39, 3) := by decide +kernel
theorem dX0_markOf_89 : decode cX0_markOf 89 = .ok (.imul, 1) := by decide +kernel
theorem dX0_markOf_90 : decode cX0_markOf 90 = .ok (.ireturn, 1) := by decide +kernel
theorem dX0_markOf_91 : decode cX0_markOf 91 = .ok (.aload_n 0, 1) := by decide +kernel
theorem dX0_markOf_92 : decode cX0_markOf 92 = .ok (.getfield 21, 3) := by decide +kernel
theorem dX0_markOf_95 : decode cX0_markOf 95 = .ok (.ifCond .ne 7, 3) := by decide +kernel
theorem dX0_markOf_98 : decode cX0_markOf 98 = .ok (.iconst 0, 1) := by decide +kernel
theorem dX0_markOf_99 : decode cX0_markOf 99 = .ok (.goto 8, 3) := by decide +kernel
theorem dX0_markOf_102 : decode cX0_markOf 102 = .ok (.aload_n 0, 1) := by decide +kernel
theorem dX0_markOf_103 : decode cX0_markOf 103 = .ok (.iload_n 2, 1) := by decide +kernel
theorem dX0_markOf_104 : decode cX0_markOf 104 = .ok (.invokevirtual 39, 3) := by decide +kernel
theorem dX0_markOf_107 : decode cX0_markOf 107 = .ok (.ireturn, 1) := by decide +kernel
theorem dX1_init_0 : decode cX1_init 0 = .ok (.aload_n 0, 1) := by decide +kernel
theorem dX1_init_1 : decode cX1_init 1 = .ok (.invokespecial 3, 3) := by decide +kernel
theorem dX1_init_4 : decode cX1_init 4 = .ok (.aload_n 0, 1) := by decide +kernel
theorem dX1_init_5 : decode cX1_init 5 = .ok (.iconst 5, 1) := by decide +kernel
theorem dX1_init_6 : decode cX1_init 6 = .ok (.newarray .int, 2) := by decide +kernel
theorem dX1_init_8 : decode cX1_init 8 = .ok (.putfield 9, 3) := by decide +kernel
theorem dX1_init_11 : decode cX1_init 11 = .ok (.aload_n 0, 1) := by decide +kernel
theorem dX1_init_12 : decode cX1_init 12 = .ok (.iconst 5, 1) := by decide +kernel
theorem dX1_init_13 : decode cX1_init 13 = .ok (.newarray .int, 2) := by decide +kernel
theorem dX1_init_15 : decode cX1_init 15 = .ok (.putfield 15, 3) := by decide +kernel
theorem dX1_init_18 : decode cX1_init 18 = .ok (.aload_n 0, 1) := by decide +kernel
theorem dX1_init_19 : decode cX1_init 19 = .ok (.iconst 5, 1) := by decide +kernel
theorem dX1_init_20 : decode cX1_init 20 = .ok (.newarray .int, 2) := by decide +kernel
theorem dX1_init_22 : decode cX1_init 22 = .ok (.putfield 18, 3) := by decide +kernel
theorem dX1_init_25 : decode cX1_init 25 = .ok (.aload_n 0, 1) := by decide +kernel
theorem dX1_init_26 : decode cX1_init 26 = .ok (.iconst 0, 1) := by decide +kernel
theorem dX1_init_27 : decode cX1_init 27 = .ok (.putfield 21, 3) := by decide +kernel
theorem dX1_init_30 : decode cX1_init 30 = .ok (.aload_n 0, 1) := by decide +kernel
theorem dX1_init_31 : decode cX1_init 31 = .ok (.iconst 0, 1) := by decide +kernel
theorem dX1_init_32 : decode cX1_init 32 = .ok (.putfield 25, 3) := by decide +kernel
theorem dX1_init_35 : decode cX1_init 35 = .ok (.return_, 1) := by decide +kernel
theorem dX1_take_0 : decode cX1_take 0 = .ok (.aload_n 0, 1) := by decide +kernel
theorem dX1_take_1 : decode cX1_take 1 = .ok (.iconst 1, 1) := by decide +kernel
theorem dX1_take_2 : decode cX1_take 2 = .ok (.putfield 21, 3) := by decide +kernel
theorem dX1_take_5 : decode cX1_take 5 = .ok (.aload_n 0, 1) := by decide +kernel
theorem dX1_take_6 : decode cX1_take 6 = .ok (.iload_n 2, 1) := by decide +kernel
theorem dX1_take_7 : decode cX1_take 7 = .ok (.putfield 25, 3) := by decide +kernel
theorem dX1_take_10 : decode cX1_take 10 = .ok (.iconst 0, 1) := by decide +kernel
theorem dX1_take_11 : decode cX1_take 11 = .ok (.istore_n 3, 1) := by decide +kernel
theorem dX1_take_12 : decode cX1_take 12 = .ok (.iload_n 3, 1) := by decide +kernel
theorem dX1_take_13 : decode cX1_take 13 = .ok (.iconst 5, 1) := by decide +kernel
theorem dX1_take_14 : decode cX1_take 14 = .ok (.if_icmp .ge 51, 3) := by decide +kernel
theorem dX1_take_17 : decode cX1_take 17 = .ok (.iload_n 3, 1) := by decide +kernel
theorem dX1_take_18 : decode cX1_take 18 = .ok (.aload_n 1, 1) := by decide +kernel
theorem dX1_take_19 : decode cX1_take 19 = .ok (.arraylength, 1) := by decide +kernel
theorem dX1_take_20 : decode cX1_take 20 = .ok (.if_icmp .ge 45, 3) := by decide +kernel
theorem dX1_take_23 : decode cX1_take 23 = .ok (.aload_n 0, 1) := by decide +kernel
theorem dX1_take_24 : decode cX1_take 24 = .ok (.getfield 9, 3) := by decide +kernel
theorem dX1_take_27 : decode cX1_take 27 = .ok (.iload_n 3, 1) := by decide +kernel
theorem dX1_take_28 : decode cX1_take 28 = .ok (.aload_n 1, 1) := by decide +kernel
theorem dX1_take_29 : decode cX1_take 29 = .ok (.iload_n 3, 1) := by decide +kernel
theorem dX1_take_30 : decode cX1_take 30 = .ok (.aaload, 1) := by decide +kernel
theorem dX1_take_31 : decode cX1_take 31 = .ok (.getfield 29, 3) := by decide +kernel
theorem dX1_take_34 : decode cX1_take 34 = .ok (.iastore, 1) := by decide +kernel
theorem dX1_take_35 : decode cX1_take 35 = .ok (.aload_n 0, 1) := by decide +kernel
theorem dX1_take_36 : decode cX1_take 36 = .ok (.getfield 15, 3) := by decide +kernel
theorem dX1_take_39 : decode cX1_take 39 = .ok (.iload_n 3, 1) := by decide +kernel
theorem dX1_take_40 : decode cX1_take 40 = .ok (.aload_n 1, 1) := by decide +kernel
theorem dX1_take_41 : decode cX1_take 41 = .ok (.iload_n 3, 1) := by decide +kernel
theorem dX1_take_42 : decode cX1_take 42 = .ok (.aaload, 1) := by decide +kernel
theorem dX1_take_43 : decode cX1_take 43 = .ok (.getfield 34, 3) := by decide +kernel
theorem dX1_take_46 : decode cX1_take 46 = .ok (.iastore, 1) := by decide +kernel
theorem dX1_take_47 : decode cX1_take 47 = .ok (.aload_n 0, 1) := by decide +kernel
theorem dX1_take_48 : decode cX1_take 48 = .ok (.getfield 18, 3) := by decide +kernel
theorem dX1_take_51 : decode cX1_take 51 = .ok (.iload_n 3, 1) := by decide +kernel
theorem dX1_take_52 : decode cX1_take 52 = .ok (.aload_n 1, 1) := by decide +kernel
theorem dX1_take_53 : decode cX1_take 53 = .ok (.iload_n 3, 1) := by decide +kernel
theorem dX1_take_54 : decode cX1_take 54 = .ok (.aaload, 1) := by decide +kernel
theorem dX1_take_55 : decode cX1_take 55 = .ok (.getfield 37, 3) := by decide +kernel
theorem dX1_take_58 : decode cX1_take 58 = .ok (.iastore, 1) := by decide +kernel
theorem dX1_take_59 : decode cX1_take 59 = .ok (.iinc 3 1, 3) := by decide +kernel
theorem dX1_take_62 : decode cX1_take 62 = .ok (.goto (-50), 3) := by decide +kernel
theorem dX1_take_65 : decode cX1_take 65 = .ok (.return_, 1) := by decide +kernel
theorem dX1_giveBack_0 : decode cX1_giveBack 0 = .ok (.iconst 0, 1) := by decide +kernel
theorem dX1_giveBack_1 : decode cX1_giveBack 1 = .ok (.istore_n 2, 1) := by decide +kernel
theorem dX1_giveBack_2 : decode cX1_giveBack 2 = .ok (.iload_n 2, 1) := by decide +kernel
theorem dX1_giveBack_3 : decode cX1_giveBack 3 = .ok (.iconst 5, 1) := by decide +kernel
theorem dX1_giveBack_4 : decode cX1_giveBack 4 = .ok (.if_icmp .ge 51, 3) := by decide +kernel
theorem dX1_giveBack_7 : decode cX1_giveBack 7 = .ok (.iload_n 2, 1) := by decide +kernel
theorem dX1_giveBack_8 : decode cX1_giveBack 8 = .ok (.aload_n 1, 1) := by decide +kernel
theorem dX1_giveBack_9 : decode cX1_giveBack 9 = .ok (.arraylength, 1) := by decide +kernel
theorem dX1_giveBack_10 : decode cX1_giveBack 10 = .ok (.if_icmp .ge 45, 3) := by decide +kernel
theorem dX1_giveBack_13 : decode cX1_giveBack 13 = .ok (.aload_n 1, 1) := by decide +kernel
theorem dX1_giveBack_14 : decode cX1_giveBack 14 = .ok (.iload_n 2, 1) := by decide +kernel
theorem dX1_giveBack_15 : decode cX1_giveBack 15 = .ok (.aaload, 1) := by decide +kernel
theorem dX1_giveBack_16 : decode cX1_giveBack 16 = .ok (.aload_n 0, 1) := by decide +kernel
theorem dX1_giveBack_17 : decode cX1_giveBack 17 = .ok (.getfield 9, 3) := by decide +kernel
theorem dX1_giveBack_20 : decode cX1_giveBack 20 = .ok (.iload_n 2, 1) := by decide +kernel
theorem dX1_giveBack_21 : decode cX1_giveBack 21 = .ok (.iaload, 1) := by decide +kernel
theorem dX1_giveBack_22 : decode cX1_giveBack 22 = .ok (.putfield 29, 3) := by decide +kernel
theorem dX1_giveBack_25 : decode cX1_giveBack 25 = .ok (.aload_n 1, 1) := by decide +kernel
theorem dX1_giveBack_26 : decode cX1_giveBack 26 = .ok (.iload_n 2, 1) := by decide +kernel
theorem dX1_giveBack_27 : decode cX1_giveBack 27 = .ok (.aaload, 1) := by decide +kernel
theorem dX1_giveBack_28 : decode cX1_giveBack 28 = .ok (.aload_n 0, 1) := by decide +kernel
theorem dX1_giveBack_29 : decode cX1_giveBack 29 = .ok (.getfield 15, 3) := by decide +kernel
theorem dX1_giveBack_32 : decode cX1_giveBack 32 = .ok (.iload_n 2, 1) := by decide +kernel
theorem dX1_giveBack_33 : decode cX1_giveBack 33 = .ok (.iaload, 1) := by decide +kernel
theorem dX1_giveBack_34 : decode cX1_giveBack 34 = .ok (.putfield 34, 3) := by decide +kernel
theorem dX1_giveBack_37 : decode cX1_giveBack 37 = .ok (.aload_n 1, 1) := by decide +kernel
theorem dX1_giveBack_38 : decode cX1_giveBack 38 = .ok (.iload_n 2, 1) := by decide +kernel
theorem dX1_giveBack_39 : decode cX1_giveBack 39 = .ok (.aaload, 1) := by decide +kernel
theorem dX1_giveBack_40 : decode cX1_giveBack 40 = .ok (.aload_n 0, 1) := by decide +kernel
theorem dX1_giveBack_41 : decode cX1_giveBack 41 = .ok (.getfield 18, 3) := by decide +kernel
theorem dX1_giveBack_44 : decode cX1_giveBack 44 = .ok (.iload_n 2, 1) := by decide +kernel
theorem dX1_giveBack_45 : decode cX1_giveBack 45 = .ok (.iaload, 1) := by decide +kernel
theorem dX1_giveBack_46 : decode cX1_giveBack 46 = .ok (.putfield 37, 3) := by decide +kernel
theorem dX1_giveBack_49 : decode cX1_giveBack 49 = .ok (.iinc 2 1, 3) := by decide +kernel
theorem dX1_giveBack_52 : decode cX1_giveBack 52 = .ok (.goto (-50), 3) := by decide +kernel
theorem dX1_giveBack_55 : decode cX1_giveBack 55 = .ok (.return_, 1) := by decide +kernel
theorem dX2_init_0 : decode cX2_init 0 = .ok (.aload_n 0, 1) := by decide +kernel
theorem dX2_init_1 : decode cX2_init 1 = .ok (.invokespecial 3, 3) := by decide +kernel
theorem dX2_init_4 : decode cX2_init 4 = .ok (.aload_n 0, 1) := by decide +kernel
theorem dX2_init_5 : decode cX2_init 5 = .ok (.bipush 40, 2) := by decide +kernel
theorem dX2_init_7 : decode cX2_init 7 = .ok (.newarray .int, 2) := by decide +kernel
theorem dX2_init_9 : decode cX2_init 9 = .ok (.putfield 9, 3) := by decide +kernel
theorem dX2_init_12 : decode cX2_init 12 = .ok (.aload_n 0, 1) := by decide +kernel
theorem dX2_init_13 : decode cX2_init 13 = .ok (.iconst (-1), 1) := by decide +kernel
theorem dX2_init_14 : decode cX2_init 14 = .ok (.putfield 15, 3) := by decide +kernel
theorem dX2_init_17 : decode cX2_init 17 = .ok (.return_, 1) := by decide +kernel
theorem dX2_renew_0 : decode cX2_renew 0 = .ok (.aload_n 0, 1) := by decide +kernel
theorem dX2_renew_1 : decode cX2_renew 1 = .ok (.iload_n 1, 1) := by decide +kernel
theorem dX2_renew_2 : decode cX2_renew 2 = .ok (.putfield 15, 3) := by decide +kernel
theorem dX2_renew_5 : decode cX2_renew 5 = .ok (.iconst 0, 1) := by decide +kernel
theorem dX2_renew_6 : decode cX2_renew 6 = .ok (.istore_n 2, 1) := by decide +kernel
theorem dX2_renew_7 : decode cX2_renew 7 = .ok (.iload_n 2, 1) := by decide +kernel
theorem dX2_renew_8 : decode cX2_renew 8 = .ok (.bipush 40, 2) := by decide +kernel
theorem dX2_renew_10 : decode cX2_renew 10 = .ok (.if_icmp .ge 16, 3) := by decide +kernel
theorem dX2_renew_13 : decode cX2_renew 13 = .ok (.aload_n 0, 1) := by decide +kernel
theorem dX2_renew_14 : decode cX2_renew 14 = .ok (.getfield 9, 3) := by decide +kernel
theorem dX2_renew_17 : decode cX2_renew 17 = .ok (.iload_n 2, 1) := by decide +kernel
theorem dX2_renew_18 : decode cX2_renew 18 = .ok (.iconst 0, 1) := by decide +kernel
theorem dX2_renew_19 : decode cX2_renew 19 = .ok (.iastore, 1) := by decide +kernel
theorem dX2_renew_20 : decode cX2_renew 20 = .ok (.iinc 2 1, 3) := by decide +kernel
theorem dX2_renew_23 : decode cX2_renew 23 = .ok (.goto (-16), 3) := by decide +kernel
theorem dX2_renew_26 : decode cX2_renew 26 = .ok (.return_, 1) := by decide +kernel
theorem dX2_add_0 : decode cX2_add 0 = .ok (.aload_n 0, 1) := by decide +kernel
theorem dX2_add_1 : decode cX2_add 1 = .ok (.getfield 15, 3) := by decide +kernel
theorem dX2_add_4 : decode cX2_add 4 = .ok (.ifCond .lt 32, 3) := by decide +kernel
theorem dX2_add_7 : decode cX2_add 7 = .ok (.aload_n 0, 1) := by decide +kernel
theorem dX2_add_8 : decode cX2_add 8 = .ok (.getfield 15, 3) := by decide +kernel
theorem dX2_add_11 : decode cX2_add 11 = .ok (.bipush 40, 2) := by decide +kernel
theorem dX2_add_13 : decode cX2_add 13 = .ok (.if_icmp .ge 23, 3) := by decide +kernel
theorem dX2_add_16 : decode cX2_add 16 = .ok (.aload_n 0, 1) := by decide +kernel
theorem dX2_add_17 : decode cX2_add 17 = .ok (.getfield 9, 3) := by decide +kernel
theorem dX2_add_20 : decode cX2_add 20 = .ok (.aload_n 0, 1) := by decide +kernel
theorem dX2_add_21 : decode cX2_add 21 = .ok (.getfield 15, 3) := by decide +kernel
theorem dX2_add_24 : decode cX2_add 24 = .ok (.iload_n 1, 1) := by decide +kernel
theorem dX2_add_25 : decode cX2_add 25 = .ok (.iastore, 1) := by decide +kernel
theorem dX2_add_26 : decode cX2_add 26 = .ok (.aload_n 0, 1) := by decide +kernel
theorem dX2_add_27 : decode cX2_add 27 = .ok (.dup, 1) := by decide +kernel
theorem dX2_add_28 : decode cX2_add 28 = .ok (.getfield 15, 3) := by decide +kernel
theorem dX2_add_31 : decode cX2_add 31 = .ok (.iconst 1, 1) := by decide +kernel
theorem dX2_add_32 : decode cX2_add 32 = .ok (.iadd, 1) := by decide +kernel
theorem dX2_add_33 : decode cX2_add 33 = .ok (.putfield 15, 3) := by decide +kernel
theorem dX2_add_36 : decode cX2_add 36 = .ok (.return_, 1) := by decide +kernel
theorem dX2_holds_0 : decode cX2_holds 0 = .ok (.iload_n 1, 1) := by decide +kernel
theorem dX2_holds_1 : decode cX2_holds 1 = .ok (.ifCond .lt 17, 3) := by decide +kernel
theorem dX2_holds_4 : decode cX2_holds 4 = .ok (.iload_n 2, 1) := by decide +kernel
theorem dX2_holds_5 : decode cX2_holds 5 = .ok (.aload_n 0, 1) := by decide +kernel
theorem dX2_holds_6 : decode cX2_holds 6 = .ok (.getfield 15, 3) := by decide +kernel
theorem dX2_holds_9 : decode cX2_holds 9 = .ok (.iload_n 1, 1) := by decide +kernel
theorem dX2_holds_10 : decode cX2_holds 10 = .ok (.isub, 1) := by decide +kernel
theorem dX2_holds_11 : decode cX2_holds 11 = .ok (.if_icmp .gt 7, 3) := by decide +kernel
theorem dX2_holds_14 : decode cX2_holds 14 = .ok (.iconst 1, 1) := by decide +kernel
theorem dX2_holds_15 : decode cX2_holds 15 = .ok (.goto 4, 3) := by decide +kernel
theorem dX2_holds_18 : decode cX2_holds 18 = .ok (.iconst 0, 1) := by decide +kernel
theorem dX2_holds_19 : decode cX2_holds 19 = .ok (.ireturn, 1) := by decide +kernel
theorem dX2_sum_0 : decode cX2_sum 0 = .ok (.lconst 0, 1) := by decide +kernel
theorem dX2_sum_1 : decode cX2_sum 1 = .ok (.lstore_n 1, 1) := by decide +kernel
theorem dX2_sum_2 : decode cX2_sum 2 = .ok (.iconst 0, 1) := by decide +kernel
theorem dX2_sum_3 : decode cX2_sum 3 = .ok (.istore_n 3, 1) := by decide +kernel
theorem dX2_sum_4 : decode cX2_sum 4 = .ok (.iload_n 3, 1) := by decide +kernel
theorem dX2_sum_5 : decode cX2_sum 5 = .ok (.aload_n 0, 1) := by decide +kernel
theorem dX2_sum_6 : decode cX2_sum 6 = .ok (.getfield 15, 3) := by decide +kernel
theorem dX2_sum_9 : decode cX2_sum 9 = .ok (.if_icmp .ge 19, 3) := by decide +kernel
theorem dX2_sum_12 : decode cX2_sum 12 = .ok (.lload_n 1, 1) := by decide +kernel
theorem dX2_sum_13 : decode cX2_sum 13 = .ok (.aload_n 0, 1) := by decide +kernel
theorem dX2_sum_14 : decode cX2_sum 14 = .ok (.getfield 9, 3) := by decide +kernel
theorem dX2_sum_17 : decode cX2_sum 17 = .ok (.iload_n 3, 1) := by decide +kernel
theorem dX2_sum_18 : decode cX2_sum 18 = .ok (.iaload, 1) := by decide +kernel
theorem dX2_sum_19 : decode cX2_sum 19 = .ok (.i2l, 1) := by decide +kernel
theorem dX2_sum_20 : decode cX2_sum 20 = .ok (.ladd, 1) := by decide +kernel
theorem dX2_sum_21 : decode cX2_sum 21 = .ok (.lstore_n 1, 1) := by decide +kernel
theorem dX2_sum_22 : decode cX2_sum 22 = .ok (.iinc 3 1, 3) := by decide +kernel
theorem dX2_sum_25 : decode cX2_sum 25 = .ok (.goto (-21), 3) := by decide +kernel
theorem dX2_sum_28 : decode cX2_sum 28 = .ok (.lload_n 1, 1) := by decide +kernel
theorem dX2_sum_29 : decode cX2_sum 29 = .ok (.lreturn, 1) := by decide +kernel
theorem dX2_digestFrom_0 : decode cX2_digestFrom 0 = .ok (.ldc2_w 19, 3) := by decide +kernel
theorem dX2_digestFrom_3 : decode cX2_digestFrom 3 = .ok (.lload_n 1, 1) := by decide +kernel
theorem dX2_digestFrom_4 : decode cX2_digestFrom 4 = .ok (.lmul, 1) := by decide +kernel
theorem dX2_digestFrom_5 : decode cX2_digestFrom 5 = .ok (.aload_n 0, 1) := by decide +kernel
theorem dX2_digestFrom_6 : decode cX2_digestFrom 6 = .ok (.getfield 15, 3) := by decide +kernel
theorem dX2_digestFrom_9 : decode cX2_digestFrom 9 = .ok (.i2l, 1) := by decide +kernel
theorem dX2_digestFrom_10 : decode cX2_digestFrom 10 = .ok (.ladd, 1) := by decide +kernel
theorem dX2_digestFrom_11 : decode cX2_digestFrom 11 = .ok (.lstore_n 3, 1) := by decide +kernel
theorem dX2_digestFrom_12 : decode cX2_digestFrom 12 = .ok (.iconst 0, 1) := by decide +kernel
theorem dX2_digestFrom_13 : decode cX2_digestFrom 13 = .ok (.istore 5, 2) := by decide +kernel
theorem dX2_digestFrom_15 : decode cX2_digestFrom 15 = .ok (.iload 5, 2) := by decide +kernel
theorem dX2_digestFrom_17 : decode cX2_digestFrom 17 = .ok (.aload_n 0, 1) := by decide +kernel
theorem dX2_digestFrom_18 : decode cX2_digestFrom 18 = .ok (.getfield 15, 3) := by decide +kernel
theorem dX2_digestFrom_21 : decode cX2_digestFrom 21 = .ok (.if_icmp .ge 24, 3) := by decide +kernel
theorem dX2_digestFrom_24 : decode cX2_digestFrom 24 = .ok (.ldc2_w 19, 3) := by decide +kernel
theorem dX2_digestFrom_27 : decode cX2_digestFrom 27 = .ok (.lload_n 3, 1) := by decide +kernel
theorem dX2_digestFrom_28 : decode cX2_digestFrom 28 = .ok (.lmul, 1) := by decide +kernel
theorem dX2_digestFrom_29 : decode cX2_digestFrom 29 = .ok (.aload_n 0, 1) := by decide +kernel
theorem dX2_digestFrom_30 : decode cX2_digestFrom 30 = .ok (.getfield 9, 3) := by decide +kernel
theorem dX2_digestFrom_33 : decode cX2_digestFrom 33 = .ok (.iload 5, 2) := by decide +kernel
theorem dX2_digestFrom_35 : decode cX2_digestFrom 35 = .ok (.iaload, 1) := by decide +kernel
theorem dX2_digestFrom_36 : decode cX2_digestFrom 36 = .ok (.i2l, 1) := by decide +kernel
theorem dX2_digestFrom_37 : decode cX2_digestFrom 37 = .ok (.ladd, 1) := by decide +kernel
theorem dX2_digestFrom_38 : decode cX2_digestFrom 38 = .ok (.lstore_n 3, 1) := by decide +kernel
theorem dX2_digestFrom_39 : decode cX2_digestFrom 39 = .ok (.iinc 5 1, 3) := by decide +kernel
theorem dX2_digestFrom_42 : decode cX2_digestFrom 42 = .ok (.goto (-27), 3) := by decide +kernel
theorem dX2_digestFrom_45 : decode cX2_digestFrom 45 = .ok (.lload_n 3, 1) := by decide +kernel
theorem dX2_digestFrom_46 : decode cX2_digestFrom 46 = .ok (.lreturn, 1) := by decide +kernel
theorem dX3_init_0 : decode cX3_init 0 = .ok (.aload_n 0, 1) := by decide +kernel
theorem dX3_init_1 : decode cX3_init 1 = .ok (.invokespecial 3, 3) := by decide +kernel
theorem dX3_init_4 : decode cX3_init 4 = .ok (.aload_n 0, 1) := by decide +kernel
theorem dX3_init_5 : decode cX3_init 5 = .ok (.bipush 60, 2) := by decide +kernel
theorem dX3_init_7 : decode cX3_init 7 = .ok (.newarray .byte, 2) := by decide +kernel
theorem dX3_init_9 : decode cX3_init 9 = .ok (.putfield 9, 3) := by decide +kernel
theorem dX3_init_12 : decode cX3_init 12 = .ok (.aload_n 0, 1) := by decide +kernel
theorem dX3_init_13 : decode cX3_init 13 = .ok (.iconst (-1), 1) := by decide +kernel
theorem dX3_init_14 : decode cX3_init 14 = .ok (.putfield 15, 3) := by decide +kernel
theorem dX3_init_17 : decode cX3_init 17 = .ok (.return_, 1) := by decide +kernel
theorem dX3_renew_0 : decode cX3_renew 0 = .ok (.aload_n 0, 1) := by decide +kernel
theorem dX3_renew_1 : decode cX3_renew 1 = .ok (.iload_n 1, 1) := by decide +kernel
theorem dX3_renew_2 : decode cX3_renew 2 = .ok (.putfield 15, 3) := by decide +kernel
theorem dX3_renew_5 : decode cX3_renew 5 = .ok (.iconst 0, 1) := by decide +kernel
theorem dX3_renew_6 : decode cX3_renew 6 = .ok (.istore_n 2, 1) := by decide +kernel
theorem dX3_renew_7 : decode cX3_renew 7 = .ok (.iload_n 2, 1) := by decide +kernel
theorem dX3_renew_8 : decode cX3_renew 8 = .ok (.bipush 60, 2) := by decide +kernel
theorem dX3_renew_10 : decode cX3_renew 10 = .ok (.if_icmp .ge 17, 3) := by decide +kernel
theorem dX3_renew_13 : decode cX3_renew 13 = .ok (.aload_n 0, 1) := by decide +kernel
theorem dX3_renew_14 : decode cX3_renew 14 = .ok (.getfield 9, 3) := by decide +kernel
theorem dX3_renew_17 : decode cX3_renew 17 = .ok (.iload_n 2, 1) := by decide +kernel
theorem dX3_renew_18 : decode cX3_renew 18 = .ok (.bipush 32, 2) := by decide +kernel
theorem dX3_renew_20 : decode cX3_renew 20 = .ok (.bastore, 1) := by decide +kernel
theorem dX3_renew_21 : decode cX3_renew 21 = .ok (.iinc 2 1, 3) := by decide +kernel
theorem dX3_renew_24 : decode cX3_renew 24 = .ok (.goto (-17), 3) := by decide +kernel
theorem dX3_renew_27 : decode cX3_renew 27 = .ok (.return_, 1) := by decide +kernel
theorem dX3_firstFault_0 : decode cX3_firstFault 0 = .ok (.iconst 0, 1) := by decide +kernel
theorem dX3_firstFault_1 : decode cX3_firstFault 1 = .ok (.istore_n 1, 1) := by decide +kernel
theorem dX3_firstFault_2 : decode cX3_firstFault 2 = .ok (.iconst 0, 1) := by decide +kernel
theorem dX3_firstFault_3 : decode cX3_firstFault 3 = .ok (.istore_n 2, 1) := by decide +kernel
theorem dX3_firstFault_4 : decode cX3_firstFault 4 = .ok (.iload_n 2, 1) := by decide +kernel
theorem dX3_firstFault_5 : decode cX3_firstFault 5 = .ok (.aload_n 0, 1) := by decide +kernel
theorem dX3_firstFault_6 : decode cX3_firstFault 6 = .ok (.getfield 15, 3) := by decide +kernel
theorem dX3_firstFault_9 : decode cX3_firstFault 9 = .ok (.if_icmp .ge 49, 3) := by decide +kernel
theorem dX3_firstFault_12 : decode cX3_firstFault 12 = .ok (.aload_n 0, 1) := by decide +kernel
theorem dX3_firstFault_13 : decode cX3_firstFault 13 = .ok (.getfield 9, 3) := by decide +kernel
theorem dX3_firstFault_16 : decode cX3_firstFault 16 = .ok (.iload_n 2, 1) := by decide +kernel
theorem dX3_firstFault_17 : decode cX3_firstFault 17 = .ok (.baload, 1) := by decide +kernel
theorem dX3_firstFault_18 : decode cX3_firstFault 18 = .ok (.bipush 32, 2) := by decide +kernel
theorem dX3_firstFault_20 : decode cX3_firstFault 20 = .ok (.if_icmp .eq 32, 3) := by decide +kernel
theorem dX3_firstFault_23 : decode cX3_firstFault 23 = .ok (.iload_n 1, 1) := by decide +kernel
theorem dX3_firstFault_24 : decode cX3_firstFault 24 = .ok (.iconst 5, 1) := by decide +kernel
theorem dX3_firstFault_25 : decode cX3_firstFault 25 = .ok (.if_icmp .ne 7, 3) := by decide +kernel
theorem dX3_firstFault_28 : decode cX3_firstFault 28 = .ok (.iload_n 2, 1) := by decide +kernel
theorem dX3_firstFault_29 : decode cX3_firstFault 29 = .ok (.goto 8, 3) := by decide +kernel
theorem dX3_firstFault_32 : decode cX3_firstFault 32 = .ok (.aload_n 0, 1) := by decide +kernel
theorem dX3_firstFault_33 : decode cX3_firstFault 33 = .ok (.iload_n 2, 1) := by decide +kernel
theorem dX3_firstFault_34 : decode cX3_firstFault 34 = .ok (.invokevirtual 19, 3) := by decide +kernel
theorem dX3_firstFault_37 : decode cX3_firstFault 37 = .ok (.istore_n 3, 1) := by decide +kernel
theorem dX3_firstFault_38 : decode cX3_firstFault 38 = .ok (.iload_n 3, 1) := by decide +kernel
theorem dX3_firstFault_39 : decode cX3_firstFault 39 = .ok (.bipush (-9), 2) := by decide +kernel
theorem dX3_firstFault_41 : decode cX3_firstFault 41 = .ok (.if_icmp .eq 5, 3) := by decide +kernel
theorem dX3_firstFault_44 : decode cX3_firstFault 44 = .ok (.iload_n 3, 1) := by decide +kernel
theorem dX3_firstFault_45 : decode cX3_firstFault 45 = .ok (.ireturn, 1) := by decide +kernel
theorem dX3_firstFault_46 : decode cX3_firstFault 46 = .ok (.iinc 1 1, 3) := by decide +kernel
theorem dX3_firstFault_49 : decode cX3_firstFault 49 = .ok (.iinc 2 6, 3) := by decide +kernel
theorem dX3_firstFault_52 : decode cX3_firstFault 52 = .ok (.iinc 2 1, 3) := by decide +kernel
theorem dX3_firstFault_55 : decode cX3_firstFault 55 = .ok (.goto (-51), 3) := by decide +kernel
theorem dX3_firstFault_58 : decode cX3_firstFault 58 = .ok (.bipush (-9), 2) := by decide +kernel
theorem dX3_firstFault_60 : decode cX3_firstFault 60 = .ok (.ireturn, 1) := by decide +kernel
theorem dX3_faultOfItem_0 : decode cX3_faultOfItem 0 = .ok (.iload_n 1, 1) := by decide +kernel
theorem dX3_faultOfItem_1 : decode cX3_faultOfItem 1 = .ok (.istore_n 2, 1) := by decide +kernel
theorem dX3_faultOfItem_2 : decode cX3_faultOfItem 2 = .ok (.iload_n 2, 1) := by decide +kernel
theorem dX3_faultOfItem_3 : decode cX3_faultOfItem 3 = .ok (.iload_n 1, 1) := by decide +kernel
theorem dX3_faultOfItem_4 : decode cX3_faultOfItem 4 = .ok (.bipush 7, 2) := by decide +kernel
theorem dX3_faultOfItem_6 : decode cX3_faultOfItem 6 = .ok (.iadd, 1) := by decide +kernel
theorem dX3_faultOfItem_7 : decode cX3_faultOfItem 7 = .ok (.if_icmp .ge 39, 3) := by decide +kernel
theorem dX3_faultOfItem_10 : decode cX3_faultOfItem 10 = .ok (.iload_n 2, 1) := by decide +kernel
theorem dX3_faultOfItem_11 : decode cX3_faultOfItem 11 = .ok (.aload_n 0, 1) := by decide +kernel
theorem dX3_faultOfItem_12 : decode cX3_faultOfItem 12 = .ok (.getfield 15, 3) := by decide +kernel
theorem dX3_faultOfItem_15 : decode cX3_faultOfItem 15 = .ok (.if_icmp .lt 8, 3) := by decide +kernel
theorem dX3_faultOfItem_18 : decode cX3_faultOfItem 18 = .ok (.aload_n 0, 1) := by decide +kernel
theorem dX3_faultOfItem_19 : decode cX3_faultOfItem 19 = .ok (.getfield 15, 3) := by decide +kernel
theorem dX3_faultOfItem_22 : decode cX3_faultOfItem 22 = .ok (.ireturn, 1) := by decide +kernel
theorem dX3_faultOfItem_23 : decode cX3_faultOfItem 23 = .ok (.aload_n 0, 1) := by decide +kernel
theorem dX3_faultOfItem_24 : decode cX3_faultOfItem 24 = .ok (.getfield 9, 3) := by decide +kernel
theorem dX3_faultOfItem_27 : decode cX3_faultOfItem 27 = .ok (.iload_n 2, 1) := by decide +kernel
theorem dX3_faultOfItem_28 : decode cX3_faultOfItem 28 = .ok (.baload, 1) := by decide +kernel
theorem dX3_faultOfItem_29 : decode cX3_faultOfItem 29 = .ok (.iload_n 2, 1) := by decide +kernel
theorem dX3_faultOfItem_30 : decode cX3_faultOfItem 30 = .ok (.iload_n 1, 1) := by decide +kernel
theorem dX3_faultOfItem_31 : decode cX3_faultOfItem 31 = .ok (.isub, 1) := by decide +kernel
theorem dX3_faultOfItem_32 : decode cX3_faultOfItem 32 = .ok (.invokestatic 23, 3) := by decide +kernel
theorem dX3_faultOfItem_35 : decode cX3_faultOfItem 35 = .ok (.ifCond .ne 5, 3) := by decide +kernel
theorem dX3_faultOfItem_38 : decode cX3_faultOfItem 38 = .ok (.iload_n 2, 1) := by decide +kernel
theorem dX3_faultOfItem_39 : decode cX3_faultOfItem 39 = .ok (.ireturn, 1) := by decide +kernel
theorem dX3_faultOfItem_40 : decode cX3_faultOfItem 40 = .ok (.iinc 2 1, 3) := by decide +kernel
theorem dX3_faultOfItem_43 : decode cX3_faultOfItem 43 = .ok (.goto (-41), 3) := by decide +kernel
theorem dX3_faultOfItem_46 : decode cX3_faultOfItem 46 = .ok (.bipush (-9), 2) := by decide +kernel
theorem dX3_faultOfItem_48 : decode cX3_faultOfItem 48 = .ok (.ireturn, 1) := by decide +kernel
theorem dX3_fits_0 : decode cX3_fits 0 = .ok (.iload_n 1, 1) := by decide +kernel
theorem dX3_fits_1 : decode cX3_fits 1 = .ok (.ifCond .ne 18, 3) := by decide +kernel
theorem dX3_fits_4 : decode cX3_fits 4 = .ok (.iload_n 0, 1) := by decide +kernel
theorem dX3_fits_5 : decode cX3_fits 5 = .ok (.invokestatic 27, 3) := by decide +kernel
theorem dX3_fits_8 : decode cX3_fits 8 = .ok (.bipush (-9), 2) := by decide +kernel
theorem dX3_fits_10 : decode cX3_fits 10 = .ok (.if_icmp .eq 7, 3) := by decide +kernel
theorem dX3_fits_13 : decode cX3_fits 13 = .ok (.iconst 1, 1) := by decide +kernel
theorem dX3_fits_14 : decode cX3_fits 14 = .ok (.goto 4, 3) := by decide +kernel
theorem dX3_fits_17 : decode cX3_fits 17 = .ok (.iconst 0, 1) := by decide +kernel
theorem dX3_fits_18 : decode cX3_fits 18 = .ok (.ireturn, 1) := by decide +kernel
theorem dX3_fits_19 : decode cX3_fits 19 = .ok (.iload_n 0, 1) := by decide +kernel
theorem dX3_fits_20 : decode cX3_fits 20 = .ok (.bipush 48, 2) := by decide +kernel
theorem dX3_fits_22 : decode cX3_fits 22 = .ok (.isub, 1) := by decide +kernel
theorem dX3_fits_23 : decode cX3_fits 23 = .ok (.istore_n 2, 1) := by decide +kernel
theorem dX3_fits_24 : decode cX3_fits 24 = .ok (.iload_n 1, 1) := by decide +kernel
theorem dX3_fits_25 : decode cX3_fits 25 = .ok (.iconst 1, 1) := by decide +kernel
theorem dX3_fits_26 : decode cX3_fits 26 = .ok (.if_icmp .ne 10, 3) := by decide +kernel
theorem dX3_fits_29 : decode cX3_fits 29 = .ok (.iload_n 2, 1) := by decide +kernel
theorem dX3_fits_30 : decode cX3_fits 30 = .ok (.invokestatic 30, 3) := by decide +kernel
theorem dX3_fits_33 : decode cX3_fits 33 = .ok (.goto 18, 3) := by decide +kernel
theorem dX3_fits_36 : decode cX3_fits 36 = .ok (.iload_n 2, 1) := by decide +kernel
theorem dX3_fits_37 : decode cX3_fits 37 = .ok (.ifCond .lt 13, 3) := by decide +kernel
theorem dX3_fits_40 : decode cX3_fits 40 = .ok (.iload_n 2, 1) := by decide +kernel
theorem dX3_fits_41 : decode cX3_fits 41 = .ok (.bipush 9, 2) := by decide +kernel
theorem dX3_fits_43 : decode cX3_fits 43 = .ok (.if_icmp .gt 7, 3) := by decide +kernel
theorem dX3_fits_46 : decode cX3_fits 46 = .ok (.iconst 1, 1) := by decide +kernel
theorem dX3_fits_47 : decode cX3_fits 47 = .ok (.goto 4, 3) := by decide +kernel
theorem dX3_fits_50 : decode cX3_fits 50 = .ok (.iconst 0, 1) := by decide +kernel
theorem dX3_fits_51 : decode cX3_fits 51 = .ok (.ireturn, 1) := by decide +kernel
theorem dX3_kindOf_0 : decode cX3_kindOf 0 = .ok (.iconst 0, 1) := by decide +kernel
theorem dX3_kindOf_1 : decode cX3_kindOf 1 = .ok (.istore_n 1, 1) := by decide +kernel
theorem dX3_kindOf_2 : decode cX3_kindOf 2 = .ok (.iload_n 1, 1) := by decide +kernel
theorem dX3_kindOf_3 : decode cX3_kindOf 3 = .ok (.bipush 6, 2) := by decide +kernel
theorem dX3_kindOf_5 : decode cX3_kindOf 5 = .ok (.if_icmp .ge 20, 3) := by decide +kernel
theorem dX3_kindOf_8 : decode cX3_kindOf 8 = .ok (.getstatic 34, 3) := by decide +kernel
theorem dX3_kindOf_11 : decode cX3_kindOf 11 = .ok (.iload_n 1, 1) := by decide +kernel
theorem dX3_kindOf_12 : decode cX3_kindOf 12 = .ok (.caload, 1) := by decide +kernel
theorem dX3_kindOf_13 : decode cX3_kindOf 13 = .ok (.iload_n 0, 1) := by decide +kernel
theorem dX3_kindOf_14 : decode cX3_kindOf 14 = .ok (.if_icmp .ne 5, 3) := by decide +kernel
theorem dX3_kindOf_17 : decode cX3_kindOf 17 = .ok (.iload_n 1, 1) := by decide +kernel
theorem dX3_kindOf_18 : decode cX3_kindOf 18 = .ok (.ireturn, 1) := by decide +kernel
theorem dX3_kindOf_19 : decode cX3_kindOf 19 = .ok (.iinc 1 1, 3) := by decide +kernel
theorem dX3_kindOf_22 : decode cX3_kindOf 22 = .ok (.goto (-20), 3) := by decide +kernel
theorem dX3_kindOf_25 : decode cX3_kindOf 25 = .ok (.bipush (-9), 2) := by decide +kernel
theorem dX3_kindOf_27 : decode cX3_kindOf 27 = .ok (.ireturn, 1) := by decide +kernel
theorem dX3_readInto_0 : decode cX3_readInto 0 = .ok (.iconst 0, 1) := by decide +kernel
theorem dX3_readInto_1 : decode cX3_readInto 1 = .ok (.istore_n 2, 1) := by decide +kernel
theorem dX3_readInto_2 : decode cX3_readInto 2 = .ok (.iconst 0, 1) := by decide +kernel
theorem dX3_readInto_3 : decode cX3_readInto 3 = .ok (.istore_n 3, 1) := by decide +kernel
theorem dX3_readInto_4 : decode cX3_readInto 4 = .ok (.iload_n 3, 1) := by decide +kernel
theorem dX3_readInto_5 : decode cX3_readInto 5 = .ok (.bipush 7, 2) := by decide +kernel
theorem dX3_readInto_7 : decode cX3_readInto 7 = .ok (.iadd, 1) := by decide +kernel
theorem dX3_readInto_8 : decode cX3_readInto 8 = .ok (.aload_n 0, 1) := by decide +kernel
theorem dX3_readInto_9 : decode cX3_readInto 9 = .ok (.getfield 15, 3) := by decide +kernel
theorem dX3_readInto_12 : decode cX3_readInto 12 = .ok (.if_icmp .gt 40, 3) := by decide +kernel
theorem dX3_readInto_15 : decode cX3_readInto 15 = .ok (.iload_n 2, 1) := by decide +kernel
theorem dX3_readInto_16 : decode cX3_readInto 16 = .ok (.aload_n 1, 1) := by decide +kernel
theorem dX3_readInto_17 : decode cX3_readInto 17 = .ok (.arraylength, 1) := by decide +kernel
theorem dX3_readInto_18 : decode cX3_readInto 18 = .ok (.if_icmp .ge 34, 3) := by decide +kernel
theorem dX3_readInto_21 : decode cX3_readInto 21 = .ok (.aload_n 0, 1) := by decide +kernel
theorem dX3_readInto_22 : decode cX3_readInto 22 = .ok (.getfield 9, 3) := by decide +kernel
theorem dX3_readInto_25 : decode cX3_readInto 25 = .ok (.iload_n 3, 1) := by decide +kernel
theorem dX3_readInto_26 : decode cX3_readInto 26 = .ok (.baload, 1) := by decide +kernel
theorem dX3_readInto_27 : decode cX3_readInto 27 = .ok (.bipush 32, 2) := by decide +kernel
theorem dX3_readInto_29 : decode cX3_readInto 29 = .ok (.if_icmp .eq 17, 3) := by decide +kernel
theorem dX3_readInto_32 : decode cX3_readInto 32 = .ok (.aload_n 0, 1) := by decide +kernel
theorem dX3_readInto_33 : decode cX3_readInto 33 = .ok (.iload_n 3, 1) := by decide +kernel
theorem dX3_readInto_34 : decode cX3_readInto 34 = .ok (.aload_n 1, 1) := by decide +kernel
theorem dX3_readInto_35 : decode cX3_readInto 35 = .ok (.iload_n 2, 1) := by decide +kernel
theorem dX3_readInto_36 : decode cX3_readInto 36 = .ok (.aaload, 1) := by decide +kernel
theorem dX3_readInto_37 : decode cX3_readInto 37 = .ok (.invokevirtual 38, 3) := by decide +kernel
theorem dX3_readInto_40 : decode cX3_readInto 40 = .ok (.iinc 2 1, 3) := by decide +kernel
theorem dX3_readInto_43 : decode cX3_readInto 43 = .ok (.iinc 3 6, 3) := by decide +kernel
theorem dX3_readInto_46 : decode cX3_readInto 46 = .ok (.iinc 3 1, 3) := by decide +kernel
theorem dX3_readInto_49 : decode cX3_readInto 49 = .ok (.goto (-45), 3) := by decide +kernel
theorem dX3_readInto_52 : decode cX3_readInto 52 = .ok (.iload_n 2, 1) := by decide +kernel
theorem dX3_readInto_53 : decode cX3_readInto 53 = .ok (.ireturn, 1) := by decide +kernel
theorem dX3_readItem_0 : decode cX3_readItem 0 = .ok (.aload_n 2, 1) := by decide +kernel
theorem dX3_readItem_1 : decode cX3_readItem 1 = .ok (.iconst 0, 1) := by decide +kernel
theorem dX3_readItem_2 : decode cX3_readItem 2 = .ok (.aload_n 0, 1) := by decide +kernel
theorem dX3_readItem_3 : decode cX3_readItem 3 = .ok (.getfield 9, 3) := by decide +kernel
theorem dX3_readItem_6 : decode cX3_readItem 6 = .ok (.iload_n 1, 1) := by decide +kernel
theorem dX3_readItem_7 : decode cX3_readItem 7 = .ok (.baload, 1) := by decide +kernel
theorem dX3_readItem_8 : decode cX3_readItem 8 = .ok (.invokestatic 27, 3) := by decide +kernel
theorem dX3_readItem_11 : decode cX3_readItem 11 = .ok (.invokestatic 42, 3) := by decide +kernel
theorem dX3_readItem_14 : decode cX3_readItem 14 = .ok (.putfield 48, 3) := by decide +kernel
theorem dX3_readItem_17 : decode cX3_readItem 17 = .ok (.aload_n 2, 1) := by decide +kernel
theorem dX3_readItem_18 : decode cX3_readItem 18 = .ok (.aload_n 0, 1) := by decide +kernel
theorem dX3_readItem_19 : decode cX3_readItem 19 = .ok (.getfield 9, 3) := by decide +kernel
theorem dX3_readItem_22 : decode cX3_readItem 22 = .ok (.iload_n 1, 1) := by decide +kernel
theorem dX3_readItem_23 : decode cX3_readItem 23 = .ok (.iconst 1, 1) := by decide +kernel
theorem dX3_readItem_24 : decode cX3_readItem 24 = .ok (.iadd, 1) := by decide +kernel
theorem dX3_readItem_25 : decode cX3_readItem 25 = .ok (.baload, 1) := by decide +kernel
theorem dX3_readItem_26 : decode cX3_readItem 26 = .ok (.bipush 48, 2) := by decide +kernel
theorem dX3_readItem_28 : decode cX3_readItem 28 = .ok (.isub, 1) := by decide +kernel
theorem dX3_readItem_29 : decode cX3_readItem 29 = .ok (.putfield 53, 3) := by decide +kernel
theorem dX3_readItem_32 : decode cX3_readItem 32 = .ok (.aload_n 2, 1) := by decide +kernel
theorem dX3_readItem_33 : decode cX3_readItem 33 = .ok (.iconst 0, 1) := by decide +kernel
theorem dX3_readItem_34 : decode cX3_readItem 34 = .ok (.putfield 56, 3) := by decide +kernel
theorem dX3_readItem_37 : decode cX3_readItem 37 = .ok (.iconst 2, 1) := by decide +kernel
theorem dX3_readItem_38 : decode cX3_readItem 38 = .ok (.istore_n 3, 1) := by decide +kernel
theorem dX3_readItem_39 : decode cX3_readItem 39 = .ok (.iload_n 3, 1) := by decide +kernel
theorem dX3_readItem_40 : decode cX3_readItem 40 = .ok (.iconst 5, 1) := by decide +kernel
theorem dX3_readItem_41 : decode cX3_readItem 41 = .ok (.if_icmp .gt 32, 3) := by decide +kernel
theorem dX3_readItem_44 : decode cX3_readItem 44 = .ok (.aload_n 2, 1) := by decide +kernel
theorem dX3_readItem_45 : decode cX3_readItem 45 = .ok (.bipush 10, 2) := by decide +kernel
theorem dX3_readItem_47 : decode cX3_readItem 47 = .ok (.aload_n 2, 1) := by decide +kernel
theorem dX3_readItem_48 : decode cX3_readItem 48 = .ok (.getfield 56, 3) := by decide +kernel
theorem dX3_readItem_51 : decode cX3_readItem 51 = .ok (.imul, 1) := by decide +kernel
theorem dX3_readItem_52 : decode cX3_readItem 52 = .ok (.aload_n 0, 1) := by decide +kernel
theorem dX3_readItem_53 : decode cX3_readItem 53 = .ok (.getfield 9, 3) := by decide +kernel
theorem dX3_readItem_56 : decode cX3_readItem 56 = .ok (.iload_n 1, 1) := by decide +kernel
theorem dX3_readItem_57 : decode cX3_readItem 57 = .ok (.iload_n 3, 1) := by decide +kernel
theorem dX3_readItem_58 : decode cX3_readItem 58 = .ok (.iadd, 1) := by decide +kernel
theorem dX3_readItem_59 : decode cX3_readItem 59 = .ok (.baload, 1) := by decide +kernel
theorem dX3_readItem_60 : decode cX3_readItem 60 = .ok (.iadd, 1) := by decide +kernel
theorem dX3_readItem_61 : decode cX3_readItem 61 = .ok (.bipush 48, 2) := by decide +kernel
theorem dX3_readItem_63 : decode cX3_readItem 63 = .ok (.isub, 1) := by decide +kernel
theorem dX3_readItem_64 : decode cX3_readItem 64 = .ok (.putfield 56, 3) := by decide +kernel
theorem dX3_readItem_67 : decode cX3_readItem 67 = .ok (.iinc 3 1, 3) := by decide +kernel
theorem dX3_readItem_70 : decode cX3_readItem 70 = .ok (.goto (-31), 3) := by decide +kernel
theorem dX3_readItem_73 : decode cX3_readItem 73 = .ok (.aload_n 2, 1) := by decide +kernel
theorem dX3_readItem_74 : decode cX3_readItem 74 = .ok (.aload_n 0, 1) := by decide +kernel
theorem dX3_readItem_75 : decode cX3_readItem 75 = .ok (.getfield 9, 3) := by decide +kernel
theorem dX3_readItem_78 : decode cX3_readItem 78 = .ok (.iload_n 1, 1) := by decide +kernel
theorem dX3_readItem_79 : decode cX3_readItem 79 = .ok (.bipush 6, 2) := by decide +kernel
theorem dX3_readItem_81 : decode cX3_readItem 81 = .ok (.iadd, 1) := by decide +kernel
theorem dX3_readItem_82 : decode cX3_readItem 82 = .ok (.baload, 1) := by decide +kernel
theorem dX3_readItem_83 : decode cX3_readItem 83 = .ok (.bipush 48, 2) := by decide +kernel
theorem dX3_readItem_85 : decode cX3_readItem 85 = .ok (.isub, 1) := by decide +kernel
theorem dX3_readItem_86 : decode cX3_readItem 86 = .ok (.putfield 59, 3) := by decide +kernel
theorem dX3_readItem_89 : decode cX3_readItem 89 = .ok (.return_, 1) := by decide +kernel
theorem dX3_digestFrom_0 : decode cX3_digestFrom 0 = .ok (.ldc2_w 62, 3) := by decide +kernel
theorem dX3_digestFrom_3 : decode cX3_digestFrom 3 = .ok (.lload_n 1, 1) := by decide +kernel
theorem dX3_digestFrom_4 : decode cX3_digestFrom 4 = .ok (.lmul, 1) := by decide +kernel
theorem dX3_digestFrom_5 : decode cX3_digestFrom 5 = .ok (.aload_n 0, 1) := by decide +kernel
theorem dX3_digestFrom_6 : decode cX3_digestFrom 6 = .ok (.getfield 15, 3) := by decide +kernel
theorem dX3_digestFrom_9 : decode cX3_digestFrom 9 = .ok (.i2l, 1) := by decide +kernel
theorem dX3_digestFrom_10 : decode cX3_digestFrom 10 = .ok (.ladd, 1) := by decide +kernel
theorem dX3_digestFrom_11 : decode cX3_digestFrom 11 = .ok (.lstore_n 3, 1) := by decide +kernel
theorem dX3_digestFrom_12 : decode cX3_digestFrom 12 = .ok (.iconst 0, 1) := by decide +kernel
theorem dX3_digestFrom_13 : decode cX3_digestFrom 13 = .ok (.istore 5, 2) := by decide +kernel
theorem dX3_digestFrom_15 : decode cX3_digestFrom 15 = .ok (.iload 5, 2) := by decide +kernel
theorem dX3_digestFrom_17 : decode cX3_digestFrom 17 = .ok (.aload_n 0, 1) := by decide +kernel
theorem dX3_digestFrom_18 : decode cX3_digestFrom 18 = .ok (.getfield 15, 3) := by decide +kernel
theorem dX3_digestFrom_21 : decode cX3_digestFrom 21 = .ok (.if_icmp .ge 24, 3) := by decide +kernel
theorem dX3_digestFrom_24 : decode cX3_digestFrom 24 = .ok (.ldc2_w 62, 3) := by decide +kernel
theorem dX3_digestFrom_27 : decode cX3_digestFrom 27 = .ok (.lload_n 3, 1) := by decide +kernel
theorem dX3_digestFrom_28 : decode cX3_digestFrom 28 = .ok (.lmul, 1) := by decide +kernel
theorem dX3_digestFrom_29 : decode cX3_digestFrom 29 = .ok (.aload_n 0, 1) := by decide +kernel
theorem dX3_digestFrom_30 : decode cX3_digestFrom 30 = .ok (.getfield 9, 3) := by decide +kernel
theorem dX3_digestFrom_33 : decode cX3_digestFrom 33 = .ok (.iload 5, 2) := by decide +kernel
theorem dX3_digestFrom_35 : decode cX3_digestFrom 35 = .ok (.baload, 1) := by decide +kernel
theorem dX3_digestFrom_36 : decode cX3_digestFrom 36 = .ok (.i2l, 1) := by decide +kernel
theorem dX3_digestFrom_37 : decode cX3_digestFrom 37 = .ok (.ladd, 1) := by decide +kernel
theorem dX3_digestFrom_38 : decode cX3_digestFrom 38 = .ok (.lstore_n 3, 1) := by decide +kernel
theorem dX3_digestFrom_39 : decode cX3_digestFrom 39 = .ok (.iinc 5 1, 3) := by decide +kernel
theorem dX3_digestFrom_42 : decode cX3_digestFrom 42 = .ok (.goto (-27), 3) := by decide +kernel
theorem dX3_digestFrom_45 : decode cX3_digestFrom 45 = .ok (.lload_n 3, 1) := by decide +kernel
theorem dX3_digestFrom_46 : decode cX3_digestFrom 46 = .ok (.lreturn, 1) := by decide +kernel
theorem dX4_init_0 : decode cX4_init 0 = .ok (.aload_n 0, 1) := by decide +kernel
theorem dX4_init_1 : decode cX4_init 1 = .ok (.invokespecial 1, 3) := by decide +kernel
theorem dX4_init_4 : decode cX4_init 4 = .ok (.aload_n 0, 1) := by decide +kernel
theorem dX4_init_5 : decode cX4_init 5 = .ok (.bipush 6, 2) := by decide +kernel
theorem dX4_init_7 : decode cX4_init 7 = .ok (.anewarray 9, 3) := by decide +kernel
theorem dX4_init_10 : decode cX4_init 10 = .ok (.putfield 11, 3) := by decide +kernel
theorem dX4_init_13 : decode cX4_init 13 = .ok (.aload_n 0, 1) := by decide +kernel
theorem dX4_init_14 : decode cX4_init 14 = .ok (.iconst 4, 1) := by decide +kernel
theorem dX4_init_15 : decode cX4_init 15 = .ok (.anewarray 15, 3) := by decide +kernel
theorem dX4_init_18 : decode cX4_init 18 = .ok (.putfield 17, 3) := by decide +kernel
theorem dX4_init_21 : decode cX4_init 21 = .ok (.aload_n 0, 1) := by decide +kernel
theorem dX4_init_22 : decode cX4_init 22 = .ok (.iconst 5, 1) := by decide +kernel
theorem dX4_init_23 : decode cX4_init 23 = .ok (.anewarray 21, 3) := by decide +kernel
theorem dX4_init_26 : decode cX4_init 26 = .ok (.putfield 23, 3) := by decide +kernel
theorem dX4_init_29 : decode cX4_init 29 = .ok (.aload_n 0, 1) := by decide +kernel
theorem dX4_init_30 : decode cX4_init 30 = .ok (.iconst 3, 1) := by decide +kernel
theorem dX4_init_31 : decode cX4_init 31 = .ok (.anewarray 27, 3) := by decide +kernel
theorem dX4_init_34 : decode cX4_init 34 = .ok (.putfield 29, 3) := by decide +kernel
theorem dX4_init_37 : decode cX4_init 37 = .ok (.aload_n 0, 1) := by decide +kernel
theorem dX4_init_38 : decode cX4_init 38 = .ok (.new 21, 3) := by decide +kernel
theorem dX4_init_41 : decode cX4_init 41 = .ok (.dup, 1) := by decide +kernel
theorem dX4_init_42 : decode cX4_init 42 = .ok (.invokespecial 33, 3) := by decide +kernel
theorem dX4_init_45 : decode cX4_init 45 = .ok (.putfield 34, 3) := by decide +kernel
theorem dX4_init_48 : decode cX4_init 48 = .ok (.aload_n 0, 1) := by decide +kernel
theorem dX4_init_49 : decode cX4_init 49 = .ok (.bipush 6, 2) := by decide +kernel
theorem dX4_init_51 : decode cX4_init 51 = .ok (.newarray .int, 2) := by decide +kernel
theorem dX4_init_53 : decode cX4_init 53 = .ok (.putfield 38, 3) := by decide +kernel
theorem dX4_init_56 : decode cX4_init 56 = .ok (.aload_n 0, 1) := by decide +kernel
theorem dX4_init_57 : decode cX4_init 57 = .ok (.iconst 0, 1) := by decide +kernel
theorem dX4_init_58 : decode cX4_init 58 = .ok (.putfield 42, 3) := by decide +kernel
theorem dX4_init_61 : decode cX4_init 61 = .ok (.aload_n 0, 1) := by decide +kernel
theorem dX4_init_62 : decode cX4_init 62 = .ok (.iconst 0, 1) := by decide +kernel
theorem dX4_init_63 : decode cX4_init 63 = .ok (.putfield 46, 3) := by decide +kernel
theorem dX4_init_66 : decode cX4_init 66 = .ok (.aload_n 0, 1) := by decide +kernel
theorem dX4_init_67 : decode cX4_init 67 = .ok (.iconst 0, 1) := by decide +kernel
theorem dX4_init_68 : decode cX4_init 68 = .ok (.putfield 49, 3) := by decide +kernel
theorem dX4_init_71 : decode cX4_init 71 = .ok (.aload_n 0, 1) := by decide +kernel
theorem dX4_init_72 : decode cX4_init 72 = .ok (.lconst 0, 1) := by decide +kernel
theorem dX4_init_73 : decode cX4_init 73 = .ok (.putfield 52, 3) := by decide +kernel
theorem dX4_init_76 : decode cX4_init 76 = .ok (.aload_n 0, 1) := by decide +kernel
theorem dX4_init_77 : decode cX4_init 77 = .ok (.lconst 1, 1) := by decide +kernel
theorem dX4_init_78 : decode cX4_init 78 = .ok (.putfield 56, 3) := by decide +kernel
theorem dX4_init_81 : decode cX4_init 81 = .ok (.aload_n 0, 1) := by decide +kernel
theorem dX4_init_82 : decode cX4_init 82 = .ok (.iconst 0, 1) := by decide +kernel
theorem dX4_init_83 : decode cX4_init 83 = .ok (.putfield 59, 3) := by decide +kernel
theorem dX4_init_86 : decode cX4_init 86 = .ok (.iconst 0, 1) := by decide +kernel
theorem dX4_init_87 : decode cX4_init 87 = .ok (.istore_n 1, 1) := by decide +kernel
theorem dX4_init_88 : decode cX4_init 88 = .ok (.iload_n 1, 1) := by decide +kernel
theorem dX4_init_89 : decode cX4_init 89 = .ok (.bipush 6, 2) := by decide +kernel
theorem dX4_init_91 : decode cX4_init 91 = .ok (.if_icmp .ge 22, 3) := by decide +kernel
theorem dX4_init_94 : decode cX4_init 94 = .ok (.aload_n 0, 1) := by decide +kernel
theorem dX4_init_95 : decode cX4_init 95 = .ok (.getfield 11, 3) := by decide +kernel
end
section
theorem dX4_init_98 : decode cX4_init 98 = .ok (.iload_n 1, 1) := by decide +kernel
theorem dX4_init_99 : decode cX4_init 99 = .ok (.new 9, 3) := by decide +kernel
theorem dX4_init_102 : decode cX4_init 102 = .ok (.dup, 1) := by decide +kernel
theorem dX4_init_103 : decode cX4_init 103 = .ok (.invokespecial 62, 3) := by decide +kernel
theorem dX4_init_106 : decode cX4_init 106 = .ok (.aastore, 1) := by decide +kernel
theorem dX4_init_107 : decode cX4_init 107 = .ok (.iinc 1 1, 3) := by decide +kernel
theorem dX4_init_110 : decode cX4_init 110 = .ok (.goto (-22), 3) := by decide +kernel
theorem dX4_init_113 : decode cX4_init 113 = .ok (.iconst 0, 1) := by decide +kernel
theorem dX4_init_114 : decode cX4_init 114 = .ok (.istore_n 1, 1) := by decide +kernel
theorem dX4_init_115 : decode cX4_init 115 = .ok (.iload_n 1, 1) := by decide +kernel
theorem dX4_init_116 : decode cX4_init 116 = .ok (.iconst 4, 1) := by decide +kernel
theorem dX4_init_117 : decode cX4_init 117 = .ok (.if_icmp .ge 22, 3) := by decide +kernel
theorem dX4_init_120 : decode cX4_init 120 = .ok (.aload_n 0, 1) := by decide +kernel
theorem dX4_init_121 : decode cX4_init 121 = .ok (.getfield 17, 3) := by decide +kernel
theorem dX4_init_124 : decode cX4_init 124 = .ok (.iload_n 1, 1) := by decide +kernel
theorem dX4_init_125 : decode cX4_init 125 = .ok (.new 15, 3) := by decide +kernel
theorem dX4_init_128 : decode cX4_init 128 = .ok (.dup, 1) := by decide +kernel
theorem dX4_init_129 : decode cX4_init 129 = .ok (.invokespecial 63, 3) := by decide +kernel
theorem dX4_init_132 : decode cX4_init 132 = .ok (.aastore, 1) := by decide +kernel
theorem dX4_init_133 : decode cX4_init 133 = .ok (.iinc 1 1, 3) := by decide +kernel
theorem dX4_init_136 : decode cX4_init 136 = .ok (.goto (-21), 3) := by decide +kernel
theorem dX4_init_139 : decode cX4_init 139 = .ok (.iconst 0, 1) := by decide +kernel
theorem dX4_init_140 : decode cX4_init 140 = .ok (.istore_n 1, 1) := by decide +kernel
theorem dX4_init_141 : decode cX4_init 141 = .ok (.iload_n 1, 1) := by decide +kernel
theorem dX4_init_142 : decode cX4_init 142 = .ok (.iconst 5, 1) := by decide +kernel
theorem dX4_init_143 : decode cX4_init 143 = .ok (.if_icmp .ge 22, 3) := by decide +kernel
theorem dX4_init_146 : decode cX4_init 146 = .ok (.aload_n 0, 1) := by decide +kernel
theorem dX4_init_147 : decode cX4_init 147 = .ok (.getfield 23, 3) := by decide +kernel
theorem dX4_init_150 : decode cX4_init 150 = .ok (.iload_n 1, 1) := by decide +kernel
theorem dX4_init_151 : decode cX4_init 151 = .ok (.new 21, 3) := by decide +kernel
theorem dX4_init_154 : decode cX4_init 154 = .ok (.dup, 1) := by decide +kernel
theorem dX4_init_155 : decode cX4_init 155 = .ok (.invokespecial 33, 3) := by decide +kernel
theorem dX4_init_158 : decode cX4_init 158 = .ok (.aastore, 1) := by decide +kernel
theorem dX4_init_159 : decode cX4_init 159 = .ok (.iinc 1 1, 3) := by decide +kernel
theorem dX4_init_162 : decode cX4_init 162 = .ok (.goto (-21), 3) := by decide +kernel
theorem dX4_init_165 : decode cX4_init 165 = .ok (.iconst 0, 1) := by decide +kernel
theorem dX4_init_166 : decode cX4_init 166 = .ok (.istore_n 1, 1) := by decide +kernel
theorem dX4_init_167 : decode cX4_init 167 = .ok (.iload_n 1, 1) := by decide +kernel
theorem dX4_init_168 : decode cX4_init 168 = .ok (.iconst 3, 1) := by decide +kernel
theorem dX4_init_169 : decode cX4_init 169 = .ok (.if_icmp .ge 22, 3) := by decide +kernel
theorem dX4_init_172 : decode cX4_init 172 = .ok (.aload_n 0, 1) := by decide +kernel
theorem dX4_init_173 : decode cX4_init 173 = .ok (.getfield 29, 3) := by decide +kernel
theorem dX4_init_176 : decode cX4_init 176 = .ok (.iload_n 1, 1) := by decide +kernel
theorem dX4_init_177 : decode cX4_init 177 = .ok (.new 27, 3) := by decide +kernel
theorem dX4_init_180 : decode cX4_init 180 = .ok (.dup, 1) := by decide +kernel
theorem dX4_init_181 : decode cX4_init 181 = .ok (.invokespecial 64, 3) := by decide +kernel
theorem dX4_init_184 : decode cX4_init 184 = .ok (.aastore, 1) := by decide +kernel
theorem dX4_init_185 : decode cX4_init 185 = .ok (.iinc 1 1, 3) := by decide +kernel
theorem dX4_init_188 : decode cX4_init 188 = .ok (.goto (-21), 3) := by decide +kernel
theorem dX4_init_191 : decode cX4_init 191 = .ok (.return_, 1) := by decide +kernel
theorem dX4_row_0 : decode cX4_row 0 = .ok (.iload_n 1, 1) := by decide +kernel
theorem dX4_row_1 : decode cX4_row 1 = .ok (.invokestatic 65, 3) := by decide +kernel
theorem dX4_row_4 : decode cX4_row 4 = .ok (.ifCond .eq 9, 3) := by decide +kernel
theorem dX4_row_7 : decode cX4_row 7 = .ok (.iload_n 2, 1) := by decide +kernel
theorem dX4_row_8 : decode cX4_row 8 = .ok (.bipush 40, 2) := by decide +kernel
theorem dX4_row_10 : decode cX4_row 10 = .ok (.if_icmp .le 5, 3) := by decide +kernel
theorem dX4_row_13 : decode cX4_row 13 = .ok (.iconst (-1), 1) := by decide +kernel
theorem dX4_row_14 : decode cX4_row 14 = .ok (.ireturn, 1) := by decide +kernel
theorem dX4_row_15 : decode cX4_row 15 = .ok (.iload_n 2, 1) := by decide +kernel
theorem dX4_row_16 : decode cX4_row 16 = .ok (.ifCond .ge 9, 3) := by decide +kernel
theorem dX4_row_19 : decode cX4_row 19 = .ok (.aload_n 0, 1) := by decide +kernel
theorem dX4_row_20 : decode cX4_row 20 = .ok (.iconst 5, 1) := by decide +kernel
theorem dX4_row_21 : decode cX4_row 21 = .ok (.invokevirtual 69, 3) := by decide +kernel
theorem dX4_row_24 : decode cX4_row 24 = .ok (.ireturn, 1) := by decide +kernel
theorem dX4_row_25 : decode cX4_row 25 = .ok (.aload_n 0, 1) := by decide +kernel
theorem dX4_row_26 : decode cX4_row 26 = .ok (.getfield 11, 3) := by decide +kernel
theorem dX4_row_29 : decode cX4_row 29 = .ok (.iload_n 1, 1) := by decide +kernel
theorem dX4_row_30 : decode cX4_row 30 = .ok (.aaload, 1) := by decide +kernel
theorem dX4_row_31 : decode cX4_row 31 = .ok (.iload_n 2, 1) := by decide +kernel
theorem dX4_row_32 : decode cX4_row 32 = .ok (.invokevirtual 73, 3) := by decide +kernel
theorem dX4_row_35 : decode cX4_row 35 = .ok (.iload_n 2, 1) := by decide +kernel
theorem dX4_row_36 : decode cX4_row 36 = .ok (.ireturn, 1) := by decide +kernel
theorem dX4_lay_0 : decode cX4_lay 0 = .ok (.aload_n 0, 1) := by decide +kernel
theorem dX4_lay_1 : decode cX4_lay 1 = .ok (.iload_n 1, 1) := by decide +kernel
theorem dX4_lay_2 : decode cX4_lay 2 = .ok (.iload_n 2, 1) := by decide +kernel
theorem dX4_lay_3 : decode cX4_lay 3 = .ok (.invokevirtual 77, 3) := by decide +kernel
theorem dX4_lay_6 : decode cX4_lay 6 = .ok (.istore 4, 2) := by decide +kernel
theorem dX4_lay_8 : decode cX4_lay 8 = .ok (.iload 4, 2) := by decide +kernel
theorem dX4_lay_10 : decode cX4_lay 10 = .ok (.ifCond .eq 6, 3) := by decide +kernel
theorem dX4_lay_13 : decode cX4_lay 13 = .ok (.iload 4, 2) := by decide +kernel
theorem dX4_lay_15 : decode cX4_lay 15 = .ok (.ireturn, 1) := by decide +kernel
theorem dX4_lay_16 : decode cX4_lay 16 = .ok (.aload_n 0, 1) := by decide +kernel
theorem dX4_lay_17 : decode cX4_lay 17 = .ok (.aload_n 0, 1) := by decide +kernel
theorem dX4_lay_18 : decode cX4_lay 18 = .ok (.getfield 11, 3) := by decide +kernel
theorem dX4_lay_21 : decode cX4_lay 21 = .ok (.iload_n 1, 1) := by decide +kernel
theorem dX4_lay_22 : decode cX4_lay 22 = .ok (.aaload, 1) := by decide +kernel
theorem dX4_lay_23 : decode cX4_lay 23 = .ok (.getfield 81, 3) := by decide +kernel
theorem dX4_lay_26 : decode cX4_lay 26 = .ok (.iload_n 2, 1) := by decide +kernel
theorem dX4_lay_27 : decode cX4_lay 27 = .ok (.iaload, 1) := by decide +kernel
theorem dX4_lay_28 : decode cX4_lay 28 = .ok (.putfield 49, 3) := by decide +kernel
theorem dX4_lay_31 : decode cX4_lay 31 = .ok (.aload_n 0, 1) := by decide +kernel
theorem dX4_lay_32 : decode cX4_lay 32 = .ok (.getfield 11, 3) := by decide +kernel
theorem dX4_lay_35 : decode cX4_lay 35 = .ok (.iload_n 1, 1) := by decide +kernel
theorem dX4_lay_36 : decode cX4_lay 36 = .ok (.aaload, 1) := by decide +kernel
theorem dX4_lay_37 : decode cX4_lay 37 = .ok (.getfield 81, 3) := by decide +kernel
theorem dX4_lay_40 : decode cX4_lay 40 = .ok (.iload_n 2, 1) := by decide +kernel
theorem dX4_lay_41 : decode cX4_lay 41 = .ok (.iload_n 3, 1) := by decide +kernel
theorem dX4_lay_42 : decode cX4_lay 42 = .ok (.iastore, 1) := by decide +kernel
theorem dX4_lay_43 : decode cX4_lay 43 = .ok (.iconst 1, 1) := by decide +kernel
theorem dX4_lay_44 : decode cX4_lay 44 = .ok (.ireturn, 1) := by decide +kernel
theorem dX4_at_0 : decode cX4_at 0 = .ok (.aload_n 0, 1) := by decide +kernel
theorem dX4_at_1 : decode cX4_at 1 = .ok (.iload_n 1, 1) := by decide +kernel
theorem dX4_at_2 : decode cX4_at 2 = .ok (.iload_n 2, 1) := by decide +kernel
theorem dX4_at_3 : decode cX4_at 3 = .ok (.invokevirtual 77, 3) := by decide +kernel
theorem dX4_at_6 : decode cX4_at 6 = .ok (.istore_n 3, 1) := by decide +kernel
theorem dX4_at_7 : decode cX4_at 7 = .ok (.iload_n 3, 1) := by decide +kernel
theorem dX4_at_8 : decode cX4_at 8 = .ok (.ifCond .eq 5, 3) := by decide +kernel
theorem dX4_at_11 : decode cX4_at 11 = .ok (.iload_n 3, 1) := by decide +kernel
theorem dX4_at_12 : decode cX4_at 12 = .ok (.ireturn, 1) := by decide +kernel
theorem dX4_at_13 : decode cX4_at 13 = .ok (.aload_n 0, 1) := by decide +kernel
theorem dX4_at_14 : decode cX4_at 14 = .ok (.aload_n 0, 1) := by decide +kernel
theorem dX4_at_15 : decode cX4_at 15 = .ok (.getfield 11, 3) := by decide +kernel
theorem dX4_at_18 : decode cX4_at 18 = .ok (.iload_n 1, 1) := by decide +kernel
theorem dX4_at_19 : decode cX4_at 19 = .ok (.aaload, 1) := by decide +kernel
theorem dX4_at_20 : decode cX4_at 20 = .ok (.getfield 81, 3) := by decide +kernel
theorem dX4_at_23 : decode cX4_at 23 = .ok (.iload_n 2, 1) := by decide +kernel
theorem dX4_at_24 : decode cX4_at 24 = .ok (.iaload, 1) := by decide +kernel
theorem dX4_at_25 : decode cX4_at 25 = .ok (.putfield 49, 3) := by decide +kernel
theorem dX4_at_28 : decode cX4_at 28 = .ok (.iconst 1, 1) := by decide +kernel
theorem dX4_at_29 : decode cX4_at 29 = .ok (.ireturn, 1) := by decide +kernel
theorem dX4_tear_0 : decode cX4_tear 0 = .ok (.aload_n 0, 1) := by decide +kernel
theorem dX4_tear_1 : decode cX4_tear 1 = .ok (.iload_n 1, 1) := by decide +kernel
theorem dX4_tear_2 : decode cX4_tear 2 = .ok (.invokevirtual 84, 3) := by decide +kernel
theorem dX4_tear_5 : decode cX4_tear 5 = .ok (.istore_n 2, 1) := by decide +kernel
theorem dX4_tear_6 : decode cX4_tear 6 = .ok (.iload_n 2, 1) := by decide +kernel
theorem dX4_tear_7 : decode cX4_tear 7 = .ok (.ifCond .eq 5, 3) := by decide +kernel
theorem dX4_tear_10 : decode cX4_tear 10 = .ok (.iload_n 2, 1) := by decide +kernel
theorem dX4_tear_11 : decode cX4_tear 11 = .ok (.ireturn, 1) := by decide +kernel
theorem dX4_tear_12 : decode cX4_tear 12 = .ok (.aload_n 0, 1) := by decide +kernel
theorem dX4_tear_13 : decode cX4_tear 13 = .ok (.getfield 11, 3) := by decide +kernel
theorem dX4_tear_16 : decode cX4_tear 16 = .ok (.iload_n 1, 1) := by decide +kernel
theorem dX4_tear_17 : decode cX4_tear 17 = .ok (.aaload, 1) := by decide +kernel
theorem dX4_tear_18 : decode cX4_tear 18 = .ok (.iconst (-1), 1) := by decide +kernel
theorem dX4_tear_19 : decode cX4_tear 19 = .ok (.putfield 87, 3) := by decide +kernel
theorem dX4_tear_22 : decode cX4_tear 22 = .ok (.iconst 1, 1) := by decide +kernel
theorem dX4_tear_23 : decode cX4_tear 23 = .ok (.ireturn, 1) := by decide +kernel
theorem dX4_copy_0 : decode cX4_copy 0 = .ok (.iload_n 1, 1) := by decide +kernel
theorem dX4_copy_1 : decode cX4_copy 1 = .ok (.invokestatic 65, 3) := by decide +kernel
theorem dX4_copy_4 : decode cX4_copy 4 = .ok (.ifCond .eq 10, 3) := by decide +kernel
theorem dX4_copy_7 : decode cX4_copy 7 = .ok (.iload_n 3, 1) := by decide +kernel
theorem dX4_copy_8 : decode cX4_copy 8 = .ok (.invokestatic 65, 3) := by decide +kernel
theorem dX4_copy_11 : decode cX4_copy 11 = .ok (.ifCond .ne 5, 3) := by decide +kernel
theorem dX4_copy_14 : decode cX4_copy 14 = .ok (.iconst (-1), 1) := by decide +kernel
theorem dX4_copy_15 : decode cX4_copy 15 = .ok (.ireturn, 1) := by decide +kernel
theorem dX4_copy_16 : decode cX4_copy 16 = .ok (.iload 5, 2) := by decide +kernel
theorem dX4_copy_18 : decode cX4_copy 18 = .ok (.ifCond .ge 9, 3) := by decide +kernel
theorem dX4_copy_21 : decode cX4_copy 21 = .ok (.aload_n 0, 1) := by decide +kernel
theorem dX4_copy_22 : decode cX4_copy 22 = .ok (.iconst 5, 1) := by decide +kernel
theorem dX4_copy_23 : decode cX4_copy 23 = .ok (.invokevirtual 69, 3) := by decide +kernel
theorem dX4_copy_26 : decode cX4_copy 26 = .ok (.ireturn, 1) := by decide +kernel
theorem dX4_copy_27 : decode cX4_copy 27 = .ok (.aload_n 0, 1) := by decide +kernel
theorem dX4_copy_28 : decode cX4_copy 28 = .ok (.getfield 11, 3) := by decide +kernel
theorem dX4_copy_31 : decode cX4_copy 31 = .ok (.iload_n 1, 1) := by decide +kernel
theorem dX4_copy_32 : decode cX4_copy 32 = .ok (.aaload, 1) := by decide +kernel
theorem dX4_copy_33 : decode cX4_copy 33 = .ok (.getfield 87, 3) := by decide +kernel
theorem dX4_copy_36 : decode cX4_copy 36 = .ok (.iconst (-1), 1) := by decide +kernel
theorem dX4_copy_37 : decode cX4_copy 37 = .ok (.if_icmp .eq 16, 3) := by decide +kernel
theorem dX4_copy_40 : decode cX4_copy 40 = .ok (.aload_n 0, 1) := by decide +kernel
theorem dX4_copy_41 : decode cX4_copy 41 = .ok (.getfield 11, 3) := by decide +kernel
theorem dX4_copy_44 : decode cX4_copy 44 = .ok (.iload_n 3, 1) := by decide +kernel
theorem dX4_copy_45 : decode cX4_copy 45 = .ok (.aaload, 1) := by decide +kernel
theorem dX4_copy_46 : decode cX4_copy 46 = .ok (.getfield 87, 3) := by decide +kernel
theorem dX4_copy_49 : decode cX4_copy 49 = .ok (.iconst (-1), 1) := by decide +kernel
theorem dX4_copy_50 : decode cX4_copy 50 = .ok (.if_icmp .ne 9, 3) := by decide +kernel
theorem dX4_copy_53 : decode cX4_copy 53 = .ok (.aload_n 0, 1) := by decide +kernel
theorem dX4_copy_54 : decode cX4_copy 54 = .ok (.iconst 1, 1) := by decide +kernel
theorem dX4_copy_55 : decode cX4_copy 55 = .ok (.invokevirtual 69, 3) := by decide +kernel
theorem dX4_copy_58 : decode cX4_copy 58 = .ok (.ireturn, 1) := by decide +kernel
theorem dX4_copy_59 : decode cX4_copy 59 = .ok (.aload_n 0, 1) := by decide +kernel
theorem dX4_copy_60 : decode cX4_copy 60 = .ok (.getfield 11, 3) := by decide +kernel
theorem dX4_copy_63 : decode cX4_copy 63 = .ok (.iload_n 1, 1) := by decide +kernel
theorem dX4_copy_64 : decode cX4_copy 64 = .ok (.aaload, 1) := by decide +kernel
theorem dX4_copy_65 : decode cX4_copy 65 = .ok (.iload_n 2, 1) := by decide +kernel
theorem dX4_copy_66 : decode cX4_copy 66 = .ok (.iload 5, 2) := by decide +kernel
theorem dX4_copy_68 : decode cX4_copy 68 = .ok (.invokevirtual 90, 3) := by decide +kernel
theorem dX4_copy_71 : decode cX4_copy 71 = .ok (.ifCond .eq 19, 3) := by decide +kernel
theorem dX4_copy_74 : decode cX4_copy 74 = .ok (.aload_n 0, 1) := by decide +kernel
theorem dX4_copy_75 : decode cX4_copy 75 = .ok (.getfield 11, 3) := by decide +kernel
theorem dX4_copy_78 : decode cX4_copy 78 = .ok (.iload_n 3, 1) := by decide +kernel
theorem dX4_copy_79 : decode cX4_copy 79 = .ok (.aaload, 1) := by decide +kernel
theorem dX4_copy_80 : decode cX4_copy 80 = .ok (.iload 4, 2) := by decide +kernel
theorem dX4_copy_82 : decode cX4_copy 82 = .ok (.iload 5, 2) := by decide +kernel
theorem dX4_copy_84 : decode cX4_copy 84 = .ok (.invokevirtual 90, 3) := by decide +kernel
theorem dX4_copy_87 : decode cX4_copy 87 = .ok (.ifCond .ne 9, 3) := by decide +kernel
theorem dX4_copy_90 : decode cX4_copy 90 = .ok (.aload_n 0, 1) := by decide +kernel
theorem dX4_copy_91 : decode cX4_copy 91 = .ok (.iconst 2, 1) := by decide +kernel
theorem dX4_copy_92 : decode cX4_copy 92 = .ok (.invokevirtual 69, 3) := by decide +kernel
theorem dX4_copy_95 : decode cX4_copy 95 = .ok (.ireturn, 1) := by decide +kernel
theorem dX4_copy_96 : decode cX4_copy 96 = .ok (.aload_n 0, 1) := by decide +kernel
theorem dX4_copy_97 : decode cX4_copy 97 = .ok (.getfield 11, 3) := by decide +kernel
theorem dX4_copy_100 : decode cX4_copy 100 = .ok (.iload_n 1, 1) := by decide +kernel
theorem dX4_copy_101 : decode cX4_copy 101 = .ok (.aaload, 1) := by decide +kernel
theorem dX4_copy_102 : decode cX4_copy 102 = .ok (.getfield 81, 3) := by decide +kernel
theorem dX4_copy_105 : decode cX4_copy 105 = .ok (.iload_n 2, 1) := by decide +kernel
theorem dX4_copy_106 : decode cX4_copy 106 = .ok (.aload_n 0, 1) := by decide +kernel
theorem dX4_copy_107 : decode cX4_copy 107 = .ok (.getfield 11, 3) := by decide +kernel
theorem dX4_copy_110 : decode cX4_copy 110 = .ok (.iload_n 3, 1) := by decide +kernel
theorem dX4_copy_111 : decode cX4_copy 111 = .ok (.aaload, 1) := by decide +kernel
theorem dX4_copy_112 : decode cX4_copy 112 = .ok (.getfield 81, 3) := by decide +kernel
theorem dX4_copy_115 : decode cX4_copy 115 = .ok (.iload 4, 2) := by decide +kernel
theorem dX4_copy_117 : decode cX4_copy 117 = .ok (.iload 5, 2) := by decide +kernel
theorem dX4_copy_119 : decode cX4_copy 119 = .ok (.invokestatic 94, 3) := by decide +kernel
theorem dX4_copy_122 : decode cX4_copy 122 = .ok (.iconst 1, 1) := by decide +kernel
theorem dX4_copy_123 : decode cX4_copy 123 = .ok (.ireturn, 1) := by decide +kernel
theorem dX4_mean_0 : decode cX4_mean 0 = .ok (.aload_n 0, 1) := by decide +kernel
theorem dX4_mean_1 : decode cX4_mean 1 = .ok (.iload_n 1, 1) := by decide +kernel
theorem dX4_mean_2 : decode cX4_mean 2 = .ok (.invokevirtual 84, 3) := by decide +kernel
theorem dX4_mean_5 : decode cX4_mean 5 = .ok (.istore_n 2, 1) := by decide +kernel
theorem dX4_mean_6 : decode cX4_mean 6 = .ok (.iload_n 2, 1) := by decide +kernel
theorem dX4_mean_7 : decode cX4_mean 7 = .ok (.ifCond .eq 5, 3) := by decide +kernel
theorem dX4_mean_10 : decode cX4_mean 10 = .ok (.iload_n 2, 1) := by decide +kernel
theorem dX4_mean_11 : decode cX4_mean 11 = .ok (.ireturn, 1) := by decide +kernel
theorem dX4_mean_12 : decode cX4_mean 12 = .ok (.aload_n 0, 1) := by decide +kernel
theorem dX4_mean_13 : decode cX4_mean 13 = .ok (.getfield 11, 3) := by decide +kernel
theorem dX4_mean_16 : decode cX4_mean 16 = .ok (.iload_n 1, 1) := by decide +kernel
theorem dX4_mean_17 : decode cX4_mean 17 = .ok (.aaload, 1) := by decide +kernel
theorem dX4_mean_18 : decode cX4_mean 18 = .ok (.getfield 87, 3) := by decide +kernel
theorem dX4_mean_21 : decode cX4_mean 21 = .ok (.istore_n 3, 1) := by decide +kernel
theorem dX4_mean_22 : decode cX4_mean 22 = .ok (.iload_n 3, 1) := by decide +kernel
theorem dX4_mean_23 : decode cX4_mean 23 = .ok (.ifCond .ne 9, 3) := by decide +kernel
theorem dX4_mean_26 : decode cX4_mean 26 = .ok (.aload_n 0, 1) := by decide +kernel
theorem dX4_mean_27 : decode cX4_mean 27 = .ok (.iconst 4, 1) := by decide +kernel
theorem dX4_mean_28 : decode cX4_mean 28 = .ok (.invokevirtual 69, 3) := by decide +kernel
theorem dX4_mean_31 : decode cX4_mean 31 = .ok (.ireturn, 1) := by decide +kernel
theorem dX4_mean_32 : decode cX4_mean 32 = .ok (.aload_n 0, 1) := by decide +kernel
theorem dX4_mean_33 : decode cX4_mean 33 = .ok (.aload_n 0, 1) := by decide +kernel
theorem dX4_mean_34 : decode cX4_mean 34 = .ok (.getfield 11, 3) := by decide +kernel
theorem dX4_mean_37 : decode cX4_mean 37 = .ok (.iload_n 1, 1) := by decide +kernel
theorem dX4_mean_38 : decode cX4_mean 38 = .ok (.aaload, 1) := by decide +kernel
theorem dX4_mean_39 : decode cX4_mean 39 = .ok (.invokevirtual 100, 3) := by decide +kernel
theorem dX4_mean_42 : decode cX4_mean 42 = .ok (.iload_n 3, 1) := by decide +kernel
theorem dX4_mean_43 : decode cX4_mean 43 = .ok (.i2l, 1) := by decide +kernel
theorem dX4_mean_44 : decode cX4_mean 44 = .ok (.ldiv, 1) := by decide +kernel
theorem dX4_mean_45 : decode cX4_mean 45 = .ok (.l2i, 1) := by decide +kernel
theorem dX4_mean_46 : decode cX4_mean 46 = .ok (.putfield 49, 3) := by decide +kernel
theorem dX4_mean_49 : decode cX4_mean 49 = .ok (.iconst 1, 1) := by decide +kernel
theorem dX4_mean_50 : decode cX4_mean 50 = .ok (.ireturn, 1) := by decide +kernel
theorem dX4_text_0 : decode cX4_text 0 = .ok (.iload_n 1, 1) := by decide +kernel
theorem dX4_text_1 : decode cX4_text 1 = .ok (.invokestatic 104, 3) := by decide +kernel
theorem dX4_text_4 : decode cX4_text 4 = .ok (.ifCond .eq 9, 3) := by decide +kernel
theorem dX4_text_7 : decode cX4_text 7 = .ok (.iload_n 2, 1) := by decide +kernel
theorem dX4_text_8 : decode cX4_text 8 = .ok (.bipush 60, 2) := by decide +kernel
theorem dX4_text_10 : decode cX4_text 10 = .ok (.if_icmp .le 5, 3) := by decide +kernel
theorem dX4_text_13 : decode cX4_text 13 = .ok (.iconst (-1), 1) := by decide +kernel
theorem dX4_text_14 : decode cX4_text 14 = .ok (.ireturn, 1) := by decide +kernel
theorem dX4_text_15 : decode cX4_text 15 = .ok (.iload_n 2, 1) := by decide +kernel
theorem dX4_text_16 : decode cX4_text 16 = .ok (.ifCond .ge 9, 3) := by decide +kernel
theorem dX4_text_19 : decode cX4_text 19 = .ok (.aload_n 0, 1) := by decide +kernel
theorem dX4_text_20 : decode cX4_text 20 = .ok (.iconst 5, 1) := by decide +kernel
theorem dX4_text_21 : decode cX4_text 21 = .ok (.invokevirtual 69, 3) := by decide +kernel
theorem dX4_text_24 : decode cX4_text 24 = .ok (.ireturn, 1) := by decide +kernel
theorem dX4_text_25 : decode cX4_text 25 = .ok (.aload_n 0, 1) := by decide +kernel
theorem dX4_text_26 : decode cX4_text 26 = .ok (.getfield 17, 3) := by decide +kernel
theorem dX4_text_29 : decode cX4_text 29 = .ok (.iload_n 1, 1) := by decide +kernel
theorem dX4_text_30 : decode cX4_text 30 = .ok (.aaload, 1) := by decide +kernel
theorem dX4_text_31 : decode cX4_text 31 = .ok (.iload_n 2, 1) := by decide +kernel
theorem dX4_text_32 : decode cX4_text 32 = .ok (.invokevirtual 107, 3) := by decide +kernel
theorem dX4_text_35 : decode cX4_text 35 = .ok (.iload_n 2, 1) := by decide +kernel
theorem dX4_text_36 : decode cX4_text 36 = .ok (.ireturn, 1) := by decide +kernel
theorem dX4_put_0 : decode cX4_put 0 = .ok (.aload_n 0, 1) := by decide +kernel
theorem dX4_put_1 : decode cX4_put 1 = .ok (.iload_n 1, 1) := by decide +kernel
theorem dX4_put_2 : decode cX4_put 2 = .ok (.invokevirtual 108, 3) := by decide +kernel
theorem dX4_put_5 : decode cX4_put 5 = .ok (.istore 4, 2) := by decide +kernel
theorem dX4_put_7 : decode cX4_put 7 = .ok (.iload 4, 2) := by decide +kernel
theorem dX4_put_9 : decode cX4_put 9 = .ok (.ifCond .eq 6, 3) := by decide +kernel
theorem dX4_put_12 : decode cX4_put 12 = .ok (.iload 4, 2) := by decide +kernel
theorem dX4_put_14 : decode cX4_put 14 = .ok (.ireturn, 1) := by decide +kernel
theorem dX4_put_15 : decode cX4_put 15 = .ok (.iload_n 2, 1) := by decide +kernel
theorem dX4_put_16 : decode cX4_put 16 = .ok (.ifCond .lt 16, 3) := by decide +kernel
theorem dX4_put_19 : decode cX4_put 19 = .ok (.iload_n 2, 1) := by decide +kernel
theorem dX4_put_20 : decode cX4_put 20 = .ok (.aload_n 0, 1) := by decide +kernel
theorem dX4_put_21 : decode cX4_put 21 = .ok (.getfield 17, 3) := by decide +kernel
theorem dX4_put_24 : decode cX4_put 24 = .ok (.iload_n 1, 1) := by decide +kernel
theorem dX4_put_25 : decode cX4_put 25 = .ok (.aaload, 1) := by decide +kernel
theorem dX4_put_26 : decode cX4_put 26 = .ok (.getfield 111, 3) := by decide +kernel
theorem dX4_put_29 : decode cX4_put 29 = .ok (.if_icmp .lt 9, 3) := by decide +kernel
theorem dX4_put_32 : decode cX4_put 32 = .ok (.aload_n 0, 1) := by decide +kernel
theorem dX4_put_33 : decode cX4_put 33 = .ok (.iconst 2, 1) := by decide +kernel
theorem dX4_put_34 : decode cX4_put 34 = .ok (.invokevirtual 69, 3) := by decide +kernel
theorem dX4_put_37 : decode cX4_put 37 = .ok (.ireturn, 1) := by decide +kernel
theorem dX4_put_38 : decode cX4_put 38 = .ok (.aload_n 0, 1) := by decide +kernel
theorem dX4_put_39 : decode cX4_put 39 = .ok (.getfield 17, 3) := by decide +kernel
theorem dX4_put_42 : decode cX4_put 42 = .ok (.iload_n 1, 1) := by decide +kernel
theorem dX4_put_43 : decode cX4_put 43 = .ok (.aaload, 1) := by decide +kernel
theorem dX4_put_44 : decode cX4_put 44 = .ok (.getfield 112, 3) := by decide +kernel
theorem dX4_put_47 : decode cX4_put 47 = .ok (.iload_n 2, 1) := by decide +kernel
theorem dX4_put_48 : decode cX4_put 48 = .ok (.baload, 1) := by decide +kernel
theorem dX4_put_49 : decode cX4_put 49 = .ok (.istore 5, 2) := by decide +kernel
theorem dX4_put_51 : decode cX4_put 51 = .ok (.aload_n 0, 1) := by decide +kernel
theorem dX4_put_52 : decode cX4_put 52 = .ok (.getfield 17, 3) := by decide +kernel
theorem dX4_put_55 : decode cX4_put 55 = .ok (.iload_n 1, 1) := by decide +kernel
theorem dX4_put_56 : decode cX4_put 56 = .ok (.aaload, 1) := by decide +kernel
theorem dX4_put_57 : decode cX4_put 57 = .ok (.getfield 112, 3) := by decide +kernel
theorem dX4_put_60 : decode cX4_put 60 = .ok (.iload_n 2, 1) := by decide +kernel
theorem dX4_put_61 : decode cX4_put 61 = .ok (.iload_n 3, 1) := by decide +kernel
theorem dX4_put_62 : decode cX4_put 62 = .ok (.i2b, 1) := by decide +kernel
theorem dX4_put_63 : decode cX4_put 63 = .ok (.bastore, 1) := by decide +kernel
theorem dX4_put_64 : decode cX4_put 64 = .ok (.iload 5, 2) := by decide +kernel
theorem dX4_put_66 : decode cX4_put 66 = .ok (.sipush 1000, 3) := by decide +kernel
theorem dX4_put_69 : decode cX4_put 69 = .ok (.iadd, 1) := by decide +kernel
theorem dX4_put_70 : decode cX4_put 70 = .ok (.ireturn, 1) := by decide +kernel
theorem dX4_fault_0 : decode cX4_fault 0 = .ok (.aload_n 0, 1) := by decide +kernel
theorem dX4_fault_1 : decode cX4_fault 1 = .ok (.iload_n 1, 1) := by decide +kernel
theorem dX4_fault_2 : decode cX4_fault 2 = .ok (.invokevirtual 108, 3) := by decide +kernel
theorem dX4_fault_5 : decode cX4_fault 5 = .ok (.istore_n 2, 1) := by decide +kernel
theorem dX4_fault_6 : decode cX4_fault 6 = .ok (.iload_n 2, 1) := by decide +kernel
theorem dX4_fault_7 : decode cX4_fault 7 = .ok (.ifCond .eq 7, 3) := by decide +kernel
theorem dX4_fault_10 : decode cX4_fault 10 = .ok (.iload_n 2, 1) := by decide +kernel
theorem dX4_fault_11 : decode cX4_fault 11 = .ok (.goto 12, 3) := by decide +kernel
theorem dX4_fault_14 : decode cX4_fault 14 = .ok (.aload_n 0, 1) := by decide +kernel
theorem dX4_fault_15 : decode cX4_fault 15 = .ok (.getfield 17, 3) := by decide +kernel
theorem dX4_fault_18 : decode cX4_fault 18 = .ok (.iload_n 1, 1) := by decide +kernel
theorem dX4_fault_19 : decode cX4_fault 19 = .ok (.aaload, 1) := by decide +kernel
theorem dX4_fault_20 : decode cX4_fault 20 = .ok (.invokevirtual 116, 3) := by decide +kernel
theorem dX4_fault_23 : decode cX4_fault 23 = .ok (.ireturn, 1) := by decide +kernel
theorem dX4_almanac_0 : decode cX4_almanac 0 = .ok (.aload_n 0, 1) := by decide +kernel
theorem dX4_almanac_1 : decode cX4_almanac 1 = .ok (.iload_n 1, 1) := by decide +kernel
theorem dX4_almanac_2 : decode cX4_almanac 2 = .ok (.invokevirtual 108, 3) := by decide +kernel
theorem dX4_almanac_5 : decode cX4_almanac 5 = .ok (.istore_n 2, 1) := by decide +kernel
theorem dX4_almanac_6 : decode cX4_almanac 6 = .ok (.iload_n 2, 1) := by decide +kernel
theorem dX4_almanac_7 : decode cX4_almanac 7 = .ok (.ifCond .eq 5, 3) := by decide +kernel
theorem dX4_almanac_10 : decode cX4_almanac 10 = .ok (.iload_n 2, 1) := by decide +kernel
theorem dX4_almanac_11 : decode cX4_almanac 11 = .ok (.ireturn, 1) := by decide +kernel
theorem dX4_almanac_12 : decode cX4_almanac 12 = .ok (.aload_n 0, 1) := by decide +kernel
theorem dX4_almanac_13 : decode cX4_almanac 13 = .ok (.getfield 17, 3) := by decide +kernel
theorem dX4_almanac_16 : decode cX4_almanac 16 = .ok (.iload_n 1, 1) := by decide +kernel
theorem dX4_almanac_17 : decode cX4_almanac 17 = .ok (.aaload, 1) := by decide +kernel
theorem dX4_almanac_18 : decode cX4_almanac 18 = .ok (.invokevirtual 116, 3) := by decide +kernel
theorem dX4_almanac_21 : decode cX4_almanac 21 = .ok (.bipush (-9), 2) := by decide +kernel
theorem dX4_almanac_23 : decode cX4_almanac 23 = .ok (.if_icmp .eq 6, 3) := by decide +kernel
theorem dX4_almanac_26 : decode cX4_almanac 26 = .ok (.bipush (-4), 2) := by decide +kernel
theorem dX4_almanac_28 : decode cX4_almanac 28 = .ok (.ireturn, 1) := by decide +kernel
theorem dX4_almanac_29 : decode cX4_almanac 29 = .ok (.aload_n 0, 1) := by decide +kernel
theorem dX4_almanac_30 : decode cX4_almanac 30 = .ok (.aload_n 0, 1) := by decide +kernel
theorem dX4_almanac_31 : decode cX4_almanac 31 = .ok (.getfield 17, 3) := by decide +kernel
theorem dX4_almanac_34 : decode cX4_almanac 34 = .ok (.iload_n 1, 1) := by decide +kernel
theorem dX4_almanac_35 : decode cX4_almanac 35 = .ok (.aaload, 1) := by decide +kernel
theorem dX4_almanac_36 : decode cX4_almanac 36 = .ok (.aload_n 0, 1) := by decide +kernel
theorem dX4_almanac_37 : decode cX4_almanac 37 = .ok (.getfield 23, 3) := by decide +kernel
theorem dX4_almanac_40 : decode cX4_almanac 40 = .ok (.invokevirtual 120, 3) := by decide +kernel
theorem dX4_almanac_43 : decode cX4_almanac 43 = .ok (.putfield 42, 3) := by decide +kernel
theorem dX4_almanac_46 : decode cX4_almanac 46 = .ok (.aload_n 0, 1) := by decide +kernel
theorem dX4_almanac_47 : decode cX4_almanac 47 = .ok (.iconst 0, 1) := by decide +kernel
theorem dX4_almanac_48 : decode cX4_almanac 48 = .ok (.putfield 46, 3) := by decide +kernel
theorem dX4_almanac_51 : decode cX4_almanac 51 = .ok (.iconst 0, 1) := by decide +kernel
theorem dX4_almanac_52 : decode cX4_almanac 52 = .ok (.istore_n 3, 1) := by decide +kernel
theorem dX4_almanac_53 : decode cX4_almanac 53 = .ok (.iload_n 3, 1) := by decide +kernel
theorem dX4_almanac_54 : decode cX4_almanac 54 = .ok (.iconst 3, 1) := by decide +kernel
theorem dX4_almanac_55 : decode cX4_almanac 55 = .ok (.if_icmp .ge 19, 3) := by decide +kernel
theorem dX4_almanac_58 : decode cX4_almanac 58 = .ok (.aload_n 0, 1) := by decide +kernel
theorem dX4_almanac_59 : decode cX4_almanac 59 = .ok (.getfield 29, 3) := by decide +kernel
theorem dX4_almanac_62 : decode cX4_almanac 62 = .ok (.iload_n 3, 1) := by decide +kernel
theorem dX4_almanac_63 : decode cX4_almanac 63 = .ok (.aaload, 1) := by decide +kernel
theorem dX4_almanac_64 : decode cX4_almanac 64 = .ok (.iconst 0, 1) := by decide +kernel
theorem dX4_almanac_65 : decode cX4_almanac 65 = .ok (.putfield 124, 3) := by decide +kernel
theorem dX4_almanac_68 : decode cX4_almanac 68 = .ok (.iinc 3 1, 3) := by decide +kernel
theorem dX4_almanac_71 : decode cX4_almanac 71 = .ok (.goto (-18), 3) := by decide +kernel
theorem dX4_almanac_74 : decode cX4_almanac 74 = .ok (.aload_n 0, 1) := by decide +kernel
theorem dX4_almanac_75 : decode cX4_almanac 75 = .ok (.getfield 42, 3) := by decide +kernel
theorem dX4_almanac_78 : decode cX4_almanac 78 = .ok (.ireturn, 1) := by decide +kernel
theorem dX4_town_0 : decode cX4_town 0 = .ok (.aload_n 0, 1) := by decide +kernel
theorem dX4_town_1 : decode cX4_town 1 = .ok (.iload_n 1, 1) := by decide +kernel
theorem dX4_town_2 : decode cX4_town 2 = .ok (.invokevirtual 128, 3) := by decide +kernel
theorem dX4_town_5 : decode cX4_town 5 = .ok (.ifCond .eq 12, 3) := by decide +kernel
theorem dX4_town_8 : decode cX4_town 8 = .ok (.iload_n 2, 1) := by decide +kernel
theorem dX4_town_9 : decode cX4_town 9 = .ok (.ifCond .lt 8, 3) := by decide +kernel
theorem dX4_town_12 : decode cX4_town 12 = .ok (.iload_n 2, 1) := by decide +kernel
theorem dX4_town_13 : decode cX4_town 13 = .ok (.iconst 4, 1) := by decide +kernel
theorem dX4_town_14 : decode cX4_town 14 = .ok (.if_icmp .le 5, 3) := by decide +kernel
theorem dX4_town_17 : decode cX4_town 17 = .ok (.iconst (-1), 1) := by decide +kernel
theorem dX4_town_18 : decode cX4_town 18 = .ok (.ireturn, 1) := by decide +kernel
theorem dX4_town_19 : decode cX4_town 19 = .ok (.aload_n 0, 1) := by decide +kernel
theorem dX4_town_20 : decode cX4_town 20 = .ok (.aload_n 0, 1) := by decide +kernel
theorem dX4_town_21 : decode cX4_town 21 = .ok (.iload_n 1, 1) := by decide +kernel
theorem dX4_town_22 : decode cX4_town 22 = .ok (.iload_n 2, 1) := by decide +kernel
theorem dX4_town_23 : decode cX4_town 23 = .ok (.invokevirtual 131, 3) := by decide +kernel
theorem dX4_town_26 : decode cX4_town 26 = .ok (.putfield 49, 3) := by decide +kernel
theorem dX4_town_29 : decode cX4_town 29 = .ok (.iconst 1, 1) := by decide +kernel
theorem dX4_town_30 : decode cX4_town 30 = .ok (.ireturn, 1) := by decide +kernel
theorem dX4_mark_0 : decode cX4_mark 0 = .ok (.aload_n 0, 1) := by decide +kernel
theorem dX4_mark_1 : decode cX4_mark 1 = .ok (.iload_n 1, 1) := by decide +kernel
theorem dX4_mark_2 : decode cX4_mark 2 = .ok (.invokevirtual 128, 3) := by decide +kernel
theorem dX4_mark_5 : decode cX4_mark 5 = .ok (.ifCond .eq 13, 3) := by decide +kernel
theorem dX4_mark_8 : decode cX4_mark 8 = .ok (.iload_n 2, 1) := by decide +kernel
theorem dX4_mark_9 : decode cX4_mark 9 = .ok (.ifCond .le 9, 3) := by decide +kernel
theorem dX4_mark_12 : decode cX4_mark 12 = .ok (.iload_n 2, 1) := by decide +kernel
theorem dX4_mark_13 : decode cX4_mark 13 = .ok (.bipush 6, 2) := by decide +kernel
theorem dX4_mark_15 : decode cX4_mark 15 = .ok (.if_icmp .lt 5, 3) := by decide +kernel
theorem dX4_mark_18 : decode cX4_mark 18 = .ok (.iconst (-1), 1) := by decide +kernel
theorem dX4_mark_19 : decode cX4_mark 19 = .ok (.ireturn, 1) := by decide +kernel
theorem dX4_mark_20 : decode cX4_mark 20 = .ok (.aload_n 0, 1) := by decide +kernel
theorem dX4_mark_21 : decode cX4_mark 21 = .ok (.getfield 23, 3) := by decide +kernel
theorem dX4_mark_24 : decode cX4_mark 24 = .ok (.iload_n 1, 1) := by decide +kernel
theorem dX4_mark_25 : decode cX4_mark 25 = .ok (.aaload, 1) := by decide +kernel
theorem dX4_mark_26 : decode cX4_mark 26 = .ok (.iload_n 2, 1) := by decide +kernel
theorem dX4_mark_27 : decode cX4_mark 27 = .ok (.invokevirtual 134, 3) := by decide +kernel
theorem dX4_mark_30 : decode cX4_mark 30 = .ok (.ifCond .eq 20, 3) := by decide +kernel
theorem dX4_mark_33 : decode cX4_mark 33 = .ok (.aload_n 0, 1) := by decide +kernel
theorem dX4_mark_34 : decode cX4_mark 34 = .ok (.getfield 23, 3) := by decide +kernel
theorem dX4_mark_37 : decode cX4_mark 37 = .ok (.iload_n 1, 1) := by decide +kernel
theorem dX4_mark_38 : decode cX4_mark 38 = .ok (.aaload, 1) := by decide +kernel
theorem dX4_mark_39 : decode cX4_mark 39 = .ok (.iload_n 2, 1) := by decide +kernel
theorem dX4_mark_40 : decode cX4_mark 40 = .ok (.aload_n 0, 1) := by decide +kernel
theorem dX4_mark_41 : decode cX4_mark 41 = .ok (.getfield 46, 3) := by decide +kernel
theorem dX4_mark_44 : decode cX4_mark 44 = .ok (.invokevirtual 137, 3) := by decide +kernel
theorem dX4_mark_47 : decode cX4_mark 47 = .ok (.goto 8, 3) := by decide +kernel
theorem dX4_mark_50 : decode cX4_mark 50 = .ok (.aload_n 0, 1) := by decide +kernel
theorem dX4_mark_51 : decode cX4_mark 51 = .ok (.iconst 3, 1) := by decide +kernel
theorem dX4_mark_52 : decode cX4_mark 52 = .ok (.invokevirtual 69, 3) := by decide +kernel
theorem dX4_mark_55 : decode cX4_mark 55 = .ok (.ireturn, 1) := by decide +kernel
theorem dX4_order_0 : decode cX4_order 0 = .ok (.aload_n 0, 1) := by decide +kernel
theorem dX4_order_1 : decode cX4_order 1 = .ok (.iload_n 1, 1) := by decide +kernel
theorem dX4_order_2 : decode cX4_order 2 = .ok (.invokevirtual 128, 3) := by decide +kernel
theorem dX4_order_5 : decode cX4_order 5 = .ok (.ifCond .eq 14, 3) := by decide +kernel
theorem dX4_order_8 : decode cX4_order 8 = .ok (.iload_n 2, 1) := by decide +kernel
theorem dX4_order_9 : decode cX4_order 9 = .ok (.iconst 0, 1) := by decide +kernel
theorem dX4_order_10 : decode cX4_order 10 = .ok (.sipush 9999, 3) := by decide +kernel
theorem dX4_order_13 : decode cX4_order 13 = .ok (.invokestatic 140, 3) := by decide +kernel
theorem dX4_order_16 : decode cX4_order 16 = .ok (.ifCond .ne 5, 3) := by decide +kernel
theorem dX4_order_19 : decode cX4_order 19 = .ok (.iconst (-1), 1) := by decide +kernel
theorem dX4_order_20 : decode cX4_order 20 = .ok (.ireturn, 1) := by decide +kernel
theorem dX4_order_21 : decode cX4_order 21 = .ok (.aload_n 0, 1) := by decide +kernel
theorem dX4_order_22 : decode cX4_order 22 = .ok (.getfield 23, 3) := by decide +kernel
theorem dX4_order_25 : decode cX4_order 25 = .ok (.iload_n 1, 1) := by decide +kernel
theorem dX4_order_26 : decode cX4_order 26 = .ok (.aaload, 1) := by decide +kernel
theorem dX4_order_27 : decode cX4_order 27 = .ok (.getfield 144, 3) := by decide +kernel
theorem dX4_order_30 : decode cX4_order 30 = .ok (.istore_n 3, 1) := by decide +kernel
theorem dX4_order_31 : decode cX4_order 31 = .ok (.aload_n 0, 1) := by decide +kernel
theorem dX4_order_32 : decode cX4_order 32 = .ok (.getfield 23, 3) := by decide +kernel
theorem dX4_order_35 : decode cX4_order 35 = .ok (.iload_n 1, 1) := by decide +kernel
theorem dX4_order_36 : decode cX4_order 36 = .ok (.aaload, 1) := by decide +kernel
theorem dX4_order_37 : decode cX4_order 37 = .ok (.iload_n 2, 1) := by decide +kernel
theorem dX4_order_38 : decode cX4_order 38 = .ok (.putfield 144, 3) := by decide +kernel
theorem dX4_order_41 : decode cX4_order 41 = .ok (.iload_n 3, 1) := by decide +kernel
theorem dX4_order_42 : decode cX4_order 42 = .ok (.ireturn, 1) := by decide +kernel
theorem dX4_gap_0 : decode cX4_gap 0 = .ok (.aload_n 0, 1) := by decide +kernel
theorem dX4_gap_1 : decode cX4_gap 1 = .ok (.iload_n 1, 1) := by decide +kernel
theorem dX4_gap_2 : decode cX4_gap 2 = .ok (.invokevirtual 128, 3) := by decide +kernel
theorem dX4_gap_5 : decode cX4_gap 5 = .ok (.ifCond .eq 13, 3) := by decide +kernel
theorem dX4_gap_8 : decode cX4_gap 8 = .ok (.iload_n 2, 1) := by decide +kernel
theorem dX4_gap_9 : decode cX4_gap 9 = .ok (.iconst 0, 1) := by decide +kernel
theorem dX4_gap_10 : decode cX4_gap 10 = .ok (.bipush 9, 2) := by decide +kernel
theorem dX4_gap_12 : decode cX4_gap 12 = .ok (.invokestatic 140, 3) := by decide +kernel
theorem dX4_gap_15 : decode cX4_gap 15 = .ok (.ifCond .ne 5, 3) := by decide +kernel
theorem dX4_gap_18 : decode cX4_gap 18 = .ok (.iconst (-1), 1) := by decide +kernel
theorem dX4_gap_19 : decode cX4_gap 19 = .ok (.ireturn, 1) := by decide +kernel
theorem dX4_gap_20 : decode cX4_gap 20 = .ok (.aload_n 0, 1) := by decide +kernel
theorem dX4_gap_21 : decode cX4_gap 21 = .ok (.getfield 23, 3) := by decide +kernel
theorem dX4_gap_24 : decode cX4_gap 24 = .ok (.iload_n 1, 1) := by decide +kernel
theorem dX4_gap_25 : decode cX4_gap 25 = .ok (.aaload, 1) := by decide +kernel
theorem dX4_gap_26 : decode cX4_gap 26 = .ok (.getfield 147, 3) := by decide +kernel
theorem dX4_gap_29 : decode cX4_gap 29 = .ok (.istore_n 3, 1) := by decide +kernel
theorem dX4_gap_30 : decode cX4_gap 30 = .ok (.aload_n 0, 1) := by decide +kernel
theorem dX4_gap_31 : decode cX4_gap 31 = .ok (.getfield 23, 3) := by decide +kernel
theorem dX4_gap_34 : decode cX4_gap 34 = .ok (.iload_n 1, 1) := by decide +kernel
theorem dX4_gap_35 : decode cX4_gap 35 = .ok (.aaload, 1) := by decide +kernel
theorem dX4_gap_36 : decode cX4_gap 36 = .ok (.iload_n 2, 1) := by decide +kernel
theorem dX4_gap_37 : decode cX4_gap 37 = .ok (.putfield 147, 3) := by decide +kernel
theorem dX4_gap_40 : decode cX4_gap 40 = .ok (.iload_n 3, 1) := by decide +kernel
theorem dX4_gap_41 : decode cX4_gap 41 = .ok (.ireturn, 1) := by decide +kernel
theorem dX4_leap_0 : decode cX4_leap 0 = .ok (.aload_n 0, 1) := by decide +kernel
theorem dX4_leap_1 : decode cX4_leap 1 = .ok (.iload_n 1, 1) := by decide +kernel
theorem dX4_leap_2 : decode cX4_leap 2 = .ok (.invokevirtual 128, 3) := by decide +kernel
theorem dX4_leap_5 : decode cX4_leap 5 = .ok (.ifCond .eq 10, 3) := by decide +kernel
theorem dX4_leap_8 : decode cX4_leap 8 = .ok (.iload_n 2, 1) := by decide +kernel
theorem dX4_leap_9 : decode cX4_leap 9 = .ok (.invokestatic 150, 3) := by decide +kernel
theorem dX4_leap_12 : decode cX4_leap 12 = .ok (.ifCond .ne 5, 3) := by decide +kernel
theorem dX4_leap_15 : decode cX4_leap 15 = .ok (.iconst (-1), 1) := by decide +kernel
theorem dX4_leap_16 : decode cX4_leap 16 = .ok (.ireturn, 1) := by decide +kernel
theorem dX4_leap_17 : decode cX4_leap 17 = .ok (.aload_n 0, 1) := by decide +kernel
theorem dX4_leap_18 : decode cX4_leap 18 = .ok (.getfield 23, 3) := by decide +kernel
theorem dX4_leap_21 : decode cX4_leap 21 = .ok (.iload_n 1, 1) := by decide +kernel
theorem dX4_leap_22 : decode cX4_leap 22 = .ok (.aaload, 1) := by decide +kernel
theorem dX4_leap_23 : decode cX4_leap 23 = .ok (.getfield 153, 3) := by decide +kernel
theorem dX4_leap_26 : decode cX4_leap 26 = .ok (.istore_n 3, 1) := by decide +kernel
theorem dX4_leap_27 : decode cX4_leap 27 = .ok (.aload_n 0, 1) := by decide +kernel
theorem dX4_leap_28 : decode cX4_leap 28 = .ok (.getfield 23, 3) := by decide +kernel
theorem dX4_leap_31 : decode cX4_leap 31 = .ok (.iload_n 1, 1) := by decide +kernel
theorem dX4_leap_32 : decode cX4_leap 32 = .ok (.aaload, 1) := by decide +kernel
theorem dX4_leap_33 : decode cX4_leap 33 = .ok (.iload_n 2, 1) := by decide +kernel
theorem dX4_leap_34 : decode cX4_leap 34 = .ok (.putfield 153, 3) := by decide +kernel
theorem dX4_leap_37 : decode cX4_leap 37 = .ok (.iload_n 3, 1) := by decide +kernel
theorem dX4_leap_38 : decode cX4_leap 38 = .ok (.ireturn, 1) := by decide +kernel
theorem dX4_go_0 : decode cX4_go 0 = .ok (.iload_n 1, 1) := by decide +kernel
theorem dX4_go_1 : decode cX4_go 1 = .ok (.iconst 0, 1) := by decide +kernel
theorem dX4_go_2 : decode cX4_go 2 = .ok (.sipush 9999, 3) := by decide +kernel
theorem dX4_go_5 : decode cX4_go 5 = .ok (.invokestatic 140, 3) := by decide +kernel
theorem dX4_go_8 : decode cX4_go 8 = .ok (.ifCond .ne 5, 3) := by decide +kernel
theorem dX4_go_11 : decode cX4_go 11 = .ok (.iconst (-1), 1) := by decide +kernel
theorem dX4_go_12 : decode cX4_go 12 = .ok (.ireturn, 1) := by decide +kernel
theorem dX4_go_13 : decode cX4_go 13 = .ok (.aload_n 0, 1) := by decide +kernel
theorem dX4_go_14 : decode cX4_go 14 = .ok (.getfield 42, 3) := by decide +kernel
theorem dX4_go_17 : decode cX4_go 17 = .ok (.ifCond .ne 6, 3) := by decide +kernel
theorem dX4_go_20 : decode cX4_go 20 = .ok (.bipush (-4), 2) := by decide +kernel
theorem dX4_go_22 : decode cX4_go 22 = .ok (.ireturn, 1) := by decide +kernel
theorem dX4_go_23 : decode cX4_go 23 = .ok (.aload_n 0, 1) := by decide +kernel
theorem dX4_go_24 : decode cX4_go 24 = .ok (.getfield 46, 3) := by decide +kernel
theorem dX4_go_27 : decode cX4_go 27 = .ok (.iload_n 1, 1) := by decide +kernel
theorem dX4_go_28 : decode cX4_go 28 = .ok (.iadd, 1) := by decide +kernel
theorem dX4_go_29 : decode cX4_go 29 = .ok (.sipush 19999, 3) := by decide +kernel
theorem dX4_go_32 : decode cX4_go 32 = .ok (.if_icmp .le 6, 3) := by decide +kernel
theorem dX4_go_35 : decode cX4_go 35 = .ok (.bipush (-6), 2) := by decide +kernel
theorem dX4_go_37 : decode cX4_go 37 = .ok (.ireturn, 1) := by decide +kernel
theorem dX4_go_38 : decode cX4_go 38 = .ok (.aload_n 0, 1) := by decide +kernel
theorem dX4_go_39 : decode cX4_go 39 = .ok (.dup, 1) := by decide +kernel
theorem dX4_go_40 : decode cX4_go 40 = .ok (.getfield 46, 3) := by decide +kernel
theorem dX4_go_43 : decode cX4_go 43 = .ok (.iload_n 1, 1) := by decide +kernel
theorem dX4_go_44 : decode cX4_go 44 = .ok (.iadd, 1) := by decide +kernel
theorem dX4_go_45 : decode cX4_go 45 = .ok (.putfield 46, 3) := by decide +kernel
theorem dX4_go_48 : decode cX4_go 48 = .ok (.aload_n 0, 1) := by decide +kernel
theorem dX4_go_49 : decode cX4_go 49 = .ok (.getfield 46, 3) := by decide +kernel
theorem dX4_go_52 : decode cX4_go 52 = .ok (.ireturn, 1) := by decide +kernel
theorem dX4_back_0 : decode cX4_back 0 = .ok (.iload_n 1, 1) := by decide +kernel
theorem dX4_back_1 : decode cX4_back 1 = .ok (.iconst 0, 1) := by decide +kernel
theorem dX4_back_2 : decode cX4_back 2 = .ok (.aload_n 0, 1) := by decide +kernel
theorem dX4_back_3 : decode cX4_back 3 = .ok (.getfield 46, 3) := by decide +kernel
theorem dX4_back_6 : decode cX4_back 6 = .ok (.invokestatic 140, 3) := by decide +kernel
theorem dX4_back_9 : decode cX4_back 9 = .ok (.ifCond .ne 5, 3) := by decide +kernel
theorem dX4_back_12 : decode cX4_back 12 = .ok (.iconst (-1), 1) := by decide +kernel
theorem dX4_back_13 : decode cX4_back 13 = .ok (.ireturn, 1) := by decide +kernel
theorem dX4_back_14 : decode cX4_back 14 = .ok (.aload_n 0, 1) := by decide +kernel
theorem dX4_back_15 : decode cX4_back 15 = .ok (.dup, 1) := by decide +kernel
theorem dX4_back_16 : decode cX4_back 16 = .ok (.getfield 46, 3) := by decide +kernel
theorem dX4_back_19 : decode cX4_back 19 = .ok (.iload_n 1, 1) := by decide +kernel
theorem dX4_back_20 : decode cX4_back 20 = .ok (.isub, 1) := by decide +kernel
theorem dX4_back_21 : decode cX4_back 21 = .ok (.putfield 46, 3) := by decide +kernel
theorem dX4_back_24 : decode cX4_back 24 = .ok (.aload_n 0, 1) := by decide +kernel
theorem dX4_back_25 : decode cX4_back 25 = .ok (.getfield 46, 3) := by decide +kernel
theorem dX4_back_28 : decode cX4_back 28 = .ok (.ireturn, 1) := by decide +kernel
theorem dX4_keep_0 : decode cX4_keep 0 = .ok (.iload_n 1, 1) := by decide +kernel
theorem dX4_keep_1 : decode cX4_keep 1 = .ok (.invokestatic 156, 3) := by decide +kernel
theorem dX4_keep_4 : decode cX4_keep 4 = .ok (.ifCond .ne 5, 3) := by decide +kernel
theorem dX4_keep_7 : decode cX4_keep 7 = .ok (.iconst (-1), 1) := by decide +kernel
theorem dX4_keep_8 : decode cX4_keep 8 = .ok (.ireturn, 1) := by decide +kernel
theorem dX4_keep_9 : decode cX4_keep 9 = .ok (.aload_n 0, 1) := by decide +kernel
theorem dX4_keep_10 : decode cX4_keep 10 = .ok (.getfield 42, 3) := by decide +kernel
theorem dX4_keep_13 : decode cX4_keep 13 = .ok (.ifCond .ne 6, 3) := by decide +kernel
theorem dX4_keep_16 : decode cX4_keep 16 = .ok (.bipush (-4), 2) := by decide +kernel
theorem dX4_keep_18 : decode cX4_keep 18 = .ok (.ireturn, 1) := by decide +kernel
theorem dX4_keep_19 : decode cX4_keep 19 = .ok (.aload_n 0, 1) := by decide +kernel
theorem dX4_keep_20 : decode cX4_keep 20 = .ok (.getfield 29, 3) := by decide +kernel
theorem dX4_keep_23 : decode cX4_keep 23 = .ok (.iload_n 1, 1) := by decide +kernel
theorem dX4_keep_24 : decode cX4_keep 24 = .ok (.aaload, 1) := by decide +kernel
theorem dX4_keep_25 : decode cX4_keep 25 = .ok (.aload_n 0, 1) := by decide +kernel
theorem dX4_keep_26 : decode cX4_keep 26 = .ok (.getfield 23, 3) := by decide +kernel
theorem dX4_keep_29 : decode cX4_keep 29 = .ok (.aload_n 0, 1) := by decide +kernel
theorem dX4_keep_30 : decode cX4_keep 30 = .ok (.getfield 46, 3) := by decide +kernel
theorem dX4_keep_33 : decode cX4_keep 33 = .ok (.invokevirtual 159, 3) := by decide +kernel
theorem dX4_keep_36 : decode cX4_keep 36 = .ok (.aload_n 0, 1) := by decide +kernel
theorem dX4_keep_37 : decode cX4_keep 37 = .ok (.getfield 46, 3) := by decide +kernel
theorem dX4_keep_40 : decode cX4_keep 40 = .ok (.ireturn, 1) := by decide +kernel
theorem dX4_on_0 : decode cX4_on 0 = .ok (.iload_n 1, 1) := by decide +kernel
theorem dX4_on_1 : decode cX4_on 1 = .ok (.invokestatic 156, 3) := by decide +kernel
theorem dX4_on_4 : decode cX4_on 4 = .ok (.ifCond .ne 5, 3) := by decide +kernel
theorem dX4_on_7 : decode cX4_on 7 = .ok (.iconst (-1), 1) := by decide +kernel
theorem dX4_on_8 : decode cX4_on 8 = .ok (.ireturn, 1) := by decide +kernel
theorem dX4_on_9 : decode cX4_on 9 = .ok (.aload_n 0, 1) := by decide +kernel
theorem dX4_on_10 : decode cX4_on 10 = .ok (.getfield 29, 3) := by decide +kernel
theorem dX4_on_13 : decode cX4_on 13 = .ok (.iload_n 1, 1) := by decide +kernel
theorem dX4_on_14 : decode cX4_on 14 = .ok (.aaload, 1) := by decide +kernel
theorem dX4_on_15 : decode cX4_on 15 = .ok (.getfield 124, 3) := by decide +kernel
theorem dX4_on_18 : decode cX4_on 18 = .ok (.ifCond .ne 9, 3) := by decide +kernel
theorem dX4_on_21 : decode cX4_on 21 = .ok (.aload_n 0, 1) := by decide +kernel
theorem dX4_on_22 : decode cX4_on 22 = .ok (.iconst 1, 1) := by decide +kernel
theorem dX4_on_23 : decode cX4_on 23 = .ok (.invokevirtual 69, 3) := by decide +kernel
theorem dX4_on_26 : decode cX4_on 26 = .ok (.ireturn, 1) := by decide +kernel
theorem dX4_on_27 : decode cX4_on 27 = .ok (.aload_n 0, 1) := by decide +kernel
theorem dX4_on_28 : decode cX4_on 28 = .ok (.getfield 29, 3) := by decide +kernel
theorem dX4_on_31 : decode cX4_on 31 = .ok (.iload_n 1, 1) := by decide +kernel
theorem dX4_on_32 : decode cX4_on 32 = .ok (.aaload, 1) := by decide +kernel
theorem dX4_on_33 : decode cX4_on 33 = .ok (.aload_n 0, 1) := by decide +kernel
theorem dX4_on_34 : decode cX4_on 34 = .ok (.getfield 23, 3) := by decide +kernel
theorem dX4_on_37 : decode cX4_on 37 = .ok (.invokevirtual 163, 3) := by decide +kernel
theorem dX4_on_40 : decode cX4_on 40 = .ok (.aload_n 0, 1) := by decide +kernel
theorem dX4_on_41 : decode cX4_on 41 = .ok (.aload_n 0, 1) := by decide +kernel
theorem dX4_on_42 : decode cX4_on 42 = .ok (.getfield 29, 3) := by decide +kernel
theorem dX4_on_45 : decode cX4_on 45 = .ok (.iload_n 1, 1) := by decide +kernel
theorem dX4_on_46 : decode cX4_on 46 = .ok (.aaload, 1) := by decide +kernel
theorem dX4_on_47 : decode cX4_on 47 = .ok (.getfield 167, 3) := by decide +kernel
theorem dX4_on_50 : decode cX4_on 50 = .ok (.putfield 46, 3) := by decide +kernel
theorem dX4_on_53 : decode cX4_on 53 = .ok (.aload_n 0, 1) := by decide +kernel
theorem dX4_on_54 : decode cX4_on 54 = .ok (.getfield 46, 3) := by decide +kernel
theorem dX4_on_57 : decode cX4_on 57 = .ok (.ireturn, 1) := by decide +kernel
theorem dX4_date_0 : decode cX4_date 0 = .ok (.aload_n 0, 1) := by decide +kernel
theorem dX4_date_1 : decode cX4_date 1 = .ok (.iload_n 1, 1) := by decide +kernel
theorem dX4_date_2 : decode cX4_date 2 = .ok (.invokevirtual 128, 3) := by decide +kernel
theorem dX4_date_5 : decode cX4_date 5 = .ok (.ifCond .eq 23, 3) := by decide +kernel
theorem dX4_date_8 : decode cX4_date 8 = .ok (.iload_n 2, 1) := by decide +kernel
theorem dX4_date_9 : decode cX4_date 9 = .ok (.invokestatic 168, 3) := by decide +kernel
theorem dX4_date_12 : decode cX4_date 12 = .ok (.ifCond .eq 16, 3) := by decide +kernel
theorem dX4_date_15 : decode cX4_date 15 = .ok (.aload_n 0, 1) := by decide +kernel
theorem dX4_date_16 : decode cX4_date 16 = .ok (.getfield 23, 3) := by decide +kernel
theorem dX4_date_19 : decode cX4_date 19 = .ok (.iload_n 1, 1) := by decide +kernel
theorem dX4_date_20 : decode cX4_date 20 = .ok (.aaload, 1) := by decide +kernel
theorem dX4_date_21 : decode cX4_date 21 = .ok (.iload_n 2, 1) := by decide +kernel
theorem dX4_date_22 : decode cX4_date 22 = .ok (.invokevirtual 171, 3) := by decide +kernel
theorem dX4_date_25 : decode cX4_date 25 = .ok (.goto 4, 3) := by decide +kernel
theorem dX4_date_28 : decode cX4_date 28 = .ok (.iconst (-1), 1) := by decide +kernel
theorem dX4_date_29 : decode cX4_date 29 = .ok (.ireturn, 1) := by decide +kernel
theorem dX4_day_0 : decode cX4_day 0 = .ok (.aload_n 0, 1) := by decide +kernel
theorem dX4_day_1 : decode cX4_day 1 = .ok (.iload_n 1, 1) := by decide +kernel
theorem dX4_day_2 : decode cX4_day 2 = .ok (.invokevirtual 128, 3) := by decide +kernel
theorem dX4_day_5 : decode cX4_day 5 = .ok (.ifCond .eq 7, 3) := by decide +kernel
theorem dX4_day_8 : decode cX4_day 8 = .ok (.iload_n 2, 1) := by decide +kernel
theorem dX4_day_9 : decode cX4_day 9 = .ok (.ifCond .ge 5, 3) := by decide +kernel
theorem dX4_day_12 : decode cX4_day 12 = .ok (.iconst (-1), 1) := by decide +kernel
theorem dX4_day_13 : decode cX4_day 13 = .ok (.ireturn, 1) := by decide +kernel
theorem dX4_day_14 : decode cX4_day 14 = .ok (.aload_n 0, 1) := by decide +kernel
theorem dX4_day_15 : decode cX4_day 15 = .ok (.getfield 23, 3) := by decide +kernel
theorem dX4_day_18 : decode cX4_day 18 = .ok (.iload_n 1, 1) := by decide +kernel
theorem dX4_day_19 : decode cX4_day 19 = .ok (.aaload, 1) := by decide +kernel
theorem dX4_day_20 : decode cX4_day 20 = .ok (.iload_n 2, 1) := by decide +kernel
theorem dX4_day_21 : decode cX4_day 21 = .ok (.invokevirtual 174, 3) := by decide +kernel
theorem dX4_day_24 : decode cX4_day 24 = .ok (.istore_n 3, 1) := by decide +kernel
theorem dX4_day_25 : decode cX4_day 25 = .ok (.iload_n 3, 1) := by decide +kernel
theorem dX4_day_26 : decode cX4_day 26 = .ok (.iconst (-1), 1) := by decide +kernel
theorem dX4_day_27 : decode cX4_day 27 = .ok (.if_icmp .ne 11, 3) := by decide +kernel
theorem dX4_day_30 : decode cX4_day 30 = .ok (.aload_n 0, 1) := by decide +kernel
theorem dX4_day_31 : decode cX4_day 31 = .ok (.iconst 4, 1) := by decide +kernel
theorem dX4_day_32 : decode cX4_day 32 = .ok (.invokevirtual 69, 3) := by decide +kernel
theorem dX4_day_35 : decode cX4_day 35 = .ok (.goto 4, 3) := by decide +kernel
theorem dX4_day_38 : decode cX4_day 38 = .ok (.iload_n 3, 1) := by decide +kernel
theorem dX4_day_39 : decode cX4_day 39 = .ok (.ireturn, 1) := by decide +kernel
theorem dX4_year_0 : decode cX4_year 0 = .ok (.aload_n 0, 1) := by decide +kernel
theorem dX4_year_1 : decode cX4_year 1 = .ok (.iload_n 1, 1) := by decide +kernel
theorem dX4_year_2 : decode cX4_year 2 = .ok (.invokevirtual 128, 3) := by decide +kernel
theorem dX4_year_5 : decode cX4_year 5 = .ok (.ifCond .eq 14, 3) := by decide +kernel
theorem dX4_year_8 : decode cX4_year 8 = .ok (.iload_n 2, 1) := by decide +kernel
theorem dX4_year_9 : decode cX4_year 9 = .ok (.iconst 0, 1) := by decide +kernel
theorem dX4_year_10 : decode cX4_year 10 = .ok (.sipush 250, 3) := by decide +kernel
theorem dX4_year_13 : decode cX4_year 13 = .ok (.invokestatic 140, 3) := by decide +kernel
theorem dX4_year_16 : decode cX4_year 16 = .ok (.ifCond .ne 5, 3) := by decide +kernel
theorem dX4_year_19 : decode cX4_year 19 = .ok (.iconst (-1), 1) := by decide +kernel
theorem dX4_year_20 : decode cX4_year 20 = .ok (.ireturn, 1) := by decide +kernel
theorem dX4_year_21 : decode cX4_year 21 = .ok (.aload_n 0, 1) := by decide +kernel
theorem dX4_year_22 : decode cX4_year 22 = .ok (.getfield 23, 3) := by decide +kernel
theorem dX4_year_25 : decode cX4_year 25 = .ok (.iload_n 1, 1) := by decide +kernel
theorem dX4_year_26 : decode cX4_year 26 = .ok (.aaload, 1) := by decide +kernel
theorem dX4_year_27 : decode cX4_year 27 = .ok (.iload_n 2, 1) := by decide +kernel
theorem dX4_year_28 : decode cX4_year 28 = .ok (.invokevirtual 177, 3) := by decide +kernel
theorem dX4_year_31 : decode cX4_year 31 = .ok (.istore_n 3, 1) := by decide +kernel
theorem dX4_year_32 : decode cX4_year 32 = .ok (.iconst 0, 1) := by decide +kernel
theorem dX4_year_33 : decode cX4_year 33 = .ok (.istore 4, 2) := by decide +kernel
theorem dX4_year_35 : decode cX4_year 35 = .ok (.iconst 0, 1) := by decide +kernel
theorem dX4_year_36 : decode cX4_year 36 = .ok (.istore 5, 2) := by decide +kernel
theorem dX4_year_38 : decode cX4_year 38 = .ok (.iload 5, 2) := by decide +kernel
theorem dX4_year_40 : decode cX4_year 40 = .ok (.iload_n 3, 1) := by decide +kernel
theorem dX4_year_41 : decode cX4_year 41 = .ok (.if_icmp .ge 33, 3) := by decide +kernel
theorem dX4_year_44 : decode cX4_year 44 = .ok (.aload_n 0, 1) := by decide +kernel
theorem dX4_year_45 : decode cX4_year 45 = .ok (.getfield 23, 3) := by decide +kernel
theorem dX4_year_48 : decode cX4_year 48 = .ok (.iload_n 1, 1) := by decide +kernel
theorem dX4_year_49 : decode cX4_year 49 = .ok (.aaload, 1) := by decide +kernel
theorem dX4_year_50 : decode cX4_year 50 = .ok (.sipush 1000, 3) := by decide +kernel
theorem dX4_year_53 : decode cX4_year 53 = .ok (.iload_n 2, 1) := by decide +kernel
theorem dX4_year_54 : decode cX4_year 54 = .ok (.imul, 1) := by decide +kernel
theorem dX4_year_55 : decode cX4_year 55 = .ok (.iload 5, 2) := by decide +kernel
theorem dX4_year_57 : decode cX4_year 57 = .ok (.iadd, 1) := by decide +kernel
theorem dX4_year_58 : decode cX4_year 58 = .ok (.invokevirtual 174, 3) := by decide +kernel
theorem dX4_year_61 : decode cX4_year 61 = .ok (.iconst (-1), 1) := by decide +kernel
theorem dX4_year_62 : decode cX4_year 62 = .ok (.if_icmp .eq 6, 3) := by decide +kernel
theorem dX4_year_65 : decode cX4_year 65 = .ok (.iinc 4 1, 3) := by decide +kernel
theorem dX4_year_68 : decode cX4_year 68 = .ok (.iinc 5 1, 3) := by decide +kernel
theorem dX4_year_71 : decode cX4_year 71 = .ok (.goto (-33), 3) := by decide +kernel
theorem dX4_year_74 : decode cX4_year 74 = .ok (.aload_n 0, 1) := by decide +kernel
theorem dX4_year_75 : decode cX4_year 75 = .ok (.iload 4, 2) := by decide +kernel
theorem dX4_year_77 : decode cX4_year 77 = .ok (.putfield 49, 3) := by decide +kernel
theorem dX4_year_80 : decode cX4_year 80 = .ok (.iload_n 3, 1) := by decide +kernel
theorem dX4_year_81 : decode cX4_year 81 = .ok (.ireturn, 1) := by decide +kernel
theorem dX4_same_0 : decode cX4_same 0 = .ok (.aload_n 0, 1) := by decide +kernel
theorem dX4_same_1 : decode cX4_same 1 = .ok (.iload_n 1, 1) := by decide +kernel
theorem dX4_same_2 : decode cX4_same 2 = .ok (.invokevirtual 128, 3) := by decide +kernel
theorem dX4_same_5 : decode cX4_same 5 = .ok (.ifCond .eq 15, 3) := by decide +kernel
theorem dX4_same_8 : decode cX4_same 8 = .ok (.aload_n 0, 1) := by decide +kernel
theorem dX4_same_9 : decode cX4_same 9 = .ok (.iload_n 3, 1) := by decide +kernel
theorem dX4_same_10 : decode cX4_same 10 = .ok (.invokevirtual 128, 3) := by decide +kernel
theorem dX4_same_13 : decode cX4_same 13 = .ok (.ifCond .eq 7, 3) := by decide +kernel
theorem dX4_same_16 : decode cX4_same 16 = .ok (.iload_n 2, 1) := by decide +kernel
theorem dX4_same_17 : decode cX4_same 17 = .ok (.ifCond .ge 5, 3) := by decide +kernel
theorem dX4_same_20 : decode cX4_same 20 = .ok (.iconst (-1), 1) := by decide +kernel
theorem dX4_same_21 : decode cX4_same 21 = .ok (.ireturn, 1) := by decide +kernel
theorem dX4_same_22 : decode cX4_same 22 = .ok (.aload_n 0, 1) := by decide +kernel
theorem dX4_same_23 : decode cX4_same 23 = .ok (.getfield 23, 3) := by decide +kernel
theorem dX4_same_26 : decode cX4_same 26 = .ok (.iload_n 1, 1) := by decide +kernel
theorem dX4_same_27 : decode cX4_same 27 = .ok (.aaload, 1) := by decide +kernel
theorem dX4_same_28 : decode cX4_same 28 = .ok (.iload_n 2, 1) := by decide +kernel
theorem dX4_same_29 : decode cX4_same 29 = .ok (.invokevirtual 174, 3) := by decide +kernel
theorem dX4_same_32 : decode cX4_same 32 = .ok (.istore 4, 2) := by decide +kernel
theorem dX4_same_34 : decode cX4_same 34 = .ok (.iload 4, 2) := by decide +kernel
theorem dX4_same_36 : decode cX4_same 36 = .ok (.iconst (-1), 1) := by decide +kernel
theorem dX4_same_37 : decode cX4_same 37 = .ok (.if_icmp .ne 11, 3) := by decide +kernel
theorem dX4_same_40 : decode cX4_same 40 = .ok (.aload_n 0, 1) := by decide +kernel
theorem dX4_same_41 : decode cX4_same 41 = .ok (.iconst 4, 1) := by decide +kernel
theorem dX4_same_42 : decode cX4_same 42 = .ok (.invokevirtual 69, 3) := by decide +kernel
theorem dX4_same_45 : decode cX4_same 45 = .ok (.goto 14, 3) := by decide +kernel
theorem dX4_same_48 : decode cX4_same 48 = .ok (.aload_n 0, 1) := by decide +kernel
theorem dX4_same_49 : decode cX4_same 49 = .ok (.getfield 23, 3) := by decide +kernel
theorem dX4_same_52 : decode cX4_same 52 = .ok (.iload_n 3, 1) := by decide +kernel
theorem dX4_same_53 : decode cX4_same 53 = .ok (.aaload, 1) := by decide +kernel
theorem dX4_same_54 : decode cX4_same 54 = .ok (.iload 4, 2) := by decide +kernel
theorem dX4_same_56 : decode cX4_same 56 = .ok (.invokevirtual 171, 3) := by decide +kernel
theorem dX4_same_59 : decode cX4_same 59 = .ok (.ireturn, 1) := by decide +kernel
theorem dX4_between_0 : decode cX4_between 0 = .ok (.aload_n 0, 1) := by decide +kernel
theorem dX4_between_1 : decode cX4_between 1 = .ok (.iload_n 1, 1) := by decide +kernel
theorem dX4_between_2 : decode cX4_between 2 = .ok (.invokevirtual 128, 3) := by decide +kernel
theorem dX4_between_5 : decode cX4_between 5 = .ok (.ifCond .eq 11, 3) := by decide +kernel
theorem dX4_between_8 : decode cX4_between 8 = .ok (.iload_n 2, 1) := by decide +kernel
theorem dX4_between_9 : decode cX4_between 9 = .ok (.ifCond .lt 7, 3) := by decide +kernel
theorem dX4_between_12 : decode cX4_between 12 = .ok (.iload_n 3, 1) := by decide +kernel
theorem dX4_between_13 : decode cX4_between 13 = .ok (.ifCond .ge 5, 3) := by decide +kernel
theorem dX4_between_16 : decode cX4_between 16 = .ok (.iconst (-1), 1) := by decide +kernel
theorem dX4_between_17 : decode cX4_between 17 = .ok (.ireturn, 1) := by decide +kernel
theorem dX4_between_18 : decode cX4_between 18 = .ok (.aload_n 0, 1) := by decide +kernel
theorem dX4_between_19 : decode cX4_between 19 = .ok (.getfield 23, 3) := by decide +kernel
theorem dX4_between_22 : decode cX4_between 22 = .ok (.iload_n 1, 1) := by decide +kernel
theorem dX4_between_23 : decode cX4_between 23 = .ok (.aaload, 1) := by decide +kernel
theorem dX4_between_24 : decode cX4_between 24 = .ok (.iload_n 2, 1) := by decide +kernel
theorem dX4_between_25 : decode cX4_between 25 = .ok (.invokevirtual 174, 3) := by decide +kernel
theorem dX4_between_28 : decode cX4_between 28 = .ok (.istore 4, 2) := by decide +kernel
theorem dX4_between_30 : decode cX4_between 30 = .ok (.aload_n 0, 1) := by decide +kernel
theorem dX4_between_31 : decode cX4_between 31 = .ok (.getfield 23, 3) := by decide +kernel
theorem dX4_between_34 : decode cX4_between 34 = .ok (.iload_n 1, 1) := by decide +kernel
theorem dX4_between_35 : decode cX4_between 35 = .ok (.aaload, 1) := by decide +kernel
theorem dX4_between_36 : decode cX4_between 36 = .ok (.iload_n 3, 1) := by decide +kernel
theorem dX4_between_37 : decode cX4_between 37 = .ok (.invokevirtual 174, 3) := by decide +kernel
theorem dX4_between_40 : decode cX4_between 40 = .ok (.istore 5, 2) := by decide +kernel
theorem dX4_between_42 : decode cX4_between 42 = .ok (.iload 4, 2) := by decide +kernel
theorem dX4_between_44 : decode cX4_between 44 = .ok (.iconst (-1), 1) := by decide +kernel
theorem dX4_between_45 : decode cX4_between 45 = .ok (.if_icmp .eq 9, 3) := by decide +kernel
theorem dX4_between_48 : decode cX4_between 48 = .ok (.iload 5, 2) := by decide +kernel
theorem dX4_between_50 : decode cX4_between 50 = .ok (.iconst (-1), 1) := by decide +kernel
theorem dX4_between_51 : decode cX4_between 51 = .ok (.if_icmp .ne 9, 3) := by decide +kernel
theorem dX4_between_54 : decode cX4_between 54 = .ok (.aload_n 0, 1) := by decide +kernel
theorem dX4_between_55 : decode cX4_between 55 = .ok (.iconst 4, 1) := by decide +kernel
theorem dX4_between_56 : decode cX4_between 56 = .ok (.invokevirtual 69, 3) := by decide +kernel
theorem dX4_between_59 : decode cX4_between 59 = .ok (.ireturn, 1) := by decide +kernel
theorem dX4_between_60 : decode cX4_between 60 = .ok (.aload_n 0, 1) := by decide +kernel
theorem dX4_between_61 : decode cX4_between 61 = .ok (.iload 5, 2) := by decide +kernel
theorem dX4_between_63 : decode cX4_between 63 = .ok (.iload 4, 2) := by decide +kernel
theorem dX4_between_65 : decode cX4_between 65 = .ok (.isub, 1) := by decide +kernel
theorem dX4_between_66 : decode cX4_between 66 = .ok (.putfield 49, 3) := by decide +kernel
theorem dX4_between_69 : decode cX4_between 69 = .ok (.iconst 1, 1) := by decide +kernel
theorem dX4_between_70 : decode cX4_between 70 = .ok (.ireturn, 1) := by decide +kernel
theorem dX4_where_0 : decode cX4_where 0 = .ok (.iload_n 1, 1) := by decide +kernel
theorem dX4_where_1 : decode cX4_where 1 = .ok (.invokestatic 168, 3) := by decide +kernel
theorem dX4_where_4 : decode cX4_where 4 = .ok (.ifCond .eq 7, 3) := by decide +kernel
theorem dX4_where_7 : decode cX4_where 7 = .ok (.iload_n 2, 1) := by decide +kernel
theorem dX4_where_8 : decode cX4_where 8 = .ok (.ifCond .ge 5, 3) := by decide +kernel
theorem dX4_where_11 : decode cX4_where 11 = .ok (.iconst (-1), 1) := by decide +kernel
theorem dX4_where_12 : decode cX4_where 12 = .ok (.ireturn, 1) := by decide +kernel
theorem dX4_where_13 : decode cX4_where 13 = .ok (.iconst 0, 1) := by decide +kernel
theorem dX4_where_14 : decode cX4_where 14 = .ok (.istore_n 3, 1) := by decide +kernel
theorem dX4_where_15 : decode cX4_where 15 = .ok (.iconst 0, 1) := by decide +kernel
theorem dX4_where_16 : decode cX4_where 16 = .ok (.istore 4, 2) := by decide +kernel
theorem dX4_where_18 : decode cX4_where 18 = .ok (.iload 4, 2) := by decide +kernel
theorem dX4_where_20 : decode cX4_where 20 = .ok (.aload_n 0, 1) := by decide +kernel
theorem dX4_where_21 : decode cX4_where 21 = .ok (.getfield 42, 3) := by decide +kernel
theorem dX4_where_24 : decode cX4_where 24 = .ok (.if_icmp .ge 31, 3) := by decide +kernel
theorem dX4_where_27 : decode cX4_where 27 = .ok (.aload_n 0, 1) := by decide +kernel
theorem dX4_where_28 : decode cX4_where 28 = .ok (.getfield 23, 3) := by decide +kernel
theorem dX4_where_31 : decode cX4_where 31 = .ok (.iload 4, 2) := by decide +kernel
theorem dX4_where_33 : decode cX4_where 33 = .ok (.aaload, 1) := by decide +kernel
theorem dX4_where_34 : decode cX4_where 34 = .ok (.iload_n 1, 1) := by decide +kernel
theorem dX4_where_35 : decode cX4_where 35 = .ok (.invokevirtual 171, 3) := by decide +kernel
theorem dX4_where_38 : decode cX4_where 38 = .ok (.iload_n 2, 1) := by decide +kernel
theorem dX4_where_39 : decode cX4_where 39 = .ok (.if_icmp .ne 10, 3) := by decide +kernel
theorem dX4_where_42 : decode cX4_where 42 = .ok (.iload_n 3, 1) := by decide +kernel
theorem dX4_where_43 : decode cX4_where 43 = .ok (.iconst 1, 1) := by decide +kernel
theorem dX4_where_44 : decode cX4_where 44 = .ok (.iload 4, 2) := by decide +kernel
theorem dX4_where_46 : decode cX4_where 46 = .ok (.ishl, 1) := by decide +kernel
theorem dX4_where_47 : decode cX4_where 47 = .ok (.ior, 1) := by decide +kernel
theorem dX4_where_48 : decode cX4_where 48 = .ok (.istore_n 3, 1) := by decide +kernel
theorem dX4_where_49 : decode cX4_where 49 = .ok (.iinc 4 1, 3) := by decide +kernel
theorem dX4_where_52 : decode cX4_where 52 = .ok (.goto (-34), 3) := by decide +kernel
theorem dX4_where_55 : decode cX4_where 55 = .ok (.aload_n 0, 1) := by decide +kernel
theorem dX4_where_56 : decode cX4_where 56 = .ok (.iload_n 3, 1) := by decide +kernel
theorem dX4_where_57 : decode cX4_where 57 = .ok (.putfield 49, 3) := by decide +kernel
theorem dX4_where_60 : decode cX4_where 60 = .ok (.iload_n 3, 1) := by decide +kernel
theorem dX4_where_61 : decode cX4_where 61 = .ok (.invokestatic 180, 3) := by decide +kernel
theorem dX4_where_64 : decode cX4_where 64 = .ok (.ireturn, 1) := by decide +kernel
theorem dX4_left_0 : decode cX4_left 0 = .ok (.aload_n 0, 1) := by decide +kernel
theorem dX4_left_1 : decode cX4_left 1 = .ok (.iload_n 1, 1) := by decide +kernel
theorem dX4_left_2 : decode cX4_left 2 = .ok (.invokevirtual 128, 3) := by decide +kernel
theorem dX4_left_5 : decode cX4_left 5 = .ok (.ifCond .eq 10, 3) := by decide +kernel
theorem dX4_left_8 : decode cX4_left 8 = .ok (.iload_n 2, 1) := by decide +kernel
theorem dX4_left_9 : decode cX4_left 9 = .ok (.invokestatic 65, 3) := by decide +kernel
theorem dX4_left_12 : decode cX4_left 12 = .ok (.ifCond .ne 5, 3) := by decide +kernel
theorem dX4_left_15 : decode cX4_left 15 = .ok (.iconst (-1), 1) := by decide +kernel
theorem dX4_left_16 : decode cX4_left 16 = .ok (.ireturn, 1) := by decide +kernel
theorem dX4_left_17 : decode cX4_left 17 = .ok (.aload_n 0, 1) := by decide +kernel
theorem dX4_left_18 : decode cX4_left 18 = .ok (.getfield 23, 3) := by decide +kernel
theorem dX4_left_21 : decode cX4_left 21 = .ok (.iload_n 1, 1) := by decide +kernel
theorem dX4_left_22 : decode cX4_left 22 = .ok (.aaload, 1) := by decide +kernel
theorem dX4_left_23 : decode cX4_left 23 = .ok (.astore_n 3, 1) := by decide +kernel
theorem dX4_left_24 : decode cX4_left 24 = .ok (.aload_n 0, 1) := by decide +kernel
theorem dX4_left_25 : decode cX4_left 25 = .ok (.getfield 11, 3) := by decide +kernel
theorem dX4_left_28 : decode cX4_left 28 = .ok (.iload_n 2, 1) := by decide +kernel
theorem dX4_left_29 : decode cX4_left 29 = .ok (.aaload, 1) := by decide +kernel
theorem dX4_left_30 : decode cX4_left 30 = .ok (.iconst 0, 1) := by decide +kernel
theorem dX4_left_31 : decode cX4_left 31 = .ok (.invokevirtual 73, 3) := by decide +kernel
theorem dX4_left_34 : decode cX4_left 34 = .ok (.iconst 1, 1) := by decide +kernel
theorem dX4_left_35 : decode cX4_left 35 = .ok (.istore 4, 2) := by decide +kernel
theorem dX4_left_37 : decode cX4_left 37 = .ok (.iload 4, 2) := by decide +kernel
theorem dX4_left_39 : decode cX4_left 39 = .ok (.aload_n 3, 1) := by decide +kernel
theorem dX4_left_40 : decode cX4_left 40 = .ok (.invokevirtual 185, 3) := by decide +kernel
theorem dX4_left_43 : decode cX4_left 43 = .ok (.if_icmp .gt 53, 3) := by decide +kernel
theorem dX4_left_46 : decode cX4_left 46 = .ok (.aload_n 3, 1) := by decide +kernel
theorem dX4_left_47 : decode cX4_left 47 = .ok (.iload 4, 2) := by decide +kernel
theorem dX4_left_49 : decode cX4_left 49 = .ok (.invokevirtual 188, 3) := by decide +kernel
theorem dX4_left_52 : decode cX4_left 52 = .ok (.istore 5, 2) := by decide +kernel
theorem dX4_left_54 : decode cX4_left 54 = .ok (.iconst 0, 1) := by decide +kernel
theorem dX4_left_55 : decode cX4_left 55 = .ok (.istore 6, 2) := by decide +kernel
theorem dX4_left_57 : decode cX4_left 57 = .ok (.iload 6, 2) := by decide +kernel
theorem dX4_left_59 : decode cX4_left 59 = .ok (.aload_n 3, 1) := by decide +kernel
theorem dX4_left_60 : decode cX4_left 60 = .ok (.getfield 147, 3) := by decide +kernel
theorem dX4_left_63 : decode cX4_left 63 = .ok (.if_icmp .ge 27, 3) := by decide +kernel
theorem dX4_left_66 : decode cX4_left 66 = .ok (.aload_n 0, 1) := by decide +kernel
theorem dX4_left_67 : decode cX4_left 67 = .ok (.getfield 11, 3) := by decide +kernel
theorem dX4_left_70 : decode cX4_left 70 = .ok (.iload_n 2, 1) := by decide +kernel
theorem dX4_left_71 : decode cX4_left 71 = .ok (.aaload, 1) := by decide +kernel
theorem dX4_left_72 : decode cX4_left 72 = .ok (.aload_n 3, 1) := by decide +kernel
theorem dX4_left_73 : decode cX4_left 73 = .ok (.iload 5, 2) := by decide +kernel
theorem dX4_left_75 : decode cX4_left 75 = .ok (.iload 6, 2) := by decide +kernel
theorem dX4_left_77 : decode cX4_left 77 = .ok (.iadd, 1) := by decide +kernel
theorem dX4_left_78 : decode cX4_left 78 = .ok (.invokevirtual 191, 3) := by decide +kernel
theorem dX4_left_81 : decode cX4_left 81 = .ok (.invokevirtual 194, 3) := by decide +kernel
theorem dX4_left_84 : decode cX4_left 84 = .ok (.iinc 6 1, 3) := by decide +kernel
theorem dX4_left_87 : decode cX4_left 87 = .ok (.goto (-30), 3) := by decide +kernel
theorem dX4_left_90 : decode cX4_left 90 = .ok (.iinc 4 1, 3) := by decide +kernel
theorem dX4_left_93 : decode cX4_left 93 = .ok (.goto (-56), 3) := by decide +kernel
theorem dX4_left_96 : decode cX4_left 96 = .ok (.aload_n 0, 1) := by decide +kernel
theorem dX4_left_97 : decode cX4_left 97 = .ok (.getfield 11, 3) := by decide +kernel
theorem dX4_left_100 : decode cX4_left 100 = .ok (.iload_n 2, 1) := by decide +kernel
theorem dX4_left_101 : decode cX4_left 101 = .ok (.aaload, 1) := by decide +kernel
theorem dX4_left_102 : decode cX4_left 102 = .ok (.getfield 87, 3) := by decide +kernel
theorem dX4_left_105 : decode cX4_left 105 = .ok (.ireturn, 1) := by decide +kernel
theorem dX4_dates_0 : decode cX4_dates 0 = .ok (.aload_n 0, 1) := by decide +kernel
theorem dX4_dates_1 : decode cX4_dates 1 = .ok (.iload_n 1, 1) := by decide +kernel
theorem dX4_dates_2 : decode cX4_dates 2 = .ok (.invokevirtual 128, 3) := by decide +kernel
theorem dX4_dates_5 : decode cX4_dates 5 = .ok (.ifCond .eq 27, 3) := by decide +kernel
theorem dX4_dates_8 : decode cX4_dates 8 = .ok (.iload_n 2, 1) := by decide +kernel
theorem dX4_dates_9 : decode cX4_dates 9 = .ok (.iload_n 3, 1) := by decide +kernel
theorem dX4_dates_10 : decode cX4_dates 10 = .ok (.invokestatic 197, 3) := by decide +kernel
theorem dX4_dates_13 : decode cX4_dates 13 = .ok (.ifCond .eq 19, 3) := by decide +kernel
theorem dX4_dates_16 : decode cX4_dates 16 = .ok (.iload_n 3, 1) := by decide +kernel
theorem dX4_dates_17 : decode cX4_dates 17 = .ok (.iload_n 2, 1) := by decide +kernel
theorem dX4_dates_18 : decode cX4_dates 18 = .ok (.isub, 1) := by decide +kernel
theorem dX4_dates_19 : decode cX4_dates 19 = .ok (.bipush 40, 2) := by decide +kernel
theorem dX4_dates_21 : decode cX4_dates 21 = .ok (.if_icmp .ge 11, 3) := by decide +kernel
theorem dX4_dates_24 : decode cX4_dates 24 = .ok (.iload 4, 2) := by decide +kernel
theorem dX4_dates_26 : decode cX4_dates 26 = .ok (.invokestatic 65, 3) := by decide +kernel
theorem dX4_dates_29 : decode cX4_dates 29 = .ok (.ifCond .ne 5, 3) := by decide +kernel
theorem dX4_dates_32 : decode cX4_dates 32 = .ok (.iconst (-1), 1) := by decide +kernel
theorem dX4_dates_33 : decode cX4_dates 33 = .ok (.ireturn, 1) := by decide +kernel
theorem dX4_dates_34 : decode cX4_dates 34 = .ok (.aload_n 0, 1) := by decide +kernel
theorem dX4_dates_35 : decode cX4_dates 35 = .ok (.getfield 11, 3) := by decide +kernel
theorem dX4_dates_38 : decode cX4_dates 38 = .ok (.iload 4, 2) := by decide +kernel
theorem dX4_dates_40 : decode cX4_dates 40 = .ok (.aaload, 1) := by decide +kernel
theorem dX4_dates_41 : decode cX4_dates 41 = .ok (.iconst 0, 1) := by decide +kernel
theorem dX4_dates_42 : decode cX4_dates 42 = .ok (.invokevirtual 73, 3) := by decide +kernel
theorem dX4_dates_45 : decode cX4_dates 45 = .ok (.iload_n 2, 1) := by decide +kernel
theorem dX4_dates_46 : decode cX4_dates 46 = .ok (.istore 5, 2) := by decide +kernel
theorem dX4_dates_48 : decode cX4_dates 48 = .ok (.iload 5, 2) := by decide +kernel
theorem dX4_dates_50 : decode cX4_dates 50 = .ok (.iload_n 3, 1) := by decide +kernel
theorem dX4_dates_51 : decode cX4_dates 51 = .ok (.if_icmp .gt 30, 3) := by decide +kernel
theorem dX4_dates_54 : decode cX4_dates 54 = .ok (.aload_n 0, 1) := by decide +kernel
theorem dX4_dates_55 : decode cX4_dates 55 = .ok (.getfield 11, 3) := by decide +kernel
theorem dX4_dates_58 : decode cX4_dates 58 = .ok (.iload 4, 2) := by decide +kernel
theorem dX4_dates_60 : decode cX4_dates 60 = .ok (.aaload, 1) := by decide +kernel
theorem dX4_dates_61 : decode cX4_dates 61 = .ok (.aload_n 0, 1) := by decide +kernel
theorem dX4_dates_62 : decode cX4_dates 62 = .ok (.getfield 23, 3) := by decide +kernel
theorem dX4_dates_65 : decode cX4_dates 65 = .ok (.iload_n 1, 1) := by decide +kernel
theorem dX4_dates_66 : decode cX4_dates 66 = .ok (.aaload, 1) := by decide +kernel
theorem dX4_dates_67 : decode cX4_dates 67 = .ok (.iload 5, 2) := by decide +kernel
theorem dX4_dates_69 : decode cX4_dates 69 = .ok (.invokevirtual 171, 3) := by decide +kernel
theorem dX4_dates_72 : decode cX4_dates 72 = .ok (.invokevirtual 194, 3) := by decide +kernel
theorem dX4_dates_75 : decode cX4_dates 75 = .ok (.iinc 5 1, 3) := by decide +kernel
theorem dX4_dates_78 : decode cX4_dates 78 = .ok (.goto (-30), 3) := by decide +kernel
theorem dX4_dates_81 : decode cX4_dates 81 = .ok (.aload_n 0, 1) := by decide +kernel
theorem dX4_dates_82 : decode cX4_dates 82 = .ok (.getfield 11, 3) := by decide +kernel
theorem dX4_dates_85 : decode cX4_dates 85 = .ok (.iload 4, 2) := by decide +kernel
theorem dX4_dates_87 : decode cX4_dates 87 = .ok (.aaload, 1) := by decide +kernel
theorem dX4_dates_88 : decode cX4_dates 88 = .ok (.getfield 87, 3) := by decide +kernel
theorem dX4_dates_91 : decode cX4_dates 91 = .ok (.ireturn, 1) := by decide +kernel
theorem dX4_age_0 : decode cX4_age 0 = .ok (.aload_n 0, 1) := by decide +kernel
theorem dX4_age_1 : decode cX4_age 1 = .ok (.iload_n 1, 1) := by decide +kernel
theorem dX4_age_2 : decode cX4_age 2 = .ok (.invokevirtual 128, 3) := by decide +kernel
theorem dX4_age_5 : decode cX4_age 5 = .ok (.ifCond .eq 7, 3) := by decide +kernel
theorem dX4_age_8 : decode cX4_age 8 = .ok (.iload_n 2, 1) := by decide +kernel
theorem dX4_age_9 : decode cX4_age 9 = .ok (.ifCond .ge 5, 3) := by decide +kernel
theorem dX4_age_12 : decode cX4_age 12 = .ok (.iconst (-1), 1) := by decide +kernel
theorem dX4_age_13 : decode cX4_age 13 = .ok (.ireturn, 1) := by decide +kernel
theorem dX4_age_14 : decode cX4_age 14 = .ok (.aload_n 0, 1) := by decide +kernel
theorem dX4_age_15 : decode cX4_age 15 = .ok (.getfield 23, 3) := by decide +kernel
theorem dX4_age_18 : decode cX4_age 18 = .ok (.iload_n 1, 1) := by decide +kernel
theorem dX4_age_19 : decode cX4_age 19 = .ok (.aaload, 1) := by decide +kernel
theorem dX4_age_20 : decode cX4_age 20 = .ok (.iload_n 2, 1) := by decide +kernel
theorem dX4_age_21 : decode cX4_age 21 = .ok (.invokevirtual 174, 3) := by decide +kernel
theorem dX4_age_24 : decode cX4_age 24 = .ok (.istore_n 3, 1) := by decide +kernel
theorem dX4_age_25 : decode cX4_age 25 = .ok (.iload_n 3, 1) := by decide +kernel
theorem dX4_age_26 : decode cX4_age 26 = .ok (.iconst (-1), 1) := by decide +kernel
end
section
theorem dX4_age_27 : decode cX4_age 27 = .ok (.if_icmp .ne 9, 3) := by decide +kernel
theorem dX4_age_30 : decode cX4_age 30 = .ok (.aload_n 0, 1) := by decide +kernel
theorem dX4_age_31 : decode cX4_age 31 = .ok (.iconst 4, 1) := by decide +kernel
theorem dX4_age_32 : decode cX4_age 32 = .ok (.invokevirtual 69, 3) := by decide +kernel
theorem dX4_age_35 : decode cX4_age 35 = .ok (.ireturn, 1) := by decide +kernel
theorem dX4_age_36 : decode cX4_age 36 = .ok (.iload_n 3, 1) := by decide +kernel
theorem dX4_age_37 : decode cX4_age 37 = .ok (.aload_n 0, 1) := by decide +kernel
theorem dX4_age_38 : decode cX4_age 38 = .ok (.getfield 46, 3) := by decide +kernel
theorem dX4_age_41 : decode cX4_age 41 = .ok (.if_icmp .le 8, 3) := by decide +kernel
theorem dX4_age_44 : decode cX4_age 44 = .ok (.bipush (-4), 2) := by decide +kernel
theorem dX4_age_46 : decode cX4_age 46 = .ok (.goto 17, 3) := by decide +kernel
theorem dX4_age_49 : decode cX4_age 49 = .ok (.aload_n 0, 1) := by decide +kernel
theorem dX4_age_50 : decode cX4_age 50 = .ok (.getfield 23, 3) := by decide +kernel
theorem dX4_age_53 : decode cX4_age 53 = .ok (.iload_n 1, 1) := by decide +kernel
theorem dX4_age_54 : decode cX4_age 54 = .ok (.aaload, 1) := by decide +kernel
theorem dX4_age_55 : decode cX4_age 55 = .ok (.iload_n 2, 1) := by decide +kernel
theorem dX4_age_56 : decode cX4_age 56 = .ok (.aload_n 0, 1) := by decide +kernel
theorem dX4_age_57 : decode cX4_age 57 = .ok (.getfield 46, 3) := by decide +kernel
theorem dX4_age_60 : decode cX4_age 60 = .ok (.invokevirtual 200, 3) := by decide +kernel
theorem dX4_age_63 : decode cX4_age 63 = .ok (.ireturn, 1) := by decide +kernel
theorem dX4_eldest_0 : decode cX4_eldest 0 = .ok (.iload_n 1, 1) := by decide +kernel
theorem dX4_eldest_1 : decode cX4_eldest 1 = .ok (.iconst 0, 1) := by decide +kernel
theorem dX4_eldest_2 : decode cX4_eldest 2 = .ok (.aload_n 0, 1) := by decide +kernel
theorem dX4_eldest_3 : decode cX4_eldest 3 = .ok (.getfield 46, 3) := by decide +kernel
theorem dX4_eldest_6 : decode cX4_eldest 6 = .ok (.invokestatic 140, 3) := by decide +kernel
theorem dX4_eldest_9 : decode cX4_eldest 9 = .ok (.ifCond .ne 5, 3) := by decide +kernel
theorem dX4_eldest_12 : decode cX4_eldest 12 = .ok (.iconst (-1), 1) := by decide +kernel
theorem dX4_eldest_13 : decode cX4_eldest 13 = .ok (.ireturn, 1) := by decide +kernel
theorem dX4_eldest_14 : decode cX4_eldest 14 = .ok (.bipush (-9), 2) := by decide +kernel
theorem dX4_eldest_16 : decode cX4_eldest 16 = .ok (.istore_n 2, 1) := by decide +kernel
theorem dX4_eldest_17 : decode cX4_eldest 17 = .ok (.iconst (-1), 1) := by decide +kernel
theorem dX4_eldest_18 : decode cX4_eldest 18 = .ok (.istore_n 3, 1) := by decide +kernel
theorem dX4_eldest_19 : decode cX4_eldest 19 = .ok (.iconst 0, 1) := by decide +kernel
theorem dX4_eldest_20 : decode cX4_eldest 20 = .ok (.istore 4, 2) := by decide +kernel
theorem dX4_eldest_22 : decode cX4_eldest 22 = .ok (.iload 4, 2) := by decide +kernel
theorem dX4_eldest_24 : decode cX4_eldest 24 = .ok (.aload_n 0, 1) := by decide +kernel
theorem dX4_eldest_25 : decode cX4_eldest 25 = .ok (.getfield 42, 3) := by decide +kernel
theorem dX4_eldest_28 : decode cX4_eldest 28 = .ok (.if_icmp .ge 48, 3) := by decide +kernel
theorem dX4_eldest_31 : decode cX4_eldest 31 = .ok (.aload_n 0, 1) := by decide +kernel
theorem dX4_eldest_32 : decode cX4_eldest 32 = .ok (.getfield 23, 3) := by decide +kernel
theorem dX4_eldest_35 : decode cX4_eldest 35 = .ok (.iload 4, 2) := by decide +kernel
theorem dX4_eldest_37 : decode cX4_eldest 37 = .ok (.aaload, 1) := by decide +kernel
theorem dX4_eldest_38 : decode cX4_eldest 38 = .ok (.aload_n 0, 1) := by decide +kernel
theorem dX4_eldest_39 : decode cX4_eldest 39 = .ok (.getfield 23, 3) := by decide +kernel
theorem dX4_eldest_42 : decode cX4_eldest 42 = .ok (.iload 4, 2) := by decide +kernel
theorem dX4_eldest_44 : decode cX4_eldest 44 = .ok (.aaload, 1) := by decide +kernel
theorem dX4_eldest_45 : decode cX4_eldest 45 = .ok (.iload_n 1, 1) := by decide +kernel
theorem dX4_eldest_46 : decode cX4_eldest 46 = .ok (.invokevirtual 171, 3) := by decide +kernel
theorem dX4_eldest_49 : decode cX4_eldest 49 = .ok (.aload_n 0, 1) := by decide +kernel
theorem dX4_eldest_50 : decode cX4_eldest 50 = .ok (.getfield 46, 3) := by decide +kernel
theorem dX4_eldest_53 : decode cX4_eldest 53 = .ok (.invokevirtual 200, 3) := by decide +kernel
theorem dX4_eldest_56 : decode cX4_eldest 56 = .ok (.istore 5, 2) := by decide +kernel
theorem dX4_eldest_58 : decode cX4_eldest 58 = .ok (.iload 5, 2) := by decide +kernel
theorem dX4_eldest_60 : decode cX4_eldest 60 = .ok (.iload_n 3, 1) := by decide +kernel
theorem dX4_eldest_61 : decode cX4_eldest 61 = .ok (.if_icmp .le 9, 3) := by decide +kernel
theorem dX4_eldest_64 : decode cX4_eldest 64 = .ok (.iload 5, 2) := by decide +kernel
theorem dX4_eldest_66 : decode cX4_eldest 66 = .ok (.istore_n 3, 1) := by decide +kernel
theorem dX4_eldest_67 : decode cX4_eldest 67 = .ok (.iload 4, 2) := by decide +kernel
theorem dX4_eldest_69 : decode cX4_eldest 69 = .ok (.istore_n 2, 1) := by decide +kernel
theorem dX4_eldest_70 : decode cX4_eldest 70 = .ok (.iinc 4 1, 3) := by decide +kernel
theorem dX4_eldest_73 : decode cX4_eldest 73 = .ok (.goto (-51), 3) := by decide +kernel
theorem dX4_eldest_76 : decode cX4_eldest 76 = .ok (.iload_n 2, 1) := by decide +kernel
theorem dX4_eldest_77 : decode cX4_eldest 77 = .ok (.bipush (-9), 2) := by decide +kernel
theorem dX4_eldest_79 : decode cX4_eldest 79 = .ok (.if_icmp .eq 8, 3) := by decide +kernel
theorem dX4_eldest_82 : decode cX4_eldest 82 = .ok (.aload_n 0, 1) := by decide +kernel
theorem dX4_eldest_83 : decode cX4_eldest 83 = .ok (.iload_n 3, 1) := by decide +kernel
theorem dX4_eldest_84 : decode cX4_eldest 84 = .ok (.putfield 49, 3) := by decide +kernel
theorem dX4_eldest_87 : decode cX4_eldest 87 = .ok (.iload_n 2, 1) := by decide +kernel
theorem dX4_eldest_88 : decode cX4_eldest 88 = .ok (.ireturn, 1) := by decide +kernel
theorem dX4_agree_0 : decode cX4_agree 0 = .ok (.aload_n 0, 1) := by decide +kernel
theorem dX4_agree_1 : decode cX4_agree 1 = .ok (.iload_n 1, 1) := by decide +kernel
theorem dX4_agree_2 : decode cX4_agree 2 = .ok (.invokevirtual 128, 3) := by decide +kernel
theorem dX4_agree_5 : decode cX4_agree 5 = .ok (.ifCond .eq 20, 3) := by decide +kernel
theorem dX4_agree_8 : decode cX4_agree 8 = .ok (.aload_n 0, 1) := by decide +kernel
theorem dX4_agree_9 : decode cX4_agree 9 = .ok (.iload_n 2, 1) := by decide +kernel
theorem dX4_agree_10 : decode cX4_agree 10 = .ok (.invokevirtual 128, 3) := by decide +kernel
theorem dX4_agree_13 : decode cX4_agree 13 = .ok (.ifCond .eq 12, 3) := by decide +kernel
theorem dX4_agree_16 : decode cX4_agree 16 = .ok (.iload_n 3, 1) := by decide +kernel
theorem dX4_agree_17 : decode cX4_agree 17 = .ok (.iload 4, 2) := by decide +kernel
theorem dX4_agree_19 : decode cX4_agree 19 = .ok (.invokestatic 197, 3) := by decide +kernel
theorem dX4_agree_22 : decode cX4_agree 22 = .ok (.ifCond .ne 5, 3) := by decide +kernel
theorem dX4_agree_25 : decode cX4_agree 25 = .ok (.iconst (-1), 1) := by decide +kernel
theorem dX4_agree_26 : decode cX4_agree 26 = .ok (.ireturn, 1) := by decide +kernel
theorem dX4_agree_27 : decode cX4_agree 27 = .ok (.iconst 0, 1) := by decide +kernel
theorem dX4_agree_28 : decode cX4_agree 28 = .ok (.istore 5, 2) := by decide +kernel
theorem dX4_agree_30 : decode cX4_agree 30 = .ok (.bipush (-9), 2) := by decide +kernel
theorem dX4_agree_32 : decode cX4_agree 32 = .ok (.istore 6, 2) := by decide +kernel
theorem dX4_agree_34 : decode cX4_agree 34 = .ok (.iload_n 3, 1) := by decide +kernel
theorem dX4_agree_35 : decode cX4_agree 35 = .ok (.istore 7, 2) := by decide +kernel
theorem dX4_agree_37 : decode cX4_agree 37 = .ok (.iload_n 3, 1) := by decide +kernel
theorem dX4_agree_38 : decode cX4_agree 38 = .ok (.istore 8, 2) := by decide +kernel
theorem dX4_agree_40 : decode cX4_agree 40 = .ok (.iload 8, 2) := by decide +kernel
theorem dX4_agree_42 : decode cX4_agree 42 = .ok (.iload 4, 2) := by decide +kernel
theorem dX4_agree_44 : decode cX4_agree 44 = .ok (.if_icmp .gt 71, 3) := by decide +kernel
theorem dX4_agree_47 : decode cX4_agree 47 = .ok (.iload 4, 2) := by decide +kernel
theorem dX4_agree_49 : decode cX4_agree 49 = .ok (.aload_n 0, 1) := by decide +kernel
theorem dX4_agree_50 : decode cX4_agree 50 = .ok (.iload_n 1, 1) := by decide +kernel
theorem dX4_agree_51 : decode cX4_agree 51 = .ok (.iload_n 2, 1) := by decide +kernel
theorem dX4_agree_52 : decode cX4_agree 52 = .ok (.iload 8, 2) := by decide +kernel
theorem dX4_agree_54 : decode cX4_agree 54 = .ok (.invokevirtual 203, 3) := by decide +kernel
theorem dX4_agree_57 : decode cX4_agree 57 = .ok (.invokestatic 207, 3) := by decide +kernel
theorem dX4_agree_60 : decode cX4_agree 60 = .ok (.istore 7, 2) := by decide +kernel
theorem dX4_agree_62 : decode cX4_agree 62 = .ok (.aload_n 0, 1) := by decide +kernel
theorem dX4_agree_63 : decode cX4_agree 63 = .ok (.iload_n 1, 1) := by decide +kernel
theorem dX4_agree_64 : decode cX4_agree 64 = .ok (.iload_n 2, 1) := by decide +kernel
theorem dX4_agree_65 : decode cX4_agree 65 = .ok (.iload 8, 2) := by decide +kernel
theorem dX4_agree_67 : decode cX4_agree 67 = .ok (.invokevirtual 212, 3) := by decide +kernel
theorem dX4_agree_70 : decode cX4_agree 70 = .ok (.ifCond .eq 31, 3) := by decide +kernel
theorem dX4_agree_73 : decode cX4_agree 73 = .ok (.iload 5, 2) := by decide +kernel
theorem dX4_agree_75 : decode cX4_agree 75 = .ok (.iload 7, 2) := by decide +kernel
theorem dX4_agree_77 : decode cX4_agree 77 = .ok (.iload 8, 2) := by decide +kernel
theorem dX4_agree_79 : decode cX4_agree 79 = .ok (.isub, 1) := by decide +kernel
theorem dX4_agree_80 : decode cX4_agree 80 = .ok (.iconst 1, 1) := by decide +kernel
theorem dX4_agree_81 : decode cX4_agree 81 = .ok (.iadd, 1) := by decide +kernel
theorem dX4_agree_82 : decode cX4_agree 82 = .ok (.iadd, 1) := by decide +kernel
theorem dX4_agree_83 : decode cX4_agree 83 = .ok (.istore 5, 2) := by decide +kernel
theorem dX4_agree_85 : decode cX4_agree 85 = .ok (.iload 6, 2) := by decide +kernel
theorem dX4_agree_87 : decode cX4_agree 87 = .ok (.bipush (-9), 2) := by decide +kernel
theorem dX4_agree_89 : decode cX4_agree 89 = .ok (.if_icmp .ne 8, 3) := by decide +kernel
theorem dX4_agree_92 : decode cX4_agree 92 = .ok (.iload 8, 2) := by decide +kernel
theorem dX4_agree_94 : decode cX4_agree 94 = .ok (.goto 5, 3) := by decide +kernel
theorem dX4_agree_97 : decode cX4_agree 97 = .ok (.iload 6, 2) := by decide +kernel
theorem dX4_agree_99 : decode cX4_agree 99 = .ok (.istore 6, 2) := by decide +kernel
theorem dX4_agree_101 : decode cX4_agree 101 = .ok (.iload 8, 2) := by decide +kernel
theorem dX4_agree_103 : decode cX4_agree 103 = .ok (.iload 7, 2) := by decide +kernel
theorem dX4_agree_105 : decode cX4_agree 105 = .ok (.invokestatic 215, 3) := by decide +kernel
theorem dX4_agree_108 : decode cX4_agree 108 = .ok (.iconst 1, 1) := by decide +kernel
theorem dX4_agree_109 : decode cX4_agree 109 = .ok (.iadd, 1) := by decide +kernel
theorem dX4_agree_110 : decode cX4_agree 110 = .ok (.istore 8, 2) := by decide +kernel
theorem dX4_agree_112 : decode cX4_agree 112 = .ok (.goto (-72), 3) := by decide +kernel
theorem dX4_agree_115 : decode cX4_agree 115 = .ok (.aload_n 0, 1) := by decide +kernel
theorem dX4_agree_116 : decode cX4_agree 116 = .ok (.iload 6, 2) := by decide +kernel
theorem dX4_agree_118 : decode cX4_agree 118 = .ok (.putfield 49, 3) := by decide +kernel
theorem dX4_agree_121 : decode cX4_agree 121 = .ok (.iload 5, 2) := by decide +kernel
theorem dX4_agree_123 : decode cX4_agree 123 = .ok (.ireturn, 1) := by decide +kernel
theorem dX4_till_0 : decode cX4_till 0 = .ok (.aload_n 0, 1) := by decide +kernel
theorem dX4_till_1 : decode cX4_till 1 = .ok (.iload_n 1, 1) := by decide +kernel
theorem dX4_till_2 : decode cX4_till 2 = .ok (.invokevirtual 128, 3) := by decide +kernel
theorem dX4_till_5 : decode cX4_till 5 = .ok (.ifCond .eq 11, 3) := by decide +kernel
theorem dX4_till_8 : decode cX4_till 8 = .ok (.aload_n 0, 1) := by decide +kernel
theorem dX4_till_9 : decode cX4_till 9 = .ok (.iload_n 2, 1) := by decide +kernel
theorem dX4_till_10 : decode cX4_till 10 = .ok (.invokevirtual 128, 3) := by decide +kernel
theorem dX4_till_13 : decode cX4_till 13 = .ok (.ifCond .ne 5, 3) := by decide +kernel
theorem dX4_till_16 : decode cX4_till 16 = .ok (.iconst (-1), 1) := by decide +kernel
theorem dX4_till_17 : decode cX4_till 17 = .ok (.ireturn, 1) := by decide +kernel
theorem dX4_till_18 : decode cX4_till 18 = .ok (.aload_n 0, 1) := by decide +kernel
theorem dX4_till_19 : decode cX4_till 19 = .ok (.getfield 46, 3) := by decide +kernel
theorem dX4_till_22 : decode cX4_till 22 = .ok (.istore_n 3, 1) := by decide +kernel
theorem dX4_till_23 : decode cX4_till 23 = .ok (.iload_n 3, 1) := by decide +kernel
theorem dX4_till_24 : decode cX4_till 24 = .ok (.sipush 19999, 3) := by decide +kernel
theorem dX4_till_27 : decode cX4_till 27 = .ok (.if_icmp .gt 37, 3) := by decide +kernel
theorem dX4_till_30 : decode cX4_till 30 = .ok (.aload_n 0, 1) := by decide +kernel
theorem dX4_till_31 : decode cX4_till 31 = .ok (.iload_n 1, 1) := by decide +kernel
theorem dX4_till_32 : decode cX4_till 32 = .ok (.iload_n 2, 1) := by decide +kernel
theorem dX4_till_33 : decode cX4_till 33 = .ok (.iload_n 3, 1) := by decide +kernel
theorem dX4_till_34 : decode cX4_till 34 = .ok (.invokevirtual 212, 3) := by decide +kernel
theorem dX4_till_37 : decode cX4_till 37 = .ok (.ifCond .eq 10, 3) := by decide +kernel
theorem dX4_till_40 : decode cX4_till 40 = .ok (.iload_n 3, 1) := by decide +kernel
theorem dX4_till_41 : decode cX4_till 41 = .ok (.aload_n 0, 1) := by decide +kernel
theorem dX4_till_42 : decode cX4_till 42 = .ok (.getfield 46, 3) := by decide +kernel
theorem dX4_till_45 : decode cX4_till 45 = .ok (.isub, 1) := by decide +kernel
theorem dX4_till_46 : decode cX4_till 46 = .ok (.ireturn, 1) := by decide +kernel
theorem dX4_till_47 : decode cX4_till 47 = .ok (.iload_n 3, 1) := by decide +kernel
theorem dX4_till_48 : decode cX4_till 48 = .ok (.aload_n 0, 1) := by decide +kernel
theorem dX4_till_49 : decode cX4_till 49 = .ok (.iload_n 1, 1) := by decide +kernel
theorem dX4_till_50 : decode cX4_till 50 = .ok (.iload_n 2, 1) := by decide +kernel
theorem dX4_till_51 : decode cX4_till 51 = .ok (.iload_n 3, 1) := by decide +kernel
theorem dX4_till_52 : decode cX4_till 52 = .ok (.invokevirtual 203, 3) := by decide +kernel
theorem dX4_till_55 : decode cX4_till 55 = .ok (.invokestatic 215, 3) := by decide +kernel
theorem dX4_till_58 : decode cX4_till 58 = .ok (.iconst 1, 1) := by decide +kernel
theorem dX4_till_59 : decode cX4_till 59 = .ok (.iadd, 1) := by decide +kernel
theorem dX4_till_60 : decode cX4_till 60 = .ok (.istore_n 3, 1) := by decide +kernel
theorem dX4_till_61 : decode cX4_till 61 = .ok (.goto (-38), 3) := by decide +kernel
theorem dX4_till_64 : decode cX4_till 64 = .ok (.bipush (-9), 2) := by decide +kernel
theorem dX4_till_66 : decode cX4_till 66 = .ok (.ireturn, 1) := by decide +kernel
theorem dX4_apart_0 : decode cX4_apart 0 = .ok (.aload_n 0, 1) := by decide +kernel
theorem dX4_apart_1 : decode cX4_apart 1 = .ok (.iload_n 1, 1) := by decide +kernel
theorem dX4_apart_2 : decode cX4_apart 2 = .ok (.invokevirtual 128, 3) := by decide +kernel
theorem dX4_apart_5 : decode cX4_apart 5 = .ok (.ifCond .eq 20, 3) := by decide +kernel
theorem dX4_apart_8 : decode cX4_apart 8 = .ok (.aload_n 0, 1) := by decide +kernel
theorem dX4_apart_9 : decode cX4_apart 9 = .ok (.iload_n 2, 1) := by decide +kernel
theorem dX4_apart_10 : decode cX4_apart 10 = .ok (.invokevirtual 128, 3) := by decide +kernel
theorem dX4_apart_13 : decode cX4_apart 13 = .ok (.ifCond .eq 12, 3) := by decide +kernel
theorem dX4_apart_16 : decode cX4_apart 16 = .ok (.iload_n 3, 1) := by decide +kernel
theorem dX4_apart_17 : decode cX4_apart 17 = .ok (.iload 4, 2) := by decide +kernel
theorem dX4_apart_19 : decode cX4_apart 19 = .ok (.invokestatic 197, 3) := by decide +kernel
theorem dX4_apart_22 : decode cX4_apart 22 = .ok (.ifCond .ne 5, 3) := by decide +kernel
theorem dX4_apart_25 : decode cX4_apart 25 = .ok (.iconst (-1), 1) := by decide +kernel
theorem dX4_apart_26 : decode cX4_apart 26 = .ok (.ireturn, 1) := by decide +kernel
theorem dX4_apart_27 : decode cX4_apart 27 = .ok (.iconst (-1), 1) := by decide +kernel
theorem dX4_apart_28 : decode cX4_apart 28 = .ok (.istore 5, 2) := by decide +kernel
theorem dX4_apart_30 : decode cX4_apart 30 = .ok (.iload_n 3, 1) := by decide +kernel
theorem dX4_apart_31 : decode cX4_apart 31 = .ok (.istore 6, 2) := by decide +kernel
theorem dX4_apart_33 : decode cX4_apart 33 = .ok (.iload_n 3, 1) := by decide +kernel
theorem dX4_apart_34 : decode cX4_apart 34 = .ok (.istore 7, 2) := by decide +kernel
theorem dX4_apart_36 : decode cX4_apart 36 = .ok (.iload 7, 2) := by decide +kernel
theorem dX4_apart_38 : decode cX4_apart 38 = .ok (.iload 4, 2) := by decide +kernel
theorem dX4_apart_40 : decode cX4_apart 40 = .ok (.if_icmp .gt 66, 3) := by decide +kernel
theorem dX4_apart_43 : decode cX4_apart 43 = .ok (.aload_n 0, 1) := by decide +kernel
theorem dX4_apart_44 : decode cX4_apart 44 = .ok (.getfield 23, 3) := by decide +kernel
theorem dX4_apart_47 : decode cX4_apart 47 = .ok (.iload_n 1, 1) := by decide +kernel
theorem dX4_apart_48 : decode cX4_apart 48 = .ok (.aaload, 1) := by decide +kernel
theorem dX4_apart_49 : decode cX4_apart 49 = .ok (.iload 7, 2) := by decide +kernel
theorem dX4_apart_51 : decode cX4_apart 51 = .ok (.invokevirtual 218, 3) := by decide +kernel
theorem dX4_apart_54 : decode cX4_apart 54 = .ok (.aload_n 0, 1) := by decide +kernel
theorem dX4_apart_55 : decode cX4_apart 55 = .ok (.getfield 23, 3) := by decide +kernel
theorem dX4_apart_58 : decode cX4_apart 58 = .ok (.iload_n 2, 1) := by decide +kernel
theorem dX4_apart_59 : decode cX4_apart 59 = .ok (.aaload, 1) := by decide +kernel
theorem dX4_apart_60 : decode cX4_apart 60 = .ok (.iload 7, 2) := by decide +kernel
theorem dX4_apart_62 : decode cX4_apart 62 = .ok (.invokevirtual 218, 3) := by decide +kernel
theorem dX4_apart_65 : decode cX4_apart 65 = .ok (.isub, 1) := by decide +kernel
theorem dX4_apart_66 : decode cX4_apart 66 = .ok (.invokestatic 221, 3) := by decide +kernel
theorem dX4_apart_69 : decode cX4_apart 69 = .ok (.istore 8, 2) := by decide +kernel
theorem dX4_apart_71 : decode cX4_apart 71 = .ok (.iload 8, 2) := by decide +kernel
theorem dX4_apart_73 : decode cX4_apart 73 = .ok (.iload 5, 2) := by decide +kernel
theorem dX4_apart_75 : decode cX4_apart 75 = .ok (.if_icmp .le 11, 3) := by decide +kernel
theorem dX4_apart_78 : decode cX4_apart 78 = .ok (.iload 8, 2) := by decide +kernel
theorem dX4_apart_80 : decode cX4_apart 80 = .ok (.istore 5, 2) := by decide +kernel
theorem dX4_apart_82 : decode cX4_apart 82 = .ok (.iload 7, 2) := by decide +kernel
theorem dX4_apart_84 : decode cX4_apart 84 = .ok (.istore 6, 2) := by decide +kernel
theorem dX4_apart_86 : decode cX4_apart 86 = .ok (.iload 7, 2) := by decide +kernel
theorem dX4_apart_88 : decode cX4_apart 88 = .ok (.aload_n 0, 1) := by decide +kernel
theorem dX4_apart_89 : decode cX4_apart 89 = .ok (.iload_n 1, 1) := by decide +kernel
theorem dX4_apart_90 : decode cX4_apart 90 = .ok (.iload_n 2, 1) := by decide +kernel
theorem dX4_apart_91 : decode cX4_apart 91 = .ok (.iload 7, 2) := by decide +kernel
theorem dX4_apart_93 : decode cX4_apart 93 = .ok (.invokevirtual 203, 3) := by decide +kernel
theorem dX4_apart_96 : decode cX4_apart 96 = .ok (.invokestatic 215, 3) := by decide +kernel
theorem dX4_apart_99 : decode cX4_apart 99 = .ok (.iconst 1, 1) := by decide +kernel
theorem dX4_apart_100 : decode cX4_apart 100 = .ok (.iadd, 1) := by decide +kernel
theorem dX4_apart_101 : decode cX4_apart 101 = .ok (.istore 7, 2) := by decide +kernel
theorem dX4_apart_103 : decode cX4_apart 103 = .ok (.goto (-67), 3) := by decide +kernel
theorem dX4_apart_106 : decode cX4_apart 106 = .ok (.aload_n 0, 1) := by decide +kernel
theorem dX4_apart_107 : decode cX4_apart 107 = .ok (.iload 6, 2) := by decide +kernel
theorem dX4_apart_109 : decode cX4_apart 109 = .ok (.putfield 49, 3) := by decide +kernel
theorem dX4_apart_112 : decode cX4_apart 112 = .ok (.iload 5, 2) := by decide +kernel
theorem dX4_apart_114 : decode cX4_apart 114 = .ok (.ireturn, 1) := by decide +kernel
theorem dX4_due_0 : decode cX4_due 0 = .ok (.aload_n 0, 1) := by decide +kernel
theorem dX4_due_1 : decode cX4_due 1 = .ok (.iload_n 1, 1) := by decide +kernel
theorem dX4_due_2 : decode cX4_due 2 = .ok (.invokevirtual 128, 3) := by decide +kernel
theorem dX4_due_5 : decode cX4_due 5 = .ok (.ifCond .eq 14, 3) := by decide +kernel
theorem dX4_due_8 : decode cX4_due 8 = .ok (.iload_n 2, 1) := by decide +kernel
theorem dX4_due_9 : decode cX4_due 9 = .ok (.ifCond .lt 10, 3) := by decide +kernel
theorem dX4_due_12 : decode cX4_due 12 = .ok (.iload_n 3, 1) := by decide +kernel
theorem dX4_due_13 : decode cX4_due 13 = .ok (.invokestatic 224, 3) := by decide +kernel
theorem dX4_due_16 : decode cX4_due 16 = .ok (.ifCond .ne 5, 3) := by decide +kernel
theorem dX4_due_19 : decode cX4_due 19 = .ok (.iconst (-1), 1) := by decide +kernel
theorem dX4_due_20 : decode cX4_due 20 = .ok (.ireturn, 1) := by decide +kernel
theorem dX4_due_21 : decode cX4_due 21 = .ok (.aload_n 0, 1) := by decide +kernel
theorem dX4_due_22 : decode cX4_due 22 = .ok (.getfield 23, 3) := by decide +kernel
theorem dX4_due_25 : decode cX4_due 25 = .ok (.iload_n 1, 1) := by decide +kernel
theorem dX4_due_26 : decode cX4_due 26 = .ok (.aaload, 1) := by decide +kernel
theorem dX4_due_27 : decode cX4_due 27 = .ok (.iload_n 2, 1) := by decide +kernel
theorem dX4_due_28 : decode cX4_due 28 = .ok (.invokevirtual 174, 3) := by decide +kernel
theorem dX4_due_31 : decode cX4_due 31 = .ok (.istore 4, 2) := by decide +kernel
theorem dX4_due_33 : decode cX4_due 33 = .ok (.iload 4, 2) := by decide +kernel
theorem dX4_due_35 : decode cX4_due 35 = .ok (.iconst (-1), 1) := by decide +kernel
theorem dX4_due_36 : decode cX4_due 36 = .ok (.if_icmp .ne 9, 3) := by decide +kernel
theorem dX4_due_39 : decode cX4_due 39 = .ok (.aload_n 0, 1) := by decide +kernel
theorem dX4_due_40 : decode cX4_due 40 = .ok (.iconst 4, 1) := by decide +kernel
theorem dX4_due_41 : decode cX4_due 41 = .ok (.invokevirtual 69, 3) := by decide +kernel
theorem dX4_due_44 : decode cX4_due 44 = .ok (.ireturn, 1) := by decide +kernel
theorem dX4_due_45 : decode cX4_due 45 = .ok (.aload_n 0, 1) := by decide +kernel
theorem dX4_due_46 : decode cX4_due 46 = .ok (.iload 4, 2) := by decide +kernel
theorem dX4_due_48 : decode cX4_due 48 = .ok (.bipush 100, 2) := by decide +kernel
theorem dX4_due_50 : decode cX4_due 50 = .ok (.iload_n 3, 1) := by decide +kernel
theorem dX4_due_51 : decode cX4_due 51 = .ok (.imul, 1) := by decide +kernel
theorem dX4_due_52 : decode cX4_due 52 = .ok (.iadd, 1) := by decide +kernel
theorem dX4_due_53 : decode cX4_due 53 = .ok (.putfield 49, 3) := by decide +kernel
theorem dX4_due_56 : decode cX4_due 56 = .ok (.aload_n 0, 1) := by decide +kernel
theorem dX4_due_57 : decode cX4_due 57 = .ok (.getfield 23, 3) := by decide +kernel
theorem dX4_due_60 : decode cX4_due 60 = .ok (.iload_n 1, 1) := by decide +kernel
theorem dX4_due_61 : decode cX4_due 61 = .ok (.aaload, 1) := by decide +kernel
theorem dX4_due_62 : decode cX4_due 62 = .ok (.iload_n 2, 1) := by decide +kernel
theorem dX4_due_63 : decode cX4_due 63 = .ok (.sipush 1000, 3) := by decide +kernel
theorem dX4_due_66 : decode cX4_due 66 = .ok (.iload_n 3, 1) := by decide +kernel
theorem dX4_due_67 : decode cX4_due 67 = .ok (.imul, 1) := by decide +kernel
theorem dX4_due_68 : decode cX4_due 68 = .ok (.iadd, 1) := by decide +kernel
theorem dX4_due_69 : decode cX4_due 69 = .ok (.invokevirtual 174, 3) := by decide +kernel
theorem dX4_due_72 : decode cX4_due 72 = .ok (.istore 5, 2) := by decide +kernel
theorem dX4_due_74 : decode cX4_due 74 = .ok (.iload 5, 2) := by decide +kernel
theorem dX4_due_76 : decode cX4_due 76 = .ok (.iconst (-1), 1) := by decide +kernel
theorem dX4_due_77 : decode cX4_due 77 = .ok (.if_icmp .ne 8, 3) := by decide +kernel
theorem dX4_due_80 : decode cX4_due 80 = .ok (.bipush (-9), 2) := by decide +kernel
theorem dX4_due_82 : decode cX4_due 82 = .ok (.goto 5, 3) := by decide +kernel
theorem dX4_due_85 : decode cX4_due 85 = .ok (.iload 5, 2) := by decide +kernel
theorem dX4_due_87 : decode cX4_due 87 = .ok (.ireturn, 1) := by decide +kernel
theorem dX4_quarrels_0 : decode cX4_quarrels 0 = .ok (.aload_n 0, 1) := by decide +kernel
theorem dX4_quarrels_1 : decode cX4_quarrels 1 = .ok (.iload_n 1, 1) := by decide +kernel
theorem dX4_quarrels_2 : decode cX4_quarrels 2 = .ok (.invokevirtual 227, 3) := by decide +kernel
theorem dX4_quarrels_5 : decode cX4_quarrels 5 = .ok (.istore_n 2, 1) := by decide +kernel
theorem dX4_quarrels_6 : decode cX4_quarrels 6 = .ok (.iload_n 2, 1) := by decide +kernel
theorem dX4_quarrels_7 : decode cX4_quarrels 7 = .ok (.ifCond .eq 5, 3) := by decide +kernel
theorem dX4_quarrels_10 : decode cX4_quarrels 10 = .ok (.iload_n 2, 1) := by decide +kernel
theorem dX4_quarrels_11 : decode cX4_quarrels 11 = .ok (.ireturn, 1) := by decide +kernel
theorem dX4_quarrels_12 : decode cX4_quarrels 12 = .ok (.aload_n 0, 1) := by decide +kernel
theorem dX4_quarrels_13 : decode cX4_quarrels 13 = .ok (.aload_n 0, 1) := by decide +kernel
theorem dX4_quarrels_14 : decode cX4_quarrels 14 = .ok (.getfield 11, 3) := by decide +kernel
theorem dX4_quarrels_17 : decode cX4_quarrels 17 = .ok (.iload_n 1, 1) := by decide +kernel
theorem dX4_quarrels_18 : decode cX4_quarrels 18 = .ok (.aaload, 1) := by decide +kernel
theorem dX4_quarrels_19 : decode cX4_quarrels 19 = .ok (.invokevirtual 230, 3) := by decide +kernel
theorem dX4_quarrels_22 : decode cX4_quarrels 22 = .ok (.ifCond .eq 9, 3) := by decide +kernel
theorem dX4_quarrels_25 : decode cX4_quarrels 25 = .ok (.aload_n 0, 1) := by decide +kernel
theorem dX4_quarrels_26 : decode cX4_quarrels 26 = .ok (.iconst 3, 1) := by decide +kernel
theorem dX4_quarrels_27 : decode cX4_quarrels 27 = .ok (.invokevirtual 69, 3) := by decide +kernel
theorem dX4_quarrels_30 : decode cX4_quarrels 30 = .ok (.ireturn, 1) := by decide +kernel
theorem dX4_quarrels_31 : decode cX4_quarrels 31 = .ok (.iconst 0, 1) := by decide +kernel
theorem dX4_quarrels_32 : decode cX4_quarrels 32 = .ok (.istore_n 3, 1) := by decide +kernel
theorem dX4_quarrels_33 : decode cX4_quarrels 33 = .ok (.bipush (-9), 2) := by decide +kernel
theorem dX4_quarrels_35 : decode cX4_quarrels 35 = .ok (.istore 4, 2) := by decide +kernel
theorem dX4_quarrels_37 : decode cX4_quarrels 37 = .ok (.iconst 0, 1) := by decide +kernel
theorem dX4_quarrels_38 : decode cX4_quarrels 38 = .ok (.istore 5, 2) := by decide +kernel
theorem dX4_quarrels_40 : decode cX4_quarrels 40 = .ok (.iload 5, 2) := by decide +kernel
theorem dX4_quarrels_42 : decode cX4_quarrels 42 = .ok (.aload_n 0, 1) := by decide +kernel
theorem dX4_quarrels_43 : decode cX4_quarrels 43 = .ok (.getfield 11, 3) := by decide +kernel
theorem dX4_quarrels_46 : decode cX4_quarrels 46 = .ok (.iload_n 1, 1) := by decide +kernel
theorem dX4_quarrels_47 : decode cX4_quarrels 47 = .ok (.aaload, 1) := by decide +kernel
theorem dX4_quarrels_48 : decode cX4_quarrels 48 = .ok (.getfield 87, 3) := by decide +kernel
theorem dX4_quarrels_51 : decode cX4_quarrels 51 = .ok (.iconst 3, 1) := by decide +kernel
theorem dX4_quarrels_52 : decode cX4_quarrels 52 = .ok (.idiv, 1) := by decide +kernel
theorem dX4_quarrels_53 : decode cX4_quarrels 53 = .ok (.if_icmp .ge 45, 3) := by decide +kernel
theorem dX4_quarrels_56 : decode cX4_quarrels 56 = .ok (.aload_n 0, 1) := by decide +kernel
theorem dX4_quarrels_57 : decode cX4_quarrels 57 = .ok (.aload_n 0, 1) := by decide +kernel
theorem dX4_quarrels_58 : decode cX4_quarrels 58 = .ok (.getfield 11, 3) := by decide +kernel
theorem dX4_quarrels_61 : decode cX4_quarrels 61 = .ok (.iload_n 1, 1) := by decide +kernel
theorem dX4_quarrels_62 : decode cX4_quarrels 62 = .ok (.aaload, 1) := by decide +kernel
theorem dX4_quarrels_63 : decode cX4_quarrels 63 = .ok (.iload 5, 2) := by decide +kernel
theorem dX4_quarrels_65 : decode cX4_quarrels 65 = .ok (.bipush (-9), 2) := by decide +kernel
theorem dX4_quarrels_67 : decode cX4_quarrels 67 = .ok (.invokevirtual 234, 3) := by decide +kernel
theorem dX4_quarrels_70 : decode cX4_quarrels 70 = .ok (.ifCond .eq 22, 3) := by decide +kernel
theorem dX4_quarrels_73 : decode cX4_quarrels 73 = .ok (.iinc 3 1, 3) := by decide +kernel
theorem dX4_quarrels_76 : decode cX4_quarrels 76 = .ok (.iload 4, 2) := by decide +kernel
theorem dX4_quarrels_78 : decode cX4_quarrels 78 = .ok (.bipush (-9), 2) := by decide +kernel
theorem dX4_quarrels_80 : decode cX4_quarrels 80 = .ok (.if_icmp .ne 8, 3) := by decide +kernel
theorem dX4_quarrels_83 : decode cX4_quarrels 83 = .ok (.iload 5, 2) := by decide +kernel
theorem dX4_quarrels_85 : decode cX4_quarrels 85 = .ok (.goto 5, 3) := by decide +kernel
theorem dX4_quarrels_88 : decode cX4_quarrels 88 = .ok (.iload 4, 2) := by decide +kernel
theorem dX4_quarrels_90 : decode cX4_quarrels 90 = .ok (.istore 4, 2) := by decide +kernel
theorem dX4_quarrels_92 : decode cX4_quarrels 92 = .ok (.iinc 5 1, 3) := by decide +kernel
theorem dX4_quarrels_95 : decode cX4_quarrels 95 = .ok (.goto (-55), 3) := by decide +kernel
theorem dX4_quarrels_98 : decode cX4_quarrels 98 = .ok (.aload_n 0, 1) := by decide +kernel
theorem dX4_quarrels_99 : decode cX4_quarrels 99 = .ok (.iload 4, 2) := by decide +kernel
theorem dX4_quarrels_101 : decode cX4_quarrels 101 = .ok (.putfield 49, 3) := by decide +kernel
theorem dX4_quarrels_104 : decode cX4_quarrels 104 = .ok (.iload_n 3, 1) := by decide +kernel
theorem dX4_quarrels_105 : decode cX4_quarrels 105 = .ok (.ireturn, 1) := by decide +kernel
theorem dX4_change_0 : decode cX4_change 0 = .ok (.aload_n 0, 1) := by decide +kernel
theorem dX4_change_1 : decode cX4_change 1 = .ok (.iload_n 1, 1) := by decide +kernel
theorem dX4_change_2 : decode cX4_change 2 = .ok (.invokevirtual 128, 3) := by decide +kernel
theorem dX4_change_5 : decode cX4_change 5 = .ok (.ifCond .eq 36, 3) := by decide +kernel
theorem dX4_change_8 : decode cX4_change 8 = .ok (.iload_n 2, 1) := by decide +kernel
theorem dX4_change_9 : decode cX4_change 9 = .ok (.invokestatic 65, 3) := by decide +kernel
theorem dX4_change_12 : decode cX4_change 12 = .ok (.ifCond .eq 29, 3) := by decide +kernel
theorem dX4_change_15 : decode cX4_change 15 = .ok (.iload_n 3, 1) := by decide +kernel
theorem dX4_change_16 : decode cX4_change 16 = .ok (.iload 4, 2) := by decide +kernel
theorem dX4_change_18 : decode cX4_change 18 = .ok (.invokestatic 197, 3) := by decide +kernel
theorem dX4_change_21 : decode cX4_change 21 = .ok (.ifCond .eq 20, 3) := by decide +kernel
theorem dX4_change_24 : decode cX4_change 24 = .ok (.iload 4, 2) := by decide +kernel
theorem dX4_change_26 : decode cX4_change 26 = .ok (.sipush 9999, 3) := by decide +kernel
theorem dX4_change_29 : decode cX4_change 29 = .ok (.if_icmp .gt 12, 3) := by decide +kernel
theorem dX4_change_32 : decode cX4_change 32 = .ok (.iload 4, 2) := by decide +kernel
theorem dX4_change_34 : decode cX4_change 34 = .ok (.iload_n 3, 1) := by decide +kernel
theorem dX4_change_35 : decode cX4_change 35 = .ok (.isub, 1) := by decide +kernel
theorem dX4_change_36 : decode cX4_change 36 = .ok (.bipush 100, 2) := by decide +kernel
theorem dX4_change_38 : decode cX4_change 38 = .ok (.if_icmp .lt 5, 3) := by decide +kernel
theorem dX4_change_41 : decode cX4_change 41 = .ok (.iconst (-1), 1) := by decide +kernel
theorem dX4_change_42 : decode cX4_change 42 = .ok (.ireturn, 1) := by decide +kernel
theorem dX4_change_43 : decode cX4_change 43 = .ok (.aload_n 0, 1) := by decide +kernel
theorem dX4_change_44 : decode cX4_change 44 = .ok (.iload_n 2, 1) := by decide +kernel
theorem dX4_change_45 : decode cX4_change 45 = .ok (.invokevirtual 227, 3) := by decide +kernel
theorem dX4_change_48 : decode cX4_change 48 = .ok (.istore 5, 2) := by decide +kernel
theorem dX4_change_50 : decode cX4_change 50 = .ok (.iload 5, 2) := by decide +kernel
theorem dX4_change_52 : decode cX4_change 52 = .ok (.ifCond .eq 6, 3) := by decide +kernel
theorem dX4_change_55 : decode cX4_change 55 = .ok (.iload 5, 2) := by decide +kernel
theorem dX4_change_57 : decode cX4_change 57 = .ok (.ireturn, 1) := by decide +kernel
theorem dX4_change_58 : decode cX4_change 58 = .ok (.aload_n 0, 1) := by decide +kernel
theorem dX4_change_59 : decode cX4_change 59 = .ok (.getfield 34, 3) := by decide +kernel
theorem dX4_change_62 : decode cX4_change 62 = .ok (.aload_n 0, 1) := by decide +kernel
theorem dX4_change_63 : decode cX4_change 63 = .ok (.getfield 23, 3) := by decide +kernel
theorem dX4_change_66 : decode cX4_change 66 = .ok (.iload_n 1, 1) := by decide +kernel
theorem dX4_change_67 : decode cX4_change 67 = .ok (.aaload, 1) := by decide +kernel
theorem dX4_change_68 : decode cX4_change 68 = .ok (.invokevirtual 238, 3) := by decide +kernel
theorem dX4_change_71 : decode cX4_change 71 = .ok (.bipush 40, 2) := by decide +kernel
theorem dX4_change_73 : decode cX4_change 73 = .ok (.istore 6, 2) := by decide +kernel
theorem dX4_change_75 : decode cX4_change 75 = .ok (.iload_n 3, 1) := by decide +kernel
theorem dX4_change_76 : decode cX4_change 76 = .ok (.istore 7, 2) := by decide +kernel
theorem dX4_change_78 : decode cX4_change 78 = .ok (.iload_n 3, 1) := by decide +kernel
theorem dX4_change_79 : decode cX4_change 79 = .ok (.istore 8, 2) := by decide +kernel
theorem dX4_change_81 : decode cX4_change 81 = .ok (.iload 8, 2) := by decide +kernel
theorem dX4_change_83 : decode cX4_change 83 = .ok (.iload 4, 2) := by decide +kernel
theorem dX4_change_85 : decode cX4_change 85 = .ok (.if_icmp .gt 46, 3) := by decide +kernel
theorem dX4_change_88 : decode cX4_change 88 = .ok (.aload_n 0, 1) := by decide +kernel
theorem dX4_change_89 : decode cX4_change 89 = .ok (.getfield 34, 3) := by decide +kernel
theorem dX4_change_92 : decode cX4_change 92 = .ok (.iload 8, 2) := by decide +kernel
theorem dX4_change_94 : decode cX4_change 94 = .ok (.putfield 144, 3) := by decide +kernel
theorem dX4_change_97 : decode cX4_change 97 = .ok (.aload_n 0, 1) := by decide +kernel
theorem dX4_change_98 : decode cX4_change 98 = .ok (.aload_n 0, 1) := by decide +kernel
theorem dX4_change_99 : decode cX4_change 99 = .ok (.getfield 11, 3) := by decide +kernel
theorem dX4_change_102 : decode cX4_change 102 = .ok (.iload_n 2, 1) := by decide +kernel
theorem dX4_change_103 : decode cX4_change 103 = .ok (.aaload, 1) := by decide +kernel
theorem dX4_change_104 : decode cX4_change 104 = .ok (.iload_n 1, 1) := by decide +kernel
theorem dX4_change_105 : decode cX4_change 105 = .ok (.invokevirtual 242, 3) := by decide +kernel
theorem dX4_change_108 : decode cX4_change 108 = .ok (.istore 9, 2) := by decide +kernel
theorem dX4_change_110 : decode cX4_change 110 = .ok (.iload 9, 2) := by decide +kernel
theorem dX4_change_112 : decode cX4_change 112 = .ok (.iload 6, 2) := by decide +kernel
theorem dX4_change_114 : decode cX4_change 114 = .ok (.if_icmp .ge 11, 3) := by decide +kernel
theorem dX4_change_117 : decode cX4_change 117 = .ok (.iload 9, 2) := by decide +kernel
theorem dX4_change_119 : decode cX4_change 119 = .ok (.istore 6, 2) := by decide +kernel
theorem dX4_change_121 : decode cX4_change 121 = .ok (.iload 8, 2) := by decide +kernel
theorem dX4_change_123 : decode cX4_change 123 = .ok (.istore 7, 2) := by decide +kernel
theorem dX4_change_125 : decode cX4_change 125 = .ok (.iinc 8 1, 3) := by decide +kernel
theorem dX4_change_128 : decode cX4_change 128 = .ok (.goto (-47), 3) := by decide +kernel
theorem dX4_change_131 : decode cX4_change 131 = .ok (.aload_n 0, 1) := by decide +kernel
theorem dX4_change_132 : decode cX4_change 132 = .ok (.iload 6, 2) := by decide +kernel
theorem dX4_change_134 : decode cX4_change 134 = .ok (.putfield 49, 3) := by decide +kernel
theorem dX4_change_137 : decode cX4_change 137 = .ok (.iload 7, 2) := by decide +kernel
theorem dX4_change_139 : decode cX4_change 139 = .ok (.ireturn, 1) := by decide +kernel
theorem dX4_rent_0 : decode cX4_rent 0 = .ok (.aload_n 0, 1) := by decide +kernel
theorem dX4_rent_1 : decode cX4_rent 1 = .ok (.iload_n 1, 1) := by decide +kernel
theorem dX4_rent_2 : decode cX4_rent 2 = .ok (.invokevirtual 128, 3) := by decide +kernel
theorem dX4_rent_5 : decode cX4_rent 5 = .ok (.ifCond .eq 33, 3) := by decide +kernel
theorem dX4_rent_8 : decode cX4_rent 8 = .ok (.iload_n 2, 1) := by decide +kernel
theorem dX4_rent_9 : decode cX4_rent 9 = .ok (.iconst 0, 1) := by decide +kernel
theorem dX4_rent_10 : decode cX4_rent 10 = .ok (.sipush 9999, 3) := by decide +kernel
theorem dX4_rent_13 : decode cX4_rent 13 = .ok (.invokestatic 140, 3) := by decide +kernel
theorem dX4_rent_16 : decode cX4_rent 16 = .ok (.ifCond .eq 22, 3) := by decide +kernel
theorem dX4_rent_19 : decode cX4_rent 19 = .ok (.iload_n 3, 1) := by decide +kernel
theorem dX4_rent_20 : decode cX4_rent 20 = .ok (.iload 4, 2) := by decide +kernel
theorem dX4_rent_22 : decode cX4_rent 22 = .ok (.invokestatic 197, 3) := by decide +kernel
theorem dX4_rent_25 : decode cX4_rent 25 = .ok (.ifCond .eq 13, 3) := by decide +kernel
theorem dX4_rent_28 : decode cX4_rent 28 = .ok (.iload 4, 2) := by decide +kernel
theorem dX4_rent_30 : decode cX4_rent 30 = .ok (.iload_n 3, 1) := by decide +kernel
theorem dX4_rent_31 : decode cX4_rent 31 = .ok (.isub, 1) := by decide +kernel
theorem dX4_rent_32 : decode cX4_rent 32 = .ok (.sipush 400, 3) := by decide +kernel
theorem dX4_rent_35 : decode cX4_rent 35 = .ok (.if_icmp .le 5, 3) := by decide +kernel
theorem dX4_rent_38 : decode cX4_rent 38 = .ok (.iconst (-1), 1) := by decide +kernel
theorem dX4_rent_39 : decode cX4_rent 39 = .ok (.ireturn, 1) := by decide +kernel
theorem dX4_rent_40 : decode cX4_rent 40 = .ok (.iconst 0, 1) := by decide +kernel
theorem dX4_rent_41 : decode cX4_rent 41 = .ok (.istore 5, 2) := by decide +kernel
theorem dX4_rent_43 : decode cX4_rent 43 = .ok (.iload_n 3, 1) := by decide +kernel
theorem dX4_rent_44 : decode cX4_rent 44 = .ok (.istore 6, 2) := by decide +kernel
theorem dX4_rent_46 : decode cX4_rent 46 = .ok (.iload 6, 2) := by decide +kernel
theorem dX4_rent_48 : decode cX4_rent 48 = .ok (.iload 4, 2) := by decide +kernel
theorem dX4_rent_50 : decode cX4_rent 50 = .ok (.if_icmp .ge 41, 3) := by decide +kernel
theorem dX4_rent_53 : decode cX4_rent 53 = .ok (.aload_n 0, 1) := by decide +kernel
theorem dX4_rent_54 : decode cX4_rent 54 = .ok (.getfield 23, 3) := by decide +kernel
theorem dX4_rent_57 : decode cX4_rent 57 = .ok (.iload_n 1, 1) := by decide +kernel
theorem dX4_rent_58 : decode cX4_rent 58 = .ok (.aaload, 1) := by decide +kernel
theorem dX4_rent_59 : decode cX4_rent 59 = .ok (.aload_n 0, 1) := by decide +kernel
theorem dX4_rent_60 : decode cX4_rent 60 = .ok (.getfield 23, 3) := by decide +kernel
theorem dX4_rent_63 : decode cX4_rent 63 = .ok (.iload_n 1, 1) := by decide +kernel
theorem dX4_rent_64 : decode cX4_rent 64 = .ok (.aaload, 1) := by decide +kernel
theorem dX4_rent_65 : decode cX4_rent 65 = .ok (.iload 6, 2) := by decide +kernel
theorem dX4_rent_67 : decode cX4_rent 67 = .ok (.invokevirtual 171, 3) := by decide +kernel
theorem dX4_rent_70 : decode cX4_rent 70 = .ok (.sipush 1000, 3) := by decide +kernel
theorem dX4_rent_73 : decode cX4_rent 73 = .ok (.idiv, 1) := by decide +kernel
theorem dX4_rent_74 : decode cX4_rent 74 = .ok (.invokevirtual 177, 3) := by decide +kernel
theorem dX4_rent_77 : decode cX4_rent 77 = .ok (.bipush 101, 2) := by decide +kernel
theorem dX4_rent_79 : decode cX4_rent 79 = .ok (.if_icmp .ne 6, 3) := by decide +kernel
theorem dX4_rent_82 : decode cX4_rent 82 = .ok (.iinc 5 1, 3) := by decide +kernel
theorem dX4_rent_85 : decode cX4_rent 85 = .ok (.iinc 6 1, 3) := by decide +kernel
theorem dX4_rent_88 : decode cX4_rent 88 = .ok (.goto (-42), 3) := by decide +kernel
theorem dX4_rent_91 : decode cX4_rent 91 = .ok (.iload 4, 2) := by decide +kernel
theorem dX4_rent_93 : decode cX4_rent 93 = .ok (.iload_n 3, 1) := by decide +kernel
theorem dX4_rent_94 : decode cX4_rent 94 = .ok (.isub, 1) := by decide +kernel
theorem dX4_rent_95 : decode cX4_rent 95 = .ok (.iload 5, 2) := by decide +kernel
theorem dX4_rent_97 : decode cX4_rent 97 = .ok (.isub, 1) := by decide +kernel
theorem dX4_rent_98 : decode cX4_rent 98 = .ok (.i2l, 1) := by decide +kernel
theorem dX4_rent_99 : decode cX4_rent 99 = .ok (.lstore 6, 2) := by decide +kernel
theorem dX4_rent_101 : decode cX4_rent 101 = .ok (.aload_n 0, 1) := by decide +kernel
theorem dX4_rent_102 : decode cX4_rent 102 = .ok (.getfield 23, 3) := by decide +kernel
theorem dX4_rent_105 : decode cX4_rent 105 = .ok (.iload_n 1, 1) := by decide +kernel
theorem dX4_rent_106 : decode cX4_rent 106 = .ok (.aaload, 1) := by decide +kernel
theorem dX4_rent_107 : decode cX4_rent 107 = .ok (.invokevirtual 246, 3) := by decide +kernel
theorem dX4_rent_110 : decode cX4_rent 110 = .ok (.i2l, 1) := by decide +kernel
theorem dX4_rent_111 : decode cX4_rent 111 = .ok (.lstore 8, 2) := by decide +kernel
theorem dX4_rent_113 : decode cX4_rent 113 = .ok (.aload_n 0, 1) := by decide +kernel
theorem dX4_rent_114 : decode cX4_rent 114 = .ok (.iload_n 2, 1) := by decide +kernel
theorem dX4_rent_115 : decode cX4_rent 115 = .ok (.i2l, 1) := by decide +kernel
theorem dX4_rent_116 : decode cX4_rent 116 = .ok (.lload 6, 2) := by decide +kernel
theorem dX4_rent_118 : decode cX4_rent 118 = .ok (.ldc2_w 249, 3) := by decide +kernel
theorem dX4_rent_121 : decode cX4_rent 121 = .ok (.lmul, 1) := by decide +kernel
theorem dX4_rent_122 : decode cX4_rent 122 = .ok (.iload 5, 2) := by decide +kernel
theorem dX4_rent_124 : decode cX4_rent 124 = .ok (.i2l, 1) := by decide +kernel
theorem dX4_rent_125 : decode cX4_rent 125 = .ok (.lload 8, 2) := by decide +kernel
theorem dX4_rent_127 : decode cX4_rent 127 = .ok (.lmul, 1) := by decide +kernel
theorem dX4_rent_128 : decode cX4_rent 128 = .ok (.ladd, 1) := by decide +kernel
theorem dX4_rent_129 : decode cX4_rent 129 = .ok (.lmul, 1) := by decide +kernel
theorem dX4_rent_130 : decode cX4_rent 130 = .ok (.lload 8, 2) := by decide +kernel
theorem dX4_rent_132 : decode cX4_rent 132 = .ok (.ldc2_w 249, 3) := by decide +kernel
theorem dX4_rent_135 : decode cX4_rent 135 = .ok (.lmul, 1) := by decide +kernel
theorem dX4_rent_136 : decode cX4_rent 136 = .ok (.invokevirtual 251, 3) := by decide +kernel
theorem dX4_rent_139 : decode cX4_rent 139 = .ok (.iconst 1, 1) := by decide +kernel
theorem dX4_rent_140 : decode cX4_rent 140 = .ok (.ireturn, 1) := by decide +kernel
theorem dX4_voyage_0 : decode cX4_voyage 0 = .ok (.aload_n 0, 1) := by decide +kernel
theorem dX4_voyage_1 : decode cX4_voyage 1 = .ok (.iload_n 1, 1) := by decide +kernel
theorem dX4_voyage_2 : decode cX4_voyage 2 = .ok (.invokevirtual 128, 3) := by decide +kernel
theorem dX4_voyage_5 : decode cX4_voyage 5 = .ok (.ifCond .eq 30, 3) := by decide +kernel
theorem dX4_voyage_8 : decode cX4_voyage 8 = .ok (.aload_n 0, 1) := by decide +kernel
theorem dX4_voyage_9 : decode cX4_voyage 9 = .ok (.iload_n 2, 1) := by decide +kernel
theorem dX4_voyage_10 : decode cX4_voyage 10 = .ok (.invokevirtual 128, 3) := by decide +kernel
theorem dX4_voyage_13 : decode cX4_voyage 13 = .ok (.ifCond .eq 22, 3) := by decide +kernel
theorem dX4_voyage_16 : decode cX4_voyage 16 = .ok (.iload_n 3, 1) := by decide +kernel
theorem dX4_voyage_17 : decode cX4_voyage 17 = .ok (.invokestatic 168, 3) := by decide +kernel
theorem dX4_voyage_20 : decode cX4_voyage 20 = .ok (.ifCond .eq 15, 3) := by decide +kernel
theorem dX4_voyage_23 : decode cX4_voyage 23 = .ok (.iload 4, 2) := by decide +kernel
theorem dX4_voyage_25 : decode cX4_voyage 25 = .ok (.iconst 0, 1) := by decide +kernel
theorem dX4_voyage_26 : decode cX4_voyage 26 = .ok (.sipush 999, 3) := by decide +kernel
theorem dX4_voyage_29 : decode cX4_voyage 29 = .ok (.invokestatic 140, 3) := by decide +kernel
theorem dX4_voyage_32 : decode cX4_voyage 32 = .ok (.ifCond .ne 5, 3) := by decide +kernel
theorem dX4_voyage_35 : decode cX4_voyage 35 = .ok (.iconst (-1), 1) := by decide +kernel
theorem dX4_voyage_36 : decode cX4_voyage 36 = .ok (.ireturn, 1) := by decide +kernel
theorem dX4_voyage_37 : decode cX4_voyage 37 = .ok (.iload_n 3, 1) := by decide +kernel
theorem dX4_voyage_38 : decode cX4_voyage 38 = .ok (.iload 4, 2) := by decide +kernel
theorem dX4_voyage_40 : decode cX4_voyage 40 = .ok (.iadd, 1) := by decide +kernel
theorem dX4_voyage_41 : decode cX4_voyage 41 = .ok (.sipush 19999, 3) := by decide +kernel
theorem dX4_voyage_44 : decode cX4_voyage 44 = .ok (.if_icmp .le 6, 3) := by decide +kernel
theorem dX4_voyage_47 : decode cX4_voyage 47 = .ok (.bipush (-6), 2) := by decide +kernel
theorem dX4_voyage_49 : decode cX4_voyage 49 = .ok (.ireturn, 1) := by decide +kernel
theorem dX4_voyage_50 : decode cX4_voyage 50 = .ok (.aload_n 0, 1) := by decide +kernel
theorem dX4_voyage_51 : decode cX4_voyage 51 = .ok (.aload_n 0, 1) := by decide +kernel
theorem dX4_voyage_52 : decode cX4_voyage 52 = .ok (.getfield 23, 3) := by decide +kernel
theorem dX4_voyage_55 : decode cX4_voyage 55 = .ok (.iload_n 2, 1) := by decide +kernel
theorem dX4_voyage_56 : decode cX4_voyage 56 = .ok (.aaload, 1) := by decide +kernel
theorem dX4_voyage_57 : decode cX4_voyage 57 = .ok (.iload_n 3, 1) := by decide +kernel
theorem dX4_voyage_58 : decode cX4_voyage 58 = .ok (.iload 4, 2) := by decide +kernel
theorem dX4_voyage_60 : decode cX4_voyage 60 = .ok (.iadd, 1) := by decide +kernel
theorem dX4_voyage_61 : decode cX4_voyage 61 = .ok (.invokevirtual 218, 3) := by decide +kernel
theorem dX4_voyage_64 : decode cX4_voyage 64 = .ok (.aload_n 0, 1) := by decide +kernel
theorem dX4_voyage_65 : decode cX4_voyage 65 = .ok (.getfield 23, 3) := by decide +kernel
theorem dX4_voyage_68 : decode cX4_voyage 68 = .ok (.iload_n 1, 1) := by decide +kernel
theorem dX4_voyage_69 : decode cX4_voyage 69 = .ok (.aaload, 1) := by decide +kernel
theorem dX4_voyage_70 : decode cX4_voyage 70 = .ok (.iload_n 3, 1) := by decide +kernel
theorem dX4_voyage_71 : decode cX4_voyage 71 = .ok (.invokevirtual 218, 3) := by decide +kernel
theorem dX4_voyage_74 : decode cX4_voyage 74 = .ok (.isub, 1) := by decide +kernel
theorem dX4_voyage_75 : decode cX4_voyage 75 = .ok (.putfield 49, 3) := by decide +kernel
theorem dX4_voyage_78 : decode cX4_voyage 78 = .ok (.iconst 1, 1) := by decide +kernel
theorem dX4_voyage_79 : decode cX4_voyage 79 = .ok (.ireturn, 1) := by decide +kernel
theorem dX4_dated_0 : decode cX4_dated 0 = .ok (.iload_n 1, 1) := by decide +kernel
theorem dX4_dated_1 : decode cX4_dated 1 = .ok (.ifCond .lt 11, 3) := by decide +kernel
theorem dX4_dated_4 : decode cX4_dated 4 = .ok (.iload_n 2, 1) := by decide +kernel
theorem dX4_dated_5 : decode cX4_dated 5 = .ok (.iload_n 3, 1) := by decide +kernel
theorem dX4_dated_6 : decode cX4_dated 6 = .ok (.invokestatic 197, 3) := by decide +kernel
theorem dX4_dated_9 : decode cX4_dated 9 = .ok (.ifCond .ne 5, 3) := by decide +kernel
theorem dX4_dated_12 : decode cX4_dated 12 = .ok (.iconst (-1), 1) := by decide +kernel
theorem dX4_dated_13 : decode cX4_dated 13 = .ok (.ireturn, 1) := by decide +kernel
theorem dX4_dated_14 : decode cX4_dated 14 = .ok (.iconst 0, 1) := by decide +kernel
theorem dX4_dated_15 : decode cX4_dated 15 = .ok (.istore 4, 2) := by decide +kernel
theorem dX4_dated_17 : decode cX4_dated 17 = .ok (.iconst 0, 1) := by decide +kernel
theorem dX4_dated_18 : decode cX4_dated 18 = .ok (.istore 5, 2) := by decide +kernel
theorem dX4_dated_20 : decode cX4_dated 20 = .ok (.iload 5, 2) := by decide +kernel
theorem dX4_dated_22 : decode cX4_dated 22 = .ok (.aload_n 0, 1) := by decide +kernel
theorem dX4_dated_23 : decode cX4_dated 23 = .ok (.getfield 42, 3) := by decide +kernel
theorem dX4_dated_26 : decode cX4_dated 26 = .ok (.if_icmp .ge 49, 3) := by decide +kernel
theorem dX4_dated_29 : decode cX4_dated 29 = .ok (.aload_n 0, 1) := by decide +kernel
theorem dX4_dated_30 : decode cX4_dated 30 = .ok (.getfield 23, 3) := by decide +kernel
theorem dX4_dated_33 : decode cX4_dated 33 = .ok (.iload 5, 2) := by decide +kernel
theorem dX4_dated_35 : decode cX4_dated 35 = .ok (.aaload, 1) := by decide +kernel
theorem dX4_dated_36 : decode cX4_dated 36 = .ok (.iload_n 1, 1) := by decide +kernel
theorem dX4_dated_37 : decode cX4_dated 37 = .ok (.invokevirtual 174, 3) := by decide +kernel
theorem dX4_dated_40 : decode cX4_dated 40 = .ok (.istore 6, 2) := by decide +kernel
theorem dX4_dated_42 : decode cX4_dated 42 = .ok (.iload 6, 2) := by decide +kernel
theorem dX4_dated_44 : decode cX4_dated 44 = .ok (.iconst (-1), 1) := by decide +kernel
theorem dX4_dated_45 : decode cX4_dated 45 = .ok (.if_icmp .eq 24, 3) := by decide +kernel
theorem dX4_dated_48 : decode cX4_dated 48 = .ok (.iload 6, 2) := by decide +kernel
theorem dX4_dated_50 : decode cX4_dated 50 = .ok (.iload_n 2, 1) := by decide +kernel
theorem dX4_dated_51 : decode cX4_dated 51 = .ok (.if_icmp .lt 18, 3) := by decide +kernel
theorem dX4_dated_54 : decode cX4_dated 54 = .ok (.iload 6, 2) := by decide +kernel
theorem dX4_dated_56 : decode cX4_dated 56 = .ok (.iload_n 3, 1) := by decide +kernel
theorem dX4_dated_57 : decode cX4_dated 57 = .ok (.if_icmp .gt 12, 3) := by decide +kernel
theorem dX4_dated_60 : decode cX4_dated 60 = .ok (.iload 4, 2) := by decide +kernel
theorem dX4_dated_62 : decode cX4_dated 62 = .ok (.iconst 1, 1) := by decide +kernel
theorem dX4_dated_63 : decode cX4_dated 63 = .ok (.iload 5, 2) := by decide +kernel
theorem dX4_dated_65 : decode cX4_dated 65 = .ok (.ishl, 1) := by decide +kernel
theorem dX4_dated_66 : decode cX4_dated 66 = .ok (.ior, 1) := by decide +kernel
theorem dX4_dated_67 : decode cX4_dated 67 = .ok (.istore 4, 2) := by decide +kernel
theorem dX4_dated_69 : decode cX4_dated 69 = .ok (.iinc 5 1, 3) := by decide +kernel
theorem dX4_dated_72 : decode cX4_dated 72 = .ok (.goto (-52), 3) := by decide +kernel
theorem dX4_dated_75 : decode cX4_dated 75 = .ok (.iload 4, 2) := by decide +kernel
theorem dX4_dated_77 : decode cX4_dated 77 = .ok (.ireturn, 1) := by decide +kernel
theorem dX4_kinds_0 : decode cX4_kinds 0 = .ok (.aload_n 0, 1) := by decide +kernel
theorem dX4_kinds_1 : decode cX4_kinds 1 = .ok (.iload_n 1, 1) := by decide +kernel
theorem dX4_kinds_2 : decode cX4_kinds 2 = .ok (.invokevirtual 128, 3) := by decide +kernel
theorem dX4_kinds_5 : decode cX4_kinds 5 = .ok (.ifCond .ne 5, 3) := by decide +kernel
theorem dX4_kinds_8 : decode cX4_kinds 8 = .ok (.iconst (-1), 1) := by decide +kernel
theorem dX4_kinds_9 : decode cX4_kinds 9 = .ok (.ireturn, 1) := by decide +kernel
theorem dX4_kinds_10 : decode cX4_kinds 10 = .ok (.aload_n 0, 1) := by decide +kernel
theorem dX4_kinds_11 : decode cX4_kinds 11 = .ok (.iload_n 2, 1) := by decide +kernel
theorem dX4_kinds_12 : decode cX4_kinds 12 = .ok (.invokevirtual 84, 3) := by decide +kernel
theorem dX4_kinds_15 : decode cX4_kinds 15 = .ok (.istore_n 3, 1) := by decide +kernel
theorem dX4_kinds_16 : decode cX4_kinds 16 = .ok (.iload_n 3, 1) := by decide +kernel
theorem dX4_kinds_17 : decode cX4_kinds 17 = .ok (.ifCond .eq 5, 3) := by decide +kernel
theorem dX4_kinds_20 : decode cX4_kinds 20 = .ok (.iload_n 3, 1) := by decide +kernel
theorem dX4_kinds_21 : decode cX4_kinds 21 = .ok (.ireturn, 1) := by decide +kernel
theorem dX4_kinds_22 : decode cX4_kinds 22 = .ok (.aload_n 0, 1) := by decide +kernel
theorem dX4_kinds_23 : decode cX4_kinds 23 = .ok (.getfield 11, 3) := by decide +kernel
theorem dX4_kinds_26 : decode cX4_kinds 26 = .ok (.iload_n 2, 1) := by decide +kernel
theorem dX4_kinds_27 : decode cX4_kinds 27 = .ok (.aaload, 1) := by decide +kernel
theorem dX4_kinds_28 : decode cX4_kinds 28 = .ok (.getfield 87, 3) := by decide +kernel
theorem dX4_kinds_31 : decode cX4_kinds 31 = .ok (.iconst 2, 1) := by decide +kernel
theorem dX4_kinds_32 : decode cX4_kinds 32 = .ok (.irem, 1) := by decide +kernel
theorem dX4_kinds_33 : decode cX4_kinds 33 = .ok (.ifCond .eq 9, 3) := by decide +kernel
theorem dX4_kinds_36 : decode cX4_kinds 36 = .ok (.aload_n 0, 1) := by decide +kernel
theorem dX4_kinds_37 : decode cX4_kinds 37 = .ok (.iconst 5, 1) := by decide +kernel
theorem dX4_kinds_38 : decode cX4_kinds 38 = .ok (.invokevirtual 69, 3) := by decide +kernel
theorem dX4_kinds_41 : decode cX4_kinds 41 = .ok (.ireturn, 1) := by decide +kernel
theorem dX4_kinds_42 : decode cX4_kinds 42 = .ok (.aload_n 0, 1) := by decide +kernel
theorem dX4_kinds_43 : decode cX4_kinds 43 = .ok (.getfield 11, 3) := by decide +kernel
theorem dX4_kinds_46 : decode cX4_kinds 46 = .ok (.iload_n 2, 1) := by decide +kernel
theorem dX4_kinds_47 : decode cX4_kinds 47 = .ok (.aaload, 1) := by decide +kernel
theorem dX4_kinds_48 : decode cX4_kinds 48 = .ok (.invokestatic 255, 3) := by decide +kernel
theorem dX4_kinds_51 : decode cX4_kinds 51 = .ok (.ifCond .ne 9, 3) := by decide +kernel
theorem dX4_kinds_54 : decode cX4_kinds 54 = .ok (.aload_n 0, 1) := by decide +kernel
theorem dX4_kinds_55 : decode cX4_kinds 55 = .ok (.iconst 3, 1) := by decide +kernel
theorem dX4_kinds_56 : decode cX4_kinds 56 = .ok (.invokevirtual 69, 3) := by decide +kernel
theorem dX4_kinds_59 : decode cX4_kinds 59 = .ok (.ireturn, 1) := by decide +kernel
theorem dX4_kinds_60 : decode cX4_kinds 60 = .ok (.iconst 0, 1) := by decide +kernel
theorem dX4_kinds_61 : decode cX4_kinds 61 = .ok (.istore 4, 2) := by decide +kernel
theorem dX4_kinds_63 : decode cX4_kinds 63 = .ok (.aload_n 0, 1) := by decide +kernel
theorem dX4_kinds_64 : decode cX4_kinds 64 = .ok (.getfield 34, 3) := by decide +kernel
theorem dX4_kinds_67 : decode cX4_kinds 67 = .ok (.aload_n 0, 1) := by decide +kernel
theorem dX4_kinds_68 : decode cX4_kinds 68 = .ok (.getfield 23, 3) := by decide +kernel
theorem dX4_kinds_71 : decode cX4_kinds 71 = .ok (.iload_n 1, 1) := by decide +kernel
theorem dX4_kinds_72 : decode cX4_kinds 72 = .ok (.aaload, 1) := by decide +kernel
theorem dX4_kinds_73 : decode cX4_kinds 73 = .ok (.invokevirtual 238, 3) := by decide +kernel
theorem dX4_kinds_76 : decode cX4_kinds 76 = .ok (.iconst 0, 1) := by decide +kernel
theorem dX4_kinds_77 : decode cX4_kinds 77 = .ok (.istore 5, 2) := by decide +kernel
theorem dX4_kinds_79 : decode cX4_kinds 79 = .ok (.iload 5, 2) := by decide +kernel
theorem dX4_kinds_81 : decode cX4_kinds 81 = .ok (.bipush 6, 2) := by decide +kernel
theorem dX4_kinds_83 : decode cX4_kinds 83 = .ok (.if_icmp .ge 43, 3) := by decide +kernel
theorem dX4_kinds_86 : decode cX4_kinds 86 = .ok (.aload_n 0, 1) := by decide +kernel
theorem dX4_kinds_87 : decode cX4_kinds 87 = .ok (.getfield 34, 3) := by decide +kernel
theorem dX4_kinds_90 : decode cX4_kinds 90 = .ok (.iload 5, 2) := by decide +kernel
theorem dX4_kinds_92 : decode cX4_kinds 92 = .ok (.putfield 258, 3) := by decide +kernel
theorem dX4_kinds_95 : decode cX4_kinds 95 = .ok (.aload_n 0, 1) := by decide +kernel
theorem dX4_kinds_96 : decode cX4_kinds 96 = .ok (.getfield 34, 3) := by decide +kernel
theorem dX4_kinds_99 : decode cX4_kinds 99 = .ok (.aload_n 0, 1) := by decide +kernel
theorem dX4_kinds_100 : decode cX4_kinds 100 = .ok (.getfield 11, 3) := by decide +kernel
theorem dX4_kinds_103 : decode cX4_kinds 103 = .ok (.iload_n 2, 1) := by decide +kernel
theorem dX4_kinds_104 : decode cX4_kinds 104 = .ok (.aaload, 1) := by decide +kernel
theorem dX4_kinds_105 : decode cX4_kinds 105 = .ok (.invokestatic 261, 3) := by decide +kernel
theorem dX4_kinds_108 : decode cX4_kinds 108 = .ok (.ifCond .eq 12, 3) := by decide +kernel
theorem dX4_kinds_111 : decode cX4_kinds 111 = .ok (.iload 4, 2) := by decide +kernel
theorem dX4_kinds_113 : decode cX4_kinds 113 = .ok (.iconst 1, 1) := by decide +kernel
theorem dX4_kinds_114 : decode cX4_kinds 114 = .ok (.iload 5, 2) := by decide +kernel
theorem dX4_kinds_116 : decode cX4_kinds 116 = .ok (.ishl, 1) := by decide +kernel
theorem dX4_kinds_117 : decode cX4_kinds 117 = .ok (.ior, 1) := by decide +kernel
theorem dX4_kinds_118 : decode cX4_kinds 118 = .ok (.istore 4, 2) := by decide +kernel
theorem dX4_kinds_120 : decode cX4_kinds 120 = .ok (.iinc 5 1, 3) := by decide +kernel
theorem dX4_kinds_123 : decode cX4_kinds 123 = .ok (.goto (-44), 3) := by decide +kernel
theorem dX4_kinds_126 : decode cX4_kinds 126 = .ok (.iload 4, 2) := by decide +kernel
theorem dX4_kinds_128 : decode cX4_kinds 128 = .ok (.ireturn, 1) := by decide +kernel
theorem dX4_moon_0 : decode cX4_moon 0 = .ok (.iload_n 1, 1) := by decide +kernel
theorem dX4_moon_1 : decode cX4_moon 1 = .ok (.invokestatic 168, 3) := by decide +kernel
theorem dX4_moon_4 : decode cX4_moon 4 = .ok (.ifCond .ne 5, 3) := by decide +kernel
theorem dX4_moon_7 : decode cX4_moon 7 = .ok (.iconst (-1), 1) := by decide +kernel
theorem dX4_moon_8 : decode cX4_moon 8 = .ok (.ireturn, 1) := by decide +kernel
theorem dX4_moon_9 : decode cX4_moon 9 = .ok (.aload_n 0, 1) := by decide +kernel
theorem dX4_moon_10 : decode cX4_moon 10 = .ok (.iload_n 1, 1) := by decide +kernel
theorem dX4_moon_11 : decode cX4_moon 11 = .ok (.invokestatic 265, 3) := by decide +kernel
theorem dX4_moon_14 : decode cX4_moon 14 = .ok (.putfield 49, 3) := by decide +kernel
theorem dX4_moon_17 : decode cX4_moon 17 = .ok (.aload_n 0, 1) := by decide +kernel
theorem dX4_moon_18 : decode cX4_moon 18 = .ok (.getfield 49, 3) := by decide +kernel
theorem dX4_moon_21 : decode cX4_moon 21 = .ok (.ifCond .ne 7, 3) := by decide +kernel
theorem dX4_moon_24 : decode cX4_moon 24 = .ok (.iconst 1, 1) := by decide +kernel
theorem dX4_moon_25 : decode cX4_moon 25 = .ok (.goto 4, 3) := by decide +kernel
theorem dX4_moon_28 : decode cX4_moon 28 = .ok (.iconst 0, 1) := by decide +kernel
theorem dX4_moon_29 : decode cX4_moon 29 = .ok (.ireturn, 1) := by decide +kernel
theorem dX4_feast_0 : decode cX4_feast 0 = .ok (.aload_n 0, 1) := by decide +kernel
theorem dX4_feast_1 : decode cX4_feast 1 = .ok (.iload_n 1, 1) := by decide +kernel
theorem dX4_feast_2 : decode cX4_feast 2 = .ok (.invokevirtual 128, 3) := by decide +kernel
theorem dX4_feast_5 : decode cX4_feast 5 = .ok (.ifCond .eq 23, 3) := by decide +kernel
theorem dX4_feast_8 : decode cX4_feast 8 = .ok (.iload_n 2, 1) := by decide +kernel
theorem dX4_feast_9 : decode cX4_feast 9 = .ok (.invokestatic 268, 3) := by decide +kernel
theorem dX4_feast_12 : decode cX4_feast 12 = .ok (.ifCond .eq 16, 3) := by decide +kernel
theorem dX4_feast_15 : decode cX4_feast 15 = .ok (.aload_n 0, 1) := by decide +kernel
theorem dX4_feast_16 : decode cX4_feast 16 = .ok (.getfield 23, 3) := by decide +kernel
theorem dX4_feast_19 : decode cX4_feast 19 = .ok (.iload_n 1, 1) := by decide +kernel
theorem dX4_feast_20 : decode cX4_feast 20 = .ok (.aaload, 1) := by decide +kernel
theorem dX4_feast_21 : decode cX4_feast 21 = .ok (.iload_n 2, 1) := by decide +kernel
theorem dX4_feast_22 : decode cX4_feast 22 = .ok (.invokestatic 271, 3) := by decide +kernel
theorem dX4_feast_25 : decode cX4_feast 25 = .ok (.goto 4, 3) := by decide +kernel
theorem dX4_feast_28 : decode cX4_feast 28 = .ok (.iconst (-1), 1) := by decide +kernel
theorem dX4_feast_29 : decode cX4_feast 29 = .ok (.ireturn, 1) := by decide +kernel
theorem dX4_together_0 : decode cX4_together 0 = .ok (.aload_n 0, 1) := by decide +kernel
theorem dX4_together_1 : decode cX4_together 1 = .ok (.iload_n 1, 1) := by decide +kernel
theorem dX4_together_2 : decode cX4_together 2 = .ok (.invokevirtual 128, 3) := by decide +kernel
theorem dX4_together_5 : decode cX4_together 5 = .ok (.ifCond .eq 32, 3) := by decide +kernel
theorem dX4_together_8 : decode cX4_together 8 = .ok (.aload_n 0, 1) := by decide +kernel
theorem dX4_together_9 : decode cX4_together 9 = .ok (.iload_n 2, 1) := by decide +kernel
theorem dX4_together_10 : decode cX4_together 10 = .ok (.invokevirtual 128, 3) := by decide +kernel
theorem dX4_together_13 : decode cX4_together 13 = .ok (.ifCond .eq 24, 3) := by decide +kernel
theorem dX4_together_16 : decode cX4_together 16 = .ok (.iload_n 3, 1) := by decide +kernel
theorem dX4_together_17 : decode cX4_together 17 = .ok (.invokestatic 268, 3) := by decide +kernel
theorem dX4_together_20 : decode cX4_together 20 = .ok (.ifCond .eq 17, 3) := by decide +kernel
theorem dX4_together_23 : decode cX4_together 23 = .ok (.iload 4, 2) := by decide +kernel
theorem dX4_together_25 : decode cX4_together 25 = .ok (.invokestatic 268, 3) := by decide +kernel
theorem dX4_together_28 : decode cX4_together 28 = .ok (.ifCond .eq 9, 3) := by decide +kernel
theorem dX4_together_31 : decode cX4_together 31 = .ok (.iload 4, 2) := by decide +kernel
theorem dX4_together_33 : decode cX4_together 33 = .ok (.iload_n 3, 1) := by decide +kernel
theorem dX4_together_34 : decode cX4_together 34 = .ok (.if_icmp .ge 5, 3) := by decide +kernel
theorem dX4_together_37 : decode cX4_together 37 = .ok (.iconst (-1), 1) := by decide +kernel
theorem dX4_together_38 : decode cX4_together 38 = .ok (.ireturn, 1) := by decide +kernel
theorem dX4_together_39 : decode cX4_together 39 = .ok (.iconst 0, 1) := by decide +kernel
theorem dX4_together_40 : decode cX4_together 40 = .ok (.istore 5, 2) := by decide +kernel
theorem dX4_together_42 : decode cX4_together 42 = .ok (.iload_n 3, 1) := by decide +kernel
theorem dX4_together_43 : decode cX4_together 43 = .ok (.istore 6, 2) := by decide +kernel
theorem dX4_together_45 : decode cX4_together 45 = .ok (.iload 6, 2) := by decide +kernel
theorem dX4_together_47 : decode cX4_together 47 = .ok (.iload 4, 2) := by decide +kernel
theorem dX4_together_49 : decode cX4_together 49 = .ok (.if_icmp .gt 48, 3) := by decide +kernel
theorem dX4_together_52 : decode cX4_together 52 = .ok (.aload_n 0, 1) := by decide +kernel
theorem dX4_together_53 : decode cX4_together 53 = .ok (.getfield 23, 3) := by decide +kernel
theorem dX4_together_56 : decode cX4_together 56 = .ok (.iload_n 1, 1) := by decide +kernel
theorem dX4_together_57 : decode cX4_together 57 = .ok (.aaload, 1) := by decide +kernel
theorem dX4_together_58 : decode cX4_together 58 = .ok (.iload 6, 2) := by decide +kernel
theorem dX4_together_60 : decode cX4_together 60 = .ok (.invokestatic 271, 3) := by decide +kernel
theorem dX4_together_63 : decode cX4_together 63 = .ok (.istore 7, 2) := by decide +kernel
theorem dX4_together_65 : decode cX4_together 65 = .ok (.iload 7, 2) := by decide +kernel
theorem dX4_together_67 : decode cX4_together 67 = .ok (.bipush (-9), 2) := by decide +kernel
theorem dX4_together_69 : decode cX4_together 69 = .ok (.if_icmp .eq 22, 3) := by decide +kernel
theorem dX4_together_72 : decode cX4_together 72 = .ok (.iload 7, 2) := by decide +kernel
theorem dX4_together_74 : decode cX4_together 74 = .ok (.aload_n 0, 1) := by decide +kernel
theorem dX4_together_75 : decode cX4_together 75 = .ok (.getfield 23, 3) := by decide +kernel
theorem dX4_together_78 : decode cX4_together 78 = .ok (.iload_n 2, 1) := by decide +kernel
theorem dX4_together_79 : decode cX4_together 79 = .ok (.aaload, 1) := by decide +kernel
theorem dX4_together_80 : decode cX4_together 80 = .ok (.iload 6, 2) := by decide +kernel
theorem dX4_together_82 : decode cX4_together 82 = .ok (.invokestatic 271, 3) := by decide +kernel
theorem dX4_together_85 : decode cX4_together 85 = .ok (.if_icmp .ne 6, 3) := by decide +kernel
theorem dX4_together_88 : decode cX4_together 88 = .ok (.iinc 5 1, 3) := by decide +kernel
theorem dX4_together_91 : decode cX4_together 91 = .ok (.iinc 6 1, 3) := by decide +kernel
theorem dX4_together_94 : decode cX4_together 94 = .ok (.goto (-49), 3) := by decide +kernel
theorem dX4_together_97 : decode cX4_together 97 = .ok (.iload 5, 2) := by decide +kernel
theorem dX4_together_99 : decode cX4_together 99 = .ok (.ireturn, 1) := by decide +kernel
theorem dX4_keeps_0 : decode cX4_keeps 0 = .ok (.iload_n 1, 1) := by decide +kernel
theorem dX4_keeps_1 : decode cX4_keeps 1 = .ok (.iconst 0, 1) := by decide +kernel
theorem dX4_keeps_2 : decode cX4_keeps 2 = .ok (.bipush 99, 2) := by decide +kernel
theorem dX4_keeps_4 : decode cX4_keeps 4 = .ok (.invokestatic 140, 3) := by decide +kernel
theorem dX4_keeps_7 : decode cX4_keeps 7 = .ok (.ifCond .eq 21, 3) := by decide +kernel
theorem dX4_keeps_10 : decode cX4_keeps 10 = .ok (.iload_n 2, 1) := by decide +kernel
theorem dX4_keeps_11 : decode cX4_keeps 11 = .ok (.invokestatic 275, 3) := by decide +kernel
theorem dX4_keeps_14 : decode cX4_keeps 14 = .ok (.ifCond .eq 14, 3) := by decide +kernel
theorem dX4_keeps_17 : decode cX4_keeps 17 = .ok (.iload_n 3, 1) := by decide +kernel
theorem dX4_keeps_18 : decode cX4_keeps 18 = .ok (.iconst 1, 1) := by decide +kernel
theorem dX4_keeps_19 : decode cX4_keeps 19 = .ok (.sipush 150, 3) := by decide +kernel
theorem dX4_keeps_22 : decode cX4_keeps 22 = .ok (.invokestatic 140, 3) := by decide +kernel
theorem dX4_keeps_25 : decode cX4_keeps 25 = .ok (.ifCond .ne 5, 3) := by decide +kernel
theorem dX4_keeps_28 : decode cX4_keeps 28 = .ok (.iconst (-1), 1) := by decide +kernel
theorem dX4_keeps_29 : decode cX4_keeps 29 = .ok (.ireturn, 1) := by decide +kernel
theorem dX4_keeps_30 : decode cX4_keeps 30 = .ok (.iconst 2, 1) := by decide +kernel
theorem dX4_keeps_31 : decode cX4_keeps 31 = .ok (.istore 4, 2) := by decide +kernel
theorem dX4_keeps_33 : decode cX4_keeps 33 = .ok (.iload 4, 2) := by decide +kernel
theorem dX4_keeps_35 : decode cX4_keeps 35 = .ok (.bipush 9, 2) := by decide +kernel
theorem dX4_keeps_37 : decode cX4_keeps 37 = .ok (.if_icmp .gt 25, 3) := by decide +kernel
theorem dX4_keeps_40 : decode cX4_keeps 40 = .ok (.iload 4, 2) := by decide +kernel
theorem dX4_keeps_42 : decode cX4_keeps 42 = .ok (.iload_n 1, 1) := by decide +kernel
theorem dX4_keeps_43 : decode cX4_keeps 43 = .ok (.iload_n 2, 1) := by decide +kernel
theorem dX4_keeps_44 : decode cX4_keeps 44 = .ok (.iload_n 3, 1) := by decide +kernel
theorem dX4_keeps_45 : decode cX4_keeps 45 = .ok (.invokestatic 278, 3) := by decide +kernel
theorem dX4_keeps_48 : decode cX4_keeps 48 = .ok (.bipush (-9), 2) := by decide +kernel
theorem dX4_keeps_50 : decode cX4_keeps 50 = .ok (.if_icmp .ne 6, 3) := by decide +kernel
theorem dX4_keeps_53 : decode cX4_keeps 53 = .ok (.iload 4, 2) := by decide +kernel
theorem dX4_keeps_55 : decode cX4_keeps 55 = .ok (.ireturn, 1) := by decide +kernel
theorem dX4_keeps_56 : decode cX4_keeps 56 = .ok (.iinc 4 1, 3) := by decide +kernel
theorem dX4_keeps_59 : decode cX4_keeps 59 = .ok (.goto (-26), 3) := by decide +kernel
theorem dX4_keeps_62 : decode cX4_keeps 62 = .ok (.bipush (-9), 2) := by decide +kernel
theorem dX4_keeps_64 : decode cX4_keeps 64 = .ok (.ireturn, 1) := by decide +kernel
theorem dX4_fails_0 : decode cX4_fails 0 = .ok (.iload_n 1, 1) := by decide +kernel
theorem dX4_fails_1 : decode cX4_fails 1 = .ok (.invokestatic 150, 3) := by decide +kernel
theorem dX4_fails_4 : decode cX4_fails 4 = .ok (.ifCond .eq 20, 3) := by decide +kernel
theorem dX4_fails_7 : decode cX4_fails 7 = .ok (.iload_n 2, 1) := by decide +kernel
theorem dX4_fails_8 : decode cX4_fails 8 = .ok (.iconst 0, 1) := by decide +kernel
theorem dX4_fails_9 : decode cX4_fails 9 = .ok (.bipush 99, 2) := by decide +kernel
theorem dX4_fails_11 : decode cX4_fails 11 = .ok (.invokestatic 140, 3) := by decide +kernel
theorem dX4_fails_14 : decode cX4_fails 14 = .ok (.ifCond .eq 10, 3) := by decide +kernel
theorem dX4_fails_17 : decode cX4_fails 17 = .ok (.iload_n 3, 1) := by decide +kernel
theorem dX4_fails_18 : decode cX4_fails 18 = .ok (.invokestatic 275, 3) := by decide +kernel
theorem dX4_fails_21 : decode cX4_fails 21 = .ok (.ifCond .ne 5, 3) := by decide +kernel
theorem dX4_fails_24 : decode cX4_fails 24 = .ok (.iconst (-1), 1) := by decide +kernel
theorem dX4_fails_25 : decode cX4_fails 25 = .ok (.ireturn, 1) := by decide +kernel
theorem dX4_fails_26 : decode cX4_fails 26 = .ok (.iload_n 1, 1) := by decide +kernel
theorem dX4_fails_27 : decode cX4_fails 27 = .ok (.iload_n 2, 1) := by decide +kernel
theorem dX4_fails_28 : decode cX4_fails 28 = .ok (.iload_n 3, 1) := by decide +kernel
theorem dX4_fails_29 : decode cX4_fails 29 = .ok (.sipush 150, 3) := by decide +kernel
theorem dX4_fails_32 : decode cX4_fails 32 = .ok (.invokestatic 278, 3) := by decide +kernel
theorem dX4_fails_35 : decode cX4_fails 35 = .ok (.ireturn, 1) := by decide +kernel
theorem dX4_lots_0 : decode cX4_lots 0 = .ok (.aload_n 0, 1) := by decide +kernel
theorem dX4_lots_1 : decode cX4_lots 1 = .ok (.iload_n 1, 1) := by decide +kernel
theorem dX4_lots_2 : decode cX4_lots 2 = .ok (.invokevirtual 128, 3) := by decide +kernel
theorem dX4_lots_5 : decode cX4_lots 5 = .ok (.ifCond .eq 33, 3) := by decide +kernel
theorem dX4_lots_8 : decode cX4_lots 8 = .ok (.aload_n 0, 1) := by decide +kernel
theorem dX4_lots_9 : decode cX4_lots 9 = .ok (.iload_n 2, 1) := by decide +kernel
theorem dX4_lots_10 : decode cX4_lots 10 = .ok (.invokevirtual 128, 3) := by decide +kernel
theorem dX4_lots_13 : decode cX4_lots 13 = .ok (.ifCond .eq 25, 3) := by decide +kernel
theorem dX4_lots_16 : decode cX4_lots 16 = .ok (.iload_n 3, 1) := by decide +kernel
theorem dX4_lots_17 : decode cX4_lots 17 = .ok (.iconst 1, 1) := by decide +kernel
theorem dX4_lots_18 : decode cX4_lots 18 = .ok (.bipush 40, 2) := by decide +kernel
theorem dX4_lots_20 : decode cX4_lots 20 = .ok (.invokestatic 140, 3) := by decide +kernel
theorem dX4_lots_23 : decode cX4_lots 23 = .ok (.ifCond .eq 15, 3) := by decide +kernel
theorem dX4_lots_26 : decode cX4_lots 26 = .ok (.iload 4, 2) := by decide +kernel
theorem dX4_lots_28 : decode cX4_lots 28 = .ok (.iconst 1, 1) := by decide +kernel
theorem dX4_lots_29 : decode cX4_lots 29 = .ok (.ldc_w 282, 3) := by decide +kernel
theorem dX4_lots_32 : decode cX4_lots 32 = .ok (.invokestatic 140, 3) := by decide +kernel
theorem dX4_lots_35 : decode cX4_lots 35 = .ok (.ifCond .ne 5, 3) := by decide +kernel
theorem dX4_lots_38 : decode cX4_lots 38 = .ok (.iconst (-1), 1) := by decide +kernel
theorem dX4_lots_39 : decode cX4_lots 39 = .ok (.ireturn, 1) := by decide +kernel
theorem dX4_lots_40 : decode cX4_lots 40 = .ok (.iconst 0, 1) := by decide +kernel
theorem dX4_lots_41 : decode cX4_lots 41 = .ok (.istore 5, 2) := by decide +kernel
theorem dX4_lots_43 : decode cX4_lots 43 = .ok (.iload 4, 2) := by decide +kernel
theorem dX4_lots_45 : decode cX4_lots 45 = .ok (.i2l, 1) := by decide +kernel
theorem dX4_lots_46 : decode cX4_lots 46 = .ok (.lstore 6, 2) := by decide +kernel
theorem dX4_lots_48 : decode cX4_lots 48 = .ok (.iconst 0, 1) := by decide +kernel
theorem dX4_lots_49 : decode cX4_lots 49 = .ok (.istore 8, 2) := by decide +kernel
theorem dX4_lots_51 : decode cX4_lots 51 = .ok (.iload 8, 2) := by decide +kernel
theorem dX4_lots_53 : decode cX4_lots 53 = .ok (.iload_n 3, 1) := by decide +kernel
theorem dX4_lots_54 : decode cX4_lots 54 = .ok (.if_icmp .ge 40, 3) := by decide +kernel
theorem dX4_lots_57 : decode cX4_lots 57 = .ok (.lload 6, 2) := by decide +kernel
theorem dX4_lots_59 : decode cX4_lots 59 = .ok (.ldc2_w 283, 3) := by decide +kernel
theorem dX4_lots_62 : decode cX4_lots 62 = .ok (.lmul, 1) := by decide +kernel
theorem dX4_lots_63 : decode cX4_lots 63 = .ok (.ldc2_w 285, 3) := by decide +kernel
theorem dX4_lots_66 : decode cX4_lots 66 = .ok (.lrem, 1) := by decide +kernel
theorem dX4_lots_67 : decode cX4_lots 67 = .ok (.lstore 6, 2) := by decide +kernel
theorem dX4_lots_69 : decode cX4_lots 69 = .ok (.aload_n 0, 1) := by decide +kernel
theorem dX4_lots_70 : decode cX4_lots 70 = .ok (.iload_n 1, 1) := by decide +kernel
theorem dX4_lots_71 : decode cX4_lots 71 = .ok (.iload_n 2, 1) := by decide +kernel
theorem dX4_lots_72 : decode cX4_lots 72 = .ok (.lload 6, 2) := by decide +kernel
theorem dX4_lots_74 : decode cX4_lots 74 = .ok (.ldc2_w 287, 3) := by decide +kernel
theorem dX4_lots_77 : decode cX4_lots 77 = .ok (.lrem, 1) := by decide +kernel
theorem dX4_lots_78 : decode cX4_lots 78 = .ok (.l2i, 1) := by decide +kernel
theorem dX4_lots_79 : decode cX4_lots 79 = .ok (.invokevirtual 212, 3) := by decide +kernel
theorem dX4_lots_82 : decode cX4_lots 82 = .ok (.ifCond .eq 6, 3) := by decide +kernel
theorem dX4_lots_85 : decode cX4_lots 85 = .ok (.iinc 5 1, 3) := by decide +kernel
theorem dX4_lots_88 : decode cX4_lots 88 = .ok (.iinc 8 1, 3) := by decide +kernel
theorem dX4_lots_91 : decode cX4_lots 91 = .ok (.goto (-40), 3) := by decide +kernel
theorem dX4_lots_94 : decode cX4_lots 94 = .ok (.iload 5, 2) := by decide +kernel
theorem dX4_lots_96 : decode cX4_lots 96 = .ok (.ireturn, 1) := by decide +kernel
theorem dX4_asked_0 : decode cX4_asked 0 = .ok (.aload_n 0, 1) := by decide +kernel
theorem dX4_asked_1 : decode cX4_asked 1 = .ok (.getfield 49, 3) := by decide +kernel
theorem dX4_asked_4 : decode cX4_asked 4 = .ok (.ireturn, 1) := by decide +kernel
theorem dX4_upper_0 : decode cX4_upper 0 = .ok (.aload_n 0, 1) := by decide +kernel
theorem dX4_upper_1 : decode cX4_upper 1 = .ok (.getfield 52, 3) := by decide +kernel
theorem dX4_upper_4 : decode cX4_upper 4 = .ok (.lreturn, 1) := by decide +kernel
theorem dX4_lower_0 : decode cX4_lower 0 = .ok (.aload_n 0, 1) := by decide +kernel
theorem dX4_lower_1 : decode cX4_lower 1 = .ok (.getfield 56, 3) := by decide +kernel
theorem dX4_lower_4 : decode cX4_lower 4 = .ok (.lreturn, 1) := by decide +kernel
theorem dX4_count_0 : decode cX4_count 0 = .ok (.iload_n 1, 1) := by decide +kernel
theorem dX4_count_1 : decode cX4_count 1 = .ok (.tableswitch 80 0 6 #[43, 48, 53, 59, 65, 70, 75], 43) := by decide +kernel
theorem dX4_count_44 : decode cX4_count 44 = .ok (.aload_n 0, 1) := by decide +kernel
theorem dX4_count_45 : decode cX4_count 45 = .ok (.getfield 42, 3) := by decide +kernel
theorem dX4_count_48 : decode cX4_count 48 = .ok (.ireturn, 1) := by decide +kernel
theorem dX4_count_49 : decode cX4_count 49 = .ok (.aload_n 0, 1) := by decide +kernel
theorem dX4_count_50 : decode cX4_count 50 = .ok (.getfield 46, 3) := by decide +kernel
theorem dX4_count_53 : decode cX4_count 53 = .ok (.ireturn, 1) := by decide +kernel
theorem dX4_count_54 : decode cX4_count 54 = .ok (.aload_n 0, 1) := by decide +kernel
theorem dX4_count_55 : decode cX4_count 55 = .ok (.iconst 1, 1) := by decide +kernel
theorem dX4_count_56 : decode cX4_count 56 = .ok (.invokevirtual 289, 3) := by decide +kernel
theorem dX4_count_59 : decode cX4_count 59 = .ok (.ireturn, 1) := by decide +kernel
theorem dX4_count_60 : decode cX4_count 60 = .ok (.aload_n 0, 1) := by decide +kernel
theorem dX4_count_61 : decode cX4_count 61 = .ok (.iconst 2, 1) := by decide +kernel
theorem dX4_count_62 : decode cX4_count 62 = .ok (.invokevirtual 289, 3) := by decide +kernel
theorem dX4_count_65 : decode cX4_count 65 = .ok (.ireturn, 1) := by decide +kernel
theorem dX4_count_66 : decode cX4_count 66 = .ok (.aload_n 0, 1) := by decide +kernel
theorem dX4_count_67 : decode cX4_count 67 = .ok (.invokevirtual 292, 3) := by decide +kernel
theorem dX4_count_70 : decode cX4_count 70 = .ok (.ireturn, 1) := by decide +kernel
theorem dX4_count_71 : decode cX4_count 71 = .ok (.aload_n 0, 1) := by decide +kernel
theorem dX4_count_72 : decode cX4_count 72 = .ok (.invokevirtual 295, 3) := by decide +kernel
theorem dX4_count_75 : decode cX4_count 75 = .ok (.ireturn, 1) := by decide +kernel
theorem dX4_count_76 : decode cX4_count 76 = .ok (.aload_n 0, 1) := by decide +kernel
theorem dX4_count_77 : decode cX4_count 77 = .ok (.invokevirtual 298, 3) := by decide +kernel
theorem dX4_count_80 : decode cX4_count 80 = .ok (.ireturn, 1) := by decide +kernel
theorem dX4_count_81 : decode cX4_count 81 = .ok (.iconst (-1), 1) := by decide +kernel
theorem dX4_count_82 : decode cX4_count 82 = .ok (.ireturn, 1) := by decide +kernel
theorem dX4_finding_0 : decode cX4_finding 0 = .ok (.aload_n 0, 1) := by decide +kernel
theorem dX4_finding_1 : decode cX4_finding 1 = .ok (.getfield 59, 3) := by decide +kernel
theorem dX4_finding_4 : decode cX4_finding 4 = .ok (.ireturn, 1) := by decide +kernel
theorem dX4_findings_0 : decode cX4_findings 0 = .ok (.iload_n 1, 1) := by decide +kernel
theorem dX4_findings_1 : decode cX4_findings 1 = .ok (.iconst 1, 1) := by decide +kernel
theorem dX4_findings_2 : decode cX4_findings 2 = .ok (.iconst 5, 1) := by decide +kernel
theorem dX4_findings_3 : decode cX4_findings 3 = .ok (.invokestatic 140, 3) := by decide +kernel
theorem dX4_findings_6 : decode cX4_findings 6 = .ok (.ifCond .eq 12, 3) := by decide +kernel
theorem dX4_findings_9 : decode cX4_findings 9 = .ok (.aload_n 0, 1) := by decide +kernel
theorem dX4_findings_10 : decode cX4_findings 10 = .ok (.getfield 38, 3) := by decide +kernel
theorem dX4_findings_13 : decode cX4_findings 13 = .ok (.iload_n 1, 1) := by decide +kernel
theorem dX4_findings_14 : decode cX4_findings 14 = .ok (.iaload, 1) := by decide +kernel
theorem dX4_findings_15 : decode cX4_findings 15 = .ok (.goto 4, 3) := by decide +kernel
theorem dX4_findings_18 : decode cX4_findings 18 = .ok (.iconst (-1), 1) := by decide +kernel
theorem dX4_findings_19 : decode cX4_findings 19 = .ok (.ireturn, 1) := by decide +kernel
theorem dX4_digest_0 : decode cX4_digest 0 = .ok (.ldc2_w 301, 3) := by decide +kernel
theorem dX4_digest_3 : decode cX4_digest 3 = .ok (.lstore_n 1, 1) := by decide +kernel
theorem dX4_digest_4 : decode cX4_digest 4 = .ok (.iconst 0, 1) := by decide +kernel
theorem dX4_digest_5 : decode cX4_digest 5 = .ok (.istore_n 3, 1) := by decide +kernel
theorem dX4_digest_6 : decode cX4_digest 6 = .ok (.iload_n 3, 1) := by decide +kernel
theorem dX4_digest_7 : decode cX4_digest 7 = .ok (.bipush 6, 2) := by decide +kernel
theorem dX4_digest_9 : decode cX4_digest 9 = .ok (.if_icmp .gt 22, 3) := by decide +kernel
theorem dX4_digest_12 : decode cX4_digest 12 = .ok (.ldc2_w 303, 3) := by decide +kernel
theorem dX4_digest_15 : decode cX4_digest 15 = .ok (.lload_n 1, 1) := by decide +kernel
theorem dX4_digest_16 : decode cX4_digest 16 = .ok (.lmul, 1) := by decide +kernel
theorem dX4_digest_17 : decode cX4_digest 17 = .ok (.aload_n 0, 1) := by decide +kernel
theorem dX4_digest_18 : decode cX4_digest 18 = .ok (.iload_n 3, 1) := by decide +kernel
theorem dX4_digest_19 : decode cX4_digest 19 = .ok (.invokevirtual 305, 3) := by decide +kernel
theorem dX4_digest_22 : decode cX4_digest 22 = .ok (.i2l, 1) := by decide +kernel
theorem dX4_digest_23 : decode cX4_digest 23 = .ok (.ladd, 1) := by decide +kernel
theorem dX4_digest_24 : decode cX4_digest 24 = .ok (.lstore_n 1, 1) := by decide +kernel
end
section
theorem dX4_digest_25 : decode cX4_digest 25 = .ok (.iinc 3 1, 3) := by decide +kernel
theorem dX4_digest_28 : decode cX4_digest 28 = .ok (.goto (-22), 3) := by decide +kernel
theorem dX4_digest_31 : decode cX4_digest 31 = .ok (.iconst 0, 1) := by decide +kernel
theorem dX4_digest_32 : decode cX4_digest 32 = .ok (.istore_n 3, 1) := by decide +kernel
theorem dX4_digest_33 : decode cX4_digest 33 = .ok (.iload_n 3, 1) := by decide +kernel
theorem dX4_digest_34 : decode cX4_digest 34 = .ok (.aload_n 0, 1) := by decide +kernel
theorem dX4_digest_35 : decode cX4_digest 35 = .ok (.getfield 42, 3) := by decide +kernel
theorem dX4_digest_38 : decode cX4_digest 38 = .ok (.if_icmp .ge 39, 3) := by decide +kernel
theorem dX4_digest_41 : decode cX4_digest 41 = .ok (.iconst 0, 1) := by decide +kernel
theorem dX4_digest_42 : decode cX4_digest 42 = .ok (.istore 4, 2) := by decide +kernel
theorem dX4_digest_44 : decode cX4_digest 44 = .ok (.iload 4, 2) := by decide +kernel
theorem dX4_digest_46 : decode cX4_digest 46 = .ok (.iconst 4, 1) := by decide +kernel
theorem dX4_digest_47 : decode cX4_digest 47 = .ok (.if_icmp .gt 24, 3) := by decide +kernel
theorem dX4_digest_50 : decode cX4_digest 50 = .ok (.ldc2_w 303, 3) := by decide +kernel
theorem dX4_digest_53 : decode cX4_digest 53 = .ok (.lload_n 1, 1) := by decide +kernel
theorem dX4_digest_54 : decode cX4_digest 54 = .ok (.lmul, 1) := by decide +kernel
theorem dX4_digest_55 : decode cX4_digest 55 = .ok (.aload_n 0, 1) := by decide +kernel
theorem dX4_digest_56 : decode cX4_digest 56 = .ok (.iload_n 3, 1) := by decide +kernel
theorem dX4_digest_57 : decode cX4_digest 57 = .ok (.iload 4, 2) := by decide +kernel
theorem dX4_digest_59 : decode cX4_digest 59 = .ok (.invokevirtual 131, 3) := by decide +kernel
theorem dX4_digest_62 : decode cX4_digest 62 = .ok (.i2l, 1) := by decide +kernel
theorem dX4_digest_63 : decode cX4_digest 63 = .ok (.ladd, 1) := by decide +kernel
theorem dX4_digest_64 : decode cX4_digest 64 = .ok (.lstore_n 1, 1) := by decide +kernel
theorem dX4_digest_65 : decode cX4_digest 65 = .ok (.iinc 4 1, 3) := by decide +kernel
theorem dX4_digest_68 : decode cX4_digest 68 = .ok (.goto (-24), 3) := by decide +kernel
theorem dX4_digest_71 : decode cX4_digest 71 = .ok (.iinc 3 1, 3) := by decide +kernel
theorem dX4_digest_74 : decode cX4_digest 74 = .ok (.goto (-41), 3) := by decide +kernel
theorem dX4_digest_77 : decode cX4_digest 77 = .ok (.iconst 0, 1) := by decide +kernel
theorem dX4_digest_78 : decode cX4_digest 78 = .ok (.istore_n 3, 1) := by decide +kernel
theorem dX4_digest_79 : decode cX4_digest 79 = .ok (.iload_n 3, 1) := by decide +kernel
theorem dX4_digest_80 : decode cX4_digest 80 = .ok (.iconst 3, 1) := by decide +kernel
theorem dX4_digest_81 : decode cX4_digest 81 = .ok (.if_icmp .ge 42, 3) := by decide +kernel
theorem dX4_digest_84 : decode cX4_digest 84 = .ok (.ldc2_w 303, 3) := by decide +kernel
theorem dX4_digest_87 : decode cX4_digest 87 = .ok (.lload_n 1, 1) := by decide +kernel
theorem dX4_digest_88 : decode cX4_digest 88 = .ok (.lmul, 1) := by decide +kernel
theorem dX4_digest_89 : decode cX4_digest 89 = .ok (.aload_n 0, 1) := by decide +kernel
theorem dX4_digest_90 : decode cX4_digest 90 = .ok (.getfield 29, 3) := by decide +kernel
theorem dX4_digest_93 : decode cX4_digest 93 = .ok (.iload_n 3, 1) := by decide +kernel
theorem dX4_digest_94 : decode cX4_digest 94 = .ok (.aaload, 1) := by decide +kernel
theorem dX4_digest_95 : decode cX4_digest 95 = .ok (.getfield 124, 3) := by decide +kernel
theorem dX4_digest_98 : decode cX4_digest 98 = .ok (.ifCond .eq 15, 3) := by decide +kernel
theorem dX4_digest_101 : decode cX4_digest 101 = .ok (.aload_n 0, 1) := by decide +kernel
theorem dX4_digest_102 : decode cX4_digest 102 = .ok (.getfield 29, 3) := by decide +kernel
theorem dX4_digest_105 : decode cX4_digest 105 = .ok (.iload_n 3, 1) := by decide +kernel
theorem dX4_digest_106 : decode cX4_digest 106 = .ok (.aaload, 1) := by decide +kernel
theorem dX4_digest_107 : decode cX4_digest 107 = .ok (.getfield 167, 3) := by decide +kernel
theorem dX4_digest_110 : decode cX4_digest 110 = .ok (.goto 4, 3) := by decide +kernel
theorem dX4_digest_113 : decode cX4_digest 113 = .ok (.iconst (-1), 1) := by decide +kernel
theorem dX4_digest_114 : decode cX4_digest 114 = .ok (.i2l, 1) := by decide +kernel
theorem dX4_digest_115 : decode cX4_digest 115 = .ok (.ladd, 1) := by decide +kernel
theorem dX4_digest_116 : decode cX4_digest 116 = .ok (.lstore_n 1, 1) := by decide +kernel
theorem dX4_digest_117 : decode cX4_digest 117 = .ok (.iinc 3 1, 3) := by decide +kernel
theorem dX4_digest_120 : decode cX4_digest 120 = .ok (.goto (-41), 3) := by decide +kernel
theorem dX4_digest_123 : decode cX4_digest 123 = .ok (.iconst 0, 1) := by decide +kernel
theorem dX4_digest_124 : decode cX4_digest 124 = .ok (.istore_n 3, 1) := by decide +kernel
theorem dX4_digest_125 : decode cX4_digest 125 = .ok (.iload_n 3, 1) := by decide +kernel
theorem dX4_digest_126 : decode cX4_digest 126 = .ok (.bipush 6, 2) := by decide +kernel
theorem dX4_digest_128 : decode cX4_digest 128 = .ok (.if_icmp .ge 20, 3) := by decide +kernel
theorem dX4_digest_131 : decode cX4_digest 131 = .ok (.aload_n 0, 1) := by decide +kernel
theorem dX4_digest_132 : decode cX4_digest 132 = .ok (.getfield 11, 3) := by decide +kernel
theorem dX4_digest_135 : decode cX4_digest 135 = .ok (.iload_n 3, 1) := by decide +kernel
theorem dX4_digest_136 : decode cX4_digest 136 = .ok (.aaload, 1) := by decide +kernel
theorem dX4_digest_137 : decode cX4_digest 137 = .ok (.lload_n 1, 1) := by decide +kernel
theorem dX4_digest_138 : decode cX4_digest 138 = .ok (.invokevirtual 308, 3) := by decide +kernel
theorem dX4_digest_141 : decode cX4_digest 141 = .ok (.lstore_n 1, 1) := by decide +kernel
theorem dX4_digest_142 : decode cX4_digest 142 = .ok (.iinc 3 1, 3) := by decide +kernel
theorem dX4_digest_145 : decode cX4_digest 145 = .ok (.goto (-20), 3) := by decide +kernel
theorem dX4_digest_148 : decode cX4_digest 148 = .ok (.iconst 0, 1) := by decide +kernel
theorem dX4_digest_149 : decode cX4_digest 149 = .ok (.istore_n 3, 1) := by decide +kernel
theorem dX4_digest_150 : decode cX4_digest 150 = .ok (.iload_n 3, 1) := by decide +kernel
theorem dX4_digest_151 : decode cX4_digest 151 = .ok (.iconst 4, 1) := by decide +kernel
theorem dX4_digest_152 : decode cX4_digest 152 = .ok (.if_icmp .ge 20, 3) := by decide +kernel
theorem dX4_digest_155 : decode cX4_digest 155 = .ok (.aload_n 0, 1) := by decide +kernel
theorem dX4_digest_156 : decode cX4_digest 156 = .ok (.getfield 17, 3) := by decide +kernel
theorem dX4_digest_159 : decode cX4_digest 159 = .ok (.iload_n 3, 1) := by decide +kernel
theorem dX4_digest_160 : decode cX4_digest 160 = .ok (.aaload, 1) := by decide +kernel
theorem dX4_digest_161 : decode cX4_digest 161 = .ok (.lload_n 1, 1) := by decide +kernel
theorem dX4_digest_162 : decode cX4_digest 162 = .ok (.invokevirtual 312, 3) := by decide +kernel
theorem dX4_digest_165 : decode cX4_digest 165 = .ok (.lstore_n 1, 1) := by decide +kernel
theorem dX4_digest_166 : decode cX4_digest 166 = .ok (.iinc 3 1, 3) := by decide +kernel
theorem dX4_digest_169 : decode cX4_digest 169 = .ok (.goto (-19), 3) := by decide +kernel
theorem dX4_digest_172 : decode cX4_digest 172 = .ok (.lload_n 1, 1) := by decide +kernel
theorem dX4_digest_173 : decode cX4_digest 173 = .ok (.lreturn, 1) := by decide +kernel
theorem dX4_isWithin_0 : decode cX4_isWithin 0 = .ok (.iload_n 0, 1) := by decide +kernel
theorem dX4_isWithin_1 : decode cX4_isWithin 1 = .ok (.iload_n 1, 1) := by decide +kernel
theorem dX4_isWithin_2 : decode cX4_isWithin 2 = .ok (.if_icmp .lt 12, 3) := by decide +kernel
theorem dX4_isWithin_5 : decode cX4_isWithin 5 = .ok (.iload_n 0, 1) := by decide +kernel
theorem dX4_isWithin_6 : decode cX4_isWithin 6 = .ok (.iload_n 2, 1) := by decide +kernel
theorem dX4_isWithin_7 : decode cX4_isWithin 7 = .ok (.if_icmp .gt 7, 3) := by decide +kernel
theorem dX4_isWithin_10 : decode cX4_isWithin 10 = .ok (.iconst 1, 1) := by decide +kernel
theorem dX4_isWithin_11 : decode cX4_isWithin 11 = .ok (.goto 4, 3) := by decide +kernel
theorem dX4_isWithin_14 : decode cX4_isWithin 14 = .ok (.iconst 0, 1) := by decide +kernel
theorem dX4_isWithin_15 : decode cX4_isWithin 15 = .ok (.ireturn, 1) := by decide +kernel
theorem dX4_isRow_0 : decode cX4_isRow 0 = .ok (.iload_n 0, 1) := by decide +kernel
theorem dX4_isRow_1 : decode cX4_isRow 1 = .ok (.ifCond .lt 13, 3) := by decide +kernel
theorem dX4_isRow_4 : decode cX4_isRow 4 = .ok (.iload_n 0, 1) := by decide +kernel
theorem dX4_isRow_5 : decode cX4_isRow 5 = .ok (.bipush 6, 2) := by decide +kernel
theorem dX4_isRow_7 : decode cX4_isRow 7 = .ok (.if_icmp .ge 7, 3) := by decide +kernel
theorem dX4_isRow_10 : decode cX4_isRow 10 = .ok (.iconst 1, 1) := by decide +kernel
theorem dX4_isRow_11 : decode cX4_isRow 11 = .ok (.goto 4, 3) := by decide +kernel
theorem dX4_isRow_14 : decode cX4_isRow 14 = .ok (.iconst 0, 1) := by decide +kernel
theorem dX4_isRow_15 : decode cX4_isRow 15 = .ok (.ireturn, 1) := by decide +kernel
theorem dX4_isText_0 : decode cX4_isText 0 = .ok (.iload_n 0, 1) := by decide +kernel
theorem dX4_isText_1 : decode cX4_isText 1 = .ok (.ifCond .lt 12, 3) := by decide +kernel
theorem dX4_isText_4 : decode cX4_isText 4 = .ok (.iload_n 0, 1) := by decide +kernel
theorem dX4_isText_5 : decode cX4_isText 5 = .ok (.iconst 4, 1) := by decide +kernel
theorem dX4_isText_6 : decode cX4_isText 6 = .ok (.if_icmp .ge 7, 3) := by decide +kernel
theorem dX4_isText_9 : decode cX4_isText 9 = .ok (.iconst 1, 1) := by decide +kernel
theorem dX4_isText_10 : decode cX4_isText 10 = .ok (.goto 4, 3) := by decide +kernel
theorem dX4_isText_13 : decode cX4_isText 13 = .ok (.iconst 0, 1) := by decide +kernel
theorem dX4_isText_14 : decode cX4_isText 14 = .ok (.ireturn, 1) := by decide +kernel
theorem dX4_isTown_0 : decode cX4_isTown 0 = .ok (.iload_n 1, 1) := by decide +kernel
theorem dX4_isTown_1 : decode cX4_isTown 1 = .ok (.ifCond .lt 15, 3) := by decide +kernel
theorem dX4_isTown_4 : decode cX4_isTown 4 = .ok (.iload_n 1, 1) := by decide +kernel
theorem dX4_isTown_5 : decode cX4_isTown 5 = .ok (.aload_n 0, 1) := by decide +kernel
theorem dX4_isTown_6 : decode cX4_isTown 6 = .ok (.getfield 42, 3) := by decide +kernel
theorem dX4_isTown_9 : decode cX4_isTown 9 = .ok (.if_icmp .ge 7, 3) := by decide +kernel
theorem dX4_isTown_12 : decode cX4_isTown 12 = .ok (.iconst 1, 1) := by decide +kernel
theorem dX4_isTown_13 : decode cX4_isTown 13 = .ok (.goto 4, 3) := by decide +kernel
theorem dX4_isTown_16 : decode cX4_isTown 16 = .ok (.iconst 0, 1) := by decide +kernel
theorem dX4_isTown_17 : decode cX4_isTown 17 = .ok (.ireturn, 1) := by decide +kernel
theorem dX4_isPlaceToKeep_0 : decode cX4_isPlaceToKeep 0 = .ok (.iload_n 0, 1) := by decide +kernel
theorem dX4_isPlaceToKeep_1 : decode cX4_isPlaceToKeep 1 = .ok (.ifCond .lt 12, 3) := by decide +kernel
theorem dX4_isPlaceToKeep_4 : decode cX4_isPlaceToKeep 4 = .ok (.iload_n 0, 1) := by decide +kernel
theorem dX4_isPlaceToKeep_5 : decode cX4_isPlaceToKeep 5 = .ok (.iconst 3, 1) := by decide +kernel
theorem dX4_isPlaceToKeep_6 : decode cX4_isPlaceToKeep 6 = .ok (.if_icmp .ge 7, 3) := by decide +kernel
theorem dX4_isPlaceToKeep_9 : decode cX4_isPlaceToKeep 9 = .ok (.iconst 1, 1) := by decide +kernel
theorem dX4_isPlaceToKeep_10 : decode cX4_isPlaceToKeep 10 = .ok (.goto 4, 3) := by decide +kernel
theorem dX4_isPlaceToKeep_13 : decode cX4_isPlaceToKeep 13 = .ok (.iconst 0, 1) := by decide +kernel
theorem dX4_isPlaceToKeep_14 : decode cX4_isPlaceToKeep 14 = .ok (.ireturn, 1) := by decide +kernel
theorem dX4_isDay_0 : decode cX4_isDay 0 = .ok (.iload_n 0, 1) := by decide +kernel
theorem dX4_isDay_1 : decode cX4_isDay 1 = .ok (.ifCond .lt 14, 3) := by decide +kernel
theorem dX4_isDay_4 : decode cX4_isDay 4 = .ok (.iload_n 0, 1) := by decide +kernel
theorem dX4_isDay_5 : decode cX4_isDay 5 = .ok (.sipush 19999, 3) := by decide +kernel
theorem dX4_isDay_8 : decode cX4_isDay 8 = .ok (.if_icmp .gt 7, 3) := by decide +kernel
theorem dX4_isDay_11 : decode cX4_isDay 11 = .ok (.iconst 1, 1) := by decide +kernel
theorem dX4_isDay_12 : decode cX4_isDay 12 = .ok (.goto 4, 3) := by decide +kernel
theorem dX4_isDay_15 : decode cX4_isDay 15 = .ok (.iconst 0, 1) := by decide +kernel
theorem dX4_isDay_16 : decode cX4_isDay 16 = .ok (.ireturn, 1) := by decide +kernel
theorem dX4_isSpan_0 : decode cX4_isSpan 0 = .ok (.iload_n 0, 1) := by decide +kernel
theorem dX4_isSpan_1 : decode cX4_isSpan 1 = .ok (.invokestatic 168, 3) := by decide +kernel
theorem dX4_isSpan_4 : decode cX4_isSpan 4 = .ok (.ifCond .eq 19, 3) := by decide +kernel
theorem dX4_isSpan_7 : decode cX4_isSpan 7 = .ok (.iload_n 1, 1) := by decide +kernel
theorem dX4_isSpan_8 : decode cX4_isSpan 8 = .ok (.invokestatic 168, 3) := by decide +kernel
theorem dX4_isSpan_11 : decode cX4_isSpan 11 = .ok (.ifCond .eq 12, 3) := by decide +kernel
theorem dX4_isSpan_14 : decode cX4_isSpan 14 = .ok (.iload_n 0, 1) := by decide +kernel
theorem dX4_isSpan_15 : decode cX4_isSpan 15 = .ok (.iload_n 1, 1) := by decide +kernel
theorem dX4_isSpan_16 : decode cX4_isSpan 16 = .ok (.if_icmp .gt 7, 3) := by decide +kernel
theorem dX4_isSpan_19 : decode cX4_isSpan 19 = .ok (.iconst 1, 1) := by decide +kernel
theorem dX4_isSpan_20 : decode cX4_isSpan 20 = .ok (.goto 4, 3) := by decide +kernel
theorem dX4_isSpan_23 : decode cX4_isSpan 23 = .ok (.iconst 0, 1) := by decide +kernel
theorem dX4_isSpan_24 : decode cX4_isSpan 24 = .ok (.ireturn, 1) := by decide +kernel
theorem dX4_isLeap_0 : decode cX4_isLeap 0 = .ok (.iload_n 0, 1) := by decide +kernel
theorem dX4_isLeap_1 : decode cX4_isLeap 1 = .ok (.iconst 2, 1) := by decide +kernel
theorem dX4_isLeap_2 : decode cX4_isLeap 2 = .ok (.if_icmp .lt 13, 3) := by decide +kernel
theorem dX4_isLeap_5 : decode cX4_isLeap 5 = .ok (.iload_n 0, 1) := by decide +kernel
theorem dX4_isLeap_6 : decode cX4_isLeap 6 = .ok (.bipush 9, 2) := by decide +kernel
theorem dX4_isLeap_8 : decode cX4_isLeap 8 = .ok (.if_icmp .gt 7, 3) := by decide +kernel
theorem dX4_isLeap_11 : decode cX4_isLeap 11 = .ok (.iconst 1, 1) := by decide +kernel
theorem dX4_isLeap_12 : decode cX4_isLeap 12 = .ok (.goto 4, 3) := by decide +kernel
theorem dX4_isLeap_15 : decode cX4_isLeap 15 = .ok (.iconst 0, 1) := by decide +kernel
theorem dX4_isLeap_16 : decode cX4_isLeap 16 = .ok (.ireturn, 1) := by decide +kernel
theorem dX4_isPartOfDay_0 : decode cX4_isPartOfDay 0 = .ok (.iload_n 0, 1) := by decide +kernel
theorem dX4_isPartOfDay_1 : decode cX4_isPartOfDay 1 = .ok (.iconst 2, 1) := by decide +kernel
theorem dX4_isPartOfDay_2 : decode cX4_isPartOfDay 2 = .ok (.if_icmp .lt 13, 3) := by decide +kernel
theorem dX4_isPartOfDay_5 : decode cX4_isPartOfDay 5 = .ok (.iload_n 0, 1) := by decide +kernel
theorem dX4_isPartOfDay_6 : decode cX4_isPartOfDay 6 = .ok (.bipush 9, 2) := by decide +kernel
theorem dX4_isPartOfDay_8 : decode cX4_isPartOfDay 8 = .ok (.if_icmp .gt 7, 3) := by decide +kernel
theorem dX4_isPartOfDay_11 : decode cX4_isPartOfDay 11 = .ok (.iconst 1, 1) := by decide +kernel
theorem dX4_isPartOfDay_12 : decode cX4_isPartOfDay 12 = .ok (.goto 4, 3) := by decide +kernel
theorem dX4_isPartOfDay_15 : decode cX4_isPartOfDay 15 = .ok (.iconst 0, 1) := by decide +kernel
theorem dX4_isPartOfDay_16 : decode cX4_isPartOfDay 16 = .ok (.ireturn, 1) := by decide +kernel
theorem dX4_isYearsDue_0 : decode cX4_isYearsDue 0 = .ok (.iload_n 0, 1) := by decide +kernel
theorem dX4_isYearsDue_1 : decode cX4_isYearsDue 1 = .ok (.ifCond .lt 13, 3) := by decide +kernel
theorem dX4_isYearsDue_4 : decode cX4_isYearsDue 4 = .ok (.iload_n 0, 1) := by decide +kernel
theorem dX4_isYearsDue_5 : decode cX4_isYearsDue 5 = .ok (.bipush 50, 2) := by decide +kernel
theorem dX4_isYearsDue_7 : decode cX4_isYearsDue 7 = .ok (.if_icmp .gt 7, 3) := by decide +kernel
theorem dX4_isYearsDue_10 : decode cX4_isYearsDue 10 = .ok (.iconst 1, 1) := by decide +kernel
theorem dX4_isYearsDue_11 : decode cX4_isYearsDue 11 = .ok (.goto 4, 3) := by decide +kernel
theorem dX4_isYearsDue_14 : decode cX4_isYearsDue 14 = .ok (.iconst 0, 1) := by decide +kernel
theorem dX4_isYearsDue_15 : decode cX4_isYearsDue 15 = .ok (.ireturn, 1) := by decide +kernel
theorem dX4_isFeastYear_0 : decode cX4_isFeastYear 0 = .ok (.iload_n 0, 1) := by decide +kernel
theorem dX4_isFeastYear_1 : decode cX4_isFeastYear 1 = .ok (.ifCond .lt 14, 3) := by decide +kernel
theorem dX4_isFeastYear_4 : decode cX4_isFeastYear 4 = .ok (.iload_n 0, 1) := by decide +kernel
theorem dX4_isFeastYear_5 : decode cX4_isFeastYear 5 = .ok (.sipush 150, 3) := by decide +kernel
theorem dX4_isFeastYear_8 : decode cX4_isFeastYear 8 = .ok (.if_icmp .gt 7, 3) := by decide +kernel
theorem dX4_isFeastYear_11 : decode cX4_isFeastYear 11 = .ok (.iconst 1, 1) := by decide +kernel
theorem dX4_isFeastYear_12 : decode cX4_isFeastYear 12 = .ok (.goto 4, 3) := by decide +kernel
theorem dX4_isFeastYear_15 : decode cX4_isFeastYear 15 = .ok (.iconst 0, 1) := by decide +kernel
theorem dX4_isFeastYear_16 : decode cX4_isFeastYear 16 = .ok (.ireturn, 1) := by decide +kernel
theorem dX4_found_0 : decode cX4_found 0 = .ok (.aload_n 0, 1) := by decide +kernel
theorem dX4_found_1 : decode cX4_found 1 = .ok (.iload_n 1, 1) := by decide +kernel
theorem dX4_found_2 : decode cX4_found 2 = .ok (.putfield 59, 3) := by decide +kernel
theorem dX4_found_5 : decode cX4_found 5 = .ok (.aload_n 0, 1) := by decide +kernel
theorem dX4_found_6 : decode cX4_found 6 = .ok (.getfield 38, 3) := by decide +kernel
theorem dX4_found_9 : decode cX4_found 9 = .ok (.iload_n 1, 1) := by decide +kernel
theorem dX4_found_10 : decode cX4_found 10 = .ok (.dup2, 1) := by decide +kernel
theorem dX4_found_11 : decode cX4_found 11 = .ok (.iaload, 1) := by decide +kernel
theorem dX4_found_12 : decode cX4_found 12 = .ok (.iconst 1, 1) := by decide +kernel
theorem dX4_found_13 : decode cX4_found 13 = .ok (.iadd, 1) := by decide +kernel
theorem dX4_found_14 : decode cX4_found 14 = .ok (.iastore, 1) := by decide +kernel
theorem dX4_found_15 : decode cX4_found 15 = .ok (.bipush (-3), 2) := by decide +kernel
theorem dX4_found_17 : decode cX4_found 17 = .ok (.ireturn, 1) := by decide +kernel
theorem dX4_refusedRow_0 : decode cX4_refusedRow 0 = .ok (.iload_n 1, 1) := by decide +kernel
theorem dX4_refusedRow_1 : decode cX4_refusedRow 1 = .ok (.invokestatic 65, 3) := by decide +kernel
theorem dX4_refusedRow_4 : decode cX4_refusedRow 4 = .ok (.ifCond .ne 5, 3) := by decide +kernel
theorem dX4_refusedRow_7 : decode cX4_refusedRow 7 = .ok (.iconst (-1), 1) := by decide +kernel
theorem dX4_refusedRow_8 : decode cX4_refusedRow 8 = .ok (.ireturn, 1) := by decide +kernel
theorem dX4_refusedRow_9 : decode cX4_refusedRow 9 = .ok (.aload_n 0, 1) := by decide +kernel
theorem dX4_refusedRow_10 : decode cX4_refusedRow 10 = .ok (.getfield 11, 3) := by decide +kernel
theorem dX4_refusedRow_13 : decode cX4_refusedRow 13 = .ok (.iload_n 1, 1) := by decide +kernel
theorem dX4_refusedRow_14 : decode cX4_refusedRow 14 = .ok (.aaload, 1) := by decide +kernel
theorem dX4_refusedRow_15 : decode cX4_refusedRow 15 = .ok (.getfield 87, 3) := by decide +kernel
theorem dX4_refusedRow_18 : decode cX4_refusedRow 18 = .ok (.iconst (-1), 1) := by decide +kernel
theorem dX4_refusedRow_19 : decode cX4_refusedRow 19 = .ok (.if_icmp .ne 11, 3) := by decide +kernel
theorem dX4_refusedRow_22 : decode cX4_refusedRow 22 = .ok (.aload_n 0, 1) := by decide +kernel
theorem dX4_refusedRow_23 : decode cX4_refusedRow 23 = .ok (.iconst 1, 1) := by decide +kernel
theorem dX4_refusedRow_24 : decode cX4_refusedRow 24 = .ok (.invokevirtual 69, 3) := by decide +kernel
theorem dX4_refusedRow_27 : decode cX4_refusedRow 27 = .ok (.goto 4, 3) := by decide +kernel
theorem dX4_refusedRow_30 : decode cX4_refusedRow 30 = .ok (.iconst 0, 1) := by decide +kernel
theorem dX4_refusedRow_31 : decode cX4_refusedRow 31 = .ok (.ireturn, 1) := by decide +kernel
theorem dX4_refusedPlace_0 : decode cX4_refusedPlace 0 = .ok (.aload_n 0, 1) := by decide +kernel
theorem dX4_refusedPlace_1 : decode cX4_refusedPlace 1 = .ok (.iload_n 1, 1) := by decide +kernel
theorem dX4_refusedPlace_2 : decode cX4_refusedPlace 2 = .ok (.invokevirtual 84, 3) := by decide +kernel
theorem dX4_refusedPlace_5 : decode cX4_refusedPlace 5 = .ok (.istore_n 3, 1) := by decide +kernel
theorem dX4_refusedPlace_6 : decode cX4_refusedPlace 6 = .ok (.iload_n 3, 1) := by decide +kernel
theorem dX4_refusedPlace_7 : decode cX4_refusedPlace 7 = .ok (.ifCond .eq 5, 3) := by decide +kernel
theorem dX4_refusedPlace_10 : decode cX4_refusedPlace 10 = .ok (.iload_n 3, 1) := by decide +kernel
theorem dX4_refusedPlace_11 : decode cX4_refusedPlace 11 = .ok (.ireturn, 1) := by decide +kernel
theorem dX4_refusedPlace_12 : decode cX4_refusedPlace 12 = .ok (.aload_n 0, 1) := by decide +kernel
theorem dX4_refusedPlace_13 : decode cX4_refusedPlace 13 = .ok (.getfield 11, 3) := by decide +kernel
theorem dX4_refusedPlace_16 : decode cX4_refusedPlace 16 = .ok (.iload_n 1, 1) := by decide +kernel
theorem dX4_refusedPlace_17 : decode cX4_refusedPlace 17 = .ok (.aaload, 1) := by decide +kernel
theorem dX4_refusedPlace_18 : decode cX4_refusedPlace 18 = .ok (.iload_n 2, 1) := by decide +kernel
theorem dX4_refusedPlace_19 : decode cX4_refusedPlace 19 = .ok (.iconst 1, 1) := by decide +kernel
theorem dX4_refusedPlace_20 : decode cX4_refusedPlace 20 = .ok (.invokevirtual 90, 3) := by decide +kernel
theorem dX4_refusedPlace_23 : decode cX4_refusedPlace 23 = .ok (.ifCond .eq 7, 3) := by decide +kernel
theorem dX4_refusedPlace_26 : decode cX4_refusedPlace 26 = .ok (.iconst 0, 1) := by decide +kernel
theorem dX4_refusedPlace_27 : decode cX4_refusedPlace 27 = .ok (.goto 8, 3) := by decide +kernel
theorem dX4_refusedPlace_30 : decode cX4_refusedPlace 30 = .ok (.aload_n 0, 1) := by decide +kernel
theorem dX4_refusedPlace_31 : decode cX4_refusedPlace 31 = .ok (.iconst 2, 1) := by decide +kernel
theorem dX4_refusedPlace_32 : decode cX4_refusedPlace 32 = .ok (.invokevirtual 69, 3) := by decide +kernel
theorem dX4_refusedPlace_35 : decode cX4_refusedPlace 35 = .ok (.ireturn, 1) := by decide +kernel
theorem dX4_refusedText_0 : decode cX4_refusedText 0 = .ok (.iload_n 1, 1) := by decide +kernel
theorem dX4_refusedText_1 : decode cX4_refusedText 1 = .ok (.invokestatic 104, 3) := by decide +kernel
theorem dX4_refusedText_4 : decode cX4_refusedText 4 = .ok (.ifCond .ne 5, 3) := by decide +kernel
theorem dX4_refusedText_7 : decode cX4_refusedText 7 = .ok (.iconst (-1), 1) := by decide +kernel
theorem dX4_refusedText_8 : decode cX4_refusedText 8 = .ok (.ireturn, 1) := by decide +kernel
theorem dX4_refusedText_9 : decode cX4_refusedText 9 = .ok (.aload_n 0, 1) := by decide +kernel
theorem dX4_refusedText_10 : decode cX4_refusedText 10 = .ok (.getfield 17, 3) := by decide +kernel
theorem dX4_refusedText_13 : decode cX4_refusedText 13 = .ok (.iload_n 1, 1) := by decide +kernel
theorem dX4_refusedText_14 : decode cX4_refusedText 14 = .ok (.aaload, 1) := by decide +kernel
theorem dX4_refusedText_15 : decode cX4_refusedText 15 = .ok (.getfield 111, 3) := by decide +kernel
theorem dX4_refusedText_18 : decode cX4_refusedText 18 = .ok (.iconst (-1), 1) := by decide +kernel
theorem dX4_refusedText_19 : decode cX4_refusedText 19 = .ok (.if_icmp .ne 11, 3) := by decide +kernel
theorem dX4_refusedText_22 : decode cX4_refusedText 22 = .ok (.aload_n 0, 1) := by decide +kernel
theorem dX4_refusedText_23 : decode cX4_refusedText 23 = .ok (.iconst 1, 1) := by decide +kernel
theorem dX4_refusedText_24 : decode cX4_refusedText 24 = .ok (.invokevirtual 69, 3) := by decide +kernel
theorem dX4_refusedText_27 : decode cX4_refusedText 27 = .ok (.goto 4, 3) := by decide +kernel
theorem dX4_refusedText_30 : decode cX4_refusedText 30 = .ok (.iconst 0, 1) := by decide +kernel
theorem dX4_refusedText_31 : decode cX4_refusedText 31 = .ok (.ireturn, 1) := by decide +kernel
theorem dX4_refusedContracts_0 : decode cX4_refusedContracts 0 = .ok (.aload_n 0, 1) := by decide +kernel
theorem dX4_refusedContracts_1 : decode cX4_refusedContracts 1 = .ok (.iload_n 1, 1) := by decide +kernel
theorem dX4_refusedContracts_2 : decode cX4_refusedContracts 2 = .ok (.invokevirtual 84, 3) := by decide +kernel
theorem dX4_refusedContracts_5 : decode cX4_refusedContracts 5 = .ok (.istore_n 2, 1) := by decide +kernel
theorem dX4_refusedContracts_6 : decode cX4_refusedContracts 6 = .ok (.iload_n 2, 1) := by decide +kernel
theorem dX4_refusedContracts_7 : decode cX4_refusedContracts 7 = .ok (.ifCond .eq 5, 3) := by decide +kernel
theorem dX4_refusedContracts_10 : decode cX4_refusedContracts 10 = .ok (.iload_n 2, 1) := by decide +kernel
theorem dX4_refusedContracts_11 : decode cX4_refusedContracts 11 = .ok (.ireturn, 1) := by decide +kernel
theorem dX4_refusedContracts_12 : decode cX4_refusedContracts 12 = .ok (.aload_n 0, 1) := by decide +kernel
theorem dX4_refusedContracts_13 : decode cX4_refusedContracts 13 = .ok (.getfield 11, 3) := by decide +kernel
theorem dX4_refusedContracts_16 : decode cX4_refusedContracts 16 = .ok (.iload_n 1, 1) := by decide +kernel
theorem dX4_refusedContracts_17 : decode cX4_refusedContracts 17 = .ok (.aaload, 1) := by decide +kernel
theorem dX4_refusedContracts_18 : decode cX4_refusedContracts 18 = .ok (.getfield 87, 3) := by decide +kernel
theorem dX4_refusedContracts_21 : decode cX4_refusedContracts 21 = .ok (.iconst 3, 1) := by decide +kernel
theorem dX4_refusedContracts_22 : decode cX4_refusedContracts 22 = .ok (.irem, 1) := by decide +kernel
theorem dX4_refusedContracts_23 : decode cX4_refusedContracts 23 = .ok (.ifCond .eq 9, 3) := by decide +kernel
theorem dX4_refusedContracts_26 : decode cX4_refusedContracts 26 = .ok (.aload_n 0, 1) := by decide +kernel
theorem dX4_refusedContracts_27 : decode cX4_refusedContracts 27 = .ok (.iconst 5, 1) := by decide +kernel
theorem dX4_refusedContracts_28 : decode cX4_refusedContracts 28 = .ok (.invokevirtual 69, 3) := by decide +kernel
theorem dX4_refusedContracts_31 : decode cX4_refusedContracts 31 = .ok (.ireturn, 1) := by decide +kernel
theorem dX4_refusedContracts_32 : decode cX4_refusedContracts 32 = .ok (.aload_n 0, 1) := by decide +kernel
theorem dX4_refusedContracts_33 : decode cX4_refusedContracts 33 = .ok (.getfield 11, 3) := by decide +kernel
theorem dX4_refusedContracts_36 : decode cX4_refusedContracts 36 = .ok (.iload_n 1, 1) := by decide +kernel
theorem dX4_refusedContracts_37 : decode cX4_refusedContracts 37 = .ok (.aaload, 1) := by decide +kernel
theorem dX4_refusedContracts_38 : decode cX4_refusedContracts 38 = .ok (.getfield 81, 3) := by decide +kernel
theorem dX4_refusedContracts_41 : decode cX4_refusedContracts 41 = .ok (.astore_n 3, 1) := by decide +kernel
theorem dX4_refusedContracts_42 : decode cX4_refusedContracts 42 = .ok (.iconst 0, 1) := by decide +kernel
theorem dX4_refusedContracts_43 : decode cX4_refusedContracts 43 = .ok (.istore 4, 2) := by decide +kernel
theorem dX4_refusedContracts_45 : decode cX4_refusedContracts 45 = .ok (.iload 4, 2) := by decide +kernel
theorem dX4_refusedContracts_47 : decode cX4_refusedContracts 47 = .ok (.iconst 2, 1) := by decide +kernel
theorem dX4_refusedContracts_48 : decode cX4_refusedContracts 48 = .ok (.iadd, 1) := by decide +kernel
theorem dX4_refusedContracts_49 : decode cX4_refusedContracts 49 = .ok (.aload_n 0, 1) := by decide +kernel
theorem dX4_refusedContracts_50 : decode cX4_refusedContracts 50 = .ok (.getfield 11, 3) := by decide +kernel
theorem dX4_refusedContracts_53 : decode cX4_refusedContracts 53 = .ok (.iload_n 1, 1) := by decide +kernel
theorem dX4_refusedContracts_54 : decode cX4_refusedContracts 54 = .ok (.aaload, 1) := by decide +kernel
theorem dX4_refusedContracts_55 : decode cX4_refusedContracts 55 = .ok (.getfield 87, 3) := by decide +kernel
theorem dX4_refusedContracts_58 : decode cX4_refusedContracts 58 = .ok (.if_icmp .ge 47, 3) := by decide +kernel
theorem dX4_refusedContracts_61 : decode cX4_refusedContracts 61 = .ok (.aload_n 0, 1) := by decide +kernel
theorem dX4_refusedContracts_62 : decode cX4_refusedContracts 62 = .ok (.aload_n 3, 1) := by decide +kernel
theorem dX4_refusedContracts_63 : decode cX4_refusedContracts 63 = .ok (.iload 4, 2) := by decide +kernel
theorem dX4_refusedContracts_65 : decode cX4_refusedContracts 65 = .ok (.iaload, 1) := by decide +kernel
theorem dX4_refusedContracts_66 : decode cX4_refusedContracts 66 = .ok (.invokevirtual 128, 3) := by decide +kernel
theorem dX4_refusedContracts_69 : decode cX4_refusedContracts 69 = .ok (.ifCond .eq 24, 3) := by decide +kernel
theorem dX4_refusedContracts_72 : decode cX4_refusedContracts 72 = .ok (.aload_n 3, 1) := by decide +kernel
theorem dX4_refusedContracts_73 : decode cX4_refusedContracts 73 = .ok (.iload 4, 2) := by decide +kernel
theorem dX4_refusedContracts_75 : decode cX4_refusedContracts 75 = .ok (.iconst 1, 1) := by decide +kernel
theorem dX4_refusedContracts_76 : decode cX4_refusedContracts 76 = .ok (.iadd, 1) := by decide +kernel
theorem dX4_refusedContracts_77 : decode cX4_refusedContracts 77 = .ok (.iaload, 1) := by decide +kernel
theorem dX4_refusedContracts_78 : decode cX4_refusedContracts 78 = .ok (.ifCond .lt 15, 3) := by decide +kernel
theorem dX4_refusedContracts_81 : decode cX4_refusedContracts 81 = .ok (.aload_n 3, 1) := by decide +kernel
theorem dX4_refusedContracts_82 : decode cX4_refusedContracts 82 = .ok (.iload 4, 2) := by decide +kernel
theorem dX4_refusedContracts_84 : decode cX4_refusedContracts 84 = .ok (.iconst 2, 1) := by decide +kernel
theorem dX4_refusedContracts_85 : decode cX4_refusedContracts 85 = .ok (.iadd, 1) := by decide +kernel
theorem dX4_refusedContracts_86 : decode cX4_refusedContracts 86 = .ok (.iaload, 1) := by decide +kernel
theorem dX4_refusedContracts_87 : decode cX4_refusedContracts 87 = .ok (.invokestatic 224, 3) := by decide +kernel
theorem dX4_refusedContracts_90 : decode cX4_refusedContracts 90 = .ok (.ifCond .ne 9, 3) := by decide +kernel
theorem dX4_refusedContracts_93 : decode cX4_refusedContracts 93 = .ok (.aload_n 0, 1) := by decide +kernel
theorem dX4_refusedContracts_94 : decode cX4_refusedContracts 94 = .ok (.iconst 3, 1) := by decide +kernel
theorem dX4_refusedContracts_95 : decode cX4_refusedContracts 95 = .ok (.invokevirtual 69, 3) := by decide +kernel
theorem dX4_refusedContracts_98 : decode cX4_refusedContracts 98 = .ok (.ireturn, 1) := by decide +kernel
theorem dX4_refusedContracts_99 : decode cX4_refusedContracts 99 = .ok (.iinc 4 3, 3) := by decide +kernel
theorem dX4_refusedContracts_102 : decode cX4_refusedContracts 102 = .ok (.goto (-57), 3) := by decide +kernel
theorem dX4_refusedContracts_105 : decode cX4_refusedContracts 105 = .ok (.iconst 0, 1) := by decide +kernel
theorem dX4_refusedContracts_106 : decode cX4_refusedContracts 106 = .ok (.ireturn, 1) := by decide +kernel
theorem dX4_ofTown_0 : decode cX4_ofTown 0 = .ok (.aload_n 0, 1) := by decide +kernel
theorem dX4_ofTown_1 : decode cX4_ofTown 1 = .ok (.getfield 23, 3) := by decide +kernel
theorem dX4_ofTown_4 : decode cX4_ofTown 4 = .ok (.iload_n 1, 1) := by decide +kernel
theorem dX4_ofTown_5 : decode cX4_ofTown 5 = .ok (.aaload, 1) := by decide +kernel
theorem dX4_ofTown_6 : decode cX4_ofTown 6 = .ok (.astore_n 3, 1) := by decide +kernel
theorem dX4_ofTown_7 : decode cX4_ofTown 7 = .ok (.iload_n 2, 1) := by decide +kernel
theorem dX4_ofTown_8 : decode cX4_ofTown 8 = .ok (.tableswitch 52 0 3 #[32, 37, 42, 47], 32) := by decide +kernel
theorem dX4_ofTown_40 : decode cX4_ofTown 40 = .ok (.aload_n 3, 1) := by decide +kernel
theorem dX4_ofTown_41 : decode cX4_ofTown 41 = .ok (.getfield 258, 3) := by decide +kernel
theorem dX4_ofTown_44 : decode cX4_ofTown 44 = .ok (.ireturn, 1) := by decide +kernel
theorem dX4_ofTown_45 : decode cX4_ofTown 45 = .ok (.aload_n 3, 1) := by decide +kernel
theorem dX4_ofTown_46 : decode cX4_ofTown 46 = .ok (.getfield 153, 3) := by decide +kernel
theorem dX4_ofTown_49 : decode cX4_ofTown 49 = .ok (.ireturn, 1) := by decide +kernel
theorem dX4_ofTown_50 : decode cX4_ofTown 50 = .ok (.aload_n 3, 1) := by decide +kernel
theorem dX4_ofTown_51 : decode cX4_ofTown 51 = .ok (.getfield 144, 3) := by decide +kernel
theorem dX4_ofTown_54 : decode cX4_ofTown 54 = .ok (.ireturn, 1) := by decide +kernel
theorem dX4_ofTown_55 : decode cX4_ofTown 55 = .ok (.aload_n 3, 1) := by decide +kernel
theorem dX4_ofTown_56 : decode cX4_ofTown 56 = .ok (.getfield 147, 3) := by decide +kernel
theorem dX4_ofTown_59 : decode cX4_ofTown 59 = .ok (.ireturn, 1) := by decide +kernel
theorem dX4_ofTown_60 : decode cX4_ofTown 60 = .ok (.aload_n 3, 1) := by decide +kernel
theorem dX4_ofTown_61 : decode cX4_ofTown 61 = .ok (.aload_n 0, 1) := by decide +kernel
theorem dX4_ofTown_62 : decode cX4_ofTown 62 = .ok (.getfield 46, 3) := by decide +kernel
theorem dX4_ofTown_65 : decode cX4_ofTown 65 = .ok (.invokevirtual 171, 3) := by decide +kernel
theorem dX4_ofTown_68 : decode cX4_ofTown 68 = .ok (.ireturn, 1) := by decide +kernel
theorem dX4_haveSameDate_0 : decode cX4_haveSameDate 0 = .ok (.aload_n 0, 1) := by decide +kernel
theorem dX4_haveSameDate_1 : decode cX4_haveSameDate 1 = .ok (.getfield 23, 3) := by decide +kernel
theorem dX4_haveSameDate_4 : decode cX4_haveSameDate 4 = .ok (.iload_n 1, 1) := by decide +kernel
theorem dX4_haveSameDate_5 : decode cX4_haveSameDate 5 = .ok (.aaload, 1) := by decide +kernel
theorem dX4_haveSameDate_6 : decode cX4_haveSameDate 6 = .ok (.iload_n 3, 1) := by decide +kernel
theorem dX4_haveSameDate_7 : decode cX4_haveSameDate 7 = .ok (.invokevirtual 171, 3) := by decide +kernel
theorem dX4_haveSameDate_10 : decode cX4_haveSameDate 10 = .ok (.aload_n 0, 1) := by decide +kernel
theorem dX4_haveSameDate_11 : decode cX4_haveSameDate 11 = .ok (.getfield 23, 3) := by decide +kernel
theorem dX4_haveSameDate_14 : decode cX4_haveSameDate 14 = .ok (.iload_n 2, 1) := by decide +kernel
theorem dX4_haveSameDate_15 : decode cX4_haveSameDate 15 = .ok (.aaload, 1) := by decide +kernel
theorem dX4_haveSameDate_16 : decode cX4_haveSameDate 16 = .ok (.iload_n 3, 1) := by decide +kernel
theorem dX4_haveSameDate_17 : decode cX4_haveSameDate 17 = .ok (.invokevirtual 171, 3) := by decide +kernel
theorem dX4_haveSameDate_20 : decode cX4_haveSameDate 20 = .ok (.if_icmp .ne 7, 3) := by decide +kernel
theorem dX4_haveSameDate_23 : decode cX4_haveSameDate 23 = .ok (.iconst 1, 1) := by decide +kernel
theorem dX4_haveSameDate_24 : decode cX4_haveSameDate 24 = .ok (.goto 4, 3) := by decide +kernel
theorem dX4_haveSameDate_27 : decode cX4_haveSameDate 27 = .ok (.iconst 0, 1) := by decide +kernel
theorem dX4_haveSameDate_28 : decode cX4_haveSameDate 28 = .ok (.ireturn, 1) := by decide +kernel
theorem dX4_stretchEnd_0 : decode cX4_stretchEnd 0 = .ok (.aload_n 0, 1) := by decide +kernel
theorem dX4_stretchEnd_1 : decode cX4_stretchEnd 1 = .ok (.getfield 23, 3) := by decide +kernel
theorem dX4_stretchEnd_4 : decode cX4_stretchEnd 4 = .ok (.iload_n 1, 1) := by decide +kernel
theorem dX4_stretchEnd_5 : decode cX4_stretchEnd 5 = .ok (.aaload, 1) := by decide +kernel
theorem dX4_stretchEnd_6 : decode cX4_stretchEnd 6 = .ok (.iload_n 3, 1) := by decide +kernel
theorem dX4_stretchEnd_7 : decode cX4_stretchEnd 7 = .ok (.invokevirtual 313, 3) := by decide +kernel
theorem dX4_stretchEnd_10 : decode cX4_stretchEnd 10 = .ok (.aload_n 0, 1) := by decide +kernel
theorem dX4_stretchEnd_11 : decode cX4_stretchEnd 11 = .ok (.getfield 23, 3) := by decide +kernel
theorem dX4_stretchEnd_14 : decode cX4_stretchEnd 14 = .ok (.iload_n 2, 1) := by decide +kernel
theorem dX4_stretchEnd_15 : decode cX4_stretchEnd 15 = .ok (.aaload, 1) := by decide +kernel
theorem dX4_stretchEnd_16 : decode cX4_stretchEnd 16 = .ok (.iload_n 3, 1) := by decide +kernel
theorem dX4_stretchEnd_17 : decode cX4_stretchEnd 17 = .ok (.invokevirtual 313, 3) := by decide +kernel
theorem dX4_stretchEnd_20 : decode cX4_stretchEnd 20 = .ok (.invokestatic 207, 3) := by decide +kernel
theorem dX4_stretchEnd_23 : decode cX4_stretchEnd 23 = .ok (.ireturn, 1) := by decide +kernel
theorem dX4_hasMissingDate_0 : decode cX4_hasMissingDate 0 = .ok (.iconst 0, 1) := by decide +kernel
theorem dX4_hasMissingDate_1 : decode cX4_hasMissingDate 1 = .ok (.istore_n 2, 1) := by decide +kernel
theorem dX4_hasMissingDate_2 : decode cX4_hasMissingDate 2 = .ok (.iload_n 2, 1) := by decide +kernel
theorem dX4_hasMissingDate_3 : decode cX4_hasMissingDate 3 = .ok (.iconst 2, 1) := by decide +kernel
theorem dX4_hasMissingDate_4 : decode cX4_hasMissingDate 4 = .ok (.iadd, 1) := by decide +kernel
theorem dX4_hasMissingDate_5 : decode cX4_hasMissingDate 5 = .ok (.aload_n 1, 1) := by decide +kernel
theorem dX4_hasMissingDate_6 : decode cX4_hasMissingDate 6 = .ok (.getfield 87, 3) := by decide +kernel
theorem dX4_hasMissingDate_9 : decode cX4_hasMissingDate 9 = .ok (.if_icmp .ge 37, 3) := by decide +kernel
theorem dX4_hasMissingDate_12 : decode cX4_hasMissingDate 12 = .ok (.aload_n 0, 1) := by decide +kernel
theorem dX4_hasMissingDate_13 : decode cX4_hasMissingDate 13 = .ok (.getfield 23, 3) := by decide +kernel
theorem dX4_hasMissingDate_16 : decode cX4_hasMissingDate 16 = .ok (.aload_n 1, 1) := by decide +kernel
theorem dX4_hasMissingDate_17 : decode cX4_hasMissingDate 17 = .ok (.getfield 81, 3) := by decide +kernel
theorem dX4_hasMissingDate_20 : decode cX4_hasMissingDate 20 = .ok (.iload_n 2, 1) := by decide +kernel
theorem dX4_hasMissingDate_21 : decode cX4_hasMissingDate 21 = .ok (.iaload, 1) := by decide +kernel
theorem dX4_hasMissingDate_22 : decode cX4_hasMissingDate 22 = .ok (.aaload, 1) := by decide +kernel
theorem dX4_hasMissingDate_23 : decode cX4_hasMissingDate 23 = .ok (.aload_n 1, 1) := by decide +kernel
theorem dX4_hasMissingDate_24 : decode cX4_hasMissingDate 24 = .ok (.getfield 81, 3) := by decide +kernel
theorem dX4_hasMissingDate_27 : decode cX4_hasMissingDate 27 = .ok (.iload_n 2, 1) := by decide +kernel
theorem dX4_hasMissingDate_28 : decode cX4_hasMissingDate 28 = .ok (.iconst 1, 1) := by decide +kernel
theorem dX4_hasMissingDate_29 : decode cX4_hasMissingDate 29 = .ok (.iadd, 1) := by decide +kernel
theorem dX4_hasMissingDate_30 : decode cX4_hasMissingDate 30 = .ok (.iaload, 1) := by decide +kernel
theorem dX4_hasMissingDate_31 : decode cX4_hasMissingDate 31 = .ok (.invokevirtual 174, 3) := by decide +kernel
theorem dX4_hasMissingDate_34 : decode cX4_hasMissingDate 34 = .ok (.iconst (-1), 1) := by decide +kernel
theorem dX4_hasMissingDate_35 : decode cX4_hasMissingDate 35 = .ok (.if_icmp .ne 5, 3) := by decide +kernel
theorem dX4_hasMissingDate_38 : decode cX4_hasMissingDate 38 = .ok (.iconst 1, 1) := by decide +kernel
theorem dX4_hasMissingDate_39 : decode cX4_hasMissingDate 39 = .ok (.ireturn, 1) := by decide +kernel
theorem dX4_hasMissingDate_40 : decode cX4_hasMissingDate 40 = .ok (.iinc 2 3, 3) := by decide +kernel
theorem dX4_hasMissingDate_43 : decode cX4_hasMissingDate 43 = .ok (.goto (-41), 3) := by decide +kernel
theorem dX4_hasMissingDate_46 : decode cX4_hasMissingDate 46 = .ok (.iconst 0, 1) := by decide +kernel
theorem dX4_hasMissingDate_47 : decode cX4_hasMissingDate 47 = .ok (.ireturn, 1) := by decide +kernel
theorem dX4_quarrelsOnTrial_0 : decode cX4_quarrelsOnTrial 0 = .ok (.iconst 0, 1) := by decide +kernel
theorem dX4_quarrelsOnTrial_1 : decode cX4_quarrelsOnTrial 1 = .ok (.istore_n 3, 1) := by decide +kernel
theorem dX4_quarrelsOnTrial_2 : decode cX4_quarrelsOnTrial 2 = .ok (.iconst 0, 1) := by decide +kernel
theorem dX4_quarrelsOnTrial_3 : decode cX4_quarrelsOnTrial 3 = .ok (.istore 4, 2) := by decide +kernel
theorem dX4_quarrelsOnTrial_5 : decode cX4_quarrelsOnTrial 5 = .ok (.iload 4, 2) := by decide +kernel
theorem dX4_quarrelsOnTrial_7 : decode cX4_quarrelsOnTrial 7 = .ok (.aload_n 1, 1) := by decide +kernel
theorem dX4_quarrelsOnTrial_8 : decode cX4_quarrelsOnTrial 8 = .ok (.getfield 87, 3) := by decide +kernel
theorem dX4_quarrelsOnTrial_11 : decode cX4_quarrelsOnTrial 11 = .ok (.iconst 3, 1) := by decide +kernel
theorem dX4_quarrelsOnTrial_12 : decode cX4_quarrelsOnTrial 12 = .ok (.idiv, 1) := by decide +kernel
theorem dX4_quarrelsOnTrial_13 : decode cX4_quarrelsOnTrial 13 = .ok (.if_icmp .ge 23, 3) := by decide +kernel
theorem dX4_quarrelsOnTrial_16 : decode cX4_quarrelsOnTrial 16 = .ok (.aload_n 0, 1) := by decide +kernel
theorem dX4_quarrelsOnTrial_17 : decode cX4_quarrelsOnTrial 17 = .ok (.aload_n 1, 1) := by decide +kernel
theorem dX4_quarrelsOnTrial_18 : decode cX4_quarrelsOnTrial 18 = .ok (.iload 4, 2) := by decide +kernel
theorem dX4_quarrelsOnTrial_20 : decode cX4_quarrelsOnTrial 20 = .ok (.iload_n 2, 1) := by decide +kernel
theorem dX4_quarrelsOnTrial_21 : decode cX4_quarrelsOnTrial 21 = .ok (.invokevirtual 234, 3) := by decide +kernel
theorem dX4_quarrelsOnTrial_24 : decode cX4_quarrelsOnTrial 24 = .ok (.ifCond .eq 6, 3) := by decide +kernel
theorem dX4_quarrelsOnTrial_27 : decode cX4_quarrelsOnTrial 27 = .ok (.iinc 3 1, 3) := by decide +kernel
theorem dX4_quarrelsOnTrial_30 : decode cX4_quarrelsOnTrial 30 = .ok (.iinc 4 1, 3) := by decide +kernel
theorem dX4_quarrelsOnTrial_33 : decode cX4_quarrelsOnTrial 33 = .ok (.goto (-28), 3) := by decide +kernel
theorem dX4_quarrelsOnTrial_36 : decode cX4_quarrelsOnTrial 36 = .ok (.iload_n 3, 1) := by decide +kernel
theorem dX4_quarrelsOnTrial_37 : decode cX4_quarrelsOnTrial 37 = .ok (.ireturn, 1) := by decide +kernel
theorem dX4_quarrelsAt_0 : decode cX4_quarrelsAt 0 = .ok (.aload_n 1, 1) := by decide +kernel
theorem dX4_quarrelsAt_1 : decode cX4_quarrelsAt 1 = .ok (.getfield 81, 3) := by decide +kernel
theorem dX4_quarrelsAt_4 : decode cX4_quarrelsAt 4 = .ok (.iconst 3, 1) := by decide +kernel
theorem dX4_quarrelsAt_5 : decode cX4_quarrelsAt 5 = .ok (.iload_n 2, 1) := by decide +kernel
theorem dX4_quarrelsAt_6 : decode cX4_quarrelsAt 6 = .ok (.imul, 1) := by decide +kernel
theorem dX4_quarrelsAt_7 : decode cX4_quarrelsAt 7 = .ok (.iaload, 1) := by decide +kernel
theorem dX4_quarrelsAt_8 : decode cX4_quarrelsAt 8 = .ok (.istore 4, 2) := by decide +kernel
theorem dX4_quarrelsAt_10 : decode cX4_quarrelsAt 10 = .ok (.aload_n 1, 1) := by decide +kernel
theorem dX4_quarrelsAt_11 : decode cX4_quarrelsAt 11 = .ok (.getfield 81, 3) := by decide +kernel
theorem dX4_quarrelsAt_14 : decode cX4_quarrelsAt 14 = .ok (.iconst 3, 1) := by decide +kernel
theorem dX4_quarrelsAt_15 : decode cX4_quarrelsAt 15 = .ok (.iload_n 2, 1) := by decide +kernel
theorem dX4_quarrelsAt_16 : decode cX4_quarrelsAt 16 = .ok (.imul, 1) := by decide +kernel
theorem dX4_quarrelsAt_17 : decode cX4_quarrelsAt 17 = .ok (.iconst 1, 1) := by decide +kernel
theorem dX4_quarrelsAt_18 : decode cX4_quarrelsAt 18 = .ok (.iadd, 1) := by decide +kernel
theorem dX4_quarrelsAt_19 : decode cX4_quarrelsAt 19 = .ok (.iaload, 1) := by decide +kernel
theorem dX4_quarrelsAt_20 : decode cX4_quarrelsAt 20 = .ok (.istore 5, 2) := by decide +kernel
theorem dX4_quarrelsAt_22 : decode cX4_quarrelsAt 22 = .ok (.aload_n 1, 1) := by decide +kernel
theorem dX4_quarrelsAt_23 : decode cX4_quarrelsAt 23 = .ok (.getfield 81, 3) := by decide +kernel
theorem dX4_quarrelsAt_26 : decode cX4_quarrelsAt 26 = .ok (.iconst 3, 1) := by decide +kernel
theorem dX4_quarrelsAt_27 : decode cX4_quarrelsAt 27 = .ok (.iload_n 2, 1) := by decide +kernel
theorem dX4_quarrelsAt_28 : decode cX4_quarrelsAt 28 = .ok (.imul, 1) := by decide +kernel
theorem dX4_quarrelsAt_29 : decode cX4_quarrelsAt 29 = .ok (.iconst 2, 1) := by decide +kernel
theorem dX4_quarrelsAt_30 : decode cX4_quarrelsAt 30 = .ok (.iadd, 1) := by decide +kernel
theorem dX4_quarrelsAt_31 : decode cX4_quarrelsAt 31 = .ok (.iaload, 1) := by decide +kernel
theorem dX4_quarrelsAt_32 : decode cX4_quarrelsAt 32 = .ok (.istore 6, 2) := by decide +kernel
theorem dX4_quarrelsAt_34 : decode cX4_quarrelsAt 34 = .ok (.iload 4, 2) := by decide +kernel
theorem dX4_quarrelsAt_36 : decode cX4_quarrelsAt 36 = .ok (.iload_n 3, 1) := by decide +kernel
theorem dX4_quarrelsAt_37 : decode cX4_quarrelsAt 37 = .ok (.if_icmp .ne 10, 3) := by decide +kernel
theorem dX4_quarrelsAt_40 : decode cX4_quarrelsAt 40 = .ok (.aload_n 0, 1) := by decide +kernel
theorem dX4_quarrelsAt_41 : decode cX4_quarrelsAt 41 = .ok (.getfield 34, 3) := by decide +kernel
theorem dX4_quarrelsAt_44 : decode cX4_quarrelsAt 44 = .ok (.goto 10, 3) := by decide +kernel
theorem dX4_quarrelsAt_47 : decode cX4_quarrelsAt 47 = .ok (.aload_n 0, 1) := by decide +kernel
theorem dX4_quarrelsAt_48 : decode cX4_quarrelsAt 48 = .ok (.getfield 23, 3) := by decide +kernel
theorem dX4_quarrelsAt_51 : decode cX4_quarrelsAt 51 = .ok (.iload 4, 2) := by decide +kernel
theorem dX4_quarrelsAt_53 : decode cX4_quarrelsAt 53 = .ok (.aaload, 1) := by decide +kernel
theorem dX4_quarrelsAt_54 : decode cX4_quarrelsAt 54 = .ok (.astore 7, 2) := by decide +kernel
theorem dX4_quarrelsAt_56 : decode cX4_quarrelsAt 56 = .ok (.aload 7, 2) := by decide +kernel
theorem dX4_quarrelsAt_58 : decode cX4_quarrelsAt 58 = .ok (.iload 5, 2) := by decide +kernel
theorem dX4_quarrelsAt_60 : decode cX4_quarrelsAt 60 = .ok (.invokevirtual 174, 3) := by decide +kernel
theorem dX4_quarrelsAt_63 : decode cX4_quarrelsAt 63 = .ok (.istore 8, 2) := by decide +kernel
theorem dX4_quarrelsAt_65 : decode cX4_quarrelsAt 65 = .ok (.iload 8, 2) := by decide +kernel
theorem dX4_quarrelsAt_67 : decode cX4_quarrelsAt 67 = .ok (.iconst (-1), 1) := by decide +kernel
theorem dX4_quarrelsAt_68 : decode cX4_quarrelsAt 68 = .ok (.if_icmp .ne 5, 3) := by decide +kernel
theorem dX4_quarrelsAt_71 : decode cX4_quarrelsAt 71 = .ok (.iconst 1, 1) := by decide +kernel
theorem dX4_quarrelsAt_72 : decode cX4_quarrelsAt 72 = .ok (.ireturn, 1) := by decide +kernel
theorem dX4_quarrelsAt_73 : decode cX4_quarrelsAt 73 = .ok (.aload 7, 2) := by decide +kernel
theorem dX4_quarrelsAt_75 : decode cX4_quarrelsAt 75 = .ok (.iload 5, 2) := by decide +kernel
theorem dX4_quarrelsAt_77 : decode cX4_quarrelsAt 77 = .ok (.sipush 1000, 3) := by decide +kernel
theorem dX4_quarrelsAt_80 : decode cX4_quarrelsAt 80 = .ok (.iload 6, 2) := by decide +kernel
theorem dX4_quarrelsAt_82 : decode cX4_quarrelsAt 82 = .ok (.imul, 1) := by decide +kernel
theorem dX4_quarrelsAt_83 : decode cX4_quarrelsAt 83 = .ok (.iadd, 1) := by decide +kernel
theorem dX4_quarrelsAt_84 : decode cX4_quarrelsAt 84 = .ok (.invokevirtual 174, 3) := by decide +kernel
theorem dX4_quarrelsAt_87 : decode cX4_quarrelsAt 87 = .ok (.iload 8, 2) := by decide +kernel
theorem dX4_quarrelsAt_89 : decode cX4_quarrelsAt 89 = .ok (.bipush 100, 2) := by decide +kernel
theorem dX4_quarrelsAt_91 : decode cX4_quarrelsAt 91 = .ok (.iload 6, 2) := by decide +kernel
theorem dX4_quarrelsAt_93 : decode cX4_quarrelsAt 93 = .ok (.imul, 1) := by decide +kernel
theorem dX4_quarrelsAt_94 : decode cX4_quarrelsAt 94 = .ok (.iadd, 1) := by decide +kernel
theorem dX4_quarrelsAt_95 : decode cX4_quarrelsAt 95 = .ok (.if_icmp .eq 7, 3) := by decide +kernel
theorem dX4_quarrelsAt_98 : decode cX4_quarrelsAt 98 = .ok (.iconst 1, 1) := by decide +kernel
theorem dX4_quarrelsAt_99 : decode cX4_quarrelsAt 99 = .ok (.goto 4, 3) := by decide +kernel
theorem dX4_quarrelsAt_102 : decode cX4_quarrelsAt 102 = .ok (.iconst 0, 1) := by decide +kernel
theorem dX4_quarrelsAt_103 : decode cX4_quarrelsAt 103 = .ok (.ireturn, 1) := by decide +kernel
theorem dX4_areLetters_0 : decode cX4_areLetters 0 = .ok (.iconst 0, 1) := by decide +kernel
theorem dX4_areLetters_1 : decode cX4_areLetters 1 = .ok (.istore_n 1, 1) := by decide +kernel
theorem dX4_areLetters_2 : decode cX4_areLetters 2 = .ok (.iload_n 1, 1) := by decide +kernel
theorem dX4_areLetters_3 : decode cX4_areLetters 3 = .ok (.iconst 1, 1) := by decide +kernel
theorem dX4_areLetters_4 : decode cX4_areLetters 4 = .ok (.iadd, 1) := by decide +kernel
theorem dX4_areLetters_5 : decode cX4_areLetters 5 = .ok (.aload_n 0, 1) := by decide +kernel
theorem dX4_areLetters_6 : decode cX4_areLetters 6 = .ok (.getfield 87, 3) := by decide +kernel
theorem dX4_areLetters_9 : decode cX4_areLetters 9 = .ok (.if_icmp .ge 34, 3) := by decide +kernel
theorem dX4_areLetters_12 : decode cX4_areLetters 12 = .ok (.aload_n 0, 1) := by decide +kernel
theorem dX4_areLetters_13 : decode cX4_areLetters 13 = .ok (.getfield 81, 3) := by decide +kernel
theorem dX4_areLetters_16 : decode cX4_areLetters 16 = .ok (.iload_n 1, 1) := by decide +kernel
theorem dX4_areLetters_17 : decode cX4_areLetters 17 = .ok (.iaload, 1) := by decide +kernel
theorem dX4_areLetters_18 : decode cX4_areLetters 18 = .ok (.invokestatic 168, 3) := by decide +kernel
theorem dX4_areLetters_21 : decode cX4_areLetters 21 = .ok (.ifCond .eq 14, 3) := by decide +kernel
theorem dX4_areLetters_24 : decode cX4_areLetters 24 = .ok (.aload_n 0, 1) := by decide +kernel
theorem dX4_areLetters_25 : decode cX4_areLetters 25 = .ok (.getfield 81, 3) := by decide +kernel
theorem dX4_areLetters_28 : decode cX4_areLetters 28 = .ok (.iload_n 1, 1) := by decide +kernel
theorem dX4_areLetters_29 : decode cX4_areLetters 29 = .ok (.iconst 1, 1) := by decide +kernel
theorem dX4_areLetters_30 : decode cX4_areLetters 30 = .ok (.iadd, 1) := by decide +kernel
theorem dX4_areLetters_31 : decode cX4_areLetters 31 = .ok (.iaload, 1) := by decide +kernel
theorem dX4_areLetters_32 : decode cX4_areLetters 32 = .ok (.ifCond .ge 5, 3) := by decide +kernel
theorem dX4_areLetters_35 : decode cX4_areLetters 35 = .ok (.iconst 0, 1) := by decide +kernel
theorem dX4_areLetters_36 : decode cX4_areLetters 36 = .ok (.ireturn, 1) := by decide +kernel
theorem dX4_areLetters_37 : decode cX4_areLetters 37 = .ok (.iinc 1 2, 3) := by decide +kernel
theorem dX4_areLetters_40 : decode cX4_areLetters 40 = .ok (.goto (-38), 3) := by decide +kernel
theorem dX4_areLetters_43 : decode cX4_areLetters 43 = .ok (.iconst 1, 1) := by decide +kernel
theorem dX4_areLetters_44 : decode cX4_areLetters 44 = .ok (.ireturn, 1) := by decide +kernel
theorem dX4_writesAll_0 : decode cX4_writesAll 0 = .ok (.iconst 0, 1) := by decide +kernel
theorem dX4_writesAll_1 : decode cX4_writesAll 1 = .ok (.istore_n 2, 1) := by decide +kernel
theorem dX4_writesAll_2 : decode cX4_writesAll 2 = .ok (.iload_n 2, 1) := by decide +kernel
theorem dX4_writesAll_3 : decode cX4_writesAll 3 = .ok (.iconst 1, 1) := by decide +kernel
theorem dX4_writesAll_4 : decode cX4_writesAll 4 = .ok (.iadd, 1) := by decide +kernel
theorem dX4_writesAll_5 : decode cX4_writesAll 5 = .ok (.aload_n 1, 1) := by decide +kernel
theorem dX4_writesAll_6 : decode cX4_writesAll 6 = .ok (.getfield 87, 3) := by decide +kernel
theorem dX4_writesAll_9 : decode cX4_writesAll 9 = .ok (.if_icmp .ge 32, 3) := by decide +kernel
theorem dX4_writesAll_12 : decode cX4_writesAll 12 = .ok (.aload_n 0, 1) := by decide +kernel
theorem dX4_writesAll_13 : decode cX4_writesAll 13 = .ok (.aload_n 1, 1) := by decide +kernel
theorem dX4_writesAll_14 : decode cX4_writesAll 14 = .ok (.getfield 81, 3) := by decide +kernel
theorem dX4_writesAll_17 : decode cX4_writesAll 17 = .ok (.iload_n 2, 1) := by decide +kernel
theorem dX4_writesAll_18 : decode cX4_writesAll 18 = .ok (.iaload, 1) := by decide +kernel
theorem dX4_writesAll_19 : decode cX4_writesAll 19 = .ok (.invokevirtual 171, 3) := by decide +kernel
theorem dX4_writesAll_22 : decode cX4_writesAll 22 = .ok (.aload_n 1, 1) := by decide +kernel
theorem dX4_writesAll_23 : decode cX4_writesAll 23 = .ok (.getfield 81, 3) := by decide +kernel
theorem dX4_writesAll_26 : decode cX4_writesAll 26 = .ok (.iload_n 2, 1) := by decide +kernel
theorem dX4_writesAll_27 : decode cX4_writesAll 27 = .ok (.iconst 1, 1) := by decide +kernel
theorem dX4_writesAll_28 : decode cX4_writesAll 28 = .ok (.iadd, 1) := by decide +kernel
theorem dX4_writesAll_29 : decode cX4_writesAll 29 = .ok (.iaload, 1) := by decide +kernel
theorem dX4_writesAll_30 : decode cX4_writesAll 30 = .ok (.if_icmp .eq 5, 3) := by decide +kernel
theorem dX4_writesAll_33 : decode cX4_writesAll 33 = .ok (.iconst 0, 1) := by decide +kernel
theorem dX4_writesAll_34 : decode cX4_writesAll 34 = .ok (.ireturn, 1) := by decide +kernel
theorem dX4_writesAll_35 : decode cX4_writesAll 35 = .ok (.iinc 2 2, 3) := by decide +kernel
theorem dX4_writesAll_38 : decode cX4_writesAll 38 = .ok (.goto (-36), 3) := by decide +kernel
theorem dX4_writesAll_41 : decode cX4_writesAll 41 = .ok (.iconst 1, 1) := by decide +kernel
theorem dX4_writesAll_42 : decode cX4_writesAll 42 = .ok (.ireturn, 1) := by decide +kernel
theorem dX4_tellFraction_0 : decode cX4_tellFraction 0 = .ok (.lload_n 1, 1) := by decide +kernel
theorem dX4_tellFraction_1 : decode cX4_tellFraction 1 = .ok (.lload_n 3, 1) := by decide +kernel
theorem dX4_tellFraction_2 : decode cX4_tellFraction 2 = .ok (.invokestatic 316, 3) := by decide +kernel
theorem dX4_tellFraction_5 : decode cX4_tellFraction 5 = .ok (.lstore 5, 2) := by decide +kernel
theorem dX4_tellFraction_7 : decode cX4_tellFraction 7 = .ok (.lload 5, 2) := by decide +kernel
theorem dX4_tellFraction_9 : decode cX4_tellFraction 9 = .ok (.lconst 1, 1) := by decide +kernel
theorem dX4_tellFraction_10 : decode cX4_tellFraction 10 = .ok (.lcmp, 1) := by decide +kernel
theorem dX4_tellFraction_11 : decode cX4_tellFraction 11 = .ok (.ifCond .ge 4, 3) := by decide +kernel
theorem dX4_tellFraction_14 : decode cX4_tellFraction 14 = .ok (.return_, 1) := by decide +kernel
theorem dX4_tellFraction_15 : decode cX4_tellFraction 15 = .ok (.aload_n 0, 1) := by decide +kernel
theorem dX4_tellFraction_16 : decode cX4_tellFraction 16 = .ok (.lload_n 1, 1) := by decide +kernel
theorem dX4_tellFraction_17 : decode cX4_tellFraction 17 = .ok (.lload 5, 2) := by decide +kernel
theorem dX4_tellFraction_19 : decode cX4_tellFraction 19 = .ok (.ldiv, 1) := by decide +kernel
theorem dX4_tellFraction_20 : decode cX4_tellFraction 20 = .ok (.putfield 52, 3) := by decide +kernel
theorem dX4_tellFraction_23 : decode cX4_tellFraction 23 = .ok (.aload_n 0, 1) := by decide +kernel
theorem dX4_tellFraction_24 : decode cX4_tellFraction 24 = .ok (.lload_n 3, 1) := by decide +kernel
theorem dX4_tellFraction_25 : decode cX4_tellFraction 25 = .ok (.lload 5, 2) := by decide +kernel
theorem dX4_tellFraction_27 : decode cX4_tellFraction 27 = .ok (.ldiv, 1) := by decide +kernel
theorem dX4_tellFraction_28 : decode cX4_tellFraction 28 = .ok (.putfield 56, 3) := by decide +kernel
theorem dX4_tellFraction_31 : decode cX4_tellFraction 31 = .ok (.return_, 1) := by decide +kernel
theorem dX4_commonDivisor_0 : decode cX4_commonDivisor 0 = .ok (.lload_n 0, 1) := by decide +kernel
theorem dX4_commonDivisor_1 : decode cX4_commonDivisor 1 = .ok (.lstore 4, 2) := by decide +kernel
theorem dX4_commonDivisor_3 : decode cX4_commonDivisor 3 = .ok (.lload_n 2, 1) := by decide +kernel
theorem dX4_commonDivisor_4 : decode cX4_commonDivisor 4 = .ok (.lstore 6, 2) := by decide +kernel
theorem dX4_commonDivisor_6 : decode cX4_commonDivisor 6 = .ok (.iconst 0, 1) := by decide +kernel
theorem dX4_commonDivisor_7 : decode cX4_commonDivisor 7 = .ok (.istore 8, 2) := by decide +kernel
theorem dX4_commonDivisor_9 : decode cX4_commonDivisor 9 = .ok (.iload 8, 2) := by decide +kernel
theorem dX4_commonDivisor_11 : decode cX4_commonDivisor 11 = .ok (.bipush 100, 2) := by decide +kernel
theorem dX4_commonDivisor_13 : decode cX4_commonDivisor 13 = .ok (.if_icmp .ge 31, 3) := by decide +kernel
theorem dX4_commonDivisor_16 : decode cX4_commonDivisor 16 = .ok (.lload 6, 2) := by decide +kernel
theorem dX4_commonDivisor_18 : decode cX4_commonDivisor 18 = .ok (.lconst 0, 1) := by decide +kernel
theorem dX4_commonDivisor_19 : decode cX4_commonDivisor 19 = .ok (.lcmp, 1) := by decide +kernel
theorem dX4_commonDivisor_20 : decode cX4_commonDivisor 20 = .ok (.ifCond .eq 24, 3) := by decide +kernel
theorem dX4_commonDivisor_23 : decode cX4_commonDivisor 23 = .ok (.lload 4, 2) := by decide +kernel
theorem dX4_commonDivisor_25 : decode cX4_commonDivisor 25 = .ok (.lload 6, 2) := by decide +kernel
theorem dX4_commonDivisor_27 : decode cX4_commonDivisor 27 = .ok (.lrem, 1) := by decide +kernel
theorem dX4_commonDivisor_28 : decode cX4_commonDivisor 28 = .ok (.lstore 9, 2) := by decide +kernel
theorem dX4_commonDivisor_30 : decode cX4_commonDivisor 30 = .ok (.lload 6, 2) := by decide +kernel
theorem dX4_commonDivisor_32 : decode cX4_commonDivisor 32 = .ok (.lstore 4, 2) := by decide +kernel
theorem dX4_commonDivisor_34 : decode cX4_commonDivisor 34 = .ok (.lload 9, 2) := by decide +kernel
theorem dX4_commonDivisor_36 : decode cX4_commonDivisor 36 = .ok (.lstore 6, 2) := by decide +kernel
theorem dX4_commonDivisor_38 : decode cX4_commonDivisor 38 = .ok (.iinc 8 1, 3) := by decide +kernel
theorem dX4_commonDivisor_41 : decode cX4_commonDivisor 41 = .ok (.goto (-32), 3) := by decide +kernel
theorem dX4_commonDivisor_44 : decode cX4_commonDivisor 44 = .ok (.lload 4, 2) := by decide +kernel
theorem dX4_commonDivisor_46 : decode cX4_commonDivisor 46 = .ok (.lreturn, 1) := by decide +kernel
theorem dX4_daysTillFull_0 : decode cX4_daysTillFull 0 = .ok (.iload_n 0, 1) := by decide +kernel
theorem dX4_daysTillFull_1 : decode cX4_daysTillFull 1 = .ok (.bipush 59, 2) := by decide +kernel
theorem dX4_daysTillFull_3 : decode cX4_daysTillFull 3 = .ok (.irem, 1) := by decide +kernel
theorem dX4_daysTillFull_4 : decode cX4_daysTillFull 4 = .ok (.istore_n 1, 1) := by decide +kernel
theorem dX4_daysTillFull_5 : decode cX4_daysTillFull 5 = .ok (.iload_n 1, 1) := by decide +kernel
theorem dX4_daysTillFull_6 : decode cX4_daysTillFull 6 = .ok (.ifCond .ne 5, 3) := by decide +kernel
theorem dX4_daysTillFull_9 : decode cX4_daysTillFull 9 = .ok (.iconst 0, 1) := by decide +kernel
theorem dX4_daysTillFull_10 : decode cX4_daysTillFull 10 = .ok (.ireturn, 1) := by decide +kernel
theorem dX4_daysTillFull_11 : decode cX4_daysTillFull 11 = .ok (.iload_n 1, 1) := by decide +kernel
theorem dX4_daysTillFull_12 : decode cX4_daysTillFull 12 = .ok (.bipush 29, 2) := by decide +kernel
theorem dX4_daysTillFull_14 : decode cX4_daysTillFull 14 = .ok (.if_icmp .gt 10, 3) := by decide +kernel
theorem dX4_daysTillFull_17 : decode cX4_daysTillFull 17 = .ok (.bipush 29, 2) := by decide +kernel
theorem dX4_daysTillFull_19 : decode cX4_daysTillFull 19 = .ok (.iload_n 1, 1) := by decide +kernel
theorem dX4_daysTillFull_20 : decode cX4_daysTillFull 20 = .ok (.isub, 1) := by decide +kernel
theorem dX4_daysTillFull_21 : decode cX4_daysTillFull 21 = .ok (.goto 7, 3) := by decide +kernel
theorem dX4_daysTillFull_24 : decode cX4_daysTillFull 24 = .ok (.bipush 59, 2) := by decide +kernel
theorem dX4_daysTillFull_26 : decode cX4_daysTillFull 26 = .ok (.iload_n 1, 1) := by decide +kernel
theorem dX4_daysTillFull_27 : decode cX4_daysTillFull 27 = .ok (.isub, 1) := by decide +kernel
theorem dX4_daysTillFull_28 : decode cX4_daysTillFull 28 = .ok (.ireturn, 1) := by decide +kernel
theorem dX4_feastOf_0 : decode cX4_feastOf 0 = .ok (.bipush 20, 2) := by decide +kernel
theorem dX4_feastOf_2 : decode cX4_feastOf 2 = .ok (.istore_n 2, 1) := by decide +kernel
theorem dX4_feastOf_3 : decode cX4_feastOf 3 = .ok (.iload_n 2, 1) := by decide +kernel
theorem dX4_feastOf_4 : decode cX4_feastOf 4 = .ok (.aload_n 0, 1) := by decide +kernel
theorem dX4_feastOf_5 : decode cX4_feastOf 5 = .ok (.iload_n 1, 1) := by decide +kernel
theorem dX4_feastOf_6 : decode cX4_feastOf 6 = .ok (.invokevirtual 177, 3) := by decide +kernel
theorem dX4_feastOf_9 : decode cX4_feastOf 9 = .ok (.if_icmp .ge 50, 3) := by decide +kernel
theorem dX4_feastOf_12 : decode cX4_feastOf 12 = .ok (.aload_n 0, 1) := by decide +kernel
theorem dX4_feastOf_13 : decode cX4_feastOf 13 = .ok (.sipush 1000, 3) := by decide +kernel
theorem dX4_feastOf_16 : decode cX4_feastOf 16 = .ok (.iload_n 1, 1) := by decide +kernel
theorem dX4_feastOf_17 : decode cX4_feastOf 17 = .ok (.imul, 1) := by decide +kernel
theorem dX4_feastOf_18 : decode cX4_feastOf 18 = .ok (.iload_n 2, 1) := by decide +kernel
theorem dX4_feastOf_19 : decode cX4_feastOf 19 = .ok (.iadd, 1) := by decide +kernel
theorem dX4_feastOf_20 : decode cX4_feastOf 20 = .ok (.invokevirtual 174, 3) := by decide +kernel
theorem dX4_feastOf_23 : decode cX4_feastOf 23 = .ok (.istore_n 3, 1) := by decide +kernel
theorem dX4_feastOf_24 : decode cX4_feastOf 24 = .ok (.iload_n 3, 1) := by decide +kernel
theorem dX4_feastOf_25 : decode cX4_feastOf 25 = .ok (.iconst (-1), 1) := by decide +kernel
theorem dX4_feastOf_26 : decode cX4_feastOf 26 = .ok (.if_icmp .eq 27, 3) := by decide +kernel
theorem dX4_feastOf_29 : decode cX4_feastOf 29 = .ok (.iload_n 3, 1) := by decide +kernel
theorem dX4_feastOf_30 : decode cX4_feastOf 30 = .ok (.iload_n 3, 1) := by decide +kernel
theorem dX4_feastOf_31 : decode cX4_feastOf 31 = .ok (.invokestatic 265, 3) := by decide +kernel
theorem dX4_feastOf_34 : decode cX4_feastOf 34 = .ok (.iadd, 1) := by decide +kernel
theorem dX4_feastOf_35 : decode cX4_feastOf 35 = .ok (.istore 4, 2) := by decide +kernel
theorem dX4_feastOf_37 : decode cX4_feastOf 37 = .ok (.iload 4, 2) := by decide +kernel
theorem dX4_feastOf_39 : decode cX4_feastOf 39 = .ok (.sipush 19999, 3) := by decide +kernel
theorem dX4_feastOf_42 : decode cX4_feastOf 42 = .ok (.if_icmp .gt 8, 3) := by decide +kernel
theorem dX4_feastOf_45 : decode cX4_feastOf 45 = .ok (.iload 4, 2) := by decide +kernel
theorem dX4_feastOf_47 : decode cX4_feastOf 47 = .ok (.goto 5, 3) := by decide +kernel
theorem dX4_feastOf_50 : decode cX4_feastOf 50 = .ok (.bipush (-9), 2) := by decide +kernel
theorem dX4_feastOf_52 : decode cX4_feastOf 52 = .ok (.ireturn, 1) := by decide +kernel
theorem dX4_feastOf_53 : decode cX4_feastOf 53 = .ok (.iinc 2 1, 3) := by decide +kernel
theorem dX4_feastOf_56 : decode cX4_feastOf 56 = .ok (.goto (-53), 3) := by decide +kernel
theorem dX4_feastOf_59 : decode cX4_feastOf 59 = .ok (.bipush (-9), 2) := by decide +kernel
theorem dX4_feastOf_61 : decode cX4_feastOf 61 = .ok (.ireturn, 1) := by decide +kernel
theorem dX4_firstYearOff_0 : decode cX4_firstYearOff 0 = .ok (.iconst 0, 1) := by decide +kernel
theorem dX4_firstYearOff_1 : decode cX4_firstYearOff 1 = .ok (.istore 4, 2) := by decide +kernel
theorem dX4_firstYearOff_3 : decode cX4_firstYearOff 3 = .ok (.iload 4, 2) := by decide +kernel
theorem dX4_firstYearOff_5 : decode cX4_firstYearOff 5 = .ok (.iload_n 3, 1) := by decide +kernel
theorem dX4_firstYearOff_6 : decode cX4_firstYearOff 6 = .ok (.if_icmp .gt 32, 3) := by decide +kernel
theorem dX4_firstYearOff_9 : decode cX4_firstYearOff 9 = .ok (.iload_n 2, 1) := by decide +kernel
theorem dX4_firstYearOff_10 : decode cX4_firstYearOff 10 = .ok (.iload 4, 2) := by decide +kernel
theorem dX4_firstYearOff_12 : decode cX4_firstYearOff 12 = .ok (.iload_n 0, 1) := by decide +kernel
theorem dX4_firstYearOff_13 : decode cX4_firstYearOff 13 = .ok (.invokestatic 320, 3) := by decide +kernel
theorem dX4_firstYearOff_16 : decode cX4_firstYearOff 16 = .ok (.imul, 1) := by decide +kernel
theorem dX4_firstYearOff_17 : decode cX4_firstYearOff 17 = .ok (.iload 4, 2) := by decide +kernel
theorem dX4_firstYearOff_19 : decode cX4_firstYearOff 19 = .ok (.isub, 1) := by decide +kernel
theorem dX4_firstYearOff_20 : decode cX4_firstYearOff 20 = .ok (.invokestatic 221, 3) := by decide +kernel
theorem dX4_firstYearOff_23 : decode cX4_firstYearOff 23 = .ok (.iload_n 1, 1) := by decide +kernel
theorem dX4_firstYearOff_24 : decode cX4_firstYearOff 24 = .ok (.iload_n 2, 1) := by decide +kernel
theorem dX4_firstYearOff_25 : decode cX4_firstYearOff 25 = .ok (.imul, 1) := by decide +kernel
theorem dX4_firstYearOff_26 : decode cX4_firstYearOff 26 = .ok (.if_icmp .le 6, 3) := by decide +kernel
theorem dX4_firstYearOff_29 : decode cX4_firstYearOff 29 = .ok (.iload 4, 2) := by decide +kernel
theorem dX4_firstYearOff_31 : decode cX4_firstYearOff 31 = .ok (.ireturn, 1) := by decide +kernel
theorem dX4_firstYearOff_32 : decode cX4_firstYearOff 32 = .ok (.iinc 4 1, 3) := by decide +kernel
theorem dX4_firstYearOff_35 : decode cX4_firstYearOff 35 = .ok (.goto (-32), 3) := by decide +kernel
theorem dX4_firstYearOff_38 : decode cX4_firstYearOff 38 = .ok (.bipush (-9), 2) := by decide +kernel
theorem dX4_firstYearOff_40 : decode cX4_firstYearOff 40 = .ok (.ireturn, 1) := by decide +kernel
theorem dX4_longYearsBefore_0 : decode cX4_longYearsBefore 0 = .ok (.iload_n 1, 1) := by decide +kernel
theorem dX4_longYearsBefore_1 : decode cX4_longYearsBefore 1 = .ok (.iconst 1, 1) := by decide +kernel
theorem dX4_longYearsBefore_2 : decode cX4_longYearsBefore 2 = .ok (.if_icmp .ge 7, 3) := by decide +kernel
theorem dX4_longYearsBefore_5 : decode cX4_longYearsBefore 5 = .ok (.iconst 0, 1) := by decide +kernel
theorem dX4_longYearsBefore_6 : decode cX4_longYearsBefore 6 = .ok (.goto 10, 3) := by decide +kernel
theorem dX4_longYearsBefore_9 : decode cX4_longYearsBefore 9 = .ok (.iload_n 0, 1) := by decide +kernel
theorem dX4_longYearsBefore_10 : decode cX4_longYearsBefore 10 = .ok (.iload_n 1, 1) := by decide +kernel
theorem dX4_longYearsBefore_11 : decode cX4_longYearsBefore 11 = .ok (.iadd, 1) := by decide +kernel
theorem dX4_longYearsBefore_12 : decode cX4_longYearsBefore 12 = .ok (.iconst 1, 1) := by decide +kernel
theorem dX4_longYearsBefore_13 : decode cX4_longYearsBefore 13 = .ok (.isub, 1) := by decide +kernel
theorem dX4_longYearsBefore_14 : decode cX4_longYearsBefore 14 = .ok (.iload_n 1, 1) := by decide +kernel
theorem dX4_longYearsBefore_15 : decode cX4_longYearsBefore 15 = .ok (.idiv, 1) := by decide +kernel
theorem dX4_longYearsBefore_16 : decode cX4_longYearsBefore 16 = .ok (.ireturn, 1) := by decide +kernel
theorem dX4_townsOf_0 : decode cX4_townsOf 0 = .ok (.iconst 0, 1) := by decide +kernel
theorem dX4_townsOf_1 : decode cX4_townsOf 1 = .ok (.istore_n 2, 1) := by decide +kernel
theorem dX4_townsOf_2 : decode cX4_townsOf 2 = .ok (.iconst 0, 1) := by decide +kernel
theorem dX4_townsOf_3 : decode cX4_townsOf 3 = .ok (.istore_n 3, 1) := by decide +kernel
theorem dX4_townsOf_4 : decode cX4_townsOf 4 = .ok (.iload_n 3, 1) := by decide +kernel
theorem dX4_townsOf_5 : decode cX4_townsOf 5 = .ok (.aload_n 0, 1) := by decide +kernel
theorem dX4_townsOf_6 : decode cX4_townsOf 6 = .ok (.getfield 42, 3) := by decide +kernel
theorem dX4_townsOf_9 : decode cX4_townsOf 9 = .ok (.if_icmp .ge 25, 3) := by decide +kernel
theorem dX4_townsOf_12 : decode cX4_townsOf 12 = .ok (.aload_n 0, 1) := by decide +kernel
theorem dX4_townsOf_13 : decode cX4_townsOf 13 = .ok (.getfield 23, 3) := by decide +kernel
theorem dX4_townsOf_16 : decode cX4_townsOf 16 = .ok (.iload_n 3, 1) := by decide +kernel
theorem dX4_townsOf_17 : decode cX4_townsOf 17 = .ok (.aaload, 1) := by decide +kernel
theorem dX4_townsOf_18 : decode cX4_townsOf 18 = .ok (.iload_n 1, 1) := by decide +kernel
theorem dX4_townsOf_19 : decode cX4_townsOf 19 = .ok (.invokevirtual 134, 3) := by decide +kernel
theorem dX4_townsOf_22 : decode cX4_townsOf 22 = .ok (.ifCond .eq 6, 3) := by decide +kernel
theorem dX4_townsOf_25 : decode cX4_townsOf 25 = .ok (.iinc 2 1, 3) := by decide +kernel
theorem dX4_townsOf_28 : decode cX4_townsOf 28 = .ok (.iinc 3 1, 3) := by decide +kernel
theorem dX4_townsOf_31 : decode cX4_townsOf 31 = .ok (.goto (-27), 3) := by decide +kernel
theorem dX4_townsOf_34 : decode cX4_townsOf 34 = .ok (.iload_n 2, 1) := by decide +kernel
theorem dX4_townsOf_35 : decode cX4_townsOf 35 = .ok (.ireturn, 1) := by decide +kernel
theorem dX4_rowsThere_0 : decode cX4_rowsThere 0 = .ok (.iconst 0, 1) := by decide +kernel
theorem dX4_rowsThere_1 : decode cX4_rowsThere 1 = .ok (.istore_n 1, 1) := by decide +kernel
theorem dX4_rowsThere_2 : decode cX4_rowsThere 2 = .ok (.iconst 0, 1) := by decide +kernel
theorem dX4_rowsThere_3 : decode cX4_rowsThere 3 = .ok (.istore_n 2, 1) := by decide +kernel
theorem dX4_rowsThere_4 : decode cX4_rowsThere 4 = .ok (.iload_n 2, 1) := by decide +kernel
theorem dX4_rowsThere_5 : decode cX4_rowsThere 5 = .ok (.bipush 6, 2) := by decide +kernel
theorem dX4_rowsThere_7 : decode cX4_rowsThere 7 = .ok (.if_icmp .ge 25, 3) := by decide +kernel
theorem dX4_rowsThere_10 : decode cX4_rowsThere 10 = .ok (.aload_n 0, 1) := by decide +kernel
theorem dX4_rowsThere_11 : decode cX4_rowsThere 11 = .ok (.getfield 11, 3) := by decide +kernel
theorem dX4_rowsThere_14 : decode cX4_rowsThere 14 = .ok (.iload_n 2, 1) := by decide +kernel
theorem dX4_rowsThere_15 : decode cX4_rowsThere 15 = .ok (.aaload, 1) := by decide +kernel
theorem dX4_rowsThere_16 : decode cX4_rowsThere 16 = .ok (.getfield 87, 3) := by decide +kernel
theorem dX4_rowsThere_19 : decode cX4_rowsThere 19 = .ok (.iconst (-1), 1) := by decide +kernel
theorem dX4_rowsThere_20 : decode cX4_rowsThere 20 = .ok (.if_icmp .eq 6, 3) := by decide +kernel
theorem dX4_rowsThere_23 : decode cX4_rowsThere 23 = .ok (.iinc 1 1, 3) := by decide +kernel
theorem dX4_rowsThere_26 : decode cX4_rowsThere 26 = .ok (.iinc 2 1, 3) := by decide +kernel
theorem dX4_rowsThere_29 : decode cX4_rowsThere 29 = .ok (.goto (-25), 3) := by decide +kernel
theorem dX4_rowsThere_32 : decode cX4_rowsThere 32 = .ok (.iload_n 1, 1) := by decide +kernel
theorem dX4_rowsThere_33 : decode cX4_rowsThere 33 = .ok (.ireturn, 1) := by decide +kernel
theorem dX4_textsThere_0 : decode cX4_textsThere 0 = .ok (.iconst 0, 1) := by decide +kernel
theorem dX4_textsThere_1 : decode cX4_textsThere 1 = .ok (.istore_n 1, 1) := by decide +kernel
theorem dX4_textsThere_2 : decode cX4_textsThere 2 = .ok (.iconst 0, 1) := by decide +kernel
theorem dX4_textsThere_3 : decode cX4_textsThere 3 = .ok (.istore_n 2, 1) := by decide +kernel
theorem dX4_textsThere_4 : decode cX4_textsThere 4 = .ok (.iload_n 2, 1) := by decide +kernel
theorem dX4_textsThere_5 : decode cX4_textsThere 5 = .ok (.iconst 4, 1) := by decide +kernel
theorem dX4_textsThere_6 : decode cX4_textsThere 6 = .ok (.if_icmp .ge 25, 3) := by decide +kernel
theorem dX4_textsThere_9 : decode cX4_textsThere 9 = .ok (.aload_n 0, 1) := by decide +kernel
theorem dX4_textsThere_10 : decode cX4_textsThere 10 = .ok (.getfield 17, 3) := by decide +kernel
theorem dX4_textsThere_13 : decode cX4_textsThere 13 = .ok (.iload_n 2, 1) := by decide +kernel
theorem dX4_textsThere_14 : decode cX4_textsThere 14 = .ok (.aaload, 1) := by decide +kernel
theorem dX4_textsThere_15 : decode cX4_textsThere 15 = .ok (.getfield 111, 3) := by decide +kernel
theorem dX4_textsThere_18 : decode cX4_textsThere 18 = .ok (.iconst (-1), 1) := by decide +kernel
theorem dX4_textsThere_19 : decode cX4_textsThere 19 = .ok (.if_icmp .eq 6, 3) := by decide +kernel
theorem dX4_textsThere_22 : decode cX4_textsThere 22 = .ok (.iinc 1 1, 3) := by decide +kernel
theorem dX4_textsThere_25 : decode cX4_textsThere 25 = .ok (.iinc 2 1, 3) := by decide +kernel
theorem dX4_textsThere_28 : decode cX4_textsThere 28 = .ok (.goto (-24), 3) := by decide +kernel
theorem dX4_textsThere_31 : decode cX4_textsThere 31 = .ok (.iload_n 1, 1) := by decide +kernel
theorem dX4_textsThere_32 : decode cX4_textsThere 32 = .ok (.ireturn, 1) := by decide +kernel
theorem dX4_almanacsKept_0 : decode cX4_almanacsKept 0 = .ok (.iconst 0, 1) := by decide +kernel
theorem dX4_almanacsKept_1 : decode cX4_almanacsKept 1 = .ok (.istore_n 1, 1) := by decide +kernel
theorem dX4_almanacsKept_2 : decode cX4_almanacsKept 2 = .ok (.iconst 0, 1) := by decide +kernel
theorem dX4_almanacsKept_3 : decode cX4_almanacsKept 3 = .ok (.istore_n 2, 1) := by decide +kernel
theorem dX4_almanacsKept_4 : decode cX4_almanacsKept 4 = .ok (.iload_n 2, 1) := by decide +kernel
theorem dX4_almanacsKept_5 : decode cX4_almanacsKept 5 = .ok (.iconst 3, 1) := by decide +kernel
theorem dX4_almanacsKept_6 : decode cX4_almanacsKept 6 = .ok (.if_icmp .ge 24, 3) := by decide +kernel
theorem dX4_almanacsKept_9 : decode cX4_almanacsKept 9 = .ok (.aload_n 0, 1) := by decide +kernel
theorem dX4_almanacsKept_10 : decode cX4_almanacsKept 10 = .ok (.getfield 29, 3) := by decide +kernel
theorem dX4_almanacsKept_13 : decode cX4_almanacsKept 13 = .ok (.iload_n 2, 1) := by decide +kernel
theorem dX4_almanacsKept_14 : decode cX4_almanacsKept 14 = .ok (.aaload, 1) := by decide +kernel
theorem dX4_almanacsKept_15 : decode cX4_almanacsKept 15 = .ok (.getfield 124, 3) := by decide +kernel
theorem dX4_almanacsKept_18 : decode cX4_almanacsKept 18 = .ok (.ifCond .eq 6, 3) := by decide +kernel
theorem dX4_almanacsKept_21 : decode cX4_almanacsKept 21 = .ok (.iinc 1 1, 3) := by decide +kernel
theorem dX4_almanacsKept_24 : decode cX4_almanacsKept 24 = .ok (.iinc 2 1, 3) := by decide +kernel
theorem dX4_almanacsKept_27 : decode cX4_almanacsKept 27 = .ok (.goto (-23), 3) := by decide +kernel
theorem dX4_almanacsKept_30 : decode cX4_almanacsKept 30 = .ok (.iload_n 1, 1) := by decide +kernel
theorem dX4_almanacsKept_31 : decode cX4_almanacsKept 31 = .ok (.ireturn, 1) := by decide +kernel
theorem dX5_init_0 : decode cX5_init 0 = .ok (.aload_n 0, 1) := by decide +kernel
theorem dX5_init_1 : decode cX5_init 1 = .ok (.invokespecial 1, 3) := by decide +kernel
theorem dX5_init_4 : decode cX5_init 4 = .ok (.aload_n 0, 1) := by decide +kernel
theorem dX5_init_5 : decode cX5_init 5 = .ok (.bipush 6, 2) := by decide +kernel
theorem dX5_init_7 : decode cX5_init 7 = .ok (.newarray .int, 2) := by decide +kernel
theorem dX5_init_9 : decode cX5_init 9 = .ok (.putfield 7, 3) := by decide +kernel
theorem dX5_init_12 : decode cX5_init 12 = .ok (.aload_n 0, 1) := by decide +kernel
theorem dX5_init_13 : decode cX5_init 13 = .ok (.lconst 1, 1) := by decide +kernel
theorem dX5_init_14 : decode cX5_init 14 = .ok (.putfield 13, 3) := by decide +kernel
theorem dX5_init_17 : decode cX5_init 17 = .ok (.aload_n 0, 1) := by decide +kernel
theorem dX5_init_18 : decode cX5_init 18 = .ok (.bipush 6, 2) := by decide +kernel
theorem dX5_init_20 : decode cX5_init 20 = .ok (.newarray .int, 2) := by decide +kernel
theorem dX5_init_22 : decode cX5_init 22 = .ok (.putfield 17, 3) := by decide +kernel
theorem dX5_init_25 : decode cX5_init 25 = .ok (.aload_n 0, 1) := by decide +kernel
theorem dX5_init_26 : decode cX5_init 26 = .ok (.sipush 240, 3) := by decide +kernel
theorem dX5_init_29 : decode cX5_init 29 = .ok (.newarray .int, 2) := by decide +kernel
theorem dX5_init_31 : decode cX5_init 31 = .ok (.putfield 20, 3) := by decide +kernel
theorem dX5_init_34 : decode cX5_init 34 = .ok (.aload_n 0, 1) := by decide +kernel
theorem dX5_init_35 : decode cX5_init 35 = .ok (.bipush 40, 2) := by decide +kernel
theorem dX5_init_37 : decode cX5_init 37 = .ok (.newarray .int, 2) := by decide +kernel
theorem dX5_init_39 : decode cX5_init 39 = .ok (.putfield 23, 3) := by decide +kernel
theorem dX5_init_42 : decode cX5_init 42 = .ok (.aload_n 0, 1) := by decide +kernel
theorem dX5_init_43 : decode cX5_init 43 = .ok (.iconst 4, 1) := by decide +kernel
theorem dX5_init_44 : decode cX5_init 44 = .ok (.newarray .int, 2) := by decide +kernel
theorem dX5_init_46 : decode cX5_init 46 = .ok (.putfield 26, 3) := by decide +kernel
theorem dX5_init_49 : decode cX5_init 49 = .ok (.aload_n 0, 1) := by decide +kernel
theorem dX5_init_50 : decode cX5_init 50 = .ok (.sipush 240, 3) := by decide +kernel
theorem dX5_init_53 : decode cX5_init 53 = .ok (.newarray .int, 2) := by decide +kernel
theorem dX5_init_55 : decode cX5_init 55 = .ok (.putfield 29, 3) := by decide +kernel
theorem dX5_init_58 : decode cX5_init 58 = .ok (.aload_n 0, 1) := by decide +kernel
theorem dX5_init_59 : decode cX5_init 59 = .ok (.iconst 5, 1) := by decide +kernel
theorem dX5_init_60 : decode cX5_init 60 = .ok (.newarray .int, 2) := by decide +kernel
theorem dX5_init_62 : decode cX5_init 62 = .ok (.putfield 32, 3) := by decide +kernel
theorem dX5_init_65 : decode cX5_init 65 = .ok (.aload_n 0, 1) := by decide +kernel
theorem dX5_init_66 : decode cX5_init 66 = .ok (.iconst 5, 1) := by decide +kernel
theorem dX5_init_67 : decode cX5_init 67 = .ok (.newarray .int, 2) := by decide +kernel
theorem dX5_init_69 : decode cX5_init 69 = .ok (.putfield 35, 3) := by decide +kernel
theorem dX5_init_72 : decode cX5_init 72 = .ok (.aload_n 0, 1) := by decide +kernel
theorem dX5_init_73 : decode cX5_init 73 = .ok (.iconst 5, 1) := by decide +kernel
theorem dX5_init_74 : decode cX5_init 74 = .ok (.newarray .int, 2) := by decide +kernel
theorem dX5_init_76 : decode cX5_init 76 = .ok (.putfield 38, 3) := by decide +kernel
theorem dX5_init_79 : decode cX5_init 79 = .ok (.aload_n 0, 1) := by decide +kernel
theorem dX5_init_80 : decode cX5_init 80 = .ok (.iconst 5, 1) := by decide +kernel
theorem dX5_init_81 : decode cX5_init 81 = .ok (.newarray .int, 2) := by decide +kernel
theorem dX5_init_83 : decode cX5_init 83 = .ok (.putfield 41, 3) := by decide +kernel
theorem dX5_init_86 : decode cX5_init 86 = .ok (.aload_n 0, 1) := by decide +kernel
theorem dX5_init_87 : decode cX5_init 87 = .ok (.bipush 20, 2) := by decide +kernel
theorem dX5_init_89 : decode cX5_init 89 = .ok (.newarray .int, 2) := by decide +kernel
theorem dX5_init_91 : decode cX5_init 91 = .ok (.putfield 44, 3) := by decide +kernel
theorem dX5_init_94 : decode cX5_init 94 = .ok (.aload_n 0, 1) := by decide +kernel
theorem dX5_init_95 : decode cX5_init 95 = .ok (.bipush 63, 2) := by decide +kernel
theorem dX5_init_97 : decode cX5_init 97 = .ok (.newarray .int, 2) := by decide +kernel
theorem dX5_init_99 : decode cX5_init 99 = .ok (.putfield 47, 3) := by decide +kernel
theorem dX5_init_102 : decode cX5_init 102 = .ok (.iconst 0, 1) := by decide +kernel
theorem dX5_init_103 : decode cX5_init 103 = .ok (.istore_n 1, 1) := by decide +kernel
theorem dX5_init_104 : decode cX5_init 104 = .ok (.iload_n 1, 1) := by decide +kernel
theorem dX5_init_105 : decode cX5_init 105 = .ok (.bipush 6, 2) := by decide +kernel
theorem dX5_init_107 : decode cX5_init 107 = .ok (.if_icmp .ge 17, 3) := by decide +kernel
theorem dX5_init_110 : decode cX5_init 110 = .ok (.aload_n 0, 1) := by decide +kernel
theorem dX5_init_111 : decode cX5_init 111 = .ok (.getfield 17, 3) := by decide +kernel
theorem dX5_init_114 : decode cX5_init 114 = .ok (.iload_n 1, 1) := by decide +kernel
theorem dX5_init_115 : decode cX5_init 115 = .ok (.bipush (-9), 2) := by decide +kernel
theorem dX5_init_117 : decode cX5_init 117 = .ok (.iastore, 1) := by decide +kernel
theorem dX5_init_118 : decode cX5_init 118 = .ok (.iinc 1 1, 3) := by decide +kernel
theorem dX5_init_121 : decode cX5_init 121 = .ok (.goto (-17), 3) := by decide +kernel
theorem dX5_init_124 : decode cX5_init 124 = .ok (.iconst 0, 1) := by decide +kernel
theorem dX5_init_125 : decode cX5_init 125 = .ok (.istore_n 1, 1) := by decide +kernel
theorem dX5_init_126 : decode cX5_init 126 = .ok (.iload_n 1, 1) := by decide +kernel
theorem dX5_init_127 : decode cX5_init 127 = .ok (.iconst 4, 1) := by decide +kernel
theorem dX5_init_128 : decode cX5_init 128 = .ok (.if_icmp .ge 17, 3) := by decide +kernel
theorem dX5_init_131 : decode cX5_init 131 = .ok (.aload_n 0, 1) := by decide +kernel
theorem dX5_init_132 : decode cX5_init 132 = .ok (.getfield 26, 3) := by decide +kernel
theorem dX5_init_135 : decode cX5_init 135 = .ok (.iload_n 1, 1) := by decide +kernel
theorem dX5_init_136 : decode cX5_init 136 = .ok (.bipush (-9), 2) := by decide +kernel
theorem dX5_init_138 : decode cX5_init 138 = .ok (.iastore, 1) := by decide +kernel
theorem dX5_init_139 : decode cX5_init 139 = .ok (.iinc 1 1, 3) := by decide +kernel
theorem dX5_init_142 : decode cX5_init 142 = .ok (.goto (-16), 3) := by decide +kernel
theorem dX5_init_145 : decode cX5_init 145 = .ok (.iconst 0, 1) := by decide +kernel
theorem dX5_init_146 : decode cX5_init 146 = .ok (.istore_n 1, 1) := by decide +kernel
theorem dX5_init_147 : decode cX5_init 147 = .ok (.iload_n 1, 1) := by decide +kernel
theorem dX5_init_148 : decode cX5_init 148 = .ok (.iconst 3, 1) := by decide +kernel
theorem dX5_init_149 : decode cX5_init 149 = .ok (.if_icmp .ge 20, 3) := by decide +kernel
theorem dX5_init_152 : decode cX5_init 152 = .ok (.aload_n 0, 1) := by decide +kernel
theorem dX5_init_153 : decode cX5_init 153 = .ok (.getfield 47, 3) := by decide +kernel
theorem dX5_init_156 : decode cX5_init 156 = .ok (.bipush 21, 2) := by decide +kernel
theorem dX5_init_158 : decode cX5_init 158 = .ok (.iload_n 1, 1) := by decide +kernel
theorem dX5_init_159 : decode cX5_init 159 = .ok (.imul, 1) := by decide +kernel
theorem dX5_init_160 : decode cX5_init 160 = .ok (.bipush (-9), 2) := by decide +kernel
theorem dX5_init_162 : decode cX5_init 162 = .ok (.iastore, 1) := by decide +kernel
theorem dX5_init_163 : decode cX5_init 163 = .ok (.iinc 1 1, 3) := by decide +kernel
theorem dX5_init_166 : decode cX5_init 166 = .ok (.goto (-19), 3) := by decide +kernel
theorem dX5_init_169 : decode cX5_init 169 = .ok (.return_, 1) := by decide +kernel
theorem dX5_in_0 : decode cX5_in 0 = .ok (.iload_n 0, 1) := by decide +kernel
theorem dX5_in_1 : decode cX5_in 1 = .ok (.iload_n 1, 1) := by decide +kernel
theorem dX5_in_2 : decode cX5_in 2 = .ok (.if_icmp .lt 12, 3) := by decide +kernel
theorem dX5_in_5 : decode cX5_in 5 = .ok (.iload_n 0, 1) := by decide +kernel
theorem dX5_in_6 : decode cX5_in 6 = .ok (.iload_n 2, 1) := by decide +kernel
theorem dX5_in_7 : decode cX5_in 7 = .ok (.if_icmp .gt 7, 3) := by decide +kernel
theorem dX5_in_10 : decode cX5_in 10 = .ok (.iconst 1, 1) := by decide +kernel
theorem dX5_in_11 : decode cX5_in 11 = .ok (.goto 4, 3) := by decide +kernel
theorem dX5_in_14 : decode cX5_in 14 = .ok (.iconst 0, 1) := by decide +kernel
theorem dX5_in_15 : decode cX5_in 15 = .ok (.ireturn, 1) := by decide +kernel
theorem dX5_meet_0 : decode cX5_meet 0 = .ok (.aload_n 0, 1) := by decide +kernel
theorem dX5_meet_1 : decode cX5_meet 1 = .ok (.iload_n 1, 1) := by decide +kernel
theorem dX5_meet_2 : decode cX5_meet 2 = .ok (.putfield 50, 3) := by decide +kernel
theorem dX5_meet_5 : decode cX5_meet 5 = .ok (.aload_n 0, 1) := by decide +kernel
theorem dX5_meet_6 : decode cX5_meet 6 = .ok (.getfield 7, 3) := by decide +kernel
theorem dX5_meet_9 : decode cX5_meet 9 = .ok (.iload_n 1, 1) := by decide +kernel
theorem dX5_meet_10 : decode cX5_meet 10 = .ok (.dup2, 1) := by decide +kernel
theorem dX5_meet_11 : decode cX5_meet 11 = .ok (.iaload, 1) := by decide +kernel
theorem dX5_meet_12 : decode cX5_meet 12 = .ok (.iconst 1, 1) := by decide +kernel
theorem dX5_meet_13 : decode cX5_meet 13 = .ok (.iadd, 1) := by decide +kernel
theorem dX5_meet_14 : decode cX5_meet 14 = .ok (.iastore, 1) := by decide +kernel
theorem dX5_meet_15 : decode cX5_meet 15 = .ok (.bipush (-3), 2) := by decide +kernel
theorem dX5_meet_17 : decode cX5_meet 17 = .ok (.ireturn, 1) := by decide +kernel
theorem dX5_ask_0 : decode cX5_ask 0 = .ok (.aload_n 0, 1) := by decide +kernel
theorem dX5_ask_1 : decode cX5_ask 1 = .ok (.iload_n 1, 1) := by decide +kernel
theorem dX5_ask_2 : decode cX5_ask 2 = .ok (.putfield 54, 3) := by decide +kernel
theorem dX5_ask_5 : decode cX5_ask 5 = .ok (.iload_n 2, 1) := by decide +kernel
theorem dX5_ask_6 : decode cX5_ask 6 = .ok (.ireturn, 1) := by decide +kernel
theorem dX5_greater_0 : decode cX5_greater 0 = .ok (.iload_n 0, 1) := by decide +kernel
theorem dX5_greater_1 : decode cX5_greater 1 = .ok (.iload_n 1, 1) := by decide +kernel
theorem dX5_greater_2 : decode cX5_greater 2 = .ok (.if_icmp .le 7, 3) := by decide +kernel
theorem dX5_greater_5 : decode cX5_greater 5 = .ok (.iload_n 0, 1) := by decide +kernel
theorem dX5_greater_6 : decode cX5_greater 6 = .ok (.goto 4, 3) := by decide +kernel
theorem dX5_greater_9 : decode cX5_greater 9 = .ok (.iload_n 1, 1) := by decide +kernel
theorem dX5_greater_10 : decode cX5_greater 10 = .ok (.ireturn, 1) := by decide +kernel
theorem dX5_apartOf_0 : decode cX5_apartOf 0 = .ok (.iload_n 0, 1) := by decide +kernel
theorem dX5_apartOf_1 : decode cX5_apartOf 1 = .ok (.iload_n 1, 1) := by decide +kernel
theorem dX5_apartOf_2 : decode cX5_apartOf 2 = .ok (.if_icmp .le 9, 3) := by decide +kernel
theorem dX5_apartOf_5 : decode cX5_apartOf 5 = .ok (.iload_n 0, 1) := by decide +kernel
theorem dX5_apartOf_6 : decode cX5_apartOf 6 = .ok (.iload_n 1, 1) := by decide +kernel
theorem dX5_apartOf_7 : decode cX5_apartOf 7 = .ok (.isub, 1) := by decide +kernel
theorem dX5_apartOf_8 : decode cX5_apartOf 8 = .ok (.goto 6, 3) := by decide +kernel
theorem dX5_apartOf_11 : decode cX5_apartOf 11 = .ok (.iload_n 1, 1) := by decide +kernel
theorem dX5_apartOf_12 : decode cX5_apartOf 12 = .ok (.iload_n 0, 1) := by decide +kernel
theorem dX5_apartOf_13 : decode cX5_apartOf 13 = .ok (.isub, 1) := by decide +kernel
theorem dX5_apartOf_14 : decode cX5_apartOf 14 = .ok (.ireturn, 1) := by decide +kernel
theorem dX5_part_0 : decode cX5_part 0 = .ok (.lload_n 1, 1) := by decide +kernel
theorem dX5_part_1 : decode cX5_part 1 = .ok (.lstore 5, 2) := by decide +kernel
theorem dX5_part_3 : decode cX5_part 3 = .ok (.lload_n 3, 1) := by decide +kernel
theorem dX5_part_4 : decode cX5_part 4 = .ok (.lstore 7, 2) := by decide +kernel
theorem dX5_part_6 : decode cX5_part 6 = .ok (.lload 7, 2) := by decide +kernel
end
section
theorem dX5_part_8 : decode cX5_part 8 = .ok (.lconst 0, 1) := by decide +kernel
theorem dX5_part_9 : decode cX5_part 9 = .ok (.lcmp, 1) := by decide +kernel
theorem dX5_part_10 : decode cX5_part 10 = .ok (.ifCond .eq 21, 3) := by decide +kernel
theorem dX5_part_13 : decode cX5_part 13 = .ok (.lload 5, 2) := by decide +kernel
theorem dX5_part_15 : decode cX5_part 15 = .ok (.lload 7, 2) := by decide +kernel
theorem dX5_part_17 : decode cX5_part 17 = .ok (.lrem, 1) := by decide +kernel
theorem dX5_part_18 : decode cX5_part 18 = .ok (.lstore 9, 2) := by decide +kernel
theorem dX5_part_20 : decode cX5_part 20 = .ok (.lload 7, 2) := by decide +kernel
theorem dX5_part_22 : decode cX5_part 22 = .ok (.lstore 5, 2) := by decide +kernel
theorem dX5_part_24 : decode cX5_part 24 = .ok (.lload 9, 2) := by decide +kernel
theorem dX5_part_26 : decode cX5_part 26 = .ok (.lstore 7, 2) := by decide +kernel
theorem dX5_part_28 : decode cX5_part 28 = .ok (.goto (-22), 3) := by decide +kernel
theorem dX5_part_31 : decode cX5_part 31 = .ok (.aload_n 0, 1) := by decide +kernel
theorem dX5_part_32 : decode cX5_part 32 = .ok (.lload_n 1, 1) := by decide +kernel
theorem dX5_part_33 : decode cX5_part 33 = .ok (.lload 5, 2) := by decide +kernel
theorem dX5_part_35 : decode cX5_part 35 = .ok (.ldiv, 1) := by decide +kernel
theorem dX5_part_36 : decode cX5_part 36 = .ok (.putfield 57, 3) := by decide +kernel
theorem dX5_part_39 : decode cX5_part 39 = .ok (.aload_n 0, 1) := by decide +kernel
theorem dX5_part_40 : decode cX5_part 40 = .ok (.lload_n 3, 1) := by decide +kernel
theorem dX5_part_41 : decode cX5_part 41 = .ok (.lload 5, 2) := by decide +kernel
theorem dX5_part_43 : decode cX5_part 43 = .ok (.ldiv, 1) := by decide +kernel
theorem dX5_part_44 : decode cX5_part 44 = .ok (.putfield 13, 3) := by decide +kernel
theorem dX5_part_47 : decode cX5_part 47 = .ok (.iconst 1, 1) := by decide +kernel
theorem dX5_part_48 : decode cX5_part 48 = .ok (.ireturn, 1) := by decide +kernel
theorem dX5_isRow_0 : decode cX5_isRow 0 = .ok (.iload_n 0, 1) := by decide +kernel
theorem dX5_isRow_1 : decode cX5_isRow 1 = .ok (.iconst 0, 1) := by decide +kernel
theorem dX5_isRow_2 : decode cX5_isRow 2 = .ok (.iconst 5, 1) := by decide +kernel
theorem dX5_isRow_3 : decode cX5_isRow 3 = .ok (.invokestatic 60, 3) := by decide +kernel
theorem dX5_isRow_6 : decode cX5_isRow 6 = .ok (.ireturn, 1) := by decide +kernel
theorem dX5_isText_0 : decode cX5_isText 0 = .ok (.iload_n 0, 1) := by decide +kernel
theorem dX5_isText_1 : decode cX5_isText 1 = .ok (.iconst 0, 1) := by decide +kernel
theorem dX5_isText_2 : decode cX5_isText 2 = .ok (.iconst 3, 1) := by decide +kernel
theorem dX5_isText_3 : decode cX5_isText 3 = .ok (.invokestatic 60, 3) := by decide +kernel
theorem dX5_isText_6 : decode cX5_isText 6 = .ok (.ireturn, 1) := by decide +kernel
theorem dX5_askedRow_0 : decode cX5_askedRow 0 = .ok (.iload_n 1, 1) := by decide +kernel
theorem dX5_askedRow_1 : decode cX5_askedRow 1 = .ok (.invokestatic 64, 3) := by decide +kernel
theorem dX5_askedRow_4 : decode cX5_askedRow 4 = .ok (.ifCond .ne 7, 3) := by decide +kernel
theorem dX5_askedRow_7 : decode cX5_askedRow 7 = .ok (.iconst (-1), 1) := by decide +kernel
theorem dX5_askedRow_8 : decode cX5_askedRow 8 = .ok (.goto 21, 3) := by decide +kernel
theorem dX5_askedRow_11 : decode cX5_askedRow 11 = .ok (.aload_n 0, 1) := by decide +kernel
theorem dX5_askedRow_12 : decode cX5_askedRow 12 = .ok (.getfield 17, 3) := by decide +kernel
theorem dX5_askedRow_15 : decode cX5_askedRow 15 = .ok (.iload_n 1, 1) := by decide +kernel
theorem dX5_askedRow_16 : decode cX5_askedRow 16 = .ok (.iaload, 1) := by decide +kernel
theorem dX5_askedRow_17 : decode cX5_askedRow 17 = .ok (.ifCond .ge 11, 3) := by decide +kernel
theorem dX5_askedRow_20 : decode cX5_askedRow 20 = .ok (.aload_n 0, 1) := by decide +kernel
theorem dX5_askedRow_21 : decode cX5_askedRow 21 = .ok (.iconst 1, 1) := by decide +kernel
theorem dX5_askedRow_22 : decode cX5_askedRow 22 = .ok (.invokevirtual 68, 3) := by decide +kernel
theorem dX5_askedRow_25 : decode cX5_askedRow 25 = .ok (.goto 4, 3) := by decide +kernel
theorem dX5_askedRow_28 : decode cX5_askedRow 28 = .ok (.iconst 0, 1) := by decide +kernel
theorem dX5_askedRow_29 : decode cX5_askedRow 29 = .ok (.ireturn, 1) := by decide +kernel
theorem dX5_askedText_0 : decode cX5_askedText 0 = .ok (.iload_n 1, 1) := by decide +kernel
theorem dX5_askedText_1 : decode cX5_askedText 1 = .ok (.invokestatic 72, 3) := by decide +kernel
theorem dX5_askedText_4 : decode cX5_askedText 4 = .ok (.ifCond .ne 7, 3) := by decide +kernel
theorem dX5_askedText_7 : decode cX5_askedText 7 = .ok (.iconst (-1), 1) := by decide +kernel
theorem dX5_askedText_8 : decode cX5_askedText 8 = .ok (.goto 21, 3) := by decide +kernel
theorem dX5_askedText_11 : decode cX5_askedText 11 = .ok (.aload_n 0, 1) := by decide +kernel
theorem dX5_askedText_12 : decode cX5_askedText 12 = .ok (.getfield 26, 3) := by decide +kernel
theorem dX5_askedText_15 : decode cX5_askedText 15 = .ok (.iload_n 1, 1) := by decide +kernel
theorem dX5_askedText_16 : decode cX5_askedText 16 = .ok (.iaload, 1) := by decide +kernel
theorem dX5_askedText_17 : decode cX5_askedText 17 = .ok (.ifCond .ge 11, 3) := by decide +kernel
theorem dX5_askedText_20 : decode cX5_askedText 20 = .ok (.aload_n 0, 1) := by decide +kernel
theorem dX5_askedText_21 : decode cX5_askedText 21 = .ok (.iconst 1, 1) := by decide +kernel
theorem dX5_askedText_22 : decode cX5_askedText 22 = .ok (.invokevirtual 68, 3) := by decide +kernel
theorem dX5_askedText_25 : decode cX5_askedText 25 = .ok (.goto 4, 3) := by decide +kernel
theorem dX5_askedText_28 : decode cX5_askedText 28 = .ok (.iconst 0, 1) := by decide +kernel
theorem dX5_askedText_29 : decode cX5_askedText 29 = .ok (.ireturn, 1) := by decide +kernel
theorem dX5_rowAt_0 : decode cX5_rowAt 0 = .ok (.aload_n 0, 1) := by decide +kernel
theorem dX5_rowAt_1 : decode cX5_rowAt 1 = .ok (.getfield 20, 3) := by decide +kernel
theorem dX5_rowAt_4 : decode cX5_rowAt 4 = .ok (.bipush 40, 2) := by decide +kernel
theorem dX5_rowAt_6 : decode cX5_rowAt 6 = .ok (.iload_n 1, 1) := by decide +kernel
theorem dX5_rowAt_7 : decode cX5_rowAt 7 = .ok (.imul, 1) := by decide +kernel
theorem dX5_rowAt_8 : decode cX5_rowAt 8 = .ok (.iload_n 2, 1) := by decide +kernel
theorem dX5_rowAt_9 : decode cX5_rowAt 9 = .ok (.iadd, 1) := by decide +kernel
theorem dX5_rowAt_10 : decode cX5_rowAt 10 = .ok (.iaload, 1) := by decide +kernel
theorem dX5_rowAt_11 : decode cX5_rowAt 11 = .ok (.ireturn, 1) := by decide +kernel
theorem dX5_setRow_0 : decode cX5_setRow 0 = .ok (.aload_n 0, 1) := by decide +kernel
theorem dX5_setRow_1 : decode cX5_setRow 1 = .ok (.getfield 20, 3) := by decide +kernel
theorem dX5_setRow_4 : decode cX5_setRow 4 = .ok (.bipush 40, 2) := by decide +kernel
theorem dX5_setRow_6 : decode cX5_setRow 6 = .ok (.iload_n 1, 1) := by decide +kernel
theorem dX5_setRow_7 : decode cX5_setRow 7 = .ok (.imul, 1) := by decide +kernel
theorem dX5_setRow_8 : decode cX5_setRow 8 = .ok (.iload_n 2, 1) := by decide +kernel
theorem dX5_setRow_9 : decode cX5_setRow 9 = .ok (.iadd, 1) := by decide +kernel
theorem dX5_setRow_10 : decode cX5_setRow 10 = .ok (.iload_n 3, 1) := by decide +kernel
theorem dX5_setRow_11 : decode cX5_setRow 11 = .ok (.iastore, 1) := by decide +kernel
theorem dX5_setRow_12 : decode cX5_setRow 12 = .ok (.return_, 1) := by decide +kernel
theorem dX5_row_0 : decode cX5_row 0 = .ok (.iload_n 1, 1) := by decide +kernel
theorem dX5_row_1 : decode cX5_row 1 = .ok (.invokestatic 64, 3) := by decide +kernel
theorem dX5_row_4 : decode cX5_row 4 = .ok (.ifCond .eq 9, 3) := by decide +kernel
theorem dX5_row_7 : decode cX5_row 7 = .ok (.iload_n 2, 1) := by decide +kernel
theorem dX5_row_8 : decode cX5_row 8 = .ok (.bipush 40, 2) := by decide +kernel
theorem dX5_row_10 : decode cX5_row 10 = .ok (.if_icmp .le 5, 3) := by decide +kernel
theorem dX5_row_13 : decode cX5_row 13 = .ok (.iconst (-1), 1) := by decide +kernel
theorem dX5_row_14 : decode cX5_row 14 = .ok (.ireturn, 1) := by decide +kernel
theorem dX5_row_15 : decode cX5_row 15 = .ok (.iload_n 2, 1) := by decide +kernel
theorem dX5_row_16 : decode cX5_row 16 = .ok (.ifCond .ge 9, 3) := by decide +kernel
theorem dX5_row_19 : decode cX5_row 19 = .ok (.aload_n 0, 1) := by decide +kernel
theorem dX5_row_20 : decode cX5_row 20 = .ok (.iconst 5, 1) := by decide +kernel
theorem dX5_row_21 : decode cX5_row 21 = .ok (.invokevirtual 68, 3) := by decide +kernel
theorem dX5_row_24 : decode cX5_row 24 = .ok (.ireturn, 1) := by decide +kernel
theorem dX5_row_25 : decode cX5_row 25 = .ok (.aload_n 0, 1) := by decide +kernel
theorem dX5_row_26 : decode cX5_row 26 = .ok (.getfield 17, 3) := by decide +kernel
theorem dX5_row_29 : decode cX5_row 29 = .ok (.iload_n 1, 1) := by decide +kernel
theorem dX5_row_30 : decode cX5_row 30 = .ok (.iload_n 2, 1) := by decide +kernel
theorem dX5_row_31 : decode cX5_row 31 = .ok (.iastore, 1) := by decide +kernel
theorem dX5_row_32 : decode cX5_row 32 = .ok (.iconst 0, 1) := by decide +kernel
theorem dX5_row_33 : decode cX5_row 33 = .ok (.istore_n 3, 1) := by decide +kernel
theorem dX5_row_34 : decode cX5_row 34 = .ok (.iload_n 3, 1) := by decide +kernel
theorem dX5_row_35 : decode cX5_row 35 = .ok (.bipush 40, 2) := by decide +kernel
theorem dX5_row_37 : decode cX5_row 37 = .ok (.if_icmp .ge 16, 3) := by decide +kernel
theorem dX5_row_40 : decode cX5_row 40 = .ok (.aload_n 0, 1) := by decide +kernel
theorem dX5_row_41 : decode cX5_row 41 = .ok (.iload_n 1, 1) := by decide +kernel
theorem dX5_row_42 : decode cX5_row 42 = .ok (.iload_n 3, 1) := by decide +kernel
theorem dX5_row_43 : decode cX5_row 43 = .ok (.iconst 0, 1) := by decide +kernel
theorem dX5_row_44 : decode cX5_row 44 = .ok (.invokevirtual 75, 3) := by decide +kernel
theorem dX5_row_47 : decode cX5_row 47 = .ok (.iinc 3 1, 3) := by decide +kernel
theorem dX5_row_50 : decode cX5_row 50 = .ok (.goto (-16), 3) := by decide +kernel
theorem dX5_row_53 : decode cX5_row 53 = .ok (.iload_n 2, 1) := by decide +kernel
theorem dX5_row_54 : decode cX5_row 54 = .ok (.ireturn, 1) := by decide +kernel
theorem dX5_at_0 : decode cX5_at 0 = .ok (.aload_n 0, 1) := by decide +kernel
theorem dX5_at_1 : decode cX5_at 1 = .ok (.iload_n 1, 1) := by decide +kernel
theorem dX5_at_2 : decode cX5_at 2 = .ok (.invokevirtual 79, 3) := by decide +kernel
theorem dX5_at_5 : decode cX5_at 5 = .ok (.istore_n 3, 1) := by decide +kernel
theorem dX5_at_6 : decode cX5_at 6 = .ok (.iload_n 3, 1) := by decide +kernel
theorem dX5_at_7 : decode cX5_at 7 = .ok (.ifCond .ge 5, 3) := by decide +kernel
theorem dX5_at_10 : decode cX5_at 10 = .ok (.iload_n 3, 1) := by decide +kernel
theorem dX5_at_11 : decode cX5_at 11 = .ok (.ireturn, 1) := by decide +kernel
theorem dX5_at_12 : decode cX5_at 12 = .ok (.iload_n 2, 1) := by decide +kernel
theorem dX5_at_13 : decode cX5_at 13 = .ok (.iconst 0, 1) := by decide +kernel
theorem dX5_at_14 : decode cX5_at 14 = .ok (.aload_n 0, 1) := by decide +kernel
theorem dX5_at_15 : decode cX5_at 15 = .ok (.getfield 17, 3) := by decide +kernel
theorem dX5_at_18 : decode cX5_at 18 = .ok (.iload_n 1, 1) := by decide +kernel
theorem dX5_at_19 : decode cX5_at 19 = .ok (.iaload, 1) := by decide +kernel
theorem dX5_at_20 : decode cX5_at 20 = .ok (.iconst 1, 1) := by decide +kernel
theorem dX5_at_21 : decode cX5_at 21 = .ok (.isub, 1) := by decide +kernel
theorem dX5_at_22 : decode cX5_at 22 = .ok (.invokestatic 60, 3) := by decide +kernel
theorem dX5_at_25 : decode cX5_at 25 = .ok (.ifCond .eq 17, 3) := by decide +kernel
theorem dX5_at_28 : decode cX5_at 28 = .ok (.aload_n 0, 1) := by decide +kernel
theorem dX5_at_29 : decode cX5_at 29 = .ok (.aload_n 0, 1) := by decide +kernel
theorem dX5_at_30 : decode cX5_at 30 = .ok (.iload_n 1, 1) := by decide +kernel
theorem dX5_at_31 : decode cX5_at 31 = .ok (.iload_n 2, 1) := by decide +kernel
theorem dX5_at_32 : decode cX5_at 32 = .ok (.invokevirtual 82, 3) := by decide +kernel
theorem dX5_at_35 : decode cX5_at 35 = .ok (.iconst 1, 1) := by decide +kernel
theorem dX5_at_36 : decode cX5_at 36 = .ok (.invokevirtual 86, 3) := by decide +kernel
theorem dX5_at_39 : decode cX5_at 39 = .ok (.goto 8, 3) := by decide +kernel
theorem dX5_at_42 : decode cX5_at 42 = .ok (.aload_n 0, 1) := by decide +kernel
theorem dX5_at_43 : decode cX5_at 43 = .ok (.iconst 2, 1) := by decide +kernel
theorem dX5_at_44 : decode cX5_at 44 = .ok (.invokevirtual 68, 3) := by decide +kernel
theorem dX5_at_47 : decode cX5_at 47 = .ok (.ireturn, 1) := by decide +kernel
theorem dX5_lay_0 : decode cX5_lay 0 = .ok (.aload_n 0, 1) := by decide +kernel
theorem dX5_lay_1 : decode cX5_lay 1 = .ok (.iload_n 1, 1) := by decide +kernel
theorem dX5_lay_2 : decode cX5_lay 2 = .ok (.iload_n 2, 1) := by decide +kernel
theorem dX5_lay_3 : decode cX5_lay 3 = .ok (.invokevirtual 89, 3) := by decide +kernel
theorem dX5_lay_6 : decode cX5_lay 6 = .ok (.istore 4, 2) := by decide +kernel
theorem dX5_lay_8 : decode cX5_lay 8 = .ok (.iload 4, 2) := by decide +kernel
theorem dX5_lay_10 : decode cX5_lay 10 = .ok (.ifCond .ge 6, 3) := by decide +kernel
theorem dX5_lay_13 : decode cX5_lay 13 = .ok (.iload 4, 2) := by decide +kernel
theorem dX5_lay_15 : decode cX5_lay 15 = .ok (.ireturn, 1) := by decide +kernel
theorem dX5_lay_16 : decode cX5_lay 16 = .ok (.aload_n 0, 1) := by decide +kernel
theorem dX5_lay_17 : decode cX5_lay 17 = .ok (.iload_n 1, 1) := by decide +kernel
theorem dX5_lay_18 : decode cX5_lay 18 = .ok (.iload_n 2, 1) := by decide +kernel
theorem dX5_lay_19 : decode cX5_lay 19 = .ok (.iload_n 3, 1) := by decide +kernel
theorem dX5_lay_20 : decode cX5_lay 20 = .ok (.invokevirtual 75, 3) := by decide +kernel
theorem dX5_lay_23 : decode cX5_lay 23 = .ok (.iconst 1, 1) := by decide +kernel
theorem dX5_lay_24 : decode cX5_lay 24 = .ok (.ireturn, 1) := by decide +kernel
theorem dX5_tear_0 : decode cX5_tear 0 = .ok (.aload_n 0, 1) := by decide +kernel
theorem dX5_tear_1 : decode cX5_tear 1 = .ok (.iload_n 1, 1) := by decide +kernel
theorem dX5_tear_2 : decode cX5_tear 2 = .ok (.invokevirtual 79, 3) := by decide +kernel
theorem dX5_tear_5 : decode cX5_tear 5 = .ok (.istore_n 2, 1) := by decide +kernel
theorem dX5_tear_6 : decode cX5_tear 6 = .ok (.iload_n 2, 1) := by decide +kernel
theorem dX5_tear_7 : decode cX5_tear 7 = .ok (.ifCond .ge 5, 3) := by decide +kernel
theorem dX5_tear_10 : decode cX5_tear 10 = .ok (.iload_n 2, 1) := by decide +kernel
theorem dX5_tear_11 : decode cX5_tear 11 = .ok (.ireturn, 1) := by decide +kernel
theorem dX5_tear_12 : decode cX5_tear 12 = .ok (.aload_n 0, 1) := by decide +kernel
theorem dX5_tear_13 : decode cX5_tear 13 = .ok (.getfield 17, 3) := by decide +kernel
theorem dX5_tear_16 : decode cX5_tear 16 = .ok (.iload_n 1, 1) := by decide +kernel
theorem dX5_tear_17 : decode cX5_tear 17 = .ok (.bipush (-9), 2) := by decide +kernel
theorem dX5_tear_19 : decode cX5_tear 19 = .ok (.iastore, 1) := by decide +kernel
theorem dX5_tear_20 : decode cX5_tear 20 = .ok (.iconst 1, 1) := by decide +kernel
theorem dX5_tear_21 : decode cX5_tear 21 = .ok (.ireturn, 1) := by decide +kernel
theorem dX5_copy_0 : decode cX5_copy 0 = .ok (.iload_n 1, 1) := by decide +kernel
theorem dX5_copy_1 : decode cX5_copy 1 = .ok (.invokestatic 64, 3) := by decide +kernel
theorem dX5_copy_4 : decode cX5_copy 4 = .ok (.ifCond .eq 10, 3) := by decide +kernel
theorem dX5_copy_7 : decode cX5_copy 7 = .ok (.iload_n 3, 1) := by decide +kernel
theorem dX5_copy_8 : decode cX5_copy 8 = .ok (.invokestatic 64, 3) := by decide +kernel
theorem dX5_copy_11 : decode cX5_copy 11 = .ok (.ifCond .ne 5, 3) := by decide +kernel
theorem dX5_copy_14 : decode cX5_copy 14 = .ok (.iconst (-1), 1) := by decide +kernel
theorem dX5_copy_15 : decode cX5_copy 15 = .ok (.ireturn, 1) := by decide +kernel
theorem dX5_copy_16 : decode cX5_copy 16 = .ok (.iload 5, 2) := by decide +kernel
theorem dX5_copy_18 : decode cX5_copy 18 = .ok (.ifCond .ge 9, 3) := by decide +kernel
theorem dX5_copy_21 : decode cX5_copy 21 = .ok (.aload_n 0, 1) := by decide +kernel
theorem dX5_copy_22 : decode cX5_copy 22 = .ok (.iconst 5, 1) := by decide +kernel
theorem dX5_copy_23 : decode cX5_copy 23 = .ok (.invokevirtual 68, 3) := by decide +kernel
theorem dX5_copy_26 : decode cX5_copy 26 = .ok (.ireturn, 1) := by decide +kernel
theorem dX5_copy_27 : decode cX5_copy 27 = .ok (.aload_n 0, 1) := by decide +kernel
theorem dX5_copy_28 : decode cX5_copy 28 = .ok (.getfield 17, 3) := by decide +kernel
theorem dX5_copy_31 : decode cX5_copy 31 = .ok (.iload_n 1, 1) := by decide +kernel
theorem dX5_copy_32 : decode cX5_copy 32 = .ok (.iaload, 1) := by decide +kernel
theorem dX5_copy_33 : decode cX5_copy 33 = .ok (.ifCond .lt 12, 3) := by decide +kernel
theorem dX5_copy_36 : decode cX5_copy 36 = .ok (.aload_n 0, 1) := by decide +kernel
theorem dX5_copy_37 : decode cX5_copy 37 = .ok (.getfield 17, 3) := by decide +kernel
theorem dX5_copy_40 : decode cX5_copy 40 = .ok (.iload_n 3, 1) := by decide +kernel
theorem dX5_copy_41 : decode cX5_copy 41 = .ok (.iaload, 1) := by decide +kernel
theorem dX5_copy_42 : decode cX5_copy 42 = .ok (.ifCond .ge 9, 3) := by decide +kernel
theorem dX5_copy_45 : decode cX5_copy 45 = .ok (.aload_n 0, 1) := by decide +kernel
theorem dX5_copy_46 : decode cX5_copy 46 = .ok (.iconst 1, 1) := by decide +kernel
theorem dX5_copy_47 : decode cX5_copy 47 = .ok (.invokevirtual 68, 3) := by decide +kernel
theorem dX5_copy_50 : decode cX5_copy 50 = .ok (.ireturn, 1) := by decide +kernel
theorem dX5_copy_51 : decode cX5_copy 51 = .ok (.iload_n 2, 1) := by decide +kernel
theorem dX5_copy_52 : decode cX5_copy 52 = .ok (.ifCond .lt 43, 3) := by decide +kernel
theorem dX5_copy_55 : decode cX5_copy 55 = .ok (.iload 4, 2) := by decide +kernel
theorem dX5_copy_57 : decode cX5_copy 57 = .ok (.ifCond .lt 38, 3) := by decide +kernel
theorem dX5_copy_60 : decode cX5_copy 60 = .ok (.iload_n 2, 1) := by decide +kernel
theorem dX5_copy_61 : decode cX5_copy 61 = .ok (.i2l, 1) := by decide +kernel
theorem dX5_copy_62 : decode cX5_copy 62 = .ok (.iload 5, 2) := by decide +kernel
theorem dX5_copy_64 : decode cX5_copy 64 = .ok (.i2l, 1) := by decide +kernel
theorem dX5_copy_65 : decode cX5_copy 65 = .ok (.ladd, 1) := by decide +kernel
theorem dX5_copy_66 : decode cX5_copy 66 = .ok (.aload_n 0, 1) := by decide +kernel
theorem dX5_copy_67 : decode cX5_copy 67 = .ok (.getfield 17, 3) := by decide +kernel
theorem dX5_copy_70 : decode cX5_copy 70 = .ok (.iload_n 1, 1) := by decide +kernel
theorem dX5_copy_71 : decode cX5_copy 71 = .ok (.iaload, 1) := by decide +kernel
theorem dX5_copy_72 : decode cX5_copy 72 = .ok (.i2l, 1) := by decide +kernel
theorem dX5_copy_73 : decode cX5_copy 73 = .ok (.lcmp, 1) := by decide +kernel
theorem dX5_copy_74 : decode cX5_copy 74 = .ok (.ifCond .gt 21, 3) := by decide +kernel
theorem dX5_copy_77 : decode cX5_copy 77 = .ok (.iload 4, 2) := by decide +kernel
theorem dX5_copy_79 : decode cX5_copy 79 = .ok (.i2l, 1) := by decide +kernel
theorem dX5_copy_80 : decode cX5_copy 80 = .ok (.iload 5, 2) := by decide +kernel
theorem dX5_copy_82 : decode cX5_copy 82 = .ok (.i2l, 1) := by decide +kernel
theorem dX5_copy_83 : decode cX5_copy 83 = .ok (.ladd, 1) := by decide +kernel
theorem dX5_copy_84 : decode cX5_copy 84 = .ok (.aload_n 0, 1) := by decide +kernel
theorem dX5_copy_85 : decode cX5_copy 85 = .ok (.getfield 17, 3) := by decide +kernel
theorem dX5_copy_88 : decode cX5_copy 88 = .ok (.iload_n 3, 1) := by decide +kernel
theorem dX5_copy_89 : decode cX5_copy 89 = .ok (.iaload, 1) := by decide +kernel
theorem dX5_copy_90 : decode cX5_copy 90 = .ok (.i2l, 1) := by decide +kernel
theorem dX5_copy_91 : decode cX5_copy 91 = .ok (.lcmp, 1) := by decide +kernel
theorem dX5_copy_92 : decode cX5_copy 92 = .ok (.ifCond .le 9, 3) := by decide +kernel
theorem dX5_copy_95 : decode cX5_copy 95 = .ok (.aload_n 0, 1) := by decide +kernel
theorem dX5_copy_96 : decode cX5_copy 96 = .ok (.iconst 2, 1) := by decide +kernel
theorem dX5_copy_97 : decode cX5_copy 97 = .ok (.invokevirtual 68, 3) := by decide +kernel
theorem dX5_copy_100 : decode cX5_copy 100 = .ok (.ireturn, 1) := by decide +kernel
theorem dX5_copy_101 : decode cX5_copy 101 = .ok (.iconst 0, 1) := by decide +kernel
theorem dX5_copy_102 : decode cX5_copy 102 = .ok (.istore 6, 2) := by decide +kernel
theorem dX5_copy_104 : decode cX5_copy 104 = .ok (.iload 6, 2) := by decide +kernel
theorem dX5_copy_106 : decode cX5_copy 106 = .ok (.iload 5, 2) := by decide +kernel
theorem dX5_copy_108 : decode cX5_copy 108 = .ok (.if_icmp .ge 25, 3) := by decide +kernel
theorem dX5_copy_111 : decode cX5_copy 111 = .ok (.aload_n 0, 1) := by decide +kernel
theorem dX5_copy_112 : decode cX5_copy 112 = .ok (.getfield 23, 3) := by decide +kernel
theorem dX5_copy_115 : decode cX5_copy 115 = .ok (.iload 6, 2) := by decide +kernel
theorem dX5_copy_117 : decode cX5_copy 117 = .ok (.aload_n 0, 1) := by decide +kernel
theorem dX5_copy_118 : decode cX5_copy 118 = .ok (.iload_n 1, 1) := by decide +kernel
theorem dX5_copy_119 : decode cX5_copy 119 = .ok (.iload_n 2, 1) := by decide +kernel
theorem dX5_copy_120 : decode cX5_copy 120 = .ok (.iload 6, 2) := by decide +kernel
theorem dX5_copy_122 : decode cX5_copy 122 = .ok (.iadd, 1) := by decide +kernel
theorem dX5_copy_123 : decode cX5_copy 123 = .ok (.invokevirtual 82, 3) := by decide +kernel
theorem dX5_copy_126 : decode cX5_copy 126 = .ok (.iastore, 1) := by decide +kernel
theorem dX5_copy_127 : decode cX5_copy 127 = .ok (.iinc 6 1, 3) := by decide +kernel
theorem dX5_copy_130 : decode cX5_copy 130 = .ok (.goto (-26), 3) := by decide +kernel
theorem dX5_copy_133 : decode cX5_copy 133 = .ok (.iconst 0, 1) := by decide +kernel
theorem dX5_copy_134 : decode cX5_copy 134 = .ok (.istore 6, 2) := by decide +kernel
theorem dX5_copy_136 : decode cX5_copy 136 = .ok (.iload 6, 2) := by decide +kernel
theorem dX5_copy_138 : decode cX5_copy 138 = .ok (.iload 5, 2) := by decide +kernel
theorem dX5_copy_140 : decode cX5_copy 140 = .ok (.if_icmp .ge 26, 3) := by decide +kernel
theorem dX5_copy_143 : decode cX5_copy 143 = .ok (.aload_n 0, 1) := by decide +kernel
theorem dX5_copy_144 : decode cX5_copy 144 = .ok (.iload_n 3, 1) := by decide +kernel
theorem dX5_copy_145 : decode cX5_copy 145 = .ok (.iload 4, 2) := by decide +kernel
theorem dX5_copy_147 : decode cX5_copy 147 = .ok (.iload 6, 2) := by decide +kernel
theorem dX5_copy_149 : decode cX5_copy 149 = .ok (.iadd, 1) := by decide +kernel
theorem dX5_copy_150 : decode cX5_copy 150 = .ok (.aload_n 0, 1) := by decide +kernel
theorem dX5_copy_151 : decode cX5_copy 151 = .ok (.getfield 23, 3) := by decide +kernel
theorem dX5_copy_154 : decode cX5_copy 154 = .ok (.iload 6, 2) := by decide +kernel
theorem dX5_copy_156 : decode cX5_copy 156 = .ok (.iaload, 1) := by decide +kernel
theorem dX5_copy_157 : decode cX5_copy 157 = .ok (.invokevirtual 75, 3) := by decide +kernel
theorem dX5_copy_160 : decode cX5_copy 160 = .ok (.iinc 6 1, 3) := by decide +kernel
theorem dX5_copy_163 : decode cX5_copy 163 = .ok (.goto (-27), 3) := by decide +kernel
theorem dX5_copy_166 : decode cX5_copy 166 = .ok (.iconst 1, 1) := by decide +kernel
theorem dX5_copy_167 : decode cX5_copy 167 = .ok (.ireturn, 1) := by decide +kernel
theorem dX5_mean_0 : decode cX5_mean 0 = .ok (.aload_n 0, 1) := by decide +kernel
theorem dX5_mean_1 : decode cX5_mean 1 = .ok (.iload_n 1, 1) := by decide +kernel
theorem dX5_mean_2 : decode cX5_mean 2 = .ok (.invokevirtual 79, 3) := by decide +kernel
theorem dX5_mean_5 : decode cX5_mean 5 = .ok (.istore_n 2, 1) := by decide +kernel
theorem dX5_mean_6 : decode cX5_mean 6 = .ok (.iload_n 2, 1) := by decide +kernel
theorem dX5_mean_7 : decode cX5_mean 7 = .ok (.ifCond .ge 5, 3) := by decide +kernel
theorem dX5_mean_10 : decode cX5_mean 10 = .ok (.iload_n 2, 1) := by decide +kernel
theorem dX5_mean_11 : decode cX5_mean 11 = .ok (.ireturn, 1) := by decide +kernel
theorem dX5_mean_12 : decode cX5_mean 12 = .ok (.lconst 0, 1) := by decide +kernel
theorem dX5_mean_13 : decode cX5_mean 13 = .ok (.lstore_n 3, 1) := by decide +kernel
theorem dX5_mean_14 : decode cX5_mean 14 = .ok (.iconst 0, 1) := by decide +kernel
theorem dX5_mean_15 : decode cX5_mean 15 = .ok (.istore 5, 2) := by decide +kernel
theorem dX5_mean_17 : decode cX5_mean 17 = .ok (.iload 5, 2) := by decide +kernel
theorem dX5_mean_19 : decode cX5_mean 19 = .ok (.aload_n 0, 1) := by decide +kernel
theorem dX5_mean_20 : decode cX5_mean 20 = .ok (.getfield 17, 3) := by decide +kernel
theorem dX5_mean_23 : decode cX5_mean 23 = .ok (.iload_n 1, 1) := by decide +kernel
theorem dX5_mean_24 : decode cX5_mean 24 = .ok (.iaload, 1) := by decide +kernel
theorem dX5_mean_25 : decode cX5_mean 25 = .ok (.if_icmp .ge 20, 3) := by decide +kernel
theorem dX5_mean_28 : decode cX5_mean 28 = .ok (.lload_n 3, 1) := by decide +kernel
theorem dX5_mean_29 : decode cX5_mean 29 = .ok (.aload_n 0, 1) := by decide +kernel
theorem dX5_mean_30 : decode cX5_mean 30 = .ok (.iload_n 1, 1) := by decide +kernel
theorem dX5_mean_31 : decode cX5_mean 31 = .ok (.iload 5, 2) := by decide +kernel
theorem dX5_mean_33 : decode cX5_mean 33 = .ok (.invokevirtual 82, 3) := by decide +kernel
theorem dX5_mean_36 : decode cX5_mean 36 = .ok (.i2l, 1) := by decide +kernel
theorem dX5_mean_37 : decode cX5_mean 37 = .ok (.ladd, 1) := by decide +kernel
theorem dX5_mean_38 : decode cX5_mean 38 = .ok (.lstore_n 3, 1) := by decide +kernel
theorem dX5_mean_39 : decode cX5_mean 39 = .ok (.iinc 5 1, 3) := by decide +kernel
theorem dX5_mean_42 : decode cX5_mean 42 = .ok (.goto (-25), 3) := by decide +kernel
theorem dX5_mean_45 : decode cX5_mean 45 = .ok (.aload_n 0, 1) := by decide +kernel
theorem dX5_mean_46 : decode cX5_mean 46 = .ok (.getfield 17, 3) := by decide +kernel
theorem dX5_mean_49 : decode cX5_mean 49 = .ok (.iload_n 1, 1) := by decide +kernel
theorem dX5_mean_50 : decode cX5_mean 50 = .ok (.iaload, 1) := by decide +kernel
theorem dX5_mean_51 : decode cX5_mean 51 = .ok (.ifCond .ne 11, 3) := by decide +kernel
theorem dX5_mean_54 : decode cX5_mean 54 = .ok (.aload_n 0, 1) := by decide +kernel
theorem dX5_mean_55 : decode cX5_mean 55 = .ok (.iconst 4, 1) := by decide +kernel
theorem dX5_mean_56 : decode cX5_mean 56 = .ok (.invokevirtual 68, 3) := by decide +kernel
theorem dX5_mean_59 : decode cX5_mean 59 = .ok (.goto 18, 3) := by decide +kernel
theorem dX5_mean_62 : decode cX5_mean 62 = .ok (.aload_n 0, 1) := by decide +kernel
theorem dX5_mean_63 : decode cX5_mean 63 = .ok (.lload_n 3, 1) := by decide +kernel
theorem dX5_mean_64 : decode cX5_mean 64 = .ok (.aload_n 0, 1) := by decide +kernel
theorem dX5_mean_65 : decode cX5_mean 65 = .ok (.getfield 17, 3) := by decide +kernel
theorem dX5_mean_68 : decode cX5_mean 68 = .ok (.iload_n 1, 1) := by decide +kernel
theorem dX5_mean_69 : decode cX5_mean 69 = .ok (.iaload, 1) := by decide +kernel
theorem dX5_mean_70 : decode cX5_mean 70 = .ok (.i2l, 1) := by decide +kernel
theorem dX5_mean_71 : decode cX5_mean 71 = .ok (.ldiv, 1) := by decide +kernel
theorem dX5_mean_72 : decode cX5_mean 72 = .ok (.l2i, 1) := by decide +kernel
theorem dX5_mean_73 : decode cX5_mean 73 = .ok (.iconst 1, 1) := by decide +kernel
theorem dX5_mean_74 : decode cX5_mean 74 = .ok (.invokevirtual 86, 3) := by decide +kernel
theorem dX5_mean_77 : decode cX5_mean 77 = .ok (.ireturn, 1) := by decide +kernel
theorem dX5_text_0 : decode cX5_text 0 = .ok (.iload_n 1, 1) := by decide +kernel
theorem dX5_text_1 : decode cX5_text 1 = .ok (.invokestatic 72, 3) := by decide +kernel
theorem dX5_text_4 : decode cX5_text 4 = .ok (.ifCond .eq 9, 3) := by decide +kernel
theorem dX5_text_7 : decode cX5_text 7 = .ok (.iload_n 2, 1) := by decide +kernel
theorem dX5_text_8 : decode cX5_text 8 = .ok (.bipush 60, 2) := by decide +kernel
theorem dX5_text_10 : decode cX5_text 10 = .ok (.if_icmp .le 5, 3) := by decide +kernel
theorem dX5_text_13 : decode cX5_text 13 = .ok (.iconst (-1), 1) := by decide +kernel
theorem dX5_text_14 : decode cX5_text 14 = .ok (.ireturn, 1) := by decide +kernel
theorem dX5_text_15 : decode cX5_text 15 = .ok (.iload_n 2, 1) := by decide +kernel
theorem dX5_text_16 : decode cX5_text 16 = .ok (.ifCond .ge 9, 3) := by decide +kernel
theorem dX5_text_19 : decode cX5_text 19 = .ok (.aload_n 0, 1) := by decide +kernel
theorem dX5_text_20 : decode cX5_text 20 = .ok (.iconst 5, 1) := by decide +kernel
theorem dX5_text_21 : decode cX5_text 21 = .ok (.invokevirtual 68, 3) := by decide +kernel
theorem dX5_text_24 : decode cX5_text 24 = .ok (.ireturn, 1) := by decide +kernel
theorem dX5_text_25 : decode cX5_text 25 = .ok (.aload_n 0, 1) := by decide +kernel
theorem dX5_text_26 : decode cX5_text 26 = .ok (.getfield 26, 3) := by decide +kernel
theorem dX5_text_29 : decode cX5_text 29 = .ok (.iload_n 1, 1) := by decide +kernel
theorem dX5_text_30 : decode cX5_text 30 = .ok (.iload_n 2, 1) := by decide +kernel
theorem dX5_text_31 : decode cX5_text 31 = .ok (.iastore, 1) := by decide +kernel
theorem dX5_text_32 : decode cX5_text 32 = .ok (.iconst 0, 1) := by decide +kernel
theorem dX5_text_33 : decode cX5_text 33 = .ok (.istore_n 3, 1) := by decide +kernel
theorem dX5_text_34 : decode cX5_text 34 = .ok (.iload_n 3, 1) := by decide +kernel
theorem dX5_text_35 : decode cX5_text 35 = .ok (.bipush 60, 2) := by decide +kernel
theorem dX5_text_37 : decode cX5_text 37 = .ok (.if_icmp .ge 22, 3) := by decide +kernel
theorem dX5_text_40 : decode cX5_text 40 = .ok (.aload_n 0, 1) := by decide +kernel
theorem dX5_text_41 : decode cX5_text 41 = .ok (.getfield 29, 3) := by decide +kernel
theorem dX5_text_44 : decode cX5_text 44 = .ok (.bipush 60, 2) := by decide +kernel
theorem dX5_text_46 : decode cX5_text 46 = .ok (.iload_n 1, 1) := by decide +kernel
theorem dX5_text_47 : decode cX5_text 47 = .ok (.imul, 1) := by decide +kernel
theorem dX5_text_48 : decode cX5_text 48 = .ok (.iload_n 3, 1) := by decide +kernel
theorem dX5_text_49 : decode cX5_text 49 = .ok (.iadd, 1) := by decide +kernel
theorem dX5_text_50 : decode cX5_text 50 = .ok (.bipush 32, 2) := by decide +kernel
theorem dX5_text_52 : decode cX5_text 52 = .ok (.iastore, 1) := by decide +kernel
theorem dX5_text_53 : decode cX5_text 53 = .ok (.iinc 3 1, 3) := by decide +kernel
theorem dX5_text_56 : decode cX5_text 56 = .ok (.goto (-22), 3) := by decide +kernel
theorem dX5_text_59 : decode cX5_text 59 = .ok (.iload_n 2, 1) := by decide +kernel
theorem dX5_text_60 : decode cX5_text 60 = .ok (.ireturn, 1) := by decide +kernel
theorem dX5_put_0 : decode cX5_put 0 = .ok (.aload_n 0, 1) := by decide +kernel
theorem dX5_put_1 : decode cX5_put 1 = .ok (.iload_n 1, 1) := by decide +kernel
theorem dX5_put_2 : decode cX5_put 2 = .ok (.invokevirtual 92, 3) := by decide +kernel
theorem dX5_put_5 : decode cX5_put 5 = .ok (.istore 4, 2) := by decide +kernel
theorem dX5_put_7 : decode cX5_put 7 = .ok (.iload 4, 2) := by decide +kernel
theorem dX5_put_9 : decode cX5_put 9 = .ok (.ifCond .ge 6, 3) := by decide +kernel
theorem dX5_put_12 : decode cX5_put 12 = .ok (.iload 4, 2) := by decide +kernel
theorem dX5_put_14 : decode cX5_put 14 = .ok (.ireturn, 1) := by decide +kernel
theorem dX5_put_15 : decode cX5_put 15 = .ok (.iload_n 2, 1) := by decide +kernel
theorem dX5_put_16 : decode cX5_put 16 = .ok (.iconst 0, 1) := by decide +kernel
theorem dX5_put_17 : decode cX5_put 17 = .ok (.aload_n 0, 1) := by decide +kernel
theorem dX5_put_18 : decode cX5_put 18 = .ok (.getfield 26, 3) := by decide +kernel
theorem dX5_put_21 : decode cX5_put 21 = .ok (.iload_n 1, 1) := by decide +kernel
theorem dX5_put_22 : decode cX5_put 22 = .ok (.iaload, 1) := by decide +kernel
theorem dX5_put_23 : decode cX5_put 23 = .ok (.iconst 1, 1) := by decide +kernel
theorem dX5_put_24 : decode cX5_put 24 = .ok (.isub, 1) := by decide +kernel
theorem dX5_put_25 : decode cX5_put 25 = .ok (.invokestatic 60, 3) := by decide +kernel
theorem dX5_put_28 : decode cX5_put 28 = .ok (.ifCond .ne 9, 3) := by decide +kernel
theorem dX5_put_31 : decode cX5_put 31 = .ok (.aload_n 0, 1) := by decide +kernel
theorem dX5_put_32 : decode cX5_put 32 = .ok (.iconst 2, 1) := by decide +kernel
theorem dX5_put_33 : decode cX5_put 33 = .ok (.invokevirtual 68, 3) := by decide +kernel
theorem dX5_put_36 : decode cX5_put 36 = .ok (.ireturn, 1) := by decide +kernel
theorem dX5_put_37 : decode cX5_put 37 = .ok (.aload_n 0, 1) := by decide +kernel
theorem dX5_put_38 : decode cX5_put 38 = .ok (.getfield 29, 3) := by decide +kernel
theorem dX5_put_41 : decode cX5_put 41 = .ok (.bipush 60, 2) := by decide +kernel
theorem dX5_put_43 : decode cX5_put 43 = .ok (.iload_n 1, 1) := by decide +kernel
theorem dX5_put_44 : decode cX5_put 44 = .ok (.imul, 1) := by decide +kernel
theorem dX5_put_45 : decode cX5_put 45 = .ok (.iload_n 2, 1) := by decide +kernel
theorem dX5_put_46 : decode cX5_put 46 = .ok (.iadd, 1) := by decide +kernel
theorem dX5_put_47 : decode cX5_put 47 = .ok (.iaload, 1) := by decide +kernel
theorem dX5_put_48 : decode cX5_put 48 = .ok (.istore 5, 2) := by decide +kernel
theorem dX5_put_50 : decode cX5_put 50 = .ok (.aload_n 0, 1) := by decide +kernel
theorem dX5_put_51 : decode cX5_put 51 = .ok (.getfield 29, 3) := by decide +kernel
theorem dX5_put_54 : decode cX5_put 54 = .ok (.bipush 60, 2) := by decide +kernel
theorem dX5_put_56 : decode cX5_put 56 = .ok (.iload_n 1, 1) := by decide +kernel
theorem dX5_put_57 : decode cX5_put 57 = .ok (.imul, 1) := by decide +kernel
theorem dX5_put_58 : decode cX5_put 58 = .ok (.iload_n 2, 1) := by decide +kernel
theorem dX5_put_59 : decode cX5_put 59 = .ok (.iadd, 1) := by decide +kernel
theorem dX5_put_60 : decode cX5_put 60 = .ok (.iload_n 3, 1) := by decide +kernel
theorem dX5_put_61 : decode cX5_put 61 = .ok (.i2b, 1) := by decide +kernel
theorem dX5_put_62 : decode cX5_put 62 = .ok (.iastore, 1) := by decide +kernel
theorem dX5_put_63 : decode cX5_put 63 = .ok (.iload 5, 2) := by decide +kernel
theorem dX5_put_65 : decode cX5_put 65 = .ok (.sipush 1000, 3) := by decide +kernel
theorem dX5_put_68 : decode cX5_put 68 = .ok (.iadd, 1) := by decide +kernel
theorem dX5_put_69 : decode cX5_put 69 = .ok (.ireturn, 1) := by decide +kernel
theorem dX5_here_0 : decode cX5_here 0 = .ok (.aload_n 0, 1) := by decide +kernel
theorem dX5_here_1 : decode cX5_here 1 = .ok (.getfield 95, 3) := by decide +kernel
theorem dX5_here_4 : decode cX5_here 4 = .ok (.aload_n 0, 1) := by decide +kernel
theorem dX5_here_5 : decode cX5_here 5 = .ok (.getfield 26, 3) := by decide +kernel
theorem dX5_here_8 : decode cX5_here 8 = .ok (.iload_n 1, 1) := by decide +kernel
theorem dX5_here_9 : decode cX5_here 9 = .ok (.iaload, 1) := by decide +kernel
theorem dX5_here_10 : decode cX5_here 10 = .ok (.if_icmp .ge 20, 3) := by decide +kernel
theorem dX5_here_13 : decode cX5_here 13 = .ok (.aload_n 0, 1) := by decide +kernel
theorem dX5_here_14 : decode cX5_here 14 = .ok (.getfield 29, 3) := by decide +kernel
theorem dX5_here_17 : decode cX5_here 17 = .ok (.bipush 60, 2) := by decide +kernel
theorem dX5_here_19 : decode cX5_here 19 = .ok (.iload_n 1, 1) := by decide +kernel
theorem dX5_here_20 : decode cX5_here 20 = .ok (.imul, 1) := by decide +kernel
theorem dX5_here_21 : decode cX5_here 21 = .ok (.aload_n 0, 1) := by decide +kernel
theorem dX5_here_22 : decode cX5_here 22 = .ok (.getfield 95, 3) := by decide +kernel
theorem dX5_here_25 : decode cX5_here 25 = .ok (.iadd, 1) := by decide +kernel
theorem dX5_here_26 : decode cX5_here 26 = .ok (.iaload, 1) := by decide +kernel
theorem dX5_here_27 : decode cX5_here 27 = .ok (.goto 5, 3) := by decide +kernel
theorem dX5_here_30 : decode cX5_here 30 = .ok (.bipush (-9), 2) := by decide +kernel
theorem dX5_here_32 : decode cX5_here 32 = .ok (.ireturn, 1) := by decide +kernel
theorem dX5_kindBy_0 : decode cX5_kindBy 0 = .ok (.iload_n 0, 1) := by decide +kernel
theorem dX5_kindBy_1 : decode cX5_kindBy 1 = .ok (.bipush 99, 2) := by decide +kernel
theorem dX5_kindBy_3 : decode cX5_kindBy 3 = .ok (.if_icmp .ne 7, 3) := by decide +kernel
theorem dX5_kindBy_6 : decode cX5_kindBy 6 = .ok (.iconst 0, 1) := by decide +kernel
theorem dX5_kindBy_7 : decode cX5_kindBy 7 = .ok (.goto 55, 3) := by decide +kernel
theorem dX5_kindBy_10 : decode cX5_kindBy 10 = .ok (.iload_n 0, 1) := by decide +kernel
theorem dX5_kindBy_11 : decode cX5_kindBy 11 = .ok (.bipush 108, 2) := by decide +kernel
theorem dX5_kindBy_13 : decode cX5_kindBy 13 = .ok (.if_icmp .ne 7, 3) := by decide +kernel
theorem dX5_kindBy_16 : decode cX5_kindBy 16 = .ok (.iconst 1, 1) := by decide +kernel
theorem dX5_kindBy_17 : decode cX5_kindBy 17 = .ok (.goto 45, 3) := by decide +kernel
theorem dX5_kindBy_20 : decode cX5_kindBy 20 = .ok (.iload_n 0, 1) := by decide +kernel
theorem dX5_kindBy_21 : decode cX5_kindBy 21 = .ok (.bipush 120, 2) := by decide +kernel
theorem dX5_kindBy_23 : decode cX5_kindBy 23 = .ok (.if_icmp .ne 7, 3) := by decide +kernel
theorem dX5_kindBy_26 : decode cX5_kindBy 26 = .ok (.iconst 2, 1) := by decide +kernel
theorem dX5_kindBy_27 : decode cX5_kindBy 27 = .ok (.goto 35, 3) := by decide +kernel
theorem dX5_kindBy_30 : decode cX5_kindBy 30 = .ok (.iload_n 0, 1) := by decide +kernel
theorem dX5_kindBy_31 : decode cX5_kindBy 31 = .ok (.bipush 109, 2) := by decide +kernel
theorem dX5_kindBy_33 : decode cX5_kindBy 33 = .ok (.if_icmp .ne 7, 3) := by decide +kernel
theorem dX5_kindBy_36 : decode cX5_kindBy 36 = .ok (.iconst 3, 1) := by decide +kernel
theorem dX5_kindBy_37 : decode cX5_kindBy 37 = .ok (.goto 25, 3) := by decide +kernel
theorem dX5_kindBy_40 : decode cX5_kindBy 40 = .ok (.iload_n 0, 1) := by decide +kernel
theorem dX5_kindBy_41 : decode cX5_kindBy 41 = .ok (.bipush 111, 2) := by decide +kernel
theorem dX5_kindBy_43 : decode cX5_kindBy 43 = .ok (.if_icmp .ne 7, 3) := by decide +kernel
theorem dX5_kindBy_46 : decode cX5_kindBy 46 = .ok (.iconst 4, 1) := by decide +kernel
theorem dX5_kindBy_47 : decode cX5_kindBy 47 = .ok (.goto 15, 3) := by decide +kernel
theorem dX5_kindBy_50 : decode cX5_kindBy 50 = .ok (.iload_n 0, 1) := by decide +kernel
theorem dX5_kindBy_51 : decode cX5_kindBy 51 = .ok (.bipush 100, 2) := by decide +kernel
theorem dX5_kindBy_53 : decode cX5_kindBy 53 = .ok (.if_icmp .ne 7, 3) := by decide +kernel
theorem dX5_kindBy_56 : decode cX5_kindBy 56 = .ok (.iconst 5, 1) := by decide +kernel
theorem dX5_kindBy_57 : decode cX5_kindBy 57 = .ok (.goto 5, 3) := by decide +kernel
theorem dX5_kindBy_60 : decode cX5_kindBy 60 = .ok (.bipush (-9), 2) := by decide +kernel
theorem dX5_kindBy_62 : decode cX5_kindBy 62 = .ok (.ireturn, 1) := by decide +kernel
theorem dX5_figure_0 : decode cX5_figure 0 = .ok (.aload_n 0, 1) := by decide +kernel
theorem dX5_figure_1 : decode cX5_figure 1 = .ok (.iload_n 1, 1) := by decide +kernel
theorem dX5_figure_2 : decode cX5_figure 2 = .ok (.invokevirtual 98, 3) := by decide +kernel
theorem dX5_figure_5 : decode cX5_figure 5 = .ok (.bipush 48, 2) := by decide +kernel
theorem dX5_figure_7 : decode cX5_figure 7 = .ok (.isub, 1) := by decide +kernel
theorem dX5_figure_8 : decode cX5_figure 8 = .ok (.istore_n 3, 1) := by decide +kernel
theorem dX5_figure_9 : decode cX5_figure 9 = .ok (.iload_n 3, 1) := by decide +kernel
theorem dX5_figure_10 : decode cX5_figure 10 = .ok (.iload_n 2, 1) := by decide +kernel
theorem dX5_figure_11 : decode cX5_figure 11 = .ok (.bipush 9, 2) := by decide +kernel
theorem dX5_figure_13 : decode cX5_figure 13 = .ok (.invokestatic 60, 3) := by decide +kernel
theorem dX5_figure_16 : decode cX5_figure 16 = .ok (.ifCond .ne 6, 3) := by decide +kernel
theorem dX5_figure_19 : decode cX5_figure 19 = .ok (.bipush (-9), 2) := by decide +kernel
theorem dX5_figure_21 : decode cX5_figure 21 = .ok (.ireturn, 1) := by decide +kernel
theorem dX5_figure_22 : decode cX5_figure 22 = .ok (.aload_n 0, 1) := by decide +kernel
theorem dX5_figure_23 : decode cX5_figure 23 = .ok (.dup, 1) := by decide +kernel
theorem dX5_figure_24 : decode cX5_figure 24 = .ok (.getfield 95, 3) := by decide +kernel
theorem dX5_figure_27 : decode cX5_figure 27 = .ok (.iconst 1, 1) := by decide +kernel
theorem dX5_figure_28 : decode cX5_figure 28 = .ok (.iadd, 1) := by decide +kernel
theorem dX5_figure_29 : decode cX5_figure 29 = .ok (.putfield 95, 3) := by decide +kernel
theorem dX5_figure_32 : decode cX5_figure 32 = .ok (.iload_n 3, 1) := by decide +kernel
theorem dX5_figure_33 : decode cX5_figure 33 = .ok (.ireturn, 1) := by decide +kernel
theorem dX5_readsTown_0 : decode cX5_readsTown 0 = .ok (.aload_n 0, 1) := by decide +kernel
theorem dX5_readsTown_1 : decode cX5_readsTown 1 = .ok (.iload_n 1, 1) := by decide +kernel
theorem dX5_readsTown_2 : decode cX5_readsTown 2 = .ok (.invokevirtual 98, 3) := by decide +kernel
theorem dX5_readsTown_5 : decode cX5_readsTown 5 = .ok (.invokestatic 101, 3) := by decide +kernel
theorem dX5_readsTown_8 : decode cX5_readsTown 8 = .ok (.istore_n 2, 1) := by decide +kernel
theorem dX5_readsTown_9 : decode cX5_readsTown 9 = .ok (.iload_n 2, 1) := by decide +kernel
theorem dX5_readsTown_10 : decode cX5_readsTown 10 = .ok (.bipush (-9), 2) := by decide +kernel
theorem dX5_readsTown_12 : decode cX5_readsTown 12 = .ok (.if_icmp .eq 11, 3) := by decide +kernel
theorem dX5_readsTown_15 : decode cX5_readsTown 15 = .ok (.aload_n 0, 1) := by decide +kernel
theorem dX5_readsTown_16 : decode cX5_readsTown 16 = .ok (.getfield 104, 3) := by decide +kernel
theorem dX5_readsTown_19 : decode cX5_readsTown 19 = .ok (.iconst 5, 1) := by decide +kernel
theorem dX5_readsTown_20 : decode cX5_readsTown 20 = .ok (.if_icmp .ne 5, 3) := by decide +kernel
theorem dX5_readsTown_23 : decode cX5_readsTown 23 = .ok (.iconst 0, 1) := by decide +kernel
theorem dX5_readsTown_24 : decode cX5_readsTown 24 = .ok (.ireturn, 1) := by decide +kernel
theorem dX5_readsTown_25 : decode cX5_readsTown 25 = .ok (.aload_n 0, 1) := by decide +kernel
theorem dX5_readsTown_26 : decode cX5_readsTown 26 = .ok (.dup, 1) := by decide +kernel
theorem dX5_readsTown_27 : decode cX5_readsTown 27 = .ok (.getfield 95, 3) := by decide +kernel
theorem dX5_readsTown_30 : decode cX5_readsTown 30 = .ok (.iconst 1, 1) := by decide +kernel
theorem dX5_readsTown_31 : decode cX5_readsTown 31 = .ok (.iadd, 1) := by decide +kernel
theorem dX5_readsTown_32 : decode cX5_readsTown 32 = .ok (.putfield 95, 3) := by decide +kernel
theorem dX5_readsTown_35 : decode cX5_readsTown 35 = .ok (.iconst 4, 1) := by decide +kernel
theorem dX5_readsTown_36 : decode cX5_readsTown 36 = .ok (.aload_n 0, 1) := by decide +kernel
theorem dX5_readsTown_37 : decode cX5_readsTown 37 = .ok (.getfield 104, 3) := by decide +kernel
theorem dX5_readsTown_40 : decode cX5_readsTown 40 = .ok (.imul, 1) := by decide +kernel
theorem dX5_readsTown_41 : decode cX5_readsTown 41 = .ok (.istore_n 3, 1) := by decide +kernel
theorem dX5_readsTown_42 : decode cX5_readsTown 42 = .ok (.aload_n 0, 1) := by decide +kernel
theorem dX5_readsTown_43 : decode cX5_readsTown 43 = .ok (.getfield 44, 3) := by decide +kernel
theorem dX5_readsTown_46 : decode cX5_readsTown 46 = .ok (.iload_n 3, 1) := by decide +kernel
theorem dX5_readsTown_47 : decode cX5_readsTown 47 = .ok (.iload_n 2, 1) := by decide +kernel
theorem dX5_readsTown_48 : decode cX5_readsTown 48 = .ok (.iastore, 1) := by decide +kernel
theorem dX5_readsTown_49 : decode cX5_readsTown 49 = .ok (.aload_n 0, 1) := by decide +kernel
theorem dX5_readsTown_50 : decode cX5_readsTown 50 = .ok (.getfield 44, 3) := by decide +kernel
theorem dX5_readsTown_53 : decode cX5_readsTown 53 = .ok (.iload_n 3, 1) := by decide +kernel
theorem dX5_readsTown_54 : decode cX5_readsTown 54 = .ok (.iconst 2, 1) := by decide +kernel
theorem dX5_readsTown_55 : decode cX5_readsTown 55 = .ok (.iadd, 1) := by decide +kernel
theorem dX5_readsTown_56 : decode cX5_readsTown 56 = .ok (.iconst 0, 1) := by decide +kernel
theorem dX5_readsTown_57 : decode cX5_readsTown 57 = .ok (.iastore, 1) := by decide +kernel
theorem dX5_readsTown_58 : decode cX5_readsTown 58 = .ok (.iconst 0, 1) := by decide +kernel
theorem dX5_readsTown_59 : decode cX5_readsTown 59 = .ok (.istore 4, 2) := by decide +kernel
theorem dX5_readsTown_61 : decode cX5_readsTown 61 = .ok (.iload 4, 2) := by decide +kernel
theorem dX5_readsTown_63 : decode cX5_readsTown 63 = .ok (.bipush 6, 2) := by decide +kernel
theorem dX5_readsTown_65 : decode cX5_readsTown 65 = .ok (.if_icmp .ge 94, 3) := by decide +kernel
theorem dX5_readsTown_68 : decode cX5_readsTown 68 = .ok (.aload_n 0, 1) := by decide +kernel
theorem dX5_readsTown_69 : decode cX5_readsTown 69 = .ok (.iload_n 1, 1) := by decide +kernel
theorem dX5_readsTown_70 : decode cX5_readsTown 70 = .ok (.iload 4, 2) := by decide +kernel
theorem dX5_readsTown_72 : decode cX5_readsTown 72 = .ok (.ifCond .ne 7, 3) := by decide +kernel
theorem dX5_readsTown_75 : decode cX5_readsTown 75 = .ok (.iconst 2, 1) := by decide +kernel
theorem dX5_readsTown_76 : decode cX5_readsTown 76 = .ok (.goto 4, 3) := by decide +kernel
theorem dX5_readsTown_79 : decode cX5_readsTown 79 = .ok (.iconst 0, 1) := by decide +kernel
theorem dX5_readsTown_80 : decode cX5_readsTown 80 = .ok (.invokevirtual 107, 3) := by decide +kernel
theorem dX5_readsTown_83 : decode cX5_readsTown 83 = .ok (.istore 5, 2) := by decide +kernel
theorem dX5_readsTown_85 : decode cX5_readsTown 85 = .ok (.iload 5, 2) := by decide +kernel
theorem dX5_readsTown_87 : decode cX5_readsTown 87 = .ok (.bipush (-9), 2) := by decide +kernel
theorem dX5_readsTown_89 : decode cX5_readsTown 89 = .ok (.if_icmp .ne 5, 3) := by decide +kernel
theorem dX5_readsTown_92 : decode cX5_readsTown 92 = .ok (.iconst 0, 1) := by decide +kernel
theorem dX5_readsTown_93 : decode cX5_readsTown 93 = .ok (.ireturn, 1) := by decide +kernel
theorem dX5_readsTown_94 : decode cX5_readsTown 94 = .ok (.iload 4, 2) := by decide +kernel
theorem dX5_readsTown_96 : decode cX5_readsTown 96 = .ok (.ifCond .ne 16, 3) := by decide +kernel
theorem dX5_readsTown_99 : decode cX5_readsTown 99 = .ok (.aload_n 0, 1) := by decide +kernel
theorem dX5_readsTown_100 : decode cX5_readsTown 100 = .ok (.getfield 44, 3) := by decide +kernel
theorem dX5_readsTown_103 : decode cX5_readsTown 103 = .ok (.iload_n 3, 1) := by decide +kernel
theorem dX5_readsTown_104 : decode cX5_readsTown 104 = .ok (.iconst 1, 1) := by decide +kernel
theorem dX5_readsTown_105 : decode cX5_readsTown 105 = .ok (.iadd, 1) := by decide +kernel
theorem dX5_readsTown_106 : decode cX5_readsTown 106 = .ok (.iload 5, 2) := by decide +kernel
theorem dX5_readsTown_108 : decode cX5_readsTown 108 = .ok (.iastore, 1) := by decide +kernel
theorem dX5_readsTown_109 : decode cX5_readsTown 109 = .ok (.goto 44, 3) := by decide +kernel
theorem dX5_readsTown_112 : decode cX5_readsTown 112 = .ok (.iload 4, 2) := by decide +kernel
theorem dX5_readsTown_114 : decode cX5_readsTown 114 = .ok (.iconst 5, 1) := by decide +kernel
theorem dX5_readsTown_115 : decode cX5_readsTown 115 = .ok (.if_icmp .ge 28, 3) := by decide +kernel
theorem dX5_readsTown_118 : decode cX5_readsTown 118 = .ok (.aload_n 0, 1) := by decide +kernel
theorem dX5_readsTown_119 : decode cX5_readsTown 119 = .ok (.getfield 44, 3) := by decide +kernel
theorem dX5_readsTown_122 : decode cX5_readsTown 122 = .ok (.iload_n 3, 1) := by decide +kernel
theorem dX5_readsTown_123 : decode cX5_readsTown 123 = .ok (.iconst 2, 1) := by decide +kernel
theorem dX5_readsTown_124 : decode cX5_readsTown 124 = .ok (.iadd, 1) := by decide +kernel
theorem dX5_readsTown_125 : decode cX5_readsTown 125 = .ok (.bipush 10, 2) := by decide +kernel
theorem dX5_readsTown_127 : decode cX5_readsTown 127 = .ok (.aload_n 0, 1) := by decide +kernel
theorem dX5_readsTown_128 : decode cX5_readsTown 128 = .ok (.getfield 44, 3) := by decide +kernel
theorem dX5_readsTown_131 : decode cX5_readsTown 131 = .ok (.iload_n 3, 1) := by decide +kernel
theorem dX5_readsTown_132 : decode cX5_readsTown 132 = .ok (.iconst 2, 1) := by decide +kernel
theorem dX5_readsTown_133 : decode cX5_readsTown 133 = .ok (.iadd, 1) := by decide +kernel
theorem dX5_readsTown_134 : decode cX5_readsTown 134 = .ok (.iaload, 1) := by decide +kernel
theorem dX5_readsTown_135 : decode cX5_readsTown 135 = .ok (.imul, 1) := by decide +kernel
theorem dX5_readsTown_136 : decode cX5_readsTown 136 = .ok (.iload 5, 2) := by decide +kernel
theorem dX5_readsTown_138 : decode cX5_readsTown 138 = .ok (.iadd, 1) := by decide +kernel
theorem dX5_readsTown_139 : decode cX5_readsTown 139 = .ok (.iastore, 1) := by decide +kernel
theorem dX5_readsTown_140 : decode cX5_readsTown 140 = .ok (.goto 13, 3) := by decide +kernel
theorem dX5_readsTown_143 : decode cX5_readsTown 143 = .ok (.aload_n 0, 1) := by decide +kernel
theorem dX5_readsTown_144 : decode cX5_readsTown 144 = .ok (.getfield 44, 3) := by decide +kernel
theorem dX5_readsTown_147 : decode cX5_readsTown 147 = .ok (.iload_n 3, 1) := by decide +kernel
theorem dX5_readsTown_148 : decode cX5_readsTown 148 = .ok (.iconst 3, 1) := by decide +kernel
theorem dX5_readsTown_149 : decode cX5_readsTown 149 = .ok (.iadd, 1) := by decide +kernel
theorem dX5_readsTown_150 : decode cX5_readsTown 150 = .ok (.iload 5, 2) := by decide +kernel
theorem dX5_readsTown_152 : decode cX5_readsTown 152 = .ok (.iastore, 1) := by decide +kernel
theorem dX5_readsTown_153 : decode cX5_readsTown 153 = .ok (.iinc 4 1, 3) := by decide +kernel
theorem dX5_readsTown_156 : decode cX5_readsTown 156 = .ok (.goto (-95), 3) := by decide +kernel
theorem dX5_readsTown_159 : decode cX5_readsTown 159 = .ok (.aload_n 0, 1) := by decide +kernel
theorem dX5_readsTown_160 : decode cX5_readsTown 160 = .ok (.dup, 1) := by decide +kernel
theorem dX5_readsTown_161 : decode cX5_readsTown 161 = .ok (.getfield 104, 3) := by decide +kernel
theorem dX5_readsTown_164 : decode cX5_readsTown 164 = .ok (.iconst 1, 1) := by decide +kernel
theorem dX5_readsTown_165 : decode cX5_readsTown 165 = .ok (.iadd, 1) := by decide +kernel
theorem dX5_readsTown_166 : decode cX5_readsTown 166 = .ok (.putfield 104, 3) := by decide +kernel
theorem dX5_readsTown_169 : decode cX5_readsTown 169 = .ok (.iconst 1, 1) := by decide +kernel
theorem dX5_readsTown_170 : decode cX5_readsTown 170 = .ok (.ireturn, 1) := by decide +kernel
theorem dX5_goesOn_0 : decode cX5_goesOn 0 = .ok (.aload_n 0, 1) := by decide +kernel
theorem dX5_goesOn_1 : decode cX5_goesOn 1 = .ok (.iconst 0, 1) := by decide +kernel
theorem dX5_goesOn_2 : decode cX5_goesOn 2 = .ok (.putfield 95, 3) := by decide +kernel
theorem dX5_goesOn_5 : decode cX5_goesOn 5 = .ok (.aload_n 0, 1) := by decide +kernel
theorem dX5_goesOn_6 : decode cX5_goesOn 6 = .ok (.iconst 0, 1) := by decide +kernel
theorem dX5_goesOn_7 : decode cX5_goesOn 7 = .ok (.putfield 104, 3) := by decide +kernel
theorem dX5_goesOn_10 : decode cX5_goesOn 10 = .ok (.aload_n 0, 1) := by decide +kernel
theorem dX5_goesOn_11 : decode cX5_goesOn 11 = .ok (.getfield 95, 3) := by decide +kernel
theorem dX5_goesOn_14 : decode cX5_goesOn 14 = .ok (.aload_n 0, 1) := by decide +kernel
theorem dX5_goesOn_15 : decode cX5_goesOn 15 = .ok (.getfield 26, 3) := by decide +kernel
theorem dX5_goesOn_18 : decode cX5_goesOn 18 = .ok (.iload_n 1, 1) := by decide +kernel
theorem dX5_goesOn_19 : decode cX5_goesOn 19 = .ok (.iaload, 1) := by decide +kernel
theorem dX5_goesOn_20 : decode cX5_goesOn 20 = .ok (.if_icmp .ge 39, 3) := by decide +kernel
theorem dX5_goesOn_23 : decode cX5_goesOn 23 = .ok (.aload_n 0, 1) := by decide +kernel
theorem dX5_goesOn_24 : decode cX5_goesOn 24 = .ok (.iload_n 1, 1) := by decide +kernel
theorem dX5_goesOn_25 : decode cX5_goesOn 25 = .ok (.invokevirtual 98, 3) := by decide +kernel
theorem dX5_goesOn_28 : decode cX5_goesOn 28 = .ok (.bipush 32, 2) := by decide +kernel
theorem dX5_goesOn_30 : decode cX5_goesOn 30 = .ok (.if_icmp .ne 16, 3) := by decide +kernel
theorem dX5_goesOn_33 : decode cX5_goesOn 33 = .ok (.aload_n 0, 1) := by decide +kernel
theorem dX5_goesOn_34 : decode cX5_goesOn 34 = .ok (.dup, 1) := by decide +kernel
theorem dX5_goesOn_35 : decode cX5_goesOn 35 = .ok (.getfield 95, 3) := by decide +kernel
theorem dX5_goesOn_38 : decode cX5_goesOn 38 = .ok (.iconst 1, 1) := by decide +kernel
theorem dX5_goesOn_39 : decode cX5_goesOn 39 = .ok (.iadd, 1) := by decide +kernel
theorem dX5_goesOn_40 : decode cX5_goesOn 40 = .ok (.putfield 95, 3) := by decide +kernel
theorem dX5_goesOn_43 : decode cX5_goesOn 43 = .ok (.goto (-33), 3) := by decide +kernel
theorem dX5_goesOn_46 : decode cX5_goesOn 46 = .ok (.aload_n 0, 1) := by decide +kernel
theorem dX5_goesOn_47 : decode cX5_goesOn 47 = .ok (.iload_n 1, 1) := by decide +kernel
theorem dX5_goesOn_48 : decode cX5_goesOn 48 = .ok (.invokevirtual 110, 3) := by decide +kernel
theorem dX5_goesOn_51 : decode cX5_goesOn 51 = .ok (.ifCond .ne (-41), 3) := by decide +kernel
theorem dX5_goesOn_54 : decode cX5_goesOn 54 = .ok (.aload_n 0, 1) := by decide +kernel
theorem dX5_goesOn_55 : decode cX5_goesOn 55 = .ok (.getfield 95, 3) := by decide +kernel
theorem dX5_goesOn_58 : decode cX5_goesOn 58 = .ok (.ireturn, 1) := by decide +kernel
theorem dX5_goesOn_59 : decode cX5_goesOn 59 = .ok (.bipush (-9), 2) := by decide +kernel
theorem dX5_goesOn_61 : decode cX5_goesOn 61 = .ok (.ireturn, 1) := by decide +kernel
theorem dX5_fault_0 : decode cX5_fault 0 = .ok (.aload_n 0, 1) := by decide +kernel
theorem dX5_fault_1 : decode cX5_fault 1 = .ok (.iload_n 1, 1) := by decide +kernel
theorem dX5_fault_2 : decode cX5_fault 2 = .ok (.invokevirtual 92, 3) := by decide +kernel
theorem dX5_fault_5 : decode cX5_fault 5 = .ok (.istore_n 2, 1) := by decide +kernel
theorem dX5_fault_6 : decode cX5_fault 6 = .ok (.iload_n 2, 1) := by decide +kernel
theorem dX5_fault_7 : decode cX5_fault 7 = .ok (.ifCond .ge 7, 3) := by decide +kernel
theorem dX5_fault_10 : decode cX5_fault 10 = .ok (.iload_n 2, 1) := by decide +kernel
theorem dX5_fault_11 : decode cX5_fault 11 = .ok (.goto 8, 3) := by decide +kernel
theorem dX5_fault_14 : decode cX5_fault 14 = .ok (.aload_n 0, 1) := by decide +kernel
theorem dX5_fault_15 : decode cX5_fault 15 = .ok (.iload_n 1, 1) := by decide +kernel
theorem dX5_fault_16 : decode cX5_fault 16 = .ok (.invokevirtual 113, 3) := by decide +kernel
theorem dX5_fault_19 : decode cX5_fault 19 = .ok (.ireturn, 1) := by decide +kernel
theorem dX5_almanac_0 : decode cX5_almanac 0 = .ok (.aload_n 0, 1) := by decide +kernel
theorem dX5_almanac_1 : decode cX5_almanac 1 = .ok (.iload_n 1, 1) := by decide +kernel
theorem dX5_almanac_2 : decode cX5_almanac 2 = .ok (.invokevirtual 92, 3) := by decide +kernel
theorem dX5_almanac_5 : decode cX5_almanac 5 = .ok (.istore_n 2, 1) := by decide +kernel
theorem dX5_almanac_6 : decode cX5_almanac 6 = .ok (.iload_n 2, 1) := by decide +kernel
theorem dX5_almanac_7 : decode cX5_almanac 7 = .ok (.ifCond .ge 5, 3) := by decide +kernel
theorem dX5_almanac_10 : decode cX5_almanac 10 = .ok (.iload_n 2, 1) := by decide +kernel
theorem dX5_almanac_11 : decode cX5_almanac 11 = .ok (.ireturn, 1) := by decide +kernel
theorem dX5_almanac_12 : decode cX5_almanac 12 = .ok (.aload_n 0, 1) := by decide +kernel
theorem dX5_almanac_13 : decode cX5_almanac 13 = .ok (.iload_n 1, 1) := by decide +kernel
theorem dX5_almanac_14 : decode cX5_almanac 14 = .ok (.invokevirtual 113, 3) := by decide +kernel
theorem dX5_almanac_17 : decode cX5_almanac 17 = .ok (.bipush (-9), 2) := by decide +kernel
theorem dX5_almanac_19 : decode cX5_almanac 19 = .ok (.if_icmp .eq 6, 3) := by decide +kernel
theorem dX5_almanac_22 : decode cX5_almanac 22 = .ok (.bipush (-4), 2) := by decide +kernel
theorem dX5_almanac_24 : decode cX5_almanac 24 = .ok (.ireturn, 1) := by decide +kernel
theorem dX5_almanac_25 : decode cX5_almanac 25 = .ok (.aload_n 0, 1) := by decide +kernel
theorem dX5_almanac_26 : decode cX5_almanac 26 = .ok (.aload_n 0, 1) := by decide +kernel
theorem dX5_almanac_27 : decode cX5_almanac 27 = .ok (.getfield 104, 3) := by decide +kernel
theorem dX5_almanac_30 : decode cX5_almanac 30 = .ok (.putfield 116, 3) := by decide +kernel
theorem dX5_almanac_33 : decode cX5_almanac 33 = .ok (.iconst 0, 1) := by decide +kernel
theorem dX5_almanac_34 : decode cX5_almanac 34 = .ok (.istore_n 3, 1) := by decide +kernel
theorem dX5_almanac_35 : decode cX5_almanac 35 = .ok (.iload_n 3, 1) := by decide +kernel
theorem dX5_almanac_36 : decode cX5_almanac 36 = .ok (.aload_n 0, 1) := by decide +kernel
theorem dX5_almanac_37 : decode cX5_almanac 37 = .ok (.getfield 116, 3) := by decide +kernel
theorem dX5_almanac_40 : decode cX5_almanac 40 = .ok (.if_icmp .ge 71, 3) := by decide +kernel
theorem dX5_almanac_43 : decode cX5_almanac 43 = .ok (.aload_n 0, 1) := by decide +kernel
theorem dX5_almanac_44 : decode cX5_almanac 44 = .ok (.getfield 32, 3) := by decide +kernel
theorem dX5_almanac_47 : decode cX5_almanac 47 = .ok (.iload_n 3, 1) := by decide +kernel
theorem dX5_almanac_48 : decode cX5_almanac 48 = .ok (.aload_n 0, 1) := by decide +kernel
theorem dX5_almanac_49 : decode cX5_almanac 49 = .ok (.getfield 44, 3) := by decide +kernel
theorem dX5_almanac_52 : decode cX5_almanac 52 = .ok (.iconst 4, 1) := by decide +kernel
theorem dX5_almanac_53 : decode cX5_almanac 53 = .ok (.iload_n 3, 1) := by decide +kernel
theorem dX5_almanac_54 : decode cX5_almanac 54 = .ok (.imul, 1) := by decide +kernel
theorem dX5_almanac_55 : decode cX5_almanac 55 = .ok (.iaload, 1) := by decide +kernel
theorem dX5_almanac_56 : decode cX5_almanac 56 = .ok (.iastore, 1) := by decide +kernel
theorem dX5_almanac_57 : decode cX5_almanac 57 = .ok (.aload_n 0, 1) := by decide +kernel
theorem dX5_almanac_58 : decode cX5_almanac 58 = .ok (.getfield 35, 3) := by decide +kernel
theorem dX5_almanac_61 : decode cX5_almanac 61 = .ok (.iload_n 3, 1) := by decide +kernel
theorem dX5_almanac_62 : decode cX5_almanac 62 = .ok (.aload_n 0, 1) := by decide +kernel
theorem dX5_almanac_63 : decode cX5_almanac 63 = .ok (.getfield 44, 3) := by decide +kernel
theorem dX5_almanac_66 : decode cX5_almanac 66 = .ok (.iconst 4, 1) := by decide +kernel
theorem dX5_almanac_67 : decode cX5_almanac 67 = .ok (.iload_n 3, 1) := by decide +kernel
theorem dX5_almanac_68 : decode cX5_almanac 68 = .ok (.imul, 1) := by decide +kernel
theorem dX5_almanac_69 : decode cX5_almanac 69 = .ok (.iconst 1, 1) := by decide +kernel
theorem dX5_almanac_70 : decode cX5_almanac 70 = .ok (.iadd, 1) := by decide +kernel
theorem dX5_almanac_71 : decode cX5_almanac 71 = .ok (.iaload, 1) := by decide +kernel
theorem dX5_almanac_72 : decode cX5_almanac 72 = .ok (.iastore, 1) := by decide +kernel
theorem dX5_almanac_73 : decode cX5_almanac 73 = .ok (.aload_n 0, 1) := by decide +kernel
theorem dX5_almanac_74 : decode cX5_almanac 74 = .ok (.getfield 38, 3) := by decide +kernel
theorem dX5_almanac_77 : decode cX5_almanac 77 = .ok (.iload_n 3, 1) := by decide +kernel
theorem dX5_almanac_78 : decode cX5_almanac 78 = .ok (.aload_n 0, 1) := by decide +kernel
theorem dX5_almanac_79 : decode cX5_almanac 79 = .ok (.getfield 44, 3) := by decide +kernel
theorem dX5_almanac_82 : decode cX5_almanac 82 = .ok (.iconst 4, 1) := by decide +kernel
theorem dX5_almanac_83 : decode cX5_almanac 83 = .ok (.iload_n 3, 1) := by decide +kernel
theorem dX5_almanac_84 : decode cX5_almanac 84 = .ok (.imul, 1) := by decide +kernel
theorem dX5_almanac_85 : decode cX5_almanac 85 = .ok (.iconst 2, 1) := by decide +kernel
theorem dX5_almanac_86 : decode cX5_almanac 86 = .ok (.iadd, 1) := by decide +kernel
theorem dX5_almanac_87 : decode cX5_almanac 87 = .ok (.iaload, 1) := by decide +kernel
theorem dX5_almanac_88 : decode cX5_almanac 88 = .ok (.iastore, 1) := by decide +kernel
theorem dX5_almanac_89 : decode cX5_almanac 89 = .ok (.aload_n 0, 1) := by decide +kernel
theorem dX5_almanac_90 : decode cX5_almanac 90 = .ok (.getfield 41, 3) := by decide +kernel
theorem dX5_almanac_93 : decode cX5_almanac 93 = .ok (.iload_n 3, 1) := by decide +kernel
theorem dX5_almanac_94 : decode cX5_almanac 94 = .ok (.aload_n 0, 1) := by decide +kernel
theorem dX5_almanac_95 : decode cX5_almanac 95 = .ok (.getfield 44, 3) := by decide +kernel
theorem dX5_almanac_98 : decode cX5_almanac 98 = .ok (.iconst 4, 1) := by decide +kernel
theorem dX5_almanac_99 : decode cX5_almanac 99 = .ok (.iload_n 3, 1) := by decide +kernel
theorem dX5_almanac_100 : decode cX5_almanac 100 = .ok (.imul, 1) := by decide +kernel
theorem dX5_almanac_101 : decode cX5_almanac 101 = .ok (.iconst 3, 1) := by decide +kernel
theorem dX5_almanac_102 : decode cX5_almanac 102 = .ok (.iadd, 1) := by decide +kernel
theorem dX5_almanac_103 : decode cX5_almanac 103 = .ok (.iaload, 1) := by decide +kernel
theorem dX5_almanac_104 : decode cX5_almanac 104 = .ok (.iastore, 1) := by decide +kernel
theorem dX5_almanac_105 : decode cX5_almanac 105 = .ok (.iinc 3 1, 3) := by decide +kernel
theorem dX5_almanac_108 : decode cX5_almanac 108 = .ok (.goto (-73), 3) := by decide +kernel
theorem dX5_almanac_111 : decode cX5_almanac 111 = .ok (.aload_n 0, 1) := by decide +kernel
theorem dX5_almanac_112 : decode cX5_almanac 112 = .ok (.iconst 0, 1) := by decide +kernel
theorem dX5_almanac_113 : decode cX5_almanac 113 = .ok (.putfield 119, 3) := by decide +kernel
theorem dX5_almanac_116 : decode cX5_almanac 116 = .ok (.iconst 0, 1) := by decide +kernel
theorem dX5_almanac_117 : decode cX5_almanac 117 = .ok (.istore_n 3, 1) := by decide +kernel
theorem dX5_almanac_118 : decode cX5_almanac 118 = .ok (.iload_n 3, 1) := by decide +kernel
theorem dX5_almanac_119 : decode cX5_almanac 119 = .ok (.iconst 3, 1) := by decide +kernel
theorem dX5_almanac_120 : decode cX5_almanac 120 = .ok (.if_icmp .ge 20, 3) := by decide +kernel
theorem dX5_almanac_123 : decode cX5_almanac 123 = .ok (.aload_n 0, 1) := by decide +kernel
theorem dX5_almanac_124 : decode cX5_almanac 124 = .ok (.getfield 47, 3) := by decide +kernel
theorem dX5_almanac_127 : decode cX5_almanac 127 = .ok (.bipush 21, 2) := by decide +kernel
theorem dX5_almanac_129 : decode cX5_almanac 129 = .ok (.iload_n 3, 1) := by decide +kernel
theorem dX5_almanac_130 : decode cX5_almanac 130 = .ok (.imul, 1) := by decide +kernel
theorem dX5_almanac_131 : decode cX5_almanac 131 = .ok (.bipush (-9), 2) := by decide +kernel
theorem dX5_almanac_133 : decode cX5_almanac 133 = .ok (.iastore, 1) := by decide +kernel
theorem dX5_almanac_134 : decode cX5_almanac 134 = .ok (.iinc 3 1, 3) := by decide +kernel
theorem dX5_almanac_137 : decode cX5_almanac 137 = .ok (.goto (-19), 3) := by decide +kernel
theorem dX5_almanac_140 : decode cX5_almanac 140 = .ok (.aload_n 0, 1) := by decide +kernel
theorem dX5_almanac_141 : decode cX5_almanac 141 = .ok (.getfield 116, 3) := by decide +kernel
theorem dX5_almanac_144 : decode cX5_almanac 144 = .ok (.ireturn, 1) := by decide +kernel
theorem dX5_isTown_0 : decode cX5_isTown 0 = .ok (.iload_n 1, 1) := by decide +kernel
theorem dX5_isTown_1 : decode cX5_isTown 1 = .ok (.iconst 0, 1) := by decide +kernel
theorem dX5_isTown_2 : decode cX5_isTown 2 = .ok (.aload_n 0, 1) := by decide +kernel
theorem dX5_isTown_3 : decode cX5_isTown 3 = .ok (.getfield 116, 3) := by decide +kernel
theorem dX5_isTown_6 : decode cX5_isTown 6 = .ok (.iconst 1, 1) := by decide +kernel
theorem dX5_isTown_7 : decode cX5_isTown 7 = .ok (.isub, 1) := by decide +kernel
theorem dX5_isTown_8 : decode cX5_isTown 8 = .ok (.invokestatic 60, 3) := by decide +kernel
theorem dX5_isTown_11 : decode cX5_isTown 11 = .ok (.ireturn, 1) := by decide +kernel
theorem dX5_isDay_0 : decode cX5_isDay 0 = .ok (.iload_n 0, 1) := by decide +kernel
theorem dX5_isDay_1 : decode cX5_isDay 1 = .ok (.iconst 0, 1) := by decide +kernel
theorem dX5_isDay_2 : decode cX5_isDay 2 = .ok (.sipush 19999, 3) := by decide +kernel
theorem dX5_isDay_5 : decode cX5_isDay 5 = .ok (.invokestatic 60, 3) := by decide +kernel
theorem dX5_isDay_8 : decode cX5_isDay 8 = .ok (.ireturn, 1) := by decide +kernel
theorem dX5_areDays_0 : decode cX5_areDays 0 = .ok (.iload_n 0, 1) := by decide +kernel
theorem dX5_areDays_1 : decode cX5_areDays 1 = .ok (.invokestatic 122, 3) := by decide +kernel
theorem dX5_areDays_4 : decode cX5_areDays 4 = .ok (.ifCond .eq 19, 3) := by decide +kernel
theorem dX5_areDays_7 : decode cX5_areDays 7 = .ok (.iload_n 1, 1) := by decide +kernel
theorem dX5_areDays_8 : decode cX5_areDays 8 = .ok (.invokestatic 122, 3) := by decide +kernel
theorem dX5_areDays_11 : decode cX5_areDays 11 = .ok (.ifCond .eq 12, 3) := by decide +kernel
theorem dX5_areDays_14 : decode cX5_areDays 14 = .ok (.iload_n 0, 1) := by decide +kernel
theorem dX5_areDays_15 : decode cX5_areDays 15 = .ok (.iload_n 1, 1) := by decide +kernel
theorem dX5_areDays_16 : decode cX5_areDays 16 = .ok (.if_icmp .gt 7, 3) := by decide +kernel
theorem dX5_areDays_19 : decode cX5_areDays 19 = .ok (.iconst 1, 1) := by decide +kernel
theorem dX5_areDays_20 : decode cX5_areDays 20 = .ok (.goto 4, 3) := by decide +kernel
theorem dX5_areDays_23 : decode cX5_areDays 23 = .ok (.iconst 0, 1) := by decide +kernel
theorem dX5_areDays_24 : decode cX5_areDays 24 = .ok (.ireturn, 1) := by decide +kernel
theorem dX5_take_0 : decode cX5_take 0 = .ok (.aload_n 0, 1) := by decide +kernel
theorem dX5_take_1 : decode cX5_take 1 = .ok (.aload_n 0, 1) := by decide +kernel
theorem dX5_take_2 : decode cX5_take 2 = .ok (.getfield 32, 3) := by decide +kernel
theorem dX5_take_5 : decode cX5_take 5 = .ok (.iload_n 1, 1) := by decide +kernel
theorem dX5_take_6 : decode cX5_take 6 = .ok (.iaload, 1) := by decide +kernel
theorem dX5_take_7 : decode cX5_take 7 = .ok (.putfield 125, 3) := by decide +kernel
theorem dX5_take_10 : decode cX5_take 10 = .ok (.aload_n 0, 1) := by decide +kernel
theorem dX5_take_11 : decode cX5_take 11 = .ok (.aload_n 0, 1) := by decide +kernel
theorem dX5_take_12 : decode cX5_take 12 = .ok (.getfield 35, 3) := by decide +kernel
theorem dX5_take_15 : decode cX5_take 15 = .ok (.iload_n 1, 1) := by decide +kernel
theorem dX5_take_16 : decode cX5_take 16 = .ok (.iaload, 1) := by decide +kernel
theorem dX5_take_17 : decode cX5_take 17 = .ok (.putfield 128, 3) := by decide +kernel
theorem dX5_take_20 : decode cX5_take 20 = .ok (.aload_n 0, 1) := by decide +kernel
theorem dX5_take_21 : decode cX5_take 21 = .ok (.aload_n 0, 1) := by decide +kernel
theorem dX5_take_22 : decode cX5_take 22 = .ok (.getfield 38, 3) := by decide +kernel
theorem dX5_take_25 : decode cX5_take 25 = .ok (.iload_n 1, 1) := by decide +kernel
theorem dX5_take_26 : decode cX5_take 26 = .ok (.iaload, 1) := by decide +kernel
theorem dX5_take_27 : decode cX5_take 27 = .ok (.putfield 131, 3) := by decide +kernel
theorem dX5_take_30 : decode cX5_take 30 = .ok (.aload_n 0, 1) := by decide +kernel
theorem dX5_take_31 : decode cX5_take 31 = .ok (.aload_n 0, 1) := by decide +kernel
theorem dX5_take_32 : decode cX5_take 32 = .ok (.getfield 41, 3) := by decide +kernel
theorem dX5_take_35 : decode cX5_take 35 = .ok (.iload_n 1, 1) := by decide +kernel
theorem dX5_take_36 : decode cX5_take 36 = .ok (.iaload, 1) := by decide +kernel
theorem dX5_take_37 : decode cX5_take 37 = .ok (.putfield 134, 3) := by decide +kernel
theorem dX5_take_40 : decode cX5_take 40 = .ok (.return_, 1) := by decide +kernel
theorem dX5_leaps_0 : decode cX5_leaps 0 = .ok (.aload_n 0, 1) := by decide +kernel
theorem dX5_leaps_1 : decode cX5_leaps 1 = .ok (.getfield 125, 3) := by decide +kernel
theorem dX5_leaps_4 : decode cX5_leaps 4 = .ok (.iconst 1, 1) := by decide +kernel
theorem dX5_leaps_5 : decode cX5_leaps 5 = .ok (.if_icmp .eq 11, 3) := by decide +kernel
theorem dX5_leaps_8 : decode cX5_leaps 8 = .ok (.aload_n 0, 1) := by decide +kernel
theorem dX5_leaps_9 : decode cX5_leaps 9 = .ok (.getfield 125, 3) := by decide +kernel
theorem dX5_leaps_12 : decode cX5_leaps 12 = .ok (.iconst 4, 1) := by decide +kernel
theorem dX5_leaps_13 : decode cX5_leaps 13 = .ok (.if_icmp .ne 7, 3) := by decide +kernel
theorem dX5_leaps_16 : decode cX5_leaps 16 = .ok (.iconst 1, 1) := by decide +kernel
theorem dX5_leaps_17 : decode cX5_leaps 17 = .ok (.goto 4, 3) := by decide +kernel
theorem dX5_leaps_20 : decode cX5_leaps 20 = .ok (.iconst 0, 1) := by decide +kernel
theorem dX5_leaps_21 : decode cX5_leaps 21 = .ok (.ireturn, 1) := by decide +kernel
theorem dX5_cuts_0 : decode cX5_cuts 0 = .ok (.aload_n 0, 1) := by decide +kernel
theorem dX5_cuts_1 : decode cX5_cuts 1 = .ok (.getfield 125, 3) := by decide +kernel
theorem dX5_cuts_4 : decode cX5_cuts 4 = .ok (.iconst 2, 1) := by decide +kernel
theorem dX5_cuts_5 : decode cX5_cuts 5 = .ok (.if_icmp .eq 19, 3) := by decide +kernel
theorem dX5_cuts_8 : decode cX5_cuts 8 = .ok (.aload_n 0, 1) := by decide +kernel
theorem dX5_cuts_9 : decode cX5_cuts 9 = .ok (.getfield 125, 3) := by decide +kernel
theorem dX5_cuts_12 : decode cX5_cuts 12 = .ok (.iconst 4, 1) := by decide +kernel
theorem dX5_cuts_13 : decode cX5_cuts 13 = .ok (.if_icmp .eq 11, 3) := by decide +kernel
theorem dX5_cuts_16 : decode cX5_cuts 16 = .ok (.aload_n 0, 1) := by decide +kernel
theorem dX5_cuts_17 : decode cX5_cuts 17 = .ok (.getfield 125, 3) := by decide +kernel
theorem dX5_cuts_20 : decode cX5_cuts 20 = .ok (.iconst 5, 1) := by decide +kernel
theorem dX5_cuts_21 : decode cX5_cuts 21 = .ok (.if_icmp .ne 7, 3) := by decide +kernel
theorem dX5_cuts_24 : decode cX5_cuts 24 = .ok (.iconst 1, 1) := by decide +kernel
theorem dX5_cuts_25 : decode cX5_cuts 25 = .ok (.goto 4, 3) := by decide +kernel
theorem dX5_cuts_28 : decode cX5_cuts 28 = .ok (.iconst 0, 1) := by decide +kernel
theorem dX5_cuts_29 : decode cX5_cuts 29 = .ok (.ireturn, 1) := by decide +kernel
theorem dX5_yearDays_0 : decode cX5_yearDays 0 = .ok (.aload_n 0, 1) := by decide +kernel
theorem dX5_yearDays_1 : decode cX5_yearDays 1 = .ok (.getfield 125, 3) := by decide +kernel
theorem dX5_yearDays_4 : decode cX5_yearDays 4 = .ok (.iconst 3, 1) := by decide +kernel
theorem dX5_yearDays_5 : decode cX5_yearDays 5 = .ok (.if_icmp .ne 8, 3) := by decide +kernel
theorem dX5_yearDays_8 : decode cX5_yearDays 8 = .ok (.bipush 98, 2) := by decide +kernel
theorem dX5_yearDays_10 : decode cX5_yearDays 10 = .ok (.goto 26, 3) := by decide +kernel
theorem dX5_yearDays_13 : decode cX5_yearDays 13 = .ok (.aload_n 0, 1) := by decide +kernel
theorem dX5_yearDays_14 : decode cX5_yearDays 14 = .ok (.invokevirtual 137, 3) := by decide +kernel
theorem dX5_yearDays_17 : decode cX5_yearDays 17 = .ok (.ifCond .eq 17, 3) := by decide +kernel
theorem dX5_yearDays_20 : decode cX5_yearDays 20 = .ok (.iload_n 1, 1) := by decide +kernel
theorem dX5_yearDays_21 : decode cX5_yearDays 21 = .ok (.aload_n 0, 1) := by decide +kernel
theorem dX5_yearDays_22 : decode cX5_yearDays 22 = .ok (.getfield 128, 3) := by decide +kernel
theorem dX5_yearDays_25 : decode cX5_yearDays 25 = .ok (.irem, 1) := by decide +kernel
theorem dX5_yearDays_26 : decode cX5_yearDays 26 = .ok (.ifCond .ne 8, 3) := by decide +kernel
theorem dX5_yearDays_29 : decode cX5_yearDays 29 = .ok (.bipush 101, 2) := by decide +kernel
theorem dX5_yearDays_31 : decode cX5_yearDays 31 = .ok (.goto 5, 3) := by decide +kernel
theorem dX5_yearDays_34 : decode cX5_yearDays 34 = .ok (.bipush 100, 2) := by decide +kernel
theorem dX5_yearDays_36 : decode cX5_yearDays 36 = .ok (.ireturn, 1) := by decide +kernel
theorem dX5_beginOf_0 : decode cX5_beginOf 0 = .ok (.aload_n 0, 1) := by decide +kernel
theorem dX5_beginOf_1 : decode cX5_beginOf 1 = .ok (.getfield 125, 3) := by decide +kernel
theorem dX5_beginOf_4 : decode cX5_beginOf 4 = .ok (.iconst 3, 1) := by decide +kernel
theorem dX5_beginOf_5 : decode cX5_beginOf 5 = .ok (.if_icmp .ne 10, 3) := by decide +kernel
theorem dX5_beginOf_8 : decode cX5_beginOf 8 = .ok (.bipush 98, 2) := by decide +kernel
theorem dX5_beginOf_10 : decode cX5_beginOf 10 = .ok (.iload_n 1, 1) := by decide +kernel
theorem dX5_beginOf_11 : decode cX5_beginOf 11 = .ok (.imul, 1) := by decide +kernel
theorem dX5_beginOf_12 : decode cX5_beginOf 12 = .ok (.goto 32, 3) := by decide +kernel
theorem dX5_beginOf_15 : decode cX5_beginOf 15 = .ok (.bipush 100, 2) := by decide +kernel
theorem dX5_beginOf_17 : decode cX5_beginOf 17 = .ok (.iload_n 1, 1) := by decide +kernel
theorem dX5_beginOf_18 : decode cX5_beginOf 18 = .ok (.imul, 1) := by decide +kernel
theorem dX5_beginOf_19 : decode cX5_beginOf 19 = .ok (.aload_n 0, 1) := by decide +kernel
theorem dX5_beginOf_20 : decode cX5_beginOf 20 = .ok (.invokevirtual 137, 3) := by decide +kernel
theorem dX5_beginOf_23 : decode cX5_beginOf 23 = .ok (.ifCond .eq 19, 3) := by decide +kernel
theorem dX5_beginOf_26 : decode cX5_beginOf 26 = .ok (.iload_n 1, 1) := by decide +kernel
theorem dX5_beginOf_27 : decode cX5_beginOf 27 = .ok (.aload_n 0, 1) := by decide +kernel
theorem dX5_beginOf_28 : decode cX5_beginOf 28 = .ok (.getfield 128, 3) := by decide +kernel
theorem dX5_beginOf_31 : decode cX5_beginOf 31 = .ok (.iadd, 1) := by decide +kernel
theorem dX5_beginOf_32 : decode cX5_beginOf 32 = .ok (.iconst 1, 1) := by decide +kernel
theorem dX5_beginOf_33 : decode cX5_beginOf 33 = .ok (.isub, 1) := by decide +kernel
theorem dX5_beginOf_34 : decode cX5_beginOf 34 = .ok (.aload_n 0, 1) := by decide +kernel
theorem dX5_beginOf_35 : decode cX5_beginOf 35 = .ok (.getfield 128, 3) := by decide +kernel
theorem dX5_beginOf_38 : decode cX5_beginOf 38 = .ok (.idiv, 1) := by decide +kernel
theorem dX5_beginOf_39 : decode cX5_beginOf 39 = .ok (.goto 4, 3) := by decide +kernel
theorem dX5_beginOf_42 : decode cX5_beginOf 42 = .ok (.iconst 0, 1) := by decide +kernel
theorem dX5_beginOf_43 : decode cX5_beginOf 43 = .ok (.iadd, 1) := by decide +kernel
theorem dX5_beginOf_44 : decode cX5_beginOf 44 = .ok (.ireturn, 1) := by decide +kernel
theorem dX5_countIn_0 : decode cX5_countIn 0 = .ok (.aload_n 0, 1) := by decide +kernel
theorem dX5_countIn_1 : decode cX5_countIn 1 = .ok (.iload_n 1, 1) := by decide +kernel
theorem dX5_countIn_2 : decode cX5_countIn 2 = .ok (.invokevirtual 141, 3) := by decide +kernel
theorem dX5_countIn_5 : decode cX5_countIn 5 = .ok (.aload_n 0, 1) := by decide +kernel
theorem dX5_countIn_6 : decode cX5_countIn 6 = .ok (.iload_n 2, 1) := by decide +kernel
theorem dX5_countIn_7 : decode cX5_countIn 7 = .ok (.invokevirtual 145, 3) := by decide +kernel
theorem dX5_countIn_10 : decode cX5_countIn 10 = .ok (.ireturn, 1) := by decide +kernel
theorem dX5_countOfDay_0 : decode cX5_countOfDay 0 = .ok (.aload_n 0, 1) := by decide +kernel
theorem dX5_countOfDay_1 : decode cX5_countOfDay 1 = .ok (.invokevirtual 148, 3) := by decide +kernel
theorem dX5_countOfDay_4 : decode cX5_countOfDay 4 = .ok (.ifCond .eq 18, 3) := by decide +kernel
theorem dX5_countOfDay_7 : decode cX5_countOfDay 7 = .ok (.iload_n 1, 1) := by decide +kernel
theorem dX5_countOfDay_8 : decode cX5_countOfDay 8 = .ok (.aload_n 0, 1) := by decide +kernel
theorem dX5_countOfDay_9 : decode cX5_countOfDay 9 = .ok (.getfield 131, 3) := by decide +kernel
theorem dX5_countOfDay_12 : decode cX5_countOfDay 12 = .ok (.if_icmp .lt 10, 3) := by decide +kernel
theorem dX5_countOfDay_15 : decode cX5_countOfDay 15 = .ok (.aload_n 0, 1) := by decide +kernel
theorem dX5_countOfDay_16 : decode cX5_countOfDay 16 = .ok (.getfield 134, 3) := by decide +kernel
theorem dX5_countOfDay_19 : decode cX5_countOfDay 19 = .ok (.goto 4, 3) := by decide +kernel
theorem dX5_countOfDay_22 : decode cX5_countOfDay 22 = .ok (.iconst 0, 1) := by decide +kernel
theorem dX5_countOfDay_23 : decode cX5_countOfDay 23 = .ok (.istore_n 2, 1) := by decide +kernel
theorem dX5_countOfDay_24 : decode cX5_countOfDay 24 = .ok (.iload_n 1, 1) := by decide +kernel
theorem dX5_countOfDay_25 : decode cX5_countOfDay 25 = .ok (.iload_n 2, 1) := by decide +kernel
theorem dX5_countOfDay_26 : decode cX5_countOfDay 26 = .ok (.iadd, 1) := by decide +kernel
theorem dX5_countOfDay_27 : decode cX5_countOfDay 27 = .ok (.aload_n 0, 1) := by decide +kernel
theorem dX5_countOfDay_28 : decode cX5_countOfDay 28 = .ok (.getfield 125, 3) := by decide +kernel
theorem dX5_countOfDay_31 : decode cX5_countOfDay 31 = .ok (.iconst 5, 1) := by decide +kernel
theorem dX5_countOfDay_32 : decode cX5_countOfDay 32 = .ok (.if_icmp .ne 22, 3) := by decide +kernel
theorem dX5_countOfDay_35 : decode cX5_countOfDay 35 = .ok (.iload_n 1, 1) := by decide +kernel
theorem dX5_countOfDay_36 : decode cX5_countOfDay 36 = .ok (.aload_n 0, 1) := by decide +kernel
theorem dX5_countOfDay_37 : decode cX5_countOfDay 37 = .ok (.getfield 131, 3) := by decide +kernel
theorem dX5_countOfDay_40 : decode cX5_countOfDay 40 = .ok (.sipush 1000, 3) := by decide +kernel
theorem dX5_countOfDay_43 : decode cX5_countOfDay 43 = .ok (.iadd, 1) := by decide +kernel
theorem dX5_countOfDay_44 : decode cX5_countOfDay 44 = .ok (.if_icmp .lt 10, 3) := by decide +kernel
theorem dX5_countOfDay_47 : decode cX5_countOfDay 47 = .ok (.aload_n 0, 1) := by decide +kernel
theorem dX5_countOfDay_48 : decode cX5_countOfDay 48 = .ok (.getfield 134, 3) := by decide +kernel
theorem dX5_countOfDay_51 : decode cX5_countOfDay 51 = .ok (.goto 4, 3) := by decide +kernel
theorem dX5_countOfDay_54 : decode cX5_countOfDay 54 = .ok (.iconst 0, 1) := by decide +kernel
theorem dX5_countOfDay_55 : decode cX5_countOfDay 55 = .ok (.iadd, 1) := by decide +kernel
theorem dX5_countOfDay_56 : decode cX5_countOfDay 56 = .ok (.ireturn, 1) := by decide +kernel
theorem dX5_dateOfCount_0 : decode cX5_dateOfCount 0 = .ok (.iload_n 1, 1) := by decide +kernel
theorem dX5_dateOfCount_1 : decode cX5_dateOfCount 1 = .ok (.bipush 102, 2) := by decide +kernel
theorem dX5_dateOfCount_3 : decode cX5_dateOfCount 3 = .ok (.idiv, 1) := by decide +kernel
theorem dX5_dateOfCount_4 : decode cX5_dateOfCount 4 = .ok (.istore_n 2, 1) := by decide +kernel
theorem dX5_dateOfCount_5 : decode cX5_dateOfCount 5 = .ok (.aload_n 0, 1) := by decide +kernel
theorem dX5_dateOfCount_6 : decode cX5_dateOfCount 6 = .ok (.iload_n 2, 1) := by decide +kernel
theorem dX5_dateOfCount_7 : decode cX5_dateOfCount 7 = .ok (.iconst 1, 1) := by decide +kernel
theorem dX5_dateOfCount_8 : decode cX5_dateOfCount 8 = .ok (.iadd, 1) := by decide +kernel
theorem dX5_dateOfCount_9 : decode cX5_dateOfCount 9 = .ok (.invokevirtual 151, 3) := by decide +kernel
theorem dX5_dateOfCount_12 : decode cX5_dateOfCount 12 = .ok (.iload_n 1, 1) := by decide +kernel
theorem dX5_dateOfCount_13 : decode cX5_dateOfCount 13 = .ok (.if_icmp .gt 9, 3) := by decide +kernel
theorem dX5_dateOfCount_16 : decode cX5_dateOfCount 16 = .ok (.iinc 2 1, 3) := by decide +kernel
theorem dX5_dateOfCount_19 : decode cX5_dateOfCount 19 = .ok (.goto (-14), 3) := by decide +kernel
theorem dX5_dateOfCount_22 : decode cX5_dateOfCount 22 = .ok (.sipush 1000, 3) := by decide +kernel
theorem dX5_dateOfCount_25 : decode cX5_dateOfCount 25 = .ok (.iload_n 2, 1) := by decide +kernel
theorem dX5_dateOfCount_26 : decode cX5_dateOfCount 26 = .ok (.imul, 1) := by decide +kernel
theorem dX5_dateOfCount_27 : decode cX5_dateOfCount 27 = .ok (.iload_n 1, 1) := by decide +kernel
theorem dX5_dateOfCount_28 : decode cX5_dateOfCount 28 = .ok (.iadd, 1) := by decide +kernel
end
section
theorem dX5_dateOfCount_29 : decode cX5_dateOfCount 29 = .ok (.aload_n 0, 1) := by decide +kernel
theorem dX5_dateOfCount_30 : decode cX5_dateOfCount 30 = .ok (.iload_n 2, 1) := by decide +kernel
theorem dX5_dateOfCount_31 : decode cX5_dateOfCount 31 = .ok (.invokevirtual 151, 3) := by decide +kernel
theorem dX5_dateOfCount_34 : decode cX5_dateOfCount 34 = .ok (.isub, 1) := by decide +kernel
theorem dX5_dateOfCount_35 : decode cX5_dateOfCount 35 = .ok (.ireturn, 1) := by decide +kernel
theorem dX5_dateOfDay_0 : decode cX5_dateOfDay 0 = .ok (.aload_n 0, 1) := by decide +kernel
theorem dX5_dateOfDay_1 : decode cX5_dateOfDay 1 = .ok (.aload_n 0, 1) := by decide +kernel
theorem dX5_dateOfDay_2 : decode cX5_dateOfDay 2 = .ok (.iload_n 1, 1) := by decide +kernel
theorem dX5_dateOfDay_3 : decode cX5_dateOfDay 3 = .ok (.invokevirtual 145, 3) := by decide +kernel
theorem dX5_dateOfDay_6 : decode cX5_dateOfDay 6 = .ok (.invokevirtual 154, 3) := by decide +kernel
theorem dX5_dateOfDay_9 : decode cX5_dateOfDay 9 = .ok (.ireturn, 1) := by decide +kernel
theorem dX5_dateIn_0 : decode cX5_dateIn 0 = .ok (.aload_n 0, 1) := by decide +kernel
theorem dX5_dateIn_1 : decode cX5_dateIn 1 = .ok (.iload_n 1, 1) := by decide +kernel
theorem dX5_dateIn_2 : decode cX5_dateIn 2 = .ok (.invokevirtual 141, 3) := by decide +kernel
theorem dX5_dateIn_5 : decode cX5_dateIn 5 = .ok (.aload_n 0, 1) := by decide +kernel
theorem dX5_dateIn_6 : decode cX5_dateIn 6 = .ok (.iload_n 2, 1) := by decide +kernel
theorem dX5_dateIn_7 : decode cX5_dateIn 7 = .ok (.invokevirtual 157, 3) := by decide +kernel
theorem dX5_dateIn_10 : decode cX5_dateIn 10 = .ok (.ireturn, 1) := by decide +kernel
theorem dX5_dayOfDate_0 : decode cX5_dayOfDate 0 = .ok (.iload_n 1, 1) := by decide +kernel
theorem dX5_dayOfDate_1 : decode cX5_dayOfDate 1 = .ok (.sipush 1000, 3) := by decide +kernel
theorem dX5_dayOfDate_4 : decode cX5_dayOfDate 4 = .ok (.idiv, 1) := by decide +kernel
theorem dX5_dayOfDate_5 : decode cX5_dayOfDate 5 = .ok (.istore_n 2, 1) := by decide +kernel
theorem dX5_dayOfDate_6 : decode cX5_dayOfDate 6 = .ok (.iload_n 1, 1) := by decide +kernel
theorem dX5_dayOfDate_7 : decode cX5_dayOfDate 7 = .ok (.sipush 1000, 3) := by decide +kernel
theorem dX5_dayOfDate_10 : decode cX5_dayOfDate 10 = .ok (.irem, 1) := by decide +kernel
theorem dX5_dayOfDate_11 : decode cX5_dayOfDate 11 = .ok (.istore_n 3, 1) := by decide +kernel
theorem dX5_dayOfDate_12 : decode cX5_dayOfDate 12 = .ok (.iload_n 1, 1) := by decide +kernel
theorem dX5_dayOfDate_13 : decode cX5_dayOfDate 13 = .ok (.ifCond .lt 19, 3) := by decide +kernel
theorem dX5_dayOfDate_16 : decode cX5_dayOfDate 16 = .ok (.iload_n 2, 1) := by decide +kernel
theorem dX5_dayOfDate_17 : decode cX5_dayOfDate 17 = .ok (.sipush 300, 3) := by decide +kernel
theorem dX5_dayOfDate_20 : decode cX5_dayOfDate 20 = .ok (.if_icmp .gt 12, 3) := by decide +kernel
theorem dX5_dayOfDate_23 : decode cX5_dayOfDate 23 = .ok (.iload_n 3, 1) := by decide +kernel
theorem dX5_dayOfDate_24 : decode cX5_dayOfDate 24 = .ok (.aload_n 0, 1) := by decide +kernel
theorem dX5_dayOfDate_25 : decode cX5_dayOfDate 25 = .ok (.iload_n 2, 1) := by decide +kernel
theorem dX5_dayOfDate_26 : decode cX5_dayOfDate 26 = .ok (.invokevirtual 160, 3) := by decide +kernel
theorem dX5_dayOfDate_29 : decode cX5_dayOfDate 29 = .ok (.if_icmp .lt 6, 3) := by decide +kernel
theorem dX5_dayOfDate_32 : decode cX5_dayOfDate 32 = .ok (.bipush (-9), 2) := by decide +kernel
theorem dX5_dayOfDate_34 : decode cX5_dayOfDate 34 = .ok (.ireturn, 1) := by decide +kernel
theorem dX5_dayOfDate_35 : decode cX5_dayOfDate 35 = .ok (.aload_n 0, 1) := by decide +kernel
theorem dX5_dayOfDate_36 : decode cX5_dayOfDate 36 = .ok (.iload_n 2, 1) := by decide +kernel
theorem dX5_dayOfDate_37 : decode cX5_dayOfDate 37 = .ok (.invokevirtual 151, 3) := by decide +kernel
theorem dX5_dayOfDate_40 : decode cX5_dayOfDate 40 = .ok (.iload_n 3, 1) := by decide +kernel
theorem dX5_dayOfDate_41 : decode cX5_dayOfDate 41 = .ok (.iadd, 1) := by decide +kernel
theorem dX5_dayOfDate_42 : decode cX5_dayOfDate 42 = .ok (.istore 4, 2) := by decide +kernel
theorem dX5_dayOfDate_44 : decode cX5_dayOfDate 44 = .ok (.iload 4, 2) := by decide +kernel
theorem dX5_dayOfDate_46 : decode cX5_dayOfDate 46 = .ok (.istore 5, 2) := by decide +kernel
theorem dX5_dayOfDate_48 : decode cX5_dayOfDate 48 = .ok (.aload_n 0, 1) := by decide +kernel
theorem dX5_dayOfDate_49 : decode cX5_dayOfDate 49 = .ok (.invokevirtual 148, 3) := by decide +kernel
theorem dX5_dayOfDate_52 : decode cX5_dayOfDate 52 = .ok (.ifCond .eq 79, 3) := by decide +kernel
theorem dX5_dayOfDate_55 : decode cX5_dayOfDate 55 = .ok (.iload 4, 2) := by decide +kernel
theorem dX5_dayOfDate_57 : decode cX5_dayOfDate 57 = .ok (.aload_n 0, 1) := by decide +kernel
theorem dX5_dayOfDate_58 : decode cX5_dayOfDate 58 = .ok (.getfield 131, 3) := by decide +kernel
theorem dX5_dayOfDate_61 : decode cX5_dayOfDate 61 = .ok (.if_icmp .lt 70, 3) := by decide +kernel
theorem dX5_dayOfDate_64 : decode cX5_dayOfDate 64 = .ok (.iload 4, 2) := by decide +kernel
theorem dX5_dayOfDate_66 : decode cX5_dayOfDate 66 = .ok (.aload_n 0, 1) := by decide +kernel
theorem dX5_dayOfDate_67 : decode cX5_dayOfDate 67 = .ok (.getfield 134, 3) := by decide +kernel
theorem dX5_dayOfDate_70 : decode cX5_dayOfDate 70 = .ok (.isub, 1) := by decide +kernel
theorem dX5_dayOfDate_71 : decode cX5_dayOfDate 71 = .ok (.istore 5, 2) := by decide +kernel
theorem dX5_dayOfDate_73 : decode cX5_dayOfDate 73 = .ok (.iload 5, 2) := by decide +kernel
theorem dX5_dayOfDate_75 : decode cX5_dayOfDate 75 = .ok (.aload_n 0, 1) := by decide +kernel
theorem dX5_dayOfDate_76 : decode cX5_dayOfDate 76 = .ok (.getfield 131, 3) := by decide +kernel
theorem dX5_dayOfDate_79 : decode cX5_dayOfDate 79 = .ok (.if_icmp .ge 6, 3) := by decide +kernel
theorem dX5_dayOfDate_82 : decode cX5_dayOfDate 82 = .ok (.bipush (-9), 2) := by decide +kernel
theorem dX5_dayOfDate_84 : decode cX5_dayOfDate 84 = .ok (.ireturn, 1) := by decide +kernel
theorem dX5_dayOfDate_85 : decode cX5_dayOfDate 85 = .ok (.aload_n 0, 1) := by decide +kernel
theorem dX5_dayOfDate_86 : decode cX5_dayOfDate 86 = .ok (.getfield 125, 3) := by decide +kernel
theorem dX5_dayOfDate_89 : decode cX5_dayOfDate 89 = .ok (.iconst 5, 1) := by decide +kernel
theorem dX5_dayOfDate_90 : decode cX5_dayOfDate 90 = .ok (.if_icmp .ne 41, 3) := by decide +kernel
theorem dX5_dayOfDate_93 : decode cX5_dayOfDate 93 = .ok (.iload 5, 2) := by decide +kernel
theorem dX5_dayOfDate_95 : decode cX5_dayOfDate 95 = .ok (.aload_n 0, 1) := by decide +kernel
theorem dX5_dayOfDate_96 : decode cX5_dayOfDate 96 = .ok (.getfield 131, 3) := by decide +kernel
theorem dX5_dayOfDate_99 : decode cX5_dayOfDate 99 = .ok (.sipush 1000, 3) := by decide +kernel
theorem dX5_dayOfDate_102 : decode cX5_dayOfDate 102 = .ok (.iadd, 1) := by decide +kernel
theorem dX5_dayOfDate_103 : decode cX5_dayOfDate 103 = .ok (.if_icmp .lt 28, 3) := by decide +kernel
theorem dX5_dayOfDate_106 : decode cX5_dayOfDate 106 = .ok (.iload 5, 2) := by decide +kernel
theorem dX5_dayOfDate_108 : decode cX5_dayOfDate 108 = .ok (.aload_n 0, 1) := by decide +kernel
theorem dX5_dayOfDate_109 : decode cX5_dayOfDate 109 = .ok (.getfield 134, 3) := by decide +kernel
theorem dX5_dayOfDate_112 : decode cX5_dayOfDate 112 = .ok (.isub, 1) := by decide +kernel
theorem dX5_dayOfDate_113 : decode cX5_dayOfDate 113 = .ok (.istore 5, 2) := by decide +kernel
theorem dX5_dayOfDate_115 : decode cX5_dayOfDate 115 = .ok (.iload 5, 2) := by decide +kernel
theorem dX5_dayOfDate_117 : decode cX5_dayOfDate 117 = .ok (.aload_n 0, 1) := by decide +kernel
theorem dX5_dayOfDate_118 : decode cX5_dayOfDate 118 = .ok (.getfield 131, 3) := by decide +kernel
theorem dX5_dayOfDate_121 : decode cX5_dayOfDate 121 = .ok (.sipush 1000, 3) := by decide +kernel
theorem dX5_dayOfDate_124 : decode cX5_dayOfDate 124 = .ok (.iadd, 1) := by decide +kernel
theorem dX5_dayOfDate_125 : decode cX5_dayOfDate 125 = .ok (.if_icmp .ge 6, 3) := by decide +kernel
theorem dX5_dayOfDate_128 : decode cX5_dayOfDate 128 = .ok (.bipush (-9), 2) := by decide +kernel
theorem dX5_dayOfDate_130 : decode cX5_dayOfDate 130 = .ok (.ireturn, 1) := by decide +kernel
theorem dX5_dayOfDate_131 : decode cX5_dayOfDate 131 = .ok (.iload 5, 2) := by decide +kernel
theorem dX5_dayOfDate_133 : decode cX5_dayOfDate 133 = .ok (.sipush 19999, 3) := by decide +kernel
theorem dX5_dayOfDate_136 : decode cX5_dayOfDate 136 = .ok (.if_icmp .gt 8, 3) := by decide +kernel
theorem dX5_dayOfDate_139 : decode cX5_dayOfDate 139 = .ok (.iload 5, 2) := by decide +kernel
theorem dX5_dayOfDate_141 : decode cX5_dayOfDate 141 = .ok (.goto 5, 3) := by decide +kernel
theorem dX5_dayOfDate_144 : decode cX5_dayOfDate 144 = .ok (.bipush (-9), 2) := by decide +kernel
theorem dX5_dayOfDate_146 : decode cX5_dayOfDate 146 = .ok (.ireturn, 1) := by decide +kernel
theorem dX5_dayIn_0 : decode cX5_dayIn 0 = .ok (.aload_n 0, 1) := by decide +kernel
theorem dX5_dayIn_1 : decode cX5_dayIn 1 = .ok (.iload_n 1, 1) := by decide +kernel
theorem dX5_dayIn_2 : decode cX5_dayIn 2 = .ok (.invokevirtual 141, 3) := by decide +kernel
theorem dX5_dayIn_5 : decode cX5_dayIn 5 = .ok (.aload_n 0, 1) := by decide +kernel
theorem dX5_dayIn_6 : decode cX5_dayIn 6 = .ok (.iload_n 2, 1) := by decide +kernel
theorem dX5_dayIn_7 : decode cX5_dayIn 7 = .ok (.invokevirtual 163, 3) := by decide +kernel
theorem dX5_dayIn_10 : decode cX5_dayIn 10 = .ok (.ireturn, 1) := by decide +kernel
theorem dX5_townOf_0 : decode cX5_townOf 0 = .ok (.iload_n 2, 1) := by decide +kernel
theorem dX5_townOf_1 : decode cX5_townOf 1 = .ok (.ifCond .ne 12, 3) := by decide +kernel
theorem dX5_townOf_4 : decode cX5_townOf 4 = .ok (.aload_n 0, 1) := by decide +kernel
theorem dX5_townOf_5 : decode cX5_townOf 5 = .ok (.getfield 32, 3) := by decide +kernel
theorem dX5_townOf_8 : decode cX5_townOf 8 = .ok (.iload_n 1, 1) := by decide +kernel
theorem dX5_townOf_9 : decode cX5_townOf 9 = .ok (.iaload, 1) := by decide +kernel
theorem dX5_townOf_10 : decode cX5_townOf 10 = .ok (.goto 54, 3) := by decide +kernel
theorem dX5_townOf_13 : decode cX5_townOf 13 = .ok (.iload_n 2, 1) := by decide +kernel
theorem dX5_townOf_14 : decode cX5_townOf 14 = .ok (.iconst 1, 1) := by decide +kernel
theorem dX5_townOf_15 : decode cX5_townOf 15 = .ok (.if_icmp .ne 12, 3) := by decide +kernel
theorem dX5_townOf_18 : decode cX5_townOf 18 = .ok (.aload_n 0, 1) := by decide +kernel
theorem dX5_townOf_19 : decode cX5_townOf 19 = .ok (.getfield 35, 3) := by decide +kernel
theorem dX5_townOf_22 : decode cX5_townOf 22 = .ok (.iload_n 1, 1) := by decide +kernel
theorem dX5_townOf_23 : decode cX5_townOf 23 = .ok (.iaload, 1) := by decide +kernel
theorem dX5_townOf_24 : decode cX5_townOf 24 = .ok (.goto 40, 3) := by decide +kernel
theorem dX5_townOf_27 : decode cX5_townOf 27 = .ok (.iload_n 2, 1) := by decide +kernel
theorem dX5_townOf_28 : decode cX5_townOf 28 = .ok (.iconst 2, 1) := by decide +kernel
theorem dX5_townOf_29 : decode cX5_townOf 29 = .ok (.if_icmp .ne 12, 3) := by decide +kernel
theorem dX5_townOf_32 : decode cX5_townOf 32 = .ok (.aload_n 0, 1) := by decide +kernel
theorem dX5_townOf_33 : decode cX5_townOf 33 = .ok (.getfield 38, 3) := by decide +kernel
theorem dX5_townOf_36 : decode cX5_townOf 36 = .ok (.iload_n 1, 1) := by decide +kernel
theorem dX5_townOf_37 : decode cX5_townOf 37 = .ok (.iaload, 1) := by decide +kernel
theorem dX5_townOf_38 : decode cX5_townOf 38 = .ok (.goto 26, 3) := by decide +kernel
theorem dX5_townOf_41 : decode cX5_townOf 41 = .ok (.iload_n 2, 1) := by decide +kernel
theorem dX5_townOf_42 : decode cX5_townOf 42 = .ok (.iconst 3, 1) := by decide +kernel
theorem dX5_townOf_43 : decode cX5_townOf 43 = .ok (.if_icmp .ne 12, 3) := by decide +kernel
theorem dX5_townOf_46 : decode cX5_townOf 46 = .ok (.aload_n 0, 1) := by decide +kernel
theorem dX5_townOf_47 : decode cX5_townOf 47 = .ok (.getfield 41, 3) := by decide +kernel
theorem dX5_townOf_50 : decode cX5_townOf 50 = .ok (.iload_n 1, 1) := by decide +kernel
theorem dX5_townOf_51 : decode cX5_townOf 51 = .ok (.iaload, 1) := by decide +kernel
theorem dX5_townOf_52 : decode cX5_townOf 52 = .ok (.goto 12, 3) := by decide +kernel
theorem dX5_townOf_55 : decode cX5_townOf 55 = .ok (.aload_n 0, 1) := by decide +kernel
theorem dX5_townOf_56 : decode cX5_townOf 56 = .ok (.iload_n 1, 1) := by decide +kernel
theorem dX5_townOf_57 : decode cX5_townOf 57 = .ok (.aload_n 0, 1) := by decide +kernel
theorem dX5_townOf_58 : decode cX5_townOf 58 = .ok (.getfield 119, 3) := by decide +kernel
theorem dX5_townOf_61 : decode cX5_townOf 61 = .ok (.invokevirtual 166, 3) := by decide +kernel
theorem dX5_townOf_64 : decode cX5_townOf 64 = .ok (.ireturn, 1) := by decide +kernel
theorem dX5_town_0 : decode cX5_town 0 = .ok (.aload_n 0, 1) := by decide +kernel
theorem dX5_town_1 : decode cX5_town 1 = .ok (.iload_n 1, 1) := by decide +kernel
theorem dX5_town_2 : decode cX5_town 2 = .ok (.invokevirtual 169, 3) := by decide +kernel
theorem dX5_town_5 : decode cX5_town 5 = .ok (.ifCond .eq 26, 3) := by decide +kernel
theorem dX5_town_8 : decode cX5_town 8 = .ok (.iload_n 2, 1) := by decide +kernel
theorem dX5_town_9 : decode cX5_town 9 = .ok (.iconst 0, 1) := by decide +kernel
theorem dX5_town_10 : decode cX5_town 10 = .ok (.iconst 4, 1) := by decide +kernel
theorem dX5_town_11 : decode cX5_town 11 = .ok (.invokestatic 60, 3) := by decide +kernel
theorem dX5_town_14 : decode cX5_town 14 = .ok (.ifCond .eq 17, 3) := by decide +kernel
theorem dX5_town_17 : decode cX5_town 17 = .ok (.aload_n 0, 1) := by decide +kernel
theorem dX5_town_18 : decode cX5_town 18 = .ok (.aload_n 0, 1) := by decide +kernel
theorem dX5_town_19 : decode cX5_town 19 = .ok (.iload_n 1, 1) := by decide +kernel
theorem dX5_town_20 : decode cX5_town 20 = .ok (.iload_n 2, 1) := by decide +kernel
theorem dX5_town_21 : decode cX5_town 21 = .ok (.invokevirtual 172, 3) := by decide +kernel
theorem dX5_town_24 : decode cX5_town 24 = .ok (.iconst 1, 1) := by decide +kernel
theorem dX5_town_25 : decode cX5_town 25 = .ok (.invokevirtual 86, 3) := by decide +kernel
theorem dX5_town_28 : decode cX5_town 28 = .ok (.goto 4, 3) := by decide +kernel
theorem dX5_town_31 : decode cX5_town 31 = .ok (.iconst (-1), 1) := by decide +kernel
theorem dX5_town_32 : decode cX5_town 32 = .ok (.ireturn, 1) := by decide +kernel
theorem dX5_isA_0 : decode cX5_isA 0 = .ok (.aload_n 0, 1) := by decide +kernel
theorem dX5_isA_1 : decode cX5_isA 1 = .ok (.getfield 32, 3) := by decide +kernel
theorem dX5_isA_4 : decode cX5_isA 4 = .ok (.iload_n 1, 1) := by decide +kernel
theorem dX5_isA_5 : decode cX5_isA 5 = .ok (.iaload, 1) := by decide +kernel
theorem dX5_isA_6 : decode cX5_isA 6 = .ok (.istore_n 3, 1) := by decide +kernel
theorem dX5_isA_7 : decode cX5_isA 7 = .ok (.iload_n 3, 1) := by decide +kernel
theorem dX5_isA_8 : decode cX5_isA 8 = .ok (.iload_n 2, 1) := by decide +kernel
theorem dX5_isA_9 : decode cX5_isA 9 = .ok (.if_icmp .eq 23, 3) := by decide +kernel
theorem dX5_isA_12 : decode cX5_isA 12 = .ok (.iload_n 2, 1) := by decide +kernel
theorem dX5_isA_13 : decode cX5_isA 13 = .ok (.iconst 1, 1) := by decide +kernel
theorem dX5_isA_14 : decode cX5_isA 14 = .ok (.if_icmp .ne 8, 3) := by decide +kernel
theorem dX5_isA_17 : decode cX5_isA 17 = .ok (.iload_n 3, 1) := by decide +kernel
theorem dX5_isA_18 : decode cX5_isA 18 = .ok (.iconst 4, 1) := by decide +kernel
theorem dX5_isA_19 : decode cX5_isA 19 = .ok (.if_icmp .eq 13, 3) := by decide +kernel
theorem dX5_isA_22 : decode cX5_isA 22 = .ok (.iload_n 2, 1) := by decide +kernel
theorem dX5_isA_23 : decode cX5_isA 23 = .ok (.iconst 2, 1) := by decide +kernel
theorem dX5_isA_24 : decode cX5_isA 24 = .ok (.if_icmp .ne 12, 3) := by decide +kernel
theorem dX5_isA_27 : decode cX5_isA 27 = .ok (.iload_n 3, 1) := by decide +kernel
theorem dX5_isA_28 : decode cX5_isA 28 = .ok (.iconst 5, 1) := by decide +kernel
theorem dX5_isA_29 : decode cX5_isA 29 = .ok (.if_icmp .ne 7, 3) := by decide +kernel
theorem dX5_isA_32 : decode cX5_isA 32 = .ok (.iconst 1, 1) := by decide +kernel
theorem dX5_isA_33 : decode cX5_isA 33 = .ok (.goto 4, 3) := by decide +kernel
theorem dX5_isA_36 : decode cX5_isA 36 = .ok (.iconst 0, 1) := by decide +kernel
theorem dX5_isA_37 : decode cX5_isA 37 = .ok (.ireturn, 1) := by decide +kernel
theorem dX5_marked_0 : decode cX5_marked 0 = .ok (.aload_n 0, 1) := by decide +kernel
theorem dX5_marked_1 : decode cX5_marked 1 = .ok (.iload_n 1, 1) := by decide +kernel
theorem dX5_marked_2 : decode cX5_marked 2 = .ok (.aload_n 0, 1) := by decide +kernel
theorem dX5_marked_3 : decode cX5_marked 3 = .ok (.getfield 119, 3) := by decide +kernel
theorem dX5_marked_6 : decode cX5_marked 6 = .ok (.invokevirtual 166, 3) := by decide +kernel
theorem dX5_marked_9 : decode cX5_marked 9 = .ok (.sipush 1000, 3) := by decide +kernel
theorem dX5_marked_12 : decode cX5_marked 12 = .ok (.idiv, 1) := by decide +kernel
theorem dX5_marked_13 : decode cX5_marked 13 = .ok (.istore_n 3, 1) := by decide +kernel
theorem dX5_marked_14 : decode cX5_marked 14 = .ok (.iload_n 2, 1) := by decide +kernel
theorem dX5_marked_15 : decode cX5_marked 15 = .ok (.tableswitch 84 1 4 #[29, 46, 60, 64], 29) := by decide +kernel
theorem dX5_marked_44 : decode cX5_marked 44 = .ok (.aload_n 0, 1) := by decide +kernel
theorem dX5_marked_45 : decode cX5_marked 45 = .ok (.getfield 128, 3) := by decide +kernel
theorem dX5_marked_48 : decode cX5_marked 48 = .ok (.iload_n 3, 1) := by decide +kernel
theorem dX5_marked_49 : decode cX5_marked 49 = .ok (.aload_n 0, 1) := by decide +kernel
theorem dX5_marked_50 : decode cX5_marked 50 = .ok (.getfield 128, 3) := by decide +kernel
theorem dX5_marked_53 : decode cX5_marked 53 = .ok (.irem, 1) := by decide +kernel
theorem dX5_marked_54 : decode cX5_marked 54 = .ok (.isub, 1) := by decide +kernel
theorem dX5_marked_55 : decode cX5_marked 55 = .ok (.aload_n 0, 1) := by decide +kernel
theorem dX5_marked_56 : decode cX5_marked 56 = .ok (.getfield 128, 3) := by decide +kernel
theorem dX5_marked_59 : decode cX5_marked 59 = .ok (.irem, 1) := by decide +kernel
theorem dX5_marked_60 : decode cX5_marked 60 = .ok (.ireturn, 1) := by decide +kernel
theorem dX5_marked_61 : decode cX5_marked 61 = .ok (.iconst 0, 1) := by decide +kernel
theorem dX5_marked_62 : decode cX5_marked 62 = .ok (.aload_n 0, 1) := by decide +kernel
theorem dX5_marked_63 : decode cX5_marked 63 = .ok (.getfield 131, 3) := by decide +kernel
theorem dX5_marked_66 : decode cX5_marked 66 = .ok (.aload_n 0, 1) := by decide +kernel
theorem dX5_marked_67 : decode cX5_marked 67 = .ok (.getfield 119, 3) := by decide +kernel
theorem dX5_marked_70 : decode cX5_marked 70 = .ok (.isub, 1) := by decide +kernel
theorem dX5_marked_71 : decode cX5_marked 71 = .ok (.invokestatic 175, 3) := by decide +kernel
theorem dX5_marked_74 : decode cX5_marked 74 = .ok (.ireturn, 1) := by decide +kernel
theorem dX5_marked_75 : decode cX5_marked 75 = .ok (.iload_n 3, 1) := by decide +kernel
theorem dX5_marked_76 : decode cX5_marked 76 = .ok (.iconst 1, 1) := by decide +kernel
theorem dX5_marked_77 : decode cX5_marked 77 = .ok (.iadd, 1) := by decide +kernel
theorem dX5_marked_78 : decode cX5_marked 78 = .ok (.ireturn, 1) := by decide +kernel
theorem dX5_marked_79 : decode cX5_marked 79 = .ok (.aload_n 0, 1) := by decide +kernel
theorem dX5_marked_80 : decode cX5_marked 80 = .ok (.getfield 119, 3) := by decide +kernel
theorem dX5_marked_83 : decode cX5_marked 83 = .ok (.aload_n 0, 1) := by decide +kernel
theorem dX5_marked_84 : decode cX5_marked 84 = .ok (.getfield 131, 3) := by decide +kernel
theorem dX5_marked_87 : decode cX5_marked 87 = .ok (.if_icmp .lt 10, 3) := by decide +kernel
theorem dX5_marked_90 : decode cX5_marked 90 = .ok (.aload_n 0, 1) := by decide +kernel
theorem dX5_marked_91 : decode cX5_marked 91 = .ok (.getfield 134, 3) := by decide +kernel
theorem dX5_marked_94 : decode cX5_marked 94 = .ok (.goto 4, 3) := by decide +kernel
theorem dX5_marked_97 : decode cX5_marked 97 = .ok (.iconst 0, 1) := by decide +kernel
theorem dX5_marked_98 : decode cX5_marked 98 = .ok (.ireturn, 1) := by decide +kernel
theorem dX5_marked_99 : decode cX5_marked 99 = .ok (.aload_n 0, 1) := by decide +kernel
theorem dX5_marked_100 : decode cX5_marked 100 = .ok (.getfield 134, 3) := by decide +kernel
theorem dX5_marked_103 : decode cX5_marked 103 = .ok (.ifCond .ne 7, 3) := by decide +kernel
theorem dX5_marked_106 : decode cX5_marked 106 = .ok (.iconst 0, 1) := by decide +kernel
theorem dX5_marked_107 : decode cX5_marked 107 = .ok (.goto 40, 3) := by decide +kernel
theorem dX5_marked_110 : decode cX5_marked 110 = .ok (.aload_n 0, 1) := by decide +kernel
theorem dX5_marked_111 : decode cX5_marked 111 = .ok (.getfield 119, 3) := by decide +kernel
theorem dX5_marked_114 : decode cX5_marked 114 = .ok (.aload_n 0, 1) := by decide +kernel
theorem dX5_marked_115 : decode cX5_marked 115 = .ok (.getfield 131, 3) := by decide +kernel
theorem dX5_marked_118 : decode cX5_marked 118 = .ok (.if_icmp .lt 7, 3) := by decide +kernel
theorem dX5_marked_121 : decode cX5_marked 121 = .ok (.iconst 1, 1) := by decide +kernel
theorem dX5_marked_122 : decode cX5_marked 122 = .ok (.goto 4, 3) := by decide +kernel
theorem dX5_marked_125 : decode cX5_marked 125 = .ok (.iconst 0, 1) := by decide +kernel
theorem dX5_marked_126 : decode cX5_marked 126 = .ok (.aload_n 0, 1) := by decide +kernel
theorem dX5_marked_127 : decode cX5_marked 127 = .ok (.getfield 119, 3) := by decide +kernel
theorem dX5_marked_130 : decode cX5_marked 130 = .ok (.aload_n 0, 1) := by decide +kernel
theorem dX5_marked_131 : decode cX5_marked 131 = .ok (.getfield 131, 3) := by decide +kernel
theorem dX5_marked_134 : decode cX5_marked 134 = .ok (.sipush 1000, 3) := by decide +kernel
theorem dX5_marked_137 : decode cX5_marked 137 = .ok (.iadd, 1) := by decide +kernel
theorem dX5_marked_138 : decode cX5_marked 138 = .ok (.if_icmp .lt 7, 3) := by decide +kernel
theorem dX5_marked_141 : decode cX5_marked 141 = .ok (.iconst 1, 1) := by decide +kernel
theorem dX5_marked_142 : decode cX5_marked 142 = .ok (.goto 4, 3) := by decide +kernel
theorem dX5_marked_145 : decode cX5_marked 145 = .ok (.iconst 0, 1) := by decide +kernel
theorem dX5_marked_146 : decode cX5_marked 146 = .ok (.iadd, 1) := by decide +kernel
theorem dX5_marked_147 : decode cX5_marked 147 = .ok (.ireturn, 1) := by decide +kernel
theorem dX5_mark_0 : decode cX5_mark 0 = .ok (.aload_n 0, 1) := by decide +kernel
theorem dX5_mark_1 : decode cX5_mark 1 = .ok (.iload_n 1, 1) := by decide +kernel
theorem dX5_mark_2 : decode cX5_mark 2 = .ok (.invokevirtual 169, 3) := by decide +kernel
theorem dX5_mark_5 : decode cX5_mark 5 = .ok (.ifCond .eq 12, 3) := by decide +kernel
theorem dX5_mark_8 : decode cX5_mark 8 = .ok (.iload_n 2, 1) := by decide +kernel
theorem dX5_mark_9 : decode cX5_mark 9 = .ok (.iconst 1, 1) := by decide +kernel
theorem dX5_mark_10 : decode cX5_mark 10 = .ok (.iconst 5, 1) := by decide +kernel
theorem dX5_mark_11 : decode cX5_mark 11 = .ok (.invokestatic 60, 3) := by decide +kernel
theorem dX5_mark_14 : decode cX5_mark 14 = .ok (.ifCond .ne 5, 3) := by decide +kernel
theorem dX5_mark_17 : decode cX5_mark 17 = .ok (.iconst (-1), 1) := by decide +kernel
theorem dX5_mark_18 : decode cX5_mark 18 = .ok (.ireturn, 1) := by decide +kernel
theorem dX5_mark_19 : decode cX5_mark 19 = .ok (.aload_n 0, 1) := by decide +kernel
theorem dX5_mark_20 : decode cX5_mark 20 = .ok (.iload_n 1, 1) := by decide +kernel
theorem dX5_mark_21 : decode cX5_mark 21 = .ok (.iload_n 2, 1) := by decide +kernel
theorem dX5_mark_22 : decode cX5_mark 22 = .ok (.invokevirtual 178, 3) := by decide +kernel
theorem dX5_mark_25 : decode cX5_mark 25 = .ok (.ifCond .eq 12, 3) := by decide +kernel
theorem dX5_mark_28 : decode cX5_mark 28 = .ok (.aload_n 0, 1) := by decide +kernel
theorem dX5_mark_29 : decode cX5_mark 29 = .ok (.iload_n 1, 1) := by decide +kernel
theorem dX5_mark_30 : decode cX5_mark 30 = .ok (.iload_n 2, 1) := by decide +kernel
theorem dX5_mark_31 : decode cX5_mark 31 = .ok (.invokevirtual 182, 3) := by decide +kernel
theorem dX5_mark_34 : decode cX5_mark 34 = .ok (.goto 8, 3) := by decide +kernel
theorem dX5_mark_37 : decode cX5_mark 37 = .ok (.aload_n 0, 1) := by decide +kernel
theorem dX5_mark_38 : decode cX5_mark 38 = .ok (.iconst 3, 1) := by decide +kernel
theorem dX5_mark_39 : decode cX5_mark 39 = .ok (.invokevirtual 68, 3) := by decide +kernel
theorem dX5_mark_42 : decode cX5_mark 42 = .ok (.ireturn, 1) := by decide +kernel
theorem dX5_order_0 : decode cX5_order 0 = .ok (.aload_n 0, 1) := by decide +kernel
theorem dX5_order_1 : decode cX5_order 1 = .ok (.iload_n 1, 1) := by decide +kernel
theorem dX5_order_2 : decode cX5_order 2 = .ok (.invokevirtual 169, 3) := by decide +kernel
theorem dX5_order_5 : decode cX5_order 5 = .ok (.ifCond .eq 14, 3) := by decide +kernel
theorem dX5_order_8 : decode cX5_order 8 = .ok (.iload_n 2, 1) := by decide +kernel
theorem dX5_order_9 : decode cX5_order 9 = .ok (.iconst 0, 1) := by decide +kernel
theorem dX5_order_10 : decode cX5_order 10 = .ok (.sipush 9999, 3) := by decide +kernel
theorem dX5_order_13 : decode cX5_order 13 = .ok (.invokestatic 60, 3) := by decide +kernel
theorem dX5_order_16 : decode cX5_order 16 = .ok (.ifCond .ne 5, 3) := by decide +kernel
theorem dX5_order_19 : decode cX5_order 19 = .ok (.iconst (-1), 1) := by decide +kernel
theorem dX5_order_20 : decode cX5_order 20 = .ok (.ireturn, 1) := by decide +kernel
theorem dX5_order_21 : decode cX5_order 21 = .ok (.aload_n 0, 1) := by decide +kernel
theorem dX5_order_22 : decode cX5_order 22 = .ok (.getfield 38, 3) := by decide +kernel
theorem dX5_order_25 : decode cX5_order 25 = .ok (.iload_n 1, 1) := by decide +kernel
theorem dX5_order_26 : decode cX5_order 26 = .ok (.iaload, 1) := by decide +kernel
theorem dX5_order_27 : decode cX5_order 27 = .ok (.istore_n 3, 1) := by decide +kernel
theorem dX5_order_28 : decode cX5_order 28 = .ok (.aload_n 0, 1) := by decide +kernel
theorem dX5_order_29 : decode cX5_order 29 = .ok (.getfield 38, 3) := by decide +kernel
theorem dX5_order_32 : decode cX5_order 32 = .ok (.iload_n 1, 1) := by decide +kernel
theorem dX5_order_33 : decode cX5_order 33 = .ok (.iload_n 2, 1) := by decide +kernel
theorem dX5_order_34 : decode cX5_order 34 = .ok (.iastore, 1) := by decide +kernel
theorem dX5_order_35 : decode cX5_order 35 = .ok (.iload_n 3, 1) := by decide +kernel
theorem dX5_order_36 : decode cX5_order 36 = .ok (.ireturn, 1) := by decide +kernel
theorem dX5_gap_0 : decode cX5_gap 0 = .ok (.aload_n 0, 1) := by decide +kernel
theorem dX5_gap_1 : decode cX5_gap 1 = .ok (.iload_n 1, 1) := by decide +kernel
theorem dX5_gap_2 : decode cX5_gap 2 = .ok (.invokevirtual 169, 3) := by decide +kernel
theorem dX5_gap_5 : decode cX5_gap 5 = .ok (.ifCond .eq 13, 3) := by decide +kernel
theorem dX5_gap_8 : decode cX5_gap 8 = .ok (.iload_n 2, 1) := by decide +kernel
theorem dX5_gap_9 : decode cX5_gap 9 = .ok (.iconst 0, 1) := by decide +kernel
theorem dX5_gap_10 : decode cX5_gap 10 = .ok (.bipush 9, 2) := by decide +kernel
theorem dX5_gap_12 : decode cX5_gap 12 = .ok (.invokestatic 60, 3) := by decide +kernel
theorem dX5_gap_15 : decode cX5_gap 15 = .ok (.ifCond .ne 5, 3) := by decide +kernel
theorem dX5_gap_18 : decode cX5_gap 18 = .ok (.iconst (-1), 1) := by decide +kernel
theorem dX5_gap_19 : decode cX5_gap 19 = .ok (.ireturn, 1) := by decide +kernel
theorem dX5_gap_20 : decode cX5_gap 20 = .ok (.aload_n 0, 1) := by decide +kernel
theorem dX5_gap_21 : decode cX5_gap 21 = .ok (.getfield 41, 3) := by decide +kernel
theorem dX5_gap_24 : decode cX5_gap 24 = .ok (.iload_n 1, 1) := by decide +kernel
theorem dX5_gap_25 : decode cX5_gap 25 = .ok (.iaload, 1) := by decide +kernel
theorem dX5_gap_26 : decode cX5_gap 26 = .ok (.istore_n 3, 1) := by decide +kernel
theorem dX5_gap_27 : decode cX5_gap 27 = .ok (.aload_n 0, 1) := by decide +kernel
theorem dX5_gap_28 : decode cX5_gap 28 = .ok (.getfield 41, 3) := by decide +kernel
theorem dX5_gap_31 : decode cX5_gap 31 = .ok (.iload_n 1, 1) := by decide +kernel
theorem dX5_gap_32 : decode cX5_gap 32 = .ok (.iload_n 2, 1) := by decide +kernel
theorem dX5_gap_33 : decode cX5_gap 33 = .ok (.iastore, 1) := by decide +kernel
theorem dX5_gap_34 : decode cX5_gap 34 = .ok (.iload_n 3, 1) := by decide +kernel
theorem dX5_gap_35 : decode cX5_gap 35 = .ok (.ireturn, 1) := by decide +kernel
theorem dX5_leap_0 : decode cX5_leap 0 = .ok (.aload_n 0, 1) := by decide +kernel
theorem dX5_leap_1 : decode cX5_leap 1 = .ok (.iload_n 1, 1) := by decide +kernel
theorem dX5_leap_2 : decode cX5_leap 2 = .ok (.invokevirtual 169, 3) := by decide +kernel
theorem dX5_leap_5 : decode cX5_leap 5 = .ok (.ifCond .eq 13, 3) := by decide +kernel
theorem dX5_leap_8 : decode cX5_leap 8 = .ok (.iload_n 2, 1) := by decide +kernel
theorem dX5_leap_9 : decode cX5_leap 9 = .ok (.iconst 2, 1) := by decide +kernel
theorem dX5_leap_10 : decode cX5_leap 10 = .ok (.bipush 9, 2) := by decide +kernel
theorem dX5_leap_12 : decode cX5_leap 12 = .ok (.invokestatic 60, 3) := by decide +kernel
theorem dX5_leap_15 : decode cX5_leap 15 = .ok (.ifCond .ne 5, 3) := by decide +kernel
theorem dX5_leap_18 : decode cX5_leap 18 = .ok (.iconst (-1), 1) := by decide +kernel
theorem dX5_leap_19 : decode cX5_leap 19 = .ok (.ireturn, 1) := by decide +kernel
theorem dX5_leap_20 : decode cX5_leap 20 = .ok (.aload_n 0, 1) := by decide +kernel
theorem dX5_leap_21 : decode cX5_leap 21 = .ok (.getfield 35, 3) := by decide +kernel
theorem dX5_leap_24 : decode cX5_leap 24 = .ok (.iload_n 1, 1) := by decide +kernel
theorem dX5_leap_25 : decode cX5_leap 25 = .ok (.iaload, 1) := by decide +kernel
theorem dX5_leap_26 : decode cX5_leap 26 = .ok (.istore_n 3, 1) := by decide +kernel
theorem dX5_leap_27 : decode cX5_leap 27 = .ok (.aload_n 0, 1) := by decide +kernel
theorem dX5_leap_28 : decode cX5_leap 28 = .ok (.getfield 35, 3) := by decide +kernel
theorem dX5_leap_31 : decode cX5_leap 31 = .ok (.iload_n 1, 1) := by decide +kernel
theorem dX5_leap_32 : decode cX5_leap 32 = .ok (.iload_n 2, 1) := by decide +kernel
theorem dX5_leap_33 : decode cX5_leap 33 = .ok (.iastore, 1) := by decide +kernel
theorem dX5_leap_34 : decode cX5_leap 34 = .ok (.iload_n 3, 1) := by decide +kernel
theorem dX5_leap_35 : decode cX5_leap 35 = .ok (.ireturn, 1) := by decide +kernel
theorem dX5_go_0 : decode cX5_go 0 = .ok (.iload_n 1, 1) := by decide +kernel
theorem dX5_go_1 : decode cX5_go 1 = .ok (.iconst 0, 1) := by decide +kernel
theorem dX5_go_2 : decode cX5_go 2 = .ok (.sipush 9999, 3) := by decide +kernel
theorem dX5_go_5 : decode cX5_go 5 = .ok (.invokestatic 60, 3) := by decide +kernel
theorem dX5_go_8 : decode cX5_go 8 = .ok (.ifCond .ne 5, 3) := by decide +kernel
theorem dX5_go_11 : decode cX5_go 11 = .ok (.iconst (-1), 1) := by decide +kernel
theorem dX5_go_12 : decode cX5_go 12 = .ok (.ireturn, 1) := by decide +kernel
theorem dX5_go_13 : decode cX5_go 13 = .ok (.aload_n 0, 1) := by decide +kernel
theorem dX5_go_14 : decode cX5_go 14 = .ok (.getfield 116, 3) := by decide +kernel
theorem dX5_go_17 : decode cX5_go 17 = .ok (.ifCond .ne 6, 3) := by decide +kernel
theorem dX5_go_20 : decode cX5_go 20 = .ok (.bipush (-4), 2) := by decide +kernel
theorem dX5_go_22 : decode cX5_go 22 = .ok (.ireturn, 1) := by decide +kernel
theorem dX5_go_23 : decode cX5_go 23 = .ok (.aload_n 0, 1) := by decide +kernel
theorem dX5_go_24 : decode cX5_go 24 = .ok (.getfield 119, 3) := by decide +kernel
theorem dX5_go_27 : decode cX5_go 27 = .ok (.iload_n 1, 1) := by decide +kernel
theorem dX5_go_28 : decode cX5_go 28 = .ok (.iadd, 1) := by decide +kernel
theorem dX5_go_29 : decode cX5_go 29 = .ok (.sipush 19999, 3) := by decide +kernel
theorem dX5_go_32 : decode cX5_go 32 = .ok (.if_icmp .le 6, 3) := by decide +kernel
theorem dX5_go_35 : decode cX5_go 35 = .ok (.bipush (-6), 2) := by decide +kernel
theorem dX5_go_37 : decode cX5_go 37 = .ok (.ireturn, 1) := by decide +kernel
theorem dX5_go_38 : decode cX5_go 38 = .ok (.aload_n 0, 1) := by decide +kernel
theorem dX5_go_39 : decode cX5_go 39 = .ok (.dup, 1) := by decide +kernel
theorem dX5_go_40 : decode cX5_go 40 = .ok (.getfield 119, 3) := by decide +kernel
theorem dX5_go_43 : decode cX5_go 43 = .ok (.iload_n 1, 1) := by decide +kernel
theorem dX5_go_44 : decode cX5_go 44 = .ok (.iadd, 1) := by decide +kernel
theorem dX5_go_45 : decode cX5_go 45 = .ok (.putfield 119, 3) := by decide +kernel
theorem dX5_go_48 : decode cX5_go 48 = .ok (.aload_n 0, 1) := by decide +kernel
theorem dX5_go_49 : decode cX5_go 49 = .ok (.getfield 119, 3) := by decide +kernel
theorem dX5_go_52 : decode cX5_go 52 = .ok (.ireturn, 1) := by decide +kernel
theorem dX5_back_0 : decode cX5_back 0 = .ok (.iload_n 1, 1) := by decide +kernel
theorem dX5_back_1 : decode cX5_back 1 = .ok (.iconst 0, 1) := by decide +kernel
theorem dX5_back_2 : decode cX5_back 2 = .ok (.aload_n 0, 1) := by decide +kernel
theorem dX5_back_3 : decode cX5_back 3 = .ok (.getfield 119, 3) := by decide +kernel
theorem dX5_back_6 : decode cX5_back 6 = .ok (.invokestatic 60, 3) := by decide +kernel
theorem dX5_back_9 : decode cX5_back 9 = .ok (.ifCond .ne 5, 3) := by decide +kernel
theorem dX5_back_12 : decode cX5_back 12 = .ok (.iconst (-1), 1) := by decide +kernel
theorem dX5_back_13 : decode cX5_back 13 = .ok (.ireturn, 1) := by decide +kernel
theorem dX5_back_14 : decode cX5_back 14 = .ok (.aload_n 0, 1) := by decide +kernel
theorem dX5_back_15 : decode cX5_back 15 = .ok (.dup, 1) := by decide +kernel
theorem dX5_back_16 : decode cX5_back 16 = .ok (.getfield 119, 3) := by decide +kernel
theorem dX5_back_19 : decode cX5_back 19 = .ok (.iload_n 1, 1) := by decide +kernel
theorem dX5_back_20 : decode cX5_back 20 = .ok (.isub, 1) := by decide +kernel
theorem dX5_back_21 : decode cX5_back 21 = .ok (.putfield 119, 3) := by decide +kernel
theorem dX5_back_24 : decode cX5_back 24 = .ok (.aload_n 0, 1) := by decide +kernel
theorem dX5_back_25 : decode cX5_back 25 = .ok (.getfield 119, 3) := by decide +kernel
theorem dX5_back_28 : decode cX5_back 28 = .ok (.ireturn, 1) := by decide +kernel
theorem dX5_keep_0 : decode cX5_keep 0 = .ok (.iload_n 1, 1) := by decide +kernel
theorem dX5_keep_1 : decode cX5_keep 1 = .ok (.iconst 0, 1) := by decide +kernel
theorem dX5_keep_2 : decode cX5_keep 2 = .ok (.iconst 2, 1) := by decide +kernel
theorem dX5_keep_3 : decode cX5_keep 3 = .ok (.invokestatic 60, 3) := by decide +kernel
theorem dX5_keep_6 : decode cX5_keep 6 = .ok (.ifCond .ne 5, 3) := by decide +kernel
theorem dX5_keep_9 : decode cX5_keep 9 = .ok (.iconst (-1), 1) := by decide +kernel
theorem dX5_keep_10 : decode cX5_keep 10 = .ok (.ireturn, 1) := by decide +kernel
theorem dX5_keep_11 : decode cX5_keep 11 = .ok (.aload_n 0, 1) := by decide +kernel
theorem dX5_keep_12 : decode cX5_keep 12 = .ok (.getfield 116, 3) := by decide +kernel
theorem dX5_keep_15 : decode cX5_keep 15 = .ok (.ifCond .ne 6, 3) := by decide +kernel
theorem dX5_keep_18 : decode cX5_keep 18 = .ok (.bipush (-4), 2) := by decide +kernel
theorem dX5_keep_20 : decode cX5_keep 20 = .ok (.ireturn, 1) := by decide +kernel
theorem dX5_keep_21 : decode cX5_keep 21 = .ok (.bipush 21, 2) := by decide +kernel
theorem dX5_keep_23 : decode cX5_keep 23 = .ok (.iload_n 1, 1) := by decide +kernel
theorem dX5_keep_24 : decode cX5_keep 24 = .ok (.imul, 1) := by decide +kernel
theorem dX5_keep_25 : decode cX5_keep 25 = .ok (.istore_n 2, 1) := by decide +kernel
theorem dX5_keep_26 : decode cX5_keep 26 = .ok (.aload_n 0, 1) := by decide +kernel
theorem dX5_keep_27 : decode cX5_keep 27 = .ok (.getfield 47, 3) := by decide +kernel
theorem dX5_keep_30 : decode cX5_keep 30 = .ok (.iload_n 2, 1) := by decide +kernel
theorem dX5_keep_31 : decode cX5_keep 31 = .ok (.aload_n 0, 1) := by decide +kernel
theorem dX5_keep_32 : decode cX5_keep 32 = .ok (.getfield 119, 3) := by decide +kernel
theorem dX5_keep_35 : decode cX5_keep 35 = .ok (.iastore, 1) := by decide +kernel
theorem dX5_keep_36 : decode cX5_keep 36 = .ok (.iconst 0, 1) := by decide +kernel
theorem dX5_keep_37 : decode cX5_keep 37 = .ok (.istore_n 3, 1) := by decide +kernel
theorem dX5_keep_38 : decode cX5_keep 38 = .ok (.iload_n 3, 1) := by decide +kernel
theorem dX5_keep_39 : decode cX5_keep 39 = .ok (.iconst 5, 1) := by decide +kernel
theorem dX5_keep_40 : decode cX5_keep 40 = .ok (.if_icmp .ge 59, 3) := by decide +kernel
theorem dX5_keep_43 : decode cX5_keep 43 = .ok (.aload_n 0, 1) := by decide +kernel
theorem dX5_keep_44 : decode cX5_keep 44 = .ok (.getfield 47, 3) := by decide +kernel
theorem dX5_keep_47 : decode cX5_keep 47 = .ok (.iload_n 2, 1) := by decide +kernel
theorem dX5_keep_48 : decode cX5_keep 48 = .ok (.iconst 1, 1) := by decide +kernel
theorem dX5_keep_49 : decode cX5_keep 49 = .ok (.iadd, 1) := by decide +kernel
theorem dX5_keep_50 : decode cX5_keep 50 = .ok (.iload_n 3, 1) := by decide +kernel
theorem dX5_keep_51 : decode cX5_keep 51 = .ok (.iadd, 1) := by decide +kernel
theorem dX5_keep_52 : decode cX5_keep 52 = .ok (.aload_n 0, 1) := by decide +kernel
theorem dX5_keep_53 : decode cX5_keep 53 = .ok (.getfield 35, 3) := by decide +kernel
theorem dX5_keep_56 : decode cX5_keep 56 = .ok (.iload_n 3, 1) := by decide +kernel
theorem dX5_keep_57 : decode cX5_keep 57 = .ok (.iaload, 1) := by decide +kernel
theorem dX5_keep_58 : decode cX5_keep 58 = .ok (.iastore, 1) := by decide +kernel
theorem dX5_keep_59 : decode cX5_keep 59 = .ok (.aload_n 0, 1) := by decide +kernel
theorem dX5_keep_60 : decode cX5_keep 60 = .ok (.getfield 47, 3) := by decide +kernel
theorem dX5_keep_63 : decode cX5_keep 63 = .ok (.iload_n 2, 1) := by decide +kernel
theorem dX5_keep_64 : decode cX5_keep 64 = .ok (.bipush 6, 2) := by decide +kernel
theorem dX5_keep_66 : decode cX5_keep 66 = .ok (.iadd, 1) := by decide +kernel
theorem dX5_keep_67 : decode cX5_keep 67 = .ok (.iload_n 3, 1) := by decide +kernel
theorem dX5_keep_68 : decode cX5_keep 68 = .ok (.iadd, 1) := by decide +kernel
theorem dX5_keep_69 : decode cX5_keep 69 = .ok (.aload_n 0, 1) := by decide +kernel
theorem dX5_keep_70 : decode cX5_keep 70 = .ok (.getfield 38, 3) := by decide +kernel
theorem dX5_keep_73 : decode cX5_keep 73 = .ok (.iload_n 3, 1) := by decide +kernel
theorem dX5_keep_74 : decode cX5_keep 74 = .ok (.iaload, 1) := by decide +kernel
theorem dX5_keep_75 : decode cX5_keep 75 = .ok (.iastore, 1) := by decide +kernel
theorem dX5_keep_76 : decode cX5_keep 76 = .ok (.aload_n 0, 1) := by decide +kernel
theorem dX5_keep_77 : decode cX5_keep 77 = .ok (.getfield 47, 3) := by decide +kernel
theorem dX5_keep_80 : decode cX5_keep 80 = .ok (.iload_n 2, 1) := by decide +kernel
theorem dX5_keep_81 : decode cX5_keep 81 = .ok (.bipush 11, 2) := by decide +kernel
theorem dX5_keep_83 : decode cX5_keep 83 = .ok (.iadd, 1) := by decide +kernel
theorem dX5_keep_84 : decode cX5_keep 84 = .ok (.iload_n 3, 1) := by decide +kernel
theorem dX5_keep_85 : decode cX5_keep 85 = .ok (.iadd, 1) := by decide +kernel
theorem dX5_keep_86 : decode cX5_keep 86 = .ok (.aload_n 0, 1) := by decide +kernel
theorem dX5_keep_87 : decode cX5_keep 87 = .ok (.getfield 41, 3) := by decide +kernel
theorem dX5_keep_90 : decode cX5_keep 90 = .ok (.iload_n 3, 1) := by decide +kernel
theorem dX5_keep_91 : decode cX5_keep 91 = .ok (.iaload, 1) := by decide +kernel
theorem dX5_keep_92 : decode cX5_keep 92 = .ok (.iastore, 1) := by decide +kernel
theorem dX5_keep_93 : decode cX5_keep 93 = .ok (.iinc 3 1, 3) := by decide +kernel
theorem dX5_keep_96 : decode cX5_keep 96 = .ok (.goto (-58), 3) := by decide +kernel
theorem dX5_keep_99 : decode cX5_keep 99 = .ok (.aload_n 0, 1) := by decide +kernel
theorem dX5_keep_100 : decode cX5_keep 100 = .ok (.getfield 119, 3) := by decide +kernel
theorem dX5_keep_103 : decode cX5_keep 103 = .ok (.ireturn, 1) := by decide +kernel
theorem dX5_on_0 : decode cX5_on 0 = .ok (.iload_n 1, 1) := by decide +kernel
theorem dX5_on_1 : decode cX5_on 1 = .ok (.iconst 0, 1) := by decide +kernel
theorem dX5_on_2 : decode cX5_on 2 = .ok (.iconst 2, 1) := by decide +kernel
theorem dX5_on_3 : decode cX5_on 3 = .ok (.invokestatic 60, 3) := by decide +kernel
theorem dX5_on_6 : decode cX5_on 6 = .ok (.ifCond .ne 5, 3) := by decide +kernel
theorem dX5_on_9 : decode cX5_on 9 = .ok (.iconst (-1), 1) := by decide +kernel
theorem dX5_on_10 : decode cX5_on 10 = .ok (.ireturn, 1) := by decide +kernel
theorem dX5_on_11 : decode cX5_on 11 = .ok (.bipush 21, 2) := by decide +kernel
theorem dX5_on_13 : decode cX5_on 13 = .ok (.iload_n 1, 1) := by decide +kernel
theorem dX5_on_14 : decode cX5_on 14 = .ok (.imul, 1) := by decide +kernel
theorem dX5_on_15 : decode cX5_on 15 = .ok (.istore_n 2, 1) := by decide +kernel
theorem dX5_on_16 : decode cX5_on 16 = .ok (.aload_n 0, 1) := by decide +kernel
theorem dX5_on_17 : decode cX5_on 17 = .ok (.getfield 47, 3) := by decide +kernel
theorem dX5_on_20 : decode cX5_on 20 = .ok (.iload_n 2, 1) := by decide +kernel
theorem dX5_on_21 : decode cX5_on 21 = .ok (.iaload, 1) := by decide +kernel
theorem dX5_on_22 : decode cX5_on 22 = .ok (.bipush (-9), 2) := by decide +kernel
theorem dX5_on_24 : decode cX5_on 24 = .ok (.if_icmp .ne 9, 3) := by decide +kernel
theorem dX5_on_27 : decode cX5_on 27 = .ok (.aload_n 0, 1) := by decide +kernel
theorem dX5_on_28 : decode cX5_on 28 = .ok (.iconst 1, 1) := by decide +kernel
theorem dX5_on_29 : decode cX5_on 29 = .ok (.invokevirtual 68, 3) := by decide +kernel
theorem dX5_on_32 : decode cX5_on 32 = .ok (.ireturn, 1) := by decide +kernel
theorem dX5_on_33 : decode cX5_on 33 = .ok (.aload_n 0, 1) := by decide +kernel
theorem dX5_on_34 : decode cX5_on 34 = .ok (.aload_n 0, 1) := by decide +kernel
theorem dX5_on_35 : decode cX5_on 35 = .ok (.getfield 47, 3) := by decide +kernel
theorem dX5_on_38 : decode cX5_on 38 = .ok (.iload_n 2, 1) := by decide +kernel
theorem dX5_on_39 : decode cX5_on 39 = .ok (.iaload, 1) := by decide +kernel
theorem dX5_on_40 : decode cX5_on 40 = .ok (.putfield 119, 3) := by decide +kernel
theorem dX5_on_43 : decode cX5_on 43 = .ok (.iconst 0, 1) := by decide +kernel
theorem dX5_on_44 : decode cX5_on 44 = .ok (.istore_n 3, 1) := by decide +kernel
theorem dX5_on_45 : decode cX5_on 45 = .ok (.iload_n 3, 1) := by decide +kernel
theorem dX5_on_46 : decode cX5_on 46 = .ok (.iconst 5, 1) := by decide +kernel
theorem dX5_on_47 : decode cX5_on 47 = .ok (.if_icmp .ge 59, 3) := by decide +kernel
theorem dX5_on_50 : decode cX5_on 50 = .ok (.aload_n 0, 1) := by decide +kernel
theorem dX5_on_51 : decode cX5_on 51 = .ok (.getfield 35, 3) := by decide +kernel
theorem dX5_on_54 : decode cX5_on 54 = .ok (.iload_n 3, 1) := by decide +kernel
theorem dX5_on_55 : decode cX5_on 55 = .ok (.aload_n 0, 1) := by decide +kernel
theorem dX5_on_56 : decode cX5_on 56 = .ok (.getfield 47, 3) := by decide +kernel
theorem dX5_on_59 : decode cX5_on 59 = .ok (.iload_n 2, 1) := by decide +kernel
theorem dX5_on_60 : decode cX5_on 60 = .ok (.iconst 1, 1) := by decide +kernel
theorem dX5_on_61 : decode cX5_on 61 = .ok (.iadd, 1) := by decide +kernel
theorem dX5_on_62 : decode cX5_on 62 = .ok (.iload_n 3, 1) := by decide +kernel
theorem dX5_on_63 : decode cX5_on 63 = .ok (.iadd, 1) := by decide +kernel
theorem dX5_on_64 : decode cX5_on 64 = .ok (.iaload, 1) := by decide +kernel
theorem dX5_on_65 : decode cX5_on 65 = .ok (.iastore, 1) := by decide +kernel
theorem dX5_on_66 : decode cX5_on 66 = .ok (.aload_n 0, 1) := by decide +kernel
theorem dX5_on_67 : decode cX5_on 67 = .ok (.getfield 38, 3) := by decide +kernel
theorem dX5_on_70 : decode cX5_on 70 = .ok (.iload_n 3, 1) := by decide +kernel
theorem dX5_on_71 : decode cX5_on 71 = .ok (.aload_n 0, 1) := by decide +kernel
theorem dX5_on_72 : decode cX5_on 72 = .ok (.getfield 47, 3) := by decide +kernel
theorem dX5_on_75 : decode cX5_on 75 = .ok (.iload_n 2, 1) := by decide +kernel
theorem dX5_on_76 : decode cX5_on 76 = .ok (.bipush 6, 2) := by decide +kernel
theorem dX5_on_78 : decode cX5_on 78 = .ok (.iadd, 1) := by decide +kernel
theorem dX5_on_79 : decode cX5_on 79 = .ok (.iload_n 3, 1) := by decide +kernel
theorem dX5_on_80 : decode cX5_on 80 = .ok (.iadd, 1) := by decide +kernel
theorem dX5_on_81 : decode cX5_on 81 = .ok (.iaload, 1) := by decide +kernel
theorem dX5_on_82 : decode cX5_on 82 = .ok (.iastore, 1) := by decide +kernel
theorem dX5_on_83 : decode cX5_on 83 = .ok (.aload_n 0, 1) := by decide +kernel
theorem dX5_on_84 : decode cX5_on 84 = .ok (.getfield 41, 3) := by decide +kernel
theorem dX5_on_87 : decode cX5_on 87 = .ok (.iload_n 3, 1) := by decide +kernel
theorem dX5_on_88 : decode cX5_on 88 = .ok (.aload_n 0, 1) := by decide +kernel
theorem dX5_on_89 : decode cX5_on 89 = .ok (.getfield 47, 3) := by decide +kernel
theorem dX5_on_92 : decode cX5_on 92 = .ok (.iload_n 2, 1) := by decide +kernel
theorem dX5_on_93 : decode cX5_on 93 = .ok (.bipush 11, 2) := by decide +kernel
theorem dX5_on_95 : decode cX5_on 95 = .ok (.iadd, 1) := by decide +kernel
theorem dX5_on_96 : decode cX5_on 96 = .ok (.iload_n 3, 1) := by decide +kernel
theorem dX5_on_97 : decode cX5_on 97 = .ok (.iadd, 1) := by decide +kernel
theorem dX5_on_98 : decode cX5_on 98 = .ok (.iaload, 1) := by decide +kernel
theorem dX5_on_99 : decode cX5_on 99 = .ok (.iastore, 1) := by decide +kernel
theorem dX5_on_100 : decode cX5_on 100 = .ok (.iinc 3 1, 3) := by decide +kernel
theorem dX5_on_103 : decode cX5_on 103 = .ok (.goto (-58), 3) := by decide +kernel
theorem dX5_on_106 : decode cX5_on 106 = .ok (.aload_n 0, 1) := by decide +kernel
theorem dX5_on_107 : decode cX5_on 107 = .ok (.getfield 119, 3) := by decide +kernel
theorem dX5_on_110 : decode cX5_on 110 = .ok (.ireturn, 1) := by decide +kernel
theorem dX5_date_0 : decode cX5_date 0 = .ok (.aload_n 0, 1) := by decide +kernel
theorem dX5_date_1 : decode cX5_date 1 = .ok (.iload_n 1, 1) := by decide +kernel
theorem dX5_date_2 : decode cX5_date 2 = .ok (.invokevirtual 169, 3) := by decide +kernel
theorem dX5_date_5 : decode cX5_date 5 = .ok (.ifCond .eq 19, 3) := by decide +kernel
theorem dX5_date_8 : decode cX5_date 8 = .ok (.iload_n 2, 1) := by decide +kernel
theorem dX5_date_9 : decode cX5_date 9 = .ok (.invokestatic 122, 3) := by decide +kernel
theorem dX5_date_12 : decode cX5_date 12 = .ok (.ifCond .eq 12, 3) := by decide +kernel
theorem dX5_date_15 : decode cX5_date 15 = .ok (.aload_n 0, 1) := by decide +kernel
theorem dX5_date_16 : decode cX5_date 16 = .ok (.iload_n 1, 1) := by decide +kernel
theorem dX5_date_17 : decode cX5_date 17 = .ok (.iload_n 2, 1) := by decide +kernel
theorem dX5_date_18 : decode cX5_date 18 = .ok (.invokevirtual 166, 3) := by decide +kernel
theorem dX5_date_21 : decode cX5_date 21 = .ok (.goto 4, 3) := by decide +kernel
theorem dX5_date_24 : decode cX5_date 24 = .ok (.iconst (-1), 1) := by decide +kernel
theorem dX5_date_25 : decode cX5_date 25 = .ok (.ireturn, 1) := by decide +kernel
theorem dX5_day_0 : decode cX5_day 0 = .ok (.aload_n 0, 1) := by decide +kernel
theorem dX5_day_1 : decode cX5_day 1 = .ok (.iload_n 1, 1) := by decide +kernel
theorem dX5_day_2 : decode cX5_day 2 = .ok (.invokevirtual 169, 3) := by decide +kernel
theorem dX5_day_5 : decode cX5_day 5 = .ok (.ifCond .eq 7, 3) := by decide +kernel
theorem dX5_day_8 : decode cX5_day 8 = .ok (.iload_n 2, 1) := by decide +kernel
theorem dX5_day_9 : decode cX5_day 9 = .ok (.ifCond .ge 5, 3) := by decide +kernel
theorem dX5_day_12 : decode cX5_day 12 = .ok (.iconst (-1), 1) := by decide +kernel
theorem dX5_day_13 : decode cX5_day 13 = .ok (.ireturn, 1) := by decide +kernel
theorem dX5_day_14 : decode cX5_day 14 = .ok (.aload_n 0, 1) := by decide +kernel
theorem dX5_day_15 : decode cX5_day 15 = .ok (.iload_n 1, 1) := by decide +kernel
theorem dX5_day_16 : decode cX5_day 16 = .ok (.iload_n 2, 1) := by decide +kernel
theorem dX5_day_17 : decode cX5_day 17 = .ok (.invokevirtual 185, 3) := by decide +kernel
theorem dX5_day_20 : decode cX5_day 20 = .ok (.istore_n 3, 1) := by decide +kernel
theorem dX5_day_21 : decode cX5_day 21 = .ok (.iload_n 3, 1) := by decide +kernel
theorem dX5_day_22 : decode cX5_day 22 = .ok (.bipush (-9), 2) := by decide +kernel
theorem dX5_day_24 : decode cX5_day 24 = .ok (.if_icmp .ne 11, 3) := by decide +kernel
theorem dX5_day_27 : decode cX5_day 27 = .ok (.aload_n 0, 1) := by decide +kernel
theorem dX5_day_28 : decode cX5_day 28 = .ok (.iconst 4, 1) := by decide +kernel
theorem dX5_day_29 : decode cX5_day 29 = .ok (.invokevirtual 68, 3) := by decide +kernel
theorem dX5_day_32 : decode cX5_day 32 = .ok (.goto 4, 3) := by decide +kernel
theorem dX5_day_35 : decode cX5_day 35 = .ok (.iload_n 3, 1) := by decide +kernel
theorem dX5_day_36 : decode cX5_day 36 = .ok (.ireturn, 1) := by decide +kernel
theorem dX5_year_0 : decode cX5_year 0 = .ok (.aload_n 0, 1) := by decide +kernel
theorem dX5_year_1 : decode cX5_year 1 = .ok (.iload_n 1, 1) := by decide +kernel
theorem dX5_year_2 : decode cX5_year 2 = .ok (.invokevirtual 169, 3) := by decide +kernel
theorem dX5_year_5 : decode cX5_year 5 = .ok (.ifCond .eq 14, 3) := by decide +kernel
theorem dX5_year_8 : decode cX5_year 8 = .ok (.iload_n 2, 1) := by decide +kernel
theorem dX5_year_9 : decode cX5_year 9 = .ok (.iconst 0, 1) := by decide +kernel
theorem dX5_year_10 : decode cX5_year 10 = .ok (.sipush 250, 3) := by decide +kernel
theorem dX5_year_13 : decode cX5_year 13 = .ok (.invokestatic 60, 3) := by decide +kernel
theorem dX5_year_16 : decode cX5_year 16 = .ok (.ifCond .ne 5, 3) := by decide +kernel
theorem dX5_year_19 : decode cX5_year 19 = .ok (.iconst (-1), 1) := by decide +kernel
theorem dX5_year_20 : decode cX5_year 20 = .ok (.ireturn, 1) := by decide +kernel
theorem dX5_year_21 : decode cX5_year 21 = .ok (.aload_n 0, 1) := by decide +kernel
theorem dX5_year_22 : decode cX5_year 22 = .ok (.iload_n 1, 1) := by decide +kernel
theorem dX5_year_23 : decode cX5_year 23 = .ok (.invokevirtual 141, 3) := by decide +kernel
theorem dX5_year_26 : decode cX5_year 26 = .ok (.iconst 0, 1) := by decide +kernel
theorem dX5_year_27 : decode cX5_year 27 = .ok (.istore_n 3, 1) := by decide +kernel
theorem dX5_year_28 : decode cX5_year 28 = .ok (.iconst 0, 1) := by decide +kernel
theorem dX5_year_29 : decode cX5_year 29 = .ok (.istore 4, 2) := by decide +kernel
theorem dX5_year_31 : decode cX5_year 31 = .ok (.iload 4, 2) := by decide +kernel
theorem dX5_year_33 : decode cX5_year 33 = .ok (.aload_n 0, 1) := by decide +kernel
theorem dX5_year_34 : decode cX5_year 34 = .ok (.iload_n 2, 1) := by decide +kernel
theorem dX5_year_35 : decode cX5_year 35 = .ok (.invokevirtual 160, 3) := by decide +kernel
theorem dX5_year_38 : decode cX5_year 38 = .ok (.if_icmp .ge 34, 3) := by decide +kernel
theorem dX5_year_41 : decode cX5_year 41 = .ok (.iload_n 3, 1) := by decide +kernel
theorem dX5_year_42 : decode cX5_year 42 = .ok (.aload_n 0, 1) := by decide +kernel
theorem dX5_year_43 : decode cX5_year 43 = .ok (.sipush 1000, 3) := by decide +kernel
theorem dX5_year_46 : decode cX5_year 46 = .ok (.iload_n 2, 1) := by decide +kernel
theorem dX5_year_47 : decode cX5_year 47 = .ok (.imul, 1) := by decide +kernel
theorem dX5_year_48 : decode cX5_year 48 = .ok (.iload 4, 2) := by decide +kernel
theorem dX5_year_50 : decode cX5_year 50 = .ok (.iadd, 1) := by decide +kernel
theorem dX5_year_51 : decode cX5_year 51 = .ok (.invokevirtual 163, 3) := by decide +kernel
theorem dX5_year_54 : decode cX5_year 54 = .ok (.bipush (-9), 2) := by decide +kernel
theorem dX5_year_56 : decode cX5_year 56 = .ok (.if_icmp .ne 7, 3) := by decide +kernel
theorem dX5_year_59 : decode cX5_year 59 = .ok (.iconst 0, 1) := by decide +kernel
theorem dX5_year_60 : decode cX5_year 60 = .ok (.goto 4, 3) := by decide +kernel
theorem dX5_year_63 : decode cX5_year 63 = .ok (.iconst 1, 1) := by decide +kernel
theorem dX5_year_64 : decode cX5_year 64 = .ok (.iadd, 1) := by decide +kernel
theorem dX5_year_65 : decode cX5_year 65 = .ok (.istore_n 3, 1) := by decide +kernel
theorem dX5_year_66 : decode cX5_year 66 = .ok (.iinc 4 1, 3) := by decide +kernel
theorem dX5_year_69 : decode cX5_year 69 = .ok (.goto (-38), 3) := by decide +kernel
theorem dX5_year_72 : decode cX5_year 72 = .ok (.aload_n 0, 1) := by decide +kernel
theorem dX5_year_73 : decode cX5_year 73 = .ok (.iload_n 3, 1) := by decide +kernel
theorem dX5_year_74 : decode cX5_year 74 = .ok (.aload_n 0, 1) := by decide +kernel
theorem dX5_year_75 : decode cX5_year 75 = .ok (.iload_n 2, 1) := by decide +kernel
theorem dX5_year_76 : decode cX5_year 76 = .ok (.invokevirtual 160, 3) := by decide +kernel
theorem dX5_year_79 : decode cX5_year 79 = .ok (.invokevirtual 86, 3) := by decide +kernel
theorem dX5_year_82 : decode cX5_year 82 = .ok (.ireturn, 1) := by decide +kernel
theorem dX5_same_0 : decode cX5_same 0 = .ok (.aload_n 0, 1) := by decide +kernel
theorem dX5_same_1 : decode cX5_same 1 = .ok (.iload_n 1, 1) := by decide +kernel
theorem dX5_same_2 : decode cX5_same 2 = .ok (.invokevirtual 169, 3) := by decide +kernel
theorem dX5_same_5 : decode cX5_same 5 = .ok (.ifCond .eq 15, 3) := by decide +kernel
theorem dX5_same_8 : decode cX5_same 8 = .ok (.aload_n 0, 1) := by decide +kernel
theorem dX5_same_9 : decode cX5_same 9 = .ok (.iload_n 3, 1) := by decide +kernel
theorem dX5_same_10 : decode cX5_same 10 = .ok (.invokevirtual 169, 3) := by decide +kernel
theorem dX5_same_13 : decode cX5_same 13 = .ok (.ifCond .eq 7, 3) := by decide +kernel
theorem dX5_same_16 : decode cX5_same 16 = .ok (.iload_n 2, 1) := by decide +kernel
theorem dX5_same_17 : decode cX5_same 17 = .ok (.ifCond .ge 5, 3) := by decide +kernel
theorem dX5_same_20 : decode cX5_same 20 = .ok (.iconst (-1), 1) := by decide +kernel
theorem dX5_same_21 : decode cX5_same 21 = .ok (.ireturn, 1) := by decide +kernel
theorem dX5_same_22 : decode cX5_same 22 = .ok (.aload_n 0, 1) := by decide +kernel
theorem dX5_same_23 : decode cX5_same 23 = .ok (.iload_n 1, 1) := by decide +kernel
theorem dX5_same_24 : decode cX5_same 24 = .ok (.iload_n 2, 1) := by decide +kernel
theorem dX5_same_25 : decode cX5_same 25 = .ok (.invokevirtual 185, 3) := by decide +kernel
theorem dX5_same_28 : decode cX5_same 28 = .ok (.istore 4, 2) := by decide +kernel
theorem dX5_same_30 : decode cX5_same 30 = .ok (.iload 4, 2) := by decide +kernel
theorem dX5_same_32 : decode cX5_same 32 = .ok (.bipush (-9), 2) := by decide +kernel
theorem dX5_same_34 : decode cX5_same 34 = .ok (.if_icmp .ne 11, 3) := by decide +kernel
theorem dX5_same_37 : decode cX5_same 37 = .ok (.aload_n 0, 1) := by decide +kernel
theorem dX5_same_38 : decode cX5_same 38 = .ok (.iconst 4, 1) := by decide +kernel
theorem dX5_same_39 : decode cX5_same 39 = .ok (.invokevirtual 68, 3) := by decide +kernel
theorem dX5_same_42 : decode cX5_same 42 = .ok (.goto 10, 3) := by decide +kernel
theorem dX5_same_45 : decode cX5_same 45 = .ok (.aload_n 0, 1) := by decide +kernel
theorem dX5_same_46 : decode cX5_same 46 = .ok (.iload_n 3, 1) := by decide +kernel
theorem dX5_same_47 : decode cX5_same 47 = .ok (.iload 4, 2) := by decide +kernel
theorem dX5_same_49 : decode cX5_same 49 = .ok (.invokevirtual 166, 3) := by decide +kernel
theorem dX5_same_52 : decode cX5_same 52 = .ok (.ireturn, 1) := by decide +kernel
theorem dX5_between_0 : decode cX5_between 0 = .ok (.aload_n 0, 1) := by decide +kernel
theorem dX5_between_1 : decode cX5_between 1 = .ok (.iload_n 1, 1) := by decide +kernel
theorem dX5_between_2 : decode cX5_between 2 = .ok (.invokevirtual 169, 3) := by decide +kernel
theorem dX5_between_5 : decode cX5_between 5 = .ok (.ifCond .eq 11, 3) := by decide +kernel
theorem dX5_between_8 : decode cX5_between 8 = .ok (.iload_n 2, 1) := by decide +kernel
theorem dX5_between_9 : decode cX5_between 9 = .ok (.ifCond .lt 7, 3) := by decide +kernel
theorem dX5_between_12 : decode cX5_between 12 = .ok (.iload_n 3, 1) := by decide +kernel
theorem dX5_between_13 : decode cX5_between 13 = .ok (.ifCond .ge 5, 3) := by decide +kernel
theorem dX5_between_16 : decode cX5_between 16 = .ok (.iconst (-1), 1) := by decide +kernel
theorem dX5_between_17 : decode cX5_between 17 = .ok (.ireturn, 1) := by decide +kernel
theorem dX5_between_18 : decode cX5_between 18 = .ok (.aload_n 0, 1) := by decide +kernel
theorem dX5_between_19 : decode cX5_between 19 = .ok (.iload_n 1, 1) := by decide +kernel
theorem dX5_between_20 : decode cX5_between 20 = .ok (.iload_n 2, 1) := by decide +kernel
theorem dX5_between_21 : decode cX5_between 21 = .ok (.invokevirtual 185, 3) := by decide +kernel
theorem dX5_between_24 : decode cX5_between 24 = .ok (.istore 4, 2) := by decide +kernel
theorem dX5_between_26 : decode cX5_between 26 = .ok (.aload_n 0, 1) := by decide +kernel
theorem dX5_between_27 : decode cX5_between 27 = .ok (.iload_n 1, 1) := by decide +kernel
theorem dX5_between_28 : decode cX5_between 28 = .ok (.iload_n 3, 1) := by decide +kernel
theorem dX5_between_29 : decode cX5_between 29 = .ok (.invokevirtual 185, 3) := by decide +kernel
theorem dX5_between_32 : decode cX5_between 32 = .ok (.istore 5, 2) := by decide +kernel
theorem dX5_between_34 : decode cX5_between 34 = .ok (.iload 4, 2) := by decide +kernel
theorem dX5_between_36 : decode cX5_between 36 = .ok (.bipush (-9), 2) := by decide +kernel
theorem dX5_between_38 : decode cX5_between 38 = .ok (.if_icmp .eq 10, 3) := by decide +kernel
theorem dX5_between_41 : decode cX5_between 41 = .ok (.iload 5, 2) := by decide +kernel
theorem dX5_between_43 : decode cX5_between 43 = .ok (.bipush (-9), 2) := by decide +kernel
theorem dX5_between_45 : decode cX5_between 45 = .ok (.if_icmp .ne 11, 3) := by decide +kernel
theorem dX5_between_48 : decode cX5_between 48 = .ok (.aload_n 0, 1) := by decide +kernel
theorem dX5_between_49 : decode cX5_between 49 = .ok (.iconst 4, 1) := by decide +kernel
theorem dX5_between_50 : decode cX5_between 50 = .ok (.invokevirtual 68, 3) := by decide +kernel
theorem dX5_between_53 : decode cX5_between 53 = .ok (.goto 13, 3) := by decide +kernel
theorem dX5_between_56 : decode cX5_between 56 = .ok (.aload_n 0, 1) := by decide +kernel
theorem dX5_between_57 : decode cX5_between 57 = .ok (.iload 5, 2) := by decide +kernel
theorem dX5_between_59 : decode cX5_between 59 = .ok (.iload 4, 2) := by decide +kernel
theorem dX5_between_61 : decode cX5_between 61 = .ok (.isub, 1) := by decide +kernel
theorem dX5_between_62 : decode cX5_between 62 = .ok (.iconst 1, 1) := by decide +kernel
theorem dX5_between_63 : decode cX5_between 63 = .ok (.invokevirtual 86, 3) := by decide +kernel
theorem dX5_between_66 : decode cX5_between 66 = .ok (.ireturn, 1) := by decide +kernel
theorem dX5_where_0 : decode cX5_where 0 = .ok (.iload_n 1, 1) := by decide +kernel
theorem dX5_where_1 : decode cX5_where 1 = .ok (.invokestatic 122, 3) := by decide +kernel
theorem dX5_where_4 : decode cX5_where 4 = .ok (.ifCond .eq 7, 3) := by decide +kernel
theorem dX5_where_7 : decode cX5_where 7 = .ok (.iload_n 2, 1) := by decide +kernel
theorem dX5_where_8 : decode cX5_where 8 = .ok (.ifCond .ge 5, 3) := by decide +kernel
theorem dX5_where_11 : decode cX5_where 11 = .ok (.iconst (-1), 1) := by decide +kernel
theorem dX5_where_12 : decode cX5_where 12 = .ok (.ireturn, 1) := by decide +kernel
theorem dX5_where_13 : decode cX5_where 13 = .ok (.iconst 0, 1) := by decide +kernel
theorem dX5_where_14 : decode cX5_where 14 = .ok (.istore_n 3, 1) := by decide +kernel
theorem dX5_where_15 : decode cX5_where 15 = .ok (.iconst 0, 1) := by decide +kernel
theorem dX5_where_16 : decode cX5_where 16 = .ok (.istore 4, 2) := by decide +kernel
theorem dX5_where_18 : decode cX5_where 18 = .ok (.iconst 0, 1) := by decide +kernel
theorem dX5_where_19 : decode cX5_where 19 = .ok (.istore 5, 2) := by decide +kernel
theorem dX5_where_21 : decode cX5_where 21 = .ok (.iload 5, 2) := by decide +kernel
theorem dX5_where_23 : decode cX5_where 23 = .ok (.aload_n 0, 1) := by decide +kernel
theorem dX5_where_24 : decode cX5_where 24 = .ok (.getfield 116, 3) := by decide +kernel
theorem dX5_where_27 : decode cX5_where 27 = .ok (.if_icmp .ge 58, 3) := by decide +kernel
theorem dX5_where_30 : decode cX5_where 30 = .ok (.aload_n 0, 1) := by decide +kernel
theorem dX5_where_31 : decode cX5_where 31 = .ok (.iload 5, 2) := by decide +kernel
theorem dX5_where_33 : decode cX5_where 33 = .ok (.iload_n 1, 1) := by decide +kernel
theorem dX5_where_34 : decode cX5_where 34 = .ok (.invokevirtual 166, 3) := by decide +kernel
theorem dX5_where_37 : decode cX5_where 37 = .ok (.iload_n 2, 1) := by decide +kernel
theorem dX5_where_38 : decode cX5_where 38 = .ok (.if_icmp .ne 7, 3) := by decide +kernel
theorem dX5_where_41 : decode cX5_where 41 = .ok (.iconst 1, 1) := by decide +kernel
theorem dX5_where_42 : decode cX5_where 42 = .ok (.goto 4, 3) := by decide +kernel
theorem dX5_where_45 : decode cX5_where 45 = .ok (.iconst 0, 1) := by decide +kernel
theorem dX5_where_46 : decode cX5_where 46 = .ok (.istore 6, 2) := by decide +kernel
theorem dX5_where_48 : decode cX5_where 48 = .ok (.iload_n 3, 1) := by decide +kernel
theorem dX5_where_49 : decode cX5_where 49 = .ok (.iload 6, 2) := by decide +kernel
theorem dX5_where_51 : decode cX5_where 51 = .ok (.ifCond .eq 10, 3) := by decide +kernel
theorem dX5_where_54 : decode cX5_where 54 = .ok (.iconst 1, 1) := by decide +kernel
theorem dX5_where_55 : decode cX5_where 55 = .ok (.iload 5, 2) := by decide +kernel
theorem dX5_where_57 : decode cX5_where 57 = .ok (.ishl, 1) := by decide +kernel
theorem dX5_where_58 : decode cX5_where 58 = .ok (.goto 4, 3) := by decide +kernel
theorem dX5_where_61 : decode cX5_where 61 = .ok (.iconst 0, 1) := by decide +kernel
theorem dX5_where_62 : decode cX5_where 62 = .ok (.ior, 1) := by decide +kernel
theorem dX5_where_63 : decode cX5_where 63 = .ok (.istore_n 3, 1) := by decide +kernel
theorem dX5_where_64 : decode cX5_where 64 = .ok (.iload 4, 2) := by decide +kernel
theorem dX5_where_66 : decode cX5_where 66 = .ok (.iload 6, 2) := by decide +kernel
theorem dX5_where_68 : decode cX5_where 68 = .ok (.ifCond .eq 7, 3) := by decide +kernel
theorem dX5_where_71 : decode cX5_where 71 = .ok (.iconst 1, 1) := by decide +kernel
theorem dX5_where_72 : decode cX5_where 72 = .ok (.goto 4, 3) := by decide +kernel
theorem dX5_where_75 : decode cX5_where 75 = .ok (.iconst 0, 1) := by decide +kernel
theorem dX5_where_76 : decode cX5_where 76 = .ok (.iadd, 1) := by decide +kernel
theorem dX5_where_77 : decode cX5_where 77 = .ok (.istore 4, 2) := by decide +kernel
theorem dX5_where_79 : decode cX5_where 79 = .ok (.iinc 5 1, 3) := by decide +kernel
theorem dX5_where_82 : decode cX5_where 82 = .ok (.goto (-61), 3) := by decide +kernel
theorem dX5_where_85 : decode cX5_where 85 = .ok (.aload_n 0, 1) := by decide +kernel
theorem dX5_where_86 : decode cX5_where 86 = .ok (.iload_n 3, 1) := by decide +kernel
theorem dX5_where_87 : decode cX5_where 87 = .ok (.iload 4, 2) := by decide +kernel
theorem dX5_where_89 : decode cX5_where 89 = .ok (.invokevirtual 86, 3) := by decide +kernel
theorem dX5_where_92 : decode cX5_where 92 = .ok (.ireturn, 1) := by decide +kernel
theorem dX5_left_0 : decode cX5_left 0 = .ok (.aload_n 0, 1) := by decide +kernel
theorem dX5_left_1 : decode cX5_left 1 = .ok (.iload_n 1, 1) := by decide +kernel
theorem dX5_left_2 : decode cX5_left 2 = .ok (.invokevirtual 169, 3) := by decide +kernel
theorem dX5_left_5 : decode cX5_left 5 = .ok (.ifCond .eq 10, 3) := by decide +kernel
theorem dX5_left_8 : decode cX5_left 8 = .ok (.iload_n 2, 1) := by decide +kernel
theorem dX5_left_9 : decode cX5_left 9 = .ok (.invokestatic 64, 3) := by decide +kernel
theorem dX5_left_12 : decode cX5_left 12 = .ok (.ifCond .ne 5, 3) := by decide +kernel
theorem dX5_left_15 : decode cX5_left 15 = .ok (.iconst (-1), 1) := by decide +kernel
theorem dX5_left_16 : decode cX5_left 16 = .ok (.ireturn, 1) := by decide +kernel
theorem dX5_left_17 : decode cX5_left 17 = .ok (.aload_n 0, 1) := by decide +kernel
theorem dX5_left_18 : decode cX5_left 18 = .ok (.iload_n 1, 1) := by decide +kernel
theorem dX5_left_19 : decode cX5_left 19 = .ok (.invokevirtual 141, 3) := by decide +kernel
theorem dX5_left_22 : decode cX5_left 22 = .ok (.aload_n 0, 1) := by decide +kernel
theorem dX5_left_23 : decode cX5_left 23 = .ok (.invokevirtual 148, 3) := by decide +kernel
theorem dX5_left_26 : decode cX5_left 26 = .ok (.ifCond .ne 7, 3) := by decide +kernel
theorem dX5_left_29 : decode cX5_left 29 = .ok (.iconst 0, 1) := by decide +kernel
theorem dX5_left_30 : decode cX5_left 30 = .ok (.goto 24, 3) := by decide +kernel
theorem dX5_left_33 : decode cX5_left 33 = .ok (.aload_n 0, 1) := by decide +kernel
theorem dX5_left_34 : decode cX5_left 34 = .ok (.getfield 125, 3) := by decide +kernel
theorem dX5_left_37 : decode cX5_left 37 = .ok (.iconst 5, 1) := by decide +kernel
theorem dX5_left_38 : decode cX5_left 38 = .ok (.if_icmp .ne 12, 3) := by decide +kernel
theorem dX5_left_41 : decode cX5_left 41 = .ok (.iconst 2, 1) := by decide +kernel
theorem dX5_left_42 : decode cX5_left 42 = .ok (.aload_n 0, 1) := by decide +kernel
theorem dX5_left_43 : decode cX5_left 43 = .ok (.getfield 134, 3) := by decide +kernel
theorem dX5_left_46 : decode cX5_left 46 = .ok (.imul, 1) := by decide +kernel
theorem dX5_left_47 : decode cX5_left 47 = .ok (.goto 7, 3) := by decide +kernel
theorem dX5_left_50 : decode cX5_left 50 = .ok (.aload_n 0, 1) := by decide +kernel
theorem dX5_left_51 : decode cX5_left 51 = .ok (.getfield 134, 3) := by decide +kernel
theorem dX5_left_54 : decode cX5_left 54 = .ok (.istore_n 3, 1) := by decide +kernel
theorem dX5_left_55 : decode cX5_left 55 = .ok (.aload_n 0, 1) := by decide +kernel
theorem dX5_left_56 : decode cX5_left 56 = .ok (.iload_n 2, 1) := by decide +kernel
theorem dX5_left_57 : decode cX5_left 57 = .ok (.iload_n 3, 1) := by decide +kernel
theorem dX5_left_58 : decode cX5_left 58 = .ok (.invokevirtual 188, 3) := by decide +kernel
theorem dX5_left_61 : decode cX5_left 61 = .ok (.pop, 1) := by decide +kernel
theorem dX5_left_62 : decode cX5_left 62 = .ok (.iconst 0, 1) := by decide +kernel
theorem dX5_left_63 : decode cX5_left 63 = .ok (.istore 4, 2) := by decide +kernel
theorem dX5_left_65 : decode cX5_left 65 = .ok (.iload 4, 2) := by decide +kernel
theorem dX5_left_67 : decode cX5_left 67 = .ok (.iload_n 3, 1) := by decide +kernel
theorem dX5_left_68 : decode cX5_left 68 = .ok (.if_icmp .ge 44, 3) := by decide +kernel
theorem dX5_left_71 : decode cX5_left 71 = .ok (.aload_n 0, 1) := by decide +kernel
theorem dX5_left_72 : decode cX5_left 72 = .ok (.iload_n 2, 1) := by decide +kernel
theorem dX5_left_73 : decode cX5_left 73 = .ok (.iload 4, 2) := by decide +kernel
theorem dX5_left_75 : decode cX5_left 75 = .ok (.aload_n 0, 1) := by decide +kernel
theorem dX5_left_76 : decode cX5_left 76 = .ok (.aload_n 0, 1) := by decide +kernel
theorem dX5_left_77 : decode cX5_left 77 = .ok (.getfield 131, 3) := by decide +kernel
theorem dX5_left_80 : decode cX5_left 80 = .ok (.iload 4, 2) := by decide +kernel
theorem dX5_left_82 : decode cX5_left 82 = .ok (.iadd, 1) := by decide +kernel
theorem dX5_left_83 : decode cX5_left 83 = .ok (.iload 4, 2) := by decide +kernel
theorem dX5_left_85 : decode cX5_left 85 = .ok (.aload_n 0, 1) := by decide +kernel
theorem dX5_left_86 : decode cX5_left 86 = .ok (.getfield 134, 3) := by decide +kernel
theorem dX5_left_89 : decode cX5_left 89 = .ok (.if_icmp .ge 7, 3) := by decide +kernel
theorem dX5_left_92 : decode cX5_left 92 = .ok (.iconst 0, 1) := by decide +kernel
theorem dX5_left_93 : decode cX5_left 93 = .ok (.goto 6, 3) := by decide +kernel
theorem dX5_left_96 : decode cX5_left 96 = .ok (.sipush 1000, 3) := by decide +kernel
theorem dX5_left_99 : decode cX5_left 99 = .ok (.iadd, 1) := by decide +kernel
theorem dX5_left_100 : decode cX5_left 100 = .ok (.invokevirtual 154, 3) := by decide +kernel
theorem dX5_left_103 : decode cX5_left 103 = .ok (.invokevirtual 75, 3) := by decide +kernel
theorem dX5_left_106 : decode cX5_left 106 = .ok (.iinc 4 1, 3) := by decide +kernel
theorem dX5_left_109 : decode cX5_left 109 = .ok (.goto (-44), 3) := by decide +kernel
theorem dX5_left_112 : decode cX5_left 112 = .ok (.iload_n 3, 1) := by decide +kernel
theorem dX5_left_113 : decode cX5_left 113 = .ok (.ireturn, 1) := by decide +kernel
theorem dX5_dates_0 : decode cX5_dates 0 = .ok (.aload_n 0, 1) := by decide +kernel
theorem dX5_dates_1 : decode cX5_dates 1 = .ok (.iload_n 1, 1) := by decide +kernel
theorem dX5_dates_2 : decode cX5_dates 2 = .ok (.invokevirtual 169, 3) := by decide +kernel
theorem dX5_dates_5 : decode cX5_dates 5 = .ok (.ifCond .eq 27, 3) := by decide +kernel
theorem dX5_dates_8 : decode cX5_dates 8 = .ok (.iload_n 2, 1) := by decide +kernel
theorem dX5_dates_9 : decode cX5_dates 9 = .ok (.iload_n 3, 1) := by decide +kernel
theorem dX5_dates_10 : decode cX5_dates 10 = .ok (.invokestatic 191, 3) := by decide +kernel
theorem dX5_dates_13 : decode cX5_dates 13 = .ok (.ifCond .eq 19, 3) := by decide +kernel
theorem dX5_dates_16 : decode cX5_dates 16 = .ok (.iload_n 3, 1) := by decide +kernel
theorem dX5_dates_17 : decode cX5_dates 17 = .ok (.iload_n 2, 1) := by decide +kernel
theorem dX5_dates_18 : decode cX5_dates 18 = .ok (.isub, 1) := by decide +kernel
theorem dX5_dates_19 : decode cX5_dates 19 = .ok (.bipush 40, 2) := by decide +kernel
theorem dX5_dates_21 : decode cX5_dates 21 = .ok (.if_icmp .ge 11, 3) := by decide +kernel
theorem dX5_dates_24 : decode cX5_dates 24 = .ok (.iload 4, 2) := by decide +kernel
theorem dX5_dates_26 : decode cX5_dates 26 = .ok (.invokestatic 64, 3) := by decide +kernel
theorem dX5_dates_29 : decode cX5_dates 29 = .ok (.ifCond .ne 5, 3) := by decide +kernel
theorem dX5_dates_32 : decode cX5_dates 32 = .ok (.iconst (-1), 1) := by decide +kernel
theorem dX5_dates_33 : decode cX5_dates 33 = .ok (.ireturn, 1) := by decide +kernel
theorem dX5_dates_34 : decode cX5_dates 34 = .ok (.aload_n 0, 1) := by decide +kernel
theorem dX5_dates_35 : decode cX5_dates 35 = .ok (.iload 4, 2) := by decide +kernel
theorem dX5_dates_37 : decode cX5_dates 37 = .ok (.iload_n 3, 1) := by decide +kernel
theorem dX5_dates_38 : decode cX5_dates 38 = .ok (.iload_n 2, 1) := by decide +kernel
theorem dX5_dates_39 : decode cX5_dates 39 = .ok (.isub, 1) := by decide +kernel
theorem dX5_dates_40 : decode cX5_dates 40 = .ok (.iconst 1, 1) := by decide +kernel
theorem dX5_dates_41 : decode cX5_dates 41 = .ok (.iadd, 1) := by decide +kernel
theorem dX5_dates_42 : decode cX5_dates 42 = .ok (.invokevirtual 188, 3) := by decide +kernel
theorem dX5_dates_45 : decode cX5_dates 45 = .ok (.pop, 1) := by decide +kernel
theorem dX5_dates_46 : decode cX5_dates 46 = .ok (.iload_n 2, 1) := by decide +kernel
theorem dX5_dates_47 : decode cX5_dates 47 = .ok (.istore 5, 2) := by decide +kernel
theorem dX5_dates_49 : decode cX5_dates 49 = .ok (.iload 5, 2) := by decide +kernel
theorem dX5_dates_51 : decode cX5_dates 51 = .ok (.iload_n 3, 1) := by decide +kernel
theorem dX5_dates_52 : decode cX5_dates 52 = .ok (.if_icmp .gt 26, 3) := by decide +kernel
theorem dX5_dates_55 : decode cX5_dates 55 = .ok (.aload_n 0, 1) := by decide +kernel
theorem dX5_dates_56 : decode cX5_dates 56 = .ok (.iload 4, 2) := by decide +kernel
theorem dX5_dates_58 : decode cX5_dates 58 = .ok (.iload 5, 2) := by decide +kernel
theorem dX5_dates_60 : decode cX5_dates 60 = .ok (.iload_n 2, 1) := by decide +kernel
theorem dX5_dates_61 : decode cX5_dates 61 = .ok (.isub, 1) := by decide +kernel
theorem dX5_dates_62 : decode cX5_dates 62 = .ok (.aload_n 0, 1) := by decide +kernel
theorem dX5_dates_63 : decode cX5_dates 63 = .ok (.iload_n 1, 1) := by decide +kernel
theorem dX5_dates_64 : decode cX5_dates 64 = .ok (.iload 5, 2) := by decide +kernel
theorem dX5_dates_66 : decode cX5_dates 66 = .ok (.invokevirtual 166, 3) := by decide +kernel
theorem dX5_dates_69 : decode cX5_dates 69 = .ok (.invokevirtual 75, 3) := by decide +kernel
theorem dX5_dates_72 : decode cX5_dates 72 = .ok (.iinc 5 1, 3) := by decide +kernel
theorem dX5_dates_75 : decode cX5_dates 75 = .ok (.goto (-26), 3) := by decide +kernel
theorem dX5_dates_78 : decode cX5_dates 78 = .ok (.iload_n 3, 1) := by decide +kernel
theorem dX5_dates_79 : decode cX5_dates 79 = .ok (.iload_n 2, 1) := by decide +kernel
theorem dX5_dates_80 : decode cX5_dates 80 = .ok (.isub, 1) := by decide +kernel
theorem dX5_dates_81 : decode cX5_dates 81 = .ok (.iconst 1, 1) := by decide +kernel
theorem dX5_dates_82 : decode cX5_dates 82 = .ok (.iadd, 1) := by decide +kernel
theorem dX5_dates_83 : decode cX5_dates 83 = .ok (.ireturn, 1) := by decide +kernel
theorem dX5_ageOf_0 : decode cX5_ageOf 0 = .ok (.iconst 0, 1) := by decide +kernel
theorem dX5_ageOf_1 : decode cX5_ageOf 1 = .ok (.istore_n 2, 1) := by decide +kernel
theorem dX5_ageOf_2 : decode cX5_ageOf 2 = .ok (.iload_n 1, 1) := by decide +kernel
theorem dX5_ageOf_3 : decode cX5_ageOf 3 = .ok (.sipush 1000, 3) := by decide +kernel
theorem dX5_ageOf_6 : decode cX5_ageOf 6 = .ok (.iadd, 1) := by decide +kernel
theorem dX5_ageOf_7 : decode cX5_ageOf 7 = .ok (.istore_n 3, 1) := by decide +kernel
theorem dX5_ageOf_8 : decode cX5_ageOf 8 = .ok (.iload_n 3, 1) := by decide +kernel
theorem dX5_ageOf_9 : decode cX5_ageOf 9 = .ok (.ldc 194, 2) := by decide +kernel
theorem dX5_ageOf_11 : decode cX5_ageOf 11 = .ok (.if_icmp .ge 43, 3) := by decide +kernel
theorem dX5_ageOf_14 : decode cX5_ageOf 14 = .ok (.aload_n 0, 1) := by decide +kernel
theorem dX5_ageOf_15 : decode cX5_ageOf 15 = .ok (.iload_n 3, 1) := by decide +kernel
theorem dX5_ageOf_16 : decode cX5_ageOf 16 = .ok (.invokevirtual 163, 3) := by decide +kernel
theorem dX5_ageOf_19 : decode cX5_ageOf 19 = .ok (.istore 4, 2) := by decide +kernel
theorem dX5_ageOf_21 : decode cX5_ageOf 21 = .ok (.iload_n 2, 1) := by decide +kernel
theorem dX5_ageOf_22 : decode cX5_ageOf 22 = .ok (.iload 4, 2) := by decide +kernel
theorem dX5_ageOf_24 : decode cX5_ageOf 24 = .ok (.bipush (-9), 2) := by decide +kernel
theorem dX5_ageOf_26 : decode cX5_ageOf 26 = .ok (.if_icmp .eq 16, 3) := by decide +kernel
theorem dX5_ageOf_29 : decode cX5_ageOf 29 = .ok (.iload 4, 2) := by decide +kernel
theorem dX5_ageOf_31 : decode cX5_ageOf 31 = .ok (.aload_n 0, 1) := by decide +kernel
theorem dX5_ageOf_32 : decode cX5_ageOf 32 = .ok (.getfield 119, 3) := by decide +kernel
theorem dX5_ageOf_35 : decode cX5_ageOf 35 = .ok (.if_icmp .gt 7, 3) := by decide +kernel
theorem dX5_ageOf_38 : decode cX5_ageOf 38 = .ok (.iconst 1, 1) := by decide +kernel
theorem dX5_ageOf_39 : decode cX5_ageOf 39 = .ok (.goto 4, 3) := by decide +kernel
theorem dX5_ageOf_42 : decode cX5_ageOf 42 = .ok (.iconst 0, 1) := by decide +kernel
theorem dX5_ageOf_43 : decode cX5_ageOf 43 = .ok (.iadd, 1) := by decide +kernel
theorem dX5_ageOf_44 : decode cX5_ageOf 44 = .ok (.istore_n 2, 1) := by decide +kernel
theorem dX5_ageOf_45 : decode cX5_ageOf 45 = .ok (.iinc 3 1000, 6) := by decide +kernel
theorem dX5_ageOf_51 : decode cX5_ageOf 51 = .ok (.goto (-43), 3) := by decide +kernel
theorem dX5_ageOf_54 : decode cX5_ageOf 54 = .ok (.iload_n 2, 1) := by decide +kernel
theorem dX5_ageOf_55 : decode cX5_ageOf 55 = .ok (.ireturn, 1) := by decide +kernel
theorem dX5_age_0 : decode cX5_age 0 = .ok (.aload_n 0, 1) := by decide +kernel
theorem dX5_age_1 : decode cX5_age 1 = .ok (.iload_n 1, 1) := by decide +kernel
theorem dX5_age_2 : decode cX5_age 2 = .ok (.invokevirtual 169, 3) := by decide +kernel
theorem dX5_age_5 : decode cX5_age 5 = .ok (.ifCond .eq 7, 3) := by decide +kernel
theorem dX5_age_8 : decode cX5_age 8 = .ok (.iload_n 2, 1) := by decide +kernel
theorem dX5_age_9 : decode cX5_age 9 = .ok (.ifCond .ge 5, 3) := by decide +kernel
theorem dX5_age_12 : decode cX5_age 12 = .ok (.iconst (-1), 1) := by decide +kernel
theorem dX5_age_13 : decode cX5_age 13 = .ok (.ireturn, 1) := by decide +kernel
theorem dX5_age_14 : decode cX5_age 14 = .ok (.aload_n 0, 1) := by decide +kernel
theorem dX5_age_15 : decode cX5_age 15 = .ok (.iload_n 1, 1) := by decide +kernel
theorem dX5_age_16 : decode cX5_age 16 = .ok (.iload_n 2, 1) := by decide +kernel
theorem dX5_age_17 : decode cX5_age 17 = .ok (.invokevirtual 185, 3) := by decide +kernel
theorem dX5_age_20 : decode cX5_age 20 = .ok (.istore_n 3, 1) := by decide +kernel
theorem dX5_age_21 : decode cX5_age 21 = .ok (.iload_n 3, 1) := by decide +kernel
theorem dX5_age_22 : decode cX5_age 22 = .ok (.bipush (-9), 2) := by decide +kernel
theorem dX5_age_24 : decode cX5_age 24 = .ok (.if_icmp .ne 9, 3) := by decide +kernel
theorem dX5_age_27 : decode cX5_age 27 = .ok (.aload_n 0, 1) := by decide +kernel
theorem dX5_age_28 : decode cX5_age 28 = .ok (.iconst 4, 1) := by decide +kernel
theorem dX5_age_29 : decode cX5_age 29 = .ok (.invokevirtual 68, 3) := by decide +kernel
theorem dX5_age_32 : decode cX5_age 32 = .ok (.ireturn, 1) := by decide +kernel
theorem dX5_age_33 : decode cX5_age 33 = .ok (.iload_n 3, 1) := by decide +kernel
theorem dX5_age_34 : decode cX5_age 34 = .ok (.aload_n 0, 1) := by decide +kernel
theorem dX5_age_35 : decode cX5_age 35 = .ok (.getfield 119, 3) := by decide +kernel
theorem dX5_age_38 : decode cX5_age 38 = .ok (.if_icmp .le 8, 3) := by decide +kernel
theorem dX5_age_41 : decode cX5_age 41 = .ok (.bipush (-4), 2) := by decide +kernel
theorem dX5_age_43 : decode cX5_age 43 = .ok (.goto 8, 3) := by decide +kernel
theorem dX5_age_46 : decode cX5_age 46 = .ok (.aload_n 0, 1) := by decide +kernel
theorem dX5_age_47 : decode cX5_age 47 = .ok (.iload_n 2, 1) := by decide +kernel
end
section
theorem dX5_age_48 : decode cX5_age 48 = .ok (.invokevirtual 195, 3) := by decide +kernel
theorem dX5_age_51 : decode cX5_age 51 = .ok (.ireturn, 1) := by decide +kernel
theorem dX5_eldest_0 : decode cX5_eldest 0 = .ok (.iload_n 1, 1) := by decide +kernel
theorem dX5_eldest_1 : decode cX5_eldest 1 = .ok (.iconst 0, 1) := by decide +kernel
theorem dX5_eldest_2 : decode cX5_eldest 2 = .ok (.aload_n 0, 1) := by decide +kernel
theorem dX5_eldest_3 : decode cX5_eldest 3 = .ok (.getfield 119, 3) := by decide +kernel
theorem dX5_eldest_6 : decode cX5_eldest 6 = .ok (.invokestatic 60, 3) := by decide +kernel
theorem dX5_eldest_9 : decode cX5_eldest 9 = .ok (.ifCond .ne 5, 3) := by decide +kernel
theorem dX5_eldest_12 : decode cX5_eldest 12 = .ok (.iconst (-1), 1) := by decide +kernel
theorem dX5_eldest_13 : decode cX5_eldest 13 = .ok (.ireturn, 1) := by decide +kernel
theorem dX5_eldest_14 : decode cX5_eldest 14 = .ok (.bipush (-9), 2) := by decide +kernel
theorem dX5_eldest_16 : decode cX5_eldest 16 = .ok (.istore_n 2, 1) := by decide +kernel
theorem dX5_eldest_17 : decode cX5_eldest 17 = .ok (.iconst (-1), 1) := by decide +kernel
theorem dX5_eldest_18 : decode cX5_eldest 18 = .ok (.istore_n 3, 1) := by decide +kernel
theorem dX5_eldest_19 : decode cX5_eldest 19 = .ok (.iconst 0, 1) := by decide +kernel
theorem dX5_eldest_20 : decode cX5_eldest 20 = .ok (.istore 4, 2) := by decide +kernel
theorem dX5_eldest_22 : decode cX5_eldest 22 = .ok (.iload 4, 2) := by decide +kernel
theorem dX5_eldest_24 : decode cX5_eldest 24 = .ok (.aload_n 0, 1) := by decide +kernel
theorem dX5_eldest_25 : decode cX5_eldest 25 = .ok (.getfield 116, 3) := by decide +kernel
theorem dX5_eldest_28 : decode cX5_eldest 28 = .ok (.if_icmp .ge 42, 3) := by decide +kernel
theorem dX5_eldest_31 : decode cX5_eldest 31 = .ok (.aload_n 0, 1) := by decide +kernel
theorem dX5_eldest_32 : decode cX5_eldest 32 = .ok (.aload_n 0, 1) := by decide +kernel
theorem dX5_eldest_33 : decode cX5_eldest 33 = .ok (.iload 4, 2) := by decide +kernel
theorem dX5_eldest_35 : decode cX5_eldest 35 = .ok (.iload_n 1, 1) := by decide +kernel
theorem dX5_eldest_36 : decode cX5_eldest 36 = .ok (.invokevirtual 166, 3) := by decide +kernel
theorem dX5_eldest_39 : decode cX5_eldest 39 = .ok (.invokevirtual 195, 3) := by decide +kernel
theorem dX5_eldest_42 : decode cX5_eldest 42 = .ok (.istore 5, 2) := by decide +kernel
theorem dX5_eldest_44 : decode cX5_eldest 44 = .ok (.iload 5, 2) := by decide +kernel
theorem dX5_eldest_46 : decode cX5_eldest 46 = .ok (.iload_n 3, 1) := by decide +kernel
theorem dX5_eldest_47 : decode cX5_eldest 47 = .ok (.if_icmp .le 8, 3) := by decide +kernel
theorem dX5_eldest_50 : decode cX5_eldest 50 = .ok (.iload 4, 2) := by decide +kernel
theorem dX5_eldest_52 : decode cX5_eldest 52 = .ok (.goto 4, 3) := by decide +kernel
theorem dX5_eldest_55 : decode cX5_eldest 55 = .ok (.iload_n 2, 1) := by decide +kernel
theorem dX5_eldest_56 : decode cX5_eldest 56 = .ok (.istore_n 2, 1) := by decide +kernel
theorem dX5_eldest_57 : decode cX5_eldest 57 = .ok (.iload_n 3, 1) := by decide +kernel
theorem dX5_eldest_58 : decode cX5_eldest 58 = .ok (.iload 5, 2) := by decide +kernel
theorem dX5_eldest_60 : decode cX5_eldest 60 = .ok (.invokestatic 175, 3) := by decide +kernel
theorem dX5_eldest_63 : decode cX5_eldest 63 = .ok (.istore_n 3, 1) := by decide +kernel
theorem dX5_eldest_64 : decode cX5_eldest 64 = .ok (.iinc 4 1, 3) := by decide +kernel
theorem dX5_eldest_67 : decode cX5_eldest 67 = .ok (.goto (-45), 3) := by decide +kernel
theorem dX5_eldest_70 : decode cX5_eldest 70 = .ok (.iload_n 2, 1) := by decide +kernel
theorem dX5_eldest_71 : decode cX5_eldest 71 = .ok (.bipush (-9), 2) := by decide +kernel
theorem dX5_eldest_73 : decode cX5_eldest 73 = .ok (.if_icmp .ne 8, 3) := by decide +kernel
theorem dX5_eldest_76 : decode cX5_eldest 76 = .ok (.bipush (-9), 2) := by decide +kernel
theorem dX5_eldest_78 : decode cX5_eldest 78 = .ok (.goto 9, 3) := by decide +kernel
theorem dX5_eldest_81 : decode cX5_eldest 81 = .ok (.aload_n 0, 1) := by decide +kernel
theorem dX5_eldest_82 : decode cX5_eldest 82 = .ok (.iload_n 3, 1) := by decide +kernel
theorem dX5_eldest_83 : decode cX5_eldest 83 = .ok (.iload_n 2, 1) := by decide +kernel
theorem dX5_eldest_84 : decode cX5_eldest 84 = .ok (.invokevirtual 86, 3) := by decide +kernel
theorem dX5_eldest_87 : decode cX5_eldest 87 = .ok (.ireturn, 1) := by decide +kernel
theorem dX5_doAgree_0 : decode cX5_doAgree 0 = .ok (.aload_n 0, 1) := by decide +kernel
theorem dX5_doAgree_1 : decode cX5_doAgree 1 = .ok (.iload_n 1, 1) := by decide +kernel
theorem dX5_doAgree_2 : decode cX5_doAgree 2 = .ok (.iload_n 3, 1) := by decide +kernel
theorem dX5_doAgree_3 : decode cX5_doAgree 3 = .ok (.invokevirtual 166, 3) := by decide +kernel
theorem dX5_doAgree_6 : decode cX5_doAgree 6 = .ok (.aload_n 0, 1) := by decide +kernel
theorem dX5_doAgree_7 : decode cX5_doAgree 7 = .ok (.iload_n 2, 1) := by decide +kernel
theorem dX5_doAgree_8 : decode cX5_doAgree 8 = .ok (.iload_n 3, 1) := by decide +kernel
theorem dX5_doAgree_9 : decode cX5_doAgree 9 = .ok (.invokevirtual 166, 3) := by decide +kernel
theorem dX5_doAgree_12 : decode cX5_doAgree 12 = .ok (.if_icmp .ne 7, 3) := by decide +kernel
theorem dX5_doAgree_15 : decode cX5_doAgree 15 = .ok (.iconst 1, 1) := by decide +kernel
theorem dX5_doAgree_16 : decode cX5_doAgree 16 = .ok (.goto 4, 3) := by decide +kernel
theorem dX5_doAgree_19 : decode cX5_doAgree 19 = .ok (.iconst 0, 1) := by decide +kernel
theorem dX5_doAgree_20 : decode cX5_doAgree 20 = .ok (.ireturn, 1) := by decide +kernel
theorem dX5_agree_0 : decode cX5_agree 0 = .ok (.aload_n 0, 1) := by decide +kernel
theorem dX5_agree_1 : decode cX5_agree 1 = .ok (.iload_n 1, 1) := by decide +kernel
theorem dX5_agree_2 : decode cX5_agree 2 = .ok (.invokevirtual 169, 3) := by decide +kernel
theorem dX5_agree_5 : decode cX5_agree 5 = .ok (.ifCond .eq 20, 3) := by decide +kernel
theorem dX5_agree_8 : decode cX5_agree 8 = .ok (.aload_n 0, 1) := by decide +kernel
theorem dX5_agree_9 : decode cX5_agree 9 = .ok (.iload_n 2, 1) := by decide +kernel
theorem dX5_agree_10 : decode cX5_agree 10 = .ok (.invokevirtual 169, 3) := by decide +kernel
theorem dX5_agree_13 : decode cX5_agree 13 = .ok (.ifCond .eq 12, 3) := by decide +kernel
theorem dX5_agree_16 : decode cX5_agree 16 = .ok (.iload_n 3, 1) := by decide +kernel
theorem dX5_agree_17 : decode cX5_agree 17 = .ok (.iload 4, 2) := by decide +kernel
theorem dX5_agree_19 : decode cX5_agree 19 = .ok (.invokestatic 191, 3) := by decide +kernel
theorem dX5_agree_22 : decode cX5_agree 22 = .ok (.ifCond .ne 5, 3) := by decide +kernel
theorem dX5_agree_25 : decode cX5_agree 25 = .ok (.iconst (-1), 1) := by decide +kernel
theorem dX5_agree_26 : decode cX5_agree 26 = .ok (.ireturn, 1) := by decide +kernel
theorem dX5_agree_27 : decode cX5_agree 27 = .ok (.iconst 0, 1) := by decide +kernel
theorem dX5_agree_28 : decode cX5_agree 28 = .ok (.istore 5, 2) := by decide +kernel
theorem dX5_agree_30 : decode cX5_agree 30 = .ok (.bipush (-9), 2) := by decide +kernel
theorem dX5_agree_32 : decode cX5_agree 32 = .ok (.istore 6, 2) := by decide +kernel
theorem dX5_agree_34 : decode cX5_agree 34 = .ok (.iload 4, 2) := by decide +kernel
theorem dX5_agree_36 : decode cX5_agree 36 = .ok (.istore 7, 2) := by decide +kernel
theorem dX5_agree_38 : decode cX5_agree 38 = .ok (.iload 7, 2) := by decide +kernel
theorem dX5_agree_40 : decode cX5_agree 40 = .ok (.iload_n 3, 1) := by decide +kernel
theorem dX5_agree_41 : decode cX5_agree 41 = .ok (.if_icmp .lt 48, 3) := by decide +kernel
theorem dX5_agree_44 : decode cX5_agree 44 = .ok (.aload_n 0, 1) := by decide +kernel
theorem dX5_agree_45 : decode cX5_agree 45 = .ok (.iload_n 1, 1) := by decide +kernel
theorem dX5_agree_46 : decode cX5_agree 46 = .ok (.iload_n 2, 1) := by decide +kernel
theorem dX5_agree_47 : decode cX5_agree 47 = .ok (.iload 7, 2) := by decide +kernel
theorem dX5_agree_49 : decode cX5_agree 49 = .ok (.invokevirtual 198, 3) := by decide +kernel
theorem dX5_agree_52 : decode cX5_agree 52 = .ok (.istore 8, 2) := by decide +kernel
theorem dX5_agree_54 : decode cX5_agree 54 = .ok (.iload 5, 2) := by decide +kernel
theorem dX5_agree_56 : decode cX5_agree 56 = .ok (.iload 8, 2) := by decide +kernel
theorem dX5_agree_58 : decode cX5_agree 58 = .ok (.ifCond .eq 7, 3) := by decide +kernel
theorem dX5_agree_61 : decode cX5_agree 61 = .ok (.iconst 1, 1) := by decide +kernel
theorem dX5_agree_62 : decode cX5_agree 62 = .ok (.goto 4, 3) := by decide +kernel
theorem dX5_agree_65 : decode cX5_agree 65 = .ok (.iconst 0, 1) := by decide +kernel
theorem dX5_agree_66 : decode cX5_agree 66 = .ok (.iadd, 1) := by decide +kernel
theorem dX5_agree_67 : decode cX5_agree 67 = .ok (.istore 5, 2) := by decide +kernel
theorem dX5_agree_69 : decode cX5_agree 69 = .ok (.iload 8, 2) := by decide +kernel
theorem dX5_agree_71 : decode cX5_agree 71 = .ok (.ifCond .eq 8, 3) := by decide +kernel
theorem dX5_agree_74 : decode cX5_agree 74 = .ok (.iload 7, 2) := by decide +kernel
theorem dX5_agree_76 : decode cX5_agree 76 = .ok (.goto 5, 3) := by decide +kernel
theorem dX5_agree_79 : decode cX5_agree 79 = .ok (.iload 6, 2) := by decide +kernel
theorem dX5_agree_81 : decode cX5_agree 81 = .ok (.istore 6, 2) := by decide +kernel
theorem dX5_agree_83 : decode cX5_agree 83 = .ok (.iinc 7 (-1), 3) := by decide +kernel
theorem dX5_agree_86 : decode cX5_agree 86 = .ok (.goto (-48), 3) := by decide +kernel
theorem dX5_agree_89 : decode cX5_agree 89 = .ok (.aload_n 0, 1) := by decide +kernel
theorem dX5_agree_90 : decode cX5_agree 90 = .ok (.iload 6, 2) := by decide +kernel
theorem dX5_agree_92 : decode cX5_agree 92 = .ok (.iload 5, 2) := by decide +kernel
theorem dX5_agree_94 : decode cX5_agree 94 = .ok (.invokevirtual 86, 3) := by decide +kernel
theorem dX5_agree_97 : decode cX5_agree 97 = .ok (.ireturn, 1) := by decide +kernel
theorem dX5_till_0 : decode cX5_till 0 = .ok (.aload_n 0, 1) := by decide +kernel
theorem dX5_till_1 : decode cX5_till 1 = .ok (.iload_n 1, 1) := by decide +kernel
theorem dX5_till_2 : decode cX5_till 2 = .ok (.invokevirtual 169, 3) := by decide +kernel
theorem dX5_till_5 : decode cX5_till 5 = .ok (.ifCond .eq 11, 3) := by decide +kernel
theorem dX5_till_8 : decode cX5_till 8 = .ok (.aload_n 0, 1) := by decide +kernel
theorem dX5_till_9 : decode cX5_till 9 = .ok (.iload_n 2, 1) := by decide +kernel
theorem dX5_till_10 : decode cX5_till 10 = .ok (.invokevirtual 169, 3) := by decide +kernel
theorem dX5_till_13 : decode cX5_till 13 = .ok (.ifCond .ne 5, 3) := by decide +kernel
theorem dX5_till_16 : decode cX5_till 16 = .ok (.iconst (-1), 1) := by decide +kernel
theorem dX5_till_17 : decode cX5_till 17 = .ok (.ireturn, 1) := by decide +kernel
theorem dX5_till_18 : decode cX5_till 18 = .ok (.aload_n 0, 1) := by decide +kernel
theorem dX5_till_19 : decode cX5_till 19 = .ok (.getfield 119, 3) := by decide +kernel
theorem dX5_till_22 : decode cX5_till 22 = .ok (.istore_n 3, 1) := by decide +kernel
theorem dX5_till_23 : decode cX5_till 23 = .ok (.iload_n 3, 1) := by decide +kernel
theorem dX5_till_24 : decode cX5_till 24 = .ok (.sipush 19999, 3) := by decide +kernel
theorem dX5_till_27 : decode cX5_till 27 = .ok (.if_icmp .gt 26, 3) := by decide +kernel
theorem dX5_till_30 : decode cX5_till 30 = .ok (.aload_n 0, 1) := by decide +kernel
theorem dX5_till_31 : decode cX5_till 31 = .ok (.iload_n 1, 1) := by decide +kernel
theorem dX5_till_32 : decode cX5_till 32 = .ok (.iload_n 2, 1) := by decide +kernel
theorem dX5_till_33 : decode cX5_till 33 = .ok (.iload_n 3, 1) := by decide +kernel
theorem dX5_till_34 : decode cX5_till 34 = .ok (.invokevirtual 198, 3) := by decide +kernel
theorem dX5_till_37 : decode cX5_till 37 = .ok (.ifCond .eq 10, 3) := by decide +kernel
theorem dX5_till_40 : decode cX5_till 40 = .ok (.iload_n 3, 1) := by decide +kernel
theorem dX5_till_41 : decode cX5_till 41 = .ok (.aload_n 0, 1) := by decide +kernel
theorem dX5_till_42 : decode cX5_till 42 = .ok (.getfield 119, 3) := by decide +kernel
theorem dX5_till_45 : decode cX5_till 45 = .ok (.isub, 1) := by decide +kernel
theorem dX5_till_46 : decode cX5_till 46 = .ok (.ireturn, 1) := by decide +kernel
theorem dX5_till_47 : decode cX5_till 47 = .ok (.iinc 3 1, 3) := by decide +kernel
theorem dX5_till_50 : decode cX5_till 50 = .ok (.goto (-27), 3) := by decide +kernel
theorem dX5_till_53 : decode cX5_till 53 = .ok (.bipush (-9), 2) := by decide +kernel
theorem dX5_till_55 : decode cX5_till 55 = .ok (.ireturn, 1) := by decide +kernel
theorem dX5_apart_0 : decode cX5_apart 0 = .ok (.aload_n 0, 1) := by decide +kernel
theorem dX5_apart_1 : decode cX5_apart 1 = .ok (.iload_n 1, 1) := by decide +kernel
theorem dX5_apart_2 : decode cX5_apart 2 = .ok (.invokevirtual 169, 3) := by decide +kernel
theorem dX5_apart_5 : decode cX5_apart 5 = .ok (.ifCond .eq 20, 3) := by decide +kernel
theorem dX5_apart_8 : decode cX5_apart 8 = .ok (.aload_n 0, 1) := by decide +kernel
theorem dX5_apart_9 : decode cX5_apart 9 = .ok (.iload_n 2, 1) := by decide +kernel
theorem dX5_apart_10 : decode cX5_apart 10 = .ok (.invokevirtual 169, 3) := by decide +kernel
theorem dX5_apart_13 : decode cX5_apart 13 = .ok (.ifCond .eq 12, 3) := by decide +kernel
theorem dX5_apart_16 : decode cX5_apart 16 = .ok (.iload_n 3, 1) := by decide +kernel
theorem dX5_apart_17 : decode cX5_apart 17 = .ok (.iload 4, 2) := by decide +kernel
theorem dX5_apart_19 : decode cX5_apart 19 = .ok (.invokestatic 191, 3) := by decide +kernel
theorem dX5_apart_22 : decode cX5_apart 22 = .ok (.ifCond .ne 5, 3) := by decide +kernel
theorem dX5_apart_25 : decode cX5_apart 25 = .ok (.iconst (-1), 1) := by decide +kernel
theorem dX5_apart_26 : decode cX5_apart 26 = .ok (.ireturn, 1) := by decide +kernel
theorem dX5_apart_27 : decode cX5_apart 27 = .ok (.iload_n 3, 1) := by decide +kernel
theorem dX5_apart_28 : decode cX5_apart 28 = .ok (.istore 5, 2) := by decide +kernel
theorem dX5_apart_30 : decode cX5_apart 30 = .ok (.iconst (-1), 1) := by decide +kernel
theorem dX5_apart_31 : decode cX5_apart 31 = .ok (.istore 6, 2) := by decide +kernel
theorem dX5_apart_33 : decode cX5_apart 33 = .ok (.iload_n 3, 1) := by decide +kernel
theorem dX5_apart_34 : decode cX5_apart 34 = .ok (.istore 7, 2) := by decide +kernel
theorem dX5_apart_36 : decode cX5_apart 36 = .ok (.iload 7, 2) := by decide +kernel
theorem dX5_apart_38 : decode cX5_apart 38 = .ok (.iload 4, 2) := by decide +kernel
theorem dX5_apart_40 : decode cX5_apart 40 = .ok (.if_icmp .gt 53, 3) := by decide +kernel
theorem dX5_apart_43 : decode cX5_apart 43 = .ok (.aload_n 0, 1) := by decide +kernel
theorem dX5_apart_44 : decode cX5_apart 44 = .ok (.iload_n 1, 1) := by decide +kernel
theorem dX5_apart_45 : decode cX5_apart 45 = .ok (.iload 7, 2) := by decide +kernel
theorem dX5_apart_47 : decode cX5_apart 47 = .ok (.invokevirtual 201, 3) := by decide +kernel
theorem dX5_apart_50 : decode cX5_apart 50 = .ok (.aload_n 0, 1) := by decide +kernel
theorem dX5_apart_51 : decode cX5_apart 51 = .ok (.iload_n 2, 1) := by decide +kernel
theorem dX5_apart_52 : decode cX5_apart 52 = .ok (.iload 7, 2) := by decide +kernel
theorem dX5_apart_54 : decode cX5_apart 54 = .ok (.invokevirtual 201, 3) := by decide +kernel
theorem dX5_apart_57 : decode cX5_apart 57 = .ok (.invokestatic 204, 3) := by decide +kernel
theorem dX5_apart_60 : decode cX5_apart 60 = .ok (.istore 8, 2) := by decide +kernel
theorem dX5_apart_62 : decode cX5_apart 62 = .ok (.iload 8, 2) := by decide +kernel
theorem dX5_apart_64 : decode cX5_apart 64 = .ok (.iload 6, 2) := by decide +kernel
theorem dX5_apart_66 : decode cX5_apart 66 = .ok (.if_icmp .le 8, 3) := by decide +kernel
theorem dX5_apart_69 : decode cX5_apart 69 = .ok (.iload 7, 2) := by decide +kernel
theorem dX5_apart_71 : decode cX5_apart 71 = .ok (.goto 5, 3) := by decide +kernel
theorem dX5_apart_74 : decode cX5_apart 74 = .ok (.iload 5, 2) := by decide +kernel
theorem dX5_apart_76 : decode cX5_apart 76 = .ok (.istore 5, 2) := by decide +kernel
theorem dX5_apart_78 : decode cX5_apart 78 = .ok (.iload 6, 2) := by decide +kernel
theorem dX5_apart_80 : decode cX5_apart 80 = .ok (.iload 8, 2) := by decide +kernel
theorem dX5_apart_82 : decode cX5_apart 82 = .ok (.invokestatic 175, 3) := by decide +kernel
theorem dX5_apart_85 : decode cX5_apart 85 = .ok (.istore 6, 2) := by decide +kernel
theorem dX5_apart_87 : decode cX5_apart 87 = .ok (.iinc 7 1, 3) := by decide +kernel
theorem dX5_apart_90 : decode cX5_apart 90 = .ok (.goto (-54), 3) := by decide +kernel
theorem dX5_apart_93 : decode cX5_apart 93 = .ok (.aload_n 0, 1) := by decide +kernel
theorem dX5_apart_94 : decode cX5_apart 94 = .ok (.iload 5, 2) := by decide +kernel
theorem dX5_apart_96 : decode cX5_apart 96 = .ok (.iload 6, 2) := by decide +kernel
theorem dX5_apart_98 : decode cX5_apart 98 = .ok (.invokevirtual 86, 3) := by decide +kernel
theorem dX5_apart_101 : decode cX5_apart 101 = .ok (.ireturn, 1) := by decide +kernel
theorem dX5_due_0 : decode cX5_due 0 = .ok (.aload_n 0, 1) := by decide +kernel
theorem dX5_due_1 : decode cX5_due 1 = .ok (.iload_n 1, 1) := by decide +kernel
theorem dX5_due_2 : decode cX5_due 2 = .ok (.invokevirtual 169, 3) := by decide +kernel
theorem dX5_due_5 : decode cX5_due 5 = .ok (.ifCond .eq 17, 3) := by decide +kernel
theorem dX5_due_8 : decode cX5_due 8 = .ok (.iload_n 2, 1) := by decide +kernel
theorem dX5_due_9 : decode cX5_due 9 = .ok (.ifCond .lt 13, 3) := by decide +kernel
theorem dX5_due_12 : decode cX5_due 12 = .ok (.iload_n 3, 1) := by decide +kernel
theorem dX5_due_13 : decode cX5_due 13 = .ok (.iconst 0, 1) := by decide +kernel
theorem dX5_due_14 : decode cX5_due 14 = .ok (.bipush 50, 2) := by decide +kernel
theorem dX5_due_16 : decode cX5_due 16 = .ok (.invokestatic 60, 3) := by decide +kernel
theorem dX5_due_19 : decode cX5_due 19 = .ok (.ifCond .ne 5, 3) := by decide +kernel
theorem dX5_due_22 : decode cX5_due 22 = .ok (.iconst (-1), 1) := by decide +kernel
theorem dX5_due_23 : decode cX5_due 23 = .ok (.ireturn, 1) := by decide +kernel
theorem dX5_due_24 : decode cX5_due 24 = .ok (.aload_n 0, 1) := by decide +kernel
theorem dX5_due_25 : decode cX5_due 25 = .ok (.iload_n 1, 1) := by decide +kernel
theorem dX5_due_26 : decode cX5_due 26 = .ok (.iload_n 2, 1) := by decide +kernel
theorem dX5_due_27 : decode cX5_due 27 = .ok (.invokevirtual 185, 3) := by decide +kernel
theorem dX5_due_30 : decode cX5_due 30 = .ok (.istore 4, 2) := by decide +kernel
theorem dX5_due_32 : decode cX5_due 32 = .ok (.iload 4, 2) := by decide +kernel
theorem dX5_due_34 : decode cX5_due 34 = .ok (.bipush (-9), 2) := by decide +kernel
theorem dX5_due_36 : decode cX5_due 36 = .ok (.if_icmp .ne 11, 3) := by decide +kernel
theorem dX5_due_39 : decode cX5_due 39 = .ok (.aload_n 0, 1) := by decide +kernel
theorem dX5_due_40 : decode cX5_due 40 = .ok (.iconst 4, 1) := by decide +kernel
theorem dX5_due_41 : decode cX5_due 41 = .ok (.invokevirtual 68, 3) := by decide +kernel
theorem dX5_due_44 : decode cX5_due 44 = .ok (.goto 25, 3) := by decide +kernel
theorem dX5_due_47 : decode cX5_due 47 = .ok (.aload_n 0, 1) := by decide +kernel
theorem dX5_due_48 : decode cX5_due 48 = .ok (.iload 4, 2) := by decide +kernel
theorem dX5_due_50 : decode cX5_due 50 = .ok (.bipush 100, 2) := by decide +kernel
theorem dX5_due_52 : decode cX5_due 52 = .ok (.iload_n 3, 1) := by decide +kernel
theorem dX5_due_53 : decode cX5_due 53 = .ok (.imul, 1) := by decide +kernel
theorem dX5_due_54 : decode cX5_due 54 = .ok (.iadd, 1) := by decide +kernel
theorem dX5_due_55 : decode cX5_due 55 = .ok (.aload_n 0, 1) := by decide +kernel
theorem dX5_due_56 : decode cX5_due 56 = .ok (.iload_n 2, 1) := by decide +kernel
theorem dX5_due_57 : decode cX5_due 57 = .ok (.sipush 1000, 3) := by decide +kernel
theorem dX5_due_60 : decode cX5_due 60 = .ok (.iload_n 3, 1) := by decide +kernel
theorem dX5_due_61 : decode cX5_due 61 = .ok (.imul, 1) := by decide +kernel
theorem dX5_due_62 : decode cX5_due 62 = .ok (.iadd, 1) := by decide +kernel
theorem dX5_due_63 : decode cX5_due 63 = .ok (.invokevirtual 163, 3) := by decide +kernel
theorem dX5_due_66 : decode cX5_due 66 = .ok (.invokevirtual 86, 3) := by decide +kernel
theorem dX5_due_69 : decode cX5_due 69 = .ok (.ireturn, 1) := by decide +kernel
theorem dX5_doesQuarrel_0 : decode cX5_doesQuarrel 0 = .ok (.aload_n 0, 1) := by decide +kernel
theorem dX5_doesQuarrel_1 : decode cX5_doesQuarrel 1 = .ok (.iload_n 1, 1) := by decide +kernel
theorem dX5_doesQuarrel_2 : decode cX5_doesQuarrel 2 = .ok (.iload_n 2, 1) := by decide +kernel
theorem dX5_doesQuarrel_3 : decode cX5_doesQuarrel 3 = .ok (.iconst 2, 1) := by decide +kernel
theorem dX5_doesQuarrel_4 : decode cX5_doesQuarrel 4 = .ok (.iadd, 1) := by decide +kernel
theorem dX5_doesQuarrel_5 : decode cX5_doesQuarrel 5 = .ok (.invokevirtual 82, 3) := by decide +kernel
theorem dX5_doesQuarrel_8 : decode cX5_doesQuarrel 8 = .ok (.istore_n 3, 1) := by decide +kernel
theorem dX5_doesQuarrel_9 : decode cX5_doesQuarrel 9 = .ok (.aload_n 0, 1) := by decide +kernel
theorem dX5_doesQuarrel_10 : decode cX5_doesQuarrel 10 = .ok (.aload_n 0, 1) := by decide +kernel
theorem dX5_doesQuarrel_11 : decode cX5_doesQuarrel 11 = .ok (.iload_n 1, 1) := by decide +kernel
theorem dX5_doesQuarrel_12 : decode cX5_doesQuarrel 12 = .ok (.iload_n 2, 1) := by decide +kernel
theorem dX5_doesQuarrel_13 : decode cX5_doesQuarrel 13 = .ok (.invokevirtual 82, 3) := by decide +kernel
theorem dX5_doesQuarrel_16 : decode cX5_doesQuarrel 16 = .ok (.aload_n 0, 1) := by decide +kernel
theorem dX5_doesQuarrel_17 : decode cX5_doesQuarrel 17 = .ok (.iload_n 1, 1) := by decide +kernel
theorem dX5_doesQuarrel_18 : decode cX5_doesQuarrel 18 = .ok (.iload_n 2, 1) := by decide +kernel
theorem dX5_doesQuarrel_19 : decode cX5_doesQuarrel 19 = .ok (.iconst 1, 1) := by decide +kernel
theorem dX5_doesQuarrel_20 : decode cX5_doesQuarrel 20 = .ok (.iadd, 1) := by decide +kernel
theorem dX5_doesQuarrel_21 : decode cX5_doesQuarrel 21 = .ok (.invokevirtual 82, 3) := by decide +kernel
theorem dX5_doesQuarrel_24 : decode cX5_doesQuarrel 24 = .ok (.invokevirtual 185, 3) := by decide +kernel
theorem dX5_doesQuarrel_27 : decode cX5_doesQuarrel 27 = .ok (.istore 4, 2) := by decide +kernel
theorem dX5_doesQuarrel_29 : decode cX5_doesQuarrel 29 = .ok (.iload 4, 2) := by decide +kernel
theorem dX5_doesQuarrel_31 : decode cX5_doesQuarrel 31 = .ok (.bipush (-9), 2) := by decide +kernel
theorem dX5_doesQuarrel_33 : decode cX5_doesQuarrel 33 = .ok (.if_icmp .eq 31, 3) := by decide +kernel
theorem dX5_doesQuarrel_36 : decode cX5_doesQuarrel 36 = .ok (.aload_n 0, 1) := by decide +kernel
theorem dX5_doesQuarrel_37 : decode cX5_doesQuarrel 37 = .ok (.aload_n 0, 1) := by decide +kernel
theorem dX5_doesQuarrel_38 : decode cX5_doesQuarrel 38 = .ok (.iload_n 1, 1) := by decide +kernel
theorem dX5_doesQuarrel_39 : decode cX5_doesQuarrel 39 = .ok (.iload_n 2, 1) := by decide +kernel
theorem dX5_doesQuarrel_40 : decode cX5_doesQuarrel 40 = .ok (.iconst 1, 1) := by decide +kernel
theorem dX5_doesQuarrel_41 : decode cX5_doesQuarrel 41 = .ok (.iadd, 1) := by decide +kernel
theorem dX5_doesQuarrel_42 : decode cX5_doesQuarrel 42 = .ok (.invokevirtual 82, 3) := by decide +kernel
theorem dX5_doesQuarrel_45 : decode cX5_doesQuarrel 45 = .ok (.sipush 1000, 3) := by decide +kernel
theorem dX5_doesQuarrel_48 : decode cX5_doesQuarrel 48 = .ok (.iload_n 3, 1) := by decide +kernel
theorem dX5_doesQuarrel_49 : decode cX5_doesQuarrel 49 = .ok (.imul, 1) := by decide +kernel
theorem dX5_doesQuarrel_50 : decode cX5_doesQuarrel 50 = .ok (.iadd, 1) := by decide +kernel
theorem dX5_doesQuarrel_51 : decode cX5_doesQuarrel 51 = .ok (.invokevirtual 163, 3) := by decide +kernel
theorem dX5_doesQuarrel_54 : decode cX5_doesQuarrel 54 = .ok (.iload 4, 2) := by decide +kernel
theorem dX5_doesQuarrel_56 : decode cX5_doesQuarrel 56 = .ok (.bipush 100, 2) := by decide +kernel
theorem dX5_doesQuarrel_58 : decode cX5_doesQuarrel 58 = .ok (.iload_n 3, 1) := by decide +kernel
theorem dX5_doesQuarrel_59 : decode cX5_doesQuarrel 59 = .ok (.imul, 1) := by decide +kernel
theorem dX5_doesQuarrel_60 : decode cX5_doesQuarrel 60 = .ok (.iadd, 1) := by decide +kernel
theorem dX5_doesQuarrel_61 : decode cX5_doesQuarrel 61 = .ok (.if_icmp .eq 7, 3) := by decide +kernel
theorem dX5_doesQuarrel_64 : decode cX5_doesQuarrel 64 = .ok (.iconst 1, 1) := by decide +kernel
theorem dX5_doesQuarrel_65 : decode cX5_doesQuarrel 65 = .ok (.goto 4, 3) := by decide +kernel
theorem dX5_doesQuarrel_68 : decode cX5_doesQuarrel 68 = .ok (.iconst 0, 1) := by decide +kernel
theorem dX5_doesQuarrel_69 : decode cX5_doesQuarrel 69 = .ok (.ireturn, 1) := by decide +kernel
theorem dX5_quarrelMany_0 : decode cX5_quarrelMany 0 = .ok (.iconst 0, 1) := by decide +kernel
theorem dX5_quarrelMany_1 : decode cX5_quarrelMany 1 = .ok (.istore_n 2, 1) := by decide +kernel
theorem dX5_quarrelMany_2 : decode cX5_quarrelMany 2 = .ok (.iconst 0, 1) := by decide +kernel
theorem dX5_quarrelMany_3 : decode cX5_quarrelMany 3 = .ok (.istore_n 3, 1) := by decide +kernel
theorem dX5_quarrelMany_4 : decode cX5_quarrelMany 4 = .ok (.iload_n 3, 1) := by decide +kernel
theorem dX5_quarrelMany_5 : decode cX5_quarrelMany 5 = .ok (.aload_n 0, 1) := by decide +kernel
theorem dX5_quarrelMany_6 : decode cX5_quarrelMany 6 = .ok (.getfield 17, 3) := by decide +kernel
theorem dX5_quarrelMany_9 : decode cX5_quarrelMany 9 = .ok (.iload_n 1, 1) := by decide +kernel
theorem dX5_quarrelMany_10 : decode cX5_quarrelMany 10 = .ok (.iaload, 1) := by decide +kernel
theorem dX5_quarrelMany_11 : decode cX5_quarrelMany 11 = .ok (.if_icmp .ge 26, 3) := by decide +kernel
theorem dX5_quarrelMany_14 : decode cX5_quarrelMany 14 = .ok (.iload_n 2, 1) := by decide +kernel
theorem dX5_quarrelMany_15 : decode cX5_quarrelMany 15 = .ok (.aload_n 0, 1) := by decide +kernel
theorem dX5_quarrelMany_16 : decode cX5_quarrelMany 16 = .ok (.iload_n 1, 1) := by decide +kernel
theorem dX5_quarrelMany_17 : decode cX5_quarrelMany 17 = .ok (.iload_n 3, 1) := by decide +kernel
theorem dX5_quarrelMany_18 : decode cX5_quarrelMany 18 = .ok (.invokevirtual 207, 3) := by decide +kernel
theorem dX5_quarrelMany_21 : decode cX5_quarrelMany 21 = .ok (.ifCond .eq 7, 3) := by decide +kernel
theorem dX5_quarrelMany_24 : decode cX5_quarrelMany 24 = .ok (.iconst 1, 1) := by decide +kernel
theorem dX5_quarrelMany_25 : decode cX5_quarrelMany 25 = .ok (.goto 4, 3) := by decide +kernel
theorem dX5_quarrelMany_28 : decode cX5_quarrelMany 28 = .ok (.iconst 0, 1) := by decide +kernel
theorem dX5_quarrelMany_29 : decode cX5_quarrelMany 29 = .ok (.iadd, 1) := by decide +kernel
theorem dX5_quarrelMany_30 : decode cX5_quarrelMany 30 = .ok (.istore_n 2, 1) := by decide +kernel
theorem dX5_quarrelMany_31 : decode cX5_quarrelMany 31 = .ok (.iinc 3 3, 3) := by decide +kernel
theorem dX5_quarrelMany_34 : decode cX5_quarrelMany 34 = .ok (.goto (-30), 3) := by decide +kernel
theorem dX5_quarrelMany_37 : decode cX5_quarrelMany 37 = .ok (.iload_n 2, 1) := by decide +kernel
theorem dX5_quarrelMany_38 : decode cX5_quarrelMany 38 = .ok (.ireturn, 1) := by decide +kernel
theorem dX5_askedContracts_0 : decode cX5_askedContracts 0 = .ok (.aload_n 0, 1) := by decide +kernel
theorem dX5_askedContracts_1 : decode cX5_askedContracts 1 = .ok (.iload_n 1, 1) := by decide +kernel
theorem dX5_askedContracts_2 : decode cX5_askedContracts 2 = .ok (.invokevirtual 79, 3) := by decide +kernel
theorem dX5_askedContracts_5 : decode cX5_askedContracts 5 = .ok (.istore_n 3, 1) := by decide +kernel
theorem dX5_askedContracts_6 : decode cX5_askedContracts 6 = .ok (.iload_n 3, 1) := by decide +kernel
theorem dX5_askedContracts_7 : decode cX5_askedContracts 7 = .ok (.ifCond .ge 5, 3) := by decide +kernel
theorem dX5_askedContracts_10 : decode cX5_askedContracts 10 = .ok (.iload_n 3, 1) := by decide +kernel
theorem dX5_askedContracts_11 : decode cX5_askedContracts 11 = .ok (.ireturn, 1) := by decide +kernel
theorem dX5_askedContracts_12 : decode cX5_askedContracts 12 = .ok (.aload_n 0, 1) := by decide +kernel
theorem dX5_askedContracts_13 : decode cX5_askedContracts 13 = .ok (.getfield 17, 3) := by decide +kernel
theorem dX5_askedContracts_16 : decode cX5_askedContracts 16 = .ok (.iload_n 1, 1) := by decide +kernel
theorem dX5_askedContracts_17 : decode cX5_askedContracts 17 = .ok (.iaload, 1) := by decide +kernel
theorem dX5_askedContracts_18 : decode cX5_askedContracts 18 = .ok (.iconst 3, 1) := by decide +kernel
theorem dX5_askedContracts_19 : decode cX5_askedContracts 19 = .ok (.irem, 1) := by decide +kernel
theorem dX5_askedContracts_20 : decode cX5_askedContracts 20 = .ok (.ifCond .eq 9, 3) := by decide +kernel
theorem dX5_askedContracts_23 : decode cX5_askedContracts 23 = .ok (.aload_n 0, 1) := by decide +kernel
theorem dX5_askedContracts_24 : decode cX5_askedContracts 24 = .ok (.iconst 5, 1) := by decide +kernel
theorem dX5_askedContracts_25 : decode cX5_askedContracts 25 = .ok (.invokevirtual 68, 3) := by decide +kernel
theorem dX5_askedContracts_28 : decode cX5_askedContracts 28 = .ok (.ireturn, 1) := by decide +kernel
theorem dX5_askedContracts_29 : decode cX5_askedContracts 29 = .ok (.iconst 0, 1) := by decide +kernel
theorem dX5_askedContracts_30 : decode cX5_askedContracts 30 = .ok (.istore 4, 2) := by decide +kernel
theorem dX5_askedContracts_32 : decode cX5_askedContracts 32 = .ok (.iload 4, 2) := by decide +kernel
theorem dX5_askedContracts_34 : decode cX5_askedContracts 34 = .ok (.aload_n 0, 1) := by decide +kernel
theorem dX5_askedContracts_35 : decode cX5_askedContracts 35 = .ok (.getfield 17, 3) := by decide +kernel
theorem dX5_askedContracts_38 : decode cX5_askedContracts 38 = .ok (.iload_n 1, 1) := by decide +kernel
theorem dX5_askedContracts_39 : decode cX5_askedContracts 39 = .ok (.iaload, 1) := by decide +kernel
theorem dX5_askedContracts_40 : decode cX5_askedContracts 40 = .ok (.if_icmp .ge 100, 3) := by decide +kernel
theorem dX5_askedContracts_43 : decode cX5_askedContracts 43 = .ok (.aload_n 0, 1) := by decide +kernel
theorem dX5_askedContracts_44 : decode cX5_askedContracts 44 = .ok (.aload_n 0, 1) := by decide +kernel
theorem dX5_askedContracts_45 : decode cX5_askedContracts 45 = .ok (.iload_n 1, 1) := by decide +kernel
theorem dX5_askedContracts_46 : decode cX5_askedContracts 46 = .ok (.iload 4, 2) := by decide +kernel
theorem dX5_askedContracts_48 : decode cX5_askedContracts 48 = .ok (.invokevirtual 82, 3) := by decide +kernel
theorem dX5_askedContracts_51 : decode cX5_askedContracts 51 = .ok (.invokevirtual 169, 3) := by decide +kernel
theorem dX5_askedContracts_54 : decode cX5_askedContracts 54 = .ok (.ifCond .eq 37, 3) := by decide +kernel
theorem dX5_askedContracts_57 : decode cX5_askedContracts 57 = .ok (.aload_n 0, 1) := by decide +kernel
theorem dX5_askedContracts_58 : decode cX5_askedContracts 58 = .ok (.iload_n 1, 1) := by decide +kernel
theorem dX5_askedContracts_59 : decode cX5_askedContracts 59 = .ok (.iload 4, 2) := by decide +kernel
theorem dX5_askedContracts_61 : decode cX5_askedContracts 61 = .ok (.iconst 1, 1) := by decide +kernel
theorem dX5_askedContracts_62 : decode cX5_askedContracts 62 = .ok (.iadd, 1) := by decide +kernel
theorem dX5_askedContracts_63 : decode cX5_askedContracts 63 = .ok (.invokevirtual 82, 3) := by decide +kernel
theorem dX5_askedContracts_66 : decode cX5_askedContracts 66 = .ok (.ifCond .lt 25, 3) := by decide +kernel
theorem dX5_askedContracts_69 : decode cX5_askedContracts 69 = .ok (.aload_n 0, 1) := by decide +kernel
theorem dX5_askedContracts_70 : decode cX5_askedContracts 70 = .ok (.iload_n 1, 1) := by decide +kernel
theorem dX5_askedContracts_71 : decode cX5_askedContracts 71 = .ok (.iload 4, 2) := by decide +kernel
theorem dX5_askedContracts_73 : decode cX5_askedContracts 73 = .ok (.iconst 2, 1) := by decide +kernel
theorem dX5_askedContracts_74 : decode cX5_askedContracts 74 = .ok (.iadd, 1) := by decide +kernel
theorem dX5_askedContracts_75 : decode cX5_askedContracts 75 = .ok (.invokevirtual 82, 3) := by decide +kernel
theorem dX5_askedContracts_78 : decode cX5_askedContracts 78 = .ok (.iconst 0, 1) := by decide +kernel
theorem dX5_askedContracts_79 : decode cX5_askedContracts 79 = .ok (.bipush 50, 2) := by decide +kernel
theorem dX5_askedContracts_81 : decode cX5_askedContracts 81 = .ok (.invokestatic 60, 3) := by decide +kernel
theorem dX5_askedContracts_84 : decode cX5_askedContracts 84 = .ok (.ifCond .eq 7, 3) := by decide +kernel
theorem dX5_askedContracts_87 : decode cX5_askedContracts 87 = .ok (.iconst 1, 1) := by decide +kernel
theorem dX5_askedContracts_88 : decode cX5_askedContracts 88 = .ok (.goto 4, 3) := by decide +kernel
theorem dX5_askedContracts_91 : decode cX5_askedContracts 91 = .ok (.iconst 0, 1) := by decide +kernel
theorem dX5_askedContracts_92 : decode cX5_askedContracts 92 = .ok (.istore 5, 2) := by decide +kernel
theorem dX5_askedContracts_94 : decode cX5_askedContracts 94 = .ok (.iload 5, 2) := by decide +kernel
theorem dX5_askedContracts_96 : decode cX5_askedContracts 96 = .ok (.ifCond .eq 32, 3) := by decide +kernel
theorem dX5_askedContracts_99 : decode cX5_askedContracts 99 = .ok (.iload_n 2, 1) := by decide +kernel
theorem dX5_askedContracts_100 : decode cX5_askedContracts 100 = .ok (.ifCond .eq 34, 3) := by decide +kernel
theorem dX5_askedContracts_103 : decode cX5_askedContracts 103 = .ok (.aload_n 0, 1) := by decide +kernel
theorem dX5_askedContracts_104 : decode cX5_askedContracts 104 = .ok (.aload_n 0, 1) := by decide +kernel
theorem dX5_askedContracts_105 : decode cX5_askedContracts 105 = .ok (.iload_n 1, 1) := by decide +kernel
theorem dX5_askedContracts_106 : decode cX5_askedContracts 106 = .ok (.iload 4, 2) := by decide +kernel
theorem dX5_askedContracts_108 : decode cX5_askedContracts 108 = .ok (.invokevirtual 82, 3) := by decide +kernel
theorem dX5_askedContracts_111 : decode cX5_askedContracts 111 = .ok (.aload_n 0, 1) := by decide +kernel
theorem dX5_askedContracts_112 : decode cX5_askedContracts 112 = .ok (.iload_n 1, 1) := by decide +kernel
theorem dX5_askedContracts_113 : decode cX5_askedContracts 113 = .ok (.iload 4, 2) := by decide +kernel
theorem dX5_askedContracts_115 : decode cX5_askedContracts 115 = .ok (.iconst 1, 1) := by decide +kernel
theorem dX5_askedContracts_116 : decode cX5_askedContracts 116 = .ok (.iadd, 1) := by decide +kernel
theorem dX5_askedContracts_117 : decode cX5_askedContracts 117 = .ok (.invokevirtual 82, 3) := by decide +kernel
theorem dX5_askedContracts_120 : decode cX5_askedContracts 120 = .ok (.invokevirtual 185, 3) := by decide +kernel
theorem dX5_askedContracts_123 : decode cX5_askedContracts 123 = .ok (.bipush (-9), 2) := by decide +kernel
theorem dX5_askedContracts_125 : decode cX5_askedContracts 125 = .ok (.if_icmp .ne 9, 3) := by decide +kernel
theorem dX5_askedContracts_128 : decode cX5_askedContracts 128 = .ok (.aload_n 0, 1) := by decide +kernel
theorem dX5_askedContracts_129 : decode cX5_askedContracts 129 = .ok (.iconst 3, 1) := by decide +kernel
theorem dX5_askedContracts_130 : decode cX5_askedContracts 130 = .ok (.invokevirtual 68, 3) := by decide +kernel
theorem dX5_askedContracts_133 : decode cX5_askedContracts 133 = .ok (.ireturn, 1) := by decide +kernel
theorem dX5_askedContracts_134 : decode cX5_askedContracts 134 = .ok (.iinc 4 3, 3) := by decide +kernel
theorem dX5_askedContracts_137 : decode cX5_askedContracts 137 = .ok (.goto (-105), 3) := by decide +kernel
theorem dX5_askedContracts_140 : decode cX5_askedContracts 140 = .ok (.iconst 0, 1) := by decide +kernel
theorem dX5_askedContracts_141 : decode cX5_askedContracts 141 = .ok (.ireturn, 1) := by decide +kernel
theorem dX5_quarrels_0 : decode cX5_quarrels 0 = .ok (.aload_n 0, 1) := by decide +kernel
theorem dX5_quarrels_1 : decode cX5_quarrels 1 = .ok (.iload_n 1, 1) := by decide +kernel
theorem dX5_quarrels_2 : decode cX5_quarrels 2 = .ok (.iconst 1, 1) := by decide +kernel
theorem dX5_quarrels_3 : decode cX5_quarrels 3 = .ok (.invokevirtual 210, 3) := by decide +kernel
theorem dX5_quarrels_6 : decode cX5_quarrels 6 = .ok (.istore_n 2, 1) := by decide +kernel
theorem dX5_quarrels_7 : decode cX5_quarrels 7 = .ok (.iload_n 2, 1) := by decide +kernel
theorem dX5_quarrels_8 : decode cX5_quarrels 8 = .ok (.ifCond .ge 5, 3) := by decide +kernel
theorem dX5_quarrels_11 : decode cX5_quarrels 11 = .ok (.iload_n 2, 1) := by decide +kernel
theorem dX5_quarrels_12 : decode cX5_quarrels 12 = .ok (.ireturn, 1) := by decide +kernel
theorem dX5_quarrels_13 : decode cX5_quarrels 13 = .ok (.bipush (-9), 2) := by decide +kernel
theorem dX5_quarrels_15 : decode cX5_quarrels 15 = .ok (.istore_n 3, 1) := by decide +kernel
theorem dX5_quarrels_16 : decode cX5_quarrels 16 = .ok (.aload_n 0, 1) := by decide +kernel
theorem dX5_quarrels_17 : decode cX5_quarrels 17 = .ok (.getfield 17, 3) := by decide +kernel
theorem dX5_quarrels_20 : decode cX5_quarrels 20 = .ok (.iload_n 1, 1) := by decide +kernel
theorem dX5_quarrels_21 : decode cX5_quarrels 21 = .ok (.iaload, 1) := by decide +kernel
theorem dX5_quarrels_22 : decode cX5_quarrels 22 = .ok (.iconst 3, 1) := by decide +kernel
theorem dX5_quarrels_23 : decode cX5_quarrels 23 = .ok (.isub, 1) := by decide +kernel
theorem dX5_quarrels_24 : decode cX5_quarrels 24 = .ok (.istore 4, 2) := by decide +kernel
theorem dX5_quarrels_26 : decode cX5_quarrels 26 = .ok (.iload 4, 2) := by decide +kernel
theorem dX5_quarrels_28 : decode cX5_quarrels 28 = .ok (.ifCond .lt 28, 3) := by decide +kernel
theorem dX5_quarrels_31 : decode cX5_quarrels 31 = .ok (.aload_n 0, 1) := by decide +kernel
theorem dX5_quarrels_32 : decode cX5_quarrels 32 = .ok (.iload_n 1, 1) := by decide +kernel
theorem dX5_quarrels_33 : decode cX5_quarrels 33 = .ok (.iload 4, 2) := by decide +kernel
theorem dX5_quarrels_35 : decode cX5_quarrels 35 = .ok (.invokevirtual 207, 3) := by decide +kernel
theorem dX5_quarrels_38 : decode cX5_quarrels 38 = .ok (.ifCond .eq 10, 3) := by decide +kernel
theorem dX5_quarrels_41 : decode cX5_quarrels 41 = .ok (.iload 4, 2) := by decide +kernel
theorem dX5_quarrels_43 : decode cX5_quarrels 43 = .ok (.iconst 3, 1) := by decide +kernel
theorem dX5_quarrels_44 : decode cX5_quarrels 44 = .ok (.idiv, 1) := by decide +kernel
theorem dX5_quarrels_45 : decode cX5_quarrels 45 = .ok (.goto 4, 3) := by decide +kernel
theorem dX5_quarrels_48 : decode cX5_quarrels 48 = .ok (.iload_n 3, 1) := by decide +kernel
theorem dX5_quarrels_49 : decode cX5_quarrels 49 = .ok (.istore_n 3, 1) := by decide +kernel
theorem dX5_quarrels_50 : decode cX5_quarrels 50 = .ok (.iinc 4 (-3), 3) := by decide +kernel
theorem dX5_quarrels_53 : decode cX5_quarrels 53 = .ok (.goto (-27), 3) := by decide +kernel
theorem dX5_quarrels_56 : decode cX5_quarrels 56 = .ok (.aload_n 0, 1) := by decide +kernel
theorem dX5_quarrels_57 : decode cX5_quarrels 57 = .ok (.iload_n 3, 1) := by decide +kernel
theorem dX5_quarrels_58 : decode cX5_quarrels 58 = .ok (.aload_n 0, 1) := by decide +kernel
theorem dX5_quarrels_59 : decode cX5_quarrels 59 = .ok (.iload_n 1, 1) := by decide +kernel
theorem dX5_quarrels_60 : decode cX5_quarrels 60 = .ok (.invokevirtual 214, 3) := by decide +kernel
theorem dX5_quarrels_63 : decode cX5_quarrels 63 = .ok (.invokevirtual 86, 3) := by decide +kernel
theorem dX5_quarrels_66 : decode cX5_quarrels 66 = .ok (.ireturn, 1) := by decide +kernel
theorem dX5_change_0 : decode cX5_change 0 = .ok (.aload_n 0, 1) := by decide +kernel
theorem dX5_change_1 : decode cX5_change 1 = .ok (.iload_n 1, 1) := by decide +kernel
theorem dX5_change_2 : decode cX5_change 2 = .ok (.invokevirtual 169, 3) := by decide +kernel
theorem dX5_change_5 : decode cX5_change 5 = .ok (.ifCond .eq 37, 3) := by decide +kernel
theorem dX5_change_8 : decode cX5_change 8 = .ok (.iload_n 2, 1) := by decide +kernel
theorem dX5_change_9 : decode cX5_change 9 = .ok (.invokestatic 64, 3) := by decide +kernel
theorem dX5_change_12 : decode cX5_change 12 = .ok (.ifCond .eq 30, 3) := by decide +kernel
theorem dX5_change_15 : decode cX5_change 15 = .ok (.iload_n 3, 1) := by decide +kernel
theorem dX5_change_16 : decode cX5_change 16 = .ok (.ifCond .lt 26, 3) := by decide +kernel
theorem dX5_change_19 : decode cX5_change 19 = .ok (.iload_n 3, 1) := by decide +kernel
theorem dX5_change_20 : decode cX5_change 20 = .ok (.iload 4, 2) := by decide +kernel
theorem dX5_change_22 : decode cX5_change 22 = .ok (.if_icmp .gt 20, 3) := by decide +kernel
theorem dX5_change_25 : decode cX5_change 25 = .ok (.iload 4, 2) := by decide +kernel
theorem dX5_change_27 : decode cX5_change 27 = .ok (.sipush 9999, 3) := by decide +kernel
theorem dX5_change_30 : decode cX5_change 30 = .ok (.if_icmp .gt 12, 3) := by decide +kernel
theorem dX5_change_33 : decode cX5_change 33 = .ok (.iload 4, 2) := by decide +kernel
theorem dX5_change_35 : decode cX5_change 35 = .ok (.iload_n 3, 1) := by decide +kernel
theorem dX5_change_36 : decode cX5_change 36 = .ok (.isub, 1) := by decide +kernel
theorem dX5_change_37 : decode cX5_change 37 = .ok (.bipush 100, 2) := by decide +kernel
theorem dX5_change_39 : decode cX5_change 39 = .ok (.if_icmp .lt 5, 3) := by decide +kernel
theorem dX5_change_42 : decode cX5_change 42 = .ok (.iconst (-1), 1) := by decide +kernel
theorem dX5_change_43 : decode cX5_change 43 = .ok (.ireturn, 1) := by decide +kernel
theorem dX5_change_44 : decode cX5_change 44 = .ok (.aload_n 0, 1) := by decide +kernel
theorem dX5_change_45 : decode cX5_change 45 = .ok (.iload_n 2, 1) := by decide +kernel
theorem dX5_change_46 : decode cX5_change 46 = .ok (.iconst 0, 1) := by decide +kernel
theorem dX5_change_47 : decode cX5_change 47 = .ok (.invokevirtual 210, 3) := by decide +kernel
theorem dX5_change_50 : decode cX5_change 50 = .ok (.istore 5, 2) := by decide +kernel
theorem dX5_change_52 : decode cX5_change 52 = .ok (.iload 5, 2) := by decide +kernel
theorem dX5_change_54 : decode cX5_change 54 = .ok (.ifCond .ge 6, 3) := by decide +kernel
theorem dX5_change_57 : decode cX5_change 57 = .ok (.iload 5, 2) := by decide +kernel
theorem dX5_change_59 : decode cX5_change 59 = .ok (.ireturn, 1) := by decide +kernel
theorem dX5_change_60 : decode cX5_change 60 = .ok (.aload_n 0, 1) := by decide +kernel
theorem dX5_change_61 : decode cX5_change 61 = .ok (.getfield 38, 3) := by decide +kernel
theorem dX5_change_64 : decode cX5_change 64 = .ok (.iload_n 1, 1) := by decide +kernel
theorem dX5_change_65 : decode cX5_change 65 = .ok (.iaload, 1) := by decide +kernel
theorem dX5_change_66 : decode cX5_change 66 = .ok (.istore 6, 2) := by decide +kernel
theorem dX5_change_68 : decode cX5_change 68 = .ok (.iload_n 3, 1) := by decide +kernel
theorem dX5_change_69 : decode cX5_change 69 = .ok (.istore 7, 2) := by decide +kernel
theorem dX5_change_71 : decode cX5_change 71 = .ok (.bipush 40, 2) := by decide +kernel
theorem dX5_change_73 : decode cX5_change 73 = .ok (.istore 8, 2) := by decide +kernel
theorem dX5_change_75 : decode cX5_change 75 = .ok (.iload_n 3, 1) := by decide +kernel
theorem dX5_change_76 : decode cX5_change 76 = .ok (.istore 9, 2) := by decide +kernel
theorem dX5_change_78 : decode cX5_change 78 = .ok (.iload 9, 2) := by decide +kernel
theorem dX5_change_80 : decode cX5_change 80 = .ok (.iload 4, 2) := by decide +kernel
theorem dX5_change_82 : decode cX5_change 82 = .ok (.if_icmp .gt 56, 3) := by decide +kernel
theorem dX5_change_85 : decode cX5_change 85 = .ok (.aload_n 0, 1) := by decide +kernel
theorem dX5_change_86 : decode cX5_change 86 = .ok (.getfield 38, 3) := by decide +kernel
theorem dX5_change_89 : decode cX5_change 89 = .ok (.iload_n 1, 1) := by decide +kernel
theorem dX5_change_90 : decode cX5_change 90 = .ok (.iload 9, 2) := by decide +kernel
theorem dX5_change_92 : decode cX5_change 92 = .ok (.iastore, 1) := by decide +kernel
theorem dX5_change_93 : decode cX5_change 93 = .ok (.aload_n 0, 1) := by decide +kernel
theorem dX5_change_94 : decode cX5_change 94 = .ok (.iload_n 2, 1) := by decide +kernel
theorem dX5_change_95 : decode cX5_change 95 = .ok (.invokevirtual 214, 3) := by decide +kernel
theorem dX5_change_98 : decode cX5_change 98 = .ok (.istore 10, 2) := by decide +kernel
theorem dX5_change_100 : decode cX5_change 100 = .ok (.iload 10, 2) := by decide +kernel
theorem dX5_change_102 : decode cX5_change 102 = .ok (.iload 8, 2) := by decide +kernel
theorem dX5_change_104 : decode cX5_change 104 = .ok (.if_icmp .ge 8, 3) := by decide +kernel
theorem dX5_change_107 : decode cX5_change 107 = .ok (.iload 9, 2) := by decide +kernel
theorem dX5_change_109 : decode cX5_change 109 = .ok (.goto 5, 3) := by decide +kernel
theorem dX5_change_112 : decode cX5_change 112 = .ok (.iload 7, 2) := by decide +kernel
theorem dX5_change_114 : decode cX5_change 114 = .ok (.istore 7, 2) := by decide +kernel
theorem dX5_change_116 : decode cX5_change 116 = .ok (.iload 10, 2) := by decide +kernel
theorem dX5_change_118 : decode cX5_change 118 = .ok (.iload 8, 2) := by decide +kernel
theorem dX5_change_120 : decode cX5_change 120 = .ok (.if_icmp .ge 8, 3) := by decide +kernel
theorem dX5_change_123 : decode cX5_change 123 = .ok (.iload 10, 2) := by decide +kernel
theorem dX5_change_125 : decode cX5_change 125 = .ok (.goto 5, 3) := by decide +kernel
theorem dX5_change_128 : decode cX5_change 128 = .ok (.iload 8, 2) := by decide +kernel
theorem dX5_change_130 : decode cX5_change 130 = .ok (.istore 8, 2) := by decide +kernel
theorem dX5_change_132 : decode cX5_change 132 = .ok (.iinc 9 1, 3) := by decide +kernel
theorem dX5_change_135 : decode cX5_change 135 = .ok (.goto (-57), 3) := by decide +kernel
theorem dX5_change_138 : decode cX5_change 138 = .ok (.aload_n 0, 1) := by decide +kernel
theorem dX5_change_139 : decode cX5_change 139 = .ok (.getfield 38, 3) := by decide +kernel
theorem dX5_change_142 : decode cX5_change 142 = .ok (.iload_n 1, 1) := by decide +kernel
theorem dX5_change_143 : decode cX5_change 143 = .ok (.iload 6, 2) := by decide +kernel
theorem dX5_change_145 : decode cX5_change 145 = .ok (.iastore, 1) := by decide +kernel
theorem dX5_change_146 : decode cX5_change 146 = .ok (.aload_n 0, 1) := by decide +kernel
theorem dX5_change_147 : decode cX5_change 147 = .ok (.iload 8, 2) := by decide +kernel
theorem dX5_change_149 : decode cX5_change 149 = .ok (.iload 7, 2) := by decide +kernel
theorem dX5_change_151 : decode cX5_change 151 = .ok (.invokevirtual 86, 3) := by decide +kernel
theorem dX5_change_154 : decode cX5_change 154 = .ok (.ireturn, 1) := by decide +kernel
theorem dX5_rent_0 : decode cX5_rent 0 = .ok (.aload_n 0, 1) := by decide +kernel
theorem dX5_rent_1 : decode cX5_rent 1 = .ok (.iload_n 1, 1) := by decide +kernel
theorem dX5_rent_2 : decode cX5_rent 2 = .ok (.invokevirtual 169, 3) := by decide +kernel
theorem dX5_rent_5 : decode cX5_rent 5 = .ok (.ifCond .eq 33, 3) := by decide +kernel
theorem dX5_rent_8 : decode cX5_rent 8 = .ok (.iload_n 2, 1) := by decide +kernel
theorem dX5_rent_9 : decode cX5_rent 9 = .ok (.iconst 0, 1) := by decide +kernel
theorem dX5_rent_10 : decode cX5_rent 10 = .ok (.sipush 9999, 3) := by decide +kernel
theorem dX5_rent_13 : decode cX5_rent 13 = .ok (.invokestatic 60, 3) := by decide +kernel
theorem dX5_rent_16 : decode cX5_rent 16 = .ok (.ifCond .eq 22, 3) := by decide +kernel
theorem dX5_rent_19 : decode cX5_rent 19 = .ok (.iload_n 3, 1) := by decide +kernel
theorem dX5_rent_20 : decode cX5_rent 20 = .ok (.iload 4, 2) := by decide +kernel
theorem dX5_rent_22 : decode cX5_rent 22 = .ok (.invokestatic 191, 3) := by decide +kernel
theorem dX5_rent_25 : decode cX5_rent 25 = .ok (.ifCond .eq 13, 3) := by decide +kernel
theorem dX5_rent_28 : decode cX5_rent 28 = .ok (.iload 4, 2) := by decide +kernel
theorem dX5_rent_30 : decode cX5_rent 30 = .ok (.iload_n 3, 1) := by decide +kernel
theorem dX5_rent_31 : decode cX5_rent 31 = .ok (.isub, 1) := by decide +kernel
theorem dX5_rent_32 : decode cX5_rent 32 = .ok (.sipush 400, 3) := by decide +kernel
theorem dX5_rent_35 : decode cX5_rent 35 = .ok (.if_icmp .le 5, 3) := by decide +kernel
theorem dX5_rent_38 : decode cX5_rent 38 = .ok (.iconst (-1), 1) := by decide +kernel
theorem dX5_rent_39 : decode cX5_rent 39 = .ok (.ireturn, 1) := by decide +kernel
theorem dX5_rent_40 : decode cX5_rent 40 = .ok (.ldc2_w 217, 3) := by decide +kernel
theorem dX5_rent_43 : decode cX5_rent 43 = .ok (.lstore 5, 2) := by decide +kernel
theorem dX5_rent_45 : decode cX5_rent 45 = .ok (.lconst 0, 1) := by decide +kernel
theorem dX5_rent_46 : decode cX5_rent 46 = .ok (.lstore 7, 2) := by decide +kernel
theorem dX5_rent_48 : decode cX5_rent 48 = .ok (.iload_n 3, 1) := by decide +kernel
theorem dX5_rent_49 : decode cX5_rent 49 = .ok (.istore 9, 2) := by decide +kernel
theorem dX5_rent_51 : decode cX5_rent 51 = .ok (.iload 9, 2) := by decide +kernel
theorem dX5_rent_53 : decode cX5_rent 53 = .ok (.iload 4, 2) := by decide +kernel
theorem dX5_rent_55 : decode cX5_rent 55 = .ok (.if_icmp .ge 36, 3) := by decide +kernel
theorem dX5_rent_58 : decode cX5_rent 58 = .ok (.lload 7, 2) := by decide +kernel
theorem dX5_rent_60 : decode cX5_rent 60 = .ok (.iload_n 2, 1) := by decide +kernel
theorem dX5_rent_61 : decode cX5_rent 61 = .ok (.i2l, 1) := by decide +kernel
theorem dX5_rent_62 : decode cX5_rent 62 = .ok (.lload 5, 2) := by decide +kernel
theorem dX5_rent_64 : decode cX5_rent 64 = .ok (.aload_n 0, 1) := by decide +kernel
theorem dX5_rent_65 : decode cX5_rent 65 = .ok (.aload_n 0, 1) := by decide +kernel
theorem dX5_rent_66 : decode cX5_rent 66 = .ok (.iload_n 1, 1) := by decide +kernel
theorem dX5_rent_67 : decode cX5_rent 67 = .ok (.iload 9, 2) := by decide +kernel
theorem dX5_rent_69 : decode cX5_rent 69 = .ok (.invokevirtual 166, 3) := by decide +kernel
theorem dX5_rent_72 : decode cX5_rent 72 = .ok (.sipush 1000, 3) := by decide +kernel
theorem dX5_rent_75 : decode cX5_rent 75 = .ok (.idiv, 1) := by decide +kernel
theorem dX5_rent_76 : decode cX5_rent 76 = .ok (.invokevirtual 160, 3) := by decide +kernel
theorem dX5_rent_79 : decode cX5_rent 79 = .ok (.i2l, 1) := by decide +kernel
theorem dX5_rent_80 : decode cX5_rent 80 = .ok (.ldiv, 1) := by decide +kernel
theorem dX5_rent_81 : decode cX5_rent 81 = .ok (.lmul, 1) := by decide +kernel
theorem dX5_rent_82 : decode cX5_rent 82 = .ok (.ladd, 1) := by decide +kernel
theorem dX5_rent_83 : decode cX5_rent 83 = .ok (.lstore 7, 2) := by decide +kernel
theorem dX5_rent_85 : decode cX5_rent 85 = .ok (.iinc 9 1, 3) := by decide +kernel
theorem dX5_rent_88 : decode cX5_rent 88 = .ok (.goto (-37), 3) := by decide +kernel
theorem dX5_rent_91 : decode cX5_rent 91 = .ok (.aload_n 0, 1) := by decide +kernel
theorem dX5_rent_92 : decode cX5_rent 92 = .ok (.lload 7, 2) := by decide +kernel
theorem dX5_rent_94 : decode cX5_rent 94 = .ok (.lload 5, 2) := by decide +kernel
theorem dX5_rent_96 : decode cX5_rent 96 = .ok (.invokevirtual 219, 3) := by decide +kernel
theorem dX5_rent_99 : decode cX5_rent 99 = .ok (.ireturn, 1) := by decide +kernel
theorem dX5_voyage_0 : decode cX5_voyage 0 = .ok (.aload_n 0, 1) := by decide +kernel
theorem dX5_voyage_1 : decode cX5_voyage 1 = .ok (.iload_n 1, 1) := by decide +kernel
theorem dX5_voyage_2 : decode cX5_voyage 2 = .ok (.invokevirtual 169, 3) := by decide +kernel
theorem dX5_voyage_5 : decode cX5_voyage 5 = .ok (.ifCond .eq 30, 3) := by decide +kernel
theorem dX5_voyage_8 : decode cX5_voyage 8 = .ok (.aload_n 0, 1) := by decide +kernel
theorem dX5_voyage_9 : decode cX5_voyage 9 = .ok (.iload_n 2, 1) := by decide +kernel
theorem dX5_voyage_10 : decode cX5_voyage 10 = .ok (.invokevirtual 169, 3) := by decide +kernel
theorem dX5_voyage_13 : decode cX5_voyage 13 = .ok (.ifCond .eq 22, 3) := by decide +kernel
theorem dX5_voyage_16 : decode cX5_voyage 16 = .ok (.iload_n 3, 1) := by decide +kernel
theorem dX5_voyage_17 : decode cX5_voyage 17 = .ok (.invokestatic 122, 3) := by decide +kernel
theorem dX5_voyage_20 : decode cX5_voyage 20 = .ok (.ifCond .eq 15, 3) := by decide +kernel
theorem dX5_voyage_23 : decode cX5_voyage 23 = .ok (.iload 4, 2) := by decide +kernel
theorem dX5_voyage_25 : decode cX5_voyage 25 = .ok (.iconst 0, 1) := by decide +kernel
theorem dX5_voyage_26 : decode cX5_voyage 26 = .ok (.sipush 999, 3) := by decide +kernel
theorem dX5_voyage_29 : decode cX5_voyage 29 = .ok (.invokestatic 60, 3) := by decide +kernel
theorem dX5_voyage_32 : decode cX5_voyage 32 = .ok (.ifCond .ne 5, 3) := by decide +kernel
theorem dX5_voyage_35 : decode cX5_voyage 35 = .ok (.iconst (-1), 1) := by decide +kernel
theorem dX5_voyage_36 : decode cX5_voyage 36 = .ok (.ireturn, 1) := by decide +kernel
theorem dX5_voyage_37 : decode cX5_voyage 37 = .ok (.iload_n 3, 1) := by decide +kernel
theorem dX5_voyage_38 : decode cX5_voyage 38 = .ok (.iload 4, 2) := by decide +kernel
theorem dX5_voyage_40 : decode cX5_voyage 40 = .ok (.iadd, 1) := by decide +kernel
theorem dX5_voyage_41 : decode cX5_voyage 41 = .ok (.sipush 19999, 3) := by decide +kernel
theorem dX5_voyage_44 : decode cX5_voyage 44 = .ok (.if_icmp .le 6, 3) := by decide +kernel
theorem dX5_voyage_47 : decode cX5_voyage 47 = .ok (.bipush (-6), 2) := by decide +kernel
theorem dX5_voyage_49 : decode cX5_voyage 49 = .ok (.ireturn, 1) := by decide +kernel
theorem dX5_voyage_50 : decode cX5_voyage 50 = .ok (.aload_n 0, 1) := by decide +kernel
theorem dX5_voyage_51 : decode cX5_voyage 51 = .ok (.iload_n 1, 1) := by decide +kernel
theorem dX5_voyage_52 : decode cX5_voyage 52 = .ok (.iload_n 3, 1) := by decide +kernel
theorem dX5_voyage_53 : decode cX5_voyage 53 = .ok (.invokevirtual 201, 3) := by decide +kernel
theorem dX5_voyage_56 : decode cX5_voyage 56 = .ok (.istore 5, 2) := by decide +kernel
theorem dX5_voyage_58 : decode cX5_voyage 58 = .ok (.aload_n 0, 1) := by decide +kernel
theorem dX5_voyage_59 : decode cX5_voyage 59 = .ok (.aload_n 0, 1) := by decide +kernel
theorem dX5_voyage_60 : decode cX5_voyage 60 = .ok (.iload_n 2, 1) := by decide +kernel
theorem dX5_voyage_61 : decode cX5_voyage 61 = .ok (.iload_n 3, 1) := by decide +kernel
theorem dX5_voyage_62 : decode cX5_voyage 62 = .ok (.iload 4, 2) := by decide +kernel
theorem dX5_voyage_64 : decode cX5_voyage 64 = .ok (.iadd, 1) := by decide +kernel
theorem dX5_voyage_65 : decode cX5_voyage 65 = .ok (.invokevirtual 201, 3) := by decide +kernel
theorem dX5_voyage_68 : decode cX5_voyage 68 = .ok (.iload 5, 2) := by decide +kernel
theorem dX5_voyage_70 : decode cX5_voyage 70 = .ok (.isub, 1) := by decide +kernel
theorem dX5_voyage_71 : decode cX5_voyage 71 = .ok (.iconst 1, 1) := by decide +kernel
theorem dX5_voyage_72 : decode cX5_voyage 72 = .ok (.invokevirtual 86, 3) := by decide +kernel
theorem dX5_voyage_75 : decode cX5_voyage 75 = .ok (.ireturn, 1) := by decide +kernel
theorem dX5_dated_0 : decode cX5_dated 0 = .ok (.iload_n 1, 1) := by decide +kernel
theorem dX5_dated_1 : decode cX5_dated 1 = .ok (.ifCond .lt 11, 3) := by decide +kernel
theorem dX5_dated_4 : decode cX5_dated 4 = .ok (.iload_n 2, 1) := by decide +kernel
theorem dX5_dated_5 : decode cX5_dated 5 = .ok (.iload_n 3, 1) := by decide +kernel
theorem dX5_dated_6 : decode cX5_dated 6 = .ok (.invokestatic 191, 3) := by decide +kernel
theorem dX5_dated_9 : decode cX5_dated 9 = .ok (.ifCond .ne 5, 3) := by decide +kernel
theorem dX5_dated_12 : decode cX5_dated 12 = .ok (.iconst (-1), 1) := by decide +kernel
theorem dX5_dated_13 : decode cX5_dated 13 = .ok (.ireturn, 1) := by decide +kernel
theorem dX5_dated_14 : decode cX5_dated 14 = .ok (.iconst 0, 1) := by decide +kernel
theorem dX5_dated_15 : decode cX5_dated 15 = .ok (.istore 4, 2) := by decide +kernel
theorem dX5_dated_17 : decode cX5_dated 17 = .ok (.iconst 0, 1) := by decide +kernel
theorem dX5_dated_18 : decode cX5_dated 18 = .ok (.istore 5, 2) := by decide +kernel
theorem dX5_dated_20 : decode cX5_dated 20 = .ok (.iload 5, 2) := by decide +kernel
theorem dX5_dated_22 : decode cX5_dated 22 = .ok (.aload_n 0, 1) := by decide +kernel
theorem dX5_dated_23 : decode cX5_dated 23 = .ok (.getfield 116, 3) := by decide +kernel
theorem dX5_dated_26 : decode cX5_dated 26 = .ok (.if_icmp .ge 48, 3) := by decide +kernel
theorem dX5_dated_29 : decode cX5_dated 29 = .ok (.aload_n 0, 1) := by decide +kernel
theorem dX5_dated_30 : decode cX5_dated 30 = .ok (.iload 5, 2) := by decide +kernel
theorem dX5_dated_32 : decode cX5_dated 32 = .ok (.iload_n 1, 1) := by decide +kernel
theorem dX5_dated_33 : decode cX5_dated 33 = .ok (.invokevirtual 185, 3) := by decide +kernel
theorem dX5_dated_36 : decode cX5_dated 36 = .ok (.istore 6, 2) := by decide +kernel
theorem dX5_dated_38 : decode cX5_dated 38 = .ok (.iload 4, 2) := by decide +kernel
theorem dX5_dated_40 : decode cX5_dated 40 = .ok (.iload 6, 2) := by decide +kernel
theorem dX5_dated_42 : decode cX5_dated 42 = .ok (.bipush (-9), 2) := by decide +kernel
theorem dX5_dated_44 : decode cX5_dated 44 = .ok (.if_icmp .eq 20, 3) := by decide +kernel
theorem dX5_dated_47 : decode cX5_dated 47 = .ok (.iload 6, 2) := by decide +kernel
theorem dX5_dated_49 : decode cX5_dated 49 = .ok (.iload_n 2, 1) := by decide +kernel
theorem dX5_dated_50 : decode cX5_dated 50 = .ok (.iload_n 3, 1) := by decide +kernel
theorem dX5_dated_51 : decode cX5_dated 51 = .ok (.invokestatic 60, 3) := by decide +kernel
theorem dX5_dated_54 : decode cX5_dated 54 = .ok (.ifCond .eq 10, 3) := by decide +kernel
theorem dX5_dated_57 : decode cX5_dated 57 = .ok (.iconst 1, 1) := by decide +kernel
theorem dX5_dated_58 : decode cX5_dated 58 = .ok (.iload 5, 2) := by decide +kernel
theorem dX5_dated_60 : decode cX5_dated 60 = .ok (.ishl, 1) := by decide +kernel
theorem dX5_dated_61 : decode cX5_dated 61 = .ok (.goto 4, 3) := by decide +kernel
theorem dX5_dated_64 : decode cX5_dated 64 = .ok (.iconst 0, 1) := by decide +kernel
theorem dX5_dated_65 : decode cX5_dated 65 = .ok (.ior, 1) := by decide +kernel
theorem dX5_dated_66 : decode cX5_dated 66 = .ok (.istore 4, 2) := by decide +kernel
theorem dX5_dated_68 : decode cX5_dated 68 = .ok (.iinc 5 1, 3) := by decide +kernel
theorem dX5_dated_71 : decode cX5_dated 71 = .ok (.goto (-51), 3) := by decide +kernel
theorem dX5_dated_74 : decode cX5_dated 74 = .ok (.iload 4, 2) := by decide +kernel
theorem dX5_dated_76 : decode cX5_dated 76 = .ok (.ireturn, 1) := by decide +kernel
theorem dX5_kinds_0 : decode cX5_kinds 0 = .ok (.aload_n 0, 1) := by decide +kernel
theorem dX5_kinds_1 : decode cX5_kinds 1 = .ok (.iload_n 1, 1) := by decide +kernel
theorem dX5_kinds_2 : decode cX5_kinds 2 = .ok (.invokevirtual 169, 3) := by decide +kernel
theorem dX5_kinds_5 : decode cX5_kinds 5 = .ok (.ifCond .ne 5, 3) := by decide +kernel
theorem dX5_kinds_8 : decode cX5_kinds 8 = .ok (.iconst (-1), 1) := by decide +kernel
theorem dX5_kinds_9 : decode cX5_kinds 9 = .ok (.ireturn, 1) := by decide +kernel
theorem dX5_kinds_10 : decode cX5_kinds 10 = .ok (.aload_n 0, 1) := by decide +kernel
theorem dX5_kinds_11 : decode cX5_kinds 11 = .ok (.iload_n 2, 1) := by decide +kernel
theorem dX5_kinds_12 : decode cX5_kinds 12 = .ok (.invokevirtual 79, 3) := by decide +kernel
theorem dX5_kinds_15 : decode cX5_kinds 15 = .ok (.istore_n 3, 1) := by decide +kernel
theorem dX5_kinds_16 : decode cX5_kinds 16 = .ok (.iload_n 3, 1) := by decide +kernel
theorem dX5_kinds_17 : decode cX5_kinds 17 = .ok (.ifCond .ge 5, 3) := by decide +kernel
theorem dX5_kinds_20 : decode cX5_kinds 20 = .ok (.iload_n 3, 1) := by decide +kernel
theorem dX5_kinds_21 : decode cX5_kinds 21 = .ok (.ireturn, 1) := by decide +kernel
theorem dX5_kinds_22 : decode cX5_kinds 22 = .ok (.aload_n 0, 1) := by decide +kernel
theorem dX5_kinds_23 : decode cX5_kinds 23 = .ok (.getfield 17, 3) := by decide +kernel
theorem dX5_kinds_26 : decode cX5_kinds 26 = .ok (.iload_n 2, 1) := by decide +kernel
theorem dX5_kinds_27 : decode cX5_kinds 27 = .ok (.iaload, 1) := by decide +kernel
theorem dX5_kinds_28 : decode cX5_kinds 28 = .ok (.iconst 2, 1) := by decide +kernel
theorem dX5_kinds_29 : decode cX5_kinds 29 = .ok (.irem, 1) := by decide +kernel
theorem dX5_kinds_30 : decode cX5_kinds 30 = .ok (.ifCond .eq 9, 3) := by decide +kernel
theorem dX5_kinds_33 : decode cX5_kinds 33 = .ok (.aload_n 0, 1) := by decide +kernel
theorem dX5_kinds_34 : decode cX5_kinds 34 = .ok (.iconst 5, 1) := by decide +kernel
theorem dX5_kinds_35 : decode cX5_kinds 35 = .ok (.invokevirtual 68, 3) := by decide +kernel
theorem dX5_kinds_38 : decode cX5_kinds 38 = .ok (.ireturn, 1) := by decide +kernel
theorem dX5_kinds_39 : decode cX5_kinds 39 = .ok (.iconst 0, 1) := by decide +kernel
theorem dX5_kinds_40 : decode cX5_kinds 40 = .ok (.istore 4, 2) := by decide +kernel
theorem dX5_kinds_42 : decode cX5_kinds 42 = .ok (.iload 4, 2) := by decide +kernel
theorem dX5_kinds_44 : decode cX5_kinds 44 = .ok (.aload_n 0, 1) := by decide +kernel
theorem dX5_kinds_45 : decode cX5_kinds 45 = .ok (.getfield 17, 3) := by decide +kernel
theorem dX5_kinds_48 : decode cX5_kinds 48 = .ok (.iload_n 2, 1) := by decide +kernel
theorem dX5_kinds_49 : decode cX5_kinds 49 = .ok (.iaload, 1) := by decide +kernel
theorem dX5_kinds_50 : decode cX5_kinds 50 = .ok (.if_icmp .ge 40, 3) := by decide +kernel
theorem dX5_kinds_53 : decode cX5_kinds 53 = .ok (.aload_n 0, 1) := by decide +kernel
theorem dX5_kinds_54 : decode cX5_kinds 54 = .ok (.iload_n 2, 1) := by decide +kernel
theorem dX5_kinds_55 : decode cX5_kinds 55 = .ok (.iload 4, 2) := by decide +kernel
theorem dX5_kinds_57 : decode cX5_kinds 57 = .ok (.invokevirtual 82, 3) := by decide +kernel
theorem dX5_kinds_60 : decode cX5_kinds 60 = .ok (.invokestatic 122, 3) := by decide +kernel
theorem dX5_kinds_63 : decode cX5_kinds 63 = .ok (.ifCond .eq 15, 3) := by decide +kernel
theorem dX5_kinds_66 : decode cX5_kinds 66 = .ok (.aload_n 0, 1) := by decide +kernel
theorem dX5_kinds_67 : decode cX5_kinds 67 = .ok (.iload_n 2, 1) := by decide +kernel
theorem dX5_kinds_68 : decode cX5_kinds 68 = .ok (.iload 4, 2) := by decide +kernel
theorem dX5_kinds_70 : decode cX5_kinds 70 = .ok (.iconst 1, 1) := by decide +kernel
theorem dX5_kinds_71 : decode cX5_kinds 71 = .ok (.iadd, 1) := by decide +kernel
theorem dX5_kinds_72 : decode cX5_kinds 72 = .ok (.invokevirtual 82, 3) := by decide +kernel
theorem dX5_kinds_75 : decode cX5_kinds 75 = .ok (.ifCond .ge 9, 3) := by decide +kernel
theorem dX5_kinds_78 : decode cX5_kinds 78 = .ok (.aload_n 0, 1) := by decide +kernel
theorem dX5_kinds_79 : decode cX5_kinds 79 = .ok (.iconst 3, 1) := by decide +kernel
theorem dX5_kinds_80 : decode cX5_kinds 80 = .ok (.invokevirtual 68, 3) := by decide +kernel
theorem dX5_kinds_83 : decode cX5_kinds 83 = .ok (.ireturn, 1) := by decide +kernel
theorem dX5_kinds_84 : decode cX5_kinds 84 = .ok (.iinc 4 2, 3) := by decide +kernel
theorem dX5_kinds_87 : decode cX5_kinds 87 = .ok (.goto (-45), 3) := by decide +kernel
theorem dX5_kinds_90 : decode cX5_kinds 90 = .ok (.aload_n 0, 1) := by decide +kernel
theorem dX5_kinds_91 : decode cX5_kinds 91 = .ok (.iload_n 1, 1) := by decide +kernel
theorem dX5_kinds_92 : decode cX5_kinds 92 = .ok (.invokevirtual 141, 3) := by decide +kernel
theorem dX5_kinds_95 : decode cX5_kinds 95 = .ok (.iconst 0, 1) := by decide +kernel
theorem dX5_kinds_96 : decode cX5_kinds 96 = .ok (.istore 4, 2) := by decide +kernel
theorem dX5_kinds_98 : decode cX5_kinds 98 = .ok (.iconst 0, 1) := by decide +kernel
theorem dX5_kinds_99 : decode cX5_kinds 99 = .ok (.istore 5, 2) := by decide +kernel
theorem dX5_kinds_101 : decode cX5_kinds 101 = .ok (.iload 5, 2) := by decide +kernel
theorem dX5_kinds_103 : decode cX5_kinds 103 = .ok (.iconst 5, 1) := by decide +kernel
theorem dX5_kinds_104 : decode cX5_kinds 104 = .ok (.if_icmp .gt 91, 3) := by decide +kernel
theorem dX5_kinds_107 : decode cX5_kinds 107 = .ok (.aload_n 0, 1) := by decide +kernel
theorem dX5_kinds_108 : decode cX5_kinds 108 = .ok (.iload 5, 2) := by decide +kernel
theorem dX5_kinds_110 : decode cX5_kinds 110 = .ok (.putfield 125, 3) := by decide +kernel
theorem dX5_kinds_113 : decode cX5_kinds 113 = .ok (.iconst 1, 1) := by decide +kernel
theorem dX5_kinds_114 : decode cX5_kinds 114 = .ok (.istore 6, 2) := by decide +kernel
theorem dX5_kinds_116 : decode cX5_kinds 116 = .ok (.iconst 0, 1) := by decide +kernel
theorem dX5_kinds_117 : decode cX5_kinds 117 = .ok (.istore 7, 2) := by decide +kernel
theorem dX5_kinds_119 : decode cX5_kinds 119 = .ok (.iload 7, 2) := by decide +kernel
theorem dX5_kinds_121 : decode cX5_kinds 121 = .ok (.aload_n 0, 1) := by decide +kernel
theorem dX5_kinds_122 : decode cX5_kinds 122 = .ok (.getfield 17, 3) := by decide +kernel
theorem dX5_kinds_125 : decode cX5_kinds 125 = .ok (.iload_n 2, 1) := by decide +kernel
theorem dX5_kinds_126 : decode cX5_kinds 126 = .ok (.iaload, 1) := by decide +kernel
theorem dX5_kinds_127 : decode cX5_kinds 127 = .ok (.if_icmp .ge 44, 3) := by decide +kernel
theorem dX5_kinds_130 : decode cX5_kinds 130 = .ok (.iload 6, 2) := by decide +kernel
theorem dX5_kinds_132 : decode cX5_kinds 132 = .ok (.ifCond .eq 30, 3) := by decide +kernel
theorem dX5_kinds_135 : decode cX5_kinds 135 = .ok (.aload_n 0, 1) := by decide +kernel
theorem dX5_kinds_136 : decode cX5_kinds 136 = .ok (.aload_n 0, 1) := by decide +kernel
theorem dX5_kinds_137 : decode cX5_kinds 137 = .ok (.iload_n 2, 1) := by decide +kernel
theorem dX5_kinds_138 : decode cX5_kinds 138 = .ok (.iload 7, 2) := by decide +kernel
theorem dX5_kinds_140 : decode cX5_kinds 140 = .ok (.invokevirtual 82, 3) := by decide +kernel
theorem dX5_kinds_143 : decode cX5_kinds 143 = .ok (.invokevirtual 157, 3) := by decide +kernel
theorem dX5_kinds_146 : decode cX5_kinds 146 = .ok (.aload_n 0, 1) := by decide +kernel
theorem dX5_kinds_147 : decode cX5_kinds 147 = .ok (.iload_n 2, 1) := by decide +kernel
theorem dX5_kinds_148 : decode cX5_kinds 148 = .ok (.iload 7, 2) := by decide +kernel
theorem dX5_kinds_150 : decode cX5_kinds 150 = .ok (.iconst 1, 1) := by decide +kernel
theorem dX5_kinds_151 : decode cX5_kinds 151 = .ok (.iadd, 1) := by decide +kernel
theorem dX5_kinds_152 : decode cX5_kinds 152 = .ok (.invokevirtual 82, 3) := by decide +kernel
theorem dX5_kinds_155 : decode cX5_kinds 155 = .ok (.if_icmp .ne 7, 3) := by decide +kernel
theorem dX5_kinds_158 : decode cX5_kinds 158 = .ok (.iconst 1, 1) := by decide +kernel
theorem dX5_kinds_159 : decode cX5_kinds 159 = .ok (.goto 4, 3) := by decide +kernel
theorem dX5_kinds_162 : decode cX5_kinds 162 = .ok (.iconst 0, 1) := by decide +kernel
theorem dX5_kinds_163 : decode cX5_kinds 163 = .ok (.istore 6, 2) := by decide +kernel
theorem dX5_kinds_165 : decode cX5_kinds 165 = .ok (.iinc 7 2, 3) := by decide +kernel
theorem dX5_kinds_168 : decode cX5_kinds 168 = .ok (.goto (-49), 3) := by decide +kernel
theorem dX5_kinds_171 : decode cX5_kinds 171 = .ok (.iload 4, 2) := by decide +kernel
theorem dX5_kinds_173 : decode cX5_kinds 173 = .ok (.iload 6, 2) := by decide +kernel
theorem dX5_kinds_175 : decode cX5_kinds 175 = .ok (.ifCond .eq 10, 3) := by decide +kernel
theorem dX5_kinds_178 : decode cX5_kinds 178 = .ok (.iconst 1, 1) := by decide +kernel
theorem dX5_kinds_179 : decode cX5_kinds 179 = .ok (.iload 5, 2) := by decide +kernel
theorem dX5_kinds_181 : decode cX5_kinds 181 = .ok (.ishl, 1) := by decide +kernel
theorem dX5_kinds_182 : decode cX5_kinds 182 = .ok (.goto 4, 3) := by decide +kernel
theorem dX5_kinds_185 : decode cX5_kinds 185 = .ok (.iconst 0, 1) := by decide +kernel
theorem dX5_kinds_186 : decode cX5_kinds 186 = .ok (.ior, 1) := by decide +kernel
theorem dX5_kinds_187 : decode cX5_kinds 187 = .ok (.istore 4, 2) := by decide +kernel
theorem dX5_kinds_189 : decode cX5_kinds 189 = .ok (.iinc 5 1, 3) := by decide +kernel
theorem dX5_kinds_192 : decode cX5_kinds 192 = .ok (.goto (-91), 3) := by decide +kernel
theorem dX5_kinds_195 : decode cX5_kinds 195 = .ok (.iload 4, 2) := by decide +kernel
theorem dX5_kinds_197 : decode cX5_kinds 197 = .ok (.ireturn, 1) := by decide +kernel
theorem dX5_tillFull_0 : decode cX5_tillFull 0 = .ok (.iload_n 0, 1) := by decide +kernel
theorem dX5_tillFull_1 : decode cX5_tillFull 1 = .ok (.bipush 59, 2) := by decide +kernel
theorem dX5_tillFull_3 : decode cX5_tillFull 3 = .ok (.irem, 1) := by decide +kernel
theorem dX5_tillFull_4 : decode cX5_tillFull 4 = .ok (.istore_n 1, 1) := by decide +kernel
theorem dX5_tillFull_5 : decode cX5_tillFull 5 = .ok (.iload_n 1, 1) := by decide +kernel
theorem dX5_tillFull_6 : decode cX5_tillFull 6 = .ok (.ifCond .ne 7, 3) := by decide +kernel
theorem dX5_tillFull_9 : decode cX5_tillFull 9 = .ok (.iconst 0, 1) := by decide +kernel
theorem dX5_tillFull_10 : decode cX5_tillFull 10 = .ok (.goto 20, 3) := by decide +kernel
theorem dX5_tillFull_13 : decode cX5_tillFull 13 = .ok (.iload_n 1, 1) := by decide +kernel
theorem dX5_tillFull_14 : decode cX5_tillFull 14 = .ok (.bipush 29, 2) := by decide +kernel
theorem dX5_tillFull_16 : decode cX5_tillFull 16 = .ok (.if_icmp .gt 10, 3) := by decide +kernel
theorem dX5_tillFull_19 : decode cX5_tillFull 19 = .ok (.bipush 29, 2) := by decide +kernel
theorem dX5_tillFull_21 : decode cX5_tillFull 21 = .ok (.iload_n 1, 1) := by decide +kernel
theorem dX5_tillFull_22 : decode cX5_tillFull 22 = .ok (.isub, 1) := by decide +kernel
theorem dX5_tillFull_23 : decode cX5_tillFull 23 = .ok (.goto 7, 3) := by decide +kernel
theorem dX5_tillFull_26 : decode cX5_tillFull 26 = .ok (.bipush 59, 2) := by decide +kernel
theorem dX5_tillFull_28 : decode cX5_tillFull 28 = .ok (.iload_n 1, 1) := by decide +kernel
theorem dX5_tillFull_29 : decode cX5_tillFull 29 = .ok (.isub, 1) := by decide +kernel
theorem dX5_tillFull_30 : decode cX5_tillFull 30 = .ok (.ireturn, 1) := by decide +kernel
theorem dX5_moon_0 : decode cX5_moon 0 = .ok (.iload_n 1, 1) := by decide +kernel
theorem dX5_moon_1 : decode cX5_moon 1 = .ok (.invokestatic 122, 3) := by decide +kernel
theorem dX5_moon_4 : decode cX5_moon 4 = .ok (.ifCond .eq 26, 3) := by decide +kernel
theorem dX5_moon_7 : decode cX5_moon 7 = .ok (.aload_n 0, 1) := by decide +kernel
theorem dX5_moon_8 : decode cX5_moon 8 = .ok (.iload_n 1, 1) := by decide +kernel
theorem dX5_moon_9 : decode cX5_moon 9 = .ok (.invokestatic 223, 3) := by decide +kernel
theorem dX5_moon_12 : decode cX5_moon 12 = .ok (.iload_n 1, 1) := by decide +kernel
theorem dX5_moon_13 : decode cX5_moon 13 = .ok (.invokestatic 223, 3) := by decide +kernel
theorem dX5_moon_16 : decode cX5_moon 16 = .ok (.ifCond .ne 7, 3) := by decide +kernel
theorem dX5_moon_19 : decode cX5_moon 19 = .ok (.iconst 1, 1) := by decide +kernel
theorem dX5_moon_20 : decode cX5_moon 20 = .ok (.goto 4, 3) := by decide +kernel
theorem dX5_moon_23 : decode cX5_moon 23 = .ok (.iconst 0, 1) := by decide +kernel
theorem dX5_moon_24 : decode cX5_moon 24 = .ok (.invokevirtual 86, 3) := by decide +kernel
theorem dX5_moon_27 : decode cX5_moon 27 = .ok (.goto 4, 3) := by decide +kernel
theorem dX5_moon_30 : decode cX5_moon 30 = .ok (.iconst (-1), 1) := by decide +kernel
theorem dX5_moon_31 : decode cX5_moon 31 = .ok (.ireturn, 1) := by decide +kernel
theorem dX5_feastOf_0 : decode cX5_feastOf 0 = .ok (.aload_n 0, 1) := by decide +kernel
theorem dX5_feastOf_1 : decode cX5_feastOf 1 = .ok (.iload_n 1, 1) := by decide +kernel
theorem dX5_feastOf_2 : decode cX5_feastOf 2 = .ok (.invokevirtual 141, 3) := by decide +kernel
theorem dX5_feastOf_5 : decode cX5_feastOf 5 = .ok (.bipush 20, 2) := by decide +kernel
theorem dX5_feastOf_7 : decode cX5_feastOf 7 = .ok (.istore_n 3, 1) := by decide +kernel
theorem dX5_feastOf_8 : decode cX5_feastOf 8 = .ok (.iload_n 3, 1) := by decide +kernel
theorem dX5_feastOf_9 : decode cX5_feastOf 9 = .ok (.aload_n 0, 1) := by decide +kernel
theorem dX5_feastOf_10 : decode cX5_feastOf 10 = .ok (.iload_n 2, 1) := by decide +kernel
theorem dX5_feastOf_11 : decode cX5_feastOf 11 = .ok (.invokevirtual 160, 3) := by decide +kernel
theorem dX5_feastOf_14 : decode cX5_feastOf 14 = .ok (.if_icmp .ge 55, 3) := by decide +kernel
theorem dX5_feastOf_17 : decode cX5_feastOf 17 = .ok (.aload_n 0, 1) := by decide +kernel
theorem dX5_feastOf_18 : decode cX5_feastOf 18 = .ok (.sipush 1000, 3) := by decide +kernel
theorem dX5_feastOf_21 : decode cX5_feastOf 21 = .ok (.iload_n 2, 1) := by decide +kernel
theorem dX5_feastOf_22 : decode cX5_feastOf 22 = .ok (.imul, 1) := by decide +kernel
theorem dX5_feastOf_23 : decode cX5_feastOf 23 = .ok (.iload_n 3, 1) := by decide +kernel
theorem dX5_feastOf_24 : decode cX5_feastOf 24 = .ok (.iadd, 1) := by decide +kernel
theorem dX5_feastOf_25 : decode cX5_feastOf 25 = .ok (.invokevirtual 163, 3) := by decide +kernel
theorem dX5_feastOf_28 : decode cX5_feastOf 28 = .ok (.istore 4, 2) := by decide +kernel
theorem dX5_feastOf_30 : decode cX5_feastOf 30 = .ok (.iload 4, 2) := by decide +kernel
theorem dX5_feastOf_32 : decode cX5_feastOf 32 = .ok (.bipush (-9), 2) := by decide +kernel
theorem dX5_feastOf_34 : decode cX5_feastOf 34 = .ok (.if_icmp .eq 29, 3) := by decide +kernel
theorem dX5_feastOf_37 : decode cX5_feastOf 37 = .ok (.iload 4, 2) := by decide +kernel
theorem dX5_feastOf_39 : decode cX5_feastOf 39 = .ok (.iload 4, 2) := by decide +kernel
theorem dX5_feastOf_41 : decode cX5_feastOf 41 = .ok (.invokestatic 223, 3) := by decide +kernel
theorem dX5_feastOf_44 : decode cX5_feastOf 44 = .ok (.iadd, 1) := by decide +kernel
theorem dX5_feastOf_45 : decode cX5_feastOf 45 = .ok (.istore 5, 2) := by decide +kernel
theorem dX5_feastOf_47 : decode cX5_feastOf 47 = .ok (.iload 5, 2) := by decide +kernel
theorem dX5_feastOf_49 : decode cX5_feastOf 49 = .ok (.sipush 19999, 3) := by decide +kernel
theorem dX5_feastOf_52 : decode cX5_feastOf 52 = .ok (.if_icmp .gt 8, 3) := by decide +kernel
theorem dX5_feastOf_55 : decode cX5_feastOf 55 = .ok (.iload 5, 2) := by decide +kernel
theorem dX5_feastOf_57 : decode cX5_feastOf 57 = .ok (.goto 5, 3) := by decide +kernel
theorem dX5_feastOf_60 : decode cX5_feastOf 60 = .ok (.bipush (-9), 2) := by decide +kernel
theorem dX5_feastOf_62 : decode cX5_feastOf 62 = .ok (.ireturn, 1) := by decide +kernel
theorem dX5_feastOf_63 : decode cX5_feastOf 63 = .ok (.iinc 3 1, 3) := by decide +kernel
theorem dX5_feastOf_66 : decode cX5_feastOf 66 = .ok (.goto (-58), 3) := by decide +kernel
theorem dX5_feastOf_69 : decode cX5_feastOf 69 = .ok (.bipush (-9), 2) := by decide +kernel
theorem dX5_feastOf_71 : decode cX5_feastOf 71 = .ok (.ireturn, 1) := by decide +kernel
theorem dX5_feast_0 : decode cX5_feast 0 = .ok (.aload_n 0, 1) := by decide +kernel
theorem dX5_feast_1 : decode cX5_feast 1 = .ok (.iload_n 1, 1) := by decide +kernel
theorem dX5_feast_2 : decode cX5_feast 2 = .ok (.invokevirtual 169, 3) := by decide +kernel
theorem dX5_feast_5 : decode cX5_feast 5 = .ok (.ifCond .eq 23, 3) := by decide +kernel
theorem dX5_feast_8 : decode cX5_feast 8 = .ok (.iload_n 2, 1) := by decide +kernel
theorem dX5_feast_9 : decode cX5_feast 9 = .ok (.iconst 0, 1) := by decide +kernel
theorem dX5_feast_10 : decode cX5_feast 10 = .ok (.sipush 150, 3) := by decide +kernel
theorem dX5_feast_13 : decode cX5_feast 13 = .ok (.invokestatic 60, 3) := by decide +kernel
theorem dX5_feast_16 : decode cX5_feast 16 = .ok (.ifCond .eq 12, 3) := by decide +kernel
theorem dX5_feast_19 : decode cX5_feast 19 = .ok (.aload_n 0, 1) := by decide +kernel
theorem dX5_feast_20 : decode cX5_feast 20 = .ok (.iload_n 1, 1) := by decide +kernel
theorem dX5_feast_21 : decode cX5_feast 21 = .ok (.iload_n 2, 1) := by decide +kernel
theorem dX5_feast_22 : decode cX5_feast 22 = .ok (.invokevirtual 226, 3) := by decide +kernel
theorem dX5_feast_25 : decode cX5_feast 25 = .ok (.goto 4, 3) := by decide +kernel
theorem dX5_feast_28 : decode cX5_feast 28 = .ok (.iconst (-1), 1) := by decide +kernel
theorem dX5_feast_29 : decode cX5_feast 29 = .ok (.ireturn, 1) := by decide +kernel
theorem dX5_together_0 : decode cX5_together 0 = .ok (.aload_n 0, 1) := by decide +kernel
theorem dX5_together_1 : decode cX5_together 1 = .ok (.iload_n 1, 1) := by decide +kernel
theorem dX5_together_2 : decode cX5_together 2 = .ok (.invokevirtual 169, 3) := by decide +kernel
theorem dX5_together_5 : decode cX5_together 5 = .ok (.ifCond .eq 34, 3) := by decide +kernel
theorem dX5_together_8 : decode cX5_together 8 = .ok (.aload_n 0, 1) := by decide +kernel
theorem dX5_together_9 : decode cX5_together 9 = .ok (.iload_n 2, 1) := by decide +kernel
theorem dX5_together_10 : decode cX5_together 10 = .ok (.invokevirtual 169, 3) := by decide +kernel
theorem dX5_together_13 : decode cX5_together 13 = .ok (.ifCond .eq 26, 3) := by decide +kernel
theorem dX5_together_16 : decode cX5_together 16 = .ok (.iload_n 3, 1) := by decide +kernel
theorem dX5_together_17 : decode cX5_together 17 = .ok (.iconst 0, 1) := by decide +kernel
theorem dX5_together_18 : decode cX5_together 18 = .ok (.sipush 150, 3) := by decide +kernel
theorem dX5_together_21 : decode cX5_together 21 = .ok (.invokestatic 60, 3) := by decide +kernel
theorem dX5_together_24 : decode cX5_together 24 = .ok (.ifCond .eq 15, 3) := by decide +kernel
theorem dX5_together_27 : decode cX5_together 27 = .ok (.iload 4, 2) := by decide +kernel
theorem dX5_together_29 : decode cX5_together 29 = .ok (.iload_n 3, 1) := by decide +kernel
theorem dX5_together_30 : decode cX5_together 30 = .ok (.sipush 150, 3) := by decide +kernel
theorem dX5_together_33 : decode cX5_together 33 = .ok (.invokestatic 60, 3) := by decide +kernel
theorem dX5_together_36 : decode cX5_together 36 = .ok (.ifCond .ne 5, 3) := by decide +kernel
theorem dX5_together_39 : decode cX5_together 39 = .ok (.iconst (-1), 1) := by decide +kernel
theorem dX5_together_40 : decode cX5_together 40 = .ok (.ireturn, 1) := by decide +kernel
theorem dX5_together_41 : decode cX5_together 41 = .ok (.iconst 0, 1) := by decide +kernel
theorem dX5_together_42 : decode cX5_together 42 = .ok (.istore 5, 2) := by decide +kernel
theorem dX5_together_44 : decode cX5_together 44 = .ok (.iload_n 3, 1) := by decide +kernel
theorem dX5_together_45 : decode cX5_together 45 = .ok (.istore 6, 2) := by decide +kernel
theorem dX5_together_47 : decode cX5_together 47 = .ok (.iload 6, 2) := by decide +kernel
theorem dX5_together_49 : decode cX5_together 49 = .ok (.iload 4, 2) := by decide +kernel
theorem dX5_together_51 : decode cX5_together 51 = .ok (.if_icmp .gt 47, 3) := by decide +kernel
theorem dX5_together_54 : decode cX5_together 54 = .ok (.aload_n 0, 1) := by decide +kernel
theorem dX5_together_55 : decode cX5_together 55 = .ok (.iload_n 1, 1) := by decide +kernel
theorem dX5_together_56 : decode cX5_together 56 = .ok (.iload 6, 2) := by decide +kernel
theorem dX5_together_58 : decode cX5_together 58 = .ok (.invokevirtual 226, 3) := by decide +kernel
theorem dX5_together_61 : decode cX5_together 61 = .ok (.istore 7, 2) := by decide +kernel
theorem dX5_together_63 : decode cX5_together 63 = .ok (.iload 5, 2) := by decide +kernel
theorem dX5_together_65 : decode cX5_together 65 = .ok (.iload 7, 2) := by decide +kernel
theorem dX5_together_67 : decode cX5_together 67 = .ok (.bipush (-9), 2) := by decide +kernel
theorem dX5_together_69 : decode cX5_together 69 = .ok (.if_icmp .eq 19, 3) := by decide +kernel
theorem dX5_together_72 : decode cX5_together 72 = .ok (.iload 7, 2) := by decide +kernel
theorem dX5_together_74 : decode cX5_together 74 = .ok (.aload_n 0, 1) := by decide +kernel
theorem dX5_together_75 : decode cX5_together 75 = .ok (.iload_n 2, 1) := by decide +kernel
theorem dX5_together_76 : decode cX5_together 76 = .ok (.iload 6, 2) := by decide +kernel
theorem dX5_together_78 : decode cX5_together 78 = .ok (.invokevirtual 226, 3) := by decide +kernel
theorem dX5_together_81 : decode cX5_together 81 = .ok (.if_icmp .ne 7, 3) := by decide +kernel
theorem dX5_together_84 : decode cX5_together 84 = .ok (.iconst 1, 1) := by decide +kernel
theorem dX5_together_85 : decode cX5_together 85 = .ok (.goto 4, 3) := by decide +kernel
theorem dX5_together_88 : decode cX5_together 88 = .ok (.iconst 0, 1) := by decide +kernel
theorem dX5_together_89 : decode cX5_together 89 = .ok (.iadd, 1) := by decide +kernel
theorem dX5_together_90 : decode cX5_together 90 = .ok (.istore 5, 2) := by decide +kernel
theorem dX5_together_92 : decode cX5_together 92 = .ok (.iinc 6 1, 3) := by decide +kernel
theorem dX5_together_95 : decode cX5_together 95 = .ok (.goto (-48), 3) := by decide +kernel
theorem dX5_together_98 : decode cX5_together 98 = .ok (.iload 5, 2) := by decide +kernel
theorem dX5_together_100 : decode cX5_together 100 = .ok (.ireturn, 1) := by decide +kernel
theorem dX5_isOff_0 : decode cX5_isOff 0 = .ok (.iload_n 1, 1) := by decide +kernel
theorem dX5_isOff_1 : decode cX5_isOff 1 = .ok (.iload_n 0, 1) := by decide +kernel
theorem dX5_isOff_2 : decode cX5_isOff 2 = .ok (.iadd, 1) := by decide +kernel
theorem dX5_isOff_3 : decode cX5_isOff 3 = .ok (.iconst 1, 1) := by decide +kernel
theorem dX5_isOff_4 : decode cX5_isOff 4 = .ok (.isub, 1) := by decide +kernel
theorem dX5_isOff_5 : decode cX5_isOff 5 = .ok (.iload_n 0, 1) := by decide +kernel
theorem dX5_isOff_6 : decode cX5_isOff 6 = .ok (.idiv, 1) := by decide +kernel
theorem dX5_isOff_7 : decode cX5_isOff 7 = .ok (.istore 4, 2) := by decide +kernel
theorem dX5_isOff_9 : decode cX5_isOff 9 = .ok (.iload_n 3, 1) := by decide +kernel
end
section
theorem dX5_isOff_10 : decode cX5_isOff 10 = .ok (.iload 4, 2) := by decide +kernel
theorem dX5_isOff_12 : decode cX5_isOff 12 = .ok (.imul, 1) := by decide +kernel
theorem dX5_isOff_13 : decode cX5_isOff 13 = .ok (.iload_n 1, 1) := by decide +kernel
theorem dX5_isOff_14 : decode cX5_isOff 14 = .ok (.invokestatic 204, 3) := by decide +kernel
theorem dX5_isOff_17 : decode cX5_isOff 17 = .ok (.iload_n 2, 1) := by decide +kernel
theorem dX5_isOff_18 : decode cX5_isOff 18 = .ok (.iload_n 3, 1) := by decide +kernel
theorem dX5_isOff_19 : decode cX5_isOff 19 = .ok (.imul, 1) := by decide +kernel
theorem dX5_isOff_20 : decode cX5_isOff 20 = .ok (.if_icmp .le 7, 3) := by decide +kernel
theorem dX5_isOff_23 : decode cX5_isOff 23 = .ok (.iconst 1, 1) := by decide +kernel
theorem dX5_isOff_24 : decode cX5_isOff 24 = .ok (.goto 4, 3) := by decide +kernel
theorem dX5_isOff_27 : decode cX5_isOff 27 = .ok (.iconst 0, 1) := by decide +kernel
theorem dX5_isOff_28 : decode cX5_isOff 28 = .ok (.ireturn, 1) := by decide +kernel
theorem dX5_keeps_0 : decode cX5_keeps 0 = .ok (.iload_n 1, 1) := by decide +kernel
theorem dX5_keeps_1 : decode cX5_keeps 1 = .ok (.iconst 0, 1) := by decide +kernel
theorem dX5_keeps_2 : decode cX5_keeps 2 = .ok (.bipush 99, 2) := by decide +kernel
theorem dX5_keeps_4 : decode cX5_keeps 4 = .ok (.invokestatic 60, 3) := by decide +kernel
theorem dX5_keeps_7 : decode cX5_keeps 7 = .ok (.ifCond .eq 24, 3) := by decide +kernel
theorem dX5_keeps_10 : decode cX5_keeps 10 = .ok (.iload_n 2, 1) := by decide +kernel
theorem dX5_keeps_11 : decode cX5_keeps 11 = .ok (.iconst 2, 1) := by decide +kernel
theorem dX5_keeps_12 : decode cX5_keeps 12 = .ok (.bipush 9, 2) := by decide +kernel
theorem dX5_keeps_14 : decode cX5_keeps 14 = .ok (.invokestatic 60, 3) := by decide +kernel
theorem dX5_keeps_17 : decode cX5_keeps 17 = .ok (.ifCond .eq 14, 3) := by decide +kernel
theorem dX5_keeps_20 : decode cX5_keeps 20 = .ok (.iload_n 3, 1) := by decide +kernel
theorem dX5_keeps_21 : decode cX5_keeps 21 = .ok (.iconst 1, 1) := by decide +kernel
theorem dX5_keeps_22 : decode cX5_keeps 22 = .ok (.sipush 150, 3) := by decide +kernel
theorem dX5_keeps_25 : decode cX5_keeps 25 = .ok (.invokestatic 60, 3) := by decide +kernel
theorem dX5_keeps_28 : decode cX5_keeps 28 = .ok (.ifCond .ne 5, 3) := by decide +kernel
theorem dX5_keeps_31 : decode cX5_keeps 31 = .ok (.iconst (-1), 1) := by decide +kernel
theorem dX5_keeps_32 : decode cX5_keeps 32 = .ok (.ireturn, 1) := by decide +kernel
theorem dX5_keeps_33 : decode cX5_keeps 33 = .ok (.iconst 2, 1) := by decide +kernel
theorem dX5_keeps_34 : decode cX5_keeps 34 = .ok (.istore 4, 2) := by decide +kernel
theorem dX5_keeps_36 : decode cX5_keeps 36 = .ok (.iload 4, 2) := by decide +kernel
theorem dX5_keeps_38 : decode cX5_keeps 38 = .ok (.bipush 9, 2) := by decide +kernel
theorem dX5_keeps_40 : decode cX5_keeps 40 = .ok (.if_icmp .gt 59, 3) := by decide +kernel
theorem dX5_keeps_43 : decode cX5_keeps 43 = .ok (.iconst 1, 1) := by decide +kernel
theorem dX5_keeps_44 : decode cX5_keeps 44 = .ok (.istore 5, 2) := by decide +kernel
theorem dX5_keeps_46 : decode cX5_keeps 46 = .ok (.iconst 0, 1) := by decide +kernel
theorem dX5_keeps_47 : decode cX5_keeps 47 = .ok (.istore 6, 2) := by decide +kernel
theorem dX5_keeps_49 : decode cX5_keeps 49 = .ok (.iload 6, 2) := by decide +kernel
theorem dX5_keeps_51 : decode cX5_keeps 51 = .ok (.iload_n 3, 1) := by decide +kernel
theorem dX5_keeps_52 : decode cX5_keeps 52 = .ok (.if_icmp .gt 33, 3) := by decide +kernel
theorem dX5_keeps_55 : decode cX5_keeps 55 = .ok (.iload 5, 2) := by decide +kernel
theorem dX5_keeps_57 : decode cX5_keeps 57 = .ok (.ifCond .eq 19, 3) := by decide +kernel
theorem dX5_keeps_60 : decode cX5_keeps 60 = .ok (.iload 4, 2) := by decide +kernel
theorem dX5_keeps_62 : decode cX5_keeps 62 = .ok (.iload 6, 2) := by decide +kernel
theorem dX5_keeps_64 : decode cX5_keeps 64 = .ok (.iload_n 1, 1) := by decide +kernel
theorem dX5_keeps_65 : decode cX5_keeps 65 = .ok (.iload_n 2, 1) := by decide +kernel
theorem dX5_keeps_66 : decode cX5_keeps 66 = .ok (.invokestatic 229, 3) := by decide +kernel
theorem dX5_keeps_69 : decode cX5_keeps 69 = .ok (.ifCond .ne 7, 3) := by decide +kernel
theorem dX5_keeps_72 : decode cX5_keeps 72 = .ok (.iconst 1, 1) := by decide +kernel
theorem dX5_keeps_73 : decode cX5_keeps 73 = .ok (.goto 4, 3) := by decide +kernel
theorem dX5_keeps_76 : decode cX5_keeps 76 = .ok (.iconst 0, 1) := by decide +kernel
theorem dX5_keeps_77 : decode cX5_keeps 77 = .ok (.istore 5, 2) := by decide +kernel
theorem dX5_keeps_79 : decode cX5_keeps 79 = .ok (.iinc 6 1, 3) := by decide +kernel
theorem dX5_keeps_82 : decode cX5_keeps 82 = .ok (.goto (-33), 3) := by decide +kernel
theorem dX5_keeps_85 : decode cX5_keeps 85 = .ok (.iload 5, 2) := by decide +kernel
theorem dX5_keeps_87 : decode cX5_keeps 87 = .ok (.ifCond .eq 6, 3) := by decide +kernel
theorem dX5_keeps_90 : decode cX5_keeps 90 = .ok (.iload 4, 2) := by decide +kernel
theorem dX5_keeps_92 : decode cX5_keeps 92 = .ok (.ireturn, 1) := by decide +kernel
theorem dX5_keeps_93 : decode cX5_keeps 93 = .ok (.iinc 4 1, 3) := by decide +kernel
theorem dX5_keeps_96 : decode cX5_keeps 96 = .ok (.goto (-60), 3) := by decide +kernel
theorem dX5_keeps_99 : decode cX5_keeps 99 = .ok (.bipush (-9), 2) := by decide +kernel
theorem dX5_keeps_101 : decode cX5_keeps 101 = .ok (.ireturn, 1) := by decide +kernel
theorem dX5_fails_0 : decode cX5_fails 0 = .ok (.iload_n 1, 1) := by decide +kernel
theorem dX5_fails_1 : decode cX5_fails 1 = .ok (.iconst 2, 1) := by decide +kernel
theorem dX5_fails_2 : decode cX5_fails 2 = .ok (.bipush 9, 2) := by decide +kernel
theorem dX5_fails_4 : decode cX5_fails 4 = .ok (.invokestatic 60, 3) := by decide +kernel
theorem dX5_fails_7 : decode cX5_fails 7 = .ok (.ifCond .eq 23, 3) := by decide +kernel
theorem dX5_fails_10 : decode cX5_fails 10 = .ok (.iload_n 2, 1) := by decide +kernel
theorem dX5_fails_11 : decode cX5_fails 11 = .ok (.iconst 0, 1) := by decide +kernel
theorem dX5_fails_12 : decode cX5_fails 12 = .ok (.bipush 99, 2) := by decide +kernel
theorem dX5_fails_14 : decode cX5_fails 14 = .ok (.invokestatic 60, 3) := by decide +kernel
theorem dX5_fails_17 : decode cX5_fails 17 = .ok (.ifCond .eq 13, 3) := by decide +kernel
theorem dX5_fails_20 : decode cX5_fails 20 = .ok (.iload_n 3, 1) := by decide +kernel
theorem dX5_fails_21 : decode cX5_fails 21 = .ok (.iconst 2, 1) := by decide +kernel
theorem dX5_fails_22 : decode cX5_fails 22 = .ok (.bipush 9, 2) := by decide +kernel
theorem dX5_fails_24 : decode cX5_fails 24 = .ok (.invokestatic 60, 3) := by decide +kernel
theorem dX5_fails_27 : decode cX5_fails 27 = .ok (.ifCond .ne 5, 3) := by decide +kernel
theorem dX5_fails_30 : decode cX5_fails 30 = .ok (.iconst (-1), 1) := by decide +kernel
theorem dX5_fails_31 : decode cX5_fails 31 = .ok (.ireturn, 1) := by decide +kernel
theorem dX5_fails_32 : decode cX5_fails 32 = .ok (.iconst 0, 1) := by decide +kernel
theorem dX5_fails_33 : decode cX5_fails 33 = .ok (.istore 4, 2) := by decide +kernel
theorem dX5_fails_35 : decode cX5_fails 35 = .ok (.iload 4, 2) := by decide +kernel
theorem dX5_fails_37 : decode cX5_fails 37 = .ok (.sipush 150, 3) := by decide +kernel
theorem dX5_fails_40 : decode cX5_fails 40 = .ok (.if_icmp .gt 23, 3) := by decide +kernel
theorem dX5_fails_43 : decode cX5_fails 43 = .ok (.iload_n 1, 1) := by decide +kernel
theorem dX5_fails_44 : decode cX5_fails 44 = .ok (.iload 4, 2) := by decide +kernel
theorem dX5_fails_46 : decode cX5_fails 46 = .ok (.iload_n 2, 1) := by decide +kernel
theorem dX5_fails_47 : decode cX5_fails 47 = .ok (.iload_n 3, 1) := by decide +kernel
theorem dX5_fails_48 : decode cX5_fails 48 = .ok (.invokestatic 229, 3) := by decide +kernel
theorem dX5_fails_51 : decode cX5_fails 51 = .ok (.ifCond .eq 6, 3) := by decide +kernel
theorem dX5_fails_54 : decode cX5_fails 54 = .ok (.iload 4, 2) := by decide +kernel
theorem dX5_fails_56 : decode cX5_fails 56 = .ok (.ireturn, 1) := by decide +kernel
theorem dX5_fails_57 : decode cX5_fails 57 = .ok (.iinc 4 1, 3) := by decide +kernel
theorem dX5_fails_60 : decode cX5_fails 60 = .ok (.goto (-25), 3) := by decide +kernel
theorem dX5_fails_63 : decode cX5_fails 63 = .ok (.bipush (-9), 2) := by decide +kernel
theorem dX5_fails_65 : decode cX5_fails 65 = .ok (.ireturn, 1) := by decide +kernel
theorem dX5_lots_0 : decode cX5_lots 0 = .ok (.aload_n 0, 1) := by decide +kernel
theorem dX5_lots_1 : decode cX5_lots 1 = .ok (.iload_n 1, 1) := by decide +kernel
theorem dX5_lots_2 : decode cX5_lots 2 = .ok (.invokevirtual 169, 3) := by decide +kernel
theorem dX5_lots_5 : decode cX5_lots 5 = .ok (.ifCond .eq 32, 3) := by decide +kernel
theorem dX5_lots_8 : decode cX5_lots 8 = .ok (.aload_n 0, 1) := by decide +kernel
theorem dX5_lots_9 : decode cX5_lots 9 = .ok (.iload_n 2, 1) := by decide +kernel
theorem dX5_lots_10 : decode cX5_lots 10 = .ok (.invokevirtual 169, 3) := by decide +kernel
theorem dX5_lots_13 : decode cX5_lots 13 = .ok (.ifCond .eq 24, 3) := by decide +kernel
theorem dX5_lots_16 : decode cX5_lots 16 = .ok (.iload_n 3, 1) := by decide +kernel
theorem dX5_lots_17 : decode cX5_lots 17 = .ok (.iconst 1, 1) := by decide +kernel
theorem dX5_lots_18 : decode cX5_lots 18 = .ok (.bipush 40, 2) := by decide +kernel
theorem dX5_lots_20 : decode cX5_lots 20 = .ok (.invokestatic 60, 3) := by decide +kernel
theorem dX5_lots_23 : decode cX5_lots 23 = .ok (.ifCond .eq 14, 3) := by decide +kernel
theorem dX5_lots_26 : decode cX5_lots 26 = .ok (.iload 4, 2) := by decide +kernel
theorem dX5_lots_28 : decode cX5_lots 28 = .ok (.iconst 1, 1) := by decide +kernel
theorem dX5_lots_29 : decode cX5_lots 29 = .ok (.ldc 233, 2) := by decide +kernel
theorem dX5_lots_31 : decode cX5_lots 31 = .ok (.invokestatic 60, 3) := by decide +kernel
theorem dX5_lots_34 : decode cX5_lots 34 = .ok (.ifCond .ne 5, 3) := by decide +kernel
theorem dX5_lots_37 : decode cX5_lots 37 = .ok (.iconst (-1), 1) := by decide +kernel
theorem dX5_lots_38 : decode cX5_lots 38 = .ok (.ireturn, 1) := by decide +kernel
theorem dX5_lots_39 : decode cX5_lots 39 = .ok (.iload 4, 2) := by decide +kernel
theorem dX5_lots_41 : decode cX5_lots 41 = .ok (.i2l, 1) := by decide +kernel
theorem dX5_lots_42 : decode cX5_lots 42 = .ok (.lstore 5, 2) := by decide +kernel
theorem dX5_lots_44 : decode cX5_lots 44 = .ok (.iconst 0, 1) := by decide +kernel
theorem dX5_lots_45 : decode cX5_lots 45 = .ok (.istore 7, 2) := by decide +kernel
theorem dX5_lots_47 : decode cX5_lots 47 = .ok (.iconst 0, 1) := by decide +kernel
theorem dX5_lots_48 : decode cX5_lots 48 = .ok (.istore 8, 2) := by decide +kernel
theorem dX5_lots_50 : decode cX5_lots 50 = .ok (.iload 8, 2) := by decide +kernel
theorem dX5_lots_52 : decode cX5_lots 52 = .ok (.iload_n 3, 1) := by decide +kernel
theorem dX5_lots_53 : decode cX5_lots 53 = .ok (.if_icmp .ge 47, 3) := by decide +kernel
theorem dX5_lots_56 : decode cX5_lots 56 = .ok (.ldc2_w 234, 3) := by decide +kernel
theorem dX5_lots_59 : decode cX5_lots 59 = .ok (.lload 5, 2) := by decide +kernel
theorem dX5_lots_61 : decode cX5_lots 61 = .ok (.lmul, 1) := by decide +kernel
theorem dX5_lots_62 : decode cX5_lots 62 = .ok (.ldc2_w 236, 3) := by decide +kernel
theorem dX5_lots_65 : decode cX5_lots 65 = .ok (.lrem, 1) := by decide +kernel
theorem dX5_lots_66 : decode cX5_lots 66 = .ok (.lstore 5, 2) := by decide +kernel
theorem dX5_lots_68 : decode cX5_lots 68 = .ok (.iload 7, 2) := by decide +kernel
theorem dX5_lots_70 : decode cX5_lots 70 = .ok (.aload_n 0, 1) := by decide +kernel
theorem dX5_lots_71 : decode cX5_lots 71 = .ok (.iload_n 1, 1) := by decide +kernel
theorem dX5_lots_72 : decode cX5_lots 72 = .ok (.iload_n 2, 1) := by decide +kernel
theorem dX5_lots_73 : decode cX5_lots 73 = .ok (.lload 5, 2) := by decide +kernel
theorem dX5_lots_75 : decode cX5_lots 75 = .ok (.ldc2_w 238, 3) := by decide +kernel
theorem dX5_lots_78 : decode cX5_lots 78 = .ok (.lrem, 1) := by decide +kernel
theorem dX5_lots_79 : decode cX5_lots 79 = .ok (.l2i, 1) := by decide +kernel
theorem dX5_lots_80 : decode cX5_lots 80 = .ok (.invokevirtual 198, 3) := by decide +kernel
theorem dX5_lots_83 : decode cX5_lots 83 = .ok (.ifCond .eq 7, 3) := by decide +kernel
theorem dX5_lots_86 : decode cX5_lots 86 = .ok (.iconst 1, 1) := by decide +kernel
theorem dX5_lots_87 : decode cX5_lots 87 = .ok (.goto 4, 3) := by decide +kernel
theorem dX5_lots_90 : decode cX5_lots 90 = .ok (.iconst 0, 1) := by decide +kernel
theorem dX5_lots_91 : decode cX5_lots 91 = .ok (.iadd, 1) := by decide +kernel
theorem dX5_lots_92 : decode cX5_lots 92 = .ok (.istore 7, 2) := by decide +kernel
theorem dX5_lots_94 : decode cX5_lots 94 = .ok (.iinc 8 1, 3) := by decide +kernel
theorem dX5_lots_97 : decode cX5_lots 97 = .ok (.goto (-47), 3) := by decide +kernel
theorem dX5_lots_100 : decode cX5_lots 100 = .ok (.iload 7, 2) := by decide +kernel
theorem dX5_lots_102 : decode cX5_lots 102 = .ok (.ireturn, 1) := by decide +kernel
theorem dX5_asked_0 : decode cX5_asked 0 = .ok (.aload_n 0, 1) := by decide +kernel
theorem dX5_asked_1 : decode cX5_asked 1 = .ok (.getfield 54, 3) := by decide +kernel
theorem dX5_asked_4 : decode cX5_asked 4 = .ok (.ireturn, 1) := by decide +kernel
theorem dX5_upper_0 : decode cX5_upper 0 = .ok (.aload_n 0, 1) := by decide +kernel
theorem dX5_upper_1 : decode cX5_upper 1 = .ok (.getfield 57, 3) := by decide +kernel
theorem dX5_upper_4 : decode cX5_upper 4 = .ok (.lreturn, 1) := by decide +kernel
theorem dX5_lower_0 : decode cX5_lower 0 = .ok (.aload_n 0, 1) := by decide +kernel
theorem dX5_lower_1 : decode cX5_lower 1 = .ok (.getfield 13, 3) := by decide +kernel
theorem dX5_lower_4 : decode cX5_lower 4 = .ok (.lreturn, 1) := by decide +kernel
theorem dX5_tells_0 : decode cX5_tells 0 = .ok (.iconst 0, 1) := by decide +kernel
theorem dX5_tells_1 : decode cX5_tells 1 = .ok (.istore_n 2, 1) := by decide +kernel
theorem dX5_tells_2 : decode cX5_tells 2 = .ok (.iconst 0, 1) := by decide +kernel
theorem dX5_tells_3 : decode cX5_tells 3 = .ok (.istore_n 3, 1) := by decide +kernel
theorem dX5_tells_4 : decode cX5_tells 4 = .ok (.iload_n 3, 1) := by decide +kernel
theorem dX5_tells_5 : decode cX5_tells 5 = .ok (.bipush 6, 2) := by decide +kernel
theorem dX5_tells_7 : decode cX5_tells 7 = .ok (.if_icmp .ge 123, 3) := by decide +kernel
theorem dX5_tells_10 : decode cX5_tells 10 = .ok (.iload_n 3, 1) := by decide +kernel
theorem dX5_tells_11 : decode cX5_tells 11 = .ok (.aload_n 0, 1) := by decide +kernel
theorem dX5_tells_12 : decode cX5_tells 12 = .ok (.getfield 116, 3) := by decide +kernel
theorem dX5_tells_15 : decode cX5_tells 15 = .ok (.if_icmp .ge 35, 3) := by decide +kernel
theorem dX5_tells_18 : decode cX5_tells 18 = .ok (.iload_n 1, 1) := by decide +kernel
theorem dX5_tells_19 : decode cX5_tells 19 = .ok (.iconst 2, 1) := by decide +kernel
theorem dX5_tells_20 : decode cX5_tells 20 = .ok (.if_icmp .ne 12, 3) := by decide +kernel
theorem dX5_tells_23 : decode cX5_tells 23 = .ok (.aload_n 0, 1) := by decide +kernel
theorem dX5_tells_24 : decode cX5_tells 24 = .ok (.iload_n 3, 1) := by decide +kernel
theorem dX5_tells_25 : decode cX5_tells 25 = .ok (.iconst 1, 1) := by decide +kernel
theorem dX5_tells_26 : decode cX5_tells 26 = .ok (.invokevirtual 178, 3) := by decide +kernel
theorem dX5_tells_29 : decode cX5_tells 29 = .ok (.ifCond .ne 17, 3) := by decide +kernel
theorem dX5_tells_32 : decode cX5_tells 32 = .ok (.iload_n 1, 1) := by decide +kernel
theorem dX5_tells_33 : decode cX5_tells 33 = .ok (.iconst 3, 1) := by decide +kernel
theorem dX5_tells_34 : decode cX5_tells 34 = .ok (.if_icmp .ne 16, 3) := by decide +kernel
theorem dX5_tells_37 : decode cX5_tells 37 = .ok (.aload_n 0, 1) := by decide +kernel
theorem dX5_tells_38 : decode cX5_tells 38 = .ok (.iload_n 3, 1) := by decide +kernel
theorem dX5_tells_39 : decode cX5_tells 39 = .ok (.iconst 2, 1) := by decide +kernel
theorem dX5_tells_40 : decode cX5_tells 40 = .ok (.invokevirtual 178, 3) := by decide +kernel
theorem dX5_tells_43 : decode cX5_tells 43 = .ok (.ifCond .eq 7, 3) := by decide +kernel
theorem dX5_tells_46 : decode cX5_tells 46 = .ok (.iconst 1, 1) := by decide +kernel
theorem dX5_tells_47 : decode cX5_tells 47 = .ok (.goto 4, 3) := by decide +kernel
theorem dX5_tells_50 : decode cX5_tells 50 = .ok (.iconst 0, 1) := by decide +kernel
theorem dX5_tells_51 : decode cX5_tells 51 = .ok (.istore 4, 2) := by decide +kernel
theorem dX5_tells_53 : decode cX5_tells 53 = .ok (.iload_n 2, 1) := by decide +kernel
theorem dX5_tells_54 : decode cX5_tells 54 = .ok (.iload 4, 2) := by decide +kernel
theorem dX5_tells_56 : decode cX5_tells 56 = .ok (.ifCond .ne 61, 3) := by decide +kernel
theorem dX5_tells_59 : decode cX5_tells 59 = .ok (.iload_n 1, 1) := by decide +kernel
theorem dX5_tells_60 : decode cX5_tells 60 = .ok (.iconst 4, 1) := by decide +kernel
theorem dX5_tells_61 : decode cX5_tells 61 = .ok (.if_icmp .ne 12, 3) := by decide +kernel
theorem dX5_tells_64 : decode cX5_tells 64 = .ok (.aload_n 0, 1) := by decide +kernel
theorem dX5_tells_65 : decode cX5_tells 65 = .ok (.getfield 17, 3) := by decide +kernel
theorem dX5_tells_68 : decode cX5_tells 68 = .ok (.iload_n 3, 1) := by decide +kernel
theorem dX5_tells_69 : decode cX5_tells 69 = .ok (.iaload, 1) := by decide +kernel
theorem dX5_tells_70 : decode cX5_tells 70 = .ok (.ifCond .ge 47, 3) := by decide +kernel
theorem dX5_tells_73 : decode cX5_tells 73 = .ok (.iload_n 1, 1) := by decide +kernel
theorem dX5_tells_74 : decode cX5_tells 74 = .ok (.iconst 5, 1) := by decide +kernel
theorem dX5_tells_75 : decode cX5_tells 75 = .ok (.if_icmp .ne 17, 3) := by decide +kernel
theorem dX5_tells_78 : decode cX5_tells 78 = .ok (.iload_n 3, 1) := by decide +kernel
theorem dX5_tells_79 : decode cX5_tells 79 = .ok (.iconst 4, 1) := by decide +kernel
theorem dX5_tells_80 : decode cX5_tells 80 = .ok (.if_icmp .ge 12, 3) := by decide +kernel
theorem dX5_tells_83 : decode cX5_tells 83 = .ok (.aload_n 0, 1) := by decide +kernel
theorem dX5_tells_84 : decode cX5_tells 84 = .ok (.getfield 26, 3) := by decide +kernel
theorem dX5_tells_87 : decode cX5_tells 87 = .ok (.iload_n 3, 1) := by decide +kernel
theorem dX5_tells_88 : decode cX5_tells 88 = .ok (.iaload, 1) := by decide +kernel
theorem dX5_tells_89 : decode cX5_tells 89 = .ok (.ifCond .ge 28, 3) := by decide +kernel
theorem dX5_tells_92 : decode cX5_tells 92 = .ok (.iload_n 1, 1) := by decide +kernel
theorem dX5_tells_93 : decode cX5_tells 93 = .ok (.bipush 6, 2) := by decide +kernel
theorem dX5_tells_95 : decode cX5_tells 95 = .ok (.if_icmp .ne 26, 3) := by decide +kernel
theorem dX5_tells_98 : decode cX5_tells 98 = .ok (.iload_n 3, 1) := by decide +kernel
theorem dX5_tells_99 : decode cX5_tells 99 = .ok (.iconst 3, 1) := by decide +kernel
theorem dX5_tells_100 : decode cX5_tells 100 = .ok (.if_icmp .ge 21, 3) := by decide +kernel
theorem dX5_tells_103 : decode cX5_tells 103 = .ok (.aload_n 0, 1) := by decide +kernel
theorem dX5_tells_104 : decode cX5_tells 104 = .ok (.getfield 47, 3) := by decide +kernel
theorem dX5_tells_107 : decode cX5_tells 107 = .ok (.bipush 21, 2) := by decide +kernel
theorem dX5_tells_109 : decode cX5_tells 109 = .ok (.iload_n 3, 1) := by decide +kernel
theorem dX5_tells_110 : decode cX5_tells 110 = .ok (.imul, 1) := by decide +kernel
theorem dX5_tells_111 : decode cX5_tells 111 = .ok (.iaload, 1) := by decide +kernel
theorem dX5_tells_112 : decode cX5_tells 112 = .ok (.bipush (-9), 2) := by decide +kernel
theorem dX5_tells_114 : decode cX5_tells 114 = .ok (.if_icmp .eq 7, 3) := by decide +kernel
theorem dX5_tells_117 : decode cX5_tells 117 = .ok (.iconst 1, 1) := by decide +kernel
theorem dX5_tells_118 : decode cX5_tells 118 = .ok (.goto 4, 3) := by decide +kernel
theorem dX5_tells_121 : decode cX5_tells 121 = .ok (.iconst 0, 1) := by decide +kernel
theorem dX5_tells_122 : decode cX5_tells 122 = .ok (.iadd, 1) := by decide +kernel
theorem dX5_tells_123 : decode cX5_tells 123 = .ok (.istore_n 2, 1) := by decide +kernel
theorem dX5_tells_124 : decode cX5_tells 124 = .ok (.iinc 3 1, 3) := by decide +kernel
theorem dX5_tells_127 : decode cX5_tells 127 = .ok (.goto (-123), 3) := by decide +kernel
theorem dX5_tells_130 : decode cX5_tells 130 = .ok (.iload_n 1, 1) := by decide +kernel
theorem dX5_tells_131 : decode cX5_tells 131 = .ok (.ifCond .ne 10, 3) := by decide +kernel
theorem dX5_tells_134 : decode cX5_tells 134 = .ok (.aload_n 0, 1) := by decide +kernel
theorem dX5_tells_135 : decode cX5_tells 135 = .ok (.getfield 116, 3) := by decide +kernel
theorem dX5_tells_138 : decode cX5_tells 138 = .ok (.goto 16, 3) := by decide +kernel
theorem dX5_tells_141 : decode cX5_tells 141 = .ok (.iload_n 1, 1) := by decide +kernel
theorem dX5_tells_142 : decode cX5_tells 142 = .ok (.iconst 1, 1) := by decide +kernel
theorem dX5_tells_143 : decode cX5_tells 143 = .ok (.if_icmp .ne 10, 3) := by decide +kernel
theorem dX5_tells_146 : decode cX5_tells 146 = .ok (.aload_n 0, 1) := by decide +kernel
theorem dX5_tells_147 : decode cX5_tells 147 = .ok (.getfield 119, 3) := by decide +kernel
theorem dX5_tells_150 : decode cX5_tells 150 = .ok (.goto 4, 3) := by decide +kernel
theorem dX5_tells_153 : decode cX5_tells 153 = .ok (.iload_n 2, 1) := by decide +kernel
theorem dX5_tells_154 : decode cX5_tells 154 = .ok (.ireturn, 1) := by decide +kernel
theorem dX5_count_0 : decode cX5_count 0 = .ok (.iload_n 1, 1) := by decide +kernel
theorem dX5_count_1 : decode cX5_count 1 = .ok (.iconst 0, 1) := by decide +kernel
theorem dX5_count_2 : decode cX5_count 2 = .ok (.bipush 6, 2) := by decide +kernel
theorem dX5_count_4 : decode cX5_count 4 = .ok (.invokestatic 60, 3) := by decide +kernel
theorem dX5_count_7 : decode cX5_count 7 = .ok (.ifCond .eq 11, 3) := by decide +kernel
theorem dX5_count_10 : decode cX5_count 10 = .ok (.aload_n 0, 1) := by decide +kernel
theorem dX5_count_11 : decode cX5_count 11 = .ok (.iload_n 1, 1) := by decide +kernel
theorem dX5_count_12 : decode cX5_count 12 = .ok (.invokevirtual 240, 3) := by decide +kernel
theorem dX5_count_15 : decode cX5_count 15 = .ok (.goto 4, 3) := by decide +kernel
theorem dX5_count_18 : decode cX5_count 18 = .ok (.iconst (-1), 1) := by decide +kernel
theorem dX5_count_19 : decode cX5_count 19 = .ok (.ireturn, 1) := by decide +kernel
theorem dX5_finding_0 : decode cX5_finding 0 = .ok (.aload_n 0, 1) := by decide +kernel
theorem dX5_finding_1 : decode cX5_finding 1 = .ok (.getfield 50, 3) := by decide +kernel
theorem dX5_finding_4 : decode cX5_finding 4 = .ok (.ireturn, 1) := by decide +kernel
theorem dX5_findings_0 : decode cX5_findings 0 = .ok (.iload_n 1, 1) := by decide +kernel
theorem dX5_findings_1 : decode cX5_findings 1 = .ok (.iconst 1, 1) := by decide +kernel
theorem dX5_findings_2 : decode cX5_findings 2 = .ok (.iconst 5, 1) := by decide +kernel
theorem dX5_findings_3 : decode cX5_findings 3 = .ok (.invokestatic 60, 3) := by decide +kernel
theorem dX5_findings_6 : decode cX5_findings 6 = .ok (.ifCond .eq 12, 3) := by decide +kernel
theorem dX5_findings_9 : decode cX5_findings 9 = .ok (.aload_n 0, 1) := by decide +kernel
theorem dX5_findings_10 : decode cX5_findings 10 = .ok (.getfield 7, 3) := by decide +kernel
theorem dX5_findings_13 : decode cX5_findings 13 = .ok (.iload_n 1, 1) := by decide +kernel
theorem dX5_findings_14 : decode cX5_findings 14 = .ok (.iaload, 1) := by decide +kernel
theorem dX5_findings_15 : decode cX5_findings 15 = .ok (.goto 4, 3) := by decide +kernel
theorem dX5_findings_18 : decode cX5_findings 18 = .ok (.iconst (-1), 1) := by decide +kernel
theorem dX5_findings_19 : decode cX5_findings 19 = .ok (.ireturn, 1) := by decide +kernel
theorem dX5_mix_0 : decode cX5_mix 0 = .ok (.aload_n 0, 1) := by decide +kernel
theorem dX5_mix_1 : decode cX5_mix 1 = .ok (.ldc2_w 243, 3) := by decide +kernel
theorem dX5_mix_4 : decode cX5_mix 4 = .ok (.aload_n 0, 1) := by decide +kernel
theorem dX5_mix_5 : decode cX5_mix 5 = .ok (.getfield 245, 3) := by decide +kernel
theorem dX5_mix_8 : decode cX5_mix 8 = .ok (.lmul, 1) := by decide +kernel
theorem dX5_mix_9 : decode cX5_mix 9 = .ok (.iload_n 1, 1) := by decide +kernel
theorem dX5_mix_10 : decode cX5_mix 10 = .ok (.i2l, 1) := by decide +kernel
theorem dX5_mix_11 : decode cX5_mix 11 = .ok (.ladd, 1) := by decide +kernel
theorem dX5_mix_12 : decode cX5_mix 12 = .ok (.putfield 245, 3) := by decide +kernel
theorem dX5_mix_15 : decode cX5_mix 15 = .ok (.return_, 1) := by decide +kernel
theorem dX5_digest_0 : decode cX5_digest 0 = .ok (.aload_n 0, 1) := by decide +kernel
theorem dX5_digest_1 : decode cX5_digest 1 = .ok (.ldc2_w 248, 3) := by decide +kernel
theorem dX5_digest_4 : decode cX5_digest 4 = .ok (.putfield 245, 3) := by decide +kernel
theorem dX5_digest_7 : decode cX5_digest 7 = .ok (.iconst 0, 1) := by decide +kernel
theorem dX5_digest_8 : decode cX5_digest 8 = .ok (.istore_n 1, 1) := by decide +kernel
theorem dX5_digest_9 : decode cX5_digest 9 = .ok (.iload_n 1, 1) := by decide +kernel
theorem dX5_digest_10 : decode cX5_digest 10 = .ok (.bipush 6, 2) := by decide +kernel
theorem dX5_digest_12 : decode cX5_digest 12 = .ok (.if_icmp .gt 18, 3) := by decide +kernel
theorem dX5_digest_15 : decode cX5_digest 15 = .ok (.aload_n 0, 1) := by decide +kernel
theorem dX5_digest_16 : decode cX5_digest 16 = .ok (.aload_n 0, 1) := by decide +kernel
theorem dX5_digest_17 : decode cX5_digest 17 = .ok (.iload_n 1, 1) := by decide +kernel
theorem dX5_digest_18 : decode cX5_digest 18 = .ok (.invokevirtual 240, 3) := by decide +kernel
theorem dX5_digest_21 : decode cX5_digest 21 = .ok (.invokevirtual 250, 3) := by decide +kernel
theorem dX5_digest_24 : decode cX5_digest 24 = .ok (.iinc 1 1, 3) := by decide +kernel
theorem dX5_digest_27 : decode cX5_digest 27 = .ok (.goto (-18), 3) := by decide +kernel
theorem dX5_digest_30 : decode cX5_digest 30 = .ok (.iconst 0, 1) := by decide +kernel
theorem dX5_digest_31 : decode cX5_digest 31 = .ok (.istore_n 1, 1) := by decide +kernel
theorem dX5_digest_32 : decode cX5_digest 32 = .ok (.iload_n 1, 1) := by decide +kernel
theorem dX5_digest_33 : decode cX5_digest 33 = .ok (.aload_n 0, 1) := by decide +kernel
theorem dX5_digest_34 : decode cX5_digest 34 = .ok (.getfield 116, 3) := by decide +kernel
theorem dX5_digest_37 : decode cX5_digest 37 = .ok (.if_icmp .ge 32, 3) := by decide +kernel
theorem dX5_digest_40 : decode cX5_digest 40 = .ok (.iconst 0, 1) := by decide +kernel
theorem dX5_digest_41 : decode cX5_digest 41 = .ok (.istore_n 2, 1) := by decide +kernel
theorem dX5_digest_42 : decode cX5_digest 42 = .ok (.iload_n 2, 1) := by decide +kernel
theorem dX5_digest_43 : decode cX5_digest 43 = .ok (.iconst 4, 1) := by decide +kernel
theorem dX5_digest_44 : decode cX5_digest 44 = .ok (.if_icmp .gt 19, 3) := by decide +kernel
theorem dX5_digest_47 : decode cX5_digest 47 = .ok (.aload_n 0, 1) := by decide +kernel
theorem dX5_digest_48 : decode cX5_digest 48 = .ok (.aload_n 0, 1) := by decide +kernel
theorem dX5_digest_49 : decode cX5_digest 49 = .ok (.iload_n 1, 1) := by decide +kernel
theorem dX5_digest_50 : decode cX5_digest 50 = .ok (.iload_n 2, 1) := by decide +kernel
theorem dX5_digest_51 : decode cX5_digest 51 = .ok (.invokevirtual 172, 3) := by decide +kernel
theorem dX5_digest_54 : decode cX5_digest 54 = .ok (.invokevirtual 250, 3) := by decide +kernel
theorem dX5_digest_57 : decode cX5_digest 57 = .ok (.iinc 2 1, 3) := by decide +kernel
theorem dX5_digest_60 : decode cX5_digest 60 = .ok (.goto (-18), 3) := by decide +kernel
theorem dX5_digest_63 : decode cX5_digest 63 = .ok (.iinc 1 1, 3) := by decide +kernel
theorem dX5_digest_66 : decode cX5_digest 66 = .ok (.goto (-34), 3) := by decide +kernel
theorem dX5_digest_69 : decode cX5_digest 69 = .ok (.iconst 0, 1) := by decide +kernel
theorem dX5_digest_70 : decode cX5_digest 70 = .ok (.istore_n 1, 1) := by decide +kernel
theorem dX5_digest_71 : decode cX5_digest 71 = .ok (.iload_n 1, 1) := by decide +kernel
theorem dX5_digest_72 : decode cX5_digest 72 = .ok (.iconst 3, 1) := by decide +kernel
theorem dX5_digest_73 : decode cX5_digest 73 = .ok (.if_icmp .ge 40, 3) := by decide +kernel
theorem dX5_digest_76 : decode cX5_digest 76 = .ok (.aload_n 0, 1) := by decide +kernel
theorem dX5_digest_77 : decode cX5_digest 77 = .ok (.aload_n 0, 1) := by decide +kernel
theorem dX5_digest_78 : decode cX5_digest 78 = .ok (.getfield 47, 3) := by decide +kernel
theorem dX5_digest_81 : decode cX5_digest 81 = .ok (.bipush 21, 2) := by decide +kernel
theorem dX5_digest_83 : decode cX5_digest 83 = .ok (.iload_n 1, 1) := by decide +kernel
theorem dX5_digest_84 : decode cX5_digest 84 = .ok (.imul, 1) := by decide +kernel
theorem dX5_digest_85 : decode cX5_digest 85 = .ok (.iaload, 1) := by decide +kernel
theorem dX5_digest_86 : decode cX5_digest 86 = .ok (.bipush (-9), 2) := by decide +kernel
theorem dX5_digest_88 : decode cX5_digest 88 = .ok (.if_icmp .ne 7, 3) := by decide +kernel
theorem dX5_digest_91 : decode cX5_digest 91 = .ok (.iconst (-1), 1) := by decide +kernel
theorem dX5_digest_92 : decode cX5_digest 92 = .ok (.goto 12, 3) := by decide +kernel
theorem dX5_digest_95 : decode cX5_digest 95 = .ok (.aload_n 0, 1) := by decide +kernel
theorem dX5_digest_96 : decode cX5_digest 96 = .ok (.getfield 47, 3) := by decide +kernel
theorem dX5_digest_99 : decode cX5_digest 99 = .ok (.bipush 21, 2) := by decide +kernel
theorem dX5_digest_101 : decode cX5_digest 101 = .ok (.iload_n 1, 1) := by decide +kernel
theorem dX5_digest_102 : decode cX5_digest 102 = .ok (.imul, 1) := by decide +kernel
theorem dX5_digest_103 : decode cX5_digest 103 = .ok (.iaload, 1) := by decide +kernel
theorem dX5_digest_104 : decode cX5_digest 104 = .ok (.invokevirtual 250, 3) := by decide +kernel
theorem dX5_digest_107 : decode cX5_digest 107 = .ok (.iinc 1 1, 3) := by decide +kernel
theorem dX5_digest_110 : decode cX5_digest 110 = .ok (.goto (-39), 3) := by decide +kernel
theorem dX5_digest_113 : decode cX5_digest 113 = .ok (.iconst 0, 1) := by decide +kernel
theorem dX5_digest_114 : decode cX5_digest 114 = .ok (.istore_n 1, 1) := by decide +kernel
theorem dX5_digest_115 : decode cX5_digest 115 = .ok (.iload_n 1, 1) := by decide +kernel
theorem dX5_digest_116 : decode cX5_digest 116 = .ok (.bipush 6, 2) := by decide +kernel
theorem dX5_digest_118 : decode cX5_digest 118 = .ok (.if_icmp .ge 60, 3) := by decide +kernel
theorem dX5_digest_121 : decode cX5_digest 121 = .ok (.aload_n 0, 1) := by decide +kernel
theorem dX5_digest_122 : decode cX5_digest 122 = .ok (.aload_n 0, 1) := by decide +kernel
theorem dX5_digest_123 : decode cX5_digest 123 = .ok (.getfield 17, 3) := by decide +kernel
theorem dX5_digest_126 : decode cX5_digest 126 = .ok (.iload_n 1, 1) := by decide +kernel
theorem dX5_digest_127 : decode cX5_digest 127 = .ok (.iaload, 1) := by decide +kernel
theorem dX5_digest_128 : decode cX5_digest 128 = .ok (.ifCond .ge 7, 3) := by decide +kernel
theorem dX5_digest_131 : decode cX5_digest 131 = .ok (.iconst (-1), 1) := by decide +kernel
theorem dX5_digest_132 : decode cX5_digest 132 = .ok (.goto 9, 3) := by decide +kernel
theorem dX5_digest_135 : decode cX5_digest 135 = .ok (.aload_n 0, 1) := by decide +kernel
theorem dX5_digest_136 : decode cX5_digest 136 = .ok (.getfield 17, 3) := by decide +kernel
theorem dX5_digest_139 : decode cX5_digest 139 = .ok (.iload_n 1, 1) := by decide +kernel
theorem dX5_digest_140 : decode cX5_digest 140 = .ok (.iaload, 1) := by decide +kernel
theorem dX5_digest_141 : decode cX5_digest 141 = .ok (.invokevirtual 250, 3) := by decide +kernel
theorem dX5_digest_144 : decode cX5_digest 144 = .ok (.iconst 0, 1) := by decide +kernel
theorem dX5_digest_145 : decode cX5_digest 145 = .ok (.istore_n 2, 1) := by decide +kernel
theorem dX5_digest_146 : decode cX5_digest 146 = .ok (.iload_n 2, 1) := by decide +kernel
theorem dX5_digest_147 : decode cX5_digest 147 = .ok (.aload_n 0, 1) := by decide +kernel
theorem dX5_digest_148 : decode cX5_digest 148 = .ok (.getfield 17, 3) := by decide +kernel
theorem dX5_digest_151 : decode cX5_digest 151 = .ok (.iload_n 1, 1) := by decide +kernel
theorem dX5_digest_152 : decode cX5_digest 152 = .ok (.iaload, 1) := by decide +kernel
theorem dX5_digest_153 : decode cX5_digest 153 = .ok (.if_icmp .ge 19, 3) := by decide +kernel
theorem dX5_digest_156 : decode cX5_digest 156 = .ok (.aload_n 0, 1) := by decide +kernel
theorem dX5_digest_157 : decode cX5_digest 157 = .ok (.aload_n 0, 1) := by decide +kernel
theorem dX5_digest_158 : decode cX5_digest 158 = .ok (.iload_n 1, 1) := by decide +kernel
theorem dX5_digest_159 : decode cX5_digest 159 = .ok (.iload_n 2, 1) := by decide +kernel
theorem dX5_digest_160 : decode cX5_digest 160 = .ok (.invokevirtual 82, 3) := by decide +kernel
theorem dX5_digest_163 : decode cX5_digest 163 = .ok (.invokevirtual 250, 3) := by decide +kernel
theorem dX5_digest_166 : decode cX5_digest 166 = .ok (.iinc 2 1, 3) := by decide +kernel
theorem dX5_digest_169 : decode cX5_digest 169 = .ok (.goto (-23), 3) := by decide +kernel
theorem dX5_digest_172 : decode cX5_digest 172 = .ok (.iinc 1 1, 3) := by decide +kernel
theorem dX5_digest_175 : decode cX5_digest 175 = .ok (.goto (-60), 3) := by decide +kernel
theorem dX5_digest_178 : decode cX5_digest 178 = .ok (.iconst 0, 1) := by decide +kernel
theorem dX5_digest_179 : decode cX5_digest 179 = .ok (.istore_n 1, 1) := by decide +kernel
theorem dX5_digest_180 : decode cX5_digest 180 = .ok (.iload_n 1, 1) := by decide +kernel
theorem dX5_digest_181 : decode cX5_digest 181 = .ok (.iconst 4, 1) := by decide +kernel
theorem dX5_digest_182 : decode cX5_digest 182 = .ok (.if_icmp .ge 65, 3) := by decide +kernel
theorem dX5_digest_185 : decode cX5_digest 185 = .ok (.aload_n 0, 1) := by decide +kernel
theorem dX5_digest_186 : decode cX5_digest 186 = .ok (.aload_n 0, 1) := by decide +kernel
theorem dX5_digest_187 : decode cX5_digest 187 = .ok (.getfield 26, 3) := by decide +kernel
theorem dX5_digest_190 : decode cX5_digest 190 = .ok (.iload_n 1, 1) := by decide +kernel
theorem dX5_digest_191 : decode cX5_digest 191 = .ok (.iaload, 1) := by decide +kernel
theorem dX5_digest_192 : decode cX5_digest 192 = .ok (.ifCond .ge 7, 3) := by decide +kernel
theorem dX5_digest_195 : decode cX5_digest 195 = .ok (.iconst (-1), 1) := by decide +kernel
theorem dX5_digest_196 : decode cX5_digest 196 = .ok (.goto 9, 3) := by decide +kernel
theorem dX5_digest_199 : decode cX5_digest 199 = .ok (.aload_n 0, 1) := by decide +kernel
theorem dX5_digest_200 : decode cX5_digest 200 = .ok (.getfield 26, 3) := by decide +kernel
theorem dX5_digest_203 : decode cX5_digest 203 = .ok (.iload_n 1, 1) := by decide +kernel
theorem dX5_digest_204 : decode cX5_digest 204 = .ok (.iaload, 1) := by decide +kernel
theorem dX5_digest_205 : decode cX5_digest 205 = .ok (.invokevirtual 250, 3) := by decide +kernel
theorem dX5_digest_208 : decode cX5_digest 208 = .ok (.iconst 0, 1) := by decide +kernel
theorem dX5_digest_209 : decode cX5_digest 209 = .ok (.istore_n 2, 1) := by decide +kernel
theorem dX5_digest_210 : decode cX5_digest 210 = .ok (.iload_n 2, 1) := by decide +kernel
theorem dX5_digest_211 : decode cX5_digest 211 = .ok (.aload_n 0, 1) := by decide +kernel
theorem dX5_digest_212 : decode cX5_digest 212 = .ok (.getfield 26, 3) := by decide +kernel
theorem dX5_digest_215 : decode cX5_digest 215 = .ok (.iload_n 1, 1) := by decide +kernel
theorem dX5_digest_216 : decode cX5_digest 216 = .ok (.iaload, 1) := by decide +kernel
theorem dX5_digest_217 : decode cX5_digest 217 = .ok (.if_icmp .ge 24, 3) := by decide +kernel
theorem dX5_digest_220 : decode cX5_digest 220 = .ok (.aload_n 0, 1) := by decide +kernel
theorem dX5_digest_221 : decode cX5_digest 221 = .ok (.aload_n 0, 1) := by decide +kernel
theorem dX5_digest_222 : decode cX5_digest 222 = .ok (.getfield 29, 3) := by decide +kernel
theorem dX5_digest_225 : decode cX5_digest 225 = .ok (.bipush 60, 2) := by decide +kernel
theorem dX5_digest_227 : decode cX5_digest 227 = .ok (.iload_n 1, 1) := by decide +kernel
theorem dX5_digest_228 : decode cX5_digest 228 = .ok (.imul, 1) := by decide +kernel
theorem dX5_digest_229 : decode cX5_digest 229 = .ok (.iload_n 2, 1) := by decide +kernel
theorem dX5_digest_230 : decode cX5_digest 230 = .ok (.iadd, 1) := by decide +kernel
theorem dX5_digest_231 : decode cX5_digest 231 = .ok (.iaload, 1) := by decide +kernel
theorem dX5_digest_232 : decode cX5_digest 232 = .ok (.invokevirtual 250, 3) := by decide +kernel
theorem dX5_digest_235 : decode cX5_digest 235 = .ok (.iinc 2 1, 3) := by decide +kernel
theorem dX5_digest_238 : decode cX5_digest 238 = .ok (.goto (-28), 3) := by decide +kernel
theorem dX5_digest_241 : decode cX5_digest 241 = .ok (.iinc 1 1, 3) := by decide +kernel
theorem dX5_digest_244 : decode cX5_digest 244 = .ok (.goto (-64), 3) := by decide +kernel
theorem dX5_digest_247 : decode cX5_digest 247 = .ok (.aload_n 0, 1) := by decide +kernel
theorem dX5_digest_248 : decode cX5_digest 248 = .ok (.getfield 245, 3) := by decide +kernel
theorem dX5_digest_251 : decode cX5_digest 251 = .ok (.lreturn, 1) := by decide +kernel
theorem dJ6_bitCount_0f7a4_0 : decode cJ6_bitCount_0f7a4 0 = .ok (.iload_n 0, 1) := by decide +kernel
theorem dJ6_bitCount_0f7a4_1 : decode cJ6_bitCount_0f7a4 1 = .ok (.iload_n 0, 1) := by decide +kernel
theorem dJ6_bitCount_0f7a4_2 : decode cJ6_bitCount_0f7a4 2 = .ok (.iconst 1, 1) := by decide +kernel
theorem dJ6_bitCount_0f7a4_3 : decode cJ6_bitCount_0f7a4 3 = .ok (.iushr, 1) := by decide +kernel
theorem dJ6_bitCount_0f7a4_4 : decode cJ6_bitCount_0f7a4 4 = .ok (.ldc_w 265, 3) := by decide +kernel
theorem dJ6_bitCount_0f7a4_7 : decode cJ6_bitCount_0f7a4 7 = .ok (.iand, 1) := by decide +kernel
theorem dJ6_bitCount_0f7a4_8 : decode cJ6_bitCount_0f7a4 8 = .ok (.isub, 1) := by decide +kernel
theorem dJ6_bitCount_0f7a4_9 : decode cJ6_bitCount_0f7a4 9 = .ok (.istore_n 0, 1) := by decide +kernel
theorem dJ6_bitCount_0f7a4_10 : decode cJ6_bitCount_0f7a4 10 = .ok (.iload_n 0, 1) := by decide +kernel
theorem dJ6_bitCount_0f7a4_11 : decode cJ6_bitCount_0f7a4 11 = .ok (.ldc_w 266, 3) := by decide +kernel
theorem dJ6_bitCount_0f7a4_14 : decode cJ6_bitCount_0f7a4 14 = .ok (.iand, 1) := by decide +kernel
theorem dJ6_bitCount_0f7a4_15 : decode cJ6_bitCount_0f7a4 15 = .ok (.iload_n 0, 1) := by decide +kernel
theorem dJ6_bitCount_0f7a4_16 : decode cJ6_bitCount_0f7a4 16 = .ok (.iconst 2, 1) := by decide +kernel
theorem dJ6_bitCount_0f7a4_17 : decode cJ6_bitCount_0f7a4 17 = .ok (.iushr, 1) := by decide +kernel
theorem dJ6_bitCount_0f7a4_18 : decode cJ6_bitCount_0f7a4 18 = .ok (.ldc_w 266, 3) := by decide +kernel
theorem dJ6_bitCount_0f7a4_21 : decode cJ6_bitCount_0f7a4 21 = .ok (.iand, 1) := by decide +kernel
theorem dJ6_bitCount_0f7a4_22 : decode cJ6_bitCount_0f7a4 22 = .ok (.iadd, 1) := by decide +kernel
theorem dJ6_bitCount_0f7a4_23 : decode cJ6_bitCount_0f7a4 23 = .ok (.istore_n 0, 1) := by decide +kernel
theorem dJ6_bitCount_0f7a4_24 : decode cJ6_bitCount_0f7a4 24 = .ok (.iload_n 0, 1) := by decide +kernel
theorem dJ6_bitCount_0f7a4_25 : decode cJ6_bitCount_0f7a4 25 = .ok (.iload_n 0, 1) := by decide +kernel
theorem dJ6_bitCount_0f7a4_26 : decode cJ6_bitCount_0f7a4 26 = .ok (.iconst 4, 1) := by decide +kernel
theorem dJ6_bitCount_0f7a4_27 : decode cJ6_bitCount_0f7a4 27 = .ok (.iushr, 1) := by decide +kernel
theorem dJ6_bitCount_0f7a4_28 : decode cJ6_bitCount_0f7a4 28 = .ok (.iadd, 1) := by decide +kernel
theorem dJ6_bitCount_0f7a4_29 : decode cJ6_bitCount_0f7a4 29 = .ok (.ldc_w 267, 3) := by decide +kernel
theorem dJ6_bitCount_0f7a4_32 : decode cJ6_bitCount_0f7a4 32 = .ok (.iand, 1) := by decide +kernel
theorem dJ6_bitCount_0f7a4_33 : decode cJ6_bitCount_0f7a4 33 = .ok (.istore_n 0, 1) := by decide +kernel
theorem dJ6_bitCount_0f7a4_34 : decode cJ6_bitCount_0f7a4 34 = .ok (.iload_n 0, 1) := by decide +kernel
theorem dJ6_bitCount_0f7a4_35 : decode cJ6_bitCount_0f7a4 35 = .ok (.iload_n 0, 1) := by decide +kernel
theorem dJ6_bitCount_0f7a4_36 : decode cJ6_bitCount_0f7a4 36 = .ok (.bipush 8, 2) := by decide +kernel
theorem dJ6_bitCount_0f7a4_38 : decode cJ6_bitCount_0f7a4 38 = .ok (.iushr, 1) := by decide +kernel
theorem dJ6_bitCount_0f7a4_39 : decode cJ6_bitCount_0f7a4 39 = .ok (.iadd, 1) := by decide +kernel
theorem dJ6_bitCount_0f7a4_40 : decode cJ6_bitCount_0f7a4 40 = .ok (.istore_n 0, 1) := by decide +kernel
theorem dJ6_bitCount_0f7a4_41 : decode cJ6_bitCount_0f7a4 41 = .ok (.iload_n 0, 1) := by decide +kernel
theorem dJ6_bitCount_0f7a4_42 : decode cJ6_bitCount_0f7a4 42 = .ok (.iload_n 0, 1) := by decide +kernel
theorem dJ6_bitCount_0f7a4_43 : decode cJ6_bitCount_0f7a4 43 = .ok (.bipush 16, 2) := by decide +kernel
theorem dJ6_bitCount_0f7a4_45 : decode cJ6_bitCount_0f7a4 45 = .ok (.iushr, 1) := by decide +kernel
theorem dJ6_bitCount_0f7a4_46 : decode cJ6_bitCount_0f7a4 46 = .ok (.iadd, 1) := by decide +kernel
theorem dJ6_bitCount_0f7a4_47 : decode cJ6_bitCount_0f7a4 47 = .ok (.istore_n 0, 1) := by decide +kernel
theorem dJ6_bitCount_0f7a4_48 : decode cJ6_bitCount_0f7a4 48 = .ok (.iload_n 0, 1) := by decide +kernel
theorem dJ6_bitCount_0f7a4_49 : decode cJ6_bitCount_0f7a4 49 = .ok (.bipush 63, 2) := by decide +kernel
theorem dJ6_bitCount_0f7a4_51 : decode cJ6_bitCount_0f7a4 51 = .ok (.iand, 1) := by decide +kernel
theorem dJ6_bitCount_0f7a4_52 : decode cJ6_bitCount_0f7a4 52 = .ok (.ireturn, 1) := by decide +kernel
theorem dJ9_abs_0f7a4_0 : decode cJ9_abs_0f7a4 0 = .ok (.iload_n 0, 1) := by decide +kernel
theorem dJ9_abs_0f7a4_1 : decode cJ9_abs_0f7a4 1 = .ok (.ifCond .ge 8, 3) := by decide +kernel
theorem dJ9_abs_0f7a4_4 : decode cJ9_abs_0f7a4 4 = .ok (.iload_n 0, 1) := by decide +kernel
theorem dJ9_abs_0f7a4_5 : decode cJ9_abs_0f7a4 5 = .ok (.ineg, 1) := by decide +kernel
theorem dJ9_abs_0f7a4_6 : decode cJ9_abs_0f7a4 6 = .ok (.goto 4, 3) := by decide +kernel
theorem dJ9_abs_0f7a4_9 : decode cJ9_abs_0f7a4 9 = .ok (.iload_n 0, 1) := by decide +kernel
theorem dJ9_abs_0f7a4_10 : decode cJ9_abs_0f7a4 10 = .ok (.ireturn, 1) := by decide +kernel
theorem dJ9_max_7cf53_0 : decode cJ9_max_7cf53 0 = .ok (.iload_n 0, 1) := by decide +kernel
theorem dJ9_max_7cf53_1 : decode cJ9_max_7cf53 1 = .ok (.iload_n 1, 1) := by decide +kernel
theorem dJ9_max_7cf53_2 : decode cJ9_max_7cf53 2 = .ok (.if_icmp .lt 7, 3) := by decide +kernel
theorem dJ9_max_7cf53_5 : decode cJ9_max_7cf53 5 = .ok (.iload_n 0, 1) := by decide +kernel
theorem dJ9_max_7cf53_6 : decode cJ9_max_7cf53 6 = .ok (.goto 4, 3) := by decide +kernel
theorem dJ9_max_7cf53_9 : decode cJ9_max_7cf53 9 = .ok (.iload_n 1, 1) := by decide +kernel
theorem dJ9_max_7cf53_10 : decode cJ9_max_7cf53 10 = .ok (.ireturn, 1) := by decide +kernel
theorem dJ9_min_7cf53_0 : decode cJ9_min_7cf53 0 = .ok (.iload_n 0, 1) := by decide +kernel
theorem dJ9_min_7cf53_1 : decode cJ9_min_7cf53 1 = .ok (.iload_n 1, 1) := by decide +kernel
theorem dJ9_min_7cf53_2 : decode cJ9_min_7cf53 2 = .ok (.if_icmp .gt 7, 3) := by decide +kernel
theorem dJ9_min_7cf53_5 : decode cJ9_min_7cf53 5 = .ok (.iload_n 0, 1) := by decide +kernel
theorem dJ9_min_7cf53_6 : decode cJ9_min_7cf53 6 = .ok (.goto 4, 3) := by decide +kernel
theorem dJ9_min_7cf53_9 : decode cJ9_min_7cf53 9 = .ok (.iload_n 1, 1) := by decide +kernel
theorem dJ9_min_7cf53_10 : decode cJ9_min_7cf53 10 = .ok (.ireturn, 1) := by decide +kernel
theorem dL_law_0 : decode cL_law 0 = .ok (.new 7, 3) := by decide +kernel
theorem dL_law_3 : decode cL_law 3 = .ok (.dup, 1) := by decide +kernel
theorem dL_law_4 : decode cL_law 4 = .ok (.invokespecial 9, 3) := by decide +kernel
theorem dL_law_7 : decode cL_law 7 = .ok (.astore_n 1, 1) := by decide +kernel
theorem dL_law_8 : decode cL_law 8 = .ok (.new 10, 3) := by decide +kernel
theorem dL_law_11 : decode cL_law 11 = .ok (.dup, 1) := by decide +kernel
theorem dL_law_12 : decode cL_law 12 = .ok (.invokespecial 12, 3) := by decide +kernel
theorem dL_law_15 : decode cL_law 15 = .ok (.astore_n 2, 1) := by decide +kernel
theorem dL_law_16 : decode cL_law 16 = .ok (.iconst 0, 1) := by decide +kernel
theorem dL_law_17 : decode cL_law 17 = .ok (.istore_n 3, 1) := by decide +kernel
theorem dL_law_18 : decode cL_law 18 = .ok (.iload_n 3, 1) := by decide +kernel
theorem dL_law_19 : decode cL_law 19 = .ok (.aload_n 0, 1) := by decide +kernel
theorem dL_law_20 : decode cL_law 20 = .ok (.arraylength, 1) := by decide +kernel
theorem dL_law_21 : decode cL_law 21 = .ok (.bipush 6, 2) := by decide +kernel
theorem dL_law_23 : decode cL_law 23 = .ok (.isub, 1) := by decide +kernel
theorem dL_law_24 : decode cL_law 24 = .ok (.if_icmp .gt 1997, 3) := by decide +kernel
theorem dL_law_27 : decode cL_law 27 = .ok (.aload_n 0, 1) := by decide +kernel
theorem dL_law_28 : decode cL_law 28 = .ok (.iload_n 3, 1) := by decide +kernel
theorem dL_law_29 : decode cL_law 29 = .ok (.iaload, 1) := by decide +kernel
theorem dL_law_30 : decode cL_law 30 = .ok (.bipush 63, 2) := by decide +kernel
theorem dL_law_32 : decode cL_law 32 = .ok (.iand, 1) := by decide +kernel
theorem dL_law_33 : decode cL_law 33 = .ok (.tableswitch 1982 0 51 #[223, 256, 299, 332, 355, 418, 441, 474, 517, 540, 563, 596, 629, 662, 695, 728, 751, 774, 797, 820, 853, 886, 919, 962, 1005, 1038, 1071, 1124, 1157, 1180, 1233, 1266, 1319, 1362, 1385, 1438, 1491, 1544, 1587, 1620, 1643, 1676, 1729, 1772, 1815, 1868, 1881, 1895, 1909, 1932, 1945, 1968], 223) := by decide +kernel
theorem dL_law_256 : decode cL_law 256 = .ok (.aload_n 1, 1) := by decide +kernel
theorem dL_law_257 : decode cL_law 257 = .ok (.aload_n 0, 1) := by decide +kernel
theorem dL_law_258 : decode cL_law 258 = .ok (.iload_n 3, 1) := by decide +kernel
theorem dL_law_259 : decode cL_law 259 = .ok (.iconst 1, 1) := by decide +kernel
theorem dL_law_260 : decode cL_law 260 = .ok (.iadd, 1) := by decide +kernel
theorem dL_law_261 : decode cL_law 261 = .ok (.iaload, 1) := by decide +kernel
theorem dL_law_262 : decode cL_law 262 = .ok (.aload_n 0, 1) := by decide +kernel
theorem dL_law_263 : decode cL_law 263 = .ok (.iload_n 3, 1) := by decide +kernel
theorem dL_law_264 : decode cL_law 264 = .ok (.iconst 2, 1) := by decide +kernel
theorem dL_law_265 : decode cL_law 265 = .ok (.iadd, 1) := by decide +kernel
theorem dL_law_266 : decode cL_law 266 = .ok (.iaload, 1) := by decide +kernel
theorem dL_law_267 : decode cL_law 267 = .ok (.invokevirtual 13, 3) := by decide +kernel
theorem dL_law_270 : decode cL_law 270 = .ok (.aload_n 2, 1) := by decide +kernel
theorem dL_law_271 : decode cL_law 271 = .ok (.aload_n 0, 1) := by decide +kernel
theorem dL_law_272 : decode cL_law 272 = .ok (.iload_n 3, 1) := by decide +kernel
theorem dL_law_273 : decode cL_law 273 = .ok (.iconst 1, 1) := by decide +kernel
theorem dL_law_274 : decode cL_law 274 = .ok (.iadd, 1) := by decide +kernel
theorem dL_law_275 : decode cL_law 275 = .ok (.iaload, 1) := by decide +kernel
theorem dL_law_276 : decode cL_law 276 = .ok (.aload_n 0, 1) := by decide +kernel
theorem dL_law_277 : decode cL_law 277 = .ok (.iload_n 3, 1) := by decide +kernel
theorem dL_law_278 : decode cL_law 278 = .ok (.iconst 2, 1) := by decide +kernel
theorem dL_law_279 : decode cL_law 279 = .ok (.iadd, 1) := by decide +kernel
theorem dL_law_280 : decode cL_law 280 = .ok (.iaload, 1) := by decide +kernel
theorem dL_law_281 : decode cL_law 281 = .ok (.invokevirtual 17, 3) := by decide +kernel
theorem dL_law_284 : decode cL_law 284 = .ok (.if_icmp .eq 1731, 3) := by decide +kernel
theorem dL_law_287 : decode cL_law 287 = .ok (.iconst 0, 1) := by decide +kernel
theorem dL_law_288 : decode cL_law 288 = .ok (.ireturn, 1) := by decide +kernel
theorem dL_law_289 : decode cL_law 289 = .ok (.aload_n 1, 1) := by decide +kernel
theorem dL_law_290 : decode cL_law 290 = .ok (.aload_n 0, 1) := by decide +kernel
theorem dL_law_291 : decode cL_law 291 = .ok (.iload_n 3, 1) := by decide +kernel
theorem dL_law_292 : decode cL_law 292 = .ok (.iconst 1, 1) := by decide +kernel
theorem dL_law_293 : decode cL_law 293 = .ok (.iadd, 1) := by decide +kernel
theorem dL_law_294 : decode cL_law 294 = .ok (.iaload, 1) := by decide +kernel
theorem dL_law_295 : decode cL_law 295 = .ok (.aload_n 0, 1) := by decide +kernel
theorem dL_law_296 : decode cL_law 296 = .ok (.iload_n 3, 1) := by decide +kernel
theorem dL_law_297 : decode cL_law 297 = .ok (.iconst 2, 1) := by decide +kernel
theorem dL_law_298 : decode cL_law 298 = .ok (.iadd, 1) := by decide +kernel
theorem dL_law_299 : decode cL_law 299 = .ok (.iaload, 1) := by decide +kernel
theorem dL_law_300 : decode cL_law 300 = .ok (.aload_n 0, 1) := by decide +kernel
theorem dL_law_301 : decode cL_law 301 = .ok (.iload_n 3, 1) := by decide +kernel
theorem dL_law_302 : decode cL_law 302 = .ok (.iconst 3, 1) := by decide +kernel
theorem dL_law_303 : decode cL_law 303 = .ok (.iadd, 1) := by decide +kernel
theorem dL_law_304 : decode cL_law 304 = .ok (.iaload, 1) := by decide +kernel
theorem dL_law_305 : decode cL_law 305 = .ok (.invokevirtual 18, 3) := by decide +kernel
theorem dL_law_308 : decode cL_law 308 = .ok (.aload_n 2, 1) := by decide +kernel
theorem dL_law_309 : decode cL_law 309 = .ok (.aload_n 0, 1) := by decide +kernel
theorem dL_law_310 : decode cL_law 310 = .ok (.iload_n 3, 1) := by decide +kernel
theorem dL_law_311 : decode cL_law 311 = .ok (.iconst 1, 1) := by decide +kernel
theorem dL_law_312 : decode cL_law 312 = .ok (.iadd, 1) := by decide +kernel
theorem dL_law_313 : decode cL_law 313 = .ok (.iaload, 1) := by decide +kernel
theorem dL_law_314 : decode cL_law 314 = .ok (.aload_n 0, 1) := by decide +kernel
theorem dL_law_315 : decode cL_law 315 = .ok (.iload_n 3, 1) := by decide +kernel
theorem dL_law_316 : decode cL_law 316 = .ok (.iconst 2, 1) := by decide +kernel
theorem dL_law_317 : decode cL_law 317 = .ok (.iadd, 1) := by decide +kernel
theorem dL_law_318 : decode cL_law 318 = .ok (.iaload, 1) := by decide +kernel
theorem dL_law_319 : decode cL_law 319 = .ok (.aload_n 0, 1) := by decide +kernel
theorem dL_law_320 : decode cL_law 320 = .ok (.iload_n 3, 1) := by decide +kernel
theorem dL_law_321 : decode cL_law 321 = .ok (.iconst 3, 1) := by decide +kernel
theorem dL_law_322 : decode cL_law 322 = .ok (.iadd, 1) := by decide +kernel
theorem dL_law_323 : decode cL_law 323 = .ok (.iaload, 1) := by decide +kernel
theorem dL_law_324 : decode cL_law 324 = .ok (.invokevirtual 22, 3) := by decide +kernel
theorem dL_law_327 : decode cL_law 327 = .ok (.if_icmp .eq 1688, 3) := by decide +kernel
theorem dL_law_330 : decode cL_law 330 = .ok (.iconst 0, 1) := by decide +kernel
theorem dL_law_331 : decode cL_law 331 = .ok (.ireturn, 1) := by decide +kernel
theorem dL_law_332 : decode cL_law 332 = .ok (.aload_n 1, 1) := by decide +kernel
theorem dL_law_333 : decode cL_law 333 = .ok (.aload_n 0, 1) := by decide +kernel
theorem dL_law_334 : decode cL_law 334 = .ok (.iload_n 3, 1) := by decide +kernel
theorem dL_law_335 : decode cL_law 335 = .ok (.iconst 1, 1) := by decide +kernel
theorem dL_law_336 : decode cL_law 336 = .ok (.iadd, 1) := by decide +kernel
theorem dL_law_337 : decode cL_law 337 = .ok (.iaload, 1) := by decide +kernel
theorem dL_law_338 : decode cL_law 338 = .ok (.aload_n 0, 1) := by decide +kernel
theorem dL_law_339 : decode cL_law 339 = .ok (.iload_n 3, 1) := by decide +kernel
theorem dL_law_340 : decode cL_law 340 = .ok (.iconst 2, 1) := by decide +kernel
theorem dL_law_341 : decode cL_law 341 = .ok (.iadd, 1) := by decide +kernel
theorem dL_law_342 : decode cL_law 342 = .ok (.iaload, 1) := by decide +kernel
theorem dL_law_343 : decode cL_law 343 = .ok (.invokevirtual 23, 3) := by decide +kernel
theorem dL_law_346 : decode cL_law 346 = .ok (.aload_n 2, 1) := by decide +kernel
theorem dL_law_347 : decode cL_law 347 = .ok (.aload_n 0, 1) := by decide +kernel
theorem dL_law_348 : decode cL_law 348 = .ok (.iload_n 3, 1) := by decide +kernel
theorem dL_law_349 : decode cL_law 349 = .ok (.iconst 1, 1) := by decide +kernel
theorem dL_law_350 : decode cL_law 350 = .ok (.iadd, 1) := by decide +kernel
theorem dL_law_351 : decode cL_law 351 = .ok (.iaload, 1) := by decide +kernel
theorem dL_law_352 : decode cL_law 352 = .ok (.aload_n 0, 1) := by decide +kernel
theorem dL_law_353 : decode cL_law 353 = .ok (.iload_n 3, 1) := by decide +kernel
theorem dL_law_354 : decode cL_law 354 = .ok (.iconst 2, 1) := by decide +kernel
theorem dL_law_355 : decode cL_law 355 = .ok (.iadd, 1) := by decide +kernel
theorem dL_law_356 : decode cL_law 356 = .ok (.iaload, 1) := by decide +kernel
theorem dL_law_357 : decode cL_law 357 = .ok (.invokevirtual 26, 3) := by decide +kernel
theorem dL_law_360 : decode cL_law 360 = .ok (.if_icmp .eq 1655, 3) := by decide +kernel
theorem dL_law_363 : decode cL_law 363 = .ok (.iconst 0, 1) := by decide +kernel
theorem dL_law_364 : decode cL_law 364 = .ok (.ireturn, 1) := by decide +kernel
theorem dL_law_365 : decode cL_law 365 = .ok (.aload_n 1, 1) := by decide +kernel
theorem dL_law_366 : decode cL_law 366 = .ok (.aload_n 0, 1) := by decide +kernel
theorem dL_law_367 : decode cL_law 367 = .ok (.iload_n 3, 1) := by decide +kernel
theorem dL_law_368 : decode cL_law 368 = .ok (.iconst 1, 1) := by decide +kernel
theorem dL_law_369 : decode cL_law 369 = .ok (.iadd, 1) := by decide +kernel
theorem dL_law_370 : decode cL_law 370 = .ok (.iaload, 1) := by decide +kernel
theorem dL_law_371 : decode cL_law 371 = .ok (.invokevirtual 27, 3) := by decide +kernel
theorem dL_law_374 : decode cL_law 374 = .ok (.aload_n 2, 1) := by decide +kernel
theorem dL_law_375 : decode cL_law 375 = .ok (.aload_n 0, 1) := by decide +kernel
theorem dL_law_376 : decode cL_law 376 = .ok (.iload_n 3, 1) := by decide +kernel
theorem dL_law_377 : decode cL_law 377 = .ok (.iconst 1, 1) := by decide +kernel
theorem dL_law_378 : decode cL_law 378 = .ok (.iadd, 1) := by decide +kernel
theorem dL_law_379 : decode cL_law 379 = .ok (.iaload, 1) := by decide +kernel
theorem dL_law_380 : decode cL_law 380 = .ok (.invokevirtual 31, 3) := by decide +kernel
theorem dL_law_383 : decode cL_law 383 = .ok (.if_icmp .eq 1632, 3) := by decide +kernel
theorem dL_law_386 : decode cL_law 386 = .ok (.iconst 0, 1) := by decide +kernel
theorem dL_law_387 : decode cL_law 387 = .ok (.ireturn, 1) := by decide +kernel
theorem dL_law_388 : decode cL_law 388 = .ok (.aload_n 1, 1) := by decide +kernel
theorem dL_law_389 : decode cL_law 389 = .ok (.aload_n 0, 1) := by decide +kernel
theorem dL_law_390 : decode cL_law 390 = .ok (.iload_n 3, 1) := by decide +kernel
theorem dL_law_391 : decode cL_law 391 = .ok (.iconst 1, 1) := by decide +kernel
theorem dL_law_392 : decode cL_law 392 = .ok (.iadd, 1) := by decide +kernel
theorem dL_law_393 : decode cL_law 393 = .ok (.iaload, 1) := by decide +kernel
theorem dL_law_394 : decode cL_law 394 = .ok (.aload_n 0, 1) := by decide +kernel
theorem dL_law_395 : decode cL_law 395 = .ok (.iload_n 3, 1) := by decide +kernel
theorem dL_law_396 : decode cL_law 396 = .ok (.iconst 2, 1) := by decide +kernel
theorem dL_law_397 : decode cL_law 397 = .ok (.iadd, 1) := by decide +kernel
theorem dL_law_398 : decode cL_law 398 = .ok (.iaload, 1) := by decide +kernel
theorem dL_law_399 : decode cL_law 399 = .ok (.aload_n 0, 1) := by decide +kernel
theorem dL_law_400 : decode cL_law 400 = .ok (.iload_n 3, 1) := by decide +kernel
theorem dL_law_401 : decode cL_law 401 = .ok (.iconst 3, 1) := by decide +kernel
theorem dL_law_402 : decode cL_law 402 = .ok (.iadd, 1) := by decide +kernel
theorem dL_law_403 : decode cL_law 403 = .ok (.iaload, 1) := by decide +kernel
theorem dL_law_404 : decode cL_law 404 = .ok (.aload_n 0, 1) := by decide +kernel
theorem dL_law_405 : decode cL_law 405 = .ok (.iload_n 3, 1) := by decide +kernel
theorem dL_law_406 : decode cL_law 406 = .ok (.iconst 4, 1) := by decide +kernel
theorem dL_law_407 : decode cL_law 407 = .ok (.iadd, 1) := by decide +kernel
theorem dL_law_408 : decode cL_law 408 = .ok (.iaload, 1) := by decide +kernel
theorem dL_law_409 : decode cL_law 409 = .ok (.aload_n 0, 1) := by decide +kernel
theorem dL_law_410 : decode cL_law 410 = .ok (.iload_n 3, 1) := by decide +kernel
theorem dL_law_411 : decode cL_law 411 = .ok (.iconst 5, 1) := by decide +kernel
theorem dL_law_412 : decode cL_law 412 = .ok (.iadd, 1) := by decide +kernel
theorem dL_law_413 : decode cL_law 413 = .ok (.iaload, 1) := by decide +kernel
theorem dL_law_414 : decode cL_law 414 = .ok (.invokevirtual 32, 3) := by decide +kernel
theorem dL_law_417 : decode cL_law 417 = .ok (.aload_n 2, 1) := by decide +kernel
theorem dL_law_418 : decode cL_law 418 = .ok (.aload_n 0, 1) := by decide +kernel
theorem dL_law_419 : decode cL_law 419 = .ok (.iload_n 3, 1) := by decide +kernel
theorem dL_law_420 : decode cL_law 420 = .ok (.iconst 1, 1) := by decide +kernel
theorem dL_law_421 : decode cL_law 421 = .ok (.iadd, 1) := by decide +kernel
theorem dL_law_422 : decode cL_law 422 = .ok (.iaload, 1) := by decide +kernel
theorem dL_law_423 : decode cL_law 423 = .ok (.aload_n 0, 1) := by decide +kernel
theorem dL_law_424 : decode cL_law 424 = .ok (.iload_n 3, 1) := by decide +kernel
theorem dL_law_425 : decode cL_law 425 = .ok (.iconst 2, 1) := by decide +kernel
theorem dL_law_426 : decode cL_law 426 = .ok (.iadd, 1) := by decide +kernel
theorem dL_law_427 : decode cL_law 427 = .ok (.iaload, 1) := by decide +kernel
theorem dL_law_428 : decode cL_law 428 = .ok (.aload_n 0, 1) := by decide +kernel
theorem dL_law_429 : decode cL_law 429 = .ok (.iload_n 3, 1) := by decide +kernel
theorem dL_law_430 : decode cL_law 430 = .ok (.iconst 3, 1) := by decide +kernel
theorem dL_law_431 : decode cL_law 431 = .ok (.iadd, 1) := by decide +kernel
theorem dL_law_432 : decode cL_law 432 = .ok (.iaload, 1) := by decide +kernel
theorem dL_law_433 : decode cL_law 433 = .ok (.aload_n 0, 1) := by decide +kernel
theorem dL_law_434 : decode cL_law 434 = .ok (.iload_n 3, 1) := by decide +kernel
theorem dL_law_435 : decode cL_law 435 = .ok (.iconst 4, 1) := by decide +kernel
theorem dL_law_436 : decode cL_law 436 = .ok (.iadd, 1) := by decide +kernel
theorem dL_law_437 : decode cL_law 437 = .ok (.iaload, 1) := by decide +kernel
theorem dL_law_438 : decode cL_law 438 = .ok (.aload_n 0, 1) := by decide +kernel
theorem dL_law_439 : decode cL_law 439 = .ok (.iload_n 3, 1) := by decide +kernel
theorem dL_law_440 : decode cL_law 440 = .ok (.iconst 5, 1) := by decide +kernel
theorem dL_law_441 : decode cL_law 441 = .ok (.iadd, 1) := by decide +kernel
theorem dL_law_442 : decode cL_law 442 = .ok (.iaload, 1) := by decide +kernel
theorem dL_law_443 : decode cL_law 443 = .ok (.invokevirtual 36, 3) := by decide +kernel
theorem dL_law_446 : decode cL_law 446 = .ok (.if_icmp .eq 1569, 3) := by decide +kernel
theorem dL_law_449 : decode cL_law 449 = .ok (.iconst 0, 1) := by decide +kernel
theorem dL_law_450 : decode cL_law 450 = .ok (.ireturn, 1) := by decide +kernel
theorem dL_law_451 : decode cL_law 451 = .ok (.aload_n 1, 1) := by decide +kernel
theorem dL_law_452 : decode cL_law 452 = .ok (.aload_n 0, 1) := by decide +kernel
theorem dL_law_453 : decode cL_law 453 = .ok (.iload_n 3, 1) := by decide +kernel
theorem dL_law_454 : decode cL_law 454 = .ok (.iconst 1, 1) := by decide +kernel
theorem dL_law_455 : decode cL_law 455 = .ok (.iadd, 1) := by decide +kernel
theorem dL_law_456 : decode cL_law 456 = .ok (.iaload, 1) := by decide +kernel
theorem dL_law_457 : decode cL_law 457 = .ok (.invokevirtual 37, 3) := by decide +kernel
theorem dL_law_460 : decode cL_law 460 = .ok (.aload_n 2, 1) := by decide +kernel
theorem dL_law_461 : decode cL_law 461 = .ok (.aload_n 0, 1) := by decide +kernel
theorem dL_law_462 : decode cL_law 462 = .ok (.iload_n 3, 1) := by decide +kernel
theorem dL_law_463 : decode cL_law 463 = .ok (.iconst 1, 1) := by decide +kernel
theorem dL_law_464 : decode cL_law 464 = .ok (.iadd, 1) := by decide +kernel
theorem dL_law_465 : decode cL_law 465 = .ok (.iaload, 1) := by decide +kernel
theorem dL_law_466 : decode cL_law 466 = .ok (.invokevirtual 40, 3) := by decide +kernel
theorem dL_law_469 : decode cL_law 469 = .ok (.if_icmp .eq 1546, 3) := by decide +kernel
theorem dL_law_472 : decode cL_law 472 = .ok (.iconst 0, 1) := by decide +kernel
theorem dL_law_473 : decode cL_law 473 = .ok (.ireturn, 1) := by decide +kernel
theorem dL_law_474 : decode cL_law 474 = .ok (.aload_n 1, 1) := by decide +kernel
theorem dL_law_475 : decode cL_law 475 = .ok (.aload_n 0, 1) := by decide +kernel
theorem dL_law_476 : decode cL_law 476 = .ok (.iload_n 3, 1) := by decide +kernel
theorem dL_law_477 : decode cL_law 477 = .ok (.iconst 1, 1) := by decide +kernel
theorem dL_law_478 : decode cL_law 478 = .ok (.iadd, 1) := by decide +kernel
theorem dL_law_479 : decode cL_law 479 = .ok (.iaload, 1) := by decide +kernel
theorem dL_law_480 : decode cL_law 480 = .ok (.aload_n 0, 1) := by decide +kernel
theorem dL_law_481 : decode cL_law 481 = .ok (.iload_n 3, 1) := by decide +kernel
theorem dL_law_482 : decode cL_law 482 = .ok (.iconst 2, 1) := by decide +kernel
theorem dL_law_483 : decode cL_law 483 = .ok (.iadd, 1) := by decide +kernel
theorem dL_law_484 : decode cL_law 484 = .ok (.iaload, 1) := by decide +kernel
theorem dL_law_485 : decode cL_law 485 = .ok (.invokevirtual 41, 3) := by decide +kernel
theorem dL_law_488 : decode cL_law 488 = .ok (.aload_n 2, 1) := by decide +kernel
theorem dL_law_489 : decode cL_law 489 = .ok (.aload_n 0, 1) := by decide +kernel
theorem dL_law_490 : decode cL_law 490 = .ok (.iload_n 3, 1) := by decide +kernel
theorem dL_law_491 : decode cL_law 491 = .ok (.iconst 1, 1) := by decide +kernel
theorem dL_law_492 : decode cL_law 492 = .ok (.iadd, 1) := by decide +kernel
theorem dL_law_493 : decode cL_law 493 = .ok (.iaload, 1) := by decide +kernel
theorem dL_law_494 : decode cL_law 494 = .ok (.aload_n 0, 1) := by decide +kernel
theorem dL_law_495 : decode cL_law 495 = .ok (.iload_n 3, 1) := by decide +kernel
theorem dL_law_496 : decode cL_law 496 = .ok (.iconst 2, 1) := by decide +kernel
theorem dL_law_497 : decode cL_law 497 = .ok (.iadd, 1) := by decide +kernel
theorem dL_law_498 : decode cL_law 498 = .ok (.iaload, 1) := by decide +kernel
theorem dL_law_499 : decode cL_law 499 = .ok (.invokevirtual 44, 3) := by decide +kernel
theorem dL_law_502 : decode cL_law 502 = .ok (.if_icmp .eq 1513, 3) := by decide +kernel
theorem dL_law_505 : decode cL_law 505 = .ok (.iconst 0, 1) := by decide +kernel
theorem dL_law_506 : decode cL_law 506 = .ok (.ireturn, 1) := by decide +kernel
theorem dL_law_507 : decode cL_law 507 = .ok (.aload_n 1, 1) := by decide +kernel
theorem dL_law_508 : decode cL_law 508 = .ok (.aload_n 0, 1) := by decide +kernel
theorem dL_law_509 : decode cL_law 509 = .ok (.iload_n 3, 1) := by decide +kernel
theorem dL_law_510 : decode cL_law 510 = .ok (.iconst 1, 1) := by decide +kernel
theorem dL_law_511 : decode cL_law 511 = .ok (.iadd, 1) := by decide +kernel
theorem dL_law_512 : decode cL_law 512 = .ok (.iaload, 1) := by decide +kernel
theorem dL_law_513 : decode cL_law 513 = .ok (.aload_n 0, 1) := by decide +kernel
theorem dL_law_514 : decode cL_law 514 = .ok (.iload_n 3, 1) := by decide +kernel
theorem dL_law_515 : decode cL_law 515 = .ok (.iconst 2, 1) := by decide +kernel
theorem dL_law_516 : decode cL_law 516 = .ok (.iadd, 1) := by decide +kernel
theorem dL_law_517 : decode cL_law 517 = .ok (.iaload, 1) := by decide +kernel
theorem dL_law_518 : decode cL_law 518 = .ok (.aload_n 0, 1) := by decide +kernel
theorem dL_law_519 : decode cL_law 519 = .ok (.iload_n 3, 1) := by decide +kernel
theorem dL_law_520 : decode cL_law 520 = .ok (.iconst 3, 1) := by decide +kernel
theorem dL_law_521 : decode cL_law 521 = .ok (.iadd, 1) := by decide +kernel
theorem dL_law_522 : decode cL_law 522 = .ok (.iaload, 1) := by decide +kernel
theorem dL_law_523 : decode cL_law 523 = .ok (.invokevirtual 45, 3) := by decide +kernel
theorem dL_law_526 : decode cL_law 526 = .ok (.aload_n 2, 1) := by decide +kernel
theorem dL_law_527 : decode cL_law 527 = .ok (.aload_n 0, 1) := by decide +kernel
theorem dL_law_528 : decode cL_law 528 = .ok (.iload_n 3, 1) := by decide +kernel
theorem dL_law_529 : decode cL_law 529 = .ok (.iconst 1, 1) := by decide +kernel
theorem dL_law_530 : decode cL_law 530 = .ok (.iadd, 1) := by decide +kernel
theorem dL_law_531 : decode cL_law 531 = .ok (.iaload, 1) := by decide +kernel
theorem dL_law_532 : decode cL_law 532 = .ok (.aload_n 0, 1) := by decide +kernel
theorem dL_law_533 : decode cL_law 533 = .ok (.iload_n 3, 1) := by decide +kernel
theorem dL_law_534 : decode cL_law 534 = .ok (.iconst 2, 1) := by decide +kernel
theorem dL_law_535 : decode cL_law 535 = .ok (.iadd, 1) := by decide +kernel
theorem dL_law_536 : decode cL_law 536 = .ok (.iaload, 1) := by decide +kernel
theorem dL_law_537 : decode cL_law 537 = .ok (.aload_n 0, 1) := by decide +kernel
theorem dL_law_538 : decode cL_law 538 = .ok (.iload_n 3, 1) := by decide +kernel
theorem dL_law_539 : decode cL_law 539 = .ok (.iconst 3, 1) := by decide +kernel
theorem dL_law_540 : decode cL_law 540 = .ok (.iadd, 1) := by decide +kernel
theorem dL_law_541 : decode cL_law 541 = .ok (.iaload, 1) := by decide +kernel
theorem dL_law_542 : decode cL_law 542 = .ok (.invokevirtual 48, 3) := by decide +kernel
theorem dL_law_545 : decode cL_law 545 = .ok (.if_icmp .eq 1470, 3) := by decide +kernel
theorem dL_law_548 : decode cL_law 548 = .ok (.iconst 0, 1) := by decide +kernel
theorem dL_law_549 : decode cL_law 549 = .ok (.ireturn, 1) := by decide +kernel
theorem dL_law_550 : decode cL_law 550 = .ok (.aload_n 1, 1) := by decide +kernel
theorem dL_law_551 : decode cL_law 551 = .ok (.aload_n 0, 1) := by decide +kernel
theorem dL_law_552 : decode cL_law 552 = .ok (.iload_n 3, 1) := by decide +kernel
theorem dL_law_553 : decode cL_law 553 = .ok (.iconst 1, 1) := by decide +kernel
theorem dL_law_554 : decode cL_law 554 = .ok (.iadd, 1) := by decide +kernel
theorem dL_law_555 : decode cL_law 555 = .ok (.iaload, 1) := by decide +kernel
theorem dL_law_556 : decode cL_law 556 = .ok (.invokevirtual 49, 3) := by decide +kernel
theorem dL_law_559 : decode cL_law 559 = .ok (.aload_n 2, 1) := by decide +kernel
theorem dL_law_560 : decode cL_law 560 = .ok (.aload_n 0, 1) := by decide +kernel
theorem dL_law_561 : decode cL_law 561 = .ok (.iload_n 3, 1) := by decide +kernel
theorem dL_law_562 : decode cL_law 562 = .ok (.iconst 1, 1) := by decide +kernel
theorem dL_law_563 : decode cL_law 563 = .ok (.iadd, 1) := by decide +kernel
theorem dL_law_564 : decode cL_law 564 = .ok (.iaload, 1) := by decide +kernel
theorem dL_law_565 : decode cL_law 565 = .ok (.invokevirtual 52, 3) := by decide +kernel
theorem dL_law_568 : decode cL_law 568 = .ok (.if_icmp .eq 1447, 3) := by decide +kernel
theorem dL_law_571 : decode cL_law 571 = .ok (.iconst 0, 1) := by decide +kernel
theorem dL_law_572 : decode cL_law 572 = .ok (.ireturn, 1) := by decide +kernel
theorem dL_law_573 : decode cL_law 573 = .ok (.aload_n 1, 1) := by decide +kernel
theorem dL_law_574 : decode cL_law 574 = .ok (.aload_n 0, 1) := by decide +kernel
theorem dL_law_575 : decode cL_law 575 = .ok (.iload_n 3, 1) := by decide +kernel
theorem dL_law_576 : decode cL_law 576 = .ok (.iconst 1, 1) := by decide +kernel
theorem dL_law_577 : decode cL_law 577 = .ok (.iadd, 1) := by decide +kernel
theorem dL_law_578 : decode cL_law 578 = .ok (.iaload, 1) := by decide +kernel
theorem dL_law_579 : decode cL_law 579 = .ok (.invokevirtual 53, 3) := by decide +kernel
theorem dL_law_582 : decode cL_law 582 = .ok (.aload_n 2, 1) := by decide +kernel
theorem dL_law_583 : decode cL_law 583 = .ok (.aload_n 0, 1) := by decide +kernel
theorem dL_law_584 : decode cL_law 584 = .ok (.iload_n 3, 1) := by decide +kernel
theorem dL_law_585 : decode cL_law 585 = .ok (.iconst 1, 1) := by decide +kernel
theorem dL_law_586 : decode cL_law 586 = .ok (.iadd, 1) := by decide +kernel
theorem dL_law_587 : decode cL_law 587 = .ok (.iaload, 1) := by decide +kernel
theorem dL_law_588 : decode cL_law 588 = .ok (.invokevirtual 56, 3) := by decide +kernel
theorem dL_law_591 : decode cL_law 591 = .ok (.if_icmp .eq 1424, 3) := by decide +kernel
theorem dL_law_594 : decode cL_law 594 = .ok (.iconst 0, 1) := by decide +kernel
theorem dL_law_595 : decode cL_law 595 = .ok (.ireturn, 1) := by decide +kernel
theorem dL_law_596 : decode cL_law 596 = .ok (.aload_n 1, 1) := by decide +kernel
theorem dL_law_597 : decode cL_law 597 = .ok (.aload_n 0, 1) := by decide +kernel
theorem dL_law_598 : decode cL_law 598 = .ok (.iload_n 3, 1) := by decide +kernel
theorem dL_law_599 : decode cL_law 599 = .ok (.iconst 1, 1) := by decide +kernel
theorem dL_law_600 : decode cL_law 600 = .ok (.iadd, 1) := by decide +kernel
theorem dL_law_601 : decode cL_law 601 = .ok (.iaload, 1) := by decide +kernel
theorem dL_law_602 : decode cL_law 602 = .ok (.aload_n 0, 1) := by decide +kernel
theorem dL_law_603 : decode cL_law 603 = .ok (.iload_n 3, 1) := by decide +kernel
theorem dL_law_604 : decode cL_law 604 = .ok (.iconst 2, 1) := by decide +kernel
theorem dL_law_605 : decode cL_law 605 = .ok (.iadd, 1) := by decide +kernel
theorem dL_law_606 : decode cL_law 606 = .ok (.iaload, 1) := by decide +kernel
theorem dL_law_607 : decode cL_law 607 = .ok (.invokevirtual 57, 3) := by decide +kernel
theorem dL_law_610 : decode cL_law 610 = .ok (.aload_n 2, 1) := by decide +kernel
theorem dL_law_611 : decode cL_law 611 = .ok (.aload_n 0, 1) := by decide +kernel
theorem dL_law_612 : decode cL_law 612 = .ok (.iload_n 3, 1) := by decide +kernel
theorem dL_law_613 : decode cL_law 613 = .ok (.iconst 1, 1) := by decide +kernel
theorem dL_law_614 : decode cL_law 614 = .ok (.iadd, 1) := by decide +kernel
theorem dL_law_615 : decode cL_law 615 = .ok (.iaload, 1) := by decide +kernel
theorem dL_law_616 : decode cL_law 616 = .ok (.aload_n 0, 1) := by decide +kernel
theorem dL_law_617 : decode cL_law 617 = .ok (.iload_n 3, 1) := by decide +kernel
theorem dL_law_618 : decode cL_law 618 = .ok (.iconst 2, 1) := by decide +kernel
theorem dL_law_619 : decode cL_law 619 = .ok (.iadd, 1) := by decide +kernel
theorem dL_law_620 : decode cL_law 620 = .ok (.iaload, 1) := by decide +kernel
theorem dL_law_621 : decode cL_law 621 = .ok (.invokevirtual 60, 3) := by decide +kernel
theorem dL_law_624 : decode cL_law 624 = .ok (.if_icmp .eq 1391, 3) := by decide +kernel
theorem dL_law_627 : decode cL_law 627 = .ok (.iconst 0, 1) := by decide +kernel
theorem dL_law_628 : decode cL_law 628 = .ok (.ireturn, 1) := by decide +kernel
theorem dL_law_629 : decode cL_law 629 = .ok (.aload_n 1, 1) := by decide +kernel
theorem dL_law_630 : decode cL_law 630 = .ok (.aload_n 0, 1) := by decide +kernel
theorem dL_law_631 : decode cL_law 631 = .ok (.iload_n 3, 1) := by decide +kernel
theorem dL_law_632 : decode cL_law 632 = .ok (.iconst 1, 1) := by decide +kernel
theorem dL_law_633 : decode cL_law 633 = .ok (.iadd, 1) := by decide +kernel
theorem dL_law_634 : decode cL_law 634 = .ok (.iaload, 1) := by decide +kernel
theorem dL_law_635 : decode cL_law 635 = .ok (.aload_n 0, 1) := by decide +kernel
theorem dL_law_636 : decode cL_law 636 = .ok (.iload_n 3, 1) := by decide +kernel
theorem dL_law_637 : decode cL_law 637 = .ok (.iconst 2, 1) := by decide +kernel
theorem dL_law_638 : decode cL_law 638 = .ok (.iadd, 1) := by decide +kernel
theorem dL_law_639 : decode cL_law 639 = .ok (.iaload, 1) := by decide +kernel
theorem dL_law_640 : decode cL_law 640 = .ok (.invokevirtual 61, 3) := by decide +kernel
theorem dL_law_643 : decode cL_law 643 = .ok (.aload_n 2, 1) := by decide +kernel
theorem dL_law_644 : decode cL_law 644 = .ok (.aload_n 0, 1) := by decide +kernel
theorem dL_law_645 : decode cL_law 645 = .ok (.iload_n 3, 1) := by decide +kernel
theorem dL_law_646 : decode cL_law 646 = .ok (.iconst 1, 1) := by decide +kernel
theorem dL_law_647 : decode cL_law 647 = .ok (.iadd, 1) := by decide +kernel
theorem dL_law_648 : decode cL_law 648 = .ok (.iaload, 1) := by decide +kernel
theorem dL_law_649 : decode cL_law 649 = .ok (.aload_n 0, 1) := by decide +kernel
theorem dL_law_650 : decode cL_law 650 = .ok (.iload_n 3, 1) := by decide +kernel
theorem dL_law_651 : decode cL_law 651 = .ok (.iconst 2, 1) := by decide +kernel
theorem dL_law_652 : decode cL_law 652 = .ok (.iadd, 1) := by decide +kernel
theorem dL_law_653 : decode cL_law 653 = .ok (.iaload, 1) := by decide +kernel
theorem dL_law_654 : decode cL_law 654 = .ok (.invokevirtual 64, 3) := by decide +kernel
theorem dL_law_657 : decode cL_law 657 = .ok (.if_icmp .eq 1358, 3) := by decide +kernel
theorem dL_law_660 : decode cL_law 660 = .ok (.iconst 0, 1) := by decide +kernel
theorem dL_law_661 : decode cL_law 661 = .ok (.ireturn, 1) := by decide +kernel
theorem dL_law_662 : decode cL_law 662 = .ok (.aload_n 1, 1) := by decide +kernel
theorem dL_law_663 : decode cL_law 663 = .ok (.aload_n 0, 1) := by decide +kernel
theorem dL_law_664 : decode cL_law 664 = .ok (.iload_n 3, 1) := by decide +kernel
theorem dL_law_665 : decode cL_law 665 = .ok (.iconst 1, 1) := by decide +kernel
theorem dL_law_666 : decode cL_law 666 = .ok (.iadd, 1) := by decide +kernel
theorem dL_law_667 : decode cL_law 667 = .ok (.iaload, 1) := by decide +kernel
theorem dL_law_668 : decode cL_law 668 = .ok (.aload_n 0, 1) := by decide +kernel
theorem dL_law_669 : decode cL_law 669 = .ok (.iload_n 3, 1) := by decide +kernel
theorem dL_law_670 : decode cL_law 670 = .ok (.iconst 2, 1) := by decide +kernel
theorem dL_law_671 : decode cL_law 671 = .ok (.iadd, 1) := by decide +kernel
theorem dL_law_672 : decode cL_law 672 = .ok (.iaload, 1) := by decide +kernel
theorem dL_law_673 : decode cL_law 673 = .ok (.invokevirtual 65, 3) := by decide +kernel
theorem dL_law_676 : decode cL_law 676 = .ok (.aload_n 2, 1) := by decide +kernel
theorem dL_law_677 : decode cL_law 677 = .ok (.aload_n 0, 1) := by decide +kernel
theorem dL_law_678 : decode cL_law 678 = .ok (.iload_n 3, 1) := by decide +kernel
theorem dL_law_679 : decode cL_law 679 = .ok (.iconst 1, 1) := by decide +kernel
theorem dL_law_680 : decode cL_law 680 = .ok (.iadd, 1) := by decide +kernel
theorem dL_law_681 : decode cL_law 681 = .ok (.iaload, 1) := by decide +kernel
theorem dL_law_682 : decode cL_law 682 = .ok (.aload_n 0, 1) := by decide +kernel
theorem dL_law_683 : decode cL_law 683 = .ok (.iload_n 3, 1) := by decide +kernel
theorem dL_law_684 : decode cL_law 684 = .ok (.iconst 2, 1) := by decide +kernel
theorem dL_law_685 : decode cL_law 685 = .ok (.iadd, 1) := by decide +kernel
theorem dL_law_686 : decode cL_law 686 = .ok (.iaload, 1) := by decide +kernel
theorem dL_law_687 : decode cL_law 687 = .ok (.invokevirtual 68, 3) := by decide +kernel
theorem dL_law_690 : decode cL_law 690 = .ok (.if_icmp .eq 1325, 3) := by decide +kernel
theorem dL_law_693 : decode cL_law 693 = .ok (.iconst 0, 1) := by decide +kernel
theorem dL_law_694 : decode cL_law 694 = .ok (.ireturn, 1) := by decide +kernel
theorem dL_law_695 : decode cL_law 695 = .ok (.aload_n 1, 1) := by decide +kernel
theorem dL_law_696 : decode cL_law 696 = .ok (.aload_n 0, 1) := by decide +kernel
theorem dL_law_697 : decode cL_law 697 = .ok (.iload_n 3, 1) := by decide +kernel
theorem dL_law_698 : decode cL_law 698 = .ok (.iconst 1, 1) := by decide +kernel
theorem dL_law_699 : decode cL_law 699 = .ok (.iadd, 1) := by decide +kernel
theorem dL_law_700 : decode cL_law 700 = .ok (.iaload, 1) := by decide +kernel
theorem dL_law_701 : decode cL_law 701 = .ok (.aload_n 0, 1) := by decide +kernel
theorem dL_law_702 : decode cL_law 702 = .ok (.iload_n 3, 1) := by decide +kernel
theorem dL_law_703 : decode cL_law 703 = .ok (.iconst 2, 1) := by decide +kernel
theorem dL_law_704 : decode cL_law 704 = .ok (.iadd, 1) := by decide +kernel
theorem dL_law_705 : decode cL_law 705 = .ok (.iaload, 1) := by decide +kernel
theorem dL_law_706 : decode cL_law 706 = .ok (.invokevirtual 69, 3) := by decide +kernel
theorem dL_law_709 : decode cL_law 709 = .ok (.aload_n 2, 1) := by decide +kernel
theorem dL_law_710 : decode cL_law 710 = .ok (.aload_n 0, 1) := by decide +kernel
theorem dL_law_711 : decode cL_law 711 = .ok (.iload_n 3, 1) := by decide +kernel
theorem dL_law_712 : decode cL_law 712 = .ok (.iconst 1, 1) := by decide +kernel
theorem dL_law_713 : decode cL_law 713 = .ok (.iadd, 1) := by decide +kernel
theorem dL_law_714 : decode cL_law 714 = .ok (.iaload, 1) := by decide +kernel
theorem dL_law_715 : decode cL_law 715 = .ok (.aload_n 0, 1) := by decide +kernel
theorem dL_law_716 : decode cL_law 716 = .ok (.iload_n 3, 1) := by decide +kernel
theorem dL_law_717 : decode cL_law 717 = .ok (.iconst 2, 1) := by decide +kernel
theorem dL_law_718 : decode cL_law 718 = .ok (.iadd, 1) := by decide +kernel
theorem dL_law_719 : decode cL_law 719 = .ok (.iaload, 1) := by decide +kernel
theorem dL_law_720 : decode cL_law 720 = .ok (.invokevirtual 72, 3) := by decide +kernel
theorem dL_law_723 : decode cL_law 723 = .ok (.if_icmp .eq 1292, 3) := by decide +kernel
theorem dL_law_726 : decode cL_law 726 = .ok (.iconst 0, 1) := by decide +kernel
theorem dL_law_727 : decode cL_law 727 = .ok (.ireturn, 1) := by decide +kernel
theorem dL_law_728 : decode cL_law 728 = .ok (.aload_n 1, 1) := by decide +kernel
theorem dL_law_729 : decode cL_law 729 = .ok (.aload_n 0, 1) := by decide +kernel
theorem dL_law_730 : decode cL_law 730 = .ok (.iload_n 3, 1) := by decide +kernel
end
section
theorem dL_law_731 : decode cL_law 731 = .ok (.iconst 1, 1) := by decide +kernel
theorem dL_law_732 : decode cL_law 732 = .ok (.iadd, 1) := by decide +kernel
theorem dL_law_733 : decode cL_law 733 = .ok (.iaload, 1) := by decide +kernel
theorem dL_law_734 : decode cL_law 734 = .ok (.aload_n 0, 1) := by decide +kernel
theorem dL_law_735 : decode cL_law 735 = .ok (.iload_n 3, 1) := by decide +kernel
theorem dL_law_736 : decode cL_law 736 = .ok (.iconst 2, 1) := by decide +kernel
theorem dL_law_737 : decode cL_law 737 = .ok (.iadd, 1) := by decide +kernel
theorem dL_law_738 : decode cL_law 738 = .ok (.iaload, 1) := by decide +kernel
theorem dL_law_739 : decode cL_law 739 = .ok (.invokevirtual 73, 3) := by decide +kernel
theorem dL_law_742 : decode cL_law 742 = .ok (.aload_n 2, 1) := by decide +kernel
theorem dL_law_743 : decode cL_law 743 = .ok (.aload_n 0, 1) := by decide +kernel
theorem dL_law_744 : decode cL_law 744 = .ok (.iload_n 3, 1) := by decide +kernel
theorem dL_law_745 : decode cL_law 745 = .ok (.iconst 1, 1) := by decide +kernel
theorem dL_law_746 : decode cL_law 746 = .ok (.iadd, 1) := by decide +kernel
theorem dL_law_747 : decode cL_law 747 = .ok (.iaload, 1) := by decide +kernel
theorem dL_law_748 : decode cL_law 748 = .ok (.aload_n 0, 1) := by decide +kernel
theorem dL_law_749 : decode cL_law 749 = .ok (.iload_n 3, 1) := by decide +kernel
theorem dL_law_750 : decode cL_law 750 = .ok (.iconst 2, 1) := by decide +kernel
theorem dL_law_751 : decode cL_law 751 = .ok (.iadd, 1) := by decide +kernel
theorem dL_law_752 : decode cL_law 752 = .ok (.iaload, 1) := by decide +kernel
theorem dL_law_753 : decode cL_law 753 = .ok (.invokevirtual 76, 3) := by decide +kernel
theorem dL_law_756 : decode cL_law 756 = .ok (.if_icmp .eq 1259, 3) := by decide +kernel
theorem dL_law_759 : decode cL_law 759 = .ok (.iconst 0, 1) := by decide +kernel
theorem dL_law_760 : decode cL_law 760 = .ok (.ireturn, 1) := by decide +kernel
theorem dL_law_761 : decode cL_law 761 = .ok (.aload_n 1, 1) := by decide +kernel
theorem dL_law_762 : decode cL_law 762 = .ok (.aload_n 0, 1) := by decide +kernel
theorem dL_law_763 : decode cL_law 763 = .ok (.iload_n 3, 1) := by decide +kernel
theorem dL_law_764 : decode cL_law 764 = .ok (.iconst 1, 1) := by decide +kernel
theorem dL_law_765 : decode cL_law 765 = .ok (.iadd, 1) := by decide +kernel
theorem dL_law_766 : decode cL_law 766 = .ok (.iaload, 1) := by decide +kernel
theorem dL_law_767 : decode cL_law 767 = .ok (.invokevirtual 77, 3) := by decide +kernel
theorem dL_law_770 : decode cL_law 770 = .ok (.aload_n 2, 1) := by decide +kernel
theorem dL_law_771 : decode cL_law 771 = .ok (.aload_n 0, 1) := by decide +kernel
theorem dL_law_772 : decode cL_law 772 = .ok (.iload_n 3, 1) := by decide +kernel
theorem dL_law_773 : decode cL_law 773 = .ok (.iconst 1, 1) := by decide +kernel
theorem dL_law_774 : decode cL_law 774 = .ok (.iadd, 1) := by decide +kernel
theorem dL_law_775 : decode cL_law 775 = .ok (.iaload, 1) := by decide +kernel
theorem dL_law_776 : decode cL_law 776 = .ok (.invokevirtual 80, 3) := by decide +kernel
theorem dL_law_779 : decode cL_law 779 = .ok (.if_icmp .eq 1236, 3) := by decide +kernel
theorem dL_law_782 : decode cL_law 782 = .ok (.iconst 0, 1) := by decide +kernel
theorem dL_law_783 : decode cL_law 783 = .ok (.ireturn, 1) := by decide +kernel
theorem dL_law_784 : decode cL_law 784 = .ok (.aload_n 1, 1) := by decide +kernel
theorem dL_law_785 : decode cL_law 785 = .ok (.aload_n 0, 1) := by decide +kernel
theorem dL_law_786 : decode cL_law 786 = .ok (.iload_n 3, 1) := by decide +kernel
theorem dL_law_787 : decode cL_law 787 = .ok (.iconst 1, 1) := by decide +kernel
theorem dL_law_788 : decode cL_law 788 = .ok (.iadd, 1) := by decide +kernel
theorem dL_law_789 : decode cL_law 789 = .ok (.iaload, 1) := by decide +kernel
theorem dL_law_790 : decode cL_law 790 = .ok (.invokevirtual 81, 3) := by decide +kernel
theorem dL_law_793 : decode cL_law 793 = .ok (.aload_n 2, 1) := by decide +kernel
theorem dL_law_794 : decode cL_law 794 = .ok (.aload_n 0, 1) := by decide +kernel
theorem dL_law_795 : decode cL_law 795 = .ok (.iload_n 3, 1) := by decide +kernel
theorem dL_law_796 : decode cL_law 796 = .ok (.iconst 1, 1) := by decide +kernel
theorem dL_law_797 : decode cL_law 797 = .ok (.iadd, 1) := by decide +kernel
theorem dL_law_798 : decode cL_law 798 = .ok (.iaload, 1) := by decide +kernel
theorem dL_law_799 : decode cL_law 799 = .ok (.invokevirtual 84, 3) := by decide +kernel
theorem dL_law_802 : decode cL_law 802 = .ok (.if_icmp .eq 1213, 3) := by decide +kernel
theorem dL_law_805 : decode cL_law 805 = .ok (.iconst 0, 1) := by decide +kernel
theorem dL_law_806 : decode cL_law 806 = .ok (.ireturn, 1) := by decide +kernel
theorem dL_law_807 : decode cL_law 807 = .ok (.aload_n 1, 1) := by decide +kernel
theorem dL_law_808 : decode cL_law 808 = .ok (.aload_n 0, 1) := by decide +kernel
theorem dL_law_809 : decode cL_law 809 = .ok (.iload_n 3, 1) := by decide +kernel
theorem dL_law_810 : decode cL_law 810 = .ok (.iconst 1, 1) := by decide +kernel
theorem dL_law_811 : decode cL_law 811 = .ok (.iadd, 1) := by decide +kernel
theorem dL_law_812 : decode cL_law 812 = .ok (.iaload, 1) := by decide +kernel
theorem dL_law_813 : decode cL_law 813 = .ok (.invokevirtual 85, 3) := by decide +kernel
theorem dL_law_816 : decode cL_law 816 = .ok (.aload_n 2, 1) := by decide +kernel
theorem dL_law_817 : decode cL_law 817 = .ok (.aload_n 0, 1) := by decide +kernel
theorem dL_law_818 : decode cL_law 818 = .ok (.iload_n 3, 1) := by decide +kernel
theorem dL_law_819 : decode cL_law 819 = .ok (.iconst 1, 1) := by decide +kernel
theorem dL_law_820 : decode cL_law 820 = .ok (.iadd, 1) := by decide +kernel
theorem dL_law_821 : decode cL_law 821 = .ok (.iaload, 1) := by decide +kernel
theorem dL_law_822 : decode cL_law 822 = .ok (.invokevirtual 88, 3) := by decide +kernel
theorem dL_law_825 : decode cL_law 825 = .ok (.if_icmp .eq 1190, 3) := by decide +kernel
theorem dL_law_828 : decode cL_law 828 = .ok (.iconst 0, 1) := by decide +kernel
theorem dL_law_829 : decode cL_law 829 = .ok (.ireturn, 1) := by decide +kernel
theorem dL_law_830 : decode cL_law 830 = .ok (.aload_n 1, 1) := by decide +kernel
theorem dL_law_831 : decode cL_law 831 = .ok (.aload_n 0, 1) := by decide +kernel
theorem dL_law_832 : decode cL_law 832 = .ok (.iload_n 3, 1) := by decide +kernel
theorem dL_law_833 : decode cL_law 833 = .ok (.iconst 1, 1) := by decide +kernel
theorem dL_law_834 : decode cL_law 834 = .ok (.iadd, 1) := by decide +kernel
theorem dL_law_835 : decode cL_law 835 = .ok (.iaload, 1) := by decide +kernel
theorem dL_law_836 : decode cL_law 836 = .ok (.invokevirtual 89, 3) := by decide +kernel
theorem dL_law_839 : decode cL_law 839 = .ok (.aload_n 2, 1) := by decide +kernel
theorem dL_law_840 : decode cL_law 840 = .ok (.aload_n 0, 1) := by decide +kernel
theorem dL_law_841 : decode cL_law 841 = .ok (.iload_n 3, 1) := by decide +kernel
theorem dL_law_842 : decode cL_law 842 = .ok (.iconst 1, 1) := by decide +kernel
theorem dL_law_843 : decode cL_law 843 = .ok (.iadd, 1) := by decide +kernel
theorem dL_law_844 : decode cL_law 844 = .ok (.iaload, 1) := by decide +kernel
theorem dL_law_845 : decode cL_law 845 = .ok (.invokevirtual 92, 3) := by decide +kernel
theorem dL_law_848 : decode cL_law 848 = .ok (.if_icmp .eq 1167, 3) := by decide +kernel
theorem dL_law_851 : decode cL_law 851 = .ok (.iconst 0, 1) := by decide +kernel
theorem dL_law_852 : decode cL_law 852 = .ok (.ireturn, 1) := by decide +kernel
theorem dL_law_853 : decode cL_law 853 = .ok (.aload_n 1, 1) := by decide +kernel
theorem dL_law_854 : decode cL_law 854 = .ok (.aload_n 0, 1) := by decide +kernel
theorem dL_law_855 : decode cL_law 855 = .ok (.iload_n 3, 1) := by decide +kernel
theorem dL_law_856 : decode cL_law 856 = .ok (.iconst 1, 1) := by decide +kernel
theorem dL_law_857 : decode cL_law 857 = .ok (.iadd, 1) := by decide +kernel
theorem dL_law_858 : decode cL_law 858 = .ok (.iaload, 1) := by decide +kernel
theorem dL_law_859 : decode cL_law 859 = .ok (.aload_n 0, 1) := by decide +kernel
theorem dL_law_860 : decode cL_law 860 = .ok (.iload_n 3, 1) := by decide +kernel
theorem dL_law_861 : decode cL_law 861 = .ok (.iconst 2, 1) := by decide +kernel
theorem dL_law_862 : decode cL_law 862 = .ok (.iadd, 1) := by decide +kernel
theorem dL_law_863 : decode cL_law 863 = .ok (.iaload, 1) := by decide +kernel
theorem dL_law_864 : decode cL_law 864 = .ok (.invokevirtual 93, 3) := by decide +kernel
theorem dL_law_867 : decode cL_law 867 = .ok (.aload_n 2, 1) := by decide +kernel
theorem dL_law_868 : decode cL_law 868 = .ok (.aload_n 0, 1) := by decide +kernel
theorem dL_law_869 : decode cL_law 869 = .ok (.iload_n 3, 1) := by decide +kernel
theorem dL_law_870 : decode cL_law 870 = .ok (.iconst 1, 1) := by decide +kernel
theorem dL_law_871 : decode cL_law 871 = .ok (.iadd, 1) := by decide +kernel
theorem dL_law_872 : decode cL_law 872 = .ok (.iaload, 1) := by decide +kernel
theorem dL_law_873 : decode cL_law 873 = .ok (.aload_n 0, 1) := by decide +kernel
theorem dL_law_874 : decode cL_law 874 = .ok (.iload_n 3, 1) := by decide +kernel
theorem dL_law_875 : decode cL_law 875 = .ok (.iconst 2, 1) := by decide +kernel
theorem dL_law_876 : decode cL_law 876 = .ok (.iadd, 1) := by decide +kernel
theorem dL_law_877 : decode cL_law 877 = .ok (.iaload, 1) := by decide +kernel
theorem dL_law_878 : decode cL_law 878 = .ok (.invokevirtual 96, 3) := by decide +kernel
theorem dL_law_881 : decode cL_law 881 = .ok (.if_icmp .eq 1134, 3) := by decide +kernel
theorem dL_law_884 : decode cL_law 884 = .ok (.iconst 0, 1) := by decide +kernel
theorem dL_law_885 : decode cL_law 885 = .ok (.ireturn, 1) := by decide +kernel
theorem dL_law_886 : decode cL_law 886 = .ok (.aload_n 1, 1) := by decide +kernel
theorem dL_law_887 : decode cL_law 887 = .ok (.aload_n 0, 1) := by decide +kernel
theorem dL_law_888 : decode cL_law 888 = .ok (.iload_n 3, 1) := by decide +kernel
theorem dL_law_889 : decode cL_law 889 = .ok (.iconst 1, 1) := by decide +kernel
theorem dL_law_890 : decode cL_law 890 = .ok (.iadd, 1) := by decide +kernel
theorem dL_law_891 : decode cL_law 891 = .ok (.iaload, 1) := by decide +kernel
theorem dL_law_892 : decode cL_law 892 = .ok (.aload_n 0, 1) := by decide +kernel
theorem dL_law_893 : decode cL_law 893 = .ok (.iload_n 3, 1) := by decide +kernel
theorem dL_law_894 : decode cL_law 894 = .ok (.iconst 2, 1) := by decide +kernel
theorem dL_law_895 : decode cL_law 895 = .ok (.iadd, 1) := by decide +kernel
theorem dL_law_896 : decode cL_law 896 = .ok (.iaload, 1) := by decide +kernel
theorem dL_law_897 : decode cL_law 897 = .ok (.invokevirtual 97, 3) := by decide +kernel
theorem dL_law_900 : decode cL_law 900 = .ok (.aload_n 2, 1) := by decide +kernel
theorem dL_law_901 : decode cL_law 901 = .ok (.aload_n 0, 1) := by decide +kernel
theorem dL_law_902 : decode cL_law 902 = .ok (.iload_n 3, 1) := by decide +kernel
theorem dL_law_903 : decode cL_law 903 = .ok (.iconst 1, 1) := by decide +kernel
theorem dL_law_904 : decode cL_law 904 = .ok (.iadd, 1) := by decide +kernel
theorem dL_law_905 : decode cL_law 905 = .ok (.iaload, 1) := by decide +kernel
theorem dL_law_906 : decode cL_law 906 = .ok (.aload_n 0, 1) := by decide +kernel
theorem dL_law_907 : decode cL_law 907 = .ok (.iload_n 3, 1) := by decide +kernel
theorem dL_law_908 : decode cL_law 908 = .ok (.iconst 2, 1) := by decide +kernel
theorem dL_law_909 : decode cL_law 909 = .ok (.iadd, 1) := by decide +kernel
theorem dL_law_910 : decode cL_law 910 = .ok (.iaload, 1) := by decide +kernel
theorem dL_law_911 : decode cL_law 911 = .ok (.invokevirtual 100, 3) := by decide +kernel
theorem dL_law_914 : decode cL_law 914 = .ok (.if_icmp .eq 1101, 3) := by decide +kernel
theorem dL_law_917 : decode cL_law 917 = .ok (.iconst 0, 1) := by decide +kernel
theorem dL_law_918 : decode cL_law 918 = .ok (.ireturn, 1) := by decide +kernel
theorem dL_law_919 : decode cL_law 919 = .ok (.aload_n 1, 1) := by decide +kernel
theorem dL_law_920 : decode cL_law 920 = .ok (.aload_n 0, 1) := by decide +kernel
theorem dL_law_921 : decode cL_law 921 = .ok (.iload_n 3, 1) := by decide +kernel
theorem dL_law_922 : decode cL_law 922 = .ok (.iconst 1, 1) := by decide +kernel
theorem dL_law_923 : decode cL_law 923 = .ok (.iadd, 1) := by decide +kernel
theorem dL_law_924 : decode cL_law 924 = .ok (.iaload, 1) := by decide +kernel
theorem dL_law_925 : decode cL_law 925 = .ok (.aload_n 0, 1) := by decide +kernel
theorem dL_law_926 : decode cL_law 926 = .ok (.iload_n 3, 1) := by decide +kernel
theorem dL_law_927 : decode cL_law 927 = .ok (.iconst 2, 1) := by decide +kernel
theorem dL_law_928 : decode cL_law 928 = .ok (.iadd, 1) := by decide +kernel
theorem dL_law_929 : decode cL_law 929 = .ok (.iaload, 1) := by decide +kernel
theorem dL_law_930 : decode cL_law 930 = .ok (.invokevirtual 101, 3) := by decide +kernel
theorem dL_law_933 : decode cL_law 933 = .ok (.aload_n 2, 1) := by decide +kernel
theorem dL_law_934 : decode cL_law 934 = .ok (.aload_n 0, 1) := by decide +kernel
theorem dL_law_935 : decode cL_law 935 = .ok (.iload_n 3, 1) := by decide +kernel
theorem dL_law_936 : decode cL_law 936 = .ok (.iconst 1, 1) := by decide +kernel
theorem dL_law_937 : decode cL_law 937 = .ok (.iadd, 1) := by decide +kernel
theorem dL_law_938 : decode cL_law 938 = .ok (.iaload, 1) := by decide +kernel
theorem dL_law_939 : decode cL_law 939 = .ok (.aload_n 0, 1) := by decide +kernel
theorem dL_law_940 : decode cL_law 940 = .ok (.iload_n 3, 1) := by decide +kernel
theorem dL_law_941 : decode cL_law 941 = .ok (.iconst 2, 1) := by decide +kernel
theorem dL_law_942 : decode cL_law 942 = .ok (.iadd, 1) := by decide +kernel
theorem dL_law_943 : decode cL_law 943 = .ok (.iaload, 1) := by decide +kernel
theorem dL_law_944 : decode cL_law 944 = .ok (.invokevirtual 104, 3) := by decide +kernel
theorem dL_law_947 : decode cL_law 947 = .ok (.if_icmp .eq 1068, 3) := by decide +kernel
theorem dL_law_950 : decode cL_law 950 = .ok (.iconst 0, 1) := by decide +kernel
theorem dL_law_951 : decode cL_law 951 = .ok (.ireturn, 1) := by decide +kernel
theorem dL_law_952 : decode cL_law 952 = .ok (.aload_n 1, 1) := by decide +kernel
theorem dL_law_953 : decode cL_law 953 = .ok (.aload_n 0, 1) := by decide +kernel
theorem dL_law_954 : decode cL_law 954 = .ok (.iload_n 3, 1) := by decide +kernel
theorem dL_law_955 : decode cL_law 955 = .ok (.iconst 1, 1) := by decide +kernel
theorem dL_law_956 : decode cL_law 956 = .ok (.iadd, 1) := by decide +kernel
theorem dL_law_957 : decode cL_law 957 = .ok (.iaload, 1) := by decide +kernel
theorem dL_law_958 : decode cL_law 958 = .ok (.aload_n 0, 1) := by decide +kernel
theorem dL_law_959 : decode cL_law 959 = .ok (.iload_n 3, 1) := by decide +kernel
theorem dL_law_960 : decode cL_law 960 = .ok (.iconst 2, 1) := by decide +kernel
theorem dL_law_961 : decode cL_law 961 = .ok (.iadd, 1) := by decide +kernel
theorem dL_law_962 : decode cL_law 962 = .ok (.iaload, 1) := by decide +kernel
theorem dL_law_963 : decode cL_law 963 = .ok (.aload_n 0, 1) := by decide +kernel
theorem dL_law_964 : decode cL_law 964 = .ok (.iload_n 3, 1) := by decide +kernel
theorem dL_law_965 : decode cL_law 965 = .ok (.iconst 3, 1) := by decide +kernel
theorem dL_law_966 : decode cL_law 966 = .ok (.iadd, 1) := by decide +kernel
theorem dL_law_967 : decode cL_law 967 = .ok (.iaload, 1) := by decide +kernel
theorem dL_law_968 : decode cL_law 968 = .ok (.invokevirtual 105, 3) := by decide +kernel
theorem dL_law_971 : decode cL_law 971 = .ok (.aload_n 2, 1) := by decide +kernel
theorem dL_law_972 : decode cL_law 972 = .ok (.aload_n 0, 1) := by decide +kernel
theorem dL_law_973 : decode cL_law 973 = .ok (.iload_n 3, 1) := by decide +kernel
theorem dL_law_974 : decode cL_law 974 = .ok (.iconst 1, 1) := by decide +kernel
theorem dL_law_975 : decode cL_law 975 = .ok (.iadd, 1) := by decide +kernel
theorem dL_law_976 : decode cL_law 976 = .ok (.iaload, 1) := by decide +kernel
theorem dL_law_977 : decode cL_law 977 = .ok (.aload_n 0, 1) := by decide +kernel
theorem dL_law_978 : decode cL_law 978 = .ok (.iload_n 3, 1) := by decide +kernel
theorem dL_law_979 : decode cL_law 979 = .ok (.iconst 2, 1) := by decide +kernel
theorem dL_law_980 : decode cL_law 980 = .ok (.iadd, 1) := by decide +kernel
theorem dL_law_981 : decode cL_law 981 = .ok (.iaload, 1) := by decide +kernel
theorem dL_law_982 : decode cL_law 982 = .ok (.aload_n 0, 1) := by decide +kernel
theorem dL_law_983 : decode cL_law 983 = .ok (.iload_n 3, 1) := by decide +kernel
theorem dL_law_984 : decode cL_law 984 = .ok (.iconst 3, 1) := by decide +kernel
theorem dL_law_985 : decode cL_law 985 = .ok (.iadd, 1) := by decide +kernel
theorem dL_law_986 : decode cL_law 986 = .ok (.iaload, 1) := by decide +kernel
theorem dL_law_987 : decode cL_law 987 = .ok (.invokevirtual 108, 3) := by decide +kernel
theorem dL_law_990 : decode cL_law 990 = .ok (.if_icmp .eq 1025, 3) := by decide +kernel
theorem dL_law_993 : decode cL_law 993 = .ok (.iconst 0, 1) := by decide +kernel
theorem dL_law_994 : decode cL_law 994 = .ok (.ireturn, 1) := by decide +kernel
theorem dL_law_995 : decode cL_law 995 = .ok (.aload_n 1, 1) := by decide +kernel
theorem dL_law_996 : decode cL_law 996 = .ok (.aload_n 0, 1) := by decide +kernel
theorem dL_law_997 : decode cL_law 997 = .ok (.iload_n 3, 1) := by decide +kernel
theorem dL_law_998 : decode cL_law 998 = .ok (.iconst 1, 1) := by decide +kernel
theorem dL_law_999 : decode cL_law 999 = .ok (.iadd, 1) := by decide +kernel
theorem dL_law_1000 : decode cL_law 1000 = .ok (.iaload, 1) := by decide +kernel
theorem dL_law_1001 : decode cL_law 1001 = .ok (.aload_n 0, 1) := by decide +kernel
theorem dL_law_1002 : decode cL_law 1002 = .ok (.iload_n 3, 1) := by decide +kernel
theorem dL_law_1003 : decode cL_law 1003 = .ok (.iconst 2, 1) := by decide +kernel
theorem dL_law_1004 : decode cL_law 1004 = .ok (.iadd, 1) := by decide +kernel
theorem dL_law_1005 : decode cL_law 1005 = .ok (.iaload, 1) := by decide +kernel
theorem dL_law_1006 : decode cL_law 1006 = .ok (.aload_n 0, 1) := by decide +kernel
theorem dL_law_1007 : decode cL_law 1007 = .ok (.iload_n 3, 1) := by decide +kernel
theorem dL_law_1008 : decode cL_law 1008 = .ok (.iconst 3, 1) := by decide +kernel
theorem dL_law_1009 : decode cL_law 1009 = .ok (.iadd, 1) := by decide +kernel
theorem dL_law_1010 : decode cL_law 1010 = .ok (.iaload, 1) := by decide +kernel
theorem dL_law_1011 : decode cL_law 1011 = .ok (.invokevirtual 109, 3) := by decide +kernel
theorem dL_law_1014 : decode cL_law 1014 = .ok (.aload_n 2, 1) := by decide +kernel
theorem dL_law_1015 : decode cL_law 1015 = .ok (.aload_n 0, 1) := by decide +kernel
theorem dL_law_1016 : decode cL_law 1016 = .ok (.iload_n 3, 1) := by decide +kernel
theorem dL_law_1017 : decode cL_law 1017 = .ok (.iconst 1, 1) := by decide +kernel
theorem dL_law_1018 : decode cL_law 1018 = .ok (.iadd, 1) := by decide +kernel
theorem dL_law_1019 : decode cL_law 1019 = .ok (.iaload, 1) := by decide +kernel
theorem dL_law_1020 : decode cL_law 1020 = .ok (.aload_n 0, 1) := by decide +kernel
theorem dL_law_1021 : decode cL_law 1021 = .ok (.iload_n 3, 1) := by decide +kernel
theorem dL_law_1022 : decode cL_law 1022 = .ok (.iconst 2, 1) := by decide +kernel
theorem dL_law_1023 : decode cL_law 1023 = .ok (.iadd, 1) := by decide +kernel
theorem dL_law_1024 : decode cL_law 1024 = .ok (.iaload, 1) := by decide +kernel
theorem dL_law_1025 : decode cL_law 1025 = .ok (.aload_n 0, 1) := by decide +kernel
theorem dL_law_1026 : decode cL_law 1026 = .ok (.iload_n 3, 1) := by decide +kernel
theorem dL_law_1027 : decode cL_law 1027 = .ok (.iconst 3, 1) := by decide +kernel
theorem dL_law_1028 : decode cL_law 1028 = .ok (.iadd, 1) := by decide +kernel
theorem dL_law_1029 : decode cL_law 1029 = .ok (.iaload, 1) := by decide +kernel
theorem dL_law_1030 : decode cL_law 1030 = .ok (.invokevirtual 112, 3) := by decide +kernel
theorem dL_law_1033 : decode cL_law 1033 = .ok (.if_icmp .eq 982, 3) := by decide +kernel
theorem dL_law_1036 : decode cL_law 1036 = .ok (.iconst 0, 1) := by decide +kernel
theorem dL_law_1037 : decode cL_law 1037 = .ok (.ireturn, 1) := by decide +kernel
theorem dL_law_1038 : decode cL_law 1038 = .ok (.aload_n 1, 1) := by decide +kernel
theorem dL_law_1039 : decode cL_law 1039 = .ok (.aload_n 0, 1) := by decide +kernel
theorem dL_law_1040 : decode cL_law 1040 = .ok (.iload_n 3, 1) := by decide +kernel
theorem dL_law_1041 : decode cL_law 1041 = .ok (.iconst 1, 1) := by decide +kernel
theorem dL_law_1042 : decode cL_law 1042 = .ok (.iadd, 1) := by decide +kernel
theorem dL_law_1043 : decode cL_law 1043 = .ok (.iaload, 1) := by decide +kernel
theorem dL_law_1044 : decode cL_law 1044 = .ok (.aload_n 0, 1) := by decide +kernel
theorem dL_law_1045 : decode cL_law 1045 = .ok (.iload_n 3, 1) := by decide +kernel
theorem dL_law_1046 : decode cL_law 1046 = .ok (.iconst 2, 1) := by decide +kernel
theorem dL_law_1047 : decode cL_law 1047 = .ok (.iadd, 1) := by decide +kernel
theorem dL_law_1048 : decode cL_law 1048 = .ok (.iaload, 1) := by decide +kernel
theorem dL_law_1049 : decode cL_law 1049 = .ok (.invokevirtual 113, 3) := by decide +kernel
theorem dL_law_1052 : decode cL_law 1052 = .ok (.aload_n 2, 1) := by decide +kernel
theorem dL_law_1053 : decode cL_law 1053 = .ok (.aload_n 0, 1) := by decide +kernel
theorem dL_law_1054 : decode cL_law 1054 = .ok (.iload_n 3, 1) := by decide +kernel
theorem dL_law_1055 : decode cL_law 1055 = .ok (.iconst 1, 1) := by decide +kernel
theorem dL_law_1056 : decode cL_law 1056 = .ok (.iadd, 1) := by decide +kernel
theorem dL_law_1057 : decode cL_law 1057 = .ok (.iaload, 1) := by decide +kernel
theorem dL_law_1058 : decode cL_law 1058 = .ok (.aload_n 0, 1) := by decide +kernel
theorem dL_law_1059 : decode cL_law 1059 = .ok (.iload_n 3, 1) := by decide +kernel
theorem dL_law_1060 : decode cL_law 1060 = .ok (.iconst 2, 1) := by decide +kernel
theorem dL_law_1061 : decode cL_law 1061 = .ok (.iadd, 1) := by decide +kernel
theorem dL_law_1062 : decode cL_law 1062 = .ok (.iaload, 1) := by decide +kernel
theorem dL_law_1063 : decode cL_law 1063 = .ok (.invokevirtual 116, 3) := by decide +kernel
theorem dL_law_1066 : decode cL_law 1066 = .ok (.if_icmp .eq 949, 3) := by decide +kernel
theorem dL_law_1069 : decode cL_law 1069 = .ok (.iconst 0, 1) := by decide +kernel
theorem dL_law_1070 : decode cL_law 1070 = .ok (.ireturn, 1) := by decide +kernel
theorem dL_law_1071 : decode cL_law 1071 = .ok (.aload_n 1, 1) := by decide +kernel
theorem dL_law_1072 : decode cL_law 1072 = .ok (.aload_n 0, 1) := by decide +kernel
theorem dL_law_1073 : decode cL_law 1073 = .ok (.iload_n 3, 1) := by decide +kernel
theorem dL_law_1074 : decode cL_law 1074 = .ok (.iconst 1, 1) := by decide +kernel
theorem dL_law_1075 : decode cL_law 1075 = .ok (.iadd, 1) := by decide +kernel
theorem dL_law_1076 : decode cL_law 1076 = .ok (.iaload, 1) := by decide +kernel
theorem dL_law_1077 : decode cL_law 1077 = .ok (.aload_n 0, 1) := by decide +kernel
theorem dL_law_1078 : decode cL_law 1078 = .ok (.iload_n 3, 1) := by decide +kernel
theorem dL_law_1079 : decode cL_law 1079 = .ok (.iconst 2, 1) := by decide +kernel
theorem dL_law_1080 : decode cL_law 1080 = .ok (.iadd, 1) := by decide +kernel
theorem dL_law_1081 : decode cL_law 1081 = .ok (.iaload, 1) := by decide +kernel
theorem dL_law_1082 : decode cL_law 1082 = .ok (.invokevirtual 117, 3) := by decide +kernel
theorem dL_law_1085 : decode cL_law 1085 = .ok (.aload_n 2, 1) := by decide +kernel
theorem dL_law_1086 : decode cL_law 1086 = .ok (.aload_n 0, 1) := by decide +kernel
theorem dL_law_1087 : decode cL_law 1087 = .ok (.iload_n 3, 1) := by decide +kernel
theorem dL_law_1088 : decode cL_law 1088 = .ok (.iconst 1, 1) := by decide +kernel
theorem dL_law_1089 : decode cL_law 1089 = .ok (.iadd, 1) := by decide +kernel
theorem dL_law_1090 : decode cL_law 1090 = .ok (.iaload, 1) := by decide +kernel
theorem dL_law_1091 : decode cL_law 1091 = .ok (.aload_n 0, 1) := by decide +kernel
theorem dL_law_1092 : decode cL_law 1092 = .ok (.iload_n 3, 1) := by decide +kernel
theorem dL_law_1093 : decode cL_law 1093 = .ok (.iconst 2, 1) := by decide +kernel
theorem dL_law_1094 : decode cL_law 1094 = .ok (.iadd, 1) := by decide +kernel
theorem dL_law_1095 : decode cL_law 1095 = .ok (.iaload, 1) := by decide +kernel
theorem dL_law_1096 : decode cL_law 1096 = .ok (.invokevirtual 120, 3) := by decide +kernel
theorem dL_law_1099 : decode cL_law 1099 = .ok (.if_icmp .eq 916, 3) := by decide +kernel
theorem dL_law_1102 : decode cL_law 1102 = .ok (.iconst 0, 1) := by decide +kernel
theorem dL_law_1103 : decode cL_law 1103 = .ok (.ireturn, 1) := by decide +kernel
theorem dL_law_1104 : decode cL_law 1104 = .ok (.aload_n 1, 1) := by decide +kernel
theorem dL_law_1105 : decode cL_law 1105 = .ok (.aload_n 0, 1) := by decide +kernel
theorem dL_law_1106 : decode cL_law 1106 = .ok (.iload_n 3, 1) := by decide +kernel
theorem dL_law_1107 : decode cL_law 1107 = .ok (.iconst 1, 1) := by decide +kernel
theorem dL_law_1108 : decode cL_law 1108 = .ok (.iadd, 1) := by decide +kernel
theorem dL_law_1109 : decode cL_law 1109 = .ok (.iaload, 1) := by decide +kernel
theorem dL_law_1110 : decode cL_law 1110 = .ok (.aload_n 0, 1) := by decide +kernel
theorem dL_law_1111 : decode cL_law 1111 = .ok (.iload_n 3, 1) := by decide +kernel
theorem dL_law_1112 : decode cL_law 1112 = .ok (.iconst 2, 1) := by decide +kernel
theorem dL_law_1113 : decode cL_law 1113 = .ok (.iadd, 1) := by decide +kernel
theorem dL_law_1114 : decode cL_law 1114 = .ok (.iaload, 1) := by decide +kernel
theorem dL_law_1115 : decode cL_law 1115 = .ok (.aload_n 0, 1) := by decide +kernel
theorem dL_law_1116 : decode cL_law 1116 = .ok (.iload_n 3, 1) := by decide +kernel
theorem dL_law_1117 : decode cL_law 1117 = .ok (.iconst 3, 1) := by decide +kernel
theorem dL_law_1118 : decode cL_law 1118 = .ok (.iadd, 1) := by decide +kernel
theorem dL_law_1119 : decode cL_law 1119 = .ok (.iaload, 1) := by decide +kernel
theorem dL_law_1120 : decode cL_law 1120 = .ok (.aload_n 0, 1) := by decide +kernel
theorem dL_law_1121 : decode cL_law 1121 = .ok (.iload_n 3, 1) := by decide +kernel
theorem dL_law_1122 : decode cL_law 1122 = .ok (.iconst 4, 1) := by decide +kernel
theorem dL_law_1123 : decode cL_law 1123 = .ok (.iadd, 1) := by decide +kernel
theorem dL_law_1124 : decode cL_law 1124 = .ok (.iaload, 1) := by decide +kernel
theorem dL_law_1125 : decode cL_law 1125 = .ok (.invokevirtual 121, 3) := by decide +kernel
theorem dL_law_1128 : decode cL_law 1128 = .ok (.aload_n 2, 1) := by decide +kernel
theorem dL_law_1129 : decode cL_law 1129 = .ok (.aload_n 0, 1) := by decide +kernel
theorem dL_law_1130 : decode cL_law 1130 = .ok (.iload_n 3, 1) := by decide +kernel
theorem dL_law_1131 : decode cL_law 1131 = .ok (.iconst 1, 1) := by decide +kernel
theorem dL_law_1132 : decode cL_law 1132 = .ok (.iadd, 1) := by decide +kernel
theorem dL_law_1133 : decode cL_law 1133 = .ok (.iaload, 1) := by decide +kernel
theorem dL_law_1134 : decode cL_law 1134 = .ok (.aload_n 0, 1) := by decide +kernel
theorem dL_law_1135 : decode cL_law 1135 = .ok (.iload_n 3, 1) := by decide +kernel
theorem dL_law_1136 : decode cL_law 1136 = .ok (.iconst 2, 1) := by decide +kernel
theorem dL_law_1137 : decode cL_law 1137 = .ok (.iadd, 1) := by decide +kernel
theorem dL_law_1138 : decode cL_law 1138 = .ok (.iaload, 1) := by decide +kernel
theorem dL_law_1139 : decode cL_law 1139 = .ok (.aload_n 0, 1) := by decide +kernel
theorem dL_law_1140 : decode cL_law 1140 = .ok (.iload_n 3, 1) := by decide +kernel
theorem dL_law_1141 : decode cL_law 1141 = .ok (.iconst 3, 1) := by decide +kernel
theorem dL_law_1142 : decode cL_law 1142 = .ok (.iadd, 1) := by decide +kernel
theorem dL_law_1143 : decode cL_law 1143 = .ok (.iaload, 1) := by decide +kernel
theorem dL_law_1144 : decode cL_law 1144 = .ok (.aload_n 0, 1) := by decide +kernel
theorem dL_law_1145 : decode cL_law 1145 = .ok (.iload_n 3, 1) := by decide +kernel
theorem dL_law_1146 : decode cL_law 1146 = .ok (.iconst 4, 1) := by decide +kernel
theorem dL_law_1147 : decode cL_law 1147 = .ok (.iadd, 1) := by decide +kernel
theorem dL_law_1148 : decode cL_law 1148 = .ok (.iaload, 1) := by decide +kernel
theorem dL_law_1149 : decode cL_law 1149 = .ok (.invokevirtual 125, 3) := by decide +kernel
theorem dL_law_1152 : decode cL_law 1152 = .ok (.if_icmp .eq 863, 3) := by decide +kernel
theorem dL_law_1155 : decode cL_law 1155 = .ok (.iconst 0, 1) := by decide +kernel
theorem dL_law_1156 : decode cL_law 1156 = .ok (.ireturn, 1) := by decide +kernel
theorem dL_law_1157 : decode cL_law 1157 = .ok (.aload_n 1, 1) := by decide +kernel
theorem dL_law_1158 : decode cL_law 1158 = .ok (.aload_n 0, 1) := by decide +kernel
theorem dL_law_1159 : decode cL_law 1159 = .ok (.iload_n 3, 1) := by decide +kernel
theorem dL_law_1160 : decode cL_law 1160 = .ok (.iconst 1, 1) := by decide +kernel
theorem dL_law_1161 : decode cL_law 1161 = .ok (.iadd, 1) := by decide +kernel
theorem dL_law_1162 : decode cL_law 1162 = .ok (.iaload, 1) := by decide +kernel
theorem dL_law_1163 : decode cL_law 1163 = .ok (.aload_n 0, 1) := by decide +kernel
theorem dL_law_1164 : decode cL_law 1164 = .ok (.iload_n 3, 1) := by decide +kernel
theorem dL_law_1165 : decode cL_law 1165 = .ok (.iconst 2, 1) := by decide +kernel
theorem dL_law_1166 : decode cL_law 1166 = .ok (.iadd, 1) := by decide +kernel
theorem dL_law_1167 : decode cL_law 1167 = .ok (.iaload, 1) := by decide +kernel
theorem dL_law_1168 : decode cL_law 1168 = .ok (.invokevirtual 126, 3) := by decide +kernel
theorem dL_law_1171 : decode cL_law 1171 = .ok (.aload_n 2, 1) := by decide +kernel
theorem dL_law_1172 : decode cL_law 1172 = .ok (.aload_n 0, 1) := by decide +kernel
theorem dL_law_1173 : decode cL_law 1173 = .ok (.iload_n 3, 1) := by decide +kernel
theorem dL_law_1174 : decode cL_law 1174 = .ok (.iconst 1, 1) := by decide +kernel
theorem dL_law_1175 : decode cL_law 1175 = .ok (.iadd, 1) := by decide +kernel
theorem dL_law_1176 : decode cL_law 1176 = .ok (.iaload, 1) := by decide +kernel
theorem dL_law_1177 : decode cL_law 1177 = .ok (.aload_n 0, 1) := by decide +kernel
theorem dL_law_1178 : decode cL_law 1178 = .ok (.iload_n 3, 1) := by decide +kernel
theorem dL_law_1179 : decode cL_law 1179 = .ok (.iconst 2, 1) := by decide +kernel
theorem dL_law_1180 : decode cL_law 1180 = .ok (.iadd, 1) := by decide +kernel
theorem dL_law_1181 : decode cL_law 1181 = .ok (.iaload, 1) := by decide +kernel
theorem dL_law_1182 : decode cL_law 1182 = .ok (.invokevirtual 129, 3) := by decide +kernel
theorem dL_law_1185 : decode cL_law 1185 = .ok (.if_icmp .eq 830, 3) := by decide +kernel
theorem dL_law_1188 : decode cL_law 1188 = .ok (.iconst 0, 1) := by decide +kernel
theorem dL_law_1189 : decode cL_law 1189 = .ok (.ireturn, 1) := by decide +kernel
theorem dL_law_1190 : decode cL_law 1190 = .ok (.aload_n 1, 1) := by decide +kernel
theorem dL_law_1191 : decode cL_law 1191 = .ok (.aload_n 0, 1) := by decide +kernel
theorem dL_law_1192 : decode cL_law 1192 = .ok (.iload_n 3, 1) := by decide +kernel
theorem dL_law_1193 : decode cL_law 1193 = .ok (.iconst 1, 1) := by decide +kernel
theorem dL_law_1194 : decode cL_law 1194 = .ok (.iadd, 1) := by decide +kernel
theorem dL_law_1195 : decode cL_law 1195 = .ok (.iaload, 1) := by decide +kernel
theorem dL_law_1196 : decode cL_law 1196 = .ok (.invokevirtual 130, 3) := by decide +kernel
theorem dL_law_1199 : decode cL_law 1199 = .ok (.aload_n 2, 1) := by decide +kernel
theorem dL_law_1200 : decode cL_law 1200 = .ok (.aload_n 0, 1) := by decide +kernel
theorem dL_law_1201 : decode cL_law 1201 = .ok (.iload_n 3, 1) := by decide +kernel
theorem dL_law_1202 : decode cL_law 1202 = .ok (.iconst 1, 1) := by decide +kernel
theorem dL_law_1203 : decode cL_law 1203 = .ok (.iadd, 1) := by decide +kernel
theorem dL_law_1204 : decode cL_law 1204 = .ok (.iaload, 1) := by decide +kernel
theorem dL_law_1205 : decode cL_law 1205 = .ok (.invokevirtual 133, 3) := by decide +kernel
theorem dL_law_1208 : decode cL_law 1208 = .ok (.if_icmp .eq 807, 3) := by decide +kernel
theorem dL_law_1211 : decode cL_law 1211 = .ok (.iconst 0, 1) := by decide +kernel
theorem dL_law_1212 : decode cL_law 1212 = .ok (.ireturn, 1) := by decide +kernel
theorem dL_law_1213 : decode cL_law 1213 = .ok (.aload_n 1, 1) := by decide +kernel
theorem dL_law_1214 : decode cL_law 1214 = .ok (.aload_n 0, 1) := by decide +kernel
theorem dL_law_1215 : decode cL_law 1215 = .ok (.iload_n 3, 1) := by decide +kernel
theorem dL_law_1216 : decode cL_law 1216 = .ok (.iconst 1, 1) := by decide +kernel
theorem dL_law_1217 : decode cL_law 1217 = .ok (.iadd, 1) := by decide +kernel
theorem dL_law_1218 : decode cL_law 1218 = .ok (.iaload, 1) := by decide +kernel
theorem dL_law_1219 : decode cL_law 1219 = .ok (.aload_n 0, 1) := by decide +kernel
theorem dL_law_1220 : decode cL_law 1220 = .ok (.iload_n 3, 1) := by decide +kernel
theorem dL_law_1221 : decode cL_law 1221 = .ok (.iconst 2, 1) := by decide +kernel
theorem dL_law_1222 : decode cL_law 1222 = .ok (.iadd, 1) := by decide +kernel
theorem dL_law_1223 : decode cL_law 1223 = .ok (.iaload, 1) := by decide +kernel
theorem dL_law_1224 : decode cL_law 1224 = .ok (.aload_n 0, 1) := by decide +kernel
theorem dL_law_1225 : decode cL_law 1225 = .ok (.iload_n 3, 1) := by decide +kernel
theorem dL_law_1226 : decode cL_law 1226 = .ok (.iconst 3, 1) := by decide +kernel
theorem dL_law_1227 : decode cL_law 1227 = .ok (.iadd, 1) := by decide +kernel
theorem dL_law_1228 : decode cL_law 1228 = .ok (.iaload, 1) := by decide +kernel
theorem dL_law_1229 : decode cL_law 1229 = .ok (.aload_n 0, 1) := by decide +kernel
theorem dL_law_1230 : decode cL_law 1230 = .ok (.iload_n 3, 1) := by decide +kernel
theorem dL_law_1231 : decode cL_law 1231 = .ok (.iconst 4, 1) := by decide +kernel
theorem dL_law_1232 : decode cL_law 1232 = .ok (.iadd, 1) := by decide +kernel
theorem dL_law_1233 : decode cL_law 1233 = .ok (.iaload, 1) := by decide +kernel
theorem dL_law_1234 : decode cL_law 1234 = .ok (.invokevirtual 134, 3) := by decide +kernel
theorem dL_law_1237 : decode cL_law 1237 = .ok (.aload_n 2, 1) := by decide +kernel
theorem dL_law_1238 : decode cL_law 1238 = .ok (.aload_n 0, 1) := by decide +kernel
theorem dL_law_1239 : decode cL_law 1239 = .ok (.iload_n 3, 1) := by decide +kernel
theorem dL_law_1240 : decode cL_law 1240 = .ok (.iconst 1, 1) := by decide +kernel
theorem dL_law_1241 : decode cL_law 1241 = .ok (.iadd, 1) := by decide +kernel
theorem dL_law_1242 : decode cL_law 1242 = .ok (.iaload, 1) := by decide +kernel
theorem dL_law_1243 : decode cL_law 1243 = .ok (.aload_n 0, 1) := by decide +kernel
theorem dL_law_1244 : decode cL_law 1244 = .ok (.iload_n 3, 1) := by decide +kernel
theorem dL_law_1245 : decode cL_law 1245 = .ok (.iconst 2, 1) := by decide +kernel
theorem dL_law_1246 : decode cL_law 1246 = .ok (.iadd, 1) := by decide +kernel
theorem dL_law_1247 : decode cL_law 1247 = .ok (.iaload, 1) := by decide +kernel
theorem dL_law_1248 : decode cL_law 1248 = .ok (.aload_n 0, 1) := by decide +kernel
theorem dL_law_1249 : decode cL_law 1249 = .ok (.iload_n 3, 1) := by decide +kernel
theorem dL_law_1250 : decode cL_law 1250 = .ok (.iconst 3, 1) := by decide +kernel
theorem dL_law_1251 : decode cL_law 1251 = .ok (.iadd, 1) := by decide +kernel
theorem dL_law_1252 : decode cL_law 1252 = .ok (.iaload, 1) := by decide +kernel
theorem dL_law_1253 : decode cL_law 1253 = .ok (.aload_n 0, 1) := by decide +kernel
theorem dL_law_1254 : decode cL_law 1254 = .ok (.iload_n 3, 1) := by decide +kernel
theorem dL_law_1255 : decode cL_law 1255 = .ok (.iconst 4, 1) := by decide +kernel
theorem dL_law_1256 : decode cL_law 1256 = .ok (.iadd, 1) := by decide +kernel
theorem dL_law_1257 : decode cL_law 1257 = .ok (.iaload, 1) := by decide +kernel
theorem dL_law_1258 : decode cL_law 1258 = .ok (.invokevirtual 137, 3) := by decide +kernel
theorem dL_law_1261 : decode cL_law 1261 = .ok (.if_icmp .eq 754, 3) := by decide +kernel
theorem dL_law_1264 : decode cL_law 1264 = .ok (.iconst 0, 1) := by decide +kernel
theorem dL_law_1265 : decode cL_law 1265 = .ok (.ireturn, 1) := by decide +kernel
theorem dL_law_1266 : decode cL_law 1266 = .ok (.aload_n 1, 1) := by decide +kernel
theorem dL_law_1267 : decode cL_law 1267 = .ok (.aload_n 0, 1) := by decide +kernel
theorem dL_law_1268 : decode cL_law 1268 = .ok (.iload_n 3, 1) := by decide +kernel
theorem dL_law_1269 : decode cL_law 1269 = .ok (.iconst 1, 1) := by decide +kernel
theorem dL_law_1270 : decode cL_law 1270 = .ok (.iadd, 1) := by decide +kernel
theorem dL_law_1271 : decode cL_law 1271 = .ok (.iaload, 1) := by decide +kernel
theorem dL_law_1272 : decode cL_law 1272 = .ok (.aload_n 0, 1) := by decide +kernel
theorem dL_law_1273 : decode cL_law 1273 = .ok (.iload_n 3, 1) := by decide +kernel
theorem dL_law_1274 : decode cL_law 1274 = .ok (.iconst 2, 1) := by decide +kernel
theorem dL_law_1275 : decode cL_law 1275 = .ok (.iadd, 1) := by decide +kernel
theorem dL_law_1276 : decode cL_law 1276 = .ok (.iaload, 1) := by decide +kernel
theorem dL_law_1277 : decode cL_law 1277 = .ok (.invokevirtual 138, 3) := by decide +kernel
theorem dL_law_1280 : decode cL_law 1280 = .ok (.aload_n 2, 1) := by decide +kernel
theorem dL_law_1281 : decode cL_law 1281 = .ok (.aload_n 0, 1) := by decide +kernel
theorem dL_law_1282 : decode cL_law 1282 = .ok (.iload_n 3, 1) := by decide +kernel
theorem dL_law_1283 : decode cL_law 1283 = .ok (.iconst 1, 1) := by decide +kernel
theorem dL_law_1284 : decode cL_law 1284 = .ok (.iadd, 1) := by decide +kernel
theorem dL_law_1285 : decode cL_law 1285 = .ok (.iaload, 1) := by decide +kernel
theorem dL_law_1286 : decode cL_law 1286 = .ok (.aload_n 0, 1) := by decide +kernel
theorem dL_law_1287 : decode cL_law 1287 = .ok (.iload_n 3, 1) := by decide +kernel
theorem dL_law_1288 : decode cL_law 1288 = .ok (.iconst 2, 1) := by decide +kernel
theorem dL_law_1289 : decode cL_law 1289 = .ok (.iadd, 1) := by decide +kernel
theorem dL_law_1290 : decode cL_law 1290 = .ok (.iaload, 1) := by decide +kernel
theorem dL_law_1291 : decode cL_law 1291 = .ok (.invokevirtual 141, 3) := by decide +kernel
theorem dL_law_1294 : decode cL_law 1294 = .ok (.if_icmp .eq 721, 3) := by decide +kernel
theorem dL_law_1297 : decode cL_law 1297 = .ok (.iconst 0, 1) := by decide +kernel
theorem dL_law_1298 : decode cL_law 1298 = .ok (.ireturn, 1) := by decide +kernel
theorem dL_law_1299 : decode cL_law 1299 = .ok (.aload_n 1, 1) := by decide +kernel
theorem dL_law_1300 : decode cL_law 1300 = .ok (.aload_n 0, 1) := by decide +kernel
theorem dL_law_1301 : decode cL_law 1301 = .ok (.iload_n 3, 1) := by decide +kernel
theorem dL_law_1302 : decode cL_law 1302 = .ok (.iconst 1, 1) := by decide +kernel
theorem dL_law_1303 : decode cL_law 1303 = .ok (.iadd, 1) := by decide +kernel
theorem dL_law_1304 : decode cL_law 1304 = .ok (.iaload, 1) := by decide +kernel
theorem dL_law_1305 : decode cL_law 1305 = .ok (.aload_n 0, 1) := by decide +kernel
theorem dL_law_1306 : decode cL_law 1306 = .ok (.iload_n 3, 1) := by decide +kernel
theorem dL_law_1307 : decode cL_law 1307 = .ok (.iconst 2, 1) := by decide +kernel
theorem dL_law_1308 : decode cL_law 1308 = .ok (.iadd, 1) := by decide +kernel
theorem dL_law_1309 : decode cL_law 1309 = .ok (.iaload, 1) := by decide +kernel
theorem dL_law_1310 : decode cL_law 1310 = .ok (.aload_n 0, 1) := by decide +kernel
theorem dL_law_1311 : decode cL_law 1311 = .ok (.iload_n 3, 1) := by decide +kernel
theorem dL_law_1312 : decode cL_law 1312 = .ok (.iconst 3, 1) := by decide +kernel
theorem dL_law_1313 : decode cL_law 1313 = .ok (.iadd, 1) := by decide +kernel
theorem dL_law_1314 : decode cL_law 1314 = .ok (.iaload, 1) := by decide +kernel
theorem dL_law_1315 : decode cL_law 1315 = .ok (.aload_n 0, 1) := by decide +kernel
theorem dL_law_1316 : decode cL_law 1316 = .ok (.iload_n 3, 1) := by decide +kernel
theorem dL_law_1317 : decode cL_law 1317 = .ok (.iconst 4, 1) := by decide +kernel
theorem dL_law_1318 : decode cL_law 1318 = .ok (.iadd, 1) := by decide +kernel
theorem dL_law_1319 : decode cL_law 1319 = .ok (.iaload, 1) := by decide +kernel
theorem dL_law_1320 : decode cL_law 1320 = .ok (.invokevirtual 142, 3) := by decide +kernel
theorem dL_law_1323 : decode cL_law 1323 = .ok (.aload_n 2, 1) := by decide +kernel
theorem dL_law_1324 : decode cL_law 1324 = .ok (.aload_n 0, 1) := by decide +kernel
theorem dL_law_1325 : decode cL_law 1325 = .ok (.iload_n 3, 1) := by decide +kernel
theorem dL_law_1326 : decode cL_law 1326 = .ok (.iconst 1, 1) := by decide +kernel
theorem dL_law_1327 : decode cL_law 1327 = .ok (.iadd, 1) := by decide +kernel
theorem dL_law_1328 : decode cL_law 1328 = .ok (.iaload, 1) := by decide +kernel
theorem dL_law_1329 : decode cL_law 1329 = .ok (.aload_n 0, 1) := by decide +kernel
theorem dL_law_1330 : decode cL_law 1330 = .ok (.iload_n 3, 1) := by decide +kernel
theorem dL_law_1331 : decode cL_law 1331 = .ok (.iconst 2, 1) := by decide +kernel
theorem dL_law_1332 : decode cL_law 1332 = .ok (.iadd, 1) := by decide +kernel
theorem dL_law_1333 : decode cL_law 1333 = .ok (.iaload, 1) := by decide +kernel
theorem dL_law_1334 : decode cL_law 1334 = .ok (.aload_n 0, 1) := by decide +kernel
theorem dL_law_1335 : decode cL_law 1335 = .ok (.iload_n 3, 1) := by decide +kernel
theorem dL_law_1336 : decode cL_law 1336 = .ok (.iconst 3, 1) := by decide +kernel
theorem dL_law_1337 : decode cL_law 1337 = .ok (.iadd, 1) := by decide +kernel
theorem dL_law_1338 : decode cL_law 1338 = .ok (.iaload, 1) := by decide +kernel
theorem dL_law_1339 : decode cL_law 1339 = .ok (.aload_n 0, 1) := by decide +kernel
theorem dL_law_1340 : decode cL_law 1340 = .ok (.iload_n 3, 1) := by decide +kernel
theorem dL_law_1341 : decode cL_law 1341 = .ok (.iconst 4, 1) := by decide +kernel
theorem dL_law_1342 : decode cL_law 1342 = .ok (.iadd, 1) := by decide +kernel
theorem dL_law_1343 : decode cL_law 1343 = .ok (.iaload, 1) := by decide +kernel
theorem dL_law_1344 : decode cL_law 1344 = .ok (.invokevirtual 145, 3) := by decide +kernel
theorem dL_law_1347 : decode cL_law 1347 = .ok (.if_icmp .eq 668, 3) := by decide +kernel
theorem dL_law_1350 : decode cL_law 1350 = .ok (.iconst 0, 1) := by decide +kernel
theorem dL_law_1351 : decode cL_law 1351 = .ok (.ireturn, 1) := by decide +kernel
theorem dL_law_1352 : decode cL_law 1352 = .ok (.aload_n 1, 1) := by decide +kernel
theorem dL_law_1353 : decode cL_law 1353 = .ok (.aload_n 0, 1) := by decide +kernel
theorem dL_law_1354 : decode cL_law 1354 = .ok (.iload_n 3, 1) := by decide +kernel
theorem dL_law_1355 : decode cL_law 1355 = .ok (.iconst 1, 1) := by decide +kernel
theorem dL_law_1356 : decode cL_law 1356 = .ok (.iadd, 1) := by decide +kernel
theorem dL_law_1357 : decode cL_law 1357 = .ok (.iaload, 1) := by decide +kernel
theorem dL_law_1358 : decode cL_law 1358 = .ok (.aload_n 0, 1) := by decide +kernel
theorem dL_law_1359 : decode cL_law 1359 = .ok (.iload_n 3, 1) := by decide +kernel
theorem dL_law_1360 : decode cL_law 1360 = .ok (.iconst 2, 1) := by decide +kernel
theorem dL_law_1361 : decode cL_law 1361 = .ok (.iadd, 1) := by decide +kernel
theorem dL_law_1362 : decode cL_law 1362 = .ok (.iaload, 1) := by decide +kernel
theorem dL_law_1363 : decode cL_law 1363 = .ok (.aload_n 0, 1) := by decide +kernel
theorem dL_law_1364 : decode cL_law 1364 = .ok (.iload_n 3, 1) := by decide +kernel
theorem dL_law_1365 : decode cL_law 1365 = .ok (.iconst 3, 1) := by decide +kernel
theorem dL_law_1366 : decode cL_law 1366 = .ok (.iadd, 1) := by decide +kernel
theorem dL_law_1367 : decode cL_law 1367 = .ok (.iaload, 1) := by decide +kernel
theorem dL_law_1368 : decode cL_law 1368 = .ok (.invokevirtual 146, 3) := by decide +kernel
theorem dL_law_1371 : decode cL_law 1371 = .ok (.aload_n 2, 1) := by decide +kernel
theorem dL_law_1372 : decode cL_law 1372 = .ok (.aload_n 0, 1) := by decide +kernel
theorem dL_law_1373 : decode cL_law 1373 = .ok (.iload_n 3, 1) := by decide +kernel
theorem dL_law_1374 : decode cL_law 1374 = .ok (.iconst 1, 1) := by decide +kernel
theorem dL_law_1375 : decode cL_law 1375 = .ok (.iadd, 1) := by decide +kernel
theorem dL_law_1376 : decode cL_law 1376 = .ok (.iaload, 1) := by decide +kernel
theorem dL_law_1377 : decode cL_law 1377 = .ok (.aload_n 0, 1) := by decide +kernel
theorem dL_law_1378 : decode cL_law 1378 = .ok (.iload_n 3, 1) := by decide +kernel
theorem dL_law_1379 : decode cL_law 1379 = .ok (.iconst 2, 1) := by decide +kernel
theorem dL_law_1380 : decode cL_law 1380 = .ok (.iadd, 1) := by decide +kernel
theorem dL_law_1381 : decode cL_law 1381 = .ok (.iaload, 1) := by decide +kernel
theorem dL_law_1382 : decode cL_law 1382 = .ok (.aload_n 0, 1) := by decide +kernel
theorem dL_law_1383 : decode cL_law 1383 = .ok (.iload_n 3, 1) := by decide +kernel
theorem dL_law_1384 : decode cL_law 1384 = .ok (.iconst 3, 1) := by decide +kernel
theorem dL_law_1385 : decode cL_law 1385 = .ok (.iadd, 1) := by decide +kernel
theorem dL_law_1386 : decode cL_law 1386 = .ok (.iaload, 1) := by decide +kernel
theorem dL_law_1387 : decode cL_law 1387 = .ok (.invokevirtual 149, 3) := by decide +kernel
theorem dL_law_1390 : decode cL_law 1390 = .ok (.if_icmp .eq 625, 3) := by decide +kernel
theorem dL_law_1393 : decode cL_law 1393 = .ok (.iconst 0, 1) := by decide +kernel
theorem dL_law_1394 : decode cL_law 1394 = .ok (.ireturn, 1) := by decide +kernel
theorem dL_law_1395 : decode cL_law 1395 = .ok (.aload_n 1, 1) := by decide +kernel
theorem dL_law_1396 : decode cL_law 1396 = .ok (.aload_n 0, 1) := by decide +kernel
theorem dL_law_1397 : decode cL_law 1397 = .ok (.iload_n 3, 1) := by decide +kernel
theorem dL_law_1398 : decode cL_law 1398 = .ok (.iconst 1, 1) := by decide +kernel
theorem dL_law_1399 : decode cL_law 1399 = .ok (.iadd, 1) := by decide +kernel
theorem dL_law_1400 : decode cL_law 1400 = .ok (.iaload, 1) := by decide +kernel
theorem dL_law_1401 : decode cL_law 1401 = .ok (.invokevirtual 150, 3) := by decide +kernel
theorem dL_law_1404 : decode cL_law 1404 = .ok (.aload_n 2, 1) := by decide +kernel
theorem dL_law_1405 : decode cL_law 1405 = .ok (.aload_n 0, 1) := by decide +kernel
theorem dL_law_1406 : decode cL_law 1406 = .ok (.iload_n 3, 1) := by decide +kernel
theorem dL_law_1407 : decode cL_law 1407 = .ok (.iconst 1, 1) := by decide +kernel
theorem dL_law_1408 : decode cL_law 1408 = .ok (.iadd, 1) := by decide +kernel
theorem dL_law_1409 : decode cL_law 1409 = .ok (.iaload, 1) := by decide +kernel
theorem dL_law_1410 : decode cL_law 1410 = .ok (.invokevirtual 153, 3) := by decide +kernel
theorem dL_law_1413 : decode cL_law 1413 = .ok (.if_icmp .eq 602, 3) := by decide +kernel
theorem dL_law_1416 : decode cL_law 1416 = .ok (.iconst 0, 1) := by decide +kernel
theorem dL_law_1417 : decode cL_law 1417 = .ok (.ireturn, 1) := by decide +kernel
theorem dL_law_1418 : decode cL_law 1418 = .ok (.aload_n 1, 1) := by decide +kernel
theorem dL_law_1419 : decode cL_law 1419 = .ok (.aload_n 0, 1) := by decide +kernel
theorem dL_law_1420 : decode cL_law 1420 = .ok (.iload_n 3, 1) := by decide +kernel
theorem dL_law_1421 : decode cL_law 1421 = .ok (.iconst 1, 1) := by decide +kernel
theorem dL_law_1422 : decode cL_law 1422 = .ok (.iadd, 1) := by decide +kernel
theorem dL_law_1423 : decode cL_law 1423 = .ok (.iaload, 1) := by decide +kernel
theorem dL_law_1424 : decode cL_law 1424 = .ok (.aload_n 0, 1) := by decide +kernel
theorem dL_law_1425 : decode cL_law 1425 = .ok (.iload_n 3, 1) := by decide +kernel
theorem dL_law_1426 : decode cL_law 1426 = .ok (.iconst 2, 1) := by decide +kernel
theorem dL_law_1427 : decode cL_law 1427 = .ok (.iadd, 1) := by decide +kernel
theorem dL_law_1428 : decode cL_law 1428 = .ok (.iaload, 1) := by decide +kernel
theorem dL_law_1429 : decode cL_law 1429 = .ok (.aload_n 0, 1) := by decide +kernel
theorem dL_law_1430 : decode cL_law 1430 = .ok (.iload_n 3, 1) := by decide +kernel
theorem dL_law_1431 : decode cL_law 1431 = .ok (.iconst 3, 1) := by decide +kernel
theorem dL_law_1432 : decode cL_law 1432 = .ok (.iadd, 1) := by decide +kernel
theorem dL_law_1433 : decode cL_law 1433 = .ok (.iaload, 1) := by decide +kernel
theorem dL_law_1434 : decode cL_law 1434 = .ok (.aload_n 0, 1) := by decide +kernel
theorem dL_law_1435 : decode cL_law 1435 = .ok (.iload_n 3, 1) := by decide +kernel
theorem dL_law_1436 : decode cL_law 1436 = .ok (.iconst 4, 1) := by decide +kernel
theorem dL_law_1437 : decode cL_law 1437 = .ok (.iadd, 1) := by decide +kernel
theorem dL_law_1438 : decode cL_law 1438 = .ok (.iaload, 1) := by decide +kernel
theorem dL_law_1439 : decode cL_law 1439 = .ok (.invokevirtual 154, 3) := by decide +kernel
theorem dL_law_1442 : decode cL_law 1442 = .ok (.aload_n 2, 1) := by decide +kernel
theorem dL_law_1443 : decode cL_law 1443 = .ok (.aload_n 0, 1) := by decide +kernel
theorem dL_law_1444 : decode cL_law 1444 = .ok (.iload_n 3, 1) := by decide +kernel
theorem dL_law_1445 : decode cL_law 1445 = .ok (.iconst 1, 1) := by decide +kernel
theorem dL_law_1446 : decode cL_law 1446 = .ok (.iadd, 1) := by decide +kernel
theorem dL_law_1447 : decode cL_law 1447 = .ok (.iaload, 1) := by decide +kernel
theorem dL_law_1448 : decode cL_law 1448 = .ok (.aload_n 0, 1) := by decide +kernel
theorem dL_law_1449 : decode cL_law 1449 = .ok (.iload_n 3, 1) := by decide +kernel
theorem dL_law_1450 : decode cL_law 1450 = .ok (.iconst 2, 1) := by decide +kernel
theorem dL_law_1451 : decode cL_law 1451 = .ok (.iadd, 1) := by decide +kernel
theorem dL_law_1452 : decode cL_law 1452 = .ok (.iaload, 1) := by decide +kernel
theorem dL_law_1453 : decode cL_law 1453 = .ok (.aload_n 0, 1) := by decide +kernel
theorem dL_law_1454 : decode cL_law 1454 = .ok (.iload_n 3, 1) := by decide +kernel
theorem dL_law_1455 : decode cL_law 1455 = .ok (.iconst 3, 1) := by decide +kernel
theorem dL_law_1456 : decode cL_law 1456 = .ok (.iadd, 1) := by decide +kernel
theorem dL_law_1457 : decode cL_law 1457 = .ok (.iaload, 1) := by decide +kernel
theorem dL_law_1458 : decode cL_law 1458 = .ok (.aload_n 0, 1) := by decide +kernel
theorem dL_law_1459 : decode cL_law 1459 = .ok (.iload_n 3, 1) := by decide +kernel
theorem dL_law_1460 : decode cL_law 1460 = .ok (.iconst 4, 1) := by decide +kernel
theorem dL_law_1461 : decode cL_law 1461 = .ok (.iadd, 1) := by decide +kernel
theorem dL_law_1462 : decode cL_law 1462 = .ok (.iaload, 1) := by decide +kernel
theorem dL_law_1463 : decode cL_law 1463 = .ok (.invokevirtual 157, 3) := by decide +kernel
theorem dL_law_1466 : decode cL_law 1466 = .ok (.if_icmp .eq 549, 3) := by decide +kernel
theorem dL_law_1469 : decode cL_law 1469 = .ok (.iconst 0, 1) := by decide +kernel
theorem dL_law_1470 : decode cL_law 1470 = .ok (.ireturn, 1) := by decide +kernel
theorem dL_law_1471 : decode cL_law 1471 = .ok (.aload_n 1, 1) := by decide +kernel
theorem dL_law_1472 : decode cL_law 1472 = .ok (.aload_n 0, 1) := by decide +kernel
theorem dL_law_1473 : decode cL_law 1473 = .ok (.iload_n 3, 1) := by decide +kernel
theorem dL_law_1474 : decode cL_law 1474 = .ok (.iconst 1, 1) := by decide +kernel
theorem dL_law_1475 : decode cL_law 1475 = .ok (.iadd, 1) := by decide +kernel
theorem dL_law_1476 : decode cL_law 1476 = .ok (.iaload, 1) := by decide +kernel
theorem dL_law_1477 : decode cL_law 1477 = .ok (.aload_n 0, 1) := by decide +kernel
theorem dL_law_1478 : decode cL_law 1478 = .ok (.iload_n 3, 1) := by decide +kernel
theorem dL_law_1479 : decode cL_law 1479 = .ok (.iconst 2, 1) := by decide +kernel
theorem dL_law_1480 : decode cL_law 1480 = .ok (.iadd, 1) := by decide +kernel
theorem dL_law_1481 : decode cL_law 1481 = .ok (.iaload, 1) := by decide +kernel
theorem dL_law_1482 : decode cL_law 1482 = .ok (.aload_n 0, 1) := by decide +kernel
theorem dL_law_1483 : decode cL_law 1483 = .ok (.iload_n 3, 1) := by decide +kernel
theorem dL_law_1484 : decode cL_law 1484 = .ok (.iconst 3, 1) := by decide +kernel
theorem dL_law_1485 : decode cL_law 1485 = .ok (.iadd, 1) := by decide +kernel
theorem dL_law_1486 : decode cL_law 1486 = .ok (.iaload, 1) := by decide +kernel
theorem dL_law_1487 : decode cL_law 1487 = .ok (.aload_n 0, 1) := by decide +kernel
theorem dL_law_1488 : decode cL_law 1488 = .ok (.iload_n 3, 1) := by decide +kernel
theorem dL_law_1489 : decode cL_law 1489 = .ok (.iconst 4, 1) := by decide +kernel
theorem dL_law_1490 : decode cL_law 1490 = .ok (.iadd, 1) := by decide +kernel
theorem dL_law_1491 : decode cL_law 1491 = .ok (.iaload, 1) := by decide +kernel
theorem dL_law_1492 : decode cL_law 1492 = .ok (.invokevirtual 158, 3) := by decide +kernel
theorem dL_law_1495 : decode cL_law 1495 = .ok (.aload_n 2, 1) := by decide +kernel
theorem dL_law_1496 : decode cL_law 1496 = .ok (.aload_n 0, 1) := by decide +kernel
theorem dL_law_1497 : decode cL_law 1497 = .ok (.iload_n 3, 1) := by decide +kernel
theorem dL_law_1498 : decode cL_law 1498 = .ok (.iconst 1, 1) := by decide +kernel
theorem dL_law_1499 : decode cL_law 1499 = .ok (.iadd, 1) := by decide +kernel
theorem dL_law_1500 : decode cL_law 1500 = .ok (.iaload, 1) := by decide +kernel
theorem dL_law_1501 : decode cL_law 1501 = .ok (.aload_n 0, 1) := by decide +kernel
theorem dL_law_1502 : decode cL_law 1502 = .ok (.iload_n 3, 1) := by decide +kernel
theorem dL_law_1503 : decode cL_law 1503 = .ok (.iconst 2, 1) := by decide +kernel
theorem dL_law_1504 : decode cL_law 1504 = .ok (.iadd, 1) := by decide +kernel
theorem dL_law_1505 : decode cL_law 1505 = .ok (.iaload, 1) := by decide +kernel
theorem dL_law_1506 : decode cL_law 1506 = .ok (.aload_n 0, 1) := by decide +kernel
theorem dL_law_1507 : decode cL_law 1507 = .ok (.iload_n 3, 1) := by decide +kernel
theorem dL_law_1508 : decode cL_law 1508 = .ok (.iconst 3, 1) := by decide +kernel
theorem dL_law_1509 : decode cL_law 1509 = .ok (.iadd, 1) := by decide +kernel
theorem dL_law_1510 : decode cL_law 1510 = .ok (.iaload, 1) := by decide +kernel
theorem dL_law_1511 : decode cL_law 1511 = .ok (.aload_n 0, 1) := by decide +kernel
theorem dL_law_1512 : decode cL_law 1512 = .ok (.iload_n 3, 1) := by decide +kernel
theorem dL_law_1513 : decode cL_law 1513 = .ok (.iconst 4, 1) := by decide +kernel
theorem dL_law_1514 : decode cL_law 1514 = .ok (.iadd, 1) := by decide +kernel
theorem dL_law_1515 : decode cL_law 1515 = .ok (.iaload, 1) := by decide +kernel
theorem dL_law_1516 : decode cL_law 1516 = .ok (.invokevirtual 161, 3) := by decide +kernel
theorem dL_law_1519 : decode cL_law 1519 = .ok (.if_icmp .eq 496, 3) := by decide +kernel
theorem dL_law_1522 : decode cL_law 1522 = .ok (.iconst 0, 1) := by decide +kernel
theorem dL_law_1523 : decode cL_law 1523 = .ok (.ireturn, 1) := by decide +kernel
theorem dL_law_1524 : decode cL_law 1524 = .ok (.aload_n 1, 1) := by decide +kernel
theorem dL_law_1525 : decode cL_law 1525 = .ok (.aload_n 0, 1) := by decide +kernel
theorem dL_law_1526 : decode cL_law 1526 = .ok (.iload_n 3, 1) := by decide +kernel
theorem dL_law_1527 : decode cL_law 1527 = .ok (.iconst 1, 1) := by decide +kernel
theorem dL_law_1528 : decode cL_law 1528 = .ok (.iadd, 1) := by decide +kernel
theorem dL_law_1529 : decode cL_law 1529 = .ok (.iaload, 1) := by decide +kernel
theorem dL_law_1530 : decode cL_law 1530 = .ok (.aload_n 0, 1) := by decide +kernel
theorem dL_law_1531 : decode cL_law 1531 = .ok (.iload_n 3, 1) := by decide +kernel
theorem dL_law_1532 : decode cL_law 1532 = .ok (.iconst 2, 1) := by decide +kernel
theorem dL_law_1533 : decode cL_law 1533 = .ok (.iadd, 1) := by decide +kernel
theorem dL_law_1534 : decode cL_law 1534 = .ok (.iaload, 1) := by decide +kernel
theorem dL_law_1535 : decode cL_law 1535 = .ok (.aload_n 0, 1) := by decide +kernel
theorem dL_law_1536 : decode cL_law 1536 = .ok (.iload_n 3, 1) := by decide +kernel
theorem dL_law_1537 : decode cL_law 1537 = .ok (.iconst 3, 1) := by decide +kernel
theorem dL_law_1538 : decode cL_law 1538 = .ok (.iadd, 1) := by decide +kernel
theorem dL_law_1539 : decode cL_law 1539 = .ok (.iaload, 1) := by decide +kernel
theorem dL_law_1540 : decode cL_law 1540 = .ok (.aload_n 0, 1) := by decide +kernel
theorem dL_law_1541 : decode cL_law 1541 = .ok (.iload_n 3, 1) := by decide +kernel
theorem dL_law_1542 : decode cL_law 1542 = .ok (.iconst 4, 1) := by decide +kernel
theorem dL_law_1543 : decode cL_law 1543 = .ok (.iadd, 1) := by decide +kernel
theorem dL_law_1544 : decode cL_law 1544 = .ok (.iaload, 1) := by decide +kernel
theorem dL_law_1545 : decode cL_law 1545 = .ok (.invokevirtual 162, 3) := by decide +kernel
theorem dL_law_1548 : decode cL_law 1548 = .ok (.aload_n 2, 1) := by decide +kernel
theorem dL_law_1549 : decode cL_law 1549 = .ok (.aload_n 0, 1) := by decide +kernel
theorem dL_law_1550 : decode cL_law 1550 = .ok (.iload_n 3, 1) := by decide +kernel
theorem dL_law_1551 : decode cL_law 1551 = .ok (.iconst 1, 1) := by decide +kernel
theorem dL_law_1552 : decode cL_law 1552 = .ok (.iadd, 1) := by decide +kernel
theorem dL_law_1553 : decode cL_law 1553 = .ok (.iaload, 1) := by decide +kernel
theorem dL_law_1554 : decode cL_law 1554 = .ok (.aload_n 0, 1) := by decide +kernel
theorem dL_law_1555 : decode cL_law 1555 = .ok (.iload_n 3, 1) := by decide +kernel
theorem dL_law_1556 : decode cL_law 1556 = .ok (.iconst 2, 1) := by decide +kernel
theorem dL_law_1557 : decode cL_law 1557 = .ok (.iadd, 1) := by decide +kernel
theorem dL_law_1558 : decode cL_law 1558 = .ok (.iaload, 1) := by decide +kernel
theorem dL_law_1559 : decode cL_law 1559 = .ok (.aload_n 0, 1) := by decide +kernel
theorem dL_law_1560 : decode cL_law 1560 = .ok (.iload_n 3, 1) := by decide +kernel
theorem dL_law_1561 : decode cL_law 1561 = .ok (.iconst 3, 1) := by decide +kernel
theorem dL_law_1562 : decode cL_law 1562 = .ok (.iadd, 1) := by decide +kernel
theorem dL_law_1563 : decode cL_law 1563 = .ok (.iaload, 1) := by decide +kernel
theorem dL_law_1564 : decode cL_law 1564 = .ok (.aload_n 0, 1) := by decide +kernel
theorem dL_law_1565 : decode cL_law 1565 = .ok (.iload_n 3, 1) := by decide +kernel
theorem dL_law_1566 : decode cL_law 1566 = .ok (.iconst 4, 1) := by decide +kernel
theorem dL_law_1567 : decode cL_law 1567 = .ok (.iadd, 1) := by decide +kernel
theorem dL_law_1568 : decode cL_law 1568 = .ok (.iaload, 1) := by decide +kernel
theorem dL_law_1569 : decode cL_law 1569 = .ok (.invokevirtual 165, 3) := by decide +kernel
theorem dL_law_1572 : decode cL_law 1572 = .ok (.if_icmp .eq 443, 3) := by decide +kernel
theorem dL_law_1575 : decode cL_law 1575 = .ok (.iconst 0, 1) := by decide +kernel
theorem dL_law_1576 : decode cL_law 1576 = .ok (.ireturn, 1) := by decide +kernel
theorem dL_law_1577 : decode cL_law 1577 = .ok (.aload_n 1, 1) := by decide +kernel
theorem dL_law_1578 : decode cL_law 1578 = .ok (.aload_n 0, 1) := by decide +kernel
theorem dL_law_1579 : decode cL_law 1579 = .ok (.iload_n 3, 1) := by decide +kernel
theorem dL_law_1580 : decode cL_law 1580 = .ok (.iconst 1, 1) := by decide +kernel
theorem dL_law_1581 : decode cL_law 1581 = .ok (.iadd, 1) := by decide +kernel
theorem dL_law_1582 : decode cL_law 1582 = .ok (.iaload, 1) := by decide +kernel
theorem dL_law_1583 : decode cL_law 1583 = .ok (.aload_n 0, 1) := by decide +kernel
theorem dL_law_1584 : decode cL_law 1584 = .ok (.iload_n 3, 1) := by decide +kernel
theorem dL_law_1585 : decode cL_law 1585 = .ok (.iconst 2, 1) := by decide +kernel
theorem dL_law_1586 : decode cL_law 1586 = .ok (.iadd, 1) := by decide +kernel
theorem dL_law_1587 : decode cL_law 1587 = .ok (.iaload, 1) := by decide +kernel
theorem dL_law_1588 : decode cL_law 1588 = .ok (.aload_n 0, 1) := by decide +kernel
theorem dL_law_1589 : decode cL_law 1589 = .ok (.iload_n 3, 1) := by decide +kernel
theorem dL_law_1590 : decode cL_law 1590 = .ok (.iconst 3, 1) := by decide +kernel
theorem dL_law_1591 : decode cL_law 1591 = .ok (.iadd, 1) := by decide +kernel
theorem dL_law_1592 : decode cL_law 1592 = .ok (.iaload, 1) := by decide +kernel
theorem dL_law_1593 : decode cL_law 1593 = .ok (.invokevirtual 166, 3) := by decide +kernel
theorem dL_law_1596 : decode cL_law 1596 = .ok (.aload_n 2, 1) := by decide +kernel
theorem dL_law_1597 : decode cL_law 1597 = .ok (.aload_n 0, 1) := by decide +kernel
theorem dL_law_1598 : decode cL_law 1598 = .ok (.iload_n 3, 1) := by decide +kernel
theorem dL_law_1599 : decode cL_law 1599 = .ok (.iconst 1, 1) := by decide +kernel
theorem dL_law_1600 : decode cL_law 1600 = .ok (.iadd, 1) := by decide +kernel
theorem dL_law_1601 : decode cL_law 1601 = .ok (.iaload, 1) := by decide +kernel
theorem dL_law_1602 : decode cL_law 1602 = .ok (.aload_n 0, 1) := by decide +kernel
theorem dL_law_1603 : decode cL_law 1603 = .ok (.iload_n 3, 1) := by decide +kernel
theorem dL_law_1604 : decode cL_law 1604 = .ok (.iconst 2, 1) := by decide +kernel
theorem dL_law_1605 : decode cL_law 1605 = .ok (.iadd, 1) := by decide +kernel
theorem dL_law_1606 : decode cL_law 1606 = .ok (.iaload, 1) := by decide +kernel
theorem dL_law_1607 : decode cL_law 1607 = .ok (.aload_n 0, 1) := by decide +kernel
theorem dL_law_1608 : decode cL_law 1608 = .ok (.iload_n 3, 1) := by decide +kernel
theorem dL_law_1609 : decode cL_law 1609 = .ok (.iconst 3, 1) := by decide +kernel
theorem dL_law_1610 : decode cL_law 1610 = .ok (.iadd, 1) := by decide +kernel
theorem dL_law_1611 : decode cL_law 1611 = .ok (.iaload, 1) := by decide +kernel
theorem dL_law_1612 : decode cL_law 1612 = .ok (.invokevirtual 169, 3) := by decide +kernel
theorem dL_law_1615 : decode cL_law 1615 = .ok (.if_icmp .eq 400, 3) := by decide +kernel
theorem dL_law_1618 : decode cL_law 1618 = .ok (.iconst 0, 1) := by decide +kernel
theorem dL_law_1619 : decode cL_law 1619 = .ok (.ireturn, 1) := by decide +kernel
theorem dL_law_1620 : decode cL_law 1620 = .ok (.aload_n 1, 1) := by decide +kernel
theorem dL_law_1621 : decode cL_law 1621 = .ok (.aload_n 0, 1) := by decide +kernel
theorem dL_law_1622 : decode cL_law 1622 = .ok (.iload_n 3, 1) := by decide +kernel
theorem dL_law_1623 : decode cL_law 1623 = .ok (.iconst 1, 1) := by decide +kernel
theorem dL_law_1624 : decode cL_law 1624 = .ok (.iadd, 1) := by decide +kernel
theorem dL_law_1625 : decode cL_law 1625 = .ok (.iaload, 1) := by decide +kernel
theorem dL_law_1626 : decode cL_law 1626 = .ok (.aload_n 0, 1) := by decide +kernel
theorem dL_law_1627 : decode cL_law 1627 = .ok (.iload_n 3, 1) := by decide +kernel
theorem dL_law_1628 : decode cL_law 1628 = .ok (.iconst 2, 1) := by decide +kernel
theorem dL_law_1629 : decode cL_law 1629 = .ok (.iadd, 1) := by decide +kernel
theorem dL_law_1630 : decode cL_law 1630 = .ok (.iaload, 1) := by decide +kernel
theorem dL_law_1631 : decode cL_law 1631 = .ok (.invokevirtual 170, 3) := by decide +kernel
theorem dL_law_1634 : decode cL_law 1634 = .ok (.aload_n 2, 1) := by decide +kernel
theorem dL_law_1635 : decode cL_law 1635 = .ok (.aload_n 0, 1) := by decide +kernel
theorem dL_law_1636 : decode cL_law 1636 = .ok (.iload_n 3, 1) := by decide +kernel
theorem dL_law_1637 : decode cL_law 1637 = .ok (.iconst 1, 1) := by decide +kernel
theorem dL_law_1638 : decode cL_law 1638 = .ok (.iadd, 1) := by decide +kernel
theorem dL_law_1639 : decode cL_law 1639 = .ok (.iaload, 1) := by decide +kernel
theorem dL_law_1640 : decode cL_law 1640 = .ok (.aload_n 0, 1) := by decide +kernel
theorem dL_law_1641 : decode cL_law 1641 = .ok (.iload_n 3, 1) := by decide +kernel
theorem dL_law_1642 : decode cL_law 1642 = .ok (.iconst 2, 1) := by decide +kernel
theorem dL_law_1643 : decode cL_law 1643 = .ok (.iadd, 1) := by decide +kernel
theorem dL_law_1644 : decode cL_law 1644 = .ok (.iaload, 1) := by decide +kernel
theorem dL_law_1645 : decode cL_law 1645 = .ok (.invokevirtual 173, 3) := by decide +kernel
theorem dL_law_1648 : decode cL_law 1648 = .ok (.if_icmp .eq 367, 3) := by decide +kernel
theorem dL_law_1651 : decode cL_law 1651 = .ok (.iconst 0, 1) := by decide +kernel
theorem dL_law_1652 : decode cL_law 1652 = .ok (.ireturn, 1) := by decide +kernel
theorem dL_law_1653 : decode cL_law 1653 = .ok (.aload_n 1, 1) := by decide +kernel
theorem dL_law_1654 : decode cL_law 1654 = .ok (.aload_n 0, 1) := by decide +kernel
theorem dL_law_1655 : decode cL_law 1655 = .ok (.iload_n 3, 1) := by decide +kernel
theorem dL_law_1656 : decode cL_law 1656 = .ok (.iconst 1, 1) := by decide +kernel
theorem dL_law_1657 : decode cL_law 1657 = .ok (.iadd, 1) := by decide +kernel
theorem dL_law_1658 : decode cL_law 1658 = .ok (.iaload, 1) := by decide +kernel
theorem dL_law_1659 : decode cL_law 1659 = .ok (.invokevirtual 174, 3) := by decide +kernel
theorem dL_law_1662 : decode cL_law 1662 = .ok (.aload_n 2, 1) := by decide +kernel
theorem dL_law_1663 : decode cL_law 1663 = .ok (.aload_n 0, 1) := by decide +kernel
theorem dL_law_1664 : decode cL_law 1664 = .ok (.iload_n 3, 1) := by decide +kernel
theorem dL_law_1665 : decode cL_law 1665 = .ok (.iconst 1, 1) := by decide +kernel
theorem dL_law_1666 : decode cL_law 1666 = .ok (.iadd, 1) := by decide +kernel
theorem dL_law_1667 : decode cL_law 1667 = .ok (.iaload, 1) := by decide +kernel
theorem dL_law_1668 : decode cL_law 1668 = .ok (.invokevirtual 177, 3) := by decide +kernel
theorem dL_law_1671 : decode cL_law 1671 = .ok (.if_icmp .eq 344, 3) := by decide +kernel
theorem dL_law_1674 : decode cL_law 1674 = .ok (.iconst 0, 1) := by decide +kernel
theorem dL_law_1675 : decode cL_law 1675 = .ok (.ireturn, 1) := by decide +kernel
theorem dL_law_1676 : decode cL_law 1676 = .ok (.aload_n 1, 1) := by decide +kernel
theorem dL_law_1677 : decode cL_law 1677 = .ok (.aload_n 0, 1) := by decide +kernel
theorem dL_law_1678 : decode cL_law 1678 = .ok (.iload_n 3, 1) := by decide +kernel
theorem dL_law_1679 : decode cL_law 1679 = .ok (.iconst 1, 1) := by decide +kernel
theorem dL_law_1680 : decode cL_law 1680 = .ok (.iadd, 1) := by decide +kernel
theorem dL_law_1681 : decode cL_law 1681 = .ok (.iaload, 1) := by decide +kernel
theorem dL_law_1682 : decode cL_law 1682 = .ok (.aload_n 0, 1) := by decide +kernel
theorem dL_law_1683 : decode cL_law 1683 = .ok (.iload_n 3, 1) := by decide +kernel
theorem dL_law_1684 : decode cL_law 1684 = .ok (.iconst 2, 1) := by decide +kernel
theorem dL_law_1685 : decode cL_law 1685 = .ok (.iadd, 1) := by decide +kernel
theorem dL_law_1686 : decode cL_law 1686 = .ok (.iaload, 1) := by decide +kernel
theorem dL_law_1687 : decode cL_law 1687 = .ok (.invokevirtual 178, 3) := by decide +kernel
theorem dL_law_1690 : decode cL_law 1690 = .ok (.aload_n 2, 1) := by decide +kernel
theorem dL_law_1691 : decode cL_law 1691 = .ok (.aload_n 0, 1) := by decide +kernel
theorem dL_law_1692 : decode cL_law 1692 = .ok (.iload_n 3, 1) := by decide +kernel
theorem dL_law_1693 : decode cL_law 1693 = .ok (.iconst 1, 1) := by decide +kernel
theorem dL_law_1694 : decode cL_law 1694 = .ok (.iadd, 1) := by decide +kernel
theorem dL_law_1695 : decode cL_law 1695 = .ok (.iaload, 1) := by decide +kernel
theorem dL_law_1696 : decode cL_law 1696 = .ok (.aload_n 0, 1) := by decide +kernel
theorem dL_law_1697 : decode cL_law 1697 = .ok (.iload_n 3, 1) := by decide +kernel
theorem dL_law_1698 : decode cL_law 1698 = .ok (.iconst 2, 1) := by decide +kernel
theorem dL_law_1699 : decode cL_law 1699 = .ok (.iadd, 1) := by decide +kernel
theorem dL_law_1700 : decode cL_law 1700 = .ok (.iaload, 1) := by decide +kernel
theorem dL_law_1701 : decode cL_law 1701 = .ok (.invokevirtual 181, 3) := by decide +kernel
theorem dL_law_1704 : decode cL_law 1704 = .ok (.if_icmp .eq 311, 3) := by decide +kernel
theorem dL_law_1707 : decode cL_law 1707 = .ok (.iconst 0, 1) := by decide +kernel
theorem dL_law_1708 : decode cL_law 1708 = .ok (.ireturn, 1) := by decide +kernel
theorem dL_law_1709 : decode cL_law 1709 = .ok (.aload_n 1, 1) := by decide +kernel
theorem dL_law_1710 : decode cL_law 1710 = .ok (.aload_n 0, 1) := by decide +kernel
theorem dL_law_1711 : decode cL_law 1711 = .ok (.iload_n 3, 1) := by decide +kernel
theorem dL_law_1712 : decode cL_law 1712 = .ok (.iconst 1, 1) := by decide +kernel
theorem dL_law_1713 : decode cL_law 1713 = .ok (.iadd, 1) := by decide +kernel
theorem dL_law_1714 : decode cL_law 1714 = .ok (.iaload, 1) := by decide +kernel
theorem dL_law_1715 : decode cL_law 1715 = .ok (.aload_n 0, 1) := by decide +kernel
theorem dL_law_1716 : decode cL_law 1716 = .ok (.iload_n 3, 1) := by decide +kernel
theorem dL_law_1717 : decode cL_law 1717 = .ok (.iconst 2, 1) := by decide +kernel
theorem dL_law_1718 : decode cL_law 1718 = .ok (.iadd, 1) := by decide +kernel
theorem dL_law_1719 : decode cL_law 1719 = .ok (.iaload, 1) := by decide +kernel
theorem dL_law_1720 : decode cL_law 1720 = .ok (.aload_n 0, 1) := by decide +kernel
theorem dL_law_1721 : decode cL_law 1721 = .ok (.iload_n 3, 1) := by decide +kernel
theorem dL_law_1722 : decode cL_law 1722 = .ok (.iconst 3, 1) := by decide +kernel
theorem dL_law_1723 : decode cL_law 1723 = .ok (.iadd, 1) := by decide +kernel
theorem dL_law_1724 : decode cL_law 1724 = .ok (.iaload, 1) := by decide +kernel
theorem dL_law_1725 : decode cL_law 1725 = .ok (.aload_n 0, 1) := by decide +kernel
theorem dL_law_1726 : decode cL_law 1726 = .ok (.iload_n 3, 1) := by decide +kernel
theorem dL_law_1727 : decode cL_law 1727 = .ok (.iconst 4, 1) := by decide +kernel
theorem dL_law_1728 : decode cL_law 1728 = .ok (.iadd, 1) := by decide +kernel
theorem dL_law_1729 : decode cL_law 1729 = .ok (.iaload, 1) := by decide +kernel
theorem dL_law_1730 : decode cL_law 1730 = .ok (.invokevirtual 182, 3) := by decide +kernel
theorem dL_law_1733 : decode cL_law 1733 = .ok (.aload_n 2, 1) := by decide +kernel
theorem dL_law_1734 : decode cL_law 1734 = .ok (.aload_n 0, 1) := by decide +kernel
theorem dL_law_1735 : decode cL_law 1735 = .ok (.iload_n 3, 1) := by decide +kernel
theorem dL_law_1736 : decode cL_law 1736 = .ok (.iconst 1, 1) := by decide +kernel
theorem dL_law_1737 : decode cL_law 1737 = .ok (.iadd, 1) := by decide +kernel
theorem dL_law_1738 : decode cL_law 1738 = .ok (.iaload, 1) := by decide +kernel
theorem dL_law_1739 : decode cL_law 1739 = .ok (.aload_n 0, 1) := by decide +kernel
theorem dL_law_1740 : decode cL_law 1740 = .ok (.iload_n 3, 1) := by decide +kernel
theorem dL_law_1741 : decode cL_law 1741 = .ok (.iconst 2, 1) := by decide +kernel
theorem dL_law_1742 : decode cL_law 1742 = .ok (.iadd, 1) := by decide +kernel
theorem dL_law_1743 : decode cL_law 1743 = .ok (.iaload, 1) := by decide +kernel
theorem dL_law_1744 : decode cL_law 1744 = .ok (.aload_n 0, 1) := by decide +kernel
theorem dL_law_1745 : decode cL_law 1745 = .ok (.iload_n 3, 1) := by decide +kernel
theorem dL_law_1746 : decode cL_law 1746 = .ok (.iconst 3, 1) := by decide +kernel
theorem dL_law_1747 : decode cL_law 1747 = .ok (.iadd, 1) := by decide +kernel
theorem dL_law_1748 : decode cL_law 1748 = .ok (.iaload, 1) := by decide +kernel
theorem dL_law_1749 : decode cL_law 1749 = .ok (.aload_n 0, 1) := by decide +kernel
theorem dL_law_1750 : decode cL_law 1750 = .ok (.iload_n 3, 1) := by decide +kernel
theorem dL_law_1751 : decode cL_law 1751 = .ok (.iconst 4, 1) := by decide +kernel
theorem dL_law_1752 : decode cL_law 1752 = .ok (.iadd, 1) := by decide +kernel
theorem dL_law_1753 : decode cL_law 1753 = .ok (.iaload, 1) := by decide +kernel
theorem dL_law_1754 : decode cL_law 1754 = .ok (.invokevirtual 185, 3) := by decide +kernel
theorem dL_law_1757 : decode cL_law 1757 = .ok (.if_icmp .eq 258, 3) := by decide +kernel
theorem dL_law_1760 : decode cL_law 1760 = .ok (.iconst 0, 1) := by decide +kernel
theorem dL_law_1761 : decode cL_law 1761 = .ok (.ireturn, 1) := by decide +kernel
theorem dL_law_1762 : decode cL_law 1762 = .ok (.aload_n 1, 1) := by decide +kernel
theorem dL_law_1763 : decode cL_law 1763 = .ok (.aload_n 0, 1) := by decide +kernel
theorem dL_law_1764 : decode cL_law 1764 = .ok (.iload_n 3, 1) := by decide +kernel
theorem dL_law_1765 : decode cL_law 1765 = .ok (.iconst 1, 1) := by decide +kernel
theorem dL_law_1766 : decode cL_law 1766 = .ok (.iadd, 1) := by decide +kernel
theorem dL_law_1767 : decode cL_law 1767 = .ok (.iaload, 1) := by decide +kernel
theorem dL_law_1768 : decode cL_law 1768 = .ok (.aload_n 0, 1) := by decide +kernel
theorem dL_law_1769 : decode cL_law 1769 = .ok (.iload_n 3, 1) := by decide +kernel
theorem dL_law_1770 : decode cL_law 1770 = .ok (.iconst 2, 1) := by decide +kernel
theorem dL_law_1771 : decode cL_law 1771 = .ok (.iadd, 1) := by decide +kernel
theorem dL_law_1772 : decode cL_law 1772 = .ok (.iaload, 1) := by decide +kernel
theorem dL_law_1773 : decode cL_law 1773 = .ok (.aload_n 0, 1) := by decide +kernel
theorem dL_law_1774 : decode cL_law 1774 = .ok (.iload_n 3, 1) := by decide +kernel
theorem dL_law_1775 : decode cL_law 1775 = .ok (.iconst 3, 1) := by decide +kernel
theorem dL_law_1776 : decode cL_law 1776 = .ok (.iadd, 1) := by decide +kernel
theorem dL_law_1777 : decode cL_law 1777 = .ok (.iaload, 1) := by decide +kernel
theorem dL_law_1778 : decode cL_law 1778 = .ok (.invokevirtual 186, 3) := by decide +kernel
theorem dL_law_1781 : decode cL_law 1781 = .ok (.aload_n 2, 1) := by decide +kernel
theorem dL_law_1782 : decode cL_law 1782 = .ok (.aload_n 0, 1) := by decide +kernel
theorem dL_law_1783 : decode cL_law 1783 = .ok (.iload_n 3, 1) := by decide +kernel
theorem dL_law_1784 : decode cL_law 1784 = .ok (.iconst 1, 1) := by decide +kernel
theorem dL_law_1785 : decode cL_law 1785 = .ok (.iadd, 1) := by decide +kernel
theorem dL_law_1786 : decode cL_law 1786 = .ok (.iaload, 1) := by decide +kernel
theorem dL_law_1787 : decode cL_law 1787 = .ok (.aload_n 0, 1) := by decide +kernel
theorem dL_law_1788 : decode cL_law 1788 = .ok (.iload_n 3, 1) := by decide +kernel
theorem dL_law_1789 : decode cL_law 1789 = .ok (.iconst 2, 1) := by decide +kernel
theorem dL_law_1790 : decode cL_law 1790 = .ok (.iadd, 1) := by decide +kernel
theorem dL_law_1791 : decode cL_law 1791 = .ok (.iaload, 1) := by decide +kernel
theorem dL_law_1792 : decode cL_law 1792 = .ok (.aload_n 0, 1) := by decide +kernel
theorem dL_law_1793 : decode cL_law 1793 = .ok (.iload_n 3, 1) := by decide +kernel
theorem dL_law_1794 : decode cL_law 1794 = .ok (.iconst 3, 1) := by decide +kernel
theorem dL_law_1795 : decode cL_law 1795 = .ok (.iadd, 1) := by decide +kernel
theorem dL_law_1796 : decode cL_law 1796 = .ok (.iaload, 1) := by decide +kernel
theorem dL_law_1797 : decode cL_law 1797 = .ok (.invokevirtual 189, 3) := by decide +kernel
theorem dL_law_1800 : decode cL_law 1800 = .ok (.if_icmp .eq 215, 3) := by decide +kernel
theorem dL_law_1803 : decode cL_law 1803 = .ok (.iconst 0, 1) := by decide +kernel
theorem dL_law_1804 : decode cL_law 1804 = .ok (.ireturn, 1) := by decide +kernel
end
section
theorem dL_law_1805 : decode cL_law 1805 = .ok (.aload_n 1, 1) := by decide +kernel
theorem dL_law_1806 : decode cL_law 1806 = .ok (.aload_n 0, 1) := by decide +kernel
theorem dL_law_1807 : decode cL_law 1807 = .ok (.iload_n 3, 1) := by decide +kernel
theorem dL_law_1808 : decode cL_law 1808 = .ok (.iconst 1, 1) := by decide +kernel
theorem dL_law_1809 : decode cL_law 1809 = .ok (.iadd, 1) := by decide +kernel
theorem dL_law_1810 : decode cL_law 1810 = .ok (.iaload, 1) := by decide +kernel
theorem dL_law_1811 : decode cL_law 1811 = .ok (.aload_n 0, 1) := by decide +kernel
theorem dL_law_1812 : decode cL_law 1812 = .ok (.iload_n 3, 1) := by decide +kernel
theorem dL_law_1813 : decode cL_law 1813 = .ok (.iconst 2, 1) := by decide +kernel
theorem dL_law_1814 : decode cL_law 1814 = .ok (.iadd, 1) := by decide +kernel
theorem dL_law_1815 : decode cL_law 1815 = .ok (.iaload, 1) := by decide +kernel
theorem dL_law_1816 : decode cL_law 1816 = .ok (.aload_n 0, 1) := by decide +kernel
theorem dL_law_1817 : decode cL_law 1817 = .ok (.iload_n 3, 1) := by decide +kernel
theorem dL_law_1818 : decode cL_law 1818 = .ok (.iconst 3, 1) := by decide +kernel
theorem dL_law_1819 : decode cL_law 1819 = .ok (.iadd, 1) := by decide +kernel
theorem dL_law_1820 : decode cL_law 1820 = .ok (.iaload, 1) := by decide +kernel
theorem dL_law_1821 : decode cL_law 1821 = .ok (.invokevirtual 190, 3) := by decide +kernel
theorem dL_law_1824 : decode cL_law 1824 = .ok (.aload_n 2, 1) := by decide +kernel
theorem dL_law_1825 : decode cL_law 1825 = .ok (.aload_n 0, 1) := by decide +kernel
theorem dL_law_1826 : decode cL_law 1826 = .ok (.iload_n 3, 1) := by decide +kernel
theorem dL_law_1827 : decode cL_law 1827 = .ok (.iconst 1, 1) := by decide +kernel
theorem dL_law_1828 : decode cL_law 1828 = .ok (.iadd, 1) := by decide +kernel
theorem dL_law_1829 : decode cL_law 1829 = .ok (.iaload, 1) := by decide +kernel
theorem dL_law_1830 : decode cL_law 1830 = .ok (.aload_n 0, 1) := by decide +kernel
theorem dL_law_1831 : decode cL_law 1831 = .ok (.iload_n 3, 1) := by decide +kernel
theorem dL_law_1832 : decode cL_law 1832 = .ok (.iconst 2, 1) := by decide +kernel
theorem dL_law_1833 : decode cL_law 1833 = .ok (.iadd, 1) := by decide +kernel
theorem dL_law_1834 : decode cL_law 1834 = .ok (.iaload, 1) := by decide +kernel
theorem dL_law_1835 : decode cL_law 1835 = .ok (.aload_n 0, 1) := by decide +kernel
theorem dL_law_1836 : decode cL_law 1836 = .ok (.iload_n 3, 1) := by decide +kernel
theorem dL_law_1837 : decode cL_law 1837 = .ok (.iconst 3, 1) := by decide +kernel
theorem dL_law_1838 : decode cL_law 1838 = .ok (.iadd, 1) := by decide +kernel
theorem dL_law_1839 : decode cL_law 1839 = .ok (.iaload, 1) := by decide +kernel
theorem dL_law_1840 : decode cL_law 1840 = .ok (.invokevirtual 193, 3) := by decide +kernel
theorem dL_law_1843 : decode cL_law 1843 = .ok (.if_icmp .eq 172, 3) := by decide +kernel
theorem dL_law_1846 : decode cL_law 1846 = .ok (.iconst 0, 1) := by decide +kernel
theorem dL_law_1847 : decode cL_law 1847 = .ok (.ireturn, 1) := by decide +kernel
theorem dL_law_1848 : decode cL_law 1848 = .ok (.aload_n 1, 1) := by decide +kernel
theorem dL_law_1849 : decode cL_law 1849 = .ok (.aload_n 0, 1) := by decide +kernel
theorem dL_law_1850 : decode cL_law 1850 = .ok (.iload_n 3, 1) := by decide +kernel
theorem dL_law_1851 : decode cL_law 1851 = .ok (.iconst 1, 1) := by decide +kernel
theorem dL_law_1852 : decode cL_law 1852 = .ok (.iadd, 1) := by decide +kernel
theorem dL_law_1853 : decode cL_law 1853 = .ok (.iaload, 1) := by decide +kernel
theorem dL_law_1854 : decode cL_law 1854 = .ok (.aload_n 0, 1) := by decide +kernel
theorem dL_law_1855 : decode cL_law 1855 = .ok (.iload_n 3, 1) := by decide +kernel
theorem dL_law_1856 : decode cL_law 1856 = .ok (.iconst 2, 1) := by decide +kernel
theorem dL_law_1857 : decode cL_law 1857 = .ok (.iadd, 1) := by decide +kernel
theorem dL_law_1858 : decode cL_law 1858 = .ok (.iaload, 1) := by decide +kernel
theorem dL_law_1859 : decode cL_law 1859 = .ok (.aload_n 0, 1) := by decide +kernel
theorem dL_law_1860 : decode cL_law 1860 = .ok (.iload_n 3, 1) := by decide +kernel
theorem dL_law_1861 : decode cL_law 1861 = .ok (.iconst 3, 1) := by decide +kernel
theorem dL_law_1862 : decode cL_law 1862 = .ok (.iadd, 1) := by decide +kernel
theorem dL_law_1863 : decode cL_law 1863 = .ok (.iaload, 1) := by decide +kernel
theorem dL_law_1864 : decode cL_law 1864 = .ok (.aload_n 0, 1) := by decide +kernel
theorem dL_law_1865 : decode cL_law 1865 = .ok (.iload_n 3, 1) := by decide +kernel
theorem dL_law_1866 : decode cL_law 1866 = .ok (.iconst 4, 1) := by decide +kernel
theorem dL_law_1867 : decode cL_law 1867 = .ok (.iadd, 1) := by decide +kernel
theorem dL_law_1868 : decode cL_law 1868 = .ok (.iaload, 1) := by decide +kernel
theorem dL_law_1869 : decode cL_law 1869 = .ok (.invokevirtual 194, 3) := by decide +kernel
theorem dL_law_1872 : decode cL_law 1872 = .ok (.aload_n 2, 1) := by decide +kernel
theorem dL_law_1873 : decode cL_law 1873 = .ok (.aload_n 0, 1) := by decide +kernel
theorem dL_law_1874 : decode cL_law 1874 = .ok (.iload_n 3, 1) := by decide +kernel
theorem dL_law_1875 : decode cL_law 1875 = .ok (.iconst 1, 1) := by decide +kernel
theorem dL_law_1876 : decode cL_law 1876 = .ok (.iadd, 1) := by decide +kernel
theorem dL_law_1877 : decode cL_law 1877 = .ok (.iaload, 1) := by decide +kernel
theorem dL_law_1878 : decode cL_law 1878 = .ok (.aload_n 0, 1) := by decide +kernel
theorem dL_law_1879 : decode cL_law 1879 = .ok (.iload_n 3, 1) := by decide +kernel
theorem dL_law_1880 : decode cL_law 1880 = .ok (.iconst 2, 1) := by decide +kernel
theorem dL_law_1881 : decode cL_law 1881 = .ok (.iadd, 1) := by decide +kernel
theorem dL_law_1882 : decode cL_law 1882 = .ok (.iaload, 1) := by decide +kernel
theorem dL_law_1883 : decode cL_law 1883 = .ok (.aload_n 0, 1) := by decide +kernel
theorem dL_law_1884 : decode cL_law 1884 = .ok (.iload_n 3, 1) := by decide +kernel
theorem dL_law_1885 : decode cL_law 1885 = .ok (.iconst 3, 1) := by decide +kernel
theorem dL_law_1886 : decode cL_law 1886 = .ok (.iadd, 1) := by decide +kernel
theorem dL_law_1887 : decode cL_law 1887 = .ok (.iaload, 1) := by decide +kernel
theorem dL_law_1888 : decode cL_law 1888 = .ok (.aload_n 0, 1) := by decide +kernel
theorem dL_law_1889 : decode cL_law 1889 = .ok (.iload_n 3, 1) := by decide +kernel
theorem dL_law_1890 : decode cL_law 1890 = .ok (.iconst 4, 1) := by decide +kernel
theorem dL_law_1891 : decode cL_law 1891 = .ok (.iadd, 1) := by decide +kernel
theorem dL_law_1892 : decode cL_law 1892 = .ok (.iaload, 1) := by decide +kernel
theorem dL_law_1893 : decode cL_law 1893 = .ok (.invokevirtual 197, 3) := by decide +kernel
theorem dL_law_1896 : decode cL_law 1896 = .ok (.if_icmp .eq 119, 3) := by decide +kernel
theorem dL_law_1899 : decode cL_law 1899 = .ok (.iconst 0, 1) := by decide +kernel
theorem dL_law_1900 : decode cL_law 1900 = .ok (.ireturn, 1) := by decide +kernel
theorem dL_law_1901 : decode cL_law 1901 = .ok (.aload_n 1, 1) := by decide +kernel
theorem dL_law_1902 : decode cL_law 1902 = .ok (.invokevirtual 198, 3) := by decide +kernel
theorem dL_law_1905 : decode cL_law 1905 = .ok (.aload_n 2, 1) := by decide +kernel
theorem dL_law_1906 : decode cL_law 1906 = .ok (.invokevirtual 202, 3) := by decide +kernel
theorem dL_law_1909 : decode cL_law 1909 = .ok (.if_icmp .eq 106, 3) := by decide +kernel
theorem dL_law_1912 : decode cL_law 1912 = .ok (.iconst 0, 1) := by decide +kernel
theorem dL_law_1913 : decode cL_law 1913 = .ok (.ireturn, 1) := by decide +kernel
theorem dL_law_1914 : decode cL_law 1914 = .ok (.aload_n 1, 1) := by decide +kernel
theorem dL_law_1915 : decode cL_law 1915 = .ok (.invokevirtual 203, 3) := by decide +kernel
theorem dL_law_1918 : decode cL_law 1918 = .ok (.aload_n 2, 1) := by decide +kernel
theorem dL_law_1919 : decode cL_law 1919 = .ok (.invokevirtual 207, 3) := by decide +kernel
theorem dL_law_1922 : decode cL_law 1922 = .ok (.lcmp, 1) := by decide +kernel
theorem dL_law_1923 : decode cL_law 1923 = .ok (.ifCond .eq 92, 3) := by decide +kernel
theorem dL_law_1926 : decode cL_law 1926 = .ok (.iconst 0, 1) := by decide +kernel
theorem dL_law_1927 : decode cL_law 1927 = .ok (.ireturn, 1) := by decide +kernel
theorem dL_law_1928 : decode cL_law 1928 = .ok (.aload_n 1, 1) := by decide +kernel
theorem dL_law_1929 : decode cL_law 1929 = .ok (.invokevirtual 208, 3) := by decide +kernel
theorem dL_law_1932 : decode cL_law 1932 = .ok (.aload_n 2, 1) := by decide +kernel
theorem dL_law_1933 : decode cL_law 1933 = .ok (.invokevirtual 211, 3) := by decide +kernel
theorem dL_law_1936 : decode cL_law 1936 = .ok (.lcmp, 1) := by decide +kernel
theorem dL_law_1937 : decode cL_law 1937 = .ok (.ifCond .eq 78, 3) := by decide +kernel
theorem dL_law_1940 : decode cL_law 1940 = .ok (.iconst 0, 1) := by decide +kernel
theorem dL_law_1941 : decode cL_law 1941 = .ok (.ireturn, 1) := by decide +kernel
theorem dL_law_1942 : decode cL_law 1942 = .ok (.aload_n 1, 1) := by decide +kernel
theorem dL_law_1943 : decode cL_law 1943 = .ok (.aload_n 0, 1) := by decide +kernel
theorem dL_law_1944 : decode cL_law 1944 = .ok (.iload_n 3, 1) := by decide +kernel
theorem dL_law_1945 : decode cL_law 1945 = .ok (.iconst 1, 1) := by decide +kernel
theorem dL_law_1946 : decode cL_law 1946 = .ok (.iadd, 1) := by decide +kernel
theorem dL_law_1947 : decode cL_law 1947 = .ok (.iaload, 1) := by decide +kernel
theorem dL_law_1948 : decode cL_law 1948 = .ok (.invokevirtual 212, 3) := by decide +kernel
theorem dL_law_1951 : decode cL_law 1951 = .ok (.aload_n 2, 1) := by decide +kernel
theorem dL_law_1952 : decode cL_law 1952 = .ok (.aload_n 0, 1) := by decide +kernel
theorem dL_law_1953 : decode cL_law 1953 = .ok (.iload_n 3, 1) := by decide +kernel
theorem dL_law_1954 : decode cL_law 1954 = .ok (.iconst 1, 1) := by decide +kernel
theorem dL_law_1955 : decode cL_law 1955 = .ok (.iadd, 1) := by decide +kernel
theorem dL_law_1956 : decode cL_law 1956 = .ok (.iaload, 1) := by decide +kernel
theorem dL_law_1957 : decode cL_law 1957 = .ok (.invokevirtual 215, 3) := by decide +kernel
theorem dL_law_1960 : decode cL_law 1960 = .ok (.if_icmp .eq 55, 3) := by decide +kernel
theorem dL_law_1963 : decode cL_law 1963 = .ok (.iconst 0, 1) := by decide +kernel
theorem dL_law_1964 : decode cL_law 1964 = .ok (.ireturn, 1) := by decide +kernel
theorem dL_law_1965 : decode cL_law 1965 = .ok (.aload_n 1, 1) := by decide +kernel
theorem dL_law_1966 : decode cL_law 1966 = .ok (.invokevirtual 216, 3) := by decide +kernel
theorem dL_law_1969 : decode cL_law 1969 = .ok (.aload_n 2, 1) := by decide +kernel
theorem dL_law_1970 : decode cL_law 1970 = .ok (.invokevirtual 219, 3) := by decide +kernel
theorem dL_law_1973 : decode cL_law 1973 = .ok (.if_icmp .eq 42, 3) := by decide +kernel
theorem dL_law_1976 : decode cL_law 1976 = .ok (.iconst 0, 1) := by decide +kernel
theorem dL_law_1977 : decode cL_law 1977 = .ok (.ireturn, 1) := by decide +kernel
theorem dL_law_1978 : decode cL_law 1978 = .ok (.aload_n 1, 1) := by decide +kernel
theorem dL_law_1979 : decode cL_law 1979 = .ok (.aload_n 0, 1) := by decide +kernel
theorem dL_law_1980 : decode cL_law 1980 = .ok (.iload_n 3, 1) := by decide +kernel
theorem dL_law_1981 : decode cL_law 1981 = .ok (.iconst 1, 1) := by decide +kernel
theorem dL_law_1982 : decode cL_law 1982 = .ok (.iadd, 1) := by decide +kernel
theorem dL_law_1983 : decode cL_law 1983 = .ok (.iaload, 1) := by decide +kernel
theorem dL_law_1984 : decode cL_law 1984 = .ok (.invokevirtual 220, 3) := by decide +kernel
theorem dL_law_1987 : decode cL_law 1987 = .ok (.aload_n 2, 1) := by decide +kernel
theorem dL_law_1988 : decode cL_law 1988 = .ok (.aload_n 0, 1) := by decide +kernel
theorem dL_law_1989 : decode cL_law 1989 = .ok (.iload_n 3, 1) := by decide +kernel
theorem dL_law_1990 : decode cL_law 1990 = .ok (.iconst 1, 1) := by decide +kernel
theorem dL_law_1991 : decode cL_law 1991 = .ok (.iadd, 1) := by decide +kernel
theorem dL_law_1992 : decode cL_law 1992 = .ok (.iaload, 1) := by decide +kernel
theorem dL_law_1993 : decode cL_law 1993 = .ok (.invokevirtual 223, 3) := by decide +kernel
theorem dL_law_1996 : decode cL_law 1996 = .ok (.if_icmp .eq 19, 3) := by decide +kernel
theorem dL_law_1999 : decode cL_law 1999 = .ok (.iconst 0, 1) := by decide +kernel
theorem dL_law_2000 : decode cL_law 2000 = .ok (.ireturn, 1) := by decide +kernel
theorem dL_law_2001 : decode cL_law 2001 = .ok (.aload_n 1, 1) := by decide +kernel
theorem dL_law_2002 : decode cL_law 2002 = .ok (.invokevirtual 224, 3) := by decide +kernel
theorem dL_law_2005 : decode cL_law 2005 = .ok (.aload_n 2, 1) := by decide +kernel
theorem dL_law_2006 : decode cL_law 2006 = .ok (.invokevirtual 227, 3) := by decide +kernel
theorem dL_law_2009 : decode cL_law 2009 = .ok (.lcmp, 1) := by decide +kernel
theorem dL_law_2010 : decode cL_law 2010 = .ok (.ifCond .eq 5, 3) := by decide +kernel
theorem dL_law_2013 : decode cL_law 2013 = .ok (.iconst 0, 1) := by decide +kernel
theorem dL_law_2014 : decode cL_law 2014 = .ok (.ireturn, 1) := by decide +kernel
theorem dL_law_2015 : decode cL_law 2015 = .ok (.iinc 3 6, 3) := by decide +kernel
theorem dL_law_2018 : decode cL_law 2018 = .ok (.goto (-2000), 3) := by decide +kernel
theorem dL_law_2021 : decode cL_law 2021 = .ok (.iconst 1, 1) := by decide +kernel
theorem dL_law_2022 : decode cL_law 2022 = .ok (.ireturn, 1) := by decide +kernel
end
section
/-! whole numbers of the machine as Int: zI, zL (ring maps), with bounds where a comparison or a division is made -/
def zI (z : Int) : Int32 := Int32.ofInt z
def zL (z : Int) : Int64 := Int64.ofInt z
theorem zI_t {z : Int} (h : -2147483648 ≤ z ∧ z < 2147483648) : (zI z).toInt = z := Int32.toInt_ofInt_of_le (by omega) (by omega)
theorem zL_t {z : Int} (h : -9223372036854775808 ≤ z ∧ z < 9223372036854775808) : (zL z).toInt = z := Int64.toInt_ofInt_of_le (by omega) (by omega)
theorem zI_of (x : Int32) : zI x.toInt = x := Int32.ofInt_toInt x
theorem zI_rng (x : Int32) : -2147483648 ≤ x.toInt ∧ x.toInt < 2147483648 := by
  have h1 := Int32.le_toInt x
  have h2 := Int32.toInt_lt x
  omega
theorem zI_add (a b : Int) : zI a + zI b = zI (a + b) := (Int32.ofInt_add a b).symm
theorem zI_sub (a b : Int) : zI a - zI b = zI (a - b) := (Int32.ofInt_sub a b).symm
theorem zI_mul (a b : Int) : zI a * zI b = zI (a * b) := (Int32.ofInt_mul a b).symm
theorem zI_neg (a : Int) : -zI a = zI (-a) := (Int32.ofInt_neg a).symm
theorem zL_add (a b : Int) : zL a + zL b = zL (a + b) := (Int64.ofInt_add a b).symm
theorem zL_sub (a b : Int) : zL a - zL b = zL (a - b) := (Int64.ofInt_sub a b).symm
theorem zL_mul (a b : Int) : zL a * zL b = zL (a * b) := (Int64.ofInt_mul a b).symm
theorem zI_inj {a b : Int} (h : (-2147483648 ≤ a ∧ a < 2147483648) ∧ -2147483648 ≤ b ∧ b < 2147483648) : zI a = zI b ↔ a = b :=
  ⟨fun e => by rw [← zI_t h.1, e, zI_t h.2], fun e => by rw [e]⟩
theorem zI_le {a b : Int} (h : (-2147483648 ≤ a ∧ a < 2147483648) ∧ -2147483648 ≤ b ∧ b < 2147483648) : zI a ≤ zI b ↔ a ≤ b := by
  rw [Int32.le_iff_toInt_le, zI_t h.1, zI_t h.2]
theorem zI_lt {a b : Int} (h : (-2147483648 ≤ a ∧ a < 2147483648) ∧ -2147483648 ≤ b ∧ b < 2147483648) : zI a < zI b ↔ a < b := by
  rw [Int32.lt_iff_toInt_lt, zI_t h.1, zI_t h.2]
theorem zI_0 : (0 : Int32) = zI 0 := by decide
theorem zI_div {a b : Int} (h : (0 ≤ a ∧ a < 2147483648) ∧ 0 < b ∧ b < 2147483648) : zI a / zI b = zI (a / b) := by
  have hb : zI b ≠ -1 := by
    intro e
    have := congrArg Int32.toInt e
    rw [zI_t ⟨by omega, by omega⟩] at this
    have h2 : (-1 : Int32).toInt = -1 := by decide
    omega
  refine Int32.toInt_inj.mp ?_
  rw [Int32.toInt_div_of_ne_right _ _ hb, zI_t ⟨by omega, by omega⟩, zI_t ⟨by omega, by omega⟩, Int.tdiv_eq_ediv_of_nonneg h.1.1]
  have h1 : a / b ≤ a := Int.ediv_le_self b h.1.1
  have h2 : 0 ≤ a / b := Int.ediv_nonneg h.1.1 (by omega)
  exact (zI_t ⟨by omega, by omega⟩).symm
theorem zI_rem {a b : Int} (h : (0 ≤ a ∧ a < 2147483648) ∧ 0 < b ∧ b < 2147483648) : zI a - zI a / zI b * zI b = zI (a % b) := by
  rw [zI_div h, zI_mul, zI_sub, Int.emod_def, Int.mul_comm]
theorem zI_ne0 {b : Int} (h : 0 < b ∧ b < 2147483648) : ¬ zI b = 0 := by
  rw [zI_0, zI_inj ⟨⟨by omega, by omega⟩, by omega, by omega⟩]
  omega
theorem zI_cl {z : Int} (h : 0 ≤ z ∧ z < 2147483648) : (zI z).toNatClampNeg = z.toNat := Int32.toNatClampNeg_ofInt_of_le (by omega) (by omega)
theorem zI_in {z : Int} {n : Nat} (h : 0 ≤ z ∧ z < n) (hn : n < 2147483648) : vp_in (zI z) n := by
  rw [vp_in_iff, zI_t ⟨by omega, by omega⟩]
  exact h
theorem zI_l {z : Int} (h : -2147483648 ≤ z ∧ z < 2147483648) : (zI z).toInt64 = zL z := by
  have := Int64.ofInt_int32ToInt (zI z)
  rw [zI_t h] at this
  exact this.symm
theorem zL_i (z : Int) : (zL z).toInt32 = zI z := Int64.toInt32_ofInt
def z8 (z : Int) : Int := z.bmod 256
theorem z8_rng (z : Int) : -128 ≤ z8 z ∧ z8 z < 128 := by
  have h1 := Int.le_bmod (x := z) (m := 256) (by decide)
  have h2 := Int.bmod_lt (x := z) (m := 256) (by decide)
  unfold z8
  omega
theorem z8_id {z : Int} (h : -128 ≤ z ∧ z < 128) : z8 z = z := by
  unfold z8
  exact Int.bmod_eq_of_le (by omega) (by omega)
theorem zI_b (z : Int) : (zI z).toInt8.toInt32 = zI (z8 z) := by
  refine Int32.toInt_inj.mp ?_
  have h := z8_rng z
  rw [zI_t ⟨by omega, by omega⟩, zI, Int32.toInt8_ofInt, Int8.toInt_toInt32, Int8.toInt_ofInt]
  rfl
theorem zL_le {a b : Int} (h : (-9223372036854775808 ≤ a ∧ a < 9223372036854775808) ∧ -9223372036854775808 ≤ b ∧ b < 9223372036854775808) : zL a ≤ zL b ↔ a ≤ b := by
  rw [Int64.le_iff_toInt_le, zL_t h.1, zL_t h.2]
theorem zL_lt {a b : Int} (h : (-9223372036854775808 ≤ a ∧ a < 9223372036854775808) ∧ -9223372036854775808 ≤ b ∧ b < 9223372036854775808) : zL a < zL b ↔ a < b := by
  rw [Int64.lt_iff_toInt_lt, zL_t h.1, zL_t h.2]
theorem zL_inj {a b : Int} (h : (-9223372036854775808 ≤ a ∧ a < 9223372036854775808) ∧ -9223372036854775808 ≤ b ∧ b < 9223372036854775808) : zL a = zL b ↔ a = b :=
  ⟨fun e => by rw [← zL_t h.1, e, zL_t h.2], fun e => by rw [e]⟩
theorem zL_0 : (0 : Int64) = zL 0 := by decide
theorem zL_ne0 {b : Int} (h : 0 < b ∧ b < 9223372036854775808) : ¬ zL b = 0 := by
  rw [zL_0, zL_inj ⟨⟨by omega, by omega⟩, by omega, by omega⟩]
  omega
/-- division of longs, the divisor above 0: cut towards 0 -/
theorem zL_tdiv {a b : Int} (h : (-9223372036854775808 ≤ a ∧ a < 9223372036854775808) ∧ 0 < b ∧ b < 9223372036854775808) : zL a / zL b = zL (a.tdiv b) := by
  have hb : zL b ≠ -1 := by
    intro e
    have := congrArg Int64.toInt e
    rw [zL_t ⟨by omega, by omega⟩] at this
    have h2 : (-1 : Int64).toInt = -1 := by decide
    omega
  refine Int64.toInt_inj.mp ?_
  rw [Int64.toInt_div_of_ne_right _ _ hb, zL_t ⟨by omega, by omega⟩, zL_t ⟨by omega, by omega⟩]
  have h1 : (a.tdiv b).natAbs ≤ a.natAbs := by
    rw [Int.natAbs_tdiv]
    exact Nat.div_le_self _ _
  rcases Int.lt_or_le a 0 with q | q
  · have h3 : a.tdiv b ≤ 0 := by
      have h4 := Int.neg_tdiv (a := a) (b := b)
      have h5 : 0 ≤ (-a).tdiv b := Int.tdiv_nonneg (by omega) (by omega)
      omega
    exact (zL_t ⟨by omega, by omega⟩).symm
  · have h3 : 0 ≤ a.tdiv b := Int.tdiv_nonneg q (by omega)
    exact (zL_t ⟨by omega, by omega⟩).symm
theorem zL_div {a b : Int} (h : (0 ≤ a ∧ a < 9223372036854775808) ∧ 0 < b ∧ b < 9223372036854775808) : zL a / zL b = zL (a / b) := by
  rw [zL_tdiv ⟨⟨by omega, by omega⟩, h.2⟩, Int.tdiv_eq_ediv_of_nonneg h.1.1]
theorem zL_rem {a b : Int} (h : (0 ≤ a ∧ a < 9223372036854775808) ∧ 0 < b ∧ b < 9223372036854775808) : zL a - zL a / zL b * zL b = zL (a % b) := by
  rw [zL_div h, zL_mul, zL_sub, Int.emod_def, Int.mul_comm]
/-- bits: a new one above all that are there -/
theorem zI_shl : ∀ c : Nat, c < 31 → zI 1 <<< (zI (c : Int) &&& 31) = zI (2 ^ c) := by decide +kernel
theorem zI_or {a : Int} {c : Nat} (h : 0 ≤ a ∧ a < 2 ^ c) (hc : c < 31) : zI a ||| zI (2 ^ c) = zI (a + 2 ^ c) := by
  obtain ⟨n, rfl⟩ : ∃ n : Nat, a = n := ⟨a.toNat, by omega⟩
  have hn : n < 2 ^ c := by exact_mod_cast h.2
  have e1 : ∀ k : Nat, zI (k : Int) = nI k := fun k => by
    unfold zI nI
    exact Int32.ofInt_eq_ofNat
  have e2 : ((2 : Int) ^ c) = ((2 ^ c : Nat) : Int) := by push_cast; rfl
  rw [e2, ← Int.natCast_add, e1, e1, e1]
  refine Int32.toBitVec.inj ?_
  show BitVec.ofNat 32 n ||| BitVec.ofNat 32 (2 ^ c) = BitVec.ofNat 32 (n + 2 ^ c)
  refine BitVec.eq_of_toNat_eq ?_
  have hp : 2 ^ c < 2 ^ 31 := Nat.pow_lt_pow_right (by decide) hc
  have h3 := Nat.two_pow_add_eq_or_of_lt hn 1
  rw [Nat.mul_one] at h3
  rw [BitVec.toNat_or, BitVec.toNat_ofNat, BitVec.toNat_ofNat, BitVec.toNat_ofNat, Nat.mod_eq_of_lt (by omega), Nat.mod_eq_of_lt (by omega), Nat.mod_eq_of_lt (by omega), Nat.or_comm, ← h3, Nat.add_comm]
end
section
/-! the words of the tables that stay under a call, and rows over whole numbers -/
def tb : List Cond := lw_tbl.filter goodWord
theorem tb_of {w : Cond} (h : w ∈ lw_tbl) (hg : goodWord w = true) : w ∈ tb := List.mem_filter.mpr ⟨h, hg⟩
theorem tb_in : GoodIn tb tb := fun w h => ⟨h, good_of_word (List.mem_filter.mp h).2⟩
theorem tb_cons {d : Cond} (h : d ∈ tb) : GoodIn tb (d :: tb) := fun w hw => by
  rcases List.mem_cons.mp hw with rfl | hw
  · exact tb_in _ h
  · exact tb_in _ hw
/-- 1 or 0 -/
def zB (P : Prop) [Decidable P] : Int := if P then 1 else 0
theorem zB_t {P : Prop} [Decidable P] (h : P) : zB P = 1 := if_pos h
theorem zB_f {P : Prop} [Decidable P] (h : ¬ P) : zB P = 0 := if_neg h
theorem zB_rng (P : Prop) [Decidable P] : 0 ≤ zB P ∧ zB P ≤ 1 := by unfold zB; split <;> omega
theorem zB_c {P R : Prop} [Decidable P] [Decidable R] (h : P ↔ R) : zB P = zB R := by
  unfold zB
  by_cases q : P
  · rw [if_pos q, if_pos (h.mp q)]
  · rw [if_neg q, if_neg (fun r => q (h.mpr r))]
section ZR
variable {p : Program} {l : Launch} {e : Env} {R : Room} {s : State} {m : MethodId} {args : Array Value} {below : List Frame} {meth : Method} {c : Code} {H : Heap} {locs : List Loc} {cells slots : Nat} {Q : State → Prop}
variable {own : String} {cc : ByteArray} {nL : Nat} {pc : Nat} {ls : Array Slot} {rest : List Value} {a b : Int}
theorem zr_iconst (C : CallFix p m c cc nL s args tb own) {n : Int} (hd : decode cc pc = .ok (.iconst n, 1)) (k : W p l e R s m args below meth c H locs cells slots Q (F0 m (pc + 1) ls (.int (zI n) :: rest))) : W p l e R s m args below meth c H locs cells slots Q (F0 m pc ls rest) := lv_iconst C.1 C.2.1 hd rfl k
theorem zr_bipush (C : CallFix p m c cc nL s args tb own) {n : Int} (hd : decode cc pc = .ok (.bipush n, 2)) (hn : (Int8.ofInt n).toInt32 = zI n) (k : W p l e R s m args below meth c H locs cells slots Q (F0 m (pc + 2) ls (.int (zI n) :: rest))) : W p l e R s m args below meth c H locs cells slots Q (F0 m pc ls rest) := lv_bipush C.1 C.2.1 hd hn k
theorem zr_sipush (C : CallFix p m c cc nL s args tb own) {n : Int} (hd : decode cc pc = .ok (.sipush n, 3)) (hn : (Int16.ofInt n).toInt32 = zI n) (k : W p l e R s m args below meth c H locs cells slots Q (F0 m (pc + 3) ls (.int (zI n) :: rest))) : W p l e R s m args below meth c H locs cells slots Q (F0 m pc ls rest) := lv_sipush C.1 C.2.1 hd hn k
theorem zr_lconst (C : CallFix p m c cc nL s args tb own) {n : Fin 2} {z : Int} (hd : decode cc pc = .ok (.lconst n, 1)) (hn : Int64.ofNat (n : Nat) = zL z) (k : W p l e R s m args below meth c H locs cells slots Q (F0 m (pc + 1) ls (.long (zL z) :: rest))) : W p l e R s m args below meth c H locs cells slots Q (F0 m pc ls rest) := lv_lconst C.1 C.2.1 hd hn k
theorem zr_ldc (C : CallFix p m c cc nL s args tb own) {index : Nat} {v : Int32} {z : Int} (hw : Cond.constant own index v ∈ tb) (hv : v = zI z) (hd : decode cc pc = .ok (.ldc index, 2)) (k : W p l e R s m args below meth c H locs cells slots Q (F0 m (pc + 2) ls (.int (zI z) :: rest))) : W p l e R s m args below meth c H locs cells slots Q (F0 m pc ls rest) := by
  subst hv
  exact lv_ldc C.1 C.2.1 C.2.2.2.1 (C.2.2.2.2 _ hw) hd k
theorem zr_ldc2 (C : CallFix p m c cc nL s args tb own) {index : Nat} {v : Int64} {z : Int} (hw : Cond.constantLong own index v ∈ tb) (hv : v = zL z) (hd : decode cc pc = .ok (.ldc2_w index, 3)) (k : W p l e R s m args below meth c H locs cells slots Q (F0 m (pc + 3) ls (.long (zL z) :: rest))) : W p l e R s m args below meth c H locs cells slots Q (F0 m pc ls rest) := by
  subst hv
  exact lv_ldc2 C.1 C.2.1 C.2.2.2.1 (C.2.2.2.2 _ hw) hd k
theorem zr_iinc (C : CallFix p m c cc nL s args tb own) {i k : Nat} {n : Int} {lv lv' : List (Nat × Value)} (hd : decode cc pc = .ok (.iinc i n, 3)) (h : lv_has ls nL lv) (hk : lv[k]? = some (i, .int (zI a))) (hn : i < nL) (hl : (i, Value.int (zI (a + n))) :: lv.filter (fun q => !(q.1 == i) && !(q.1 + 1 == i && q.2.category == 2)) = lv')
    (kk : ∀ ls' : Array Slot, lv_has ls' nL lv' → W p l e R s m args below meth c H locs cells slots Q (F0 m (pc + 3) ls' rest)) : W p l e R s m args below meth c H locs cells slots Q (F0 m pc ls rest) := lv_iinc C.1 C.2.1 hd h hk (zI_add a n) hn hl kk
theorem zr_iadd (C : CallFix p m c cc nL s args tb own) (hd : decode cc pc = .ok (.iadd, 1)) (k : W p l e R s m args below meth c H locs cells slots Q (F0 m (pc + 1) ls (.int (zI (a + b)) :: rest))) : W p l e R s m args below meth c H locs cells slots Q (F0 m pc ls (.int (zI b) :: .int (zI a) :: rest)) := lv_iadd C.1 C.2.1 hd (by rw [zI_add]; exact k)
theorem zr_isub (C : CallFix p m c cc nL s args tb own) (hd : decode cc pc = .ok (.isub, 1)) (k : W p l e R s m args below meth c H locs cells slots Q (F0 m (pc + 1) ls (.int (zI (a - b)) :: rest))) : W p l e R s m args below meth c H locs cells slots Q (F0 m pc ls (.int (zI b) :: .int (zI a) :: rest)) := lv_isub C.1 C.2.1 hd (by rw [zI_sub]; exact k)
theorem zr_imul (C : CallFix p m c cc nL s args tb own) (hd : decode cc pc = .ok (.imul, 1)) (k : W p l e R s m args below meth c H locs cells slots Q (F0 m (pc + 1) ls (.int (zI (a * b)) :: rest))) : W p l e R s m args below meth c H locs cells slots Q (F0 m pc ls (.int (zI b) :: .int (zI a) :: rest)) := lv_imul C.1 C.2.1 hd (by rw [zI_mul]; exact k)
theorem zr_idiv (C : CallFix p m c cc nL s args tb own) (hd : decode cc pc = .ok (.idiv, 1)) (h : (0 ≤ a ∧ a < 2147483648) ∧ 0 < b ∧ b < 2147483648) (k : W p l e R s m args below meth c H locs cells slots Q (F0 m (pc + 1) ls (.int (zI (a / b)) :: rest))) : W p l e R s m args below meth c H locs cells slots Q (F0 m pc ls (.int (zI b) :: .int (zI a) :: rest)) := lv_idiv C.1 C.2.1 hd (zI_ne0 h.2) (by rw [zI_div h]; exact k)
theorem zr_irem (C : CallFix p m c cc nL s args tb own) (hd : decode cc pc = .ok (.irem, 1)) (h : (0 ≤ a ∧ a < 2147483648) ∧ 0 < b ∧ b < 2147483648) (k : W p l e R s m args below meth c H locs cells slots Q (F0 m (pc + 1) ls (.int (zI (a % b)) :: rest))) : W p l e R s m args below meth c H locs cells slots Q (F0 m pc ls (.int (zI b) :: .int (zI a) :: rest)) := lv_irem C.1 C.2.1 hd (zI_ne0 h.2) (by rw [zI_rem h]; exact k)
theorem zr_ladd (C : CallFix p m c cc nL s args tb own) (hd : decode cc pc = .ok (.ladd, 1)) (k : W p l e R s m args below meth c H locs cells slots Q (F0 m (pc + 1) ls (.long (zL (a + b)) :: rest))) : W p l e R s m args below meth c H locs cells slots Q (F0 m pc ls (.long (zL b) :: .long (zL a) :: rest)) := lv_ladd C.1 C.2.1 hd (by rw [zL_add]; exact k)
theorem zr_lsub (C : CallFix p m c cc nL s args tb own) (hd : decode cc pc = .ok (.lsub, 1)) (k : W p l e R s m args below meth c H locs cells slots Q (F0 m (pc + 1) ls (.long (zL (a - b)) :: rest))) : W p l e R s m args below meth c H locs cells slots Q (F0 m pc ls (.long (zL b) :: .long (zL a) :: rest)) := lv_lsub C.1 C.2.1 hd (by rw [zL_sub]; exact k)
theorem zr_lmul (C : CallFix p m c cc nL s args tb own) (hd : decode cc pc = .ok (.lmul, 1)) (k : W p l e R s m args below meth c H locs cells slots Q (F0 m (pc + 1) ls (.long (zL (a * b)) :: rest))) : W p l e R s m args below meth c H locs cells slots Q (F0 m pc ls (.long (zL b) :: .long (zL a) :: rest)) := lv_lmul C.1 C.2.1 hd (by rw [zL_mul]; exact k)
theorem zr_ldiv (C : CallFix p m c cc nL s args tb own) (hd : decode cc pc = .ok (.ldiv, 1)) (h : (-9223372036854775808 ≤ a ∧ a < 9223372036854775808) ∧ 0 < b ∧ b < 9223372036854775808) (k : W p l e R s m args below meth c H locs cells slots Q (F0 m (pc + 1) ls (.long (zL (a.tdiv b)) :: rest))) : W p l e R s m args below meth c H locs cells slots Q (F0 m pc ls (.long (zL b) :: .long (zL a) :: rest)) := lv_ldiv C.1 C.2.1 hd (zL_ne0 h.2) (by rw [zL_tdiv h]; exact k)
theorem zr_lrem (C : CallFix p m c cc nL s args tb own) (hd : decode cc pc = .ok (.lrem, 1)) (h : (0 ≤ a ∧ a < 9223372036854775808) ∧ 0 < b ∧ b < 9223372036854775808) (k : W p l e R s m args below meth c H locs cells slots Q (F0 m (pc + 1) ls (.long (zL (a % b)) :: rest))) : W p l e R s m args below meth c H locs cells slots Q (F0 m pc ls (.long (zL b) :: .long (zL a) :: rest)) := lv_lrem C.1 C.2.1 hd (zL_ne0 h.2) (by rw [zL_rem h]; exact k)
theorem zr_i2l (C : CallFix p m c cc nL s args tb own) (hd : decode cc pc = .ok (.i2l, 1)) (h : -2147483648 ≤ a ∧ a < 2147483648) (k : W p l e R s m args below meth c H locs cells slots Q (F0 m (pc + 1) ls (.long (zL a) :: rest))) : W p l e R s m args below meth c H locs cells slots Q (F0 m pc ls (.int (zI a) :: rest)) := lv_i2l C.1 C.2.1 hd (zI_l h) k
theorem zr_l2i (C : CallFix p m c cc nL s args tb own) (hd : decode cc pc = .ok (.l2i, 1)) (k : W p l e R s m args below meth c H locs cells slots Q (F0 m (pc + 1) ls (.int (zI a) :: rest))) : W p l e R s m args below meth c H locs cells slots Q (F0 m pc ls (.long (zL a) :: rest)) := lv_l2i C.1 C.2.1 hd (zL_i a) k
theorem zr_i2b (C : CallFix p m c cc nL s args tb own) (hd : decode cc pc = .ok (.i2b, 1)) (k : W p l e R s m args below meth c H locs cells slots Q (F0 m (pc + 1) ls (.int (zI (z8 a)) :: rest))) : W p l e R s m args below meth c H locs cells slots Q (F0 m pc ls (.int (zI a) :: rest)) := lv_i2b C.1 C.2.1 hd (zI_b a) k
/-- 1 shifted by a small number -/
theorem zr_shl1 (C : CallFix p m c cc nL s args tb own) (hd : decode cc pc = .ok (.ishl, 1)) (h : 0 ≤ b ∧ b < 31) (k : W p l e R s m args below meth c H locs cells slots Q (F0 m (pc + 1) ls (.int (zI (2 ^ b.toNat)) :: rest))) : W p l e R s m args below meth c H locs cells slots Q (F0 m pc ls (.int (zI b) :: .int (zI 1) :: rest)) := lv_ishl C.1 C.2.1 hd (by
  have e := zI_shl b.toNat (by omega)
  rw [show ((b.toNat : Nat) : Int) = b by omega] at e
  rw [e]; exact k)
/-- a bit above all that are there -/
theorem zr_ior (C : CallFix p m c cc nL s args tb own) (hd : decode cc pc = .ok (.ior, 1)) {n : Nat} (h : 0 ≤ a ∧ a < 2 ^ n) (hn : n < 31) (k : W p l e R s m args below meth c H locs cells slots Q (F0 m (pc + 1) ls (.int (zI (a + 2 ^ n)) :: rest))) : W p l e R s m args below meth c H locs cells slots Q (F0 m pc ls (.int (zI (2 ^ n)) :: .int (zI a) :: rest)) := lv_ior C.1 C.2.1 hd (by rw [zI_or h hn]; exact k)
theorem zr_ior0 (C : CallFix p m c cc nL s args tb own) (hd : decode cc pc = .ok (.ior, 1)) (k : W p l e R s m args below meth c H locs cells slots Q (F0 m (pc + 1) ls (.int (zI a) :: rest))) : W p l e R s m args below meth c H locs cells slots Q (F0 m pc ls (.int (zI 0) :: .int (zI a) :: rest)) := lv_ior C.1 C.2.1 hd (by
  rw [← zI_0, Int32.or_zero]; exact k)
theorem zr_lcmp (C : CallFix p m c cc nL s args tb own) (hd : decode cc pc = .ok (.lcmp, 1)) (h : (-9223372036854775808 ≤ a ∧ a < 9223372036854775808) ∧ -9223372036854775808 ≤ b ∧ b < 9223372036854775808) (k : W p l e R s m args below meth c H locs cells slots Q (F0 m (pc + 1) ls (.int (zI (if a < b then -1 else if a = b then 0 else 1)) :: rest))) : W p l e R s m args below meth c H locs cells slots Q (F0 m pc ls (.long (zL b) :: .long (zL a) :: rest)) := W.lcmp C.1 C.2.1 hd (by
  have e : lg_cmp (zL a) (zL b) = zI (if a < b then -1 else if a = b then 0 else 1) := by
    unfold lg_cmp
    simp only [zL_lt h, zL_inj h, GT.gt, zL_lt (a := b) (b := a) ⟨h.2, h.1⟩]
    by_cases q1 : a < b
    · have q2 : ¬ b < a := by omega
      have q3 : ¬ a = b := by omega
      simp [q1, q2, q3, zI]
    · by_cases q3 : a = b
      · simp [q3, zI]
      · have q2 : b < a := by omega
        simp [q1, q2, q3, zI]
  rw [e]; exact k)
-- BRANCH ROWS
theorem zr_icmp_eq (C : CallFix p m c cc nL s args tb own) {off : Int} {tgt : Nat} (hd : decode cc pc = .ok (.if_icmp .eq off, 3)) (ht : (pc : Int) + off = (tgt : Int)) (h : ((-2147483648 ≤ a ∧ a < 2147483648) ∧ -2147483648 ≤ b ∧ b < 2147483648)) (kt : a = b → W p l e R s m args below meth c H locs cells slots Q (F0 m tgt ls rest)) (kf : a ≠ b → W p l e R s m args below meth c H locs cells slots Q (F0 m (pc + 3) ls rest)) : W p l e R s m args below meth c H locs cells slots Q (F0 m pc ls (.int (zI b) :: .int (zI a) :: rest)) := lv_icmp_eq C.1 C.2.1 hd ht (fun q => kt ((zI_inj h).mp q)) (fun q => kf (fun z => q ((zI_inj h).mpr z)))
theorem zr_icmp_ne (C : CallFix p m c cc nL s args tb own) {off : Int} {tgt : Nat} (hd : decode cc pc = .ok (.if_icmp .ne off, 3)) (ht : (pc : Int) + off = (tgt : Int)) (h : ((-2147483648 ≤ a ∧ a < 2147483648) ∧ -2147483648 ≤ b ∧ b < 2147483648)) (kt : a ≠ b → W p l e R s m args below meth c H locs cells slots Q (F0 m tgt ls rest)) (kf : a = b → W p l e R s m args below meth c H locs cells slots Q (F0 m (pc + 3) ls rest)) : W p l e R s m args below meth c H locs cells slots Q (F0 m pc ls (.int (zI b) :: .int (zI a) :: rest)) := lv_icmp_ne C.1 C.2.1 hd ht (fun q => kt (fun z => q ((zI_inj h).mpr z))) (fun q => kf ((zI_inj h).mp q))
theorem zr_icmp_lt (C : CallFix p m c cc nL s args tb own) {off : Int} {tgt : Nat} (hd : decode cc pc = .ok (.if_icmp .lt off, 3)) (ht : (pc : Int) + off = (tgt : Int)) (h : ((-2147483648 ≤ a ∧ a < 2147483648) ∧ -2147483648 ≤ b ∧ b < 2147483648)) (kt : a < b → W p l e R s m args below meth c H locs cells slots Q (F0 m tgt ls rest)) (kf : b ≤ a → W p l e R s m args below meth c H locs cells slots Q (F0 m (pc + 3) ls rest)) : W p l e R s m args below meth c H locs cells slots Q (F0 m pc ls (.int (zI b) :: .int (zI a) :: rest)) := lv_icmp_lt C.1 C.2.1 hd ht (fun q => kt ((zI_lt h).mp q)) (fun q => kf (Int.not_lt.mp (fun z => q ((zI_lt h).mpr z))))
theorem zr_icmp_ge (C : CallFix p m c cc nL s args tb own) {off : Int} {tgt : Nat} (hd : decode cc pc = .ok (.if_icmp .ge off, 3)) (ht : (pc : Int) + off = (tgt : Int)) (h : ((-2147483648 ≤ a ∧ a < 2147483648) ∧ -2147483648 ≤ b ∧ b < 2147483648)) (kt : b ≤ a → W p l e R s m args below meth c H locs cells slots Q (F0 m tgt ls rest)) (kf : a < b → W p l e R s m args below meth c H locs cells slots Q (F0 m (pc + 3) ls rest)) : W p l e R s m args below meth c H locs cells slots Q (F0 m pc ls (.int (zI b) :: .int (zI a) :: rest)) := lv_icmp_ge C.1 C.2.1 hd ht (fun q => kt ((zI_le ⟨h.2, h.1⟩).mp q)) (fun q => kf (Int.not_le.mp (fun z => q ((zI_le ⟨h.2, h.1⟩).mpr z))))
theorem zr_icmp_gt (C : CallFix p m c cc nL s args tb own) {off : Int} {tgt : Nat} (hd : decode cc pc = .ok (.if_icmp .gt off, 3)) (ht : (pc : Int) + off = (tgt : Int)) (h : ((-2147483648 ≤ a ∧ a < 2147483648) ∧ -2147483648 ≤ b ∧ b < 2147483648)) (kt : b < a → W p l e R s m args below meth c H locs cells slots Q (F0 m tgt ls rest)) (kf : a ≤ b → W p l e R s m args below meth c H locs cells slots Q (F0 m (pc + 3) ls rest)) : W p l e R s m args below meth c H locs cells slots Q (F0 m pc ls (.int (zI b) :: .int (zI a) :: rest)) := lv_icmp_gt C.1 C.2.1 hd ht (fun q => kt ((zI_lt ⟨h.2, h.1⟩).mp q)) (fun q => kf (Int.not_lt.mp (fun z => q ((zI_lt ⟨h.2, h.1⟩).mpr z))))
theorem zr_icmp_le (C : CallFix p m c cc nL s args tb own) {off : Int} {tgt : Nat} (hd : decode cc pc = .ok (.if_icmp .le off, 3)) (ht : (pc : Int) + off = (tgt : Int)) (h : ((-2147483648 ≤ a ∧ a < 2147483648) ∧ -2147483648 ≤ b ∧ b < 2147483648)) (kt : a ≤ b → W p l e R s m args below meth c H locs cells slots Q (F0 m tgt ls rest)) (kf : b < a → W p l e R s m args below meth c H locs cells slots Q (F0 m (pc + 3) ls rest)) : W p l e R s m args below meth c H locs cells slots Q (F0 m pc ls (.int (zI b) :: .int (zI a) :: rest)) := lv_icmp_le C.1 C.2.1 hd ht (fun q => kt ((zI_le h).mp q)) (fun q => kf (Int.not_le.mp (fun z => q ((zI_le h).mpr z))))
theorem zr_if_eq (C : CallFix p m c cc nL s args tb own) {off : Int} {tgt : Nat} (hd : decode cc pc = .ok (.ifCond .eq off, 3)) (ht : (pc : Int) + off = (tgt : Int)) (h : -2147483648 ≤ a ∧ a < 2147483648) (kt : a = 0 → W p l e R s m args below meth c H locs cells slots Q (F0 m tgt ls rest)) (kf : a ≠ 0 → W p l e R s m args below meth c H locs cells slots Q (F0 m (pc + 3) ls rest)) : W p l e R s m args below meth c H locs cells slots Q (F0 m pc ls (.int (zI a) :: rest)) := lv_if_eq C.1 C.2.1 hd ht (fun q => kt ((zI_inj ⟨h, (by decide : (-2147483648 : Int) ≤ 0 ∧ (0 : Int) < 2147483648)⟩).mp q)) (fun q => kf (fun z => q ((zI_inj ⟨h, (by decide : (-2147483648 : Int) ≤ 0 ∧ (0 : Int) < 2147483648)⟩).mpr z)))
theorem zr_if_ne (C : CallFix p m c cc nL s args tb own) {off : Int} {tgt : Nat} (hd : decode cc pc = .ok (.ifCond .ne off, 3)) (ht : (pc : Int) + off = (tgt : Int)) (h : -2147483648 ≤ a ∧ a < 2147483648) (kt : a ≠ 0 → W p l e R s m args below meth c H locs cells slots Q (F0 m tgt ls rest)) (kf : a = 0 → W p l e R s m args below meth c H locs cells slots Q (F0 m (pc + 3) ls rest)) : W p l e R s m args below meth c H locs cells slots Q (F0 m pc ls (.int (zI a) :: rest)) := lv_if_ne C.1 C.2.1 hd ht (fun q => kt (fun z => q ((zI_inj ⟨h, (by decide : (-2147483648 : Int) ≤ 0 ∧ (0 : Int) < 2147483648)⟩).mpr z))) (fun q => kf ((zI_inj ⟨h, (by decide : (-2147483648 : Int) ≤ 0 ∧ (0 : Int) < 2147483648)⟩).mp q))
theorem zr_if_lt (C : CallFix p m c cc nL s args tb own) {off : Int} {tgt : Nat} (hd : decode cc pc = .ok (.ifCond .lt off, 3)) (ht : (pc : Int) + off = (tgt : Int)) (h : -2147483648 ≤ a ∧ a < 2147483648) (kt : a < 0 → W p l e R s m args below meth c H locs cells slots Q (F0 m tgt ls rest)) (kf : 0 ≤ a → W p l e R s m args below meth c H locs cells slots Q (F0 m (pc + 3) ls rest)) : W p l e R s m args below meth c H locs cells slots Q (F0 m pc ls (.int (zI a) :: rest)) := lv_if_lt C.1 C.2.1 hd ht (fun q => kt ((zI_lt ⟨h, (by decide : (-2147483648 : Int) ≤ 0 ∧ (0 : Int) < 2147483648)⟩).mp q)) (fun q => kf (Int.not_lt.mp (fun z => q ((zI_lt ⟨h, (by decide : (-2147483648 : Int) ≤ 0 ∧ (0 : Int) < 2147483648)⟩).mpr z))))
theorem zr_if_ge (C : CallFix p m c cc nL s args tb own) {off : Int} {tgt : Nat} (hd : decode cc pc = .ok (.ifCond .ge off, 3)) (ht : (pc : Int) + off = (tgt : Int)) (h : -2147483648 ≤ a ∧ a < 2147483648) (kt : 0 ≤ a → W p l e R s m args below meth c H locs cells slots Q (F0 m tgt ls rest)) (kf : a < 0 → W p l e R s m args below meth c H locs cells slots Q (F0 m (pc + 3) ls rest)) : W p l e R s m args below meth c H locs cells slots Q (F0 m pc ls (.int (zI a) :: rest)) := lv_if_ge C.1 C.2.1 hd ht (fun q => kt ((zI_le ⟨(by decide : (-2147483648 : Int) ≤ 0 ∧ (0 : Int) < 2147483648), h⟩).mp q)) (fun q => kf (Int.not_le.mp (fun z => q ((zI_le ⟨(by decide : (-2147483648 : Int) ≤ 0 ∧ (0 : Int) < 2147483648), h⟩).mpr z))))
theorem zr_if_gt (C : CallFix p m c cc nL s args tb own) {off : Int} {tgt : Nat} (hd : decode cc pc = .ok (.ifCond .gt off, 3)) (ht : (pc : Int) + off = (tgt : Int)) (h : -2147483648 ≤ a ∧ a < 2147483648) (kt : 0 < a → W p l e R s m args below meth c H locs cells slots Q (F0 m tgt ls rest)) (kf : a ≤ 0 → W p l e R s m args below meth c H locs cells slots Q (F0 m (pc + 3) ls rest)) : W p l e R s m args below meth c H locs cells slots Q (F0 m pc ls (.int (zI a) :: rest)) := lv_if_gt C.1 C.2.1 hd ht (fun q => kt ((zI_lt ⟨(by decide : (-2147483648 : Int) ≤ 0 ∧ (0 : Int) < 2147483648), h⟩).mp q)) (fun q => kf (Int.not_lt.mp (fun z => q ((zI_lt ⟨(by decide : (-2147483648 : Int) ≤ 0 ∧ (0 : Int) < 2147483648), h⟩).mpr z))))
theorem zr_if_le (C : CallFix p m c cc nL s args tb own) {off : Int} {tgt : Nat} (hd : decode cc pc = .ok (.ifCond .le off, 3)) (ht : (pc : Int) + off = (tgt : Int)) (h : -2147483648 ≤ a ∧ a < 2147483648) (kt : a ≤ 0 → W p l e R s m args below meth c H locs cells slots Q (F0 m tgt ls rest)) (kf : 0 < a → W p l e R s m args below meth c H locs cells slots Q (F0 m (pc + 3) ls rest)) : W p l e R s m args below meth c H locs cells slots Q (F0 m pc ls (.int (zI a) :: rest)) := lv_if_le C.1 C.2.1 hd ht (fun q => kt ((zI_le ⟨h, (by decide : (-2147483648 : Int) ≤ 0 ∧ (0 : Int) < 2147483648)⟩).mp q)) (fun q => kf (Int.not_le.mp (fun z => q ((zI_le ⟨h, (by decide : (-2147483648 : Int) ≤ 0 ∧ (0 : Int) < 2147483648)⟩).mpr z))))
theorem zr_ifeqB (C : CallFix p m c cc nL s args tb own) {P : Prop} [Decidable P] {off : Int} {tgt : Nat} (hd : decode cc pc = .ok (.ifCond .eq off, 3)) (ht : (pc : Int) + off = (tgt : Int)) (kt : ¬ P → W p l e R s m args below meth c H locs cells slots Q (F0 m tgt ls rest)) (kf : P → W p l e R s m args below meth c H locs cells slots Q (F0 m (pc + 3) ls rest)) : W p l e R s m args below meth c H locs cells slots Q (F0 m pc ls (.int (zI (zB P)) :: rest)) := by
  have r := zB_rng P
  refine zr_if_eq C hd ht ⟨by omega, by omega⟩ (fun q => kt (fun z => ?_)) (fun q => kf (Classical.byContradiction (fun z => q (zB_f z))))
  rw [zB_t z] at q
  exact absurd q (by decide)
theorem zr_ifneB (C : CallFix p m c cc nL s args tb own) {P : Prop} [Decidable P] {off : Int} {tgt : Nat} (hd : decode cc pc = .ok (.ifCond .ne off, 3)) (ht : (pc : Int) + off = (tgt : Int)) (kt : P → W p l e R s m args below meth c H locs cells slots Q (F0 m tgt ls rest)) (kf : ¬ P → W p l e R s m args below meth c H locs cells slots Q (F0 m (pc + 3) ls rest)) : W p l e R s m args below meth c H locs cells slots Q (F0 m pc ls (.int (zI (zB P)) :: rest)) := by
  have r := zB_rng P
  refine zr_if_ne C hd ht ⟨by omega, by omega⟩ (fun q => kt (Classical.byContradiction (fun z => q (zB_f z)))) (fun q => kf (fun z => ?_))
  rw [zB_t z] at q
  exact absurd q (by decide)
end ZR
end
section
/-! THE MEMORY: every cell of the system and of the reference, as one function of (family, number, place) -/
abbrev Mm : Type := Nat → Int → Int → Int
def up (σ : Mm) (t : Nat) (i j v : Int) : Mm := fun t1 i1 j1 => if t1 = t ∧ i1 = i ∧ j1 = j then v else σ t1 i1 j1
/-- class numbers and slots; addresses; array classes; addresses of the static tables -/
abbrev Gm : Type := va_G × (Nat → Nat) × (Nat → ClassId) × (Nat → Nat)
abbrev clsG : List vw_C := [(RX0, TX0, 4), (RX1, TX1, 5), (RX2, TX2, 2), (RX3, TX3, 2), (RX4, TX4, 12), (RX5, TX5, 25)]
def tyG (Γ : Gm) : List (ClassId × FieldType) := [(Γ.2.2.1 0, .int), (Γ.2.2.1 1, .byte), (Γ.2.2.1 2, .object "LostDays$Row"), (Γ.2.2.1 3, .object "LostDays$Text"), (Γ.2.2.1 4, .object "LostDays$Calendar"), (Γ.2.2.1 5, .object "LostDays$Kept")]
def aL (Γ : Gm) : Nat := Γ.2.1 0
def aRs (Γ : Gm) : Nat := Γ.2.1 1
def aTs (Γ : Gm) : Nat := Γ.2.1 2
def aTo (Γ : Gm) : Nat := Γ.2.1 3
def aKs (Γ : Gm) : Nat := Γ.2.1 4
def aTf (Γ : Gm) : Nat := Γ.2.1 5
def aRow (Γ : Gm) (i : Int) : Nat := Γ.2.1 (6 + i.toNat)
def aPl (Γ : Gm) (i : Int) : Nat := Γ.2.1 (12 + i.toNat)
def aTx (Γ : Gm) (i : Int) : Nat := Γ.2.1 (18 + i.toNat)
def aSg (Γ : Gm) (i : Int) : Nat := Γ.2.1 (22 + i.toNat)
def aCal (Γ : Gm) (i : Int) : Nat := Γ.2.1 (26 + i.toNat)
def aKp (Γ : Gm) (i : Int) : Nat := Γ.2.1 (32 + i.toNat)
def aKl (Γ : Gm) (i : Int) : Nat := Γ.2.1 (35 + i.toNat)
def aKo (Γ : Gm) (i : Int) : Nat := Γ.2.1 (38 + i.toNat)
def aKg (Γ : Gm) (i : Int) : Nat := Γ.2.1 (41 + i.toNat)
def aM (Γ : Gm) : Nat := Γ.2.1 44
def am_findings (Γ : Gm) : Nat := Γ.2.1 45
def am_sizes (Γ : Gm) : Nat := Γ.2.1 46
def am_rows (Γ : Gm) : Nat := Γ.2.1 47
def am_moving (Γ : Gm) : Nat := Γ.2.1 48
def am_lengths (Γ : Gm) : Nat := Γ.2.1 49
def am_texts (Γ : Gm) : Nat := Γ.2.1 50
def am_kindOf (Γ : Gm) : Nat := Γ.2.1 51
def am_leapOf (Γ : Gm) : Nat := Γ.2.1 52
def am_orderOf (Γ : Gm) : Nat := Γ.2.1 53
def am_gapOf (Γ : Gm) : Nat := Γ.2.1 54
def am_read (Γ : Gm) : Nat := Γ.2.1 55
def am_kept (Γ : Gm) : Nat := Γ.2.1 56
def cL (Γ : Gm) (σ : Mm) : Nat × va_E := (aL Γ, .inr (4, [.ref (aRs Γ), .ref (aTs Γ), .ref (aTo Γ), .ref (aKs Γ), .ref (aCal Γ 5), .ref (aTf Γ), .int (zI (σ 0 0 6)), .int (zI (σ 0 0 7)), .int (zI (σ 0 0 8)), .long (zL (σ 0 0 9)), .long (zL (σ 0 0 10)), .int (zI (σ 0 0 11))]))
def cRs (Γ : Gm) (σ : Mm) : Nat × va_E := (aRs Γ, .inl (Γ.2.2.1 2, 6, .inr (.inr (.inr (.inr (fun j => some (aRow Γ (j : Int))))))))
def cTs (Γ : Gm) (σ : Mm) : Nat × va_E := (aTs Γ, .inl (Γ.2.2.1 3, 4, .inr (.inr (.inr (.inr (fun j => some (aTx Γ (j : Int))))))))
def cTo (Γ : Gm) (σ : Mm) : Nat × va_E := (aTo Γ, .inl (Γ.2.2.1 4, 5, .inr (.inr (.inr (.inr (fun j => some (aCal Γ (j : Int))))))))
def cKs (Γ : Gm) (σ : Mm) : Nat × va_E := (aKs Γ, .inl (Γ.2.2.1 5, 3, .inr (.inr (.inr (.inr (fun j => some (aKp Γ (j : Int))))))))
def cTf (Γ : Gm) (σ : Mm) : Nat × va_E := (aTf Γ, .inl (Γ.2.2.1 0, 6, .inl (fun j => zI (σ 1 0 (j : Int)))))
def cRow (Γ : Gm) (σ : Mm) (i : Int) : Nat × va_E := (aRow Γ i, .inr (2, [.ref (aPl Γ i), .int (zI (σ 2 i 1))]))
def cPl (Γ : Gm) (σ : Mm) (i : Int) : Nat × va_E := (aPl Γ i, .inl (Γ.2.2.1 0, 40, .inl (fun j => zI (σ 3 i (j : Int)))))
def cTx (Γ : Gm) (σ : Mm) (i : Int) : Nat × va_E := (aTx Γ i, .inr (3, [.ref (aSg Γ i), .int (zI (σ 4 i 1))]))
def cSg (Γ : Gm) (σ : Mm) (i : Int) : Nat × va_E := (aSg Γ i, .inl (Γ.2.2.1 1, 60, .inl (fun j => zI (σ 5 i (j : Int)))))
def cCal (Γ : Gm) (σ : Mm) (i : Int) : Nat × va_E := (aCal Γ i, .inr (0, [.int (zI (σ 6 i 0)), .int (zI (σ 6 i 1)), .int (zI (σ 6 i 2)), .int (zI (σ 6 i 3))]))
def cKp (Γ : Gm) (σ : Mm) (i : Int) : Nat × va_E := (aKp Γ i, .inr (1, [.ref (aKl Γ i), .ref (aKo Γ i), .ref (aKg Γ i), .int (zI (σ 7 i 3)), .int (zI (σ 7 i 4))]))
def cKl (Γ : Gm) (σ : Mm) (i : Int) : Nat × va_E := (aKl Γ i, .inl (Γ.2.2.1 0, 5, .inl (fun j => zI (σ 8 i (j : Int)))))
def cKo (Γ : Gm) (σ : Mm) (i : Int) : Nat × va_E := (aKo Γ i, .inl (Γ.2.2.1 0, 5, .inl (fun j => zI (σ 9 i (j : Int)))))
def cKg (Γ : Gm) (σ : Mm) (i : Int) : Nat × va_E := (aKg Γ i, .inl (Γ.2.2.1 0, 5, .inl (fun j => zI (σ 10 i (j : Int)))))
def cM (Γ : Gm) (σ : Mm) : Nat × va_E := (aM Γ, .inr (5, [.int (zI (σ 20 0 0)), .ref (am_findings Γ), .int (zI (σ 20 0 2)), .long (zL (σ 20 0 3)), .long (zL (σ 20 0 4)), .ref (am_sizes Γ), .ref (am_rows Γ), .ref (am_moving Γ), .ref (am_lengths Γ), .ref (am_texts Γ), .int (zI (σ 20 0 10)), .int (zI (σ 20 0 11)), .ref (am_kindOf Γ), .ref (am_leapOf Γ), .ref (am_orderOf Γ), .ref (am_gapOf Γ), .int (zI (σ 20 0 16)), .int (zI (σ 20 0 17)), .ref (am_read Γ), .int (zI (σ 20 0 19)), .int (zI (σ 20 0 20)), .int (zI (σ 20 0 21)), .int (zI (σ 20 0 22)), .ref (am_kept Γ), .long (zL (σ 20 0 24))]))
def cm_findings (Γ : Gm) (σ : Mm) : Nat × va_E := (am_findings Γ, .inl (Γ.2.2.1 0, 6, .inl (fun j => zI (σ 21 0 (j : Int)))))
def cm_sizes (Γ : Gm) (σ : Mm) : Nat × va_E := (am_sizes Γ, .inl (Γ.2.2.1 0, 6, .inl (fun j => zI (σ 22 0 (j : Int)))))
def cm_rows (Γ : Gm) (σ : Mm) : Nat × va_E := (am_rows Γ, .inl (Γ.2.2.1 0, 240, .inl (fun j => zI (σ 23 0 (j : Int)))))
def cm_moving (Γ : Gm) (σ : Mm) : Nat × va_E := (am_moving Γ, .inl (Γ.2.2.1 0, 40, .inl (fun j => zI (σ 24 0 (j : Int)))))
def cm_lengths (Γ : Gm) (σ : Mm) : Nat × va_E := (am_lengths Γ, .inl (Γ.2.2.1 0, 4, .inl (fun j => zI (σ 25 0 (j : Int)))))
def cm_texts (Γ : Gm) (σ : Mm) : Nat × va_E := (am_texts Γ, .inl (Γ.2.2.1 0, 240, .inl (fun j => zI (σ 26 0 (j : Int)))))
def cm_kindOf (Γ : Gm) (σ : Mm) : Nat × va_E := (am_kindOf Γ, .inl (Γ.2.2.1 0, 5, .inl (fun j => zI (σ 27 0 (j : Int)))))
def cm_leapOf (Γ : Gm) (σ : Mm) : Nat × va_E := (am_leapOf Γ, .inl (Γ.2.2.1 0, 5, .inl (fun j => zI (σ 28 0 (j : Int)))))
def cm_orderOf (Γ : Gm) (σ : Mm) : Nat × va_E := (am_orderOf Γ, .inl (Γ.2.2.1 0, 5, .inl (fun j => zI (σ 29 0 (j : Int)))))
def cm_gapOf (Γ : Gm) (σ : Mm) : Nat × va_E := (am_gapOf Γ, .inl (Γ.2.2.1 0, 5, .inl (fun j => zI (σ 30 0 (j : Int)))))
def cm_read (Γ : Gm) (σ : Mm) : Nat × va_E := (am_read Γ, .inl (Γ.2.2.1 0, 20, .inl (fun j => zI (σ 31 0 (j : Int)))))
def cm_kept (Γ : Gm) (σ : Mm) : Nat × va_E := (am_kept Γ, .inl (Γ.2.2.1 0, 63, .inl (fun j => zI (σ 32 0 (j : Int)))))
def gw (Γ : Gm) (σ : Mm) : va_W := [cL Γ σ, cRs Γ σ, cTs Γ σ, cTo Γ σ, cKs Γ σ, cTf Γ σ, cRow Γ σ 0, cRow Γ σ 1, cRow Γ σ 2, cRow Γ σ 3, cRow Γ σ 4, cRow Γ σ 5, cPl Γ σ 0, cPl Γ σ 1, cPl Γ σ 2, cPl Γ σ 3, cPl Γ σ 4, cPl Γ σ 5, cTx Γ σ 0, cTx Γ σ 1, cTx Γ σ 2, cTx Γ σ 3, cSg Γ σ 0, cSg Γ σ 1, cSg Γ σ 2, cSg Γ σ 3, cCal Γ σ 0, cCal Γ σ 1, cCal Γ σ 2, cCal Γ σ 3, cCal Γ σ 4, cCal Γ σ 5, cKp Γ σ 0, cKp Γ σ 1, cKp Γ σ 2, cKl Γ σ 0, cKl Γ σ 1, cKl Γ σ 2, cKo Γ σ 0, cKo Γ σ 1, cKo Γ σ 2, cKg Γ σ 0, cKg Γ σ 1, cKg Γ σ 2, cM Γ σ, cm_findings Γ σ, cm_sizes Γ σ, cm_rows Γ σ, cm_moving Γ σ, cm_lengths Γ σ, cm_texts Γ σ, cm_kindOf Γ σ, cm_leapOf Γ σ, cm_orderOf Γ σ, cm_gapOf Γ σ, cm_read Γ σ, cm_kept Γ σ]
theorem pL {Γ : Gm} {σ : Mm} : (gw Γ σ)[0]? = some (cL Γ σ) := rfl
theorem pRs {Γ : Gm} {σ : Mm} : (gw Γ σ)[1]? = some (cRs Γ σ) := rfl
theorem pTs {Γ : Gm} {σ : Mm} : (gw Γ σ)[2]? = some (cTs Γ σ) := rfl
theorem pTo {Γ : Gm} {σ : Mm} : (gw Γ σ)[3]? = some (cTo Γ σ) := rfl
theorem pKs {Γ : Gm} {σ : Mm} : (gw Γ σ)[4]? = some (cKs Γ σ) := rfl
theorem pTf {Γ : Gm} {σ : Mm} : (gw Γ σ)[5]? = some (cTf Γ σ) := rfl
theorem pRow {Γ : Gm} {σ : Mm} {i : Int} (h : 0 ≤ i ∧ i < 6) : (gw Γ σ)[6 + i.toNat]? = some (cRow Γ σ i) := by
  rcases (show i = 0 ∨ i = 1 ∨ i = 2 ∨ i = 3 ∨ i = 4 ∨ i = 5 by omega) with rfl | rfl | rfl | rfl | rfl | rfl <;> rfl
theorem pPl {Γ : Gm} {σ : Mm} {i : Int} (h : 0 ≤ i ∧ i < 6) : (gw Γ σ)[12 + i.toNat]? = some (cPl Γ σ i) := by
  rcases (show i = 0 ∨ i = 1 ∨ i = 2 ∨ i = 3 ∨ i = 4 ∨ i = 5 by omega) with rfl | rfl | rfl | rfl | rfl | rfl <;> rfl
theorem pTx {Γ : Gm} {σ : Mm} {i : Int} (h : 0 ≤ i ∧ i < 4) : (gw Γ σ)[18 + i.toNat]? = some (cTx Γ σ i) := by
  rcases (show i = 0 ∨ i = 1 ∨ i = 2 ∨ i = 3 by omega) with rfl | rfl | rfl | rfl <;> rfl
theorem pSg {Γ : Gm} {σ : Mm} {i : Int} (h : 0 ≤ i ∧ i < 4) : (gw Γ σ)[22 + i.toNat]? = some (cSg Γ σ i) := by
  rcases (show i = 0 ∨ i = 1 ∨ i = 2 ∨ i = 3 by omega) with rfl | rfl | rfl | rfl <;> rfl
theorem pCal {Γ : Gm} {σ : Mm} {i : Int} (h : 0 ≤ i ∧ i < 6) : (gw Γ σ)[26 + i.toNat]? = some (cCal Γ σ i) := by
  rcases (show i = 0 ∨ i = 1 ∨ i = 2 ∨ i = 3 ∨ i = 4 ∨ i = 5 by omega) with rfl | rfl | rfl | rfl | rfl | rfl <;> rfl
theorem pKp {Γ : Gm} {σ : Mm} {i : Int} (h : 0 ≤ i ∧ i < 3) : (gw Γ σ)[32 + i.toNat]? = some (cKp Γ σ i) := by
  rcases (show i = 0 ∨ i = 1 ∨ i = 2 by omega) with rfl | rfl | rfl <;> rfl
theorem pKl {Γ : Gm} {σ : Mm} {i : Int} (h : 0 ≤ i ∧ i < 3) : (gw Γ σ)[35 + i.toNat]? = some (cKl Γ σ i) := by
  rcases (show i = 0 ∨ i = 1 ∨ i = 2 by omega) with rfl | rfl | rfl <;> rfl
theorem pKo {Γ : Gm} {σ : Mm} {i : Int} (h : 0 ≤ i ∧ i < 3) : (gw Γ σ)[38 + i.toNat]? = some (cKo Γ σ i) := by
  rcases (show i = 0 ∨ i = 1 ∨ i = 2 by omega) with rfl | rfl | rfl <;> rfl
theorem pKg {Γ : Gm} {σ : Mm} {i : Int} (h : 0 ≤ i ∧ i < 3) : (gw Γ σ)[41 + i.toNat]? = some (cKg Γ σ i) := by
  rcases (show i = 0 ∨ i = 1 ∨ i = 2 by omega) with rfl | rfl | rfl <;> rfl
theorem pM {Γ : Gm} {σ : Mm} : (gw Γ σ)[44]? = some (cM Γ σ) := rfl
theorem pm_findings {Γ : Gm} {σ : Mm} : (gw Γ σ)[45]? = some (cm_findings Γ σ) := rfl
theorem pm_sizes {Γ : Gm} {σ : Mm} : (gw Γ σ)[46]? = some (cm_sizes Γ σ) := rfl
theorem pm_rows {Γ : Gm} {σ : Mm} : (gw Γ σ)[47]? = some (cm_rows Γ σ) := rfl
theorem pm_moving {Γ : Gm} {σ : Mm} : (gw Γ σ)[48]? = some (cm_moving Γ σ) := rfl
theorem pm_lengths {Γ : Gm} {σ : Mm} : (gw Γ σ)[49]? = some (cm_lengths Γ σ) := rfl
theorem pm_texts {Γ : Gm} {σ : Mm} : (gw Γ σ)[50]? = some (cm_texts Γ σ) := rfl
theorem pm_kindOf {Γ : Gm} {σ : Mm} : (gw Γ σ)[51]? = some (cm_kindOf Γ σ) := rfl
theorem pm_leapOf {Γ : Gm} {σ : Mm} : (gw Γ σ)[52]? = some (cm_leapOf Γ σ) := rfl
theorem pm_orderOf {Γ : Gm} {σ : Mm} : (gw Γ σ)[53]? = some (cm_orderOf Γ σ) := rfl
theorem pm_gapOf {Γ : Gm} {σ : Mm} : (gw Γ σ)[54]? = some (cm_gapOf Γ σ) := rfl
theorem pm_read {Γ : Gm} {σ : Mm} : (gw Γ σ)[55]? = some (cm_read Γ σ) := rfl
theorem pm_kept {Γ : Gm} {σ : Mm} : (gw Γ σ)[56]? = some (cm_kept Γ σ) := rfl
theorem up_arr (σ : Mm) (t : Nat) (i : Int) {z v : Int} (hz : 0 ≤ z) : upd (fun j : Nat => zI (σ t i (j : Int))) z.toNat (zI v) = fun j : Nat => zI (up σ t i z v t i (j : Int)) := by
  funext j
  unfold upd up
  by_cases q : j = z.toNat
  · have q2 : (j : Int) = z := by omega
    rw [if_pos q, if_pos ⟨rfl, rfl, q2⟩]
  · have q2 : ¬ (j : Int) = z := by omega
    rw [if_neg q, if_neg (fun h => q2 h.2.2)]
theorem sL_6 {Γ : Gm} {σ : Mm} {v : Int} : (gw Γ σ).set 0 (aL Γ, .inr (4, [.ref (aRs Γ), .ref (aTs Γ), .ref (aTo Γ), .ref (aKs Γ), .ref (aCal Γ 5), .ref (aTf Γ), .int (zI v), .int (zI (σ 0 0 7)), .int (zI (σ 0 0 8)), .long (zL (σ 0 0 9)), .long (zL (σ 0 0 10)), .int (zI (σ 0 0 11))])) = gw Γ (up σ 0 0 6 v) := rfl
theorem sL_7 {Γ : Gm} {σ : Mm} {v : Int} : (gw Γ σ).set 0 (aL Γ, .inr (4, [.ref (aRs Γ), .ref (aTs Γ), .ref (aTo Γ), .ref (aKs Γ), .ref (aCal Γ 5), .ref (aTf Γ), .int (zI (σ 0 0 6)), .int (zI v), .int (zI (σ 0 0 8)), .long (zL (σ 0 0 9)), .long (zL (σ 0 0 10)), .int (zI (σ 0 0 11))])) = gw Γ (up σ 0 0 7 v) := rfl
theorem sL_8 {Γ : Gm} {σ : Mm} {v : Int} : (gw Γ σ).set 0 (aL Γ, .inr (4, [.ref (aRs Γ), .ref (aTs Γ), .ref (aTo Γ), .ref (aKs Γ), .ref (aCal Γ 5), .ref (aTf Γ), .int (zI (σ 0 0 6)), .int (zI (σ 0 0 7)), .int (zI v), .long (zL (σ 0 0 9)), .long (zL (σ 0 0 10)), .int (zI (σ 0 0 11))])) = gw Γ (up σ 0 0 8 v) := rfl
theorem sL_9 {Γ : Gm} {σ : Mm} {v : Int} : (gw Γ σ).set 0 (aL Γ, .inr (4, [.ref (aRs Γ), .ref (aTs Γ), .ref (aTo Γ), .ref (aKs Γ), .ref (aCal Γ 5), .ref (aTf Γ), .int (zI (σ 0 0 6)), .int (zI (σ 0 0 7)), .int (zI (σ 0 0 8)), .long (zL v), .long (zL (σ 0 0 10)), .int (zI (σ 0 0 11))])) = gw Γ (up σ 0 0 9 v) := rfl
theorem sL_10 {Γ : Gm} {σ : Mm} {v : Int} : (gw Γ σ).set 0 (aL Γ, .inr (4, [.ref (aRs Γ), .ref (aTs Γ), .ref (aTo Γ), .ref (aKs Γ), .ref (aCal Γ 5), .ref (aTf Γ), .int (zI (σ 0 0 6)), .int (zI (σ 0 0 7)), .int (zI (σ 0 0 8)), .long (zL (σ 0 0 9)), .long (zL v), .int (zI (σ 0 0 11))])) = gw Γ (up σ 0 0 10 v) := rfl
theorem sL_11 {Γ : Gm} {σ : Mm} {v : Int} : (gw Γ σ).set 0 (aL Γ, .inr (4, [.ref (aRs Γ), .ref (aTs Γ), .ref (aTo Γ), .ref (aKs Γ), .ref (aCal Γ 5), .ref (aTf Γ), .int (zI (σ 0 0 6)), .int (zI (σ 0 0 7)), .int (zI (σ 0 0 8)), .long (zL (σ 0 0 9)), .long (zL (σ 0 0 10)), .int (zI v)])) = gw Γ (up σ 0 0 11 v) := rfl
theorem sRow_1 {Γ : Gm} {σ : Mm} {i v : Int} (h : 0 ≤ i ∧ i < 6) : (gw Γ σ).set (6 + i.toNat) (aRow Γ i, .inr (2, [.ref (aPl Γ i), .int (zI v)])) = gw Γ (up σ 2 i 1 v) := by
  rcases (show i = 0 ∨ i = 1 ∨ i = 2 ∨ i = 3 ∨ i = 4 ∨ i = 5 by omega) with rfl | rfl | rfl | rfl | rfl | rfl <;> rfl
theorem sTx_1 {Γ : Gm} {σ : Mm} {i v : Int} (h : 0 ≤ i ∧ i < 4) : (gw Γ σ).set (18 + i.toNat) (aTx Γ i, .inr (3, [.ref (aSg Γ i), .int (zI v)])) = gw Γ (up σ 4 i 1 v) := by
  rcases (show i = 0 ∨ i = 1 ∨ i = 2 ∨ i = 3 by omega) with rfl | rfl | rfl | rfl <;> rfl
theorem sCal_0 {Γ : Gm} {σ : Mm} {i v : Int} (h : 0 ≤ i ∧ i < 6) : (gw Γ σ).set (26 + i.toNat) (aCal Γ i, .inr (0, [.int (zI v), .int (zI (σ 6 i 1)), .int (zI (σ 6 i 2)), .int (zI (σ 6 i 3))])) = gw Γ (up σ 6 i 0 v) := by
  rcases (show i = 0 ∨ i = 1 ∨ i = 2 ∨ i = 3 ∨ i = 4 ∨ i = 5 by omega) with rfl | rfl | rfl | rfl | rfl | rfl <;> rfl
theorem sCal_1 {Γ : Gm} {σ : Mm} {i v : Int} (h : 0 ≤ i ∧ i < 6) : (gw Γ σ).set (26 + i.toNat) (aCal Γ i, .inr (0, [.int (zI (σ 6 i 0)), .int (zI v), .int (zI (σ 6 i 2)), .int (zI (σ 6 i 3))])) = gw Γ (up σ 6 i 1 v) := by
  rcases (show i = 0 ∨ i = 1 ∨ i = 2 ∨ i = 3 ∨ i = 4 ∨ i = 5 by omega) with rfl | rfl | rfl | rfl | rfl | rfl <;> rfl
theorem sCal_2 {Γ : Gm} {σ : Mm} {i v : Int} (h : 0 ≤ i ∧ i < 6) : (gw Γ σ).set (26 + i.toNat) (aCal Γ i, .inr (0, [.int (zI (σ 6 i 0)), .int (zI (σ 6 i 1)), .int (zI v), .int (zI (σ 6 i 3))])) = gw Γ (up σ 6 i 2 v) := by
  rcases (show i = 0 ∨ i = 1 ∨ i = 2 ∨ i = 3 ∨ i = 4 ∨ i = 5 by omega) with rfl | rfl | rfl | rfl | rfl | rfl <;> rfl
theorem sCal_3 {Γ : Gm} {σ : Mm} {i v : Int} (h : 0 ≤ i ∧ i < 6) : (gw Γ σ).set (26 + i.toNat) (aCal Γ i, .inr (0, [.int (zI (σ 6 i 0)), .int (zI (σ 6 i 1)), .int (zI (σ 6 i 2)), .int (zI v)])) = gw Γ (up σ 6 i 3 v) := by
  rcases (show i = 0 ∨ i = 1 ∨ i = 2 ∨ i = 3 ∨ i = 4 ∨ i = 5 by omega) with rfl | rfl | rfl | rfl | rfl | rfl <;> rfl
theorem sKp_3 {Γ : Gm} {σ : Mm} {i v : Int} (h : 0 ≤ i ∧ i < 3) : (gw Γ σ).set (32 + i.toNat) (aKp Γ i, .inr (1, [.ref (aKl Γ i), .ref (aKo Γ i), .ref (aKg Γ i), .int (zI v), .int (zI (σ 7 i 4))])) = gw Γ (up σ 7 i 3 v) := by
  rcases (show i = 0 ∨ i = 1 ∨ i = 2 by omega) with rfl | rfl | rfl <;> rfl
theorem sKp_4 {Γ : Gm} {σ : Mm} {i v : Int} (h : 0 ≤ i ∧ i < 3) : (gw Γ σ).set (32 + i.toNat) (aKp Γ i, .inr (1, [.ref (aKl Γ i), .ref (aKo Γ i), .ref (aKg Γ i), .int (zI (σ 7 i 3)), .int (zI v)])) = gw Γ (up σ 7 i 4 v) := by
  rcases (show i = 0 ∨ i = 1 ∨ i = 2 by omega) with rfl | rfl | rfl <;> rfl
theorem sM_0 {Γ : Gm} {σ : Mm} {v : Int} : (gw Γ σ).set 44 (aM Γ, .inr (5, [.int (zI v), .ref (am_findings Γ), .int (zI (σ 20 0 2)), .long (zL (σ 20 0 3)), .long (zL (σ 20 0 4)), .ref (am_sizes Γ), .ref (am_rows Γ), .ref (am_moving Γ), .ref (am_lengths Γ), .ref (am_texts Γ), .int (zI (σ 20 0 10)), .int (zI (σ 20 0 11)), .ref (am_kindOf Γ), .ref (am_leapOf Γ), .ref (am_orderOf Γ), .ref (am_gapOf Γ), .int (zI (σ 20 0 16)), .int (zI (σ 20 0 17)), .ref (am_read Γ), .int (zI (σ 20 0 19)), .int (zI (σ 20 0 20)), .int (zI (σ 20 0 21)), .int (zI (σ 20 0 22)), .ref (am_kept Γ), .long (zL (σ 20 0 24))])) = gw Γ (up σ 20 0 0 v) := rfl
theorem sM_2 {Γ : Gm} {σ : Mm} {v : Int} : (gw Γ σ).set 44 (aM Γ, .inr (5, [.int (zI (σ 20 0 0)), .ref (am_findings Γ), .int (zI v), .long (zL (σ 20 0 3)), .long (zL (σ 20 0 4)), .ref (am_sizes Γ), .ref (am_rows Γ), .ref (am_moving Γ), .ref (am_lengths Γ), .ref (am_texts Γ), .int (zI (σ 20 0 10)), .int (zI (σ 20 0 11)), .ref (am_kindOf Γ), .ref (am_leapOf Γ), .ref (am_orderOf Γ), .ref (am_gapOf Γ), .int (zI (σ 20 0 16)), .int (zI (σ 20 0 17)), .ref (am_read Γ), .int (zI (σ 20 0 19)), .int (zI (σ 20 0 20)), .int (zI (σ 20 0 21)), .int (zI (σ 20 0 22)), .ref (am_kept Γ), .long (zL (σ 20 0 24))])) = gw Γ (up σ 20 0 2 v) := rfl
theorem sM_3 {Γ : Gm} {σ : Mm} {v : Int} : (gw Γ σ).set 44 (aM Γ, .inr (5, [.int (zI (σ 20 0 0)), .ref (am_findings Γ), .int (zI (σ 20 0 2)), .long (zL v), .long (zL (σ 20 0 4)), .ref (am_sizes Γ), .ref (am_rows Γ), .ref (am_moving Γ), .ref (am_lengths Γ), .ref (am_texts Γ), .int (zI (σ 20 0 10)), .int (zI (σ 20 0 11)), .ref (am_kindOf Γ), .ref (am_leapOf Γ), .ref (am_orderOf Γ), .ref (am_gapOf Γ), .int (zI (σ 20 0 16)), .int (zI (σ 20 0 17)), .ref (am_read Γ), .int (zI (σ 20 0 19)), .int (zI (σ 20 0 20)), .int (zI (σ 20 0 21)), .int (zI (σ 20 0 22)), .ref (am_kept Γ), .long (zL (σ 20 0 24))])) = gw Γ (up σ 20 0 3 v) := rfl
theorem sM_4 {Γ : Gm} {σ : Mm} {v : Int} : (gw Γ σ).set 44 (aM Γ, .inr (5, [.int (zI (σ 20 0 0)), .ref (am_findings Γ), .int (zI (σ 20 0 2)), .long (zL (σ 20 0 3)), .long (zL v), .ref (am_sizes Γ), .ref (am_rows Γ), .ref (am_moving Γ), .ref (am_lengths Γ), .ref (am_texts Γ), .int (zI (σ 20 0 10)), .int (zI (σ 20 0 11)), .ref (am_kindOf Γ), .ref (am_leapOf Γ), .ref (am_orderOf Γ), .ref (am_gapOf Γ), .int (zI (σ 20 0 16)), .int (zI (σ 20 0 17)), .ref (am_read Γ), .int (zI (σ 20 0 19)), .int (zI (σ 20 0 20)), .int (zI (σ 20 0 21)), .int (zI (σ 20 0 22)), .ref (am_kept Γ), .long (zL (σ 20 0 24))])) = gw Γ (up σ 20 0 4 v) := rfl
theorem sM_10 {Γ : Gm} {σ : Mm} {v : Int} : (gw Γ σ).set 44 (aM Γ, .inr (5, [.int (zI (σ 20 0 0)), .ref (am_findings Γ), .int (zI (σ 20 0 2)), .long (zL (σ 20 0 3)), .long (zL (σ 20 0 4)), .ref (am_sizes Γ), .ref (am_rows Γ), .ref (am_moving Γ), .ref (am_lengths Γ), .ref (am_texts Γ), .int (zI v), .int (zI (σ 20 0 11)), .ref (am_kindOf Γ), .ref (am_leapOf Γ), .ref (am_orderOf Γ), .ref (am_gapOf Γ), .int (zI (σ 20 0 16)), .int (zI (σ 20 0 17)), .ref (am_read Γ), .int (zI (σ 20 0 19)), .int (zI (σ 20 0 20)), .int (zI (σ 20 0 21)), .int (zI (σ 20 0 22)), .ref (am_kept Γ), .long (zL (σ 20 0 24))])) = gw Γ (up σ 20 0 10 v) := rfl
theorem sM_11 {Γ : Gm} {σ : Mm} {v : Int} : (gw Γ σ).set 44 (aM Γ, .inr (5, [.int (zI (σ 20 0 0)), .ref (am_findings Γ), .int (zI (σ 20 0 2)), .long (zL (σ 20 0 3)), .long (zL (σ 20 0 4)), .ref (am_sizes Γ), .ref (am_rows Γ), .ref (am_moving Γ), .ref (am_lengths Γ), .ref (am_texts Γ), .int (zI (σ 20 0 10)), .int (zI v), .ref (am_kindOf Γ), .ref (am_leapOf Γ), .ref (am_orderOf Γ), .ref (am_gapOf Γ), .int (zI (σ 20 0 16)), .int (zI (σ 20 0 17)), .ref (am_read Γ), .int (zI (σ 20 0 19)), .int (zI (σ 20 0 20)), .int (zI (σ 20 0 21)), .int (zI (σ 20 0 22)), .ref (am_kept Γ), .long (zL (σ 20 0 24))])) = gw Γ (up σ 20 0 11 v) := rfl
theorem sM_16 {Γ : Gm} {σ : Mm} {v : Int} : (gw Γ σ).set 44 (aM Γ, .inr (5, [.int (zI (σ 20 0 0)), .ref (am_findings Γ), .int (zI (σ 20 0 2)), .long (zL (σ 20 0 3)), .long (zL (σ 20 0 4)), .ref (am_sizes Γ), .ref (am_rows Γ), .ref (am_moving Γ), .ref (am_lengths Γ), .ref (am_texts Γ), .int (zI (σ 20 0 10)), .int (zI (σ 20 0 11)), .ref (am_kindOf Γ), .ref (am_leapOf Γ), .ref (am_orderOf Γ), .ref (am_gapOf Γ), .int (zI v), .int (zI (σ 20 0 17)), .ref (am_read Γ), .int (zI (σ 20 0 19)), .int (zI (σ 20 0 20)), .int (zI (σ 20 0 21)), .int (zI (σ 20 0 22)), .ref (am_kept Γ), .long (zL (σ 20 0 24))])) = gw Γ (up σ 20 0 16 v) := rfl
theorem sM_17 {Γ : Gm} {σ : Mm} {v : Int} : (gw Γ σ).set 44 (aM Γ, .inr (5, [.int (zI (σ 20 0 0)), .ref (am_findings Γ), .int (zI (σ 20 0 2)), .long (zL (σ 20 0 3)), .long (zL (σ 20 0 4)), .ref (am_sizes Γ), .ref (am_rows Γ), .ref (am_moving Γ), .ref (am_lengths Γ), .ref (am_texts Γ), .int (zI (σ 20 0 10)), .int (zI (σ 20 0 11)), .ref (am_kindOf Γ), .ref (am_leapOf Γ), .ref (am_orderOf Γ), .ref (am_gapOf Γ), .int (zI (σ 20 0 16)), .int (zI v), .ref (am_read Γ), .int (zI (σ 20 0 19)), .int (zI (σ 20 0 20)), .int (zI (σ 20 0 21)), .int (zI (σ 20 0 22)), .ref (am_kept Γ), .long (zL (σ 20 0 24))])) = gw Γ (up σ 20 0 17 v) := rfl
theorem sM_19 {Γ : Gm} {σ : Mm} {v : Int} : (gw Γ σ).set 44 (aM Γ, .inr (5, [.int (zI (σ 20 0 0)), .ref (am_findings Γ), .int (zI (σ 20 0 2)), .long (zL (σ 20 0 3)), .long (zL (σ 20 0 4)), .ref (am_sizes Γ), .ref (am_rows Γ), .ref (am_moving Γ), .ref (am_lengths Γ), .ref (am_texts Γ), .int (zI (σ 20 0 10)), .int (zI (σ 20 0 11)), .ref (am_kindOf Γ), .ref (am_leapOf Γ), .ref (am_orderOf Γ), .ref (am_gapOf Γ), .int (zI (σ 20 0 16)), .int (zI (σ 20 0 17)), .ref (am_read Γ), .int (zI v), .int (zI (σ 20 0 20)), .int (zI (σ 20 0 21)), .int (zI (σ 20 0 22)), .ref (am_kept Γ), .long (zL (σ 20 0 24))])) = gw Γ (up σ 20 0 19 v) := rfl
theorem sM_20 {Γ : Gm} {σ : Mm} {v : Int} : (gw Γ σ).set 44 (aM Γ, .inr (5, [.int (zI (σ 20 0 0)), .ref (am_findings Γ), .int (zI (σ 20 0 2)), .long (zL (σ 20 0 3)), .long (zL (σ 20 0 4)), .ref (am_sizes Γ), .ref (am_rows Γ), .ref (am_moving Γ), .ref (am_lengths Γ), .ref (am_texts Γ), .int (zI (σ 20 0 10)), .int (zI (σ 20 0 11)), .ref (am_kindOf Γ), .ref (am_leapOf Γ), .ref (am_orderOf Γ), .ref (am_gapOf Γ), .int (zI (σ 20 0 16)), .int (zI (σ 20 0 17)), .ref (am_read Γ), .int (zI (σ 20 0 19)), .int (zI v), .int (zI (σ 20 0 21)), .int (zI (σ 20 0 22)), .ref (am_kept Γ), .long (zL (σ 20 0 24))])) = gw Γ (up σ 20 0 20 v) := rfl
theorem sM_21 {Γ : Gm} {σ : Mm} {v : Int} : (gw Γ σ).set 44 (aM Γ, .inr (5, [.int (zI (σ 20 0 0)), .ref (am_findings Γ), .int (zI (σ 20 0 2)), .long (zL (σ 20 0 3)), .long (zL (σ 20 0 4)), .ref (am_sizes Γ), .ref (am_rows Γ), .ref (am_moving Γ), .ref (am_lengths Γ), .ref (am_texts Γ), .int (zI (σ 20 0 10)), .int (zI (σ 20 0 11)), .ref (am_kindOf Γ), .ref (am_leapOf Γ), .ref (am_orderOf Γ), .ref (am_gapOf Γ), .int (zI (σ 20 0 16)), .int (zI (σ 20 0 17)), .ref (am_read Γ), .int (zI (σ 20 0 19)), .int (zI (σ 20 0 20)), .int (zI v), .int (zI (σ 20 0 22)), .ref (am_kept Γ), .long (zL (σ 20 0 24))])) = gw Γ (up σ 20 0 21 v) := rfl
theorem sM_22 {Γ : Gm} {σ : Mm} {v : Int} : (gw Γ σ).set 44 (aM Γ, .inr (5, [.int (zI (σ 20 0 0)), .ref (am_findings Γ), .int (zI (σ 20 0 2)), .long (zL (σ 20 0 3)), .long (zL (σ 20 0 4)), .ref (am_sizes Γ), .ref (am_rows Γ), .ref (am_moving Γ), .ref (am_lengths Γ), .ref (am_texts Γ), .int (zI (σ 20 0 10)), .int (zI (σ 20 0 11)), .ref (am_kindOf Γ), .ref (am_leapOf Γ), .ref (am_orderOf Γ), .ref (am_gapOf Γ), .int (zI (σ 20 0 16)), .int (zI (σ 20 0 17)), .ref (am_read Γ), .int (zI (σ 20 0 19)), .int (zI (σ 20 0 20)), .int (zI (σ 20 0 21)), .int (zI v), .ref (am_kept Γ), .long (zL (σ 20 0 24))])) = gw Γ (up σ 20 0 22 v) := rfl
theorem sM_24 {Γ : Gm} {σ : Mm} {v : Int} : (gw Γ σ).set 44 (aM Γ, .inr (5, [.int (zI (σ 20 0 0)), .ref (am_findings Γ), .int (zI (σ 20 0 2)), .long (zL (σ 20 0 3)), .long (zL (σ 20 0 4)), .ref (am_sizes Γ), .ref (am_rows Γ), .ref (am_moving Γ), .ref (am_lengths Γ), .ref (am_texts Γ), .int (zI (σ 20 0 10)), .int (zI (σ 20 0 11)), .ref (am_kindOf Γ), .ref (am_leapOf Γ), .ref (am_orderOf Γ), .ref (am_gapOf Γ), .int (zI (σ 20 0 16)), .int (zI (σ 20 0 17)), .ref (am_read Γ), .int (zI (σ 20 0 19)), .int (zI (σ 20 0 20)), .int (zI (σ 20 0 21)), .int (zI (σ 20 0 22)), .ref (am_kept Γ), .long (zL v)])) = gw Γ (up σ 20 0 24 v) := rfl
theorem sTf {Γ : Gm} {σ : Mm} {z v : Int} : (gw Γ σ).set 5 (aTf Γ, .inl (Γ.2.2.1 0, 6, .inl (fun j : Nat => zI (up σ 1 0 z v 1 0 (j : Int))))) = gw Γ (up σ 1 0 z v) := rfl
theorem sPl {Γ : Gm} {σ : Mm} {i z v : Int} (h : 0 ≤ i ∧ i < 6) : (gw Γ σ).set (12 + i.toNat) (aPl Γ i, .inl (Γ.2.2.1 0, 40, .inl (fun j : Nat => zI (up σ 3 i z v 3 i (j : Int))))) = gw Γ (up σ 3 i z v) := by
  rcases (show i = 0 ∨ i = 1 ∨ i = 2 ∨ i = 3 ∨ i = 4 ∨ i = 5 by omega) with rfl | rfl | rfl | rfl | rfl | rfl <;> rfl
theorem sSg {Γ : Gm} {σ : Mm} {i z v : Int} (h : 0 ≤ i ∧ i < 4) : (gw Γ σ).set (22 + i.toNat) (aSg Γ i, .inl (Γ.2.2.1 1, 60, .inl (fun j : Nat => zI (up σ 5 i z v 5 i (j : Int))))) = gw Γ (up σ 5 i z v) := by
  rcases (show i = 0 ∨ i = 1 ∨ i = 2 ∨ i = 3 by omega) with rfl | rfl | rfl | rfl <;> rfl
theorem sKl {Γ : Gm} {σ : Mm} {i z v : Int} (h : 0 ≤ i ∧ i < 3) : (gw Γ σ).set (35 + i.toNat) (aKl Γ i, .inl (Γ.2.2.1 0, 5, .inl (fun j : Nat => zI (up σ 8 i z v 8 i (j : Int))))) = gw Γ (up σ 8 i z v) := by
  rcases (show i = 0 ∨ i = 1 ∨ i = 2 by omega) with rfl | rfl | rfl <;> rfl
theorem sKo {Γ : Gm} {σ : Mm} {i z v : Int} (h : 0 ≤ i ∧ i < 3) : (gw Γ σ).set (38 + i.toNat) (aKo Γ i, .inl (Γ.2.2.1 0, 5, .inl (fun j : Nat => zI (up σ 9 i z v 9 i (j : Int))))) = gw Γ (up σ 9 i z v) := by
  rcases (show i = 0 ∨ i = 1 ∨ i = 2 by omega) with rfl | rfl | rfl <;> rfl
theorem sKg {Γ : Gm} {σ : Mm} {i z v : Int} (h : 0 ≤ i ∧ i < 3) : (gw Γ σ).set (41 + i.toNat) (aKg Γ i, .inl (Γ.2.2.1 0, 5, .inl (fun j : Nat => zI (up σ 10 i z v 10 i (j : Int))))) = gw Γ (up σ 10 i z v) := by
  rcases (show i = 0 ∨ i = 1 ∨ i = 2 by omega) with rfl | rfl | rfl <;> rfl
theorem sm_findings {Γ : Gm} {σ : Mm} {z v : Int} : (gw Γ σ).set 45 (am_findings Γ, .inl (Γ.2.2.1 0, 6, .inl (fun j : Nat => zI (up σ 21 0 z v 21 0 (j : Int))))) = gw Γ (up σ 21 0 z v) := rfl
theorem sm_sizes {Γ : Gm} {σ : Mm} {z v : Int} : (gw Γ σ).set 46 (am_sizes Γ, .inl (Γ.2.2.1 0, 6, .inl (fun j : Nat => zI (up σ 22 0 z v 22 0 (j : Int))))) = gw Γ (up σ 22 0 z v) := rfl
theorem sm_rows {Γ : Gm} {σ : Mm} {z v : Int} : (gw Γ σ).set 47 (am_rows Γ, .inl (Γ.2.2.1 0, 240, .inl (fun j : Nat => zI (up σ 23 0 z v 23 0 (j : Int))))) = gw Γ (up σ 23 0 z v) := rfl
theorem sm_moving {Γ : Gm} {σ : Mm} {z v : Int} : (gw Γ σ).set 48 (am_moving Γ, .inl (Γ.2.2.1 0, 40, .inl (fun j : Nat => zI (up σ 24 0 z v 24 0 (j : Int))))) = gw Γ (up σ 24 0 z v) := rfl
theorem sm_lengths {Γ : Gm} {σ : Mm} {z v : Int} : (gw Γ σ).set 49 (am_lengths Γ, .inl (Γ.2.2.1 0, 4, .inl (fun j : Nat => zI (up σ 25 0 z v 25 0 (j : Int))))) = gw Γ (up σ 25 0 z v) := rfl
theorem sm_texts {Γ : Gm} {σ : Mm} {z v : Int} : (gw Γ σ).set 50 (am_texts Γ, .inl (Γ.2.2.1 0, 240, .inl (fun j : Nat => zI (up σ 26 0 z v 26 0 (j : Int))))) = gw Γ (up σ 26 0 z v) := rfl
theorem sm_kindOf {Γ : Gm} {σ : Mm} {z v : Int} : (gw Γ σ).set 51 (am_kindOf Γ, .inl (Γ.2.2.1 0, 5, .inl (fun j : Nat => zI (up σ 27 0 z v 27 0 (j : Int))))) = gw Γ (up σ 27 0 z v) := rfl
theorem sm_leapOf {Γ : Gm} {σ : Mm} {z v : Int} : (gw Γ σ).set 52 (am_leapOf Γ, .inl (Γ.2.2.1 0, 5, .inl (fun j : Nat => zI (up σ 28 0 z v 28 0 (j : Int))))) = gw Γ (up σ 28 0 z v) := rfl
theorem sm_orderOf {Γ : Gm} {σ : Mm} {z v : Int} : (gw Γ σ).set 53 (am_orderOf Γ, .inl (Γ.2.2.1 0, 5, .inl (fun j : Nat => zI (up σ 29 0 z v 29 0 (j : Int))))) = gw Γ (up σ 29 0 z v) := rfl
theorem sm_gapOf {Γ : Gm} {σ : Mm} {z v : Int} : (gw Γ σ).set 54 (am_gapOf Γ, .inl (Γ.2.2.1 0, 5, .inl (fun j : Nat => zI (up σ 30 0 z v 30 0 (j : Int))))) = gw Γ (up σ 30 0 z v) := rfl
theorem sm_read {Γ : Gm} {σ : Mm} {z v : Int} : (gw Γ σ).set 55 (am_read Γ, .inl (Γ.2.2.1 0, 20, .inl (fun j : Nat => zI (up σ 31 0 z v 31 0 (j : Int))))) = gw Γ (up σ 31 0 z v) := rfl
theorem sm_kept {Γ : Gm} {σ : Mm} {z v : Int} : (gw Γ σ).set 56 (am_kept Γ, .inl (Γ.2.2.1 0, 63, .inl (fun j : Nat => zI (up σ 32 0 z v 32 0 (j : Int))))) = gw Γ (up σ 32 0 z v) := rfl
end
