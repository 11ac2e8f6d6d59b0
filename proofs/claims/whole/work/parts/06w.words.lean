/-! the words of the tables, by their places; what a call of a method needs of them -/
def MTv (y : MethodName) (b : ByteArray) (nL : Nat) (ret : Option FieldType) (n : Nat) : Prop := Cond.code y b nL ret ∈ tb ∧ Cond.initialized y.cls ∈ tb ∧ Cond.instanceMethod y ∈ tb ∧ Cond.selects y.cls y y ∈ tb ∧ (y.cls ≠ "java/lang/invoke/MethodHandle" ∧ y.cls ≠ "java/lang/invoke/VarHandle") ∧ (parseMethodDescriptor y.desc).map (fun d => d.parameters.length) = some n
def MTs (y : MethodName) (b : ByteArray) (nL : Nat) (ret : Option FieldType) (n : Nat) : Prop := Cond.code y b nL ret ∈ tb ∧ Cond.initialized y.cls ∈ tb ∧ Cond.static y ∈ tb ∧ (y.cls ≠ "java/lang/invoke/MethodHandle" ∧ y.cls ≠ "java/lang/invoke/VarHandle") ∧ (parseMethodDescriptor y.desc).map (fun d => d.parameters.length) = some n
theorem wv_X4_found : Cond.selects RX4 yX4_found yX4_found ∈ tb := tb_of (List.mem_of_getElem? (i := 0) (by decide +kernel)) rfl
theorem wv_X4_refusedPlace : Cond.selects RX4 yX4_refusedPlace yX4_refusedPlace ∈ tb := tb_of (List.mem_of_getElem? (i := 1) (by decide +kernel)) rfl
theorem wv_X4_refusedRow : Cond.selects RX4 yX4_refusedRow yX4_refusedRow ∈ tb := tb_of (List.mem_of_getElem? (i := 2) (by decide +kernel)) rfl
theorem wv_X4_refusedText : Cond.selects RX4 yX4_refusedText yX4_refusedText ∈ tb := tb_of (List.mem_of_getElem? (i := 3) (by decide +kernel)) rfl
theorem wv_X4_isTown : Cond.selects RX4 yX4_isTown yX4_isTown ∈ tb := tb_of (List.mem_of_getElem? (i := 4) (by decide +kernel)) rfl
theorem wv_X4_ofTown : Cond.selects RX4 yX4_ofTown yX4_ofTown ∈ tb := tb_of (List.mem_of_getElem? (i := 5) (by decide +kernel)) rfl
theorem wv_X4_stretchEnd : Cond.selects RX4 yX4_stretchEnd yX4_stretchEnd ∈ tb := tb_of (List.mem_of_getElem? (i := 6) (by decide +kernel)) rfl
theorem wv_X4_haveSameDate : Cond.selects RX4 yX4_haveSameDate yX4_haveSameDate ∈ tb := tb_of (List.mem_of_getElem? (i := 7) (by decide +kernel)) rfl
theorem wv_X4_refusedContracts : Cond.selects RX4 yX4_refusedContracts yX4_refusedContracts ∈ tb := tb_of (List.mem_of_getElem? (i := 8) (by decide +kernel)) rfl
theorem wv_X4_hasMissingDate : Cond.selects RX4 yX4_hasMissingDate yX4_hasMissingDate ∈ tb := tb_of (List.mem_of_getElem? (i := 9) (by decide +kernel)) rfl
theorem wv_X4_quarrelsAt : Cond.selects RX4 yX4_quarrelsAt yX4_quarrelsAt ∈ tb := tb_of (List.mem_of_getElem? (i := 10) (by decide +kernel)) rfl
theorem wv_X4_quarrelsOnTrial : Cond.selects RX4 yX4_quarrelsOnTrial yX4_quarrelsOnTrial ∈ tb := tb_of (List.mem_of_getElem? (i := 11) (by decide +kernel)) rfl
theorem wv_X4_tellFraction : Cond.selects RX4 yX4_tellFraction yX4_tellFraction ∈ tb := tb_of (List.mem_of_getElem? (i := 12) (by decide +kernel)) rfl
theorem wv_X4_townsOf : Cond.selects RX4 yX4_townsOf yX4_townsOf ∈ tb := tb_of (List.mem_of_getElem? (i := 13) (by decide +kernel)) rfl
theorem wv_X4_rowsThere : Cond.selects RX4 yX4_rowsThere yX4_rowsThere ∈ tb := tb_of (List.mem_of_getElem? (i := 14) (by decide +kernel)) rfl
theorem wv_X4_textsThere : Cond.selects RX4 yX4_textsThere yX4_textsThere ∈ tb := tb_of (List.mem_of_getElem? (i := 15) (by decide +kernel)) rfl
theorem wv_X4_almanacsKept : Cond.selects RX4 yX4_almanacsKept yX4_almanacsKept ∈ tb := tb_of (List.mem_of_getElem? (i := 16) (by decide +kernel)) rfl
theorem wv_X5_meet : Cond.selects RX5 yX5_meet yX5_meet ∈ tb := tb_of (List.mem_of_getElem? (i := 17) (by decide +kernel)) rfl
theorem wv_X5_setRow : Cond.selects RX5 yX5_setRow yX5_setRow ∈ tb := tb_of (List.mem_of_getElem? (i := 18) (by decide +kernel)) rfl
theorem wv_X5_askedRow : Cond.selects RX5 yX5_askedRow yX5_askedRow ∈ tb := tb_of (List.mem_of_getElem? (i := 19) (by decide +kernel)) rfl
theorem wv_X5_rowAt : Cond.selects RX5 yX5_rowAt yX5_rowAt ∈ tb := tb_of (List.mem_of_getElem? (i := 20) (by decide +kernel)) rfl
theorem wv_X5_ask : Cond.selects RX5 yX5_ask yX5_ask ∈ tb := tb_of (List.mem_of_getElem? (i := 21) (by decide +kernel)) rfl
theorem wv_X5_askedText : Cond.selects RX5 yX5_askedText yX5_askedText ∈ tb := tb_of (List.mem_of_getElem? (i := 22) (by decide +kernel)) rfl
theorem wv_X5_goesOn : Cond.selects RX5 yX5_goesOn yX5_goesOn ∈ tb := tb_of (List.mem_of_getElem? (i := 23) (by decide +kernel)) rfl
theorem wv_X5_here : Cond.selects RX5 yX5_here yX5_here ∈ tb := tb_of (List.mem_of_getElem? (i := 24) (by decide +kernel)) rfl
theorem wv_X5_readsTown : Cond.selects RX5 yX5_readsTown yX5_readsTown ∈ tb := tb_of (List.mem_of_getElem? (i := 25) (by decide +kernel)) rfl
theorem wv_X5_figure : Cond.selects RX5 yX5_figure yX5_figure ∈ tb := tb_of (List.mem_of_getElem? (i := 26) (by decide +kernel)) rfl
theorem wv_X5_isTown : Cond.selects RX5 yX5_isTown yX5_isTown ∈ tb := tb_of (List.mem_of_getElem? (i := 27) (by decide +kernel)) rfl
theorem wv_X5_townOf : Cond.selects RX5 yX5_townOf yX5_townOf ∈ tb := tb_of (List.mem_of_getElem? (i := 28) (by decide +kernel)) rfl
theorem wv_X5_dateIn : Cond.selects RX5 yX5_dateIn yX5_dateIn ∈ tb := tb_of (List.mem_of_getElem? (i := 29) (by decide +kernel)) rfl
theorem wv_X5_take : Cond.selects RX5 yX5_take yX5_take ∈ tb := tb_of (List.mem_of_getElem? (i := 30) (by decide +kernel)) rfl
theorem wv_X5_dateOfDay : Cond.selects RX5 yX5_dateOfDay yX5_dateOfDay ∈ tb := tb_of (List.mem_of_getElem? (i := 31) (by decide +kernel)) rfl
theorem wv_X5_countOfDay : Cond.selects RX5 yX5_countOfDay yX5_countOfDay ∈ tb := tb_of (List.mem_of_getElem? (i := 32) (by decide +kernel)) rfl
theorem wv_X5_cuts : Cond.selects RX5 yX5_cuts yX5_cuts ∈ tb := tb_of (List.mem_of_getElem? (i := 33) (by decide +kernel)) rfl
theorem wv_X5_dateOfCount : Cond.selects RX5 yX5_dateOfCount yX5_dateOfCount ∈ tb := tb_of (List.mem_of_getElem? (i := 34) (by decide +kernel)) rfl
theorem wv_X5_beginOf : Cond.selects RX5 yX5_beginOf yX5_beginOf ∈ tb := tb_of (List.mem_of_getElem? (i := 35) (by decide +kernel)) rfl
theorem wv_X5_leaps : Cond.selects RX5 yX5_leaps yX5_leaps ∈ tb := tb_of (List.mem_of_getElem? (i := 36) (by decide +kernel)) rfl
theorem wv_X5_isA : Cond.selects RX5 yX5_isA yX5_isA ∈ tb := tb_of (List.mem_of_getElem? (i := 37) (by decide +kernel)) rfl
theorem wv_X5_marked : Cond.selects RX5 yX5_marked yX5_marked ∈ tb := tb_of (List.mem_of_getElem? (i := 38) (by decide +kernel)) rfl
theorem wv_X5_dayIn : Cond.selects RX5 yX5_dayIn yX5_dayIn ∈ tb := tb_of (List.mem_of_getElem? (i := 39) (by decide +kernel)) rfl
theorem wv_X5_dayOfDate : Cond.selects RX5 yX5_dayOfDate yX5_dayOfDate ∈ tb := tb_of (List.mem_of_getElem? (i := 40) (by decide +kernel)) rfl
theorem wv_X5_yearDays : Cond.selects RX5 yX5_yearDays yX5_yearDays ∈ tb := tb_of (List.mem_of_getElem? (i := 41) (by decide +kernel)) rfl
theorem wv_X5_ageOf : Cond.selects RX5 yX5_ageOf yX5_ageOf ∈ tb := tb_of (List.mem_of_getElem? (i := 42) (by decide +kernel)) rfl
theorem wv_X5_doAgree : Cond.selects RX5 yX5_doAgree yX5_doAgree ∈ tb := tb_of (List.mem_of_getElem? (i := 43) (by decide +kernel)) rfl
theorem wv_X5_countIn : Cond.selects RX5 yX5_countIn yX5_countIn ∈ tb := tb_of (List.mem_of_getElem? (i := 44) (by decide +kernel)) rfl
theorem wv_X5_askedContracts : Cond.selects RX5 yX5_askedContracts yX5_askedContracts ∈ tb := tb_of (List.mem_of_getElem? (i := 45) (by decide +kernel)) rfl
theorem wv_X5_doesQuarrel : Cond.selects RX5 yX5_doesQuarrel yX5_doesQuarrel ∈ tb := tb_of (List.mem_of_getElem? (i := 46) (by decide +kernel)) rfl
theorem wv_X5_quarrelMany : Cond.selects RX5 yX5_quarrelMany yX5_quarrelMany ∈ tb := tb_of (List.mem_of_getElem? (i := 47) (by decide +kernel)) rfl
theorem wv_X5_part : Cond.selects RX5 yX5_part yX5_part ∈ tb := tb_of (List.mem_of_getElem? (i := 48) (by decide +kernel)) rfl
theorem wv_X5_feastOf : Cond.selects RX5 yX5_feastOf yX5_feastOf ∈ tb := tb_of (List.mem_of_getElem? (i := 49) (by decide +kernel)) rfl
theorem wv_X5_tells : Cond.selects RX5 yX5_tells yX5_tells ∈ tb := tb_of (List.mem_of_getElem? (i := 50) (by decide +kernel)) rfl
theorem wv_X5_mix : Cond.selects RX5 yX5_mix yX5_mix ∈ tb := tb_of (List.mem_of_getElem? (i := 51) (by decide +kernel)) rfl
theorem wn_L : Cond.initialized "LostDaysLaw" ∈ tb := tb_of (List.mem_of_getElem? (i := 52) (by decide +kernel)) rfl
theorem wn_X4 : Cond.initialized "LostDays" ∈ tb := tb_of (List.mem_of_getElem? (i := 53) (by decide +kernel)) rfl
theorem wn_X0 : Cond.initialized "LostDays$Calendar" ∈ tb := tb_of (List.mem_of_getElem? (i := 54) (by decide +kernel)) rfl
theorem wn_X2 : Cond.initialized "LostDays$Row" ∈ tb := tb_of (List.mem_of_getElem? (i := 55) (by decide +kernel)) rfl
theorem wn_X3 : Cond.initialized "LostDays$Text" ∈ tb := tb_of (List.mem_of_getElem? (i := 56) (by decide +kernel)) rfl
theorem wn_X1 : Cond.initialized "LostDays$Kept" ∈ tb := tb_of (List.mem_of_getElem? (i := 57) (by decide +kernel)) rfl
theorem wn_X5 : Cond.initialized "LostDaysModel" ∈ tb := tb_of (List.mem_of_getElem? (i := 58) (by decide +kernel)) rfl
theorem wn_J10 : Cond.initialized "java/lang/System" ∈ tb := tb_of (List.mem_of_getElem? (i := 59) (by decide +kernel)) rfl
theorem wn_J9 : Cond.initialized "java/lang/Math" ∈ tb := tb_of (List.mem_of_getElem? (i := 60) (by decide +kernel)) rfl
theorem wn_J6 : Cond.initialized "java/lang/Integer" ∈ tb := tb_of (List.mem_of_getElem? (i := 61) (by decide +kernel)) rfl
theorem wl_L_7 : Cond.classLink RL 7 "LostDays" ∈ tb := tb_of (List.mem_of_getElem? (i := 62) (by decide +kernel)) rfl
theorem wz_X4 : Cond.instantiable RX4 12 ∈ tb := tb_of (List.mem_of_getElem? (i := 63) (by decide +kernel)) rfl
theorem wl_L_9 : Cond.methodLink RL 9 yX4_init ∈ tb := tb_of (List.mem_of_getElem? (i := 64) (by decide +kernel)) rfl
theorem wi_X4_init : Cond.instanceMethod yX4_init ∈ tb := tb_of (List.mem_of_getElem? (i := 65) (by decide +kernel)) rfl
theorem wc_X4_init : Cond.code yX4_init cX4_init 2 none ∈ tb := tb_of (List.mem_of_getElem? (i := 66) (by decide +kernel)) rfl
theorem wl_X4_1 : Cond.methodLink RX4 1 ⟨"java/lang/Object", "<init>", "()V"⟩ ∈ tb := tb_of (List.mem_of_getElem? (i := 67) (by decide +kernel)) rfl
theorem wi_Object_init : Cond.instanceMethod ⟨"java/lang/Object", "<init>", "()V"⟩ ∈ tb := tb_of (List.mem_of_getElem? (i := 68) (by decide +kernel)) rfl
theorem wc_Object_init : Cond.code ⟨"java/lang/Object", "<init>", "()V"⟩ object_method_1_code 1 none ∈ tb := tb_of (List.mem_of_getElem? (i := 69) (by decide +kernel)) rfl
theorem wl_X4_9 : Cond.classLink RX4 9 "LostDays$Row" ∈ tb := tb_of (List.mem_of_getElem? (i := 70) (by decide +kernel)) rfl
theorem wl_X4_15 : Cond.classLink RX4 15 "LostDays$Text" ∈ tb := tb_of (List.mem_of_getElem? (i := 72) (by decide +kernel)) rfl
theorem wl_X4_21 : Cond.classLink RX4 21 "LostDays$Calendar" ∈ tb := tb_of (List.mem_of_getElem? (i := 74) (by decide +kernel)) rfl
theorem wl_X4_27 : Cond.classLink RX4 27 "LostDays$Kept" ∈ tb := tb_of (List.mem_of_getElem? (i := 76) (by decide +kernel)) rfl
theorem wz_X0 : Cond.instantiable RX0 4 ∈ tb := tb_of (List.mem_of_getElem? (i := 78) (by decide +kernel)) rfl
theorem wi_X0_init : Cond.instanceMethod yX0_init ∈ tb := tb_of (List.mem_of_getElem? (i := 80) (by decide +kernel)) rfl
theorem wc_X0_init : Cond.code yX0_init cX0_init 1 none ∈ tb := tb_of (List.mem_of_getElem? (i := 81) (by decide +kernel)) rfl
theorem wl_X0_3 : Cond.methodLink RX0 3 ⟨"java/lang/Object", "<init>", "()V"⟩ ∈ tb := tb_of (List.mem_of_getElem? (i := 82) (by decide +kernel)) rfl
theorem wl_X0_9 : Cond.fieldLink RX0 9 "LostDays$Calendar" "kind" "I" ∈ tb := tb_of (List.mem_of_getElem? (i := 83) (by decide +kernel)) rfl
theorem wl_X3_48 : Cond.fieldLink RX3 48 "LostDays$Calendar" "kind" "I" ∈ tb := tb_of (List.mem_of_getElem? (i := 84) (by decide +kernel)) rfl
theorem wl_X4_258 : Cond.fieldLink RX4 258 "LostDays$Calendar" "kind" "I" ∈ tb := tb_of (List.mem_of_getElem? (i := 85) (by decide +kernel)) rfl
theorem wl_X0_15 : Cond.fieldLink RX0 15 "LostDays$Calendar" "leap" "I" ∈ tb := tb_of (List.mem_of_getElem? (i := 86) (by decide +kernel)) rfl
theorem wl_X1_29 : Cond.fieldLink RX1 29 "LostDays$Calendar" "leap" "I" ∈ tb := tb_of (List.mem_of_getElem? (i := 87) (by decide +kernel)) rfl
theorem wl_X3_53 : Cond.fieldLink RX3 53 "LostDays$Calendar" "leap" "I" ∈ tb := tb_of (List.mem_of_getElem? (i := 88) (by decide +kernel)) rfl
theorem wl_X4_153 : Cond.fieldLink RX4 153 "LostDays$Calendar" "leap" "I" ∈ tb := tb_of (List.mem_of_getElem? (i := 89) (by decide +kernel)) rfl
theorem wl_X0_18 : Cond.fieldLink RX0 18 "LostDays$Calendar" "order" "I" ∈ tb := tb_of (List.mem_of_getElem? (i := 90) (by decide +kernel)) rfl
theorem wl_X1_34 : Cond.fieldLink RX1 34 "LostDays$Calendar" "order" "I" ∈ tb := tb_of (List.mem_of_getElem? (i := 91) (by decide +kernel)) rfl
theorem wl_X3_56 : Cond.fieldLink RX3 56 "LostDays$Calendar" "order" "I" ∈ tb := tb_of (List.mem_of_getElem? (i := 92) (by decide +kernel)) rfl
theorem wl_X4_144 : Cond.fieldLink RX4 144 "LostDays$Calendar" "order" "I" ∈ tb := tb_of (List.mem_of_getElem? (i := 93) (by decide +kernel)) rfl
theorem wl_X0_21 : Cond.fieldLink RX0 21 "LostDays$Calendar" "gap" "I" ∈ tb := tb_of (List.mem_of_getElem? (i := 94) (by decide +kernel)) rfl
theorem wl_X1_37 : Cond.fieldLink RX1 37 "LostDays$Calendar" "gap" "I" ∈ tb := tb_of (List.mem_of_getElem? (i := 95) (by decide +kernel)) rfl
theorem wl_X3_59 : Cond.fieldLink RX3 59 "LostDays$Calendar" "gap" "I" ∈ tb := tb_of (List.mem_of_getElem? (i := 96) (by decide +kernel)) rfl
theorem wl_X4_147 : Cond.fieldLink RX4 147 "LostDays$Calendar" "gap" "I" ∈ tb := tb_of (List.mem_of_getElem? (i := 97) (by decide +kernel)) rfl
theorem wz_X2 : Cond.instantiable RX2 2 ∈ tb := tb_of (List.mem_of_getElem? (i := 107) (by decide +kernel)) rfl
theorem wi_X2_init : Cond.instanceMethod yX2_init ∈ tb := tb_of (List.mem_of_getElem? (i := 109) (by decide +kernel)) rfl
theorem wc_X2_init : Cond.code yX2_init cX2_init 1 none ∈ tb := tb_of (List.mem_of_getElem? (i := 110) (by decide +kernel)) rfl
theorem wl_X2_3 : Cond.methodLink RX2 3 ⟨"java/lang/Object", "<init>", "()V"⟩ ∈ tb := tb_of (List.mem_of_getElem? (i := 111) (by decide +kernel)) rfl
theorem wl_X2_9 : Cond.fieldLink RX2 9 "LostDays$Row" "places" "[I" ∈ tb := tb_of (List.mem_of_getElem? (i := 112) (by decide +kernel)) rfl
theorem wl_X4_81 : Cond.fieldLink RX4 81 "LostDays$Row" "places" "[I" ∈ tb := tb_of (List.mem_of_getElem? (i := 113) (by decide +kernel)) rfl
theorem wl_X2_15 : Cond.fieldLink RX2 15 "LostDays$Row" "size" "I" ∈ tb := tb_of (List.mem_of_getElem? (i := 114) (by decide +kernel)) rfl
theorem wl_X4_87 : Cond.fieldLink RX4 87 "LostDays$Row" "size" "I" ∈ tb := tb_of (List.mem_of_getElem? (i := 115) (by decide +kernel)) rfl
theorem wa_int : Cond.arrayClass .int ∈ tb := tb_of (List.mem_of_getElem? (i := 121) (by decide +kernel)) rfl
theorem wz_X3 : Cond.instantiable RX3 2 ∈ tb := tb_of (List.mem_of_getElem? (i := 122) (by decide +kernel)) rfl
theorem wi_X3_init : Cond.instanceMethod yX3_init ∈ tb := tb_of (List.mem_of_getElem? (i := 124) (by decide +kernel)) rfl
theorem wc_X3_init : Cond.code yX3_init cX3_init 1 none ∈ tb := tb_of (List.mem_of_getElem? (i := 125) (by decide +kernel)) rfl
theorem wl_X3_3 : Cond.methodLink RX3 3 ⟨"java/lang/Object", "<init>", "()V"⟩ ∈ tb := tb_of (List.mem_of_getElem? (i := 126) (by decide +kernel)) rfl
theorem wl_X3_9 : Cond.fieldLink RX3 9 "LostDays$Text" "signs" "[B" ∈ tb := tb_of (List.mem_of_getElem? (i := 127) (by decide +kernel)) rfl
theorem wl_X4_112 : Cond.fieldLink RX4 112 "LostDays$Text" "signs" "[B" ∈ tb := tb_of (List.mem_of_getElem? (i := 128) (by decide +kernel)) rfl
theorem wl_X3_15 : Cond.fieldLink RX3 15 "LostDays$Text" "size" "I" ∈ tb := tb_of (List.mem_of_getElem? (i := 129) (by decide +kernel)) rfl
theorem wl_X4_111 : Cond.fieldLink RX4 111 "LostDays$Text" "size" "I" ∈ tb := tb_of (List.mem_of_getElem? (i := 130) (by decide +kernel)) rfl
theorem wa_byte : Cond.arrayClass .byte ∈ tb := tb_of (List.mem_of_getElem? (i := 136) (by decide +kernel)) rfl
theorem wz_X1 : Cond.instantiable RX1 5 ∈ tb := tb_of (List.mem_of_getElem? (i := 137) (by decide +kernel)) rfl
theorem wi_X1_init : Cond.instanceMethod yX1_init ∈ tb := tb_of (List.mem_of_getElem? (i := 139) (by decide +kernel)) rfl
theorem wc_X1_init : Cond.code yX1_init cX1_init 1 none ∈ tb := tb_of (List.mem_of_getElem? (i := 140) (by decide +kernel)) rfl
theorem wl_X1_3 : Cond.methodLink RX1 3 ⟨"java/lang/Object", "<init>", "()V"⟩ ∈ tb := tb_of (List.mem_of_getElem? (i := 141) (by decide +kernel)) rfl
theorem wl_X1_9 : Cond.fieldLink RX1 9 "LostDays$Kept" "leaps" "[I" ∈ tb := tb_of (List.mem_of_getElem? (i := 142) (by decide +kernel)) rfl
theorem wl_X1_15 : Cond.fieldLink RX1 15 "LostDays$Kept" "orders" "[I" ∈ tb := tb_of (List.mem_of_getElem? (i := 143) (by decide +kernel)) rfl
theorem wl_X1_18 : Cond.fieldLink RX1 18 "LostDays$Kept" "gaps" "[I" ∈ tb := tb_of (List.mem_of_getElem? (i := 144) (by decide +kernel)) rfl
theorem wl_X1_21 : Cond.fieldLink RX1 21 "LostDays$Kept" "isThere" "Z" ∈ tb := tb_of (List.mem_of_getElem? (i := 145) (by decide +kernel)) rfl
theorem wl_X4_124 : Cond.fieldLink RX4 124 "LostDays$Kept" "isThere" "Z" ∈ tb := tb_of (List.mem_of_getElem? (i := 146) (by decide +kernel)) rfl
theorem wl_X1_25 : Cond.fieldLink RX1 25 "LostDays$Kept" "today" "I" ∈ tb := tb_of (List.mem_of_getElem? (i := 147) (by decide +kernel)) rfl
theorem wl_X4_167 : Cond.fieldLink RX4 167 "LostDays$Kept" "today" "I" ∈ tb := tb_of (List.mem_of_getElem? (i := 148) (by decide +kernel)) rfl
theorem wl_X4_11 : Cond.fieldLink RX4 11 "LostDays" "rows" "[LLostDays$Row;" ∈ tb := tb_of (List.mem_of_getElem? (i := 160) (by decide +kernel)) rfl
theorem wl_X4_17 : Cond.fieldLink RX4 17 "LostDays" "texts" "[LLostDays$Text;" ∈ tb := tb_of (List.mem_of_getElem? (i := 161) (by decide +kernel)) rfl
theorem wl_X4_23 : Cond.fieldLink RX4 23 "LostDays" "towns" "[LLostDays$Calendar;" ∈ tb := tb_of (List.mem_of_getElem? (i := 162) (by decide +kernel)) rfl
theorem wl_X4_29 : Cond.fieldLink RX4 29 "LostDays" "kept" "[LLostDays$Kept;" ∈ tb := tb_of (List.mem_of_getElem? (i := 163) (by decide +kernel)) rfl
theorem wl_X4_34 : Cond.fieldLink RX4 34 "LostDays" "trial" "LLostDays$Calendar;" ∈ tb := tb_of (List.mem_of_getElem? (i := 164) (by decide +kernel)) rfl
theorem wl_X4_38 : Cond.fieldLink RX4 38 "LostDays" "timesFound" "[I" ∈ tb := tb_of (List.mem_of_getElem? (i := 165) (by decide +kernel)) rfl
theorem wl_X4_42 : Cond.fieldLink RX4 42 "LostDays" "townCount" "I" ∈ tb := tb_of (List.mem_of_getElem? (i := 166) (by decide +kernel)) rfl
theorem wl_X4_46 : Cond.fieldLink RX4 46 "LostDays" "today" "I" ∈ tb := tb_of (List.mem_of_getElem? (i := 167) (by decide +kernel)) rfl
theorem wl_X4_49 : Cond.fieldLink RX4 49 "LostDays" "told" "I" ∈ tb := tb_of (List.mem_of_getElem? (i := 168) (by decide +kernel)) rfl
theorem wl_X4_52 : Cond.fieldLink RX4 52 "LostDays" "toldUpper" "J" ∈ tb := tb_of (List.mem_of_getElem? (i := 169) (by decide +kernel)) rfl
theorem wl_X4_56 : Cond.fieldLink RX4 56 "LostDays" "toldLower" "J" ∈ tb := tb_of (List.mem_of_getElem? (i := 170) (by decide +kernel)) rfl
theorem wl_X4_59 : Cond.fieldLink RX4 59 "LostDays" "latestFinding" "I" ∈ tb := tb_of (List.mem_of_getElem? (i := 171) (by decide +kernel)) rfl
theorem wl_L_13 : Cond.methodLink RL 13 yX4_row ∈ tb := tb_of (List.mem_of_getElem? (i := 197) (by decide +kernel)) rfl
theorem wi_X4_row : Cond.instanceMethod yX4_row ∈ tb := tb_of (List.mem_of_getElem? (i := 198) (by decide +kernel)) rfl
theorem wv_X4_row : Cond.selects RX4 yX4_row yX4_row ∈ tb := tb_of (List.mem_of_getElem? (i := 199) (by decide +kernel)) rfl
theorem wc_X4_row : Cond.code yX4_row cX4_row 3 (some .int) ∈ tb := tb_of (List.mem_of_getElem? (i := 200) (by decide +kernel)) rfl
theorem wl_X4_65 : Cond.methodLink RX4 65 yX4_isRow ∈ tb := tb_of (List.mem_of_getElem? (i := 201) (by decide +kernel)) rfl
theorem ws_X4_isRow : Cond.static yX4_isRow ∈ tb := tb_of (List.mem_of_getElem? (i := 202) (by decide +kernel)) rfl
theorem wc_X4_isRow : Cond.code yX4_isRow cX4_isRow 1 (some .boolean) ∈ tb := tb_of (List.mem_of_getElem? (i := 203) (by decide +kernel)) rfl
theorem wl_X4_69 : Cond.methodLink RX4 69 yX4_found ∈ tb := tb_of (List.mem_of_getElem? (i := 204) (by decide +kernel)) rfl
theorem wi_X4_found : Cond.instanceMethod yX4_found ∈ tb := tb_of (List.mem_of_getElem? (i := 206) (by decide +kernel)) rfl
theorem wc_X4_found : Cond.code yX4_found cX4_found 2 (some .int) ∈ tb := tb_of (List.mem_of_getElem? (i := 207) (by decide +kernel)) rfl
theorem wl_X4_73 : Cond.methodLink RX4 73 yX2_renew ∈ tb := tb_of (List.mem_of_getElem? (i := 208) (by decide +kernel)) rfl
theorem wi_X2_renew : Cond.instanceMethod yX2_renew ∈ tb := tb_of (List.mem_of_getElem? (i := 209) (by decide +kernel)) rfl
theorem wv_X2_renew : Cond.selects RX2 yX2_renew yX2_renew ∈ tb := tb_of (List.mem_of_getElem? (i := 210) (by decide +kernel)) rfl
theorem wc_X2_renew : Cond.code yX2_renew cX2_renew 3 none ∈ tb := tb_of (List.mem_of_getElem? (i := 211) (by decide +kernel)) rfl
theorem wl_L_18 : Cond.methodLink RL 18 yX4_lay ∈ tb := tb_of (List.mem_of_getElem? (i := 212) (by decide +kernel)) rfl
theorem wi_X4_lay : Cond.instanceMethod yX4_lay ∈ tb := tb_of (List.mem_of_getElem? (i := 213) (by decide +kernel)) rfl
theorem wv_X4_lay : Cond.selects RX4 yX4_lay yX4_lay ∈ tb := tb_of (List.mem_of_getElem? (i := 214) (by decide +kernel)) rfl
theorem wc_X4_lay : Cond.code yX4_lay cX4_lay 5 (some .int) ∈ tb := tb_of (List.mem_of_getElem? (i := 215) (by decide +kernel)) rfl
theorem wl_X4_77 : Cond.methodLink RX4 77 yX4_refusedPlace ∈ tb := tb_of (List.mem_of_getElem? (i := 216) (by decide +kernel)) rfl
theorem wi_X4_refusedPlace : Cond.instanceMethod yX4_refusedPlace ∈ tb := tb_of (List.mem_of_getElem? (i := 218) (by decide +kernel)) rfl
theorem wc_X4_refusedPlace : Cond.code yX4_refusedPlace cX4_refusedPlace 4 (some .int) ∈ tb := tb_of (List.mem_of_getElem? (i := 219) (by decide +kernel)) rfl
theorem wl_X4_84 : Cond.methodLink RX4 84 yX4_refusedRow ∈ tb := tb_of (List.mem_of_getElem? (i := 220) (by decide +kernel)) rfl
theorem wi_X4_refusedRow : Cond.instanceMethod yX4_refusedRow ∈ tb := tb_of (List.mem_of_getElem? (i := 222) (by decide +kernel)) rfl
theorem wc_X4_refusedRow : Cond.code yX4_refusedRow cX4_refusedRow 2 (some .int) ∈ tb := tb_of (List.mem_of_getElem? (i := 223) (by decide +kernel)) rfl
theorem wl_X4_90 : Cond.methodLink RX4 90 yX2_holds ∈ tb := tb_of (List.mem_of_getElem? (i := 224) (by decide +kernel)) rfl
theorem wi_X2_holds : Cond.instanceMethod yX2_holds ∈ tb := tb_of (List.mem_of_getElem? (i := 225) (by decide +kernel)) rfl
theorem wv_X2_holds : Cond.selects RX2 yX2_holds yX2_holds ∈ tb := tb_of (List.mem_of_getElem? (i := 226) (by decide +kernel)) rfl
theorem wc_X2_holds : Cond.code yX2_holds cX2_holds 3 (some .boolean) ∈ tb := tb_of (List.mem_of_getElem? (i := 227) (by decide +kernel)) rfl
theorem wl_L_23 : Cond.methodLink RL 23 yX4_at ∈ tb := tb_of (List.mem_of_getElem? (i := 228) (by decide +kernel)) rfl
theorem wi_X4_at : Cond.instanceMethod yX4_at ∈ tb := tb_of (List.mem_of_getElem? (i := 229) (by decide +kernel)) rfl
theorem wv_X4_at : Cond.selects RX4 yX4_at yX4_at ∈ tb := tb_of (List.mem_of_getElem? (i := 230) (by decide +kernel)) rfl
theorem wc_X4_at : Cond.code yX4_at cX4_at 4 (some .int) ∈ tb := tb_of (List.mem_of_getElem? (i := 231) (by decide +kernel)) rfl
theorem wl_L_27 : Cond.methodLink RL 27 yX4_tear ∈ tb := tb_of (List.mem_of_getElem? (i := 232) (by decide +kernel)) rfl
theorem wi_X4_tear : Cond.instanceMethod yX4_tear ∈ tb := tb_of (List.mem_of_getElem? (i := 233) (by decide +kernel)) rfl
theorem wv_X4_tear : Cond.selects RX4 yX4_tear yX4_tear ∈ tb := tb_of (List.mem_of_getElem? (i := 234) (by decide +kernel)) rfl
theorem wc_X4_tear : Cond.code yX4_tear cX4_tear 3 (some .int) ∈ tb := tb_of (List.mem_of_getElem? (i := 235) (by decide +kernel)) rfl
theorem wl_L_32 : Cond.methodLink RL 32 yX4_copy ∈ tb := tb_of (List.mem_of_getElem? (i := 236) (by decide +kernel)) rfl
theorem wi_X4_copy : Cond.instanceMethod yX4_copy ∈ tb := tb_of (List.mem_of_getElem? (i := 237) (by decide +kernel)) rfl
theorem wv_X4_copy : Cond.selects RX4 yX4_copy yX4_copy ∈ tb := tb_of (List.mem_of_getElem? (i := 238) (by decide +kernel)) rfl
theorem wc_X4_copy : Cond.code yX4_copy cX4_copy 6 (some .int) ∈ tb := tb_of (List.mem_of_getElem? (i := 239) (by decide +kernel)) rfl
theorem wl_X4_94 : Cond.methodLink RX4 94 ⟨"java/lang/System", "arraycopy", "(Ljava/lang/Object;ILjava/lang/Object;II)V"⟩ ∈ tb := tb_of (List.mem_of_getElem? (i := 240) (by decide +kernel)) rfl
theorem ws_System_arraycopy : Cond.static ⟨"java/lang/System", "arraycopy", "(Ljava/lang/Object;ILjava/lang/Object;II)V"⟩ ∈ tb := tb_of (List.mem_of_getElem? (i := 241) (by decide +kernel)) rfl
theorem wt_System_arraycopy : Cond.native ⟨"java/lang/System", "arraycopy", "(Ljava/lang/Object;ILjava/lang/Object;II)V"⟩ ∈ tb := tb_of (List.mem_of_getElem? (i := 242) (by decide +kernel)) rfl
theorem wl_L_37 : Cond.methodLink RL 37 yX4_mean ∈ tb := tb_of (List.mem_of_getElem? (i := 243) (by decide +kernel)) rfl
theorem wi_X4_mean : Cond.instanceMethod yX4_mean ∈ tb := tb_of (List.mem_of_getElem? (i := 244) (by decide +kernel)) rfl
theorem wv_X4_mean : Cond.selects RX4 yX4_mean yX4_mean ∈ tb := tb_of (List.mem_of_getElem? (i := 245) (by decide +kernel)) rfl
theorem wc_X4_mean : Cond.code yX4_mean cX4_mean 4 (some .int) ∈ tb := tb_of (List.mem_of_getElem? (i := 246) (by decide +kernel)) rfl
theorem wl_X4_100 : Cond.methodLink RX4 100 yX2_sum ∈ tb := tb_of (List.mem_of_getElem? (i := 247) (by decide +kernel)) rfl
theorem wi_X2_sum : Cond.instanceMethod yX2_sum ∈ tb := tb_of (List.mem_of_getElem? (i := 248) (by decide +kernel)) rfl
theorem wv_X2_sum : Cond.selects RX2 yX2_sum yX2_sum ∈ tb := tb_of (List.mem_of_getElem? (i := 249) (by decide +kernel)) rfl
theorem wc_X2_sum : Cond.code yX2_sum cX2_sum 4 (some .long) ∈ tb := tb_of (List.mem_of_getElem? (i := 250) (by decide +kernel)) rfl
theorem wl_L_41 : Cond.methodLink RL 41 yX4_text ∈ tb := tb_of (List.mem_of_getElem? (i := 251) (by decide +kernel)) rfl
theorem wi_X4_text : Cond.instanceMethod yX4_text ∈ tb := tb_of (List.mem_of_getElem? (i := 252) (by decide +kernel)) rfl
theorem wv_X4_text : Cond.selects RX4 yX4_text yX4_text ∈ tb := tb_of (List.mem_of_getElem? (i := 253) (by decide +kernel)) rfl
theorem wc_X4_text : Cond.code yX4_text cX4_text 3 (some .int) ∈ tb := tb_of (List.mem_of_getElem? (i := 254) (by decide +kernel)) rfl
theorem wl_X4_104 : Cond.methodLink RX4 104 yX4_isText ∈ tb := tb_of (List.mem_of_getElem? (i := 255) (by decide +kernel)) rfl
theorem ws_X4_isText : Cond.static yX4_isText ∈ tb := tb_of (List.mem_of_getElem? (i := 256) (by decide +kernel)) rfl
theorem wc_X4_isText : Cond.code yX4_isText cX4_isText 1 (some .boolean) ∈ tb := tb_of (List.mem_of_getElem? (i := 257) (by decide +kernel)) rfl
theorem wl_X4_107 : Cond.methodLink RX4 107 yX3_renew ∈ tb := tb_of (List.mem_of_getElem? (i := 258) (by decide +kernel)) rfl
theorem wi_X3_renew : Cond.instanceMethod yX3_renew ∈ tb := tb_of (List.mem_of_getElem? (i := 259) (by decide +kernel)) rfl
theorem wv_X3_renew : Cond.selects RX3 yX3_renew yX3_renew ∈ tb := tb_of (List.mem_of_getElem? (i := 260) (by decide +kernel)) rfl
theorem wc_X3_renew : Cond.code yX3_renew cX3_renew 3 none ∈ tb := tb_of (List.mem_of_getElem? (i := 261) (by decide +kernel)) rfl
theorem wl_L_45 : Cond.methodLink RL 45 yX4_put ∈ tb := tb_of (List.mem_of_getElem? (i := 262) (by decide +kernel)) rfl
theorem wi_X4_put : Cond.instanceMethod yX4_put ∈ tb := tb_of (List.mem_of_getElem? (i := 263) (by decide +kernel)) rfl
theorem wv_X4_put : Cond.selects RX4 yX4_put yX4_put ∈ tb := tb_of (List.mem_of_getElem? (i := 264) (by decide +kernel)) rfl
theorem wc_X4_put : Cond.code yX4_put cX4_put 6 (some .int) ∈ tb := tb_of (List.mem_of_getElem? (i := 265) (by decide +kernel)) rfl
theorem wl_X4_108 : Cond.methodLink RX4 108 yX4_refusedText ∈ tb := tb_of (List.mem_of_getElem? (i := 266) (by decide +kernel)) rfl
theorem wi_X4_refusedText : Cond.instanceMethod yX4_refusedText ∈ tb := tb_of (List.mem_of_getElem? (i := 268) (by decide +kernel)) rfl
theorem wc_X4_refusedText : Cond.code yX4_refusedText cX4_refusedText 2 (some .int) ∈ tb := tb_of (List.mem_of_getElem? (i := 269) (by decide +kernel)) rfl
theorem wl_L_49 : Cond.methodLink RL 49 yX4_fault ∈ tb := tb_of (List.mem_of_getElem? (i := 270) (by decide +kernel)) rfl
theorem wi_X4_fault : Cond.instanceMethod yX4_fault ∈ tb := tb_of (List.mem_of_getElem? (i := 271) (by decide +kernel)) rfl
theorem wv_X4_fault : Cond.selects RX4 yX4_fault yX4_fault ∈ tb := tb_of (List.mem_of_getElem? (i := 272) (by decide +kernel)) rfl
theorem wc_X4_fault : Cond.code yX4_fault cX4_fault 3 (some .int) ∈ tb := tb_of (List.mem_of_getElem? (i := 273) (by decide +kernel)) rfl
theorem wl_X4_116 : Cond.methodLink RX4 116 yX3_firstFault ∈ tb := tb_of (List.mem_of_getElem? (i := 274) (by decide +kernel)) rfl
theorem wi_X3_firstFault : Cond.instanceMethod yX3_firstFault ∈ tb := tb_of (List.mem_of_getElem? (i := 275) (by decide +kernel)) rfl
theorem wv_X3_firstFault : Cond.selects RX3 yX3_firstFault yX3_firstFault ∈ tb := tb_of (List.mem_of_getElem? (i := 276) (by decide +kernel)) rfl
theorem wc_X3_firstFault : Cond.code yX3_firstFault cX3_firstFault 4 (some .int) ∈ tb := tb_of (List.mem_of_getElem? (i := 277) (by decide +kernel)) rfl
theorem wl_X3_19 : Cond.methodLink RX3 19 yX3_faultOfItem ∈ tb := tb_of (List.mem_of_getElem? (i := 278) (by decide +kernel)) rfl
theorem wi_X3_faultOfItem : Cond.instanceMethod yX3_faultOfItem ∈ tb := tb_of (List.mem_of_getElem? (i := 279) (by decide +kernel)) rfl
theorem wv_X3_faultOfItem : Cond.selects RX3 yX3_faultOfItem yX3_faultOfItem ∈ tb := tb_of (List.mem_of_getElem? (i := 280) (by decide +kernel)) rfl
theorem wc_X3_faultOfItem : Cond.code yX3_faultOfItem cX3_faultOfItem 3 (some .int) ∈ tb := tb_of (List.mem_of_getElem? (i := 281) (by decide +kernel)) rfl
theorem wl_X3_23 : Cond.methodLink RX3 23 yX3_fits ∈ tb := tb_of (List.mem_of_getElem? (i := 282) (by decide +kernel)) rfl
theorem ws_X3_fits : Cond.static yX3_fits ∈ tb := tb_of (List.mem_of_getElem? (i := 283) (by decide +kernel)) rfl
theorem wc_X3_fits : Cond.code yX3_fits cX3_fits 3 (some .boolean) ∈ tb := tb_of (List.mem_of_getElem? (i := 284) (by decide +kernel)) rfl
theorem wl_X3_27 : Cond.methodLink RX3 27 yX3_kindOf ∈ tb := tb_of (List.mem_of_getElem? (i := 285) (by decide +kernel)) rfl
theorem ws_X3_kindOf : Cond.static yX3_kindOf ∈ tb := tb_of (List.mem_of_getElem? (i := 286) (by decide +kernel)) rfl
theorem wc_X3_kindOf : Cond.code yX3_kindOf cX3_kindOf 2 (some .int) ∈ tb := tb_of (List.mem_of_getElem? (i := 287) (by decide +kernel)) rfl
theorem ws_X4_isLeap : Cond.static yX4_isLeap ∈ tb := tb_of (List.mem_of_getElem? (i := 291) (by decide +kernel)) rfl
theorem wc_X4_isLeap : Cond.code yX4_isLeap cX4_isLeap 1 (some .boolean) ∈ tb := tb_of (List.mem_of_getElem? (i := 292) (by decide +kernel)) rfl
theorem wl_L_53 : Cond.methodLink RL 53 yX4_almanac ∈ tb := tb_of (List.mem_of_getElem? (i := 293) (by decide +kernel)) rfl
theorem wi_X4_almanac : Cond.instanceMethod yX4_almanac ∈ tb := tb_of (List.mem_of_getElem? (i := 294) (by decide +kernel)) rfl
theorem wv_X4_almanac : Cond.selects RX4 yX4_almanac yX4_almanac ∈ tb := tb_of (List.mem_of_getElem? (i := 295) (by decide +kernel)) rfl
theorem wc_X4_almanac : Cond.code yX4_almanac cX4_almanac 4 (some .int) ∈ tb := tb_of (List.mem_of_getElem? (i := 296) (by decide +kernel)) rfl
theorem wl_X4_120 : Cond.methodLink RX4 120 yX3_readInto ∈ tb := tb_of (List.mem_of_getElem? (i := 297) (by decide +kernel)) rfl
theorem wi_X3_readInto : Cond.instanceMethod yX3_readInto ∈ tb := tb_of (List.mem_of_getElem? (i := 298) (by decide +kernel)) rfl
theorem wv_X3_readInto : Cond.selects RX3 yX3_readInto yX3_readInto ∈ tb := tb_of (List.mem_of_getElem? (i := 299) (by decide +kernel)) rfl
theorem wc_X3_readInto : Cond.code yX3_readInto cX3_readInto 4 (some .int) ∈ tb := tb_of (List.mem_of_getElem? (i := 300) (by decide +kernel)) rfl
theorem wl_X3_38 : Cond.methodLink RX3 38 yX3_readItem ∈ tb := tb_of (List.mem_of_getElem? (i := 301) (by decide +kernel)) rfl
theorem wi_X3_readItem : Cond.instanceMethod yX3_readItem ∈ tb := tb_of (List.mem_of_getElem? (i := 302) (by decide +kernel)) rfl
theorem wv_X3_readItem : Cond.selects RX3 yX3_readItem yX3_readItem ∈ tb := tb_of (List.mem_of_getElem? (i := 303) (by decide +kernel)) rfl
theorem wc_X3_readItem : Cond.code yX3_readItem cX3_readItem 4 none ∈ tb := tb_of (List.mem_of_getElem? (i := 304) (by decide +kernel)) rfl
theorem wl_X3_42 : Cond.methodLink RX3 42 yJ9_max_7cf53 ∈ tb := tb_of (List.mem_of_getElem? (i := 305) (by decide +kernel)) rfl
theorem ws_J9_max_7cf53 : Cond.static yJ9_max_7cf53 ∈ tb := tb_of (List.mem_of_getElem? (i := 306) (by decide +kernel)) rfl
theorem wc_J9_max_7cf53 : Cond.code yJ9_max_7cf53 cJ9_max_7cf53 2 (some .int) ∈ tb := tb_of (List.mem_of_getElem? (i := 307) (by decide +kernel)) rfl
theorem wl_L_57 : Cond.methodLink RL 57 yX4_town ∈ tb := tb_of (List.mem_of_getElem? (i := 308) (by decide +kernel)) rfl
theorem wi_X4_town : Cond.instanceMethod yX4_town ∈ tb := tb_of (List.mem_of_getElem? (i := 309) (by decide +kernel)) rfl
theorem wv_X4_town : Cond.selects RX4 yX4_town yX4_town ∈ tb := tb_of (List.mem_of_getElem? (i := 310) (by decide +kernel)) rfl
theorem wc_X4_town : Cond.code yX4_town cX4_town 3 (some .int) ∈ tb := tb_of (List.mem_of_getElem? (i := 311) (by decide +kernel)) rfl
theorem wl_X4_128 : Cond.methodLink RX4 128 yX4_isTown ∈ tb := tb_of (List.mem_of_getElem? (i := 312) (by decide +kernel)) rfl
theorem wi_X4_isTown : Cond.instanceMethod yX4_isTown ∈ tb := tb_of (List.mem_of_getElem? (i := 314) (by decide +kernel)) rfl
theorem wc_X4_isTown : Cond.code yX4_isTown cX4_isTown 2 (some .boolean) ∈ tb := tb_of (List.mem_of_getElem? (i := 315) (by decide +kernel)) rfl
theorem wl_X4_131 : Cond.methodLink RX4 131 yX4_ofTown ∈ tb := tb_of (List.mem_of_getElem? (i := 316) (by decide +kernel)) rfl
theorem wi_X4_ofTown : Cond.instanceMethod yX4_ofTown ∈ tb := tb_of (List.mem_of_getElem? (i := 318) (by decide +kernel)) rfl
theorem wc_X4_ofTown : Cond.code yX4_ofTown cX4_ofTown 4 (some .int) ∈ tb := tb_of (List.mem_of_getElem? (i := 319) (by decide +kernel)) rfl
theorem wl_X4_171 : Cond.methodLink RX4 171 yX0_dateOn ∈ tb := tb_of (List.mem_of_getElem? (i := 320) (by decide +kernel)) rfl
theorem wi_X0_dateOn : Cond.instanceMethod yX0_dateOn ∈ tb := tb_of (List.mem_of_getElem? (i := 321) (by decide +kernel)) rfl
theorem wv_X0_dateOn : Cond.selects RX0 yX0_dateOn yX0_dateOn ∈ tb := tb_of (List.mem_of_getElem? (i := 322) (by decide +kernel)) rfl
theorem wc_X0_dateOn : Cond.code yX0_dateOn cX0_dateOn 2 (some .int) ∈ tb := tb_of (List.mem_of_getElem? (i := 323) (by decide +kernel)) rfl
theorem wl_X0_60 : Cond.methodLink RX0 60 yX0_countOn ∈ tb := tb_of (List.mem_of_getElem? (i := 324) (by decide +kernel)) rfl
theorem wi_X0_countOn : Cond.instanceMethod yX0_countOn ∈ tb := tb_of (List.mem_of_getElem? (i := 325) (by decide +kernel)) rfl
theorem wv_X0_countOn : Cond.selects RX0 yX0_countOn yX0_countOn ∈ tb := tb_of (List.mem_of_getElem? (i := 326) (by decide +kernel)) rfl
theorem wc_X0_countOn : Cond.code yX0_countOn cX0_countOn 2 (some .int) ∈ tb := tb_of (List.mem_of_getElem? (i := 327) (by decide +kernel)) rfl
theorem wl_X0_46 : Cond.methodLink RX0 46 yX0_cutsBy ∈ tb := tb_of (List.mem_of_getElem? (i := 328) (by decide +kernel)) rfl
theorem wi_X0_cutsBy : Cond.instanceMethod yX0_cutsBy ∈ tb := tb_of (List.mem_of_getElem? (i := 329) (by decide +kernel)) rfl
theorem wv_X0_cutsBy : Cond.selects RX0 yX0_cutsBy yX0_cutsBy ∈ tb := tb_of (List.mem_of_getElem? (i := 330) (by decide +kernel)) rfl
theorem wc_X0_cutsBy : Cond.code yX0_cutsBy cX0_cutsBy 3 (some .int) ∈ tb := tb_of (List.mem_of_getElem? (i := 331) (by decide +kernel)) rfl
theorem wl_X0_38 : Cond.methodLink RX0 38 yX0_timesCut ∈ tb := tb_of (List.mem_of_getElem? (i := 332) (by decide +kernel)) rfl
theorem wi_X0_timesCut : Cond.instanceMethod yX0_timesCut ∈ tb := tb_of (List.mem_of_getElem? (i := 333) (by decide +kernel)) rfl
theorem wv_X0_timesCut : Cond.selects RX0 yX0_timesCut yX0_timesCut ∈ tb := tb_of (List.mem_of_getElem? (i := 334) (by decide +kernel)) rfl
theorem wc_X0_timesCut : Cond.code yX0_timesCut cX0_timesCut 1 (some .int) ∈ tb := tb_of (List.mem_of_getElem? (i := 335) (by decide +kernel)) rfl
theorem wl_X0_63 : Cond.methodLink RX0 63 yX0_dateOfCount ∈ tb := tb_of (List.mem_of_getElem? (i := 338) (by decide +kernel)) rfl
theorem wi_X0_dateOfCount : Cond.instanceMethod yX0_dateOfCount ∈ tb := tb_of (List.mem_of_getElem? (i := 339) (by decide +kernel)) rfl
theorem wv_X0_dateOfCount : Cond.selects RX0 yX0_dateOfCount yX0_dateOfCount ∈ tb := tb_of (List.mem_of_getElem? (i := 340) (by decide +kernel)) rfl
theorem wc_X0_dateOfCount : Cond.code yX0_dateOfCount cX0_dateOfCount 5 (some .int) ∈ tb := tb_of (List.mem_of_getElem? (i := 341) (by decide +kernel)) rfl
theorem wl_X0_49 : Cond.methodLink RX0 49 yX0_hasLeaps ∈ tb := tb_of (List.mem_of_getElem? (i := 342) (by decide +kernel)) rfl
theorem wi_X0_hasLeaps : Cond.instanceMethod yX0_hasLeaps ∈ tb := tb_of (List.mem_of_getElem? (i := 343) (by decide +kernel)) rfl
theorem wv_X0_hasLeaps : Cond.selects RX0 yX0_hasLeaps yX0_hasLeaps ∈ tb := tb_of (List.mem_of_getElem? (i := 344) (by decide +kernel)) rfl
theorem wc_X0_hasLeaps : Cond.code yX0_hasLeaps cX0_hasLeaps 1 (some .boolean) ∈ tb := tb_of (List.mem_of_getElem? (i := 345) (by decide +kernel)) rfl
theorem wl_X0_28 : Cond.methodLink RX0 28 yX0_isOf ∈ tb := tb_of (List.mem_of_getElem? (i := 346) (by decide +kernel)) rfl
theorem wi_X0_isOf : Cond.instanceMethod yX0_isOf ∈ tb := tb_of (List.mem_of_getElem? (i := 347) (by decide +kernel)) rfl
theorem wv_X0_isOf : Cond.selects RX0 yX0_isOf yX0_isOf ∈ tb := tb_of (List.mem_of_getElem? (i := 348) (by decide +kernel)) rfl
theorem wc_X0_isOf : Cond.code yX0_isOf cX0_isOf 2 (some .boolean) ∈ tb := tb_of (List.mem_of_getElem? (i := 349) (by decide +kernel)) rfl
theorem wl_X0_53 : Cond.methodLink RX0 53 yX0_shortLength ∈ tb := tb_of (List.mem_of_getElem? (i := 353) (by decide +kernel)) rfl
theorem wi_X0_shortLength : Cond.instanceMethod yX0_shortLength ∈ tb := tb_of (List.mem_of_getElem? (i := 354) (by decide +kernel)) rfl
theorem wv_X0_shortLength : Cond.selects RX0 yX0_shortLength yX0_shortLength ∈ tb := tb_of (List.mem_of_getElem? (i := 355) (by decide +kernel)) rfl
theorem wc_X0_shortLength : Cond.code yX0_shortLength cX0_shortLength 1 (some .int) ∈ tb := tb_of (List.mem_of_getElem? (i := 356) (by decide +kernel)) rfl
theorem wl_L_61 : Cond.methodLink RL 61 yX4_mark ∈ tb := tb_of (List.mem_of_getElem? (i := 357) (by decide +kernel)) rfl
theorem wi_X4_mark : Cond.instanceMethod yX4_mark ∈ tb := tb_of (List.mem_of_getElem? (i := 358) (by decide +kernel)) rfl
theorem wv_X4_mark : Cond.selects RX4 yX4_mark yX4_mark ∈ tb := tb_of (List.mem_of_getElem? (i := 359) (by decide +kernel)) rfl
theorem wc_X4_mark : Cond.code yX4_mark cX4_mark 3 (some .int) ∈ tb := tb_of (List.mem_of_getElem? (i := 360) (by decide +kernel)) rfl
theorem wl_X4_134 : Cond.methodLink RX4 134 yX0_isOf ∈ tb := tb_of (List.mem_of_getElem? (i := 361) (by decide +kernel)) rfl
theorem wl_X4_137 : Cond.methodLink RX4 137 yX0_markOf ∈ tb := tb_of (List.mem_of_getElem? (i := 362) (by decide +kernel)) rfl
theorem wi_X0_markOf : Cond.instanceMethod yX0_markOf ∈ tb := tb_of (List.mem_of_getElem? (i := 363) (by decide +kernel)) rfl
theorem wv_X0_markOf : Cond.selects RX0 yX0_markOf yX0_markOf ∈ tb := tb_of (List.mem_of_getElem? (i := 364) (by decide +kernel)) rfl
theorem wc_X0_markOf : Cond.code yX0_markOf cX0_markOf 3 (some .int) ∈ tb := tb_of (List.mem_of_getElem? (i := 365) (by decide +kernel)) rfl
theorem wl_X0_75 : Cond.methodLink RX0 75 yX0_dateOn ∈ tb := tb_of (List.mem_of_getElem? (i := 366) (by decide +kernel)) rfl
theorem wl_X0_86 : Cond.methodLink RX0 86 yJ9_max_7cf53 ∈ tb := tb_of (List.mem_of_getElem? (i := 367) (by decide +kernel)) rfl
theorem wl_L_65 : Cond.methodLink RL 65 yX4_order ∈ tb := tb_of (List.mem_of_getElem? (i := 368) (by decide +kernel)) rfl
theorem wi_X4_order : Cond.instanceMethod yX4_order ∈ tb := tb_of (List.mem_of_getElem? (i := 369) (by decide +kernel)) rfl
theorem wv_X4_order : Cond.selects RX4 yX4_order yX4_order ∈ tb := tb_of (List.mem_of_getElem? (i := 370) (by decide +kernel)) rfl
theorem wc_X4_order : Cond.code yX4_order cX4_order 4 (some .int) ∈ tb := tb_of (List.mem_of_getElem? (i := 371) (by decide +kernel)) rfl
theorem wl_X4_140 : Cond.methodLink RX4 140 yX4_isWithin ∈ tb := tb_of (List.mem_of_getElem? (i := 372) (by decide +kernel)) rfl
theorem ws_X4_isWithin : Cond.static yX4_isWithin ∈ tb := tb_of (List.mem_of_getElem? (i := 373) (by decide +kernel)) rfl
theorem wc_X4_isWithin : Cond.code yX4_isWithin cX4_isWithin 3 (some .boolean) ∈ tb := tb_of (List.mem_of_getElem? (i := 374) (by decide +kernel)) rfl
theorem wl_L_69 : Cond.methodLink RL 69 yX4_gap ∈ tb := tb_of (List.mem_of_getElem? (i := 375) (by decide +kernel)) rfl
theorem wi_X4_gap : Cond.instanceMethod yX4_gap ∈ tb := tb_of (List.mem_of_getElem? (i := 376) (by decide +kernel)) rfl
theorem wv_X4_gap : Cond.selects RX4 yX4_gap yX4_gap ∈ tb := tb_of (List.mem_of_getElem? (i := 377) (by decide +kernel)) rfl
theorem wc_X4_gap : Cond.code yX4_gap cX4_gap 4 (some .int) ∈ tb := tb_of (List.mem_of_getElem? (i := 378) (by decide +kernel)) rfl
theorem wl_L_73 : Cond.methodLink RL 73 yX4_leap ∈ tb := tb_of (List.mem_of_getElem? (i := 379) (by decide +kernel)) rfl
theorem wi_X4_leap : Cond.instanceMethod yX4_leap ∈ tb := tb_of (List.mem_of_getElem? (i := 380) (by decide +kernel)) rfl
theorem wv_X4_leap : Cond.selects RX4 yX4_leap yX4_leap ∈ tb := tb_of (List.mem_of_getElem? (i := 381) (by decide +kernel)) rfl
theorem wc_X4_leap : Cond.code yX4_leap cX4_leap 4 (some .int) ∈ tb := tb_of (List.mem_of_getElem? (i := 382) (by decide +kernel)) rfl
theorem wl_X4_150 : Cond.methodLink RX4 150 yX4_isLeap ∈ tb := tb_of (List.mem_of_getElem? (i := 383) (by decide +kernel)) rfl
theorem wl_L_77 : Cond.methodLink RL 77 yX4_go ∈ tb := tb_of (List.mem_of_getElem? (i := 384) (by decide +kernel)) rfl
theorem wi_X4_go : Cond.instanceMethod yX4_go ∈ tb := tb_of (List.mem_of_getElem? (i := 385) (by decide +kernel)) rfl
theorem wv_X4_go : Cond.selects RX4 yX4_go yX4_go ∈ tb := tb_of (List.mem_of_getElem? (i := 386) (by decide +kernel)) rfl
theorem wc_X4_go : Cond.code yX4_go cX4_go 2 (some .int) ∈ tb := tb_of (List.mem_of_getElem? (i := 387) (by decide +kernel)) rfl
theorem wl_L_81 : Cond.methodLink RL 81 yX4_back ∈ tb := tb_of (List.mem_of_getElem? (i := 388) (by decide +kernel)) rfl
theorem wi_X4_back : Cond.instanceMethod yX4_back ∈ tb := tb_of (List.mem_of_getElem? (i := 389) (by decide +kernel)) rfl
theorem wv_X4_back : Cond.selects RX4 yX4_back yX4_back ∈ tb := tb_of (List.mem_of_getElem? (i := 390) (by decide +kernel)) rfl
theorem wc_X4_back : Cond.code yX4_back cX4_back 2 (some .int) ∈ tb := tb_of (List.mem_of_getElem? (i := 391) (by decide +kernel)) rfl
theorem wl_L_85 : Cond.methodLink RL 85 yX4_keep ∈ tb := tb_of (List.mem_of_getElem? (i := 392) (by decide +kernel)) rfl
theorem wi_X4_keep : Cond.instanceMethod yX4_keep ∈ tb := tb_of (List.mem_of_getElem? (i := 393) (by decide +kernel)) rfl
theorem wv_X4_keep : Cond.selects RX4 yX4_keep yX4_keep ∈ tb := tb_of (List.mem_of_getElem? (i := 394) (by decide +kernel)) rfl
theorem wc_X4_keep : Cond.code yX4_keep cX4_keep 2 (some .int) ∈ tb := tb_of (List.mem_of_getElem? (i := 395) (by decide +kernel)) rfl
theorem wl_X4_156 : Cond.methodLink RX4 156 yX4_isPlaceToKeep ∈ tb := tb_of (List.mem_of_getElem? (i := 396) (by decide +kernel)) rfl
theorem ws_X4_isPlaceToKeep : Cond.static yX4_isPlaceToKeep ∈ tb := tb_of (List.mem_of_getElem? (i := 397) (by decide +kernel)) rfl
theorem wc_X4_isPlaceToKeep : Cond.code yX4_isPlaceToKeep cX4_isPlaceToKeep 1 (some .boolean) ∈ tb := tb_of (List.mem_of_getElem? (i := 398) (by decide +kernel)) rfl
theorem wl_X4_159 : Cond.methodLink RX4 159 yX1_take ∈ tb := tb_of (List.mem_of_getElem? (i := 399) (by decide +kernel)) rfl
theorem wi_X1_take : Cond.instanceMethod yX1_take ∈ tb := tb_of (List.mem_of_getElem? (i := 400) (by decide +kernel)) rfl
theorem wv_X1_take : Cond.selects RX1 yX1_take yX1_take ∈ tb := tb_of (List.mem_of_getElem? (i := 401) (by decide +kernel)) rfl
theorem wc_X1_take : Cond.code yX1_take cX1_take 4 none ∈ tb := tb_of (List.mem_of_getElem? (i := 402) (by decide +kernel)) rfl
theorem wl_L_89 : Cond.methodLink RL 89 yX4_on ∈ tb := tb_of (List.mem_of_getElem? (i := 403) (by decide +kernel)) rfl
theorem wi_X4_on : Cond.instanceMethod yX4_on ∈ tb := tb_of (List.mem_of_getElem? (i := 404) (by decide +kernel)) rfl
theorem wv_X4_on : Cond.selects RX4 yX4_on yX4_on ∈ tb := tb_of (List.mem_of_getElem? (i := 405) (by decide +kernel)) rfl
theorem wc_X4_on : Cond.code yX4_on cX4_on 2 (some .int) ∈ tb := tb_of (List.mem_of_getElem? (i := 406) (by decide +kernel)) rfl
theorem wl_X4_163 : Cond.methodLink RX4 163 yX1_giveBack ∈ tb := tb_of (List.mem_of_getElem? (i := 407) (by decide +kernel)) rfl
theorem wi_X1_giveBack : Cond.instanceMethod yX1_giveBack ∈ tb := tb_of (List.mem_of_getElem? (i := 408) (by decide +kernel)) rfl
theorem wv_X1_giveBack : Cond.selects RX1 yX1_giveBack yX1_giveBack ∈ tb := tb_of (List.mem_of_getElem? (i := 409) (by decide +kernel)) rfl
theorem wc_X1_giveBack : Cond.code yX1_giveBack cX1_giveBack 3 none ∈ tb := tb_of (List.mem_of_getElem? (i := 410) (by decide +kernel)) rfl
theorem wl_L_93 : Cond.methodLink RL 93 yX4_date ∈ tb := tb_of (List.mem_of_getElem? (i := 411) (by decide +kernel)) rfl
theorem wi_X4_date : Cond.instanceMethod yX4_date ∈ tb := tb_of (List.mem_of_getElem? (i := 412) (by decide +kernel)) rfl
theorem wv_X4_date : Cond.selects RX4 yX4_date yX4_date ∈ tb := tb_of (List.mem_of_getElem? (i := 413) (by decide +kernel)) rfl
theorem wc_X4_date : Cond.code yX4_date cX4_date 3 (some .int) ∈ tb := tb_of (List.mem_of_getElem? (i := 414) (by decide +kernel)) rfl
theorem wl_X4_168 : Cond.methodLink RX4 168 yX4_isDay ∈ tb := tb_of (List.mem_of_getElem? (i := 415) (by decide +kernel)) rfl
theorem ws_X4_isDay : Cond.static yX4_isDay ∈ tb := tb_of (List.mem_of_getElem? (i := 416) (by decide +kernel)) rfl
theorem wc_X4_isDay : Cond.code yX4_isDay cX4_isDay 1 (some .boolean) ∈ tb := tb_of (List.mem_of_getElem? (i := 417) (by decide +kernel)) rfl
theorem wl_L_97 : Cond.methodLink RL 97 yX4_day ∈ tb := tb_of (List.mem_of_getElem? (i := 418) (by decide +kernel)) rfl
theorem wi_X4_day : Cond.instanceMethod yX4_day ∈ tb := tb_of (List.mem_of_getElem? (i := 419) (by decide +kernel)) rfl
theorem wv_X4_day : Cond.selects RX4 yX4_day yX4_day ∈ tb := tb_of (List.mem_of_getElem? (i := 420) (by decide +kernel)) rfl
theorem wc_X4_day : Cond.code yX4_day cX4_day 4 (some .int) ∈ tb := tb_of (List.mem_of_getElem? (i := 421) (by decide +kernel)) rfl
theorem wl_X4_174 : Cond.methodLink RX4 174 yX0_dayOfDate ∈ tb := tb_of (List.mem_of_getElem? (i := 422) (by decide +kernel)) rfl
theorem wi_X0_dayOfDate : Cond.instanceMethod yX0_dayOfDate ∈ tb := tb_of (List.mem_of_getElem? (i := 423) (by decide +kernel)) rfl
theorem wv_X0_dayOfDate : Cond.selects RX0 yX0_dayOfDate yX0_dayOfDate ∈ tb := tb_of (List.mem_of_getElem? (i := 424) (by decide +kernel)) rfl
theorem wc_X0_dayOfDate : Cond.code yX0_dayOfDate cX0_dayOfDate 4 (some .int) ∈ tb := tb_of (List.mem_of_getElem? (i := 425) (by decide +kernel)) rfl
theorem wl_X0_66 : Cond.methodLink RX0 66 yX0_lengthOf ∈ tb := tb_of (List.mem_of_getElem? (i := 426) (by decide +kernel)) rfl
theorem wi_X0_lengthOf : Cond.instanceMethod yX0_lengthOf ∈ tb := tb_of (List.mem_of_getElem? (i := 427) (by decide +kernel)) rfl
theorem wv_X0_lengthOf : Cond.selects RX0 yX0_lengthOf yX0_lengthOf ∈ tb := tb_of (List.mem_of_getElem? (i := 428) (by decide +kernel)) rfl
theorem wc_X0_lengthOf : Cond.code yX0_lengthOf cX0_lengthOf 2 (some .int) ∈ tb := tb_of (List.mem_of_getElem? (i := 429) (by decide +kernel)) rfl
theorem wl_X0_69 : Cond.methodLink RX0 69 yX0_startOf ∈ tb := tb_of (List.mem_of_getElem? (i := 430) (by decide +kernel)) rfl
theorem wi_X0_startOf : Cond.instanceMethod yX0_startOf ∈ tb := tb_of (List.mem_of_getElem? (i := 431) (by decide +kernel)) rfl
theorem wv_X0_startOf : Cond.selects RX0 yX0_startOf yX0_startOf ∈ tb := tb_of (List.mem_of_getElem? (i := 432) (by decide +kernel)) rfl
theorem wc_X0_startOf : Cond.code yX0_startOf cX0_startOf 2 (some .int) ∈ tb := tb_of (List.mem_of_getElem? (i := 433) (by decide +kernel)) rfl
theorem ws_X4_longYearsBefore : Cond.static yX4_longYearsBefore ∈ tb := tb_of (List.mem_of_getElem? (i := 435) (by decide +kernel)) rfl
theorem wc_X4_longYearsBefore : Cond.code yX4_longYearsBefore cX4_longYearsBefore 2 (some .int) ∈ tb := tb_of (List.mem_of_getElem? (i := 436) (by decide +kernel)) rfl
theorem wl_X0_72 : Cond.methodLink RX0 72 yX0_dayOfCount ∈ tb := tb_of (List.mem_of_getElem? (i := 437) (by decide +kernel)) rfl
theorem wi_X0_dayOfCount : Cond.instanceMethod yX0_dayOfCount ∈ tb := tb_of (List.mem_of_getElem? (i := 438) (by decide +kernel)) rfl
theorem wv_X0_dayOfCount : Cond.selects RX0 yX0_dayOfCount yX0_dayOfCount ∈ tb := tb_of (List.mem_of_getElem? (i := 439) (by decide +kernel)) rfl
theorem wc_X0_dayOfCount : Cond.code yX0_dayOfCount cX0_dayOfCount 4 (some .int) ∈ tb := tb_of (List.mem_of_getElem? (i := 440) (by decide +kernel)) rfl
theorem wl_L_101 : Cond.methodLink RL 101 yX4_year ∈ tb := tb_of (List.mem_of_getElem? (i := 441) (by decide +kernel)) rfl
theorem wi_X4_year : Cond.instanceMethod yX4_year ∈ tb := tb_of (List.mem_of_getElem? (i := 442) (by decide +kernel)) rfl
theorem wv_X4_year : Cond.selects RX4 yX4_year yX4_year ∈ tb := tb_of (List.mem_of_getElem? (i := 443) (by decide +kernel)) rfl
theorem wc_X4_year : Cond.code yX4_year cX4_year 6 (some .int) ∈ tb := tb_of (List.mem_of_getElem? (i := 444) (by decide +kernel)) rfl
theorem wl_X4_177 : Cond.methodLink RX4 177 yX0_lengthOf ∈ tb := tb_of (List.mem_of_getElem? (i := 445) (by decide +kernel)) rfl
theorem wl_L_105 : Cond.methodLink RL 105 yX4_same ∈ tb := tb_of (List.mem_of_getElem? (i := 446) (by decide +kernel)) rfl
theorem wi_X4_same : Cond.instanceMethod yX4_same ∈ tb := tb_of (List.mem_of_getElem? (i := 447) (by decide +kernel)) rfl
theorem wv_X4_same : Cond.selects RX4 yX4_same yX4_same ∈ tb := tb_of (List.mem_of_getElem? (i := 448) (by decide +kernel)) rfl
theorem wc_X4_same : Cond.code yX4_same cX4_same 5 (some .int) ∈ tb := tb_of (List.mem_of_getElem? (i := 449) (by decide +kernel)) rfl
theorem wl_L_109 : Cond.methodLink RL 109 yX4_between ∈ tb := tb_of (List.mem_of_getElem? (i := 450) (by decide +kernel)) rfl
theorem wi_X4_between : Cond.instanceMethod yX4_between ∈ tb := tb_of (List.mem_of_getElem? (i := 451) (by decide +kernel)) rfl
theorem wv_X4_between : Cond.selects RX4 yX4_between yX4_between ∈ tb := tb_of (List.mem_of_getElem? (i := 452) (by decide +kernel)) rfl
theorem wc_X4_between : Cond.code yX4_between cX4_between 6 (some .int) ∈ tb := tb_of (List.mem_of_getElem? (i := 453) (by decide +kernel)) rfl
theorem wl_L_113 : Cond.methodLink RL 113 yX4_where ∈ tb := tb_of (List.mem_of_getElem? (i := 454) (by decide +kernel)) rfl
theorem wi_X4_where : Cond.instanceMethod yX4_where ∈ tb := tb_of (List.mem_of_getElem? (i := 455) (by decide +kernel)) rfl
theorem wv_X4_where : Cond.selects RX4 yX4_where yX4_where ∈ tb := tb_of (List.mem_of_getElem? (i := 456) (by decide +kernel)) rfl
theorem wc_X4_where : Cond.code yX4_where cX4_where 5 (some .int) ∈ tb := tb_of (List.mem_of_getElem? (i := 457) (by decide +kernel)) rfl
theorem wl_X4_180 : Cond.methodLink RX4 180 yJ6_bitCount_0f7a4 ∈ tb := tb_of (List.mem_of_getElem? (i := 458) (by decide +kernel)) rfl
theorem ws_J6_bitCount_0f7a4 : Cond.static yJ6_bitCount_0f7a4 ∈ tb := tb_of (List.mem_of_getElem? (i := 459) (by decide +kernel)) rfl
theorem wc_J6_bitCount_0f7a4 : Cond.code yJ6_bitCount_0f7a4 cJ6_bitCount_0f7a4 1 (some .int) ∈ tb := tb_of (List.mem_of_getElem? (i := 460) (by decide +kernel)) rfl
theorem wl_J6_265 : Cond.constant RJ6 265 (1431655765) ∈ tb := tb_of (List.mem_of_getElem? (i := 461) (by decide +kernel)) rfl
theorem wl_J6_266 : Cond.constant RJ6 266 (858993459) ∈ tb := tb_of (List.mem_of_getElem? (i := 462) (by decide +kernel)) rfl
theorem wl_J6_267 : Cond.constant RJ6 267 (252645135) ∈ tb := tb_of (List.mem_of_getElem? (i := 463) (by decide +kernel)) rfl
theorem wl_L_117 : Cond.methodLink RL 117 yX4_left ∈ tb := tb_of (List.mem_of_getElem? (i := 464) (by decide +kernel)) rfl
theorem wi_X4_left : Cond.instanceMethod yX4_left ∈ tb := tb_of (List.mem_of_getElem? (i := 465) (by decide +kernel)) rfl
theorem wv_X4_left : Cond.selects RX4 yX4_left yX4_left ∈ tb := tb_of (List.mem_of_getElem? (i := 466) (by decide +kernel)) rfl
theorem wc_X4_left : Cond.code yX4_left cX4_left 7 (some .int) ∈ tb := tb_of (List.mem_of_getElem? (i := 467) (by decide +kernel)) rfl
theorem wl_X4_185 : Cond.methodLink RX4 185 yX0_timesCut ∈ tb := tb_of (List.mem_of_getElem? (i := 468) (by decide +kernel)) rfl
theorem wl_X4_188 : Cond.methodLink RX4 188 yX0_firstLeftOut ∈ tb := tb_of (List.mem_of_getElem? (i := 469) (by decide +kernel)) rfl
theorem wi_X0_firstLeftOut : Cond.instanceMethod yX0_firstLeftOut ∈ tb := tb_of (List.mem_of_getElem? (i := 470) (by decide +kernel)) rfl
theorem wv_X0_firstLeftOut : Cond.selects RX0 yX0_firstLeftOut yX0_firstLeftOut ∈ tb := tb_of (List.mem_of_getElem? (i := 471) (by decide +kernel)) rfl
theorem wc_X0_firstLeftOut : Cond.code yX0_firstLeftOut cX0_firstLeftOut 2 (some .int) ∈ tb := tb_of (List.mem_of_getElem? (i := 472) (by decide +kernel)) rfl
theorem wl_X0_42 : Cond.methodLink RX0 42 yX0_dayOfCut ∈ tb := tb_of (List.mem_of_getElem? (i := 473) (by decide +kernel)) rfl
theorem wi_X0_dayOfCut : Cond.instanceMethod yX0_dayOfCut ∈ tb := tb_of (List.mem_of_getElem? (i := 474) (by decide +kernel)) rfl
theorem wv_X0_dayOfCut : Cond.selects RX0 yX0_dayOfCut yX0_dayOfCut ∈ tb := tb_of (List.mem_of_getElem? (i := 475) (by decide +kernel)) rfl
theorem wc_X0_dayOfCut : Cond.code yX0_dayOfCut cX0_dayOfCut 2 (some .int) ∈ tb := tb_of (List.mem_of_getElem? (i := 476) (by decide +kernel)) rfl
theorem wl_X4_191 : Cond.methodLink RX4 191 yX0_dateOfCount ∈ tb := tb_of (List.mem_of_getElem? (i := 477) (by decide +kernel)) rfl
theorem wl_X4_194 : Cond.methodLink RX4 194 yX2_add ∈ tb := tb_of (List.mem_of_getElem? (i := 478) (by decide +kernel)) rfl
theorem wi_X2_add : Cond.instanceMethod yX2_add ∈ tb := tb_of (List.mem_of_getElem? (i := 479) (by decide +kernel)) rfl
theorem wv_X2_add : Cond.selects RX2 yX2_add yX2_add ∈ tb := tb_of (List.mem_of_getElem? (i := 480) (by decide +kernel)) rfl
theorem wc_X2_add : Cond.code yX2_add cX2_add 2 none ∈ tb := tb_of (List.mem_of_getElem? (i := 481) (by decide +kernel)) rfl
theorem wl_L_121 : Cond.methodLink RL 121 yX4_dates ∈ tb := tb_of (List.mem_of_getElem? (i := 482) (by decide +kernel)) rfl
theorem wi_X4_dates : Cond.instanceMethod yX4_dates ∈ tb := tb_of (List.mem_of_getElem? (i := 483) (by decide +kernel)) rfl
theorem wv_X4_dates : Cond.selects RX4 yX4_dates yX4_dates ∈ tb := tb_of (List.mem_of_getElem? (i := 484) (by decide +kernel)) rfl
theorem wc_X4_dates : Cond.code yX4_dates cX4_dates 6 (some .int) ∈ tb := tb_of (List.mem_of_getElem? (i := 485) (by decide +kernel)) rfl
theorem wl_X4_197 : Cond.methodLink RX4 197 yX4_isSpan ∈ tb := tb_of (List.mem_of_getElem? (i := 486) (by decide +kernel)) rfl
theorem ws_X4_isSpan : Cond.static yX4_isSpan ∈ tb := tb_of (List.mem_of_getElem? (i := 487) (by decide +kernel)) rfl
theorem wc_X4_isSpan : Cond.code yX4_isSpan cX4_isSpan 2 (some .boolean) ∈ tb := tb_of (List.mem_of_getElem? (i := 488) (by decide +kernel)) rfl
theorem wl_L_126 : Cond.methodLink RL 126 yX4_age ∈ tb := tb_of (List.mem_of_getElem? (i := 489) (by decide +kernel)) rfl
theorem wi_X4_age : Cond.instanceMethod yX4_age ∈ tb := tb_of (List.mem_of_getElem? (i := 490) (by decide +kernel)) rfl
theorem wv_X4_age : Cond.selects RX4 yX4_age yX4_age ∈ tb := tb_of (List.mem_of_getElem? (i := 491) (by decide +kernel)) rfl
theorem wc_X4_age : Cond.code yX4_age cX4_age 4 (some .int) ∈ tb := tb_of (List.mem_of_getElem? (i := 492) (by decide +kernel)) rfl
theorem wl_X4_200 : Cond.methodLink RX4 200 yX0_timesAgain ∈ tb := tb_of (List.mem_of_getElem? (i := 493) (by decide +kernel)) rfl
theorem wi_X0_timesAgain : Cond.instanceMethod yX0_timesAgain ∈ tb := tb_of (List.mem_of_getElem? (i := 494) (by decide +kernel)) rfl
theorem wv_X0_timesAgain : Cond.selects RX0 yX0_timesAgain yX0_timesAgain ∈ tb := tb_of (List.mem_of_getElem? (i := 495) (by decide +kernel)) rfl
theorem wc_X0_timesAgain : Cond.code yX0_timesAgain cX0_timesAgain 8 (some .int) ∈ tb := tb_of (List.mem_of_getElem? (i := 496) (by decide +kernel)) rfl
theorem wl_X0_83 : Cond.methodLink RX0 83 yX0_dayOfDate ∈ tb := tb_of (List.mem_of_getElem? (i := 497) (by decide +kernel)) rfl
theorem wl_L_130 : Cond.methodLink RL 130 yX4_eldest ∈ tb := tb_of (List.mem_of_getElem? (i := 498) (by decide +kernel)) rfl
theorem wi_X4_eldest : Cond.instanceMethod yX4_eldest ∈ tb := tb_of (List.mem_of_getElem? (i := 499) (by decide +kernel)) rfl
theorem wv_X4_eldest : Cond.selects RX4 yX4_eldest yX4_eldest ∈ tb := tb_of (List.mem_of_getElem? (i := 500) (by decide +kernel)) rfl
theorem wc_X4_eldest : Cond.code yX4_eldest cX4_eldest 6 (some .int) ∈ tb := tb_of (List.mem_of_getElem? (i := 501) (by decide +kernel)) rfl
theorem wl_L_134 : Cond.methodLink RL 134 yX4_agree ∈ tb := tb_of (List.mem_of_getElem? (i := 502) (by decide +kernel)) rfl
theorem wi_X4_agree : Cond.instanceMethod yX4_agree ∈ tb := tb_of (List.mem_of_getElem? (i := 503) (by decide +kernel)) rfl
theorem wv_X4_agree : Cond.selects RX4 yX4_agree yX4_agree ∈ tb := tb_of (List.mem_of_getElem? (i := 504) (by decide +kernel)) rfl
theorem wc_X4_agree : Cond.code yX4_agree cX4_agree 9 (some .int) ∈ tb := tb_of (List.mem_of_getElem? (i := 505) (by decide +kernel)) rfl
theorem wl_X4_203 : Cond.methodLink RX4 203 yX4_stretchEnd ∈ tb := tb_of (List.mem_of_getElem? (i := 506) (by decide +kernel)) rfl
theorem wi_X4_stretchEnd : Cond.instanceMethod yX4_stretchEnd ∈ tb := tb_of (List.mem_of_getElem? (i := 508) (by decide +kernel)) rfl
theorem wc_X4_stretchEnd : Cond.code yX4_stretchEnd cX4_stretchEnd 4 (some .int) ∈ tb := tb_of (List.mem_of_getElem? (i := 509) (by decide +kernel)) rfl
theorem wl_X4_313 : Cond.methodLink RX4 313 yX0_stretchEndFrom ∈ tb := tb_of (List.mem_of_getElem? (i := 510) (by decide +kernel)) rfl
theorem wi_X0_stretchEndFrom : Cond.instanceMethod yX0_stretchEndFrom ∈ tb := tb_of (List.mem_of_getElem? (i := 511) (by decide +kernel)) rfl
theorem wv_X0_stretchEndFrom : Cond.selects RX0 yX0_stretchEndFrom yX0_stretchEndFrom ∈ tb := tb_of (List.mem_of_getElem? (i := 512) (by decide +kernel)) rfl
theorem wc_X0_stretchEndFrom : Cond.code yX0_stretchEndFrom cX0_stretchEndFrom 5 (some .int) ∈ tb := tb_of (List.mem_of_getElem? (i := 513) (by decide +kernel)) rfl
theorem wl_X0_78 : Cond.methodLink RX0 78 yJ9_min_7cf53 ∈ tb := tb_of (List.mem_of_getElem? (i := 514) (by decide +kernel)) rfl
theorem ws_J9_min_7cf53 : Cond.static yJ9_min_7cf53 ∈ tb := tb_of (List.mem_of_getElem? (i := 515) (by decide +kernel)) rfl
theorem wc_J9_min_7cf53 : Cond.code yJ9_min_7cf53 cJ9_min_7cf53 2 (some .int) ∈ tb := tb_of (List.mem_of_getElem? (i := 516) (by decide +kernel)) rfl
theorem wl_X4_207 : Cond.methodLink RX4 207 yJ9_min_7cf53 ∈ tb := tb_of (List.mem_of_getElem? (i := 517) (by decide +kernel)) rfl
theorem wl_X4_212 : Cond.methodLink RX4 212 yX4_haveSameDate ∈ tb := tb_of (List.mem_of_getElem? (i := 518) (by decide +kernel)) rfl
theorem wi_X4_haveSameDate : Cond.instanceMethod yX4_haveSameDate ∈ tb := tb_of (List.mem_of_getElem? (i := 520) (by decide +kernel)) rfl
theorem wc_X4_haveSameDate : Cond.code yX4_haveSameDate cX4_haveSameDate 4 (some .boolean) ∈ tb := tb_of (List.mem_of_getElem? (i := 521) (by decide +kernel)) rfl
theorem wl_X4_215 : Cond.methodLink RX4 215 yJ9_max_7cf53 ∈ tb := tb_of (List.mem_of_getElem? (i := 522) (by decide +kernel)) rfl
theorem wl_L_138 : Cond.methodLink RL 138 yX4_till ∈ tb := tb_of (List.mem_of_getElem? (i := 523) (by decide +kernel)) rfl
theorem wi_X4_till : Cond.instanceMethod yX4_till ∈ tb := tb_of (List.mem_of_getElem? (i := 524) (by decide +kernel)) rfl
theorem wv_X4_till : Cond.selects RX4 yX4_till yX4_till ∈ tb := tb_of (List.mem_of_getElem? (i := 525) (by decide +kernel)) rfl
theorem wc_X4_till : Cond.code yX4_till cX4_till 4 (some .int) ∈ tb := tb_of (List.mem_of_getElem? (i := 526) (by decide +kernel)) rfl
theorem wl_L_142 : Cond.methodLink RL 142 yX4_apart ∈ tb := tb_of (List.mem_of_getElem? (i := 527) (by decide +kernel)) rfl
theorem wi_X4_apart : Cond.instanceMethod yX4_apart ∈ tb := tb_of (List.mem_of_getElem? (i := 528) (by decide +kernel)) rfl
theorem wv_X4_apart : Cond.selects RX4 yX4_apart yX4_apart ∈ tb := tb_of (List.mem_of_getElem? (i := 529) (by decide +kernel)) rfl
theorem wc_X4_apart : Cond.code yX4_apart cX4_apart 9 (some .int) ∈ tb := tb_of (List.mem_of_getElem? (i := 530) (by decide +kernel)) rfl
theorem wl_X4_218 : Cond.methodLink RX4 218 yX0_countOn ∈ tb := tb_of (List.mem_of_getElem? (i := 531) (by decide +kernel)) rfl
theorem wl_X4_221 : Cond.methodLink RX4 221 yJ9_abs_0f7a4 ∈ tb := tb_of (List.mem_of_getElem? (i := 532) (by decide +kernel)) rfl
theorem ws_J9_abs_0f7a4 : Cond.static yJ9_abs_0f7a4 ∈ tb := tb_of (List.mem_of_getElem? (i := 533) (by decide +kernel)) rfl
theorem wc_J9_abs_0f7a4 : Cond.code yJ9_abs_0f7a4 cJ9_abs_0f7a4 1 (some .int) ∈ tb := tb_of (List.mem_of_getElem? (i := 534) (by decide +kernel)) rfl
theorem wl_L_146 : Cond.methodLink RL 146 yX4_due ∈ tb := tb_of (List.mem_of_getElem? (i := 535) (by decide +kernel)) rfl
theorem wi_X4_due : Cond.instanceMethod yX4_due ∈ tb := tb_of (List.mem_of_getElem? (i := 536) (by decide +kernel)) rfl
theorem wv_X4_due : Cond.selects RX4 yX4_due yX4_due ∈ tb := tb_of (List.mem_of_getElem? (i := 537) (by decide +kernel)) rfl
theorem wc_X4_due : Cond.code yX4_due cX4_due 6 (some .int) ∈ tb := tb_of (List.mem_of_getElem? (i := 538) (by decide +kernel)) rfl
theorem wl_X4_224 : Cond.methodLink RX4 224 yX4_isYearsDue ∈ tb := tb_of (List.mem_of_getElem? (i := 539) (by decide +kernel)) rfl
theorem ws_X4_isYearsDue : Cond.static yX4_isYearsDue ∈ tb := tb_of (List.mem_of_getElem? (i := 540) (by decide +kernel)) rfl
theorem wc_X4_isYearsDue : Cond.code yX4_isYearsDue cX4_isYearsDue 1 (some .boolean) ∈ tb := tb_of (List.mem_of_getElem? (i := 541) (by decide +kernel)) rfl
theorem wl_L_150 : Cond.methodLink RL 150 yX4_quarrels ∈ tb := tb_of (List.mem_of_getElem? (i := 542) (by decide +kernel)) rfl
theorem wi_X4_quarrels : Cond.instanceMethod yX4_quarrels ∈ tb := tb_of (List.mem_of_getElem? (i := 543) (by decide +kernel)) rfl
theorem wv_X4_quarrels : Cond.selects RX4 yX4_quarrels yX4_quarrels ∈ tb := tb_of (List.mem_of_getElem? (i := 544) (by decide +kernel)) rfl
theorem wc_X4_quarrels : Cond.code yX4_quarrels cX4_quarrels 6 (some .int) ∈ tb := tb_of (List.mem_of_getElem? (i := 545) (by decide +kernel)) rfl
theorem wl_X4_227 : Cond.methodLink RX4 227 yX4_refusedContracts ∈ tb := tb_of (List.mem_of_getElem? (i := 546) (by decide +kernel)) rfl
theorem wi_X4_refusedContracts : Cond.instanceMethod yX4_refusedContracts ∈ tb := tb_of (List.mem_of_getElem? (i := 548) (by decide +kernel)) rfl
theorem wc_X4_refusedContracts : Cond.code yX4_refusedContracts cX4_refusedContracts 5 (some .int) ∈ tb := tb_of (List.mem_of_getElem? (i := 549) (by decide +kernel)) rfl
theorem wl_X4_230 : Cond.methodLink RX4 230 yX4_hasMissingDate ∈ tb := tb_of (List.mem_of_getElem? (i := 550) (by decide +kernel)) rfl
theorem wi_X4_hasMissingDate : Cond.instanceMethod yX4_hasMissingDate ∈ tb := tb_of (List.mem_of_getElem? (i := 552) (by decide +kernel)) rfl
theorem wc_X4_hasMissingDate : Cond.code yX4_hasMissingDate cX4_hasMissingDate 3 (some .boolean) ∈ tb := tb_of (List.mem_of_getElem? (i := 553) (by decide +kernel)) rfl
theorem wl_X4_234 : Cond.methodLink RX4 234 yX4_quarrelsAt ∈ tb := tb_of (List.mem_of_getElem? (i := 554) (by decide +kernel)) rfl
theorem wi_X4_quarrelsAt : Cond.instanceMethod yX4_quarrelsAt ∈ tb := tb_of (List.mem_of_getElem? (i := 556) (by decide +kernel)) rfl
theorem wc_X4_quarrelsAt : Cond.code yX4_quarrelsAt cX4_quarrelsAt 9 (some .boolean) ∈ tb := tb_of (List.mem_of_getElem? (i := 557) (by decide +kernel)) rfl
theorem wl_L_154 : Cond.methodLink RL 154 yX4_change ∈ tb := tb_of (List.mem_of_getElem? (i := 558) (by decide +kernel)) rfl
theorem wi_X4_change : Cond.instanceMethod yX4_change ∈ tb := tb_of (List.mem_of_getElem? (i := 559) (by decide +kernel)) rfl
theorem wv_X4_change : Cond.selects RX4 yX4_change yX4_change ∈ tb := tb_of (List.mem_of_getElem? (i := 560) (by decide +kernel)) rfl
theorem wc_X4_change : Cond.code yX4_change cX4_change 10 (some .int) ∈ tb := tb_of (List.mem_of_getElem? (i := 561) (by decide +kernel)) rfl
theorem wl_X4_238 : Cond.methodLink RX4 238 yX0_becomeLike ∈ tb := tb_of (List.mem_of_getElem? (i := 562) (by decide +kernel)) rfl
theorem wi_X0_becomeLike : Cond.instanceMethod yX0_becomeLike ∈ tb := tb_of (List.mem_of_getElem? (i := 563) (by decide +kernel)) rfl
theorem wv_X0_becomeLike : Cond.selects RX0 yX0_becomeLike yX0_becomeLike ∈ tb := tb_of (List.mem_of_getElem? (i := 564) (by decide +kernel)) rfl
theorem wc_X0_becomeLike : Cond.code yX0_becomeLike cX0_becomeLike 2 none ∈ tb := tb_of (List.mem_of_getElem? (i := 565) (by decide +kernel)) rfl
theorem wl_X4_242 : Cond.methodLink RX4 242 yX4_quarrelsOnTrial ∈ tb := tb_of (List.mem_of_getElem? (i := 566) (by decide +kernel)) rfl
theorem wi_X4_quarrelsOnTrial : Cond.instanceMethod yX4_quarrelsOnTrial ∈ tb := tb_of (List.mem_of_getElem? (i := 568) (by decide +kernel)) rfl
theorem wc_X4_quarrelsOnTrial : Cond.code yX4_quarrelsOnTrial cX4_quarrelsOnTrial 5 (some .int) ∈ tb := tb_of (List.mem_of_getElem? (i := 569) (by decide +kernel)) rfl
theorem wl_L_158 : Cond.methodLink RL 158 yX4_rent ∈ tb := tb_of (List.mem_of_getElem? (i := 570) (by decide +kernel)) rfl
theorem wi_X4_rent : Cond.instanceMethod yX4_rent ∈ tb := tb_of (List.mem_of_getElem? (i := 571) (by decide +kernel)) rfl
theorem wv_X4_rent : Cond.selects RX4 yX4_rent yX4_rent ∈ tb := tb_of (List.mem_of_getElem? (i := 572) (by decide +kernel)) rfl
theorem wc_X4_rent : Cond.code yX4_rent cX4_rent 10 (some .int) ∈ tb := tb_of (List.mem_of_getElem? (i := 573) (by decide +kernel)) rfl
theorem wl_X4_246 : Cond.methodLink RX4 246 yX0_shortLength ∈ tb := tb_of (List.mem_of_getElem? (i := 574) (by decide +kernel)) rfl
theorem wl_X4_249 : Cond.constantLong RX4 249 (101) ∈ tb := tb_of (List.mem_of_getElem? (i := 575) (by decide +kernel)) rfl
theorem wl_X4_251 : Cond.methodLink RX4 251 yX4_tellFraction ∈ tb := tb_of (List.mem_of_getElem? (i := 576) (by decide +kernel)) rfl
theorem wi_X4_tellFraction : Cond.instanceMethod yX4_tellFraction ∈ tb := tb_of (List.mem_of_getElem? (i := 578) (by decide +kernel)) rfl
theorem wc_X4_tellFraction : Cond.code yX4_tellFraction cX4_tellFraction 7 none ∈ tb := tb_of (List.mem_of_getElem? (i := 579) (by decide +kernel)) rfl
theorem wl_X4_316 : Cond.methodLink RX4 316 yX4_commonDivisor ∈ tb := tb_of (List.mem_of_getElem? (i := 580) (by decide +kernel)) rfl
theorem ws_X4_commonDivisor : Cond.static yX4_commonDivisor ∈ tb := tb_of (List.mem_of_getElem? (i := 581) (by decide +kernel)) rfl
theorem wc_X4_commonDivisor : Cond.code yX4_commonDivisor cX4_commonDivisor 11 (some .long) ∈ tb := tb_of (List.mem_of_getElem? (i := 582) (by decide +kernel)) rfl
theorem wl_L_162 : Cond.methodLink RL 162 yX4_voyage ∈ tb := tb_of (List.mem_of_getElem? (i := 583) (by decide +kernel)) rfl
theorem wi_X4_voyage : Cond.instanceMethod yX4_voyage ∈ tb := tb_of (List.mem_of_getElem? (i := 584) (by decide +kernel)) rfl
theorem wv_X4_voyage : Cond.selects RX4 yX4_voyage yX4_voyage ∈ tb := tb_of (List.mem_of_getElem? (i := 585) (by decide +kernel)) rfl
theorem wc_X4_voyage : Cond.code yX4_voyage cX4_voyage 5 (some .int) ∈ tb := tb_of (List.mem_of_getElem? (i := 586) (by decide +kernel)) rfl
theorem wl_L_166 : Cond.methodLink RL 166 yX4_dated ∈ tb := tb_of (List.mem_of_getElem? (i := 587) (by decide +kernel)) rfl
theorem wi_X4_dated : Cond.instanceMethod yX4_dated ∈ tb := tb_of (List.mem_of_getElem? (i := 588) (by decide +kernel)) rfl
theorem wv_X4_dated : Cond.selects RX4 yX4_dated yX4_dated ∈ tb := tb_of (List.mem_of_getElem? (i := 589) (by decide +kernel)) rfl
theorem wc_X4_dated : Cond.code yX4_dated cX4_dated 7 (some .int) ∈ tb := tb_of (List.mem_of_getElem? (i := 590) (by decide +kernel)) rfl
theorem wl_L_170 : Cond.methodLink RL 170 yX4_kinds ∈ tb := tb_of (List.mem_of_getElem? (i := 591) (by decide +kernel)) rfl
theorem wi_X4_kinds : Cond.instanceMethod yX4_kinds ∈ tb := tb_of (List.mem_of_getElem? (i := 592) (by decide +kernel)) rfl
theorem wv_X4_kinds : Cond.selects RX4 yX4_kinds yX4_kinds ∈ tb := tb_of (List.mem_of_getElem? (i := 593) (by decide +kernel)) rfl
theorem wc_X4_kinds : Cond.code yX4_kinds cX4_kinds 6 (some .int) ∈ tb := tb_of (List.mem_of_getElem? (i := 594) (by decide +kernel)) rfl
theorem wl_X4_255 : Cond.methodLink RX4 255 yX4_areLetters ∈ tb := tb_of (List.mem_of_getElem? (i := 595) (by decide +kernel)) rfl
theorem ws_X4_areLetters : Cond.static yX4_areLetters ∈ tb := tb_of (List.mem_of_getElem? (i := 596) (by decide +kernel)) rfl
theorem wc_X4_areLetters : Cond.code yX4_areLetters cX4_areLetters 2 (some .boolean) ∈ tb := tb_of (List.mem_of_getElem? (i := 597) (by decide +kernel)) rfl
theorem wl_X4_261 : Cond.methodLink RX4 261 yX4_writesAll ∈ tb := tb_of (List.mem_of_getElem? (i := 598) (by decide +kernel)) rfl
theorem ws_X4_writesAll : Cond.static yX4_writesAll ∈ tb := tb_of (List.mem_of_getElem? (i := 599) (by decide +kernel)) rfl
theorem wc_X4_writesAll : Cond.code yX4_writesAll cX4_writesAll 3 (some .boolean) ∈ tb := tb_of (List.mem_of_getElem? (i := 600) (by decide +kernel)) rfl
theorem wl_L_174 : Cond.methodLink RL 174 yX4_moon ∈ tb := tb_of (List.mem_of_getElem? (i := 601) (by decide +kernel)) rfl
theorem wi_X4_moon : Cond.instanceMethod yX4_moon ∈ tb := tb_of (List.mem_of_getElem? (i := 602) (by decide +kernel)) rfl
theorem wv_X4_moon : Cond.selects RX4 yX4_moon yX4_moon ∈ tb := tb_of (List.mem_of_getElem? (i := 603) (by decide +kernel)) rfl
theorem wc_X4_moon : Cond.code yX4_moon cX4_moon 2 (some .int) ∈ tb := tb_of (List.mem_of_getElem? (i := 604) (by decide +kernel)) rfl
theorem wl_X4_265 : Cond.methodLink RX4 265 yX4_daysTillFull ∈ tb := tb_of (List.mem_of_getElem? (i := 605) (by decide +kernel)) rfl
theorem ws_X4_daysTillFull : Cond.static yX4_daysTillFull ∈ tb := tb_of (List.mem_of_getElem? (i := 606) (by decide +kernel)) rfl
theorem wc_X4_daysTillFull : Cond.code yX4_daysTillFull cX4_daysTillFull 2 (some .int) ∈ tb := tb_of (List.mem_of_getElem? (i := 607) (by decide +kernel)) rfl
theorem wl_L_178 : Cond.methodLink RL 178 yX4_feast ∈ tb := tb_of (List.mem_of_getElem? (i := 608) (by decide +kernel)) rfl
theorem wi_X4_feast : Cond.instanceMethod yX4_feast ∈ tb := tb_of (List.mem_of_getElem? (i := 609) (by decide +kernel)) rfl
theorem wv_X4_feast : Cond.selects RX4 yX4_feast yX4_feast ∈ tb := tb_of (List.mem_of_getElem? (i := 610) (by decide +kernel)) rfl
theorem wc_X4_feast : Cond.code yX4_feast cX4_feast 3 (some .int) ∈ tb := tb_of (List.mem_of_getElem? (i := 611) (by decide +kernel)) rfl
theorem wl_X4_268 : Cond.methodLink RX4 268 yX4_isFeastYear ∈ tb := tb_of (List.mem_of_getElem? (i := 612) (by decide +kernel)) rfl
theorem ws_X4_isFeastYear : Cond.static yX4_isFeastYear ∈ tb := tb_of (List.mem_of_getElem? (i := 613) (by decide +kernel)) rfl
theorem wc_X4_isFeastYear : Cond.code yX4_isFeastYear cX4_isFeastYear 1 (some .boolean) ∈ tb := tb_of (List.mem_of_getElem? (i := 614) (by decide +kernel)) rfl
theorem wl_X4_271 : Cond.methodLink RX4 271 yX4_feastOf ∈ tb := tb_of (List.mem_of_getElem? (i := 615) (by decide +kernel)) rfl
theorem ws_X4_feastOf : Cond.static yX4_feastOf ∈ tb := tb_of (List.mem_of_getElem? (i := 616) (by decide +kernel)) rfl
theorem wc_X4_feastOf : Cond.code yX4_feastOf cX4_feastOf 5 (some .int) ∈ tb := tb_of (List.mem_of_getElem? (i := 617) (by decide +kernel)) rfl
theorem wl_L_182 : Cond.methodLink RL 182 yX4_together ∈ tb := tb_of (List.mem_of_getElem? (i := 618) (by decide +kernel)) rfl
theorem wi_X4_together : Cond.instanceMethod yX4_together ∈ tb := tb_of (List.mem_of_getElem? (i := 619) (by decide +kernel)) rfl
theorem wv_X4_together : Cond.selects RX4 yX4_together yX4_together ∈ tb := tb_of (List.mem_of_getElem? (i := 620) (by decide +kernel)) rfl
theorem wc_X4_together : Cond.code yX4_together cX4_together 8 (some .int) ∈ tb := tb_of (List.mem_of_getElem? (i := 621) (by decide +kernel)) rfl
theorem wl_L_186 : Cond.methodLink RL 186 yX4_keeps ∈ tb := tb_of (List.mem_of_getElem? (i := 622) (by decide +kernel)) rfl
theorem wi_X4_keeps : Cond.instanceMethod yX4_keeps ∈ tb := tb_of (List.mem_of_getElem? (i := 623) (by decide +kernel)) rfl
theorem wv_X4_keeps : Cond.selects RX4 yX4_keeps yX4_keeps ∈ tb := tb_of (List.mem_of_getElem? (i := 624) (by decide +kernel)) rfl
theorem wc_X4_keeps : Cond.code yX4_keeps cX4_keeps 5 (some .int) ∈ tb := tb_of (List.mem_of_getElem? (i := 625) (by decide +kernel)) rfl
theorem wl_X4_275 : Cond.methodLink RX4 275 yX4_isPartOfDay ∈ tb := tb_of (List.mem_of_getElem? (i := 626) (by decide +kernel)) rfl
theorem ws_X4_isPartOfDay : Cond.static yX4_isPartOfDay ∈ tb := tb_of (List.mem_of_getElem? (i := 627) (by decide +kernel)) rfl
theorem wc_X4_isPartOfDay : Cond.code yX4_isPartOfDay cX4_isPartOfDay 1 (some .boolean) ∈ tb := tb_of (List.mem_of_getElem? (i := 628) (by decide +kernel)) rfl
theorem wl_X4_278 : Cond.methodLink RX4 278 yX4_firstYearOff ∈ tb := tb_of (List.mem_of_getElem? (i := 629) (by decide +kernel)) rfl
theorem ws_X4_firstYearOff : Cond.static yX4_firstYearOff ∈ tb := tb_of (List.mem_of_getElem? (i := 630) (by decide +kernel)) rfl
theorem wc_X4_firstYearOff : Cond.code yX4_firstYearOff cX4_firstYearOff 5 (some .int) ∈ tb := tb_of (List.mem_of_getElem? (i := 631) (by decide +kernel)) rfl
theorem wl_X4_320 : Cond.methodLink RX4 320 yX4_longYearsBefore ∈ tb := tb_of (List.mem_of_getElem? (i := 632) (by decide +kernel)) rfl
theorem wl_L_190 : Cond.methodLink RL 190 yX4_fails ∈ tb := tb_of (List.mem_of_getElem? (i := 633) (by decide +kernel)) rfl
theorem wi_X4_fails : Cond.instanceMethod yX4_fails ∈ tb := tb_of (List.mem_of_getElem? (i := 634) (by decide +kernel)) rfl
theorem wv_X4_fails : Cond.selects RX4 yX4_fails yX4_fails ∈ tb := tb_of (List.mem_of_getElem? (i := 635) (by decide +kernel)) rfl
theorem wc_X4_fails : Cond.code yX4_fails cX4_fails 4 (some .int) ∈ tb := tb_of (List.mem_of_getElem? (i := 636) (by decide +kernel)) rfl
theorem wl_L_194 : Cond.methodLink RL 194 yX4_lots ∈ tb := tb_of (List.mem_of_getElem? (i := 637) (by decide +kernel)) rfl
theorem wi_X4_lots : Cond.instanceMethod yX4_lots ∈ tb := tb_of (List.mem_of_getElem? (i := 638) (by decide +kernel)) rfl
theorem wv_X4_lots : Cond.selects RX4 yX4_lots yX4_lots ∈ tb := tb_of (List.mem_of_getElem? (i := 639) (by decide +kernel)) rfl
theorem wc_X4_lots : Cond.code yX4_lots cX4_lots 9 (some .int) ∈ tb := tb_of (List.mem_of_getElem? (i := 640) (by decide +kernel)) rfl
theorem wl_X4_282 : Cond.constant RX4 282 (2147483646) ∈ tb := tb_of (List.mem_of_getElem? (i := 641) (by decide +kernel)) rfl
theorem wl_X4_283 : Cond.constantLong RX4 283 (48271) ∈ tb := tb_of (List.mem_of_getElem? (i := 642) (by decide +kernel)) rfl
theorem wl_X4_285 : Cond.constantLong RX4 285 (2147483647) ∈ tb := tb_of (List.mem_of_getElem? (i := 643) (by decide +kernel)) rfl
theorem wl_X4_287 : Cond.constantLong RX4 287 (20000) ∈ tb := tb_of (List.mem_of_getElem? (i := 644) (by decide +kernel)) rfl
theorem wl_L_198 : Cond.methodLink RL 198 yX4_asked ∈ tb := tb_of (List.mem_of_getElem? (i := 645) (by decide +kernel)) rfl
theorem wi_X4_asked : Cond.instanceMethod yX4_asked ∈ tb := tb_of (List.mem_of_getElem? (i := 646) (by decide +kernel)) rfl
theorem wv_X4_asked : Cond.selects RX4 yX4_asked yX4_asked ∈ tb := tb_of (List.mem_of_getElem? (i := 647) (by decide +kernel)) rfl
theorem wc_X4_asked : Cond.code yX4_asked cX4_asked 1 (some .int) ∈ tb := tb_of (List.mem_of_getElem? (i := 648) (by decide +kernel)) rfl
theorem wl_L_203 : Cond.methodLink RL 203 yX4_upper ∈ tb := tb_of (List.mem_of_getElem? (i := 649) (by decide +kernel)) rfl
theorem wi_X4_upper : Cond.instanceMethod yX4_upper ∈ tb := tb_of (List.mem_of_getElem? (i := 650) (by decide +kernel)) rfl
theorem wv_X4_upper : Cond.selects RX4 yX4_upper yX4_upper ∈ tb := tb_of (List.mem_of_getElem? (i := 651) (by decide +kernel)) rfl
theorem wc_X4_upper : Cond.code yX4_upper cX4_upper 1 (some .long) ∈ tb := tb_of (List.mem_of_getElem? (i := 652) (by decide +kernel)) rfl
theorem wl_L_208 : Cond.methodLink RL 208 yX4_lower ∈ tb := tb_of (List.mem_of_getElem? (i := 653) (by decide +kernel)) rfl
theorem wi_X4_lower : Cond.instanceMethod yX4_lower ∈ tb := tb_of (List.mem_of_getElem? (i := 654) (by decide +kernel)) rfl
theorem wv_X4_lower : Cond.selects RX4 yX4_lower yX4_lower ∈ tb := tb_of (List.mem_of_getElem? (i := 655) (by decide +kernel)) rfl
theorem wc_X4_lower : Cond.code yX4_lower cX4_lower 1 (some .long) ∈ tb := tb_of (List.mem_of_getElem? (i := 656) (by decide +kernel)) rfl
theorem wl_L_212 : Cond.methodLink RL 212 yX4_count ∈ tb := tb_of (List.mem_of_getElem? (i := 657) (by decide +kernel)) rfl
theorem wi_X4_count : Cond.instanceMethod yX4_count ∈ tb := tb_of (List.mem_of_getElem? (i := 658) (by decide +kernel)) rfl
theorem wv_X4_count : Cond.selects RX4 yX4_count yX4_count ∈ tb := tb_of (List.mem_of_getElem? (i := 659) (by decide +kernel)) rfl
theorem wc_X4_count : Cond.code yX4_count cX4_count 2 (some .int) ∈ tb := tb_of (List.mem_of_getElem? (i := 660) (by decide +kernel)) rfl
theorem wl_X4_289 : Cond.methodLink RX4 289 yX4_townsOf ∈ tb := tb_of (List.mem_of_getElem? (i := 661) (by decide +kernel)) rfl
theorem wi_X4_townsOf : Cond.instanceMethod yX4_townsOf ∈ tb := tb_of (List.mem_of_getElem? (i := 663) (by decide +kernel)) rfl
theorem wc_X4_townsOf : Cond.code yX4_townsOf cX4_townsOf 4 (some .int) ∈ tb := tb_of (List.mem_of_getElem? (i := 664) (by decide +kernel)) rfl
theorem wl_X4_292 : Cond.methodLink RX4 292 yX4_rowsThere ∈ tb := tb_of (List.mem_of_getElem? (i := 665) (by decide +kernel)) rfl
theorem wi_X4_rowsThere : Cond.instanceMethod yX4_rowsThere ∈ tb := tb_of (List.mem_of_getElem? (i := 667) (by decide +kernel)) rfl
theorem wc_X4_rowsThere : Cond.code yX4_rowsThere cX4_rowsThere 3 (some .int) ∈ tb := tb_of (List.mem_of_getElem? (i := 668) (by decide +kernel)) rfl
theorem wl_X4_295 : Cond.methodLink RX4 295 yX4_textsThere ∈ tb := tb_of (List.mem_of_getElem? (i := 669) (by decide +kernel)) rfl
theorem wi_X4_textsThere : Cond.instanceMethod yX4_textsThere ∈ tb := tb_of (List.mem_of_getElem? (i := 671) (by decide +kernel)) rfl
theorem wc_X4_textsThere : Cond.code yX4_textsThere cX4_textsThere 3 (some .int) ∈ tb := tb_of (List.mem_of_getElem? (i := 672) (by decide +kernel)) rfl
theorem wl_X4_298 : Cond.methodLink RX4 298 yX4_almanacsKept ∈ tb := tb_of (List.mem_of_getElem? (i := 673) (by decide +kernel)) rfl
theorem wi_X4_almanacsKept : Cond.instanceMethod yX4_almanacsKept ∈ tb := tb_of (List.mem_of_getElem? (i := 675) (by decide +kernel)) rfl
theorem wc_X4_almanacsKept : Cond.code yX4_almanacsKept cX4_almanacsKept 3 (some .int) ∈ tb := tb_of (List.mem_of_getElem? (i := 676) (by decide +kernel)) rfl
theorem wl_L_216 : Cond.methodLink RL 216 yX4_finding ∈ tb := tb_of (List.mem_of_getElem? (i := 677) (by decide +kernel)) rfl
theorem wi_X4_finding : Cond.instanceMethod yX4_finding ∈ tb := tb_of (List.mem_of_getElem? (i := 678) (by decide +kernel)) rfl
theorem wv_X4_finding : Cond.selects RX4 yX4_finding yX4_finding ∈ tb := tb_of (List.mem_of_getElem? (i := 679) (by decide +kernel)) rfl
theorem wc_X4_finding : Cond.code yX4_finding cX4_finding 1 (some .int) ∈ tb := tb_of (List.mem_of_getElem? (i := 680) (by decide +kernel)) rfl
theorem wl_L_220 : Cond.methodLink RL 220 yX4_findings ∈ tb := tb_of (List.mem_of_getElem? (i := 681) (by decide +kernel)) rfl
theorem wi_X4_findings : Cond.instanceMethod yX4_findings ∈ tb := tb_of (List.mem_of_getElem? (i := 682) (by decide +kernel)) rfl
theorem wv_X4_findings : Cond.selects RX4 yX4_findings yX4_findings ∈ tb := tb_of (List.mem_of_getElem? (i := 683) (by decide +kernel)) rfl
theorem wc_X4_findings : Cond.code yX4_findings cX4_findings 2 (some .int) ∈ tb := tb_of (List.mem_of_getElem? (i := 684) (by decide +kernel)) rfl
theorem wl_L_224 : Cond.methodLink RL 224 yX4_digest ∈ tb := tb_of (List.mem_of_getElem? (i := 685) (by decide +kernel)) rfl
theorem wi_X4_digest : Cond.instanceMethod yX4_digest ∈ tb := tb_of (List.mem_of_getElem? (i := 686) (by decide +kernel)) rfl
theorem wv_X4_digest : Cond.selects RX4 yX4_digest yX4_digest ∈ tb := tb_of (List.mem_of_getElem? (i := 687) (by decide +kernel)) rfl
theorem wc_X4_digest : Cond.code yX4_digest cX4_digest 5 (some .long) ∈ tb := tb_of (List.mem_of_getElem? (i := 688) (by decide +kernel)) rfl
theorem wl_X4_301 : Cond.constantLong RX4 301 (17) ∈ tb := tb_of (List.mem_of_getElem? (i := 689) (by decide +kernel)) rfl
theorem wl_X4_303 : Cond.constantLong RX4 303 (31) ∈ tb := tb_of (List.mem_of_getElem? (i := 690) (by decide +kernel)) rfl
theorem wl_X4_305 : Cond.methodLink RX4 305 yX4_count ∈ tb := tb_of (List.mem_of_getElem? (i := 691) (by decide +kernel)) rfl
theorem wl_X4_308 : Cond.methodLink RX4 308 yX2_digestFrom ∈ tb := tb_of (List.mem_of_getElem? (i := 692) (by decide +kernel)) rfl
theorem wi_X2_digestFrom : Cond.instanceMethod yX2_digestFrom ∈ tb := tb_of (List.mem_of_getElem? (i := 693) (by decide +kernel)) rfl
theorem wv_X2_digestFrom : Cond.selects RX2 yX2_digestFrom yX2_digestFrom ∈ tb := tb_of (List.mem_of_getElem? (i := 694) (by decide +kernel)) rfl
theorem wc_X2_digestFrom : Cond.code yX2_digestFrom cX2_digestFrom 6 (some .long) ∈ tb := tb_of (List.mem_of_getElem? (i := 695) (by decide +kernel)) rfl
theorem wl_X2_19 : Cond.constantLong RX2 19 (31) ∈ tb := tb_of (List.mem_of_getElem? (i := 696) (by decide +kernel)) rfl
theorem wl_X4_312 : Cond.methodLink RX4 312 yX3_digestFrom ∈ tb := tb_of (List.mem_of_getElem? (i := 697) (by decide +kernel)) rfl
theorem wi_X3_digestFrom : Cond.instanceMethod yX3_digestFrom ∈ tb := tb_of (List.mem_of_getElem? (i := 698) (by decide +kernel)) rfl
theorem wv_X3_digestFrom : Cond.selects RX3 yX3_digestFrom yX3_digestFrom ∈ tb := tb_of (List.mem_of_getElem? (i := 699) (by decide +kernel)) rfl
theorem wc_X3_digestFrom : Cond.code yX3_digestFrom cX3_digestFrom 6 (some .long) ∈ tb := tb_of (List.mem_of_getElem? (i := 700) (by decide +kernel)) rfl
theorem wl_X3_62 : Cond.constantLong RX3 62 (31) ∈ tb := tb_of (List.mem_of_getElem? (i := 701) (by decide +kernel)) rfl
theorem wl_L_10 : Cond.classLink RL 10 "LostDaysModel" ∈ tb := tb_of (List.mem_of_getElem? (i := 702) (by decide +kernel)) rfl
theorem wz_X5 : Cond.instantiable RX5 25 ∈ tb := tb_of (List.mem_of_getElem? (i := 703) (by decide +kernel)) rfl
theorem wl_L_12 : Cond.methodLink RL 12 yX5_init ∈ tb := tb_of (List.mem_of_getElem? (i := 704) (by decide +kernel)) rfl
theorem wi_X5_init : Cond.instanceMethod yX5_init ∈ tb := tb_of (List.mem_of_getElem? (i := 705) (by decide +kernel)) rfl
theorem wc_X5_init : Cond.code yX5_init cX5_init 2 none ∈ tb := tb_of (List.mem_of_getElem? (i := 706) (by decide +kernel)) rfl
theorem wl_X5_1 : Cond.methodLink RX5 1 ⟨"java/lang/Object", "<init>", "()V"⟩ ∈ tb := tb_of (List.mem_of_getElem? (i := 707) (by decide +kernel)) rfl
theorem wl_X5_50 : Cond.fieldLink RX5 50 "LostDaysModel" "finding" "I" ∈ tb := tb_of (List.mem_of_getElem? (i := 708) (by decide +kernel)) rfl
theorem wl_X5_7 : Cond.fieldLink RX5 7 "LostDaysModel" "findings" "[I" ∈ tb := tb_of (List.mem_of_getElem? (i := 709) (by decide +kernel)) rfl
theorem wl_X5_54 : Cond.fieldLink RX5 54 "LostDaysModel" "asked" "I" ∈ tb := tb_of (List.mem_of_getElem? (i := 710) (by decide +kernel)) rfl
theorem wl_X5_57 : Cond.fieldLink RX5 57 "LostDaysModel" "upper" "J" ∈ tb := tb_of (List.mem_of_getElem? (i := 711) (by decide +kernel)) rfl
theorem wl_X5_13 : Cond.fieldLink RX5 13 "LostDaysModel" "lower" "J" ∈ tb := tb_of (List.mem_of_getElem? (i := 712) (by decide +kernel)) rfl
theorem wl_X5_17 : Cond.fieldLink RX5 17 "LostDaysModel" "sizes" "[I" ∈ tb := tb_of (List.mem_of_getElem? (i := 713) (by decide +kernel)) rfl
theorem wl_X5_20 : Cond.fieldLink RX5 20 "LostDaysModel" "rows" "[I" ∈ tb := tb_of (List.mem_of_getElem? (i := 714) (by decide +kernel)) rfl
theorem wl_X5_23 : Cond.fieldLink RX5 23 "LostDaysModel" "moving" "[I" ∈ tb := tb_of (List.mem_of_getElem? (i := 715) (by decide +kernel)) rfl
theorem wl_X5_26 : Cond.fieldLink RX5 26 "LostDaysModel" "lengths" "[I" ∈ tb := tb_of (List.mem_of_getElem? (i := 716) (by decide +kernel)) rfl
theorem wl_X5_29 : Cond.fieldLink RX5 29 "LostDaysModel" "texts" "[I" ∈ tb := tb_of (List.mem_of_getElem? (i := 717) (by decide +kernel)) rfl
theorem wl_X5_116 : Cond.fieldLink RX5 116 "LostDaysModel" "many" "I" ∈ tb := tb_of (List.mem_of_getElem? (i := 718) (by decide +kernel)) rfl
theorem wl_X5_119 : Cond.fieldLink RX5 119 "LostDaysModel" "today" "I" ∈ tb := tb_of (List.mem_of_getElem? (i := 719) (by decide +kernel)) rfl
theorem wl_X5_32 : Cond.fieldLink RX5 32 "LostDaysModel" "kindOf" "[I" ∈ tb := tb_of (List.mem_of_getElem? (i := 720) (by decide +kernel)) rfl
theorem wl_X5_35 : Cond.fieldLink RX5 35 "LostDaysModel" "leapOf" "[I" ∈ tb := tb_of (List.mem_of_getElem? (i := 721) (by decide +kernel)) rfl
theorem wl_X5_38 : Cond.fieldLink RX5 38 "LostDaysModel" "orderOf" "[I" ∈ tb := tb_of (List.mem_of_getElem? (i := 722) (by decide +kernel)) rfl
theorem wl_X5_41 : Cond.fieldLink RX5 41 "LostDaysModel" "gapOf" "[I" ∈ tb := tb_of (List.mem_of_getElem? (i := 723) (by decide +kernel)) rfl
theorem wl_X5_95 : Cond.fieldLink RX5 95 "LostDaysModel" "readAt" "I" ∈ tb := tb_of (List.mem_of_getElem? (i := 724) (by decide +kernel)) rfl
theorem wl_X5_104 : Cond.fieldLink RX5 104 "LostDaysModel" "readMany" "I" ∈ tb := tb_of (List.mem_of_getElem? (i := 725) (by decide +kernel)) rfl
theorem wl_X5_44 : Cond.fieldLink RX5 44 "LostDaysModel" "read" "[I" ∈ tb := tb_of (List.mem_of_getElem? (i := 726) (by decide +kernel)) rfl
theorem wl_X5_125 : Cond.fieldLink RX5 125 "LostDaysModel" "kind" "I" ∈ tb := tb_of (List.mem_of_getElem? (i := 727) (by decide +kernel)) rfl
theorem wl_X5_128 : Cond.fieldLink RX5 128 "LostDaysModel" "leap" "I" ∈ tb := tb_of (List.mem_of_getElem? (i := 728) (by decide +kernel)) rfl
theorem wl_X5_131 : Cond.fieldLink RX5 131 "LostDaysModel" "order" "I" ∈ tb := tb_of (List.mem_of_getElem? (i := 729) (by decide +kernel)) rfl
theorem wl_X5_134 : Cond.fieldLink RX5 134 "LostDaysModel" "gap" "I" ∈ tb := tb_of (List.mem_of_getElem? (i := 730) (by decide +kernel)) rfl
theorem wl_X5_47 : Cond.fieldLink RX5 47 "LostDaysModel" "kept" "[I" ∈ tb := tb_of (List.mem_of_getElem? (i := 731) (by decide +kernel)) rfl
theorem wl_X5_245 : Cond.fieldLink RX5 245 "LostDaysModel" "h0" "J" ∈ tb := tb_of (List.mem_of_getElem? (i := 732) (by decide +kernel)) rfl
theorem wl_L_17 : Cond.methodLink RL 17 yX5_row ∈ tb := tb_of (List.mem_of_getElem? (i := 784) (by decide +kernel)) rfl
theorem wi_X5_row : Cond.instanceMethod yX5_row ∈ tb := tb_of (List.mem_of_getElem? (i := 785) (by decide +kernel)) rfl
theorem wv_X5_row : Cond.selects RX5 yX5_row yX5_row ∈ tb := tb_of (List.mem_of_getElem? (i := 786) (by decide +kernel)) rfl
theorem wc_X5_row : Cond.code yX5_row cX5_row 4 (some .int) ∈ tb := tb_of (List.mem_of_getElem? (i := 787) (by decide +kernel)) rfl
theorem wl_X5_64 : Cond.methodLink RX5 64 yX5_isRow ∈ tb := tb_of (List.mem_of_getElem? (i := 788) (by decide +kernel)) rfl
theorem ws_X5_isRow : Cond.static yX5_isRow ∈ tb := tb_of (List.mem_of_getElem? (i := 789) (by decide +kernel)) rfl
theorem wc_X5_isRow : Cond.code yX5_isRow cX5_isRow 1 (some .boolean) ∈ tb := tb_of (List.mem_of_getElem? (i := 790) (by decide +kernel)) rfl
theorem wl_X5_60 : Cond.methodLink RX5 60 yX5_in ∈ tb := tb_of (List.mem_of_getElem? (i := 791) (by decide +kernel)) rfl
theorem ws_X5_in : Cond.static yX5_in ∈ tb := tb_of (List.mem_of_getElem? (i := 792) (by decide +kernel)) rfl
theorem wc_X5_in : Cond.code yX5_in cX5_in 3 (some .boolean) ∈ tb := tb_of (List.mem_of_getElem? (i := 793) (by decide +kernel)) rfl
theorem wl_X5_68 : Cond.methodLink RX5 68 yX5_meet ∈ tb := tb_of (List.mem_of_getElem? (i := 794) (by decide +kernel)) rfl
theorem wi_X5_meet : Cond.instanceMethod yX5_meet ∈ tb := tb_of (List.mem_of_getElem? (i := 796) (by decide +kernel)) rfl
theorem wc_X5_meet : Cond.code yX5_meet cX5_meet 2 (some .int) ∈ tb := tb_of (List.mem_of_getElem? (i := 797) (by decide +kernel)) rfl
theorem wl_X5_75 : Cond.methodLink RX5 75 yX5_setRow ∈ tb := tb_of (List.mem_of_getElem? (i := 798) (by decide +kernel)) rfl
theorem wi_X5_setRow : Cond.instanceMethod yX5_setRow ∈ tb := tb_of (List.mem_of_getElem? (i := 800) (by decide +kernel)) rfl
theorem wc_X5_setRow : Cond.code yX5_setRow cX5_setRow 4 none ∈ tb := tb_of (List.mem_of_getElem? (i := 801) (by decide +kernel)) rfl
theorem wl_L_26 : Cond.methodLink RL 26 yX5_at ∈ tb := tb_of (List.mem_of_getElem? (i := 802) (by decide +kernel)) rfl
theorem wi_X5_at : Cond.instanceMethod yX5_at ∈ tb := tb_of (List.mem_of_getElem? (i := 803) (by decide +kernel)) rfl
theorem wv_X5_at : Cond.selects RX5 yX5_at yX5_at ∈ tb := tb_of (List.mem_of_getElem? (i := 804) (by decide +kernel)) rfl
theorem wc_X5_at : Cond.code yX5_at cX5_at 4 (some .int) ∈ tb := tb_of (List.mem_of_getElem? (i := 805) (by decide +kernel)) rfl
theorem wl_X5_79 : Cond.methodLink RX5 79 yX5_askedRow ∈ tb := tb_of (List.mem_of_getElem? (i := 806) (by decide +kernel)) rfl
theorem wi_X5_askedRow : Cond.instanceMethod yX5_askedRow ∈ tb := tb_of (List.mem_of_getElem? (i := 808) (by decide +kernel)) rfl
theorem wc_X5_askedRow : Cond.code yX5_askedRow cX5_askedRow 2 (some .int) ∈ tb := tb_of (List.mem_of_getElem? (i := 809) (by decide +kernel)) rfl
theorem wl_X5_82 : Cond.methodLink RX5 82 yX5_rowAt ∈ tb := tb_of (List.mem_of_getElem? (i := 810) (by decide +kernel)) rfl
theorem wi_X5_rowAt : Cond.instanceMethod yX5_rowAt ∈ tb := tb_of (List.mem_of_getElem? (i := 812) (by decide +kernel)) rfl
theorem wc_X5_rowAt : Cond.code yX5_rowAt cX5_rowAt 3 (some .int) ∈ tb := tb_of (List.mem_of_getElem? (i := 813) (by decide +kernel)) rfl
theorem wl_X5_86 : Cond.methodLink RX5 86 yX5_ask ∈ tb := tb_of (List.mem_of_getElem? (i := 814) (by decide +kernel)) rfl
theorem wi_X5_ask : Cond.instanceMethod yX5_ask ∈ tb := tb_of (List.mem_of_getElem? (i := 816) (by decide +kernel)) rfl
theorem wc_X5_ask : Cond.code yX5_ask cX5_ask 3 (some .int) ∈ tb := tb_of (List.mem_of_getElem? (i := 817) (by decide +kernel)) rfl
theorem wl_L_22 : Cond.methodLink RL 22 yX5_lay ∈ tb := tb_of (List.mem_of_getElem? (i := 818) (by decide +kernel)) rfl
theorem wi_X5_lay : Cond.instanceMethod yX5_lay ∈ tb := tb_of (List.mem_of_getElem? (i := 819) (by decide +kernel)) rfl
theorem wv_X5_lay : Cond.selects RX5 yX5_lay yX5_lay ∈ tb := tb_of (List.mem_of_getElem? (i := 820) (by decide +kernel)) rfl
theorem wc_X5_lay : Cond.code yX5_lay cX5_lay 5 (some .int) ∈ tb := tb_of (List.mem_of_getElem? (i := 821) (by decide +kernel)) rfl
theorem wl_X5_89 : Cond.methodLink RX5 89 yX5_at ∈ tb := tb_of (List.mem_of_getElem? (i := 822) (by decide +kernel)) rfl
theorem wl_L_31 : Cond.methodLink RL 31 yX5_tear ∈ tb := tb_of (List.mem_of_getElem? (i := 823) (by decide +kernel)) rfl
theorem wi_X5_tear : Cond.instanceMethod yX5_tear ∈ tb := tb_of (List.mem_of_getElem? (i := 824) (by decide +kernel)) rfl
theorem wv_X5_tear : Cond.selects RX5 yX5_tear yX5_tear ∈ tb := tb_of (List.mem_of_getElem? (i := 825) (by decide +kernel)) rfl
theorem wc_X5_tear : Cond.code yX5_tear cX5_tear 3 (some .int) ∈ tb := tb_of (List.mem_of_getElem? (i := 826) (by decide +kernel)) rfl
theorem wl_L_36 : Cond.methodLink RL 36 yX5_copy ∈ tb := tb_of (List.mem_of_getElem? (i := 827) (by decide +kernel)) rfl
theorem wi_X5_copy : Cond.instanceMethod yX5_copy ∈ tb := tb_of (List.mem_of_getElem? (i := 828) (by decide +kernel)) rfl
theorem wv_X5_copy : Cond.selects RX5 yX5_copy yX5_copy ∈ tb := tb_of (List.mem_of_getElem? (i := 829) (by decide +kernel)) rfl
theorem wc_X5_copy : Cond.code yX5_copy cX5_copy 7 (some .int) ∈ tb := tb_of (List.mem_of_getElem? (i := 830) (by decide +kernel)) rfl
theorem wl_L_40 : Cond.methodLink RL 40 yX5_mean ∈ tb := tb_of (List.mem_of_getElem? (i := 831) (by decide +kernel)) rfl
theorem wi_X5_mean : Cond.instanceMethod yX5_mean ∈ tb := tb_of (List.mem_of_getElem? (i := 832) (by decide +kernel)) rfl
theorem wv_X5_mean : Cond.selects RX5 yX5_mean yX5_mean ∈ tb := tb_of (List.mem_of_getElem? (i := 833) (by decide +kernel)) rfl
theorem wc_X5_mean : Cond.code yX5_mean cX5_mean 6 (some .int) ∈ tb := tb_of (List.mem_of_getElem? (i := 834) (by decide +kernel)) rfl
theorem wl_L_44 : Cond.methodLink RL 44 yX5_text ∈ tb := tb_of (List.mem_of_getElem? (i := 835) (by decide +kernel)) rfl
theorem wi_X5_text : Cond.instanceMethod yX5_text ∈ tb := tb_of (List.mem_of_getElem? (i := 836) (by decide +kernel)) rfl
theorem wv_X5_text : Cond.selects RX5 yX5_text yX5_text ∈ tb := tb_of (List.mem_of_getElem? (i := 837) (by decide +kernel)) rfl
theorem wc_X5_text : Cond.code yX5_text cX5_text 4 (some .int) ∈ tb := tb_of (List.mem_of_getElem? (i := 838) (by decide +kernel)) rfl
theorem wl_X5_72 : Cond.methodLink RX5 72 yX5_isText ∈ tb := tb_of (List.mem_of_getElem? (i := 839) (by decide +kernel)) rfl
theorem ws_X5_isText : Cond.static yX5_isText ∈ tb := tb_of (List.mem_of_getElem? (i := 840) (by decide +kernel)) rfl
theorem wc_X5_isText : Cond.code yX5_isText cX5_isText 1 (some .boolean) ∈ tb := tb_of (List.mem_of_getElem? (i := 841) (by decide +kernel)) rfl
theorem wl_L_48 : Cond.methodLink RL 48 yX5_put ∈ tb := tb_of (List.mem_of_getElem? (i := 842) (by decide +kernel)) rfl
theorem wi_X5_put : Cond.instanceMethod yX5_put ∈ tb := tb_of (List.mem_of_getElem? (i := 843) (by decide +kernel)) rfl
theorem wv_X5_put : Cond.selects RX5 yX5_put yX5_put ∈ tb := tb_of (List.mem_of_getElem? (i := 844) (by decide +kernel)) rfl
theorem wc_X5_put : Cond.code yX5_put cX5_put 6 (some .int) ∈ tb := tb_of (List.mem_of_getElem? (i := 845) (by decide +kernel)) rfl
theorem wl_X5_92 : Cond.methodLink RX5 92 yX5_askedText ∈ tb := tb_of (List.mem_of_getElem? (i := 846) (by decide +kernel)) rfl
theorem wi_X5_askedText : Cond.instanceMethod yX5_askedText ∈ tb := tb_of (List.mem_of_getElem? (i := 848) (by decide +kernel)) rfl
theorem wc_X5_askedText : Cond.code yX5_askedText cX5_askedText 2 (some .int) ∈ tb := tb_of (List.mem_of_getElem? (i := 849) (by decide +kernel)) rfl
theorem wl_L_52 : Cond.methodLink RL 52 yX5_fault ∈ tb := tb_of (List.mem_of_getElem? (i := 850) (by decide +kernel)) rfl
theorem wi_X5_fault : Cond.instanceMethod yX5_fault ∈ tb := tb_of (List.mem_of_getElem? (i := 851) (by decide +kernel)) rfl
theorem wv_X5_fault : Cond.selects RX5 yX5_fault yX5_fault ∈ tb := tb_of (List.mem_of_getElem? (i := 852) (by decide +kernel)) rfl
theorem wc_X5_fault : Cond.code yX5_fault cX5_fault 3 (some .int) ∈ tb := tb_of (List.mem_of_getElem? (i := 853) (by decide +kernel)) rfl
theorem wl_X5_113 : Cond.methodLink RX5 113 yX5_goesOn ∈ tb := tb_of (List.mem_of_getElem? (i := 854) (by decide +kernel)) rfl
theorem wi_X5_goesOn : Cond.instanceMethod yX5_goesOn ∈ tb := tb_of (List.mem_of_getElem? (i := 856) (by decide +kernel)) rfl
theorem wc_X5_goesOn : Cond.code yX5_goesOn cX5_goesOn 2 (some .int) ∈ tb := tb_of (List.mem_of_getElem? (i := 857) (by decide +kernel)) rfl
theorem wl_X5_98 : Cond.methodLink RX5 98 yX5_here ∈ tb := tb_of (List.mem_of_getElem? (i := 858) (by decide +kernel)) rfl
theorem wi_X5_here : Cond.instanceMethod yX5_here ∈ tb := tb_of (List.mem_of_getElem? (i := 860) (by decide +kernel)) rfl
theorem wc_X5_here : Cond.code yX5_here cX5_here 2 (some .int) ∈ tb := tb_of (List.mem_of_getElem? (i := 861) (by decide +kernel)) rfl
theorem wl_X5_110 : Cond.methodLink RX5 110 yX5_readsTown ∈ tb := tb_of (List.mem_of_getElem? (i := 862) (by decide +kernel)) rfl
theorem wi_X5_readsTown : Cond.instanceMethod yX5_readsTown ∈ tb := tb_of (List.mem_of_getElem? (i := 864) (by decide +kernel)) rfl
theorem wc_X5_readsTown : Cond.code yX5_readsTown cX5_readsTown 6 (some .boolean) ∈ tb := tb_of (List.mem_of_getElem? (i := 865) (by decide +kernel)) rfl
theorem wl_X5_101 : Cond.methodLink RX5 101 yX5_kindBy ∈ tb := tb_of (List.mem_of_getElem? (i := 866) (by decide +kernel)) rfl
theorem ws_X5_kindBy : Cond.static yX5_kindBy ∈ tb := tb_of (List.mem_of_getElem? (i := 867) (by decide +kernel)) rfl
theorem wc_X5_kindBy : Cond.code yX5_kindBy cX5_kindBy 1 (some .int) ∈ tb := tb_of (List.mem_of_getElem? (i := 868) (by decide +kernel)) rfl
theorem wl_X5_107 : Cond.methodLink RX5 107 yX5_figure ∈ tb := tb_of (List.mem_of_getElem? (i := 869) (by decide +kernel)) rfl
theorem wi_X5_figure : Cond.instanceMethod yX5_figure ∈ tb := tb_of (List.mem_of_getElem? (i := 871) (by decide +kernel)) rfl
theorem wc_X5_figure : Cond.code yX5_figure cX5_figure 4 (some .int) ∈ tb := tb_of (List.mem_of_getElem? (i := 872) (by decide +kernel)) rfl
theorem wl_L_56 : Cond.methodLink RL 56 yX5_almanac ∈ tb := tb_of (List.mem_of_getElem? (i := 873) (by decide +kernel)) rfl
theorem wi_X5_almanac : Cond.instanceMethod yX5_almanac ∈ tb := tb_of (List.mem_of_getElem? (i := 874) (by decide +kernel)) rfl
theorem wv_X5_almanac : Cond.selects RX5 yX5_almanac yX5_almanac ∈ tb := tb_of (List.mem_of_getElem? (i := 875) (by decide +kernel)) rfl
theorem wc_X5_almanac : Cond.code yX5_almanac cX5_almanac 4 (some .int) ∈ tb := tb_of (List.mem_of_getElem? (i := 876) (by decide +kernel)) rfl
theorem wl_L_60 : Cond.methodLink RL 60 yX5_town ∈ tb := tb_of (List.mem_of_getElem? (i := 877) (by decide +kernel)) rfl
theorem wi_X5_town : Cond.instanceMethod yX5_town ∈ tb := tb_of (List.mem_of_getElem? (i := 878) (by decide +kernel)) rfl
theorem wv_X5_town : Cond.selects RX5 yX5_town yX5_town ∈ tb := tb_of (List.mem_of_getElem? (i := 879) (by decide +kernel)) rfl
theorem wc_X5_town : Cond.code yX5_town cX5_town 3 (some .int) ∈ tb := tb_of (List.mem_of_getElem? (i := 880) (by decide +kernel)) rfl
theorem wl_X5_169 : Cond.methodLink RX5 169 yX5_isTown ∈ tb := tb_of (List.mem_of_getElem? (i := 881) (by decide +kernel)) rfl
theorem wi_X5_isTown : Cond.instanceMethod yX5_isTown ∈ tb := tb_of (List.mem_of_getElem? (i := 883) (by decide +kernel)) rfl
theorem wc_X5_isTown : Cond.code yX5_isTown cX5_isTown 2 (some .boolean) ∈ tb := tb_of (List.mem_of_getElem? (i := 884) (by decide +kernel)) rfl
theorem wl_X5_172 : Cond.methodLink RX5 172 yX5_townOf ∈ tb := tb_of (List.mem_of_getElem? (i := 885) (by decide +kernel)) rfl
theorem wi_X5_townOf : Cond.instanceMethod yX5_townOf ∈ tb := tb_of (List.mem_of_getElem? (i := 887) (by decide +kernel)) rfl
theorem wc_X5_townOf : Cond.code yX5_townOf cX5_townOf 3 (some .int) ∈ tb := tb_of (List.mem_of_getElem? (i := 888) (by decide +kernel)) rfl
theorem wl_X5_166 : Cond.methodLink RX5 166 yX5_dateIn ∈ tb := tb_of (List.mem_of_getElem? (i := 889) (by decide +kernel)) rfl
theorem wi_X5_dateIn : Cond.instanceMethod yX5_dateIn ∈ tb := tb_of (List.mem_of_getElem? (i := 891) (by decide +kernel)) rfl
theorem wc_X5_dateIn : Cond.code yX5_dateIn cX5_dateIn 3 (some .int) ∈ tb := tb_of (List.mem_of_getElem? (i := 892) (by decide +kernel)) rfl
theorem wl_X5_141 : Cond.methodLink RX5 141 yX5_take ∈ tb := tb_of (List.mem_of_getElem? (i := 893) (by decide +kernel)) rfl
theorem wi_X5_take : Cond.instanceMethod yX5_take ∈ tb := tb_of (List.mem_of_getElem? (i := 895) (by decide +kernel)) rfl
theorem wc_X5_take : Cond.code yX5_take cX5_take 2 none ∈ tb := tb_of (List.mem_of_getElem? (i := 896) (by decide +kernel)) rfl
theorem wl_X5_157 : Cond.methodLink RX5 157 yX5_dateOfDay ∈ tb := tb_of (List.mem_of_getElem? (i := 897) (by decide +kernel)) rfl
theorem wi_X5_dateOfDay : Cond.instanceMethod yX5_dateOfDay ∈ tb := tb_of (List.mem_of_getElem? (i := 899) (by decide +kernel)) rfl
theorem wc_X5_dateOfDay : Cond.code yX5_dateOfDay cX5_dateOfDay 2 (some .int) ∈ tb := tb_of (List.mem_of_getElem? (i := 900) (by decide +kernel)) rfl
theorem wl_X5_145 : Cond.methodLink RX5 145 yX5_countOfDay ∈ tb := tb_of (List.mem_of_getElem? (i := 901) (by decide +kernel)) rfl
theorem wi_X5_countOfDay : Cond.instanceMethod yX5_countOfDay ∈ tb := tb_of (List.mem_of_getElem? (i := 903) (by decide +kernel)) rfl
theorem wc_X5_countOfDay : Cond.code yX5_countOfDay cX5_countOfDay 3 (some .int) ∈ tb := tb_of (List.mem_of_getElem? (i := 904) (by decide +kernel)) rfl
theorem wl_X5_148 : Cond.methodLink RX5 148 yX5_cuts ∈ tb := tb_of (List.mem_of_getElem? (i := 905) (by decide +kernel)) rfl
theorem wi_X5_cuts : Cond.instanceMethod yX5_cuts ∈ tb := tb_of (List.mem_of_getElem? (i := 907) (by decide +kernel)) rfl
theorem wc_X5_cuts : Cond.code yX5_cuts cX5_cuts 1 (some .boolean) ∈ tb := tb_of (List.mem_of_getElem? (i := 908) (by decide +kernel)) rfl
theorem wl_X5_154 : Cond.methodLink RX5 154 yX5_dateOfCount ∈ tb := tb_of (List.mem_of_getElem? (i := 909) (by decide +kernel)) rfl
theorem wi_X5_dateOfCount : Cond.instanceMethod yX5_dateOfCount ∈ tb := tb_of (List.mem_of_getElem? (i := 911) (by decide +kernel)) rfl
theorem wc_X5_dateOfCount : Cond.code yX5_dateOfCount cX5_dateOfCount 3 (some .int) ∈ tb := tb_of (List.mem_of_getElem? (i := 912) (by decide +kernel)) rfl
theorem wl_X5_151 : Cond.methodLink RX5 151 yX5_beginOf ∈ tb := tb_of (List.mem_of_getElem? (i := 913) (by decide +kernel)) rfl
theorem wi_X5_beginOf : Cond.instanceMethod yX5_beginOf ∈ tb := tb_of (List.mem_of_getElem? (i := 915) (by decide +kernel)) rfl
theorem wc_X5_beginOf : Cond.code yX5_beginOf cX5_beginOf 2 (some .int) ∈ tb := tb_of (List.mem_of_getElem? (i := 916) (by decide +kernel)) rfl
theorem wl_X5_137 : Cond.methodLink RX5 137 yX5_leaps ∈ tb := tb_of (List.mem_of_getElem? (i := 917) (by decide +kernel)) rfl
theorem wi_X5_leaps : Cond.instanceMethod yX5_leaps ∈ tb := tb_of (List.mem_of_getElem? (i := 919) (by decide +kernel)) rfl
theorem wc_X5_leaps : Cond.code yX5_leaps cX5_leaps 1 (some .boolean) ∈ tb := tb_of (List.mem_of_getElem? (i := 920) (by decide +kernel)) rfl
theorem wl_L_64 : Cond.methodLink RL 64 yX5_mark ∈ tb := tb_of (List.mem_of_getElem? (i := 921) (by decide +kernel)) rfl
theorem wi_X5_mark : Cond.instanceMethod yX5_mark ∈ tb := tb_of (List.mem_of_getElem? (i := 922) (by decide +kernel)) rfl
theorem wv_X5_mark : Cond.selects RX5 yX5_mark yX5_mark ∈ tb := tb_of (List.mem_of_getElem? (i := 923) (by decide +kernel)) rfl
theorem wc_X5_mark : Cond.code yX5_mark cX5_mark 3 (some .int) ∈ tb := tb_of (List.mem_of_getElem? (i := 924) (by decide +kernel)) rfl
theorem wl_X5_178 : Cond.methodLink RX5 178 yX5_isA ∈ tb := tb_of (List.mem_of_getElem? (i := 925) (by decide +kernel)) rfl
theorem wi_X5_isA : Cond.instanceMethod yX5_isA ∈ tb := tb_of (List.mem_of_getElem? (i := 927) (by decide +kernel)) rfl
theorem wc_X5_isA : Cond.code yX5_isA cX5_isA 4 (some .boolean) ∈ tb := tb_of (List.mem_of_getElem? (i := 928) (by decide +kernel)) rfl
theorem wl_X5_182 : Cond.methodLink RX5 182 yX5_marked ∈ tb := tb_of (List.mem_of_getElem? (i := 929) (by decide +kernel)) rfl
theorem wi_X5_marked : Cond.instanceMethod yX5_marked ∈ tb := tb_of (List.mem_of_getElem? (i := 931) (by decide +kernel)) rfl
theorem wc_X5_marked : Cond.code yX5_marked cX5_marked 4 (some .int) ∈ tb := tb_of (List.mem_of_getElem? (i := 932) (by decide +kernel)) rfl
theorem wl_X5_175 : Cond.methodLink RX5 175 yX5_greater ∈ tb := tb_of (List.mem_of_getElem? (i := 933) (by decide +kernel)) rfl
theorem ws_X5_greater : Cond.static yX5_greater ∈ tb := tb_of (List.mem_of_getElem? (i := 934) (by decide +kernel)) rfl
theorem wc_X5_greater : Cond.code yX5_greater cX5_greater 2 (some .int) ∈ tb := tb_of (List.mem_of_getElem? (i := 935) (by decide +kernel)) rfl
theorem wl_L_68 : Cond.methodLink RL 68 yX5_order ∈ tb := tb_of (List.mem_of_getElem? (i := 936) (by decide +kernel)) rfl
theorem wi_X5_order : Cond.instanceMethod yX5_order ∈ tb := tb_of (List.mem_of_getElem? (i := 937) (by decide +kernel)) rfl
theorem wv_X5_order : Cond.selects RX5 yX5_order yX5_order ∈ tb := tb_of (List.mem_of_getElem? (i := 938) (by decide +kernel)) rfl
theorem wc_X5_order : Cond.code yX5_order cX5_order 4 (some .int) ∈ tb := tb_of (List.mem_of_getElem? (i := 939) (by decide +kernel)) rfl
theorem wl_L_72 : Cond.methodLink RL 72 yX5_gap ∈ tb := tb_of (List.mem_of_getElem? (i := 940) (by decide +kernel)) rfl
theorem wi_X5_gap : Cond.instanceMethod yX5_gap ∈ tb := tb_of (List.mem_of_getElem? (i := 941) (by decide +kernel)) rfl
theorem wv_X5_gap : Cond.selects RX5 yX5_gap yX5_gap ∈ tb := tb_of (List.mem_of_getElem? (i := 942) (by decide +kernel)) rfl
theorem wc_X5_gap : Cond.code yX5_gap cX5_gap 4 (some .int) ∈ tb := tb_of (List.mem_of_getElem? (i := 943) (by decide +kernel)) rfl
theorem wl_L_76 : Cond.methodLink RL 76 yX5_leap ∈ tb := tb_of (List.mem_of_getElem? (i := 944) (by decide +kernel)) rfl
theorem wi_X5_leap : Cond.instanceMethod yX5_leap ∈ tb := tb_of (List.mem_of_getElem? (i := 945) (by decide +kernel)) rfl
theorem wv_X5_leap : Cond.selects RX5 yX5_leap yX5_leap ∈ tb := tb_of (List.mem_of_getElem? (i := 946) (by decide +kernel)) rfl
theorem wc_X5_leap : Cond.code yX5_leap cX5_leap 4 (some .int) ∈ tb := tb_of (List.mem_of_getElem? (i := 947) (by decide +kernel)) rfl
theorem wl_L_80 : Cond.methodLink RL 80 yX5_go ∈ tb := tb_of (List.mem_of_getElem? (i := 948) (by decide +kernel)) rfl
theorem wi_X5_go : Cond.instanceMethod yX5_go ∈ tb := tb_of (List.mem_of_getElem? (i := 949) (by decide +kernel)) rfl
theorem wv_X5_go : Cond.selects RX5 yX5_go yX5_go ∈ tb := tb_of (List.mem_of_getElem? (i := 950) (by decide +kernel)) rfl
theorem wc_X5_go : Cond.code yX5_go cX5_go 2 (some .int) ∈ tb := tb_of (List.mem_of_getElem? (i := 951) (by decide +kernel)) rfl
theorem wl_L_84 : Cond.methodLink RL 84 yX5_back ∈ tb := tb_of (List.mem_of_getElem? (i := 952) (by decide +kernel)) rfl
theorem wi_X5_back : Cond.instanceMethod yX5_back ∈ tb := tb_of (List.mem_of_getElem? (i := 953) (by decide +kernel)) rfl
theorem wv_X5_back : Cond.selects RX5 yX5_back yX5_back ∈ tb := tb_of (List.mem_of_getElem? (i := 954) (by decide +kernel)) rfl
theorem wc_X5_back : Cond.code yX5_back cX5_back 2 (some .int) ∈ tb := tb_of (List.mem_of_getElem? (i := 955) (by decide +kernel)) rfl
theorem wl_L_88 : Cond.methodLink RL 88 yX5_keep ∈ tb := tb_of (List.mem_of_getElem? (i := 956) (by decide +kernel)) rfl
theorem wi_X5_keep : Cond.instanceMethod yX5_keep ∈ tb := tb_of (List.mem_of_getElem? (i := 957) (by decide +kernel)) rfl
theorem wv_X5_keep : Cond.selects RX5 yX5_keep yX5_keep ∈ tb := tb_of (List.mem_of_getElem? (i := 958) (by decide +kernel)) rfl
theorem wc_X5_keep : Cond.code yX5_keep cX5_keep 4 (some .int) ∈ tb := tb_of (List.mem_of_getElem? (i := 959) (by decide +kernel)) rfl
theorem wl_L_92 : Cond.methodLink RL 92 yX5_on ∈ tb := tb_of (List.mem_of_getElem? (i := 960) (by decide +kernel)) rfl
theorem wi_X5_on : Cond.instanceMethod yX5_on ∈ tb := tb_of (List.mem_of_getElem? (i := 961) (by decide +kernel)) rfl
theorem wv_X5_on : Cond.selects RX5 yX5_on yX5_on ∈ tb := tb_of (List.mem_of_getElem? (i := 962) (by decide +kernel)) rfl
theorem wc_X5_on : Cond.code yX5_on cX5_on 4 (some .int) ∈ tb := tb_of (List.mem_of_getElem? (i := 963) (by decide +kernel)) rfl
theorem wl_L_96 : Cond.methodLink RL 96 yX5_date ∈ tb := tb_of (List.mem_of_getElem? (i := 964) (by decide +kernel)) rfl
theorem wi_X5_date : Cond.instanceMethod yX5_date ∈ tb := tb_of (List.mem_of_getElem? (i := 965) (by decide +kernel)) rfl
theorem wv_X5_date : Cond.selects RX5 yX5_date yX5_date ∈ tb := tb_of (List.mem_of_getElem? (i := 966) (by decide +kernel)) rfl
theorem wc_X5_date : Cond.code yX5_date cX5_date 3 (some .int) ∈ tb := tb_of (List.mem_of_getElem? (i := 967) (by decide +kernel)) rfl
theorem wl_X5_122 : Cond.methodLink RX5 122 yX5_isDay ∈ tb := tb_of (List.mem_of_getElem? (i := 968) (by decide +kernel)) rfl
theorem ws_X5_isDay : Cond.static yX5_isDay ∈ tb := tb_of (List.mem_of_getElem? (i := 969) (by decide +kernel)) rfl
theorem wc_X5_isDay : Cond.code yX5_isDay cX5_isDay 1 (some .boolean) ∈ tb := tb_of (List.mem_of_getElem? (i := 970) (by decide +kernel)) rfl
theorem wl_L_100 : Cond.methodLink RL 100 yX5_day ∈ tb := tb_of (List.mem_of_getElem? (i := 971) (by decide +kernel)) rfl
theorem wi_X5_day : Cond.instanceMethod yX5_day ∈ tb := tb_of (List.mem_of_getElem? (i := 972) (by decide +kernel)) rfl
theorem wv_X5_day : Cond.selects RX5 yX5_day yX5_day ∈ tb := tb_of (List.mem_of_getElem? (i := 973) (by decide +kernel)) rfl
theorem wc_X5_day : Cond.code yX5_day cX5_day 4 (some .int) ∈ tb := tb_of (List.mem_of_getElem? (i := 974) (by decide +kernel)) rfl
theorem wl_X5_185 : Cond.methodLink RX5 185 yX5_dayIn ∈ tb := tb_of (List.mem_of_getElem? (i := 975) (by decide +kernel)) rfl
theorem wi_X5_dayIn : Cond.instanceMethod yX5_dayIn ∈ tb := tb_of (List.mem_of_getElem? (i := 977) (by decide +kernel)) rfl
theorem wc_X5_dayIn : Cond.code yX5_dayIn cX5_dayIn 3 (some .int) ∈ tb := tb_of (List.mem_of_getElem? (i := 978) (by decide +kernel)) rfl
theorem wl_X5_163 : Cond.methodLink RX5 163 yX5_dayOfDate ∈ tb := tb_of (List.mem_of_getElem? (i := 979) (by decide +kernel)) rfl
theorem wi_X5_dayOfDate : Cond.instanceMethod yX5_dayOfDate ∈ tb := tb_of (List.mem_of_getElem? (i := 981) (by decide +kernel)) rfl
theorem wc_X5_dayOfDate : Cond.code yX5_dayOfDate cX5_dayOfDate 6 (some .int) ∈ tb := tb_of (List.mem_of_getElem? (i := 982) (by decide +kernel)) rfl
theorem wl_X5_160 : Cond.methodLink RX5 160 yX5_yearDays ∈ tb := tb_of (List.mem_of_getElem? (i := 983) (by decide +kernel)) rfl
theorem wi_X5_yearDays : Cond.instanceMethod yX5_yearDays ∈ tb := tb_of (List.mem_of_getElem? (i := 985) (by decide +kernel)) rfl
theorem wc_X5_yearDays : Cond.code yX5_yearDays cX5_yearDays 2 (some .int) ∈ tb := tb_of (List.mem_of_getElem? (i := 986) (by decide +kernel)) rfl
theorem wl_L_104 : Cond.methodLink RL 104 yX5_year ∈ tb := tb_of (List.mem_of_getElem? (i := 987) (by decide +kernel)) rfl
theorem wi_X5_year : Cond.instanceMethod yX5_year ∈ tb := tb_of (List.mem_of_getElem? (i := 988) (by decide +kernel)) rfl
theorem wv_X5_year : Cond.selects RX5 yX5_year yX5_year ∈ tb := tb_of (List.mem_of_getElem? (i := 989) (by decide +kernel)) rfl
theorem wc_X5_year : Cond.code yX5_year cX5_year 5 (some .int) ∈ tb := tb_of (List.mem_of_getElem? (i := 990) (by decide +kernel)) rfl
theorem wl_L_108 : Cond.methodLink RL 108 yX5_same ∈ tb := tb_of (List.mem_of_getElem? (i := 991) (by decide +kernel)) rfl
theorem wi_X5_same : Cond.instanceMethod yX5_same ∈ tb := tb_of (List.mem_of_getElem? (i := 992) (by decide +kernel)) rfl
theorem wv_X5_same : Cond.selects RX5 yX5_same yX5_same ∈ tb := tb_of (List.mem_of_getElem? (i := 993) (by decide +kernel)) rfl
theorem wc_X5_same : Cond.code yX5_same cX5_same 5 (some .int) ∈ tb := tb_of (List.mem_of_getElem? (i := 994) (by decide +kernel)) rfl
theorem wl_L_112 : Cond.methodLink RL 112 yX5_between ∈ tb := tb_of (List.mem_of_getElem? (i := 995) (by decide +kernel)) rfl
theorem wi_X5_between : Cond.instanceMethod yX5_between ∈ tb := tb_of (List.mem_of_getElem? (i := 996) (by decide +kernel)) rfl
theorem wv_X5_between : Cond.selects RX5 yX5_between yX5_between ∈ tb := tb_of (List.mem_of_getElem? (i := 997) (by decide +kernel)) rfl
theorem wc_X5_between : Cond.code yX5_between cX5_between 6 (some .int) ∈ tb := tb_of (List.mem_of_getElem? (i := 998) (by decide +kernel)) rfl
theorem wl_L_116 : Cond.methodLink RL 116 yX5_where ∈ tb := tb_of (List.mem_of_getElem? (i := 999) (by decide +kernel)) rfl
theorem wi_X5_where : Cond.instanceMethod yX5_where ∈ tb := tb_of (List.mem_of_getElem? (i := 1000) (by decide +kernel)) rfl
theorem wv_X5_where : Cond.selects RX5 yX5_where yX5_where ∈ tb := tb_of (List.mem_of_getElem? (i := 1001) (by decide +kernel)) rfl
theorem wc_X5_where : Cond.code yX5_where cX5_where 7 (some .int) ∈ tb := tb_of (List.mem_of_getElem? (i := 1002) (by decide +kernel)) rfl
theorem wl_L_120 : Cond.methodLink RL 120 yX5_left ∈ tb := tb_of (List.mem_of_getElem? (i := 1003) (by decide +kernel)) rfl
theorem wi_X5_left : Cond.instanceMethod yX5_left ∈ tb := tb_of (List.mem_of_getElem? (i := 1004) (by decide +kernel)) rfl
theorem wv_X5_left : Cond.selects RX5 yX5_left yX5_left ∈ tb := tb_of (List.mem_of_getElem? (i := 1005) (by decide +kernel)) rfl
theorem wc_X5_left : Cond.code yX5_left cX5_left 5 (some .int) ∈ tb := tb_of (List.mem_of_getElem? (i := 1006) (by decide +kernel)) rfl
theorem wl_X5_188 : Cond.methodLink RX5 188 yX5_row ∈ tb := tb_of (List.mem_of_getElem? (i := 1007) (by decide +kernel)) rfl
theorem wl_L_125 : Cond.methodLink RL 125 yX5_dates ∈ tb := tb_of (List.mem_of_getElem? (i := 1008) (by decide +kernel)) rfl
theorem wi_X5_dates : Cond.instanceMethod yX5_dates ∈ tb := tb_of (List.mem_of_getElem? (i := 1009) (by decide +kernel)) rfl
theorem wv_X5_dates : Cond.selects RX5 yX5_dates yX5_dates ∈ tb := tb_of (List.mem_of_getElem? (i := 1010) (by decide +kernel)) rfl
theorem wc_X5_dates : Cond.code yX5_dates cX5_dates 6 (some .int) ∈ tb := tb_of (List.mem_of_getElem? (i := 1011) (by decide +kernel)) rfl
theorem wl_X5_191 : Cond.methodLink RX5 191 yX5_areDays ∈ tb := tb_of (List.mem_of_getElem? (i := 1012) (by decide +kernel)) rfl
theorem ws_X5_areDays : Cond.static yX5_areDays ∈ tb := tb_of (List.mem_of_getElem? (i := 1013) (by decide +kernel)) rfl
theorem wc_X5_areDays : Cond.code yX5_areDays cX5_areDays 2 (some .boolean) ∈ tb := tb_of (List.mem_of_getElem? (i := 1014) (by decide +kernel)) rfl
theorem wl_L_129 : Cond.methodLink RL 129 yX5_age ∈ tb := tb_of (List.mem_of_getElem? (i := 1015) (by decide +kernel)) rfl
theorem wi_X5_age : Cond.instanceMethod yX5_age ∈ tb := tb_of (List.mem_of_getElem? (i := 1016) (by decide +kernel)) rfl
theorem wv_X5_age : Cond.selects RX5 yX5_age yX5_age ∈ tb := tb_of (List.mem_of_getElem? (i := 1017) (by decide +kernel)) rfl
theorem wc_X5_age : Cond.code yX5_age cX5_age 4 (some .int) ∈ tb := tb_of (List.mem_of_getElem? (i := 1018) (by decide +kernel)) rfl
theorem wl_X5_195 : Cond.methodLink RX5 195 yX5_ageOf ∈ tb := tb_of (List.mem_of_getElem? (i := 1019) (by decide +kernel)) rfl
theorem wi_X5_ageOf : Cond.instanceMethod yX5_ageOf ∈ tb := tb_of (List.mem_of_getElem? (i := 1021) (by decide +kernel)) rfl
theorem wc_X5_ageOf : Cond.code yX5_ageOf cX5_ageOf 5 (some .int) ∈ tb := tb_of (List.mem_of_getElem? (i := 1022) (by decide +kernel)) rfl
theorem wl_X5_194 : Cond.constant RX5 194 (260000) ∈ tb := tb_of (List.mem_of_getElem? (i := 1023) (by decide +kernel)) rfl
theorem wl_L_133 : Cond.methodLink RL 133 yX5_eldest ∈ tb := tb_of (List.mem_of_getElem? (i := 1024) (by decide +kernel)) rfl
theorem wi_X5_eldest : Cond.instanceMethod yX5_eldest ∈ tb := tb_of (List.mem_of_getElem? (i := 1025) (by decide +kernel)) rfl
theorem wv_X5_eldest : Cond.selects RX5 yX5_eldest yX5_eldest ∈ tb := tb_of (List.mem_of_getElem? (i := 1026) (by decide +kernel)) rfl
theorem wc_X5_eldest : Cond.code yX5_eldest cX5_eldest 6 (some .int) ∈ tb := tb_of (List.mem_of_getElem? (i := 1027) (by decide +kernel)) rfl
theorem wl_L_137 : Cond.methodLink RL 137 yX5_agree ∈ tb := tb_of (List.mem_of_getElem? (i := 1028) (by decide +kernel)) rfl
theorem wi_X5_agree : Cond.instanceMethod yX5_agree ∈ tb := tb_of (List.mem_of_getElem? (i := 1029) (by decide +kernel)) rfl
theorem wv_X5_agree : Cond.selects RX5 yX5_agree yX5_agree ∈ tb := tb_of (List.mem_of_getElem? (i := 1030) (by decide +kernel)) rfl
theorem wc_X5_agree : Cond.code yX5_agree cX5_agree 9 (some .int) ∈ tb := tb_of (List.mem_of_getElem? (i := 1031) (by decide +kernel)) rfl
theorem wl_X5_198 : Cond.methodLink RX5 198 yX5_doAgree ∈ tb := tb_of (List.mem_of_getElem? (i := 1032) (by decide +kernel)) rfl
theorem wi_X5_doAgree : Cond.instanceMethod yX5_doAgree ∈ tb := tb_of (List.mem_of_getElem? (i := 1034) (by decide +kernel)) rfl
theorem wc_X5_doAgree : Cond.code yX5_doAgree cX5_doAgree 4 (some .boolean) ∈ tb := tb_of (List.mem_of_getElem? (i := 1035) (by decide +kernel)) rfl
theorem wl_L_141 : Cond.methodLink RL 141 yX5_till ∈ tb := tb_of (List.mem_of_getElem? (i := 1036) (by decide +kernel)) rfl
theorem wi_X5_till : Cond.instanceMethod yX5_till ∈ tb := tb_of (List.mem_of_getElem? (i := 1037) (by decide +kernel)) rfl
theorem wv_X5_till : Cond.selects RX5 yX5_till yX5_till ∈ tb := tb_of (List.mem_of_getElem? (i := 1038) (by decide +kernel)) rfl
theorem wc_X5_till : Cond.code yX5_till cX5_till 4 (some .int) ∈ tb := tb_of (List.mem_of_getElem? (i := 1039) (by decide +kernel)) rfl
theorem wl_L_145 : Cond.methodLink RL 145 yX5_apart ∈ tb := tb_of (List.mem_of_getElem? (i := 1040) (by decide +kernel)) rfl
theorem wi_X5_apart : Cond.instanceMethod yX5_apart ∈ tb := tb_of (List.mem_of_getElem? (i := 1041) (by decide +kernel)) rfl
theorem wv_X5_apart : Cond.selects RX5 yX5_apart yX5_apart ∈ tb := tb_of (List.mem_of_getElem? (i := 1042) (by decide +kernel)) rfl
theorem wc_X5_apart : Cond.code yX5_apart cX5_apart 9 (some .int) ∈ tb := tb_of (List.mem_of_getElem? (i := 1043) (by decide +kernel)) rfl
theorem wl_X5_201 : Cond.methodLink RX5 201 yX5_countIn ∈ tb := tb_of (List.mem_of_getElem? (i := 1044) (by decide +kernel)) rfl
theorem wi_X5_countIn : Cond.instanceMethod yX5_countIn ∈ tb := tb_of (List.mem_of_getElem? (i := 1046) (by decide +kernel)) rfl
theorem wc_X5_countIn : Cond.code yX5_countIn cX5_countIn 3 (some .int) ∈ tb := tb_of (List.mem_of_getElem? (i := 1047) (by decide +kernel)) rfl
theorem wl_X5_204 : Cond.methodLink RX5 204 yX5_apartOf ∈ tb := tb_of (List.mem_of_getElem? (i := 1048) (by decide +kernel)) rfl
theorem ws_X5_apartOf : Cond.static yX5_apartOf ∈ tb := tb_of (List.mem_of_getElem? (i := 1049) (by decide +kernel)) rfl
theorem wc_X5_apartOf : Cond.code yX5_apartOf cX5_apartOf 2 (some .int) ∈ tb := tb_of (List.mem_of_getElem? (i := 1050) (by decide +kernel)) rfl
theorem wl_L_149 : Cond.methodLink RL 149 yX5_due ∈ tb := tb_of (List.mem_of_getElem? (i := 1051) (by decide +kernel)) rfl
theorem wi_X5_due : Cond.instanceMethod yX5_due ∈ tb := tb_of (List.mem_of_getElem? (i := 1052) (by decide +kernel)) rfl
theorem wv_X5_due : Cond.selects RX5 yX5_due yX5_due ∈ tb := tb_of (List.mem_of_getElem? (i := 1053) (by decide +kernel)) rfl
theorem wc_X5_due : Cond.code yX5_due cX5_due 5 (some .int) ∈ tb := tb_of (List.mem_of_getElem? (i := 1054) (by decide +kernel)) rfl
theorem wl_L_153 : Cond.methodLink RL 153 yX5_quarrels ∈ tb := tb_of (List.mem_of_getElem? (i := 1055) (by decide +kernel)) rfl
theorem wi_X5_quarrels : Cond.instanceMethod yX5_quarrels ∈ tb := tb_of (List.mem_of_getElem? (i := 1056) (by decide +kernel)) rfl
theorem wv_X5_quarrels : Cond.selects RX5 yX5_quarrels yX5_quarrels ∈ tb := tb_of (List.mem_of_getElem? (i := 1057) (by decide +kernel)) rfl
theorem wc_X5_quarrels : Cond.code yX5_quarrels cX5_quarrels 5 (some .int) ∈ tb := tb_of (List.mem_of_getElem? (i := 1058) (by decide +kernel)) rfl
theorem wl_X5_210 : Cond.methodLink RX5 210 yX5_askedContracts ∈ tb := tb_of (List.mem_of_getElem? (i := 1059) (by decide +kernel)) rfl
theorem wi_X5_askedContracts : Cond.instanceMethod yX5_askedContracts ∈ tb := tb_of (List.mem_of_getElem? (i := 1061) (by decide +kernel)) rfl
theorem wc_X5_askedContracts : Cond.code yX5_askedContracts cX5_askedContracts 6 (some .int) ∈ tb := tb_of (List.mem_of_getElem? (i := 1062) (by decide +kernel)) rfl
theorem wl_X5_207 : Cond.methodLink RX5 207 yX5_doesQuarrel ∈ tb := tb_of (List.mem_of_getElem? (i := 1063) (by decide +kernel)) rfl
theorem wi_X5_doesQuarrel : Cond.instanceMethod yX5_doesQuarrel ∈ tb := tb_of (List.mem_of_getElem? (i := 1065) (by decide +kernel)) rfl
theorem wc_X5_doesQuarrel : Cond.code yX5_doesQuarrel cX5_doesQuarrel 5 (some .boolean) ∈ tb := tb_of (List.mem_of_getElem? (i := 1066) (by decide +kernel)) rfl
theorem wl_X5_214 : Cond.methodLink RX5 214 yX5_quarrelMany ∈ tb := tb_of (List.mem_of_getElem? (i := 1067) (by decide +kernel)) rfl
theorem wi_X5_quarrelMany : Cond.instanceMethod yX5_quarrelMany ∈ tb := tb_of (List.mem_of_getElem? (i := 1069) (by decide +kernel)) rfl
theorem wc_X5_quarrelMany : Cond.code yX5_quarrelMany cX5_quarrelMany 4 (some .int) ∈ tb := tb_of (List.mem_of_getElem? (i := 1070) (by decide +kernel)) rfl
theorem wl_L_157 : Cond.methodLink RL 157 yX5_change ∈ tb := tb_of (List.mem_of_getElem? (i := 1071) (by decide +kernel)) rfl
theorem wi_X5_change : Cond.instanceMethod yX5_change ∈ tb := tb_of (List.mem_of_getElem? (i := 1072) (by decide +kernel)) rfl
theorem wv_X5_change : Cond.selects RX5 yX5_change yX5_change ∈ tb := tb_of (List.mem_of_getElem? (i := 1073) (by decide +kernel)) rfl
theorem wc_X5_change : Cond.code yX5_change cX5_change 11 (some .int) ∈ tb := tb_of (List.mem_of_getElem? (i := 1074) (by decide +kernel)) rfl
theorem wl_L_161 : Cond.methodLink RL 161 yX5_rent ∈ tb := tb_of (List.mem_of_getElem? (i := 1075) (by decide +kernel)) rfl
theorem wi_X5_rent : Cond.instanceMethod yX5_rent ∈ tb := tb_of (List.mem_of_getElem? (i := 1076) (by decide +kernel)) rfl
theorem wv_X5_rent : Cond.selects RX5 yX5_rent yX5_rent ∈ tb := tb_of (List.mem_of_getElem? (i := 1077) (by decide +kernel)) rfl
theorem wc_X5_rent : Cond.code yX5_rent cX5_rent 10 (some .int) ∈ tb := tb_of (List.mem_of_getElem? (i := 1078) (by decide +kernel)) rfl
theorem wl_X5_217 : Cond.constantLong RX5 217 (494900) ∈ tb := tb_of (List.mem_of_getElem? (i := 1079) (by decide +kernel)) rfl
theorem wl_X5_219 : Cond.methodLink RX5 219 yX5_part ∈ tb := tb_of (List.mem_of_getElem? (i := 1080) (by decide +kernel)) rfl
theorem wi_X5_part : Cond.instanceMethod yX5_part ∈ tb := tb_of (List.mem_of_getElem? (i := 1082) (by decide +kernel)) rfl
theorem wc_X5_part : Cond.code yX5_part cX5_part 11 (some .int) ∈ tb := tb_of (List.mem_of_getElem? (i := 1083) (by decide +kernel)) rfl
theorem wl_L_165 : Cond.methodLink RL 165 yX5_voyage ∈ tb := tb_of (List.mem_of_getElem? (i := 1084) (by decide +kernel)) rfl
theorem wi_X5_voyage : Cond.instanceMethod yX5_voyage ∈ tb := tb_of (List.mem_of_getElem? (i := 1085) (by decide +kernel)) rfl
theorem wv_X5_voyage : Cond.selects RX5 yX5_voyage yX5_voyage ∈ tb := tb_of (List.mem_of_getElem? (i := 1086) (by decide +kernel)) rfl
theorem wc_X5_voyage : Cond.code yX5_voyage cX5_voyage 6 (some .int) ∈ tb := tb_of (List.mem_of_getElem? (i := 1087) (by decide +kernel)) rfl
theorem wl_L_169 : Cond.methodLink RL 169 yX5_dated ∈ tb := tb_of (List.mem_of_getElem? (i := 1088) (by decide +kernel)) rfl
theorem wi_X5_dated : Cond.instanceMethod yX5_dated ∈ tb := tb_of (List.mem_of_getElem? (i := 1089) (by decide +kernel)) rfl
theorem wv_X5_dated : Cond.selects RX5 yX5_dated yX5_dated ∈ tb := tb_of (List.mem_of_getElem? (i := 1090) (by decide +kernel)) rfl
theorem wc_X5_dated : Cond.code yX5_dated cX5_dated 7 (some .int) ∈ tb := tb_of (List.mem_of_getElem? (i := 1091) (by decide +kernel)) rfl
theorem wl_L_173 : Cond.methodLink RL 173 yX5_kinds ∈ tb := tb_of (List.mem_of_getElem? (i := 1092) (by decide +kernel)) rfl
theorem wi_X5_kinds : Cond.instanceMethod yX5_kinds ∈ tb := tb_of (List.mem_of_getElem? (i := 1093) (by decide +kernel)) rfl
theorem wv_X5_kinds : Cond.selects RX5 yX5_kinds yX5_kinds ∈ tb := tb_of (List.mem_of_getElem? (i := 1094) (by decide +kernel)) rfl
theorem wc_X5_kinds : Cond.code yX5_kinds cX5_kinds 8 (some .int) ∈ tb := tb_of (List.mem_of_getElem? (i := 1095) (by decide +kernel)) rfl
theorem wl_L_177 : Cond.methodLink RL 177 yX5_moon ∈ tb := tb_of (List.mem_of_getElem? (i := 1096) (by decide +kernel)) rfl
theorem wi_X5_moon : Cond.instanceMethod yX5_moon ∈ tb := tb_of (List.mem_of_getElem? (i := 1097) (by decide +kernel)) rfl
theorem wv_X5_moon : Cond.selects RX5 yX5_moon yX5_moon ∈ tb := tb_of (List.mem_of_getElem? (i := 1098) (by decide +kernel)) rfl
theorem wc_X5_moon : Cond.code yX5_moon cX5_moon 2 (some .int) ∈ tb := tb_of (List.mem_of_getElem? (i := 1099) (by decide +kernel)) rfl
theorem wl_X5_223 : Cond.methodLink RX5 223 yX5_tillFull ∈ tb := tb_of (List.mem_of_getElem? (i := 1100) (by decide +kernel)) rfl
theorem ws_X5_tillFull : Cond.static yX5_tillFull ∈ tb := tb_of (List.mem_of_getElem? (i := 1101) (by decide +kernel)) rfl
theorem wc_X5_tillFull : Cond.code yX5_tillFull cX5_tillFull 2 (some .int) ∈ tb := tb_of (List.mem_of_getElem? (i := 1102) (by decide +kernel)) rfl
theorem wl_L_181 : Cond.methodLink RL 181 yX5_feast ∈ tb := tb_of (List.mem_of_getElem? (i := 1103) (by decide +kernel)) rfl
theorem wi_X5_feast : Cond.instanceMethod yX5_feast ∈ tb := tb_of (List.mem_of_getElem? (i := 1104) (by decide +kernel)) rfl
theorem wv_X5_feast : Cond.selects RX5 yX5_feast yX5_feast ∈ tb := tb_of (List.mem_of_getElem? (i := 1105) (by decide +kernel)) rfl
theorem wc_X5_feast : Cond.code yX5_feast cX5_feast 3 (some .int) ∈ tb := tb_of (List.mem_of_getElem? (i := 1106) (by decide +kernel)) rfl
theorem wl_X5_226 : Cond.methodLink RX5 226 yX5_feastOf ∈ tb := tb_of (List.mem_of_getElem? (i := 1107) (by decide +kernel)) rfl
theorem wi_X5_feastOf : Cond.instanceMethod yX5_feastOf ∈ tb := tb_of (List.mem_of_getElem? (i := 1109) (by decide +kernel)) rfl
theorem wc_X5_feastOf : Cond.code yX5_feastOf cX5_feastOf 6 (some .int) ∈ tb := tb_of (List.mem_of_getElem? (i := 1110) (by decide +kernel)) rfl
theorem wl_L_185 : Cond.methodLink RL 185 yX5_together ∈ tb := tb_of (List.mem_of_getElem? (i := 1111) (by decide +kernel)) rfl
theorem wi_X5_together : Cond.instanceMethod yX5_together ∈ tb := tb_of (List.mem_of_getElem? (i := 1112) (by decide +kernel)) rfl
theorem wv_X5_together : Cond.selects RX5 yX5_together yX5_together ∈ tb := tb_of (List.mem_of_getElem? (i := 1113) (by decide +kernel)) rfl
theorem wc_X5_together : Cond.code yX5_together cX5_together 8 (some .int) ∈ tb := tb_of (List.mem_of_getElem? (i := 1114) (by decide +kernel)) rfl
theorem wl_L_189 : Cond.methodLink RL 189 yX5_keeps ∈ tb := tb_of (List.mem_of_getElem? (i := 1115) (by decide +kernel)) rfl
theorem wi_X5_keeps : Cond.instanceMethod yX5_keeps ∈ tb := tb_of (List.mem_of_getElem? (i := 1116) (by decide +kernel)) rfl
theorem wv_X5_keeps : Cond.selects RX5 yX5_keeps yX5_keeps ∈ tb := tb_of (List.mem_of_getElem? (i := 1117) (by decide +kernel)) rfl
theorem wc_X5_keeps : Cond.code yX5_keeps cX5_keeps 7 (some .int) ∈ tb := tb_of (List.mem_of_getElem? (i := 1118) (by decide +kernel)) rfl
theorem wl_X5_229 : Cond.methodLink RX5 229 yX5_isOff ∈ tb := tb_of (List.mem_of_getElem? (i := 1119) (by decide +kernel)) rfl
theorem ws_X5_isOff : Cond.static yX5_isOff ∈ tb := tb_of (List.mem_of_getElem? (i := 1120) (by decide +kernel)) rfl
theorem wc_X5_isOff : Cond.code yX5_isOff cX5_isOff 5 (some .boolean) ∈ tb := tb_of (List.mem_of_getElem? (i := 1121) (by decide +kernel)) rfl
theorem wl_L_193 : Cond.methodLink RL 193 yX5_fails ∈ tb := tb_of (List.mem_of_getElem? (i := 1122) (by decide +kernel)) rfl
theorem wi_X5_fails : Cond.instanceMethod yX5_fails ∈ tb := tb_of (List.mem_of_getElem? (i := 1123) (by decide +kernel)) rfl
theorem wv_X5_fails : Cond.selects RX5 yX5_fails yX5_fails ∈ tb := tb_of (List.mem_of_getElem? (i := 1124) (by decide +kernel)) rfl
theorem wc_X5_fails : Cond.code yX5_fails cX5_fails 5 (some .int) ∈ tb := tb_of (List.mem_of_getElem? (i := 1125) (by decide +kernel)) rfl
theorem wl_L_197 : Cond.methodLink RL 197 yX5_lots ∈ tb := tb_of (List.mem_of_getElem? (i := 1126) (by decide +kernel)) rfl
theorem wi_X5_lots : Cond.instanceMethod yX5_lots ∈ tb := tb_of (List.mem_of_getElem? (i := 1127) (by decide +kernel)) rfl
theorem wv_X5_lots : Cond.selects RX5 yX5_lots yX5_lots ∈ tb := tb_of (List.mem_of_getElem? (i := 1128) (by decide +kernel)) rfl
theorem wc_X5_lots : Cond.code yX5_lots cX5_lots 9 (some .int) ∈ tb := tb_of (List.mem_of_getElem? (i := 1129) (by decide +kernel)) rfl
theorem wl_X5_233 : Cond.constant RX5 233 (2147483646) ∈ tb := tb_of (List.mem_of_getElem? (i := 1130) (by decide +kernel)) rfl
theorem wl_X5_234 : Cond.constantLong RX5 234 (48271) ∈ tb := tb_of (List.mem_of_getElem? (i := 1131) (by decide +kernel)) rfl
theorem wl_X5_236 : Cond.constantLong RX5 236 (2147483647) ∈ tb := tb_of (List.mem_of_getElem? (i := 1132) (by decide +kernel)) rfl
theorem wl_X5_238 : Cond.constantLong RX5 238 (20000) ∈ tb := tb_of (List.mem_of_getElem? (i := 1133) (by decide +kernel)) rfl
theorem wl_L_202 : Cond.methodLink RL 202 yX5_asked ∈ tb := tb_of (List.mem_of_getElem? (i := 1134) (by decide +kernel)) rfl
theorem wi_X5_asked : Cond.instanceMethod yX5_asked ∈ tb := tb_of (List.mem_of_getElem? (i := 1135) (by decide +kernel)) rfl
theorem wv_X5_asked : Cond.selects RX5 yX5_asked yX5_asked ∈ tb := tb_of (List.mem_of_getElem? (i := 1136) (by decide +kernel)) rfl
theorem wc_X5_asked : Cond.code yX5_asked cX5_asked 1 (some .int) ∈ tb := tb_of (List.mem_of_getElem? (i := 1137) (by decide +kernel)) rfl
theorem wl_L_207 : Cond.methodLink RL 207 yX5_upper ∈ tb := tb_of (List.mem_of_getElem? (i := 1138) (by decide +kernel)) rfl
theorem wi_X5_upper : Cond.instanceMethod yX5_upper ∈ tb := tb_of (List.mem_of_getElem? (i := 1139) (by decide +kernel)) rfl
theorem wv_X5_upper : Cond.selects RX5 yX5_upper yX5_upper ∈ tb := tb_of (List.mem_of_getElem? (i := 1140) (by decide +kernel)) rfl
theorem wc_X5_upper : Cond.code yX5_upper cX5_upper 1 (some .long) ∈ tb := tb_of (List.mem_of_getElem? (i := 1141) (by decide +kernel)) rfl
theorem wl_L_211 : Cond.methodLink RL 211 yX5_lower ∈ tb := tb_of (List.mem_of_getElem? (i := 1142) (by decide +kernel)) rfl
theorem wi_X5_lower : Cond.instanceMethod yX5_lower ∈ tb := tb_of (List.mem_of_getElem? (i := 1143) (by decide +kernel)) rfl
theorem wv_X5_lower : Cond.selects RX5 yX5_lower yX5_lower ∈ tb := tb_of (List.mem_of_getElem? (i := 1144) (by decide +kernel)) rfl
theorem wc_X5_lower : Cond.code yX5_lower cX5_lower 1 (some .long) ∈ tb := tb_of (List.mem_of_getElem? (i := 1145) (by decide +kernel)) rfl
theorem wl_L_215 : Cond.methodLink RL 215 yX5_count ∈ tb := tb_of (List.mem_of_getElem? (i := 1146) (by decide +kernel)) rfl
theorem wi_X5_count : Cond.instanceMethod yX5_count ∈ tb := tb_of (List.mem_of_getElem? (i := 1147) (by decide +kernel)) rfl
theorem wv_X5_count : Cond.selects RX5 yX5_count yX5_count ∈ tb := tb_of (List.mem_of_getElem? (i := 1148) (by decide +kernel)) rfl
theorem wc_X5_count : Cond.code yX5_count cX5_count 2 (some .int) ∈ tb := tb_of (List.mem_of_getElem? (i := 1149) (by decide +kernel)) rfl
theorem wl_X5_240 : Cond.methodLink RX5 240 yX5_tells ∈ tb := tb_of (List.mem_of_getElem? (i := 1150) (by decide +kernel)) rfl
theorem wi_X5_tells : Cond.instanceMethod yX5_tells ∈ tb := tb_of (List.mem_of_getElem? (i := 1152) (by decide +kernel)) rfl
theorem wc_X5_tells : Cond.code yX5_tells cX5_tells 5 (some .int) ∈ tb := tb_of (List.mem_of_getElem? (i := 1153) (by decide +kernel)) rfl
theorem wl_L_219 : Cond.methodLink RL 219 yX5_finding ∈ tb := tb_of (List.mem_of_getElem? (i := 1154) (by decide +kernel)) rfl
theorem wi_X5_finding : Cond.instanceMethod yX5_finding ∈ tb := tb_of (List.mem_of_getElem? (i := 1155) (by decide +kernel)) rfl
theorem wv_X5_finding : Cond.selects RX5 yX5_finding yX5_finding ∈ tb := tb_of (List.mem_of_getElem? (i := 1156) (by decide +kernel)) rfl
theorem wc_X5_finding : Cond.code yX5_finding cX5_finding 1 (some .int) ∈ tb := tb_of (List.mem_of_getElem? (i := 1157) (by decide +kernel)) rfl
theorem wl_L_223 : Cond.methodLink RL 223 yX5_findings ∈ tb := tb_of (List.mem_of_getElem? (i := 1158) (by decide +kernel)) rfl
theorem wi_X5_findings : Cond.instanceMethod yX5_findings ∈ tb := tb_of (List.mem_of_getElem? (i := 1159) (by decide +kernel)) rfl
theorem wv_X5_findings : Cond.selects RX5 yX5_findings yX5_findings ∈ tb := tb_of (List.mem_of_getElem? (i := 1160) (by decide +kernel)) rfl
theorem wc_X5_findings : Cond.code yX5_findings cX5_findings 2 (some .int) ∈ tb := tb_of (List.mem_of_getElem? (i := 1161) (by decide +kernel)) rfl
theorem wl_L_227 : Cond.methodLink RL 227 yX5_digest ∈ tb := tb_of (List.mem_of_getElem? (i := 1162) (by decide +kernel)) rfl
theorem wi_X5_digest : Cond.instanceMethod yX5_digest ∈ tb := tb_of (List.mem_of_getElem? (i := 1163) (by decide +kernel)) rfl
theorem wv_X5_digest : Cond.selects RX5 yX5_digest yX5_digest ∈ tb := tb_of (List.mem_of_getElem? (i := 1164) (by decide +kernel)) rfl
theorem wc_X5_digest : Cond.code yX5_digest cX5_digest 3 (some .long) ∈ tb := tb_of (List.mem_of_getElem? (i := 1165) (by decide +kernel)) rfl
theorem wl_X5_248 : Cond.constantLong RX5 248 (17) ∈ tb := tb_of (List.mem_of_getElem? (i := 1166) (by decide +kernel)) rfl
theorem wl_X5_250 : Cond.methodLink RX5 250 yX5_mix ∈ tb := tb_of (List.mem_of_getElem? (i := 1167) (by decide +kernel)) rfl
theorem wi_X5_mix : Cond.instanceMethod yX5_mix ∈ tb := tb_of (List.mem_of_getElem? (i := 1169) (by decide +kernel)) rfl
theorem wc_X5_mix : Cond.code yX5_mix cX5_mix 2 none ∈ tb := tb_of (List.mem_of_getElem? (i := 1170) (by decide +kernel)) rfl
theorem wl_X5_243 : Cond.constantLong RX5 243 (31) ∈ tb := tb_of (List.mem_of_getElem? (i := 1171) (by decide +kernel)) rfl
theorem wa_char : Cond.arrayClass .char ∈ tb := tb_of (List.mem_of_getElem? (i := 1172) (by decide +kernel)) rfl
theorem mt_X4_row : MTv yX4_row cX4_row 3 (some .int) 2 := ⟨wc_X4_row, wn_X4, wi_X4_row, wv_X4_row, by decide +kernel, by decide +kernel⟩
theorem mt_X4_isRow : MTs yX4_isRow cX4_isRow 1 (some .boolean) 1 := ⟨wc_X4_isRow, wn_X4, ws_X4_isRow, by decide +kernel, by decide +kernel⟩
theorem mt_X4_found : MTv yX4_found cX4_found 2 (some .int) 1 := ⟨wc_X4_found, wn_X4, wi_X4_found, wv_X4_found, by decide +kernel, by decide +kernel⟩
theorem mt_X2_renew : MTv yX2_renew cX2_renew 3 none 1 := ⟨wc_X2_renew, wn_X2, wi_X2_renew, wv_X2_renew, by decide +kernel, by decide +kernel⟩
theorem mt_X4_lay : MTv yX4_lay cX4_lay 5 (some .int) 3 := ⟨wc_X4_lay, wn_X4, wi_X4_lay, wv_X4_lay, by decide +kernel, by decide +kernel⟩
theorem mt_X4_refusedPlace : MTv yX4_refusedPlace cX4_refusedPlace 4 (some .int) 2 := ⟨wc_X4_refusedPlace, wn_X4, wi_X4_refusedPlace, wv_X4_refusedPlace, by decide +kernel, by decide +kernel⟩
theorem mt_X4_refusedRow : MTv yX4_refusedRow cX4_refusedRow 2 (some .int) 1 := ⟨wc_X4_refusedRow, wn_X4, wi_X4_refusedRow, wv_X4_refusedRow, by decide +kernel, by decide +kernel⟩
theorem mt_X2_holds : MTv yX2_holds cX2_holds 3 (some .boolean) 2 := ⟨wc_X2_holds, wn_X2, wi_X2_holds, wv_X2_holds, by decide +kernel, by decide +kernel⟩
theorem mt_X4_at : MTv yX4_at cX4_at 4 (some .int) 2 := ⟨wc_X4_at, wn_X4, wi_X4_at, wv_X4_at, by decide +kernel, by decide +kernel⟩
theorem mt_X4_tear : MTv yX4_tear cX4_tear 3 (some .int) 1 := ⟨wc_X4_tear, wn_X4, wi_X4_tear, wv_X4_tear, by decide +kernel, by decide +kernel⟩
theorem mt_X4_copy : MTv yX4_copy cX4_copy 6 (some .int) 5 := ⟨wc_X4_copy, wn_X4, wi_X4_copy, wv_X4_copy, by decide +kernel, by decide +kernel⟩
theorem mt_X4_mean : MTv yX4_mean cX4_mean 4 (some .int) 1 := ⟨wc_X4_mean, wn_X4, wi_X4_mean, wv_X4_mean, by decide +kernel, by decide +kernel⟩
theorem mt_X2_sum : MTv yX2_sum cX2_sum 4 (some .long) 0 := ⟨wc_X2_sum, wn_X2, wi_X2_sum, wv_X2_sum, by decide +kernel, by decide +kernel⟩
theorem mt_X4_text : MTv yX4_text cX4_text 3 (some .int) 2 := ⟨wc_X4_text, wn_X4, wi_X4_text, wv_X4_text, by decide +kernel, by decide +kernel⟩
theorem mt_X4_isText : MTs yX4_isText cX4_isText 1 (some .boolean) 1 := ⟨wc_X4_isText, wn_X4, ws_X4_isText, by decide +kernel, by decide +kernel⟩
theorem mt_X3_renew : MTv yX3_renew cX3_renew 3 none 1 := ⟨wc_X3_renew, wn_X3, wi_X3_renew, wv_X3_renew, by decide +kernel, by decide +kernel⟩
theorem mt_X4_put : MTv yX4_put cX4_put 6 (some .int) 3 := ⟨wc_X4_put, wn_X4, wi_X4_put, wv_X4_put, by decide +kernel, by decide +kernel⟩
theorem mt_X4_refusedText : MTv yX4_refusedText cX4_refusedText 2 (some .int) 1 := ⟨wc_X4_refusedText, wn_X4, wi_X4_refusedText, wv_X4_refusedText, by decide +kernel, by decide +kernel⟩
theorem mt_X4_fault : MTv yX4_fault cX4_fault 3 (some .int) 1 := ⟨wc_X4_fault, wn_X4, wi_X4_fault, wv_X4_fault, by decide +kernel, by decide +kernel⟩
theorem mt_X3_firstFault : MTv yX3_firstFault cX3_firstFault 4 (some .int) 0 := ⟨wc_X3_firstFault, wn_X3, wi_X3_firstFault, wv_X3_firstFault, by decide +kernel, by decide +kernel⟩
theorem mt_X3_faultOfItem : MTv yX3_faultOfItem cX3_faultOfItem 3 (some .int) 1 := ⟨wc_X3_faultOfItem, wn_X3, wi_X3_faultOfItem, wv_X3_faultOfItem, by decide +kernel, by decide +kernel⟩
theorem mt_X3_fits : MTs yX3_fits cX3_fits 3 (some .boolean) 2 := ⟨wc_X3_fits, wn_X3, ws_X3_fits, by decide +kernel, by decide +kernel⟩
theorem mt_X3_kindOf : MTs yX3_kindOf cX3_kindOf 2 (some .int) 1 := ⟨wc_X3_kindOf, wn_X3, ws_X3_kindOf, by decide +kernel, by decide +kernel⟩
theorem mt_X4_isLeap : MTs yX4_isLeap cX4_isLeap 1 (some .boolean) 1 := ⟨wc_X4_isLeap, wn_X4, ws_X4_isLeap, by decide +kernel, by decide +kernel⟩
theorem mt_X4_almanac : MTv yX4_almanac cX4_almanac 4 (some .int) 1 := ⟨wc_X4_almanac, wn_X4, wi_X4_almanac, wv_X4_almanac, by decide +kernel, by decide +kernel⟩
theorem mt_X3_readInto : MTv yX3_readInto cX3_readInto 4 (some .int) 1 := ⟨wc_X3_readInto, wn_X3, wi_X3_readInto, wv_X3_readInto, by decide +kernel, by decide +kernel⟩
theorem mt_X3_readItem : MTv yX3_readItem cX3_readItem 4 none 2 := ⟨wc_X3_readItem, wn_X3, wi_X3_readItem, wv_X3_readItem, by decide +kernel, by decide +kernel⟩
theorem mt_J9_max_7cf53 : MTs yJ9_max_7cf53 cJ9_max_7cf53 2 (some .int) 2 := ⟨wc_J9_max_7cf53, wn_J9, ws_J9_max_7cf53, by decide +kernel, by decide +kernel⟩
theorem mt_X4_town : MTv yX4_town cX4_town 3 (some .int) 2 := ⟨wc_X4_town, wn_X4, wi_X4_town, wv_X4_town, by decide +kernel, by decide +kernel⟩
theorem mt_X4_isTown : MTv yX4_isTown cX4_isTown 2 (some .boolean) 1 := ⟨wc_X4_isTown, wn_X4, wi_X4_isTown, wv_X4_isTown, by decide +kernel, by decide +kernel⟩
theorem mt_X4_ofTown : MTv yX4_ofTown cX4_ofTown 4 (some .int) 2 := ⟨wc_X4_ofTown, wn_X4, wi_X4_ofTown, wv_X4_ofTown, by decide +kernel, by decide +kernel⟩
theorem mt_X0_dateOn : MTv yX0_dateOn cX0_dateOn 2 (some .int) 1 := ⟨wc_X0_dateOn, wn_X0, wi_X0_dateOn, wv_X0_dateOn, by decide +kernel, by decide +kernel⟩
theorem mt_X0_countOn : MTv yX0_countOn cX0_countOn 2 (some .int) 1 := ⟨wc_X0_countOn, wn_X0, wi_X0_countOn, wv_X0_countOn, by decide +kernel, by decide +kernel⟩
theorem mt_X0_cutsBy : MTv yX0_cutsBy cX0_cutsBy 3 (some .int) 1 := ⟨wc_X0_cutsBy, wn_X0, wi_X0_cutsBy, wv_X0_cutsBy, by decide +kernel, by decide +kernel⟩
theorem mt_X0_timesCut : MTv yX0_timesCut cX0_timesCut 1 (some .int) 0 := ⟨wc_X0_timesCut, wn_X0, wi_X0_timesCut, wv_X0_timesCut, by decide +kernel, by decide +kernel⟩
theorem mt_X0_dateOfCount : MTv yX0_dateOfCount cX0_dateOfCount 5 (some .int) 1 := ⟨wc_X0_dateOfCount, wn_X0, wi_X0_dateOfCount, wv_X0_dateOfCount, by decide +kernel, by decide +kernel⟩
theorem mt_X0_hasLeaps : MTv yX0_hasLeaps cX0_hasLeaps 1 (some .boolean) 0 := ⟨wc_X0_hasLeaps, wn_X0, wi_X0_hasLeaps, wv_X0_hasLeaps, by decide +kernel, by decide +kernel⟩
theorem mt_X0_isOf : MTv yX0_isOf cX0_isOf 2 (some .boolean) 1 := ⟨wc_X0_isOf, wn_X0, wi_X0_isOf, wv_X0_isOf, by decide +kernel, by decide +kernel⟩
theorem mt_X0_shortLength : MTv yX0_shortLength cX0_shortLength 1 (some .int) 0 := ⟨wc_X0_shortLength, wn_X0, wi_X0_shortLength, wv_X0_shortLength, by decide +kernel, by decide +kernel⟩
theorem mt_X4_mark : MTv yX4_mark cX4_mark 3 (some .int) 2 := ⟨wc_X4_mark, wn_X4, wi_X4_mark, wv_X4_mark, by decide +kernel, by decide +kernel⟩
theorem mt_X0_markOf : MTv yX0_markOf cX0_markOf 3 (some .int) 2 := ⟨wc_X0_markOf, wn_X0, wi_X0_markOf, wv_X0_markOf, by decide +kernel, by decide +kernel⟩
theorem mt_X4_order : MTv yX4_order cX4_order 4 (some .int) 2 := ⟨wc_X4_order, wn_X4, wi_X4_order, wv_X4_order, by decide +kernel, by decide +kernel⟩
theorem mt_X4_isWithin : MTs yX4_isWithin cX4_isWithin 3 (some .boolean) 3 := ⟨wc_X4_isWithin, wn_X4, ws_X4_isWithin, by decide +kernel, by decide +kernel⟩
theorem mt_X4_gap : MTv yX4_gap cX4_gap 4 (some .int) 2 := ⟨wc_X4_gap, wn_X4, wi_X4_gap, wv_X4_gap, by decide +kernel, by decide +kernel⟩
theorem mt_X4_leap : MTv yX4_leap cX4_leap 4 (some .int) 2 := ⟨wc_X4_leap, wn_X4, wi_X4_leap, wv_X4_leap, by decide +kernel, by decide +kernel⟩
theorem mt_X4_go : MTv yX4_go cX4_go 2 (some .int) 1 := ⟨wc_X4_go, wn_X4, wi_X4_go, wv_X4_go, by decide +kernel, by decide +kernel⟩
theorem mt_X4_back : MTv yX4_back cX4_back 2 (some .int) 1 := ⟨wc_X4_back, wn_X4, wi_X4_back, wv_X4_back, by decide +kernel, by decide +kernel⟩
theorem mt_X4_keep : MTv yX4_keep cX4_keep 2 (some .int) 1 := ⟨wc_X4_keep, wn_X4, wi_X4_keep, wv_X4_keep, by decide +kernel, by decide +kernel⟩
theorem mt_X4_isPlaceToKeep : MTs yX4_isPlaceToKeep cX4_isPlaceToKeep 1 (some .boolean) 1 := ⟨wc_X4_isPlaceToKeep, wn_X4, ws_X4_isPlaceToKeep, by decide +kernel, by decide +kernel⟩
theorem mt_X1_take : MTv yX1_take cX1_take 4 none 2 := ⟨wc_X1_take, wn_X1, wi_X1_take, wv_X1_take, by decide +kernel, by decide +kernel⟩
theorem mt_X4_on : MTv yX4_on cX4_on 2 (some .int) 1 := ⟨wc_X4_on, wn_X4, wi_X4_on, wv_X4_on, by decide +kernel, by decide +kernel⟩
theorem mt_X1_giveBack : MTv yX1_giveBack cX1_giveBack 3 none 1 := ⟨wc_X1_giveBack, wn_X1, wi_X1_giveBack, wv_X1_giveBack, by decide +kernel, by decide +kernel⟩
theorem mt_X4_date : MTv yX4_date cX4_date 3 (some .int) 2 := ⟨wc_X4_date, wn_X4, wi_X4_date, wv_X4_date, by decide +kernel, by decide +kernel⟩
theorem mt_X4_isDay : MTs yX4_isDay cX4_isDay 1 (some .boolean) 1 := ⟨wc_X4_isDay, wn_X4, ws_X4_isDay, by decide +kernel, by decide +kernel⟩
theorem mt_X4_day : MTv yX4_day cX4_day 4 (some .int) 2 := ⟨wc_X4_day, wn_X4, wi_X4_day, wv_X4_day, by decide +kernel, by decide +kernel⟩
theorem mt_X0_dayOfDate : MTv yX0_dayOfDate cX0_dayOfDate 4 (some .int) 1 := ⟨wc_X0_dayOfDate, wn_X0, wi_X0_dayOfDate, wv_X0_dayOfDate, by decide +kernel, by decide +kernel⟩
theorem mt_X0_lengthOf : MTv yX0_lengthOf cX0_lengthOf 2 (some .int) 1 := ⟨wc_X0_lengthOf, wn_X0, wi_X0_lengthOf, wv_X0_lengthOf, by decide +kernel, by decide +kernel⟩
theorem mt_X0_startOf : MTv yX0_startOf cX0_startOf 2 (some .int) 1 := ⟨wc_X0_startOf, wn_X0, wi_X0_startOf, wv_X0_startOf, by decide +kernel, by decide +kernel⟩
theorem mt_X4_longYearsBefore : MTs yX4_longYearsBefore cX4_longYearsBefore 2 (some .int) 2 := ⟨wc_X4_longYearsBefore, wn_X4, ws_X4_longYearsBefore, by decide +kernel, by decide +kernel⟩
theorem mt_X0_dayOfCount : MTv yX0_dayOfCount cX0_dayOfCount 4 (some .int) 1 := ⟨wc_X0_dayOfCount, wn_X0, wi_X0_dayOfCount, wv_X0_dayOfCount, by decide +kernel, by decide +kernel⟩
theorem mt_X4_year : MTv yX4_year cX4_year 6 (some .int) 2 := ⟨wc_X4_year, wn_X4, wi_X4_year, wv_X4_year, by decide +kernel, by decide +kernel⟩
theorem mt_X4_same : MTv yX4_same cX4_same 5 (some .int) 3 := ⟨wc_X4_same, wn_X4, wi_X4_same, wv_X4_same, by decide +kernel, by decide +kernel⟩
theorem mt_X4_between : MTv yX4_between cX4_between 6 (some .int) 3 := ⟨wc_X4_between, wn_X4, wi_X4_between, wv_X4_between, by decide +kernel, by decide +kernel⟩
theorem mt_X4_where : MTv yX4_where cX4_where 5 (some .int) 2 := ⟨wc_X4_where, wn_X4, wi_X4_where, wv_X4_where, by decide +kernel, by decide +kernel⟩
theorem mt_J6_bitCount_0f7a4 : MTs yJ6_bitCount_0f7a4 cJ6_bitCount_0f7a4 1 (some .int) 1 := ⟨wc_J6_bitCount_0f7a4, wn_J6, ws_J6_bitCount_0f7a4, by decide +kernel, by decide +kernel⟩
theorem mt_X4_left : MTv yX4_left cX4_left 7 (some .int) 2 := ⟨wc_X4_left, wn_X4, wi_X4_left, wv_X4_left, by decide +kernel, by decide +kernel⟩
theorem mt_X0_firstLeftOut : MTv yX0_firstLeftOut cX0_firstLeftOut 2 (some .int) 1 := ⟨wc_X0_firstLeftOut, wn_X0, wi_X0_firstLeftOut, wv_X0_firstLeftOut, by decide +kernel, by decide +kernel⟩
theorem mt_X0_dayOfCut : MTv yX0_dayOfCut cX0_dayOfCut 2 (some .int) 1 := ⟨wc_X0_dayOfCut, wn_X0, wi_X0_dayOfCut, wv_X0_dayOfCut, by decide +kernel, by decide +kernel⟩
theorem mt_X2_add : MTv yX2_add cX2_add 2 none 1 := ⟨wc_X2_add, wn_X2, wi_X2_add, wv_X2_add, by decide +kernel, by decide +kernel⟩
theorem mt_X4_dates : MTv yX4_dates cX4_dates 6 (some .int) 4 := ⟨wc_X4_dates, wn_X4, wi_X4_dates, wv_X4_dates, by decide +kernel, by decide +kernel⟩
theorem mt_X4_isSpan : MTs yX4_isSpan cX4_isSpan 2 (some .boolean) 2 := ⟨wc_X4_isSpan, wn_X4, ws_X4_isSpan, by decide +kernel, by decide +kernel⟩
theorem mt_X4_age : MTv yX4_age cX4_age 4 (some .int) 2 := ⟨wc_X4_age, wn_X4, wi_X4_age, wv_X4_age, by decide +kernel, by decide +kernel⟩
theorem mt_X0_timesAgain : MTv yX0_timesAgain cX0_timesAgain 8 (some .int) 2 := ⟨wc_X0_timesAgain, wn_X0, wi_X0_timesAgain, wv_X0_timesAgain, by decide +kernel, by decide +kernel⟩
theorem mt_X4_eldest : MTv yX4_eldest cX4_eldest 6 (some .int) 1 := ⟨wc_X4_eldest, wn_X4, wi_X4_eldest, wv_X4_eldest, by decide +kernel, by decide +kernel⟩
theorem mt_X4_agree : MTv yX4_agree cX4_agree 9 (some .int) 4 := ⟨wc_X4_agree, wn_X4, wi_X4_agree, wv_X4_agree, by decide +kernel, by decide +kernel⟩
theorem mt_X4_stretchEnd : MTv yX4_stretchEnd cX4_stretchEnd 4 (some .int) 3 := ⟨wc_X4_stretchEnd, wn_X4, wi_X4_stretchEnd, wv_X4_stretchEnd, by decide +kernel, by decide +kernel⟩
theorem mt_X0_stretchEndFrom : MTv yX0_stretchEndFrom cX0_stretchEndFrom 5 (some .int) 1 := ⟨wc_X0_stretchEndFrom, wn_X0, wi_X0_stretchEndFrom, wv_X0_stretchEndFrom, by decide +kernel, by decide +kernel⟩
theorem mt_J9_min_7cf53 : MTs yJ9_min_7cf53 cJ9_min_7cf53 2 (some .int) 2 := ⟨wc_J9_min_7cf53, wn_J9, ws_J9_min_7cf53, by decide +kernel, by decide +kernel⟩
theorem mt_X4_haveSameDate : MTv yX4_haveSameDate cX4_haveSameDate 4 (some .boolean) 3 := ⟨wc_X4_haveSameDate, wn_X4, wi_X4_haveSameDate, wv_X4_haveSameDate, by decide +kernel, by decide +kernel⟩
theorem mt_X4_till : MTv yX4_till cX4_till 4 (some .int) 2 := ⟨wc_X4_till, wn_X4, wi_X4_till, wv_X4_till, by decide +kernel, by decide +kernel⟩
theorem mt_X4_apart : MTv yX4_apart cX4_apart 9 (some .int) 4 := ⟨wc_X4_apart, wn_X4, wi_X4_apart, wv_X4_apart, by decide +kernel, by decide +kernel⟩
theorem mt_J9_abs_0f7a4 : MTs yJ9_abs_0f7a4 cJ9_abs_0f7a4 1 (some .int) 1 := ⟨wc_J9_abs_0f7a4, wn_J9, ws_J9_abs_0f7a4, by decide +kernel, by decide +kernel⟩
theorem mt_X4_due : MTv yX4_due cX4_due 6 (some .int) 3 := ⟨wc_X4_due, wn_X4, wi_X4_due, wv_X4_due, by decide +kernel, by decide +kernel⟩
theorem mt_X4_isYearsDue : MTs yX4_isYearsDue cX4_isYearsDue 1 (some .boolean) 1 := ⟨wc_X4_isYearsDue, wn_X4, ws_X4_isYearsDue, by decide +kernel, by decide +kernel⟩
theorem mt_X4_quarrels : MTv yX4_quarrels cX4_quarrels 6 (some .int) 1 := ⟨wc_X4_quarrels, wn_X4, wi_X4_quarrels, wv_X4_quarrels, by decide +kernel, by decide +kernel⟩
theorem mt_X4_refusedContracts : MTv yX4_refusedContracts cX4_refusedContracts 5 (some .int) 1 := ⟨wc_X4_refusedContracts, wn_X4, wi_X4_refusedContracts, wv_X4_refusedContracts, by decide +kernel, by decide +kernel⟩
theorem mt_X4_hasMissingDate : MTv yX4_hasMissingDate cX4_hasMissingDate 3 (some .boolean) 1 := ⟨wc_X4_hasMissingDate, wn_X4, wi_X4_hasMissingDate, wv_X4_hasMissingDate, by decide +kernel, by decide +kernel⟩
theorem mt_X4_quarrelsAt : MTv yX4_quarrelsAt cX4_quarrelsAt 9 (some .boolean) 3 := ⟨wc_X4_quarrelsAt, wn_X4, wi_X4_quarrelsAt, wv_X4_quarrelsAt, by decide +kernel, by decide +kernel⟩
theorem mt_X4_change : MTv yX4_change cX4_change 10 (some .int) 4 := ⟨wc_X4_change, wn_X4, wi_X4_change, wv_X4_change, by decide +kernel, by decide +kernel⟩
theorem mt_X0_becomeLike : MTv yX0_becomeLike cX0_becomeLike 2 none 1 := ⟨wc_X0_becomeLike, wn_X0, wi_X0_becomeLike, wv_X0_becomeLike, by decide +kernel, by decide +kernel⟩
theorem mt_X4_quarrelsOnTrial : MTv yX4_quarrelsOnTrial cX4_quarrelsOnTrial 5 (some .int) 2 := ⟨wc_X4_quarrelsOnTrial, wn_X4, wi_X4_quarrelsOnTrial, wv_X4_quarrelsOnTrial, by decide +kernel, by decide +kernel⟩
theorem mt_X4_rent : MTv yX4_rent cX4_rent 10 (some .int) 4 := ⟨wc_X4_rent, wn_X4, wi_X4_rent, wv_X4_rent, by decide +kernel, by decide +kernel⟩
theorem mt_X4_tellFraction : MTv yX4_tellFraction cX4_tellFraction 7 none 2 := ⟨wc_X4_tellFraction, wn_X4, wi_X4_tellFraction, wv_X4_tellFraction, by decide +kernel, by decide +kernel⟩
theorem mt_X4_commonDivisor : MTs yX4_commonDivisor cX4_commonDivisor 11 (some .long) 2 := ⟨wc_X4_commonDivisor, wn_X4, ws_X4_commonDivisor, by decide +kernel, by decide +kernel⟩
theorem mt_X4_voyage : MTv yX4_voyage cX4_voyage 5 (some .int) 4 := ⟨wc_X4_voyage, wn_X4, wi_X4_voyage, wv_X4_voyage, by decide +kernel, by decide +kernel⟩
theorem mt_X4_dated : MTv yX4_dated cX4_dated 7 (some .int) 3 := ⟨wc_X4_dated, wn_X4, wi_X4_dated, wv_X4_dated, by decide +kernel, by decide +kernel⟩
theorem mt_X4_kinds : MTv yX4_kinds cX4_kinds 6 (some .int) 2 := ⟨wc_X4_kinds, wn_X4, wi_X4_kinds, wv_X4_kinds, by decide +kernel, by decide +kernel⟩
theorem mt_X4_areLetters : MTs yX4_areLetters cX4_areLetters 2 (some .boolean) 1 := ⟨wc_X4_areLetters, wn_X4, ws_X4_areLetters, by decide +kernel, by decide +kernel⟩
theorem mt_X4_writesAll : MTs yX4_writesAll cX4_writesAll 3 (some .boolean) 2 := ⟨wc_X4_writesAll, wn_X4, ws_X4_writesAll, by decide +kernel, by decide +kernel⟩
theorem mt_X4_moon : MTv yX4_moon cX4_moon 2 (some .int) 1 := ⟨wc_X4_moon, wn_X4, wi_X4_moon, wv_X4_moon, by decide +kernel, by decide +kernel⟩
theorem mt_X4_daysTillFull : MTs yX4_daysTillFull cX4_daysTillFull 2 (some .int) 1 := ⟨wc_X4_daysTillFull, wn_X4, ws_X4_daysTillFull, by decide +kernel, by decide +kernel⟩
theorem mt_X4_feast : MTv yX4_feast cX4_feast 3 (some .int) 2 := ⟨wc_X4_feast, wn_X4, wi_X4_feast, wv_X4_feast, by decide +kernel, by decide +kernel⟩
theorem mt_X4_isFeastYear : MTs yX4_isFeastYear cX4_isFeastYear 1 (some .boolean) 1 := ⟨wc_X4_isFeastYear, wn_X4, ws_X4_isFeastYear, by decide +kernel, by decide +kernel⟩
theorem mt_X4_feastOf : MTs yX4_feastOf cX4_feastOf 5 (some .int) 2 := ⟨wc_X4_feastOf, wn_X4, ws_X4_feastOf, by decide +kernel, by decide +kernel⟩
theorem mt_X4_together : MTv yX4_together cX4_together 8 (some .int) 4 := ⟨wc_X4_together, wn_X4, wi_X4_together, wv_X4_together, by decide +kernel, by decide +kernel⟩
theorem mt_X4_keeps : MTv yX4_keeps cX4_keeps 5 (some .int) 3 := ⟨wc_X4_keeps, wn_X4, wi_X4_keeps, wv_X4_keeps, by decide +kernel, by decide +kernel⟩
theorem mt_X4_isPartOfDay : MTs yX4_isPartOfDay cX4_isPartOfDay 1 (some .boolean) 1 := ⟨wc_X4_isPartOfDay, wn_X4, ws_X4_isPartOfDay, by decide +kernel, by decide +kernel⟩
theorem mt_X4_firstYearOff : MTs yX4_firstYearOff cX4_firstYearOff 5 (some .int) 4 := ⟨wc_X4_firstYearOff, wn_X4, ws_X4_firstYearOff, by decide +kernel, by decide +kernel⟩
theorem mt_X4_fails : MTv yX4_fails cX4_fails 4 (some .int) 3 := ⟨wc_X4_fails, wn_X4, wi_X4_fails, wv_X4_fails, by decide +kernel, by decide +kernel⟩
theorem mt_X4_lots : MTv yX4_lots cX4_lots 9 (some .int) 4 := ⟨wc_X4_lots, wn_X4, wi_X4_lots, wv_X4_lots, by decide +kernel, by decide +kernel⟩
theorem mt_X4_asked : MTv yX4_asked cX4_asked 1 (some .int) 0 := ⟨wc_X4_asked, wn_X4, wi_X4_asked, wv_X4_asked, by decide +kernel, by decide +kernel⟩
theorem mt_X4_upper : MTv yX4_upper cX4_upper 1 (some .long) 0 := ⟨wc_X4_upper, wn_X4, wi_X4_upper, wv_X4_upper, by decide +kernel, by decide +kernel⟩
theorem mt_X4_lower : MTv yX4_lower cX4_lower 1 (some .long) 0 := ⟨wc_X4_lower, wn_X4, wi_X4_lower, wv_X4_lower, by decide +kernel, by decide +kernel⟩
theorem mt_X4_count : MTv yX4_count cX4_count 2 (some .int) 1 := ⟨wc_X4_count, wn_X4, wi_X4_count, wv_X4_count, by decide +kernel, by decide +kernel⟩
theorem mt_X4_townsOf : MTv yX4_townsOf cX4_townsOf 4 (some .int) 1 := ⟨wc_X4_townsOf, wn_X4, wi_X4_townsOf, wv_X4_townsOf, by decide +kernel, by decide +kernel⟩
theorem mt_X4_rowsThere : MTv yX4_rowsThere cX4_rowsThere 3 (some .int) 0 := ⟨wc_X4_rowsThere, wn_X4, wi_X4_rowsThere, wv_X4_rowsThere, by decide +kernel, by decide +kernel⟩
theorem mt_X4_textsThere : MTv yX4_textsThere cX4_textsThere 3 (some .int) 0 := ⟨wc_X4_textsThere, wn_X4, wi_X4_textsThere, wv_X4_textsThere, by decide +kernel, by decide +kernel⟩
theorem mt_X4_almanacsKept : MTv yX4_almanacsKept cX4_almanacsKept 3 (some .int) 0 := ⟨wc_X4_almanacsKept, wn_X4, wi_X4_almanacsKept, wv_X4_almanacsKept, by decide +kernel, by decide +kernel⟩
theorem mt_X4_finding : MTv yX4_finding cX4_finding 1 (some .int) 0 := ⟨wc_X4_finding, wn_X4, wi_X4_finding, wv_X4_finding, by decide +kernel, by decide +kernel⟩
theorem mt_X4_findings : MTv yX4_findings cX4_findings 2 (some .int) 1 := ⟨wc_X4_findings, wn_X4, wi_X4_findings, wv_X4_findings, by decide +kernel, by decide +kernel⟩
theorem mt_X4_digest : MTv yX4_digest cX4_digest 5 (some .long) 0 := ⟨wc_X4_digest, wn_X4, wi_X4_digest, wv_X4_digest, by decide +kernel, by decide +kernel⟩
theorem mt_X2_digestFrom : MTv yX2_digestFrom cX2_digestFrom 6 (some .long) 1 := ⟨wc_X2_digestFrom, wn_X2, wi_X2_digestFrom, wv_X2_digestFrom, by decide +kernel, by decide +kernel⟩
theorem mt_X3_digestFrom : MTv yX3_digestFrom cX3_digestFrom 6 (some .long) 1 := ⟨wc_X3_digestFrom, wn_X3, wi_X3_digestFrom, wv_X3_digestFrom, by decide +kernel, by decide +kernel⟩
theorem mt_X5_row : MTv yX5_row cX5_row 4 (some .int) 2 := ⟨wc_X5_row, wn_X5, wi_X5_row, wv_X5_row, by decide +kernel, by decide +kernel⟩
theorem mt_X5_isRow : MTs yX5_isRow cX5_isRow 1 (some .boolean) 1 := ⟨wc_X5_isRow, wn_X5, ws_X5_isRow, by decide +kernel, by decide +kernel⟩
theorem mt_X5_in : MTs yX5_in cX5_in 3 (some .boolean) 3 := ⟨wc_X5_in, wn_X5, ws_X5_in, by decide +kernel, by decide +kernel⟩
theorem mt_X5_meet : MTv yX5_meet cX5_meet 2 (some .int) 1 := ⟨wc_X5_meet, wn_X5, wi_X5_meet, wv_X5_meet, by decide +kernel, by decide +kernel⟩
theorem mt_X5_setRow : MTv yX5_setRow cX5_setRow 4 none 3 := ⟨wc_X5_setRow, wn_X5, wi_X5_setRow, wv_X5_setRow, by decide +kernel, by decide +kernel⟩
theorem mt_X5_at : MTv yX5_at cX5_at 4 (some .int) 2 := ⟨wc_X5_at, wn_X5, wi_X5_at, wv_X5_at, by decide +kernel, by decide +kernel⟩
theorem mt_X5_askedRow : MTv yX5_askedRow cX5_askedRow 2 (some .int) 1 := ⟨wc_X5_askedRow, wn_X5, wi_X5_askedRow, wv_X5_askedRow, by decide +kernel, by decide +kernel⟩
theorem mt_X5_rowAt : MTv yX5_rowAt cX5_rowAt 3 (some .int) 2 := ⟨wc_X5_rowAt, wn_X5, wi_X5_rowAt, wv_X5_rowAt, by decide +kernel, by decide +kernel⟩
theorem mt_X5_ask : MTv yX5_ask cX5_ask 3 (some .int) 2 := ⟨wc_X5_ask, wn_X5, wi_X5_ask, wv_X5_ask, by decide +kernel, by decide +kernel⟩
theorem mt_X5_lay : MTv yX5_lay cX5_lay 5 (some .int) 3 := ⟨wc_X5_lay, wn_X5, wi_X5_lay, wv_X5_lay, by decide +kernel, by decide +kernel⟩
theorem mt_X5_tear : MTv yX5_tear cX5_tear 3 (some .int) 1 := ⟨wc_X5_tear, wn_X5, wi_X5_tear, wv_X5_tear, by decide +kernel, by decide +kernel⟩
theorem mt_X5_copy : MTv yX5_copy cX5_copy 7 (some .int) 5 := ⟨wc_X5_copy, wn_X5, wi_X5_copy, wv_X5_copy, by decide +kernel, by decide +kernel⟩
theorem mt_X5_mean : MTv yX5_mean cX5_mean 6 (some .int) 1 := ⟨wc_X5_mean, wn_X5, wi_X5_mean, wv_X5_mean, by decide +kernel, by decide +kernel⟩
theorem mt_X5_text : MTv yX5_text cX5_text 4 (some .int) 2 := ⟨wc_X5_text, wn_X5, wi_X5_text, wv_X5_text, by decide +kernel, by decide +kernel⟩
theorem mt_X5_isText : MTs yX5_isText cX5_isText 1 (some .boolean) 1 := ⟨wc_X5_isText, wn_X5, ws_X5_isText, by decide +kernel, by decide +kernel⟩
theorem mt_X5_put : MTv yX5_put cX5_put 6 (some .int) 3 := ⟨wc_X5_put, wn_X5, wi_X5_put, wv_X5_put, by decide +kernel, by decide +kernel⟩
theorem mt_X5_askedText : MTv yX5_askedText cX5_askedText 2 (some .int) 1 := ⟨wc_X5_askedText, wn_X5, wi_X5_askedText, wv_X5_askedText, by decide +kernel, by decide +kernel⟩
theorem mt_X5_fault : MTv yX5_fault cX5_fault 3 (some .int) 1 := ⟨wc_X5_fault, wn_X5, wi_X5_fault, wv_X5_fault, by decide +kernel, by decide +kernel⟩
theorem mt_X5_goesOn : MTv yX5_goesOn cX5_goesOn 2 (some .int) 1 := ⟨wc_X5_goesOn, wn_X5, wi_X5_goesOn, wv_X5_goesOn, by decide +kernel, by decide +kernel⟩
theorem mt_X5_here : MTv yX5_here cX5_here 2 (some .int) 1 := ⟨wc_X5_here, wn_X5, wi_X5_here, wv_X5_here, by decide +kernel, by decide +kernel⟩
theorem mt_X5_readsTown : MTv yX5_readsTown cX5_readsTown 6 (some .boolean) 1 := ⟨wc_X5_readsTown, wn_X5, wi_X5_readsTown, wv_X5_readsTown, by decide +kernel, by decide +kernel⟩
theorem mt_X5_kindBy : MTs yX5_kindBy cX5_kindBy 1 (some .int) 1 := ⟨wc_X5_kindBy, wn_X5, ws_X5_kindBy, by decide +kernel, by decide +kernel⟩
theorem mt_X5_figure : MTv yX5_figure cX5_figure 4 (some .int) 2 := ⟨wc_X5_figure, wn_X5, wi_X5_figure, wv_X5_figure, by decide +kernel, by decide +kernel⟩
theorem mt_X5_almanac : MTv yX5_almanac cX5_almanac 4 (some .int) 1 := ⟨wc_X5_almanac, wn_X5, wi_X5_almanac, wv_X5_almanac, by decide +kernel, by decide +kernel⟩
theorem mt_X5_town : MTv yX5_town cX5_town 3 (some .int) 2 := ⟨wc_X5_town, wn_X5, wi_X5_town, wv_X5_town, by decide +kernel, by decide +kernel⟩
theorem mt_X5_isTown : MTv yX5_isTown cX5_isTown 2 (some .boolean) 1 := ⟨wc_X5_isTown, wn_X5, wi_X5_isTown, wv_X5_isTown, by decide +kernel, by decide +kernel⟩
theorem mt_X5_townOf : MTv yX5_townOf cX5_townOf 3 (some .int) 2 := ⟨wc_X5_townOf, wn_X5, wi_X5_townOf, wv_X5_townOf, by decide +kernel, by decide +kernel⟩
theorem mt_X5_dateIn : MTv yX5_dateIn cX5_dateIn 3 (some .int) 2 := ⟨wc_X5_dateIn, wn_X5, wi_X5_dateIn, wv_X5_dateIn, by decide +kernel, by decide +kernel⟩
theorem mt_X5_take : MTv yX5_take cX5_take 2 none 1 := ⟨wc_X5_take, wn_X5, wi_X5_take, wv_X5_take, by decide +kernel, by decide +kernel⟩
theorem mt_X5_dateOfDay : MTv yX5_dateOfDay cX5_dateOfDay 2 (some .int) 1 := ⟨wc_X5_dateOfDay, wn_X5, wi_X5_dateOfDay, wv_X5_dateOfDay, by decide +kernel, by decide +kernel⟩
theorem mt_X5_countOfDay : MTv yX5_countOfDay cX5_countOfDay 3 (some .int) 1 := ⟨wc_X5_countOfDay, wn_X5, wi_X5_countOfDay, wv_X5_countOfDay, by decide +kernel, by decide +kernel⟩
theorem mt_X5_cuts : MTv yX5_cuts cX5_cuts 1 (some .boolean) 0 := ⟨wc_X5_cuts, wn_X5, wi_X5_cuts, wv_X5_cuts, by decide +kernel, by decide +kernel⟩
theorem mt_X5_dateOfCount : MTv yX5_dateOfCount cX5_dateOfCount 3 (some .int) 1 := ⟨wc_X5_dateOfCount, wn_X5, wi_X5_dateOfCount, wv_X5_dateOfCount, by decide +kernel, by decide +kernel⟩
theorem mt_X5_beginOf : MTv yX5_beginOf cX5_beginOf 2 (some .int) 1 := ⟨wc_X5_beginOf, wn_X5, wi_X5_beginOf, wv_X5_beginOf, by decide +kernel, by decide +kernel⟩
theorem mt_X5_leaps : MTv yX5_leaps cX5_leaps 1 (some .boolean) 0 := ⟨wc_X5_leaps, wn_X5, wi_X5_leaps, wv_X5_leaps, by decide +kernel, by decide +kernel⟩
theorem mt_X5_mark : MTv yX5_mark cX5_mark 3 (some .int) 2 := ⟨wc_X5_mark, wn_X5, wi_X5_mark, wv_X5_mark, by decide +kernel, by decide +kernel⟩
theorem mt_X5_isA : MTv yX5_isA cX5_isA 4 (some .boolean) 2 := ⟨wc_X5_isA, wn_X5, wi_X5_isA, wv_X5_isA, by decide +kernel, by decide +kernel⟩
theorem mt_X5_marked : MTv yX5_marked cX5_marked 4 (some .int) 2 := ⟨wc_X5_marked, wn_X5, wi_X5_marked, wv_X5_marked, by decide +kernel, by decide +kernel⟩
theorem mt_X5_greater : MTs yX5_greater cX5_greater 2 (some .int) 2 := ⟨wc_X5_greater, wn_X5, ws_X5_greater, by decide +kernel, by decide +kernel⟩
theorem mt_X5_order : MTv yX5_order cX5_order 4 (some .int) 2 := ⟨wc_X5_order, wn_X5, wi_X5_order, wv_X5_order, by decide +kernel, by decide +kernel⟩
theorem mt_X5_gap : MTv yX5_gap cX5_gap 4 (some .int) 2 := ⟨wc_X5_gap, wn_X5, wi_X5_gap, wv_X5_gap, by decide +kernel, by decide +kernel⟩
theorem mt_X5_leap : MTv yX5_leap cX5_leap 4 (some .int) 2 := ⟨wc_X5_leap, wn_X5, wi_X5_leap, wv_X5_leap, by decide +kernel, by decide +kernel⟩
theorem mt_X5_go : MTv yX5_go cX5_go 2 (some .int) 1 := ⟨wc_X5_go, wn_X5, wi_X5_go, wv_X5_go, by decide +kernel, by decide +kernel⟩
theorem mt_X5_back : MTv yX5_back cX5_back 2 (some .int) 1 := ⟨wc_X5_back, wn_X5, wi_X5_back, wv_X5_back, by decide +kernel, by decide +kernel⟩
theorem mt_X5_keep : MTv yX5_keep cX5_keep 4 (some .int) 1 := ⟨wc_X5_keep, wn_X5, wi_X5_keep, wv_X5_keep, by decide +kernel, by decide +kernel⟩
theorem mt_X5_on : MTv yX5_on cX5_on 4 (some .int) 1 := ⟨wc_X5_on, wn_X5, wi_X5_on, wv_X5_on, by decide +kernel, by decide +kernel⟩
theorem mt_X5_date : MTv yX5_date cX5_date 3 (some .int) 2 := ⟨wc_X5_date, wn_X5, wi_X5_date, wv_X5_date, by decide +kernel, by decide +kernel⟩
theorem mt_X5_isDay : MTs yX5_isDay cX5_isDay 1 (some .boolean) 1 := ⟨wc_X5_isDay, wn_X5, ws_X5_isDay, by decide +kernel, by decide +kernel⟩
theorem mt_X5_day : MTv yX5_day cX5_day 4 (some .int) 2 := ⟨wc_X5_day, wn_X5, wi_X5_day, wv_X5_day, by decide +kernel, by decide +kernel⟩
theorem mt_X5_dayIn : MTv yX5_dayIn cX5_dayIn 3 (some .int) 2 := ⟨wc_X5_dayIn, wn_X5, wi_X5_dayIn, wv_X5_dayIn, by decide +kernel, by decide +kernel⟩
theorem mt_X5_dayOfDate : MTv yX5_dayOfDate cX5_dayOfDate 6 (some .int) 1 := ⟨wc_X5_dayOfDate, wn_X5, wi_X5_dayOfDate, wv_X5_dayOfDate, by decide +kernel, by decide +kernel⟩
theorem mt_X5_yearDays : MTv yX5_yearDays cX5_yearDays 2 (some .int) 1 := ⟨wc_X5_yearDays, wn_X5, wi_X5_yearDays, wv_X5_yearDays, by decide +kernel, by decide +kernel⟩
theorem mt_X5_year : MTv yX5_year cX5_year 5 (some .int) 2 := ⟨wc_X5_year, wn_X5, wi_X5_year, wv_X5_year, by decide +kernel, by decide +kernel⟩
theorem mt_X5_same : MTv yX5_same cX5_same 5 (some .int) 3 := ⟨wc_X5_same, wn_X5, wi_X5_same, wv_X5_same, by decide +kernel, by decide +kernel⟩
theorem mt_X5_between : MTv yX5_between cX5_between 6 (some .int) 3 := ⟨wc_X5_between, wn_X5, wi_X5_between, wv_X5_between, by decide +kernel, by decide +kernel⟩
theorem mt_X5_where : MTv yX5_where cX5_where 7 (some .int) 2 := ⟨wc_X5_where, wn_X5, wi_X5_where, wv_X5_where, by decide +kernel, by decide +kernel⟩
theorem mt_X5_left : MTv yX5_left cX5_left 5 (some .int) 2 := ⟨wc_X5_left, wn_X5, wi_X5_left, wv_X5_left, by decide +kernel, by decide +kernel⟩
theorem mt_X5_dates : MTv yX5_dates cX5_dates 6 (some .int) 4 := ⟨wc_X5_dates, wn_X5, wi_X5_dates, wv_X5_dates, by decide +kernel, by decide +kernel⟩
theorem mt_X5_areDays : MTs yX5_areDays cX5_areDays 2 (some .boolean) 2 := ⟨wc_X5_areDays, wn_X5, ws_X5_areDays, by decide +kernel, by decide +kernel⟩
theorem mt_X5_age : MTv yX5_age cX5_age 4 (some .int) 2 := ⟨wc_X5_age, wn_X5, wi_X5_age, wv_X5_age, by decide +kernel, by decide +kernel⟩
theorem mt_X5_ageOf : MTv yX5_ageOf cX5_ageOf 5 (some .int) 1 := ⟨wc_X5_ageOf, wn_X5, wi_X5_ageOf, wv_X5_ageOf, by decide +kernel, by decide +kernel⟩
theorem mt_X5_eldest : MTv yX5_eldest cX5_eldest 6 (some .int) 1 := ⟨wc_X5_eldest, wn_X5, wi_X5_eldest, wv_X5_eldest, by decide +kernel, by decide +kernel⟩
theorem mt_X5_agree : MTv yX5_agree cX5_agree 9 (some .int) 4 := ⟨wc_X5_agree, wn_X5, wi_X5_agree, wv_X5_agree, by decide +kernel, by decide +kernel⟩
theorem mt_X5_doAgree : MTv yX5_doAgree cX5_doAgree 4 (some .boolean) 3 := ⟨wc_X5_doAgree, wn_X5, wi_X5_doAgree, wv_X5_doAgree, by decide +kernel, by decide +kernel⟩
theorem mt_X5_till : MTv yX5_till cX5_till 4 (some .int) 2 := ⟨wc_X5_till, wn_X5, wi_X5_till, wv_X5_till, by decide +kernel, by decide +kernel⟩
theorem mt_X5_apart : MTv yX5_apart cX5_apart 9 (some .int) 4 := ⟨wc_X5_apart, wn_X5, wi_X5_apart, wv_X5_apart, by decide +kernel, by decide +kernel⟩
theorem mt_X5_countIn : MTv yX5_countIn cX5_countIn 3 (some .int) 2 := ⟨wc_X5_countIn, wn_X5, wi_X5_countIn, wv_X5_countIn, by decide +kernel, by decide +kernel⟩
theorem mt_X5_apartOf : MTs yX5_apartOf cX5_apartOf 2 (some .int) 2 := ⟨wc_X5_apartOf, wn_X5, ws_X5_apartOf, by decide +kernel, by decide +kernel⟩
theorem mt_X5_due : MTv yX5_due cX5_due 5 (some .int) 3 := ⟨wc_X5_due, wn_X5, wi_X5_due, wv_X5_due, by decide +kernel, by decide +kernel⟩
theorem mt_X5_quarrels : MTv yX5_quarrels cX5_quarrels 5 (some .int) 1 := ⟨wc_X5_quarrels, wn_X5, wi_X5_quarrels, wv_X5_quarrels, by decide +kernel, by decide +kernel⟩
theorem mt_X5_askedContracts : MTv yX5_askedContracts cX5_askedContracts 6 (some .int) 2 := ⟨wc_X5_askedContracts, wn_X5, wi_X5_askedContracts, wv_X5_askedContracts, by decide +kernel, by decide +kernel⟩
theorem mt_X5_doesQuarrel : MTv yX5_doesQuarrel cX5_doesQuarrel 5 (some .boolean) 2 := ⟨wc_X5_doesQuarrel, wn_X5, wi_X5_doesQuarrel, wv_X5_doesQuarrel, by decide +kernel, by decide +kernel⟩
theorem mt_X5_quarrelMany : MTv yX5_quarrelMany cX5_quarrelMany 4 (some .int) 1 := ⟨wc_X5_quarrelMany, wn_X5, wi_X5_quarrelMany, wv_X5_quarrelMany, by decide +kernel, by decide +kernel⟩
theorem mt_X5_change : MTv yX5_change cX5_change 11 (some .int) 4 := ⟨wc_X5_change, wn_X5, wi_X5_change, wv_X5_change, by decide +kernel, by decide +kernel⟩
theorem mt_X5_rent : MTv yX5_rent cX5_rent 10 (some .int) 4 := ⟨wc_X5_rent, wn_X5, wi_X5_rent, wv_X5_rent, by decide +kernel, by decide +kernel⟩
theorem mt_X5_part : MTv yX5_part cX5_part 11 (some .int) 2 := ⟨wc_X5_part, wn_X5, wi_X5_part, wv_X5_part, by decide +kernel, by decide +kernel⟩
theorem mt_X5_voyage : MTv yX5_voyage cX5_voyage 6 (some .int) 4 := ⟨wc_X5_voyage, wn_X5, wi_X5_voyage, wv_X5_voyage, by decide +kernel, by decide +kernel⟩
theorem mt_X5_dated : MTv yX5_dated cX5_dated 7 (some .int) 3 := ⟨wc_X5_dated, wn_X5, wi_X5_dated, wv_X5_dated, by decide +kernel, by decide +kernel⟩
theorem mt_X5_kinds : MTv yX5_kinds cX5_kinds 8 (some .int) 2 := ⟨wc_X5_kinds, wn_X5, wi_X5_kinds, wv_X5_kinds, by decide +kernel, by decide +kernel⟩
theorem mt_X5_moon : MTv yX5_moon cX5_moon 2 (some .int) 1 := ⟨wc_X5_moon, wn_X5, wi_X5_moon, wv_X5_moon, by decide +kernel, by decide +kernel⟩
theorem mt_X5_tillFull : MTs yX5_tillFull cX5_tillFull 2 (some .int) 1 := ⟨wc_X5_tillFull, wn_X5, ws_X5_tillFull, by decide +kernel, by decide +kernel⟩
theorem mt_X5_feast : MTv yX5_feast cX5_feast 3 (some .int) 2 := ⟨wc_X5_feast, wn_X5, wi_X5_feast, wv_X5_feast, by decide +kernel, by decide +kernel⟩
theorem mt_X5_feastOf : MTv yX5_feastOf cX5_feastOf 6 (some .int) 2 := ⟨wc_X5_feastOf, wn_X5, wi_X5_feastOf, wv_X5_feastOf, by decide +kernel, by decide +kernel⟩
theorem mt_X5_together : MTv yX5_together cX5_together 8 (some .int) 4 := ⟨wc_X5_together, wn_X5, wi_X5_together, wv_X5_together, by decide +kernel, by decide +kernel⟩
theorem mt_X5_keeps : MTv yX5_keeps cX5_keeps 7 (some .int) 3 := ⟨wc_X5_keeps, wn_X5, wi_X5_keeps, wv_X5_keeps, by decide +kernel, by decide +kernel⟩
theorem mt_X5_isOff : MTs yX5_isOff cX5_isOff 5 (some .boolean) 4 := ⟨wc_X5_isOff, wn_X5, ws_X5_isOff, by decide +kernel, by decide +kernel⟩
theorem mt_X5_fails : MTv yX5_fails cX5_fails 5 (some .int) 3 := ⟨wc_X5_fails, wn_X5, wi_X5_fails, wv_X5_fails, by decide +kernel, by decide +kernel⟩
theorem mt_X5_lots : MTv yX5_lots cX5_lots 9 (some .int) 4 := ⟨wc_X5_lots, wn_X5, wi_X5_lots, wv_X5_lots, by decide +kernel, by decide +kernel⟩
theorem mt_X5_asked : MTv yX5_asked cX5_asked 1 (some .int) 0 := ⟨wc_X5_asked, wn_X5, wi_X5_asked, wv_X5_asked, by decide +kernel, by decide +kernel⟩
theorem mt_X5_upper : MTv yX5_upper cX5_upper 1 (some .long) 0 := ⟨wc_X5_upper, wn_X5, wi_X5_upper, wv_X5_upper, by decide +kernel, by decide +kernel⟩
theorem mt_X5_lower : MTv yX5_lower cX5_lower 1 (some .long) 0 := ⟨wc_X5_lower, wn_X5, wi_X5_lower, wv_X5_lower, by decide +kernel, by decide +kernel⟩
theorem mt_X5_count : MTv yX5_count cX5_count 2 (some .int) 1 := ⟨wc_X5_count, wn_X5, wi_X5_count, wv_X5_count, by decide +kernel, by decide +kernel⟩
theorem mt_X5_tells : MTv yX5_tells cX5_tells 5 (some .int) 1 := ⟨wc_X5_tells, wn_X5, wi_X5_tells, wv_X5_tells, by decide +kernel, by decide +kernel⟩
theorem mt_X5_finding : MTv yX5_finding cX5_finding 1 (some .int) 0 := ⟨wc_X5_finding, wn_X5, wi_X5_finding, wv_X5_finding, by decide +kernel, by decide +kernel⟩
theorem mt_X5_findings : MTv yX5_findings cX5_findings 2 (some .int) 1 := ⟨wc_X5_findings, wn_X5, wi_X5_findings, wv_X5_findings, by decide +kernel, by decide +kernel⟩
theorem mt_X5_digest : MTv yX5_digest cX5_digest 3 (some .long) 0 := ⟨wc_X5_digest, wn_X5, wi_X5_digest, wv_X5_digest, by decide +kernel, by decide +kernel⟩
theorem mt_X5_mix : MTv yX5_mix cX5_mix 2 none 1 := ⟨wc_X5_mix, wn_X5, wi_X5_mix, wv_X5_mix, by decide +kernel, by decide +kernel⟩
theorem uw_X0 : ∀ w ∈ u_ws RX0 TX0 4, w ∈ tb := by
  intro w hw
  have h : (u_ws RX0 TX0 4).all (fun w => decide (w ∈ lw_tbl) && goodWord w) = true := by decide +kernel
  have h1 := List.all_eq_true.mp h w hw
  simp only [Bool.and_eq_true, decide_eq_true_eq] at h1
  exact tb_of h1.1 h1.2
theorem uw_X1 : ∀ w ∈ u_ws RX1 TX1 5, w ∈ tb := by
  intro w hw
  have h : (u_ws RX1 TX1 5).all (fun w => decide (w ∈ lw_tbl) && goodWord w) = true := by decide +kernel
  have h1 := List.all_eq_true.mp h w hw
  simp only [Bool.and_eq_true, decide_eq_true_eq] at h1
  exact tb_of h1.1 h1.2
theorem uw_X2 : ∀ w ∈ u_ws RX2 TX2 2, w ∈ tb := by
  intro w hw
  have h : (u_ws RX2 TX2 2).all (fun w => decide (w ∈ lw_tbl) && goodWord w) = true := by decide +kernel
  have h1 := List.all_eq_true.mp h w hw
  simp only [Bool.and_eq_true, decide_eq_true_eq] at h1
  exact tb_of h1.1 h1.2
theorem uw_X3 : ∀ w ∈ u_ws RX3 TX3 2, w ∈ tb := by
  intro w hw
  have h : (u_ws RX3 TX3 2).all (fun w => decide (w ∈ lw_tbl) && goodWord w) = true := by decide +kernel
  have h1 := List.all_eq_true.mp h w hw
  simp only [Bool.and_eq_true, decide_eq_true_eq] at h1
  exact tb_of h1.1 h1.2
theorem uw_X4 : ∀ w ∈ u_ws RX4 TX4 12, w ∈ tb := by
  intro w hw
  have h : (u_ws RX4 TX4 12).all (fun w => decide (w ∈ lw_tbl) && goodWord w) = true := by decide +kernel
  have h1 := List.all_eq_true.mp h w hw
  simp only [Bool.and_eq_true, decide_eq_true_eq] at h1
  exact tb_of h1.1 h1.2
theorem uw_X5 : ∀ w ∈ u_ws RX5 TX5 25, w ∈ tb := by
  intro w hw
  have h : (u_ws RX5 TX5 25).all (fun w => decide (w ∈ lw_tbl) && goodWord w) = true := by decide +kernel
  have h1 := List.all_eq_true.mp h w hw
  simp only [Bool.and_eq_true, decide_eq_true_eq] at h1
  exact tb_of h1.1 h1.2
