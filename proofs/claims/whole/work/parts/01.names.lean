-- ===== PART A: goes FIRST, ahead of the names: the tables' words, and 'selects' of the private methods out of them =====
/-- a private method of a class that the tables say can be made, by its rows of tables_1 -/
def lw_okq (q : MethodName × Nat) : Prop := (q.1.cls ≠ "java/lang/invoke/MethodHandle" ∧ q.1.cls ≠ "java/lang/invoke/VarHandle") ∧ Cond.instantiable q.1.cls q.2 ∈ tables_1 ∧ Cond.privateMethod q.1 ∈ tables_1 ∧ Cond.instanceMethod q.1 ∈ tables_1
theorem lw_p0 : lw_okq (⟨"DeafBell", "error", "(I)I"⟩, 8) := ⟨⟨by decide +kernel, by decide +kernel⟩, List.mem_of_getElem? (i := 23) (by decide +kernel), List.mem_of_getElem? (i := 287) (by decide +kernel), List.mem_of_getElem? (i := 288) (by decide +kernel)⟩
theorem lw_p1 : lw_okq (⟨"DeafBell", "isNoVoice", "(I)Z"⟩, 8) := ⟨⟨by decide +kernel, by decide +kernel⟩, List.mem_of_getElem? (i := 23) (by decide +kernel), List.mem_of_getElem? (i := 304) (by decide +kernel), List.mem_of_getElem? (i := 305) (by decide +kernel)⟩
theorem lw_p2 : lw_okq (⟨"DeafBell$School", "isTaught", "(I)Z"⟩, 17) := ⟨⟨by decide +kernel, by decide +kernel⟩, List.mem_of_getElem? (i := 116) (by decide +kernel), List.mem_of_getElem? (i := 470) (by decide +kernel), List.mem_of_getElem? (i := 471) (by decide +kernel)⟩
theorem lw_p3 : lw_okq (⟨"DeafBell$Reader", "chain", "(II)V"⟩, 8) := ⟨⟨by decide +kernel, by decide +kernel⟩, List.mem_of_getElem? (i := 31) (by decide +kernel), List.mem_of_getElem? (i := 496) (by decide +kernel), List.mem_of_getElem? (i := 497) (by decide +kernel)⟩
theorem lw_p4 : lw_okq (⟨"DeafBell$Reader", "operand", "(I)V"⟩, 8) := ⟨⟨by decide +kernel, by decide +kernel⟩, List.mem_of_getElem? (i := 31) (by decide +kernel), List.mem_of_getElem? (i := 500) (by decide +kernel), List.mem_of_getElem? (i := 501) (by decide +kernel)⟩
theorem lw_p5 : lw_okq (⟨"DeafBell$Reader", "look", "()I"⟩, 8) := ⟨⟨by decide +kernel, by decide +kernel⟩, List.mem_of_getElem? (i := 31) (by decide +kernel), List.mem_of_getElem? (i := 504) (by decide +kernel), List.mem_of_getElem? (i := 505) (by decide +kernel)⟩
theorem lw_p6 : lw_okq (⟨"DeafBell$Reader", "number", "()V"⟩, 8) := ⟨⟨by decide +kernel, by decide +kernel⟩, List.mem_of_getElem? (i := 31) (by decide +kernel), List.mem_of_getElem? (i := 511) (by decide +kernel), List.mem_of_getElem? (i := 512) (by decide +kernel)⟩
theorem lw_p7 : lw_okq (⟨"DeafBell$Reader", "write", "(I)V"⟩, 8) := ⟨⟨by decide +kernel, by decide +kernel⟩, List.mem_of_getElem? (i := 31) (by decide +kernel), List.mem_of_getElem? (i := 515) (by decide +kernel), List.mem_of_getElem? (i := 516) (by decide +kernel)⟩
theorem lw_p8 : lw_okq (⟨"DeafBell$Reader", "opened", "(II)V"⟩, 8) := ⟨⟨by decide +kernel, by decide +kernel⟩, List.mem_of_getElem? (i := 31) (by decide +kernel), List.mem_of_getElem? (i := 519) (by decide +kernel), List.mem_of_getElem? (i := 520) (by decide +kernel)⟩
theorem lw_p9 : lw_okq (⟨"DeafBell$Reader", "name", "(I)V"⟩, 8) := ⟨⟨by decide +kernel, by decide +kernel⟩, List.mem_of_getElem? (i := 31) (by decide +kernel), List.mem_of_getElem? (i := 523) (by decide +kernel), List.mem_of_getElem? (i := 524) (by decide +kernel)⟩
theorem lw_p10 : lw_okq (⟨"DeafBell", "goOn", "(IZ)I"⟩, 8) := ⟨⟨by decide +kernel, by decide +kernel⟩, List.mem_of_getElem? (i := 23) (by decide +kernel), List.mem_of_getElem? (i := 633) (by decide +kernel), List.mem_of_getElem? (i := 634) (by decide +kernel)⟩
theorem lw_p11 : lw_okq (⟨"DeafBell$School", "comeOver", "(IZ)V"⟩, 17) := ⟨⟨by decide +kernel, by decide +kernel⟩, List.mem_of_getElem? (i := 116) (by decide +kernel), List.mem_of_getElem? (i := 641) (by decide +kernel), List.mem_of_getElem? (i := 642) (by decide +kernel)⟩
theorem lw_p12 : lw_okq (⟨"DeafBell$School", "draw", "()I"⟩, 17) := ⟨⟨by decide +kernel, by decide +kernel⟩, List.mem_of_getElem? (i := 116) (by decide +kernel), List.mem_of_getElem? (i := 646) (by decide +kernel), List.mem_of_getElem? (i := 647) (by decide +kernel)⟩
theorem lw_p13 : lw_okq (⟨"DeafBell$School", "quickest", "(I)I"⟩, 17) := ⟨⟨by decide +kernel, by decide +kernel⟩, List.mem_of_getElem? (i := 116) (by decide +kernel), List.mem_of_getElem? (i := 651) (by decide +kernel), List.mem_of_getElem? (i := 652) (by decide +kernel)⟩
theorem lw_p14 : lw_okq (⟨"DeafBell$School", "shoutDue", "()V"⟩, 17) := ⟨⟨by decide +kernel, by decide +kernel⟩, List.mem_of_getElem? (i := 116) (by decide +kernel), List.mem_of_getElem? (i := 657) (by decide +kernel), List.mem_of_getElem? (i := 658) (by decide +kernel)⟩
theorem lw_p15 : lw_okq (⟨"DeafBell", "goAhead", "(I)V"⟩, 8) := ⟨⟨by decide +kernel, by decide +kernel⟩, List.mem_of_getElem? (i := 23) (by decide +kernel), List.mem_of_getElem? (i := 670) (by decide +kernel), List.mem_of_getElem? (i := 671) (by decide +kernel)⟩
def lw_privs_1 : List (MethodName × Nat) := [(⟨"DeafBell", "error", "(I)I"⟩, 8), (⟨"DeafBell", "isNoVoice", "(I)Z"⟩, 8), (⟨"DeafBell$School", "isTaught", "(I)Z"⟩, 17), (⟨"DeafBell$Reader", "chain", "(II)V"⟩, 8), (⟨"DeafBell$Reader", "operand", "(I)V"⟩, 8), (⟨"DeafBell$Reader", "look", "()I"⟩, 8), (⟨"DeafBell$Reader", "number", "()V"⟩, 8), (⟨"DeafBell$Reader", "write", "(I)V"⟩, 8), (⟨"DeafBell$Reader", "opened", "(II)V"⟩, 8), (⟨"DeafBell$Reader", "name", "(I)V"⟩, 8), (⟨"DeafBell", "goOn", "(IZ)I"⟩, 8), (⟨"DeafBell$School", "comeOver", "(IZ)V"⟩, 17), (⟨"DeafBell$School", "draw", "()I"⟩, 17), (⟨"DeafBell$School", "quickest", "(I)I"⟩, 17), (⟨"DeafBell$School", "shoutDue", "()V"⟩, 17), (⟨"DeafBell", "goAhead", "(I)V"⟩, 8)]
theorem lw_r1 : ∀ q ∈ lw_privs_1, lw_okq q := List.forall_mem_cons.mpr ⟨lw_p0, List.forall_mem_cons.mpr ⟨lw_p1, List.forall_mem_cons.mpr ⟨lw_p2, List.forall_mem_cons.mpr ⟨lw_p3, List.forall_mem_cons.mpr ⟨lw_p4, List.forall_mem_cons.mpr ⟨lw_p5, List.forall_mem_cons.mpr ⟨lw_p6, List.forall_mem_cons.mpr ⟨lw_p7, List.forall_mem_cons.mpr ⟨lw_p8, List.forall_mem_cons.mpr ⟨lw_p9, List.forall_mem_cons.mpr ⟨lw_p10, List.forall_mem_cons.mpr ⟨lw_p11, List.forall_mem_cons.mpr ⟨lw_p12, List.forall_mem_cons.mpr ⟨lw_p13, List.forall_mem_cons.mpr ⟨lw_p14, List.forall_mem_cons.mpr ⟨lw_p15, fun _ h => absurd h List.not_mem_nil⟩⟩⟩⟩⟩⟩⟩⟩⟩⟩⟩⟩⟩⟩⟩⟩
theorem lw_p16 : lw_okq (⟨"DeafBell", "isNoSheet", "(I)Z"⟩, 8) := ⟨⟨by decide +kernel, by decide +kernel⟩, List.mem_of_getElem? (i := 23) (by decide +kernel), List.mem_of_getElem? (i := 690) (by decide +kernel), List.mem_of_getElem? (i := 691) (by decide +kernel)⟩
theorem lw_p17 : lw_okq (⟨"DeafBell$Sheet", "gatherThinks", "()V"⟩, 10) := ⟨⟨by decide +kernel, by decide +kernel⟩, List.mem_of_getElem? (i := 191) (by decide +kernel), List.mem_of_getElem? (i := 703) (by decide +kernel), List.mem_of_getElem? (i := 704) (by decide +kernel)⟩
theorem lw_p18 : lw_okq (⟨"DeafBell$Sheet", "isPlaced", "(III)Z"⟩, 10) := ⟨⟨by decide +kernel, by decide +kernel⟩, List.mem_of_getElem? (i := 191) (by decide +kernel), List.mem_of_getElem? (i := 708) (by decide +kernel), List.mem_of_getElem? (i := 709) (by decide +kernel)⟩
theorem lw_p19 : lw_okq (⟨"DeafBell$Sheet", "isFree", "(III)Z"⟩, 10) := ⟨⟨by decide +kernel, by decide +kernel⟩, List.mem_of_getElem? (i := 191) (by decide +kernel), List.mem_of_getElem? (i := 712) (by decide +kernel), List.mem_of_getElem? (i := 713) (by decide +kernel)⟩
theorem lw_p20 : lw_okq (⟨"DeafBell$Sheet", "gatherLines", "()V"⟩, 10) := ⟨⟨by decide +kernel, by decide +kernel⟩, List.mem_of_getElem? (i := 191) (by decide +kernel), List.mem_of_getElem? (i := 724) (by decide +kernel), List.mem_of_getElem? (i := 725) (by decide +kernel)⟩
theorem lw_p21 : lw_okq (⟨"DeafBell$Sheet", "fitsGap", "(I)Z"⟩, 10) := ⟨⟨by decide +kernel, by decide +kernel⟩, List.mem_of_getElem? (i := 191) (by decide +kernel), List.mem_of_getElem? (i := 728) (by decide +kernel), List.mem_of_getElem? (i := 729) (by decide +kernel)⟩
theorem lw_p22 : lw_okq (⟨"DeafBell$Sheet", "secondOn", "(III)I"⟩, 10) := ⟨⟨by decide +kernel, by decide +kernel⟩, List.mem_of_getElem? (i := 191) (by decide +kernel), List.mem_of_getElem? (i := 732) (by decide +kernel), List.mem_of_getElem? (i := 733) (by decide +kernel)⟩
theorem lw_p23 : lw_okq (⟨"DeafBell", "taughtAhead", "(II)I"⟩, 8) := ⟨⟨by decide +kernel, by decide +kernel⟩, List.mem_of_getElem? (i := 23) (by decide +kernel), List.mem_of_getElem? (i := 770) (by decide +kernel), List.mem_of_getElem? (i := 771) (by decide +kernel)⟩
theorem lw_p24 : lw_okq (⟨"DeafBellModel", "finds", "(I)I"⟩, 26) := ⟨⟨by decide +kernel, by decide +kernel⟩, List.mem_of_getElem? (i := 929) (by decide +kernel), List.mem_of_getElem? (i := 1022) (by decide +kernel), List.mem_of_getElem? (i := 1023) (by decide +kernel)⟩
theorem lw_p25 : lw_okq (⟨"DeafBellModel", "worked", "(III)I"⟩, 26) := ⟨⟨by decide +kernel, by decide +kernel⟩, List.mem_of_getElem? (i := 929) (by decide +kernel), List.mem_of_getElem? (i := 1032) (by decide +kernel), List.mem_of_getElem? (i := 1033) (by decide +kernel)⟩
theorem lw_p26 : lw_okq (⟨"DeafBellModel", "either", "()I"⟩, 26) := ⟨⟨by decide +kernel, by decide +kernel⟩, List.mem_of_getElem? (i := 929) (by decide +kernel), List.mem_of_getElem? (i := 1036) (by decide +kernel), List.mem_of_getElem? (i := 1037) (by decide +kernel)⟩
theorem lw_p27 : lw_okq (⟨"DeafBellModel", "both", "()I"⟩, 26) := ⟨⟨by decide +kernel, by decide +kernel⟩, List.mem_of_getElem? (i := 929) (by decide +kernel), List.mem_of_getElem? (i := 1040) (by decide +kernel), List.mem_of_getElem? (i := 1041) (by decide +kernel)⟩
theorem lw_p28 : lw_okq (⟨"DeafBellModel", "compared", "()I"⟩, 26) := ⟨⟨by decide +kernel, by decide +kernel⟩, List.mem_of_getElem? (i := 929) (by decide +kernel), List.mem_of_getElem? (i := 1044) (by decide +kernel), List.mem_of_getElem? (i := 1045) (by decide +kernel)⟩
theorem lw_p29 : lw_okq (⟨"DeafBellModel", "sum", "()I"⟩, 26) := ⟨⟨by decide +kernel, by decide +kernel⟩, List.mem_of_getElem? (i := 929) (by decide +kernel), List.mem_of_getElem? (i := 1048) (by decide +kernel), List.mem_of_getElem? (i := 1049) (by decide +kernel)⟩
theorem lw_p30 : lw_okq (⟨"DeafBellModel", "product", "()I"⟩, 26) := ⟨⟨by decide +kernel, by decide +kernel⟩, List.mem_of_getElem? (i := 929) (by decide +kernel), List.mem_of_getElem? (i := 1052) (by decide +kernel), List.mem_of_getElem? (i := 1053) (by decide +kernel)⟩
theorem lw_p31 : lw_okq (⟨"DeafBellModel", "unit", "()I"⟩, 26) := ⟨⟨by decide +kernel, by decide +kernel⟩, List.mem_of_getElem? (i := 929) (by decide +kernel), List.mem_of_getElem? (i := 1056) (by decide +kernel), List.mem_of_getElem? (i := 1057) (by decide +kernel)⟩
def lw_privs_2 : List (MethodName × Nat) := [(⟨"DeafBell", "isNoSheet", "(I)Z"⟩, 8), (⟨"DeafBell$Sheet", "gatherThinks", "()V"⟩, 10), (⟨"DeafBell$Sheet", "isPlaced", "(III)Z"⟩, 10), (⟨"DeafBell$Sheet", "isFree", "(III)Z"⟩, 10), (⟨"DeafBell$Sheet", "gatherLines", "()V"⟩, 10), (⟨"DeafBell$Sheet", "fitsGap", "(I)Z"⟩, 10), (⟨"DeafBell$Sheet", "secondOn", "(III)I"⟩, 10), (⟨"DeafBell", "taughtAhead", "(II)I"⟩, 8), (⟨"DeafBellModel", "finds", "(I)I"⟩, 26), (⟨"DeafBellModel", "worked", "(III)I"⟩, 26), (⟨"DeafBellModel", "either", "()I"⟩, 26), (⟨"DeafBellModel", "both", "()I"⟩, 26), (⟨"DeafBellModel", "compared", "()I"⟩, 26), (⟨"DeafBellModel", "sum", "()I"⟩, 26), (⟨"DeafBellModel", "product", "()I"⟩, 26), (⟨"DeafBellModel", "unit", "()I"⟩, 26)]
theorem lw_r2 : ∀ q ∈ lw_privs_2, lw_okq q := List.forall_mem_cons.mpr ⟨lw_p16, List.forall_mem_cons.mpr ⟨lw_p17, List.forall_mem_cons.mpr ⟨lw_p18, List.forall_mem_cons.mpr ⟨lw_p19, List.forall_mem_cons.mpr ⟨lw_p20, List.forall_mem_cons.mpr ⟨lw_p21, List.forall_mem_cons.mpr ⟨lw_p22, List.forall_mem_cons.mpr ⟨lw_p23, List.forall_mem_cons.mpr ⟨lw_p24, List.forall_mem_cons.mpr ⟨lw_p25, List.forall_mem_cons.mpr ⟨lw_p26, List.forall_mem_cons.mpr ⟨lw_p27, List.forall_mem_cons.mpr ⟨lw_p28, List.forall_mem_cons.mpr ⟨lw_p29, List.forall_mem_cons.mpr ⟨lw_p30, List.forall_mem_cons.mpr ⟨lw_p31, fun _ h => absurd h List.not_mem_nil⟩⟩⟩⟩⟩⟩⟩⟩⟩⟩⟩⟩⟩⟩⟩⟩
theorem lw_p32 : lw_okq (⟨"DeafBellModel", "here", "()I"⟩, 26) := ⟨⟨by decide +kernel, by decide +kernel⟩, List.mem_of_getElem? (i := 929) (by decide +kernel), List.mem_of_getElem? (i := 1060) (by decide +kernel), List.mem_of_getElem? (i := 1061) (by decide +kernel)⟩
theorem lw_p33 : lw_okq (⟨"DeafBellModel", "wrong", "()I"⟩, 26) := ⟨⟨by decide +kernel, by decide +kernel⟩, List.mem_of_getElem? (i := 929) (by decide +kernel), List.mem_of_getElem? (i := 1064) (by decide +kernel), List.mem_of_getElem? (i := 1065) (by decide +kernel)⟩
theorem lw_p34 : lw_okq (⟨"DeafBellModel", "takes", "(I)Z"⟩, 26) := ⟨⟨by decide +kernel, by decide +kernel⟩, List.mem_of_getElem? (i := 929) (by decide +kernel), List.mem_of_getElem? (i := 1068) (by decide +kernel), List.mem_of_getElem? (i := 1069) (by decide +kernel)⟩
theorem lw_p35 : lw_okq (⟨"DeafBellModel", "nameOf", "(I)I"⟩, 26) := ⟨⟨by decide +kernel, by decide +kernel⟩, List.mem_of_getElem? (i := 929) (by decide +kernel), List.mem_of_getElem? (i := 1072) (by decide +kernel), List.mem_of_getElem? (i := 1073) (by decide +kernel)⟩
theorem lw_p36 : lw_okq (⟨"DeafBellModel", "gives", "(IIIII)I"⟩, 26) := ⟨⟨by decide +kernel, by decide +kernel⟩, List.mem_of_getElem? (i := 929) (by decide +kernel), List.mem_of_getElem? (i := 1082) (by decide +kernel), List.mem_of_getElem? (i := 1083) (by decide +kernel)⟩
theorem lw_p37 : lw_okq (⟨"DeafBellModel", "isVoice", "(I)Z"⟩, 26) := ⟨⟨by decide +kernel, by decide +kernel⟩, List.mem_of_getElem? (i := 929) (by decide +kernel), List.mem_of_getElem? (i := 1105) (by decide +kernel), List.mem_of_getElem? (i := 1106) (by decide +kernel)⟩
theorem lw_p38 : lw_okq (⟨"DeafBellModel", "of", "(II)I"⟩, 26) := ⟨⟨by decide +kernel, by decide +kernel⟩, List.mem_of_getElem? (i := 929) (by decide +kernel), List.mem_of_getElem? (i := 1110) (by decide +kernel), List.mem_of_getElem? (i := 1111) (by decide +kernel)⟩
theorem lw_p39 : lw_okq (⟨"DeafBellModel", "thinksOf", "(I)I"⟩, 26) := ⟨⟨by decide +kernel, by decide +kernel⟩, List.mem_of_getElem? (i := 929) (by decide +kernel), List.mem_of_getElem? (i := 1114) (by decide +kernel), List.mem_of_getElem? (i := 1115) (by decide +kernel)⟩
theorem lw_p40 : lw_okq (⟨"DeafBellModel", "carriesOf", "(II)I"⟩, 26) := ⟨⟨by decide +kernel, by decide +kernel⟩, List.mem_of_getElem? (i := 929) (by decide +kernel), List.mem_of_getElem? (i := 1126) (by decide +kernel), List.mem_of_getElem? (i := 1127) (by decide +kernel)⟩
theorem lw_p41 : lw_okq (⟨"DeafBellModel", "saysOf", "(II)I"⟩, 26) := ⟨⟨by decide +kernel, by decide +kernel⟩, List.mem_of_getElem? (i := 929) (by decide +kernel), List.mem_of_getElem? (i := 1134) (by decide +kernel), List.mem_of_getElem? (i := 1135) (by decide +kernel)⟩
theorem lw_p42 : lw_okq (⟨"DeafBellModel", "shouts", "(III)I"⟩, 26) := ⟨⟨by decide +kernel, by decide +kernel⟩, List.mem_of_getElem? (i := 929) (by decide +kernel), List.mem_of_getElem? (i := 1158) (by decide +kernel), List.mem_of_getElem? (i := 1159) (by decide +kernel)⟩
theorem lw_p43 : lw_okq (⟨"DeafBellModel", "gap", "()I"⟩, 26) := ⟨⟨by decide +kernel, by decide +kernel⟩, List.mem_of_getElem? (i := 929) (by decide +kernel), List.mem_of_getElem? (i := 1162) (by decide +kernel), List.mem_of_getElem? (i := 1163) (by decide +kernel)⟩
theorem lw_p44 : lw_okq (⟨"DeafBellModel", "isShout", "(I)Z"⟩, 26) := ⟨⟨by decide +kernel, by decide +kernel⟩, List.mem_of_getElem? (i := 929) (by decide +kernel), List.mem_of_getElem? (i := 1170) (by decide +kernel), List.mem_of_getElem? (i := 1171) (by decide +kernel)⟩
theorem lw_p45 : lw_okq (⟨"DeafBellModel", "ofIt", "(II)I"⟩, 26) := ⟨⟨by decide +kernel, by decide +kernel⟩, List.mem_of_getElem? (i := 929) (by decide +kernel), List.mem_of_getElem? (i := 1175) (by decide +kernel), List.mem_of_getElem? (i := 1176) (by decide +kernel)⟩
theorem lw_p46 : lw_okq (⟨"DeafBellModel", "isTaught", "(I)Z"⟩, 26) := ⟨⟨by decide +kernel, by decide +kernel⟩, List.mem_of_getElem? (i := 929) (by decide +kernel), List.mem_of_getElem? (i := 1187) (by decide +kernel), List.mem_of_getElem? (i := 1188) (by decide +kernel)⟩
theorem lw_p47 : lw_okq (⟨"DeafBellModel", "goes", "(IZ)I"⟩, 26) := ⟨⟨by decide +kernel, by decide +kernel⟩, List.mem_of_getElem? (i := 929) (by decide +kernel), List.mem_of_getElem? (i := 1199) (by decide +kernel), List.mem_of_getElem? (i := 1200) (by decide +kernel)⟩
def lw_privs_3 : List (MethodName × Nat) := [(⟨"DeafBellModel", "here", "()I"⟩, 26), (⟨"DeafBellModel", "wrong", "()I"⟩, 26), (⟨"DeafBellModel", "takes", "(I)Z"⟩, 26), (⟨"DeafBellModel", "nameOf", "(I)I"⟩, 26), (⟨"DeafBellModel", "gives", "(IIIII)I"⟩, 26), (⟨"DeafBellModel", "isVoice", "(I)Z"⟩, 26), (⟨"DeafBellModel", "of", "(II)I"⟩, 26), (⟨"DeafBellModel", "thinksOf", "(I)I"⟩, 26), (⟨"DeafBellModel", "carriesOf", "(II)I"⟩, 26), (⟨"DeafBellModel", "saysOf", "(II)I"⟩, 26), (⟨"DeafBellModel", "shouts", "(III)I"⟩, 26), (⟨"DeafBellModel", "gap", "()I"⟩, 26), (⟨"DeafBellModel", "isShout", "(I)Z"⟩, 26), (⟨"DeafBellModel", "ofIt", "(II)I"⟩, 26), (⟨"DeafBellModel", "isTaught", "(I)Z"⟩, 26), (⟨"DeafBellModel", "goes", "(IZ)I"⟩, 26)]
theorem lw_r3 : ∀ q ∈ lw_privs_3, lw_okq q := List.forall_mem_cons.mpr ⟨lw_p32, List.forall_mem_cons.mpr ⟨lw_p33, List.forall_mem_cons.mpr ⟨lw_p34, List.forall_mem_cons.mpr ⟨lw_p35, List.forall_mem_cons.mpr ⟨lw_p36, List.forall_mem_cons.mpr ⟨lw_p37, List.forall_mem_cons.mpr ⟨lw_p38, List.forall_mem_cons.mpr ⟨lw_p39, List.forall_mem_cons.mpr ⟨lw_p40, List.forall_mem_cons.mpr ⟨lw_p41, List.forall_mem_cons.mpr ⟨lw_p42, List.forall_mem_cons.mpr ⟨lw_p43, List.forall_mem_cons.mpr ⟨lw_p44, List.forall_mem_cons.mpr ⟨lw_p45, List.forall_mem_cons.mpr ⟨lw_p46, List.forall_mem_cons.mpr ⟨lw_p47, fun _ h => absurd h List.not_mem_nil⟩⟩⟩⟩⟩⟩⟩⟩⟩⟩⟩⟩⟩⟩⟩⟩
theorem lw_p48 : lw_okq (⟨"DeafBellModel", "goesBy", "(Z)V"⟩, 26) := ⟨⟨by decide +kernel, by decide +kernel⟩, List.mem_of_getElem? (i := 929) (by decide +kernel), List.mem_of_getElem? (i := 1204) (by decide +kernel), List.mem_of_getElem? (i := 1205) (by decide +kernel)⟩
theorem lw_p49 : lw_okq (⟨"DeafBellModel", "comesOver", "(IZ)V"⟩, 26) := ⟨⟨by decide +kernel, by decide +kernel⟩, List.mem_of_getElem? (i := 929) (by decide +kernel), List.mem_of_getElem? (i := 1208) (by decide +kernel), List.mem_of_getElem? (i := 1209) (by decide +kernel)⟩
theorem lw_p50 : lw_okq (⟨"DeafBellModel", "drawn", "()I"⟩, 26) := ⟨⟨by decide +kernel, by decide +kernel⟩, List.mem_of_getElem? (i := 929) (by decide +kernel), List.mem_of_getElem? (i := 1212) (by decide +kernel), List.mem_of_getElem? (i := 1213) (by decide +kernel)⟩
theorem lw_p51 : lw_okq (⟨"DeafBellModel", "quickest", "(I)I"⟩, 26) := ⟨⟨by decide +kernel, by decide +kernel⟩, List.mem_of_getElem? (i := 929) (by decide +kernel), List.mem_of_getElem? (i := 1217) (by decide +kernel), List.mem_of_getElem? (i := 1218) (by decide +kernel)⟩
theorem lw_p52 : lw_okq (⟨"DeafBellModel", "answers", "()V"⟩, 26) := ⟨⟨by decide +kernel, by decide +kernel⟩, List.mem_of_getElem? (i := 929) (by decide +kernel), List.mem_of_getElem? (i := 1221) (by decide +kernel), List.mem_of_getElem? (i := 1222) (by decide +kernel)⟩
theorem lw_p53 : lw_okq (⟨"DeafBellModel", "goesOn", "(I)V"⟩, 26) := ⟨⟨by decide +kernel, by decide +kernel⟩, List.mem_of_getElem? (i := 929) (by decide +kernel), List.mem_of_getElem? (i := 1236) (by decide +kernel), List.mem_of_getElem? (i := 1237) (by decide +kernel)⟩
theorem lw_p54 : lw_okq (⟨"DeafBellModel", "whyNot", "(I)I"⟩, 26) := ⟨⟨by decide +kernel, by decide +kernel⟩, List.mem_of_getElem? (i := 929) (by decide +kernel), List.mem_of_getElem? (i := 1264) (by decide +kernel), List.mem_of_getElem? (i := 1265) (by decide +kernel)⟩
theorem lw_p55 : lw_okq (⟨"DeafBellModel", "fitsBy", "(I)Z"⟩, 26) := ⟨⟨by decide +kernel, by decide +kernel⟩, List.mem_of_getElem? (i := 929) (by decide +kernel), List.mem_of_getElem? (i := 1268) (by decide +kernel), List.mem_of_getElem? (i := 1269) (by decide +kernel)⟩
theorem lw_p56 : lw_okq (⟨"DeafBellModel", "nextFor", "(II)I"⟩, 26) := ⟨⟨by decide +kernel, by decide +kernel⟩, List.mem_of_getElem? (i := 929) (by decide +kernel), List.mem_of_getElem? (i := 1272) (by decide +kernel), List.mem_of_getElem? (i := 1273) (by decide +kernel)⟩
theorem lw_p57 : lw_okq (⟨"DeafBellModel", "fitsAt", "(II)Z"⟩, 26) := ⟨⟨by decide +kernel, by decide +kernel⟩, List.mem_of_getElem? (i := 929) (by decide +kernel), List.mem_of_getElem? (i := 1276) (by decide +kernel), List.mem_of_getElem? (i := 1277) (by decide +kernel)⟩
theorem lw_p58 : lw_okq (⟨"DeafBellModel", "fits", "(I)Z"⟩, 26) := ⟨⟨by decide +kernel, by decide +kernel⟩, List.mem_of_getElem? (i := 929) (by decide +kernel), List.mem_of_getElem? (i := 1285) (by decide +kernel), List.mem_of_getElem? (i := 1286) (by decide +kernel)⟩
theorem lw_p59 : lw_okq (⟨"DeafBellModel", "taughtBy", "(II)I"⟩, 26) := ⟨⟨by decide +kernel, by decide +kernel⟩, List.mem_of_getElem? (i := 929) (by decide +kernel), List.mem_of_getElem? (i := 1304) (by decide +kernel), List.mem_of_getElem? (i := 1305) (by decide +kernel)⟩
theorem lw_p60 : lw_okq (⟨"DeafBellModel", "own", "()I"⟩, 26) := ⟨⟨by decide +kernel, by decide +kernel⟩, List.mem_of_getElem? (i := 929) (by decide +kernel), List.mem_of_getElem? (i := 1316) (by decide +kernel), List.mem_of_getElem? (i := 1317) (by decide +kernel)⟩
theorem lw_p61 : lw_okq (⟨"DeafBellModel", "calls", "(II)I"⟩, 26) := ⟨⟨by decide +kernel, by decide +kernel⟩, List.mem_of_getElem? (i := 929) (by decide +kernel), List.mem_of_getElem? (i := 1320) (by decide +kernel), List.mem_of_getElem? (i := 1321) (by decide +kernel)⟩
theorem lw_p62 : lw_okq (⟨"DeafBellModel", "ran", "(I)V"⟩, 26) := ⟨⟨by decide +kernel, by decide +kernel⟩, List.mem_of_getElem? (i := 929) (by decide +kernel), List.mem_of_getElem? (i := 1324) (by decide +kernel), List.mem_of_getElem? (i := 1325) (by decide +kernel)⟩
theorem lw_p63 : lw_okq (⟨"DeafBellModel", "hears", "(II)I"⟩, 26) := ⟨⟨by decide +kernel, by decide +kernel⟩, List.mem_of_getElem? (i := 929) (by decide +kernel), List.mem_of_getElem? (i := 1328) (by decide +kernel), List.mem_of_getElem? (i := 1329) (by decide +kernel)⟩
def lw_privs_4 : List (MethodName × Nat) := [(⟨"DeafBellModel", "goesBy", "(Z)V"⟩, 26), (⟨"DeafBellModel", "comesOver", "(IZ)V"⟩, 26), (⟨"DeafBellModel", "drawn", "()I"⟩, 26), (⟨"DeafBellModel", "quickest", "(I)I"⟩, 26), (⟨"DeafBellModel", "answers", "()V"⟩, 26), (⟨"DeafBellModel", "goesOn", "(I)V"⟩, 26), (⟨"DeafBellModel", "whyNot", "(I)I"⟩, 26), (⟨"DeafBellModel", "fitsBy", "(I)Z"⟩, 26), (⟨"DeafBellModel", "nextFor", "(II)I"⟩, 26), (⟨"DeafBellModel", "fitsAt", "(II)Z"⟩, 26), (⟨"DeafBellModel", "fits", "(I)Z"⟩, 26), (⟨"DeafBellModel", "taughtBy", "(II)I"⟩, 26), (⟨"DeafBellModel", "own", "()I"⟩, 26), (⟨"DeafBellModel", "calls", "(II)I"⟩, 26), (⟨"DeafBellModel", "ran", "(I)V"⟩, 26), (⟨"DeafBellModel", "hears", "(II)I"⟩, 26)]
theorem lw_r4 : ∀ q ∈ lw_privs_4, lw_okq q := List.forall_mem_cons.mpr ⟨lw_p48, List.forall_mem_cons.mpr ⟨lw_p49, List.forall_mem_cons.mpr ⟨lw_p50, List.forall_mem_cons.mpr ⟨lw_p51, List.forall_mem_cons.mpr ⟨lw_p52, List.forall_mem_cons.mpr ⟨lw_p53, List.forall_mem_cons.mpr ⟨lw_p54, List.forall_mem_cons.mpr ⟨lw_p55, List.forall_mem_cons.mpr ⟨lw_p56, List.forall_mem_cons.mpr ⟨lw_p57, List.forall_mem_cons.mpr ⟨lw_p58, List.forall_mem_cons.mpr ⟨lw_p59, List.forall_mem_cons.mpr ⟨lw_p60, List.forall_mem_cons.mpr ⟨lw_p61, List.forall_mem_cons.mpr ⟨lw_p62, List.forall_mem_cons.mpr ⟨lw_p63, fun _ h => absurd h List.not_mem_nil⟩⟩⟩⟩⟩⟩⟩⟩⟩⟩⟩⟩⟩⟩⟩⟩
theorem lw_p64 : lw_okq (⟨"DeafBellModel", "waits", "(II)I"⟩, 26) := ⟨⟨by decide +kernel, by decide +kernel⟩, List.mem_of_getElem? (i := 929) (by decide +kernel), List.mem_of_getElem? (i := 1332) (by decide +kernel), List.mem_of_getElem? (i := 1333) (by decide +kernel)⟩
theorem lw_p65 : lw_okq (⟨"DeafBellModel", "tells", "(II)I"⟩, 26) := ⟨⟨by decide +kernel, by decide +kernel⟩, List.mem_of_getElem? (i := 929) (by decide +kernel), List.mem_of_getElem? (i := 1336) (by decide +kernel), List.mem_of_getElem? (i := 1337) (by decide +kernel)⟩
def lw_privs_5 : List (MethodName × Nat) := [(⟨"DeafBellModel", "waits", "(II)I"⟩, 26), (⟨"DeafBellModel", "tells", "(II)I"⟩, 26)]
theorem lw_r5 : ∀ q ∈ lw_privs_5, lw_okq q := List.forall_mem_cons.mpr ⟨lw_p64, List.forall_mem_cons.mpr ⟨lw_p65, fun _ h => absurd h List.not_mem_nil⟩⟩
def lw_privs : List (MethodName × Nat) := lw_privs_1 ++ (lw_privs_2 ++ (lw_privs_3 ++ (lw_privs_4 ++ (lw_privs_5))))
def lw_tbl : List Cond := k2_sels lw_privs ++ tables_1
theorem lw_privs_ok : ∀ q ∈ lw_privs, lw_okq q := by
  show ∀ q ∈ lw_privs_1 ++ (lw_privs_2 ++ (lw_privs_3 ++ (lw_privs_4 ++ (lw_privs_5)))), lw_okq q
  exact List.forall_mem_append.mpr ⟨lw_r1, List.forall_mem_append.mpr ⟨lw_r2, List.forall_mem_append.mpr ⟨lw_r3, List.forall_mem_append.mpr ⟨lw_r4, lw_r5⟩⟩⟩⟩
def RX0 : String := "DeafBell$Acting"
def TX0 : u_T := fun k => match k with
  | 0 => ("DeafBell$Acting", "n", "I", false)
  | 1 => ("DeafBell$Acting", "m", "I", false)
  | 2 => ("DeafBell$Acting", "begun", "I", false)
  | _ => ("DeafBell$Acting", "bodies", "[I", true)
def tyX0 : Nat → FieldType := fun k => match k with
  | 0 => .int
  | 1 => .int
  | 2 => .int
  | _ => .array .int
abbrev wsX00 : List Cond := u_ws RX0 TX0 4
theorem nmX0 : ∀ a, a < 4 → ∀ b, b < 4 → a ≠ b → (TX0 a).2.1 ≠ (TX0 b).2.1 := by decide +kernel
theorem tyX0_ok : ∀ k, k < 4 → parseFieldDescriptor (TX0 k).2.2.1 = some (tyX0 k) := by decide +kernel
abbrev cX0_init : ByteArray := prog_2_method_1_code
def yX0_init : MethodName := ⟨RX0, "<init>", "()V"⟩
abbrev cX0_begin : ByteArray := prog_2_method_2_code
def yX0_begin : MethodName := ⟨RX0, "begin", "(II)V"⟩
abbrev cX0_began : ByteArray := prog_2_method_3_code
def yX0_began : MethodName := ⟨RX0, "began", "(I)V"⟩
def RX1 : String := "DeafBell$Deaf"
def TX1 : u_T := fun k => match k with
  | _ => ("", "", "", false)
def tyX1 : Nat → FieldType := fun k => match k with
  | _ => .int
abbrev wsX10 : List Cond := u_ws RX1 TX1 0
theorem nmX1 : ∀ a, a < 0 → ∀ b, b < 0 → a ≠ b → (TX1 a).2.1 ≠ (TX1 b).2.1 := by decide +kernel
theorem tyX1_ok : ∀ k, k < 0 → parseFieldDescriptor (TX1 k).2.2.1 = some (tyX1 k) := by decide +kernel
abbrev cX1_init : ByteArray := prog_3_method_1_code
def yX1_init : MethodName := ⟨RX1, "<init>", "()V"⟩
abbrev cX1_thinks : ByteArray := prog_3_method_2_code
def yX1_thinks : MethodName := ⟨RX1, "thinks", "(III)I"⟩
abbrev cX1_carry : ByteArray := prog_3_method_3_code
def yX1_carry : MethodName := ⟨RX1, "carry", "(III)I"⟩
abbrev cX1_answer : ByteArray := prog_3_method_4_code
def yX1_answer : MethodName := ⟨RX1, "answer", "(III)I"⟩
abbrev cX1_waits : ByteArray := prog_3_method_5_code
def yX1_waits : MethodName := ⟨RX1, "waits", "(LDeafBell$Acting;I)I"⟩
abbrev cX1_tells : ByteArray := prog_3_method_6_code
def yX1_tells : MethodName := ⟨RX1, "tells", "(LDeafBell$Acting;I)I"⟩
def RX2 : String := "DeafBell$Eager"
def TX2 : u_T := fun k => match k with
  | _ => ("", "", "", false)
def tyX2 : Nat → FieldType := fun k => match k with
  | _ => .int
abbrev wsX20 : List Cond := u_ws RX2 TX2 0
theorem nmX2 : ∀ a, a < 0 → ∀ b, b < 0 → a ≠ b → (TX2 a).2.1 ≠ (TX2 b).2.1 := by decide +kernel
theorem tyX2_ok : ∀ k, k < 0 → parseFieldDescriptor (TX2 k).2.2.1 = some (tyX2 k) := by decide +kernel
abbrev cX2_init : ByteArray := prog_4_method_1_code
def yX2_init : MethodName := ⟨RX2, "<init>", "()V"⟩
abbrev cX2_thinks : ByteArray := prog_4_method_2_code
def yX2_thinks : MethodName := ⟨RX2, "thinks", "(III)I"⟩
abbrev cX2_hears : ByteArray := prog_4_method_3_code
def yX2_hears : MethodName := ⟨RX2, "hears", "(LDeafBell$Acting;I)I"⟩
def RX3 : String := "DeafBell$Guesser"
def TX3 : u_T := fun k => match k with
  | _ => ("", "", "", false)
def tyX3 : Nat → FieldType := fun k => match k with
  | _ => .int
abbrev wsX30 : List Cond := u_ws RX3 TX3 0
theorem nmX3 : ∀ a, a < 0 → ∀ b, b < 0 → a ≠ b → (TX3 a).2.1 ≠ (TX3 b).2.1 := by decide +kernel
theorem tyX3_ok : ∀ k, k < 0 → parseFieldDescriptor (TX3 k).2.2.1 = some (tyX3 k) := by decide +kernel
abbrev cX3_init : ByteArray := prog_5_method_1_code
def yX3_init : MethodName := ⟨RX3, "<init>", "()V"⟩
abbrev cX3_thinks : ByteArray := prog_5_method_2_code
def yX3_thinks : MethodName := ⟨RX3, "thinks", "(III)I"⟩
abbrev cX3_carry : ByteArray := prog_5_method_3_code
def yX3_carry : MethodName := ⟨RX3, "carry", "(III)I"⟩
abbrev cX3_answer : ByteArray := prog_5_method_4_code
def yX3_answer : MethodName := ⟨RX3, "answer", "(III)I"⟩
abbrev cX3_hears : ByteArray := prog_5_method_5_code
def yX3_hears : MethodName := ⟨RX3, "hears", "(LDeafBell$Acting;I)I"⟩
def RX4 : String := "DeafBell$Hoarse"
def TX4 : u_T := fun k => match k with
  | _ => ("", "", "", false)
def tyX4 : Nat → FieldType := fun k => match k with
  | _ => .int
abbrev wsX40 : List Cond := u_ws RX4 TX4 0
theorem nmX4 : ∀ a, a < 0 → ∀ b, b < 0 → a ≠ b → (TX4 a).2.1 ≠ (TX4 b).2.1 := by decide +kernel
theorem tyX4_ok : ∀ k, k < 0 → parseFieldDescriptor (TX4 k).2.2.1 = some (tyX4 k) := by decide +kernel
abbrev cX4_init : ByteArray := prog_6_method_1_code
def yX4_init : MethodName := ⟨RX4, "<init>", "()V"⟩
abbrev cX4_thinks : ByteArray := prog_6_method_2_code
def yX4_thinks : MethodName := ⟨RX4, "thinks", "(III)I"⟩
abbrev cX4_carry : ByteArray := prog_6_method_3_code
def yX4_carry : MethodName := ⟨RX4, "carry", "(III)I"⟩
abbrev cX4_tells : ByteArray := prog_6_method_4_code
def yX4_tells : MethodName := ⟨RX4, "tells", "(LDeafBell$Acting;I)I"⟩
def RX5 : String := "DeafBell$Late"
def TX5 : u_T := fun k => match k with
  | _ => ("", "", "", false)
def tyX5 : Nat → FieldType := fun k => match k with
  | _ => .int
abbrev wsX50 : List Cond := u_ws RX5 TX5 0
theorem nmX5 : ∀ a, a < 0 → ∀ b, b < 0 → a ≠ b → (TX5 a).2.1 ≠ (TX5 b).2.1 := by decide +kernel
theorem tyX5_ok : ∀ k, k < 0 → parseFieldDescriptor (TX5 k).2.2.1 = some (tyX5 k) := by decide +kernel
abbrev cX5_init : ByteArray := prog_7_method_1_code
def yX5_init : MethodName := ⟨RX5, "<init>", "()V"⟩
abbrev cX5_thinks : ByteArray := prog_7_method_2_code
def yX5_thinks : MethodName := ⟨RX5, "thinks", "(III)I"⟩
abbrev cX5_calls : ByteArray := prog_7_method_3_code
def yX5_calls : MethodName := ⟨RX5, "calls", "(LDeafBell$Acting;I)I"⟩
def RX6 : String := "DeafBell$Master"
def TX6 : u_T := fun k => match k with
  | _ => ("", "", "", false)
def tyX6 : Nat → FieldType := fun k => match k with
  | _ => .int
abbrev wsX60 : List Cond := u_ws RX6 TX6 0
theorem nmX6 : ∀ a, a < 0 → ∀ b, b < 0 → a ≠ b → (TX6 a).2.1 ≠ (TX6 b).2.1 := by decide +kernel
theorem tyX6_ok : ∀ k, k < 0 → parseFieldDescriptor (TX6 k).2.2.1 = some (tyX6 k) := by decide +kernel
abbrev cX6_init : ByteArray := prog_8_method_1_code
def yX6_init : MethodName := ⟨RX6, "<init>", "()V"⟩
abbrev cX6_thinks : ByteArray := prog_8_method_2_code
def yX6_thinks : MethodName := ⟨RX6, "thinks", "(III)I"⟩
abbrev cX6_carry : ByteArray := prog_8_method_3_code
def yX6_carry : MethodName := ⟨RX6, "carry", "(III)I"⟩
abbrev cX6_waits : ByteArray := prog_8_method_4_code
def yX6_waits : MethodName := ⟨RX6, "waits", "(LDeafBell$Acting;I)I"⟩
def RX7 : String := "DeafBell$Pupil"
def TX7 : u_T := fun k => match k with
  | _ => ("", "", "", false)
def tyX7 : Nat → FieldType := fun k => match k with
  | _ => .int
abbrev wsX70 : List Cond := u_ws RX7 TX7 0
theorem nmX7 : ∀ a, a < 0 → ∀ b, b < 0 → a ≠ b → (TX7 a).2.1 ≠ (TX7 b).2.1 := by decide +kernel
theorem tyX7_ok : ∀ k, k < 0 → parseFieldDescriptor (TX7 k).2.2.1 = some (tyX7 k) := by decide +kernel
abbrev cX7_init : ByteArray := prog_9_method_1_code
def yX7_init : MethodName := ⟨RX7, "<init>", "()V"⟩
abbrev cX7_thinks : ByteArray := prog_9_method_2_code
def yX7_thinks : MethodName := ⟨RX7, "thinks", "(III)I"⟩
abbrev cX7_carry : ByteArray := prog_9_method_3_code
def yX7_carry : MethodName := ⟨RX7, "carry", "(III)I"⟩
abbrev cX7_answer : ByteArray := prog_9_method_4_code
def yX7_answer : MethodName := ⟨RX7, "answer", "(III)I"⟩
abbrev cX7_calls : ByteArray := prog_9_method_5_code
def yX7_calls : MethodName := ⟨RX7, "calls", "(LDeafBell$Acting;I)I"⟩
abbrev cX7_hears : ByteArray := prog_9_method_6_code
def yX7_hears : MethodName := ⟨RX7, "hears", "(LDeafBell$Acting;I)I"⟩
abbrev cX7_waits : ByteArray := prog_9_method_7_code
def yX7_waits : MethodName := ⟨RX7, "waits", "(LDeafBell$Acting;I)I"⟩
abbrev cX7_tells : ByteArray := prog_9_method_8_code
def yX7_tells : MethodName := ⟨RX7, "tells", "(LDeafBell$Acting;I)I"⟩
def RX8 : String := "DeafBell$Reader"
def TX8 : u_T := fun k => match k with
  | 0 => ("DeafBell$Reader", "row", "[I", true)
  | 1 => ("DeafBell$Reader", "stack", "[I", true)
  | 2 => ("DeafBell$Reader", "tape", "[I", true)
  | 3 => ("DeafBell$Reader", "size", "I", false)
  | 4 => ("DeafBell$Reader", "at", "I", false)
  | 5 => ("DeafBell$Reader", "written", "I", false)
  | 6 => ("DeafBell$Reader", "failed", "Z", false)
  | _ => ("DeafBell$Reader", "names", "Ljava/lang/String;", false)
def tyX8 : Nat → FieldType := fun k => match k with
  | 0 => .array .int
  | 1 => .array .int
  | 2 => .array .int
  | 3 => .int
  | 4 => .int
  | 5 => .int
  | 6 => .boolean
  | _ => .object "java/lang/String"
abbrev wsX80 : List Cond := u_ws RX8 TX8 8
theorem nmX8 : ∀ a, a < 8 → ∀ b, b < 8 → a ≠ b → (TX8 a).2.1 ≠ (TX8 b).2.1 := by decide +kernel
theorem tyX8_ok : ∀ k, k < 8 → parseFieldDescriptor (TX8 k).2.2.1 = some (tyX8 k) := by decide +kernel
abbrev cX8_init : ByteArray := prog_10_method_1_code
def yX8_init : MethodName := ⟨RX8, "<init>", "()V"⟩
abbrev cX8_read : ByteArray := prog_10_method_2_code
def yX8_read : MethodName := ⟨RX8, "read", "([IILjava/lang/String;)[I"⟩
abbrev cX8_chain : ByteArray := prog_10_method_3_code
def yX8_chain : MethodName := ⟨RX8, "chain", "(II)V"⟩
abbrev cX8_rankOf : ByteArray := prog_10_method_4_code
def yX8_rankOf : MethodName := ⟨RX8, "rankOf", "(I)I"⟩
abbrev cX8_operand : ByteArray := prog_10_method_5_code
def yX8_operand : MethodName := ⟨RX8, "operand", "(I)V"⟩
abbrev cX8_opened : ByteArray := prog_10_method_6_code
def yX8_opened : MethodName := ⟨RX8, "opened", "(II)V"⟩
abbrev cX8_number : ByteArray := prog_10_method_7_code
def yX8_number : MethodName := ⟨RX8, "number", "()V"⟩
abbrev cX8_name : ByteArray := prog_10_method_8_code
def yX8_name : MethodName := ⟨RX8, "name", "(I)V"⟩
abbrev cX8_look : ByteArray := prog_10_method_9_code
def yX8_look : MethodName := ⟨RX8, "look", "()I"⟩
abbrev cX8_isDigit : ByteArray := prog_10_method_10_code
def yX8_isDigit : MethodName := ⟨RX8, "isDigit", "(I)Z"⟩
abbrev cX8_write : ByteArray := prog_10_method_11_code
def yX8_write : MethodName := ⟨RX8, "write", "(I)V"⟩
abbrev cX8_work : ByteArray := prog_10_method_12_code
def yX8_work : MethodName := ⟨RX8, "work", "([IIIII)I"⟩
abbrev cX8_valueOf : ByteArray := prog_10_method_13_code
def yX8_valueOf : MethodName := ⟨RX8, "valueOf", "(IIIII)I"⟩
abbrev cX8_joined : ByteArray := prog_10_method_14_code
def yX8_joined : MethodName := ⟨RX8, "joined", "(III)I"⟩
def RX9 : String := "DeafBell$School"
def TX9 : u_T := fun k => match k with
  | 0 => ("DeafBell$School", "kinds", "[LDeafBell$Pupil;", true)
  | 1 => ("DeafBell$School", "reader", "LDeafBell$Reader;", true)
  | 2 => ("DeafBell$School", "airs", "[I", true)
  | 3 => ("DeafBell$School", "second", "I", false)
  | 4 => ("DeafBell$School", "z", "I", false)
  | 5 => ("DeafBell$School", "voices", "I", false)
  | 6 => ("DeafBell$School", "ofVoices", "[[I", true)
  | 7 => ("DeafBell$School", "shouts", "I", false)
  | 8 => ("DeafBell$School", "ofShouts", "[[I", true)
  | 9 => ("DeafBell$School", "dues", "I", false)
  | 10 => ("DeafBell$School", "ofDues", "[[I", true)
  | 11 => ("DeafBell$School", "airsText", "[I", false)
  | 12 => ("DeafBell$School", "answersText", "[I", false)
  | 13 => ("DeafBell$School", "tape", "[I", true)
  | 14 => ("DeafBell$School", "taped", "I", false)
  | 15 => ("DeafBell$School", "waits", "[I", true)
  | _ => ("DeafBell$School", "waiting", "I", false)
def tyX9 : Nat → FieldType := fun k => match k with
  | 0 => .array (.object "DeafBell$Pupil")
  | 1 => .object "DeafBell$Reader"
  | 2 => .array .int
  | 3 => .int
  | 4 => .int
  | 5 => .int
  | 6 => .array (.array .int)
  | 7 => .int
  | 8 => .array (.array .int)
  | 9 => .int
  | 10 => .array (.array .int)
  | 11 => .array .int
  | 12 => .array .int
  | 13 => .array .int
  | 14 => .int
  | 15 => .array .int
  | _ => .int
abbrev wsX90 : List Cond := u_ws RX9 TX9 17
theorem nmX9 : ∀ a, a < 17 → ∀ b, b < 17 → a ≠ b → (TX9 a).2.1 ≠ (TX9 b).2.1 := by decide +kernel
theorem tyX9_ok : ∀ k, k < 17 → parseFieldDescriptor (TX9 k).2.2.1 = some (tyX9 k) := by decide +kernel
abbrev cX9_init : ByteArray := prog_11_method_1_code
def yX9_init : MethodName := ⟨RX9, "<init>", "([LDeafBell$Pupil;LDeafBell$Reader;)V"⟩
abbrev cX9_take : ByteArray := prog_11_method_2_code
def yX9_take : MethodName := ⟨RX9, "take", "(LDeafBell$School;)V"⟩
abbrev cX9_takeRows : ByteArray := prog_11_method_3_code
def yX9_takeRows : MethodName := ⟨RX9, "takeRows", "([[I[[II)V"⟩
abbrev cX9_gap : ByteArray := prog_11_method_4_code
def yX9_gap : MethodName := ⟨RX9, "gap", "()I"⟩
abbrev cX9_addVoice : ByteArray := prog_11_method_5_code
def yX9_addVoice : MethodName := ⟨RX9, "addVoice", "(II)I"⟩
abbrev cX9_kindOf : ByteArray := prog_11_method_6_code
def yX9_kindOf : MethodName := ⟨RX9, "kindOf", "(I)LDeafBell$Pupil;"⟩
abbrev cX9_thinking : ByteArray := prog_11_method_7_code
def yX9_thinking : MethodName := ⟨RX9, "thinking", "(I)I"⟩
abbrev cX9_carriage : ByteArray := prog_11_method_8_code
def yX9_carriage : MethodName := ⟨RX9, "carriage", "(II)I"⟩
abbrev cX9_wordSaid : ByteArray := prog_11_method_9_code
def yX9_wordSaid : MethodName := ⟨RX9, "wordSaid", "(II)I"⟩
abbrev cX9_gives : ByteArray := prog_11_method_10_code
def yX9_gives : MethodName := ⟨RX9, "gives", "(IIIII)I"⟩
abbrev cX9_addShout : ByteArray := prog_11_method_11_code
def yX9_addShout : MethodName := ⟨RX9, "addShout", "(III)V"⟩
abbrev cX9_pass : ByteArray := prog_11_method_12_code
def yX9_pass : MethodName := ⟨RX9, "pass", "(IZ)V"⟩
abbrev cX9_comeOver : ByteArray := prog_11_method_13_code
def yX9_comeOver : MethodName := ⟨RX9, "comeOver", "(IZ)V"⟩
abbrev cX9_draw : ByteArray := prog_11_method_14_code
def yX9_draw : MethodName := ⟨RX9, "draw", "()I"⟩
abbrev cX9_quickest : ByteArray := prog_11_method_15_code
def yX9_quickest : MethodName := ⟨RX9, "quickest", "(I)I"⟩
abbrev cX9_shoutDue : ByteArray := prog_11_method_16_code
def yX9_shoutDue : MethodName := ⟨RX9, "shoutDue", "()V"⟩
abbrev cX9_questionsTaught : ByteArray := prog_11_method_17_code
def yX9_questionsTaught : MethodName := ⟨RX9, "questionsTaught", "()I"⟩
abbrev cX9_isTaught : ByteArray := prog_11_method_18_code
def yX9_isTaught : MethodName := ⟨RX9, "isTaught", "(I)Z"⟩
def RX10 : String := "DeafBell$Sheet"
def TX10 : u_T := fun k => match k with
  | 0 => ("DeafBell$Sheet", "bits", "I", false)
  | 1 => ("DeafBell$Sheet", "size", "I", false)
  | 2 => ("DeafBell$Sheet", "numbers", "[I", true)
  | 3 => ("DeafBell$Sheet", "asked", "I", false)
  | 4 => ("DeafBell$Sheet", "thinks", "[I", true)
  | 5 => ("DeafBell$Sheet", "askedIn", "[I", true)
  | 6 => ("DeafBell$Sheet", "answeredIn", "[I", true)
  | 7 => ("DeafBell$Sheet", "lines", "I", false)
  | 8 => ("DeafBell$Sheet", "lineCliff", "[I", true)
  | _ => ("DeafBell$Sheet", "lineSecond", "[I", true)
def tyX10 : Nat → FieldType := fun k => match k with
  | 0 => .int
  | 1 => .int
  | 2 => .array .int
  | 3 => .int
  | 4 => .array .int
  | 5 => .array .int
  | 6 => .array .int
  | 7 => .int
  | 8 => .array .int
  | _ => .array .int
abbrev wsX100 : List Cond := u_ws RX10 TX10 10
theorem nmX10 : ∀ a, a < 10 → ∀ b, b < 10 → a ≠ b → (TX10 a).2.1 ≠ (TX10 b).2.1 := by decide +kernel
theorem tyX10_ok : ∀ k, k < 10 → parseFieldDescriptor (TX10 k).2.2.1 = some (tyX10 k) := by decide +kernel
abbrev cX10_init : ByteArray := prog_12_method_1_code
def yX10_init : MethodName := ⟨RX10, "<init>", "()V"⟩
abbrev cX10_isMissing : ByteArray := prog_12_method_2_code
def yX10_isMissing : MethodName := ⟨RX10, "isMissing", "()Z"⟩
abbrev cX10_lay : ByteArray := prog_12_method_3_code
def yX10_lay : MethodName := ⟨RX10, "lay", "(II)V"⟩
abbrev cX10_write : ByteArray := prog_12_method_4_code
def yX10_write : MethodName := ⟨RX10, "write", "(II)V"⟩
abbrev cX10_holds : ByteArray := prog_12_method_5_code
def yX10_holds : MethodName := ⟨RX10, "holds", "(II)Z"⟩
abbrev cX10_lastAnswer : ByteArray := prog_12_method_6_code
def yX10_lastAnswer : MethodName := ⟨RX10, "lastAnswer", "(I)I"⟩
abbrev cX10_gatherThinks : ByteArray := prog_12_method_7_code
def yX10_gatherThinks : MethodName := ⟨RX10, "gatherThinks", "()V"⟩
abbrev cX10_isPlaced : ByteArray := prog_12_method_8_code
def yX10_isPlaced : MethodName := ⟨RX10, "isPlaced", "(III)Z"⟩
abbrev cX10_isFree : ByteArray := prog_12_method_9_code
def yX10_isFree : MethodName := ⟨RX10, "isFree", "(III)Z"⟩
abbrev cX10_leastFit : ByteArray := prog_12_method_10_code
def yX10_leastFit : MethodName := ⟨RX10, "leastFit", "()I"⟩
abbrev cX10_allFits : ByteArray := prog_12_method_11_code
def yX10_allFits : MethodName := ⟨RX10, "allFits", "()I"⟩
abbrev cX10_gatherLines : ByteArray := prog_12_method_12_code
def yX10_gatherLines : MethodName := ⟨RX10, "gatherLines", "()V"⟩
abbrev cX10_fitsGap : ByteArray := prog_12_method_13_code
def yX10_fitsGap : MethodName := ⟨RX10, "fitsGap", "(I)Z"⟩
abbrev cX10_secondOn : ByteArray := prog_12_method_14_code
def yX10_secondOn : MethodName := ⟨RX10, "secondOn", "(III)I"⟩
abbrev cX10_bestDifference : ByteArray := prog_12_method_15_code
def yX10_bestDifference : MethodName := ⟨RX10, "bestDifference", "()I"⟩
abbrev cX10_differing : ByteArray := prog_12_method_16_code
def yX10_differing : MethodName := ⟨RX10, "differing", "(I)I"⟩
abbrev cX10_fromFirstCliff : ByteArray := prog_12_method_17_code
def yX10_fromFirstCliff : MethodName := ⟨RX10, "fromFirstCliff", "(I)I"⟩
def RX11 : String := "DeafBell"
def TX11 : u_T := fun k => match k with
  | 0 => ("DeafBell", "now", "LDeafBell$School;", true)
  | 1 => ("DeafBell", "kept", "LDeafBell$School;", true)
  | 2 => ("DeafBell", "ahead", "LDeafBell$School;", true)
  | 3 => ("DeafBell", "reader", "LDeafBell$Reader;", true)
  | 4 => ("DeafBell", "sheets", "[LDeafBell$Sheet;", true)
  | 5 => ("DeafBell", "acting", "LDeafBell$Acting;", true)
  | 6 => ("DeafBell", "errors", "[I", true)
  | _ => ("DeafBell", "images", "I", false)
def tyX11 : Nat → FieldType := fun k => match k with
  | 0 => .object "DeafBell$School"
  | 1 => .object "DeafBell$School"
  | 2 => .object "DeafBell$School"
  | 3 => .object "DeafBell$Reader"
  | 4 => .array (.object "DeafBell$Sheet")
  | 5 => .object "DeafBell$Acting"
  | 6 => .array .int
  | _ => .int
abbrev wsX110 : List Cond := u_ws RX11 TX11 8
theorem nmX11 : ∀ a, a < 8 → ∀ b, b < 8 → a ≠ b → (TX11 a).2.1 ≠ (TX11 b).2.1 := by decide +kernel
theorem tyX11_ok : ∀ k, k < 8 → parseFieldDescriptor (TX11 k).2.2.1 = some (tyX11 k) := by decide +kernel
abbrev cX11_init : ByteArray := prog_1_method_1_code
def yX11_init : MethodName := ⟨RX11, "<init>", "()V"⟩
abbrev cX11_air : ByteArray := prog_1_method_2_code
def yX11_air : MethodName := ⟨RX11, "air", "(II)I"⟩
abbrev cX11_person : ByteArray := prog_1_method_3_code
def yX11_person : MethodName := ⟨RX11, "person", "(II)I"⟩
abbrev cX11_ofVoice : ByteArray := prog_1_method_4_code
def yX11_ofVoice : MethodName := ⟨RX11, "ofVoice", "(II)I"⟩
abbrev cX11_carries : ByteArray := prog_1_method_5_code
def yX11_carries : MethodName := ⟨RX11, "carries", "(II)I"⟩
abbrev cX11_says : ByteArray := prog_1_method_6_code
def yX11_says : MethodName := ⟨RX11, "says", "(II)I"⟩
abbrev cX11_go : ByteArray := prog_1_method_7_code
def yX11_go : MethodName := ⟨RX11, "go", "(II)I"⟩
abbrev cX11_become : ByteArray := prog_1_method_8_code
def yX11_become : MethodName := ⟨RX11, "become", "(II)I"⟩
abbrev cX11_as : ByteArray := prog_1_method_9_code
def yX11_as : MethodName := ⟨RX11, "as", "(II)I"⟩
abbrev cX11_shout : ByteArray := prog_1_method_10_code
def yX11_shout : MethodName := ⟨RX11, "shout", "(II)I"⟩
abbrev cX11_ofShout : ByteArray := prog_1_method_11_code
def yX11_ofShout : MethodName := ⟨RX11, "ofShout", "(II)I"⟩
abbrev cX11_lead : ByteArray := prog_1_method_12_code
def yX11_lead : MethodName := ⟨RX11, "lead", "(II)I"⟩
abbrev cX11_taught : ByteArray := prog_1_method_13_code
def yX11_taught : MethodName := ⟨RX11, "taught", "()I"⟩
abbrev cX11_forget : ByteArray := prog_1_method_14_code
def yX11_forget : MethodName := ⟨RX11, "forget", "()I"⟩
abbrev cX11_feed : ByteArray := prog_1_method_15_code
def yX11_feed : MethodName := ⟨RX11, "feed", "(JI)I"⟩
abbrev cX11_text : ByteArray := prog_1_method_16_code
def yX11_text : MethodName := ⟨RX11, "text", "(I)I"⟩
abbrev cX11_law : ByteArray := prog_1_method_17_code
def yX11_law : MethodName := ⟨RX11, "law", "(IIIII)I"⟩
abbrev cX11_seconds : ByteArray := prog_1_method_18_code
def yX11_seconds : MethodName := ⟨RX11, "seconds", "(I)I"⟩
abbrev cX11_loose : ByteArray := prog_1_method_19_code
def yX11_loose : MethodName := ⟨RX11, "loose", "(I)I"⟩
abbrev cX11_then : ByteArray := prog_1_method_20_code
def yX11_then : MethodName := ⟨RX11, "then", "(II)I"⟩
abbrev cX11_thenShout : ByteArray := prog_1_method_21_code
def yX11_thenShout : MethodName := ⟨RX11, "thenShout", "(III)I"⟩
abbrev cX11_lesson : ByteArray := prog_1_method_22_code
def yX11_lesson : MethodName := ⟨RX11, "lesson", "(I)I"⟩
abbrev cX11_poem : ByteArray := prog_1_method_23_code
def yX11_poem : MethodName := ⟨RX11, "poem", "(II)I"⟩
abbrev cX11_heard : ByteArray := prog_1_method_24_code
def yX11_heard : MethodName := ⟨RX11, "heard", "(II)I"⟩
abbrev cX11_often : ByteArray := prog_1_method_25_code
def yX11_often : MethodName := ⟨RX11, "often", "(III)I"⟩
abbrev cX11_over : ByteArray := prog_1_method_26_code
def yX11_over : MethodName := ⟨RX11, "over", "(I)I"⟩
abbrev cX11_seed : ByteArray := prog_1_method_27_code
def yX11_seed : MethodName := ⟨RX11, "seed", "(I)I"⟩
abbrev cX11_voice : ByteArray := prog_1_method_28_code
def yX11_voice : MethodName := ⟨RX11, "voice", "(III)I"⟩
abbrev cX11_trace : ByteArray := prog_1_method_29_code
def yX11_trace : MethodName := ⟨RX11, "trace", "(I)I"⟩
abbrev cX11_sheet : ByteArray := prog_1_method_30_code
def yX11_sheet : MethodName := ⟨RX11, "sheet", "(III)I"⟩
abbrev cX11_put : ByteArray := prog_1_method_31_code
def yX11_put : MethodName := ⟨RX11, "put", "(III)I"⟩
abbrev cX11_move : ByteArray := prog_1_method_32_code
def yX11_move : MethodName := ⟨RX11, "move", "(IIIII)I"⟩
abbrev cX11_image : ByteArray := prog_1_method_33_code
def yX11_image : MethodName := ⟨RX11, "image", "()I"⟩
abbrev cX11_restore : ByteArray := prog_1_method_34_code
def yX11_restore : MethodName := ⟨RX11, "restore", "()I"⟩
abbrev cX11_tell : ByteArray := prog_1_method_35_code
def yX11_tell : MethodName := ⟨RX11, "tell", "(I)I"⟩
abbrev cX11_check : ByteArray := prog_1_method_36_code
def yX11_check : MethodName := ⟨RX11, "check", "()I"⟩
abbrev cX11_count : ByteArray := prog_1_method_37_code
def yX11_count : MethodName := ⟨RX11, "count", "(I)I"⟩
abbrev cX11_told : ByteArray := prog_1_method_38_code
def yX11_told : MethodName := ⟨RX11, "told", "(I)I"⟩
abbrev cX11_error : ByteArray := prog_1_method_39_code
def yX11_error : MethodName := ⟨RX11, "error", "(I)I"⟩
abbrev cX11_isOutside : ByteArray := prog_1_method_40_code
def yX11_isOutside : MethodName := ⟨RX11, "isOutside", "(III)Z"⟩
abbrev cX11_isNoVoice : ByteArray := prog_1_method_41_code
def yX11_isNoVoice : MethodName := ⟨RX11, "isNoVoice", "(I)Z"⟩
abbrev cX11_isNoSheet : ByteArray := prog_1_method_42_code
def yX11_isNoSheet : MethodName := ⟨RX11, "isNoSheet", "(I)Z"⟩
abbrev cX11_isUnder : ByteArray := prog_1_method_43_code
def yX11_isUnder : MethodName := ⟨RX11, "isUnder", "(II)Z"⟩
abbrev cX11_goOn : ByteArray := prog_1_method_44_code
def yX11_goOn : MethodName := ⟨RX11, "goOn", "(IZ)I"⟩
abbrev cX11_goAhead : ByteArray := prog_1_method_45_code
def yX11_goAhead : MethodName := ⟨RX11, "goAhead", "(I)V"⟩
abbrev cX11_taughtAhead : ByteArray := prog_1_method_46_code
def yX11_taughtAhead : MethodName := ⟨RX11, "taughtAhead", "(II)I"⟩
def RX12 : String := "DeafBellModel"
def TX12 : u_T := fun k => match k with
  | 0 => ("DeafBellModel", "d", "[I", true)
  | 1 => ("DeafBellModel", "e", "[I", true)
  | 2 => ("DeafBellModel", "kept", "[I", true)
  | 3 => ("DeafBellModel", "images", "I", false)
  | 4 => ("DeafBellModel", "found", "[I", true)
  | 5 => ("DeafBellModel", "base", "I", false)
  | 6 => ("DeafBellModel", "at", "I", false)
  | 7 => ("DeafBellModel", "size", "I", false)
  | 8 => ("DeafBellModel", "fault", "I", false)
  | 9 => ("DeafBellModel", "opened", "I", false)
  | 10 => ("DeafBellModel", "isAnswer", "Z", false)
  | 11 => ("DeafBellModel", "names", "[I", true)
  | 12 => ("DeafBellModel", "bitsOf", "[I", true)
  | 13 => ("DeafBellModel", "sizeOf", "[I", true)
  | 14 => ("DeafBellModel", "number", "[I", true)
  | 15 => ("DeafBellModel", "lifted", "[I", true)
  | 16 => ("DeafBellModel", "think", "[I", true)
  | 17 => ("DeafBellModel", "asked", "[I", true)
  | 18 => ("DeafBellModel", "questions", "I", false)
  | 19 => ("DeafBellModel", "lineOn", "[I", true)
  | 20 => ("DeafBellModel", "lineAt", "[I", true)
  | 21 => ("DeafBellModel", "lines", "I", false)
  | 22 => ("DeafBellModel", "differ", "[I", true)
  | 23 => ("DeafBellModel", "traced", "[I", true)
  | 24 => ("DeafBellModel", "traceMany", "I", false)
  | _ => ("DeafBellModel", "who", "I", false)
def tyX12 : Nat → FieldType := fun k => match k with
  | 0 => .array .int
  | 1 => .array .int
  | 2 => .array .int
  | 3 => .int
  | 4 => .array .int
  | 5 => .int
  | 6 => .int
  | 7 => .int
  | 8 => .int
  | 9 => .int
  | 10 => .boolean
  | 11 => .array .int
  | 12 => .array .int
  | 13 => .array .int
  | 14 => .array .int
  | 15 => .array .int
  | 16 => .array .int
  | 17 => .array .int
  | 18 => .int
  | 19 => .array .int
  | 20 => .array .int
  | 21 => .int
  | 22 => .array .int
  | 23 => .array .int
  | 24 => .int
  | _ => .int
abbrev wsX120 : List Cond := u_ws RX12 TX12 26
theorem nmX12 : ∀ a, a < 26 → ∀ b, b < 26 → a ≠ b → (TX12 a).2.1 ≠ (TX12 b).2.1 := by decide +kernel
theorem tyX12_ok : ∀ k, k < 26 → parseFieldDescriptor (TX12 k).2.2.1 = some (tyX12 k) := by decide +kernel
abbrev cX12_init : ByteArray := prog_14_method_1_code
def yX12_init : MethodName := ⟨RX12, "<init>", "()V"⟩
abbrev cX12_finds : ByteArray := prog_14_method_3_code
def yX12_finds : MethodName := ⟨RX12, "finds", "(I)I"⟩
abbrev cX12_in : ByteArray := prog_14_method_4_code
def yX12_in : MethodName := ⟨RX12, "in", "(JJJ)Z"⟩
abbrev cX12_held : ByteArray := prog_14_method_5_code
def yX12_held : MethodName := ⟨RX12, "held", "(III)I"⟩
abbrev cX12_copies : ByteArray := prog_14_method_6_code
def yX12_copies : MethodName := ⟨RX12, "copies", "([I[I)V"⟩
abbrev cX12_isVoice : ByteArray := prog_14_method_7_code
def yX12_isVoice : MethodName := ⟨RX12, "isVoice", "(I)Z"⟩
abbrev cX12_isShout : ByteArray := prog_14_method_8_code
def yX12_isShout : MethodName := ⟨RX12, "isShout", "(I)Z"⟩
abbrev cX12_of : ByteArray := prog_14_method_9_code
def yX12_of : MethodName := ⟨RX12, "of", "(II)I"⟩
abbrev cX12_ofIt : ByteArray := prog_14_method_10_code
def yX12_ofIt : MethodName := ⟨RX12, "ofIt", "(II)I"⟩
abbrev cX12_gap : ByteArray := prog_14_method_11_code
def yX12_gap : MethodName := ⟨RX12, "gap", "()I"⟩
abbrev cX12_isWord : ByteArray := prog_14_method_12_code
def yX12_isWord : MethodName := ⟨RX12, "isWord", "(I)Z"⟩
abbrev cX12_here : ByteArray := prog_14_method_13_code
def yX12_here : MethodName := ⟨RX12, "here", "()I"⟩
abbrev cX12_wrong : ByteArray := prog_14_method_14_code
def yX12_wrong : MethodName := ⟨RX12, "wrong", "()I"⟩
abbrev cX12_takes : ByteArray := prog_14_method_15_code
def yX12_takes : MethodName := ⟨RX12, "takes", "(I)Z"⟩
abbrev cX12_nameOf : ByteArray := prog_14_method_16_code
def yX12_nameOf : MethodName := ⟨RX12, "nameOf", "(I)I"⟩
abbrev cX12_either : ByteArray := prog_14_method_17_code
def yX12_either : MethodName := ⟨RX12, "either", "()I"⟩
abbrev cX12_both : ByteArray := prog_14_method_18_code
def yX12_both : MethodName := ⟨RX12, "both", "()I"⟩
abbrev cX12_compared : ByteArray := prog_14_method_19_code
def yX12_compared : MethodName := ⟨RX12, "compared", "()I"⟩
abbrev cX12_sum : ByteArray := prog_14_method_20_code
def yX12_sum : MethodName := ⟨RX12, "sum", "()I"⟩
abbrev cX12_product : ByteArray := prog_14_method_21_code
def yX12_product : MethodName := ⟨RX12, "product", "()I"⟩
abbrev cX12_unit : ByteArray := prog_14_method_22_code
def yX12_unit : MethodName := ⟨RX12, "unit", "()I"⟩
abbrev cX12_worked : ByteArray := prog_14_method_23_code
def yX12_worked : MethodName := ⟨RX12, "worked", "(III)I"⟩
abbrev cX12_feed : ByteArray := prog_14_method_24_code
def yX12_feed : MethodName := ⟨RX12, "feed", "(JI)I"⟩
abbrev cX12_text : ByteArray := prog_14_method_25_code
def yX12_text : MethodName := ⟨RX12, "text", "(I)I"⟩
abbrev cX12_gives : ByteArray := prog_14_method_26_code
def yX12_gives : MethodName := ⟨RX12, "gives", "(IIIII)I"⟩
abbrev cX12_law : ByteArray := prog_14_method_27_code
def yX12_law : MethodName := ⟨RX12, "law", "(IIIII)I"⟩
abbrev cX12_air : ByteArray := prog_14_method_28_code
def yX12_air : MethodName := ⟨RX12, "air", "(II)I"⟩
abbrev cX12_person : ByteArray := prog_14_method_29_code
def yX12_person : MethodName := ⟨RX12, "person", "(II)I"⟩
abbrev cX12_thinksOf : ByteArray := prog_14_method_30_code
def yX12_thinksOf : MethodName := ⟨RX12, "thinksOf", "(I)I"⟩
abbrev cX12_carriesOf : ByteArray := prog_14_method_31_code
def yX12_carriesOf : MethodName := ⟨RX12, "carriesOf", "(II)I"⟩
abbrev cX12_saysOf : ByteArray := prog_14_method_32_code
def yX12_saysOf : MethodName := ⟨RX12, "saysOf", "(II)I"⟩
abbrev cX12_ofVoice : ByteArray := prog_14_method_33_code
def yX12_ofVoice : MethodName := ⟨RX12, "ofVoice", "(II)I"⟩
abbrev cX12_carries : ByteArray := prog_14_method_34_code
def yX12_carries : MethodName := ⟨RX12, "carries", "(II)I"⟩
abbrev cX12_says : ByteArray := prog_14_method_35_code
def yX12_says : MethodName := ⟨RX12, "says", "(II)I"⟩
abbrev cX12_go : ByteArray := prog_14_method_36_code
def yX12_go : MethodName := ⟨RX12, "go", "(II)I"⟩
abbrev cX12_become : ByteArray := prog_14_method_37_code
def yX12_become : MethodName := ⟨RX12, "become", "(II)I"⟩
abbrev cX12_above : ByteArray := prog_14_method_38_code
def yX12_above : MethodName := ⟨RX12, "above", "(I)I"⟩
abbrev cX12_as : ByteArray := prog_14_method_39_code
def yX12_as : MethodName := ⟨RX12, "as", "(II)I"⟩
abbrev cX12_shouts : ByteArray := prog_14_method_40_code
def yX12_shouts : MethodName := ⟨RX12, "shouts", "(III)I"⟩
abbrev cX12_shout : ByteArray := prog_14_method_41_code
def yX12_shout : MethodName := ⟨RX12, "shout", "(II)I"⟩
abbrev cX12_ofShout : ByteArray := prog_14_method_42_code
def yX12_ofShout : MethodName := ⟨RX12, "ofShout", "(II)I"⟩
abbrev cX12_lead : ByteArray := prog_14_method_43_code
def yX12_lead : MethodName := ⟨RX12, "lead", "(II)I"⟩
abbrev cX12_isTaught : ByteArray := prog_14_method_44_code
def yX12_isTaught : MethodName := ⟨RX12, "isTaught", "(I)Z"⟩
abbrev cX12_taught : ByteArray := prog_14_method_45_code
def yX12_taught : MethodName := ⟨RX12, "taught", "()I"⟩
abbrev cX12_forget : ByteArray := prog_14_method_46_code
def yX12_forget : MethodName := ⟨RX12, "forget", "()I"⟩
abbrev cX12_drawn : ByteArray := prog_14_method_47_code
def yX12_drawn : MethodName := ⟨RX12, "drawn", "()I"⟩
abbrev cX12_quickest : ByteArray := prog_14_method_48_code
def yX12_quickest : MethodName := ⟨RX12, "quickest", "(I)I"⟩
abbrev cX12_comesOver : ByteArray := prog_14_method_49_code
def yX12_comesOver : MethodName := ⟨RX12, "comesOver", "(IZ)V"⟩
abbrev cX12_answers : ByteArray := prog_14_method_50_code
def yX12_answers : MethodName := ⟨RX12, "answers", "()V"⟩
abbrev cX12_goesBy : ByteArray := prog_14_method_51_code
def yX12_goesBy : MethodName := ⟨RX12, "goesBy", "(Z)V"⟩
abbrev cX12_goesOn : ByteArray := prog_14_method_52_code
def yX12_goesOn : MethodName := ⟨RX12, "goesOn", "(I)V"⟩
abbrev cX12_goes : ByteArray := prog_14_method_53_code
def yX12_goes : MethodName := ⟨RX12, "goes", "(IZ)I"⟩
abbrev cX12_seconds : ByteArray := prog_14_method_54_code
def yX12_seconds : MethodName := ⟨RX12, "seconds", "(I)I"⟩
abbrev cX12_loose : ByteArray := prog_14_method_55_code
def yX12_loose : MethodName := ⟨RX12, "loose", "(I)I"⟩
abbrev cX12_then : ByteArray := prog_14_method_56_code
def yX12_then : MethodName := ⟨RX12, "then", "(II)I"⟩
abbrev cX12_thenShout : ByteArray := prog_14_method_57_code
def yX12_thenShout : MethodName := ⟨RX12, "thenShout", "(III)I"⟩
abbrev cX12_isSheet : ByteArray := prog_14_method_58_code
def yX12_isSheet : MethodName := ⟨RX12, "isSheet", "(I)Z"⟩
abbrev cX12_sheet : ByteArray := prog_14_method_59_code
def yX12_sheet : MethodName := ⟨RX12, "sheet", "(III)I"⟩
abbrev cX12_put : ByteArray := prog_14_method_60_code
def yX12_put : MethodName := ⟨RX12, "put", "(III)I"⟩
abbrev cX12_move : ByteArray := prog_14_method_61_code
def yX12_move : MethodName := ⟨RX12, "move", "(IIIII)I"⟩
abbrev cX12_whyNot : ByteArray := prog_14_method_62_code
def yX12_whyNot : MethodName := ⟨RX12, "whyNot", "(I)I"⟩
abbrev cX12_fitsAt : ByteArray := prog_14_method_63_code
def yX12_fitsAt : MethodName := ⟨RX12, "fitsAt", "(II)Z"⟩
abbrev cX12_nextFor : ByteArray := prog_14_method_64_code
def yX12_nextFor : MethodName := ⟨RX12, "nextFor", "(II)I"⟩
abbrev cX12_fitsBy : ByteArray := prog_14_method_65_code
def yX12_fitsBy : MethodName := ⟨RX12, "fitsBy", "(I)Z"⟩
abbrev cX12_lesson : ByteArray := prog_14_method_66_code
def yX12_lesson : MethodName := ⟨RX12, "lesson", "(I)I"⟩
abbrev cX12_fits : ByteArray := prog_14_method_67_code
def yX12_fits : MethodName := ⟨RX12, "fits", "(I)Z"⟩
abbrev cX12_poem : ByteArray := prog_14_method_68_code
def yX12_poem : MethodName := ⟨RX12, "poem", "(II)I"⟩
abbrev cX12_heard : ByteArray := prog_14_method_69_code
def yX12_heard : MethodName := ⟨RX12, "heard", "(II)I"⟩
abbrev cX12_often : ByteArray := prog_14_method_70_code
def yX12_often : MethodName := ⟨RX12, "often", "(III)I"⟩
abbrev cX12_taughtBy : ByteArray := prog_14_method_71_code
def yX12_taughtBy : MethodName := ⟨RX12, "taughtBy", "(II)I"⟩
abbrev cX12_over : ByteArray := prog_14_method_72_code
def yX12_over : MethodName := ⟨RX12, "over", "(I)I"⟩
abbrev cX12_seed : ByteArray := prog_14_method_73_code
def yX12_seed : MethodName := ⟨RX12, "seed", "(I)I"⟩
abbrev cX12_ran : ByteArray := prog_14_method_74_code
def yX12_ran : MethodName := ⟨RX12, "ran", "(I)V"⟩
abbrev cX12_own : ByteArray := prog_14_method_75_code
def yX12_own : MethodName := ⟨RX12, "own", "()I"⟩
abbrev cX12_calls : ByteArray := prog_14_method_76_code
def yX12_calls : MethodName := ⟨RX12, "calls", "(II)I"⟩
abbrev cX12_hears : ByteArray := prog_14_method_77_code
def yX12_hears : MethodName := ⟨RX12, "hears", "(II)I"⟩
abbrev cX12_waits : ByteArray := prog_14_method_78_code
def yX12_waits : MethodName := ⟨RX12, "waits", "(II)I"⟩
abbrev cX12_tells : ByteArray := prog_14_method_79_code
def yX12_tells : MethodName := ⟨RX12, "tells", "(II)I"⟩
abbrev cX12_voice : ByteArray := prog_14_method_80_code
def yX12_voice : MethodName := ⟨RX12, "voice", "(III)I"⟩
abbrev cX12_trace : ByteArray := prog_14_method_81_code
def yX12_trace : MethodName := ⟨RX12, "trace", "(I)I"⟩
abbrev cX12_image : ByteArray := prog_14_method_82_code
def yX12_image : MethodName := ⟨RX12, "image", "()I"⟩
abbrev cX12_restore : ByteArray := prog_14_method_83_code
def yX12_restore : MethodName := ⟨RX12, "restore", "()I"⟩
abbrev cX12_tell : ByteArray := prog_14_method_84_code
def yX12_tell : MethodName := ⟨RX12, "tell", "(I)I"⟩
abbrev cX12_check : ByteArray := prog_14_method_85_code
def yX12_check : MethodName := ⟨RX12, "check", "()I"⟩
abbrev cX12_count : ByteArray := prog_14_method_86_code
def yX12_count : MethodName := ⟨RX12, "count", "(I)I"⟩
abbrev cX12_told : ByteArray := prog_14_method_87_code
def yX12_told : MethodName := ⟨RX12, "told", "(I)I"⟩
def RJx145de : String := "java/io/Serializable"
def TJx145de : u_T := fun k => match k with
  | _ => ("", "", "", false)
def tyJx145de : Nat → FieldType := fun k => match k with
  | _ => .int
abbrev wsJx145de0 : List Cond := u_ws RJx145de TJx145de 0
theorem nmJx145de : ∀ a, a < 0 → ∀ b, b < 0 → a ≠ b → (TJx145de a).2.1 ≠ (TJx145de b).2.1 := by decide +kernel
theorem tyJx145de_ok : ∀ k, k < 0 → parseFieldDescriptor (TJx145de k).2.2.1 = some (tyJx145de k) := by decide +kernel
def RJx9f9b0 : String := "java/lang/CharSequence"
def TJx9f9b0 : u_T := fun k => match k with
  | _ => ("", "", "", false)
def tyJx9f9b0 : Nat → FieldType := fun k => match k with
  | _ => .int
abbrev wsJx9f9b00 : List Cond := u_ws RJx9f9b0 TJx9f9b0 0
theorem nmJx9f9b0 : ∀ a, a < 0 → ∀ b, b < 0 → a ≠ b → (TJx9f9b0 a).2.1 ≠ (TJx9f9b0 b).2.1 := by decide +kernel
theorem tyJx9f9b0_ok : ∀ k, k < 0 → parseFieldDescriptor (TJx9f9b0 k).2.2.1 = some (tyJx9f9b0 k) := by decide +kernel
def RJ11 : String := "java/lang/Character"
def TJ11 : u_T := fun k => match k with
  | _ => ("", "", "", false)
def tyJ11 : Nat → FieldType := fun k => match k with
  | _ => .int
abbrev wsJ110 : List Cond := u_ws RJ11 TJ11 0
theorem nmJ11 : ∀ a, a < 0 → ∀ b, b < 0 → a ≠ b → (TJ11 a).2.1 ≠ (TJ11 b).2.1 := by decide +kernel
theorem tyJ11_ok : ∀ k, k < 0 → parseFieldDescriptor (TJ11 k).2.2.1 = some (tyJ11 k) := by decide +kernel
abbrev cJ11_isValidCodePoint_9a6ad : ByteArray := prog_15_method_11_code
def yJ11_isValidCodePoint_9a6ad : MethodName := ⟨RJ11, "isValidCodePoint", "(I)Z"⟩
abbrev cJ11_highSurrogate_5068e : ByteArray := prog_15_method_28_code
def yJ11_highSurrogate_5068e : MethodName := ⟨RJ11, "highSurrogate", "(I)C"⟩
abbrev cJ11_lowSurrogate_5068e : ByteArray := prog_15_method_29_code
def yJ11_lowSurrogate_5068e : MethodName := ⟨RJ11, "lowSurrogate", "(I)C"⟩
def RJx8e188 : String := "java/lang/Cloneable"
def TJx8e188 : u_T := fun k => match k with
  | _ => ("", "", "", false)
def tyJx8e188 : Nat → FieldType := fun k => match k with
  | _ => .int
abbrev wsJx8e1880 : List Cond := u_ws RJx8e188 TJx8e188 0
theorem nmJx8e188 : ∀ a, a < 0 → ∀ b, b < 0 → a ≠ b → (TJx8e188 a).2.1 ≠ (TJx8e188 b).2.1 := by decide +kernel
theorem tyJx8e188_ok : ∀ k, k < 0 → parseFieldDescriptor (TJx8e188 k).2.2.1 = some (tyJx8e188 k) := by decide +kernel
def RJxb160c : String := "java/lang/Comparable"
def TJxb160c : u_T := fun k => match k with
  | _ => ("", "", "", false)
def tyJxb160c : Nat → FieldType := fun k => match k with
  | _ => .int
abbrev wsJxb160c0 : List Cond := u_ws RJxb160c TJxb160c 0
theorem nmJxb160c : ∀ a, a < 0 → ∀ b, b < 0 → a ≠ b → (TJxb160c a).2.1 ≠ (TJxb160c b).2.1 := by decide +kernel
theorem tyJxb160c_ok : ∀ k, k < 0 → parseFieldDescriptor (TJxb160c k).2.2.1 = some (tyJxb160c k) := by decide +kernel
def RJ9 : String := "java/lang/Math"
def TJ9 : u_T := fun k => match k with
  | _ => ("", "", "", false)
def tyJ9 : Nat → FieldType := fun k => match k with
  | _ => .int
abbrev wsJ90 : List Cond := u_ws RJ9 TJ9 0
theorem nmJ9 : ∀ a, a < 0 → ∀ b, b < 0 → a ≠ b → (TJ9 a).2.1 ≠ (TJ9 b).2.1 := by decide +kernel
theorem tyJ9_ok : ∀ k, k < 0 → parseFieldDescriptor (TJ9 k).2.2.1 = some (tyJ9 k) := by decide +kernel
abbrev cJ9_abs_067f4 : ByteArray := prog_17_method_61_code
def yJ9_abs_067f4 : MethodName := ⟨RJ9, "abs", "(J)J"⟩
abbrev cJ9_max_7cf53 : ByteArray := prog_17_method_65_code
def yJ9_max_7cf53 : MethodName := ⟨RJ9, "max", "(II)I"⟩
abbrev cJ9_min_7cf53 : ByteArray := prog_17_method_69_code
def yJ9_min_7cf53 : MethodName := ⟨RJ9, "min", "(II)I"⟩
def RJ0 : String := "java/lang/String"
def TJ0 : u_T := fun k => match k with
  | _ => ("", "", "", false)
def tyJ0 : Nat → FieldType := fun k => match k with
  | _ => .int
abbrev wsJ00 : List Cond := u_ws RJ0 TJ0 0
theorem nmJ0 : ∀ a, a < 0 → ∀ b, b < 0 → a ≠ b → (TJ0 a).2.1 ≠ (TJ0 b).2.1 := by decide +kernel
theorem tyJ0_ok : ∀ k, k < 0 → parseFieldDescriptor (TJ0 k).2.2.1 = some (tyJ0 k) := by decide +kernel
abbrev cJ0_length_8abf5 : ByteArray := prog_18_method_54_code
def yJ0_length_8abf5 : MethodName := ⟨RJ0, "length", "()I"⟩
abbrev cJ0_indexOf_0f7a4 : ByteArray := prog_18_method_79_code
def yJ0_indexOf_0f7a4 : MethodName := ⟨RJ0, "indexOf", "(I)I"⟩
abbrev cJ0_indexOf_7cf53 : ByteArray := prog_18_method_80_code
def yJ0_indexOf_7cf53 : MethodName := ⟨RJ0, "indexOf", "(II)I"⟩
abbrev cJ0_coder_7d493 : ByteArray := prog_18_method_152_code
def yJ0_coder_7d493 : MethodName := ⟨RJ0, "coder", "()B"⟩
abbrev cJ0_isLatin1_aae02 : ByteArray := prog_18_method_154_code
def yJ0_isLatin1_aae02 : MethodName := ⟨RJ0, "isLatin1", "()Z"⟩
abbrev cJ0_checkBoundsBeginEnd_23922 : ByteArray := prog_18_method_158_code
def yJ0_checkBoundsBeginEnd_23922 : MethodName := ⟨RJ0, "checkBoundsBeginEnd", "(III)V"⟩
def RJ1 : String := "java/lang/StringLatin1"
def TJ1 : u_T := fun k => match k with
  | _ => ("", "", "", false)
def tyJ1 : Nat → FieldType := fun k => match k with
  | _ => .int
abbrev wsJ10 : List Cond := u_ws RJ1 TJ1 0
theorem nmJ1 : ∀ a, a < 0 → ∀ b, b < 0 → a ≠ b → (TJ1 a).2.1 ≠ (TJ1 b).2.1 := by decide +kernel
theorem tyJ1_ok : ∀ k, k < 0 → parseFieldDescriptor (TJ1 k).2.2.1 = some (tyJ1 k) := by decide +kernel
abbrev cJ1_canEncode_9a6ad : ByteArray := prog_19_method_4_code
def yJ1_canEncode_9a6ad : MethodName := ⟨RJ1, "canEncode", "(I)Z"⟩
abbrev cJ1_indexOf_4cfef : ByteArray := prog_19_method_22_code
def yJ1_indexOf_4cfef : MethodName := ⟨RJ1, "indexOf", "([BIII)I"⟩
abbrev cJ1_indexOfChar_4cfef : ByteArray := prog_19_method_23_code
def yJ1_indexOfChar_4cfef : MethodName := ⟨RJ1, "indexOfChar", "([BIII)I"⟩
def RJ2 : String := "java/lang/StringUTF16"
def TJ2 : u_T := fun k => match k with
  | _ => ("", "", "", false)
def tyJ2 : Nat → FieldType := fun k => match k with
  | _ => .int
abbrev wsJ20 : List Cond := u_ws RJ2 TJ2 0
theorem nmJ2 : ∀ a, a < 0 → ∀ b, b < 0 → a ≠ b → (TJ2 a).2.1 ≠ (TJ2 b).2.1 := by decide +kernel
theorem tyJ2_ok : ∀ k, k < 0 → parseFieldDescriptor (TJ2 k).2.2.1 = some (tyJ2 k) := by decide +kernel
abbrev cJ2_getChar_3b067 : ByteArray := prog_20_method_5_code
def yJ2_getChar_3b067 : MethodName := ⟨RJ2, "getChar", "([BI)C"⟩
abbrev cJ2_length_9d52b : ByteArray := prog_20_method_6_code
def yJ2_length_9d52b : MethodName := ⟨RJ2, "length", "([B)I"⟩
abbrev cJ2_indexOf_4cfef : ByteArray := prog_20_method_40_code
def yJ2_indexOf_4cfef : MethodName := ⟨RJ2, "indexOf", "([BIII)I"⟩
abbrev cJ2_indexOfChar_4cfef : ByteArray := prog_20_method_47_code
def yJ2_indexOfChar_4cfef : MethodName := ⟨RJ2, "indexOfChar", "([BIII)I"⟩
abbrev cJ2_indexOfCharUnsafe_4cfef : ByteArray := prog_20_method_48_code
def yJ2_indexOfCharUnsafe_4cfef : MethodName := ⟨RJ2, "indexOfCharUnsafe", "([BIII)I"⟩
abbrev cJ2_indexOfSupplementary_4cfef : ByteArray := prog_20_method_49_code
def yJ2_indexOfSupplementary_4cfef : MethodName := ⟨RJ2, "indexOfSupplementary", "([BIII)I"⟩
abbrev cJ2_checkBoundsBeginEnd_d044e : ByteArray := prog_20_method_93_code
def yJ2_checkBoundsBeginEnd_d044e : MethodName := ⟨RJ2, "checkBoundsBeginEnd", "(II[B)V"⟩
def RJ10 : String := "java/lang/System"
def TJ10 : u_T := fun k => match k with
  | _ => ("", "", "", false)
def tyJ10 : Nat → FieldType := fun k => match k with
  | _ => .int
abbrev wsJ100 : List Cond := u_ws RJ10 TJ10 0
theorem nmJ10 : ∀ a, a < 0 → ∀ b, b < 0 → a ≠ b → (TJ10 a).2.1 ≠ (TJ10 b).2.1 := by decide +kernel
theorem tyJ10_ok : ∀ k, k < 0 → parseFieldDescriptor (TJ10 k).2.2.1 = some (tyJ10 k) := by decide +kernel
def RJxfd54e : String := "java/lang/constant/Constable"
def TJxfd54e : u_T := fun k => match k with
  | _ => ("", "", "", false)
def tyJxfd54e : Nat → FieldType := fun k => match k with
  | _ => .int
abbrev wsJxfd54e0 : List Cond := u_ws RJxfd54e TJxfd54e 0
theorem nmJxfd54e : ∀ a, a < 0 → ∀ b, b < 0 → a ≠ b → (TJxfd54e a).2.1 ≠ (TJxfd54e b).2.1 := by decide +kernel
theorem tyJxfd54e_ok : ∀ k, k < 0 → parseFieldDescriptor (TJxfd54e k).2.2.1 = some (tyJxfd54e k) := by decide +kernel
def RJx3cf43 : String := "java/lang/constant/ConstantDesc"
def TJx3cf43 : u_T := fun k => match k with
  | _ => ("", "", "", false)
def tyJx3cf43 : Nat → FieldType := fun k => match k with
  | _ => .int
abbrev wsJx3cf430 : List Cond := u_ws RJx3cf43 TJx3cf43 0
theorem nmJx3cf43 : ∀ a, a < 0 → ∀ b, b < 0 → a ≠ b → (TJx3cf43 a).2.1 ≠ (TJx3cf43 b).2.1 := by decide +kernel
theorem tyJx3cf43_ok : ∀ k, k < 0 → parseFieldDescriptor (TJx3cf43 k).2.2.1 = some (tyJx3cf43 k) := by decide +kernel
def RJ7 : String := "java/util/Arrays"
def TJ7 : u_T := fun k => match k with
  | _ => ("", "", "", false)
def tyJ7 : Nat → FieldType := fun k => match k with
  | _ => .int
abbrev wsJ70 : List Cond := u_ws RJ7 TJ7 0
theorem nmJ7 : ∀ a, a < 0 → ∀ b, b < 0 → a ≠ b → (TJ7 a).2.1 ≠ (TJ7 b).2.1 := by decide +kernel
theorem tyJ7_ok : ∀ k, k < 0 → parseFieldDescriptor (TJ7 k).2.2.1 = some (tyJ7 k) := by decide +kernel
abbrev cJ7_fill_53178 : ByteArray := prog_22_method_103_code
def yJ7_fill_53178 : MethodName := ⟨RJ7, "fill", "([II)V"⟩
abbrev cJ7_copyOf_59c91 : ByteArray := prog_22_method_123_code
def yJ7_copyOf_59c91 : MethodName := ⟨RJ7, "copyOf", "([II)[I"⟩
def RJ3 : String := "jdk/internal/util/Preconditions"
def TJ3 : u_T := fun k => match k with
  | _ => ("", "", "", false)
def tyJ3 : Nat → FieldType := fun k => match k with
  | _ => .int
abbrev wsJ30 : List Cond := u_ws RJ3 TJ3 0
theorem nmJ3 : ∀ a, a < 0 → ∀ b, b < 0 → a ≠ b → (TJ3 a).2.1 ≠ (TJ3 b).2.1 := by decide +kernel
theorem tyJ3_ok : ∀ k, k < 0 → parseFieldDescriptor (TJ3 k).2.2.1 = some (tyJ3 k) := by decide +kernel
abbrev cJ3_checkFromToIndex_8c36e : ByteArray := prog_23_method_12_code
def yJ3_checkFromToIndex_8c36e : MethodName := ⟨RJ3, "checkFromToIndex", "(IIILjava/util/function/BiFunction;)I"⟩
def RL : String := "DeafBellLaw"
abbrev cL_law : ByteArray := code
def yL_law : MethodName := ⟨RL, "law", "([I)Z"⟩
abbrev vwCl : List vw_C := [(RX0, TX0, 4), (RX1, TX1, 0), (RX2, TX2, 0), (RX3, TX3, 0), (RX4, TX4, 0), (RX5, TX5, 0), (RX6, TX6, 0), (RX7, TX7, 0), (RX8, TX8, 8), (RX9, TX9, 17), (RX10, TX10, 10), (RX11, TX11, 8), (RX12, TX12, 26)]
