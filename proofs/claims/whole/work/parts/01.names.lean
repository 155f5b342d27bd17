-- ===== PART A: goes FIRST, ahead of the names: the tables' words, and 'selects' of the private methods out of them =====
/-- a private method of a class that the tables say can be made, by its rows of tables_1 -/
def lw_okq (q : MethodName × Nat) : Prop := (q.1.cls ≠ "java/lang/invoke/MethodHandle" ∧ q.1.cls ≠ "java/lang/invoke/VarHandle") ∧ Cond.instantiable q.1.cls q.2 ∈ tables_1 ∧ Cond.privateMethod q.1 ∈ tables_1 ∧ Cond.instanceMethod q.1 ∈ tables_1
theorem lw_p0 : lw_okq (⟨"ControlSigns$TextReader", "stands", "(LControlSigns$Text;I)Z"⟩, 5) := ⟨⟨by decide +kernel, by decide +kernel⟩, List.mem_of_getElem? (i := 114) (by decide +kernel), List.mem_of_getElem? (i := 296) (by decide +kernel), List.mem_of_getElem? (i := 297) (by decide +kernel)⟩
theorem lw_p1 : lw_okq (⟨"ControlSigns$TextReader", "takesNumber", "(LControlSigns$Text;I)Z"⟩, 5) := ⟨⟨by decide +kernel, by decide +kernel⟩, List.mem_of_getElem? (i := 114) (by decide +kernel), List.mem_of_getElem? (i := 307) (by decide +kernel), List.mem_of_getElem? (i := 308) (by decide +kernel)⟩
theorem lw_p2 : lw_okq (⟨"ControlSigns$TextReader", "hasRoom", "()Z"⟩, 5) := ⟨⟨by decide +kernel, by decide +kernel⟩, List.mem_of_getElem? (i := 114) (by decide +kernel), List.mem_of_getElem? (i := 311) (by decide +kernel), List.mem_of_getElem? (i := 312) (by decide +kernel)⟩
theorem lw_p3 : lw_okq (⟨"ControlSigns$TextReader", "takesCoefficient", "(I)Z"⟩, 5) := ⟨⟨by decide +kernel, by decide +kernel⟩, List.mem_of_getElem? (i := 114) (by decide +kernel), List.mem_of_getElem? (i := 315) (by decide +kernel), List.mem_of_getElem? (i := 316) (by decide +kernel)⟩
theorem lw_p4 : lw_okq (⟨"ControlSigns$TextReader", "takesEnd", "(I)Z"⟩, 5) := ⟨⟨by decide +kernel, by decide +kernel⟩, List.mem_of_getElem? (i := 114) (by decide +kernel), List.mem_of_getElem? (i := 330) (by decide +kernel), List.mem_of_getElem? (i := 331) (by decide +kernel)⟩
theorem lw_p5 : lw_okq (⟨"ControlSigns$TextReader", "takesSign", "(I)Z"⟩, 5) := ⟨⟨by decide +kernel, by decide +kernel⟩, List.mem_of_getElem? (i := 114) (by decide +kernel), List.mem_of_getElem? (i := 341) (by decide +kernel), List.mem_of_getElem? (i := 342) (by decide +kernel)⟩
theorem lw_p6 : lw_okq (⟨"ControlSigns$TextReader", "opensPolynomial", "()Z"⟩, 5) := ⟨⟨by decide +kernel, by decide +kernel⟩, List.mem_of_getElem? (i := 114) (by decide +kernel), List.mem_of_getElem? (i := 345) (by decide +kernel), List.mem_of_getElem? (i := 346) (by decide +kernel)⟩
theorem lw_p7 : lw_okq (⟨"ControlSigns$TextReader", "open", "(I)V"⟩, 5) := ⟨⟨by decide +kernel, by decide +kernel⟩, List.mem_of_getElem? (i := 114) (by decide +kernel), List.mem_of_getElem? (i := 357) (by decide +kernel), List.mem_of_getElem? (i := 358) (by decide +kernel)⟩
theorem lw_p8 : lw_okq (⟨"ControlSigns$TextReader", "opensBox", "()Z"⟩, 5) := ⟨⟨by decide +kernel, by decide +kernel⟩, List.mem_of_getElem? (i := 114) (by decide +kernel), List.mem_of_getElem? (i := 361) (by decide +kernel), List.mem_of_getElem? (i := 362) (by decide +kernel)⟩
theorem lw_p9 : lw_okq (⟨"ControlSigns$TextReader", "takesMinus", "()Z"⟩, 5) := ⟨⟨by decide +kernel, by decide +kernel⟩, List.mem_of_getElem? (i := 114) (by decide +kernel), List.mem_of_getElem? (i := 369) (by decide +kernel), List.mem_of_getElem? (i := 370) (by decide +kernel)⟩
theorem lw_p10 : lw_okq (⟨"ControlSigns$TextReader", "closes", "()Z"⟩, 5) := ⟨⟨by decide +kernel, by decide +kernel⟩, List.mem_of_getElem? (i := 114) (by decide +kernel), List.mem_of_getElem? (i := 373) (by decide +kernel), List.mem_of_getElem? (i := 374) (by decide +kernel)⟩
theorem lw_p11 : lw_okq (⟨"ControlSigns$Changes", "remember", "(IIIII)V"⟩, 2) := ⟨⟨by decide +kernel, by decide +kernel⟩, List.mem_of_getElem? (i := 84) (by decide +kernel), List.mem_of_getElem? (i := 448) (by decide +kernel), List.mem_of_getElem? (i := 449) (by decide +kernel)⟩
theorem lw_p12 : lw_okq (⟨"ControlSigns$Row", "multiply", "(JJ)V"⟩, 3) := ⟨⟨by decide +kernel, by decide +kernel⟩, List.mem_of_getElem? (i := 138) (by decide +kernel), List.mem_of_getElem? (i := 566) (by decide +kernel), List.mem_of_getElem? (i := 567) (by decide +kernel)⟩
theorem lw_p13 : lw_okq (⟨"ControlSigns$Row", "addWhole", "(J)V"⟩, 3) := ⟨⟨by decide +kernel, by decide +kernel⟩, List.mem_of_getElem? (i := 138) (by decide +kernel), List.mem_of_getElem? (i := 570) (by decide +kernel), List.mem_of_getElem? (i := 571) (by decide +kernel)⟩
theorem lw_p14 : lw_okq (⟨"ControlSigns$Row", "ways", "(I)I"⟩, 3) := ⟨⟨by decide +kernel, by decide +kernel⟩, List.mem_of_getElem? (i := 138) (by decide +kernel), List.mem_of_getElem? (i := 574) (by decide +kernel), List.mem_of_getElem? (i := 575) (by decide +kernel)⟩
theorem lw_p15 : lw_okq (⟨"ControlSigns$Roots", "add", "(II)V"⟩, 3) := ⟨⟨by decide +kernel, by decide +kernel⟩, List.mem_of_getElem? (i := 155) (by decide +kernel), List.mem_of_getElem? (i := 642) (by decide +kernel), List.mem_of_getElem? (i := 643) (by decide +kernel)⟩
def lw_privs_1 : List (MethodName × Nat) := [(⟨"ControlSigns$TextReader", "stands", "(LControlSigns$Text;I)Z"⟩, 5), (⟨"ControlSigns$TextReader", "takesNumber", "(LControlSigns$Text;I)Z"⟩, 5), (⟨"ControlSigns$TextReader", "hasRoom", "()Z"⟩, 5), (⟨"ControlSigns$TextReader", "takesCoefficient", "(I)Z"⟩, 5), (⟨"ControlSigns$TextReader", "takesEnd", "(I)Z"⟩, 5), (⟨"ControlSigns$TextReader", "takesSign", "(I)Z"⟩, 5), (⟨"ControlSigns$TextReader", "opensPolynomial", "()Z"⟩, 5), (⟨"ControlSigns$TextReader", "open", "(I)V"⟩, 5), (⟨"ControlSigns$TextReader", "opensBox", "()Z"⟩, 5), (⟨"ControlSigns$TextReader", "takesMinus", "()Z"⟩, 5), (⟨"ControlSigns$TextReader", "closes", "()Z"⟩, 5), (⟨"ControlSigns$Changes", "remember", "(IIIII)V"⟩, 2), (⟨"ControlSigns$Row", "multiply", "(JJ)V"⟩, 3), (⟨"ControlSigns$Row", "addWhole", "(J)V"⟩, 3), (⟨"ControlSigns$Row", "ways", "(I)I"⟩, 3), (⟨"ControlSigns$Roots", "add", "(II)V"⟩, 3)]
theorem lw_r1 : ∀ q ∈ lw_privs_1, lw_okq q := List.forall_mem_cons.mpr ⟨lw_p0, List.forall_mem_cons.mpr ⟨lw_p1, List.forall_mem_cons.mpr ⟨lw_p2, List.forall_mem_cons.mpr ⟨lw_p3, List.forall_mem_cons.mpr ⟨lw_p4, List.forall_mem_cons.mpr ⟨lw_p5, List.forall_mem_cons.mpr ⟨lw_p6, List.forall_mem_cons.mpr ⟨lw_p7, List.forall_mem_cons.mpr ⟨lw_p8, List.forall_mem_cons.mpr ⟨lw_p9, List.forall_mem_cons.mpr ⟨lw_p10, List.forall_mem_cons.mpr ⟨lw_p11, List.forall_mem_cons.mpr ⟨lw_p12, List.forall_mem_cons.mpr ⟨lw_p13, List.forall_mem_cons.mpr ⟨lw_p14, List.forall_mem_cons.mpr ⟨lw_p15, fun _ h => absurd h List.not_mem_nil⟩⟩⟩⟩⟩⟩⟩⟩⟩⟩⟩⟩⟩⟩⟩⟩
theorem lw_p16 : lw_okq (⟨"ControlSigns$Roots", "pass", "(ILControlSigns$Row;)I"⟩, 3) := ⟨⟨by decide +kernel, by decide +kernel⟩, List.mem_of_getElem? (i := 155) (by decide +kernel), List.mem_of_getElem? (i := 646) (by decide +kernel), List.mem_of_getElem? (i := 647) (by decide +kernel)⟩
theorem lw_p17 : lw_okq (⟨"ControlSigns$Paper", "add", "(I)V"⟩, 3) := ⟨⟨by decide +kernel, by decide +kernel⟩, List.mem_of_getElem? (i := 171) (by decide +kernel), List.mem_of_getElem? (i := 690) (by decide +kernel), List.mem_of_getElem? (i := 691) (by decide +kernel)⟩
theorem lw_p18 : lw_okq (⟨"ControlSigns$Bounds", "put", "(LControlSigns$Taken;LControlSigns$Row;II)V"⟩, 4) := ⟨⟨by decide +kernel, by decide +kernel⟩, List.mem_of_getElem? (i := 187) (by decide +kernel), List.mem_of_getElem? (i := 741) (by decide +kernel), List.mem_of_getElem? (i := 742) (by decide +kernel)⟩
theorem lw_p19 : lw_okq (⟨"ControlSigns$Row", "commonNumber", "(I)J"⟩, 3) := ⟨⟨by decide +kernel, by decide +kernel⟩, List.mem_of_getElem? (i := 138) (by decide +kernel), List.mem_of_getElem? (i := 750) (by decide +kernel), List.mem_of_getElem? (i := 751) (by decide +kernel)⟩
theorem lw_p20 : lw_okq (⟨"ControlSigns$Bounds", "lowest", "()I"⟩, 4) := ⟨⟨by decide +kernel, by decide +kernel⟩, List.mem_of_getElem? (i := 187) (by decide +kernel), List.mem_of_getElem? (i := 761) (by decide +kernel), List.mem_of_getElem? (i := 762) (by decide +kernel)⟩
theorem lw_p21 : lw_okq (⟨"ControlSigns$Bounds", "makeRoom", "(I)V"⟩, 4) := ⟨⟨by decide +kernel, by decide +kernel⟩, List.mem_of_getElem? (i := 187) (by decide +kernel), List.mem_of_getElem? (i := 765) (by decide +kernel), List.mem_of_getElem? (i := 766) (by decide +kernel)⟩
theorem lw_p22 : lw_okq (⟨"ControlSigns$Bounds", "leastOf", "([J)J"⟩, 4) := ⟨⟨by decide +kernel, by decide +kernel⟩, List.mem_of_getElem? (i := 187) (by decide +kernel), List.mem_of_getElem? (i := 774) (by decide +kernel), List.mem_of_getElem? (i := 775) (by decide +kernel)⟩
theorem lw_p23 : lw_okq (⟨"ControlSigns$Shares", "add", "(II)V"⟩, 1) := ⟨⟨by decide +kernel, by decide +kernel⟩, List.mem_of_getElem? (i := 206) (by decide +kernel), List.mem_of_getElem? (i := 809) (by decide +kernel), List.mem_of_getElem? (i := 810) (by decide +kernel)⟩
theorem lw_p24 : lw_okq (⟨"ControlSigns", "isImage", "(I)Z"⟩, 13) := ⟨⟨by decide +kernel, by decide +kernel⟩, List.mem_of_getElem? (i := 18) (by decide +kernel), List.mem_of_getElem? (i := 869) (by decide +kernel), List.mem_of_getElem? (i := 870) (by decide +kernel)⟩
theorem lw_p25 : lw_okq (⟨"ControlSignsModel", "becomes", "()V"⟩, 34) := ⟨⟨by decide +kernel, by decide +kernel⟩, List.mem_of_getElem? (i := 885) (by decide +kernel), List.mem_of_getElem? (i := 891) (by decide +kernel), List.mem_of_getElem? (i := 892) (by decide +kernel)⟩
theorem lw_p26 : lw_okq (⟨"ControlSignsModel", "split", "()V"⟩, 34) := ⟨⟨by decide +kernel, by decide +kernel⟩, List.mem_of_getElem? (i := 885) (by decide +kernel), List.mem_of_getElem? (i := 1014) (by decide +kernel), List.mem_of_getElem? (i := 1015) (by decide +kernel)⟩
theorem lw_p27 : lw_okq (⟨"ControlSignsModel", "numbered", "(I)I"⟩, 34) := ⟨⟨by decide +kernel, by decide +kernel⟩, List.mem_of_getElem? (i := 885) (by decide +kernel), List.mem_of_getElem? (i := 1018) (by decide +kernel), List.mem_of_getElem? (i := 1019) (by decide +kernel)⟩
theorem lw_p28 : lw_okq (⟨"ControlSignsModel", "isKind", "(I)Z"⟩, 34) := ⟨⟨by decide +kernel, by decide +kernel⟩, List.mem_of_getElem? (i := 885) (by decide +kernel), List.mem_of_getElem? (i := 1022) (by decide +kernel), List.mem_of_getElem? (i := 1023) (by decide +kernel)⟩
theorem lw_p29 : lw_okq (⟨"ControlSignsModel", "polynomial", "()Z"⟩, 34) := ⟨⟨by decide +kernel, by decide +kernel⟩, List.mem_of_getElem? (i := 885) (by decide +kernel), List.mem_of_getElem? (i := 1026) (by decide +kernel), List.mem_of_getElem? (i := 1027) (by decide +kernel)⟩
theorem lw_p30 : lw_okq (⟨"ControlSignsModel", "takesNumber", "(II)Z"⟩, 34) := ⟨⟨by decide +kernel, by decide +kernel⟩, List.mem_of_getElem? (i := 885) (by decide +kernel), List.mem_of_getElem? (i := 1030) (by decide +kernel), List.mem_of_getElem? (i := 1031) (by decide +kernel)⟩
theorem lw_p31 : lw_okq (⟨"ControlSignsModel", "boxTold", "()Z"⟩, 34) := ⟨⟨by decide +kernel, by decide +kernel⟩, List.mem_of_getElem? (i := 885) (by decide +kernel), List.mem_of_getElem? (i := 1034) (by decide +kernel), List.mem_of_getElem? (i := 1035) (by decide +kernel)⟩
def lw_privs_2 : List (MethodName × Nat) := [(⟨"ControlSigns$Roots", "pass", "(ILControlSigns$Row;)I"⟩, 3), (⟨"ControlSigns$Paper", "add", "(I)V"⟩, 3), (⟨"ControlSigns$Bounds", "put", "(LControlSigns$Taken;LControlSigns$Row;II)V"⟩, 4), (⟨"ControlSigns$Row", "commonNumber", "(I)J"⟩, 3), (⟨"ControlSigns$Bounds", "lowest", "()I"⟩, 4), (⟨"ControlSigns$Bounds", "makeRoom", "(I)V"⟩, 4), (⟨"ControlSigns$Bounds", "leastOf", "([J)J"⟩, 4), (⟨"ControlSigns$Shares", "add", "(II)V"⟩, 1), (⟨"ControlSigns", "isImage", "(I)Z"⟩, 13), (⟨"ControlSignsModel", "becomes", "()V"⟩, 34), (⟨"ControlSignsModel", "split", "()V"⟩, 34), (⟨"ControlSignsModel", "numbered", "(I)I"⟩, 34), (⟨"ControlSignsModel", "isKind", "(I)Z"⟩, 34), (⟨"ControlSignsModel", "polynomial", "()Z"⟩, 34), (⟨"ControlSignsModel", "takesNumber", "(II)Z"⟩, 34), (⟨"ControlSignsModel", "boxTold", "()Z"⟩, 34)]
theorem lw_r2 : ∀ q ∈ lw_privs_2, lw_okq q := List.forall_mem_cons.mpr ⟨lw_p16, List.forall_mem_cons.mpr ⟨lw_p17, List.forall_mem_cons.mpr ⟨lw_p18, List.forall_mem_cons.mpr ⟨lw_p19, List.forall_mem_cons.mpr ⟨lw_p20, List.forall_mem_cons.mpr ⟨lw_p21, List.forall_mem_cons.mpr ⟨lw_p22, List.forall_mem_cons.mpr ⟨lw_p23, List.forall_mem_cons.mpr ⟨lw_p24, List.forall_mem_cons.mpr ⟨lw_p25, List.forall_mem_cons.mpr ⟨lw_p26, List.forall_mem_cons.mpr ⟨lw_p27, List.forall_mem_cons.mpr ⟨lw_p28, List.forall_mem_cons.mpr ⟨lw_p29, List.forall_mem_cons.mpr ⟨lw_p30, List.forall_mem_cons.mpr ⟨lw_p31, fun _ h => absurd h List.not_mem_nil⟩⟩⟩⟩⟩⟩⟩⟩⟩⟩⟩⟩⟩⟩⟩⟩
theorem lw_p32 : lw_okq (⟨"ControlSignsModel", "isPolynomial", "(I)Z"⟩, 34) := ⟨⟨by decide +kernel, by decide +kernel⟩, List.mem_of_getElem? (i := 885) (by decide +kernel), List.mem_of_getElem? (i := 1042) (by decide +kernel), List.mem_of_getElem? (i := 1043) (by decide +kernel)⟩
theorem lw_p33 : lw_okq (⟨"ControlSignsModel", "isBox", "(I)Z"⟩, 34) := ⟨⟨by decide +kernel, by decide +kernel⟩, List.mem_of_getElem? (i := 885) (by decide +kernel), List.mem_of_getElem? (i := 1046) (by decide +kernel), List.mem_of_getElem? (i := 1047) (by decide +kernel)⟩
theorem lw_p34 : lw_okq (⟨"ControlSignsModel", "isCoefficient", "(II)Z"⟩, 34) := ⟨⟨by decide +kernel, by decide +kernel⟩, List.mem_of_getElem? (i := 885) (by decide +kernel), List.mem_of_getElem? (i := 1054) (by decide +kernel), List.mem_of_getElem? (i := 1055) (by decide +kernel)⟩
theorem lw_p35 : lw_okq (⟨"ControlSignsModel", "knows", "(II)V"⟩, 34) := ⟨⟨by decide +kernel, by decide +kernel⟩, List.mem_of_getElem? (i := 885) (by decide +kernel), List.mem_of_getElem? (i := 1067) (by decide +kernel), List.mem_of_getElem? (i := 1068) (by decide +kernel)⟩
theorem lw_p36 : lw_okq (⟨"ControlSignsModel", "isTaken", "()Z"⟩, 34) := ⟨⟨by decide +kernel, by decide +kernel⟩, List.mem_of_getElem? (i := 885) (by decide +kernel), List.mem_of_getElem? (i := 1090) (by decide +kernel), List.mem_of_getElem? (i := 1091) (by decide +kernel)⟩
theorem lw_p37 : lw_okq (⟨"ControlSignsModel", "lays", "(III)V"⟩, 34) := ⟨⟨by decide +kernel, by decide +kernel⟩, List.mem_of_getElem? (i := 885) (by decide +kernel), List.mem_of_getElem? (i := 1094) (by decide +kernel), List.mem_of_getElem? (i := 1095) (by decide +kernel)⟩
theorem lw_p38 : lw_okq (⟨"ControlSignsModel", "laysOwn", "(II)V"⟩, 34) := ⟨⟨by decide +kernel, by decide +kernel⟩, List.mem_of_getElem? (i := 885) (by decide +kernel), List.mem_of_getElem? (i := 1098) (by decide +kernel), List.mem_of_getElem? (i := 1099) (by decide +kernel)⟩
theorem lw_p39 : lw_okq (⟨"ControlSignsModel", "lowOf", "(I)I"⟩, 34) := ⟨⟨by decide +kernel, by decide +kernel⟩, List.mem_of_getElem? (i := 885) (by decide +kernel), List.mem_of_getElem? (i := 1102) (by decide +kernel), List.mem_of_getElem? (i := 1103) (by decide +kernel)⟩
theorem lw_p40 : lw_okq (⟨"ControlSignsModel", "lengthOf", "()I"⟩, 34) := ⟨⟨by decide +kernel, by decide +kernel⟩, List.mem_of_getElem? (i := 885) (by decide +kernel), List.mem_of_getElem? (i := 1109) (by decide +kernel), List.mem_of_getElem? (i := 1110) (by decide +kernel)⟩
theorem lw_p41 : lw_okq (⟨"ControlSignsModel", "varies", "(II)I"⟩, 34) := ⟨⟨by decide +kernel, by decide +kernel⟩, List.mem_of_getElem? (i := 885) (by decide +kernel), List.mem_of_getElem? (i := 1130) (by decide +kernel), List.mem_of_getElem? (i := 1131) (by decide +kernel)⟩
theorem lw_p42 : lw_okq (⟨"ControlSignsModel", "highOf", "(I)I"⟩, 34) := ⟨⟨by decide +kernel, by decide +kernel⟩, List.mem_of_getElem? (i := 885) (by decide +kernel), List.mem_of_getElem? (i := 1138) (by decide +kernel), List.mem_of_getElem? (i := 1139) (by decide +kernel)⟩
theorem lw_p43 : lw_okq (⟨"ControlSignsModel", "brings", "()V"⟩, 34) := ⟨⟨by decide +kernel, by decide +kernel⟩, List.mem_of_getElem? (i := 885) (by decide +kernel), List.mem_of_getElem? (i := 1150) (by decide +kernel), List.mem_of_getElem? (i := 1151) (by decide +kernel)⟩
theorem lw_p44 : lw_okq (⟨"ControlSignsModel", "puts", "(I)V"⟩, 34) := ⟨⟨by decide +kernel, by decide +kernel⟩, List.mem_of_getElem? (i := 885) (by decide +kernel), List.mem_of_getElem? (i := 1154) (by decide +kernel), List.mem_of_getElem? (i := 1155) (by decide +kernel)⟩
theorem lw_p45 : lw_okq (⟨"ControlSignsModel", "finds", "(II)V"⟩, 34) := ⟨⟨by decide +kernel, by decide +kernel⟩, List.mem_of_getElem? (i := 885) (by decide +kernel), List.mem_of_getElem? (i := 1158) (by decide +kernel), List.mem_of_getElem? (i := 1159) (by decide +kernel)⟩
theorem lw_p46 : lw_okq (⟨"ControlSignsModel", "writes", "()I"⟩, 34) := ⟨⟨by decide +kernel, by decide +kernel⟩, List.mem_of_getElem? (i := 885) (by decide +kernel), List.mem_of_getElem? (i := 1170) (by decide +kernel), List.mem_of_getElem? (i := 1171) (by decide +kernel)⟩
theorem lw_p47 : lw_okq (⟨"ControlSignsModel", "isAbove", "(IIII)Z"⟩, 34) := ⟨⟨by decide +kernel, by decide +kernel⟩, List.mem_of_getElem? (i := 885) (by decide +kernel), List.mem_of_getElem? (i := 1174) (by decide +kernel), List.mem_of_getElem? (i := 1175) (by decide +kernel)⟩
def lw_privs_3 : List (MethodName × Nat) := [(⟨"ControlSignsModel", "isPolynomial", "(I)Z"⟩, 34), (⟨"ControlSignsModel", "isBox", "(I)Z"⟩, 34), (⟨"ControlSignsModel", "isCoefficient", "(II)Z"⟩, 34), (⟨"ControlSignsModel", "knows", "(II)V"⟩, 34), (⟨"ControlSignsModel", "isTaken", "()Z"⟩, 34), (⟨"ControlSignsModel", "lays", "(III)V"⟩, 34), (⟨"ControlSignsModel", "laysOwn", "(II)V"⟩, 34), (⟨"ControlSignsModel", "lowOf", "(I)I"⟩, 34), (⟨"ControlSignsModel", "lengthOf", "()I"⟩, 34), (⟨"ControlSignsModel", "varies", "(II)I"⟩, 34), (⟨"ControlSignsModel", "highOf", "(I)I"⟩, 34), (⟨"ControlSignsModel", "brings", "()V"⟩, 34), (⟨"ControlSignsModel", "puts", "(I)V"⟩, 34), (⟨"ControlSignsModel", "finds", "(II)V"⟩, 34), (⟨"ControlSignsModel", "writes", "()I"⟩, 34), (⟨"ControlSignsModel", "isAbove", "(IIII)Z"⟩, 34)]
theorem lw_r3 : ∀ q ∈ lw_privs_3, lw_okq q := List.forall_mem_cons.mpr ⟨lw_p32, List.forall_mem_cons.mpr ⟨lw_p33, List.forall_mem_cons.mpr ⟨lw_p34, List.forall_mem_cons.mpr ⟨lw_p35, List.forall_mem_cons.mpr ⟨lw_p36, List.forall_mem_cons.mpr ⟨lw_p37, List.forall_mem_cons.mpr ⟨lw_p38, List.forall_mem_cons.mpr ⟨lw_p39, List.forall_mem_cons.mpr ⟨lw_p40, List.forall_mem_cons.mpr ⟨lw_p41, List.forall_mem_cons.mpr ⟨lw_p42, List.forall_mem_cons.mpr ⟨lw_p43, List.forall_mem_cons.mpr ⟨lw_p44, List.forall_mem_cons.mpr ⟨lw_p45, List.forall_mem_cons.mpr ⟨lw_p46, List.forall_mem_cons.mpr ⟨lw_p47, fun _ h => absurd h List.not_mem_nil⟩⟩⟩⟩⟩⟩⟩⟩⟩⟩⟩⟩⟩⟩⟩⟩
theorem lw_p48 : lw_okq (⟨"ControlSignsModel", "narrows", "(I)V"⟩, 34) := ⟨⟨by decide +kernel, by decide +kernel⟩, List.mem_of_getElem? (i := 885) (by decide +kernel), List.mem_of_getElem? (i := 1194) (by decide +kernel), List.mem_of_getElem? (i := 1195) (by decide +kernel)⟩
theorem lw_p49 : lw_okq (⟨"ControlSignsModel", "leastOf", "(I)J"⟩, 34) := ⟨⟨by decide +kernel, by decide +kernel⟩, List.mem_of_getElem? (i := 885) (by decide +kernel), List.mem_of_getElem? (i := 1198) (by decide +kernel), List.mem_of_getElem? (i := 1199) (by decide +kernel)⟩
theorem lw_p50 : lw_okq (⟨"ControlSignsModel", "isHeld", "(I)Z"⟩, 34) := ⟨⟨by decide +kernel, by decide +kernel⟩, List.mem_of_getElem? (i := 885) (by decide +kernel), List.mem_of_getElem? (i := 1206) (by decide +kernel), List.mem_of_getElem? (i := 1207) (by decide +kernel)⟩
theorem lw_p51 : lw_okq (⟨"ControlSignsModel", "isBroken", "(I)Z"⟩, 34) := ⟨⟨by decide +kernel, by decide +kernel⟩, List.mem_of_getElem? (i := 885) (by decide +kernel), List.mem_of_getElem? (i := 1210) (by decide +kernel), List.mem_of_getElem? (i := 1211) (by decide +kernel)⟩
theorem lw_p52 : lw_okq (⟨"ControlSignsModel", "signAt", "(II)I"⟩, 34) := ⟨⟨by decide +kernel, by decide +kernel⟩, List.mem_of_getElem? (i := 885) (by decide +kernel), List.mem_of_getElem? (i := 1234) (by decide +kernel), List.mem_of_getElem? (i := 1235) (by decide +kernel)⟩
def lw_privs_4 : List (MethodName × Nat) := [(⟨"ControlSignsModel", "narrows", "(I)V"⟩, 34), (⟨"ControlSignsModel", "leastOf", "(I)J"⟩, 34), (⟨"ControlSignsModel", "isHeld", "(I)Z"⟩, 34), (⟨"ControlSignsModel", "isBroken", "(I)Z"⟩, 34), (⟨"ControlSignsModel", "signAt", "(II)I"⟩, 34)]
theorem lw_r4 : ∀ q ∈ lw_privs_4, lw_okq q := List.forall_mem_cons.mpr ⟨lw_p48, List.forall_mem_cons.mpr ⟨lw_p49, List.forall_mem_cons.mpr ⟨lw_p50, List.forall_mem_cons.mpr ⟨lw_p51, List.forall_mem_cons.mpr ⟨lw_p52, fun _ h => absurd h List.not_mem_nil⟩⟩⟩⟩⟩
def lw_privs : List (MethodName × Nat) := lw_privs_1 ++ (lw_privs_2 ++ (lw_privs_3 ++ (lw_privs_4)))
def lw_tbl : List Cond := k2_sels lw_privs ++ tables_1
theorem lw_privs_ok : ∀ q ∈ lw_privs, lw_okq q := by
  show ∀ q ∈ lw_privs_1 ++ (lw_privs_2 ++ (lw_privs_3 ++ (lw_privs_4))), lw_okq q
  exact List.forall_mem_append.mpr ⟨lw_r1, List.forall_mem_append.mpr ⟨lw_r2, List.forall_mem_append.mpr ⟨lw_r3, lw_r4⟩⟩⟩
def RX0 : String := "ControlSigns$Bounds"
def TX0 : u_T := fun k => match k with
  | 0 => ("ControlSigns$Bounds", "nodes", "[I", true)
  | 1 => ("ControlSigns$Bounds", "leasts", "[J", true)
  | 2 => ("ControlSigns$Bounds", "leastEnds", "[J", true)
  | _ => ("ControlSigns$Bounds", "size", "I", false)
def tyX0 : Nat → FieldType := fun k => match k with
  | 0 => .array .int
  | 1 => .array .long
  | 2 => .array .long
  | _ => .int
abbrev wsX00 : List Cond := u_ws RX0 TX0 4
theorem nmX0 : ∀ a, a < 4 → ∀ b, b < 4 → a ≠ b → (TX0 a).2.1 ≠ (TX0 b).2.1 := by decide +kernel
theorem tyX0_ok : ∀ k, k < 4 → parseFieldDescriptor (TX0 k).2.2.1 = some (tyX0 k) := by decide +kernel
abbrev cX0_init : ByteArray := prog_2_method_1_code
def yX0_init : MethodName := ⟨RX0, "<init>", "()V"⟩
abbrev cX0_narrow : ByteArray := prog_2_method_2_code
def yX0_narrow : MethodName := ⟨RX0, "narrow", "(LControlSigns$Taken;LControlSigns$Row;I)V"⟩
abbrev cX0_lowest : ByteArray := prog_2_method_3_code
def yX0_lowest : MethodName := ⟨RX0, "lowest", "()I"⟩
abbrev cX0_makeRoom : ByteArray := prog_2_method_4_code
def yX0_makeRoom : MethodName := ⟨RX0, "makeRoom", "(I)V"⟩
abbrev cX0_put : ByteArray := prog_2_method_5_code
def yX0_put : MethodName := ⟨RX0, "put", "(LControlSigns$Taken;LControlSigns$Row;II)V"⟩
abbrev cX0_leastNumber : ByteArray := prog_2_method_6_code
def yX0_leastNumber : MethodName := ⟨RX0, "leastNumber", "()J"⟩
abbrev cX0_leastEnd : ByteArray := prog_2_method_7_code
def yX0_leastEnd : MethodName := ⟨RX0, "leastEnd", "()J"⟩
abbrev cX0_leastOf : ByteArray := prog_2_method_8_code
def yX0_leastOf : MethodName := ⟨RX0, "leastOf", "([J)J"⟩
def RX1 : String := "ControlSigns$Changes"
def TX1 : u_T := fun k => match k with
  | 0 => ("ControlSigns$Changes", "rows", "[I", true)
  | _ => ("ControlSigns$Changes", "size", "I", false)
def tyX1 : Nat → FieldType := fun k => match k with
  | 0 => .array .int
  | _ => .int
abbrev wsX10 : List Cond := u_ws RX1 TX1 2
theorem nmX1 : ∀ a, a < 2 → ∀ b, b < 2 → a ≠ b → (TX1 a).2.1 ≠ (TX1 b).2.1 := by decide +kernel
theorem tyX1_ok : ∀ k, k < 2 → parseFieldDescriptor (TX1 k).2.2.1 = some (tyX1 k) := by decide +kernel
abbrev cX1_init : ByteArray := prog_3_method_1_code
def yX1_init : MethodName := ⟨RX1, "<init>", "()V"⟩
abbrev cX1_size : ByteArray := prog_3_method_2_code
def yX1_size : MethodName := ⟨RX1, "size", "()I"⟩
abbrev cX1_empty : ByteArray := prog_3_method_3_code
def yX1_empty : MethodName := ⟨RX1, "empty", "()V"⟩
abbrev cX1_rememberCoefficient : ByteArray := prog_3_method_4_code
def yX1_rememberCoefficient : MethodName := ⟨RX1, "rememberCoefficient", "(LControlSigns$Told;II)V"⟩
abbrev cX1_rememberBox : ByteArray := prog_3_method_5_code
def yX1_rememberBox : MethodName := ⟨RX1, "rememberBox", "(LControlSigns$Told;I)V"⟩
abbrev cX1_rememberWish : ByteArray := prog_3_method_6_code
def yX1_rememberWish : MethodName := ⟨RX1, "rememberWish", "(LControlSigns$Told;I)V"⟩
abbrev cX1_remember : ByteArray := prog_3_method_7_code
def yX1_remember : MethodName := ⟨RX1, "remember", "(IIIII)V"⟩
abbrev cX1_takeBack : ByteArray := prog_3_method_8_code
def yX1_takeBack : MethodName := ⟨RX1, "takeBack", "(LControlSigns$Told;)V"⟩
def RX2 : String := "ControlSigns$Paper"
def TX2 : u_T := fun k => match k with
  | 0 => ("ControlSigns$Paper", "letters", "[I", true)
  | 1 => ("ControlSigns$Paper", "size", "I", false)
  | _ => ("ControlSigns$Paper", "place", "I", false)
def tyX2 : Nat → FieldType := fun k => match k with
  | 0 => .array .int
  | 1 => .int
  | _ => .int
abbrev wsX20 : List Cond := u_ws RX2 TX2 3
theorem nmX2 : ∀ a, a < 3 → ∀ b, b < 3 → a ≠ b → (TX2 a).2.1 ≠ (TX2 b).2.1 := by decide +kernel
theorem tyX2_ok : ∀ k, k < 3 → parseFieldDescriptor (TX2 k).2.2.1 = some (tyX2 k) := by decide +kernel
abbrev cX2_init : ByteArray := prog_4_method_1_code
def yX2_init : MethodName := ⟨RX2, "<init>", "()V"⟩
abbrev cX2_letter : ByteArray := prog_4_method_2_code
def yX2_letter : MethodName := ⟨RX2, "letter", "(I)I"⟩
abbrev cX2_place : ByteArray := prog_4_method_3_code
def yX2_place : MethodName := ⟨RX2, "place", "()I"⟩
abbrev cX2_write : ByteArray := prog_4_method_4_code
def yX2_write : MethodName := ⟨RX2, "write", "(LControlSigns$Taken;LControlSigns$Row;)I"⟩
abbrev cX2_add : ByteArray := prog_4_method_5_code
def yX2_add : MethodName := ⟨RX2, "add", "(I)V"⟩
abbrev cX2_leastFigure : ByteArray := prog_4_method_6_code
def yX2_leastFigure : MethodName := ⟨RX2, "leastFigure", "(LControlSigns$Taken;LControlSigns$Row;I)I"⟩
abbrev cX2_read : ByteArray := prog_4_method_7_code
def yX2_read : MethodName := ⟨RX2, "read", "(LControlSigns$Taken;LControlSigns$Row;LControlSigns$Text;)I"⟩
abbrev cX2_isRight : ByteArray := prog_4_method_8_code
def yX2_isRight : MethodName := ⟨RX2, "isRight", "(LControlSigns$Taken;LControlSigns$Row;II)Z"⟩
def RX3 : String := "ControlSigns$Roots"
def TX3 : u_T := fun k => match k with
  | 0 => ("ControlSigns$Roots", "nodes", "[I", true)
  | 1 => ("ControlSigns$Roots", "kinds", "[I", true)
  | _ => ("ControlSigns$Roots", "size", "I", false)
def tyX3 : Nat → FieldType := fun k => match k with
  | 0 => .array .int
  | 1 => .array .int
  | _ => .int
abbrev wsX30 : List Cond := u_ws RX3 TX3 3
theorem nmX3 : ∀ a, a < 3 → ∀ b, b < 3 → a ≠ b → (TX3 a).2.1 ≠ (TX3 b).2.1 := by decide +kernel
theorem tyX3_ok : ∀ k, k < 3 → parseFieldDescriptor (TX3 k).2.2.1 = some (tyX3 k) := by decide +kernel
abbrev cX3_init : ByteArray := prog_5_method_1_code
def yX3_init : MethodName := ⟨RX3, "<init>", "()V"⟩
abbrev cX3_size : ByteArray := prog_5_method_2_code
def yX3_size : MethodName := ⟨RX3, "size", "()I"⟩
abbrev cX3_node : ByteArray := prog_5_method_3_code
def yX3_node : MethodName := ⟨RX3, "node", "(I)I"⟩
abbrev cX3_kind : ByteArray := prog_5_method_4_code
def yX3_kind : MethodName := ⟨RX3, "kind", "(I)I"⟩
abbrev cX3_find : ByteArray := prog_5_method_5_code
def yX3_find : MethodName := ⟨RX3, "find", "(LControlSigns$Taken;LControlSigns$Row;)V"⟩
abbrev cX3_pass : ByteArray := prog_5_method_6_code
def yX3_pass : MethodName := ⟨RX3, "pass", "(ILControlSigns$Row;)I"⟩
abbrev cX3_add : ByteArray := prog_5_method_7_code
def yX3_add : MethodName := ⟨RX3, "add", "(II)V"⟩
def RX4 : String := "ControlSigns$Row"
def TX4 : u_T := fun k => match k with
  | 0 => ("ControlSigns$Row", "numbers", "[J", true)
  | 1 => ("ControlSigns$Row", "top", "I", false)
  | _ => ("ControlSigns$Row", "unit", "J", false)
def tyX4 : Nat → FieldType := fun k => match k with
  | 0 => .array .long
  | 1 => .int
  | _ => .long
abbrev wsX40 : List Cond := u_ws RX4 TX4 3
theorem nmX4 : ∀ a, a < 3 → ∀ b, b < 3 → a ≠ b → (TX4 a).2.1 ≠ (TX4 b).2.1 := by decide +kernel
theorem tyX4_ok : ∀ k, k < 3 → parseFieldDescriptor (TX4 k).2.2.1 = some (tyX4 k) := by decide +kernel
abbrev cX4_init : ByteArray := prog_6_method_1_code
def yX4_init : MethodName := ⟨RX4, "<init>", "()V"⟩
abbrev cX4_top : ByteArray := prog_6_method_2_code
def yX4_top : MethodName := ⟨RX4, "top", "()I"⟩
abbrev cX4_lay : ByteArray := prog_6_method_3_code
def yX4_lay : MethodName := ⟨RX4, "lay", "(LControlSigns$Taken;I)V"⟩
abbrev cX4_layRaised : ByteArray := prog_6_method_4_code
def yX4_layRaised : MethodName := ⟨RX4, "layRaised", "(LControlSigns$Taken;II)V"⟩
abbrev cX4_layOne : ByteArray := prog_6_method_5_code
def yX4_layOne : MethodName := ⟨RX4, "layOne", "(LControlSigns$Taken;II)V"⟩
abbrev cX4_raise : ByteArray := prog_6_method_6_code
def yX4_raise : MethodName := ⟨RX4, "raise", "()V"⟩
abbrev cX4_multiply : ByteArray := prog_6_method_7_code
def yX4_multiply : MethodName := ⟨RX4, "multiply", "(JJ)V"⟩
abbrev cX4_addWhole : ByteArray := prog_6_method_8_code
def yX4_addWhole : MethodName := ⟨RX4, "addWhole", "(J)V"⟩
abbrev cX4_ways : ByteArray := prog_6_method_9_code
def yX4_ways : MethodName := ⟨RX4, "ways", "(I)I"⟩
abbrev cX4_number : ByteArray := prog_6_method_10_code
def yX4_number : MethodName := ⟨RX4, "number", "(I)J"⟩
abbrev cX4_below : ByteArray := prog_6_method_11_code
def yX4_below : MethodName := ⟨RX4, "below", "(I)J"⟩
abbrev cX4_commonNumber : ByteArray := prog_6_method_12_code
def yX4_commonNumber : MethodName := ⟨RX4, "commonNumber", "(I)J"⟩
abbrev cX4_commonBelow : ByteArray := prog_6_method_13_code
def yX4_commonBelow : MethodName := ⟨RX4, "commonBelow", "()J"⟩
abbrev cX4_least : ByteArray := prog_6_method_14_code
def yX4_least : MethodName := ⟨RX4, "least", "()J"⟩
abbrev cX4_leastEnd : ByteArray := prog_6_method_15_code
def yX4_leastEnd : MethodName := ⟨RX4, "leastEnd", "()J"⟩
abbrev cX4_signAtLow : ByteArray := prog_6_method_16_code
def yX4_signAtLow : MethodName := ⟨RX4, "signAtLow", "()I"⟩
abbrev cX4_signAtHigh : ByteArray := prog_6_method_17_code
def yX4_signAtHigh : MethodName := ⟨RX4, "signAtHigh", "()I"⟩
abbrev cX4_allHave : ByteArray := prog_6_method_18_code
def yX4_allHave : MethodName := ⟨RX4, "allHave", "(I)Z"⟩
abbrev cX4_signChanges : ByteArray := prog_6_method_19_code
def yX4_signChanges : MethodName := ⟨RX4, "signChanges", "()I"⟩
def RX5 : String := "ControlSigns$Shares"
def TX5 : u_T := fun k => match k with
  | _ => ("ControlSigns$Shares", "parts", "[I", true)
def tyX5 : Nat → FieldType := fun k => match k with
  | _ => .array .int
abbrev wsX50 : List Cond := u_ws RX5 TX5 1
theorem nmX5 : ∀ a, a < 1 → ∀ b, b < 1 → a ≠ b → (TX5 a).2.1 ≠ (TX5 b).2.1 := by decide +kernel
theorem tyX5_ok : ∀ k, k < 1 → parseFieldDescriptor (TX5 k).2.2.1 = some (tyX5 k) := by decide +kernel
abbrev cX5_init : ByteArray := prog_7_method_1_code
def yX5_init : MethodName := ⟨RX5, "<init>", "()V"⟩
abbrev cX5_share : ByteArray := prog_7_method_2_code
def yX5_share : MethodName := ⟨RX5, "share", "(I)I"⟩
abbrev cX5_measure : ByteArray := prog_7_method_3_code
def yX5_measure : MethodName := ⟨RX5, "measure", "(LControlSigns$Taken;LControlSigns$Row;)V"⟩
abbrev cX5_add : ByteArray := prog_7_method_4_code
def yX5_add : MethodName := ⟨RX5, "add", "(II)V"⟩
abbrev cX5_firstHeld : ByteArray := prog_7_method_5_code
def yX5_firstHeld : MethodName := ⟨RX5, "firstHeld", "(LControlSigns$Taken;LControlSigns$Row;)I"⟩
abbrev cX5_judge : ByteArray := prog_7_method_6_code
def yX5_judge : MethodName := ⟨RX5, "judge", "(LControlSigns$Taken;LControlSigns$Row;I)I"⟩
def RX6 : String := "ControlSigns$Sights"
def TX6 : u_T := fun k => match k with
  | 0 => ("ControlSigns$Sights", "places", "[I", true)
  | 1 => ("ControlSigns$Sights", "signs", "[I", true)
  | _ => ("ControlSigns$Sights", "size", "I", false)
def tyX6 : Nat → FieldType := fun k => match k with
  | 0 => .array .int
  | 1 => .array .int
  | _ => .int
abbrev wsX60 : List Cond := u_ws RX6 TX6 3
theorem nmX6 : ∀ a, a < 3 → ∀ b, b < 3 → a ≠ b → (TX6 a).2.1 ≠ (TX6 b).2.1 := by decide +kernel
theorem tyX6_ok : ∀ k, k < 3 → parseFieldDescriptor (TX6 k).2.2.1 = some (tyX6 k) := by decide +kernel
abbrev cX6_init : ByteArray := prog_8_method_1_code
def yX6_init : MethodName := ⟨RX6, "<init>", "()V"⟩
abbrev cX6_size : ByteArray := prog_8_method_2_code
def yX6_size : MethodName := ⟨RX6, "size", "()I"⟩
abbrev cX6_isFull : ByteArray := prog_8_method_3_code
def yX6_isFull : MethodName := ⟨RX6, "isFull", "()Z"⟩
abbrev cX6_add : ByteArray := prog_8_method_4_code
def yX6_add : MethodName := ⟨RX6, "add", "(II)V"⟩
abbrev cX6_empty : ByteArray := prog_8_method_5_code
def yX6_empty : MethodName := ⟨RX6, "empty", "()V"⟩
abbrev cX6_fit : ByteArray := prog_8_method_6_code
def yX6_fit : MethodName := ⟨RX6, "fit", "(LControlSigns$Told;I)Z"⟩
def RX7 : String := "ControlSigns$Taken"
def TX7 : u_T := fun k => match k with
  | 0 => ("ControlSigns$Taken", "told", "LControlSigns$Told;", true)
  | 1 => ("ControlSigns$Taken", "polynomial", "I", false)
  | _ => ("ControlSigns$Taken", "box", "I", false)
def tyX7 : Nat → FieldType := fun k => match k with
  | 0 => .object "ControlSigns$Told"
  | 1 => .int
  | _ => .int
abbrev wsX70 : List Cond := u_ws RX7 TX7 3
theorem nmX7 : ∀ a, a < 3 → ∀ b, b < 3 → a ≠ b → (TX7 a).2.1 ≠ (TX7 b).2.1 := by decide +kernel
theorem tyX7_ok : ∀ k, k < 3 → parseFieldDescriptor (TX7 k).2.2.1 = some (tyX7 k) := by decide +kernel
abbrev cX7_init : ByteArray := prog_9_method_1_code
def yX7_init : MethodName := ⟨RX7, "<init>", "(LControlSigns$Told;)V"⟩
abbrev cX7_told : ByteArray := prog_9_method_2_code
def yX7_told : MethodName := ⟨RX7, "told", "()LControlSigns$Told;"⟩
abbrev cX7_takenPolynomial : ByteArray := prog_9_method_3_code
def yX7_takenPolynomial : MethodName := ⟨RX7, "takenPolynomial", "()I"⟩
abbrev cX7_takenBox : ByteArray := prog_9_method_4_code
def yX7_takenBox : MethodName := ⟨RX7, "takenBox", "()I"⟩
abbrev cX7_take : ByteArray := prog_9_method_5_code
def yX7_take : MethodName := ⟨RX7, "take", "(II)V"⟩
abbrev cX7_hasBox : ByteArray := prog_9_method_6_code
def yX7_hasBox : MethodName := ⟨RX7, "hasBox", "()Z"⟩
abbrev cX7_isThere : ByteArray := prog_9_method_7_code
def yX7_isThere : MethodName := ⟨RX7, "isThere", "()Z"⟩
abbrev cX7_low : ByteArray := prog_9_method_8_code
def yX7_low : MethodName := ⟨RX7, "low", "(I)I"⟩
abbrev cX7_high : ByteArray := prog_9_method_9_code
def yX7_high : MethodName := ⟨RX7, "high", "(I)I"⟩
def RX8 : String := "ControlSigns$Text"
def TX8 : u_T := fun k => match k with
  | 0 => ("ControlSigns$Text", "letters", "[I", true)
  | _ => ("ControlSigns$Text", "size", "I", false)
def tyX8 : Nat → FieldType := fun k => match k with
  | 0 => .array .int
  | _ => .int
abbrev wsX80 : List Cond := u_ws RX8 TX8 2
theorem nmX8 : ∀ a, a < 2 → ∀ b, b < 2 → a ≠ b → (TX8 a).2.1 ≠ (TX8 b).2.1 := by decide +kernel
theorem tyX8_ok : ∀ k, k < 2 → parseFieldDescriptor (TX8 k).2.2.1 = some (tyX8 k) := by decide +kernel
abbrev cX8_init : ByteArray := prog_10_method_1_code
def yX8_init : MethodName := ⟨RX8, "<init>", "()V"⟩
abbrev cX8_length : ByteArray := prog_10_method_2_code
def yX8_length : MethodName := ⟨RX8, "length", "()I"⟩
abbrev cX8_isFull : ByteArray := prog_10_method_3_code
def yX8_isFull : MethodName := ⟨RX8, "isFull", "()Z"⟩
abbrev cX8_add : ByteArray := prog_10_method_4_code
def yX8_add : MethodName := ⟨RX8, "add", "(I)V"⟩
abbrev cX8_at : ByteArray := prog_10_method_5_code
def yX8_at : MethodName := ⟨RX8, "at", "(I)I"⟩
abbrev cX8_empty : ByteArray := prog_10_method_6_code
def yX8_empty : MethodName := ⟨RX8, "empty", "()V"⟩
def RX9 : String := "ControlSigns$TextReader"
def TX9 : u_T := fun k => match k with
  | 0 => ("ControlSigns$TextReader", "draft", "LControlSigns$Told;", true)
  | 1 => ("ControlSigns$TextReader", "item", "I", false)
  | 2 => ("ControlSigns$TextReader", "numbers", "I", false)
  | 3 => ("ControlSigns$TextReader", "isBelowNought", "Z", false)
  | _ => ("ControlSigns$TextReader", "lower", "I", false)
def tyX9 : Nat → FieldType := fun k => match k with
  | 0 => .object "ControlSigns$Told"
  | 1 => .int
  | 2 => .int
  | 3 => .boolean
  | _ => .int
abbrev wsX90 : List Cond := u_ws RX9 TX9 5
theorem nmX9 : ∀ a, a < 5 → ∀ b, b < 5 → a ≠ b → (TX9 a).2.1 ≠ (TX9 b).2.1 := by decide +kernel
theorem tyX9_ok : ∀ k, k < 5 → parseFieldDescriptor (TX9 k).2.2.1 = some (tyX9 k) := by decide +kernel
abbrev cX9_init : ByteArray := prog_11_method_1_code
def yX9_init : MethodName := ⟨RX9, "<init>", "()V"⟩
abbrev cX9_draft : ByteArray := prog_11_method_2_code
def yX9_draft : MethodName := ⟨RX9, "draft", "()LControlSigns$Told;"⟩
abbrev cX9_read : ByteArray := prog_11_method_3_code
def yX9_read : MethodName := ⟨RX9, "read", "(LControlSigns$Text;)I"⟩
abbrev cX9_stands : ByteArray := prog_11_method_4_code
def yX9_stands : MethodName := ⟨RX9, "stands", "(LControlSigns$Text;I)Z"⟩
abbrev cX9_isDigit : ByteArray := prog_11_method_5_code
def yX9_isDigit : MethodName := ⟨RX9, "isDigit", "(I)Z"⟩
abbrev cX9_takesSign : ByteArray := prog_11_method_6_code
def yX9_takesSign : MethodName := ⟨RX9, "takesSign", "(I)Z"⟩
abbrev cX9_opensPolynomial : ByteArray := prog_11_method_7_code
def yX9_opensPolynomial : MethodName := ⟨RX9, "opensPolynomial", "()Z"⟩
abbrev cX9_opensBox : ByteArray := prog_11_method_8_code
def yX9_opensBox : MethodName := ⟨RX9, "opensBox", "()Z"⟩
abbrev cX9_open : ByteArray := prog_11_method_9_code
def yX9_open : MethodName := ⟨RX9, "open", "(I)V"⟩
abbrev cX9_takesMinus : ByteArray := prog_11_method_10_code
def yX9_takesMinus : MethodName := ⟨RX9, "takesMinus", "()Z"⟩
abbrev cX9_hasRoom : ByteArray := prog_11_method_11_code
def yX9_hasRoom : MethodName := ⟨RX9, "hasRoom", "()Z"⟩
abbrev cX9_closes : ByteArray := prog_11_method_12_code
def yX9_closes : MethodName := ⟨RX9, "closes", "()Z"⟩
abbrev cX9_takesNumber : ByteArray := prog_11_method_13_code
def yX9_takesNumber : MethodName := ⟨RX9, "takesNumber", "(LControlSigns$Text;I)Z"⟩
abbrev cX9_takesCoefficient : ByteArray := prog_11_method_14_code
def yX9_takesCoefficient : MethodName := ⟨RX9, "takesCoefficient", "(I)Z"⟩
abbrev cX9_takesEnd : ByteArray := prog_11_method_15_code
def yX9_takesEnd : MethodName := ⟨RX9, "takesEnd", "(I)Z"⟩
def RX10 : String := "ControlSigns$Told"
def TX10 : u_T := fun k => match k with
  | 0 => ("ControlSigns$Told", "polynomials", "I", false)
  | 1 => ("ControlSigns$Told", "boxes", "I", false)
  | 2 => ("ControlSigns$Told", "sizes", "[I", true)
  | 3 => ("ControlSigns$Told", "coefficients", "[I", true)
  | 4 => ("ControlSigns$Told", "wanted", "[I", true)
  | 5 => ("ControlSigns$Told", "lowers", "[I", true)
  | _ => ("ControlSigns$Told", "uppers", "[I", true)
def tyX10 : Nat → FieldType := fun k => match k with
  | 0 => .int
  | 1 => .int
  | 2 => .array .int
  | 3 => .array .int
  | 4 => .array .int
  | 5 => .array .int
  | _ => .array .int
abbrev wsX100 : List Cond := u_ws RX10 TX10 7
theorem nmX10 : ∀ a, a < 7 → ∀ b, b < 7 → a ≠ b → (TX10 a).2.1 ≠ (TX10 b).2.1 := by decide +kernel
theorem tyX10_ok : ∀ k, k < 7 → parseFieldDescriptor (TX10 k).2.2.1 = some (tyX10 k) := by decide +kernel
abbrev cX10_init : ByteArray := prog_12_method_1_code
def yX10_init : MethodName := ⟨RX10, "<init>", "()V"⟩
abbrev cX10_polynomials : ByteArray := prog_12_method_2_code
def yX10_polynomials : MethodName := ⟨RX10, "polynomials", "()I"⟩
abbrev cX10_boxes : ByteArray := prog_12_method_3_code
def yX10_boxes : MethodName := ⟨RX10, "boxes", "()I"⟩
abbrev cX10_hasPolynomial : ByteArray := prog_12_method_4_code
def yX10_hasPolynomial : MethodName := ⟨RX10, "hasPolynomial", "(I)Z"⟩
abbrev cX10_hasBox : ByteArray := prog_12_method_5_code
def yX10_hasBox : MethodName := ⟨RX10, "hasBox", "(I)Z"⟩
abbrev cX10_hasCoefficient : ByteArray := prog_12_method_6_code
def yX10_hasCoefficient : MethodName := ⟨RX10, "hasCoefficient", "(II)Z"⟩
abbrev cX10_degree : ByteArray := prog_12_method_7_code
def yX10_degree : MethodName := ⟨RX10, "degree", "(I)I"⟩
abbrev cX10_coefficient : ByteArray := prog_12_method_8_code
def yX10_coefficient : MethodName := ⟨RX10, "coefficient", "(II)I"⟩
abbrev cX10_wanted : ByteArray := prog_12_method_9_code
def yX10_wanted : MethodName := ⟨RX10, "wanted", "(I)I"⟩
abbrev cX10_lower : ByteArray := prog_12_method_10_code
def yX10_lower : MethodName := ⟨RX10, "lower", "(I)I"⟩
abbrev cX10_upper : ByteArray := prog_12_method_11_code
def yX10_upper : MethodName := ⟨RX10, "upper", "(I)I"⟩
abbrev cX10_placeBehind : ByteArray := prog_12_method_12_code
def yX10_placeBehind : MethodName := ⟨RX10, "placeBehind", "(II)I"⟩
abbrev cX10_at : ByteArray := prog_12_method_13_code
def yX10_at : MethodName := ⟨RX10, "at", "(II)I"⟩
abbrev cX10_putCoefficient : ByteArray := prog_12_method_14_code
def yX10_putCoefficient : MethodName := ⟨RX10, "putCoefficient", "(III)V"⟩
abbrev cX10_putBox : ByteArray := prog_12_method_15_code
def yX10_putBox : MethodName := ⟨RX10, "putBox", "(III)V"⟩
abbrev cX10_want : ByteArray := prog_12_method_16_code
def yX10_want : MethodName := ⟨RX10, "want", "(II)V"⟩
abbrev cX10_empty : ByteArray := prog_12_method_17_code
def yX10_empty : MethodName := ⟨RX10, "empty", "()V"⟩
abbrev cX10_addPolynomial : ByteArray := prog_12_method_18_code
def yX10_addPolynomial : MethodName := ⟨RX10, "addPolynomial", "()V"⟩
abbrev cX10_addCoefficient : ByteArray := prog_12_method_19_code
def yX10_addCoefficient : MethodName := ⟨RX10, "addCoefficient", "(I)V"⟩
abbrev cX10_addBox : ByteArray := prog_12_method_20_code
def yX10_addBox : MethodName := ⟨RX10, "addBox", "(II)V"⟩
abbrev cX10_become : ByteArray := prog_12_method_21_code
def yX10_become : MethodName := ⟨RX10, "become", "(LControlSigns$Told;)V"⟩
def RX11 : String := "ControlSigns"
def TX11 : u_T := fun k => match k with
  | 0 => ("ControlSigns", "text", "LControlSigns$Text;", true)
  | 1 => ("ControlSigns", "now", "LControlSigns$Told;", true)
  | 2 => ("ControlSigns", "taken", "LControlSigns$Taken;", true)
  | 3 => ("ControlSigns", "changes", "LControlSigns$Changes;", true)
  | 4 => ("ControlSigns", "images", "[LControlSigns$Told;", true)
  | 5 => ("ControlSigns", "keptImages", "I", false)
  | 6 => ("ControlSigns", "sights", "LControlSigns$Sights;", true)
  | 7 => ("ControlSigns", "reader", "LControlSigns$TextReader;", true)
  | 8 => ("ControlSigns", "row", "LControlSigns$Row;", true)
  | 9 => ("ControlSigns", "roots", "LControlSigns$Roots;", true)
  | 10 => ("ControlSigns", "proof", "LControlSigns$Paper;", true)
  | 11 => ("ControlSigns", "bounds", "LControlSigns$Bounds;", true)
  | _ => ("ControlSigns", "shares", "LControlSigns$Shares;", true)
def tyX11 : Nat → FieldType := fun k => match k with
  | 0 => .object "ControlSigns$Text"
  | 1 => .object "ControlSigns$Told"
  | 2 => .object "ControlSigns$Taken"
  | 3 => .object "ControlSigns$Changes"
  | 4 => .array (.object "ControlSigns$Told")
  | 5 => .int
  | 6 => .object "ControlSigns$Sights"
  | 7 => .object "ControlSigns$TextReader"
  | 8 => .object "ControlSigns$Row"
  | 9 => .object "ControlSigns$Roots"
  | 10 => .object "ControlSigns$Paper"
  | 11 => .object "ControlSigns$Bounds"
  | _ => .object "ControlSigns$Shares"
abbrev wsX110 : List Cond := u_ws RX11 TX11 13
theorem nmX11 : ∀ a, a < 13 → ∀ b, b < 13 → a ≠ b → (TX11 a).2.1 ≠ (TX11 b).2.1 := by decide +kernel
theorem tyX11_ok : ∀ k, k < 13 → parseFieldDescriptor (TX11 k).2.2.1 = some (tyX11 k) := by decide +kernel
abbrev cX11_init : ByteArray := prog_1_method_1_code
def yX11_init : MethodName := ⟨RX11, "<init>", "()V"⟩
abbrev cX11_type : ByteArray := prog_1_method_2_code
def yX11_type : MethodName := ⟨RX11, "type", "(I)I"⟩
abbrev cX11_clear : ByteArray := prog_1_method_3_code
def yX11_clear : MethodName := ⟨RX11, "clear", "()I"⟩
abbrev cX11_house : ByteArray := prog_1_method_4_code
def yX11_house : MethodName := ⟨RX11, "house", "()I"⟩
abbrev cX11_takes : ByteArray := prog_1_method_5_code
def yX11_takes : MethodName := ⟨RX11, "takes", "(II)I"⟩
abbrev cX11_coef : ByteArray := prog_1_method_6_code
def yX11_coef : MethodName := ⟨RX11, "coef", "(II)J"⟩
abbrev cX11_box : ByteArray := prog_1_method_7_code
def yX11_box : MethodName := ⟨RX11, "box", "(II)J"⟩
abbrev cX11_coefs : ByteArray := prog_1_method_8_code
def yX11_coefs : MethodName := ⟨RX11, "coefs", "(III)I"⟩
abbrev cX11_ends : ByteArray := prog_1_method_9_code
def yX11_ends : MethodName := ⟨RX11, "ends", "(III)I"⟩
abbrev cX11_wishes : ByteArray := prog_1_method_10_code
def yX11_wishes : MethodName := ⟨RX11, "wishes", "(II)I"⟩
abbrev cX11_undo : ByteArray := prog_1_method_11_code
def yX11_undo : MethodName := ⟨RX11, "undo", "()I"⟩
abbrev cX11_control : ByteArray := prog_1_method_12_code
def yX11_control : MethodName := ⟨RX11, "control", "(IIII)J"⟩
abbrev cX11_variation : ByteArray := prog_1_method_13_code
def yX11_variation : MethodName := ⟨RX11, "variation", "(II)I"⟩
abbrev cX11_end : ByteArray := prog_1_method_14_code
def yX11_end : MethodName := ⟨RX11, "end", "(III)J"⟩
abbrev cX11_value : ByteArray := prog_1_method_15_code
def yX11_value : MethodName := ⟨RX11, "value", "(III)J"⟩
abbrev cX11_brackets : ByteArray := prog_1_method_16_code
def yX11_brackets : MethodName := ⟨RX11, "brackets", "()I"⟩
abbrev cX11_bracket : ByteArray := prog_1_method_17_code
def yX11_bracket : MethodName := ⟨RX11, "bracket", "(II)I"⟩
abbrev cX11_makes : ByteArray := prog_1_method_18_code
def yX11_makes : MethodName := ⟨RX11, "makes", "()I"⟩
abbrev cX11_paper : ByteArray := prog_1_method_19_code
def yX11_paper : MethodName := ⟨RX11, "paper", "(I)I"⟩
abbrev cX11_witness : ByteArray := prog_1_method_20_code
def yX11_witness : MethodName := ⟨RX11, "witness", "(I)J"⟩
abbrev cX11_proves : ByteArray := prog_1_method_21_code
def yX11_proves : MethodName := ⟨RX11, "proves", "()I"⟩
abbrev cX11_narrowed : ByteArray := prog_1_method_22_code
def yX11_narrowed : MethodName := ⟨RX11, "narrowed", "(III)J"⟩
abbrev cX11_sure : ByteArray := prog_1_method_23_code
def yX11_sure : MethodName := ⟨RX11, "sure", "(I)I"⟩
abbrev cX11_first : ByteArray := prog_1_method_24_code
def yX11_first : MethodName := ⟨RX11, "first", "()I"⟩
abbrev cX11_wish : ByteArray := prog_1_method_25_code
def yX11_wish : MethodName := ⟨RX11, "wish", "(I)J"⟩
abbrev cX11_sees : ByteArray := prog_1_method_26_code
def yX11_sees : MethodName := ⟨RX11, "sees", "(II)I"⟩
abbrev cX11_forget : ByteArray := prog_1_method_27_code
def yX11_forget : MethodName := ⟨RX11, "forget", "()I"⟩
abbrev cX11_unseen : ByteArray := prog_1_method_28_code
def yX11_unseen : MethodName := ⟨RX11, "unseen", "()I"⟩
abbrev cX11_keep : ByteArray := prog_1_method_29_code
def yX11_keep : MethodName := ⟨RX11, "keep", "(I)I"⟩
abbrev cX11_back : ByteArray := prog_1_method_30_code
def yX11_back : MethodName := ⟨RX11, "back", "(I)I"⟩
abbrev cX11_count : ByteArray := prog_1_method_31_code
def yX11_count : MethodName := ⟨RX11, "count", "(I)I"⟩
abbrev cX11_isImage : ByteArray := prog_1_method_32_code
def yX11_isImage : MethodName := ⟨RX11, "isImage", "(I)Z"⟩
abbrev cX11_isWithin : ByteArray := prog_1_method_33_code
def yX11_isWithin : MethodName := ⟨RX11, "isWithin", "(III)Z"⟩
abbrev cX11_isNode : ByteArray := prog_1_method_34_code
def yX11_isNode : MethodName := ⟨RX11, "isNode", "(I)Z"⟩
abbrev cX11_isPlace : ByteArray := prog_1_method_35_code
def yX11_isPlace : MethodName := ⟨RX11, "isPlace", "(I)Z"⟩
abbrev cX11_isCoefficient : ByteArray := prog_1_method_36_code
def yX11_isCoefficient : MethodName := ⟨RX11, "isCoefficient", "(I)Z"⟩
abbrev cX11_signOf : ByteArray := prog_1_method_37_code
def yX11_signOf : MethodName := ⟨RX11, "signOf", "(J)I"⟩
abbrev cX11_part : ByteArray := prog_1_method_38_code
def yX11_part : MethodName := ⟨RX11, "part", "(JJI)J"⟩
abbrev cX11_commonDivisor : ByteArray := prog_1_method_39_code
def yX11_commonDivisor : MethodName := ⟨RX11, "commonDivisor", "(JJ)J"⟩
abbrev cX11_partsOf : ByteArray := prog_1_method_40_code
def yX11_partsOf : MethodName := ⟨RX11, "partsOf", "(I)I"⟩
abbrev cX11_behind : ByteArray := prog_1_method_41_code
def yX11_behind : MethodName := ⟨RX11, "behind", "(I)I"⟩
def RX12 : String := "ControlSignsModel"
def TX12 : u_T := fun k => match k with
  | 0 => ("ControlSignsModel", "s", "[I", true)
  | 1 => ("ControlSignsModel", "draft", "[I", true)
  | 2 => ("ControlSignsModel", "kept", "[I", true)
  | 3 => ("ControlSignsModel", "isKept", "[Z", true)
  | 4 => ("ControlSignsModel", "past", "[I", true)
  | 5 => ("ControlSignsModel", "known", "I", false)
  | 6 => ("ControlSignsModel", "takenP", "I", false)
  | 7 => ("ControlSignsModel", "takenB", "I", false)
  | 8 => ("ControlSignsModel", "seenAt", "[I", true)
  | 9 => ("ControlSignsModel", "seenSign", "[I", true)
  | 10 => ("ControlSignsModel", "seen", "I", false)
  | 11 => ("ControlSignsModel", "text", "[I", true)
  | 12 => ("ControlSignsModel", "typed", "I", false)
  | 13 => ("ControlSignsModel", "kind", "[I", true)
  | 14 => ("ControlSignsModel", "place", "[I", true)
  | 15 => ("ControlSignsModel", "value", "[I", true)
  | 16 => ("ControlSignsModel", "tokens", "I", false)
  | 17 => ("ControlSignsModel", "at", "I", false)
  | 18 => ("ControlSignsModel", "told", "I", false)
  | 19 => ("ControlSignsModel", "row", "[J", true)
  | 20 => ("ControlSignsModel", "last", "I", false)
  | 21 => ("ControlSignsModel", "below", "J", false)
  | 22 => ("ControlSignsModel", "own", "[J", true)
  | 23 => ("ControlSignsModel", "pile", "[I", true)
  | 24 => ("ControlSignsModel", "top", "I", false)
  | 25 => ("ControlSignsModel", "foundNode", "[I", true)
  | 26 => ("ControlSignsModel", "foundKind", "[I", true)
  | 27 => ("ControlSignsModel", "found", "I", false)
  | 28 => ("ControlSignsModel", "letters", "[I", true)
  | 29 => ("ControlSignsModel", "written", "I", false)
  | 30 => ("ControlSignsModel", "witnessAt", "I", false)
  | 31 => ("ControlSignsModel", "nodes", "[I", true)
  | 32 => ("ControlSignsModel", "many", "I", false)
  | _ => ("ControlSignsModel", "parts", "[I", true)
def tyX12 : Nat → FieldType := fun k => match k with
  | 0 => .array .int
  | 1 => .array .int
  | 2 => .array .int
  | 3 => .array .boolean
  | 4 => .array .int
  | 5 => .int
  | 6 => .int
  | 7 => .int
  | 8 => .array .int
  | 9 => .array .int
  | 10 => .int
  | 11 => .array .int
  | 12 => .int
  | 13 => .array .int
  | 14 => .array .int
  | 15 => .array .int
  | 16 => .int
  | 17 => .int
  | 18 => .int
  | 19 => .array .long
  | 20 => .int
  | 21 => .long
  | 22 => .array .long
  | 23 => .array .int
  | 24 => .int
  | 25 => .array .int
  | 26 => .array .int
  | 27 => .int
  | 28 => .array .int
  | 29 => .int
  | 30 => .int
  | 31 => .array .int
  | 32 => .int
  | _ => .array .int
abbrev wsX120 : List Cond := u_ws RX12 TX12 34
theorem nmX12 : ∀ a, a < 34 → ∀ b, b < 34 → a ≠ b → (TX12 a).2.1 ≠ (TX12 b).2.1 := by decide +kernel
theorem tyX12_ok : ∀ k, k < 34 → parseFieldDescriptor (TX12 k).2.2.1 = some (tyX12 k) := by decide +kernel
abbrev cX12_init : ByteArray := prog_14_method_1_code
def yX12_init : MethodName := ⟨RX12, "<init>", "()V"⟩
abbrev cX12_in : ByteArray := prog_14_method_3_code
def yX12_in : MethodName := ⟨RX12, "in", "(III)Z"⟩
abbrev cX12_becomes : ByteArray := prog_14_method_4_code
def yX12_becomes : MethodName := ⟨RX12, "becomes", "()V"⟩
abbrev cX12_type : ByteArray := prog_14_method_5_code
def yX12_type : MethodName := ⟨RX12, "type", "(I)I"⟩
abbrev cX12_clear : ByteArray := prog_14_method_6_code
def yX12_clear : MethodName := ⟨RX12, "clear", "()I"⟩
abbrev cX12_numbered : ByteArray := prog_14_method_7_code
def yX12_numbered : MethodName := ⟨RX12, "numbered", "(I)I"⟩
abbrev cX12_split : ByteArray := prog_14_method_8_code
def yX12_split : MethodName := ⟨RX12, "split", "()V"⟩
abbrev cX12_isKind : ByteArray := prog_14_method_9_code
def yX12_isKind : MethodName := ⟨RX12, "isKind", "(I)Z"⟩
abbrev cX12_takesNumber : ByteArray := prog_14_method_10_code
def yX12_takesNumber : MethodName := ⟨RX12, "takesNumber", "(II)Z"⟩
abbrev cX12_polynomial : ByteArray := prog_14_method_11_code
def yX12_polynomial : MethodName := ⟨RX12, "polynomial", "()Z"⟩
abbrev cX12_boxTold : ByteArray := prog_14_method_12_code
def yX12_boxTold : MethodName := ⟨RX12, "boxTold", "()Z"⟩
abbrev cX12_house : ByteArray := prog_14_method_13_code
def yX12_house : MethodName := ⟨RX12, "house", "()I"⟩
abbrev cX12_isPolynomial : ByteArray := prog_14_method_14_code
def yX12_isPolynomial : MethodName := ⟨RX12, "isPolynomial", "(I)Z"⟩
abbrev cX12_isBox : ByteArray := prog_14_method_15_code
def yX12_isBox : MethodName := ⟨RX12, "isBox", "(I)Z"⟩
abbrev cX12_isTaken : ByteArray := prog_14_method_16_code
def yX12_isTaken : MethodName := ⟨RX12, "isTaken", "()Z"⟩
abbrev cX12_takes : ByteArray := prog_14_method_17_code
def yX12_takes : MethodName := ⟨RX12, "takes", "(II)I"⟩
abbrev cX12_isCoefficient : ByteArray := prog_14_method_18_code
def yX12_isCoefficient : MethodName := ⟨RX12, "isCoefficient", "(II)Z"⟩
abbrev cX12_coef : ByteArray := prog_14_method_19_code
def yX12_coef : MethodName := ⟨RX12, "coef", "(II)J"⟩
abbrev cX12_box : ByteArray := prog_14_method_20_code
def yX12_box : MethodName := ⟨RX12, "box", "(II)J"⟩
abbrev cX12_knows : ByteArray := prog_14_method_21_code
def yX12_knows : MethodName := ⟨RX12, "knows", "(II)V"⟩
abbrev cX12_coefs : ByteArray := prog_14_method_22_code
def yX12_coefs : MethodName := ⟨RX12, "coefs", "(III)I"⟩
abbrev cX12_ends : ByteArray := prog_14_method_23_code
def yX12_ends : MethodName := ⟨RX12, "ends", "(III)I"⟩
abbrev cX12_wishes : ByteArray := prog_14_method_24_code
def yX12_wishes : MethodName := ⟨RX12, "wishes", "(II)I"⟩
abbrev cX12_undo : ByteArray := prog_14_method_25_code
def yX12_undo : MethodName := ⟨RX12, "undo", "()I"⟩
abbrev cX12_choose : ByteArray := prog_14_method_26_code
def yX12_choose : MethodName := ⟨RX12, "choose", "(II)J"⟩
abbrev cX12_common : ByteArray := prog_14_method_27_code
def yX12_common : MethodName := ⟨RX12, "common", "(JJ)J"⟩
abbrev cX12_power : ByteArray := prog_14_method_28_code
def yX12_power : MethodName := ⟨RX12, "power", "(JI)J"⟩
abbrev cX12_sizeOf : ByteArray := prog_14_method_29_code
def yX12_sizeOf : MethodName := ⟨RX12, "sizeOf", "(I)I"⟩
abbrev cX12_lengthOf : ByteArray := prog_14_method_30_code
def yX12_lengthOf : MethodName := ⟨RX12, "lengthOf", "()I"⟩
abbrev cX12_lowOf : ByteArray := prog_14_method_31_code
def yX12_lowOf : MethodName := ⟨RX12, "lowOf", "(I)I"⟩
abbrev cX12_highOf : ByteArray := prog_14_method_32_code
def yX12_highOf : MethodName := ⟨RX12, "highOf", "(I)I"⟩
abbrev cX12_laysOwn : ByteArray := prog_14_method_33_code
def yX12_laysOwn : MethodName := ⟨RX12, "laysOwn", "(II)V"⟩
abbrev cX12_lays : ByteArray := prog_14_method_34_code
def yX12_lays : MethodName := ⟨RX12, "lays", "(III)V"⟩
abbrev cX12_fraction : ByteArray := prog_14_method_35_code
def yX12_fraction : MethodName := ⟨RX12, "fraction", "(JJI)J"⟩
abbrev cX12_isNode : ByteArray := prog_14_method_36_code
def yX12_isNode : MethodName := ⟨RX12, "isNode", "(I)Z"⟩
abbrev cX12_control : ByteArray := prog_14_method_37_code
def yX12_control : MethodName := ⟨RX12, "control", "(IIII)J"⟩
abbrev cX12_varies : ByteArray := prog_14_method_38_code
def yX12_varies : MethodName := ⟨RX12, "varies", "(II)I"⟩
abbrev cX12_variation : ByteArray := prog_14_method_39_code
def yX12_variation : MethodName := ⟨RX12, "variation", "(II)I"⟩
abbrev cX12_end : ByteArray := prog_14_method_40_code
def yX12_end : MethodName := ⟨RX12, "end", "(III)J"⟩
abbrev cX12_value : ByteArray := prog_14_method_41_code
def yX12_value : MethodName := ⟨RX12, "value", "(III)J"⟩
abbrev cX12_puts : ByteArray := prog_14_method_42_code
def yX12_puts : MethodName := ⟨RX12, "puts", "(I)V"⟩
abbrev cX12_finds : ByteArray := prog_14_method_43_code
def yX12_finds : MethodName := ⟨RX12, "finds", "(II)V"⟩
abbrev cX12_brings : ByteArray := prog_14_method_44_code
def yX12_brings : MethodName := ⟨RX12, "brings", "()V"⟩
abbrev cX12_brackets : ByteArray := prog_14_method_45_code
def yX12_brackets : MethodName := ⟨RX12, "brackets", "()I"⟩
abbrev cX12_bracket : ByteArray := prog_14_method_46_code
def yX12_bracket : MethodName := ⟨RX12, "bracket", "(II)I"⟩
abbrev cX12_isAbove : ByteArray := prog_14_method_47_code
def yX12_isAbove : MethodName := ⟨RX12, "isAbove", "(IIII)Z"⟩
abbrev cX12_writes : ByteArray := prog_14_method_48_code
def yX12_writes : MethodName := ⟨RX12, "writes", "()I"⟩
abbrev cX12_makes : ByteArray := prog_14_method_49_code
def yX12_makes : MethodName := ⟨RX12, "makes", "()I"⟩
abbrev cX12_paper : ByteArray := prog_14_method_50_code
def yX12_paper : MethodName := ⟨RX12, "paper", "(I)I"⟩
abbrev cX12_witness : ByteArray := prog_14_method_51_code
def yX12_witness : MethodName := ⟨RX12, "witness", "(I)J"⟩
abbrev cX12_proves : ByteArray := prog_14_method_52_code
def yX12_proves : MethodName := ⟨RX12, "proves", "()I"⟩
abbrev cX12_leastOf : ByteArray := prog_14_method_53_code
def yX12_leastOf : MethodName := ⟨RX12, "leastOf", "(I)J"⟩
abbrev cX12_narrows : ByteArray := prog_14_method_54_code
def yX12_narrows : MethodName := ⟨RX12, "narrows", "(I)V"⟩
abbrev cX12_narrowed : ByteArray := prog_14_method_55_code
def yX12_narrowed : MethodName := ⟨RX12, "narrowed", "(III)J"⟩
abbrev cX12_isHeld : ByteArray := prog_14_method_56_code
def yX12_isHeld : MethodName := ⟨RX12, "isHeld", "(I)Z"⟩
abbrev cX12_isBroken : ByteArray := prog_14_method_57_code
def yX12_isBroken : MethodName := ⟨RX12, "isBroken", "(I)Z"⟩
abbrev cX12_sure : ByteArray := prog_14_method_58_code
def yX12_sure : MethodName := ⟨RX12, "sure", "(I)I"⟩
abbrev cX12_first : ByteArray := prog_14_method_59_code
def yX12_first : MethodName := ⟨RX12, "first", "()I"⟩
abbrev cX12_wish : ByteArray := prog_14_method_60_code
def yX12_wish : MethodName := ⟨RX12, "wish", "(I)J"⟩
abbrev cX12_sees : ByteArray := prog_14_method_61_code
def yX12_sees : MethodName := ⟨RX12, "sees", "(II)I"⟩
abbrev cX12_forget : ByteArray := prog_14_method_62_code
def yX12_forget : MethodName := ⟨RX12, "forget", "()I"⟩
abbrev cX12_signAt : ByteArray := prog_14_method_63_code
def yX12_signAt : MethodName := ⟨RX12, "signAt", "(II)I"⟩
abbrev cX12_unseen : ByteArray := prog_14_method_64_code
def yX12_unseen : MethodName := ⟨RX12, "unseen", "()I"⟩
abbrev cX12_keep : ByteArray := prog_14_method_65_code
def yX12_keep : MethodName := ⟨RX12, "keep", "(I)I"⟩
abbrev cX12_back : ByteArray := prog_14_method_66_code
def yX12_back : MethodName := ⟨RX12, "back", "(I)I"⟩
abbrev cX12_count : ByteArray := prog_14_method_67_code
def yX12_count : MethodName := ⟨RX12, "count", "(I)I"⟩
def RJ7 : String := "java/util/Arrays"
abbrev cJ7_fill_d0a16 : ByteArray := prog_17_method_101_code
def yJ7_fill_d0a16 : MethodName := ⟨RJ7, "fill", "([JJ)V"⟩
abbrev cJ7_fill_53178 : ByteArray := prog_17_method_103_code
def yJ7_fill_53178 : MethodName := ⟨RJ7, "fill", "([II)V"⟩
def RL : String := "ControlSignsLaw"
abbrev cL_law : ByteArray := code
def yL_law : MethodName := ⟨RL, "law", "([I)Z"⟩
abbrev vwCl : List vw_C := [(RX0, TX0, 4), (RX1, TX1, 2), (RX2, TX2, 3), (RX3, TX3, 3), (RX4, TX4, 3), (RX5, TX5, 1), (RX6, TX6, 3), (RX7, TX7, 3), (RX8, TX8, 2), (RX9, TX9, 5), (RX10, TX10, 7), (RX11, TX11, 13), (RX12, TX12, 34)]
