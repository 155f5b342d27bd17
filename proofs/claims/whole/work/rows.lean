section
-- ===== PART A: goes FIRST, ahead of the names: the tables' words, and 'selects' of the private methods out of them =====
/-- a private method of a class that the tables say can be made, by its rows of tables_1 -/
def lw_okq (q : MethodName × Nat) : Prop := (q.1.cls ≠ "java/lang/invoke/MethodHandle" ∧ q.1.cls ≠ "java/lang/invoke/VarHandle") ∧ Cond.instantiable q.1.cls q.2 ∈ tables_1 ∧ Cond.privateMethod q.1 ∈ tables_1 ∧ Cond.instanceMethod q.1 ∈ tables_1
theorem lw_p0 : lw_okq (⟨"ControlSigns$TextReader", "stands", "(LControlSigns$Text;I)Z"⟩, 5) := ⟨⟨by decide +kernel, by decide +kernel⟩, List.mem_of_getElem? (i := 114) (by decide +kernel), List.mem_of_getElem? (i := 296) (by decide +kernel), List.mem_of_getElem? (i := 297) (by decide +kernel)⟩
theorem lw_p1 : lw_okq (⟨"ControlSigns$TextReader", "takesNumber", "(LControlSigns$Text;I)Z"⟩, 5) := ⟨⟨by decide +kernel, by decide +kernel⟩, List.mem_of_getElem? (i := 114) (by decide +kernel), List.mem_of_getElem? (i := 307) (by decide +kernel), List.mem_of_getElem? (i := 308) (by decide +kernel)⟩
theorem lw_p2 : lw_okq (⟨"ControlSigns$TextReader", "hasRoom", "()Z"⟩, 5) := ⟨⟨by decide +kernel, by decide +kernel⟩, List.mem_of_getElem? (i := 114) (by decide +kernel), List.mem_of_getElem? (i := 311) (by decide +kernel), List.mem_of_getElem? (i := 312) (by decide +kernel)⟩
theorem lw_p3 : lw_okq (⟨"ControlSigns$TextReader", "takesCoefficient", "(I)Z"⟩, 5) := ⟨⟨by decide +kernel, by decide +kernel⟩, List.mem_of_getElem? (i := 114) (by decide +kernel), List.mem_of_getElem? (i := 315) (by decide +kernel), List.mem_of_getElem? (i := 316) (by decide +kernel)⟩
theorem lw_p4 : lw_okq (⟨"ControlSigns$TextReader", "takesEnd", "(I)Z"⟩, 5) := ⟨⟨by decide +kernel, by decide +kernel⟩, List.mem_of_getElem? (i := 114) (by decide +kernel), List.mem_of_getElem? (i := 330) (by decide +kernel), List.mem_of_getElem? (i := 331) (by decide +kernel)⟩
theorem lw_p5 : lw_okq (⟨"ControlSigns$TextReader", "takesSign", "(I)Z"⟩, 5) := ⟨⟨by decide +kernel, by decide +kernel⟩, List.mem_of_getElem? (i := 114) (by decide +kernel), List.mem_of_getElem? (i := 341) (by decide +kernel), List.mem_of_getElem? (i := 342) (by decide +kernel)⟩
theorem lw_p6 : lw_okq (⟨"ControlSigns$TextReader", "opensPolynomial", "()Z"⟩, 5) := ⟨⟨by decide +kernel, by decide +kernel⟩, List.mem_of_getElem? (i := 114) (by decide +kernel), List.mem_of_getElem? (i := 345) (by decide +kernel), List.mem_of_getElem? (i := 346) (by decide +kernel)⟩
theorem lw_p7 : lw_okq (⟨"ControlSigns$TextReader", "open", "(I)V"⟩, 5) := ⟨⟨by decide +kernel, by decide +kernel⟩, List.mem_of_getElem? (i := 114) (by decide +kernel), List.mem_of_getElem? (i := 357) (by decide +kernel), List.mem_of_getElem? (i := 358) (by decide +kernel)⟩
theorem lw_p8 : lw_okq (⟨"ControlSigns$TextReader", "opensBox", "()Z"⟩, 5) := ⟨⟨by decide +kernel, by decide +kernel⟩, List.mem_of_getElem? (i := 114) (by decide +kernel), List.mem_of_getElem? (i := 361) (by decide +kernel), List.mem_of_getElem? (i := 362) (by decide +kernel)⟩
theorem lw_p9 : lw_okq (⟨"ControlSigns$TextReader", "takesMinus", "()Z"⟩, 5) := ⟨⟨by decide +kernel, by decide +kernel⟩, List.mem_of_getElem? (i := 114) (by decide +kernel), List.mem_of_getElem? (i := 369) (by decide +kernel), List.mem_of_getElem? (i := 370) (by decide +kernel)⟩
theorem lw_p10 : lw_okq (⟨"ControlSigns$TextReader", "closes", "()Z"⟩, 5) := ⟨⟨by decide +kernel, by decide +kernel⟩, List.mem_of_getElem? (i := 114) (by decide +kernel), List.mem_of_getElem? (i := 373) (by decide +kernel), List.mem_of_getElem? (i := 374) (by decide +kernel)⟩
theorem lw_p11 : lw_okq (⟨"ControlSigns$Changes", "remember", "(IIIII)V"⟩, 2) := ⟨⟨by decide +kernel, by decide +kernel⟩, List.mem_of_getElem? (i := 84) (by decide +kernel), List.mem_of_getElem? (i := 448) (by decide +kernel), List.mem_of_getElem? (i := 449) (by decide +kernel)⟩
theorem lw_p12 : lw_okq (⟨"ControlSigns$Row", "multiply", "(JJ)V"⟩, 3) := ⟨⟨by decide +kernel, by decide +kernel⟩, List.mem_of_getElem? (i := 138) (by decide +kernel), List.mem_of_getElem? (i := 566) (by decide +kernel), List.mem_of_getElem? (i := 567) (by decide +kernel)⟩
theorem lw_p13 : lw_okq (⟨"ControlSigns$Row", "addWhole", "(J)V"⟩, 3) := ⟨⟨by decide +kernel, by decide +kernel⟩, List.mem_of_getElem? (i := 138) (by decide +kernel), List.mem_of_getElem? (i := 570) (by decide +kernel), List.mem_of_getElem? (i := 571) (by decide +kernel)⟩
theorem lw_p14 : lw_okq (⟨"ControlSigns$Row", "ways", "(I)I"⟩, 3) := ⟨⟨by decide +kernel, by decide +kernel⟩, List.mem_of_getElem? (i := 138) (by decide +kernel), List.mem_of_getElem? (i := 574) (by decide +kernel), List.mem_of_getElem? (i := 575) (by decide +kernel)⟩
theorem lw_p15 : lw_okq (⟨"ControlSigns$Roots", "add", "(II)V"⟩, 3) := ⟨⟨by decide +kernel, by decide +kernel⟩, List.mem_of_getElem? (i := 155) (by decide +kernel), List.mem_of_getElem? (i := 642) (by decide +kernel), List.mem_of_getElem? (i := 643) (by decide +kernel)⟩
def lw_privs_1 : List (MethodName × Nat) := [(⟨"ControlSigns$TextReader", "stands", "(LControlSigns$Text;I)Z"⟩, 5), (⟨"ControlSigns$TextReader", "takesNumber", "(LControlSigns$Text;I)Z"⟩, 5), (⟨"ControlSigns$TextReader", "hasRoom", "()Z"⟩, 5), (⟨"ControlSigns$TextReader", "takesCoefficient", "(I)Z"⟩, 5), (⟨"ControlSigns$TextReader", "takesEnd", "(I)Z"⟩, 5), (⟨"ControlSigns$TextReader", "takesSign", "(I)Z"⟩, 5), (⟨"ControlSigns$TextReader", "opensPolynomial", "()Z"⟩, 5), (⟨"ControlSigns$TextReader", "open", "(I)V"⟩, 5), (⟨"ControlSigns$TextReader", "opensBox", "()Z"⟩, 5), (⟨"ControlSigns$TextReader", "takesMinus", "()Z"⟩, 5), (⟨"ControlSigns$TextReader", "closes", "()Z"⟩, 5), (⟨"ControlSigns$Changes", "remember", "(IIIII)V"⟩, 2), (⟨"ControlSigns$Row", "multiply", "(JJ)V"⟩, 3), (⟨"ControlSigns$Row", "addWhole", "(J)V"⟩, 3), (⟨"ControlSigns$Row", "ways", "(I)I"⟩, 3), (⟨"ControlSigns$Roots", "add", "(II)V"⟩, 3)]
theorem lw_r1 : ∀ q ∈ lw_privs_1, lw_okq q := List.forall_mem_cons.mpr ⟨lw_p0, List.forall_mem_cons.mpr ⟨lw_p1, List.forall_mem_cons.mpr ⟨lw_p2, List.forall_mem_cons.mpr ⟨lw_p3, List.forall_mem_cons.mpr ⟨lw_p4, List.forall_mem_cons.mpr ⟨lw_p5, List.forall_mem_cons.mpr ⟨lw_p6, List.forall_mem_cons.mpr ⟨lw_p7, List.forall_mem_cons.mpr ⟨lw_p8, List.forall_mem_cons.mpr ⟨lw_p9, List.forall_mem_cons.mpr ⟨lw_p10, List.forall_mem_cons.mpr ⟨lw_p11, List.forall_mem_cons.mpr ⟨lw_p12, List.forall_mem_cons.mpr ⟨lw_p13, List.forall_mem_cons.mpr ⟨lw_p14, List.forall_mem_cons.mpr ⟨lw_p15, fun _ h => absurd h List.not_mem_nil⟩⟩⟩⟩⟩⟩⟩⟩⟩⟩⟩⟩⟩⟩⟩⟩
theorem lw_p16 : lw_okq (⟨"ControlSigns$Roots", "pass", "(ILControlSigns$Row;)I"⟩, 3) := ⟨⟨by decide +kernel, by decide +kernel⟩, List.mem_of_getElem? (i := 155) (by decide +kernel), List.mem_of_getElem? (i := 646) (by decide +kernel), List.mem_of_getElem? (i := 647) (by decide +kernel)⟩
theorem lw_p17 : lw_okq (⟨"ControlSigns$Paper", "add", "(I)V"⟩, 3) := ⟨⟨by decide +kernel, by decide +kernel⟩, List.mem_of_getElem? (i := 171) (by decide +kernel), List.mem_of_getElem? (i := 690) (by decide +kernel), List.mem_of_getElem? (i := 691) (by decide +kernel)⟩
theorem lw_p18 : lw_okq (⟨"ControlSigns$Bounds", "put", "(LControlSigns$Taken;LControlSigns$Row;II)V"⟩, 4) := ⟨⟨by decide +kernel, by decide +kernel⟩, List.mem_of_getElem? (i := 187) (by decide +kernel), List.mem_of_getElem? (i := 741) (by decide +kernel), List.mem_of_getElem? (i := 742) (by decide +kernel)⟩
theorem lw_p19 : lw_okq (⟨"ControlSigns$Row", "commonNumber", "(I)J"⟩, 3) := ⟨⟨by decide +kernel, by decide +kernel⟩, List.mem_of_getElem? (i := 138) (by decide +kernel), List.mem_of_getElem? (i := 750) (by decide +kernel), List.mem_of_getElem? (i := 751) (by decide +kernel)⟩
theorem lw_p20 : lw_okq (⟨"ControlSigns$Bounds", "lowest", "()I"⟩, 4) := ⟨⟨by decide +kernel, by decide +kernel⟩, List.mem_of_getElem? (i := 187) (by decide +kernel), List.mem_of_getElem? (i := 761) (by decide +kernel), List.mem_of_getElem? (i := 762) (by decide +kernel)⟩
theorem lw_p21 : lw_okq (⟨"ControlSigns$Bounds", "makeRoom", "(I)V"⟩, 4) := ⟨⟨by decide +kernel, by decide +kernel⟩, List.mem_of_getElem? (i := 187) (by decide +kernel), List.mem_of_getElem? (i := 765) (by decide +kernel), List.mem_of_getElem? (i := 766) (by decide +kernel)⟩
theorem lw_p22 : lw_okq (⟨"ControlSigns$Bounds", "leastOf", "([J)J"⟩, 4) := ⟨⟨by decide +kernel, by decide +kernel⟩, List.mem_of_getElem? (i := 187) (by decide +kernel), List.mem_of_getElem? (i := 774) (by decide +kernel), List.mem_of_getElem? (i := 775) (by decide +kernel)⟩
theorem lw_p23 : lw_okq (⟨"ControlSigns$Shares", "add", "(II)V"⟩, 1) := ⟨⟨by decide +kernel, by decide +kernel⟩, List.mem_of_getElem? (i := 206) (by decide +kernel), List.mem_of_getElem? (i := 809) (by decide +kernel), List.mem_of_getElem? (i := 810) (by decide +kernel)⟩
theorem lw_p24 : lw_okq (⟨"ControlSigns", "isImage", "(I)Z"⟩, 13) := ⟨⟨by decide +kernel, by decide +kernel⟩, List.mem_of_getElem? (i := 18) (by decide +kernel), List.mem_of_getElem? (i := 869) (by decide +kernel), List.mem_of_getElem? (i := 870) (by decide +kernel)⟩
theorem lw_p25 : lw_okq (⟨"ControlSignsModel", "becomes", "()V"⟩, 34) := ⟨⟨by decide +kernel, by decide +kernel⟩, List.mem_of_getElem? (i := 885) (by decide +kernel), List.mem_of_getElem? (i := 891) (by decide +kernel), List.mem_of_getElem? (i := 892) (by decide +kernel)⟩
theorem lw_p26 : lw_okq (⟨"ControlSignsModel", "split", "()V"⟩, 34) := ⟨⟨by decide +kernel, by decide +kernel⟩, List.mem_of_getElem? (i := 885) (by decide +kernel), List.mem_of_getElem? (i := 1014) (by decide +kernel), List.mem_of_getElem? (i := 1015) (by decide +kernel)⟩
theorem lw_p27 : lw_okq (⟨"ControlSignsModel", "numbered", "(I)I"⟩, 34) := ⟨⟨by decide +kernel, by decide +kernel⟩, List.mem_of_getElem? (i := 885) (by decide +kernel), List.mem_of_getElem? (i := 1018) (by decide +kernel), List.mem_of_getElem? (i := 1019) (by decide +kernel)⟩
theorem lw_p28 : lw_okq (⟨"ControlSignsModel", "isKind", "(I)Z"⟩, 34) := ⟨⟨by decide +kernel, by decide +kernel⟩, List.mem_of_getElem? (i := 885) (by decide +kernel), List.mem_of_getElem? (i := 1022) (by decide +kernel), List.mem_of_getElem? (i := 1023) (by decide +kernel)⟩
theorem lw_p29 : lw_okq (⟨"ControlSignsModel", "polynomial", "()Z"⟩, 34) := ⟨⟨by decide +kernel, by decide +kernel⟩, List.mem_of_getElem? (i := 885) (by decide +kernel), List.mem_of_getElem? (i := 1026) (by decide +kernel), List.mem_of_getElem? (i := 1027) (by decide +kernel)⟩
theorem lw_p30 : lw_okq (⟨"ControlSignsModel", "takesNumber", "(II)Z"⟩, 34) := ⟨⟨by decide +kernel, by decide +kernel⟩, List.mem_of_getElem? (i := 885) (by decide +kernel), List.mem_of_getElem? (i := 1030) (by decide +kernel), List.mem_of_getElem? (i := 1031) (by decide +kernel)⟩
theorem lw_p31 : lw_okq (⟨"ControlSignsModel", "boxTold", "()Z"⟩, 34) := ⟨⟨by decide +kernel, by decide +kernel⟩, List.mem_of_getElem? (i := 885) (by decide +kernel), List.mem_of_getElem? (i := 1034) (by decide +kernel), List.mem_of_getElem? (i := 1035) (by decide +kernel)⟩
def lw_privs_2 : List (MethodName × Nat) := [(⟨"ControlSigns$Roots", "pass", "(ILControlSigns$Row;)I"⟩, 3), (⟨"ControlSigns$Paper", "add", "(I)V"⟩, 3), (⟨"ControlSigns$Bounds", "put", "(LControlSigns$Taken;LControlSigns$Row;II)V"⟩, 4), (⟨"ControlSigns$Row", "commonNumber", "(I)J"⟩, 3), (⟨"ControlSigns$Bounds", "lowest", "()I"⟩, 4), (⟨"ControlSigns$Bounds", "makeRoom", "(I)V"⟩, 4), (⟨"ControlSigns$Bounds", "leastOf", "([J)J"⟩, 4), (⟨"ControlSigns$Shares", "add", "(II)V"⟩, 1), (⟨"ControlSigns", "isImage", "(I)Z"⟩, 13), (⟨"ControlSignsModel", "becomes", "()V"⟩, 34), (⟨"ControlSignsModel", "split", "()V"⟩, 34), (⟨"ControlSignsModel", "numbered", "(I)I"⟩, 34), (⟨"ControlSignsModel", "isKind", "(I)Z"⟩, 34), (⟨"ControlSignsModel", "polynomial", "()Z"⟩, 34), (⟨"ControlSignsModel", "takesNumber", "(II)Z"⟩, 34), (⟨"ControlSignsModel", "boxTold", "()Z"⟩, 34)]
theorem lw_r2 : ∀ q ∈ lw_privs_2, lw_okq q := List.forall_mem_cons.mpr ⟨lw_p16, List.forall_mem_cons.mpr ⟨lw_p17, List.forall_mem_cons.mpr ⟨lw_p18, List.forall_mem_cons.mpr ⟨lw_p19, List.forall_mem_cons.mpr ⟨lw_p20, List.forall_mem_cons.mpr ⟨lw_p21, List.forall_mem_cons.mpr ⟨lw_p22, List.forall_mem_cons.mpr ⟨lw_p23, List.forall_mem_cons.mpr ⟨lw_p24, List.forall_mem_cons.mpr ⟨lw_p25, List.forall_mem_cons.mpr ⟨lw_p26, List.forall_mem_cons.mpr ⟨lw_p27, List.forall_mem_cons.mpr ⟨lw_p28, List.forall_mem_cons.mpr ⟨lw_p29, List.forall_mem_cons.mpr ⟨lw_p30, List.forall_mem_cons.mpr ⟨lw_p31, fun _ h => absurd h List.not_mem_nil⟩⟩⟩⟩⟩⟩⟩⟩⟩⟩⟩⟩⟩⟩⟩⟩
theorem lw_p32 : lw_okq (⟨"ControlSignsModel", "isPolynomial", "(I)Z"⟩, 34) := ⟨⟨by decide +kernel, by decide +kernel⟩, List.mem_of_getElem? (i := 885) (by decide +kernel), List.mem_of_getElem? (i := 1042) (by decide +kernel), List.mem_of_getElem? (i := 1043) (by decide +kernel)⟩
theorem lw_p33 : lw_okq (⟨"ControlSignsModel", "isBox", "(I)Z"⟩, 34) := ⟨⟨by decide +kernel, by decide +kernel⟩, List.mem_of_getElem? (i := 885) (by decide +kernel), List.mem_of_getElem? (i := 1046) (by decide +kernel), List.mem_of_getElem? (i := 1047) (by decide +kernel)⟩
theorem lw_p34 : lw_okq (⟨"ControlSignsModel", "isCoefficient", "(II)Z"⟩, 34) := ⟨⟨by decide +kernel, by decide +kernel⟩, List.mem_of_getElem? (i := 885) (by decide +kernel), List.mem_of_getElem? (i := 1054) (by decide +kernel), List.mem_of_getElem? (i := 1055) (by decide +kernel)⟩
theorem lw_p35 : lw_okq (⟨"ControlSignsModel", "knows", "(II)V"⟩, 34) := ⟨⟨by decide +kernel, by decide +kernel⟩, List.mem_of_getElem? (i := 885) (by decide +kernel), List.mem_of_getElem? (i := 1067) (by decide +kernel), List.mem_of_getElem? (i := 1068) (by decide +kernel)⟩
theorem lw_p36 : lw_okq (⟨"ControlSignsModel", "isTaken", "()Z"⟩, 34) := ⟨⟨by decide +kernel, by decide +kernel⟩, List.mem_of_getElem? (i := 885) (by decide +kernel), List.mem_of_getElem? (i := 1090) (by decide +kernel), List.mem_of_getElem? (i := 1091) (by decide +kernel)⟩
theorem lw_p37 : lw_okq (⟨"ControlSignsModel", "lays", "(III)V"⟩, 34) := ⟨⟨by decide +kernel, by decide +kernel⟩, List.mem_of_getElem? (i := 885) (by decide +kernel), List.mem_of_getElem? (i := 1094) (by decide +kernel), List.mem_of_getElem? (i := 1095) (by decide +kernel)⟩
theorem lw_p38 : lw_okq (⟨"ControlSignsModel", "laysOwn", "(II)V"⟩, 34) := ⟨⟨by decide +kernel, by decide +kernel⟩, List.mem_of_getElem? (i := 885) (by decide +kernel), List.mem_of_getElem? (i := 1098) (by decide +kernel), List.mem_of_getElem? (i := 1099) (by decide +kernel)⟩
theorem lw_p39 : lw_okq (⟨"ControlSignsModel", "lowOf", "(I)I"⟩, 34) := ⟨⟨by decide +kernel, by decide +kernel⟩, List.mem_of_getElem? (i := 885) (by decide +kernel), List.mem_of_getElem? (i := 1102) (by decide +kernel), List.mem_of_getElem? (i := 1103) (by decide +kernel)⟩
theorem lw_p40 : lw_okq (⟨"ControlSignsModel", "lengthOf", "()I"⟩, 34) := ⟨⟨by decide +kernel, by decide +kernel⟩, List.mem_of_getElem? (i := 885) (by decide +kernel), List.mem_of_getElem? (i := 1109) (by decide +kernel), List.mem_of_getElem? (i := 1110) (by decide +kernel)⟩
theorem lw_p41 : lw_okq (⟨"ControlSignsModel", "varies", "(II)I"⟩, 34) := ⟨⟨by decide +kernel, by decide +kernel⟩, List.mem_of_getElem? (i := 885) (by decide +kernel), List.mem_of_getElem? (i := 1130) (by decide +kernel), List.mem_of_getElem? (i := 1131) (by decide +kernel)⟩
theorem lw_p42 : lw_okq (⟨"ControlSignsModel", "highOf", "(I)I"⟩, 34) := ⟨⟨by decide +kernel, by decide +kernel⟩, List.mem_of_getElem? (i := 885) (by decide +kernel), List.mem_of_getElem? (i := 1138) (by decide +kernel), List.mem_of_getElem? (i := 1139) (by decide +kernel)⟩
theorem lw_p43 : lw_okq (⟨"ControlSignsModel", "brings", "()V"⟩, 34) := ⟨⟨by decide +kernel, by decide +kernel⟩, List.mem_of_getElem? (i := 885) (by decide +kernel), List.mem_of_getElem? (i := 1150) (by decide +kernel), List.mem_of_getElem? (i := 1151) (by decide +kernel)⟩
theorem lw_p44 : lw_okq (⟨"ControlSignsModel", "puts", "(I)V"⟩, 34) := ⟨⟨by decide +kernel, by decide +kernel⟩, List.mem_of_getElem? (i := 885) (by decide +kernel), List.mem_of_getElem? (i := 1154) (by decide +kernel), List.mem_of_getElem? (i := 1155) (by decide +kernel)⟩
theorem lw_p45 : lw_okq (⟨"ControlSignsModel", "finds", "(II)V"⟩, 34) := ⟨⟨by decide +kernel, by decide +kernel⟩, List.mem_of_getElem? (i := 885) (by decide +kernel), List.mem_of_getElem? (i := 1158) (by decide +kernel), List.mem_of_getElem? (i := 1159) (by decide +kernel)⟩
theorem lw_p46 : lw_okq (⟨"ControlSignsModel", "writes", "()I"⟩, 34) := ⟨⟨by decide +kernel, by decide +kernel⟩, List.mem_of_getElem? (i := 885) (by decide +kernel), List.mem_of_getElem? (i := 1170) (by decide +kernel), List.mem_of_getElem? (i := 1171) (by decide +kernel)⟩
theorem lw_p47 : lw_okq (⟨"ControlSignsModel", "isAbove", "(IIII)Z"⟩, 34) := ⟨⟨by decide +kernel, by decide +kernel⟩, List.mem_of_getElem? (i := 885) (by decide +kernel), List.mem_of_getElem? (i := 1174) (by decide +kernel), List.mem_of_getElem? (i := 1175) (by decide +kernel)⟩
def lw_privs_3 : List (MethodName × Nat) := [(⟨"ControlSignsModel", "isPolynomial", "(I)Z"⟩, 34), (⟨"ControlSignsModel", "isBox", "(I)Z"⟩, 34), (⟨"ControlSignsModel", "isCoefficient", "(II)Z"⟩, 34), (⟨"ControlSignsModel", "knows", "(II)V"⟩, 34), (⟨"ControlSignsModel", "isTaken", "()Z"⟩, 34), (⟨"ControlSignsModel", "lays", "(III)V"⟩, 34), (⟨"ControlSignsModel", "laysOwn", "(II)V"⟩, 34), (⟨"ControlSignsModel", "lowOf", "(I)I"⟩, 34), (⟨"ControlSignsModel", "lengthOf", "()I"⟩, 34), (⟨"ControlSignsModel", "varies", "(II)I"⟩, 34), (⟨"ControlSignsModel", "highOf", "(I)I"⟩, 34), (⟨"ControlSignsModel", "brings", "()V"⟩, 34), (⟨"ControlSignsModel", "puts", "(I)V"⟩, 34), (⟨"ControlSignsModel", "finds", "(II)V"⟩, 34), (⟨"ControlSignsModel", "writes", "()I"⟩, 34), (⟨"ControlSignsModel", "isAbove", "(IIII)Z"⟩, 34)]
theorem lw_r3 : ∀ q ∈ lw_privs_3, lw_okq q := List.forall_mem_cons.mpr ⟨lw_p32, List.forall_mem_cons.mpr ⟨lw_p33, List.forall_mem_cons.mpr ⟨lw_p34, List.forall_mem_cons.mpr ⟨lw_p35, List.forall_mem_cons.mpr ⟨lw_p36, List.forall_mem_cons.mpr ⟨lw_p37, List.forall_mem_cons.mpr ⟨lw_p38, List.forall_mem_cons.mpr ⟨lw_p39, List.forall_mem_cons.mpr ⟨lw_p40, List.forall_mem_cons.mpr ⟨lw_p41, List.forall_mem_cons.mpr ⟨lw_p42, List.forall_mem_cons.mpr ⟨lw_p43, List.forall_mem_cons.mpr ⟨lw_p44, List.forall_mem_cons.mpr ⟨lw_p45, List.forall_mem_cons.mpr ⟨lw_p46, List.forall_mem_cons.mpr ⟨lw_p47, fun _ h => absurd h List.not_mem_nil⟩⟩⟩⟩⟩⟩⟩⟩⟩⟩⟩⟩⟩⟩⟩⟩
theorem lw_p48 : lw_okq (⟨"ControlSignsModel", "narrows", "(I)V"⟩, 34) := ⟨⟨by decide +kernel, by decide +kernel⟩, List.mem_of_getElem? (i := 885) (by decide +kernel), List.mem_of_getElem? (i := 1194) (by decide +kernel), List.mem_of_getElem? (i := 1195) (by decide +kernel)⟩
theorem lw_p49 : lw_okq (⟨"ControlSignsModel", "leastOf", "(I)J"⟩, 34) := ⟨⟨by decide +kernel, by decide +kernel⟩, List.mem_of_getElem? (i := 885) (by decide +kernel), List.mem_of_getElem? (i := 1198) (by decide +kernel), List.mem_of_getElem? (i := 1199) (by decide +kernel)⟩
theorem lw_p50 : lw_okq (⟨"ControlSignsModel", "isHeld", "(I)Z"⟩, 34) := ⟨⟨by decide +kernel, by decide +kernel⟩, List.mem_of_getElem? (i := 885) (by decide +kernel), List.mem_of_getElem? (i := 1206) (by decide +kernel), List.mem_of_getElem? (i := 1207) (by decide +kernel)⟩
theorem lw_p51 : lw_okq (⟨"ControlSignsModel", "isBroken", "(I)Z"⟩, 34) := ⟨⟨by decide +kernel, by decide +kernel⟩, List.mem_of_getElem? (i := 885) (by decide +kernel), List.mem_of_getElem? (i := 1210) (by decide +kernel), List.mem_of_getElem? (i := 1211) (by decide +kernel)⟩
theorem lw_p52 : lw_okq (⟨"ControlSignsModel", "signAt", "(II)I"⟩, 34) := ⟨⟨by decide +kernel, by decide +kernel⟩, List.mem_of_getElem? (i := 885) (by decide +kernel), List.mem_of_getElem? (i := 1234) (by decide +kernel), List.mem_of_getElem? (i := 1235) (by decide +kernel)⟩
def lw_privs_4 : List (MethodName × Nat) := [(⟨"ControlSignsModel", "narrows", "(I)V"⟩, 34), (⟨"ControlSignsModel", "leastOf", "(I)J"⟩, 34), (⟨"ControlSignsModel", "isHeld", "(I)Z"⟩, 34), (⟨"ControlSignsModel", "isBroken", "(I)Z"⟩, 34), (⟨"ControlSignsModel", "signAt", "(II)I"⟩, 34)]
theorem lw_r4 : ∀ q ∈ lw_privs_4, lw_okq q := List.forall_mem_cons.mpr ⟨lw_p48, List.forall_mem_cons.mpr ⟨lw_p49, List.forall_mem_cons.mpr ⟨lw_p50, List.forall_mem_cons.mpr ⟨lw_p51, List.forall_mem_cons.mpr ⟨lw_p52, fun _ h => absurd h List.not_mem_nil⟩⟩⟩⟩⟩
def lw_privs : List (MethodName × Nat) := lw_privs_1 ++ (lw_privs_2 ++ (lw_privs_3 ++ (lw_privs_4)))
def lw_tbl : List Cond := k2_sels lw_privs ++ tables_1
theorem lw_privs_ok : ∀ q ∈ lw_privs, lw_okq q := by
  show ∀ q ∈ lw_privs_1 ++ (lw_privs_2 ++ (lw_privs_3 ++ (lw_privs_4))), lw_okq q
  exact List.forall_mem_append.mpr ⟨lw_r1, List.forall_mem_append.mpr ⟨lw_r2, List.forall_mem_append.mpr ⟨lw_r3, lw_r4⟩⟩⟩
def RX0 : String := "ControlSigns$Bounds"
def TX0 : u_T := fun k => match k with
  | 0 => ("ControlSigns$Bounds", "nodes", "[I", true)
  | 1 => ("ControlSigns$Bounds", "leasts", "[J", true)
  | 2 => ("ControlSigns$Bounds", "leastEnds", "[J", true)
  | _ => ("ControlSigns$Bounds", "size", "I", false)
def tyX0 : Nat → FieldType := fun k => match k with
  | 0 => .array .int
  | 1 => .array .long
  | 2 => .array .long
  | _ => .int
abbrev wsX00 : List Cond := u_ws RX0 TX0 4
theorem nmX0 : ∀ a, a < 4 → ∀ b, b < 4 → a ≠ b → (TX0 a).2.1 ≠ (TX0 b).2.1 := by decide +kernel
theorem tyX0_ok : ∀ k, k < 4 → parseFieldDescriptor (TX0 k).2.2.1 = some (tyX0 k) := by decide +kernel
abbrev cX0_init : ByteArray := prog_2_method_1_code
def yX0_init : MethodName := ⟨RX0, "<init>", "()V"⟩
abbrev cX0_narrow : ByteArray := prog_2_method_2_code
def yX0_narrow : MethodName := ⟨RX0, "narrow", "(LControlSigns$Taken;LControlSigns$Row;I)V"⟩
abbrev cX0_lowest : ByteArray := prog_2_method_3_code
def yX0_lowest : MethodName := ⟨RX0, "lowest", "()I"⟩
abbrev cX0_makeRoom : ByteArray := prog_2_method_4_code
def yX0_makeRoom : MethodName := ⟨RX0, "makeRoom", "(I)V"⟩
abbrev cX0_put : ByteArray := prog_2_method_5_code
def yX0_put : MethodName := ⟨RX0, "put", "(LControlSigns$Taken;LControlSigns$Row;II)V"⟩
abbrev cX0_leastNumber : ByteArray := prog_2_method_6_code
def yX0_leastNumber : MethodName := ⟨RX0, "leastNumber", "()J"⟩
abbrev cX0_leastEnd : ByteArray := prog_2_method_7_code
def yX0_leastEnd : MethodName := ⟨RX0, "leastEnd", "()J"⟩
abbrev cX0_leastOf : ByteArray := prog_2_method_8_code
def yX0_leastOf : MethodName := ⟨RX0, "leastOf", "([J)J"⟩
def RX1 : String := "ControlSigns$Changes"
def TX1 : u_T := fun k => match k with
  | 0 => ("ControlSigns$Changes", "rows", "[I", true)
  | _ => ("ControlSigns$Changes", "size", "I", false)
def tyX1 : Nat → FieldType := fun k => match k with
  | 0 => .array .int
  | _ => .int
abbrev wsX10 : List Cond := u_ws RX1 TX1 2
theorem nmX1 : ∀ a, a < 2 → ∀ b, b < 2 → a ≠ b → (TX1 a).2.1 ≠ (TX1 b).2.1 := by decide +kernel
theorem tyX1_ok : ∀ k, k < 2 → parseFieldDescriptor (TX1 k).2.2.1 = some (tyX1 k) := by decide +kernel
abbrev cX1_init : ByteArray := prog_3_method_1_code
def yX1_init : MethodName := ⟨RX1, "<init>", "()V"⟩
abbrev cX1_size : ByteArray := prog_3_method_2_code
def yX1_size : MethodName := ⟨RX1, "size", "()I"⟩
abbrev cX1_empty : ByteArray := prog_3_method_3_code
def yX1_empty : MethodName := ⟨RX1, "empty", "()V"⟩
abbrev cX1_rememberCoefficient : ByteArray := prog_3_method_4_code
def yX1_rememberCoefficient : MethodName := ⟨RX1, "rememberCoefficient", "(LControlSigns$Told;II)V"⟩
abbrev cX1_rememberBox : ByteArray := prog_3_method_5_code
def yX1_rememberBox : MethodName := ⟨RX1, "rememberBox", "(LControlSigns$Told;I)V"⟩
abbrev cX1_rememberWish : ByteArray := prog_3_method_6_code
def yX1_rememberWish : MethodName := ⟨RX1, "rememberWish", "(LControlSigns$Told;I)V"⟩
abbrev cX1_remember : ByteArray := prog_3_method_7_code
def yX1_remember : MethodName := ⟨RX1, "remember", "(IIIII)V"⟩
abbrev cX1_takeBack : ByteArray := prog_3_method_8_code
def yX1_takeBack : MethodName := ⟨RX1, "takeBack", "(LControlSigns$Told;)V"⟩
def RX2 : String := "ControlSigns$Paper"
def TX2 : u_T := fun k => match k with
  | 0 => ("ControlSigns$Paper", "letters", "[I", true)
  | 1 => ("ControlSigns$Paper", "size", "I", false)
  | _ => ("ControlSigns$Paper", "place", "I", false)
def tyX2 : Nat → FieldType := fun k => match k with
  | 0 => .array .int
  | 1 => .int
  | _ => .int
abbrev wsX20 : List Cond := u_ws RX2 TX2 3
theorem nmX2 : ∀ a, a < 3 → ∀ b, b < 3 → a ≠ b → (TX2 a).2.1 ≠ (TX2 b).2.1 := by decide +kernel
theorem tyX2_ok : ∀ k, k < 3 → parseFieldDescriptor (TX2 k).2.2.1 = some (tyX2 k) := by decide +kernel
abbrev cX2_init : ByteArray := prog_4_method_1_code
def yX2_init : MethodName := ⟨RX2, "<init>", "()V"⟩
abbrev cX2_letter : ByteArray := prog_4_method_2_code
def yX2_letter : MethodName := ⟨RX2, "letter", "(I)I"⟩
abbrev cX2_place : ByteArray := prog_4_method_3_code
def yX2_place : MethodName := ⟨RX2, "place", "()I"⟩
abbrev cX2_write : ByteArray := prog_4_method_4_code
def yX2_write : MethodName := ⟨RX2, "write", "(LControlSigns$Taken;LControlSigns$Row;)I"⟩
abbrev cX2_add : ByteArray := prog_4_method_5_code
def yX2_add : MethodName := ⟨RX2, "add", "(I)V"⟩
abbrev cX2_leastFigure : ByteArray := prog_4_method_6_code
def yX2_leastFigure : MethodName := ⟨RX2, "leastFigure", "(LControlSigns$Taken;LControlSigns$Row;I)I"⟩
abbrev cX2_read : ByteArray := prog_4_method_7_code
def yX2_read : MethodName := ⟨RX2, "read", "(LControlSigns$Taken;LControlSigns$Row;LControlSigns$Text;)I"⟩
abbrev cX2_isRight : ByteArray := prog_4_method_8_code
def yX2_isRight : MethodName := ⟨RX2, "isRight", "(LControlSigns$Taken;LControlSigns$Row;II)Z"⟩
def RX3 : String := "ControlSigns$Roots"
def TX3 : u_T := fun k => match k with
  | 0 => ("ControlSigns$Roots", "nodes", "[I", true)
  | 1 => ("ControlSigns$Roots", "kinds", "[I", true)
  | _ => ("ControlSigns$Roots", "size", "I", false)
def tyX3 : Nat → FieldType := fun k => match k with
  | 0 => .array .int
  | 1 => .array .int
  | _ => .int
abbrev wsX30 : List Cond := u_ws RX3 TX3 3
theorem nmX3 : ∀ a, a < 3 → ∀ b, b < 3 → a ≠ b → (TX3 a).2.1 ≠ (TX3 b).2.1 := by decide +kernel
theorem tyX3_ok : ∀ k, k < 3 → parseFieldDescriptor (TX3 k).2.2.1 = some (tyX3 k) := by decide +kernel
abbrev cX3_init : ByteArray := prog_5_method_1_code
def yX3_init : MethodName := ⟨RX3, "<init>", "()V"⟩
abbrev cX3_size : ByteArray := prog_5_method_2_code
def yX3_size : MethodName := ⟨RX3, "size", "()I"⟩
abbrev cX3_node : ByteArray := prog_5_method_3_code
def yX3_node : MethodName := ⟨RX3, "node", "(I)I"⟩
abbrev cX3_kind : ByteArray := prog_5_method_4_code
def yX3_kind : MethodName := ⟨RX3, "kind", "(I)I"⟩
abbrev cX3_find : ByteArray := prog_5_method_5_code
def yX3_find : MethodName := ⟨RX3, "find", "(LControlSigns$Taken;LControlSigns$Row;)V"⟩
abbrev cX3_pass : ByteArray := prog_5_method_6_code
def yX3_pass : MethodName := ⟨RX3, "pass", "(ILControlSigns$Row;)I"⟩
abbrev cX3_add : ByteArray := prog_5_method_7_code
def yX3_add : MethodName := ⟨RX3, "add", "(II)V"⟩
def RX4 : String := "ControlSigns$Row"
def TX4 : u_T := fun k => match k with
  | 0 => ("ControlSigns$Row", "numbers", "[J", true)
  | 1 => ("ControlSigns$Row", "top", "I", false)
  | _ => ("ControlSigns$Row", "unit", "J", false)
def tyX4 : Nat → FieldType := fun k => match k with
  | 0 => .array .long
  | 1 => .int
  | _ => .long
abbrev wsX40 : List Cond := u_ws RX4 TX4 3
theorem nmX4 : ∀ a, a < 3 → ∀ b, b < 3 → a ≠ b → (TX4 a).2.1 ≠ (TX4 b).2.1 := by decide +kernel
theorem tyX4_ok : ∀ k, k < 3 → parseFieldDescriptor (TX4 k).2.2.1 = some (tyX4 k) := by decide +kernel
abbrev cX4_init : ByteArray := prog_6_method_1_code
def yX4_init : MethodName := ⟨RX4, "<init>", "()V"⟩
abbrev cX4_top : ByteArray := prog_6_method_2_code
def yX4_top : MethodName := ⟨RX4, "top", "()I"⟩
abbrev cX4_lay : ByteArray := prog_6_method_3_code
def yX4_lay : MethodName := ⟨RX4, "lay", "(LControlSigns$Taken;I)V"⟩
abbrev cX4_layRaised : ByteArray := prog_6_method_4_code
def yX4_layRaised : MethodName := ⟨RX4, "layRaised", "(LControlSigns$Taken;II)V"⟩
abbrev cX4_layOne : ByteArray := prog_6_method_5_code
def yX4_layOne : MethodName := ⟨RX4, "layOne", "(LControlSigns$Taken;II)V"⟩
abbrev cX4_raise : ByteArray := prog_6_method_6_code
def yX4_raise : MethodName := ⟨RX4, "raise", "()V"⟩
abbrev cX4_multiply : ByteArray := prog_6_method_7_code
def yX4_multiply : MethodName := ⟨RX4, "multiply", "(JJ)V"⟩
abbrev cX4_addWhole : ByteArray := prog_6_method_8_code
def yX4_addWhole : MethodName := ⟨RX4, "addWhole", "(J)V"⟩
abbrev cX4_ways : ByteArray := prog_6_method_9_code
def yX4_ways : MethodName := ⟨RX4, "ways", "(I)I"⟩
abbrev cX4_number : ByteArray := prog_6_method_10_code
def yX4_number : MethodName := ⟨RX4, "number", "(I)J"⟩
abbrev cX4_below : ByteArray := prog_6_method_11_code
def yX4_below : MethodName := ⟨RX4, "below", "(I)J"⟩
abbrev cX4_commonNumber : ByteArray := prog_6_method_12_code
def yX4_commonNumber : MethodName := ⟨RX4, "commonNumber", "(I)J"⟩
abbrev cX4_commonBelow : ByteArray := prog_6_method_13_code
def yX4_commonBelow : MethodName := ⟨RX4, "commonBelow", "()J"⟩
abbrev cX4_least : ByteArray := prog_6_method_14_code
def yX4_least : MethodName := ⟨RX4, "least", "()J"⟩
abbrev cX4_leastEnd : ByteArray := prog_6_method_15_code
def yX4_leastEnd : MethodName := ⟨RX4, "leastEnd", "()J"⟩
abbrev cX4_signAtLow : ByteArray := prog_6_method_16_code
def yX4_signAtLow : MethodName := ⟨RX4, "signAtLow", "()I"⟩
abbrev cX4_signAtHigh : ByteArray := prog_6_method_17_code
def yX4_signAtHigh : MethodName := ⟨RX4, "signAtHigh", "()I"⟩
abbrev cX4_allHave : ByteArray := prog_6_method_18_code
def yX4_allHave : MethodName := ⟨RX4, "allHave", "(I)Z"⟩
abbrev cX4_signChanges : ByteArray := prog_6_method_19_code
def yX4_signChanges : MethodName := ⟨RX4, "signChanges", "()I"⟩
def RX5 : String := "ControlSigns$Shares"
def TX5 : u_T := fun k => match k with
  | _ => ("ControlSigns$Shares", "parts", "[I", true)
def tyX5 : Nat → FieldType := fun k => match k with
  | _ => .array .int
abbrev wsX50 : List Cond := u_ws RX5 TX5 1
theorem nmX5 : ∀ a, a < 1 → ∀ b, b < 1 → a ≠ b → (TX5 a).2.1 ≠ (TX5 b).2.1 := by decide +kernel
theorem tyX5_ok : ∀ k, k < 1 → parseFieldDescriptor (TX5 k).2.2.1 = some (tyX5 k) := by decide +kernel
abbrev cX5_init : ByteArray := prog_7_method_1_code
def yX5_init : MethodName := ⟨RX5, "<init>", "()V"⟩
abbrev cX5_share : ByteArray := prog_7_method_2_code
def yX5_share : MethodName := ⟨RX5, "share", "(I)I"⟩
abbrev cX5_measure : ByteArray := prog_7_method_3_code
def yX5_measure : MethodName := ⟨RX5, "measure", "(LControlSigns$Taken;LControlSigns$Row;)V"⟩
abbrev cX5_add : ByteArray := prog_7_method_4_code
def yX5_add : MethodName := ⟨RX5, "add", "(II)V"⟩
abbrev cX5_firstHeld : ByteArray := prog_7_method_5_code
def yX5_firstHeld : MethodName := ⟨RX5, "firstHeld", "(LControlSigns$Taken;LControlSigns$Row;)I"⟩
abbrev cX5_judge : ByteArray := prog_7_method_6_code
def yX5_judge : MethodName := ⟨RX5, "judge", "(LControlSigns$Taken;LControlSigns$Row;I)I"⟩
def RX6 : String := "ControlSigns$Sights"
def TX6 : u_T := fun k => match k with
  | 0 => ("ControlSigns$Sights", "places", "[I", true)
  | 1 => ("ControlSigns$Sights", "signs", "[I", true)
  | _ => ("ControlSigns$Sights", "size", "I", false)
def tyX6 : Nat → FieldType := fun k => match k with
  | 0 => .array .int
  | 1 => .array .int
  | _ => .int
abbrev wsX60 : List Cond := u_ws RX6 TX6 3
theorem nmX6 : ∀ a, a < 3 → ∀ b, b < 3 → a ≠ b → (TX6 a).2.1 ≠ (TX6 b).2.1 := by decide +kernel
theorem tyX6_ok : ∀ k, k < 3 → parseFieldDescriptor (TX6 k).2.2.1 = some (tyX6 k) := by decide +kernel
abbrev cX6_init : ByteArray := prog_8_method_1_code
def yX6_init : MethodName := ⟨RX6, "<init>", "()V"⟩
abbrev cX6_size : ByteArray := prog_8_method_2_code
def yX6_size : MethodName := ⟨RX6, "size", "()I"⟩
abbrev cX6_isFull : ByteArray := prog_8_method_3_code
def yX6_isFull : MethodName := ⟨RX6, "isFull", "()Z"⟩
abbrev cX6_add : ByteArray := prog_8_method_4_code
def yX6_add : MethodName := ⟨RX6, "add", "(II)V"⟩
abbrev cX6_empty : ByteArray := prog_8_method_5_code
def yX6_empty : MethodName := ⟨RX6, "empty", "()V"⟩
abbrev cX6_fit : ByteArray := prog_8_method_6_code
def yX6_fit : MethodName := ⟨RX6, "fit", "(LControlSigns$Told;I)Z"⟩
def RX7 : String := "ControlSigns$Taken"
def TX7 : u_T := fun k => match k with
  | 0 => ("ControlSigns$Taken", "told", "LControlSigns$Told;", true)
  | 1 => ("ControlSigns$Taken", "polynomial", "I", false)
  | _ => ("ControlSigns$Taken", "box", "I", false)
def tyX7 : Nat → FieldType := fun k => match k with
  | 0 => .object "ControlSigns$Told"
  | 1 => .int
  | _ => .int
abbrev wsX70 : List Cond := u_ws RX7 TX7 3
theorem nmX7 : ∀ a, a < 3 → ∀ b, b < 3 → a ≠ b → (TX7 a).2.1 ≠ (TX7 b).2.1 := by decide +kernel
theorem tyX7_ok : ∀ k, k < 3 → parseFieldDescriptor (TX7 k).2.2.1 = some (tyX7 k) := by decide +kernel
abbrev cX7_init : ByteArray := prog_9_method_1_code
def yX7_init : MethodName := ⟨RX7, "<init>", "(LControlSigns$Told;)V"⟩
abbrev cX7_told : ByteArray := prog_9_method_2_code
def yX7_told : MethodName := ⟨RX7, "told", "()LControlSigns$Told;"⟩
abbrev cX7_takenPolynomial : ByteArray := prog_9_method_3_code
def yX7_takenPolynomial : MethodName := ⟨RX7, "takenPolynomial", "()I"⟩
abbrev cX7_takenBox : ByteArray := prog_9_method_4_code
def yX7_takenBox : MethodName := ⟨RX7, "takenBox", "()I"⟩
abbrev cX7_take : ByteArray := prog_9_method_5_code
def yX7_take : MethodName := ⟨RX7, "take", "(II)V"⟩
abbrev cX7_hasBox : ByteArray := prog_9_method_6_code
def yX7_hasBox : MethodName := ⟨RX7, "hasBox", "()Z"⟩
abbrev cX7_isThere : ByteArray := prog_9_method_7_code
def yX7_isThere : MethodName := ⟨RX7, "isThere", "()Z"⟩
abbrev cX7_low : ByteArray := prog_9_method_8_code
def yX7_low : MethodName := ⟨RX7, "low", "(I)I"⟩
abbrev cX7_high : ByteArray := prog_9_method_9_code
def yX7_high : MethodName := ⟨RX7, "high", "(I)I"⟩
def RX8 : String := "ControlSigns$Text"
def TX8 : u_T := fun k => match k with
  | 0 => ("ControlSigns$Text", "letters", "[I", true)
  | _ => ("ControlSigns$Text", "size", "I", false)
def tyX8 : Nat → FieldType := fun k => match k with
  | 0 => .array .int
  | _ => .int
abbrev wsX80 : List Cond := u_ws RX8 TX8 2
theorem nmX8 : ∀ a, a < 2 → ∀ b, b < 2 → a ≠ b → (TX8 a).2.1 ≠ (TX8 b).2.1 := by decide +kernel
theorem tyX8_ok : ∀ k, k < 2 → parseFieldDescriptor (TX8 k).2.2.1 = some (tyX8 k) := by decide +kernel
abbrev cX8_init : ByteArray := prog_10_method_1_code
def yX8_init : MethodName := ⟨RX8, "<init>", "()V"⟩
abbrev cX8_length : ByteArray := prog_10_method_2_code
def yX8_length : MethodName := ⟨RX8, "length", "()I"⟩
abbrev cX8_isFull : ByteArray := prog_10_method_3_code
def yX8_isFull : MethodName := ⟨RX8, "isFull", "()Z"⟩
abbrev cX8_add : ByteArray := prog_10_method_4_code
def yX8_add : MethodName := ⟨RX8, "add", "(I)V"⟩
abbrev cX8_at : ByteArray := prog_10_method_5_code
def yX8_at : MethodName := ⟨RX8, "at", "(I)I"⟩
abbrev cX8_empty : ByteArray := prog_10_method_6_code
def yX8_empty : MethodName := ⟨RX8, "empty", "()V"⟩
def RX9 : String := "ControlSigns$TextReader"
def TX9 : u_T := fun k => match k with
  | 0 => ("ControlSigns$TextReader", "draft", "LControlSigns$Told;", true)
  | 1 => ("ControlSigns$TextReader", "item", "I", false)
  | 2 => ("ControlSigns$TextReader", "numbers", "I", false)
  | 3 => ("ControlSigns$TextReader", "isBelowNought", "Z", false)
  | _ => ("ControlSigns$TextReader", "lower", "I", false)
def tyX9 : Nat → FieldType := fun k => match k with
  | 0 => .object "ControlSigns$Told"
  | 1 => .int
  | 2 => .int
  | 3 => .boolean
  | _ => .int
abbrev wsX90 : List Cond := u_ws RX9 TX9 5
theorem nmX9 : ∀ a, a < 5 → ∀ b, b < 5 → a ≠ b → (TX9 a).2.1 ≠ (TX9 b).2.1 := by decide +kernel
theorem tyX9_ok : ∀ k, k < 5 → parseFieldDescriptor (TX9 k).2.2.1 = some (tyX9 k) := by decide +kernel
abbrev cX9_init : ByteArray := prog_11_method_1_code
def yX9_init : MethodName := ⟨RX9, "<init>", "()V"⟩
abbrev cX9_draft : ByteArray := prog_11_method_2_code
def yX9_draft : MethodName := ⟨RX9, "draft", "()LControlSigns$Told;"⟩
abbrev cX9_read : ByteArray := prog_11_method_3_code
def yX9_read : MethodName := ⟨RX9, "read", "(LControlSigns$Text;)I"⟩
abbrev cX9_stands : ByteArray := prog_11_method_4_code
def yX9_stands : MethodName := ⟨RX9, "stands", "(LControlSigns$Text;I)Z"⟩
abbrev cX9_isDigit : ByteArray := prog_11_method_5_code
def yX9_isDigit : MethodName := ⟨RX9, "isDigit", "(I)Z"⟩
abbrev cX9_takesSign : ByteArray := prog_11_method_6_code
def yX9_takesSign : MethodName := ⟨RX9, "takesSign", "(I)Z"⟩
abbrev cX9_opensPolynomial : ByteArray := prog_11_method_7_code
def yX9_opensPolynomial : MethodName := ⟨RX9, "opensPolynomial", "()Z"⟩
abbrev cX9_opensBox : ByteArray := prog_11_method_8_code
def yX9_opensBox : MethodName := ⟨RX9, "opensBox", "()Z"⟩
abbrev cX9_open : ByteArray := prog_11_method_9_code
def yX9_open : MethodName := ⟨RX9, "open", "(I)V"⟩
abbrev cX9_takesMinus : ByteArray := prog_11_method_10_code
def yX9_takesMinus : MethodName := ⟨RX9, "takesMinus", "()Z"⟩
abbrev cX9_hasRoom : ByteArray := prog_11_method_11_code
def yX9_hasRoom : MethodName := ⟨RX9, "hasRoom", "()Z"⟩
abbrev cX9_closes : ByteArray := prog_11_method_12_code
def yX9_closes : MethodName := ⟨RX9, "closes", "()Z"⟩
abbrev cX9_takesNumber : ByteArray := prog_11_method_13_code
def yX9_takesNumber : MethodName := ⟨RX9, "takesNumber", "(LControlSigns$Text;I)Z"⟩
abbrev cX9_takesCoefficient : ByteArray := prog_11_method_14_code
def yX9_takesCoefficient : MethodName := ⟨RX9, "takesCoefficient", "(I)Z"⟩
abbrev cX9_takesEnd : ByteArray := prog_11_method_15_code
def yX9_takesEnd : MethodName := ⟨RX9, "takesEnd", "(I)Z"⟩
def RX10 : String := "ControlSigns$Told"
def TX10 : u_T := fun k => match k with
  | 0 => ("ControlSigns$Told", "polynomials", "I", false)
  | 1 => ("ControlSigns$Told", "boxes", "I", false)
  | 2 => ("ControlSigns$Told", "sizes", "[I", true)
  | 3 => ("ControlSigns$Told", "coefficients", "[I", true)
  | 4 => ("ControlSigns$Told", "wanted", "[I", true)
  | 5 => ("ControlSigns$Told", "lowers", "[I", true)
  | _ => ("ControlSigns$Told", "uppers", "[I", true)
def tyX10 : Nat → FieldType := fun k => match k with
  | 0 => .int
  | 1 => .int
  | 2 => .array .int
  | 3 => .array .int
  | 4 => .array .int
  | 5 => .array .int
  | _ => .array .int
abbrev wsX100 : List Cond := u_ws RX10 TX10 7
theorem nmX10 : ∀ a, a < 7 → ∀ b, b < 7 → a ≠ b → (TX10 a).2.1 ≠ (TX10 b).2.1 := by decide +kernel
theorem tyX10_ok : ∀ k, k < 7 → parseFieldDescriptor (TX10 k).2.2.1 = some (tyX10 k) := by decide +kernel
abbrev cX10_init : ByteArray := prog_12_method_1_code
def yX10_init : MethodName := ⟨RX10, "<init>", "()V"⟩
abbrev cX10_polynomials : ByteArray := prog_12_method_2_code
def yX10_polynomials : MethodName := ⟨RX10, "polynomials", "()I"⟩
abbrev cX10_boxes : ByteArray := prog_12_method_3_code
def yX10_boxes : MethodName := ⟨RX10, "boxes", "()I"⟩
abbrev cX10_hasPolynomial : ByteArray := prog_12_method_4_code
def yX10_hasPolynomial : MethodName := ⟨RX10, "hasPolynomial", "(I)Z"⟩
abbrev cX10_hasBox : ByteArray := prog_12_method_5_code
def yX10_hasBox : MethodName := ⟨RX10, "hasBox", "(I)Z"⟩
abbrev cX10_hasCoefficient : ByteArray := prog_12_method_6_code
def yX10_hasCoefficient : MethodName := ⟨RX10, "hasCoefficient", "(II)Z"⟩
abbrev cX10_degree : ByteArray := prog_12_method_7_code
def yX10_degree : MethodName := ⟨RX10, "degree", "(I)I"⟩
abbrev cX10_coefficient : ByteArray := prog_12_method_8_code
def yX10_coefficient : MethodName := ⟨RX10, "coefficient", "(II)I"⟩
abbrev cX10_wanted : ByteArray := prog_12_method_9_code
def yX10_wanted : MethodName := ⟨RX10, "wanted", "(I)I"⟩
abbrev cX10_lower : ByteArray := prog_12_method_10_code
def yX10_lower : MethodName := ⟨RX10, "lower", "(I)I"⟩
abbrev cX10_upper : ByteArray := prog_12_method_11_code
def yX10_upper : MethodName := ⟨RX10, "upper", "(I)I"⟩
abbrev cX10_placeBehind : ByteArray := prog_12_method_12_code
def yX10_placeBehind : MethodName := ⟨RX10, "placeBehind", "(II)I"⟩
abbrev cX10_at : ByteArray := prog_12_method_13_code
def yX10_at : MethodName := ⟨RX10, "at", "(II)I"⟩
abbrev cX10_putCoefficient : ByteArray := prog_12_method_14_code
def yX10_putCoefficient : MethodName := ⟨RX10, "putCoefficient", "(III)V"⟩
abbrev cX10_putBox : ByteArray := prog_12_method_15_code
def yX10_putBox : MethodName := ⟨RX10, "putBox", "(III)V"⟩
abbrev cX10_want : ByteArray := prog_12_method_16_code
def yX10_want : MethodName := ⟨RX10, "want", "(II)V"⟩
abbrev cX10_empty : ByteArray := prog_12_method_17_code
def yX10_empty : MethodName := ⟨RX10, "empty", "()V"⟩
abbrev cX10_addPolynomial : ByteArray := prog_12_method_18_code
def yX10_addPolynomial : MethodName := ⟨RX10, "addPolynomial", "()V"⟩
abbrev cX10_addCoefficient : ByteArray := prog_12_method_19_code
def yX10_addCoefficient : MethodName := ⟨RX10, "addCoefficient", "(I)V"⟩
abbrev cX10_addBox : ByteArray := prog_12_method_20_code
def yX10_addBox : MethodName := ⟨RX10, "addBox", "(II)V"⟩
abbrev cX10_become : ByteArray := prog_12_method_21_code
def yX10_become : MethodName := ⟨RX10, "become", "(LControlSigns$Told;)V"⟩
def RX11 : String := "ControlSigns"
def TX11 : u_T := fun k => match k with
  | 0 => ("ControlSigns", "text", "LControlSigns$Text;", true)
  | 1 => ("ControlSigns", "now", "LControlSigns$Told;", true)
  | 2 => ("ControlSigns", "taken", "LControlSigns$Taken;", true)
  | 3 => ("ControlSigns", "changes", "LControlSigns$Changes;", true)
  | 4 => ("ControlSigns", "images", "[LControlSigns$Told;", true)
  | 5 => ("ControlSigns", "keptImages", "I", false)
  | 6 => ("ControlSigns", "sights", "LControlSigns$Sights;", true)
  | 7 => ("ControlSigns", "reader", "LControlSigns$TextReader;", true)
  | 8 => ("ControlSigns", "row", "LControlSigns$Row;", true)
  | 9 => ("ControlSigns", "roots", "LControlSigns$Roots;", true)
  | 10 => ("ControlSigns", "proof", "LControlSigns$Paper;", true)
  | 11 => ("ControlSigns", "bounds", "LControlSigns$Bounds;", true)
  | _ => ("ControlSigns", "shares", "LControlSigns$Shares;", true)
def tyX11 : Nat → FieldType := fun k => match k with
  | 0 => .object "ControlSigns$Text"
  | 1 => .object "ControlSigns$Told"
  | 2 => .object "ControlSigns$Taken"
  | 3 => .object "ControlSigns$Changes"
  | 4 => .array (.object "ControlSigns$Told")
  | 5 => .int
  | 6 => .object "ControlSigns$Sights"
  | 7 => .object "ControlSigns$TextReader"
  | 8 => .object "ControlSigns$Row"
  | 9 => .object "ControlSigns$Roots"
  | 10 => .object "ControlSigns$Paper"
  | 11 => .object "ControlSigns$Bounds"
  | _ => .object "ControlSigns$Shares"
abbrev wsX110 : List Cond := u_ws RX11 TX11 13
theorem nmX11 : ∀ a, a < 13 → ∀ b, b < 13 → a ≠ b → (TX11 a).2.1 ≠ (TX11 b).2.1 := by decide +kernel
theorem tyX11_ok : ∀ k, k < 13 → parseFieldDescriptor (TX11 k).2.2.1 = some (tyX11 k) := by decide +kernel
abbrev cX11_init : ByteArray := prog_1_method_1_code
def yX11_init : MethodName := ⟨RX11, "<init>", "()V"⟩
abbrev cX11_type : ByteArray := prog_1_method_2_code
def yX11_type : MethodName := ⟨RX11, "type", "(I)I"⟩
abbrev cX11_clear : ByteArray := prog_1_method_3_code
def yX11_clear : MethodName := ⟨RX11, "clear", "()I"⟩
abbrev cX11_house : ByteArray := prog_1_method_4_code
def yX11_house : MethodName := ⟨RX11, "house", "()I"⟩
abbrev cX11_takes : ByteArray := prog_1_method_5_code
def yX11_takes : MethodName := ⟨RX11, "takes", "(II)I"⟩
abbrev cX11_coef : ByteArray := prog_1_method_6_code
def yX11_coef : MethodName := ⟨RX11, "coef", "(II)J"⟩
abbrev cX11_box : ByteArray := prog_1_method_7_code
def yX11_box : MethodName := ⟨RX11, "box", "(II)J"⟩
abbrev cX11_coefs : ByteArray := prog_1_method_8_code
def yX11_coefs : MethodName := ⟨RX11, "coefs", "(III)I"⟩
abbrev cX11_ends : ByteArray := prog_1_method_9_code
def yX11_ends : MethodName := ⟨RX11, "ends", "(III)I"⟩
abbrev cX11_wishes : ByteArray := prog_1_method_10_code
def yX11_wishes : MethodName := ⟨RX11, "wishes", "(II)I"⟩
abbrev cX11_undo : ByteArray := prog_1_method_11_code
def yX11_undo : MethodName := ⟨RX11, "undo", "()I"⟩
abbrev cX11_control : ByteArray := prog_1_method_12_code
def yX11_control : MethodName := ⟨RX11, "control", "(IIII)J"⟩
abbrev cX11_variation : ByteArray := prog_1_method_13_code
def yX11_variation : MethodName := ⟨RX11, "variation", "(II)I"⟩
abbrev cX11_end : ByteArray := prog_1_method_14_code
def yX11_end : MethodName := ⟨RX11, "end", "(III)J"⟩
abbrev cX11_value : ByteArray := prog_1_method_15_code
def yX11_value : MethodName := ⟨RX11, "value", "(III)J"⟩
abbrev cX11_brackets : ByteArray := prog_1_method_16_code
def yX11_brackets : MethodName := ⟨RX11, "brackets", "()I"⟩
abbrev cX11_bracket : ByteArray := prog_1_method_17_code
def yX11_bracket : MethodName := ⟨RX11, "bracket", "(II)I"⟩
abbrev cX11_makes : ByteArray := prog_1_method_18_code
def yX11_makes : MethodName := ⟨RX11, "makes", "()I"⟩
abbrev cX11_paper : ByteArray := prog_1_method_19_code
def yX11_paper : MethodName := ⟨RX11, "paper", "(I)I"⟩
abbrev cX11_witness : ByteArray := prog_1_method_20_code
def yX11_witness : MethodName := ⟨RX11, "witness", "(I)J"⟩
abbrev cX11_proves : ByteArray := prog_1_method_21_code
def yX11_proves : MethodName := ⟨RX11, "proves", "()I"⟩
abbrev cX11_narrowed : ByteArray := prog_1_method_22_code
def yX11_narrowed : MethodName := ⟨RX11, "narrowed", "(III)J"⟩
abbrev cX11_sure : ByteArray := prog_1_method_23_code
def yX11_sure : MethodName := ⟨RX11, "sure", "(I)I"⟩
abbrev cX11_first : ByteArray := prog_1_method_24_code
def yX11_first : MethodName := ⟨RX11, "first", "()I"⟩
abbrev cX11_wish : ByteArray := prog_1_method_25_code
def yX11_wish : MethodName := ⟨RX11, "wish", "(I)J"⟩
abbrev cX11_sees : ByteArray := prog_1_method_26_code
def yX11_sees : MethodName := ⟨RX11, "sees", "(II)I"⟩
abbrev cX11_forget : ByteArray := prog_1_method_27_code
def yX11_forget : MethodName := ⟨RX11, "forget", "()I"⟩
abbrev cX11_unseen : ByteArray := prog_1_method_28_code
def yX11_unseen : MethodName := ⟨RX11, "unseen", "()I"⟩
abbrev cX11_keep : ByteArray := prog_1_method_29_code
def yX11_keep : MethodName := ⟨RX11, "keep", "(I)I"⟩
abbrev cX11_back : ByteArray := prog_1_method_30_code
def yX11_back : MethodName := ⟨RX11, "back", "(I)I"⟩
abbrev cX11_count : ByteArray := prog_1_method_31_code
def yX11_count : MethodName := ⟨RX11, "count", "(I)I"⟩
abbrev cX11_isImage : ByteArray := prog_1_method_32_code
def yX11_isImage : MethodName := ⟨RX11, "isImage", "(I)Z"⟩
abbrev cX11_isWithin : ByteArray := prog_1_method_33_code
def yX11_isWithin : MethodName := ⟨RX11, "isWithin", "(III)Z"⟩
abbrev cX11_isNode : ByteArray := prog_1_method_34_code
def yX11_isNode : MethodName := ⟨RX11, "isNode", "(I)Z"⟩
abbrev cX11_isPlace : ByteArray := prog_1_method_35_code
def yX11_isPlace : MethodName := ⟨RX11, "isPlace", "(I)Z"⟩
abbrev cX11_isCoefficient : ByteArray := prog_1_method_36_code
def yX11_isCoefficient : MethodName := ⟨RX11, "isCoefficient", "(I)Z"⟩
abbrev cX11_signOf : ByteArray := prog_1_method_37_code
def yX11_signOf : MethodName := ⟨RX11, "signOf", "(J)I"⟩
abbrev cX11_part : ByteArray := prog_1_method_38_code
def yX11_part : MethodName := ⟨RX11, "part", "(JJI)J"⟩
abbrev cX11_commonDivisor : ByteArray := prog_1_method_39_code
def yX11_commonDivisor : MethodName := ⟨RX11, "commonDivisor", "(JJ)J"⟩
abbrev cX11_partsOf : ByteArray := prog_1_method_40_code
def yX11_partsOf : MethodName := ⟨RX11, "partsOf", "(I)I"⟩
abbrev cX11_behind : ByteArray := prog_1_method_41_code
def yX11_behind : MethodName := ⟨RX11, "behind", "(I)I"⟩
def RX12 : String := "ControlSignsModel"
def TX12 : u_T := fun k => match k with
  | 0 => ("ControlSignsModel", "s", "[I", true)
  | 1 => ("ControlSignsModel", "draft", "[I", true)
  | 2 => ("ControlSignsModel", "kept", "[I", true)
  | 3 => ("ControlSignsModel", "isKept", "[Z", true)
  | 4 => ("ControlSignsModel", "past", "[I", true)
  | 5 => ("ControlSignsModel", "known", "I", false)
  | 6 => ("ControlSignsModel", "takenP", "I", false)
  | 7 => ("ControlSignsModel", "takenB", "I", false)
  | 8 => ("ControlSignsModel", "seenAt", "[I", true)
  | 9 => ("ControlSignsModel", "seenSign", "[I", true)
  | 10 => ("ControlSignsModel", "seen", "I", false)
  | 11 => ("ControlSignsModel", "text", "[I", true)
  | 12 => ("ControlSignsModel", "typed", "I", false)
  | 13 => ("ControlSignsModel", "kind", "[I", true)
  | 14 => ("ControlSignsModel", "place", "[I", true)
  | 15 => ("ControlSignsModel", "value", "[I", true)
  | 16 => ("ControlSignsModel", "tokens", "I", false)
  | 17 => ("ControlSignsModel", "at", "I", false)
  | 18 => ("ControlSignsModel", "told", "I", false)
  | 19 => ("ControlSignsModel", "row", "[J", true)
  | 20 => ("ControlSignsModel", "last", "I", false)
  | 21 => ("ControlSignsModel", "below", "J", false)
  | 22 => ("ControlSignsModel", "own", "[J", true)
  | 23 => ("ControlSignsModel", "pile", "[I", true)
  | 24 => ("ControlSignsModel", "top", "I", false)
  | 25 => ("ControlSignsModel", "foundNode", "[I", true)
  | 26 => ("ControlSignsModel", "foundKind", "[I", true)
  | 27 => ("ControlSignsModel", "found", "I", false)
  | 28 => ("ControlSignsModel", "letters", "[I", true)
  | 29 => ("ControlSignsModel", "written", "I", false)
  | 30 => ("ControlSignsModel", "witnessAt", "I", false)
  | 31 => ("ControlSignsModel", "nodes", "[I", true)
  | 32 => ("ControlSignsModel", "many", "I", false)
  | _ => ("ControlSignsModel", "parts", "[I", true)
def tyX12 : Nat → FieldType := fun k => match k with
  | 0 => .array .int
  | 1 => .array .int
  | 2 => .array .int
  | 3 => .array .boolean
  | 4 => .array .int
  | 5 => .int
  | 6 => .int
  | 7 => .int
  | 8 => .array .int
  | 9 => .array .int
  | 10 => .int
  | 11 => .array .int
  | 12 => .int
  | 13 => .array .int
  | 14 => .array .int
  | 15 => .array .int
  | 16 => .int
  | 17 => .int
  | 18 => .int
  | 19 => .array .long
  | 20 => .int
  | 21 => .long
  | 22 => .array .long
  | 23 => .array .int
  | 24 => .int
  | 25 => .array .int
  | 26 => .array .int
  | 27 => .int
  | 28 => .array .int
  | 29 => .int
  | 30 => .int
  | 31 => .array .int
  | 32 => .int
  | _ => .array .int
abbrev wsX120 : List Cond := u_ws RX12 TX12 34
theorem nmX12 : ∀ a, a < 34 → ∀ b, b < 34 → a ≠ b → (TX12 a).2.1 ≠ (TX12 b).2.1 := by decide +kernel
theorem tyX12_ok : ∀ k, k < 34 → parseFieldDescriptor (TX12 k).2.2.1 = some (tyX12 k) := by decide +kernel
abbrev cX12_init : ByteArray := prog_14_method_1_code
def yX12_init : MethodName := ⟨RX12, "<init>", "()V"⟩
abbrev cX12_in : ByteArray := prog_14_method_3_code
def yX12_in : MethodName := ⟨RX12, "in", "(III)Z"⟩
abbrev cX12_becomes : ByteArray := prog_14_method_4_code
def yX12_becomes : MethodName := ⟨RX12, "becomes", "()V"⟩
abbrev cX12_type : ByteArray := prog_14_method_5_code
def yX12_type : MethodName := ⟨RX12, "type", "(I)I"⟩
abbrev cX12_clear : ByteArray := prog_14_method_6_code
def yX12_clear : MethodName := ⟨RX12, "clear", "()I"⟩
abbrev cX12_numbered : ByteArray := prog_14_method_7_code
def yX12_numbered : MethodName := ⟨RX12, "numbered", "(I)I"⟩
abbrev cX12_split : ByteArray := prog_14_method_8_code
def yX12_split : MethodName := ⟨RX12, "split", "()V"⟩
abbrev cX12_isKind : ByteArray := prog_14_method_9_code
def yX12_isKind : MethodName := ⟨RX12, "isKind", "(I)Z"⟩
abbrev cX12_takesNumber : ByteArray := prog_14_method_10_code
def yX12_takesNumber : MethodName := ⟨RX12, "takesNumber", "(II)Z"⟩
abbrev cX12_polynomial : ByteArray := prog_14_method_11_code
def yX12_polynomial : MethodName := ⟨RX12, "polynomial", "()Z"⟩
abbrev cX12_boxTold : ByteArray := prog_14_method_12_code
def yX12_boxTold : MethodName := ⟨RX12, "boxTold", "()Z"⟩
abbrev cX12_house : ByteArray := prog_14_method_13_code
def yX12_house : MethodName := ⟨RX12, "house", "()I"⟩
abbrev cX12_isPolynomial : ByteArray := prog_14_method_14_code
def yX12_isPolynomial : MethodName := ⟨RX12, "isPolynomial", "(I)Z"⟩
abbrev cX12_isBox : ByteArray := prog_14_method_15_code
def yX12_isBox : MethodName := ⟨RX12, "isBox", "(I)Z"⟩
abbrev cX12_isTaken : ByteArray := prog_14_method_16_code
def yX12_isTaken : MethodName := ⟨RX12, "isTaken", "()Z"⟩
abbrev cX12_takes : ByteArray := prog_14_method_17_code
def yX12_takes : MethodName := ⟨RX12, "takes", "(II)I"⟩
abbrev cX12_isCoefficient : ByteArray := prog_14_method_18_code
def yX12_isCoefficient : MethodName := ⟨RX12, "isCoefficient", "(II)Z"⟩
abbrev cX12_coef : ByteArray := prog_14_method_19_code
def yX12_coef : MethodName := ⟨RX12, "coef", "(II)J"⟩
abbrev cX12_box : ByteArray := prog_14_method_20_code
def yX12_box : MethodName := ⟨RX12, "box", "(II)J"⟩
abbrev cX12_knows : ByteArray := prog_14_method_21_code
def yX12_knows : MethodName := ⟨RX12, "knows", "(II)V"⟩
abbrev cX12_coefs : ByteArray := prog_14_method_22_code
def yX12_coefs : MethodName := ⟨RX12, "coefs", "(III)I"⟩
abbrev cX12_ends : ByteArray := prog_14_method_23_code
def yX12_ends : MethodName := ⟨RX12, "ends", "(III)I"⟩
abbrev cX12_wishes : ByteArray := prog_14_method_24_code
def yX12_wishes : MethodName := ⟨RX12, "wishes", "(II)I"⟩
abbrev cX12_undo : ByteArray := prog_14_method_25_code
def yX12_undo : MethodName := ⟨RX12, "undo", "()I"⟩
abbrev cX12_choose : ByteArray := prog_14_method_26_code
def yX12_choose : MethodName := ⟨RX12, "choose", "(II)J"⟩
abbrev cX12_common : ByteArray := prog_14_method_27_code
def yX12_common : MethodName := ⟨RX12, "common", "(JJ)J"⟩
abbrev cX12_power : ByteArray := prog_14_method_28_code
def yX12_power : MethodName := ⟨RX12, "power", "(JI)J"⟩
abbrev cX12_sizeOf : ByteArray := prog_14_method_29_code
def yX12_sizeOf : MethodName := ⟨RX12, "sizeOf", "(I)I"⟩
abbrev cX12_lengthOf : ByteArray := prog_14_method_30_code
def yX12_lengthOf : MethodName := ⟨RX12, "lengthOf", "()I"⟩
abbrev cX12_lowOf : ByteArray := prog_14_method_31_code
def yX12_lowOf : MethodName := ⟨RX12, "lowOf", "(I)I"⟩
abbrev cX12_highOf : ByteArray := prog_14_method_32_code
def yX12_highOf : MethodName := ⟨RX12, "highOf", "(I)I"⟩
abbrev cX12_laysOwn : ByteArray := prog_14_method_33_code
def yX12_laysOwn : MethodName := ⟨RX12, "laysOwn", "(II)V"⟩
abbrev cX12_lays : ByteArray := prog_14_method_34_code
def yX12_lays : MethodName := ⟨RX12, "lays", "(III)V"⟩
abbrev cX12_fraction : ByteArray := prog_14_method_35_code
def yX12_fraction : MethodName := ⟨RX12, "fraction", "(JJI)J"⟩
abbrev cX12_isNode : ByteArray := prog_14_method_36_code
def yX12_isNode : MethodName := ⟨RX12, "isNode", "(I)Z"⟩
abbrev cX12_control : ByteArray := prog_14_method_37_code
def yX12_control : MethodName := ⟨RX12, "control", "(IIII)J"⟩
abbrev cX12_varies : ByteArray := prog_14_method_38_code
def yX12_varies : MethodName := ⟨RX12, "varies", "(II)I"⟩
abbrev cX12_variation : ByteArray := prog_14_method_39_code
def yX12_variation : MethodName := ⟨RX12, "variation", "(II)I"⟩
abbrev cX12_end : ByteArray := prog_14_method_40_code
def yX12_end : MethodName := ⟨RX12, "end", "(III)J"⟩
abbrev cX12_value : ByteArray := prog_14_method_41_code
def yX12_value : MethodName := ⟨RX12, "value", "(III)J"⟩
abbrev cX12_puts : ByteArray := prog_14_method_42_code
def yX12_puts : MethodName := ⟨RX12, "puts", "(I)V"⟩
abbrev cX12_finds : ByteArray := prog_14_method_43_code
def yX12_finds : MethodName := ⟨RX12, "finds", "(II)V"⟩
abbrev cX12_brings : ByteArray := prog_14_method_44_code
def yX12_brings : MethodName := ⟨RX12, "brings", "()V"⟩
abbrev cX12_brackets : ByteArray := prog_14_method_45_code
def yX12_brackets : MethodName := ⟨RX12, "brackets", "()I"⟩
abbrev cX12_bracket : ByteArray := prog_14_method_46_code
def yX12_bracket : MethodName := ⟨RX12, "bracket", "(II)I"⟩
abbrev cX12_isAbove : ByteArray := prog_14_method_47_code
def yX12_isAbove : MethodName := ⟨RX12, "isAbove", "(IIII)Z"⟩
abbrev cX12_writes : ByteArray := prog_14_method_48_code
def yX12_writes : MethodName := ⟨RX12, "writes", "()I"⟩
abbrev cX12_makes : ByteArray := prog_14_method_49_code
def yX12_makes : MethodName := ⟨RX12, "makes", "()I"⟩
abbrev cX12_paper : ByteArray := prog_14_method_50_code
def yX12_paper : MethodName := ⟨RX12, "paper", "(I)I"⟩
abbrev cX12_witness : ByteArray := prog_14_method_51_code
def yX12_witness : MethodName := ⟨RX12, "witness", "(I)J"⟩
abbrev cX12_proves : ByteArray := prog_14_method_52_code
def yX12_proves : MethodName := ⟨RX12, "proves", "()I"⟩
abbrev cX12_leastOf : ByteArray := prog_14_method_53_code
def yX12_leastOf : MethodName := ⟨RX12, "leastOf", "(I)J"⟩
abbrev cX12_narrows : ByteArray := prog_14_method_54_code
def yX12_narrows : MethodName := ⟨RX12, "narrows", "(I)V"⟩
abbrev cX12_narrowed : ByteArray := prog_14_method_55_code
def yX12_narrowed : MethodName := ⟨RX12, "narrowed", "(III)J"⟩
abbrev cX12_isHeld : ByteArray := prog_14_method_56_code
def yX12_isHeld : MethodName := ⟨RX12, "isHeld", "(I)Z"⟩
abbrev cX12_isBroken : ByteArray := prog_14_method_57_code
def yX12_isBroken : MethodName := ⟨RX12, "isBroken", "(I)Z"⟩
abbrev cX12_sure : ByteArray := prog_14_method_58_code
def yX12_sure : MethodName := ⟨RX12, "sure", "(I)I"⟩
abbrev cX12_first : ByteArray := prog_14_method_59_code
def yX12_first : MethodName := ⟨RX12, "first", "()I"⟩
abbrev cX12_wish : ByteArray := prog_14_method_60_code
def yX12_wish : MethodName := ⟨RX12, "wish", "(I)J"⟩
abbrev cX12_sees : ByteArray := prog_14_method_61_code
def yX12_sees : MethodName := ⟨RX12, "sees", "(II)I"⟩
abbrev cX12_forget : ByteArray := prog_14_method_62_code
def yX12_forget : MethodName := ⟨RX12, "forget", "()I"⟩
abbrev cX12_signAt : ByteArray := prog_14_method_63_code
def yX12_signAt : MethodName := ⟨RX12, "signAt", "(II)I"⟩
abbrev cX12_unseen : ByteArray := prog_14_method_64_code
def yX12_unseen : MethodName := ⟨RX12, "unseen", "()I"⟩
abbrev cX12_keep : ByteArray := prog_14_method_65_code
def yX12_keep : MethodName := ⟨RX12, "keep", "(I)I"⟩
abbrev cX12_back : ByteArray := prog_14_method_66_code
def yX12_back : MethodName := ⟨RX12, "back", "(I)I"⟩
abbrev cX12_count : ByteArray := prog_14_method_67_code
def yX12_count : MethodName := ⟨RX12, "count", "(I)I"⟩
def RJ7 : String := "java/util/Arrays"
abbrev cJ7_fill_d0a16 : ByteArray := prog_17_method_101_code
def yJ7_fill_d0a16 : MethodName := ⟨RJ7, "fill", "([JJ)V"⟩
abbrev cJ7_fill_53178 : ByteArray := prog_17_method_103_code
def yJ7_fill_53178 : MethodName := ⟨RJ7, "fill", "([II)V"⟩
def RL : String := "ControlSignsLaw"
abbrev cL_law : ByteArray := code
def yL_law : MethodName := ⟨RL, "law", "([I)Z"⟩
abbrev vwCl : List vw_C := [(RX0, TX0, 4), (RX1, TX1, 2), (RX2, TX2, 3), (RX3, TX3, 3), (RX4, TX4, 3), (RX5, TX5, 1), (RX6, TX6, 3), (RX7, TX7, 3), (RX8, TX8, 2), (RX9, TX9, 5), (RX10, TX10, 7), (RX11, TX11, 13), (RX12, TX12, 34)]
end
section
/-! THE FRAME: whole numbers for ints and longs, the world of 68 cells, the judgement jv, its rows. -/
def tblG : List Cond := lw_tbl.filter goodWord
theorem tblG_at {w : Cond} (i : Nat) (h : lw_tbl[i]? = some w) (hg : goodWord w = true) : w ∈ tblG := List.mem_filter.mpr ⟨List.mem_of_getElem? h, hg⟩
theorem tblG_good {w : Cond} (h : w ∈ tblG) : (w.onTables && w.keeps) = true ∨ ∃ ty, w = .arrayClass ty := good_of_word (List.mem_filter.mp h).2
theorem tblG_lw {w : Cond} (h : w ∈ tblG) : w ∈ lw_tbl := (List.mem_filter.mp h).1
def kI (x : Int) : Int32 := Int32.ofInt x
def kL (x : Int) : Int64 := Int64.ofInt x
theorem kI_of (x : Int32) : kI x.toInt = x := Int32.ofInt_toInt x
theorem kI_toInt {a : Int} (h1 : -2147483648 ≤ a) (h2 : a ≤ 2147483647) : (kI a).toInt = a := Int32.toInt_ofInt_of_le (by omega) (by omega)
theorem kL_toInt {a : Int} (h1 : -9223372036854775808 ≤ a) (h2 : a ≤ 9223372036854775807) : (kL a).toInt = a := Int64.toInt_ofInt_of_le (by omega) (by omega)
theorem kI_lt {a b : Int} (h : -2147483648 ≤ a ∧ a ≤ 2147483647 ∧ -2147483648 ≤ b ∧ b ≤ 2147483647) : kI a < kI b ↔ a < b := by
  rw [Int32.lt_iff_toInt_lt, kI_toInt h.1 h.2.1, kI_toInt h.2.2.1 h.2.2.2]
theorem kI_le {a b : Int} (h : -2147483648 ≤ a ∧ a ≤ 2147483647 ∧ -2147483648 ≤ b ∧ b ≤ 2147483647) : kI a ≤ kI b ↔ a ≤ b := by
  rw [Int32.le_iff_toInt_le, kI_toInt h.1 h.2.1, kI_toInt h.2.2.1 h.2.2.2]
theorem kI_eq {a b : Int} (h : -2147483648 ≤ a ∧ a ≤ 2147483647 ∧ -2147483648 ≤ b ∧ b ≤ 2147483647) : kI a = kI b ↔ a = b := by
  rw [← Int32.toInt_inj, kI_toInt h.1 h.2.1, kI_toInt h.2.2.1 h.2.2.2]
theorem kL_lt {a b : Int} (h : -9223372036854775808 ≤ a ∧ a ≤ 9223372036854775807 ∧ -9223372036854775808 ≤ b ∧ b ≤ 9223372036854775807) : kL a < kL b ↔ a < b := by
  rw [Int64.lt_iff_toInt_lt, kL_toInt h.1 h.2.1, kL_toInt h.2.2.1 h.2.2.2]
theorem kL_eq {a b : Int} (h : -9223372036854775808 ≤ a ∧ a ≤ 9223372036854775807 ∧ -9223372036854775808 ≤ b ∧ b ≤ 9223372036854775807) : kL a = kL b ↔ a = b := by
  rw [← Int64.toInt_inj, kL_toInt h.1 h.2.1, kL_toInt h.2.2.1 h.2.2.2]
theorem kI_clamp {i : Int} {n : Nat} (h : 0 ≤ i ∧ i < (n : Int)) (hn : n ≤ 2147483647) : vp_in (kI i) n ∧ (((kI i).toNatClampNeg : Nat) : Int) = i := by
  have h1 : (kI i).toInt = i := kI_toInt (by omega) (by omega)
  refine ⟨vp_in_iff.mpr (by rw [h1]; exact h), ?_⟩
  show (((kI i).toInt.toNat : Nat) : Int) = i
  rw [h1]
  omega
abbrev vi (a : Int) : Value := .int (kI a)
abbrev vl (a : Int) : Value := .long (kL a)
abbrev Sg : Type := Nat → Int → Int
abbrev Gl : Type := Launch × va_G × (Nat → Nat) × (Nat → ClassId) × (Nat × Nat × (Nat → Int32)) × Nat
abbrev Mt : Type := MethodName × ByteArray × Nat × Option FieldType × Room
def ga (g : Gl) (k : Nat) : Nat := g.2.2.1 k
abbrev vr (g : Gl) (k : Nat) : Value := .ref (ga g k)
def up1 (f : Int → Int) (j v : Int) : Int → Int := fun i => if i = j then v else f i
def up (σ : Sg) (k : Nat) (j v : Int) : Sg := fun k' => if k' = k then up1 (σ k) j v else σ k'
theorem up1_same (f : Int → Int) (j v : Int) : up1 f j v j = v := if_pos rfl
theorem up1_ne {f : Int → Int} {j v i : Int} (h : i ≠ j) : up1 f j v i = f i := if_neg h
theorem up_same (σ : Sg) (k : Nat) (j v : Int) : up σ k j v k = up1 (σ k) j v := if_pos rfl
theorem up_ne {σ : Sg} {k k' : Nat} {j v : Int} (h : k' ≠ k) : up σ k j v k' = σ k' := if_neg h
def lay : List (Nat × List Nat) := [(0, [10, 0, 0, 3, 4, 5, 6, 7]), (1, [3]), (1, [18]), (1, [3]), (1, [3]), (1, [3]), (0, [10, 0, 0, 9, 10, 11, 12, 13]), (1, [3]), (1, [18]), (1, [3]), (1, [3]), (1, [3]), (0, [10, 0, 0, 15, 16, 17, 18, 19]), (1, [3]), (1, [18]), (1, [3]), (1, [3]), (1, [3]), (0, [10, 0, 0, 21, 22, 23, 24, 25]), (1, [3]), (1, [18]), (1, [3]), (1, [3]), (1, [3]), (0, [11, 27, 2, 29, 30, 32, 0, 33, 36, 37, 39, 42, 44, 48]), (0, [8, 28, 0]), (1, [120]), (0, [7, 2, 0, 0]), (0, [1, 31, 0]), (1, [50]), (4, [6, 12]), (0, [6, 34, 35, 0]), (1, [6]), (1, [6]), (0, [9, 20, 0, 0, 0, 0]), (0, [4, 38, 0, 1]), (2, [8]), (0, [3, 40, 41, 0]), (1, [127]), (1, [127]), (0, [2, 43, 0, 0]), (1, [127]), (0, [0, 45, 46, 47, 0]), (1, [21]), (2, [21]), (2, [21]), (0, [5, 49]), (1, [3]), (0, [12, 51, 52, 53, 54, 55, 0, 0, 0, 56, 57, 0, 58, 0, 59, 60, 61, 0, 0, 0, 62, 0, 1, 63, 64, 0, 65, 66, 0, 67, 0, 0, 68, 0, 69]), (1, [32]), (1, [32]), (1, [64]), (3, [2]), (1, [40]), (1, [6]), (1, [6]), (1, [120]), (1, [120]), (1, [120]), (1, [120]), (2, [8]), (2, [6]), (1, [400]), (1, [200]), (1, [200]), (1, [130]), (1, [30]), (1, [3])]
theorem lay_len : lay.length = 68 := by decide +kernel
def fv (g : Gl) (f : Int → Int) (j c : Nat) : Value := match c with
  | 0 => .int (kI (f j))
  | 1 => .long (kL (f j))
  | c + 2 => .ref (ga g c)
def cel (g : Gl) (q : Nat × List Nat) (f : Int → Int) : va_E := match q with
  | (0, cs) => .inr (cs.headD 0, cs.tail.mapIdx (fun j c => fv g f j c))
  | (1, cs) => .inl (g.2.2.2.1 0, cs.headD 0, .inl (fun j => kI (f j)))
  | (2, cs) => .inl (g.2.2.2.1 1, cs.headD 0, .inr (.inl (fun j => kL (f j))))
  | (3, cs) => .inl (g.2.2.2.1 2, cs.headD 0, .inl (fun j => kI (f j)))
  | (_, cs) => .inl (g.2.2.2.1 3, cs.length, .inr (.inr (.inr (.inr (fun j => (cs[j]?).map (ga g))))))
def wsO (g : Gl) (σ : Sg) : va_W := lay.mapIdx (fun k q => (ga g k, cel g q (σ k)))
theorem wsO_at {g : Gl} {σ : Sg} {k : Nat} {q : Nat × List Nat} (h : lay[k]? = some q) : (wsO g σ)[k]? = some (ga g k, cel g q (σ k)) := by
  simp [wsO, List.getElem?_mapIdx, h]
theorem lay_lt {k : Nat} {q : Nat × List Nat} (h : lay[k]? = some q) : k < 68 := by
  have := (List.getElem?_eq_some_iff.mp h).1
  rw [lay_len] at this
  exact this
theorem wsO_fwd {g : Gl} {σ : Sg} {k : Nat} {x : Nat × va_E} (h : (wsO g σ)[k]? = some x) : ∃ q, lay[k]? = some q ∧ x = (ga g k, cel g q (σ k)) := by
  simp only [wsO, List.getElem?_mapIdx] at h
  cases hq : lay[k]? with
  | none => rw [hq] at h; cases h
  | some q => rw [hq] at h; exact ⟨q, rfl, (Option.some.inj h).symm⟩
/-- a world in which one cell's row is another one -/
theorem wsO_set {g : Gl} {σ σ' : Sg} {k : Nat} {q : Nat × List Nat} {E : va_E} (h : lay[k]? = some q) (hE : E = cel g q (σ' k)) (ho : ∀ j, j ≠ k → σ' j = σ j) : (wsO g σ).set k (ga g k, E) = wsO g σ' := by
  subst hE
  apply List.ext_getElem?
  intro i
  by_cases hi : i = k
  · subst hi
    rw [wsO_at h, List.getElem?_set_self (List.getElem?_eq_some_iff.mp (wsO_at (g := g) (σ := σ) h)).1]
  · rw [List.getElem?_set_ne (Ne.symm hi)]
    simp only [wsO, List.getElem?_mapIdx]
    cases hq : lay[i]? with
    | none => rfl
    | some r => simp only [Option.map_some]; rw [ho i hi]
def tysO (g : Gl) : List (ClassId × FieldType) := [(g.2.2.2.1 0, .int), (g.2.2.2.1 1, .long), (g.2.2.2.1 2, .boolean), (g.2.2.2.1 3, .object "ControlSigns$Told")]
def Gok (g : Gl) : Prop := ∀ i j, i < 68 → j < 68 → ga g i = ga g j → i = j
def Aw (g : Gl) : Nat → Prop := fun q => ∃ k, k < 68 ∧ q = ga g k
theorem wsO_D {g : Gl} {σ : Sg} {A : Nat → Prop} (hG : Gok g) (hA : ∀ k, k < 68 → A (ga g k)) : va_D A (wsO g σ) := by
  refine ⟨fun i j p q hi hj hpq => ?_, fun k q hk => ?_⟩
  · obtain ⟨a, ha, rfl⟩ := wsO_fwd hi
    obtain ⟨b, hb, rfl⟩ := wsO_fwd hj
    exact hG i j (lay_lt ha) (lay_lt hb) hpq
  · obtain ⟨a, ha, rfl⟩ := wsO_fwd hk
    exact hA k (lay_lt ha)
def waysL : List Int := [1, 0, 0, 0, 0, 0, 0, 0, 1, 1, 0, 0, 0, 0, 0, 0, 1, 2, 1, 0, 0, 0, 0, 0, 1, 3, 3, 1, 0, 0, 0, 0, 1, 4, 6, 4, 1, 0, 0, 0, 1, 5, 10, 10, 5, 1, 0, 0, 1, 6, 15, 20, 15, 6, 1, 0, 1, 7, 21, 35, 35, 21, 7, 1]
def nstL : List (String × Nat × MethodName × String) := [("ControlSigns", 11, (⟨"ControlSigns$Text", "<init>", "()V"⟩ : MethodName), "ControlSigns"), ("ControlSigns", 18, (⟨"ControlSigns$Told", "<init>", "()V"⟩ : MethodName), "ControlSigns"), ("ControlSigns", 34, (⟨"ControlSigns$Changes", "<init>", "()V"⟩ : MethodName), "ControlSigns"), ("ControlSigns", 45, (⟨"ControlSigns$Sights", "<init>", "()V"⟩ : MethodName), "ControlSigns"), ("ControlSigns", 52, (⟨"ControlSigns$TextReader", "<init>", "()V"⟩ : MethodName), "ControlSigns"), ("ControlSigns$TextReader", 11, (⟨"ControlSigns$Told", "<init>", "()V"⟩ : MethodName), "ControlSigns"), ("ControlSigns", 59, (⟨"ControlSigns$Row", "<init>", "()V"⟩ : MethodName), "ControlSigns"), ("ControlSigns", 66, (⟨"ControlSigns$Roots", "<init>", "()V"⟩ : MethodName), "ControlSigns"), ("ControlSigns", 73, (⟨"ControlSigns$Paper", "<init>", "()V"⟩ : MethodName), "ControlSigns"), ("ControlSigns", 80, (⟨"ControlSigns$Bounds", "<init>", "()V"⟩ : MethodName), "ControlSigns"), ("ControlSigns", 87, (⟨"ControlSigns$Shares", "<init>", "()V"⟩ : MethodName), "ControlSigns"), ("ControlSigns$TextReader", 91, (⟨"ControlSigns", "isCoefficient", "(I)Z"⟩ : MethodName), "ControlSigns"), ("ControlSigns$TextReader", 97, (⟨"ControlSigns", "isPlace", "(I)Z"⟩ : MethodName), "ControlSigns"), ("ControlSigns$Taken", 34, (⟨"ControlSigns", "partsOf", "(I)I"⟩ : MethodName), "ControlSigns"), ("ControlSigns$Row", 96, (⟨"ControlSigns", "signOf", "(J)I"⟩ : MethodName), "ControlSigns"), ("ControlSigns$Roots", 40, (⟨"ControlSigns", "behind", "(I)I"⟩ : MethodName), "ControlSigns"), ("ControlSigns$Paper", 30, (⟨"ControlSigns", "behind", "(I)I"⟩ : MethodName), "ControlSigns"), ("ControlSigns$Paper", 70, (⟨"ControlSigns", "isWithin", "(III)Z"⟩ : MethodName), "ControlSigns"), ("ControlSigns$Shares", 25, (⟨"ControlSigns", "partsOf", "(I)I"⟩ : MethodName), "ControlSigns"), ("ControlSigns$Shares", 33, (⟨"ControlSigns", "behind", "(I)I"⟩ : MethodName), "ControlSigns"), ("ControlSigns$Sights", 28, (⟨"ControlSigns", "signOf", "(J)I"⟩ : MethodName), "ControlSigns")]
def Nst (U : State) : Prop := (∀ q ∈ nstL, va_Nw (.methodLinkNest q.1 q.2.1 q.2.2.1 q.2.2.2) U) ∧ va_Nw (.fieldLinkNest "ControlSigns$Row" 80 "ControlSigns" "WAYS" "[I" "ControlSigns") U
theorem Nst.warm {s U : State} (hW : s.WarmedH U.vm) (h : Nst s) : Nst U := ⟨fun q hq => va_Nw.warmM hW (h.1 q hq), va_Nw.warmF hW h.2⟩
/-- what stands outside the world: the table WAYS, the script, the nest's words -/
def Ent (g : Gl) (A : Nat → Prop) (U : State) : Prop := va_Z "ControlSigns" "WAYS" "[I" (.ref g.2.2.2.2.2) A U U.heap ∧ va_T .int g.2.2.2.2.2 64 (fun j => .int (kI (waysL.getD j 0))) A U U.heap ∧ va_X g.2.2.2.2.1.1 g.2.2.2.2.1.2.1 g.2.2.2.2.1.2.2 U U.heap ∧ g.2.2.2.2.1.1 < U.heap.size ∧ ¬ A g.2.2.2.2.1.1 ∧ Nst U
theorem Ent.calls {g : Gl} {A : Nat → Prop} {s U : State} {H : Heap} {locs : List Loc} (h : Ent g A s) (hS : va_S A s.heap H locs) (hA : ∀ q, Aw g q → A q) (hU : U.heap = H) (hW : s.WarmedH U.vm) : Ent g (Aw g) U := by
  obtain ⟨h1, h2, h3, h4, h5, h6⟩ := h
  have k1 : ∀ a : Nat, a < s.heap.size → ¬ A a → U.heap[a]? = s.heap[a]? := fun a x y => by rw [hU]; exact hS.2.1 a x y
  refine ⟨?_, ?_, ?_, ?_, fun z => h5 (hA _ z), h6.warm hW⟩
  · have := h1.moved hW.alike
    obtain ⟨cf, kf, fi, f, a, cell, q1, q2, q3, q4, q5, q6, q7, q8⟩ := this
    exact ⟨cf, kf, fi, f, a, cell, q1, q2, q3, q4, by rw [k1 a (Array.getElem?_eq_some_iff.mp q5).1 q8]; exact q5, q6, q7, fun z => q8 (hA _ z)⟩
  · exact ((h2.kept k1).narrow hA).moved hW.alike
  · exact (h3.kept (k1 _ h4 h5)).moved hW.alike
  · rw [hU]; exact Nat.lt_of_lt_of_le h4 hS.1
def Wo (g : Gl) (σ : Sg) (U : State) : Prop := va_P g.2.1 vwCl (wsO g σ) U.heap ∧ va_K g.2.1 vwCl (tysO g) U ∧ Gok g ∧ Ent g (Aw g) U
def Qm (g : Gl) (Post : Option Value → Sg → Prop) : Array Value → State → Outcome → State → Prop := fun _ st o t => (∃ (r : Option Value) (σ' : Sg), o = .returned r ∧ Post r σ' ∧ va_P g.2.1 vwCl (wsO g σ') t.heap) ∧ va_F (Aw g) st t
/-- a method's contract: from the world σ with the arguments av it returns, and Post holds of its answer and the new world -/
def Ct (g : Gl) (y : Mt) (av : List Value) (σ : Sg) (Post : Option Value → Sg → Prop) : Prop := Met g.1 y.1 (.code y.1 y.2.1 y.2.2.1 y.2.2.2.1 :: tblG) y.2.2.2.2 (va_Pc av (Wo g σ)) (Qm g Post) 0 0 (Aw g)
abbrev Ex : Type := (State → Nat → Prop) × Nat × Nat × (List Frame → Array Value → State → State → Prop)
def Cx (g : Gl) (y : Mt) (A : Nat → Prop) (cl sl : Nat) (p : Program) (s : State) (m : MethodId) (args : Array Value) (meth : Method) (c : Code) : Prop :=
  p.tables.exec = Jvm.exec ∧ c.code = y.2.1 ∧ c.maxLocals = y.2.2.1 ∧ meth.sig.returnType = y.2.2.2.1 ∧ s.vm.findClass y.1.cls = some m.cls ∧ (∀ w ∈ tblG, w.before args s = true) ∧ meth.locks = false ∧ va_K g.2.1 vwCl (tysO g) s ∧ Gok g ∧ Ent g A s ∧ (∀ k, k < 68 → A (ga g k)) ∧ cl ≤ y.2.2.2.2.cells ∧ sl ≤ y.2.2.2.2.slots
/-- the machine, at pc of the method y with the world σ, the named values of locals lv, the operands st, comes to the exit F -/
def jv (g : Gl) (y : Mt) (F : Ex) (σ : Sg) (lv : List (Nat × Value)) (pc : Nat) (st : List Value) : Prop :=
  ∀ (p : Program) (e : Env) (s : State) (m : MethodId) (args : Array Value) (below : List Frame) (meth : Method) (c : Code) (H : Heap) (locs : List Loc) (ls : Array Slot),
    Cx g y (F.1 s) F.2.1 F.2.2.1 p s m args meth c → va_P g.2.1 vwCl (wsO g σ) H → va_S (F.1 s) s.heap H locs → lv_has ls y.2.2.1 lv →
    W p g.1 e y.2.2.2.2 s m args below meth c H locs F.2.1 F.2.2.1 (F.2.2.2 below args s) (F0 m pc ls st)
def Fm (g : Gl) (Post : Option Value → Sg → Prop) : Ex := (fun _ => Aw g, 0, 0, fun below args s => MQ below (Qm g Post) args s 0 0 (Aw g))
def Dc (y : Mt) (pc : Nat) (i : Instr) (len nx : Nat) : Prop := decode y.2.1 pc = .ok (i, len) ∧ pc + len = nx
def Dj (y : Mt) (pc : Nat) (i : Int → Instr) (nx tgt : Nat) : Prop := ∃ off : Int, decode y.2.1 pc = .ok (i off, 3) ∧ pc + 3 = nx ∧ (pc : Int) + off = (tgt : Int)
def lst1 (i : Nat) (v : Value) (lv : List (Nat × Value)) : List (Nat × Value) := (i, v) :: lv.filter (fun q => !(q.1 == i) && !(q.1 + 1 == i && q.2.category == 2))
def lst2 (i : Nat) (v : Value) (lv : List (Nat × Value)) : List (Nat × Value) := (i, v) :: lv.filter (fun q => !(q.1 == i) && (!(q.1 == i + 1) && !(q.1 + 1 == i && q.2.category == 2)))
theorem lk_at {ls : Array Slot} {nL i : Nat} {lv : List (Nat × Value)} {v : Value} (h : lv_has ls nL lv) (hl : lv.lookup i = some v) : ls[i]? = some (.val v) := by
  refine h.2.2 (i, v) ?_
  clear h
  induction lv with
  | nil => cases hl
  | cons q r ih =>
    obtain ⟨a, b⟩ := q
    rw [List.lookup_cons] at hl
    by_cases hi : (i == a) = true
    · rw [hi] at hl
      have hia : i = a := by simpa using hi
      cases hl
      rw [hia]
      exact List.mem_cons_self
    · have hi' : (i == a) = false := by simpa using hi
      rw [hi'] at hl
      exact List.mem_cons_of_mem _ (ih hl)
def lvS (lv : List (Nat × Value)) : List (Nat × Value) → Prop
  | [] => True
  | q :: r => lv.lookup q.1 = some q.2 ∧ lvS lv r
theorem lvS_has {ls : Array Slot} {nL : Nat} {lv lv' : List (Nat × Value)} (h : lv_has ls nL lv) (hs : lvS lv lv') : lv_has ls nL lv' := by
  refine ⟨h.1, h.2.1, ?_⟩
  induction lv' with
  | nil => intro q hq; cases hq
  | cons a r ih =>
    intro q hq
    rcases List.mem_cons.mp hq with rfl | hq
    · exact lk_at h hs.1
    · exact ih hs.2 q hq
theorem jv_lv {g : Gl} {y : Mt} {F : Ex} {σ : Sg} {lv lv' : List (Nat × Value)} {pc : Nat} {st : List Value} (hs : lvS lv lv') (k : jv g y F σ lv' pc st) : jv g y F σ lv pc st :=
  fun p e s m args below meth c H locs ls C hP hS hl => k p e s m args below meth c H locs ls C hP hS (lvS_has hl hs)
theorem Ct.of {g : Gl} {y : Mt} {av : List Value} {σ : Sg} {Post : Option Value → Sg → Prop} (hp : plainName y.1.cls = true) (hn : (lg_sl av).length ≤ y.2.2.1) (h : jv g y (Fm g Post) σ (lv_args 0 av) 0 []) : Ct g y av σ Post := by
  refine Met.ofW (cc := y.2.1) (maxL := y.2.2.1) (ret := y.2.2.2.1) hp rfl ?_
  intro p e s m args below meth c s₁ B hml hv
  obtain ⟨rfl, hP, hK, hG, hE⟩ := hv
  have hts := atoms_spec (ws := .code y.1 y.2.1 y.2.2.1 y.2.2.2.1 :: tblG) B.pre
  have hl := lv_entry av (n := y.2.2.1) hn
  rw [lg_entry_eq]
  exact h p e s m _ below meth c s.heap [] _ ⟨B.exec, B.bytes, hml, B.returns, findClass_of_methodNamed B.named, fun w hw => hts w (List.mem_cons_of_mem _ hw), B.notSynchronized, hK, hG, hE, fun k hk => ⟨k, hk, rfl⟩, Nat.zero_le _, Nat.zero_le _⟩ hP va_S.rf hl
end
section
theorem j_iconst {g : Gl} {y : Mt} {F : Ex} {σ : Sg} {lv : List (Nat × Value)} {pc nx : Nat} {st : List Value} (a : Int) (hd : Dc y pc (.iconst a) 1 nx) (k : jv g y F σ lv nx (vi a :: st)) : jv g y F σ lv pc st := by
  obtain ⟨hd, rfl⟩ := hd
  intro p e s m args below meth c H locs ls C hP hS hl
  exact lv_iconst C.1 C.2.1 hd rfl (k p e s m args below meth c H locs _ C hP hS hl)
theorem j_bipush {g : Gl} {y : Mt} {F : Ex} {σ : Sg} {lv : List (Nat × Value)} {pc nx : Nat} {st : List Value} (a : Int) (hd : Dc y pc (.bipush a) 2 nx) (h : (Int8.ofInt a).toInt32 = kI a) (k : jv g y F σ lv nx (vi a :: st)) : jv g y F σ lv pc st := by
  obtain ⟨hd, rfl⟩ := hd
  intro p e s m args below meth c H locs ls C hP hS hl
  exact lv_bipush C.1 C.2.1 hd h (k p e s m args below meth c H locs _ C hP hS hl)
theorem j_sipush {g : Gl} {y : Mt} {F : Ex} {σ : Sg} {lv : List (Nat × Value)} {pc nx : Nat} {st : List Value} (a : Int) (hd : Dc y pc (.sipush a) 3 nx) (h : (Int16.ofInt a).toInt32 = kI a) (k : jv g y F σ lv nx (vi a :: st)) : jv g y F σ lv pc st := by
  obtain ⟨hd, rfl⟩ := hd
  intro p e s m args below meth c H locs ls C hP hS hl
  exact lv_sipush C.1 C.2.1 hd h (k p e s m args below meth c H locs _ C hP hS hl)
theorem j_lconst0 {g : Gl} {y : Mt} {F : Ex} {σ : Sg} {lv : List (Nat × Value)} {pc nx : Nat} {st : List Value} (hd : Dc y pc (.lconst 0) 1 nx) (k : jv g y F σ lv nx (vl 0 :: st)) : jv g y F σ lv pc st := by
  obtain ⟨hd, rfl⟩ := hd
  intro p e s m args below meth c H locs ls C hP hS hl
  exact lv_lconst C.1 C.2.1 hd rfl (k p e s m args below meth c H locs _ C hP hS hl)
theorem j_lconst1 {g : Gl} {y : Mt} {F : Ex} {σ : Sg} {lv : List (Nat × Value)} {pc nx : Nat} {st : List Value} (hd : Dc y pc (.lconst 1) 1 nx) (k : jv g y F σ lv nx (vl 1 :: st)) : jv g y F σ lv pc st := by
  obtain ⟨hd, rfl⟩ := hd
  intro p e s m args below meth c H locs ls C hP hS hl
  exact lv_lconst C.1 C.2.1 hd rfl (k p e s m args below meth c H locs _ C hP hS hl)
theorem j_ldc2 {g : Gl} {y : Mt} {F : Ex} {σ : Sg} {lv : List (Nat × Value)} {pc nx : Nat} {st : List Value} {ix : Nat} (a : Int) (hw : Cond.constantLong y.1.cls ix (kL a) ∈ tblG) (hd : Dc y pc (.ldc2_w ix) 3 nx) (k : jv g y F σ lv nx (vl a :: st)) : jv g y F σ lv pc st := by
  obtain ⟨hd, rfl⟩ := hd
  intro p e s m args below meth c H locs ls C hP hS hl
  exact lv_ldc2 C.1 C.2.1 C.2.2.2.2.1 (C.2.2.2.2.2.1 _ hw) hd (k p e s m args below meth c H locs _ C hP hS hl)
theorem j_iload_n {g : Gl} {y : Mt} {F : Ex} {σ : Sg} {lv : List (Nat × Value)} {pc nx : Nat} {st : List Value} {n : Fin 4} {x : Int} (hd : Dc y pc (.iload_n n) 1 nx) (hv : lv.lookup n.1 = some (vi x)) (k : jv g y F σ lv nx (vi x :: st)) : jv g y F σ lv pc st := by
  obtain ⟨hd, rfl⟩ := hd
  intro p e s m args below meth c H locs ls C hP hS hl
  exact lv_iload_n C.1 C.2.1 hd rfl (lk_at hl hv) (k p e s m args below meth c H locs _ C hP hS hl)
theorem j_iload {g : Gl} {y : Mt} {F : Ex} {σ : Sg} {lv : List (Nat × Value)} {pc nx : Nat} {st : List Value} {n : Nat} {x : Int} (hd : Dc y pc (.iload n) 2 nx) (hv : lv.lookup n = some (vi x)) (k : jv g y F σ lv nx (vi x :: st)) : jv g y F σ lv pc st := by
  obtain ⟨hd, rfl⟩ := hd
  intro p e s m args below meth c H locs ls C hP hS hl
  exact lv_iload C.1 C.2.1 hd (lk_at hl hv) (k p e s m args below meth c H locs _ C hP hS hl)
theorem j_istore_n {g : Gl} {y : Mt} {F : Ex} {σ : Sg} {lv : List (Nat × Value)} {pc nx : Nat} {st : List Value} {n : Fin 4} {x : Int} (hd : Dc y pc (.istore_n n) 1 nx) (hn : n.1 < y.2.2.1) (k : jv g y F σ (lst1 n.1 (vi x) lv) nx st) : jv g y F σ lv pc (vi x :: st) := by
  obtain ⟨hd, rfl⟩ := hd
  intro p e s m args below meth c H locs ls C hP hS hl
  exact lv_istore_n C.1 C.2.1 hd rfl hl hn rfl (fun ls hl => k p e s m args below meth c H locs _ C hP hS hl)
theorem j_istore {g : Gl} {y : Mt} {F : Ex} {σ : Sg} {lv : List (Nat × Value)} {pc nx : Nat} {st : List Value} {n : Nat} {x : Int} (hd : Dc y pc (.istore n) 2 nx) (hn : n < y.2.2.1) (k : jv g y F σ (lst1 n (vi x) lv) nx st) : jv g y F σ lv pc (vi x :: st) := by
  obtain ⟨hd, rfl⟩ := hd
  intro p e s m args below meth c H locs ls C hP hS hl
  exact lv_istore C.1 C.2.1 hd hl hn rfl (fun ls hl => k p e s m args below meth c H locs _ C hP hS hl)
theorem j_lload_n {g : Gl} {y : Mt} {F : Ex} {σ : Sg} {lv : List (Nat × Value)} {pc nx : Nat} {st : List Value} {n : Fin 4} {x : Int} (hd : Dc y pc (.lload_n n) 1 nx) (hv : lv.lookup n.1 = some (vl x)) (k : jv g y F σ lv nx (vl x :: st)) : jv g y F σ lv pc st := by
  obtain ⟨hd, rfl⟩ := hd
  intro p e s m args below meth c H locs ls C hP hS hl
  exact lv_lload_n C.1 C.2.1 hd rfl (lk_at hl hv) (k p e s m args below meth c H locs _ C hP hS hl)
theorem j_lload {g : Gl} {y : Mt} {F : Ex} {σ : Sg} {lv : List (Nat × Value)} {pc nx : Nat} {st : List Value} {n : Nat} {x : Int} (hd : Dc y pc (.lload n) 2 nx) (hv : lv.lookup n = some (vl x)) (k : jv g y F σ lv nx (vl x :: st)) : jv g y F σ lv pc st := by
  obtain ⟨hd, rfl⟩ := hd
  intro p e s m args below meth c H locs ls C hP hS hl
  exact lv_lload C.1 C.2.1 hd (lk_at hl hv) (k p e s m args below meth c H locs _ C hP hS hl)
theorem j_lstore_n {g : Gl} {y : Mt} {F : Ex} {σ : Sg} {lv : List (Nat × Value)} {pc nx : Nat} {st : List Value} {n : Fin 4} {x : Int} (hd : Dc y pc (.lstore_n n) 1 nx) (hn : n.1 + 1 < y.2.2.1) (k : jv g y F σ (lst2 n.1 (vl x) lv) nx st) : jv g y F σ lv pc (vl x :: st) := by
  obtain ⟨hd, rfl⟩ := hd
  intro p e s m args below meth c H locs ls C hP hS hl
  exact lv_lstore_n C.1 C.2.1 hd rfl hl hn rfl (fun ls hl => k p e s m args below meth c H locs _ C hP hS hl)
theorem j_lstore {g : Gl} {y : Mt} {F : Ex} {σ : Sg} {lv : List (Nat × Value)} {pc nx : Nat} {st : List Value} {n : Nat} {x : Int} (hd : Dc y pc (.lstore n) 2 nx) (hn : n + 1 < y.2.2.1) (k : jv g y F σ (lst2 n (vl x) lv) nx st) : jv g y F σ lv pc (vl x :: st) := by
  obtain ⟨hd, rfl⟩ := hd
  intro p e s m args below meth c H locs ls C hP hS hl
  exact lv_lstore C.1 C.2.1 hd hl hn rfl (fun ls hl => k p e s m args below meth c H locs _ C hP hS hl)
theorem j_aload_n {g : Gl} {y : Mt} {F : Ex} {σ : Sg} {lv : List (Nat × Value)} {pc nx : Nat} {st : List Value} {n : Fin 4} {x : Nat} (hd : Dc y pc (.aload_n n) 1 nx) (hv : lv.lookup n.1 = some (Value.ref x)) (k : jv g y F σ lv nx (Value.ref x :: st)) : jv g y F σ lv pc st := by
  obtain ⟨hd, rfl⟩ := hd
  intro p e s m args below meth c H locs ls C hP hS hl
  exact lv_aload_n C.1 C.2.1 hd rfl (lk_at hl hv) (k p e s m args below meth c H locs _ C hP hS hl)
theorem j_aload {g : Gl} {y : Mt} {F : Ex} {σ : Sg} {lv : List (Nat × Value)} {pc nx : Nat} {st : List Value} {n : Nat} {x : Nat} (hd : Dc y pc (.aload n) 2 nx) (hv : lv.lookup n = some (Value.ref x)) (k : jv g y F σ lv nx (Value.ref x :: st)) : jv g y F σ lv pc st := by
  obtain ⟨hd, rfl⟩ := hd
  intro p e s m args below meth c H locs ls C hP hS hl
  exact lv_aload C.1 C.2.1 hd (lk_at hl hv) (k p e s m args below meth c H locs _ C hP hS hl)
theorem j_astore_n {g : Gl} {y : Mt} {F : Ex} {σ : Sg} {lv : List (Nat × Value)} {pc nx : Nat} {st : List Value} {n : Fin 4} {x : Nat} (hd : Dc y pc (.astore_n n) 1 nx) (hn : n.1 < y.2.2.1) (k : jv g y F σ (lst1 n.1 (Value.ref x) lv) nx st) : jv g y F σ lv pc (Value.ref x :: st) := by
  obtain ⟨hd, rfl⟩ := hd
  intro p e s m args below meth c H locs ls C hP hS hl
  exact lv_astore_n C.1 C.2.1 hd rfl hl hn rfl (fun ls hl => k p e s m args below meth c H locs _ C hP hS hl)
theorem j_astore {g : Gl} {y : Mt} {F : Ex} {σ : Sg} {lv : List (Nat × Value)} {pc nx : Nat} {st : List Value} {n : Nat} {x : Nat} (hd : Dc y pc (.astore n) 2 nx) (hn : n < y.2.2.1) (k : jv g y F σ (lst1 n (Value.ref x) lv) nx st) : jv g y F σ lv pc (Value.ref x :: st) := by
  obtain ⟨hd, rfl⟩ := hd
  intro p e s m args below meth c H locs ls C hP hS hl
  exact lv_astore C.1 C.2.1 hd hl hn rfl (fun ls hl => k p e s m args below meth c H locs _ C hP hS hl)
theorem lk_ix {lv : List (Nat × Value)} {i : Nat} {v : Value} (h : lv.lookup i = some v) : ∃ k : Nat, lv[k]? = some (i, v) := by
  induction lv with
  | nil => cases h
  | cons q r ih =>
    obtain ⟨a, b⟩ := q
    rw [List.lookup_cons] at h
    by_cases hi : (i == a) = true
    · rw [hi] at h
      have hia : i = a := by simpa using hi
      cases h
      exact ⟨0, by rw [hia]; rfl⟩
    · have hi' : (i == a) = false := by simpa using hi
      rw [hi'] at h
      obtain ⟨k, hk⟩ := ih h
      exact ⟨k + 1, hk⟩
theorem j_iinc {g : Gl} {y : Mt} {F : Ex} {σ : Sg} {lv : List (Nat × Value)} {pc nx : Nat} {st : List Value} {n : Nat} {x a : Int} (hd : Dc y pc (.iinc n a) 3 nx) (hv : lv.lookup n = some (vi x)) (hn : n < y.2.2.1) (k : jv g y F σ (lst1 n (vi (x + a)) lv) nx st) : jv g y F σ lv pc st := by
  obtain ⟨hd, rfl⟩ := hd
  intro p e s m args below meth c H locs ls C hP hS hl
  obtain ⟨i, hi⟩ := lk_ix hv
  exact lv_iinc C.1 C.2.1 hd hl hi (Int32.ofInt_add x a).symm hn rfl (fun ls hl => k p e s m args below meth c H locs _ C hP hS hl)
theorem j_iadd {g : Gl} {y : Mt} {F : Ex} {σ : Sg} {lv : List (Nat × Value)} {pc nx : Nat} {st : List Value} {a b : Int} (hd : Dc y pc (.iadd) 1 nx) (k : jv g y F σ lv nx (vi (a + b) :: st)) : jv g y F σ lv pc (vi b :: vi a :: st) := by
  obtain ⟨hd, rfl⟩ := hd
  intro p e s m args below meth c H locs ls C hP hS hl
  refine lv_iadd C.1 C.2.1 hd ?_
  rw [show kI a + kI b = kI (a + b) from (Int32.ofInt_add a b).symm]
  exact k p e s m args below meth c H locs _ C hP hS hl
theorem j_isub {g : Gl} {y : Mt} {F : Ex} {σ : Sg} {lv : List (Nat × Value)} {pc nx : Nat} {st : List Value} {a b : Int} (hd : Dc y pc (.isub) 1 nx) (k : jv g y F σ lv nx (vi (a - b) :: st)) : jv g y F σ lv pc (vi b :: vi a :: st) := by
  obtain ⟨hd, rfl⟩ := hd
  intro p e s m args below meth c H locs ls C hP hS hl
  refine lv_isub C.1 C.2.1 hd ?_
  rw [show kI a - kI b = kI (a - b) from (Int32.ofInt_sub a b).symm]
  exact k p e s m args below meth c H locs _ C hP hS hl
theorem j_imul {g : Gl} {y : Mt} {F : Ex} {σ : Sg} {lv : List (Nat × Value)} {pc nx : Nat} {st : List Value} {a b : Int} (hd : Dc y pc (.imul) 1 nx) (k : jv g y F σ lv nx (vi (a * b) :: st)) : jv g y F σ lv pc (vi b :: vi a :: st) := by
  obtain ⟨hd, rfl⟩ := hd
  intro p e s m args below meth c H locs ls C hP hS hl
  refine lv_imul C.1 C.2.1 hd ?_
  rw [show kI a * kI b = kI (a * b) from (Int32.ofInt_mul a b).symm]
  exact k p e s m args below meth c H locs _ C hP hS hl
theorem j_ladd {g : Gl} {y : Mt} {F : Ex} {σ : Sg} {lv : List (Nat × Value)} {pc nx : Nat} {st : List Value} {a b : Int} (hd : Dc y pc (.ladd) 1 nx) (k : jv g y F σ lv nx (vl (a + b) :: st)) : jv g y F σ lv pc (vl b :: vl a :: st) := by
  obtain ⟨hd, rfl⟩ := hd
  intro p e s m args below meth c H locs ls C hP hS hl
  refine lv_ladd C.1 C.2.1 hd ?_
  rw [show kL a + kL b = kL (a + b) from (Int64.ofInt_add a b).symm]
  exact k p e s m args below meth c H locs _ C hP hS hl
theorem j_lsub {g : Gl} {y : Mt} {F : Ex} {σ : Sg} {lv : List (Nat × Value)} {pc nx : Nat} {st : List Value} {a b : Int} (hd : Dc y pc (.lsub) 1 nx) (k : jv g y F σ lv nx (vl (a - b) :: st)) : jv g y F σ lv pc (vl b :: vl a :: st) := by
  obtain ⟨hd, rfl⟩ := hd
  intro p e s m args below meth c H locs ls C hP hS hl
  refine lv_lsub C.1 C.2.1 hd ?_
  rw [show kL a - kL b = kL (a - b) from (Int64.ofInt_sub a b).symm]
  exact k p e s m args below meth c H locs _ C hP hS hl
theorem j_lmul {g : Gl} {y : Mt} {F : Ex} {σ : Sg} {lv : List (Nat × Value)} {pc nx : Nat} {st : List Value} {a b : Int} (hd : Dc y pc (.lmul) 1 nx) (k : jv g y F σ lv nx (vl (a * b) :: st)) : jv g y F σ lv pc (vl b :: vl a :: st) := by
  obtain ⟨hd, rfl⟩ := hd
  intro p e s m args below meth c H locs ls C hP hS hl
  refine lv_lmul C.1 C.2.1 hd ?_
  rw [show kL a * kL b = kL (a * b) from (Int64.ofInt_mul a b).symm]
  exact k p e s m args below meth c H locs _ C hP hS hl
theorem j_ineg {g : Gl} {y : Mt} {F : Ex} {σ : Sg} {lv : List (Nat × Value)} {pc nx : Nat} {st : List Value} {a : Int} (hd : Dc y pc (.ineg) 1 nx) (k : jv g y F σ lv nx (vi (-a) :: st)) : jv g y F σ lv pc (vi a :: st) := by
  obtain ⟨hd, rfl⟩ := hd
  intro p e s m args below meth c H locs ls C hP hS hl
  refine lv_ineg C.1 C.2.1 hd ?_
  rw [show - kI a = kI (-a) from (Int32.ofInt_neg a).symm]
  exact k p e s m args below meth c H locs _ C hP hS hl
theorem j_lneg {g : Gl} {y : Mt} {F : Ex} {σ : Sg} {lv : List (Nat × Value)} {pc nx : Nat} {st : List Value} {a : Int} (hd : Dc y pc (.lneg) 1 nx) (k : jv g y F σ lv nx (vl (-a) :: st)) : jv g y F σ lv pc (vl a :: st) := by
  obtain ⟨hd, rfl⟩ := hd
  intro p e s m args below meth c H locs ls C hP hS hl
  refine lv_lneg C.1 C.2.1 hd ?_
  rw [show - kL a = kL (-a) from (Int64.ofInt_neg a).symm]
  exact k p e s m args below meth c H locs _ C hP hS hl
theorem j_i2l {g : Gl} {y : Mt} {F : Ex} {σ : Sg} {lv : List (Nat × Value)} {pc nx : Nat} {st : List Value} {a : Int} (ha : -2147483648 ≤ a ∧ a ≤ 2147483647) (hd : Dc y pc (.i2l) 1 nx) (k : jv g y F σ lv nx (vl a :: st)) : jv g y F σ lv pc (vi a :: st) := by
  obtain ⟨hd, rfl⟩ := hd
  intro p e s m args below meth c H locs ls C hP hS hl
  exact lv_i2l C.1 C.2.1 hd (by show (kI a).toInt64 = kL a; rw [← Int64.ofInt_int32ToInt, kI_toInt ha.1 ha.2]; rfl) (k p e s m args below meth c H locs _ C hP hS hl)
theorem j_idiv {g : Gl} {y : Mt} {F : Ex} {σ : Sg} {lv : List (Nat × Value)} {pc nx : Nat} {st : List Value} {a b : Int} (h : -2147483648 ≤ a ∧ a ≤ 2147483647 ∧ -2147483648 ≤ b ∧ b ≤ 2147483647 ∧ b ≠ 0) (hd : Dc y pc (.idiv) 1 nx) (k : jv g y F σ lv nx (vi (Int.tdiv a b) :: st)) : jv g y F σ lv pc (vi b :: vi a :: st) := by
  obtain ⟨hd, rfl⟩ := hd
  intro p e s m args below meth c H locs ls C hP hS hl
  have hb : ¬ kI b = 0 := fun z => h.2.2.2.2 ((kI_eq (a := b) (b := 0) (by omega)).mp z)
  refine lv_idiv C.1 C.2.1 hd hb ?_
  rw [show kI a / kI b = kI (Int.tdiv a b) from (Int32.ofInt_tdiv (by show -2147483648 ≤ a; omega) (by show a ≤ 2147483647; omega) (by show -2147483648 ≤ b; omega) (by show b ≤ 2147483647; omega)).symm]
  exact k p e s m args below meth c H locs _ C hP hS hl
theorem j_irem {g : Gl} {y : Mt} {F : Ex} {σ : Sg} {lv : List (Nat × Value)} {pc nx : Nat} {st : List Value} {a b : Int} (h : -2147483648 ≤ a ∧ a ≤ 2147483647 ∧ -2147483648 ≤ b ∧ b ≤ 2147483647 ∧ b ≠ 0) (hd : Dc y pc (.irem) 1 nx) (k : jv g y F σ lv nx (vi (Int.tmod a b) :: st)) : jv g y F σ lv pc (vi b :: vi a :: st) := by
  obtain ⟨hd, rfl⟩ := hd
  intro p e s m args below meth c H locs ls C hP hS hl
  have hb : ¬ kI b = 0 := fun z => h.2.2.2.2 ((kI_eq (a := b) (b := 0) (by omega)).mp z)
  refine lv_irem C.1 C.2.1 hd hb ?_
  rw [show kI a / kI b = kI (Int.tdiv a b) from (Int32.ofInt_tdiv (by show -2147483648 ≤ a; omega) (by show a ≤ 2147483647; omega) (by show -2147483648 ≤ b; omega) (by show b ≤ 2147483647; omega)).symm, show kI (Int.tdiv a b) * kI b = kI (Int.tdiv a b * b) from (Int32.ofInt_mul _ _).symm, show kI a - kI (Int.tdiv a b * b) = kI (a - Int.tdiv a b * b) from (Int32.ofInt_sub _ _).symm, show a - Int.tdiv a b * b = Int.tmod a b from by rw [Int.tmod_def, Int.mul_comm]]
  exact k p e s m args below meth c H locs _ C hP hS hl
theorem j_ldiv {g : Gl} {y : Mt} {F : Ex} {σ : Sg} {lv : List (Nat × Value)} {pc nx : Nat} {st : List Value} {a b : Int} (h : -9223372036854775808 ≤ a ∧ a ≤ 9223372036854775807 ∧ -9223372036854775808 ≤ b ∧ b ≤ 9223372036854775807 ∧ b ≠ 0) (hd : Dc y pc (.ldiv) 1 nx) (k : jv g y F σ lv nx (vl (Int.tdiv a b) :: st)) : jv g y F σ lv pc (vl b :: vl a :: st) := by
  obtain ⟨hd, rfl⟩ := hd
  intro p e s m args below meth c H locs ls C hP hS hl
  have hb : ¬ kL b = 0 := fun z => h.2.2.2.2 ((kL_eq (a := b) (b := 0) (by omega)).mp z)
  refine lv_ldiv C.1 C.2.1 hd hb ?_
  rw [show kL a / kL b = kL (Int.tdiv a b) from (Int64.ofInt_tdiv (by show -9223372036854775808 ≤ a; omega) (by show a ≤ 9223372036854775807; omega) (by show -9223372036854775808 ≤ b; omega) (by show b ≤ 9223372036854775807; omega)).symm]
  exact k p e s m args below meth c H locs _ C hP hS hl
theorem j_lrem {g : Gl} {y : Mt} {F : Ex} {σ : Sg} {lv : List (Nat × Value)} {pc nx : Nat} {st : List Value} {a b : Int} (h : -9223372036854775808 ≤ a ∧ a ≤ 9223372036854775807 ∧ -9223372036854775808 ≤ b ∧ b ≤ 9223372036854775807 ∧ b ≠ 0) (hd : Dc y pc (.lrem) 1 nx) (k : jv g y F σ lv nx (vl (Int.tmod a b) :: st)) : jv g y F σ lv pc (vl b :: vl a :: st) := by
  obtain ⟨hd, rfl⟩ := hd
  intro p e s m args below meth c H locs ls C hP hS hl
  have hb : ¬ kL b = 0 := fun z => h.2.2.2.2 ((kL_eq (a := b) (b := 0) (by omega)).mp z)
  refine lv_lrem C.1 C.2.1 hd hb ?_
  rw [show kL a / kL b = kL (Int.tdiv a b) from (Int64.ofInt_tdiv (by show -9223372036854775808 ≤ a; omega) (by show a ≤ 9223372036854775807; omega) (by show -9223372036854775808 ≤ b; omega) (by show b ≤ 9223372036854775807; omega)).symm, show kL (Int.tdiv a b) * kL b = kL (Int.tdiv a b * b) from (Int64.ofInt_mul _ _).symm, show kL a - kL (Int.tdiv a b * b) = kL (a - Int.tdiv a b * b) from (Int64.ofInt_sub _ _).symm, show a - Int.tdiv a b * b = Int.tmod a b from by rw [Int.tmod_def, Int.mul_comm]]
  exact k p e s m args below meth c H locs _ C hP hS hl
theorem j_iand {g : Gl} {y : Mt} {F : Ex} {σ : Sg} {lv : List (Nat × Value)} {pc nx : Nat} {st : List Value} {a b v : Int} (h : kI a &&& kI b = kI v) (hd : Dc y pc (.iand) 1 nx) (k : jv g y F σ lv nx (vi v :: st)) : jv g y F σ lv pc (vi b :: vi a :: st) := by
  obtain ⟨hd, rfl⟩ := hd
  intro p e s m args below meth c H locs ls C hP hS hl
  refine lv_iand C.1 C.2.1 hd ?_
  rw [h]
  exact k p e s m args below meth c H locs _ C hP hS hl
theorem j_ior {g : Gl} {y : Mt} {F : Ex} {σ : Sg} {lv : List (Nat × Value)} {pc nx : Nat} {st : List Value} {a b v : Int} (h : kI a ||| kI b = kI v) (hd : Dc y pc (.ior) 1 nx) (k : jv g y F σ lv nx (vi v :: st)) : jv g y F σ lv pc (vi b :: vi a :: st) := by
  obtain ⟨hd, rfl⟩ := hd
  intro p e s m args below meth c H locs ls C hP hS hl
  refine lv_ior C.1 C.2.1 hd ?_
  rw [h]
  exact k p e s m args below meth c H locs _ C hP hS hl
theorem j_ishl {g : Gl} {y : Mt} {F : Ex} {σ : Sg} {lv : List (Nat × Value)} {pc nx : Nat} {st : List Value} {a b v : Int} (h : kI a <<< (kI b &&& 31) = kI v) (hd : Dc y pc (.ishl) 1 nx) (k : jv g y F σ lv nx (vi v :: st)) : jv g y F σ lv pc (vi b :: vi a :: st) := by
  obtain ⟨hd, rfl⟩ := hd
  intro p e s m args below meth c H locs ls C hP hS hl
  refine lv_ishl C.1 C.2.1 hd ?_
  rw [h]
  exact k p e s m args below meth c H locs _ C hP hS hl
theorem j_ishr {g : Gl} {y : Mt} {F : Ex} {σ : Sg} {lv : List (Nat × Value)} {pc nx : Nat} {st : List Value} {a b v : Int} (h : kI a >>> (kI b &&& 31) = kI v) (hd : Dc y pc (.ishr) 1 nx) (k : jv g y F σ lv nx (vi v :: st)) : jv g y F σ lv pc (vi b :: vi a :: st) := by
  obtain ⟨hd, rfl⟩ := hd
  intro p e s m args below meth c H locs ls C hP hS hl
  refine lv_ishr C.1 C.2.1 hd ?_
  rw [h]
  exact k p e s m args below meth c H locs _ C hP hS hl
theorem j_dup {g : Gl} {y : Mt} {F : Ex} {σ : Sg} {lv : List (Nat × Value)} {pc nx : Nat} {st : List Value} {v : Value} (hc : v.category = 1) (hd : Dc y pc (.dup) 1 nx) (k : jv g y F σ lv nx (v :: v :: st)) : jv g y F σ lv pc (v :: st) := by
  obtain ⟨hd, rfl⟩ := hd
  intro p e s m args below meth c H locs ls C hP hS hl
  exact lv_dup C.1 C.2.1 hd hc (k p e s m args below meth c H locs _ C hP hS hl)
theorem j_dup2 {g : Gl} {y : Mt} {F : Ex} {σ : Sg} {lv : List (Nat × Value)} {pc nx : Nat} {st : List Value} {v w : Value} (hc : v.category = 1) (hc2 : w.category = 1) (hd : Dc y pc (.dup2) 1 nx) (k : jv g y F σ lv nx (v :: w :: v :: w :: st)) : jv g y F σ lv pc (v :: w :: st) := by
  obtain ⟨hd, rfl⟩ := hd
  intro p e s m args below meth c H locs ls C hP hS hl
  exact lv_dup2_11 C.1 C.2.1 hd hc hc2 (k p e s m args below meth c H locs _ C hP hS hl)
theorem j_icmp_lt {g : Gl} {y : Mt} {F : Ex} {σ : Sg} {lv : List (Nat × Value)} {pc nx tgt : Nat} {st : List Value} {a b : Int} (hd : Dj y pc (.if_icmp .lt) nx tgt) (h : -2147483648 ≤ a ∧ a ≤ 2147483647 ∧ -2147483648 ≤ b ∧ b ≤ 2147483647) (kt : a < b → jv g y F σ lv tgt st) (kf : ¬ a < b → jv g y F σ lv nx st) : jv g y F σ lv pc (vi b :: vi a :: st) := by
  obtain ⟨off, hd, rfl, ht⟩ := hd
  intro p e s m args below meth c H locs ls C hP hS hl
  have hx := kI_lt h
  exact lv_icmp_lt C.1 C.2.1 hd ht (fun z => (fun h9 => kt h9 p e s m args below meth c H locs _ C hP hS hl) (hx.mp z)) (fun z => (fun h9 => kf h9 p e s m args below meth c H locs _ C hP hS hl) (fun q => z (hx.mpr q)))
theorem j_icmp_ge {g : Gl} {y : Mt} {F : Ex} {σ : Sg} {lv : List (Nat × Value)} {pc nx tgt : Nat} {st : List Value} {a b : Int} (hd : Dj y pc (.if_icmp .ge) nx tgt) (h : -2147483648 ≤ a ∧ a ≤ 2147483647 ∧ -2147483648 ≤ b ∧ b ≤ 2147483647) (kt : b ≤ a → jv g y F σ lv tgt st) (kf : ¬ b ≤ a → jv g y F σ lv nx st) : jv g y F σ lv pc (vi b :: vi a :: st) := by
  obtain ⟨off, hd, rfl, ht⟩ := hd
  intro p e s m args below meth c H locs ls C hP hS hl
  have hx := kI_le ⟨h.2.2.1, h.2.2.2, h.1, h.2.1⟩
  exact lv_icmp_ge C.1 C.2.1 hd ht (fun z => (fun h9 => kt h9 p e s m args below meth c H locs _ C hP hS hl) (hx.mp z)) (fun z => (fun h9 => kf h9 p e s m args below meth c H locs _ C hP hS hl) (fun q => z (hx.mpr q)))
theorem j_icmp_gt {g : Gl} {y : Mt} {F : Ex} {σ : Sg} {lv : List (Nat × Value)} {pc nx tgt : Nat} {st : List Value} {a b : Int} (hd : Dj y pc (.if_icmp .gt) nx tgt) (h : -2147483648 ≤ a ∧ a ≤ 2147483647 ∧ -2147483648 ≤ b ∧ b ≤ 2147483647) (kt : b < a → jv g y F σ lv tgt st) (kf : ¬ b < a → jv g y F σ lv nx st) : jv g y F σ lv pc (vi b :: vi a :: st) := by
  obtain ⟨off, hd, rfl, ht⟩ := hd
  intro p e s m args below meth c H locs ls C hP hS hl
  have hx := kI_lt ⟨h.2.2.1, h.2.2.2, h.1, h.2.1⟩
  exact lv_icmp_gt C.1 C.2.1 hd ht (fun z => (fun h9 => kt h9 p e s m args below meth c H locs _ C hP hS hl) (hx.mp z)) (fun z => (fun h9 => kf h9 p e s m args below meth c H locs _ C hP hS hl) (fun q => z (hx.mpr q)))
theorem j_icmp_le {g : Gl} {y : Mt} {F : Ex} {σ : Sg} {lv : List (Nat × Value)} {pc nx tgt : Nat} {st : List Value} {a b : Int} (hd : Dj y pc (.if_icmp .le) nx tgt) (h : -2147483648 ≤ a ∧ a ≤ 2147483647 ∧ -2147483648 ≤ b ∧ b ≤ 2147483647) (kt : a ≤ b → jv g y F σ lv tgt st) (kf : ¬ a ≤ b → jv g y F σ lv nx st) : jv g y F σ lv pc (vi b :: vi a :: st) := by
  obtain ⟨off, hd, rfl, ht⟩ := hd
  intro p e s m args below meth c H locs ls C hP hS hl
  have hx := kI_le h
  exact lv_icmp_le C.1 C.2.1 hd ht (fun z => (fun h9 => kt h9 p e s m args below meth c H locs _ C hP hS hl) (hx.mp z)) (fun z => (fun h9 => kf h9 p e s m args below meth c H locs _ C hP hS hl) (fun q => z (hx.mpr q)))
theorem j_icmp_eq {g : Gl} {y : Mt} {F : Ex} {σ : Sg} {lv : List (Nat × Value)} {pc nx tgt : Nat} {st : List Value} {a b : Int} (hd : Dj y pc (.if_icmp .eq) nx tgt) (h : -2147483648 ≤ a ∧ a ≤ 2147483647 ∧ -2147483648 ≤ b ∧ b ≤ 2147483647) (kt : a = b → jv g y F σ lv tgt st) (kf : ¬ a = b → jv g y F σ lv nx st) : jv g y F σ lv pc (vi b :: vi a :: st) := by
  obtain ⟨off, hd, rfl, ht⟩ := hd
  intro p e s m args below meth c H locs ls C hP hS hl
  have hx := kI_eq h
  exact lv_icmp_eq C.1 C.2.1 hd ht (fun z => (fun h9 => kt h9 p e s m args below meth c H locs _ C hP hS hl) (hx.mp z)) (fun z => (fun h9 => kf h9 p e s m args below meth c H locs _ C hP hS hl) (fun q => z (hx.mpr q)))
theorem j_icmp_ne {g : Gl} {y : Mt} {F : Ex} {σ : Sg} {lv : List (Nat × Value)} {pc nx tgt : Nat} {st : List Value} {a b : Int} (hd : Dj y pc (.if_icmp .ne) nx tgt) (h : -2147483648 ≤ a ∧ a ≤ 2147483647 ∧ -2147483648 ≤ b ∧ b ≤ 2147483647) (kt : ¬ a = b → jv g y F σ lv tgt st) (kf : a = b → jv g y F σ lv nx st) : jv g y F σ lv pc (vi b :: vi a :: st) := by
  obtain ⟨off, hd, rfl, ht⟩ := hd
  intro p e s m args below meth c H locs ls C hP hS hl
  refine lv_icmp_ne C.1 C.2.1 hd ht (fun z => ?_) (fun z => ?_)
  · have h9 : ¬ a = b := fun q => z ((kI_eq h).mpr q)
    exact kt h9 p e s m args below meth c H locs _ C hP hS hl
  · have h9 : a = b := (kI_eq h).mp z
    exact kf h9 p e s m args below meth c H locs _ C hP hS hl
theorem j_if_lt {g : Gl} {y : Mt} {F : Ex} {σ : Sg} {lv : List (Nat × Value)} {pc nx tgt : Nat} {st : List Value} {a : Int} (hd : Dj y pc (.ifCond .lt) nx tgt) (h : -2147483648 ≤ a ∧ a ≤ 2147483647) (kt : a < 0 → jv g y F σ lv tgt st) (kf : ¬ a < 0 → jv g y F σ lv nx st) : jv g y F σ lv pc (vi a :: st) := by
  obtain ⟨off, hd, rfl, ht⟩ := hd
  intro p e s m args below meth c H locs ls C hP hS hl
  have hx := kI_lt (a := a) (b := 0) (by omega)
  exact lv_if_lt C.1 C.2.1 hd ht (fun z => (fun h9 => kt h9 p e s m args below meth c H locs _ C hP hS hl) (hx.mp z)) (fun z => (fun h9 => kf h9 p e s m args below meth c H locs _ C hP hS hl) (fun q => z (hx.mpr q)))
theorem j_if_ge {g : Gl} {y : Mt} {F : Ex} {σ : Sg} {lv : List (Nat × Value)} {pc nx tgt : Nat} {st : List Value} {a : Int} (hd : Dj y pc (.ifCond .ge) nx tgt) (h : -2147483648 ≤ a ∧ a ≤ 2147483647) (kt : 0 ≤ a → jv g y F σ lv tgt st) (kf : ¬ 0 ≤ a → jv g y F σ lv nx st) : jv g y F σ lv pc (vi a :: st) := by
  obtain ⟨off, hd, rfl, ht⟩ := hd
  intro p e s m args below meth c H locs ls C hP hS hl
  have hx := kI_le (a := 0) (b := a) (by omega)
  exact lv_if_ge C.1 C.2.1 hd ht (fun z => (fun h9 => kt h9 p e s m args below meth c H locs _ C hP hS hl) (hx.mp z)) (fun z => (fun h9 => kf h9 p e s m args below meth c H locs _ C hP hS hl) (fun q => z (hx.mpr q)))
theorem j_if_gt {g : Gl} {y : Mt} {F : Ex} {σ : Sg} {lv : List (Nat × Value)} {pc nx tgt : Nat} {st : List Value} {a : Int} (hd : Dj y pc (.ifCond .gt) nx tgt) (h : -2147483648 ≤ a ∧ a ≤ 2147483647) (kt : 0 < a → jv g y F σ lv tgt st) (kf : ¬ 0 < a → jv g y F σ lv nx st) : jv g y F σ lv pc (vi a :: st) := by
  obtain ⟨off, hd, rfl, ht⟩ := hd
  intro p e s m args below meth c H locs ls C hP hS hl
  have hx := kI_lt (a := 0) (b := a) (by omega)
  exact lv_if_gt C.1 C.2.1 hd ht (fun z => (fun h9 => kt h9 p e s m args below meth c H locs _ C hP hS hl) (hx.mp z)) (fun z => (fun h9 => kf h9 p e s m args below meth c H locs _ C hP hS hl) (fun q => z (hx.mpr q)))
theorem j_if_le {g : Gl} {y : Mt} {F : Ex} {σ : Sg} {lv : List (Nat × Value)} {pc nx tgt : Nat} {st : List Value} {a : Int} (hd : Dj y pc (.ifCond .le) nx tgt) (h : -2147483648 ≤ a ∧ a ≤ 2147483647) (kt : a ≤ 0 → jv g y F σ lv tgt st) (kf : ¬ a ≤ 0 → jv g y F σ lv nx st) : jv g y F σ lv pc (vi a :: st) := by
  obtain ⟨off, hd, rfl, ht⟩ := hd
  intro p e s m args below meth c H locs ls C hP hS hl
  have hx := kI_le (a := a) (b := 0) (by omega)
  exact lv_if_le C.1 C.2.1 hd ht (fun z => (fun h9 => kt h9 p e s m args below meth c H locs _ C hP hS hl) (hx.mp z)) (fun z => (fun h9 => kf h9 p e s m args below meth c H locs _ C hP hS hl) (fun q => z (hx.mpr q)))
theorem j_if_eq {g : Gl} {y : Mt} {F : Ex} {σ : Sg} {lv : List (Nat × Value)} {pc nx tgt : Nat} {st : List Value} {a : Int} (hd : Dj y pc (.ifCond .eq) nx tgt) (h : -2147483648 ≤ a ∧ a ≤ 2147483647) (kt : a = 0 → jv g y F σ lv tgt st) (kf : ¬ a = 0 → jv g y F σ lv nx st) : jv g y F σ lv pc (vi a :: st) := by
  obtain ⟨off, hd, rfl, ht⟩ := hd
  intro p e s m args below meth c H locs ls C hP hS hl
  have hx := kI_eq (a := a) (b := 0) (by omega)
  exact lv_if_eq C.1 C.2.1 hd ht (fun z => (fun h9 => kt h9 p e s m args below meth c H locs _ C hP hS hl) (hx.mp z)) (fun z => (fun h9 => kf h9 p e s m args below meth c H locs _ C hP hS hl) (fun q => z (hx.mpr q)))
theorem j_if_ne {g : Gl} {y : Mt} {F : Ex} {σ : Sg} {lv : List (Nat × Value)} {pc nx tgt : Nat} {st : List Value} {a : Int} (hd : Dj y pc (.ifCond .ne) nx tgt) (h : -2147483648 ≤ a ∧ a ≤ 2147483647) (kt : ¬ a = 0 → jv g y F σ lv tgt st) (kf : a = 0 → jv g y F σ lv nx st) : jv g y F σ lv pc (vi a :: st) := by
  obtain ⟨off, hd, rfl, ht⟩ := hd
  intro p e s m args below meth c H locs ls C hP hS hl
  have hx := kI_eq (a := a) (b := 0) (by omega)
  refine lv_if_ne C.1 C.2.1 hd ht (fun z => ?_) (fun z => ?_)
  · have h9 : ¬ a = 0 := fun q => z (hx.mpr q)
    exact kt h9 p e s m args below meth c H locs _ C hP hS hl
  · have h9 : a = 0 := hx.mp z
    exact kf h9 p e s m args below meth c H locs _ C hP hS hl
theorem j_ifeq_0 {g : Gl} {y : Mt} {F : Ex} {σ : Sg} {lv : List (Nat × Value)} {pc nx tgt : Nat} {st : List Value} (hd : Dj y pc (.ifCond .eq) nx tgt) (k : jv g y F σ lv tgt st) : jv g y F σ lv pc (vi 0 :: st) := j_if_eq hd (by omega) (fun _ => k) (fun z => absurd rfl z)
theorem j_ifeq_1 {g : Gl} {y : Mt} {F : Ex} {σ : Sg} {lv : List (Nat × Value)} {pc nx tgt : Nat} {st : List Value} (hd : Dj y pc (.ifCond .eq) nx tgt) (k : jv g y F σ lv nx st) : jv g y F σ lv pc (vi 1 :: st) := j_if_eq hd (by omega) (fun z => absurd z (by decide)) (fun _ => k)
theorem j_ifne_0 {g : Gl} {y : Mt} {F : Ex} {σ : Sg} {lv : List (Nat × Value)} {pc nx tgt : Nat} {st : List Value} (hd : Dj y pc (.ifCond .ne) nx tgt) (k : jv g y F σ lv nx st) : jv g y F σ lv pc (vi 0 :: st) := j_if_ne hd (by omega) (fun z => absurd rfl z) (fun _ => k)
theorem j_ifne_1 {g : Gl} {y : Mt} {F : Ex} {σ : Sg} {lv : List (Nat × Value)} {pc nx tgt : Nat} {st : List Value} (hd : Dj y pc (.ifCond .ne) nx tgt) (k : jv g y F σ lv tgt st) : jv g y F σ lv pc (vi 1 :: st) := j_if_ne hd (by omega) (fun _ => k) (fun z => absurd z (by decide))
theorem j_goto {g : Gl} {y : Mt} {F : Ex} {σ : Sg} {lv : List (Nat × Value)} {pc nx tgt : Nat} {st : List Value} (hd : Dj y pc .goto nx tgt) (k : jv g y F σ lv tgt st) : jv g y F σ lv pc st := by
  obtain ⟨off, hd, rfl, ht⟩ := hd
  intro p e s m args below meth c H locs ls C hP hS hl
  exact lv_goto C.1 C.2.1 hd ht (k p e s m args below meth c H locs _ C hP hS hl)
def sg3 (a b : Int) : Int := if b < a then 1 else if a = b then 0 else -1
theorem kL_cmp {a b : Int} (h : -9223372036854775808 ≤ a ∧ a ≤ 9223372036854775807 ∧ -9223372036854775808 ≤ b ∧ b ≤ 9223372036854775807) : lg_cmp (kL a) (kL b) = kI (sg3 a b) := by
  have h1 := kL_lt h
  have h2 := kL_lt (a := b) (b := a) ⟨h.2.2.1, h.2.2.2, h.1, h.2.1⟩
  have h3 := kL_eq h
  unfold lg_cmp sg3
  by_cases q1 : b < a
  · have q2 : ¬ a < b := by omega
    have q3 : ¬ a = b := by omega
    simp [h1, h2, h3, q1, q2, q3, kI] <;> rfl
  · by_cases q2 : a = b
    · have q3 : ¬ a < b := by omega
      simp [h1, h2, h3, q1, q2, q3, kI] <;> rfl
    · have q3 : a < b := by omega
      simp [h1, h2, h3, q1, q2, q3, kI] <;> rfl
theorem j_lcmp {g : Gl} {y : Mt} {F : Ex} {σ : Sg} {lv : List (Nat × Value)} {pc nx : Nat} {st : List Value} {a b : Int} (h : -9223372036854775808 ≤ a ∧ a ≤ 9223372036854775807 ∧ -9223372036854775808 ≤ b ∧ b ≤ 9223372036854775807) (hd : Dc y pc (.lcmp) 1 nx) (k : jv g y F σ lv nx (vi (sg3 a b) :: st)) : jv g y F σ lv pc (vl b :: vl a :: st) := by
  obtain ⟨hd, rfl⟩ := hd
  intro p e s m args below meth c H locs ls C hP hS hl
  refine W.lcmp C.1 C.2.1 hd ?_
  rw [kL_cmp h]
  exact k p e s m args below meth c H locs _ C hP hS hl
end
section
theorem lay_small : (lay.all fun q => q.2.all fun n => decide (n ≤ 1000)) = true := by decide +kernel
theorem lay_n {k t n : Nat} {r : List Nat} (h : lay[k]? = some (t, n :: r)) : n ≤ 2147483647 := by
  have h1 := List.all_eq_true.mp lay_small _ (List.mem_of_getElem? h)
  have h2 := List.all_eq_true.mp h1 n List.mem_cons_self
  have h3 : n ≤ 1000 := by simpa using h2
  omega
/-- a field's link and its class's tables: to read it -/
def Gf (own : String) (ix ci j : Nat) (ji : Int) : Prop := ∃ (C : String) (T : u_T) (N : Nat), vwCl[ci]? = some (C, T, N) ∧ (∀ w ∈ u_ws C T N, w ∈ tblG) ∧ j < N ∧ Cond.fieldLink own ix (T j).1 (T j).2.1 (T j).2.2.1 ∈ tblG ∧ (j : Int) = ji
/-- and to write it -/
def Pf (own : String) (ix ci j : Nat) (ji : Int) (ty : FieldType) : Prop := ∃ (C : String) (T : u_T) (N : Nat) (ty0 : Nat → FieldType), vwCl[ci]? = some (C, T, N) ∧ (∀ w ∈ u_ws C T N, w ∈ tblG) ∧ j < N ∧ Cond.fieldLink own ix (T j).1 (T j).2.1 (T j).2.2.1 ∈ tblG ∧ (j : Int) = ji ∧ (∀ k, k < N → parseFieldDescriptor (T k).2.2.1 = some (ty0 k)) ∧ (∀ a, a < N → ∀ b, b < N → a ≠ b → (T a).2.1 ≠ (T b).2.1) ∧ (T j).2.2.2 = false ∧ ty0 j = ty
theorem fvs_at {g : Gl} {f : Int → Int} {cs : List Nat} {j c : Nat} (h : cs[j]? = some c) : (cs.mapIdx (fun j c => fv g f j c))[j]? = some (fv g f j c) := by
  simp [List.getElem?_mapIdx, h]
theorem fv_up {g : Gl} {f : Int → Int} {j i c : Nat} {v : Int} (h : i ≠ j) : fv g (up1 f j v) i c = fv g f i c := by
  have h2 : up1 f j v i = f i := up1_ne (by omega)
  match c with
  | 0 => show Value.int (kI (up1 f j v i)) = _; rw [h2]; rfl
  | 1 => show Value.long (kL (up1 f j v i)) = _; rw [h2]; rfl
  | c + 2 => rfl
theorem fvs_set {g : Gl} {f : Int → Int} {cs : List Nat} {j c : Nat} {v : Int} (h : cs[j]? = some c) : (cs.mapIdx (fun j c => fv g f j c)).set j (fv g (up1 f j v) j c) = cs.mapIdx (fun i c => fv g (up1 f j v) i c) := by
  apply List.ext_getElem?
  intro i
  by_cases hi : i = j
  · subst hi
    rw [fvs_at h, List.getElem?_set_self (List.getElem?_eq_some_iff.mp (fvs_at (g := g) (f := f) h)).1]
  · rw [List.getElem?_set_ne (Ne.symm hi)]
    simp only [List.getElem?_mapIdx]
    cases hq : cs[i]? with
    | none => rfl
    | some r => simp only [Option.map_some]; rw [fv_up hi]
theorem wsO_up {g : Gl} {σ : Sg} {k j ci c : Nat} {cs : List Nat} {v : Int} (h : lay[k]? = some (0, ci :: cs)) (hj : cs[j]? = some c) : (wsO g σ).set k (ga g k, .inr (ci, (cs.mapIdx (fun j c => fv g (σ k) j c)).set j (fv g (up1 (σ k) j v) j c))) = wsO g (up σ k j v) := by
  refine wsO_set h ?_ (fun i hi => up_ne hi)
  rw [up_same, fvs_set hj]
  rfl
theorem j_getI {g : Gl} {y : Mt} {F : Ex} {σ : Sg} {lv : List (Nat × Value)} {pc nx : Nat} {st : List Value} {k ci ix j : Nat} {ji : Int} {cs : List Nat} (h : Gf y.1.cls ix ci j ji) (hq : lay[k]? = some (0, ci :: cs)) (hj : cs[j]? = some (0)) (hd : Dc y pc (.getfield ix) 3 nx) (kk : jv g y F σ lv nx (vi (σ k ji) :: st)) : jv g y F σ lv pc (vr g k :: st) := by
  obtain ⟨C0, T, N, h1, h2, h3, h4, rfl⟩ := h
  obtain ⟨hd, rfl⟩ := hd
  intro p e s m args below meth c H locs ls C hP hS hl
  exact va_get C.1 C.2.1 C.2.2.2.2.2.1 h2 C.2.2.2.2.1 C.2.2.2.2.2.2.2.1 hP _ (wsO_at hq) h1 j h3 (C.2.2.2.2.2.1 _ h4) (fun _ z => z) (fvs_at hj) hd (kk p e s m args below meth c H locs _ C hP hS hl)
theorem j_getL {g : Gl} {y : Mt} {F : Ex} {σ : Sg} {lv : List (Nat × Value)} {pc nx : Nat} {st : List Value} {k ci ix j : Nat} {ji : Int} {cs : List Nat} (h : Gf y.1.cls ix ci j ji) (hq : lay[k]? = some (0, ci :: cs)) (hj : cs[j]? = some (1)) (hd : Dc y pc (.getfield ix) 3 nx) (kk : jv g y F σ lv nx (vl (σ k ji) :: st)) : jv g y F σ lv pc (vr g k :: st) := by
  obtain ⟨C0, T, N, h1, h2, h3, h4, rfl⟩ := h
  obtain ⟨hd, rfl⟩ := hd
  intro p e s m args below meth c H locs ls C hP hS hl
  exact va_get C.1 C.2.1 C.2.2.2.2.2.1 h2 C.2.2.2.2.1 C.2.2.2.2.2.2.2.1 hP _ (wsO_at hq) h1 j h3 (C.2.2.2.2.2.1 _ h4) (fun _ z => z) (fvs_at hj) hd (kk p e s m args below meth c H locs _ C hP hS hl)
theorem j_getR {g : Gl} {y : Mt} {F : Ex} {σ : Sg} {lv : List (Nat × Value)} {pc nx : Nat} {st : List Value} {k ci ix j : Nat} {ji : Int} {cs : List Nat} {c : Nat} (h : Gf y.1.cls ix ci j ji) (hq : lay[k]? = some (0, ci :: cs)) (hj : cs[j]? = some (c + 2)) (hd : Dc y pc (.getfield ix) 3 nx) (kk : jv g y F σ lv nx (vr g c :: st)) : jv g y F σ lv pc (vr g k :: st) := by
  obtain ⟨C0, T, N, h1, h2, h3, h4, rfl⟩ := h
  obtain ⟨hd, rfl⟩ := hd
  intro p e s m args below meth c H locs ls C hP hS hl
  exact va_get C.1 C.2.1 C.2.2.2.2.2.1 h2 C.2.2.2.2.1 C.2.2.2.2.2.2.2.1 hP _ (wsO_at hq) h1 j h3 (C.2.2.2.2.2.1 _ h4) (fun _ z => z) (fvs_at hj) hd (kk p e s m args below meth c H locs _ C hP hS hl)
theorem j_putI {g : Gl} {y : Mt} {F : Ex} {σ : Sg} {lv : List (Nat × Value)} {pc nx : Nat} {st : List Value} {k ci ix j : Nat} {ji v : Int} {cs : List Nat} (h : Pf y.1.cls ix ci j ji .int) (hq : lay[k]? = some (0, ci :: cs)) (hj : cs[j]? = some 0) (hd : Dc y pc (.putfield ix) 3 nx) (kk : jv g y F (up σ k ji v) lv nx st) : jv g y F σ lv pc (vi v :: vr g k :: st) := by
  obtain ⟨C0, T, N, ty0, h1, h2, h3, h4, rfl, h5, h6, h7, h8⟩ := h
  obtain ⟨hd, rfl⟩ := hd
  intro p e s m args below meth c H locs ls C hP hS hl
  have hDD := wsO_D (g := g) (σ := σ) C.2.2.2.2.2.2.2.2.1 C.2.2.2.2.2.2.2.2.2.2.1
  refine va_put C.1 C.2.1 C.2.2.2.2.2.1 h2 ty0 h5 h6 C.2.2.2.2.1 C.2.2.2.2.2.2.2.1 hP hDD hS _ (wsO_at hq) h1 j h3 (C.2.2.2.2.2.1 _ h4) (fun _ z => z) h7 (by rw [h5 j h3, h8]) rfl rfl (by simpa using (List.getElem?_eq_some_iff.mp hj).1) hd (fun H1 locs1 hP1 _ hS1 => ?_)
  have e1 : (.int (kI v) : Value) = fv g (up1 (σ k) j v) j 0 := by show _ = Value.int (kI (up1 (σ k) j v j)); rw [up1_same]
  have hP2 : va_P g.2.1 vwCl (wsO g (up σ k j v)) H1 := by
    rw [← wsO_up hq hj, ← e1]
    exact hP1
  exact kk p e s m args below meth c H1 locs1 _ C hP2 hS1 hl
theorem j_putL {g : Gl} {y : Mt} {F : Ex} {σ : Sg} {lv : List (Nat × Value)} {pc nx : Nat} {st : List Value} {k ci ix j : Nat} {ji v : Int} {cs : List Nat} (h : Pf y.1.cls ix ci j ji .long) (hq : lay[k]? = some (0, ci :: cs)) (hj : cs[j]? = some 1) (hd : Dc y pc (.putfield ix) 3 nx) (kk : jv g y F (up σ k ji v) lv nx st) : jv g y F σ lv pc (vl v :: vr g k :: st) := by
  obtain ⟨C0, T, N, ty0, h1, h2, h3, h4, rfl, h5, h6, h7, h8⟩ := h
  obtain ⟨hd, rfl⟩ := hd
  intro p e s m args below meth c H locs ls C hP hS hl
  have hDD := wsO_D (g := g) (σ := σ) C.2.2.2.2.2.2.2.2.1 C.2.2.2.2.2.2.2.2.2.2.1
  refine va_put C.1 C.2.1 C.2.2.2.2.2.1 h2 ty0 h5 h6 C.2.2.2.2.1 C.2.2.2.2.2.2.2.1 hP hDD hS _ (wsO_at hq) h1 j h3 (C.2.2.2.2.2.1 _ h4) (fun _ z => z) h7 (by rw [h5 j h3, h8]) rfl rfl (by simpa using (List.getElem?_eq_some_iff.mp hj).1) hd (fun H1 locs1 hP1 _ hS1 => ?_)
  have e1 : (.long (kL v) : Value) = fv g (up1 (σ k) j v) j 1 := by show _ = Value.long (kL (up1 (σ k) j v j)); rw [up1_same]
  have hP2 : va_P g.2.1 vwCl (wsO g (up σ k j v)) H1 := by
    rw [← wsO_up hq hj, ← e1]
    exact hP1
  exact kk p e s m args below meth c H1 locs1 _ C hP2 hS1 hl
theorem j_putZ {g : Gl} {y : Mt} {F : Ex} {σ : Sg} {lv : List (Nat × Value)} {pc nx : Nat} {st : List Value} {k ci ix j : Nat} {ji v : Int} {cs : List Nat} (hv : v = 0 ∨ v = 1) (h : Pf y.1.cls ix ci j ji .boolean) (hq : lay[k]? = some (0, ci :: cs)) (hj : cs[j]? = some 0) (hd : Dc y pc (.putfield ix) 3 nx) (kk : jv g y F (up σ k ji v) lv nx st) : jv g y F σ lv pc (vi v :: vr g k :: st) := by
  obtain ⟨C0, T, N, ty0, h1, h2, h3, h4, rfl, h5, h6, h7, h8⟩ := h
  obtain ⟨hd, rfl⟩ := hd
  intro p e s m args below meth c H locs ls C hP hS hl
  have hDD := wsO_D (g := g) (σ := σ) C.2.2.2.2.2.2.2.2.1 C.2.2.2.2.2.2.2.2.2.2.1
  refine va_put C.1 C.2.1 C.2.2.2.2.2.1 h2 ty0 h5 h6 C.2.2.2.2.1 C.2.2.2.2.2.2.2.1 hP hDD hS _ (wsO_at hq) h1 j h3 (C.2.2.2.2.2.1 _ h4) (fun _ z => z) h7 (by rw [h5 j h3, h8]) (by rcases hv with rfl | rfl <;> decide) (by rcases hv with rfl | rfl <;> decide) (by simpa using (List.getElem?_eq_some_iff.mp hj).1) hd (fun H1 locs1 hP1 _ hS1 => ?_)
  have e1 : (.int (kI v) : Value) = fv g (up1 (σ k) j v) j 0 := by show _ = Value.int (kI (up1 (σ k) j v j)); rw [up1_same]
  have hP2 : va_P g.2.1 vwCl (wsO g (up σ k j v)) H1 := by
    rw [← wsO_up hq hj, ← e1]
    exact hP1
  exact kk p e s m args below meth c H1 locs1 _ C hP2 hS1 hl
theorem ar_I {f : Int → Int} {i x : Int} {n : Nat} (h : ((n : Nat) : Int) = i) : upd (fun j : Nat => kI (f j)) n (kI x) = fun j : Nat => kI (up1 f i x j) := by
  funext j
  unfold upd up1
  by_cases hj : j = n
  · subst hj; rw [if_pos rfl, if_pos h]
  · rw [if_neg hj, if_neg (by omega)]
theorem ar_L {f : Int → Int} {i x : Int} {n : Nat} (h : ((n : Nat) : Int) = i) : vp_updL (fun j : Nat => kL (f j)) n (kL x) = fun j : Nat => kL (up1 f i x j) := by
  funext j
  unfold vp_updL up1
  by_cases hj : j = n
  · subst hj; rw [if_pos rfl, if_pos h]
  · rw [if_neg hj, if_neg (by omega)]
theorem j_iald {g : Gl} {y : Mt} {F : Ex} {σ : Sg} {lv : List (Nat × Value)} {pc nx : Nat} {st : List Value} {k n : Nat} {i : Int} (hq : lay[k]? = some (1, [n])) (hi : 0 ≤ i ∧ i < (n : Int)) (hd : Dc y pc (.iaload) 1 nx) (kk : jv g y F σ lv nx (vi (σ k i) :: st)) : jv g y F σ lv pc (vi i :: vr g k :: st) := by
  obtain ⟨hd, rfl⟩ := hd
  intro p e s m args below meth c H locs ls C hP hS hl
  obtain ⟨h1, h2⟩ := kI_clamp hi (lay_n hq)
  refine va_iald C.1 C.2.1 C.2.2.2.2.2.2.2.1 hP _ 0 (wsO_at hq) rfl h1 hd ?_
  try dsimp only
  rw [h2]
  exact kk p e s m args below meth c H locs _ C hP hS hl
theorem j_iast {g : Gl} {y : Mt} {F : Ex} {σ : Sg} {lv : List (Nat × Value)} {pc nx : Nat} {st : List Value} {k n : Nat} {i x : Int} (hq : lay[k]? = some (1, [n])) (hi : 0 ≤ i ∧ i < (n : Int)) (hd : Dc y pc (.iastore) 1 nx) (kk : jv g y F (up σ k i x) lv nx st) : jv g y F σ lv pc (vi x :: vi i :: vr g k :: st) := by
  obtain ⟨hd, rfl⟩ := hd
  intro p e s m args below meth c H locs ls C hP hS hl
  obtain ⟨h1, h2⟩ := kI_clamp hi (lay_n hq)
  have hDD := wsO_D (g := g) (σ := σ) C.2.2.2.2.2.2.2.2.1 C.2.2.2.2.2.2.2.2.2.2.1
  refine va_iast C.1 C.2.1 C.2.2.2.2.2.2.2.1 hP hDD hS _ 0 (wsO_at hq) rfl h1 hd (fun H1 locs1 hP1 _ hS1 => ?_)
  have e2 := wsO_set (g := g) (σ := σ) (σ' := up σ k i x) (E := .inl (g.2.2.2.1 0, n, .inl (upd (fun j : Nat => kI (σ k j)) (kI i).toNatClampNeg (kI x)))) hq (by rw [up_same, ar_I h2]; rfl) (fun j hj => up_ne hj)
  have hP2 : va_P g.2.1 vwCl (wsO g (up σ k i x)) H1 := by
    rw [← e2]
    exact hP1
  exact kk p e s m args below meth c H1 locs1 _ C hP2 hS1 hl
theorem j_lald {g : Gl} {y : Mt} {F : Ex} {σ : Sg} {lv : List (Nat × Value)} {pc nx : Nat} {st : List Value} {k n : Nat} {i : Int} (hq : lay[k]? = some (2, [n])) (hi : 0 ≤ i ∧ i < (n : Int)) (hd : Dc y pc (.laload) 1 nx) (kk : jv g y F σ lv nx (vl (σ k i) :: st)) : jv g y F σ lv pc (vi i :: vr g k :: st) := by
  obtain ⟨hd, rfl⟩ := hd
  intro p e s m args below meth c H locs ls C hP hS hl
  obtain ⟨h1, h2⟩ := kI_clamp hi (lay_n hq)
  refine va_lald C.1 C.2.1 C.2.2.2.2.2.2.2.1 hP _ 1 (wsO_at hq) rfl h1 hd ?_
  try dsimp only
  rw [h2]
  exact kk p e s m args below meth c H locs _ C hP hS hl
theorem j_last {g : Gl} {y : Mt} {F : Ex} {σ : Sg} {lv : List (Nat × Value)} {pc nx : Nat} {st : List Value} {k n : Nat} {i x : Int} (hq : lay[k]? = some (2, [n])) (hi : 0 ≤ i ∧ i < (n : Int)) (hd : Dc y pc (.lastore) 1 nx) (kk : jv g y F (up σ k i x) lv nx st) : jv g y F σ lv pc (vl x :: vi i :: vr g k :: st) := by
  obtain ⟨hd, rfl⟩ := hd
  intro p e s m args below meth c H locs ls C hP hS hl
  obtain ⟨h1, h2⟩ := kI_clamp hi (lay_n hq)
  have hDD := wsO_D (g := g) (σ := σ) C.2.2.2.2.2.2.2.2.1 C.2.2.2.2.2.2.2.2.2.2.1
  refine va_last C.1 C.2.1 C.2.2.2.2.2.2.2.1 hP hDD hS _ 1 (wsO_at hq) rfl h1 hd (fun H1 locs1 hP1 _ hS1 => ?_)
  have e2 := wsO_set (g := g) (σ := σ) (σ' := up σ k i x) (E := .inl (g.2.2.2.1 1, n, .inr <| .inl (vp_updL (fun j : Nat => kL (σ k j)) (kI i).toNatClampNeg (kL x)))) hq (by rw [up_same, ar_L h2]; rfl) (fun j hj => up_ne hj)
  have hP2 : va_P g.2.1 vwCl (wsO g (up σ k i x)) H1 := by
    rw [← e2]
    exact hP1
  exact kk p e s m args below meth c H1 locs1 _ C hP2 hS1 hl
theorem j_zald {g : Gl} {y : Mt} {F : Ex} {σ : Sg} {lv : List (Nat × Value)} {pc nx : Nat} {st : List Value} {k n : Nat} {i : Int} (hq : lay[k]? = some (3, [n])) (hi : 0 ≤ i ∧ i < (n : Int)) (hd : Dc y pc (.baload) 1 nx) (kk : jv g y F σ lv nx (vi (σ k i) :: st)) : jv g y F σ lv pc (vi i :: vr g k :: st) := by
  obtain ⟨hd, rfl⟩ := hd
  intro p e s m args below meth c H locs ls C hP hS hl
  obtain ⟨h1, h2⟩ := kI_clamp hi (lay_n hq)
  refine va_zald C.1 C.2.1 C.2.2.2.2.2.2.2.1 hP _ 2 (wsO_at hq) rfl h1 hd ?_
  try dsimp only
  rw [h2]
  exact kk p e s m args below meth c H locs _ C hP hS hl
theorem j_zast {g : Gl} {y : Mt} {F : Ex} {σ : Sg} {lv : List (Nat × Value)} {pc nx : Nat} {st : List Value} {k n : Nat} {i x : Int} (hv : x = 0 ∨ x = 1) (hq : lay[k]? = some (3, [n])) (hi : 0 ≤ i ∧ i < (n : Int)) (hd : Dc y pc (.bastore) 1 nx) (kk : jv g y F (up σ k i x) lv nx st) : jv g y F σ lv pc (vi x :: vi i :: vr g k :: st) := by
  obtain ⟨hd, rfl⟩ := hd
  intro p e s m args below meth c H locs ls C hP hS hl
  obtain ⟨h1, h2⟩ := kI_clamp hi (lay_n hq)
  have hDD := wsO_D (g := g) (σ := σ) C.2.2.2.2.2.2.2.2.1 C.2.2.2.2.2.2.2.2.2.2.1
  refine va_zast C.1 C.2.1 C.2.2.2.2.2.2.2.1 hP hDD hS _ 2 (wsO_at hq) rfl h1 hd (fun H1 locs1 hP1 _ hS1 => ?_)
  rw [show vp_nar .boolean (kI x) = kI x from by rcases hv with rfl | rfl <;> decide] at hP1
  have e2 := wsO_set (g := g) (σ := σ) (σ' := up σ k i x) (E := .inl (g.2.2.2.1 2, n, .inl (upd (fun j : Nat => kI (σ k j)) (kI i).toNatClampNeg (kI x)))) hq (by rw [up_same, ar_I h2]; rfl) (fun j hj => up_ne hj)
  have hP2 : va_P g.2.1 vwCl (wsO g (up σ k i x)) H1 := by
    rw [← e2]
    exact hP1
  exact kk p e s m args below meth c H1 locs1 _ C hP2 hS1 hl
theorem j_alen {g : Gl} {y : Mt} {F : Ex} {σ : Sg} {lv : List (Nat × Value)} {pc nx : Nat} {st : List Value} {k t n : Nat} (ht : t = 1 ∨ t = 2) (hq : lay[k]? = some (t, [n])) (hd : Dc y pc (.arraylength) 1 nx) (kk : jv g y F σ lv nx (vi (n : Int) :: st)) : jv g y F σ lv pc (vr g k :: st) := by
  obtain ⟨hd, rfl⟩ := hd
  intro p e s m args below meth c H locs ls C hP hS hl
  rcases ht with rfl | rfl
  · exact va_alen C.1 C.2.1 C.2.2.2.2.2.2.2.1 hP _ 0 (wsO_at hq) rfl (by rw [← Int32.ofInt_eq_ofNat]; rfl) hd (kk p e s m args below meth c H locs _ C hP hS hl)
  · exact va_alen C.1 C.2.1 C.2.2.2.2.2.2.2.1 hP _ 1 (wsO_at hq) rfl (by rw [← Int32.ofInt_eq_ofNat]; rfl) hd (kk p e s m args below meth c H locs _ C hP hS hl)
theorem j_alenR {g : Gl} {y : Mt} {F : Ex} {σ : Sg} {lv : List (Nat × Value)} {pc nx : Nat} {st : List Value} {k : Nat} {cs : List Nat} (hq : lay[k]? = some (4, cs)) (hd : Dc y pc (.arraylength) 1 nx) (kk : jv g y F σ lv nx (vi (cs.length : Int) :: st)) : jv g y F σ lv pc (vr g k :: st) := by
  obtain ⟨hd, rfl⟩ := hd
  intro p e s m args below meth c H locs ls C hP hS hl
  exact va_alen C.1 C.2.1 C.2.2.2.2.2.2.2.1 hP _ 3 (wsO_at hq) rfl (by rw [← Int32.ofInt_eq_ofNat]; rfl) hd (kk p e s m args below meth c H locs _ C hP hS hl)
theorem j_aald {g : Gl} {y : Mt} {F : Ex} {σ : Sg} {lv : List (Nat × Value)} {pc nx : Nat} {st : List Value} {k r : Nat} {i : Int} {cs : List Nat} (hq : lay[k]? = some (4, cs)) (hi : 0 ≤ i ∧ i < (cs.length : Int)) (hr : cs[i.toNat]? = some r) (hd : Dc y pc (.aaload) 1 nx) (kk : jv g y F σ lv nx (vr g r :: st)) : jv g y F σ lv pc (vi i :: vr g k :: st) := by
  obtain ⟨hd, rfl⟩ := hd
  intro p e s m args below meth c H locs ls C hP hS hl
  have hc : cs.length ≤ 2147483647 := by
    have h1 : (lay.all fun q => decide (q.2.length ≤ 1000)) = true := by decide +kernel
    have h2 := List.all_eq_true.mp h1 _ (List.mem_of_getElem? hq)
    have h3 : cs.length ≤ 1000 := by simpa using h2
    omega
  obtain ⟨h1, h2⟩ := kI_clamp hi hc
  refine va_aldq C.1 C.2.1 C.2.2.2.2.2.2.2.1 hP _ 3 (wsO_at hq) rfl h1 hd ?_
  rw [show (kI i).toNatClampNeg = i.toNat from by omega, hr]
  exact kk p e s m args below meth c H locs _ C hP hS hl
theorem j_ways {g : Gl} {y : Mt} {F : Ex} {σ : Sg} {lv : List (Nat × Value)} {pc nx : Nat} {st : List Value} (ho : y.1.cls = "ControlSigns$Row") (hd : Dc y pc (.getstatic 80) 3 nx) (kk : jv g y F σ lv nx (.ref g.2.2.2.2.2 :: st)) : jv g y F σ lv pc st := by
  obtain ⟨hd, rfl⟩ := hd
  intro p e s m args below meth c H locs ls C hP hS hl
  have hE := C.2.2.2.2.2.2.2.2.2.1
  have ho2 := C.2.2.2.2.1
  rw [ho] at ho2
  exact va_getsN C.1 C.2.1 hE.1 hS ho2 (va_Nw.use rfl hE.2.2.2.2.2.2) (fun _ z => z) hd (kk p e s m args below meth c H locs _ C hP hS hl)
theorem j_wlen {g : Gl} {y : Mt} {F : Ex} {σ : Sg} {lv : List (Nat × Value)} {pc nx : Nat} {st : List Value} (hd : Dc y pc (.arraylength) 1 nx) (kk : jv g y F σ lv nx (vi 64 :: st)) : jv g y F σ lv pc (.ref g.2.2.2.2.2 :: st) := by
  obtain ⟨hd, rfl⟩ := hd
  intro p e s m args below meth c H locs ls C hP hS hl
  exact va_tlen C.1 C.2.1 C.2.2.2.2.2.2.2.2.2.1.2.1 hS rfl hd (kk p e s m args below meth c H locs _ C hP hS hl)
theorem j_wald {g : Gl} {y : Mt} {F : Ex} {σ : Sg} {lv : List (Nat × Value)} {pc nx : Nat} {st : List Value} {i : Int} (hi : 0 ≤ i ∧ i < 64) (hd : Dc y pc (.iaload) 1 nx) (kk : jv g y F σ lv nx (vi (waysL.getD i.toNat 0) :: st)) : jv g y F σ lv pc (vi i :: .ref g.2.2.2.2.2 :: st) := by
  obtain ⟨hd, rfl⟩ := hd
  intro p e s m args below meth c H locs ls C hP hS hl
  obtain ⟨h1, h2⟩ := kI_clamp (n := 64) hi (by decide)
  exact va_ti C.1 C.2.1 C.2.2.2.2.2.2.2.2.2.1.2.1 hS h1 (by rw [show (kI i).toNatClampNeg = i.toNat from by omega]) hd (kk p e s m args below meth c H locs _ C hP hS hl)
theorem j_slen {g : Gl} {y : Mt} {F : Ex} {σ : Sg} {lv : List (Nat × Value)} {pc nx : Nat} {st : List Value} (hd : Dc y pc (.arraylength) 1 nx) (kk : jv g y F σ lv nx (vi (g.2.2.2.2.1.2.1 : Int) :: st)) : jv g y F σ lv pc (.ref g.2.2.2.2.1.1 :: st) := by
  obtain ⟨hd, rfl⟩ := hd
  intro p e s m args below meth c H locs ls C hP hS hl
  have hE := C.2.2.2.2.2.2.2.2.2.1
  refine va_slen C.1 C.2.1 hE.2.2.1 hE.2.2.2.1 hE.2.2.2.2.1 hS hd ?_
  rw [← Int32.ofInt_eq_ofNat]
  exact kk p e s m args below meth c H locs _ C hP hS hl
theorem j_sald {g : Gl} {y : Mt} {F : Ex} {σ : Sg} {lv : List (Nat × Value)} {pc nx : Nat} {st : List Value} {i : Int} (hL : g.2.2.2.2.1.2.1 ≤ 2147483647) (hi : 0 ≤ i ∧ i < (g.2.2.2.2.1.2.1 : Int)) (hd : Dc y pc (.iaload) 1 nx) (kk : jv g y F σ lv nx (vi (g.2.2.2.2.1.2.2 i.toNat).toInt :: st)) : jv g y F σ lv pc (vi i :: .ref g.2.2.2.2.1.1 :: st) := by
  obtain ⟨hd, rfl⟩ := hd
  intro p e s m args below meth c H locs ls C hP hS hl
  have hE := C.2.2.2.2.2.2.2.2.2.1
  obtain ⟨h1, h2⟩ := kI_clamp hi hL
  refine va_sld C.1 C.2.1 hE.2.2.1 hE.2.2.2.1 hE.2.2.2.2.1 hS h1 hd ?_
  rw [show (kI i).toNatClampNeg = i.toNat from by omega, ← kI_of (g.2.2.2.2.1.2.2 i.toNat)]
  exact kk p e s m args below meth c H locs _ C hP hS hl
theorem j_minI {g : Gl} {y : Mt} {F : Ex} {σ : Sg} {lv : List (Nat × Value)} {pc nx : Nat} {st : List Value} {ix : Nat} {a b : Int} (h : -2147483648 ≤ a ∧ a ≤ 2147483647 ∧ -2147483648 ≤ b ∧ b ≤ 2147483647) (hw : Cond.methodLink y.1.cls ix Lib.Math.min.name ∈ tblG ∧ Cond.static Lib.Math.min.name ∈ tblG ∧ Cond.initialized "java/lang/Math" ∈ tblG ∧ Cond.code Lib.Math.min.name Lib.Math.min.code 2 (some .int) ∈ tblG) (hf : 1 ≤ y.2.2.2.2.frames) (hlo : (st.map fun v => v.category).sum + 13 ≤ y.2.2.2.2.locals) (hd : Dc y pc (.invokestatic ix) 3 nx) (kk : jv g y F σ lv nx (vi (if b < a then b else a) :: st)) : jv g y F σ lv pc (vi b :: vi a :: st) := by
  obtain ⟨hd, rfl⟩ := hd
  intro p e s m args below meth c H locs ls C hP hS hl
  have hT := C.2.2.2.2.2.1
  refine va_mmin C.1 C.2.1 (C.2.2.1.trans hl.1.symm) C.2.2.2.2.1 (hT _ hw.1) (hT _ hw.2.1) (hT _ hw.2.2.1) (hT _ hw.2.2.2) hf hlo C.2.2.2.2.2.2.2.2.2.2.2.1 C.2.2.2.2.2.2.2.2.2.2.2.2 hd ?_
  have e1 : (if kI b < kI a then kI b else kI a) = kI (if b < a then b else a) := by
    have hx := kI_lt (a := b) (b := a) (by omega)
    by_cases q : b < a
    · rw [if_pos (hx.mpr q), if_pos q]
    · rw [if_neg (fun z => q (hx.mp z)), if_neg q]
  rw [e1]
  exact kk p e s m args below meth c H locs _ C hP hS hl
theorem j_minL {g : Gl} {y : Mt} {F : Ex} {σ : Sg} {lv : List (Nat × Value)} {pc nx : Nat} {st : List Value} {ix : Nat} {a b : Int} (h : -9223372036854775808 ≤ a ∧ a ≤ 9223372036854775807 ∧ -9223372036854775808 ≤ b ∧ b ≤ 9223372036854775807) (hw : Cond.methodLink y.1.cls ix Lib.MathLoose.min_long.x ∈ tblG ∧ Cond.static Lib.MathLoose.min_long.x ∈ tblG ∧ Cond.initialized "java/lang/Math" ∈ tblG ∧ Cond.code Lib.MathLoose.min_long.x Lib.MathLoose.min_long.code 4 (some .long) ∈ tblG) (hf : 1 ≤ y.2.2.2.2.frames) (hlo : (st.map fun v => v.category).sum + 15 ≤ y.2.2.2.2.locals) (hd : Dc y pc (.invokestatic ix) 3 nx) (kk : jv g y F σ lv nx (vl (if b < a then b else a) :: st)) : jv g y F σ lv pc (vl b :: vl a :: st) := by
  obtain ⟨hd, rfl⟩ := hd
  intro p e s m args below meth c H locs ls C hP hS hl
  have hT := C.2.2.2.2.2.1
  refine va_mmin_long C.1 C.2.1 (C.2.2.1.trans hl.1.symm) C.2.2.2.2.1 (hT _ hw.1) (hT _ hw.2.1) (hT _ hw.2.2.1) (hT _ hw.2.2.2) hf hlo C.2.2.2.2.2.2.2.2.2.2.2.1 C.2.2.2.2.2.2.2.2.2.2.2.2 hd ?_
  have e1 : (if kL b < kL a then kL b else kL a) = kL (if b < a then b else a) := by
    have hx := kL_lt (a := b) (b := a) (by omega)
    by_cases q : b < a
    · rw [if_pos (hx.mpr q), if_pos q]
    · rw [if_neg (fun z => q (hx.mp z)), if_neg q]
  rw [e1]
  exact kk p e s m args below meth c H locs _ C hP hS hl
theorem j_absL {g : Gl} {y : Mt} {F : Ex} {σ : Sg} {lv : List (Nat × Value)} {pc nx : Nat} {st : List Value} {ix : Nat} {a : Int} (h : -9223372036854775808 ≤ a ∧ a ≤ 9223372036854775807) (hw : Cond.methodLink y.1.cls ix Lib.MathLoose.abs_long.x ∈ tblG ∧ Cond.static Lib.MathLoose.abs_long.x ∈ tblG ∧ Cond.initialized "java/lang/Math" ∈ tblG ∧ Cond.code Lib.MathLoose.abs_long.x Lib.MathLoose.abs_long.code 2 (some .long) ∈ tblG) (hf : 1 ≤ y.2.2.2.2.frames) (hlo : (st.map fun v => v.category).sum + 13 ≤ y.2.2.2.2.locals) (hd : Dc y pc (.invokestatic ix) 3 nx) (kk : jv g y F σ lv nx (vl (if 0 < a then a else -a) :: st)) : jv g y F σ lv pc (vl a :: st) := by
  obtain ⟨hd, rfl⟩ := hd
  intro p e s m args below meth c H locs ls C hP hS hl
  have hT := C.2.2.2.2.2.1
  refine va_mabs_long C.1 C.2.1 (C.2.2.1.trans hl.1.symm) C.2.2.2.2.1 (hT _ hw.1) (hT _ hw.2.1) (hT _ hw.2.2.1) (hT _ hw.2.2.2) hf hlo C.2.2.2.2.2.2.2.2.2.2.2.1 C.2.2.2.2.2.2.2.2.2.2.2.2 hd ?_
  have e1 : (if 0 < kL a then kL a else - kL a) = kL (if 0 < a then a else -a) := by
    have hx : (0 : Int64) < kL a ↔ 0 < a := kL_lt (a := 0) (b := a) (by omega)
    by_cases q : 0 < a
    · rw [if_pos (hx.mpr q), if_pos q]
    · rw [if_neg (fun z => q (hx.mp z)), if_neg q]
      exact (Int64.ofInt_neg a).symm
  rw [e1]
  exact kk p e s m args below meth c H locs _ C hP hS hl
def cp1 (f h : Int → Int) (sp dp n : Int) : Int → Int := fun i => if dp ≤ i ∧ i < dp + n then f (sp + (i - dp)) else h i
def cpy (σ : Sg) (k0 : Nat) (sp : Int) (k1 : Nat) (dp n : Int) : Sg := fun k => if k = k1 then cp1 (σ k0) (σ k1) sp dp n else σ k
theorem j_copyI {g : Gl} {y : Mt} {F : Ex} {σ : Sg} {lv : List (Nat × Value)} {pc nx : Nat} {st : List Value} {ix k0 k1 n0 n1 : Nat} {sp dp n : Int} (hq0 : lay[k0]? = some (1, [n0])) (hq1 : lay[k1]? = some (1, [n1])) (h : 0 ≤ sp ∧ 0 ≤ dp ∧ 0 ≤ n ∧ sp + n ≤ (n0 : Int) ∧ dp + n ≤ (n1 : Int)) (hw : Cond.methodLink y.1.cls ix arraycopyName ∈ tblG ∧ Cond.native arraycopyName ∈ tblG ∧ Cond.static arraycopyName ∈ tblG ∧ Cond.initialized "java/lang/System" ∈ tblG) (hf : 1 ≤ y.2.2.2.2.frames) (hlo : (st.map fun v => v.category).sum + (nativeFrameWords "java/lang/System" "arraycopy" 5 + 11) ≤ y.2.2.2.2.locals) (hd : Dc y pc (.invokestatic ix) 3 nx) (kk : jv g y F (cpy σ k0 sp k1 dp n) lv nx st) : jv g y F σ lv pc (vi n :: vi dp :: vr g k1 :: vi sp :: vr g k0 :: st) := by
  obtain ⟨hd, rfl⟩ := hd
  intro p e s m args below meth c H locs ls C hP hS hl
  have hT := C.2.2.2.2.2.1
  have m0 := lay_n hq0
  have m1 := lay_n hq1
  have cl : ∀ i : Int, 0 ≤ i → i ≤ 2147483647 → ¬ kI i < 0 ∧ (((kI i).toNatClampNeg : Nat) : Int) = i := by
    intro i a b
    have h1 : (kI i).toInt = i := kI_toInt (by omega) (by omega)
    refine ⟨fun z => ?_, ?_⟩
    · have := (kI_lt (a := i) (b := 0) (by omega)).mp z
      omega
    · show (((kI i).toInt.toNat : Nat) : Int) = i
      rw [h1]
      omega
  obtain ⟨a1, a2⟩ := cl sp (by omega) (by omega)
  obtain ⟨b1, b2⟩ := cl dp (by omega) (by omega)
  obtain ⟨c1, c2⟩ := cl n (by omega) (by omega)
  have hDD := wsO_D (g := g) (σ := σ) C.2.2.2.2.2.2.2.2.1 C.2.2.2.2.2.2.2.2.2.2.1
  refine va_copyi C.1 C.2.1 (C.2.2.1.trans hl.1.symm) C.2.2.2.2.1 (hT _ hw.1) (hT _ hw.2.1) (hT _ hw.2.2.1) (hT _ hw.2.2.2) C.2.2.2.2.2.2.2.1 hP hDD hS _ _ 0 0 (wsO_at hq0) (wsO_at hq1) rfl rfl rfl a1 b1 c1 (by show (kI sp).toNatClampNeg + (kI n).toNatClampNeg ≤ n0; omega) (by show (kI dp).toNatClampNeg + (kI n).toNatClampNeg ≤ n1; omega) (fun i _ => rfl) hf hlo hd (fun H1 locs1 hP1 _ hS1 => ?_)
  have e1 : va_cpy (fun j : Nat => kI (σ k0 j)) (fun j : Nat => kI (σ k1 j)) (kI sp).toNatClampNeg (kI dp).toNatClampNeg (kI n).toNatClampNeg = fun j : Nat => kI (cp1 (σ k0) (σ k1) sp dp n j) := by
    funext j
    unfold va_cpy cp1
    by_cases q : dp ≤ (j : Int) ∧ (j : Int) < dp + n
    · rw [if_pos q, if_pos (by omega)]
      show kI (σ k0 (((kI sp).toNatClampNeg + (j - (kI dp).toNatClampNeg) : Nat) : Int)) = _
      rw [show (((kI sp).toNatClampNeg + (j - (kI dp).toNatClampNeg) : Nat) : Int) = sp + ((j : Int) - dp) from by omega]
    · rw [if_neg q, if_neg (by omega)]
  have e3 : cpy σ k0 sp k1 dp n k1 = cp1 (σ k0) (σ k1) sp dp n := if_pos rfl
  have e2 := wsO_set (g := g) (σ := σ) (σ' := cpy σ k0 sp k1 dp n) (E := .inl (g.2.2.2.1 0, n1, .inl (va_cpy (fun j : Nat => kI (σ k0 j)) (fun j : Nat => kI (σ k1 j)) (kI sp).toNatClampNeg (kI dp).toNatClampNeg (kI n).toNatClampNeg))) hq1 (by rw [e3, e1]; rfl) (fun j hj => if_neg hj)
  have hP2 : va_P g.2.1 vwCl (wsO g (cpy σ k0 sp k1 dp n)) H1 := by
    rw [← e2]
    exact hP1
  exact kk p e s m args below meth c H1 locs1 _ C hP2 hS1 hl
theorem j_copyL {g : Gl} {y : Mt} {F : Ex} {σ : Sg} {lv : List (Nat × Value)} {pc nx : Nat} {st : List Value} {ix k0 k1 n0 n1 : Nat} {sp dp n : Int} (hq0 : lay[k0]? = some (2, [n0])) (hq1 : lay[k1]? = some (2, [n1])) (h : 0 ≤ sp ∧ 0 ≤ dp ∧ 0 ≤ n ∧ sp + n ≤ (n0 : Int) ∧ dp + n ≤ (n1 : Int)) (hw : Cond.methodLink y.1.cls ix arraycopyName ∈ tblG ∧ Cond.native arraycopyName ∈ tblG ∧ Cond.static arraycopyName ∈ tblG ∧ Cond.initialized "java/lang/System" ∈ tblG) (hf : 1 ≤ y.2.2.2.2.frames) (hlo : (st.map fun v => v.category).sum + (nativeFrameWords "java/lang/System" "arraycopy" 5 + 11) ≤ y.2.2.2.2.locals) (hd : Dc y pc (.invokestatic ix) 3 nx) (kk : jv g y F (cpy σ k0 sp k1 dp n) lv nx st) : jv g y F σ lv pc (vi n :: vi dp :: vr g k1 :: vi sp :: vr g k0 :: st) := by
  obtain ⟨hd, rfl⟩ := hd
  intro p e s m args below meth c H locs ls C hP hS hl
  have hT := C.2.2.2.2.2.1
  have m0 := lay_n hq0
  have m1 := lay_n hq1
  have cl : ∀ i : Int, 0 ≤ i → i ≤ 2147483647 → ¬ kI i < 0 ∧ (((kI i).toNatClampNeg : Nat) : Int) = i := by
    intro i a b
    have h1 : (kI i).toInt = i := kI_toInt (by omega) (by omega)
    refine ⟨fun z => ?_, ?_⟩
    · have := (kI_lt (a := i) (b := 0) (by omega)).mp z
      omega
    · show (((kI i).toInt.toNat : Nat) : Int) = i
      rw [h1]
      omega
  obtain ⟨a1, a2⟩ := cl sp (by omega) (by omega)
  obtain ⟨b1, b2⟩ := cl dp (by omega) (by omega)
  obtain ⟨c1, c2⟩ := cl n (by omega) (by omega)
  have hDD := wsO_D (g := g) (σ := σ) C.2.2.2.2.2.2.2.2.1 C.2.2.2.2.2.2.2.2.2.2.1
  refine va_copyl C.1 C.2.1 (C.2.2.1.trans hl.1.symm) C.2.2.2.2.1 (hT _ hw.1) (hT _ hw.2.1) (hT _ hw.2.2.1) (hT _ hw.2.2.2) C.2.2.2.2.2.2.2.1 hP hDD hS _ _ 1 1 (wsO_at hq0) (wsO_at hq1) rfl rfl rfl a1 b1 c1 (by show (kI sp).toNatClampNeg + (kI n).toNatClampNeg ≤ n0; omega) (by show (kI dp).toNatClampNeg + (kI n).toNatClampNeg ≤ n1; omega) (fun i _ => rfl) hf hlo hd (fun H1 locs1 hP1 _ hS1 => ?_)
  have e1 : va_cpy (fun j : Nat => kL (σ k0 j)) (fun j : Nat => kL (σ k1 j)) (kI sp).toNatClampNeg (kI dp).toNatClampNeg (kI n).toNatClampNeg = fun j : Nat => kL (cp1 (σ k0) (σ k1) sp dp n j) := by
    funext j
    unfold va_cpy cp1
    by_cases q : dp ≤ (j : Int) ∧ (j : Int) < dp + n
    · rw [if_pos q, if_pos (by omega)]
      show kL (σ k0 (((kI sp).toNatClampNeg + (j - (kI dp).toNatClampNeg) : Nat) : Int)) = _
      rw [show (((kI sp).toNatClampNeg + (j - (kI dp).toNatClampNeg) : Nat) : Int) = sp + ((j : Int) - dp) from by omega]
    · rw [if_neg q, if_neg (by omega)]
  have e3 : cpy σ k0 sp k1 dp n k1 = cp1 (σ k0) (σ k1) sp dp n := if_pos rfl
  have e2 := wsO_set (g := g) (σ := σ) (σ' := cpy σ k0 sp k1 dp n) (E := .inl (g.2.2.2.1 1, n1, .inr <| .inl (va_cpy (fun j : Nat => kL (σ k0 j)) (fun j : Nat => kL (σ k1 j)) (kI sp).toNatClampNeg (kI dp).toNatClampNeg (kI n).toNatClampNeg))) hq1 (by rw [e3, e1]; rfl) (fun j hj => if_neg hj)
  have hP2 : va_P g.2.1 vwCl (wsO g (cpy σ k0 sp k1 dp n)) H1 := by
    rw [← e2]
    exact hP1
  exact kk p e s m args below meth c H1 locs1 _ C hP2 hS1 hl
def PI (P : Int → Sg → Prop) : Option Value → Sg → Prop := fun r σ' => ∃ v : Int, r = some (vi v) ∧ P v σ'
def PL (P : Int → Sg → Prop) : Option Value → Sg → Prop := fun r σ' => ∃ v : Int, r = some (vl v) ∧ P v σ'
def PV (P : Sg → Prop) : Option Value → Sg → Prop := fun r σ' => r = none ∧ P σ'
def PR (g : Gl) (k : Nat) (σ : Sg) : Option Value → Sg → Prop := fun r σ' => r = some (vr g k) ∧ σ' = σ
abbrev PE (e : Int) (σ : Sg) : Option Value → Sg → Prop := PI (fun v σ' => v = e ∧ σ' = σ)
abbrev PEL (e : Int) (σ : Sg) : Option Value → Sg → Prop := PL (fun v σ' => v = e ∧ σ' = σ)
abbrev PB (P : Prop) (σ : Sg) : Option Value → Sg → Prop := PI (fun v σ' => σ' = σ ∧ (P ∧ v = 1 ∨ ¬ P ∧ v = 0))
abbrev PBs (P : Prop) (σ : Sg) (τ : Sg) : Option Value → Sg → Prop := PI (fun v σ' => (P ∧ v = 1 ∧ σ' = σ) ∨ (¬ P ∧ v = 0 ∧ σ' = τ))
theorem Qm_of {g : Gl} {y : Mt} {Post : Option Value → Sg → Prop} {σ : Sg} {args : Array Value} {s t : State} {H : Heap} {locs : List Loc} {r : Option Value} (h : Post r σ) (hP : va_P g.2.1 vwCl (wsO g σ) H) (hS : va_S (Aw g) s.heap H locs) (ht : t.heap = H) : Qm g Post args s (.returned r) t :=
  ⟨⟨r, σ, rfl, h, by rw [ht]; exact hP⟩, hS.F ht⟩
theorem j_iret {g : Gl} {y : Mt} {Post : Option Value → Sg → Prop} {σ : Sg} {lv : List (Nat × Value)} {pc nx : Nat} {P : Int → Sg → Prop} {v : Int} (hr : y.2.2.2.1 = some .int) (hd : Dc y pc (.ireturn) 1 nx) (h : P v σ) : jv g y (Fm g (PI P)) σ lv pc [vi v] := by
  intro p e s m args below meth c H locs ls C hP hS hl
  obtain ⟨hd, rfl⟩ := hd
  exact W.iret C.1 C.2.1 (C.2.2.2.1.trans hr) (fun t ht _ => Qm_of (y := y) ⟨v, rfl, h⟩ hP hS ht) hS.2.2 hd C.2.2.2.2.2.2.1
theorem j_zret {g : Gl} {y : Mt} {Post : Option Value → Sg → Prop} {σ : Sg} {lv : List (Nat × Value)} {pc nx : Nat} {P : Int → Sg → Prop} {v : Int} (hv : v = 0 ∨ v = 1) (hr : y.2.2.2.1 = some .boolean) (hd : Dc y pc (.ireturn) 1 nx) (h : P v σ) : jv g y (Fm g (PI P)) σ lv pc [vi v] := by
  intro p e s m args below meth c H locs ls C hP hS hl
  obtain ⟨hd, rfl⟩ := hd
  exact W.zret C.1 C.2.1 (C.2.2.2.1.trans hr) (by rcases hv with rfl | rfl <;> decide) (fun t ht _ => Qm_of (y := y) ⟨v, rfl, h⟩ hP hS ht) hS.2.2 hd C.2.2.2.2.2.2.1
theorem j_lret {g : Gl} {y : Mt} {Post : Option Value → Sg → Prop} {σ : Sg} {lv : List (Nat × Value)} {pc nx : Nat} {P : Int → Sg → Prop} {v : Int} (hr : y.2.2.2.1 = some .long) (hd : Dc y pc (.lreturn) 1 nx) (h : P v σ) : jv g y (Fm g (PL P)) σ lv pc [vl v] := by
  intro p e s m args below meth c H locs ls C hP hS hl
  obtain ⟨hd, rfl⟩ := hd
  exact W.lret C.1 C.2.1 (C.2.2.2.1.trans hr) (fun t ht _ => Qm_of (y := y) ⟨v, rfl, h⟩ hP hS ht) hS.2.2 hd C.2.2.2.2.2.2.1
theorem j_vret {g : Gl} {y : Mt} {Post : Option Value → Sg → Prop} {σ : Sg} {lv : List (Nat × Value)} {pc nx : Nat} {P : Sg → Prop} (hr : y.2.2.2.1 = none) (hd : Dc y pc (.return_) 1 nx) (h : P σ) : jv g y (Fm g (PV P)) σ lv pc [] := by
  intro p e s m args below meth c H locs ls C hP hS hl
  obtain ⟨hd, rfl⟩ := hd
  exact W.vret C.1 C.2.1 (C.2.2.2.1.trans hr) (fun t ht _ => Qm_of (y := y) ⟨rfl, h⟩ hP hS ht) hS.2.2 hd C.2.2.2.2.2.2.1
theorem j_aret {g : Gl} {y : Mt} {Post : Option Value → Sg → Prop} {σ : Sg} {lv : List (Nat × Value)} {pc nx : Nat} {C0 : String} {k : Nat} (hr : y.2.2.2.1 = some (.object C0)) (hd : Dc y pc (.areturn) 1 nx) : jv g y (Fm g (PR g k σ)) σ lv pc [vr g k] := by
  intro p e s m args below meth c H locs ls C hP hS hl
  obtain ⟨hd, rfl⟩ := hd
  exact W.aret C.1 C.2.1 (C.2.2.2.1.trans hr) (Or.inl ⟨_, rfl⟩) (Or.inr ⟨_, rfl⟩) (fun t ht _ => Qm_of (y := y) ⟨rfl, rfl⟩ hP hS ht) hS.2.2 hd C.2.2.2.2.2.2.1
/-- what a callee's name must have in the tables: an instance method, a static one -/
def Zv (z : Mt) (n : Nat) : Prop := Cond.code z.1 z.2.1 z.2.2.1 z.2.2.2.1 ∈ tblG ∧ Cond.initialized z.1.cls ∈ tblG ∧ (z.1.cls ≠ "java/lang/invoke/MethodHandle" ∧ z.1.cls ≠ "java/lang/invoke/VarHandle" ∧ (parseMethodDescriptor z.1.desc).map (fun d => d.parameters.length) = some n) ∧ z.2.2.2.2.cells = 0 ∧ z.2.2.2.2.slots = 0 ∧ Cond.instanceMethod z.1 ∈ tblG ∧ Cond.selects z.1.cls z.1 z.1 ∈ tblG
def Zs (z : Mt) (n : Nat) : Prop := Cond.code z.1 z.2.1 z.2.2.1 z.2.2.2.1 ∈ tblG ∧ Cond.initialized z.1.cls ∈ tblG ∧ (z.1.cls ≠ "java/lang/invoke/MethodHandle" ∧ z.1.cls ≠ "java/lang/invoke/VarHandle" ∧ (parseMethodDescriptor z.1.desc).map (fun d => d.parameters.length) = some n) ∧ z.2.2.2.2.cells = 0 ∧ z.2.2.2.2.slots = 0 ∧ Cond.static z.1 ∈ tblG
def Rm (y z : Mt) : Prop := z.2.2.2.2.frames + 1 ≤ y.2.2.2.2.frames ∧ 8 + (z.2.2.1 + 11) + z.2.2.2.2.locals ≤ y.2.2.2.2.locals
theorem good_ws {z : Mt} (h : Cond.code z.1 z.2.1 z.2.2.1 z.2.2.2.1 ∈ tblG) : GoodIn tblG (.code z.1 z.2.1 z.2.2.1 z.2.2.2.1 :: tblG) := by
  intro w hw
  rcases List.mem_cons.mp hw with rfl | hw
  · exact ⟨h, tblG_good h⟩
  · exact ⟨hw, tblG_good hw⟩
theorem Wo_blind {g : Gl} {av : List Value} {σ : Sg} : FrameBlind (va_Pc av (Wo g σ)) := by
  intro a U fr mk q
  obtain ⟨q0, qP, qK, qG, q1, q2, q3, q4, q5, q6⟩ := q
  exact ⟨q0, qP, va_K.moved (u := U) (U := U.calling fr mk a) (Vm.Alike.refl U.vm) qK, qG, q1, q2, q3, q4, q5, q6⟩
theorem j_run {g : Gl} {Post : Option Value → Sg → Prop} {p : Program} {l : Launch} {e : Env} {R : Room} {s : State} {m : MethodId} {args : Array Value} {below : List Frame} {meth : Method} {c : Code} {H : Heap} {locs : List Loc} {cells slots : Nat} {Q : State → Prop} {pc : Nat} {ls : Array Slot} {rest st0 : List Value} {a : Array Value} {A0 : Nat → Prop}
    (hr : va_Run p l e R s m args below meth c H locs cells slots 0 0 (F0 m pc ls st0) rest (Qm g Post a) (Aw g)) (hS : va_S A0 s.heap H locs) (hA : ∀ q, Aw g q → A0 q)
    (kk : ∀ (r : Option Value) (σ' : Sg) (H1 : Heap) (locs1 : List Loc), Post r σ' → va_P g.2.1 vwCl (wsO g σ') H1 → va_S A0 s.heap H1 locs1 → W p l e R s m args below meth c H1 locs1 cells slots Q (F0 m (pc + 3) ls (r.toList ++ rest))) : W p l e R s m args below meth c H locs cells slots Q (F0 m pc ls st0) := by
  intro T hT X
  obtain ⟨v, st₀, t, T', L, h0, X', hL, e1, e2, ⟨⟨r, u, hv, hp, hb⟩, hz, hk⟩, st⟩ := hr T hT X
  cases hv
  rw [h0] at hz hk
  obtain ⟨t2, a1, b1⟩ := kk v u T'.heap (locs ++ L) hp (by rw [e1]; exact hb)
    ⟨Nat.le_trans hS.1 (by rw [e1]; exact hz), fun q h1 h2 => by rw [e1, hk q (Nat.lt_of_lt_of_le h1 hS.1) (fun z => h2 (hA q z))]; exact hS.2.1 q h1 h2, fun q hq => by
      rcases List.mem_append.mp hq with h | h
      · exact hS.2.2 q h
      · exact hA _ (hL q h)⟩ T' rfl X'
  exact ⟨t2, st t2 a1, b1⟩
theorem j_callV {g : Gl} {y z : Mt} {F : Ex} {σ : Sg} {lv : List (Nat × Value)} {pc nx ix : Nat} {st av : List Value} {Post : Option Value → Sg → Prop} {k ci : Nat} {C : String} {T : u_T} {N : Nat} {cs : List Nat} (hz : Zv z av.length) (hk : Cond.methodLink y.1.cls ix z.1 ∈ tblG) (hR : Rm y z) (hq : lay[k]? = some (0, ci :: cs)) (hc : vwCl[ci]? = some (C, T, N)) (hC : z.1.cls = C) (hM : Ct g z (vr g k :: av) σ Post) (hr : (st.map fun v => v.category).sum ≤ 8) (hd : Dc y pc (.invokevirtual ix) 3 nx) (kk : ∀ r σ', Post r σ' → jv g y F σ' lv nx (r.toList ++ st)) : jv g y F σ lv pc (av.reverse ++ vr g k :: st) := by
  obtain ⟨hd, rfl⟩ := hd
  intro p e s m args below meth c H locs ls C hP hS hl
  have hT := C.2.2.2.2.2.1
  have hA : ∀ q, Aw g q → F.1 s q := fun q ⟨k, hk, e⟩ => by rw [e]; exact C.2.2.2.2.2.2.2.2.2.2.1 k hk
  obtain ⟨z1, z2, z3, z4, z5, z6, z7⟩ := hz
  have hpre : ∀ U : State, U.heap = H → s.WarmedH U.vm → va_Pc (vr g k :: av) (Wo g σ) (vr g k :: av).toArray U := fun U hU hW => ⟨rfl, by rw [hU]; exact hP, va_K.moved hW.alike C.2.2.2.2.2.2.2.1, C.2.2.2.2.2.2.2.2.1, C.2.2.2.2.2.2.2.2.2.1.calls hS hA hU hW⟩
  refine j_run (a := (vr g k :: av).toArray) (va_runV (As := av) (rest := st) ⟨C.1, C.2.1, C.2.2.1, C.2.2.2.2.1, hT⟩ hM ⟨callB_of av.length hT (good_ws z1) rfl z4 z5 (hT _ z2) (hT _ hk) z3 hR, hT _ z6, hT _ z7⟩ ⟨Wo_blind, (by rw [hC]; exact va_recv C.2.2.2.2.2.2.2.1 hP hc (wsO_at hq)), hpre⟩ rfl rfl hl.1 rfl (lv_room hr) hd ⟨C.2.2.2.2.2.2.2.2.2.2.2.1, C.2.2.2.2.2.2.2.2.2.2.2.2⟩) hS hA (fun r σ' H1 locs1 h1 h2 h3 => ?_)
  exact kk r σ' h1 p e s m args below meth c H1 locs1 _ C h2 h3 hl
theorem j_callVN {g : Gl} {y z : Mt} {F : Ex} {σ : Sg} {lv : List (Nat × Value)} {pc nx ix : Nat} {st av : List Value} {Post : Option Value → Sg → Prop} {k ci : Nat} {C : String} {T : u_T} {N : Nat} {cs : List Nat} (hz : Zv z av.length) {host : String} (hk : (y.1.cls, ix, z.1, host) ∈ nstL) (hR : Rm y z) (hq : lay[k]? = some (0, ci :: cs)) (hc : vwCl[ci]? = some (C, T, N)) (hC : z.1.cls = C) (hM : Ct g z (vr g k :: av) σ Post) (hr : (st.map fun v => v.category).sum ≤ 8) (hd : Dc y pc (.invokevirtual ix) 3 nx) (kk : ∀ r σ', Post r σ' → jv g y F σ' lv nx (r.toList ++ st)) : jv g y F σ lv pc (av.reverse ++ vr g k :: st) := by
  obtain ⟨hd, rfl⟩ := hd
  intro p e s m args below meth c H locs ls C hP hS hl
  have hT := C.2.2.2.2.2.1
  have hA : ∀ q, Aw g q → F.1 s q := fun q ⟨k, hk, e⟩ => by rw [e]; exact C.2.2.2.2.2.2.2.2.2.2.1 k hk
  obtain ⟨z1, z2, z3, z4, z5, z6, z7⟩ := hz
  have hpre : ∀ U : State, U.heap = H → s.WarmedH U.vm → va_Pc (vr g k :: av) (Wo g σ) (vr g k :: av).toArray U := fun U hU hW => ⟨rfl, by rw [hU]; exact hP, va_K.moved hW.alike C.2.2.2.2.2.2.2.1, C.2.2.2.2.2.2.2.2.1, C.2.2.2.2.2.2.2.2.2.1.calls hS hA hU hW⟩
  refine j_run (a := (vr g k :: av).toArray) (va_runVN (As := av) (rest := st) ⟨C.1, C.2.1, C.2.2.1, C.2.2.2.2.1, hT⟩ hM ⟨va_cnB av.length hT (good_ws z1) rfl z4 z5 (C.2.2.2.2.2.2.2.2.2.1.2.2.2.2.2.1 _ hk) (hT _ z2) z3 hR, hT _ z6, hT _ z7⟩ ⟨Wo_blind, (by rw [hC]; exact va_recv C.2.2.2.2.2.2.2.1 hP hc (wsO_at hq)), hpre⟩ rfl rfl hl.1 rfl (lv_room hr) hd ⟨C.2.2.2.2.2.2.2.2.2.2.2.1, C.2.2.2.2.2.2.2.2.2.2.2.2⟩) hS hA (fun r σ' H1 locs1 h1 h2 h3 => ?_)
  exact kk r σ' h1 p e s m args below meth c H1 locs1 _ C h2 h3 hl
theorem j_callS {g : Gl} {y z : Mt} {F : Ex} {σ : Sg} {lv : List (Nat × Value)} {pc nx ix : Nat} {st av : List Value} {Post : Option Value → Sg → Prop} (hz : Zs z av.length) (hk : Cond.methodLink y.1.cls ix z.1 ∈ tblG) (hR : Rm y z) (hM : Ct g z av σ Post) (hr : (st.map fun v => v.category).sum ≤ 8) (hd : Dc y pc (.invokestatic ix) 3 nx) (kk : ∀ r σ', Post r σ' → jv g y F σ' lv nx (r.toList ++ st)) : jv g y F σ lv pc (av.reverse ++ st) := by
  obtain ⟨hd, rfl⟩ := hd
  intro p e s m args below meth c H locs ls C hP hS hl
  have hT := C.2.2.2.2.2.1
  have hA : ∀ q, Aw g q → F.1 s q := fun q ⟨k, hk, e⟩ => by rw [e]; exact C.2.2.2.2.2.2.2.2.2.2.1 k hk
  obtain ⟨z1, z2, z3, z4, z5, z6⟩ := hz
  have hpre : ∀ U : State, U.heap = H → s.WarmedH U.vm → va_Pc av (Wo g σ) av.toArray U := fun U hU hW => ⟨rfl, by rw [hU]; exact hP, va_K.moved hW.alike C.2.2.2.2.2.2.2.1, C.2.2.2.2.2.2.2.2.1, C.2.2.2.2.2.2.2.2.2.1.calls hS hA hU hW⟩
  refine j_run (a := av.toArray) (va_runS (As := av) (rest := st) ⟨C.1, C.2.1, C.2.2.1, C.2.2.2.2.1, hT⟩ hM ⟨callB_of av.length hT (good_ws z1) rfl z4 z5 (hT _ z2) (hT _ hk) z3 hR, hT _ z6⟩ ⟨Wo_blind, hpre⟩ rfl rfl hl.1 rfl (lv_room hr) hd ⟨C.2.2.2.2.2.2.2.2.2.2.2.1, C.2.2.2.2.2.2.2.2.2.2.2.2⟩) hS hA (fun r σ' H1 locs1 h1 h2 h3 => ?_)
  exact kk r σ' h1 p e s m args below meth c H1 locs1 _ C h2 h3 hl
theorem j_callSN {g : Gl} {y z : Mt} {F : Ex} {σ : Sg} {lv : List (Nat × Value)} {pc nx ix : Nat} {st av : List Value} {Post : Option Value → Sg → Prop} (hz : Zs z av.length) {host : String} (hk : (y.1.cls, ix, z.1, host) ∈ nstL) (hR : Rm y z) (hM : Ct g z av σ Post) (hr : (st.map fun v => v.category).sum ≤ 8) (hd : Dc y pc (.invokestatic ix) 3 nx) (kk : ∀ r σ', Post r σ' → jv g y F σ' lv nx (r.toList ++ st)) : jv g y F σ lv pc (av.reverse ++ st) := by
  obtain ⟨hd, rfl⟩ := hd
  intro p e s m args below meth c H locs ls C hP hS hl
  have hT := C.2.2.2.2.2.1
  have hA : ∀ q, Aw g q → F.1 s q := fun q ⟨k, hk, e⟩ => by rw [e]; exact C.2.2.2.2.2.2.2.2.2.2.1 k hk
  obtain ⟨z1, z2, z3, z4, z5, z6⟩ := hz
  have hpre : ∀ U : State, U.heap = H → s.WarmedH U.vm → va_Pc av (Wo g σ) av.toArray U := fun U hU hW => ⟨rfl, by rw [hU]; exact hP, va_K.moved hW.alike C.2.2.2.2.2.2.2.1, C.2.2.2.2.2.2.2.2.1, C.2.2.2.2.2.2.2.2.2.1.calls hS hA hU hW⟩
  refine j_run (a := av.toArray) (va_runSN (As := av) (rest := st) ⟨C.1, C.2.1, C.2.2.1, C.2.2.2.2.1, hT⟩ hM ⟨va_cnB av.length hT (good_ws z1) rfl z4 z5 (C.2.2.2.2.2.2.2.2.2.1.2.2.2.2.2.1 _ hk) (hT _ z2) z3 hR, hT _ z6, trivial⟩ ⟨Wo_blind, hpre⟩ rfl rfl hl.1 rfl (lv_room hr) hd ⟨C.2.2.2.2.2.2.2.2.2.2.2.1, C.2.2.2.2.2.2.2.2.2.2.2.2⟩) hS hA (fun r σ' H1 locs1 h1 h2 h3 => ?_)
  exact kk r σ' h1 p e s m args below meth c H1 locs1 _ C h2 h3 hl
theorem k_I {g : Gl} {y : Mt} {F : Ex} {lv : List (Nat × Value)} {nx : Nat} {st : List Value} {P : Int → Sg → Prop} (kk : ∀ v σ', P v σ' → jv g y F σ' lv nx (vi v :: st)) : ∀ r σ', PI P r σ' → jv g y F σ' lv nx (r.toList ++ st) := by
  rintro r σ' ⟨v, rfl, h⟩
  exact kk v σ' h
theorem k_L {g : Gl} {y : Mt} {F : Ex} {lv : List (Nat × Value)} {nx : Nat} {st : List Value} {P : Int → Sg → Prop} (kk : ∀ v σ', P v σ' → jv g y F σ' lv nx (vl v :: st)) : ∀ r σ', PL P r σ' → jv g y F σ' lv nx (r.toList ++ st) := by
  rintro r σ' ⟨v, rfl, h⟩
  exact kk v σ' h
theorem k_E {g : Gl} {y : Mt} {F : Ex} {lv : List (Nat × Value)} {nx : Nat} {st : List Value} {e : Int} {σ : Sg} (kk : jv g y F σ lv nx (vi e :: st)) : ∀ r σ', PE e σ r σ' → jv g y F σ' lv nx (r.toList ++ st) := by
  rintro r σ' ⟨v, rfl, rfl, rfl⟩
  exact kk
theorem k_EL {g : Gl} {y : Mt} {F : Ex} {lv : List (Nat × Value)} {nx : Nat} {st : List Value} {e : Int} {σ : Sg} (kk : jv g y F σ lv nx (vl e :: st)) : ∀ r σ', PEL e σ r σ' → jv g y F σ' lv nx (r.toList ++ st) := by
  rintro r σ' ⟨v, rfl, rfl, rfl⟩
  exact kk
theorem k_B {g : Gl} {y : Mt} {F : Ex} {lv : List (Nat × Value)} {nx : Nat} {st : List Value} {P : Prop} {σ : Sg} (kt : P → jv g y F σ lv nx (vi 1 :: st)) (kf : ¬ P → jv g y F σ lv nx (vi 0 :: st)) : ∀ r σ', PB P σ r σ' → jv g y F σ' lv nx (r.toList ++ st) := by
  rintro r σ' ⟨v, rfl, rfl, ⟨h, rfl⟩ | ⟨h, rfl⟩⟩
  · exact kt h
  · exact kf h
theorem k_V {g : Gl} {y : Mt} {F : Ex} {lv : List (Nat × Value)} {nx : Nat} {st : List Value} {P : Sg → Prop} (kk : ∀ σ', P σ' → jv g y F σ' lv nx st) : ∀ r σ', PV P r σ' → jv g y F σ' lv nx (r.toList ++ st) := by
  rintro r σ' ⟨rfl, h⟩
  exact kk σ' h
theorem k_VE {g : Gl} {y : Mt} {F : Ex} {lv : List (Nat × Value)} {nx : Nat} {st : List Value} {τ : Sg} (kk : jv g y F τ lv nx st) : ∀ r σ', PV (fun σ' => σ' = τ) r σ' → jv g y F σ' lv nx (r.toList ++ st) := by
  rintro r σ' ⟨rfl, rfl⟩
  exact kk
theorem k_R {g : Gl} {y : Mt} {F : Ex} {lv : List (Nat × Value)} {nx : Nat} {st : List Value} {k : Nat} {σ : Sg} (kk : jv g y F σ lv nx (vr g k :: st)) : ∀ r σ', PR g k σ r σ' → jv g y F σ' lv nx (r.toList ++ st) := by
  rintro r σ' ⟨rfl, rfl⟩
  exact kk
theorem PB_t {P : Prop} {σ : Sg} (h : P) : (fun v σ' => σ' = σ ∧ (P ∧ v = 1 ∨ ¬ P ∧ v = 0)) (1 : Int) σ := ⟨rfl, Or.inl ⟨h, rfl⟩⟩
theorem PB_f {P : Prop} {σ : Sg} (h : ¬ P) : (fun v σ' => σ' = σ ∧ (P ∧ v = 1 ∨ ¬ P ∧ v = 0)) (0 : Int) σ := ⟨rfl, Or.inr ⟨h, rfl⟩⟩
theorem j_cV0 {g : Gl} {y z : Mt} {F : Ex} {σ : Sg} {lv : List (Nat × Value)} {pc nx ix : Nat} {st : List Value} {Post : Option Value → Sg → Prop} {k ci : Nat} {C : String} {T : u_T} {N : Nat} {cs : List Nat} (hz : Zv z 0) (hk : Cond.methodLink y.1.cls ix z.1 ∈ tblG) (hR : Rm y z) (hq : lay[k]? = some (0, ci :: cs)) (hc : vwCl[ci]? = some (C, T, N)) (hC : z.1.cls = C) (hM : Ct g z (vr g k :: []) σ Post) (hr : (st.map fun v => v.category).sum ≤ 8) (hd : Dc y pc (.invokevirtual ix) 3 nx) (kk : ∀ r σ', Post r σ' → jv g y F σ' lv nx (r.toList ++ st)) : jv g y F σ lv pc (vr g k :: st) := j_callV (av := []) hz hk hR hq hc hC hM hr hd kk
theorem j_cV1 {g : Gl} {y z : Mt} {F : Ex} {σ : Sg} {lv : List (Nat × Value)} {pc nx ix : Nat} {st : List Value} {Post : Option Value → Sg → Prop} {a1 : Value} {k ci : Nat} {C : String} {T : u_T} {N : Nat} {cs : List Nat} (hz : Zv z 1) (hk : Cond.methodLink y.1.cls ix z.1 ∈ tblG) (hR : Rm y z) (hq : lay[k]? = some (0, ci :: cs)) (hc : vwCl[ci]? = some (C, T, N)) (hC : z.1.cls = C) (hM : Ct g z (vr g k :: [a1]) σ Post) (hr : (st.map fun v => v.category).sum ≤ 8) (hd : Dc y pc (.invokevirtual ix) 3 nx) (kk : ∀ r σ', Post r σ' → jv g y F σ' lv nx (r.toList ++ st)) : jv g y F σ lv pc (a1 :: vr g k :: st) := j_callV (av := [a1]) hz hk hR hq hc hC hM hr hd kk
theorem j_cV2 {g : Gl} {y z : Mt} {F : Ex} {σ : Sg} {lv : List (Nat × Value)} {pc nx ix : Nat} {st : List Value} {Post : Option Value → Sg → Prop} {a1 a2 : Value} {k ci : Nat} {C : String} {T : u_T} {N : Nat} {cs : List Nat} (hz : Zv z 2) (hk : Cond.methodLink y.1.cls ix z.1 ∈ tblG) (hR : Rm y z) (hq : lay[k]? = some (0, ci :: cs)) (hc : vwCl[ci]? = some (C, T, N)) (hC : z.1.cls = C) (hM : Ct g z (vr g k :: [a1, a2]) σ Post) (hr : (st.map fun v => v.category).sum ≤ 8) (hd : Dc y pc (.invokevirtual ix) 3 nx) (kk : ∀ r σ', Post r σ' → jv g y F σ' lv nx (r.toList ++ st)) : jv g y F σ lv pc (a2 :: a1 :: vr g k :: st) := j_callV (av := [a1, a2]) hz hk hR hq hc hC hM hr hd kk
theorem j_cV3 {g : Gl} {y z : Mt} {F : Ex} {σ : Sg} {lv : List (Nat × Value)} {pc nx ix : Nat} {st : List Value} {Post : Option Value → Sg → Prop} {a1 a2 a3 : Value} {k ci : Nat} {C : String} {T : u_T} {N : Nat} {cs : List Nat} (hz : Zv z 3) (hk : Cond.methodLink y.1.cls ix z.1 ∈ tblG) (hR : Rm y z) (hq : lay[k]? = some (0, ci :: cs)) (hc : vwCl[ci]? = some (C, T, N)) (hC : z.1.cls = C) (hM : Ct g z (vr g k :: [a1, a2, a3]) σ Post) (hr : (st.map fun v => v.category).sum ≤ 8) (hd : Dc y pc (.invokevirtual ix) 3 nx) (kk : ∀ r σ', Post r σ' → jv g y F σ' lv nx (r.toList ++ st)) : jv g y F σ lv pc (a3 :: a2 :: a1 :: vr g k :: st) := j_callV (av := [a1, a2, a3]) hz hk hR hq hc hC hM hr hd kk
theorem j_cV4 {g : Gl} {y z : Mt} {F : Ex} {σ : Sg} {lv : List (Nat × Value)} {pc nx ix : Nat} {st : List Value} {Post : Option Value → Sg → Prop} {a1 a2 a3 a4 : Value} {k ci : Nat} {C : String} {T : u_T} {N : Nat} {cs : List Nat} (hz : Zv z 4) (hk : Cond.methodLink y.1.cls ix z.1 ∈ tblG) (hR : Rm y z) (hq : lay[k]? = some (0, ci :: cs)) (hc : vwCl[ci]? = some (C, T, N)) (hC : z.1.cls = C) (hM : Ct g z (vr g k :: [a1, a2, a3, a4]) σ Post) (hr : (st.map fun v => v.category).sum ≤ 8) (hd : Dc y pc (.invokevirtual ix) 3 nx) (kk : ∀ r σ', Post r σ' → jv g y F σ' lv nx (r.toList ++ st)) : jv g y F σ lv pc (a4 :: a3 :: a2 :: a1 :: vr g k :: st) := j_callV (av := [a1, a2, a3, a4]) hz hk hR hq hc hC hM hr hd kk
theorem j_cV5 {g : Gl} {y z : Mt} {F : Ex} {σ : Sg} {lv : List (Nat × Value)} {pc nx ix : Nat} {st : List Value} {Post : Option Value → Sg → Prop} {a1 a2 a3 a4 a5 : Value} {k ci : Nat} {C : String} {T : u_T} {N : Nat} {cs : List Nat} (hz : Zv z 5) (hk : Cond.methodLink y.1.cls ix z.1 ∈ tblG) (hR : Rm y z) (hq : lay[k]? = some (0, ci :: cs)) (hc : vwCl[ci]? = some (C, T, N)) (hC : z.1.cls = C) (hM : Ct g z (vr g k :: [a1, a2, a3, a4, a5]) σ Post) (hr : (st.map fun v => v.category).sum ≤ 8) (hd : Dc y pc (.invokevirtual ix) 3 nx) (kk : ∀ r σ', Post r σ' → jv g y F σ' lv nx (r.toList ++ st)) : jv g y F σ lv pc (a5 :: a4 :: a3 :: a2 :: a1 :: vr g k :: st) := j_callV (av := [a1, a2, a3, a4, a5]) hz hk hR hq hc hC hM hr hd kk
theorem j_cVN0 {g : Gl} {y z : Mt} {F : Ex} {σ : Sg} {lv : List (Nat × Value)} {pc nx ix : Nat} {st : List Value} {Post : Option Value → Sg → Prop} {k ci : Nat} {C : String} {T : u_T} {N : Nat} {cs : List Nat} (hz : Zv z 0) {host : String} (hk : (y.1.cls, ix, z.1, host) ∈ nstL) (hR : Rm y z) (hq : lay[k]? = some (0, ci :: cs)) (hc : vwCl[ci]? = some (C, T, N)) (hC : z.1.cls = C) (hM : Ct g z (vr g k :: []) σ Post) (hr : (st.map fun v => v.category).sum ≤ 8) (hd : Dc y pc (.invokevirtual ix) 3 nx) (kk : ∀ r σ', Post r σ' → jv g y F σ' lv nx (r.toList ++ st)) : jv g y F σ lv pc (vr g k :: st) := j_callVN (av := []) hz hk hR hq hc hC hM hr hd kk
theorem j_cVN1 {g : Gl} {y z : Mt} {F : Ex} {σ : Sg} {lv : List (Nat × Value)} {pc nx ix : Nat} {st : List Value} {Post : Option Value → Sg → Prop} {a1 : Value} {k ci : Nat} {C : String} {T : u_T} {N : Nat} {cs : List Nat} (hz : Zv z 1) {host : String} (hk : (y.1.cls, ix, z.1, host) ∈ nstL) (hR : Rm y z) (hq : lay[k]? = some (0, ci :: cs)) (hc : vwCl[ci]? = some (C, T, N)) (hC : z.1.cls = C) (hM : Ct g z (vr g k :: [a1]) σ Post) (hr : (st.map fun v => v.category).sum ≤ 8) (hd : Dc y pc (.invokevirtual ix) 3 nx) (kk : ∀ r σ', Post r σ' → jv g y F σ' lv nx (r.toList ++ st)) : jv g y F σ lv pc (a1 :: vr g k :: st) := j_callVN (av := [a1]) hz hk hR hq hc hC hM hr hd kk
theorem j_cVN2 {g : Gl} {y z : Mt} {F : Ex} {σ : Sg} {lv : List (Nat × Value)} {pc nx ix : Nat} {st : List Value} {Post : Option Value → Sg → Prop} {a1 a2 : Value} {k ci : Nat} {C : String} {T : u_T} {N : Nat} {cs : List Nat} (hz : Zv z 2) {host : String} (hk : (y.1.cls, ix, z.1, host) ∈ nstL) (hR : Rm y z) (hq : lay[k]? = some (0, ci :: cs)) (hc : vwCl[ci]? = some (C, T, N)) (hC : z.1.cls = C) (hM : Ct g z (vr g k :: [a1, a2]) σ Post) (hr : (st.map fun v => v.category).sum ≤ 8) (hd : Dc y pc (.invokevirtual ix) 3 nx) (kk : ∀ r σ', Post r σ' → jv g y F σ' lv nx (r.toList ++ st)) : jv g y F σ lv pc (a2 :: a1 :: vr g k :: st) := j_callVN (av := [a1, a2]) hz hk hR hq hc hC hM hr hd kk
theorem j_cVN3 {g : Gl} {y z : Mt} {F : Ex} {σ : Sg} {lv : List (Nat × Value)} {pc nx ix : Nat} {st : List Value} {Post : Option Value → Sg → Prop} {a1 a2 a3 : Value} {k ci : Nat} {C : String} {T : u_T} {N : Nat} {cs : List Nat} (hz : Zv z 3) {host : String} (hk : (y.1.cls, ix, z.1, host) ∈ nstL) (hR : Rm y z) (hq : lay[k]? = some (0, ci :: cs)) (hc : vwCl[ci]? = some (C, T, N)) (hC : z.1.cls = C) (hM : Ct g z (vr g k :: [a1, a2, a3]) σ Post) (hr : (st.map fun v => v.category).sum ≤ 8) (hd : Dc y pc (.invokevirtual ix) 3 nx) (kk : ∀ r σ', Post r σ' → jv g y F σ' lv nx (r.toList ++ st)) : jv g y F σ lv pc (a3 :: a2 :: a1 :: vr g k :: st) := j_callVN (av := [a1, a2, a3]) hz hk hR hq hc hC hM hr hd kk
theorem j_cVN4 {g : Gl} {y z : Mt} {F : Ex} {σ : Sg} {lv : List (Nat × Value)} {pc nx ix : Nat} {st : List Value} {Post : Option Value → Sg → Prop} {a1 a2 a3 a4 : Value} {k ci : Nat} {C : String} {T : u_T} {N : Nat} {cs : List Nat} (hz : Zv z 4) {host : String} (hk : (y.1.cls, ix, z.1, host) ∈ nstL) (hR : Rm y z) (hq : lay[k]? = some (0, ci :: cs)) (hc : vwCl[ci]? = some (C, T, N)) (hC : z.1.cls = C) (hM : Ct g z (vr g k :: [a1, a2, a3, a4]) σ Post) (hr : (st.map fun v => v.category).sum ≤ 8) (hd : Dc y pc (.invokevirtual ix) 3 nx) (kk : ∀ r σ', Post r σ' → jv g y F σ' lv nx (r.toList ++ st)) : jv g y F σ lv pc (a4 :: a3 :: a2 :: a1 :: vr g k :: st) := j_callVN (av := [a1, a2, a3, a4]) hz hk hR hq hc hC hM hr hd kk
theorem j_cVN5 {g : Gl} {y z : Mt} {F : Ex} {σ : Sg} {lv : List (Nat × Value)} {pc nx ix : Nat} {st : List Value} {Post : Option Value → Sg → Prop} {a1 a2 a3 a4 a5 : Value} {k ci : Nat} {C : String} {T : u_T} {N : Nat} {cs : List Nat} (hz : Zv z 5) {host : String} (hk : (y.1.cls, ix, z.1, host) ∈ nstL) (hR : Rm y z) (hq : lay[k]? = some (0, ci :: cs)) (hc : vwCl[ci]? = some (C, T, N)) (hC : z.1.cls = C) (hM : Ct g z (vr g k :: [a1, a2, a3, a4, a5]) σ Post) (hr : (st.map fun v => v.category).sum ≤ 8) (hd : Dc y pc (.invokevirtual ix) 3 nx) (kk : ∀ r σ', Post r σ' → jv g y F σ' lv nx (r.toList ++ st)) : jv g y F σ lv pc (a5 :: a4 :: a3 :: a2 :: a1 :: vr g k :: st) := j_callVN (av := [a1, a2, a3, a4, a5]) hz hk hR hq hc hC hM hr hd kk
theorem j_cS0 {g : Gl} {y z : Mt} {F : Ex} {σ : Sg} {lv : List (Nat × Value)} {pc nx ix : Nat} {st : List Value} {Post : Option Value → Sg → Prop} (hz : Zs z 0) (hk : Cond.methodLink y.1.cls ix z.1 ∈ tblG) (hR : Rm y z) (hM : Ct g z [] σ Post) (hr : (st.map fun v => v.category).sum ≤ 8) (hd : Dc y pc (.invokestatic ix) 3 nx) (kk : ∀ r σ', Post r σ' → jv g y F σ' lv nx (r.toList ++ st)) : jv g y F σ lv pc (st) := j_callS (av := []) hz hk hR hM hr hd kk
theorem j_cS1 {g : Gl} {y z : Mt} {F : Ex} {σ : Sg} {lv : List (Nat × Value)} {pc nx ix : Nat} {st : List Value} {Post : Option Value → Sg → Prop} {a1 : Value} (hz : Zs z 1) (hk : Cond.methodLink y.1.cls ix z.1 ∈ tblG) (hR : Rm y z) (hM : Ct g z [a1] σ Post) (hr : (st.map fun v => v.category).sum ≤ 8) (hd : Dc y pc (.invokestatic ix) 3 nx) (kk : ∀ r σ', Post r σ' → jv g y F σ' lv nx (r.toList ++ st)) : jv g y F σ lv pc (a1 :: st) := j_callS (av := [a1]) hz hk hR hM hr hd kk
theorem j_cS2 {g : Gl} {y z : Mt} {F : Ex} {σ : Sg} {lv : List (Nat × Value)} {pc nx ix : Nat} {st : List Value} {Post : Option Value → Sg → Prop} {a1 a2 : Value} (hz : Zs z 2) (hk : Cond.methodLink y.1.cls ix z.1 ∈ tblG) (hR : Rm y z) (hM : Ct g z [a1, a2] σ Post) (hr : (st.map fun v => v.category).sum ≤ 8) (hd : Dc y pc (.invokestatic ix) 3 nx) (kk : ∀ r σ', Post r σ' → jv g y F σ' lv nx (r.toList ++ st)) : jv g y F σ lv pc (a2 :: a1 :: st) := j_callS (av := [a1, a2]) hz hk hR hM hr hd kk
theorem j_cS3 {g : Gl} {y z : Mt} {F : Ex} {σ : Sg} {lv : List (Nat × Value)} {pc nx ix : Nat} {st : List Value} {Post : Option Value → Sg → Prop} {a1 a2 a3 : Value} (hz : Zs z 3) (hk : Cond.methodLink y.1.cls ix z.1 ∈ tblG) (hR : Rm y z) (hM : Ct g z [a1, a2, a3] σ Post) (hr : (st.map fun v => v.category).sum ≤ 8) (hd : Dc y pc (.invokestatic ix) 3 nx) (kk : ∀ r σ', Post r σ' → jv g y F σ' lv nx (r.toList ++ st)) : jv g y F σ lv pc (a3 :: a2 :: a1 :: st) := j_callS (av := [a1, a2, a3]) hz hk hR hM hr hd kk
theorem j_cS4 {g : Gl} {y z : Mt} {F : Ex} {σ : Sg} {lv : List (Nat × Value)} {pc nx ix : Nat} {st : List Value} {Post : Option Value → Sg → Prop} {a1 a2 a3 a4 : Value} (hz : Zs z 4) (hk : Cond.methodLink y.1.cls ix z.1 ∈ tblG) (hR : Rm y z) (hM : Ct g z [a1, a2, a3, a4] σ Post) (hr : (st.map fun v => v.category).sum ≤ 8) (hd : Dc y pc (.invokestatic ix) 3 nx) (kk : ∀ r σ', Post r σ' → jv g y F σ' lv nx (r.toList ++ st)) : jv g y F σ lv pc (a4 :: a3 :: a2 :: a1 :: st) := j_callS (av := [a1, a2, a3, a4]) hz hk hR hM hr hd kk
theorem j_cS5 {g : Gl} {y z : Mt} {F : Ex} {σ : Sg} {lv : List (Nat × Value)} {pc nx ix : Nat} {st : List Value} {Post : Option Value → Sg → Prop} {a1 a2 a3 a4 a5 : Value} (hz : Zs z 5) (hk : Cond.methodLink y.1.cls ix z.1 ∈ tblG) (hR : Rm y z) (hM : Ct g z [a1, a2, a3, a4, a5] σ Post) (hr : (st.map fun v => v.category).sum ≤ 8) (hd : Dc y pc (.invokestatic ix) 3 nx) (kk : ∀ r σ', Post r σ' → jv g y F σ' lv nx (r.toList ++ st)) : jv g y F σ lv pc (a5 :: a4 :: a3 :: a2 :: a1 :: st) := j_callS (av := [a1, a2, a3, a4, a5]) hz hk hR hM hr hd kk
theorem j_cSN0 {g : Gl} {y z : Mt} {F : Ex} {σ : Sg} {lv : List (Nat × Value)} {pc nx ix : Nat} {st : List Value} {Post : Option Value → Sg → Prop} (hz : Zs z 0) {host : String} (hk : (y.1.cls, ix, z.1, host) ∈ nstL) (hR : Rm y z) (hM : Ct g z [] σ Post) (hr : (st.map fun v => v.category).sum ≤ 8) (hd : Dc y pc (.invokestatic ix) 3 nx) (kk : ∀ r σ', Post r σ' → jv g y F σ' lv nx (r.toList ++ st)) : jv g y F σ lv pc (st) := j_callSN (av := []) hz hk hR hM hr hd kk
theorem j_cSN1 {g : Gl} {y z : Mt} {F : Ex} {σ : Sg} {lv : List (Nat × Value)} {pc nx ix : Nat} {st : List Value} {Post : Option Value → Sg → Prop} {a1 : Value} (hz : Zs z 1) {host : String} (hk : (y.1.cls, ix, z.1, host) ∈ nstL) (hR : Rm y z) (hM : Ct g z [a1] σ Post) (hr : (st.map fun v => v.category).sum ≤ 8) (hd : Dc y pc (.invokestatic ix) 3 nx) (kk : ∀ r σ', Post r σ' → jv g y F σ' lv nx (r.toList ++ st)) : jv g y F σ lv pc (a1 :: st) := j_callSN (av := [a1]) hz hk hR hM hr hd kk
theorem j_cSN2 {g : Gl} {y z : Mt} {F : Ex} {σ : Sg} {lv : List (Nat × Value)} {pc nx ix : Nat} {st : List Value} {Post : Option Value → Sg → Prop} {a1 a2 : Value} (hz : Zs z 2) {host : String} (hk : (y.1.cls, ix, z.1, host) ∈ nstL) (hR : Rm y z) (hM : Ct g z [a1, a2] σ Post) (hr : (st.map fun v => v.category).sum ≤ 8) (hd : Dc y pc (.invokestatic ix) 3 nx) (kk : ∀ r σ', Post r σ' → jv g y F σ' lv nx (r.toList ++ st)) : jv g y F σ lv pc (a2 :: a1 :: st) := j_callSN (av := [a1, a2]) hz hk hR hM hr hd kk
theorem j_cSN3 {g : Gl} {y z : Mt} {F : Ex} {σ : Sg} {lv : List (Nat × Value)} {pc nx ix : Nat} {st : List Value} {Post : Option Value → Sg → Prop} {a1 a2 a3 : Value} (hz : Zs z 3) {host : String} (hk : (y.1.cls, ix, z.1, host) ∈ nstL) (hR : Rm y z) (hM : Ct g z [a1, a2, a3] σ Post) (hr : (st.map fun v => v.category).sum ≤ 8) (hd : Dc y pc (.invokestatic ix) 3 nx) (kk : ∀ r σ', Post r σ' → jv g y F σ' lv nx (r.toList ++ st)) : jv g y F σ lv pc (a3 :: a2 :: a1 :: st) := j_callSN (av := [a1, a2, a3]) hz hk hR hM hr hd kk
theorem j_cSN4 {g : Gl} {y z : Mt} {F : Ex} {σ : Sg} {lv : List (Nat × Value)} {pc nx ix : Nat} {st : List Value} {Post : Option Value → Sg → Prop} {a1 a2 a3 a4 : Value} (hz : Zs z 4) {host : String} (hk : (y.1.cls, ix, z.1, host) ∈ nstL) (hR : Rm y z) (hM : Ct g z [a1, a2, a3, a4] σ Post) (hr : (st.map fun v => v.category).sum ≤ 8) (hd : Dc y pc (.invokestatic ix) 3 nx) (kk : ∀ r σ', Post r σ' → jv g y F σ' lv nx (r.toList ++ st)) : jv g y F σ lv pc (a4 :: a3 :: a2 :: a1 :: st) := j_callSN (av := [a1, a2, a3, a4]) hz hk hR hM hr hd kk
theorem j_cSN5 {g : Gl} {y z : Mt} {F : Ex} {σ : Sg} {lv : List (Nat × Value)} {pc nx ix : Nat} {st : List Value} {Post : Option Value → Sg → Prop} {a1 a2 a3 a4 a5 : Value} (hz : Zs z 5) {host : String} (hk : (y.1.cls, ix, z.1, host) ∈ nstL) (hR : Rm y z) (hM : Ct g z [a1, a2, a3, a4, a5] σ Post) (hr : (st.map fun v => v.category).sum ≤ 8) (hd : Dc y pc (.invokestatic ix) 3 nx) (kk : ∀ r σ', Post r σ' → jv g y F σ' lv nx (r.toList ++ st)) : jv g y F σ lv pc (a5 :: a4 :: a3 :: a2 :: a1 :: st) := j_callSN (av := [a1, a2, a3, a4, a5]) hz hk hR hM hr hd kk
end
